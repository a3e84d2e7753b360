/-! printed by gen.py: model2 -/
abbrev wcX9_isInt (cI cJ cZ cG : ClassId) : va_W := []
theorem mX9_isInt_0 : (Cond.constantLong RX9 128 (-2147483648)) ∈ wsX9_isInt := by decide +kernel
theorem mX9_isInt_1 : (Cond.constantLong RX9 130 (2147483647)) ∈ wsX9_isInt := by decide +kernel
abbrev rmX9_isInt : Room := { frames := 0, cells := 0, slots := 0, locals := 0 }
set_option maxHeartbeats 4000000 in
set_option maxRecDepth 100000 in
theorem kX9_isInt_21 {p : Program} {l : Launch} {e : Env} {s : State} {m : MethodId} {args : Array Value} {below : List Frame} {meth : Method} {c : Code} {dC : Nat → ClassId} {dI : Nat → Nat → Nat} {A : Nat → Prop} {cI cJ cZ cG : ClassId} {r0 : Int32} (C0 : wCX p s args m meth c cX9_isInt 2 (some .boolean) RX9 wsX9_isInt) (hA : ∀ q, s.heap.size ≤ q → A q) (hK : va_K (dC, dI) vwCl (tysW cI cJ cZ cG) s) : ∀ (s0 : Int32) (hz_s0 : wB s0) (H : Heap) (locs : List Loc) (ls : Array Slot), fX9_isInt_b21 s0 = some r0 → va_P (dC, dI) vwCl (wcX9_isInt cI cJ cZ cG ) H → va_D A (wcX9_isInt cI cJ cZ cG ) → va_S A s.heap H locs → lv_has ls 2 [] → W p l e rmX9_isInt s m args below meth c H locs 0 0 (MQ below (wQz r0 (wcX9_isInt cI cJ cZ cG ) (dC, dI) A) args s 0 0 A) (F0 m 21 ls [.int s0]) := by
  obtain ⟨hx, hb, hr, hml, hown, hts, hlocks⟩ := id C0
  intro s0 hz_s0 H locs ls hf hP hD hS hl
  unfold fX9_isInt_b21 at hf
  have hf : some s0 = some r0 := hf
  cases hf
  exact w_zret hx hb hr hlocks rfl hz_s0 hP hD hS dX9_isInt_21
set_option maxHeartbeats 4000000 in
set_option maxRecDepth 100000 in
theorem kX9_isInt_20 {p : Program} {l : Launch} {e : Env} {s : State} {m : MethodId} {args : Array Value} {below : List Frame} {meth : Method} {c : Code} {dC : Nat → ClassId} {dI : Nat → Nat → Nat} {A : Nat → Prop} {cI cJ cZ cG : ClassId} {r0 : Int32} (C0 : wCX p s args m meth c cX9_isInt 2 (some .boolean) RX9 wsX9_isInt) (hA : ∀ q, s.heap.size ≤ q → A q) (hK : va_K (dC, dI) vwCl (tysW cI cJ cZ cG) s) : ∀ (H : Heap) (locs : List Loc) (ls : Array Slot), fX9_isInt_b20 = some r0 → va_P (dC, dI) vwCl (wcX9_isInt cI cJ cZ cG ) H → va_D A (wcX9_isInt cI cJ cZ cG ) → va_S A s.heap H locs → lv_has ls 2 [] → W p l e rmX9_isInt s m args below meth c H locs 0 0 (MQ below (wQz r0 (wcX9_isInt cI cJ cZ cG ) (dC, dI) A) args s 0 0 A) (F0 m 20 ls []) := by
  obtain ⟨hx, hb, hr, hml, hown, hts, hlocks⟩ := id C0
  intro H locs ls hf hP hD hS hl
  unfold fX9_isInt_b20 at hf
  refine lv_iconst (v := 0) hx hb dX9_isInt_20 (by decide) ?_
  have hf : fX9_isInt_b21 0 = some r0 := hf
  exact kX9_isInt_21 C0 hA hK 0 (Or.inl rfl) _ _ _ hf hP hD hS (lv_sub hl [] rfl)
set_option maxHeartbeats 4000000 in
set_option maxRecDepth 100000 in
theorem oX9_isInt (l : Launch) (dC : Nat → ClassId) (dI : Nat → Nat → Nat) (cI cJ cZ cG : ClassId) (sz : Nat) (p1 : Int64) (r0 : Int32) (hf : fX9_isInt p1 = some r0) : Met l yX9_isInt wsX9_isInt rmX9_isInt (wPc [.long p1] (dC, dI) (tysW cI cJ cZ cG) sz (wcX9_isInt cI cJ cZ cG )) (wQz r0 (wcX9_isInt cI cJ cZ cG ) (dC, dI) (va_A (wcX9_isInt cI cJ cZ cG ) sz)) 0 0 (va_A (wcX9_isInt cI cJ cZ cG ) sz) := by
  refine Met.ofW (cc := cX9_isInt) (maxL := 2) (ret := (some .boolean)) (by decide) rfl ?_
  intro p e s m args below meth c s₁ B hml hv
  obtain ⟨rfl, hsz, hP, hK, hD0⟩ := hv
  have hx := B.exec
  have hb := B.bytes
  have hr := B.returns
  have hts := atoms_spec (ws := wsX9_isInt) B.pre
  have hown : s.vm.findClass RX9 = some m.cls := findClass_of_methodNamed B.named
  have hlocks := B.notSynchronized
  subst hsz
  have hD := hD0.self (sz := s.heap.size)
  generalize hAe : va_A (wcX9_isInt cI cJ cZ cG ) s.heap.size = A at hD ⊢
  have hA : ∀ q : Nat, s.heap.size ≤ q → A q := fun q h => by rw [← hAe]; exact Or.inr h
  have hS : va_S A s.heap s.heap [] := va_S.rf
  have hP : va_P (dC, dI) vwCl (wcX9_isInt cI cJ cZ cG ) s.heap := hP
  have hl := lv_entry ([.long p1]) (n := 2) (Nat.le_of_ble_eq_true rfl)
  rw [lg_entry_eq]
  generalize (lg_sl ([.long p1]) ++ List.replicate (2 - (lg_sl ([.long p1])).length) Slot.unset).toArray = ls at hl ⊢
  have hl : lv_has ls 2 [(0, .long p1)] := hl
  generalize hH : s.heap = H at hP hS ⊢
  have hS : va_S A s.heap H [] := by rw [hH]; exact hS
  have C0 : wCX p s #[.long p1] m meth c cX9_isInt 2 (some .boolean) RX9 wsX9_isInt := ⟨hx, hb, hr, hml, hown, hts, hlocks⟩
  show W p l e rmX9_isInt s m #[.long p1] below meth c H [] 0 0 (MQ below (wQz r0 (wcX9_isInt cI cJ cZ cG ) (dC, dI) A) #[.long p1] s 0 0 A) (F0 m 0 ls [])
  unfold fX9_isInt at hf
  refine lv_lload_n hx hb dX9_isInt_0 rfl (lv_at hl 0 rfl) ?_
  refine lv_ldc2 (v := (-2147483648)) hx hb hown (hts _ mX9_isInt_0) dX9_isInt_1 ?_
  refine W.lcmp hx hb dX9_isInt_4 ?_
  refine lv_if_lt (tgt := 20) hx hb dX9_isInt_5 (by decide) (fun c_1 => ?_) (fun c_1 => ?_)
  · have hf := it_t hf c_1
    have hf : fX9_isInt_b20 = some r0 := hf
    exact kX9_isInt_20 C0 hA hK _ _ _ hf hP hD hS (lv_sub hl [] rfl)
  · have hf := it_f hf c_1
    refine lv_lload_n hx hb dX9_isInt_8 rfl (lv_at hl 0 rfl) ?_
    refine lv_ldc2 (v := 2147483647) hx hb hown (hts _ mX9_isInt_1) dX9_isInt_9 ?_
    refine W.lcmp hx hb dX9_isInt_12 ?_
    refine lv_if_gt (tgt := 20) hx hb dX9_isInt_13 (by decide) (fun c_2 => ?_) (fun c_2 => ?_)
    · have hf := it_t hf c_2
      have hf : fX9_isInt_b20 = some r0 := hf
      exact kX9_isInt_20 C0 hA hK _ _ _ hf hP hD hS (lv_sub hl [] rfl)
    · have hf := it_f hf c_2
      refine lv_iconst (v := 1) hx hb dX9_isInt_16 (by decide) ?_
      refine lv_goto (tgt := 21) hx hb dX9_isInt_17 (by decide) ?_
      have hf : fX9_isInt_b21 1 = some r0 := hf
      exact kX9_isInt_21 C0 hA hK 1 (Or.inr rfl) _ _ _ hf hP hD hS (lv_sub hl [] rfl)
abbrev wcX9_tryOff (cI cJ cZ cG : ClassId) (h h_effect h_number h_banned h_has h_life h_shield h_strength h_haveMet h_deck h_deckSize h_who h_does h_much h_against h_pack h_packSize h_gives h_wants h_tryWho h_tryDoes h_tryMuch h_tryAgainst h_tryLife h_tryShield h_ring h_row : Nat) (v_thrown : Int32) (v_today : Int32) (v_kinds : Int32) (v_stacked : Int32) (v_drafters : Int32) (v_cards : Int32) (v_round : Int32) (v_turn : Int32) (v_high : Int32) (v_ringSize : Int32) (v_many : Int32) (v_tryWho : Nat → Int32) (v_tryDoes : Nat → Int32) (v_tryMuch : Nat → Int64) (v_tryAgainst : Nat → Int32) : va_W := [(h, .inr (9, [.int v_thrown, .int v_today, .int v_kinds, .ref h_effect, .ref h_number, .ref h_banned, .ref h_has, .ref h_life, .ref h_shield, .ref h_strength, .ref h_haveMet, .ref h_deck, .ref h_deckSize, .int v_stacked, .ref h_who, .ref h_does, .ref h_much, .ref h_against, .int v_drafters, .int v_cards, .int v_round, .int v_turn, .ref h_pack, .ref h_packSize, .ref h_gives, .ref h_wants, .int v_high, .ref h_tryWho, .ref h_tryDoes, .ref h_tryMuch, .ref h_tryAgainst, .ref h_tryLife, .ref h_tryShield, .int v_ringSize, .ref h_ring, .int v_many, .ref h_row])), (h_tryWho, .inl (cI, 6, .inl v_tryWho)), (h_tryDoes, .inl (cI, 6, .inl v_tryDoes)), (h_tryMuch, .inl (cJ, 6, .inr (.inl v_tryMuch))), (h_tryAgainst, .inl (cI, 6, .inl v_tryAgainst))]
theorem iX9_tryOff_X9 : ∀ w ∈ wsX90, w ∈ wsX9_tryOff := by decide +kernel
theorem mX9_tryOff_0 : (Cond.fieldLink RX9 132 "SleevehallModel" "high" "I") ∈ wsX9_tryOff := by decide +kernel
theorem mX9_tryOff_1 : (Cond.fieldLink RX9 69 "SleevehallModel" "tryWho" "[I") ∈ wsX9_tryOff := by decide +kernel
theorem mX9_tryOff_2 : (Cond.fieldLink RX9 72 "SleevehallModel" "tryDoes" "[I") ∈ wsX9_tryOff := by decide +kernel
theorem mX9_tryOff_3 : (Cond.fieldLink RX9 75 "SleevehallModel" "tryMuch" "[J") ∈ wsX9_tryOff := by decide +kernel
theorem mX9_tryOff_4 : (Cond.fieldLink RX9 79 "SleevehallModel" "tryAgainst" "[I") ∈ wsX9_tryOff := by decide +kernel
abbrev rmX9_tryOff : Room := { frames := 0, cells := 0, slots := 0, locals := 0 }
set_option maxHeartbeats 4000000 in
set_option maxRecDepth 100000 in
theorem kX9_tryOff_2 {p : Program} {l : Launch} {e : Env} {s : State} {m : MethodId} {args : Array Value} {below : List Frame} {meth : Method} {c : Code} {dC : Nat → ClassId} {dI : Nat → Nat → Nat} {A : Nat → Prop} {cI cJ cZ cG : ClassId} {h h_effect h_number h_banned h_has h_life h_shield h_strength h_haveMet h_deck h_deckSize h_who h_does h_much h_against h_pack h_packSize h_gives h_wants h_tryWho h_tryDoes h_tryMuch h_tryAgainst h_tryLife h_tryShield h_ring h_row : Nat} {v_thrown : Int32} {v_today : Int32} {v_kinds : Int32} {v_stacked : Int32} {v_drafters : Int32} {v_cards : Int32} {v_round : Int32} {v_turn : Int32} {v_ringSize : Int32} {v_many : Int32} {n_high : Int32} {n_tryWho : Nat → Int32} {n_tryDoes : Nat → Int32} {n_tryMuch : Nat → Int64} {n_tryAgainst : Nat → Int32} (C0 : wCX p s args m meth c cX9_tryOff 3 none RX9 wsX9_tryOff) (hA : ∀ q, s.heap.size ≤ q → A q) (hK : va_K (dC, dI) vwCl (tysW cI cJ cZ cG) s) : ∀ (n : Nat), ∀ (v_high : Int32) (v_tryWho : Nat → Int32) (v_tryDoes : Nat → Int32) (v_tryMuch : Nat → Int64) (v_tryAgainst : Nat → Int32) (l2 : Int32) (H : Heap) (locs : List Loc) (ls : Array Slot), fX9_tryOff_b2 n v_high v_tryWho v_tryDoes v_tryMuch v_tryAgainst l2 = some (n_high, n_tryWho, n_tryDoes, n_tryMuch, n_tryAgainst) → va_P (dC, dI) vwCl (wcX9_tryOff cI cJ cZ cG h h_effect h_number h_banned h_has h_life h_shield h_strength h_haveMet h_deck h_deckSize h_who h_does h_much h_against h_pack h_packSize h_gives h_wants h_tryWho h_tryDoes h_tryMuch h_tryAgainst h_tryLife h_tryShield h_ring h_row v_thrown v_today v_kinds v_stacked v_drafters v_cards v_round v_turn v_high v_ringSize v_many v_tryWho v_tryDoes v_tryMuch v_tryAgainst) H → va_D A (wcX9_tryOff cI cJ cZ cG h h_effect h_number h_banned h_has h_life h_shield h_strength h_haveMet h_deck h_deckSize h_who h_does h_much h_against h_pack h_packSize h_gives h_wants h_tryWho h_tryDoes h_tryMuch h_tryAgainst h_tryLife h_tryShield h_ring h_row v_thrown v_today v_kinds v_stacked v_drafters v_cards v_round v_turn v_high v_ringSize v_many v_tryWho v_tryDoes v_tryMuch v_tryAgainst) → va_S A s.heap H locs → lv_has ls 3 [(0, .ref h), (2, .int l2)] → W p l e rmX9_tryOff s m args below meth c H locs 0 0 (MQ below (wQv (wcX9_tryOff cI cJ cZ cG h h_effect h_number h_banned h_has h_life h_shield h_strength h_haveMet h_deck h_deckSize h_who h_does h_much h_against h_pack h_packSize h_gives h_wants h_tryWho h_tryDoes h_tryMuch h_tryAgainst h_tryLife h_tryShield h_ring h_row v_thrown v_today v_kinds v_stacked v_drafters v_cards v_round v_turn n_high v_ringSize v_many n_tryWho n_tryDoes n_tryMuch n_tryAgainst) (dC, dI) A) args s 0 0 A) (F0 m 2 ls []) := by
  obtain ⟨hx, hb, hr, hml, hown, hts, hlocks⟩ := id C0
  intro n
  induction n with
  | zero =>
    intro v_high v_tryWho v_tryDoes v_tryMuch v_tryAgainst l2 H locs ls hf hP hD hS hl
    rw [fX9_tryOff_b2] at hf
    cases hf
  | succ n ih =>
    intro v_high v_tryWho v_tryDoes v_tryMuch v_tryAgainst l2 H locs ls hf hP hD hS hl
    rw [fX9_tryOff_b2] at hf
    refine lv_iload_n hx hb dX9_tryOff_2 rfl (lv_at hl 1 rfl) ?_
    refine lv_aload_n hx hb dX9_tryOff_3 rfl (lv_at hl 0 rfl) ?_
    refine va_get (D := (dC, dI)) (ci := 9) (v := .int v_high) (C := RX9) (T := TX9) (N := 37) hx hb hts iX9_tryOff_X9 hown hK hP 0 rfl rfl 26 (by decide) (hts _ mX9_tryOff_0) (fun _ h9 => h9) rfl dX9_tryOff_4 ?_
    refine lv_iconst (v := 1) hx hb dX9_tryOff_7 (by decide) ?_
    refine lv_isub hx hb dX9_tryOff_8 ?_
    refine lv_icmp_ge (tgt := 74) hx hb dX9_tryOff_9 (by decide) (fun c_1 => ?_) (fun c_1 => ?_)
    · have hf := it_t hf c_1
      refine lv_aload_n hx hb dX9_tryOff_74 rfl (lv_at hl 0 rfl) ?_
      refine lv_dup hx hb dX9_tryOff_75 rfl ?_
      refine va_get (D := (dC, dI)) (ci := 9) (v := .int v_high) (C := RX9) (T := TX9) (N := 37) hx hb hts iX9_tryOff_X9 hown hK hP 0 rfl rfl 26 (by decide) (hts _ mX9_tryOff_0) (fun _ h9 => h9) rfl dX9_tryOff_76 ?_
      refine lv_iconst (v := 1) hx hb dX9_tryOff_79 (by decide) ?_
      refine lv_isub hx hb dX9_tryOff_80 ?_
      obtain ⟨x_2, ex_2, hf⟩ := nm_s hf
      refine w_eqi ex_2 ?_
      refine va_put (D := (dC, dI)) (ci := 9) (v := .int x_2) (ty := .int) (C := RX9) (T := TX9) (N := 37) hx hb hts iX9_tryOff_X9 tyX9 tyX9_ok nmX9 hown hK hP hD hS 0 rfl rfl 26 (by decide) (hts _ mX9_tryOff_0) (fun _ h9 => h9) rfl (by decide +kernel) rfl rfl (Nat.le_of_ble_eq_true rfl) dX9_tryOff_81 (fun H locs hP hD hS => ?_)
      have hP : va_P (dC, dI) vwCl (wcX9_tryOff cI cJ cZ cG h h_effect h_number h_banned h_has h_life h_shield h_strength h_haveMet h_deck h_deckSize h_who h_does h_much h_against h_pack h_packSize h_gives h_wants h_tryWho h_tryDoes h_tryMuch h_tryAgainst h_tryLife h_tryShield h_ring h_row v_thrown v_today v_kinds v_stacked v_drafters v_cards v_round v_turn x_2 v_ringSize v_many v_tryWho v_tryDoes v_tryMuch v_tryAgainst) H := hP
      have hD : va_D A (wcX9_tryOff cI cJ cZ cG h h_effect h_number h_banned h_has h_life h_shield h_strength h_haveMet h_deck h_deckSize h_who h_does h_much h_against h_pack h_packSize h_gives h_wants h_tryWho h_tryDoes h_tryMuch h_tryAgainst h_tryLife h_tryShield h_ring h_row v_thrown v_today v_kinds v_stacked v_drafters v_cards v_round v_turn x_2 v_ringSize v_many v_tryWho v_tryDoes v_tryMuch v_tryAgainst) := hD
      have hf : some (x_2, v_tryWho, v_tryDoes, v_tryMuch, v_tryAgainst) = some (n_high, n_tryWho, n_tryDoes, n_tryMuch, n_tryAgainst) := hf
      cases hf
      exact w_vret hx hb hr hlocks hP hD hS dX9_tryOff_84
    · have hf := it_f hf c_1
      refine lv_aload_n hx hb dX9_tryOff_12 rfl (lv_at hl 0 rfl) ?_
      refine va_get (D := (dC, dI)) (ci := 9) (v := .ref h_tryWho) (C := RX9) (T := TX9) (N := 37) hx hb hts iX9_tryOff_X9 hown hK hP 0 rfl rfl 27 (by decide) (hts _ mX9_tryOff_1) (fun _ h9 => h9) rfl dX9_tryOff_13 ?_
      refine lv_iload_n hx hb dX9_tryOff_16 rfl (lv_at hl 1 rfl) ?_
      refine lv_aload_n hx hb dX9_tryOff_17 rfl (lv_at hl 0 rfl) ?_
      refine va_get (D := (dC, dI)) (ci := 9) (v := .ref h_tryWho) (C := RX9) (T := TX9) (N := 37) hx hb hts iX9_tryOff_X9 hown hK hP 0 rfl rfl 27 (by decide) (hts _ mX9_tryOff_1) (fun _ h9 => h9) rfl dX9_tryOff_18 ?_
      refine lv_iload_n hx hb dX9_tryOff_21 rfl (lv_at hl 1 rfl) ?_
      refine lv_iconst (v := 1) hx hb dX9_tryOff_22 (by decide) ?_
      refine lv_iadd hx hb dX9_tryOff_23 ?_
      obtain ⟨hg_3, hf⟩ := ck_s hf
      refine va_iald (D := (dC, dI)) hx hb hK hP 1 0 rfl rfl (g_vp hg_3) dX9_tryOff_24 ?_
      obtain ⟨x_4, ex_4, hf⟩ := nm_s hf
      refine w_eqi ex_4 ?_
      obtain ⟨hg_5, hf⟩ := ck_s hf
      refine va_iast (D := (dC, dI)) hx hb hK hP hD hS 1 0 rfl rfl (g_vp hg_5) dX9_tryOff_25 (fun H locs hP hD hS => ?_)
      have hP : va_P (dC, dI) vwCl (wcX9_tryOff cI cJ cZ cG h h_effect h_number h_banned h_has h_life h_shield h_strength h_haveMet h_deck h_deckSize h_who h_does h_much h_against h_pack h_packSize h_gives h_wants h_tryWho h_tryDoes h_tryMuch h_tryAgainst h_tryLife h_tryShield h_ring h_row v_thrown v_today v_kinds v_stacked v_drafters v_cards v_round v_turn v_high v_ringSize v_many (upd v_tryWho l2.toNatClampNeg x_4) v_tryDoes v_tryMuch v_tryAgainst) H := hP
      have hD : va_D A (wcX9_tryOff cI cJ cZ cG h h_effect h_number h_banned h_has h_life h_shield h_strength h_haveMet h_deck h_deckSize h_who h_does h_much h_against h_pack h_packSize h_gives h_wants h_tryWho h_tryDoes h_tryMuch h_tryAgainst h_tryLife h_tryShield h_ring h_row v_thrown v_today v_kinds v_stacked v_drafters v_cards v_round v_turn v_high v_ringSize v_many (upd v_tryWho l2.toNatClampNeg x_4) v_tryDoes v_tryMuch v_tryAgainst) := hD
      refine lv_aload_n hx hb dX9_tryOff_26 rfl (lv_at hl 0 rfl) ?_
      refine va_get (D := (dC, dI)) (ci := 9) (v := .ref h_tryDoes) (C := RX9) (T := TX9) (N := 37) hx hb hts iX9_tryOff_X9 hown hK hP 0 rfl rfl 28 (by decide) (hts _ mX9_tryOff_2) (fun _ h9 => h9) rfl dX9_tryOff_27 ?_
      refine lv_iload_n hx hb dX9_tryOff_30 rfl (lv_at hl 1 rfl) ?_
      refine lv_aload_n hx hb dX9_tryOff_31 rfl (lv_at hl 0 rfl) ?_
      refine va_get (D := (dC, dI)) (ci := 9) (v := .ref h_tryDoes) (C := RX9) (T := TX9) (N := 37) hx hb hts iX9_tryOff_X9 hown hK hP 0 rfl rfl 28 (by decide) (hts _ mX9_tryOff_2) (fun _ h9 => h9) rfl dX9_tryOff_32 ?_
      refine lv_iload_n hx hb dX9_tryOff_35 rfl (lv_at hl 1 rfl) ?_
      refine lv_iconst (v := 1) hx hb dX9_tryOff_36 (by decide) ?_
      refine lv_iadd hx hb dX9_tryOff_37 ?_
      obtain ⟨hg_6, hf⟩ := ck_s hf
      refine va_iald (D := (dC, dI)) hx hb hK hP 2 0 rfl rfl (g_vp hg_6) dX9_tryOff_38 ?_
      obtain ⟨x_7, ex_7, hf⟩ := nm_s hf
      refine w_eqi ex_7 ?_
      obtain ⟨hg_8, hf⟩ := ck_s hf
      refine va_iast (D := (dC, dI)) hx hb hK hP hD hS 2 0 rfl rfl (g_vp hg_8) dX9_tryOff_39 (fun H locs hP hD hS => ?_)
      have hP : va_P (dC, dI) vwCl (wcX9_tryOff cI cJ cZ cG h h_effect h_number h_banned h_has h_life h_shield h_strength h_haveMet h_deck h_deckSize h_who h_does h_much h_against h_pack h_packSize h_gives h_wants h_tryWho h_tryDoes h_tryMuch h_tryAgainst h_tryLife h_tryShield h_ring h_row v_thrown v_today v_kinds v_stacked v_drafters v_cards v_round v_turn v_high v_ringSize v_many (upd v_tryWho l2.toNatClampNeg x_4) (upd v_tryDoes l2.toNatClampNeg x_7) v_tryMuch v_tryAgainst) H := hP
      have hD : va_D A (wcX9_tryOff cI cJ cZ cG h h_effect h_number h_banned h_has h_life h_shield h_strength h_haveMet h_deck h_deckSize h_who h_does h_much h_against h_pack h_packSize h_gives h_wants h_tryWho h_tryDoes h_tryMuch h_tryAgainst h_tryLife h_tryShield h_ring h_row v_thrown v_today v_kinds v_stacked v_drafters v_cards v_round v_turn v_high v_ringSize v_many (upd v_tryWho l2.toNatClampNeg x_4) (upd v_tryDoes l2.toNatClampNeg x_7) v_tryMuch v_tryAgainst) := hD
      refine lv_aload_n hx hb dX9_tryOff_40 rfl (lv_at hl 0 rfl) ?_
      refine va_get (D := (dC, dI)) (ci := 9) (v := .ref h_tryMuch) (C := RX9) (T := TX9) (N := 37) hx hb hts iX9_tryOff_X9 hown hK hP 0 rfl rfl 29 (by decide) (hts _ mX9_tryOff_3) (fun _ h9 => h9) rfl dX9_tryOff_41 ?_
      refine lv_iload_n hx hb dX9_tryOff_44 rfl (lv_at hl 1 rfl) ?_
      refine lv_aload_n hx hb dX9_tryOff_45 rfl (lv_at hl 0 rfl) ?_
      refine va_get (D := (dC, dI)) (ci := 9) (v := .ref h_tryMuch) (C := RX9) (T := TX9) (N := 37) hx hb hts iX9_tryOff_X9 hown hK hP 0 rfl rfl 29 (by decide) (hts _ mX9_tryOff_3) (fun _ h9 => h9) rfl dX9_tryOff_46 ?_
      refine lv_iload_n hx hb dX9_tryOff_49 rfl (lv_at hl 1 rfl) ?_
      refine lv_iconst (v := 1) hx hb dX9_tryOff_50 (by decide) ?_
      refine lv_iadd hx hb dX9_tryOff_51 ?_
      obtain ⟨hg_9, hf⟩ := ck_s hf
      refine va_lald (D := (dC, dI)) hx hb hK hP 3 1 rfl rfl (g_vp hg_9) dX9_tryOff_52 ?_
      obtain ⟨x_10, ex_10, hf⟩ := nm_s hf
      refine w_eql ex_10 ?_
      obtain ⟨hg_11, hf⟩ := ck_s hf
      refine va_last (D := (dC, dI)) hx hb hK hP hD hS 3 1 rfl rfl (g_vp hg_11) dX9_tryOff_53 (fun H locs hP hD hS => ?_)
      have hP : va_P (dC, dI) vwCl (wcX9_tryOff cI cJ cZ cG h h_effect h_number h_banned h_has h_life h_shield h_strength h_haveMet h_deck h_deckSize h_who h_does h_much h_against h_pack h_packSize h_gives h_wants h_tryWho h_tryDoes h_tryMuch h_tryAgainst h_tryLife h_tryShield h_ring h_row v_thrown v_today v_kinds v_stacked v_drafters v_cards v_round v_turn v_high v_ringSize v_many (upd v_tryWho l2.toNatClampNeg x_4) (upd v_tryDoes l2.toNatClampNeg x_7) (vp_updL v_tryMuch l2.toNatClampNeg x_10) v_tryAgainst) H := hP
      have hD : va_D A (wcX9_tryOff cI cJ cZ cG h h_effect h_number h_banned h_has h_life h_shield h_strength h_haveMet h_deck h_deckSize h_who h_does h_much h_against h_pack h_packSize h_gives h_wants h_tryWho h_tryDoes h_tryMuch h_tryAgainst h_tryLife h_tryShield h_ring h_row v_thrown v_today v_kinds v_stacked v_drafters v_cards v_round v_turn v_high v_ringSize v_many (upd v_tryWho l2.toNatClampNeg x_4) (upd v_tryDoes l2.toNatClampNeg x_7) (vp_updL v_tryMuch l2.toNatClampNeg x_10) v_tryAgainst) := hD
      refine lv_aload_n hx hb dX9_tryOff_54 rfl (lv_at hl 0 rfl) ?_
      refine va_get (D := (dC, dI)) (ci := 9) (v := .ref h_tryAgainst) (C := RX9) (T := TX9) (N := 37) hx hb hts iX9_tryOff_X9 hown hK hP 0 rfl rfl 30 (by decide) (hts _ mX9_tryOff_4) (fun _ h9 => h9) rfl dX9_tryOff_55 ?_
      refine lv_iload_n hx hb dX9_tryOff_58 rfl (lv_at hl 1 rfl) ?_
      refine lv_aload_n hx hb dX9_tryOff_59 rfl (lv_at hl 0 rfl) ?_
      refine va_get (D := (dC, dI)) (ci := 9) (v := .ref h_tryAgainst) (C := RX9) (T := TX9) (N := 37) hx hb hts iX9_tryOff_X9 hown hK hP 0 rfl rfl 30 (by decide) (hts _ mX9_tryOff_4) (fun _ h9 => h9) rfl dX9_tryOff_60 ?_
      refine lv_iload_n hx hb dX9_tryOff_63 rfl (lv_at hl 1 rfl) ?_
      refine lv_iconst (v := 1) hx hb dX9_tryOff_64 (by decide) ?_
      refine lv_iadd hx hb dX9_tryOff_65 ?_
      obtain ⟨hg_12, hf⟩ := ck_s hf
      refine va_iald (D := (dC, dI)) hx hb hK hP 4 0 rfl rfl (g_vp hg_12) dX9_tryOff_66 ?_
      obtain ⟨x_13, ex_13, hf⟩ := nm_s hf
      refine w_eqi ex_13 ?_
      obtain ⟨hg_14, hf⟩ := ck_s hf
      refine va_iast (D := (dC, dI)) hx hb hK hP hD hS 4 0 rfl rfl (g_vp hg_14) dX9_tryOff_67 (fun H locs hP hD hS => ?_)
      have hP : va_P (dC, dI) vwCl (wcX9_tryOff cI cJ cZ cG h h_effect h_number h_banned h_has h_life h_shield h_strength h_haveMet h_deck h_deckSize h_who h_does h_much h_against h_pack h_packSize h_gives h_wants h_tryWho h_tryDoes h_tryMuch h_tryAgainst h_tryLife h_tryShield h_ring h_row v_thrown v_today v_kinds v_stacked v_drafters v_cards v_round v_turn v_high v_ringSize v_many (upd v_tryWho l2.toNatClampNeg x_4) (upd v_tryDoes l2.toNatClampNeg x_7) (vp_updL v_tryMuch l2.toNatClampNeg x_10) (upd v_tryAgainst l2.toNatClampNeg x_13)) H := hP
      have hD : va_D A (wcX9_tryOff cI cJ cZ cG h h_effect h_number h_banned h_has h_life h_shield h_strength h_haveMet h_deck h_deckSize h_who h_does h_much h_against h_pack h_packSize h_gives h_wants h_tryWho h_tryDoes h_tryMuch h_tryAgainst h_tryLife h_tryShield h_ring h_row v_thrown v_today v_kinds v_stacked v_drafters v_cards v_round v_turn v_high v_ringSize v_many (upd v_tryWho l2.toNatClampNeg x_4) (upd v_tryDoes l2.toNatClampNeg x_7) (vp_updL v_tryMuch l2.toNatClampNeg x_10) (upd v_tryAgainst l2.toNatClampNeg x_13)) := hD
      obtain ⟨x_15, ex_15, hf⟩ := nm_s hf
      refine lv_iinc (v := x_15) (lv' := [(2, .int x_15), (0, .ref h)]) hx hb dX9_tryOff_68 hl (k := 1) rfl (by rw [ex_15]; rfl) (by decide) rfl (fun ls hl => ?_)
      refine lv_goto (tgt := 2) hx hb dX9_tryOff_71 (by decide) ?_
      have hf : (fX9_tryOff_b2 n) v_high (upd v_tryWho l2.toNatClampNeg x_4) (upd v_tryDoes l2.toNatClampNeg x_7) (vp_updL v_tryMuch l2.toNatClampNeg x_10) (upd v_tryAgainst l2.toNatClampNeg x_13) x_15 = some (n_high, n_tryWho, n_tryDoes, n_tryMuch, n_tryAgainst) := hf
      exact ih v_high (upd v_tryWho l2.toNatClampNeg x_4) (upd v_tryDoes l2.toNatClampNeg x_7) (vp_updL v_tryMuch l2.toNatClampNeg x_10) (upd v_tryAgainst l2.toNatClampNeg x_13) x_15 _ _ _ hf hP hD hS (lv_sub hl [1, 0] rfl)
set_option maxHeartbeats 4000000 in
set_option maxRecDepth 100000 in
theorem oX9_tryOff (l : Launch) (dC : Nat → ClassId) (dI : Nat → Nat → Nat) (cI cJ cZ cG : ClassId) (h h_effect h_number h_banned h_has h_life h_shield h_strength h_haveMet h_deck h_deckSize h_who h_does h_much h_against h_pack h_packSize h_gives h_wants h_tryWho h_tryDoes h_tryMuch h_tryAgainst h_tryLife h_tryShield h_ring h_row : Nat) (v_thrown : Int32) (v_today : Int32) (v_kinds : Int32) (v_stacked : Int32) (v_drafters : Int32) (v_cards : Int32) (v_round : Int32) (v_turn : Int32) (v_high : Int32) (v_ringSize : Int32) (v_many : Int32) (v_tryWho : Nat → Int32) (v_tryDoes : Nat → Int32) (v_tryMuch : Nat → Int64) (v_tryAgainst : Nat → Int32) (sz : Nat) (p1 : Int32) (n_high : Int32) (n_tryWho : Nat → Int32) (n_tryDoes : Nat → Int32) (n_tryMuch : Nat → Int64) (n_tryAgainst : Nat → Int32) (hf : fX9_tryOff v_high v_tryWho v_tryDoes v_tryMuch v_tryAgainst p1 = some (n_high, n_tryWho, n_tryDoes, n_tryMuch, n_tryAgainst)) : Met l yX9_tryOff wsX9_tryOff rmX9_tryOff (wPc [.ref h, .int p1] (dC, dI) (tysW cI cJ cZ cG) sz (wcX9_tryOff cI cJ cZ cG h h_effect h_number h_banned h_has h_life h_shield h_strength h_haveMet h_deck h_deckSize h_who h_does h_much h_against h_pack h_packSize h_gives h_wants h_tryWho h_tryDoes h_tryMuch h_tryAgainst h_tryLife h_tryShield h_ring h_row v_thrown v_today v_kinds v_stacked v_drafters v_cards v_round v_turn v_high v_ringSize v_many v_tryWho v_tryDoes v_tryMuch v_tryAgainst)) (wQv (wcX9_tryOff cI cJ cZ cG h h_effect h_number h_banned h_has h_life h_shield h_strength h_haveMet h_deck h_deckSize h_who h_does h_much h_against h_pack h_packSize h_gives h_wants h_tryWho h_tryDoes h_tryMuch h_tryAgainst h_tryLife h_tryShield h_ring h_row v_thrown v_today v_kinds v_stacked v_drafters v_cards v_round v_turn n_high v_ringSize v_many n_tryWho n_tryDoes n_tryMuch n_tryAgainst) (dC, dI) (va_A (wcX9_tryOff cI cJ cZ cG h h_effect h_number h_banned h_has h_life h_shield h_strength h_haveMet h_deck h_deckSize h_who h_does h_much h_against h_pack h_packSize h_gives h_wants h_tryWho h_tryDoes h_tryMuch h_tryAgainst h_tryLife h_tryShield h_ring h_row v_thrown v_today v_kinds v_stacked v_drafters v_cards v_round v_turn v_high v_ringSize v_many v_tryWho v_tryDoes v_tryMuch v_tryAgainst) sz)) 0 0 (va_A (wcX9_tryOff cI cJ cZ cG h h_effect h_number h_banned h_has h_life h_shield h_strength h_haveMet h_deck h_deckSize h_who h_does h_much h_against h_pack h_packSize h_gives h_wants h_tryWho h_tryDoes h_tryMuch h_tryAgainst h_tryLife h_tryShield h_ring h_row v_thrown v_today v_kinds v_stacked v_drafters v_cards v_round v_turn v_high v_ringSize v_many v_tryWho v_tryDoes v_tryMuch v_tryAgainst) sz) := by
  refine Met.ofW (cc := cX9_tryOff) (maxL := 3) (ret := none) (by decide) rfl ?_
  intro p e s m args below meth c s₁ B hml hv
  obtain ⟨rfl, hsz, hP, hK, hD0⟩ := hv
  have hx := B.exec
  have hb := B.bytes
  have hr := B.returns
  have hts := atoms_spec (ws := wsX9_tryOff) B.pre
  have hown : s.vm.findClass RX9 = some m.cls := findClass_of_methodNamed B.named
  have hlocks := B.notSynchronized
  subst hsz
  have hD := hD0.self (sz := s.heap.size)
  generalize hAe : va_A (wcX9_tryOff cI cJ cZ cG h h_effect h_number h_banned h_has h_life h_shield h_strength h_haveMet h_deck h_deckSize h_who h_does h_much h_against h_pack h_packSize h_gives h_wants h_tryWho h_tryDoes h_tryMuch h_tryAgainst h_tryLife h_tryShield h_ring h_row v_thrown v_today v_kinds v_stacked v_drafters v_cards v_round v_turn v_high v_ringSize v_many v_tryWho v_tryDoes v_tryMuch v_tryAgainst) s.heap.size = A at hD ⊢
  have hA : ∀ q : Nat, s.heap.size ≤ q → A q := fun q h => by rw [← hAe]; exact Or.inr h
  have hS : va_S A s.heap s.heap [] := va_S.rf
  have hP : va_P (dC, dI) vwCl (wcX9_tryOff cI cJ cZ cG h h_effect h_number h_banned h_has h_life h_shield h_strength h_haveMet h_deck h_deckSize h_who h_does h_much h_against h_pack h_packSize h_gives h_wants h_tryWho h_tryDoes h_tryMuch h_tryAgainst h_tryLife h_tryShield h_ring h_row v_thrown v_today v_kinds v_stacked v_drafters v_cards v_round v_turn v_high v_ringSize v_many v_tryWho v_tryDoes v_tryMuch v_tryAgainst) s.heap := hP
  have hl := lv_entry ([.ref h, .int p1]) (n := 3) (Nat.le_of_ble_eq_true rfl)
  rw [lg_entry_eq]
  generalize (lg_sl ([.ref h, .int p1]) ++ List.replicate (3 - (lg_sl ([.ref h, .int p1])).length) Slot.unset).toArray = ls at hl ⊢
  have hl : lv_has ls 3 [(0, .ref h), (1, .int p1)] := hl
  generalize hH : s.heap = H at hP hS ⊢
  have hS : va_S A s.heap H [] := by rw [hH]; exact hS
  have C0 : wCX p s #[.ref h, .int p1] m meth c cX9_tryOff 3 none RX9 wsX9_tryOff := ⟨hx, hb, hr, hml, hown, hts, hlocks⟩
  show W p l e rmX9_tryOff s m #[.ref h, .int p1] below meth c H [] 0 0 (MQ below (wQv (wcX9_tryOff cI cJ cZ cG h h_effect h_number h_banned h_has h_life h_shield h_strength h_haveMet h_deck h_deckSize h_who h_does h_much h_against h_pack h_packSize h_gives h_wants h_tryWho h_tryDoes h_tryMuch h_tryAgainst h_tryLife h_tryShield h_ring h_row v_thrown v_today v_kinds v_stacked v_drafters v_cards v_round v_turn n_high v_ringSize v_many n_tryWho n_tryDoes n_tryMuch n_tryAgainst) (dC, dI) A) #[.ref h, .int p1] s 0 0 A) (F0 m 0 ls [])
  unfold fX9_tryOff at hf
  refine lv_iload_n hx hb dX9_tryOff_0 rfl (lv_at hl 1 rfl) ?_
  refine lv_istore_n (lv' := [(2, .int p1), (0, .ref h), (1, .int p1)]) hx hb dX9_tryOff_1 rfl hl (by decide) rfl (fun ls hl => ?_)
  have hf : fX9_tryOff_b2 70 v_high v_tryWho v_tryDoes v_tryMuch v_tryAgainst p1 = some (n_high, n_tryWho, n_tryDoes, n_tryMuch, n_tryAgainst) := hf
  exact kX9_tryOff_2 C0 hA hK 70 v_high v_tryWho v_tryDoes v_tryMuch v_tryAgainst p1 _ _ _ hf hP hD hS (lv_sub hl [1, 0] rfl)
abbrev wcX9_stopOne (cI cJ cZ cG : ClassId) (h h_effect h_number h_banned h_has h_life h_shield h_strength h_haveMet h_deck h_deckSize h_who h_does h_much h_against h_pack h_packSize h_gives h_wants h_tryWho h_tryDoes h_tryMuch h_tryAgainst h_tryLife h_tryShield h_ring h_row : Nat) (v_thrown : Int32) (v_today : Int32) (v_kinds : Int32) (v_stacked : Int32) (v_drafters : Int32) (v_cards : Int32) (v_round : Int32) (v_turn : Int32) (v_high : Int32) (v_ringSize : Int32) (v_many : Int32) (v_tryWho : Nat → Int32) (v_tryDoes : Nat → Int32) (v_tryMuch : Nat → Int64) (v_tryAgainst : Nat → Int32) : va_W := [(h, .inr (9, [.int v_thrown, .int v_today, .int v_kinds, .ref h_effect, .ref h_number, .ref h_banned, .ref h_has, .ref h_life, .ref h_shield, .ref h_strength, .ref h_haveMet, .ref h_deck, .ref h_deckSize, .int v_stacked, .ref h_who, .ref h_does, .ref h_much, .ref h_against, .int v_drafters, .int v_cards, .int v_round, .int v_turn, .ref h_pack, .ref h_packSize, .ref h_gives, .ref h_wants, .int v_high, .ref h_tryWho, .ref h_tryDoes, .ref h_tryMuch, .ref h_tryAgainst, .ref h_tryLife, .ref h_tryShield, .int v_ringSize, .ref h_ring, .int v_many, .ref h_row])), (h_tryWho, .inl (cI, 6, .inl v_tryWho)), (h_tryDoes, .inl (cI, 6, .inl v_tryDoes)), (h_tryMuch, .inl (cJ, 6, .inr (.inl v_tryMuch))), (h_tryAgainst, .inl (cI, 6, .inl v_tryAgainst))]
theorem iX9_stopOne_X9 : ∀ w ∈ wsX90, w ∈ wsX9_stopOne := by decide +kernel
theorem mX9_stopOne_0 : (Cond.fieldLink RX9 132 "SleevehallModel" "high" "I") ∈ wsX9_stopOne := by decide +kernel
theorem mX9_stopOne_1 : (Cond.fieldLink RX9 69 "SleevehallModel" "tryWho" "[I") ∈ wsX9_stopOne := by decide +kernel
abbrev rmX9_stopOne : Room := { frames := 1, cells := 0, slots := 0, locals := 22 }
set_option maxHeartbeats 4000000 in
set_option maxRecDepth 100000 in
theorem kX9_stopOne_36 {p : Program} {l : Launch} {e : Env} {s : State} {m : MethodId} {args : Array Value} {below : List Frame} {meth : Method} {c : Code} {dC : Nat → ClassId} {dI : Nat → Nat → Nat} {A : Nat → Prop} {cI cJ cZ cG : ClassId} {h h_effect h_number h_banned h_has h_life h_shield h_strength h_haveMet h_deck h_deckSize h_who h_does h_much h_against h_pack h_packSize h_gives h_wants h_tryWho h_tryDoes h_tryMuch h_tryAgainst h_tryLife h_tryShield h_ring h_row : Nat} {v_thrown : Int32} {v_today : Int32} {v_kinds : Int32} {v_stacked : Int32} {v_drafters : Int32} {v_cards : Int32} {v_round : Int32} {v_turn : Int32} {v_ringSize : Int32} {v_many : Int32} {n_high : Int32} {n_tryWho : Nat → Int32} {n_tryDoes : Nat → Int32} {n_tryMuch : Nat → Int64} {n_tryAgainst : Nat → Int32} (C0 : wCX p s args m meth c cX9_stopOne 3 none RX9 wsX9_stopOne) (hA : ∀ q, s.heap.size ≤ q → A q) (hK : va_K (dC, dI) vwCl (tysW cI cJ cZ cG) s) : ∀ (v_high : Int32) (v_tryWho : Nat → Int32) (v_tryDoes : Nat → Int32) (v_tryMuch : Nat → Int64) (v_tryAgainst : Nat → Int32) (H : Heap) (locs : List Loc) (ls : Array Slot), fX9_stopOne_b36 v_high v_tryWho v_tryDoes v_tryMuch v_tryAgainst = some (n_high, n_tryWho, n_tryDoes, n_tryMuch, n_tryAgainst) → va_P (dC, dI) vwCl (wcX9_stopOne cI cJ cZ cG h h_effect h_number h_banned h_has h_life h_shield h_strength h_haveMet h_deck h_deckSize h_who h_does h_much h_against h_pack h_packSize h_gives h_wants h_tryWho h_tryDoes h_tryMuch h_tryAgainst h_tryLife h_tryShield h_ring h_row v_thrown v_today v_kinds v_stacked v_drafters v_cards v_round v_turn v_high v_ringSize v_many v_tryWho v_tryDoes v_tryMuch v_tryAgainst) H → va_D A (wcX9_stopOne cI cJ cZ cG h h_effect h_number h_banned h_has h_life h_shield h_strength h_haveMet h_deck h_deckSize h_who h_does h_much h_against h_pack h_packSize h_gives h_wants h_tryWho h_tryDoes h_tryMuch h_tryAgainst h_tryLife h_tryShield h_ring h_row v_thrown v_today v_kinds v_stacked v_drafters v_cards v_round v_turn v_high v_ringSize v_many v_tryWho v_tryDoes v_tryMuch v_tryAgainst) → va_S A s.heap H locs → lv_has ls 3 [] → W p l e rmX9_stopOne s m args below meth c H locs 0 0 (MQ below (wQv (wcX9_stopOne cI cJ cZ cG h h_effect h_number h_banned h_has h_life h_shield h_strength h_haveMet h_deck h_deckSize h_who h_does h_much h_against h_pack h_packSize h_gives h_wants h_tryWho h_tryDoes h_tryMuch h_tryAgainst h_tryLife h_tryShield h_ring h_row v_thrown v_today v_kinds v_stacked v_drafters v_cards v_round v_turn n_high v_ringSize v_many n_tryWho n_tryDoes n_tryMuch n_tryAgainst) (dC, dI) A) args s 0 0 A) (F0 m 36 ls []) := by
  obtain ⟨hx, hb, hr, hml, hown, hts, hlocks⟩ := id C0
  intro v_high v_tryWho v_tryDoes v_tryMuch v_tryAgainst H locs ls hf hP hD hS hl
  unfold fX9_stopOne_b36 at hf
  have hf : some (v_high, v_tryWho, v_tryDoes, v_tryMuch, v_tryAgainst) = some (n_high, n_tryWho, n_tryDoes, n_tryMuch, n_tryAgainst) := hf
  cases hf
  exact w_vret hx hb hr hlocks hP hD hS dX9_stopOne_36
set_option maxHeartbeats 4000000 in
set_option maxRecDepth 100000 in
theorem kX9_stopOne_27 {p : Program} {l : Launch} {e : Env} {s : State} {m : MethodId} {args : Array Value} {below : List Frame} {meth : Method} {c : Code} {dC : Nat → ClassId} {dI : Nat → Nat → Nat} {A : Nat → Prop} {cI cJ cZ cG : ClassId} {h h_effect h_number h_banned h_has h_life h_shield h_strength h_haveMet h_deck h_deckSize h_who h_does h_much h_against h_pack h_packSize h_gives h_wants h_tryWho h_tryDoes h_tryMuch h_tryAgainst h_tryLife h_tryShield h_ring h_row : Nat} {v_thrown : Int32} {v_today : Int32} {v_kinds : Int32} {v_stacked : Int32} {v_drafters : Int32} {v_cards : Int32} {v_round : Int32} {v_turn : Int32} {v_ringSize : Int32} {v_many : Int32} {n_high : Int32} {n_tryWho : Nat → Int32} {n_tryDoes : Nat → Int32} {n_tryMuch : Nat → Int64} {n_tryAgainst : Nat → Int32} (C0 : wCX p s args m meth c cX9_stopOne 3 none RX9 wsX9_stopOne) (hA : ∀ q, s.heap.size ≤ q → A q) (hK : va_K (dC, dI) vwCl (tysW cI cJ cZ cG) s) : ∀ (v_high : Int32) (v_tryWho : Nat → Int32) (v_tryDoes : Nat → Int32) (v_tryMuch : Nat → Int64) (v_tryAgainst : Nat → Int32) (l2 : Int32) (H : Heap) (locs : List Loc) (ls : Array Slot), fX9_stopOne_b27 v_high v_tryWho v_tryDoes v_tryMuch v_tryAgainst l2 = some (n_high, n_tryWho, n_tryDoes, n_tryMuch, n_tryAgainst) → va_P (dC, dI) vwCl (wcX9_stopOne cI cJ cZ cG h h_effect h_number h_banned h_has h_life h_shield h_strength h_haveMet h_deck h_deckSize h_who h_does h_much h_against h_pack h_packSize h_gives h_wants h_tryWho h_tryDoes h_tryMuch h_tryAgainst h_tryLife h_tryShield h_ring h_row v_thrown v_today v_kinds v_stacked v_drafters v_cards v_round v_turn v_high v_ringSize v_many v_tryWho v_tryDoes v_tryMuch v_tryAgainst) H → va_D A (wcX9_stopOne cI cJ cZ cG h h_effect h_number h_banned h_has h_life h_shield h_strength h_haveMet h_deck h_deckSize h_who h_does h_much h_against h_pack h_packSize h_gives h_wants h_tryWho h_tryDoes h_tryMuch h_tryAgainst h_tryLife h_tryShield h_ring h_row v_thrown v_today v_kinds v_stacked v_drafters v_cards v_round v_turn v_high v_ringSize v_many v_tryWho v_tryDoes v_tryMuch v_tryAgainst) → va_S A s.heap H locs → lv_has ls 3 [(0, .ref h), (2, .int l2)] → W p l e rmX9_stopOne s m args below meth c H locs 0 0 (MQ below (wQv (wcX9_stopOne cI cJ cZ cG h h_effect h_number h_banned h_has h_life h_shield h_strength h_haveMet h_deck h_deckSize h_who h_does h_much h_against h_pack h_packSize h_gives h_wants h_tryWho h_tryDoes h_tryMuch h_tryAgainst h_tryLife h_tryShield h_ring h_row v_thrown v_today v_kinds v_stacked v_drafters v_cards v_round v_turn n_high v_ringSize v_many n_tryWho n_tryDoes n_tryMuch n_tryAgainst) (dC, dI) A) args s 0 0 A) (F0 m 27 ls []) := by
  obtain ⟨hx, hb, hr, hml, hown, hts, hlocks⟩ := id C0
  intro v_high v_tryWho v_tryDoes v_tryMuch v_tryAgainst l2 H locs ls hf hP hD hS hl
  unfold fX9_stopOne_b27 at hf
  refine lv_iload_n hx hb dX9_stopOne_27 rfl (lv_at hl 1 rfl) ?_
  refine lv_if_lt (tgt := 36) hx hb dX9_stopOne_28 (by decide) (fun c_1 => ?_) (fun c_1 => ?_)
  · have hf := it_t hf c_1
    have hf : fX9_stopOne_b36 v_high v_tryWho v_tryDoes v_tryMuch v_tryAgainst = some (n_high, n_tryWho, n_tryDoes, n_tryMuch, n_tryAgainst) := hf
    exact kX9_stopOne_36 C0 hA hK v_high v_tryWho v_tryDoes v_tryMuch v_tryAgainst _ _ _ hf hP hD hS (lv_sub hl [] rfl)
  · have hf := it_f hf c_1
    refine lv_aload_n hx hb dX9_stopOne_31 rfl (lv_at hl 0 rfl) ?_
    refine lv_iload_n hx hb dX9_stopOne_32 rfl (lv_at hl 1 rfl) ?_
    obtain ⟨⟨w_2, w_3, w_4, w_5, w_6⟩, hc_7, hf⟩ := ob_s hf
    refine w_callVv (As := [.int l2]) (rest := []) (wr := List.filterMap (fun i : Nat => (wcX9_stopOne cI cJ cZ cG h h_effect h_number h_banned h_has h_life h_shield h_strength h_haveMet h_deck h_deckSize h_who h_does h_much h_against h_pack h_packSize h_gives h_wants h_tryWho h_tryDoes h_tryMuch h_tryAgainst h_tryLife h_tryShield h_ring h_row v_thrown v_today v_kinds v_stacked v_drafters v_cards v_round v_turn v_high v_ringSize v_many v_tryWho v_tryDoes v_tryMuch v_tryAgainst)[i]?) []) (ws1 := (wcX9_stopOne cI cJ cZ cG h h_effect h_number h_banned h_has h_life h_shield h_strength h_haveMet h_deck h_deckSize h_who h_does h_much h_against h_pack h_packSize h_gives h_wants h_tryWho h_tryDoes h_tryMuch h_tryAgainst h_tryLife h_tryShield h_ring h_row v_thrown v_today v_kinds v_stacked v_drafters v_cards v_round v_turn w_2 v_ringSize v_many w_3 w_4 w_5 w_6)) ⟨hx, hb, hml, hown, hts⟩ (oX9_tryOff l dC dI cI cJ cZ cG h h_effect h_number h_banned h_has h_life h_shield h_strength h_haveMet h_deck h_deckSize h_who h_does h_much h_against h_pack h_packSize h_gives h_wants h_tryWho h_tryDoes h_tryMuch h_tryAgainst h_tryLife h_tryShield h_ring h_row v_thrown v_today v_kinds v_stacked v_drafters v_cards v_round v_turn v_high v_ringSize v_many v_tryWho v_tryDoes v_tryMuch v_tryAgainst H.size l2 w_2 w_3 w_4 w_5 w_6 hc_7) (cwV 1 hts gX9_stopOne_X9_tryOff rfl rfl rfl (by decide +kernel) ⟨Nat.le_of_ble_eq_true rfl, Nat.le_of_ble_eq_true rfl⟩) hK 0 9 rfl rfl rfl hP hD hS hA [0, 1, 2, 3, 4] [] [0, 1, 2, 3, 4] rfl rfl rfl rfl (by decide) rfl rfl rfl hl.1 rfl (Nat.le_of_ble_eq_true rfl) dX9_stopOne_33 ⟨Nat.le_refl _, Nat.le_refl _⟩ (fun H locs hP hD hS => ?_)
    have hf : fX9_stopOne_b36 w_2 w_3 w_4 w_5 w_6 = some (n_high, n_tryWho, n_tryDoes, n_tryMuch, n_tryAgainst) := hf
    exact kX9_stopOne_36 C0 hA hK w_2 w_3 w_4 w_5 w_6 _ _ _ hf hP hD hS (lv_sub hl [] rfl)
set_option maxHeartbeats 4000000 in
set_option maxRecDepth 100000 in
theorem kX9_stopOne_7 {p : Program} {l : Launch} {e : Env} {s : State} {m : MethodId} {args : Array Value} {below : List Frame} {meth : Method} {c : Code} {dC : Nat → ClassId} {dI : Nat → Nat → Nat} {A : Nat → Prop} {cI cJ cZ cG : ClassId} {h h_effect h_number h_banned h_has h_life h_shield h_strength h_haveMet h_deck h_deckSize h_who h_does h_much h_against h_pack h_packSize h_gives h_wants h_tryWho h_tryDoes h_tryMuch h_tryAgainst h_tryLife h_tryShield h_ring h_row : Nat} {v_thrown : Int32} {v_today : Int32} {v_kinds : Int32} {v_stacked : Int32} {v_drafters : Int32} {v_cards : Int32} {v_round : Int32} {v_turn : Int32} {v_ringSize : Int32} {v_many : Int32} {n_high : Int32} {n_tryWho : Nat → Int32} {n_tryDoes : Nat → Int32} {n_tryMuch : Nat → Int64} {n_tryAgainst : Nat → Int32} (C0 : wCX p s args m meth c cX9_stopOne 3 none RX9 wsX9_stopOne) (hA : ∀ q, s.heap.size ≤ q → A q) (hK : va_K (dC, dI) vwCl (tysW cI cJ cZ cG) s) : ∀ (n : Nat), ∀ (v_high : Int32) (v_tryWho : Nat → Int32) (v_tryDoes : Nat → Int32) (v_tryMuch : Nat → Int64) (v_tryAgainst : Nat → Int32) (l1 : Int32) (l2 : Int32) (H : Heap) (locs : List Loc) (ls : Array Slot), fX9_stopOne_b7 n v_high v_tryWho v_tryDoes v_tryMuch v_tryAgainst l1 l2 = some (n_high, n_tryWho, n_tryDoes, n_tryMuch, n_tryAgainst) → va_P (dC, dI) vwCl (wcX9_stopOne cI cJ cZ cG h h_effect h_number h_banned h_has h_life h_shield h_strength h_haveMet h_deck h_deckSize h_who h_does h_much h_against h_pack h_packSize h_gives h_wants h_tryWho h_tryDoes h_tryMuch h_tryAgainst h_tryLife h_tryShield h_ring h_row v_thrown v_today v_kinds v_stacked v_drafters v_cards v_round v_turn v_high v_ringSize v_many v_tryWho v_tryDoes v_tryMuch v_tryAgainst) H → va_D A (wcX9_stopOne cI cJ cZ cG h h_effect h_number h_banned h_has h_life h_shield h_strength h_haveMet h_deck h_deckSize h_who h_does h_much h_against h_pack h_packSize h_gives h_wants h_tryWho h_tryDoes h_tryMuch h_tryAgainst h_tryLife h_tryShield h_ring h_row v_thrown v_today v_kinds v_stacked v_drafters v_cards v_round v_turn v_high v_ringSize v_many v_tryWho v_tryDoes v_tryMuch v_tryAgainst) → va_S A s.heap H locs → lv_has ls 3 [(0, .ref h), (1, .int l1), (2, .int l2)] → W p l e rmX9_stopOne s m args below meth c H locs 0 0 (MQ below (wQv (wcX9_stopOne cI cJ cZ cG h h_effect h_number h_banned h_has h_life h_shield h_strength h_haveMet h_deck h_deckSize h_who h_does h_much h_against h_pack h_packSize h_gives h_wants h_tryWho h_tryDoes h_tryMuch h_tryAgainst h_tryLife h_tryShield h_ring h_row v_thrown v_today v_kinds v_stacked v_drafters v_cards v_round v_turn n_high v_ringSize v_many n_tryWho n_tryDoes n_tryMuch n_tryAgainst) (dC, dI) A) args s 0 0 A) (F0 m 7 ls []) := by
  obtain ⟨hx, hb, hr, hml, hown, hts, hlocks⟩ := id C0
  intro n
  induction n with
  | zero =>
    intro v_high v_tryWho v_tryDoes v_tryMuch v_tryAgainst l1 l2 H locs ls hf hP hD hS hl
    rw [fX9_stopOne_b7] at hf
    cases hf
  | succ n ih =>
    intro v_high v_tryWho v_tryDoes v_tryMuch v_tryAgainst l1 l2 H locs ls hf hP hD hS hl
    rw [fX9_stopOne_b7] at hf
    refine lv_iload_n hx hb dX9_stopOne_7 rfl (lv_at hl 2 rfl) ?_
    refine lv_if_lt (tgt := 27) hx hb dX9_stopOne_8 (by decide) (fun c_1 => ?_) (fun c_1 => ?_)
    · have hf := it_t hf c_1
      have hf : fX9_stopOne_b27 v_high v_tryWho v_tryDoes v_tryMuch v_tryAgainst l2 = some (n_high, n_tryWho, n_tryDoes, n_tryMuch, n_tryAgainst) := hf
      exact kX9_stopOne_27 C0 hA hK v_high v_tryWho v_tryDoes v_tryMuch v_tryAgainst l2 _ _ _ hf hP hD hS (lv_sub hl [0, 2] rfl)
    · have hf := it_f hf c_1
      refine lv_aload_n hx hb dX9_stopOne_11 rfl (lv_at hl 0 rfl) ?_
      refine va_get (D := (dC, dI)) (ci := 9) (v := .ref h_tryWho) (C := RX9) (T := TX9) (N := 37) hx hb hts iX9_stopOne_X9 hown hK hP 0 rfl rfl 27 (by decide) (hts _ mX9_stopOne_1) (fun _ h9 => h9) rfl dX9_stopOne_12 ?_
      refine lv_iload_n hx hb dX9_stopOne_15 rfl (lv_at hl 2 rfl) ?_
      obtain ⟨hg_2, hf⟩ := ck_s hf
      refine va_iald (D := (dC, dI)) hx hb hK hP 1 0 rfl rfl (g_vp hg_2) dX9_stopOne_16 ?_
      refine lv_iload_n hx hb dX9_stopOne_17 rfl (lv_at hl 1 rfl) ?_
      refine lv_icmp_ne (tgt := 27) hx hb dX9_stopOne_18 (by decide) (fun c_3 => ?_) (fun c_3 => ?_)
      · have hf := it_f hf c_3
        have hf : fX9_stopOne_b27 v_high v_tryWho v_tryDoes v_tryMuch v_tryAgainst l2 = some (n_high, n_tryWho, n_tryDoes, n_tryMuch, n_tryAgainst) := hf
        exact kX9_stopOne_27 C0 hA hK v_high v_tryWho v_tryDoes v_tryMuch v_tryAgainst l2 _ _ _ hf hP hD hS (lv_sub hl [0, 2] rfl)
      · have hf := it_t hf c_3
        obtain ⟨x_4, ex_4, hf⟩ := nm_s hf
        refine lv_iinc (v := x_4) (lv' := [(2, .int x_4), (0, .ref h), (1, .int l1)]) hx hb dX9_stopOne_21 hl (k := 2) rfl (by rw [ex_4]; rfl) (by decide) rfl (fun ls hl => ?_)
        refine lv_goto (tgt := 7) hx hb dX9_stopOne_24 (by decide) ?_
        have hf : (fX9_stopOne_b7 n) v_high v_tryWho v_tryDoes v_tryMuch v_tryAgainst l1 x_4 = some (n_high, n_tryWho, n_tryDoes, n_tryMuch, n_tryAgainst) := hf
        exact ih v_high v_tryWho v_tryDoes v_tryMuch v_tryAgainst l1 x_4 _ _ _ hf hP hD hS (lv_sub hl [1, 2, 0] rfl)
set_option maxHeartbeats 4000000 in
set_option maxRecDepth 100000 in
theorem oX9_stopOne (l : Launch) (dC : Nat → ClassId) (dI : Nat → Nat → Nat) (cI cJ cZ cG : ClassId) (h h_effect h_number h_banned h_has h_life h_shield h_strength h_haveMet h_deck h_deckSize h_who h_does h_much h_against h_pack h_packSize h_gives h_wants h_tryWho h_tryDoes h_tryMuch h_tryAgainst h_tryLife h_tryShield h_ring h_row : Nat) (v_thrown : Int32) (v_today : Int32) (v_kinds : Int32) (v_stacked : Int32) (v_drafters : Int32) (v_cards : Int32) (v_round : Int32) (v_turn : Int32) (v_high : Int32) (v_ringSize : Int32) (v_many : Int32) (v_tryWho : Nat → Int32) (v_tryDoes : Nat → Int32) (v_tryMuch : Nat → Int64) (v_tryAgainst : Nat → Int32) (sz : Nat) (p1 : Int32) (n_high : Int32) (n_tryWho : Nat → Int32) (n_tryDoes : Nat → Int32) (n_tryMuch : Nat → Int64) (n_tryAgainst : Nat → Int32) (hf : fX9_stopOne v_high v_tryWho v_tryDoes v_tryMuch v_tryAgainst p1 = some (n_high, n_tryWho, n_tryDoes, n_tryMuch, n_tryAgainst)) : Met l yX9_stopOne wsX9_stopOne rmX9_stopOne (wPc [.ref h, .int p1] (dC, dI) (tysW cI cJ cZ cG) sz (wcX9_stopOne cI cJ cZ cG h h_effect h_number h_banned h_has h_life h_shield h_strength h_haveMet h_deck h_deckSize h_who h_does h_much h_against h_pack h_packSize h_gives h_wants h_tryWho h_tryDoes h_tryMuch h_tryAgainst h_tryLife h_tryShield h_ring h_row v_thrown v_today v_kinds v_stacked v_drafters v_cards v_round v_turn v_high v_ringSize v_many v_tryWho v_tryDoes v_tryMuch v_tryAgainst)) (wQv (wcX9_stopOne cI cJ cZ cG h h_effect h_number h_banned h_has h_life h_shield h_strength h_haveMet h_deck h_deckSize h_who h_does h_much h_against h_pack h_packSize h_gives h_wants h_tryWho h_tryDoes h_tryMuch h_tryAgainst h_tryLife h_tryShield h_ring h_row v_thrown v_today v_kinds v_stacked v_drafters v_cards v_round v_turn n_high v_ringSize v_many n_tryWho n_tryDoes n_tryMuch n_tryAgainst) (dC, dI) (va_A (wcX9_stopOne cI cJ cZ cG h h_effect h_number h_banned h_has h_life h_shield h_strength h_haveMet h_deck h_deckSize h_who h_does h_much h_against h_pack h_packSize h_gives h_wants h_tryWho h_tryDoes h_tryMuch h_tryAgainst h_tryLife h_tryShield h_ring h_row v_thrown v_today v_kinds v_stacked v_drafters v_cards v_round v_turn v_high v_ringSize v_many v_tryWho v_tryDoes v_tryMuch v_tryAgainst) sz)) 0 0 (va_A (wcX9_stopOne cI cJ cZ cG h h_effect h_number h_banned h_has h_life h_shield h_strength h_haveMet h_deck h_deckSize h_who h_does h_much h_against h_pack h_packSize h_gives h_wants h_tryWho h_tryDoes h_tryMuch h_tryAgainst h_tryLife h_tryShield h_ring h_row v_thrown v_today v_kinds v_stacked v_drafters v_cards v_round v_turn v_high v_ringSize v_many v_tryWho v_tryDoes v_tryMuch v_tryAgainst) sz) := by
  refine Met.ofW (cc := cX9_stopOne) (maxL := 3) (ret := none) (by decide) rfl ?_
  intro p e s m args below meth c s₁ B hml hv
  obtain ⟨rfl, hsz, hP, hK, hD0⟩ := hv
  have hx := B.exec
  have hb := B.bytes
  have hr := B.returns
  have hts := atoms_spec (ws := wsX9_stopOne) B.pre
  have hown : s.vm.findClass RX9 = some m.cls := findClass_of_methodNamed B.named
  have hlocks := B.notSynchronized
  subst hsz
  have hD := hD0.self (sz := s.heap.size)
  generalize hAe : va_A (wcX9_stopOne cI cJ cZ cG h h_effect h_number h_banned h_has h_life h_shield h_strength h_haveMet h_deck h_deckSize h_who h_does h_much h_against h_pack h_packSize h_gives h_wants h_tryWho h_tryDoes h_tryMuch h_tryAgainst h_tryLife h_tryShield h_ring h_row v_thrown v_today v_kinds v_stacked v_drafters v_cards v_round v_turn v_high v_ringSize v_many v_tryWho v_tryDoes v_tryMuch v_tryAgainst) s.heap.size = A at hD ⊢
  have hA : ∀ q : Nat, s.heap.size ≤ q → A q := fun q h => by rw [← hAe]; exact Or.inr h
  have hS : va_S A s.heap s.heap [] := va_S.rf
  have hP : va_P (dC, dI) vwCl (wcX9_stopOne cI cJ cZ cG h h_effect h_number h_banned h_has h_life h_shield h_strength h_haveMet h_deck h_deckSize h_who h_does h_much h_against h_pack h_packSize h_gives h_wants h_tryWho h_tryDoes h_tryMuch h_tryAgainst h_tryLife h_tryShield h_ring h_row v_thrown v_today v_kinds v_stacked v_drafters v_cards v_round v_turn v_high v_ringSize v_many v_tryWho v_tryDoes v_tryMuch v_tryAgainst) s.heap := hP
  have hl := lv_entry ([.ref h, .int p1]) (n := 3) (Nat.le_of_ble_eq_true rfl)
  rw [lg_entry_eq]
  generalize (lg_sl ([.ref h, .int p1]) ++ List.replicate (3 - (lg_sl ([.ref h, .int p1])).length) Slot.unset).toArray = ls at hl ⊢
  have hl : lv_has ls 3 [(0, .ref h), (1, .int p1)] := hl
  generalize hH : s.heap = H at hP hS ⊢
  have hS : va_S A s.heap H [] := by rw [hH]; exact hS
  have C0 : wCX p s #[.ref h, .int p1] m meth c cX9_stopOne 3 none RX9 wsX9_stopOne := ⟨hx, hb, hr, hml, hown, hts, hlocks⟩
  show W p l e rmX9_stopOne s m #[.ref h, .int p1] below meth c H [] 0 0 (MQ below (wQv (wcX9_stopOne cI cJ cZ cG h h_effect h_number h_banned h_has h_life h_shield h_strength h_haveMet h_deck h_deckSize h_who h_does h_much h_against h_pack h_packSize h_gives h_wants h_tryWho h_tryDoes h_tryMuch h_tryAgainst h_tryLife h_tryShield h_ring h_row v_thrown v_today v_kinds v_stacked v_drafters v_cards v_round v_turn n_high v_ringSize v_many n_tryWho n_tryDoes n_tryMuch n_tryAgainst) (dC, dI) A) #[.ref h, .int p1] s 0 0 A) (F0 m 0 ls [])
  unfold fX9_stopOne at hf
  refine lv_aload_n hx hb dX9_stopOne_0 rfl (lv_at hl 0 rfl) ?_
  refine va_get (D := (dC, dI)) (ci := 9) (v := .int v_high) (C := RX9) (T := TX9) (N := 37) hx hb hts iX9_stopOne_X9 hown hK hP 0 rfl rfl 26 (by decide) (hts _ mX9_stopOne_0) (fun _ h9 => h9) rfl dX9_stopOne_1 ?_
  refine lv_iconst (v := 1) hx hb dX9_stopOne_4 (by decide) ?_
  refine lv_isub hx hb dX9_stopOne_5 ?_
  obtain ⟨x_1, ex_1, hf⟩ := nm_s hf
  refine w_eqi ex_1 ?_
  refine lv_istore_n (lv' := [(2, .int x_1), (0, .ref h), (1, .int p1)]) hx hb dX9_stopOne_6 rfl hl (by decide) rfl (fun ls hl => ?_)
  have hf : fX9_stopOne_b7 70 v_high v_tryWho v_tryDoes v_tryMuch v_tryAgainst p1 x_1 = some (n_high, n_tryWho, n_tryDoes, n_tryMuch, n_tryAgainst) := hf
  exact kX9_stopOne_7 C0 hA hK 70 v_high v_tryWho v_tryDoes v_tryMuch v_tryAgainst p1 x_1 _ _ _ hf hP hD hS (lv_sub hl [1, 2, 0] rfl)
abbrev wcX9_tryTop (cI cJ cZ cG : ClassId) (h h_effect h_number h_banned h_has h_life h_shield h_strength h_haveMet h_deck h_deckSize h_who h_does h_much h_against h_pack h_packSize h_gives h_wants h_tryWho h_tryDoes h_tryMuch h_tryAgainst h_tryLife h_tryShield h_ring h_row : Nat) (v_thrown : Int32) (v_today : Int32) (v_kinds : Int32) (v_stacked : Int32) (v_drafters : Int32) (v_cards : Int32) (v_round : Int32) (v_turn : Int32) (v_high : Int32) (v_ringSize : Int32) (v_many : Int32) (v_tryWho : Nat → Int32) (v_tryDoes : Nat → Int32) (v_tryMuch : Nat → Int64) (v_tryAgainst : Nat → Int32) (v_tryLife : Nat → Int64) (v_tryShield : Nat → Int64) : va_W := [(h, .inr (9, [.int v_thrown, .int v_today, .int v_kinds, .ref h_effect, .ref h_number, .ref h_banned, .ref h_has, .ref h_life, .ref h_shield, .ref h_strength, .ref h_haveMet, .ref h_deck, .ref h_deckSize, .int v_stacked, .ref h_who, .ref h_does, .ref h_much, .ref h_against, .int v_drafters, .int v_cards, .int v_round, .int v_turn, .ref h_pack, .ref h_packSize, .ref h_gives, .ref h_wants, .int v_high, .ref h_tryWho, .ref h_tryDoes, .ref h_tryMuch, .ref h_tryAgainst, .ref h_tryLife, .ref h_tryShield, .int v_ringSize, .ref h_ring, .int v_many, .ref h_row])), (h_tryWho, .inl (cI, 6, .inl v_tryWho)), (h_tryDoes, .inl (cI, 6, .inl v_tryDoes)), (h_tryMuch, .inl (cJ, 6, .inr (.inl v_tryMuch))), (h_tryAgainst, .inl (cI, 6, .inl v_tryAgainst)), (h_tryLife, .inl (cJ, 6, .inr (.inl v_tryLife))), (h_tryShield, .inl (cJ, 6, .inr (.inl v_tryShield)))]
theorem iX9_tryTop_X9 : ∀ w ∈ wsX90, w ∈ wsX9_tryTop := by decide +kernel
theorem mX9_tryTop_0 : (Cond.fieldLink RX9 132 "SleevehallModel" "high" "I") ∈ wsX9_tryTop := by decide +kernel
theorem mX9_tryTop_1 : (Cond.fieldLink RX9 79 "SleevehallModel" "tryAgainst" "[I") ∈ wsX9_tryTop := by decide +kernel
theorem mX9_tryTop_2 : (Cond.fieldLink RX9 75 "SleevehallModel" "tryMuch" "[J") ∈ wsX9_tryTop := by decide +kernel
theorem mX9_tryTop_3 : (Cond.fieldLink RX9 72 "SleevehallModel" "tryDoes" "[I") ∈ wsX9_tryTop := by decide +kernel
theorem mX9_tryTop_4 : (Cond.fieldLink RX9 85 "SleevehallModel" "tryShield" "[J") ∈ wsX9_tryTop := by decide +kernel
theorem mX9_tryTop_5 : (Cond.fieldLink RX9 82 "SleevehallModel" "tryLife" "[J") ∈ wsX9_tryTop := by decide +kernel
theorem mX9_tryTop_6 : (Cond.fieldLink RX9 69 "SleevehallModel" "tryWho" "[I") ∈ wsX9_tryTop := by decide +kernel
theorem mX9_tryTop_7 : (Cond.constantLong RX9 146 (2)) ∈ wsX9_tryTop := by decide +kernel
abbrev rmX9_tryTop : Room := { frames := 2, cells := 0, slots := 0, locals := 44 }
set_option maxHeartbeats 4000000 in
set_option maxRecDepth 100000 in
theorem kX9_tryTop_93 {p : Program} {l : Launch} {e : Env} {s : State} {m : MethodId} {args : Array Value} {below : List Frame} {meth : Method} {c : Code} {dC : Nat → ClassId} {dI : Nat → Nat → Nat} {A : Nat → Prop} {cI cJ cZ cG : ClassId} {h h_effect h_number h_banned h_has h_life h_shield h_strength h_haveMet h_deck h_deckSize h_who h_does h_much h_against h_pack h_packSize h_gives h_wants h_tryWho h_tryDoes h_tryMuch h_tryAgainst h_tryLife h_tryShield h_ring h_row : Nat} {v_thrown : Int32} {v_today : Int32} {v_kinds : Int32} {v_stacked : Int32} {v_drafters : Int32} {v_cards : Int32} {v_round : Int32} {v_turn : Int32} {v_ringSize : Int32} {v_many : Int32} {r0 : Int32} {n_high : Int32} {n_tryWho : Nat → Int32} {n_tryDoes : Nat → Int32} {n_tryMuch : Nat → Int64} {n_tryAgainst : Nat → Int32} {n_tryLife : Nat → Int64} {n_tryShield : Nat → Int64} (C0 : wCX p s args m meth c cX9_tryTop 7 (some .boolean) RX9 wsX9_tryTop) (hA : ∀ q, s.heap.size ≤ q → A q) (hK : va_K (dC, dI) vwCl (tysW cI cJ cZ cG) s) : ∀ (v_high : Int32) (v_tryWho : Nat → Int32) (v_tryDoes : Nat → Int32) (v_tryMuch : Nat → Int64) (v_tryAgainst : Nat → Int32) (v_tryLife : Nat → Int64) (v_tryShield : Nat → Int64) (l1 : Int32) (l2 : Int64) (s0 : Int64) (H : Heap) (locs : List Loc) (ls : Array Slot), fX9_tryTop_b93 v_high v_tryWho v_tryDoes v_tryMuch v_tryAgainst v_tryLife v_tryShield l1 l2 s0 = some (r0, n_high, n_tryWho, n_tryDoes, n_tryMuch, n_tryAgainst, n_tryLife, n_tryShield) → va_P (dC, dI) vwCl (wcX9_tryTop cI cJ cZ cG h h_effect h_number h_banned h_has h_life h_shield h_strength h_haveMet h_deck h_deckSize h_who h_does h_much h_against h_pack h_packSize h_gives h_wants h_tryWho h_tryDoes h_tryMuch h_tryAgainst h_tryLife h_tryShield h_ring h_row v_thrown v_today v_kinds v_stacked v_drafters v_cards v_round v_turn v_high v_ringSize v_many v_tryWho v_tryDoes v_tryMuch v_tryAgainst v_tryLife v_tryShield) H → va_D A (wcX9_tryTop cI cJ cZ cG h h_effect h_number h_banned h_has h_life h_shield h_strength h_haveMet h_deck h_deckSize h_who h_does h_much h_against h_pack h_packSize h_gives h_wants h_tryWho h_tryDoes h_tryMuch h_tryAgainst h_tryLife h_tryShield h_ring h_row v_thrown v_today v_kinds v_stacked v_drafters v_cards v_round v_turn v_high v_ringSize v_many v_tryWho v_tryDoes v_tryMuch v_tryAgainst v_tryLife v_tryShield) → va_S A s.heap H locs → lv_has ls 7 [(0, .ref h), (1, .int l1), (2, .long l2)] → W p l e rmX9_tryTop s m args below meth c H locs 0 0 (MQ below (wQz r0 (wcX9_tryTop cI cJ cZ cG h h_effect h_number h_banned h_has h_life h_shield h_strength h_haveMet h_deck h_deckSize h_who h_does h_much h_against h_pack h_packSize h_gives h_wants h_tryWho h_tryDoes h_tryMuch h_tryAgainst h_tryLife h_tryShield h_ring h_row v_thrown v_today v_kinds v_stacked v_drafters v_cards v_round v_turn n_high v_ringSize v_many n_tryWho n_tryDoes n_tryMuch n_tryAgainst n_tryLife n_tryShield) (dC, dI) A) args s 0 0 A) (F0 m 93 ls [.long s0]) := by
  obtain ⟨hx, hb, hr, hml, hown, hts, hlocks⟩ := id C0
  intro v_high v_tryWho v_tryDoes v_tryMuch v_tryAgainst v_tryLife v_tryShield l1 l2 s0 H locs ls hf hP hD hS hl
  unfold fX9_tryTop_b93 at hf
  refine lv_lstore (lv' := [(4, .long s0), (0, .ref h), (1, .int l1), (2, .long l2)]) hx hb dX9_tryTop_93 hl (by decide) rfl (fun ls hl => ?_)
  refine lv_aload_n hx hb dX9_tryTop_95 rfl (lv_at hl 1 rfl) ?_
  refine va_get (D := (dC, dI)) (ci := 9) (v := .ref h_tryShield) (C := RX9) (T := TX9) (N := 37) hx hb hts iX9_tryTop_X9 hown hK hP 0 rfl rfl 32 (by decide) (hts _ mX9_tryTop_4) (fun _ h9 => h9) rfl dX9_tryTop_96 ?_
  refine lv_iload_n hx hb dX9_tryTop_99 rfl (lv_at hl 2 rfl) ?_
  refine lv_dup2_11 hx hb dX9_tryTop_100 rfl rfl ?_
  obtain ⟨hg_1, hf⟩ := ck_s hf
  refine va_lald (D := (dC, dI)) hx hb hK hP 6 1 rfl rfl (g_vp hg_1) dX9_tryTop_101 ?_
  refine lv_lload hx hb dX9_tryTop_102 (lv_at hl 0 rfl) ?_
  refine lv_lsub hx hb dX9_tryTop_104 ?_
  obtain ⟨x_2, ex_2, hf⟩ := nm_s hf
  refine w_eql ex_2 ?_
  obtain ⟨hg_3, hf⟩ := ck_s hf
  refine va_last (D := (dC, dI)) hx hb hK hP hD hS 6 1 rfl rfl (g_vp hg_3) dX9_tryTop_105 (fun H locs hP hD hS => ?_)
  have hP : va_P (dC, dI) vwCl (wcX9_tryTop cI cJ cZ cG h h_effect h_number h_banned h_has h_life h_shield h_strength h_haveMet h_deck h_deckSize h_who h_does h_much h_against h_pack h_packSize h_gives h_wants h_tryWho h_tryDoes h_tryMuch h_tryAgainst h_tryLife h_tryShield h_ring h_row v_thrown v_today v_kinds v_stacked v_drafters v_cards v_round v_turn v_high v_ringSize v_many v_tryWho v_tryDoes v_tryMuch v_tryAgainst v_tryLife (vp_updL v_tryShield l1.toNatClampNeg x_2)) H := hP
  have hD : va_D A (wcX9_tryTop cI cJ cZ cG h h_effect h_number h_banned h_has h_life h_shield h_strength h_haveMet h_deck h_deckSize h_who h_does h_much h_against h_pack h_packSize h_gives h_wants h_tryWho h_tryDoes h_tryMuch h_tryAgainst h_tryLife h_tryShield h_ring h_row v_thrown v_today v_kinds v_stacked v_drafters v_cards v_round v_turn v_high v_ringSize v_many v_tryWho v_tryDoes v_tryMuch v_tryAgainst v_tryLife (vp_updL v_tryShield l1.toNatClampNeg x_2)) := hD
  refine lv_aload_n hx hb dX9_tryTop_106 rfl (lv_at hl 1 rfl) ?_
  refine va_get (D := (dC, dI)) (ci := 9) (v := .ref h_tryLife) (C := RX9) (T := TX9) (N := 37) hx hb hts iX9_tryTop_X9 hown hK hP 0 rfl rfl 31 (by decide) (hts _ mX9_tryTop_5) (fun _ h9 => h9) rfl dX9_tryTop_107 ?_
  refine lv_iload_n hx hb dX9_tryTop_110 rfl (lv_at hl 2 rfl) ?_
  refine lv_dup2_11 hx hb dX9_tryTop_111 rfl rfl ?_
  obtain ⟨hg_4, hf⟩ := ck_s hf
  refine va_lald (D := (dC, dI)) hx hb hK hP 5 1 rfl rfl (g_vp hg_4) dX9_tryTop_112 ?_
  refine lv_lload_n hx hb dX9_tryTop_113 rfl (lv_at hl 3 rfl) ?_
  refine lv_lload hx hb dX9_tryTop_114 (lv_at hl 0 rfl) ?_
  refine lv_lsub hx hb dX9_tryTop_116 ?_
  refine lv_lsub hx hb dX9_tryTop_117 ?_
  obtain ⟨x_5, ex_5, hf⟩ := nm_s hf
  refine w_eql ex_5 ?_
  obtain ⟨hg_6, hf⟩ := ck_s hf
  refine va_last (D := (dC, dI)) hx hb hK hP hD hS 5 1 rfl rfl (g_vp hg_6) dX9_tryTop_118 (fun H locs hP hD hS => ?_)
  have hP : va_P (dC, dI) vwCl (wcX9_tryTop cI cJ cZ cG h h_effect h_number h_banned h_has h_life h_shield h_strength h_haveMet h_deck h_deckSize h_who h_does h_much h_against h_pack h_packSize h_gives h_wants h_tryWho h_tryDoes h_tryMuch h_tryAgainst h_tryLife h_tryShield h_ring h_row v_thrown v_today v_kinds v_stacked v_drafters v_cards v_round v_turn v_high v_ringSize v_many v_tryWho v_tryDoes v_tryMuch v_tryAgainst (vp_updL v_tryLife l1.toNatClampNeg x_5) (vp_updL v_tryShield l1.toNatClampNeg x_2)) H := hP
  have hD : va_D A (wcX9_tryTop cI cJ cZ cG h h_effect h_number h_banned h_has h_life h_shield h_strength h_haveMet h_deck h_deckSize h_who h_does h_much h_against h_pack h_packSize h_gives h_wants h_tryWho h_tryDoes h_tryMuch h_tryAgainst h_tryLife h_tryShield h_ring h_row v_thrown v_today v_kinds v_stacked v_drafters v_cards v_round v_turn v_high v_ringSize v_many v_tryWho v_tryDoes v_tryMuch v_tryAgainst (vp_updL v_tryLife l1.toNatClampNeg x_5) (vp_updL v_tryShield l1.toNatClampNeg x_2)) := hD
  refine lv_aload_n hx hb dX9_tryTop_119 rfl (lv_at hl 1 rfl) ?_
  refine va_get (D := (dC, dI)) (ci := 9) (v := .ref h_tryLife) (C := RX9) (T := TX9) (N := 37) hx hb hts iX9_tryTop_X9 hown hK hP 0 rfl rfl 31 (by decide) (hts _ mX9_tryTop_5) (fun _ h9 => h9) rfl dX9_tryTop_120 ?_
  refine lv_iload_n hx hb dX9_tryTop_123 rfl (lv_at hl 2 rfl) ?_
  obtain ⟨hg_7, hf⟩ := ck_s hf
  refine va_lald (D := (dC, dI)) hx hb hK hP 5 1 rfl rfl (g_vp hg_7) dX9_tryTop_124 ?_
  obtain ⟨r_8, hc_9, hf⟩ := ob_s hf
  refine w_callSz (As := [.long ((vp_updL v_tryLife l1.toNatClampNeg x_5) l1.toNatClampNeg)]) (rest := []) ⟨hx, hb, hml, hown, hts⟩ (oX9_isInt l dC dI cI cJ cZ cG H.size ((vp_updL v_tryLife l1.toNatClampNeg x_5) l1.toNatClampNeg) r_8 hc_9) (va_cwS 1 hts gX9_tryTop_X9_isInt rfl rfl rfl (by decide +kernel) ⟨Nat.le_of_ble_eq_true rfl, Nat.le_of_ble_eq_true rfl⟩) hK hP hS hA rfl hl.1 rfl (Nat.le_of_ble_eq_true rfl) dX9_tryTop_125 ⟨Nat.le_refl _, Nat.le_refl _⟩ (fun hz_10 H locs hP hS => ?_)
  have hf : some (r_8, v_high, v_tryWho, v_tryDoes, v_tryMuch, v_tryAgainst, (vp_updL v_tryLife l1.toNatClampNeg x_5), (vp_updL v_tryShield l1.toNatClampNeg x_2)) = some (r0, n_high, n_tryWho, n_tryDoes, n_tryMuch, n_tryAgainst, n_tryLife, n_tryShield) := hf
  cases hf
  exact w_zret hx hb hr hlocks rfl hz_10 hP hD hS dX9_tryTop_128
set_option maxHeartbeats 4000000 in
set_option maxRecDepth 100000 in
theorem kX9_tryTop_237 {p : Program} {l : Launch} {e : Env} {s : State} {m : MethodId} {args : Array Value} {below : List Frame} {meth : Method} {c : Code} {dC : Nat → ClassId} {dI : Nat → Nat → Nat} {A : Nat → Prop} {cI cJ cZ cG : ClassId} {h h_effect h_number h_banned h_has h_life h_shield h_strength h_haveMet h_deck h_deckSize h_who h_does h_much h_against h_pack h_packSize h_gives h_wants h_tryWho h_tryDoes h_tryMuch h_tryAgainst h_tryLife h_tryShield h_ring h_row : Nat} {v_thrown : Int32} {v_today : Int32} {v_kinds : Int32} {v_stacked : Int32} {v_drafters : Int32} {v_cards : Int32} {v_round : Int32} {v_turn : Int32} {v_ringSize : Int32} {v_many : Int32} {r0 : Int32} {n_high : Int32} {n_tryWho : Nat → Int32} {n_tryDoes : Nat → Int32} {n_tryMuch : Nat → Int64} {n_tryAgainst : Nat → Int32} {n_tryLife : Nat → Int64} {n_tryShield : Nat → Int64} (C0 : wCX p s args m meth c cX9_tryTop 7 (some .boolean) RX9 wsX9_tryTop) (hA : ∀ q, s.heap.size ≤ q → A q) (hK : va_K (dC, dI) vwCl (tysW cI cJ cZ cG) s) : ∀ (v_high : Int32) (v_tryWho : Nat → Int32) (v_tryDoes : Nat → Int32) (v_tryMuch : Nat → Int64) (v_tryAgainst : Nat → Int32) (v_tryLife : Nat → Int64) (v_tryShield : Nat → Int64) (s0 : Int32) (hz_s0 : wB s0) (H : Heap) (locs : List Loc) (ls : Array Slot), fX9_tryTop_b237 v_high v_tryWho v_tryDoes v_tryMuch v_tryAgainst v_tryLife v_tryShield s0 = some (r0, n_high, n_tryWho, n_tryDoes, n_tryMuch, n_tryAgainst, n_tryLife, n_tryShield) → va_P (dC, dI) vwCl (wcX9_tryTop cI cJ cZ cG h h_effect h_number h_banned h_has h_life h_shield h_strength h_haveMet h_deck h_deckSize h_who h_does h_much h_against h_pack h_packSize h_gives h_wants h_tryWho h_tryDoes h_tryMuch h_tryAgainst h_tryLife h_tryShield h_ring h_row v_thrown v_today v_kinds v_stacked v_drafters v_cards v_round v_turn v_high v_ringSize v_many v_tryWho v_tryDoes v_tryMuch v_tryAgainst v_tryLife v_tryShield) H → va_D A (wcX9_tryTop cI cJ cZ cG h h_effect h_number h_banned h_has h_life h_shield h_strength h_haveMet h_deck h_deckSize h_who h_does h_much h_against h_pack h_packSize h_gives h_wants h_tryWho h_tryDoes h_tryMuch h_tryAgainst h_tryLife h_tryShield h_ring h_row v_thrown v_today v_kinds v_stacked v_drafters v_cards v_round v_turn v_high v_ringSize v_many v_tryWho v_tryDoes v_tryMuch v_tryAgainst v_tryLife v_tryShield) → va_S A s.heap H locs → lv_has ls 7 [] → W p l e rmX9_tryTop s m args below meth c H locs 0 0 (MQ below (wQz r0 (wcX9_tryTop cI cJ cZ cG h h_effect h_number h_banned h_has h_life h_shield h_strength h_haveMet h_deck h_deckSize h_who h_does h_much h_against h_pack h_packSize h_gives h_wants h_tryWho h_tryDoes h_tryMuch h_tryAgainst h_tryLife h_tryShield h_ring h_row v_thrown v_today v_kinds v_stacked v_drafters v_cards v_round v_turn n_high v_ringSize v_many n_tryWho n_tryDoes n_tryMuch n_tryAgainst n_tryLife n_tryShield) (dC, dI) A) args s 0 0 A) (F0 m 237 ls [.int s0]) := by
  obtain ⟨hx, hb, hr, hml, hown, hts, hlocks⟩ := id C0
  intro v_high v_tryWho v_tryDoes v_tryMuch v_tryAgainst v_tryLife v_tryShield s0 hz_s0 H locs ls hf hP hD hS hl
  unfold fX9_tryTop_b237 at hf
  have hf : some (s0, v_high, v_tryWho, v_tryDoes, v_tryMuch, v_tryAgainst, v_tryLife, v_tryShield) = some (r0, n_high, n_tryWho, n_tryDoes, n_tryMuch, n_tryAgainst, n_tryLife, n_tryShield) := hf
  cases hf
  exact w_zret hx hb hr hlocks rfl hz_s0 hP hD hS dX9_tryTop_237
set_option maxHeartbeats 4000000 in
set_option maxRecDepth 100000 in
theorem kX9_tryTop_232 {p : Program} {l : Launch} {e : Env} {s : State} {m : MethodId} {args : Array Value} {below : List Frame} {meth : Method} {c : Code} {dC : Nat → ClassId} {dI : Nat → Nat → Nat} {A : Nat → Prop} {cI cJ cZ cG : ClassId} {h h_effect h_number h_banned h_has h_life h_shield h_strength h_haveMet h_deck h_deckSize h_who h_does h_much h_against h_pack h_packSize h_gives h_wants h_tryWho h_tryDoes h_tryMuch h_tryAgainst h_tryLife h_tryShield h_ring h_row : Nat} {v_thrown : Int32} {v_today : Int32} {v_kinds : Int32} {v_stacked : Int32} {v_drafters : Int32} {v_cards : Int32} {v_round : Int32} {v_turn : Int32} {v_ringSize : Int32} {v_many : Int32} {r0 : Int32} {n_high : Int32} {n_tryWho : Nat → Int32} {n_tryDoes : Nat → Int32} {n_tryMuch : Nat → Int64} {n_tryAgainst : Nat → Int32} {n_tryLife : Nat → Int64} {n_tryShield : Nat → Int64} (C0 : wCX p s args m meth c cX9_tryTop 7 (some .boolean) RX9 wsX9_tryTop) (hA : ∀ q, s.heap.size ≤ q → A q) (hK : va_K (dC, dI) vwCl (tysW cI cJ cZ cG) s) : ∀ (v_high : Int32) (v_tryWho : Nat → Int32) (v_tryDoes : Nat → Int32) (v_tryMuch : Nat → Int64) (v_tryAgainst : Nat → Int32) (v_tryLife : Nat → Int64) (v_tryShield : Nat → Int64) (H : Heap) (locs : List Loc) (ls : Array Slot), fX9_tryTop_b232 v_high v_tryWho v_tryDoes v_tryMuch v_tryAgainst v_tryLife v_tryShield = some (r0, n_high, n_tryWho, n_tryDoes, n_tryMuch, n_tryAgainst, n_tryLife, n_tryShield) → va_P (dC, dI) vwCl (wcX9_tryTop cI cJ cZ cG h h_effect h_number h_banned h_has h_life h_shield h_strength h_haveMet h_deck h_deckSize h_who h_does h_much h_against h_pack h_packSize h_gives h_wants h_tryWho h_tryDoes h_tryMuch h_tryAgainst h_tryLife h_tryShield h_ring h_row v_thrown v_today v_kinds v_stacked v_drafters v_cards v_round v_turn v_high v_ringSize v_many v_tryWho v_tryDoes v_tryMuch v_tryAgainst v_tryLife v_tryShield) H → va_D A (wcX9_tryTop cI cJ cZ cG h h_effect h_number h_banned h_has h_life h_shield h_strength h_haveMet h_deck h_deckSize h_who h_does h_much h_against h_pack h_packSize h_gives h_wants h_tryWho h_tryDoes h_tryMuch h_tryAgainst h_tryLife h_tryShield h_ring h_row v_thrown v_today v_kinds v_stacked v_drafters v_cards v_round v_turn v_high v_ringSize v_many v_tryWho v_tryDoes v_tryMuch v_tryAgainst v_tryLife v_tryShield) → va_S A s.heap H locs → lv_has ls 7 [] → W p l e rmX9_tryTop s m args below meth c H locs 0 0 (MQ below (wQz r0 (wcX9_tryTop cI cJ cZ cG h h_effect h_number h_banned h_has h_life h_shield h_strength h_haveMet h_deck h_deckSize h_who h_does h_much h_against h_pack h_packSize h_gives h_wants h_tryWho h_tryDoes h_tryMuch h_tryAgainst h_tryLife h_tryShield h_ring h_row v_thrown v_today v_kinds v_stacked v_drafters v_cards v_round v_turn n_high v_ringSize v_many n_tryWho n_tryDoes n_tryMuch n_tryAgainst n_tryLife n_tryShield) (dC, dI) A) args s 0 0 A) (F0 m 232 ls []) := by
  obtain ⟨hx, hb, hr, hml, hown, hts, hlocks⟩ := id C0
  intro v_high v_tryWho v_tryDoes v_tryMuch v_tryAgainst v_tryLife v_tryShield H locs ls hf hP hD hS hl
  unfold fX9_tryTop_b232 at hf
  refine lv_iconst (v := 1) hx hb dX9_tryTop_232 (by decide) ?_
  refine lv_goto (tgt := 237) hx hb dX9_tryTop_233 (by decide) ?_
  have hf : fX9_tryTop_b237 v_high v_tryWho v_tryDoes v_tryMuch v_tryAgainst v_tryLife v_tryShield 1 = some (r0, n_high, n_tryWho, n_tryDoes, n_tryMuch, n_tryAgainst, n_tryLife, n_tryShield) := hf
  exact kX9_tryTop_237 C0 hA hK v_high v_tryWho v_tryDoes v_tryMuch v_tryAgainst v_tryLife v_tryShield 1 (Or.inr rfl) _ _ _ hf hP hD hS (lv_sub hl [] rfl)
set_option maxHeartbeats 4000000 in
set_option maxRecDepth 100000 in
theorem kX9_tryTop_208 {p : Program} {l : Launch} {e : Env} {s : State} {m : MethodId} {args : Array Value} {below : List Frame} {meth : Method} {c : Code} {dC : Nat → ClassId} {dI : Nat → Nat → Nat} {A : Nat → Prop} {cI cJ cZ cG : ClassId} {h h_effect h_number h_banned h_has h_life h_shield h_strength h_haveMet h_deck h_deckSize h_who h_does h_much h_against h_pack h_packSize h_gives h_wants h_tryWho h_tryDoes h_tryMuch h_tryAgainst h_tryLife h_tryShield h_ring h_row : Nat} {v_thrown : Int32} {v_today : Int32} {v_kinds : Int32} {v_stacked : Int32} {v_drafters : Int32} {v_cards : Int32} {v_round : Int32} {v_turn : Int32} {v_ringSize : Int32} {v_many : Int32} {r0 : Int32} {n_high : Int32} {n_tryWho : Nat → Int32} {n_tryDoes : Nat → Int32} {n_tryMuch : Nat → Int64} {n_tryAgainst : Nat → Int32} {n_tryLife : Nat → Int64} {n_tryShield : Nat → Int64} (C0 : wCX p s args m meth c cX9_tryTop 7 (some .boolean) RX9 wsX9_tryTop) (hA : ∀ q, s.heap.size ≤ q → A q) (hK : va_K (dC, dI) vwCl (tysW cI cJ cZ cG) s) : ∀ (v_high : Int32) (v_tryWho : Nat → Int32) (v_tryDoes : Nat → Int32) (v_tryMuch : Nat → Int64) (v_tryAgainst : Nat → Int32) (v_tryLife : Nat → Int64) (v_tryShield : Nat → Int64) (H : Heap) (locs : List Loc) (ls : Array Slot), fX9_tryTop_b208 v_high v_tryWho v_tryDoes v_tryMuch v_tryAgainst v_tryLife v_tryShield = some (r0, n_high, n_tryWho, n_tryDoes, n_tryMuch, n_tryAgainst, n_tryLife, n_tryShield) → va_P (dC, dI) vwCl (wcX9_tryTop cI cJ cZ cG h h_effect h_number h_banned h_has h_life h_shield h_strength h_haveMet h_deck h_deckSize h_who h_does h_much h_against h_pack h_packSize h_gives h_wants h_tryWho h_tryDoes h_tryMuch h_tryAgainst h_tryLife h_tryShield h_ring h_row v_thrown v_today v_kinds v_stacked v_drafters v_cards v_round v_turn v_high v_ringSize v_many v_tryWho v_tryDoes v_tryMuch v_tryAgainst v_tryLife v_tryShield) H → va_D A (wcX9_tryTop cI cJ cZ cG h h_effect h_number h_banned h_has h_life h_shield h_strength h_haveMet h_deck h_deckSize h_who h_does h_much h_against h_pack h_packSize h_gives h_wants h_tryWho h_tryDoes h_tryMuch h_tryAgainst h_tryLife h_tryShield h_ring h_row v_thrown v_today v_kinds v_stacked v_drafters v_cards v_round v_turn v_high v_ringSize v_many v_tryWho v_tryDoes v_tryMuch v_tryAgainst v_tryLife v_tryShield) → va_S A s.heap H locs → lv_has ls 7 [(0, .ref h)] → W p l e rmX9_tryTop s m args below meth c H locs 0 0 (MQ below (wQz r0 (wcX9_tryTop cI cJ cZ cG h h_effect h_number h_banned h_has h_life h_shield h_strength h_haveMet h_deck h_deckSize h_who h_does h_much h_against h_pack h_packSize h_gives h_wants h_tryWho h_tryDoes h_tryMuch h_tryAgainst h_tryLife h_tryShield h_ring h_row v_thrown v_today v_kinds v_stacked v_drafters v_cards v_round v_turn n_high v_ringSize v_many n_tryWho n_tryDoes n_tryMuch n_tryAgainst n_tryLife n_tryShield) (dC, dI) A) args s 0 0 A) (F0 m 208 ls []) := by
  obtain ⟨hx, hb, hr, hml, hown, hts, hlocks⟩ := id C0
  intro v_high v_tryWho v_tryDoes v_tryMuch v_tryAgainst v_tryLife v_tryShield H locs ls hf hP hD hS hl
  unfold fX9_tryTop_b208 at hf
  refine lv_aload_n hx hb dX9_tryTop_208 rfl (lv_at hl 0 rfl) ?_
  refine va_get (D := (dC, dI)) (ci := 9) (v := .int v_high) (C := RX9) (T := TX9) (N := 37) hx hb hts iX9_tryTop_X9 hown hK hP 0 rfl rfl 26 (by decide) (hts _ mX9_tryTop_0) (fun _ h9 => h9) rfl dX9_tryTop_209 ?_
  refine lv_if_eq (tgt := 232) hx hb dX9_tryTop_212 (by decide) (fun c_1 => ?_) (fun c_1 => ?_)
  · have hf := it_t hf c_1
    have hf : fX9_tryTop_b232 v_high v_tryWho v_tryDoes v_tryMuch v_tryAgainst v_tryLife v_tryShield = some (r0, n_high, n_tryWho, n_tryDoes, n_tryMuch, n_tryAgainst, n_tryLife, n_tryShield) := hf
    exact kX9_tryTop_232 C0 hA hK v_high v_tryWho v_tryDoes v_tryMuch v_tryAgainst v_tryLife v_tryShield _ _ _ hf hP hD hS (lv_sub hl [] rfl)
  · have hf := it_f hf c_1
    refine lv_aload_n hx hb dX9_tryTop_215 rfl (lv_at hl 0 rfl) ?_
    refine va_get (D := (dC, dI)) (ci := 9) (v := .ref h_tryMuch) (C := RX9) (T := TX9) (N := 37) hx hb hts iX9_tryTop_X9 hown hK hP 0 rfl rfl 29 (by decide) (hts _ mX9_tryTop_2) (fun _ h9 => h9) rfl dX9_tryTop_216 ?_
    refine lv_aload_n hx hb dX9_tryTop_219 rfl (lv_at hl 0 rfl) ?_
    refine va_get (D := (dC, dI)) (ci := 9) (v := .int v_high) (C := RX9) (T := TX9) (N := 37) hx hb hts iX9_tryTop_X9 hown hK hP 0 rfl rfl 26 (by decide) (hts _ mX9_tryTop_0) (fun _ h9 => h9) rfl dX9_tryTop_220 ?_
    refine lv_iconst (v := 1) hx hb dX9_tryTop_223 (by decide) ?_
    refine lv_isub hx hb dX9_tryTop_224 ?_
    obtain ⟨hg_2, hf⟩ := ck_s hf
    refine va_lald (D := (dC, dI)) hx hb hK hP 3 1 rfl rfl (g_vp hg_2) dX9_tryTop_225 ?_
    obtain ⟨r_3, hc_4, hf⟩ := ob_s hf
    refine w_callSz (As := [.long (v_tryMuch (v_high - 1).toNatClampNeg)]) (rest := []) ⟨hx, hb, hml, hown, hts⟩ (oX9_isInt l dC dI cI cJ cZ cG H.size (v_tryMuch (v_high - 1).toNatClampNeg) r_3 hc_4) (va_cwS 1 hts gX9_tryTop_X9_isInt rfl rfl rfl (by decide +kernel) ⟨Nat.le_of_ble_eq_true rfl, Nat.le_of_ble_eq_true rfl⟩) hK hP hS hA rfl hl.1 rfl (Nat.le_of_ble_eq_true rfl) dX9_tryTop_226 ⟨Nat.le_refl _, Nat.le_refl _⟩ (fun hz_5 H locs hP hS => ?_)
    refine lv_if_eq (tgt := 236) hx hb dX9_tryTop_229 (by decide) (fun c_6 => ?_) (fun c_6 => ?_)
    · have hf := it_t hf c_6
      refine lv_iconst (v := 0) hx hb dX9_tryTop_236 (by decide) ?_
      have hf : fX9_tryTop_b237 v_high v_tryWho v_tryDoes v_tryMuch v_tryAgainst v_tryLife v_tryShield 0 = some (r0, n_high, n_tryWho, n_tryDoes, n_tryMuch, n_tryAgainst, n_tryLife, n_tryShield) := hf
      exact kX9_tryTop_237 C0 hA hK v_high v_tryWho v_tryDoes v_tryMuch v_tryAgainst v_tryLife v_tryShield 0 (Or.inl rfl) _ _ _ hf hP hD hS (lv_sub hl [] rfl)
    · have hf := it_f hf c_6
      have hf : fX9_tryTop_b232 v_high v_tryWho v_tryDoes v_tryMuch v_tryAgainst v_tryLife v_tryShield = some (r0, n_high, n_tryWho, n_tryDoes, n_tryMuch, n_tryAgainst, n_tryLife, n_tryShield) := hf
      exact kX9_tryTop_232 C0 hA hK v_high v_tryWho v_tryDoes v_tryMuch v_tryAgainst v_tryLife v_tryShield _ _ _ hf hP hD hS (lv_sub hl [] rfl)
set_option maxHeartbeats 4000000 in
set_option maxRecDepth 100000 in
theorem kX9_tryTop_292 {p : Program} {l : Launch} {e : Env} {s : State} {m : MethodId} {args : Array Value} {below : List Frame} {meth : Method} {c : Code} {dC : Nat → ClassId} {dI : Nat → Nat → Nat} {A : Nat → Prop} {cI cJ cZ cG : ClassId} {h h_effect h_number h_banned h_has h_life h_shield h_strength h_haveMet h_deck h_deckSize h_who h_does h_much h_against h_pack h_packSize h_gives h_wants h_tryWho h_tryDoes h_tryMuch h_tryAgainst h_tryLife h_tryShield h_ring h_row : Nat} {v_thrown : Int32} {v_today : Int32} {v_kinds : Int32} {v_stacked : Int32} {v_drafters : Int32} {v_cards : Int32} {v_round : Int32} {v_turn : Int32} {v_ringSize : Int32} {v_many : Int32} {r0 : Int32} {n_high : Int32} {n_tryWho : Nat → Int32} {n_tryDoes : Nat → Int32} {n_tryMuch : Nat → Int64} {n_tryAgainst : Nat → Int32} {n_tryLife : Nat → Int64} {n_tryShield : Nat → Int64} {k_241 : Int32 → (Nat → Int32) → (Nat → Int32) → (Nat → Int64) → (Nat → Int32) → (Nat → Int64) → (Nat → Int64) → Int32 → Option (Int32 × Int32 × (Nat → Int32) × (Nat → Int32) × (Nat → Int64) × (Nat → Int32) × (Nat → Int64) × (Nat → Int64))} (C0 : wCX p s args m meth c cX9_tryTop 7 (some .boolean) RX9 wsX9_tryTop) (hA : ∀ q, s.heap.size ≤ q → A q) (hK : va_K (dC, dI) vwCl (tysW cI cJ cZ cG) s) (hk_241 : ∀ (v_high : Int32) (v_tryWho : Nat → Int32) (v_tryDoes : Nat → Int32) (v_tryMuch : Nat → Int64) (v_tryAgainst : Nat → Int32) (v_tryLife : Nat → Int64) (v_tryShield : Nat → Int64) (l6 : Int32) (H : Heap) (locs : List Loc) (ls : Array Slot), k_241 v_high v_tryWho v_tryDoes v_tryMuch v_tryAgainst v_tryLife v_tryShield l6 = some (r0, n_high, n_tryWho, n_tryDoes, n_tryMuch, n_tryAgainst, n_tryLife, n_tryShield) → va_P (dC, dI) vwCl (wcX9_tryTop cI cJ cZ cG h h_effect h_number h_banned h_has h_life h_shield h_strength h_haveMet h_deck h_deckSize h_who h_does h_much h_against h_pack h_packSize h_gives h_wants h_tryWho h_tryDoes h_tryMuch h_tryAgainst h_tryLife h_tryShield h_ring h_row v_thrown v_today v_kinds v_stacked v_drafters v_cards v_round v_turn v_high v_ringSize v_many v_tryWho v_tryDoes v_tryMuch v_tryAgainst v_tryLife v_tryShield) H → va_D A (wcX9_tryTop cI cJ cZ cG h h_effect h_number h_banned h_has h_life h_shield h_strength h_haveMet h_deck h_deckSize h_who h_does h_much h_against h_pack h_packSize h_gives h_wants h_tryWho h_tryDoes h_tryMuch h_tryAgainst h_tryLife h_tryShield h_ring h_row v_thrown v_today v_kinds v_stacked v_drafters v_cards v_round v_turn v_high v_ringSize v_many v_tryWho v_tryDoes v_tryMuch v_tryAgainst v_tryLife v_tryShield) → va_S A s.heap H locs → lv_has ls 7 [(0, .ref h), (6, .int l6)] → W p l e rmX9_tryTop s m args below meth c H locs 0 0 (MQ below (wQz r0 (wcX9_tryTop cI cJ cZ cG h h_effect h_number h_banned h_has h_life h_shield h_strength h_haveMet h_deck h_deckSize h_who h_does h_much h_against h_pack h_packSize h_gives h_wants h_tryWho h_tryDoes h_tryMuch h_tryAgainst h_tryLife h_tryShield h_ring h_row v_thrown v_today v_kinds v_stacked v_drafters v_cards v_round v_turn n_high v_ringSize v_many n_tryWho n_tryDoes n_tryMuch n_tryAgainst n_tryLife n_tryShield) (dC, dI) A) args s 0 0 A) (F0 m 241 ls [])) : ∀ (v_high : Int32) (v_tryWho : Nat → Int32) (v_tryDoes : Nat → Int32) (v_tryMuch : Nat → Int64) (v_tryAgainst : Nat → Int32) (v_tryLife : Nat → Int64) (v_tryShield : Nat → Int64) (l6 : Int32) (s1 : Int32) (s2 : Int32) (H : Heap) (locs : List Loc) (ls : Array Slot), fX9_tryTop_b292 k_241 v_high v_tryWho v_tryDoes v_tryMuch v_tryAgainst v_tryLife v_tryShield l6 s1 s2 = some (r0, n_high, n_tryWho, n_tryDoes, n_tryMuch, n_tryAgainst, n_tryLife, n_tryShield) → va_P (dC, dI) vwCl (wcX9_tryTop cI cJ cZ cG h h_effect h_number h_banned h_has h_life h_shield h_strength h_haveMet h_deck h_deckSize h_who h_does h_much h_against h_pack h_packSize h_gives h_wants h_tryWho h_tryDoes h_tryMuch h_tryAgainst h_tryLife h_tryShield h_ring h_row v_thrown v_today v_kinds v_stacked v_drafters v_cards v_round v_turn v_high v_ringSize v_many v_tryWho v_tryDoes v_tryMuch v_tryAgainst v_tryLife v_tryShield) H → va_D A (wcX9_tryTop cI cJ cZ cG h h_effect h_number h_banned h_has h_life h_shield h_strength h_haveMet h_deck h_deckSize h_who h_does h_much h_against h_pack h_packSize h_gives h_wants h_tryWho h_tryDoes h_tryMuch h_tryAgainst h_tryLife h_tryShield h_ring h_row v_thrown v_today v_kinds v_stacked v_drafters v_cards v_round v_turn v_high v_ringSize v_many v_tryWho v_tryDoes v_tryMuch v_tryAgainst v_tryLife v_tryShield) → va_S A s.heap H locs → lv_has ls 7 [(0, .ref h), (6, .int l6)] → W p l e rmX9_tryTop s m args below meth c H locs 0 0 (MQ below (wQz r0 (wcX9_tryTop cI cJ cZ cG h h_effect h_number h_banned h_has h_life h_shield h_strength h_haveMet h_deck h_deckSize h_who h_does h_much h_against h_pack h_packSize h_gives h_wants h_tryWho h_tryDoes h_tryMuch h_tryAgainst h_tryLife h_tryShield h_ring h_row v_thrown v_today v_kinds v_stacked v_drafters v_cards v_round v_turn n_high v_ringSize v_many n_tryWho n_tryDoes n_tryMuch n_tryAgainst n_tryLife n_tryShield) (dC, dI) A) args s 0 0 A) (F0 m 292 ls [.int s2, .int s1, .ref h_tryDoes]) := by
  obtain ⟨hx, hb, hr, hml, hown, hts, hlocks⟩ := id C0
  intro v_high v_tryWho v_tryDoes v_tryMuch v_tryAgainst v_tryLife v_tryShield l6 s1 s2 H locs ls hf hP hD hS hl
  unfold fX9_tryTop_b292 at hf
  obtain ⟨hg_1, hf⟩ := ck_s hf
  refine va_iast (D := (dC, dI)) hx hb hK hP hD hS 2 0 rfl rfl (g_vp hg_1) dX9_tryTop_292 (fun H locs hP hD hS => ?_)
  have hP : va_P (dC, dI) vwCl (wcX9_tryTop cI cJ cZ cG h h_effect h_number h_banned h_has h_life h_shield h_strength h_haveMet h_deck h_deckSize h_who h_does h_much h_against h_pack h_packSize h_gives h_wants h_tryWho h_tryDoes h_tryMuch h_tryAgainst h_tryLife h_tryShield h_ring h_row v_thrown v_today v_kinds v_stacked v_drafters v_cards v_round v_turn v_high v_ringSize v_many v_tryWho (upd v_tryDoes s1.toNatClampNeg s2) v_tryMuch v_tryAgainst v_tryLife v_tryShield) H := hP
  have hD : va_D A (wcX9_tryTop cI cJ cZ cG h h_effect h_number h_banned h_has h_life h_shield h_strength h_haveMet h_deck h_deckSize h_who h_does h_much h_against h_pack h_packSize h_gives h_wants h_tryWho h_tryDoes h_tryMuch h_tryAgainst h_tryLife h_tryShield h_ring h_row v_thrown v_today v_kinds v_stacked v_drafters v_cards v_round v_turn v_high v_ringSize v_many v_tryWho (upd v_tryDoes s1.toNatClampNeg s2) v_tryMuch v_tryAgainst v_tryLife v_tryShield) := hD
  obtain ⟨x_2, ex_2, hf⟩ := nm_s hf
  refine lv_iinc (v := x_2) (lv' := [(6, .int x_2), (0, .ref h)]) hx hb dX9_tryTop_293 hl (k := 1) rfl (by rw [ex_2]; rfl) (by decide) rfl (fun ls hl => ?_)
  refine lv_goto (tgt := 241) hx hb dX9_tryTop_296 (by decide) ?_
  have hf : k_241 v_high v_tryWho (upd v_tryDoes s1.toNatClampNeg s2) v_tryMuch v_tryAgainst v_tryLife v_tryShield x_2 = some (r0, n_high, n_tryWho, n_tryDoes, n_tryMuch, n_tryAgainst, n_tryLife, n_tryShield) := hf
  exact hk_241 v_high v_tryWho (upd v_tryDoes s1.toNatClampNeg s2) v_tryMuch v_tryAgainst v_tryLife v_tryShield x_2 _ _ _ hf hP hD hS (lv_sub hl [1, 0] rfl)
set_option maxHeartbeats 4000000 in
set_option maxRecDepth 100000 in
theorem kX9_tryTop_241 {p : Program} {l : Launch} {e : Env} {s : State} {m : MethodId} {args : Array Value} {below : List Frame} {meth : Method} {c : Code} {dC : Nat → ClassId} {dI : Nat → Nat → Nat} {A : Nat → Prop} {cI cJ cZ cG : ClassId} {h h_effect h_number h_banned h_has h_life h_shield h_strength h_haveMet h_deck h_deckSize h_who h_does h_much h_against h_pack h_packSize h_gives h_wants h_tryWho h_tryDoes h_tryMuch h_tryAgainst h_tryLife h_tryShield h_ring h_row : Nat} {v_thrown : Int32} {v_today : Int32} {v_kinds : Int32} {v_stacked : Int32} {v_drafters : Int32} {v_cards : Int32} {v_round : Int32} {v_turn : Int32} {v_ringSize : Int32} {v_many : Int32} {r0 : Int32} {n_high : Int32} {n_tryWho : Nat → Int32} {n_tryDoes : Nat → Int32} {n_tryMuch : Nat → Int64} {n_tryAgainst : Nat → Int32} {n_tryLife : Nat → Int64} {n_tryShield : Nat → Int64} (C0 : wCX p s args m meth c cX9_tryTop 7 (some .boolean) RX9 wsX9_tryTop) (hA : ∀ q, s.heap.size ≤ q → A q) (hK : va_K (dC, dI) vwCl (tysW cI cJ cZ cG) s) : ∀ (n : Nat), ∀ (v_high : Int32) (v_tryWho : Nat → Int32) (v_tryDoes : Nat → Int32) (v_tryMuch : Nat → Int64) (v_tryAgainst : Nat → Int32) (v_tryLife : Nat → Int64) (v_tryShield : Nat → Int64) (l6 : Int32) (H : Heap) (locs : List Loc) (ls : Array Slot), fX9_tryTop_b241 n v_high v_tryWho v_tryDoes v_tryMuch v_tryAgainst v_tryLife v_tryShield l6 = some (r0, n_high, n_tryWho, n_tryDoes, n_tryMuch, n_tryAgainst, n_tryLife, n_tryShield) → va_P (dC, dI) vwCl (wcX9_tryTop cI cJ cZ cG h h_effect h_number h_banned h_has h_life h_shield h_strength h_haveMet h_deck h_deckSize h_who h_does h_much h_against h_pack h_packSize h_gives h_wants h_tryWho h_tryDoes h_tryMuch h_tryAgainst h_tryLife h_tryShield h_ring h_row v_thrown v_today v_kinds v_stacked v_drafters v_cards v_round v_turn v_high v_ringSize v_many v_tryWho v_tryDoes v_tryMuch v_tryAgainst v_tryLife v_tryShield) H → va_D A (wcX9_tryTop cI cJ cZ cG h h_effect h_number h_banned h_has h_life h_shield h_strength h_haveMet h_deck h_deckSize h_who h_does h_much h_against h_pack h_packSize h_gives h_wants h_tryWho h_tryDoes h_tryMuch h_tryAgainst h_tryLife h_tryShield h_ring h_row v_thrown v_today v_kinds v_stacked v_drafters v_cards v_round v_turn v_high v_ringSize v_many v_tryWho v_tryDoes v_tryMuch v_tryAgainst v_tryLife v_tryShield) → va_S A s.heap H locs → lv_has ls 7 [(0, .ref h), (6, .int l6)] → W p l e rmX9_tryTop s m args below meth c H locs 0 0 (MQ below (wQz r0 (wcX9_tryTop cI cJ cZ cG h h_effect h_number h_banned h_has h_life h_shield h_strength h_haveMet h_deck h_deckSize h_who h_does h_much h_against h_pack h_packSize h_gives h_wants h_tryWho h_tryDoes h_tryMuch h_tryAgainst h_tryLife h_tryShield h_ring h_row v_thrown v_today v_kinds v_stacked v_drafters v_cards v_round v_turn n_high v_ringSize v_many n_tryWho n_tryDoes n_tryMuch n_tryAgainst n_tryLife n_tryShield) (dC, dI) A) args s 0 0 A) (F0 m 241 ls []) := by
  obtain ⟨hx, hb, hr, hml, hown, hts, hlocks⟩ := id C0
  intro n
  induction n with
  | zero =>
    intro v_high v_tryWho v_tryDoes v_tryMuch v_tryAgainst v_tryLife v_tryShield l6 H locs ls hf hP hD hS hl
    rw [fX9_tryTop_b241] at hf
    cases hf
  | succ n ih =>
    intro v_high v_tryWho v_tryDoes v_tryMuch v_tryAgainst v_tryLife v_tryShield l6 H locs ls hf hP hD hS hl
    rw [fX9_tryTop_b241] at hf
    refine lv_iload hx hb dX9_tryTop_241 (lv_at hl 1 rfl) ?_
    refine lv_aload_n hx hb dX9_tryTop_243 rfl (lv_at hl 0 rfl) ?_
    refine va_get (D := (dC, dI)) (ci := 9) (v := .int v_high) (C := RX9) (T := TX9) (N := 37) hx hb hts iX9_tryTop_X9 hown hK hP 0 rfl rfl 26 (by decide) (hts _ mX9_tryTop_0) (fun _ h9 => h9) rfl dX9_tryTop_244 ?_
    refine lv_icmp_ge (tgt := 299) hx hb dX9_tryTop_247 (by decide) (fun c_1 => ?_) (fun c_1 => ?_)
    · have hf := it_t hf c_1
      refine lv_iconst (v := 1) hx hb dX9_tryTop_299 (by decide) ?_
      have hf : some (1, v_high, v_tryWho, v_tryDoes, v_tryMuch, v_tryAgainst, v_tryLife, v_tryShield) = some (r0, n_high, n_tryWho, n_tryDoes, n_tryMuch, n_tryAgainst, n_tryLife, n_tryShield) := hf
      cases hf
      exact w_zret hx hb hr hlocks rfl (Or.inr rfl) hP hD hS dX9_tryTop_300
    · have hf := it_f hf c_1
      refine lv_aload_n hx hb dX9_tryTop_250 rfl (lv_at hl 0 rfl) ?_
      refine va_get (D := (dC, dI)) (ci := 9) (v := .ref h_tryDoes) (C := RX9) (T := TX9) (N := 37) hx hb hts iX9_tryTop_X9 hown hK hP 0 rfl rfl 28 (by decide) (hts _ mX9_tryTop_3) (fun _ h9 => h9) rfl dX9_tryTop_251 ?_
      refine lv_iload hx hb dX9_tryTop_254 (lv_at hl 1 rfl) ?_
      refine lv_aload_n hx hb dX9_tryTop_256 rfl (lv_at hl 0 rfl) ?_
      refine va_get (D := (dC, dI)) (ci := 9) (v := .ref h_tryDoes) (C := RX9) (T := TX9) (N := 37) hx hb hts iX9_tryTop_X9 hown hK hP 0 rfl rfl 28 (by decide) (hts _ mX9_tryTop_3) (fun _ h9 => h9) rfl dX9_tryTop_257 ?_
      refine lv_iload hx hb dX9_tryTop_260 (lv_at hl 1 rfl) ?_
      obtain ⟨hg_2, hf⟩ := ck_s hf
      refine va_iald (D := (dC, dI)) hx hb hK hP 2 0 rfl rfl (g_vp hg_2) dX9_tryTop_262 ?_
      refine lv_if_ne (tgt := 270) hx hb dX9_tryTop_263 (by decide) (fun c_3 => ?_) (fun c_3 => ?_)
      · have hf := it_f hf c_3
        refine lv_aload_n hx hb dX9_tryTop_270 rfl (lv_at hl 0 rfl) ?_
        refine va_get (D := (dC, dI)) (ci := 9) (v := .ref h_tryDoes) (C := RX9) (T := TX9) (N := 37) hx hb hts iX9_tryTop_X9 hown hK hP 0 rfl rfl 28 (by decide) (hts _ mX9_tryTop_3) (fun _ h9 => h9) rfl dX9_tryTop_271 ?_
        refine lv_iload hx hb dX9_tryTop_274 (lv_at hl 1 rfl) ?_
        obtain ⟨hg_4, hf⟩ := ck_s hf
        refine va_iald (D := (dC, dI)) hx hb hK hP 2 0 rfl rfl (g_vp hg_4) dX9_tryTop_276 ?_
        refine lv_iconst (v := 1) hx hb dX9_tryTop_277 (by decide) ?_
        refine lv_icmp_ne (tgt := 285) hx hb dX9_tryTop_278 (by decide) (fun c_5 => ?_) (fun c_5 => ?_)
        · have hf := it_f hf c_5
          refine lv_aload_n hx hb dX9_tryTop_285 rfl (lv_at hl 0 rfl) ?_
          refine va_get (D := (dC, dI)) (ci := 9) (v := .ref h_tryDoes) (C := RX9) (T := TX9) (N := 37) hx hb hts iX9_tryTop_X9 hown hK hP 0 rfl rfl 28 (by decide) (hts _ mX9_tryTop_3) (fun _ h9 => h9) rfl dX9_tryTop_286 ?_
          refine lv_iload hx hb dX9_tryTop_289 (lv_at hl 1 rfl) ?_
          obtain ⟨hg_6, hf⟩ := ck_s hf
          refine va_iald (D := (dC, dI)) hx hb hK hP 2 0 rfl rfl (g_vp hg_6) dX9_tryTop_291 ?_
          have hf : fX9_tryTop_b292 (fX9_tryTop_b241 n) v_high v_tryWho v_tryDoes v_tryMuch v_tryAgainst v_tryLife v_tryShield l6 l6 (v_tryDoes l6.toNatClampNeg) = some (r0, n_high, n_tryWho, n_tryDoes, n_tryMuch, n_tryAgainst, n_tryLife, n_tryShield) := hf
          exact kX9_tryTop_292 C0 hA hK ih v_high v_tryWho v_tryDoes v_tryMuch v_tryAgainst v_tryLife v_tryShield l6 l6 (v_tryDoes l6.toNatClampNeg) _ _ _ hf hP hD hS (lv_sub hl [0, 1] rfl)
        · have hf := it_t hf c_5
          refine lv_iconst (v := 0) hx hb dX9_tryTop_281 (by decide) ?_
          refine lv_goto (tgt := 292) hx hb dX9_tryTop_282 (by decide) ?_
          have hf : fX9_tryTop_b292 (fX9_tryTop_b241 n) v_high v_tryWho v_tryDoes v_tryMuch v_tryAgainst v_tryLife v_tryShield l6 l6 0 = some (r0, n_high, n_tryWho, n_tryDoes, n_tryMuch, n_tryAgainst, n_tryLife, n_tryShield) := hf
          exact kX9_tryTop_292 C0 hA hK ih v_high v_tryWho v_tryDoes v_tryMuch v_tryAgainst v_tryLife v_tryShield l6 l6 0 _ _ _ hf hP hD hS (lv_sub hl [0, 1] rfl)
      · have hf := it_t hf c_3
        refine lv_iconst (v := 1) hx hb dX9_tryTop_266 (by decide) ?_
        refine lv_goto (tgt := 292) hx hb dX9_tryTop_267 (by decide) ?_
        have hf : fX9_tryTop_b292 (fX9_tryTop_b241 n) v_high v_tryWho v_tryDoes v_tryMuch v_tryAgainst v_tryLife v_tryShield l6 l6 1 = some (r0, n_high, n_tryWho, n_tryDoes, n_tryMuch, n_tryAgainst, n_tryLife, n_tryShield) := hf
        exact kX9_tryTop_292 C0 hA hK ih v_high v_tryWho v_tryDoes v_tryMuch v_tryAgainst v_tryLife v_tryShield l6 l6 1 _ _ _ hf hP hD hS (lv_sub hl [0, 1] rfl)
set_option maxHeartbeats 4000000 in
set_option maxRecDepth 100000 in
theorem oX9_tryTop (l : Launch) (dC : Nat → ClassId) (dI : Nat → Nat → Nat) (cI cJ cZ cG : ClassId) (h h_effect h_number h_banned h_has h_life h_shield h_strength h_haveMet h_deck h_deckSize h_who h_does h_much h_against h_pack h_packSize h_gives h_wants h_tryWho h_tryDoes h_tryMuch h_tryAgainst h_tryLife h_tryShield h_ring h_row : Nat) (v_thrown : Int32) (v_today : Int32) (v_kinds : Int32) (v_stacked : Int32) (v_drafters : Int32) (v_cards : Int32) (v_round : Int32) (v_turn : Int32) (v_high : Int32) (v_ringSize : Int32) (v_many : Int32) (v_tryWho : Nat → Int32) (v_tryDoes : Nat → Int32) (v_tryMuch : Nat → Int64) (v_tryAgainst : Nat → Int32) (v_tryLife : Nat → Int64) (v_tryShield : Nat → Int64) (sz : Nat) (r0 : Int32) (n_high : Int32) (n_tryWho : Nat → Int32) (n_tryDoes : Nat → Int32) (n_tryMuch : Nat → Int64) (n_tryAgainst : Nat → Int32) (n_tryLife : Nat → Int64) (n_tryShield : Nat → Int64) (hf : fX9_tryTop v_high v_tryWho v_tryDoes v_tryMuch v_tryAgainst v_tryLife v_tryShield = some (r0, n_high, n_tryWho, n_tryDoes, n_tryMuch, n_tryAgainst, n_tryLife, n_tryShield)) : Met l yX9_tryTop wsX9_tryTop rmX9_tryTop (wPc [.ref h] (dC, dI) (tysW cI cJ cZ cG) sz (wcX9_tryTop cI cJ cZ cG h h_effect h_number h_banned h_has h_life h_shield h_strength h_haveMet h_deck h_deckSize h_who h_does h_much h_against h_pack h_packSize h_gives h_wants h_tryWho h_tryDoes h_tryMuch h_tryAgainst h_tryLife h_tryShield h_ring h_row v_thrown v_today v_kinds v_stacked v_drafters v_cards v_round v_turn v_high v_ringSize v_many v_tryWho v_tryDoes v_tryMuch v_tryAgainst v_tryLife v_tryShield)) (wQz r0 (wcX9_tryTop cI cJ cZ cG h h_effect h_number h_banned h_has h_life h_shield h_strength h_haveMet h_deck h_deckSize h_who h_does h_much h_against h_pack h_packSize h_gives h_wants h_tryWho h_tryDoes h_tryMuch h_tryAgainst h_tryLife h_tryShield h_ring h_row v_thrown v_today v_kinds v_stacked v_drafters v_cards v_round v_turn n_high v_ringSize v_many n_tryWho n_tryDoes n_tryMuch n_tryAgainst n_tryLife n_tryShield) (dC, dI) (va_A (wcX9_tryTop cI cJ cZ cG h h_effect h_number h_banned h_has h_life h_shield h_strength h_haveMet h_deck h_deckSize h_who h_does h_much h_against h_pack h_packSize h_gives h_wants h_tryWho h_tryDoes h_tryMuch h_tryAgainst h_tryLife h_tryShield h_ring h_row v_thrown v_today v_kinds v_stacked v_drafters v_cards v_round v_turn v_high v_ringSize v_many v_tryWho v_tryDoes v_tryMuch v_tryAgainst v_tryLife v_tryShield) sz)) 0 0 (va_A (wcX9_tryTop cI cJ cZ cG h h_effect h_number h_banned h_has h_life h_shield h_strength h_haveMet h_deck h_deckSize h_who h_does h_much h_against h_pack h_packSize h_gives h_wants h_tryWho h_tryDoes h_tryMuch h_tryAgainst h_tryLife h_tryShield h_ring h_row v_thrown v_today v_kinds v_stacked v_drafters v_cards v_round v_turn v_high v_ringSize v_many v_tryWho v_tryDoes v_tryMuch v_tryAgainst v_tryLife v_tryShield) sz) := by
  refine Met.ofW (cc := cX9_tryTop) (maxL := 7) (ret := (some .boolean)) (by decide) rfl ?_
  intro p e s m args below meth c s₁ B hml hv
  obtain ⟨rfl, hsz, hP, hK, hD0⟩ := hv
  have hx := B.exec
  have hb := B.bytes
  have hr := B.returns
  have hts := atoms_spec (ws := wsX9_tryTop) B.pre
  have hown : s.vm.findClass RX9 = some m.cls := findClass_of_methodNamed B.named
  have hlocks := B.notSynchronized
  subst hsz
  have hD := hD0.self (sz := s.heap.size)
  generalize hAe : va_A (wcX9_tryTop cI cJ cZ cG h h_effect h_number h_banned h_has h_life h_shield h_strength h_haveMet h_deck h_deckSize h_who h_does h_much h_against h_pack h_packSize h_gives h_wants h_tryWho h_tryDoes h_tryMuch h_tryAgainst h_tryLife h_tryShield h_ring h_row v_thrown v_today v_kinds v_stacked v_drafters v_cards v_round v_turn v_high v_ringSize v_many v_tryWho v_tryDoes v_tryMuch v_tryAgainst v_tryLife v_tryShield) s.heap.size = A at hD ⊢
  have hA : ∀ q : Nat, s.heap.size ≤ q → A q := fun q h => by rw [← hAe]; exact Or.inr h
  have hS : va_S A s.heap s.heap [] := va_S.rf
  have hP : va_P (dC, dI) vwCl (wcX9_tryTop cI cJ cZ cG h h_effect h_number h_banned h_has h_life h_shield h_strength h_haveMet h_deck h_deckSize h_who h_does h_much h_against h_pack h_packSize h_gives h_wants h_tryWho h_tryDoes h_tryMuch h_tryAgainst h_tryLife h_tryShield h_ring h_row v_thrown v_today v_kinds v_stacked v_drafters v_cards v_round v_turn v_high v_ringSize v_many v_tryWho v_tryDoes v_tryMuch v_tryAgainst v_tryLife v_tryShield) s.heap := hP
  have hl := lv_entry ([.ref h]) (n := 7) (Nat.le_of_ble_eq_true rfl)
  rw [lg_entry_eq]
  generalize (lg_sl ([.ref h]) ++ List.replicate (7 - (lg_sl ([.ref h])).length) Slot.unset).toArray = ls at hl ⊢
  have hl : lv_has ls 7 [(0, .ref h)] := hl
  generalize hH : s.heap = H at hP hS ⊢
  have hS : va_S A s.heap H [] := by rw [hH]; exact hS
  have C0 : wCX p s #[.ref h] m meth c cX9_tryTop 7 (some .boolean) RX9 wsX9_tryTop := ⟨hx, hb, hr, hml, hown, hts, hlocks⟩
  show W p l e rmX9_tryTop s m #[.ref h] below meth c H [] 0 0 (MQ below (wQz r0 (wcX9_tryTop cI cJ cZ cG h h_effect h_number h_banned h_has h_life h_shield h_strength h_haveMet h_deck h_deckSize h_who h_does h_much h_against h_pack h_packSize h_gives h_wants h_tryWho h_tryDoes h_tryMuch h_tryAgainst h_tryLife h_tryShield h_ring h_row v_thrown v_today v_kinds v_stacked v_drafters v_cards v_round v_turn n_high v_ringSize v_many n_tryWho n_tryDoes n_tryMuch n_tryAgainst n_tryLife n_tryShield) (dC, dI) A) #[.ref h] s 0 0 A) (F0 m 0 ls [])
  unfold fX9_tryTop at hf
  refine lv_aload_n hx hb dX9_tryTop_0 rfl (lv_at hl 0 rfl) ?_
  refine lv_dup hx hb dX9_tryTop_1 rfl ?_
  refine va_get (D := (dC, dI)) (ci := 9) (v := .int v_high) (C := RX9) (T := TX9) (N := 37) hx hb hts iX9_tryTop_X9 hown hK hP 0 rfl rfl 26 (by decide) (hts _ mX9_tryTop_0) (fun _ h9 => h9) rfl dX9_tryTop_2 ?_
  refine lv_iconst (v := 1) hx hb dX9_tryTop_5 (by decide) ?_
  refine lv_isub hx hb dX9_tryTop_6 ?_
  obtain ⟨x_1, ex_1, hf⟩ := nm_s hf
  refine w_eqi ex_1 ?_
  refine va_put (D := (dC, dI)) (ci := 9) (v := .int x_1) (ty := .int) (C := RX9) (T := TX9) (N := 37) hx hb hts iX9_tryTop_X9 tyX9 tyX9_ok nmX9 hown hK hP hD hS 0 rfl rfl 26 (by decide) (hts _ mX9_tryTop_0) (fun _ h9 => h9) rfl (by decide +kernel) rfl rfl (Nat.le_of_ble_eq_true rfl) dX9_tryTop_7 (fun H locs hP hD hS => ?_)
  have hP : va_P (dC, dI) vwCl (wcX9_tryTop cI cJ cZ cG h h_effect h_number h_banned h_has h_life h_shield h_strength h_haveMet h_deck h_deckSize h_who h_does h_much h_against h_pack h_packSize h_gives h_wants h_tryWho h_tryDoes h_tryMuch h_tryAgainst h_tryLife h_tryShield h_ring h_row v_thrown v_today v_kinds v_stacked v_drafters v_cards v_round v_turn x_1 v_ringSize v_many v_tryWho v_tryDoes v_tryMuch v_tryAgainst v_tryLife v_tryShield) H := hP
  have hD : va_D A (wcX9_tryTop cI cJ cZ cG h h_effect h_number h_banned h_has h_life h_shield h_strength h_haveMet h_deck h_deckSize h_who h_does h_much h_against h_pack h_packSize h_gives h_wants h_tryWho h_tryDoes h_tryMuch h_tryAgainst h_tryLife h_tryShield h_ring h_row v_thrown v_today v_kinds v_stacked v_drafters v_cards v_round v_turn x_1 v_ringSize v_many v_tryWho v_tryDoes v_tryMuch v_tryAgainst v_tryLife v_tryShield) := hD
  refine lv_aload_n hx hb dX9_tryTop_10 rfl (lv_at hl 0 rfl) ?_
  refine va_get (D := (dC, dI)) (ci := 9) (v := .ref h_tryAgainst) (C := RX9) (T := TX9) (N := 37) hx hb hts iX9_tryTop_X9 hown hK hP 0 rfl rfl 30 (by decide) (hts _ mX9_tryTop_1) (fun _ h9 => h9) rfl dX9_tryTop_11 ?_
  refine lv_aload_n hx hb dX9_tryTop_14 rfl (lv_at hl 0 rfl) ?_
  refine va_get (D := (dC, dI)) (ci := 9) (v := .int x_1) (C := RX9) (T := TX9) (N := 37) hx hb hts iX9_tryTop_X9 hown hK hP 0 rfl rfl 26 (by decide) (hts _ mX9_tryTop_0) (fun _ h9 => h9) rfl dX9_tryTop_15 ?_
  obtain ⟨hg_2, hf⟩ := ck_s hf
  refine va_iald (D := (dC, dI)) hx hb hK hP 4 0 rfl rfl (g_vp hg_2) dX9_tryTop_18 ?_
  obtain ⟨x_3, ex_3, hf⟩ := nm_s hf
  refine w_eqi ex_3 ?_
  refine lv_istore_n (lv' := [(1, .int x_3), (0, .ref h)]) hx hb dX9_tryTop_19 rfl hl (by decide) rfl (fun ls hl => ?_)
  refine lv_aload_n hx hb dX9_tryTop_20 rfl (lv_at hl 1 rfl) ?_
  refine va_get (D := (dC, dI)) (ci := 9) (v := .ref h_tryMuch) (C := RX9) (T := TX9) (N := 37) hx hb hts iX9_tryTop_X9 hown hK hP 0 rfl rfl 29 (by decide) (hts _ mX9_tryTop_2) (fun _ h9 => h9) rfl dX9_tryTop_21 ?_
  refine lv_aload_n hx hb dX9_tryTop_24 rfl (lv_at hl 1 rfl) ?_
  refine va_get (D := (dC, dI)) (ci := 9) (v := .int x_1) (C := RX9) (T := TX9) (N := 37) hx hb hts iX9_tryTop_X9 hown hK hP 0 rfl rfl 26 (by decide) (hts _ mX9_tryTop_0) (fun _ h9 => h9) rfl dX9_tryTop_25 ?_
  obtain ⟨hg_4, hf⟩ := ck_s hf
  refine va_lald (D := (dC, dI)) hx hb hK hP 3 1 rfl rfl (g_vp hg_4) dX9_tryTop_28 ?_
  obtain ⟨x_5, ex_5, hf⟩ := nm_s hf
  refine w_eql ex_5 ?_
  refine lv_lstore_n (lv' := [(2, .long x_5), (1, .int x_3), (0, .ref h)]) hx hb dX9_tryTop_29 rfl hl (by decide) rfl (fun ls hl => ?_)
  refine lv_aload_n hx hb dX9_tryTop_30 rfl (lv_at hl 2 rfl) ?_
  refine va_get (D := (dC, dI)) (ci := 9) (v := .ref h_tryDoes) (C := RX9) (T := TX9) (N := 37) hx hb hts iX9_tryTop_X9 hown hK hP 0 rfl rfl 28 (by decide) (hts _ mX9_tryTop_3) (fun _ h9 => h9) rfl dX9_tryTop_31 ?_
  refine lv_aload_n hx hb dX9_tryTop_34 rfl (lv_at hl 2 rfl) ?_
  refine va_get (D := (dC, dI)) (ci := 9) (v := .int x_1) (C := RX9) (T := TX9) (N := 37) hx hb hts iX9_tryTop_X9 hown hK hP 0 rfl rfl 26 (by decide) (hts _ mX9_tryTop_0) (fun _ h9 => h9) rfl dX9_tryTop_35 ?_
  obtain ⟨hg_6, hf⟩ := ck_s hf
  refine va_iald (D := (dC, dI)) hx hb hK hP 2 0 rfl rfl (g_vp hg_6) dX9_tryTop_38 ?_
  by_cases e_7 : (v_tryDoes x_1.toNatClampNeg) = 0
  · have hf := it_t hf e_7
    refine lv_tableIn (off := 33) (tgt := 72) hx hb dX9_tryTop_39 (by rw [e_7]; decide) (by rw [e_7]; decide) (by rw [e_7]; rfl) (by decide) ?_
    refine lv_aload_n hx hb dX9_tryTop_72 rfl (lv_at hl 2 rfl) ?_
    refine va_get (D := (dC, dI)) (ci := 9) (v := .ref h_tryShield) (C := RX9) (T := TX9) (N := 37) hx hb hts iX9_tryTop_X9 hown hK hP 0 rfl rfl 32 (by decide) (hts _ mX9_tryTop_4) (fun _ h9 => h9) rfl dX9_tryTop_73 ?_
    refine lv_iload_n hx hb dX9_tryTop_76 rfl (lv_at hl 1 rfl) ?_
    obtain ⟨hg_8, hf⟩ := ck_s hf
    refine va_lald (D := (dC, dI)) hx hb hK hP 6 1 rfl rfl (g_vp hg_8) dX9_tryTop_77 ?_
    refine lv_lload_n hx hb dX9_tryTop_78 rfl (lv_at hl 0 rfl) ?_
    refine W.lcmp hx hb dX9_tryTop_79 ?_
    refine lv_if_ge (tgt := 92) hx hb dX9_tryTop_80 (by decide) (fun c_9 => ?_) (fun c_9 => ?_)
    · have hf := it_t hf c_9
      refine lv_lload_n hx hb dX9_tryTop_92 rfl (lv_at hl 0 rfl) ?_
      have hf : fX9_tryTop_b93 x_1 v_tryWho v_tryDoes v_tryMuch v_tryAgainst v_tryLife v_tryShield x_3 x_5 x_5 = some (r0, n_high, n_tryWho, n_tryDoes, n_tryMuch, n_tryAgainst, n_tryLife, n_tryShield) := hf
      exact kX9_tryTop_93 C0 hA hK x_1 v_tryWho v_tryDoes v_tryMuch v_tryAgainst v_tryLife v_tryShield x_3 x_5 x_5 _ _ _ hf hP hD hS (lv_sub hl [2, 1, 0] rfl)
    · have hf := it_f hf c_9
      refine lv_aload_n hx hb dX9_tryTop_83 rfl (lv_at hl 2 rfl) ?_
      refine va_get (D := (dC, dI)) (ci := 9) (v := .ref h_tryShield) (C := RX9) (T := TX9) (N := 37) hx hb hts iX9_tryTop_X9 hown hK hP 0 rfl rfl 32 (by decide) (hts _ mX9_tryTop_4) (fun _ h9 => h9) rfl dX9_tryTop_84 ?_
      refine lv_iload_n hx hb dX9_tryTop_87 rfl (lv_at hl 1 rfl) ?_
      obtain ⟨hg_10, hf⟩ := ck_s hf
      refine va_lald (D := (dC, dI)) hx hb hK hP 6 1 rfl rfl (g_vp hg_10) dX9_tryTop_88 ?_
      refine lv_goto (tgt := 93) hx hb dX9_tryTop_89 (by decide) ?_
      have hf : fX9_tryTop_b93 x_1 v_tryWho v_tryDoes v_tryMuch v_tryAgainst v_tryLife v_tryShield x_3 x_5 (v_tryShield x_3.toNatClampNeg) = some (r0, n_high, n_tryWho, n_tryDoes, n_tryMuch, n_tryAgainst, n_tryLife, n_tryShield) := hf
      exact kX9_tryTop_93 C0 hA hK x_1 v_tryWho v_tryDoes v_tryMuch v_tryAgainst v_tryLife v_tryShield x_3 x_5 (v_tryShield x_3.toNatClampNeg) _ _ _ hf hP hD hS (lv_sub hl [2, 1, 0] rfl)
  have hf := it_f hf e_7
  by_cases e_11 : (v_tryDoes x_1.toNatClampNeg) = 1
  · have hf := it_t hf e_11
    refine lv_tableIn (off := 90) (tgt := 129) hx hb dX9_tryTop_39 (by rw [e_11]; decide) (by rw [e_11]; decide) (by rw [e_11]; rfl) (by decide) ?_
    refine lv_aload_n hx hb dX9_tryTop_129 rfl (lv_at hl 2 rfl) ?_
    refine va_get (D := (dC, dI)) (ci := 9) (v := .ref h_tryLife) (C := RX9) (T := TX9) (N := 37) hx hb hts iX9_tryTop_X9 hown hK hP 0 rfl rfl 31 (by decide) (hts _ mX9_tryTop_5) (fun _ h9 => h9) rfl dX9_tryTop_130 ?_
    refine lv_iload_n hx hb dX9_tryTop_133 rfl (lv_at hl 1 rfl) ?_
    refine lv_dup2_11 hx hb dX9_tryTop_134 rfl rfl ?_
    obtain ⟨hg_12, hf⟩ := ck_s hf
    refine va_lald (D := (dC, dI)) hx hb hK hP 5 1 rfl rfl (g_vp hg_12) dX9_tryTop_135 ?_
    refine lv_lload_n hx hb dX9_tryTop_136 rfl (lv_at hl 0 rfl) ?_
    refine lv_ladd hx hb dX9_tryTop_137 ?_
    obtain ⟨x_13, ex_13, hf⟩ := nm_s hf
    refine w_eql ex_13 ?_
    obtain ⟨hg_14, hf⟩ := ck_s hf
    refine va_last (D := (dC, dI)) hx hb hK hP hD hS 5 1 rfl rfl (g_vp hg_14) dX9_tryTop_138 (fun H locs hP hD hS => ?_)
    have hP : va_P (dC, dI) vwCl (wcX9_tryTop cI cJ cZ cG h h_effect h_number h_banned h_has h_life h_shield h_strength h_haveMet h_deck h_deckSize h_who h_does h_much h_against h_pack h_packSize h_gives h_wants h_tryWho h_tryDoes h_tryMuch h_tryAgainst h_tryLife h_tryShield h_ring h_row v_thrown v_today v_kinds v_stacked v_drafters v_cards v_round v_turn x_1 v_ringSize v_many v_tryWho v_tryDoes v_tryMuch v_tryAgainst (vp_updL v_tryLife x_3.toNatClampNeg x_13) v_tryShield) H := hP
    have hD : va_D A (wcX9_tryTop cI cJ cZ cG h h_effect h_number h_banned h_has h_life h_shield h_strength h_haveMet h_deck h_deckSize h_who h_does h_much h_against h_pack h_packSize h_gives h_wants h_tryWho h_tryDoes h_tryMuch h_tryAgainst h_tryLife h_tryShield h_ring h_row v_thrown v_today v_kinds v_stacked v_drafters v_cards v_round v_turn x_1 v_ringSize v_many v_tryWho v_tryDoes v_tryMuch v_tryAgainst (vp_updL v_tryLife x_3.toNatClampNeg x_13) v_tryShield) := hD
    refine lv_aload_n hx hb dX9_tryTop_139 rfl (lv_at hl 2 rfl) ?_
    refine va_get (D := (dC, dI)) (ci := 9) (v := .ref h_tryLife) (C := RX9) (T := TX9) (N := 37) hx hb hts iX9_tryTop_X9 hown hK hP 0 rfl rfl 31 (by decide) (hts _ mX9_tryTop_5) (fun _ h9 => h9) rfl dX9_tryTop_140 ?_
    refine lv_iload_n hx hb dX9_tryTop_143 rfl (lv_at hl 1 rfl) ?_
    obtain ⟨hg_15, hf⟩ := ck_s hf
    refine va_lald (D := (dC, dI)) hx hb hK hP 5 1 rfl rfl (g_vp hg_15) dX9_tryTop_144 ?_
    obtain ⟨r_16, hc_17, hf⟩ := ob_s hf
    refine w_callSz (As := [.long ((vp_updL v_tryLife x_3.toNatClampNeg x_13) x_3.toNatClampNeg)]) (rest := []) ⟨hx, hb, hml, hown, hts⟩ (oX9_isInt l dC dI cI cJ cZ cG H.size ((vp_updL v_tryLife x_3.toNatClampNeg x_13) x_3.toNatClampNeg) r_16 hc_17) (va_cwS 1 hts gX9_tryTop_X9_isInt rfl rfl rfl (by decide +kernel) ⟨Nat.le_of_ble_eq_true rfl, Nat.le_of_ble_eq_true rfl⟩) hK hP hS hA rfl hl.1 rfl (Nat.le_of_ble_eq_true rfl) dX9_tryTop_145 ⟨Nat.le_refl _, Nat.le_refl _⟩ (fun hz_18 H locs hP hS => ?_)
    have hf : some (r_16, x_1, v_tryWho, v_tryDoes, v_tryMuch, v_tryAgainst, (vp_updL v_tryLife x_3.toNatClampNeg x_13), v_tryShield) = some (r0, n_high, n_tryWho, n_tryDoes, n_tryMuch, n_tryAgainst, n_tryLife, n_tryShield) := hf
    cases hf
    exact w_zret hx hb hr hlocks rfl hz_18 hP hD hS dX9_tryTop_148
  have hf := it_f hf e_11
  by_cases e_19 : (v_tryDoes x_1.toNatClampNeg) = 2
  · have hf := it_t hf e_19
    refine lv_tableIn (off := 110) (tgt := 149) hx hb dX9_tryTop_39 (by rw [e_19]; decide) (by rw [e_19]; decide) (by rw [e_19]; rfl) (by decide) ?_
    refine lv_aload_n hx hb dX9_tryTop_149 rfl (lv_at hl 2 rfl) ?_
    refine va_get (D := (dC, dI)) (ci := 9) (v := .ref h_tryShield) (C := RX9) (T := TX9) (N := 37) hx hb hts iX9_tryTop_X9 hown hK hP 0 rfl rfl 32 (by decide) (hts _ mX9_tryTop_4) (fun _ h9 => h9) rfl dX9_tryTop_150 ?_
    refine lv_iload_n hx hb dX9_tryTop_153 rfl (lv_at hl 1 rfl) ?_
    refine lv_dup2_11 hx hb dX9_tryTop_154 rfl rfl ?_
    obtain ⟨hg_20, hf⟩ := ck_s hf
    refine va_lald (D := (dC, dI)) hx hb hK hP 6 1 rfl rfl (g_vp hg_20) dX9_tryTop_155 ?_
    refine lv_lload_n hx hb dX9_tryTop_156 rfl (lv_at hl 0 rfl) ?_
    refine lv_ladd hx hb dX9_tryTop_157 ?_
    obtain ⟨x_21, ex_21, hf⟩ := nm_s hf
    refine w_eql ex_21 ?_
    obtain ⟨hg_22, hf⟩ := ck_s hf
    refine va_last (D := (dC, dI)) hx hb hK hP hD hS 6 1 rfl rfl (g_vp hg_22) dX9_tryTop_158 (fun H locs hP hD hS => ?_)
    have hP : va_P (dC, dI) vwCl (wcX9_tryTop cI cJ cZ cG h h_effect h_number h_banned h_has h_life h_shield h_strength h_haveMet h_deck h_deckSize h_who h_does h_much h_against h_pack h_packSize h_gives h_wants h_tryWho h_tryDoes h_tryMuch h_tryAgainst h_tryLife h_tryShield h_ring h_row v_thrown v_today v_kinds v_stacked v_drafters v_cards v_round v_turn x_1 v_ringSize v_many v_tryWho v_tryDoes v_tryMuch v_tryAgainst v_tryLife (vp_updL v_tryShield x_3.toNatClampNeg x_21)) H := hP
    have hD : va_D A (wcX9_tryTop cI cJ cZ cG h h_effect h_number h_banned h_has h_life h_shield h_strength h_haveMet h_deck h_deckSize h_who h_does h_much h_against h_pack h_packSize h_gives h_wants h_tryWho h_tryDoes h_tryMuch h_tryAgainst h_tryLife h_tryShield h_ring h_row v_thrown v_today v_kinds v_stacked v_drafters v_cards v_round v_turn x_1 v_ringSize v_many v_tryWho v_tryDoes v_tryMuch v_tryAgainst v_tryLife (vp_updL v_tryShield x_3.toNatClampNeg x_21)) := hD
    refine lv_aload_n hx hb dX9_tryTop_159 rfl (lv_at hl 2 rfl) ?_
    refine va_get (D := (dC, dI)) (ci := 9) (v := .ref h_tryShield) (C := RX9) (T := TX9) (N := 37) hx hb hts iX9_tryTop_X9 hown hK hP 0 rfl rfl 32 (by decide) (hts _ mX9_tryTop_4) (fun _ h9 => h9) rfl dX9_tryTop_160 ?_
    refine lv_iload_n hx hb dX9_tryTop_163 rfl (lv_at hl 1 rfl) ?_
    obtain ⟨hg_23, hf⟩ := ck_s hf
    refine va_lald (D := (dC, dI)) hx hb hK hP 6 1 rfl rfl (g_vp hg_23) dX9_tryTop_164 ?_
    obtain ⟨r_24, hc_25, hf⟩ := ob_s hf
    refine w_callSz (As := [.long ((vp_updL v_tryShield x_3.toNatClampNeg x_21) x_3.toNatClampNeg)]) (rest := []) ⟨hx, hb, hml, hown, hts⟩ (oX9_isInt l dC dI cI cJ cZ cG H.size ((vp_updL v_tryShield x_3.toNatClampNeg x_21) x_3.toNatClampNeg) r_24 hc_25) (va_cwS 1 hts gX9_tryTop_X9_isInt rfl rfl rfl (by decide +kernel) ⟨Nat.le_of_ble_eq_true rfl, Nat.le_of_ble_eq_true rfl⟩) hK hP hS hA rfl hl.1 rfl (Nat.le_of_ble_eq_true rfl) dX9_tryTop_165 ⟨Nat.le_refl _, Nat.le_refl _⟩ (fun hz_26 H locs hP hS => ?_)
    have hf : some (r_24, x_1, v_tryWho, v_tryDoes, v_tryMuch, v_tryAgainst, v_tryLife, (vp_updL v_tryShield x_3.toNatClampNeg x_21)) = some (r0, n_high, n_tryWho, n_tryDoes, n_tryMuch, n_tryAgainst, n_tryLife, n_tryShield) := hf
    cases hf
    exact w_zret hx hb hr hlocks rfl hz_26 hP hD hS dX9_tryTop_168
  have hf := it_f hf e_19
  by_cases e_27 : (v_tryDoes x_1.toNatClampNeg) = 3
  · have hf := it_t hf e_27
    refine lv_tableIn (off := 130) (tgt := 169) hx hb dX9_tryTop_39 (by rw [e_27]; decide) (by rw [e_27]; decide) (by rw [e_27]; rfl) (by decide) ?_
    refine lv_aload_n hx hb dX9_tryTop_169 rfl (lv_at hl 2 rfl) ?_
    refine lv_aload_n hx hb dX9_tryTop_170 rfl (lv_at hl 2 rfl) ?_
    refine va_get (D := (dC, dI)) (ci := 9) (v := .ref h_tryWho) (C := RX9) (T := TX9) (N := 37) hx hb hts iX9_tryTop_X9 hown hK hP 0 rfl rfl 27 (by decide) (hts _ mX9_tryTop_6) (fun _ h9 => h9) rfl dX9_tryTop_171 ?_
    refine lv_aload_n hx hb dX9_tryTop_174 rfl (lv_at hl 2 rfl) ?_
    refine va_get (D := (dC, dI)) (ci := 9) (v := .int x_1) (C := RX9) (T := TX9) (N := 37) hx hb hts iX9_tryTop_X9 hown hK hP 0 rfl rfl 26 (by decide) (hts _ mX9_tryTop_0) (fun _ h9 => h9) rfl dX9_tryTop_175 ?_
    obtain ⟨hg_28, hf⟩ := ck_s hf
    refine va_iald (D := (dC, dI)) hx hb hK hP 1 0 rfl rfl (g_vp hg_28) dX9_tryTop_178 ?_
    obtain ⟨⟨w_29, w_30, w_31, w_32, w_33⟩, hc_34, hf⟩ := ob_s hf
    refine w_callVv (As := [.int (v_tryWho x_1.toNatClampNeg)]) (rest := []) (wr := List.filterMap (fun i : Nat => (wcX9_tryTop cI cJ cZ cG h h_effect h_number h_banned h_has h_life h_shield h_strength h_haveMet h_deck h_deckSize h_who h_does h_much h_against h_pack h_packSize h_gives h_wants h_tryWho h_tryDoes h_tryMuch h_tryAgainst h_tryLife h_tryShield h_ring h_row v_thrown v_today v_kinds v_stacked v_drafters v_cards v_round v_turn x_1 v_ringSize v_many v_tryWho v_tryDoes v_tryMuch v_tryAgainst v_tryLife v_tryShield)[i]?) [5, 6]) (ws1 := (wcX9_tryTop cI cJ cZ cG h h_effect h_number h_banned h_has h_life h_shield h_strength h_haveMet h_deck h_deckSize h_who h_does h_much h_against h_pack h_packSize h_gives h_wants h_tryWho h_tryDoes h_tryMuch h_tryAgainst h_tryLife h_tryShield h_ring h_row v_thrown v_today v_kinds v_stacked v_drafters v_cards v_round v_turn w_29 v_ringSize v_many w_30 w_31 w_32 w_33 v_tryLife v_tryShield)) ⟨hx, hb, hml, hown, hts⟩ (oX9_stopOne l dC dI cI cJ cZ cG h h_effect h_number h_banned h_has h_life h_shield h_strength h_haveMet h_deck h_deckSize h_who h_does h_much h_against h_pack h_packSize h_gives h_wants h_tryWho h_tryDoes h_tryMuch h_tryAgainst h_tryLife h_tryShield h_ring h_row v_thrown v_today v_kinds v_stacked v_drafters v_cards v_round v_turn x_1 v_ringSize v_many v_tryWho v_tryDoes v_tryMuch v_tryAgainst H.size (v_tryWho x_1.toNatClampNeg) w_29 w_30 w_31 w_32 w_33 hc_34) (cwV 1 hts gX9_tryTop_X9_stopOne rfl rfl rfl (by decide +kernel) ⟨Nat.le_of_ble_eq_true rfl, Nat.le_of_ble_eq_true rfl⟩) hK 0 9 rfl rfl rfl hP hD hS hA [0, 1, 2, 3, 4] [5, 6] [2, 3, 4, 5, 6, 0, 1] rfl rfl rfl rfl (by decide) rfl rfl rfl hl.1 rfl (Nat.le_of_ble_eq_true rfl) dX9_tryTop_179 ⟨Nat.le_refl _, Nat.le_refl _⟩ (fun H locs hP hD hS => ?_)
    refine lv_iconst (v := 1) hx hb dX9_tryTop_182 (by decide) ?_
    have hf : some (1, w_29, w_30, w_31, w_32, w_33, v_tryLife, v_tryShield) = some (r0, n_high, n_tryWho, n_tryDoes, n_tryMuch, n_tryAgainst, n_tryLife, n_tryShield) := hf
    cases hf
    exact w_zret hx hb hr hlocks rfl (Or.inr rfl) hP hD hS dX9_tryTop_183
  have hf := it_f hf e_27
  by_cases e_35 : (v_tryDoes x_1.toNatClampNeg) = 4
  · have hf := it_t hf e_35
    refine lv_tableIn (off := 145) (tgt := 184) hx hb dX9_tryTop_39 (by rw [e_35]; decide) (by rw [e_35]; decide) (by rw [e_35]; rfl) (by decide) ?_
    refine lv_aload_n hx hb dX9_tryTop_184 rfl (lv_at hl 2 rfl) ?_
    refine va_get (D := (dC, dI)) (ci := 9) (v := .int x_1) (C := RX9) (T := TX9) (N := 37) hx hb hts iX9_tryTop_X9 hown hK hP 0 rfl rfl 26 (by decide) (hts _ mX9_tryTop_0) (fun _ h9 => h9) rfl dX9_tryTop_185 ?_
    refine lv_if_le (tgt := 208) hx hb dX9_tryTop_188 (by decide) (fun c_36 => ?_) (fun c_36 => ?_)
    · have hf := it_t hf c_36
      have hf : fX9_tryTop_b208 x_1 v_tryWho v_tryDoes v_tryMuch v_tryAgainst v_tryLife v_tryShield = some (r0, n_high, n_tryWho, n_tryDoes, n_tryMuch, n_tryAgainst, n_tryLife, n_tryShield) := hf
      exact kX9_tryTop_208 C0 hA hK x_1 v_tryWho v_tryDoes v_tryMuch v_tryAgainst v_tryLife v_tryShield _ _ _ hf hP hD hS (lv_sub hl [2] rfl)
    · have hf := it_f hf c_36
      refine lv_aload_n hx hb dX9_tryTop_191 rfl (lv_at hl 2 rfl) ?_
      refine va_get (D := (dC, dI)) (ci := 9) (v := .ref h_tryMuch) (C := RX9) (T := TX9) (N := 37) hx hb hts iX9_tryTop_X9 hown hK hP 0 rfl rfl 29 (by decide) (hts _ mX9_tryTop_2) (fun _ h9 => h9) rfl dX9_tryTop_192 ?_
      refine lv_aload_n hx hb dX9_tryTop_195 rfl (lv_at hl 2 rfl) ?_
      refine va_get (D := (dC, dI)) (ci := 9) (v := .int x_1) (C := RX9) (T := TX9) (N := 37) hx hb hts iX9_tryTop_X9 hown hK hP 0 rfl rfl 26 (by decide) (hts _ mX9_tryTop_0) (fun _ h9 => h9) rfl dX9_tryTop_196 ?_
      refine lv_iconst (v := 1) hx hb dX9_tryTop_199 (by decide) ?_
      refine lv_isub hx hb dX9_tryTop_200 ?_
      refine lv_dup2_11 hx hb dX9_tryTop_201 rfl rfl ?_
      obtain ⟨hg_37, hf⟩ := ck_s hf
      refine va_lald (D := (dC, dI)) hx hb hK hP 3 1 rfl rfl (g_vp hg_37) dX9_tryTop_202 ?_
      refine lv_ldc2 (v := 2) hx hb hown (hts _ mX9_tryTop_7) dX9_tryTop_203 ?_
      refine lv_lmul hx hb dX9_tryTop_206 ?_
      obtain ⟨x_38, ex_38, hf⟩ := nm_s hf
      refine w_eql ex_38 ?_
      obtain ⟨hg_39, hf⟩ := ck_s hf
      refine va_last (D := (dC, dI)) hx hb hK hP hD hS 3 1 rfl rfl (g_vp hg_39) dX9_tryTop_207 (fun H locs hP hD hS => ?_)
      have hP : va_P (dC, dI) vwCl (wcX9_tryTop cI cJ cZ cG h h_effect h_number h_banned h_has h_life h_shield h_strength h_haveMet h_deck h_deckSize h_who h_does h_much h_against h_pack h_packSize h_gives h_wants h_tryWho h_tryDoes h_tryMuch h_tryAgainst h_tryLife h_tryShield h_ring h_row v_thrown v_today v_kinds v_stacked v_drafters v_cards v_round v_turn x_1 v_ringSize v_many v_tryWho v_tryDoes (vp_updL v_tryMuch (x_1 - 1).toNatClampNeg x_38) v_tryAgainst v_tryLife v_tryShield) H := hP
      have hD : va_D A (wcX9_tryTop cI cJ cZ cG h h_effect h_number h_banned h_has h_life h_shield h_strength h_haveMet h_deck h_deckSize h_who h_does h_much h_against h_pack h_packSize h_gives h_wants h_tryWho h_tryDoes h_tryMuch h_tryAgainst h_tryLife h_tryShield h_ring h_row v_thrown v_today v_kinds v_stacked v_drafters v_cards v_round v_turn x_1 v_ringSize v_many v_tryWho v_tryDoes (vp_updL v_tryMuch (x_1 - 1).toNatClampNeg x_38) v_tryAgainst v_tryLife v_tryShield) := hD
      have hf : fX9_tryTop_b208 x_1 v_tryWho v_tryDoes (vp_updL v_tryMuch (x_1 - 1).toNatClampNeg x_38) v_tryAgainst v_tryLife v_tryShield = some (r0, n_high, n_tryWho, n_tryDoes, n_tryMuch, n_tryAgainst, n_tryLife, n_tryShield) := hf
      exact kX9_tryTop_208 C0 hA hK x_1 v_tryWho v_tryDoes (vp_updL v_tryMuch (x_1 - 1).toNatClampNeg x_38) v_tryAgainst v_tryLife v_tryShield _ _ _ hf hP hD hS (lv_sub hl [2] rfl)
  have hf := it_f hf e_35
  refine lv_tableOut (tgt := 238) hx hb dX9_tryTop_39 (by have ge_7 : ((v_tryDoes x_1.toNatClampNeg)).toInt ≠ 0 := fun h => e_7 ((i32_of h).trans (by decide)); have ge_11 : ((v_tryDoes x_1.toNatClampNeg)).toInt ≠ 1 := fun h => e_11 ((i32_of h).trans (by decide)); have ge_19 : ((v_tryDoes x_1.toNatClampNeg)).toInt ≠ 2 := fun h => e_19 ((i32_of h).trans (by decide)); have ge_27 : ((v_tryDoes x_1.toNatClampNeg)).toInt ≠ 3 := fun h => e_27 ((i32_of h).trans (by decide)); have ge_35 : ((v_tryDoes x_1.toNatClampNeg)).toInt ≠ 4 := fun h => e_35 ((i32_of h).trans (by decide)); omega) (by decide) ?_
  refine lv_iconst (v := 0) hx hb dX9_tryTop_238 (by decide) ?_
  refine lv_istore (lv' := [(6, .int 0), (2, .long x_5), (1, .int x_3), (0, .ref h)]) hx hb dX9_tryTop_239 hl (by decide) rfl (fun ls hl => ?_)
  have hf : fX9_tryTop_b241 70 x_1 v_tryWho v_tryDoes v_tryMuch v_tryAgainst v_tryLife v_tryShield 0 = some (r0, n_high, n_tryWho, n_tryDoes, n_tryMuch, n_tryAgainst, n_tryLife, n_tryShield) := hf
  exact kX9_tryTop_241 C0 hA hK 70 x_1 v_tryWho v_tryDoes v_tryMuch v_tryAgainst v_tryLife v_tryShield 0 _ _ _ hf hP hD hS (lv_sub hl [3, 0] rfl)
abbrev wcX9_lay (cI cJ cZ cG : ClassId) (h h_effect h_number h_banned h_has h_life h_shield h_strength h_haveMet h_deck h_deckSize h_who h_does h_much h_against h_pack h_packSize h_gives h_wants h_tryWho h_tryDoes h_tryMuch h_tryAgainst h_tryLife h_tryShield h_ring h_row : Nat) (v_thrown : Int32) (v_today : Int32) (v_kinds : Int32) (v_stacked : Int32) (v_drafters : Int32) (v_cards : Int32) (v_round : Int32) (v_turn : Int32) (v_high : Int32) (v_ringSize : Int32) (v_many : Int32) (v_life : Nat → Int32) (v_shield : Nat → Int32) (v_who : Nat → Int32) (v_does : Nat → Int32) (v_much : Nat → Int32) (v_against : Nat → Int32) (v_tryWho : Nat → Int32) (v_tryDoes : Nat → Int32) (v_tryMuch : Nat → Int64) (v_tryAgainst : Nat → Int32) (v_tryLife : Nat → Int64) (v_tryShield : Nat → Int64) : va_W := [(h, .inr (9, [.int v_thrown, .int v_today, .int v_kinds, .ref h_effect, .ref h_number, .ref h_banned, .ref h_has, .ref h_life, .ref h_shield, .ref h_strength, .ref h_haveMet, .ref h_deck, .ref h_deckSize, .int v_stacked, .ref h_who, .ref h_does, .ref h_much, .ref h_against, .int v_drafters, .int v_cards, .int v_round, .int v_turn, .ref h_pack, .ref h_packSize, .ref h_gives, .ref h_wants, .int v_high, .ref h_tryWho, .ref h_tryDoes, .ref h_tryMuch, .ref h_tryAgainst, .ref h_tryLife, .ref h_tryShield, .int v_ringSize, .ref h_ring, .int v_many, .ref h_row])), (h_life, .inl (cI, 6, .inl v_life)), (h_shield, .inl (cI, 6, .inl v_shield)), (h_who, .inl (cI, 6, .inl v_who)), (h_does, .inl (cI, 6, .inl v_does)), (h_much, .inl (cI, 6, .inl v_much)), (h_against, .inl (cI, 6, .inl v_against)), (h_tryWho, .inl (cI, 6, .inl v_tryWho)), (h_tryDoes, .inl (cI, 6, .inl v_tryDoes)), (h_tryMuch, .inl (cJ, 6, .inr (.inl v_tryMuch))), (h_tryAgainst, .inl (cI, 6, .inl v_tryAgainst)), (h_tryLife, .inl (cJ, 6, .inr (.inl v_tryLife))), (h_tryShield, .inl (cJ, 6, .inr (.inl v_tryShield)))]
theorem iX9_lay_X9 : ∀ w ∈ wsX90, w ∈ wsX9_lay := by decide +kernel
theorem mX9_lay_0 : (Cond.fieldLink RX9 125 "SleevehallModel" "stacked" "I") ∈ wsX9_lay := by decide +kernel
theorem mX9_lay_1 : (Cond.fieldLink RX9 132 "SleevehallModel" "high" "I") ∈ wsX9_lay := by decide +kernel
theorem mX9_lay_2 : (Cond.fieldLink RX9 69 "SleevehallModel" "tryWho" "[I") ∈ wsX9_lay := by decide +kernel
theorem mX9_lay_3 : (Cond.fieldLink RX9 41 "SleevehallModel" "who" "[I") ∈ wsX9_lay := by decide +kernel
theorem mX9_lay_4 : (Cond.fieldLink RX9 72 "SleevehallModel" "tryDoes" "[I") ∈ wsX9_lay := by decide +kernel
theorem mX9_lay_5 : (Cond.fieldLink RX9 44 "SleevehallModel" "does" "[I") ∈ wsX9_lay := by decide +kernel
theorem mX9_lay_6 : (Cond.fieldLink RX9 75 "SleevehallModel" "tryMuch" "[J") ∈ wsX9_lay := by decide +kernel
theorem mX9_lay_7 : (Cond.fieldLink RX9 47 "SleevehallModel" "much" "[I") ∈ wsX9_lay := by decide +kernel
theorem mX9_lay_8 : (Cond.fieldLink RX9 79 "SleevehallModel" "tryAgainst" "[I") ∈ wsX9_lay := by decide +kernel
theorem mX9_lay_9 : (Cond.fieldLink RX9 50 "SleevehallModel" "against" "[I") ∈ wsX9_lay := by decide +kernel
theorem mX9_lay_10 : (Cond.fieldLink RX9 82 "SleevehallModel" "tryLife" "[J") ∈ wsX9_lay := by decide +kernel
theorem mX9_lay_11 : (Cond.fieldLink RX9 22 "SleevehallModel" "life" "[I") ∈ wsX9_lay := by decide +kernel
theorem mX9_lay_12 : (Cond.fieldLink RX9 85 "SleevehallModel" "tryShield" "[J") ∈ wsX9_lay := by decide +kernel
theorem mX9_lay_13 : (Cond.fieldLink RX9 25 "SleevehallModel" "shield" "[I") ∈ wsX9_lay := by decide +kernel
abbrev rmX9_lay : Room := { frames := 0, cells := 0, slots := 0, locals := 0 }
set_option maxHeartbeats 4000000 in
set_option maxRecDepth 100000 in
theorem kX9_lay_70 {p : Program} {l : Launch} {e : Env} {s : State} {m : MethodId} {args : Array Value} {below : List Frame} {meth : Method} {c : Code} {dC : Nat → ClassId} {dI : Nat → Nat → Nat} {A : Nat → Prop} {cI cJ cZ cG : ClassId} {h h_effect h_number h_banned h_has h_life h_shield h_strength h_haveMet h_deck h_deckSize h_who h_does h_much h_against h_pack h_packSize h_gives h_wants h_tryWho h_tryDoes h_tryMuch h_tryAgainst h_tryLife h_tryShield h_ring h_row : Nat} {v_thrown : Int32} {v_today : Int32} {v_kinds : Int32} {v_stacked : Int32} {v_drafters : Int32} {v_cards : Int32} {v_round : Int32} {v_turn : Int32} {v_ringSize : Int32} {v_many : Int32} {v_life : Nat → Int32} {v_shield : Nat → Int32} {v_who : Nat → Int32} {v_does : Nat → Int32} {v_much : Nat → Int32} {v_against : Nat → Int32} {n_high : Int32} {n_tryWho : Nat → Int32} {n_tryDoes : Nat → Int32} {n_tryMuch : Nat → Int64} {n_tryAgainst : Nat → Int32} {n_tryLife : Nat → Int64} {n_tryShield : Nat → Int64} {k_7 : Int32 → (Nat → Int32) → (Nat → Int32) → (Nat → Int64) → (Nat → Int32) → (Nat → Int64) → (Nat → Int64) → Int32 → Int32 → Int32 → Option (Int32 × (Nat → Int32) × (Nat → Int32) × (Nat → Int64) × (Nat → Int32) × (Nat → Int64) × (Nat → Int64))} {k_39 : Int32 → (Nat → Int32) → (Nat → Int32) → (Nat → Int64) → (Nat → Int32) → (Nat → Int64) → (Nat → Int64) → Int32 → Int32 → Int32 → Int32 → Int32 → Option (Int32 × (Nat → Int32) × (Nat → Int32) × (Nat → Int64) × (Nat → Int32) × (Nat → Int64) × (Nat → Int64))} (C0 : wCX p s args m meth c cX9_lay 8 none RX9 wsX9_lay) (hA : ∀ q, s.heap.size ≤ q → A q) (hK : va_K (dC, dI) vwCl (tysW cI cJ cZ cG) s) (hk_7 : ∀ (v_high : Int32) (v_tryWho : Nat → Int32) (v_tryDoes : Nat → Int32) (v_tryMuch : Nat → Int64) (v_tryAgainst : Nat → Int32) (v_tryLife : Nat → Int64) (v_tryShield : Nat → Int64) (l2 : Int32) (l3 : Int32) (l4 : Int32) (H : Heap) (locs : List Loc) (ls : Array Slot), k_7 v_high v_tryWho v_tryDoes v_tryMuch v_tryAgainst v_tryLife v_tryShield l2 l3 l4 = some (n_high, n_tryWho, n_tryDoes, n_tryMuch, n_tryAgainst, n_tryLife, n_tryShield) → va_P (dC, dI) vwCl (wcX9_lay cI cJ cZ cG h h_effect h_number h_banned h_has h_life h_shield h_strength h_haveMet h_deck h_deckSize h_who h_does h_much h_against h_pack h_packSize h_gives h_wants h_tryWho h_tryDoes h_tryMuch h_tryAgainst h_tryLife h_tryShield h_ring h_row v_thrown v_today v_kinds v_stacked v_drafters v_cards v_round v_turn v_high v_ringSize v_many v_life v_shield v_who v_does v_much v_against v_tryWho v_tryDoes v_tryMuch v_tryAgainst v_tryLife v_tryShield) H → va_D A (wcX9_lay cI cJ cZ cG h h_effect h_number h_banned h_has h_life h_shield h_strength h_haveMet h_deck h_deckSize h_who h_does h_much h_against h_pack h_packSize h_gives h_wants h_tryWho h_tryDoes h_tryMuch h_tryAgainst h_tryLife h_tryShield h_ring h_row v_thrown v_today v_kinds v_stacked v_drafters v_cards v_round v_turn v_high v_ringSize v_many v_life v_shield v_who v_does v_much v_against v_tryWho v_tryDoes v_tryMuch v_tryAgainst v_tryLife v_tryShield) → va_S A s.heap H locs → lv_has ls 8 [(0, .ref h), (2, .int l2), (3, .int l3), (4, .int l4)] → W p l e rmX9_lay s m args below meth c H locs 0 0 (MQ below (wQv (wcX9_lay cI cJ cZ cG h h_effect h_number h_banned h_has h_life h_shield h_strength h_haveMet h_deck h_deckSize h_who h_does h_much h_against h_pack h_packSize h_gives h_wants h_tryWho h_tryDoes h_tryMuch h_tryAgainst h_tryLife h_tryShield h_ring h_row v_thrown v_today v_kinds v_stacked v_drafters v_cards v_round v_turn n_high v_ringSize v_many v_life v_shield v_who v_does v_much v_against n_tryWho n_tryDoes n_tryMuch n_tryAgainst n_tryLife n_tryShield) (dC, dI) A) args s 0 0 A) (F0 m 7 ls [])) (hk_39 : ∀ (v_high : Int32) (v_tryWho : Nat → Int32) (v_tryDoes : Nat → Int32) (v_tryMuch : Nat → Int64) (v_tryAgainst : Nat → Int32) (v_tryLife : Nat → Int64) (v_tryShield : Nat → Int64) (l2 : Int32) (l3 : Int32) (l4 : Int32) (l6 : Int32) (l7 : Int32) (H : Heap) (locs : List Loc) (ls : Array Slot), k_39 v_high v_tryWho v_tryDoes v_tryMuch v_tryAgainst v_tryLife v_tryShield l2 l3 l4 l6 l7 = some (n_high, n_tryWho, n_tryDoes, n_tryMuch, n_tryAgainst, n_tryLife, n_tryShield) → va_P (dC, dI) vwCl (wcX9_lay cI cJ cZ cG h h_effect h_number h_banned h_has h_life h_shield h_strength h_haveMet h_deck h_deckSize h_who h_does h_much h_against h_pack h_packSize h_gives h_wants h_tryWho h_tryDoes h_tryMuch h_tryAgainst h_tryLife h_tryShield h_ring h_row v_thrown v_today v_kinds v_stacked v_drafters v_cards v_round v_turn v_high v_ringSize v_many v_life v_shield v_who v_does v_much v_against v_tryWho v_tryDoes v_tryMuch v_tryAgainst v_tryLife v_tryShield) H → va_D A (wcX9_lay cI cJ cZ cG h h_effect h_number h_banned h_has h_life h_shield h_strength h_haveMet h_deck h_deckSize h_who h_does h_much h_against h_pack h_packSize h_gives h_wants h_tryWho h_tryDoes h_tryMuch h_tryAgainst h_tryLife h_tryShield h_ring h_row v_thrown v_today v_kinds v_stacked v_drafters v_cards v_round v_turn v_high v_ringSize v_many v_life v_shield v_who v_does v_much v_against v_tryWho v_tryDoes v_tryMuch v_tryAgainst v_tryLife v_tryShield) → va_S A s.heap H locs → lv_has ls 8 [(0, .ref h), (2, .int l2), (3, .int l3), (4, .int l4), (6, .int l6), (7, .int l7)] → W p l e rmX9_lay s m args below meth c H locs 0 0 (MQ below (wQv (wcX9_lay cI cJ cZ cG h h_effect h_number h_banned h_has h_life h_shield h_strength h_haveMet h_deck h_deckSize h_who h_does h_much h_against h_pack h_packSize h_gives h_wants h_tryWho h_tryDoes h_tryMuch h_tryAgainst h_tryLife h_tryShield h_ring h_row v_thrown v_today v_kinds v_stacked v_drafters v_cards v_round v_turn n_high v_ringSize v_many v_life v_shield v_who v_does v_much v_against n_tryWho n_tryDoes n_tryMuch n_tryAgainst n_tryLife n_tryShield) (dC, dI) A) args s 0 0 A) (F0 m 39 ls [])) : ∀ (v_high : Int32) (v_tryWho : Nat → Int32) (v_tryDoes : Nat → Int32) (v_tryMuch : Nat → Int64) (v_tryAgainst : Nat → Int32) (v_tryLife : Nat → Int64) (v_tryShield : Nat → Int64) (l2 : Int32) (l3 : Int32) (l4 : Int32) (l7 : Int32) (s0 : Int32) (s1 : Int32) (hz_s1 : wB s1) (H : Heap) (locs : List Loc) (ls : Array Slot), fX9_lay_b70 k_7 k_39 v_stacked v_life v_shield v_who v_does v_much v_against v_high v_tryWho v_tryDoes v_tryMuch v_tryAgainst v_tryLife v_tryShield l2 l3 l4 l7 s0 s1 = some (n_high, n_tryWho, n_tryDoes, n_tryMuch, n_tryAgainst, n_tryLife, n_tryShield) → va_P (dC, dI) vwCl (wcX9_lay cI cJ cZ cG h h_effect h_number h_banned h_has h_life h_shield h_strength h_haveMet h_deck h_deckSize h_who h_does h_much h_against h_pack h_packSize h_gives h_wants h_tryWho h_tryDoes h_tryMuch h_tryAgainst h_tryLife h_tryShield h_ring h_row v_thrown v_today v_kinds v_stacked v_drafters v_cards v_round v_turn v_high v_ringSize v_many v_life v_shield v_who v_does v_much v_against v_tryWho v_tryDoes v_tryMuch v_tryAgainst v_tryLife v_tryShield) H → va_D A (wcX9_lay cI cJ cZ cG h h_effect h_number h_banned h_has h_life h_shield h_strength h_haveMet h_deck h_deckSize h_who h_does h_much h_against h_pack h_packSize h_gives h_wants h_tryWho h_tryDoes h_tryMuch h_tryAgainst h_tryLife h_tryShield h_ring h_row v_thrown v_today v_kinds v_stacked v_drafters v_cards v_round v_turn v_high v_ringSize v_many v_life v_shield v_who v_does v_much v_against v_tryWho v_tryDoes v_tryMuch v_tryAgainst v_tryLife v_tryShield) → va_S A s.heap H locs → lv_has ls 8 [(0, .ref h), (2, .int l2), (3, .int l3), (4, .int l4), (7, .int l7)] → W p l e rmX9_lay s m args below meth c H locs 0 0 (MQ below (wQv (wcX9_lay cI cJ cZ cG h h_effect h_number h_banned h_has h_life h_shield h_strength h_haveMet h_deck h_deckSize h_who h_does h_much h_against h_pack h_packSize h_gives h_wants h_tryWho h_tryDoes h_tryMuch h_tryAgainst h_tryLife h_tryShield h_ring h_row v_thrown v_today v_kinds v_stacked v_drafters v_cards v_round v_turn n_high v_ringSize v_many v_life v_shield v_who v_does v_much v_against n_tryWho n_tryDoes n_tryMuch n_tryAgainst n_tryLife n_tryShield) (dC, dI) A) args s 0 0 A) (F0 m 70 ls [.int s1, .int s0]) := by
  obtain ⟨hx, hb, hr, hml, hown, hts, hlocks⟩ := id C0
  intro v_high v_tryWho v_tryDoes v_tryMuch v_tryAgainst v_tryLife v_tryShield l2 l3 l4 l7 s0 s1 hz_s1 H locs ls hf hP hD hS hl
  unfold fX9_lay_b70 at hf
  refine lv_isub hx hb dX9_lay_70 ?_
  obtain ⟨x_1, ex_1, hf⟩ := nm_s hf
  refine w_eqi ex_1 ?_
  refine lv_istore (lv' := [(6, .int x_1), (0, .ref h), (2, .int l2), (3, .int l3), (4, .int l4), (7, .int l7)]) hx hb dX9_lay_71 hl (by decide) rfl (fun ls hl => ?_)
  obtain ⟨x_2, ex_2, hf⟩ := nm_s hf
  refine lv_iinc (v := x_2) (lv' := [(7, .int x_2), (6, .int x_1), (0, .ref h), (2, .int l2), (3, .int l3), (4, .int l4)]) hx hb dX9_lay_73 hl (k := 5) rfl (by rw [ex_2]; rfl) (by decide) rfl (fun ls hl => ?_)
  refine lv_goto (tgt := 39) hx hb dX9_lay_76 (by decide) ?_
  have hf : k_39 v_high v_tryWho v_tryDoes v_tryMuch v_tryAgainst v_tryLife v_tryShield l2 l3 l4 x_1 x_2 = some (n_high, n_tryWho, n_tryDoes, n_tryMuch, n_tryAgainst, n_tryLife, n_tryShield) := hf
  exact hk_39 v_high v_tryWho v_tryDoes v_tryMuch v_tryAgainst v_tryLife v_tryShield l2 l3 l4 x_1 x_2 _ _ _ hf hP hD hS (lv_sub hl [2, 3, 4, 5, 1, 0] rfl)
set_option maxHeartbeats 4000000 in
set_option maxRecDepth 100000 in
theorem kX9_lay_54 {p : Program} {l : Launch} {e : Env} {s : State} {m : MethodId} {args : Array Value} {below : List Frame} {meth : Method} {c : Code} {dC : Nat → ClassId} {dI : Nat → Nat → Nat} {A : Nat → Prop} {cI cJ cZ cG : ClassId} {h h_effect h_number h_banned h_has h_life h_shield h_strength h_haveMet h_deck h_deckSize h_who h_does h_much h_against h_pack h_packSize h_gives h_wants h_tryWho h_tryDoes h_tryMuch h_tryAgainst h_tryLife h_tryShield h_ring h_row : Nat} {v_thrown : Int32} {v_today : Int32} {v_kinds : Int32} {v_stacked : Int32} {v_drafters : Int32} {v_cards : Int32} {v_round : Int32} {v_turn : Int32} {v_ringSize : Int32} {v_many : Int32} {v_life : Nat → Int32} {v_shield : Nat → Int32} {v_who : Nat → Int32} {v_does : Nat → Int32} {v_much : Nat → Int32} {v_against : Nat → Int32} {n_high : Int32} {n_tryWho : Nat → Int32} {n_tryDoes : Nat → Int32} {n_tryMuch : Nat → Int64} {n_tryAgainst : Nat → Int32} {n_tryLife : Nat → Int64} {n_tryShield : Nat → Int64} {k_7 : Int32 → (Nat → Int32) → (Nat → Int32) → (Nat → Int64) → (Nat → Int32) → (Nat → Int64) → (Nat → Int64) → Int32 → Int32 → Int32 → Option (Int32 × (Nat → Int32) × (Nat → Int32) × (Nat → Int64) × (Nat → Int32) × (Nat → Int64) × (Nat → Int64))} {k_39 : Int32 → (Nat → Int32) → (Nat → Int32) → (Nat → Int64) → (Nat → Int32) → (Nat → Int64) → (Nat → Int64) → Int32 → Int32 → Int32 → Int32 → Int32 → Option (Int32 × (Nat → Int32) × (Nat → Int32) × (Nat → Int64) × (Nat → Int32) × (Nat → Int64) × (Nat → Int64))} (C0 : wCX p s args m meth c cX9_lay 8 none RX9 wsX9_lay) (hA : ∀ q, s.heap.size ≤ q → A q) (hK : va_K (dC, dI) vwCl (tysW cI cJ cZ cG) s) (hk_7 : ∀ (v_high : Int32) (v_tryWho : Nat → Int32) (v_tryDoes : Nat → Int32) (v_tryMuch : Nat → Int64) (v_tryAgainst : Nat → Int32) (v_tryLife : Nat → Int64) (v_tryShield : Nat → Int64) (l2 : Int32) (l3 : Int32) (l4 : Int32) (H : Heap) (locs : List Loc) (ls : Array Slot), k_7 v_high v_tryWho v_tryDoes v_tryMuch v_tryAgainst v_tryLife v_tryShield l2 l3 l4 = some (n_high, n_tryWho, n_tryDoes, n_tryMuch, n_tryAgainst, n_tryLife, n_tryShield) → va_P (dC, dI) vwCl (wcX9_lay cI cJ cZ cG h h_effect h_number h_banned h_has h_life h_shield h_strength h_haveMet h_deck h_deckSize h_who h_does h_much h_against h_pack h_packSize h_gives h_wants h_tryWho h_tryDoes h_tryMuch h_tryAgainst h_tryLife h_tryShield h_ring h_row v_thrown v_today v_kinds v_stacked v_drafters v_cards v_round v_turn v_high v_ringSize v_many v_life v_shield v_who v_does v_much v_against v_tryWho v_tryDoes v_tryMuch v_tryAgainst v_tryLife v_tryShield) H → va_D A (wcX9_lay cI cJ cZ cG h h_effect h_number h_banned h_has h_life h_shield h_strength h_haveMet h_deck h_deckSize h_who h_does h_much h_against h_pack h_packSize h_gives h_wants h_tryWho h_tryDoes h_tryMuch h_tryAgainst h_tryLife h_tryShield h_ring h_row v_thrown v_today v_kinds v_stacked v_drafters v_cards v_round v_turn v_high v_ringSize v_many v_life v_shield v_who v_does v_much v_against v_tryWho v_tryDoes v_tryMuch v_tryAgainst v_tryLife v_tryShield) → va_S A s.heap H locs → lv_has ls 8 [(0, .ref h), (2, .int l2), (3, .int l3), (4, .int l4)] → W p l e rmX9_lay s m args below meth c H locs 0 0 (MQ below (wQv (wcX9_lay cI cJ cZ cG h h_effect h_number h_banned h_has h_life h_shield h_strength h_haveMet h_deck h_deckSize h_who h_does h_much h_against h_pack h_packSize h_gives h_wants h_tryWho h_tryDoes h_tryMuch h_tryAgainst h_tryLife h_tryShield h_ring h_row v_thrown v_today v_kinds v_stacked v_drafters v_cards v_round v_turn n_high v_ringSize v_many v_life v_shield v_who v_does v_much v_against n_tryWho n_tryDoes n_tryMuch n_tryAgainst n_tryLife n_tryShield) (dC, dI) A) args s 0 0 A) (F0 m 7 ls [])) (hk_39 : ∀ (v_high : Int32) (v_tryWho : Nat → Int32) (v_tryDoes : Nat → Int32) (v_tryMuch : Nat → Int64) (v_tryAgainst : Nat → Int32) (v_tryLife : Nat → Int64) (v_tryShield : Nat → Int64) (l2 : Int32) (l3 : Int32) (l4 : Int32) (l6 : Int32) (l7 : Int32) (H : Heap) (locs : List Loc) (ls : Array Slot), k_39 v_high v_tryWho v_tryDoes v_tryMuch v_tryAgainst v_tryLife v_tryShield l2 l3 l4 l6 l7 = some (n_high, n_tryWho, n_tryDoes, n_tryMuch, n_tryAgainst, n_tryLife, n_tryShield) → va_P (dC, dI) vwCl (wcX9_lay cI cJ cZ cG h h_effect h_number h_banned h_has h_life h_shield h_strength h_haveMet h_deck h_deckSize h_who h_does h_much h_against h_pack h_packSize h_gives h_wants h_tryWho h_tryDoes h_tryMuch h_tryAgainst h_tryLife h_tryShield h_ring h_row v_thrown v_today v_kinds v_stacked v_drafters v_cards v_round v_turn v_high v_ringSize v_many v_life v_shield v_who v_does v_much v_against v_tryWho v_tryDoes v_tryMuch v_tryAgainst v_tryLife v_tryShield) H → va_D A (wcX9_lay cI cJ cZ cG h h_effect h_number h_banned h_has h_life h_shield h_strength h_haveMet h_deck h_deckSize h_who h_does h_much h_against h_pack h_packSize h_gives h_wants h_tryWho h_tryDoes h_tryMuch h_tryAgainst h_tryLife h_tryShield h_ring h_row v_thrown v_today v_kinds v_stacked v_drafters v_cards v_round v_turn v_high v_ringSize v_many v_life v_shield v_who v_does v_much v_against v_tryWho v_tryDoes v_tryMuch v_tryAgainst v_tryLife v_tryShield) → va_S A s.heap H locs → lv_has ls 8 [(0, .ref h), (2, .int l2), (3, .int l3), (4, .int l4), (6, .int l6), (7, .int l7)] → W p l e rmX9_lay s m args below meth c H locs 0 0 (MQ below (wQv (wcX9_lay cI cJ cZ cG h h_effect h_number h_banned h_has h_life h_shield h_strength h_haveMet h_deck h_deckSize h_who h_does h_much h_against h_pack h_packSize h_gives h_wants h_tryWho h_tryDoes h_tryMuch h_tryAgainst h_tryLife h_tryShield h_ring h_row v_thrown v_today v_kinds v_stacked v_drafters v_cards v_round v_turn n_high v_ringSize v_many v_life v_shield v_who v_does v_much v_against n_tryWho n_tryDoes n_tryMuch n_tryAgainst n_tryLife n_tryShield) (dC, dI) A) args s 0 0 A) (F0 m 39 ls [])) : ∀ (v_high : Int32) (v_tryWho : Nat → Int32) (v_tryDoes : Nat → Int32) (v_tryMuch : Nat → Int64) (v_tryAgainst : Nat → Int32) (v_tryLife : Nat → Int64) (v_tryShield : Nat → Int64) (l2 : Int32) (l3 : Int32) (l4 : Int32) (l6 : Int32) (l7 : Int32) (H : Heap) (locs : List Loc) (ls : Array Slot), fX9_lay_b54 k_7 k_39 v_stacked v_life v_shield v_who v_does v_much v_against v_high v_tryWho v_tryDoes v_tryMuch v_tryAgainst v_tryLife v_tryShield l2 l3 l4 l6 l7 = some (n_high, n_tryWho, n_tryDoes, n_tryMuch, n_tryAgainst, n_tryLife, n_tryShield) → va_P (dC, dI) vwCl (wcX9_lay cI cJ cZ cG h h_effect h_number h_banned h_has h_life h_shield h_strength h_haveMet h_deck h_deckSize h_who h_does h_much h_against h_pack h_packSize h_gives h_wants h_tryWho h_tryDoes h_tryMuch h_tryAgainst h_tryLife h_tryShield h_ring h_row v_thrown v_today v_kinds v_stacked v_drafters v_cards v_round v_turn v_high v_ringSize v_many v_life v_shield v_who v_does v_much v_against v_tryWho v_tryDoes v_tryMuch v_tryAgainst v_tryLife v_tryShield) H → va_D A (wcX9_lay cI cJ cZ cG h h_effect h_number h_banned h_has h_life h_shield h_strength h_haveMet h_deck h_deckSize h_who h_does h_much h_against h_pack h_packSize h_gives h_wants h_tryWho h_tryDoes h_tryMuch h_tryAgainst h_tryLife h_tryShield h_ring h_row v_thrown v_today v_kinds v_stacked v_drafters v_cards v_round v_turn v_high v_ringSize v_many v_life v_shield v_who v_does v_much v_against v_tryWho v_tryDoes v_tryMuch v_tryAgainst v_tryLife v_tryShield) → va_S A s.heap H locs → lv_has ls 8 [(0, .ref h), (2, .int l2), (3, .int l3), (4, .int l4), (6, .int l6), (7, .int l7)] → W p l e rmX9_lay s m args below meth c H locs 0 0 (MQ below (wQv (wcX9_lay cI cJ cZ cG h h_effect h_number h_banned h_has h_life h_shield h_strength h_haveMet h_deck h_deckSize h_who h_does h_much h_against h_pack h_packSize h_gives h_wants h_tryWho h_tryDoes h_tryMuch h_tryAgainst h_tryLife h_tryShield h_ring h_row v_thrown v_today v_kinds v_stacked v_drafters v_cards v_round v_turn n_high v_ringSize v_many v_life v_shield v_who v_does v_much v_against n_tryWho n_tryDoes n_tryMuch n_tryAgainst n_tryLife n_tryShield) (dC, dI) A) args s 0 0 A) (F0 m 54 ls []) := by
  obtain ⟨hx, hb, hr, hml, hown, hts, hlocks⟩ := id C0
  intro v_high v_tryWho v_tryDoes v_tryMuch v_tryAgainst v_tryLife v_tryShield l2 l3 l4 l6 l7 H locs ls hf hP hD hS hl
  unfold fX9_lay_b54 at hf
  refine lv_iload hx hb dX9_lay_54 (lv_at hl 4 rfl) ?_
  refine lv_iload_n hx hb dX9_lay_56 rfl (lv_at hl 2 rfl) ?_
  refine lv_iload hx hb dX9_lay_57 (lv_at hl 5 rfl) ?_
  refine lv_ishr hx hb dX9_lay_59 ?_
  refine lv_iconst (v := 1) hx hb dX9_lay_60 (by decide) ?_
  refine lv_iand hx hb dX9_lay_61 ?_
  refine lv_if_ne (tgt := 69) hx hb dX9_lay_62 (by decide) (fun c_1 => ?_) (fun c_1 => ?_)
  · have hf := it_f hf c_1
    refine lv_iconst (v := 0) hx hb dX9_lay_69 (by decide) ?_
    have hf : fX9_lay_b70 k_7 k_39 v_stacked v_life v_shield v_who v_does v_much v_against v_high v_tryWho v_tryDoes v_tryMuch v_tryAgainst v_tryLife v_tryShield l2 l3 l4 l7 l6 0 = some (n_high, n_tryWho, n_tryDoes, n_tryMuch, n_tryAgainst, n_tryLife, n_tryShield) := hf
    exact kX9_lay_70 C0 hA hK hk_7 hk_39 v_high v_tryWho v_tryDoes v_tryMuch v_tryAgainst v_tryLife v_tryShield l2 l3 l4 l7 l6 0 (Or.inl rfl) _ _ _ hf hP hD hS (lv_sub hl [0, 1, 2, 3, 5] rfl)
  · have hf := it_t hf c_1
    refine lv_iconst (v := 1) hx hb dX9_lay_65 (by decide) ?_
    refine lv_goto (tgt := 70) hx hb dX9_lay_66 (by decide) ?_
    have hf : fX9_lay_b70 k_7 k_39 v_stacked v_life v_shield v_who v_does v_much v_against v_high v_tryWho v_tryDoes v_tryMuch v_tryAgainst v_tryLife v_tryShield l2 l3 l4 l7 l6 1 = some (n_high, n_tryWho, n_tryDoes, n_tryMuch, n_tryAgainst, n_tryLife, n_tryShield) := hf
    exact kX9_lay_70 C0 hA hK hk_7 hk_39 v_high v_tryWho v_tryDoes v_tryMuch v_tryAgainst v_tryLife v_tryShield l2 l3 l4 l7 l6 1 (Or.inr rfl) _ _ _ hf hP hD hS (lv_sub hl [0, 1, 2, 3, 5] rfl)
set_option maxHeartbeats 4000000 in
set_option maxRecDepth 100000 in
theorem kX9_lay_39 {p : Program} {l : Launch} {e : Env} {s : State} {m : MethodId} {args : Array Value} {below : List Frame} {meth : Method} {c : Code} {dC : Nat → ClassId} {dI : Nat → Nat → Nat} {A : Nat → Prop} {cI cJ cZ cG : ClassId} {h h_effect h_number h_banned h_has h_life h_shield h_strength h_haveMet h_deck h_deckSize h_who h_does h_much h_against h_pack h_packSize h_gives h_wants h_tryWho h_tryDoes h_tryMuch h_tryAgainst h_tryLife h_tryShield h_ring h_row : Nat} {v_thrown : Int32} {v_today : Int32} {v_kinds : Int32} {v_stacked : Int32} {v_drafters : Int32} {v_cards : Int32} {v_round : Int32} {v_turn : Int32} {v_ringSize : Int32} {v_many : Int32} {v_life : Nat → Int32} {v_shield : Nat → Int32} {v_who : Nat → Int32} {v_does : Nat → Int32} {v_much : Nat → Int32} {v_against : Nat → Int32} {n_high : Int32} {n_tryWho : Nat → Int32} {n_tryDoes : Nat → Int32} {n_tryMuch : Nat → Int64} {n_tryAgainst : Nat → Int32} {n_tryLife : Nat → Int64} {n_tryShield : Nat → Int64} {k_7 : Int32 → (Nat → Int32) → (Nat → Int32) → (Nat → Int64) → (Nat → Int32) → (Nat → Int64) → (Nat → Int64) → Int32 → Int32 → Int32 → Option (Int32 × (Nat → Int32) × (Nat → Int32) × (Nat → Int64) × (Nat → Int32) × (Nat → Int64) × (Nat → Int64))} (C0 : wCX p s args m meth c cX9_lay 8 none RX9 wsX9_lay) (hA : ∀ q, s.heap.size ≤ q → A q) (hK : va_K (dC, dI) vwCl (tysW cI cJ cZ cG) s) (hk_7 : ∀ (v_high : Int32) (v_tryWho : Nat → Int32) (v_tryDoes : Nat → Int32) (v_tryMuch : Nat → Int64) (v_tryAgainst : Nat → Int32) (v_tryLife : Nat → Int64) (v_tryShield : Nat → Int64) (l2 : Int32) (l3 : Int32) (l4 : Int32) (H : Heap) (locs : List Loc) (ls : Array Slot), k_7 v_high v_tryWho v_tryDoes v_tryMuch v_tryAgainst v_tryLife v_tryShield l2 l3 l4 = some (n_high, n_tryWho, n_tryDoes, n_tryMuch, n_tryAgainst, n_tryLife, n_tryShield) → va_P (dC, dI) vwCl (wcX9_lay cI cJ cZ cG h h_effect h_number h_banned h_has h_life h_shield h_strength h_haveMet h_deck h_deckSize h_who h_does h_much h_against h_pack h_packSize h_gives h_wants h_tryWho h_tryDoes h_tryMuch h_tryAgainst h_tryLife h_tryShield h_ring h_row v_thrown v_today v_kinds v_stacked v_drafters v_cards v_round v_turn v_high v_ringSize v_many v_life v_shield v_who v_does v_much v_against v_tryWho v_tryDoes v_tryMuch v_tryAgainst v_tryLife v_tryShield) H → va_D A (wcX9_lay cI cJ cZ cG h h_effect h_number h_banned h_has h_life h_shield h_strength h_haveMet h_deck h_deckSize h_who h_does h_much h_against h_pack h_packSize h_gives h_wants h_tryWho h_tryDoes h_tryMuch h_tryAgainst h_tryLife h_tryShield h_ring h_row v_thrown v_today v_kinds v_stacked v_drafters v_cards v_round v_turn v_high v_ringSize v_many v_life v_shield v_who v_does v_much v_against v_tryWho v_tryDoes v_tryMuch v_tryAgainst v_tryLife v_tryShield) → va_S A s.heap H locs → lv_has ls 8 [(0, .ref h), (2, .int l2), (3, .int l3), (4, .int l4)] → W p l e rmX9_lay s m args below meth c H locs 0 0 (MQ below (wQv (wcX9_lay cI cJ cZ cG h h_effect h_number h_banned h_has h_life h_shield h_strength h_haveMet h_deck h_deckSize h_who h_does h_much h_against h_pack h_packSize h_gives h_wants h_tryWho h_tryDoes h_tryMuch h_tryAgainst h_tryLife h_tryShield h_ring h_row v_thrown v_today v_kinds v_stacked v_drafters v_cards v_round v_turn n_high v_ringSize v_many v_life v_shield v_who v_does v_much v_against n_tryWho n_tryDoes n_tryMuch n_tryAgainst n_tryLife n_tryShield) (dC, dI) A) args s 0 0 A) (F0 m 7 ls [])) : ∀ (n : Nat), ∀ (v_high : Int32) (v_tryWho : Nat → Int32) (v_tryDoes : Nat → Int32) (v_tryMuch : Nat → Int64) (v_tryAgainst : Nat → Int32) (v_tryLife : Nat → Int64) (v_tryShield : Nat → Int64) (l2 : Int32) (l3 : Int32) (l4 : Int32) (l6 : Int32) (l7 : Int32) (H : Heap) (locs : List Loc) (ls : Array Slot), fX9_lay_b39 k_7 v_stacked v_life v_shield v_who v_does v_much v_against n v_high v_tryWho v_tryDoes v_tryMuch v_tryAgainst v_tryLife v_tryShield l2 l3 l4 l6 l7 = some (n_high, n_tryWho, n_tryDoes, n_tryMuch, n_tryAgainst, n_tryLife, n_tryShield) → va_P (dC, dI) vwCl (wcX9_lay cI cJ cZ cG h h_effect h_number h_banned h_has h_life h_shield h_strength h_haveMet h_deck h_deckSize h_who h_does h_much h_against h_pack h_packSize h_gives h_wants h_tryWho h_tryDoes h_tryMuch h_tryAgainst h_tryLife h_tryShield h_ring h_row v_thrown v_today v_kinds v_stacked v_drafters v_cards v_round v_turn v_high v_ringSize v_many v_life v_shield v_who v_does v_much v_against v_tryWho v_tryDoes v_tryMuch v_tryAgainst v_tryLife v_tryShield) H → va_D A (wcX9_lay cI cJ cZ cG h h_effect h_number h_banned h_has h_life h_shield h_strength h_haveMet h_deck h_deckSize h_who h_does h_much h_against h_pack h_packSize h_gives h_wants h_tryWho h_tryDoes h_tryMuch h_tryAgainst h_tryLife h_tryShield h_ring h_row v_thrown v_today v_kinds v_stacked v_drafters v_cards v_round v_turn v_high v_ringSize v_many v_life v_shield v_who v_does v_much v_against v_tryWho v_tryDoes v_tryMuch v_tryAgainst v_tryLife v_tryShield) → va_S A s.heap H locs → lv_has ls 8 [(0, .ref h), (2, .int l2), (3, .int l3), (4, .int l4), (6, .int l6), (7, .int l7)] → W p l e rmX9_lay s m args below meth c H locs 0 0 (MQ below (wQv (wcX9_lay cI cJ cZ cG h h_effect h_number h_banned h_has h_life h_shield h_strength h_haveMet h_deck h_deckSize h_who h_does h_much h_against h_pack h_packSize h_gives h_wants h_tryWho h_tryDoes h_tryMuch h_tryAgainst h_tryLife h_tryShield h_ring h_row v_thrown v_today v_kinds v_stacked v_drafters v_cards v_round v_turn n_high v_ringSize v_many v_life v_shield v_who v_does v_much v_against n_tryWho n_tryDoes n_tryMuch n_tryAgainst n_tryLife n_tryShield) (dC, dI) A) args s 0 0 A) (F0 m 39 ls []) := by
  obtain ⟨hx, hb, hr, hml, hown, hts, hlocks⟩ := id C0
  intro n
  induction n with
  | zero =>
    intro v_high v_tryWho v_tryDoes v_tryMuch v_tryAgainst v_tryLife v_tryShield l2 l3 l4 l6 l7 H locs ls hf hP hD hS hl
    rw [fX9_lay_b39] at hf
    cases hf
  | succ n ih =>
    intro v_high v_tryWho v_tryDoes v_tryMuch v_tryAgainst v_tryLife v_tryShield l2 l3 l4 l6 l7 H locs ls hf hP hD hS hl
    rw [fX9_lay_b39] at hf
    refine lv_iload_n hx hb dX9_lay_39 rfl (lv_at hl 2 rfl) ?_
    refine lv_iload hx hb dX9_lay_40 (lv_at hl 5 rfl) ?_
    refine lv_ishr hx hb dX9_lay_42 ?_
    refine lv_iconst (v := 1) hx hb dX9_lay_43 (by decide) ?_
    refine lv_iand hx hb dX9_lay_44 ?_
    refine lv_iconst (v := 1) hx hb dX9_lay_45 (by decide) ?_
    refine lv_icmp_eq (tgt := 54) hx hb dX9_lay_46 (by decide) (fun c_1 => ?_) (fun c_1 => ?_)
    · have hf := it_t hf c_1
      have hf : fX9_lay_b54 k_7 (fX9_lay_b39 k_7 v_stacked v_life v_shield v_who v_does v_much v_against n) v_stacked v_life v_shield v_who v_does v_much v_against v_high v_tryWho v_tryDoes v_tryMuch v_tryAgainst v_tryLife v_tryShield l2 l3 l4 l6 l7 = some (n_high, n_tryWho, n_tryDoes, n_tryMuch, n_tryAgainst, n_tryLife, n_tryShield) := hf
      exact kX9_lay_54 C0 hA hK hk_7 ih v_high v_tryWho v_tryDoes v_tryMuch v_tryAgainst v_tryLife v_tryShield l2 l3 l4 l6 l7 _ _ _ hf hP hD hS (lv_sub hl [0, 1, 2, 3, 4, 5] rfl)
    · have hf := it_f hf c_1
      refine lv_iload hx hb dX9_lay_49 (lv_at hl 4 rfl) ?_
      refine lv_if_le (tgt := 79) hx hb dX9_lay_51 (by decide) (fun c_2 => ?_) (fun c_2 => ?_)
      · have hf := it_t hf c_2
        refine lv_iload_n hx hb dX9_lay_79 rfl (lv_at hl 2 rfl) ?_
        refine lv_iconst (v := 1) hx hb dX9_lay_80 (by decide) ?_
        refine lv_iload hx hb dX9_lay_81 (lv_at hl 5 rfl) ?_
        refine lv_ishl hx hb dX9_lay_83 ?_
        refine lv_ior hx hb dX9_lay_84 ?_
        obtain ⟨x_3, ex_3, hf⟩ := nm_s hf
        refine w_eqi ex_3 ?_
        refine lv_istore_n (lv' := [(3, .int x_3), (0, .ref h), (2, .int l2), (4, .int l4), (6, .int l6), (7, .int l7)]) hx hb dX9_lay_85 rfl hl (by decide) rfl (fun ls hl => ?_)
        refine lv_aload_n hx hb dX9_lay_86 rfl (lv_at hl 1 rfl) ?_
        refine va_get (D := (dC, dI)) (ci := 9) (v := .ref h_tryWho) (C := RX9) (T := TX9) (N := 37) hx hb hts iX9_lay_X9 hown hK hP 0 rfl rfl 27 (by decide) (hts _ mX9_lay_2) (fun _ h9 => h9) rfl dX9_lay_87 ?_
        refine lv_iload hx hb dX9_lay_90 (lv_at hl 3 rfl) ?_
        refine lv_aload_n hx hb dX9_lay_92 rfl (lv_at hl 1 rfl) ?_
        refine va_get (D := (dC, dI)) (ci := 9) (v := .ref h_who) (C := RX9) (T := TX9) (N := 37) hx hb hts iX9_lay_X9 hown hK hP 0 rfl rfl 14 (by decide) (hts _ mX9_lay_3) (fun _ h9 => h9) rfl dX9_lay_93 ?_
        refine lv_iload hx hb dX9_lay_96 (lv_at hl 5 rfl) ?_
        obtain ⟨hg_4, hf⟩ := ck_s hf
        refine va_iald (D := (dC, dI)) hx hb hK hP 3 0 rfl rfl (g_vp hg_4) dX9_lay_98 ?_
        obtain ⟨x_5, ex_5, hf⟩ := nm_s hf
        refine w_eqi ex_5 ?_
        obtain ⟨hg_6, hf⟩ := ck_s hf
        refine va_iast (D := (dC, dI)) hx hb hK hP hD hS 7 0 rfl rfl (g_vp hg_6) dX9_lay_99 (fun H locs hP hD hS => ?_)
        have hP : va_P (dC, dI) vwCl (wcX9_lay cI cJ cZ cG h h_effect h_number h_banned h_has h_life h_shield h_strength h_haveMet h_deck h_deckSize h_who h_does h_much h_against h_pack h_packSize h_gives h_wants h_tryWho h_tryDoes h_tryMuch h_tryAgainst h_tryLife h_tryShield h_ring h_row v_thrown v_today v_kinds v_stacked v_drafters v_cards v_round v_turn v_high v_ringSize v_many v_life v_shield v_who v_does v_much v_against (upd v_tryWho l4.toNatClampNeg x_5) v_tryDoes v_tryMuch v_tryAgainst v_tryLife v_tryShield) H := hP
        have hD : va_D A (wcX9_lay cI cJ cZ cG h h_effect h_number h_banned h_has h_life h_shield h_strength h_haveMet h_deck h_deckSize h_who h_does h_much h_against h_pack h_packSize h_gives h_wants h_tryWho h_tryDoes h_tryMuch h_tryAgainst h_tryLife h_tryShield h_ring h_row v_thrown v_today v_kinds v_stacked v_drafters v_cards v_round v_turn v_high v_ringSize v_many v_life v_shield v_who v_does v_much v_against (upd v_tryWho l4.toNatClampNeg x_5) v_tryDoes v_tryMuch v_tryAgainst v_tryLife v_tryShield) := hD
        refine lv_aload_n hx hb dX9_lay_100 rfl (lv_at hl 1 rfl) ?_
        refine va_get (D := (dC, dI)) (ci := 9) (v := .ref h_tryDoes) (C := RX9) (T := TX9) (N := 37) hx hb hts iX9_lay_X9 hown hK hP 0 rfl rfl 28 (by decide) (hts _ mX9_lay_4) (fun _ h9 => h9) rfl dX9_lay_101 ?_
        refine lv_iload hx hb dX9_lay_104 (lv_at hl 3 rfl) ?_
        refine lv_aload_n hx hb dX9_lay_106 rfl (lv_at hl 1 rfl) ?_
        refine va_get (D := (dC, dI)) (ci := 9) (v := .ref h_does) (C := RX9) (T := TX9) (N := 37) hx hb hts iX9_lay_X9 hown hK hP 0 rfl rfl 15 (by decide) (hts _ mX9_lay_5) (fun _ h9 => h9) rfl dX9_lay_107 ?_
        refine lv_iload hx hb dX9_lay_110 (lv_at hl 5 rfl) ?_
        obtain ⟨hg_7, hf⟩ := ck_s hf
        refine va_iald (D := (dC, dI)) hx hb hK hP 4 0 rfl rfl (g_vp hg_7) dX9_lay_112 ?_
        obtain ⟨x_8, ex_8, hf⟩ := nm_s hf
        refine w_eqi ex_8 ?_
        obtain ⟨hg_9, hf⟩ := ck_s hf
        refine va_iast (D := (dC, dI)) hx hb hK hP hD hS 8 0 rfl rfl (g_vp hg_9) dX9_lay_113 (fun H locs hP hD hS => ?_)
        have hP : va_P (dC, dI) vwCl (wcX9_lay cI cJ cZ cG h h_effect h_number h_banned h_has h_life h_shield h_strength h_haveMet h_deck h_deckSize h_who h_does h_much h_against h_pack h_packSize h_gives h_wants h_tryWho h_tryDoes h_tryMuch h_tryAgainst h_tryLife h_tryShield h_ring h_row v_thrown v_today v_kinds v_stacked v_drafters v_cards v_round v_turn v_high v_ringSize v_many v_life v_shield v_who v_does v_much v_against (upd v_tryWho l4.toNatClampNeg x_5) (upd v_tryDoes l4.toNatClampNeg x_8) v_tryMuch v_tryAgainst v_tryLife v_tryShield) H := hP
        have hD : va_D A (wcX9_lay cI cJ cZ cG h h_effect h_number h_banned h_has h_life h_shield h_strength h_haveMet h_deck h_deckSize h_who h_does h_much h_against h_pack h_packSize h_gives h_wants h_tryWho h_tryDoes h_tryMuch h_tryAgainst h_tryLife h_tryShield h_ring h_row v_thrown v_today v_kinds v_stacked v_drafters v_cards v_round v_turn v_high v_ringSize v_many v_life v_shield v_who v_does v_much v_against (upd v_tryWho l4.toNatClampNeg x_5) (upd v_tryDoes l4.toNatClampNeg x_8) v_tryMuch v_tryAgainst v_tryLife v_tryShield) := hD
        refine lv_aload_n hx hb dX9_lay_114 rfl (lv_at hl 1 rfl) ?_
        refine va_get (D := (dC, dI)) (ci := 9) (v := .ref h_tryMuch) (C := RX9) (T := TX9) (N := 37) hx hb hts iX9_lay_X9 hown hK hP 0 rfl rfl 29 (by decide) (hts _ mX9_lay_6) (fun _ h9 => h9) rfl dX9_lay_115 ?_
        refine lv_iload hx hb dX9_lay_118 (lv_at hl 3 rfl) ?_
        refine lv_aload_n hx hb dX9_lay_120 rfl (lv_at hl 1 rfl) ?_
        refine va_get (D := (dC, dI)) (ci := 9) (v := .ref h_much) (C := RX9) (T := TX9) (N := 37) hx hb hts iX9_lay_X9 hown hK hP 0 rfl rfl 16 (by decide) (hts _ mX9_lay_7) (fun _ h9 => h9) rfl dX9_lay_121 ?_
        refine lv_iload hx hb dX9_lay_124 (lv_at hl 5 rfl) ?_
        obtain ⟨hg_10, hf⟩ := ck_s hf
        refine va_iald (D := (dC, dI)) hx hb hK hP 5 0 rfl rfl (g_vp hg_10) dX9_lay_126 ?_
        refine lv_i2l (v := (v_much l7.toNatClampNeg).toInt64) hx hb dX9_lay_127 rfl ?_
        obtain ⟨x_11, ex_11, hf⟩ := nm_s hf
        refine w_eql ex_11 ?_
        obtain ⟨hg_12, hf⟩ := ck_s hf
        refine va_last (D := (dC, dI)) hx hb hK hP hD hS 9 1 rfl rfl (g_vp hg_12) dX9_lay_128 (fun H locs hP hD hS => ?_)
        have hP : va_P (dC, dI) vwCl (wcX9_lay cI cJ cZ cG h h_effect h_number h_banned h_has h_life h_shield h_strength h_haveMet h_deck h_deckSize h_who h_does h_much h_against h_pack h_packSize h_gives h_wants h_tryWho h_tryDoes h_tryMuch h_tryAgainst h_tryLife h_tryShield h_ring h_row v_thrown v_today v_kinds v_stacked v_drafters v_cards v_round v_turn v_high v_ringSize v_many v_life v_shield v_who v_does v_much v_against (upd v_tryWho l4.toNatClampNeg x_5) (upd v_tryDoes l4.toNatClampNeg x_8) (vp_updL v_tryMuch l4.toNatClampNeg x_11) v_tryAgainst v_tryLife v_tryShield) H := hP
        have hD : va_D A (wcX9_lay cI cJ cZ cG h h_effect h_number h_banned h_has h_life h_shield h_strength h_haveMet h_deck h_deckSize h_who h_does h_much h_against h_pack h_packSize h_gives h_wants h_tryWho h_tryDoes h_tryMuch h_tryAgainst h_tryLife h_tryShield h_ring h_row v_thrown v_today v_kinds v_stacked v_drafters v_cards v_round v_turn v_high v_ringSize v_many v_life v_shield v_who v_does v_much v_against (upd v_tryWho l4.toNatClampNeg x_5) (upd v_tryDoes l4.toNatClampNeg x_8) (vp_updL v_tryMuch l4.toNatClampNeg x_11) v_tryAgainst v_tryLife v_tryShield) := hD
        refine lv_aload_n hx hb dX9_lay_129 rfl (lv_at hl 1 rfl) ?_
        refine va_get (D := (dC, dI)) (ci := 9) (v := .ref h_tryAgainst) (C := RX9) (T := TX9) (N := 37) hx hb hts iX9_lay_X9 hown hK hP 0 rfl rfl 30 (by decide) (hts _ mX9_lay_8) (fun _ h9 => h9) rfl dX9_lay_130 ?_
        refine lv_iload hx hb dX9_lay_133 (lv_at hl 3 rfl) ?_
        refine lv_aload_n hx hb dX9_lay_135 rfl (lv_at hl 1 rfl) ?_
        refine va_get (D := (dC, dI)) (ci := 9) (v := .ref h_against) (C := RX9) (T := TX9) (N := 37) hx hb hts iX9_lay_X9 hown hK hP 0 rfl rfl 17 (by decide) (hts _ mX9_lay_9) (fun _ h9 => h9) rfl dX9_lay_136 ?_
        refine lv_iload hx hb dX9_lay_139 (lv_at hl 5 rfl) ?_
        obtain ⟨hg_13, hf⟩ := ck_s hf
        refine va_iald (D := (dC, dI)) hx hb hK hP 6 0 rfl rfl (g_vp hg_13) dX9_lay_141 ?_
        obtain ⟨x_14, ex_14, hf⟩ := nm_s hf
        refine w_eqi ex_14 ?_
        obtain ⟨hg_15, hf⟩ := ck_s hf
        refine va_iast (D := (dC, dI)) hx hb hK hP hD hS 10 0 rfl rfl (g_vp hg_15) dX9_lay_142 (fun H locs hP hD hS => ?_)
        have hP : va_P (dC, dI) vwCl (wcX9_lay cI cJ cZ cG h h_effect h_number h_banned h_has h_life h_shield h_strength h_haveMet h_deck h_deckSize h_who h_does h_much h_against h_pack h_packSize h_gives h_wants h_tryWho h_tryDoes h_tryMuch h_tryAgainst h_tryLife h_tryShield h_ring h_row v_thrown v_today v_kinds v_stacked v_drafters v_cards v_round v_turn v_high v_ringSize v_many v_life v_shield v_who v_does v_much v_against (upd v_tryWho l4.toNatClampNeg x_5) (upd v_tryDoes l4.toNatClampNeg x_8) (vp_updL v_tryMuch l4.toNatClampNeg x_11) (upd v_tryAgainst l4.toNatClampNeg x_14) v_tryLife v_tryShield) H := hP
        have hD : va_D A (wcX9_lay cI cJ cZ cG h h_effect h_number h_banned h_has h_life h_shield h_strength h_haveMet h_deck h_deckSize h_who h_does h_much h_against h_pack h_packSize h_gives h_wants h_tryWho h_tryDoes h_tryMuch h_tryAgainst h_tryLife h_tryShield h_ring h_row v_thrown v_today v_kinds v_stacked v_drafters v_cards v_round v_turn v_high v_ringSize v_many v_life v_shield v_who v_does v_much v_against (upd v_tryWho l4.toNatClampNeg x_5) (upd v_tryDoes l4.toNatClampNeg x_8) (vp_updL v_tryMuch l4.toNatClampNeg x_11) (upd v_tryAgainst l4.toNatClampNeg x_14) v_tryLife v_tryShield) := hD
        obtain ⟨x_16, ex_16, hf⟩ := nm_s hf
        refine lv_iinc (v := x_16) (lv' := [(4, .int x_16), (3, .int x_3), (0, .ref h), (2, .int l2), (6, .int l6), (7, .int l7)]) hx hb dX9_lay_143 hl (k := 3) rfl (by rw [ex_16]; rfl) (by decide) rfl (fun ls hl => ?_)
        refine lv_goto (tgt := 7) hx hb dX9_lay_146 (by decide) ?_
        have hf : k_7 v_high (upd v_tryWho l4.toNatClampNeg x_5) (upd v_tryDoes l4.toNatClampNeg x_8) (vp_updL v_tryMuch l4.toNatClampNeg x_11) (upd v_tryAgainst l4.toNatClampNeg x_14) v_tryLife v_tryShield l2 x_3 x_16 = some (n_high, n_tryWho, n_tryDoes, n_tryMuch, n_tryAgainst, n_tryLife, n_tryShield) := hf
        exact hk_7 v_high (upd v_tryWho l4.toNatClampNeg x_5) (upd v_tryDoes l4.toNatClampNeg x_8) (vp_updL v_tryMuch l4.toNatClampNeg x_11) (upd v_tryAgainst l4.toNatClampNeg x_14) v_tryLife v_tryShield l2 x_3 x_16 _ _ _ hf hP hD hS (lv_sub hl [2, 3, 1, 0] rfl)
      · have hf := it_f hf c_2
        have hf : fX9_lay_b54 k_7 (fX9_lay_b39 k_7 v_stacked v_life v_shield v_who v_does v_much v_against n) v_stacked v_life v_shield v_who v_does v_much v_against v_high v_tryWho v_tryDoes v_tryMuch v_tryAgainst v_tryLife v_tryShield l2 l3 l4 l6 l7 = some (n_high, n_tryWho, n_tryDoes, n_tryMuch, n_tryAgainst, n_tryLife, n_tryShield) := hf
        exact kX9_lay_54 C0 hA hK hk_7 ih v_high v_tryWho v_tryDoes v_tryMuch v_tryAgainst v_tryLife v_tryShield l2 l3 l4 l6 l7 _ _ _ hf hP hD hS (lv_sub hl [0, 1, 2, 3, 4, 5] rfl)
set_option maxHeartbeats 4000000 in
set_option maxRecDepth 100000 in
theorem kX9_lay_160 {p : Program} {l : Launch} {e : Env} {s : State} {m : MethodId} {args : Array Value} {below : List Frame} {meth : Method} {c : Code} {dC : Nat → ClassId} {dI : Nat → Nat → Nat} {A : Nat → Prop} {cI cJ cZ cG : ClassId} {h h_effect h_number h_banned h_has h_life h_shield h_strength h_haveMet h_deck h_deckSize h_who h_does h_much h_against h_pack h_packSize h_gives h_wants h_tryWho h_tryDoes h_tryMuch h_tryAgainst h_tryLife h_tryShield h_ring h_row : Nat} {v_thrown : Int32} {v_today : Int32} {v_kinds : Int32} {v_stacked : Int32} {v_drafters : Int32} {v_cards : Int32} {v_round : Int32} {v_turn : Int32} {v_ringSize : Int32} {v_many : Int32} {v_life : Nat → Int32} {v_shield : Nat → Int32} {v_who : Nat → Int32} {v_does : Nat → Int32} {v_much : Nat → Int32} {v_against : Nat → Int32} {n_high : Int32} {n_tryWho : Nat → Int32} {n_tryDoes : Nat → Int32} {n_tryMuch : Nat → Int64} {n_tryAgainst : Nat → Int32} {n_tryLife : Nat → Int64} {n_tryShield : Nat → Int64} (C0 : wCX p s args m meth c cX9_lay 8 none RX9 wsX9_lay) (hA : ∀ q, s.heap.size ≤ q → A q) (hK : va_K (dC, dI) vwCl (tysW cI cJ cZ cG) s) : ∀ (n : Nat), ∀ (v_high : Int32) (v_tryWho : Nat → Int32) (v_tryDoes : Nat → Int32) (v_tryMuch : Nat → Int64) (v_tryAgainst : Nat → Int32) (v_tryLife : Nat → Int64) (v_tryShield : Nat → Int64) (l4 : Int32) (H : Heap) (locs : List Loc) (ls : Array Slot), fX9_lay_b160 v_stacked v_life v_shield v_who v_does v_much v_against n v_high v_tryWho v_tryDoes v_tryMuch v_tryAgainst v_tryLife v_tryShield l4 = some (n_high, n_tryWho, n_tryDoes, n_tryMuch, n_tryAgainst, n_tryLife, n_tryShield) → va_P (dC, dI) vwCl (wcX9_lay cI cJ cZ cG h h_effect h_number h_banned h_has h_life h_shield h_strength h_haveMet h_deck h_deckSize h_who h_does h_much h_against h_pack h_packSize h_gives h_wants h_tryWho h_tryDoes h_tryMuch h_tryAgainst h_tryLife h_tryShield h_ring h_row v_thrown v_today v_kinds v_stacked v_drafters v_cards v_round v_turn v_high v_ringSize v_many v_life v_shield v_who v_does v_much v_against v_tryWho v_tryDoes v_tryMuch v_tryAgainst v_tryLife v_tryShield) H → va_D A (wcX9_lay cI cJ cZ cG h h_effect h_number h_banned h_has h_life h_shield h_strength h_haveMet h_deck h_deckSize h_who h_does h_much h_against h_pack h_packSize h_gives h_wants h_tryWho h_tryDoes h_tryMuch h_tryAgainst h_tryLife h_tryShield h_ring h_row v_thrown v_today v_kinds v_stacked v_drafters v_cards v_round v_turn v_high v_ringSize v_many v_life v_shield v_who v_does v_much v_against v_tryWho v_tryDoes v_tryMuch v_tryAgainst v_tryLife v_tryShield) → va_S A s.heap H locs → lv_has ls 8 [(0, .ref h), (4, .int l4)] → W p l e rmX9_lay s m args below meth c H locs 0 0 (MQ below (wQv (wcX9_lay cI cJ cZ cG h h_effect h_number h_banned h_has h_life h_shield h_strength h_haveMet h_deck h_deckSize h_who h_does h_much h_against h_pack h_packSize h_gives h_wants h_tryWho h_tryDoes h_tryMuch h_tryAgainst h_tryLife h_tryShield h_ring h_row v_thrown v_today v_kinds v_stacked v_drafters v_cards v_round v_turn n_high v_ringSize v_many v_life v_shield v_who v_does v_much v_against n_tryWho n_tryDoes n_tryMuch n_tryAgainst n_tryLife n_tryShield) (dC, dI) A) args s 0 0 A) (F0 m 160 ls []) := by
  obtain ⟨hx, hb, hr, hml, hown, hts, hlocks⟩ := id C0
  intro n
  induction n with
  | zero =>
    intro v_high v_tryWho v_tryDoes v_tryMuch v_tryAgainst v_tryLife v_tryShield l4 H locs ls hf hP hD hS hl
    rw [fX9_lay_b160] at hf
    cases hf
  | succ n ih =>
    intro v_high v_tryWho v_tryDoes v_tryMuch v_tryAgainst v_tryLife v_tryShield l4 H locs ls hf hP hD hS hl
    rw [fX9_lay_b160] at hf
    refine lv_iload hx hb dX9_lay_160 (lv_at hl 1 rfl) ?_
    refine lv_bipush (v := 6) hx hb dX9_lay_162 (by decide) ?_
    refine lv_icmp_ge (tgt := 203) hx hb dX9_lay_164 (by decide) (fun c_1 => ?_) (fun c_1 => ?_)
    · have hf := it_t hf c_1
      have hf : some (v_high, v_tryWho, v_tryDoes, v_tryMuch, v_tryAgainst, v_tryLife, v_tryShield) = some (n_high, n_tryWho, n_tryDoes, n_tryMuch, n_tryAgainst, n_tryLife, n_tryShield) := hf
      cases hf
      exact w_vret hx hb hr hlocks hP hD hS dX9_lay_203
    · have hf := it_f hf c_1
      refine lv_aload_n hx hb dX9_lay_167 rfl (lv_at hl 0 rfl) ?_
      refine va_get (D := (dC, dI)) (ci := 9) (v := .ref h_tryLife) (C := RX9) (T := TX9) (N := 37) hx hb hts iX9_lay_X9 hown hK hP 0 rfl rfl 31 (by decide) (hts _ mX9_lay_10) (fun _ h9 => h9) rfl dX9_lay_168 ?_
      refine lv_iload hx hb dX9_lay_171 (lv_at hl 1 rfl) ?_
      refine lv_aload_n hx hb dX9_lay_173 rfl (lv_at hl 0 rfl) ?_
      refine va_get (D := (dC, dI)) (ci := 9) (v := .ref h_life) (C := RX9) (T := TX9) (N := 37) hx hb hts iX9_lay_X9 hown hK hP 0 rfl rfl 7 (by decide) (hts _ mX9_lay_11) (fun _ h9 => h9) rfl dX9_lay_174 ?_
      refine lv_iload hx hb dX9_lay_177 (lv_at hl 1 rfl) ?_
      obtain ⟨hg_2, hf⟩ := ck_s hf
      refine va_iald (D := (dC, dI)) hx hb hK hP 1 0 rfl rfl (g_vp hg_2) dX9_lay_179 ?_
      refine lv_i2l (v := (v_life l4.toNatClampNeg).toInt64) hx hb dX9_lay_180 rfl ?_
      obtain ⟨x_3, ex_3, hf⟩ := nm_s hf
      refine w_eql ex_3 ?_
      obtain ⟨hg_4, hf⟩ := ck_s hf
      refine va_last (D := (dC, dI)) hx hb hK hP hD hS 11 1 rfl rfl (g_vp hg_4) dX9_lay_181 (fun H locs hP hD hS => ?_)
      have hP : va_P (dC, dI) vwCl (wcX9_lay cI cJ cZ cG h h_effect h_number h_banned h_has h_life h_shield h_strength h_haveMet h_deck h_deckSize h_who h_does h_much h_against h_pack h_packSize h_gives h_wants h_tryWho h_tryDoes h_tryMuch h_tryAgainst h_tryLife h_tryShield h_ring h_row v_thrown v_today v_kinds v_stacked v_drafters v_cards v_round v_turn v_high v_ringSize v_many v_life v_shield v_who v_does v_much v_against v_tryWho v_tryDoes v_tryMuch v_tryAgainst (vp_updL v_tryLife l4.toNatClampNeg x_3) v_tryShield) H := hP
      have hD : va_D A (wcX9_lay cI cJ cZ cG h h_effect h_number h_banned h_has h_life h_shield h_strength h_haveMet h_deck h_deckSize h_who h_does h_much h_against h_pack h_packSize h_gives h_wants h_tryWho h_tryDoes h_tryMuch h_tryAgainst h_tryLife h_tryShield h_ring h_row v_thrown v_today v_kinds v_stacked v_drafters v_cards v_round v_turn v_high v_ringSize v_many v_life v_shield v_who v_does v_much v_against v_tryWho v_tryDoes v_tryMuch v_tryAgainst (vp_updL v_tryLife l4.toNatClampNeg x_3) v_tryShield) := hD
      refine lv_aload_n hx hb dX9_lay_182 rfl (lv_at hl 0 rfl) ?_
      refine va_get (D := (dC, dI)) (ci := 9) (v := .ref h_tryShield) (C := RX9) (T := TX9) (N := 37) hx hb hts iX9_lay_X9 hown hK hP 0 rfl rfl 32 (by decide) (hts _ mX9_lay_12) (fun _ h9 => h9) rfl dX9_lay_183 ?_
      refine lv_iload hx hb dX9_lay_186 (lv_at hl 1 rfl) ?_
      refine lv_aload_n hx hb dX9_lay_188 rfl (lv_at hl 0 rfl) ?_
      refine va_get (D := (dC, dI)) (ci := 9) (v := .ref h_shield) (C := RX9) (T := TX9) (N := 37) hx hb hts iX9_lay_X9 hown hK hP 0 rfl rfl 8 (by decide) (hts _ mX9_lay_13) (fun _ h9 => h9) rfl dX9_lay_189 ?_
      refine lv_iload hx hb dX9_lay_192 (lv_at hl 1 rfl) ?_
      obtain ⟨hg_5, hf⟩ := ck_s hf
      refine va_iald (D := (dC, dI)) hx hb hK hP 2 0 rfl rfl (g_vp hg_5) dX9_lay_194 ?_
      refine lv_i2l (v := (v_shield l4.toNatClampNeg).toInt64) hx hb dX9_lay_195 rfl ?_
      obtain ⟨x_6, ex_6, hf⟩ := nm_s hf
      refine w_eql ex_6 ?_
      obtain ⟨hg_7, hf⟩ := ck_s hf
      refine va_last (D := (dC, dI)) hx hb hK hP hD hS 12 1 rfl rfl (g_vp hg_7) dX9_lay_196 (fun H locs hP hD hS => ?_)
      have hP : va_P (dC, dI) vwCl (wcX9_lay cI cJ cZ cG h h_effect h_number h_banned h_has h_life h_shield h_strength h_haveMet h_deck h_deckSize h_who h_does h_much h_against h_pack h_packSize h_gives h_wants h_tryWho h_tryDoes h_tryMuch h_tryAgainst h_tryLife h_tryShield h_ring h_row v_thrown v_today v_kinds v_stacked v_drafters v_cards v_round v_turn v_high v_ringSize v_many v_life v_shield v_who v_does v_much v_against v_tryWho v_tryDoes v_tryMuch v_tryAgainst (vp_updL v_tryLife l4.toNatClampNeg x_3) (vp_updL v_tryShield l4.toNatClampNeg x_6)) H := hP
      have hD : va_D A (wcX9_lay cI cJ cZ cG h h_effect h_number h_banned h_has h_life h_shield h_strength h_haveMet h_deck h_deckSize h_who h_does h_much h_against h_pack h_packSize h_gives h_wants h_tryWho h_tryDoes h_tryMuch h_tryAgainst h_tryLife h_tryShield h_ring h_row v_thrown v_today v_kinds v_stacked v_drafters v_cards v_round v_turn v_high v_ringSize v_many v_life v_shield v_who v_does v_much v_against v_tryWho v_tryDoes v_tryMuch v_tryAgainst (vp_updL v_tryLife l4.toNatClampNeg x_3) (vp_updL v_tryShield l4.toNatClampNeg x_6)) := hD
      obtain ⟨x_8, ex_8, hf⟩ := nm_s hf
      refine lv_iinc (v := x_8) (lv' := [(4, .int x_8), (0, .ref h)]) hx hb dX9_lay_197 hl (k := 1) rfl (by rw [ex_8]; rfl) (by decide) rfl (fun ls hl => ?_)
      refine lv_goto (tgt := 160) hx hb dX9_lay_200 (by decide) ?_
      have hf : (fX9_lay_b160 v_stacked v_life v_shield v_who v_does v_much v_against n) v_high v_tryWho v_tryDoes v_tryMuch v_tryAgainst (vp_updL v_tryLife l4.toNatClampNeg x_3) (vp_updL v_tryShield l4.toNatClampNeg x_6) x_8 = some (n_high, n_tryWho, n_tryDoes, n_tryMuch, n_tryAgainst, n_tryLife, n_tryShield) := hf
      exact ih v_high v_tryWho v_tryDoes v_tryMuch v_tryAgainst (vp_updL v_tryLife l4.toNatClampNeg x_3) (vp_updL v_tryShield l4.toNatClampNeg x_6) x_8 _ _ _ hf hP hD hS (lv_sub hl [1, 0] rfl)
set_option maxHeartbeats 4000000 in
set_option maxRecDepth 100000 in
theorem kX9_lay_7 {p : Program} {l : Launch} {e : Env} {s : State} {m : MethodId} {args : Array Value} {below : List Frame} {meth : Method} {c : Code} {dC : Nat → ClassId} {dI : Nat → Nat → Nat} {A : Nat → Prop} {cI cJ cZ cG : ClassId} {h h_effect h_number h_banned h_has h_life h_shield h_strength h_haveMet h_deck h_deckSize h_who h_does h_much h_against h_pack h_packSize h_gives h_wants h_tryWho h_tryDoes h_tryMuch h_tryAgainst h_tryLife h_tryShield h_ring h_row : Nat} {v_thrown : Int32} {v_today : Int32} {v_kinds : Int32} {v_stacked : Int32} {v_drafters : Int32} {v_cards : Int32} {v_round : Int32} {v_turn : Int32} {v_ringSize : Int32} {v_many : Int32} {v_life : Nat → Int32} {v_shield : Nat → Int32} {v_who : Nat → Int32} {v_does : Nat → Int32} {v_much : Nat → Int32} {v_against : Nat → Int32} {n_high : Int32} {n_tryWho : Nat → Int32} {n_tryDoes : Nat → Int32} {n_tryMuch : Nat → Int64} {n_tryAgainst : Nat → Int32} {n_tryLife : Nat → Int64} {n_tryShield : Nat → Int64} (C0 : wCX p s args m meth c cX9_lay 8 none RX9 wsX9_lay) (hA : ∀ q, s.heap.size ≤ q → A q) (hK : va_K (dC, dI) vwCl (tysW cI cJ cZ cG) s) : ∀ (n : Nat), ∀ (v_high : Int32) (v_tryWho : Nat → Int32) (v_tryDoes : Nat → Int32) (v_tryMuch : Nat → Int64) (v_tryAgainst : Nat → Int32) (v_tryLife : Nat → Int64) (v_tryShield : Nat → Int64) (l2 : Int32) (l3 : Int32) (l4 : Int32) (H : Heap) (locs : List Loc) (ls : Array Slot), fX9_lay_b7 v_stacked v_life v_shield v_who v_does v_much v_against n v_high v_tryWho v_tryDoes v_tryMuch v_tryAgainst v_tryLife v_tryShield l2 l3 l4 = some (n_high, n_tryWho, n_tryDoes, n_tryMuch, n_tryAgainst, n_tryLife, n_tryShield) → va_P (dC, dI) vwCl (wcX9_lay cI cJ cZ cG h h_effect h_number h_banned h_has h_life h_shield h_strength h_haveMet h_deck h_deckSize h_who h_does h_much h_against h_pack h_packSize h_gives h_wants h_tryWho h_tryDoes h_tryMuch h_tryAgainst h_tryLife h_tryShield h_ring h_row v_thrown v_today v_kinds v_stacked v_drafters v_cards v_round v_turn v_high v_ringSize v_many v_life v_shield v_who v_does v_much v_against v_tryWho v_tryDoes v_tryMuch v_tryAgainst v_tryLife v_tryShield) H → va_D A (wcX9_lay cI cJ cZ cG h h_effect h_number h_banned h_has h_life h_shield h_strength h_haveMet h_deck h_deckSize h_who h_does h_much h_against h_pack h_packSize h_gives h_wants h_tryWho h_tryDoes h_tryMuch h_tryAgainst h_tryLife h_tryShield h_ring h_row v_thrown v_today v_kinds v_stacked v_drafters v_cards v_round v_turn v_high v_ringSize v_many v_life v_shield v_who v_does v_much v_against v_tryWho v_tryDoes v_tryMuch v_tryAgainst v_tryLife v_tryShield) → va_S A s.heap H locs → lv_has ls 8 [(0, .ref h), (2, .int l2), (3, .int l3), (4, .int l4)] → W p l e rmX9_lay s m args below meth c H locs 0 0 (MQ below (wQv (wcX9_lay cI cJ cZ cG h h_effect h_number h_banned h_has h_life h_shield h_strength h_haveMet h_deck h_deckSize h_who h_does h_much h_against h_pack h_packSize h_gives h_wants h_tryWho h_tryDoes h_tryMuch h_tryAgainst h_tryLife h_tryShield h_ring h_row v_thrown v_today v_kinds v_stacked v_drafters v_cards v_round v_turn n_high v_ringSize v_many v_life v_shield v_who v_does v_much v_against n_tryWho n_tryDoes n_tryMuch n_tryAgainst n_tryLife n_tryShield) (dC, dI) A) args s 0 0 A) (F0 m 7 ls []) := by
  obtain ⟨hx, hb, hr, hml, hown, hts, hlocks⟩ := id C0
  intro n
  induction n with
  | zero =>
    intro v_high v_tryWho v_tryDoes v_tryMuch v_tryAgainst v_tryLife v_tryShield l2 l3 l4 H locs ls hf hP hD hS hl
    rw [fX9_lay_b7] at hf
    cases hf
  | succ n ih =>
    intro v_high v_tryWho v_tryDoes v_tryMuch v_tryAgainst v_tryLife v_tryShield l2 l3 l4 H locs ls hf hP hD hS hl
    rw [fX9_lay_b7] at hf
    refine lv_iload hx hb dX9_lay_7 (lv_at hl 3 rfl) ?_
    refine lv_aload_n hx hb dX9_lay_9 rfl (lv_at hl 0 rfl) ?_
    refine va_get (D := (dC, dI)) (ci := 9) (v := .int v_stacked) (C := RX9) (T := TX9) (N := 37) hx hb hts iX9_lay_X9 hown hK hP 0 rfl rfl 13 (by decide) (hts _ mX9_lay_0) (fun _ h9 => h9) rfl dX9_lay_10 ?_
    refine lv_icmp_ge (tgt := 149) hx hb dX9_lay_13 (by decide) (fun c_1 => ?_) (fun c_1 => ?_)
    · have hf := it_t hf c_1
      refine lv_aload_n hx hb dX9_lay_149 rfl (lv_at hl 0 rfl) ?_
      refine lv_aload_n hx hb dX9_lay_150 rfl (lv_at hl 0 rfl) ?_
      refine va_get (D := (dC, dI)) (ci := 9) (v := .int v_stacked) (C := RX9) (T := TX9) (N := 37) hx hb hts iX9_lay_X9 hown hK hP 0 rfl rfl 13 (by decide) (hts _ mX9_lay_0) (fun _ h9 => h9) rfl dX9_lay_151 ?_
      refine va_put (D := (dC, dI)) (ci := 9) (v := .int v_stacked) (ty := .int) (C := RX9) (T := TX9) (N := 37) hx hb hts iX9_lay_X9 tyX9 tyX9_ok nmX9 hown hK hP hD hS 0 rfl rfl 26 (by decide) (hts _ mX9_lay_1) (fun _ h9 => h9) rfl (by decide +kernel) rfl rfl (Nat.le_of_ble_eq_true rfl) dX9_lay_154 (fun H locs hP hD hS => ?_)
      have hP : va_P (dC, dI) vwCl (wcX9_lay cI cJ cZ cG h h_effect h_number h_banned h_has h_life h_shield h_strength h_haveMet h_deck h_deckSize h_who h_does h_much h_against h_pack h_packSize h_gives h_wants h_tryWho h_tryDoes h_tryMuch h_tryAgainst h_tryLife h_tryShield h_ring h_row v_thrown v_today v_kinds v_stacked v_drafters v_cards v_round v_turn v_stacked v_ringSize v_many v_life v_shield v_who v_does v_much v_against v_tryWho v_tryDoes v_tryMuch v_tryAgainst v_tryLife v_tryShield) H := hP
      have hD : va_D A (wcX9_lay cI cJ cZ cG h h_effect h_number h_banned h_has h_life h_shield h_strength h_haveMet h_deck h_deckSize h_who h_does h_much h_against h_pack h_packSize h_gives h_wants h_tryWho h_tryDoes h_tryMuch h_tryAgainst h_tryLife h_tryShield h_ring h_row v_thrown v_today v_kinds v_stacked v_drafters v_cards v_round v_turn v_stacked v_ringSize v_many v_life v_shield v_who v_does v_much v_against v_tryWho v_tryDoes v_tryMuch v_tryAgainst v_tryLife v_tryShield) := hD
      refine lv_iconst (v := 0) hx hb dX9_lay_157 (by decide) ?_
      refine lv_istore (lv' := [(4, .int 0), (0, .ref h), (2, .int l2), (3, .int l3)]) hx hb dX9_lay_158 hl (by decide) rfl (fun ls hl => ?_)
      have hf : fX9_lay_b160 v_stacked v_life v_shield v_who v_does v_much v_against 70 v_stacked v_tryWho v_tryDoes v_tryMuch v_tryAgainst v_tryLife v_tryShield 0 = some (n_high, n_tryWho, n_tryDoes, n_tryMuch, n_tryAgainst, n_tryLife, n_tryShield) := hf
      exact kX9_lay_160 C0 hA hK 70 v_stacked v_tryWho v_tryDoes v_tryMuch v_tryAgainst v_tryLife v_tryShield 0 _ _ _ hf hP hD hS (lv_sub hl [1, 0] rfl)
    · have hf := it_f hf c_1
      refine lv_aload_n hx hb dX9_lay_16 rfl (lv_at hl 0 rfl) ?_
      refine va_get (D := (dC, dI)) (ci := 9) (v := .int v_stacked) (C := RX9) (T := TX9) (N := 37) hx hb hts iX9_lay_X9 hown hK hP 0 rfl rfl 13 (by decide) (hts _ mX9_lay_0) (fun _ h9 => h9) rfl dX9_lay_17 ?_
      refine lv_iload hx hb dX9_lay_20 (lv_at hl 3 rfl) ?_
      refine lv_isub hx hb dX9_lay_22 ?_
      obtain ⟨x_2, ex_2, hf⟩ := nm_s hf
      refine w_eqi ex_2 ?_
      refine lv_istore (lv' := [(5, .int x_2), (0, .ref h), (2, .int l2), (3, .int l3), (4, .int l4)]) hx hb dX9_lay_23 hl (by decide) rfl (fun ls hl => ?_)
      refine lv_iload_n hx hb dX9_lay_25 rfl (lv_at hl 2 rfl) ?_
      refine lv_iload hx hb dX9_lay_26 (lv_at hl 0 rfl) ?_
      obtain ⟨hg_3, hf⟩ := ck_s hf
      refine lv_irem hx hb dX9_lay_28 (nz_n hg_3) ?_
      obtain ⟨x_4, ex_4, hf⟩ := nm_s hf
      refine w_eqi ex_4 ?_
      refine lv_istore (lv' := [(6, .int x_4), (5, .int x_2), (0, .ref h), (2, .int l2), (3, .int l3), (4, .int l4)]) hx hb dX9_lay_29 hl (by decide) rfl (fun ls hl => ?_)
      refine lv_iload_n hx hb dX9_lay_31 rfl (lv_at hl 3 rfl) ?_
      refine lv_iload hx hb dX9_lay_32 (lv_at hl 1 rfl) ?_
      obtain ⟨hg_5, hf⟩ := ck_s hf
      refine lv_idiv hx hb dX9_lay_34 (nz_n hg_5) ?_
      obtain ⟨x_6, ex_6, hf⟩ := nm_s hf
      refine w_eqi ex_6 ?_
      refine lv_istore_n (lv' := [(2, .int x_6), (6, .int x_4), (5, .int x_2), (0, .ref h), (3, .int l3), (4, .int l4)]) hx hb dX9_lay_35 rfl hl (by decide) rfl (fun ls hl => ?_)
      refine lv_iconst (v := 0) hx hb dX9_lay_36 (by decide) ?_
      refine lv_istore (lv' := [(7, .int 0), (2, .int x_6), (6, .int x_4), (5, .int x_2), (0, .ref h), (3, .int l3), (4, .int l4)]) hx hb dX9_lay_37 hl (by decide) rfl (fun ls hl => ?_)
      have hf : fX9_lay_b39 (fX9_lay_b7 v_stacked v_life v_shield v_who v_does v_much v_against n) v_stacked v_life v_shield v_who v_does v_much v_against 70 v_high v_tryWho v_tryDoes v_tryMuch v_tryAgainst v_tryLife v_tryShield x_6 l3 l4 x_4 0 = some (n_high, n_tryWho, n_tryDoes, n_tryMuch, n_tryAgainst, n_tryLife, n_tryShield) := hf
      exact kX9_lay_39 C0 hA hK ih 70 v_high v_tryWho v_tryDoes v_tryMuch v_tryAgainst v_tryLife v_tryShield x_6 l3 l4 x_4 0 _ _ _ hf hP hD hS (lv_sub hl [4, 1, 5, 6, 2, 0] rfl)
set_option maxHeartbeats 4000000 in
set_option maxRecDepth 100000 in
theorem oX9_lay (l : Launch) (dC : Nat → ClassId) (dI : Nat → Nat → Nat) (cI cJ cZ cG : ClassId) (h h_effect h_number h_banned h_has h_life h_shield h_strength h_haveMet h_deck h_deckSize h_who h_does h_much h_against h_pack h_packSize h_gives h_wants h_tryWho h_tryDoes h_tryMuch h_tryAgainst h_tryLife h_tryShield h_ring h_row : Nat) (v_thrown : Int32) (v_today : Int32) (v_kinds : Int32) (v_stacked : Int32) (v_drafters : Int32) (v_cards : Int32) (v_round : Int32) (v_turn : Int32) (v_high : Int32) (v_ringSize : Int32) (v_many : Int32) (v_life : Nat → Int32) (v_shield : Nat → Int32) (v_who : Nat → Int32) (v_does : Nat → Int32) (v_much : Nat → Int32) (v_against : Nat → Int32) (v_tryWho : Nat → Int32) (v_tryDoes : Nat → Int32) (v_tryMuch : Nat → Int64) (v_tryAgainst : Nat → Int32) (v_tryLife : Nat → Int64) (v_tryShield : Nat → Int64) (sz : Nat) (p1 : Int32) (n_high : Int32) (n_tryWho : Nat → Int32) (n_tryDoes : Nat → Int32) (n_tryMuch : Nat → Int64) (n_tryAgainst : Nat → Int32) (n_tryLife : Nat → Int64) (n_tryShield : Nat → Int64) (hf : fX9_lay v_stacked v_high v_life v_shield v_who v_does v_much v_against v_tryWho v_tryDoes v_tryMuch v_tryAgainst v_tryLife v_tryShield p1 = some (n_high, n_tryWho, n_tryDoes, n_tryMuch, n_tryAgainst, n_tryLife, n_tryShield)) : Met l yX9_lay wsX9_lay rmX9_lay (wPc [.ref h, .int p1] (dC, dI) (tysW cI cJ cZ cG) sz (wcX9_lay cI cJ cZ cG h h_effect h_number h_banned h_has h_life h_shield h_strength h_haveMet h_deck h_deckSize h_who h_does h_much h_against h_pack h_packSize h_gives h_wants h_tryWho h_tryDoes h_tryMuch h_tryAgainst h_tryLife h_tryShield h_ring h_row v_thrown v_today v_kinds v_stacked v_drafters v_cards v_round v_turn v_high v_ringSize v_many v_life v_shield v_who v_does v_much v_against v_tryWho v_tryDoes v_tryMuch v_tryAgainst v_tryLife v_tryShield)) (wQv (wcX9_lay cI cJ cZ cG h h_effect h_number h_banned h_has h_life h_shield h_strength h_haveMet h_deck h_deckSize h_who h_does h_much h_against h_pack h_packSize h_gives h_wants h_tryWho h_tryDoes h_tryMuch h_tryAgainst h_tryLife h_tryShield h_ring h_row v_thrown v_today v_kinds v_stacked v_drafters v_cards v_round v_turn n_high v_ringSize v_many v_life v_shield v_who v_does v_much v_against n_tryWho n_tryDoes n_tryMuch n_tryAgainst n_tryLife n_tryShield) (dC, dI) (va_A (wcX9_lay cI cJ cZ cG h h_effect h_number h_banned h_has h_life h_shield h_strength h_haveMet h_deck h_deckSize h_who h_does h_much h_against h_pack h_packSize h_gives h_wants h_tryWho h_tryDoes h_tryMuch h_tryAgainst h_tryLife h_tryShield h_ring h_row v_thrown v_today v_kinds v_stacked v_drafters v_cards v_round v_turn v_high v_ringSize v_many v_life v_shield v_who v_does v_much v_against v_tryWho v_tryDoes v_tryMuch v_tryAgainst v_tryLife v_tryShield) sz)) 0 0 (va_A (wcX9_lay cI cJ cZ cG h h_effect h_number h_banned h_has h_life h_shield h_strength h_haveMet h_deck h_deckSize h_who h_does h_much h_against h_pack h_packSize h_gives h_wants h_tryWho h_tryDoes h_tryMuch h_tryAgainst h_tryLife h_tryShield h_ring h_row v_thrown v_today v_kinds v_stacked v_drafters v_cards v_round v_turn v_high v_ringSize v_many v_life v_shield v_who v_does v_much v_against v_tryWho v_tryDoes v_tryMuch v_tryAgainst v_tryLife v_tryShield) sz) := by
  refine Met.ofW (cc := cX9_lay) (maxL := 8) (ret := none) (by decide) rfl ?_
  intro p e s m args below meth c s₁ B hml hv
  obtain ⟨rfl, hsz, hP, hK, hD0⟩ := hv
  have hx := B.exec
  have hb := B.bytes
  have hr := B.returns
  have hts := atoms_spec (ws := wsX9_lay) B.pre
  have hown : s.vm.findClass RX9 = some m.cls := findClass_of_methodNamed B.named
  have hlocks := B.notSynchronized
  subst hsz
  have hD := hD0.self (sz := s.heap.size)
  generalize hAe : va_A (wcX9_lay cI cJ cZ cG h h_effect h_number h_banned h_has h_life h_shield h_strength h_haveMet h_deck h_deckSize h_who h_does h_much h_against h_pack h_packSize h_gives h_wants h_tryWho h_tryDoes h_tryMuch h_tryAgainst h_tryLife h_tryShield h_ring h_row v_thrown v_today v_kinds v_stacked v_drafters v_cards v_round v_turn v_high v_ringSize v_many v_life v_shield v_who v_does v_much v_against v_tryWho v_tryDoes v_tryMuch v_tryAgainst v_tryLife v_tryShield) s.heap.size = A at hD ⊢
  have hA : ∀ q : Nat, s.heap.size ≤ q → A q := fun q h => by rw [← hAe]; exact Or.inr h
  have hS : va_S A s.heap s.heap [] := va_S.rf
  have hP : va_P (dC, dI) vwCl (wcX9_lay cI cJ cZ cG h h_effect h_number h_banned h_has h_life h_shield h_strength h_haveMet h_deck h_deckSize h_who h_does h_much h_against h_pack h_packSize h_gives h_wants h_tryWho h_tryDoes h_tryMuch h_tryAgainst h_tryLife h_tryShield h_ring h_row v_thrown v_today v_kinds v_stacked v_drafters v_cards v_round v_turn v_high v_ringSize v_many v_life v_shield v_who v_does v_much v_against v_tryWho v_tryDoes v_tryMuch v_tryAgainst v_tryLife v_tryShield) s.heap := hP
  have hl := lv_entry ([.ref h, .int p1]) (n := 8) (Nat.le_of_ble_eq_true rfl)
  rw [lg_entry_eq]
  generalize (lg_sl ([.ref h, .int p1]) ++ List.replicate (8 - (lg_sl ([.ref h, .int p1])).length) Slot.unset).toArray = ls at hl ⊢
  have hl : lv_has ls 8 [(0, .ref h), (1, .int p1)] := hl
  generalize hH : s.heap = H at hP hS ⊢
  have hS : va_S A s.heap H [] := by rw [hH]; exact hS
  have C0 : wCX p s #[.ref h, .int p1] m meth c cX9_lay 8 none RX9 wsX9_lay := ⟨hx, hb, hr, hml, hown, hts, hlocks⟩
  show W p l e rmX9_lay s m #[.ref h, .int p1] below meth c H [] 0 0 (MQ below (wQv (wcX9_lay cI cJ cZ cG h h_effect h_number h_banned h_has h_life h_shield h_strength h_haveMet h_deck h_deckSize h_who h_does h_much h_against h_pack h_packSize h_gives h_wants h_tryWho h_tryDoes h_tryMuch h_tryAgainst h_tryLife h_tryShield h_ring h_row v_thrown v_today v_kinds v_stacked v_drafters v_cards v_round v_turn n_high v_ringSize v_many v_life v_shield v_who v_does v_much v_against n_tryWho n_tryDoes n_tryMuch n_tryAgainst n_tryLife n_tryShield) (dC, dI) A) #[.ref h, .int p1] s 0 0 A) (F0 m 0 ls [])
  unfold fX9_lay at hf
  refine lv_iload_n hx hb dX9_lay_0 rfl (lv_at hl 1 rfl) ?_
  refine lv_istore_n (lv' := [(2, .int p1), (0, .ref h), (1, .int p1)]) hx hb dX9_lay_1 rfl hl (by decide) rfl (fun ls hl => ?_)
  refine lv_iconst (v := 0) hx hb dX9_lay_2 (by decide) ?_
  refine lv_istore_n (lv' := [(3, .int 0), (2, .int p1), (0, .ref h), (1, .int p1)]) hx hb dX9_lay_3 rfl hl (by decide) rfl (fun ls hl => ?_)
  refine lv_iconst (v := 0) hx hb dX9_lay_4 (by decide) ?_
  refine lv_istore (lv' := [(4, .int 0), (3, .int 0), (2, .int p1), (0, .ref h), (1, .int p1)]) hx hb dX9_lay_5 hl (by decide) rfl (fun ls hl => ?_)
  have hf : fX9_lay_b7 v_stacked v_life v_shield v_who v_does v_much v_against 70 v_high v_tryWho v_tryDoes v_tryMuch v_tryAgainst v_tryLife v_tryShield p1 0 0 = some (n_high, n_tryWho, n_tryDoes, n_tryMuch, n_tryAgainst, n_tryLife, n_tryShield) := hf
  exact kX9_lay_7 C0 hA hK 70 v_high v_tryWho v_tryDoes v_tryMuch v_tryAgainst v_tryLife v_tryShield p1 0 0 _ _ _ hf hP hD hS (lv_sub hl [3, 2, 1, 0] rfl)
abbrev wcX9_top (cI cJ cZ cG : ClassId) (h h_effect h_number h_banned h_has h_life h_shield h_strength h_haveMet h_deck h_deckSize h_who h_does h_much h_against h_pack h_packSize h_gives h_wants h_tryWho h_tryDoes h_tryMuch h_tryAgainst h_tryLife h_tryShield h_ring h_row : Nat) (v_thrown : Int32) (v_today : Int32) (v_kinds : Int32) (v_stacked : Int32) (v_drafters : Int32) (v_cards : Int32) (v_round : Int32) (v_turn : Int32) (v_high : Int32) (v_ringSize : Int32) (v_many : Int32) (v_life : Nat → Int32) (v_shield : Nat → Int32) (v_who : Nat → Int32) (v_does : Nat → Int32) (v_much : Nat → Int32) (v_against : Nat → Int32) (v_tryWho : Nat → Int32) (v_tryDoes : Nat → Int32) (v_tryMuch : Nat → Int64) (v_tryAgainst : Nat → Int32) (v_tryLife : Nat → Int64) (v_tryShield : Nat → Int64) : va_W := [(h, .inr (9, [.int v_thrown, .int v_today, .int v_kinds, .ref h_effect, .ref h_number, .ref h_banned, .ref h_has, .ref h_life, .ref h_shield, .ref h_strength, .ref h_haveMet, .ref h_deck, .ref h_deckSize, .int v_stacked, .ref h_who, .ref h_does, .ref h_much, .ref h_against, .int v_drafters, .int v_cards, .int v_round, .int v_turn, .ref h_pack, .ref h_packSize, .ref h_gives, .ref h_wants, .int v_high, .ref h_tryWho, .ref h_tryDoes, .ref h_tryMuch, .ref h_tryAgainst, .ref h_tryLife, .ref h_tryShield, .int v_ringSize, .ref h_ring, .int v_many, .ref h_row])), (h_life, .inl (cI, 6, .inl v_life)), (h_shield, .inl (cI, 6, .inl v_shield)), (h_who, .inl (cI, 6, .inl v_who)), (h_does, .inl (cI, 6, .inl v_does)), (h_much, .inl (cI, 6, .inl v_much)), (h_against, .inl (cI, 6, .inl v_against)), (h_tryWho, .inl (cI, 6, .inl v_tryWho)), (h_tryDoes, .inl (cI, 6, .inl v_tryDoes)), (h_tryMuch, .inl (cJ, 6, .inr (.inl v_tryMuch))), (h_tryAgainst, .inl (cI, 6, .inl v_tryAgainst)), (h_tryLife, .inl (cJ, 6, .inr (.inl v_tryLife))), (h_tryShield, .inl (cJ, 6, .inr (.inl v_tryShield)))]
theorem iX9_top_X9 : ∀ w ∈ wsX90, w ∈ wsX9_top := by decide +kernel
theorem mX9_top_0 : (Cond.fieldLink RX9 125 "SleevehallModel" "stacked" "I") ∈ wsX9_top := by decide +kernel
theorem mX9_top_1 : (Cond.fieldLink RX9 132 "SleevehallModel" "high" "I") ∈ wsX9_top := by decide +kernel
theorem mX9_top_2 : (Cond.fieldLink RX9 41 "SleevehallModel" "who" "[I") ∈ wsX9_top := by decide +kernel
theorem mX9_top_3 : (Cond.fieldLink RX9 69 "SleevehallModel" "tryWho" "[I") ∈ wsX9_top := by decide +kernel
theorem mX9_top_4 : (Cond.fieldLink RX9 44 "SleevehallModel" "does" "[I") ∈ wsX9_top := by decide +kernel
theorem mX9_top_5 : (Cond.fieldLink RX9 72 "SleevehallModel" "tryDoes" "[I") ∈ wsX9_top := by decide +kernel
theorem mX9_top_6 : (Cond.fieldLink RX9 47 "SleevehallModel" "much" "[I") ∈ wsX9_top := by decide +kernel
theorem mX9_top_7 : (Cond.fieldLink RX9 75 "SleevehallModel" "tryMuch" "[J") ∈ wsX9_top := by decide +kernel
theorem mX9_top_8 : (Cond.fieldLink RX9 50 "SleevehallModel" "against" "[I") ∈ wsX9_top := by decide +kernel
theorem mX9_top_9 : (Cond.fieldLink RX9 79 "SleevehallModel" "tryAgainst" "[I") ∈ wsX9_top := by decide +kernel
theorem mX9_top_10 : (Cond.fieldLink RX9 22 "SleevehallModel" "life" "[I") ∈ wsX9_top := by decide +kernel
theorem mX9_top_11 : (Cond.fieldLink RX9 82 "SleevehallModel" "tryLife" "[J") ∈ wsX9_top := by decide +kernel
theorem mX9_top_12 : (Cond.fieldLink RX9 25 "SleevehallModel" "shield" "[I") ∈ wsX9_top := by decide +kernel
theorem mX9_top_13 : (Cond.fieldLink RX9 85 "SleevehallModel" "tryShield" "[J") ∈ wsX9_top := by decide +kernel
abbrev rmX9_top : Room := { frames := 3, cells := 0, slots := 0, locals := 70 }
set_option maxHeartbeats 4000000 in
set_option maxRecDepth 100000 in
theorem kX9_top_108 {p : Program} {l : Launch} {e : Env} {s : State} {m : MethodId} {args : Array Value} {below : List Frame} {meth : Method} {c : Code} {dC : Nat → ClassId} {dI : Nat → Nat → Nat} {A : Nat → Prop} {cI cJ cZ cG : ClassId} {h h_effect h_number h_banned h_has h_life h_shield h_strength h_haveMet h_deck h_deckSize h_who h_does h_much h_against h_pack h_packSize h_gives h_wants h_tryWho h_tryDoes h_tryMuch h_tryAgainst h_tryLife h_tryShield h_ring h_row : Nat} {v_today : Int32} {v_kinds : Int32} {v_drafters : Int32} {v_cards : Int32} {v_round : Int32} {v_turn : Int32} {v_ringSize : Int32} {v_many : Int32} {r0 : Int32} {n_thrown : Int32} {n_stacked : Int32} {n_high : Int32} {n_life : Nat → Int32} {n_shield : Nat → Int32} {n_who : Nat → Int32} {n_does : Nat → Int32} {n_much : Nat → Int32} {n_against : Nat → Int32} {n_tryWho : Nat → Int32} {n_tryDoes : Nat → Int32} {n_tryMuch : Nat → Int64} {n_tryAgainst : Nat → Int32} {n_tryLife : Nat → Int64} {n_tryShield : Nat → Int64} (C0 : wCX p s args m meth c cX9_top 2 (some .int) RX9 wsX9_top) (hA : ∀ q, s.heap.size ≤ q → A q) (hK : va_K (dC, dI) vwCl (tysW cI cJ cZ cG) s) : ∀ (n : Nat), ∀ (v_thrown : Int32) (v_stacked : Int32) (v_high : Int32) (v_life : Nat → Int32) (v_shield : Nat → Int32) (v_who : Nat → Int32) (v_does : Nat → Int32) (v_much : Nat → Int32) (v_against : Nat → Int32) (v_tryWho : Nat → Int32) (v_tryDoes : Nat → Int32) (v_tryMuch : Nat → Int64) (v_tryAgainst : Nat → Int32) (v_tryLife : Nat → Int64) (v_tryShield : Nat → Int64) (l1 : Int32) (H : Heap) (locs : List Loc) (ls : Array Slot), fX9_top_b108 n v_thrown v_stacked v_high v_life v_shield v_who v_does v_much v_against v_tryWho v_tryDoes v_tryMuch v_tryAgainst v_tryLife v_tryShield l1 = some (r0, n_thrown, n_stacked, n_high, n_life, n_shield, n_who, n_does, n_much, n_against, n_tryWho, n_tryDoes, n_tryMuch, n_tryAgainst, n_tryLife, n_tryShield) → va_P (dC, dI) vwCl (wcX9_top cI cJ cZ cG h h_effect h_number h_banned h_has h_life h_shield h_strength h_haveMet h_deck h_deckSize h_who h_does h_much h_against h_pack h_packSize h_gives h_wants h_tryWho h_tryDoes h_tryMuch h_tryAgainst h_tryLife h_tryShield h_ring h_row v_thrown v_today v_kinds v_stacked v_drafters v_cards v_round v_turn v_high v_ringSize v_many v_life v_shield v_who v_does v_much v_against v_tryWho v_tryDoes v_tryMuch v_tryAgainst v_tryLife v_tryShield) H → va_D A (wcX9_top cI cJ cZ cG h h_effect h_number h_banned h_has h_life h_shield h_strength h_haveMet h_deck h_deckSize h_who h_does h_much h_against h_pack h_packSize h_gives h_wants h_tryWho h_tryDoes h_tryMuch h_tryAgainst h_tryLife h_tryShield h_ring h_row v_thrown v_today v_kinds v_stacked v_drafters v_cards v_round v_turn v_high v_ringSize v_many v_life v_shield v_who v_does v_much v_against v_tryWho v_tryDoes v_tryMuch v_tryAgainst v_tryLife v_tryShield) → va_S A s.heap H locs → lv_has ls 2 [(0, .ref h), (1, .int l1)] → W p l e rmX9_top s m args below meth c H locs 0 0 (MQ below (wQi r0 (wcX9_top cI cJ cZ cG h h_effect h_number h_banned h_has h_life h_shield h_strength h_haveMet h_deck h_deckSize h_who h_does h_much h_against h_pack h_packSize h_gives h_wants h_tryWho h_tryDoes h_tryMuch h_tryAgainst h_tryLife h_tryShield h_ring h_row n_thrown v_today v_kinds n_stacked v_drafters v_cards v_round v_turn n_high v_ringSize v_many n_life n_shield n_who n_does n_much n_against n_tryWho n_tryDoes n_tryMuch n_tryAgainst n_tryLife n_tryShield) (dC, dI) A) args s 0 0 A) (F0 m 108 ls []) := by
  obtain ⟨hx, hb, hr, hml, hown, hts, hlocks⟩ := id C0
  intro n
  induction n with
  | zero =>
    intro v_thrown v_stacked v_high v_life v_shield v_who v_does v_much v_against v_tryWho v_tryDoes v_tryMuch v_tryAgainst v_tryLife v_tryShield l1 H locs ls hf hP hD hS hl
    rw [fX9_top_b108] at hf
    cases hf
  | succ n ih =>
    intro v_thrown v_stacked v_high v_life v_shield v_who v_does v_much v_against v_tryWho v_tryDoes v_tryMuch v_tryAgainst v_tryLife v_tryShield l1 H locs ls hf hP hD hS hl
    rw [fX9_top_b108] at hf
    refine lv_iload_n hx hb dX9_top_108 rfl (lv_at hl 1 rfl) ?_
    refine lv_bipush (v := 6) hx hb dX9_top_109 (by decide) ?_
    refine lv_icmp_ge (tgt := 146) hx hb dX9_top_111 (by decide) (fun c_1 => ?_) (fun c_1 => ?_)
    · have hf := it_t hf c_1
      refine lv_aload_n hx hb dX9_top_146 rfl (lv_at hl 0 rfl) ?_
      refine va_get (D := (dC, dI)) (ci := 9) (v := .int v_stacked) (C := RX9) (T := TX9) (N := 37) hx hb hts iX9_top_X9 hown hK hP 0 rfl rfl 13 (by decide) (hts _ mX9_top_0) (fun _ h9 => h9) rfl dX9_top_147 ?_
      have hf : some (v_stacked, v_thrown, v_stacked, v_high, v_life, v_shield, v_who, v_does, v_much, v_against, v_tryWho, v_tryDoes, v_tryMuch, v_tryAgainst, v_tryLife, v_tryShield) = some (r0, n_thrown, n_stacked, n_high, n_life, n_shield, n_who, n_does, n_much, n_against, n_tryWho, n_tryDoes, n_tryMuch, n_tryAgainst, n_tryLife, n_tryShield) := hf
      cases hf
      exact w_iret hx hb hr hlocks rfl hP hD hS dX9_top_150
    · have hf := it_f hf c_1
      refine lv_aload_n hx hb dX9_top_114 rfl (lv_at hl 0 rfl) ?_
      refine va_get (D := (dC, dI)) (ci := 9) (v := .ref h_life) (C := RX9) (T := TX9) (N := 37) hx hb hts iX9_top_X9 hown hK hP 0 rfl rfl 7 (by decide) (hts _ mX9_top_10) (fun _ h9 => h9) rfl dX9_top_115 ?_
      refine lv_iload_n hx hb dX9_top_118 rfl (lv_at hl 1 rfl) ?_
      refine lv_aload_n hx hb dX9_top_119 rfl (lv_at hl 0 rfl) ?_
      refine va_get (D := (dC, dI)) (ci := 9) (v := .ref h_tryLife) (C := RX9) (T := TX9) (N := 37) hx hb hts iX9_top_X9 hown hK hP 0 rfl rfl 31 (by decide) (hts _ mX9_top_11) (fun _ h9 => h9) rfl dX9_top_120 ?_
      refine lv_iload_n hx hb dX9_top_123 rfl (lv_at hl 1 rfl) ?_
      obtain ⟨hg_2, hf⟩ := ck_s hf
      refine va_lald (D := (dC, dI)) hx hb hK hP 11 1 rfl rfl (g_vp hg_2) dX9_top_124 ?_
      refine lv_l2i (v := (v_tryLife l1.toNatClampNeg).toInt32) hx hb dX9_top_125 rfl ?_
      obtain ⟨x_3, ex_3, hf⟩ := nm_s hf
      refine w_eqi ex_3 ?_
      obtain ⟨hg_4, hf⟩ := ck_s hf
      refine va_iast (D := (dC, dI)) hx hb hK hP hD hS 1 0 rfl rfl (g_vp hg_4) dX9_top_126 (fun H locs hP hD hS => ?_)
      have hP : va_P (dC, dI) vwCl (wcX9_top cI cJ cZ cG h h_effect h_number h_banned h_has h_life h_shield h_strength h_haveMet h_deck h_deckSize h_who h_does h_much h_against h_pack h_packSize h_gives h_wants h_tryWho h_tryDoes h_tryMuch h_tryAgainst h_tryLife h_tryShield h_ring h_row v_thrown v_today v_kinds v_stacked v_drafters v_cards v_round v_turn v_high v_ringSize v_many (upd v_life l1.toNatClampNeg x_3) v_shield v_who v_does v_much v_against v_tryWho v_tryDoes v_tryMuch v_tryAgainst v_tryLife v_tryShield) H := hP
      have hD : va_D A (wcX9_top cI cJ cZ cG h h_effect h_number h_banned h_has h_life h_shield h_strength h_haveMet h_deck h_deckSize h_who h_does h_much h_against h_pack h_packSize h_gives h_wants h_tryWho h_tryDoes h_tryMuch h_tryAgainst h_tryLife h_tryShield h_ring h_row v_thrown v_today v_kinds v_stacked v_drafters v_cards v_round v_turn v_high v_ringSize v_many (upd v_life l1.toNatClampNeg x_3) v_shield v_who v_does v_much v_against v_tryWho v_tryDoes v_tryMuch v_tryAgainst v_tryLife v_tryShield) := hD
      refine lv_aload_n hx hb dX9_top_127 rfl (lv_at hl 0 rfl) ?_
      refine va_get (D := (dC, dI)) (ci := 9) (v := .ref h_shield) (C := RX9) (T := TX9) (N := 37) hx hb hts iX9_top_X9 hown hK hP 0 rfl rfl 8 (by decide) (hts _ mX9_top_12) (fun _ h9 => h9) rfl dX9_top_128 ?_
      refine lv_iload_n hx hb dX9_top_131 rfl (lv_at hl 1 rfl) ?_
      refine lv_aload_n hx hb dX9_top_132 rfl (lv_at hl 0 rfl) ?_
      refine va_get (D := (dC, dI)) (ci := 9) (v := .ref h_tryShield) (C := RX9) (T := TX9) (N := 37) hx hb hts iX9_top_X9 hown hK hP 0 rfl rfl 32 (by decide) (hts _ mX9_top_13) (fun _ h9 => h9) rfl dX9_top_133 ?_
      refine lv_iload_n hx hb dX9_top_136 rfl (lv_at hl 1 rfl) ?_
      obtain ⟨hg_5, hf⟩ := ck_s hf
      refine va_lald (D := (dC, dI)) hx hb hK hP 12 1 rfl rfl (g_vp hg_5) dX9_top_137 ?_
      refine lv_l2i (v := (v_tryShield l1.toNatClampNeg).toInt32) hx hb dX9_top_138 rfl ?_
      obtain ⟨x_6, ex_6, hf⟩ := nm_s hf
      refine w_eqi ex_6 ?_
      obtain ⟨hg_7, hf⟩ := ck_s hf
      refine va_iast (D := (dC, dI)) hx hb hK hP hD hS 2 0 rfl rfl (g_vp hg_7) dX9_top_139 (fun H locs hP hD hS => ?_)
      have hP : va_P (dC, dI) vwCl (wcX9_top cI cJ cZ cG h h_effect h_number h_banned h_has h_life h_shield h_strength h_haveMet h_deck h_deckSize h_who h_does h_much h_against h_pack h_packSize h_gives h_wants h_tryWho h_tryDoes h_tryMuch h_tryAgainst h_tryLife h_tryShield h_ring h_row v_thrown v_today v_kinds v_stacked v_drafters v_cards v_round v_turn v_high v_ringSize v_many (upd v_life l1.toNatClampNeg x_3) (upd v_shield l1.toNatClampNeg x_6) v_who v_does v_much v_against v_tryWho v_tryDoes v_tryMuch v_tryAgainst v_tryLife v_tryShield) H := hP
      have hD : va_D A (wcX9_top cI cJ cZ cG h h_effect h_number h_banned h_has h_life h_shield h_strength h_haveMet h_deck h_deckSize h_who h_does h_much h_against h_pack h_packSize h_gives h_wants h_tryWho h_tryDoes h_tryMuch h_tryAgainst h_tryLife h_tryShield h_ring h_row v_thrown v_today v_kinds v_stacked v_drafters v_cards v_round v_turn v_high v_ringSize v_many (upd v_life l1.toNatClampNeg x_3) (upd v_shield l1.toNatClampNeg x_6) v_who v_does v_much v_against v_tryWho v_tryDoes v_tryMuch v_tryAgainst v_tryLife v_tryShield) := hD
      obtain ⟨x_8, ex_8, hf⟩ := nm_s hf
      refine lv_iinc (v := x_8) (lv' := [(1, .int x_8), (0, .ref h)]) hx hb dX9_top_140 hl (k := 1) rfl (by rw [ex_8]; rfl) (by decide) rfl (fun ls hl => ?_)
      refine lv_goto (tgt := 108) hx hb dX9_top_143 (by decide) ?_
      have hf : (fX9_top_b108 n) v_thrown v_stacked v_high (upd v_life l1.toNatClampNeg x_3) (upd v_shield l1.toNatClampNeg x_6) v_who v_does v_much v_against v_tryWho v_tryDoes v_tryMuch v_tryAgainst v_tryLife v_tryShield x_8 = some (r0, n_thrown, n_stacked, n_high, n_life, n_shield, n_who, n_does, n_much, n_against, n_tryWho, n_tryDoes, n_tryMuch, n_tryAgainst, n_tryLife, n_tryShield) := hf
      exact ih v_thrown v_stacked v_high (upd v_life l1.toNatClampNeg x_3) (upd v_shield l1.toNatClampNeg x_6) v_who v_does v_much v_against v_tryWho v_tryDoes v_tryMuch v_tryAgainst v_tryLife v_tryShield x_8 _ _ _ hf hP hD hS (lv_sub hl [1, 0] rfl)
set_option maxHeartbeats 4000000 in
set_option maxRecDepth 100000 in
theorem kX9_top_43 {p : Program} {l : Launch} {e : Env} {s : State} {m : MethodId} {args : Array Value} {below : List Frame} {meth : Method} {c : Code} {dC : Nat → ClassId} {dI : Nat → Nat → Nat} {A : Nat → Prop} {cI cJ cZ cG : ClassId} {h h_effect h_number h_banned h_has h_life h_shield h_strength h_haveMet h_deck h_deckSize h_who h_does h_much h_against h_pack h_packSize h_gives h_wants h_tryWho h_tryDoes h_tryMuch h_tryAgainst h_tryLife h_tryShield h_ring h_row : Nat} {v_today : Int32} {v_kinds : Int32} {v_drafters : Int32} {v_cards : Int32} {v_round : Int32} {v_turn : Int32} {v_ringSize : Int32} {v_many : Int32} {r0 : Int32} {n_thrown : Int32} {n_stacked : Int32} {n_high : Int32} {n_life : Nat → Int32} {n_shield : Nat → Int32} {n_who : Nat → Int32} {n_does : Nat → Int32} {n_much : Nat → Int32} {n_against : Nat → Int32} {n_tryWho : Nat → Int32} {n_tryDoes : Nat → Int32} {n_tryMuch : Nat → Int64} {n_tryAgainst : Nat → Int32} {n_tryLife : Nat → Int64} {n_tryShield : Nat → Int64} (C0 : wCX p s args m meth c cX9_top 2 (some .int) RX9 wsX9_top) (hA : ∀ q, s.heap.size ≤ q → A q) (hK : va_K (dC, dI) vwCl (tysW cI cJ cZ cG) s) : ∀ (n : Nat), ∀ (v_thrown : Int32) (v_stacked : Int32) (v_high : Int32) (v_life : Nat → Int32) (v_shield : Nat → Int32) (v_who : Nat → Int32) (v_does : Nat → Int32) (v_much : Nat → Int32) (v_against : Nat → Int32) (v_tryWho : Nat → Int32) (v_tryDoes : Nat → Int32) (v_tryMuch : Nat → Int64) (v_tryAgainst : Nat → Int32) (v_tryLife : Nat → Int64) (v_tryShield : Nat → Int64) (l1 : Int32) (H : Heap) (locs : List Loc) (ls : Array Slot), fX9_top_b43 n v_thrown v_stacked v_high v_life v_shield v_who v_does v_much v_against v_tryWho v_tryDoes v_tryMuch v_tryAgainst v_tryLife v_tryShield l1 = some (r0, n_thrown, n_stacked, n_high, n_life, n_shield, n_who, n_does, n_much, n_against, n_tryWho, n_tryDoes, n_tryMuch, n_tryAgainst, n_tryLife, n_tryShield) → va_P (dC, dI) vwCl (wcX9_top cI cJ cZ cG h h_effect h_number h_banned h_has h_life h_shield h_strength h_haveMet h_deck h_deckSize h_who h_does h_much h_against h_pack h_packSize h_gives h_wants h_tryWho h_tryDoes h_tryMuch h_tryAgainst h_tryLife h_tryShield h_ring h_row v_thrown v_today v_kinds v_stacked v_drafters v_cards v_round v_turn v_high v_ringSize v_many v_life v_shield v_who v_does v_much v_against v_tryWho v_tryDoes v_tryMuch v_tryAgainst v_tryLife v_tryShield) H → va_D A (wcX9_top cI cJ cZ cG h h_effect h_number h_banned h_has h_life h_shield h_strength h_haveMet h_deck h_deckSize h_who h_does h_much h_against h_pack h_packSize h_gives h_wants h_tryWho h_tryDoes h_tryMuch h_tryAgainst h_tryLife h_tryShield h_ring h_row v_thrown v_today v_kinds v_stacked v_drafters v_cards v_round v_turn v_high v_ringSize v_many v_life v_shield v_who v_does v_much v_against v_tryWho v_tryDoes v_tryMuch v_tryAgainst v_tryLife v_tryShield) → va_S A s.heap H locs → lv_has ls 2 [(0, .ref h), (1, .int l1)] → W p l e rmX9_top s m args below meth c H locs 0 0 (MQ below (wQi r0 (wcX9_top cI cJ cZ cG h h_effect h_number h_banned h_has h_life h_shield h_strength h_haveMet h_deck h_deckSize h_who h_does h_much h_against h_pack h_packSize h_gives h_wants h_tryWho h_tryDoes h_tryMuch h_tryAgainst h_tryLife h_tryShield h_ring h_row n_thrown v_today v_kinds n_stacked v_drafters v_cards v_round v_turn n_high v_ringSize v_many n_life n_shield n_who n_does n_much n_against n_tryWho n_tryDoes n_tryMuch n_tryAgainst n_tryLife n_tryShield) (dC, dI) A) args s 0 0 A) (F0 m 43 ls []) := by
  obtain ⟨hx, hb, hr, hml, hown, hts, hlocks⟩ := id C0
  intro n
  induction n with
  | zero =>
    intro v_thrown v_stacked v_high v_life v_shield v_who v_does v_much v_against v_tryWho v_tryDoes v_tryMuch v_tryAgainst v_tryLife v_tryShield l1 H locs ls hf hP hD hS hl
    rw [fX9_top_b43] at hf
    cases hf
  | succ n ih =>
    intro v_thrown v_stacked v_high v_life v_shield v_who v_does v_much v_against v_tryWho v_tryDoes v_tryMuch v_tryAgainst v_tryLife v_tryShield l1 H locs ls hf hP hD hS hl
    rw [fX9_top_b43] at hf
    refine lv_iload_n hx hb dX9_top_43 rfl (lv_at hl 1 rfl) ?_
    refine lv_aload_n hx hb dX9_top_44 rfl (lv_at hl 0 rfl) ?_
    refine va_get (D := (dC, dI)) (ci := 9) (v := .int v_high) (C := RX9) (T := TX9) (N := 37) hx hb hts iX9_top_X9 hown hK hP 0 rfl rfl 26 (by decide) (hts _ mX9_top_1) (fun _ h9 => h9) rfl dX9_top_45 ?_
    refine lv_icmp_ge (tgt := 106) hx hb dX9_top_48 (by decide) (fun c_1 => ?_) (fun c_1 => ?_)
    · have hf := it_t hf c_1
      refine lv_iconst (v := 0) hx hb dX9_top_106 (by decide) ?_
      refine lv_istore_n (lv' := [(1, .int 0), (0, .ref h)]) hx hb dX9_top_107 rfl hl (by decide) rfl (fun ls hl => ?_)
      have hf : fX9_top_b108 70 v_thrown v_stacked v_high v_life v_shield v_who v_does v_much v_against v_tryWho v_tryDoes v_tryMuch v_tryAgainst v_tryLife v_tryShield 0 = some (r0, n_thrown, n_stacked, n_high, n_life, n_shield, n_who, n_does, n_much, n_against, n_tryWho, n_tryDoes, n_tryMuch, n_tryAgainst, n_tryLife, n_tryShield) := hf
      exact kX9_top_108 C0 hA hK 70 v_thrown v_stacked v_high v_life v_shield v_who v_does v_much v_against v_tryWho v_tryDoes v_tryMuch v_tryAgainst v_tryLife v_tryShield 0 _ _ _ hf hP hD hS (lv_sub hl [1, 0] rfl)
    · have hf := it_f hf c_1
      refine lv_aload_n hx hb dX9_top_51 rfl (lv_at hl 0 rfl) ?_
      refine va_get (D := (dC, dI)) (ci := 9) (v := .ref h_who) (C := RX9) (T := TX9) (N := 37) hx hb hts iX9_top_X9 hown hK hP 0 rfl rfl 14 (by decide) (hts _ mX9_top_2) (fun _ h9 => h9) rfl dX9_top_52 ?_
      refine lv_iload_n hx hb dX9_top_55 rfl (lv_at hl 1 rfl) ?_
      refine lv_aload_n hx hb dX9_top_56 rfl (lv_at hl 0 rfl) ?_
      refine va_get (D := (dC, dI)) (ci := 9) (v := .ref h_tryWho) (C := RX9) (T := TX9) (N := 37) hx hb hts iX9_top_X9 hown hK hP 0 rfl rfl 27 (by decide) (hts _ mX9_top_3) (fun _ h9 => h9) rfl dX9_top_57 ?_
      refine lv_iload_n hx hb dX9_top_60 rfl (lv_at hl 1 rfl) ?_
      obtain ⟨hg_2, hf⟩ := ck_s hf
      refine va_iald (D := (dC, dI)) hx hb hK hP 7 0 rfl rfl (g_vp hg_2) dX9_top_61 ?_
      obtain ⟨x_3, ex_3, hf⟩ := nm_s hf
      refine w_eqi ex_3 ?_
      obtain ⟨hg_4, hf⟩ := ck_s hf
      refine va_iast (D := (dC, dI)) hx hb hK hP hD hS 3 0 rfl rfl (g_vp hg_4) dX9_top_62 (fun H locs hP hD hS => ?_)
      have hP : va_P (dC, dI) vwCl (wcX9_top cI cJ cZ cG h h_effect h_number h_banned h_has h_life h_shield h_strength h_haveMet h_deck h_deckSize h_who h_does h_much h_against h_pack h_packSize h_gives h_wants h_tryWho h_tryDoes h_tryMuch h_tryAgainst h_tryLife h_tryShield h_ring h_row v_thrown v_today v_kinds v_stacked v_drafters v_cards v_round v_turn v_high v_ringSize v_many v_life v_shield (upd v_who l1.toNatClampNeg x_3) v_does v_much v_against v_tryWho v_tryDoes v_tryMuch v_tryAgainst v_tryLife v_tryShield) H := hP
      have hD : va_D A (wcX9_top cI cJ cZ cG h h_effect h_number h_banned h_has h_life h_shield h_strength h_haveMet h_deck h_deckSize h_who h_does h_much h_against h_pack h_packSize h_gives h_wants h_tryWho h_tryDoes h_tryMuch h_tryAgainst h_tryLife h_tryShield h_ring h_row v_thrown v_today v_kinds v_stacked v_drafters v_cards v_round v_turn v_high v_ringSize v_many v_life v_shield (upd v_who l1.toNatClampNeg x_3) v_does v_much v_against v_tryWho v_tryDoes v_tryMuch v_tryAgainst v_tryLife v_tryShield) := hD
      refine lv_aload_n hx hb dX9_top_63 rfl (lv_at hl 0 rfl) ?_
      refine va_get (D := (dC, dI)) (ci := 9) (v := .ref h_does) (C := RX9) (T := TX9) (N := 37) hx hb hts iX9_top_X9 hown hK hP 0 rfl rfl 15 (by decide) (hts _ mX9_top_4) (fun _ h9 => h9) rfl dX9_top_64 ?_
      refine lv_iload_n hx hb dX9_top_67 rfl (lv_at hl 1 rfl) ?_
      refine lv_aload_n hx hb dX9_top_68 rfl (lv_at hl 0 rfl) ?_
      refine va_get (D := (dC, dI)) (ci := 9) (v := .ref h_tryDoes) (C := RX9) (T := TX9) (N := 37) hx hb hts iX9_top_X9 hown hK hP 0 rfl rfl 28 (by decide) (hts _ mX9_top_5) (fun _ h9 => h9) rfl dX9_top_69 ?_
      refine lv_iload_n hx hb dX9_top_72 rfl (lv_at hl 1 rfl) ?_
      obtain ⟨hg_5, hf⟩ := ck_s hf
      refine va_iald (D := (dC, dI)) hx hb hK hP 8 0 rfl rfl (g_vp hg_5) dX9_top_73 ?_
      obtain ⟨x_6, ex_6, hf⟩ := nm_s hf
      refine w_eqi ex_6 ?_
      obtain ⟨hg_7, hf⟩ := ck_s hf
      refine va_iast (D := (dC, dI)) hx hb hK hP hD hS 4 0 rfl rfl (g_vp hg_7) dX9_top_74 (fun H locs hP hD hS => ?_)
      have hP : va_P (dC, dI) vwCl (wcX9_top cI cJ cZ cG h h_effect h_number h_banned h_has h_life h_shield h_strength h_haveMet h_deck h_deckSize h_who h_does h_much h_against h_pack h_packSize h_gives h_wants h_tryWho h_tryDoes h_tryMuch h_tryAgainst h_tryLife h_tryShield h_ring h_row v_thrown v_today v_kinds v_stacked v_drafters v_cards v_round v_turn v_high v_ringSize v_many v_life v_shield (upd v_who l1.toNatClampNeg x_3) (upd v_does l1.toNatClampNeg x_6) v_much v_against v_tryWho v_tryDoes v_tryMuch v_tryAgainst v_tryLife v_tryShield) H := hP
      have hD : va_D A (wcX9_top cI cJ cZ cG h h_effect h_number h_banned h_has h_life h_shield h_strength h_haveMet h_deck h_deckSize h_who h_does h_much h_against h_pack h_packSize h_gives h_wants h_tryWho h_tryDoes h_tryMuch h_tryAgainst h_tryLife h_tryShield h_ring h_row v_thrown v_today v_kinds v_stacked v_drafters v_cards v_round v_turn v_high v_ringSize v_many v_life v_shield (upd v_who l1.toNatClampNeg x_3) (upd v_does l1.toNatClampNeg x_6) v_much v_against v_tryWho v_tryDoes v_tryMuch v_tryAgainst v_tryLife v_tryShield) := hD
      refine lv_aload_n hx hb dX9_top_75 rfl (lv_at hl 0 rfl) ?_
      refine va_get (D := (dC, dI)) (ci := 9) (v := .ref h_much) (C := RX9) (T := TX9) (N := 37) hx hb hts iX9_top_X9 hown hK hP 0 rfl rfl 16 (by decide) (hts _ mX9_top_6) (fun _ h9 => h9) rfl dX9_top_76 ?_
      refine lv_iload_n hx hb dX9_top_79 rfl (lv_at hl 1 rfl) ?_
      refine lv_aload_n hx hb dX9_top_80 rfl (lv_at hl 0 rfl) ?_
      refine va_get (D := (dC, dI)) (ci := 9) (v := .ref h_tryMuch) (C := RX9) (T := TX9) (N := 37) hx hb hts iX9_top_X9 hown hK hP 0 rfl rfl 29 (by decide) (hts _ mX9_top_7) (fun _ h9 => h9) rfl dX9_top_81 ?_
      refine lv_iload_n hx hb dX9_top_84 rfl (lv_at hl 1 rfl) ?_
      obtain ⟨hg_8, hf⟩ := ck_s hf
      refine va_lald (D := (dC, dI)) hx hb hK hP 9 1 rfl rfl (g_vp hg_8) dX9_top_85 ?_
      refine lv_l2i (v := (v_tryMuch l1.toNatClampNeg).toInt32) hx hb dX9_top_86 rfl ?_
      obtain ⟨x_9, ex_9, hf⟩ := nm_s hf
      refine w_eqi ex_9 ?_
      obtain ⟨hg_10, hf⟩ := ck_s hf
      refine va_iast (D := (dC, dI)) hx hb hK hP hD hS 5 0 rfl rfl (g_vp hg_10) dX9_top_87 (fun H locs hP hD hS => ?_)
      have hP : va_P (dC, dI) vwCl (wcX9_top cI cJ cZ cG h h_effect h_number h_banned h_has h_life h_shield h_strength h_haveMet h_deck h_deckSize h_who h_does h_much h_against h_pack h_packSize h_gives h_wants h_tryWho h_tryDoes h_tryMuch h_tryAgainst h_tryLife h_tryShield h_ring h_row v_thrown v_today v_kinds v_stacked v_drafters v_cards v_round v_turn v_high v_ringSize v_many v_life v_shield (upd v_who l1.toNatClampNeg x_3) (upd v_does l1.toNatClampNeg x_6) (upd v_much l1.toNatClampNeg x_9) v_against v_tryWho v_tryDoes v_tryMuch v_tryAgainst v_tryLife v_tryShield) H := hP
      have hD : va_D A (wcX9_top cI cJ cZ cG h h_effect h_number h_banned h_has h_life h_shield h_strength h_haveMet h_deck h_deckSize h_who h_does h_much h_against h_pack h_packSize h_gives h_wants h_tryWho h_tryDoes h_tryMuch h_tryAgainst h_tryLife h_tryShield h_ring h_row v_thrown v_today v_kinds v_stacked v_drafters v_cards v_round v_turn v_high v_ringSize v_many v_life v_shield (upd v_who l1.toNatClampNeg x_3) (upd v_does l1.toNatClampNeg x_6) (upd v_much l1.toNatClampNeg x_9) v_against v_tryWho v_tryDoes v_tryMuch v_tryAgainst v_tryLife v_tryShield) := hD
      refine lv_aload_n hx hb dX9_top_88 rfl (lv_at hl 0 rfl) ?_
      refine va_get (D := (dC, dI)) (ci := 9) (v := .ref h_against) (C := RX9) (T := TX9) (N := 37) hx hb hts iX9_top_X9 hown hK hP 0 rfl rfl 17 (by decide) (hts _ mX9_top_8) (fun _ h9 => h9) rfl dX9_top_89 ?_
      refine lv_iload_n hx hb dX9_top_92 rfl (lv_at hl 1 rfl) ?_
      refine lv_aload_n hx hb dX9_top_93 rfl (lv_at hl 0 rfl) ?_
      refine va_get (D := (dC, dI)) (ci := 9) (v := .ref h_tryAgainst) (C := RX9) (T := TX9) (N := 37) hx hb hts iX9_top_X9 hown hK hP 0 rfl rfl 30 (by decide) (hts _ mX9_top_9) (fun _ h9 => h9) rfl dX9_top_94 ?_
      refine lv_iload_n hx hb dX9_top_97 rfl (lv_at hl 1 rfl) ?_
      obtain ⟨hg_11, hf⟩ := ck_s hf
      refine va_iald (D := (dC, dI)) hx hb hK hP 10 0 rfl rfl (g_vp hg_11) dX9_top_98 ?_
      obtain ⟨x_12, ex_12, hf⟩ := nm_s hf
      refine w_eqi ex_12 ?_
      obtain ⟨hg_13, hf⟩ := ck_s hf
      refine va_iast (D := (dC, dI)) hx hb hK hP hD hS 6 0 rfl rfl (g_vp hg_13) dX9_top_99 (fun H locs hP hD hS => ?_)
      have hP : va_P (dC, dI) vwCl (wcX9_top cI cJ cZ cG h h_effect h_number h_banned h_has h_life h_shield h_strength h_haveMet h_deck h_deckSize h_who h_does h_much h_against h_pack h_packSize h_gives h_wants h_tryWho h_tryDoes h_tryMuch h_tryAgainst h_tryLife h_tryShield h_ring h_row v_thrown v_today v_kinds v_stacked v_drafters v_cards v_round v_turn v_high v_ringSize v_many v_life v_shield (upd v_who l1.toNatClampNeg x_3) (upd v_does l1.toNatClampNeg x_6) (upd v_much l1.toNatClampNeg x_9) (upd v_against l1.toNatClampNeg x_12) v_tryWho v_tryDoes v_tryMuch v_tryAgainst v_tryLife v_tryShield) H := hP
      have hD : va_D A (wcX9_top cI cJ cZ cG h h_effect h_number h_banned h_has h_life h_shield h_strength h_haveMet h_deck h_deckSize h_who h_does h_much h_against h_pack h_packSize h_gives h_wants h_tryWho h_tryDoes h_tryMuch h_tryAgainst h_tryLife h_tryShield h_ring h_row v_thrown v_today v_kinds v_stacked v_drafters v_cards v_round v_turn v_high v_ringSize v_many v_life v_shield (upd v_who l1.toNatClampNeg x_3) (upd v_does l1.toNatClampNeg x_6) (upd v_much l1.toNatClampNeg x_9) (upd v_against l1.toNatClampNeg x_12) v_tryWho v_tryDoes v_tryMuch v_tryAgainst v_tryLife v_tryShield) := hD
      obtain ⟨x_14, ex_14, hf⟩ := nm_s hf
      refine lv_iinc (v := x_14) (lv' := [(1, .int x_14), (0, .ref h)]) hx hb dX9_top_100 hl (k := 1) rfl (by rw [ex_14]; rfl) (by decide) rfl (fun ls hl => ?_)
      refine lv_goto (tgt := 43) hx hb dX9_top_103 (by decide) ?_
      have hf : (fX9_top_b43 n) v_thrown v_stacked v_high v_life v_shield (upd v_who l1.toNatClampNeg x_3) (upd v_does l1.toNatClampNeg x_6) (upd v_much l1.toNatClampNeg x_9) (upd v_against l1.toNatClampNeg x_12) v_tryWho v_tryDoes v_tryMuch v_tryAgainst v_tryLife v_tryShield x_14 = some (r0, n_thrown, n_stacked, n_high, n_life, n_shield, n_who, n_does, n_much, n_against, n_tryWho, n_tryDoes, n_tryMuch, n_tryAgainst, n_tryLife, n_tryShield) := hf
      exact ih v_thrown v_stacked v_high v_life v_shield (upd v_who l1.toNatClampNeg x_3) (upd v_does l1.toNatClampNeg x_6) (upd v_much l1.toNatClampNeg x_9) (upd v_against l1.toNatClampNeg x_12) v_tryWho v_tryDoes v_tryMuch v_tryAgainst v_tryLife v_tryShield x_14 _ _ _ hf hP hD hS (lv_sub hl [1, 0] rfl)
set_option maxHeartbeats 4000000 in
set_option maxRecDepth 100000 in
theorem kX9_top_25 {p : Program} {l : Launch} {e : Env} {s : State} {m : MethodId} {args : Array Value} {below : List Frame} {meth : Method} {c : Code} {dC : Nat → ClassId} {dI : Nat → Nat → Nat} {A : Nat → Prop} {cI cJ cZ cG : ClassId} {h h_effect h_number h_banned h_has h_life h_shield h_strength h_haveMet h_deck h_deckSize h_who h_does h_much h_against h_pack h_packSize h_gives h_wants h_tryWho h_tryDoes h_tryMuch h_tryAgainst h_tryLife h_tryShield h_ring h_row : Nat} {v_today : Int32} {v_kinds : Int32} {v_drafters : Int32} {v_cards : Int32} {v_round : Int32} {v_turn : Int32} {v_ringSize : Int32} {v_many : Int32} {r0 : Int32} {n_thrown : Int32} {n_stacked : Int32} {n_high : Int32} {n_life : Nat → Int32} {n_shield : Nat → Int32} {n_who : Nat → Int32} {n_does : Nat → Int32} {n_much : Nat → Int32} {n_against : Nat → Int32} {n_tryWho : Nat → Int32} {n_tryDoes : Nat → Int32} {n_tryMuch : Nat → Int64} {n_tryAgainst : Nat → Int32} {n_tryLife : Nat → Int64} {n_tryShield : Nat → Int64} (C0 : wCX p s args m meth c cX9_top 2 (some .int) RX9 wsX9_top) (hA : ∀ q, s.heap.size ≤ q → A q) (hK : va_K (dC, dI) vwCl (tysW cI cJ cZ cG) s) : ∀ (v_thrown : Int32) (v_stacked : Int32) (v_high : Int32) (v_life : Nat → Int32) (v_shield : Nat → Int32) (v_who : Nat → Int32) (v_does : Nat → Int32) (v_much : Nat → Int32) (v_against : Nat → Int32) (v_tryWho : Nat → Int32) (v_tryDoes : Nat → Int32) (v_tryMuch : Nat → Int64) (v_tryAgainst : Nat → Int32) (v_tryLife : Nat → Int64) (v_tryShield : Nat → Int64) (s1 : Int32) (hz_s1 : wB s1) (H : Heap) (locs : List Loc) (ls : Array Slot), fX9_top_b25 v_thrown v_stacked v_high v_life v_shield v_who v_does v_much v_against v_tryWho v_tryDoes v_tryMuch v_tryAgainst v_tryLife v_tryShield s1 = some (r0, n_thrown, n_stacked, n_high, n_life, n_shield, n_who, n_does, n_much, n_against, n_tryWho, n_tryDoes, n_tryMuch, n_tryAgainst, n_tryLife, n_tryShield) → va_P (dC, dI) vwCl (wcX9_top cI cJ cZ cG h h_effect h_number h_banned h_has h_life h_shield h_strength h_haveMet h_deck h_deckSize h_who h_does h_much h_against h_pack h_packSize h_gives h_wants h_tryWho h_tryDoes h_tryMuch h_tryAgainst h_tryLife h_tryShield h_ring h_row v_thrown v_today v_kinds v_stacked v_drafters v_cards v_round v_turn v_high v_ringSize v_many v_life v_shield v_who v_does v_much v_against v_tryWho v_tryDoes v_tryMuch v_tryAgainst v_tryLife v_tryShield) H → va_D A (wcX9_top cI cJ cZ cG h h_effect h_number h_banned h_has h_life h_shield h_strength h_haveMet h_deck h_deckSize h_who h_does h_much h_against h_pack h_packSize h_gives h_wants h_tryWho h_tryDoes h_tryMuch h_tryAgainst h_tryLife h_tryShield h_ring h_row v_thrown v_today v_kinds v_stacked v_drafters v_cards v_round v_turn v_high v_ringSize v_many v_life v_shield v_who v_does v_much v_against v_tryWho v_tryDoes v_tryMuch v_tryAgainst v_tryLife v_tryShield) → va_S A s.heap H locs → lv_has ls 2 [(0, .ref h)] → W p l e rmX9_top s m args below meth c H locs 0 0 (MQ below (wQi r0 (wcX9_top cI cJ cZ cG h h_effect h_number h_banned h_has h_life h_shield h_strength h_haveMet h_deck h_deckSize h_who h_does h_much h_against h_pack h_packSize h_gives h_wants h_tryWho h_tryDoes h_tryMuch h_tryAgainst h_tryLife h_tryShield h_ring h_row n_thrown v_today v_kinds n_stacked v_drafters v_cards v_round v_turn n_high v_ringSize v_many n_life n_shield n_who n_does n_much n_against n_tryWho n_tryDoes n_tryMuch n_tryAgainst n_tryLife n_tryShield) (dC, dI) A) args s 0 0 A) (F0 m 25 ls [.int s1, .ref h]) := by
  obtain ⟨hx, hb, hr, hml, hown, hts, hlocks⟩ := id C0
  intro v_thrown v_stacked v_high v_life v_shield v_who v_does v_much v_against v_tryWho v_tryDoes v_tryMuch v_tryAgainst v_tryLife v_tryShield s1 hz_s1 H locs ls hf hP hD hS hl
  unfold fX9_top_b25 at hf
  obtain ⟨⟨r_1, w_2⟩, hc_3, hf⟩ := ob_s hf
  refine w_callVz (As := [.int s1]) (rest := []) (wr := List.filterMap (fun i : Nat => (wcX9_top cI cJ cZ cG h h_effect h_number h_banned h_has h_life h_shield h_strength h_haveMet h_deck h_deckSize h_who h_does h_much h_against h_pack h_packSize h_gives h_wants h_tryWho h_tryDoes h_tryMuch h_tryAgainst h_tryLife h_tryShield h_ring h_row v_thrown v_today v_kinds v_stacked v_drafters v_cards v_round v_turn v_high v_ringSize v_many v_life v_shield v_who v_does v_much v_against v_tryWho v_tryDoes v_tryMuch v_tryAgainst v_tryLife v_tryShield)[i]?) [1, 2, 3, 4, 5, 6, 7, 8, 9, 10, 11, 12]) (ws1 := (wcX9_top cI cJ cZ cG h h_effect h_number h_banned h_has h_life h_shield h_strength h_haveMet h_deck h_deckSize h_who h_does h_much h_against h_pack h_packSize h_gives h_wants h_tryWho h_tryDoes h_tryMuch h_tryAgainst h_tryLife h_tryShield h_ring h_row w_2 v_today v_kinds v_stacked v_drafters v_cards v_round v_turn v_high v_ringSize v_many v_life v_shield v_who v_does v_much v_against v_tryWho v_tryDoes v_tryMuch v_tryAgainst v_tryLife v_tryShield)) ⟨hx, hb, hml, hown, hts⟩ (oX9_goesWell l dC dI cI cJ cZ cG h h_effect h_number h_banned h_has h_life h_shield h_strength h_haveMet h_deck h_deckSize h_who h_does h_much h_against h_pack h_packSize h_gives h_wants h_tryWho h_tryDoes h_tryMuch h_tryAgainst h_tryLife h_tryShield h_ring h_row v_thrown v_today v_kinds v_stacked v_drafters v_cards v_round v_turn v_high v_ringSize v_many H.size s1 r_1 w_2 hc_3) (cwV 1 hts gX9_top_X9_goesWell rfl rfl rfl (by decide +kernel) ⟨Nat.le_of_ble_eq_true rfl, Nat.le_of_ble_eq_true rfl⟩) hK 0 9 rfl rfl rfl hP hD hS hA [0] [1, 2, 3, 4, 5, 6, 7, 8, 9, 10, 11, 12] [12, 0, 1, 2, 3, 4, 5, 6, 7, 8, 9, 10, 11] rfl rfl rfl rfl (by decide) rfl rfl rfl hl.1 rfl (Nat.le_of_ble_eq_true rfl) dX9_top_25 ⟨Nat.le_refl _, Nat.le_refl _⟩ (fun hz_4 H locs hP hD hS => ?_)
  refine lv_if_ne (tgt := 33) hx hb dX9_top_28 (by decide) (fun c_5 => ?_) (fun c_5 => ?_)
  · have hf := it_f hf c_5
    refine lv_aload_n hx hb dX9_top_33 rfl (lv_at hl 0 rfl) ?_
    refine lv_aload_n hx hb dX9_top_34 rfl (lv_at hl 0 rfl) ?_
    refine va_get (D := (dC, dI)) (ci := 9) (v := .int v_high) (C := RX9) (T := TX9) (N := 37) hx hb hts iX9_top_X9 hown hK hP 0 rfl rfl 26 (by decide) (hts _ mX9_top_1) (fun _ h9 => h9) rfl dX9_top_35 ?_
    refine va_put (D := (dC, dI)) (ci := 9) (v := .int v_high) (ty := .int) (C := RX9) (T := TX9) (N := 37) hx hb hts iX9_top_X9 tyX9 tyX9_ok nmX9 hown hK hP hD hS 0 rfl rfl 13 (by decide) (hts _ mX9_top_0) (fun _ h9 => h9) rfl (by decide +kernel) rfl rfl (Nat.le_of_ble_eq_true rfl) dX9_top_38 (fun H locs hP hD hS => ?_)
    have hP : va_P (dC, dI) vwCl (wcX9_top cI cJ cZ cG h h_effect h_number h_banned h_has h_life h_shield h_strength h_haveMet h_deck h_deckSize h_who h_does h_much h_against h_pack h_packSize h_gives h_wants h_tryWho h_tryDoes h_tryMuch h_tryAgainst h_tryLife h_tryShield h_ring h_row w_2 v_today v_kinds v_high v_drafters v_cards v_round v_turn v_high v_ringSize v_many v_life v_shield v_who v_does v_much v_against v_tryWho v_tryDoes v_tryMuch v_tryAgainst v_tryLife v_tryShield) H := hP
    have hD : va_D A (wcX9_top cI cJ cZ cG h h_effect h_number h_banned h_has h_life h_shield h_strength h_haveMet h_deck h_deckSize h_who h_does h_much h_against h_pack h_packSize h_gives h_wants h_tryWho h_tryDoes h_tryMuch h_tryAgainst h_tryLife h_tryShield h_ring h_row w_2 v_today v_kinds v_high v_drafters v_cards v_round v_turn v_high v_ringSize v_many v_life v_shield v_who v_does v_much v_against v_tryWho v_tryDoes v_tryMuch v_tryAgainst v_tryLife v_tryShield) := hD
    refine lv_iconst (v := 0) hx hb dX9_top_41 (by decide) ?_
    refine lv_istore_n (lv' := [(1, .int 0), (0, .ref h)]) hx hb dX9_top_42 rfl hl (by decide) rfl (fun ls hl => ?_)
    have hf : fX9_top_b43 70 w_2 v_high v_high v_life v_shield v_who v_does v_much v_against v_tryWho v_tryDoes v_tryMuch v_tryAgainst v_tryLife v_tryShield 0 = some (r0, n_thrown, n_stacked, n_high, n_life, n_shield, n_who, n_does, n_much, n_against, n_tryWho, n_tryDoes, n_tryMuch, n_tryAgainst, n_tryLife, n_tryShield) := hf
    exact kX9_top_43 C0 hA hK 70 w_2 v_high v_high v_life v_shield v_who v_does v_much v_against v_tryWho v_tryDoes v_tryMuch v_tryAgainst v_tryLife v_tryShield 0 _ _ _ hf hP hD hS (lv_sub hl [1, 0] rfl)
  · have hf := it_t hf c_5
    refine lv_iconst (v := 0) hx hb dX9_top_31 (by decide) ?_
    have hf : some (0, w_2, v_stacked, v_high, v_life, v_shield, v_who, v_does, v_much, v_against, v_tryWho, v_tryDoes, v_tryMuch, v_tryAgainst, v_tryLife, v_tryShield) = some (r0, n_thrown, n_stacked, n_high, n_life, n_shield, n_who, n_does, n_much, n_against, n_tryWho, n_tryDoes, n_tryMuch, n_tryAgainst, n_tryLife, n_tryShield) := hf
    cases hf
    exact w_iret hx hb hr hlocks rfl hP hD hS dX9_top_32
set_option maxHeartbeats 4000000 in
set_option maxRecDepth 100000 in
theorem kX9_top_20 {p : Program} {l : Launch} {e : Env} {s : State} {m : MethodId} {args : Array Value} {below : List Frame} {meth : Method} {c : Code} {dC : Nat → ClassId} {dI : Nat → Nat → Nat} {A : Nat → Prop} {cI cJ cZ cG : ClassId} {h h_effect h_number h_banned h_has h_life h_shield h_strength h_haveMet h_deck h_deckSize h_who h_does h_much h_against h_pack h_packSize h_gives h_wants h_tryWho h_tryDoes h_tryMuch h_tryAgainst h_tryLife h_tryShield h_ring h_row : Nat} {v_today : Int32} {v_kinds : Int32} {v_drafters : Int32} {v_cards : Int32} {v_round : Int32} {v_turn : Int32} {v_ringSize : Int32} {v_many : Int32} {r0 : Int32} {n_thrown : Int32} {n_stacked : Int32} {n_high : Int32} {n_life : Nat → Int32} {n_shield : Nat → Int32} {n_who : Nat → Int32} {n_does : Nat → Int32} {n_much : Nat → Int32} {n_against : Nat → Int32} {n_tryWho : Nat → Int32} {n_tryDoes : Nat → Int32} {n_tryMuch : Nat → Int64} {n_tryAgainst : Nat → Int32} {n_tryLife : Nat → Int64} {n_tryShield : Nat → Int64} (C0 : wCX p s args m meth c cX9_top 2 (some .int) RX9 wsX9_top) (hA : ∀ q, s.heap.size ≤ q → A q) (hK : va_K (dC, dI) vwCl (tysW cI cJ cZ cG) s) : ∀ (v_thrown : Int32) (v_stacked : Int32) (v_high : Int32) (v_life : Nat → Int32) (v_shield : Nat → Int32) (v_who : Nat → Int32) (v_does : Nat → Int32) (v_much : Nat → Int32) (v_against : Nat → Int32) (v_tryWho : Nat → Int32) (v_tryDoes : Nat → Int32) (v_tryMuch : Nat → Int64) (v_tryAgainst : Nat → Int32) (v_tryLife : Nat → Int64) (v_tryShield : Nat → Int64) (H : Heap) (locs : List Loc) (ls : Array Slot), fX9_top_b20 v_thrown v_stacked v_high v_life v_shield v_who v_does v_much v_against v_tryWho v_tryDoes v_tryMuch v_tryAgainst v_tryLife v_tryShield = some (r0, n_thrown, n_stacked, n_high, n_life, n_shield, n_who, n_does, n_much, n_against, n_tryWho, n_tryDoes, n_tryMuch, n_tryAgainst, n_tryLife, n_tryShield) → va_P (dC, dI) vwCl (wcX9_top cI cJ cZ cG h h_effect h_number h_banned h_has h_life h_shield h_strength h_haveMet h_deck h_deckSize h_who h_does h_much h_against h_pack h_packSize h_gives h_wants h_tryWho h_tryDoes h_tryMuch h_tryAgainst h_tryLife h_tryShield h_ring h_row v_thrown v_today v_kinds v_stacked v_drafters v_cards v_round v_turn v_high v_ringSize v_many v_life v_shield v_who v_does v_much v_against v_tryWho v_tryDoes v_tryMuch v_tryAgainst v_tryLife v_tryShield) H → va_D A (wcX9_top cI cJ cZ cG h h_effect h_number h_banned h_has h_life h_shield h_strength h_haveMet h_deck h_deckSize h_who h_does h_much h_against h_pack h_packSize h_gives h_wants h_tryWho h_tryDoes h_tryMuch h_tryAgainst h_tryLife h_tryShield h_ring h_row v_thrown v_today v_kinds v_stacked v_drafters v_cards v_round v_turn v_high v_ringSize v_many v_life v_shield v_who v_does v_much v_against v_tryWho v_tryDoes v_tryMuch v_tryAgainst v_tryLife v_tryShield) → va_S A s.heap H locs → lv_has ls 2 [(0, .ref h)] → W p l e rmX9_top s m args below meth c H locs 0 0 (MQ below (wQi r0 (wcX9_top cI cJ cZ cG h h_effect h_number h_banned h_has h_life h_shield h_strength h_haveMet h_deck h_deckSize h_who h_does h_much h_against h_pack h_packSize h_gives h_wants h_tryWho h_tryDoes h_tryMuch h_tryAgainst h_tryLife h_tryShield h_ring h_row n_thrown v_today v_kinds n_stacked v_drafters v_cards v_round v_turn n_high v_ringSize v_many n_life n_shield n_who n_does n_much n_against n_tryWho n_tryDoes n_tryMuch n_tryAgainst n_tryLife n_tryShield) (dC, dI) A) args s 0 0 A) (F0 m 20 ls [.ref h]) := by
  obtain ⟨hx, hb, hr, hml, hown, hts, hlocks⟩ := id C0
  intro v_thrown v_stacked v_high v_life v_shield v_who v_does v_much v_against v_tryWho v_tryDoes v_tryMuch v_tryAgainst v_tryLife v_tryShield H locs ls hf hP hD hS hl
  unfold fX9_top_b20 at hf
  refine lv_iconst (v := 1) hx hb dX9_top_20 (by decide) ?_
  refine lv_goto (tgt := 25) hx hb dX9_top_21 (by decide) ?_
  have hf : fX9_top_b25 v_thrown v_stacked v_high v_life v_shield v_who v_does v_much v_against v_tryWho v_tryDoes v_tryMuch v_tryAgainst v_tryLife v_tryShield 1 = some (r0, n_thrown, n_stacked, n_high, n_life, n_shield, n_who, n_does, n_much, n_against, n_tryWho, n_tryDoes, n_tryMuch, n_tryAgainst, n_tryLife, n_tryShield) := hf
  exact kX9_top_25 C0 hA hK v_thrown v_stacked v_high v_life v_shield v_who v_does v_much v_against v_tryWho v_tryDoes v_tryMuch v_tryAgainst v_tryLife v_tryShield 1 (Or.inr rfl) _ _ _ hf hP hD hS (lv_sub hl [0] rfl)
set_option maxHeartbeats 4000000 in
set_option maxRecDepth 100000 in
theorem oX9_top (l : Launch) (dC : Nat → ClassId) (dI : Nat → Nat → Nat) (cI cJ cZ cG : ClassId) (h h_effect h_number h_banned h_has h_life h_shield h_strength h_haveMet h_deck h_deckSize h_who h_does h_much h_against h_pack h_packSize h_gives h_wants h_tryWho h_tryDoes h_tryMuch h_tryAgainst h_tryLife h_tryShield h_ring h_row : Nat) (v_thrown : Int32) (v_today : Int32) (v_kinds : Int32) (v_stacked : Int32) (v_drafters : Int32) (v_cards : Int32) (v_round : Int32) (v_turn : Int32) (v_high : Int32) (v_ringSize : Int32) (v_many : Int32) (v_life : Nat → Int32) (v_shield : Nat → Int32) (v_who : Nat → Int32) (v_does : Nat → Int32) (v_much : Nat → Int32) (v_against : Nat → Int32) (v_tryWho : Nat → Int32) (v_tryDoes : Nat → Int32) (v_tryMuch : Nat → Int64) (v_tryAgainst : Nat → Int32) (v_tryLife : Nat → Int64) (v_tryShield : Nat → Int64) (sz : Nat) (r0 : Int32) (n_thrown : Int32) (n_stacked : Int32) (n_high : Int32) (n_life : Nat → Int32) (n_shield : Nat → Int32) (n_who : Nat → Int32) (n_does : Nat → Int32) (n_much : Nat → Int32) (n_against : Nat → Int32) (n_tryWho : Nat → Int32) (n_tryDoes : Nat → Int32) (n_tryMuch : Nat → Int64) (n_tryAgainst : Nat → Int32) (n_tryLife : Nat → Int64) (n_tryShield : Nat → Int64) (hf : fX9_top v_thrown v_stacked v_high v_life v_shield v_who v_does v_much v_against v_tryWho v_tryDoes v_tryMuch v_tryAgainst v_tryLife v_tryShield = some (r0, n_thrown, n_stacked, n_high, n_life, n_shield, n_who, n_does, n_much, n_against, n_tryWho, n_tryDoes, n_tryMuch, n_tryAgainst, n_tryLife, n_tryShield)) : Met l yX9_top wsX9_top rmX9_top (wPc [.ref h] (dC, dI) (tysW cI cJ cZ cG) sz (wcX9_top cI cJ cZ cG h h_effect h_number h_banned h_has h_life h_shield h_strength h_haveMet h_deck h_deckSize h_who h_does h_much h_against h_pack h_packSize h_gives h_wants h_tryWho h_tryDoes h_tryMuch h_tryAgainst h_tryLife h_tryShield h_ring h_row v_thrown v_today v_kinds v_stacked v_drafters v_cards v_round v_turn v_high v_ringSize v_many v_life v_shield v_who v_does v_much v_against v_tryWho v_tryDoes v_tryMuch v_tryAgainst v_tryLife v_tryShield)) (wQi r0 (wcX9_top cI cJ cZ cG h h_effect h_number h_banned h_has h_life h_shield h_strength h_haveMet h_deck h_deckSize h_who h_does h_much h_against h_pack h_packSize h_gives h_wants h_tryWho h_tryDoes h_tryMuch h_tryAgainst h_tryLife h_tryShield h_ring h_row n_thrown v_today v_kinds n_stacked v_drafters v_cards v_round v_turn n_high v_ringSize v_many n_life n_shield n_who n_does n_much n_against n_tryWho n_tryDoes n_tryMuch n_tryAgainst n_tryLife n_tryShield) (dC, dI) (va_A (wcX9_top cI cJ cZ cG h h_effect h_number h_banned h_has h_life h_shield h_strength h_haveMet h_deck h_deckSize h_who h_does h_much h_against h_pack h_packSize h_gives h_wants h_tryWho h_tryDoes h_tryMuch h_tryAgainst h_tryLife h_tryShield h_ring h_row v_thrown v_today v_kinds v_stacked v_drafters v_cards v_round v_turn v_high v_ringSize v_many v_life v_shield v_who v_does v_much v_against v_tryWho v_tryDoes v_tryMuch v_tryAgainst v_tryLife v_tryShield) sz)) 0 0 (va_A (wcX9_top cI cJ cZ cG h h_effect h_number h_banned h_has h_life h_shield h_strength h_haveMet h_deck h_deckSize h_who h_does h_much h_against h_pack h_packSize h_gives h_wants h_tryWho h_tryDoes h_tryMuch h_tryAgainst h_tryLife h_tryShield h_ring h_row v_thrown v_today v_kinds v_stacked v_drafters v_cards v_round v_turn v_high v_ringSize v_many v_life v_shield v_who v_does v_much v_against v_tryWho v_tryDoes v_tryMuch v_tryAgainst v_tryLife v_tryShield) sz) := by
  refine Met.ofW (cc := cX9_top) (maxL := 2) (ret := (some .int)) (by decide) rfl ?_
  intro p e s m args below meth c s₁ B hml hv
  obtain ⟨rfl, hsz, hP, hK, hD0⟩ := hv
  have hx := B.exec
  have hb := B.bytes
  have hr := B.returns
  have hts := atoms_spec (ws := wsX9_top) B.pre
  have hown : s.vm.findClass RX9 = some m.cls := findClass_of_methodNamed B.named
  have hlocks := B.notSynchronized
  subst hsz
  have hD := hD0.self (sz := s.heap.size)
  generalize hAe : va_A (wcX9_top cI cJ cZ cG h h_effect h_number h_banned h_has h_life h_shield h_strength h_haveMet h_deck h_deckSize h_who h_does h_much h_against h_pack h_packSize h_gives h_wants h_tryWho h_tryDoes h_tryMuch h_tryAgainst h_tryLife h_tryShield h_ring h_row v_thrown v_today v_kinds v_stacked v_drafters v_cards v_round v_turn v_high v_ringSize v_many v_life v_shield v_who v_does v_much v_against v_tryWho v_tryDoes v_tryMuch v_tryAgainst v_tryLife v_tryShield) s.heap.size = A at hD ⊢
  have hA : ∀ q : Nat, s.heap.size ≤ q → A q := fun q h => by rw [← hAe]; exact Or.inr h
  have hS : va_S A s.heap s.heap [] := va_S.rf
  have hP : va_P (dC, dI) vwCl (wcX9_top cI cJ cZ cG h h_effect h_number h_banned h_has h_life h_shield h_strength h_haveMet h_deck h_deckSize h_who h_does h_much h_against h_pack h_packSize h_gives h_wants h_tryWho h_tryDoes h_tryMuch h_tryAgainst h_tryLife h_tryShield h_ring h_row v_thrown v_today v_kinds v_stacked v_drafters v_cards v_round v_turn v_high v_ringSize v_many v_life v_shield v_who v_does v_much v_against v_tryWho v_tryDoes v_tryMuch v_tryAgainst v_tryLife v_tryShield) s.heap := hP
  have hl := lv_entry ([.ref h]) (n := 2) (Nat.le_of_ble_eq_true rfl)
  rw [lg_entry_eq]
  generalize (lg_sl ([.ref h]) ++ List.replicate (2 - (lg_sl ([.ref h])).length) Slot.unset).toArray = ls at hl ⊢
  have hl : lv_has ls 2 [(0, .ref h)] := hl
  generalize hH : s.heap = H at hP hS ⊢
  have hS : va_S A s.heap H [] := by rw [hH]; exact hS
  have C0 : wCX p s #[.ref h] m meth c cX9_top 2 (some .int) RX9 wsX9_top := ⟨hx, hb, hr, hml, hown, hts, hlocks⟩
  show W p l e rmX9_top s m #[.ref h] below meth c H [] 0 0 (MQ below (wQi r0 (wcX9_top cI cJ cZ cG h h_effect h_number h_banned h_has h_life h_shield h_strength h_haveMet h_deck h_deckSize h_who h_does h_much h_against h_pack h_packSize h_gives h_wants h_tryWho h_tryDoes h_tryMuch h_tryAgainst h_tryLife h_tryShield h_ring h_row n_thrown v_today v_kinds n_stacked v_drafters v_cards v_round v_turn n_high v_ringSize v_many n_life n_shield n_who n_does n_much n_against n_tryWho n_tryDoes n_tryMuch n_tryAgainst n_tryLife n_tryShield) (dC, dI) A) #[.ref h] s 0 0 A) (F0 m 0 ls [])
  unfold fX9_top at hf
  refine lv_aload_n hx hb dX9_top_0 rfl (lv_at hl 0 rfl) ?_
  refine lv_iconst (v := 0) hx hb dX9_top_1 (by decide) ?_
  obtain ⟨⟨w_1, w_2, w_3, w_4, w_5, w_6, w_7⟩, hc_8, hf⟩ := ob_s hf
  refine w_callVv (As := [.int 0]) (rest := []) (wr := List.filterMap (fun i : Nat => (wcX9_top cI cJ cZ cG h h_effect h_number h_banned h_has h_life h_shield h_strength h_haveMet h_deck h_deckSize h_who h_does h_much h_against h_pack h_packSize h_gives h_wants h_tryWho h_tryDoes h_tryMuch h_tryAgainst h_tryLife h_tryShield h_ring h_row v_thrown v_today v_kinds v_stacked v_drafters v_cards v_round v_turn v_high v_ringSize v_many v_life v_shield v_who v_does v_much v_against v_tryWho v_tryDoes v_tryMuch v_tryAgainst v_tryLife v_tryShield)[i]?) []) (ws1 := (wcX9_top cI cJ cZ cG h h_effect h_number h_banned h_has h_life h_shield h_strength h_haveMet h_deck h_deckSize h_who h_does h_much h_against h_pack h_packSize h_gives h_wants h_tryWho h_tryDoes h_tryMuch h_tryAgainst h_tryLife h_tryShield h_ring h_row v_thrown v_today v_kinds v_stacked v_drafters v_cards v_round v_turn w_1 v_ringSize v_many v_life v_shield v_who v_does v_much v_against w_2 w_3 w_4 w_5 w_6 w_7)) ⟨hx, hb, hml, hown, hts⟩ (oX9_lay l dC dI cI cJ cZ cG h h_effect h_number h_banned h_has h_life h_shield h_strength h_haveMet h_deck h_deckSize h_who h_does h_much h_against h_pack h_packSize h_gives h_wants h_tryWho h_tryDoes h_tryMuch h_tryAgainst h_tryLife h_tryShield h_ring h_row v_thrown v_today v_kinds v_stacked v_drafters v_cards v_round v_turn v_high v_ringSize v_many v_life v_shield v_who v_does v_much v_against v_tryWho v_tryDoes v_tryMuch v_tryAgainst v_tryLife v_tryShield H.size 0 w_1 w_2 w_3 w_4 w_5 w_6 w_7 hc_8) (cwV 1 hts gX9_top_X9_lay rfl rfl rfl (by decide +kernel) ⟨Nat.le_of_ble_eq_true rfl, Nat.le_of_ble_eq_true rfl⟩) hK 0 9 rfl rfl rfl hP hD hS hA [0, 1, 2, 3, 4, 5, 6, 7, 8, 9, 10, 11, 12] [] [0, 1, 2, 3, 4, 5, 6, 7, 8, 9, 10, 11, 12] rfl rfl rfl rfl (by decide) rfl rfl rfl hl.1 rfl (Nat.le_of_ble_eq_true rfl) dX9_top_2 ⟨Nat.le_refl _, Nat.le_refl _⟩ (fun H locs hP hD hS => ?_)
  refine lv_aload_n hx hb dX9_top_5 rfl (lv_at hl 0 rfl) ?_
  refine lv_aload_n hx hb dX9_top_6 rfl (lv_at hl 0 rfl) ?_
  refine va_get (D := (dC, dI)) (ci := 9) (v := .int v_stacked) (C := RX9) (T := TX9) (N := 37) hx hb hts iX9_top_X9 hown hK hP 0 rfl rfl 13 (by decide) (hts _ mX9_top_0) (fun _ h9 => h9) rfl dX9_top_7 ?_
  refine lv_if_eq (tgt := 20) hx hb dX9_top_10 (by decide) (fun c_9 => ?_) (fun c_9 => ?_)
  · have hf := it_t hf c_9
    have hf : fX9_top_b20 v_thrown v_stacked w_1 v_life v_shield v_who v_does v_much v_against w_2 w_3 w_4 w_5 w_6 w_7 = some (r0, n_thrown, n_stacked, n_high, n_life, n_shield, n_who, n_does, n_much, n_against, n_tryWho, n_tryDoes, n_tryMuch, n_tryAgainst, n_tryLife, n_tryShield) := hf
    exact kX9_top_20 C0 hA hK v_thrown v_stacked w_1 v_life v_shield v_who v_does v_much v_against w_2 w_3 w_4 w_5 w_6 w_7 _ _ _ hf hP hD hS (lv_sub hl [0] rfl)
  · have hf := it_f hf c_9
    refine lv_aload_n hx hb dX9_top_13 rfl (lv_at hl 0 rfl) ?_
    obtain ⟨⟨r_10, w_11, w_12, w_13, w_14, w_15, w_16, w_17⟩, hc_18, hf⟩ := ob_s hf
    refine w_callVz (As := []) (rest := [.ref h]) (wr := List.filterMap (fun i : Nat => (wcX9_top cI cJ cZ cG h h_effect h_number h_banned h_has h_life h_shield h_strength h_haveMet h_deck h_deckSize h_who h_does h_much h_against h_pack h_packSize h_gives h_wants h_tryWho h_tryDoes h_tryMuch h_tryAgainst h_tryLife h_tryShield h_ring h_row v_thrown v_today v_kinds v_stacked v_drafters v_cards v_round v_turn w_1 v_ringSize v_many v_life v_shield v_who v_does v_much v_against w_2 w_3 w_4 w_5 w_6 w_7)[i]?) [1, 2, 3, 4, 5, 6]) (ws1 := (wcX9_top cI cJ cZ cG h h_effect h_number h_banned h_has h_life h_shield h_strength h_haveMet h_deck h_deckSize h_who h_does h_much h_against h_pack h_packSize h_gives h_wants h_tryWho h_tryDoes h_tryMuch h_tryAgainst h_tryLife h_tryShield h_ring h_row v_thrown v_today v_kinds v_stacked v_drafters v_cards v_round v_turn w_11 v_ringSize v_many v_life v_shield v_who v_does v_much v_against w_12 w_13 w_14 w_15 w_16 w_17)) ⟨hx, hb, hml, hown, hts⟩ (oX9_tryTop l dC dI cI cJ cZ cG h h_effect h_number h_banned h_has h_life h_shield h_strength h_haveMet h_deck h_deckSize h_who h_does h_much h_against h_pack h_packSize h_gives h_wants h_tryWho h_tryDoes h_tryMuch h_tryAgainst h_tryLife h_tryShield h_ring h_row v_thrown v_today v_kinds v_stacked v_drafters v_cards v_round v_turn w_1 v_ringSize v_many w_2 w_3 w_4 w_5 w_6 w_7 H.size r_10 w_11 w_12 w_13 w_14 w_15 w_16 w_17 hc_18) (cwV 0 hts gX9_top_X9_tryTop rfl rfl rfl (by decide +kernel) ⟨Nat.le_of_ble_eq_true rfl, Nat.le_of_ble_eq_true rfl⟩) hK 0 9 rfl rfl rfl hP hD hS hA [0, 7, 8, 9, 10, 11, 12] [1, 2, 3, 4, 5, 6] [6, 0, 1, 2, 3, 4, 5, 7, 8, 9, 10, 11, 12] rfl rfl rfl rfl (by decide) rfl rfl rfl hl.1 rfl (Nat.le_of_ble_eq_true rfl) dX9_top_14 ⟨Nat.le_refl _, Nat.le_refl _⟩ (fun hz_19 H locs hP hD hS => ?_)
    refine lv_if_ne (tgt := 24) hx hb dX9_top_17 (by decide) (fun c_20 => ?_) (fun c_20 => ?_)
    · have hf := it_f hf c_20
      refine lv_iconst (v := 0) hx hb dX9_top_24 (by decide) ?_
      have hf : fX9_top_b25 v_thrown v_stacked w_11 v_life v_shield v_who v_does v_much v_against w_12 w_13 w_14 w_15 w_16 w_17 0 = some (r0, n_thrown, n_stacked, n_high, n_life, n_shield, n_who, n_does, n_much, n_against, n_tryWho, n_tryDoes, n_tryMuch, n_tryAgainst, n_tryLife, n_tryShield) := hf
      exact kX9_top_25 C0 hA hK v_thrown v_stacked w_11 v_life v_shield v_who v_does v_much v_against w_12 w_13 w_14 w_15 w_16 w_17 0 (Or.inl rfl) _ _ _ hf hP hD hS (lv_sub hl [0] rfl)
    · have hf := it_t hf c_20
      have hf : fX9_top_b20 v_thrown v_stacked w_11 v_life v_shield v_who v_does v_much v_against w_12 w_13 w_14 w_15 w_16 w_17 = some (r0, n_thrown, n_stacked, n_high, n_life, n_shield, n_who, n_does, n_much, n_against, n_tryWho, n_tryDoes, n_tryMuch, n_tryAgainst, n_tryLife, n_tryShield) := hf
      exact kX9_top_20 C0 hA hK v_thrown v_stacked w_11 v_life v_shield v_who v_does v_much v_against w_12 w_13 w_14 w_15 w_16 w_17 _ _ _ hf hP hD hS (lv_sub hl [0] rfl)
