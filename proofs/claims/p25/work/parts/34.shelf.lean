/-! printed by gen.py: shelf -/
abbrev wcX5_mostInDeck (cI cJ cZ cG : ClassId) (h h_cards h_decks h_deckSizes : Nat) (r_h_cards : Nat → Nat) (v_cards : Nat → Nat → Int32) : va_W := [(h, .inr (5, [.ref h_cards, .ref h_decks, .ref h_deckSizes])), gOut h_cards r_h_cards cG 6] ++ gRows r_h_cards cI 20 v_cards
theorem iX5_mostInDeck_X5 : ∀ w ∈ wsX50, w ∈ wsX5_mostInDeck := by decide +kernel
theorem mX5_mostInDeck_0 : (Cond.fieldLink RX5 11 "Sleevehall$Shelf" "cards" "[[I") ∈ wsX5_mostInDeck := by decide +kernel
theorem mX5_mostInDeck_1 : (Cond.methodLink RX5 33 Lib.Math.min.name) ∈ wsX5_mostInDeck := by decide +kernel
theorem mX5_mostInDeck_2 : (Cond.static Lib.Math.min.name) ∈ wsX5_mostInDeck := by decide +kernel
theorem mX5_mostInDeck_3 : (Cond.initialized "java/lang/Math") ∈ wsX5_mostInDeck := by decide +kernel
theorem mX5_mostInDeck_4 : (Cond.code Lib.Math.min.name Lib.Math.min.code 2 (some .int)) ∈ wsX5_mostInDeck := by decide +kernel
abbrev rmX5_mostInDeck : Room := { frames := 1, cells := 0, slots := 0, locals := 21 }
set_option maxHeartbeats 4000000 in
set_option maxRecDepth 100000 in
theorem oX5_mostInDeck (l : Launch) (dC : Nat → ClassId) (dI : Nat → Nat → Nat) (cI cJ cZ cG : ClassId) (h h_cards h_decks h_deckSizes : Nat) (r_h_cards : Nat → Nat) (v_cards : Nat → Nat → Int32) (sz : Nat) (p1 : Int32) (p2 : Int32) (r0 : Int32) (hf : fX5_mostInDeck v_cards p1 p2 = some r0) : Met l yX5_mostInDeck wsX5_mostInDeck rmX5_mostInDeck (wPc [.ref h, .int p1, .int p2] (dC, dI) (tysW cI cJ cZ cG) sz (wcX5_mostInDeck cI cJ cZ cG h h_cards h_decks h_deckSizes r_h_cards v_cards)) (wQi r0 (wcX5_mostInDeck cI cJ cZ cG h h_cards h_decks h_deckSizes r_h_cards v_cards) (dC, dI) (va_A (wcX5_mostInDeck cI cJ cZ cG h h_cards h_decks h_deckSizes r_h_cards v_cards) sz)) 0 0 (va_A (wcX5_mostInDeck cI cJ cZ cG h h_cards h_decks h_deckSizes r_h_cards v_cards) sz) := by
  refine Met.ofW (cc := cX5_mostInDeck) (maxL := 3) (ret := (some .int)) (by decide) rfl ?_
  intro p e s m args below meth c s₁ B hml hv
  obtain ⟨rfl, hsz, hP, hK, hD0⟩ := hv
  have hx := B.exec
  have hb := B.bytes
  have hr := B.returns
  have hts := atoms_spec (ws := wsX5_mostInDeck) B.pre
  have hown : s.vm.findClass RX5 = some m.cls := findClass_of_methodNamed B.named
  have hlocks := B.notSynchronized
  subst hsz
  have hD := hD0.self (sz := s.heap.size)
  generalize hAe : va_A (wcX5_mostInDeck cI cJ cZ cG h h_cards h_decks h_deckSizes r_h_cards v_cards) s.heap.size = A at hD ⊢
  have hA : ∀ q : Nat, s.heap.size ≤ q → A q := fun q h => by rw [← hAe]; exact Or.inr h
  have hS : va_S A s.heap s.heap [] := va_S.rf
  have hP : va_P (dC, dI) vwCl (wcX5_mostInDeck cI cJ cZ cG h h_cards h_decks h_deckSizes r_h_cards v_cards) s.heap := hP
  have hl := lv_entry ([.ref h, .int p1, .int p2]) (n := 3) (Nat.le_of_ble_eq_true rfl)
  rw [lg_entry_eq]
  generalize (lg_sl ([.ref h, .int p1, .int p2]) ++ List.replicate (3 - (lg_sl ([.ref h, .int p1, .int p2])).length) Slot.unset).toArray = ls at hl ⊢
  have hl : lv_has ls 3 [(0, .ref h), (1, .int p1), (2, .int p2)] := hl
  generalize hH : s.heap = H at hP hS ⊢
  have hS : va_S A s.heap H [] := by rw [hH]; exact hS
  have C0 : wCX p s #[.ref h, .int p1, .int p2] m meth c cX5_mostInDeck 3 (some .int) RX5 wsX5_mostInDeck := ⟨hx, hb, hr, hml, hown, hts, hlocks⟩
  show W p l e rmX5_mostInDeck s m #[.ref h, .int p1, .int p2] below meth c H [] 0 0 (MQ below (wQi r0 (wcX5_mostInDeck cI cJ cZ cG h h_cards h_decks h_deckSizes r_h_cards v_cards) (dC, dI) A) #[.ref h, .int p1, .int p2] s 0 0 A) (F0 m 0 ls [])
  unfold fX5_mostInDeck at hf
  refine lv_aload_n hx hb dX5_mostInDeck_0 rfl (lv_at hl 0 rfl) ?_
  refine va_get (D := (dC, dI)) (ci := 5) (v := .ref h_cards) (C := RX5) (T := TX5) (N := 3) hx hb hts iX5_mostInDeck_X5 hown hK hP 0 rfl rfl 0 (by decide) (hts _ mX5_mostInDeck_0) (fun _ h9 => h9) rfl dX5_mostInDeck_1 ?_
  refine lv_iload_n hx hb dX5_mostInDeck_4 rfl (lv_at hl 1 rfl) ?_
  obtain ⟨hg_1, hf⟩ := ck_s hf
  refine w_aald hx hb hK hP 1 3 rfl rfl (g_vp hg_1) dX5_mostInDeck_5 ?_
  refine lv_iload_n hx hb dX5_mostInDeck_6 rfl (lv_at hl 2 rfl) ?_
  obtain ⟨hg_2, hf⟩ := ck_s hf
  refine va_iald (D := (dC, dI)) hx hb hK hP (2 + p1.toNatClampNeg) 0 (fin6 (P := fun j => (wcX5_mostInDeck cI cJ cZ cG h h_cards h_decks h_deckSizes r_h_cards v_cards)[2 + j]? = some (r_h_cards j, .inl (cI, 20, .inl (v_cards j)))) rfl rfl rfl rfl rfl rfl _ (g_lt hg_1)) rfl (g_vp hg_2) dX5_mostInDeck_7 ?_
  refine lv_iconst (v := 3) hx hb dX5_mostInDeck_8 (by decide) ?_
  refine va_mmin hx hb (hml.trans hl.1.symm) hown (hts _ mX5_mostInDeck_1) (hts _ mX5_mostInDeck_2) (hts _ mX5_mostInDeck_3) (hts _ mX5_mostInDeck_4) (by decide) (by decide) (by decide) (by decide) dX5_mostInDeck_9 ?_
  obtain ⟨x_3, ex_3, hf⟩ := nm_s hf
  refine w_eqi ex_3 ?_
  have hf : some x_3 = some r0 := hf
  cases hf
  exact w_iret hx hb hr hlocks rfl hP hD hS dX5_mostInDeck_12
abbrev wcX5_countDecksWith (cI cJ cZ cG : ClassId) (h h_cards h_decks h_deckSizes : Nat) (r_h_decks : Nat → Nat) (v_decks : Nat → Nat → Int32) : va_W := [(h, .inr (5, [.ref h_cards, .ref h_decks, .ref h_deckSizes])), gOut h_decks r_h_decks cG 6] ++ gRows r_h_decks cI 20 v_decks
theorem iX5_countDecksWith_X5 : ∀ w ∈ wsX50, w ∈ wsX5_countDecksWith := by decide +kernel
theorem mX5_countDecksWith_0 : (Cond.fieldLink RX5 16 "Sleevehall$Shelf" "decks" "[[I") ∈ wsX5_countDecksWith := by decide +kernel
abbrev rmX5_countDecksWith : Room := { frames := 0, cells := 0, slots := 0, locals := 0 }
set_option maxHeartbeats 4000000 in
set_option maxRecDepth 100000 in
theorem kX5_countDecksWith_24 {p : Program} {l : Launch} {e : Env} {s : State} {m : MethodId} {args : Array Value} {below : List Frame} {meth : Method} {c : Code} {dC : Nat → ClassId} {dI : Nat → Nat → Nat} {A : Nat → Prop} {cI cJ cZ cG : ClassId} {h h_cards h_decks h_deckSizes : Nat} {r_h_decks : Nat → Nat} {v_decks : Nat → Nat → Int32} {r0 : Int32} {k_4 : Int32 → Int32 → Int32 → Option (Int32)} (C0 : wCX p s args m meth c cX5_countDecksWith 4 (some .int) RX5 wsX5_countDecksWith) (hA : ∀ q, s.heap.size ≤ q → A q) (hK : va_K (dC, dI) vwCl (tysW cI cJ cZ cG) s) (hk_4 : ∀ (l1 : Int32) (l2 : Int32) (l3 : Int32) (H : Heap) (locs : List Loc) (ls : Array Slot), k_4 l1 l2 l3 = some r0 → va_P (dC, dI) vwCl (wcX5_countDecksWith cI cJ cZ cG h h_cards h_decks h_deckSizes r_h_decks v_decks) H → va_D A (wcX5_countDecksWith cI cJ cZ cG h h_cards h_decks h_deckSizes r_h_decks v_decks) → va_S A s.heap H locs → lv_has ls 4 [(0, .ref h), (1, .int l1), (2, .int l2), (3, .int l3)] → W p l e rmX5_countDecksWith s m args below meth c H locs 0 0 (MQ below (wQi r0 (wcX5_countDecksWith cI cJ cZ cG h h_cards h_decks h_deckSizes r_h_decks v_decks) (dC, dI) A) args s 0 0 A) (F0 m 4 ls [])) : ∀ (l1 : Int32) (l2 : Int32) (l3 : Int32) (H : Heap) (locs : List Loc) (ls : Array Slot), fX5_countDecksWith_b24 k_4 v_decks l1 l2 l3 = some r0 → va_P (dC, dI) vwCl (wcX5_countDecksWith cI cJ cZ cG h h_cards h_decks h_deckSizes r_h_decks v_decks) H → va_D A (wcX5_countDecksWith cI cJ cZ cG h h_cards h_decks h_deckSizes r_h_decks v_decks) → va_S A s.heap H locs → lv_has ls 4 [(0, .ref h), (1, .int l1), (2, .int l2), (3, .int l3)] → W p l e rmX5_countDecksWith s m args below meth c H locs 0 0 (MQ below (wQi r0 (wcX5_countDecksWith cI cJ cZ cG h h_cards h_decks h_deckSizes r_h_decks v_decks) (dC, dI) A) args s 0 0 A) (F0 m 24 ls []) := by
  obtain ⟨hx, hb, hr, hml, hown, hts, hlocks⟩ := id C0
  intro l1 l2 l3 H locs ls hf hP hD hS hl
  unfold fX5_countDecksWith_b24 at hf
  obtain ⟨x_1, ex_1, hf⟩ := nm_s hf
  refine lv_iinc (v := x_1) (lv' := [(3, .int x_1), (0, .ref h), (1, .int l1), (2, .int l2)]) hx hb dX5_countDecksWith_24 hl (k := 3) rfl (by rw [ex_1]; rfl) (by decide) rfl (fun ls hl => ?_)
  refine lv_goto (tgt := 4) hx hb dX5_countDecksWith_27 (by decide) ?_
  have hf : k_4 l1 l2 x_1 = some r0 := hf
  exact hk_4 l1 l2 x_1 _ _ _ hf hP hD hS (lv_sub hl [1, 2, 3, 0] rfl)
set_option maxHeartbeats 4000000 in
set_option maxRecDepth 100000 in
theorem kX5_countDecksWith_4 {p : Program} {l : Launch} {e : Env} {s : State} {m : MethodId} {args : Array Value} {below : List Frame} {meth : Method} {c : Code} {dC : Nat → ClassId} {dI : Nat → Nat → Nat} {A : Nat → Prop} {cI cJ cZ cG : ClassId} {h h_cards h_decks h_deckSizes : Nat} {r_h_decks : Nat → Nat} {v_decks : Nat → Nat → Int32} {r0 : Int32} (C0 : wCX p s args m meth c cX5_countDecksWith 4 (some .int) RX5 wsX5_countDecksWith) (hA : ∀ q, s.heap.size ≤ q → A q) (hK : va_K (dC, dI) vwCl (tysW cI cJ cZ cG) s) : ∀ (n : Nat), ∀ (l1 : Int32) (l2 : Int32) (l3 : Int32) (H : Heap) (locs : List Loc) (ls : Array Slot), fX5_countDecksWith_b4 v_decks n l1 l2 l3 = some r0 → va_P (dC, dI) vwCl (wcX5_countDecksWith cI cJ cZ cG h h_cards h_decks h_deckSizes r_h_decks v_decks) H → va_D A (wcX5_countDecksWith cI cJ cZ cG h h_cards h_decks h_deckSizes r_h_decks v_decks) → va_S A s.heap H locs → lv_has ls 4 [(0, .ref h), (1, .int l1), (2, .int l2), (3, .int l3)] → W p l e rmX5_countDecksWith s m args below meth c H locs 0 0 (MQ below (wQi r0 (wcX5_countDecksWith cI cJ cZ cG h h_cards h_decks h_deckSizes r_h_decks v_decks) (dC, dI) A) args s 0 0 A) (F0 m 4 ls []) := by
  obtain ⟨hx, hb, hr, hml, hown, hts, hlocks⟩ := id C0
  intro n
  induction n with
  | zero =>
    intro l1 l2 l3 H locs ls hf hP hD hS hl
    rw [fX5_countDecksWith_b4] at hf
    cases hf
  | succ n ih =>
    intro l1 l2 l3 H locs ls hf hP hD hS hl
    rw [fX5_countDecksWith_b4] at hf
    refine lv_iload_n hx hb dX5_countDecksWith_4 rfl (lv_at hl 3 rfl) ?_
    refine lv_bipush (v := 6) hx hb dX5_countDecksWith_5 (by decide) ?_
    refine lv_icmp_ge (tgt := 30) hx hb dX5_countDecksWith_7 (by decide) (fun c_1 => ?_) (fun c_1 => ?_)
    · have hf := it_t hf c_1
      refine lv_iload_n hx hb dX5_countDecksWith_30 rfl (lv_at hl 2 rfl) ?_
      have hf : some l2 = some r0 := hf
      cases hf
      exact w_iret hx hb hr hlocks rfl hP hD hS dX5_countDecksWith_31
    · have hf := it_f hf c_1
      refine lv_aload_n hx hb dX5_countDecksWith_10 rfl (lv_at hl 0 rfl) ?_
      refine va_get (D := (dC, dI)) (ci := 5) (v := .ref h_decks) (C := RX5) (T := TX5) (N := 3) hx hb hts iX5_countDecksWith_X5 hown hK hP 0 rfl rfl 1 (by decide) (hts _ mX5_countDecksWith_0) (fun _ h9 => h9) rfl dX5_countDecksWith_11 ?_
      refine lv_iload_n hx hb dX5_countDecksWith_14 rfl (lv_at hl 3 rfl) ?_
      obtain ⟨hg_2, hf⟩ := ck_s hf
      refine w_aald hx hb hK hP 1 3 rfl rfl (g_vp hg_2) dX5_countDecksWith_15 ?_
      refine lv_iload_n hx hb dX5_countDecksWith_16 rfl (lv_at hl 1 rfl) ?_
      obtain ⟨hg_3, hf⟩ := ck_s hf
      refine va_iald (D := (dC, dI)) hx hb hK hP (2 + l3.toNatClampNeg) 0 (fin6 (P := fun j => (wcX5_countDecksWith cI cJ cZ cG h h_cards h_decks h_deckSizes r_h_decks v_decks)[2 + j]? = some (r_h_decks j, .inl (cI, 20, .inl (v_decks j)))) rfl rfl rfl rfl rfl rfl _ (g_lt hg_2)) rfl (g_vp hg_3) dX5_countDecksWith_17 ?_
      refine lv_if_le (tgt := 24) hx hb dX5_countDecksWith_18 (by decide) (fun c_4 => ?_) (fun c_4 => ?_)
      · have hf := it_t hf c_4
        have hf : fX5_countDecksWith_b24 (fX5_countDecksWith_b4 v_decks n) v_decks l1 l2 l3 = some r0 := hf
        exact kX5_countDecksWith_24 C0 hA hK ih l1 l2 l3 _ _ _ hf hP hD hS (lv_sub hl [0, 1, 2, 3] rfl)
      · have hf := it_f hf c_4
        obtain ⟨x_5, ex_5, hf⟩ := nm_s hf
        refine lv_iinc (v := x_5) (lv' := [(2, .int x_5), (0, .ref h), (1, .int l1), (3, .int l3)]) hx hb dX5_countDecksWith_21 hl (k := 2) rfl (by rw [ex_5]; rfl) (by decide) rfl (fun ls hl => ?_)
        have hf : fX5_countDecksWith_b24 (fX5_countDecksWith_b4 v_decks n) v_decks l1 x_5 l3 = some r0 := hf
        exact kX5_countDecksWith_24 C0 hA hK ih l1 x_5 l3 _ _ _ hf hP hD hS (lv_sub hl [1, 2, 0, 3] rfl)
set_option maxHeartbeats 4000000 in
set_option maxRecDepth 100000 in
theorem oX5_countDecksWith (l : Launch) (dC : Nat → ClassId) (dI : Nat → Nat → Nat) (cI cJ cZ cG : ClassId) (h h_cards h_decks h_deckSizes : Nat) (r_h_decks : Nat → Nat) (v_decks : Nat → Nat → Int32) (sz : Nat) (p1 : Int32) (r0 : Int32) (hf : fX5_countDecksWith v_decks p1 = some r0) : Met l yX5_countDecksWith wsX5_countDecksWith rmX5_countDecksWith (wPc [.ref h, .int p1] (dC, dI) (tysW cI cJ cZ cG) sz (wcX5_countDecksWith cI cJ cZ cG h h_cards h_decks h_deckSizes r_h_decks v_decks)) (wQi r0 (wcX5_countDecksWith cI cJ cZ cG h h_cards h_decks h_deckSizes r_h_decks v_decks) (dC, dI) (va_A (wcX5_countDecksWith cI cJ cZ cG h h_cards h_decks h_deckSizes r_h_decks v_decks) sz)) 0 0 (va_A (wcX5_countDecksWith cI cJ cZ cG h h_cards h_decks h_deckSizes r_h_decks v_decks) sz) := by
  refine Met.ofW (cc := cX5_countDecksWith) (maxL := 4) (ret := (some .int)) (by decide) rfl ?_
  intro p e s m args below meth c s₁ B hml hv
  obtain ⟨rfl, hsz, hP, hK, hD0⟩ := hv
  have hx := B.exec
  have hb := B.bytes
  have hr := B.returns
  have hts := atoms_spec (ws := wsX5_countDecksWith) B.pre
  have hown : s.vm.findClass RX5 = some m.cls := findClass_of_methodNamed B.named
  have hlocks := B.notSynchronized
  subst hsz
  have hD := hD0.self (sz := s.heap.size)
  generalize hAe : va_A (wcX5_countDecksWith cI cJ cZ cG h h_cards h_decks h_deckSizes r_h_decks v_decks) s.heap.size = A at hD ⊢
  have hA : ∀ q : Nat, s.heap.size ≤ q → A q := fun q h => by rw [← hAe]; exact Or.inr h
  have hS : va_S A s.heap s.heap [] := va_S.rf
  have hP : va_P (dC, dI) vwCl (wcX5_countDecksWith cI cJ cZ cG h h_cards h_decks h_deckSizes r_h_decks v_decks) s.heap := hP
  have hl := lv_entry ([.ref h, .int p1]) (n := 4) (Nat.le_of_ble_eq_true rfl)
  rw [lg_entry_eq]
  generalize (lg_sl ([.ref h, .int p1]) ++ List.replicate (4 - (lg_sl ([.ref h, .int p1])).length) Slot.unset).toArray = ls at hl ⊢
  have hl : lv_has ls 4 [(0, .ref h), (1, .int p1)] := hl
  generalize hH : s.heap = H at hP hS ⊢
  have hS : va_S A s.heap H [] := by rw [hH]; exact hS
  have C0 : wCX p s #[.ref h, .int p1] m meth c cX5_countDecksWith 4 (some .int) RX5 wsX5_countDecksWith := ⟨hx, hb, hr, hml, hown, hts, hlocks⟩
  show W p l e rmX5_countDecksWith s m #[.ref h, .int p1] below meth c H [] 0 0 (MQ below (wQi r0 (wcX5_countDecksWith cI cJ cZ cG h h_cards h_decks h_deckSizes r_h_decks v_decks) (dC, dI) A) #[.ref h, .int p1] s 0 0 A) (F0 m 0 ls [])
  unfold fX5_countDecksWith at hf
  refine lv_iconst (v := 0) hx hb dX5_countDecksWith_0 (by decide) ?_
  refine lv_istore_n (lv' := [(2, .int 0), (0, .ref h), (1, .int p1)]) hx hb dX5_countDecksWith_1 rfl hl (by decide) rfl (fun ls hl => ?_)
  refine lv_iconst (v := 0) hx hb dX5_countDecksWith_2 (by decide) ?_
  refine lv_istore_n (lv' := [(3, .int 0), (2, .int 0), (0, .ref h), (1, .int p1)]) hx hb dX5_countDecksWith_3 rfl hl (by decide) rfl (fun ls hl => ?_)
  have hf : fX5_countDecksWith_b4 v_decks 70 p1 0 0 = some r0 := hf
  exact kX5_countDecksWith_4 C0 hA hK 70 p1 0 0 _ _ _ hf hP hD hS (lv_sub hl [2, 3, 1, 0] rfl)
abbrev wcX5_isDeckFull (cI cJ cZ cG : ClassId) (h h_cards h_decks h_deckSizes : Nat) (v_deckSizes : Nat → Int32) : va_W := [(h, .inr (5, [.ref h_cards, .ref h_decks, .ref h_deckSizes])), (h_deckSizes, .inl (cI, 6, .inl v_deckSizes))]
theorem iX5_isDeckFull_X5 : ∀ w ∈ wsX50, w ∈ wsX5_isDeckFull := by decide +kernel
theorem mX5_isDeckFull_0 : (Cond.fieldLink RX5 19 "Sleevehall$Shelf" "deckSizes" "[I") ∈ wsX5_isDeckFull := by decide +kernel
abbrev rmX5_isDeckFull : Room := { frames := 0, cells := 0, slots := 0, locals := 0 }
set_option maxHeartbeats 4000000 in
set_option maxRecDepth 100000 in
theorem kX5_isDeckFull_16 {p : Program} {l : Launch} {e : Env} {s : State} {m : MethodId} {args : Array Value} {below : List Frame} {meth : Method} {c : Code} {dC : Nat → ClassId} {dI : Nat → Nat → Nat} {A : Nat → Prop} {cI cJ cZ cG : ClassId} {h h_cards h_decks h_deckSizes : Nat} {v_deckSizes : Nat → Int32} {r0 : Int32} (C0 : wCX p s args m meth c cX5_isDeckFull 2 (some .boolean) RX5 wsX5_isDeckFull) (hA : ∀ q, s.heap.size ≤ q → A q) (hK : va_K (dC, dI) vwCl (tysW cI cJ cZ cG) s) : ∀ (s0 : Int32) (hz_s0 : wB s0) (H : Heap) (locs : List Loc) (ls : Array Slot), fX5_isDeckFull_b16 v_deckSizes s0 = some r0 → va_P (dC, dI) vwCl (wcX5_isDeckFull cI cJ cZ cG h h_cards h_decks h_deckSizes v_deckSizes) H → va_D A (wcX5_isDeckFull cI cJ cZ cG h h_cards h_decks h_deckSizes v_deckSizes) → va_S A s.heap H locs → lv_has ls 2 [] → W p l e rmX5_isDeckFull s m args below meth c H locs 0 0 (MQ below (wQz r0 (wcX5_isDeckFull cI cJ cZ cG h h_cards h_decks h_deckSizes v_deckSizes) (dC, dI) A) args s 0 0 A) (F0 m 16 ls [.int s0]) := by
  obtain ⟨hx, hb, hr, hml, hown, hts, hlocks⟩ := id C0
  intro s0 hz_s0 H locs ls hf hP hD hS hl
  unfold fX5_isDeckFull_b16 at hf
  have hf : some s0 = some r0 := hf
  cases hf
  exact w_zret hx hb hr hlocks rfl hz_s0 hP hD hS dX5_isDeckFull_16
set_option maxHeartbeats 4000000 in
set_option maxRecDepth 100000 in
theorem oX5_isDeckFull (l : Launch) (dC : Nat → ClassId) (dI : Nat → Nat → Nat) (cI cJ cZ cG : ClassId) (h h_cards h_decks h_deckSizes : Nat) (v_deckSizes : Nat → Int32) (sz : Nat) (p1 : Int32) (r0 : Int32) (hf : fX5_isDeckFull v_deckSizes p1 = some r0) : Met l yX5_isDeckFull wsX5_isDeckFull rmX5_isDeckFull (wPc [.ref h, .int p1] (dC, dI) (tysW cI cJ cZ cG) sz (wcX5_isDeckFull cI cJ cZ cG h h_cards h_decks h_deckSizes v_deckSizes)) (wQz r0 (wcX5_isDeckFull cI cJ cZ cG h h_cards h_decks h_deckSizes v_deckSizes) (dC, dI) (va_A (wcX5_isDeckFull cI cJ cZ cG h h_cards h_decks h_deckSizes v_deckSizes) sz)) 0 0 (va_A (wcX5_isDeckFull cI cJ cZ cG h h_cards h_decks h_deckSizes v_deckSizes) sz) := by
  refine Met.ofW (cc := cX5_isDeckFull) (maxL := 2) (ret := (some .boolean)) (by decide) rfl ?_
  intro p e s m args below meth c s₁ B hml hv
  obtain ⟨rfl, hsz, hP, hK, hD0⟩ := hv
  have hx := B.exec
  have hb := B.bytes
  have hr := B.returns
  have hts := atoms_spec (ws := wsX5_isDeckFull) B.pre
  have hown : s.vm.findClass RX5 = some m.cls := findClass_of_methodNamed B.named
  have hlocks := B.notSynchronized
  subst hsz
  have hD := hD0.self (sz := s.heap.size)
  generalize hAe : va_A (wcX5_isDeckFull cI cJ cZ cG h h_cards h_decks h_deckSizes v_deckSizes) s.heap.size = A at hD ⊢
  have hA : ∀ q : Nat, s.heap.size ≤ q → A q := fun q h => by rw [← hAe]; exact Or.inr h
  have hS : va_S A s.heap s.heap [] := va_S.rf
  have hP : va_P (dC, dI) vwCl (wcX5_isDeckFull cI cJ cZ cG h h_cards h_decks h_deckSizes v_deckSizes) s.heap := hP
  have hl := lv_entry ([.ref h, .int p1]) (n := 2) (Nat.le_of_ble_eq_true rfl)
  rw [lg_entry_eq]
  generalize (lg_sl ([.ref h, .int p1]) ++ List.replicate (2 - (lg_sl ([.ref h, .int p1])).length) Slot.unset).toArray = ls at hl ⊢
  have hl : lv_has ls 2 [(0, .ref h), (1, .int p1)] := hl
  generalize hH : s.heap = H at hP hS ⊢
  have hS : va_S A s.heap H [] := by rw [hH]; exact hS
  have C0 : wCX p s #[.ref h, .int p1] m meth c cX5_isDeckFull 2 (some .boolean) RX5 wsX5_isDeckFull := ⟨hx, hb, hr, hml, hown, hts, hlocks⟩
  show W p l e rmX5_isDeckFull s m #[.ref h, .int p1] below meth c H [] 0 0 (MQ below (wQz r0 (wcX5_isDeckFull cI cJ cZ cG h h_cards h_decks h_deckSizes v_deckSizes) (dC, dI) A) #[.ref h, .int p1] s 0 0 A) (F0 m 0 ls [])
  unfold fX5_isDeckFull at hf
  refine lv_aload_n hx hb dX5_isDeckFull_0 rfl (lv_at hl 0 rfl) ?_
  refine va_get (D := (dC, dI)) (ci := 5) (v := .ref h_deckSizes) (C := RX5) (T := TX5) (N := 3) hx hb hts iX5_isDeckFull_X5 hown hK hP 0 rfl rfl 2 (by decide) (hts _ mX5_isDeckFull_0) (fun _ h9 => h9) rfl dX5_isDeckFull_1 ?_
  refine lv_iload_n hx hb dX5_isDeckFull_4 rfl (lv_at hl 1 rfl) ?_
  obtain ⟨hg_1, hf⟩ := ck_s hf
  refine va_iald (D := (dC, dI)) hx hb hK hP 1 0 rfl rfl (g_vp hg_1) dX5_isDeckFull_5 ?_
  refine lv_bipush (v := 8) hx hb dX5_isDeckFull_6 (by decide) ?_
  refine lv_icmp_lt (tgt := 15) hx hb dX5_isDeckFull_8 (by decide) (fun c_2 => ?_) (fun c_2 => ?_)
  · have hf := it_t hf c_2
    refine lv_iconst (v := 0) hx hb dX5_isDeckFull_15 (by decide) ?_
    have hf : fX5_isDeckFull_b16 v_deckSizes 0 = some r0 := hf
    exact kX5_isDeckFull_16 C0 hA hK 0 (Or.inl rfl) _ _ _ hf hP hD hS (lv_sub hl [] rfl)
  · have hf := it_f hf c_2
    refine lv_iconst (v := 1) hx hb dX5_isDeckFull_11 (by decide) ?_
    refine lv_goto (tgt := 16) hx hb dX5_isDeckFull_12 (by decide) ?_
    have hf : fX5_isDeckFull_b16 v_deckSizes 1 = some r0 := hf
    exact kX5_isDeckFull_16 C0 hA hK 1 (Or.inr rfl) _ _ _ hf hP hD hS (lv_sub hl [] rfl)
abbrev wcX5_mayTakeMore (cI cJ cZ cG : ClassId) (h h_cards h_decks h_deckSizes : Nat) (r_h_cards r_h_decks : Nat → Nat) (v_cards : Nat → Nat → Int32) (v_decks : Nat → Nat → Int32) : va_W := [(h, .inr (5, [.ref h_cards, .ref h_decks, .ref h_deckSizes])), gOut h_cards r_h_cards cG 6, gOut h_decks r_h_decks cG 6] ++ gRows r_h_cards cI 20 v_cards ++ gRows r_h_decks cI 20 v_decks
theorem iX5_mayTakeMore_X5 : ∀ w ∈ wsX50, w ∈ wsX5_mayTakeMore := by decide +kernel
theorem mX5_mayTakeMore_0 : (Cond.fieldLink RX5 16 "Sleevehall$Shelf" "decks" "[[I") ∈ wsX5_mayTakeMore := by decide +kernel
abbrev rmX5_mayTakeMore : Room := { frames := 2, cells := 0, slots := 0, locals := 43 }
set_option maxHeartbeats 4000000 in
set_option maxRecDepth 100000 in
theorem kX5_mayTakeMore_22 {p : Program} {l : Launch} {e : Env} {s : State} {m : MethodId} {args : Array Value} {below : List Frame} {meth : Method} {c : Code} {dC : Nat → ClassId} {dI : Nat → Nat → Nat} {A : Nat → Prop} {cI cJ cZ cG : ClassId} {h h_cards h_decks h_deckSizes : Nat} {r_h_cards r_h_decks : Nat → Nat} {v_cards : Nat → Nat → Int32} {v_decks : Nat → Nat → Int32} {r0 : Int32} (C0 : wCX p s args m meth c cX5_mayTakeMore 3 (some .boolean) RX5 wsX5_mayTakeMore) (hA : ∀ q, s.heap.size ≤ q → A q) (hK : va_K (dC, dI) vwCl (tysW cI cJ cZ cG) s) : ∀ (s0 : Int32) (hz_s0 : wB s0) (H : Heap) (locs : List Loc) (ls : Array Slot), fX5_mayTakeMore_b22 v_cards v_decks s0 = some r0 → va_P (dC, dI) vwCl (wcX5_mayTakeMore cI cJ cZ cG h h_cards h_decks h_deckSizes r_h_cards r_h_decks v_cards v_decks) H → va_D A (wcX5_mayTakeMore cI cJ cZ cG h h_cards h_decks h_deckSizes r_h_cards r_h_decks v_cards v_decks) → va_S A s.heap H locs → lv_has ls 3 [] → W p l e rmX5_mayTakeMore s m args below meth c H locs 0 0 (MQ below (wQz r0 (wcX5_mayTakeMore cI cJ cZ cG h h_cards h_decks h_deckSizes r_h_cards r_h_decks v_cards v_decks) (dC, dI) A) args s 0 0 A) (F0 m 22 ls [.int s0]) := by
  obtain ⟨hx, hb, hr, hml, hown, hts, hlocks⟩ := id C0
  intro s0 hz_s0 H locs ls hf hP hD hS hl
  unfold fX5_mayTakeMore_b22 at hf
  have hf : some s0 = some r0 := hf
  cases hf
  exact w_zret hx hb hr hlocks rfl hz_s0 hP hD hS dX5_mayTakeMore_22
set_option maxHeartbeats 4000000 in
set_option maxRecDepth 100000 in
theorem oX5_mayTakeMore (l : Launch) (dC : Nat → ClassId) (dI : Nat → Nat → Nat) (cI cJ cZ cG : ClassId) (h h_cards h_decks h_deckSizes : Nat) (r_h_cards r_h_decks : Nat → Nat) (v_cards : Nat → Nat → Int32) (v_decks : Nat → Nat → Int32) (sz : Nat) (p1 : Int32) (p2 : Int32) (r0 : Int32) (hf : fX5_mayTakeMore v_cards v_decks p1 p2 = some r0) : Met l yX5_mayTakeMore wsX5_mayTakeMore rmX5_mayTakeMore (wPc [.ref h, .int p1, .int p2] (dC, dI) (tysW cI cJ cZ cG) sz (wcX5_mayTakeMore cI cJ cZ cG h h_cards h_decks h_deckSizes r_h_cards r_h_decks v_cards v_decks)) (wQz r0 (wcX5_mayTakeMore cI cJ cZ cG h h_cards h_decks h_deckSizes r_h_cards r_h_decks v_cards v_decks) (dC, dI) (va_A (wcX5_mayTakeMore cI cJ cZ cG h h_cards h_decks h_deckSizes r_h_cards r_h_decks v_cards v_decks) sz)) 0 0 (va_A (wcX5_mayTakeMore cI cJ cZ cG h h_cards h_decks h_deckSizes r_h_cards r_h_decks v_cards v_decks) sz) := by
  refine Met.ofW (cc := cX5_mayTakeMore) (maxL := 3) (ret := (some .boolean)) (by decide) rfl ?_
  intro p e s m args below meth c s₁ B hml hv
  obtain ⟨rfl, hsz, hP, hK, hD0⟩ := hv
  have hx := B.exec
  have hb := B.bytes
  have hr := B.returns
  have hts := atoms_spec (ws := wsX5_mayTakeMore) B.pre
  have hown : s.vm.findClass RX5 = some m.cls := findClass_of_methodNamed B.named
  have hlocks := B.notSynchronized
  subst hsz
  have hD := hD0.self (sz := s.heap.size)
  generalize hAe : va_A (wcX5_mayTakeMore cI cJ cZ cG h h_cards h_decks h_deckSizes r_h_cards r_h_decks v_cards v_decks) s.heap.size = A at hD ⊢
  have hA : ∀ q : Nat, s.heap.size ≤ q → A q := fun q h => by rw [← hAe]; exact Or.inr h
  have hS : va_S A s.heap s.heap [] := va_S.rf
  have hP : va_P (dC, dI) vwCl (wcX5_mayTakeMore cI cJ cZ cG h h_cards h_decks h_deckSizes r_h_cards r_h_decks v_cards v_decks) s.heap := hP
  have hl := lv_entry ([.ref h, .int p1, .int p2]) (n := 3) (Nat.le_of_ble_eq_true rfl)
  rw [lg_entry_eq]
  generalize (lg_sl ([.ref h, .int p1, .int p2]) ++ List.replicate (3 - (lg_sl ([.ref h, .int p1, .int p2])).length) Slot.unset).toArray = ls at hl ⊢
  have hl : lv_has ls 3 [(0, .ref h), (1, .int p1), (2, .int p2)] := hl
  generalize hH : s.heap = H at hP hS ⊢
  have hS : va_S A s.heap H [] := by rw [hH]; exact hS
  have C0 : wCX p s #[.ref h, .int p1, .int p2] m meth c cX5_mayTakeMore 3 (some .boolean) RX5 wsX5_mayTakeMore := ⟨hx, hb, hr, hml, hown, hts, hlocks⟩
  show W p l e rmX5_mayTakeMore s m #[.ref h, .int p1, .int p2] below meth c H [] 0 0 (MQ below (wQz r0 (wcX5_mayTakeMore cI cJ cZ cG h h_cards h_decks h_deckSizes r_h_cards r_h_decks v_cards v_decks) (dC, dI) A) #[.ref h, .int p1, .int p2] s 0 0 A) (F0 m 0 ls [])
  unfold fX5_mayTakeMore at hf
  refine lv_aload_n hx hb dX5_mayTakeMore_0 rfl (lv_at hl 0 rfl) ?_
  refine va_get (D := (dC, dI)) (ci := 5) (v := .ref h_decks) (C := RX5) (T := TX5) (N := 3) hx hb hts iX5_mayTakeMore_X5 hown hK hP 0 rfl rfl 1 (by decide) (hts _ mX5_mayTakeMore_0) (fun _ h9 => h9) rfl dX5_mayTakeMore_1 ?_
  refine lv_iload_n hx hb dX5_mayTakeMore_4 rfl (lv_at hl 1 rfl) ?_
  obtain ⟨hg_1, hf⟩ := ck_s hf
  refine w_aald hx hb hK hP 2 3 rfl rfl (g_vp hg_1) dX5_mayTakeMore_5 ?_
  refine lv_iload_n hx hb dX5_mayTakeMore_6 rfl (lv_at hl 2 rfl) ?_
  obtain ⟨hg_2, hf⟩ := ck_s hf
  refine va_iald (D := (dC, dI)) hx hb hK hP (9 + p1.toNatClampNeg) 0 (fin6 (P := fun j => (wcX5_mayTakeMore cI cJ cZ cG h h_cards h_decks h_deckSizes r_h_cards r_h_decks v_cards v_decks)[9 + j]? = some (r_h_decks j, .inl (cI, 20, .inl (v_decks j)))) rfl rfl rfl rfl rfl rfl _ (g_lt hg_1)) rfl (g_vp hg_2) dX5_mayTakeMore_7 ?_
  refine lv_aload_n hx hb dX5_mayTakeMore_8 rfl (lv_at hl 0 rfl) ?_
  refine lv_iload_n hx hb dX5_mayTakeMore_9 rfl (lv_at hl 1 rfl) ?_
  refine lv_iload_n hx hb dX5_mayTakeMore_10 rfl (lv_at hl 2 rfl) ?_
  obtain ⟨r_3, hc_4, hf⟩ := ob_s hf
  refine w_callVi (As := [.int p1, .int p2]) (rest := [.int (v_decks p1.toNatClampNeg p2.toNatClampNeg)]) (wr := List.filterMap (fun i : Nat => (wcX5_mayTakeMore cI cJ cZ cG h h_cards h_decks h_deckSizes r_h_cards r_h_decks v_cards v_decks)[i]?) [2, 9, 10, 11, 12, 13, 14]) (ws1 := (wcX5_mayTakeMore cI cJ cZ cG h h_cards h_decks h_deckSizes r_h_cards r_h_decks v_cards v_decks)) ⟨hx, hb, hml, hown, hts⟩ (oX5_mostInDeck l dC dI cI cJ cZ cG h h_cards h_decks h_deckSizes r_h_cards v_cards H.size p1 p2 r_3 hc_4) (cwV 2 hts gX5_mayTakeMore_X5_mostInDeck rfl rfl rfl (by decide +kernel) ⟨Nat.le_of_ble_eq_true rfl, Nat.le_of_ble_eq_true rfl⟩) hK 0 5 rfl rfl rfl hP hD hS hA [0, 1, 3, 4, 5, 6, 7, 8] [2, 9, 10, 11, 12, 13, 14] [7, 8, 0, 9, 10, 11, 12, 13, 14, 1, 2, 3, 4, 5, 6] rfl rfl rfl rfl (by decide) rfl rfl rfl hl.1 rfl (Nat.le_of_ble_eq_true rfl) dX5_mayTakeMore_11 ⟨Nat.le_refl _, Nat.le_refl _⟩ (fun H locs hP hD hS => ?_)
  refine lv_icmp_ge (tgt := 21) hx hb dX5_mayTakeMore_14 (by decide) (fun c_5 => ?_) (fun c_5 => ?_)
  · have hf := it_t hf c_5
    refine lv_iconst (v := 0) hx hb dX5_mayTakeMore_21 (by decide) ?_
    have hf : fX5_mayTakeMore_b22 v_cards v_decks 0 = some r0 := hf
    exact kX5_mayTakeMore_22 C0 hA hK 0 (Or.inl rfl) _ _ _ hf hP hD hS (lv_sub hl [] rfl)
  · have hf := it_f hf c_5
    refine lv_iconst (v := 1) hx hb dX5_mayTakeMore_17 (by decide) ?_
    refine lv_goto (tgt := 22) hx hb dX5_mayTakeMore_18 (by decide) ?_
    have hf : fX5_mayTakeMore_b22 v_cards v_decks 1 = some r0 := hf
    exact kX5_mayTakeMore_22 C0 hA hK 1 (Or.inr rfl) _ _ _ hf hP hD hS (lv_sub hl [] rfl)
abbrev wcX5_addToDeck (cI cJ cZ cG : ClassId) (h h_cards h_decks h_deckSizes : Nat) (r_h_decks : Nat → Nat) (v_decks : Nat → Nat → Int32) (v_deckSizes : Nat → Int32) : va_W := [(h, .inr (5, [.ref h_cards, .ref h_decks, .ref h_deckSizes])), gOut h_decks r_h_decks cG 6, (h_deckSizes, .inl (cI, 6, .inl v_deckSizes))] ++ gRows r_h_decks cI 20 v_decks
theorem iX5_addToDeck_X5 : ∀ w ∈ wsX50, w ∈ wsX5_addToDeck := by decide +kernel
theorem mX5_addToDeck_0 : (Cond.fieldLink RX5 16 "Sleevehall$Shelf" "decks" "[[I") ∈ wsX5_addToDeck := by decide +kernel
theorem mX5_addToDeck_1 : (Cond.fieldLink RX5 19 "Sleevehall$Shelf" "deckSizes" "[I") ∈ wsX5_addToDeck := by decide +kernel
abbrev rmX5_addToDeck : Room := { frames := 0, cells := 0, slots := 0, locals := 0 }
set_option maxHeartbeats 4000000 in
set_option maxRecDepth 100000 in
theorem oX5_addToDeck (l : Launch) (dC : Nat → ClassId) (dI : Nat → Nat → Nat) (cI cJ cZ cG : ClassId) (h h_cards h_decks h_deckSizes : Nat) (r_h_decks : Nat → Nat) (v_decks : Nat → Nat → Int32) (v_deckSizes : Nat → Int32) (sz : Nat) (p1 : Int32) (p2 : Int32) (r0 : Int32) (n_decks : Nat → Nat → Int32) (n_deckSizes : Nat → Int32) (hf : fX5_addToDeck v_decks v_deckSizes p1 p2 = some (r0, n_decks, n_deckSizes)) : Met l yX5_addToDeck wsX5_addToDeck rmX5_addToDeck (wPc [.ref h, .int p1, .int p2] (dC, dI) (tysW cI cJ cZ cG) sz (wcX5_addToDeck cI cJ cZ cG h h_cards h_decks h_deckSizes r_h_decks v_decks v_deckSizes)) (wQi r0 (wcX5_addToDeck cI cJ cZ cG h h_cards h_decks h_deckSizes r_h_decks n_decks n_deckSizes) (dC, dI) (va_A (wcX5_addToDeck cI cJ cZ cG h h_cards h_decks h_deckSizes r_h_decks v_decks v_deckSizes) sz)) 0 0 (va_A (wcX5_addToDeck cI cJ cZ cG h h_cards h_decks h_deckSizes r_h_decks v_decks v_deckSizes) sz) := by
  refine Met.ofW (cc := cX5_addToDeck) (maxL := 3) (ret := (some .int)) (by decide) rfl ?_
  intro p e s m args below meth c s₁ B hml hv
  obtain ⟨rfl, hsz, hP, hK, hD0⟩ := hv
  have hx := B.exec
  have hb := B.bytes
  have hr := B.returns
  have hts := atoms_spec (ws := wsX5_addToDeck) B.pre
  have hown : s.vm.findClass RX5 = some m.cls := findClass_of_methodNamed B.named
  have hlocks := B.notSynchronized
  subst hsz
  have hD := hD0.self (sz := s.heap.size)
  generalize hAe : va_A (wcX5_addToDeck cI cJ cZ cG h h_cards h_decks h_deckSizes r_h_decks v_decks v_deckSizes) s.heap.size = A at hD ⊢
  have hA : ∀ q : Nat, s.heap.size ≤ q → A q := fun q h => by rw [← hAe]; exact Or.inr h
  have hS : va_S A s.heap s.heap [] := va_S.rf
  have hP : va_P (dC, dI) vwCl (wcX5_addToDeck cI cJ cZ cG h h_cards h_decks h_deckSizes r_h_decks v_decks v_deckSizes) s.heap := hP
  have hl := lv_entry ([.ref h, .int p1, .int p2]) (n := 3) (Nat.le_of_ble_eq_true rfl)
  rw [lg_entry_eq]
  generalize (lg_sl ([.ref h, .int p1, .int p2]) ++ List.replicate (3 - (lg_sl ([.ref h, .int p1, .int p2])).length) Slot.unset).toArray = ls at hl ⊢
  have hl : lv_has ls 3 [(0, .ref h), (1, .int p1), (2, .int p2)] := hl
  generalize hH : s.heap = H at hP hS ⊢
  have hS : va_S A s.heap H [] := by rw [hH]; exact hS
  have C0 : wCX p s #[.ref h, .int p1, .int p2] m meth c cX5_addToDeck 3 (some .int) RX5 wsX5_addToDeck := ⟨hx, hb, hr, hml, hown, hts, hlocks⟩
  show W p l e rmX5_addToDeck s m #[.ref h, .int p1, .int p2] below meth c H [] 0 0 (MQ below (wQi r0 (wcX5_addToDeck cI cJ cZ cG h h_cards h_decks h_deckSizes r_h_decks n_decks n_deckSizes) (dC, dI) A) #[.ref h, .int p1, .int p2] s 0 0 A) (F0 m 0 ls [])
  unfold fX5_addToDeck at hf
  refine lv_aload_n hx hb dX5_addToDeck_0 rfl (lv_at hl 0 rfl) ?_
  refine va_get (D := (dC, dI)) (ci := 5) (v := .ref h_decks) (C := RX5) (T := TX5) (N := 3) hx hb hts iX5_addToDeck_X5 hown hK hP 0 rfl rfl 1 (by decide) (hts _ mX5_addToDeck_0) (fun _ h9 => h9) rfl dX5_addToDeck_1 ?_
  refine lv_iload_n hx hb dX5_addToDeck_4 rfl (lv_at hl 1 rfl) ?_
  obtain ⟨hg_1, hf⟩ := ck_s hf
  refine w_aald hx hb hK hP 1 3 rfl rfl (g_vp hg_1) dX5_addToDeck_5 ?_
  refine lv_iload_n hx hb dX5_addToDeck_6 rfl (lv_at hl 2 rfl) ?_
  refine lv_dup2_11 hx hb dX5_addToDeck_7 rfl rfl ?_
  obtain ⟨hg_2, hf⟩ := ck_s hf
  refine va_iald (D := (dC, dI)) hx hb hK hP (3 + p1.toNatClampNeg) 0 (fin6 (P := fun j => (wcX5_addToDeck cI cJ cZ cG h h_cards h_decks h_deckSizes r_h_decks v_decks v_deckSizes)[3 + j]? = some (r_h_decks j, .inl (cI, 20, .inl (v_decks j)))) rfl rfl rfl rfl rfl rfl _ (g_lt hg_1)) rfl (g_vp hg_2) dX5_addToDeck_8 ?_
  refine lv_iconst (v := 1) hx hb dX5_addToDeck_9 (by decide) ?_
  refine lv_iadd hx hb dX5_addToDeck_10 ?_
  obtain ⟨x_3, ex_3, hf⟩ := nm_s hf
  refine w_eqi ex_3 ?_
  obtain ⟨hg_4, hf⟩ := ck_s hf
  refine va_iast (D := (dC, dI)) hx hb hK hP hD hS (3 + p1.toNatClampNeg) 0 (fin6 (P := fun j => (wcX5_addToDeck cI cJ cZ cG h h_cards h_decks h_deckSizes r_h_decks v_decks v_deckSizes)[3 + j]? = some (r_h_decks j, .inl (cI, 20, .inl (v_decks j)))) rfl rfl rfl rfl rfl rfl _ (g_lt hg_1)) rfl (g_vp hg_4) dX5_addToDeck_11 (fun H locs hP hD hS => ?_)
  have e9 := fin6 (P := fun j => List.set (wcX5_addToDeck cI cJ cZ cG h h_cards h_decks h_deckSizes r_h_decks v_decks v_deckSizes) (3 + j) (r_h_decks j, .inl (cI, 20, .inl (upd (v_decks j) p2.toNatClampNeg x_3))) = (wcX5_addToDeck cI cJ cZ cG h h_cards h_decks h_deckSizes r_h_decks (gup v_decks j p2.toNatClampNeg x_3) v_deckSizes)) rfl rfl rfl rfl rfl rfl _ (g_lt hg_1)
  rw [e9] at hP hD
  refine lv_aload_n hx hb dX5_addToDeck_12 rfl (lv_at hl 0 rfl) ?_
  refine va_get (D := (dC, dI)) (ci := 5) (v := .ref h_deckSizes) (C := RX5) (T := TX5) (N := 3) hx hb hts iX5_addToDeck_X5 hown hK hP 0 rfl rfl 2 (by decide) (hts _ mX5_addToDeck_1) (fun _ h9 => h9) rfl dX5_addToDeck_13 ?_
  refine lv_iload_n hx hb dX5_addToDeck_16 rfl (lv_at hl 1 rfl) ?_
  refine lv_dup2_11 hx hb dX5_addToDeck_17 rfl rfl ?_
  obtain ⟨hg_5, hf⟩ := ck_s hf
  refine va_iald (D := (dC, dI)) hx hb hK hP 2 0 rfl rfl (g_vp hg_5) dX5_addToDeck_18 ?_
  refine lv_iconst (v := 1) hx hb dX5_addToDeck_19 (by decide) ?_
  refine lv_iadd hx hb dX5_addToDeck_20 ?_
  obtain ⟨x_6, ex_6, hf⟩ := nm_s hf
  refine w_eqi ex_6 ?_
  obtain ⟨hg_7, hf⟩ := ck_s hf
  refine va_iast (D := (dC, dI)) hx hb hK hP hD hS 2 0 rfl rfl (g_vp hg_7) dX5_addToDeck_21 (fun H locs hP hD hS => ?_)
  have hP : va_P (dC, dI) vwCl (wcX5_addToDeck cI cJ cZ cG h h_cards h_decks h_deckSizes r_h_decks (gup v_decks p1.toNatClampNeg p2.toNatClampNeg x_3) (upd v_deckSizes p1.toNatClampNeg x_6)) H := hP
  have hD : va_D A (wcX5_addToDeck cI cJ cZ cG h h_cards h_decks h_deckSizes r_h_decks (gup v_decks p1.toNatClampNeg p2.toNatClampNeg x_3) (upd v_deckSizes p1.toNatClampNeg x_6)) := hD
  refine lv_aload_n hx hb dX5_addToDeck_22 rfl (lv_at hl 0 rfl) ?_
  refine va_get (D := (dC, dI)) (ci := 5) (v := .ref h_deckSizes) (C := RX5) (T := TX5) (N := 3) hx hb hts iX5_addToDeck_X5 hown hK hP 0 rfl rfl 2 (by decide) (hts _ mX5_addToDeck_1) (fun _ h9 => h9) rfl dX5_addToDeck_23 ?_
  refine lv_iload_n hx hb dX5_addToDeck_26 rfl (lv_at hl 1 rfl) ?_
  obtain ⟨hg_8, hf⟩ := ck_s hf
  refine va_iald (D := (dC, dI)) hx hb hK hP 2 0 rfl rfl (g_vp hg_8) dX5_addToDeck_27 ?_
  have hf : some (((upd v_deckSizes p1.toNatClampNeg x_6) p1.toNatClampNeg), (gup v_decks p1.toNatClampNeg p2.toNatClampNeg x_3), (upd v_deckSizes p1.toNatClampNeg x_6)) = some (r0, n_decks, n_deckSizes) := hf
  cases hf
  exact w_iret hx hb hr hlocks rfl hP hD hS dX5_addToDeck_28
abbrev wcX5_isDeckGood (cI cJ cZ cG : ClassId) (h h_cards h_decks h_deckSizes o2 o2_effects o2_numbers o2_bans : Nat) (r_h_cards r_h_decks : Nat → Nat) (v_cards : Nat → Nat → Int32) (v_decks : Nat → Nat → Int32) (v_deckSizes : Nat → Int32) (v_o2_count : Int32) (v_o2_bans : Nat → Int32) : va_W := [(h, .inr (5, [.ref h_cards, .ref h_decks, .ref h_deckSizes])), gOut h_cards r_h_cards cG 6, gOut h_decks r_h_decks cG 6, (h_deckSizes, .inl (cI, 6, .inl v_deckSizes)), (o2, .inr (2, [.ref o2_effects, .ref o2_numbers, .ref o2_bans, .int v_o2_count])), (o2_bans, .inl (cI, 20, .inl v_o2_bans))] ++ gRows r_h_cards cI 20 v_cards ++ gRows r_h_decks cI 20 v_decks
theorem iX5_isDeckGood_X5 : ∀ w ∈ wsX50, w ∈ wsX5_isDeckGood := by decide +kernel
theorem mX5_isDeckGood_0 : (Cond.fieldLink RX5 19 "Sleevehall$Shelf" "deckSizes" "[I") ∈ wsX5_isDeckGood := by decide +kernel
theorem mX5_isDeckGood_1 : (Cond.fieldLink RX5 16 "Sleevehall$Shelf" "decks" "[[I") ∈ wsX5_isDeckGood := by decide +kernel
abbrev rmX5_isDeckGood : Room := { frames := 2, cells := 0, slots := 0, locals := 43 }
set_option maxHeartbeats 4000000 in
set_option maxRecDepth 100000 in
theorem kX5_isDeckGood_75 {p : Program} {l : Launch} {e : Env} {s : State} {m : MethodId} {args : Array Value} {below : List Frame} {meth : Method} {c : Code} {dC : Nat → ClassId} {dI : Nat → Nat → Nat} {A : Nat → Prop} {cI cJ cZ cG : ClassId} {h h_cards h_decks h_deckSizes o2 o2_effects o2_numbers o2_bans : Nat} {r_h_cards r_h_decks : Nat → Nat} {v_cards : Nat → Nat → Int32} {v_decks : Nat → Nat → Int32} {v_deckSizes : Nat → Int32} {v_o2_count : Int32} {v_o2_bans : Nat → Int32} {r0 : Int32} (C0 : wCX p s args m meth c cX5_isDeckGood 6 (some .boolean) RX5 wsX5_isDeckGood) (hA : ∀ q, s.heap.size ≤ q → A q) (hK : va_K (dC, dI) vwCl (tysW cI cJ cZ cG) s) : ∀ (H : Heap) (locs : List Loc) (ls : Array Slot), fX5_isDeckGood_b75 v_cards v_decks v_deckSizes v_o2_bans = some r0 → va_P (dC, dI) vwCl (wcX5_isDeckGood cI cJ cZ cG h h_cards h_decks h_deckSizes o2 o2_effects o2_numbers o2_bans r_h_cards r_h_decks v_cards v_decks v_deckSizes v_o2_count v_o2_bans) H → va_D A (wcX5_isDeckGood cI cJ cZ cG h h_cards h_decks h_deckSizes o2 o2_effects o2_numbers o2_bans r_h_cards r_h_decks v_cards v_decks v_deckSizes v_o2_count v_o2_bans) → va_S A s.heap H locs → lv_has ls 6 [] → W p l e rmX5_isDeckGood s m args below meth c H locs 0 0 (MQ below (wQz r0 (wcX5_isDeckGood cI cJ cZ cG h h_cards h_decks h_deckSizes o2 o2_effects o2_numbers o2_bans r_h_cards r_h_decks v_cards v_decks v_deckSizes v_o2_count v_o2_bans) (dC, dI) A) args s 0 0 A) (F0 m 75 ls []) := by
  obtain ⟨hx, hb, hr, hml, hown, hts, hlocks⟩ := id C0
  intro H locs ls hf hP hD hS hl
  unfold fX5_isDeckGood_b75 at hf
  refine lv_iconst (v := 0) hx hb dX5_isDeckGood_75 (by decide) ?_
  have hf : some 0 = some r0 := hf
  cases hf
  exact w_zret hx hb hr hlocks rfl (Or.inl rfl) hP hD hS dX5_isDeckGood_76
set_option maxHeartbeats 4000000 in
set_option maxRecDepth 100000 in
theorem kX5_isDeckGood_77 {p : Program} {l : Launch} {e : Env} {s : State} {m : MethodId} {args : Array Value} {below : List Frame} {meth : Method} {c : Code} {dC : Nat → ClassId} {dI : Nat → Nat → Nat} {A : Nat → Prop} {cI cJ cZ cG : ClassId} {h h_cards h_decks h_deckSizes o2 o2_effects o2_numbers o2_bans : Nat} {r_h_cards r_h_decks : Nat → Nat} {v_cards : Nat → Nat → Int32} {v_decks : Nat → Nat → Int32} {v_deckSizes : Nat → Int32} {v_o2_count : Int32} {v_o2_bans : Nat → Int32} {r0 : Int32} {k_15 : Int32 → Int32 → Int32 → Option (Int32)} (C0 : wCX p s args m meth c cX5_isDeckGood 6 (some .boolean) RX5 wsX5_isDeckGood) (hA : ∀ q, s.heap.size ≤ q → A q) (hK : va_K (dC, dI) vwCl (tysW cI cJ cZ cG) s) (hk_15 : ∀ (l1 : Int32) (l3 : Int32) (l4 : Int32) (H : Heap) (locs : List Loc) (ls : Array Slot), k_15 l1 l3 l4 = some r0 → va_P (dC, dI) vwCl (wcX5_isDeckGood cI cJ cZ cG h h_cards h_decks h_deckSizes o2 o2_effects o2_numbers o2_bans r_h_cards r_h_decks v_cards v_decks v_deckSizes v_o2_count v_o2_bans) H → va_D A (wcX5_isDeckGood cI cJ cZ cG h h_cards h_decks h_deckSizes o2 o2_effects o2_numbers o2_bans r_h_cards r_h_decks v_cards v_decks v_deckSizes v_o2_count v_o2_bans) → va_S A s.heap H locs → lv_has ls 6 [(0, .ref h), (1, .int l1), (2, .ref o2), (3, .int l3), (4, .int l4)] → W p l e rmX5_isDeckGood s m args below meth c H locs 0 0 (MQ below (wQz r0 (wcX5_isDeckGood cI cJ cZ cG h h_cards h_decks h_deckSizes o2 o2_effects o2_numbers o2_bans r_h_cards r_h_decks v_cards v_decks v_deckSizes v_o2_count v_o2_bans) (dC, dI) A) args s 0 0 A) (F0 m 15 ls [])) : ∀ (l1 : Int32) (l3 : Int32) (l4 : Int32) (H : Heap) (locs : List Loc) (ls : Array Slot), fX5_isDeckGood_b77 k_15 v_cards v_decks v_deckSizes v_o2_bans l1 l3 l4 = some r0 → va_P (dC, dI) vwCl (wcX5_isDeckGood cI cJ cZ cG h h_cards h_decks h_deckSizes o2 o2_effects o2_numbers o2_bans r_h_cards r_h_decks v_cards v_decks v_deckSizes v_o2_count v_o2_bans) H → va_D A (wcX5_isDeckGood cI cJ cZ cG h h_cards h_decks h_deckSizes o2 o2_effects o2_numbers o2_bans r_h_cards r_h_decks v_cards v_decks v_deckSizes v_o2_count v_o2_bans) → va_S A s.heap H locs → lv_has ls 6 [(0, .ref h), (1, .int l1), (2, .ref o2), (3, .int l3), (4, .int l4)] → W p l e rmX5_isDeckGood s m args below meth c H locs 0 0 (MQ below (wQz r0 (wcX5_isDeckGood cI cJ cZ cG h h_cards h_decks h_deckSizes o2 o2_effects o2_numbers o2_bans r_h_cards r_h_decks v_cards v_decks v_deckSizes v_o2_count v_o2_bans) (dC, dI) A) args s 0 0 A) (F0 m 77 ls []) := by
  obtain ⟨hx, hb, hr, hml, hown, hts, hlocks⟩ := id C0
  intro l1 l3 l4 H locs ls hf hP hD hS hl
  unfold fX5_isDeckGood_b77 at hf
  obtain ⟨x_1, ex_1, hf⟩ := nm_s hf
  refine lv_iinc (v := x_1) (lv' := [(4, .int x_1), (0, .ref h), (1, .int l1), (2, .ref o2), (3, .int l3)]) hx hb dX5_isDeckGood_77 hl (k := 4) rfl (by rw [ex_1]; rfl) (by decide) rfl (fun ls hl => ?_)
  refine lv_goto (tgt := 15) hx hb dX5_isDeckGood_80 (by decide) ?_
  have hf : k_15 l1 l3 x_1 = some r0 := hf
  exact hk_15 l1 l3 x_1 _ _ _ hf hP hD hS (lv_sub hl [1, 2, 3, 4, 0] rfl)
set_option maxHeartbeats 4000000 in
set_option maxRecDepth 100000 in
theorem kX5_isDeckGood_46 {p : Program} {l : Launch} {e : Env} {s : State} {m : MethodId} {args : Array Value} {below : List Frame} {meth : Method} {c : Code} {dC : Nat → ClassId} {dI : Nat → Nat → Nat} {A : Nat → Prop} {cI cJ cZ cG : ClassId} {h h_cards h_decks h_deckSizes o2 o2_effects o2_numbers o2_bans : Nat} {r_h_cards r_h_decks : Nat → Nat} {v_cards : Nat → Nat → Int32} {v_decks : Nat → Nat → Int32} {v_deckSizes : Nat → Int32} {v_o2_count : Int32} {v_o2_bans : Nat → Int32} {r0 : Int32} {k_15 : Int32 → Int32 → Int32 → Option (Int32)} (C0 : wCX p s args m meth c cX5_isDeckGood 6 (some .boolean) RX5 wsX5_isDeckGood) (hA : ∀ q, s.heap.size ≤ q → A q) (hK : va_K (dC, dI) vwCl (tysW cI cJ cZ cG) s) (hk_15 : ∀ (l1 : Int32) (l3 : Int32) (l4 : Int32) (H : Heap) (locs : List Loc) (ls : Array Slot), k_15 l1 l3 l4 = some r0 → va_P (dC, dI) vwCl (wcX5_isDeckGood cI cJ cZ cG h h_cards h_decks h_deckSizes o2 o2_effects o2_numbers o2_bans r_h_cards r_h_decks v_cards v_decks v_deckSizes v_o2_count v_o2_bans) H → va_D A (wcX5_isDeckGood cI cJ cZ cG h h_cards h_decks h_deckSizes o2 o2_effects o2_numbers o2_bans r_h_cards r_h_decks v_cards v_decks v_deckSizes v_o2_count v_o2_bans) → va_S A s.heap H locs → lv_has ls 6 [(0, .ref h), (1, .int l1), (2, .ref o2), (3, .int l3), (4, .int l4)] → W p l e rmX5_isDeckGood s m args below meth c H locs 0 0 (MQ below (wQz r0 (wcX5_isDeckGood cI cJ cZ cG h h_cards h_decks h_deckSizes o2 o2_effects o2_numbers o2_bans r_h_cards r_h_decks v_cards v_decks v_deckSizes v_o2_count v_o2_bans) (dC, dI) A) args s 0 0 A) (F0 m 15 ls [])) : ∀ (l1 : Int32) (l3 : Int32) (l4 : Int32) (s0 : Int32) (hz_s0 : wB s0) (H : Heap) (locs : List Loc) (ls : Array Slot), fX5_isDeckGood_b46 k_15 v_cards v_decks v_deckSizes v_o2_bans l1 l3 l4 s0 = some r0 → va_P (dC, dI) vwCl (wcX5_isDeckGood cI cJ cZ cG h h_cards h_decks h_deckSizes o2 o2_effects o2_numbers o2_bans r_h_cards r_h_decks v_cards v_decks v_deckSizes v_o2_count v_o2_bans) H → va_D A (wcX5_isDeckGood cI cJ cZ cG h h_cards h_decks h_deckSizes o2 o2_effects o2_numbers o2_bans r_h_cards r_h_decks v_cards v_decks v_deckSizes v_o2_count v_o2_bans) → va_S A s.heap H locs → lv_has ls 6 [(0, .ref h), (1, .int l1), (2, .ref o2), (3, .int l3), (4, .int l4)] → W p l e rmX5_isDeckGood s m args below meth c H locs 0 0 (MQ below (wQz r0 (wcX5_isDeckGood cI cJ cZ cG h h_cards h_decks h_deckSizes o2 o2_effects o2_numbers o2_bans r_h_cards r_h_decks v_cards v_decks v_deckSizes v_o2_count v_o2_bans) (dC, dI) A) args s 0 0 A) (F0 m 46 ls [.int s0]) := by
  obtain ⟨hx, hb, hr, hml, hown, hts, hlocks⟩ := id C0
  intro l1 l3 l4 s0 hz_s0 H locs ls hf hP hD hS hl
  unfold fX5_isDeckGood_b46 at hf
  refine lv_istore (lv' := [(5, .int s0), (0, .ref h), (1, .int l1), (2, .ref o2), (3, .int l3), (4, .int l4)]) hx hb dX5_isDeckGood_46 hl (by decide) rfl (fun ls hl => ?_)
  refine lv_iload hx hb dX5_isDeckGood_48 (lv_at hl 0 rfl) ?_
  refine lv_if_ne (tgt := 75) hx hb dX5_isDeckGood_50 (by decide) (fun c_1 => ?_) (fun c_1 => ?_)
  · have hf := it_f hf c_1
    have hf : fX5_isDeckGood_b75 v_cards v_decks v_deckSizes v_o2_bans = some r0 := hf
    exact kX5_isDeckGood_75 C0 hA hK _ _ _ hf hP hD hS (lv_sub hl [] rfl)
  · have hf := it_t hf c_1
    refine lv_aload_n hx hb dX5_isDeckGood_53 rfl (lv_at hl 1 rfl) ?_
    refine va_get (D := (dC, dI)) (ci := 5) (v := .ref h_decks) (C := RX5) (T := TX5) (N := 3) hx hb hts iX5_isDeckGood_X5 hown hK hP 0 rfl rfl 1 (by decide) (hts _ mX5_isDeckGood_1) (fun _ h9 => h9) rfl dX5_isDeckGood_54 ?_
    refine lv_iload_n hx hb dX5_isDeckGood_57 rfl (lv_at hl 2 rfl) ?_
    obtain ⟨hg_2, hf⟩ := ck_s hf
    refine w_aald hx hb hK hP 2 3 rfl rfl (g_vp hg_2) dX5_isDeckGood_58 ?_
    refine lv_iload hx hb dX5_isDeckGood_59 (lv_at hl 5 rfl) ?_
    obtain ⟨hg_3, hf⟩ := ck_s hf
    refine va_iald (D := (dC, dI)) hx hb hK hP (12 + l1.toNatClampNeg) 0 (fin6 (P := fun j => (wcX5_isDeckGood cI cJ cZ cG h h_cards h_decks h_deckSizes o2 o2_effects o2_numbers o2_bans r_h_cards r_h_decks v_cards v_decks v_deckSizes v_o2_count v_o2_bans)[12 + j]? = some (r_h_decks j, .inl (cI, 20, .inl (v_decks j)))) rfl rfl rfl rfl rfl rfl _ (g_lt hg_2)) rfl (g_vp hg_3) dX5_isDeckGood_61 ?_
    refine lv_if_le (tgt := 77) hx hb dX5_isDeckGood_62 (by decide) (fun c_4 => ?_) (fun c_4 => ?_)
    · have hf := it_t hf c_4
      have hf : fX5_isDeckGood_b77 k_15 v_cards v_decks v_deckSizes v_o2_bans l1 l3 l4 = some r0 := hf
      exact kX5_isDeckGood_77 C0 hA hK hk_15 l1 l3 l4 _ _ _ hf hP hD hS (lv_sub hl [1, 2, 3, 4, 5] rfl)
    · have hf := it_f hf c_4
      refine lv_aload_n hx hb dX5_isDeckGood_65 rfl (lv_at hl 3 rfl) ?_
      refine lv_iload hx hb dX5_isDeckGood_66 (lv_at hl 5 rfl) ?_
      refine lv_iload_n hx hb dX5_isDeckGood_68 rfl (lv_at hl 4 rfl) ?_
      obtain ⟨r_5, hc_6, hf⟩ := ob_s hf
      refine w_callVz (As := [.int l4, .int l3]) (rest := []) (wr := List.filterMap (fun i : Nat => (wcX5_isDeckGood cI cJ cZ cG h h_cards h_decks h_deckSizes o2 o2_effects o2_numbers o2_bans r_h_cards r_h_decks v_cards v_decks v_deckSizes v_o2_count v_o2_bans)[i]?) [0, 1, 2, 3, 6, 7, 8, 9, 10, 11, 12, 13, 14, 15, 16, 17]) (ws1 := (wcX5_isDeckGood cI cJ cZ cG h h_cards h_decks h_deckSizes o2 o2_effects o2_numbers o2_bans r_h_cards r_h_decks v_cards v_decks v_deckSizes v_o2_count v_o2_bans)) ⟨hx, hb, hml, hown, hts⟩ (oX2_isBanned l dC dI cI cJ cZ cG o2 o2_effects o2_numbers o2_bans v_o2_count v_o2_bans H.size l4 l3 r_5 hc_6) (cwV 2 hts gX5_isDeckGood_X2_isBanned rfl rfl rfl (by decide +kernel) ⟨Nat.le_of_ble_eq_true rfl, Nat.le_of_ble_eq_true rfl⟩) hK 0 2 rfl rfl rfl hP hD hS hA [4, 5] [0, 1, 2, 3, 6, 7, 8, 9, 10, 11, 12, 13, 14, 15, 16, 17] [0, 1, 2, 3, 16, 17, 4, 5, 6, 7, 8, 9, 10, 11, 12, 13, 14, 15] rfl rfl rfl rfl (by decide) rfl rfl rfl hl.1 rfl (Nat.le_of_ble_eq_true rfl) dX5_isDeckGood_69 ⟨Nat.le_refl _, Nat.le_refl _⟩ (fun hz_7 H locs hP hD hS => ?_)
      refine lv_if_eq (tgt := 77) hx hb dX5_isDeckGood_72 (by decide) (fun c_8 => ?_) (fun c_8 => ?_)
      · have hf := it_t hf c_8
        have hf : fX5_isDeckGood_b77 k_15 v_cards v_decks v_deckSizes v_o2_bans l1 l3 l4 = some r0 := hf
        exact kX5_isDeckGood_77 C0 hA hK hk_15 l1 l3 l4 _ _ _ hf hP hD hS (lv_sub hl [1, 2, 3, 4, 5] rfl)
      · have hf := it_f hf c_8
        have hf : fX5_isDeckGood_b75 v_cards v_decks v_deckSizes v_o2_bans = some r0 := hf
        exact kX5_isDeckGood_75 C0 hA hK _ _ _ hf hP hD hS (lv_sub hl [] rfl)
set_option maxHeartbeats 4000000 in
set_option maxRecDepth 100000 in
theorem kX5_isDeckGood_15 {p : Program} {l : Launch} {e : Env} {s : State} {m : MethodId} {args : Array Value} {below : List Frame} {meth : Method} {c : Code} {dC : Nat → ClassId} {dI : Nat → Nat → Nat} {A : Nat → Prop} {cI cJ cZ cG : ClassId} {h h_cards h_decks h_deckSizes o2 o2_effects o2_numbers o2_bans : Nat} {r_h_cards r_h_decks : Nat → Nat} {v_cards : Nat → Nat → Int32} {v_decks : Nat → Nat → Int32} {v_deckSizes : Nat → Int32} {v_o2_count : Int32} {v_o2_bans : Nat → Int32} {r0 : Int32} (C0 : wCX p s args m meth c cX5_isDeckGood 6 (some .boolean) RX5 wsX5_isDeckGood) (hA : ∀ q, s.heap.size ≤ q → A q) (hK : va_K (dC, dI) vwCl (tysW cI cJ cZ cG) s) : ∀ (n : Nat), ∀ (l1 : Int32) (l3 : Int32) (l4 : Int32) (H : Heap) (locs : List Loc) (ls : Array Slot), fX5_isDeckGood_b15 v_cards v_decks v_deckSizes v_o2_bans n l1 l3 l4 = some r0 → va_P (dC, dI) vwCl (wcX5_isDeckGood cI cJ cZ cG h h_cards h_decks h_deckSizes o2 o2_effects o2_numbers o2_bans r_h_cards r_h_decks v_cards v_decks v_deckSizes v_o2_count v_o2_bans) H → va_D A (wcX5_isDeckGood cI cJ cZ cG h h_cards h_decks h_deckSizes o2 o2_effects o2_numbers o2_bans r_h_cards r_h_decks v_cards v_decks v_deckSizes v_o2_count v_o2_bans) → va_S A s.heap H locs → lv_has ls 6 [(0, .ref h), (1, .int l1), (2, .ref o2), (3, .int l3), (4, .int l4)] → W p l e rmX5_isDeckGood s m args below meth c H locs 0 0 (MQ below (wQz r0 (wcX5_isDeckGood cI cJ cZ cG h h_cards h_decks h_deckSizes o2 o2_effects o2_numbers o2_bans r_h_cards r_h_decks v_cards v_decks v_deckSizes v_o2_count v_o2_bans) (dC, dI) A) args s 0 0 A) (F0 m 15 ls []) := by
  obtain ⟨hx, hb, hr, hml, hown, hts, hlocks⟩ := id C0
  intro n
  induction n with
  | zero =>
    intro l1 l3 l4 H locs ls hf hP hD hS hl
    rw [fX5_isDeckGood_b15] at hf
    cases hf
  | succ n ih =>
    intro l1 l3 l4 H locs ls hf hP hD hS hl
    rw [fX5_isDeckGood_b15] at hf
    refine lv_iload hx hb dX5_isDeckGood_15 (lv_at hl 4 rfl) ?_
    refine lv_bipush (v := 20) hx hb dX5_isDeckGood_17 (by decide) ?_
    refine lv_icmp_ge (tgt := 83) hx hb dX5_isDeckGood_19 (by decide) (fun c_1 => ?_) (fun c_1 => ?_)
    · have hf := it_t hf c_1
      refine lv_iconst (v := 1) hx hb dX5_isDeckGood_83 (by decide) ?_
      have hf : some 1 = some r0 := hf
      cases hf
      exact w_zret hx hb hr hlocks rfl (Or.inr rfl) hP hD hS dX5_isDeckGood_84
    · have hf := it_f hf c_1
      refine lv_aload_n hx hb dX5_isDeckGood_22 rfl (lv_at hl 0 rfl) ?_
      refine va_get (D := (dC, dI)) (ci := 5) (v := .ref h_decks) (C := RX5) (T := TX5) (N := 3) hx hb hts iX5_isDeckGood_X5 hown hK hP 0 rfl rfl 1 (by decide) (hts _ mX5_isDeckGood_1) (fun _ h9 => h9) rfl dX5_isDeckGood_23 ?_
      refine lv_iload_n hx hb dX5_isDeckGood_26 rfl (lv_at hl 1 rfl) ?_
      obtain ⟨hg_2, hf⟩ := ck_s hf
      refine w_aald hx hb hK hP 2 3 rfl rfl (g_vp hg_2) dX5_isDeckGood_27 ?_
      refine lv_iload hx hb dX5_isDeckGood_28 (lv_at hl 4 rfl) ?_
      obtain ⟨hg_3, hf⟩ := ck_s hf
      refine va_iald (D := (dC, dI)) hx hb hK hP (12 + l1.toNatClampNeg) 0 (fin6 (P := fun j => (wcX5_isDeckGood cI cJ cZ cG h h_cards h_decks h_deckSizes o2 o2_effects o2_numbers o2_bans r_h_cards r_h_decks v_cards v_decks v_deckSizes v_o2_count v_o2_bans)[12 + j]? = some (r_h_decks j, .inl (cI, 20, .inl (v_decks j)))) rfl rfl rfl rfl rfl rfl _ (g_lt hg_2)) rfl (g_vp hg_3) dX5_isDeckGood_30 ?_
      refine lv_aload_n hx hb dX5_isDeckGood_31 rfl (lv_at hl 0 rfl) ?_
      refine lv_iload_n hx hb dX5_isDeckGood_32 rfl (lv_at hl 1 rfl) ?_
      refine lv_iload hx hb dX5_isDeckGood_33 (lv_at hl 4 rfl) ?_
      obtain ⟨r_4, hc_5, hf⟩ := ob_s hf
      refine w_callVi (As := [.int l1, .int l4]) (rest := [.int (v_decks l1.toNatClampNeg l4.toNatClampNeg)]) (wr := List.filterMap (fun i : Nat => (wcX5_isDeckGood cI cJ cZ cG h h_cards h_decks h_deckSizes o2 o2_effects o2_numbers o2_bans r_h_cards r_h_decks v_cards v_decks v_deckSizes v_o2_count v_o2_bans)[i]?) [2, 3, 4, 5, 12, 13, 14, 15, 16, 17]) (ws1 := (wcX5_isDeckGood cI cJ cZ cG h h_cards h_decks h_deckSizes o2 o2_effects o2_numbers o2_bans r_h_cards r_h_decks v_cards v_decks v_deckSizes v_o2_count v_o2_bans)) ⟨hx, hb, hml, hown, hts⟩ (oX5_mostInDeck l dC dI cI cJ cZ cG h h_cards h_decks h_deckSizes r_h_cards v_cards H.size l1 l4 r_4 hc_5) (cwV 2 hts gX5_isDeckGood_X5_mostInDeck rfl rfl rfl (by decide +kernel) ⟨Nat.le_of_ble_eq_true rfl, Nat.le_of_ble_eq_true rfl⟩) hK 0 5 rfl rfl rfl hP hD hS hA [0, 1, 6, 7, 8, 9, 10, 11] [2, 3, 4, 5, 12, 13, 14, 15, 16, 17] [10, 11, 0, 1, 2, 3, 12, 13, 14, 15, 16, 17, 4, 5, 6, 7, 8, 9] rfl rfl rfl rfl (by decide) rfl rfl rfl hl.1 rfl (Nat.le_of_ble_eq_true rfl) dX5_isDeckGood_35 ⟨Nat.le_refl _, Nat.le_refl _⟩ (fun H locs hP hD hS => ?_)
      refine lv_icmp_le (tgt := 45) hx hb dX5_isDeckGood_38 (by decide) (fun c_6 => ?_) (fun c_6 => ?_)
      · have hf := it_t hf c_6
        refine lv_iconst (v := 0) hx hb dX5_isDeckGood_45 (by decide) ?_
        have hf : fX5_isDeckGood_b46 (fX5_isDeckGood_b15 v_cards v_decks v_deckSizes v_o2_bans n) v_cards v_decks v_deckSizes v_o2_bans l1 l3 l4 0 = some r0 := hf
        exact kX5_isDeckGood_46 C0 hA hK ih l1 l3 l4 0 (Or.inl rfl) _ _ _ hf hP hD hS (lv_sub hl [0, 1, 2, 3, 4] rfl)
      · have hf := it_f hf c_6
        refine lv_iconst (v := 1) hx hb dX5_isDeckGood_41 (by decide) ?_
        refine lv_goto (tgt := 46) hx hb dX5_isDeckGood_42 (by decide) ?_
        have hf : fX5_isDeckGood_b46 (fX5_isDeckGood_b15 v_cards v_decks v_deckSizes v_o2_bans n) v_cards v_decks v_deckSizes v_o2_bans l1 l3 l4 1 = some r0 := hf
        exact kX5_isDeckGood_46 C0 hA hK ih l1 l3 l4 1 (Or.inr rfl) _ _ _ hf hP hD hS (lv_sub hl [0, 1, 2, 3, 4] rfl)
set_option maxHeartbeats 4000000 in
set_option maxRecDepth 100000 in
theorem oX5_isDeckGood (l : Launch) (dC : Nat → ClassId) (dI : Nat → Nat → Nat) (cI cJ cZ cG : ClassId) (h h_cards h_decks h_deckSizes o2 o2_effects o2_numbers o2_bans : Nat) (r_h_cards r_h_decks : Nat → Nat) (v_cards : Nat → Nat → Int32) (v_decks : Nat → Nat → Int32) (v_deckSizes : Nat → Int32) (v_o2_count : Int32) (v_o2_bans : Nat → Int32) (sz : Nat) (p1 : Int32) (p3 : Int32) (r0 : Int32) (hf : fX5_isDeckGood v_cards v_decks v_deckSizes v_o2_bans p1 p3 = some r0) : Met l yX5_isDeckGood wsX5_isDeckGood rmX5_isDeckGood (wPc [.ref h, .int p1, .ref o2, .int p3] (dC, dI) (tysW cI cJ cZ cG) sz (wcX5_isDeckGood cI cJ cZ cG h h_cards h_decks h_deckSizes o2 o2_effects o2_numbers o2_bans r_h_cards r_h_decks v_cards v_decks v_deckSizes v_o2_count v_o2_bans)) (wQz r0 (wcX5_isDeckGood cI cJ cZ cG h h_cards h_decks h_deckSizes o2 o2_effects o2_numbers o2_bans r_h_cards r_h_decks v_cards v_decks v_deckSizes v_o2_count v_o2_bans) (dC, dI) (va_A (wcX5_isDeckGood cI cJ cZ cG h h_cards h_decks h_deckSizes o2 o2_effects o2_numbers o2_bans r_h_cards r_h_decks v_cards v_decks v_deckSizes v_o2_count v_o2_bans) sz)) 0 0 (va_A (wcX5_isDeckGood cI cJ cZ cG h h_cards h_decks h_deckSizes o2 o2_effects o2_numbers o2_bans r_h_cards r_h_decks v_cards v_decks v_deckSizes v_o2_count v_o2_bans) sz) := by
  refine Met.ofW (cc := cX5_isDeckGood) (maxL := 6) (ret := (some .boolean)) (by decide) rfl ?_
  intro p e s m args below meth c s₁ B hml hv
  obtain ⟨rfl, hsz, hP, hK, hD0⟩ := hv
  have hx := B.exec
  have hb := B.bytes
  have hr := B.returns
  have hts := atoms_spec (ws := wsX5_isDeckGood) B.pre
  have hown : s.vm.findClass RX5 = some m.cls := findClass_of_methodNamed B.named
  have hlocks := B.notSynchronized
  subst hsz
  have hD := hD0.self (sz := s.heap.size)
  generalize hAe : va_A (wcX5_isDeckGood cI cJ cZ cG h h_cards h_decks h_deckSizes o2 o2_effects o2_numbers o2_bans r_h_cards r_h_decks v_cards v_decks v_deckSizes v_o2_count v_o2_bans) s.heap.size = A at hD ⊢
  have hA : ∀ q : Nat, s.heap.size ≤ q → A q := fun q h => by rw [← hAe]; exact Or.inr h
  have hS : va_S A s.heap s.heap [] := va_S.rf
  have hP : va_P (dC, dI) vwCl (wcX5_isDeckGood cI cJ cZ cG h h_cards h_decks h_deckSizes o2 o2_effects o2_numbers o2_bans r_h_cards r_h_decks v_cards v_decks v_deckSizes v_o2_count v_o2_bans) s.heap := hP
  have hl := lv_entry ([.ref h, .int p1, .ref o2, .int p3]) (n := 6) (Nat.le_of_ble_eq_true rfl)
  rw [lg_entry_eq]
  generalize (lg_sl ([.ref h, .int p1, .ref o2, .int p3]) ++ List.replicate (6 - (lg_sl ([.ref h, .int p1, .ref o2, .int p3])).length) Slot.unset).toArray = ls at hl ⊢
  have hl : lv_has ls 6 [(0, .ref h), (1, .int p1), (2, .ref o2), (3, .int p3)] := hl
  generalize hH : s.heap = H at hP hS ⊢
  have hS : va_S A s.heap H [] := by rw [hH]; exact hS
  have C0 : wCX p s #[.ref h, .int p1, .ref o2, .int p3] m meth c cX5_isDeckGood 6 (some .boolean) RX5 wsX5_isDeckGood := ⟨hx, hb, hr, hml, hown, hts, hlocks⟩
  show W p l e rmX5_isDeckGood s m #[.ref h, .int p1, .ref o2, .int p3] below meth c H [] 0 0 (MQ below (wQz r0 (wcX5_isDeckGood cI cJ cZ cG h h_cards h_decks h_deckSizes o2 o2_effects o2_numbers o2_bans r_h_cards r_h_decks v_cards v_decks v_deckSizes v_o2_count v_o2_bans) (dC, dI) A) #[.ref h, .int p1, .ref o2, .int p3] s 0 0 A) (F0 m 0 ls [])
  unfold fX5_isDeckGood at hf
  refine lv_aload_n hx hb dX5_isDeckGood_0 rfl (lv_at hl 0 rfl) ?_
  refine va_get (D := (dC, dI)) (ci := 5) (v := .ref h_deckSizes) (C := RX5) (T := TX5) (N := 3) hx hb hts iX5_isDeckGood_X5 hown hK hP 0 rfl rfl 2 (by decide) (hts _ mX5_isDeckGood_0) (fun _ h9 => h9) rfl dX5_isDeckGood_1 ?_
  refine lv_iload_n hx hb dX5_isDeckGood_4 rfl (lv_at hl 1 rfl) ?_
  obtain ⟨hg_1, hf⟩ := ck_s hf
  refine va_iald (D := (dC, dI)) hx hb hK hP 3 0 rfl rfl (g_vp hg_1) dX5_isDeckGood_5 ?_
  refine lv_iconst (v := 4) hx hb dX5_isDeckGood_6 (by decide) ?_
  refine lv_icmp_ge (tgt := 12) hx hb dX5_isDeckGood_7 (by decide) (fun c_2 => ?_) (fun c_2 => ?_)
  · have hf := it_t hf c_2
    refine lv_iconst (v := 0) hx hb dX5_isDeckGood_12 (by decide) ?_
    refine lv_istore (lv' := [(4, .int 0), (0, .ref h), (1, .int p1), (2, .ref o2), (3, .int p3)]) hx hb dX5_isDeckGood_13 hl (by decide) rfl (fun ls hl => ?_)
    have hf : fX5_isDeckGood_b15 v_cards v_decks v_deckSizes v_o2_bans 70 p1 p3 0 = some r0 := hf
    exact kX5_isDeckGood_15 C0 hA hK 70 p1 p3 0 _ _ _ hf hP hD hS (lv_sub hl [1, 2, 3, 4, 0] rfl)
  · have hf := it_f hf c_2
    refine lv_iconst (v := 0) hx hb dX5_isDeckGood_10 (by decide) ?_
    have hf : some 0 = some r0 := hf
    cases hf
    exact w_zret hx hb hr hlocks rfl (Or.inl rfl) hP hD hS dX5_isDeckGood_11
