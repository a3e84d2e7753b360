/-! printed by gen.py: hall1 -/
abbrev wcX8_needPlayer (cI cJ cZ cG : ClassId) : va_W := []
theorem mX8_needPlayer_0 : (Cond.classLink RX8 198 "java/lang/IndexOutOfBoundsException") ∈ wsX8_needPlayer := by decide +kernel
theorem mX8_needPlayer_1 : (Cond.initialized "java/lang/IndexOutOfBoundsException") ∈ wsX8_needPlayer := by decide +kernel
theorem xwX8_needPlayer_IOB : ∀ w ∈ (vx_atS RX8 202 "java/lang/IndexOutOfBoundsException" ["java/lang/RuntimeException", "java/lang/Exception"]).filter goodWord, w ∈ wsX8_needPlayer := by decide +kernel
abbrev rmX8_needPlayer : Room := { frames := 6, cells := 1, slots := 6, locals := 92 }
set_option maxHeartbeats 4000000 in
set_option maxRecDepth 100000 in
theorem kX8_needPlayer_10 {p : Program} {l : Launch} {e : Env} {s : State} {m : MethodId} {args : Array Value} {below : List Frame} {meth : Method} {c : Code} {dC : Nat → ClassId} {dI : Nat → Nat → Nat} {A : Nat → Prop} {cI cJ cZ cG : ClassId} {o : (Unit × Unit) ⊕ (String × Unit)} (C0 : wCX p s args m meth c cX8_needPlayer 1 none RX8 wsX8_needPlayer) (hA : ∀ q, s.heap.size ≤ q → A q) (hK : va_K (dC, dI) vwCl (tysW cI cJ cZ cG) s) (hnot : ∀ x ∈ c.exceptionTable.toList, False) (hlt : l.stackTraces = false) (hT : wThr A s) : ∀ (H : Heap) (locs : List Loc) (ls : Array Slot), fX8_needPlayer_b10 = some o → va_P (dC, dI) vwCl (wcX8_needPlayer cI cJ cZ cG ) H → va_D A (wcX8_needPlayer cI cJ cZ cG ) → va_S A s.heap H locs → lv_has ls 1 [] → W p l e rmX8_needPlayer s m args below meth c H locs 0 0 (vx_MQ below (wXQv o (fun _ : Unit => (wcX8_needPlayer cI cJ cZ cG )) (dC, dI) A) (wXX o (fun _ : Unit => (wcX8_needPlayer cI cJ cZ cG )) (dC, dI) A) args s 1 6 A) (F0 m 10 ls []) := by
  obtain ⟨hx, hb, hr, hml, hown, hts, hlocks⟩ := id C0
  intro H locs ls hf hP hD hS hl
  unfold fX8_needPlayer_b10 at hf
  have hf : some (Sum.inr ("java/lang/IndexOutOfBoundsException", ())) = some o := hf
  cases hf
  exact w_throwS (RT := Unit) (u0 := ()) (cls := "java/lang/IndexOutOfBoundsException") (text := "there is no such player") (names := ["java/lang/RuntimeException", "java/lang/Exception"]) (ik := 198) (is := 254) (ic := 202) (own := "") hx hb hlt hown (by decide +kernel) (by decide +kernel) (hts _ mX8_needPlayer_0) (hts _ mX8_needPlayer_1) hT (by decide +kernel) (fun w hw => hts w (xwX8_needPlayer_IOB w hw)) (by decide) xb_IOB xg_IOB (hl.1.trans hml.symm) hnot hlocks dX8_needPlayer_10 dX8_needPlayer_13 dX8_needPlayer_14 dX8_needPlayer_16 dX8_needPlayer_19 (by decide) (by decide) (by decide) (by decide) (by decide) (by decide) hP hD hS
set_option maxHeartbeats 4000000 in
set_option maxRecDepth 100000 in
theorem oX8_needPlayer (l : Launch) (hlt : l.stackTraces = false) (dC : Nat → ClassId) (dI : Nat → Nat → Nat) (cI cJ cZ cG : ClassId) (sz : Nat) (p1 : Int32) (o : (Unit × Unit) ⊕ (String × Unit)) (hf : fX8_needPlayer p1 = some o) : vx_Met l yX8_needPlayer wsX8_needPlayer rmX8_needPlayer (wXPc [.int p1] (dC, dI) (tysW cI cJ cZ cG) sz (wcX8_needPlayer cI cJ cZ cG )) (wXQv o (fun _ : Unit => (wcX8_needPlayer cI cJ cZ cG )) (dC, dI) (va_A (wcX8_needPlayer cI cJ cZ cG ) sz)) (wXX o (fun _ : Unit => (wcX8_needPlayer cI cJ cZ cG )) (dC, dI) (va_A (wcX8_needPlayer cI cJ cZ cG ) sz)) 1 6 (va_A (wcX8_needPlayer cI cJ cZ cG ) sz) := by
  refine vx_ofW (cc := cX8_needPlayer) (maxL := 1) (ret := none) (by decide) rfl ?_
  intro p e s m args below meth c s₁ B hml hnot hv
  obtain ⟨rfl, hsz, hP, hK, hD0, hT⟩ := hv
  have hx := B.exec
  have hb := B.bytes
  have hr := B.returns
  have hts := atoms_spec (ws := wsX8_needPlayer) B.pre
  have hown : s.vm.findClass RX8 = some m.cls := findClass_of_methodNamed B.named
  have hlocks := B.notSynchronized
  subst hsz
  have hD := hD0.self (sz := s.heap.size)
  generalize hAe : va_A (wcX8_needPlayer cI cJ cZ cG ) s.heap.size = A at hD hT ⊢
  have hA : ∀ q : Nat, s.heap.size ≤ q → A q := fun q h => by rw [← hAe]; exact Or.inr h
  have hS : va_S A s.heap s.heap [] := va_S.rf
  have hP : va_P (dC, dI) vwCl (wcX8_needPlayer cI cJ cZ cG ) s.heap := hP
  have hl := lv_entry ([.int p1]) (n := 1) (Nat.le_of_ble_eq_true rfl)
  rw [lg_entry_eq]
  generalize (lg_sl ([.int p1]) ++ List.replicate (1 - (lg_sl ([.int p1])).length) Slot.unset).toArray = ls at hl ⊢
  have hl : lv_has ls 1 [(0, .int p1)] := hl
  generalize hH : s.heap = H at hP hS ⊢
  have hS : va_S A s.heap H [] := by rw [hH]; exact hS
  have C0 : wCX p s #[.int p1] m meth c cX8_needPlayer 1 none RX8 wsX8_needPlayer := ⟨hx, hb, hr, hml, hown, hts, hlocks⟩
  show W p l e rmX8_needPlayer s m #[.int p1] below meth c H [] 0 0 (vx_MQ below (wXQv o (fun _ : Unit => (wcX8_needPlayer cI cJ cZ cG )) (dC, dI) A) (wXX o (fun _ : Unit => (wcX8_needPlayer cI cJ cZ cG )) (dC, dI) A) #[.int p1] s 1 6 A) (F0 m 0 ls [])
  unfold fX8_needPlayer at hf
  refine lv_iload_n hx hb dX8_needPlayer_0 rfl (lv_at hl 0 rfl) ?_
  refine lv_if_lt (tgt := 10) hx hb dX8_needPlayer_1 (by decide) (fun c_1 => ?_) (fun c_1 => ?_)
  · have hf := it_t hf c_1
    have hf : fX8_needPlayer_b10 = some o := hf
    exact kX8_needPlayer_10 C0 hA hK hnot hlt hT _ _ _ hf hP hD hS (lv_sub hl [] rfl)
  · have hf := it_f hf c_1
    refine lv_iload_n hx hb dX8_needPlayer_4 rfl (lv_at hl 0 rfl) ?_
    refine lv_bipush (v := 6) hx hb dX8_needPlayer_5 (by decide) ?_
    refine lv_icmp_lt (tgt := 20) hx hb dX8_needPlayer_7 (by decide) (fun c_2 => ?_) (fun c_2 => ?_)
    · have hf := it_t hf c_2
      have hf : some (Sum.inl ((), ())) = some o := hf
      cases hf
      exact w_xvret (u0 := ()) hx hb hr hlocks hP hD hS (Nat.le_of_ble_eq_true rfl) (Nat.le_of_ble_eq_true rfl) dX8_needPlayer_20
    · have hf := it_f hf c_2
      have hf : fX8_needPlayer_b10 = some o := hf
      exact kX8_needPlayer_10 C0 hA hK hnot hlt hT _ _ _ hf hP hD hS (lv_sub hl [] rfl)
abbrev wcX8_needKind (cI cJ cZ cG : ClassId) (h h_kinds h_shelf h_table h_orders h_history h_draft h_wishes h_matches h_kinds_effects h_kinds_numbers h_kinds_bans : Nat) (v_today : Int32) (v_kinds_count : Int32) : va_W := [(h, .inr (8, [.ref h_kinds, .ref h_shelf, .ref h_table, .ref h_orders, .ref h_history, .ref h_draft, .ref h_wishes, .ref h_matches, .int v_today])), (h_kinds, .inr (2, [.ref h_kinds_effects, .ref h_kinds_numbers, .ref h_kinds_bans, .int v_kinds_count]))]
theorem iX8_needKind_X8 : ∀ w ∈ wsX80, w ∈ wsX8_needKind := by decide +kernel
theorem iX8_needKind_X2 : ∀ w ∈ wsX20, w ∈ wsX8_needKind := by decide +kernel
theorem mX8_needKind_0 : (Cond.fieldLink RX8 10 "Sleevehall" "kinds" "LSleevehall$Kinds;") ∈ wsX8_needKind := by decide +kernel
theorem mX8_needKind_1 : (Cond.fieldLink RX8 74 "Sleevehall$Kinds" "count" "I") ∈ wsX8_needKind := by decide +kernel
theorem mX8_needKind_2 : (Cond.classLink RX8 198 "java/lang/IndexOutOfBoundsException") ∈ wsX8_needKind := by decide +kernel
theorem mX8_needKind_3 : (Cond.initialized "java/lang/IndexOutOfBoundsException") ∈ wsX8_needKind := by decide +kernel
theorem xwX8_needKind_IOB : ∀ w ∈ (vx_atS RX8 202 "java/lang/IndexOutOfBoundsException" ["java/lang/RuntimeException", "java/lang/Exception"]).filter goodWord, w ∈ wsX8_needKind := by decide +kernel
abbrev rmX8_needKind : Room := { frames := 6, cells := 1, slots := 6, locals := 92 }
set_option maxHeartbeats 4000000 in
set_option maxRecDepth 100000 in
theorem kX8_needKind_15 {p : Program} {l : Launch} {e : Env} {s : State} {m : MethodId} {args : Array Value} {below : List Frame} {meth : Method} {c : Code} {dC : Nat → ClassId} {dI : Nat → Nat → Nat} {A : Nat → Prop} {cI cJ cZ cG : ClassId} {h h_kinds h_shelf h_table h_orders h_history h_draft h_wishes h_matches h_kinds_effects h_kinds_numbers h_kinds_bans : Nat} {v_today : Int32} {v_kinds_count : Int32} {o : (Unit × Unit) ⊕ (String × Unit)} (C0 : wCX p s args m meth c cX8_needKind 2 none RX8 wsX8_needKind) (hA : ∀ q, s.heap.size ≤ q → A q) (hK : va_K (dC, dI) vwCl (tysW cI cJ cZ cG) s) (hnot : ∀ x ∈ c.exceptionTable.toList, False) (hlt : l.stackTraces = false) (hT : wThr A s) : ∀ (H : Heap) (locs : List Loc) (ls : Array Slot), fX8_needKind_b15 v_kinds_count = some o → va_P (dC, dI) vwCl (wcX8_needKind cI cJ cZ cG h h_kinds h_shelf h_table h_orders h_history h_draft h_wishes h_matches h_kinds_effects h_kinds_numbers h_kinds_bans v_today v_kinds_count) H → va_D A (wcX8_needKind cI cJ cZ cG h h_kinds h_shelf h_table h_orders h_history h_draft h_wishes h_matches h_kinds_effects h_kinds_numbers h_kinds_bans v_today v_kinds_count) → va_S A s.heap H locs → lv_has ls 2 [] → W p l e rmX8_needKind s m args below meth c H locs 0 0 (vx_MQ below (wXQv o (fun _ : Unit => (wcX8_needKind cI cJ cZ cG h h_kinds h_shelf h_table h_orders h_history h_draft h_wishes h_matches h_kinds_effects h_kinds_numbers h_kinds_bans v_today v_kinds_count)) (dC, dI) A) (wXX o (fun _ : Unit => (wcX8_needKind cI cJ cZ cG h h_kinds h_shelf h_table h_orders h_history h_draft h_wishes h_matches h_kinds_effects h_kinds_numbers h_kinds_bans v_today v_kinds_count)) (dC, dI) A) args s 1 6 A) (F0 m 15 ls []) := by
  obtain ⟨hx, hb, hr, hml, hown, hts, hlocks⟩ := id C0
  intro H locs ls hf hP hD hS hl
  unfold fX8_needKind_b15 at hf
  have hf : some (Sum.inr ("java/lang/IndexOutOfBoundsException", ())) = some o := hf
  cases hf
  exact w_throwSW (RT := Unit) (u0 := ()) (cls := "java/lang/IndexOutOfBoundsException") (text := "there is no such kind") (names := ["java/lang/RuntimeException", "java/lang/Exception"]) (ik := 198) (is := 256) (ic := 202) (own := "") hx hb hlt hown (by decide +kernel) (by decide +kernel) (hts _ mX8_needKind_2) (hts _ mX8_needKind_3) hT (by decide +kernel) (fun w hw => hts w (xwX8_needKind_IOB w hw)) (by decide) xb_IOB xg_IOB (hl.1.trans hml.symm) hnot hlocks dX8_needKind_15 dX8_needKind_18 dX8_needKind_19 dX8_needKind_22 dX8_needKind_25 (by decide) (by decide) (by decide) (by decide) (by decide) (by decide) hP hD hS
set_option maxHeartbeats 4000000 in
set_option maxRecDepth 100000 in
theorem oX8_needKind (l : Launch) (hlt : l.stackTraces = false) (dC : Nat → ClassId) (dI : Nat → Nat → Nat) (cI cJ cZ cG : ClassId) (h h_kinds h_shelf h_table h_orders h_history h_draft h_wishes h_matches h_kinds_effects h_kinds_numbers h_kinds_bans : Nat) (v_today : Int32) (v_kinds_count : Int32) (sz : Nat) (p1 : Int32) (o : (Unit × Unit) ⊕ (String × Unit)) (hf : fX8_needKind v_kinds_count p1 = some o) : vx_Met l yX8_needKind wsX8_needKind rmX8_needKind (wXPc [.ref h, .int p1] (dC, dI) (tysW cI cJ cZ cG) sz (wcX8_needKind cI cJ cZ cG h h_kinds h_shelf h_table h_orders h_history h_draft h_wishes h_matches h_kinds_effects h_kinds_numbers h_kinds_bans v_today v_kinds_count)) (wXQv o (fun _ : Unit => (wcX8_needKind cI cJ cZ cG h h_kinds h_shelf h_table h_orders h_history h_draft h_wishes h_matches h_kinds_effects h_kinds_numbers h_kinds_bans v_today v_kinds_count)) (dC, dI) (va_A (wcX8_needKind cI cJ cZ cG h h_kinds h_shelf h_table h_orders h_history h_draft h_wishes h_matches h_kinds_effects h_kinds_numbers h_kinds_bans v_today v_kinds_count) sz)) (wXX o (fun _ : Unit => (wcX8_needKind cI cJ cZ cG h h_kinds h_shelf h_table h_orders h_history h_draft h_wishes h_matches h_kinds_effects h_kinds_numbers h_kinds_bans v_today v_kinds_count)) (dC, dI) (va_A (wcX8_needKind cI cJ cZ cG h h_kinds h_shelf h_table h_orders h_history h_draft h_wishes h_matches h_kinds_effects h_kinds_numbers h_kinds_bans v_today v_kinds_count) sz)) 1 6 (va_A (wcX8_needKind cI cJ cZ cG h h_kinds h_shelf h_table h_orders h_history h_draft h_wishes h_matches h_kinds_effects h_kinds_numbers h_kinds_bans v_today v_kinds_count) sz) := by
  refine vx_ofW (cc := cX8_needKind) (maxL := 2) (ret := none) (by decide) rfl ?_
  intro p e s m args below meth c s₁ B hml hnot hv
  obtain ⟨rfl, hsz, hP, hK, hD0, hT⟩ := hv
  have hx := B.exec
  have hb := B.bytes
  have hr := B.returns
  have hts := atoms_spec (ws := wsX8_needKind) B.pre
  have hown : s.vm.findClass RX8 = some m.cls := findClass_of_methodNamed B.named
  have hlocks := B.notSynchronized
  subst hsz
  have hD := hD0.self (sz := s.heap.size)
  generalize hAe : va_A (wcX8_needKind cI cJ cZ cG h h_kinds h_shelf h_table h_orders h_history h_draft h_wishes h_matches h_kinds_effects h_kinds_numbers h_kinds_bans v_today v_kinds_count) s.heap.size = A at hD hT ⊢
  have hA : ∀ q : Nat, s.heap.size ≤ q → A q := fun q h => by rw [← hAe]; exact Or.inr h
  have hS : va_S A s.heap s.heap [] := va_S.rf
  have hP : va_P (dC, dI) vwCl (wcX8_needKind cI cJ cZ cG h h_kinds h_shelf h_table h_orders h_history h_draft h_wishes h_matches h_kinds_effects h_kinds_numbers h_kinds_bans v_today v_kinds_count) s.heap := hP
  have hl := lv_entry ([.ref h, .int p1]) (n := 2) (Nat.le_of_ble_eq_true rfl)
  rw [lg_entry_eq]
  generalize (lg_sl ([.ref h, .int p1]) ++ List.replicate (2 - (lg_sl ([.ref h, .int p1])).length) Slot.unset).toArray = ls at hl ⊢
  have hl : lv_has ls 2 [(0, .ref h), (1, .int p1)] := hl
  generalize hH : s.heap = H at hP hS ⊢
  have hS : va_S A s.heap H [] := by rw [hH]; exact hS
  have C0 : wCX p s #[.ref h, .int p1] m meth c cX8_needKind 2 none RX8 wsX8_needKind := ⟨hx, hb, hr, hml, hown, hts, hlocks⟩
  show W p l e rmX8_needKind s m #[.ref h, .int p1] below meth c H [] 0 0 (vx_MQ below (wXQv o (fun _ : Unit => (wcX8_needKind cI cJ cZ cG h h_kinds h_shelf h_table h_orders h_history h_draft h_wishes h_matches h_kinds_effects h_kinds_numbers h_kinds_bans v_today v_kinds_count)) (dC, dI) A) (wXX o (fun _ : Unit => (wcX8_needKind cI cJ cZ cG h h_kinds h_shelf h_table h_orders h_history h_draft h_wishes h_matches h_kinds_effects h_kinds_numbers h_kinds_bans v_today v_kinds_count)) (dC, dI) A) #[.ref h, .int p1] s 1 6 A) (F0 m 0 ls [])
  unfold fX8_needKind at hf
  refine lv_iload_n hx hb dX8_needKind_0 rfl (lv_at hl 1 rfl) ?_
  refine lv_if_lt (tgt := 15) hx hb dX8_needKind_1 (by decide) (fun c_1 => ?_) (fun c_1 => ?_)
  · have hf := it_t hf c_1
    have hf : fX8_needKind_b15 v_kinds_count = some o := hf
    exact kX8_needKind_15 C0 hA hK hnot hlt hT _ _ _ hf hP hD hS (lv_sub hl [] rfl)
  · have hf := it_f hf c_1
    refine lv_iload_n hx hb dX8_needKind_4 rfl (lv_at hl 1 rfl) ?_
    refine lv_aload_n hx hb dX8_needKind_5 rfl (lv_at hl 0 rfl) ?_
    refine va_get (D := (dC, dI)) (ci := 8) (v := .ref h_kinds) (C := RX8) (T := TX8) (N := 9) hx hb hts iX8_needKind_X8 hown hK hP 0 rfl rfl 0 (by decide) (hts _ mX8_needKind_0) (fun _ h9 => h9) rfl dX8_needKind_6 ?_
    refine va_get (D := (dC, dI)) (ci := 2) (v := .int v_kinds_count) (C := RX2) (T := TX2) (N := 4) hx hb hts iX8_needKind_X2 hown hK hP 1 rfl rfl 3 (by decide) (hts _ mX8_needKind_1) (fun _ h9 => h9) rfl dX8_needKind_9 ?_
    refine lv_icmp_lt (tgt := 26) hx hb dX8_needKind_12 (by decide) (fun c_2 => ?_) (fun c_2 => ?_)
    · have hf := it_t hf c_2
      have hf : some (Sum.inl ((), ())) = some o := hf
      cases hf
      exact w_xvret (u0 := ()) hx hb hr hlocks hP hD hS (Nat.le_of_ble_eq_true rfl) (Nat.le_of_ble_eq_true rfl) dX8_needKind_26
    · have hf := it_f hf c_2
      have hf : fX8_needKind_b15 v_kinds_count = some o := hf
      exact kX8_needKind_15 C0 hA hK hnot hlt hT _ _ _ hf hP hD hS (lv_sub hl [] rfl)
abbrev wcX8_needDay (cI cJ cZ cG : ClassId) (h h_kinds h_shelf h_table h_orders h_history h_draft h_wishes h_matches : Nat) (v_today : Int32) : va_W := [(h, .inr (8, [.ref h_kinds, .ref h_shelf, .ref h_table, .ref h_orders, .ref h_history, .ref h_draft, .ref h_wishes, .ref h_matches, .int v_today]))]
theorem iX8_needDay_X8 : ∀ w ∈ wsX80, w ∈ wsX8_needDay := by decide +kernel
theorem mX8_needDay_0 : (Cond.fieldLink RX8 113 "Sleevehall" "today" "I") ∈ wsX8_needDay := by decide +kernel
theorem mX8_needDay_1 : (Cond.classLink RX8 65 "java/lang/IllegalArgumentException") ∈ wsX8_needDay := by decide +kernel
theorem mX8_needDay_2 : (Cond.initialized "java/lang/IllegalArgumentException") ∈ wsX8_needDay := by decide +kernel
theorem xwX8_needDay_IAE : ∀ w ∈ (vx_atS RX8 69 "java/lang/IllegalArgumentException" ["java/lang/RuntimeException", "java/lang/Exception"]).filter goodWord, w ∈ wsX8_needDay := by decide +kernel
abbrev rmX8_needDay : Room := { frames := 6, cells := 1, slots := 6, locals := 92 }
set_option maxHeartbeats 4000000 in
set_option maxRecDepth 100000 in
theorem kX8_needDay_15 {p : Program} {l : Launch} {e : Env} {s : State} {m : MethodId} {args : Array Value} {below : List Frame} {meth : Method} {c : Code} {dC : Nat → ClassId} {dI : Nat → Nat → Nat} {A : Nat → Prop} {cI cJ cZ cG : ClassId} {h h_kinds h_shelf h_table h_orders h_history h_draft h_wishes h_matches : Nat} {v_today : Int32} {o : (Unit × Unit) ⊕ (String × Unit)} (C0 : wCX p s args m meth c cX8_needDay 2 none RX8 wsX8_needDay) (hA : ∀ q, s.heap.size ≤ q → A q) (hK : va_K (dC, dI) vwCl (tysW cI cJ cZ cG) s) (hnot : ∀ x ∈ c.exceptionTable.toList, False) (hlt : l.stackTraces = false) (hT : wThr A s) : ∀ (H : Heap) (locs : List Loc) (ls : Array Slot), fX8_needDay_b15 v_today = some o → va_P (dC, dI) vwCl (wcX8_needDay cI cJ cZ cG h h_kinds h_shelf h_table h_orders h_history h_draft h_wishes h_matches v_today) H → va_D A (wcX8_needDay cI cJ cZ cG h h_kinds h_shelf h_table h_orders h_history h_draft h_wishes h_matches v_today) → va_S A s.heap H locs → lv_has ls 2 [] → W p l e rmX8_needDay s m args below meth c H locs 0 0 (vx_MQ below (wXQv o (fun _ : Unit => (wcX8_needDay cI cJ cZ cG h h_kinds h_shelf h_table h_orders h_history h_draft h_wishes h_matches v_today)) (dC, dI) A) (wXX o (fun _ : Unit => (wcX8_needDay cI cJ cZ cG h h_kinds h_shelf h_table h_orders h_history h_draft h_wishes h_matches v_today)) (dC, dI) A) args s 1 6 A) (F0 m 15 ls []) := by
  obtain ⟨hx, hb, hr, hml, hown, hts, hlocks⟩ := id C0
  intro H locs ls hf hP hD hS hl
  unfold fX8_needDay_b15 at hf
  have hf : some (Sum.inr ("java/lang/IllegalArgumentException", ())) = some o := hf
  cases hf
  exact w_throwSW (RT := Unit) (u0 := ()) (cls := "java/lang/IllegalArgumentException") (text := "the day is not today to 1000") (names := ["java/lang/RuntimeException", "java/lang/Exception"]) (ik := 65) (is := 258) (ic := 69) (own := "") hx hb hlt hown (by decide +kernel) (by decide +kernel) (hts _ mX8_needDay_1) (hts _ mX8_needDay_2) hT (by decide +kernel) (fun w hw => hts w (xwX8_needDay_IAE w hw)) (by decide) xb_IAE xg_IAE (hl.1.trans hml.symm) hnot hlocks dX8_needDay_15 dX8_needDay_18 dX8_needDay_19 dX8_needDay_22 dX8_needDay_25 (by decide) (by decide) (by decide) (by decide) (by decide) (by decide) hP hD hS
set_option maxHeartbeats 4000000 in
set_option maxRecDepth 100000 in
theorem oX8_needDay (l : Launch) (hlt : l.stackTraces = false) (dC : Nat → ClassId) (dI : Nat → Nat → Nat) (cI cJ cZ cG : ClassId) (h h_kinds h_shelf h_table h_orders h_history h_draft h_wishes h_matches : Nat) (v_today : Int32) (sz : Nat) (p1 : Int32) (o : (Unit × Unit) ⊕ (String × Unit)) (hf : fX8_needDay v_today p1 = some o) : vx_Met l yX8_needDay wsX8_needDay rmX8_needDay (wXPc [.ref h, .int p1] (dC, dI) (tysW cI cJ cZ cG) sz (wcX8_needDay cI cJ cZ cG h h_kinds h_shelf h_table h_orders h_history h_draft h_wishes h_matches v_today)) (wXQv o (fun _ : Unit => (wcX8_needDay cI cJ cZ cG h h_kinds h_shelf h_table h_orders h_history h_draft h_wishes h_matches v_today)) (dC, dI) (va_A (wcX8_needDay cI cJ cZ cG h h_kinds h_shelf h_table h_orders h_history h_draft h_wishes h_matches v_today) sz)) (wXX o (fun _ : Unit => (wcX8_needDay cI cJ cZ cG h h_kinds h_shelf h_table h_orders h_history h_draft h_wishes h_matches v_today)) (dC, dI) (va_A (wcX8_needDay cI cJ cZ cG h h_kinds h_shelf h_table h_orders h_history h_draft h_wishes h_matches v_today) sz)) 1 6 (va_A (wcX8_needDay cI cJ cZ cG h h_kinds h_shelf h_table h_orders h_history h_draft h_wishes h_matches v_today) sz) := by
  refine vx_ofW (cc := cX8_needDay) (maxL := 2) (ret := none) (by decide) rfl ?_
  intro p e s m args below meth c s₁ B hml hnot hv
  obtain ⟨rfl, hsz, hP, hK, hD0, hT⟩ := hv
  have hx := B.exec
  have hb := B.bytes
  have hr := B.returns
  have hts := atoms_spec (ws := wsX8_needDay) B.pre
  have hown : s.vm.findClass RX8 = some m.cls := findClass_of_methodNamed B.named
  have hlocks := B.notSynchronized
  subst hsz
  have hD := hD0.self (sz := s.heap.size)
  generalize hAe : va_A (wcX8_needDay cI cJ cZ cG h h_kinds h_shelf h_table h_orders h_history h_draft h_wishes h_matches v_today) s.heap.size = A at hD hT ⊢
  have hA : ∀ q : Nat, s.heap.size ≤ q → A q := fun q h => by rw [← hAe]; exact Or.inr h
  have hS : va_S A s.heap s.heap [] := va_S.rf
  have hP : va_P (dC, dI) vwCl (wcX8_needDay cI cJ cZ cG h h_kinds h_shelf h_table h_orders h_history h_draft h_wishes h_matches v_today) s.heap := hP
  have hl := lv_entry ([.ref h, .int p1]) (n := 2) (Nat.le_of_ble_eq_true rfl)
  rw [lg_entry_eq]
  generalize (lg_sl ([.ref h, .int p1]) ++ List.replicate (2 - (lg_sl ([.ref h, .int p1])).length) Slot.unset).toArray = ls at hl ⊢
  have hl : lv_has ls 2 [(0, .ref h), (1, .int p1)] := hl
  generalize hH : s.heap = H at hP hS ⊢
  have hS : va_S A s.heap H [] := by rw [hH]; exact hS
  have C0 : wCX p s #[.ref h, .int p1] m meth c cX8_needDay 2 none RX8 wsX8_needDay := ⟨hx, hb, hr, hml, hown, hts, hlocks⟩
  show W p l e rmX8_needDay s m #[.ref h, .int p1] below meth c H [] 0 0 (vx_MQ below (wXQv o (fun _ : Unit => (wcX8_needDay cI cJ cZ cG h h_kinds h_shelf h_table h_orders h_history h_draft h_wishes h_matches v_today)) (dC, dI) A) (wXX o (fun _ : Unit => (wcX8_needDay cI cJ cZ cG h h_kinds h_shelf h_table h_orders h_history h_draft h_wishes h_matches v_today)) (dC, dI) A) #[.ref h, .int p1] s 1 6 A) (F0 m 0 ls [])
  unfold fX8_needDay at hf
  refine lv_iload_n hx hb dX8_needDay_0 rfl (lv_at hl 1 rfl) ?_
  refine lv_aload_n hx hb dX8_needDay_1 rfl (lv_at hl 0 rfl) ?_
  refine va_get (D := (dC, dI)) (ci := 8) (v := .int v_today) (C := RX8) (T := TX8) (N := 9) hx hb hts iX8_needDay_X8 hown hK hP 0 rfl rfl 8 (by decide) (hts _ mX8_needDay_0) (fun _ h9 => h9) rfl dX8_needDay_2 ?_
  refine lv_icmp_lt (tgt := 15) hx hb dX8_needDay_5 (by decide) (fun c_1 => ?_) (fun c_1 => ?_)
  · have hf := it_t hf c_1
    have hf : fX8_needDay_b15 v_today = some o := hf
    exact kX8_needDay_15 C0 hA hK hnot hlt hT _ _ _ hf hP hD hS (lv_sub hl [] rfl)
  · have hf := it_f hf c_1
    refine lv_iload_n hx hb dX8_needDay_8 rfl (lv_at hl 1 rfl) ?_
    refine lv_sipush (v := 1000) hx hb dX8_needDay_9 (by decide) ?_
    refine lv_icmp_le (tgt := 26) hx hb dX8_needDay_12 (by decide) (fun c_2 => ?_) (fun c_2 => ?_)
    · have hf := it_t hf c_2
      have hf : some (Sum.inl ((), ())) = some o := hf
      cases hf
      exact w_xvret (u0 := ()) hx hb hr hlocks hP hD hS (Nat.le_of_ble_eq_true rfl) (Nat.le_of_ble_eq_true rfl) dX8_needDay_26
    · have hf := it_f hf c_2
      have hf : fX8_needDay_b15 v_today = some o := hf
      exact kX8_needDay_15 C0 hA hK hnot hlt hT _ _ _ hf hP hD hS (lv_sub hl [] rfl)
abbrev wcX8_kind (cI cJ cZ cG : ClassId) (h h_kinds h_shelf h_table h_orders h_history h_draft h_wishes h_matches h_kinds_effects h_kinds_numbers h_kinds_bans : Nat) (v_today : Int32) (v_kinds_count : Int32) (v_kinds_effects : Nat → Int32) (v_kinds_numbers : Nat → Int32) (v_kinds_bans : Nat → Int32) : va_W := [(h, .inr (8, [.ref h_kinds, .ref h_shelf, .ref h_table, .ref h_orders, .ref h_history, .ref h_draft, .ref h_wishes, .ref h_matches, .int v_today])), (h_kinds, .inr (2, [.ref h_kinds_effects, .ref h_kinds_numbers, .ref h_kinds_bans, .int v_kinds_count])), (h_kinds_effects, .inl (cI, 20, .inl v_kinds_effects)), (h_kinds_numbers, .inl (cI, 20, .inl v_kinds_numbers)), (h_kinds_bans, .inl (cI, 20, .inl v_kinds_bans))]
theorem iX8_kind_X8 : ∀ w ∈ wsX80, w ∈ wsX8_kind := by decide +kernel
theorem iX8_kind_X2 : ∀ w ∈ wsX20, w ∈ wsX8_kind := by decide +kernel
theorem mX8_kind_0 : (Cond.fieldLink RX8 10 "Sleevehall" "kinds" "LSleevehall$Kinds;") ∈ wsX8_kind := by decide +kernel
theorem mX8_kind_1 : (Cond.fieldLink RX8 74 "Sleevehall$Kinds" "count" "I") ∈ wsX8_kind := by decide +kernel
theorem mX8_kind_2 : (Cond.classLink RX8 78 "java/lang/IllegalStateException") ∈ wsX8_kind := by decide +kernel
theorem mX8_kind_3 : (Cond.initialized "java/lang/IllegalStateException") ∈ wsX8_kind := by decide +kernel
theorem mX8_kind_4 : (Cond.classLink RX8 65 "java/lang/IllegalArgumentException") ∈ wsX8_kind := by decide +kernel
theorem mX8_kind_5 : (Cond.initialized "java/lang/IllegalArgumentException") ∈ wsX8_kind := by decide +kernel
theorem xwX8_kind_IAE : ∀ w ∈ (vx_atS RX8 69 "java/lang/IllegalArgumentException" ["java/lang/RuntimeException", "java/lang/Exception"]).filter goodWord, w ∈ wsX8_kind := by decide +kernel
theorem xwX8_kind_ISE : ∀ w ∈ (vx_atS RX8 82 "java/lang/IllegalStateException" ["java/lang/RuntimeException", "java/lang/Exception"]).filter goodWord, w ∈ wsX8_kind := by decide +kernel
abbrev rmX8_kind : Room := { frames := 6, cells := 1, slots := 6, locals := 92 }
set_option maxHeartbeats 4000000 in
set_option maxRecDepth 100000 in
theorem kX8_kind_9 {p : Program} {l : Launch} {e : Env} {s : State} {m : MethodId} {args : Array Value} {below : List Frame} {meth : Method} {c : Code} {dC : Nat → ClassId} {dI : Nat → Nat → Nat} {A : Nat → Prop} {cI cJ cZ cG : ClassId} {h h_kinds h_shelf h_table h_orders h_history h_draft h_wishes h_matches h_kinds_effects h_kinds_numbers h_kinds_bans : Nat} {v_today : Int32} {o : (Int32 × Int32 × (Nat → Int32) × (Nat → Int32) × (Nat → Int32)) ⊕ (String × Int32 × (Nat → Int32) × (Nat → Int32) × (Nat → Int32))} (C0 : wCX p s args m meth c cX8_kind 3 (some .int) RX8 wsX8_kind) (hA : ∀ q, s.heap.size ≤ q → A q) (hK : va_K (dC, dI) vwCl (tysW cI cJ cZ cG) s) (hnot : ∀ x ∈ c.exceptionTable.toList, False) (hlt : l.stackTraces = false) (hT : wThr A s) : ∀ (v_kinds_count : Int32) (v_kinds_effects : Nat → Int32) (v_kinds_numbers : Nat → Int32) (v_kinds_bans : Nat → Int32) (H : Heap) (locs : List Loc) (ls : Array Slot), fX8_kind_b9 v_kinds_count v_kinds_effects v_kinds_numbers v_kinds_bans = some o → va_P (dC, dI) vwCl (wcX8_kind cI cJ cZ cG h h_kinds h_shelf h_table h_orders h_history h_draft h_wishes h_matches h_kinds_effects h_kinds_numbers h_kinds_bans v_today v_kinds_count v_kinds_effects v_kinds_numbers v_kinds_bans) H → va_D A (wcX8_kind cI cJ cZ cG h h_kinds h_shelf h_table h_orders h_history h_draft h_wishes h_matches h_kinds_effects h_kinds_numbers h_kinds_bans v_today v_kinds_count v_kinds_effects v_kinds_numbers v_kinds_bans) → va_S A s.heap H locs → lv_has ls 3 [] → W p l e rmX8_kind s m args below meth c H locs 0 0 (vx_MQ below (wXQi o (fun u : Int32 × (Nat → Int32) × (Nat → Int32) × (Nat → Int32) => (wcX8_kind cI cJ cZ cG h h_kinds h_shelf h_table h_orders h_history h_draft h_wishes h_matches h_kinds_effects h_kinds_numbers h_kinds_bans v_today (u.1) (u.2.1) (u.2.2.1) (u.2.2.2))) (dC, dI) A) (wXX o (fun u : Int32 × (Nat → Int32) × (Nat → Int32) × (Nat → Int32) => (wcX8_kind cI cJ cZ cG h h_kinds h_shelf h_table h_orders h_history h_draft h_wishes h_matches h_kinds_effects h_kinds_numbers h_kinds_bans v_today (u.1) (u.2.1) (u.2.2.1) (u.2.2.2))) (dC, dI) A) args s 1 6 A) (F0 m 9 ls []) := by
  obtain ⟨hx, hb, hr, hml, hown, hts, hlocks⟩ := id C0
  intro v_kinds_count v_kinds_effects v_kinds_numbers v_kinds_bans H locs ls hf hP hD hS hl
  unfold fX8_kind_b9 at hf
  have hf : some (Sum.inr ("java/lang/IllegalArgumentException", (v_kinds_count, v_kinds_effects, v_kinds_numbers, v_kinds_bans))) = some o := hf
  cases hf
  exact w_throwS (RT := Int32) (u0 := (v_kinds_count, v_kinds_effects, v_kinds_numbers, v_kinds_bans)) (cls := "java/lang/IllegalArgumentException") (text := "the effect is none of HIT to TURN") (names := ["java/lang/RuntimeException", "java/lang/Exception"]) (ik := 65) (is := 67) (ic := 69) (own := "") hx hb hlt hown (by decide +kernel) (by decide +kernel) (hts _ mX8_kind_4) (hts _ mX8_kind_5) hT (by decide +kernel) (fun w hw => hts w (xwX8_kind_IAE w hw)) (by decide) xb_IAE xg_IAE (hl.1.trans hml.symm) hnot hlocks dX8_kind_9 dX8_kind_12 dX8_kind_13 dX8_kind_15 dX8_kind_18 (by decide) (by decide) (by decide) (by decide) (by decide) (by decide) hP hD hS
set_option maxHeartbeats 4000000 in
set_option maxRecDepth 100000 in
theorem kX8_kind_30 {p : Program} {l : Launch} {e : Env} {s : State} {m : MethodId} {args : Array Value} {below : List Frame} {meth : Method} {c : Code} {dC : Nat → ClassId} {dI : Nat → Nat → Nat} {A : Nat → Prop} {cI cJ cZ cG : ClassId} {h h_kinds h_shelf h_table h_orders h_history h_draft h_wishes h_matches h_kinds_effects h_kinds_numbers h_kinds_bans : Nat} {v_today : Int32} {o : (Int32 × Int32 × (Nat → Int32) × (Nat → Int32) × (Nat → Int32)) ⊕ (String × Int32 × (Nat → Int32) × (Nat → Int32) × (Nat → Int32))} (C0 : wCX p s args m meth c cX8_kind 3 (some .int) RX8 wsX8_kind) (hA : ∀ q, s.heap.size ≤ q → A q) (hK : va_K (dC, dI) vwCl (tysW cI cJ cZ cG) s) (hnot : ∀ x ∈ c.exceptionTable.toList, False) (hlt : l.stackTraces = false) (hT : wThr A s) : ∀ (v_kinds_count : Int32) (v_kinds_effects : Nat → Int32) (v_kinds_numbers : Nat → Int32) (v_kinds_bans : Nat → Int32) (H : Heap) (locs : List Loc) (ls : Array Slot), fX8_kind_b30 v_kinds_count v_kinds_effects v_kinds_numbers v_kinds_bans = some o → va_P (dC, dI) vwCl (wcX8_kind cI cJ cZ cG h h_kinds h_shelf h_table h_orders h_history h_draft h_wishes h_matches h_kinds_effects h_kinds_numbers h_kinds_bans v_today v_kinds_count v_kinds_effects v_kinds_numbers v_kinds_bans) H → va_D A (wcX8_kind cI cJ cZ cG h h_kinds h_shelf h_table h_orders h_history h_draft h_wishes h_matches h_kinds_effects h_kinds_numbers h_kinds_bans v_today v_kinds_count v_kinds_effects v_kinds_numbers v_kinds_bans) → va_S A s.heap H locs → lv_has ls 3 [] → W p l e rmX8_kind s m args below meth c H locs 0 0 (vx_MQ below (wXQi o (fun u : Int32 × (Nat → Int32) × (Nat → Int32) × (Nat → Int32) => (wcX8_kind cI cJ cZ cG h h_kinds h_shelf h_table h_orders h_history h_draft h_wishes h_matches h_kinds_effects h_kinds_numbers h_kinds_bans v_today (u.1) (u.2.1) (u.2.2.1) (u.2.2.2))) (dC, dI) A) (wXX o (fun u : Int32 × (Nat → Int32) × (Nat → Int32) × (Nat → Int32) => (wcX8_kind cI cJ cZ cG h h_kinds h_shelf h_table h_orders h_history h_draft h_wishes h_matches h_kinds_effects h_kinds_numbers h_kinds_bans v_today (u.1) (u.2.1) (u.2.2.1) (u.2.2.2))) (dC, dI) A) args s 1 6 A) (F0 m 30 ls []) := by
  obtain ⟨hx, hb, hr, hml, hown, hts, hlocks⟩ := id C0
  intro v_kinds_count v_kinds_effects v_kinds_numbers v_kinds_bans H locs ls hf hP hD hS hl
  unfold fX8_kind_b30 at hf
  have hf : some (Sum.inr ("java/lang/IllegalArgumentException", (v_kinds_count, v_kinds_effects, v_kinds_numbers, v_kinds_bans))) = some o := hf
  cases hf
  exact w_throwS (RT := Int32) (u0 := (v_kinds_count, v_kinds_effects, v_kinds_numbers, v_kinds_bans)) (cls := "java/lang/IllegalArgumentException") (text := "the number is not 1 to 9") (names := ["java/lang/RuntimeException", "java/lang/Exception"]) (ik := 65) (is := 72) (ic := 69) (own := "") hx hb hlt hown (by decide +kernel) (by decide +kernel) (hts _ mX8_kind_4) (hts _ mX8_kind_5) hT (by decide +kernel) (fun w hw => hts w (xwX8_kind_IAE w hw)) (by decide) xb_IAE xg_IAE (hl.1.trans hml.symm) hnot hlocks dX8_kind_30 dX8_kind_33 dX8_kind_34 dX8_kind_36 dX8_kind_39 (by decide) (by decide) (by decide) (by decide) (by decide) (by decide) hP hD hS
set_option maxHeartbeats 4000000 in
set_option maxRecDepth 100000 in
theorem oX8_kind (l : Launch) (hlt : l.stackTraces = false) (dC : Nat → ClassId) (dI : Nat → Nat → Nat) (cI cJ cZ cG : ClassId) (h h_kinds h_shelf h_table h_orders h_history h_draft h_wishes h_matches h_kinds_effects h_kinds_numbers h_kinds_bans : Nat) (v_today : Int32) (v_kinds_count : Int32) (v_kinds_effects : Nat → Int32) (v_kinds_numbers : Nat → Int32) (v_kinds_bans : Nat → Int32) (sz : Nat) (p1 : Int32) (p2 : Int32) (o : (Int32 × Int32 × (Nat → Int32) × (Nat → Int32) × (Nat → Int32)) ⊕ (String × Int32 × (Nat → Int32) × (Nat → Int32) × (Nat → Int32))) (hf : fX8_kind v_kinds_count v_kinds_effects v_kinds_numbers v_kinds_bans p1 p2 = some o) : vx_Met l yX8_kind wsX8_kind rmX8_kind (wXPc [.ref h, .int p1, .int p2] (dC, dI) (tysW cI cJ cZ cG) sz (wcX8_kind cI cJ cZ cG h h_kinds h_shelf h_table h_orders h_history h_draft h_wishes h_matches h_kinds_effects h_kinds_numbers h_kinds_bans v_today v_kinds_count v_kinds_effects v_kinds_numbers v_kinds_bans)) (wXQi o (fun u : Int32 × (Nat → Int32) × (Nat → Int32) × (Nat → Int32) => (wcX8_kind cI cJ cZ cG h h_kinds h_shelf h_table h_orders h_history h_draft h_wishes h_matches h_kinds_effects h_kinds_numbers h_kinds_bans v_today (u.1) (u.2.1) (u.2.2.1) (u.2.2.2))) (dC, dI) (va_A (wcX8_kind cI cJ cZ cG h h_kinds h_shelf h_table h_orders h_history h_draft h_wishes h_matches h_kinds_effects h_kinds_numbers h_kinds_bans v_today v_kinds_count v_kinds_effects v_kinds_numbers v_kinds_bans) sz)) (wXX o (fun u : Int32 × (Nat → Int32) × (Nat → Int32) × (Nat → Int32) => (wcX8_kind cI cJ cZ cG h h_kinds h_shelf h_table h_orders h_history h_draft h_wishes h_matches h_kinds_effects h_kinds_numbers h_kinds_bans v_today (u.1) (u.2.1) (u.2.2.1) (u.2.2.2))) (dC, dI) (va_A (wcX8_kind cI cJ cZ cG h h_kinds h_shelf h_table h_orders h_history h_draft h_wishes h_matches h_kinds_effects h_kinds_numbers h_kinds_bans v_today v_kinds_count v_kinds_effects v_kinds_numbers v_kinds_bans) sz)) 1 6 (va_A (wcX8_kind cI cJ cZ cG h h_kinds h_shelf h_table h_orders h_history h_draft h_wishes h_matches h_kinds_effects h_kinds_numbers h_kinds_bans v_today v_kinds_count v_kinds_effects v_kinds_numbers v_kinds_bans) sz) := by
  refine vx_ofW (cc := cX8_kind) (maxL := 3) (ret := (some .int)) (by decide) rfl ?_
  intro p e s m args below meth c s₁ B hml hnot hv
  obtain ⟨rfl, hsz, hP, hK, hD0, hT⟩ := hv
  have hx := B.exec
  have hb := B.bytes
  have hr := B.returns
  have hts := atoms_spec (ws := wsX8_kind) B.pre
  have hown : s.vm.findClass RX8 = some m.cls := findClass_of_methodNamed B.named
  have hlocks := B.notSynchronized
  subst hsz
  have hD := hD0.self (sz := s.heap.size)
  generalize hAe : va_A (wcX8_kind cI cJ cZ cG h h_kinds h_shelf h_table h_orders h_history h_draft h_wishes h_matches h_kinds_effects h_kinds_numbers h_kinds_bans v_today v_kinds_count v_kinds_effects v_kinds_numbers v_kinds_bans) s.heap.size = A at hD hT ⊢
  have hA : ∀ q : Nat, s.heap.size ≤ q → A q := fun q h => by rw [← hAe]; exact Or.inr h
  have hS : va_S A s.heap s.heap [] := va_S.rf
  have hP : va_P (dC, dI) vwCl (wcX8_kind cI cJ cZ cG h h_kinds h_shelf h_table h_orders h_history h_draft h_wishes h_matches h_kinds_effects h_kinds_numbers h_kinds_bans v_today v_kinds_count v_kinds_effects v_kinds_numbers v_kinds_bans) s.heap := hP
  have hl := lv_entry ([.ref h, .int p1, .int p2]) (n := 3) (Nat.le_of_ble_eq_true rfl)
  rw [lg_entry_eq]
  generalize (lg_sl ([.ref h, .int p1, .int p2]) ++ List.replicate (3 - (lg_sl ([.ref h, .int p1, .int p2])).length) Slot.unset).toArray = ls at hl ⊢
  have hl : lv_has ls 3 [(0, .ref h), (1, .int p1), (2, .int p2)] := hl
  generalize hH : s.heap = H at hP hS ⊢
  have hS : va_S A s.heap H [] := by rw [hH]; exact hS
  have C0 : wCX p s #[.ref h, .int p1, .int p2] m meth c cX8_kind 3 (some .int) RX8 wsX8_kind := ⟨hx, hb, hr, hml, hown, hts, hlocks⟩
  show W p l e rmX8_kind s m #[.ref h, .int p1, .int p2] below meth c H [] 0 0 (vx_MQ below (wXQi o (fun u : Int32 × (Nat → Int32) × (Nat → Int32) × (Nat → Int32) => (wcX8_kind cI cJ cZ cG h h_kinds h_shelf h_table h_orders h_history h_draft h_wishes h_matches h_kinds_effects h_kinds_numbers h_kinds_bans v_today (u.1) (u.2.1) (u.2.2.1) (u.2.2.2))) (dC, dI) A) (wXX o (fun u : Int32 × (Nat → Int32) × (Nat → Int32) × (Nat → Int32) => (wcX8_kind cI cJ cZ cG h h_kinds h_shelf h_table h_orders h_history h_draft h_wishes h_matches h_kinds_effects h_kinds_numbers h_kinds_bans v_today (u.1) (u.2.1) (u.2.2.1) (u.2.2.2))) (dC, dI) A) #[.ref h, .int p1, .int p2] s 1 6 A) (F0 m 0 ls [])
  unfold fX8_kind at hf
  refine lv_iload_n hx hb dX8_kind_0 rfl (lv_at hl 1 rfl) ?_
  refine lv_if_lt (tgt := 9) hx hb dX8_kind_1 (by decide) (fun c_1 => ?_) (fun c_1 => ?_)
  · have hf := it_t hf c_1
    have hf : fX8_kind_b9 v_kinds_count v_kinds_effects v_kinds_numbers v_kinds_bans = some o := hf
    exact kX8_kind_9 C0 hA hK hnot hlt hT v_kinds_count v_kinds_effects v_kinds_numbers v_kinds_bans _ _ _ hf hP hD hS (lv_sub hl [] rfl)
  · have hf := it_f hf c_1
    refine lv_iload_n hx hb dX8_kind_4 rfl (lv_at hl 1 rfl) ?_
    refine lv_iconst (v := 5) hx hb dX8_kind_5 (by decide) ?_
    refine lv_icmp_le (tgt := 19) hx hb dX8_kind_6 (by decide) (fun c_2 => ?_) (fun c_2 => ?_)
    · have hf := it_t hf c_2
      refine lv_iload_n hx hb dX8_kind_19 rfl (lv_at hl 2 rfl) ?_
      refine lv_iconst (v := 1) hx hb dX8_kind_20 (by decide) ?_
      refine lv_icmp_lt (tgt := 30) hx hb dX8_kind_21 (by decide) (fun c_3 => ?_) (fun c_3 => ?_)
      · have hf := it_t hf c_3
        have hf : fX8_kind_b30 v_kinds_count v_kinds_effects v_kinds_numbers v_kinds_bans = some o := hf
        exact kX8_kind_30 C0 hA hK hnot hlt hT v_kinds_count v_kinds_effects v_kinds_numbers v_kinds_bans _ _ _ hf hP hD hS (lv_sub hl [] rfl)
      · have hf := it_f hf c_3
        refine lv_iload_n hx hb dX8_kind_24 rfl (lv_at hl 2 rfl) ?_
        refine lv_bipush (v := 9) hx hb dX8_kind_25 (by decide) ?_
        refine lv_icmp_le (tgt := 40) hx hb dX8_kind_27 (by decide) (fun c_4 => ?_) (fun c_4 => ?_)
        · have hf := it_t hf c_4
          refine lv_aload_n hx hb dX8_kind_40 rfl (lv_at hl 0 rfl) ?_
          refine va_get (D := (dC, dI)) (ci := 8) (v := .ref h_kinds) (C := RX8) (T := TX8) (N := 9) hx hb hts iX8_kind_X8 hown hK hP 0 rfl rfl 0 (by decide) (hts _ mX8_kind_0) (fun _ h9 => h9) rfl dX8_kind_41 ?_
          refine va_get (D := (dC, dI)) (ci := 2) (v := .int v_kinds_count) (C := RX2) (T := TX2) (N := 4) hx hb hts iX8_kind_X2 hown hK hP 1 rfl rfl 3 (by decide) (hts _ mX8_kind_1) (fun _ h9 => h9) rfl dX8_kind_44 ?_
          refine lv_bipush (v := 20) hx hb dX8_kind_47 (by decide) ?_
          refine lv_icmp_lt (tgt := 62) hx hb dX8_kind_49 (by decide) (fun c_5 => ?_) (fun c_5 => ?_)
          · have hf := it_t hf c_5
            refine lv_aload_n hx hb dX8_kind_62 rfl (lv_at hl 0 rfl) ?_
            refine va_get (D := (dC, dI)) (ci := 8) (v := .ref h_kinds) (C := RX8) (T := TX8) (N := 9) hx hb hts iX8_kind_X8 hown hK hP 0 rfl rfl 0 (by decide) (hts _ mX8_kind_0) (fun _ h9 => h9) rfl dX8_kind_63 ?_
            refine lv_iload_n hx hb dX8_kind_66 rfl (lv_at hl 1 rfl) ?_
            refine lv_iload_n hx hb dX8_kind_67 rfl (lv_at hl 2 rfl) ?_
            obtain ⟨⟨r_6, w_7, w_8, w_9, w_10⟩, hc_11, hf⟩ := ob_s hf
            refine w_callVi (As := [.int p1, .int p2]) (rest := []) (wr := List.filterMap (fun i : Nat => (wcX8_kind cI cJ cZ cG h h_kinds h_shelf h_table h_orders h_history h_draft h_wishes h_matches h_kinds_effects h_kinds_numbers h_kinds_bans v_today v_kinds_count v_kinds_effects v_kinds_numbers v_kinds_bans)[i]?) [0]) (ws1 := (wcX8_kind cI cJ cZ cG h h_kinds h_shelf h_table h_orders h_history h_draft h_wishes h_matches h_kinds_effects h_kinds_numbers h_kinds_bans v_today w_7 w_8 w_9 w_10)) ⟨hx, hb, hml, hown, hts⟩ (oX2_add l dC dI cI cJ cZ cG h_kinds h_kinds_effects h_kinds_numbers h_kinds_bans v_kinds_count v_kinds_effects v_kinds_numbers v_kinds_bans H.size p1 p2 r_6 w_7 w_8 w_9 w_10 hc_11) (cwV 2 hts gX8_kind_X2_add rfl rfl rfl (by decide +kernel) ⟨Nat.le_of_ble_eq_true rfl, Nat.le_of_ble_eq_true rfl⟩) hK 0 2 rfl rfl rfl hP hD hS hA [1, 2, 3, 4] [0] [0, 1, 2, 3, 4] rfl rfl rfl rfl (by decide) rfl rfl rfl hl.1 rfl (Nat.le_of_ble_eq_true rfl) dX8_kind_68 ⟨Nat.le_of_ble_eq_true rfl, Nat.le_of_ble_eq_true rfl⟩ (fun H locs hP hD hS => ?_)
            have hf : some (Sum.inl (r_6, (w_7, w_8, w_9, w_10))) = some o := hf
            cases hf
            exact w_xiret (u0 := (w_7, w_8, w_9, w_10)) hx hb hr hlocks hP hD hS (Nat.le_of_ble_eq_true rfl) (Nat.le_of_ble_eq_true rfl) dX8_kind_71
          · have hf := it_f hf c_5
            have hf : some (Sum.inr ("java/lang/IllegalStateException", (v_kinds_count, v_kinds_effects, v_kinds_numbers, v_kinds_bans))) = some o := hf
            cases hf
            exact w_throwS (RT := Int32) (u0 := (v_kinds_count, v_kinds_effects, v_kinds_numbers, v_kinds_bans)) (cls := "java/lang/IllegalStateException") (text := "there are 20 kinds") (names := ["java/lang/RuntimeException", "java/lang/Exception"]) (ik := 78) (is := 80) (ic := 82) (own := "") hx hb hlt hown (by decide +kernel) (by decide +kernel) (hts _ mX8_kind_2) (hts _ mX8_kind_3) hT (by decide +kernel) (fun w hw => hts w (xwX8_kind_ISE w hw)) (by decide) xb_ISE xg_ISE (hl.1.trans hml.symm) hnot hlocks dX8_kind_52 dX8_kind_55 dX8_kind_56 dX8_kind_58 dX8_kind_61 (by decide) (by decide) (by decide) (by decide) (by decide) (by decide) hP hD hS
        · have hf := it_f hf c_4
          have hf : fX8_kind_b30 v_kinds_count v_kinds_effects v_kinds_numbers v_kinds_bans = some o := hf
          exact kX8_kind_30 C0 hA hK hnot hlt hT v_kinds_count v_kinds_effects v_kinds_numbers v_kinds_bans _ _ _ hf hP hD hS (lv_sub hl [] rfl)
    · have hf := it_f hf c_2
      have hf : fX8_kind_b9 v_kinds_count v_kinds_effects v_kinds_numbers v_kinds_bans = some o := hf
      exact kX8_kind_9 C0 hA hK hnot hlt hT v_kinds_count v_kinds_effects v_kinds_numbers v_kinds_bans _ _ _ hf hP hD hS (lv_sub hl [] rfl)
abbrev wcX8_ban (cI cJ cZ cG : ClassId) (h h_kinds h_shelf h_table h_orders h_history h_draft h_wishes h_matches h_kinds_effects h_kinds_numbers h_kinds_bans h_shelf_cards h_shelf_decks h_shelf_deckSizes : Nat) (r_h_shelf_decks : Nat → Nat) (v_today : Int32) (v_kinds_count : Int32) (v_kinds_bans : Nat → Int32) (v_shelf_decks : Nat → Nat → Int32) : va_W := [(h, .inr (8, [.ref h_kinds, .ref h_shelf, .ref h_table, .ref h_orders, .ref h_history, .ref h_draft, .ref h_wishes, .ref h_matches, .int v_today])), (h_kinds, .inr (2, [.ref h_kinds_effects, .ref h_kinds_numbers, .ref h_kinds_bans, .int v_kinds_count])), (h_kinds_bans, .inl (cI, 20, .inl v_kinds_bans)), (h_shelf, .inr (5, [.ref h_shelf_cards, .ref h_shelf_decks, .ref h_shelf_deckSizes])), gOut h_shelf_decks r_h_shelf_decks cG 6] ++ gRows r_h_shelf_decks cI 20 v_shelf_decks
theorem iX8_ban_X8 : ∀ w ∈ wsX80, w ∈ wsX8_ban := by decide +kernel
theorem iX8_ban_X2 : ∀ w ∈ wsX20, w ∈ wsX8_ban := by decide +kernel
theorem mX8_ban_0 : (Cond.fieldLink RX8 10 "Sleevehall" "kinds" "LSleevehall$Kinds;") ∈ wsX8_ban := by decide +kernel
theorem mX8_ban_1 : (Cond.fieldLink RX8 94 "Sleevehall$Kinds" "bans" "[I") ∈ wsX8_ban := by decide +kernel
theorem mX8_ban_2 : (Cond.fieldLink RX8 19 "Sleevehall" "shelf" "LSleevehall$Shelf;") ∈ wsX8_ban := by decide +kernel
abbrev rmX8_ban : Room := { frames := 7, cells := 2, slots := 12, locals := 113 }
set_option maxHeartbeats 4000000 in
set_option maxRecDepth 100000 in
theorem oX8_ban (l : Launch) (hlt : l.stackTraces = false) (dC : Nat → ClassId) (dI : Nat → Nat → Nat) (cI cJ cZ cG : ClassId) (h h_kinds h_shelf h_table h_orders h_history h_draft h_wishes h_matches h_kinds_effects h_kinds_numbers h_kinds_bans h_shelf_cards h_shelf_decks h_shelf_deckSizes : Nat) (r_h_shelf_decks : Nat → Nat) (v_today : Int32) (v_kinds_count : Int32) (v_kinds_bans : Nat → Int32) (v_shelf_decks : Nat → Nat → Int32) (sz : Nat) (p1 : Int32) (p2 : Int32) (o : (Int32 × (Nat → Int32)) ⊕ (String × (Nat → Int32))) (hf : fX8_ban v_today v_kinds_count v_kinds_bans v_shelf_decks p1 p2 = some o) : vx_Met l yX8_ban wsX8_ban rmX8_ban (wXPc [.ref h, .int p1, .int p2] (dC, dI) (tysW cI cJ cZ cG) sz (wcX8_ban cI cJ cZ cG h h_kinds h_shelf h_table h_orders h_history h_draft h_wishes h_matches h_kinds_effects h_kinds_numbers h_kinds_bans h_shelf_cards h_shelf_decks h_shelf_deckSizes r_h_shelf_decks v_today v_kinds_count v_kinds_bans v_shelf_decks)) (wXQi o (fun u : (Nat → Int32) => (wcX8_ban cI cJ cZ cG h h_kinds h_shelf h_table h_orders h_history h_draft h_wishes h_matches h_kinds_effects h_kinds_numbers h_kinds_bans h_shelf_cards h_shelf_decks h_shelf_deckSizes r_h_shelf_decks v_today v_kinds_count u v_shelf_decks)) (dC, dI) (va_A (wcX8_ban cI cJ cZ cG h h_kinds h_shelf h_table h_orders h_history h_draft h_wishes h_matches h_kinds_effects h_kinds_numbers h_kinds_bans h_shelf_cards h_shelf_decks h_shelf_deckSizes r_h_shelf_decks v_today v_kinds_count v_kinds_bans v_shelf_decks) sz)) (wXX o (fun u : (Nat → Int32) => (wcX8_ban cI cJ cZ cG h h_kinds h_shelf h_table h_orders h_history h_draft h_wishes h_matches h_kinds_effects h_kinds_numbers h_kinds_bans h_shelf_cards h_shelf_decks h_shelf_deckSizes r_h_shelf_decks v_today v_kinds_count u v_shelf_decks)) (dC, dI) (va_A (wcX8_ban cI cJ cZ cG h h_kinds h_shelf h_table h_orders h_history h_draft h_wishes h_matches h_kinds_effects h_kinds_numbers h_kinds_bans h_shelf_cards h_shelf_decks h_shelf_deckSizes r_h_shelf_decks v_today v_kinds_count v_kinds_bans v_shelf_decks) sz)) 2 12 (va_A (wcX8_ban cI cJ cZ cG h h_kinds h_shelf h_table h_orders h_history h_draft h_wishes h_matches h_kinds_effects h_kinds_numbers h_kinds_bans h_shelf_cards h_shelf_decks h_shelf_deckSizes r_h_shelf_decks v_today v_kinds_count v_kinds_bans v_shelf_decks) sz) := by
  refine vx_ofW (cc := cX8_ban) (maxL := 3) (ret := (some .int)) (by decide) rfl ?_
  intro p e s m args below meth c s₁ B hml hnot hv
  obtain ⟨rfl, hsz, hP, hK, hD0, hT⟩ := hv
  have hx := B.exec
  have hb := B.bytes
  have hr := B.returns
  have hts := atoms_spec (ws := wsX8_ban) B.pre
  have hown : s.vm.findClass RX8 = some m.cls := findClass_of_methodNamed B.named
  have hlocks := B.notSynchronized
  subst hsz
  have hD := hD0.self (sz := s.heap.size)
  generalize hAe : va_A (wcX8_ban cI cJ cZ cG h h_kinds h_shelf h_table h_orders h_history h_draft h_wishes h_matches h_kinds_effects h_kinds_numbers h_kinds_bans h_shelf_cards h_shelf_decks h_shelf_deckSizes r_h_shelf_decks v_today v_kinds_count v_kinds_bans v_shelf_decks) s.heap.size = A at hD hT ⊢
  have hA : ∀ q : Nat, s.heap.size ≤ q → A q := fun q h => by rw [← hAe]; exact Or.inr h
  have hS : va_S A s.heap s.heap [] := va_S.rf
  have hP : va_P (dC, dI) vwCl (wcX8_ban cI cJ cZ cG h h_kinds h_shelf h_table h_orders h_history h_draft h_wishes h_matches h_kinds_effects h_kinds_numbers h_kinds_bans h_shelf_cards h_shelf_decks h_shelf_deckSizes r_h_shelf_decks v_today v_kinds_count v_kinds_bans v_shelf_decks) s.heap := hP
  have hl := lv_entry ([.ref h, .int p1, .int p2]) (n := 3) (Nat.le_of_ble_eq_true rfl)
  rw [lg_entry_eq]
  generalize (lg_sl ([.ref h, .int p1, .int p2]) ++ List.replicate (3 - (lg_sl ([.ref h, .int p1, .int p2])).length) Slot.unset).toArray = ls at hl ⊢
  have hl : lv_has ls 3 [(0, .ref h), (1, .int p1), (2, .int p2)] := hl
  generalize hH : s.heap = H at hP hS ⊢
  have hS : va_S A s.heap H [] := by rw [hH]; exact hS
  have C0 : wCX p s #[.ref h, .int p1, .int p2] m meth c cX8_ban 3 (some .int) RX8 wsX8_ban := ⟨hx, hb, hr, hml, hown, hts, hlocks⟩
  show W p l e rmX8_ban s m #[.ref h, .int p1, .int p2] below meth c H [] 0 0 (vx_MQ below (wXQi o (fun u : (Nat → Int32) => (wcX8_ban cI cJ cZ cG h h_kinds h_shelf h_table h_orders h_history h_draft h_wishes h_matches h_kinds_effects h_kinds_numbers h_kinds_bans h_shelf_cards h_shelf_decks h_shelf_deckSizes r_h_shelf_decks v_today v_kinds_count u v_shelf_decks)) (dC, dI) A) (wXX o (fun u : (Nat → Int32) => (wcX8_ban cI cJ cZ cG h h_kinds h_shelf h_table h_orders h_history h_draft h_wishes h_matches h_kinds_effects h_kinds_numbers h_kinds_bans h_shelf_cards h_shelf_decks h_shelf_deckSizes r_h_shelf_decks v_today v_kinds_count u v_shelf_decks)) (dC, dI) A) #[.ref h, .int p1, .int p2] s 2 12 A) (F0 m 0 ls [])
  unfold fX8_ban at hf
  refine lv_aload_n hx hb dX8_ban_0 rfl (lv_at hl 0 rfl) ?_
  refine lv_iload_n hx hb dX8_ban_1 rfl (lv_at hl 1 rfl) ?_
  obtain ⟨o_1, hc_2, hf⟩ := ob_s hf
  rcases xo_cs o_1 with ⟨E_3, rfl⟩ | rfl
  · have hf : some (Sum.inr (E_3, v_kinds_bans)) = some o := hf
    cases hf
    refine w_callXVv_thr (As := [.int p1]) (rest := []) (wr := List.filterMap (fun i : Nat => (wcX8_ban cI cJ cZ cG h h_kinds h_shelf h_table h_orders h_history h_draft h_wishes h_matches h_kinds_effects h_kinds_numbers h_kinds_bans h_shelf_cards h_shelf_decks h_shelf_deckSizes r_h_shelf_decks v_today v_kinds_count v_kinds_bans v_shelf_decks)[i]?) [2, 3, 4, 5, 6, 7, 8, 9, 10]) (ws1 := (wcX8_ban cI cJ cZ cG h h_kinds h_shelf h_table h_orders h_history h_draft h_wishes h_matches h_kinds_effects h_kinds_numbers h_kinds_bans h_shelf_cards h_shelf_decks h_shelf_deckSizes r_h_shelf_decks v_today v_kinds_count v_kinds_bans v_shelf_decks)) ⟨hx, hb, hml, hown, hts⟩ (oX8_needKind l hlt dC dI cI cJ cZ cG h h_kinds h_shelf h_table h_orders h_history h_draft h_wishes h_matches h_kinds_effects h_kinds_numbers h_kinds_bans v_today v_kinds_count H.size p1 (Sum.inr (E_3, ())) hc_2) (cwV 1 hts gX8_ban_X8_needKind rfl rfl rfl (by decide +kernel) ⟨Nat.le_of_ble_eq_true rfl, Nat.le_of_ble_eq_true rfl⟩) hK 0 8 rfl rfl rfl hP hD hS hA hT [0, 1] [2, 3, 4, 5, 6, 7, 8, 9, 10] [9, 10, 0, 1, 2, 3, 4, 5, 6, 7, 8] rfl rfl rfl rfl (by decide) rfl rfl rfl hl.1 rfl (Nat.le_of_ble_eq_true rfl) dX8_ban_2 ⟨Nat.le_of_ble_eq_true rfl, Nat.le_of_ble_eq_true rfl⟩ (fun ce q9 H locs hP hD hS h7 h8 h9 => ?_)
    exact w_xout (u0 := v_kinds_bans) hnot hlocks h7 h8 h9 hP hD hS (Nat.le_of_ble_eq_true rfl) (Nat.le_of_ble_eq_true rfl)
  refine w_callXVv_ok (As := [.int p1]) (rest := []) (wr := List.filterMap (fun i : Nat => (wcX8_ban cI cJ cZ cG h h_kinds h_shelf h_table h_orders h_history h_draft h_wishes h_matches h_kinds_effects h_kinds_numbers h_kinds_bans h_shelf_cards h_shelf_decks h_shelf_deckSizes r_h_shelf_decks v_today v_kinds_count v_kinds_bans v_shelf_decks)[i]?) [2, 3, 4, 5, 6, 7, 8, 9, 10]) (ws1 := (wcX8_ban cI cJ cZ cG h h_kinds h_shelf h_table h_orders h_history h_draft h_wishes h_matches h_kinds_effects h_kinds_numbers h_kinds_bans h_shelf_cards h_shelf_decks h_shelf_deckSizes r_h_shelf_decks v_today v_kinds_count v_kinds_bans v_shelf_decks)) ⟨hx, hb, hml, hown, hts⟩ (oX8_needKind l hlt dC dI cI cJ cZ cG h h_kinds h_shelf h_table h_orders h_history h_draft h_wishes h_matches h_kinds_effects h_kinds_numbers h_kinds_bans v_today v_kinds_count H.size p1 (Sum.inl ((), ())) hc_2) (cwV 1 hts gX8_ban_X8_needKind rfl rfl rfl (by decide +kernel) ⟨Nat.le_of_ble_eq_true rfl, Nat.le_of_ble_eq_true rfl⟩) hK 0 8 rfl rfl rfl hP hD hS hA hT [0, 1] [2, 3, 4, 5, 6, 7, 8, 9, 10] [9, 10, 0, 1, 2, 3, 4, 5, 6, 7, 8] rfl rfl rfl rfl (by decide) rfl rfl rfl hl.1 rfl (Nat.le_of_ble_eq_true rfl) dX8_ban_2 ⟨Nat.le_of_ble_eq_true rfl, Nat.le_of_ble_eq_true rfl⟩ (fun H locs hP hD hS => ?_)
  refine lv_aload_n hx hb dX8_ban_5 rfl (lv_at hl 0 rfl) ?_
  refine lv_iload_n hx hb dX8_ban_6 rfl (lv_at hl 2 rfl) ?_
  obtain ⟨o_4, hc_5, hf⟩ := ob_s hf
  rcases xo_cs o_4 with ⟨E_6, rfl⟩ | rfl
  · have hf : some (Sum.inr (E_6, v_kinds_bans)) = some o := hf
    cases hf
    refine w_callXVv_thr (As := [.int p2]) (rest := []) (wr := List.filterMap (fun i : Nat => (wcX8_ban cI cJ cZ cG h h_kinds h_shelf h_table h_orders h_history h_draft h_wishes h_matches h_kinds_effects h_kinds_numbers h_kinds_bans h_shelf_cards h_shelf_decks h_shelf_deckSizes r_h_shelf_decks v_today v_kinds_count v_kinds_bans v_shelf_decks)[i]?) [1, 2, 3, 4, 5, 6, 7, 8, 9, 10]) (ws1 := (wcX8_ban cI cJ cZ cG h h_kinds h_shelf h_table h_orders h_history h_draft h_wishes h_matches h_kinds_effects h_kinds_numbers h_kinds_bans h_shelf_cards h_shelf_decks h_shelf_deckSizes r_h_shelf_decks v_today v_kinds_count v_kinds_bans v_shelf_decks)) ⟨hx, hb, hml, hown, hts⟩ (oX8_needDay l hlt dC dI cI cJ cZ cG h h_kinds h_shelf h_table h_orders h_history h_draft h_wishes h_matches v_today H.size p2 (Sum.inr (E_6, ())) hc_5) (cwV 1 hts gX8_ban_X8_needDay rfl rfl rfl (by decide +kernel) ⟨Nat.le_of_ble_eq_true rfl, Nat.le_of_ble_eq_true rfl⟩) hK 0 8 rfl rfl rfl hP hD hS hA hT [0] [1, 2, 3, 4, 5, 6, 7, 8, 9, 10] [10, 0, 1, 2, 3, 4, 5, 6, 7, 8, 9] rfl rfl rfl rfl (by decide) rfl rfl rfl hl.1 rfl (Nat.le_of_ble_eq_true rfl) dX8_ban_7 ⟨Nat.le_of_ble_eq_true rfl, Nat.le_of_ble_eq_true rfl⟩ (fun ce q9 H locs hP hD hS h7 h8 h9 => ?_)
    exact w_xout (u0 := v_kinds_bans) hnot hlocks h7 h8 h9 hP hD hS (Nat.le_of_ble_eq_true rfl) (Nat.le_of_ble_eq_true rfl)
  refine w_callXVv_ok (As := [.int p2]) (rest := []) (wr := List.filterMap (fun i : Nat => (wcX8_ban cI cJ cZ cG h h_kinds h_shelf h_table h_orders h_history h_draft h_wishes h_matches h_kinds_effects h_kinds_numbers h_kinds_bans h_shelf_cards h_shelf_decks h_shelf_deckSizes r_h_shelf_decks v_today v_kinds_count v_kinds_bans v_shelf_decks)[i]?) [1, 2, 3, 4, 5, 6, 7, 8, 9, 10]) (ws1 := (wcX8_ban cI cJ cZ cG h h_kinds h_shelf h_table h_orders h_history h_draft h_wishes h_matches h_kinds_effects h_kinds_numbers h_kinds_bans h_shelf_cards h_shelf_decks h_shelf_deckSizes r_h_shelf_decks v_today v_kinds_count v_kinds_bans v_shelf_decks)) ⟨hx, hb, hml, hown, hts⟩ (oX8_needDay l hlt dC dI cI cJ cZ cG h h_kinds h_shelf h_table h_orders h_history h_draft h_wishes h_matches v_today H.size p2 (Sum.inl ((), ())) hc_5) (cwV 1 hts gX8_ban_X8_needDay rfl rfl rfl (by decide +kernel) ⟨Nat.le_of_ble_eq_true rfl, Nat.le_of_ble_eq_true rfl⟩) hK 0 8 rfl rfl rfl hP hD hS hA hT [0] [1, 2, 3, 4, 5, 6, 7, 8, 9, 10] [10, 0, 1, 2, 3, 4, 5, 6, 7, 8, 9] rfl rfl rfl rfl (by decide) rfl rfl rfl hl.1 rfl (Nat.le_of_ble_eq_true rfl) dX8_ban_7 ⟨Nat.le_of_ble_eq_true rfl, Nat.le_of_ble_eq_true rfl⟩ (fun H locs hP hD hS => ?_)
  refine lv_aload_n hx hb dX8_ban_10 rfl (lv_at hl 0 rfl) ?_
  refine va_get (D := (dC, dI)) (ci := 8) (v := .ref h_kinds) (C := RX8) (T := TX8) (N := 9) hx hb hts iX8_ban_X8 hown hK hP 0 rfl rfl 0 (by decide) (hts _ mX8_ban_0) (fun _ h9 => h9) rfl dX8_ban_11 ?_
  refine va_get (D := (dC, dI)) (ci := 2) (v := .ref h_kinds_bans) (C := RX2) (T := TX2) (N := 4) hx hb hts iX8_ban_X2 hown hK hP 1 rfl rfl 2 (by decide) (hts _ mX8_ban_1) (fun _ h9 => h9) rfl dX8_ban_14 ?_
  refine lv_iload_n hx hb dX8_ban_17 rfl (lv_at hl 1 rfl) ?_
  refine lv_iload_n hx hb dX8_ban_18 rfl (lv_at hl 2 rfl) ?_
  obtain ⟨hg_7, hf⟩ := ck_s hf
  refine va_iast (D := (dC, dI)) hx hb hK hP hD hS 2 0 rfl rfl (g_vp hg_7) dX8_ban_19 (fun H locs hP hD hS => ?_)
  have hP : va_P (dC, dI) vwCl (wcX8_ban cI cJ cZ cG h h_kinds h_shelf h_table h_orders h_history h_draft h_wishes h_matches h_kinds_effects h_kinds_numbers h_kinds_bans h_shelf_cards h_shelf_decks h_shelf_deckSizes r_h_shelf_decks v_today v_kinds_count (upd v_kinds_bans p1.toNatClampNeg p2) v_shelf_decks) H := hP
  have hD : va_D A (wcX8_ban cI cJ cZ cG h h_kinds h_shelf h_table h_orders h_history h_draft h_wishes h_matches h_kinds_effects h_kinds_numbers h_kinds_bans h_shelf_cards h_shelf_decks h_shelf_deckSizes r_h_shelf_decks v_today v_kinds_count (upd v_kinds_bans p1.toNatClampNeg p2) v_shelf_decks) := hD
  refine lv_aload_n hx hb dX8_ban_20 rfl (lv_at hl 0 rfl) ?_
  refine va_get (D := (dC, dI)) (ci := 8) (v := .ref h_shelf) (C := RX8) (T := TX8) (N := 9) hx hb hts iX8_ban_X8 hown hK hP 0 rfl rfl 1 (by decide) (hts _ mX8_ban_2) (fun _ h9 => h9) rfl dX8_ban_21 ?_
  refine lv_iload_n hx hb dX8_ban_24 rfl (lv_at hl 1 rfl) ?_
  obtain ⟨r_8, hc_9, hf⟩ := ob_s hf
  refine w_callVi (As := [.int p1]) (rest := []) (wr := List.filterMap (fun i : Nat => (wcX8_ban cI cJ cZ cG h h_kinds h_shelf h_table h_orders h_history h_draft h_wishes h_matches h_kinds_effects h_kinds_numbers h_kinds_bans h_shelf_cards h_shelf_decks h_shelf_deckSizes r_h_shelf_decks v_today v_kinds_count (upd v_kinds_bans p1.toNatClampNeg p2) v_shelf_decks)[i]?) [0, 1, 2]) (ws1 := (wcX8_ban cI cJ cZ cG h h_kinds h_shelf h_table h_orders h_history h_draft h_wishes h_matches h_kinds_effects h_kinds_numbers h_kinds_bans h_shelf_cards h_shelf_decks h_shelf_deckSizes r_h_shelf_decks v_today v_kinds_count (upd v_kinds_bans p1.toNatClampNeg p2) v_shelf_decks)) ⟨hx, hb, hml, hown, hts⟩ (oX5_countDecksWith l dC dI cI cJ cZ cG h_shelf h_shelf_cards h_shelf_decks h_shelf_deckSizes r_h_shelf_decks v_shelf_decks H.size p1 r_8 hc_9) (cwV 1 hts gX8_ban_X5_countDecksWith rfl rfl rfl (by decide +kernel) ⟨Nat.le_of_ble_eq_true rfl, Nat.le_of_ble_eq_true rfl⟩) hK 0 5 rfl rfl rfl hP hD hS hA [3, 4, 5, 6, 7, 8, 9, 10] [0, 1, 2] [0, 1, 2, 3, 4, 5, 6, 7, 8, 9, 10] rfl rfl rfl rfl (by decide) rfl rfl rfl hl.1 rfl (Nat.le_of_ble_eq_true rfl) dX8_ban_25 ⟨Nat.le_of_ble_eq_true rfl, Nat.le_of_ble_eq_true rfl⟩ (fun H locs hP hD hS => ?_)
  have hf : some (Sum.inl (r_8, (upd v_kinds_bans p1.toNatClampNeg p2))) = some o := hf
  cases hf
  exact w_xiret (u0 := (upd v_kinds_bans p1.toNatClampNeg p2)) hx hb hr hlocks hP hD hS (Nat.le_of_ble_eq_true rfl) (Nat.le_of_ble_eq_true rfl) dX8_ban_28
abbrev wcX8_get (cI cJ cZ cG : ClassId) (h h_kinds h_shelf h_table h_orders h_history h_draft h_wishes h_matches h_kinds_effects h_kinds_numbers h_kinds_bans h_shelf_cards h_shelf_decks h_shelf_deckSizes : Nat) (r_h_shelf_cards : Nat → Nat) (v_today : Int32) (v_kinds_count : Int32) (v_shelf_cards : Nat → Nat → Int32) : va_W := [(h, .inr (8, [.ref h_kinds, .ref h_shelf, .ref h_table, .ref h_orders, .ref h_history, .ref h_draft, .ref h_wishes, .ref h_matches, .int v_today])), (h_kinds, .inr (2, [.ref h_kinds_effects, .ref h_kinds_numbers, .ref h_kinds_bans, .int v_kinds_count])), (h_shelf, .inr (5, [.ref h_shelf_cards, .ref h_shelf_decks, .ref h_shelf_deckSizes])), gOut h_shelf_cards r_h_shelf_cards cG 6] ++ gRows r_h_shelf_cards cI 20 v_shelf_cards
theorem iX8_get_X8 : ∀ w ∈ wsX80, w ∈ wsX8_get := by decide +kernel
theorem iX8_get_X5 : ∀ w ∈ wsX50, w ∈ wsX8_get := by decide +kernel
theorem mX8_get_0 : (Cond.fieldLink RX8 19 "Sleevehall" "shelf" "LSleevehall$Shelf;") ∈ wsX8_get := by decide +kernel
theorem mX8_get_1 : (Cond.fieldLink RX8 107 "Sleevehall$Shelf" "cards" "[[I") ∈ wsX8_get := by decide +kernel
theorem mX8_get_2 : (Cond.classLink RX8 65 "java/lang/IllegalArgumentException") ∈ wsX8_get := by decide +kernel
theorem mX8_get_3 : (Cond.initialized "java/lang/IllegalArgumentException") ∈ wsX8_get := by decide +kernel
theorem xwX8_get_IAE : ∀ w ∈ (vx_atS RX8 69 "java/lang/IllegalArgumentException" ["java/lang/RuntimeException", "java/lang/Exception"]).filter goodWord, w ∈ wsX8_get := by decide +kernel
abbrev rmX8_get : Room := { frames := 7, cells := 3, slots := 18, locals := 113 }
set_option maxHeartbeats 4000000 in
set_option maxRecDepth 100000 in
theorem kX8_get_20 {p : Program} {l : Launch} {e : Env} {s : State} {m : MethodId} {args : Array Value} {below : List Frame} {meth : Method} {c : Code} {dC : Nat → ClassId} {dI : Nat → Nat → Nat} {A : Nat → Prop} {cI cJ cZ cG : ClassId} {h h_kinds h_shelf h_table h_orders h_history h_draft h_wishes h_matches h_kinds_effects h_kinds_numbers h_kinds_bans h_shelf_cards h_shelf_decks h_shelf_deckSizes : Nat} {r_h_shelf_cards : Nat → Nat} {v_today : Int32} {v_kinds_count : Int32} {o : (Int32 × (Nat → Nat → Int32)) ⊕ (String × (Nat → Nat → Int32))} (C0 : wCX p s args m meth c cX8_get 4 (some .int) RX8 wsX8_get) (hA : ∀ q, s.heap.size ≤ q → A q) (hK : va_K (dC, dI) vwCl (tysW cI cJ cZ cG) s) (hnot : ∀ x ∈ c.exceptionTable.toList, False) (hlt : l.stackTraces = false) (hT : wThr A s) : ∀ (v_shelf_cards : Nat → Nat → Int32) (H : Heap) (locs : List Loc) (ls : Array Slot), fX8_get_b20 v_kinds_count v_shelf_cards = some o → va_P (dC, dI) vwCl (wcX8_get cI cJ cZ cG h h_kinds h_shelf h_table h_orders h_history h_draft h_wishes h_matches h_kinds_effects h_kinds_numbers h_kinds_bans h_shelf_cards h_shelf_decks h_shelf_deckSizes r_h_shelf_cards v_today v_kinds_count v_shelf_cards) H → va_D A (wcX8_get cI cJ cZ cG h h_kinds h_shelf h_table h_orders h_history h_draft h_wishes h_matches h_kinds_effects h_kinds_numbers h_kinds_bans h_shelf_cards h_shelf_decks h_shelf_deckSizes r_h_shelf_cards v_today v_kinds_count v_shelf_cards) → va_S A s.heap H locs → lv_has ls 4 [] → W p l e rmX8_get s m args below meth c H locs 2 12 (vx_MQ below (wXQi o (fun u : (Nat → Nat → Int32) => (wcX8_get cI cJ cZ cG h h_kinds h_shelf h_table h_orders h_history h_draft h_wishes h_matches h_kinds_effects h_kinds_numbers h_kinds_bans h_shelf_cards h_shelf_decks h_shelf_deckSizes r_h_shelf_cards v_today v_kinds_count u)) (dC, dI) A) (wXX o (fun u : (Nat → Nat → Int32) => (wcX8_get cI cJ cZ cG h h_kinds h_shelf h_table h_orders h_history h_draft h_wishes h_matches h_kinds_effects h_kinds_numbers h_kinds_bans h_shelf_cards h_shelf_decks h_shelf_deckSizes r_h_shelf_cards v_today v_kinds_count u)) (dC, dI) A) args s 3 18 A) (F0 m 20 ls []) := by
  obtain ⟨hx, hb, hr, hml, hown, hts, hlocks⟩ := id C0
  intro v_shelf_cards H locs ls hf hP hD hS hl
  unfold fX8_get_b20 at hf
  have hf : some (Sum.inr ("java/lang/IllegalArgumentException", v_shelf_cards)) = some o := hf
  cases hf
  exact w_throwS (RT := Int32) (u0 := v_shelf_cards) (cls := "java/lang/IllegalArgumentException") (text := "many is not 1 to 9") (names := ["java/lang/RuntimeException", "java/lang/Exception"]) (ik := 65) (is := 105) (ic := 69) (own := "") hx hb hlt hown (by decide +kernel) (by decide +kernel) (hts _ mX8_get_2) (hts _ mX8_get_3) hT (by decide +kernel) (fun w hw => hts w (xwX8_get_IAE w hw)) (by decide) xb_IAE xg_IAE (hl.1.trans hml.symm) hnot hlocks dX8_get_20 dX8_get_23 dX8_get_24 dX8_get_26 dX8_get_29 (by decide) (by decide) (by decide) (by decide) (by decide) (by decide) hP hD hS
set_option maxHeartbeats 4000000 in
set_option maxRecDepth 100000 in
theorem oX8_get (l : Launch) (hlt : l.stackTraces = false) (dC : Nat → ClassId) (dI : Nat → Nat → Nat) (cI cJ cZ cG : ClassId) (h h_kinds h_shelf h_table h_orders h_history h_draft h_wishes h_matches h_kinds_effects h_kinds_numbers h_kinds_bans h_shelf_cards h_shelf_decks h_shelf_deckSizes : Nat) (r_h_shelf_cards : Nat → Nat) (v_today : Int32) (v_kinds_count : Int32) (v_shelf_cards : Nat → Nat → Int32) (sz : Nat) (p1 : Int32) (p2 : Int32) (p3 : Int32) (o : (Int32 × (Nat → Nat → Int32)) ⊕ (String × (Nat → Nat → Int32))) (hf : fX8_get v_kinds_count v_shelf_cards p1 p2 p3 = some o) : vx_Met l yX8_get wsX8_get rmX8_get (wXPc [.ref h, .int p1, .int p2, .int p3] (dC, dI) (tysW cI cJ cZ cG) sz (wcX8_get cI cJ cZ cG h h_kinds h_shelf h_table h_orders h_history h_draft h_wishes h_matches h_kinds_effects h_kinds_numbers h_kinds_bans h_shelf_cards h_shelf_decks h_shelf_deckSizes r_h_shelf_cards v_today v_kinds_count v_shelf_cards)) (wXQi o (fun u : (Nat → Nat → Int32) => (wcX8_get cI cJ cZ cG h h_kinds h_shelf h_table h_orders h_history h_draft h_wishes h_matches h_kinds_effects h_kinds_numbers h_kinds_bans h_shelf_cards h_shelf_decks h_shelf_deckSizes r_h_shelf_cards v_today v_kinds_count u)) (dC, dI) (va_A (wcX8_get cI cJ cZ cG h h_kinds h_shelf h_table h_orders h_history h_draft h_wishes h_matches h_kinds_effects h_kinds_numbers h_kinds_bans h_shelf_cards h_shelf_decks h_shelf_deckSizes r_h_shelf_cards v_today v_kinds_count v_shelf_cards) sz)) (wXX o (fun u : (Nat → Nat → Int32) => (wcX8_get cI cJ cZ cG h h_kinds h_shelf h_table h_orders h_history h_draft h_wishes h_matches h_kinds_effects h_kinds_numbers h_kinds_bans h_shelf_cards h_shelf_decks h_shelf_deckSizes r_h_shelf_cards v_today v_kinds_count u)) (dC, dI) (va_A (wcX8_get cI cJ cZ cG h h_kinds h_shelf h_table h_orders h_history h_draft h_wishes h_matches h_kinds_effects h_kinds_numbers h_kinds_bans h_shelf_cards h_shelf_decks h_shelf_deckSizes r_h_shelf_cards v_today v_kinds_count v_shelf_cards) sz)) 3 18 (va_A (wcX8_get cI cJ cZ cG h h_kinds h_shelf h_table h_orders h_history h_draft h_wishes h_matches h_kinds_effects h_kinds_numbers h_kinds_bans h_shelf_cards h_shelf_decks h_shelf_deckSizes r_h_shelf_cards v_today v_kinds_count v_shelf_cards) sz) := by
  refine vx_ofW (cc := cX8_get) (maxL := 4) (ret := (some .int)) (by decide) rfl ?_
  intro p e s m args below meth c s₁ B hml hnot hv
  obtain ⟨rfl, hsz, hP, hK, hD0, hT⟩ := hv
  have hx := B.exec
  have hb := B.bytes
  have hr := B.returns
  have hts := atoms_spec (ws := wsX8_get) B.pre
  have hown : s.vm.findClass RX8 = some m.cls := findClass_of_methodNamed B.named
  have hlocks := B.notSynchronized
  subst hsz
  have hD := hD0.self (sz := s.heap.size)
  generalize hAe : va_A (wcX8_get cI cJ cZ cG h h_kinds h_shelf h_table h_orders h_history h_draft h_wishes h_matches h_kinds_effects h_kinds_numbers h_kinds_bans h_shelf_cards h_shelf_decks h_shelf_deckSizes r_h_shelf_cards v_today v_kinds_count v_shelf_cards) s.heap.size = A at hD hT ⊢
  have hA : ∀ q : Nat, s.heap.size ≤ q → A q := fun q h => by rw [← hAe]; exact Or.inr h
  have hS : va_S A s.heap s.heap [] := va_S.rf
  have hP : va_P (dC, dI) vwCl (wcX8_get cI cJ cZ cG h h_kinds h_shelf h_table h_orders h_history h_draft h_wishes h_matches h_kinds_effects h_kinds_numbers h_kinds_bans h_shelf_cards h_shelf_decks h_shelf_deckSizes r_h_shelf_cards v_today v_kinds_count v_shelf_cards) s.heap := hP
  have hl := lv_entry ([.ref h, .int p1, .int p2, .int p3]) (n := 4) (Nat.le_of_ble_eq_true rfl)
  rw [lg_entry_eq]
  generalize (lg_sl ([.ref h, .int p1, .int p2, .int p3]) ++ List.replicate (4 - (lg_sl ([.ref h, .int p1, .int p2, .int p3])).length) Slot.unset).toArray = ls at hl ⊢
  have hl : lv_has ls 4 [(0, .ref h), (1, .int p1), (2, .int p2), (3, .int p3)] := hl
  generalize hH : s.heap = H at hP hS ⊢
  have hS : va_S A s.heap H [] := by rw [hH]; exact hS
  have C0 : wCX p s #[.ref h, .int p1, .int p2, .int p3] m meth c cX8_get 4 (some .int) RX8 wsX8_get := ⟨hx, hb, hr, hml, hown, hts, hlocks⟩
  show W p l e rmX8_get s m #[.ref h, .int p1, .int p2, .int p3] below meth c H [] 0 0 (vx_MQ below (wXQi o (fun u : (Nat → Nat → Int32) => (wcX8_get cI cJ cZ cG h h_kinds h_shelf h_table h_orders h_history h_draft h_wishes h_matches h_kinds_effects h_kinds_numbers h_kinds_bans h_shelf_cards h_shelf_decks h_shelf_deckSizes r_h_shelf_cards v_today v_kinds_count u)) (dC, dI) A) (wXX o (fun u : (Nat → Nat → Int32) => (wcX8_get cI cJ cZ cG h h_kinds h_shelf h_table h_orders h_history h_draft h_wishes h_matches h_kinds_effects h_kinds_numbers h_kinds_bans h_shelf_cards h_shelf_decks h_shelf_deckSizes r_h_shelf_cards v_today v_kinds_count u)) (dC, dI) A) #[.ref h, .int p1, .int p2, .int p3] s 3 18 A) (F0 m 0 ls [])
  unfold fX8_get at hf
  refine lv_iload_n hx hb dX8_get_0 rfl (lv_at hl 1 rfl) ?_
  obtain ⟨o_1, hc_2, hf⟩ := ob_s hf
  rcases xo_cs o_1 with ⟨E_3, rfl⟩ | rfl
  · have hf : some (Sum.inr (E_3, v_shelf_cards)) = some o := hf
    cases hf
    refine w_callXSv_thr (As := [.int p1]) (rest := []) ⟨hx, hb, hml, hown, hts⟩ (oX8_needPlayer l hlt dC dI cI cJ cZ cG H.size p1 (Sum.inr (E_3, ())) hc_2) (va_cwS 1 hts gX8_get_X8_needPlayer rfl rfl rfl (by decide +kernel) ⟨Nat.le_of_ble_eq_true rfl, Nat.le_of_ble_eq_true rfl⟩) hK hP hS hA hT rfl hl.1 rfl (Nat.le_of_ble_eq_true rfl) dX8_get_1 ⟨Nat.le_of_ble_eq_true rfl, Nat.le_of_ble_eq_true rfl⟩ (fun ce q9 H locs hP hS h7 h8 h9 => ?_)
    exact w_xout (u0 := v_shelf_cards) hnot hlocks h7 h8 h9 hP hD hS (Nat.le_of_ble_eq_true rfl) (Nat.le_of_ble_eq_true rfl)
  refine w_callXSv_ok (As := [.int p1]) (rest := []) ⟨hx, hb, hml, hown, hts⟩ (oX8_needPlayer l hlt dC dI cI cJ cZ cG H.size p1 (Sum.inl ((), ())) hc_2) (va_cwS 1 hts gX8_get_X8_needPlayer rfl rfl rfl (by decide +kernel) ⟨Nat.le_of_ble_eq_true rfl, Nat.le_of_ble_eq_true rfl⟩) hK hP hS hA hT rfl hl.1 rfl (Nat.le_of_ble_eq_true rfl) dX8_get_1 ⟨Nat.le_of_ble_eq_true rfl, Nat.le_of_ble_eq_true rfl⟩ (fun H locs hP hS => ?_)
  refine lv_aload_n hx hb dX8_get_4 rfl (lv_at hl 0 rfl) ?_
  refine lv_iload_n hx hb dX8_get_5 rfl (lv_at hl 2 rfl) ?_
  obtain ⟨o_4, hc_5, hf⟩ := ob_s hf
  rcases xo_cs o_4 with ⟨E_6, rfl⟩ | rfl
  · have hf : some (Sum.inr (E_6, v_shelf_cards)) = some o := hf
    cases hf
    refine w_callXVv_thr (As := [.int p2]) (rest := []) (wr := List.filterMap (fun i : Nat => (wcX8_get cI cJ cZ cG h h_kinds h_shelf h_table h_orders h_history h_draft h_wishes h_matches h_kinds_effects h_kinds_numbers h_kinds_bans h_shelf_cards h_shelf_decks h_shelf_deckSizes r_h_shelf_cards v_today v_kinds_count v_shelf_cards)[i]?) [2, 3, 4, 5, 6, 7, 8, 9]) (ws1 := (wcX8_get cI cJ cZ cG h h_kinds h_shelf h_table h_orders h_history h_draft h_wishes h_matches h_kinds_effects h_kinds_numbers h_kinds_bans h_shelf_cards h_shelf_decks h_shelf_deckSizes r_h_shelf_cards v_today v_kinds_count v_shelf_cards)) ⟨hx, hb, hml, hown, hts⟩ (oX8_needKind l hlt dC dI cI cJ cZ cG h h_kinds h_shelf h_table h_orders h_history h_draft h_wishes h_matches h_kinds_effects h_kinds_numbers h_kinds_bans v_today v_kinds_count H.size p2 (Sum.inr (E_6, ())) hc_5) (cwV 1 hts gX8_get_X8_needKind rfl rfl rfl (by decide +kernel) ⟨Nat.le_of_ble_eq_true rfl, Nat.le_of_ble_eq_true rfl⟩) hK 0 8 rfl rfl rfl hP hD hS hA hT [0, 1] [2, 3, 4, 5, 6, 7, 8, 9] [8, 9, 0, 1, 2, 3, 4, 5, 6, 7] rfl rfl rfl rfl (by decide) rfl rfl rfl hl.1 rfl (Nat.le_of_ble_eq_true rfl) dX8_get_6 ⟨Nat.le_of_ble_eq_true rfl, Nat.le_of_ble_eq_true rfl⟩ (fun ce q9 H locs hP hD hS h7 h8 h9 => ?_)
    exact w_xout (u0 := v_shelf_cards) hnot hlocks h7 h8 h9 hP hD hS (Nat.le_of_ble_eq_true rfl) (Nat.le_of_ble_eq_true rfl)
  refine w_callXVv_ok (As := [.int p2]) (rest := []) (wr := List.filterMap (fun i : Nat => (wcX8_get cI cJ cZ cG h h_kinds h_shelf h_table h_orders h_history h_draft h_wishes h_matches h_kinds_effects h_kinds_numbers h_kinds_bans h_shelf_cards h_shelf_decks h_shelf_deckSizes r_h_shelf_cards v_today v_kinds_count v_shelf_cards)[i]?) [2, 3, 4, 5, 6, 7, 8, 9]) (ws1 := (wcX8_get cI cJ cZ cG h h_kinds h_shelf h_table h_orders h_history h_draft h_wishes h_matches h_kinds_effects h_kinds_numbers h_kinds_bans h_shelf_cards h_shelf_decks h_shelf_deckSizes r_h_shelf_cards v_today v_kinds_count v_shelf_cards)) ⟨hx, hb, hml, hown, hts⟩ (oX8_needKind l hlt dC dI cI cJ cZ cG h h_kinds h_shelf h_table h_orders h_history h_draft h_wishes h_matches h_kinds_effects h_kinds_numbers h_kinds_bans v_today v_kinds_count H.size p2 (Sum.inl ((), ())) hc_5) (cwV 1 hts gX8_get_X8_needKind rfl rfl rfl (by decide +kernel) ⟨Nat.le_of_ble_eq_true rfl, Nat.le_of_ble_eq_true rfl⟩) hK 0 8 rfl rfl rfl hP hD hS hA hT [0, 1] [2, 3, 4, 5, 6, 7, 8, 9] [8, 9, 0, 1, 2, 3, 4, 5, 6, 7] rfl rfl rfl rfl (by decide) rfl rfl rfl hl.1 rfl (Nat.le_of_ble_eq_true rfl) dX8_get_6 ⟨Nat.le_of_ble_eq_true rfl, Nat.le_of_ble_eq_true rfl⟩ (fun H locs hP hD hS => ?_)
  refine lv_iload_n hx hb dX8_get_9 rfl (lv_at hl 3 rfl) ?_
  refine lv_iconst (v := 1) hx hb dX8_get_10 (by decide) ?_
  refine lv_icmp_lt (tgt := 20) hx hb dX8_get_11 (by decide) (fun c_7 => ?_) (fun c_7 => ?_)
  · have hf := it_t hf c_7
    have hf : fX8_get_b20 v_kinds_count v_shelf_cards = some o := hf
    exact kX8_get_20 C0 hA hK hnot hlt hT v_shelf_cards _ _ _ hf hP hD hS (lv_sub hl [] rfl)
  · have hf := it_f hf c_7
    refine lv_iload_n hx hb dX8_get_14 rfl (lv_at hl 3 rfl) ?_
    refine lv_bipush (v := 9) hx hb dX8_get_15 (by decide) ?_
    refine lv_icmp_le (tgt := 30) hx hb dX8_get_17 (by decide) (fun c_8 => ?_) (fun c_8 => ?_)
    · have hf := it_t hf c_8
      refine lv_aload_n hx hb dX8_get_30 rfl (lv_at hl 0 rfl) ?_
      refine va_get (D := (dC, dI)) (ci := 8) (v := .ref h_shelf) (C := RX8) (T := TX8) (N := 9) hx hb hts iX8_get_X8 hown hK hP 0 rfl rfl 1 (by decide) (hts _ mX8_get_0) (fun _ h9 => h9) rfl dX8_get_31 ?_
      refine va_get (D := (dC, dI)) (ci := 5) (v := .ref h_shelf_cards) (C := RX5) (T := TX5) (N := 3) hx hb hts iX8_get_X5 hown hK hP 2 rfl rfl 0 (by decide) (hts _ mX8_get_1) (fun _ h9 => h9) rfl dX8_get_34 ?_
      refine lv_iload_n hx hb dX8_get_37 rfl (lv_at hl 1 rfl) ?_
      obtain ⟨hg_9, hf⟩ := ck_s hf
      refine w_aald hx hb hK hP 3 3 rfl rfl (g_vp hg_9) dX8_get_38 ?_
      refine lv_iload_n hx hb dX8_get_39 rfl (lv_at hl 2 rfl) ?_
      refine lv_dup2_11 hx hb dX8_get_40 rfl rfl ?_
      obtain ⟨hg_10, hf⟩ := ck_s hf
      refine va_iald (D := (dC, dI)) hx hb hK hP (4 + p1.toNatClampNeg) 0 (fin6 (P := fun j => (wcX8_get cI cJ cZ cG h h_kinds h_shelf h_table h_orders h_history h_draft h_wishes h_matches h_kinds_effects h_kinds_numbers h_kinds_bans h_shelf_cards h_shelf_decks h_shelf_deckSizes r_h_shelf_cards v_today v_kinds_count v_shelf_cards)[4 + j]? = some (r_h_shelf_cards j, .inl (cI, 20, .inl (v_shelf_cards j)))) rfl rfl rfl rfl rfl rfl _ (g_lt hg_9)) rfl (g_vp hg_10) dX8_get_41 ?_
      refine lv_iload_n hx hb dX8_get_42 rfl (lv_at hl 3 rfl) ?_
      refine lv_iadd hx hb dX8_get_43 ?_
      obtain ⟨x_11, ex_11, hf⟩ := nm_s hf
      refine w_eqi ex_11 ?_
      obtain ⟨hg_12, hf⟩ := ck_s hf
      refine va_iast (D := (dC, dI)) hx hb hK hP hD hS (4 + p1.toNatClampNeg) 0 (fin6 (P := fun j => (wcX8_get cI cJ cZ cG h h_kinds h_shelf h_table h_orders h_history h_draft h_wishes h_matches h_kinds_effects h_kinds_numbers h_kinds_bans h_shelf_cards h_shelf_decks h_shelf_deckSizes r_h_shelf_cards v_today v_kinds_count v_shelf_cards)[4 + j]? = some (r_h_shelf_cards j, .inl (cI, 20, .inl (v_shelf_cards j)))) rfl rfl rfl rfl rfl rfl _ (g_lt hg_9)) rfl (g_vp hg_12) dX8_get_44 (fun H locs hP hD hS => ?_)
      have e9 := fin6 (P := fun j => List.set (wcX8_get cI cJ cZ cG h h_kinds h_shelf h_table h_orders h_history h_draft h_wishes h_matches h_kinds_effects h_kinds_numbers h_kinds_bans h_shelf_cards h_shelf_decks h_shelf_deckSizes r_h_shelf_cards v_today v_kinds_count v_shelf_cards) (4 + j) (r_h_shelf_cards j, .inl (cI, 20, .inl (upd (v_shelf_cards j) p2.toNatClampNeg x_11))) = (wcX8_get cI cJ cZ cG h h_kinds h_shelf h_table h_orders h_history h_draft h_wishes h_matches h_kinds_effects h_kinds_numbers h_kinds_bans h_shelf_cards h_shelf_decks h_shelf_deckSizes r_h_shelf_cards v_today v_kinds_count (gup v_shelf_cards j p2.toNatClampNeg x_11))) rfl rfl rfl rfl rfl rfl _ (g_lt hg_9)
      rw [e9] at hP hD
      refine lv_aload_n hx hb dX8_get_45 rfl (lv_at hl 0 rfl) ?_
      refine va_get (D := (dC, dI)) (ci := 8) (v := .ref h_shelf) (C := RX8) (T := TX8) (N := 9) hx hb hts iX8_get_X8 hown hK hP 0 rfl rfl 1 (by decide) (hts _ mX8_get_0) (fun _ h9 => h9) rfl dX8_get_46 ?_
      refine va_get (D := (dC, dI)) (ci := 5) (v := .ref h_shelf_cards) (C := RX5) (T := TX5) (N := 3) hx hb hts iX8_get_X5 hown hK hP 2 rfl rfl 0 (by decide) (hts _ mX8_get_1) (fun _ h9 => h9) rfl dX8_get_49 ?_
      refine lv_iload_n hx hb dX8_get_52 rfl (lv_at hl 1 rfl) ?_
      obtain ⟨hg_13, hf⟩ := ck_s hf
      refine w_aald hx hb hK hP 3 3 rfl rfl (g_vp hg_13) dX8_get_53 ?_
      refine lv_iload_n hx hb dX8_get_54 rfl (lv_at hl 2 rfl) ?_
      obtain ⟨hg_14, hf⟩ := ck_s hf
      refine va_iald (D := (dC, dI)) hx hb hK hP (4 + p1.toNatClampNeg) 0 (fin6 (P := fun j => (wcX8_get cI cJ cZ cG h h_kinds h_shelf h_table h_orders h_history h_draft h_wishes h_matches h_kinds_effects h_kinds_numbers h_kinds_bans h_shelf_cards h_shelf_decks h_shelf_deckSizes r_h_shelf_cards v_today v_kinds_count (gup v_shelf_cards p1.toNatClampNeg p2.toNatClampNeg x_11))[4 + j]? = some (r_h_shelf_cards j, .inl (cI, 20, .inl ((gup v_shelf_cards p1.toNatClampNeg p2.toNatClampNeg x_11) j)))) rfl rfl rfl rfl rfl rfl _ (g_lt hg_13)) rfl (g_vp hg_14) dX8_get_55 ?_
      have hf : some (Sum.inl (((gup v_shelf_cards p1.toNatClampNeg p2.toNatClampNeg x_11) p1.toNatClampNeg p2.toNatClampNeg), (gup v_shelf_cards p1.toNatClampNeg p2.toNatClampNeg x_11))) = some o := hf
      cases hf
      exact w_xiret (u0 := (gup v_shelf_cards p1.toNatClampNeg p2.toNatClampNeg x_11)) hx hb hr hlocks hP hD hS (Nat.le_of_ble_eq_true rfl) (Nat.le_of_ble_eq_true rfl) dX8_get_56
    · have hf := it_f hf c_8
      have hf : fX8_get_b20 v_kinds_count v_shelf_cards = some o := hf
      exact kX8_get_20 C0 hA hK hnot hlt hT v_shelf_cards _ _ _ hf hP hD hS (lv_sub hl [] rfl)
abbrev wcX8_pass (cI cJ cZ cG : ClassId) (h h_kinds h_shelf h_table h_orders h_history h_draft h_wishes h_matches : Nat) (v_today : Int32) : va_W := [(h, .inr (8, [.ref h_kinds, .ref h_shelf, .ref h_table, .ref h_orders, .ref h_history, .ref h_draft, .ref h_wishes, .ref h_matches, .int v_today]))]
theorem iX8_pass_X8 : ∀ w ∈ wsX80, w ∈ wsX8_pass := by decide +kernel
theorem mX8_pass_0 : (Cond.fieldLink RX8 113 "Sleevehall" "today" "I") ∈ wsX8_pass := by decide +kernel
theorem mX8_pass_1 : (Cond.classLink RX8 78 "java/lang/IllegalStateException") ∈ wsX8_pass := by decide +kernel
theorem mX8_pass_2 : (Cond.initialized "java/lang/IllegalStateException") ∈ wsX8_pass := by decide +kernel
theorem mX8_pass_3 : (Cond.classLink RX8 65 "java/lang/IllegalArgumentException") ∈ wsX8_pass := by decide +kernel
theorem mX8_pass_4 : (Cond.initialized "java/lang/IllegalArgumentException") ∈ wsX8_pass := by decide +kernel
theorem xwX8_pass_IAE : ∀ w ∈ (vx_atS RX8 69 "java/lang/IllegalArgumentException" ["java/lang/RuntimeException", "java/lang/Exception"]).filter goodWord, w ∈ wsX8_pass := by decide +kernel
theorem xwX8_pass_ISE : ∀ w ∈ (vx_atS RX8 82 "java/lang/IllegalStateException" ["java/lang/RuntimeException", "java/lang/Exception"]).filter goodWord, w ∈ wsX8_pass := by decide +kernel
abbrev rmX8_pass : Room := { frames := 6, cells := 1, slots := 6, locals := 92 }
set_option maxHeartbeats 4000000 in
set_option maxRecDepth 100000 in
theorem kX8_pass_11 {p : Program} {l : Launch} {e : Env} {s : State} {m : MethodId} {args : Array Value} {below : List Frame} {meth : Method} {c : Code} {dC : Nat → ClassId} {dI : Nat → Nat → Nat} {A : Nat → Prop} {cI cJ cZ cG : ClassId} {h h_kinds h_shelf h_table h_orders h_history h_draft h_wishes h_matches : Nat} {o : (Int32 × Int32) ⊕ (String × Int32)} (C0 : wCX p s args m meth c cX8_pass 2 (some .int) RX8 wsX8_pass) (hA : ∀ q, s.heap.size ≤ q → A q) (hK : va_K (dC, dI) vwCl (tysW cI cJ cZ cG) s) (hnot : ∀ x ∈ c.exceptionTable.toList, False) (hlt : l.stackTraces = false) (hT : wThr A s) : ∀ (v_today : Int32) (H : Heap) (locs : List Loc) (ls : Array Slot), fX8_pass_b11 v_today = some o → va_P (dC, dI) vwCl (wcX8_pass cI cJ cZ cG h h_kinds h_shelf h_table h_orders h_history h_draft h_wishes h_matches v_today) H → va_D A (wcX8_pass cI cJ cZ cG h h_kinds h_shelf h_table h_orders h_history h_draft h_wishes h_matches v_today) → va_S A s.heap H locs → lv_has ls 2 [] → W p l e rmX8_pass s m args below meth c H locs 0 0 (vx_MQ below (wXQi o (fun u : Int32 => (wcX8_pass cI cJ cZ cG h h_kinds h_shelf h_table h_orders h_history h_draft h_wishes h_matches u)) (dC, dI) A) (wXX o (fun u : Int32 => (wcX8_pass cI cJ cZ cG h h_kinds h_shelf h_table h_orders h_history h_draft h_wishes h_matches u)) (dC, dI) A) args s 1 6 A) (F0 m 11 ls []) := by
  obtain ⟨hx, hb, hr, hml, hown, hts, hlocks⟩ := id C0
  intro v_today H locs ls hf hP hD hS hl
  unfold fX8_pass_b11 at hf
  have hf : some (Sum.inr ("java/lang/IllegalArgumentException", v_today)) = some o := hf
  cases hf
  exact w_throwS (RT := Int32) (u0 := v_today) (cls := "java/lang/IllegalArgumentException") (text := "days is not 1 to 100") (names := ["java/lang/RuntimeException", "java/lang/Exception"]) (ik := 65) (is := 111) (ic := 69) (own := "") hx hb hlt hown (by decide +kernel) (by decide +kernel) (hts _ mX8_pass_3) (hts _ mX8_pass_4) hT (by decide +kernel) (fun w hw => hts w (xwX8_pass_IAE w hw)) (by decide) xb_IAE xg_IAE (hl.1.trans hml.symm) hnot hlocks dX8_pass_11 dX8_pass_14 dX8_pass_15 dX8_pass_17 dX8_pass_20 (by decide) (by decide) (by decide) (by decide) (by decide) (by decide) hP hD hS
set_option maxHeartbeats 4000000 in
set_option maxRecDepth 100000 in
theorem oX8_pass (l : Launch) (hlt : l.stackTraces = false) (dC : Nat → ClassId) (dI : Nat → Nat → Nat) (cI cJ cZ cG : ClassId) (h h_kinds h_shelf h_table h_orders h_history h_draft h_wishes h_matches : Nat) (v_today : Int32) (sz : Nat) (p1 : Int32) (o : (Int32 × Int32) ⊕ (String × Int32)) (hf : fX8_pass v_today p1 = some o) : vx_Met l yX8_pass wsX8_pass rmX8_pass (wXPc [.ref h, .int p1] (dC, dI) (tysW cI cJ cZ cG) sz (wcX8_pass cI cJ cZ cG h h_kinds h_shelf h_table h_orders h_history h_draft h_wishes h_matches v_today)) (wXQi o (fun u : Int32 => (wcX8_pass cI cJ cZ cG h h_kinds h_shelf h_table h_orders h_history h_draft h_wishes h_matches u)) (dC, dI) (va_A (wcX8_pass cI cJ cZ cG h h_kinds h_shelf h_table h_orders h_history h_draft h_wishes h_matches v_today) sz)) (wXX o (fun u : Int32 => (wcX8_pass cI cJ cZ cG h h_kinds h_shelf h_table h_orders h_history h_draft h_wishes h_matches u)) (dC, dI) (va_A (wcX8_pass cI cJ cZ cG h h_kinds h_shelf h_table h_orders h_history h_draft h_wishes h_matches v_today) sz)) 1 6 (va_A (wcX8_pass cI cJ cZ cG h h_kinds h_shelf h_table h_orders h_history h_draft h_wishes h_matches v_today) sz) := by
  refine vx_ofW (cc := cX8_pass) (maxL := 2) (ret := (some .int)) (by decide) rfl ?_
  intro p e s m args below meth c s₁ B hml hnot hv
  obtain ⟨rfl, hsz, hP, hK, hD0, hT⟩ := hv
  have hx := B.exec
  have hb := B.bytes
  have hr := B.returns
  have hts := atoms_spec (ws := wsX8_pass) B.pre
  have hown : s.vm.findClass RX8 = some m.cls := findClass_of_methodNamed B.named
  have hlocks := B.notSynchronized
  subst hsz
  have hD := hD0.self (sz := s.heap.size)
  generalize hAe : va_A (wcX8_pass cI cJ cZ cG h h_kinds h_shelf h_table h_orders h_history h_draft h_wishes h_matches v_today) s.heap.size = A at hD hT ⊢
  have hA : ∀ q : Nat, s.heap.size ≤ q → A q := fun q h => by rw [← hAe]; exact Or.inr h
  have hS : va_S A s.heap s.heap [] := va_S.rf
  have hP : va_P (dC, dI) vwCl (wcX8_pass cI cJ cZ cG h h_kinds h_shelf h_table h_orders h_history h_draft h_wishes h_matches v_today) s.heap := hP
  have hl := lv_entry ([.ref h, .int p1]) (n := 2) (Nat.le_of_ble_eq_true rfl)
  rw [lg_entry_eq]
  generalize (lg_sl ([.ref h, .int p1]) ++ List.replicate (2 - (lg_sl ([.ref h, .int p1])).length) Slot.unset).toArray = ls at hl ⊢
  have hl : lv_has ls 2 [(0, .ref h), (1, .int p1)] := hl
  generalize hH : s.heap = H at hP hS ⊢
  have hS : va_S A s.heap H [] := by rw [hH]; exact hS
  have C0 : wCX p s #[.ref h, .int p1] m meth c cX8_pass 2 (some .int) RX8 wsX8_pass := ⟨hx, hb, hr, hml, hown, hts, hlocks⟩
  show W p l e rmX8_pass s m #[.ref h, .int p1] below meth c H [] 0 0 (vx_MQ below (wXQi o (fun u : Int32 => (wcX8_pass cI cJ cZ cG h h_kinds h_shelf h_table h_orders h_history h_draft h_wishes h_matches u)) (dC, dI) A) (wXX o (fun u : Int32 => (wcX8_pass cI cJ cZ cG h h_kinds h_shelf h_table h_orders h_history h_draft h_wishes h_matches u)) (dC, dI) A) #[.ref h, .int p1] s 1 6 A) (F0 m 0 ls [])
  unfold fX8_pass at hf
  refine lv_iload_n hx hb dX8_pass_0 rfl (lv_at hl 1 rfl) ?_
  refine lv_iconst (v := 1) hx hb dX8_pass_1 (by decide) ?_
  refine lv_icmp_lt (tgt := 11) hx hb dX8_pass_2 (by decide) (fun c_1 => ?_) (fun c_1 => ?_)
  · have hf := it_t hf c_1
    have hf : fX8_pass_b11 v_today = some o := hf
    exact kX8_pass_11 C0 hA hK hnot hlt hT v_today _ _ _ hf hP hD hS (lv_sub hl [] rfl)
  · have hf := it_f hf c_1
    refine lv_iload_n hx hb dX8_pass_5 rfl (lv_at hl 1 rfl) ?_
    refine lv_bipush (v := 100) hx hb dX8_pass_6 (by decide) ?_
    refine lv_icmp_le (tgt := 21) hx hb dX8_pass_8 (by decide) (fun c_2 => ?_) (fun c_2 => ?_)
    · have hf := it_t hf c_2
      refine lv_aload_n hx hb dX8_pass_21 rfl (lv_at hl 0 rfl) ?_
      refine va_get (D := (dC, dI)) (ci := 8) (v := .int v_today) (C := RX8) (T := TX8) (N := 9) hx hb hts iX8_pass_X8 hown hK hP 0 rfl rfl 8 (by decide) (hts _ mX8_pass_0) (fun _ h9 => h9) rfl dX8_pass_22 ?_
      refine lv_iload_n hx hb dX8_pass_25 rfl (lv_at hl 1 rfl) ?_
      refine lv_iadd hx hb dX8_pass_26 ?_
      refine lv_sipush (v := 1000) hx hb dX8_pass_27 (by decide) ?_
      refine lv_icmp_le (tgt := 43) hx hb dX8_pass_30 (by decide) (fun c_3 => ?_) (fun c_3 => ?_)
      · have hf := it_t hf c_3
        refine lv_aload_n hx hb dX8_pass_43 rfl (lv_at hl 0 rfl) ?_
        refine lv_dup hx hb dX8_pass_44 rfl ?_
        refine va_get (D := (dC, dI)) (ci := 8) (v := .int v_today) (C := RX8) (T := TX8) (N := 9) hx hb hts iX8_pass_X8 hown hK hP 0 rfl rfl 8 (by decide) (hts _ mX8_pass_0) (fun _ h9 => h9) rfl dX8_pass_45 ?_
        refine lv_iload_n hx hb dX8_pass_48 rfl (lv_at hl 1 rfl) ?_
        refine lv_iadd hx hb dX8_pass_49 ?_
        obtain ⟨x_4, ex_4, hf⟩ := nm_s hf
        refine w_eqi ex_4 ?_
        refine va_put (D := (dC, dI)) (ci := 8) (v := .int x_4) (ty := .int) (C := RX8) (T := TX8) (N := 9) hx hb hts iX8_pass_X8 tyX8 tyX8_ok nmX8 hown hK hP hD hS 0 rfl rfl 8 (by decide) (hts _ mX8_pass_0) (fun _ h9 => h9) rfl (by decide +kernel) rfl rfl (Nat.le_of_ble_eq_true rfl) dX8_pass_50 (fun H locs hP hD hS => ?_)
        have hP : va_P (dC, dI) vwCl (wcX8_pass cI cJ cZ cG h h_kinds h_shelf h_table h_orders h_history h_draft h_wishes h_matches x_4) H := hP
        have hD : va_D A (wcX8_pass cI cJ cZ cG h h_kinds h_shelf h_table h_orders h_history h_draft h_wishes h_matches x_4) := hD
        refine lv_aload_n hx hb dX8_pass_53 rfl (lv_at hl 0 rfl) ?_
        refine va_get (D := (dC, dI)) (ci := 8) (v := .int x_4) (C := RX8) (T := TX8) (N := 9) hx hb hts iX8_pass_X8 hown hK hP 0 rfl rfl 8 (by decide) (hts _ mX8_pass_0) (fun _ h9 => h9) rfl dX8_pass_54 ?_
        have hf : some (Sum.inl (x_4, x_4)) = some o := hf
        cases hf
        exact w_xiret (u0 := x_4) hx hb hr hlocks hP hD hS (Nat.le_of_ble_eq_true rfl) (Nat.le_of_ble_eq_true rfl) dX8_pass_57
      · have hf := it_f hf c_3
        have hf : some (Sum.inr ("java/lang/IllegalStateException", v_today)) = some o := hf
        cases hf
        exact w_throwS (RT := Int32) (u0 := v_today) (cls := "java/lang/IllegalStateException") (text := "the day would be above 1000") (names := ["java/lang/RuntimeException", "java/lang/Exception"]) (ik := 78) (is := 116) (ic := 82) (own := "") hx hb hlt hown (by decide +kernel) (by decide +kernel) (hts _ mX8_pass_1) (hts _ mX8_pass_2) hT (by decide +kernel) (fun w hw => hts w (xwX8_pass_ISE w hw)) (by decide) xb_ISE xg_ISE (hl.1.trans hml.symm) hnot hlocks dX8_pass_33 dX8_pass_36 dX8_pass_37 dX8_pass_39 dX8_pass_42 (by decide) (by decide) (by decide) (by decide) (by decide) (by decide) hP hD hS
    · have hf := it_f hf c_2
      have hf : fX8_pass_b11 v_today = some o := hf
      exact kX8_pass_11 C0 hA hK hnot hlt hT v_today _ _ _ hf hP hD hS (lv_sub hl [] rfl)
abbrev wcX8_play (cI cJ cZ cG : ClassId) (h h_kinds h_shelf h_table h_orders h_history h_draft h_wishes h_matches h_kinds_effects h_kinds_numbers h_kinds_bans h_shelf_cards h_shelf_decks h_shelf_deckSizes h_table_lives h_table_shields h_table_effects h_table_numbers h_table_players h_table_against h_history_deeds h_history_anew : Nat) (r_h_shelf_cards : Nat → Nat) (v_today : Int32) (v_kinds_count : Int32) (v_kinds_effects : Nat → Int32) (v_kinds_numbers : Nat → Int32) (v_kinds_bans : Nat → Int32) (v_shelf_cards : Nat → Nat → Int32) (v_table_size : Int32) (v_table_effects : Nat → Int32) (v_table_numbers : Nat → Int32) (v_table_players : Nat → Int32) (v_table_against : Nat → Int32) (v_history_count : Int32) (v_history_deeds : Nat → Int32) : va_W := [(h, .inr (8, [.ref h_kinds, .ref h_shelf, .ref h_table, .ref h_orders, .ref h_history, .ref h_draft, .ref h_wishes, .ref h_matches, .int v_today])), (h_kinds, .inr (2, [.ref h_kinds_effects, .ref h_kinds_numbers, .ref h_kinds_bans, .int v_kinds_count])), (h_kinds_effects, .inl (cI, 20, .inl v_kinds_effects)), (h_kinds_numbers, .inl (cI, 20, .inl v_kinds_numbers)), (h_kinds_bans, .inl (cI, 20, .inl v_kinds_bans)), (h_shelf, .inr (5, [.ref h_shelf_cards, .ref h_shelf_decks, .ref h_shelf_deckSizes])), gOut h_shelf_cards r_h_shelf_cards cG 6, (h_table, .inr (6, [.ref h_table_lives, .ref h_table_shields, .ref h_table_effects, .ref h_table_numbers, .ref h_table_players, .ref h_table_against, .int v_table_size])), (h_table_effects, .inl (cI, 6, .inl v_table_effects)), (h_table_numbers, .inl (cI, 6, .inl v_table_numbers)), (h_table_players, .inl (cI, 6, .inl v_table_players)), (h_table_against, .inl (cI, 6, .inl v_table_against)), (h_history, .inr (1, [.ref h_history_deeds, .ref h_history_anew, .int v_history_count])), (h_history_deeds, .inl (cI, 512, .inl v_history_deeds))] ++ gRows r_h_shelf_cards cI 20 v_shelf_cards
theorem iX8_play_X8 : ∀ w ∈ wsX80, w ∈ wsX8_play := by decide +kernel
theorem iX8_play_X5 : ∀ w ∈ wsX50, w ∈ wsX8_play := by decide +kernel
theorem iX8_play_X6 : ∀ w ∈ wsX60, w ∈ wsX8_play := by decide +kernel
theorem iX8_play_X2 : ∀ w ∈ wsX20, w ∈ wsX8_play := by decide +kernel
theorem mX8_play_0 : (Cond.fieldLink RX8 19 "Sleevehall" "shelf" "LSleevehall$Shelf;") ∈ wsX8_play := by decide +kernel
theorem mX8_play_1 : (Cond.fieldLink RX8 107 "Sleevehall$Shelf" "cards" "[[I") ∈ wsX8_play := by decide +kernel
theorem mX8_play_2 : (Cond.fieldLink RX8 10 "Sleevehall" "kinds" "LSleevehall$Kinds;") ∈ wsX8_play := by decide +kernel
theorem mX8_play_3 : (Cond.fieldLink RX8 113 "Sleevehall" "today" "I") ∈ wsX8_play := by decide +kernel
theorem mX8_play_4 : (Cond.fieldLink RX8 26 "Sleevehall" "table" "LSleevehall$Table;") ∈ wsX8_play := by decide +kernel
theorem mX8_play_5 : (Cond.fieldLink RX8 126 "Sleevehall$Table" "size" "I") ∈ wsX8_play := by decide +kernel
theorem mX8_play_6 : (Cond.fieldLink RX8 131 "Sleevehall$Kinds" "effects" "[I") ∈ wsX8_play := by decide +kernel
theorem mX8_play_7 : (Cond.fieldLink RX8 134 "Sleevehall$Kinds" "numbers" "[I") ∈ wsX8_play := by decide +kernel
theorem mX8_play_8 : (Cond.fieldLink RX8 40 "Sleevehall" "history" "LSleevehall$History;") ∈ wsX8_play := by decide +kernel
theorem mX8_play_9 : (Cond.classLink RX8 78 "java/lang/IllegalStateException") ∈ wsX8_play := by decide +kernel
theorem mX8_play_10 : (Cond.initialized "java/lang/IllegalStateException") ∈ wsX8_play := by decide +kernel
theorem xwX8_play_ISE : ∀ w ∈ (vx_atS RX8 82 "java/lang/IllegalStateException" ["java/lang/RuntimeException", "java/lang/Exception"]).filter goodWord, w ∈ wsX8_play := by decide +kernel
abbrev rmX8_play : Room := { frames := 7, cells := 4, slots := 24, locals := 113 }
set_option maxHeartbeats 4000000 in
set_option maxRecDepth 100000 in
theorem oX8_play (l : Launch) (hlt : l.stackTraces = false) (dC : Nat → ClassId) (dI : Nat → Nat → Nat) (cI cJ cZ cG : ClassId) (h h_kinds h_shelf h_table h_orders h_history h_draft h_wishes h_matches h_kinds_effects h_kinds_numbers h_kinds_bans h_shelf_cards h_shelf_decks h_shelf_deckSizes h_table_lives h_table_shields h_table_effects h_table_numbers h_table_players h_table_against h_history_deeds h_history_anew : Nat) (r_h_shelf_cards : Nat → Nat) (v_today : Int32) (v_kinds_count : Int32) (v_kinds_effects : Nat → Int32) (v_kinds_numbers : Nat → Int32) (v_kinds_bans : Nat → Int32) (v_shelf_cards : Nat → Nat → Int32) (v_table_size : Int32) (v_table_effects : Nat → Int32) (v_table_numbers : Nat → Int32) (v_table_players : Nat → Int32) (v_table_against : Nat → Int32) (v_history_count : Int32) (v_history_deeds : Nat → Int32) (sz : Nat) (p1 : Int32) (p2 : Int32) (p3 : Int32) (o : (Int32 × Int32 × (Nat → Int32) × (Nat → Int32) × (Nat → Int32) × (Nat → Int32) × Int32 × (Nat → Int32)) ⊕ (String × Int32 × (Nat → Int32) × (Nat → Int32) × (Nat → Int32) × (Nat → Int32) × Int32 × (Nat → Int32))) (hf : fX8_play v_today v_kinds_count v_kinds_effects v_kinds_numbers v_kinds_bans v_shelf_cards v_table_size v_table_effects v_table_numbers v_table_players v_table_against v_history_count v_history_deeds p1 p2 p3 = some o) : vx_Met l yX8_play wsX8_play rmX8_play (wXPc [.ref h, .int p1, .int p2, .int p3] (dC, dI) (tysW cI cJ cZ cG) sz (wcX8_play cI cJ cZ cG h h_kinds h_shelf h_table h_orders h_history h_draft h_wishes h_matches h_kinds_effects h_kinds_numbers h_kinds_bans h_shelf_cards h_shelf_decks h_shelf_deckSizes h_table_lives h_table_shields h_table_effects h_table_numbers h_table_players h_table_against h_history_deeds h_history_anew r_h_shelf_cards v_today v_kinds_count v_kinds_effects v_kinds_numbers v_kinds_bans v_shelf_cards v_table_size v_table_effects v_table_numbers v_table_players v_table_against v_history_count v_history_deeds)) (wXQi o (fun u : Int32 × (Nat → Int32) × (Nat → Int32) × (Nat → Int32) × (Nat → Int32) × Int32 × (Nat → Int32) => (wcX8_play cI cJ cZ cG h h_kinds h_shelf h_table h_orders h_history h_draft h_wishes h_matches h_kinds_effects h_kinds_numbers h_kinds_bans h_shelf_cards h_shelf_decks h_shelf_deckSizes h_table_lives h_table_shields h_table_effects h_table_numbers h_table_players h_table_against h_history_deeds h_history_anew r_h_shelf_cards v_today v_kinds_count v_kinds_effects v_kinds_numbers v_kinds_bans v_shelf_cards (u.1) (u.2.1) (u.2.2.1) (u.2.2.2.1) (u.2.2.2.2.1) (u.2.2.2.2.2.1) (u.2.2.2.2.2.2))) (dC, dI) (va_A (wcX8_play cI cJ cZ cG h h_kinds h_shelf h_table h_orders h_history h_draft h_wishes h_matches h_kinds_effects h_kinds_numbers h_kinds_bans h_shelf_cards h_shelf_decks h_shelf_deckSizes h_table_lives h_table_shields h_table_effects h_table_numbers h_table_players h_table_against h_history_deeds h_history_anew r_h_shelf_cards v_today v_kinds_count v_kinds_effects v_kinds_numbers v_kinds_bans v_shelf_cards v_table_size v_table_effects v_table_numbers v_table_players v_table_against v_history_count v_history_deeds) sz)) (wXX o (fun u : Int32 × (Nat → Int32) × (Nat → Int32) × (Nat → Int32) × (Nat → Int32) × Int32 × (Nat → Int32) => (wcX8_play cI cJ cZ cG h h_kinds h_shelf h_table h_orders h_history h_draft h_wishes h_matches h_kinds_effects h_kinds_numbers h_kinds_bans h_shelf_cards h_shelf_decks h_shelf_deckSizes h_table_lives h_table_shields h_table_effects h_table_numbers h_table_players h_table_against h_history_deeds h_history_anew r_h_shelf_cards v_today v_kinds_count v_kinds_effects v_kinds_numbers v_kinds_bans v_shelf_cards (u.1) (u.2.1) (u.2.2.1) (u.2.2.2.1) (u.2.2.2.2.1) (u.2.2.2.2.2.1) (u.2.2.2.2.2.2))) (dC, dI) (va_A (wcX8_play cI cJ cZ cG h h_kinds h_shelf h_table h_orders h_history h_draft h_wishes h_matches h_kinds_effects h_kinds_numbers h_kinds_bans h_shelf_cards h_shelf_decks h_shelf_deckSizes h_table_lives h_table_shields h_table_effects h_table_numbers h_table_players h_table_against h_history_deeds h_history_anew r_h_shelf_cards v_today v_kinds_count v_kinds_effects v_kinds_numbers v_kinds_bans v_shelf_cards v_table_size v_table_effects v_table_numbers v_table_players v_table_against v_history_count v_history_deeds) sz)) 4 24 (va_A (wcX8_play cI cJ cZ cG h h_kinds h_shelf h_table h_orders h_history h_draft h_wishes h_matches h_kinds_effects h_kinds_numbers h_kinds_bans h_shelf_cards h_shelf_decks h_shelf_deckSizes h_table_lives h_table_shields h_table_effects h_table_numbers h_table_players h_table_against h_history_deeds h_history_anew r_h_shelf_cards v_today v_kinds_count v_kinds_effects v_kinds_numbers v_kinds_bans v_shelf_cards v_table_size v_table_effects v_table_numbers v_table_players v_table_against v_history_count v_history_deeds) sz) := by
  refine vx_ofW (cc := cX8_play) (maxL := 4) (ret := (some .int)) (by decide) rfl ?_
  intro p e s m args below meth c s₁ B hml hnot hv
  obtain ⟨rfl, hsz, hP, hK, hD0, hT⟩ := hv
  have hx := B.exec
  have hb := B.bytes
  have hr := B.returns
  have hts := atoms_spec (ws := wsX8_play) B.pre
  have hown : s.vm.findClass RX8 = some m.cls := findClass_of_methodNamed B.named
  have hlocks := B.notSynchronized
  subst hsz
  have hD := hD0.self (sz := s.heap.size)
  generalize hAe : va_A (wcX8_play cI cJ cZ cG h h_kinds h_shelf h_table h_orders h_history h_draft h_wishes h_matches h_kinds_effects h_kinds_numbers h_kinds_bans h_shelf_cards h_shelf_decks h_shelf_deckSizes h_table_lives h_table_shields h_table_effects h_table_numbers h_table_players h_table_against h_history_deeds h_history_anew r_h_shelf_cards v_today v_kinds_count v_kinds_effects v_kinds_numbers v_kinds_bans v_shelf_cards v_table_size v_table_effects v_table_numbers v_table_players v_table_against v_history_count v_history_deeds) s.heap.size = A at hD hT ⊢
  have hA : ∀ q : Nat, s.heap.size ≤ q → A q := fun q h => by rw [← hAe]; exact Or.inr h
  have hS : va_S A s.heap s.heap [] := va_S.rf
  have hP : va_P (dC, dI) vwCl (wcX8_play cI cJ cZ cG h h_kinds h_shelf h_table h_orders h_history h_draft h_wishes h_matches h_kinds_effects h_kinds_numbers h_kinds_bans h_shelf_cards h_shelf_decks h_shelf_deckSizes h_table_lives h_table_shields h_table_effects h_table_numbers h_table_players h_table_against h_history_deeds h_history_anew r_h_shelf_cards v_today v_kinds_count v_kinds_effects v_kinds_numbers v_kinds_bans v_shelf_cards v_table_size v_table_effects v_table_numbers v_table_players v_table_against v_history_count v_history_deeds) s.heap := hP
  have hl := lv_entry ([.ref h, .int p1, .int p2, .int p3]) (n := 4) (Nat.le_of_ble_eq_true rfl)
  rw [lg_entry_eq]
  generalize (lg_sl ([.ref h, .int p1, .int p2, .int p3]) ++ List.replicate (4 - (lg_sl ([.ref h, .int p1, .int p2, .int p3])).length) Slot.unset).toArray = ls at hl ⊢
  have hl : lv_has ls 4 [(0, .ref h), (1, .int p1), (2, .int p2), (3, .int p3)] := hl
  generalize hH : s.heap = H at hP hS ⊢
  have hS : va_S A s.heap H [] := by rw [hH]; exact hS
  have C0 : wCX p s #[.ref h, .int p1, .int p2, .int p3] m meth c cX8_play 4 (some .int) RX8 wsX8_play := ⟨hx, hb, hr, hml, hown, hts, hlocks⟩
  show W p l e rmX8_play s m #[.ref h, .int p1, .int p2, .int p3] below meth c H [] 0 0 (vx_MQ below (wXQi o (fun u : Int32 × (Nat → Int32) × (Nat → Int32) × (Nat → Int32) × (Nat → Int32) × Int32 × (Nat → Int32) => (wcX8_play cI cJ cZ cG h h_kinds h_shelf h_table h_orders h_history h_draft h_wishes h_matches h_kinds_effects h_kinds_numbers h_kinds_bans h_shelf_cards h_shelf_decks h_shelf_deckSizes h_table_lives h_table_shields h_table_effects h_table_numbers h_table_players h_table_against h_history_deeds h_history_anew r_h_shelf_cards v_today v_kinds_count v_kinds_effects v_kinds_numbers v_kinds_bans v_shelf_cards (u.1) (u.2.1) (u.2.2.1) (u.2.2.2.1) (u.2.2.2.2.1) (u.2.2.2.2.2.1) (u.2.2.2.2.2.2))) (dC, dI) A) (wXX o (fun u : Int32 × (Nat → Int32) × (Nat → Int32) × (Nat → Int32) × (Nat → Int32) × Int32 × (Nat → Int32) => (wcX8_play cI cJ cZ cG h h_kinds h_shelf h_table h_orders h_history h_draft h_wishes h_matches h_kinds_effects h_kinds_numbers h_kinds_bans h_shelf_cards h_shelf_decks h_shelf_deckSizes h_table_lives h_table_shields h_table_effects h_table_numbers h_table_players h_table_against h_history_deeds h_history_anew r_h_shelf_cards v_today v_kinds_count v_kinds_effects v_kinds_numbers v_kinds_bans v_shelf_cards (u.1) (u.2.1) (u.2.2.1) (u.2.2.2.1) (u.2.2.2.2.1) (u.2.2.2.2.2.1) (u.2.2.2.2.2.2))) (dC, dI) A) #[.ref h, .int p1, .int p2, .int p3] s 4 24 A) (F0 m 0 ls [])
  unfold fX8_play at hf
  refine lv_iload_n hx hb dX8_play_0 rfl (lv_at hl 1 rfl) ?_
  obtain ⟨o_1, hc_2, hf⟩ := ob_s hf
  rcases xo_cs o_1 with ⟨E_3, rfl⟩ | rfl
  · have hf : some (Sum.inr (E_3, (v_table_size, v_table_effects, v_table_numbers, v_table_players, v_table_against, v_history_count, v_history_deeds))) = some o := hf
    cases hf
    refine w_callXSv_thr (As := [.int p1]) (rest := []) ⟨hx, hb, hml, hown, hts⟩ (oX8_needPlayer l hlt dC dI cI cJ cZ cG H.size p1 (Sum.inr (E_3, ())) hc_2) (va_cwS 1 hts gX8_play_X8_needPlayer rfl rfl rfl (by decide +kernel) ⟨Nat.le_of_ble_eq_true rfl, Nat.le_of_ble_eq_true rfl⟩) hK hP hS hA hT rfl hl.1 rfl (Nat.le_of_ble_eq_true rfl) dX8_play_1 ⟨Nat.le_of_ble_eq_true rfl, Nat.le_of_ble_eq_true rfl⟩ (fun ce q9 H locs hP hS h7 h8 h9 => ?_)
    exact w_xout (u0 := (v_table_size, v_table_effects, v_table_numbers, v_table_players, v_table_against, v_history_count, v_history_deeds)) hnot hlocks h7 h8 h9 hP hD hS (Nat.le_of_ble_eq_true rfl) (Nat.le_of_ble_eq_true rfl)
  refine w_callXSv_ok (As := [.int p1]) (rest := []) ⟨hx, hb, hml, hown, hts⟩ (oX8_needPlayer l hlt dC dI cI cJ cZ cG H.size p1 (Sum.inl ((), ())) hc_2) (va_cwS 1 hts gX8_play_X8_needPlayer rfl rfl rfl (by decide +kernel) ⟨Nat.le_of_ble_eq_true rfl, Nat.le_of_ble_eq_true rfl⟩) hK hP hS hA hT rfl hl.1 rfl (Nat.le_of_ble_eq_true rfl) dX8_play_1 ⟨Nat.le_of_ble_eq_true rfl, Nat.le_of_ble_eq_true rfl⟩ (fun H locs hP hS => ?_)
  refine lv_aload_n hx hb dX8_play_4 rfl (lv_at hl 0 rfl) ?_
  refine lv_iload_n hx hb dX8_play_5 rfl (lv_at hl 2 rfl) ?_
  obtain ⟨o_4, hc_5, hf⟩ := ob_s hf
  rcases xo_cs o_4 with ⟨E_6, rfl⟩ | rfl
  · have hf : some (Sum.inr (E_6, (v_table_size, v_table_effects, v_table_numbers, v_table_players, v_table_against, v_history_count, v_history_deeds))) = some o := hf
    cases hf
    refine w_callXVv_thr (As := [.int p2]) (rest := []) (wr := List.filterMap (fun i : Nat => (wcX8_play cI cJ cZ cG h h_kinds h_shelf h_table h_orders h_history h_draft h_wishes h_matches h_kinds_effects h_kinds_numbers h_kinds_bans h_shelf_cards h_shelf_decks h_shelf_deckSizes h_table_lives h_table_shields h_table_effects h_table_numbers h_table_players h_table_against h_history_deeds h_history_anew r_h_shelf_cards v_today v_kinds_count v_kinds_effects v_kinds_numbers v_kinds_bans v_shelf_cards v_table_size v_table_effects v_table_numbers v_table_players v_table_against v_history_count v_history_deeds)[i]?) [2, 3, 4, 5, 6, 7, 8, 9, 10, 11, 12, 13, 14, 15, 16, 17, 18, 19]) (ws1 := (wcX8_play cI cJ cZ cG h h_kinds h_shelf h_table h_orders h_history h_draft h_wishes h_matches h_kinds_effects h_kinds_numbers h_kinds_bans h_shelf_cards h_shelf_decks h_shelf_deckSizes h_table_lives h_table_shields h_table_effects h_table_numbers h_table_players h_table_against h_history_deeds h_history_anew r_h_shelf_cards v_today v_kinds_count v_kinds_effects v_kinds_numbers v_kinds_bans v_shelf_cards v_table_size v_table_effects v_table_numbers v_table_players v_table_against v_history_count v_history_deeds)) ⟨hx, hb, hml, hown, hts⟩ (oX8_needKind l hlt dC dI cI cJ cZ cG h h_kinds h_shelf h_table h_orders h_history h_draft h_wishes h_matches h_kinds_effects h_kinds_numbers h_kinds_bans v_today v_kinds_count H.size p2 (Sum.inr (E_6, ())) hc_5) (cwV 1 hts gX8_play_X8_needKind rfl rfl rfl (by decide +kernel) ⟨Nat.le_of_ble_eq_true rfl, Nat.le_of_ble_eq_true rfl⟩) hK 0 8 rfl rfl rfl hP hD hS hA hT [0, 1] [2, 3, 4, 5, 6, 7, 8, 9, 10, 11, 12, 13, 14, 15, 16, 17, 18, 19] [18, 19, 0, 1, 2, 3, 4, 5, 6, 7, 8, 9, 10, 11, 12, 13, 14, 15, 16, 17] rfl rfl rfl rfl (by decide) rfl rfl rfl hl.1 rfl (Nat.le_of_ble_eq_true rfl) dX8_play_6 ⟨Nat.le_of_ble_eq_true rfl, Nat.le_of_ble_eq_true rfl⟩ (fun ce q9 H locs hP hD hS h7 h8 h9 => ?_)
    exact w_xout (u0 := (v_table_size, v_table_effects, v_table_numbers, v_table_players, v_table_against, v_history_count, v_history_deeds)) hnot hlocks h7 h8 h9 hP hD hS (Nat.le_of_ble_eq_true rfl) (Nat.le_of_ble_eq_true rfl)
  refine w_callXVv_ok (As := [.int p2]) (rest := []) (wr := List.filterMap (fun i : Nat => (wcX8_play cI cJ cZ cG h h_kinds h_shelf h_table h_orders h_history h_draft h_wishes h_matches h_kinds_effects h_kinds_numbers h_kinds_bans h_shelf_cards h_shelf_decks h_shelf_deckSizes h_table_lives h_table_shields h_table_effects h_table_numbers h_table_players h_table_against h_history_deeds h_history_anew r_h_shelf_cards v_today v_kinds_count v_kinds_effects v_kinds_numbers v_kinds_bans v_shelf_cards v_table_size v_table_effects v_table_numbers v_table_players v_table_against v_history_count v_history_deeds)[i]?) [2, 3, 4, 5, 6, 7, 8, 9, 10, 11, 12, 13, 14, 15, 16, 17, 18, 19]) (ws1 := (wcX8_play cI cJ cZ cG h h_kinds h_shelf h_table h_orders h_history h_draft h_wishes h_matches h_kinds_effects h_kinds_numbers h_kinds_bans h_shelf_cards h_shelf_decks h_shelf_deckSizes h_table_lives h_table_shields h_table_effects h_table_numbers h_table_players h_table_against h_history_deeds h_history_anew r_h_shelf_cards v_today v_kinds_count v_kinds_effects v_kinds_numbers v_kinds_bans v_shelf_cards v_table_size v_table_effects v_table_numbers v_table_players v_table_against v_history_count v_history_deeds)) ⟨hx, hb, hml, hown, hts⟩ (oX8_needKind l hlt dC dI cI cJ cZ cG h h_kinds h_shelf h_table h_orders h_history h_draft h_wishes h_matches h_kinds_effects h_kinds_numbers h_kinds_bans v_today v_kinds_count H.size p2 (Sum.inl ((), ())) hc_5) (cwV 1 hts gX8_play_X8_needKind rfl rfl rfl (by decide +kernel) ⟨Nat.le_of_ble_eq_true rfl, Nat.le_of_ble_eq_true rfl⟩) hK 0 8 rfl rfl rfl hP hD hS hA hT [0, 1] [2, 3, 4, 5, 6, 7, 8, 9, 10, 11, 12, 13, 14, 15, 16, 17, 18, 19] [18, 19, 0, 1, 2, 3, 4, 5, 6, 7, 8, 9, 10, 11, 12, 13, 14, 15, 16, 17] rfl rfl rfl rfl (by decide) rfl rfl rfl hl.1 rfl (Nat.le_of_ble_eq_true rfl) dX8_play_6 ⟨Nat.le_of_ble_eq_true rfl, Nat.le_of_ble_eq_true rfl⟩ (fun H locs hP hD hS => ?_)
  refine lv_iload_n hx hb dX8_play_9 rfl (lv_at hl 3 rfl) ?_
  obtain ⟨o_7, hc_8, hf⟩ := ob_s hf
  rcases xo_cs o_7 with ⟨E_9, rfl⟩ | rfl
  · have hf : some (Sum.inr (E_9, (v_table_size, v_table_effects, v_table_numbers, v_table_players, v_table_against, v_history_count, v_history_deeds))) = some o := hf
    cases hf
    refine w_callXSv_thr (As := [.int p3]) (rest := []) ⟨hx, hb, hml, hown, hts⟩ (oX8_needPlayer l hlt dC dI cI cJ cZ cG H.size p3 (Sum.inr (E_9, ())) hc_8) (va_cwS 1 hts gX8_play_X8_needPlayer rfl rfl rfl (by decide +kernel) ⟨Nat.le_of_ble_eq_true rfl, Nat.le_of_ble_eq_true rfl⟩) hK hP hS hA hT rfl hl.1 rfl (Nat.le_of_ble_eq_true rfl) dX8_play_10 ⟨Nat.le_of_ble_eq_true rfl, Nat.le_of_ble_eq_true rfl⟩ (fun ce q9 H locs hP hS h7 h8 h9 => ?_)
    exact w_xout (u0 := (v_table_size, v_table_effects, v_table_numbers, v_table_players, v_table_against, v_history_count, v_history_deeds)) hnot hlocks h7 h8 h9 hP hD hS (Nat.le_of_ble_eq_true rfl) (Nat.le_of_ble_eq_true rfl)
  refine w_callXSv_ok (As := [.int p3]) (rest := []) ⟨hx, hb, hml, hown, hts⟩ (oX8_needPlayer l hlt dC dI cI cJ cZ cG H.size p3 (Sum.inl ((), ())) hc_8) (va_cwS 1 hts gX8_play_X8_needPlayer rfl rfl rfl (by decide +kernel) ⟨Nat.le_of_ble_eq_true rfl, Nat.le_of_ble_eq_true rfl⟩) hK hP hS hA hT rfl hl.1 rfl (Nat.le_of_ble_eq_true rfl) dX8_play_10 ⟨Nat.le_of_ble_eq_true rfl, Nat.le_of_ble_eq_true rfl⟩ (fun H locs hP hS => ?_)
  refine lv_aload_n hx hb dX8_play_13 rfl (lv_at hl 0 rfl) ?_
  refine va_get (D := (dC, dI)) (ci := 8) (v := .ref h_shelf) (C := RX8) (T := TX8) (N := 9) hx hb hts iX8_play_X8 hown hK hP 0 rfl rfl 1 (by decide) (hts _ mX8_play_0) (fun _ h9 => h9) rfl dX8_play_14 ?_
  refine va_get (D := (dC, dI)) (ci := 5) (v := .ref h_shelf_cards) (C := RX5) (T := TX5) (N := 3) hx hb hts iX8_play_X5 hown hK hP 5 rfl rfl 0 (by decide) (hts _ mX8_play_1) (fun _ h9 => h9) rfl dX8_play_17 ?_
  refine lv_iload_n hx hb dX8_play_20 rfl (lv_at hl 1 rfl) ?_
  obtain ⟨hg_10, hf⟩ := ck_s hf
  refine w_aald hx hb hK hP 6 3 rfl rfl (g_vp hg_10) dX8_play_21 ?_
  refine lv_iload_n hx hb dX8_play_22 rfl (lv_at hl 2 rfl) ?_
  obtain ⟨hg_11, hf⟩ := ck_s hf
  refine va_iald (D := (dC, dI)) hx hb hK hP (14 + p1.toNatClampNeg) 0 (fin6 (P := fun j => (wcX8_play cI cJ cZ cG h h_kinds h_shelf h_table h_orders h_history h_draft h_wishes h_matches h_kinds_effects h_kinds_numbers h_kinds_bans h_shelf_cards h_shelf_decks h_shelf_deckSizes h_table_lives h_table_shields h_table_effects h_table_numbers h_table_players h_table_against h_history_deeds h_history_anew r_h_shelf_cards v_today v_kinds_count v_kinds_effects v_kinds_numbers v_kinds_bans v_shelf_cards v_table_size v_table_effects v_table_numbers v_table_players v_table_against v_history_count v_history_deeds)[14 + j]? = some (r_h_shelf_cards j, .inl (cI, 20, .inl (v_shelf_cards j)))) rfl rfl rfl rfl rfl rfl _ (g_lt hg_10)) rfl (g_vp hg_11) dX8_play_23 ?_
  refine lv_iconst (v := 1) hx hb dX8_play_24 (by decide) ?_
  refine lv_icmp_ge (tgt := 38) hx hb dX8_play_25 (by decide) (fun c_12 => ?_) (fun c_12 => ?_)
  · have hf := it_t hf c_12
    refine lv_aload_n hx hb dX8_play_38 rfl (lv_at hl 0 rfl) ?_
    refine va_get (D := (dC, dI)) (ci := 8) (v := .ref h_kinds) (C := RX8) (T := TX8) (N := 9) hx hb hts iX8_play_X8 hown hK hP 0 rfl rfl 0 (by decide) (hts _ mX8_play_2) (fun _ h9 => h9) rfl dX8_play_39 ?_
    refine lv_iload_n hx hb dX8_play_42 rfl (lv_at hl 2 rfl) ?_
    refine lv_aload_n hx hb dX8_play_43 rfl (lv_at hl 0 rfl) ?_
    refine va_get (D := (dC, dI)) (ci := 8) (v := .int v_today) (C := RX8) (T := TX8) (N := 9) hx hb hts iX8_play_X8 hown hK hP 0 rfl rfl 8 (by decide) (hts _ mX8_play_3) (fun _ h9 => h9) rfl dX8_play_44 ?_
    obtain ⟨r_13, hc_14, hf⟩ := ob_s hf
    refine w_callVz (As := [.int p2, .int v_today]) (rest := []) (wr := List.filterMap (fun i : Nat => (wcX8_play cI cJ cZ cG h h_kinds h_shelf h_table h_orders h_history h_draft h_wishes h_matches h_kinds_effects h_kinds_numbers h_kinds_bans h_shelf_cards h_shelf_decks h_shelf_deckSizes h_table_lives h_table_shields h_table_effects h_table_numbers h_table_players h_table_against h_history_deeds h_history_anew r_h_shelf_cards v_today v_kinds_count v_kinds_effects v_kinds_numbers v_kinds_bans v_shelf_cards v_table_size v_table_effects v_table_numbers v_table_players v_table_against v_history_count v_history_deeds)[i]?) [0, 2, 3, 5, 6, 7, 8, 9, 10, 11, 12, 13, 14, 15, 16, 17, 18, 19]) (ws1 := (wcX8_play cI cJ cZ cG h h_kinds h_shelf h_table h_orders h_history h_draft h_wishes h_matches h_kinds_effects h_kinds_numbers h_kinds_bans h_shelf_cards h_shelf_decks h_shelf_deckSizes h_table_lives h_table_shields h_table_effects h_table_numbers h_table_players h_table_against h_history_deeds h_history_anew r_h_shelf_cards v_today v_kinds_count v_kinds_effects v_kinds_numbers v_kinds_bans v_shelf_cards v_table_size v_table_effects v_table_numbers v_table_players v_table_against v_history_count v_history_deeds)) ⟨hx, hb, hml, hown, hts⟩ (oX2_isBanned l dC dI cI cJ cZ cG h_kinds h_kinds_effects h_kinds_numbers h_kinds_bans v_kinds_count v_kinds_bans H.size p2 v_today r_13 hc_14) (cwV 2 hts gX8_play_X2_isBanned rfl rfl rfl (by decide +kernel) ⟨Nat.le_of_ble_eq_true rfl, Nat.le_of_ble_eq_true rfl⟩) hK 0 2 rfl rfl rfl hP hD hS hA [1, 4] [0, 2, 3, 5, 6, 7, 8, 9, 10, 11, 12, 13, 14, 15, 16, 17, 18, 19] [0, 18, 1, 2, 19, 3, 4, 5, 6, 7, 8, 9, 10, 11, 12, 13, 14, 15, 16, 17] rfl rfl rfl rfl (by decide) rfl rfl rfl hl.1 rfl (Nat.le_of_ble_eq_true rfl) dX8_play_47 ⟨Nat.le_of_ble_eq_true rfl, Nat.le_of_ble_eq_true rfl⟩ (fun hz_15 H locs hP hD hS => ?_)
    refine lv_if_eq (tgt := 63) hx hb dX8_play_50 (by decide) (fun c_16 => ?_) (fun c_16 => ?_)
    · have hf := it_t hf c_16
      refine lv_aload_n hx hb dX8_play_63 rfl (lv_at hl 0 rfl) ?_
      refine va_get (D := (dC, dI)) (ci := 8) (v := .ref h_table) (C := RX8) (T := TX8) (N := 9) hx hb hts iX8_play_X8 hown hK hP 0 rfl rfl 2 (by decide) (hts _ mX8_play_4) (fun _ h9 => h9) rfl dX8_play_64 ?_
      refine va_get (D := (dC, dI)) (ci := 6) (v := .int v_table_size) (C := RX6) (T := TX6) (N := 7) hx hb hts iX8_play_X6 hown hK hP 7 rfl rfl 6 (by decide) (hts _ mX8_play_5) (fun _ h9 => h9) rfl dX8_play_67 ?_
      refine lv_bipush (v := 6) hx hb dX8_play_70 (by decide) ?_
      refine lv_icmp_lt (tgt := 85) hx hb dX8_play_72 (by decide) (fun c_17 => ?_) (fun c_17 => ?_)
      · have hf := it_t hf c_17
        refine lv_aload_n hx hb dX8_play_85 rfl (lv_at hl 0 rfl) ?_
        refine va_get (D := (dC, dI)) (ci := 8) (v := .ref h_table) (C := RX8) (T := TX8) (N := 9) hx hb hts iX8_play_X8 hown hK hP 0 rfl rfl 2 (by decide) (hts _ mX8_play_4) (fun _ h9 => h9) rfl dX8_play_86 ?_
        refine lv_aload_n hx hb dX8_play_89 rfl (lv_at hl 0 rfl) ?_
        refine va_get (D := (dC, dI)) (ci := 8) (v := .ref h_kinds) (C := RX8) (T := TX8) (N := 9) hx hb hts iX8_play_X8 hown hK hP 0 rfl rfl 0 (by decide) (hts _ mX8_play_2) (fun _ h9 => h9) rfl dX8_play_90 ?_
        refine va_get (D := (dC, dI)) (ci := 2) (v := .ref h_kinds_effects) (C := RX2) (T := TX2) (N := 4) hx hb hts iX8_play_X2 hown hK hP 1 rfl rfl 0 (by decide) (hts _ mX8_play_6) (fun _ h9 => h9) rfl dX8_play_93 ?_
        refine lv_iload_n hx hb dX8_play_96 rfl (lv_at hl 2 rfl) ?_
        obtain ⟨hg_18, hf⟩ := ck_s hf
        refine va_iald (D := (dC, dI)) hx hb hK hP 2 0 rfl rfl (g_vp hg_18) dX8_play_97 ?_
        refine lv_aload_n hx hb dX8_play_98 rfl (lv_at hl 0 rfl) ?_
        refine va_get (D := (dC, dI)) (ci := 8) (v := .ref h_kinds) (C := RX8) (T := TX8) (N := 9) hx hb hts iX8_play_X8 hown hK hP 0 rfl rfl 0 (by decide) (hts _ mX8_play_2) (fun _ h9 => h9) rfl dX8_play_99 ?_
        refine va_get (D := (dC, dI)) (ci := 2) (v := .ref h_kinds_numbers) (C := RX2) (T := TX2) (N := 4) hx hb hts iX8_play_X2 hown hK hP 1 rfl rfl 1 (by decide) (hts _ mX8_play_7) (fun _ h9 => h9) rfl dX8_play_102 ?_
        refine lv_iload_n hx hb dX8_play_105 rfl (lv_at hl 2 rfl) ?_
        obtain ⟨hg_19, hf⟩ := ck_s hf
        refine va_iald (D := (dC, dI)) hx hb hK hP 3 0 rfl rfl (g_vp hg_19) dX8_play_106 ?_
        refine lv_iload_n hx hb dX8_play_107 rfl (lv_at hl 1 rfl) ?_
        refine lv_iload_n hx hb dX8_play_108 rfl (lv_at hl 3 rfl) ?_
        obtain ⟨⟨w_20, w_21, w_22, w_23, w_24⟩, hc_25, hf⟩ := ob_s hf
        refine w_callVv (As := [.int (v_kinds_effects p2.toNatClampNeg), .int (v_kinds_numbers p2.toNatClampNeg), .int p1, .int p3]) (rest := []) (wr := List.filterMap (fun i : Nat => (wcX8_play cI cJ cZ cG h h_kinds h_shelf h_table h_orders h_history h_draft h_wishes h_matches h_kinds_effects h_kinds_numbers h_kinds_bans h_shelf_cards h_shelf_decks h_shelf_deckSizes h_table_lives h_table_shields h_table_effects h_table_numbers h_table_players h_table_against h_history_deeds h_history_anew r_h_shelf_cards v_today v_kinds_count v_kinds_effects v_kinds_numbers v_kinds_bans v_shelf_cards v_table_size v_table_effects v_table_numbers v_table_players v_table_against v_history_count v_history_deeds)[i]?) [0, 1, 2, 3, 4, 5, 6, 12, 13, 14, 15, 16, 17, 18, 19]) (ws1 := (wcX8_play cI cJ cZ cG h h_kinds h_shelf h_table h_orders h_history h_draft h_wishes h_matches h_kinds_effects h_kinds_numbers h_kinds_bans h_shelf_cards h_shelf_decks h_shelf_deckSizes h_table_lives h_table_shields h_table_effects h_table_numbers h_table_players h_table_against h_history_deeds h_history_anew r_h_shelf_cards v_today v_kinds_count v_kinds_effects v_kinds_numbers v_kinds_bans v_shelf_cards w_20 w_21 w_22 w_23 w_24 v_history_count v_history_deeds)) ⟨hx, hb, hml, hown, hts⟩ (oX6_lay l dC dI cI cJ cZ cG h_table h_table_lives h_table_shields h_table_effects h_table_numbers h_table_players h_table_against v_table_size v_table_effects v_table_numbers v_table_players v_table_against H.size (v_kinds_effects p2.toNatClampNeg) (v_kinds_numbers p2.toNatClampNeg) p1 p3 w_20 w_21 w_22 w_23 w_24 hc_25) (cwV 4 hts gX8_play_X6_lay rfl rfl rfl (by decide +kernel) ⟨Nat.le_of_ble_eq_true rfl, Nat.le_of_ble_eq_true rfl⟩) hK 0 6 rfl rfl rfl hP hD hS hA [7, 8, 9, 10, 11] [0, 1, 2, 3, 4, 5, 6, 12, 13, 14, 15, 16, 17, 18, 19] [0, 1, 2, 3, 4, 5, 6, 15, 16, 17, 18, 19, 7, 8, 9, 10, 11, 12, 13, 14] rfl rfl rfl rfl (by decide) rfl rfl rfl hl.1 rfl (Nat.le_of_ble_eq_true rfl) dX8_play_109 ⟨Nat.le_of_ble_eq_true rfl, Nat.le_of_ble_eq_true rfl⟩ (fun H locs hP hD hS => ?_)
        refine lv_aload_n hx hb dX8_play_112 rfl (lv_at hl 0 rfl) ?_
        refine va_get (D := (dC, dI)) (ci := 8) (v := .ref h_history) (C := RX8) (T := TX8) (N := 9) hx hb hts iX8_play_X8 hown hK hP 0 rfl rfl 4 (by decide) (hts _ mX8_play_8) (fun _ h9 => h9) rfl dX8_play_113 ?_
        refine lv_aload_n hx hb dX8_play_116 rfl (lv_at hl 0 rfl) ?_
        refine va_get (D := (dC, dI)) (ci := 8) (v := .ref h_kinds) (C := RX8) (T := TX8) (N := 9) hx hb hts iX8_play_X8 hown hK hP 0 rfl rfl 0 (by decide) (hts _ mX8_play_2) (fun _ h9 => h9) rfl dX8_play_117 ?_
        refine va_get (D := (dC, dI)) (ci := 2) (v := .ref h_kinds_effects) (C := RX2) (T := TX2) (N := 4) hx hb hts iX8_play_X2 hown hK hP 1 rfl rfl 0 (by decide) (hts _ mX8_play_6) (fun _ h9 => h9) rfl dX8_play_120 ?_
        refine lv_iload_n hx hb dX8_play_123 rfl (lv_at hl 2 rfl) ?_
        obtain ⟨hg_26, hf⟩ := ck_s hf
        refine va_iald (D := (dC, dI)) hx hb hK hP 2 0 rfl rfl (g_vp hg_26) dX8_play_124 ?_
        refine lv_aload_n hx hb dX8_play_125 rfl (lv_at hl 0 rfl) ?_
        refine va_get (D := (dC, dI)) (ci := 8) (v := .ref h_kinds) (C := RX8) (T := TX8) (N := 9) hx hb hts iX8_play_X8 hown hK hP 0 rfl rfl 0 (by decide) (hts _ mX8_play_2) (fun _ h9 => h9) rfl dX8_play_126 ?_
        refine va_get (D := (dC, dI)) (ci := 2) (v := .ref h_kinds_numbers) (C := RX2) (T := TX2) (N := 4) hx hb hts iX8_play_X2 hown hK hP 1 rfl rfl 1 (by decide) (hts _ mX8_play_7) (fun _ h9 => h9) rfl dX8_play_129 ?_
        refine lv_iload_n hx hb dX8_play_132 rfl (lv_at hl 2 rfl) ?_
        obtain ⟨hg_27, hf⟩ := ck_s hf
        refine va_iald (D := (dC, dI)) hx hb hK hP 3 0 rfl rfl (g_vp hg_27) dX8_play_133 ?_
        refine lv_iload_n hx hb dX8_play_134 rfl (lv_at hl 1 rfl) ?_
        refine lv_iload_n hx hb dX8_play_135 rfl (lv_at hl 3 rfl) ?_
        obtain ⟨⟨w_28, w_29⟩, hc_30, hf⟩ := ob_s hf
        refine w_callVv (As := [.int (v_kinds_effects p2.toNatClampNeg), .int (v_kinds_numbers p2.toNatClampNeg), .int p1, .int p3]) (rest := []) (wr := List.filterMap (fun i : Nat => (wcX8_play cI cJ cZ cG h h_kinds h_shelf h_table h_orders h_history h_draft h_wishes h_matches h_kinds_effects h_kinds_numbers h_kinds_bans h_shelf_cards h_shelf_decks h_shelf_deckSizes h_table_lives h_table_shields h_table_effects h_table_numbers h_table_players h_table_against h_history_deeds h_history_anew r_h_shelf_cards v_today v_kinds_count v_kinds_effects v_kinds_numbers v_kinds_bans v_shelf_cards w_20 w_21 w_22 w_23 w_24 v_history_count v_history_deeds)[i]?) [0, 1, 2, 3, 4, 5, 6, 7, 8, 9, 10, 11, 14, 15, 16, 17, 18, 19]) (ws1 := (wcX8_play cI cJ cZ cG h h_kinds h_shelf h_table h_orders h_history h_draft h_wishes h_matches h_kinds_effects h_kinds_numbers h_kinds_bans h_shelf_cards h_shelf_decks h_shelf_deckSizes h_table_lives h_table_shields h_table_effects h_table_numbers h_table_players h_table_against h_history_deeds h_history_anew r_h_shelf_cards v_today v_kinds_count v_kinds_effects v_kinds_numbers v_kinds_bans v_shelf_cards w_20 w_21 w_22 w_23 w_24 w_28 w_29)) ⟨hx, hb, hml, hown, hts⟩ (oX1_addPlay l dC dI cI cJ cZ cG h_history h_history_deeds h_history_anew v_history_count v_history_deeds H.size (v_kinds_effects p2.toNatClampNeg) (v_kinds_numbers p2.toNatClampNeg) p1 p3 w_28 w_29 hc_30) (cwV 4 hts gX8_play_X1_addPlay rfl rfl rfl (by decide +kernel) ⟨Nat.le_of_ble_eq_true rfl, Nat.le_of_ble_eq_true rfl⟩) hK 0 1 rfl rfl rfl hP hD hS hA [12, 13] [0, 1, 2, 3, 4, 5, 6, 7, 8, 9, 10, 11, 14, 15, 16, 17, 18, 19] [0, 1, 2, 3, 4, 5, 6, 7, 8, 9, 10, 11, 18, 19, 12, 13, 14, 15, 16, 17] rfl rfl rfl rfl (by decide) rfl rfl rfl hl.1 rfl (Nat.le_of_ble_eq_true rfl) dX8_play_136 ⟨Nat.le_of_ble_eq_true rfl, Nat.le_of_ble_eq_true rfl⟩ (fun H locs hP hD hS => ?_)
        refine lv_aload_n hx hb dX8_play_139 rfl (lv_at hl 0 rfl) ?_
        refine va_get (D := (dC, dI)) (ci := 8) (v := .ref h_table) (C := RX8) (T := TX8) (N := 9) hx hb hts iX8_play_X8 hown hK hP 0 rfl rfl 2 (by decide) (hts _ mX8_play_4) (fun _ h9 => h9) rfl dX8_play_140 ?_
        refine va_get (D := (dC, dI)) (ci := 6) (v := .int w_20) (C := RX6) (T := TX6) (N := 7) hx hb hts iX8_play_X6 hown hK hP 7 rfl rfl 6 (by decide) (hts _ mX8_play_5) (fun _ h9 => h9) rfl dX8_play_143 ?_
        have hf : some (Sum.inl (w_20, (w_20, w_21, w_22, w_23, w_24, w_28, w_29))) = some o := hf
        cases hf
        exact w_xiret (u0 := (w_20, w_21, w_22, w_23, w_24, w_28, w_29)) hx hb hr hlocks hP hD hS (Nat.le_of_ble_eq_true rfl) (Nat.le_of_ble_eq_true rfl) dX8_play_146
      · have hf := it_f hf c_17
        have hf : some (Sum.inr ("java/lang/IllegalStateException", (v_table_size, v_table_effects, v_table_numbers, v_table_players, v_table_against, v_history_count, v_history_deeds))) = some o := hf
        cases hf
        exact w_throwS (RT := Int32) (u0 := (v_table_size, v_table_effects, v_table_numbers, v_table_players, v_table_against, v_history_count, v_history_deeds)) (cls := "java/lang/IllegalStateException") (text := "there are 6 plays on the stack") (names := ["java/lang/RuntimeException", "java/lang/Exception"]) (ik := 78) (is := 129) (ic := 82) (own := "") hx hb hlt hown (by decide +kernel) (by decide +kernel) (hts _ mX8_play_9) (hts _ mX8_play_10) hT (by decide +kernel) (fun w hw => hts w (xwX8_play_ISE w hw)) (by decide) xb_ISE xg_ISE (hl.1.trans hml.symm) hnot hlocks dX8_play_75 dX8_play_78 dX8_play_79 dX8_play_81 dX8_play_84 (by decide) (by decide) (by decide) (by decide) (by decide) (by decide) hP hD hS
    · have hf := it_f hf c_16
      have hf : some (Sum.inr ("java/lang/IllegalStateException", (v_table_size, v_table_effects, v_table_numbers, v_table_players, v_table_against, v_history_count, v_history_deeds))) = some o := hf
      cases hf
      exact w_throwS (RT := Int32) (u0 := (v_table_size, v_table_effects, v_table_numbers, v_table_players, v_table_against, v_history_count, v_history_deeds)) (cls := "java/lang/IllegalStateException") (text := "the card is banned") (names := ["java/lang/RuntimeException", "java/lang/Exception"]) (ik := 78) (is := 124) (ic := 82) (own := "") hx hb hlt hown (by decide +kernel) (by decide +kernel) (hts _ mX8_play_9) (hts _ mX8_play_10) hT (by decide +kernel) (fun w hw => hts w (xwX8_play_ISE w hw)) (by decide) xb_ISE xg_ISE (hl.1.trans hml.symm) hnot hlocks dX8_play_53 dX8_play_56 dX8_play_57 dX8_play_59 dX8_play_62 (by decide) (by decide) (by decide) (by decide) (by decide) (by decide) hP hD hS
  · have hf := it_f hf c_12
    have hf : some (Sum.inr ("java/lang/IllegalStateException", (v_table_size, v_table_effects, v_table_numbers, v_table_players, v_table_against, v_history_count, v_history_deeds))) = some o := hf
    cases hf
    exact w_throwS (RT := Int32) (u0 := (v_table_size, v_table_effects, v_table_numbers, v_table_players, v_table_against, v_history_count, v_history_deeds)) (cls := "java/lang/IllegalStateException") (text := "the card is not in the collection") (names := ["java/lang/RuntimeException", "java/lang/Exception"]) (ik := 78) (is := 118) (ic := 82) (own := "") hx hb hlt hown (by decide +kernel) (by decide +kernel) (hts _ mX8_play_9) (hts _ mX8_play_10) hT (by decide +kernel) (fun w hw => hts w (xwX8_play_ISE w hw)) (by decide) xb_ISE xg_ISE (hl.1.trans hml.symm) hnot hlocks dX8_play_28 dX8_play_31 dX8_play_32 dX8_play_34 dX8_play_37 (by decide) (by decide) (by decide) (by decide) (by decide) (by decide) hP hD hS
abbrev wcX8_top (cI cJ cZ cG : ClassId) (h h_kinds h_shelf h_table h_orders h_history h_draft h_wishes h_matches h_table_lives h_table_shields h_table_effects h_table_numbers h_table_players h_table_against h_history_deeds h_history_anew : Nat) (v_today : Int32) (v_table_size : Int32) (v_table_lives : Nat → Int32) (v_table_shields : Nat → Int32) (v_table_effects : Nat → Int32) (v_table_numbers : Nat → Int32) (v_table_players : Nat → Int32) (v_table_against : Nat → Int32) (v_history_count : Int32) (v_history_deeds : Nat → Int32) : va_W := [(h, .inr (8, [.ref h_kinds, .ref h_shelf, .ref h_table, .ref h_orders, .ref h_history, .ref h_draft, .ref h_wishes, .ref h_matches, .int v_today])), (h_table, .inr (6, [.ref h_table_lives, .ref h_table_shields, .ref h_table_effects, .ref h_table_numbers, .ref h_table_players, .ref h_table_against, .int v_table_size])), (h_table_lives, .inl (cI, 6, .inl v_table_lives)), (h_table_shields, .inl (cI, 6, .inl v_table_shields)), (h_table_effects, .inl (cI, 6, .inl v_table_effects)), (h_table_numbers, .inl (cI, 6, .inl v_table_numbers)), (h_table_players, .inl (cI, 6, .inl v_table_players)), (h_table_against, .inl (cI, 6, .inl v_table_against)), (h_history, .inr (1, [.ref h_history_deeds, .ref h_history_anew, .int v_history_count])), (h_history_deeds, .inl (cI, 512, .inl v_history_deeds))]
theorem iX8_top_X8 : ∀ w ∈ wsX80, w ∈ wsX8_top := by decide +kernel
theorem iX8_top_X6 : ∀ w ∈ wsX60, w ∈ wsX8_top := by decide +kernel
theorem mX8_top_0 : (Cond.fieldLink RX8 26 "Sleevehall" "table" "LSleevehall$Table;") ∈ wsX8_top := by decide +kernel
theorem mX8_top_1 : (Cond.fieldLink RX8 126 "Sleevehall$Table" "size" "I") ∈ wsX8_top := by decide +kernel
theorem mX8_top_2 : (Cond.fieldLink RX8 40 "Sleevehall" "history" "LSleevehall$History;") ∈ wsX8_top := by decide +kernel
theorem mX8_top_3 : (Cond.classLink RX8 78 "java/lang/IllegalStateException") ∈ wsX8_top := by decide +kernel
theorem mX8_top_4 : (Cond.initialized "java/lang/IllegalStateException") ∈ wsX8_top := by decide +kernel
theorem xwX8_top_ISE : ∀ w ∈ (vx_atS RX8 82 "java/lang/IllegalStateException" ["java/lang/RuntimeException", "java/lang/Exception"]).filter goodWord, w ∈ wsX8_top := by decide +kernel
abbrev rmX8_top : Room := { frames := 6, cells := 1, slots := 6, locals := 92 }
set_option maxHeartbeats 4000000 in
set_option maxRecDepth 100000 in
theorem oX8_top (l : Launch) (hlt : l.stackTraces = false) (dC : Nat → ClassId) (dI : Nat → Nat → Nat) (cI cJ cZ cG : ClassId) (h h_kinds h_shelf h_table h_orders h_history h_draft h_wishes h_matches h_table_lives h_table_shields h_table_effects h_table_numbers h_table_players h_table_against h_history_deeds h_history_anew : Nat) (v_today : Int32) (v_table_size : Int32) (v_table_lives : Nat → Int32) (v_table_shields : Nat → Int32) (v_table_effects : Nat → Int32) (v_table_numbers : Nat → Int32) (v_table_players : Nat → Int32) (v_table_against : Nat → Int32) (v_history_count : Int32) (v_history_deeds : Nat → Int32) (sz : Nat) (o : (Int32 × Int32 × (Nat → Int32) × (Nat → Int32) × (Nat → Int32) × (Nat → Int32) × (Nat → Int32) × (Nat → Int32) × Int32 × (Nat → Int32)) ⊕ (String × Int32 × (Nat → Int32) × (Nat → Int32) × (Nat → Int32) × (Nat → Int32) × (Nat → Int32) × (Nat → Int32) × Int32 × (Nat → Int32))) (hf : fX8_top v_table_size v_table_lives v_table_shields v_table_effects v_table_numbers v_table_players v_table_against v_history_count v_history_deeds = some o) : vx_Met l yX8_top wsX8_top rmX8_top (wXPc [.ref h] (dC, dI) (tysW cI cJ cZ cG) sz (wcX8_top cI cJ cZ cG h h_kinds h_shelf h_table h_orders h_history h_draft h_wishes h_matches h_table_lives h_table_shields h_table_effects h_table_numbers h_table_players h_table_against h_history_deeds h_history_anew v_today v_table_size v_table_lives v_table_shields v_table_effects v_table_numbers v_table_players v_table_against v_history_count v_history_deeds)) (wXQi o (fun u : Int32 × (Nat → Int32) × (Nat → Int32) × (Nat → Int32) × (Nat → Int32) × (Nat → Int32) × (Nat → Int32) × Int32 × (Nat → Int32) => (wcX8_top cI cJ cZ cG h h_kinds h_shelf h_table h_orders h_history h_draft h_wishes h_matches h_table_lives h_table_shields h_table_effects h_table_numbers h_table_players h_table_against h_history_deeds h_history_anew v_today (u.1) (u.2.1) (u.2.2.1) (u.2.2.2.1) (u.2.2.2.2.1) (u.2.2.2.2.2.1) (u.2.2.2.2.2.2.1) (u.2.2.2.2.2.2.2.1) (u.2.2.2.2.2.2.2.2))) (dC, dI) (va_A (wcX8_top cI cJ cZ cG h h_kinds h_shelf h_table h_orders h_history h_draft h_wishes h_matches h_table_lives h_table_shields h_table_effects h_table_numbers h_table_players h_table_against h_history_deeds h_history_anew v_today v_table_size v_table_lives v_table_shields v_table_effects v_table_numbers v_table_players v_table_against v_history_count v_history_deeds) sz)) (wXX o (fun u : Int32 × (Nat → Int32) × (Nat → Int32) × (Nat → Int32) × (Nat → Int32) × (Nat → Int32) × (Nat → Int32) × Int32 × (Nat → Int32) => (wcX8_top cI cJ cZ cG h h_kinds h_shelf h_table h_orders h_history h_draft h_wishes h_matches h_table_lives h_table_shields h_table_effects h_table_numbers h_table_players h_table_against h_history_deeds h_history_anew v_today (u.1) (u.2.1) (u.2.2.1) (u.2.2.2.1) (u.2.2.2.2.1) (u.2.2.2.2.2.1) (u.2.2.2.2.2.2.1) (u.2.2.2.2.2.2.2.1) (u.2.2.2.2.2.2.2.2))) (dC, dI) (va_A (wcX8_top cI cJ cZ cG h h_kinds h_shelf h_table h_orders h_history h_draft h_wishes h_matches h_table_lives h_table_shields h_table_effects h_table_numbers h_table_players h_table_against h_history_deeds h_history_anew v_today v_table_size v_table_lives v_table_shields v_table_effects v_table_numbers v_table_players v_table_against v_history_count v_history_deeds) sz)) 1 6 (va_A (wcX8_top cI cJ cZ cG h h_kinds h_shelf h_table h_orders h_history h_draft h_wishes h_matches h_table_lives h_table_shields h_table_effects h_table_numbers h_table_players h_table_against h_history_deeds h_history_anew v_today v_table_size v_table_lives v_table_shields v_table_effects v_table_numbers v_table_players v_table_against v_history_count v_history_deeds) sz) := by
  refine vx_ofW (cc := cX8_top) (maxL := 1) (ret := (some .int)) (by decide) rfl ?_
  intro p e s m args below meth c s₁ B hml hnot hv
  obtain ⟨rfl, hsz, hP, hK, hD0, hT⟩ := hv
  have hx := B.exec
  have hb := B.bytes
  have hr := B.returns
  have hts := atoms_spec (ws := wsX8_top) B.pre
  have hown : s.vm.findClass RX8 = some m.cls := findClass_of_methodNamed B.named
  have hlocks := B.notSynchronized
  subst hsz
  have hD := hD0.self (sz := s.heap.size)
  generalize hAe : va_A (wcX8_top cI cJ cZ cG h h_kinds h_shelf h_table h_orders h_history h_draft h_wishes h_matches h_table_lives h_table_shields h_table_effects h_table_numbers h_table_players h_table_against h_history_deeds h_history_anew v_today v_table_size v_table_lives v_table_shields v_table_effects v_table_numbers v_table_players v_table_against v_history_count v_history_deeds) s.heap.size = A at hD hT ⊢
  have hA : ∀ q : Nat, s.heap.size ≤ q → A q := fun q h => by rw [← hAe]; exact Or.inr h
  have hS : va_S A s.heap s.heap [] := va_S.rf
  have hP : va_P (dC, dI) vwCl (wcX8_top cI cJ cZ cG h h_kinds h_shelf h_table h_orders h_history h_draft h_wishes h_matches h_table_lives h_table_shields h_table_effects h_table_numbers h_table_players h_table_against h_history_deeds h_history_anew v_today v_table_size v_table_lives v_table_shields v_table_effects v_table_numbers v_table_players v_table_against v_history_count v_history_deeds) s.heap := hP
  have hl := lv_entry ([.ref h]) (n := 1) (Nat.le_of_ble_eq_true rfl)
  rw [lg_entry_eq]
  generalize (lg_sl ([.ref h]) ++ List.replicate (1 - (lg_sl ([.ref h])).length) Slot.unset).toArray = ls at hl ⊢
  have hl : lv_has ls 1 [(0, .ref h)] := hl
  generalize hH : s.heap = H at hP hS ⊢
  have hS : va_S A s.heap H [] := by rw [hH]; exact hS
  have C0 : wCX p s #[.ref h] m meth c cX8_top 1 (some .int) RX8 wsX8_top := ⟨hx, hb, hr, hml, hown, hts, hlocks⟩
  show W p l e rmX8_top s m #[.ref h] below meth c H [] 0 0 (vx_MQ below (wXQi o (fun u : Int32 × (Nat → Int32) × (Nat → Int32) × (Nat → Int32) × (Nat → Int32) × (Nat → Int32) × (Nat → Int32) × Int32 × (Nat → Int32) => (wcX8_top cI cJ cZ cG h h_kinds h_shelf h_table h_orders h_history h_draft h_wishes h_matches h_table_lives h_table_shields h_table_effects h_table_numbers h_table_players h_table_against h_history_deeds h_history_anew v_today (u.1) (u.2.1) (u.2.2.1) (u.2.2.2.1) (u.2.2.2.2.1) (u.2.2.2.2.2.1) (u.2.2.2.2.2.2.1) (u.2.2.2.2.2.2.2.1) (u.2.2.2.2.2.2.2.2))) (dC, dI) A) (wXX o (fun u : Int32 × (Nat → Int32) × (Nat → Int32) × (Nat → Int32) × (Nat → Int32) × (Nat → Int32) × (Nat → Int32) × Int32 × (Nat → Int32) => (wcX8_top cI cJ cZ cG h h_kinds h_shelf h_table h_orders h_history h_draft h_wishes h_matches h_table_lives h_table_shields h_table_effects h_table_numbers h_table_players h_table_against h_history_deeds h_history_anew v_today (u.1) (u.2.1) (u.2.2.1) (u.2.2.2.1) (u.2.2.2.2.1) (u.2.2.2.2.2.1) (u.2.2.2.2.2.2.1) (u.2.2.2.2.2.2.2.1) (u.2.2.2.2.2.2.2.2))) (dC, dI) A) #[.ref h] s 1 6 A) (F0 m 0 ls [])
  unfold fX8_top at hf
  refine lv_aload_n hx hb dX8_top_0 rfl (lv_at hl 0 rfl) ?_
  refine va_get (D := (dC, dI)) (ci := 8) (v := .ref h_table) (C := RX8) (T := TX8) (N := 9) hx hb hts iX8_top_X8 hown hK hP 0 rfl rfl 2 (by decide) (hts _ mX8_top_0) (fun _ h9 => h9) rfl dX8_top_1 ?_
  refine va_get (D := (dC, dI)) (ci := 6) (v := .int v_table_size) (C := RX6) (T := TX6) (N := 7) hx hb hts iX8_top_X6 hown hK hP 1 rfl rfl 6 (by decide) (hts _ mX8_top_1) (fun _ h9 => h9) rfl dX8_top_4 ?_
  refine lv_if_ne (tgt := 20) hx hb dX8_top_7 (by decide) (fun c_1 => ?_) (fun c_1 => ?_)
  · have hf := it_f hf c_1
    refine lv_aload_n hx hb dX8_top_20 rfl (lv_at hl 0 rfl) ?_
    refine va_get (D := (dC, dI)) (ci := 8) (v := .ref h_table) (C := RX8) (T := TX8) (N := 9) hx hb hts iX8_top_X8 hown hK hP 0 rfl rfl 2 (by decide) (hts _ mX8_top_0) (fun _ h9 => h9) rfl dX8_top_21 ?_
    obtain ⟨⟨r_2, w_3, w_4, w_5, w_6, w_7, w_8, w_9⟩, hc_10, hf⟩ := ob_s hf
    refine w_callVz (As := []) (rest := []) (wr := List.filterMap (fun i : Nat => (wcX8_top cI cJ cZ cG h h_kinds h_shelf h_table h_orders h_history h_draft h_wishes h_matches h_table_lives h_table_shields h_table_effects h_table_numbers h_table_players h_table_against h_history_deeds h_history_anew v_today v_table_size v_table_lives v_table_shields v_table_effects v_table_numbers v_table_players v_table_against v_history_count v_history_deeds)[i]?) [0, 8, 9]) (ws1 := (wcX8_top cI cJ cZ cG h h_kinds h_shelf h_table h_orders h_history h_draft h_wishes h_matches h_table_lives h_table_shields h_table_effects h_table_numbers h_table_players h_table_against h_history_deeds h_history_anew v_today w_3 w_4 w_5 w_6 w_7 w_8 w_9 v_history_count v_history_deeds)) ⟨hx, hb, hml, hown, hts⟩ (oX6_doTop l dC dI cI cJ cZ cG h_table h_table_lives h_table_shields h_table_effects h_table_numbers h_table_players h_table_against v_table_size v_table_lives v_table_shields v_table_effects v_table_numbers v_table_players v_table_against H.size r_2 w_3 w_4 w_5 w_6 w_7 w_8 w_9 hc_10) (cwV 0 hts gX8_top_X6_doTop rfl rfl rfl (by decide +kernel) ⟨Nat.le_of_ble_eq_true rfl, Nat.le_of_ble_eq_true rfl⟩) hK 0 6 rfl rfl rfl hP hD hS hA [1, 2, 3, 4, 5, 6, 7] [0, 8, 9] [0, 3, 4, 5, 6, 7, 8, 9, 1, 2] rfl rfl rfl rfl (by decide) rfl rfl rfl hl.1 rfl (Nat.le_of_ble_eq_true rfl) dX8_top_24 ⟨Nat.le_of_ble_eq_true rfl, Nat.le_of_ble_eq_true rfl⟩ (fun hz_11 H locs hP hD hS => ?_)
    refine lv_if_ne (tgt := 40) hx hb dX8_top_27 (by decide) (fun c_12 => ?_) (fun c_12 => ?_)
    · have hf := it_f hf c_12
      refine lv_aload_n hx hb dX8_top_40 rfl (lv_at hl 0 rfl) ?_
      refine va_get (D := (dC, dI)) (ci := 8) (v := .ref h_history) (C := RX8) (T := TX8) (N := 9) hx hb hts iX8_top_X8 hown hK hP 0 rfl rfl 4 (by decide) (hts _ mX8_top_2) (fun _ h9 => h9) rfl dX8_top_41 ?_
      obtain ⟨⟨w_13, w_14⟩, hc_15, hf⟩ := ob_s hf
      refine w_callVv (As := []) (rest := []) (wr := List.filterMap (fun i : Nat => (wcX8_top cI cJ cZ cG h h_kinds h_shelf h_table h_orders h_history h_draft h_wishes h_matches h_table_lives h_table_shields h_table_effects h_table_numbers h_table_players h_table_against h_history_deeds h_history_anew v_today w_3 w_4 w_5 w_6 w_7 w_8 w_9 v_history_count v_history_deeds)[i]?) [0, 1, 2, 3, 4, 5, 6, 7]) (ws1 := (wcX8_top cI cJ cZ cG h h_kinds h_shelf h_table h_orders h_history h_draft h_wishes h_matches h_table_lives h_table_shields h_table_effects h_table_numbers h_table_players h_table_against h_history_deeds h_history_anew v_today w_3 w_4 w_5 w_6 w_7 w_8 w_9 w_13 w_14)) ⟨hx, hb, hml, hown, hts⟩ (oX1_addDoing l dC dI cI cJ cZ cG h_history h_history_deeds h_history_anew v_history_count v_history_deeds H.size w_13 w_14 hc_15) (cwV 0 hts gX8_top_X1_addDoing rfl rfl rfl (by decide +kernel) ⟨Nat.le_of_ble_eq_true rfl, Nat.le_of_ble_eq_true rfl⟩) hK 0 1 rfl rfl rfl hP hD hS hA [8, 9] [0, 1, 2, 3, 4, 5, 6, 7] [0, 1, 2, 3, 4, 5, 6, 7, 8, 9] rfl rfl rfl rfl (by decide) rfl rfl rfl hl.1 rfl (Nat.le_of_ble_eq_true rfl) dX8_top_44 ⟨Nat.le_of_ble_eq_true rfl, Nat.le_of_ble_eq_true rfl⟩ (fun H locs hP hD hS => ?_)
      refine lv_aload_n hx hb dX8_top_47 rfl (lv_at hl 0 rfl) ?_
      refine va_get (D := (dC, dI)) (ci := 8) (v := .ref h_table) (C := RX8) (T := TX8) (N := 9) hx hb hts iX8_top_X8 hown hK hP 0 rfl rfl 2 (by decide) (hts _ mX8_top_0) (fun _ h9 => h9) rfl dX8_top_48 ?_
      refine va_get (D := (dC, dI)) (ci := 6) (v := .int w_3) (C := RX6) (T := TX6) (N := 7) hx hb hts iX8_top_X6 hown hK hP 1 rfl rfl 6 (by decide) (hts _ mX8_top_1) (fun _ h9 => h9) rfl dX8_top_51 ?_
      have hf : some (Sum.inl (w_3, (w_3, w_4, w_5, w_6, w_7, w_8, w_9, w_13, w_14))) = some o := hf
      cases hf
      exact w_xiret (u0 := (w_3, w_4, w_5, w_6, w_7, w_8, w_9, w_13, w_14)) hx hb hr hlocks hP hD hS (Nat.le_of_ble_eq_true rfl) (Nat.le_of_ble_eq_true rfl) dX8_top_54
    · have hf := it_t hf c_12
      have hf : some (Sum.inr ("java/lang/IllegalStateException", (w_3, w_4, w_5, w_6, w_7, w_8, w_9, v_history_count, v_history_deeds))) = some o := hf
      cases hf
      exact w_throwS (RT := Int32) (u0 := (w_3, w_4, w_5, w_6, w_7, w_8, w_9, v_history_count, v_history_deeds)) (cls := "java/lang/IllegalStateException") (text := "the doing is refused") (names := ["java/lang/RuntimeException", "java/lang/Exception"]) (ik := 78) (is := 150) (ic := 82) (own := "") hx hb hlt hown (by decide +kernel) (by decide +kernel) (hts _ mX8_top_3) (hts _ mX8_top_4) hT (by decide +kernel) (fun w hw => hts w (xwX8_top_ISE w hw)) (by decide) xb_ISE xg_ISE (hl.1.trans hml.symm) hnot hlocks dX8_top_30 dX8_top_33 dX8_top_34 dX8_top_36 dX8_top_39 (by decide) (by decide) (by decide) (by decide) (by decide) (by decide) hP hD hS
  · have hf := it_t hf c_1
    have hf : some (Sum.inr ("java/lang/IllegalStateException", (v_table_size, v_table_lives, v_table_shields, v_table_effects, v_table_numbers, v_table_players, v_table_against, v_history_count, v_history_deeds))) = some o := hf
    cases hf
    exact w_throwS (RT := Int32) (u0 := (v_table_size, v_table_lives, v_table_shields, v_table_effects, v_table_numbers, v_table_players, v_table_against, v_history_count, v_history_deeds)) (cls := "java/lang/IllegalStateException") (text := "the stack is empty") (names := ["java/lang/RuntimeException", "java/lang/Exception"]) (ik := 78) (is := 144) (ic := 82) (own := "") hx hb hlt hown (by decide +kernel) (by decide +kernel) (hts _ mX8_top_3) (hts _ mX8_top_4) hT (by decide +kernel) (fun w hw => hts w (xwX8_top_ISE w hw)) (by decide) xb_ISE xg_ISE (hl.1.trans hml.symm) hnot hlocks dX8_top_10 dX8_top_13 dX8_top_14 dX8_top_16 dX8_top_19 (by decide) (by decide) (by decide) (by decide) (by decide) (by decide) hP hD hS
abbrev wcX8_bound (cI cJ cZ cG : ClassId) (h h_kinds h_shelf h_table h_orders h_history h_draft h_wishes h_matches h_table_lives h_table_shields h_table_effects h_table_numbers h_table_players h_table_against h_orders_work h_orders_work_lives h_orders_work_shields h_orders_work_effects h_orders_work_numbers h_orders_work_players h_orders_work_against : Nat) (v_today : Int32) (v_table_size : Int32) (v_table_lives : Nat → Int32) (v_table_shields : Nat → Int32) (v_table_effects : Nat → Int32) (v_table_numbers : Nat → Int32) (v_table_players : Nat → Int32) (v_table_against : Nat → Int32) (v_orders_player : Int32) (v_orders_isGreatest : Int32) (v_orders_isFound : Int32) (v_orders_best : Int32) (v_orders_work_size : Int32) (v_orders_work_lives : Nat → Int32) (v_orders_work_shields : Nat → Int32) (v_orders_work_effects : Nat → Int32) (v_orders_work_numbers : Nat → Int32) (v_orders_work_players : Nat → Int32) (v_orders_work_against : Nat → Int32) : va_W := [(h, .inr (8, [.ref h_kinds, .ref h_shelf, .ref h_table, .ref h_orders, .ref h_history, .ref h_draft, .ref h_wishes, .ref h_matches, .int v_today])), (h_table, .inr (6, [.ref h_table_lives, .ref h_table_shields, .ref h_table_effects, .ref h_table_numbers, .ref h_table_players, .ref h_table_against, .int v_table_size])), (h_table_lives, .inl (cI, 6, .inl v_table_lives)), (h_table_shields, .inl (cI, 6, .inl v_table_shields)), (h_table_effects, .inl (cI, 6, .inl v_table_effects)), (h_table_numbers, .inl (cI, 6, .inl v_table_numbers)), (h_table_players, .inl (cI, 6, .inl v_table_players)), (h_table_against, .inl (cI, 6, .inl v_table_against)), (h_orders, .inr (4, [.ref h_orders_work, .int v_orders_player, .int v_orders_isGreatest, .int v_orders_isFound, .int v_orders_best])), (h_orders_work, .inr (6, [.ref h_orders_work_lives, .ref h_orders_work_shields, .ref h_orders_work_effects, .ref h_orders_work_numbers, .ref h_orders_work_players, .ref h_orders_work_against, .int v_orders_work_size])), (h_orders_work_lives, .inl (cI, 6, .inl v_orders_work_lives)), (h_orders_work_shields, .inl (cI, 6, .inl v_orders_work_shields)), (h_orders_work_effects, .inl (cI, 6, .inl v_orders_work_effects)), (h_orders_work_numbers, .inl (cI, 6, .inl v_orders_work_numbers)), (h_orders_work_players, .inl (cI, 6, .inl v_orders_work_players)), (h_orders_work_against, .inl (cI, 6, .inl v_orders_work_against))]
theorem iX8_bound_X8 : ∀ w ∈ wsX80, w ∈ wsX8_bound := by decide +kernel
theorem mX8_bound_0 : (Cond.fieldLink RX8 33 "Sleevehall" "orders" "LSleevehall$Orders;") ∈ wsX8_bound := by decide +kernel
theorem mX8_bound_1 : (Cond.fieldLink RX8 26 "Sleevehall" "table" "LSleevehall$Table;") ∈ wsX8_bound := by decide +kernel
abbrev rmX8_bound : Room := { frames := 82, cells := 1, slots := 6, locals := 2846 }
set_option maxHeartbeats 4000000 in
set_option maxRecDepth 100000 in
theorem oX8_bound (l : Launch) (hlt : l.stackTraces = false) (dC : Nat → ClassId) (dI : Nat → Nat → Nat) (cI cJ cZ cG : ClassId) (h h_kinds h_shelf h_table h_orders h_history h_draft h_wishes h_matches h_table_lives h_table_shields h_table_effects h_table_numbers h_table_players h_table_against h_orders_work h_orders_work_lives h_orders_work_shields h_orders_work_effects h_orders_work_numbers h_orders_work_players h_orders_work_against : Nat) (v_today : Int32) (v_table_size : Int32) (v_table_lives : Nat → Int32) (v_table_shields : Nat → Int32) (v_table_effects : Nat → Int32) (v_table_numbers : Nat → Int32) (v_table_players : Nat → Int32) (v_table_against : Nat → Int32) (v_orders_player : Int32) (v_orders_isGreatest : Int32) (v_orders_isFound : Int32) (v_orders_best : Int32) (v_orders_work_size : Int32) (v_orders_work_lives : Nat → Int32) (v_orders_work_shields : Nat → Int32) (v_orders_work_effects : Nat → Int32) (v_orders_work_numbers : Nat → Int32) (v_orders_work_players : Nat → Int32) (v_orders_work_against : Nat → Int32) (sz : Nat) (p1 : Int32) (p2 : Int32) (hz_p2 : wB p2) (o : (Int32 × Int32 × Int32 × Int32 × Int32 × Int32 × (Nat → Int32) × (Nat → Int32) × (Nat → Int32) × (Nat → Int32) × (Nat → Int32) × (Nat → Int32)) ⊕ (String × Int32 × Int32 × Int32 × Int32 × Int32 × (Nat → Int32) × (Nat → Int32) × (Nat → Int32) × (Nat → Int32) × (Nat → Int32) × (Nat → Int32))) (hf : fX8_bound v_table_size v_table_lives v_table_shields v_table_effects v_table_numbers v_table_players v_table_against v_orders_player v_orders_isGreatest v_orders_isFound v_orders_best v_orders_work_size v_orders_work_lives v_orders_work_shields v_orders_work_effects v_orders_work_numbers v_orders_work_players v_orders_work_against p1 p2 = some o) : vx_Met l yX8_bound wsX8_bound rmX8_bound (wXPc [.ref h, .int p1, .int p2] (dC, dI) (tysW cI cJ cZ cG) sz (wcX8_bound cI cJ cZ cG h h_kinds h_shelf h_table h_orders h_history h_draft h_wishes h_matches h_table_lives h_table_shields h_table_effects h_table_numbers h_table_players h_table_against h_orders_work h_orders_work_lives h_orders_work_shields h_orders_work_effects h_orders_work_numbers h_orders_work_players h_orders_work_against v_today v_table_size v_table_lives v_table_shields v_table_effects v_table_numbers v_table_players v_table_against v_orders_player v_orders_isGreatest v_orders_isFound v_orders_best v_orders_work_size v_orders_work_lives v_orders_work_shields v_orders_work_effects v_orders_work_numbers v_orders_work_players v_orders_work_against)) (wXQi o (fun u : Int32 × Int32 × Int32 × Int32 × Int32 × (Nat → Int32) × (Nat → Int32) × (Nat → Int32) × (Nat → Int32) × (Nat → Int32) × (Nat → Int32) => (wcX8_bound cI cJ cZ cG h h_kinds h_shelf h_table h_orders h_history h_draft h_wishes h_matches h_table_lives h_table_shields h_table_effects h_table_numbers h_table_players h_table_against h_orders_work h_orders_work_lives h_orders_work_shields h_orders_work_effects h_orders_work_numbers h_orders_work_players h_orders_work_against v_today v_table_size v_table_lives v_table_shields v_table_effects v_table_numbers v_table_players v_table_against (u.1) (u.2.1) (u.2.2.1) (u.2.2.2.1) (u.2.2.2.2.1) (u.2.2.2.2.2.1) (u.2.2.2.2.2.2.1) (u.2.2.2.2.2.2.2.1) (u.2.2.2.2.2.2.2.2.1) (u.2.2.2.2.2.2.2.2.2.1) (u.2.2.2.2.2.2.2.2.2.2))) (dC, dI) (va_A (wcX8_bound cI cJ cZ cG h h_kinds h_shelf h_table h_orders h_history h_draft h_wishes h_matches h_table_lives h_table_shields h_table_effects h_table_numbers h_table_players h_table_against h_orders_work h_orders_work_lives h_orders_work_shields h_orders_work_effects h_orders_work_numbers h_orders_work_players h_orders_work_against v_today v_table_size v_table_lives v_table_shields v_table_effects v_table_numbers v_table_players v_table_against v_orders_player v_orders_isGreatest v_orders_isFound v_orders_best v_orders_work_size v_orders_work_lives v_orders_work_shields v_orders_work_effects v_orders_work_numbers v_orders_work_players v_orders_work_against) sz)) (wXX o (fun u : Int32 × Int32 × Int32 × Int32 × Int32 × (Nat → Int32) × (Nat → Int32) × (Nat → Int32) × (Nat → Int32) × (Nat → Int32) × (Nat → Int32) => (wcX8_bound cI cJ cZ cG h h_kinds h_shelf h_table h_orders h_history h_draft h_wishes h_matches h_table_lives h_table_shields h_table_effects h_table_numbers h_table_players h_table_against h_orders_work h_orders_work_lives h_orders_work_shields h_orders_work_effects h_orders_work_numbers h_orders_work_players h_orders_work_against v_today v_table_size v_table_lives v_table_shields v_table_effects v_table_numbers v_table_players v_table_against (u.1) (u.2.1) (u.2.2.1) (u.2.2.2.1) (u.2.2.2.2.1) (u.2.2.2.2.2.1) (u.2.2.2.2.2.2.1) (u.2.2.2.2.2.2.2.1) (u.2.2.2.2.2.2.2.2.1) (u.2.2.2.2.2.2.2.2.2.1) (u.2.2.2.2.2.2.2.2.2.2))) (dC, dI) (va_A (wcX8_bound cI cJ cZ cG h h_kinds h_shelf h_table h_orders h_history h_draft h_wishes h_matches h_table_lives h_table_shields h_table_effects h_table_numbers h_table_players h_table_against h_orders_work h_orders_work_lives h_orders_work_shields h_orders_work_effects h_orders_work_numbers h_orders_work_players h_orders_work_against v_today v_table_size v_table_lives v_table_shields v_table_effects v_table_numbers v_table_players v_table_against v_orders_player v_orders_isGreatest v_orders_isFound v_orders_best v_orders_work_size v_orders_work_lives v_orders_work_shields v_orders_work_effects v_orders_work_numbers v_orders_work_players v_orders_work_against) sz)) 1 6 (va_A (wcX8_bound cI cJ cZ cG h h_kinds h_shelf h_table h_orders h_history h_draft h_wishes h_matches h_table_lives h_table_shields h_table_effects h_table_numbers h_table_players h_table_against h_orders_work h_orders_work_lives h_orders_work_shields h_orders_work_effects h_orders_work_numbers h_orders_work_players h_orders_work_against v_today v_table_size v_table_lives v_table_shields v_table_effects v_table_numbers v_table_players v_table_against v_orders_player v_orders_isGreatest v_orders_isFound v_orders_best v_orders_work_size v_orders_work_lives v_orders_work_shields v_orders_work_effects v_orders_work_numbers v_orders_work_players v_orders_work_against) sz) := by
  refine vx_ofW (cc := cX8_bound) (maxL := 3) (ret := (some .int)) (by decide) rfl ?_
  intro p e s m args below meth c s₁ B hml hnot hv
  obtain ⟨rfl, hsz, hP, hK, hD0, hT⟩ := hv
  have hx := B.exec
  have hb := B.bytes
  have hr := B.returns
  have hts := atoms_spec (ws := wsX8_bound) B.pre
  have hown : s.vm.findClass RX8 = some m.cls := findClass_of_methodNamed B.named
  have hlocks := B.notSynchronized
  subst hsz
  have hD := hD0.self (sz := s.heap.size)
  generalize hAe : va_A (wcX8_bound cI cJ cZ cG h h_kinds h_shelf h_table h_orders h_history h_draft h_wishes h_matches h_table_lives h_table_shields h_table_effects h_table_numbers h_table_players h_table_against h_orders_work h_orders_work_lives h_orders_work_shields h_orders_work_effects h_orders_work_numbers h_orders_work_players h_orders_work_against v_today v_table_size v_table_lives v_table_shields v_table_effects v_table_numbers v_table_players v_table_against v_orders_player v_orders_isGreatest v_orders_isFound v_orders_best v_orders_work_size v_orders_work_lives v_orders_work_shields v_orders_work_effects v_orders_work_numbers v_orders_work_players v_orders_work_against) s.heap.size = A at hD hT ⊢
  have hA : ∀ q : Nat, s.heap.size ≤ q → A q := fun q h => by rw [← hAe]; exact Or.inr h
  have hS : va_S A s.heap s.heap [] := va_S.rf
  have hP : va_P (dC, dI) vwCl (wcX8_bound cI cJ cZ cG h h_kinds h_shelf h_table h_orders h_history h_draft h_wishes h_matches h_table_lives h_table_shields h_table_effects h_table_numbers h_table_players h_table_against h_orders_work h_orders_work_lives h_orders_work_shields h_orders_work_effects h_orders_work_numbers h_orders_work_players h_orders_work_against v_today v_table_size v_table_lives v_table_shields v_table_effects v_table_numbers v_table_players v_table_against v_orders_player v_orders_isGreatest v_orders_isFound v_orders_best v_orders_work_size v_orders_work_lives v_orders_work_shields v_orders_work_effects v_orders_work_numbers v_orders_work_players v_orders_work_against) s.heap := hP
  have hl := lv_entry ([.ref h, .int p1, .int p2]) (n := 3) (Nat.le_of_ble_eq_true rfl)
  rw [lg_entry_eq]
  generalize (lg_sl ([.ref h, .int p1, .int p2]) ++ List.replicate (3 - (lg_sl ([.ref h, .int p1, .int p2])).length) Slot.unset).toArray = ls at hl ⊢
  have hl : lv_has ls 3 [(0, .ref h), (1, .int p1), (2, .int p2)] := hl
  generalize hH : s.heap = H at hP hS ⊢
  have hS : va_S A s.heap H [] := by rw [hH]; exact hS
  have C0 : wCX p s #[.ref h, .int p1, .int p2] m meth c cX8_bound 3 (some .int) RX8 wsX8_bound := ⟨hx, hb, hr, hml, hown, hts, hlocks⟩
  show W p l e rmX8_bound s m #[.ref h, .int p1, .int p2] below meth c H [] 0 0 (vx_MQ below (wXQi o (fun u : Int32 × Int32 × Int32 × Int32 × Int32 × (Nat → Int32) × (Nat → Int32) × (Nat → Int32) × (Nat → Int32) × (Nat → Int32) × (Nat → Int32) => (wcX8_bound cI cJ cZ cG h h_kinds h_shelf h_table h_orders h_history h_draft h_wishes h_matches h_table_lives h_table_shields h_table_effects h_table_numbers h_table_players h_table_against h_orders_work h_orders_work_lives h_orders_work_shields h_orders_work_effects h_orders_work_numbers h_orders_work_players h_orders_work_against v_today v_table_size v_table_lives v_table_shields v_table_effects v_table_numbers v_table_players v_table_against (u.1) (u.2.1) (u.2.2.1) (u.2.2.2.1) (u.2.2.2.2.1) (u.2.2.2.2.2.1) (u.2.2.2.2.2.2.1) (u.2.2.2.2.2.2.2.1) (u.2.2.2.2.2.2.2.2.1) (u.2.2.2.2.2.2.2.2.2.1) (u.2.2.2.2.2.2.2.2.2.2))) (dC, dI) A) (wXX o (fun u : Int32 × Int32 × Int32 × Int32 × Int32 × (Nat → Int32) × (Nat → Int32) × (Nat → Int32) × (Nat → Int32) × (Nat → Int32) × (Nat → Int32) => (wcX8_bound cI cJ cZ cG h h_kinds h_shelf h_table h_orders h_history h_draft h_wishes h_matches h_table_lives h_table_shields h_table_effects h_table_numbers h_table_players h_table_against h_orders_work h_orders_work_lives h_orders_work_shields h_orders_work_effects h_orders_work_numbers h_orders_work_players h_orders_work_against v_today v_table_size v_table_lives v_table_shields v_table_effects v_table_numbers v_table_players v_table_against (u.1) (u.2.1) (u.2.2.1) (u.2.2.2.1) (u.2.2.2.2.1) (u.2.2.2.2.2.1) (u.2.2.2.2.2.2.1) (u.2.2.2.2.2.2.2.1) (u.2.2.2.2.2.2.2.2.1) (u.2.2.2.2.2.2.2.2.2.1) (u.2.2.2.2.2.2.2.2.2.2))) (dC, dI) A) #[.ref h, .int p1, .int p2] s 1 6 A) (F0 m 0 ls [])
  unfold fX8_bound at hf
  refine lv_iload_n hx hb dX8_bound_0 rfl (lv_at hl 1 rfl) ?_
  obtain ⟨o_1, hc_2, hf⟩ := ob_s hf
  rcases xo_cs o_1 with ⟨E_3, rfl⟩ | rfl
  · have hf : some (Sum.inr (E_3, (v_orders_player, v_orders_isGreatest, v_orders_isFound, v_orders_best, v_orders_work_size, v_orders_work_lives, v_orders_work_shields, v_orders_work_effects, v_orders_work_numbers, v_orders_work_players, v_orders_work_against))) = some o := hf
    cases hf
    refine w_callXSv_thr (As := [.int p1]) (rest := []) ⟨hx, hb, hml, hown, hts⟩ (oX8_needPlayer l hlt dC dI cI cJ cZ cG H.size p1 (Sum.inr (E_3, ())) hc_2) (va_cwS 1 hts gX8_bound_X8_needPlayer rfl rfl rfl (by decide +kernel) ⟨Nat.le_of_ble_eq_true rfl, Nat.le_of_ble_eq_true rfl⟩) hK hP hS hA hT rfl hl.1 rfl (Nat.le_of_ble_eq_true rfl) dX8_bound_1 ⟨Nat.le_of_ble_eq_true rfl, Nat.le_of_ble_eq_true rfl⟩ (fun ce q9 H locs hP hS h7 h8 h9 => ?_)
    exact w_xout (u0 := (v_orders_player, v_orders_isGreatest, v_orders_isFound, v_orders_best, v_orders_work_size, v_orders_work_lives, v_orders_work_shields, v_orders_work_effects, v_orders_work_numbers, v_orders_work_players, v_orders_work_against)) hnot hlocks h7 h8 h9 hP hD hS (Nat.le_of_ble_eq_true rfl) (Nat.le_of_ble_eq_true rfl)
  refine w_callXSv_ok (As := [.int p1]) (rest := []) ⟨hx, hb, hml, hown, hts⟩ (oX8_needPlayer l hlt dC dI cI cJ cZ cG H.size p1 (Sum.inl ((), ())) hc_2) (va_cwS 1 hts gX8_bound_X8_needPlayer rfl rfl rfl (by decide +kernel) ⟨Nat.le_of_ble_eq_true rfl, Nat.le_of_ble_eq_true rfl⟩) hK hP hS hA hT rfl hl.1 rfl (Nat.le_of_ble_eq_true rfl) dX8_bound_1 ⟨Nat.le_of_ble_eq_true rfl, Nat.le_of_ble_eq_true rfl⟩ (fun H locs hP hS => ?_)
  refine lv_aload_n hx hb dX8_bound_4 rfl (lv_at hl 0 rfl) ?_
  refine va_get (D := (dC, dI)) (ci := 8) (v := .ref h_orders) (C := RX8) (T := TX8) (N := 9) hx hb hts iX8_bound_X8 hown hK hP 0 rfl rfl 3 (by decide) (hts _ mX8_bound_0) (fun _ h9 => h9) rfl dX8_bound_5 ?_
  refine lv_aload_n hx hb dX8_bound_8 rfl (lv_at hl 0 rfl) ?_
  refine va_get (D := (dC, dI)) (ci := 8) (v := .ref h_table) (C := RX8) (T := TX8) (N := 9) hx hb hts iX8_bound_X8 hown hK hP 0 rfl rfl 2 (by decide) (hts _ mX8_bound_1) (fun _ h9 => h9) rfl dX8_bound_9 ?_
  refine lv_iload_n hx hb dX8_bound_12 rfl (lv_at hl 1 rfl) ?_
  refine lv_iload_n hx hb dX8_bound_13 rfl (lv_at hl 2 rfl) ?_
  obtain ⟨⟨r_4, w_5, w_6, w_7, w_8, w_9, w_10, w_11, w_12, w_13, w_14, w_15⟩, hc_16, hf⟩ := ob_s hf
  refine w_callVi (As := [.ref h_table, .int p1, .int p2]) (rest := []) (wr := List.filterMap (fun i : Nat => (wcX8_bound cI cJ cZ cG h h_kinds h_shelf h_table h_orders h_history h_draft h_wishes h_matches h_table_lives h_table_shields h_table_effects h_table_numbers h_table_players h_table_against h_orders_work h_orders_work_lives h_orders_work_shields h_orders_work_effects h_orders_work_numbers h_orders_work_players h_orders_work_against v_today v_table_size v_table_lives v_table_shields v_table_effects v_table_numbers v_table_players v_table_against v_orders_player v_orders_isGreatest v_orders_isFound v_orders_best v_orders_work_size v_orders_work_lives v_orders_work_shields v_orders_work_effects v_orders_work_numbers v_orders_work_players v_orders_work_against)[i]?) [0]) (ws1 := (wcX8_bound cI cJ cZ cG h h_kinds h_shelf h_table h_orders h_history h_draft h_wishes h_matches h_table_lives h_table_shields h_table_effects h_table_numbers h_table_players h_table_against h_orders_work h_orders_work_lives h_orders_work_shields h_orders_work_effects h_orders_work_numbers h_orders_work_players h_orders_work_against v_today v_table_size v_table_lives v_table_shields v_table_effects v_table_numbers v_table_players v_table_against w_5 w_6 w_7 w_8 w_9 w_10 w_11 w_12 w_13 w_14 w_15)) ⟨hx, hb, hml, hown, hts⟩ (oX4_find l dC dI cI cJ cZ cG h_orders h_orders_work h_orders_work_lives h_orders_work_shields h_orders_work_effects h_orders_work_numbers h_orders_work_players h_orders_work_against h_table h_table_lives h_table_shields h_table_effects h_table_numbers h_table_players h_table_against v_orders_player v_orders_isGreatest v_orders_isFound v_orders_best v_orders_work_size v_orders_work_lives v_orders_work_shields v_orders_work_effects v_orders_work_numbers v_orders_work_players v_orders_work_against v_table_size v_table_lives v_table_shields v_table_effects v_table_numbers v_table_players v_table_against H.size p1 p2 hz_p2 r_4 w_5 w_6 w_7 w_8 w_9 w_10 w_11 w_12 w_13 w_14 w_15 hc_16) (cwV 3 hts gX8_bound_X4_find rfl rfl rfl (by decide +kernel) ⟨Nat.le_of_ble_eq_true rfl, Nat.le_of_ble_eq_true rfl⟩) hK 0 4 rfl rfl rfl hP hD hS hA [8, 9, 10, 11, 12, 13, 14, 15, 1, 2, 3, 4, 5, 6, 7] [0] [0, 9, 10, 11, 12, 13, 14, 15, 1, 2, 3, 4, 5, 6, 7, 8] rfl rfl rfl rfl (by decide) rfl rfl rfl hl.1 rfl (Nat.le_of_ble_eq_true rfl) dX8_bound_14 ⟨Nat.le_of_ble_eq_true rfl, Nat.le_of_ble_eq_true rfl⟩ (fun H locs hP hD hS => ?_)
  have hf : some (Sum.inl (r_4, (w_5, w_6, w_7, w_8, w_9, w_10, w_11, w_12, w_13, w_14, w_15))) = some o := hf
  cases hf
  exact w_xiret (u0 := (w_5, w_6, w_7, w_8, w_9, w_10, w_11, w_12, w_13, w_14, w_15)) hx hb hr hlocks hP hD hS (Nat.le_of_ble_eq_true rfl) (Nat.le_of_ble_eq_true rfl) dX8_bound_17
abbrev wcX8_swap (cI cJ cZ cG : ClassId) (h h_kinds h_shelf h_table h_orders h_history h_draft h_wishes h_matches h_shelf_cards h_shelf_decks h_shelf_deckSizes h_wishes_gives h_wishes_wants h_wishes_row : Nat) (r_h_shelf_cards : Nat → Nat) (v_today : Int32) (v_shelf_cards : Nat → Nat → Int32) (v_wishes_givers : Int32) (v_wishes_gives : Nat → Int32) (v_wishes_wants : Nat → Int32) (v_wishes_row : Nat → Int32) : va_W := [(h, .inr (8, [.ref h_kinds, .ref h_shelf, .ref h_table, .ref h_orders, .ref h_history, .ref h_draft, .ref h_wishes, .ref h_matches, .int v_today])), (h_shelf, .inr (5, [.ref h_shelf_cards, .ref h_shelf_decks, .ref h_shelf_deckSizes])), gOut h_shelf_cards r_h_shelf_cards cG 6, (h_wishes, .inr (7, [.ref h_wishes_gives, .ref h_wishes_wants, .int v_wishes_givers, .ref h_wishes_row])), (h_wishes_gives, .inl (cI, 6, .inl v_wishes_gives)), (h_wishes_wants, .inl (cI, 6, .inl v_wishes_wants)), (h_wishes_row, .inl (cI, 6, .inl v_wishes_row))] ++ gRows r_h_shelf_cards cI 20 v_shelf_cards
theorem iX8_swap_X8 : ∀ w ∈ wsX80, w ∈ wsX8_swap := by decide +kernel
theorem iX8_swap_X5 : ∀ w ∈ wsX50, w ∈ wsX8_swap := by decide +kernel
theorem mX8_swap_0 : (Cond.fieldLink RX8 54 "Sleevehall" "wishes" "LSleevehall$Wishes;") ∈ wsX8_swap := by decide +kernel
theorem mX8_swap_1 : (Cond.fieldLink RX8 19 "Sleevehall" "shelf" "LSleevehall$Shelf;") ∈ wsX8_swap := by decide +kernel
theorem mX8_swap_2 : (Cond.fieldLink RX8 107 "Sleevehall$Shelf" "cards" "[[I") ∈ wsX8_swap := by decide +kernel
abbrev rmX8_swap : Room := { frames := 58, cells := 0, slots := 0, locals := 1406 }
set_option maxHeartbeats 4000000 in
set_option maxRecDepth 100000 in
theorem oX8_swap (l : Launch) (dC : Nat → ClassId) (dI : Nat → Nat → Nat) (cI cJ cZ cG : ClassId) (h h_kinds h_shelf h_table h_orders h_history h_draft h_wishes h_matches h_shelf_cards h_shelf_decks h_shelf_deckSizes h_wishes_gives h_wishes_wants h_wishes_row : Nat) (r_h_shelf_cards : Nat → Nat) (v_today : Int32) (v_shelf_cards : Nat → Nat → Int32) (v_wishes_givers : Int32) (v_wishes_gives : Nat → Int32) (v_wishes_wants : Nat → Int32) (v_wishes_row : Nat → Int32) (sz : Nat) (r0 : Int32) (n_shelf_cards : Nat → Nat → Int32) (n_wishes_givers : Int32) (n_wishes_gives : Nat → Int32) (n_wishes_wants : Nat → Int32) (n_wishes_row : Nat → Int32) (hf : fX8_swap v_shelf_cards v_wishes_givers v_wishes_gives v_wishes_wants v_wishes_row = some (r0, n_shelf_cards, n_wishes_givers, n_wishes_gives, n_wishes_wants, n_wishes_row)) : Met l yX8_swap wsX8_swap rmX8_swap (wPc [.ref h] (dC, dI) (tysW cI cJ cZ cG) sz (wcX8_swap cI cJ cZ cG h h_kinds h_shelf h_table h_orders h_history h_draft h_wishes h_matches h_shelf_cards h_shelf_decks h_shelf_deckSizes h_wishes_gives h_wishes_wants h_wishes_row r_h_shelf_cards v_today v_shelf_cards v_wishes_givers v_wishes_gives v_wishes_wants v_wishes_row)) (wQi r0 (wcX8_swap cI cJ cZ cG h h_kinds h_shelf h_table h_orders h_history h_draft h_wishes h_matches h_shelf_cards h_shelf_decks h_shelf_deckSizes h_wishes_gives h_wishes_wants h_wishes_row r_h_shelf_cards v_today n_shelf_cards n_wishes_givers n_wishes_gives n_wishes_wants n_wishes_row) (dC, dI) (va_A (wcX8_swap cI cJ cZ cG h h_kinds h_shelf h_table h_orders h_history h_draft h_wishes h_matches h_shelf_cards h_shelf_decks h_shelf_deckSizes h_wishes_gives h_wishes_wants h_wishes_row r_h_shelf_cards v_today v_shelf_cards v_wishes_givers v_wishes_gives v_wishes_wants v_wishes_row) sz)) 0 0 (va_A (wcX8_swap cI cJ cZ cG h h_kinds h_shelf h_table h_orders h_history h_draft h_wishes h_matches h_shelf_cards h_shelf_decks h_shelf_deckSizes h_wishes_gives h_wishes_wants h_wishes_row r_h_shelf_cards v_today v_shelf_cards v_wishes_givers v_wishes_gives v_wishes_wants v_wishes_row) sz) := by
  refine Met.ofW (cc := cX8_swap) (maxL := 2) (ret := (some .int)) (by decide) rfl ?_
  intro p e s m args below meth c s₁ B hml hv
  obtain ⟨rfl, hsz, hP, hK, hD0⟩ := hv
  have hx := B.exec
  have hb := B.bytes
  have hr := B.returns
  have hts := atoms_spec (ws := wsX8_swap) B.pre
  have hown : s.vm.findClass RX8 = some m.cls := findClass_of_methodNamed B.named
  have hlocks := B.notSynchronized
  subst hsz
  have hD := hD0.self (sz := s.heap.size)
  generalize hAe : va_A (wcX8_swap cI cJ cZ cG h h_kinds h_shelf h_table h_orders h_history h_draft h_wishes h_matches h_shelf_cards h_shelf_decks h_shelf_deckSizes h_wishes_gives h_wishes_wants h_wishes_row r_h_shelf_cards v_today v_shelf_cards v_wishes_givers v_wishes_gives v_wishes_wants v_wishes_row) s.heap.size = A at hD ⊢
  have hA : ∀ q : Nat, s.heap.size ≤ q → A q := fun q h => by rw [← hAe]; exact Or.inr h
  have hS : va_S A s.heap s.heap [] := va_S.rf
  have hP : va_P (dC, dI) vwCl (wcX8_swap cI cJ cZ cG h h_kinds h_shelf h_table h_orders h_history h_draft h_wishes h_matches h_shelf_cards h_shelf_decks h_shelf_deckSizes h_wishes_gives h_wishes_wants h_wishes_row r_h_shelf_cards v_today v_shelf_cards v_wishes_givers v_wishes_gives v_wishes_wants v_wishes_row) s.heap := hP
  have hl := lv_entry ([.ref h]) (n := 2) (Nat.le_of_ble_eq_true rfl)
  rw [lg_entry_eq]
  generalize (lg_sl ([.ref h]) ++ List.replicate (2 - (lg_sl ([.ref h])).length) Slot.unset).toArray = ls at hl ⊢
  have hl : lv_has ls 2 [(0, .ref h)] := hl
  generalize hH : s.heap = H at hP hS ⊢
  have hS : va_S A s.heap H [] := by rw [hH]; exact hS
  have C0 : wCX p s #[.ref h] m meth c cX8_swap 2 (some .int) RX8 wsX8_swap := ⟨hx, hb, hr, hml, hown, hts, hlocks⟩
  show W p l e rmX8_swap s m #[.ref h] below meth c H [] 0 0 (MQ below (wQi r0 (wcX8_swap cI cJ cZ cG h h_kinds h_shelf h_table h_orders h_history h_draft h_wishes h_matches h_shelf_cards h_shelf_decks h_shelf_deckSizes h_wishes_gives h_wishes_wants h_wishes_row r_h_shelf_cards v_today n_shelf_cards n_wishes_givers n_wishes_gives n_wishes_wants n_wishes_row) (dC, dI) A) #[.ref h] s 0 0 A) (F0 m 0 ls [])
  unfold fX8_swap at hf
  refine lv_aload_n hx hb dX8_swap_0 rfl (lv_at hl 0 rfl) ?_
  refine va_get (D := (dC, dI)) (ci := 8) (v := .ref h_wishes) (C := RX8) (T := TX8) (N := 9) hx hb hts iX8_swap_X8 hown hK hP 0 rfl rfl 6 (by decide) (hts _ mX8_swap_0) (fun _ h9 => h9) rfl dX8_swap_1 ?_
  refine lv_aload_n hx hb dX8_swap_4 rfl (lv_at hl 0 rfl) ?_
  refine va_get (D := (dC, dI)) (ci := 8) (v := .ref h_shelf) (C := RX8) (T := TX8) (N := 9) hx hb hts iX8_swap_X8 hown hK hP 0 rfl rfl 1 (by decide) (hts _ mX8_swap_1) (fun _ h9 => h9) rfl dX8_swap_5 ?_
  refine va_get (D := (dC, dI)) (ci := 5) (v := .ref h_shelf_cards) (C := RX5) (T := TX5) (N := 3) hx hb hts iX8_swap_X5 hown hK hP 1 rfl rfl 0 (by decide) (hts _ mX8_swap_2) (fun _ h9 => h9) rfl dX8_swap_8 ?_
  obtain ⟨⟨r_1, w_2, w_3⟩, hc_4, hf⟩ := ob_s hf
  refine w_callVi (As := [.ref h_shelf_cards]) (rest := []) (wr := List.filterMap (fun i : Nat => (wcX8_swap cI cJ cZ cG h h_kinds h_shelf h_table h_orders h_history h_draft h_wishes h_matches h_shelf_cards h_shelf_decks h_shelf_deckSizes h_wishes_gives h_wishes_wants h_wishes_row r_h_shelf_cards v_today v_shelf_cards v_wishes_givers v_wishes_gives v_wishes_wants v_wishes_row)[i]?) [0, 1]) (ws1 := (wcX8_swap cI cJ cZ cG h h_kinds h_shelf h_table h_orders h_history h_draft h_wishes h_matches h_shelf_cards h_shelf_decks h_shelf_deckSizes h_wishes_gives h_wishes_wants h_wishes_row r_h_shelf_cards v_today v_shelf_cards w_2 v_wishes_gives v_wishes_wants w_3)) ⟨hx, hb, hml, hown, hts⟩ (oX7_findBest l dC dI cI cJ cZ cG h_wishes h_wishes_gives h_wishes_wants h_wishes_row h_shelf_cards r_h_shelf_cards v_wishes_givers v_wishes_gives v_wishes_wants v_wishes_row v_shelf_cards H.size r_1 w_2 w_3 hc_4) (cwV 1 hts gX8_swap_X7_findBest rfl rfl rfl (by decide +kernel) ⟨Nat.le_of_ble_eq_true rfl, Nat.le_of_ble_eq_true rfl⟩) hK 0 7 rfl rfl rfl hP hD hS hA [3, 4, 5, 6, 2, 7, 8, 9, 10, 11, 12] [0, 1] [0, 1, 6, 2, 3, 4, 5, 7, 8, 9, 10, 11, 12] rfl rfl rfl rfl (by decide) rfl rfl rfl hl.1 rfl (Nat.le_of_ble_eq_true rfl) dX8_swap_11 ⟨Nat.le_refl _, Nat.le_refl _⟩ (fun H locs hP hD hS => ?_)
  refine lv_istore_n (lv' := [(1, .int r_1), (0, .ref h)]) hx hb dX8_swap_14 rfl hl (by decide) rfl (fun ls hl => ?_)
  refine lv_aload_n hx hb dX8_swap_15 rfl (lv_at hl 1 rfl) ?_
  refine va_get (D := (dC, dI)) (ci := 8) (v := .ref h_wishes) (C := RX8) (T := TX8) (N := 9) hx hb hts iX8_swap_X8 hown hK hP 0 rfl rfl 6 (by decide) (hts _ mX8_swap_0) (fun _ h9 => h9) rfl dX8_swap_16 ?_
  refine lv_iload_n hx hb dX8_swap_19 rfl (lv_at hl 0 rfl) ?_
  refine lv_aload_n hx hb dX8_swap_20 rfl (lv_at hl 1 rfl) ?_
  refine va_get (D := (dC, dI)) (ci := 8) (v := .ref h_shelf) (C := RX8) (T := TX8) (N := 9) hx hb hts iX8_swap_X8 hown hK hP 0 rfl rfl 1 (by decide) (hts _ mX8_swap_1) (fun _ h9 => h9) rfl dX8_swap_21 ?_
  refine va_get (D := (dC, dI)) (ci := 5) (v := .ref h_shelf_cards) (C := RX5) (T := TX5) (N := 3) hx hb hts iX8_swap_X5 hown hK hP 1 rfl rfl 0 (by decide) (hts _ mX8_swap_2) (fun _ h9 => h9) rfl dX8_swap_24 ?_
  obtain ⟨⟨w_5, w_6, w_7⟩, hc_8, hf⟩ := ob_s hf
  refine w_callVv (As := [.int r_1, .ref h_shelf_cards]) (rest := []) (wr := List.filterMap (fun i : Nat => (wcX8_swap cI cJ cZ cG h h_kinds h_shelf h_table h_orders h_history h_draft h_wishes h_matches h_shelf_cards h_shelf_decks h_shelf_deckSizes h_wishes_gives h_wishes_wants h_wishes_row r_h_shelf_cards v_today v_shelf_cards w_2 v_wishes_gives v_wishes_wants w_3)[i]?) [0, 1]) (ws1 := (wcX8_swap cI cJ cZ cG h h_kinds h_shelf h_table h_orders h_history h_draft h_wishes h_matches h_shelf_cards h_shelf_decks h_shelf_deckSizes h_wishes_gives h_wishes_wants h_wishes_row r_h_shelf_cards v_today w_7 w_2 w_5 w_6 w_3)) ⟨hx, hb, hml, hown, hts⟩ (oX7_fulfil l dC dI cI cJ cZ cG h_wishes h_wishes_gives h_wishes_wants h_wishes_row h_shelf_cards r_h_shelf_cards w_2 v_wishes_gives v_wishes_wants w_3 v_shelf_cards H.size r_1 w_5 w_6 w_7 hc_8) (cwV 2 hts gX8_swap_X7_fulfil rfl rfl rfl (by decide +kernel) ⟨Nat.le_of_ble_eq_true rfl, Nat.le_of_ble_eq_true rfl⟩) hK 0 7 rfl rfl rfl hP hD hS hA [3, 4, 5, 6, 2, 7, 8, 9, 10, 11, 12] [0, 1] [0, 1, 6, 2, 3, 4, 5, 7, 8, 9, 10, 11, 12] rfl rfl rfl rfl (by decide) rfl rfl rfl hl.1 rfl (Nat.le_of_ble_eq_true rfl) dX8_swap_27 ⟨Nat.le_refl _, Nat.le_refl _⟩ (fun H locs hP hD hS => ?_)
  refine lv_iload_n hx hb dX8_swap_30 rfl (lv_at hl 0 rfl) ?_
  have hf : some (r_1, w_7, w_2, w_5, w_6, w_3) = some (r0, n_shelf_cards, n_wishes_givers, n_wishes_gives, n_wishes_wants, n_wishes_row) := hf
  cases hf
  exact w_iret hx hb hr hlocks rfl hP hD hS dX8_swap_31
abbrev wcX8_stacked (cI cJ cZ cG : ClassId) (h h_kinds h_shelf h_table h_orders h_history h_draft h_wishes h_matches h_table_lives h_table_shields h_table_effects h_table_numbers h_table_players h_table_against : Nat) (v_today : Int32) (v_table_size : Int32) : va_W := [(h, .inr (8, [.ref h_kinds, .ref h_shelf, .ref h_table, .ref h_orders, .ref h_history, .ref h_draft, .ref h_wishes, .ref h_matches, .int v_today])), (h_table, .inr (6, [.ref h_table_lives, .ref h_table_shields, .ref h_table_effects, .ref h_table_numbers, .ref h_table_players, .ref h_table_against, .int v_table_size]))]
theorem iX8_stacked_X8 : ∀ w ∈ wsX80, w ∈ wsX8_stacked := by decide +kernel
theorem iX8_stacked_X6 : ∀ w ∈ wsX60, w ∈ wsX8_stacked := by decide +kernel
theorem mX8_stacked_0 : (Cond.fieldLink RX8 26 "Sleevehall" "table" "LSleevehall$Table;") ∈ wsX8_stacked := by decide +kernel
theorem mX8_stacked_1 : (Cond.fieldLink RX8 126 "Sleevehall$Table" "size" "I") ∈ wsX8_stacked := by decide +kernel
abbrev rmX8_stacked : Room := { frames := 0, cells := 0, slots := 0, locals := 0 }
set_option maxHeartbeats 4000000 in
set_option maxRecDepth 100000 in
theorem oX8_stacked (l : Launch) (dC : Nat → ClassId) (dI : Nat → Nat → Nat) (cI cJ cZ cG : ClassId) (h h_kinds h_shelf h_table h_orders h_history h_draft h_wishes h_matches h_table_lives h_table_shields h_table_effects h_table_numbers h_table_players h_table_against : Nat) (v_today : Int32) (v_table_size : Int32) (sz : Nat) (r0 : Int32) (hf : fX8_stacked v_table_size = some r0) : Met l yX8_stacked wsX8_stacked rmX8_stacked (wPc [.ref h] (dC, dI) (tysW cI cJ cZ cG) sz (wcX8_stacked cI cJ cZ cG h h_kinds h_shelf h_table h_orders h_history h_draft h_wishes h_matches h_table_lives h_table_shields h_table_effects h_table_numbers h_table_players h_table_against v_today v_table_size)) (wQi r0 (wcX8_stacked cI cJ cZ cG h h_kinds h_shelf h_table h_orders h_history h_draft h_wishes h_matches h_table_lives h_table_shields h_table_effects h_table_numbers h_table_players h_table_against v_today v_table_size) (dC, dI) (va_A (wcX8_stacked cI cJ cZ cG h h_kinds h_shelf h_table h_orders h_history h_draft h_wishes h_matches h_table_lives h_table_shields h_table_effects h_table_numbers h_table_players h_table_against v_today v_table_size) sz)) 0 0 (va_A (wcX8_stacked cI cJ cZ cG h h_kinds h_shelf h_table h_orders h_history h_draft h_wishes h_matches h_table_lives h_table_shields h_table_effects h_table_numbers h_table_players h_table_against v_today v_table_size) sz) := by
  refine Met.ofW (cc := cX8_stacked) (maxL := 1) (ret := (some .int)) (by decide) rfl ?_
  intro p e s m args below meth c s₁ B hml hv
  obtain ⟨rfl, hsz, hP, hK, hD0⟩ := hv
  have hx := B.exec
  have hb := B.bytes
  have hr := B.returns
  have hts := atoms_spec (ws := wsX8_stacked) B.pre
  have hown : s.vm.findClass RX8 = some m.cls := findClass_of_methodNamed B.named
  have hlocks := B.notSynchronized
  subst hsz
  have hD := hD0.self (sz := s.heap.size)
  generalize hAe : va_A (wcX8_stacked cI cJ cZ cG h h_kinds h_shelf h_table h_orders h_history h_draft h_wishes h_matches h_table_lives h_table_shields h_table_effects h_table_numbers h_table_players h_table_against v_today v_table_size) s.heap.size = A at hD ⊢
  have hA : ∀ q : Nat, s.heap.size ≤ q → A q := fun q h => by rw [← hAe]; exact Or.inr h
  have hS : va_S A s.heap s.heap [] := va_S.rf
  have hP : va_P (dC, dI) vwCl (wcX8_stacked cI cJ cZ cG h h_kinds h_shelf h_table h_orders h_history h_draft h_wishes h_matches h_table_lives h_table_shields h_table_effects h_table_numbers h_table_players h_table_against v_today v_table_size) s.heap := hP
  have hl := lv_entry ([.ref h]) (n := 1) (Nat.le_of_ble_eq_true rfl)
  rw [lg_entry_eq]
  generalize (lg_sl ([.ref h]) ++ List.replicate (1 - (lg_sl ([.ref h])).length) Slot.unset).toArray = ls at hl ⊢
  have hl : lv_has ls 1 [(0, .ref h)] := hl
  generalize hH : s.heap = H at hP hS ⊢
  have hS : va_S A s.heap H [] := by rw [hH]; exact hS
  have C0 : wCX p s #[.ref h] m meth c cX8_stacked 1 (some .int) RX8 wsX8_stacked := ⟨hx, hb, hr, hml, hown, hts, hlocks⟩
  show W p l e rmX8_stacked s m #[.ref h] below meth c H [] 0 0 (MQ below (wQi r0 (wcX8_stacked cI cJ cZ cG h h_kinds h_shelf h_table h_orders h_history h_draft h_wishes h_matches h_table_lives h_table_shields h_table_effects h_table_numbers h_table_players h_table_against v_today v_table_size) (dC, dI) A) #[.ref h] s 0 0 A) (F0 m 0 ls [])
  unfold fX8_stacked at hf
  refine lv_aload_n hx hb dX8_stacked_0 rfl (lv_at hl 0 rfl) ?_
  refine va_get (D := (dC, dI)) (ci := 8) (v := .ref h_table) (C := RX8) (T := TX8) (N := 9) hx hb hts iX8_stacked_X8 hown hK hP 0 rfl rfl 2 (by decide) (hts _ mX8_stacked_0) (fun _ h9 => h9) rfl dX8_stacked_1 ?_
  refine va_get (D := (dC, dI)) (ci := 6) (v := .int v_table_size) (C := RX6) (T := TX6) (N := 7) hx hb hts iX8_stacked_X6 hown hK hP 1 rfl rfl 6 (by decide) (hts _ mX8_stacked_1) (fun _ h9 => h9) rfl dX8_stacked_4 ?_
  have hf : some v_table_size = some r0 := hf
  cases hf
  exact w_iret hx hb hr hlocks rfl hP hD hS dX8_stacked_7
