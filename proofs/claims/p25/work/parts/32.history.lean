/-! printed by gen.py: history -/
abbrev wcX1_add (cI cJ cZ cG : ClassId) (h h_deeds h_anew : Nat) (v_count : Int32) (v_deeds : Nat → Int32) : va_W := [(h, .inr (1, [.ref h_deeds, .ref h_anew, .int v_count])), (h_deeds, .inl (cI, 512, .inl v_deeds))]
theorem iX1_add_X1 : ∀ w ∈ wsX10, w ∈ wsX1_add := by decide +kernel
theorem mX1_add_0 : (Cond.fieldLink RX1 26 "Sleevehall$History" "count" "I") ∈ wsX1_add := by decide +kernel
theorem mX1_add_1 : (Cond.fieldLink RX1 9 "Sleevehall$History" "deeds" "[I") ∈ wsX1_add := by decide +kernel
abbrev rmX1_add : Room := { frames := 0, cells := 0, slots := 0, locals := 0 }
set_option maxHeartbeats 4000000 in
set_option maxRecDepth 100000 in
theorem kX1_add_30 {p : Program} {l : Launch} {e : Env} {s : State} {m : MethodId} {args : Array Value} {below : List Frame} {meth : Method} {c : Code} {dC : Nat → ClassId} {dI : Nat → Nat → Nat} {A : Nat → Prop} {cI cJ cZ cG : ClassId} {h h_deeds h_anew : Nat} {n_count : Int32} {n_deeds : Nat → Int32} (C0 : wCX p s args m meth c cX1_add 2 none RX1 wsX1_add) (hA : ∀ q, s.heap.size ≤ q → A q) (hK : va_K (dC, dI) vwCl (tysW cI cJ cZ cG) s) : ∀ (v_count : Int32) (v_deeds : Nat → Int32) (H : Heap) (locs : List Loc) (ls : Array Slot), fX1_add_b30 v_count v_deeds = some (n_count, n_deeds) → va_P (dC, dI) vwCl (wcX1_add cI cJ cZ cG h h_deeds h_anew v_count v_deeds) H → va_D A (wcX1_add cI cJ cZ cG h h_deeds h_anew v_count v_deeds) → va_S A s.heap H locs → lv_has ls 2 [] → W p l e rmX1_add s m args below meth c H locs 0 0 (MQ below (wQv (wcX1_add cI cJ cZ cG h h_deeds h_anew n_count n_deeds) (dC, dI) A) args s 0 0 A) (F0 m 30 ls []) := by
  obtain ⟨hx, hb, hr, hml, hown, hts, hlocks⟩ := id C0
  intro v_count v_deeds H locs ls hf hP hD hS hl
  unfold fX1_add_b30 at hf
  have hf : some (v_count, v_deeds) = some (n_count, n_deeds) := hf
  cases hf
  exact w_vret hx hb hr hlocks hP hD hS dX1_add_30
set_option maxHeartbeats 4000000 in
set_option maxRecDepth 100000 in
theorem oX1_add (l : Launch) (dC : Nat → ClassId) (dI : Nat → Nat → Nat) (cI cJ cZ cG : ClassId) (h h_deeds h_anew : Nat) (v_count : Int32) (v_deeds : Nat → Int32) (sz : Nat) (p1 : Int32) (n_count : Int32) (n_deeds : Nat → Int32) (hf : fX1_add v_count v_deeds p1 = some (n_count, n_deeds)) : Met l yX1_add wsX1_add rmX1_add (wPc [.ref h, .int p1] (dC, dI) (tysW cI cJ cZ cG) sz (wcX1_add cI cJ cZ cG h h_deeds h_anew v_count v_deeds)) (wQv (wcX1_add cI cJ cZ cG h h_deeds h_anew n_count n_deeds) (dC, dI) (va_A (wcX1_add cI cJ cZ cG h h_deeds h_anew v_count v_deeds) sz)) 0 0 (va_A (wcX1_add cI cJ cZ cG h h_deeds h_anew v_count v_deeds) sz) := by
  refine Met.ofW (cc := cX1_add) (maxL := 2) (ret := none) (by decide) rfl ?_
  intro p e s m args below meth c s₁ B hml hv
  obtain ⟨rfl, hsz, hP, hK, hD0⟩ := hv
  have hx := B.exec
  have hb := B.bytes
  have hr := B.returns
  have hts := atoms_spec (ws := wsX1_add) B.pre
  have hown : s.vm.findClass RX1 = some m.cls := findClass_of_methodNamed B.named
  have hlocks := B.notSynchronized
  subst hsz
  have hD := hD0.self (sz := s.heap.size)
  generalize hAe : va_A (wcX1_add cI cJ cZ cG h h_deeds h_anew v_count v_deeds) s.heap.size = A at hD ⊢
  have hA : ∀ q : Nat, s.heap.size ≤ q → A q := fun q h => by rw [← hAe]; exact Or.inr h
  have hS : va_S A s.heap s.heap [] := va_S.rf
  have hP : va_P (dC, dI) vwCl (wcX1_add cI cJ cZ cG h h_deeds h_anew v_count v_deeds) s.heap := hP
  have hl := lv_entry ([.ref h, .int p1]) (n := 2) (Nat.le_of_ble_eq_true rfl)
  rw [lg_entry_eq]
  generalize (lg_sl ([.ref h, .int p1]) ++ List.replicate (2 - (lg_sl ([.ref h, .int p1])).length) Slot.unset).toArray = ls at hl ⊢
  have hl : lv_has ls 2 [(0, .ref h), (1, .int p1)] := hl
  generalize hH : s.heap = H at hP hS ⊢
  have hS : va_S A s.heap H [] := by rw [hH]; exact hS
  have C0 : wCX p s #[.ref h, .int p1] m meth c cX1_add 2 none RX1 wsX1_add := ⟨hx, hb, hr, hml, hown, hts, hlocks⟩
  show W p l e rmX1_add s m #[.ref h, .int p1] below meth c H [] 0 0 (MQ below (wQv (wcX1_add cI cJ cZ cG h h_deeds h_anew n_count n_deeds) (dC, dI) A) #[.ref h, .int p1] s 0 0 A) (F0 m 0 ls [])
  unfold fX1_add at hf
  refine lv_aload_n hx hb dX1_add_0 rfl (lv_at hl 0 rfl) ?_
  refine va_get (D := (dC, dI)) (ci := 1) (v := .int v_count) (C := RX1) (T := TX1) (N := 3) hx hb hts iX1_add_X1 hown hK hP 0 rfl rfl 2 (by decide) (hts _ mX1_add_0) (fun _ h9 => h9) rfl dX1_add_1 ?_
  refine lv_sipush (v := 512) hx hb dX1_add_4 (by decide) ?_
  refine lv_icmp_ge (tgt := 30) hx hb dX1_add_7 (by decide) (fun c_1 => ?_) (fun c_1 => ?_)
  · have hf := it_t hf c_1
    have hf : fX1_add_b30 v_count v_deeds = some (n_count, n_deeds) := hf
    exact kX1_add_30 C0 hA hK v_count v_deeds _ _ _ hf hP hD hS (lv_sub hl [] rfl)
  · have hf := it_f hf c_1
    refine lv_aload_n hx hb dX1_add_10 rfl (lv_at hl 0 rfl) ?_
    refine va_get (D := (dC, dI)) (ci := 1) (v := .ref h_deeds) (C := RX1) (T := TX1) (N := 3) hx hb hts iX1_add_X1 hown hK hP 0 rfl rfl 0 (by decide) (hts _ mX1_add_1) (fun _ h9 => h9) rfl dX1_add_11 ?_
    refine lv_aload_n hx hb dX1_add_14 rfl (lv_at hl 0 rfl) ?_
    refine va_get (D := (dC, dI)) (ci := 1) (v := .int v_count) (C := RX1) (T := TX1) (N := 3) hx hb hts iX1_add_X1 hown hK hP 0 rfl rfl 2 (by decide) (hts _ mX1_add_0) (fun _ h9 => h9) rfl dX1_add_15 ?_
    refine lv_iload_n hx hb dX1_add_18 rfl (lv_at hl 1 rfl) ?_
    obtain ⟨hg_2, hf⟩ := ck_s hf
    refine va_iast (D := (dC, dI)) hx hb hK hP hD hS 1 0 rfl rfl (g_vp hg_2) dX1_add_19 (fun H locs hP hD hS => ?_)
    have hP : va_P (dC, dI) vwCl (wcX1_add cI cJ cZ cG h h_deeds h_anew v_count (upd v_deeds v_count.toNatClampNeg p1)) H := hP
    have hD : va_D A (wcX1_add cI cJ cZ cG h h_deeds h_anew v_count (upd v_deeds v_count.toNatClampNeg p1)) := hD
    refine lv_aload_n hx hb dX1_add_20 rfl (lv_at hl 0 rfl) ?_
    refine lv_dup hx hb dX1_add_21 rfl ?_
    refine va_get (D := (dC, dI)) (ci := 1) (v := .int v_count) (C := RX1) (T := TX1) (N := 3) hx hb hts iX1_add_X1 hown hK hP 0 rfl rfl 2 (by decide) (hts _ mX1_add_0) (fun _ h9 => h9) rfl dX1_add_22 ?_
    refine lv_iconst (v := 1) hx hb dX1_add_25 (by decide) ?_
    refine lv_iadd hx hb dX1_add_26 ?_
    obtain ⟨x_3, ex_3, hf⟩ := nm_s hf
    refine w_eqi ex_3 ?_
    refine va_put (D := (dC, dI)) (ci := 1) (v := .int x_3) (ty := .int) (C := RX1) (T := TX1) (N := 3) hx hb hts iX1_add_X1 tyX1 tyX1_ok nmX1 hown hK hP hD hS 0 rfl rfl 2 (by decide) (hts _ mX1_add_0) (fun _ h9 => h9) rfl (by decide +kernel) rfl rfl (Nat.le_of_ble_eq_true rfl) dX1_add_27 (fun H locs hP hD hS => ?_)
    have hP : va_P (dC, dI) vwCl (wcX1_add cI cJ cZ cG h h_deeds h_anew x_3 (upd v_deeds v_count.toNatClampNeg p1)) H := hP
    have hD : va_D A (wcX1_add cI cJ cZ cG h h_deeds h_anew x_3 (upd v_deeds v_count.toNatClampNeg p1)) := hD
    have hf : fX1_add_b30 x_3 (upd v_deeds v_count.toNatClampNeg p1) = some (n_count, n_deeds) := hf
    exact kX1_add_30 C0 hA hK x_3 (upd v_deeds v_count.toNatClampNeg p1) _ _ _ hf hP hD hS (lv_sub hl [] rfl)
abbrev wcX1_addPlay (cI cJ cZ cG : ClassId) (h h_deeds h_anew : Nat) (v_count : Int32) (v_deeds : Nat → Int32) : va_W := [(h, .inr (1, [.ref h_deeds, .ref h_anew, .int v_count])), (h_deeds, .inl (cI, 512, .inl v_deeds))]
abbrev rmX1_addPlay : Room := { frames := 1, cells := 0, slots := 0, locals := 21 }
set_option maxHeartbeats 4000000 in
set_option maxRecDepth 100000 in
theorem oX1_addPlay (l : Launch) (dC : Nat → ClassId) (dI : Nat → Nat → Nat) (cI cJ cZ cG : ClassId) (h h_deeds h_anew : Nat) (v_count : Int32) (v_deeds : Nat → Int32) (sz : Nat) (p1 : Int32) (p2 : Int32) (p3 : Int32) (p4 : Int32) (n_count : Int32) (n_deeds : Nat → Int32) (hf : fX1_addPlay v_count v_deeds p1 p2 p3 p4 = some (n_count, n_deeds)) : Met l yX1_addPlay wsX1_addPlay rmX1_addPlay (wPc [.ref h, .int p1, .int p2, .int p3, .int p4] (dC, dI) (tysW cI cJ cZ cG) sz (wcX1_addPlay cI cJ cZ cG h h_deeds h_anew v_count v_deeds)) (wQv (wcX1_addPlay cI cJ cZ cG h h_deeds h_anew n_count n_deeds) (dC, dI) (va_A (wcX1_addPlay cI cJ cZ cG h h_deeds h_anew v_count v_deeds) sz)) 0 0 (va_A (wcX1_addPlay cI cJ cZ cG h h_deeds h_anew v_count v_deeds) sz) := by
  refine Met.ofW (cc := cX1_addPlay) (maxL := 5) (ret := none) (by decide) rfl ?_
  intro p e s m args below meth c s₁ B hml hv
  obtain ⟨rfl, hsz, hP, hK, hD0⟩ := hv
  have hx := B.exec
  have hb := B.bytes
  have hr := B.returns
  have hts := atoms_spec (ws := wsX1_addPlay) B.pre
  have hown : s.vm.findClass RX1 = some m.cls := findClass_of_methodNamed B.named
  have hlocks := B.notSynchronized
  subst hsz
  have hD := hD0.self (sz := s.heap.size)
  generalize hAe : va_A (wcX1_addPlay cI cJ cZ cG h h_deeds h_anew v_count v_deeds) s.heap.size = A at hD ⊢
  have hA : ∀ q : Nat, s.heap.size ≤ q → A q := fun q h => by rw [← hAe]; exact Or.inr h
  have hS : va_S A s.heap s.heap [] := va_S.rf
  have hP : va_P (dC, dI) vwCl (wcX1_addPlay cI cJ cZ cG h h_deeds h_anew v_count v_deeds) s.heap := hP
  have hl := lv_entry ([.ref h, .int p1, .int p2, .int p3, .int p4]) (n := 5) (Nat.le_of_ble_eq_true rfl)
  rw [lg_entry_eq]
  generalize (lg_sl ([.ref h, .int p1, .int p2, .int p3, .int p4]) ++ List.replicate (5 - (lg_sl ([.ref h, .int p1, .int p2, .int p3, .int p4])).length) Slot.unset).toArray = ls at hl ⊢
  have hl : lv_has ls 5 [(0, .ref h), (1, .int p1), (2, .int p2), (3, .int p3), (4, .int p4)] := hl
  generalize hH : s.heap = H at hP hS ⊢
  have hS : va_S A s.heap H [] := by rw [hH]; exact hS
  have C0 : wCX p s #[.ref h, .int p1, .int p2, .int p3, .int p4] m meth c cX1_addPlay 5 none RX1 wsX1_addPlay := ⟨hx, hb, hr, hml, hown, hts, hlocks⟩
  show W p l e rmX1_addPlay s m #[.ref h, .int p1, .int p2, .int p3, .int p4] below meth c H [] 0 0 (MQ below (wQv (wcX1_addPlay cI cJ cZ cG h h_deeds h_anew n_count n_deeds) (dC, dI) A) #[.ref h, .int p1, .int p2, .int p3, .int p4] s 0 0 A) (F0 m 0 ls [])
  unfold fX1_addPlay at hf
  refine lv_aload_n hx hb dX1_addPlay_0 rfl (lv_at hl 0 rfl) ?_
  refine lv_iload_n hx hb dX1_addPlay_1 rfl (lv_at hl 1 rfl) ?_
  refine lv_bipush (v := 10) hx hb dX1_addPlay_2 (by decide) ?_
  refine lv_ishl hx hb dX1_addPlay_4 ?_
  refine lv_iload_n hx hb dX1_addPlay_5 rfl (lv_at hl 2 rfl) ?_
  refine lv_bipush (v := 6) hx hb dX1_addPlay_6 (by decide) ?_
  refine lv_ishl hx hb dX1_addPlay_8 ?_
  refine lv_ior hx hb dX1_addPlay_9 ?_
  refine lv_iload_n hx hb dX1_addPlay_10 rfl (lv_at hl 3 rfl) ?_
  refine lv_iconst (v := 3) hx hb dX1_addPlay_11 (by decide) ?_
  refine lv_ishl hx hb dX1_addPlay_12 ?_
  refine lv_ior hx hb dX1_addPlay_13 ?_
  refine lv_iload hx hb dX1_addPlay_14 (lv_at hl 4 rfl) ?_
  refine lv_ior hx hb dX1_addPlay_16 ?_
  obtain ⟨⟨w_1, w_2⟩, hc_3, hf⟩ := ob_s hf
  refine w_callVv (As := [.int ((((p1 <<< ((10 : Int32) &&& 31)) ||| (p2 <<< ((6 : Int32) &&& 31))) ||| (p3 <<< ((3 : Int32) &&& 31))) ||| p4)]) (rest := []) (wr := List.filterMap (fun i : Nat => (wcX1_addPlay cI cJ cZ cG h h_deeds h_anew v_count v_deeds)[i]?) []) (ws1 := (wcX1_addPlay cI cJ cZ cG h h_deeds h_anew w_1 w_2)) ⟨hx, hb, hml, hown, hts⟩ (oX1_add l dC dI cI cJ cZ cG h h_deeds h_anew v_count v_deeds H.size ((((p1 <<< ((10 : Int32) &&& 31)) ||| (p2 <<< ((6 : Int32) &&& 31))) ||| (p3 <<< ((3 : Int32) &&& 31))) ||| p4) w_1 w_2 hc_3) (cwV 1 hts gX1_addPlay_X1_add rfl rfl rfl (by decide +kernel) ⟨Nat.le_of_ble_eq_true rfl, Nat.le_of_ble_eq_true rfl⟩) hK 0 1 rfl rfl rfl hP hD hS hA [0, 1] [] [0, 1] rfl rfl rfl rfl (by decide) rfl rfl rfl hl.1 rfl (Nat.le_of_ble_eq_true rfl) dX1_addPlay_17 ⟨Nat.le_refl _, Nat.le_refl _⟩ (fun H locs hP hD hS => ?_)
  have hf : some (w_1, w_2) = some (n_count, n_deeds) := hf
  cases hf
  exact w_vret hx hb hr hlocks hP hD hS dX1_addPlay_20
abbrev wcX1_addDoing (cI cJ cZ cG : ClassId) (h h_deeds h_anew : Nat) (v_count : Int32) (v_deeds : Nat → Int32) : va_W := [(h, .inr (1, [.ref h_deeds, .ref h_anew, .int v_count])), (h_deeds, .inl (cI, 512, .inl v_deeds))]
abbrev rmX1_addDoing : Room := { frames := 1, cells := 0, slots := 0, locals := 21 }
set_option maxHeartbeats 4000000 in
set_option maxRecDepth 100000 in
theorem oX1_addDoing (l : Launch) (dC : Nat → ClassId) (dI : Nat → Nat → Nat) (cI cJ cZ cG : ClassId) (h h_deeds h_anew : Nat) (v_count : Int32) (v_deeds : Nat → Int32) (sz : Nat) (n_count : Int32) (n_deeds : Nat → Int32) (hf : fX1_addDoing v_count v_deeds = some (n_count, n_deeds)) : Met l yX1_addDoing wsX1_addDoing rmX1_addDoing (wPc [.ref h] (dC, dI) (tysW cI cJ cZ cG) sz (wcX1_addDoing cI cJ cZ cG h h_deeds h_anew v_count v_deeds)) (wQv (wcX1_addDoing cI cJ cZ cG h h_deeds h_anew n_count n_deeds) (dC, dI) (va_A (wcX1_addDoing cI cJ cZ cG h h_deeds h_anew v_count v_deeds) sz)) 0 0 (va_A (wcX1_addDoing cI cJ cZ cG h h_deeds h_anew v_count v_deeds) sz) := by
  refine Met.ofW (cc := cX1_addDoing) (maxL := 1) (ret := none) (by decide) rfl ?_
  intro p e s m args below meth c s₁ B hml hv
  obtain ⟨rfl, hsz, hP, hK, hD0⟩ := hv
  have hx := B.exec
  have hb := B.bytes
  have hr := B.returns
  have hts := atoms_spec (ws := wsX1_addDoing) B.pre
  have hown : s.vm.findClass RX1 = some m.cls := findClass_of_methodNamed B.named
  have hlocks := B.notSynchronized
  subst hsz
  have hD := hD0.self (sz := s.heap.size)
  generalize hAe : va_A (wcX1_addDoing cI cJ cZ cG h h_deeds h_anew v_count v_deeds) s.heap.size = A at hD ⊢
  have hA : ∀ q : Nat, s.heap.size ≤ q → A q := fun q h => by rw [← hAe]; exact Or.inr h
  have hS : va_S A s.heap s.heap [] := va_S.rf
  have hP : va_P (dC, dI) vwCl (wcX1_addDoing cI cJ cZ cG h h_deeds h_anew v_count v_deeds) s.heap := hP
  have hl := lv_entry ([.ref h]) (n := 1) (Nat.le_of_ble_eq_true rfl)
  rw [lg_entry_eq]
  generalize (lg_sl ([.ref h]) ++ List.replicate (1 - (lg_sl ([.ref h])).length) Slot.unset).toArray = ls at hl ⊢
  have hl : lv_has ls 1 [(0, .ref h)] := hl
  generalize hH : s.heap = H at hP hS ⊢
  have hS : va_S A s.heap H [] := by rw [hH]; exact hS
  have C0 : wCX p s #[.ref h] m meth c cX1_addDoing 1 none RX1 wsX1_addDoing := ⟨hx, hb, hr, hml, hown, hts, hlocks⟩
  show W p l e rmX1_addDoing s m #[.ref h] below meth c H [] 0 0 (MQ below (wQv (wcX1_addDoing cI cJ cZ cG h h_deeds h_anew n_count n_deeds) (dC, dI) A) #[.ref h] s 0 0 A) (F0 m 0 ls [])
  unfold fX1_addDoing at hf
  refine lv_aload_n hx hb dX1_addDoing_0 rfl (lv_at hl 0 rfl) ?_
  refine lv_iconst (v := (-1)) hx hb dX1_addDoing_1 (by decide) ?_
  obtain ⟨⟨w_1, w_2⟩, hc_3, hf⟩ := ob_s hf
  refine w_callVv (As := [.int (-1)]) (rest := []) (wr := List.filterMap (fun i : Nat => (wcX1_addDoing cI cJ cZ cG h h_deeds h_anew v_count v_deeds)[i]?) []) (ws1 := (wcX1_addDoing cI cJ cZ cG h h_deeds h_anew w_1 w_2)) ⟨hx, hb, hml, hown, hts⟩ (oX1_add l dC dI cI cJ cZ cG h h_deeds h_anew v_count v_deeds H.size (-1) w_1 w_2 hc_3) (cwV 1 hts gX1_addDoing_X1_add rfl rfl rfl (by decide +kernel) ⟨Nat.le_of_ble_eq_true rfl, Nat.le_of_ble_eq_true rfl⟩) hK 0 1 rfl rfl rfl hP hD hS hA [0, 1] [] [0, 1] rfl rfl rfl rfl (by decide) rfl rfl rfl hl.1 rfl (Nat.le_of_ble_eq_true rfl) dX1_addDoing_2 ⟨Nat.le_refl _, Nat.le_refl _⟩ (fun H locs hP hD hS => ?_)
  have hf : some (w_1, w_2) = some (n_count, n_deeds) := hf
  cases hf
  exact w_vret hx hb hr hlocks hP hD hS dX1_addDoing_5
abbrev wcX1_findLife (cI cJ cZ cG : ClassId) (h h_deeds h_anew h_anew_lives h_anew_shields h_anew_effects h_anew_numbers h_anew_players h_anew_against : Nat) (v_count : Int32) (v_deeds : Nat → Int32) (v_anew_size : Int32) (v_anew_lives : Nat → Int32) (v_anew_shields : Nat → Int32) (v_anew_effects : Nat → Int32) (v_anew_numbers : Nat → Int32) (v_anew_players : Nat → Int32) (v_anew_against : Nat → Int32) : va_W := [(h, .inr (1, [.ref h_deeds, .ref h_anew, .int v_count])), (h_deeds, .inl (cI, 512, .inl v_deeds)), (h_anew, .inr (6, [.ref h_anew_lives, .ref h_anew_shields, .ref h_anew_effects, .ref h_anew_numbers, .ref h_anew_players, .ref h_anew_against, .int v_anew_size])), (h_anew_lives, .inl (cI, 6, .inl v_anew_lives)), (h_anew_shields, .inl (cI, 6, .inl v_anew_shields)), (h_anew_effects, .inl (cI, 6, .inl v_anew_effects)), (h_anew_numbers, .inl (cI, 6, .inl v_anew_numbers)), (h_anew_players, .inl (cI, 6, .inl v_anew_players)), (h_anew_against, .inl (cI, 6, .inl v_anew_against))]
theorem iX1_findLife_X1 : ∀ w ∈ wsX10, w ∈ wsX1_findLife := by decide +kernel
theorem iX1_findLife_X6 : ∀ w ∈ wsX60, w ∈ wsX1_findLife := by decide +kernel
theorem mX1_findLife_0 : (Cond.fieldLink RX1 18 "Sleevehall$History" "anew" "LSleevehall$Table;") ∈ wsX1_findLife := by decide +kernel
theorem mX1_findLife_1 : (Cond.fieldLink RX1 26 "Sleevehall$History" "count" "I") ∈ wsX1_findLife := by decide +kernel
theorem mX1_findLife_2 : (Cond.fieldLink RX1 41 "Sleevehall$Table" "lives" "[I") ∈ wsX1_findLife := by decide +kernel
theorem mX1_findLife_3 : (Cond.fieldLink RX1 9 "Sleevehall$History" "deeds" "[I") ∈ wsX1_findLife := by decide +kernel
abbrev rmX1_findLife : Room := { frames := 4, cells := 0, slots := 0, locals := 91 }
set_option maxHeartbeats 4000000 in
set_option maxRecDepth 100000 in
theorem kX1_findLife_68 {p : Program} {l : Launch} {e : Env} {s : State} {m : MethodId} {args : Array Value} {below : List Frame} {meth : Method} {c : Code} {dC : Nat → ClassId} {dI : Nat → Nat → Nat} {A : Nat → Prop} {cI cJ cZ cG : ClassId} {h h_deeds h_anew h_anew_lives h_anew_shields h_anew_effects h_anew_numbers h_anew_players h_anew_against : Nat} {v_count : Int32} {v_deeds : Nat → Int32} {r0 : Int32} {n_anew_size : Int32} {n_anew_lives : Nat → Int32} {n_anew_shields : Nat → Int32} {n_anew_effects : Nat → Int32} {n_anew_numbers : Nat → Int32} {n_anew_players : Nat → Int32} {n_anew_against : Nat → Int32} {k_9 : Int32 → (Nat → Int32) → (Nat → Int32) → (Nat → Int32) → (Nat → Int32) → (Nat → Int32) → (Nat → Int32) → Int32 → Int32 → Option (Int32 × Int32 × (Nat → Int32) × (Nat → Int32) × (Nat → Int32) × (Nat → Int32) × (Nat → Int32) × (Nat → Int32))} (C0 : wCX p s args m meth c cX1_findLife 4 (some .int) RX1 wsX1_findLife) (hA : ∀ q, s.heap.size ≤ q → A q) (hK : va_K (dC, dI) vwCl (tysW cI cJ cZ cG) s) (hk_9 : ∀ (v_anew_size : Int32) (v_anew_lives : Nat → Int32) (v_anew_shields : Nat → Int32) (v_anew_effects : Nat → Int32) (v_anew_numbers : Nat → Int32) (v_anew_players : Nat → Int32) (v_anew_against : Nat → Int32) (l1 : Int32) (l2 : Int32) (H : Heap) (locs : List Loc) (ls : Array Slot), k_9 v_anew_size v_anew_lives v_anew_shields v_anew_effects v_anew_numbers v_anew_players v_anew_against l1 l2 = some (r0, n_anew_size, n_anew_lives, n_anew_shields, n_anew_effects, n_anew_numbers, n_anew_players, n_anew_against) → va_P (dC, dI) vwCl (wcX1_findLife cI cJ cZ cG h h_deeds h_anew h_anew_lives h_anew_shields h_anew_effects h_anew_numbers h_anew_players h_anew_against v_count v_deeds v_anew_size v_anew_lives v_anew_shields v_anew_effects v_anew_numbers v_anew_players v_anew_against) H → va_D A (wcX1_findLife cI cJ cZ cG h h_deeds h_anew h_anew_lives h_anew_shields h_anew_effects h_anew_numbers h_anew_players h_anew_against v_count v_deeds v_anew_size v_anew_lives v_anew_shields v_anew_effects v_anew_numbers v_anew_players v_anew_against) → va_S A s.heap H locs → lv_has ls 4 [(0, .ref h), (1, .int l1), (2, .int l2)] → W p l e rmX1_findLife s m args below meth c H locs 0 0 (MQ below (wQi r0 (wcX1_findLife cI cJ cZ cG h h_deeds h_anew h_anew_lives h_anew_shields h_anew_effects h_anew_numbers h_anew_players h_anew_against v_count v_deeds n_anew_size n_anew_lives n_anew_shields n_anew_effects n_anew_numbers n_anew_players n_anew_against) (dC, dI) A) args s 0 0 A) (F0 m 9 ls [])) : ∀ (v_anew_size : Int32) (v_anew_lives : Nat → Int32) (v_anew_shields : Nat → Int32) (v_anew_effects : Nat → Int32) (v_anew_numbers : Nat → Int32) (v_anew_players : Nat → Int32) (v_anew_against : Nat → Int32) (l1 : Int32) (l2 : Int32) (H : Heap) (locs : List Loc) (ls : Array Slot), fX1_findLife_b68 k_9 v_count v_deeds v_anew_size v_anew_lives v_anew_shields v_anew_effects v_anew_numbers v_anew_players v_anew_against l1 l2 = some (r0, n_anew_size, n_anew_lives, n_anew_shields, n_anew_effects, n_anew_numbers, n_anew_players, n_anew_against) → va_P (dC, dI) vwCl (wcX1_findLife cI cJ cZ cG h h_deeds h_anew h_anew_lives h_anew_shields h_anew_effects h_anew_numbers h_anew_players h_anew_against v_count v_deeds v_anew_size v_anew_lives v_anew_shields v_anew_effects v_anew_numbers v_anew_players v_anew_against) H → va_D A (wcX1_findLife cI cJ cZ cG h h_deeds h_anew h_anew_lives h_anew_shields h_anew_effects h_anew_numbers h_anew_players h_anew_against v_count v_deeds v_anew_size v_anew_lives v_anew_shields v_anew_effects v_anew_numbers v_anew_players v_anew_against) → va_S A s.heap H locs → lv_has ls 4 [(0, .ref h), (1, .int l1), (2, .int l2)] → W p l e rmX1_findLife s m args below meth c H locs 0 0 (MQ below (wQi r0 (wcX1_findLife cI cJ cZ cG h h_deeds h_anew h_anew_lives h_anew_shields h_anew_effects h_anew_numbers h_anew_players h_anew_against v_count v_deeds n_anew_size n_anew_lives n_anew_shields n_anew_effects n_anew_numbers n_anew_players n_anew_against) (dC, dI) A) args s 0 0 A) (F0 m 68 ls []) := by
  obtain ⟨hx, hb, hr, hml, hown, hts, hlocks⟩ := id C0
  intro v_anew_size v_anew_lives v_anew_shields v_anew_effects v_anew_numbers v_anew_players v_anew_against l1 l2 H locs ls hf hP hD hS hl
  unfold fX1_findLife_b68 at hf
  obtain ⟨x_1, ex_1, hf⟩ := nm_s hf
  refine lv_iinc (v := x_1) (lv' := [(2, .int x_1), (0, .ref h), (1, .int l1)]) hx hb dX1_findLife_68 hl (k := 2) rfl (by rw [ex_1]; rfl) (by decide) rfl (fun ls hl => ?_)
  refine lv_goto (tgt := 9) hx hb dX1_findLife_71 (by decide) ?_
  have hf : k_9 v_anew_size v_anew_lives v_anew_shields v_anew_effects v_anew_numbers v_anew_players v_anew_against l1 x_1 = some (r0, n_anew_size, n_anew_lives, n_anew_shields, n_anew_effects, n_anew_numbers, n_anew_players, n_anew_against) := hf
  exact hk_9 v_anew_size v_anew_lives v_anew_shields v_anew_effects v_anew_numbers v_anew_players v_anew_against l1 x_1 _ _ _ hf hP hD hS (lv_sub hl [1, 2, 0] rfl)
set_option maxHeartbeats 4000000 in
set_option maxRecDepth 100000 in
theorem kX1_findLife_9 {p : Program} {l : Launch} {e : Env} {s : State} {m : MethodId} {args : Array Value} {below : List Frame} {meth : Method} {c : Code} {dC : Nat → ClassId} {dI : Nat → Nat → Nat} {A : Nat → Prop} {cI cJ cZ cG : ClassId} {h h_deeds h_anew h_anew_lives h_anew_shields h_anew_effects h_anew_numbers h_anew_players h_anew_against : Nat} {v_count : Int32} {v_deeds : Nat → Int32} {r0 : Int32} {n_anew_size : Int32} {n_anew_lives : Nat → Int32} {n_anew_shields : Nat → Int32} {n_anew_effects : Nat → Int32} {n_anew_numbers : Nat → Int32} {n_anew_players : Nat → Int32} {n_anew_against : Nat → Int32} (C0 : wCX p s args m meth c cX1_findLife 4 (some .int) RX1 wsX1_findLife) (hA : ∀ q, s.heap.size ≤ q → A q) (hK : va_K (dC, dI) vwCl (tysW cI cJ cZ cG) s) : ∀ (n : Nat), ∀ (v_anew_size : Int32) (v_anew_lives : Nat → Int32) (v_anew_shields : Nat → Int32) (v_anew_effects : Nat → Int32) (v_anew_numbers : Nat → Int32) (v_anew_players : Nat → Int32) (v_anew_against : Nat → Int32) (l1 : Int32) (l2 : Int32) (H : Heap) (locs : List Loc) (ls : Array Slot), fX1_findLife_b9 v_count v_deeds n v_anew_size v_anew_lives v_anew_shields v_anew_effects v_anew_numbers v_anew_players v_anew_against l1 l2 = some (r0, n_anew_size, n_anew_lives, n_anew_shields, n_anew_effects, n_anew_numbers, n_anew_players, n_anew_against) → va_P (dC, dI) vwCl (wcX1_findLife cI cJ cZ cG h h_deeds h_anew h_anew_lives h_anew_shields h_anew_effects h_anew_numbers h_anew_players h_anew_against v_count v_deeds v_anew_size v_anew_lives v_anew_shields v_anew_effects v_anew_numbers v_anew_players v_anew_against) H → va_D A (wcX1_findLife cI cJ cZ cG h h_deeds h_anew h_anew_lives h_anew_shields h_anew_effects h_anew_numbers h_anew_players h_anew_against v_count v_deeds v_anew_size v_anew_lives v_anew_shields v_anew_effects v_anew_numbers v_anew_players v_anew_against) → va_S A s.heap H locs → lv_has ls 4 [(0, .ref h), (1, .int l1), (2, .int l2)] → W p l e rmX1_findLife s m args below meth c H locs 0 0 (MQ below (wQi r0 (wcX1_findLife cI cJ cZ cG h h_deeds h_anew h_anew_lives h_anew_shields h_anew_effects h_anew_numbers h_anew_players h_anew_against v_count v_deeds n_anew_size n_anew_lives n_anew_shields n_anew_effects n_anew_numbers n_anew_players n_anew_against) (dC, dI) A) args s 0 0 A) (F0 m 9 ls []) := by
  obtain ⟨hx, hb, hr, hml, hown, hts, hlocks⟩ := id C0
  intro n
  induction n with
  | zero =>
    intro v_anew_size v_anew_lives v_anew_shields v_anew_effects v_anew_numbers v_anew_players v_anew_against l1 l2 H locs ls hf hP hD hS hl
    rw [fX1_findLife_b9] at hf
    cases hf
  | succ n ih =>
    intro v_anew_size v_anew_lives v_anew_shields v_anew_effects v_anew_numbers v_anew_players v_anew_against l1 l2 H locs ls hf hP hD hS hl
    rw [fX1_findLife_b9] at hf
    refine lv_iload_n hx hb dX1_findLife_9 rfl (lv_at hl 2 rfl) ?_
    refine lv_aload_n hx hb dX1_findLife_10 rfl (lv_at hl 0 rfl) ?_
    refine va_get (D := (dC, dI)) (ci := 1) (v := .int v_count) (C := RX1) (T := TX1) (N := 3) hx hb hts iX1_findLife_X1 hown hK hP 0 rfl rfl 2 (by decide) (hts _ mX1_findLife_1) (fun _ h9 => h9) rfl dX1_findLife_11 ?_
    refine lv_icmp_ge (tgt := 74) hx hb dX1_findLife_14 (by decide) (fun c_1 => ?_) (fun c_1 => ?_)
    · have hf := it_t hf c_1
      refine lv_aload_n hx hb dX1_findLife_74 rfl (lv_at hl 0 rfl) ?_
      refine va_get (D := (dC, dI)) (ci := 1) (v := .ref h_anew) (C := RX1) (T := TX1) (N := 3) hx hb hts iX1_findLife_X1 hown hK hP 0 rfl rfl 1 (by decide) (hts _ mX1_findLife_0) (fun _ h9 => h9) rfl dX1_findLife_75 ?_
      refine va_get (D := (dC, dI)) (ci := 6) (v := .ref h_anew_lives) (C := RX6) (T := TX6) (N := 7) hx hb hts iX1_findLife_X6 hown hK hP 2 rfl rfl 0 (by decide) (hts _ mX1_findLife_2) (fun _ h9 => h9) rfl dX1_findLife_78 ?_
      refine lv_iload_n hx hb dX1_findLife_81 rfl (lv_at hl 1 rfl) ?_
      obtain ⟨hg_2, hf⟩ := ck_s hf
      refine va_iald (D := (dC, dI)) hx hb hK hP 3 0 rfl rfl (g_vp hg_2) dX1_findLife_82 ?_
      have hf : some ((v_anew_lives l1.toNatClampNeg), v_anew_size, v_anew_lives, v_anew_shields, v_anew_effects, v_anew_numbers, v_anew_players, v_anew_against) = some (r0, n_anew_size, n_anew_lives, n_anew_shields, n_anew_effects, n_anew_numbers, n_anew_players, n_anew_against) := hf
      cases hf
      exact w_iret hx hb hr hlocks rfl hP hD hS dX1_findLife_83
    · have hf := it_f hf c_1
      refine lv_aload_n hx hb dX1_findLife_17 rfl (lv_at hl 0 rfl) ?_
      refine va_get (D := (dC, dI)) (ci := 1) (v := .ref h_deeds) (C := RX1) (T := TX1) (N := 3) hx hb hts iX1_findLife_X1 hown hK hP 0 rfl rfl 0 (by decide) (hts _ mX1_findLife_3) (fun _ h9 => h9) rfl dX1_findLife_18 ?_
      refine lv_iload_n hx hb dX1_findLife_21 rfl (lv_at hl 2 rfl) ?_
      obtain ⟨hg_3, hf⟩ := ck_s hf
      refine va_iald (D := (dC, dI)) hx hb hK hP 1 0 rfl rfl (g_vp hg_3) dX1_findLife_22 ?_
      obtain ⟨x_4, ex_4, hf⟩ := nm_s hf
      refine w_eqi ex_4 ?_
      refine lv_istore_n (lv' := [(3, .int x_4), (0, .ref h), (1, .int l1), (2, .int l2)]) hx hb dX1_findLife_23 rfl hl (by decide) rfl (fun ls hl => ?_)
      refine lv_iload_n hx hb dX1_findLife_24 rfl (lv_at hl 0 rfl) ?_
      refine lv_iconst (v := (-1)) hx hb dX1_findLife_25 (by decide) ?_
      refine lv_icmp_ne (tgt := 40) hx hb dX1_findLife_26 (by decide) (fun c_5 => ?_) (fun c_5 => ?_)
      · have hf := it_f hf c_5
        refine lv_aload_n hx hb dX1_findLife_40 rfl (lv_at hl 1 rfl) ?_
        refine va_get (D := (dC, dI)) (ci := 1) (v := .ref h_anew) (C := RX1) (T := TX1) (N := 3) hx hb hts iX1_findLife_X1 hown hK hP 0 rfl rfl 1 (by decide) (hts _ mX1_findLife_0) (fun _ h9 => h9) rfl dX1_findLife_41 ?_
        refine lv_iload_n hx hb dX1_findLife_44 rfl (lv_at hl 0 rfl) ?_
        refine lv_bipush (v := 10) hx hb dX1_findLife_45 (by decide) ?_
        refine lv_ishr hx hb dX1_findLife_47 ?_
        refine lv_iload_n hx hb dX1_findLife_48 rfl (lv_at hl 0 rfl) ?_
        refine lv_bipush (v := 6) hx hb dX1_findLife_49 (by decide) ?_
        refine lv_ishr hx hb dX1_findLife_51 ?_
        refine lv_bipush (v := 15) hx hb dX1_findLife_52 (by decide) ?_
        refine lv_iand hx hb dX1_findLife_54 ?_
        refine lv_iload_n hx hb dX1_findLife_55 rfl (lv_at hl 0 rfl) ?_
        refine lv_iconst (v := 3) hx hb dX1_findLife_56 (by decide) ?_
        refine lv_ishr hx hb dX1_findLife_57 ?_
        refine lv_bipush (v := 7) hx hb dX1_findLife_58 (by decide) ?_
        refine lv_iand hx hb dX1_findLife_60 ?_
        refine lv_iload_n hx hb dX1_findLife_61 rfl (lv_at hl 0 rfl) ?_
        refine lv_bipush (v := 7) hx hb dX1_findLife_62 (by decide) ?_
        refine lv_iand hx hb dX1_findLife_64 ?_
        obtain ⟨⟨w_6, w_7, w_8, w_9, w_10⟩, hc_11, hf⟩ := ob_s hf
        refine w_callVv (As := [.int (x_4 >>> ((10 : Int32) &&& 31)), .int ((x_4 >>> ((6 : Int32) &&& 31)) &&& 15), .int ((x_4 >>> ((3 : Int32) &&& 31)) &&& 7), .int (x_4 &&& 7)]) (rest := []) (wr := List.filterMap (fun i : Nat => (wcX1_findLife cI cJ cZ cG h h_deeds h_anew h_anew_lives h_anew_shields h_anew_effects h_anew_numbers h_anew_players h_anew_against v_count v_deeds v_anew_size v_anew_lives v_anew_shields v_anew_effects v_anew_numbers v_anew_players v_anew_against)[i]?) [0, 1, 3, 4]) (ws1 := (wcX1_findLife cI cJ cZ cG h h_deeds h_anew h_anew_lives h_anew_shields h_anew_effects h_anew_numbers h_anew_players h_anew_against v_count v_deeds w_6 v_anew_lives v_anew_shields w_7 w_8 w_9 w_10)) ⟨hx, hb, hml, hown, hts⟩ (oX6_lay l dC dI cI cJ cZ cG h_anew h_anew_lives h_anew_shields h_anew_effects h_anew_numbers h_anew_players h_anew_against v_anew_size v_anew_effects v_anew_numbers v_anew_players v_anew_against H.size (x_4 >>> ((10 : Int32) &&& 31)) ((x_4 >>> ((6 : Int32) &&& 31)) &&& 15) ((x_4 >>> ((3 : Int32) &&& 31)) &&& 7) (x_4 &&& 7) w_6 w_7 w_8 w_9 w_10 hc_11) (cwV 4 hts gX1_findLife_X6_lay rfl rfl rfl (by decide +kernel) ⟨Nat.le_of_ble_eq_true rfl, Nat.le_of_ble_eq_true rfl⟩) hK 0 6 rfl rfl rfl hP hD hS hA [2, 5, 6, 7, 8] [0, 1, 3, 4] [0, 1, 4, 2, 3, 5, 6, 7, 8] rfl rfl rfl rfl (by decide) rfl rfl rfl hl.1 rfl (Nat.le_of_ble_eq_true rfl) dX1_findLife_65 ⟨Nat.le_refl _, Nat.le_refl _⟩ (fun H locs hP hD hS => ?_)
        have hf : fX1_findLife_b68 (fX1_findLife_b9 v_count v_deeds n) v_count v_deeds w_6 v_anew_lives v_anew_shields w_7 w_8 w_9 w_10 l1 l2 = some (r0, n_anew_size, n_anew_lives, n_anew_shields, n_anew_effects, n_anew_numbers, n_anew_players, n_anew_against) := hf
        exact kX1_findLife_68 C0 hA hK ih w_6 v_anew_lives v_anew_shields w_7 w_8 w_9 w_10 l1 l2 _ _ _ hf hP hD hS (lv_sub hl [1, 2, 3] rfl)
      · have hf := it_t hf c_5
        refine lv_aload_n hx hb dX1_findLife_29 rfl (lv_at hl 1 rfl) ?_
        refine va_get (D := (dC, dI)) (ci := 1) (v := .ref h_anew) (C := RX1) (T := TX1) (N := 3) hx hb hts iX1_findLife_X1 hown hK hP 0 rfl rfl 1 (by decide) (hts _ mX1_findLife_0) (fun _ h9 => h9) rfl dX1_findLife_30 ?_
        obtain ⟨⟨r_12, w_13, w_14, w_15, w_16, w_17, w_18, w_19⟩, hc_20, hf⟩ := ob_s hf
        refine w_callVz (As := []) (rest := []) (wr := List.filterMap (fun i : Nat => (wcX1_findLife cI cJ cZ cG h h_deeds h_anew h_anew_lives h_anew_shields h_anew_effects h_anew_numbers h_anew_players h_anew_against v_count v_deeds v_anew_size v_anew_lives v_anew_shields v_anew_effects v_anew_numbers v_anew_players v_anew_against)[i]?) [0, 1]) (ws1 := (wcX1_findLife cI cJ cZ cG h h_deeds h_anew h_anew_lives h_anew_shields h_anew_effects h_anew_numbers h_anew_players h_anew_against v_count v_deeds w_13 w_14 w_15 w_16 w_17 w_18 w_19)) ⟨hx, hb, hml, hown, hts⟩ (oX6_doTop l dC dI cI cJ cZ cG h_anew h_anew_lives h_anew_shields h_anew_effects h_anew_numbers h_anew_players h_anew_against v_anew_size v_anew_lives v_anew_shields v_anew_effects v_anew_numbers v_anew_players v_anew_against H.size r_12 w_13 w_14 w_15 w_16 w_17 w_18 w_19 hc_20) (cwV 0 hts gX1_findLife_X6_doTop rfl rfl rfl (by decide +kernel) ⟨Nat.le_of_ble_eq_true rfl, Nat.le_of_ble_eq_true rfl⟩) hK 0 6 rfl rfl rfl hP hD hS hA [2, 3, 4, 5, 6, 7, 8] [0, 1] [0, 1, 2, 3, 4, 5, 6, 7, 8] rfl rfl rfl rfl (by decide) rfl rfl rfl hl.1 rfl (Nat.le_of_ble_eq_true rfl) dX1_findLife_33 ⟨Nat.le_refl _, Nat.le_refl _⟩ (fun hz_21 H locs hP hD hS => ?_)
        refine lv_pop hx hb dX1_findLife_36 rfl ?_
        refine lv_goto (tgt := 68) hx hb dX1_findLife_37 (by decide) ?_
        have hf : fX1_findLife_b68 (fX1_findLife_b9 v_count v_deeds n) v_count v_deeds w_13 w_14 w_15 w_16 w_17 w_18 w_19 l1 l2 = some (r0, n_anew_size, n_anew_lives, n_anew_shields, n_anew_effects, n_anew_numbers, n_anew_players, n_anew_against) := hf
        exact kX1_findLife_68 C0 hA hK ih w_13 w_14 w_15 w_16 w_17 w_18 w_19 l1 l2 _ _ _ hf hP hD hS (lv_sub hl [1, 2, 3] rfl)
set_option maxHeartbeats 4000000 in
set_option maxRecDepth 100000 in
theorem oX1_findLife (l : Launch) (dC : Nat → ClassId) (dI : Nat → Nat → Nat) (cI cJ cZ cG : ClassId) (h h_deeds h_anew h_anew_lives h_anew_shields h_anew_effects h_anew_numbers h_anew_players h_anew_against : Nat) (v_count : Int32) (v_deeds : Nat → Int32) (v_anew_size : Int32) (v_anew_lives : Nat → Int32) (v_anew_shields : Nat → Int32) (v_anew_effects : Nat → Int32) (v_anew_numbers : Nat → Int32) (v_anew_players : Nat → Int32) (v_anew_against : Nat → Int32) (sz : Nat) (p1 : Int32) (r0 : Int32) (n_anew_size : Int32) (n_anew_lives : Nat → Int32) (n_anew_shields : Nat → Int32) (n_anew_effects : Nat → Int32) (n_anew_numbers : Nat → Int32) (n_anew_players : Nat → Int32) (n_anew_against : Nat → Int32) (hf : fX1_findLife v_count v_deeds v_anew_size v_anew_lives v_anew_shields v_anew_effects v_anew_numbers v_anew_players v_anew_against p1 = some (r0, n_anew_size, n_anew_lives, n_anew_shields, n_anew_effects, n_anew_numbers, n_anew_players, n_anew_against)) : Met l yX1_findLife wsX1_findLife rmX1_findLife (wPc [.ref h, .int p1] (dC, dI) (tysW cI cJ cZ cG) sz (wcX1_findLife cI cJ cZ cG h h_deeds h_anew h_anew_lives h_anew_shields h_anew_effects h_anew_numbers h_anew_players h_anew_against v_count v_deeds v_anew_size v_anew_lives v_anew_shields v_anew_effects v_anew_numbers v_anew_players v_anew_against)) (wQi r0 (wcX1_findLife cI cJ cZ cG h h_deeds h_anew h_anew_lives h_anew_shields h_anew_effects h_anew_numbers h_anew_players h_anew_against v_count v_deeds n_anew_size n_anew_lives n_anew_shields n_anew_effects n_anew_numbers n_anew_players n_anew_against) (dC, dI) (va_A (wcX1_findLife cI cJ cZ cG h h_deeds h_anew h_anew_lives h_anew_shields h_anew_effects h_anew_numbers h_anew_players h_anew_against v_count v_deeds v_anew_size v_anew_lives v_anew_shields v_anew_effects v_anew_numbers v_anew_players v_anew_against) sz)) 0 0 (va_A (wcX1_findLife cI cJ cZ cG h h_deeds h_anew h_anew_lives h_anew_shields h_anew_effects h_anew_numbers h_anew_players h_anew_against v_count v_deeds v_anew_size v_anew_lives v_anew_shields v_anew_effects v_anew_numbers v_anew_players v_anew_against) sz) := by
  refine Met.ofW (cc := cX1_findLife) (maxL := 4) (ret := (some .int)) (by decide) rfl ?_
  intro p e s m args below meth c s₁ B hml hv
  obtain ⟨rfl, hsz, hP, hK, hD0⟩ := hv
  have hx := B.exec
  have hb := B.bytes
  have hr := B.returns
  have hts := atoms_spec (ws := wsX1_findLife) B.pre
  have hown : s.vm.findClass RX1 = some m.cls := findClass_of_methodNamed B.named
  have hlocks := B.notSynchronized
  subst hsz
  have hD := hD0.self (sz := s.heap.size)
  generalize hAe : va_A (wcX1_findLife cI cJ cZ cG h h_deeds h_anew h_anew_lives h_anew_shields h_anew_effects h_anew_numbers h_anew_players h_anew_against v_count v_deeds v_anew_size v_anew_lives v_anew_shields v_anew_effects v_anew_numbers v_anew_players v_anew_against) s.heap.size = A at hD ⊢
  have hA : ∀ q : Nat, s.heap.size ≤ q → A q := fun q h => by rw [← hAe]; exact Or.inr h
  have hS : va_S A s.heap s.heap [] := va_S.rf
  have hP : va_P (dC, dI) vwCl (wcX1_findLife cI cJ cZ cG h h_deeds h_anew h_anew_lives h_anew_shields h_anew_effects h_anew_numbers h_anew_players h_anew_against v_count v_deeds v_anew_size v_anew_lives v_anew_shields v_anew_effects v_anew_numbers v_anew_players v_anew_against) s.heap := hP
  have hl := lv_entry ([.ref h, .int p1]) (n := 4) (Nat.le_of_ble_eq_true rfl)
  rw [lg_entry_eq]
  generalize (lg_sl ([.ref h, .int p1]) ++ List.replicate (4 - (lg_sl ([.ref h, .int p1])).length) Slot.unset).toArray = ls at hl ⊢
  have hl : lv_has ls 4 [(0, .ref h), (1, .int p1)] := hl
  generalize hH : s.heap = H at hP hS ⊢
  have hS : va_S A s.heap H [] := by rw [hH]; exact hS
  have C0 : wCX p s #[.ref h, .int p1] m meth c cX1_findLife 4 (some .int) RX1 wsX1_findLife := ⟨hx, hb, hr, hml, hown, hts, hlocks⟩
  show W p l e rmX1_findLife s m #[.ref h, .int p1] below meth c H [] 0 0 (MQ below (wQi r0 (wcX1_findLife cI cJ cZ cG h h_deeds h_anew h_anew_lives h_anew_shields h_anew_effects h_anew_numbers h_anew_players h_anew_against v_count v_deeds n_anew_size n_anew_lives n_anew_shields n_anew_effects n_anew_numbers n_anew_players n_anew_against) (dC, dI) A) #[.ref h, .int p1] s 0 0 A) (F0 m 0 ls [])
  unfold fX1_findLife at hf
  refine lv_aload_n hx hb dX1_findLife_0 rfl (lv_at hl 0 rfl) ?_
  refine va_get (D := (dC, dI)) (ci := 1) (v := .ref h_anew) (C := RX1) (T := TX1) (N := 3) hx hb hts iX1_findLife_X1 hown hK hP 0 rfl rfl 1 (by decide) (hts _ mX1_findLife_0) (fun _ h9 => h9) rfl dX1_findLife_1 ?_
  obtain ⟨⟨w_1, w_2, w_3⟩, hc_4, hf⟩ := ob_s hf
  refine w_callVv (As := []) (rest := []) (wr := List.filterMap (fun i : Nat => (wcX1_findLife cI cJ cZ cG h h_deeds h_anew h_anew_lives h_anew_shields h_anew_effects h_anew_numbers h_anew_players h_anew_against v_count v_deeds v_anew_size v_anew_lives v_anew_shields v_anew_effects v_anew_numbers v_anew_players v_anew_against)[i]?) [0, 1, 5, 6, 7, 8]) (ws1 := (wcX1_findLife cI cJ cZ cG h h_deeds h_anew h_anew_lives h_anew_shields h_anew_effects h_anew_numbers h_anew_players h_anew_against v_count v_deeds w_1 w_2 w_3 v_anew_effects v_anew_numbers v_anew_players v_anew_against)) ⟨hx, hb, hml, hown, hts⟩ (oX6_clear l dC dI cI cJ cZ cG h_anew h_anew_lives h_anew_shields h_anew_effects h_anew_numbers h_anew_players h_anew_against v_anew_size v_anew_lives v_anew_shields H.size w_1 w_2 w_3 hc_4) (cwV 0 hts gX1_findLife_X6_clear rfl rfl rfl (by decide +kernel) ⟨Nat.le_of_ble_eq_true rfl, Nat.le_of_ble_eq_true rfl⟩) hK 0 6 rfl rfl rfl hP hD hS hA [2, 3, 4] [0, 1, 5, 6, 7, 8] [0, 1, 6, 7, 8, 2, 3, 4, 5] rfl rfl rfl rfl (by decide) rfl rfl rfl hl.1 rfl (Nat.le_of_ble_eq_true rfl) dX1_findLife_4 ⟨Nat.le_refl _, Nat.le_refl _⟩ (fun H locs hP hD hS => ?_)
  refine lv_iconst (v := 0) hx hb dX1_findLife_7 (by decide) ?_
  refine lv_istore_n (lv' := [(2, .int 0), (0, .ref h), (1, .int p1)]) hx hb dX1_findLife_8 rfl hl (by decide) rfl (fun ls hl => ?_)
  have hf : fX1_findLife_b9 v_count v_deeds 600 w_1 w_2 w_3 v_anew_effects v_anew_numbers v_anew_players v_anew_against p1 0 = some (r0, n_anew_size, n_anew_lives, n_anew_shields, n_anew_effects, n_anew_numbers, n_anew_players, n_anew_against) := hf
  exact kX1_findLife_9 C0 hA hK 600 w_1 w_2 w_3 v_anew_effects v_anew_numbers v_anew_players v_anew_against p1 0 _ _ _ hf hP hD hS (lv_sub hl [1, 2, 0] rfl)
