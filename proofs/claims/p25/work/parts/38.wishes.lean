/-! printed by gen.py: wishes -/
abbrev wcX7_tell (cI cJ cZ cG : ClassId) (h h_gives h_wants h_row : Nat) (v_givers : Int32) (v_gives : Nat → Int32) (v_wants : Nat → Int32) : va_W := [(h, .inr (7, [.ref h_gives, .ref h_wants, .int v_givers, .ref h_row])), (h_gives, .inl (cI, 6, .inl v_gives)), (h_wants, .inl (cI, 6, .inl v_wants))]
theorem iX7_tell_X7 : ∀ w ∈ wsX70, w ∈ wsX7_tell := by decide +kernel
theorem mX7_tell_0 : (Cond.fieldLink RX7 9 "Sleevehall$Wishes" "gives" "[I") ∈ wsX7_tell := by decide +kernel
theorem mX7_tell_1 : (Cond.fieldLink RX7 15 "Sleevehall$Wishes" "wants" "[I") ∈ wsX7_tell := by decide +kernel
abbrev rmX7_tell : Room := { frames := 0, cells := 0, slots := 0, locals := 0 }
set_option maxHeartbeats 4000000 in
set_option maxRecDepth 100000 in
theorem oX7_tell (l : Launch) (dC : Nat → ClassId) (dI : Nat → Nat → Nat) (cI cJ cZ cG : ClassId) (h h_gives h_wants h_row : Nat) (v_givers : Int32) (v_gives : Nat → Int32) (v_wants : Nat → Int32) (sz : Nat) (p1 : Int32) (p2 : Int32) (p3 : Int32) (n_gives : Nat → Int32) (n_wants : Nat → Int32) (hf : fX7_tell v_gives v_wants p1 p2 p3 = some (n_gives, n_wants)) : Met l yX7_tell wsX7_tell rmX7_tell (wPc [.ref h, .int p1, .int p2, .int p3] (dC, dI) (tysW cI cJ cZ cG) sz (wcX7_tell cI cJ cZ cG h h_gives h_wants h_row v_givers v_gives v_wants)) (wQv (wcX7_tell cI cJ cZ cG h h_gives h_wants h_row v_givers n_gives n_wants) (dC, dI) (va_A (wcX7_tell cI cJ cZ cG h h_gives h_wants h_row v_givers v_gives v_wants) sz)) 0 0 (va_A (wcX7_tell cI cJ cZ cG h h_gives h_wants h_row v_givers v_gives v_wants) sz) := by
  refine Met.ofW (cc := cX7_tell) (maxL := 4) (ret := none) (by decide) rfl ?_
  intro p e s m args below meth c s₁ B hml hv
  obtain ⟨rfl, hsz, hP, hK, hD0⟩ := hv
  have hx := B.exec
  have hb := B.bytes
  have hr := B.returns
  have hts := atoms_spec (ws := wsX7_tell) B.pre
  have hown : s.vm.findClass RX7 = some m.cls := findClass_of_methodNamed B.named
  have hlocks := B.notSynchronized
  subst hsz
  have hD := hD0.self (sz := s.heap.size)
  generalize hAe : va_A (wcX7_tell cI cJ cZ cG h h_gives h_wants h_row v_givers v_gives v_wants) s.heap.size = A at hD ⊢
  have hA : ∀ q : Nat, s.heap.size ≤ q → A q := fun q h => by rw [← hAe]; exact Or.inr h
  have hS : va_S A s.heap s.heap [] := va_S.rf
  have hP : va_P (dC, dI) vwCl (wcX7_tell cI cJ cZ cG h h_gives h_wants h_row v_givers v_gives v_wants) s.heap := hP
  have hl := lv_entry ([.ref h, .int p1, .int p2, .int p3]) (n := 4) (Nat.le_of_ble_eq_true rfl)
  rw [lg_entry_eq]
  generalize (lg_sl ([.ref h, .int p1, .int p2, .int p3]) ++ List.replicate (4 - (lg_sl ([.ref h, .int p1, .int p2, .int p3])).length) Slot.unset).toArray = ls at hl ⊢
  have hl : lv_has ls 4 [(0, .ref h), (1, .int p1), (2, .int p2), (3, .int p3)] := hl
  generalize hH : s.heap = H at hP hS ⊢
  have hS : va_S A s.heap H [] := by rw [hH]; exact hS
  have C0 : wCX p s #[.ref h, .int p1, .int p2, .int p3] m meth c cX7_tell 4 none RX7 wsX7_tell := ⟨hx, hb, hr, hml, hown, hts, hlocks⟩
  show W p l e rmX7_tell s m #[.ref h, .int p1, .int p2, .int p3] below meth c H [] 0 0 (MQ below (wQv (wcX7_tell cI cJ cZ cG h h_gives h_wants h_row v_givers n_gives n_wants) (dC, dI) A) #[.ref h, .int p1, .int p2, .int p3] s 0 0 A) (F0 m 0 ls [])
  unfold fX7_tell at hf
  refine lv_aload_n hx hb dX7_tell_0 rfl (lv_at hl 0 rfl) ?_
  refine va_get (D := (dC, dI)) (ci := 7) (v := .ref h_gives) (C := RX7) (T := TX7) (N := 4) hx hb hts iX7_tell_X7 hown hK hP 0 rfl rfl 0 (by decide) (hts _ mX7_tell_0) (fun _ h9 => h9) rfl dX7_tell_1 ?_
  refine lv_iload_n hx hb dX7_tell_4 rfl (lv_at hl 1 rfl) ?_
  refine lv_iload_n hx hb dX7_tell_5 rfl (lv_at hl 2 rfl) ?_
  obtain ⟨hg_1, hf⟩ := ck_s hf
  refine va_iast (D := (dC, dI)) hx hb hK hP hD hS 1 0 rfl rfl (g_vp hg_1) dX7_tell_6 (fun H locs hP hD hS => ?_)
  have hP : va_P (dC, dI) vwCl (wcX7_tell cI cJ cZ cG h h_gives h_wants h_row v_givers (upd v_gives p1.toNatClampNeg p2) v_wants) H := hP
  have hD : va_D A (wcX7_tell cI cJ cZ cG h h_gives h_wants h_row v_givers (upd v_gives p1.toNatClampNeg p2) v_wants) := hD
  refine lv_aload_n hx hb dX7_tell_7 rfl (lv_at hl 0 rfl) ?_
  refine va_get (D := (dC, dI)) (ci := 7) (v := .ref h_wants) (C := RX7) (T := TX7) (N := 4) hx hb hts iX7_tell_X7 hown hK hP 0 rfl rfl 1 (by decide) (hts _ mX7_tell_1) (fun _ h9 => h9) rfl dX7_tell_8 ?_
  refine lv_iload_n hx hb dX7_tell_11 rfl (lv_at hl 1 rfl) ?_
  refine lv_iload_n hx hb dX7_tell_12 rfl (lv_at hl 3 rfl) ?_
  obtain ⟨hg_2, hf⟩ := ck_s hf
  refine va_iast (D := (dC, dI)) hx hb hK hP hD hS 2 0 rfl rfl (g_vp hg_2) dX7_tell_13 (fun H locs hP hD hS => ?_)
  have hP : va_P (dC, dI) vwCl (wcX7_tell cI cJ cZ cG h h_gives h_wants h_row v_givers (upd v_gives p1.toNatClampNeg p2) (upd v_wants p1.toNatClampNeg p3)) H := hP
  have hD : va_D A (wcX7_tell cI cJ cZ cG h h_gives h_wants h_row v_givers (upd v_gives p1.toNatClampNeg p2) (upd v_wants p1.toNatClampNeg p3)) := hD
  have hf : some ((upd v_gives p1.toNatClampNeg p2), (upd v_wants p1.toNatClampNeg p3)) = some (n_gives, n_wants) := hf
  cases hf
  exact w_vret hx hb hr hlocks hP hD hS dX7_tell_14
abbrev wcX7_isGiver (cI cJ cZ cG : ClassId) (h h_gives h_wants h_row : Nat) (v_givers : Int32) : va_W := [(h, .inr (7, [.ref h_gives, .ref h_wants, .int v_givers, .ref h_row]))]
theorem iX7_isGiver_X7 : ∀ w ∈ wsX70, w ∈ wsX7_isGiver := by decide +kernel
theorem mX7_isGiver_0 : (Cond.fieldLink RX7 37 "Sleevehall$Wishes" "givers" "I") ∈ wsX7_isGiver := by decide +kernel
abbrev rmX7_isGiver : Room := { frames := 0, cells := 0, slots := 0, locals := 0 }
set_option maxHeartbeats 4000000 in
set_option maxRecDepth 100000 in
theorem kX7_isGiver_17 {p : Program} {l : Launch} {e : Env} {s : State} {m : MethodId} {args : Array Value} {below : List Frame} {meth : Method} {c : Code} {dC : Nat → ClassId} {dI : Nat → Nat → Nat} {A : Nat → Prop} {cI cJ cZ cG : ClassId} {h h_gives h_wants h_row : Nat} {v_givers : Int32} {r0 : Int32} (C0 : wCX p s args m meth c cX7_isGiver 2 (some .boolean) RX7 wsX7_isGiver) (hA : ∀ q, s.heap.size ≤ q → A q) (hK : va_K (dC, dI) vwCl (tysW cI cJ cZ cG) s) : ∀ (s0 : Int32) (hz_s0 : wB s0) (H : Heap) (locs : List Loc) (ls : Array Slot), fX7_isGiver_b17 v_givers s0 = some r0 → va_P (dC, dI) vwCl (wcX7_isGiver cI cJ cZ cG h h_gives h_wants h_row v_givers) H → va_D A (wcX7_isGiver cI cJ cZ cG h h_gives h_wants h_row v_givers) → va_S A s.heap H locs → lv_has ls 2 [] → W p l e rmX7_isGiver s m args below meth c H locs 0 0 (MQ below (wQz r0 (wcX7_isGiver cI cJ cZ cG h h_gives h_wants h_row v_givers) (dC, dI) A) args s 0 0 A) (F0 m 17 ls [.int s0]) := by
  obtain ⟨hx, hb, hr, hml, hown, hts, hlocks⟩ := id C0
  intro s0 hz_s0 H locs ls hf hP hD hS hl
  unfold fX7_isGiver_b17 at hf
  have hf : some s0 = some r0 := hf
  cases hf
  exact w_zret hx hb hr hlocks rfl hz_s0 hP hD hS dX7_isGiver_17
set_option maxHeartbeats 4000000 in
set_option maxRecDepth 100000 in
theorem oX7_isGiver (l : Launch) (dC : Nat → ClassId) (dI : Nat → Nat → Nat) (cI cJ cZ cG : ClassId) (h h_gives h_wants h_row : Nat) (v_givers : Int32) (sz : Nat) (p1 : Int32) (r0 : Int32) (hf : fX7_isGiver v_givers p1 = some r0) : Met l yX7_isGiver wsX7_isGiver rmX7_isGiver (wPc [.ref h, .int p1] (dC, dI) (tysW cI cJ cZ cG) sz (wcX7_isGiver cI cJ cZ cG h h_gives h_wants h_row v_givers)) (wQz r0 (wcX7_isGiver cI cJ cZ cG h h_gives h_wants h_row v_givers) (dC, dI) (va_A (wcX7_isGiver cI cJ cZ cG h h_gives h_wants h_row v_givers) sz)) 0 0 (va_A (wcX7_isGiver cI cJ cZ cG h h_gives h_wants h_row v_givers) sz) := by
  refine Met.ofW (cc := cX7_isGiver) (maxL := 2) (ret := (some .boolean)) (by decide) rfl ?_
  intro p e s m args below meth c s₁ B hml hv
  obtain ⟨rfl, hsz, hP, hK, hD0⟩ := hv
  have hx := B.exec
  have hb := B.bytes
  have hr := B.returns
  have hts := atoms_spec (ws := wsX7_isGiver) B.pre
  have hown : s.vm.findClass RX7 = some m.cls := findClass_of_methodNamed B.named
  have hlocks := B.notSynchronized
  subst hsz
  have hD := hD0.self (sz := s.heap.size)
  generalize hAe : va_A (wcX7_isGiver cI cJ cZ cG h h_gives h_wants h_row v_givers) s.heap.size = A at hD ⊢
  have hA : ∀ q : Nat, s.heap.size ≤ q → A q := fun q h => by rw [← hAe]; exact Or.inr h
  have hS : va_S A s.heap s.heap [] := va_S.rf
  have hP : va_P (dC, dI) vwCl (wcX7_isGiver cI cJ cZ cG h h_gives h_wants h_row v_givers) s.heap := hP
  have hl := lv_entry ([.ref h, .int p1]) (n := 2) (Nat.le_of_ble_eq_true rfl)
  rw [lg_entry_eq]
  generalize (lg_sl ([.ref h, .int p1]) ++ List.replicate (2 - (lg_sl ([.ref h, .int p1])).length) Slot.unset).toArray = ls at hl ⊢
  have hl : lv_has ls 2 [(0, .ref h), (1, .int p1)] := hl
  generalize hH : s.heap = H at hP hS ⊢
  have hS : va_S A s.heap H [] := by rw [hH]; exact hS
  have C0 : wCX p s #[.ref h, .int p1] m meth c cX7_isGiver 2 (some .boolean) RX7 wsX7_isGiver := ⟨hx, hb, hr, hml, hown, hts, hlocks⟩
  show W p l e rmX7_isGiver s m #[.ref h, .int p1] below meth c H [] 0 0 (MQ below (wQz r0 (wcX7_isGiver cI cJ cZ cG h h_gives h_wants h_row v_givers) (dC, dI) A) #[.ref h, .int p1] s 0 0 A) (F0 m 0 ls [])
  unfold fX7_isGiver at hf
  refine lv_aload_n hx hb dX7_isGiver_0 rfl (lv_at hl 0 rfl) ?_
  refine va_get (D := (dC, dI)) (ci := 7) (v := .int v_givers) (C := RX7) (T := TX7) (N := 4) hx hb hts iX7_isGiver_X7 hown hK hP 0 rfl rfl 2 (by decide) (hts _ mX7_isGiver_0) (fun _ h9 => h9) rfl dX7_isGiver_1 ?_
  refine lv_iload_n hx hb dX7_isGiver_4 rfl (lv_at hl 1 rfl) ?_
  refine lv_ishr hx hb dX7_isGiver_5 ?_
  refine lv_iconst (v := 1) hx hb dX7_isGiver_6 (by decide) ?_
  refine lv_iand hx hb dX7_isGiver_7 ?_
  refine lv_iconst (v := 1) hx hb dX7_isGiver_8 (by decide) ?_
  refine lv_icmp_ne (tgt := 16) hx hb dX7_isGiver_9 (by decide) (fun c_1 => ?_) (fun c_1 => ?_)
  · have hf := it_f hf c_1
    refine lv_iconst (v := 0) hx hb dX7_isGiver_16 (by decide) ?_
    have hf : fX7_isGiver_b17 v_givers 0 = some r0 := hf
    exact kX7_isGiver_17 C0 hA hK 0 (Or.inl rfl) _ _ _ hf hP hD hS (lv_sub hl [] rfl)
  · have hf := it_t hf c_1
    refine lv_iconst (v := 1) hx hb dX7_isGiver_12 (by decide) ?_
    refine lv_goto (tgt := 17) hx hb dX7_isGiver_13 (by decide) ?_
    have hf : fX7_isGiver_b17 v_givers 1 = some r0 := hf
    exact kX7_isGiver_17 C0 hA hK 1 (Or.inr rfl) _ _ _ hf hP hD hS (lv_sub hl [] rfl)
abbrev wcX7_isInRow (cI cJ cZ cG : ClassId) (h h_gives h_wants h_row : Nat) (v_givers : Int32) (v_row : Nat → Int32) : va_W := [(h, .inr (7, [.ref h_gives, .ref h_wants, .int v_givers, .ref h_row])), (h_row, .inl (cI, 6, .inl v_row))]
theorem iX7_isInRow_X7 : ∀ w ∈ wsX70, w ∈ wsX7_isInRow := by decide +kernel
theorem mX7_isInRow_0 : (Cond.fieldLink RX7 18 "Sleevehall$Wishes" "row" "[I") ∈ wsX7_isInRow := by decide +kernel
abbrev rmX7_isInRow : Room := { frames := 0, cells := 0, slots := 0, locals := 0 }
set_option maxHeartbeats 4000000 in
set_option maxRecDepth 100000 in
theorem kX7_isInRow_2 {p : Program} {l : Launch} {e : Env} {s : State} {m : MethodId} {args : Array Value} {below : List Frame} {meth : Method} {c : Code} {dC : Nat → ClassId} {dI : Nat → Nat → Nat} {A : Nat → Prop} {cI cJ cZ cG : ClassId} {h h_gives h_wants h_row : Nat} {v_givers : Int32} {v_row : Nat → Int32} {r0 : Int32} (C0 : wCX p s args m meth c cX7_isInRow 4 (some .boolean) RX7 wsX7_isInRow) (hA : ∀ q, s.heap.size ≤ q → A q) (hK : va_K (dC, dI) vwCl (tysW cI cJ cZ cG) s) : ∀ (n : Nat), ∀ (l1 : Int32) (l2 : Int32) (l3 : Int32) (H : Heap) (locs : List Loc) (ls : Array Slot), fX7_isInRow_b2 v_row n l1 l2 l3 = some r0 → va_P (dC, dI) vwCl (wcX7_isInRow cI cJ cZ cG h h_gives h_wants h_row v_givers v_row) H → va_D A (wcX7_isInRow cI cJ cZ cG h h_gives h_wants h_row v_givers v_row) → va_S A s.heap H locs → lv_has ls 4 [(0, .ref h), (1, .int l1), (2, .int l2), (3, .int l3)] → W p l e rmX7_isInRow s m args below meth c H locs 0 0 (MQ below (wQz r0 (wcX7_isInRow cI cJ cZ cG h h_gives h_wants h_row v_givers v_row) (dC, dI) A) args s 0 0 A) (F0 m 2 ls []) := by
  obtain ⟨hx, hb, hr, hml, hown, hts, hlocks⟩ := id C0
  intro n
  induction n with
  | zero =>
    intro l1 l2 l3 H locs ls hf hP hD hS hl
    rw [fX7_isInRow_b2] at hf
    cases hf
  | succ n ih =>
    intro l1 l2 l3 H locs ls hf hP hD hS hl
    rw [fX7_isInRow_b2] at hf
    refine lv_iload_n hx hb dX7_isInRow_2 rfl (lv_at hl 3 rfl) ?_
    refine lv_iload_n hx hb dX7_isInRow_3 rfl (lv_at hl 2 rfl) ?_
    refine lv_icmp_ge (tgt := 25) hx hb dX7_isInRow_4 (by decide) (fun c_1 => ?_) (fun c_1 => ?_)
    · have hf := it_t hf c_1
      refine lv_iconst (v := 0) hx hb dX7_isInRow_25 (by decide) ?_
      have hf : some 0 = some r0 := hf
      cases hf
      exact w_zret hx hb hr hlocks rfl (Or.inl rfl) hP hD hS dX7_isInRow_26
    · have hf := it_f hf c_1
      refine lv_aload_n hx hb dX7_isInRow_7 rfl (lv_at hl 0 rfl) ?_
      refine va_get (D := (dC, dI)) (ci := 7) (v := .ref h_row) (C := RX7) (T := TX7) (N := 4) hx hb hts iX7_isInRow_X7 hown hK hP 0 rfl rfl 3 (by decide) (hts _ mX7_isInRow_0) (fun _ h9 => h9) rfl dX7_isInRow_8 ?_
      refine lv_iload_n hx hb dX7_isInRow_11 rfl (lv_at hl 3 rfl) ?_
      obtain ⟨hg_2, hf⟩ := ck_s hf
      refine va_iald (D := (dC, dI)) hx hb hK hP 1 0 rfl rfl (g_vp hg_2) dX7_isInRow_12 ?_
      refine lv_iload_n hx hb dX7_isInRow_13 rfl (lv_at hl 1 rfl) ?_
      refine lv_icmp_ne (tgt := 19) hx hb dX7_isInRow_14 (by decide) (fun c_3 => ?_) (fun c_3 => ?_)
      · have hf := it_f hf c_3
        obtain ⟨x_4, ex_4, hf⟩ := nm_s hf
        refine lv_iinc (v := x_4) (lv' := [(3, .int x_4), (0, .ref h), (1, .int l1), (2, .int l2)]) hx hb dX7_isInRow_19 hl (k := 3) rfl (by rw [ex_4]; rfl) (by decide) rfl (fun ls hl => ?_)
        refine lv_goto (tgt := 2) hx hb dX7_isInRow_22 (by decide) ?_
        have hf : (fX7_isInRow_b2 v_row n) l1 l2 x_4 = some r0 := hf
        exact ih l1 l2 x_4 _ _ _ hf hP hD hS (lv_sub hl [1, 2, 3, 0] rfl)
      · have hf := it_t hf c_3
        refine lv_iconst (v := 1) hx hb dX7_isInRow_17 (by decide) ?_
        have hf : some 1 = some r0 := hf
        cases hf
        exact w_zret hx hb hr hlocks rfl (Or.inr rfl) hP hD hS dX7_isInRow_18
set_option maxHeartbeats 4000000 in
set_option maxRecDepth 100000 in
theorem oX7_isInRow (l : Launch) (dC : Nat → ClassId) (dI : Nat → Nat → Nat) (cI cJ cZ cG : ClassId) (h h_gives h_wants h_row : Nat) (v_givers : Int32) (v_row : Nat → Int32) (sz : Nat) (p1 : Int32) (p2 : Int32) (r0 : Int32) (hf : fX7_isInRow v_row p1 p2 = some r0) : Met l yX7_isInRow wsX7_isInRow rmX7_isInRow (wPc [.ref h, .int p1, .int p2] (dC, dI) (tysW cI cJ cZ cG) sz (wcX7_isInRow cI cJ cZ cG h h_gives h_wants h_row v_givers v_row)) (wQz r0 (wcX7_isInRow cI cJ cZ cG h h_gives h_wants h_row v_givers v_row) (dC, dI) (va_A (wcX7_isInRow cI cJ cZ cG h h_gives h_wants h_row v_givers v_row) sz)) 0 0 (va_A (wcX7_isInRow cI cJ cZ cG h h_gives h_wants h_row v_givers v_row) sz) := by
  refine Met.ofW (cc := cX7_isInRow) (maxL := 4) (ret := (some .boolean)) (by decide) rfl ?_
  intro p e s m args below meth c s₁ B hml hv
  obtain ⟨rfl, hsz, hP, hK, hD0⟩ := hv
  have hx := B.exec
  have hb := B.bytes
  have hr := B.returns
  have hts := atoms_spec (ws := wsX7_isInRow) B.pre
  have hown : s.vm.findClass RX7 = some m.cls := findClass_of_methodNamed B.named
  have hlocks := B.notSynchronized
  subst hsz
  have hD := hD0.self (sz := s.heap.size)
  generalize hAe : va_A (wcX7_isInRow cI cJ cZ cG h h_gives h_wants h_row v_givers v_row) s.heap.size = A at hD ⊢
  have hA : ∀ q : Nat, s.heap.size ≤ q → A q := fun q h => by rw [← hAe]; exact Or.inr h
  have hS : va_S A s.heap s.heap [] := va_S.rf
  have hP : va_P (dC, dI) vwCl (wcX7_isInRow cI cJ cZ cG h h_gives h_wants h_row v_givers v_row) s.heap := hP
  have hl := lv_entry ([.ref h, .int p1, .int p2]) (n := 4) (Nat.le_of_ble_eq_true rfl)
  rw [lg_entry_eq]
  generalize (lg_sl ([.ref h, .int p1, .int p2]) ++ List.replicate (4 - (lg_sl ([.ref h, .int p1, .int p2])).length) Slot.unset).toArray = ls at hl ⊢
  have hl : lv_has ls 4 [(0, .ref h), (1, .int p1), (2, .int p2)] := hl
  generalize hH : s.heap = H at hP hS ⊢
  have hS : va_S A s.heap H [] := by rw [hH]; exact hS
  have C0 : wCX p s #[.ref h, .int p1, .int p2] m meth c cX7_isInRow 4 (some .boolean) RX7 wsX7_isInRow := ⟨hx, hb, hr, hml, hown, hts, hlocks⟩
  show W p l e rmX7_isInRow s m #[.ref h, .int p1, .int p2] below meth c H [] 0 0 (MQ below (wQz r0 (wcX7_isInRow cI cJ cZ cG h h_gives h_wants h_row v_givers v_row) (dC, dI) A) #[.ref h, .int p1, .int p2] s 0 0 A) (F0 m 0 ls [])
  unfold fX7_isInRow at hf
  refine lv_iconst (v := 0) hx hb dX7_isInRow_0 (by decide) ?_
  refine lv_istore_n (lv' := [(3, .int 0), (0, .ref h), (1, .int p1), (2, .int p2)]) hx hb dX7_isInRow_1 rfl hl (by decide) rfl (fun ls hl => ?_)
  have hf : fX7_isInRow_b2 v_row 70 p1 p2 0 = some r0 := hf
  exact kX7_isInRow_2 C0 hA hK 70 p1 p2 0 _ _ _ hf hP hD hS (lv_sub hl [1, 2, 3, 0] rfl)
abbrev wcX7_findGivers (cI cJ cZ cG : ClassId) (h h_gives h_wants h_row o1 : Nat) (r_o1 : Nat → Nat) (v_givers : Int32) (v_gives : Nat → Int32) (v_o1 : Nat → Nat → Int32) : va_W := [(h, .inr (7, [.ref h_gives, .ref h_wants, .int v_givers, .ref h_row])), (h_gives, .inl (cI, 6, .inl v_gives)), gOut o1 r_o1 cG 6] ++ gRows r_o1 cI 20 v_o1
theorem iX7_findGivers_X7 : ∀ w ∈ wsX70, w ∈ wsX7_findGivers := by decide +kernel
theorem mX7_findGivers_0 : (Cond.fieldLink RX7 37 "Sleevehall$Wishes" "givers" "I") ∈ wsX7_findGivers := by decide +kernel
theorem mX7_findGivers_1 : (Cond.fieldLink RX7 9 "Sleevehall$Wishes" "gives" "[I") ∈ wsX7_findGivers := by decide +kernel
abbrev rmX7_findGivers : Room := { frames := 0, cells := 0, slots := 0, locals := 0 }
set_option maxHeartbeats 4000000 in
set_option maxRecDepth 100000 in
theorem kX7_findGivers_47 {p : Program} {l : Launch} {e : Env} {s : State} {m : MethodId} {args : Array Value} {below : List Frame} {meth : Method} {c : Code} {dC : Nat → ClassId} {dI : Nat → Nat → Nat} {A : Nat → Prop} {cI cJ cZ cG : ClassId} {h h_gives h_wants h_row o1 : Nat} {r_o1 : Nat → Nat} {v_gives : Nat → Int32} {v_o1 : Nat → Nat → Int32} {n_givers : Int32} {k_7 : Int32 → Int32 → Option (Int32)} (C0 : wCX p s args m meth c cX7_findGivers 3 none RX7 wsX7_findGivers) (hA : ∀ q, s.heap.size ≤ q → A q) (hK : va_K (dC, dI) vwCl (tysW cI cJ cZ cG) s) (hk_7 : ∀ (v_givers : Int32) (l2 : Int32) (H : Heap) (locs : List Loc) (ls : Array Slot), k_7 v_givers l2 = some n_givers → va_P (dC, dI) vwCl (wcX7_findGivers cI cJ cZ cG h h_gives h_wants h_row o1 r_o1 v_givers v_gives v_o1) H → va_D A (wcX7_findGivers cI cJ cZ cG h h_gives h_wants h_row o1 r_o1 v_givers v_gives v_o1) → va_S A s.heap H locs → lv_has ls 3 [(0, .ref h), (1, .ref o1), (2, .int l2)] → W p l e rmX7_findGivers s m args below meth c H locs 0 0 (MQ below (wQv (wcX7_findGivers cI cJ cZ cG h h_gives h_wants h_row o1 r_o1 n_givers v_gives v_o1) (dC, dI) A) args s 0 0 A) (F0 m 7 ls [])) : ∀ (v_givers : Int32) (l2 : Int32) (H : Heap) (locs : List Loc) (ls : Array Slot), fX7_findGivers_b47 k_7 v_gives v_o1 v_givers l2 = some n_givers → va_P (dC, dI) vwCl (wcX7_findGivers cI cJ cZ cG h h_gives h_wants h_row o1 r_o1 v_givers v_gives v_o1) H → va_D A (wcX7_findGivers cI cJ cZ cG h h_gives h_wants h_row o1 r_o1 v_givers v_gives v_o1) → va_S A s.heap H locs → lv_has ls 3 [(0, .ref h), (1, .ref o1), (2, .int l2)] → W p l e rmX7_findGivers s m args below meth c H locs 0 0 (MQ below (wQv (wcX7_findGivers cI cJ cZ cG h h_gives h_wants h_row o1 r_o1 n_givers v_gives v_o1) (dC, dI) A) args s 0 0 A) (F0 m 47 ls []) := by
  obtain ⟨hx, hb, hr, hml, hown, hts, hlocks⟩ := id C0
  intro v_givers l2 H locs ls hf hP hD hS hl
  unfold fX7_findGivers_b47 at hf
  obtain ⟨x_1, ex_1, hf⟩ := nm_s hf
  refine lv_iinc (v := x_1) (lv' := [(2, .int x_1), (0, .ref h), (1, .ref o1)]) hx hb dX7_findGivers_47 hl (k := 2) rfl (by rw [ex_1]; rfl) (by decide) rfl (fun ls hl => ?_)
  refine lv_goto (tgt := 7) hx hb dX7_findGivers_50 (by decide) ?_
  have hf : k_7 v_givers x_1 = some n_givers := hf
  exact hk_7 v_givers x_1 _ _ _ hf hP hD hS (lv_sub hl [1, 2, 0] rfl)
set_option maxHeartbeats 4000000 in
set_option maxRecDepth 100000 in
theorem kX7_findGivers_7 {p : Program} {l : Launch} {e : Env} {s : State} {m : MethodId} {args : Array Value} {below : List Frame} {meth : Method} {c : Code} {dC : Nat → ClassId} {dI : Nat → Nat → Nat} {A : Nat → Prop} {cI cJ cZ cG : ClassId} {h h_gives h_wants h_row o1 : Nat} {r_o1 : Nat → Nat} {v_gives : Nat → Int32} {v_o1 : Nat → Nat → Int32} {n_givers : Int32} (C0 : wCX p s args m meth c cX7_findGivers 3 none RX7 wsX7_findGivers) (hA : ∀ q, s.heap.size ≤ q → A q) (hK : va_K (dC, dI) vwCl (tysW cI cJ cZ cG) s) : ∀ (n : Nat), ∀ (v_givers : Int32) (l2 : Int32) (H : Heap) (locs : List Loc) (ls : Array Slot), fX7_findGivers_b7 v_gives v_o1 n v_givers l2 = some n_givers → va_P (dC, dI) vwCl (wcX7_findGivers cI cJ cZ cG h h_gives h_wants h_row o1 r_o1 v_givers v_gives v_o1) H → va_D A (wcX7_findGivers cI cJ cZ cG h h_gives h_wants h_row o1 r_o1 v_givers v_gives v_o1) → va_S A s.heap H locs → lv_has ls 3 [(0, .ref h), (1, .ref o1), (2, .int l2)] → W p l e rmX7_findGivers s m args below meth c H locs 0 0 (MQ below (wQv (wcX7_findGivers cI cJ cZ cG h h_gives h_wants h_row o1 r_o1 n_givers v_gives v_o1) (dC, dI) A) args s 0 0 A) (F0 m 7 ls []) := by
  obtain ⟨hx, hb, hr, hml, hown, hts, hlocks⟩ := id C0
  intro n
  induction n with
  | zero =>
    intro v_givers l2 H locs ls hf hP hD hS hl
    rw [fX7_findGivers_b7] at hf
    cases hf
  | succ n ih =>
    intro v_givers l2 H locs ls hf hP hD hS hl
    rw [fX7_findGivers_b7] at hf
    refine lv_iload_n hx hb dX7_findGivers_7 rfl (lv_at hl 2 rfl) ?_
    refine lv_bipush (v := 6) hx hb dX7_findGivers_8 (by decide) ?_
    refine lv_icmp_ge (tgt := 53) hx hb dX7_findGivers_10 (by decide) (fun c_1 => ?_) (fun c_1 => ?_)
    · have hf := it_t hf c_1
      have hf : some v_givers = some n_givers := hf
      cases hf
      exact w_vret hx hb hr hlocks hP hD hS dX7_findGivers_53
    · have hf := it_f hf c_1
      refine lv_aload_n hx hb dX7_findGivers_13 rfl (lv_at hl 0 rfl) ?_
      refine va_get (D := (dC, dI)) (ci := 7) (v := .ref h_gives) (C := RX7) (T := TX7) (N := 4) hx hb hts iX7_findGivers_X7 hown hK hP 0 rfl rfl 0 (by decide) (hts _ mX7_findGivers_1) (fun _ h9 => h9) rfl dX7_findGivers_14 ?_
      refine lv_iload_n hx hb dX7_findGivers_17 rfl (lv_at hl 2 rfl) ?_
      obtain ⟨hg_2, hf⟩ := ck_s hf
      refine va_iald (D := (dC, dI)) hx hb hK hP 1 0 rfl rfl (g_vp hg_2) dX7_findGivers_18 ?_
      refine lv_if_lt (tgt := 47) hx hb dX7_findGivers_19 (by decide) (fun c_3 => ?_) (fun c_3 => ?_)
      · have hf := it_t hf c_3
        have hf : fX7_findGivers_b47 (fX7_findGivers_b7 v_gives v_o1 n) v_gives v_o1 v_givers l2 = some n_givers := hf
        exact kX7_findGivers_47 C0 hA hK ih v_givers l2 _ _ _ hf hP hD hS (lv_sub hl [0, 1, 2] rfl)
      · have hf := it_f hf c_3
        refine lv_aload_n hx hb dX7_findGivers_22 rfl (lv_at hl 1 rfl) ?_
        refine lv_iload_n hx hb dX7_findGivers_23 rfl (lv_at hl 2 rfl) ?_
        obtain ⟨hg_4, hf⟩ := ck_s hf
        refine w_aald hx hb hK hP 2 3 rfl rfl (g_vp hg_4) dX7_findGivers_24 ?_
        refine lv_aload_n hx hb dX7_findGivers_25 rfl (lv_at hl 0 rfl) ?_
        refine va_get (D := (dC, dI)) (ci := 7) (v := .ref h_gives) (C := RX7) (T := TX7) (N := 4) hx hb hts iX7_findGivers_X7 hown hK hP 0 rfl rfl 0 (by decide) (hts _ mX7_findGivers_1) (fun _ h9 => h9) rfl dX7_findGivers_26 ?_
        refine lv_iload_n hx hb dX7_findGivers_29 rfl (lv_at hl 2 rfl) ?_
        obtain ⟨hg_5, hf⟩ := ck_s hf
        refine va_iald (D := (dC, dI)) hx hb hK hP 1 0 rfl rfl (g_vp hg_5) dX7_findGivers_30 ?_
        obtain ⟨hg_6, hf⟩ := ck_s hf
        refine va_iald (D := (dC, dI)) hx hb hK hP (3 + l2.toNatClampNeg) 0 (fin6 (P := fun j => (wcX7_findGivers cI cJ cZ cG h h_gives h_wants h_row o1 r_o1 v_givers v_gives v_o1)[3 + j]? = some (r_o1 j, .inl (cI, 20, .inl (v_o1 j)))) rfl rfl rfl rfl rfl rfl _ (g_lt hg_4)) rfl (g_vp hg_6) dX7_findGivers_31 ?_
        refine lv_if_le (tgt := 47) hx hb dX7_findGivers_32 (by decide) (fun c_7 => ?_) (fun c_7 => ?_)
        · have hf := it_t hf c_7
          have hf : fX7_findGivers_b47 (fX7_findGivers_b7 v_gives v_o1 n) v_gives v_o1 v_givers l2 = some n_givers := hf
          exact kX7_findGivers_47 C0 hA hK ih v_givers l2 _ _ _ hf hP hD hS (lv_sub hl [0, 1, 2] rfl)
        · have hf := it_f hf c_7
          refine lv_aload_n hx hb dX7_findGivers_35 rfl (lv_at hl 0 rfl) ?_
          refine lv_dup hx hb dX7_findGivers_36 rfl ?_
          refine va_get (D := (dC, dI)) (ci := 7) (v := .int v_givers) (C := RX7) (T := TX7) (N := 4) hx hb hts iX7_findGivers_X7 hown hK hP 0 rfl rfl 2 (by decide) (hts _ mX7_findGivers_0) (fun _ h9 => h9) rfl dX7_findGivers_37 ?_
          refine lv_iconst (v := 1) hx hb dX7_findGivers_40 (by decide) ?_
          refine lv_iload_n hx hb dX7_findGivers_41 rfl (lv_at hl 2 rfl) ?_
          refine lv_ishl hx hb dX7_findGivers_42 ?_
          refine lv_ior hx hb dX7_findGivers_43 ?_
          obtain ⟨x_8, ex_8, hf⟩ := nm_s hf
          refine w_eqi ex_8 ?_
          refine va_put (D := (dC, dI)) (ci := 7) (v := .int x_8) (ty := .int) (C := RX7) (T := TX7) (N := 4) hx hb hts iX7_findGivers_X7 tyX7 tyX7_ok nmX7 hown hK hP hD hS 0 rfl rfl 2 (by decide) (hts _ mX7_findGivers_0) (fun _ h9 => h9) rfl (by decide +kernel) rfl rfl (Nat.le_of_ble_eq_true rfl) dX7_findGivers_44 (fun H locs hP hD hS => ?_)
          have hP : va_P (dC, dI) vwCl (wcX7_findGivers cI cJ cZ cG h h_gives h_wants h_row o1 r_o1 x_8 v_gives v_o1) H := hP
          have hD : va_D A (wcX7_findGivers cI cJ cZ cG h h_gives h_wants h_row o1 r_o1 x_8 v_gives v_o1) := hD
          have hf : fX7_findGivers_b47 (fX7_findGivers_b7 v_gives v_o1 n) v_gives v_o1 x_8 l2 = some n_givers := hf
          exact kX7_findGivers_47 C0 hA hK ih x_8 l2 _ _ _ hf hP hD hS (lv_sub hl [0, 1, 2] rfl)
set_option maxHeartbeats 4000000 in
set_option maxRecDepth 100000 in
theorem oX7_findGivers (l : Launch) (dC : Nat → ClassId) (dI : Nat → Nat → Nat) (cI cJ cZ cG : ClassId) (h h_gives h_wants h_row o1 : Nat) (r_o1 : Nat → Nat) (v_givers : Int32) (v_gives : Nat → Int32) (v_o1 : Nat → Nat → Int32) (sz : Nat) (n_givers : Int32) (hf : fX7_findGivers v_givers v_gives v_o1 = some n_givers) : Met l yX7_findGivers wsX7_findGivers rmX7_findGivers (wPc [.ref h, .ref o1] (dC, dI) (tysW cI cJ cZ cG) sz (wcX7_findGivers cI cJ cZ cG h h_gives h_wants h_row o1 r_o1 v_givers v_gives v_o1)) (wQv (wcX7_findGivers cI cJ cZ cG h h_gives h_wants h_row o1 r_o1 n_givers v_gives v_o1) (dC, dI) (va_A (wcX7_findGivers cI cJ cZ cG h h_gives h_wants h_row o1 r_o1 v_givers v_gives v_o1) sz)) 0 0 (va_A (wcX7_findGivers cI cJ cZ cG h h_gives h_wants h_row o1 r_o1 v_givers v_gives v_o1) sz) := by
  refine Met.ofW (cc := cX7_findGivers) (maxL := 3) (ret := none) (by decide) rfl ?_
  intro p e s m args below meth c s₁ B hml hv
  obtain ⟨rfl, hsz, hP, hK, hD0⟩ := hv
  have hx := B.exec
  have hb := B.bytes
  have hr := B.returns
  have hts := atoms_spec (ws := wsX7_findGivers) B.pre
  have hown : s.vm.findClass RX7 = some m.cls := findClass_of_methodNamed B.named
  have hlocks := B.notSynchronized
  subst hsz
  have hD := hD0.self (sz := s.heap.size)
  generalize hAe : va_A (wcX7_findGivers cI cJ cZ cG h h_gives h_wants h_row o1 r_o1 v_givers v_gives v_o1) s.heap.size = A at hD ⊢
  have hA : ∀ q : Nat, s.heap.size ≤ q → A q := fun q h => by rw [← hAe]; exact Or.inr h
  have hS : va_S A s.heap s.heap [] := va_S.rf
  have hP : va_P (dC, dI) vwCl (wcX7_findGivers cI cJ cZ cG h h_gives h_wants h_row o1 r_o1 v_givers v_gives v_o1) s.heap := hP
  have hl := lv_entry ([.ref h, .ref o1]) (n := 3) (Nat.le_of_ble_eq_true rfl)
  rw [lg_entry_eq]
  generalize (lg_sl ([.ref h, .ref o1]) ++ List.replicate (3 - (lg_sl ([.ref h, .ref o1])).length) Slot.unset).toArray = ls at hl ⊢
  have hl : lv_has ls 3 [(0, .ref h), (1, .ref o1)] := hl
  generalize hH : s.heap = H at hP hS ⊢
  have hS : va_S A s.heap H [] := by rw [hH]; exact hS
  have C0 : wCX p s #[.ref h, .ref o1] m meth c cX7_findGivers 3 none RX7 wsX7_findGivers := ⟨hx, hb, hr, hml, hown, hts, hlocks⟩
  show W p l e rmX7_findGivers s m #[.ref h, .ref o1] below meth c H [] 0 0 (MQ below (wQv (wcX7_findGivers cI cJ cZ cG h h_gives h_wants h_row o1 r_o1 n_givers v_gives v_o1) (dC, dI) A) #[.ref h, .ref o1] s 0 0 A) (F0 m 0 ls [])
  unfold fX7_findGivers at hf
  refine lv_aload_n hx hb dX7_findGivers_0 rfl (lv_at hl 0 rfl) ?_
  refine lv_iconst (v := 0) hx hb dX7_findGivers_1 (by decide) ?_
  refine va_put (D := (dC, dI)) (ci := 7) (v := .int 0) (ty := .int) (C := RX7) (T := TX7) (N := 4) hx hb hts iX7_findGivers_X7 tyX7 tyX7_ok nmX7 hown hK hP hD hS 0 rfl rfl 2 (by decide) (hts _ mX7_findGivers_0) (fun _ h9 => h9) rfl (by decide +kernel) rfl rfl (Nat.le_of_ble_eq_true rfl) dX7_findGivers_2 (fun H locs hP hD hS => ?_)
  have hP : va_P (dC, dI) vwCl (wcX7_findGivers cI cJ cZ cG h h_gives h_wants h_row o1 r_o1 0 v_gives v_o1) H := hP
  have hD : va_D A (wcX7_findGivers cI cJ cZ cG h h_gives h_wants h_row o1 r_o1 0 v_gives v_o1) := hD
  refine lv_iconst (v := 0) hx hb dX7_findGivers_5 (by decide) ?_
  refine lv_istore_n (lv' := [(2, .int 0), (0, .ref h), (1, .ref o1)]) hx hb dX7_findGivers_6 rfl hl (by decide) rfl (fun ls hl => ?_)
  have hf : fX7_findGivers_b7 v_gives v_o1 70 0 0 = some n_givers := hf
  exact kX7_findGivers_7 C0 hA hK 70 0 0 _ _ _ hf hP hD hS (lv_sub hl [1, 2, 0] rfl)
