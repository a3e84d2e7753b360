/-! printed by gen.py: findother -/
abbrev wcX3_findOther (cI cJ cZ cG : ClassId) (h h_strengths h_met h_row h_others : Nat) (v_length : Int32) (v_strengths : Nat → Int32) (v_met : Nat → Int32) (v_row : Nat → Int32) (v_others : Nat → Int32) : va_W := [(h, .inr (3, [.ref h_strengths, .ref h_met, .ref h_row, .ref h_others, .int v_length])), (h_strengths, .inl (cI, 6, .inl v_strengths)), (h_met, .inl (cI, 6, .inl v_met)), (h_row, .inl (cI, 6, .inl v_row)), (h_others, .inl (cI, 6, .inl v_others))]
theorem iX3_findOther_X3 : ∀ w ∈ wsX30, w ∈ wsX3_findOther := by decide +kernel
theorem mX3_findOther_0 : (Cond.fieldLink RX3 37 "Sleevehall$Matches" "length" "I") ∈ wsX3_findOther := by decide +kernel
theorem mX3_findOther_1 : (Cond.fieldLink RX3 21 "Sleevehall$Matches" "others" "[I") ∈ wsX3_findOther := by decide +kernel
abbrev rmX3_findOther : Room := { frames := 50, cells := 0, slots := 0, locals := 964 }
set_option maxHeartbeats 4000000 in
set_option maxRecDepth 100000 in
theorem kX3_findOther_61 {p : Program} {l : Launch} {e : Env} {s : State} {m : MethodId} {args : Array Value} {below : List Frame} {meth : Method} {c : Code} {dC : Nat → ClassId} {dI : Nat → Nat → Nat} {A : Nat → Prop} {cI cJ cZ cG : ClassId} {h h_strengths h_met h_row h_others : Nat} {v_strengths : Nat → Int32} {v_met : Nat → Int32} {r0 : Int32} {n_length : Int32} {n_row : Nat → Int32} {n_others : Nat → Int32} (C0 : wCX p s args m meth c cX3_findOther 4 (some .int) RX3 wsX3_findOther) (hA : ∀ q, s.heap.size ≤ q → A q) (hK : va_K (dC, dI) vwCl (tysW cI cJ cZ cG) s) : ∀ (v_length : Int32) (v_row : Nat → Int32) (v_others : Nat → Int32) (s0 : Int32) (H : Heap) (locs : List Loc) (ls : Array Slot), fX3_findOther_b61 v_strengths v_met v_length v_row v_others s0 = some (r0, n_length, n_row, n_others) → va_P (dC, dI) vwCl (wcX3_findOther cI cJ cZ cG h h_strengths h_met h_row h_others v_length v_strengths v_met v_row v_others) H → va_D A (wcX3_findOther cI cJ cZ cG h h_strengths h_met h_row h_others v_length v_strengths v_met v_row v_others) → va_S A s.heap H locs → lv_has ls 4 [] → W p l e rmX3_findOther s m args below meth c H locs 0 0 (MQ below (wQi r0 (wcX3_findOther cI cJ cZ cG h h_strengths h_met h_row h_others n_length v_strengths v_met n_row n_others) (dC, dI) A) args s 0 0 A) (F0 m 61 ls [.int s0]) := by
  obtain ⟨hx, hb, hr, hml, hown, hts, hlocks⟩ := id C0
  intro v_length v_row v_others s0 H locs ls hf hP hD hS hl
  unfold fX3_findOther_b61 at hf
  have hf : some (s0, v_length, v_row, v_others) = some (r0, n_length, n_row, n_others) := hf
  cases hf
  exact w_iret hx hb hr hlocks rfl hP hD hS dX3_findOther_61
set_option maxHeartbeats 4000000 in
set_option maxRecDepth 100000 in
theorem kX3_findOther_7 {p : Program} {l : Launch} {e : Env} {s : State} {m : MethodId} {args : Array Value} {below : List Frame} {meth : Method} {c : Code} {dC : Nat → ClassId} {dI : Nat → Nat → Nat} {A : Nat → Prop} {cI cJ cZ cG : ClassId} {h h_strengths h_met h_row h_others : Nat} {v_strengths : Nat → Int32} {v_met : Nat → Int32} {r0 : Int32} {n_length : Int32} {n_row : Nat → Int32} {n_others : Nat → Int32} (C0 : wCX p s args m meth c cX3_findOther 4 (some .int) RX3 wsX3_findOther) (hA : ∀ q, s.heap.size ≤ q → A q) (hK : va_K (dC, dI) vwCl (tysW cI cJ cZ cG) s) : ∀ (n : Nat), ∀ (v_length : Int32) (v_row : Nat → Int32) (v_others : Nat → Int32) (l1 : Int32) (l3 : Int32) (H : Heap) (locs : List Loc) (ls : Array Slot), fX3_findOther_b7 v_strengths v_met n v_length v_row v_others l1 l3 = some (r0, n_length, n_row, n_others) → va_P (dC, dI) vwCl (wcX3_findOther cI cJ cZ cG h h_strengths h_met h_row h_others v_length v_strengths v_met v_row v_others) H → va_D A (wcX3_findOther cI cJ cZ cG h h_strengths h_met h_row h_others v_length v_strengths v_met v_row v_others) → va_S A s.heap H locs → lv_has ls 4 [(0, .ref h), (1, .int l1), (3, .int l3)] → W p l e rmX3_findOther s m args below meth c H locs 0 0 (MQ below (wQi r0 (wcX3_findOther cI cJ cZ cG h h_strengths h_met h_row h_others n_length v_strengths v_met n_row n_others) (dC, dI) A) args s 0 0 A) (F0 m 7 ls []) := by
  obtain ⟨hx, hb, hr, hml, hown, hts, hlocks⟩ := id C0
  intro n
  induction n with
  | zero =>
    intro v_length v_row v_others l1 l3 H locs ls hf hP hD hS hl
    rw [fX3_findOther_b7] at hf
    cases hf
  | succ n ih =>
    intro v_length v_row v_others l1 l3 H locs ls hf hP hD hS hl
    rw [fX3_findOther_b7] at hf
    refine lv_iload_n hx hb dX3_findOther_7 rfl (lv_at hl 2 rfl) ?_
    refine lv_bipush (v := 6) hx hb dX3_findOther_8 (by decide) ?_
    refine lv_icmp_ge (tgt := 26) hx hb dX3_findOther_10 (by decide) (fun c_1 => ?_) (fun c_1 => ?_)
    · have hf := it_t hf c_1
      refine lv_aload_n hx hb dX3_findOther_26 rfl (lv_at hl 0 rfl) ?_
      refine va_get (D := (dC, dI)) (ci := 3) (v := .int v_length) (C := RX3) (T := TX3) (N := 5) hx hb hts iX3_findOther_X3 hown hK hP 0 rfl rfl 4 (by decide) (hts _ mX3_findOther_0) (fun _ h9 => h9) rfl dX3_findOther_27 ?_
      refine lv_aload_n hx hb dX3_findOther_30 rfl (lv_at hl 0 rfl) ?_
      refine va_get (D := (dC, dI)) (ci := 3) (v := .int v_length) (C := RX3) (T := TX3) (N := 5) hx hb hts iX3_findOther_X3 hown hK hP 0 rfl rfl 4 (by decide) (hts _ mX3_findOther_0) (fun _ h9 => h9) rfl dX3_findOther_31 ?_
      refine lv_iconst (v := 2) hx hb dX3_findOther_34 (by decide) ?_
      refine lv_irem hx hb dX3_findOther_35 (by decide) ?_
      refine lv_isub hx hb dX3_findOther_36 ?_
      obtain ⟨x_2, ex_2, hf⟩ := nm_s hf
      refine w_eqi ex_2 ?_
      refine lv_istore_n (lv' := [(3, .int x_2), (0, .ref h), (1, .int l1)]) hx hb dX3_findOther_37 rfl hl (by decide) rfl (fun ls hl => ?_)
      refine lv_aload_n hx hb dX3_findOther_38 rfl (lv_at hl 1 rfl) ?_
      refine lv_iconst (v := 1) hx hb dX3_findOther_39 (by decide) ?_
      refine lv_iload_n hx hb dX3_findOther_40 rfl (lv_at hl 0 rfl) ?_
      refine lv_ishl hx hb dX3_findOther_41 ?_
      refine lv_iconst (v := 1) hx hb dX3_findOther_42 (by decide) ?_
      refine lv_isub hx hb dX3_findOther_43 ?_
      refine lv_iconst (v := 0) hx hb dX3_findOther_44 (by decide) ?_
      obtain ⟨⟨r_3, w_4⟩, hc_5, hf⟩ := ob_s hf
      refine w_callVz (As := [.int (((1 : Int32) <<< (x_2 &&& 31)) - 1), .int 0]) (rest := []) (wr := List.filterMap (fun i : Nat => (wcX3_findOther cI cJ cZ cG h h_strengths h_met h_row h_others v_length v_strengths v_met v_row v_others)[i]?) [1]) (ws1 := (wcX3_findOther cI cJ cZ cG h h_strengths h_met h_row h_others v_length v_strengths v_met v_row w_4)) ⟨hx, hb, hml, hown, hts⟩ (otX3_canPair l dC dI cI cJ cZ cG h h_strengths h_met h_row h_others v_length v_met v_row v_others H.size (((1 : Int32) <<< (x_2 &&& 31)) - 1) 0 r_3 w_4 hc_5) (cwV 2 hts gX3_findOther_X3_canPair rfl rfl rfl (by decide +kernel) ⟨Nat.le_of_ble_eq_true rfl, Nat.le_of_ble_eq_true rfl⟩) hK 0 3 rfl rfl rfl hP hD hS hA [0, 2, 3, 4] [1] [1, 0, 2, 3, 4] rfl rfl rfl rfl (by decide) rfl rfl rfl hl.1 rfl (Nat.le_of_ble_eq_true rfl) dX3_findOther_45 ⟨Nat.le_refl _, Nat.le_refl _⟩ (fun hz_6 H locs hP hD hS => ?_)
      refine lv_if_eq (tgt := 60) hx hb dX3_findOther_48 (by decide) (fun c_7 => ?_) (fun c_7 => ?_)
      · have hf := it_t hf c_7
        refine lv_iconst (v := (-1)) hx hb dX3_findOther_60 (by decide) ?_
        have hf : fX3_findOther_b61 v_strengths v_met v_length v_row w_4 (-1) = some (r0, n_length, n_row, n_others) := hf
        exact kX3_findOther_61 C0 hA hK v_length v_row w_4 (-1) _ _ _ hf hP hD hS (lv_sub hl [] rfl)
      · have hf := it_f hf c_7
        refine lv_aload_n hx hb dX3_findOther_51 rfl (lv_at hl 1 rfl) ?_
        refine va_get (D := (dC, dI)) (ci := 3) (v := .ref h_others) (C := RX3) (T := TX3) (N := 5) hx hb hts iX3_findOther_X3 hown hK hP 0 rfl rfl 3 (by decide) (hts _ mX3_findOther_1) (fun _ h9 => h9) rfl dX3_findOther_52 ?_
        refine lv_iload_n hx hb dX3_findOther_55 rfl (lv_at hl 2 rfl) ?_
        obtain ⟨hg_8, hf⟩ := ck_s hf
        refine va_iald (D := (dC, dI)) hx hb hK hP 4 0 rfl rfl (g_vp hg_8) dX3_findOther_56 ?_
        refine lv_goto (tgt := 61) hx hb dX3_findOther_57 (by decide) ?_
        have hf : fX3_findOther_b61 v_strengths v_met v_length v_row w_4 (w_4 l1.toNatClampNeg) = some (r0, n_length, n_row, n_others) := hf
        exact kX3_findOther_61 C0 hA hK v_length v_row w_4 (w_4 l1.toNatClampNeg) _ _ _ hf hP hD hS (lv_sub hl [] rfl)
    · have hf := it_f hf c_1
      refine lv_aload_n hx hb dX3_findOther_13 rfl (lv_at hl 0 rfl) ?_
      refine va_get (D := (dC, dI)) (ci := 3) (v := .ref h_others) (C := RX3) (T := TX3) (N := 5) hx hb hts iX3_findOther_X3 hown hK hP 0 rfl rfl 3 (by decide) (hts _ mX3_findOther_1) (fun _ h9 => h9) rfl dX3_findOther_14 ?_
      refine lv_iload_n hx hb dX3_findOther_17 rfl (lv_at hl 2 rfl) ?_
      refine lv_iconst (v := (-1)) hx hb dX3_findOther_18 (by decide) ?_
      obtain ⟨hg_9, hf⟩ := ck_s hf
      refine va_iast (D := (dC, dI)) hx hb hK hP hD hS 4 0 rfl rfl (g_vp hg_9) dX3_findOther_19 (fun H locs hP hD hS => ?_)
      have hP : va_P (dC, dI) vwCl (wcX3_findOther cI cJ cZ cG h h_strengths h_met h_row h_others v_length v_strengths v_met v_row (upd v_others l3.toNatClampNeg (-1))) H := hP
      have hD : va_D A (wcX3_findOther cI cJ cZ cG h h_strengths h_met h_row h_others v_length v_strengths v_met v_row (upd v_others l3.toNatClampNeg (-1))) := hD
      obtain ⟨x_10, ex_10, hf⟩ := nm_s hf
      refine lv_iinc (v := x_10) (lv' := [(3, .int x_10), (0, .ref h), (1, .int l1)]) hx hb dX3_findOther_20 hl (k := 2) rfl (by rw [ex_10]; rfl) (by decide) rfl (fun ls hl => ?_)
      refine lv_goto (tgt := 7) hx hb dX3_findOther_23 (by decide) ?_
      have hf : (fX3_findOther_b7 v_strengths v_met n) v_length v_row (upd v_others l3.toNatClampNeg (-1)) l1 x_10 = some (r0, n_length, n_row, n_others) := hf
      exact ih v_length v_row (upd v_others l3.toNatClampNeg (-1)) l1 x_10 _ _ _ hf hP hD hS (lv_sub hl [1, 2, 0] rfl)
set_option maxHeartbeats 4000000 in
set_option maxRecDepth 100000 in
theorem oX3_findOther (l : Launch) (dC : Nat → ClassId) (dI : Nat → Nat → Nat) (cI cJ cZ cG : ClassId) (h h_strengths h_met h_row h_others : Nat) (v_length : Int32) (v_strengths : Nat → Int32) (v_met : Nat → Int32) (v_row : Nat → Int32) (v_others : Nat → Int32) (sz : Nat) (p1 : Int32) (p2 : Int32) (r0 : Int32) (n_length : Int32) (n_row : Nat → Int32) (n_others : Nat → Int32) (hf : fX3_findOther v_length v_strengths v_met v_row v_others p1 p2 = some (r0, n_length, n_row, n_others)) : Met l yX3_findOther wsX3_findOther rmX3_findOther (wPc [.ref h, .int p1, .int p2] (dC, dI) (tysW cI cJ cZ cG) sz (wcX3_findOther cI cJ cZ cG h h_strengths h_met h_row h_others v_length v_strengths v_met v_row v_others)) (wQi r0 (wcX3_findOther cI cJ cZ cG h h_strengths h_met h_row h_others n_length v_strengths v_met n_row n_others) (dC, dI) (va_A (wcX3_findOther cI cJ cZ cG h h_strengths h_met h_row h_others v_length v_strengths v_met v_row v_others) sz)) 0 0 (va_A (wcX3_findOther cI cJ cZ cG h h_strengths h_met h_row h_others v_length v_strengths v_met v_row v_others) sz) := by
  refine Met.ofW (cc := cX3_findOther) (maxL := 4) (ret := (some .int)) (by decide) rfl ?_
  intro p e s m args below meth c s₁ B hml hv
  obtain ⟨rfl, hsz, hP, hK, hD0⟩ := hv
  have hx := B.exec
  have hb := B.bytes
  have hr := B.returns
  have hts := atoms_spec (ws := wsX3_findOther) B.pre
  have hown : s.vm.findClass RX3 = some m.cls := findClass_of_methodNamed B.named
  have hlocks := B.notSynchronized
  subst hsz
  have hD := hD0.self (sz := s.heap.size)
  generalize hAe : va_A (wcX3_findOther cI cJ cZ cG h h_strengths h_met h_row h_others v_length v_strengths v_met v_row v_others) s.heap.size = A at hD ⊢
  have hA : ∀ q : Nat, s.heap.size ≤ q → A q := fun q h => by rw [← hAe]; exact Or.inr h
  have hS : va_S A s.heap s.heap [] := va_S.rf
  have hP : va_P (dC, dI) vwCl (wcX3_findOther cI cJ cZ cG h h_strengths h_met h_row h_others v_length v_strengths v_met v_row v_others) s.heap := hP
  have hl := lv_entry ([.ref h, .int p1, .int p2]) (n := 4) (Nat.le_of_ble_eq_true rfl)
  rw [lg_entry_eq]
  generalize (lg_sl ([.ref h, .int p1, .int p2]) ++ List.replicate (4 - (lg_sl ([.ref h, .int p1, .int p2])).length) Slot.unset).toArray = ls at hl ⊢
  have hl : lv_has ls 4 [(0, .ref h), (1, .int p1), (2, .int p2)] := hl
  generalize hH : s.heap = H at hP hS ⊢
  have hS : va_S A s.heap H [] := by rw [hH]; exact hS
  have C0 : wCX p s #[.ref h, .int p1, .int p2] m meth c cX3_findOther 4 (some .int) RX3 wsX3_findOther := ⟨hx, hb, hr, hml, hown, hts, hlocks⟩
  show W p l e rmX3_findOther s m #[.ref h, .int p1, .int p2] below meth c H [] 0 0 (MQ below (wQi r0 (wcX3_findOther cI cJ cZ cG h h_strengths h_met h_row h_others n_length v_strengths v_met n_row n_others) (dC, dI) A) #[.ref h, .int p1, .int p2] s 0 0 A) (F0 m 0 ls [])
  unfold fX3_findOther at hf
  refine lv_aload_n hx hb dX3_findOther_0 rfl (lv_at hl 0 rfl) ?_
  refine lv_iload_n hx hb dX3_findOther_1 rfl (lv_at hl 2 rfl) ?_
  obtain ⟨⟨w_1, w_2⟩, hc_3, hf⟩ := ob_s hf
  refine w_callVv (As := [.int p2]) (rest := []) (wr := List.filterMap (fun i : Nat => (wcX3_findOther cI cJ cZ cG h h_strengths h_met h_row h_others v_length v_strengths v_met v_row v_others)[i]?) [2, 4]) (ws1 := (wcX3_findOther cI cJ cZ cG h h_strengths h_met h_row h_others w_1 v_strengths v_met w_2 v_others)) ⟨hx, hb, hml, hown, hts⟩ (oX3_makeRow l dC dI cI cJ cZ cG h h_strengths h_met h_row h_others v_length v_strengths v_row H.size p2 w_1 w_2 hc_3) (cwV 1 hts gX3_findOther_X3_makeRow rfl rfl rfl (by decide +kernel) ⟨Nat.le_of_ble_eq_true rfl, Nat.le_of_ble_eq_true rfl⟩) hK 0 3 rfl rfl rfl hP hD hS hA [0, 1, 3] [2, 4] [2, 3, 0, 4, 1] rfl rfl rfl rfl (by decide) rfl rfl rfl hl.1 rfl (Nat.le_of_ble_eq_true rfl) dX3_findOther_2 ⟨Nat.le_refl _, Nat.le_refl _⟩ (fun H locs hP hD hS => ?_)
  refine lv_iconst (v := 0) hx hb dX3_findOther_5 (by decide) ?_
  refine lv_istore_n (lv' := [(3, .int 0), (0, .ref h), (1, .int p1), (2, .int p2)]) hx hb dX3_findOther_6 rfl hl (by decide) rfl (fun ls hl => ?_)
  have hf : fX3_findOther_b7 v_strengths v_met 70 w_1 w_2 v_others p1 0 = some (r0, n_length, n_row, n_others) := hf
  exact kX3_findOther_7 C0 hA hK 70 w_1 w_2 v_others p1 0 _ _ _ hf hP hD hS (lv_sub hl [1, 2, 0] rfl)
