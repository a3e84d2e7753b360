/-! printed by gen.py: findbest -/
abbrev wcX7_findBest (cI cJ cZ cG : ClassId) (h h_gives h_wants h_row o1 : Nat) (r_o1 : Nat → Nat) (v_givers : Int32) (v_gives : Nat → Int32) (v_wants : Nat → Int32) (v_row : Nat → Int32) (v_o1 : Nat → Nat → Int32) : va_W := [(h, .inr (7, [.ref h_gives, .ref h_wants, .int v_givers, .ref h_row])), (h_gives, .inl (cI, 6, .inl v_gives)), (h_wants, .inl (cI, 6, .inl v_wants)), (h_row, .inl (cI, 6, .inl v_row)), gOut o1 r_o1 cG 6] ++ gRows r_o1 cI 20 v_o1
abbrev rmX7_findBest : Room := { frames := 57, cells := 0, slots := 0, locals := 1383 }
set_option maxHeartbeats 4000000 in
set_option maxRecDepth 100000 in
theorem kX7_findBest_41 {p : Program} {l : Launch} {e : Env} {s : State} {m : MethodId} {args : Array Value} {below : List Frame} {meth : Method} {c : Code} {dC : Nat → ClassId} {dI : Nat → Nat → Nat} {A : Nat → Prop} {cI cJ cZ cG : ClassId} {h h_gives h_wants h_row o1 : Nat} {r_o1 : Nat → Nat} {v_gives : Nat → Int32} {v_wants : Nat → Int32} {v_o1 : Nat → Nat → Int32} {r0 : Int32} {n_givers : Int32} {n_row : Nat → Int32} {k_7 : Int32 → (Nat → Int32) → Int32 → Option (Int32 × Int32 × (Nat → Int32))} {k_15 : Int32 → (Nat → Int32) → Int32 → Int32 → Option (Int32 × Int32 × (Nat → Int32))} (C0 : wCX p s args m meth c cX7_findBest 4 (some .int) RX7 wsX7_findBest) (hA : ∀ q, s.heap.size ≤ q → A q) (hK : va_K (dC, dI) vwCl (tysW cI cJ cZ cG) s) (hk_7 : ∀ (v_givers : Int32) (v_row : Nat → Int32) (l2 : Int32) (H : Heap) (locs : List Loc) (ls : Array Slot), k_7 v_givers v_row l2 = some (r0, n_givers, n_row) → va_P (dC, dI) vwCl (wcX7_findBest cI cJ cZ cG h h_gives h_wants h_row o1 r_o1 v_givers v_gives v_wants v_row v_o1) H → va_D A (wcX7_findBest cI cJ cZ cG h h_gives h_wants h_row o1 r_o1 v_givers v_gives v_wants v_row v_o1) → va_S A s.heap H locs → lv_has ls 4 [(0, .ref h), (2, .int l2)] → W p l e rmX7_findBest s m args below meth c H locs 0 0 (MQ below (wQi r0 (wcX7_findBest cI cJ cZ cG h h_gives h_wants h_row o1 r_o1 n_givers v_gives v_wants n_row v_o1) (dC, dI) A) args s 0 0 A) (F0 m 7 ls [])) (hk_15 : ∀ (v_givers : Int32) (v_row : Nat → Int32) (l2 : Int32) (l3 : Int32) (H : Heap) (locs : List Loc) (ls : Array Slot), k_15 v_givers v_row l2 l3 = some (r0, n_givers, n_row) → va_P (dC, dI) vwCl (wcX7_findBest cI cJ cZ cG h h_gives h_wants h_row o1 r_o1 v_givers v_gives v_wants v_row v_o1) H → va_D A (wcX7_findBest cI cJ cZ cG h h_gives h_wants h_row o1 r_o1 v_givers v_gives v_wants v_row v_o1) → va_S A s.heap H locs → lv_has ls 4 [(0, .ref h), (2, .int l2), (3, .int l3)] → W p l e rmX7_findBest s m args below meth c H locs 0 0 (MQ below (wQi r0 (wcX7_findBest cI cJ cZ cG h h_gives h_wants h_row o1 r_o1 n_givers v_gives v_wants n_row v_o1) (dC, dI) A) args s 0 0 A) (F0 m 15 ls [])) : ∀ (v_givers : Int32) (v_row : Nat → Int32) (l2 : Int32) (l3 : Int32) (H : Heap) (locs : List Loc) (ls : Array Slot), fX7_findBest_b41 k_7 k_15 v_gives v_wants v_o1 v_givers v_row l2 l3 = some (r0, n_givers, n_row) → va_P (dC, dI) vwCl (wcX7_findBest cI cJ cZ cG h h_gives h_wants h_row o1 r_o1 v_givers v_gives v_wants v_row v_o1) H → va_D A (wcX7_findBest cI cJ cZ cG h h_gives h_wants h_row o1 r_o1 v_givers v_gives v_wants v_row v_o1) → va_S A s.heap H locs → lv_has ls 4 [(0, .ref h), (2, .int l2), (3, .int l3)] → W p l e rmX7_findBest s m args below meth c H locs 0 0 (MQ below (wQi r0 (wcX7_findBest cI cJ cZ cG h h_gives h_wants h_row o1 r_o1 n_givers v_gives v_wants n_row v_o1) (dC, dI) A) args s 0 0 A) (F0 m 41 ls []) := by
  obtain ⟨hx, hb, hr, hml, hown, hts, hlocks⟩ := id C0
  intro v_givers v_row l2 l3 H locs ls hf hP hD hS hl
  unfold fX7_findBest_b41 at hf
  obtain ⟨x_1, ex_1, hf⟩ := nm_s hf
  refine lv_iinc (v := x_1) (lv' := [(3, .int x_1), (0, .ref h), (2, .int l2)]) hx hb dX7_findBest_41 hl (k := 2) rfl (by rw [ex_1]; rfl) (by decide) rfl (fun ls hl => ?_)
  refine lv_goto (tgt := 15) hx hb dX7_findBest_44 (by decide) ?_
  have hf : k_15 v_givers v_row l2 x_1 = some (r0, n_givers, n_row) := hf
  exact hk_15 v_givers v_row l2 x_1 _ _ _ hf hP hD hS (lv_sub hl [1, 2, 0] rfl)
set_option maxHeartbeats 4000000 in
set_option maxRecDepth 100000 in
theorem kX7_findBest_15 {p : Program} {l : Launch} {e : Env} {s : State} {m : MethodId} {args : Array Value} {below : List Frame} {meth : Method} {c : Code} {dC : Nat → ClassId} {dI : Nat → Nat → Nat} {A : Nat → Prop} {cI cJ cZ cG : ClassId} {h h_gives h_wants h_row o1 : Nat} {r_o1 : Nat → Nat} {v_gives : Nat → Int32} {v_wants : Nat → Int32} {v_o1 : Nat → Nat → Int32} {r0 : Int32} {n_givers : Int32} {n_row : Nat → Int32} {k_7 : Int32 → (Nat → Int32) → Int32 → Option (Int32 × Int32 × (Nat → Int32))} (C0 : wCX p s args m meth c cX7_findBest 4 (some .int) RX7 wsX7_findBest) (hA : ∀ q, s.heap.size ≤ q → A q) (hK : va_K (dC, dI) vwCl (tysW cI cJ cZ cG) s) (hk_7 : ∀ (v_givers : Int32) (v_row : Nat → Int32) (l2 : Int32) (H : Heap) (locs : List Loc) (ls : Array Slot), k_7 v_givers v_row l2 = some (r0, n_givers, n_row) → va_P (dC, dI) vwCl (wcX7_findBest cI cJ cZ cG h h_gives h_wants h_row o1 r_o1 v_givers v_gives v_wants v_row v_o1) H → va_D A (wcX7_findBest cI cJ cZ cG h h_gives h_wants h_row o1 r_o1 v_givers v_gives v_wants v_row v_o1) → va_S A s.heap H locs → lv_has ls 4 [(0, .ref h), (2, .int l2)] → W p l e rmX7_findBest s m args below meth c H locs 0 0 (MQ below (wQi r0 (wcX7_findBest cI cJ cZ cG h h_gives h_wants h_row o1 r_o1 n_givers v_gives v_wants n_row v_o1) (dC, dI) A) args s 0 0 A) (F0 m 7 ls [])) : ∀ (n : Nat), ∀ (v_givers : Int32) (v_row : Nat → Int32) (l2 : Int32) (l3 : Int32) (H : Heap) (locs : List Loc) (ls : Array Slot), fX7_findBest_b15 k_7 v_gives v_wants v_o1 n v_givers v_row l2 l3 = some (r0, n_givers, n_row) → va_P (dC, dI) vwCl (wcX7_findBest cI cJ cZ cG h h_gives h_wants h_row o1 r_o1 v_givers v_gives v_wants v_row v_o1) H → va_D A (wcX7_findBest cI cJ cZ cG h h_gives h_wants h_row o1 r_o1 v_givers v_gives v_wants v_row v_o1) → va_S A s.heap H locs → lv_has ls 4 [(0, .ref h), (2, .int l2), (3, .int l3)] → W p l e rmX7_findBest s m args below meth c H locs 0 0 (MQ below (wQi r0 (wcX7_findBest cI cJ cZ cG h h_gives h_wants h_row o1 r_o1 n_givers v_gives v_wants n_row v_o1) (dC, dI) A) args s 0 0 A) (F0 m 15 ls []) := by
  obtain ⟨hx, hb, hr, hml, hown, hts, hlocks⟩ := id C0
  intro n
  induction n with
  | zero =>
    intro v_givers v_row l2 l3 H locs ls hf hP hD hS hl
    rw [fX7_findBest_b15] at hf
    cases hf
  | succ n ih =>
    intro v_givers v_row l2 l3 H locs ls hf hP hD hS hl
    rw [fX7_findBest_b15] at hf
    refine lv_iload_n hx hb dX7_findBest_15 rfl (lv_at hl 2 rfl) ?_
    refine lv_bipush (v := 6) hx hb dX7_findBest_16 (by decide) ?_
    refine lv_icmp_ge (tgt := 47) hx hb dX7_findBest_18 (by decide) (fun c_1 => ?_) (fun c_1 => ?_)
    · have hf := it_t hf c_1
      obtain ⟨x_2, ex_2, hf⟩ := nm_s hf
      refine lv_iinc (v := x_2) (lv' := [(2, .int x_2), (0, .ref h), (3, .int l3)]) hx hb dX7_findBest_47 hl (k := 1) rfl (by rw [ex_2]; rfl) (by decide) rfl (fun ls hl => ?_)
      refine lv_goto (tgt := 7) hx hb dX7_findBest_50 (by decide) ?_
      have hf : k_7 v_givers v_row x_2 = some (r0, n_givers, n_row) := hf
      exact hk_7 v_givers v_row x_2 _ _ _ hf hP hD hS (lv_sub hl [1, 0] rfl)
    · have hf := it_f hf c_1
      refine lv_aload_n hx hb dX7_findBest_21 rfl (lv_at hl 0 rfl) ?_
      refine lv_iload_n hx hb dX7_findBest_22 rfl (lv_at hl 2 rfl) ?_
      obtain ⟨r_3, hc_4, hf⟩ := ob_s hf
      refine w_callVz (As := [.int l3]) (rest := []) (wr := List.filterMap (fun i : Nat => (wcX7_findBest cI cJ cZ cG h h_gives h_wants h_row o1 r_o1 v_givers v_gives v_wants v_row v_o1)[i]?) [1, 2, 3, 4, 5, 6, 7, 8, 9, 10]) (ws1 := (wcX7_findBest cI cJ cZ cG h h_gives h_wants h_row o1 r_o1 v_givers v_gives v_wants v_row v_o1)) ⟨hx, hb, hml, hown, hts⟩ (oX7_isGiver l dC dI cI cJ cZ cG h h_gives h_wants h_row v_givers H.size l3 r_3 hc_4) (cwV 1 hts gX7_findBest_X7_isGiver rfl rfl rfl (by decide +kernel) ⟨Nat.le_of_ble_eq_true rfl, Nat.le_of_ble_eq_true rfl⟩) hK 0 7 rfl rfl rfl hP hD hS hA [0] [1, 2, 3, 4, 5, 6, 7, 8, 9, 10] [10, 0, 1, 2, 3, 4, 5, 6, 7, 8, 9] rfl rfl rfl rfl (by decide) rfl rfl rfl hl.1 rfl (Nat.le_of_ble_eq_true rfl) dX7_findBest_23 ⟨Nat.le_refl _, Nat.le_refl _⟩ (fun hz_5 H locs hP hD hS => ?_)
      refine lv_if_eq (tgt := 41) hx hb dX7_findBest_26 (by decide) (fun c_6 => ?_) (fun c_6 => ?_)
      · have hf := it_t hf c_6
        have hf : fX7_findBest_b41 k_7 (fX7_findBest_b15 k_7 v_gives v_wants v_o1 n) v_gives v_wants v_o1 v_givers v_row l2 l3 = some (r0, n_givers, n_row) := hf
        exact kX7_findBest_41 C0 hA hK hk_7 ih v_givers v_row l2 l3 _ _ _ hf hP hD hS (lv_sub hl [0, 1, 2] rfl)
      · have hf := it_f hf c_6
        refine lv_aload_n hx hb dX7_findBest_29 rfl (lv_at hl 0 rfl) ?_
        refine lv_iload_n hx hb dX7_findBest_30 rfl (lv_at hl 2 rfl) ?_
        refine lv_iconst (v := 0) hx hb dX7_findBest_31 (by decide) ?_
        refine lv_iload_n hx hb dX7_findBest_32 rfl (lv_at hl 1 rfl) ?_
        obtain ⟨⟨r_7, w_8⟩, hc_9, hf⟩ := ob_s hf
        refine w_callVz (As := [.int l3, .int 0, .int l2]) (rest := []) (wr := List.filterMap (fun i : Nat => (wcX7_findBest cI cJ cZ cG h h_gives h_wants h_row o1 r_o1 v_givers v_gives v_wants v_row v_o1)[i]?) [4, 5, 6, 7, 8, 9, 10]) (ws1 := (wcX7_findBest cI cJ cZ cG h h_gives h_wants h_row o1 r_o1 v_givers v_gives v_wants w_8 v_o1)) ⟨hx, hb, hml, hown, hts⟩ (otX7_joins l dC dI cI cJ cZ cG h h_gives h_wants h_row v_givers v_gives v_wants v_row H.size l3 0 l2 r_7 w_8 hc_9) (cwV 3 hts gX7_findBest_X7_joins rfl rfl rfl (by decide +kernel) ⟨Nat.le_of_ble_eq_true rfl, Nat.le_of_ble_eq_true rfl⟩) hK 0 7 rfl rfl rfl hP hD hS hA [0, 1, 2, 3] [4, 5, 6, 7, 8, 9, 10] [7, 8, 9, 10, 0, 1, 2, 3, 4, 5, 6] rfl rfl rfl rfl (by decide) rfl rfl rfl hl.1 rfl (Nat.le_of_ble_eq_true rfl) dX7_findBest_33 ⟨Nat.le_refl _, Nat.le_refl _⟩ (fun hz_10 H locs hP hD hS => ?_)
        refine lv_if_eq (tgt := 41) hx hb dX7_findBest_36 (by decide) (fun c_11 => ?_) (fun c_11 => ?_)
        · have hf := it_t hf c_11
          have hf : fX7_findBest_b41 k_7 (fX7_findBest_b15 k_7 v_gives v_wants v_o1 n) v_gives v_wants v_o1 v_givers w_8 l2 l3 = some (r0, n_givers, n_row) := hf
          exact kX7_findBest_41 C0 hA hK hk_7 ih v_givers w_8 l2 l3 _ _ _ hf hP hD hS (lv_sub hl [0, 1, 2] rfl)
        · have hf := it_f hf c_11
          refine lv_iload_n hx hb dX7_findBest_39 rfl (lv_at hl 1 rfl) ?_
          have hf : some (l2, v_givers, w_8) = some (r0, n_givers, n_row) := hf
          cases hf
          exact w_iret hx hb hr hlocks rfl hP hD hS dX7_findBest_40
set_option maxHeartbeats 4000000 in
set_option maxRecDepth 100000 in
theorem kX7_findBest_7 {p : Program} {l : Launch} {e : Env} {s : State} {m : MethodId} {args : Array Value} {below : List Frame} {meth : Method} {c : Code} {dC : Nat → ClassId} {dI : Nat → Nat → Nat} {A : Nat → Prop} {cI cJ cZ cG : ClassId} {h h_gives h_wants h_row o1 : Nat} {r_o1 : Nat → Nat} {v_gives : Nat → Int32} {v_wants : Nat → Int32} {v_o1 : Nat → Nat → Int32} {r0 : Int32} {n_givers : Int32} {n_row : Nat → Int32} (C0 : wCX p s args m meth c cX7_findBest 4 (some .int) RX7 wsX7_findBest) (hA : ∀ q, s.heap.size ≤ q → A q) (hK : va_K (dC, dI) vwCl (tysW cI cJ cZ cG) s) : ∀ (n : Nat), ∀ (v_givers : Int32) (v_row : Nat → Int32) (l2 : Int32) (H : Heap) (locs : List Loc) (ls : Array Slot), fX7_findBest_b7 v_gives v_wants v_o1 n v_givers v_row l2 = some (r0, n_givers, n_row) → va_P (dC, dI) vwCl (wcX7_findBest cI cJ cZ cG h h_gives h_wants h_row o1 r_o1 v_givers v_gives v_wants v_row v_o1) H → va_D A (wcX7_findBest cI cJ cZ cG h h_gives h_wants h_row o1 r_o1 v_givers v_gives v_wants v_row v_o1) → va_S A s.heap H locs → lv_has ls 4 [(0, .ref h), (2, .int l2)] → W p l e rmX7_findBest s m args below meth c H locs 0 0 (MQ below (wQi r0 (wcX7_findBest cI cJ cZ cG h h_gives h_wants h_row o1 r_o1 n_givers v_gives v_wants n_row v_o1) (dC, dI) A) args s 0 0 A) (F0 m 7 ls []) := by
  obtain ⟨hx, hb, hr, hml, hown, hts, hlocks⟩ := id C0
  intro n
  induction n with
  | zero =>
    intro v_givers v_row l2 H locs ls hf hP hD hS hl
    rw [fX7_findBest_b7] at hf
    cases hf
  | succ n ih =>
    intro v_givers v_row l2 H locs ls hf hP hD hS hl
    rw [fX7_findBest_b7] at hf
    refine lv_iload_n hx hb dX7_findBest_7 rfl (lv_at hl 1 rfl) ?_
    refine lv_bipush (v := 6) hx hb dX7_findBest_8 (by decide) ?_
    refine lv_icmp_gt (tgt := 53) hx hb dX7_findBest_10 (by decide) (fun c_1 => ?_) (fun c_1 => ?_)
    · have hf := it_t hf c_1
      refine lv_iconst (v := 0) hx hb dX7_findBest_53 (by decide) ?_
      have hf : some (0, v_givers, v_row) = some (r0, n_givers, n_row) := hf
      cases hf
      exact w_iret hx hb hr hlocks rfl hP hD hS dX7_findBest_54
    · have hf := it_f hf c_1
      refine lv_iconst (v := 0) hx hb dX7_findBest_13 (by decide) ?_
      refine lv_istore_n (lv' := [(3, .int 0), (0, .ref h), (2, .int l2)]) hx hb dX7_findBest_14 rfl hl (by decide) rfl (fun ls hl => ?_)
      have hf : fX7_findBest_b15 (fX7_findBest_b7 v_gives v_wants v_o1 n) v_gives v_wants v_o1 70 v_givers v_row l2 0 = some (r0, n_givers, n_row) := hf
      exact kX7_findBest_15 C0 hA hK ih 70 v_givers v_row l2 0 _ _ _ hf hP hD hS (lv_sub hl [1, 2, 0] rfl)
set_option maxHeartbeats 4000000 in
set_option maxRecDepth 100000 in
theorem oX7_findBest (l : Launch) (dC : Nat → ClassId) (dI : Nat → Nat → Nat) (cI cJ cZ cG : ClassId) (h h_gives h_wants h_row o1 : Nat) (r_o1 : Nat → Nat) (v_givers : Int32) (v_gives : Nat → Int32) (v_wants : Nat → Int32) (v_row : Nat → Int32) (v_o1 : Nat → Nat → Int32) (sz : Nat) (r0 : Int32) (n_givers : Int32) (n_row : Nat → Int32) (hf : fX7_findBest v_givers v_gives v_wants v_row v_o1 = some (r0, n_givers, n_row)) : Met l yX7_findBest wsX7_findBest rmX7_findBest (wPc [.ref h, .ref o1] (dC, dI) (tysW cI cJ cZ cG) sz (wcX7_findBest cI cJ cZ cG h h_gives h_wants h_row o1 r_o1 v_givers v_gives v_wants v_row v_o1)) (wQi r0 (wcX7_findBest cI cJ cZ cG h h_gives h_wants h_row o1 r_o1 n_givers v_gives v_wants n_row v_o1) (dC, dI) (va_A (wcX7_findBest cI cJ cZ cG h h_gives h_wants h_row o1 r_o1 v_givers v_gives v_wants v_row v_o1) sz)) 0 0 (va_A (wcX7_findBest cI cJ cZ cG h h_gives h_wants h_row o1 r_o1 v_givers v_gives v_wants v_row v_o1) sz) := by
  refine Met.ofW (cc := cX7_findBest) (maxL := 4) (ret := (some .int)) (by decide) rfl ?_
  intro p e s m args below meth c s₁ B hml hv
  obtain ⟨rfl, hsz, hP, hK, hD0⟩ := hv
  have hx := B.exec
  have hb := B.bytes
  have hr := B.returns
  have hts := atoms_spec (ws := wsX7_findBest) B.pre
  have hown : s.vm.findClass RX7 = some m.cls := findClass_of_methodNamed B.named
  have hlocks := B.notSynchronized
  subst hsz
  have hD := hD0.self (sz := s.heap.size)
  generalize hAe : va_A (wcX7_findBest cI cJ cZ cG h h_gives h_wants h_row o1 r_o1 v_givers v_gives v_wants v_row v_o1) s.heap.size = A at hD ⊢
  have hA : ∀ q : Nat, s.heap.size ≤ q → A q := fun q h => by rw [← hAe]; exact Or.inr h
  have hS : va_S A s.heap s.heap [] := va_S.rf
  have hP : va_P (dC, dI) vwCl (wcX7_findBest cI cJ cZ cG h h_gives h_wants h_row o1 r_o1 v_givers v_gives v_wants v_row v_o1) s.heap := hP
  have hl := lv_entry ([.ref h, .ref o1]) (n := 4) (Nat.le_of_ble_eq_true rfl)
  rw [lg_entry_eq]
  generalize (lg_sl ([.ref h, .ref o1]) ++ List.replicate (4 - (lg_sl ([.ref h, .ref o1])).length) Slot.unset).toArray = ls at hl ⊢
  have hl : lv_has ls 4 [(0, .ref h), (1, .ref o1)] := hl
  generalize hH : s.heap = H at hP hS ⊢
  have hS : va_S A s.heap H [] := by rw [hH]; exact hS
  have C0 : wCX p s #[.ref h, .ref o1] m meth c cX7_findBest 4 (some .int) RX7 wsX7_findBest := ⟨hx, hb, hr, hml, hown, hts, hlocks⟩
  show W p l e rmX7_findBest s m #[.ref h, .ref o1] below meth c H [] 0 0 (MQ below (wQi r0 (wcX7_findBest cI cJ cZ cG h h_gives h_wants h_row o1 r_o1 n_givers v_gives v_wants n_row v_o1) (dC, dI) A) #[.ref h, .ref o1] s 0 0 A) (F0 m 0 ls [])
  unfold fX7_findBest at hf
  refine lv_aload_n hx hb dX7_findBest_0 rfl (lv_at hl 0 rfl) ?_
  refine lv_aload_n hx hb dX7_findBest_1 rfl (lv_at hl 1 rfl) ?_
  obtain ⟨w_1, hc_2, hf⟩ := ob_s hf
  refine w_callVv (As := [.ref o1]) (rest := []) (wr := List.filterMap (fun i : Nat => (wcX7_findBest cI cJ cZ cG h h_gives h_wants h_row o1 r_o1 v_givers v_gives v_wants v_row v_o1)[i]?) [2, 3]) (ws1 := (wcX7_findBest cI cJ cZ cG h h_gives h_wants h_row o1 r_o1 w_1 v_gives v_wants v_row v_o1)) ⟨hx, hb, hml, hown, hts⟩ (oX7_findGivers l dC dI cI cJ cZ cG h h_gives h_wants h_row o1 r_o1 v_givers v_gives v_o1 H.size w_1 hc_2) (cwV 1 hts gX7_findBest_X7_findGivers rfl rfl rfl (by decide +kernel) ⟨Nat.le_of_ble_eq_true rfl, Nat.le_of_ble_eq_true rfl⟩) hK 0 7 rfl rfl rfl hP hD hS hA [0, 1, 4, 5, 6, 7, 8, 9, 10] [2, 3] [2, 3, 0, 1, 4, 5, 6, 7, 8, 9, 10] rfl rfl rfl rfl (by decide) rfl rfl rfl hl.1 rfl (Nat.le_of_ble_eq_true rfl) dX7_findBest_2 ⟨Nat.le_refl _, Nat.le_refl _⟩ (fun H locs hP hD hS => ?_)
  refine lv_iconst (v := 2) hx hb dX7_findBest_5 (by decide) ?_
  refine lv_istore_n (lv' := [(2, .int 2), (0, .ref h), (1, .ref o1)]) hx hb dX7_findBest_6 rfl hl (by decide) rfl (fun ls hl => ?_)
  have hf : fX7_findBest_b7 v_gives v_wants v_o1 70 w_1 v_row 2 = some (r0, n_givers, n_row) := hf
  exact kX7_findBest_7 C0 hA hK 70 w_1 v_row 2 _ _ _ hf hP hD hS (lv_sub hl [1, 0] rfl)
abbrev wcX7_fulfil (cI cJ cZ cG : ClassId) (h h_gives h_wants h_row o2 : Nat) (r_o2 : Nat → Nat) (v_givers : Int32) (v_gives : Nat → Int32) (v_wants : Nat → Int32) (v_row : Nat → Int32) (v_o2 : Nat → Nat → Int32) : va_W := [(h, .inr (7, [.ref h_gives, .ref h_wants, .int v_givers, .ref h_row])), (h_gives, .inl (cI, 6, .inl v_gives)), (h_wants, .inl (cI, 6, .inl v_wants)), (h_row, .inl (cI, 6, .inl v_row)), gOut o2 r_o2 cG 6] ++ gRows r_o2 cI 20 v_o2
theorem iX7_fulfil_X7 : ∀ w ∈ wsX70, w ∈ wsX7_fulfil := by decide +kernel
theorem mX7_fulfil_0 : (Cond.fieldLink RX7 18 "Sleevehall$Wishes" "row" "[I") ∈ wsX7_fulfil := by decide +kernel
theorem mX7_fulfil_1 : (Cond.fieldLink RX7 9 "Sleevehall$Wishes" "gives" "[I") ∈ wsX7_fulfil := by decide +kernel
theorem mX7_fulfil_2 : (Cond.fieldLink RX7 15 "Sleevehall$Wishes" "wants" "[I") ∈ wsX7_fulfil := by decide +kernel
abbrev rmX7_fulfil : Room := { frames := 1, cells := 0, slots := 0, locals := 23 }
set_option maxHeartbeats 4000000 in
set_option maxRecDepth 100000 in
theorem kX7_fulfil_2 {p : Program} {l : Launch} {e : Env} {s : State} {m : MethodId} {args : Array Value} {below : List Frame} {meth : Method} {c : Code} {dC : Nat → ClassId} {dI : Nat → Nat → Nat} {A : Nat → Prop} {cI cJ cZ cG : ClassId} {h h_gives h_wants h_row o2 : Nat} {r_o2 : Nat → Nat} {v_givers : Int32} {v_row : Nat → Int32} {n_gives : Nat → Int32} {n_wants : Nat → Int32} {n_o2 : Nat → Nat → Int32} (C0 : wCX p s args m meth c cX7_fulfil 5 none RX7 wsX7_fulfil) (hA : ∀ q, s.heap.size ≤ q → A q) (hK : va_K (dC, dI) vwCl (tysW cI cJ cZ cG) s) : ∀ (n : Nat), ∀ (v_gives : Nat → Int32) (v_wants : Nat → Int32) (v_o2 : Nat → Nat → Int32) (l1 : Int32) (l3 : Int32) (H : Heap) (locs : List Loc) (ls : Array Slot), fX7_fulfil_b2 v_row n v_gives v_wants v_o2 l1 l3 = some (n_gives, n_wants, n_o2) → va_P (dC, dI) vwCl (wcX7_fulfil cI cJ cZ cG h h_gives h_wants h_row o2 r_o2 v_givers v_gives v_wants v_row v_o2) H → va_D A (wcX7_fulfil cI cJ cZ cG h h_gives h_wants h_row o2 r_o2 v_givers v_gives v_wants v_row v_o2) → va_S A s.heap H locs → lv_has ls 5 [(0, .ref h), (1, .int l1), (2, .ref o2), (3, .int l3)] → W p l e rmX7_fulfil s m args below meth c H locs 0 0 (MQ below (wQv (wcX7_fulfil cI cJ cZ cG h h_gives h_wants h_row o2 r_o2 v_givers n_gives n_wants v_row n_o2) (dC, dI) A) args s 0 0 A) (F0 m 2 ls []) := by
  obtain ⟨hx, hb, hr, hml, hown, hts, hlocks⟩ := id C0
  intro n
  induction n with
  | zero =>
    intro v_gives v_wants v_o2 l1 l3 H locs ls hf hP hD hS hl
    rw [fX7_fulfil_b2] at hf
    cases hf
  | succ n ih =>
    intro v_gives v_wants v_o2 l1 l3 H locs ls hf hP hD hS hl
    rw [fX7_fulfil_b2] at hf
    refine lv_iload_n hx hb dX7_fulfil_2 rfl (lv_at hl 3 rfl) ?_
    refine lv_iload_n hx hb dX7_fulfil_3 rfl (lv_at hl 1 rfl) ?_
    refine lv_icmp_ge (tgt := 61) hx hb dX7_fulfil_4 (by decide) (fun c_1 => ?_) (fun c_1 => ?_)
    · have hf := it_t hf c_1
      have hf : some (v_gives, v_wants, v_o2) = some (n_gives, n_wants, n_o2) := hf
      cases hf
      exact w_vret hx hb hr hlocks hP hD hS dX7_fulfil_61
    · have hf := it_f hf c_1
      refine lv_aload_n hx hb dX7_fulfil_7 rfl (lv_at hl 0 rfl) ?_
      refine va_get (D := (dC, dI)) (ci := 7) (v := .ref h_row) (C := RX7) (T := TX7) (N := 4) hx hb hts iX7_fulfil_X7 hown hK hP 0 rfl rfl 3 (by decide) (hts _ mX7_fulfil_0) (fun _ h9 => h9) rfl dX7_fulfil_8 ?_
      refine lv_iload_n hx hb dX7_fulfil_11 rfl (lv_at hl 3 rfl) ?_
      obtain ⟨hg_2, hf⟩ := ck_s hf
      refine va_iald (D := (dC, dI)) hx hb hK hP 3 0 rfl rfl (g_vp hg_2) dX7_fulfil_12 ?_
      obtain ⟨x_3, ex_3, hf⟩ := nm_s hf
      refine w_eqi ex_3 ?_
      refine lv_istore (lv' := [(4, .int x_3), (0, .ref h), (1, .int l1), (2, .ref o2), (3, .int l3)]) hx hb dX7_fulfil_13 hl (by decide) rfl (fun ls hl => ?_)
      refine lv_aload_n hx hb dX7_fulfil_15 rfl (lv_at hl 3 rfl) ?_
      refine lv_iload hx hb dX7_fulfil_16 (lv_at hl 0 rfl) ?_
      obtain ⟨hg_4, hf⟩ := ck_s hf
      refine w_aald hx hb hK hP 4 3 rfl rfl (g_vp hg_4) dX7_fulfil_18 ?_
      refine lv_aload_n hx hb dX7_fulfil_19 rfl (lv_at hl 1 rfl) ?_
      refine va_get (D := (dC, dI)) (ci := 7) (v := .ref h_gives) (C := RX7) (T := TX7) (N := 4) hx hb hts iX7_fulfil_X7 hown hK hP 0 rfl rfl 0 (by decide) (hts _ mX7_fulfil_1) (fun _ h9 => h9) rfl dX7_fulfil_20 ?_
      refine lv_iload hx hb dX7_fulfil_23 (lv_at hl 0 rfl) ?_
      obtain ⟨hg_5, hf⟩ := ck_s hf
      refine va_iald (D := (dC, dI)) hx hb hK hP 1 0 rfl rfl (g_vp hg_5) dX7_fulfil_25 ?_
      refine lv_dup2_11 hx hb dX7_fulfil_26 rfl rfl ?_
      obtain ⟨hg_6, hf⟩ := ck_s hf
      refine va_iald (D := (dC, dI)) hx hb hK hP (5 + x_3.toNatClampNeg) 0 (fin6 (P := fun j => (wcX7_fulfil cI cJ cZ cG h h_gives h_wants h_row o2 r_o2 v_givers v_gives v_wants v_row v_o2)[5 + j]? = some (r_o2 j, .inl (cI, 20, .inl (v_o2 j)))) rfl rfl rfl rfl rfl rfl _ (g_lt hg_4)) rfl (g_vp hg_6) dX7_fulfil_27 ?_
      refine lv_iconst (v := 1) hx hb dX7_fulfil_28 (by decide) ?_
      refine lv_isub hx hb dX7_fulfil_29 ?_
      obtain ⟨x_7, ex_7, hf⟩ := nm_s hf
      refine w_eqi ex_7 ?_
      obtain ⟨hg_8, hf⟩ := ck_s hf
      refine va_iast (D := (dC, dI)) hx hb hK hP hD hS (5 + x_3.toNatClampNeg) 0 (fin6 (P := fun j => (wcX7_fulfil cI cJ cZ cG h h_gives h_wants h_row o2 r_o2 v_givers v_gives v_wants v_row v_o2)[5 + j]? = some (r_o2 j, .inl (cI, 20, .inl (v_o2 j)))) rfl rfl rfl rfl rfl rfl _ (g_lt hg_4)) rfl (g_vp hg_8) dX7_fulfil_30 (fun H locs hP hD hS => ?_)
      have e9 := fin6 (P := fun j => List.set (wcX7_fulfil cI cJ cZ cG h h_gives h_wants h_row o2 r_o2 v_givers v_gives v_wants v_row v_o2) (5 + j) (r_o2 j, .inl (cI, 20, .inl (upd (v_o2 j) (v_gives x_3.toNatClampNeg).toNatClampNeg x_7))) = (wcX7_fulfil cI cJ cZ cG h h_gives h_wants h_row o2 r_o2 v_givers v_gives v_wants v_row (gup v_o2 j (v_gives x_3.toNatClampNeg).toNatClampNeg x_7))) rfl rfl rfl rfl rfl rfl _ (g_lt hg_4)
      rw [e9] at hP hD
      refine lv_aload_n hx hb dX7_fulfil_31 rfl (lv_at hl 3 rfl) ?_
      refine lv_iload hx hb dX7_fulfil_32 (lv_at hl 0 rfl) ?_
      obtain ⟨hg_9, hf⟩ := ck_s hf
      refine w_aald hx hb hK hP 4 3 rfl rfl (g_vp hg_9) dX7_fulfil_34 ?_
      refine lv_aload_n hx hb dX7_fulfil_35 rfl (lv_at hl 1 rfl) ?_
      refine va_get (D := (dC, dI)) (ci := 7) (v := .ref h_wants) (C := RX7) (T := TX7) (N := 4) hx hb hts iX7_fulfil_X7 hown hK hP 0 rfl rfl 1 (by decide) (hts _ mX7_fulfil_2) (fun _ h9 => h9) rfl dX7_fulfil_36 ?_
      refine lv_iload hx hb dX7_fulfil_39 (lv_at hl 0 rfl) ?_
      obtain ⟨hg_10, hf⟩ := ck_s hf
      refine va_iald (D := (dC, dI)) hx hb hK hP 2 0 rfl rfl (g_vp hg_10) dX7_fulfil_41 ?_
      refine lv_dup2_11 hx hb dX7_fulfil_42 rfl rfl ?_
      obtain ⟨hg_11, hf⟩ := ck_s hf
      refine va_iald (D := (dC, dI)) hx hb hK hP (5 + x_3.toNatClampNeg) 0 (fin6 (P := fun j => (wcX7_fulfil cI cJ cZ cG h h_gives h_wants h_row o2 r_o2 v_givers v_gives v_wants v_row (gup v_o2 x_3.toNatClampNeg (v_gives x_3.toNatClampNeg).toNatClampNeg x_7))[5 + j]? = some (r_o2 j, .inl (cI, 20, .inl ((gup v_o2 x_3.toNatClampNeg (v_gives x_3.toNatClampNeg).toNatClampNeg x_7) j)))) rfl rfl rfl rfl rfl rfl _ (g_lt hg_9)) rfl (g_vp hg_11) dX7_fulfil_43 ?_
      refine lv_iconst (v := 1) hx hb dX7_fulfil_44 (by decide) ?_
      refine lv_iadd hx hb dX7_fulfil_45 ?_
      obtain ⟨x_12, ex_12, hf⟩ := nm_s hf
      refine w_eqi ex_12 ?_
      obtain ⟨hg_13, hf⟩ := ck_s hf
      refine va_iast (D := (dC, dI)) hx hb hK hP hD hS (5 + x_3.toNatClampNeg) 0 (fin6 (P := fun j => (wcX7_fulfil cI cJ cZ cG h h_gives h_wants h_row o2 r_o2 v_givers v_gives v_wants v_row (gup v_o2 x_3.toNatClampNeg (v_gives x_3.toNatClampNeg).toNatClampNeg x_7))[5 + j]? = some (r_o2 j, .inl (cI, 20, .inl ((gup v_o2 x_3.toNatClampNeg (v_gives x_3.toNatClampNeg).toNatClampNeg x_7) j)))) rfl rfl rfl rfl rfl rfl _ (g_lt hg_9)) rfl (g_vp hg_13) dX7_fulfil_46 (fun H locs hP hD hS => ?_)
      have e9 := fin6 (P := fun j => List.set (wcX7_fulfil cI cJ cZ cG h h_gives h_wants h_row o2 r_o2 v_givers v_gives v_wants v_row (gup v_o2 x_3.toNatClampNeg (v_gives x_3.toNatClampNeg).toNatClampNeg x_7)) (5 + j) (r_o2 j, .inl (cI, 20, .inl (upd ((gup v_o2 x_3.toNatClampNeg (v_gives x_3.toNatClampNeg).toNatClampNeg x_7) j) (v_wants x_3.toNatClampNeg).toNatClampNeg x_12))) = (wcX7_fulfil cI cJ cZ cG h h_gives h_wants h_row o2 r_o2 v_givers v_gives v_wants v_row (gup (gup v_o2 x_3.toNatClampNeg (v_gives x_3.toNatClampNeg).toNatClampNeg x_7) j (v_wants x_3.toNatClampNeg).toNatClampNeg x_12))) rfl rfl rfl rfl rfl rfl _ (g_lt hg_9)
      rw [e9] at hP hD
      refine lv_aload_n hx hb dX7_fulfil_47 rfl (lv_at hl 1 rfl) ?_
      refine lv_iload hx hb dX7_fulfil_48 (lv_at hl 0 rfl) ?_
      refine lv_iconst (v := (-1)) hx hb dX7_fulfil_50 (by decide) ?_
      refine lv_iconst (v := (-1)) hx hb dX7_fulfil_51 (by decide) ?_
      obtain ⟨⟨w_14, w_15⟩, hc_16, hf⟩ := ob_s hf
      refine w_callVv (As := [.int x_3, .int (-1), .int (-1)]) (rest := []) (wr := List.filterMap (fun i : Nat => (wcX7_fulfil cI cJ cZ cG h h_gives h_wants h_row o2 r_o2 v_givers v_gives v_wants v_row (gup (gup v_o2 x_3.toNatClampNeg (v_gives x_3.toNatClampNeg).toNatClampNeg x_7) x_3.toNatClampNeg (v_wants x_3.toNatClampNeg).toNatClampNeg x_12))[i]?) [3, 4, 5, 6, 7, 8, 9, 10]) (ws1 := (wcX7_fulfil cI cJ cZ cG h h_gives h_wants h_row o2 r_o2 v_givers w_14 w_15 v_row (gup (gup v_o2 x_3.toNatClampNeg (v_gives x_3.toNatClampNeg).toNatClampNeg x_7) x_3.toNatClampNeg (v_wants x_3.toNatClampNeg).toNatClampNeg x_12))) ⟨hx, hb, hml, hown, hts⟩ (oX7_tell l dC dI cI cJ cZ cG h h_gives h_wants h_row v_givers v_gives v_wants H.size x_3 (-1) (-1) w_14 w_15 hc_16) (cwV 3 hts gX7_fulfil_X7_tell rfl rfl rfl (by decide +kernel) ⟨Nat.le_of_ble_eq_true rfl, Nat.le_of_ble_eq_true rfl⟩) hK 0 7 rfl rfl rfl hP hD hS hA [0, 1, 2] [3, 4, 5, 6, 7, 8, 9, 10] [8, 9, 10, 0, 1, 2, 3, 4, 5, 6, 7] rfl rfl rfl rfl (by decide) rfl rfl rfl hl.1 rfl (Nat.le_of_ble_eq_true rfl) dX7_fulfil_52 ⟨Nat.le_refl _, Nat.le_refl _⟩ (fun H locs hP hD hS => ?_)
      obtain ⟨x_17, ex_17, hf⟩ := nm_s hf
      refine lv_iinc (v := x_17) (lv' := [(3, .int x_17), (4, .int x_3), (0, .ref h), (1, .int l1), (2, .ref o2)]) hx hb dX7_fulfil_55 hl (k := 4) rfl (by rw [ex_17]; rfl) (by decide) rfl (fun ls hl => ?_)
      refine lv_goto (tgt := 2) hx hb dX7_fulfil_58 (by decide) ?_
      have hf : (fX7_fulfil_b2 v_row n) w_14 w_15 (gup (gup v_o2 x_3.toNatClampNeg (v_gives x_3.toNatClampNeg).toNatClampNeg x_7) x_3.toNatClampNeg (v_wants x_3.toNatClampNeg).toNatClampNeg x_12) l1 x_17 = some (n_gives, n_wants, n_o2) := hf
      exact ih w_14 w_15 (gup (gup v_o2 x_3.toNatClampNeg (v_gives x_3.toNatClampNeg).toNatClampNeg x_7) x_3.toNatClampNeg (v_wants x_3.toNatClampNeg).toNatClampNeg x_12) l1 x_17 _ _ _ hf hP hD hS (lv_sub hl [2, 3, 4, 0] rfl)
set_option maxHeartbeats 4000000 in
set_option maxRecDepth 100000 in
theorem oX7_fulfil (l : Launch) (dC : Nat → ClassId) (dI : Nat → Nat → Nat) (cI cJ cZ cG : ClassId) (h h_gives h_wants h_row o2 : Nat) (r_o2 : Nat → Nat) (v_givers : Int32) (v_gives : Nat → Int32) (v_wants : Nat → Int32) (v_row : Nat → Int32) (v_o2 : Nat → Nat → Int32) (sz : Nat) (p1 : Int32) (n_gives : Nat → Int32) (n_wants : Nat → Int32) (n_o2 : Nat → Nat → Int32) (hf : fX7_fulfil v_gives v_wants v_row v_o2 p1 = some (n_gives, n_wants, n_o2)) : Met l yX7_fulfil wsX7_fulfil rmX7_fulfil (wPc [.ref h, .int p1, .ref o2] (dC, dI) (tysW cI cJ cZ cG) sz (wcX7_fulfil cI cJ cZ cG h h_gives h_wants h_row o2 r_o2 v_givers v_gives v_wants v_row v_o2)) (wQv (wcX7_fulfil cI cJ cZ cG h h_gives h_wants h_row o2 r_o2 v_givers n_gives n_wants v_row n_o2) (dC, dI) (va_A (wcX7_fulfil cI cJ cZ cG h h_gives h_wants h_row o2 r_o2 v_givers v_gives v_wants v_row v_o2) sz)) 0 0 (va_A (wcX7_fulfil cI cJ cZ cG h h_gives h_wants h_row o2 r_o2 v_givers v_gives v_wants v_row v_o2) sz) := by
  refine Met.ofW (cc := cX7_fulfil) (maxL := 5) (ret := none) (by decide) rfl ?_
  intro p e s m args below meth c s₁ B hml hv
  obtain ⟨rfl, hsz, hP, hK, hD0⟩ := hv
  have hx := B.exec
  have hb := B.bytes
  have hr := B.returns
  have hts := atoms_spec (ws := wsX7_fulfil) B.pre
  have hown : s.vm.findClass RX7 = some m.cls := findClass_of_methodNamed B.named
  have hlocks := B.notSynchronized
  subst hsz
  have hD := hD0.self (sz := s.heap.size)
  generalize hAe : va_A (wcX7_fulfil cI cJ cZ cG h h_gives h_wants h_row o2 r_o2 v_givers v_gives v_wants v_row v_o2) s.heap.size = A at hD ⊢
  have hA : ∀ q : Nat, s.heap.size ≤ q → A q := fun q h => by rw [← hAe]; exact Or.inr h
  have hS : va_S A s.heap s.heap [] := va_S.rf
  have hP : va_P (dC, dI) vwCl (wcX7_fulfil cI cJ cZ cG h h_gives h_wants h_row o2 r_o2 v_givers v_gives v_wants v_row v_o2) s.heap := hP
  have hl := lv_entry ([.ref h, .int p1, .ref o2]) (n := 5) (Nat.le_of_ble_eq_true rfl)
  rw [lg_entry_eq]
  generalize (lg_sl ([.ref h, .int p1, .ref o2]) ++ List.replicate (5 - (lg_sl ([.ref h, .int p1, .ref o2])).length) Slot.unset).toArray = ls at hl ⊢
  have hl : lv_has ls 5 [(0, .ref h), (1, .int p1), (2, .ref o2)] := hl
  generalize hH : s.heap = H at hP hS ⊢
  have hS : va_S A s.heap H [] := by rw [hH]; exact hS
  have C0 : wCX p s #[.ref h, .int p1, .ref o2] m meth c cX7_fulfil 5 none RX7 wsX7_fulfil := ⟨hx, hb, hr, hml, hown, hts, hlocks⟩
  show W p l e rmX7_fulfil s m #[.ref h, .int p1, .ref o2] below meth c H [] 0 0 (MQ below (wQv (wcX7_fulfil cI cJ cZ cG h h_gives h_wants h_row o2 r_o2 v_givers n_gives n_wants v_row n_o2) (dC, dI) A) #[.ref h, .int p1, .ref o2] s 0 0 A) (F0 m 0 ls [])
  unfold fX7_fulfil at hf
  refine lv_iconst (v := 0) hx hb dX7_fulfil_0 (by decide) ?_
  refine lv_istore_n (lv' := [(3, .int 0), (0, .ref h), (1, .int p1), (2, .ref o2)]) hx hb dX7_fulfil_1 rfl hl (by decide) rfl (fun ls hl => ?_)
  have hf : fX7_fulfil_b2 v_row 70 v_gives v_wants v_o2 p1 0 = some (n_gives, n_wants, n_o2) := hf
  exact kX7_fulfil_2 C0 hA hK 70 v_gives v_wants v_o2 p1 0 _ _ _ hf hP hD hS (lv_sub hl [1, 2, 3, 0] rfl)
