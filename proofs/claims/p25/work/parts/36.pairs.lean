/-! printed by gen.py: pairs -/
def rmPair (dep : Nat) : Room := { frames := 40 + dep, cells := 0, slots := 0, locals := 400 + 60 * dep }
abbrev wcX3_canPair (cI cJ cZ cG : ClassId) (h h_strengths h_met h_row h_others : Nat) (v_length : Int32) (v_met : Nat → Int32) (v_row : Nat → Int32) (v_others : Nat → Int32) : va_W := [(h, .inr (3, [.ref h_strengths, .ref h_met, .ref h_row, .ref h_others, .int v_length])), (h_met, .inl (cI, 6, .inl v_met)), (h_row, .inl (cI, 6, .inl v_row)), (h_others, .inl (cI, 6, .inl v_others))]
abbrev wcX3_canPairBoth (cI cJ cZ cG : ClassId) (h h_strengths h_met h_row h_others : Nat) (v_length : Int32) (v_met : Nat → Int32) (v_row : Nat → Int32) (v_others : Nat → Int32) : va_W := [(h, .inr (3, [.ref h_strengths, .ref h_met, .ref h_row, .ref h_others, .int v_length])), (h_met, .inl (cI, 6, .inl v_met)), (h_row, .inl (cI, 6, .inl v_row)), (h_others, .inl (cI, 6, .inl v_others))]
theorem iX3_canPair_X3 : ∀ w ∈ wsX30, w ∈ wsX3_canPair := by decide +kernel
theorem mX3_canPair_0 : (Cond.fieldLink RX3 37 "Sleevehall$Matches" "length" "I") ∈ wsX3_canPair := by decide +kernel
set_option maxHeartbeats 4000000 in
set_option maxRecDepth 100000 in
theorem kX3_canPair_68 {p : Program} {l : Launch} {e : Env} {s : State} {m : MethodId} {args : Array Value} {below : List Frame} {meth : Method} {c : Code} {dC : Nat → ClassId} {dI : Nat → Nat → Nat} {A : Nat → Prop} {cI cJ cZ cG : ClassId} {dep : Nat} {a_X3_canPair : Int32 → (Nat → Int32) → (Nat → Int32) → (Nat → Int32) → Int32 → Int32 → Option (Int32 × (Nat → Int32))} {a_X3_canPairBoth : Int32 → (Nat → Int32) → (Nat → Int32) → (Nat → Int32) → Int32 → Int32 → Int32 → Int32 → Option (Int32 × (Nat → Int32))} {h h_strengths h_met h_row h_others : Nat} {v_length : Int32} {v_met : Nat → Int32} {v_row : Nat → Int32} {r0 : Int32} {n_others : Nat → Int32} {k_33 : (Nat → Int32) → Int32 → Int32 → Int32 → Int32 → Option (Int32 × (Nat → Int32))} (ha_X3_canPair : ∀ (h h_strengths h_met h_row h_others : Nat) (v_length : Int32) (v_met : Nat → Int32) (v_row : Nat → Int32) (v_others : Nat → Int32) (sz : Nat) (p1 : Int32) (p2 : Int32) (r0 : Int32) (n_others : Nat → Int32) (hf : a_X3_canPair v_length v_met v_row v_others p1 p2 = some (r0, n_others)), Met l yX3_canPair wsX3_canPair (rmPair dep) (wPc [.ref h, .int p1, .int p2] (dC, dI) (tysW cI cJ cZ cG) sz (wcX3_canPair cI cJ cZ cG h h_strengths h_met h_row h_others v_length v_met v_row v_others)) (wQz r0 (wcX3_canPair cI cJ cZ cG h h_strengths h_met h_row h_others v_length v_met v_row n_others) (dC, dI) (va_A (wcX3_canPair cI cJ cZ cG h h_strengths h_met h_row h_others v_length v_met v_row v_others) sz)) 0 0 (va_A (wcX3_canPair cI cJ cZ cG h h_strengths h_met h_row h_others v_length v_met v_row v_others) sz)) (ha_X3_canPairBoth : ∀ (h h_strengths h_met h_row h_others : Nat) (v_length : Int32) (v_met : Nat → Int32) (v_row : Nat → Int32) (v_others : Nat → Int32) (sz : Nat) (p1 : Int32) (p2 : Int32) (p3 : Int32) (p4 : Int32) (r0 : Int32) (n_others : Nat → Int32) (hf : a_X3_canPairBoth v_length v_met v_row v_others p1 p2 p3 p4 = some (r0, n_others)), Met l yX3_canPairBoth wsX3_canPairBoth (rmPair dep) (wPc [.ref h, .int p1, .int p2, .int p3, .int p4] (dC, dI) (tysW cI cJ cZ cG) sz (wcX3_canPairBoth cI cJ cZ cG h h_strengths h_met h_row h_others v_length v_met v_row v_others)) (wQz r0 (wcX3_canPairBoth cI cJ cZ cG h h_strengths h_met h_row h_others v_length v_met v_row n_others) (dC, dI) (va_A (wcX3_canPairBoth cI cJ cZ cG h h_strengths h_met h_row h_others v_length v_met v_row v_others) sz)) 0 0 (va_A (wcX3_canPairBoth cI cJ cZ cG h h_strengths h_met h_row h_others v_length v_met v_row v_others) sz)) (C0 : wCX p s args m meth c cX3_canPair 5 (some .boolean) RX3 wsX3_canPair) (hA : ∀ q, s.heap.size ≤ q → A q) (hK : va_K (dC, dI) vwCl (tysW cI cJ cZ cG) s) (hk_33 : ∀ (v_others : Nat → Int32) (l1 : Int32) (l2 : Int32) (l3 : Int32) (l4 : Int32) (H : Heap) (locs : List Loc) (ls : Array Slot), k_33 v_others l1 l2 l3 l4 = some (r0, n_others) → va_P (dC, dI) vwCl (wcX3_canPair cI cJ cZ cG h h_strengths h_met h_row h_others v_length v_met v_row v_others) H → va_D A (wcX3_canPair cI cJ cZ cG h h_strengths h_met h_row h_others v_length v_met v_row v_others) → va_S A s.heap H locs → lv_has ls 5 [(0, .ref h), (1, .int l1), (2, .int l2), (3, .int l3), (4, .int l4)] → W p l e (rmPair (dep + 1)) s m args below meth c H locs 0 0 (MQ below (wQz r0 (wcX3_canPair cI cJ cZ cG h h_strengths h_met h_row h_others v_length v_met v_row n_others) (dC, dI) A) args s 0 0 A) (F0 m 33 ls [])) : ∀ (v_others : Nat → Int32) (l1 : Int32) (l2 : Int32) (l3 : Int32) (l4 : Int32) (H : Heap) (locs : List Loc) (ls : Array Slot), fX3_canPair_b68 a_X3_canPair a_X3_canPairBoth k_33 v_length v_met v_row v_others l1 l2 l3 l4 = some (r0, n_others) → va_P (dC, dI) vwCl (wcX3_canPair cI cJ cZ cG h h_strengths h_met h_row h_others v_length v_met v_row v_others) H → va_D A (wcX3_canPair cI cJ cZ cG h h_strengths h_met h_row h_others v_length v_met v_row v_others) → va_S A s.heap H locs → lv_has ls 5 [(0, .ref h), (1, .int l1), (2, .int l2), (3, .int l3), (4, .int l4)] → W p l e (rmPair (dep + 1)) s m args below meth c H locs 0 0 (MQ below (wQz r0 (wcX3_canPair cI cJ cZ cG h h_strengths h_met h_row h_others v_length v_met v_row n_others) (dC, dI) A) args s 0 0 A) (F0 m 68 ls []) := by
  obtain ⟨hx, hb, hr, hml, hown, hts, hlocks⟩ := id C0
  intro v_others l1 l2 l3 l4 H locs ls hf hP hD hS hl
  unfold fX3_canPair_b68 at hf
  obtain ⟨x_1, ex_1, hf⟩ := nm_s hf
  refine lv_iinc (v := x_1) (lv' := [(4, .int x_1), (0, .ref h), (1, .int l1), (2, .int l2), (3, .int l3)]) hx hb dX3_canPair_68 hl (k := 4) rfl (by rw [ex_1]; rfl) (by decide) rfl (fun ls hl => ?_)
  refine lv_goto (tgt := 33) hx hb dX3_canPair_71 (by decide) ?_
  have hf : k_33 v_others l1 l2 l3 x_1 = some (r0, n_others) := hf
  exact hk_33 v_others l1 l2 l3 x_1 _ _ _ hf hP hD hS (lv_sub hl [1, 2, 3, 4, 0] rfl)
set_option maxHeartbeats 4000000 in
set_option maxRecDepth 100000 in
theorem kX3_canPair_33 {p : Program} {l : Launch} {e : Env} {s : State} {m : MethodId} {args : Array Value} {below : List Frame} {meth : Method} {c : Code} {dC : Nat → ClassId} {dI : Nat → Nat → Nat} {A : Nat → Prop} {cI cJ cZ cG : ClassId} {dep : Nat} {a_X3_canPair : Int32 → (Nat → Int32) → (Nat → Int32) → (Nat → Int32) → Int32 → Int32 → Option (Int32 × (Nat → Int32))} {a_X3_canPairBoth : Int32 → (Nat → Int32) → (Nat → Int32) → (Nat → Int32) → Int32 → Int32 → Int32 → Int32 → Option (Int32 × (Nat → Int32))} {h h_strengths h_met h_row h_others : Nat} {v_length : Int32} {v_met : Nat → Int32} {v_row : Nat → Int32} {r0 : Int32} {n_others : Nat → Int32} (ha_X3_canPair : ∀ (h h_strengths h_met h_row h_others : Nat) (v_length : Int32) (v_met : Nat → Int32) (v_row : Nat → Int32) (v_others : Nat → Int32) (sz : Nat) (p1 : Int32) (p2 : Int32) (r0 : Int32) (n_others : Nat → Int32) (hf : a_X3_canPair v_length v_met v_row v_others p1 p2 = some (r0, n_others)), Met l yX3_canPair wsX3_canPair (rmPair dep) (wPc [.ref h, .int p1, .int p2] (dC, dI) (tysW cI cJ cZ cG) sz (wcX3_canPair cI cJ cZ cG h h_strengths h_met h_row h_others v_length v_met v_row v_others)) (wQz r0 (wcX3_canPair cI cJ cZ cG h h_strengths h_met h_row h_others v_length v_met v_row n_others) (dC, dI) (va_A (wcX3_canPair cI cJ cZ cG h h_strengths h_met h_row h_others v_length v_met v_row v_others) sz)) 0 0 (va_A (wcX3_canPair cI cJ cZ cG h h_strengths h_met h_row h_others v_length v_met v_row v_others) sz)) (ha_X3_canPairBoth : ∀ (h h_strengths h_met h_row h_others : Nat) (v_length : Int32) (v_met : Nat → Int32) (v_row : Nat → Int32) (v_others : Nat → Int32) (sz : Nat) (p1 : Int32) (p2 : Int32) (p3 : Int32) (p4 : Int32) (r0 : Int32) (n_others : Nat → Int32) (hf : a_X3_canPairBoth v_length v_met v_row v_others p1 p2 p3 p4 = some (r0, n_others)), Met l yX3_canPairBoth wsX3_canPairBoth (rmPair dep) (wPc [.ref h, .int p1, .int p2, .int p3, .int p4] (dC, dI) (tysW cI cJ cZ cG) sz (wcX3_canPairBoth cI cJ cZ cG h h_strengths h_met h_row h_others v_length v_met v_row v_others)) (wQz r0 (wcX3_canPairBoth cI cJ cZ cG h h_strengths h_met h_row h_others v_length v_met v_row n_others) (dC, dI) (va_A (wcX3_canPairBoth cI cJ cZ cG h h_strengths h_met h_row h_others v_length v_met v_row v_others) sz)) 0 0 (va_A (wcX3_canPairBoth cI cJ cZ cG h h_strengths h_met h_row h_others v_length v_met v_row v_others) sz)) (C0 : wCX p s args m meth c cX3_canPair 5 (some .boolean) RX3 wsX3_canPair) (hA : ∀ q, s.heap.size ≤ q → A q) (hK : va_K (dC, dI) vwCl (tysW cI cJ cZ cG) s) : ∀ (n : Nat), ∀ (v_others : Nat → Int32) (l1 : Int32) (l2 : Int32) (l3 : Int32) (l4 : Int32) (H : Heap) (locs : List Loc) (ls : Array Slot), fX3_canPair_b33 a_X3_canPair a_X3_canPairBoth v_length v_met v_row n v_others l1 l2 l3 l4 = some (r0, n_others) → va_P (dC, dI) vwCl (wcX3_canPair cI cJ cZ cG h h_strengths h_met h_row h_others v_length v_met v_row v_others) H → va_D A (wcX3_canPair cI cJ cZ cG h h_strengths h_met h_row h_others v_length v_met v_row v_others) → va_S A s.heap H locs → lv_has ls 5 [(0, .ref h), (1, .int l1), (2, .int l2), (3, .int l3), (4, .int l4)] → W p l e (rmPair (dep + 1)) s m args below meth c H locs 0 0 (MQ below (wQz r0 (wcX3_canPair cI cJ cZ cG h h_strengths h_met h_row h_others v_length v_met v_row n_others) (dC, dI) A) args s 0 0 A) (F0 m 33 ls []) := by
  obtain ⟨hx, hb, hr, hml, hown, hts, hlocks⟩ := id C0
  intro n
  induction n with
  | zero =>
    intro v_others l1 l2 l3 l4 H locs ls hf hP hD hS hl
    rw [fX3_canPair_b33] at hf
    cases hf
  | succ n ih =>
    intro v_others l1 l2 l3 l4 H locs ls hf hP hD hS hl
    rw [fX3_canPair_b33] at hf
    refine lv_iload hx hb dX3_canPair_33 (lv_at hl 4 rfl) ?_
    refine lv_aload_n hx hb dX3_canPair_35 rfl (lv_at hl 0 rfl) ?_
    refine va_get (D := (dC, dI)) (ci := 3) (v := .int v_length) (C := RX3) (T := TX3) (N := 5) hx hb hts iX3_canPair_X3 hown hK hP 0 rfl rfl 4 (by decide) (hts _ mX3_canPair_0) (fun _ h9 => h9) rfl dX3_canPair_36 ?_
    refine lv_icmp_ge (tgt := 74) hx hb dX3_canPair_39 (by decide) (fun c_1 => ?_) (fun c_1 => ?_)
    · have hf := it_t hf c_1
      refine lv_iconst (v := 0) hx hb dX3_canPair_74 (by decide) ?_
      have hf : some (0, v_others) = some (r0, n_others) := hf
      cases hf
      exact w_zret hx hb hr hlocks rfl (Or.inl rfl) hP hD hS dX3_canPair_75
    · have hf := it_f hf c_1
      refine lv_iload_n hx hb dX3_canPair_42 rfl (lv_at hl 1 rfl) ?_
      refine lv_iload hx hb dX3_canPair_43 (lv_at hl 4 rfl) ?_
      refine lv_ishr hx hb dX3_canPair_45 ?_
      refine lv_iconst (v := 1) hx hb dX3_canPair_46 (by decide) ?_
      refine lv_iand hx hb dX3_canPair_47 ?_
      refine lv_iconst (v := 1) hx hb dX3_canPair_48 (by decide) ?_
      refine lv_icmp_ne (tgt := 68) hx hb dX3_canPair_49 (by decide) (fun c_2 => ?_) (fun c_2 => ?_)
      · have hf := it_f hf c_2
        have hf : fX3_canPair_b68 a_X3_canPair a_X3_canPairBoth (fX3_canPair_b33 a_X3_canPair a_X3_canPairBoth v_length v_met v_row n) v_length v_met v_row v_others l1 l2 l3 l4 = some (r0, n_others) := hf
        exact kX3_canPair_68 ha_X3_canPair ha_X3_canPairBoth C0 hA hK ih v_others l1 l2 l3 l4 _ _ _ hf hP hD hS (lv_sub hl [0, 1, 2, 3, 4] rfl)
      · have hf := it_t hf c_2
        refine lv_aload_n hx hb dX3_canPair_52 rfl (lv_at hl 0 rfl) ?_
        refine lv_iload_n hx hb dX3_canPair_53 rfl (lv_at hl 3 rfl) ?_
        refine lv_iload hx hb dX3_canPair_54 (lv_at hl 4 rfl) ?_
        refine lv_iload_n hx hb dX3_canPair_56 rfl (lv_at hl 1 rfl) ?_
        refine lv_iload_n hx hb dX3_canPair_57 rfl (lv_at hl 2 rfl) ?_
        refine lv_iconst (v := 1) hx hb dX3_canPair_58 (by decide) ?_
        refine lv_iadd hx hb dX3_canPair_59 ?_
        obtain ⟨⟨r_3, w_4⟩, hc_5, hf⟩ := ob_s hf
        refine w_callVz (As := [.int l3, .int l4, .int l1, .int (l2 + 1)]) (rest := []) (wr := List.filterMap (fun i : Nat => (wcX3_canPair cI cJ cZ cG h h_strengths h_met h_row h_others v_length v_met v_row v_others)[i]?) []) (ws1 := (wcX3_canPair cI cJ cZ cG h h_strengths h_met h_row h_others v_length v_met v_row w_4)) ⟨hx, hb, hml, hown, hts⟩ (ha_X3_canPairBoth h h_strengths h_met h_row h_others v_length v_met v_row v_others H.size l3 l4 l1 (l2 + 1) r_3 w_4 hc_5) (cwV 4 hts gX3_canPair_X3_canPairBoth rfl rfl rfl (by decide +kernel) ⟨Nat.le_refl _, (by show 8 + _ + (400 + 60 * dep) ≤ 400 + 60 * (dep + 1); omega)⟩) hK 0 3 rfl rfl rfl hP hD hS hA [0, 1, 2, 3] [] [0, 1, 2, 3] rfl rfl rfl rfl (by decide) rfl rfl rfl hl.1 rfl (Nat.le_of_ble_eq_true rfl) dX3_canPair_60 ⟨Nat.le_refl _, Nat.le_refl _⟩ (fun hz_6 H locs hP hD hS => ?_)
        refine lv_if_eq (tgt := 68) hx hb dX3_canPair_63 (by decide) (fun c_7 => ?_) (fun c_7 => ?_)
        · have hf := it_t hf c_7
          have hf : fX3_canPair_b68 a_X3_canPair a_X3_canPairBoth (fX3_canPair_b33 a_X3_canPair a_X3_canPairBoth v_length v_met v_row n) v_length v_met v_row w_4 l1 l2 l3 l4 = some (r0, n_others) := hf
          exact kX3_canPair_68 ha_X3_canPair ha_X3_canPairBoth C0 hA hK ih w_4 l1 l2 l3 l4 _ _ _ hf hP hD hS (lv_sub hl [0, 1, 2, 3, 4] rfl)
        · have hf := it_f hf c_7
          refine lv_iconst (v := 1) hx hb dX3_canPair_66 (by decide) ?_
          have hf : some (1, w_4) = some (r0, n_others) := hf
          cases hf
          exact w_zret hx hb hr hlocks rfl (Or.inr rfl) hP hD hS dX3_canPair_67
set_option maxHeartbeats 4000000 in
set_option maxRecDepth 100000 in
theorem kX3_canPair_28 {p : Program} {l : Launch} {e : Env} {s : State} {m : MethodId} {args : Array Value} {below : List Frame} {meth : Method} {c : Code} {dC : Nat → ClassId} {dI : Nat → Nat → Nat} {A : Nat → Prop} {cI cJ cZ cG : ClassId} {dep : Nat} {a_X3_canPair : Int32 → (Nat → Int32) → (Nat → Int32) → (Nat → Int32) → Int32 → Int32 → Option (Int32 × (Nat → Int32))} {a_X3_canPairBoth : Int32 → (Nat → Int32) → (Nat → Int32) → (Nat → Int32) → Int32 → Int32 → Int32 → Int32 → Option (Int32 × (Nat → Int32))} {h h_strengths h_met h_row h_others : Nat} {v_length : Int32} {v_met : Nat → Int32} {v_row : Nat → Int32} {r0 : Int32} {n_others : Nat → Int32} (ha_X3_canPair : ∀ (h h_strengths h_met h_row h_others : Nat) (v_length : Int32) (v_met : Nat → Int32) (v_row : Nat → Int32) (v_others : Nat → Int32) (sz : Nat) (p1 : Int32) (p2 : Int32) (r0 : Int32) (n_others : Nat → Int32) (hf : a_X3_canPair v_length v_met v_row v_others p1 p2 = some (r0, n_others)), Met l yX3_canPair wsX3_canPair (rmPair dep) (wPc [.ref h, .int p1, .int p2] (dC, dI) (tysW cI cJ cZ cG) sz (wcX3_canPair cI cJ cZ cG h h_strengths h_met h_row h_others v_length v_met v_row v_others)) (wQz r0 (wcX3_canPair cI cJ cZ cG h h_strengths h_met h_row h_others v_length v_met v_row n_others) (dC, dI) (va_A (wcX3_canPair cI cJ cZ cG h h_strengths h_met h_row h_others v_length v_met v_row v_others) sz)) 0 0 (va_A (wcX3_canPair cI cJ cZ cG h h_strengths h_met h_row h_others v_length v_met v_row v_others) sz)) (ha_X3_canPairBoth : ∀ (h h_strengths h_met h_row h_others : Nat) (v_length : Int32) (v_met : Nat → Int32) (v_row : Nat → Int32) (v_others : Nat → Int32) (sz : Nat) (p1 : Int32) (p2 : Int32) (p3 : Int32) (p4 : Int32) (r0 : Int32) (n_others : Nat → Int32) (hf : a_X3_canPairBoth v_length v_met v_row v_others p1 p2 p3 p4 = some (r0, n_others)), Met l yX3_canPairBoth wsX3_canPairBoth (rmPair dep) (wPc [.ref h, .int p1, .int p2, .int p3, .int p4] (dC, dI) (tysW cI cJ cZ cG) sz (wcX3_canPairBoth cI cJ cZ cG h h_strengths h_met h_row h_others v_length v_met v_row v_others)) (wQz r0 (wcX3_canPairBoth cI cJ cZ cG h h_strengths h_met h_row h_others v_length v_met v_row n_others) (dC, dI) (va_A (wcX3_canPairBoth cI cJ cZ cG h h_strengths h_met h_row h_others v_length v_met v_row v_others) sz)) 0 0 (va_A (wcX3_canPairBoth cI cJ cZ cG h h_strengths h_met h_row h_others v_length v_met v_row v_others) sz)) (C0 : wCX p s args m meth c cX3_canPair 5 (some .boolean) RX3 wsX3_canPair) (hA : ∀ q, s.heap.size ≤ q → A q) (hK : va_K (dC, dI) vwCl (tysW cI cJ cZ cG) s) : ∀ (v_others : Nat → Int32) (l1 : Int32) (l2 : Int32) (l3 : Int32) (H : Heap) (locs : List Loc) (ls : Array Slot), fX3_canPair_b28 a_X3_canPair a_X3_canPairBoth v_length v_met v_row v_others l1 l2 l3 = some (r0, n_others) → va_P (dC, dI) vwCl (wcX3_canPair cI cJ cZ cG h h_strengths h_met h_row h_others v_length v_met v_row v_others) H → va_D A (wcX3_canPair cI cJ cZ cG h h_strengths h_met h_row h_others v_length v_met v_row v_others) → va_S A s.heap H locs → lv_has ls 5 [(0, .ref h), (1, .int l1), (2, .int l2), (3, .int l3)] → W p l e (rmPair (dep + 1)) s m args below meth c H locs 0 0 (MQ below (wQz r0 (wcX3_canPair cI cJ cZ cG h h_strengths h_met h_row h_others v_length v_met v_row n_others) (dC, dI) A) args s 0 0 A) (F0 m 28 ls []) := by
  obtain ⟨hx, hb, hr, hml, hown, hts, hlocks⟩ := id C0
  intro v_others l1 l2 l3 H locs ls hf hP hD hS hl
  unfold fX3_canPair_b28 at hf
  refine lv_iload_n hx hb dX3_canPair_28 rfl (lv_at hl 3 rfl) ?_
  refine lv_iconst (v := 1) hx hb dX3_canPair_29 (by decide) ?_
  refine lv_iadd hx hb dX3_canPair_30 ?_
  obtain ⟨x_1, ex_1, hf⟩ := nm_s hf
  refine w_eqi ex_1 ?_
  refine lv_istore (lv' := [(4, .int x_1), (0, .ref h), (1, .int l1), (2, .int l2), (3, .int l3)]) hx hb dX3_canPair_31 hl (by decide) rfl (fun ls hl => ?_)
  have hf : fX3_canPair_b33 a_X3_canPair a_X3_canPairBoth v_length v_met v_row 70 v_others l1 l2 l3 x_1 = some (r0, n_others) := hf
  exact kX3_canPair_33 ha_X3_canPair ha_X3_canPairBoth C0 hA hK 70 v_others l1 l2 l3 x_1 _ _ _ hf hP hD hS (lv_sub hl [1, 2, 3, 4, 0] rfl)
set_option maxHeartbeats 4000000 in
set_option maxRecDepth 100000 in
theorem kX3_canPair_8 {p : Program} {l : Launch} {e : Env} {s : State} {m : MethodId} {args : Array Value} {below : List Frame} {meth : Method} {c : Code} {dC : Nat → ClassId} {dI : Nat → Nat → Nat} {A : Nat → Prop} {cI cJ cZ cG : ClassId} {dep : Nat} {a_X3_canPair : Int32 → (Nat → Int32) → (Nat → Int32) → (Nat → Int32) → Int32 → Int32 → Option (Int32 × (Nat → Int32))} {a_X3_canPairBoth : Int32 → (Nat → Int32) → (Nat → Int32) → (Nat → Int32) → Int32 → Int32 → Int32 → Int32 → Option (Int32 × (Nat → Int32))} {h h_strengths h_met h_row h_others : Nat} {v_length : Int32} {v_met : Nat → Int32} {v_row : Nat → Int32} {r0 : Int32} {n_others : Nat → Int32} (ha_X3_canPair : ∀ (h h_strengths h_met h_row h_others : Nat) (v_length : Int32) (v_met : Nat → Int32) (v_row : Nat → Int32) (v_others : Nat → Int32) (sz : Nat) (p1 : Int32) (p2 : Int32) (r0 : Int32) (n_others : Nat → Int32) (hf : a_X3_canPair v_length v_met v_row v_others p1 p2 = some (r0, n_others)), Met l yX3_canPair wsX3_canPair (rmPair dep) (wPc [.ref h, .int p1, .int p2] (dC, dI) (tysW cI cJ cZ cG) sz (wcX3_canPair cI cJ cZ cG h h_strengths h_met h_row h_others v_length v_met v_row v_others)) (wQz r0 (wcX3_canPair cI cJ cZ cG h h_strengths h_met h_row h_others v_length v_met v_row n_others) (dC, dI) (va_A (wcX3_canPair cI cJ cZ cG h h_strengths h_met h_row h_others v_length v_met v_row v_others) sz)) 0 0 (va_A (wcX3_canPair cI cJ cZ cG h h_strengths h_met h_row h_others v_length v_met v_row v_others) sz)) (ha_X3_canPairBoth : ∀ (h h_strengths h_met h_row h_others : Nat) (v_length : Int32) (v_met : Nat → Int32) (v_row : Nat → Int32) (v_others : Nat → Int32) (sz : Nat) (p1 : Int32) (p2 : Int32) (p3 : Int32) (p4 : Int32) (r0 : Int32) (n_others : Nat → Int32) (hf : a_X3_canPairBoth v_length v_met v_row v_others p1 p2 p3 p4 = some (r0, n_others)), Met l yX3_canPairBoth wsX3_canPairBoth (rmPair dep) (wPc [.ref h, .int p1, .int p2, .int p3, .int p4] (dC, dI) (tysW cI cJ cZ cG) sz (wcX3_canPairBoth cI cJ cZ cG h h_strengths h_met h_row h_others v_length v_met v_row v_others)) (wQz r0 (wcX3_canPairBoth cI cJ cZ cG h h_strengths h_met h_row h_others v_length v_met v_row n_others) (dC, dI) (va_A (wcX3_canPairBoth cI cJ cZ cG h h_strengths h_met h_row h_others v_length v_met v_row v_others) sz)) 0 0 (va_A (wcX3_canPairBoth cI cJ cZ cG h h_strengths h_met h_row h_others v_length v_met v_row v_others) sz)) (C0 : wCX p s args m meth c cX3_canPair 5 (some .boolean) RX3 wsX3_canPair) (hA : ∀ q, s.heap.size ≤ q → A q) (hK : va_K (dC, dI) vwCl (tysW cI cJ cZ cG) s) : ∀ (n : Nat), ∀ (v_others : Nat → Int32) (l1 : Int32) (l2 : Int32) (l3 : Int32) (H : Heap) (locs : List Loc) (ls : Array Slot), fX3_canPair_b8 a_X3_canPair a_X3_canPairBoth v_length v_met v_row n v_others l1 l2 l3 = some (r0, n_others) → va_P (dC, dI) vwCl (wcX3_canPair cI cJ cZ cG h h_strengths h_met h_row h_others v_length v_met v_row v_others) H → va_D A (wcX3_canPair cI cJ cZ cG h h_strengths h_met h_row h_others v_length v_met v_row v_others) → va_S A s.heap H locs → lv_has ls 5 [(0, .ref h), (1, .int l1), (2, .int l2), (3, .int l3)] → W p l e (rmPair (dep + 1)) s m args below meth c H locs 0 0 (MQ below (wQz r0 (wcX3_canPair cI cJ cZ cG h h_strengths h_met h_row h_others v_length v_met v_row n_others) (dC, dI) A) args s 0 0 A) (F0 m 8 ls []) := by
  obtain ⟨hx, hb, hr, hml, hown, hts, hlocks⟩ := id C0
  intro n
  induction n with
  | zero =>
    intro v_others l1 l2 l3 H locs ls hf hP hD hS hl
    rw [fX3_canPair_b8] at hf
    cases hf
  | succ n ih =>
    intro v_others l1 l2 l3 H locs ls hf hP hD hS hl
    rw [fX3_canPair_b8] at hf
    refine lv_iload_n hx hb dX3_canPair_8 rfl (lv_at hl 3 rfl) ?_
    refine lv_bipush (v := 6) hx hb dX3_canPair_9 (by decide) ?_
    refine lv_icmp_ge (tgt := 28) hx hb dX3_canPair_11 (by decide) (fun c_1 => ?_) (fun c_1 => ?_)
    · have hf := it_t hf c_1
      have hf : fX3_canPair_b28 a_X3_canPair a_X3_canPairBoth v_length v_met v_row v_others l1 l2 l3 = some (r0, n_others) := hf
      exact kX3_canPair_28 ha_X3_canPair ha_X3_canPairBoth C0 hA hK v_others l1 l2 l3 _ _ _ hf hP hD hS (lv_sub hl [0, 1, 2, 3] rfl)
    · have hf := it_f hf c_1
      refine lv_iload_n hx hb dX3_canPair_14 rfl (lv_at hl 1 rfl) ?_
      refine lv_iload_n hx hb dX3_canPair_15 rfl (lv_at hl 3 rfl) ?_
      refine lv_ishr hx hb dX3_canPair_16 ?_
      refine lv_iconst (v := 1) hx hb dX3_canPair_17 (by decide) ?_
      refine lv_iand hx hb dX3_canPair_18 ?_
      refine lv_if_ne (tgt := 28) hx hb dX3_canPair_19 (by decide) (fun c_2 => ?_) (fun c_2 => ?_)
      · have hf := it_f hf c_2
        have hf : fX3_canPair_b28 a_X3_canPair a_X3_canPairBoth v_length v_met v_row v_others l1 l2 l3 = some (r0, n_others) := hf
        exact kX3_canPair_28 ha_X3_canPair ha_X3_canPairBoth C0 hA hK v_others l1 l2 l3 _ _ _ hf hP hD hS (lv_sub hl [0, 1, 2, 3] rfl)
      · have hf := it_t hf c_2
        obtain ⟨x_3, ex_3, hf⟩ := nm_s hf
        refine lv_iinc (v := x_3) (lv' := [(3, .int x_3), (0, .ref h), (1, .int l1), (2, .int l2)]) hx hb dX3_canPair_22 hl (k := 3) rfl (by rw [ex_3]; rfl) (by decide) rfl (fun ls hl => ?_)
        refine lv_goto (tgt := 8) hx hb dX3_canPair_25 (by decide) ?_
        have hf : (fX3_canPair_b8 a_X3_canPair a_X3_canPairBoth v_length v_met v_row n) v_others l1 l2 x_3 = some (r0, n_others) := hf
        exact ih v_others l1 l2 x_3 _ _ _ hf hP hD hS (lv_sub hl [1, 2, 3, 0] rfl)
set_option maxHeartbeats 4000000 in
set_option maxRecDepth 100000 in
theorem oX3_canPair (l : Launch) (dC : Nat → ClassId) (dI : Nat → Nat → Nat) (cI cJ cZ cG : ClassId) {dep : Nat} {a_X3_canPair : Int32 → (Nat → Int32) → (Nat → Int32) → (Nat → Int32) → Int32 → Int32 → Option (Int32 × (Nat → Int32))} {a_X3_canPairBoth : Int32 → (Nat → Int32) → (Nat → Int32) → (Nat → Int32) → Int32 → Int32 → Int32 → Int32 → Option (Int32 × (Nat → Int32))} (ha_X3_canPair : ∀ (h h_strengths h_met h_row h_others : Nat) (v_length : Int32) (v_met : Nat → Int32) (v_row : Nat → Int32) (v_others : Nat → Int32) (sz : Nat) (p1 : Int32) (p2 : Int32) (r0 : Int32) (n_others : Nat → Int32) (hf : a_X3_canPair v_length v_met v_row v_others p1 p2 = some (r0, n_others)), Met l yX3_canPair wsX3_canPair (rmPair dep) (wPc [.ref h, .int p1, .int p2] (dC, dI) (tysW cI cJ cZ cG) sz (wcX3_canPair cI cJ cZ cG h h_strengths h_met h_row h_others v_length v_met v_row v_others)) (wQz r0 (wcX3_canPair cI cJ cZ cG h h_strengths h_met h_row h_others v_length v_met v_row n_others) (dC, dI) (va_A (wcX3_canPair cI cJ cZ cG h h_strengths h_met h_row h_others v_length v_met v_row v_others) sz)) 0 0 (va_A (wcX3_canPair cI cJ cZ cG h h_strengths h_met h_row h_others v_length v_met v_row v_others) sz)) (ha_X3_canPairBoth : ∀ (h h_strengths h_met h_row h_others : Nat) (v_length : Int32) (v_met : Nat → Int32) (v_row : Nat → Int32) (v_others : Nat → Int32) (sz : Nat) (p1 : Int32) (p2 : Int32) (p3 : Int32) (p4 : Int32) (r0 : Int32) (n_others : Nat → Int32) (hf : a_X3_canPairBoth v_length v_met v_row v_others p1 p2 p3 p4 = some (r0, n_others)), Met l yX3_canPairBoth wsX3_canPairBoth (rmPair dep) (wPc [.ref h, .int p1, .int p2, .int p3, .int p4] (dC, dI) (tysW cI cJ cZ cG) sz (wcX3_canPairBoth cI cJ cZ cG h h_strengths h_met h_row h_others v_length v_met v_row v_others)) (wQz r0 (wcX3_canPairBoth cI cJ cZ cG h h_strengths h_met h_row h_others v_length v_met v_row n_others) (dC, dI) (va_A (wcX3_canPairBoth cI cJ cZ cG h h_strengths h_met h_row h_others v_length v_met v_row v_others) sz)) 0 0 (va_A (wcX3_canPairBoth cI cJ cZ cG h h_strengths h_met h_row h_others v_length v_met v_row v_others) sz)) (h h_strengths h_met h_row h_others : Nat) (v_length : Int32) (v_met : Nat → Int32) (v_row : Nat → Int32) (v_others : Nat → Int32) (sz : Nat) (p1 : Int32) (p2 : Int32) (r0 : Int32) (n_others : Nat → Int32) (hf : bX3_canPair a_X3_canPair a_X3_canPairBoth v_length v_met v_row v_others p1 p2 = some (r0, n_others)) : Met l yX3_canPair wsX3_canPair (rmPair (dep + 1)) (wPc [.ref h, .int p1, .int p2] (dC, dI) (tysW cI cJ cZ cG) sz (wcX3_canPair cI cJ cZ cG h h_strengths h_met h_row h_others v_length v_met v_row v_others)) (wQz r0 (wcX3_canPair cI cJ cZ cG h h_strengths h_met h_row h_others v_length v_met v_row n_others) (dC, dI) (va_A (wcX3_canPair cI cJ cZ cG h h_strengths h_met h_row h_others v_length v_met v_row v_others) sz)) 0 0 (va_A (wcX3_canPair cI cJ cZ cG h h_strengths h_met h_row h_others v_length v_met v_row v_others) sz) := by
  refine Met.ofW (cc := cX3_canPair) (maxL := 5) (ret := (some .boolean)) (by decide) rfl ?_
  intro p e s m args below meth c s₁ B hml hv
  obtain ⟨rfl, hsz, hP, hK, hD0⟩ := hv
  have hx := B.exec
  have hb := B.bytes
  have hr := B.returns
  have hts := atoms_spec (ws := wsX3_canPair) B.pre
  have hown : s.vm.findClass RX3 = some m.cls := findClass_of_methodNamed B.named
  have hlocks := B.notSynchronized
  subst hsz
  have hD := hD0.self (sz := s.heap.size)
  generalize hAe : va_A (wcX3_canPair cI cJ cZ cG h h_strengths h_met h_row h_others v_length v_met v_row v_others) s.heap.size = A at hD ⊢
  have hA : ∀ q : Nat, s.heap.size ≤ q → A q := fun q h => by rw [← hAe]; exact Or.inr h
  have hS : va_S A s.heap s.heap [] := va_S.rf
  have hP : va_P (dC, dI) vwCl (wcX3_canPair cI cJ cZ cG h h_strengths h_met h_row h_others v_length v_met v_row v_others) s.heap := hP
  have hl := lv_entry ([.ref h, .int p1, .int p2]) (n := 5) (Nat.le_of_ble_eq_true rfl)
  rw [lg_entry_eq]
  generalize (lg_sl ([.ref h, .int p1, .int p2]) ++ List.replicate (5 - (lg_sl ([.ref h, .int p1, .int p2])).length) Slot.unset).toArray = ls at hl ⊢
  have hl : lv_has ls 5 [(0, .ref h), (1, .int p1), (2, .int p2)] := hl
  generalize hH : s.heap = H at hP hS ⊢
  have hS : va_S A s.heap H [] := by rw [hH]; exact hS
  have C0 : wCX p s #[.ref h, .int p1, .int p2] m meth c cX3_canPair 5 (some .boolean) RX3 wsX3_canPair := ⟨hx, hb, hr, hml, hown, hts, hlocks⟩
  show W p l e (rmPair (dep + 1)) s m #[.ref h, .int p1, .int p2] below meth c H [] 0 0 (MQ below (wQz r0 (wcX3_canPair cI cJ cZ cG h h_strengths h_met h_row h_others v_length v_met v_row n_others) (dC, dI) A) #[.ref h, .int p1, .int p2] s 0 0 A) (F0 m 0 ls [])
  unfold bX3_canPair at hf
  refine lv_iload_n hx hb dX3_canPair_0 rfl (lv_at hl 1 rfl) ?_
  refine lv_if_ne (tgt := 6) hx hb dX3_canPair_1 (by decide) (fun c_1 => ?_) (fun c_1 => ?_)
  · have hf := it_f hf c_1
    refine lv_iconst (v := 0) hx hb dX3_canPair_6 (by decide) ?_
    refine lv_istore_n (lv' := [(3, .int 0), (0, .ref h), (1, .int p1), (2, .int p2)]) hx hb dX3_canPair_7 rfl hl (by decide) rfl (fun ls hl => ?_)
    have hf : fX3_canPair_b8 a_X3_canPair a_X3_canPairBoth v_length v_met v_row 70 v_others p1 p2 0 = some (r0, n_others) := hf
    exact kX3_canPair_8 ha_X3_canPair ha_X3_canPairBoth C0 hA hK 70 v_others p1 p2 0 _ _ _ hf hP hD hS (lv_sub hl [1, 2, 3, 0] rfl)
  · have hf := it_t hf c_1
    refine lv_iconst (v := 1) hx hb dX3_canPair_4 (by decide) ?_
    have hf : some (1, v_others) = some (r0, n_others) := hf
    cases hf
    exact w_zret hx hb hr hlocks rfl (Or.inr rfl) hP hD hS dX3_canPair_5
theorem iX3_canPairBoth_X3 : ∀ w ∈ wsX30, w ∈ wsX3_canPairBoth := by decide +kernel
theorem mX3_canPairBoth_0 : (Cond.fieldLink RX3 18 "Sleevehall$Matches" "row" "[I") ∈ wsX3_canPairBoth := by decide +kernel
theorem mX3_canPairBoth_1 : (Cond.fieldLink RX3 15 "Sleevehall$Matches" "met" "[I") ∈ wsX3_canPairBoth := by decide +kernel
theorem mX3_canPairBoth_2 : (Cond.fieldLink RX3 21 "Sleevehall$Matches" "others" "[I") ∈ wsX3_canPairBoth := by decide +kernel
set_option maxHeartbeats 4000000 in
set_option maxRecDepth 100000 in
theorem kX3_canPairBoth_73 {p : Program} {l : Launch} {e : Env} {s : State} {m : MethodId} {args : Array Value} {below : List Frame} {meth : Method} {c : Code} {dC : Nat → ClassId} {dI : Nat → Nat → Nat} {A : Nat → Prop} {cI cJ cZ cG : ClassId} {dep : Nat} {a_X3_canPair : Int32 → (Nat → Int32) → (Nat → Int32) → (Nat → Int32) → Int32 → Int32 → Option (Int32 × (Nat → Int32))} {a_X3_canPairBoth : Int32 → (Nat → Int32) → (Nat → Int32) → (Nat → Int32) → Int32 → Int32 → Int32 → Int32 → Option (Int32 × (Nat → Int32))} {h h_strengths h_met h_row h_others : Nat} {v_length : Int32} {v_met : Nat → Int32} {v_row : Nat → Int32} {r0 : Int32} {n_others : Nat → Int32} (ha_X3_canPair : ∀ (h h_strengths h_met h_row h_others : Nat) (v_length : Int32) (v_met : Nat → Int32) (v_row : Nat → Int32) (v_others : Nat → Int32) (sz : Nat) (p1 : Int32) (p2 : Int32) (r0 : Int32) (n_others : Nat → Int32) (hf : a_X3_canPair v_length v_met v_row v_others p1 p2 = some (r0, n_others)), Met l yX3_canPair wsX3_canPair (rmPair dep) (wPc [.ref h, .int p1, .int p2] (dC, dI) (tysW cI cJ cZ cG) sz (wcX3_canPair cI cJ cZ cG h h_strengths h_met h_row h_others v_length v_met v_row v_others)) (wQz r0 (wcX3_canPair cI cJ cZ cG h h_strengths h_met h_row h_others v_length v_met v_row n_others) (dC, dI) (va_A (wcX3_canPair cI cJ cZ cG h h_strengths h_met h_row h_others v_length v_met v_row v_others) sz)) 0 0 (va_A (wcX3_canPair cI cJ cZ cG h h_strengths h_met h_row h_others v_length v_met v_row v_others) sz)) (ha_X3_canPairBoth : ∀ (h h_strengths h_met h_row h_others : Nat) (v_length : Int32) (v_met : Nat → Int32) (v_row : Nat → Int32) (v_others : Nat → Int32) (sz : Nat) (p1 : Int32) (p2 : Int32) (p3 : Int32) (p4 : Int32) (r0 : Int32) (n_others : Nat → Int32) (hf : a_X3_canPairBoth v_length v_met v_row v_others p1 p2 p3 p4 = some (r0, n_others)), Met l yX3_canPairBoth wsX3_canPairBoth (rmPair dep) (wPc [.ref h, .int p1, .int p2, .int p3, .int p4] (dC, dI) (tysW cI cJ cZ cG) sz (wcX3_canPairBoth cI cJ cZ cG h h_strengths h_met h_row h_others v_length v_met v_row v_others)) (wQz r0 (wcX3_canPairBoth cI cJ cZ cG h h_strengths h_met h_row h_others v_length v_met v_row n_others) (dC, dI) (va_A (wcX3_canPairBoth cI cJ cZ cG h h_strengths h_met h_row h_others v_length v_met v_row v_others) sz)) 0 0 (va_A (wcX3_canPairBoth cI cJ cZ cG h h_strengths h_met h_row h_others v_length v_met v_row v_others) sz)) (C0 : wCX p s args m meth c cX3_canPairBoth 8 (some .boolean) RX3 wsX3_canPairBoth) (hA : ∀ q, s.heap.size ≤ q → A q) (hK : va_K (dC, dI) vwCl (tysW cI cJ cZ cG) s) : ∀ (v_others : Nat → Int32) (H : Heap) (locs : List Loc) (ls : Array Slot), fX3_canPairBoth_b73 a_X3_canPair a_X3_canPairBoth v_length v_met v_row v_others = some (r0, n_others) → va_P (dC, dI) vwCl (wcX3_canPairBoth cI cJ cZ cG h h_strengths h_met h_row h_others v_length v_met v_row v_others) H → va_D A (wcX3_canPairBoth cI cJ cZ cG h h_strengths h_met h_row h_others v_length v_met v_row v_others) → va_S A s.heap H locs → lv_has ls 8 [] → W p l e (rmPair (dep + 1)) s m args below meth c H locs 0 0 (MQ below (wQz r0 (wcX3_canPairBoth cI cJ cZ cG h h_strengths h_met h_row h_others v_length v_met v_row n_others) (dC, dI) A) args s 0 0 A) (F0 m 73 ls []) := by
  obtain ⟨hx, hb, hr, hml, hown, hts, hlocks⟩ := id C0
  intro v_others H locs ls hf hP hD hS hl
  unfold fX3_canPairBoth_b73 at hf
  refine lv_iconst (v := 0) hx hb dX3_canPairBoth_73 (by decide) ?_
  have hf : some (0, v_others) = some (r0, n_others) := hf
  cases hf
  exact w_zret hx hb hr hlocks rfl (Or.inl rfl) hP hD hS dX3_canPairBoth_74
set_option maxHeartbeats 4000000 in
set_option maxRecDepth 100000 in
theorem kX3_canPairBoth_37 {p : Program} {l : Launch} {e : Env} {s : State} {m : MethodId} {args : Array Value} {below : List Frame} {meth : Method} {c : Code} {dC : Nat → ClassId} {dI : Nat → Nat → Nat} {A : Nat → Prop} {cI cJ cZ cG : ClassId} {dep : Nat} {a_X3_canPair : Int32 → (Nat → Int32) → (Nat → Int32) → (Nat → Int32) → Int32 → Int32 → Option (Int32 × (Nat → Int32))} {a_X3_canPairBoth : Int32 → (Nat → Int32) → (Nat → Int32) → (Nat → Int32) → Int32 → Int32 → Int32 → Int32 → Option (Int32 × (Nat → Int32))} {h h_strengths h_met h_row h_others : Nat} {v_length : Int32} {v_met : Nat → Int32} {v_row : Nat → Int32} {r0 : Int32} {n_others : Nat → Int32} (ha_X3_canPair : ∀ (h h_strengths h_met h_row h_others : Nat) (v_length : Int32) (v_met : Nat → Int32) (v_row : Nat → Int32) (v_others : Nat → Int32) (sz : Nat) (p1 : Int32) (p2 : Int32) (r0 : Int32) (n_others : Nat → Int32) (hf : a_X3_canPair v_length v_met v_row v_others p1 p2 = some (r0, n_others)), Met l yX3_canPair wsX3_canPair (rmPair dep) (wPc [.ref h, .int p1, .int p2] (dC, dI) (tysW cI cJ cZ cG) sz (wcX3_canPair cI cJ cZ cG h h_strengths h_met h_row h_others v_length v_met v_row v_others)) (wQz r0 (wcX3_canPair cI cJ cZ cG h h_strengths h_met h_row h_others v_length v_met v_row n_others) (dC, dI) (va_A (wcX3_canPair cI cJ cZ cG h h_strengths h_met h_row h_others v_length v_met v_row v_others) sz)) 0 0 (va_A (wcX3_canPair cI cJ cZ cG h h_strengths h_met h_row h_others v_length v_met v_row v_others) sz)) (ha_X3_canPairBoth : ∀ (h h_strengths h_met h_row h_others : Nat) (v_length : Int32) (v_met : Nat → Int32) (v_row : Nat → Int32) (v_others : Nat → Int32) (sz : Nat) (p1 : Int32) (p2 : Int32) (p3 : Int32) (p4 : Int32) (r0 : Int32) (n_others : Nat → Int32) (hf : a_X3_canPairBoth v_length v_met v_row v_others p1 p2 p3 p4 = some (r0, n_others)), Met l yX3_canPairBoth wsX3_canPairBoth (rmPair dep) (wPc [.ref h, .int p1, .int p2, .int p3, .int p4] (dC, dI) (tysW cI cJ cZ cG) sz (wcX3_canPairBoth cI cJ cZ cG h h_strengths h_met h_row h_others v_length v_met v_row v_others)) (wQz r0 (wcX3_canPairBoth cI cJ cZ cG h h_strengths h_met h_row h_others v_length v_met v_row n_others) (dC, dI) (va_A (wcX3_canPairBoth cI cJ cZ cG h h_strengths h_met h_row h_others v_length v_met v_row v_others) sz)) 0 0 (va_A (wcX3_canPairBoth cI cJ cZ cG h h_strengths h_met h_row h_others v_length v_met v_row v_others) sz)) (C0 : wCX p s args m meth c cX3_canPairBoth 8 (some .boolean) RX3 wsX3_canPairBoth) (hA : ∀ q, s.heap.size ≤ q → A q) (hK : va_K (dC, dI) vwCl (tysW cI cJ cZ cG) s) : ∀ (v_others : Nat → Int32) (l1 : Int32) (l2 : Int32) (l3 : Int32) (l4 : Int32) (l5 : Int32) (l6 : Int32) (s0 : Int32) (hz_s0 : wB s0) (H : Heap) (locs : List Loc) (ls : Array Slot), fX3_canPairBoth_b37 a_X3_canPair a_X3_canPairBoth v_length v_met v_row v_others l1 l2 l3 l4 l5 l6 s0 = some (r0, n_others) → va_P (dC, dI) vwCl (wcX3_canPairBoth cI cJ cZ cG h h_strengths h_met h_row h_others v_length v_met v_row v_others) H → va_D A (wcX3_canPairBoth cI cJ cZ cG h h_strengths h_met h_row h_others v_length v_met v_row v_others) → va_S A s.heap H locs → lv_has ls 8 [(0, .ref h), (1, .int l1), (2, .int l2), (3, .int l3), (4, .int l4), (5, .int l5), (6, .int l6)] → W p l e (rmPair (dep + 1)) s m args below meth c H locs 0 0 (MQ below (wQz r0 (wcX3_canPairBoth cI cJ cZ cG h h_strengths h_met h_row h_others v_length v_met v_row n_others) (dC, dI) A) args s 0 0 A) (F0 m 37 ls [.int s0]) := by
  obtain ⟨hx, hb, hr, hml, hown, hts, hlocks⟩ := id C0
  intro v_others l1 l2 l3 l4 l5 l6 s0 hz_s0 H locs ls hf hP hD hS hl
  unfold fX3_canPairBoth_b37 at hf
  refine lv_istore (lv' := [(7, .int s0), (0, .ref h), (1, .int l1), (2, .int l2), (3, .int l3), (4, .int l4), (5, .int l5), (6, .int l6)]) hx hb dX3_canPairBoth_37 hl (by decide) rfl (fun ls hl => ?_)
  refine lv_iload hx hb dX3_canPairBoth_39 (lv_at hl 0 rfl) ?_
  refine lv_if_ne (tgt := 73) hx hb dX3_canPairBoth_41 (by decide) (fun c_1 => ?_) (fun c_1 => ?_)
  · have hf := it_f hf c_1
    have hf : fX3_canPairBoth_b73 a_X3_canPair a_X3_canPairBoth v_length v_met v_row v_others = some (r0, n_others) := hf
    exact kX3_canPairBoth_73 ha_X3_canPair ha_X3_canPairBoth C0 hA hK v_others _ _ _ hf hP hD hS (lv_sub hl [] rfl)
  · have hf := it_t hf c_1
    refine lv_iload hx hb dX3_canPairBoth_44 (lv_at hl 5 rfl) ?_
    refine lv_bipush (v := 6) hx hb dX3_canPairBoth_46 (by decide) ?_
    refine lv_icmp_gt (tgt := 73) hx hb dX3_canPairBoth_48 (by decide) (fun c_2 => ?_) (fun c_2 => ?_)
    · have hf := it_t hf c_2
      have hf : fX3_canPairBoth_b73 a_X3_canPair a_X3_canPairBoth v_length v_met v_row v_others = some (r0, n_others) := hf
      exact kX3_canPairBoth_73 ha_X3_canPair ha_X3_canPairBoth C0 hA hK v_others _ _ _ hf hP hD hS (lv_sub hl [] rfl)
    · have hf := it_f hf c_2
      refine lv_aload_n hx hb dX3_canPairBoth_51 rfl (lv_at hl 1 rfl) ?_
      refine lv_iload_n hx hb dX3_canPairBoth_52 rfl (lv_at hl 4 rfl) ?_
      refine lv_iconst (v := 1) hx hb dX3_canPairBoth_53 (by decide) ?_
      refine lv_iload_n hx hb dX3_canPairBoth_54 rfl (lv_at hl 2 rfl) ?_
      refine lv_ishl hx hb dX3_canPairBoth_55 ?_
      refine lv_iconst (v := (-1)) hx hb dX3_canPairBoth_56 (by decide) ?_
      refine lv_ixor hx hb dX3_canPairBoth_57 ?_
      refine lv_iand hx hb dX3_canPairBoth_58 ?_
      refine lv_iconst (v := 1) hx hb dX3_canPairBoth_59 (by decide) ?_
      refine lv_iload_n hx hb dX3_canPairBoth_60 rfl (lv_at hl 3 rfl) ?_
      refine lv_ishl hx hb dX3_canPairBoth_61 ?_
      refine lv_iconst (v := (-1)) hx hb dX3_canPairBoth_62 (by decide) ?_
      refine lv_ixor hx hb dX3_canPairBoth_63 ?_
      refine lv_iand hx hb dX3_canPairBoth_64 ?_
      refine lv_iload hx hb dX3_canPairBoth_65 (lv_at hl 5 rfl) ?_
      obtain ⟨⟨r_3, w_4⟩, hc_5, hf⟩ := ob_s hf
      refine w_callVz (As := [.int ((l3 &&& (((1 : Int32) <<< (l1 &&& 31)) ^^^ (-1))) &&& (((1 : Int32) <<< (l2 &&& 31)) ^^^ (-1))), .int l4]) (rest := []) (wr := List.filterMap (fun i : Nat => (wcX3_canPairBoth cI cJ cZ cG h h_strengths h_met h_row h_others v_length v_met v_row v_others)[i]?) []) (ws1 := (wcX3_canPairBoth cI cJ cZ cG h h_strengths h_met h_row h_others v_length v_met v_row w_4)) ⟨hx, hb, hml, hown, hts⟩ (ha_X3_canPair h h_strengths h_met h_row h_others v_length v_met v_row v_others H.size ((l3 &&& (((1 : Int32) <<< (l1 &&& 31)) ^^^ (-1))) &&& (((1 : Int32) <<< (l2 &&& 31)) ^^^ (-1))) l4 r_3 w_4 hc_5) (cwV 2 hts gX3_canPairBoth_X3_canPair rfl rfl rfl (by decide +kernel) ⟨Nat.le_refl _, (by show 8 + _ + (400 + 60 * dep) ≤ 400 + 60 * (dep + 1); omega)⟩) hK 0 3 rfl rfl rfl hP hD hS hA [0, 1, 2, 3] [] [0, 1, 2, 3] rfl rfl rfl rfl (by decide) rfl rfl rfl hl.1 rfl (Nat.le_of_ble_eq_true rfl) dX3_canPairBoth_67 ⟨Nat.le_refl _, Nat.le_refl _⟩ (fun hz_6 H locs hP hD hS => ?_)
      refine lv_if_ne (tgt := 75) hx hb dX3_canPairBoth_70 (by decide) (fun c_7 => ?_) (fun c_7 => ?_)
      · have hf := it_f hf c_7
        refine lv_aload_n hx hb dX3_canPairBoth_75 rfl (lv_at hl 1 rfl) ?_
        refine va_get (D := (dC, dI)) (ci := 3) (v := .ref h_others) (C := RX3) (T := TX3) (N := 5) hx hb hts iX3_canPairBoth_X3 hown hK hP 0 rfl rfl 3 (by decide) (hts _ mX3_canPairBoth_2) (fun _ h9 => h9) rfl dX3_canPairBoth_76 ?_
        refine lv_iload hx hb dX3_canPairBoth_79 (lv_at hl 6 rfl) ?_
        refine lv_iload hx hb dX3_canPairBoth_81 (lv_at hl 7 rfl) ?_
        obtain ⟨hg_8, hf⟩ := ck_s hf
        refine va_iast (D := (dC, dI)) hx hb hK hP hD hS 3 0 rfl rfl (g_vp hg_8) dX3_canPairBoth_83 (fun H locs hP hD hS => ?_)
        have hP : va_P (dC, dI) vwCl (wcX3_canPairBoth cI cJ cZ cG h h_strengths h_met h_row h_others v_length v_met v_row (upd w_4 l5.toNatClampNeg l6)) H := hP
        have hD : va_D A (wcX3_canPairBoth cI cJ cZ cG h h_strengths h_met h_row h_others v_length v_met v_row (upd w_4 l5.toNatClampNeg l6)) := hD
        refine lv_aload_n hx hb dX3_canPairBoth_84 rfl (lv_at hl 1 rfl) ?_
        refine va_get (D := (dC, dI)) (ci := 3) (v := .ref h_others) (C := RX3) (T := TX3) (N := 5) hx hb hts iX3_canPairBoth_X3 hown hK hP 0 rfl rfl 3 (by decide) (hts _ mX3_canPairBoth_2) (fun _ h9 => h9) rfl dX3_canPairBoth_85 ?_
        refine lv_iload hx hb dX3_canPairBoth_88 (lv_at hl 7 rfl) ?_
        refine lv_iload hx hb dX3_canPairBoth_90 (lv_at hl 6 rfl) ?_
        obtain ⟨hg_9, hf⟩ := ck_s hf
        refine va_iast (D := (dC, dI)) hx hb hK hP hD hS 3 0 rfl rfl (g_vp hg_9) dX3_canPairBoth_92 (fun H locs hP hD hS => ?_)
        have hP : va_P (dC, dI) vwCl (wcX3_canPairBoth cI cJ cZ cG h h_strengths h_met h_row h_others v_length v_met v_row (upd (upd w_4 l5.toNatClampNeg l6) l6.toNatClampNeg l5)) H := hP
        have hD : va_D A (wcX3_canPairBoth cI cJ cZ cG h h_strengths h_met h_row h_others v_length v_met v_row (upd (upd w_4 l5.toNatClampNeg l6) l6.toNatClampNeg l5)) := hD
        refine lv_iconst (v := 1) hx hb dX3_canPairBoth_93 (by decide) ?_
        have hf : some (1, (upd (upd w_4 l5.toNatClampNeg l6) l6.toNatClampNeg l5)) = some (r0, n_others) := hf
        cases hf
        exact w_zret hx hb hr hlocks rfl (Or.inr rfl) hP hD hS dX3_canPairBoth_94
      · have hf := it_t hf c_7
        have hf : fX3_canPairBoth_b73 a_X3_canPair a_X3_canPairBoth v_length v_met v_row w_4 = some (r0, n_others) := hf
        exact kX3_canPairBoth_73 ha_X3_canPair ha_X3_canPairBoth C0 hA hK w_4 _ _ _ hf hP hD hS (lv_sub hl [] rfl)
set_option maxHeartbeats 4000000 in
set_option maxRecDepth 100000 in
theorem oX3_canPairBoth (l : Launch) (dC : Nat → ClassId) (dI : Nat → Nat → Nat) (cI cJ cZ cG : ClassId) {dep : Nat} {a_X3_canPair : Int32 → (Nat → Int32) → (Nat → Int32) → (Nat → Int32) → Int32 → Int32 → Option (Int32 × (Nat → Int32))} {a_X3_canPairBoth : Int32 → (Nat → Int32) → (Nat → Int32) → (Nat → Int32) → Int32 → Int32 → Int32 → Int32 → Option (Int32 × (Nat → Int32))} (ha_X3_canPair : ∀ (h h_strengths h_met h_row h_others : Nat) (v_length : Int32) (v_met : Nat → Int32) (v_row : Nat → Int32) (v_others : Nat → Int32) (sz : Nat) (p1 : Int32) (p2 : Int32) (r0 : Int32) (n_others : Nat → Int32) (hf : a_X3_canPair v_length v_met v_row v_others p1 p2 = some (r0, n_others)), Met l yX3_canPair wsX3_canPair (rmPair dep) (wPc [.ref h, .int p1, .int p2] (dC, dI) (tysW cI cJ cZ cG) sz (wcX3_canPair cI cJ cZ cG h h_strengths h_met h_row h_others v_length v_met v_row v_others)) (wQz r0 (wcX3_canPair cI cJ cZ cG h h_strengths h_met h_row h_others v_length v_met v_row n_others) (dC, dI) (va_A (wcX3_canPair cI cJ cZ cG h h_strengths h_met h_row h_others v_length v_met v_row v_others) sz)) 0 0 (va_A (wcX3_canPair cI cJ cZ cG h h_strengths h_met h_row h_others v_length v_met v_row v_others) sz)) (ha_X3_canPairBoth : ∀ (h h_strengths h_met h_row h_others : Nat) (v_length : Int32) (v_met : Nat → Int32) (v_row : Nat → Int32) (v_others : Nat → Int32) (sz : Nat) (p1 : Int32) (p2 : Int32) (p3 : Int32) (p4 : Int32) (r0 : Int32) (n_others : Nat → Int32) (hf : a_X3_canPairBoth v_length v_met v_row v_others p1 p2 p3 p4 = some (r0, n_others)), Met l yX3_canPairBoth wsX3_canPairBoth (rmPair dep) (wPc [.ref h, .int p1, .int p2, .int p3, .int p4] (dC, dI) (tysW cI cJ cZ cG) sz (wcX3_canPairBoth cI cJ cZ cG h h_strengths h_met h_row h_others v_length v_met v_row v_others)) (wQz r0 (wcX3_canPairBoth cI cJ cZ cG h h_strengths h_met h_row h_others v_length v_met v_row n_others) (dC, dI) (va_A (wcX3_canPairBoth cI cJ cZ cG h h_strengths h_met h_row h_others v_length v_met v_row v_others) sz)) 0 0 (va_A (wcX3_canPairBoth cI cJ cZ cG h h_strengths h_met h_row h_others v_length v_met v_row v_others) sz)) (h h_strengths h_met h_row h_others : Nat) (v_length : Int32) (v_met : Nat → Int32) (v_row : Nat → Int32) (v_others : Nat → Int32) (sz : Nat) (p1 : Int32) (p2 : Int32) (p3 : Int32) (p4 : Int32) (r0 : Int32) (n_others : Nat → Int32) (hf : bX3_canPairBoth a_X3_canPair a_X3_canPairBoth v_length v_met v_row v_others p1 p2 p3 p4 = some (r0, n_others)) : Met l yX3_canPairBoth wsX3_canPairBoth (rmPair (dep + 1)) (wPc [.ref h, .int p1, .int p2, .int p3, .int p4] (dC, dI) (tysW cI cJ cZ cG) sz (wcX3_canPairBoth cI cJ cZ cG h h_strengths h_met h_row h_others v_length v_met v_row v_others)) (wQz r0 (wcX3_canPairBoth cI cJ cZ cG h h_strengths h_met h_row h_others v_length v_met v_row n_others) (dC, dI) (va_A (wcX3_canPairBoth cI cJ cZ cG h h_strengths h_met h_row h_others v_length v_met v_row v_others) sz)) 0 0 (va_A (wcX3_canPairBoth cI cJ cZ cG h h_strengths h_met h_row h_others v_length v_met v_row v_others) sz) := by
  refine Met.ofW (cc := cX3_canPairBoth) (maxL := 8) (ret := (some .boolean)) (by decide) rfl ?_
  intro p e s m args below meth c s₁ B hml hv
  obtain ⟨rfl, hsz, hP, hK, hD0⟩ := hv
  have hx := B.exec
  have hb := B.bytes
  have hr := B.returns
  have hts := atoms_spec (ws := wsX3_canPairBoth) B.pre
  have hown : s.vm.findClass RX3 = some m.cls := findClass_of_methodNamed B.named
  have hlocks := B.notSynchronized
  subst hsz
  have hD := hD0.self (sz := s.heap.size)
  generalize hAe : va_A (wcX3_canPairBoth cI cJ cZ cG h h_strengths h_met h_row h_others v_length v_met v_row v_others) s.heap.size = A at hD ⊢
  have hA : ∀ q : Nat, s.heap.size ≤ q → A q := fun q h => by rw [← hAe]; exact Or.inr h
  have hS : va_S A s.heap s.heap [] := va_S.rf
  have hP : va_P (dC, dI) vwCl (wcX3_canPairBoth cI cJ cZ cG h h_strengths h_met h_row h_others v_length v_met v_row v_others) s.heap := hP
  have hl := lv_entry ([.ref h, .int p1, .int p2, .int p3, .int p4]) (n := 8) (Nat.le_of_ble_eq_true rfl)
  rw [lg_entry_eq]
  generalize (lg_sl ([.ref h, .int p1, .int p2, .int p3, .int p4]) ++ List.replicate (8 - (lg_sl ([.ref h, .int p1, .int p2, .int p3, .int p4])).length) Slot.unset).toArray = ls at hl ⊢
  have hl : lv_has ls 8 [(0, .ref h), (1, .int p1), (2, .int p2), (3, .int p3), (4, .int p4)] := hl
  generalize hH : s.heap = H at hP hS ⊢
  have hS : va_S A s.heap H [] := by rw [hH]; exact hS
  have C0 : wCX p s #[.ref h, .int p1, .int p2, .int p3, .int p4] m meth c cX3_canPairBoth 8 (some .boolean) RX3 wsX3_canPairBoth := ⟨hx, hb, hr, hml, hown, hts, hlocks⟩
  show W p l e (rmPair (dep + 1)) s m #[.ref h, .int p1, .int p2, .int p3, .int p4] below meth c H [] 0 0 (MQ below (wQz r0 (wcX3_canPairBoth cI cJ cZ cG h h_strengths h_met h_row h_others v_length v_met v_row n_others) (dC, dI) A) #[.ref h, .int p1, .int p2, .int p3, .int p4] s 0 0 A) (F0 m 0 ls [])
  unfold bX3_canPairBoth at hf
  refine lv_aload_n hx hb dX3_canPairBoth_0 rfl (lv_at hl 0 rfl) ?_
  refine va_get (D := (dC, dI)) (ci := 3) (v := .ref h_row) (C := RX3) (T := TX3) (N := 5) hx hb hts iX3_canPairBoth_X3 hown hK hP 0 rfl rfl 2 (by decide) (hts _ mX3_canPairBoth_0) (fun _ h9 => h9) rfl dX3_canPairBoth_1 ?_
  refine lv_iload_n hx hb dX3_canPairBoth_4 rfl (lv_at hl 1 rfl) ?_
  obtain ⟨hg_1, hf⟩ := ck_s hf
  refine va_iald (D := (dC, dI)) hx hb hK hP 2 0 rfl rfl (g_vp hg_1) dX3_canPairBoth_5 ?_
  obtain ⟨x_2, ex_2, hf⟩ := nm_s hf
  refine w_eqi ex_2 ?_
  refine lv_istore (lv' := [(5, .int x_2), (0, .ref h), (1, .int p1), (2, .int p2), (3, .int p3), (4, .int p4)]) hx hb dX3_canPairBoth_6 hl (by decide) rfl (fun ls hl => ?_)
  refine lv_aload_n hx hb dX3_canPairBoth_8 rfl (lv_at hl 1 rfl) ?_
  refine va_get (D := (dC, dI)) (ci := 3) (v := .ref h_row) (C := RX3) (T := TX3) (N := 5) hx hb hts iX3_canPairBoth_X3 hown hK hP 0 rfl rfl 2 (by decide) (hts _ mX3_canPairBoth_0) (fun _ h9 => h9) rfl dX3_canPairBoth_9 ?_
  refine lv_iload_n hx hb dX3_canPairBoth_12 rfl (lv_at hl 3 rfl) ?_
  obtain ⟨hg_3, hf⟩ := ck_s hf
  refine va_iald (D := (dC, dI)) hx hb hK hP 2 0 rfl rfl (g_vp hg_3) dX3_canPairBoth_13 ?_
  obtain ⟨x_4, ex_4, hf⟩ := nm_s hf
  refine w_eqi ex_4 ?_
  refine lv_istore (lv' := [(6, .int x_4), (5, .int x_2), (0, .ref h), (1, .int p1), (2, .int p2), (3, .int p3), (4, .int p4)]) hx hb dX3_canPairBoth_14 hl (by decide) rfl (fun ls hl => ?_)
  refine lv_aload_n hx hb dX3_canPairBoth_16 rfl (lv_at hl 2 rfl) ?_
  refine va_get (D := (dC, dI)) (ci := 3) (v := .ref h_met) (C := RX3) (T := TX3) (N := 5) hx hb hts iX3_canPairBoth_X3 hown hK hP 0 rfl rfl 1 (by decide) (hts _ mX3_canPairBoth_1) (fun _ h9 => h9) rfl dX3_canPairBoth_17 ?_
  refine lv_iload hx hb dX3_canPairBoth_20 (lv_at hl 1 rfl) ?_
  obtain ⟨hg_5, hf⟩ := ck_s hf
  refine va_iald (D := (dC, dI)) hx hb hK hP 1 0 rfl rfl (g_vp hg_5) dX3_canPairBoth_22 ?_
  refine lv_iload hx hb dX3_canPairBoth_23 (lv_at hl 0 rfl) ?_
  refine lv_ishr hx hb dX3_canPairBoth_25 ?_
  refine lv_iconst (v := 1) hx hb dX3_canPairBoth_26 (by decide) ?_
  refine lv_iand hx hb dX3_canPairBoth_27 ?_
  refine lv_iconst (v := 1) hx hb dX3_canPairBoth_28 (by decide) ?_
  refine lv_icmp_ne (tgt := 36) hx hb dX3_canPairBoth_29 (by decide) (fun c_6 => ?_) (fun c_6 => ?_)
  · have hf := it_f hf c_6
    refine lv_iconst (v := 0) hx hb dX3_canPairBoth_36 (by decide) ?_
    have hf : fX3_canPairBoth_b37 a_X3_canPair a_X3_canPairBoth v_length v_met v_row v_others p1 p2 p3 p4 x_2 x_4 0 = some (r0, n_others) := hf
    exact kX3_canPairBoth_37 ha_X3_canPair ha_X3_canPairBoth C0 hA hK v_others p1 p2 p3 p4 x_2 x_4 0 (Or.inl rfl) _ _ _ hf hP hD hS (lv_sub hl [2, 3, 4, 5, 6, 1, 0] rfl)
  · have hf := it_t hf c_6
    refine lv_iconst (v := 1) hx hb dX3_canPairBoth_32 (by decide) ?_
    refine lv_goto (tgt := 37) hx hb dX3_canPairBoth_33 (by decide) ?_
    have hf : fX3_canPairBoth_b37 a_X3_canPair a_X3_canPairBoth v_length v_met v_row v_others p1 p2 p3 p4 x_2 x_4 1 = some (r0, n_others) := hf
    exact kX3_canPairBoth_37 ha_X3_canPair ha_X3_canPairBoth C0 hA hK v_others p1 p2 p3 p4 x_2 x_4 1 (Or.inr rfl) _ _ _ hf hP hD hS (lv_sub hl [2, 3, 4, 5, 6, 1, 0] rfl)
set_option maxHeartbeats 4000000 in
theorem ogPair (l : Launch) (dC : Nat → ClassId) (dI : Nat → Nat → Nat) (cI cJ cZ cG : ClassId) : ∀ dep : Nat, (∀ (h h_strengths h_met h_row h_others : Nat) (v_length : Int32) (v_met : Nat → Int32) (v_row : Nat → Int32) (v_others : Nat → Int32) (sz : Nat) (p1 : Int32) (p2 : Int32) (r0 : Int32) (n_others : Nat → Int32) (hf : fX3_canPair dep v_length v_met v_row v_others p1 p2 = some (r0, n_others)), Met l yX3_canPair wsX3_canPair (rmPair dep) (wPc [.ref h, .int p1, .int p2] (dC, dI) (tysW cI cJ cZ cG) sz (wcX3_canPair cI cJ cZ cG h h_strengths h_met h_row h_others v_length v_met v_row v_others)) (wQz r0 (wcX3_canPair cI cJ cZ cG h h_strengths h_met h_row h_others v_length v_met v_row n_others) (dC, dI) (va_A (wcX3_canPair cI cJ cZ cG h h_strengths h_met h_row h_others v_length v_met v_row v_others) sz)) 0 0 (va_A (wcX3_canPair cI cJ cZ cG h h_strengths h_met h_row h_others v_length v_met v_row v_others) sz)) ∧ (∀ (h h_strengths h_met h_row h_others : Nat) (v_length : Int32) (v_met : Nat → Int32) (v_row : Nat → Int32) (v_others : Nat → Int32) (sz : Nat) (p1 : Int32) (p2 : Int32) (p3 : Int32) (p4 : Int32) (r0 : Int32) (n_others : Nat → Int32) (hf : fX3_canPairBoth dep v_length v_met v_row v_others p1 p2 p3 p4 = some (r0, n_others)), Met l yX3_canPairBoth wsX3_canPairBoth (rmPair dep) (wPc [.ref h, .int p1, .int p2, .int p3, .int p4] (dC, dI) (tysW cI cJ cZ cG) sz (wcX3_canPairBoth cI cJ cZ cG h h_strengths h_met h_row h_others v_length v_met v_row v_others)) (wQz r0 (wcX3_canPairBoth cI cJ cZ cG h h_strengths h_met h_row h_others v_length v_met v_row n_others) (dC, dI) (va_A (wcX3_canPairBoth cI cJ cZ cG h h_strengths h_met h_row h_others v_length v_met v_row v_others) sz)) 0 0 (va_A (wcX3_canPairBoth cI cJ cZ cG h h_strengths h_met h_row h_others v_length v_met v_row v_others) sz)) := by
  intro dep
  induction dep with
  | zero => exact ⟨(by intro h h_strengths h_met h_row h_others v_length v_met v_row v_others sz p1 p2 r0 n_others hf; exact absurd hf (by intro h9; cases h9)), (by intro h h_strengths h_met h_row h_others v_length v_met v_row v_others sz p1 p2 p3 p4 r0 n_others hf; exact absurd hf (by intro h9; cases h9))⟩
  | succ dep ih => exact ⟨fun h h_strengths h_met h_row h_others v_length v_met v_row v_others sz p1 p2 r0 n_others hf => oX3_canPair l dC dI cI cJ cZ cG ih.1 ih.2 h h_strengths h_met h_row h_others v_length v_met v_row v_others sz p1 p2 r0 n_others hf, fun h h_strengths h_met h_row h_others v_length v_met v_row v_others sz p1 p2 p3 p4 r0 n_others hf => oX3_canPairBoth l dC dI cI cJ cZ cG ih.1 ih.2 h h_strengths h_met h_row h_others v_length v_met v_row v_others sz p1 p2 p3 p4 r0 n_others hf⟩
abbrev rmX3_canPair_t : Room := { frames := 49, cells := 0, slots := 0, locals := 940 }
theorem otX3_canPair (l : Launch) (dC : Nat → ClassId) (dI : Nat → Nat → Nat) (cI cJ cZ cG : ClassId) (h h_strengths h_met h_row h_others : Nat) (v_length : Int32) (v_met : Nat → Int32) (v_row : Nat → Int32) (v_others : Nat → Int32) (sz : Nat) (p1 : Int32) (p2 : Int32) (r0 : Int32) (n_others : Nat → Int32) (hf : fX3_canPair 9 v_length v_met v_row v_others p1 p2 = some (r0, n_others)) : Met l yX3_canPair wsX3_canPair rmX3_canPair_t (wPc [.ref h, .int p1, .int p2] (dC, dI) (tysW cI cJ cZ cG) sz (wcX3_canPair cI cJ cZ cG h h_strengths h_met h_row h_others v_length v_met v_row v_others)) (wQz r0 (wcX3_canPair cI cJ cZ cG h h_strengths h_met h_row h_others v_length v_met v_row n_others) (dC, dI) (va_A (wcX3_canPair cI cJ cZ cG h h_strengths h_met h_row h_others v_length v_met v_row v_others) sz)) 0 0 (va_A (wcX3_canPair cI cJ cZ cG h h_strengths h_met h_row h_others v_length v_met v_row v_others) sz) := (ogPair l dC dI cI cJ cZ cG 9).1 h h_strengths h_met h_row h_others v_length v_met v_row v_others sz p1 p2 r0 n_others hf
abbrev rmX3_canPairBoth_t : Room := { frames := 49, cells := 0, slots := 0, locals := 940 }
theorem otX3_canPairBoth (l : Launch) (dC : Nat → ClassId) (dI : Nat → Nat → Nat) (cI cJ cZ cG : ClassId) (h h_strengths h_met h_row h_others : Nat) (v_length : Int32) (v_met : Nat → Int32) (v_row : Nat → Int32) (v_others : Nat → Int32) (sz : Nat) (p1 : Int32) (p2 : Int32) (p3 : Int32) (p4 : Int32) (r0 : Int32) (n_others : Nat → Int32) (hf : fX3_canPairBoth 9 v_length v_met v_row v_others p1 p2 p3 p4 = some (r0, n_others)) : Met l yX3_canPairBoth wsX3_canPairBoth rmX3_canPairBoth_t (wPc [.ref h, .int p1, .int p2, .int p3, .int p4] (dC, dI) (tysW cI cJ cZ cG) sz (wcX3_canPairBoth cI cJ cZ cG h h_strengths h_met h_row h_others v_length v_met v_row v_others)) (wQz r0 (wcX3_canPairBoth cI cJ cZ cG h h_strengths h_met h_row h_others v_length v_met v_row n_others) (dC, dI) (va_A (wcX3_canPairBoth cI cJ cZ cG h h_strengths h_met h_row h_others v_length v_met v_row v_others) sz)) 0 0 (va_A (wcX3_canPairBoth cI cJ cZ cG h h_strengths h_met h_row h_others v_length v_met v_row v_others) sz) := (ogPair l dC dI cI cJ cZ cG 9).2 h h_strengths h_met h_row h_others v_length v_met v_row v_others sz p1 p2 p3 p4 r0 n_others hf
