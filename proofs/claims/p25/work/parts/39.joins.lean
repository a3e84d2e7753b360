/-! printed by gen.py: joins -/
def rmJoin (dep : Nat) : Room := { frames := 40 + dep, cells := 0, slots := 0, locals := 400 + 60 * dep }
abbrev wcX7_joins (cI cJ cZ cG : ClassId) (h h_gives h_wants h_row : Nat) (v_givers : Int32) (v_gives : Nat → Int32) (v_wants : Nat → Int32) (v_row : Nat → Int32) : va_W := [(h, .inr (7, [.ref h_gives, .ref h_wants, .int v_givers, .ref h_row])), (h_gives, .inl (cI, 6, .inl v_gives)), (h_wants, .inl (cI, 6, .inl v_wants)), (h_row, .inl (cI, 6, .inl v_row))]
abbrev wcX7_isRing (cI cJ cZ cG : ClassId) (h h_gives h_wants h_row : Nat) (v_givers : Int32) (v_gives : Nat → Int32) (v_wants : Nat → Int32) (v_row : Nat → Int32) : va_W := [(h, .inr (7, [.ref h_gives, .ref h_wants, .int v_givers, .ref h_row])), (h_gives, .inl (cI, 6, .inl v_gives)), (h_wants, .inl (cI, 6, .inl v_wants)), (h_row, .inl (cI, 6, .inl v_row))]
theorem iX7_joins_X7 : ∀ w ∈ wsX70, w ∈ wsX7_joins := by decide +kernel
theorem mX7_joins_0 : (Cond.fieldLink RX7 18 "Sleevehall$Wishes" "row" "[I") ∈ wsX7_joins := by decide +kernel
set_option maxHeartbeats 4000000 in
set_option maxRecDepth 100000 in
theorem oX7_joins (l : Launch) (dC : Nat → ClassId) (dI : Nat → Nat → Nat) (cI cJ cZ cG : ClassId) {dep : Nat} {a_X7_joins : Int32 → (Nat → Int32) → (Nat → Int32) → (Nat → Int32) → Int32 → Int32 → Int32 → Option (Int32 × (Nat → Int32))} {a_X7_isRing : Int32 → (Nat → Int32) → (Nat → Int32) → (Nat → Int32) → Int32 → Int32 → Option (Int32 × (Nat → Int32))} (ha_X7_joins : ∀ (h h_gives h_wants h_row : Nat) (v_givers : Int32) (v_gives : Nat → Int32) (v_wants : Nat → Int32) (v_row : Nat → Int32) (sz : Nat) (p1 : Int32) (p2 : Int32) (p3 : Int32) (r0 : Int32) (n_row : Nat → Int32) (hf : a_X7_joins v_givers v_gives v_wants v_row p1 p2 p3 = some (r0, n_row)), Met l yX7_joins wsX7_joins (rmJoin dep) (wPc [.ref h, .int p1, .int p2, .int p3] (dC, dI) (tysW cI cJ cZ cG) sz (wcX7_joins cI cJ cZ cG h h_gives h_wants h_row v_givers v_gives v_wants v_row)) (wQz r0 (wcX7_joins cI cJ cZ cG h h_gives h_wants h_row v_givers v_gives v_wants n_row) (dC, dI) (va_A (wcX7_joins cI cJ cZ cG h h_gives h_wants h_row v_givers v_gives v_wants v_row) sz)) 0 0 (va_A (wcX7_joins cI cJ cZ cG h h_gives h_wants h_row v_givers v_gives v_wants v_row) sz)) (ha_X7_isRing : ∀ (h h_gives h_wants h_row : Nat) (v_givers : Int32) (v_gives : Nat → Int32) (v_wants : Nat → Int32) (v_row : Nat → Int32) (sz : Nat) (p1 : Int32) (p2 : Int32) (r0 : Int32) (n_row : Nat → Int32) (hf : a_X7_isRing v_givers v_gives v_wants v_row p1 p2 = some (r0, n_row)), Met l yX7_isRing wsX7_isRing (rmJoin dep) (wPc [.ref h, .int p1, .int p2] (dC, dI) (tysW cI cJ cZ cG) sz (wcX7_isRing cI cJ cZ cG h h_gives h_wants h_row v_givers v_gives v_wants v_row)) (wQz r0 (wcX7_isRing cI cJ cZ cG h h_gives h_wants h_row v_givers v_gives v_wants n_row) (dC, dI) (va_A (wcX7_isRing cI cJ cZ cG h h_gives h_wants h_row v_givers v_gives v_wants v_row) sz)) 0 0 (va_A (wcX7_isRing cI cJ cZ cG h h_gives h_wants h_row v_givers v_gives v_wants v_row) sz)) (h h_gives h_wants h_row : Nat) (v_givers : Int32) (v_gives : Nat → Int32) (v_wants : Nat → Int32) (v_row : Nat → Int32) (sz : Nat) (p1 : Int32) (p2 : Int32) (p3 : Int32) (r0 : Int32) (n_row : Nat → Int32) (hf : bX7_joins a_X7_joins a_X7_isRing v_givers v_gives v_wants v_row p1 p2 p3 = some (r0, n_row)) : Met l yX7_joins wsX7_joins (rmJoin (dep + 1)) (wPc [.ref h, .int p1, .int p2, .int p3] (dC, dI) (tysW cI cJ cZ cG) sz (wcX7_joins cI cJ cZ cG h h_gives h_wants h_row v_givers v_gives v_wants v_row)) (wQz r0 (wcX7_joins cI cJ cZ cG h h_gives h_wants h_row v_givers v_gives v_wants n_row) (dC, dI) (va_A (wcX7_joins cI cJ cZ cG h h_gives h_wants h_row v_givers v_gives v_wants v_row) sz)) 0 0 (va_A (wcX7_joins cI cJ cZ cG h h_gives h_wants h_row v_givers v_gives v_wants v_row) sz) := by
  refine Met.ofW (cc := cX7_joins) (maxL := 4) (ret := (some .boolean)) (by decide) rfl ?_
  intro p e s m args below meth c s₁ B hml hv
  obtain ⟨rfl, hsz, hP, hK, hD0⟩ := hv
  have hx := B.exec
  have hb := B.bytes
  have hr := B.returns
  have hts := atoms_spec (ws := wsX7_joins) B.pre
  have hown : s.vm.findClass RX7 = some m.cls := findClass_of_methodNamed B.named
  have hlocks := B.notSynchronized
  subst hsz
  have hD := hD0.self (sz := s.heap.size)
  generalize hAe : va_A (wcX7_joins cI cJ cZ cG h h_gives h_wants h_row v_givers v_gives v_wants v_row) s.heap.size = A at hD ⊢
  have hA : ∀ q : Nat, s.heap.size ≤ q → A q := fun q h => by rw [← hAe]; exact Or.inr h
  have hS : va_S A s.heap s.heap [] := va_S.rf
  have hP : va_P (dC, dI) vwCl (wcX7_joins cI cJ cZ cG h h_gives h_wants h_row v_givers v_gives v_wants v_row) s.heap := hP
  have hl := lv_entry ([.ref h, .int p1, .int p2, .int p3]) (n := 4) (Nat.le_of_ble_eq_true rfl)
  rw [lg_entry_eq]
  generalize (lg_sl ([.ref h, .int p1, .int p2, .int p3]) ++ List.replicate (4 - (lg_sl ([.ref h, .int p1, .int p2, .int p3])).length) Slot.unset).toArray = ls at hl ⊢
  have hl : lv_has ls 4 [(0, .ref h), (1, .int p1), (2, .int p2), (3, .int p3)] := hl
  generalize hH : s.heap = H at hP hS ⊢
  have hS : va_S A s.heap H [] := by rw [hH]; exact hS
  have C0 : wCX p s #[.ref h, .int p1, .int p2, .int p3] m meth c cX7_joins 4 (some .boolean) RX7 wsX7_joins := ⟨hx, hb, hr, hml, hown, hts, hlocks⟩
  show W p l e (rmJoin (dep + 1)) s m #[.ref h, .int p1, .int p2, .int p3] below meth c H [] 0 0 (MQ below (wQz r0 (wcX7_joins cI cJ cZ cG h h_gives h_wants h_row v_givers v_gives v_wants n_row) (dC, dI) A) #[.ref h, .int p1, .int p2, .int p3] s 0 0 A) (F0 m 0 ls [])
  unfold bX7_joins at hf
  refine lv_iload_n hx hb dX7_joins_0 rfl (lv_at hl 2 rfl) ?_
  refine lv_bipush (v := 6) hx hb dX7_joins_1 (by decide) ?_
  refine lv_icmp_lt (tgt := 8) hx hb dX7_joins_3 (by decide) (fun c_1 => ?_) (fun c_1 => ?_)
  · have hf := it_t hf c_1
    refine lv_aload_n hx hb dX7_joins_8 rfl (lv_at hl 0 rfl) ?_
    refine va_get (D := (dC, dI)) (ci := 7) (v := .ref h_row) (C := RX7) (T := TX7) (N := 4) hx hb hts iX7_joins_X7 hown hK hP 0 rfl rfl 3 (by decide) (hts _ mX7_joins_0) (fun _ h9 => h9) rfl dX7_joins_9 ?_
    refine lv_iload_n hx hb dX7_joins_12 rfl (lv_at hl 2 rfl) ?_
    refine lv_iload_n hx hb dX7_joins_13 rfl (lv_at hl 1 rfl) ?_
    obtain ⟨hg_2, hf⟩ := ck_s hf
    refine va_iast (D := (dC, dI)) hx hb hK hP hD hS 3 0 rfl rfl (g_vp hg_2) dX7_joins_14 (fun H locs hP hD hS => ?_)
    have hP : va_P (dC, dI) vwCl (wcX7_joins cI cJ cZ cG h h_gives h_wants h_row v_givers v_gives v_wants (upd v_row p2.toNatClampNeg p1)) H := hP
    have hD : va_D A (wcX7_joins cI cJ cZ cG h h_gives h_wants h_row v_givers v_gives v_wants (upd v_row p2.toNatClampNeg p1)) := hD
    refine lv_aload_n hx hb dX7_joins_15 rfl (lv_at hl 0 rfl) ?_
    refine lv_iload_n hx hb dX7_joins_16 rfl (lv_at hl 2 rfl) ?_
    refine lv_iconst (v := 1) hx hb dX7_joins_17 (by decide) ?_
    refine lv_iadd hx hb dX7_joins_18 ?_
    refine lv_iload_n hx hb dX7_joins_19 rfl (lv_at hl 3 rfl) ?_
    obtain ⟨⟨r_3, w_4⟩, hc_5, hf⟩ := ob_s hf
    refine w_callVz (As := [.int (p2 + 1), .int p3]) (rest := []) (wr := List.filterMap (fun i : Nat => (wcX7_joins cI cJ cZ cG h h_gives h_wants h_row v_givers v_gives v_wants (upd v_row p2.toNatClampNeg p1))[i]?) []) (ws1 := (wcX7_joins cI cJ cZ cG h h_gives h_wants h_row v_givers v_gives v_wants w_4)) ⟨hx, hb, hml, hown, hts⟩ (ha_X7_isRing h h_gives h_wants h_row v_givers v_gives v_wants (upd v_row p2.toNatClampNeg p1) H.size (p2 + 1) p3 r_3 w_4 hc_5) (cwV 2 hts gX7_joins_X7_isRing rfl rfl rfl (by decide +kernel) ⟨Nat.le_refl _, (by show 8 + _ + (400 + 60 * dep) ≤ 400 + 60 * (dep + 1); omega)⟩) hK 0 7 rfl rfl rfl hP hD hS hA [0, 1, 2, 3] [] [0, 1, 2, 3] rfl rfl rfl rfl (by decide) rfl rfl rfl hl.1 rfl (Nat.le_of_ble_eq_true rfl) dX7_joins_20 ⟨Nat.le_refl _, Nat.le_refl _⟩ (fun hz_6 H locs hP hD hS => ?_)
    have hf : some (r_3, w_4) = some (r0, n_row) := hf
    cases hf
    exact w_zret hx hb hr hlocks rfl hz_6 hP hD hS dX7_joins_23
  · have hf := it_f hf c_1
    refine lv_iconst (v := 0) hx hb dX7_joins_6 (by decide) ?_
    have hf : some (0, v_row) = some (r0, n_row) := hf
    cases hf
    exact w_zret hx hb hr hlocks rfl (Or.inl rfl) hP hD hS dX7_joins_7
theorem iX7_isRing_X7 : ∀ w ∈ wsX70, w ∈ wsX7_isRing := by decide +kernel
theorem mX7_isRing_0 : (Cond.fieldLink RX7 18 "Sleevehall$Wishes" "row" "[I") ∈ wsX7_isRing := by decide +kernel
theorem mX7_isRing_1 : (Cond.fieldLink RX7 9 "Sleevehall$Wishes" "gives" "[I") ∈ wsX7_isRing := by decide +kernel
theorem mX7_isRing_2 : (Cond.fieldLink RX7 15 "Sleevehall$Wishes" "wants" "[I") ∈ wsX7_isRing := by decide +kernel
set_option maxHeartbeats 4000000 in
set_option maxRecDepth 100000 in
theorem kX7_isRing_39 {p : Program} {l : Launch} {e : Env} {s : State} {m : MethodId} {args : Array Value} {below : List Frame} {meth : Method} {c : Code} {dC : Nat → ClassId} {dI : Nat → Nat → Nat} {A : Nat → Prop} {cI cJ cZ cG : ClassId} {dep : Nat} {a_X7_joins : Int32 → (Nat → Int32) → (Nat → Int32) → (Nat → Int32) → Int32 → Int32 → Int32 → Option (Int32 × (Nat → Int32))} {a_X7_isRing : Int32 → (Nat → Int32) → (Nat → Int32) → (Nat → Int32) → Int32 → Int32 → Option (Int32 × (Nat → Int32))} {h h_gives h_wants h_row : Nat} {v_givers : Int32} {v_gives : Nat → Int32} {v_wants : Nat → Int32} {r0 : Int32} {n_row : Nat → Int32} (ha_X7_joins : ∀ (h h_gives h_wants h_row : Nat) (v_givers : Int32) (v_gives : Nat → Int32) (v_wants : Nat → Int32) (v_row : Nat → Int32) (sz : Nat) (p1 : Int32) (p2 : Int32) (p3 : Int32) (r0 : Int32) (n_row : Nat → Int32) (hf : a_X7_joins v_givers v_gives v_wants v_row p1 p2 p3 = some (r0, n_row)), Met l yX7_joins wsX7_joins (rmJoin dep) (wPc [.ref h, .int p1, .int p2, .int p3] (dC, dI) (tysW cI cJ cZ cG) sz (wcX7_joins cI cJ cZ cG h h_gives h_wants h_row v_givers v_gives v_wants v_row)) (wQz r0 (wcX7_joins cI cJ cZ cG h h_gives h_wants h_row v_givers v_gives v_wants n_row) (dC, dI) (va_A (wcX7_joins cI cJ cZ cG h h_gives h_wants h_row v_givers v_gives v_wants v_row) sz)) 0 0 (va_A (wcX7_joins cI cJ cZ cG h h_gives h_wants h_row v_givers v_gives v_wants v_row) sz)) (ha_X7_isRing : ∀ (h h_gives h_wants h_row : Nat) (v_givers : Int32) (v_gives : Nat → Int32) (v_wants : Nat → Int32) (v_row : Nat → Int32) (sz : Nat) (p1 : Int32) (p2 : Int32) (r0 : Int32) (n_row : Nat → Int32) (hf : a_X7_isRing v_givers v_gives v_wants v_row p1 p2 = some (r0, n_row)), Met l yX7_isRing wsX7_isRing (rmJoin dep) (wPc [.ref h, .int p1, .int p2] (dC, dI) (tysW cI cJ cZ cG) sz (wcX7_isRing cI cJ cZ cG h h_gives h_wants h_row v_givers v_gives v_wants v_row)) (wQz r0 (wcX7_isRing cI cJ cZ cG h h_gives h_wants h_row v_givers v_gives v_wants n_row) (dC, dI) (va_A (wcX7_isRing cI cJ cZ cG h h_gives h_wants h_row v_givers v_gives v_wants v_row) sz)) 0 0 (va_A (wcX7_isRing cI cJ cZ cG h h_gives h_wants h_row v_givers v_gives v_wants v_row) sz)) (C0 : wCX p s args m meth c cX7_isRing 6 (some .boolean) RX7 wsX7_isRing) (hA : ∀ q, s.heap.size ≤ q → A q) (hK : va_K (dC, dI) vwCl (tysW cI cJ cZ cG) s) : ∀ (v_row : Nat → Int32) (s0 : Int32) (hz_s0 : wB s0) (H : Heap) (locs : List Loc) (ls : Array Slot), fX7_isRing_b39 a_X7_joins a_X7_isRing v_givers v_gives v_wants v_row s0 = some (r0, n_row) → va_P (dC, dI) vwCl (wcX7_isRing cI cJ cZ cG h h_gives h_wants h_row v_givers v_gives v_wants v_row) H → va_D A (wcX7_isRing cI cJ cZ cG h h_gives h_wants h_row v_givers v_gives v_wants v_row) → va_S A s.heap H locs → lv_has ls 6 [] → W p l e (rmJoin (dep + 1)) s m args below meth c H locs 0 0 (MQ below (wQz r0 (wcX7_isRing cI cJ cZ cG h h_gives h_wants h_row v_givers v_gives v_wants n_row) (dC, dI) A) args s 0 0 A) (F0 m 39 ls [.int s0]) := by
  obtain ⟨hx, hb, hr, hml, hown, hts, hlocks⟩ := id C0
  intro v_row s0 hz_s0 H locs ls hf hP hD hS hl
  unfold fX7_isRing_b39 at hf
  have hf : some (s0, v_row) = some (r0, n_row) := hf
  cases hf
  exact w_zret hx hb hr hlocks rfl hz_s0 hP hD hS dX7_isRing_39
set_option maxHeartbeats 4000000 in
set_option maxRecDepth 100000 in
theorem kX7_isRing_117 {p : Program} {l : Launch} {e : Env} {s : State} {m : MethodId} {args : Array Value} {below : List Frame} {meth : Method} {c : Code} {dC : Nat → ClassId} {dI : Nat → Nat → Nat} {A : Nat → Prop} {cI cJ cZ cG : ClassId} {dep : Nat} {a_X7_joins : Int32 → (Nat → Int32) → (Nat → Int32) → (Nat → Int32) → Int32 → Int32 → Int32 → Option (Int32 × (Nat → Int32))} {a_X7_isRing : Int32 → (Nat → Int32) → (Nat → Int32) → (Nat → Int32) → Int32 → Int32 → Option (Int32 × (Nat → Int32))} {h h_gives h_wants h_row : Nat} {v_givers : Int32} {v_gives : Nat → Int32} {v_wants : Nat → Int32} {r0 : Int32} {n_row : Nat → Int32} {k_50 : (Nat → Int32) → Int32 → Int32 → Int32 → Int32 → Option (Int32 × (Nat → Int32))} (ha_X7_joins : ∀ (h h_gives h_wants h_row : Nat) (v_givers : Int32) (v_gives : Nat → Int32) (v_wants : Nat → Int32) (v_row : Nat → Int32) (sz : Nat) (p1 : Int32) (p2 : Int32) (p3 : Int32) (r0 : Int32) (n_row : Nat → Int32) (hf : a_X7_joins v_givers v_gives v_wants v_row p1 p2 p3 = some (r0, n_row)), Met l yX7_joins wsX7_joins (rmJoin dep) (wPc [.ref h, .int p1, .int p2, .int p3] (dC, dI) (tysW cI cJ cZ cG) sz (wcX7_joins cI cJ cZ cG h h_gives h_wants h_row v_givers v_gives v_wants v_row)) (wQz r0 (wcX7_joins cI cJ cZ cG h h_gives h_wants h_row v_givers v_gives v_wants n_row) (dC, dI) (va_A (wcX7_joins cI cJ cZ cG h h_gives h_wants h_row v_givers v_gives v_wants v_row) sz)) 0 0 (va_A (wcX7_joins cI cJ cZ cG h h_gives h_wants h_row v_givers v_gives v_wants v_row) sz)) (ha_X7_isRing : ∀ (h h_gives h_wants h_row : Nat) (v_givers : Int32) (v_gives : Nat → Int32) (v_wants : Nat → Int32) (v_row : Nat → Int32) (sz : Nat) (p1 : Int32) (p2 : Int32) (r0 : Int32) (n_row : Nat → Int32) (hf : a_X7_isRing v_givers v_gives v_wants v_row p1 p2 = some (r0, n_row)), Met l yX7_isRing wsX7_isRing (rmJoin dep) (wPc [.ref h, .int p1, .int p2] (dC, dI) (tysW cI cJ cZ cG) sz (wcX7_isRing cI cJ cZ cG h h_gives h_wants h_row v_givers v_gives v_wants v_row)) (wQz r0 (wcX7_isRing cI cJ cZ cG h h_gives h_wants h_row v_givers v_gives v_wants n_row) (dC, dI) (va_A (wcX7_isRing cI cJ cZ cG h h_gives h_wants h_row v_givers v_gives v_wants v_row) sz)) 0 0 (va_A (wcX7_isRing cI cJ cZ cG h h_gives h_wants h_row v_givers v_gives v_wants v_row) sz)) (C0 : wCX p s args m meth c cX7_isRing 6 (some .boolean) RX7 wsX7_isRing) (hA : ∀ q, s.heap.size ≤ q → A q) (hK : va_K (dC, dI) vwCl (tysW cI cJ cZ cG) s) (hk_50 : ∀ (v_row : Nat → Int32) (l1 : Int32) (l2 : Int32) (l3 : Int32) (l4 : Int32) (H : Heap) (locs : List Loc) (ls : Array Slot), k_50 v_row l1 l2 l3 l4 = some (r0, n_row) → va_P (dC, dI) vwCl (wcX7_isRing cI cJ cZ cG h h_gives h_wants h_row v_givers v_gives v_wants v_row) H → va_D A (wcX7_isRing cI cJ cZ cG h h_gives h_wants h_row v_givers v_gives v_wants v_row) → va_S A s.heap H locs → lv_has ls 6 [(0, .ref h), (1, .int l1), (2, .int l2), (3, .int l3), (4, .int l4)] → W p l e (rmJoin (dep + 1)) s m args below meth c H locs 0 0 (MQ below (wQz r0 (wcX7_isRing cI cJ cZ cG h h_gives h_wants h_row v_givers v_gives v_wants n_row) (dC, dI) A) args s 0 0 A) (F0 m 50 ls [])) : ∀ (v_row : Nat → Int32) (l1 : Int32) (l2 : Int32) (l3 : Int32) (l4 : Int32) (H : Heap) (locs : List Loc) (ls : Array Slot), fX7_isRing_b117 a_X7_joins a_X7_isRing k_50 v_givers v_gives v_wants v_row l1 l2 l3 l4 = some (r0, n_row) → va_P (dC, dI) vwCl (wcX7_isRing cI cJ cZ cG h h_gives h_wants h_row v_givers v_gives v_wants v_row) H → va_D A (wcX7_isRing cI cJ cZ cG h h_gives h_wants h_row v_givers v_gives v_wants v_row) → va_S A s.heap H locs → lv_has ls 6 [(0, .ref h), (1, .int l1), (2, .int l2), (3, .int l3), (4, .int l4)] → W p l e (rmJoin (dep + 1)) s m args below meth c H locs 0 0 (MQ below (wQz r0 (wcX7_isRing cI cJ cZ cG h h_gives h_wants h_row v_givers v_gives v_wants n_row) (dC, dI) A) args s 0 0 A) (F0 m 117 ls []) := by
  obtain ⟨hx, hb, hr, hml, hown, hts, hlocks⟩ := id C0
  intro v_row l1 l2 l3 l4 H locs ls hf hP hD hS hl
  unfold fX7_isRing_b117 at hf
  obtain ⟨x_1, ex_1, hf⟩ := nm_s hf
  refine lv_iinc (v := x_1) (lv' := [(4, .int x_1), (0, .ref h), (1, .int l1), (2, .int l2), (3, .int l3)]) hx hb dX7_isRing_117 hl (k := 4) rfl (by rw [ex_1]; rfl) (by decide) rfl (fun ls hl => ?_)
  refine lv_goto (tgt := 50) hx hb dX7_isRing_120 (by decide) ?_
  have hf : k_50 v_row l1 l2 l3 x_1 = some (r0, n_row) := hf
  exact hk_50 v_row l1 l2 l3 x_1 _ _ _ hf hP hD hS (lv_sub hl [1, 2, 3, 4, 0] rfl)
set_option maxHeartbeats 4000000 in
set_option maxRecDepth 100000 in
theorem kX7_isRing_97 {p : Program} {l : Launch} {e : Env} {s : State} {m : MethodId} {args : Array Value} {below : List Frame} {meth : Method} {c : Code} {dC : Nat → ClassId} {dI : Nat → Nat → Nat} {A : Nat → Prop} {cI cJ cZ cG : ClassId} {dep : Nat} {a_X7_joins : Int32 → (Nat → Int32) → (Nat → Int32) → (Nat → Int32) → Int32 → Int32 → Int32 → Option (Int32 × (Nat → Int32))} {a_X7_isRing : Int32 → (Nat → Int32) → (Nat → Int32) → (Nat → Int32) → Int32 → Int32 → Option (Int32 × (Nat → Int32))} {h h_gives h_wants h_row : Nat} {v_givers : Int32} {v_gives : Nat → Int32} {v_wants : Nat → Int32} {r0 : Int32} {n_row : Nat → Int32} {k_50 : (Nat → Int32) → Int32 → Int32 → Int32 → Int32 → Option (Int32 × (Nat → Int32))} (ha_X7_joins : ∀ (h h_gives h_wants h_row : Nat) (v_givers : Int32) (v_gives : Nat → Int32) (v_wants : Nat → Int32) (v_row : Nat → Int32) (sz : Nat) (p1 : Int32) (p2 : Int32) (p3 : Int32) (r0 : Int32) (n_row : Nat → Int32) (hf : a_X7_joins v_givers v_gives v_wants v_row p1 p2 p3 = some (r0, n_row)), Met l yX7_joins wsX7_joins (rmJoin dep) (wPc [.ref h, .int p1, .int p2, .int p3] (dC, dI) (tysW cI cJ cZ cG) sz (wcX7_joins cI cJ cZ cG h h_gives h_wants h_row v_givers v_gives v_wants v_row)) (wQz r0 (wcX7_joins cI cJ cZ cG h h_gives h_wants h_row v_givers v_gives v_wants n_row) (dC, dI) (va_A (wcX7_joins cI cJ cZ cG h h_gives h_wants h_row v_givers v_gives v_wants v_row) sz)) 0 0 (va_A (wcX7_joins cI cJ cZ cG h h_gives h_wants h_row v_givers v_gives v_wants v_row) sz)) (ha_X7_isRing : ∀ (h h_gives h_wants h_row : Nat) (v_givers : Int32) (v_gives : Nat → Int32) (v_wants : Nat → Int32) (v_row : Nat → Int32) (sz : Nat) (p1 : Int32) (p2 : Int32) (r0 : Int32) (n_row : Nat → Int32) (hf : a_X7_isRing v_givers v_gives v_wants v_row p1 p2 = some (r0, n_row)), Met l yX7_isRing wsX7_isRing (rmJoin dep) (wPc [.ref h, .int p1, .int p2] (dC, dI) (tysW cI cJ cZ cG) sz (wcX7_isRing cI cJ cZ cG h h_gives h_wants h_row v_givers v_gives v_wants v_row)) (wQz r0 (wcX7_isRing cI cJ cZ cG h h_gives h_wants h_row v_givers v_gives v_wants n_row) (dC, dI) (va_A (wcX7_isRing cI cJ cZ cG h h_gives h_wants h_row v_givers v_gives v_wants v_row) sz)) 0 0 (va_A (wcX7_isRing cI cJ cZ cG h h_gives h_wants h_row v_givers v_gives v_wants v_row) sz)) (C0 : wCX p s args m meth c cX7_isRing 6 (some .boolean) RX7 wsX7_isRing) (hA : ∀ q, s.heap.size ≤ q → A q) (hK : va_K (dC, dI) vwCl (tysW cI cJ cZ cG) s) (hk_50 : ∀ (v_row : Nat → Int32) (l1 : Int32) (l2 : Int32) (l3 : Int32) (l4 : Int32) (H : Heap) (locs : List Loc) (ls : Array Slot), k_50 v_row l1 l2 l3 l4 = some (r0, n_row) → va_P (dC, dI) vwCl (wcX7_isRing cI cJ cZ cG h h_gives h_wants h_row v_givers v_gives v_wants v_row) H → va_D A (wcX7_isRing cI cJ cZ cG h h_gives h_wants h_row v_givers v_gives v_wants v_row) → va_S A s.heap H locs → lv_has ls 6 [(0, .ref h), (1, .int l1), (2, .int l2), (3, .int l3), (4, .int l4)] → W p l e (rmJoin (dep + 1)) s m args below meth c H locs 0 0 (MQ below (wQz r0 (wcX7_isRing cI cJ cZ cG h h_gives h_wants h_row v_givers v_gives v_wants n_row) (dC, dI) A) args s 0 0 A) (F0 m 50 ls [])) : ∀ (v_row : Nat → Int32) (l1 : Int32) (l2 : Int32) (l3 : Int32) (l4 : Int32) (s0 : Int32) (hz_s0 : wB s0) (H : Heap) (locs : List Loc) (ls : Array Slot), fX7_isRing_b97 a_X7_joins a_X7_isRing k_50 v_givers v_gives v_wants v_row l1 l2 l3 l4 s0 = some (r0, n_row) → va_P (dC, dI) vwCl (wcX7_isRing cI cJ cZ cG h h_gives h_wants h_row v_givers v_gives v_wants v_row) H → va_D A (wcX7_isRing cI cJ cZ cG h h_gives h_wants h_row v_givers v_gives v_wants v_row) → va_S A s.heap H locs → lv_has ls 6 [(0, .ref h), (1, .int l1), (2, .int l2), (3, .int l3), (4, .int l4)] → W p l e (rmJoin (dep + 1)) s m args below meth c H locs 0 0 (MQ below (wQz r0 (wcX7_isRing cI cJ cZ cG h h_gives h_wants h_row v_givers v_gives v_wants n_row) (dC, dI) A) args s 0 0 A) (F0 m 97 ls [.int s0]) := by
  obtain ⟨hx, hb, hr, hml, hown, hts, hlocks⟩ := id C0
  intro v_row l1 l2 l3 l4 s0 hz_s0 H locs ls hf hP hD hS hl
  unfold fX7_isRing_b97 at hf
  refine lv_istore (lv' := [(5, .int s0), (0, .ref h), (1, .int l1), (2, .int l2), (3, .int l3), (4, .int l4)]) hx hb dX7_isRing_97 hl (by decide) rfl (fun ls hl => ?_)
  refine lv_iload hx hb dX7_isRing_99 (lv_at hl 0 rfl) ?_
  refine lv_if_eq (tgt := 117) hx hb dX7_isRing_101 (by decide) (fun c_1 => ?_) (fun c_1 => ?_)
  · have hf := it_t hf c_1
    have hf : fX7_isRing_b117 a_X7_joins a_X7_isRing k_50 v_givers v_gives v_wants v_row l1 l2 l3 l4 = some (r0, n_row) := hf
    exact kX7_isRing_117 ha_X7_joins ha_X7_isRing C0 hA hK hk_50 v_row l1 l2 l3 l4 _ _ _ hf hP hD hS (lv_sub hl [1, 2, 3, 4, 5] rfl)
  · have hf := it_f hf c_1
    refine lv_aload_n hx hb dX7_isRing_104 rfl (lv_at hl 1 rfl) ?_
    refine lv_iload hx hb dX7_isRing_105 (lv_at hl 5 rfl) ?_
    refine lv_iload_n hx hb dX7_isRing_107 rfl (lv_at hl 2 rfl) ?_
    refine lv_iload_n hx hb dX7_isRing_108 rfl (lv_at hl 3 rfl) ?_
    obtain ⟨⟨r_2, w_3⟩, hc_4, hf⟩ := ob_s hf
    refine w_callVz (As := [.int l4, .int l1, .int l2]) (rest := []) (wr := List.filterMap (fun i : Nat => (wcX7_isRing cI cJ cZ cG h h_gives h_wants h_row v_givers v_gives v_wants v_row)[i]?) []) (ws1 := (wcX7_isRing cI cJ cZ cG h h_gives h_wants h_row v_givers v_gives v_wants w_3)) ⟨hx, hb, hml, hown, hts⟩ (ha_X7_joins h h_gives h_wants h_row v_givers v_gives v_wants v_row H.size l4 l1 l2 r_2 w_3 hc_4) (cwV 3 hts gX7_isRing_X7_joins rfl rfl rfl (by decide +kernel) ⟨Nat.le_refl _, (by show 8 + _ + (400 + 60 * dep) ≤ 400 + 60 * (dep + 1); omega)⟩) hK 0 7 rfl rfl rfl hP hD hS hA [0, 1, 2, 3] [] [0, 1, 2, 3] rfl rfl rfl rfl (by decide) rfl rfl rfl hl.1 rfl (Nat.le_of_ble_eq_true rfl) dX7_isRing_109 ⟨Nat.le_refl _, Nat.le_refl _⟩ (fun hz_5 H locs hP hD hS => ?_)
    refine lv_if_eq (tgt := 117) hx hb dX7_isRing_112 (by decide) (fun c_6 => ?_) (fun c_6 => ?_)
    · have hf := it_t hf c_6
      have hf : fX7_isRing_b117 a_X7_joins a_X7_isRing k_50 v_givers v_gives v_wants w_3 l1 l2 l3 l4 = some (r0, n_row) := hf
      exact kX7_isRing_117 ha_X7_joins ha_X7_isRing C0 hA hK hk_50 w_3 l1 l2 l3 l4 _ _ _ hf hP hD hS (lv_sub hl [1, 2, 3, 4, 5] rfl)
    · have hf := it_f hf c_6
      refine lv_iconst (v := 1) hx hb dX7_isRing_115 (by decide) ?_
      have hf : some (1, w_3) = some (r0, n_row) := hf
      cases hf
      exact w_zret hx hb hr hlocks rfl (Or.inr rfl) hP hD hS dX7_isRing_116
set_option maxHeartbeats 4000000 in
set_option maxRecDepth 100000 in
theorem kX7_isRing_96 {p : Program} {l : Launch} {e : Env} {s : State} {m : MethodId} {args : Array Value} {below : List Frame} {meth : Method} {c : Code} {dC : Nat → ClassId} {dI : Nat → Nat → Nat} {A : Nat → Prop} {cI cJ cZ cG : ClassId} {dep : Nat} {a_X7_joins : Int32 → (Nat → Int32) → (Nat → Int32) → (Nat → Int32) → Int32 → Int32 → Int32 → Option (Int32 × (Nat → Int32))} {a_X7_isRing : Int32 → (Nat → Int32) → (Nat → Int32) → (Nat → Int32) → Int32 → Int32 → Option (Int32 × (Nat → Int32))} {h h_gives h_wants h_row : Nat} {v_givers : Int32} {v_gives : Nat → Int32} {v_wants : Nat → Int32} {r0 : Int32} {n_row : Nat → Int32} {k_50 : (Nat → Int32) → Int32 → Int32 → Int32 → Int32 → Option (Int32 × (Nat → Int32))} (ha_X7_joins : ∀ (h h_gives h_wants h_row : Nat) (v_givers : Int32) (v_gives : Nat → Int32) (v_wants : Nat → Int32) (v_row : Nat → Int32) (sz : Nat) (p1 : Int32) (p2 : Int32) (p3 : Int32) (r0 : Int32) (n_row : Nat → Int32) (hf : a_X7_joins v_givers v_gives v_wants v_row p1 p2 p3 = some (r0, n_row)), Met l yX7_joins wsX7_joins (rmJoin dep) (wPc [.ref h, .int p1, .int p2, .int p3] (dC, dI) (tysW cI cJ cZ cG) sz (wcX7_joins cI cJ cZ cG h h_gives h_wants h_row v_givers v_gives v_wants v_row)) (wQz r0 (wcX7_joins cI cJ cZ cG h h_gives h_wants h_row v_givers v_gives v_wants n_row) (dC, dI) (va_A (wcX7_joins cI cJ cZ cG h h_gives h_wants h_row v_givers v_gives v_wants v_row) sz)) 0 0 (va_A (wcX7_joins cI cJ cZ cG h h_gives h_wants h_row v_givers v_gives v_wants v_row) sz)) (ha_X7_isRing : ∀ (h h_gives h_wants h_row : Nat) (v_givers : Int32) (v_gives : Nat → Int32) (v_wants : Nat → Int32) (v_row : Nat → Int32) (sz : Nat) (p1 : Int32) (p2 : Int32) (r0 : Int32) (n_row : Nat → Int32) (hf : a_X7_isRing v_givers v_gives v_wants v_row p1 p2 = some (r0, n_row)), Met l yX7_isRing wsX7_isRing (rmJoin dep) (wPc [.ref h, .int p1, .int p2] (dC, dI) (tysW cI cJ cZ cG) sz (wcX7_isRing cI cJ cZ cG h h_gives h_wants h_row v_givers v_gives v_wants v_row)) (wQz r0 (wcX7_isRing cI cJ cZ cG h h_gives h_wants h_row v_givers v_gives v_wants n_row) (dC, dI) (va_A (wcX7_isRing cI cJ cZ cG h h_gives h_wants h_row v_givers v_gives v_wants v_row) sz)) 0 0 (va_A (wcX7_isRing cI cJ cZ cG h h_gives h_wants h_row v_givers v_gives v_wants v_row) sz)) (C0 : wCX p s args m meth c cX7_isRing 6 (some .boolean) RX7 wsX7_isRing) (hA : ∀ q, s.heap.size ≤ q → A q) (hK : va_K (dC, dI) vwCl (tysW cI cJ cZ cG) s) (hk_50 : ∀ (v_row : Nat → Int32) (l1 : Int32) (l2 : Int32) (l3 : Int32) (l4 : Int32) (H : Heap) (locs : List Loc) (ls : Array Slot), k_50 v_row l1 l2 l3 l4 = some (r0, n_row) → va_P (dC, dI) vwCl (wcX7_isRing cI cJ cZ cG h h_gives h_wants h_row v_givers v_gives v_wants v_row) H → va_D A (wcX7_isRing cI cJ cZ cG h h_gives h_wants h_row v_givers v_gives v_wants v_row) → va_S A s.heap H locs → lv_has ls 6 [(0, .ref h), (1, .int l1), (2, .int l2), (3, .int l3), (4, .int l4)] → W p l e (rmJoin (dep + 1)) s m args below meth c H locs 0 0 (MQ below (wQz r0 (wcX7_isRing cI cJ cZ cG h h_gives h_wants h_row v_givers v_gives v_wants n_row) (dC, dI) A) args s 0 0 A) (F0 m 50 ls [])) : ∀ (v_row : Nat → Int32) (l1 : Int32) (l2 : Int32) (l3 : Int32) (l4 : Int32) (H : Heap) (locs : List Loc) (ls : Array Slot), fX7_isRing_b96 a_X7_joins a_X7_isRing k_50 v_givers v_gives v_wants v_row l1 l2 l3 l4 = some (r0, n_row) → va_P (dC, dI) vwCl (wcX7_isRing cI cJ cZ cG h h_gives h_wants h_row v_givers v_gives v_wants v_row) H → va_D A (wcX7_isRing cI cJ cZ cG h h_gives h_wants h_row v_givers v_gives v_wants v_row) → va_S A s.heap H locs → lv_has ls 6 [(0, .ref h), (1, .int l1), (2, .int l2), (3, .int l3), (4, .int l4)] → W p l e (rmJoin (dep + 1)) s m args below meth c H locs 0 0 (MQ below (wQz r0 (wcX7_isRing cI cJ cZ cG h h_gives h_wants h_row v_givers v_gives v_wants n_row) (dC, dI) A) args s 0 0 A) (F0 m 96 ls []) := by
  obtain ⟨hx, hb, hr, hml, hown, hts, hlocks⟩ := id C0
  intro v_row l1 l2 l3 l4 H locs ls hf hP hD hS hl
  unfold fX7_isRing_b96 at hf
  refine lv_iconst (v := 0) hx hb dX7_isRing_96 (by decide) ?_
  have hf : fX7_isRing_b97 a_X7_joins a_X7_isRing k_50 v_givers v_gives v_wants v_row l1 l2 l3 l4 0 = some (r0, n_row) := hf
  exact kX7_isRing_97 ha_X7_joins ha_X7_isRing C0 hA hK hk_50 v_row l1 l2 l3 l4 0 (Or.inl rfl) _ _ _ hf hP hD hS (lv_sub hl [0, 1, 2, 3, 4] rfl)
set_option maxHeartbeats 4000000 in
set_option maxRecDepth 100000 in
theorem kX7_isRing_50 {p : Program} {l : Launch} {e : Env} {s : State} {m : MethodId} {args : Array Value} {below : List Frame} {meth : Method} {c : Code} {dC : Nat → ClassId} {dI : Nat → Nat → Nat} {A : Nat → Prop} {cI cJ cZ cG : ClassId} {dep : Nat} {a_X7_joins : Int32 → (Nat → Int32) → (Nat → Int32) → (Nat → Int32) → Int32 → Int32 → Int32 → Option (Int32 × (Nat → Int32))} {a_X7_isRing : Int32 → (Nat → Int32) → (Nat → Int32) → (Nat → Int32) → Int32 → Int32 → Option (Int32 × (Nat → Int32))} {h h_gives h_wants h_row : Nat} {v_givers : Int32} {v_gives : Nat → Int32} {v_wants : Nat → Int32} {r0 : Int32} {n_row : Nat → Int32} (ha_X7_joins : ∀ (h h_gives h_wants h_row : Nat) (v_givers : Int32) (v_gives : Nat → Int32) (v_wants : Nat → Int32) (v_row : Nat → Int32) (sz : Nat) (p1 : Int32) (p2 : Int32) (p3 : Int32) (r0 : Int32) (n_row : Nat → Int32) (hf : a_X7_joins v_givers v_gives v_wants v_row p1 p2 p3 = some (r0, n_row)), Met l yX7_joins wsX7_joins (rmJoin dep) (wPc [.ref h, .int p1, .int p2, .int p3] (dC, dI) (tysW cI cJ cZ cG) sz (wcX7_joins cI cJ cZ cG h h_gives h_wants h_row v_givers v_gives v_wants v_row)) (wQz r0 (wcX7_joins cI cJ cZ cG h h_gives h_wants h_row v_givers v_gives v_wants n_row) (dC, dI) (va_A (wcX7_joins cI cJ cZ cG h h_gives h_wants h_row v_givers v_gives v_wants v_row) sz)) 0 0 (va_A (wcX7_joins cI cJ cZ cG h h_gives h_wants h_row v_givers v_gives v_wants v_row) sz)) (ha_X7_isRing : ∀ (h h_gives h_wants h_row : Nat) (v_givers : Int32) (v_gives : Nat → Int32) (v_wants : Nat → Int32) (v_row : Nat → Int32) (sz : Nat) (p1 : Int32) (p2 : Int32) (r0 : Int32) (n_row : Nat → Int32) (hf : a_X7_isRing v_givers v_gives v_wants v_row p1 p2 = some (r0, n_row)), Met l yX7_isRing wsX7_isRing (rmJoin dep) (wPc [.ref h, .int p1, .int p2] (dC, dI) (tysW cI cJ cZ cG) sz (wcX7_isRing cI cJ cZ cG h h_gives h_wants h_row v_givers v_gives v_wants v_row)) (wQz r0 (wcX7_isRing cI cJ cZ cG h h_gives h_wants h_row v_givers v_gives v_wants n_row) (dC, dI) (va_A (wcX7_isRing cI cJ cZ cG h h_gives h_wants h_row v_givers v_gives v_wants v_row) sz)) 0 0 (va_A (wcX7_isRing cI cJ cZ cG h h_gives h_wants h_row v_givers v_gives v_wants v_row) sz)) (C0 : wCX p s args m meth c cX7_isRing 6 (some .boolean) RX7 wsX7_isRing) (hA : ∀ q, s.heap.size ≤ q → A q) (hK : va_K (dC, dI) vwCl (tysW cI cJ cZ cG) s) : ∀ (n : Nat), ∀ (v_row : Nat → Int32) (l1 : Int32) (l2 : Int32) (l3 : Int32) (l4 : Int32) (H : Heap) (locs : List Loc) (ls : Array Slot), fX7_isRing_b50 a_X7_joins a_X7_isRing v_givers v_gives v_wants n v_row l1 l2 l3 l4 = some (r0, n_row) → va_P (dC, dI) vwCl (wcX7_isRing cI cJ cZ cG h h_gives h_wants h_row v_givers v_gives v_wants v_row) H → va_D A (wcX7_isRing cI cJ cZ cG h h_gives h_wants h_row v_givers v_gives v_wants v_row) → va_S A s.heap H locs → lv_has ls 6 [(0, .ref h), (1, .int l1), (2, .int l2), (3, .int l3), (4, .int l4)] → W p l e (rmJoin (dep + 1)) s m args below meth c H locs 0 0 (MQ below (wQz r0 (wcX7_isRing cI cJ cZ cG h h_gives h_wants h_row v_givers v_gives v_wants n_row) (dC, dI) A) args s 0 0 A) (F0 m 50 ls []) := by
  obtain ⟨hx, hb, hr, hml, hown, hts, hlocks⟩ := id C0
  intro n
  induction n with
  | zero =>
    intro v_row l1 l2 l3 l4 H locs ls hf hP hD hS hl
    rw [fX7_isRing_b50] at hf
    cases hf
  | succ n ih =>
    intro v_row l1 l2 l3 l4 H locs ls hf hP hD hS hl
    rw [fX7_isRing_b50] at hf
    refine lv_iload hx hb dX7_isRing_50 (lv_at hl 4 rfl) ?_
    refine lv_bipush (v := 6) hx hb dX7_isRing_52 (by decide) ?_
    refine lv_icmp_ge (tgt := 123) hx hb dX7_isRing_54 (by decide) (fun c_1 => ?_) (fun c_1 => ?_)
    · have hf := it_t hf c_1
      refine lv_iconst (v := 0) hx hb dX7_isRing_123 (by decide) ?_
      have hf : some (0, v_row) = some (r0, n_row) := hf
      cases hf
      exact w_zret hx hb hr hlocks rfl (Or.inl rfl) hP hD hS dX7_isRing_124
    · have hf := it_f hf c_1
      refine lv_aload_n hx hb dX7_isRing_57 rfl (lv_at hl 0 rfl) ?_
      refine lv_iload hx hb dX7_isRing_58 (lv_at hl 4 rfl) ?_
      obtain ⟨r_2, hc_3, hf⟩ := ob_s hf
      refine w_callVz (As := [.int l4]) (rest := []) (wr := List.filterMap (fun i : Nat => (wcX7_isRing cI cJ cZ cG h h_gives h_wants h_row v_givers v_gives v_wants v_row)[i]?) [1, 2, 3]) (ws1 := (wcX7_isRing cI cJ cZ cG h h_gives h_wants h_row v_givers v_gives v_wants v_row)) ⟨hx, hb, hml, hown, hts⟩ (oX7_isGiver l dC dI cI cJ cZ cG h h_gives h_wants h_row v_givers H.size l4 r_2 hc_3) (cwV 1 hts gX7_isRing_X7_isGiver rfl rfl rfl (by decide +kernel) ⟨(by show _ ≤ 40 + (dep + 1); exact Nat.le_trans (Nat.le_of_ble_eq_true (m := 40) rfl) (by omega)), (by show _ ≤ 400 + 60 * (dep + 1); exact Nat.le_trans (Nat.le_of_ble_eq_true (m := 400) rfl) (by omega))⟩) hK 0 7 rfl rfl rfl hP hD hS hA [0] [1, 2, 3] [3, 0, 1, 2] rfl rfl rfl rfl (by decide) rfl rfl rfl hl.1 rfl (Nat.le_of_ble_eq_true rfl) dX7_isRing_60 ⟨Nat.le_refl _, Nat.le_refl _⟩ (fun hz_4 H locs hP hD hS => ?_)
      refine lv_if_eq (tgt := 96) hx hb dX7_isRing_63 (by decide) (fun c_5 => ?_) (fun c_5 => ?_)
      · have hf := it_t hf c_5
        have hf : fX7_isRing_b96 a_X7_joins a_X7_isRing (fX7_isRing_b50 a_X7_joins a_X7_isRing v_givers v_gives v_wants n) v_givers v_gives v_wants v_row l1 l2 l3 l4 = some (r0, n_row) := hf
        exact kX7_isRing_96 ha_X7_joins ha_X7_isRing C0 hA hK ih v_row l1 l2 l3 l4 _ _ _ hf hP hD hS (lv_sub hl [0, 1, 2, 3, 4] rfl)
      · have hf := it_f hf c_5
        refine lv_aload_n hx hb dX7_isRing_66 rfl (lv_at hl 0 rfl) ?_
        refine va_get (D := (dC, dI)) (ci := 7) (v := .ref h_gives) (C := RX7) (T := TX7) (N := 4) hx hb hts iX7_isRing_X7 hown hK hP 0 rfl rfl 0 (by decide) (hts _ mX7_isRing_1) (fun _ h9 => h9) rfl dX7_isRing_67 ?_
        refine lv_iload_n hx hb dX7_isRing_70 rfl (lv_at hl 3 rfl) ?_
        obtain ⟨hg_6, hf⟩ := ck_s hf
        refine va_iald (D := (dC, dI)) hx hb hK hP 1 0 rfl rfl (g_vp hg_6) dX7_isRing_71 ?_
        refine lv_aload_n hx hb dX7_isRing_72 rfl (lv_at hl 0 rfl) ?_
        refine va_get (D := (dC, dI)) (ci := 7) (v := .ref h_wants) (C := RX7) (T := TX7) (N := 4) hx hb hts iX7_isRing_X7 hown hK hP 0 rfl rfl 1 (by decide) (hts _ mX7_isRing_2) (fun _ h9 => h9) rfl dX7_isRing_73 ?_
        refine lv_iload hx hb dX7_isRing_76 (lv_at hl 4 rfl) ?_
        obtain ⟨hg_7, hf⟩ := ck_s hf
        refine va_iald (D := (dC, dI)) hx hb hK hP 2 0 rfl rfl (g_vp hg_7) dX7_isRing_78 ?_
        refine lv_icmp_ne (tgt := 96) hx hb dX7_isRing_79 (by decide) (fun c_8 => ?_) (fun c_8 => ?_)
        · have hf := it_f hf c_8
          have hf : fX7_isRing_b96 a_X7_joins a_X7_isRing (fX7_isRing_b50 a_X7_joins a_X7_isRing v_givers v_gives v_wants n) v_givers v_gives v_wants v_row l1 l2 l3 l4 = some (r0, n_row) := hf
          exact kX7_isRing_96 ha_X7_joins ha_X7_isRing C0 hA hK ih v_row l1 l2 l3 l4 _ _ _ hf hP hD hS (lv_sub hl [0, 1, 2, 3, 4] rfl)
        · have hf := it_t hf c_8
          refine lv_aload_n hx hb dX7_isRing_82 rfl (lv_at hl 0 rfl) ?_
          refine lv_iload hx hb dX7_isRing_83 (lv_at hl 4 rfl) ?_
          refine lv_iload_n hx hb dX7_isRing_85 rfl (lv_at hl 1 rfl) ?_
          obtain ⟨r_9, hc_10, hf⟩ := ob_s hf
          refine w_callVz (As := [.int l4, .int l1]) (rest := []) (wr := List.filterMap (fun i : Nat => (wcX7_isRing cI cJ cZ cG h h_gives h_wants h_row v_givers v_gives v_wants v_row)[i]?) [1, 2]) (ws1 := (wcX7_isRing cI cJ cZ cG h h_gives h_wants h_row v_givers v_gives v_wants v_row)) ⟨hx, hb, hml, hown, hts⟩ (oX7_isInRow l dC dI cI cJ cZ cG h h_gives h_wants h_row v_givers v_row H.size l4 l1 r_9 hc_10) (cwV 2 hts gX7_isRing_X7_isInRow rfl rfl rfl (by decide +kernel) ⟨(by show _ ≤ 40 + (dep + 1); exact Nat.le_trans (Nat.le_of_ble_eq_true (m := 40) rfl) (by omega)), (by show _ ≤ 400 + 60 * (dep + 1); exact Nat.le_trans (Nat.le_of_ble_eq_true (m := 400) rfl) (by omega))⟩) hK 0 7 rfl rfl rfl hP hD hS hA [0, 3] [1, 2] [2, 0, 1, 3] rfl rfl rfl rfl (by decide) rfl rfl rfl hl.1 rfl (Nat.le_of_ble_eq_true rfl) dX7_isRing_86 ⟨Nat.le_refl _, Nat.le_refl _⟩ (fun hz_11 H locs hP hD hS => ?_)
          refine lv_if_ne (tgt := 96) hx hb dX7_isRing_89 (by decide) (fun c_12 => ?_) (fun c_12 => ?_)
          · have hf := it_f hf c_12
            have hf : fX7_isRing_b96 a_X7_joins a_X7_isRing (fX7_isRing_b50 a_X7_joins a_X7_isRing v_givers v_gives v_wants n) v_givers v_gives v_wants v_row l1 l2 l3 l4 = some (r0, n_row) := hf
            exact kX7_isRing_96 ha_X7_joins ha_X7_isRing C0 hA hK ih v_row l1 l2 l3 l4 _ _ _ hf hP hD hS (lv_sub hl [0, 1, 2, 3, 4] rfl)
          · have hf := it_t hf c_12
            refine lv_iconst (v := 1) hx hb dX7_isRing_92 (by decide) ?_
            refine lv_goto (tgt := 97) hx hb dX7_isRing_93 (by decide) ?_
            have hf : fX7_isRing_b97 a_X7_joins a_X7_isRing (fX7_isRing_b50 a_X7_joins a_X7_isRing v_givers v_gives v_wants n) v_givers v_gives v_wants v_row l1 l2 l3 l4 1 = some (r0, n_row) := hf
            exact kX7_isRing_97 ha_X7_joins ha_X7_isRing C0 hA hK ih v_row l1 l2 l3 l4 1 (Or.inr rfl) _ _ _ hf hP hD hS (lv_sub hl [0, 1, 2, 3, 4] rfl)
set_option maxHeartbeats 4000000 in
set_option maxRecDepth 100000 in
theorem oX7_isRing (l : Launch) (dC : Nat → ClassId) (dI : Nat → Nat → Nat) (cI cJ cZ cG : ClassId) {dep : Nat} {a_X7_joins : Int32 → (Nat → Int32) → (Nat → Int32) → (Nat → Int32) → Int32 → Int32 → Int32 → Option (Int32 × (Nat → Int32))} {a_X7_isRing : Int32 → (Nat → Int32) → (Nat → Int32) → (Nat → Int32) → Int32 → Int32 → Option (Int32 × (Nat → Int32))} (ha_X7_joins : ∀ (h h_gives h_wants h_row : Nat) (v_givers : Int32) (v_gives : Nat → Int32) (v_wants : Nat → Int32) (v_row : Nat → Int32) (sz : Nat) (p1 : Int32) (p2 : Int32) (p3 : Int32) (r0 : Int32) (n_row : Nat → Int32) (hf : a_X7_joins v_givers v_gives v_wants v_row p1 p2 p3 = some (r0, n_row)), Met l yX7_joins wsX7_joins (rmJoin dep) (wPc [.ref h, .int p1, .int p2, .int p3] (dC, dI) (tysW cI cJ cZ cG) sz (wcX7_joins cI cJ cZ cG h h_gives h_wants h_row v_givers v_gives v_wants v_row)) (wQz r0 (wcX7_joins cI cJ cZ cG h h_gives h_wants h_row v_givers v_gives v_wants n_row) (dC, dI) (va_A (wcX7_joins cI cJ cZ cG h h_gives h_wants h_row v_givers v_gives v_wants v_row) sz)) 0 0 (va_A (wcX7_joins cI cJ cZ cG h h_gives h_wants h_row v_givers v_gives v_wants v_row) sz)) (ha_X7_isRing : ∀ (h h_gives h_wants h_row : Nat) (v_givers : Int32) (v_gives : Nat → Int32) (v_wants : Nat → Int32) (v_row : Nat → Int32) (sz : Nat) (p1 : Int32) (p2 : Int32) (r0 : Int32) (n_row : Nat → Int32) (hf : a_X7_isRing v_givers v_gives v_wants v_row p1 p2 = some (r0, n_row)), Met l yX7_isRing wsX7_isRing (rmJoin dep) (wPc [.ref h, .int p1, .int p2] (dC, dI) (tysW cI cJ cZ cG) sz (wcX7_isRing cI cJ cZ cG h h_gives h_wants h_row v_givers v_gives v_wants v_row)) (wQz r0 (wcX7_isRing cI cJ cZ cG h h_gives h_wants h_row v_givers v_gives v_wants n_row) (dC, dI) (va_A (wcX7_isRing cI cJ cZ cG h h_gives h_wants h_row v_givers v_gives v_wants v_row) sz)) 0 0 (va_A (wcX7_isRing cI cJ cZ cG h h_gives h_wants h_row v_givers v_gives v_wants v_row) sz)) (h h_gives h_wants h_row : Nat) (v_givers : Int32) (v_gives : Nat → Int32) (v_wants : Nat → Int32) (v_row : Nat → Int32) (sz : Nat) (p1 : Int32) (p2 : Int32) (r0 : Int32) (n_row : Nat → Int32) (hf : bX7_isRing a_X7_joins a_X7_isRing v_givers v_gives v_wants v_row p1 p2 = some (r0, n_row)) : Met l yX7_isRing wsX7_isRing (rmJoin (dep + 1)) (wPc [.ref h, .int p1, .int p2] (dC, dI) (tysW cI cJ cZ cG) sz (wcX7_isRing cI cJ cZ cG h h_gives h_wants h_row v_givers v_gives v_wants v_row)) (wQz r0 (wcX7_isRing cI cJ cZ cG h h_gives h_wants h_row v_givers v_gives v_wants n_row) (dC, dI) (va_A (wcX7_isRing cI cJ cZ cG h h_gives h_wants h_row v_givers v_gives v_wants v_row) sz)) 0 0 (va_A (wcX7_isRing cI cJ cZ cG h h_gives h_wants h_row v_givers v_gives v_wants v_row) sz) := by
  refine Met.ofW (cc := cX7_isRing) (maxL := 6) (ret := (some .boolean)) (by decide) rfl ?_
  intro p e s m args below meth c s₁ B hml hv
  obtain ⟨rfl, hsz, hP, hK, hD0⟩ := hv
  have hx := B.exec
  have hb := B.bytes
  have hr := B.returns
  have hts := atoms_spec (ws := wsX7_isRing) B.pre
  have hown : s.vm.findClass RX7 = some m.cls := findClass_of_methodNamed B.named
  have hlocks := B.notSynchronized
  subst hsz
  have hD := hD0.self (sz := s.heap.size)
  generalize hAe : va_A (wcX7_isRing cI cJ cZ cG h h_gives h_wants h_row v_givers v_gives v_wants v_row) s.heap.size = A at hD ⊢
  have hA : ∀ q : Nat, s.heap.size ≤ q → A q := fun q h => by rw [← hAe]; exact Or.inr h
  have hS : va_S A s.heap s.heap [] := va_S.rf
  have hP : va_P (dC, dI) vwCl (wcX7_isRing cI cJ cZ cG h h_gives h_wants h_row v_givers v_gives v_wants v_row) s.heap := hP
  have hl := lv_entry ([.ref h, .int p1, .int p2]) (n := 6) (Nat.le_of_ble_eq_true rfl)
  rw [lg_entry_eq]
  generalize (lg_sl ([.ref h, .int p1, .int p2]) ++ List.replicate (6 - (lg_sl ([.ref h, .int p1, .int p2])).length) Slot.unset).toArray = ls at hl ⊢
  have hl : lv_has ls 6 [(0, .ref h), (1, .int p1), (2, .int p2)] := hl
  generalize hH : s.heap = H at hP hS ⊢
  have hS : va_S A s.heap H [] := by rw [hH]; exact hS
  have C0 : wCX p s #[.ref h, .int p1, .int p2] m meth c cX7_isRing 6 (some .boolean) RX7 wsX7_isRing := ⟨hx, hb, hr, hml, hown, hts, hlocks⟩
  show W p l e (rmJoin (dep + 1)) s m #[.ref h, .int p1, .int p2] below meth c H [] 0 0 (MQ below (wQz r0 (wcX7_isRing cI cJ cZ cG h h_gives h_wants h_row v_givers v_gives v_wants n_row) (dC, dI) A) #[.ref h, .int p1, .int p2] s 0 0 A) (F0 m 0 ls [])
  unfold bX7_isRing at hf
  refine lv_aload_n hx hb dX7_isRing_0 rfl (lv_at hl 0 rfl) ?_
  refine va_get (D := (dC, dI)) (ci := 7) (v := .ref h_row) (C := RX7) (T := TX7) (N := 4) hx hb hts iX7_isRing_X7 hown hK hP 0 rfl rfl 3 (by decide) (hts _ mX7_isRing_0) (fun _ h9 => h9) rfl dX7_isRing_1 ?_
  refine lv_iload_n hx hb dX7_isRing_4 rfl (lv_at hl 1 rfl) ?_
  refine lv_iconst (v := 1) hx hb dX7_isRing_5 (by decide) ?_
  refine lv_isub hx hb dX7_isRing_6 ?_
  obtain ⟨hg_1, hf⟩ := ck_s hf
  refine va_iald (D := (dC, dI)) hx hb hK hP 3 0 rfl rfl (g_vp hg_1) dX7_isRing_7 ?_
  obtain ⟨x_2, ex_2, hf⟩ := nm_s hf
  refine w_eqi ex_2 ?_
  refine lv_istore_n (lv' := [(3, .int x_2), (0, .ref h), (1, .int p1), (2, .int p2)]) hx hb dX7_isRing_8 rfl hl (by decide) rfl (fun ls hl => ?_)
  refine lv_iload_n hx hb dX7_isRing_9 rfl (lv_at hl 2 rfl) ?_
  refine lv_iload_n hx hb dX7_isRing_10 rfl (lv_at hl 3 rfl) ?_
  refine lv_icmp_ne (tgt := 40) hx hb dX7_isRing_11 (by decide) (fun c_3 => ?_) (fun c_3 => ?_)
  · have hf := it_f hf c_3
    refine lv_aload_n hx hb dX7_isRing_40 rfl (lv_at hl 1 rfl) ?_
    refine va_get (D := (dC, dI)) (ci := 7) (v := .ref h_row) (C := RX7) (T := TX7) (N := 4) hx hb hts iX7_isRing_X7 hown hK hP 0 rfl rfl 3 (by decide) (hts _ mX7_isRing_0) (fun _ h9 => h9) rfl dX7_isRing_41 ?_
    refine lv_iconst (v := 0) hx hb dX7_isRing_44 (by decide) ?_
    obtain ⟨hg_4, hf⟩ := ck_s hf
    refine va_iald (D := (dC, dI)) hx hb hK hP 3 0 rfl rfl (g_vp hg_4) dX7_isRing_45 ?_
    refine lv_iconst (v := 1) hx hb dX7_isRing_46 (by decide) ?_
    refine lv_iadd hx hb dX7_isRing_47 ?_
    obtain ⟨x_5, ex_5, hf⟩ := nm_s hf
    refine w_eqi ex_5 ?_
    refine lv_istore (lv' := [(4, .int x_5), (3, .int x_2), (0, .ref h), (1, .int p1), (2, .int p2)]) hx hb dX7_isRing_48 hl (by decide) rfl (fun ls hl => ?_)
    have hf : fX7_isRing_b50 a_X7_joins a_X7_isRing v_givers v_gives v_wants 70 v_row p1 p2 x_2 x_5 = some (r0, n_row) := hf
    exact kX7_isRing_50 ha_X7_joins ha_X7_isRing C0 hA hK 70 v_row p1 p2 x_2 x_5 _ _ _ hf hP hD hS (lv_sub hl [2, 3, 4, 1, 0] rfl)
  · have hf := it_t hf c_3
    refine lv_aload_n hx hb dX7_isRing_14 rfl (lv_at hl 1 rfl) ?_
    refine va_get (D := (dC, dI)) (ci := 7) (v := .ref h_gives) (C := RX7) (T := TX7) (N := 4) hx hb hts iX7_isRing_X7 hown hK hP 0 rfl rfl 0 (by decide) (hts _ mX7_isRing_1) (fun _ h9 => h9) rfl dX7_isRing_15 ?_
    refine lv_iload_n hx hb dX7_isRing_18 rfl (lv_at hl 0 rfl) ?_
    obtain ⟨hg_6, hf⟩ := ck_s hf
    refine va_iald (D := (dC, dI)) hx hb hK hP 1 0 rfl rfl (g_vp hg_6) dX7_isRing_19 ?_
    refine lv_aload_n hx hb dX7_isRing_20 rfl (lv_at hl 1 rfl) ?_
    refine va_get (D := (dC, dI)) (ci := 7) (v := .ref h_wants) (C := RX7) (T := TX7) (N := 4) hx hb hts iX7_isRing_X7 hown hK hP 0 rfl rfl 1 (by decide) (hts _ mX7_isRing_2) (fun _ h9 => h9) rfl dX7_isRing_21 ?_
    refine lv_aload_n hx hb dX7_isRing_24 rfl (lv_at hl 1 rfl) ?_
    refine va_get (D := (dC, dI)) (ci := 7) (v := .ref h_row) (C := RX7) (T := TX7) (N := 4) hx hb hts iX7_isRing_X7 hown hK hP 0 rfl rfl 3 (by decide) (hts _ mX7_isRing_0) (fun _ h9 => h9) rfl dX7_isRing_25 ?_
    refine lv_iconst (v := 0) hx hb dX7_isRing_28 (by decide) ?_
    obtain ⟨hg_7, hf⟩ := ck_s hf
    refine va_iald (D := (dC, dI)) hx hb hK hP 3 0 rfl rfl (g_vp hg_7) dX7_isRing_29 ?_
    obtain ⟨hg_8, hf⟩ := ck_s hf
    refine va_iald (D := (dC, dI)) hx hb hK hP 2 0 rfl rfl (g_vp hg_8) dX7_isRing_30 ?_
    refine lv_icmp_ne (tgt := 38) hx hb dX7_isRing_31 (by decide) (fun c_9 => ?_) (fun c_9 => ?_)
    · have hf := it_f hf c_9
      refine lv_iconst (v := 0) hx hb dX7_isRing_38 (by decide) ?_
      have hf : fX7_isRing_b39 a_X7_joins a_X7_isRing v_givers v_gives v_wants v_row 0 = some (r0, n_row) := hf
      exact kX7_isRing_39 ha_X7_joins ha_X7_isRing C0 hA hK v_row 0 (Or.inl rfl) _ _ _ hf hP hD hS (lv_sub hl [] rfl)
    · have hf := it_t hf c_9
      refine lv_iconst (v := 1) hx hb dX7_isRing_34 (by decide) ?_
      refine lv_goto (tgt := 39) hx hb dX7_isRing_35 (by decide) ?_
      have hf : fX7_isRing_b39 a_X7_joins a_X7_isRing v_givers v_gives v_wants v_row 1 = some (r0, n_row) := hf
      exact kX7_isRing_39 ha_X7_joins ha_X7_isRing C0 hA hK v_row 1 (Or.inr rfl) _ _ _ hf hP hD hS (lv_sub hl [] rfl)
set_option maxHeartbeats 4000000 in
theorem ogJoin (l : Launch) (dC : Nat → ClassId) (dI : Nat → Nat → Nat) (cI cJ cZ cG : ClassId) : ∀ dep : Nat, (∀ (h h_gives h_wants h_row : Nat) (v_givers : Int32) (v_gives : Nat → Int32) (v_wants : Nat → Int32) (v_row : Nat → Int32) (sz : Nat) (p1 : Int32) (p2 : Int32) (p3 : Int32) (r0 : Int32) (n_row : Nat → Int32) (hf : fX7_joins dep v_givers v_gives v_wants v_row p1 p2 p3 = some (r0, n_row)), Met l yX7_joins wsX7_joins (rmJoin dep) (wPc [.ref h, .int p1, .int p2, .int p3] (dC, dI) (tysW cI cJ cZ cG) sz (wcX7_joins cI cJ cZ cG h h_gives h_wants h_row v_givers v_gives v_wants v_row)) (wQz r0 (wcX7_joins cI cJ cZ cG h h_gives h_wants h_row v_givers v_gives v_wants n_row) (dC, dI) (va_A (wcX7_joins cI cJ cZ cG h h_gives h_wants h_row v_givers v_gives v_wants v_row) sz)) 0 0 (va_A (wcX7_joins cI cJ cZ cG h h_gives h_wants h_row v_givers v_gives v_wants v_row) sz)) ∧ (∀ (h h_gives h_wants h_row : Nat) (v_givers : Int32) (v_gives : Nat → Int32) (v_wants : Nat → Int32) (v_row : Nat → Int32) (sz : Nat) (p1 : Int32) (p2 : Int32) (r0 : Int32) (n_row : Nat → Int32) (hf : fX7_isRing dep v_givers v_gives v_wants v_row p1 p2 = some (r0, n_row)), Met l yX7_isRing wsX7_isRing (rmJoin dep) (wPc [.ref h, .int p1, .int p2] (dC, dI) (tysW cI cJ cZ cG) sz (wcX7_isRing cI cJ cZ cG h h_gives h_wants h_row v_givers v_gives v_wants v_row)) (wQz r0 (wcX7_isRing cI cJ cZ cG h h_gives h_wants h_row v_givers v_gives v_wants n_row) (dC, dI) (va_A (wcX7_isRing cI cJ cZ cG h h_gives h_wants h_row v_givers v_gives v_wants v_row) sz)) 0 0 (va_A (wcX7_isRing cI cJ cZ cG h h_gives h_wants h_row v_givers v_gives v_wants v_row) sz)) := by
  intro dep
  induction dep with
  | zero => exact ⟨(by intro h h_gives h_wants h_row v_givers v_gives v_wants v_row sz p1 p2 p3 r0 n_row hf; exact absurd hf (by intro h9; cases h9)), (by intro h h_gives h_wants h_row v_givers v_gives v_wants v_row sz p1 p2 r0 n_row hf; exact absurd hf (by intro h9; cases h9))⟩
  | succ dep ih => exact ⟨fun h h_gives h_wants h_row v_givers v_gives v_wants v_row sz p1 p2 p3 r0 n_row hf => oX7_joins l dC dI cI cJ cZ cG ih.1 ih.2 h h_gives h_wants h_row v_givers v_gives v_wants v_row sz p1 p2 p3 r0 n_row hf, fun h h_gives h_wants h_row v_givers v_gives v_wants v_row sz p1 p2 r0 n_row hf => oX7_isRing l dC dI cI cJ cZ cG ih.1 ih.2 h h_gives h_wants h_row v_givers v_gives v_wants v_row sz p1 p2 r0 n_row hf⟩
abbrev rmX7_joins_t : Room := { frames := 56, cells := 0, slots := 0, locals := 1360 }
theorem otX7_joins (l : Launch) (dC : Nat → ClassId) (dI : Nat → Nat → Nat) (cI cJ cZ cG : ClassId) (h h_gives h_wants h_row : Nat) (v_givers : Int32) (v_gives : Nat → Int32) (v_wants : Nat → Int32) (v_row : Nat → Int32) (sz : Nat) (p1 : Int32) (p2 : Int32) (p3 : Int32) (r0 : Int32) (n_row : Nat → Int32) (hf : fX7_joins 16 v_givers v_gives v_wants v_row p1 p2 p3 = some (r0, n_row)) : Met l yX7_joins wsX7_joins rmX7_joins_t (wPc [.ref h, .int p1, .int p2, .int p3] (dC, dI) (tysW cI cJ cZ cG) sz (wcX7_joins cI cJ cZ cG h h_gives h_wants h_row v_givers v_gives v_wants v_row)) (wQz r0 (wcX7_joins cI cJ cZ cG h h_gives h_wants h_row v_givers v_gives v_wants n_row) (dC, dI) (va_A (wcX7_joins cI cJ cZ cG h h_gives h_wants h_row v_givers v_gives v_wants v_row) sz)) 0 0 (va_A (wcX7_joins cI cJ cZ cG h h_gives h_wants h_row v_givers v_gives v_wants v_row) sz) := (ogJoin l dC dI cI cJ cZ cG 16).1 h h_gives h_wants h_row v_givers v_gives v_wants v_row sz p1 p2 p3 r0 n_row hf
abbrev rmX7_isRing_t : Room := { frames := 56, cells := 0, slots := 0, locals := 1360 }
theorem otX7_isRing (l : Launch) (dC : Nat → ClassId) (dI : Nat → Nat → Nat) (cI cJ cZ cG : ClassId) (h h_gives h_wants h_row : Nat) (v_givers : Int32) (v_gives : Nat → Int32) (v_wants : Nat → Int32) (v_row : Nat → Int32) (sz : Nat) (p1 : Int32) (p2 : Int32) (r0 : Int32) (n_row : Nat → Int32) (hf : fX7_isRing 16 v_givers v_gives v_wants v_row p1 p2 = some (r0, n_row)) : Met l yX7_isRing wsX7_isRing rmX7_isRing_t (wPc [.ref h, .int p1, .int p2] (dC, dI) (tysW cI cJ cZ cG) sz (wcX7_isRing cI cJ cZ cG h h_gives h_wants h_row v_givers v_gives v_wants v_row)) (wQz r0 (wcX7_isRing cI cJ cZ cG h h_gives h_wants h_row v_givers v_gives v_wants n_row) (dC, dI) (va_A (wcX7_isRing cI cJ cZ cG h h_gives h_wants h_row v_givers v_gives v_wants v_row) sz)) 0 0 (va_A (wcX7_isRing cI cJ cZ cG h h_gives h_wants h_row v_givers v_gives v_wants v_row) sz) := (ogJoin l dC dI cI cJ cZ cG 16).2 h h_gives h_wants h_row v_givers v_gives v_wants v_row sz p1 p2 r0 n_row hf
