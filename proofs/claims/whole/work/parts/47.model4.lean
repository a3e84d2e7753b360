/-! printed by gen.py: model4 -/
abbrev wcX9_isRing (cI cJ cZ cG : ClassId) (h h_effect h_number h_banned h_has h_life h_shield h_strength h_haveMet h_deck h_deckSize h_who h_does h_much h_against h_pack h_packSize h_gives h_wants h_tryWho h_tryDoes h_tryMuch h_tryAgainst h_tryLife h_tryShield h_ring h_row : Nat) (v_thrown : Int32) (v_today : Int32) (v_kinds : Int32) (v_stacked : Int32) (v_drafters : Int32) (v_cards : Int32) (v_round : Int32) (v_turn : Int32) (v_high : Int32) (v_ringSize : Int32) (v_many : Int32) (v_has : Nat → Int32) (v_gives : Nat → Int32) (v_wants : Nat → Int32) (v_ring : Nat → Int32) : va_W := [(h, .inr (9, [.int v_thrown, .int v_today, .int v_kinds, .ref h_effect, .ref h_number, .ref h_banned, .ref h_has, .ref h_life, .ref h_shield, .ref h_strength, .ref h_haveMet, .ref h_deck, .ref h_deckSize, .int v_stacked, .ref h_who, .ref h_does, .ref h_much, .ref h_against, .int v_drafters, .int v_cards, .int v_round, .int v_turn, .ref h_pack, .ref h_packSize, .ref h_gives, .ref h_wants, .int v_high, .ref h_tryWho, .ref h_tryDoes, .ref h_tryMuch, .ref h_tryAgainst, .ref h_tryLife, .ref h_tryShield, .int v_ringSize, .ref h_ring, .int v_many, .ref h_row])), (h_has, .inl (cI, 120, .inl v_has)), (h_gives, .inl (cI, 6, .inl v_gives)), (h_wants, .inl (cI, 6, .inl v_wants)), (h_ring, .inl (cI, 6, .inl v_ring))]
theorem iX9_isRing_X9 : ∀ w ∈ wsX90, w ∈ wsX9_isRing := by decide +kernel
theorem mX9_isRing_0 : (Cond.fieldLink RX9 88 "SleevehallModel" "ring" "[I") ∈ wsX9_isRing := by decide +kernel
theorem mX9_isRing_1 : (Cond.fieldLink RX9 63 "SleevehallModel" "gives" "[I") ∈ wsX9_isRing := by decide +kernel
theorem mX9_isRing_2 : (Cond.fieldLink RX9 66 "SleevehallModel" "wants" "[I") ∈ wsX9_isRing := by decide +kernel
theorem mX9_isRing_3 : (Cond.fieldLink RX9 19 "SleevehallModel" "has" "[I") ∈ wsX9_isRing := by decide +kernel
abbrev rmX9_isRing : Room := { frames := 0, cells := 0, slots := 0, locals := 0 }
set_option maxHeartbeats 4000000 in
set_option maxRecDepth 100000 in
theorem kX9_isRing_124 {p : Program} {l : Launch} {e : Env} {s : State} {m : MethodId} {args : Array Value} {below : List Frame} {meth : Method} {c : Code} {dC : Nat → ClassId} {dI : Nat → Nat → Nat} {A : Nat → Prop} {cI cJ cZ cG : ClassId} {h h_effect h_number h_banned h_has h_life h_shield h_strength h_haveMet h_deck h_deckSize h_who h_does h_much h_against h_pack h_packSize h_gives h_wants h_tryWho h_tryDoes h_tryMuch h_tryAgainst h_tryLife h_tryShield h_ring h_row : Nat} {v_thrown : Int32} {v_today : Int32} {v_kinds : Int32} {v_stacked : Int32} {v_drafters : Int32} {v_cards : Int32} {v_round : Int32} {v_turn : Int32} {v_high : Int32} {v_ringSize : Int32} {v_many : Int32} {v_has : Nat → Int32} {v_gives : Nat → Int32} {v_wants : Nat → Int32} {v_ring : Nat → Int32} {r0 : Int32} {k_7 : Int32 → Int32 → Int32 → Int32 → Option (Int32)} (C0 : wCX p s args m meth c cX9_isRing 7 (some .boolean) RX9 wsX9_isRing) (hA : ∀ q, s.heap.size ≤ q → A q) (hK : va_K (dC, dI) vwCl (tysW cI cJ cZ cG) s) (hk_7 : ∀ (l1 : Int32) (l2 : Int32) (l3 : Int32) (l4 : Int32) (hz_l3 : wB l3) (H : Heap) (locs : List Loc) (ls : Array Slot), k_7 l1 l2 l3 l4 = some r0 → va_P (dC, dI) vwCl (wcX9_isRing cI cJ cZ cG h h_effect h_number h_banned h_has h_life h_shield h_strength h_haveMet h_deck h_deckSize h_who h_does h_much h_against h_pack h_packSize h_gives h_wants h_tryWho h_tryDoes h_tryMuch h_tryAgainst h_tryLife h_tryShield h_ring h_row v_thrown v_today v_kinds v_stacked v_drafters v_cards v_round v_turn v_high v_ringSize v_many v_has v_gives v_wants v_ring) H → va_D A (wcX9_isRing cI cJ cZ cG h h_effect h_number h_banned h_has h_life h_shield h_strength h_haveMet h_deck h_deckSize h_who h_does h_much h_against h_pack h_packSize h_gives h_wants h_tryWho h_tryDoes h_tryMuch h_tryAgainst h_tryLife h_tryShield h_ring h_row v_thrown v_today v_kinds v_stacked v_drafters v_cards v_round v_turn v_high v_ringSize v_many v_has v_gives v_wants v_ring) → va_S A s.heap H locs → lv_has ls 7 [(0, .ref h), (1, .int l1), (2, .int l2), (3, .int l3), (4, .int l4)] → W p l e rmX9_isRing s m args below meth c H locs 0 0 (MQ below (wQz r0 (wcX9_isRing cI cJ cZ cG h h_effect h_number h_banned h_has h_life h_shield h_strength h_haveMet h_deck h_deckSize h_who h_does h_much h_against h_pack h_packSize h_gives h_wants h_tryWho h_tryDoes h_tryMuch h_tryAgainst h_tryLife h_tryShield h_ring h_row v_thrown v_today v_kinds v_stacked v_drafters v_cards v_round v_turn v_high v_ringSize v_many v_has v_gives v_wants v_ring) (dC, dI) A) args s 0 0 A) (F0 m 7 ls [])) : ∀ (l1 : Int32) (l2 : Int32) (l4 : Int32) (l5 : Int32) (s0 : Int32) (hz_s0 : wB s0) (H : Heap) (locs : List Loc) (ls : Array Slot), fX9_isRing_b124 k_7 v_has v_gives v_wants v_ring l1 l2 l4 l5 s0 = some r0 → va_P (dC, dI) vwCl (wcX9_isRing cI cJ cZ cG h h_effect h_number h_banned h_has h_life h_shield h_strength h_haveMet h_deck h_deckSize h_who h_does h_much h_against h_pack h_packSize h_gives h_wants h_tryWho h_tryDoes h_tryMuch h_tryAgainst h_tryLife h_tryShield h_ring h_row v_thrown v_today v_kinds v_stacked v_drafters v_cards v_round v_turn v_high v_ringSize v_many v_has v_gives v_wants v_ring) H → va_D A (wcX9_isRing cI cJ cZ cG h h_effect h_number h_banned h_has h_life h_shield h_strength h_haveMet h_deck h_deckSize h_who h_does h_much h_against h_pack h_packSize h_gives h_wants h_tryWho h_tryDoes h_tryMuch h_tryAgainst h_tryLife h_tryShield h_ring h_row v_thrown v_today v_kinds v_stacked v_drafters v_cards v_round v_turn v_high v_ringSize v_many v_has v_gives v_wants v_ring) → va_S A s.heap H locs → lv_has ls 7 [(0, .ref h), (1, .int l1), (2, .int l2), (4, .int l4), (5, .int l5)] → W p l e rmX9_isRing s m args below meth c H locs 0 0 (MQ below (wQz r0 (wcX9_isRing cI cJ cZ cG h h_effect h_number h_banned h_has h_life h_shield h_strength h_haveMet h_deck h_deckSize h_who h_does h_much h_against h_pack h_packSize h_gives h_wants h_tryWho h_tryDoes h_tryMuch h_tryAgainst h_tryLife h_tryShield h_ring h_row v_thrown v_today v_kinds v_stacked v_drafters v_cards v_round v_turn v_high v_ringSize v_many v_has v_gives v_wants v_ring) (dC, dI) A) args s 0 0 A) (F0 m 124 ls [.int s0]) := by
  obtain ⟨hx, hb, hr, hml, hown, hts, hlocks⟩ := id C0
  intro l1 l2 l4 l5 s0 hz_s0 H locs ls hf hP hD hS hl
  unfold fX9_isRing_b124 at hf
  refine lv_istore_n (lv' := [(3, .int s0), (0, .ref h), (1, .int l1), (2, .int l2), (4, .int l4), (5, .int l5)]) hx hb dX9_isRing_124 rfl hl (by decide) rfl (fun ls hl => ?_)
  refine lv_iload_n hx hb dX9_isRing_125 rfl (lv_at hl 3 rfl) ?_
  refine lv_iconst (v := 1) hx hb dX9_isRing_126 (by decide) ?_
  refine lv_iload hx hb dX9_isRing_127 (lv_at hl 5 rfl) ?_
  refine lv_ishl hx hb dX9_isRing_129 ?_
  refine lv_ior hx hb dX9_isRing_130 ?_
  obtain ⟨x_1, ex_1, hf⟩ := nm_s hf
  refine w_eqi ex_1 ?_
  refine lv_istore_n (lv' := [(2, .int x_1), (3, .int s0), (0, .ref h), (1, .int l1), (4, .int l4), (5, .int l5)]) hx hb dX9_isRing_131 rfl hl (by decide) rfl (fun ls hl => ?_)
  obtain ⟨x_2, ex_2, hf⟩ := nm_s hf
  refine lv_iinc (v := x_2) (lv' := [(4, .int x_2), (2, .int x_1), (3, .int s0), (0, .ref h), (1, .int l1), (5, .int l5)]) hx hb dX9_isRing_132 hl (k := 4) rfl (by rw [ex_2]; rfl) (by decide) rfl (fun ls hl => ?_)
  refine lv_goto (tgt := 7) hx hb dX9_isRing_135 (by decide) ?_
  have hf : k_7 l1 x_1 s0 x_2 = some r0 := hf
  exact hk_7 l1 x_1 s0 x_2 hz_s0 _ _ _ hf hP hD hS (lv_sub hl [3, 4, 1, 2, 0] rfl)
set_option maxHeartbeats 4000000 in
set_option maxRecDepth 100000 in
theorem kX9_isRing_123 {p : Program} {l : Launch} {e : Env} {s : State} {m : MethodId} {args : Array Value} {below : List Frame} {meth : Method} {c : Code} {dC : Nat → ClassId} {dI : Nat → Nat → Nat} {A : Nat → Prop} {cI cJ cZ cG : ClassId} {h h_effect h_number h_banned h_has h_life h_shield h_strength h_haveMet h_deck h_deckSize h_who h_does h_much h_against h_pack h_packSize h_gives h_wants h_tryWho h_tryDoes h_tryMuch h_tryAgainst h_tryLife h_tryShield h_ring h_row : Nat} {v_thrown : Int32} {v_today : Int32} {v_kinds : Int32} {v_stacked : Int32} {v_drafters : Int32} {v_cards : Int32} {v_round : Int32} {v_turn : Int32} {v_high : Int32} {v_ringSize : Int32} {v_many : Int32} {v_has : Nat → Int32} {v_gives : Nat → Int32} {v_wants : Nat → Int32} {v_ring : Nat → Int32} {r0 : Int32} {k_7 : Int32 → Int32 → Int32 → Int32 → Option (Int32)} (C0 : wCX p s args m meth c cX9_isRing 7 (some .boolean) RX9 wsX9_isRing) (hA : ∀ q, s.heap.size ≤ q → A q) (hK : va_K (dC, dI) vwCl (tysW cI cJ cZ cG) s) (hk_7 : ∀ (l1 : Int32) (l2 : Int32) (l3 : Int32) (l4 : Int32) (hz_l3 : wB l3) (H : Heap) (locs : List Loc) (ls : Array Slot), k_7 l1 l2 l3 l4 = some r0 → va_P (dC, dI) vwCl (wcX9_isRing cI cJ cZ cG h h_effect h_number h_banned h_has h_life h_shield h_strength h_haveMet h_deck h_deckSize h_who h_does h_much h_against h_pack h_packSize h_gives h_wants h_tryWho h_tryDoes h_tryMuch h_tryAgainst h_tryLife h_tryShield h_ring h_row v_thrown v_today v_kinds v_stacked v_drafters v_cards v_round v_turn v_high v_ringSize v_many v_has v_gives v_wants v_ring) H → va_D A (wcX9_isRing cI cJ cZ cG h h_effect h_number h_banned h_has h_life h_shield h_strength h_haveMet h_deck h_deckSize h_who h_does h_much h_against h_pack h_packSize h_gives h_wants h_tryWho h_tryDoes h_tryMuch h_tryAgainst h_tryLife h_tryShield h_ring h_row v_thrown v_today v_kinds v_stacked v_drafters v_cards v_round v_turn v_high v_ringSize v_many v_has v_gives v_wants v_ring) → va_S A s.heap H locs → lv_has ls 7 [(0, .ref h), (1, .int l1), (2, .int l2), (3, .int l3), (4, .int l4)] → W p l e rmX9_isRing s m args below meth c H locs 0 0 (MQ below (wQz r0 (wcX9_isRing cI cJ cZ cG h h_effect h_number h_banned h_has h_life h_shield h_strength h_haveMet h_deck h_deckSize h_who h_does h_much h_against h_pack h_packSize h_gives h_wants h_tryWho h_tryDoes h_tryMuch h_tryAgainst h_tryLife h_tryShield h_ring h_row v_thrown v_today v_kinds v_stacked v_drafters v_cards v_round v_turn v_high v_ringSize v_many v_has v_gives v_wants v_ring) (dC, dI) A) args s 0 0 A) (F0 m 7 ls [])) : ∀ (l1 : Int32) (l2 : Int32) (l4 : Int32) (l5 : Int32) (H : Heap) (locs : List Loc) (ls : Array Slot), fX9_isRing_b123 k_7 v_has v_gives v_wants v_ring l1 l2 l4 l5 = some r0 → va_P (dC, dI) vwCl (wcX9_isRing cI cJ cZ cG h h_effect h_number h_banned h_has h_life h_shield h_strength h_haveMet h_deck h_deckSize h_who h_does h_much h_against h_pack h_packSize h_gives h_wants h_tryWho h_tryDoes h_tryMuch h_tryAgainst h_tryLife h_tryShield h_ring h_row v_thrown v_today v_kinds v_stacked v_drafters v_cards v_round v_turn v_high v_ringSize v_many v_has v_gives v_wants v_ring) H → va_D A (wcX9_isRing cI cJ cZ cG h h_effect h_number h_banned h_has h_life h_shield h_strength h_haveMet h_deck h_deckSize h_who h_does h_much h_against h_pack h_packSize h_gives h_wants h_tryWho h_tryDoes h_tryMuch h_tryAgainst h_tryLife h_tryShield h_ring h_row v_thrown v_today v_kinds v_stacked v_drafters v_cards v_round v_turn v_high v_ringSize v_many v_has v_gives v_wants v_ring) → va_S A s.heap H locs → lv_has ls 7 [(0, .ref h), (1, .int l1), (2, .int l2), (4, .int l4), (5, .int l5)] → W p l e rmX9_isRing s m args below meth c H locs 0 0 (MQ below (wQz r0 (wcX9_isRing cI cJ cZ cG h h_effect h_number h_banned h_has h_life h_shield h_strength h_haveMet h_deck h_deckSize h_who h_does h_much h_against h_pack h_packSize h_gives h_wants h_tryWho h_tryDoes h_tryMuch h_tryAgainst h_tryLife h_tryShield h_ring h_row v_thrown v_today v_kinds v_stacked v_drafters v_cards v_round v_turn v_high v_ringSize v_many v_has v_gives v_wants v_ring) (dC, dI) A) args s 0 0 A) (F0 m 123 ls []) := by
  obtain ⟨hx, hb, hr, hml, hown, hts, hlocks⟩ := id C0
  intro l1 l2 l4 l5 H locs ls hf hP hD hS hl
  unfold fX9_isRing_b123 at hf
  refine lv_iconst (v := 0) hx hb dX9_isRing_123 (by decide) ?_
  have hf : fX9_isRing_b124 k_7 v_has v_gives v_wants v_ring l1 l2 l4 l5 0 = some r0 := hf
  exact kX9_isRing_124 C0 hA hK hk_7 l1 l2 l4 l5 0 (Or.inl rfl) _ _ _ hf hP hD hS (lv_sub hl [0, 1, 2, 3, 4] rfl)
set_option maxHeartbeats 4000000 in
set_option maxRecDepth 100000 in
theorem kX9_isRing_138 {p : Program} {l : Launch} {e : Env} {s : State} {m : MethodId} {args : Array Value} {below : List Frame} {meth : Method} {c : Code} {dC : Nat → ClassId} {dI : Nat → Nat → Nat} {A : Nat → Prop} {cI cJ cZ cG : ClassId} {h h_effect h_number h_banned h_has h_life h_shield h_strength h_haveMet h_deck h_deckSize h_who h_does h_much h_against h_pack h_packSize h_gives h_wants h_tryWho h_tryDoes h_tryMuch h_tryAgainst h_tryLife h_tryShield h_ring h_row : Nat} {v_thrown : Int32} {v_today : Int32} {v_kinds : Int32} {v_stacked : Int32} {v_drafters : Int32} {v_cards : Int32} {v_round : Int32} {v_turn : Int32} {v_high : Int32} {v_ringSize : Int32} {v_many : Int32} {v_has : Nat → Int32} {v_gives : Nat → Int32} {v_wants : Nat → Int32} {v_ring : Nat → Int32} {r0 : Int32} (C0 : wCX p s args m meth c cX9_isRing 7 (some .boolean) RX9 wsX9_isRing) (hA : ∀ q, s.heap.size ≤ q → A q) (hK : va_K (dC, dI) vwCl (tysW cI cJ cZ cG) s) : ∀ (l3 : Int32) (hz_l3 : wB l3) (H : Heap) (locs : List Loc) (ls : Array Slot), fX9_isRing_b138 v_has v_gives v_wants v_ring l3 = some r0 → va_P (dC, dI) vwCl (wcX9_isRing cI cJ cZ cG h h_effect h_number h_banned h_has h_life h_shield h_strength h_haveMet h_deck h_deckSize h_who h_does h_much h_against h_pack h_packSize h_gives h_wants h_tryWho h_tryDoes h_tryMuch h_tryAgainst h_tryLife h_tryShield h_ring h_row v_thrown v_today v_kinds v_stacked v_drafters v_cards v_round v_turn v_high v_ringSize v_many v_has v_gives v_wants v_ring) H → va_D A (wcX9_isRing cI cJ cZ cG h h_effect h_number h_banned h_has h_life h_shield h_strength h_haveMet h_deck h_deckSize h_who h_does h_much h_against h_pack h_packSize h_gives h_wants h_tryWho h_tryDoes h_tryMuch h_tryAgainst h_tryLife h_tryShield h_ring h_row v_thrown v_today v_kinds v_stacked v_drafters v_cards v_round v_turn v_high v_ringSize v_many v_has v_gives v_wants v_ring) → va_S A s.heap H locs → lv_has ls 7 [(3, .int l3)] → W p l e rmX9_isRing s m args below meth c H locs 0 0 (MQ below (wQz r0 (wcX9_isRing cI cJ cZ cG h h_effect h_number h_banned h_has h_life h_shield h_strength h_haveMet h_deck h_deckSize h_who h_does h_much h_against h_pack h_packSize h_gives h_wants h_tryWho h_tryDoes h_tryMuch h_tryAgainst h_tryLife h_tryShield h_ring h_row v_thrown v_today v_kinds v_stacked v_drafters v_cards v_round v_turn v_high v_ringSize v_many v_has v_gives v_wants v_ring) (dC, dI) A) args s 0 0 A) (F0 m 138 ls []) := by
  obtain ⟨hx, hb, hr, hml, hown, hts, hlocks⟩ := id C0
  intro l3 hz_l3 H locs ls hf hP hD hS hl
  unfold fX9_isRing_b138 at hf
  refine lv_iload_n hx hb dX9_isRing_138 rfl (lv_at hl 0 rfl) ?_
  have hf : some l3 = some r0 := hf
  cases hf
  exact w_zret hx hb hr hlocks rfl hz_l3 hP hD hS dX9_isRing_139
set_option maxHeartbeats 4000000 in
set_option maxRecDepth 100000 in
theorem kX9_isRing_7 {p : Program} {l : Launch} {e : Env} {s : State} {m : MethodId} {args : Array Value} {below : List Frame} {meth : Method} {c : Code} {dC : Nat → ClassId} {dI : Nat → Nat → Nat} {A : Nat → Prop} {cI cJ cZ cG : ClassId} {h h_effect h_number h_banned h_has h_life h_shield h_strength h_haveMet h_deck h_deckSize h_who h_does h_much h_against h_pack h_packSize h_gives h_wants h_tryWho h_tryDoes h_tryMuch h_tryAgainst h_tryLife h_tryShield h_ring h_row : Nat} {v_thrown : Int32} {v_today : Int32} {v_kinds : Int32} {v_stacked : Int32} {v_drafters : Int32} {v_cards : Int32} {v_round : Int32} {v_turn : Int32} {v_high : Int32} {v_ringSize : Int32} {v_many : Int32} {v_has : Nat → Int32} {v_gives : Nat → Int32} {v_wants : Nat → Int32} {v_ring : Nat → Int32} {r0 : Int32} (C0 : wCX p s args m meth c cX9_isRing 7 (some .boolean) RX9 wsX9_isRing) (hA : ∀ q, s.heap.size ≤ q → A q) (hK : va_K (dC, dI) vwCl (tysW cI cJ cZ cG) s) : ∀ (n : Nat), ∀ (l1 : Int32) (l2 : Int32) (l3 : Int32) (l4 : Int32) (hz_l3 : wB l3) (H : Heap) (locs : List Loc) (ls : Array Slot), fX9_isRing_b7 v_has v_gives v_wants v_ring n l1 l2 l3 l4 = some r0 → va_P (dC, dI) vwCl (wcX9_isRing cI cJ cZ cG h h_effect h_number h_banned h_has h_life h_shield h_strength h_haveMet h_deck h_deckSize h_who h_does h_much h_against h_pack h_packSize h_gives h_wants h_tryWho h_tryDoes h_tryMuch h_tryAgainst h_tryLife h_tryShield h_ring h_row v_thrown v_today v_kinds v_stacked v_drafters v_cards v_round v_turn v_high v_ringSize v_many v_has v_gives v_wants v_ring) H → va_D A (wcX9_isRing cI cJ cZ cG h h_effect h_number h_banned h_has h_life h_shield h_strength h_haveMet h_deck h_deckSize h_who h_does h_much h_against h_pack h_packSize h_gives h_wants h_tryWho h_tryDoes h_tryMuch h_tryAgainst h_tryLife h_tryShield h_ring h_row v_thrown v_today v_kinds v_stacked v_drafters v_cards v_round v_turn v_high v_ringSize v_many v_has v_gives v_wants v_ring) → va_S A s.heap H locs → lv_has ls 7 [(0, .ref h), (1, .int l1), (2, .int l2), (3, .int l3), (4, .int l4)] → W p l e rmX9_isRing s m args below meth c H locs 0 0 (MQ below (wQz r0 (wcX9_isRing cI cJ cZ cG h h_effect h_number h_banned h_has h_life h_shield h_strength h_haveMet h_deck h_deckSize h_who h_does h_much h_against h_pack h_packSize h_gives h_wants h_tryWho h_tryDoes h_tryMuch h_tryAgainst h_tryLife h_tryShield h_ring h_row v_thrown v_today v_kinds v_stacked v_drafters v_cards v_round v_turn v_high v_ringSize v_many v_has v_gives v_wants v_ring) (dC, dI) A) args s 0 0 A) (F0 m 7 ls []) := by
  obtain ⟨hx, hb, hr, hml, hown, hts, hlocks⟩ := id C0
  intro n
  induction n with
  | zero =>
    intro l1 l2 l3 l4 hz_l3 H locs ls hf hP hD hS hl
    rw [fX9_isRing_b7] at hf
    cases hf
  | succ n ih =>
    intro l1 l2 l3 l4 hz_l3 H locs ls hf hP hD hS hl
    rw [fX9_isRing_b7] at hf
    refine lv_iload hx hb dX9_isRing_7 (lv_at hl 4 rfl) ?_
    refine lv_iload_n hx hb dX9_isRing_9 rfl (lv_at hl 1 rfl) ?_
    refine lv_icmp_ge (tgt := 138) hx hb dX9_isRing_10 (by decide) (fun c_1 => ?_) (fun c_1 => ?_)
    · have hf := it_t hf c_1
      have hf : fX9_isRing_b138 v_has v_gives v_wants v_ring l3 = some r0 := hf
      exact kX9_isRing_138 C0 hA hK l3 hz_l3 _ _ _ hf hP hD hS (lv_sub hl [3] rfl)
    · have hf := it_f hf c_1
      refine lv_iload_n hx hb dX9_isRing_13 rfl (lv_at hl 3 rfl) ?_
      refine lv_if_eq (tgt := 138) hx hb dX9_isRing_14 (by decide) (fun c_2 => ?_) (fun c_2 => ?_)
      · have hf := it_t hf c_2
        have hf : fX9_isRing_b138 v_has v_gives v_wants v_ring l3 = some r0 := hf
        exact kX9_isRing_138 C0 hA hK l3 hz_l3 _ _ _ hf hP hD hS (lv_sub hl [3] rfl)
      · have hf := it_f hf c_2
        refine lv_aload_n hx hb dX9_isRing_17 rfl (lv_at hl 0 rfl) ?_
        refine va_get (D := (dC, dI)) (ci := 9) (v := .ref h_ring) (C := RX9) (T := TX9) (N := 37) hx hb hts iX9_isRing_X9 hown hK hP 0 rfl rfl 34 (by decide) (hts _ mX9_isRing_0) (fun _ h9 => h9) rfl dX9_isRing_18 ?_
        refine lv_iload hx hb dX9_isRing_21 (lv_at hl 4 rfl) ?_
        obtain ⟨hg_3, hf⟩ := ck_s hf
        refine va_iald (D := (dC, dI)) hx hb hK hP 4 0 rfl rfl (g_vp hg_3) dX9_isRing_23 ?_
        obtain ⟨x_4, ex_4, hf⟩ := nm_s hf
        refine w_eqi ex_4 ?_
        refine lv_istore (lv' := [(5, .int x_4), (0, .ref h), (1, .int l1), (2, .int l2), (3, .int l3), (4, .int l4)]) hx hb dX9_isRing_24 hl (by decide) rfl (fun ls hl => ?_)
        refine lv_aload_n hx hb dX9_isRing_26 rfl (lv_at hl 1 rfl) ?_
        refine va_get (D := (dC, dI)) (ci := 9) (v := .ref h_ring) (C := RX9) (T := TX9) (N := 37) hx hb hts iX9_isRing_X9 hown hK hP 0 rfl rfl 34 (by decide) (hts _ mX9_isRing_0) (fun _ h9 => h9) rfl dX9_isRing_27 ?_
        refine lv_iload hx hb dX9_isRing_30 (lv_at hl 5 rfl) ?_
        refine lv_iconst (v := 1) hx hb dX9_isRing_32 (by decide) ?_
        refine lv_iadd hx hb dX9_isRing_33 ?_
        refine lv_iload_n hx hb dX9_isRing_34 rfl (lv_at hl 2 rfl) ?_
        obtain ⟨hg_5, hf⟩ := ck_s hf
        refine lv_irem hx hb dX9_isRing_35 (nz_n hg_5) ?_
        obtain ⟨hg_6, hf⟩ := ck_s hf
        refine va_iald (D := (dC, dI)) hx hb hK hP 4 0 rfl rfl (g_vp hg_6) dX9_isRing_36 ?_
        obtain ⟨x_7, ex_7, hf⟩ := nm_s hf
        refine w_eqi ex_7 ?_
        refine lv_istore (lv' := [(6, .int x_7), (5, .int x_4), (0, .ref h), (1, .int l1), (2, .int l2), (3, .int l3), (4, .int l4)]) hx hb dX9_isRing_37 hl (by decide) rfl (fun ls hl => ?_)
        refine lv_iload_n hx hb dX9_isRing_39 rfl (lv_at hl 4 rfl) ?_
        refine lv_iload hx hb dX9_isRing_40 (lv_at hl 1 rfl) ?_
        refine lv_ishr hx hb dX9_isRing_42 ?_
        refine lv_iconst (v := 1) hx hb dX9_isRing_43 (by decide) ?_
        refine lv_iand hx hb dX9_isRing_44 ?_
        refine lv_if_ne (tgt := 123) hx hb dX9_isRing_45 (by decide) (fun c_8 => ?_) (fun c_8 => ?_)
        · have hf := it_f hf c_8
          have hf : fX9_isRing_b123 (fX9_isRing_b7 v_has v_gives v_wants v_ring n) v_has v_gives v_wants v_ring l1 l2 l4 x_4 = some r0 := hf
          exact kX9_isRing_123 C0 hA hK ih l1 l2 l4 x_4 _ _ _ hf hP hD hS (lv_sub hl [2, 3, 4, 6, 1] rfl)
        · have hf := it_t hf c_8
          refine lv_iload hx hb dX9_isRing_48 (lv_at hl 1 rfl) ?_
          refine lv_aload_n hx hb dX9_isRing_50 rfl (lv_at hl 2 rfl) ?_
          refine va_get (D := (dC, dI)) (ci := 9) (v := .ref h_ring) (C := RX9) (T := TX9) (N := 37) hx hb hts iX9_isRing_X9 hown hK hP 0 rfl rfl 34 (by decide) (hts _ mX9_isRing_0) (fun _ h9 => h9) rfl dX9_isRing_51 ?_
          refine lv_iconst (v := 0) hx hb dX9_isRing_54 (by decide) ?_
          obtain ⟨hg_9, hf⟩ := ck_s hf
          refine va_iald (D := (dC, dI)) hx hb hK hP 4 0 rfl rfl (g_vp hg_9) dX9_isRing_55 ?_
          refine lv_icmp_lt (tgt := 123) hx hb dX9_isRing_56 (by decide) (fun c_10 => ?_) (fun c_10 => ?_)
          · have hf := it_t hf c_10
            have hf : fX9_isRing_b123 (fX9_isRing_b7 v_has v_gives v_wants v_ring n) v_has v_gives v_wants v_ring l1 l2 l4 x_4 = some r0 := hf
            exact kX9_isRing_123 C0 hA hK ih l1 l2 l4 x_4 _ _ _ hf hP hD hS (lv_sub hl [2, 3, 4, 6, 1] rfl)
          · have hf := it_f hf c_10
            refine lv_aload_n hx hb dX9_isRing_59 rfl (lv_at hl 2 rfl) ?_
            refine va_get (D := (dC, dI)) (ci := 9) (v := .ref h_gives) (C := RX9) (T := TX9) (N := 37) hx hb hts iX9_isRing_X9 hown hK hP 0 rfl rfl 24 (by decide) (hts _ mX9_isRing_1) (fun _ h9 => h9) rfl dX9_isRing_60 ?_
            refine lv_iload hx hb dX9_isRing_63 (lv_at hl 1 rfl) ?_
            obtain ⟨hg_11, hf⟩ := ck_s hf
            refine va_iald (D := (dC, dI)) hx hb hK hP 2 0 rfl rfl (g_vp hg_11) dX9_isRing_65 ?_
            refine lv_iconst (v := (-1)) hx hb dX9_isRing_66 (by decide) ?_
            refine lv_icmp_eq (tgt := 123) hx hb dX9_isRing_67 (by decide) (fun c_12 => ?_) (fun c_12 => ?_)
            · have hf := it_t hf c_12
              have hf : fX9_isRing_b123 (fX9_isRing_b7 v_has v_gives v_wants v_ring n) v_has v_gives v_wants v_ring l1 l2 l4 x_4 = some r0 := hf
              exact kX9_isRing_123 C0 hA hK ih l1 l2 l4 x_4 _ _ _ hf hP hD hS (lv_sub hl [2, 3, 4, 6, 1] rfl)
            · have hf := it_f hf c_12
              refine lv_aload_n hx hb dX9_isRing_70 rfl (lv_at hl 2 rfl) ?_
              refine va_get (D := (dC, dI)) (ci := 9) (v := .ref h_gives) (C := RX9) (T := TX9) (N := 37) hx hb hts iX9_isRing_X9 hown hK hP 0 rfl rfl 24 (by decide) (hts _ mX9_isRing_1) (fun _ h9 => h9) rfl dX9_isRing_71 ?_
              refine lv_iload hx hb dX9_isRing_74 (lv_at hl 0 rfl) ?_
              obtain ⟨hg_13, hf⟩ := ck_s hf
              refine va_iald (D := (dC, dI)) hx hb hK hP 2 0 rfl rfl (g_vp hg_13) dX9_isRing_76 ?_
              refine lv_iconst (v := (-1)) hx hb dX9_isRing_77 (by decide) ?_
              refine lv_icmp_eq (tgt := 123) hx hb dX9_isRing_78 (by decide) (fun c_14 => ?_) (fun c_14 => ?_)
              · have hf := it_t hf c_14
                have hf : fX9_isRing_b123 (fX9_isRing_b7 v_has v_gives v_wants v_ring n) v_has v_gives v_wants v_ring l1 l2 l4 x_4 = some r0 := hf
                exact kX9_isRing_123 C0 hA hK ih l1 l2 l4 x_4 _ _ _ hf hP hD hS (lv_sub hl [2, 3, 4, 6, 1] rfl)
              · have hf := it_f hf c_14
                refine lv_aload_n hx hb dX9_isRing_81 rfl (lv_at hl 2 rfl) ?_
                refine va_get (D := (dC, dI)) (ci := 9) (v := .ref h_gives) (C := RX9) (T := TX9) (N := 37) hx hb hts iX9_isRing_X9 hown hK hP 0 rfl rfl 24 (by decide) (hts _ mX9_isRing_1) (fun _ h9 => h9) rfl dX9_isRing_82 ?_
                refine lv_iload hx hb dX9_isRing_85 (lv_at hl 1 rfl) ?_
                obtain ⟨hg_15, hf⟩ := ck_s hf
                refine va_iald (D := (dC, dI)) hx hb hK hP 2 0 rfl rfl (g_vp hg_15) dX9_isRing_87 ?_
                refine lv_aload_n hx hb dX9_isRing_88 rfl (lv_at hl 2 rfl) ?_
                refine va_get (D := (dC, dI)) (ci := 9) (v := .ref h_wants) (C := RX9) (T := TX9) (N := 37) hx hb hts iX9_isRing_X9 hown hK hP 0 rfl rfl 25 (by decide) (hts _ mX9_isRing_2) (fun _ h9 => h9) rfl dX9_isRing_89 ?_
                refine lv_iload hx hb dX9_isRing_92 (lv_at hl 0 rfl) ?_
                obtain ⟨hg_16, hf⟩ := ck_s hf
                refine va_iald (D := (dC, dI)) hx hb hK hP 3 0 rfl rfl (g_vp hg_16) dX9_isRing_94 ?_
                refine lv_icmp_ne (tgt := 123) hx hb dX9_isRing_95 (by decide) (fun c_17 => ?_) (fun c_17 => ?_)
                · have hf := it_f hf c_17
                  have hf : fX9_isRing_b123 (fX9_isRing_b7 v_has v_gives v_wants v_ring n) v_has v_gives v_wants v_ring l1 l2 l4 x_4 = some r0 := hf
                  exact kX9_isRing_123 C0 hA hK ih l1 l2 l4 x_4 _ _ _ hf hP hD hS (lv_sub hl [2, 3, 4, 6, 1] rfl)
                · have hf := it_t hf c_17
                  refine lv_aload_n hx hb dX9_isRing_98 rfl (lv_at hl 2 rfl) ?_
                  refine va_get (D := (dC, dI)) (ci := 9) (v := .ref h_has) (C := RX9) (T := TX9) (N := 37) hx hb hts iX9_isRing_X9 hown hK hP 0 rfl rfl 6 (by decide) (hts _ mX9_isRing_3) (fun _ h9 => h9) rfl dX9_isRing_99 ?_
                  refine lv_bipush (v := 20) hx hb dX9_isRing_102 (by decide) ?_
                  refine lv_iload hx hb dX9_isRing_104 (lv_at hl 1 rfl) ?_
                  refine lv_imul hx hb dX9_isRing_106 ?_
                  refine lv_aload_n hx hb dX9_isRing_107 rfl (lv_at hl 2 rfl) ?_
                  refine va_get (D := (dC, dI)) (ci := 9) (v := .ref h_gives) (C := RX9) (T := TX9) (N := 37) hx hb hts iX9_isRing_X9 hown hK hP 0 rfl rfl 24 (by decide) (hts _ mX9_isRing_1) (fun _ h9 => h9) rfl dX9_isRing_108 ?_
                  refine lv_iload hx hb dX9_isRing_111 (lv_at hl 1 rfl) ?_
                  obtain ⟨hg_18, hf⟩ := ck_s hf
                  refine va_iald (D := (dC, dI)) hx hb hK hP 2 0 rfl rfl (g_vp hg_18) dX9_isRing_113 ?_
                  refine lv_iadd hx hb dX9_isRing_114 ?_
                  obtain ⟨hg_19, hf⟩ := ck_s hf
                  refine va_iald (D := (dC, dI)) hx hb hK hP 1 0 rfl rfl (g_vp hg_19) dX9_isRing_115 ?_
                  refine lv_if_le (tgt := 123) hx hb dX9_isRing_116 (by decide) (fun c_20 => ?_) (fun c_20 => ?_)
                  · have hf := it_t hf c_20
                    have hf : fX9_isRing_b123 (fX9_isRing_b7 v_has v_gives v_wants v_ring n) v_has v_gives v_wants v_ring l1 l2 l4 x_4 = some r0 := hf
                    exact kX9_isRing_123 C0 hA hK ih l1 l2 l4 x_4 _ _ _ hf hP hD hS (lv_sub hl [2, 3, 4, 6, 1] rfl)
                  · have hf := it_f hf c_20
                    refine lv_iconst (v := 1) hx hb dX9_isRing_119 (by decide) ?_
                    refine lv_goto (tgt := 124) hx hb dX9_isRing_120 (by decide) ?_
                    have hf : fX9_isRing_b124 (fX9_isRing_b7 v_has v_gives v_wants v_ring n) v_has v_gives v_wants v_ring l1 l2 l4 x_4 1 = some r0 := hf
                    exact kX9_isRing_124 C0 hA hK ih l1 l2 l4 x_4 1 (Or.inr rfl) _ _ _ hf hP hD hS (lv_sub hl [2, 3, 4, 6, 1] rfl)
set_option maxHeartbeats 4000000 in
set_option maxRecDepth 100000 in
theorem oX9_isRing (l : Launch) (dC : Nat → ClassId) (dI : Nat → Nat → Nat) (cI cJ cZ cG : ClassId) (h h_effect h_number h_banned h_has h_life h_shield h_strength h_haveMet h_deck h_deckSize h_who h_does h_much h_against h_pack h_packSize h_gives h_wants h_tryWho h_tryDoes h_tryMuch h_tryAgainst h_tryLife h_tryShield h_ring h_row : Nat) (v_thrown : Int32) (v_today : Int32) (v_kinds : Int32) (v_stacked : Int32) (v_drafters : Int32) (v_cards : Int32) (v_round : Int32) (v_turn : Int32) (v_high : Int32) (v_ringSize : Int32) (v_many : Int32) (v_has : Nat → Int32) (v_gives : Nat → Int32) (v_wants : Nat → Int32) (v_ring : Nat → Int32) (sz : Nat) (p1 : Int32) (r0 : Int32) (hf : fX9_isRing v_has v_gives v_wants v_ring p1 = some r0) : Met l yX9_isRing wsX9_isRing rmX9_isRing (wPc [.ref h, .int p1] (dC, dI) (tysW cI cJ cZ cG) sz (wcX9_isRing cI cJ cZ cG h h_effect h_number h_banned h_has h_life h_shield h_strength h_haveMet h_deck h_deckSize h_who h_does h_much h_against h_pack h_packSize h_gives h_wants h_tryWho h_tryDoes h_tryMuch h_tryAgainst h_tryLife h_tryShield h_ring h_row v_thrown v_today v_kinds v_stacked v_drafters v_cards v_round v_turn v_high v_ringSize v_many v_has v_gives v_wants v_ring)) (wQz r0 (wcX9_isRing cI cJ cZ cG h h_effect h_number h_banned h_has h_life h_shield h_strength h_haveMet h_deck h_deckSize h_who h_does h_much h_against h_pack h_packSize h_gives h_wants h_tryWho h_tryDoes h_tryMuch h_tryAgainst h_tryLife h_tryShield h_ring h_row v_thrown v_today v_kinds v_stacked v_drafters v_cards v_round v_turn v_high v_ringSize v_many v_has v_gives v_wants v_ring) (dC, dI) (va_A (wcX9_isRing cI cJ cZ cG h h_effect h_number h_banned h_has h_life h_shield h_strength h_haveMet h_deck h_deckSize h_who h_does h_much h_against h_pack h_packSize h_gives h_wants h_tryWho h_tryDoes h_tryMuch h_tryAgainst h_tryLife h_tryShield h_ring h_row v_thrown v_today v_kinds v_stacked v_drafters v_cards v_round v_turn v_high v_ringSize v_many v_has v_gives v_wants v_ring) sz)) 0 0 (va_A (wcX9_isRing cI cJ cZ cG h h_effect h_number h_banned h_has h_life h_shield h_strength h_haveMet h_deck h_deckSize h_who h_does h_much h_against h_pack h_packSize h_gives h_wants h_tryWho h_tryDoes h_tryMuch h_tryAgainst h_tryLife h_tryShield h_ring h_row v_thrown v_today v_kinds v_stacked v_drafters v_cards v_round v_turn v_high v_ringSize v_many v_has v_gives v_wants v_ring) sz) := by
  refine Met.ofW (cc := cX9_isRing) (maxL := 7) (ret := (some .boolean)) (by decide) rfl ?_
  intro p e s m args below meth c s₁ B hml hv
  obtain ⟨rfl, hsz, hP, hK, hD0⟩ := hv
  have hx := B.exec
  have hb := B.bytes
  have hr := B.returns
  have hts := atoms_spec (ws := wsX9_isRing) B.pre
  have hown : s.vm.findClass RX9 = some m.cls := findClass_of_methodNamed B.named
  have hlocks := B.notSynchronized
  subst hsz
  have hD := hD0.self (sz := s.heap.size)
  generalize hAe : va_A (wcX9_isRing cI cJ cZ cG h h_effect h_number h_banned h_has h_life h_shield h_strength h_haveMet h_deck h_deckSize h_who h_does h_much h_against h_pack h_packSize h_gives h_wants h_tryWho h_tryDoes h_tryMuch h_tryAgainst h_tryLife h_tryShield h_ring h_row v_thrown v_today v_kinds v_stacked v_drafters v_cards v_round v_turn v_high v_ringSize v_many v_has v_gives v_wants v_ring) s.heap.size = A at hD ⊢
  have hA : ∀ q : Nat, s.heap.size ≤ q → A q := fun q h => by rw [← hAe]; exact Or.inr h
  have hS : va_S A s.heap s.heap [] := va_S.rf
  have hP : va_P (dC, dI) vwCl (wcX9_isRing cI cJ cZ cG h h_effect h_number h_banned h_has h_life h_shield h_strength h_haveMet h_deck h_deckSize h_who h_does h_much h_against h_pack h_packSize h_gives h_wants h_tryWho h_tryDoes h_tryMuch h_tryAgainst h_tryLife h_tryShield h_ring h_row v_thrown v_today v_kinds v_stacked v_drafters v_cards v_round v_turn v_high v_ringSize v_many v_has v_gives v_wants v_ring) s.heap := hP
  have hl := lv_entry ([.ref h, .int p1]) (n := 7) (Nat.le_of_ble_eq_true rfl)
  rw [lg_entry_eq]
  generalize (lg_sl ([.ref h, .int p1]) ++ List.replicate (7 - (lg_sl ([.ref h, .int p1])).length) Slot.unset).toArray = ls at hl ⊢
  have hl : lv_has ls 7 [(0, .ref h), (1, .int p1)] := hl
  generalize hH : s.heap = H at hP hS ⊢
  have hS : va_S A s.heap H [] := by rw [hH]; exact hS
  have C0 : wCX p s #[.ref h, .int p1] m meth c cX9_isRing 7 (some .boolean) RX9 wsX9_isRing := ⟨hx, hb, hr, hml, hown, hts, hlocks⟩
  show W p l e rmX9_isRing s m #[.ref h, .int p1] below meth c H [] 0 0 (MQ below (wQz r0 (wcX9_isRing cI cJ cZ cG h h_effect h_number h_banned h_has h_life h_shield h_strength h_haveMet h_deck h_deckSize h_who h_does h_much h_against h_pack h_packSize h_gives h_wants h_tryWho h_tryDoes h_tryMuch h_tryAgainst h_tryLife h_tryShield h_ring h_row v_thrown v_today v_kinds v_stacked v_drafters v_cards v_round v_turn v_high v_ringSize v_many v_has v_gives v_wants v_ring) (dC, dI) A) #[.ref h, .int p1] s 0 0 A) (F0 m 0 ls [])
  unfold fX9_isRing at hf
  refine lv_iconst (v := 0) hx hb dX9_isRing_0 (by decide) ?_
  refine lv_istore_n (lv' := [(2, .int 0), (0, .ref h), (1, .int p1)]) hx hb dX9_isRing_1 rfl hl (by decide) rfl (fun ls hl => ?_)
  refine lv_iconst (v := 1) hx hb dX9_isRing_2 (by decide) ?_
  refine lv_istore_n (lv' := [(3, .int 1), (2, .int 0), (0, .ref h), (1, .int p1)]) hx hb dX9_isRing_3 rfl hl (by decide) rfl (fun ls hl => ?_)
  refine lv_iconst (v := 0) hx hb dX9_isRing_4 (by decide) ?_
  refine lv_istore (lv' := [(4, .int 0), (3, .int 1), (2, .int 0), (0, .ref h), (1, .int p1)]) hx hb dX9_isRing_5 hl (by decide) rfl (fun ls hl => ?_)
  have hf : fX9_isRing_b7 v_has v_gives v_wants v_ring 70 p1 0 1 0 = some r0 := hf
  exact kX9_isRing_7 C0 hA hK 70 p1 0 1 0 (Or.inr rfl) _ _ _ hf hP hD hS (lv_sub hl [3, 4, 2, 1, 0] rfl)
abbrev wcX9_findRing (cI cJ cZ cG : ClassId) (h h_effect h_number h_banned h_has h_life h_shield h_strength h_haveMet h_deck h_deckSize h_who h_does h_much h_against h_pack h_packSize h_gives h_wants h_tryWho h_tryDoes h_tryMuch h_tryAgainst h_tryLife h_tryShield h_ring h_row : Nat) (v_thrown : Int32) (v_today : Int32) (v_kinds : Int32) (v_stacked : Int32) (v_drafters : Int32) (v_cards : Int32) (v_round : Int32) (v_turn : Int32) (v_high : Int32) (v_ringSize : Int32) (v_many : Int32) (v_has : Nat → Int32) (v_gives : Nat → Int32) (v_wants : Nat → Int32) (v_ring : Nat → Int32) : va_W := [(h, .inr (9, [.int v_thrown, .int v_today, .int v_kinds, .ref h_effect, .ref h_number, .ref h_banned, .ref h_has, .ref h_life, .ref h_shield, .ref h_strength, .ref h_haveMet, .ref h_deck, .ref h_deckSize, .int v_stacked, .ref h_who, .ref h_does, .ref h_much, .ref h_against, .int v_drafters, .int v_cards, .int v_round, .int v_turn, .ref h_pack, .ref h_packSize, .ref h_gives, .ref h_wants, .int v_high, .ref h_tryWho, .ref h_tryDoes, .ref h_tryMuch, .ref h_tryAgainst, .ref h_tryLife, .ref h_tryShield, .int v_ringSize, .ref h_ring, .int v_many, .ref h_row])), (h_has, .inl (cI, 120, .inl v_has)), (h_gives, .inl (cI, 6, .inl v_gives)), (h_wants, .inl (cI, 6, .inl v_wants)), (h_ring, .inl (cI, 6, .inl v_ring))]
theorem iX9_findRing_X9 : ∀ w ∈ wsX90, w ∈ wsX9_findRing := by decide +kernel
theorem mX9_findRing_0 : (Cond.fieldLink RX9 170 "SleevehallModel" "ringSize" "I") ∈ wsX9_findRing := by decide +kernel
theorem mX9_findRing_1 : (Cond.fieldLink RX9 88 "SleevehallModel" "ring" "[I") ∈ wsX9_findRing := by decide +kernel
abbrev rmX9_findRing : Room := { frames := 1, cells := 0, slots := 0, locals := 26 }
set_option maxHeartbeats 4000000 in
set_option maxRecDepth 100000 in
theorem kX9_findRing_94 {p : Program} {l : Launch} {e : Env} {s : State} {m : MethodId} {args : Array Value} {below : List Frame} {meth : Method} {c : Code} {dC : Nat → ClassId} {dI : Nat → Nat → Nat} {A : Nat → Prop} {cI cJ cZ cG : ClassId} {h h_effect h_number h_banned h_has h_life h_shield h_strength h_haveMet h_deck h_deckSize h_who h_does h_much h_against h_pack h_packSize h_gives h_wants h_tryWho h_tryDoes h_tryMuch h_tryAgainst h_tryLife h_tryShield h_ring h_row : Nat} {v_thrown : Int32} {v_today : Int32} {v_kinds : Int32} {v_stacked : Int32} {v_drafters : Int32} {v_cards : Int32} {v_round : Int32} {v_turn : Int32} {v_high : Int32} {v_many : Int32} {v_has : Nat → Int32} {v_gives : Nat → Int32} {v_wants : Nat → Int32} {n_ringSize : Int32} {n_ring : Nat → Int32} {k_10 : Int32 → (Nat → Int32) → Int32 → Int32 → Option (Int32 × (Nat → Int32))} {k_30 : Int32 → (Nat → Int32) → Int32 → Int32 → Int32 → Option (Int32 × (Nat → Int32))} (C0 : wCX p s args m meth c cX9_findRing 6 none RX9 wsX9_findRing) (hA : ∀ q, s.heap.size ≤ q → A q) (hK : va_K (dC, dI) vwCl (tysW cI cJ cZ cG) s) (hk_10 : ∀ (v_ringSize : Int32) (v_ring : Nat → Int32) (l1 : Int32) (l2 : Int32) (H : Heap) (locs : List Loc) (ls : Array Slot), k_10 v_ringSize v_ring l1 l2 = some (n_ringSize, n_ring) → va_P (dC, dI) vwCl (wcX9_findRing cI cJ cZ cG h h_effect h_number h_banned h_has h_life h_shield h_strength h_haveMet h_deck h_deckSize h_who h_does h_much h_against h_pack h_packSize h_gives h_wants h_tryWho h_tryDoes h_tryMuch h_tryAgainst h_tryLife h_tryShield h_ring h_row v_thrown v_today v_kinds v_stacked v_drafters v_cards v_round v_turn v_high v_ringSize v_many v_has v_gives v_wants v_ring) H → va_D A (wcX9_findRing cI cJ cZ cG h h_effect h_number h_banned h_has h_life h_shield h_strength h_haveMet h_deck h_deckSize h_who h_does h_much h_against h_pack h_packSize h_gives h_wants h_tryWho h_tryDoes h_tryMuch h_tryAgainst h_tryLife h_tryShield h_ring h_row v_thrown v_today v_kinds v_stacked v_drafters v_cards v_round v_turn v_high v_ringSize v_many v_has v_gives v_wants v_ring) → va_S A s.heap H locs → lv_has ls 6 [(0, .ref h), (1, .int l1), (2, .int l2)] → W p l e rmX9_findRing s m args below meth c H locs 0 0 (MQ below (wQv (wcX9_findRing cI cJ cZ cG h h_effect h_number h_banned h_has h_life h_shield h_strength h_haveMet h_deck h_deckSize h_who h_does h_much h_against h_pack h_packSize h_gives h_wants h_tryWho h_tryDoes h_tryMuch h_tryAgainst h_tryLife h_tryShield h_ring h_row v_thrown v_today v_kinds v_stacked v_drafters v_cards v_round v_turn v_high n_ringSize v_many v_has v_gives v_wants n_ring) (dC, dI) A) args s 0 0 A) (F0 m 10 ls [])) (hk_30 : ∀ (v_ringSize : Int32) (v_ring : Nat → Int32) (l1 : Int32) (l2 : Int32) (l3 : Int32) (H : Heap) (locs : List Loc) (ls : Array Slot), k_30 v_ringSize v_ring l1 l2 l3 = some (n_ringSize, n_ring) → va_P (dC, dI) vwCl (wcX9_findRing cI cJ cZ cG h h_effect h_number h_banned h_has h_life h_shield h_strength h_haveMet h_deck h_deckSize h_who h_does h_much h_against h_pack h_packSize h_gives h_wants h_tryWho h_tryDoes h_tryMuch h_tryAgainst h_tryLife h_tryShield h_ring h_row v_thrown v_today v_kinds v_stacked v_drafters v_cards v_round v_turn v_high v_ringSize v_many v_has v_gives v_wants v_ring) H → va_D A (wcX9_findRing cI cJ cZ cG h h_effect h_number h_banned h_has h_life h_shield h_strength h_haveMet h_deck h_deckSize h_who h_does h_much h_against h_pack h_packSize h_gives h_wants h_tryWho h_tryDoes h_tryMuch h_tryAgainst h_tryLife h_tryShield h_ring h_row v_thrown v_today v_kinds v_stacked v_drafters v_cards v_round v_turn v_high v_ringSize v_many v_has v_gives v_wants v_ring) → va_S A s.heap H locs → lv_has ls 6 [(0, .ref h), (1, .int l1), (2, .int l2), (3, .int l3)] → W p l e rmX9_findRing s m args below meth c H locs 0 0 (MQ below (wQv (wcX9_findRing cI cJ cZ cG h h_effect h_number h_banned h_has h_life h_shield h_strength h_haveMet h_deck h_deckSize h_who h_does h_much h_against h_pack h_packSize h_gives h_wants h_tryWho h_tryDoes h_tryMuch h_tryAgainst h_tryLife h_tryShield h_ring h_row v_thrown v_today v_kinds v_stacked v_drafters v_cards v_round v_turn v_high n_ringSize v_many v_has v_gives v_wants n_ring) (dC, dI) A) args s 0 0 A) (F0 m 30 ls [])) : ∀ (v_ringSize : Int32) (v_ring : Nat → Int32) (l1 : Int32) (l2 : Int32) (l3 : Int32) (s1 : Int32) (H : Heap) (locs : List Loc) (ls : Array Slot), fX9_findRing_b94 k_10 k_30 v_has v_gives v_wants v_ringSize v_ring l1 l2 l3 s1 = some (n_ringSize, n_ring) → va_P (dC, dI) vwCl (wcX9_findRing cI cJ cZ cG h h_effect h_number h_banned h_has h_life h_shield h_strength h_haveMet h_deck h_deckSize h_who h_does h_much h_against h_pack h_packSize h_gives h_wants h_tryWho h_tryDoes h_tryMuch h_tryAgainst h_tryLife h_tryShield h_ring h_row v_thrown v_today v_kinds v_stacked v_drafters v_cards v_round v_turn v_high v_ringSize v_many v_has v_gives v_wants v_ring) H → va_D A (wcX9_findRing cI cJ cZ cG h h_effect h_number h_banned h_has h_life h_shield h_strength h_haveMet h_deck h_deckSize h_who h_does h_much h_against h_pack h_packSize h_gives h_wants h_tryWho h_tryDoes h_tryMuch h_tryAgainst h_tryLife h_tryShield h_ring h_row v_thrown v_today v_kinds v_stacked v_drafters v_cards v_round v_turn v_high v_ringSize v_many v_has v_gives v_wants v_ring) → va_S A s.heap H locs → lv_has ls 6 [(0, .ref h), (1, .int l1), (2, .int l2), (3, .int l3)] → W p l e rmX9_findRing s m args below meth c H locs 0 0 (MQ below (wQv (wcX9_findRing cI cJ cZ cG h h_effect h_number h_banned h_has h_life h_shield h_strength h_haveMet h_deck h_deckSize h_who h_does h_much h_against h_pack h_packSize h_gives h_wants h_tryWho h_tryDoes h_tryMuch h_tryAgainst h_tryLife h_tryShield h_ring h_row v_thrown v_today v_kinds v_stacked v_drafters v_cards v_round v_turn v_high n_ringSize v_many v_has v_gives v_wants n_ring) (dC, dI) A) args s 0 0 A) (F0 m 94 ls [.int s1, .ref h]) := by
  obtain ⟨hx, hb, hr, hml, hown, hts, hlocks⟩ := id C0
  intro v_ringSize v_ring l1 l2 l3 s1 H locs ls hf hP hD hS hl
  unfold fX9_findRing_b94 at hf
  refine va_put (D := (dC, dI)) (ci := 9) (v := .int s1) (ty := .int) (C := RX9) (T := TX9) (N := 37) hx hb hts iX9_findRing_X9 tyX9 tyX9_ok nmX9 hown hK hP hD hS 0 rfl rfl 33 (by decide) (hts _ mX9_findRing_0) (fun _ h9 => h9) rfl (by decide +kernel) rfl rfl (Nat.le_of_ble_eq_true rfl) dX9_findRing_94 (fun H locs hP hD hS => ?_)
  have hP : va_P (dC, dI) vwCl (wcX9_findRing cI cJ cZ cG h h_effect h_number h_banned h_has h_life h_shield h_strength h_haveMet h_deck h_deckSize h_who h_does h_much h_against h_pack h_packSize h_gives h_wants h_tryWho h_tryDoes h_tryMuch h_tryAgainst h_tryLife h_tryShield h_ring h_row v_thrown v_today v_kinds v_stacked v_drafters v_cards v_round v_turn v_high s1 v_many v_has v_gives v_wants v_ring) H := hP
  have hD : va_D A (wcX9_findRing cI cJ cZ cG h h_effect h_number h_banned h_has h_life h_shield h_strength h_haveMet h_deck h_deckSize h_who h_does h_much h_against h_pack h_packSize h_gives h_wants h_tryWho h_tryDoes h_tryMuch h_tryAgainst h_tryLife h_tryShield h_ring h_row v_thrown v_today v_kinds v_stacked v_drafters v_cards v_round v_turn v_high s1 v_many v_has v_gives v_wants v_ring) := hD
  obtain ⟨x_1, ex_1, hf⟩ := nm_s hf
  refine lv_iinc (v := x_1) (lv' := [(3, .int x_1), (0, .ref h), (1, .int l1), (2, .int l2)]) hx hb dX9_findRing_97 hl (k := 3) rfl (by rw [ex_1]; rfl) (by decide) rfl (fun ls hl => ?_)
  refine lv_goto (tgt := 30) hx hb dX9_findRing_100 (by decide) ?_
  have hf : k_30 s1 v_ring l1 l2 x_1 = some (n_ringSize, n_ring) := hf
  exact hk_30 s1 v_ring l1 l2 x_1 _ _ _ hf hP hD hS (lv_sub hl [1, 2, 3, 0] rfl)
set_option maxHeartbeats 4000000 in
set_option maxRecDepth 100000 in
theorem kX9_findRing_50 {p : Program} {l : Launch} {e : Env} {s : State} {m : MethodId} {args : Array Value} {below : List Frame} {meth : Method} {c : Code} {dC : Nat → ClassId} {dI : Nat → Nat → Nat} {A : Nat → Prop} {cI cJ cZ cG : ClassId} {h h_effect h_number h_banned h_has h_life h_shield h_strength h_haveMet h_deck h_deckSize h_who h_does h_much h_against h_pack h_packSize h_gives h_wants h_tryWho h_tryDoes h_tryMuch h_tryAgainst h_tryLife h_tryShield h_ring h_row : Nat} {v_thrown : Int32} {v_today : Int32} {v_kinds : Int32} {v_stacked : Int32} {v_drafters : Int32} {v_cards : Int32} {v_round : Int32} {v_turn : Int32} {v_high : Int32} {v_many : Int32} {v_has : Nat → Int32} {v_gives : Nat → Int32} {v_wants : Nat → Int32} {n_ringSize : Int32} {n_ring : Nat → Int32} {k_10 : Int32 → (Nat → Int32) → Int32 → Int32 → Option (Int32 × (Nat → Int32))} {k_30 : Int32 → (Nat → Int32) → Int32 → Int32 → Int32 → Option (Int32 × (Nat → Int32))} (C0 : wCX p s args m meth c cX9_findRing 6 none RX9 wsX9_findRing) (hA : ∀ q, s.heap.size ≤ q → A q) (hK : va_K (dC, dI) vwCl (tysW cI cJ cZ cG) s) (hk_10 : ∀ (v_ringSize : Int32) (v_ring : Nat → Int32) (l1 : Int32) (l2 : Int32) (H : Heap) (locs : List Loc) (ls : Array Slot), k_10 v_ringSize v_ring l1 l2 = some (n_ringSize, n_ring) → va_P (dC, dI) vwCl (wcX9_findRing cI cJ cZ cG h h_effect h_number h_banned h_has h_life h_shield h_strength h_haveMet h_deck h_deckSize h_who h_does h_much h_against h_pack h_packSize h_gives h_wants h_tryWho h_tryDoes h_tryMuch h_tryAgainst h_tryLife h_tryShield h_ring h_row v_thrown v_today v_kinds v_stacked v_drafters v_cards v_round v_turn v_high v_ringSize v_many v_has v_gives v_wants v_ring) H → va_D A (wcX9_findRing cI cJ cZ cG h h_effect h_number h_banned h_has h_life h_shield h_strength h_haveMet h_deck h_deckSize h_who h_does h_much h_against h_pack h_packSize h_gives h_wants h_tryWho h_tryDoes h_tryMuch h_tryAgainst h_tryLife h_tryShield h_ring h_row v_thrown v_today v_kinds v_stacked v_drafters v_cards v_round v_turn v_high v_ringSize v_many v_has v_gives v_wants v_ring) → va_S A s.heap H locs → lv_has ls 6 [(0, .ref h), (1, .int l1), (2, .int l2)] → W p l e rmX9_findRing s m args below meth c H locs 0 0 (MQ below (wQv (wcX9_findRing cI cJ cZ cG h h_effect h_number h_banned h_has h_life h_shield h_strength h_haveMet h_deck h_deckSize h_who h_does h_much h_against h_pack h_packSize h_gives h_wants h_tryWho h_tryDoes h_tryMuch h_tryAgainst h_tryLife h_tryShield h_ring h_row v_thrown v_today v_kinds v_stacked v_drafters v_cards v_round v_turn v_high n_ringSize v_many v_has v_gives v_wants n_ring) (dC, dI) A) args s 0 0 A) (F0 m 10 ls [])) (hk_30 : ∀ (v_ringSize : Int32) (v_ring : Nat → Int32) (l1 : Int32) (l2 : Int32) (l3 : Int32) (H : Heap) (locs : List Loc) (ls : Array Slot), k_30 v_ringSize v_ring l1 l2 l3 = some (n_ringSize, n_ring) → va_P (dC, dI) vwCl (wcX9_findRing cI cJ cZ cG h h_effect h_number h_banned h_has h_life h_shield h_strength h_haveMet h_deck h_deckSize h_who h_does h_much h_against h_pack h_packSize h_gives h_wants h_tryWho h_tryDoes h_tryMuch h_tryAgainst h_tryLife h_tryShield h_ring h_row v_thrown v_today v_kinds v_stacked v_drafters v_cards v_round v_turn v_high v_ringSize v_many v_has v_gives v_wants v_ring) H → va_D A (wcX9_findRing cI cJ cZ cG h h_effect h_number h_banned h_has h_life h_shield h_strength h_haveMet h_deck h_deckSize h_who h_does h_much h_against h_pack h_packSize h_gives h_wants h_tryWho h_tryDoes h_tryMuch h_tryAgainst h_tryLife h_tryShield h_ring h_row v_thrown v_today v_kinds v_stacked v_drafters v_cards v_round v_turn v_high v_ringSize v_many v_has v_gives v_wants v_ring) → va_S A s.heap H locs → lv_has ls 6 [(0, .ref h), (1, .int l1), (2, .int l2), (3, .int l3)] → W p l e rmX9_findRing s m args below meth c H locs 0 0 (MQ below (wQv (wcX9_findRing cI cJ cZ cG h h_effect h_number h_banned h_has h_life h_shield h_strength h_haveMet h_deck h_deckSize h_who h_does h_much h_against h_pack h_packSize h_gives h_wants h_tryWho h_tryDoes h_tryMuch h_tryAgainst h_tryLife h_tryShield h_ring h_row v_thrown v_today v_kinds v_stacked v_drafters v_cards v_round v_turn v_high n_ringSize v_many v_has v_gives v_wants n_ring) (dC, dI) A) args s 0 0 A) (F0 m 30 ls [])) : ∀ (n : Nat), ∀ (v_ringSize : Int32) (v_ring : Nat → Int32) (l1 : Int32) (l2 : Int32) (l3 : Int32) (l4 : Int32) (l5 : Int32) (H : Heap) (locs : List Loc) (ls : Array Slot), fX9_findRing_b50 k_10 k_30 v_has v_gives v_wants n v_ringSize v_ring l1 l2 l3 l4 l5 = some (n_ringSize, n_ring) → va_P (dC, dI) vwCl (wcX9_findRing cI cJ cZ cG h h_effect h_number h_banned h_has h_life h_shield h_strength h_haveMet h_deck h_deckSize h_who h_does h_much h_against h_pack h_packSize h_gives h_wants h_tryWho h_tryDoes h_tryMuch h_tryAgainst h_tryLife h_tryShield h_ring h_row v_thrown v_today v_kinds v_stacked v_drafters v_cards v_round v_turn v_high v_ringSize v_many v_has v_gives v_wants v_ring) H → va_D A (wcX9_findRing cI cJ cZ cG h h_effect h_number h_banned h_has h_life h_shield h_strength h_haveMet h_deck h_deckSize h_who h_does h_much h_against h_pack h_packSize h_gives h_wants h_tryWho h_tryDoes h_tryMuch h_tryAgainst h_tryLife h_tryShield h_ring h_row v_thrown v_today v_kinds v_stacked v_drafters v_cards v_round v_turn v_high v_ringSize v_many v_has v_gives v_wants v_ring) → va_S A s.heap H locs → lv_has ls 6 [(0, .ref h), (1, .int l1), (2, .int l2), (3, .int l3), (4, .int l4), (5, .int l5)] → W p l e rmX9_findRing s m args below meth c H locs 0 0 (MQ below (wQv (wcX9_findRing cI cJ cZ cG h h_effect h_number h_banned h_has h_life h_shield h_strength h_haveMet h_deck h_deckSize h_who h_does h_much h_against h_pack h_packSize h_gives h_wants h_tryWho h_tryDoes h_tryMuch h_tryAgainst h_tryLife h_tryShield h_ring h_row v_thrown v_today v_kinds v_stacked v_drafters v_cards v_round v_turn v_high n_ringSize v_many v_has v_gives v_wants n_ring) (dC, dI) A) args s 0 0 A) (F0 m 50 ls []) := by
  obtain ⟨hx, hb, hr, hml, hown, hts, hlocks⟩ := id C0
  intro n
  induction n with
  | zero =>
    intro v_ringSize v_ring l1 l2 l3 l4 l5 H locs ls hf hP hD hS hl
    rw [fX9_findRing_b50] at hf
    cases hf
  | succ n ih =>
    intro v_ringSize v_ring l1 l2 l3 l4 l5 H locs ls hf hP hD hS hl
    rw [fX9_findRing_b50] at hf
    refine lv_iload hx hb dX9_findRing_50 (lv_at hl 5 rfl) ?_
    refine lv_if_lt (tgt := 80) hx hb dX9_findRing_52 (by decide) (fun c_1 => ?_) (fun c_1 => ?_)
    · have hf := it_t hf c_1
      refine lv_aload_n hx hb dX9_findRing_80 rfl (lv_at hl 0 rfl) ?_
      refine lv_aload_n hx hb dX9_findRing_81 rfl (lv_at hl 0 rfl) ?_
      refine lv_iload_n hx hb dX9_findRing_82 rfl (lv_at hl 2 rfl) ?_
      obtain ⟨r_2, hc_3, hf⟩ := ob_s hf
      refine w_callVz (As := [.int l2]) (rest := [.ref h]) (wr := List.filterMap (fun i : Nat => (wcX9_findRing cI cJ cZ cG h h_effect h_number h_banned h_has h_life h_shield h_strength h_haveMet h_deck h_deckSize h_who h_does h_much h_against h_pack h_packSize h_gives h_wants h_tryWho h_tryDoes h_tryMuch h_tryAgainst h_tryLife h_tryShield h_ring h_row v_thrown v_today v_kinds v_stacked v_drafters v_cards v_round v_turn v_high v_ringSize v_many v_has v_gives v_wants v_ring)[i]?) []) (ws1 := (wcX9_findRing cI cJ cZ cG h h_effect h_number h_banned h_has h_life h_shield h_strength h_haveMet h_deck h_deckSize h_who h_does h_much h_against h_pack h_packSize h_gives h_wants h_tryWho h_tryDoes h_tryMuch h_tryAgainst h_tryLife h_tryShield h_ring h_row v_thrown v_today v_kinds v_stacked v_drafters v_cards v_round v_turn v_high v_ringSize v_many v_has v_gives v_wants v_ring)) ⟨hx, hb, hml, hown, hts⟩ (oX9_isRing l dC dI cI cJ cZ cG h h_effect h_number h_banned h_has h_life h_shield h_strength h_haveMet h_deck h_deckSize h_who h_does h_much h_against h_pack h_packSize h_gives h_wants h_tryWho h_tryDoes h_tryMuch h_tryAgainst h_tryLife h_tryShield h_ring h_row v_thrown v_today v_kinds v_stacked v_drafters v_cards v_round v_turn v_high v_ringSize v_many v_has v_gives v_wants v_ring H.size l2 r_2 hc_3) (cwV 1 hts gX9_findRing_X9_isRing rfl rfl rfl (by decide +kernel) ⟨Nat.le_of_ble_eq_true rfl, Nat.le_of_ble_eq_true rfl⟩) hK 0 9 rfl rfl rfl hP hD hS hA [0, 1, 2, 3, 4] [] [0, 1, 2, 3, 4] rfl rfl rfl rfl (by decide) rfl rfl rfl hl.1 rfl (Nat.le_of_ble_eq_true rfl) dX9_findRing_83 ⟨Nat.le_refl _, Nat.le_refl _⟩ (fun hz_4 H locs hP hD hS => ?_)
      refine lv_if_eq (tgt := 93) hx hb dX9_findRing_86 (by decide) (fun c_5 => ?_) (fun c_5 => ?_)
      · have hf := it_t hf c_5
        refine lv_iconst (v := 0) hx hb dX9_findRing_93 (by decide) ?_
        have hf : fX9_findRing_b94 k_10 k_30 v_has v_gives v_wants v_ringSize v_ring l1 l2 l3 0 = some (n_ringSize, n_ring) := hf
        exact kX9_findRing_94 C0 hA hK hk_10 hk_30 v_ringSize v_ring l1 l2 l3 0 _ _ _ hf hP hD hS (lv_sub hl [0, 1, 2, 3] rfl)
      · have hf := it_f hf c_5
        refine lv_iload_n hx hb dX9_findRing_89 rfl (lv_at hl 2 rfl) ?_
        refine lv_goto (tgt := 94) hx hb dX9_findRing_90 (by decide) ?_
        have hf : fX9_findRing_b94 k_10 k_30 v_has v_gives v_wants v_ringSize v_ring l1 l2 l3 l2 = some (n_ringSize, n_ring) := hf
        exact kX9_findRing_94 C0 hA hK hk_10 hk_30 v_ringSize v_ring l1 l2 l3 l2 _ _ _ hf hP hD hS (lv_sub hl [0, 1, 2, 3] rfl)
    · have hf := it_f hf c_1
      refine lv_aload_n hx hb dX9_findRing_55 rfl (lv_at hl 0 rfl) ?_
      refine va_get (D := (dC, dI)) (ci := 9) (v := .ref h_ring) (C := RX9) (T := TX9) (N := 37) hx hb hts iX9_findRing_X9 hown hK hP 0 rfl rfl 34 (by decide) (hts _ mX9_findRing_1) (fun _ h9 => h9) rfl dX9_findRing_56 ?_
      refine lv_iload hx hb dX9_findRing_59 (lv_at hl 5 rfl) ?_
      refine lv_iload hx hb dX9_findRing_61 (lv_at hl 4 rfl) ?_
      refine lv_bipush (v := 6) hx hb dX9_findRing_63 (by decide) ?_
      refine lv_irem hx hb dX9_findRing_65 (by decide) ?_
      obtain ⟨x_6, ex_6, hf⟩ := nm_s hf
      refine w_eqi ex_6 ?_
      obtain ⟨hg_7, hf⟩ := ck_s hf
      refine va_iast (D := (dC, dI)) hx hb hK hP hD hS 4 0 rfl rfl (g_vp hg_7) dX9_findRing_66 (fun H locs hP hD hS => ?_)
      have hP : va_P (dC, dI) vwCl (wcX9_findRing cI cJ cZ cG h h_effect h_number h_banned h_has h_life h_shield h_strength h_haveMet h_deck h_deckSize h_who h_does h_much h_against h_pack h_packSize h_gives h_wants h_tryWho h_tryDoes h_tryMuch h_tryAgainst h_tryLife h_tryShield h_ring h_row v_thrown v_today v_kinds v_stacked v_drafters v_cards v_round v_turn v_high v_ringSize v_many v_has v_gives v_wants (upd v_ring l5.toNatClampNeg x_6)) H := hP
      have hD : va_D A (wcX9_findRing cI cJ cZ cG h h_effect h_number h_banned h_has h_life h_shield h_strength h_haveMet h_deck h_deckSize h_who h_does h_much h_against h_pack h_packSize h_gives h_wants h_tryWho h_tryDoes h_tryMuch h_tryAgainst h_tryLife h_tryShield h_ring h_row v_thrown v_today v_kinds v_stacked v_drafters v_cards v_round v_turn v_high v_ringSize v_many v_has v_gives v_wants (upd v_ring l5.toNatClampNeg x_6)) := hD
      refine lv_iload hx hb dX9_findRing_67 (lv_at hl 4 rfl) ?_
      refine lv_bipush (v := 6) hx hb dX9_findRing_69 (by decide) ?_
      refine lv_idiv hx hb dX9_findRing_71 (by decide) ?_
      obtain ⟨x_8, ex_8, hf⟩ := nm_s hf
      refine w_eqi ex_8 ?_
      refine lv_istore (lv' := [(4, .int x_8), (0, .ref h), (1, .int l1), (2, .int l2), (3, .int l3), (5, .int l5)]) hx hb dX9_findRing_72 hl (by decide) rfl (fun ls hl => ?_)
      obtain ⟨x_9, ex_9, hf⟩ := nm_s hf
      refine lv_iinc (v := x_9) (lv' := [(5, .int x_9), (4, .int x_8), (0, .ref h), (1, .int l1), (2, .int l2), (3, .int l3)]) hx hb dX9_findRing_74 hl (k := 5) rfl (by rw [ex_9]; rfl) (by decide) rfl (fun ls hl => ?_)
      refine lv_goto (tgt := 50) hx hb dX9_findRing_77 (by decide) ?_
      have hf : (fX9_findRing_b50 k_10 k_30 v_has v_gives v_wants n) v_ringSize (upd v_ring l5.toNatClampNeg x_6) l1 l2 l3 x_8 x_9 = some (n_ringSize, n_ring) := hf
      exact ih v_ringSize (upd v_ring l5.toNatClampNeg x_6) l1 l2 l3 x_8 x_9 _ _ _ hf hP hD hS (lv_sub hl [2, 3, 4, 5, 1, 0] rfl)
set_option maxHeartbeats 4000000 in
set_option maxRecDepth 100000 in
theorem kX9_findRing_103 {p : Program} {l : Launch} {e : Env} {s : State} {m : MethodId} {args : Array Value} {below : List Frame} {meth : Method} {c : Code} {dC : Nat → ClassId} {dI : Nat → Nat → Nat} {A : Nat → Prop} {cI cJ cZ cG : ClassId} {h h_effect h_number h_banned h_has h_life h_shield h_strength h_haveMet h_deck h_deckSize h_who h_does h_much h_against h_pack h_packSize h_gives h_wants h_tryWho h_tryDoes h_tryMuch h_tryAgainst h_tryLife h_tryShield h_ring h_row : Nat} {v_thrown : Int32} {v_today : Int32} {v_kinds : Int32} {v_stacked : Int32} {v_drafters : Int32} {v_cards : Int32} {v_round : Int32} {v_turn : Int32} {v_high : Int32} {v_many : Int32} {v_has : Nat → Int32} {v_gives : Nat → Int32} {v_wants : Nat → Int32} {n_ringSize : Int32} {n_ring : Nat → Int32} {k_10 : Int32 → (Nat → Int32) → Int32 → Int32 → Option (Int32 × (Nat → Int32))} (C0 : wCX p s args m meth c cX9_findRing 6 none RX9 wsX9_findRing) (hA : ∀ q, s.heap.size ≤ q → A q) (hK : va_K (dC, dI) vwCl (tysW cI cJ cZ cG) s) (hk_10 : ∀ (v_ringSize : Int32) (v_ring : Nat → Int32) (l1 : Int32) (l2 : Int32) (H : Heap) (locs : List Loc) (ls : Array Slot), k_10 v_ringSize v_ring l1 l2 = some (n_ringSize, n_ring) → va_P (dC, dI) vwCl (wcX9_findRing cI cJ cZ cG h h_effect h_number h_banned h_has h_life h_shield h_strength h_haveMet h_deck h_deckSize h_who h_does h_much h_against h_pack h_packSize h_gives h_wants h_tryWho h_tryDoes h_tryMuch h_tryAgainst h_tryLife h_tryShield h_ring h_row v_thrown v_today v_kinds v_stacked v_drafters v_cards v_round v_turn v_high v_ringSize v_many v_has v_gives v_wants v_ring) H → va_D A (wcX9_findRing cI cJ cZ cG h h_effect h_number h_banned h_has h_life h_shield h_strength h_haveMet h_deck h_deckSize h_who h_does h_much h_against h_pack h_packSize h_gives h_wants h_tryWho h_tryDoes h_tryMuch h_tryAgainst h_tryLife h_tryShield h_ring h_row v_thrown v_today v_kinds v_stacked v_drafters v_cards v_round v_turn v_high v_ringSize v_many v_has v_gives v_wants v_ring) → va_S A s.heap H locs → lv_has ls 6 [(0, .ref h), (1, .int l1), (2, .int l2)] → W p l e rmX9_findRing s m args below meth c H locs 0 0 (MQ below (wQv (wcX9_findRing cI cJ cZ cG h h_effect h_number h_banned h_has h_life h_shield h_strength h_haveMet h_deck h_deckSize h_who h_does h_much h_against h_pack h_packSize h_gives h_wants h_tryWho h_tryDoes h_tryMuch h_tryAgainst h_tryLife h_tryShield h_ring h_row v_thrown v_today v_kinds v_stacked v_drafters v_cards v_round v_turn v_high n_ringSize v_many v_has v_gives v_wants n_ring) (dC, dI) A) args s 0 0 A) (F0 m 10 ls [])) : ∀ (v_ringSize : Int32) (v_ring : Nat → Int32) (l1 : Int32) (l2 : Int32) (H : Heap) (locs : List Loc) (ls : Array Slot), fX9_findRing_b103 k_10 v_has v_gives v_wants v_ringSize v_ring l1 l2 = some (n_ringSize, n_ring) → va_P (dC, dI) vwCl (wcX9_findRing cI cJ cZ cG h h_effect h_number h_banned h_has h_life h_shield h_strength h_haveMet h_deck h_deckSize h_who h_does h_much h_against h_pack h_packSize h_gives h_wants h_tryWho h_tryDoes h_tryMuch h_tryAgainst h_tryLife h_tryShield h_ring h_row v_thrown v_today v_kinds v_stacked v_drafters v_cards v_round v_turn v_high v_ringSize v_many v_has v_gives v_wants v_ring) H → va_D A (wcX9_findRing cI cJ cZ cG h h_effect h_number h_banned h_has h_life h_shield h_strength h_haveMet h_deck h_deckSize h_who h_does h_much h_against h_pack h_packSize h_gives h_wants h_tryWho h_tryDoes h_tryMuch h_tryAgainst h_tryLife h_tryShield h_ring h_row v_thrown v_today v_kinds v_stacked v_drafters v_cards v_round v_turn v_high v_ringSize v_many v_has v_gives v_wants v_ring) → va_S A s.heap H locs → lv_has ls 6 [(0, .ref h), (1, .int l1), (2, .int l2)] → W p l e rmX9_findRing s m args below meth c H locs 0 0 (MQ below (wQv (wcX9_findRing cI cJ cZ cG h h_effect h_number h_banned h_has h_life h_shield h_strength h_haveMet h_deck h_deckSize h_who h_does h_much h_against h_pack h_packSize h_gives h_wants h_tryWho h_tryDoes h_tryMuch h_tryAgainst h_tryLife h_tryShield h_ring h_row v_thrown v_today v_kinds v_stacked v_drafters v_cards v_round v_turn v_high n_ringSize v_many v_has v_gives v_wants n_ring) (dC, dI) A) args s 0 0 A) (F0 m 103 ls []) := by
  obtain ⟨hx, hb, hr, hml, hown, hts, hlocks⟩ := id C0
  intro v_ringSize v_ring l1 l2 H locs ls hf hP hD hS hl
  unfold fX9_findRing_b103 at hf
  obtain ⟨x_1, ex_1, hf⟩ := nm_s hf
  refine lv_iinc (v := x_1) (lv' := [(2, .int x_1), (0, .ref h), (1, .int l1)]) hx hb dX9_findRing_103 hl (k := 2) rfl (by rw [ex_1]; rfl) (by decide) rfl (fun ls hl => ?_)
  refine lv_goto (tgt := 10) hx hb dX9_findRing_106 (by decide) ?_
  have hf : k_10 v_ringSize v_ring l1 x_1 = some (n_ringSize, n_ring) := hf
  exact hk_10 v_ringSize v_ring l1 x_1 _ _ _ hf hP hD hS (lv_sub hl [1, 2, 0] rfl)
set_option maxHeartbeats 4000000 in
set_option maxRecDepth 100000 in
theorem kX9_findRing_30 {p : Program} {l : Launch} {e : Env} {s : State} {m : MethodId} {args : Array Value} {below : List Frame} {meth : Method} {c : Code} {dC : Nat → ClassId} {dI : Nat → Nat → Nat} {A : Nat → Prop} {cI cJ cZ cG : ClassId} {h h_effect h_number h_banned h_has h_life h_shield h_strength h_haveMet h_deck h_deckSize h_who h_does h_much h_against h_pack h_packSize h_gives h_wants h_tryWho h_tryDoes h_tryMuch h_tryAgainst h_tryLife h_tryShield h_ring h_row : Nat} {v_thrown : Int32} {v_today : Int32} {v_kinds : Int32} {v_stacked : Int32} {v_drafters : Int32} {v_cards : Int32} {v_round : Int32} {v_turn : Int32} {v_high : Int32} {v_many : Int32} {v_has : Nat → Int32} {v_gives : Nat → Int32} {v_wants : Nat → Int32} {n_ringSize : Int32} {n_ring : Nat → Int32} {k_10 : Int32 → (Nat → Int32) → Int32 → Int32 → Option (Int32 × (Nat → Int32))} (C0 : wCX p s args m meth c cX9_findRing 6 none RX9 wsX9_findRing) (hA : ∀ q, s.heap.size ≤ q → A q) (hK : va_K (dC, dI) vwCl (tysW cI cJ cZ cG) s) (hk_10 : ∀ (v_ringSize : Int32) (v_ring : Nat → Int32) (l1 : Int32) (l2 : Int32) (H : Heap) (locs : List Loc) (ls : Array Slot), k_10 v_ringSize v_ring l1 l2 = some (n_ringSize, n_ring) → va_P (dC, dI) vwCl (wcX9_findRing cI cJ cZ cG h h_effect h_number h_banned h_has h_life h_shield h_strength h_haveMet h_deck h_deckSize h_who h_does h_much h_against h_pack h_packSize h_gives h_wants h_tryWho h_tryDoes h_tryMuch h_tryAgainst h_tryLife h_tryShield h_ring h_row v_thrown v_today v_kinds v_stacked v_drafters v_cards v_round v_turn v_high v_ringSize v_many v_has v_gives v_wants v_ring) H → va_D A (wcX9_findRing cI cJ cZ cG h h_effect h_number h_banned h_has h_life h_shield h_strength h_haveMet h_deck h_deckSize h_who h_does h_much h_against h_pack h_packSize h_gives h_wants h_tryWho h_tryDoes h_tryMuch h_tryAgainst h_tryLife h_tryShield h_ring h_row v_thrown v_today v_kinds v_stacked v_drafters v_cards v_round v_turn v_high v_ringSize v_many v_has v_gives v_wants v_ring) → va_S A s.heap H locs → lv_has ls 6 [(0, .ref h), (1, .int l1), (2, .int l2)] → W p l e rmX9_findRing s m args below meth c H locs 0 0 (MQ below (wQv (wcX9_findRing cI cJ cZ cG h h_effect h_number h_banned h_has h_life h_shield h_strength h_haveMet h_deck h_deckSize h_who h_does h_much h_against h_pack h_packSize h_gives h_wants h_tryWho h_tryDoes h_tryMuch h_tryAgainst h_tryLife h_tryShield h_ring h_row v_thrown v_today v_kinds v_stacked v_drafters v_cards v_round v_turn v_high n_ringSize v_many v_has v_gives v_wants n_ring) (dC, dI) A) args s 0 0 A) (F0 m 10 ls [])) : ∀ (n : Nat), ∀ (v_ringSize : Int32) (v_ring : Nat → Int32) (l1 : Int32) (l2 : Int32) (l3 : Int32) (H : Heap) (locs : List Loc) (ls : Array Slot), fX9_findRing_b30 k_10 v_has v_gives v_wants n v_ringSize v_ring l1 l2 l3 = some (n_ringSize, n_ring) → va_P (dC, dI) vwCl (wcX9_findRing cI cJ cZ cG h h_effect h_number h_banned h_has h_life h_shield h_strength h_haveMet h_deck h_deckSize h_who h_does h_much h_against h_pack h_packSize h_gives h_wants h_tryWho h_tryDoes h_tryMuch h_tryAgainst h_tryLife h_tryShield h_ring h_row v_thrown v_today v_kinds v_stacked v_drafters v_cards v_round v_turn v_high v_ringSize v_many v_has v_gives v_wants v_ring) H → va_D A (wcX9_findRing cI cJ cZ cG h h_effect h_number h_banned h_has h_life h_shield h_strength h_haveMet h_deck h_deckSize h_who h_does h_much h_against h_pack h_packSize h_gives h_wants h_tryWho h_tryDoes h_tryMuch h_tryAgainst h_tryLife h_tryShield h_ring h_row v_thrown v_today v_kinds v_stacked v_drafters v_cards v_round v_turn v_high v_ringSize v_many v_has v_gives v_wants v_ring) → va_S A s.heap H locs → lv_has ls 6 [(0, .ref h), (1, .int l1), (2, .int l2), (3, .int l3)] → W p l e rmX9_findRing s m args below meth c H locs 0 0 (MQ below (wQv (wcX9_findRing cI cJ cZ cG h h_effect h_number h_banned h_has h_life h_shield h_strength h_haveMet h_deck h_deckSize h_who h_does h_much h_against h_pack h_packSize h_gives h_wants h_tryWho h_tryDoes h_tryMuch h_tryAgainst h_tryLife h_tryShield h_ring h_row v_thrown v_today v_kinds v_stacked v_drafters v_cards v_round v_turn v_high n_ringSize v_many v_has v_gives v_wants n_ring) (dC, dI) A) args s 0 0 A) (F0 m 30 ls []) := by
  obtain ⟨hx, hb, hr, hml, hown, hts, hlocks⟩ := id C0
  intro n
  induction n with
  | zero =>
    intro v_ringSize v_ring l1 l2 l3 H locs ls hf hP hD hS hl
    rw [fX9_findRing_b30] at hf
    cases hf
  | succ n ih =>
    intro v_ringSize v_ring l1 l2 l3 H locs ls hf hP hD hS hl
    rw [fX9_findRing_b30] at hf
    refine lv_iload_n hx hb dX9_findRing_30 rfl (lv_at hl 3 rfl) ?_
    refine lv_iload_n hx hb dX9_findRing_31 rfl (lv_at hl 1 rfl) ?_
    refine lv_icmp_ge (tgt := 103) hx hb dX9_findRing_32 (by decide) (fun c_1 => ?_) (fun c_1 => ?_)
    · have hf := it_t hf c_1
      have hf : fX9_findRing_b103 k_10 v_has v_gives v_wants v_ringSize v_ring l1 l2 = some (n_ringSize, n_ring) := hf
      exact kX9_findRing_103 C0 hA hK hk_10 v_ringSize v_ring l1 l2 _ _ _ hf hP hD hS (lv_sub hl [0, 1, 2] rfl)
    · have hf := it_f hf c_1
      refine lv_aload_n hx hb dX9_findRing_35 rfl (lv_at hl 0 rfl) ?_
      refine va_get (D := (dC, dI)) (ci := 9) (v := .int v_ringSize) (C := RX9) (T := TX9) (N := 37) hx hb hts iX9_findRing_X9 hown hK hP 0 rfl rfl 33 (by decide) (hts _ mX9_findRing_0) (fun _ h9 => h9) rfl dX9_findRing_36 ?_
      refine lv_if_ne (tgt := 103) hx hb dX9_findRing_39 (by decide) (fun c_2 => ?_) (fun c_2 => ?_)
      · have hf := it_f hf c_2
        have hf : fX9_findRing_b103 k_10 v_has v_gives v_wants v_ringSize v_ring l1 l2 = some (n_ringSize, n_ring) := hf
        exact kX9_findRing_103 C0 hA hK hk_10 v_ringSize v_ring l1 l2 _ _ _ hf hP hD hS (lv_sub hl [0, 1, 2] rfl)
      · have hf := it_t hf c_2
        refine lv_iload_n hx hb dX9_findRing_42 rfl (lv_at hl 3 rfl) ?_
        refine lv_istore (lv' := [(4, .int l3), (0, .ref h), (1, .int l1), (2, .int l2), (3, .int l3)]) hx hb dX9_findRing_43 hl (by decide) rfl (fun ls hl => ?_)
        refine lv_iload_n hx hb dX9_findRing_45 rfl (lv_at hl 3 rfl) ?_
        refine lv_iconst (v := 1) hx hb dX9_findRing_46 (by decide) ?_
        refine lv_isub hx hb dX9_findRing_47 ?_
        obtain ⟨x_3, ex_3, hf⟩ := nm_s hf
        refine w_eqi ex_3 ?_
        refine lv_istore (lv' := [(5, .int x_3), (4, .int l3), (0, .ref h), (1, .int l1), (2, .int l2), (3, .int l3)]) hx hb dX9_findRing_48 hl (by decide) rfl (fun ls hl => ?_)
        have hf : fX9_findRing_b50 k_10 (fX9_findRing_b30 k_10 v_has v_gives v_wants n) v_has v_gives v_wants 50000 v_ringSize v_ring l1 l2 l3 l3 x_3 = some (n_ringSize, n_ring) := hf
        exact kX9_findRing_50 C0 hA hK hk_10 ih 50000 v_ringSize v_ring l1 l2 l3 l3 x_3 _ _ _ hf hP hD hS (lv_sub hl [2, 3, 4, 5, 1, 0] rfl)
set_option maxHeartbeats 4000000 in
set_option maxRecDepth 100000 in
theorem kX9_findRing_109 {p : Program} {l : Launch} {e : Env} {s : State} {m : MethodId} {args : Array Value} {below : List Frame} {meth : Method} {c : Code} {dC : Nat → ClassId} {dI : Nat → Nat → Nat} {A : Nat → Prop} {cI cJ cZ cG : ClassId} {h h_effect h_number h_banned h_has h_life h_shield h_strength h_haveMet h_deck h_deckSize h_who h_does h_much h_against h_pack h_packSize h_gives h_wants h_tryWho h_tryDoes h_tryMuch h_tryAgainst h_tryLife h_tryShield h_ring h_row : Nat} {v_thrown : Int32} {v_today : Int32} {v_kinds : Int32} {v_stacked : Int32} {v_drafters : Int32} {v_cards : Int32} {v_round : Int32} {v_turn : Int32} {v_high : Int32} {v_many : Int32} {v_has : Nat → Int32} {v_gives : Nat → Int32} {v_wants : Nat → Int32} {n_ringSize : Int32} {n_ring : Nat → Int32} (C0 : wCX p s args m meth c cX9_findRing 6 none RX9 wsX9_findRing) (hA : ∀ q, s.heap.size ≤ q → A q) (hK : va_K (dC, dI) vwCl (tysW cI cJ cZ cG) s) : ∀ (v_ringSize : Int32) (v_ring : Nat → Int32) (H : Heap) (locs : List Loc) (ls : Array Slot), fX9_findRing_b109 v_has v_gives v_wants v_ringSize v_ring = some (n_ringSize, n_ring) → va_P (dC, dI) vwCl (wcX9_findRing cI cJ cZ cG h h_effect h_number h_banned h_has h_life h_shield h_strength h_haveMet h_deck h_deckSize h_who h_does h_much h_against h_pack h_packSize h_gives h_wants h_tryWho h_tryDoes h_tryMuch h_tryAgainst h_tryLife h_tryShield h_ring h_row v_thrown v_today v_kinds v_stacked v_drafters v_cards v_round v_turn v_high v_ringSize v_many v_has v_gives v_wants v_ring) H → va_D A (wcX9_findRing cI cJ cZ cG h h_effect h_number h_banned h_has h_life h_shield h_strength h_haveMet h_deck h_deckSize h_who h_does h_much h_against h_pack h_packSize h_gives h_wants h_tryWho h_tryDoes h_tryMuch h_tryAgainst h_tryLife h_tryShield h_ring h_row v_thrown v_today v_kinds v_stacked v_drafters v_cards v_round v_turn v_high v_ringSize v_many v_has v_gives v_wants v_ring) → va_S A s.heap H locs → lv_has ls 6 [] → W p l e rmX9_findRing s m args below meth c H locs 0 0 (MQ below (wQv (wcX9_findRing cI cJ cZ cG h h_effect h_number h_banned h_has h_life h_shield h_strength h_haveMet h_deck h_deckSize h_who h_does h_much h_against h_pack h_packSize h_gives h_wants h_tryWho h_tryDoes h_tryMuch h_tryAgainst h_tryLife h_tryShield h_ring h_row v_thrown v_today v_kinds v_stacked v_drafters v_cards v_round v_turn v_high n_ringSize v_many v_has v_gives v_wants n_ring) (dC, dI) A) args s 0 0 A) (F0 m 109 ls []) := by
  obtain ⟨hx, hb, hr, hml, hown, hts, hlocks⟩ := id C0
  intro v_ringSize v_ring H locs ls hf hP hD hS hl
  unfold fX9_findRing_b109 at hf
  have hf : some (v_ringSize, v_ring) = some (n_ringSize, n_ring) := hf
  cases hf
  exact w_vret hx hb hr hlocks hP hD hS dX9_findRing_109
set_option maxHeartbeats 4000000 in
set_option maxRecDepth 100000 in
theorem kX9_findRing_10 {p : Program} {l : Launch} {e : Env} {s : State} {m : MethodId} {args : Array Value} {below : List Frame} {meth : Method} {c : Code} {dC : Nat → ClassId} {dI : Nat → Nat → Nat} {A : Nat → Prop} {cI cJ cZ cG : ClassId} {h h_effect h_number h_banned h_has h_life h_shield h_strength h_haveMet h_deck h_deckSize h_who h_does h_much h_against h_pack h_packSize h_gives h_wants h_tryWho h_tryDoes h_tryMuch h_tryAgainst h_tryLife h_tryShield h_ring h_row : Nat} {v_thrown : Int32} {v_today : Int32} {v_kinds : Int32} {v_stacked : Int32} {v_drafters : Int32} {v_cards : Int32} {v_round : Int32} {v_turn : Int32} {v_high : Int32} {v_many : Int32} {v_has : Nat → Int32} {v_gives : Nat → Int32} {v_wants : Nat → Int32} {n_ringSize : Int32} {n_ring : Nat → Int32} (C0 : wCX p s args m meth c cX9_findRing 6 none RX9 wsX9_findRing) (hA : ∀ q, s.heap.size ≤ q → A q) (hK : va_K (dC, dI) vwCl (tysW cI cJ cZ cG) s) : ∀ (n : Nat), ∀ (v_ringSize : Int32) (v_ring : Nat → Int32) (l1 : Int32) (l2 : Int32) (H : Heap) (locs : List Loc) (ls : Array Slot), fX9_findRing_b10 v_has v_gives v_wants n v_ringSize v_ring l1 l2 = some (n_ringSize, n_ring) → va_P (dC, dI) vwCl (wcX9_findRing cI cJ cZ cG h h_effect h_number h_banned h_has h_life h_shield h_strength h_haveMet h_deck h_deckSize h_who h_does h_much h_against h_pack h_packSize h_gives h_wants h_tryWho h_tryDoes h_tryMuch h_tryAgainst h_tryLife h_tryShield h_ring h_row v_thrown v_today v_kinds v_stacked v_drafters v_cards v_round v_turn v_high v_ringSize v_many v_has v_gives v_wants v_ring) H → va_D A (wcX9_findRing cI cJ cZ cG h h_effect h_number h_banned h_has h_life h_shield h_strength h_haveMet h_deck h_deckSize h_who h_does h_much h_against h_pack h_packSize h_gives h_wants h_tryWho h_tryDoes h_tryMuch h_tryAgainst h_tryLife h_tryShield h_ring h_row v_thrown v_today v_kinds v_stacked v_drafters v_cards v_round v_turn v_high v_ringSize v_many v_has v_gives v_wants v_ring) → va_S A s.heap H locs → lv_has ls 6 [(0, .ref h), (1, .int l1), (2, .int l2)] → W p l e rmX9_findRing s m args below meth c H locs 0 0 (MQ below (wQv (wcX9_findRing cI cJ cZ cG h h_effect h_number h_banned h_has h_life h_shield h_strength h_haveMet h_deck h_deckSize h_who h_does h_much h_against h_pack h_packSize h_gives h_wants h_tryWho h_tryDoes h_tryMuch h_tryAgainst h_tryLife h_tryShield h_ring h_row v_thrown v_today v_kinds v_stacked v_drafters v_cards v_round v_turn v_high n_ringSize v_many v_has v_gives v_wants n_ring) (dC, dI) A) args s 0 0 A) (F0 m 10 ls []) := by
  obtain ⟨hx, hb, hr, hml, hown, hts, hlocks⟩ := id C0
  intro n
  induction n with
  | zero =>
    intro v_ringSize v_ring l1 l2 H locs ls hf hP hD hS hl
    rw [fX9_findRing_b10] at hf
    cases hf
  | succ n ih =>
    intro v_ringSize v_ring l1 l2 H locs ls hf hP hD hS hl
    rw [fX9_findRing_b10] at hf
    refine lv_iload_n hx hb dX9_findRing_10 rfl (lv_at hl 2 rfl) ?_
    refine lv_bipush (v := 6) hx hb dX9_findRing_11 (by decide) ?_
    refine lv_icmp_gt (tgt := 109) hx hb dX9_findRing_13 (by decide) (fun c_1 => ?_) (fun c_1 => ?_)
    · have hf := it_t hf c_1
      have hf : fX9_findRing_b109 v_has v_gives v_wants v_ringSize v_ring = some (n_ringSize, n_ring) := hf
      exact kX9_findRing_109 C0 hA hK v_ringSize v_ring _ _ _ hf hP hD hS (lv_sub hl [] rfl)
    · have hf := it_f hf c_1
      refine lv_aload_n hx hb dX9_findRing_16 rfl (lv_at hl 0 rfl) ?_
      refine va_get (D := (dC, dI)) (ci := 9) (v := .int v_ringSize) (C := RX9) (T := TX9) (N := 37) hx hb hts iX9_findRing_X9 hown hK hP 0 rfl rfl 33 (by decide) (hts _ mX9_findRing_0) (fun _ h9 => h9) rfl dX9_findRing_17 ?_
      refine lv_if_ne (tgt := 109) hx hb dX9_findRing_20 (by decide) (fun c_2 => ?_) (fun c_2 => ?_)
      · have hf := it_f hf c_2
        have hf : fX9_findRing_b109 v_has v_gives v_wants v_ringSize v_ring = some (n_ringSize, n_ring) := hf
        exact kX9_findRing_109 C0 hA hK v_ringSize v_ring _ _ _ hf hP hD hS (lv_sub hl [] rfl)
      · have hf := it_t hf c_2
        refine lv_iload_n hx hb dX9_findRing_23 rfl (lv_at hl 1 rfl) ?_
        refine lv_bipush (v := 6) hx hb dX9_findRing_24 (by decide) ?_
        refine lv_imul hx hb dX9_findRing_26 ?_
        obtain ⟨x_3, ex_3, hf⟩ := nm_s hf
        refine w_eqi ex_3 ?_
        refine lv_istore_n (lv' := [(1, .int x_3), (0, .ref h), (2, .int l2)]) hx hb dX9_findRing_27 rfl hl (by decide) rfl (fun ls hl => ?_)
        refine lv_iconst (v := 0) hx hb dX9_findRing_28 (by decide) ?_
        refine lv_istore_n (lv' := [(3, .int 0), (1, .int x_3), (0, .ref h), (2, .int l2)]) hx hb dX9_findRing_29 rfl hl (by decide) rfl (fun ls hl => ?_)
        have hf : fX9_findRing_b30 (fX9_findRing_b10 v_has v_gives v_wants n) v_has v_gives v_wants 50000 v_ringSize v_ring x_3 l2 0 = some (n_ringSize, n_ring) := hf
        exact kX9_findRing_30 C0 hA hK ih 50000 v_ringSize v_ring x_3 l2 0 _ _ _ hf hP hD hS (lv_sub hl [2, 1, 3, 0] rfl)
set_option maxHeartbeats 4000000 in
set_option maxRecDepth 100000 in
theorem oX9_findRing (l : Launch) (dC : Nat → ClassId) (dI : Nat → Nat → Nat) (cI cJ cZ cG : ClassId) (h h_effect h_number h_banned h_has h_life h_shield h_strength h_haveMet h_deck h_deckSize h_who h_does h_much h_against h_pack h_packSize h_gives h_wants h_tryWho h_tryDoes h_tryMuch h_tryAgainst h_tryLife h_tryShield h_ring h_row : Nat) (v_thrown : Int32) (v_today : Int32) (v_kinds : Int32) (v_stacked : Int32) (v_drafters : Int32) (v_cards : Int32) (v_round : Int32) (v_turn : Int32) (v_high : Int32) (v_ringSize : Int32) (v_many : Int32) (v_has : Nat → Int32) (v_gives : Nat → Int32) (v_wants : Nat → Int32) (v_ring : Nat → Int32) (sz : Nat) (n_ringSize : Int32) (n_ring : Nat → Int32) (hf : fX9_findRing v_ringSize v_has v_gives v_wants v_ring = some (n_ringSize, n_ring)) : Met l yX9_findRing wsX9_findRing rmX9_findRing (wPc [.ref h] (dC, dI) (tysW cI cJ cZ cG) sz (wcX9_findRing cI cJ cZ cG h h_effect h_number h_banned h_has h_life h_shield h_strength h_haveMet h_deck h_deckSize h_who h_does h_much h_against h_pack h_packSize h_gives h_wants h_tryWho h_tryDoes h_tryMuch h_tryAgainst h_tryLife h_tryShield h_ring h_row v_thrown v_today v_kinds v_stacked v_drafters v_cards v_round v_turn v_high v_ringSize v_many v_has v_gives v_wants v_ring)) (wQv (wcX9_findRing cI cJ cZ cG h h_effect h_number h_banned h_has h_life h_shield h_strength h_haveMet h_deck h_deckSize h_who h_does h_much h_against h_pack h_packSize h_gives h_wants h_tryWho h_tryDoes h_tryMuch h_tryAgainst h_tryLife h_tryShield h_ring h_row v_thrown v_today v_kinds v_stacked v_drafters v_cards v_round v_turn v_high n_ringSize v_many v_has v_gives v_wants n_ring) (dC, dI) (va_A (wcX9_findRing cI cJ cZ cG h h_effect h_number h_banned h_has h_life h_shield h_strength h_haveMet h_deck h_deckSize h_who h_does h_much h_against h_pack h_packSize h_gives h_wants h_tryWho h_tryDoes h_tryMuch h_tryAgainst h_tryLife h_tryShield h_ring h_row v_thrown v_today v_kinds v_stacked v_drafters v_cards v_round v_turn v_high v_ringSize v_many v_has v_gives v_wants v_ring) sz)) 0 0 (va_A (wcX9_findRing cI cJ cZ cG h h_effect h_number h_banned h_has h_life h_shield h_strength h_haveMet h_deck h_deckSize h_who h_does h_much h_against h_pack h_packSize h_gives h_wants h_tryWho h_tryDoes h_tryMuch h_tryAgainst h_tryLife h_tryShield h_ring h_row v_thrown v_today v_kinds v_stacked v_drafters v_cards v_round v_turn v_high v_ringSize v_many v_has v_gives v_wants v_ring) sz) := by
  refine Met.ofW (cc := cX9_findRing) (maxL := 6) (ret := none) (by decide) rfl ?_
  intro p e s m args below meth c s₁ B hml hv
  obtain ⟨rfl, hsz, hP, hK, hD0⟩ := hv
  have hx := B.exec
  have hb := B.bytes
  have hr := B.returns
  have hts := atoms_spec (ws := wsX9_findRing) B.pre
  have hown : s.vm.findClass RX9 = some m.cls := findClass_of_methodNamed B.named
  have hlocks := B.notSynchronized
  subst hsz
  have hD := hD0.self (sz := s.heap.size)
  generalize hAe : va_A (wcX9_findRing cI cJ cZ cG h h_effect h_number h_banned h_has h_life h_shield h_strength h_haveMet h_deck h_deckSize h_who h_does h_much h_against h_pack h_packSize h_gives h_wants h_tryWho h_tryDoes h_tryMuch h_tryAgainst h_tryLife h_tryShield h_ring h_row v_thrown v_today v_kinds v_stacked v_drafters v_cards v_round v_turn v_high v_ringSize v_many v_has v_gives v_wants v_ring) s.heap.size = A at hD ⊢
  have hA : ∀ q : Nat, s.heap.size ≤ q → A q := fun q h => by rw [← hAe]; exact Or.inr h
  have hS : va_S A s.heap s.heap [] := va_S.rf
  have hP : va_P (dC, dI) vwCl (wcX9_findRing cI cJ cZ cG h h_effect h_number h_banned h_has h_life h_shield h_strength h_haveMet h_deck h_deckSize h_who h_does h_much h_against h_pack h_packSize h_gives h_wants h_tryWho h_tryDoes h_tryMuch h_tryAgainst h_tryLife h_tryShield h_ring h_row v_thrown v_today v_kinds v_stacked v_drafters v_cards v_round v_turn v_high v_ringSize v_many v_has v_gives v_wants v_ring) s.heap := hP
  have hl := lv_entry ([.ref h]) (n := 6) (Nat.le_of_ble_eq_true rfl)
  rw [lg_entry_eq]
  generalize (lg_sl ([.ref h]) ++ List.replicate (6 - (lg_sl ([.ref h])).length) Slot.unset).toArray = ls at hl ⊢
  have hl : lv_has ls 6 [(0, .ref h)] := hl
  generalize hH : s.heap = H at hP hS ⊢
  have hS : va_S A s.heap H [] := by rw [hH]; exact hS
  have C0 : wCX p s #[.ref h] m meth c cX9_findRing 6 none RX9 wsX9_findRing := ⟨hx, hb, hr, hml, hown, hts, hlocks⟩
  show W p l e rmX9_findRing s m #[.ref h] below meth c H [] 0 0 (MQ below (wQv (wcX9_findRing cI cJ cZ cG h h_effect h_number h_banned h_has h_life h_shield h_strength h_haveMet h_deck h_deckSize h_who h_does h_much h_against h_pack h_packSize h_gives h_wants h_tryWho h_tryDoes h_tryMuch h_tryAgainst h_tryLife h_tryShield h_ring h_row v_thrown v_today v_kinds v_stacked v_drafters v_cards v_round v_turn v_high n_ringSize v_many v_has v_gives v_wants n_ring) (dC, dI) A) #[.ref h] s 0 0 A) (F0 m 0 ls [])
  unfold fX9_findRing at hf
  refine lv_aload_n hx hb dX9_findRing_0 rfl (lv_at hl 0 rfl) ?_
  refine lv_iconst (v := 0) hx hb dX9_findRing_1 (by decide) ?_
  refine va_put (D := (dC, dI)) (ci := 9) (v := .int 0) (ty := .int) (C := RX9) (T := TX9) (N := 37) hx hb hts iX9_findRing_X9 tyX9 tyX9_ok nmX9 hown hK hP hD hS 0 rfl rfl 33 (by decide) (hts _ mX9_findRing_0) (fun _ h9 => h9) rfl (by decide +kernel) rfl rfl (Nat.le_of_ble_eq_true rfl) dX9_findRing_2 (fun H locs hP hD hS => ?_)
  have hP : va_P (dC, dI) vwCl (wcX9_findRing cI cJ cZ cG h h_effect h_number h_banned h_has h_life h_shield h_strength h_haveMet h_deck h_deckSize h_who h_does h_much h_against h_pack h_packSize h_gives h_wants h_tryWho h_tryDoes h_tryMuch h_tryAgainst h_tryLife h_tryShield h_ring h_row v_thrown v_today v_kinds v_stacked v_drafters v_cards v_round v_turn v_high 0 v_many v_has v_gives v_wants v_ring) H := hP
  have hD : va_D A (wcX9_findRing cI cJ cZ cG h h_effect h_number h_banned h_has h_life h_shield h_strength h_haveMet h_deck h_deckSize h_who h_does h_much h_against h_pack h_packSize h_gives h_wants h_tryWho h_tryDoes h_tryMuch h_tryAgainst h_tryLife h_tryShield h_ring h_row v_thrown v_today v_kinds v_stacked v_drafters v_cards v_round v_turn v_high 0 v_many v_has v_gives v_wants v_ring) := hD
  refine lv_bipush (v := 6) hx hb dX9_findRing_5 (by decide) ?_
  refine lv_istore_n (lv' := [(1, .int 6), (0, .ref h)]) hx hb dX9_findRing_7 rfl hl (by decide) rfl (fun ls hl => ?_)
  refine lv_iconst (v := 2) hx hb dX9_findRing_8 (by decide) ?_
  refine lv_istore_n (lv' := [(2, .int 2), (1, .int 6), (0, .ref h)]) hx hb dX9_findRing_9 rfl hl (by decide) rfl (fun ls hl => ?_)
  have hf : fX9_findRing_b10 v_has v_gives v_wants 50000 0 v_ring 6 2 = some (n_ringSize, n_ring) := hf
  exact kX9_findRing_10 C0 hA hK 50000 0 v_ring 6 2 _ _ _ hf hP hD hS (lv_sub hl [2, 1, 0] rfl)
abbrev wcX9_ring (cI cJ cZ cG : ClassId) (h h_effect h_number h_banned h_has h_life h_shield h_strength h_haveMet h_deck h_deckSize h_who h_does h_much h_against h_pack h_packSize h_gives h_wants h_tryWho h_tryDoes h_tryMuch h_tryAgainst h_tryLife h_tryShield h_ring h_row : Nat) (v_thrown : Int32) (v_today : Int32) (v_kinds : Int32) (v_stacked : Int32) (v_drafters : Int32) (v_cards : Int32) (v_round : Int32) (v_turn : Int32) (v_high : Int32) (v_ringSize : Int32) (v_many : Int32) (v_has : Nat → Int32) (v_gives : Nat → Int32) (v_wants : Nat → Int32) (v_ring : Nat → Int32) : va_W := [(h, .inr (9, [.int v_thrown, .int v_today, .int v_kinds, .ref h_effect, .ref h_number, .ref h_banned, .ref h_has, .ref h_life, .ref h_shield, .ref h_strength, .ref h_haveMet, .ref h_deck, .ref h_deckSize, .int v_stacked, .ref h_who, .ref h_does, .ref h_much, .ref h_against, .int v_drafters, .int v_cards, .int v_round, .int v_turn, .ref h_pack, .ref h_packSize, .ref h_gives, .ref h_wants, .int v_high, .ref h_tryWho, .ref h_tryDoes, .ref h_tryMuch, .ref h_tryAgainst, .ref h_tryLife, .ref h_tryShield, .int v_ringSize, .ref h_ring, .int v_many, .ref h_row])), (h_has, .inl (cI, 120, .inl v_has)), (h_gives, .inl (cI, 6, .inl v_gives)), (h_wants, .inl (cI, 6, .inl v_wants)), (h_ring, .inl (cI, 6, .inl v_ring))]
theorem iX9_ring_X9 : ∀ w ∈ wsX90, w ∈ wsX9_ring := by decide +kernel
theorem mX9_ring_0 : (Cond.fieldLink RX9 170 "SleevehallModel" "ringSize" "I") ∈ wsX9_ring := by decide +kernel
theorem mX9_ring_1 : (Cond.fieldLink RX9 88 "SleevehallModel" "ring" "[I") ∈ wsX9_ring := by decide +kernel
abbrev rmX9_ring : Room := { frames := 2, cells := 0, slots := 0, locals := 51 }
set_option maxHeartbeats 4000000 in
set_option maxRecDepth 100000 in
theorem kX9_ring_45 {p : Program} {l : Launch} {e : Env} {s : State} {m : MethodId} {args : Array Value} {below : List Frame} {meth : Method} {c : Code} {dC : Nat → ClassId} {dI : Nat → Nat → Nat} {A : Nat → Prop} {cI cJ cZ cG : ClassId} {h h_effect h_number h_banned h_has h_life h_shield h_strength h_haveMet h_deck h_deckSize h_who h_does h_much h_against h_pack h_packSize h_gives h_wants h_tryWho h_tryDoes h_tryMuch h_tryAgainst h_tryLife h_tryShield h_ring h_row : Nat} {v_today : Int32} {v_kinds : Int32} {v_stacked : Int32} {v_drafters : Int32} {v_cards : Int32} {v_round : Int32} {v_turn : Int32} {v_high : Int32} {v_many : Int32} {v_has : Nat → Int32} {v_gives : Nat → Int32} {v_wants : Nat → Int32} {r0 : Int32} {n_thrown : Int32} {n_ringSize : Int32} {n_ring : Nat → Int32} (C0 : wCX p s args m meth c cX9_ring 2 (some .int) RX9 wsX9_ring) (hA : ∀ q, s.heap.size ≤ q → A q) (hK : va_K (dC, dI) vwCl (tysW cI cJ cZ cG) s) : ∀ (v_thrown : Int32) (v_ringSize : Int32) (v_ring : Nat → Int32) (s0 : Int32) (H : Heap) (locs : List Loc) (ls : Array Slot), fX9_ring_b45 v_has v_gives v_wants v_thrown v_ringSize v_ring s0 = some (r0, n_thrown, n_ringSize, n_ring) → va_P (dC, dI) vwCl (wcX9_ring cI cJ cZ cG h h_effect h_number h_banned h_has h_life h_shield h_strength h_haveMet h_deck h_deckSize h_who h_does h_much h_against h_pack h_packSize h_gives h_wants h_tryWho h_tryDoes h_tryMuch h_tryAgainst h_tryLife h_tryShield h_ring h_row v_thrown v_today v_kinds v_stacked v_drafters v_cards v_round v_turn v_high v_ringSize v_many v_has v_gives v_wants v_ring) H → va_D A (wcX9_ring cI cJ cZ cG h h_effect h_number h_banned h_has h_life h_shield h_strength h_haveMet h_deck h_deckSize h_who h_does h_much h_against h_pack h_packSize h_gives h_wants h_tryWho h_tryDoes h_tryMuch h_tryAgainst h_tryLife h_tryShield h_ring h_row v_thrown v_today v_kinds v_stacked v_drafters v_cards v_round v_turn v_high v_ringSize v_many v_has v_gives v_wants v_ring) → va_S A s.heap H locs → lv_has ls 2 [] → W p l e rmX9_ring s m args below meth c H locs 0 0 (MQ below (wQi r0 (wcX9_ring cI cJ cZ cG h h_effect h_number h_banned h_has h_life h_shield h_strength h_haveMet h_deck h_deckSize h_who h_does h_much h_against h_pack h_packSize h_gives h_wants h_tryWho h_tryDoes h_tryMuch h_tryAgainst h_tryLife h_tryShield h_ring h_row n_thrown v_today v_kinds v_stacked v_drafters v_cards v_round v_turn v_high n_ringSize v_many v_has v_gives v_wants n_ring) (dC, dI) A) args s 0 0 A) (F0 m 45 ls [.int s0]) := by
  obtain ⟨hx, hb, hr, hml, hown, hts, hlocks⟩ := id C0
  intro v_thrown v_ringSize v_ring s0 H locs ls hf hP hD hS hl
  unfold fX9_ring_b45 at hf
  have hf : some (s0, v_thrown, v_ringSize, v_ring) = some (r0, n_thrown, n_ringSize, n_ring) := hf
  cases hf
  exact w_iret hx hb hr hlocks rfl hP hD hS dX9_ring_45
set_option maxHeartbeats 4000000 in
set_option maxRecDepth 100000 in
theorem kX9_ring_15 {p : Program} {l : Launch} {e : Env} {s : State} {m : MethodId} {args : Array Value} {below : List Frame} {meth : Method} {c : Code} {dC : Nat → ClassId} {dI : Nat → Nat → Nat} {A : Nat → Prop} {cI cJ cZ cG : ClassId} {h h_effect h_number h_banned h_has h_life h_shield h_strength h_haveMet h_deck h_deckSize h_who h_does h_much h_against h_pack h_packSize h_gives h_wants h_tryWho h_tryDoes h_tryMuch h_tryAgainst h_tryLife h_tryShield h_ring h_row : Nat} {v_today : Int32} {v_kinds : Int32} {v_stacked : Int32} {v_drafters : Int32} {v_cards : Int32} {v_round : Int32} {v_turn : Int32} {v_high : Int32} {v_many : Int32} {v_has : Nat → Int32} {v_gives : Nat → Int32} {v_wants : Nat → Int32} {r0 : Int32} {n_thrown : Int32} {n_ringSize : Int32} {n_ring : Nat → Int32} (C0 : wCX p s args m meth c cX9_ring 2 (some .int) RX9 wsX9_ring) (hA : ∀ q, s.heap.size ≤ q → A q) (hK : va_K (dC, dI) vwCl (tysW cI cJ cZ cG) s) : ∀ (v_thrown : Int32) (v_ringSize : Int32) (v_ring : Nat → Int32) (l1 : Int32) (s1 : Int32) (hz_s1 : wB s1) (H : Heap) (locs : List Loc) (ls : Array Slot), fX9_ring_b15 v_has v_gives v_wants v_thrown v_ringSize v_ring l1 s1 = some (r0, n_thrown, n_ringSize, n_ring) → va_P (dC, dI) vwCl (wcX9_ring cI cJ cZ cG h h_effect h_number h_banned h_has h_life h_shield h_strength h_haveMet h_deck h_deckSize h_who h_does h_much h_against h_pack h_packSize h_gives h_wants h_tryWho h_tryDoes h_tryMuch h_tryAgainst h_tryLife h_tryShield h_ring h_row v_thrown v_today v_kinds v_stacked v_drafters v_cards v_round v_turn v_high v_ringSize v_many v_has v_gives v_wants v_ring) H → va_D A (wcX9_ring cI cJ cZ cG h h_effect h_number h_banned h_has h_life h_shield h_strength h_haveMet h_deck h_deckSize h_who h_does h_much h_against h_pack h_packSize h_gives h_wants h_tryWho h_tryDoes h_tryMuch h_tryAgainst h_tryLife h_tryShield h_ring h_row v_thrown v_today v_kinds v_stacked v_drafters v_cards v_round v_turn v_high v_ringSize v_many v_has v_gives v_wants v_ring) → va_S A s.heap H locs → lv_has ls 2 [(0, .ref h), (1, .int l1)] → W p l e rmX9_ring s m args below meth c H locs 0 0 (MQ below (wQi r0 (wcX9_ring cI cJ cZ cG h h_effect h_number h_banned h_has h_life h_shield h_strength h_haveMet h_deck h_deckSize h_who h_does h_much h_against h_pack h_packSize h_gives h_wants h_tryWho h_tryDoes h_tryMuch h_tryAgainst h_tryLife h_tryShield h_ring h_row n_thrown v_today v_kinds v_stacked v_drafters v_cards v_round v_turn v_high n_ringSize v_many v_has v_gives v_wants n_ring) (dC, dI) A) args s 0 0 A) (F0 m 15 ls [.int s1, .ref h]) := by
  obtain ⟨hx, hb, hr, hml, hown, hts, hlocks⟩ := id C0
  intro v_thrown v_ringSize v_ring l1 s1 hz_s1 H locs ls hf hP hD hS hl
  unfold fX9_ring_b15 at hf
  obtain ⟨⟨r_1, w_2⟩, hc_3, hf⟩ := ob_s hf
  refine w_callVz (As := [.int s1]) (rest := []) (wr := List.filterMap (fun i : Nat => (wcX9_ring cI cJ cZ cG h h_effect h_number h_banned h_has h_life h_shield h_strength h_haveMet h_deck h_deckSize h_who h_does h_much h_against h_pack h_packSize h_gives h_wants h_tryWho h_tryDoes h_tryMuch h_tryAgainst h_tryLife h_tryShield h_ring h_row v_thrown v_today v_kinds v_stacked v_drafters v_cards v_round v_turn v_high v_ringSize v_many v_has v_gives v_wants v_ring)[i]?) [1, 2, 3, 4]) (ws1 := (wcX9_ring cI cJ cZ cG h h_effect h_number h_banned h_has h_life h_shield h_strength h_haveMet h_deck h_deckSize h_who h_does h_much h_against h_pack h_packSize h_gives h_wants h_tryWho h_tryDoes h_tryMuch h_tryAgainst h_tryLife h_tryShield h_ring h_row w_2 v_today v_kinds v_stacked v_drafters v_cards v_round v_turn v_high v_ringSize v_many v_has v_gives v_wants v_ring)) ⟨hx, hb, hml, hown, hts⟩ (oX9_goesWell l dC dI cI cJ cZ cG h h_effect h_number h_banned h_has h_life h_shield h_strength h_haveMet h_deck h_deckSize h_who h_does h_much h_against h_pack h_packSize h_gives h_wants h_tryWho h_tryDoes h_tryMuch h_tryAgainst h_tryLife h_tryShield h_ring h_row v_thrown v_today v_kinds v_stacked v_drafters v_cards v_round v_turn v_high v_ringSize v_many H.size s1 r_1 w_2 hc_3) (cwV 1 hts gX9_ring_X9_goesWell rfl rfl rfl (by decide +kernel) ⟨Nat.le_of_ble_eq_true rfl, Nat.le_of_ble_eq_true rfl⟩) hK 0 9 rfl rfl rfl hP hD hS hA [0] [1, 2, 3, 4] [4, 0, 1, 2, 3] rfl rfl rfl rfl (by decide) rfl rfl rfl hl.1 rfl (Nat.le_of_ble_eq_true rfl) dX9_ring_15 ⟨Nat.le_refl _, Nat.le_refl _⟩ (fun hz_4 H locs hP hD hS => ?_)
  refine lv_if_ne (tgt := 23) hx hb dX9_ring_18 (by decide) (fun c_5 => ?_) (fun c_5 => ?_)
  · have hf := it_f hf c_5
    refine lv_aload_n hx hb dX9_ring_23 rfl (lv_at hl 0 rfl) ?_
    obtain ⟨⟨w_6, w_7⟩, hc_8, hf⟩ := ob_s hf
    refine w_callVv (As := []) (rest := []) (wr := List.filterMap (fun i : Nat => (wcX9_ring cI cJ cZ cG h h_effect h_number h_banned h_has h_life h_shield h_strength h_haveMet h_deck h_deckSize h_who h_does h_much h_against h_pack h_packSize h_gives h_wants h_tryWho h_tryDoes h_tryMuch h_tryAgainst h_tryLife h_tryShield h_ring h_row w_2 v_today v_kinds v_stacked v_drafters v_cards v_round v_turn v_high v_ringSize v_many v_has v_gives v_wants v_ring)[i]?) []) (ws1 := (wcX9_ring cI cJ cZ cG h h_effect h_number h_banned h_has h_life h_shield h_strength h_haveMet h_deck h_deckSize h_who h_does h_much h_against h_pack h_packSize h_gives h_wants h_tryWho h_tryDoes h_tryMuch h_tryAgainst h_tryLife h_tryShield h_ring h_row w_2 v_today v_kinds v_stacked v_drafters v_cards v_round v_turn v_high w_6 v_many v_has v_gives v_wants w_7)) ⟨hx, hb, hml, hown, hts⟩ (oX9_findRing l dC dI cI cJ cZ cG h h_effect h_number h_banned h_has h_life h_shield h_strength h_haveMet h_deck h_deckSize h_who h_does h_much h_against h_pack h_packSize h_gives h_wants h_tryWho h_tryDoes h_tryMuch h_tryAgainst h_tryLife h_tryShield h_ring h_row w_2 v_today v_kinds v_stacked v_drafters v_cards v_round v_turn v_high v_ringSize v_many v_has v_gives v_wants v_ring H.size w_6 w_7 hc_8) (cwV 0 hts gX9_ring_X9_findRing rfl rfl rfl (by decide +kernel) ⟨Nat.le_of_ble_eq_true rfl, Nat.le_of_ble_eq_true rfl⟩) hK 0 9 rfl rfl rfl hP hD hS hA [0, 1, 2, 3, 4] [] [0, 1, 2, 3, 4] rfl rfl rfl rfl (by decide) rfl rfl rfl hl.1 rfl (Nat.le_of_ble_eq_true rfl) dX9_ring_24 ⟨Nat.le_refl _, Nat.le_refl _⟩ (fun H locs hP hD hS => ?_)
    refine lv_iload_n hx hb dX9_ring_27 rfl (lv_at hl 1 rfl) ?_
    refine lv_aload_n hx hb dX9_ring_28 rfl (lv_at hl 0 rfl) ?_
    refine va_get (D := (dC, dI)) (ci := 9) (v := .int w_6) (C := RX9) (T := TX9) (N := 37) hx hb hts iX9_ring_X9 hown hK hP 0 rfl rfl 33 (by decide) (hts _ mX9_ring_0) (fun _ h9 => h9) rfl dX9_ring_29 ?_
    refine lv_icmp_ge (tgt := 44) hx hb dX9_ring_32 (by decide) (fun c_9 => ?_) (fun c_9 => ?_)
    · have hf := it_t hf c_9
      refine lv_iconst (v := (-1)) hx hb dX9_ring_44 (by decide) ?_
      have hf : fX9_ring_b45 v_has v_gives v_wants w_2 w_6 w_7 (-1) = some (r0, n_thrown, n_ringSize, n_ring) := hf
      exact kX9_ring_45 C0 hA hK w_2 w_6 w_7 (-1) _ _ _ hf hP hD hS (lv_sub hl [] rfl)
    · have hf := it_f hf c_9
      refine lv_aload_n hx hb dX9_ring_35 rfl (lv_at hl 0 rfl) ?_
      refine va_get (D := (dC, dI)) (ci := 9) (v := .ref h_ring) (C := RX9) (T := TX9) (N := 37) hx hb hts iX9_ring_X9 hown hK hP 0 rfl rfl 34 (by decide) (hts _ mX9_ring_1) (fun _ h9 => h9) rfl dX9_ring_36 ?_
      refine lv_iload_n hx hb dX9_ring_39 rfl (lv_at hl 1 rfl) ?_
      obtain ⟨hg_10, hf⟩ := ck_s hf
      refine va_iald (D := (dC, dI)) hx hb hK hP 4 0 rfl rfl (g_vp hg_10) dX9_ring_40 ?_
      refine lv_goto (tgt := 45) hx hb dX9_ring_41 (by decide) ?_
      have hf : fX9_ring_b45 v_has v_gives v_wants w_2 w_6 w_7 (w_7 l1.toNatClampNeg) = some (r0, n_thrown, n_ringSize, n_ring) := hf
      exact kX9_ring_45 C0 hA hK w_2 w_6 w_7 (w_7 l1.toNatClampNeg) _ _ _ hf hP hD hS (lv_sub hl [] rfl)
  · have hf := it_t hf c_5
    refine lv_iconst (v := 0) hx hb dX9_ring_21 (by decide) ?_
    have hf : some (0, w_2, v_ringSize, v_ring) = some (r0, n_thrown, n_ringSize, n_ring) := hf
    cases hf
    exact w_iret hx hb hr hlocks rfl hP hD hS dX9_ring_22
set_option maxHeartbeats 4000000 in
set_option maxRecDepth 100000 in
theorem oX9_ring (l : Launch) (dC : Nat → ClassId) (dI : Nat → Nat → Nat) (cI cJ cZ cG : ClassId) (h h_effect h_number h_banned h_has h_life h_shield h_strength h_haveMet h_deck h_deckSize h_who h_does h_much h_against h_pack h_packSize h_gives h_wants h_tryWho h_tryDoes h_tryMuch h_tryAgainst h_tryLife h_tryShield h_ring h_row : Nat) (v_thrown : Int32) (v_today : Int32) (v_kinds : Int32) (v_stacked : Int32) (v_drafters : Int32) (v_cards : Int32) (v_round : Int32) (v_turn : Int32) (v_high : Int32) (v_ringSize : Int32) (v_many : Int32) (v_has : Nat → Int32) (v_gives : Nat → Int32) (v_wants : Nat → Int32) (v_ring : Nat → Int32) (sz : Nat) (p1 : Int32) (r0 : Int32) (n_thrown : Int32) (n_ringSize : Int32) (n_ring : Nat → Int32) (hf : fX9_ring v_thrown v_ringSize v_has v_gives v_wants v_ring p1 = some (r0, n_thrown, n_ringSize, n_ring)) : Met l yX9_ring wsX9_ring rmX9_ring (wPc [.ref h, .int p1] (dC, dI) (tysW cI cJ cZ cG) sz (wcX9_ring cI cJ cZ cG h h_effect h_number h_banned h_has h_life h_shield h_strength h_haveMet h_deck h_deckSize h_who h_does h_much h_against h_pack h_packSize h_gives h_wants h_tryWho h_tryDoes h_tryMuch h_tryAgainst h_tryLife h_tryShield h_ring h_row v_thrown v_today v_kinds v_stacked v_drafters v_cards v_round v_turn v_high v_ringSize v_many v_has v_gives v_wants v_ring)) (wQi r0 (wcX9_ring cI cJ cZ cG h h_effect h_number h_banned h_has h_life h_shield h_strength h_haveMet h_deck h_deckSize h_who h_does h_much h_against h_pack h_packSize h_gives h_wants h_tryWho h_tryDoes h_tryMuch h_tryAgainst h_tryLife h_tryShield h_ring h_row n_thrown v_today v_kinds v_stacked v_drafters v_cards v_round v_turn v_high n_ringSize v_many v_has v_gives v_wants n_ring) (dC, dI) (va_A (wcX9_ring cI cJ cZ cG h h_effect h_number h_banned h_has h_life h_shield h_strength h_haveMet h_deck h_deckSize h_who h_does h_much h_against h_pack h_packSize h_gives h_wants h_tryWho h_tryDoes h_tryMuch h_tryAgainst h_tryLife h_tryShield h_ring h_row v_thrown v_today v_kinds v_stacked v_drafters v_cards v_round v_turn v_high v_ringSize v_many v_has v_gives v_wants v_ring) sz)) 0 0 (va_A (wcX9_ring cI cJ cZ cG h h_effect h_number h_banned h_has h_life h_shield h_strength h_haveMet h_deck h_deckSize h_who h_does h_much h_against h_pack h_packSize h_gives h_wants h_tryWho h_tryDoes h_tryMuch h_tryAgainst h_tryLife h_tryShield h_ring h_row v_thrown v_today v_kinds v_stacked v_drafters v_cards v_round v_turn v_high v_ringSize v_many v_has v_gives v_wants v_ring) sz) := by
  refine Met.ofW (cc := cX9_ring) (maxL := 2) (ret := (some .int)) (by decide) rfl ?_
  intro p e s m args below meth c s₁ B hml hv
  obtain ⟨rfl, hsz, hP, hK, hD0⟩ := hv
  have hx := B.exec
  have hb := B.bytes
  have hr := B.returns
  have hts := atoms_spec (ws := wsX9_ring) B.pre
  have hown : s.vm.findClass RX9 = some m.cls := findClass_of_methodNamed B.named
  have hlocks := B.notSynchronized
  subst hsz
  have hD := hD0.self (sz := s.heap.size)
  generalize hAe : va_A (wcX9_ring cI cJ cZ cG h h_effect h_number h_banned h_has h_life h_shield h_strength h_haveMet h_deck h_deckSize h_who h_does h_much h_against h_pack h_packSize h_gives h_wants h_tryWho h_tryDoes h_tryMuch h_tryAgainst h_tryLife h_tryShield h_ring h_row v_thrown v_today v_kinds v_stacked v_drafters v_cards v_round v_turn v_high v_ringSize v_many v_has v_gives v_wants v_ring) s.heap.size = A at hD ⊢
  have hA : ∀ q : Nat, s.heap.size ≤ q → A q := fun q h => by rw [← hAe]; exact Or.inr h
  have hS : va_S A s.heap s.heap [] := va_S.rf
  have hP : va_P (dC, dI) vwCl (wcX9_ring cI cJ cZ cG h h_effect h_number h_banned h_has h_life h_shield h_strength h_haveMet h_deck h_deckSize h_who h_does h_much h_against h_pack h_packSize h_gives h_wants h_tryWho h_tryDoes h_tryMuch h_tryAgainst h_tryLife h_tryShield h_ring h_row v_thrown v_today v_kinds v_stacked v_drafters v_cards v_round v_turn v_high v_ringSize v_many v_has v_gives v_wants v_ring) s.heap := hP
  have hl := lv_entry ([.ref h, .int p1]) (n := 2) (Nat.le_of_ble_eq_true rfl)
  rw [lg_entry_eq]
  generalize (lg_sl ([.ref h, .int p1]) ++ List.replicate (2 - (lg_sl ([.ref h, .int p1])).length) Slot.unset).toArray = ls at hl ⊢
  have hl : lv_has ls 2 [(0, .ref h), (1, .int p1)] := hl
  generalize hH : s.heap = H at hP hS ⊢
  have hS : va_S A s.heap H [] := by rw [hH]; exact hS
  have C0 : wCX p s #[.ref h, .int p1] m meth c cX9_ring 2 (some .int) RX9 wsX9_ring := ⟨hx, hb, hr, hml, hown, hts, hlocks⟩
  show W p l e rmX9_ring s m #[.ref h, .int p1] below meth c H [] 0 0 (MQ below (wQi r0 (wcX9_ring cI cJ cZ cG h h_effect h_number h_banned h_has h_life h_shield h_strength h_haveMet h_deck h_deckSize h_who h_does h_much h_against h_pack h_packSize h_gives h_wants h_tryWho h_tryDoes h_tryMuch h_tryAgainst h_tryLife h_tryShield h_ring h_row n_thrown v_today v_kinds v_stacked v_drafters v_cards v_round v_turn v_high n_ringSize v_many v_has v_gives v_wants n_ring) (dC, dI) A) #[.ref h, .int p1] s 0 0 A) (F0 m 0 ls [])
  unfold fX9_ring at hf
  refine lv_aload_n hx hb dX9_ring_0 rfl (lv_at hl 0 rfl) ?_
  refine lv_iload_n hx hb dX9_ring_1 rfl (lv_at hl 1 rfl) ?_
  refine lv_iconst (v := 0) hx hb dX9_ring_2 (by decide) ?_
  refine lv_iconst (v := 5) hx hb dX9_ring_3 (by decide) ?_
  obtain ⟨r_1, hc_2, hf⟩ := ob_s hf
  refine w_callSz (As := [.int p1, .int 0, .int 5]) (rest := [.ref h]) ⟨hx, hb, hml, hown, hts⟩ (oX9_in l dC dI cI cJ cZ cG H.size p1 0 5 r_1 hc_2) (va_cwS 3 hts gX9_ring_X9_in rfl rfl rfl (by decide +kernel) ⟨Nat.le_of_ble_eq_true rfl, Nat.le_of_ble_eq_true rfl⟩) hK hP hS hA rfl hl.1 rfl (Nat.le_of_ble_eq_true rfl) dX9_ring_4 ⟨Nat.le_refl _, Nat.le_refl _⟩ (fun hz_3 H locs hP hS => ?_)
  refine lv_if_eq (tgt := 14) hx hb dX9_ring_7 (by decide) (fun c_4 => ?_) (fun c_4 => ?_)
  · have hf := it_t hf c_4
    refine lv_iconst (v := 1) hx hb dX9_ring_14 (by decide) ?_
    have hf : fX9_ring_b15 v_has v_gives v_wants v_thrown v_ringSize v_ring p1 1 = some (r0, n_thrown, n_ringSize, n_ring) := hf
    exact kX9_ring_15 C0 hA hK v_thrown v_ringSize v_ring p1 1 (Or.inr rfl) _ _ _ hf hP hD hS (lv_sub hl [0, 1] rfl)
  · have hf := it_f hf c_4
    refine lv_iconst (v := 0) hx hb dX9_ring_10 (by decide) ?_
    refine lv_goto (tgt := 15) hx hb dX9_ring_11 (by decide) ?_
    have hf : fX9_ring_b15 v_has v_gives v_wants v_thrown v_ringSize v_ring p1 0 = some (r0, n_thrown, n_ringSize, n_ring) := hf
    exact kX9_ring_15 C0 hA hK v_thrown v_ringSize v_ring p1 0 (Or.inl rfl) _ _ _ hf hP hD hS (lv_sub hl [0, 1] rfl)
abbrev wcX9_swap (cI cJ cZ cG : ClassId) (h h_effect h_number h_banned h_has h_life h_shield h_strength h_haveMet h_deck h_deckSize h_who h_does h_much h_against h_pack h_packSize h_gives h_wants h_tryWho h_tryDoes h_tryMuch h_tryAgainst h_tryLife h_tryShield h_ring h_row : Nat) (v_thrown : Int32) (v_today : Int32) (v_kinds : Int32) (v_stacked : Int32) (v_drafters : Int32) (v_cards : Int32) (v_round : Int32) (v_turn : Int32) (v_high : Int32) (v_ringSize : Int32) (v_many : Int32) (v_has : Nat → Int32) (v_gives : Nat → Int32) (v_wants : Nat → Int32) (v_ring : Nat → Int32) : va_W := [(h, .inr (9, [.int v_thrown, .int v_today, .int v_kinds, .ref h_effect, .ref h_number, .ref h_banned, .ref h_has, .ref h_life, .ref h_shield, .ref h_strength, .ref h_haveMet, .ref h_deck, .ref h_deckSize, .int v_stacked, .ref h_who, .ref h_does, .ref h_much, .ref h_against, .int v_drafters, .int v_cards, .int v_round, .int v_turn, .ref h_pack, .ref h_packSize, .ref h_gives, .ref h_wants, .int v_high, .ref h_tryWho, .ref h_tryDoes, .ref h_tryMuch, .ref h_tryAgainst, .ref h_tryLife, .ref h_tryShield, .int v_ringSize, .ref h_ring, .int v_many, .ref h_row])), (h_has, .inl (cI, 120, .inl v_has)), (h_gives, .inl (cI, 6, .inl v_gives)), (h_wants, .inl (cI, 6, .inl v_wants)), (h_ring, .inl (cI, 6, .inl v_ring))]
theorem iX9_swap_X9 : ∀ w ∈ wsX90, w ∈ wsX9_swap := by decide +kernel
theorem mX9_swap_0 : (Cond.fieldLink RX9 94 "SleevehallModel" "thrown" "I") ∈ wsX9_swap := by decide +kernel
theorem mX9_swap_1 : (Cond.fieldLink RX9 170 "SleevehallModel" "ringSize" "I") ∈ wsX9_swap := by decide +kernel
theorem mX9_swap_2 : (Cond.fieldLink RX9 88 "SleevehallModel" "ring" "[I") ∈ wsX9_swap := by decide +kernel
theorem mX9_swap_3 : (Cond.fieldLink RX9 19 "SleevehallModel" "has" "[I") ∈ wsX9_swap := by decide +kernel
theorem mX9_swap_4 : (Cond.fieldLink RX9 63 "SleevehallModel" "gives" "[I") ∈ wsX9_swap := by decide +kernel
abbrev rmX9_swap : Room := { frames := 2, cells := 0, slots := 0, locals := 51 }
set_option maxHeartbeats 4000000 in
set_option maxRecDepth 100000 in
theorem kX9_swap_86 {p : Program} {l : Launch} {e : Env} {s : State} {m : MethodId} {args : Array Value} {below : List Frame} {meth : Method} {c : Code} {dC : Nat → ClassId} {dI : Nat → Nat → Nat} {A : Nat → Prop} {cI cJ cZ cG : ClassId} {h h_effect h_number h_banned h_has h_life h_shield h_strength h_haveMet h_deck h_deckSize h_who h_does h_much h_against h_pack h_packSize h_gives h_wants h_tryWho h_tryDoes h_tryMuch h_tryAgainst h_tryLife h_tryShield h_ring h_row : Nat} {v_today : Int32} {v_kinds : Int32} {v_stacked : Int32} {v_drafters : Int32} {v_cards : Int32} {v_round : Int32} {v_turn : Int32} {v_high : Int32} {v_many : Int32} {v_wants : Nat → Int32} {r0 : Int32} {n_thrown : Int32} {n_ringSize : Int32} {n_has : Nat → Int32} {n_gives : Nat → Int32} {n_ring : Nat → Int32} (C0 : wCX p s args m meth c cX9_swap 3 (some .int) RX9 wsX9_swap) (hA : ∀ q, s.heap.size ≤ q → A q) (hK : va_K (dC, dI) vwCl (tysW cI cJ cZ cG) s) : ∀ (n : Nat), ∀ (v_thrown : Int32) (v_ringSize : Int32) (v_has : Nat → Int32) (v_gives : Nat → Int32) (v_ring : Nat → Int32) (l1 : Int32) (H : Heap) (locs : List Loc) (ls : Array Slot), fX9_swap_b86 v_wants n v_thrown v_ringSize v_has v_gives v_ring l1 = some (r0, n_thrown, n_ringSize, n_has, n_gives, n_ring) → va_P (dC, dI) vwCl (wcX9_swap cI cJ cZ cG h h_effect h_number h_banned h_has h_life h_shield h_strength h_haveMet h_deck h_deckSize h_who h_does h_much h_against h_pack h_packSize h_gives h_wants h_tryWho h_tryDoes h_tryMuch h_tryAgainst h_tryLife h_tryShield h_ring h_row v_thrown v_today v_kinds v_stacked v_drafters v_cards v_round v_turn v_high v_ringSize v_many v_has v_gives v_wants v_ring) H → va_D A (wcX9_swap cI cJ cZ cG h h_effect h_number h_banned h_has h_life h_shield h_strength h_haveMet h_deck h_deckSize h_who h_does h_much h_against h_pack h_packSize h_gives h_wants h_tryWho h_tryDoes h_tryMuch h_tryAgainst h_tryLife h_tryShield h_ring h_row v_thrown v_today v_kinds v_stacked v_drafters v_cards v_round v_turn v_high v_ringSize v_many v_has v_gives v_wants v_ring) → va_S A s.heap H locs → lv_has ls 3 [(0, .ref h), (1, .int l1)] → W p l e rmX9_swap s m args below meth c H locs 0 0 (MQ below (wQi r0 (wcX9_swap cI cJ cZ cG h h_effect h_number h_banned h_has h_life h_shield h_strength h_haveMet h_deck h_deckSize h_who h_does h_much h_against h_pack h_packSize h_gives h_wants h_tryWho h_tryDoes h_tryMuch h_tryAgainst h_tryLife h_tryShield h_ring h_row n_thrown v_today v_kinds v_stacked v_drafters v_cards v_round v_turn v_high n_ringSize v_many n_has n_gives v_wants n_ring) (dC, dI) A) args s 0 0 A) (F0 m 86 ls []) := by
  obtain ⟨hx, hb, hr, hml, hown, hts, hlocks⟩ := id C0
  intro n
  induction n with
  | zero =>
    intro v_thrown v_ringSize v_has v_gives v_ring l1 H locs ls hf hP hD hS hl
    rw [fX9_swap_b86] at hf
    cases hf
  | succ n ih =>
    intro v_thrown v_ringSize v_has v_gives v_ring l1 H locs ls hf hP hD hS hl
    rw [fX9_swap_b86] at hf
    refine lv_iload_n hx hb dX9_swap_86 rfl (lv_at hl 1 rfl) ?_
    refine lv_aload_n hx hb dX9_swap_87 rfl (lv_at hl 0 rfl) ?_
    refine va_get (D := (dC, dI)) (ci := 9) (v := .int v_ringSize) (C := RX9) (T := TX9) (N := 37) hx hb hts iX9_swap_X9 hown hK hP 0 rfl rfl 33 (by decide) (hts _ mX9_swap_1) (fun _ h9 => h9) rfl dX9_swap_88 ?_
    refine lv_icmp_ge (tgt := 112) hx hb dX9_swap_91 (by decide) (fun c_1 => ?_) (fun c_1 => ?_)
    · have hf := it_t hf c_1
      refine lv_aload_n hx hb dX9_swap_112 rfl (lv_at hl 0 rfl) ?_
      refine va_get (D := (dC, dI)) (ci := 9) (v := .int v_ringSize) (C := RX9) (T := TX9) (N := 37) hx hb hts iX9_swap_X9 hown hK hP 0 rfl rfl 33 (by decide) (hts _ mX9_swap_1) (fun _ h9 => h9) rfl dX9_swap_113 ?_
      have hf : some (v_ringSize, v_thrown, v_ringSize, v_has, v_gives, v_ring) = some (r0, n_thrown, n_ringSize, n_has, n_gives, n_ring) := hf
      cases hf
      exact w_iret hx hb hr hlocks rfl hP hD hS dX9_swap_116
    · have hf := it_f hf c_1
      refine lv_aload_n hx hb dX9_swap_94 rfl (lv_at hl 0 rfl) ?_
      refine va_get (D := (dC, dI)) (ci := 9) (v := .ref h_gives) (C := RX9) (T := TX9) (N := 37) hx hb hts iX9_swap_X9 hown hK hP 0 rfl rfl 24 (by decide) (hts _ mX9_swap_4) (fun _ h9 => h9) rfl dX9_swap_95 ?_
      refine lv_aload_n hx hb dX9_swap_98 rfl (lv_at hl 0 rfl) ?_
      refine va_get (D := (dC, dI)) (ci := 9) (v := .ref h_ring) (C := RX9) (T := TX9) (N := 37) hx hb hts iX9_swap_X9 hown hK hP 0 rfl rfl 34 (by decide) (hts _ mX9_swap_2) (fun _ h9 => h9) rfl dX9_swap_99 ?_
      refine lv_iload_n hx hb dX9_swap_102 rfl (lv_at hl 1 rfl) ?_
      obtain ⟨hg_2, hf⟩ := ck_s hf
      refine va_iald (D := (dC, dI)) hx hb hK hP 4 0 rfl rfl (g_vp hg_2) dX9_swap_103 ?_
      refine lv_iconst (v := (-1)) hx hb dX9_swap_104 (by decide) ?_
      obtain ⟨hg_3, hf⟩ := ck_s hf
      refine va_iast (D := (dC, dI)) hx hb hK hP hD hS 2 0 rfl rfl (g_vp hg_3) dX9_swap_105 (fun H locs hP hD hS => ?_)
      have hP : va_P (dC, dI) vwCl (wcX9_swap cI cJ cZ cG h h_effect h_number h_banned h_has h_life h_shield h_strength h_haveMet h_deck h_deckSize h_who h_does h_much h_against h_pack h_packSize h_gives h_wants h_tryWho h_tryDoes h_tryMuch h_tryAgainst h_tryLife h_tryShield h_ring h_row v_thrown v_today v_kinds v_stacked v_drafters v_cards v_round v_turn v_high v_ringSize v_many v_has (upd v_gives (v_ring l1.toNatClampNeg).toNatClampNeg (-1)) v_wants v_ring) H := hP
      have hD : va_D A (wcX9_swap cI cJ cZ cG h h_effect h_number h_banned h_has h_life h_shield h_strength h_haveMet h_deck h_deckSize h_who h_does h_much h_against h_pack h_packSize h_gives h_wants h_tryWho h_tryDoes h_tryMuch h_tryAgainst h_tryLife h_tryShield h_ring h_row v_thrown v_today v_kinds v_stacked v_drafters v_cards v_round v_turn v_high v_ringSize v_many v_has (upd v_gives (v_ring l1.toNatClampNeg).toNatClampNeg (-1)) v_wants v_ring) := hD
      obtain ⟨x_4, ex_4, hf⟩ := nm_s hf
      refine lv_iinc (v := x_4) (lv' := [(1, .int x_4), (0, .ref h)]) hx hb dX9_swap_106 hl (k := 1) rfl (by rw [ex_4]; rfl) (by decide) rfl (fun ls hl => ?_)
      refine lv_goto (tgt := 86) hx hb dX9_swap_109 (by decide) ?_
      have hf : (fX9_swap_b86 v_wants n) v_thrown v_ringSize v_has (upd v_gives (v_ring l1.toNatClampNeg).toNatClampNeg (-1)) v_ring x_4 = some (r0, n_thrown, n_ringSize, n_has, n_gives, n_ring) := hf
      exact ih v_thrown v_ringSize v_has (upd v_gives (v_ring l1.toNatClampNeg).toNatClampNeg (-1)) v_ring x_4 _ _ _ hf hP hD hS (lv_sub hl [1, 0] rfl)
set_option maxHeartbeats 4000000 in
set_option maxRecDepth 100000 in
theorem kX9_swap_11 {p : Program} {l : Launch} {e : Env} {s : State} {m : MethodId} {args : Array Value} {below : List Frame} {meth : Method} {c : Code} {dC : Nat → ClassId} {dI : Nat → Nat → Nat} {A : Nat → Prop} {cI cJ cZ cG : ClassId} {h h_effect h_number h_banned h_has h_life h_shield h_strength h_haveMet h_deck h_deckSize h_who h_does h_much h_against h_pack h_packSize h_gives h_wants h_tryWho h_tryDoes h_tryMuch h_tryAgainst h_tryLife h_tryShield h_ring h_row : Nat} {v_today : Int32} {v_kinds : Int32} {v_stacked : Int32} {v_drafters : Int32} {v_cards : Int32} {v_round : Int32} {v_turn : Int32} {v_high : Int32} {v_many : Int32} {v_wants : Nat → Int32} {r0 : Int32} {n_thrown : Int32} {n_ringSize : Int32} {n_has : Nat → Int32} {n_gives : Nat → Int32} {n_ring : Nat → Int32} (C0 : wCX p s args m meth c cX9_swap 3 (some .int) RX9 wsX9_swap) (hA : ∀ q, s.heap.size ≤ q → A q) (hK : va_K (dC, dI) vwCl (tysW cI cJ cZ cG) s) : ∀ (n : Nat), ∀ (v_thrown : Int32) (v_ringSize : Int32) (v_has : Nat → Int32) (v_gives : Nat → Int32) (v_ring : Nat → Int32) (l1 : Int32) (H : Heap) (locs : List Loc) (ls : Array Slot), fX9_swap_b11 v_wants n v_thrown v_ringSize v_has v_gives v_ring l1 = some (r0, n_thrown, n_ringSize, n_has, n_gives, n_ring) → va_P (dC, dI) vwCl (wcX9_swap cI cJ cZ cG h h_effect h_number h_banned h_has h_life h_shield h_strength h_haveMet h_deck h_deckSize h_who h_does h_much h_against h_pack h_packSize h_gives h_wants h_tryWho h_tryDoes h_tryMuch h_tryAgainst h_tryLife h_tryShield h_ring h_row v_thrown v_today v_kinds v_stacked v_drafters v_cards v_round v_turn v_high v_ringSize v_many v_has v_gives v_wants v_ring) H → va_D A (wcX9_swap cI cJ cZ cG h h_effect h_number h_banned h_has h_life h_shield h_strength h_haveMet h_deck h_deckSize h_who h_does h_much h_against h_pack h_packSize h_gives h_wants h_tryWho h_tryDoes h_tryMuch h_tryAgainst h_tryLife h_tryShield h_ring h_row v_thrown v_today v_kinds v_stacked v_drafters v_cards v_round v_turn v_high v_ringSize v_many v_has v_gives v_wants v_ring) → va_S A s.heap H locs → lv_has ls 3 [(0, .ref h), (1, .int l1)] → W p l e rmX9_swap s m args below meth c H locs 0 0 (MQ below (wQi r0 (wcX9_swap cI cJ cZ cG h h_effect h_number h_banned h_has h_life h_shield h_strength h_haveMet h_deck h_deckSize h_who h_does h_much h_against h_pack h_packSize h_gives h_wants h_tryWho h_tryDoes h_tryMuch h_tryAgainst h_tryLife h_tryShield h_ring h_row n_thrown v_today v_kinds v_stacked v_drafters v_cards v_round v_turn v_high n_ringSize v_many n_has n_gives v_wants n_ring) (dC, dI) A) args s 0 0 A) (F0 m 11 ls []) := by
  obtain ⟨hx, hb, hr, hml, hown, hts, hlocks⟩ := id C0
  intro n
  induction n with
  | zero =>
    intro v_thrown v_ringSize v_has v_gives v_ring l1 H locs ls hf hP hD hS hl
    rw [fX9_swap_b11] at hf
    cases hf
  | succ n ih =>
    intro v_thrown v_ringSize v_has v_gives v_ring l1 H locs ls hf hP hD hS hl
    rw [fX9_swap_b11] at hf
    refine lv_iload_n hx hb dX9_swap_11 rfl (lv_at hl 1 rfl) ?_
    refine lv_aload_n hx hb dX9_swap_12 rfl (lv_at hl 0 rfl) ?_
    refine va_get (D := (dC, dI)) (ci := 9) (v := .int v_ringSize) (C := RX9) (T := TX9) (N := 37) hx hb hts iX9_swap_X9 hown hK hP 0 rfl rfl 33 (by decide) (hts _ mX9_swap_1) (fun _ h9 => h9) rfl dX9_swap_13 ?_
    refine lv_icmp_ge (tgt := 84) hx hb dX9_swap_16 (by decide) (fun c_1 => ?_) (fun c_1 => ?_)
    · have hf := it_t hf c_1
      refine lv_iconst (v := 0) hx hb dX9_swap_84 (by decide) ?_
      refine lv_istore_n (lv' := [(1, .int 0), (0, .ref h)]) hx hb dX9_swap_85 rfl hl (by decide) rfl (fun ls hl => ?_)
      have hf : fX9_swap_b86 v_wants 70 v_thrown v_ringSize v_has v_gives v_ring 0 = some (r0, n_thrown, n_ringSize, n_has, n_gives, n_ring) := hf
      exact kX9_swap_86 C0 hA hK 70 v_thrown v_ringSize v_has v_gives v_ring 0 _ _ _ hf hP hD hS (lv_sub hl [1, 0] rfl)
    · have hf := it_f hf c_1
      refine lv_aload_n hx hb dX9_swap_19 rfl (lv_at hl 0 rfl) ?_
      refine va_get (D := (dC, dI)) (ci := 9) (v := .ref h_ring) (C := RX9) (T := TX9) (N := 37) hx hb hts iX9_swap_X9 hown hK hP 0 rfl rfl 34 (by decide) (hts _ mX9_swap_2) (fun _ h9 => h9) rfl dX9_swap_20 ?_
      refine lv_iload_n hx hb dX9_swap_23 rfl (lv_at hl 1 rfl) ?_
      obtain ⟨hg_2, hf⟩ := ck_s hf
      refine va_iald (D := (dC, dI)) hx hb hK hP 4 0 rfl rfl (g_vp hg_2) dX9_swap_24 ?_
      obtain ⟨x_3, ex_3, hf⟩ := nm_s hf
      refine w_eqi ex_3 ?_
      refine lv_istore_n (lv' := [(2, .int x_3), (0, .ref h), (1, .int l1)]) hx hb dX9_swap_25 rfl hl (by decide) rfl (fun ls hl => ?_)
      refine lv_aload_n hx hb dX9_swap_26 rfl (lv_at hl 1 rfl) ?_
      refine va_get (D := (dC, dI)) (ci := 9) (v := .ref h_has) (C := RX9) (T := TX9) (N := 37) hx hb hts iX9_swap_X9 hown hK hP 0 rfl rfl 6 (by decide) (hts _ mX9_swap_3) (fun _ h9 => h9) rfl dX9_swap_27 ?_
      refine lv_bipush (v := 20) hx hb dX9_swap_30 (by decide) ?_
      refine lv_iload_n hx hb dX9_swap_32 rfl (lv_at hl 0 rfl) ?_
      refine lv_imul hx hb dX9_swap_33 ?_
      refine lv_aload_n hx hb dX9_swap_34 rfl (lv_at hl 1 rfl) ?_
      refine va_get (D := (dC, dI)) (ci := 9) (v := .ref h_gives) (C := RX9) (T := TX9) (N := 37) hx hb hts iX9_swap_X9 hown hK hP 0 rfl rfl 24 (by decide) (hts _ mX9_swap_4) (fun _ h9 => h9) rfl dX9_swap_35 ?_
      refine lv_iload_n hx hb dX9_swap_38 rfl (lv_at hl 0 rfl) ?_
      obtain ⟨hg_4, hf⟩ := ck_s hf
      refine va_iald (D := (dC, dI)) hx hb hK hP 2 0 rfl rfl (g_vp hg_4) dX9_swap_39 ?_
      refine lv_iadd hx hb dX9_swap_40 ?_
      refine lv_dup2_11 hx hb dX9_swap_41 rfl rfl ?_
      obtain ⟨hg_5, hf⟩ := ck_s hf
      refine va_iald (D := (dC, dI)) hx hb hK hP 1 0 rfl rfl (g_vp hg_5) dX9_swap_42 ?_
      refine lv_iconst (v := 1) hx hb dX9_swap_43 (by decide) ?_
      refine lv_isub hx hb dX9_swap_44 ?_
      obtain ⟨x_6, ex_6, hf⟩ := nm_s hf
      refine w_eqi ex_6 ?_
      obtain ⟨hg_7, hf⟩ := ck_s hf
      refine va_iast (D := (dC, dI)) hx hb hK hP hD hS 1 0 rfl rfl (g_vp hg_7) dX9_swap_45 (fun H locs hP hD hS => ?_)
      have hP : va_P (dC, dI) vwCl (wcX9_swap cI cJ cZ cG h h_effect h_number h_banned h_has h_life h_shield h_strength h_haveMet h_deck h_deckSize h_who h_does h_much h_against h_pack h_packSize h_gives h_wants h_tryWho h_tryDoes h_tryMuch h_tryAgainst h_tryLife h_tryShield h_ring h_row v_thrown v_today v_kinds v_stacked v_drafters v_cards v_round v_turn v_high v_ringSize v_many (upd v_has ((20 * x_3) + (v_gives x_3.toNatClampNeg)).toNatClampNeg x_6) v_gives v_wants v_ring) H := hP
      have hD : va_D A (wcX9_swap cI cJ cZ cG h h_effect h_number h_banned h_has h_life h_shield h_strength h_haveMet h_deck h_deckSize h_who h_does h_much h_against h_pack h_packSize h_gives h_wants h_tryWho h_tryDoes h_tryMuch h_tryAgainst h_tryLife h_tryShield h_ring h_row v_thrown v_today v_kinds v_stacked v_drafters v_cards v_round v_turn v_high v_ringSize v_many (upd v_has ((20 * x_3) + (v_gives x_3.toNatClampNeg)).toNatClampNeg x_6) v_gives v_wants v_ring) := hD
      refine lv_aload_n hx hb dX9_swap_46 rfl (lv_at hl 1 rfl) ?_
      refine va_get (D := (dC, dI)) (ci := 9) (v := .ref h_has) (C := RX9) (T := TX9) (N := 37) hx hb hts iX9_swap_X9 hown hK hP 0 rfl rfl 6 (by decide) (hts _ mX9_swap_3) (fun _ h9 => h9) rfl dX9_swap_47 ?_
      refine lv_bipush (v := 20) hx hb dX9_swap_50 (by decide) ?_
      refine lv_aload_n hx hb dX9_swap_52 rfl (lv_at hl 1 rfl) ?_
      refine va_get (D := (dC, dI)) (ci := 9) (v := .ref h_ring) (C := RX9) (T := TX9) (N := 37) hx hb hts iX9_swap_X9 hown hK hP 0 rfl rfl 34 (by decide) (hts _ mX9_swap_2) (fun _ h9 => h9) rfl dX9_swap_53 ?_
      refine lv_iload_n hx hb dX9_swap_56 rfl (lv_at hl 2 rfl) ?_
      refine lv_iconst (v := 1) hx hb dX9_swap_57 (by decide) ?_
      refine lv_iadd hx hb dX9_swap_58 ?_
      refine lv_aload_n hx hb dX9_swap_59 rfl (lv_at hl 1 rfl) ?_
      refine va_get (D := (dC, dI)) (ci := 9) (v := .int v_ringSize) (C := RX9) (T := TX9) (N := 37) hx hb hts iX9_swap_X9 hown hK hP 0 rfl rfl 33 (by decide) (hts _ mX9_swap_1) (fun _ h9 => h9) rfl dX9_swap_60 ?_
      obtain ⟨hg_8, hf⟩ := ck_s hf
      refine lv_irem hx hb dX9_swap_63 (nz_n hg_8) ?_
      obtain ⟨hg_9, hf⟩ := ck_s hf
      refine va_iald (D := (dC, dI)) hx hb hK hP 4 0 rfl rfl (g_vp hg_9) dX9_swap_64 ?_
      refine lv_imul hx hb dX9_swap_65 ?_
      refine lv_aload_n hx hb dX9_swap_66 rfl (lv_at hl 1 rfl) ?_
      refine va_get (D := (dC, dI)) (ci := 9) (v := .ref h_gives) (C := RX9) (T := TX9) (N := 37) hx hb hts iX9_swap_X9 hown hK hP 0 rfl rfl 24 (by decide) (hts _ mX9_swap_4) (fun _ h9 => h9) rfl dX9_swap_67 ?_
      refine lv_iload_n hx hb dX9_swap_70 rfl (lv_at hl 0 rfl) ?_
      obtain ⟨hg_10, hf⟩ := ck_s hf
      refine va_iald (D := (dC, dI)) hx hb hK hP 2 0 rfl rfl (g_vp hg_10) dX9_swap_71 ?_
      refine lv_iadd hx hb dX9_swap_72 ?_
      refine lv_dup2_11 hx hb dX9_swap_73 rfl rfl ?_
      obtain ⟨hg_11, hf⟩ := ck_s hf
      refine va_iald (D := (dC, dI)) hx hb hK hP 1 0 rfl rfl (g_vp hg_11) dX9_swap_74 ?_
      refine lv_iconst (v := 1) hx hb dX9_swap_75 (by decide) ?_
      refine lv_iadd hx hb dX9_swap_76 ?_
      obtain ⟨x_12, ex_12, hf⟩ := nm_s hf
      refine w_eqi ex_12 ?_
      obtain ⟨hg_13, hf⟩ := ck_s hf
      refine va_iast (D := (dC, dI)) hx hb hK hP hD hS 1 0 rfl rfl (g_vp hg_13) dX9_swap_77 (fun H locs hP hD hS => ?_)
      have hP : va_P (dC, dI) vwCl (wcX9_swap cI cJ cZ cG h h_effect h_number h_banned h_has h_life h_shield h_strength h_haveMet h_deck h_deckSize h_who h_does h_much h_against h_pack h_packSize h_gives h_wants h_tryWho h_tryDoes h_tryMuch h_tryAgainst h_tryLife h_tryShield h_ring h_row v_thrown v_today v_kinds v_stacked v_drafters v_cards v_round v_turn v_high v_ringSize v_many (upd (upd v_has ((20 * x_3) + (v_gives x_3.toNatClampNeg)).toNatClampNeg x_6) ((20 * (v_ring ((l1 + 1) - (l1 + 1) / v_ringSize * v_ringSize).toNatClampNeg)) + (v_gives x_3.toNatClampNeg)).toNatClampNeg x_12) v_gives v_wants v_ring) H := hP
      have hD : va_D A (wcX9_swap cI cJ cZ cG h h_effect h_number h_banned h_has h_life h_shield h_strength h_haveMet h_deck h_deckSize h_who h_does h_much h_against h_pack h_packSize h_gives h_wants h_tryWho h_tryDoes h_tryMuch h_tryAgainst h_tryLife h_tryShield h_ring h_row v_thrown v_today v_kinds v_stacked v_drafters v_cards v_round v_turn v_high v_ringSize v_many (upd (upd v_has ((20 * x_3) + (v_gives x_3.toNatClampNeg)).toNatClampNeg x_6) ((20 * (v_ring ((l1 + 1) - (l1 + 1) / v_ringSize * v_ringSize).toNatClampNeg)) + (v_gives x_3.toNatClampNeg)).toNatClampNeg x_12) v_gives v_wants v_ring) := hD
      obtain ⟨x_14, ex_14, hf⟩ := nm_s hf
      refine lv_iinc (v := x_14) (lv' := [(1, .int x_14), (2, .int x_3), (0, .ref h)]) hx hb dX9_swap_78 hl (k := 2) rfl (by rw [ex_14]; rfl) (by decide) rfl (fun ls hl => ?_)
      refine lv_goto (tgt := 11) hx hb dX9_swap_81 (by decide) ?_
      have hf : (fX9_swap_b11 v_wants n) v_thrown v_ringSize (upd (upd v_has ((20 * x_3) + (v_gives x_3.toNatClampNeg)).toNatClampNeg x_6) ((20 * (v_ring ((l1 + 1) - (l1 + 1) / v_ringSize * v_ringSize).toNatClampNeg)) + (v_gives x_3.toNatClampNeg)).toNatClampNeg x_12) v_gives v_ring x_14 = some (r0, n_thrown, n_ringSize, n_has, n_gives, n_ring) := hf
      exact ih v_thrown v_ringSize (upd (upd v_has ((20 * x_3) + (v_gives x_3.toNatClampNeg)).toNatClampNeg x_6) ((20 * (v_ring ((l1 + 1) - (l1 + 1) / v_ringSize * v_ringSize).toNatClampNeg)) + (v_gives x_3.toNatClampNeg)).toNatClampNeg x_12) v_gives v_ring x_14 _ _ _ hf hP hD hS (lv_sub hl [2, 0] rfl)
set_option maxHeartbeats 4000000 in
set_option maxRecDepth 100000 in
theorem oX9_swap (l : Launch) (dC : Nat → ClassId) (dI : Nat → Nat → Nat) (cI cJ cZ cG : ClassId) (h h_effect h_number h_banned h_has h_life h_shield h_strength h_haveMet h_deck h_deckSize h_who h_does h_much h_against h_pack h_packSize h_gives h_wants h_tryWho h_tryDoes h_tryMuch h_tryAgainst h_tryLife h_tryShield h_ring h_row : Nat) (v_thrown : Int32) (v_today : Int32) (v_kinds : Int32) (v_stacked : Int32) (v_drafters : Int32) (v_cards : Int32) (v_round : Int32) (v_turn : Int32) (v_high : Int32) (v_ringSize : Int32) (v_many : Int32) (v_has : Nat → Int32) (v_gives : Nat → Int32) (v_wants : Nat → Int32) (v_ring : Nat → Int32) (sz : Nat) (r0 : Int32) (n_thrown : Int32) (n_ringSize : Int32) (n_has : Nat → Int32) (n_gives : Nat → Int32) (n_ring : Nat → Int32) (hf : fX9_swap v_thrown v_ringSize v_has v_gives v_wants v_ring = some (r0, n_thrown, n_ringSize, n_has, n_gives, n_ring)) : Met l yX9_swap wsX9_swap rmX9_swap (wPc [.ref h] (dC, dI) (tysW cI cJ cZ cG) sz (wcX9_swap cI cJ cZ cG h h_effect h_number h_banned h_has h_life h_shield h_strength h_haveMet h_deck h_deckSize h_who h_does h_much h_against h_pack h_packSize h_gives h_wants h_tryWho h_tryDoes h_tryMuch h_tryAgainst h_tryLife h_tryShield h_ring h_row v_thrown v_today v_kinds v_stacked v_drafters v_cards v_round v_turn v_high v_ringSize v_many v_has v_gives v_wants v_ring)) (wQi r0 (wcX9_swap cI cJ cZ cG h h_effect h_number h_banned h_has h_life h_shield h_strength h_haveMet h_deck h_deckSize h_who h_does h_much h_against h_pack h_packSize h_gives h_wants h_tryWho h_tryDoes h_tryMuch h_tryAgainst h_tryLife h_tryShield h_ring h_row n_thrown v_today v_kinds v_stacked v_drafters v_cards v_round v_turn v_high n_ringSize v_many n_has n_gives v_wants n_ring) (dC, dI) (va_A (wcX9_swap cI cJ cZ cG h h_effect h_number h_banned h_has h_life h_shield h_strength h_haveMet h_deck h_deckSize h_who h_does h_much h_against h_pack h_packSize h_gives h_wants h_tryWho h_tryDoes h_tryMuch h_tryAgainst h_tryLife h_tryShield h_ring h_row v_thrown v_today v_kinds v_stacked v_drafters v_cards v_round v_turn v_high v_ringSize v_many v_has v_gives v_wants v_ring) sz)) 0 0 (va_A (wcX9_swap cI cJ cZ cG h h_effect h_number h_banned h_has h_life h_shield h_strength h_haveMet h_deck h_deckSize h_who h_does h_much h_against h_pack h_packSize h_gives h_wants h_tryWho h_tryDoes h_tryMuch h_tryAgainst h_tryLife h_tryShield h_ring h_row v_thrown v_today v_kinds v_stacked v_drafters v_cards v_round v_turn v_high v_ringSize v_many v_has v_gives v_wants v_ring) sz) := by
  refine Met.ofW (cc := cX9_swap) (maxL := 3) (ret := (some .int)) (by decide) rfl ?_
  intro p e s m args below meth c s₁ B hml hv
  obtain ⟨rfl, hsz, hP, hK, hD0⟩ := hv
  have hx := B.exec
  have hb := B.bytes
  have hr := B.returns
  have hts := atoms_spec (ws := wsX9_swap) B.pre
  have hown : s.vm.findClass RX9 = some m.cls := findClass_of_methodNamed B.named
  have hlocks := B.notSynchronized
  subst hsz
  have hD := hD0.self (sz := s.heap.size)
  generalize hAe : va_A (wcX9_swap cI cJ cZ cG h h_effect h_number h_banned h_has h_life h_shield h_strength h_haveMet h_deck h_deckSize h_who h_does h_much h_against h_pack h_packSize h_gives h_wants h_tryWho h_tryDoes h_tryMuch h_tryAgainst h_tryLife h_tryShield h_ring h_row v_thrown v_today v_kinds v_stacked v_drafters v_cards v_round v_turn v_high v_ringSize v_many v_has v_gives v_wants v_ring) s.heap.size = A at hD ⊢
  have hA : ∀ q : Nat, s.heap.size ≤ q → A q := fun q h => by rw [← hAe]; exact Or.inr h
  have hS : va_S A s.heap s.heap [] := va_S.rf
  have hP : va_P (dC, dI) vwCl (wcX9_swap cI cJ cZ cG h h_effect h_number h_banned h_has h_life h_shield h_strength h_haveMet h_deck h_deckSize h_who h_does h_much h_against h_pack h_packSize h_gives h_wants h_tryWho h_tryDoes h_tryMuch h_tryAgainst h_tryLife h_tryShield h_ring h_row v_thrown v_today v_kinds v_stacked v_drafters v_cards v_round v_turn v_high v_ringSize v_many v_has v_gives v_wants v_ring) s.heap := hP
  have hl := lv_entry ([.ref h]) (n := 3) (Nat.le_of_ble_eq_true rfl)
  rw [lg_entry_eq]
  generalize (lg_sl ([.ref h]) ++ List.replicate (3 - (lg_sl ([.ref h])).length) Slot.unset).toArray = ls at hl ⊢
  have hl : lv_has ls 3 [(0, .ref h)] := hl
  generalize hH : s.heap = H at hP hS ⊢
  have hS : va_S A s.heap H [] := by rw [hH]; exact hS
  have C0 : wCX p s #[.ref h] m meth c cX9_swap 3 (some .int) RX9 wsX9_swap := ⟨hx, hb, hr, hml, hown, hts, hlocks⟩
  show W p l e rmX9_swap s m #[.ref h] below meth c H [] 0 0 (MQ below (wQi r0 (wcX9_swap cI cJ cZ cG h h_effect h_number h_banned h_has h_life h_shield h_strength h_haveMet h_deck h_deckSize h_who h_does h_much h_against h_pack h_packSize h_gives h_wants h_tryWho h_tryDoes h_tryMuch h_tryAgainst h_tryLife h_tryShield h_ring h_row n_thrown v_today v_kinds v_stacked v_drafters v_cards v_round v_turn v_high n_ringSize v_many n_has n_gives v_wants n_ring) (dC, dI) A) #[.ref h] s 0 0 A) (F0 m 0 ls [])
  unfold fX9_swap at hf
  refine lv_aload_n hx hb dX9_swap_0 rfl (lv_at hl 0 rfl) ?_
  refine lv_iconst (v := 0) hx hb dX9_swap_1 (by decide) ?_
  refine va_put (D := (dC, dI)) (ci := 9) (v := .int 0) (ty := .int) (C := RX9) (T := TX9) (N := 37) hx hb hts iX9_swap_X9 tyX9 tyX9_ok nmX9 hown hK hP hD hS 0 rfl rfl 0 (by decide) (hts _ mX9_swap_0) (fun _ h9 => h9) rfl (by decide +kernel) rfl rfl (Nat.le_of_ble_eq_true rfl) dX9_swap_2 (fun H locs hP hD hS => ?_)
  have hP : va_P (dC, dI) vwCl (wcX9_swap cI cJ cZ cG h h_effect h_number h_banned h_has h_life h_shield h_strength h_haveMet h_deck h_deckSize h_who h_does h_much h_against h_pack h_packSize h_gives h_wants h_tryWho h_tryDoes h_tryMuch h_tryAgainst h_tryLife h_tryShield h_ring h_row 0 v_today v_kinds v_stacked v_drafters v_cards v_round v_turn v_high v_ringSize v_many v_has v_gives v_wants v_ring) H := hP
  have hD : va_D A (wcX9_swap cI cJ cZ cG h h_effect h_number h_banned h_has h_life h_shield h_strength h_haveMet h_deck h_deckSize h_who h_does h_much h_against h_pack h_packSize h_gives h_wants h_tryWho h_tryDoes h_tryMuch h_tryAgainst h_tryLife h_tryShield h_ring h_row 0 v_today v_kinds v_stacked v_drafters v_cards v_round v_turn v_high v_ringSize v_many v_has v_gives v_wants v_ring) := hD
  refine lv_aload_n hx hb dX9_swap_5 rfl (lv_at hl 0 rfl) ?_
  obtain ⟨⟨w_1, w_2⟩, hc_3, hf⟩ := ob_s hf
  refine w_callVv (As := []) (rest := []) (wr := List.filterMap (fun i : Nat => (wcX9_swap cI cJ cZ cG h h_effect h_number h_banned h_has h_life h_shield h_strength h_haveMet h_deck h_deckSize h_who h_does h_much h_against h_pack h_packSize h_gives h_wants h_tryWho h_tryDoes h_tryMuch h_tryAgainst h_tryLife h_tryShield h_ring h_row 0 v_today v_kinds v_stacked v_drafters v_cards v_round v_turn v_high v_ringSize v_many v_has v_gives v_wants v_ring)[i]?) []) (ws1 := (wcX9_swap cI cJ cZ cG h h_effect h_number h_banned h_has h_life h_shield h_strength h_haveMet h_deck h_deckSize h_who h_does h_much h_against h_pack h_packSize h_gives h_wants h_tryWho h_tryDoes h_tryMuch h_tryAgainst h_tryLife h_tryShield h_ring h_row 0 v_today v_kinds v_stacked v_drafters v_cards v_round v_turn v_high w_1 v_many v_has v_gives v_wants w_2)) ⟨hx, hb, hml, hown, hts⟩ (oX9_findRing l dC dI cI cJ cZ cG h h_effect h_number h_banned h_has h_life h_shield h_strength h_haveMet h_deck h_deckSize h_who h_does h_much h_against h_pack h_packSize h_gives h_wants h_tryWho h_tryDoes h_tryMuch h_tryAgainst h_tryLife h_tryShield h_ring h_row 0 v_today v_kinds v_stacked v_drafters v_cards v_round v_turn v_high v_ringSize v_many v_has v_gives v_wants v_ring H.size w_1 w_2 hc_3) (cwV 0 hts gX9_swap_X9_findRing rfl rfl rfl (by decide +kernel) ⟨Nat.le_of_ble_eq_true rfl, Nat.le_of_ble_eq_true rfl⟩) hK 0 9 rfl rfl rfl hP hD hS hA [0, 1, 2, 3, 4] [] [0, 1, 2, 3, 4] rfl rfl rfl rfl (by decide) rfl rfl rfl hl.1 rfl (Nat.le_of_ble_eq_true rfl) dX9_swap_6 ⟨Nat.le_refl _, Nat.le_refl _⟩ (fun H locs hP hD hS => ?_)
  refine lv_iconst (v := 0) hx hb dX9_swap_9 (by decide) ?_
  refine lv_istore_n (lv' := [(1, .int 0), (0, .ref h)]) hx hb dX9_swap_10 rfl hl (by decide) rfl (fun ls hl => ?_)
  have hf : fX9_swap_b11 v_wants 70 0 w_1 v_has v_gives w_2 0 = some (r0, n_thrown, n_ringSize, n_has, n_gives, n_ring) := hf
  exact kX9_swap_11 C0 hA hK 70 0 w_1 v_has v_gives w_2 0 _ _ _ hf hP hD hS (lv_sub hl [1, 0] rfl)
abbrev wcX9_rowOf (cI cJ cZ cG : ClassId) (h h_effect h_number h_banned h_has h_life h_shield h_strength h_haveMet h_deck h_deckSize h_who h_does h_much h_against h_pack h_packSize h_gives h_wants h_tryWho h_tryDoes h_tryMuch h_tryAgainst h_tryLife h_tryShield h_ring h_row : Nat) (v_thrown : Int32) (v_today : Int32) (v_kinds : Int32) (v_stacked : Int32) (v_drafters : Int32) (v_cards : Int32) (v_round : Int32) (v_turn : Int32) (v_high : Int32) (v_ringSize : Int32) (v_many : Int32) (v_strength : Nat → Int32) (v_row : Nat → Int32) : va_W := [(h, .inr (9, [.int v_thrown, .int v_today, .int v_kinds, .ref h_effect, .ref h_number, .ref h_banned, .ref h_has, .ref h_life, .ref h_shield, .ref h_strength, .ref h_haveMet, .ref h_deck, .ref h_deckSize, .int v_stacked, .ref h_who, .ref h_does, .ref h_much, .ref h_against, .int v_drafters, .int v_cards, .int v_round, .int v_turn, .ref h_pack, .ref h_packSize, .ref h_gives, .ref h_wants, .int v_high, .ref h_tryWho, .ref h_tryDoes, .ref h_tryMuch, .ref h_tryAgainst, .ref h_tryLife, .ref h_tryShield, .int v_ringSize, .ref h_ring, .int v_many, .ref h_row])), (h_strength, .inl (cI, 6, .inl v_strength)), (h_row, .inl (cI, 6, .inl v_row))]
theorem iX9_rowOf_X9 : ∀ w ∈ wsX90, w ∈ wsX9_rowOf := by decide +kernel
theorem mX9_rowOf_0 : (Cond.fieldLink RX9 179 "SleevehallModel" "many" "I") ∈ wsX9_rowOf := by decide +kernel
theorem mX9_rowOf_1 : (Cond.fieldLink RX9 28 "SleevehallModel" "strength" "[I") ∈ wsX9_rowOf := by decide +kernel
theorem mX9_rowOf_2 : (Cond.fieldLink RX9 91 "SleevehallModel" "row" "[I") ∈ wsX9_rowOf := by decide +kernel
abbrev rmX9_rowOf : Room := { frames := 0, cells := 0, slots := 0, locals := 0 }
set_option maxHeartbeats 4000000 in
set_option maxRecDepth 100000 in
theorem kX9_rowOf_90 {p : Program} {l : Launch} {e : Env} {s : State} {m : MethodId} {args : Array Value} {below : List Frame} {meth : Method} {c : Code} {dC : Nat → ClassId} {dI : Nat → Nat → Nat} {A : Nat → Prop} {cI cJ cZ cG : ClassId} {h h_effect h_number h_banned h_has h_life h_shield h_strength h_haveMet h_deck h_deckSize h_who h_does h_much h_against h_pack h_packSize h_gives h_wants h_tryWho h_tryDoes h_tryMuch h_tryAgainst h_tryLife h_tryShield h_ring h_row : Nat} {v_thrown : Int32} {v_today : Int32} {v_kinds : Int32} {v_stacked : Int32} {v_drafters : Int32} {v_cards : Int32} {v_round : Int32} {v_turn : Int32} {v_high : Int32} {v_ringSize : Int32} {v_strength : Nat → Int32} {n_many : Int32} {n_row : Nat → Int32} {k_7 : Int32 → (Nat → Int32) → Int32 → Int32 → Option (Int32 × (Nat → Int32))} (C0 : wCX p s args m meth c cX9_rowOf 4 none RX9 wsX9_rowOf) (hA : ∀ q, s.heap.size ≤ q → A q) (hK : va_K (dC, dI) vwCl (tysW cI cJ cZ cG) s) (hk_7 : ∀ (v_many : Int32) (v_row : Nat → Int32) (l1 : Int32) (l2 : Int32) (H : Heap) (locs : List Loc) (ls : Array Slot), k_7 v_many v_row l1 l2 = some (n_many, n_row) → va_P (dC, dI) vwCl (wcX9_rowOf cI cJ cZ cG h h_effect h_number h_banned h_has h_life h_shield h_strength h_haveMet h_deck h_deckSize h_who h_does h_much h_against h_pack h_packSize h_gives h_wants h_tryWho h_tryDoes h_tryMuch h_tryAgainst h_tryLife h_tryShield h_ring h_row v_thrown v_today v_kinds v_stacked v_drafters v_cards v_round v_turn v_high v_ringSize v_many v_strength v_row) H → va_D A (wcX9_rowOf cI cJ cZ cG h h_effect h_number h_banned h_has h_life h_shield h_strength h_haveMet h_deck h_deckSize h_who h_does h_much h_against h_pack h_packSize h_gives h_wants h_tryWho h_tryDoes h_tryMuch h_tryAgainst h_tryLife h_tryShield h_ring h_row v_thrown v_today v_kinds v_stacked v_drafters v_cards v_round v_turn v_high v_ringSize v_many v_strength v_row) → va_S A s.heap H locs → lv_has ls 4 [(0, .ref h), (1, .int l1), (2, .int l2)] → W p l e rmX9_rowOf s m args below meth c H locs 0 0 (MQ below (wQv (wcX9_rowOf cI cJ cZ cG h h_effect h_number h_banned h_has h_life h_shield h_strength h_haveMet h_deck h_deckSize h_who h_does h_much h_against h_pack h_packSize h_gives h_wants h_tryWho h_tryDoes h_tryMuch h_tryAgainst h_tryLife h_tryShield h_ring h_row v_thrown v_today v_kinds v_stacked v_drafters v_cards v_round v_turn v_high v_ringSize n_many v_strength n_row) (dC, dI) A) args s 0 0 A) (F0 m 7 ls [])) : ∀ (v_many : Int32) (v_row : Nat → Int32) (l1 : Int32) (l2 : Int32) (H : Heap) (locs : List Loc) (ls : Array Slot), fX9_rowOf_b90 k_7 v_strength v_many v_row l1 l2 = some (n_many, n_row) → va_P (dC, dI) vwCl (wcX9_rowOf cI cJ cZ cG h h_effect h_number h_banned h_has h_life h_shield h_strength h_haveMet h_deck h_deckSize h_who h_does h_much h_against h_pack h_packSize h_gives h_wants h_tryWho h_tryDoes h_tryMuch h_tryAgainst h_tryLife h_tryShield h_ring h_row v_thrown v_today v_kinds v_stacked v_drafters v_cards v_round v_turn v_high v_ringSize v_many v_strength v_row) H → va_D A (wcX9_rowOf cI cJ cZ cG h h_effect h_number h_banned h_has h_life h_shield h_strength h_haveMet h_deck h_deckSize h_who h_does h_much h_against h_pack h_packSize h_gives h_wants h_tryWho h_tryDoes h_tryMuch h_tryAgainst h_tryLife h_tryShield h_ring h_row v_thrown v_today v_kinds v_stacked v_drafters v_cards v_round v_turn v_high v_ringSize v_many v_strength v_row) → va_S A s.heap H locs → lv_has ls 4 [(0, .ref h), (1, .int l1), (2, .int l2)] → W p l e rmX9_rowOf s m args below meth c H locs 0 0 (MQ below (wQv (wcX9_rowOf cI cJ cZ cG h h_effect h_number h_banned h_has h_life h_shield h_strength h_haveMet h_deck h_deckSize h_who h_does h_much h_against h_pack h_packSize h_gives h_wants h_tryWho h_tryDoes h_tryMuch h_tryAgainst h_tryLife h_tryShield h_ring h_row v_thrown v_today v_kinds v_stacked v_drafters v_cards v_round v_turn v_high v_ringSize n_many v_strength n_row) (dC, dI) A) args s 0 0 A) (F0 m 90 ls []) := by
  obtain ⟨hx, hb, hr, hml, hown, hts, hlocks⟩ := id C0
  intro v_many v_row l1 l2 H locs ls hf hP hD hS hl
  unfold fX9_rowOf_b90 at hf
  obtain ⟨x_1, ex_1, hf⟩ := nm_s hf
  refine lv_iinc (v := x_1) (lv' := [(2, .int x_1), (0, .ref h), (1, .int l1)]) hx hb dX9_rowOf_90 hl (k := 2) rfl (by rw [ex_1]; rfl) (by decide) rfl (fun ls hl => ?_)
  refine lv_goto (tgt := 7) hx hb dX9_rowOf_93 (by decide) ?_
  have hf : k_7 v_many v_row l1 x_1 = some (n_many, n_row) := hf
  exact hk_7 v_many v_row l1 x_1 _ _ _ hf hP hD hS (lv_sub hl [1, 2, 0] rfl)
set_option maxHeartbeats 4000000 in
set_option maxRecDepth 100000 in
theorem kX9_rowOf_73 {p : Program} {l : Launch} {e : Env} {s : State} {m : MethodId} {args : Array Value} {below : List Frame} {meth : Method} {c : Code} {dC : Nat → ClassId} {dI : Nat → Nat → Nat} {A : Nat → Prop} {cI cJ cZ cG : ClassId} {h h_effect h_number h_banned h_has h_life h_shield h_strength h_haveMet h_deck h_deckSize h_who h_does h_much h_against h_pack h_packSize h_gives h_wants h_tryWho h_tryDoes h_tryMuch h_tryAgainst h_tryLife h_tryShield h_ring h_row : Nat} {v_thrown : Int32} {v_today : Int32} {v_kinds : Int32} {v_stacked : Int32} {v_drafters : Int32} {v_cards : Int32} {v_round : Int32} {v_turn : Int32} {v_high : Int32} {v_ringSize : Int32} {v_strength : Nat → Int32} {n_many : Int32} {n_row : Nat → Int32} {k_7 : Int32 → (Nat → Int32) → Int32 → Int32 → Option (Int32 × (Nat → Int32))} (C0 : wCX p s args m meth c cX9_rowOf 4 none RX9 wsX9_rowOf) (hA : ∀ q, s.heap.size ≤ q → A q) (hK : va_K (dC, dI) vwCl (tysW cI cJ cZ cG) s) (hk_7 : ∀ (v_many : Int32) (v_row : Nat → Int32) (l1 : Int32) (l2 : Int32) (H : Heap) (locs : List Loc) (ls : Array Slot), k_7 v_many v_row l1 l2 = some (n_many, n_row) → va_P (dC, dI) vwCl (wcX9_rowOf cI cJ cZ cG h h_effect h_number h_banned h_has h_life h_shield h_strength h_haveMet h_deck h_deckSize h_who h_does h_much h_against h_pack h_packSize h_gives h_wants h_tryWho h_tryDoes h_tryMuch h_tryAgainst h_tryLife h_tryShield h_ring h_row v_thrown v_today v_kinds v_stacked v_drafters v_cards v_round v_turn v_high v_ringSize v_many v_strength v_row) H → va_D A (wcX9_rowOf cI cJ cZ cG h h_effect h_number h_banned h_has h_life h_shield h_strength h_haveMet h_deck h_deckSize h_who h_does h_much h_against h_pack h_packSize h_gives h_wants h_tryWho h_tryDoes h_tryMuch h_tryAgainst h_tryLife h_tryShield h_ring h_row v_thrown v_today v_kinds v_stacked v_drafters v_cards v_round v_turn v_high v_ringSize v_many v_strength v_row) → va_S A s.heap H locs → lv_has ls 4 [(0, .ref h), (1, .int l1), (2, .int l2)] → W p l e rmX9_rowOf s m args below meth c H locs 0 0 (MQ below (wQv (wcX9_rowOf cI cJ cZ cG h h_effect h_number h_banned h_has h_life h_shield h_strength h_haveMet h_deck h_deckSize h_who h_does h_much h_against h_pack h_packSize h_gives h_wants h_tryWho h_tryDoes h_tryMuch h_tryAgainst h_tryLife h_tryShield h_ring h_row v_thrown v_today v_kinds v_stacked v_drafters v_cards v_round v_turn v_high v_ringSize n_many v_strength n_row) (dC, dI) A) args s 0 0 A) (F0 m 7 ls [])) : ∀ (v_many : Int32) (v_row : Nat → Int32) (l1 : Int32) (l2 : Int32) (l3 : Int32) (H : Heap) (locs : List Loc) (ls : Array Slot), fX9_rowOf_b73 k_7 v_strength v_many v_row l1 l2 l3 = some (n_many, n_row) → va_P (dC, dI) vwCl (wcX9_rowOf cI cJ cZ cG h h_effect h_number h_banned h_has h_life h_shield h_strength h_haveMet h_deck h_deckSize h_who h_does h_much h_against h_pack h_packSize h_gives h_wants h_tryWho h_tryDoes h_tryMuch h_tryAgainst h_tryLife h_tryShield h_ring h_row v_thrown v_today v_kinds v_stacked v_drafters v_cards v_round v_turn v_high v_ringSize v_many v_strength v_row) H → va_D A (wcX9_rowOf cI cJ cZ cG h h_effect h_number h_banned h_has h_life h_shield h_strength h_haveMet h_deck h_deckSize h_who h_does h_much h_against h_pack h_packSize h_gives h_wants h_tryWho h_tryDoes h_tryMuch h_tryAgainst h_tryLife h_tryShield h_ring h_row v_thrown v_today v_kinds v_stacked v_drafters v_cards v_round v_turn v_high v_ringSize v_many v_strength v_row) → va_S A s.heap H locs → lv_has ls 4 [(0, .ref h), (1, .int l1), (2, .int l2), (3, .int l3)] → W p l e rmX9_rowOf s m args below meth c H locs 0 0 (MQ below (wQv (wcX9_rowOf cI cJ cZ cG h h_effect h_number h_banned h_has h_life h_shield h_strength h_haveMet h_deck h_deckSize h_who h_does h_much h_against h_pack h_packSize h_gives h_wants h_tryWho h_tryDoes h_tryMuch h_tryAgainst h_tryLife h_tryShield h_ring h_row v_thrown v_today v_kinds v_stacked v_drafters v_cards v_round v_turn v_high v_ringSize n_many v_strength n_row) (dC, dI) A) args s 0 0 A) (F0 m 73 ls []) := by
  obtain ⟨hx, hb, hr, hml, hown, hts, hlocks⟩ := id C0
  intro v_many v_row l1 l2 l3 H locs ls hf hP hD hS hl
  unfold fX9_rowOf_b73 at hf
  refine lv_aload_n hx hb dX9_rowOf_73 rfl (lv_at hl 0 rfl) ?_
  refine va_get (D := (dC, dI)) (ci := 9) (v := .ref h_row) (C := RX9) (T := TX9) (N := 37) hx hb hts iX9_rowOf_X9 hown hK hP 0 rfl rfl 36 (by decide) (hts _ mX9_rowOf_2) (fun _ h9 => h9) rfl dX9_rowOf_74 ?_
  refine lv_iload_n hx hb dX9_rowOf_77 rfl (lv_at hl 3 rfl) ?_
  refine lv_iload_n hx hb dX9_rowOf_78 rfl (lv_at hl 2 rfl) ?_
  obtain ⟨hg_1, hf⟩ := ck_s hf
  refine va_iast (D := (dC, dI)) hx hb hK hP hD hS 2 0 rfl rfl (g_vp hg_1) dX9_rowOf_79 (fun H locs hP hD hS => ?_)
  have hP : va_P (dC, dI) vwCl (wcX9_rowOf cI cJ cZ cG h h_effect h_number h_banned h_has h_life h_shield h_strength h_haveMet h_deck h_deckSize h_who h_does h_much h_against h_pack h_packSize h_gives h_wants h_tryWho h_tryDoes h_tryMuch h_tryAgainst h_tryLife h_tryShield h_ring h_row v_thrown v_today v_kinds v_stacked v_drafters v_cards v_round v_turn v_high v_ringSize v_many v_strength (upd v_row l3.toNatClampNeg l2)) H := hP
  have hD : va_D A (wcX9_rowOf cI cJ cZ cG h h_effect h_number h_banned h_has h_life h_shield h_strength h_haveMet h_deck h_deckSize h_who h_does h_much h_against h_pack h_packSize h_gives h_wants h_tryWho h_tryDoes h_tryMuch h_tryAgainst h_tryLife h_tryShield h_ring h_row v_thrown v_today v_kinds v_stacked v_drafters v_cards v_round v_turn v_high v_ringSize v_many v_strength (upd v_row l3.toNatClampNeg l2)) := hD
  refine lv_aload_n hx hb dX9_rowOf_80 rfl (lv_at hl 0 rfl) ?_
  refine lv_dup hx hb dX9_rowOf_81 rfl ?_
  refine va_get (D := (dC, dI)) (ci := 9) (v := .int v_many) (C := RX9) (T := TX9) (N := 37) hx hb hts iX9_rowOf_X9 hown hK hP 0 rfl rfl 35 (by decide) (hts _ mX9_rowOf_0) (fun _ h9 => h9) rfl dX9_rowOf_82 ?_
  refine lv_iconst (v := 1) hx hb dX9_rowOf_85 (by decide) ?_
  refine lv_iadd hx hb dX9_rowOf_86 ?_
  obtain ⟨x_2, ex_2, hf⟩ := nm_s hf
  refine w_eqi ex_2 ?_
  refine va_put (D := (dC, dI)) (ci := 9) (v := .int x_2) (ty := .int) (C := RX9) (T := TX9) (N := 37) hx hb hts iX9_rowOf_X9 tyX9 tyX9_ok nmX9 hown hK hP hD hS 0 rfl rfl 35 (by decide) (hts _ mX9_rowOf_0) (fun _ h9 => h9) rfl (by decide +kernel) rfl rfl (Nat.le_of_ble_eq_true rfl) dX9_rowOf_87 (fun H locs hP hD hS => ?_)
  have hP : va_P (dC, dI) vwCl (wcX9_rowOf cI cJ cZ cG h h_effect h_number h_banned h_has h_life h_shield h_strength h_haveMet h_deck h_deckSize h_who h_does h_much h_against h_pack h_packSize h_gives h_wants h_tryWho h_tryDoes h_tryMuch h_tryAgainst h_tryLife h_tryShield h_ring h_row v_thrown v_today v_kinds v_stacked v_drafters v_cards v_round v_turn v_high v_ringSize x_2 v_strength (upd v_row l3.toNatClampNeg l2)) H := hP
  have hD : va_D A (wcX9_rowOf cI cJ cZ cG h h_effect h_number h_banned h_has h_life h_shield h_strength h_haveMet h_deck h_deckSize h_who h_does h_much h_against h_pack h_packSize h_gives h_wants h_tryWho h_tryDoes h_tryMuch h_tryAgainst h_tryLife h_tryShield h_ring h_row v_thrown v_today v_kinds v_stacked v_drafters v_cards v_round v_turn v_high v_ringSize x_2 v_strength (upd v_row l3.toNatClampNeg l2)) := hD
  have hf : fX9_rowOf_b90 k_7 v_strength x_2 (upd v_row l3.toNatClampNeg l2) l1 l2 = some (n_many, n_row) := hf
  exact kX9_rowOf_90 C0 hA hK hk_7 x_2 (upd v_row l3.toNatClampNeg l2) l1 l2 _ _ _ hf hP hD hS (lv_sub hl [0, 1, 2] rfl)
set_option maxHeartbeats 4000000 in
set_option maxRecDepth 100000 in
theorem kX9_rowOf_27 {p : Program} {l : Launch} {e : Env} {s : State} {m : MethodId} {args : Array Value} {below : List Frame} {meth : Method} {c : Code} {dC : Nat → ClassId} {dI : Nat → Nat → Nat} {A : Nat → Prop} {cI cJ cZ cG : ClassId} {h h_effect h_number h_banned h_has h_life h_shield h_strength h_haveMet h_deck h_deckSize h_who h_does h_much h_against h_pack h_packSize h_gives h_wants h_tryWho h_tryDoes h_tryMuch h_tryAgainst h_tryLife h_tryShield h_ring h_row : Nat} {v_thrown : Int32} {v_today : Int32} {v_kinds : Int32} {v_stacked : Int32} {v_drafters : Int32} {v_cards : Int32} {v_round : Int32} {v_turn : Int32} {v_high : Int32} {v_ringSize : Int32} {v_strength : Nat → Int32} {n_many : Int32} {n_row : Nat → Int32} {k_7 : Int32 → (Nat → Int32) → Int32 → Int32 → Option (Int32 × (Nat → Int32))} (C0 : wCX p s args m meth c cX9_rowOf 4 none RX9 wsX9_rowOf) (hA : ∀ q, s.heap.size ≤ q → A q) (hK : va_K (dC, dI) vwCl (tysW cI cJ cZ cG) s) (hk_7 : ∀ (v_many : Int32) (v_row : Nat → Int32) (l1 : Int32) (l2 : Int32) (H : Heap) (locs : List Loc) (ls : Array Slot), k_7 v_many v_row l1 l2 = some (n_many, n_row) → va_P (dC, dI) vwCl (wcX9_rowOf cI cJ cZ cG h h_effect h_number h_banned h_has h_life h_shield h_strength h_haveMet h_deck h_deckSize h_who h_does h_much h_against h_pack h_packSize h_gives h_wants h_tryWho h_tryDoes h_tryMuch h_tryAgainst h_tryLife h_tryShield h_ring h_row v_thrown v_today v_kinds v_stacked v_drafters v_cards v_round v_turn v_high v_ringSize v_many v_strength v_row) H → va_D A (wcX9_rowOf cI cJ cZ cG h h_effect h_number h_banned h_has h_life h_shield h_strength h_haveMet h_deck h_deckSize h_who h_does h_much h_against h_pack h_packSize h_gives h_wants h_tryWho h_tryDoes h_tryMuch h_tryAgainst h_tryLife h_tryShield h_ring h_row v_thrown v_today v_kinds v_stacked v_drafters v_cards v_round v_turn v_high v_ringSize v_many v_strength v_row) → va_S A s.heap H locs → lv_has ls 4 [(0, .ref h), (1, .int l1), (2, .int l2)] → W p l e rmX9_rowOf s m args below meth c H locs 0 0 (MQ below (wQv (wcX9_rowOf cI cJ cZ cG h h_effect h_number h_banned h_has h_life h_shield h_strength h_haveMet h_deck h_deckSize h_who h_does h_much h_against h_pack h_packSize h_gives h_wants h_tryWho h_tryDoes h_tryMuch h_tryAgainst h_tryLife h_tryShield h_ring h_row v_thrown v_today v_kinds v_stacked v_drafters v_cards v_round v_turn v_high v_ringSize n_many v_strength n_row) (dC, dI) A) args s 0 0 A) (F0 m 7 ls [])) : ∀ (n : Nat), ∀ (v_many : Int32) (v_row : Nat → Int32) (l1 : Int32) (l2 : Int32) (l3 : Int32) (H : Heap) (locs : List Loc) (ls : Array Slot), fX9_rowOf_b27 k_7 v_strength n v_many v_row l1 l2 l3 = some (n_many, n_row) → va_P (dC, dI) vwCl (wcX9_rowOf cI cJ cZ cG h h_effect h_number h_banned h_has h_life h_shield h_strength h_haveMet h_deck h_deckSize h_who h_does h_much h_against h_pack h_packSize h_gives h_wants h_tryWho h_tryDoes h_tryMuch h_tryAgainst h_tryLife h_tryShield h_ring h_row v_thrown v_today v_kinds v_stacked v_drafters v_cards v_round v_turn v_high v_ringSize v_many v_strength v_row) H → va_D A (wcX9_rowOf cI cJ cZ cG h h_effect h_number h_banned h_has h_life h_shield h_strength h_haveMet h_deck h_deckSize h_who h_does h_much h_against h_pack h_packSize h_gives h_wants h_tryWho h_tryDoes h_tryMuch h_tryAgainst h_tryLife h_tryShield h_ring h_row v_thrown v_today v_kinds v_stacked v_drafters v_cards v_round v_turn v_high v_ringSize v_many v_strength v_row) → va_S A s.heap H locs → lv_has ls 4 [(0, .ref h), (1, .int l1), (2, .int l2), (3, .int l3)] → W p l e rmX9_rowOf s m args below meth c H locs 0 0 (MQ below (wQv (wcX9_rowOf cI cJ cZ cG h h_effect h_number h_banned h_has h_life h_shield h_strength h_haveMet h_deck h_deckSize h_who h_does h_much h_against h_pack h_packSize h_gives h_wants h_tryWho h_tryDoes h_tryMuch h_tryAgainst h_tryLife h_tryShield h_ring h_row v_thrown v_today v_kinds v_stacked v_drafters v_cards v_round v_turn v_high v_ringSize n_many v_strength n_row) (dC, dI) A) args s 0 0 A) (F0 m 27 ls []) := by
  obtain ⟨hx, hb, hr, hml, hown, hts, hlocks⟩ := id C0
  intro n
  induction n with
  | zero =>
    intro v_many v_row l1 l2 l3 H locs ls hf hP hD hS hl
    rw [fX9_rowOf_b27] at hf
    cases hf
  | succ n ih =>
    intro v_many v_row l1 l2 l3 H locs ls hf hP hD hS hl
    rw [fX9_rowOf_b27] at hf
    refine lv_iload_n hx hb dX9_rowOf_27 rfl (lv_at hl 3 rfl) ?_
    refine lv_if_le (tgt := 73) hx hb dX9_rowOf_28 (by decide) (fun c_1 => ?_) (fun c_1 => ?_)
    · have hf := it_t hf c_1
      have hf : fX9_rowOf_b73 k_7 v_strength v_many v_row l1 l2 l3 = some (n_many, n_row) := hf
      exact kX9_rowOf_73 C0 hA hK hk_7 v_many v_row l1 l2 l3 _ _ _ hf hP hD hS (lv_sub hl [0, 1, 2, 3] rfl)
    · have hf := it_f hf c_1
      refine lv_aload_n hx hb dX9_rowOf_31 rfl (lv_at hl 0 rfl) ?_
      refine va_get (D := (dC, dI)) (ci := 9) (v := .ref h_strength) (C := RX9) (T := TX9) (N := 37) hx hb hts iX9_rowOf_X9 hown hK hP 0 rfl rfl 9 (by decide) (hts _ mX9_rowOf_1) (fun _ h9 => h9) rfl dX9_rowOf_32 ?_
      refine lv_aload_n hx hb dX9_rowOf_35 rfl (lv_at hl 0 rfl) ?_
      refine va_get (D := (dC, dI)) (ci := 9) (v := .ref h_row) (C := RX9) (T := TX9) (N := 37) hx hb hts iX9_rowOf_X9 hown hK hP 0 rfl rfl 36 (by decide) (hts _ mX9_rowOf_2) (fun _ h9 => h9) rfl dX9_rowOf_36 ?_
      refine lv_iload_n hx hb dX9_rowOf_39 rfl (lv_at hl 3 rfl) ?_
      refine lv_iconst (v := 1) hx hb dX9_rowOf_40 (by decide) ?_
      refine lv_isub hx hb dX9_rowOf_41 ?_
      obtain ⟨hg_2, hf⟩ := ck_s hf
      refine va_iald (D := (dC, dI)) hx hb hK hP 2 0 rfl rfl (g_vp hg_2) dX9_rowOf_42 ?_
      obtain ⟨hg_3, hf⟩ := ck_s hf
      refine va_iald (D := (dC, dI)) hx hb hK hP 1 0 rfl rfl (g_vp hg_3) dX9_rowOf_43 ?_
      refine lv_aload_n hx hb dX9_rowOf_44 rfl (lv_at hl 0 rfl) ?_
      refine va_get (D := (dC, dI)) (ci := 9) (v := .ref h_strength) (C := RX9) (T := TX9) (N := 37) hx hb hts iX9_rowOf_X9 hown hK hP 0 rfl rfl 9 (by decide) (hts _ mX9_rowOf_1) (fun _ h9 => h9) rfl dX9_rowOf_45 ?_
      refine lv_iload_n hx hb dX9_rowOf_48 rfl (lv_at hl 2 rfl) ?_
      obtain ⟨hg_4, hf⟩ := ck_s hf
      refine va_iald (D := (dC, dI)) hx hb hK hP 1 0 rfl rfl (g_vp hg_4) dX9_rowOf_49 ?_
      refine lv_icmp_ge (tgt := 73) hx hb dX9_rowOf_50 (by decide) (fun c_5 => ?_) (fun c_5 => ?_)
      · have hf := it_t hf c_5
        have hf : fX9_rowOf_b73 k_7 v_strength v_many v_row l1 l2 l3 = some (n_many, n_row) := hf
        exact kX9_rowOf_73 C0 hA hK hk_7 v_many v_row l1 l2 l3 _ _ _ hf hP hD hS (lv_sub hl [0, 1, 2, 3] rfl)
      · have hf := it_f hf c_5
        refine lv_aload_n hx hb dX9_rowOf_53 rfl (lv_at hl 0 rfl) ?_
        refine va_get (D := (dC, dI)) (ci := 9) (v := .ref h_row) (C := RX9) (T := TX9) (N := 37) hx hb hts iX9_rowOf_X9 hown hK hP 0 rfl rfl 36 (by decide) (hts _ mX9_rowOf_2) (fun _ h9 => h9) rfl dX9_rowOf_54 ?_
        refine lv_iload_n hx hb dX9_rowOf_57 rfl (lv_at hl 3 rfl) ?_
        refine lv_aload_n hx hb dX9_rowOf_58 rfl (lv_at hl 0 rfl) ?_
        refine va_get (D := (dC, dI)) (ci := 9) (v := .ref h_row) (C := RX9) (T := TX9) (N := 37) hx hb hts iX9_rowOf_X9 hown hK hP 0 rfl rfl 36 (by decide) (hts _ mX9_rowOf_2) (fun _ h9 => h9) rfl dX9_rowOf_59 ?_
        refine lv_iload_n hx hb dX9_rowOf_62 rfl (lv_at hl 3 rfl) ?_
        refine lv_iconst (v := 1) hx hb dX9_rowOf_63 (by decide) ?_
        refine lv_isub hx hb dX9_rowOf_64 ?_
        obtain ⟨hg_6, hf⟩ := ck_s hf
        refine va_iald (D := (dC, dI)) hx hb hK hP 2 0 rfl rfl (g_vp hg_6) dX9_rowOf_65 ?_
        obtain ⟨x_7, ex_7, hf⟩ := nm_s hf
        refine w_eqi ex_7 ?_
        obtain ⟨hg_8, hf⟩ := ck_s hf
        refine va_iast (D := (dC, dI)) hx hb hK hP hD hS 2 0 rfl rfl (g_vp hg_8) dX9_rowOf_66 (fun H locs hP hD hS => ?_)
        have hP : va_P (dC, dI) vwCl (wcX9_rowOf cI cJ cZ cG h h_effect h_number h_banned h_has h_life h_shield h_strength h_haveMet h_deck h_deckSize h_who h_does h_much h_against h_pack h_packSize h_gives h_wants h_tryWho h_tryDoes h_tryMuch h_tryAgainst h_tryLife h_tryShield h_ring h_row v_thrown v_today v_kinds v_stacked v_drafters v_cards v_round v_turn v_high v_ringSize v_many v_strength (upd v_row l3.toNatClampNeg x_7)) H := hP
        have hD : va_D A (wcX9_rowOf cI cJ cZ cG h h_effect h_number h_banned h_has h_life h_shield h_strength h_haveMet h_deck h_deckSize h_who h_does h_much h_against h_pack h_packSize h_gives h_wants h_tryWho h_tryDoes h_tryMuch h_tryAgainst h_tryLife h_tryShield h_ring h_row v_thrown v_today v_kinds v_stacked v_drafters v_cards v_round v_turn v_high v_ringSize v_many v_strength (upd v_row l3.toNatClampNeg x_7)) := hD
        obtain ⟨x_9, ex_9, hf⟩ := nm_s hf
        refine lv_iinc (v := x_9) (lv' := [(3, .int x_9), (0, .ref h), (1, .int l1), (2, .int l2)]) hx hb dX9_rowOf_67 hl (k := 3) rfl (by rw [ex_9]; rfl) (by decide) rfl (fun ls hl => ?_)
        refine lv_goto (tgt := 27) hx hb dX9_rowOf_70 (by decide) ?_
        have hf : (fX9_rowOf_b27 k_7 v_strength n) v_many (upd v_row l3.toNatClampNeg x_7) l1 l2 x_9 = some (n_many, n_row) := hf
        exact ih v_many (upd v_row l3.toNatClampNeg x_7) l1 l2 x_9 _ _ _ hf hP hD hS (lv_sub hl [1, 2, 3, 0] rfl)
set_option maxHeartbeats 4000000 in
set_option maxRecDepth 100000 in
theorem kX9_rowOf_7 {p : Program} {l : Launch} {e : Env} {s : State} {m : MethodId} {args : Array Value} {below : List Frame} {meth : Method} {c : Code} {dC : Nat → ClassId} {dI : Nat → Nat → Nat} {A : Nat → Prop} {cI cJ cZ cG : ClassId} {h h_effect h_number h_banned h_has h_life h_shield h_strength h_haveMet h_deck h_deckSize h_who h_does h_much h_against h_pack h_packSize h_gives h_wants h_tryWho h_tryDoes h_tryMuch h_tryAgainst h_tryLife h_tryShield h_ring h_row : Nat} {v_thrown : Int32} {v_today : Int32} {v_kinds : Int32} {v_stacked : Int32} {v_drafters : Int32} {v_cards : Int32} {v_round : Int32} {v_turn : Int32} {v_high : Int32} {v_ringSize : Int32} {v_strength : Nat → Int32} {n_many : Int32} {n_row : Nat → Int32} (C0 : wCX p s args m meth c cX9_rowOf 4 none RX9 wsX9_rowOf) (hA : ∀ q, s.heap.size ≤ q → A q) (hK : va_K (dC, dI) vwCl (tysW cI cJ cZ cG) s) : ∀ (n : Nat), ∀ (v_many : Int32) (v_row : Nat → Int32) (l1 : Int32) (l2 : Int32) (H : Heap) (locs : List Loc) (ls : Array Slot), fX9_rowOf_b7 v_strength n v_many v_row l1 l2 = some (n_many, n_row) → va_P (dC, dI) vwCl (wcX9_rowOf cI cJ cZ cG h h_effect h_number h_banned h_has h_life h_shield h_strength h_haveMet h_deck h_deckSize h_who h_does h_much h_against h_pack h_packSize h_gives h_wants h_tryWho h_tryDoes h_tryMuch h_tryAgainst h_tryLife h_tryShield h_ring h_row v_thrown v_today v_kinds v_stacked v_drafters v_cards v_round v_turn v_high v_ringSize v_many v_strength v_row) H → va_D A (wcX9_rowOf cI cJ cZ cG h h_effect h_number h_banned h_has h_life h_shield h_strength h_haveMet h_deck h_deckSize h_who h_does h_much h_against h_pack h_packSize h_gives h_wants h_tryWho h_tryDoes h_tryMuch h_tryAgainst h_tryLife h_tryShield h_ring h_row v_thrown v_today v_kinds v_stacked v_drafters v_cards v_round v_turn v_high v_ringSize v_many v_strength v_row) → va_S A s.heap H locs → lv_has ls 4 [(0, .ref h), (1, .int l1), (2, .int l2)] → W p l e rmX9_rowOf s m args below meth c H locs 0 0 (MQ below (wQv (wcX9_rowOf cI cJ cZ cG h h_effect h_number h_banned h_has h_life h_shield h_strength h_haveMet h_deck h_deckSize h_who h_does h_much h_against h_pack h_packSize h_gives h_wants h_tryWho h_tryDoes h_tryMuch h_tryAgainst h_tryLife h_tryShield h_ring h_row v_thrown v_today v_kinds v_stacked v_drafters v_cards v_round v_turn v_high v_ringSize n_many v_strength n_row) (dC, dI) A) args s 0 0 A) (F0 m 7 ls []) := by
  obtain ⟨hx, hb, hr, hml, hown, hts, hlocks⟩ := id C0
  intro n
  induction n with
  | zero =>
    intro v_many v_row l1 l2 H locs ls hf hP hD hS hl
    rw [fX9_rowOf_b7] at hf
    cases hf
  | succ n ih =>
    intro v_many v_row l1 l2 H locs ls hf hP hD hS hl
    rw [fX9_rowOf_b7] at hf
    refine lv_iload_n hx hb dX9_rowOf_7 rfl (lv_at hl 2 rfl) ?_
    refine lv_bipush (v := 6) hx hb dX9_rowOf_8 (by decide) ?_
    refine lv_icmp_ge (tgt := 96) hx hb dX9_rowOf_10 (by decide) (fun c_1 => ?_) (fun c_1 => ?_)
    · have hf := it_t hf c_1
      refine lv_aload_n hx hb dX9_rowOf_96 rfl (lv_at hl 0 rfl) ?_
      refine lv_dup hx hb dX9_rowOf_97 rfl ?_
      refine va_get (D := (dC, dI)) (ci := 9) (v := .int v_many) (C := RX9) (T := TX9) (N := 37) hx hb hts iX9_rowOf_X9 hown hK hP 0 rfl rfl 35 (by decide) (hts _ mX9_rowOf_0) (fun _ h9 => h9) rfl dX9_rowOf_98 ?_
      refine lv_aload_n hx hb dX9_rowOf_101 rfl (lv_at hl 0 rfl) ?_
      refine va_get (D := (dC, dI)) (ci := 9) (v := .int v_many) (C := RX9) (T := TX9) (N := 37) hx hb hts iX9_rowOf_X9 hown hK hP 0 rfl rfl 35 (by decide) (hts _ mX9_rowOf_0) (fun _ h9 => h9) rfl dX9_rowOf_102 ?_
      refine lv_iconst (v := 2) hx hb dX9_rowOf_105 (by decide) ?_
      refine lv_irem hx hb dX9_rowOf_106 (by decide) ?_
      refine lv_isub hx hb dX9_rowOf_107 ?_
      obtain ⟨x_2, ex_2, hf⟩ := nm_s hf
      refine w_eqi ex_2 ?_
      refine va_put (D := (dC, dI)) (ci := 9) (v := .int x_2) (ty := .int) (C := RX9) (T := TX9) (N := 37) hx hb hts iX9_rowOf_X9 tyX9 tyX9_ok nmX9 hown hK hP hD hS 0 rfl rfl 35 (by decide) (hts _ mX9_rowOf_0) (fun _ h9 => h9) rfl (by decide +kernel) rfl rfl (Nat.le_of_ble_eq_true rfl) dX9_rowOf_108 (fun H locs hP hD hS => ?_)
      have hP : va_P (dC, dI) vwCl (wcX9_rowOf cI cJ cZ cG h h_effect h_number h_banned h_has h_life h_shield h_strength h_haveMet h_deck h_deckSize h_who h_does h_much h_against h_pack h_packSize h_gives h_wants h_tryWho h_tryDoes h_tryMuch h_tryAgainst h_tryLife h_tryShield h_ring h_row v_thrown v_today v_kinds v_stacked v_drafters v_cards v_round v_turn v_high v_ringSize x_2 v_strength v_row) H := hP
      have hD : va_D A (wcX9_rowOf cI cJ cZ cG h h_effect h_number h_banned h_has h_life h_shield h_strength h_haveMet h_deck h_deckSize h_who h_does h_much h_against h_pack h_packSize h_gives h_wants h_tryWho h_tryDoes h_tryMuch h_tryAgainst h_tryLife h_tryShield h_ring h_row v_thrown v_today v_kinds v_stacked v_drafters v_cards v_round v_turn v_high v_ringSize x_2 v_strength v_row) := hD
      have hf : some (x_2, v_row) = some (n_many, n_row) := hf
      cases hf
      exact w_vret hx hb hr hlocks hP hD hS dX9_rowOf_111
    · have hf := it_f hf c_1
      refine lv_iload_n hx hb dX9_rowOf_13 rfl (lv_at hl 1 rfl) ?_
      refine lv_iload_n hx hb dX9_rowOf_14 rfl (lv_at hl 2 rfl) ?_
      refine lv_ishr hx hb dX9_rowOf_15 ?_
      refine lv_iconst (v := 1) hx hb dX9_rowOf_16 (by decide) ?_
      refine lv_iand hx hb dX9_rowOf_17 ?_
      refine lv_iconst (v := 1) hx hb dX9_rowOf_18 (by decide) ?_
      refine lv_icmp_ne (tgt := 90) hx hb dX9_rowOf_19 (by decide) (fun c_3 => ?_) (fun c_3 => ?_)
      · have hf := it_f hf c_3
        have hf : fX9_rowOf_b90 (fX9_rowOf_b7 v_strength n) v_strength v_many v_row l1 l2 = some (n_many, n_row) := hf
        exact kX9_rowOf_90 C0 hA hK ih v_many v_row l1 l2 _ _ _ hf hP hD hS (lv_sub hl [0, 1, 2] rfl)
      · have hf := it_t hf c_3
        refine lv_aload_n hx hb dX9_rowOf_22 rfl (lv_at hl 0 rfl) ?_
        refine va_get (D := (dC, dI)) (ci := 9) (v := .int v_many) (C := RX9) (T := TX9) (N := 37) hx hb hts iX9_rowOf_X9 hown hK hP 0 rfl rfl 35 (by decide) (hts _ mX9_rowOf_0) (fun _ h9 => h9) rfl dX9_rowOf_23 ?_
        refine lv_istore_n (lv' := [(3, .int v_many), (0, .ref h), (1, .int l1), (2, .int l2)]) hx hb dX9_rowOf_26 rfl hl (by decide) rfl (fun ls hl => ?_)
        have hf : fX9_rowOf_b27 (fX9_rowOf_b7 v_strength n) v_strength 70 v_many v_row l1 l2 v_many = some (n_many, n_row) := hf
        exact kX9_rowOf_27 C0 hA hK ih 70 v_many v_row l1 l2 v_many _ _ _ hf hP hD hS (lv_sub hl [1, 2, 3, 0] rfl)
set_option maxHeartbeats 4000000 in
set_option maxRecDepth 100000 in
theorem oX9_rowOf (l : Launch) (dC : Nat → ClassId) (dI : Nat → Nat → Nat) (cI cJ cZ cG : ClassId) (h h_effect h_number h_banned h_has h_life h_shield h_strength h_haveMet h_deck h_deckSize h_who h_does h_much h_against h_pack h_packSize h_gives h_wants h_tryWho h_tryDoes h_tryMuch h_tryAgainst h_tryLife h_tryShield h_ring h_row : Nat) (v_thrown : Int32) (v_today : Int32) (v_kinds : Int32) (v_stacked : Int32) (v_drafters : Int32) (v_cards : Int32) (v_round : Int32) (v_turn : Int32) (v_high : Int32) (v_ringSize : Int32) (v_many : Int32) (v_strength : Nat → Int32) (v_row : Nat → Int32) (sz : Nat) (p1 : Int32) (n_many : Int32) (n_row : Nat → Int32) (hf : fX9_rowOf v_many v_strength v_row p1 = some (n_many, n_row)) : Met l yX9_rowOf wsX9_rowOf rmX9_rowOf (wPc [.ref h, .int p1] (dC, dI) (tysW cI cJ cZ cG) sz (wcX9_rowOf cI cJ cZ cG h h_effect h_number h_banned h_has h_life h_shield h_strength h_haveMet h_deck h_deckSize h_who h_does h_much h_against h_pack h_packSize h_gives h_wants h_tryWho h_tryDoes h_tryMuch h_tryAgainst h_tryLife h_tryShield h_ring h_row v_thrown v_today v_kinds v_stacked v_drafters v_cards v_round v_turn v_high v_ringSize v_many v_strength v_row)) (wQv (wcX9_rowOf cI cJ cZ cG h h_effect h_number h_banned h_has h_life h_shield h_strength h_haveMet h_deck h_deckSize h_who h_does h_much h_against h_pack h_packSize h_gives h_wants h_tryWho h_tryDoes h_tryMuch h_tryAgainst h_tryLife h_tryShield h_ring h_row v_thrown v_today v_kinds v_stacked v_drafters v_cards v_round v_turn v_high v_ringSize n_many v_strength n_row) (dC, dI) (va_A (wcX9_rowOf cI cJ cZ cG h h_effect h_number h_banned h_has h_life h_shield h_strength h_haveMet h_deck h_deckSize h_who h_does h_much h_against h_pack h_packSize h_gives h_wants h_tryWho h_tryDoes h_tryMuch h_tryAgainst h_tryLife h_tryShield h_ring h_row v_thrown v_today v_kinds v_stacked v_drafters v_cards v_round v_turn v_high v_ringSize v_many v_strength v_row) sz)) 0 0 (va_A (wcX9_rowOf cI cJ cZ cG h h_effect h_number h_banned h_has h_life h_shield h_strength h_haveMet h_deck h_deckSize h_who h_does h_much h_against h_pack h_packSize h_gives h_wants h_tryWho h_tryDoes h_tryMuch h_tryAgainst h_tryLife h_tryShield h_ring h_row v_thrown v_today v_kinds v_stacked v_drafters v_cards v_round v_turn v_high v_ringSize v_many v_strength v_row) sz) := by
  refine Met.ofW (cc := cX9_rowOf) (maxL := 4) (ret := none) (by decide) rfl ?_
  intro p e s m args below meth c s₁ B hml hv
  obtain ⟨rfl, hsz, hP, hK, hD0⟩ := hv
  have hx := B.exec
  have hb := B.bytes
  have hr := B.returns
  have hts := atoms_spec (ws := wsX9_rowOf) B.pre
  have hown : s.vm.findClass RX9 = some m.cls := findClass_of_methodNamed B.named
  have hlocks := B.notSynchronized
  subst hsz
  have hD := hD0.self (sz := s.heap.size)
  generalize hAe : va_A (wcX9_rowOf cI cJ cZ cG h h_effect h_number h_banned h_has h_life h_shield h_strength h_haveMet h_deck h_deckSize h_who h_does h_much h_against h_pack h_packSize h_gives h_wants h_tryWho h_tryDoes h_tryMuch h_tryAgainst h_tryLife h_tryShield h_ring h_row v_thrown v_today v_kinds v_stacked v_drafters v_cards v_round v_turn v_high v_ringSize v_many v_strength v_row) s.heap.size = A at hD ⊢
  have hA : ∀ q : Nat, s.heap.size ≤ q → A q := fun q h => by rw [← hAe]; exact Or.inr h
  have hS : va_S A s.heap s.heap [] := va_S.rf
  have hP : va_P (dC, dI) vwCl (wcX9_rowOf cI cJ cZ cG h h_effect h_number h_banned h_has h_life h_shield h_strength h_haveMet h_deck h_deckSize h_who h_does h_much h_against h_pack h_packSize h_gives h_wants h_tryWho h_tryDoes h_tryMuch h_tryAgainst h_tryLife h_tryShield h_ring h_row v_thrown v_today v_kinds v_stacked v_drafters v_cards v_round v_turn v_high v_ringSize v_many v_strength v_row) s.heap := hP
  have hl := lv_entry ([.ref h, .int p1]) (n := 4) (Nat.le_of_ble_eq_true rfl)
  rw [lg_entry_eq]
  generalize (lg_sl ([.ref h, .int p1]) ++ List.replicate (4 - (lg_sl ([.ref h, .int p1])).length) Slot.unset).toArray = ls at hl ⊢
  have hl : lv_has ls 4 [(0, .ref h), (1, .int p1)] := hl
  generalize hH : s.heap = H at hP hS ⊢
  have hS : va_S A s.heap H [] := by rw [hH]; exact hS
  have C0 : wCX p s #[.ref h, .int p1] m meth c cX9_rowOf 4 none RX9 wsX9_rowOf := ⟨hx, hb, hr, hml, hown, hts, hlocks⟩
  show W p l e rmX9_rowOf s m #[.ref h, .int p1] below meth c H [] 0 0 (MQ below (wQv (wcX9_rowOf cI cJ cZ cG h h_effect h_number h_banned h_has h_life h_shield h_strength h_haveMet h_deck h_deckSize h_who h_does h_much h_against h_pack h_packSize h_gives h_wants h_tryWho h_tryDoes h_tryMuch h_tryAgainst h_tryLife h_tryShield h_ring h_row v_thrown v_today v_kinds v_stacked v_drafters v_cards v_round v_turn v_high v_ringSize n_many v_strength n_row) (dC, dI) A) #[.ref h, .int p1] s 0 0 A) (F0 m 0 ls [])
  unfold fX9_rowOf at hf
  refine lv_aload_n hx hb dX9_rowOf_0 rfl (lv_at hl 0 rfl) ?_
  refine lv_iconst (v := 0) hx hb dX9_rowOf_1 (by decide) ?_
  refine va_put (D := (dC, dI)) (ci := 9) (v := .int 0) (ty := .int) (C := RX9) (T := TX9) (N := 37) hx hb hts iX9_rowOf_X9 tyX9 tyX9_ok nmX9 hown hK hP hD hS 0 rfl rfl 35 (by decide) (hts _ mX9_rowOf_0) (fun _ h9 => h9) rfl (by decide +kernel) rfl rfl (Nat.le_of_ble_eq_true rfl) dX9_rowOf_2 (fun H locs hP hD hS => ?_)
  have hP : va_P (dC, dI) vwCl (wcX9_rowOf cI cJ cZ cG h h_effect h_number h_banned h_has h_life h_shield h_strength h_haveMet h_deck h_deckSize h_who h_does h_much h_against h_pack h_packSize h_gives h_wants h_tryWho h_tryDoes h_tryMuch h_tryAgainst h_tryLife h_tryShield h_ring h_row v_thrown v_today v_kinds v_stacked v_drafters v_cards v_round v_turn v_high v_ringSize 0 v_strength v_row) H := hP
  have hD : va_D A (wcX9_rowOf cI cJ cZ cG h h_effect h_number h_banned h_has h_life h_shield h_strength h_haveMet h_deck h_deckSize h_who h_does h_much h_against h_pack h_packSize h_gives h_wants h_tryWho h_tryDoes h_tryMuch h_tryAgainst h_tryLife h_tryShield h_ring h_row v_thrown v_today v_kinds v_stacked v_drafters v_cards v_round v_turn v_high v_ringSize 0 v_strength v_row) := hD
  refine lv_iconst (v := 0) hx hb dX9_rowOf_5 (by decide) ?_
  refine lv_istore_n (lv' := [(2, .int 0), (0, .ref h), (1, .int p1)]) hx hb dX9_rowOf_6 rfl hl (by decide) rfl (fun ls hl => ?_)
  have hf : fX9_rowOf_b7 v_strength 70 0 v_row p1 0 = some (n_many, n_row) := hf
  exact kX9_rowOf_7 C0 hA hK 70 0 v_row p1 0 _ _ _ hf hP hD hS (lv_sub hl [1, 2, 0] rfl)
abbrev wcX9_placeOf (cI cJ cZ cG : ClassId) : va_W := []
abbrev rmX9_placeOf : Room := { frames := 0, cells := 0, slots := 0, locals := 0 }
set_option maxHeartbeats 4000000 in
set_option maxRecDepth 100000 in
theorem kX9_placeOf_31 {p : Program} {l : Launch} {e : Env} {s : State} {m : MethodId} {args : Array Value} {below : List Frame} {meth : Method} {c : Code} {dC : Nat → ClassId} {dI : Nat → Nat → Nat} {A : Nat → Prop} {cI cJ cZ cG : ClassId} {r0 : Int32} {k_4 : Int32 → Int32 → Int32 → Option (Int32)} (C0 : wCX p s args m meth c cX9_placeOf 4 (some .int) RX9 wsX9_placeOf) (hA : ∀ q, s.heap.size ≤ q → A q) (hK : va_K (dC, dI) vwCl (tysW cI cJ cZ cG) s) (hk_4 : ∀ (l0 : Int32) (l2 : Int32) (l3 : Int32) (H : Heap) (locs : List Loc) (ls : Array Slot), k_4 l0 l2 l3 = some r0 → va_P (dC, dI) vwCl (wcX9_placeOf cI cJ cZ cG ) H → va_D A (wcX9_placeOf cI cJ cZ cG ) → va_S A s.heap H locs → lv_has ls 4 [(0, .int l0), (2, .int l2), (3, .int l3)] → W p l e rmX9_placeOf s m args below meth c H locs 0 0 (MQ below (wQi r0 (wcX9_placeOf cI cJ cZ cG ) (dC, dI) A) args s 0 0 A) (F0 m 4 ls [])) : ∀ (l0 : Int32) (l2 : Int32) (s0 : Int32) (s1 : Int32) (hz_s1 : wB s1) (H : Heap) (locs : List Loc) (ls : Array Slot), fX9_placeOf_b31 k_4 l0 l2 s0 s1 = some r0 → va_P (dC, dI) vwCl (wcX9_placeOf cI cJ cZ cG ) H → va_D A (wcX9_placeOf cI cJ cZ cG ) → va_S A s.heap H locs → lv_has ls 4 [(0, .int l0), (2, .int l2)] → W p l e rmX9_placeOf s m args below meth c H locs 0 0 (MQ below (wQi r0 (wcX9_placeOf cI cJ cZ cG ) (dC, dI) A) args s 0 0 A) (F0 m 31 ls [.int s1, .int s0]) := by
  obtain ⟨hx, hb, hr, hml, hown, hts, hlocks⟩ := id C0
  intro l0 l2 s0 s1 hz_s1 H locs ls hf hP hD hS hl
  unfold fX9_placeOf_b31 at hf
  refine lv_isub hx hb dX9_placeOf_31 ?_
  obtain ⟨x_1, ex_1, hf⟩ := nm_s hf
  refine w_eqi ex_1 ?_
  refine lv_istore_n (lv' := [(3, .int x_1), (0, .int l0), (2, .int l2)]) hx hb dX9_placeOf_32 rfl hl (by decide) rfl (fun ls hl => ?_)
  obtain ⟨x_2, ex_2, hf⟩ := nm_s hf
  refine lv_iinc (v := x_2) (lv' := [(2, .int x_2), (3, .int x_1), (0, .int l0)]) hx hb dX9_placeOf_33 hl (k := 2) rfl (by rw [ex_2]; rfl) (by decide) rfl (fun ls hl => ?_)
  refine lv_goto (tgt := 4) hx hb dX9_placeOf_36 (by decide) ?_
  have hf : k_4 l0 x_2 x_1 = some r0 := hf
  exact hk_4 l0 x_2 x_1 _ _ _ hf hP hD hS (lv_sub hl [2, 0, 1] rfl)
set_option maxHeartbeats 4000000 in
set_option maxRecDepth 100000 in
theorem kX9_placeOf_17 {p : Program} {l : Launch} {e : Env} {s : State} {m : MethodId} {args : Array Value} {below : List Frame} {meth : Method} {c : Code} {dC : Nat → ClassId} {dI : Nat → Nat → Nat} {A : Nat → Prop} {cI cJ cZ cG : ClassId} {r0 : Int32} {k_4 : Int32 → Int32 → Int32 → Option (Int32)} (C0 : wCX p s args m meth c cX9_placeOf 4 (some .int) RX9 wsX9_placeOf) (hA : ∀ q, s.heap.size ≤ q → A q) (hK : va_K (dC, dI) vwCl (tysW cI cJ cZ cG) s) (hk_4 : ∀ (l0 : Int32) (l2 : Int32) (l3 : Int32) (H : Heap) (locs : List Loc) (ls : Array Slot), k_4 l0 l2 l3 = some r0 → va_P (dC, dI) vwCl (wcX9_placeOf cI cJ cZ cG ) H → va_D A (wcX9_placeOf cI cJ cZ cG ) → va_S A s.heap H locs → lv_has ls 4 [(0, .int l0), (2, .int l2), (3, .int l3)] → W p l e rmX9_placeOf s m args below meth c H locs 0 0 (MQ below (wQi r0 (wcX9_placeOf cI cJ cZ cG ) (dC, dI) A) args s 0 0 A) (F0 m 4 ls [])) : ∀ (l0 : Int32) (l2 : Int32) (l3 : Int32) (H : Heap) (locs : List Loc) (ls : Array Slot), fX9_placeOf_b17 k_4 l0 l2 l3 = some r0 → va_P (dC, dI) vwCl (wcX9_placeOf cI cJ cZ cG ) H → va_D A (wcX9_placeOf cI cJ cZ cG ) → va_S A s.heap H locs → lv_has ls 4 [(0, .int l0), (2, .int l2), (3, .int l3)] → W p l e rmX9_placeOf s m args below meth c H locs 0 0 (MQ below (wQi r0 (wcX9_placeOf cI cJ cZ cG ) (dC, dI) A) args s 0 0 A) (F0 m 17 ls []) := by
  obtain ⟨hx, hb, hr, hml, hown, hts, hlocks⟩ := id C0
  intro l0 l2 l3 H locs ls hf hP hD hS hl
  unfold fX9_placeOf_b17 at hf
  refine lv_iload_n hx hb dX9_placeOf_17 rfl (lv_at hl 2 rfl) ?_
  refine lv_iload_n hx hb dX9_placeOf_18 rfl (lv_at hl 0 rfl) ?_
  refine lv_iload_n hx hb dX9_placeOf_19 rfl (lv_at hl 1 rfl) ?_
  refine lv_ishr hx hb dX9_placeOf_20 ?_
  refine lv_iconst (v := 1) hx hb dX9_placeOf_21 (by decide) ?_
  refine lv_iand hx hb dX9_placeOf_22 ?_
  refine lv_if_ne (tgt := 30) hx hb dX9_placeOf_23 (by decide) (fun c_1 => ?_) (fun c_1 => ?_)
  · have hf := it_f hf c_1
    refine lv_iconst (v := 0) hx hb dX9_placeOf_30 (by decide) ?_
    have hf : fX9_placeOf_b31 k_4 l0 l2 l3 0 = some r0 := hf
    exact kX9_placeOf_31 C0 hA hK hk_4 l0 l2 l3 0 (Or.inl rfl) _ _ _ hf hP hD hS (lv_sub hl [0, 1] rfl)
  · have hf := it_t hf c_1
    refine lv_iconst (v := 1) hx hb dX9_placeOf_26 (by decide) ?_
    refine lv_goto (tgt := 31) hx hb dX9_placeOf_27 (by decide) ?_
    have hf : fX9_placeOf_b31 k_4 l0 l2 l3 1 = some r0 := hf
    exact kX9_placeOf_31 C0 hA hK hk_4 l0 l2 l3 1 (Or.inr rfl) _ _ _ hf hP hD hS (lv_sub hl [0, 1] rfl)
set_option maxHeartbeats 4000000 in
set_option maxRecDepth 100000 in
theorem kX9_placeOf_4 {p : Program} {l : Launch} {e : Env} {s : State} {m : MethodId} {args : Array Value} {below : List Frame} {meth : Method} {c : Code} {dC : Nat → ClassId} {dI : Nat → Nat → Nat} {A : Nat → Prop} {cI cJ cZ cG : ClassId} {r0 : Int32} (C0 : wCX p s args m meth c cX9_placeOf 4 (some .int) RX9 wsX9_placeOf) (hA : ∀ q, s.heap.size ≤ q → A q) (hK : va_K (dC, dI) vwCl (tysW cI cJ cZ cG) s) : ∀ (n : Nat), ∀ (l0 : Int32) (l2 : Int32) (l3 : Int32) (H : Heap) (locs : List Loc) (ls : Array Slot), fX9_placeOf_b4 n l0 l2 l3 = some r0 → va_P (dC, dI) vwCl (wcX9_placeOf cI cJ cZ cG ) H → va_D A (wcX9_placeOf cI cJ cZ cG ) → va_S A s.heap H locs → lv_has ls 4 [(0, .int l0), (2, .int l2), (3, .int l3)] → W p l e rmX9_placeOf s m args below meth c H locs 0 0 (MQ below (wQi r0 (wcX9_placeOf cI cJ cZ cG ) (dC, dI) A) args s 0 0 A) (F0 m 4 ls []) := by
  obtain ⟨hx, hb, hr, hml, hown, hts, hlocks⟩ := id C0
  intro n
  induction n with
  | zero =>
    intro l0 l2 l3 H locs ls hf hP hD hS hl
    rw [fX9_placeOf_b4] at hf
    cases hf
  | succ n ih =>
    intro l0 l2 l3 H locs ls hf hP hD hS hl
    rw [fX9_placeOf_b4] at hf
    refine lv_iload_n hx hb dX9_placeOf_4 rfl (lv_at hl 0 rfl) ?_
    refine lv_iload_n hx hb dX9_placeOf_5 rfl (lv_at hl 1 rfl) ?_
    refine lv_ishr hx hb dX9_placeOf_6 ?_
    refine lv_iconst (v := 1) hx hb dX9_placeOf_7 (by decide) ?_
    refine lv_iand hx hb dX9_placeOf_8 ?_
    refine lv_iconst (v := 1) hx hb dX9_placeOf_9 (by decide) ?_
    refine lv_icmp_eq (tgt := 17) hx hb dX9_placeOf_10 (by decide) (fun c_1 => ?_) (fun c_1 => ?_)
    · have hf := it_t hf c_1
      have hf : fX9_placeOf_b17 (fX9_placeOf_b4 n) l0 l2 l3 = some r0 := hf
      exact kX9_placeOf_17 C0 hA hK ih l0 l2 l3 _ _ _ hf hP hD hS (lv_sub hl [0, 1, 2] rfl)
    · have hf := it_f hf c_1
      refine lv_iload_n hx hb dX9_placeOf_13 rfl (lv_at hl 2 rfl) ?_
      refine lv_if_le (tgt := 39) hx hb dX9_placeOf_14 (by decide) (fun c_2 => ?_) (fun c_2 => ?_)
      · have hf := it_t hf c_2
        refine lv_iload_n hx hb dX9_placeOf_39 rfl (lv_at hl 1 rfl) ?_
        have hf : some l2 = some r0 := hf
        cases hf
        exact w_iret hx hb hr hlocks rfl hP hD hS dX9_placeOf_40
      · have hf := it_f hf c_2
        have hf : fX9_placeOf_b17 (fX9_placeOf_b4 n) l0 l2 l3 = some r0 := hf
        exact kX9_placeOf_17 C0 hA hK ih l0 l2 l3 _ _ _ hf hP hD hS (lv_sub hl [0, 1, 2] rfl)
set_option maxHeartbeats 4000000 in
set_option maxRecDepth 100000 in
theorem oX9_placeOf (l : Launch) (dC : Nat → ClassId) (dI : Nat → Nat → Nat) (cI cJ cZ cG : ClassId) (sz : Nat) (p1 : Int32) (p2 : Int32) (r0 : Int32) (hf : fX9_placeOf p1 p2 = some r0) : Met l yX9_placeOf wsX9_placeOf rmX9_placeOf (wPc [.int p1, .int p2] (dC, dI) (tysW cI cJ cZ cG) sz (wcX9_placeOf cI cJ cZ cG )) (wQi r0 (wcX9_placeOf cI cJ cZ cG ) (dC, dI) (va_A (wcX9_placeOf cI cJ cZ cG ) sz)) 0 0 (va_A (wcX9_placeOf cI cJ cZ cG ) sz) := by
  refine Met.ofW (cc := cX9_placeOf) (maxL := 4) (ret := (some .int)) (by decide) rfl ?_
  intro p e s m args below meth c s₁ B hml hv
  obtain ⟨rfl, hsz, hP, hK, hD0⟩ := hv
  have hx := B.exec
  have hb := B.bytes
  have hr := B.returns
  have hts := atoms_spec (ws := wsX9_placeOf) B.pre
  have hown : s.vm.findClass RX9 = some m.cls := findClass_of_methodNamed B.named
  have hlocks := B.notSynchronized
  subst hsz
  have hD := hD0.self (sz := s.heap.size)
  generalize hAe : va_A (wcX9_placeOf cI cJ cZ cG ) s.heap.size = A at hD ⊢
  have hA : ∀ q : Nat, s.heap.size ≤ q → A q := fun q h => by rw [← hAe]; exact Or.inr h
  have hS : va_S A s.heap s.heap [] := va_S.rf
  have hP : va_P (dC, dI) vwCl (wcX9_placeOf cI cJ cZ cG ) s.heap := hP
  have hl := lv_entry ([.int p1, .int p2]) (n := 4) (Nat.le_of_ble_eq_true rfl)
  rw [lg_entry_eq]
  generalize (lg_sl ([.int p1, .int p2]) ++ List.replicate (4 - (lg_sl ([.int p1, .int p2])).length) Slot.unset).toArray = ls at hl ⊢
  have hl : lv_has ls 4 [(0, .int p1), (1, .int p2)] := hl
  generalize hH : s.heap = H at hP hS ⊢
  have hS : va_S A s.heap H [] := by rw [hH]; exact hS
  have C0 : wCX p s #[.int p1, .int p2] m meth c cX9_placeOf 4 (some .int) RX9 wsX9_placeOf := ⟨hx, hb, hr, hml, hown, hts, hlocks⟩
  show W p l e rmX9_placeOf s m #[.int p1, .int p2] below meth c H [] 0 0 (MQ below (wQi r0 (wcX9_placeOf cI cJ cZ cG ) (dC, dI) A) #[.int p1, .int p2] s 0 0 A) (F0 m 0 ls [])
  unfold fX9_placeOf at hf
  refine lv_iconst (v := 0) hx hb dX9_placeOf_0 (by decide) ?_
  refine lv_istore_n (lv' := [(2, .int 0), (0, .int p1), (1, .int p2)]) hx hb dX9_placeOf_1 rfl hl (by decide) rfl (fun ls hl => ?_)
  refine lv_iload_n hx hb dX9_placeOf_2 rfl (lv_at hl 2 rfl) ?_
  refine lv_istore_n (lv' := [(3, .int p2), (2, .int 0), (0, .int p1), (1, .int p2)]) hx hb dX9_placeOf_3 rfl hl (by decide) rfl (fun ls hl => ?_)
  have hf : fX9_placeOf_b4 70 p1 0 p2 = some r0 := hf
  exact kX9_placeOf_4 C0 hA hK 70 p1 0 p2 _ _ _ hf hP hD hS (lv_sub hl [2, 1, 0] rfl)
abbrev wcX9_pairedIn (cI cJ cZ cG : ClassId) (h h_effect h_number h_banned h_has h_life h_shield h_strength h_haveMet h_deck h_deckSize h_who h_does h_much h_against h_pack h_packSize h_gives h_wants h_tryWho h_tryDoes h_tryMuch h_tryAgainst h_tryLife h_tryShield h_ring h_row : Nat) (v_thrown : Int32) (v_today : Int32) (v_kinds : Int32) (v_stacked : Int32) (v_drafters : Int32) (v_cards : Int32) (v_round : Int32) (v_turn : Int32) (v_high : Int32) (v_ringSize : Int32) (v_many : Int32) (v_haveMet : Nat → Int32) (v_row : Nat → Int32) : va_W := [(h, .inr (9, [.int v_thrown, .int v_today, .int v_kinds, .ref h_effect, .ref h_number, .ref h_banned, .ref h_has, .ref h_life, .ref h_shield, .ref h_strength, .ref h_haveMet, .ref h_deck, .ref h_deckSize, .int v_stacked, .ref h_who, .ref h_does, .ref h_much, .ref h_against, .int v_drafters, .int v_cards, .int v_round, .int v_turn, .ref h_pack, .ref h_packSize, .ref h_gives, .ref h_wants, .int v_high, .ref h_tryWho, .ref h_tryDoes, .ref h_tryMuch, .ref h_tryAgainst, .ref h_tryLife, .ref h_tryShield, .int v_ringSize, .ref h_ring, .int v_many, .ref h_row])), (h_haveMet, .inl (cZ, 36, .inl v_haveMet)), (h_row, .inl (cI, 6, .inl v_row))]
theorem iX9_pairedIn_X9 : ∀ w ∈ wsX90, w ∈ wsX9_pairedIn := by decide +kernel
theorem mX9_pairedIn_0 : (Cond.fieldLink RX9 179 "SleevehallModel" "many" "I") ∈ wsX9_pairedIn := by decide +kernel
theorem mX9_pairedIn_1 : (Cond.fieldLink RX9 31 "SleevehallModel" "haveMet" "[Z") ∈ wsX9_pairedIn := by decide +kernel
theorem mX9_pairedIn_2 : (Cond.fieldLink RX9 91 "SleevehallModel" "row" "[I") ∈ wsX9_pairedIn := by decide +kernel
abbrev rmX9_pairedIn : Room := { frames := 1, cells := 0, slots := 0, locals := 23 }
set_option maxHeartbeats 4000000 in
set_option maxRecDepth 100000 in
theorem kX9_pairedIn_168 {p : Program} {l : Launch} {e : Env} {s : State} {m : MethodId} {args : Array Value} {below : List Frame} {meth : Method} {c : Code} {dC : Nat → ClassId} {dI : Nat → Nat → Nat} {A : Nat → Prop} {cI cJ cZ cG : ClassId} {h h_effect h_number h_banned h_has h_life h_shield h_strength h_haveMet h_deck h_deckSize h_who h_does h_much h_against h_pack h_packSize h_gives h_wants h_tryWho h_tryDoes h_tryMuch h_tryAgainst h_tryLife h_tryShield h_ring h_row : Nat} {v_thrown : Int32} {v_today : Int32} {v_kinds : Int32} {v_stacked : Int32} {v_drafters : Int32} {v_cards : Int32} {v_round : Int32} {v_turn : Int32} {v_high : Int32} {v_ringSize : Int32} {v_many : Int32} {v_haveMet : Nat → Int32} {v_row : Nat → Int32} {r0 : Int32} {k_31 : Int32 → Int32 → Int32 → Int32 → Int32 → Int32 → Option (Int32)} (C0 : wCX p s args m meth c cX9_pairedIn 11 (some .int) RX9 wsX9_pairedIn) (hA : ∀ q, s.heap.size ≤ q → A q) (hK : va_K (dC, dI) vwCl (tysW cI cJ cZ cG) s) (hk_31 : ∀ (l1 : Int32) (l3 : Int32) (l4 : Int32) (l5 : Int32) (l6 : Int32) (l7 : Int32) (H : Heap) (locs : List Loc) (ls : Array Slot), k_31 l1 l3 l4 l5 l6 l7 = some r0 → va_P (dC, dI) vwCl (wcX9_pairedIn cI cJ cZ cG h h_effect h_number h_banned h_has h_life h_shield h_strength h_haveMet h_deck h_deckSize h_who h_does h_much h_against h_pack h_packSize h_gives h_wants h_tryWho h_tryDoes h_tryMuch h_tryAgainst h_tryLife h_tryShield h_ring h_row v_thrown v_today v_kinds v_stacked v_drafters v_cards v_round v_turn v_high v_ringSize v_many v_haveMet v_row) H → va_D A (wcX9_pairedIn cI cJ cZ cG h h_effect h_number h_banned h_has h_life h_shield h_strength h_haveMet h_deck h_deckSize h_who h_does h_much h_against h_pack h_packSize h_gives h_wants h_tryWho h_tryDoes h_tryMuch h_tryAgainst h_tryLife h_tryShield h_ring h_row v_thrown v_today v_kinds v_stacked v_drafters v_cards v_round v_turn v_high v_ringSize v_many v_haveMet v_row) → va_S A s.heap H locs → lv_has ls 11 [(0, .ref h), (1, .int l1), (3, .int l3), (4, .int l4), (5, .int l5), (6, .int l6), (7, .int l7)] → W p l e rmX9_pairedIn s m args below meth c H locs 0 0 (MQ below (wQi r0 (wcX9_pairedIn cI cJ cZ cG h h_effect h_number h_banned h_has h_life h_shield h_strength h_haveMet h_deck h_deckSize h_who h_does h_much h_against h_pack h_packSize h_gives h_wants h_tryWho h_tryDoes h_tryMuch h_tryAgainst h_tryLife h_tryShield h_ring h_row v_thrown v_today v_kinds v_stacked v_drafters v_cards v_round v_turn v_high v_ringSize v_many v_haveMet v_row) (dC, dI) A) args s 0 0 A) (F0 m 31 ls [])) : ∀ (l1 : Int32) (l3 : Int32) (l4 : Int32) (l6 : Int32) (l7 : Int32) (s0 : Int32) (H : Heap) (locs : List Loc) (ls : Array Slot), fX9_pairedIn_b168 k_31 v_many v_haveMet v_row l1 l3 l4 l6 l7 s0 = some r0 → va_P (dC, dI) vwCl (wcX9_pairedIn cI cJ cZ cG h h_effect h_number h_banned h_has h_life h_shield h_strength h_haveMet h_deck h_deckSize h_who h_does h_much h_against h_pack h_packSize h_gives h_wants h_tryWho h_tryDoes h_tryMuch h_tryAgainst h_tryLife h_tryShield h_ring h_row v_thrown v_today v_kinds v_stacked v_drafters v_cards v_round v_turn v_high v_ringSize v_many v_haveMet v_row) H → va_D A (wcX9_pairedIn cI cJ cZ cG h h_effect h_number h_banned h_has h_life h_shield h_strength h_haveMet h_deck h_deckSize h_who h_does h_much h_against h_pack h_packSize h_gives h_wants h_tryWho h_tryDoes h_tryMuch h_tryAgainst h_tryLife h_tryShield h_ring h_row v_thrown v_today v_kinds v_stacked v_drafters v_cards v_round v_turn v_high v_ringSize v_many v_haveMet v_row) → va_S A s.heap H locs → lv_has ls 11 [(0, .ref h), (1, .int l1), (3, .int l3), (4, .int l4), (6, .int l6), (7, .int l7)] → W p l e rmX9_pairedIn s m args below meth c H locs 0 0 (MQ below (wQi r0 (wcX9_pairedIn cI cJ cZ cG h h_effect h_number h_banned h_has h_life h_shield h_strength h_haveMet h_deck h_deckSize h_who h_does h_much h_against h_pack h_packSize h_gives h_wants h_tryWho h_tryDoes h_tryMuch h_tryAgainst h_tryLife h_tryShield h_ring h_row v_thrown v_today v_kinds v_stacked v_drafters v_cards v_round v_turn v_high v_ringSize v_many v_haveMet v_row) (dC, dI) A) args s 0 0 A) (F0 m 168 ls [.int s0]) := by
  obtain ⟨hx, hb, hr, hml, hown, hts, hlocks⟩ := id C0
  intro l1 l3 l4 l6 l7 s0 H locs ls hf hP hD hS hl
  unfold fX9_pairedIn_b168 at hf
  refine lv_istore (lv' := [(5, .int s0), (0, .ref h), (1, .int l1), (3, .int l3), (4, .int l4), (6, .int l6), (7, .int l7)]) hx hb dX9_pairedIn_168 hl (by decide) rfl (fun ls hl => ?_)
  obtain ⟨x_1, ex_1, hf⟩ := nm_s hf
  refine lv_iinc (v := x_1) (lv' := [(7, .int x_1), (5, .int s0), (0, .ref h), (1, .int l1), (3, .int l3), (4, .int l4), (6, .int l6)]) hx hb dX9_pairedIn_170 hl (k := 6) rfl (by rw [ex_1]; rfl) (by decide) rfl (fun ls hl => ?_)
  refine lv_goto (tgt := 31) hx hb dX9_pairedIn_173 (by decide) ?_
  have hf : k_31 l1 l3 l4 s0 l6 x_1 = some r0 := hf
  exact hk_31 l1 l3 l4 s0 l6 x_1 _ _ _ hf hP hD hS (lv_sub hl [2, 3, 4, 5, 1, 6, 0] rfl)
set_option maxHeartbeats 4000000 in
set_option maxRecDepth 100000 in
theorem kX9_pairedIn_79 {p : Program} {l : Launch} {e : Env} {s : State} {m : MethodId} {args : Array Value} {below : List Frame} {meth : Method} {c : Code} {dC : Nat → ClassId} {dI : Nat → Nat → Nat} {A : Nat → Prop} {cI cJ cZ cG : ClassId} {h h_effect h_number h_banned h_has h_life h_shield h_strength h_haveMet h_deck h_deckSize h_who h_does h_much h_against h_pack h_packSize h_gives h_wants h_tryWho h_tryDoes h_tryMuch h_tryAgainst h_tryLife h_tryShield h_ring h_row : Nat} {v_thrown : Int32} {v_today : Int32} {v_kinds : Int32} {v_stacked : Int32} {v_drafters : Int32} {v_cards : Int32} {v_round : Int32} {v_turn : Int32} {v_high : Int32} {v_ringSize : Int32} {v_many : Int32} {v_haveMet : Nat → Int32} {v_row : Nat → Int32} {r0 : Int32} {k_31 : Int32 → Int32 → Int32 → Int32 → Int32 → Int32 → Option (Int32)} (C0 : wCX p s args m meth c cX9_pairedIn 11 (some .int) RX9 wsX9_pairedIn) (hA : ∀ q, s.heap.size ≤ q → A q) (hK : va_K (dC, dI) vwCl (tysW cI cJ cZ cG) s) (hk_31 : ∀ (l1 : Int32) (l3 : Int32) (l4 : Int32) (l5 : Int32) (l6 : Int32) (l7 : Int32) (H : Heap) (locs : List Loc) (ls : Array Slot), k_31 l1 l3 l4 l5 l6 l7 = some r0 → va_P (dC, dI) vwCl (wcX9_pairedIn cI cJ cZ cG h h_effect h_number h_banned h_has h_life h_shield h_strength h_haveMet h_deck h_deckSize h_who h_does h_much h_against h_pack h_packSize h_gives h_wants h_tryWho h_tryDoes h_tryMuch h_tryAgainst h_tryLife h_tryShield h_ring h_row v_thrown v_today v_kinds v_stacked v_drafters v_cards v_round v_turn v_high v_ringSize v_many v_haveMet v_row) H → va_D A (wcX9_pairedIn cI cJ cZ cG h h_effect h_number h_banned h_has h_life h_shield h_strength h_haveMet h_deck h_deckSize h_who h_does h_much h_against h_pack h_packSize h_gives h_wants h_tryWho h_tryDoes h_tryMuch h_tryAgainst h_tryLife h_tryShield h_ring h_row v_thrown v_today v_kinds v_stacked v_drafters v_cards v_round v_turn v_high v_ringSize v_many v_haveMet v_row) → va_S A s.heap H locs → lv_has ls 11 [(0, .ref h), (1, .int l1), (3, .int l3), (4, .int l4), (5, .int l5), (6, .int l6), (7, .int l7)] → W p l e rmX9_pairedIn s m args below meth c H locs 0 0 (MQ below (wQi r0 (wcX9_pairedIn cI cJ cZ cG h h_effect h_number h_banned h_has h_life h_shield h_strength h_haveMet h_deck h_deckSize h_who h_does h_much h_against h_pack h_packSize h_gives h_wants h_tryWho h_tryDoes h_tryMuch h_tryAgainst h_tryLife h_tryShield h_ring h_row v_thrown v_today v_kinds v_stacked v_drafters v_cards v_round v_turn v_high v_ringSize v_many v_haveMet v_row) (dC, dI) A) args s 0 0 A) (F0 m 31 ls [])) : ∀ (l1 : Int32) (l3 : Int32) (l4 : Int32) (l5 : Int32) (l6 : Int32) (l7 : Int32) (l8 : Int32) (s0 : Int32) (H : Heap) (locs : List Loc) (ls : Array Slot), fX9_pairedIn_b79 k_31 v_many v_haveMet v_row l1 l3 l4 l5 l6 l7 l8 s0 = some r0 → va_P (dC, dI) vwCl (wcX9_pairedIn cI cJ cZ cG h h_effect h_number h_banned h_has h_life h_shield h_strength h_haveMet h_deck h_deckSize h_who h_does h_much h_against h_pack h_packSize h_gives h_wants h_tryWho h_tryDoes h_tryMuch h_tryAgainst h_tryLife h_tryShield h_ring h_row v_thrown v_today v_kinds v_stacked v_drafters v_cards v_round v_turn v_high v_ringSize v_many v_haveMet v_row) H → va_D A (wcX9_pairedIn cI cJ cZ cG h h_effect h_number h_banned h_has h_life h_shield h_strength h_haveMet h_deck h_deckSize h_who h_does h_much h_against h_pack h_packSize h_gives h_wants h_tryWho h_tryDoes h_tryMuch h_tryAgainst h_tryLife h_tryShield h_ring h_row v_thrown v_today v_kinds v_stacked v_drafters v_cards v_round v_turn v_high v_ringSize v_many v_haveMet v_row) → va_S A s.heap H locs → lv_has ls 11 [(0, .ref h), (1, .int l1), (3, .int l3), (4, .int l4), (5, .int l5), (6, .int l6), (7, .int l7), (8, .int l8)] → W p l e rmX9_pairedIn s m args below meth c H locs 0 0 (MQ below (wQi r0 (wcX9_pairedIn cI cJ cZ cG h h_effect h_number h_banned h_has h_life h_shield h_strength h_haveMet h_deck h_deckSize h_who h_does h_much h_against h_pack h_packSize h_gives h_wants h_tryWho h_tryDoes h_tryMuch h_tryAgainst h_tryLife h_tryShield h_ring h_row v_thrown v_today v_kinds v_stacked v_drafters v_cards v_round v_turn v_high v_ringSize v_many v_haveMet v_row) (dC, dI) A) args s 0 0 A) (F0 m 79 ls [.int s0]) := by
  obtain ⟨hx, hb, hr, hml, hown, hts, hlocks⟩ := id C0
  intro l1 l3 l4 l5 l6 l7 l8 s0 H locs ls hf hP hD hS hl
  unfold fX9_pairedIn_b79 at hf
  refine lv_istore (lv' := [(9, .int s0), (0, .ref h), (1, .int l1), (3, .int l3), (4, .int l4), (5, .int l5), (6, .int l6), (7, .int l7), (8, .int l8)]) hx hb dX9_pairedIn_79 hl (by decide) rfl (fun ls hl => ?_)
  refine lv_iload_n hx hb dX9_pairedIn_81 rfl (lv_at hl 3 rfl) ?_
  refine lv_iload hx hb dX9_pairedIn_82 (lv_at hl 0 rfl) ?_
  obtain ⟨r_1, hc_2, hf⟩ := ob_s hf
  refine w_callSi (As := [.int l3, .int s0]) (rest := []) ⟨hx, hb, hml, hown, hts⟩ (oX9_placeOf l dC dI cI cJ cZ cG H.size l3 s0 r_1 hc_2) (va_cwS 2 hts gX9_pairedIn_X9_placeOf rfl rfl rfl (by decide +kernel) ⟨Nat.le_of_ble_eq_true rfl, Nat.le_of_ble_eq_true rfl⟩) hK hP hS hA rfl hl.1 rfl (Nat.le_of_ble_eq_true rfl) dX9_pairedIn_84 ⟨Nat.le_refl _, Nat.le_refl _⟩ (fun H locs hP hS => ?_)
  refine lv_istore (lv' := [(10, .int r_1), (9, .int s0), (0, .ref h), (1, .int l1), (3, .int l3), (4, .int l4), (5, .int l5), (6, .int l6), (7, .int l7), (8, .int l8)]) hx hb dX9_pairedIn_87 hl (by decide) rfl (fun ls hl => ?_)
  refine lv_iload_n hx hb dX9_pairedIn_89 rfl (lv_at hl 4 rfl) ?_
  refine lv_iconst (v := 1) hx hb dX9_pairedIn_90 (by decide) ?_
  refine lv_iload hx hb dX9_pairedIn_91 (lv_at hl 0 rfl) ?_
  refine lv_ishl hx hb dX9_pairedIn_93 ?_
  refine lv_ior hx hb dX9_pairedIn_94 ?_
  obtain ⟨x_3, ex_3, hf⟩ := nm_s hf
  refine w_eqi ex_3 ?_
  refine lv_istore_n (lv' := [(3, .int x_3), (10, .int r_1), (9, .int s0), (0, .ref h), (1, .int l1), (4, .int l4), (5, .int l5), (6, .int l6), (7, .int l7), (8, .int l8)]) hx hb dX9_pairedIn_95 rfl hl (by decide) rfl (fun ls hl => ?_)
  refine lv_aload_n hx hb dX9_pairedIn_96 rfl (lv_at hl 3 rfl) ?_
  refine va_get (D := (dC, dI)) (ci := 9) (v := .ref h_haveMet) (C := RX9) (T := TX9) (N := 37) hx hb hts iX9_pairedIn_X9 hown hK hP 0 rfl rfl 10 (by decide) (hts _ mX9_pairedIn_1) (fun _ h9 => h9) rfl dX9_pairedIn_97 ?_
  refine lv_bipush (v := 6) hx hb dX9_pairedIn_100 (by decide) ?_
  refine lv_aload_n hx hb dX9_pairedIn_102 rfl (lv_at hl 3 rfl) ?_
  refine va_get (D := (dC, dI)) (ci := 9) (v := .ref h_row) (C := RX9) (T := TX9) (N := 37) hx hb hts iX9_pairedIn_X9 hown hK hP 0 rfl rfl 36 (by decide) (hts _ mX9_pairedIn_2) (fun _ h9 => h9) rfl dX9_pairedIn_103 ?_
  refine lv_iload hx hb dX9_pairedIn_106 (lv_at hl 9 rfl) ?_
  obtain ⟨hg_4, hf⟩ := ck_s hf
  refine va_iald (D := (dC, dI)) hx hb hK hP 2 0 rfl rfl (g_vp hg_4) dX9_pairedIn_108 ?_
  refine lv_imul hx hb dX9_pairedIn_109 ?_
  refine lv_aload_n hx hb dX9_pairedIn_110 rfl (lv_at hl 3 rfl) ?_
  refine va_get (D := (dC, dI)) (ci := 9) (v := .ref h_row) (C := RX9) (T := TX9) (N := 37) hx hb hts iX9_pairedIn_X9 hown hK hP 0 rfl rfl 36 (by decide) (hts _ mX9_pairedIn_2) (fun _ h9 => h9) rfl dX9_pairedIn_111 ?_
  refine lv_iload hx hb dX9_pairedIn_114 (lv_at hl 1 rfl) ?_
  obtain ⟨hg_5, hf⟩ := ck_s hf
  refine va_iald (D := (dC, dI)) hx hb hK hP 2 0 rfl rfl (g_vp hg_5) dX9_pairedIn_116 ?_
  refine lv_iadd hx hb dX9_pairedIn_117 ?_
  obtain ⟨hg_6, hf⟩ := ck_s hf
  refine va_zald (D := (dC, dI)) hx hb hK hP 1 2 rfl rfl (g_vp hg_6) dX9_pairedIn_118 ?_
  refine lv_if_eq (tgt := 124) hx hb dX9_pairedIn_119 (by decide) (fun c_7 => ?_) (fun c_7 => ?_)
  · have hf := it_t hf c_7
    refine lv_aload_n hx hb dX9_pairedIn_124 rfl (lv_at hl 3 rfl) ?_
    refine va_get (D := (dC, dI)) (ci := 9) (v := .ref h_row) (C := RX9) (T := TX9) (N := 37) hx hb hts iX9_pairedIn_X9 hown hK hP 0 rfl rfl 36 (by decide) (hts _ mX9_pairedIn_2) (fun _ h9 => h9) rfl dX9_pairedIn_125 ?_
    refine lv_iload hx hb dX9_pairedIn_128 (lv_at hl 9 rfl) ?_
    obtain ⟨hg_8, hf⟩ := ck_s hf
    refine va_iald (D := (dC, dI)) hx hb hK hP 2 0 rfl rfl (g_vp hg_8) dX9_pairedIn_130 ?_
    refine lv_iload_n hx hb dX9_pairedIn_131 rfl (lv_at hl 4 rfl) ?_
    refine lv_icmp_ne (tgt := 145) hx hb dX9_pairedIn_132 (by decide) (fun c_9 => ?_) (fun c_9 => ?_)
    · have hf := it_f hf c_9
      refine lv_aload_n hx hb dX9_pairedIn_145 rfl (lv_at hl 3 rfl) ?_
      refine va_get (D := (dC, dI)) (ci := 9) (v := .ref h_row) (C := RX9) (T := TX9) (N := 37) hx hb hts iX9_pairedIn_X9 hown hK hP 0 rfl rfl 36 (by decide) (hts _ mX9_pairedIn_2) (fun _ h9 => h9) rfl dX9_pairedIn_146 ?_
      refine lv_iload hx hb dX9_pairedIn_149 (lv_at hl 1 rfl) ?_
      obtain ⟨hg_10, hf⟩ := ck_s hf
      refine va_iald (D := (dC, dI)) hx hb hK hP 2 0 rfl rfl (g_vp hg_10) dX9_pairedIn_151 ?_
      refine lv_iload_n hx hb dX9_pairedIn_152 rfl (lv_at hl 4 rfl) ?_
      refine lv_icmp_ne (tgt := 166) hx hb dX9_pairedIn_153 (by decide) (fun c_11 => ?_) (fun c_11 => ?_)
      · have hf := it_f hf c_11
        refine lv_iload hx hb dX9_pairedIn_166 (lv_at hl 6 rfl) ?_
        have hf : fX9_pairedIn_b168 k_31 v_many v_haveMet v_row l1 x_3 l4 l6 l7 l5 = some r0 := hf
        exact kX9_pairedIn_168 C0 hA hK hk_31 l1 x_3 l4 l6 l7 l5 _ _ _ hf hP hD hS (lv_sub hl [3, 4, 0, 5, 7, 8] rfl)
      · have hf := it_t hf c_11
        refine lv_aload_n hx hb dX9_pairedIn_156 rfl (lv_at hl 3 rfl) ?_
        refine va_get (D := (dC, dI)) (ci := 9) (v := .ref h_row) (C := RX9) (T := TX9) (N := 37) hx hb hts iX9_pairedIn_X9 hown hK hP 0 rfl rfl 36 (by decide) (hts _ mX9_pairedIn_2) (fun _ h9 => h9) rfl dX9_pairedIn_157 ?_
        refine lv_iload hx hb dX9_pairedIn_160 (lv_at hl 9 rfl) ?_
        obtain ⟨hg_12, hf⟩ := ck_s hf
        refine va_iald (D := (dC, dI)) hx hb hK hP 2 0 rfl rfl (g_vp hg_12) dX9_pairedIn_162 ?_
        refine lv_goto (tgt := 168) hx hb dX9_pairedIn_163 (by decide) ?_
        have hf : fX9_pairedIn_b168 k_31 v_many v_haveMet v_row l1 x_3 l4 l6 l7 (v_row l8.toNatClampNeg) = some r0 := hf
        exact kX9_pairedIn_168 C0 hA hK hk_31 l1 x_3 l4 l6 l7 (v_row l8.toNatClampNeg) _ _ _ hf hP hD hS (lv_sub hl [3, 4, 0, 5, 7, 8] rfl)
    · have hf := it_t hf c_9
      refine lv_aload_n hx hb dX9_pairedIn_135 rfl (lv_at hl 3 rfl) ?_
      refine va_get (D := (dC, dI)) (ci := 9) (v := .ref h_row) (C := RX9) (T := TX9) (N := 37) hx hb hts iX9_pairedIn_X9 hown hK hP 0 rfl rfl 36 (by decide) (hts _ mX9_pairedIn_2) (fun _ h9 => h9) rfl dX9_pairedIn_136 ?_
      refine lv_iload hx hb dX9_pairedIn_139 (lv_at hl 1 rfl) ?_
      obtain ⟨hg_13, hf⟩ := ck_s hf
      refine va_iald (D := (dC, dI)) hx hb hK hP 2 0 rfl rfl (g_vp hg_13) dX9_pairedIn_141 ?_
      refine lv_goto (tgt := 168) hx hb dX9_pairedIn_142 (by decide) ?_
      have hf : fX9_pairedIn_b168 k_31 v_many v_haveMet v_row l1 x_3 l4 l6 l7 (v_row r_1.toNatClampNeg) = some r0 := hf
      exact kX9_pairedIn_168 C0 hA hK hk_31 l1 x_3 l4 l6 l7 (v_row r_1.toNatClampNeg) _ _ _ hf hP hD hS (lv_sub hl [3, 4, 0, 5, 7, 8] rfl)
  · have hf := it_f hf c_7
    refine lv_iconst (v := (-1)) hx hb dX9_pairedIn_122 (by decide) ?_
    have hf : some (-1) = some r0 := hf
    cases hf
    exact w_iret hx hb hr hlocks rfl hP hD hS dX9_pairedIn_123
set_option maxHeartbeats 4000000 in
set_option maxRecDepth 100000 in
theorem kX9_pairedIn_31 {p : Program} {l : Launch} {e : Env} {s : State} {m : MethodId} {args : Array Value} {below : List Frame} {meth : Method} {c : Code} {dC : Nat → ClassId} {dI : Nat → Nat → Nat} {A : Nat → Prop} {cI cJ cZ cG : ClassId} {h h_effect h_number h_banned h_has h_life h_shield h_strength h_haveMet h_deck h_deckSize h_who h_does h_much h_against h_pack h_packSize h_gives h_wants h_tryWho h_tryDoes h_tryMuch h_tryAgainst h_tryLife h_tryShield h_ring h_row : Nat} {v_thrown : Int32} {v_today : Int32} {v_kinds : Int32} {v_stacked : Int32} {v_drafters : Int32} {v_cards : Int32} {v_round : Int32} {v_turn : Int32} {v_high : Int32} {v_ringSize : Int32} {v_many : Int32} {v_haveMet : Nat → Int32} {v_row : Nat → Int32} {r0 : Int32} (C0 : wCX p s args m meth c cX9_pairedIn 11 (some .int) RX9 wsX9_pairedIn) (hA : ∀ q, s.heap.size ≤ q → A q) (hK : va_K (dC, dI) vwCl (tysW cI cJ cZ cG) s) : ∀ (n : Nat), ∀ (l1 : Int32) (l3 : Int32) (l4 : Int32) (l5 : Int32) (l6 : Int32) (l7 : Int32) (H : Heap) (locs : List Loc) (ls : Array Slot), fX9_pairedIn_b31 v_many v_haveMet v_row n l1 l3 l4 l5 l6 l7 = some r0 → va_P (dC, dI) vwCl (wcX9_pairedIn cI cJ cZ cG h h_effect h_number h_banned h_has h_life h_shield h_strength h_haveMet h_deck h_deckSize h_who h_does h_much h_against h_pack h_packSize h_gives h_wants h_tryWho h_tryDoes h_tryMuch h_tryAgainst h_tryLife h_tryShield h_ring h_row v_thrown v_today v_kinds v_stacked v_drafters v_cards v_round v_turn v_high v_ringSize v_many v_haveMet v_row) H → va_D A (wcX9_pairedIn cI cJ cZ cG h h_effect h_number h_banned h_has h_life h_shield h_strength h_haveMet h_deck h_deckSize h_who h_does h_much h_against h_pack h_packSize h_gives h_wants h_tryWho h_tryDoes h_tryMuch h_tryAgainst h_tryLife h_tryShield h_ring h_row v_thrown v_today v_kinds v_stacked v_drafters v_cards v_round v_turn v_high v_ringSize v_many v_haveMet v_row) → va_S A s.heap H locs → lv_has ls 11 [(0, .ref h), (1, .int l1), (3, .int l3), (4, .int l4), (5, .int l5), (6, .int l6), (7, .int l7)] → W p l e rmX9_pairedIn s m args below meth c H locs 0 0 (MQ below (wQi r0 (wcX9_pairedIn cI cJ cZ cG h h_effect h_number h_banned h_has h_life h_shield h_strength h_haveMet h_deck h_deckSize h_who h_does h_much h_against h_pack h_packSize h_gives h_wants h_tryWho h_tryDoes h_tryMuch h_tryAgainst h_tryLife h_tryShield h_ring h_row v_thrown v_today v_kinds v_stacked v_drafters v_cards v_round v_turn v_high v_ringSize v_many v_haveMet v_row) (dC, dI) A) args s 0 0 A) (F0 m 31 ls []) := by
  obtain ⟨hx, hb, hr, hml, hown, hts, hlocks⟩ := id C0
  intro n
  induction n with
  | zero =>
    intro l1 l3 l4 l5 l6 l7 H locs ls hf hP hD hS hl
    rw [fX9_pairedIn_b31] at hf
    cases hf
  | succ n ih =>
    intro l1 l3 l4 l5 l6 l7 H locs ls hf hP hD hS hl
    rw [fX9_pairedIn_b31] at hf
    refine lv_iload hx hb dX9_pairedIn_31 (lv_at hl 6 rfl) ?_
    refine lv_if_le (tgt := 176) hx hb dX9_pairedIn_33 (by decide) (fun c_1 => ?_) (fun c_1 => ?_)
    · have hf := it_t hf c_1
      refine lv_iload hx hb dX9_pairedIn_176 (lv_at hl 4 rfl) ?_
      have hf : some l5 = some r0 := hf
      cases hf
      exact w_iret hx hb hr hlocks rfl hP hD hS dX9_pairedIn_178
    · have hf := it_f hf c_1
      refine lv_iload_n hx hb dX9_pairedIn_36 rfl (lv_at hl 2 rfl) ?_
      refine lv_iconst (v := 0) hx hb dX9_pairedIn_37 (by decide) ?_
      obtain ⟨r_2, hc_3, hf⟩ := ob_s hf
      refine w_callSi (As := [.int l3, .int 0]) (rest := []) ⟨hx, hb, hml, hown, hts⟩ (oX9_placeOf l dC dI cI cJ cZ cG H.size l3 0 r_2 hc_3) (va_cwS 2 hts gX9_pairedIn_X9_placeOf rfl rfl rfl (by decide +kernel) ⟨Nat.le_of_ble_eq_true rfl, Nat.le_of_ble_eq_true rfl⟩) hK hP hS hA rfl hl.1 rfl (Nat.le_of_ble_eq_true rfl) dX9_pairedIn_38 ⟨Nat.le_refl _, Nat.le_refl _⟩ (fun H locs hP hS => ?_)
      refine lv_istore (lv' := [(8, .int r_2), (0, .ref h), (1, .int l1), (3, .int l3), (4, .int l4), (5, .int l5), (6, .int l6), (7, .int l7)]) hx hb dX9_pairedIn_41 hl (by decide) rfl (fun ls hl => ?_)
      refine lv_iload_n hx hb dX9_pairedIn_43 rfl (lv_at hl 3 rfl) ?_
      refine lv_iconst (v := 1) hx hb dX9_pairedIn_44 (by decide) ?_
      refine lv_iload hx hb dX9_pairedIn_45 (lv_at hl 0 rfl) ?_
      refine lv_ishl hx hb dX9_pairedIn_47 ?_
      refine lv_ior hx hb dX9_pairedIn_48 ?_
      obtain ⟨x_4, ex_4, hf⟩ := nm_s hf
      refine w_eqi ex_4 ?_
      refine lv_istore_n (lv' := [(3, .int x_4), (8, .int r_2), (0, .ref h), (1, .int l1), (4, .int l4), (5, .int l5), (6, .int l6), (7, .int l7)]) hx hb dX9_pairedIn_49 rfl hl (by decide) rfl (fun ls hl => ?_)
      refine lv_iload hx hb dX9_pairedIn_50 (lv_at hl 7 rfl) ?_
      refine lv_bipush (v := 6) hx hb dX9_pairedIn_52 (by decide) ?_
      refine lv_icmp_ne (tgt := 65) hx hb dX9_pairedIn_54 (by decide) (fun c_5 => ?_) (fun c_5 => ?_)
      · have hf := it_f hf c_5
        refine lv_iload hx hb dX9_pairedIn_65 (lv_at hl 7 rfl) ?_
        refine lv_iconst (v := 4) hx hb dX9_pairedIn_67 (by decide) ?_
        refine lv_icmp_ne (tgt := 78) hx hb dX9_pairedIn_68 (by decide) (fun c_6 => ?_) (fun c_6 => ?_)
        · have hf := it_f hf c_6
          refine lv_iconst (v := 0) hx hb dX9_pairedIn_78 (by decide) ?_
          have hf : fX9_pairedIn_b79 (fX9_pairedIn_b31 v_many v_haveMet v_row n) v_many v_haveMet v_row l1 x_4 l4 l5 l6 l7 r_2 0 = some r0 := hf
          exact kX9_pairedIn_79 C0 hA hK ih l1 x_4 l4 l5 l6 l7 r_2 0 _ _ _ hf hP hD hS (lv_sub hl [2, 3, 0, 4, 5, 6, 7, 1] rfl)
        · have hf := it_t hf c_6
          refine lv_iload hx hb dX9_pairedIn_71 (lv_at hl 4 rfl) ?_
          refine lv_iconst (v := 3) hx hb dX9_pairedIn_73 (by decide) ?_
          refine lv_irem hx hb dX9_pairedIn_74 (by decide) ?_
          refine lv_goto (tgt := 79) hx hb dX9_pairedIn_75 (by decide) ?_
          have hf : fX9_pairedIn_b79 (fX9_pairedIn_b31 v_many v_haveMet v_row n) v_many v_haveMet v_row l1 x_4 l4 l5 l6 l7 r_2 (l4 - l4 / 3 * 3) = some r0 := hf
          exact kX9_pairedIn_79 C0 hA hK ih l1 x_4 l4 l5 l6 l7 r_2 (l4 - l4 / 3 * 3) _ _ _ hf hP hD hS (lv_sub hl [2, 3, 0, 4, 5, 6, 7, 1] rfl)
      · have hf := it_t hf c_5
        refine lv_iload hx hb dX9_pairedIn_57 (lv_at hl 4 rfl) ?_
        refine lv_iload hx hb dX9_pairedIn_59 (lv_at hl 6 rfl) ?_
        obtain ⟨hg_7, hf⟩ := ck_s hf
        refine lv_idiv hx hb dX9_pairedIn_61 (nz_n hg_7) ?_
        refine lv_goto (tgt := 79) hx hb dX9_pairedIn_62 (by decide) ?_
        have hf : fX9_pairedIn_b79 (fX9_pairedIn_b31 v_many v_haveMet v_row n) v_many v_haveMet v_row l1 x_4 l4 l5 l6 l7 r_2 (l4 / l6) = some r0 := hf
        exact kX9_pairedIn_79 C0 hA hK ih l1 x_4 l4 l5 l6 l7 r_2 (l4 / l6) _ _ _ hf hP hD hS (lv_sub hl [2, 3, 0, 4, 5, 6, 7, 1] rfl)
set_option maxHeartbeats 4000000 in
set_option maxRecDepth 100000 in
theorem kX9_pairedIn_23 {p : Program} {l : Launch} {e : Env} {s : State} {m : MethodId} {args : Array Value} {below : List Frame} {meth : Method} {c : Code} {dC : Nat → ClassId} {dI : Nat → Nat → Nat} {A : Nat → Prop} {cI cJ cZ cG : ClassId} {h h_effect h_number h_banned h_has h_life h_shield h_strength h_haveMet h_deck h_deckSize h_who h_does h_much h_against h_pack h_packSize h_gives h_wants h_tryWho h_tryDoes h_tryMuch h_tryAgainst h_tryLife h_tryShield h_ring h_row : Nat} {v_thrown : Int32} {v_today : Int32} {v_kinds : Int32} {v_stacked : Int32} {v_drafters : Int32} {v_cards : Int32} {v_round : Int32} {v_turn : Int32} {v_high : Int32} {v_ringSize : Int32} {v_many : Int32} {v_haveMet : Nat → Int32} {v_row : Nat → Int32} {r0 : Int32} (C0 : wCX p s args m meth c cX9_pairedIn 11 (some .int) RX9 wsX9_pairedIn) (hA : ∀ q, s.heap.size ≤ q → A q) (hK : va_K (dC, dI) vwCl (tysW cI cJ cZ cG) s) : ∀ (l1 : Int32) (l3 : Int32) (l4 : Int32) (l5 : Int32) (s0 : Int32) (hz_l3 : wB l3) (H : Heap) (locs : List Loc) (ls : Array Slot), fX9_pairedIn_b23 v_many v_haveMet v_row l1 l3 l4 l5 s0 = some r0 → va_P (dC, dI) vwCl (wcX9_pairedIn cI cJ cZ cG h h_effect h_number h_banned h_has h_life h_shield h_strength h_haveMet h_deck h_deckSize h_who h_does h_much h_against h_pack h_packSize h_gives h_wants h_tryWho h_tryDoes h_tryMuch h_tryAgainst h_tryLife h_tryShield h_ring h_row v_thrown v_today v_kinds v_stacked v_drafters v_cards v_round v_turn v_high v_ringSize v_many v_haveMet v_row) H → va_D A (wcX9_pairedIn cI cJ cZ cG h h_effect h_number h_banned h_has h_life h_shield h_strength h_haveMet h_deck h_deckSize h_who h_does h_much h_against h_pack h_packSize h_gives h_wants h_tryWho h_tryDoes h_tryMuch h_tryAgainst h_tryLife h_tryShield h_ring h_row v_thrown v_today v_kinds v_stacked v_drafters v_cards v_round v_turn v_high v_ringSize v_many v_haveMet v_row) → va_S A s.heap H locs → lv_has ls 11 [(0, .ref h), (1, .int l1), (3, .int l3), (4, .int l4), (5, .int l5)] → W p l e rmX9_pairedIn s m args below meth c H locs 0 0 (MQ below (wQi r0 (wcX9_pairedIn cI cJ cZ cG h h_effect h_number h_banned h_has h_life h_shield h_strength h_haveMet h_deck h_deckSize h_who h_does h_much h_against h_pack h_packSize h_gives h_wants h_tryWho h_tryDoes h_tryMuch h_tryAgainst h_tryLife h_tryShield h_ring h_row v_thrown v_today v_kinds v_stacked v_drafters v_cards v_round v_turn v_high v_ringSize v_many v_haveMet v_row) (dC, dI) A) args s 0 0 A) (F0 m 23 ls [.int s0]) := by
  obtain ⟨hx, hb, hr, hml, hown, hts, hlocks⟩ := id C0
  intro l1 l3 l4 l5 s0 hz_l3 H locs ls hf hP hD hS hl
  unfold fX9_pairedIn_b23 at hf
  refine lv_istore (lv' := [(6, .int s0), (0, .ref h), (1, .int l1), (3, .int l3), (4, .int l4), (5, .int l5)]) hx hb dX9_pairedIn_23 hl (by decide) rfl (fun ls hl => ?_)
  refine lv_aload_n hx hb dX9_pairedIn_25 rfl (lv_at hl 1 rfl) ?_
  refine va_get (D := (dC, dI)) (ci := 9) (v := .int v_many) (C := RX9) (T := TX9) (N := 37) hx hb hts iX9_pairedIn_X9 hown hK hP 0 rfl rfl 35 (by decide) (hts _ mX9_pairedIn_0) (fun _ h9 => h9) rfl dX9_pairedIn_26 ?_
  refine lv_istore (lv' := [(7, .int v_many), (6, .int s0), (0, .ref h), (1, .int l1), (3, .int l3), (4, .int l4), (5, .int l5)]) hx hb dX9_pairedIn_29 hl (by decide) rfl (fun ls hl => ?_)
  have hf : fX9_pairedIn_b31 v_many v_haveMet v_row 70 l1 l3 l4 l5 s0 v_many = some r0 := hf
  exact kX9_pairedIn_31 C0 hA hK 70 l1 l3 l4 l5 s0 v_many _ _ _ hf hP hD hS (lv_sub hl [2, 3, 4, 5, 6, 1, 0] rfl)
set_option maxHeartbeats 4000000 in
set_option maxRecDepth 100000 in
theorem oX9_pairedIn (l : Launch) (dC : Nat → ClassId) (dI : Nat → Nat → Nat) (cI cJ cZ cG : ClassId) (h h_effect h_number h_banned h_has h_life h_shield h_strength h_haveMet h_deck h_deckSize h_who h_does h_much h_against h_pack h_packSize h_gives h_wants h_tryWho h_tryDoes h_tryMuch h_tryAgainst h_tryLife h_tryShield h_ring h_row : Nat) (v_thrown : Int32) (v_today : Int32) (v_kinds : Int32) (v_stacked : Int32) (v_drafters : Int32) (v_cards : Int32) (v_round : Int32) (v_turn : Int32) (v_high : Int32) (v_ringSize : Int32) (v_many : Int32) (v_haveMet : Nat → Int32) (v_row : Nat → Int32) (sz : Nat) (p1 : Int32) (p2 : Int32) (r0 : Int32) (hf : fX9_pairedIn v_many v_haveMet v_row p1 p2 = some r0) : Met l yX9_pairedIn wsX9_pairedIn rmX9_pairedIn (wPc [.ref h, .int p1, .int p2] (dC, dI) (tysW cI cJ cZ cG) sz (wcX9_pairedIn cI cJ cZ cG h h_effect h_number h_banned h_has h_life h_shield h_strength h_haveMet h_deck h_deckSize h_who h_does h_much h_against h_pack h_packSize h_gives h_wants h_tryWho h_tryDoes h_tryMuch h_tryAgainst h_tryLife h_tryShield h_ring h_row v_thrown v_today v_kinds v_stacked v_drafters v_cards v_round v_turn v_high v_ringSize v_many v_haveMet v_row)) (wQi r0 (wcX9_pairedIn cI cJ cZ cG h h_effect h_number h_banned h_has h_life h_shield h_strength h_haveMet h_deck h_deckSize h_who h_does h_much h_against h_pack h_packSize h_gives h_wants h_tryWho h_tryDoes h_tryMuch h_tryAgainst h_tryLife h_tryShield h_ring h_row v_thrown v_today v_kinds v_stacked v_drafters v_cards v_round v_turn v_high v_ringSize v_many v_haveMet v_row) (dC, dI) (va_A (wcX9_pairedIn cI cJ cZ cG h h_effect h_number h_banned h_has h_life h_shield h_strength h_haveMet h_deck h_deckSize h_who h_does h_much h_against h_pack h_packSize h_gives h_wants h_tryWho h_tryDoes h_tryMuch h_tryAgainst h_tryLife h_tryShield h_ring h_row v_thrown v_today v_kinds v_stacked v_drafters v_cards v_round v_turn v_high v_ringSize v_many v_haveMet v_row) sz)) 0 0 (va_A (wcX9_pairedIn cI cJ cZ cG h h_effect h_number h_banned h_has h_life h_shield h_strength h_haveMet h_deck h_deckSize h_who h_does h_much h_against h_pack h_packSize h_gives h_wants h_tryWho h_tryDoes h_tryMuch h_tryAgainst h_tryLife h_tryShield h_ring h_row v_thrown v_today v_kinds v_stacked v_drafters v_cards v_round v_turn v_high v_ringSize v_many v_haveMet v_row) sz) := by
  refine Met.ofW (cc := cX9_pairedIn) (maxL := 11) (ret := (some .int)) (by decide) rfl ?_
  intro p e s m args below meth c s₁ B hml hv
  obtain ⟨rfl, hsz, hP, hK, hD0⟩ := hv
  have hx := B.exec
  have hb := B.bytes
  have hr := B.returns
  have hts := atoms_spec (ws := wsX9_pairedIn) B.pre
  have hown : s.vm.findClass RX9 = some m.cls := findClass_of_methodNamed B.named
  have hlocks := B.notSynchronized
  subst hsz
  have hD := hD0.self (sz := s.heap.size)
  generalize hAe : va_A (wcX9_pairedIn cI cJ cZ cG h h_effect h_number h_banned h_has h_life h_shield h_strength h_haveMet h_deck h_deckSize h_who h_does h_much h_against h_pack h_packSize h_gives h_wants h_tryWho h_tryDoes h_tryMuch h_tryAgainst h_tryLife h_tryShield h_ring h_row v_thrown v_today v_kinds v_stacked v_drafters v_cards v_round v_turn v_high v_ringSize v_many v_haveMet v_row) s.heap.size = A at hD ⊢
  have hA : ∀ q : Nat, s.heap.size ≤ q → A q := fun q h => by rw [← hAe]; exact Or.inr h
  have hS : va_S A s.heap s.heap [] := va_S.rf
  have hP : va_P (dC, dI) vwCl (wcX9_pairedIn cI cJ cZ cG h h_effect h_number h_banned h_has h_life h_shield h_strength h_haveMet h_deck h_deckSize h_who h_does h_much h_against h_pack h_packSize h_gives h_wants h_tryWho h_tryDoes h_tryMuch h_tryAgainst h_tryLife h_tryShield h_ring h_row v_thrown v_today v_kinds v_stacked v_drafters v_cards v_round v_turn v_high v_ringSize v_many v_haveMet v_row) s.heap := hP
  have hl := lv_entry ([.ref h, .int p1, .int p2]) (n := 11) (Nat.le_of_ble_eq_true rfl)
  rw [lg_entry_eq]
  generalize (lg_sl ([.ref h, .int p1, .int p2]) ++ List.replicate (11 - (lg_sl ([.ref h, .int p1, .int p2])).length) Slot.unset).toArray = ls at hl ⊢
  have hl : lv_has ls 11 [(0, .ref h), (1, .int p1), (2, .int p2)] := hl
  generalize hH : s.heap = H at hP hS ⊢
  have hS : va_S A s.heap H [] := by rw [hH]; exact hS
  have C0 : wCX p s #[.ref h, .int p1, .int p2] m meth c cX9_pairedIn 11 (some .int) RX9 wsX9_pairedIn := ⟨hx, hb, hr, hml, hown, hts, hlocks⟩
  show W p l e rmX9_pairedIn s m #[.ref h, .int p1, .int p2] below meth c H [] 0 0 (MQ below (wQi r0 (wcX9_pairedIn cI cJ cZ cG h h_effect h_number h_banned h_has h_life h_shield h_strength h_haveMet h_deck h_deckSize h_who h_does h_much h_against h_pack h_packSize h_gives h_wants h_tryWho h_tryDoes h_tryMuch h_tryAgainst h_tryLife h_tryShield h_ring h_row v_thrown v_today v_kinds v_stacked v_drafters v_cards v_round v_turn v_high v_ringSize v_many v_haveMet v_row) (dC, dI) A) #[.ref h, .int p1, .int p2] s 0 0 A) (F0 m 0 ls [])
  unfold fX9_pairedIn at hf
  refine lv_iconst (v := 0) hx hb dX9_pairedIn_0 (by decide) ?_
  refine lv_istore_n (lv' := [(3, .int 0), (0, .ref h), (1, .int p1), (2, .int p2)]) hx hb dX9_pairedIn_1 rfl hl (by decide) rfl (fun ls hl => ?_)
  refine lv_iload_n hx hb dX9_pairedIn_2 rfl (lv_at hl 3 rfl) ?_
  refine lv_istore (lv' := [(4, .int p2), (3, .int 0), (0, .ref h), (1, .int p1), (2, .int p2)]) hx hb dX9_pairedIn_3 hl (by decide) rfl (fun ls hl => ?_)
  refine lv_bipush (v := (-2)) hx hb dX9_pairedIn_5 (by decide) ?_
  refine lv_istore (lv' := [(5, .int (-2)), (4, .int p2), (3, .int 0), (0, .ref h), (1, .int p1), (2, .int p2)]) hx hb dX9_pairedIn_7 hl (by decide) rfl (fun ls hl => ?_)
  refine lv_aload_n hx hb dX9_pairedIn_9 rfl (lv_at hl 3 rfl) ?_
  refine va_get (D := (dC, dI)) (ci := 9) (v := .int v_many) (C := RX9) (T := TX9) (N := 37) hx hb hts iX9_pairedIn_X9 hown hK hP 0 rfl rfl 35 (by decide) (hts _ mX9_pairedIn_0) (fun _ h9 => h9) rfl dX9_pairedIn_10 ?_
  refine lv_bipush (v := 6) hx hb dX9_pairedIn_13 (by decide) ?_
  refine lv_icmp_ne (tgt := 22) hx hb dX9_pairedIn_15 (by decide) (fun c_1 => ?_) (fun c_1 => ?_)
  · have hf := it_f hf c_1
    refine lv_iconst (v := 1) hx hb dX9_pairedIn_22 (by decide) ?_
    have hf : fX9_pairedIn_b23 v_many v_haveMet v_row p1 0 p2 (-2) 1 = some r0 := hf
    exact kX9_pairedIn_23 C0 hA hK p1 0 p2 (-2) 1 (Or.inl rfl) _ _ _ hf hP hD hS (lv_sub hl [3, 4, 2, 1, 0] rfl)
  · have hf := it_t hf c_1
    refine lv_iconst (v := 3) hx hb dX9_pairedIn_18 (by decide) ?_
    refine lv_goto (tgt := 23) hx hb dX9_pairedIn_19 (by decide) ?_
    have hf : fX9_pairedIn_b23 v_many v_haveMet v_row p1 0 p2 (-2) 3 = some r0 := hf
    exact kX9_pairedIn_23 C0 hA hK p1 0 p2 (-2) 3 (Or.inl rfl) _ _ _ hf hP hD hS (lv_sub hl [3, 4, 2, 1, 0] rfl)
abbrev wcX9_pair (cI cJ cZ cG : ClassId) (h h_effect h_number h_banned h_has h_life h_shield h_strength h_haveMet h_deck h_deckSize h_who h_does h_much h_against h_pack h_packSize h_gives h_wants h_tryWho h_tryDoes h_tryMuch h_tryAgainst h_tryLife h_tryShield h_ring h_row : Nat) (v_thrown : Int32) (v_today : Int32) (v_kinds : Int32) (v_stacked : Int32) (v_drafters : Int32) (v_cards : Int32) (v_round : Int32) (v_turn : Int32) (v_high : Int32) (v_ringSize : Int32) (v_many : Int32) (v_strength : Nat → Int32) (v_haveMet : Nat → Int32) (v_row : Nat → Int32) : va_W := [(h, .inr (9, [.int v_thrown, .int v_today, .int v_kinds, .ref h_effect, .ref h_number, .ref h_banned, .ref h_has, .ref h_life, .ref h_shield, .ref h_strength, .ref h_haveMet, .ref h_deck, .ref h_deckSize, .int v_stacked, .ref h_who, .ref h_does, .ref h_much, .ref h_against, .int v_drafters, .int v_cards, .int v_round, .int v_turn, .ref h_pack, .ref h_packSize, .ref h_gives, .ref h_wants, .int v_high, .ref h_tryWho, .ref h_tryDoes, .ref h_tryMuch, .ref h_tryAgainst, .ref h_tryLife, .ref h_tryShield, .int v_ringSize, .ref h_ring, .int v_many, .ref h_row])), (h_strength, .inl (cI, 6, .inl v_strength)), (h_haveMet, .inl (cZ, 36, .inl v_haveMet)), (h_row, .inl (cI, 6, .inl v_row))]
theorem iX9_pair_X9 : ∀ w ∈ wsX90, w ∈ wsX9_pair := by decide +kernel
theorem mX9_pair_0 : (Cond.fieldLink RX9 179 "SleevehallModel" "many" "I") ∈ wsX9_pair := by decide +kernel
abbrev rmX9_pair : Room := { frames := 2, cells := 0, slots := 0, locals := 53 }
set_option maxHeartbeats 4000000 in
set_option maxRecDepth 100000 in
theorem kX9_pair_109 {p : Program} {l : Launch} {e : Env} {s : State} {m : MethodId} {args : Array Value} {below : List Frame} {meth : Method} {c : Code} {dC : Nat → ClassId} {dI : Nat → Nat → Nat} {A : Nat → Prop} {cI cJ cZ cG : ClassId} {h h_effect h_number h_banned h_has h_life h_shield h_strength h_haveMet h_deck h_deckSize h_who h_does h_much h_against h_pack h_packSize h_gives h_wants h_tryWho h_tryDoes h_tryMuch h_tryAgainst h_tryLife h_tryShield h_ring h_row : Nat} {v_today : Int32} {v_kinds : Int32} {v_stacked : Int32} {v_drafters : Int32} {v_cards : Int32} {v_round : Int32} {v_turn : Int32} {v_high : Int32} {v_ringSize : Int32} {v_strength : Nat → Int32} {v_haveMet : Nat → Int32} {r0 : Int32} {n_thrown : Int32} {n_many : Int32} {n_row : Nat → Int32} (C0 : wCX p s args m meth c cX9_pair 7 (some .int) RX9 wsX9_pair) (hA : ∀ q, s.heap.size ≤ q → A q) (hK : va_K (dC, dI) vwCl (tysW cI cJ cZ cG) s) : ∀ (v_thrown : Int32) (v_many : Int32) (v_row : Nat → Int32) (s0 : Int32) (H : Heap) (locs : List Loc) (ls : Array Slot), fX9_pair_b109 v_strength v_haveMet v_thrown v_many v_row s0 = some (r0, n_thrown, n_many, n_row) → va_P (dC, dI) vwCl (wcX9_pair cI cJ cZ cG h h_effect h_number h_banned h_has h_life h_shield h_strength h_haveMet h_deck h_deckSize h_who h_does h_much h_against h_pack h_packSize h_gives h_wants h_tryWho h_tryDoes h_tryMuch h_tryAgainst h_tryLife h_tryShield h_ring h_row v_thrown v_today v_kinds v_stacked v_drafters v_cards v_round v_turn v_high v_ringSize v_many v_strength v_haveMet v_row) H → va_D A (wcX9_pair cI cJ cZ cG h h_effect h_number h_banned h_has h_life h_shield h_strength h_haveMet h_deck h_deckSize h_who h_does h_much h_against h_pack h_packSize h_gives h_wants h_tryWho h_tryDoes h_tryMuch h_tryAgainst h_tryLife h_tryShield h_ring h_row v_thrown v_today v_kinds v_stacked v_drafters v_cards v_round v_turn v_high v_ringSize v_many v_strength v_haveMet v_row) → va_S A s.heap H locs → lv_has ls 7 [] → W p l e rmX9_pair s m args below meth c H locs 0 0 (MQ below (wQi r0 (wcX9_pair cI cJ cZ cG h h_effect h_number h_banned h_has h_life h_shield h_strength h_haveMet h_deck h_deckSize h_who h_does h_much h_against h_pack h_packSize h_gives h_wants h_tryWho h_tryDoes h_tryMuch h_tryAgainst h_tryLife h_tryShield h_ring h_row n_thrown v_today v_kinds v_stacked v_drafters v_cards v_round v_turn v_high v_ringSize n_many v_strength v_haveMet n_row) (dC, dI) A) args s 0 0 A) (F0 m 109 ls [.int s0]) := by
  obtain ⟨hx, hb, hr, hml, hown, hts, hlocks⟩ := id C0
  intro v_thrown v_many v_row s0 H locs ls hf hP hD hS hl
  unfold fX9_pair_b109 at hf
  have hf : some (s0, v_thrown, v_many, v_row) = some (r0, n_thrown, n_many, n_row) := hf
  cases hf
  exact w_iret hx hb hr hlocks rfl hP hD hS dX9_pair_109
set_option maxHeartbeats 4000000 in
set_option maxRecDepth 100000 in
theorem kX9_pair_74 {p : Program} {l : Launch} {e : Env} {s : State} {m : MethodId} {args : Array Value} {below : List Frame} {meth : Method} {c : Code} {dC : Nat → ClassId} {dI : Nat → Nat → Nat} {A : Nat → Prop} {cI cJ cZ cG : ClassId} {h h_effect h_number h_banned h_has h_life h_shield h_strength h_haveMet h_deck h_deckSize h_who h_does h_much h_against h_pack h_packSize h_gives h_wants h_tryWho h_tryDoes h_tryMuch h_tryAgainst h_tryLife h_tryShield h_ring h_row : Nat} {v_today : Int32} {v_kinds : Int32} {v_stacked : Int32} {v_drafters : Int32} {v_cards : Int32} {v_round : Int32} {v_turn : Int32} {v_high : Int32} {v_ringSize : Int32} {v_strength : Nat → Int32} {v_haveMet : Nat → Int32} {r0 : Int32} {n_thrown : Int32} {n_many : Int32} {n_row : Nat → Int32} (C0 : wCX p s args m meth c cX9_pair 7 (some .int) RX9 wsX9_pair) (hA : ∀ q, s.heap.size ≤ q → A q) (hK : va_K (dC, dI) vwCl (tysW cI cJ cZ cG) s) : ∀ (n : Nat), ∀ (v_thrown : Int32) (v_many : Int32) (v_row : Nat → Int32) (l1 : Int32) (l4 : Int32) (l5 : Int32) (H : Heap) (locs : List Loc) (ls : Array Slot), fX9_pair_b74 v_strength v_haveMet n v_thrown v_many v_row l1 l4 l5 = some (r0, n_thrown, n_many, n_row) → va_P (dC, dI) vwCl (wcX9_pair cI cJ cZ cG h h_effect h_number h_banned h_has h_life h_shield h_strength h_haveMet h_deck h_deckSize h_who h_does h_much h_against h_pack h_packSize h_gives h_wants h_tryWho h_tryDoes h_tryMuch h_tryAgainst h_tryLife h_tryShield h_ring h_row v_thrown v_today v_kinds v_stacked v_drafters v_cards v_round v_turn v_high v_ringSize v_many v_strength v_haveMet v_row) H → va_D A (wcX9_pair cI cJ cZ cG h h_effect h_number h_banned h_has h_life h_shield h_strength h_haveMet h_deck h_deckSize h_who h_does h_much h_against h_pack h_packSize h_gives h_wants h_tryWho h_tryDoes h_tryMuch h_tryAgainst h_tryLife h_tryShield h_ring h_row v_thrown v_today v_kinds v_stacked v_drafters v_cards v_round v_turn v_high v_ringSize v_many v_strength v_haveMet v_row) → va_S A s.heap H locs → lv_has ls 7 [(0, .ref h), (1, .int l1), (4, .int l4), (5, .int l5)] → W p l e rmX9_pair s m args below meth c H locs 0 0 (MQ below (wQi r0 (wcX9_pair cI cJ cZ cG h h_effect h_number h_banned h_has h_life h_shield h_strength h_haveMet h_deck h_deckSize h_who h_does h_much h_against h_pack h_packSize h_gives h_wants h_tryWho h_tryDoes h_tryMuch h_tryAgainst h_tryLife h_tryShield h_ring h_row n_thrown v_today v_kinds v_stacked v_drafters v_cards v_round v_turn v_high v_ringSize n_many v_strength v_haveMet n_row) (dC, dI) A) args s 0 0 A) (F0 m 74 ls []) := by
  obtain ⟨hx, hb, hr, hml, hown, hts, hlocks⟩ := id C0
  intro n
  induction n with
  | zero =>
    intro v_thrown v_many v_row l1 l4 l5 H locs ls hf hP hD hS hl
    rw [fX9_pair_b74] at hf
    cases hf
  | succ n ih =>
    intro v_thrown v_many v_row l1 l4 l5 H locs ls hf hP hD hS hl
    rw [fX9_pair_b74] at hf
    refine lv_iload hx hb dX9_pair_74 (lv_at hl 3 rfl) ?_
    refine lv_iload hx hb dX9_pair_76 (lv_at hl 2 rfl) ?_
    refine lv_icmp_ge (tgt := 116) hx hb dX9_pair_78 (by decide) (fun c_1 => ?_) (fun c_1 => ?_)
    · have hf := it_t hf c_1
      refine lv_iconst (v := (-1)) hx hb dX9_pair_116 (by decide) ?_
      have hf : some ((-1), v_thrown, v_many, v_row) = some (r0, n_thrown, n_many, n_row) := hf
      cases hf
      exact w_iret hx hb hr hlocks rfl hP hD hS dX9_pair_117
    · have hf := it_f hf c_1
      refine lv_aload_n hx hb dX9_pair_81 rfl (lv_at hl 0 rfl) ?_
      refine lv_iload_n hx hb dX9_pair_82 rfl (lv_at hl 1 rfl) ?_
      refine lv_iload hx hb dX9_pair_83 (lv_at hl 3 rfl) ?_
      obtain ⟨r_2, hc_3, hf⟩ := ob_s hf
      refine w_callVi (As := [.int l1, .int l5]) (rest := []) (wr := List.filterMap (fun i : Nat => (wcX9_pair cI cJ cZ cG h h_effect h_number h_banned h_has h_life h_shield h_strength h_haveMet h_deck h_deckSize h_who h_does h_much h_against h_pack h_packSize h_gives h_wants h_tryWho h_tryDoes h_tryMuch h_tryAgainst h_tryLife h_tryShield h_ring h_row v_thrown v_today v_kinds v_stacked v_drafters v_cards v_round v_turn v_high v_ringSize v_many v_strength v_haveMet v_row)[i]?) [1]) (ws1 := (wcX9_pair cI cJ cZ cG h h_effect h_number h_banned h_has h_life h_shield h_strength h_haveMet h_deck h_deckSize h_who h_does h_much h_against h_pack h_packSize h_gives h_wants h_tryWho h_tryDoes h_tryMuch h_tryAgainst h_tryLife h_tryShield h_ring h_row v_thrown v_today v_kinds v_stacked v_drafters v_cards v_round v_turn v_high v_ringSize v_many v_strength v_haveMet v_row)) ⟨hx, hb, hml, hown, hts⟩ (oX9_pairedIn l dC dI cI cJ cZ cG h h_effect h_number h_banned h_has h_life h_shield h_strength h_haveMet h_deck h_deckSize h_who h_does h_much h_against h_pack h_packSize h_gives h_wants h_tryWho h_tryDoes h_tryMuch h_tryAgainst h_tryLife h_tryShield h_ring h_row v_thrown v_today v_kinds v_stacked v_drafters v_cards v_round v_turn v_high v_ringSize v_many v_haveMet v_row H.size l1 l5 r_2 hc_3) (cwV 2 hts gX9_pair_X9_pairedIn rfl rfl rfl (by decide +kernel) ⟨Nat.le_of_ble_eq_true rfl, Nat.le_of_ble_eq_true rfl⟩) hK 0 9 rfl rfl rfl hP hD hS hA [0, 2, 3] [1] [1, 0, 2, 3] rfl rfl rfl rfl (by decide) rfl rfl rfl hl.1 rfl (Nat.le_of_ble_eq_true rfl) dX9_pair_85 ⟨Nat.le_refl _, Nat.le_refl _⟩ (fun H locs hP hD hS => ?_)
      refine lv_istore (lv' := [(6, .int r_2), (0, .ref h), (1, .int l1), (4, .int l4), (5, .int l5)]) hx hb dX9_pair_88 hl (by decide) rfl (fun ls hl => ?_)
      refine lv_iload hx hb dX9_pair_90 (lv_at hl 0 rfl) ?_
      refine lv_iconst (v := (-1)) hx hb dX9_pair_92 (by decide) ?_
      refine lv_icmp_eq (tgt := 110) hx hb dX9_pair_93 (by decide) (fun c_4 => ?_) (fun c_4 => ?_)
      · have hf := it_t hf c_4
        obtain ⟨x_5, ex_5, hf⟩ := nm_s hf
        refine lv_iinc (v := x_5) (lv' := [(5, .int x_5), (6, .int r_2), (0, .ref h), (1, .int l1), (4, .int l4)]) hx hb dX9_pair_110 hl (k := 4) rfl (by rw [ex_5]; rfl) (by decide) rfl (fun ls hl => ?_)
        refine lv_goto (tgt := 74) hx hb dX9_pair_113 (by decide) ?_
        have hf : (fX9_pair_b74 v_strength v_haveMet n) v_thrown v_many v_row l1 l4 x_5 = some (r0, n_thrown, n_many, n_row) := hf
        exact ih v_thrown v_many v_row l1 l4 x_5 _ _ _ hf hP hD hS (lv_sub hl [2, 3, 4, 0] rfl)
      · have hf := it_f hf c_4
        refine lv_iload hx hb dX9_pair_96 (lv_at hl 0 rfl) ?_
        refine lv_bipush (v := (-2)) hx hb dX9_pair_98 (by decide) ?_
        refine lv_icmp_ne (tgt := 107) hx hb dX9_pair_100 (by decide) (fun c_6 => ?_) (fun c_6 => ?_)
        · have hf := it_f hf c_6
          refine lv_iload hx hb dX9_pair_107 (lv_at hl 0 rfl) ?_
          have hf : fX9_pair_b109 v_strength v_haveMet v_thrown v_many v_row r_2 = some (r0, n_thrown, n_many, n_row) := hf
          exact kX9_pair_109 C0 hA hK v_thrown v_many v_row r_2 _ _ _ hf hP hD hS (lv_sub hl [] rfl)
        · have hf := it_t hf c_6
          refine lv_iconst (v := (-1)) hx hb dX9_pair_103 (by decide) ?_
          refine lv_goto (tgt := 109) hx hb dX9_pair_104 (by decide) ?_
          have hf : fX9_pair_b109 v_strength v_haveMet v_thrown v_many v_row (-1) = some (r0, n_thrown, n_many, n_row) := hf
          exact kX9_pair_109 C0 hA hK v_thrown v_many v_row (-1) _ _ _ hf hP hD hS (lv_sub hl [] rfl)
set_option maxHeartbeats 4000000 in
set_option maxRecDepth 100000 in
theorem kX9_pair_69 {p : Program} {l : Launch} {e : Env} {s : State} {m : MethodId} {args : Array Value} {below : List Frame} {meth : Method} {c : Code} {dC : Nat → ClassId} {dI : Nat → Nat → Nat} {A : Nat → Prop} {cI cJ cZ cG : ClassId} {h h_effect h_number h_banned h_has h_life h_shield h_strength h_haveMet h_deck h_deckSize h_who h_does h_much h_against h_pack h_packSize h_gives h_wants h_tryWho h_tryDoes h_tryMuch h_tryAgainst h_tryLife h_tryShield h_ring h_row : Nat} {v_today : Int32} {v_kinds : Int32} {v_stacked : Int32} {v_drafters : Int32} {v_cards : Int32} {v_round : Int32} {v_turn : Int32} {v_high : Int32} {v_ringSize : Int32} {v_strength : Nat → Int32} {v_haveMet : Nat → Int32} {r0 : Int32} {n_thrown : Int32} {n_many : Int32} {n_row : Nat → Int32} (C0 : wCX p s args m meth c cX9_pair 7 (some .int) RX9 wsX9_pair) (hA : ∀ q, s.heap.size ≤ q → A q) (hK : va_K (dC, dI) vwCl (tysW cI cJ cZ cG) s) : ∀ (v_thrown : Int32) (v_many : Int32) (v_row : Nat → Int32) (l1 : Int32) (s0 : Int32) (H : Heap) (locs : List Loc) (ls : Array Slot), fX9_pair_b69 v_strength v_haveMet v_thrown v_many v_row l1 s0 = some (r0, n_thrown, n_many, n_row) → va_P (dC, dI) vwCl (wcX9_pair cI cJ cZ cG h h_effect h_number h_banned h_has h_life h_shield h_strength h_haveMet h_deck h_deckSize h_who h_does h_much h_against h_pack h_packSize h_gives h_wants h_tryWho h_tryDoes h_tryMuch h_tryAgainst h_tryLife h_tryShield h_ring h_row v_thrown v_today v_kinds v_stacked v_drafters v_cards v_round v_turn v_high v_ringSize v_many v_strength v_haveMet v_row) H → va_D A (wcX9_pair cI cJ cZ cG h h_effect h_number h_banned h_has h_life h_shield h_strength h_haveMet h_deck h_deckSize h_who h_does h_much h_against h_pack h_packSize h_gives h_wants h_tryWho h_tryDoes h_tryMuch h_tryAgainst h_tryLife h_tryShield h_ring h_row v_thrown v_today v_kinds v_stacked v_drafters v_cards v_round v_turn v_high v_ringSize v_many v_strength v_haveMet v_row) → va_S A s.heap H locs → lv_has ls 7 [(0, .ref h), (1, .int l1)] → W p l e rmX9_pair s m args below meth c H locs 0 0 (MQ below (wQi r0 (wcX9_pair cI cJ cZ cG h h_effect h_number h_banned h_has h_life h_shield h_strength h_haveMet h_deck h_deckSize h_who h_does h_much h_against h_pack h_packSize h_gives h_wants h_tryWho h_tryDoes h_tryMuch h_tryAgainst h_tryLife h_tryShield h_ring h_row n_thrown v_today v_kinds v_stacked v_drafters v_cards v_round v_turn v_high v_ringSize n_many v_strength v_haveMet n_row) (dC, dI) A) args s 0 0 A) (F0 m 69 ls [.int s0]) := by
  obtain ⟨hx, hb, hr, hml, hown, hts, hlocks⟩ := id C0
  intro v_thrown v_many v_row l1 s0 H locs ls hf hP hD hS hl
  unfold fX9_pair_b69 at hf
  refine lv_istore (lv' := [(4, .int s0), (0, .ref h), (1, .int l1)]) hx hb dX9_pair_69 hl (by decide) rfl (fun ls hl => ?_)
  refine lv_iconst (v := 0) hx hb dX9_pair_71 (by decide) ?_
  refine lv_istore (lv' := [(5, .int 0), (4, .int s0), (0, .ref h), (1, .int l1)]) hx hb dX9_pair_72 hl (by decide) rfl (fun ls hl => ?_)
  have hf : fX9_pair_b74 v_strength v_haveMet 70 v_thrown v_many v_row l1 s0 0 = some (r0, n_thrown, n_many, n_row) := hf
  exact kX9_pair_74 C0 hA hK 70 v_thrown v_many v_row l1 s0 0 _ _ _ hf hP hD hS (lv_sub hl [2, 3, 1, 0] rfl)
set_option maxHeartbeats 4000000 in
set_option maxRecDepth 100000 in
theorem kX9_pair_29 {p : Program} {l : Launch} {e : Env} {s : State} {m : MethodId} {args : Array Value} {below : List Frame} {meth : Method} {c : Code} {dC : Nat → ClassId} {dI : Nat → Nat → Nat} {A : Nat → Prop} {cI cJ cZ cG : ClassId} {h h_effect h_number h_banned h_has h_life h_shield h_strength h_haveMet h_deck h_deckSize h_who h_does h_much h_against h_pack h_packSize h_gives h_wants h_tryWho h_tryDoes h_tryMuch h_tryAgainst h_tryLife h_tryShield h_ring h_row : Nat} {v_today : Int32} {v_kinds : Int32} {v_stacked : Int32} {v_drafters : Int32} {v_cards : Int32} {v_round : Int32} {v_turn : Int32} {v_high : Int32} {v_ringSize : Int32} {v_strength : Nat → Int32} {v_haveMet : Nat → Int32} {r0 : Int32} {n_thrown : Int32} {n_many : Int32} {n_row : Nat → Int32} (C0 : wCX p s args m meth c cX9_pair 7 (some .int) RX9 wsX9_pair) (hA : ∀ q, s.heap.size ≤ q → A q) (hK : va_K (dC, dI) vwCl (tysW cI cJ cZ cG) s) : ∀ (v_thrown : Int32) (v_many : Int32) (v_row : Nat → Int32) (l1 : Int32) (l2 : Int32) (s1 : Int32) (H : Heap) (locs : List Loc) (ls : Array Slot), fX9_pair_b29 v_strength v_haveMet v_thrown v_many v_row l1 l2 s1 = some (r0, n_thrown, n_many, n_row) → va_P (dC, dI) vwCl (wcX9_pair cI cJ cZ cG h h_effect h_number h_banned h_has h_life h_shield h_strength h_haveMet h_deck h_deckSize h_who h_does h_much h_against h_pack h_packSize h_gives h_wants h_tryWho h_tryDoes h_tryMuch h_tryAgainst h_tryLife h_tryShield h_ring h_row v_thrown v_today v_kinds v_stacked v_drafters v_cards v_round v_turn v_high v_ringSize v_many v_strength v_haveMet v_row) H → va_D A (wcX9_pair cI cJ cZ cG h h_effect h_number h_banned h_has h_life h_shield h_strength h_haveMet h_deck h_deckSize h_who h_does h_much h_against h_pack h_packSize h_gives h_wants h_tryWho h_tryDoes h_tryMuch h_tryAgainst h_tryLife h_tryShield h_ring h_row v_thrown v_today v_kinds v_stacked v_drafters v_cards v_round v_turn v_high v_ringSize v_many v_strength v_haveMet v_row) → va_S A s.heap H locs → lv_has ls 7 [(0, .ref h), (1, .int l1), (2, .int l2)] → W p l e rmX9_pair s m args below meth c H locs 0 0 (MQ below (wQi r0 (wcX9_pair cI cJ cZ cG h h_effect h_number h_banned h_has h_life h_shield h_strength h_haveMet h_deck h_deckSize h_who h_does h_much h_against h_pack h_packSize h_gives h_wants h_tryWho h_tryDoes h_tryMuch h_tryAgainst h_tryLife h_tryShield h_ring h_row n_thrown v_today v_kinds v_stacked v_drafters v_cards v_round v_turn v_high v_ringSize n_many v_strength v_haveMet n_row) (dC, dI) A) args s 0 0 A) (F0 m 29 ls [.int s1, .ref h]) := by
  obtain ⟨hx, hb, hr, hml, hown, hts, hlocks⟩ := id C0
  intro v_thrown v_many v_row l1 l2 s1 H locs ls hf hP hD hS hl
  unfold fX9_pair_b29 at hf
  obtain ⟨⟨r_1, w_2⟩, hc_3, hf⟩ := ob_s hf
  refine w_callVz (As := [.int s1]) (rest := []) (wr := List.filterMap (fun i : Nat => (wcX9_pair cI cJ cZ cG h h_effect h_number h_banned h_has h_life h_shield h_strength h_haveMet h_deck h_deckSize h_who h_does h_much h_against h_pack h_packSize h_gives h_wants h_tryWho h_tryDoes h_tryMuch h_tryAgainst h_tryLife h_tryShield h_ring h_row v_thrown v_today v_kinds v_stacked v_drafters v_cards v_round v_turn v_high v_ringSize v_many v_strength v_haveMet v_row)[i]?) [1, 2, 3]) (ws1 := (wcX9_pair cI cJ cZ cG h h_effect h_number h_banned h_has h_life h_shield h_strength h_haveMet h_deck h_deckSize h_who h_does h_much h_against h_pack h_packSize h_gives h_wants h_tryWho h_tryDoes h_tryMuch h_tryAgainst h_tryLife h_tryShield h_ring h_row w_2 v_today v_kinds v_stacked v_drafters v_cards v_round v_turn v_high v_ringSize v_many v_strength v_haveMet v_row)) ⟨hx, hb, hml, hown, hts⟩ (oX9_goesWell l dC dI cI cJ cZ cG h h_effect h_number h_banned h_has h_life h_shield h_strength h_haveMet h_deck h_deckSize h_who h_does h_much h_against h_pack h_packSize h_gives h_wants h_tryWho h_tryDoes h_tryMuch h_tryAgainst h_tryLife h_tryShield h_ring h_row v_thrown v_today v_kinds v_stacked v_drafters v_cards v_round v_turn v_high v_ringSize v_many H.size s1 r_1 w_2 hc_3) (cwV 1 hts gX9_pair_X9_goesWell rfl rfl rfl (by decide +kernel) ⟨Nat.le_of_ble_eq_true rfl, Nat.le_of_ble_eq_true rfl⟩) hK 0 9 rfl rfl rfl hP hD hS hA [0] [1, 2, 3] [3, 0, 1, 2] rfl rfl rfl rfl (by decide) rfl rfl rfl hl.1 rfl (Nat.le_of_ble_eq_true rfl) dX9_pair_29 ⟨Nat.le_refl _, Nat.le_refl _⟩ (fun hz_4 H locs hP hD hS => ?_)
  refine lv_if_ne (tgt := 37) hx hb dX9_pair_32 (by decide) (fun c_5 => ?_) (fun c_5 => ?_)
  · have hf := it_f hf c_5
    refine lv_aload_n hx hb dX9_pair_37 rfl (lv_at hl 0 rfl) ?_
    refine lv_iload_n hx hb dX9_pair_38 rfl (lv_at hl 2 rfl) ?_
    obtain ⟨⟨w_6, w_7⟩, hc_8, hf⟩ := ob_s hf
    refine w_callVv (As := [.int l2]) (rest := []) (wr := List.filterMap (fun i : Nat => (wcX9_pair cI cJ cZ cG h h_effect h_number h_banned h_has h_life h_shield h_strength h_haveMet h_deck h_deckSize h_who h_does h_much h_against h_pack h_packSize h_gives h_wants h_tryWho h_tryDoes h_tryMuch h_tryAgainst h_tryLife h_tryShield h_ring h_row w_2 v_today v_kinds v_stacked v_drafters v_cards v_round v_turn v_high v_ringSize v_many v_strength v_haveMet v_row)[i]?) [2]) (ws1 := (wcX9_pair cI cJ cZ cG h h_effect h_number h_banned h_has h_life h_shield h_strength h_haveMet h_deck h_deckSize h_who h_does h_much h_against h_pack h_packSize h_gives h_wants h_tryWho h_tryDoes h_tryMuch h_tryAgainst h_tryLife h_tryShield h_ring h_row w_2 v_today v_kinds v_stacked v_drafters v_cards v_round v_turn v_high v_ringSize w_6 v_strength v_haveMet w_7)) ⟨hx, hb, hml, hown, hts⟩ (oX9_rowOf l dC dI cI cJ cZ cG h h_effect h_number h_banned h_has h_life h_shield h_strength h_haveMet h_deck h_deckSize h_who h_does h_much h_against h_pack h_packSize h_gives h_wants h_tryWho h_tryDoes h_tryMuch h_tryAgainst h_tryLife h_tryShield h_ring h_row w_2 v_today v_kinds v_stacked v_drafters v_cards v_round v_turn v_high v_ringSize v_many v_strength v_row H.size l2 w_6 w_7 hc_8) (cwV 1 hts gX9_pair_X9_rowOf rfl rfl rfl (by decide +kernel) ⟨Nat.le_of_ble_eq_true rfl, Nat.le_of_ble_eq_true rfl⟩) hK 0 9 rfl rfl rfl hP hD hS hA [0, 1, 3] [2] [1, 2, 0, 3] rfl rfl rfl rfl (by decide) rfl rfl rfl hl.1 rfl (Nat.le_of_ble_eq_true rfl) dX9_pair_39 ⟨Nat.le_refl _, Nat.le_refl _⟩ (fun H locs hP hD hS => ?_)
    refine lv_aload_n hx hb dX9_pair_42 rfl (lv_at hl 0 rfl) ?_
    refine va_get (D := (dC, dI)) (ci := 9) (v := .int w_6) (C := RX9) (T := TX9) (N := 37) hx hb hts iX9_pair_X9 hown hK hP 0 rfl rfl 35 (by decide) (hts _ mX9_pair_0) (fun _ h9 => h9) rfl dX9_pair_43 ?_
    refine lv_bipush (v := 6) hx hb dX9_pair_46 (by decide) ?_
    refine lv_icmp_ne (tgt := 56) hx hb dX9_pair_48 (by decide) (fun c_9 => ?_) (fun c_9 => ?_)
    · have hf := it_f hf c_9
      refine lv_aload_n hx hb dX9_pair_56 rfl (lv_at hl 0 rfl) ?_
      refine va_get (D := (dC, dI)) (ci := 9) (v := .int w_6) (C := RX9) (T := TX9) (N := 37) hx hb hts iX9_pair_X9 hown hK hP 0 rfl rfl 35 (by decide) (hts _ mX9_pair_0) (fun _ h9 => h9) rfl dX9_pair_57 ?_
      refine lv_iconst (v := 4) hx hb dX9_pair_60 (by decide) ?_
      refine lv_icmp_ne (tgt := 68) hx hb dX9_pair_61 (by decide) (fun c_10 => ?_) (fun c_10 => ?_)
      · have hf := it_f hf c_10
        refine lv_iconst (v := 1) hx hb dX9_pair_68 (by decide) ?_
        have hf : fX9_pair_b69 v_strength v_haveMet w_2 w_6 w_7 l1 1 = some (r0, n_thrown, n_many, n_row) := hf
        exact kX9_pair_69 C0 hA hK w_2 w_6 w_7 l1 1 _ _ _ hf hP hD hS (lv_sub hl [0, 1] rfl)
      · have hf := it_t hf c_10
        refine lv_iconst (v := 3) hx hb dX9_pair_64 (by decide) ?_
        refine lv_goto (tgt := 69) hx hb dX9_pair_65 (by decide) ?_
        have hf : fX9_pair_b69 v_strength v_haveMet w_2 w_6 w_7 l1 3 = some (r0, n_thrown, n_many, n_row) := hf
        exact kX9_pair_69 C0 hA hK w_2 w_6 w_7 l1 3 _ _ _ hf hP hD hS (lv_sub hl [0, 1] rfl)
    · have hf := it_t hf c_9
      refine lv_bipush (v := 15) hx hb dX9_pair_51 (by decide) ?_
      refine lv_goto (tgt := 69) hx hb dX9_pair_53 (by decide) ?_
      have hf : fX9_pair_b69 v_strength v_haveMet w_2 w_6 w_7 l1 15 = some (r0, n_thrown, n_many, n_row) := hf
      exact kX9_pair_69 C0 hA hK w_2 w_6 w_7 l1 15 _ _ _ hf hP hD hS (lv_sub hl [0, 1] rfl)
  · have hf := it_t hf c_5
    refine lv_iconst (v := 0) hx hb dX9_pair_35 (by decide) ?_
    have hf : some (0, w_2, v_many, v_row) = some (r0, n_thrown, n_many, n_row) := hf
    cases hf
    exact w_iret hx hb hr hlocks rfl hP hD hS dX9_pair_36
set_option maxHeartbeats 4000000 in
set_option maxRecDepth 100000 in
theorem kX9_pair_28 {p : Program} {l : Launch} {e : Env} {s : State} {m : MethodId} {args : Array Value} {below : List Frame} {meth : Method} {c : Code} {dC : Nat → ClassId} {dI : Nat → Nat → Nat} {A : Nat → Prop} {cI cJ cZ cG : ClassId} {h h_effect h_number h_banned h_has h_life h_shield h_strength h_haveMet h_deck h_deckSize h_who h_does h_much h_against h_pack h_packSize h_gives h_wants h_tryWho h_tryDoes h_tryMuch h_tryAgainst h_tryLife h_tryShield h_ring h_row : Nat} {v_today : Int32} {v_kinds : Int32} {v_stacked : Int32} {v_drafters : Int32} {v_cards : Int32} {v_round : Int32} {v_turn : Int32} {v_high : Int32} {v_ringSize : Int32} {v_strength : Nat → Int32} {v_haveMet : Nat → Int32} {r0 : Int32} {n_thrown : Int32} {n_many : Int32} {n_row : Nat → Int32} (C0 : wCX p s args m meth c cX9_pair 7 (some .int) RX9 wsX9_pair) (hA : ∀ q, s.heap.size ≤ q → A q) (hK : va_K (dC, dI) vwCl (tysW cI cJ cZ cG) s) : ∀ (v_thrown : Int32) (v_many : Int32) (v_row : Nat → Int32) (l1 : Int32) (l2 : Int32) (H : Heap) (locs : List Loc) (ls : Array Slot), fX9_pair_b28 v_strength v_haveMet v_thrown v_many v_row l1 l2 = some (r0, n_thrown, n_many, n_row) → va_P (dC, dI) vwCl (wcX9_pair cI cJ cZ cG h h_effect h_number h_banned h_has h_life h_shield h_strength h_haveMet h_deck h_deckSize h_who h_does h_much h_against h_pack h_packSize h_gives h_wants h_tryWho h_tryDoes h_tryMuch h_tryAgainst h_tryLife h_tryShield h_ring h_row v_thrown v_today v_kinds v_stacked v_drafters v_cards v_round v_turn v_high v_ringSize v_many v_strength v_haveMet v_row) H → va_D A (wcX9_pair cI cJ cZ cG h h_effect h_number h_banned h_has h_life h_shield h_strength h_haveMet h_deck h_deckSize h_who h_does h_much h_against h_pack h_packSize h_gives h_wants h_tryWho h_tryDoes h_tryMuch h_tryAgainst h_tryLife h_tryShield h_ring h_row v_thrown v_today v_kinds v_stacked v_drafters v_cards v_round v_turn v_high v_ringSize v_many v_strength v_haveMet v_row) → va_S A s.heap H locs → lv_has ls 7 [(0, .ref h), (1, .int l1), (2, .int l2)] → W p l e rmX9_pair s m args below meth c H locs 0 0 (MQ below (wQi r0 (wcX9_pair cI cJ cZ cG h h_effect h_number h_banned h_has h_life h_shield h_strength h_haveMet h_deck h_deckSize h_who h_does h_much h_against h_pack h_packSize h_gives h_wants h_tryWho h_tryDoes h_tryMuch h_tryAgainst h_tryLife h_tryShield h_ring h_row n_thrown v_today v_kinds v_stacked v_drafters v_cards v_round v_turn v_high v_ringSize n_many v_strength v_haveMet n_row) (dC, dI) A) args s 0 0 A) (F0 m 28 ls [.ref h]) := by
  obtain ⟨hx, hb, hr, hml, hown, hts, hlocks⟩ := id C0
  intro v_thrown v_many v_row l1 l2 H locs ls hf hP hD hS hl
  unfold fX9_pair_b28 at hf
  refine lv_iconst (v := 2) hx hb dX9_pair_28 (by decide) ?_
  have hf : fX9_pair_b29 v_strength v_haveMet v_thrown v_many v_row l1 l2 2 = some (r0, n_thrown, n_many, n_row) := hf
  exact kX9_pair_29 C0 hA hK v_thrown v_many v_row l1 l2 2 _ _ _ hf hP hD hS (lv_sub hl [0, 1, 2] rfl)
set_option maxHeartbeats 4000000 in
set_option maxRecDepth 100000 in
theorem oX9_pair (l : Launch) (dC : Nat → ClassId) (dI : Nat → Nat → Nat) (cI cJ cZ cG : ClassId) (h h_effect h_number h_banned h_has h_life h_shield h_strength h_haveMet h_deck h_deckSize h_who h_does h_much h_against h_pack h_packSize h_gives h_wants h_tryWho h_tryDoes h_tryMuch h_tryAgainst h_tryLife h_tryShield h_ring h_row : Nat) (v_thrown : Int32) (v_today : Int32) (v_kinds : Int32) (v_stacked : Int32) (v_drafters : Int32) (v_cards : Int32) (v_round : Int32) (v_turn : Int32) (v_high : Int32) (v_ringSize : Int32) (v_many : Int32) (v_strength : Nat → Int32) (v_haveMet : Nat → Int32) (v_row : Nat → Int32) (sz : Nat) (p1 : Int32) (p2 : Int32) (r0 : Int32) (n_thrown : Int32) (n_many : Int32) (n_row : Nat → Int32) (hf : fX9_pair v_thrown v_many v_strength v_haveMet v_row p1 p2 = some (r0, n_thrown, n_many, n_row)) : Met l yX9_pair wsX9_pair rmX9_pair (wPc [.ref h, .int p1, .int p2] (dC, dI) (tysW cI cJ cZ cG) sz (wcX9_pair cI cJ cZ cG h h_effect h_number h_banned h_has h_life h_shield h_strength h_haveMet h_deck h_deckSize h_who h_does h_much h_against h_pack h_packSize h_gives h_wants h_tryWho h_tryDoes h_tryMuch h_tryAgainst h_tryLife h_tryShield h_ring h_row v_thrown v_today v_kinds v_stacked v_drafters v_cards v_round v_turn v_high v_ringSize v_many v_strength v_haveMet v_row)) (wQi r0 (wcX9_pair cI cJ cZ cG h h_effect h_number h_banned h_has h_life h_shield h_strength h_haveMet h_deck h_deckSize h_who h_does h_much h_against h_pack h_packSize h_gives h_wants h_tryWho h_tryDoes h_tryMuch h_tryAgainst h_tryLife h_tryShield h_ring h_row n_thrown v_today v_kinds v_stacked v_drafters v_cards v_round v_turn v_high v_ringSize n_many v_strength v_haveMet n_row) (dC, dI) (va_A (wcX9_pair cI cJ cZ cG h h_effect h_number h_banned h_has h_life h_shield h_strength h_haveMet h_deck h_deckSize h_who h_does h_much h_against h_pack h_packSize h_gives h_wants h_tryWho h_tryDoes h_tryMuch h_tryAgainst h_tryLife h_tryShield h_ring h_row v_thrown v_today v_kinds v_stacked v_drafters v_cards v_round v_turn v_high v_ringSize v_many v_strength v_haveMet v_row) sz)) 0 0 (va_A (wcX9_pair cI cJ cZ cG h h_effect h_number h_banned h_has h_life h_shield h_strength h_haveMet h_deck h_deckSize h_who h_does h_much h_against h_pack h_packSize h_gives h_wants h_tryWho h_tryDoes h_tryMuch h_tryAgainst h_tryLife h_tryShield h_ring h_row v_thrown v_today v_kinds v_stacked v_drafters v_cards v_round v_turn v_high v_ringSize v_many v_strength v_haveMet v_row) sz) := by
  refine Met.ofW (cc := cX9_pair) (maxL := 7) (ret := (some .int)) (by decide) rfl ?_
  intro p e s m args below meth c s₁ B hml hv
  obtain ⟨rfl, hsz, hP, hK, hD0⟩ := hv
  have hx := B.exec
  have hb := B.bytes
  have hr := B.returns
  have hts := atoms_spec (ws := wsX9_pair) B.pre
  have hown : s.vm.findClass RX9 = some m.cls := findClass_of_methodNamed B.named
  have hlocks := B.notSynchronized
  subst hsz
  have hD := hD0.self (sz := s.heap.size)
  generalize hAe : va_A (wcX9_pair cI cJ cZ cG h h_effect h_number h_banned h_has h_life h_shield h_strength h_haveMet h_deck h_deckSize h_who h_does h_much h_against h_pack h_packSize h_gives h_wants h_tryWho h_tryDoes h_tryMuch h_tryAgainst h_tryLife h_tryShield h_ring h_row v_thrown v_today v_kinds v_stacked v_drafters v_cards v_round v_turn v_high v_ringSize v_many v_strength v_haveMet v_row) s.heap.size = A at hD ⊢
  have hA : ∀ q : Nat, s.heap.size ≤ q → A q := fun q h => by rw [← hAe]; exact Or.inr h
  have hS : va_S A s.heap s.heap [] := va_S.rf
  have hP : va_P (dC, dI) vwCl (wcX9_pair cI cJ cZ cG h h_effect h_number h_banned h_has h_life h_shield h_strength h_haveMet h_deck h_deckSize h_who h_does h_much h_against h_pack h_packSize h_gives h_wants h_tryWho h_tryDoes h_tryMuch h_tryAgainst h_tryLife h_tryShield h_ring h_row v_thrown v_today v_kinds v_stacked v_drafters v_cards v_round v_turn v_high v_ringSize v_many v_strength v_haveMet v_row) s.heap := hP
  have hl := lv_entry ([.ref h, .int p1, .int p2]) (n := 7) (Nat.le_of_ble_eq_true rfl)
  rw [lg_entry_eq]
  generalize (lg_sl ([.ref h, .int p1, .int p2]) ++ List.replicate (7 - (lg_sl ([.ref h, .int p1, .int p2])).length) Slot.unset).toArray = ls at hl ⊢
  have hl : lv_has ls 7 [(0, .ref h), (1, .int p1), (2, .int p2)] := hl
  generalize hH : s.heap = H at hP hS ⊢
  have hS : va_S A s.heap H [] := by rw [hH]; exact hS
  have C0 : wCX p s #[.ref h, .int p1, .int p2] m meth c cX9_pair 7 (some .int) RX9 wsX9_pair := ⟨hx, hb, hr, hml, hown, hts, hlocks⟩
  show W p l e rmX9_pair s m #[.ref h, .int p1, .int p2] below meth c H [] 0 0 (MQ below (wQi r0 (wcX9_pair cI cJ cZ cG h h_effect h_number h_banned h_has h_life h_shield h_strength h_haveMet h_deck h_deckSize h_who h_does h_much h_against h_pack h_packSize h_gives h_wants h_tryWho h_tryDoes h_tryMuch h_tryAgainst h_tryLife h_tryShield h_ring h_row n_thrown v_today v_kinds v_stacked v_drafters v_cards v_round v_turn v_high v_ringSize n_many v_strength v_haveMet n_row) (dC, dI) A) #[.ref h, .int p1, .int p2] s 0 0 A) (F0 m 0 ls [])
  unfold fX9_pair at hf
  refine lv_iload_n hx hb dX9_pair_0 rfl (lv_at hl 1 rfl) ?_
  obtain ⟨r_1, hc_2, hf⟩ := ob_s hf
  refine w_callSz (As := [.int p1]) (rest := []) ⟨hx, hb, hml, hown, hts⟩ (oX9_isPlayer l dC dI cI cJ cZ cG H.size p1 r_1 hc_2) (va_cwS 1 hts gX9_pair_X9_isPlayer rfl rfl rfl (by decide +kernel) ⟨Nat.le_of_ble_eq_true rfl, Nat.le_of_ble_eq_true rfl⟩) hK hP hS hA rfl hl.1 rfl (Nat.le_of_ble_eq_true rfl) dX9_pair_1 ⟨Nat.le_refl _, Nat.le_refl _⟩ (fun hz_3 H locs hP hS => ?_)
  refine lv_istore_n (lv' := [(3, .int r_1), (0, .ref h), (1, .int p1), (2, .int p2)]) hx hb dX9_pair_4 rfl hl (by decide) rfl (fun ls hl => ?_)
  refine lv_aload_n hx hb dX9_pair_5 rfl (lv_at hl 1 rfl) ?_
  refine lv_iload_n hx hb dX9_pair_6 rfl (lv_at hl 0 rfl) ?_
  refine lv_if_ne (tgt := 14) hx hb dX9_pair_7 (by decide) (fun c_4 => ?_) (fun c_4 => ?_)
  · have hf := it_f hf c_4
    refine lv_iload_n hx hb dX9_pair_14 rfl (lv_at hl 3 rfl) ?_
    refine lv_if_lt (tgt := 28) hx hb dX9_pair_15 (by decide) (fun c_5 => ?_) (fun c_5 => ?_)
    · have hf := it_t hf c_5
      have hf : fX9_pair_b28 v_strength v_haveMet v_thrown v_many v_row p1 p2 = some (r0, n_thrown, n_many, n_row) := hf
      exact kX9_pair_28 C0 hA hK v_thrown v_many v_row p1 p2 _ _ _ hf hP hD hS (lv_sub hl [1, 2, 3] rfl)
    · have hf := it_f hf c_5
      refine lv_iload_n hx hb dX9_pair_18 rfl (lv_at hl 3 rfl) ?_
      refine lv_bipush (v := 63) hx hb dX9_pair_19 (by decide) ?_
      refine lv_icmp_gt (tgt := 28) hx hb dX9_pair_21 (by decide) (fun c_6 => ?_) (fun c_6 => ?_)
      · have hf := it_t hf c_6
        have hf : fX9_pair_b28 v_strength v_haveMet v_thrown v_many v_row p1 p2 = some (r0, n_thrown, n_many, n_row) := hf
        exact kX9_pair_28 C0 hA hK v_thrown v_many v_row p1 p2 _ _ _ hf hP hD hS (lv_sub hl [1, 2, 3] rfl)
      · have hf := it_f hf c_6
        refine lv_iconst (v := 0) hx hb dX9_pair_24 (by decide) ?_
        refine lv_goto (tgt := 29) hx hb dX9_pair_25 (by decide) ?_
        have hf : fX9_pair_b29 v_strength v_haveMet v_thrown v_many v_row p1 p2 0 = some (r0, n_thrown, n_many, n_row) := hf
        exact kX9_pair_29 C0 hA hK v_thrown v_many v_row p1 p2 0 _ _ _ hf hP hD hS (lv_sub hl [1, 2, 3] rfl)
  · have hf := it_t hf c_4
    refine lv_iconst (v := 1) hx hb dX9_pair_10 (by decide) ?_
    refine lv_goto (tgt := 29) hx hb dX9_pair_11 (by decide) ?_
    have hf : fX9_pair_b29 v_strength v_haveMet v_thrown v_many v_row p1 p2 1 = some (r0, n_thrown, n_many, n_row) := hf
    exact kX9_pair_29 C0 hA hK v_thrown v_many v_row p1 p2 1 _ _ _ hf hP hD hS (lv_sub hl [1, 2, 3] rfl)
abbrev wcX9_result (cI cJ cZ cG : ClassId) (h h_effect h_number h_banned h_has h_life h_shield h_strength h_haveMet h_deck h_deckSize h_who h_does h_much h_against h_pack h_packSize h_gives h_wants h_tryWho h_tryDoes h_tryMuch h_tryAgainst h_tryLife h_tryShield h_ring h_row : Nat) (v_thrown : Int32) (v_today : Int32) (v_kinds : Int32) (v_stacked : Int32) (v_drafters : Int32) (v_cards : Int32) (v_round : Int32) (v_turn : Int32) (v_high : Int32) (v_ringSize : Int32) (v_many : Int32) (v_strength : Nat → Int32) (v_haveMet : Nat → Int32) : va_W := [(h, .inr (9, [.int v_thrown, .int v_today, .int v_kinds, .ref h_effect, .ref h_number, .ref h_banned, .ref h_has, .ref h_life, .ref h_shield, .ref h_strength, .ref h_haveMet, .ref h_deck, .ref h_deckSize, .int v_stacked, .ref h_who, .ref h_does, .ref h_much, .ref h_against, .int v_drafters, .int v_cards, .int v_round, .int v_turn, .ref h_pack, .ref h_packSize, .ref h_gives, .ref h_wants, .int v_high, .ref h_tryWho, .ref h_tryDoes, .ref h_tryMuch, .ref h_tryAgainst, .ref h_tryLife, .ref h_tryShield, .int v_ringSize, .ref h_ring, .int v_many, .ref h_row])), (h_strength, .inl (cI, 6, .inl v_strength)), (h_haveMet, .inl (cZ, 36, .inl v_haveMet))]
theorem iX9_result_X9 : ∀ w ∈ wsX90, w ∈ wsX9_result := by decide +kernel
theorem mX9_result_0 : (Cond.fieldLink RX9 28 "SleevehallModel" "strength" "[I") ∈ wsX9_result := by decide +kernel
theorem mX9_result_1 : (Cond.fieldLink RX9 31 "SleevehallModel" "haveMet" "[Z") ∈ wsX9_result := by decide +kernel
abbrev rmX9_result : Room := { frames := 2, cells := 0, slots := 0, locals := 42 }
set_option maxHeartbeats 4000000 in
set_option maxRecDepth 100000 in
theorem kX9_result_91 {p : Program} {l : Launch} {e : Env} {s : State} {m : MethodId} {args : Array Value} {below : List Frame} {meth : Method} {c : Code} {dC : Nat → ClassId} {dI : Nat → Nat → Nat} {A : Nat → Prop} {cI cJ cZ cG : ClassId} {h h_effect h_number h_banned h_has h_life h_shield h_strength h_haveMet h_deck h_deckSize h_who h_does h_much h_against h_pack h_packSize h_gives h_wants h_tryWho h_tryDoes h_tryMuch h_tryAgainst h_tryLife h_tryShield h_ring h_row : Nat} {v_today : Int32} {v_kinds : Int32} {v_stacked : Int32} {v_drafters : Int32} {v_cards : Int32} {v_round : Int32} {v_turn : Int32} {v_high : Int32} {v_ringSize : Int32} {v_many : Int32} {r0 : Int32} {n_thrown : Int32} {n_strength : Nat → Int32} {n_haveMet : Nat → Int32} (C0 : wCX p s args m meth c cX9_result 5 (some .int) RX9 wsX9_result) (hA : ∀ q, s.heap.size ≤ q → A q) (hK : va_K (dC, dI) vwCl (tysW cI cJ cZ cG) s) : ∀ (v_thrown : Int32) (v_strength : Nat → Int32) (v_haveMet : Nat → Int32) (l1 : Int32) (l2 : Int32) (s0 : Int32) (H : Heap) (locs : List Loc) (ls : Array Slot), fX9_result_b91 v_thrown v_strength v_haveMet l1 l2 s0 = some (r0, n_thrown, n_strength, n_haveMet) → va_P (dC, dI) vwCl (wcX9_result cI cJ cZ cG h h_effect h_number h_banned h_has h_life h_shield h_strength h_haveMet h_deck h_deckSize h_who h_does h_much h_against h_pack h_packSize h_gives h_wants h_tryWho h_tryDoes h_tryMuch h_tryAgainst h_tryLife h_tryShield h_ring h_row v_thrown v_today v_kinds v_stacked v_drafters v_cards v_round v_turn v_high v_ringSize v_many v_strength v_haveMet) H → va_D A (wcX9_result cI cJ cZ cG h h_effect h_number h_banned h_has h_life h_shield h_strength h_haveMet h_deck h_deckSize h_who h_does h_much h_against h_pack h_packSize h_gives h_wants h_tryWho h_tryDoes h_tryMuch h_tryAgainst h_tryLife h_tryShield h_ring h_row v_thrown v_today v_kinds v_stacked v_drafters v_cards v_round v_turn v_high v_ringSize v_many v_strength v_haveMet) → va_S A s.heap H locs → lv_has ls 5 [(0, .ref h), (1, .int l1), (2, .int l2)] → W p l e rmX9_result s m args below meth c H locs 0 0 (MQ below (wQi r0 (wcX9_result cI cJ cZ cG h h_effect h_number h_banned h_has h_life h_shield h_strength h_haveMet h_deck h_deckSize h_who h_does h_much h_against h_pack h_packSize h_gives h_wants h_tryWho h_tryDoes h_tryMuch h_tryAgainst h_tryLife h_tryShield h_ring h_row n_thrown v_today v_kinds v_stacked v_drafters v_cards v_round v_turn v_high v_ringSize v_many n_strength n_haveMet) (dC, dI) A) args s 0 0 A) (F0 m 91 ls [.int s0]) := by
  obtain ⟨hx, hb, hr, hml, hown, hts, hlocks⟩ := id C0
  intro v_thrown v_strength v_haveMet l1 l2 s0 H locs ls hf hP hD hS hl
  unfold fX9_result_b91 at hf
  refine lv_istore (lv' := [(4, .int s0), (0, .ref h), (1, .int l1), (2, .int l2)]) hx hb dX9_result_91 hl (by decide) rfl (fun ls hl => ?_)
  refine lv_aload_n hx hb dX9_result_93 rfl (lv_at hl 1 rfl) ?_
  refine va_get (D := (dC, dI)) (ci := 9) (v := .ref h_strength) (C := RX9) (T := TX9) (N := 37) hx hb hts iX9_result_X9 hown hK hP 0 rfl rfl 9 (by decide) (hts _ mX9_result_0) (fun _ h9 => h9) rfl dX9_result_94 ?_
  refine lv_iload_n hx hb dX9_result_97 rfl (lv_at hl 2 rfl) ?_
  refine lv_dup2_11 hx hb dX9_result_98 rfl rfl ?_
  obtain ⟨hg_1, hf⟩ := ck_s hf
  refine va_iald (D := (dC, dI)) hx hb hK hP 1 0 rfl rfl (g_vp hg_1) dX9_result_99 ?_
  refine lv_iload hx hb dX9_result_100 (lv_at hl 0 rfl) ?_
  refine lv_iadd hx hb dX9_result_102 ?_
  obtain ⟨x_2, ex_2, hf⟩ := nm_s hf
  refine w_eqi ex_2 ?_
  obtain ⟨hg_3, hf⟩ := ck_s hf
  refine va_iast (D := (dC, dI)) hx hb hK hP hD hS 1 0 rfl rfl (g_vp hg_3) dX9_result_103 (fun H locs hP hD hS => ?_)
  have hP : va_P (dC, dI) vwCl (wcX9_result cI cJ cZ cG h h_effect h_number h_banned h_has h_life h_shield h_strength h_haveMet h_deck h_deckSize h_who h_does h_much h_against h_pack h_packSize h_gives h_wants h_tryWho h_tryDoes h_tryMuch h_tryAgainst h_tryLife h_tryShield h_ring h_row v_thrown v_today v_kinds v_stacked v_drafters v_cards v_round v_turn v_high v_ringSize v_many (upd v_strength l1.toNatClampNeg x_2) v_haveMet) H := hP
  have hD : va_D A (wcX9_result cI cJ cZ cG h h_effect h_number h_banned h_has h_life h_shield h_strength h_haveMet h_deck h_deckSize h_who h_does h_much h_against h_pack h_packSize h_gives h_wants h_tryWho h_tryDoes h_tryMuch h_tryAgainst h_tryLife h_tryShield h_ring h_row v_thrown v_today v_kinds v_stacked v_drafters v_cards v_round v_turn v_high v_ringSize v_many (upd v_strength l1.toNatClampNeg x_2) v_haveMet) := hD
  refine lv_aload_n hx hb dX9_result_104 rfl (lv_at hl 1 rfl) ?_
  refine va_get (D := (dC, dI)) (ci := 9) (v := .ref h_strength) (C := RX9) (T := TX9) (N := 37) hx hb hts iX9_result_X9 hown hK hP 0 rfl rfl 9 (by decide) (hts _ mX9_result_0) (fun _ h9 => h9) rfl dX9_result_105 ?_
  refine lv_iload_n hx hb dX9_result_108 rfl (lv_at hl 3 rfl) ?_
  refine lv_dup2_11 hx hb dX9_result_109 rfl rfl ?_
  obtain ⟨hg_4, hf⟩ := ck_s hf
  refine va_iald (D := (dC, dI)) hx hb hK hP 1 0 rfl rfl (g_vp hg_4) dX9_result_110 ?_
  refine lv_iload hx hb dX9_result_111 (lv_at hl 0 rfl) ?_
  refine lv_isub hx hb dX9_result_113 ?_
  obtain ⟨x_5, ex_5, hf⟩ := nm_s hf
  refine w_eqi ex_5 ?_
  obtain ⟨hg_6, hf⟩ := ck_s hf
  refine va_iast (D := (dC, dI)) hx hb hK hP hD hS 1 0 rfl rfl (g_vp hg_6) dX9_result_114 (fun H locs hP hD hS => ?_)
  have hP : va_P (dC, dI) vwCl (wcX9_result cI cJ cZ cG h h_effect h_number h_banned h_has h_life h_shield h_strength h_haveMet h_deck h_deckSize h_who h_does h_much h_against h_pack h_packSize h_gives h_wants h_tryWho h_tryDoes h_tryMuch h_tryAgainst h_tryLife h_tryShield h_ring h_row v_thrown v_today v_kinds v_stacked v_drafters v_cards v_round v_turn v_high v_ringSize v_many (upd (upd v_strength l1.toNatClampNeg x_2) l2.toNatClampNeg x_5) v_haveMet) H := hP
  have hD : va_D A (wcX9_result cI cJ cZ cG h h_effect h_number h_banned h_has h_life h_shield h_strength h_haveMet h_deck h_deckSize h_who h_does h_much h_against h_pack h_packSize h_gives h_wants h_tryWho h_tryDoes h_tryMuch h_tryAgainst h_tryLife h_tryShield h_ring h_row v_thrown v_today v_kinds v_stacked v_drafters v_cards v_round v_turn v_high v_ringSize v_many (upd (upd v_strength l1.toNatClampNeg x_2) l2.toNatClampNeg x_5) v_haveMet) := hD
  refine lv_aload_n hx hb dX9_result_115 rfl (lv_at hl 1 rfl) ?_
  refine va_get (D := (dC, dI)) (ci := 9) (v := .ref h_haveMet) (C := RX9) (T := TX9) (N := 37) hx hb hts iX9_result_X9 hown hK hP 0 rfl rfl 10 (by decide) (hts _ mX9_result_1) (fun _ h9 => h9) rfl dX9_result_116 ?_
  refine lv_bipush (v := 6) hx hb dX9_result_119 (by decide) ?_
  refine lv_iload_n hx hb dX9_result_121 rfl (lv_at hl 2 rfl) ?_
  refine lv_imul hx hb dX9_result_122 ?_
  refine lv_iload_n hx hb dX9_result_123 rfl (lv_at hl 3 rfl) ?_
  refine lv_iadd hx hb dX9_result_124 ?_
  refine lv_iconst (v := 1) hx hb dX9_result_125 (by decide) ?_
  obtain ⟨hg_7, hf⟩ := ck_s hf
  refine va_zast (D := (dC, dI)) hx hb hK hP hD hS 2 2 rfl rfl (g_vp hg_7) dX9_result_126 (fun H locs hP hD hS => ?_)
  rw [wB_v (Or.inr rfl)] at hP hD
  have hP : va_P (dC, dI) vwCl (wcX9_result cI cJ cZ cG h h_effect h_number h_banned h_has h_life h_shield h_strength h_haveMet h_deck h_deckSize h_who h_does h_much h_against h_pack h_packSize h_gives h_wants h_tryWho h_tryDoes h_tryMuch h_tryAgainst h_tryLife h_tryShield h_ring h_row v_thrown v_today v_kinds v_stacked v_drafters v_cards v_round v_turn v_high v_ringSize v_many (upd (upd v_strength l1.toNatClampNeg x_2) l2.toNatClampNeg x_5) (upd v_haveMet ((6 * l1) + l2).toNatClampNeg 1)) H := hP
  have hD : va_D A (wcX9_result cI cJ cZ cG h h_effect h_number h_banned h_has h_life h_shield h_strength h_haveMet h_deck h_deckSize h_who h_does h_much h_against h_pack h_packSize h_gives h_wants h_tryWho h_tryDoes h_tryMuch h_tryAgainst h_tryLife h_tryShield h_ring h_row v_thrown v_today v_kinds v_stacked v_drafters v_cards v_round v_turn v_high v_ringSize v_many (upd (upd v_strength l1.toNatClampNeg x_2) l2.toNatClampNeg x_5) (upd v_haveMet ((6 * l1) + l2).toNatClampNeg 1)) := hD
  refine lv_aload_n hx hb dX9_result_127 rfl (lv_at hl 1 rfl) ?_
  refine va_get (D := (dC, dI)) (ci := 9) (v := .ref h_haveMet) (C := RX9) (T := TX9) (N := 37) hx hb hts iX9_result_X9 hown hK hP 0 rfl rfl 10 (by decide) (hts _ mX9_result_1) (fun _ h9 => h9) rfl dX9_result_128 ?_
  refine lv_bipush (v := 6) hx hb dX9_result_131 (by decide) ?_
  refine lv_iload_n hx hb dX9_result_133 rfl (lv_at hl 3 rfl) ?_
  refine lv_imul hx hb dX9_result_134 ?_
  refine lv_iload_n hx hb dX9_result_135 rfl (lv_at hl 2 rfl) ?_
  refine lv_iadd hx hb dX9_result_136 ?_
  refine lv_iconst (v := 1) hx hb dX9_result_137 (by decide) ?_
  obtain ⟨hg_8, hf⟩ := ck_s hf
  refine va_zast (D := (dC, dI)) hx hb hK hP hD hS 2 2 rfl rfl (g_vp hg_8) dX9_result_138 (fun H locs hP hD hS => ?_)
  rw [wB_v (Or.inr rfl)] at hP hD
  have hP : va_P (dC, dI) vwCl (wcX9_result cI cJ cZ cG h h_effect h_number h_banned h_has h_life h_shield h_strength h_haveMet h_deck h_deckSize h_who h_does h_much h_against h_pack h_packSize h_gives h_wants h_tryWho h_tryDoes h_tryMuch h_tryAgainst h_tryLife h_tryShield h_ring h_row v_thrown v_today v_kinds v_stacked v_drafters v_cards v_round v_turn v_high v_ringSize v_many (upd (upd v_strength l1.toNatClampNeg x_2) l2.toNatClampNeg x_5) (upd (upd v_haveMet ((6 * l1) + l2).toNatClampNeg 1) ((6 * l2) + l1).toNatClampNeg 1)) H := hP
  have hD : va_D A (wcX9_result cI cJ cZ cG h h_effect h_number h_banned h_has h_life h_shield h_strength h_haveMet h_deck h_deckSize h_who h_does h_much h_against h_pack h_packSize h_gives h_wants h_tryWho h_tryDoes h_tryMuch h_tryAgainst h_tryLife h_tryShield h_ring h_row v_thrown v_today v_kinds v_stacked v_drafters v_cards v_round v_turn v_high v_ringSize v_many (upd (upd v_strength l1.toNatClampNeg x_2) l2.toNatClampNeg x_5) (upd (upd v_haveMet ((6 * l1) + l2).toNatClampNeg 1) ((6 * l2) + l1).toNatClampNeg 1)) := hD
  refine lv_iload hx hb dX9_result_139 (lv_at hl 0 rfl) ?_
  have hf : some (s0, v_thrown, (upd (upd v_strength l1.toNatClampNeg x_2) l2.toNatClampNeg x_5), (upd (upd v_haveMet ((6 * l1) + l2).toNatClampNeg 1) ((6 * l2) + l1).toNatClampNeg 1)) = some (r0, n_thrown, n_strength, n_haveMet) := hf
  cases hf
  exact w_iret hx hb hr hlocks rfl hP hD hS dX9_result_141
set_option maxHeartbeats 4000000 in
set_option maxRecDepth 100000 in
theorem kX9_result_39 {p : Program} {l : Launch} {e : Env} {s : State} {m : MethodId} {args : Array Value} {below : List Frame} {meth : Method} {c : Code} {dC : Nat → ClassId} {dI : Nat → Nat → Nat} {A : Nat → Prop} {cI cJ cZ cG : ClassId} {h h_effect h_number h_banned h_has h_life h_shield h_strength h_haveMet h_deck h_deckSize h_who h_does h_much h_against h_pack h_packSize h_gives h_wants h_tryWho h_tryDoes h_tryMuch h_tryAgainst h_tryLife h_tryShield h_ring h_row : Nat} {v_today : Int32} {v_kinds : Int32} {v_stacked : Int32} {v_drafters : Int32} {v_cards : Int32} {v_round : Int32} {v_turn : Int32} {v_high : Int32} {v_ringSize : Int32} {v_many : Int32} {r0 : Int32} {n_thrown : Int32} {n_strength : Nat → Int32} {n_haveMet : Nat → Int32} (C0 : wCX p s args m meth c cX9_result 5 (some .int) RX9 wsX9_result) (hA : ∀ q, s.heap.size ≤ q → A q) (hK : va_K (dC, dI) vwCl (tysW cI cJ cZ cG) s) : ∀ (v_thrown : Int32) (v_strength : Nat → Int32) (v_haveMet : Nat → Int32) (l1 : Int32) (l2 : Int32) (s1 : Int32) (H : Heap) (locs : List Loc) (ls : Array Slot), fX9_result_b39 v_thrown v_strength v_haveMet l1 l2 s1 = some (r0, n_thrown, n_strength, n_haveMet) → va_P (dC, dI) vwCl (wcX9_result cI cJ cZ cG h h_effect h_number h_banned h_has h_life h_shield h_strength h_haveMet h_deck h_deckSize h_who h_does h_much h_against h_pack h_packSize h_gives h_wants h_tryWho h_tryDoes h_tryMuch h_tryAgainst h_tryLife h_tryShield h_ring h_row v_thrown v_today v_kinds v_stacked v_drafters v_cards v_round v_turn v_high v_ringSize v_many v_strength v_haveMet) H → va_D A (wcX9_result cI cJ cZ cG h h_effect h_number h_banned h_has h_life h_shield h_strength h_haveMet h_deck h_deckSize h_who h_does h_much h_against h_pack h_packSize h_gives h_wants h_tryWho h_tryDoes h_tryMuch h_tryAgainst h_tryLife h_tryShield h_ring h_row v_thrown v_today v_kinds v_stacked v_drafters v_cards v_round v_turn v_high v_ringSize v_many v_strength v_haveMet) → va_S A s.heap H locs → lv_has ls 5 [(0, .ref h), (1, .int l1), (2, .int l2)] → W p l e rmX9_result s m args below meth c H locs 0 0 (MQ below (wQi r0 (wcX9_result cI cJ cZ cG h h_effect h_number h_banned h_has h_life h_shield h_strength h_haveMet h_deck h_deckSize h_who h_does h_much h_against h_pack h_packSize h_gives h_wants h_tryWho h_tryDoes h_tryMuch h_tryAgainst h_tryLife h_tryShield h_ring h_row n_thrown v_today v_kinds v_stacked v_drafters v_cards v_round v_turn v_high v_ringSize v_many n_strength n_haveMet) (dC, dI) A) args s 0 0 A) (F0 m 39 ls [.int s1, .ref h]) := by
  obtain ⟨hx, hb, hr, hml, hown, hts, hlocks⟩ := id C0
  intro v_thrown v_strength v_haveMet l1 l2 s1 H locs ls hf hP hD hS hl
  unfold fX9_result_b39 at hf
  obtain ⟨⟨r_1, w_2⟩, hc_3, hf⟩ := ob_s hf
  refine w_callVz (As := [.int s1]) (rest := []) (wr := List.filterMap (fun i : Nat => (wcX9_result cI cJ cZ cG h h_effect h_number h_banned h_has h_life h_shield h_strength h_haveMet h_deck h_deckSize h_who h_does h_much h_against h_pack h_packSize h_gives h_wants h_tryWho h_tryDoes h_tryMuch h_tryAgainst h_tryLife h_tryShield h_ring h_row v_thrown v_today v_kinds v_stacked v_drafters v_cards v_round v_turn v_high v_ringSize v_many v_strength v_haveMet)[i]?) [1, 2]) (ws1 := (wcX9_result cI cJ cZ cG h h_effect h_number h_banned h_has h_life h_shield h_strength h_haveMet h_deck h_deckSize h_who h_does h_much h_against h_pack h_packSize h_gives h_wants h_tryWho h_tryDoes h_tryMuch h_tryAgainst h_tryLife h_tryShield h_ring h_row w_2 v_today v_kinds v_stacked v_drafters v_cards v_round v_turn v_high v_ringSize v_many v_strength v_haveMet)) ⟨hx, hb, hml, hown, hts⟩ (oX9_goesWell l dC dI cI cJ cZ cG h h_effect h_number h_banned h_has h_life h_shield h_strength h_haveMet h_deck h_deckSize h_who h_does h_much h_against h_pack h_packSize h_gives h_wants h_tryWho h_tryDoes h_tryMuch h_tryAgainst h_tryLife h_tryShield h_ring h_row v_thrown v_today v_kinds v_stacked v_drafters v_cards v_round v_turn v_high v_ringSize v_many H.size s1 r_1 w_2 hc_3) (cwV 1 hts gX9_result_X9_goesWell rfl rfl rfl (by decide +kernel) ⟨Nat.le_of_ble_eq_true rfl, Nat.le_of_ble_eq_true rfl⟩) hK 0 9 rfl rfl rfl hP hD hS hA [0] [1, 2] [2, 0, 1] rfl rfl rfl rfl (by decide) rfl rfl rfl hl.1 rfl (Nat.le_of_ble_eq_true rfl) dX9_result_39 ⟨Nat.le_refl _, Nat.le_refl _⟩ (fun hz_4 H locs hP hD hS => ?_)
  refine lv_if_ne (tgt := 47) hx hb dX9_result_42 (by decide) (fun c_5 => ?_) (fun c_5 => ?_)
  · have hf := it_f hf c_5
    refine lv_bipush (v := 16) hx hb dX9_result_47 (by decide) ?_
    refine lv_aload_n hx hb dX9_result_49 rfl (lv_at hl 0 rfl) ?_
    refine va_get (D := (dC, dI)) (ci := 9) (v := .ref h_strength) (C := RX9) (T := TX9) (N := 37) hx hb hts iX9_result_X9 hown hK hP 0 rfl rfl 9 (by decide) (hts _ mX9_result_0) (fun _ h9 => h9) rfl dX9_result_50 ?_
    refine lv_iload_n hx hb dX9_result_53 rfl (lv_at hl 2 rfl) ?_
    obtain ⟨hg_6, hf⟩ := ck_s hf
    refine va_iald (D := (dC, dI)) hx hb hK hP 1 0 rfl rfl (g_vp hg_6) dX9_result_54 ?_
    refine lv_aload_n hx hb dX9_result_55 rfl (lv_at hl 0 rfl) ?_
    refine va_get (D := (dC, dI)) (ci := 9) (v := .ref h_strength) (C := RX9) (T := TX9) (N := 37) hx hb hts iX9_result_X9 hown hK hP 0 rfl rfl 9 (by decide) (hts _ mX9_result_0) (fun _ h9 => h9) rfl dX9_result_56 ?_
    refine lv_iload_n hx hb dX9_result_59 rfl (lv_at hl 1 rfl) ?_
    obtain ⟨hg_7, hf⟩ := ck_s hf
    refine va_iald (D := (dC, dI)) hx hb hK hP 1 0 rfl rfl (g_vp hg_7) dX9_result_60 ?_
    refine lv_isub hx hb dX9_result_61 ?_
    refine lv_iconst (v := 4) hx hb dX9_result_62 (by decide) ?_
    refine lv_idiv hx hb dX9_result_63 (by decide) ?_
    refine lv_iadd hx hb dX9_result_64 ?_
    obtain ⟨x_8, ex_8, hf⟩ := nm_s hf
    refine w_eqi ex_8 ?_
    refine lv_istore (lv' := [(4, .int x_8), (0, .ref h), (1, .int l1), (2, .int l2)]) hx hb dX9_result_65 hl (by decide) rfl (fun ls hl => ?_)
    refine lv_iload hx hb dX9_result_67 (lv_at hl 0 rfl) ?_
    refine lv_iconst (v := 1) hx hb dX9_result_69 (by decide) ?_
    refine lv_icmp_ge (tgt := 77) hx hb dX9_result_70 (by decide) (fun c_9 => ?_) (fun c_9 => ?_)
    · have hf := it_t hf c_9
      refine lv_iload hx hb dX9_result_77 (lv_at hl 0 rfl) ?_
      refine lv_bipush (v := 32) hx hb dX9_result_79 (by decide) ?_
      refine lv_icmp_le (tgt := 89) hx hb dX9_result_81 (by decide) (fun c_10 => ?_) (fun c_10 => ?_)
      · have hf := it_t hf c_10
        refine lv_iload hx hb dX9_result_89 (lv_at hl 0 rfl) ?_
        have hf : fX9_result_b91 w_2 v_strength v_haveMet l1 l2 x_8 = some (r0, n_thrown, n_strength, n_haveMet) := hf
        exact kX9_result_91 C0 hA hK w_2 v_strength v_haveMet l1 l2 x_8 _ _ _ hf hP hD hS (lv_sub hl [1, 2, 3] rfl)
      · have hf := it_f hf c_10
        refine lv_bipush (v := 32) hx hb dX9_result_84 (by decide) ?_
        refine lv_goto (tgt := 91) hx hb dX9_result_86 (by decide) ?_
        have hf : fX9_result_b91 w_2 v_strength v_haveMet l1 l2 32 = some (r0, n_thrown, n_strength, n_haveMet) := hf
        exact kX9_result_91 C0 hA hK w_2 v_strength v_haveMet l1 l2 32 _ _ _ hf hP hD hS (lv_sub hl [1, 2, 3] rfl)
    · have hf := it_f hf c_9
      refine lv_iconst (v := 1) hx hb dX9_result_73 (by decide) ?_
      refine lv_goto (tgt := 91) hx hb dX9_result_74 (by decide) ?_
      have hf : fX9_result_b91 w_2 v_strength v_haveMet l1 l2 1 = some (r0, n_thrown, n_strength, n_haveMet) := hf
      exact kX9_result_91 C0 hA hK w_2 v_strength v_haveMet l1 l2 1 _ _ _ hf hP hD hS (lv_sub hl [1, 2, 3] rfl)
  · have hf := it_t hf c_5
    refine lv_iconst (v := 0) hx hb dX9_result_45 (by decide) ?_
    have hf : some (0, w_2, v_strength, v_haveMet) = some (r0, n_thrown, n_strength, n_haveMet) := hf
    cases hf
    exact w_iret hx hb hr hlocks rfl hP hD hS dX9_result_46
set_option maxHeartbeats 4000000 in
set_option maxRecDepth 100000 in
theorem kX9_result_19 {p : Program} {l : Launch} {e : Env} {s : State} {m : MethodId} {args : Array Value} {below : List Frame} {meth : Method} {c : Code} {dC : Nat → ClassId} {dI : Nat → Nat → Nat} {A : Nat → Prop} {cI cJ cZ cG : ClassId} {h h_effect h_number h_banned h_has h_life h_shield h_strength h_haveMet h_deck h_deckSize h_who h_does h_much h_against h_pack h_packSize h_gives h_wants h_tryWho h_tryDoes h_tryMuch h_tryAgainst h_tryLife h_tryShield h_ring h_row : Nat} {v_today : Int32} {v_kinds : Int32} {v_stacked : Int32} {v_drafters : Int32} {v_cards : Int32} {v_round : Int32} {v_turn : Int32} {v_high : Int32} {v_ringSize : Int32} {v_many : Int32} {r0 : Int32} {n_thrown : Int32} {n_strength : Nat → Int32} {n_haveMet : Nat → Int32} (C0 : wCX p s args m meth c cX9_result 5 (some .int) RX9 wsX9_result) (hA : ∀ q, s.heap.size ≤ q → A q) (hK : va_K (dC, dI) vwCl (tysW cI cJ cZ cG) s) : ∀ (v_thrown : Int32) (v_strength : Nat → Int32) (v_haveMet : Nat → Int32) (l1 : Int32) (l2 : Int32) (s0 : Int32) (hz_s0 : wB s0) (H : Heap) (locs : List Loc) (ls : Array Slot), fX9_result_b19 v_thrown v_strength v_haveMet l1 l2 s0 = some (r0, n_thrown, n_strength, n_haveMet) → va_P (dC, dI) vwCl (wcX9_result cI cJ cZ cG h h_effect h_number h_banned h_has h_life h_shield h_strength h_haveMet h_deck h_deckSize h_who h_does h_much h_against h_pack h_packSize h_gives h_wants h_tryWho h_tryDoes h_tryMuch h_tryAgainst h_tryLife h_tryShield h_ring h_row v_thrown v_today v_kinds v_stacked v_drafters v_cards v_round v_turn v_high v_ringSize v_many v_strength v_haveMet) H → va_D A (wcX9_result cI cJ cZ cG h h_effect h_number h_banned h_has h_life h_shield h_strength h_haveMet h_deck h_deckSize h_who h_does h_much h_against h_pack h_packSize h_gives h_wants h_tryWho h_tryDoes h_tryMuch h_tryAgainst h_tryLife h_tryShield h_ring h_row v_thrown v_today v_kinds v_stacked v_drafters v_cards v_round v_turn v_high v_ringSize v_many v_strength v_haveMet) → va_S A s.heap H locs → lv_has ls 5 [(0, .ref h), (1, .int l1), (2, .int l2)] → W p l e rmX9_result s m args below meth c H locs 0 0 (MQ below (wQi r0 (wcX9_result cI cJ cZ cG h h_effect h_number h_banned h_has h_life h_shield h_strength h_haveMet h_deck h_deckSize h_who h_does h_much h_against h_pack h_packSize h_gives h_wants h_tryWho h_tryDoes h_tryMuch h_tryAgainst h_tryLife h_tryShield h_ring h_row n_thrown v_today v_kinds v_stacked v_drafters v_cards v_round v_turn v_high v_ringSize v_many n_strength n_haveMet) (dC, dI) A) args s 0 0 A) (F0 m 19 ls [.int s0]) := by
  obtain ⟨hx, hb, hr, hml, hown, hts, hlocks⟩ := id C0
  intro v_thrown v_strength v_haveMet l1 l2 s0 hz_s0 H locs ls hf hP hD hS hl
  unfold fX9_result_b19 at hf
  refine lv_istore_n (lv' := [(3, .int s0), (0, .ref h), (1, .int l1), (2, .int l2)]) hx hb dX9_result_19 rfl hl (by decide) rfl (fun ls hl => ?_)
  refine lv_aload_n hx hb dX9_result_20 rfl (lv_at hl 1 rfl) ?_
  refine lv_iload_n hx hb dX9_result_21 rfl (lv_at hl 0 rfl) ?_
  refine lv_if_ne (tgt := 29) hx hb dX9_result_22 (by decide) (fun c_1 => ?_) (fun c_1 => ?_)
  · have hf := it_f hf c_1
    refine lv_iload_n hx hb dX9_result_29 rfl (lv_at hl 2 rfl) ?_
    refine lv_iload_n hx hb dX9_result_30 rfl (lv_at hl 3 rfl) ?_
    refine lv_icmp_ne (tgt := 38) hx hb dX9_result_31 (by decide) (fun c_2 => ?_) (fun c_2 => ?_)
    · have hf := it_f hf c_2
      refine lv_iconst (v := 0) hx hb dX9_result_38 (by decide) ?_
      have hf : fX9_result_b39 v_thrown v_strength v_haveMet l1 l2 0 = some (r0, n_thrown, n_strength, n_haveMet) := hf
      exact kX9_result_39 C0 hA hK v_thrown v_strength v_haveMet l1 l2 0 _ _ _ hf hP hD hS (lv_sub hl [1, 2, 3] rfl)
    · have hf := it_t hf c_2
      refine lv_iconst (v := 2) hx hb dX9_result_34 (by decide) ?_
      refine lv_goto (tgt := 39) hx hb dX9_result_35 (by decide) ?_
      have hf : fX9_result_b39 v_thrown v_strength v_haveMet l1 l2 2 = some (r0, n_thrown, n_strength, n_haveMet) := hf
      exact kX9_result_39 C0 hA hK v_thrown v_strength v_haveMet l1 l2 2 _ _ _ hf hP hD hS (lv_sub hl [1, 2, 3] rfl)
  · have hf := it_t hf c_1
    refine lv_iconst (v := 1) hx hb dX9_result_25 (by decide) ?_
    refine lv_goto (tgt := 39) hx hb dX9_result_26 (by decide) ?_
    have hf : fX9_result_b39 v_thrown v_strength v_haveMet l1 l2 1 = some (r0, n_thrown, n_strength, n_haveMet) := hf
    exact kX9_result_39 C0 hA hK v_thrown v_strength v_haveMet l1 l2 1 _ _ _ hf hP hD hS (lv_sub hl [1, 2, 3] rfl)
set_option maxHeartbeats 4000000 in
set_option maxRecDepth 100000 in
theorem kX9_result_18 {p : Program} {l : Launch} {e : Env} {s : State} {m : MethodId} {args : Array Value} {below : List Frame} {meth : Method} {c : Code} {dC : Nat → ClassId} {dI : Nat → Nat → Nat} {A : Nat → Prop} {cI cJ cZ cG : ClassId} {h h_effect h_number h_banned h_has h_life h_shield h_strength h_haveMet h_deck h_deckSize h_who h_does h_much h_against h_pack h_packSize h_gives h_wants h_tryWho h_tryDoes h_tryMuch h_tryAgainst h_tryLife h_tryShield h_ring h_row : Nat} {v_today : Int32} {v_kinds : Int32} {v_stacked : Int32} {v_drafters : Int32} {v_cards : Int32} {v_round : Int32} {v_turn : Int32} {v_high : Int32} {v_ringSize : Int32} {v_many : Int32} {r0 : Int32} {n_thrown : Int32} {n_strength : Nat → Int32} {n_haveMet : Nat → Int32} (C0 : wCX p s args m meth c cX9_result 5 (some .int) RX9 wsX9_result) (hA : ∀ q, s.heap.size ≤ q → A q) (hK : va_K (dC, dI) vwCl (tysW cI cJ cZ cG) s) : ∀ (v_thrown : Int32) (v_strength : Nat → Int32) (v_haveMet : Nat → Int32) (l1 : Int32) (l2 : Int32) (H : Heap) (locs : List Loc) (ls : Array Slot), fX9_result_b18 v_thrown v_strength v_haveMet l1 l2 = some (r0, n_thrown, n_strength, n_haveMet) → va_P (dC, dI) vwCl (wcX9_result cI cJ cZ cG h h_effect h_number h_banned h_has h_life h_shield h_strength h_haveMet h_deck h_deckSize h_who h_does h_much h_against h_pack h_packSize h_gives h_wants h_tryWho h_tryDoes h_tryMuch h_tryAgainst h_tryLife h_tryShield h_ring h_row v_thrown v_today v_kinds v_stacked v_drafters v_cards v_round v_turn v_high v_ringSize v_many v_strength v_haveMet) H → va_D A (wcX9_result cI cJ cZ cG h h_effect h_number h_banned h_has h_life h_shield h_strength h_haveMet h_deck h_deckSize h_who h_does h_much h_against h_pack h_packSize h_gives h_wants h_tryWho h_tryDoes h_tryMuch h_tryAgainst h_tryLife h_tryShield h_ring h_row v_thrown v_today v_kinds v_stacked v_drafters v_cards v_round v_turn v_high v_ringSize v_many v_strength v_haveMet) → va_S A s.heap H locs → lv_has ls 5 [(0, .ref h), (1, .int l1), (2, .int l2)] → W p l e rmX9_result s m args below meth c H locs 0 0 (MQ below (wQi r0 (wcX9_result cI cJ cZ cG h h_effect h_number h_banned h_has h_life h_shield h_strength h_haveMet h_deck h_deckSize h_who h_does h_much h_against h_pack h_packSize h_gives h_wants h_tryWho h_tryDoes h_tryMuch h_tryAgainst h_tryLife h_tryShield h_ring h_row n_thrown v_today v_kinds v_stacked v_drafters v_cards v_round v_turn v_high v_ringSize v_many n_strength n_haveMet) (dC, dI) A) args s 0 0 A) (F0 m 18 ls []) := by
  obtain ⟨hx, hb, hr, hml, hown, hts, hlocks⟩ := id C0
  intro v_thrown v_strength v_haveMet l1 l2 H locs ls hf hP hD hS hl
  unfold fX9_result_b18 at hf
  refine lv_iconst (v := 0) hx hb dX9_result_18 (by decide) ?_
  have hf : fX9_result_b19 v_thrown v_strength v_haveMet l1 l2 0 = some (r0, n_thrown, n_strength, n_haveMet) := hf
  exact kX9_result_19 C0 hA hK v_thrown v_strength v_haveMet l1 l2 0 (Or.inl rfl) _ _ _ hf hP hD hS (lv_sub hl [0, 1, 2] rfl)
set_option maxHeartbeats 4000000 in
set_option maxRecDepth 100000 in
theorem oX9_result (l : Launch) (dC : Nat → ClassId) (dI : Nat → Nat → Nat) (cI cJ cZ cG : ClassId) (h h_effect h_number h_banned h_has h_life h_shield h_strength h_haveMet h_deck h_deckSize h_who h_does h_much h_against h_pack h_packSize h_gives h_wants h_tryWho h_tryDoes h_tryMuch h_tryAgainst h_tryLife h_tryShield h_ring h_row : Nat) (v_thrown : Int32) (v_today : Int32) (v_kinds : Int32) (v_stacked : Int32) (v_drafters : Int32) (v_cards : Int32) (v_round : Int32) (v_turn : Int32) (v_high : Int32) (v_ringSize : Int32) (v_many : Int32) (v_strength : Nat → Int32) (v_haveMet : Nat → Int32) (sz : Nat) (p1 : Int32) (p2 : Int32) (r0 : Int32) (n_thrown : Int32) (n_strength : Nat → Int32) (n_haveMet : Nat → Int32) (hf : fX9_result v_thrown v_strength v_haveMet p1 p2 = some (r0, n_thrown, n_strength, n_haveMet)) : Met l yX9_result wsX9_result rmX9_result (wPc [.ref h, .int p1, .int p2] (dC, dI) (tysW cI cJ cZ cG) sz (wcX9_result cI cJ cZ cG h h_effect h_number h_banned h_has h_life h_shield h_strength h_haveMet h_deck h_deckSize h_who h_does h_much h_against h_pack h_packSize h_gives h_wants h_tryWho h_tryDoes h_tryMuch h_tryAgainst h_tryLife h_tryShield h_ring h_row v_thrown v_today v_kinds v_stacked v_drafters v_cards v_round v_turn v_high v_ringSize v_many v_strength v_haveMet)) (wQi r0 (wcX9_result cI cJ cZ cG h h_effect h_number h_banned h_has h_life h_shield h_strength h_haveMet h_deck h_deckSize h_who h_does h_much h_against h_pack h_packSize h_gives h_wants h_tryWho h_tryDoes h_tryMuch h_tryAgainst h_tryLife h_tryShield h_ring h_row n_thrown v_today v_kinds v_stacked v_drafters v_cards v_round v_turn v_high v_ringSize v_many n_strength n_haveMet) (dC, dI) (va_A (wcX9_result cI cJ cZ cG h h_effect h_number h_banned h_has h_life h_shield h_strength h_haveMet h_deck h_deckSize h_who h_does h_much h_against h_pack h_packSize h_gives h_wants h_tryWho h_tryDoes h_tryMuch h_tryAgainst h_tryLife h_tryShield h_ring h_row v_thrown v_today v_kinds v_stacked v_drafters v_cards v_round v_turn v_high v_ringSize v_many v_strength v_haveMet) sz)) 0 0 (va_A (wcX9_result cI cJ cZ cG h h_effect h_number h_banned h_has h_life h_shield h_strength h_haveMet h_deck h_deckSize h_who h_does h_much h_against h_pack h_packSize h_gives h_wants h_tryWho h_tryDoes h_tryMuch h_tryAgainst h_tryLife h_tryShield h_ring h_row v_thrown v_today v_kinds v_stacked v_drafters v_cards v_round v_turn v_high v_ringSize v_many v_strength v_haveMet) sz) := by
  refine Met.ofW (cc := cX9_result) (maxL := 5) (ret := (some .int)) (by decide) rfl ?_
  intro p e s m args below meth c s₁ B hml hv
  obtain ⟨rfl, hsz, hP, hK, hD0⟩ := hv
  have hx := B.exec
  have hb := B.bytes
  have hr := B.returns
  have hts := atoms_spec (ws := wsX9_result) B.pre
  have hown : s.vm.findClass RX9 = some m.cls := findClass_of_methodNamed B.named
  have hlocks := B.notSynchronized
  subst hsz
  have hD := hD0.self (sz := s.heap.size)
  generalize hAe : va_A (wcX9_result cI cJ cZ cG h h_effect h_number h_banned h_has h_life h_shield h_strength h_haveMet h_deck h_deckSize h_who h_does h_much h_against h_pack h_packSize h_gives h_wants h_tryWho h_tryDoes h_tryMuch h_tryAgainst h_tryLife h_tryShield h_ring h_row v_thrown v_today v_kinds v_stacked v_drafters v_cards v_round v_turn v_high v_ringSize v_many v_strength v_haveMet) s.heap.size = A at hD ⊢
  have hA : ∀ q : Nat, s.heap.size ≤ q → A q := fun q h => by rw [← hAe]; exact Or.inr h
  have hS : va_S A s.heap s.heap [] := va_S.rf
  have hP : va_P (dC, dI) vwCl (wcX9_result cI cJ cZ cG h h_effect h_number h_banned h_has h_life h_shield h_strength h_haveMet h_deck h_deckSize h_who h_does h_much h_against h_pack h_packSize h_gives h_wants h_tryWho h_tryDoes h_tryMuch h_tryAgainst h_tryLife h_tryShield h_ring h_row v_thrown v_today v_kinds v_stacked v_drafters v_cards v_round v_turn v_high v_ringSize v_many v_strength v_haveMet) s.heap := hP
  have hl := lv_entry ([.ref h, .int p1, .int p2]) (n := 5) (Nat.le_of_ble_eq_true rfl)
  rw [lg_entry_eq]
  generalize (lg_sl ([.ref h, .int p1, .int p2]) ++ List.replicate (5 - (lg_sl ([.ref h, .int p1, .int p2])).length) Slot.unset).toArray = ls at hl ⊢
  have hl : lv_has ls 5 [(0, .ref h), (1, .int p1), (2, .int p2)] := hl
  generalize hH : s.heap = H at hP hS ⊢
  have hS : va_S A s.heap H [] := by rw [hH]; exact hS
  have C0 : wCX p s #[.ref h, .int p1, .int p2] m meth c cX9_result 5 (some .int) RX9 wsX9_result := ⟨hx, hb, hr, hml, hown, hts, hlocks⟩
  show W p l e rmX9_result s m #[.ref h, .int p1, .int p2] below meth c H [] 0 0 (MQ below (wQi r0 (wcX9_result cI cJ cZ cG h h_effect h_number h_banned h_has h_life h_shield h_strength h_haveMet h_deck h_deckSize h_who h_does h_much h_against h_pack h_packSize h_gives h_wants h_tryWho h_tryDoes h_tryMuch h_tryAgainst h_tryLife h_tryShield h_ring h_row n_thrown v_today v_kinds v_stacked v_drafters v_cards v_round v_turn v_high v_ringSize v_many n_strength n_haveMet) (dC, dI) A) #[.ref h, .int p1, .int p2] s 0 0 A) (F0 m 0 ls [])
  unfold fX9_result at hf
  refine lv_iload_n hx hb dX9_result_0 rfl (lv_at hl 1 rfl) ?_
  obtain ⟨r_1, hc_2, hf⟩ := ob_s hf
  refine w_callSz (As := [.int p1]) (rest := []) ⟨hx, hb, hml, hown, hts⟩ (oX9_isPlayer l dC dI cI cJ cZ cG H.size p1 r_1 hc_2) (va_cwS 1 hts gX9_result_X9_isPlayer rfl rfl rfl (by decide +kernel) ⟨Nat.le_of_ble_eq_true rfl, Nat.le_of_ble_eq_true rfl⟩) hK hP hS hA rfl hl.1 rfl (Nat.le_of_ble_eq_true rfl) dX9_result_1 ⟨Nat.le_refl _, Nat.le_refl _⟩ (fun hz_3 H locs hP hS => ?_)
  refine lv_if_eq (tgt := 18) hx hb dX9_result_4 (by decide) (fun c_4 => ?_) (fun c_4 => ?_)
  · have hf := it_t hf c_4
    have hf : fX9_result_b18 v_thrown v_strength v_haveMet p1 p2 = some (r0, n_thrown, n_strength, n_haveMet) := hf
    exact kX9_result_18 C0 hA hK v_thrown v_strength v_haveMet p1 p2 _ _ _ hf hP hD hS (lv_sub hl [0, 1, 2] rfl)
  · have hf := it_f hf c_4
    refine lv_iload_n hx hb dX9_result_7 rfl (lv_at hl 2 rfl) ?_
    obtain ⟨r_5, hc_6, hf⟩ := ob_s hf
    refine w_callSz (As := [.int p2]) (rest := []) ⟨hx, hb, hml, hown, hts⟩ (oX9_isPlayer l dC dI cI cJ cZ cG H.size p2 r_5 hc_6) (va_cwS 1 hts gX9_result_X9_isPlayer rfl rfl rfl (by decide +kernel) ⟨Nat.le_of_ble_eq_true rfl, Nat.le_of_ble_eq_true rfl⟩) hK hP hS hA rfl hl.1 rfl (Nat.le_of_ble_eq_true rfl) dX9_result_8 ⟨Nat.le_refl _, Nat.le_refl _⟩ (fun hz_7 H locs hP hS => ?_)
    refine lv_if_eq (tgt := 18) hx hb dX9_result_11 (by decide) (fun c_8 => ?_) (fun c_8 => ?_)
    · have hf := it_t hf c_8
      have hf : fX9_result_b18 v_thrown v_strength v_haveMet p1 p2 = some (r0, n_thrown, n_strength, n_haveMet) := hf
      exact kX9_result_18 C0 hA hK v_thrown v_strength v_haveMet p1 p2 _ _ _ hf hP hD hS (lv_sub hl [0, 1, 2] rfl)
    · have hf := it_f hf c_8
      refine lv_iconst (v := 1) hx hb dX9_result_14 (by decide) ?_
      refine lv_goto (tgt := 19) hx hb dX9_result_15 (by decide) ?_
      have hf : fX9_result_b19 v_thrown v_strength v_haveMet p1 p2 1 = some (r0, n_thrown, n_strength, n_haveMet) := hf
      exact kX9_result_19 C0 hA hK v_thrown v_strength v_haveMet p1 p2 1 (Or.inr rfl) _ _ _ hf hP hD hS (lv_sub hl [0, 1, 2] rfl)
abbrev wcX9_has (cI cJ cZ cG : ClassId) (h h_effect h_number h_banned h_has h_life h_shield h_strength h_haveMet h_deck h_deckSize h_who h_does h_much h_against h_pack h_packSize h_gives h_wants h_tryWho h_tryDoes h_tryMuch h_tryAgainst h_tryLife h_tryShield h_ring h_row : Nat) (v_thrown : Int32) (v_today : Int32) (v_kinds : Int32) (v_stacked : Int32) (v_drafters : Int32) (v_cards : Int32) (v_round : Int32) (v_turn : Int32) (v_high : Int32) (v_ringSize : Int32) (v_many : Int32) (v_has : Nat → Int32) : va_W := [(h, .inr (9, [.int v_thrown, .int v_today, .int v_kinds, .ref h_effect, .ref h_number, .ref h_banned, .ref h_has, .ref h_life, .ref h_shield, .ref h_strength, .ref h_haveMet, .ref h_deck, .ref h_deckSize, .int v_stacked, .ref h_who, .ref h_does, .ref h_much, .ref h_against, .int v_drafters, .int v_cards, .int v_round, .int v_turn, .ref h_pack, .ref h_packSize, .ref h_gives, .ref h_wants, .int v_high, .ref h_tryWho, .ref h_tryDoes, .ref h_tryMuch, .ref h_tryAgainst, .ref h_tryLife, .ref h_tryShield, .int v_ringSize, .ref h_ring, .int v_many, .ref h_row])), (h_has, .inl (cI, 120, .inl v_has))]
theorem iX9_has_X9 : ∀ w ∈ wsX90, w ∈ wsX9_has := by decide +kernel
theorem mX9_has_0 : (Cond.fieldLink RX9 19 "SleevehallModel" "has" "[I") ∈ wsX9_has := by decide +kernel
abbrev rmX9_has : Room := { frames := 2, cells := 0, slots := 0, locals := 43 }
set_option maxHeartbeats 4000000 in
set_option maxRecDepth 100000 in
theorem kX9_has_42 {p : Program} {l : Launch} {e : Env} {s : State} {m : MethodId} {args : Array Value} {below : List Frame} {meth : Method} {c : Code} {dC : Nat → ClassId} {dI : Nat → Nat → Nat} {A : Nat → Prop} {cI cJ cZ cG : ClassId} {h h_effect h_number h_banned h_has h_life h_shield h_strength h_haveMet h_deck h_deckSize h_who h_does h_much h_against h_pack h_packSize h_gives h_wants h_tryWho h_tryDoes h_tryMuch h_tryAgainst h_tryLife h_tryShield h_ring h_row : Nat} {v_today : Int32} {v_kinds : Int32} {v_stacked : Int32} {v_drafters : Int32} {v_cards : Int32} {v_round : Int32} {v_turn : Int32} {v_high : Int32} {v_ringSize : Int32} {v_many : Int32} {v_has : Nat → Int32} {r0 : Int32} {n_thrown : Int32} (C0 : wCX p s args m meth c cX9_has 3 (some .int) RX9 wsX9_has) (hA : ∀ q, s.heap.size ≤ q → A q) (hK : va_K (dC, dI) vwCl (tysW cI cJ cZ cG) s) : ∀ (v_thrown : Int32) (s0 : Int32) (H : Heap) (locs : List Loc) (ls : Array Slot), fX9_has_b42 v_kinds v_has v_thrown s0 = some (r0, n_thrown) → va_P (dC, dI) vwCl (wcX9_has cI cJ cZ cG h h_effect h_number h_banned h_has h_life h_shield h_strength h_haveMet h_deck h_deckSize h_who h_does h_much h_against h_pack h_packSize h_gives h_wants h_tryWho h_tryDoes h_tryMuch h_tryAgainst h_tryLife h_tryShield h_ring h_row v_thrown v_today v_kinds v_stacked v_drafters v_cards v_round v_turn v_high v_ringSize v_many v_has) H → va_D A (wcX9_has cI cJ cZ cG h h_effect h_number h_banned h_has h_life h_shield h_strength h_haveMet h_deck h_deckSize h_who h_does h_much h_against h_pack h_packSize h_gives h_wants h_tryWho h_tryDoes h_tryMuch h_tryAgainst h_tryLife h_tryShield h_ring h_row v_thrown v_today v_kinds v_stacked v_drafters v_cards v_round v_turn v_high v_ringSize v_many v_has) → va_S A s.heap H locs → lv_has ls 3 [] → W p l e rmX9_has s m args below meth c H locs 0 0 (MQ below (wQi r0 (wcX9_has cI cJ cZ cG h h_effect h_number h_banned h_has h_life h_shield h_strength h_haveMet h_deck h_deckSize h_who h_does h_much h_against h_pack h_packSize h_gives h_wants h_tryWho h_tryDoes h_tryMuch h_tryAgainst h_tryLife h_tryShield h_ring h_row n_thrown v_today v_kinds v_stacked v_drafters v_cards v_round v_turn v_high v_ringSize v_many v_has) (dC, dI) A) args s 0 0 A) (F0 m 42 ls [.int s0]) := by
  obtain ⟨hx, hb, hr, hml, hown, hts, hlocks⟩ := id C0
  intro v_thrown s0 H locs ls hf hP hD hS hl
  unfold fX9_has_b42 at hf
  have hf : some (s0, v_thrown) = some (r0, n_thrown) := hf
  cases hf
  exact w_iret hx hb hr hlocks rfl hP hD hS dX9_has_42
set_option maxHeartbeats 4000000 in
set_option maxRecDepth 100000 in
theorem kX9_has_21 {p : Program} {l : Launch} {e : Env} {s : State} {m : MethodId} {args : Array Value} {below : List Frame} {meth : Method} {c : Code} {dC : Nat → ClassId} {dI : Nat → Nat → Nat} {A : Nat → Prop} {cI cJ cZ cG : ClassId} {h h_effect h_number h_banned h_has h_life h_shield h_strength h_haveMet h_deck h_deckSize h_who h_does h_much h_against h_pack h_packSize h_gives h_wants h_tryWho h_tryDoes h_tryMuch h_tryAgainst h_tryLife h_tryShield h_ring h_row : Nat} {v_today : Int32} {v_kinds : Int32} {v_stacked : Int32} {v_drafters : Int32} {v_cards : Int32} {v_round : Int32} {v_turn : Int32} {v_high : Int32} {v_ringSize : Int32} {v_many : Int32} {v_has : Nat → Int32} {r0 : Int32} {n_thrown : Int32} (C0 : wCX p s args m meth c cX9_has 3 (some .int) RX9 wsX9_has) (hA : ∀ q, s.heap.size ≤ q → A q) (hK : va_K (dC, dI) vwCl (tysW cI cJ cZ cG) s) : ∀ (v_thrown : Int32) (l1 : Int32) (l2 : Int32) (s1 : Int32) (hz_s1 : wB s1) (H : Heap) (locs : List Loc) (ls : Array Slot), fX9_has_b21 v_kinds v_has v_thrown l1 l2 s1 = some (r0, n_thrown) → va_P (dC, dI) vwCl (wcX9_has cI cJ cZ cG h h_effect h_number h_banned h_has h_life h_shield h_strength h_haveMet h_deck h_deckSize h_who h_does h_much h_against h_pack h_packSize h_gives h_wants h_tryWho h_tryDoes h_tryMuch h_tryAgainst h_tryLife h_tryShield h_ring h_row v_thrown v_today v_kinds v_stacked v_drafters v_cards v_round v_turn v_high v_ringSize v_many v_has) H → va_D A (wcX9_has cI cJ cZ cG h h_effect h_number h_banned h_has h_life h_shield h_strength h_haveMet h_deck h_deckSize h_who h_does h_much h_against h_pack h_packSize h_gives h_wants h_tryWho h_tryDoes h_tryMuch h_tryAgainst h_tryLife h_tryShield h_ring h_row v_thrown v_today v_kinds v_stacked v_drafters v_cards v_round v_turn v_high v_ringSize v_many v_has) → va_S A s.heap H locs → lv_has ls 3 [(0, .ref h), (1, .int l1), (2, .int l2)] → W p l e rmX9_has s m args below meth c H locs 0 0 (MQ below (wQi r0 (wcX9_has cI cJ cZ cG h h_effect h_number h_banned h_has h_life h_shield h_strength h_haveMet h_deck h_deckSize h_who h_does h_much h_against h_pack h_packSize h_gives h_wants h_tryWho h_tryDoes h_tryMuch h_tryAgainst h_tryLife h_tryShield h_ring h_row n_thrown v_today v_kinds v_stacked v_drafters v_cards v_round v_turn v_high v_ringSize v_many v_has) (dC, dI) A) args s 0 0 A) (F0 m 21 ls [.int s1, .ref h]) := by
  obtain ⟨hx, hb, hr, hml, hown, hts, hlocks⟩ := id C0
  intro v_thrown l1 l2 s1 hz_s1 H locs ls hf hP hD hS hl
  unfold fX9_has_b21 at hf
  obtain ⟨⟨r_1, w_2⟩, hc_3, hf⟩ := ob_s hf
  refine w_callVz (As := [.int s1]) (rest := []) (wr := List.filterMap (fun i : Nat => (wcX9_has cI cJ cZ cG h h_effect h_number h_banned h_has h_life h_shield h_strength h_haveMet h_deck h_deckSize h_who h_does h_much h_against h_pack h_packSize h_gives h_wants h_tryWho h_tryDoes h_tryMuch h_tryAgainst h_tryLife h_tryShield h_ring h_row v_thrown v_today v_kinds v_stacked v_drafters v_cards v_round v_turn v_high v_ringSize v_many v_has)[i]?) [1]) (ws1 := (wcX9_has cI cJ cZ cG h h_effect h_number h_banned h_has h_life h_shield h_strength h_haveMet h_deck h_deckSize h_who h_does h_much h_against h_pack h_packSize h_gives h_wants h_tryWho h_tryDoes h_tryMuch h_tryAgainst h_tryLife h_tryShield h_ring h_row w_2 v_today v_kinds v_stacked v_drafters v_cards v_round v_turn v_high v_ringSize v_many v_has)) ⟨hx, hb, hml, hown, hts⟩ (oX9_goesWell l dC dI cI cJ cZ cG h h_effect h_number h_banned h_has h_life h_shield h_strength h_haveMet h_deck h_deckSize h_who h_does h_much h_against h_pack h_packSize h_gives h_wants h_tryWho h_tryDoes h_tryMuch h_tryAgainst h_tryLife h_tryShield h_ring h_row v_thrown v_today v_kinds v_stacked v_drafters v_cards v_round v_turn v_high v_ringSize v_many H.size s1 r_1 w_2 hc_3) (cwV 1 hts gX9_has_X9_goesWell rfl rfl rfl (by decide +kernel) ⟨Nat.le_of_ble_eq_true rfl, Nat.le_of_ble_eq_true rfl⟩) hK 0 9 rfl rfl rfl hP hD hS hA [0] [1] [1, 0] rfl rfl rfl rfl (by decide) rfl rfl rfl hl.1 rfl (Nat.le_of_ble_eq_true rfl) dX9_has_21 ⟨Nat.le_refl _, Nat.le_refl _⟩ (fun hz_4 H locs hP hD hS => ?_)
  refine lv_if_eq (tgt := 41) hx hb dX9_has_24 (by decide) (fun c_5 => ?_) (fun c_5 => ?_)
  · have hf := it_t hf c_5
    refine lv_iconst (v := 0) hx hb dX9_has_41 (by decide) ?_
    have hf : fX9_has_b42 v_kinds v_has w_2 0 = some (r0, n_thrown) := hf
    exact kX9_has_42 C0 hA hK w_2 0 _ _ _ hf hP hD hS (lv_sub hl [] rfl)
  · have hf := it_f hf c_5
    refine lv_aload_n hx hb dX9_has_27 rfl (lv_at hl 0 rfl) ?_
    refine va_get (D := (dC, dI)) (ci := 9) (v := .ref h_has) (C := RX9) (T := TX9) (N := 37) hx hb hts iX9_has_X9 hown hK hP 0 rfl rfl 6 (by decide) (hts _ mX9_has_0) (fun _ h9 => h9) rfl dX9_has_28 ?_
    refine lv_bipush (v := 20) hx hb dX9_has_31 (by decide) ?_
    refine lv_iload_n hx hb dX9_has_33 rfl (lv_at hl 1 rfl) ?_
    refine lv_imul hx hb dX9_has_34 ?_
    refine lv_iload_n hx hb dX9_has_35 rfl (lv_at hl 2 rfl) ?_
    refine lv_iadd hx hb dX9_has_36 ?_
    obtain ⟨hg_6, hf⟩ := ck_s hf
    refine va_iald (D := (dC, dI)) hx hb hK hP 1 0 rfl rfl (g_vp hg_6) dX9_has_37 ?_
    refine lv_goto (tgt := 42) hx hb dX9_has_38 (by decide) ?_
    have hf : fX9_has_b42 v_kinds v_has w_2 (v_has ((20 * l1) + l2).toNatClampNeg) = some (r0, n_thrown) := hf
    exact kX9_has_42 C0 hA hK w_2 (v_has ((20 * l1) + l2).toNatClampNeg) _ _ _ hf hP hD hS (lv_sub hl [] rfl)
set_option maxHeartbeats 4000000 in
set_option maxRecDepth 100000 in
theorem kX9_has_20 {p : Program} {l : Launch} {e : Env} {s : State} {m : MethodId} {args : Array Value} {below : List Frame} {meth : Method} {c : Code} {dC : Nat → ClassId} {dI : Nat → Nat → Nat} {A : Nat → Prop} {cI cJ cZ cG : ClassId} {h h_effect h_number h_banned h_has h_life h_shield h_strength h_haveMet h_deck h_deckSize h_who h_does h_much h_against h_pack h_packSize h_gives h_wants h_tryWho h_tryDoes h_tryMuch h_tryAgainst h_tryLife h_tryShield h_ring h_row : Nat} {v_today : Int32} {v_kinds : Int32} {v_stacked : Int32} {v_drafters : Int32} {v_cards : Int32} {v_round : Int32} {v_turn : Int32} {v_high : Int32} {v_ringSize : Int32} {v_many : Int32} {v_has : Nat → Int32} {r0 : Int32} {n_thrown : Int32} (C0 : wCX p s args m meth c cX9_has 3 (some .int) RX9 wsX9_has) (hA : ∀ q, s.heap.size ≤ q → A q) (hK : va_K (dC, dI) vwCl (tysW cI cJ cZ cG) s) : ∀ (v_thrown : Int32) (l1 : Int32) (l2 : Int32) (H : Heap) (locs : List Loc) (ls : Array Slot), fX9_has_b20 v_kinds v_has v_thrown l1 l2 = some (r0, n_thrown) → va_P (dC, dI) vwCl (wcX9_has cI cJ cZ cG h h_effect h_number h_banned h_has h_life h_shield h_strength h_haveMet h_deck h_deckSize h_who h_does h_much h_against h_pack h_packSize h_gives h_wants h_tryWho h_tryDoes h_tryMuch h_tryAgainst h_tryLife h_tryShield h_ring h_row v_thrown v_today v_kinds v_stacked v_drafters v_cards v_round v_turn v_high v_ringSize v_many v_has) H → va_D A (wcX9_has cI cJ cZ cG h h_effect h_number h_banned h_has h_life h_shield h_strength h_haveMet h_deck h_deckSize h_who h_does h_much h_against h_pack h_packSize h_gives h_wants h_tryWho h_tryDoes h_tryMuch h_tryAgainst h_tryLife h_tryShield h_ring h_row v_thrown v_today v_kinds v_stacked v_drafters v_cards v_round v_turn v_high v_ringSize v_many v_has) → va_S A s.heap H locs → lv_has ls 3 [(0, .ref h), (1, .int l1), (2, .int l2)] → W p l e rmX9_has s m args below meth c H locs 0 0 (MQ below (wQi r0 (wcX9_has cI cJ cZ cG h h_effect h_number h_banned h_has h_life h_shield h_strength h_haveMet h_deck h_deckSize h_who h_does h_much h_against h_pack h_packSize h_gives h_wants h_tryWho h_tryDoes h_tryMuch h_tryAgainst h_tryLife h_tryShield h_ring h_row n_thrown v_today v_kinds v_stacked v_drafters v_cards v_round v_turn v_high v_ringSize v_many v_has) (dC, dI) A) args s 0 0 A) (F0 m 20 ls [.ref h]) := by
  obtain ⟨hx, hb, hr, hml, hown, hts, hlocks⟩ := id C0
  intro v_thrown l1 l2 H locs ls hf hP hD hS hl
  unfold fX9_has_b20 at hf
  refine lv_iconst (v := 1) hx hb dX9_has_20 (by decide) ?_
  have hf : fX9_has_b21 v_kinds v_has v_thrown l1 l2 1 = some (r0, n_thrown) := hf
  exact kX9_has_21 C0 hA hK v_thrown l1 l2 1 (Or.inr rfl) _ _ _ hf hP hD hS (lv_sub hl [0, 1, 2] rfl)
set_option maxHeartbeats 4000000 in
set_option maxRecDepth 100000 in
theorem oX9_has (l : Launch) (dC : Nat → ClassId) (dI : Nat → Nat → Nat) (cI cJ cZ cG : ClassId) (h h_effect h_number h_banned h_has h_life h_shield h_strength h_haveMet h_deck h_deckSize h_who h_does h_much h_against h_pack h_packSize h_gives h_wants h_tryWho h_tryDoes h_tryMuch h_tryAgainst h_tryLife h_tryShield h_ring h_row : Nat) (v_thrown : Int32) (v_today : Int32) (v_kinds : Int32) (v_stacked : Int32) (v_drafters : Int32) (v_cards : Int32) (v_round : Int32) (v_turn : Int32) (v_high : Int32) (v_ringSize : Int32) (v_many : Int32) (v_has : Nat → Int32) (sz : Nat) (p1 : Int32) (p2 : Int32) (r0 : Int32) (n_thrown : Int32) (hf : fX9_has v_thrown v_kinds v_has p1 p2 = some (r0, n_thrown)) : Met l yX9_has wsX9_has rmX9_has (wPc [.ref h, .int p1, .int p2] (dC, dI) (tysW cI cJ cZ cG) sz (wcX9_has cI cJ cZ cG h h_effect h_number h_banned h_has h_life h_shield h_strength h_haveMet h_deck h_deckSize h_who h_does h_much h_against h_pack h_packSize h_gives h_wants h_tryWho h_tryDoes h_tryMuch h_tryAgainst h_tryLife h_tryShield h_ring h_row v_thrown v_today v_kinds v_stacked v_drafters v_cards v_round v_turn v_high v_ringSize v_many v_has)) (wQi r0 (wcX9_has cI cJ cZ cG h h_effect h_number h_banned h_has h_life h_shield h_strength h_haveMet h_deck h_deckSize h_who h_does h_much h_against h_pack h_packSize h_gives h_wants h_tryWho h_tryDoes h_tryMuch h_tryAgainst h_tryLife h_tryShield h_ring h_row n_thrown v_today v_kinds v_stacked v_drafters v_cards v_round v_turn v_high v_ringSize v_many v_has) (dC, dI) (va_A (wcX9_has cI cJ cZ cG h h_effect h_number h_banned h_has h_life h_shield h_strength h_haveMet h_deck h_deckSize h_who h_does h_much h_against h_pack h_packSize h_gives h_wants h_tryWho h_tryDoes h_tryMuch h_tryAgainst h_tryLife h_tryShield h_ring h_row v_thrown v_today v_kinds v_stacked v_drafters v_cards v_round v_turn v_high v_ringSize v_many v_has) sz)) 0 0 (va_A (wcX9_has cI cJ cZ cG h h_effect h_number h_banned h_has h_life h_shield h_strength h_haveMet h_deck h_deckSize h_who h_does h_much h_against h_pack h_packSize h_gives h_wants h_tryWho h_tryDoes h_tryMuch h_tryAgainst h_tryLife h_tryShield h_ring h_row v_thrown v_today v_kinds v_stacked v_drafters v_cards v_round v_turn v_high v_ringSize v_many v_has) sz) := by
  refine Met.ofW (cc := cX9_has) (maxL := 3) (ret := (some .int)) (by decide) rfl ?_
  intro p e s m args below meth c s₁ B hml hv
  obtain ⟨rfl, hsz, hP, hK, hD0⟩ := hv
  have hx := B.exec
  have hb := B.bytes
  have hr := B.returns
  have hts := atoms_spec (ws := wsX9_has) B.pre
  have hown : s.vm.findClass RX9 = some m.cls := findClass_of_methodNamed B.named
  have hlocks := B.notSynchronized
  subst hsz
  have hD := hD0.self (sz := s.heap.size)
  generalize hAe : va_A (wcX9_has cI cJ cZ cG h h_effect h_number h_banned h_has h_life h_shield h_strength h_haveMet h_deck h_deckSize h_who h_does h_much h_against h_pack h_packSize h_gives h_wants h_tryWho h_tryDoes h_tryMuch h_tryAgainst h_tryLife h_tryShield h_ring h_row v_thrown v_today v_kinds v_stacked v_drafters v_cards v_round v_turn v_high v_ringSize v_many v_has) s.heap.size = A at hD ⊢
  have hA : ∀ q : Nat, s.heap.size ≤ q → A q := fun q h => by rw [← hAe]; exact Or.inr h
  have hS : va_S A s.heap s.heap [] := va_S.rf
  have hP : va_P (dC, dI) vwCl (wcX9_has cI cJ cZ cG h h_effect h_number h_banned h_has h_life h_shield h_strength h_haveMet h_deck h_deckSize h_who h_does h_much h_against h_pack h_packSize h_gives h_wants h_tryWho h_tryDoes h_tryMuch h_tryAgainst h_tryLife h_tryShield h_ring h_row v_thrown v_today v_kinds v_stacked v_drafters v_cards v_round v_turn v_high v_ringSize v_many v_has) s.heap := hP
  have hl := lv_entry ([.ref h, .int p1, .int p2]) (n := 3) (Nat.le_of_ble_eq_true rfl)
  rw [lg_entry_eq]
  generalize (lg_sl ([.ref h, .int p1, .int p2]) ++ List.replicate (3 - (lg_sl ([.ref h, .int p1, .int p2])).length) Slot.unset).toArray = ls at hl ⊢
  have hl : lv_has ls 3 [(0, .ref h), (1, .int p1), (2, .int p2)] := hl
  generalize hH : s.heap = H at hP hS ⊢
  have hS : va_S A s.heap H [] := by rw [hH]; exact hS
  have C0 : wCX p s #[.ref h, .int p1, .int p2] m meth c cX9_has 3 (some .int) RX9 wsX9_has := ⟨hx, hb, hr, hml, hown, hts, hlocks⟩
  show W p l e rmX9_has s m #[.ref h, .int p1, .int p2] below meth c H [] 0 0 (MQ below (wQi r0 (wcX9_has cI cJ cZ cG h h_effect h_number h_banned h_has h_life h_shield h_strength h_haveMet h_deck h_deckSize h_who h_does h_much h_against h_pack h_packSize h_gives h_wants h_tryWho h_tryDoes h_tryMuch h_tryAgainst h_tryLife h_tryShield h_ring h_row n_thrown v_today v_kinds v_stacked v_drafters v_cards v_round v_turn v_high v_ringSize v_many v_has) (dC, dI) A) #[.ref h, .int p1, .int p2] s 0 0 A) (F0 m 0 ls [])
  unfold fX9_has at hf
  refine lv_aload_n hx hb dX9_has_0 rfl (lv_at hl 0 rfl) ?_
  refine lv_iload_n hx hb dX9_has_1 rfl (lv_at hl 1 rfl) ?_
  obtain ⟨r_1, hc_2, hf⟩ := ob_s hf
  refine w_callSz (As := [.int p1]) (rest := [.ref h]) ⟨hx, hb, hml, hown, hts⟩ (oX9_isPlayer l dC dI cI cJ cZ cG H.size p1 r_1 hc_2) (va_cwS 1 hts gX9_has_X9_isPlayer rfl rfl rfl (by decide +kernel) ⟨Nat.le_of_ble_eq_true rfl, Nat.le_of_ble_eq_true rfl⟩) hK hP hS hA rfl hl.1 rfl (Nat.le_of_ble_eq_true rfl) dX9_has_2 ⟨Nat.le_refl _, Nat.le_refl _⟩ (fun hz_3 H locs hP hS => ?_)
  refine lv_if_eq (tgt := 20) hx hb dX9_has_5 (by decide) (fun c_4 => ?_) (fun c_4 => ?_)
  · have hf := it_t hf c_4
    have hf : fX9_has_b20 v_kinds v_has v_thrown p1 p2 = some (r0, n_thrown) := hf
    exact kX9_has_20 C0 hA hK v_thrown p1 p2 _ _ _ hf hP hD hS (lv_sub hl [0, 1, 2] rfl)
  · have hf := it_f hf c_4
    refine lv_aload_n hx hb dX9_has_8 rfl (lv_at hl 0 rfl) ?_
    refine lv_iload_n hx hb dX9_has_9 rfl (lv_at hl 2 rfl) ?_
    obtain ⟨r_5, hc_6, hf⟩ := ob_s hf
    refine w_callVz (As := [.int p2]) (rest := [.ref h]) (wr := List.filterMap (fun i : Nat => (wcX9_has cI cJ cZ cG h h_effect h_number h_banned h_has h_life h_shield h_strength h_haveMet h_deck h_deckSize h_who h_does h_much h_against h_pack h_packSize h_gives h_wants h_tryWho h_tryDoes h_tryMuch h_tryAgainst h_tryLife h_tryShield h_ring h_row v_thrown v_today v_kinds v_stacked v_drafters v_cards v_round v_turn v_high v_ringSize v_many v_has)[i]?) [1]) (ws1 := (wcX9_has cI cJ cZ cG h h_effect h_number h_banned h_has h_life h_shield h_strength h_haveMet h_deck h_deckSize h_who h_does h_much h_against h_pack h_packSize h_gives h_wants h_tryWho h_tryDoes h_tryMuch h_tryAgainst h_tryLife h_tryShield h_ring h_row v_thrown v_today v_kinds v_stacked v_drafters v_cards v_round v_turn v_high v_ringSize v_many v_has)) ⟨hx, hb, hml, hown, hts⟩ (oX9_isKind l dC dI cI cJ cZ cG h h_effect h_number h_banned h_has h_life h_shield h_strength h_haveMet h_deck h_deckSize h_who h_does h_much h_against h_pack h_packSize h_gives h_wants h_tryWho h_tryDoes h_tryMuch h_tryAgainst h_tryLife h_tryShield h_ring h_row v_thrown v_today v_kinds v_stacked v_drafters v_cards v_round v_turn v_high v_ringSize v_many H.size p2 r_5 hc_6) (cwV 1 hts gX9_has_X9_isKind rfl rfl rfl (by decide +kernel) ⟨Nat.le_of_ble_eq_true rfl, Nat.le_of_ble_eq_true rfl⟩) hK 0 9 rfl rfl rfl hP hD hS hA [0] [1] [1, 0] rfl rfl rfl rfl (by decide) rfl rfl rfl hl.1 rfl (Nat.le_of_ble_eq_true rfl) dX9_has_10 ⟨Nat.le_refl _, Nat.le_refl _⟩ (fun hz_7 H locs hP hD hS => ?_)
    refine lv_if_eq (tgt := 20) hx hb dX9_has_13 (by decide) (fun c_8 => ?_) (fun c_8 => ?_)
    · have hf := it_t hf c_8
      have hf : fX9_has_b20 v_kinds v_has v_thrown p1 p2 = some (r0, n_thrown) := hf
      exact kX9_has_20 C0 hA hK v_thrown p1 p2 _ _ _ hf hP hD hS (lv_sub hl [0, 1, 2] rfl)
    · have hf := it_f hf c_8
      refine lv_iconst (v := 0) hx hb dX9_has_16 (by decide) ?_
      refine lv_goto (tgt := 21) hx hb dX9_has_17 (by decide) ?_
      have hf : fX9_has_b21 v_kinds v_has v_thrown p1 p2 0 = some (r0, n_thrown) := hf
      exact kX9_has_21 C0 hA hK v_thrown p1 p2 0 (Or.inl rfl) _ _ _ hf hP hD hS (lv_sub hl [0, 1, 2] rfl)
abbrev wcX9_strength (cI cJ cZ cG : ClassId) (h h_effect h_number h_banned h_has h_life h_shield h_strength h_haveMet h_deck h_deckSize h_who h_does h_much h_against h_pack h_packSize h_gives h_wants h_tryWho h_tryDoes h_tryMuch h_tryAgainst h_tryLife h_tryShield h_ring h_row : Nat) (v_thrown : Int32) (v_today : Int32) (v_kinds : Int32) (v_stacked : Int32) (v_drafters : Int32) (v_cards : Int32) (v_round : Int32) (v_turn : Int32) (v_high : Int32) (v_ringSize : Int32) (v_many : Int32) (v_strength : Nat → Int32) : va_W := [(h, .inr (9, [.int v_thrown, .int v_today, .int v_kinds, .ref h_effect, .ref h_number, .ref h_banned, .ref h_has, .ref h_life, .ref h_shield, .ref h_strength, .ref h_haveMet, .ref h_deck, .ref h_deckSize, .int v_stacked, .ref h_who, .ref h_does, .ref h_much, .ref h_against, .int v_drafters, .int v_cards, .int v_round, .int v_turn, .ref h_pack, .ref h_packSize, .ref h_gives, .ref h_wants, .int v_high, .ref h_tryWho, .ref h_tryDoes, .ref h_tryMuch, .ref h_tryAgainst, .ref h_tryLife, .ref h_tryShield, .int v_ringSize, .ref h_ring, .int v_many, .ref h_row])), (h_strength, .inl (cI, 6, .inl v_strength))]
theorem iX9_strength_X9 : ∀ w ∈ wsX90, w ∈ wsX9_strength := by decide +kernel
theorem mX9_strength_0 : (Cond.fieldLink RX9 28 "SleevehallModel" "strength" "[I") ∈ wsX9_strength := by decide +kernel
abbrev rmX9_strength : Room := { frames := 2, cells := 0, slots := 0, locals := 42 }
set_option maxHeartbeats 4000000 in
set_option maxRecDepth 100000 in
theorem kX9_strength_29 {p : Program} {l : Launch} {e : Env} {s : State} {m : MethodId} {args : Array Value} {below : List Frame} {meth : Method} {c : Code} {dC : Nat → ClassId} {dI : Nat → Nat → Nat} {A : Nat → Prop} {cI cJ cZ cG : ClassId} {h h_effect h_number h_banned h_has h_life h_shield h_strength h_haveMet h_deck h_deckSize h_who h_does h_much h_against h_pack h_packSize h_gives h_wants h_tryWho h_tryDoes h_tryMuch h_tryAgainst h_tryLife h_tryShield h_ring h_row : Nat} {v_today : Int32} {v_kinds : Int32} {v_stacked : Int32} {v_drafters : Int32} {v_cards : Int32} {v_round : Int32} {v_turn : Int32} {v_high : Int32} {v_ringSize : Int32} {v_many : Int32} {v_strength : Nat → Int32} {r0 : Int32} {n_thrown : Int32} (C0 : wCX p s args m meth c cX9_strength 2 (some .int) RX9 wsX9_strength) (hA : ∀ q, s.heap.size ≤ q → A q) (hK : va_K (dC, dI) vwCl (tysW cI cJ cZ cG) s) : ∀ (v_thrown : Int32) (s0 : Int32) (H : Heap) (locs : List Loc) (ls : Array Slot), fX9_strength_b29 v_strength v_thrown s0 = some (r0, n_thrown) → va_P (dC, dI) vwCl (wcX9_strength cI cJ cZ cG h h_effect h_number h_banned h_has h_life h_shield h_strength h_haveMet h_deck h_deckSize h_who h_does h_much h_against h_pack h_packSize h_gives h_wants h_tryWho h_tryDoes h_tryMuch h_tryAgainst h_tryLife h_tryShield h_ring h_row v_thrown v_today v_kinds v_stacked v_drafters v_cards v_round v_turn v_high v_ringSize v_many v_strength) H → va_D A (wcX9_strength cI cJ cZ cG h h_effect h_number h_banned h_has h_life h_shield h_strength h_haveMet h_deck h_deckSize h_who h_does h_much h_against h_pack h_packSize h_gives h_wants h_tryWho h_tryDoes h_tryMuch h_tryAgainst h_tryLife h_tryShield h_ring h_row v_thrown v_today v_kinds v_stacked v_drafters v_cards v_round v_turn v_high v_ringSize v_many v_strength) → va_S A s.heap H locs → lv_has ls 2 [] → W p l e rmX9_strength s m args below meth c H locs 0 0 (MQ below (wQi r0 (wcX9_strength cI cJ cZ cG h h_effect h_number h_banned h_has h_life h_shield h_strength h_haveMet h_deck h_deckSize h_who h_does h_much h_against h_pack h_packSize h_gives h_wants h_tryWho h_tryDoes h_tryMuch h_tryAgainst h_tryLife h_tryShield h_ring h_row n_thrown v_today v_kinds v_stacked v_drafters v_cards v_round v_turn v_high v_ringSize v_many v_strength) (dC, dI) A) args s 0 0 A) (F0 m 29 ls [.int s0]) := by
  obtain ⟨hx, hb, hr, hml, hown, hts, hlocks⟩ := id C0
  intro v_thrown s0 H locs ls hf hP hD hS hl
  unfold fX9_strength_b29 at hf
  have hf : some (s0, v_thrown) = some (r0, n_thrown) := hf
  cases hf
  exact w_iret hx hb hr hlocks rfl hP hD hS dX9_strength_29
set_option maxHeartbeats 4000000 in
set_option maxRecDepth 100000 in
theorem kX9_strength_13 {p : Program} {l : Launch} {e : Env} {s : State} {m : MethodId} {args : Array Value} {below : List Frame} {meth : Method} {c : Code} {dC : Nat → ClassId} {dI : Nat → Nat → Nat} {A : Nat → Prop} {cI cJ cZ cG : ClassId} {h h_effect h_number h_banned h_has h_life h_shield h_strength h_haveMet h_deck h_deckSize h_who h_does h_much h_against h_pack h_packSize h_gives h_wants h_tryWho h_tryDoes h_tryMuch h_tryAgainst h_tryLife h_tryShield h_ring h_row : Nat} {v_today : Int32} {v_kinds : Int32} {v_stacked : Int32} {v_drafters : Int32} {v_cards : Int32} {v_round : Int32} {v_turn : Int32} {v_high : Int32} {v_ringSize : Int32} {v_many : Int32} {v_strength : Nat → Int32} {r0 : Int32} {n_thrown : Int32} (C0 : wCX p s args m meth c cX9_strength 2 (some .int) RX9 wsX9_strength) (hA : ∀ q, s.heap.size ≤ q → A q) (hK : va_K (dC, dI) vwCl (tysW cI cJ cZ cG) s) : ∀ (v_thrown : Int32) (l1 : Int32) (s1 : Int32) (hz_s1 : wB s1) (H : Heap) (locs : List Loc) (ls : Array Slot), fX9_strength_b13 v_strength v_thrown l1 s1 = some (r0, n_thrown) → va_P (dC, dI) vwCl (wcX9_strength cI cJ cZ cG h h_effect h_number h_banned h_has h_life h_shield h_strength h_haveMet h_deck h_deckSize h_who h_does h_much h_against h_pack h_packSize h_gives h_wants h_tryWho h_tryDoes h_tryMuch h_tryAgainst h_tryLife h_tryShield h_ring h_row v_thrown v_today v_kinds v_stacked v_drafters v_cards v_round v_turn v_high v_ringSize v_many v_strength) H → va_D A (wcX9_strength cI cJ cZ cG h h_effect h_number h_banned h_has h_life h_shield h_strength h_haveMet h_deck h_deckSize h_who h_does h_much h_against h_pack h_packSize h_gives h_wants h_tryWho h_tryDoes h_tryMuch h_tryAgainst h_tryLife h_tryShield h_ring h_row v_thrown v_today v_kinds v_stacked v_drafters v_cards v_round v_turn v_high v_ringSize v_many v_strength) → va_S A s.heap H locs → lv_has ls 2 [(0, .ref h), (1, .int l1)] → W p l e rmX9_strength s m args below meth c H locs 0 0 (MQ below (wQi r0 (wcX9_strength cI cJ cZ cG h h_effect h_number h_banned h_has h_life h_shield h_strength h_haveMet h_deck h_deckSize h_who h_does h_much h_against h_pack h_packSize h_gives h_wants h_tryWho h_tryDoes h_tryMuch h_tryAgainst h_tryLife h_tryShield h_ring h_row n_thrown v_today v_kinds v_stacked v_drafters v_cards v_round v_turn v_high v_ringSize v_many v_strength) (dC, dI) A) args s 0 0 A) (F0 m 13 ls [.int s1, .ref h]) := by
  obtain ⟨hx, hb, hr, hml, hown, hts, hlocks⟩ := id C0
  intro v_thrown l1 s1 hz_s1 H locs ls hf hP hD hS hl
  unfold fX9_strength_b13 at hf
  obtain ⟨⟨r_1, w_2⟩, hc_3, hf⟩ := ob_s hf
  refine w_callVz (As := [.int s1]) (rest := []) (wr := List.filterMap (fun i : Nat => (wcX9_strength cI cJ cZ cG h h_effect h_number h_banned h_has h_life h_shield h_strength h_haveMet h_deck h_deckSize h_who h_does h_much h_against h_pack h_packSize h_gives h_wants h_tryWho h_tryDoes h_tryMuch h_tryAgainst h_tryLife h_tryShield h_ring h_row v_thrown v_today v_kinds v_stacked v_drafters v_cards v_round v_turn v_high v_ringSize v_many v_strength)[i]?) [1]) (ws1 := (wcX9_strength cI cJ cZ cG h h_effect h_number h_banned h_has h_life h_shield h_strength h_haveMet h_deck h_deckSize h_who h_does h_much h_against h_pack h_packSize h_gives h_wants h_tryWho h_tryDoes h_tryMuch h_tryAgainst h_tryLife h_tryShield h_ring h_row w_2 v_today v_kinds v_stacked v_drafters v_cards v_round v_turn v_high v_ringSize v_many v_strength)) ⟨hx, hb, hml, hown, hts⟩ (oX9_goesWell l dC dI cI cJ cZ cG h h_effect h_number h_banned h_has h_life h_shield h_strength h_haveMet h_deck h_deckSize h_who h_does h_much h_against h_pack h_packSize h_gives h_wants h_tryWho h_tryDoes h_tryMuch h_tryAgainst h_tryLife h_tryShield h_ring h_row v_thrown v_today v_kinds v_stacked v_drafters v_cards v_round v_turn v_high v_ringSize v_many H.size s1 r_1 w_2 hc_3) (cwV 1 hts gX9_strength_X9_goesWell rfl rfl rfl (by decide +kernel) ⟨Nat.le_of_ble_eq_true rfl, Nat.le_of_ble_eq_true rfl⟩) hK 0 9 rfl rfl rfl hP hD hS hA [0] [1] [1, 0] rfl rfl rfl rfl (by decide) rfl rfl rfl hl.1 rfl (Nat.le_of_ble_eq_true rfl) dX9_strength_13 ⟨Nat.le_refl _, Nat.le_refl _⟩ (fun hz_4 H locs hP hD hS => ?_)
  refine lv_if_eq (tgt := 28) hx hb dX9_strength_16 (by decide) (fun c_5 => ?_) (fun c_5 => ?_)
  · have hf := it_t hf c_5
    refine lv_iconst (v := 0) hx hb dX9_strength_28 (by decide) ?_
    have hf : fX9_strength_b29 v_strength w_2 0 = some (r0, n_thrown) := hf
    exact kX9_strength_29 C0 hA hK w_2 0 _ _ _ hf hP hD hS (lv_sub hl [] rfl)
  · have hf := it_f hf c_5
    refine lv_aload_n hx hb dX9_strength_19 rfl (lv_at hl 0 rfl) ?_
    refine va_get (D := (dC, dI)) (ci := 9) (v := .ref h_strength) (C := RX9) (T := TX9) (N := 37) hx hb hts iX9_strength_X9 hown hK hP 0 rfl rfl 9 (by decide) (hts _ mX9_strength_0) (fun _ h9 => h9) rfl dX9_strength_20 ?_
    refine lv_iload_n hx hb dX9_strength_23 rfl (lv_at hl 1 rfl) ?_
    obtain ⟨hg_6, hf⟩ := ck_s hf
    refine va_iald (D := (dC, dI)) hx hb hK hP 1 0 rfl rfl (g_vp hg_6) dX9_strength_24 ?_
    refine lv_goto (tgt := 29) hx hb dX9_strength_25 (by decide) ?_
    have hf : fX9_strength_b29 v_strength w_2 (v_strength l1.toNatClampNeg) = some (r0, n_thrown) := hf
    exact kX9_strength_29 C0 hA hK w_2 (v_strength l1.toNatClampNeg) _ _ _ hf hP hD hS (lv_sub hl [] rfl)
set_option maxHeartbeats 4000000 in
set_option maxRecDepth 100000 in
theorem oX9_strength (l : Launch) (dC : Nat → ClassId) (dI : Nat → Nat → Nat) (cI cJ cZ cG : ClassId) (h h_effect h_number h_banned h_has h_life h_shield h_strength h_haveMet h_deck h_deckSize h_who h_does h_much h_against h_pack h_packSize h_gives h_wants h_tryWho h_tryDoes h_tryMuch h_tryAgainst h_tryLife h_tryShield h_ring h_row : Nat) (v_thrown : Int32) (v_today : Int32) (v_kinds : Int32) (v_stacked : Int32) (v_drafters : Int32) (v_cards : Int32) (v_round : Int32) (v_turn : Int32) (v_high : Int32) (v_ringSize : Int32) (v_many : Int32) (v_strength : Nat → Int32) (sz : Nat) (p1 : Int32) (r0 : Int32) (n_thrown : Int32) (hf : fX9_strength v_thrown v_strength p1 = some (r0, n_thrown)) : Met l yX9_strength wsX9_strength rmX9_strength (wPc [.ref h, .int p1] (dC, dI) (tysW cI cJ cZ cG) sz (wcX9_strength cI cJ cZ cG h h_effect h_number h_banned h_has h_life h_shield h_strength h_haveMet h_deck h_deckSize h_who h_does h_much h_against h_pack h_packSize h_gives h_wants h_tryWho h_tryDoes h_tryMuch h_tryAgainst h_tryLife h_tryShield h_ring h_row v_thrown v_today v_kinds v_stacked v_drafters v_cards v_round v_turn v_high v_ringSize v_many v_strength)) (wQi r0 (wcX9_strength cI cJ cZ cG h h_effect h_number h_banned h_has h_life h_shield h_strength h_haveMet h_deck h_deckSize h_who h_does h_much h_against h_pack h_packSize h_gives h_wants h_tryWho h_tryDoes h_tryMuch h_tryAgainst h_tryLife h_tryShield h_ring h_row n_thrown v_today v_kinds v_stacked v_drafters v_cards v_round v_turn v_high v_ringSize v_many v_strength) (dC, dI) (va_A (wcX9_strength cI cJ cZ cG h h_effect h_number h_banned h_has h_life h_shield h_strength h_haveMet h_deck h_deckSize h_who h_does h_much h_against h_pack h_packSize h_gives h_wants h_tryWho h_tryDoes h_tryMuch h_tryAgainst h_tryLife h_tryShield h_ring h_row v_thrown v_today v_kinds v_stacked v_drafters v_cards v_round v_turn v_high v_ringSize v_many v_strength) sz)) 0 0 (va_A (wcX9_strength cI cJ cZ cG h h_effect h_number h_banned h_has h_life h_shield h_strength h_haveMet h_deck h_deckSize h_who h_does h_much h_against h_pack h_packSize h_gives h_wants h_tryWho h_tryDoes h_tryMuch h_tryAgainst h_tryLife h_tryShield h_ring h_row v_thrown v_today v_kinds v_stacked v_drafters v_cards v_round v_turn v_high v_ringSize v_many v_strength) sz) := by
  refine Met.ofW (cc := cX9_strength) (maxL := 2) (ret := (some .int)) (by decide) rfl ?_
  intro p e s m args below meth c s₁ B hml hv
  obtain ⟨rfl, hsz, hP, hK, hD0⟩ := hv
  have hx := B.exec
  have hb := B.bytes
  have hr := B.returns
  have hts := atoms_spec (ws := wsX9_strength) B.pre
  have hown : s.vm.findClass RX9 = some m.cls := findClass_of_methodNamed B.named
  have hlocks := B.notSynchronized
  subst hsz
  have hD := hD0.self (sz := s.heap.size)
  generalize hAe : va_A (wcX9_strength cI cJ cZ cG h h_effect h_number h_banned h_has h_life h_shield h_strength h_haveMet h_deck h_deckSize h_who h_does h_much h_against h_pack h_packSize h_gives h_wants h_tryWho h_tryDoes h_tryMuch h_tryAgainst h_tryLife h_tryShield h_ring h_row v_thrown v_today v_kinds v_stacked v_drafters v_cards v_round v_turn v_high v_ringSize v_many v_strength) s.heap.size = A at hD ⊢
  have hA : ∀ q : Nat, s.heap.size ≤ q → A q := fun q h => by rw [← hAe]; exact Or.inr h
  have hS : va_S A s.heap s.heap [] := va_S.rf
  have hP : va_P (dC, dI) vwCl (wcX9_strength cI cJ cZ cG h h_effect h_number h_banned h_has h_life h_shield h_strength h_haveMet h_deck h_deckSize h_who h_does h_much h_against h_pack h_packSize h_gives h_wants h_tryWho h_tryDoes h_tryMuch h_tryAgainst h_tryLife h_tryShield h_ring h_row v_thrown v_today v_kinds v_stacked v_drafters v_cards v_round v_turn v_high v_ringSize v_many v_strength) s.heap := hP
  have hl := lv_entry ([.ref h, .int p1]) (n := 2) (Nat.le_of_ble_eq_true rfl)
  rw [lg_entry_eq]
  generalize (lg_sl ([.ref h, .int p1]) ++ List.replicate (2 - (lg_sl ([.ref h, .int p1])).length) Slot.unset).toArray = ls at hl ⊢
  have hl : lv_has ls 2 [(0, .ref h), (1, .int p1)] := hl
  generalize hH : s.heap = H at hP hS ⊢
  have hS : va_S A s.heap H [] := by rw [hH]; exact hS
  have C0 : wCX p s #[.ref h, .int p1] m meth c cX9_strength 2 (some .int) RX9 wsX9_strength := ⟨hx, hb, hr, hml, hown, hts, hlocks⟩
  show W p l e rmX9_strength s m #[.ref h, .int p1] below meth c H [] 0 0 (MQ below (wQi r0 (wcX9_strength cI cJ cZ cG h h_effect h_number h_banned h_has h_life h_shield h_strength h_haveMet h_deck h_deckSize h_who h_does h_much h_against h_pack h_packSize h_gives h_wants h_tryWho h_tryDoes h_tryMuch h_tryAgainst h_tryLife h_tryShield h_ring h_row n_thrown v_today v_kinds v_stacked v_drafters v_cards v_round v_turn v_high v_ringSize v_many v_strength) (dC, dI) A) #[.ref h, .int p1] s 0 0 A) (F0 m 0 ls [])
  unfold fX9_strength at hf
  refine lv_aload_n hx hb dX9_strength_0 rfl (lv_at hl 0 rfl) ?_
  refine lv_iload_n hx hb dX9_strength_1 rfl (lv_at hl 1 rfl) ?_
  obtain ⟨r_1, hc_2, hf⟩ := ob_s hf
  refine w_callSz (As := [.int p1]) (rest := [.ref h]) ⟨hx, hb, hml, hown, hts⟩ (oX9_isPlayer l dC dI cI cJ cZ cG H.size p1 r_1 hc_2) (va_cwS 1 hts gX9_strength_X9_isPlayer rfl rfl rfl (by decide +kernel) ⟨Nat.le_of_ble_eq_true rfl, Nat.le_of_ble_eq_true rfl⟩) hK hP hS hA rfl hl.1 rfl (Nat.le_of_ble_eq_true rfl) dX9_strength_2 ⟨Nat.le_refl _, Nat.le_refl _⟩ (fun hz_3 H locs hP hS => ?_)
  refine lv_if_eq (tgt := 12) hx hb dX9_strength_5 (by decide) (fun c_4 => ?_) (fun c_4 => ?_)
  · have hf := it_t hf c_4
    refine lv_iconst (v := 1) hx hb dX9_strength_12 (by decide) ?_
    have hf : fX9_strength_b13 v_strength v_thrown p1 1 = some (r0, n_thrown) := hf
    exact kX9_strength_13 C0 hA hK v_thrown p1 1 (Or.inr rfl) _ _ _ hf hP hD hS (lv_sub hl [0, 1] rfl)
  · have hf := it_f hf c_4
    refine lv_iconst (v := 0) hx hb dX9_strength_8 (by decide) ?_
    refine lv_goto (tgt := 13) hx hb dX9_strength_9 (by decide) ?_
    have hf : fX9_strength_b13 v_strength v_thrown p1 0 = some (r0, n_thrown) := hf
    exact kX9_strength_13 C0 hA hK v_thrown p1 0 (Or.inl rfl) _ _ _ hf hP hD hS (lv_sub hl [0, 1] rfl)
abbrev wcX9_stacked (cI cJ cZ cG : ClassId) (h h_effect h_number h_banned h_has h_life h_shield h_strength h_haveMet h_deck h_deckSize h_who h_does h_much h_against h_pack h_packSize h_gives h_wants h_tryWho h_tryDoes h_tryMuch h_tryAgainst h_tryLife h_tryShield h_ring h_row : Nat) (v_thrown : Int32) (v_today : Int32) (v_kinds : Int32) (v_stacked : Int32) (v_drafters : Int32) (v_cards : Int32) (v_round : Int32) (v_turn : Int32) (v_high : Int32) (v_ringSize : Int32) (v_many : Int32) : va_W := [(h, .inr (9, [.int v_thrown, .int v_today, .int v_kinds, .ref h_effect, .ref h_number, .ref h_banned, .ref h_has, .ref h_life, .ref h_shield, .ref h_strength, .ref h_haveMet, .ref h_deck, .ref h_deckSize, .int v_stacked, .ref h_who, .ref h_does, .ref h_much, .ref h_against, .int v_drafters, .int v_cards, .int v_round, .int v_turn, .ref h_pack, .ref h_packSize, .ref h_gives, .ref h_wants, .int v_high, .ref h_tryWho, .ref h_tryDoes, .ref h_tryMuch, .ref h_tryAgainst, .ref h_tryLife, .ref h_tryShield, .int v_ringSize, .ref h_ring, .int v_many, .ref h_row]))]
theorem iX9_stacked_X9 : ∀ w ∈ wsX90, w ∈ wsX9_stacked := by decide +kernel
theorem mX9_stacked_0 : (Cond.fieldLink RX9 94 "SleevehallModel" "thrown" "I") ∈ wsX9_stacked := by decide +kernel
theorem mX9_stacked_1 : (Cond.fieldLink RX9 125 "SleevehallModel" "stacked" "I") ∈ wsX9_stacked := by decide +kernel
abbrev rmX9_stacked : Room := { frames := 0, cells := 0, slots := 0, locals := 0 }
set_option maxHeartbeats 4000000 in
set_option maxRecDepth 100000 in
theorem oX9_stacked (l : Launch) (dC : Nat → ClassId) (dI : Nat → Nat → Nat) (cI cJ cZ cG : ClassId) (h h_effect h_number h_banned h_has h_life h_shield h_strength h_haveMet h_deck h_deckSize h_who h_does h_much h_against h_pack h_packSize h_gives h_wants h_tryWho h_tryDoes h_tryMuch h_tryAgainst h_tryLife h_tryShield h_ring h_row : Nat) (v_thrown : Int32) (v_today : Int32) (v_kinds : Int32) (v_stacked : Int32) (v_drafters : Int32) (v_cards : Int32) (v_round : Int32) (v_turn : Int32) (v_high : Int32) (v_ringSize : Int32) (v_many : Int32) (sz : Nat) (r0 : Int32) (n_thrown : Int32) (hf : fX9_stacked v_thrown v_stacked = some (r0, n_thrown)) : Met l yX9_stacked wsX9_stacked rmX9_stacked (wPc [.ref h] (dC, dI) (tysW cI cJ cZ cG) sz (wcX9_stacked cI cJ cZ cG h h_effect h_number h_banned h_has h_life h_shield h_strength h_haveMet h_deck h_deckSize h_who h_does h_much h_against h_pack h_packSize h_gives h_wants h_tryWho h_tryDoes h_tryMuch h_tryAgainst h_tryLife h_tryShield h_ring h_row v_thrown v_today v_kinds v_stacked v_drafters v_cards v_round v_turn v_high v_ringSize v_many)) (wQi r0 (wcX9_stacked cI cJ cZ cG h h_effect h_number h_banned h_has h_life h_shield h_strength h_haveMet h_deck h_deckSize h_who h_does h_much h_against h_pack h_packSize h_gives h_wants h_tryWho h_tryDoes h_tryMuch h_tryAgainst h_tryLife h_tryShield h_ring h_row n_thrown v_today v_kinds v_stacked v_drafters v_cards v_round v_turn v_high v_ringSize v_many) (dC, dI) (va_A (wcX9_stacked cI cJ cZ cG h h_effect h_number h_banned h_has h_life h_shield h_strength h_haveMet h_deck h_deckSize h_who h_does h_much h_against h_pack h_packSize h_gives h_wants h_tryWho h_tryDoes h_tryMuch h_tryAgainst h_tryLife h_tryShield h_ring h_row v_thrown v_today v_kinds v_stacked v_drafters v_cards v_round v_turn v_high v_ringSize v_many) sz)) 0 0 (va_A (wcX9_stacked cI cJ cZ cG h h_effect h_number h_banned h_has h_life h_shield h_strength h_haveMet h_deck h_deckSize h_who h_does h_much h_against h_pack h_packSize h_gives h_wants h_tryWho h_tryDoes h_tryMuch h_tryAgainst h_tryLife h_tryShield h_ring h_row v_thrown v_today v_kinds v_stacked v_drafters v_cards v_round v_turn v_high v_ringSize v_many) sz) := by
  refine Met.ofW (cc := cX9_stacked) (maxL := 1) (ret := (some .int)) (by decide) rfl ?_
  intro p e s m args below meth c s₁ B hml hv
  obtain ⟨rfl, hsz, hP, hK, hD0⟩ := hv
  have hx := B.exec
  have hb := B.bytes
  have hr := B.returns
  have hts := atoms_spec (ws := wsX9_stacked) B.pre
  have hown : s.vm.findClass RX9 = some m.cls := findClass_of_methodNamed B.named
  have hlocks := B.notSynchronized
  subst hsz
  have hD := hD0.self (sz := s.heap.size)
  generalize hAe : va_A (wcX9_stacked cI cJ cZ cG h h_effect h_number h_banned h_has h_life h_shield h_strength h_haveMet h_deck h_deckSize h_who h_does h_much h_against h_pack h_packSize h_gives h_wants h_tryWho h_tryDoes h_tryMuch h_tryAgainst h_tryLife h_tryShield h_ring h_row v_thrown v_today v_kinds v_stacked v_drafters v_cards v_round v_turn v_high v_ringSize v_many) s.heap.size = A at hD ⊢
  have hA : ∀ q : Nat, s.heap.size ≤ q → A q := fun q h => by rw [← hAe]; exact Or.inr h
  have hS : va_S A s.heap s.heap [] := va_S.rf
  have hP : va_P (dC, dI) vwCl (wcX9_stacked cI cJ cZ cG h h_effect h_number h_banned h_has h_life h_shield h_strength h_haveMet h_deck h_deckSize h_who h_does h_much h_against h_pack h_packSize h_gives h_wants h_tryWho h_tryDoes h_tryMuch h_tryAgainst h_tryLife h_tryShield h_ring h_row v_thrown v_today v_kinds v_stacked v_drafters v_cards v_round v_turn v_high v_ringSize v_many) s.heap := hP
  have hl := lv_entry ([.ref h]) (n := 1) (Nat.le_of_ble_eq_true rfl)
  rw [lg_entry_eq]
  generalize (lg_sl ([.ref h]) ++ List.replicate (1 - (lg_sl ([.ref h])).length) Slot.unset).toArray = ls at hl ⊢
  have hl : lv_has ls 1 [(0, .ref h)] := hl
  generalize hH : s.heap = H at hP hS ⊢
  have hS : va_S A s.heap H [] := by rw [hH]; exact hS
  have C0 : wCX p s #[.ref h] m meth c cX9_stacked 1 (some .int) RX9 wsX9_stacked := ⟨hx, hb, hr, hml, hown, hts, hlocks⟩
  show W p l e rmX9_stacked s m #[.ref h] below meth c H [] 0 0 (MQ below (wQi r0 (wcX9_stacked cI cJ cZ cG h h_effect h_number h_banned h_has h_life h_shield h_strength h_haveMet h_deck h_deckSize h_who h_does h_much h_against h_pack h_packSize h_gives h_wants h_tryWho h_tryDoes h_tryMuch h_tryAgainst h_tryLife h_tryShield h_ring h_row n_thrown v_today v_kinds v_stacked v_drafters v_cards v_round v_turn v_high v_ringSize v_many) (dC, dI) A) #[.ref h] s 0 0 A) (F0 m 0 ls [])
  unfold fX9_stacked at hf
  refine lv_aload_n hx hb dX9_stacked_0 rfl (lv_at hl 0 rfl) ?_
  refine lv_iconst (v := 0) hx hb dX9_stacked_1 (by decide) ?_
  refine va_put (D := (dC, dI)) (ci := 9) (v := .int 0) (ty := .int) (C := RX9) (T := TX9) (N := 37) hx hb hts iX9_stacked_X9 tyX9 tyX9_ok nmX9 hown hK hP hD hS 0 rfl rfl 0 (by decide) (hts _ mX9_stacked_0) (fun _ h9 => h9) rfl (by decide +kernel) rfl rfl (Nat.le_of_ble_eq_true rfl) dX9_stacked_2 (fun H locs hP hD hS => ?_)
  have hP : va_P (dC, dI) vwCl (wcX9_stacked cI cJ cZ cG h h_effect h_number h_banned h_has h_life h_shield h_strength h_haveMet h_deck h_deckSize h_who h_does h_much h_against h_pack h_packSize h_gives h_wants h_tryWho h_tryDoes h_tryMuch h_tryAgainst h_tryLife h_tryShield h_ring h_row 0 v_today v_kinds v_stacked v_drafters v_cards v_round v_turn v_high v_ringSize v_many) H := hP
  have hD : va_D A (wcX9_stacked cI cJ cZ cG h h_effect h_number h_banned h_has h_life h_shield h_strength h_haveMet h_deck h_deckSize h_who h_does h_much h_against h_pack h_packSize h_gives h_wants h_tryWho h_tryDoes h_tryMuch h_tryAgainst h_tryLife h_tryShield h_ring h_row 0 v_today v_kinds v_stacked v_drafters v_cards v_round v_turn v_high v_ringSize v_many) := hD
  refine lv_aload_n hx hb dX9_stacked_5 rfl (lv_at hl 0 rfl) ?_
  refine va_get (D := (dC, dI)) (ci := 9) (v := .int v_stacked) (C := RX9) (T := TX9) (N := 37) hx hb hts iX9_stacked_X9 hown hK hP 0 rfl rfl 13 (by decide) (hts _ mX9_stacked_1) (fun _ h9 => h9) rfl dX9_stacked_6 ?_
  have hf : some (v_stacked, 0) = some (r0, n_thrown) := hf
  cases hf
  exact w_iret hx hb hr hlocks rfl hP hD hS dX9_stacked_9
