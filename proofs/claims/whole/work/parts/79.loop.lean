/-! printed by lawstart.py: the loop of the law -/
theorem LInv.succ {dC : Nat → ClassId} {dI : Nat → Nat → Nat} {cI cJ cZ cG : ClassId} {A : Nat → Prop} {ad : Nat → Nat} {rw : Nat → Nat → Nat} {q : Nat} {H : Heap} (h : LInv dC dI cI cJ cZ cG A ad rw q H) : LInv dC dI cI cJ cZ cG A ad rw (q + 1) H := by
  refine h.elim (fun n d z k c_kinds_effects c_kinds_numbers c_kinds_bans c_shelf_cards c_shelf_decks c_shelf_deckSizes c_table_lives c_table_shields c_table_effects c_table_numbers c_table_players c_table_against c_orders_player c_orders_isGreatest c_orders_isFound c_orders_best c_orders_work_size c_orders_work_lives c_orders_work_shields c_orders_work_effects c_orders_work_numbers c_orders_work_players c_orders_work_against c_history_deeds c_history_anew_size c_history_anew_lives c_history_anew_shields c_history_anew_effects c_history_anew_numbers c_history_anew_players c_history_anew_against c_draft_players c_draft_cards c_draft_round c_draft_turn c_draft_packs c_wishes_givers c_wishes_gives c_wishes_wants c_wishes_row c_matches_length c_matches_strengths c_matches_met c_matches_row c_matches_others u_thrown u_drafters u_cards u_round u_turn u_high u_ringSize u_many u_effect u_number u_banned u_has u_life u_shield u_strength u_haveMet u_deck u_deckSize u_who u_does u_much u_against u_pack u_packSize u_gives u_wants u_tryWho u_tryDoes u_tryMuch u_tryAgainst u_tryLife u_tryShield u_ring u_row out hP hD hRK hRC hRD hRT hHS hkq hDr hRW hRM => ?_)
  exact LInv.mk hP hD hRK hRC hRD hRT hHS (by omega) hDr hRW hRM
set_option maxHeartbeats 4000000 in
set_option maxRecDepth 100000 in
theorem law_loop {p : Program} {l : Launch} {e : Env} {s : State} {m : MethodId} {below : List Frame} {meth : Method} {c : Code} {b L : Nat} {xs : Nat → Int32} {dC : Nat → ClassId} {dI : Nat → Nat → Nat} {cI cJ cZ cG : ClassId} (E : LawE p l s m meth c b L xs dC dI cI cJ cZ cG) {ad : Nat → Nat} {rw : Nat → Nat → Nat} (hL : L ≤ 2048) : ∀ (r q : Nat) (H : Heap) (locs : List Loc) (ls : Array Slot), q + r = 513 → 4 * q ≤ L + 3 → q ≤ 512 → LInv dC dI cI cJ cZ cG (lwA s) ad rw q H → va_S (lwA s) s.heap H locs → lv_has ls 7 [(4, .int (nI (4 * q))), (0, .ref b), (1, .ref (ad 0)), (2, .ref (ad 44)), (3, .ref (ad 71))] →
    W p l e room_1 s m #[Value.ref b] below meth c H locs (90 + 4 * q) (1533 + 24 * q) (lw_Z below #[Value.ref b] s) (F0 m 23 ls []) := by
  obtain ⟨hx, hb, hr, hml, hown, hts, hX, hbl, hlocks, hlt, hK, hT, hN⟩ := id E
  have hbA : ¬ lwA s b := Nat.not_le.mpr hbl
  intro r
  induction r with
  | zero =>
    intro q H locs ls h1 h2 h3
    omega
  | succ r ih =>
    intro q H locs ls h1 h2 h3 hI hS hl
    refine lv_iload hx hb dL_law_23 (lv_at hl 0 rfl) ?_
    refine lv_aload_n hx hb dL_law_25 rfl (lv_at hl 1 rfl) ?_
    refine va_slen hx hb hX hbl hbA hS dL_law_26 ?_
    refine lv_iconst (v := 4) hx hb dL_law_27 (by decide) ?_
    refine lv_isub hx hb dL_law_28 ?_
    have ht : (nI L - 4).toInt = (L : Int) - 4 := by
      rw [show (4 : Int32) = nI 4 from rfl]
      exact pk_sub_toInt (by omega) (by omega)
    have ht2 : (nI (4 * q)).toInt = ((4 * q : Nat) : Int) := nI_toInt (by omega)
    refine lv_icmp_gt (tgt := 1483) hx hb dL_law_29 (by decide) (fun c0 => ?_) (fun c0 => ?_)
    · refine lv_iconst (v := 1) hx hb dL_law_1483 (by decide) ?_
      refine va_forget (fun q hq => hS.2.2 q hq) ?_
      refine W.widen (k := 606020) (n := 7278045) (by omega) (by omega) ?_
      exact lw_ret hx hb hr hlocks dL_law_1484
    · have hq : 4 * q + 4 ≤ L := by
        have : ¬ (nI L - 4).toInt < (nI (4 * q)).toInt := fun h => c0 (i32lt.mpr h)
        omega
      have hkk : ∀ (H1 : Heap) (locs1 : List Loc) (ls1 : Array Slot), LInv dC dI cI cJ cZ cG (lwA s) ad rw (q + 1) H1 → va_S (lwA s) s.heap H1 locs1 → lv_has ls1 7 [(4, .int (nI (4 * q))), (0, .ref b), (1, .ref (ad 0)), (2, .ref (ad 44)), (3, .ref (ad 71))] → W p l e room_1 s m #[Value.ref b] below meth c H1 locs1 (90 + 4 * q + 4) (1533 + 24 * q + 24) (lw_Z below #[Value.ref b] s) (F0 m 1477 ls1 []) := by
        intro H1 locs1 ls1 hI1 hS1 hl1
        refine lv_iinc (v := nI (4 * (q + 1))) (lv' := [(4, .int (nI (4 * (q + 1)))), (0, .ref b), (1, .ref (ad 0)), (2, .ref (ad 44)), (3, .ref (ad 71))]) hx hb dL_law_1477 hl1 (k := 0) rfl (show nI (4 * q) + nI 4 = _ from nI_add _ _) (by decide) rfl (fun ls hl => ?_)
        refine lv_goto (tgt := 23) hx hb dL_law_1480 (by decide) ?_
        exact ih (q + 1) H1 locs1 ls (by omega) (by omega) (by omega) hI1 hS1 hl
      have hv0 : vp_in (nI (4 * q)) L := vp_in_nI (by omega) (by omega)
      refine lv_aload_n hx hb dL_law_32 rfl (lv_at hl 1 rfl) ?_
      refine lv_iload hx hb dL_law_33 (lv_at hl 0 rfl) ?_
      refine va_sld hx hb hX hbl hbA hS hv0 dL_law_35 ?_
      refine lv_bipush (v := 31) hx hb dL_law_36 (by decide) ?_
      refine lv_iand hx hb dL_law_38 ?_
      generalize (xs (nI (4 * q)).toNatClampNeg &&& 31) = op
      by_cases e0 : op = 0
      · refine lv_tableIn (off := 101) (tgt := 140) hx hb dL_law_39 (by rw [e0]; decide) (by rw [e0]; decide) (by rw [e0]; rfl) (by decide) ?_
        exact law_c0 E hq hL (by omega) (by omega) hI hS hl hkk
      by_cases e1 : op = 1
      · refine lv_tableIn (off := 169) (tgt := 208) hx hb dL_law_39 (by rw [e1]; decide) (by rw [e1]; decide) (by rw [e1]; rfl) (by decide) ?_
        exact law_c1 E hq hL (by omega) (by omega) hI hS hl hkk
      by_cases e2 : op = 2
      · refine lv_tableIn (off := 237) (tgt := 276) hx hb dL_law_39 (by rw [e2]; decide) (by rw [e2]; decide) (by rw [e2]; rfl) (by decide) ?_
        exact law_c2 E hq hL (by omega) (by omega) hI hS hl hkk
      by_cases e3 : op = 3
      · refine lv_tableIn (off := 317) (tgt := 356) hx hb dL_law_39 (by rw [e3]; decide) (by rw [e3]; decide) (by rw [e3]; rfl) (by decide) ?_
        exact law_c3 E hq hL (by omega) (by omega) hI hS hl hkk
      by_cases e4 : op = 4
      · refine lv_tableIn (off := 373) (tgt := 412) hx hb dL_law_39 (by rw [e4]; decide) (by rw [e4]; decide) (by rw [e4]; rfl) (by decide) ?_
        exact law_c4 E hq hL (by omega) (by omega) hI hS hl hkk
      by_cases e5 : op = 5
      · refine lv_tableIn (off := 453) (tgt := 492) hx hb dL_law_39 (by rw [e5]; decide) (by rw [e5]; decide) (by rw [e5]; rfl) (by decide) ?_
        exact law_c5 E hq hL (by omega) (by omega) hI hS hl hkk
      by_cases e6 : op = 6
      · refine lv_tableIn (off := 497) (tgt := 536) hx hb dL_law_39 (by rw [e6]; decide) (by rw [e6]; decide) (by rw [e6]; rfl) (by decide) ?_
        exact law_c6 E hq hL (by omega) (by omega) hI hS hl hkk
      by_cases e7 : op = 7
      · refine lv_tableIn (off := 581) (tgt := 620) hx hb dL_law_39 (by rw [e7]; decide) (by rw [e7]; decide) (by rw [e7]; rfl) (by decide) ?_
        exact law_c7 E hq hL (by omega) (by omega) hI hS hl hkk
      by_cases e8 : op = 8
      · refine lv_tableIn (off := 665) (tgt := 704) hx hb dL_law_39 (by rw [e8]; decide) (by rw [e8]; decide) (by rw [e8]; rfl) (by decide) ?_
        exact law_c8 E hq hL (by omega) (by omega) hI hS hl hkk
      by_cases e9 : op = 9
      · refine lv_tableIn (off := 721) (tgt := 760) hx hb dL_law_39 (by rw [e9]; decide) (by rw [e9]; decide) (by rw [e9]; rfl) (by decide) ?_
        exact law_c9 E hq hL (by omega) (by omega) hI hS hl hkk
      by_cases e10 : op = 10
      · refine lv_tableIn (off := 789) (tgt := 828) hx hb dL_law_39 (by rw [e10]; decide) (by rw [e10]; decide) (by rw [e10]; rfl) (by decide) ?_
        exact law_c10 E hq hL (by omega) (by omega) hI hS hl hkk
      by_cases e11 : op = 11
      · refine lv_tableIn (off := 864) (tgt := 903) hx hb dL_law_39 (by rw [e11]; decide) (by rw [e11]; decide) (by rw [e11]; rfl) (by decide) ?_
        exact law_c11 E hq hL (by omega) (by omega) hI hS hl hkk
      by_cases e12 : op = 12
      · refine lv_tableIn (off := 924) (tgt := 963) hx hb dL_law_39 (by rw [e12]; decide) (by rw [e12]; decide) (by rw [e12]; rfl) (by decide) ?_
        exact law_c12 E hq hL (by omega) (by omega) hI hS hl hkk
      by_cases e13 : op = 13
      · refine lv_tableIn (off := 980) (tgt := 1019) hx hb dL_law_39 (by rw [e13]; decide) (by rw [e13]; decide) (by rw [e13]; rfl) (by decide) ?_
        exact law_c13 E hq hL (by omega) (by omega) hI hS hl hkk
      by_cases e14 : op = 14
      · refine lv_tableIn (off := 1036) (tgt := 1075) hx hb dL_law_39 (by rw [e14]; decide) (by rw [e14]; decide) (by rw [e14]; rfl) (by decide) ?_
        exact law_c14 E hq hL (by omega) (by omega) hI hS hl hkk
      by_cases e15 : op = 15
      · refine lv_tableIn (off := 1096) (tgt := 1135) hx hb dL_law_39 (by rw [e15]; decide) (by rw [e15]; decide) (by rw [e15]; rfl) (by decide) ?_
        exact law_c15 E hq hL (by omega) (by omega) hI hS hl hkk
      by_cases e16 : op = 16
      · refine lv_tableIn (off := 1152) (tgt := 1191) hx hb dL_law_39 (by rw [e16]; decide) (by rw [e16]; decide) (by rw [e16]; rfl) (by decide) ?_
        exact law_c16 E hq hL (by omega) (by omega) hI hS hl hkk
      by_cases e17 : op = 17
      · refine lv_tableIn (off := 1165) (tgt := 1204) hx hb dL_law_39 (by rw [e17]; decide) (by rw [e17]; decide) (by rw [e17]; rfl) (by decide) ?_
        exact law_c17 E hq hL (by omega) (by omega) hI hS hl hkk
      by_cases e18 : op = 18
      · refine lv_tableIn (off := 1233) (tgt := 1272) hx hb dL_law_39 (by rw [e18]; decide) (by rw [e18]; decide) (by rw [e18]; rfl) (by decide) ?_
        exact law_c18 E hq hL (by omega) (by omega) hI hS hl hkk
      by_cases e19 : op = 19
      · refine lv_tableIn (off := 1301) (tgt := 1340) hx hb dL_law_39 (by rw [e19]; decide) (by rw [e19]; decide) (by rw [e19]; rfl) (by decide) ?_
        exact law_c19 E hq hL (by omega) (by omega) hI hS hl hkk
      by_cases e20 : op = 20
      · refine lv_tableIn (off := 1369) (tgt := 1408) hx hb dL_law_39 (by rw [e20]; decide) (by rw [e20]; decide) (by rw [e20]; rfl) (by decide) ?_
        exact law_c20 E hq hL (by omega) (by omega) hI hS hl hkk
      by_cases e21 : op = 21
      · refine lv_tableIn (off := 1425) (tgt := 1464) hx hb dL_law_39 (by rw [e21]; decide) (by rw [e21]; decide) (by rw [e21]; rfl) (by decide) ?_
        exact law_c21 E hq hL (by omega) (by omega) hI hS hl hkk
      refine lv_tableOut (tgt := 1477) hx hb dL_law_39 (by have g0 : op.toInt ≠ 0 := fun h => e0 ((i32_of h).trans (by decide)); have g1 : op.toInt ≠ 1 := fun h => e1 ((i32_of h).trans (by decide)); have g2 : op.toInt ≠ 2 := fun h => e2 ((i32_of h).trans (by decide)); have g3 : op.toInt ≠ 3 := fun h => e3 ((i32_of h).trans (by decide)); have g4 : op.toInt ≠ 4 := fun h => e4 ((i32_of h).trans (by decide)); have g5 : op.toInt ≠ 5 := fun h => e5 ((i32_of h).trans (by decide)); have g6 : op.toInt ≠ 6 := fun h => e6 ((i32_of h).trans (by decide)); have g7 : op.toInt ≠ 7 := fun h => e7 ((i32_of h).trans (by decide)); have g8 : op.toInt ≠ 8 := fun h => e8 ((i32_of h).trans (by decide)); have g9 : op.toInt ≠ 9 := fun h => e9 ((i32_of h).trans (by decide)); have g10 : op.toInt ≠ 10 := fun h => e10 ((i32_of h).trans (by decide)); have g11 : op.toInt ≠ 11 := fun h => e11 ((i32_of h).trans (by decide)); have g12 : op.toInt ≠ 12 := fun h => e12 ((i32_of h).trans (by decide)); have g13 : op.toInt ≠ 13 := fun h => e13 ((i32_of h).trans (by decide)); have g14 : op.toInt ≠ 14 := fun h => e14 ((i32_of h).trans (by decide)); have g15 : op.toInt ≠ 15 := fun h => e15 ((i32_of h).trans (by decide)); have g16 : op.toInt ≠ 16 := fun h => e16 ((i32_of h).trans (by decide)); have g17 : op.toInt ≠ 17 := fun h => e17 ((i32_of h).trans (by decide)); have g18 : op.toInt ≠ 18 := fun h => e18 ((i32_of h).trans (by decide)); have g19 : op.toInt ≠ 19 := fun h => e19 ((i32_of h).trans (by decide)); have g20 : op.toInt ≠ 20 := fun h => e20 ((i32_of h).trans (by decide)); have g21 : op.toInt ≠ 21 := fun h => e21 ((i32_of h).trans (by decide)); omega) (by decide) ?_
      refine W.widen (k := 90 + 4 * q + 4) (n := 1533 + 24 * q + 24) (by omega) (by omega) ?_
      exact hkk H locs ls hI.succ hS hl
