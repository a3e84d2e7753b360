/-! printed by abs25.py: the hall's state, its relation to the reference's, the answers as functions of that -/
abbrev CT : Type := (Nat → Int32) × (Nat → Nat → Int32) × (Nat → Nat → Nat → Int32)
abbrev AT : Type := (Nat → Int32) × (Nat → Nat → Int32)
def s1 {α : Type} (f : Nat → α) (i : Nat) (v : α) : Nat → α := fun j => if j = i then v else f j
def sum6 (f : Nat → Int32) : Int32 := 0 + f 0 + f 1 + f 2 + f 3 + f 4 + f 5
theorem RC.mono {n n' : Nat} {cards : Nat → Nat → Int32} {has : Nat → Int32} (h : RC n cards has) (hn : n ≤ n') : RC n' cards has := fun p k hp hk => ⟨(h p k hp hk).1, fun q => (h p k hp hk).2 (by omega)⟩
theorem RD.mono {n n' : Nat} {decks : Nat → Nat → Int32} {sizes deck deckSize : Nat → Int32} (h : RD n decks sizes deck deckSize) (hn : n ≤ n') : RD n' decks sizes deck deckSize := by
  obtain ⟨L, hL⟩ := h
  exact ⟨L, fun p hp => by
    obtain ⟨a1, a2, a3, a4, a5, a6⟩ := hL p hp
    exact ⟨a1, a2, a3, a4, fun k hk => by have := a5 k hk; omega, a6⟩⟩
theorem RW.mono {n n' : Nat} {gives wants mgives mwants : Nat → Int32} (h : RW n gives wants mgives mwants) (hn : n ≤ n') : RW n' gives wants mgives mwants := fun p hp => by
  obtain ⟨a, b⟩ := h p hp
  refine ⟨a, ?_⟩
  rcases b with b | ⟨g, w, h1, h2, h3⟩
  · exact Or.inl b
  · exact Or.inr ⟨g, w, by omega, by omega, h3⟩
theorem RK.day {n d d' : Nat} {effects numbers bans effect number banned : Nat → Int32} (h : RK n d (nI n) effects numbers bans (nI d) (nI n) effect number banned (nI d)) (hd : d' ≤ 1000) : RK n d' (nI n) effects numbers bans (nI d') (nI n) effect number banned (nI d') := ⟨h.1, hd, rfl, rfl, rfl, rfl, h.2.2.2.2.2.2⟩
theorem RKk {n d : Nat} {count kinds : Int32} {effects numbers bans effect number banned : Nat → Int32} (h : RK n d count effects numbers bans (nI d) kinds effect number banned (nI d)) : RK n d (nI n) effects numbers bans (nI d) (nI n) effect number banned (nI d) := ⟨h.1, h.2.1, rfl, rfl, rfl, rfl, h.2.2.2.2.2.2⟩
theorem sum6_set (f : Nat → Int32) (k : Nat) (hk : k < 6) (x : Int32) : sum6 (upd f k x) + f k = sum6 f + x := by
  match k, hk with
  | 0, _ => show 0 + x + f 1 + f 2 + f 3 + f 4 + f 5 + f 0 = 0 + f 0 + f 1 + f 2 + f 3 + f 4 + f 5 + x; ac_rfl
  | 1, _ => show 0 + f 0 + x + f 2 + f 3 + f 4 + f 5 + f 1 = 0 + f 0 + f 1 + f 2 + f 3 + f 4 + f 5 + x; ac_rfl
  | 2, _ => show 0 + f 0 + f 1 + x + f 3 + f 4 + f 5 + f 2 = 0 + f 0 + f 1 + f 2 + f 3 + f 4 + f 5 + x; ac_rfl
  | 3, _ => show 0 + f 0 + f 1 + f 2 + x + f 4 + f 5 + f 3 = 0 + f 0 + f 1 + f 2 + f 3 + f 4 + f 5 + x; ac_rfl
  | 4, _ => show 0 + f 0 + f 1 + f 2 + f 3 + x + f 5 + f 4 = 0 + f 0 + f 1 + f 2 + f 3 + f 4 + f 5 + x; ac_rfl
  | 5, _ => show 0 + f 0 + f 1 + f 2 + f 3 + f 4 + x + f 5 = 0 + f 0 + f 1 + f 2 + f 3 + f 4 + f 5 + x; ac_rfl
  | k + 6, hk => exact absurd hk (by omega)
theorem i32_grp (s0 s1 s2 x y g : Int32) (h1 : s1 + x = s0 + (x + g)) (h2 : s2 + y = s1 + (y - g)) : s2 = s0 := by
  have h1 := congrArg Int32.toBitVec h1
  have h2 := congrArg Int32.toBitVec h2
  apply Int32.toBitVec_inj.1
  simp only [Int32.toBitVec_add, Int32.toBitVec_sub] at h1 h2
  generalize s0.toBitVec = a at *
  generalize s1.toBitVec = b at *
  generalize s2.toBitVec = c at *
  bv_omega
theorem sum6_upd {f : Nat → Int32} {a b : Nat} {g : Int32} (ha : a < 6) (hb : b < 6) (e : a ≠ b) : sum6 (upd (upd f a (f a + g)) b (f b - g)) = sum6 f := by
  have h1 := sum6_set f a ha (f a + g)
  have h2 := sum6_set (upd f a (f a + g)) b hb (f b - g)
  rw [upd_n (Ne.symm e)] at h2
  exact i32_grp _ _ _ _ _ _ h1 h2
theorem result_shape (strength haveMet : Nat → Int32) (p1 p2 : Int32) : (∃ (a b : Nat) (g : Int32) (hm : Nat → Int32), a < 6 ∧ b < 6 ∧ a ≠ b ∧ fX9_result 0 strength haveMet p1 p2 = some (g, 0, upd (upd strength a (strength a + g)) b (strength b - g), hm)) ∨ ∃ b t, t ≠ 0 ∧ fX9_result 0 strength haveMet p1 p2 = some (b, t, strength, haveMet) := by
  unfold fX9_result fX9_result_b18 fX9_result_b19 fX9_result_b39 fX9_result_b91
  rcases in_n p1 6 (by omega) with ⟨a, ha, rfl⟩ | ⟨ha, -⟩
  · rcases in_n p2 6 (by omega) with ⟨b, hb, rfl⟩ | ⟨hb, -⟩
    · by_cases e : a = b
      · right
        subst e
        rw [isPlayer_ok ha, ob_some, if_neg one0, ob_some, if_neg one0, if_neg one0, if_pos rfl, goesWell_2, ob_some]
        exact ⟨_, 2, by decide, rfl⟩
      · left
        have e9 : ¬ nI a = nI b := neqI (by omega) (by omega) e
        generalize hx : (16 + (strength b - strength a) / 4 : Int32) = x
        refine ⟨a, b, (if 1 ≤ x then (if x ≤ 32 then x else 32) else (1 : Int32)), upd (upd haveMet (6 * a + b) 1) (6 * b + a) 1, ha, hb, e, ?_⟩
        rw [isPlayer_ok ha, ob_some, if_neg one0, isPlayer_ok hb, ob_some, if_neg one0, if_neg one0, if_neg e9, goesWell_0, ob_some]
        dsimp only
        rw [if_neg one0, g_nI hb (by omega), ck_true, g_nI ha (by omega), ck_true, nm_eq, clN (show a < 2147483648 by omega), clN (show b < 2147483648 by omega), hx, ix6, ix6, g_nI (show 6 * a + b < 36 by omega) (by omega), g_nI (show 6 * b + a < 36 by omega) (by omega), clN (show 6 * a + b < 2147483648 by omega), clN (show 6 * b + a < 2147483648 by omega)]
        simp only [ck_true, nm_eq, upd_n (Ne.symm e)]
        split
        · split <;> rfl
        · rfl
    · right
      rw [isPlayer_ok ha, ob_some, if_neg one0, isPlayer_bad hb, ob_some, if_pos rfl, if_pos rfl, goesWell_1, ob_some]
      exact ⟨_, 1, by decide, rfl⟩
  · right
    rw [isPlayer_bad ha, ob_some, if_pos rfl, if_pos rfl, goesWell_1, ob_some]
    exact ⟨_, 1, by decide, rfl⟩
theorem sum_result {strength haveMet y1 y2 : Nat → Int32} {r p1 p2 : Int32} (hg : fX9_result 0 strength haveMet p1 p2 = some (r, 0, y1, y2)) (h6 : sum6 strength = 6000) : sum6 y1 = 6000 := by
  rcases result_shape strength haveMet p1 p2 with ⟨a, b, g, hm, ha, hb, e, h⟩ | ⟨b, t, ht, h⟩
  · rw [h] at hg
    simp only [Option.some.injEq, Prod.mk.injEq] at hg
    rw [← hg.2.2.1, sum6_upd ha hb e]
    exact h6
  · rw [h] at hg
    simp only [Option.some.injEq, Prod.mk.injEq] at hg
    exact absurd hg.2.1 ht
/-- the hall and the reference, q calls done -/
def Rel (q : Nat) (a : AT) (σ : CT) : Prop := ∃ n d z k : Nat, k ≤ q ∧ (σ.1 0) = nI d ∧ (σ.1 1) = nI n ∧ (σ.1 2) = nI z ∧ (σ.1 8) = nI k ∧ (a.1 0) = nI n ∧ (a.1 1) = nI d ∧ (a.1 2) = nI z ∧
    RK n d (nI n) (σ.2.1 0) (σ.2.1 1) (σ.2.1 2) (nI d) (nI n) (a.2 0) (a.2 1) (a.2 2) (nI d) ∧ RC n (σ.2.2 0) (a.2 3) ∧ RD n (σ.2.2 1) (σ.2.1 3) (a.2 8) (a.2 9) ∧
    RT z (σ.2.1 6) (σ.2.1 7) (σ.2.1 8) (σ.2.1 9) (σ.2.1 4) (σ.2.1 5) (a.2 11) (a.2 12) (a.2 10) (a.2 13) (a.2 4) (a.2 5) ∧
    HS (σ.2.1 16) k (stk (gC (σ.2.1 6) (σ.2.1 7) (σ.2.1 8) (σ.2.1 9)) z, lF (σ.2.1 4), lF (σ.2.1 5)) ∧
    RDr n (σ.1 10) (σ.1 11) (σ.1 12) (σ.1 13) (σ.2.2 2) (a.1 3) (a.1 4) (a.1 5) (a.1 6) (a.2 14) (a.2 15) ∧
    RW n (σ.2.1 23) (σ.2.1 24) (a.2 16) (a.2 17) ∧ RM (σ.2.1 26) (σ.2.1 27) (a.2 6) (a.2 7) ∧ sum6 (a.2 6) = 6000
theorem Rel.mono {q q' : Nat} {a : AT} {σ : CT} (h : Rel q a σ) (hq : q ≤ q') : Rel q' a σ := by
  obtain ⟨n, d, z, k, hkq, h⟩ := h
  exact ⟨n, d, z, k, Nat.le_trans hkq hq, h⟩
set_option maxRecDepth 10000 in
def rHas (a : AT) (p1 p2 : Int32) : Option (Int32 × AT) := match fX9_has 0 (a.1 0) (a.2 3) p1 p2 with
  | some (r, t) => if t = 0 then some (r, (a.1, a.2)) else none
  | none => none
set_option maxRecDepth 10000 in
def rStrength (a : AT) (p1 : Int32) : Option (Int32 × AT) := match fX9_strength 0 (a.2 6) p1 with
  | some (r, t) => if t = 0 then some (r, (a.1, a.2)) else none
  | none => none
set_option maxRecDepth 10000 in
def rLife (a : AT) (p1 p2 : Int32) : Option (Int32 × AT) := match fX9_life 0 (a.2 4) (a.2 5) p1 p2 with
  | some (r, t) => if t = 0 then some (r, (a.1, a.2)) else none
  | none => none
set_option maxRecDepth 10000 in
def rGet (a : AT) (p1 p2 p3 : Int32) : Option (Int32 × AT) := match fX9_get 0 (a.1 0) (a.2 3) p1 p2 p3 with
  | some (r, t, x_has) => if t = 0 then some (r, (a.1, (s1 a.2 3 x_has))) else none
  | none => none
set_option maxRecDepth 10000 in
def rPass (a : AT) (p1 : Int32) : Option (Int32 × AT) := match fX9_pass 0 (a.1 1) p1 with
  | some (r, t, x_today) => if t = 0 then some (r, ((s1 a.1 1 x_today), a.2)) else none
  | none => none
set_option maxRecDepth 10000 in
def rKind (a : AT) (p1 p2 : Int32) : Option (Int32 × AT) := match fX9_kind 0 (a.1 0) (a.2 0) (a.2 1) (a.2 2) p1 p2 with
  | some (r, t, x_kinds, x_effect, x_number, x_banned) => if t = 0 then some (r, ((s1 a.1 0 x_kinds), (s1 (s1 (s1 a.2 0 x_effect) 1 x_number) 2 x_banned))) else none
  | none => none
set_option maxRecDepth 10000 in
def rWish (a : AT) (p1 p2 p3 : Int32) : Option (Int32 × AT) := match fX9_wish 0 (a.1 0) (a.2 16) (a.2 17) p1 p2 p3 with
  | some (t, x_gives, x_wants) => if t = 0 then some (0, (a.1, (s1 (s1 a.2 16 x_gives) 17 x_wants))) else none
  | none => none
set_option maxRecDepth 10000 in
def rResult (a : AT) (p1 p2 : Int32) : Option (Int32 × AT) := match fX9_result 0 (a.2 6) (a.2 7) p1 p2 with
  | some (r, t, x_strength, x_haveMet) => if t = 0 then some (r, (a.1, (s1 (s1 a.2 6 x_strength) 7 x_haveMet))) else none
  | none => none
set_option maxRecDepth 10000 in
def rBan (a : AT) (p1 p2 : Int32) : Option (Int32 × AT) := match fX9_ban 0 (a.1 1) (a.1 0) (a.2 2) (a.2 8) (a.2 9) p1 p2 with
  | some (r, t, x_banned) => if t = 0 then some (r, (a.1, (s1 a.2 2 x_banned))) else none
  | none => none
set_option maxRecDepth 10000 in
def rPut (a : AT) (p1 p2 : Int32) : Option (Int32 × AT) := match fX9_put 0 (a.1 0) (a.2 3) (a.2 8) (a.2 9) p1 p2 with
  | some (r, t, x_deck, x_deckSize) => if t = 0 then some (r, (a.1, (s1 (s1 a.2 8 x_deck) 9 x_deckSize))) else none
  | none => none
set_option maxRecDepth 10000 in
def rIsGood (a : AT) (p1 p2 : Int32) : Option (Int32 × AT) := match fX9_isGood 0 (a.1 1) (a.1 0) (a.2 2) (a.2 3) (a.2 8) (a.2 9) p1 p2 with
  | some (r, t) => if t = 0 then some (r, (a.1, a.2)) else none
  | none => none
set_option maxRecDepth 10000 in
def rOffered (a : AT) (p1 : Int32) : Option (Int32 × AT) := match fX9_offered 0 (a.1 3) (a.1 5) (a.1 6) (a.2 14) (a.2 15) p1 with
  | some (r, t) => if t = 0 then some (r, (a.1, a.2)) else none
  | none => none
set_option maxRecDepth 10000 in
def rDraft (a : AT) (p1 p2 p3 : Int32) : Option (Int32 × AT) := match fX9_draft 0 (a.1 0) (a.1 3) (a.1 4) (a.1 5) (a.1 6) (a.2 14) (a.2 15) p1 p2 p3 with
  | some (t, x_drafters, x_cards, x_round, x_turn, x_pack, x_packSize) => if t = 0 then some (0, ((s1 (s1 (s1 (s1 a.1 3 x_drafters) 4 x_cards) 5 x_round) 6 x_turn), (s1 (s1 a.2 14 x_pack) 15 x_packSize))) else none
  | none => none
set_option maxRecDepth 10000 in
def rPick (a : AT) (p1 : Int32) : Option (Int32 × AT) := match fX9_pick 0 (a.1 3) (a.1 4) (a.1 5) (a.1 6) (a.2 3) (a.2 14) (a.2 15) p1 with
  | some (r, t, x_round, x_turn, x_has, x_pack, x_packSize) => if t = 0 then some (r, ((s1 (s1 a.1 5 x_round) 6 x_turn), (s1 (s1 (s1 a.2 3 x_has) 14 x_pack) 15 x_packSize))) else none
  | none => none
set_option maxRecDepth 10000 in
def rLifeAnew (a : AT) (p1 : Int32) : Option (Int32 × AT) := match fX9_lifeAnew 0 (a.2 4) p1 with
  | some (r, t) => if t = 0 then some (r, (a.1, a.2)) else none
  | none => none
set_option maxRecDepth 10000 in
def rPlay (a : AT) (p1 p2 p3 : Int32) : Option (Int32 × AT) := match fX9_play 0 (a.1 1) (a.1 0) (a.1 2) (a.2 0) (a.2 1) (a.2 2) (a.2 3) (a.2 10) (a.2 11) (a.2 12) (a.2 13) p1 p2 p3 with
  | some (r, t, x_stacked, x_who, x_does, x_much, x_against) => if t = 0 then some (r, ((s1 a.1 2 x_stacked), (s1 (s1 (s1 (s1 a.2 10 x_who) 11 x_does) 12 x_much) 13 x_against))) else none
  | none => none
set_option maxRecDepth 10000 in
def rTop (a : AT) : Option (Int32 × AT) := match fX9_top 0 (a.1 2) 0 (a.2 4) (a.2 5) (a.2 10) (a.2 11) (a.2 12) (a.2 13) (fun _ => (0 : Int32)) (fun _ => (0 : Int32)) (fun _ => (0 : Int64)) (fun _ => (0 : Int32)) (fun _ => (0 : Int64)) (fun _ => (0 : Int64)) with
  | some (r, t, x_stacked, _, x_life, x_shield, x_who, x_does, x_much, x_against, _) => if t = 0 then some (r, ((s1 a.1 2 x_stacked), (s1 (s1 (s1 (s1 (s1 (s1 a.2 4 x_life) 5 x_shield) 10 x_who) 11 x_does) 12 x_much) 13 x_against))) else none
  | none => none
set_option maxRecDepth 10000 in
def rBound (a : AT) (p1 p2 : Int32) : Option (Int32 × AT) := match fX9_bound 0 (a.1 2) 0 (a.2 4) (a.2 5) (a.2 10) (a.2 11) (a.2 12) (a.2 13) (fun _ => (0 : Int32)) (fun _ => (0 : Int32)) (fun _ => (0 : Int64)) (fun _ => (0 : Int32)) (fun _ => (0 : Int64)) (fun _ => (0 : Int64)) p1 p2 with
  | some (r, t, _, _) => if t = 0 then some (r, (a.1, a.2)) else none
  | none => none
set_option maxRecDepth 10000 in
def rRing (a : AT) (p1 : Int32) : Option (Int32 × AT) := match fX9_ring 0 0 (a.2 3) (a.2 16) (a.2 17) (fun _ => (0 : Int32)) p1 with
  | some (r, t, _, _) => if t = 0 then some (r, (a.1, a.2)) else none
  | none => none
set_option maxRecDepth 10000 in
def rSwap (a : AT) : Option (Int32 × AT) := match fX9_swap 0 0 (a.2 3) (a.2 16) (a.2 17) (fun _ => (0 : Int32)) with
  | some (r, t, _, x_has, x_gives, _) => if t = 0 then some (r, (a.1, (s1 (s1 a.2 3 x_has) 16 x_gives))) else none
  | none => none
set_option maxRecDepth 10000 in
def rPair (a : AT) (p1 p2 : Int32) : Option (Int32 × AT) := match fX9_pair 0 0 (a.2 6) (a.2 7) (fun _ => (0 : Int32)) p1 p2 with
  | some (r, t, _, _) => if t = 0 then some (r, (a.1, a.2)) else none
  | none => none
def rStacked (a : AT) : Option (Int32 × AT) := some (a.1 2, a)
set_option maxRecDepth 10000 in
set_option maxHeartbeats 2000000 in
theorem n_has {q : Nat} {a : AT} {σ : CT} (h : Rel q a σ) (p1 p2 : Int32) : ∃ o : (Int32 × Unit) ⊕ (String × Unit), fX8_has (σ.1 1) (σ.2.2 0) p1 p2 = some o ∧ ((∃ r u a', o = .inl (r, u) ∧ rHas a p1 p2 = some (r, a') ∧ Rel q a' σ) ∨ ∃ E u, o = .inr (E, u) ∧ E ∈ (["java/lang/IndexOutOfBoundsException"] : List String) ∧ rHas a p1 p2 = none ∧ Rel q a σ) := by
  obtain ⟨n, d, z, k, hkq, e1, e2, e3, e4, e5, e6, e7, hK, hC, hD, hT, hH, hDr, hW, hM, h6⟩ := h
  rw [e2]
  rcases m_has hK hC 0 p1 p2 with ⟨r, hf, hg⟩ | ⟨hf, b, hg⟩
  · exact ⟨_, hf, Or.inl ⟨_, _, (a.1, a.2), rfl, (by unfold rHas; rw [e5, hg]; exact if_pos rfl), ⟨n, d, z, k, hkq, e1, e2, e3, e4, e5, e6, e7, hK, hC, hD, hT, hH, hDr, hW, hM, h6⟩⟩⟩
  · exact ⟨_, hf, Or.inr ⟨_, _, rfl, (by decide), (by unfold rHas; rw [e5, hg]; exact if_neg (by decide)), ⟨n, d, z, k, hkq, e1, e2, e3, e4, e5, e6, e7, hK, hC, hD, hT, hH, hDr, hW, hM, h6⟩⟩⟩
set_option maxRecDepth 10000 in
set_option maxHeartbeats 2000000 in
theorem n_strength {q : Nat} {a : AT} {σ : CT} (h : Rel q a σ) (p1 : Int32) : ∃ o : (Int32 × Unit) ⊕ (String × Unit), fX8_strength (σ.2.1 26) p1 = some o ∧ ((∃ r u a', o = .inl (r, u) ∧ rStrength a p1 = some (r, a') ∧ Rel q a' σ) ∨ ∃ E u, o = .inr (E, u) ∧ E ∈ (["java/lang/IndexOutOfBoundsException"] : List String) ∧ rStrength a p1 = none ∧ Rel q a σ) := by
  obtain ⟨n, d, z, k, hkq, e1, e2, e3, e4, e5, e6, e7, hK, hC, hD, hT, hH, hDr, hW, hM, h6⟩ := h
  rcases m_strength hM.1 0 p1 with ⟨r, hf, hg⟩ | ⟨hf, b, hg⟩
  · exact ⟨_, hf, Or.inl ⟨_, _, (a.1, a.2), rfl, (by unfold rStrength; rw [hg]; exact if_pos rfl), ⟨n, d, z, k, hkq, e1, e2, e3, e4, e5, e6, e7, hK, hC, hD, hT, hH, hDr, hW, hM, h6⟩⟩⟩
  · exact ⟨_, hf, Or.inr ⟨_, _, rfl, (by decide), (by unfold rStrength; rw [hg]; exact if_neg (by decide)), ⟨n, d, z, k, hkq, e1, e2, e3, e4, e5, e6, e7, hK, hC, hD, hT, hH, hDr, hW, hM, h6⟩⟩⟩
set_option maxRecDepth 10000 in
set_option maxHeartbeats 2000000 in
theorem n_life {q : Nat} {a : AT} {σ : CT} (h : Rel q a σ) (p1 p2 : Int32) : ∃ o : (Int32 × Unit) ⊕ (String × Unit), fX8_life (σ.2.1 4) (σ.2.1 5) p1 p2 = some o ∧ ((∃ r u a', o = .inl (r, u) ∧ rLife a p1 p2 = some (r, a') ∧ Rel q a' σ) ∨ ∃ E u, o = .inr (E, u) ∧ E ∈ (["java/lang/IndexOutOfBoundsException"] : List String) ∧ rLife a p1 p2 = none ∧ Rel q a σ) := by
  obtain ⟨n, d, z, k, hkq, e1, e2, e3, e4, e5, e6, e7, hK, hC, hD, hT, hH, hDr, hW, hM, h6⟩ := h
  rcases m_life (fun p hp => (hT.2.2.2 p hp).1.symm) (fun p hp => (hT.2.2.2 p hp).2.symm) 0 p1 p2 with ⟨r, hf, hg⟩ | ⟨hf, b, hg⟩
  · exact ⟨_, hf, Or.inl ⟨_, _, (a.1, a.2), rfl, (by unfold rLife; rw [hg]; exact if_pos rfl), ⟨n, d, z, k, hkq, e1, e2, e3, e4, e5, e6, e7, hK, hC, hD, hT, hH, hDr, hW, hM, h6⟩⟩⟩
  · exact ⟨_, hf, Or.inr ⟨_, _, rfl, (by decide), (by unfold rLife; rw [hg]; exact if_neg (by decide)), ⟨n, d, z, k, hkq, e1, e2, e3, e4, e5, e6, e7, hK, hC, hD, hT, hH, hDr, hW, hM, h6⟩⟩⟩
set_option maxRecDepth 10000 in
set_option maxHeartbeats 2000000 in
theorem n_get {q : Nat} {a : AT} {σ : CT} (h : Rel q a σ) (p1 p2 p3 : Int32) : ∃ o : (Int32 × (Nat → Nat → Int32)) ⊕ (String × (Nat → Nat → Int32)), fX8_get (σ.1 1) (σ.2.2 0) p1 p2 p3 = some o ∧ ((∃ r u a', o = .inl (r, u) ∧ rGet a p1 p2 p3 = some (r, a') ∧ Rel q a' (σ.1, σ.2.1, (s1 σ.2.2 0 u))) ∨ ∃ E u, o = .inr (E, u) ∧ E ∈ (["java/lang/IndexOutOfBoundsException", "java/lang/IllegalArgumentException"] : List String) ∧ rGet a p1 p2 p3 = none ∧ Rel q a (σ.1, σ.2.1, (s1 σ.2.2 0 u))) := by
  obtain ⟨n, d, z, k, hkq, e1, e2, e3, e4, e5, e6, e7, hK, hC, hD, hT, hH, hDr, hW, hM, h6⟩ := h
  rw [e2]
  rcases m_get hK hC 0 p1 p2 p3 with ⟨r, c1, h1, hf, hg, hC'⟩ | ⟨hf, b, hg⟩ | ⟨hf, b, hg⟩
  · exact ⟨_, hf, Or.inl ⟨_, _, (a.1, (s1 a.2 3 h1)), rfl, (by unfold rGet; rw [e5, hg]; exact if_pos rfl), ⟨n, d, z, k, hkq, e1, e2, e3, e4, e5, e6, e7, hK, hC', hD, hT, hH, hDr, hW, hM, h6⟩⟩⟩
  · exact ⟨_, hf, Or.inr ⟨_, _, rfl, (by decide), (by unfold rGet; rw [e5, hg]; exact if_neg (by decide)), ⟨n, d, z, k, hkq, e1, e2, e3, e4, e5, e6, e7, hK, hC, hD, hT, hH, hDr, hW, hM, h6⟩⟩⟩
  · exact ⟨_, hf, Or.inr ⟨_, _, rfl, (by decide), (by unfold rGet; rw [e5, hg]; exact if_neg (by decide)), ⟨n, d, z, k, hkq, e1, e2, e3, e4, e5, e6, e7, hK, hC, hD, hT, hH, hDr, hW, hM, h6⟩⟩⟩
set_option maxRecDepth 10000 in
set_option maxHeartbeats 2000000 in
theorem n_pass {q : Nat} {a : AT} {σ : CT} (h : Rel q a σ) (p1 : Int32) : ∃ o : (Int32 × Int32) ⊕ (String × Int32), fX8_pass (σ.1 0) p1 = some o ∧ ((∃ r u a', o = .inl (r, u) ∧ rPass a p1 = some (r, a') ∧ Rel q a' ((s1 σ.1 0 u), σ.2.1, σ.2.2)) ∨ ∃ E u, o = .inr (E, u) ∧ E ∈ (["java/lang/IllegalArgumentException", "java/lang/IllegalStateException"] : List String) ∧ rPass a p1 = none ∧ Rel q a ((s1 σ.1 0 u), σ.2.1, σ.2.2)) := by
  obtain ⟨n, d, z, k, hkq, e1, e2, e3, e4, e5, e6, e7, hK, hC, hD, hT, hH, hDr, hW, hM, h6⟩ := h
  rw [e1]
  rcases m_pass hK.2.1 0 p1 with ⟨d', hd1, hd2, hf, hg⟩ | ⟨hf, b, hg⟩ | ⟨hf, b, hg⟩
  · exact ⟨_, hf, Or.inl ⟨_, _, ((s1 a.1 1 (nI d')), a.2), rfl, (by unfold rPass; rw [e6, hg]; exact if_pos rfl), ⟨n, d', z, k, hkq, rfl, e2, e3, e4, e5, rfl, e7, (RK.day hK hd2), hC, hD, hT, hH, hDr, hW, hM, h6⟩⟩⟩
  · exact ⟨_, hf, Or.inr ⟨_, _, rfl, (by decide), (by unfold rPass; rw [e6, hg]; exact if_neg (by decide)), ⟨n, d, z, k, hkq, rfl, e2, e3, e4, e5, e6, e7, hK, hC, hD, hT, hH, hDr, hW, hM, h6⟩⟩⟩
  · exact ⟨_, hf, Or.inr ⟨_, _, rfl, (by decide), (by unfold rPass; rw [e6, hg]; exact if_neg (by decide)), ⟨n, d, z, k, hkq, rfl, e2, e3, e4, e5, e6, e7, hK, hC, hD, hT, hH, hDr, hW, hM, h6⟩⟩⟩
set_option maxRecDepth 10000 in
set_option maxHeartbeats 2000000 in
theorem n_kind {q : Nat} {a : AT} {σ : CT} (h : Rel q a σ) (p1 p2 : Int32) : ∃ o : (Int32 × Int32 × (Nat → Int32) × (Nat → Int32) × (Nat → Int32)) ⊕ (String × Int32 × (Nat → Int32) × (Nat → Int32) × (Nat → Int32)), fX8_kind (σ.1 1) (σ.2.1 0) (σ.2.1 1) (σ.2.1 2) p1 p2 = some o ∧ ((∃ r u a', o = .inl (r, u) ∧ rKind a p1 p2 = some (r, a') ∧ Rel q a' ((s1 σ.1 1 (u.1)), (s1 (s1 (s1 σ.2.1 0 (u.2.1)) 1 (u.2.2.1)) 2 (u.2.2.2)), σ.2.2)) ∨ ∃ E u, o = .inr (E, u) ∧ E ∈ (["java/lang/IllegalArgumentException", "java/lang/IllegalStateException"] : List String) ∧ rKind a p1 p2 = none ∧ Rel q a ((s1 σ.1 1 (u.1)), (s1 (s1 (s1 σ.2.1 0 (u.2.1)) 1 (u.2.2.1)) 2 (u.2.2.2)), σ.2.2)) := by
  obtain ⟨n, d, z, k, hkq, e1, e2, e3, e4, e5, e6, e7, hK, hC, hD, hT, hH, hDr, hW, hM, h6⟩ := h
  rw [e2]
  rcases m_kind hK 0 p1 p2 with ⟨x1, x2, x3, x4, y1, y2, y3, y4, hf, hg, hK'⟩ | ⟨hf, b, hg⟩ | ⟨hf, b, hg⟩
  · exact ⟨_, hf, Or.inl ⟨_, _, ((s1 a.1 0 y1), (s1 (s1 (s1 a.2 0 y2) 1 y3) 2 y4)), rfl, (by unfold rKind; rw [e5, hg]; exact if_pos rfl), ⟨(n + 1), d, z, k, hkq, e1, hK'.2.2.1, e3, e4, hK'.2.2.2.1, e6, e7, (RKk hK'), (hC.mono (Nat.le_succ n)), (hD.mono (Nat.le_succ n)), hT, hH, (hDr.mono (Nat.le_succ n)), (hW.mono (Nat.le_succ n)), hM, h6⟩⟩⟩
  · exact ⟨_, hf, Or.inr ⟨_, _, rfl, (by decide), (by unfold rKind; rw [e5, hg]; exact if_neg (by decide)), ⟨n, d, z, k, hkq, e1, rfl, e3, e4, e5, e6, e7, hK, hC, hD, hT, hH, hDr, hW, hM, h6⟩⟩⟩
  · exact ⟨_, hf, Or.inr ⟨_, _, rfl, (by decide), (by unfold rKind; rw [e5, hg]; exact if_neg (by decide)), ⟨n, d, z, k, hkq, e1, rfl, e3, e4, e5, e6, e7, hK, hC, hD, hT, hH, hDr, hW, hM, h6⟩⟩⟩
set_option maxRecDepth 10000 in
set_option maxHeartbeats 2000000 in
theorem n_wish {q : Nat} {a : AT} {σ : CT} (h : Rel q a σ) (p1 p2 p3 : Int32) : ∃ o : (Unit × (Nat → Int32) × (Nat → Int32)) ⊕ (String × (Nat → Int32) × (Nat → Int32)), fX8_wish (σ.1 1) (σ.2.1 23) (σ.2.1 24) p1 p2 p3 = some o ∧ ((∃ r u a', o = .inl (r, u) ∧ rWish a p1 p2 p3 = some (0, a') ∧ Rel q a' (σ.1, (s1 (s1 σ.2.1 23 (u.1)) 24 (u.2)), σ.2.2)) ∨ ∃ E u, o = .inr (E, u) ∧ E ∈ (["java/lang/IndexOutOfBoundsException", "java/lang/IllegalArgumentException"] : List String) ∧ rWish a p1 p2 p3 = none ∧ Rel q a (σ.1, (s1 (s1 σ.2.1 23 (u.1)) 24 (u.2)), σ.2.2)) := by
  obtain ⟨n, d, z, k, hkq, e1, e2, e3, e4, e5, e6, e7, hK, hC, hD, hT, hH, hDr, hW, hM, h6⟩ := h
  rw [e2]
  rcases m_wish hK hW 0 p1 p2 p3 with ⟨x1, x2, y1, y2, hf, hg, hW'⟩ | ⟨hf, hg⟩ | ⟨hf, hg⟩
  · exact ⟨_, hf, Or.inl ⟨_, _, (a.1, (s1 (s1 a.2 16 y1) 17 y2)), rfl, (by unfold rWish; rw [e5, hg]; exact if_pos rfl), ⟨n, d, z, k, hkq, e1, e2, e3, e4, e5, e6, e7, hK, hC, hD, hT, hH, hDr, hW', hM, h6⟩⟩⟩
  · exact ⟨_, hf, Or.inr ⟨_, _, rfl, (by decide), (by unfold rWish; rw [e5, hg]; exact if_neg (by decide)), ⟨n, d, z, k, hkq, e1, e2, e3, e4, e5, e6, e7, hK, hC, hD, hT, hH, hDr, hW, hM, h6⟩⟩⟩
  · exact ⟨_, hf, Or.inr ⟨_, _, rfl, (by decide), (by unfold rWish; rw [e5, hg]; exact if_neg (by decide)), ⟨n, d, z, k, hkq, e1, e2, e3, e4, e5, e6, e7, hK, hC, hD, hT, hH, hDr, hW, hM, h6⟩⟩⟩
set_option maxRecDepth 10000 in
set_option maxHeartbeats 2000000 in
theorem n_result {q : Nat} {a : AT} {σ : CT} (h : Rel q a σ) (p1 p2 : Int32) : ∃ o : (Int32 × (Nat → Int32) × (Nat → Int32)) ⊕ (String × (Nat → Int32) × (Nat → Int32)), fX8_result (σ.2.1 26) (σ.2.1 27) p1 p2 = some o ∧ ((∃ r u a', o = .inl (r, u) ∧ rResult a p1 p2 = some (r, a') ∧ Rel q a' (σ.1, (s1 (s1 σ.2.1 26 (u.1)) 27 (u.2)), σ.2.2)) ∨ ∃ E u, o = .inr (E, u) ∧ E ∈ (["java/lang/IndexOutOfBoundsException", "java/lang/IllegalArgumentException"] : List String) ∧ rResult a p1 p2 = none ∧ Rel q a (σ.1, (s1 (s1 σ.2.1 26 (u.1)) 27 (u.2)), σ.2.2)) := by
  obtain ⟨n, d, z, k, hkq, e1, e2, e3, e4, e5, e6, e7, hK, hC, hD, hT, hH, hDr, hW, hM, h6⟩ := h
  rcases m_result hM 0 p1 p2 with ⟨r, x1, x2, y1, y2, hf, hg, hM'⟩ | ⟨hf, b, hg⟩ | ⟨hf, b, hg⟩
  · exact ⟨_, hf, Or.inl ⟨_, _, (a.1, (s1 (s1 a.2 6 y1) 7 y2)), rfl, (by unfold rResult; rw [hg]; exact if_pos rfl), ⟨n, d, z, k, hkq, e1, e2, e3, e4, e5, e6, e7, hK, hC, hD, hT, hH, hDr, hW, hM', (sum_result hg h6)⟩⟩⟩
  · exact ⟨_, hf, Or.inr ⟨_, _, rfl, (by decide), (by unfold rResult; rw [hg]; exact if_neg (by decide)), ⟨n, d, z, k, hkq, e1, e2, e3, e4, e5, e6, e7, hK, hC, hD, hT, hH, hDr, hW, hM, h6⟩⟩⟩
  · exact ⟨_, hf, Or.inr ⟨_, _, rfl, (by decide), (by unfold rResult; rw [hg]; exact if_neg (by decide)), ⟨n, d, z, k, hkq, e1, e2, e3, e4, e5, e6, e7, hK, hC, hD, hT, hH, hDr, hW, hM, h6⟩⟩⟩
set_option maxRecDepth 10000 in
set_option maxHeartbeats 2000000 in
theorem n_ban {q : Nat} {a : AT} {σ : CT} (h : Rel q a σ) (p1 p2 : Int32) : ∃ o : (Int32 × (Nat → Int32)) ⊕ (String × (Nat → Int32)), fX8_ban (σ.1 0) (σ.1 1) (σ.2.1 2) (σ.2.2 1) p1 p2 = some o ∧ ((∃ r u a', o = .inl (r, u) ∧ rBan a p1 p2 = some (r, a') ∧ Rel q a' (σ.1, (s1 σ.2.1 2 u), σ.2.2)) ∨ ∃ E u, o = .inr (E, u) ∧ E ∈ (["java/lang/IndexOutOfBoundsException", "java/lang/IllegalArgumentException"] : List String) ∧ rBan a p1 p2 = none ∧ Rel q a (σ.1, (s1 σ.2.1 2 u), σ.2.2)) := by
  obtain ⟨n, d, z, k, hkq, e1, e2, e3, e4, e5, e6, e7, hK, hC, hD, hT, hH, hDr, hW, hM, h6⟩ := h
  rw [e1, e2]
  rcases m_ban hK hD 0 p1 p2 with ⟨r, x1, y1, hf, hg, hK'⟩ | ⟨hf, b, hg⟩ | ⟨hf, b, hg⟩
  · exact ⟨_, hf, Or.inl ⟨_, _, (a.1, (s1 a.2 2 y1)), rfl, (by unfold rBan; rw [e6, e5, hg]; exact if_pos rfl), ⟨n, d, z, k, hkq, e1, e2, e3, e4, e5, e6, e7, hK', hC, hD, hT, hH, hDr, hW, hM, h6⟩⟩⟩
  · exact ⟨_, hf, Or.inr ⟨_, _, rfl, (by decide), (by unfold rBan; rw [e6, e5, hg]; exact if_neg (by decide)), ⟨n, d, z, k, hkq, e1, e2, e3, e4, e5, e6, e7, hK, hC, hD, hT, hH, hDr, hW, hM, h6⟩⟩⟩
  · exact ⟨_, hf, Or.inr ⟨_, _, rfl, (by decide), (by unfold rBan; rw [e6, e5, hg]; exact if_neg (by decide)), ⟨n, d, z, k, hkq, e1, e2, e3, e4, e5, e6, e7, hK, hC, hD, hT, hH, hDr, hW, hM, h6⟩⟩⟩
set_option maxRecDepth 10000 in
set_option maxHeartbeats 2000000 in
theorem n_put {q : Nat} {a : AT} {σ : CT} (h : Rel q a σ) (p1 p2 : Int32) : ∃ o : (Int32 × (Nat → Nat → Int32) × (Nat → Int32)) ⊕ (String × (Nat → Nat → Int32) × (Nat → Int32)), fX8_put (σ.1 1) (σ.2.2 0) (σ.2.2 1) (σ.2.1 3) p1 p2 = some o ∧ ((∃ r u a', o = .inl (r, u) ∧ rPut a p1 p2 = some (r, a') ∧ Rel q a' (σ.1, (s1 σ.2.1 3 (u.2)), (s1 σ.2.2 1 (u.1)))) ∨ ∃ E u, o = .inr (E, u) ∧ E ∈ (["java/lang/IndexOutOfBoundsException", "java/lang/IllegalStateException"] : List String) ∧ rPut a p1 p2 = none ∧ Rel q a (σ.1, (s1 σ.2.1 3 (u.2)), (s1 σ.2.2 1 (u.1)))) := by
  obtain ⟨n, d, z, k, hkq, e1, e2, e3, e4, e5, e6, e7, hK, hC, hD, hT, hH, hDr, hW, hM, h6⟩ := h
  rw [e2]
  rcases m_put hK hC hD 0 p1 p2 with ⟨r, x1, x2, y1, y2, hf, hg, hD'⟩ | ⟨hf, b, hg⟩ | ⟨hf, b, hg⟩
  · exact ⟨_, hf, Or.inl ⟨_, _, (a.1, (s1 (s1 a.2 8 y1) 9 y2)), rfl, (by unfold rPut; rw [e5, hg]; exact if_pos rfl), ⟨n, d, z, k, hkq, e1, e2, e3, e4, e5, e6, e7, hK, hC, hD', hT, hH, hDr, hW, hM, h6⟩⟩⟩
  · exact ⟨_, hf, Or.inr ⟨_, _, rfl, (by decide), (by unfold rPut; rw [e5, hg]; exact if_neg (by decide)), ⟨n, d, z, k, hkq, e1, e2, e3, e4, e5, e6, e7, hK, hC, hD, hT, hH, hDr, hW, hM, h6⟩⟩⟩
  · exact ⟨_, hf, Or.inr ⟨_, _, rfl, (by decide), (by unfold rPut; rw [e5, hg]; exact if_neg (by decide)), ⟨n, d, z, k, hkq, e1, e2, e3, e4, e5, e6, e7, hK, hC, hD, hT, hH, hDr, hW, hM, h6⟩⟩⟩
set_option maxRecDepth 10000 in
set_option maxHeartbeats 2000000 in
theorem n_isGood {q : Nat} {a : AT} {σ : CT} (h : Rel q a σ) (p1 p2 : Int32) : ∃ o : (Int32 × Unit) ⊕ (String × Unit), fX8_isGood (σ.1 0) (σ.2.1 2) (σ.2.2 0) (σ.2.2 1) (σ.2.1 3) p1 p2 = some o ∧ ((∃ r u a', o = .inl (r, u) ∧ rIsGood a p1 p2 = some (r, a') ∧ Rel q a' σ ∧ wB r) ∨ ∃ E u, o = .inr (E, u) ∧ E ∈ (["java/lang/IndexOutOfBoundsException", "java/lang/IllegalArgumentException"] : List String) ∧ rIsGood a p1 p2 = none ∧ Rel q a σ) := by
  obtain ⟨n, d, z, k, hkq, e1, e2, e3, e4, e5, e6, e7, hK, hC, hD, hT, hH, hDr, hW, hM, h6⟩ := h
  rw [e1]
  rcases m_isGood hK hC hD 0 p1 p2 with ⟨r, hwB, hf, hg⟩ | ⟨hf, b, hg⟩ | ⟨hf, b, hg⟩
  · exact ⟨_, hf, Or.inl ⟨_, _, (a.1, a.2), rfl, (by unfold rIsGood; rw [e6, e5, hg]; exact if_pos rfl), ⟨n, d, z, k, hkq, e1, e2, e3, e4, e5, e6, e7, hK, hC, hD, hT, hH, hDr, hW, hM, h6⟩, hwB⟩⟩
  · exact ⟨_, hf, Or.inr ⟨_, _, rfl, (by decide), (by unfold rIsGood; rw [e6, e5, hg]; exact if_neg (by decide)), ⟨n, d, z, k, hkq, e1, e2, e3, e4, e5, e6, e7, hK, hC, hD, hT, hH, hDr, hW, hM, h6⟩⟩⟩
  · exact ⟨_, hf, Or.inr ⟨_, _, rfl, (by decide), (by unfold rIsGood; rw [e6, e5, hg]; exact if_neg (by decide)), ⟨n, d, z, k, hkq, e1, e2, e3, e4, e5, e6, e7, hK, hC, hD, hT, hH, hDr, hW, hM, h6⟩⟩⟩
set_option maxRecDepth 10000 in
set_option maxHeartbeats 2000000 in
theorem n_offered {q : Nat} {a : AT} {σ : CT} (h : Rel q a σ) (p1 : Int32) : ∃ o : (Int32 × Unit) ⊕ (String × Unit), fX8_offered (σ.1 10) (σ.1 11) (σ.1 12) (σ.1 13) (σ.2.2 2) p1 = some o ∧ ((∃ r u a', o = .inl (r, u) ∧ rOffered a p1 = some (r, a') ∧ Rel q a' σ) ∨ ∃ E u, o = .inr (E, u) ∧ E ∈ (["java/lang/IndexOutOfBoundsException"] : List String) ∧ rOffered a p1 = none ∧ Rel q a σ) := by
  obtain ⟨n, d, z, k, hkq, e1, e2, e3, e4, e5, e6, e7, hK, hC, hD, hT, hH, hDr, hW, hM, h6⟩ := h
  rcases m_offered hDr 0 p1 with ⟨r, hf, hg⟩ | ⟨hf, b, hg⟩
  · exact ⟨_, hf, Or.inl ⟨_, _, (a.1, a.2), rfl, (by unfold rOffered; rw [hg]; exact if_pos rfl), ⟨n, d, z, k, hkq, e1, e2, e3, e4, e5, e6, e7, hK, hC, hD, hT, hH, hDr, hW, hM, h6⟩⟩⟩
  · exact ⟨_, hf, Or.inr ⟨_, _, rfl, (by decide), (by unfold rOffered; rw [hg]; exact if_neg (by decide)), ⟨n, d, z, k, hkq, e1, e2, e3, e4, e5, e6, e7, hK, hC, hD, hT, hH, hDr, hW, hM, h6⟩⟩⟩
set_option maxRecDepth 10000 in
set_option maxHeartbeats 2000000 in
theorem n_draft {q : Nat} {a : AT} {σ : CT} (h : Rel q a σ) (p1 p2 p3 : Int32) : ∃ o : (Unit × Int32 × Int32 × Int32 × Int32 × (Nat → Nat → Int32)) ⊕ (String × Int32 × Int32 × Int32 × Int32 × (Nat → Nat → Int32)), fX8_draft (σ.1 1) (σ.1 10) (σ.1 11) (σ.1 12) (σ.1 13) (σ.2.2 2) p1 p2 p3 = some o ∧ ((∃ r u a', o = .inl (r, u) ∧ rDraft a p1 p2 p3 = some (0, a') ∧ Rel q a' ((s1 (s1 (s1 (s1 σ.1 10 (u.1)) 11 (u.2.1)) 12 (u.2.2.1)) 13 (u.2.2.2.1)), σ.2.1, (s1 σ.2.2 2 (u.2.2.2.2)))) ∨ ∃ E u, o = .inr (E, u) ∧ E ∈ (["java/lang/IllegalArgumentException", "java/lang/IllegalStateException"] : List String) ∧ rDraft a p1 p2 p3 = none ∧ Rel q a ((s1 (s1 (s1 (s1 σ.1 10 (u.1)) 11 (u.2.1)) 12 (u.2.2.1)) 13 (u.2.2.2.1)), σ.2.1, (s1 σ.2.2 2 (u.2.2.2.2)))) := by
  obtain ⟨n, d, z, k, hkq, e1, e2, e3, e4, e5, e6, e7, hK, hC, hD, hT, hH, hDr, hW, hM, h6⟩ := h
  rw [e2]
  rcases m_draft hK.1 hDr 0 p1 p2 p3 with ⟨x1, x2, x3, x4, x5, y1, y2, y3, y4, y5, y6, hf, hg, hDr'⟩ | ⟨hf, hg⟩ | ⟨hf, hg⟩
  · exact ⟨_, hf, Or.inl ⟨_, _, ((s1 (s1 (s1 (s1 a.1 3 y1) 4 y2) 5 y3) 6 y4), (s1 (s1 a.2 14 y5) 15 y6)), rfl, (by unfold rDraft; rw [e5, hg]; exact if_pos rfl), ⟨n, d, z, k, hkq, e1, e2, e3, e4, e5, e6, e7, hK, hC, hD, hT, hH, hDr', hW, hM, h6⟩⟩⟩
  · exact ⟨_, hf, Or.inr ⟨_, _, rfl, (by decide), (by unfold rDraft; rw [e5, hg]; exact if_neg (by decide)), ⟨n, d, z, k, hkq, e1, e2, e3, e4, e5, e6, e7, hK, hC, hD, hT, hH, hDr, hW, hM, h6⟩⟩⟩
  · exact ⟨_, hf, Or.inr ⟨_, _, rfl, (by decide), (by unfold rDraft; rw [e5, hg]; exact if_neg (by decide)), ⟨n, d, z, k, hkq, e1, e2, e3, e4, e5, e6, e7, hK, hC, hD, hT, hH, hDr, hW, hM, h6⟩⟩⟩
set_option maxRecDepth 10000 in
set_option maxHeartbeats 2000000 in
theorem n_pick {q : Nat} {a : AT} {σ : CT} (h : Rel q a σ) (p1 : Int32) : ∃ o : (Int32 × (Nat → Nat → Int32) × Int32 × Int32 × (Nat → Nat → Int32)) ⊕ (String × (Nat → Nat → Int32) × Int32 × Int32 × (Nat → Nat → Int32)), fX8_pick (σ.2.2 0) (σ.1 10) (σ.1 11) (σ.1 12) (σ.1 13) (σ.2.2 2) p1 = some o ∧ ((∃ r u a', o = .inl (r, u) ∧ rPick a p1 = some (r, a') ∧ Rel q a' ((s1 (s1 σ.1 12 (u.2.1)) 13 (u.2.2.1)), σ.2.1, (s1 (s1 σ.2.2 0 (u.1)) 2 (u.2.2.2)))) ∨ ∃ E u, o = .inr (E, u) ∧ E ∈ (["java/lang/IndexOutOfBoundsException", "java/lang/IllegalStateException"] : List String) ∧ rPick a p1 = none ∧ Rel q a ((s1 (s1 σ.1 12 (u.2.1)) 13 (u.2.2.1)), σ.2.1, (s1 (s1 σ.2.2 0 (u.1)) 2 (u.2.2.2)))) := by
  obtain ⟨n, d, z, k, hkq, e1, e2, e3, e4, e5, e6, e7, hK, hC, hD, hT, hH, hDr, hW, hM, h6⟩ := h
  rcases m_pick hK.1 hC hDr 0 p1 with ⟨r, x1, x2, x3, x4, y1, y2, y3, y4, y5, hf, hg, hC', hDr'⟩ | ⟨hf, b, hg⟩ | ⟨hf, b, hg⟩
  · exact ⟨_, hf, Or.inl ⟨_, _, ((s1 (s1 a.1 5 y1) 6 y2), (s1 (s1 (s1 a.2 3 y3) 14 y4) 15 y5)), rfl, (by unfold rPick; rw [hg]; exact if_pos rfl), ⟨n, d, z, k, hkq, e1, e2, e3, e4, e5, e6, e7, hK, hC', hD, hT, hH, hDr', hW, hM, h6⟩⟩⟩
  · exact ⟨_, hf, Or.inr ⟨_, _, rfl, (by decide), (by unfold rPick; rw [hg]; exact if_neg (by decide)), ⟨n, d, z, k, hkq, e1, e2, e3, e4, e5, e6, e7, hK, hC, hD, hT, hH, hDr, hW, hM, h6⟩⟩⟩
  · exact ⟨_, hf, Or.inr ⟨_, _, rfl, (by decide), (by unfold rPick; rw [hg]; exact if_neg (by decide)), ⟨n, d, z, k, hkq, e1, e2, e3, e4, e5, e6, e7, hK, hC, hD, hT, hH, hDr, hW, hM, h6⟩⟩⟩
set_option maxRecDepth 10000 in
set_option maxHeartbeats 2000000 in
theorem n_lifeAnew {q : Nat} {a : AT} {σ : CT} (h : Rel q a σ) (hq : q ≤ 512) (p1 : Int32) : ∃ o : (Int32 × Int32 × (Nat → Int32) × (Nat → Int32) × (Nat → Int32) × (Nat → Int32) × (Nat → Int32) × (Nat → Int32)) ⊕ (String × Int32 × (Nat → Int32) × (Nat → Int32) × (Nat → Int32) × (Nat → Int32) × (Nat → Int32) × (Nat → Int32)), fX8_lifeAnew (σ.1 8) (σ.2.1 16) (σ.1 9) (σ.2.1 17) (σ.2.1 18) (σ.2.1 19) (σ.2.1 20) (σ.2.1 21) (σ.2.1 22) p1 = some o ∧ ((∃ r u a', o = .inl (r, u) ∧ rLifeAnew a p1 = some (r, a') ∧ Rel q a' ((s1 σ.1 9 (u.1)), (s1 (s1 (s1 (s1 (s1 (s1 σ.2.1 17 (u.2.1)) 18 (u.2.2.1)) 19 (u.2.2.2.1)) 20 (u.2.2.2.2.1)) 21 (u.2.2.2.2.2.1)) 22 (u.2.2.2.2.2.2)), σ.2.2)) ∨ ∃ E u, o = .inr (E, u) ∧ E ∈ (["java/lang/IndexOutOfBoundsException"] : List String) ∧ rLifeAnew a p1 = none ∧ Rel q a ((s1 σ.1 9 (u.1)), (s1 (s1 (s1 (s1 (s1 (s1 σ.2.1 17 (u.2.1)) 18 (u.2.2.1)) 19 (u.2.2.2.1)) 20 (u.2.2.2.2.1)) 21 (u.2.2.2.2.2.1)) 22 (u.2.2.2.2.2.2)), σ.2.2)) := by
  obtain ⟨n, d, z, k, hkq, e1, e2, e3, e4, e5, e6, e7, hK, hC, hD, hT, hH, hDr, hW, hM, h6⟩ := h
  rw [e4]
  rcases m_lifeAnew hT hH (show k ≤ 512 by omega) _ _ _ _ _ _ _ 0 p1 with ⟨r, x, hf, hg⟩ | ⟨hf, b, hg⟩
  · exact ⟨_, hf, Or.inl ⟨_, _, (a.1, a.2), rfl, (by unfold rLifeAnew; rw [hg]; exact if_pos rfl), ⟨n, d, z, k, hkq, e1, e2, e3, e4, e5, e6, e7, hK, hC, hD, hT, hH, hDr, hW, hM, h6⟩⟩⟩
  · exact ⟨_, hf, Or.inr ⟨_, _, rfl, (by decide), (by unfold rLifeAnew; rw [hg]; exact if_neg (by decide)), ⟨n, d, z, k, hkq, e1, e2, e3, e4, e5, e6, e7, hK, hC, hD, hT, hH, hDr, hW, hM, h6⟩⟩⟩
set_option maxRecDepth 10000 in
set_option maxHeartbeats 2000000 in
theorem n_play {q : Nat} {a : AT} {σ : CT} (h : Rel q a σ) (hq : q < 512) (p1 p2 p3 : Int32) : ∃ o : (Int32 × Int32 × (Nat → Int32) × (Nat → Int32) × (Nat → Int32) × (Nat → Int32) × Int32 × (Nat → Int32)) ⊕ (String × Int32 × (Nat → Int32) × (Nat → Int32) × (Nat → Int32) × (Nat → Int32) × Int32 × (Nat → Int32)), fX8_play (σ.1 0) (σ.1 1) (σ.2.1 0) (σ.2.1 1) (σ.2.1 2) (σ.2.2 0) (σ.1 2) (σ.2.1 6) (σ.2.1 7) (σ.2.1 8) (σ.2.1 9) (σ.1 8) (σ.2.1 16) p1 p2 p3 = some o ∧ ((∃ r u a', o = .inl (r, u) ∧ rPlay a p1 p2 p3 = some (r, a') ∧ Rel (q + 1) a' ((s1 (s1 σ.1 2 (u.1)) 8 (u.2.2.2.2.2.1)), (s1 (s1 (s1 (s1 (s1 σ.2.1 6 (u.2.1)) 7 (u.2.2.1)) 8 (u.2.2.2.1)) 9 (u.2.2.2.2.1)) 16 (u.2.2.2.2.2.2)), σ.2.2)) ∨ ∃ E u, o = .inr (E, u) ∧ E ∈ (["java/lang/IndexOutOfBoundsException", "java/lang/IllegalStateException"] : List String) ∧ rPlay a p1 p2 p3 = none ∧ Rel (q + 1) a ((s1 (s1 σ.1 2 (u.1)) 8 (u.2.2.2.2.2.1)), (s1 (s1 (s1 (s1 (s1 σ.2.1 6 (u.2.1)) 7 (u.2.2.1)) 8 (u.2.2.2.1)) 9 (u.2.2.2.2.1)) 16 (u.2.2.2.2.2.2)), σ.2.2)) := by
  obtain ⟨n, d, z, k, hkq, e1, e2, e3, e4, e5, e6, e7, hK, hC, hD, hT, hH, hDr, hW, hM, h6⟩ := h
  rw [e1, e2, e3, e4]
  rcases m_play hK hC hT hH (show k < 512 by omega) 0 p1 p2 p3 with ⟨r, s', x1, x2, x3, x4, y1, y2, y3, y4, D', hf, hg, hT', hH'⟩ | ⟨hf, b, hg⟩ | ⟨hf, b, hg⟩
  · exact ⟨_, hf, Or.inl ⟨_, _, ((s1 a.1 2 (nI s')), (s1 (s1 (s1 (s1 a.2 10 y3) 11 y1) 12 y2) 13 y4)), rfl, (by unfold rPlay; rw [e6, e5, e7, hg]; exact if_pos rfl), ⟨n, d, s', (k + 1), (by omega), e1, e2, rfl, rfl, e5, e6, rfl, hK, hC, hD, hT', hH', hDr, hW, hM, h6⟩⟩⟩
  · exact ⟨_, hf, Or.inr ⟨_, _, rfl, (by decide), (by unfold rPlay; rw [e6, e5, e7, hg]; exact if_neg (by decide)), ⟨n, d, z, k, (by omega), e1, e2, rfl, rfl, e5, e6, e7, hK, hC, hD, hT, hH, hDr, hW, hM, h6⟩⟩⟩
  · exact ⟨_, hf, Or.inr ⟨_, _, rfl, (by decide), (by unfold rPlay; rw [e6, e5, e7, hg]; exact if_neg (by decide)), ⟨n, d, z, k, (by omega), e1, e2, rfl, rfl, e5, e6, e7, hK, hC, hD, hT, hH, hDr, hW, hM, h6⟩⟩⟩
set_option maxRecDepth 10000 in
set_option maxHeartbeats 2000000 in
theorem n_top {q : Nat} {a : AT} {σ : CT} (h : Rel q a σ) (hq : q < 512) : ∃ o : (Int32 × Int32 × (Nat → Int32) × (Nat → Int32) × (Nat → Int32) × (Nat → Int32) × (Nat → Int32) × (Nat → Int32) × Int32 × (Nat → Int32)) ⊕ (String × Int32 × (Nat → Int32) × (Nat → Int32) × (Nat → Int32) × (Nat → Int32) × (Nat → Int32) × (Nat → Int32) × Int32 × (Nat → Int32)), fX8_top (σ.1 2) (σ.2.1 4) (σ.2.1 5) (σ.2.1 6) (σ.2.1 7) (σ.2.1 8) (σ.2.1 9) (σ.1 8) (σ.2.1 16) = some o ∧ ((∃ r u a', o = .inl (r, u) ∧ rTop a = some (r, a') ∧ Rel (q + 1) a' ((s1 (s1 σ.1 2 (u.1)) 8 (u.2.2.2.2.2.2.2.1)), (s1 (s1 (s1 (s1 (s1 (s1 (s1 σ.2.1 4 (u.2.1)) 5 (u.2.2.1)) 6 (u.2.2.2.1)) 7 (u.2.2.2.2.1)) 8 (u.2.2.2.2.2.1)) 9 (u.2.2.2.2.2.2.1)) 16 (u.2.2.2.2.2.2.2.2)), σ.2.2)) ∨ ∃ E u, o = .inr (E, u) ∧ E ∈ (["java/lang/IllegalStateException"] : List String) ∧ rTop a = none ∧ Rel (q + 1) a ((s1 (s1 σ.1 2 (u.1)) 8 (u.2.2.2.2.2.2.2.1)), (s1 (s1 (s1 (s1 (s1 (s1 (s1 σ.2.1 4 (u.2.1)) 5 (u.2.2.1)) 6 (u.2.2.2.1)) 7 (u.2.2.2.2.1)) 8 (u.2.2.2.2.2.1)) 9 (u.2.2.2.2.2.2.1)) 16 (u.2.2.2.2.2.2.2.2)), σ.2.2)) := by
  obtain ⟨n, d, z, k, hkq, e1, e2, e3, e4, e5, e6, e7, hK, hC, hD, hT, hH, hDr, hW, hM, h6⟩ := h
  rw [e3, e4]
  rcases m_top hT hH (show k < 512 by omega) 0 0 (fun _ => (0 : Int32)) (fun _ => (0 : Int32)) (fun _ => (0 : Int64)) (fun _ => (0 : Int32)) (fun _ => (0 : Int64)) (fun _ => (0 : Int64)) with ⟨s', l8, s8, x1, x2, x3, x4, D', hi', l9, s9, y1, y2, y3, y4, x, hf, hg, hT', hH'⟩ | ⟨hf, b, hi', x, hg⟩
  · exact ⟨_, hf, Or.inl ⟨_, _, ((s1 a.1 2 (nI s')), (s1 (s1 (s1 (s1 (s1 (s1 a.2 4 l9) 5 s9) 10 y1) 11 y2) 12 y3) 13 y4)), rfl, (by unfold rTop; rw [e7, hg]; exact if_pos rfl), ⟨n, d, s', (k + 1), (by omega), e1, e2, rfl, rfl, e5, e6, rfl, hK, hC, hD, hT', hH', hDr, hW, hM, h6⟩⟩⟩
  · exact ⟨_, hf, Or.inr ⟨_, _, rfl, (by decide), (by unfold rTop; rw [e7, hg]; exact if_neg (by decide)), ⟨n, d, z, k, (by omega), e1, e2, rfl, rfl, e5, e6, e7, hK, hC, hD, hT, hH, hDr, hW, hM, h6⟩⟩⟩
set_option maxRecDepth 10000 in
set_option maxHeartbeats 2000000 in
theorem n_bound {q : Nat} {a : AT} {σ : CT} (h : Rel q a σ) (p1 p2 : Int32) : ∃ o : (Int32 × Int32 × Int32 × Int32 × Int32 × Int32 × (Nat → Int32) × (Nat → Int32) × (Nat → Int32) × (Nat → Int32) × (Nat → Int32) × (Nat → Int32)) ⊕ (String × Int32 × Int32 × Int32 × Int32 × Int32 × (Nat → Int32) × (Nat → Int32) × (Nat → Int32) × (Nat → Int32) × (Nat → Int32) × (Nat → Int32)), fX8_bound (σ.1 2) (σ.2.1 4) (σ.2.1 5) (σ.2.1 6) (σ.2.1 7) (σ.2.1 8) (σ.2.1 9) (σ.1 3) (σ.1 4) (σ.1 5) (σ.1 6) (σ.1 7) (σ.2.1 10) (σ.2.1 11) (σ.2.1 12) (σ.2.1 13) (σ.2.1 14) (σ.2.1 15) p1 p2 = some o ∧ ((∃ r u a', o = .inl (r, u) ∧ rBound a p1 p2 = some (r, a') ∧ Rel q a' ((s1 (s1 (s1 (s1 (s1 σ.1 3 (u.1)) 4 (u.2.1)) 5 (u.2.2.1)) 6 (u.2.2.2.1)) 7 (u.2.2.2.2.1)), (s1 (s1 (s1 (s1 (s1 (s1 σ.2.1 10 (u.2.2.2.2.2.1)) 11 (u.2.2.2.2.2.2.1)) 12 (u.2.2.2.2.2.2.2.1)) 13 (u.2.2.2.2.2.2.2.2.1)) 14 (u.2.2.2.2.2.2.2.2.2.1)) 15 (u.2.2.2.2.2.2.2.2.2.2)), σ.2.2)) ∨ ∃ E u, o = .inr (E, u) ∧ E ∈ (["java/lang/IndexOutOfBoundsException"] : List String) ∧ rBound a p1 p2 = none ∧ Rel q a ((s1 (s1 (s1 (s1 (s1 σ.1 3 (u.1)) 4 (u.2.1)) 5 (u.2.2.1)) 6 (u.2.2.2.1)) 7 (u.2.2.2.2.1)), (s1 (s1 (s1 (s1 (s1 (s1 σ.2.1 10 (u.2.2.2.2.2.1)) 11 (u.2.2.2.2.2.2.1)) 12 (u.2.2.2.2.2.2.2.1)) 13 (u.2.2.2.2.2.2.2.2.1)) 14 (u.2.2.2.2.2.2.2.2.2.1)) 15 (u.2.2.2.2.2.2.2.2.2.2)), σ.2.2)) := by
  obtain ⟨n, d, z, k, hkq, e1, e2, e3, e4, e5, e6, e7, hK, hC, hD, hT, hH, hDr, hW, hM, h6⟩ := h
  rw [e3]
  rcases m_bound hT _ _ _ _ _ _ _ _ _ _ _ 0 0 (fun _ => (0 : Int32)) (fun _ => (0 : Int32)) (fun _ => (0 : Int64)) (fun _ => (0 : Int32)) (fun _ => (0 : Int64)) (fun _ => (0 : Int64)) p1 p2 with ⟨r, x, hi', y, hf, hg⟩ | ⟨hf, b, hi', y, hg⟩
  · exact ⟨_, hf, Or.inl ⟨_, _, (a.1, a.2), rfl, (by unfold rBound; rw [e7, hg]; exact if_pos rfl), ⟨n, d, z, k, hkq, e1, e2, e3, e4, e5, e6, e7, hK, hC, hD, hT, hH, hDr, hW, hM, h6⟩⟩⟩
  · exact ⟨_, hf, Or.inr ⟨_, _, rfl, (by decide), (by unfold rBound; rw [e7, hg]; exact if_neg (by decide)), ⟨n, d, z, k, hkq, e1, e2, e3, e4, e5, e6, e7, hK, hC, hD, hT, hH, hDr, hW, hM, h6⟩⟩⟩
set_option maxRecDepth 10000 in
set_option maxHeartbeats 2000000 in
theorem n_ring {q : Nat} {a : AT} {σ : CT} (h : Rel q a σ) (p1 : Int32) : ∃ o : (Int32 × Int32 × (Nat → Int32)) ⊕ (String × Int32 × (Nat → Int32)), fX8_ring (σ.2.2 0) (σ.1 14) (σ.2.1 23) (σ.2.1 24) (σ.2.1 25) p1 = some o ∧ ((∃ r u a', o = .inl (r, u) ∧ rRing a p1 = some (r, a') ∧ Rel q a' ((s1 σ.1 14 (u.1)), (s1 σ.2.1 25 (u.2)), σ.2.2)) ∨ ∃ E u, o = .inr (E, u) ∧ E ∈ (["java/lang/IndexOutOfBoundsException"] : List String) ∧ rRing a p1 = none ∧ Rel q a ((s1 σ.1 14 (u.1)), (s1 σ.2.1 25 (u.2)), σ.2.2)) := by
  obtain ⟨n, d, z, k, hkq, e1, e2, e3, e4, e5, e6, e7, hK, hC, hD, hT, hH, hDr, hW, hM, h6⟩ := h
  rcases m_ring hK.1 hW hC _ _ 0 0 (fun _ => (0 : Int32)) p1 with ⟨r, x, rs', ri', hf, hg⟩ | ⟨hf, b, rs', ri', hg⟩
  · exact ⟨_, hf, Or.inl ⟨_, _, (a.1, a.2), rfl, (by unfold rRing; rw [hg]; exact if_pos rfl), ⟨n, d, z, k, hkq, e1, e2, e3, e4, e5, e6, e7, hK, hC, hD, hT, hH, hDr, hW, hM, h6⟩⟩⟩
  · exact ⟨_, hf, Or.inr ⟨_, _, rfl, (by decide), (by unfold rRing; rw [hg]; exact if_neg (by decide)), ⟨n, d, z, k, hkq, e1, e2, e3, e4, e5, e6, e7, hK, hC, hD, hT, hH, hDr, hW, hM, h6⟩⟩⟩
set_option maxRecDepth 10000 in
set_option maxHeartbeats 2000000 in
theorem n_pair {q : Nat} {a : AT} {σ : CT} (h : Rel q a σ) (p1 p2 : Int32) : ∃ o : (Int32 × Int32 × (Nat → Int32) × (Nat → Int32)) ⊕ (String × Int32 × (Nat → Int32) × (Nat → Int32)), fX8_pair (σ.1 15) (σ.2.1 26) (σ.2.1 27) (σ.2.1 28) (σ.2.1 29) p1 p2 = some o ∧ ((∃ r u a', o = .inl (r, u) ∧ rPair a p1 p2 = some (r, a') ∧ Rel q a' ((s1 σ.1 15 (u.1)), (s1 (s1 σ.2.1 28 (u.2.1)) 29 (u.2.2)), σ.2.2)) ∨ ∃ E u, o = .inr (E, u) ∧ E ∈ (["java/lang/IndexOutOfBoundsException", "java/lang/IllegalArgumentException"] : List String) ∧ rPair a p1 p2 = none ∧ Rel q a ((s1 σ.1 15 (u.1)), (s1 (s1 σ.2.1 28 (u.2.1)) 29 (u.2.2)), σ.2.2)) := by
  obtain ⟨n, d, z, k, hkq, e1, e2, e3, e4, e5, e6, e7, hK, hC, hD, hT, hH, hDr, hW, hM, h6⟩ := h
  rcases m_pair hM _ _ _ 0 0 (fun _ => (0 : Int32)) p1 p2 with ⟨r, x, mn', mr', hf, hg⟩ | ⟨hf, b, mn', mr', hg⟩ | ⟨hf, b, mn', mr', hg⟩
  · exact ⟨_, hf, Or.inl ⟨_, _, (a.1, a.2), rfl, (by unfold rPair; rw [hg]; exact if_pos rfl), ⟨n, d, z, k, hkq, e1, e2, e3, e4, e5, e6, e7, hK, hC, hD, hT, hH, hDr, hW, hM, h6⟩⟩⟩
  · exact ⟨_, hf, Or.inr ⟨_, _, rfl, (by decide), (by unfold rPair; rw [hg]; exact if_neg (by decide)), ⟨n, d, z, k, hkq, e1, e2, e3, e4, e5, e6, e7, hK, hC, hD, hT, hH, hDr, hW, hM, h6⟩⟩⟩
  · exact ⟨_, hf, Or.inr ⟨_, _, rfl, (by decide), (by unfold rPair; rw [hg]; exact if_neg (by decide)), ⟨n, d, z, k, hkq, e1, e2, e3, e4, e5, e6, e7, hK, hC, hD, hT, hH, hDr, hW, hM, h6⟩⟩⟩
theorem n_swap {q : Nat} {a : AT} {σ : CT} (h : Rel q a σ) : ∃ (r : Int32) (u : (Nat → Nat → Int32) × Int32 × (Nat → Int32) × (Nat → Int32) × (Nat → Int32)) (a' : AT), fX8_swap (σ.2.2 0) (σ.1 14) (σ.2.1 23) (σ.2.1 24) (σ.2.1 25) = some (r, u) ∧ rSwap a = some (r, a') ∧ Rel q a' ((s1 σ.1 14 (u.2.1)), (s1 (s1 (s1 σ.2.1 23 (u.2.2.1)) 24 (u.2.2.2.1)) 25 (u.2.2.2.2)), (s1 σ.2.2 0 (u.1))) := by
  obtain ⟨n, d, z, k, hkq, e1, e2, e3, e4, e5, e6, e7, hK, hC, hD, hT, hH, hDr, hW, hM, h6⟩ := h
  obtain ⟨r, x1, x2, x3, x4, x5, y1, y2, y3, y4, hf, hg, hW', hC'⟩ := m_swap hK.1 hW hC (σ.1 14) (σ.2.1 25) 0 0 (fun _ => (0 : Int32))
  exact ⟨r, (x1, x2, x3, x4, x5), (a.1, (s1 (s1 a.2 3 y2) 16 y3)), hf, (by unfold rSwap; rw [hg]; exact if_pos rfl), ⟨n, d, z, k, hkq, e1, e2, e3, e4, e5, e6, e7, hK, hC', hD, hT, hH, hDr, hW', hM, h6⟩⟩
