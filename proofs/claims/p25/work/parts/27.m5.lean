/-! MATH 5: decks -/
def RD (n : Nat) (decks : Nat → Nat → Int32) (sizes deck deckSize : Nat → Int32) : Prop := ∃ L : Nat → List Nat, ∀ p, p < 6 → (L p).length ≤ 8 ∧ sizes p = nI (L p).length ∧ deckSize p = nI (L p).length ∧ (∀ j, j < (L p).length → deck (8 * p + j) = nI ((L p).getD j 0)) ∧ (∀ k ∈ L p, k < n) ∧ ∀ k, k < 20 → decks p k = nI ((L p).count k)
def cntB (P : Nat → Bool) : Nat → Nat → Nat
  | _, 0 => 0
  | i, r + 1 => (if P i = true then 1 else 0) + cntB P (i + 1) r
def allB (P : Nat → Bool) : Nat → Nat → Bool
  | _, 0 => true
  | i, r + 1 => P i && allB P (i + 1) r
theorem cntB_cong {P Q : Nat → Bool} : ∀ {i r : Nat}, (∀ k, i ≤ k → k < i + r → P k = Q k) → cntB P i r = cntB Q i r
  | _, 0, _ => rfl
  | i, r + 1, h => by
    unfold cntB
    rw [h i (Nat.le_refl _) (by omega), cntB_cong (fun k h1 h2 => h k (by omega) (by omega))]
theorem allB_cong {P Q : Nat → Bool} : ∀ {i r : Nat}, (∀ k, i ≤ k → k < i + r → P k = Q k) → allB P i r = allB Q i r
  | _, 0, _ => rfl
  | i, r + 1, h => by
    unfold allB
    rw [h i (Nat.le_refl _) (by omega), allB_cong (fun k h1 h2 => h k (by omega) (by omega))]
theorem allB_t {P : Nat → Bool} : ∀ {i r : Nat}, (∀ k, i ≤ k → k < i + r → P k = true) → allB P i r = true
  | _, 0, _ => rfl
  | i, r + 1, h => by
    unfold allB
    rw [h i (Nat.le_refl _) (by omega), allB_t (fun k h1 h2 => h k (by omega) (by omega))]
    rfl
theorem allB_split {P : Nat → Bool} : ∀ {i a b : Nat}, allB P i (a + b) = (allB P i a && allB P (i + a) b)
  | i, 0, b => by simp [allB]
  | i, a + 1, b => by
    rw [show a + 1 + b = (a + b) + 1 by omega]
    show (P i && allB P (i + 1) (a + b)) = ((P i && allB P (i + 1) a) && allB P (i + (a + 1)) b)
    rw [allB_split, Bool.and_assoc, show i + 1 + a = i + (a + 1) by omega]
theorem inDeck_loop {deck deckSize : Nat → Int32} {p k : Nat} {l : List Nat} (hp : p < 6) (hk : k < 20) (hl : l.length ≤ 8) (hs : deckSize p = nI l.length) (hd : ∀ j, j < l.length → deck (8 * p + j) = nI (l.getD j 0)) (hb : ∀ x ∈ l, x < 20) :
    ∀ (r j c n : Nat), j + r = l.length → c + r ≤ 8 → r < n → fX9_inDeck_b5 deck deckSize n (nI p) (nI k) (nI c) (nI j) = some (nI (c + (l.drop j).count k)) := by
  intro r
  induction r with
  | zero =>
    intro j c n hj hc hn
    rcases n with _ | n
    · omega
    rw [fX9_inDeck_b5, g_nI hp (by omega), ck_true, clN (by omega), hs, if_pos (nle (by omega) (by omega)), List.drop_eq_nil_of_le (by omega)]
    rfl
  | succ r ih =>
    intro j c n hj hc hn
    rcases n with _ | n
    · omega
    have hjl : j < l.length := by omega
    have hx : l.getD j 0 < 20 := by
      rw [List.getD_eq_getElem?_getD, List.getElem?_eq_getElem hjl]
      exact hb _ (List.getElem_mem hjl)
    rw [fX9_inDeck_b5, g_nI hp (by omega), ck_true, clN (by omega), hs, if_neg (nnle (by omega) (by omega)), ix8, g_nI (show 8 * p + j < 48 by omega) (by omega), ck_true, clN (by omega), hd j hjl]
    have hdrop : l.drop j = l.getD j 0 :: l.drop (j + 1) := by
      rw [List.drop_eq_getElem_cons hjl, List.getD_eq_getElem?_getD, List.getElem?_eq_getElem hjl]
      rfl
    unfold fX9_inDeck_b38
    by_cases e : l.getD j 0 = k
    · rw [if_pos (by rw [e]), nm_eq, nm_eq, nI_1, nI_1, ih (j + 1) (c + 1) n (by omega) (by omega) (by omega), hdrop, List.count_cons, if_pos (by rw [beq_iff_eq]; exact e)]
      rw [show c + 1 + List.count k (l.drop (j + 1)) = c + (List.count k (l.drop (j + 1)) + 1) by omega]
    · rw [if_neg (neqI (by omega) (by omega) e), nm_eq, nm_eq, nI_1, show nI c + 0 = nI c by rw [Int32.add_zero], ih (j + 1) c n (by omega) (by omega) (by omega), hdrop, List.count_cons, if_neg (by rw [beq_iff_eq]; exact e)]
      rfl
theorem inDeck_eq {deck deckSize : Nat → Int32} {p k : Nat} {l : List Nat} (hp : p < 6) (hk : k < 20) (hl : l.length ≤ 8) (hs : deckSize p = nI l.length) (hd : ∀ j, j < l.length → deck (8 * p + j) = nI (l.getD j 0)) (hb : ∀ x ∈ l, x < 20) : fX9_inDeck deck deckSize (nI p) (nI k) = some (nI (l.count k)) := by
  unfold fX9_inDeck
  have := inDeck_loop hp hk hl hs hd hb l.length 0 0 70 (by omega) (by omega) (by omega)
  rw [Nat.zero_add, List.drop_zero] at this
  exact this
/-- of how many players the deck holds it -/
theorem cdw_loop {decks : Nat → Nat → Int32} {k : Nat} {c : Nat → Nat} (hk : k < 20) (hd : ∀ p, p < 6 → decks p k = nI (c p)) (hc : ∀ p, p < 6 → c p ≤ 8) :
    ∀ (r i a n : Nat), i + r = 6 → a + r ≤ 6 → r < n → fX5_countDecksWith_b4 decks n (nI k) (nI a) (nI i) = some (nI (a + cntB (fun p => decide (0 < c p)) i r)) := by
  intro r
  induction r with
  | zero =>
    intro i a n hi ha hn
    rcases n with _ | n
    · omega
    rw [fX5_countDecksWith_b4, if_pos (show (6 : Int32) ≤ nI i from nle (a := 6) (by omega) (by omega))]
    rfl
  | succ r ih =>
    intro i a n hi ha hn
    rcases n with _ | n
    · omega
    have h6 : i < 6 := by omega
    have := hc i h6
    rw [fX5_countDecksWith_b4, if_neg (show ¬ (6 : Int32) ≤ nI i from nnle (a := 6) (by omega) (by omega)), g_nI h6 (by omega), ck_true, g_nI hk (by omega), ck_true, clN (by omega), clN (by omega), hd i h6]
    unfold fX5_countDecksWith_b24 cntB
    by_cases e : c i = 0
    · rw [e, if_pos (show nI 0 ≤ 0 by decide), nm_eq, nI_1, ih (i + 1) a n (by omega) (by omega) (by omega), if_neg (by simp [e]), Nat.zero_add]
    · rw [if_neg (show ¬ nI (c i) ≤ 0 from nI_nle (by omega) (by omega)), nm_eq, nm_eq, nI_1, nI_1, ih (i + 1) (a + 1) n (by omega) (by omega) (by omega), if_pos (by simp; omega)]
      rw [show a + 1 + cntB (fun p => decide (0 < c p)) (i + 1) r = a + (1 + cntB (fun p => decide (0 < c p)) (i + 1) r) by omega]
theorem ban_loop {today kinds : Int32} {deck deckSize : Nat → Int32} {k : Nat} {c : Nat → Nat} (hd : ∀ p, p < 6 → fX9_inDeck deck deckSize (nI p) (nI k) = some (nI (c p))) (hc : ∀ p, p < 6 → c p ≤ 8) (thrown : Int32) (banned : Nat → Int32) :
    ∀ (r i a n : Nat), i + r = 6 → a + r ≤ 6 → r < n → fX9_ban_b55 today kinds deck deckSize n thrown banned (nI k) (nI a) (nI i) = some (nI (a + cntB (fun p => decide (0 < c p)) i r), thrown, banned) := by
  intro r
  induction r with
  | zero =>
    intro i a n hi ha hn
    rcases n with _ | n
    · omega
    rw [fX9_ban_b55, if_pos (show (6 : Int32) ≤ nI i from nle (a := 6) (by omega) (by omega))]
    rfl
  | succ r ih =>
    intro i a n hi ha hn
    rcases n with _ | n
    · omega
    have h6 : i < 6 := by omega
    have := hc i h6
    rw [fX9_ban_b55, if_neg (show ¬ (6 : Int32) ≤ nI i from nnle (a := 6) (by omega) (by omega)), hd i h6, ob_some]
    unfold fX9_ban_b79 cntB
    by_cases e : c i = 0
    · rw [e, if_pos (show nI 0 ≤ 0 by decide), nm_eq, nm_eq, nI_1, show nI a + 0 = nI a by rw [Int32.add_zero], ih (i + 1) a n (by omega) (by omega) (by omega), if_neg (by simp [e]), Nat.zero_add]
    · rw [if_neg (show ¬ nI (c i) ≤ 0 from nI_nle (by omega) (by omega)), nm_eq, nm_eq, nI_1, nI_1, ih (i + 1) (a + 1) n (by omega) (by omega) (by omega), if_pos (by simp; omega)]
      rw [show a + 1 + cntB (fun p => decide (0 < c p)) (i + 1) r = a + (1 + cntB (fun p => decide (0 < c p)) (i + 1) r) by omega]
theorem m_ban {n d : Nat} {count : Int32} {effects numbers bans : Nat → Int32} {today kinds : Int32} {effect number banned : Nat → Int32} {mtoday : Int32} {decks : Nat → Nat → Int32} {sizes deck deckSize : Nat → Int32} (hK : RK n d count effects numbers bans today kinds effect number banned mtoday) (hD : RD n decks sizes deck deckSize) (thrown p1 p2 : Int32) :
    (∃ r bans' banned', fX8_ban today count bans decks p1 p2 = some (.inl (r, bans')) ∧ fX9_ban thrown mtoday kinds banned deck deckSize p1 p2 = some (r, 0, banned') ∧ RK n d count effects numbers bans' today kinds effect number banned' mtoday) ∨
    (fX8_ban today count bans decks p1 p2 = some (.inr ("java/lang/IndexOutOfBoundsException", bans)) ∧ ∃ b, fX9_ban thrown mtoday kinds banned deck deckSize p1 p2 = some (b, 1, banned)) ∨
    (fX8_ban today count bans decks p1 p2 = some (.inr ("java/lang/IllegalArgumentException", bans)) ∧ ∃ b, fX9_ban thrown mtoday kinds banned deck deckSize p1 p2 = some (b, 2, banned)) := by
  obtain ⟨hn, hd, rfl, rfl, rfl, rfl, hk⟩ := hK
  obtain ⟨L, hL⟩ := hD
  unfold fX8_ban fX9_ban fX9_ban_b34
  rcases in_n p1 n (by omega) with ⟨k, hkn, rfl⟩ | ⟨hkb, -⟩
  · by_cases h : nI d ≤ p2 ∧ p2 ≤ 1000
    · left
      obtain ⟨b, hb1, hb2, rfl⟩ := le_n (p := p2) (a := d) (b := 1000) (by omega) h.1 h.2 (by omega)
      have hin : ∀ p, p < 6 → fX9_inDeck deck deckSize (nI p) (nI k) = some (nI ((L p).count k)) := fun p hp => by
        obtain ⟨a1, a2, a3, a4, a5, a6⟩ := hL p hp
        exact inDeck_eq hp (by omega) a1 a3 a4 (fun x hx => by have := a5 x hx; omega)
      have hc8 : ∀ p, p < 6 → (L p).count k ≤ 8 := fun p hp => Nat.le_trans (List.count_le_length) (hL p hp).1
      refine ⟨nI (0 + cntB (fun p => decide (0 < (L p).count k)) 0 6), upd bans k (nI b), upd banned k (nI b), ?_, ?_, ?_⟩
      · unfold fX8_needDay fX5_countDecksWith
        rw [needKind_ok hn hkn, ob_some, xm_inl, if_neg (Int32.not_lt.mpr h.1), if_pos h.2, ob_some, xm_inl, g_nI (show k < 20 by omega) (by omega), ck_true, clN (by omega),
          show fX5_countDecksWith_b4 decks 70 (nI k) 0 0 = some (nI (0 + cntB (fun p => decide (0 < (L p).count k)) 0 6)) from cdw_loop (c := fun p => (L p).count k) (by omega) (fun p hp => (hL p hp).2.2.2.2.2 k (by omega)) hc8 6 0 0 70 (by omega) (by omega) (by omega), ob_some]
      · rw [isKind_ok hn hkn, ob_some, if_neg one0, in_eq, if_pos h, ob_some, if_neg one0, goesWell_0, ob_some]
        dsimp only
        rw [if_neg one0, g_nI (show k < 20 by omega) (by omega), ck_true, clN (by omega)]
        exact ban_loop (c := fun p => (L p).count k) hin hc8 0 _ 6 0 0 70 (by omega) (by omega) (by omega)
      · refine ⟨hn, hd, rfl, rfl, rfl, rfl, fun j hj => ?_⟩
        obtain ⟨e, m, q1, q2, q3, q4, q5, q6, q7, q8⟩ := hk j hj
        refine ⟨e, m, q1, q2, q3, q4, q5, q6, q7, ?_⟩
        by_cases hjk : j = k
        · subst hjk
          exact Or.inr ⟨b, hb2, upd_s _ _ _, upd_s _ _ _⟩
        · rw [upd_n hjk, upd_n hjk]
          exact q8
    · right; right
      refine ⟨?_, ?_⟩
      · unfold fX8_needDay fX8_needDay_b15
        rw [needKind_ok hn hkn, ob_some, xm_inl]
        by_cases h1 : p2 < nI d
        · rw [if_pos h1, ob_some, xm_inr]
        · rw [if_neg h1, if_neg (fun q => h ⟨Int32.not_lt.mp h1, q⟩), ob_some, xm_inr]
      · rw [isKind_ok hn hkn, ob_some, if_neg one0, in_eq, if_neg h, ob_some, if_pos rfl, goesWell_2, ob_some]
        exact ⟨_, rfl⟩
  · right; left
    refine ⟨?_, ?_⟩
    · rw [needKind_bad hkb, ob_some, xm_inr]
    · rw [isKind_bad hn hkb, ob_some, if_pos rfl, goesWell_1, ob_some]
      exact ⟨_, rfl⟩
/-- a kind is banned on a day: both say so alike -/
theorem isB_eq {n d : Nat} {count : Int32} {effects numbers bans : Nat → Int32} {today kinds : Int32} {effect number banned : Nat → Int32} {mtoday : Int32} (hK : RK n d count effects numbers bans today kinds effect number banned mtoday) {k : Nat} (hk : k < n) {day : Int32} (hday : day ≤ 1000) :
    fX2_isBanned bans (nI k) day = some (if day < bans k then 0 else 1) ∧ fX9_isBanned banned (nI k) day = some (if day < bans k then 0 else 1) := by
  obtain ⟨hn, -, -, -, -, -, hkk⟩ := hK
  unfold fX2_isBanned fX9_isBanned fX9_isBanned_b24 fX9_isBanned_b25 fX2_isBanned_b15
  rw [g_nI (show k < 20 by omega) (by omega), ck_true, ck_true, ck_true, clN (by omega)]
  refine ⟨by split <;> rfl, ?_⟩
  obtain ⟨e, m, -, -, -, -, -, -, -, q⟩ := hkk k hk
  rcases q with ⟨q1, q2⟩ | ⟨b, hb, q1, q2⟩
  · rw [q1, if_pos rfl, q2, if_pos (show day < nI 1001 from Int32.lt_of_le_of_lt hday (by decide))]
  · rw [q1, q2, if_neg (show ¬ nI b = -1 from fun h => absurd (h ▸ nI_pos' (show b < 2 ^ 31 by omega)) (by decide))]
    split <;> rfl
theorem most_le {x : Int32} {c : Nat} (hc : c ≤ 8) : nI c ≤ (if 3 < x then 3 else x) ↔ ¬ 3 < nI c ∧ ¬ x < nI c := by
  have ec := nI_toInt (show c < 2 ^ 31 by omega)
  have e3 : ((3 : Int32)).toInt = 3 := rfl
  by_cases h : 3 < x
  · rw [if_pos h, i32le, i32lt, i32lt]
    have := i32lt.mp h
    omega
  · rw [if_neg h, i32le, i32lt, i32lt]
    have : ¬ (3 : Int32).toInt < x.toInt := fun q => h (i32lt.mpr q)
    omega
theorem mid_eq {cards : Nat → Nat → Int32} {p k : Nat} (hp : p < 6) (hk : k < 20) : fX5_mostInDeck cards (nI p) (nI k) = some (if 3 < cards p k then 3 else cards p k) := by
  unfold fX5_mostInDeck
  rw [g_nI hp (by omega), ck_true, g_nI hk (by omega), ck_true, nm_eq, clN (by omega), clN (by omega)]
theorem m_put {n d : Nat} {count : Int32} {effects numbers bans : Nat → Int32} {today kinds : Int32} {effect number banned : Nat → Int32} {mtoday : Int32} {cards : Nat → Nat → Int32} {has : Nat → Int32} {decks : Nat → Nat → Int32} {sizes deck deckSize : Nat → Int32} (hK : RK n d count effects numbers bans today kinds effect number banned mtoday) (hC : RC n cards has) (hD : RD n decks sizes deck deckSize) (thrown p1 p2 : Int32) :
    (∃ r decks' sizes' deck' deckSize', fX8_put count cards decks sizes p1 p2 = some (.inl (r, decks', sizes')) ∧ fX9_put thrown kinds has deck deckSize p1 p2 = some (r, 0, deck', deckSize') ∧ RD n decks' sizes' deck' deckSize') ∨
    (fX8_put count cards decks sizes p1 p2 = some (.inr ("java/lang/IndexOutOfBoundsException", decks, sizes)) ∧ ∃ b, fX9_put thrown kinds has deck deckSize p1 p2 = some (b, 1, deck, deckSize)) ∨
    (fX8_put count cards decks sizes p1 p2 = some (.inr ("java/lang/IllegalStateException", decks, sizes)) ∧ ∃ b, fX9_put thrown kinds has deck deckSize p1 p2 = some (b, 2, deck, deckSize)) := by
  obtain ⟨hn, hd, rfl, rfl, -, -, -⟩ := hK
  obtain ⟨L, hL⟩ := hD
  unfold fX8_put fX9_put fX9_put_b19 fX9_put_b20 fX9_put_b35 fX9_put_b79 fX9_put_b84
  rcases in_n p1 6 (by omega) with ⟨a, ha, rfl⟩ | ⟨ha, -⟩
  · rcases in_n p2 n (by omega) with ⟨k, hk, rfl⟩ | ⟨hk, -⟩
    · obtain ⟨a1, a2, a3, a4, a5, a6⟩ := hL a ha
      have hin := inDeck_eq (deck := deck) (deckSize := deckSize) ha (show k < 20 by omega) a1 a3 a4 (fun x hx => by have := a5 x hx; omega)
      have hc8 : (L a).count k ≤ 8 := Nat.le_trans List.count_le_length a1
      have e8 : fX8_needKind (nI n) (nI k) = some (.inl ((), ())) := needKind_ok hn hk
      have hmt : fX5_mayTakeMore cards decks (nI a) (nI k) = some (if (if 3 < cards a k then 3 else cards a k) ≤ nI ((L a).count k) then 0 else 1) := by
        unfold fX5_mayTakeMore fX5_mayTakeMore_b22
        rw [g_nI ha (by omega), ck_true, g_nI (show k < 20 by omega) (by omega), ck_true, mid_eq ha (by omega), ob_some, clN (by omega), clN (by omega), a6 k (by omega)]
        generalize (if 3 < cards a k then 3 else cards a k) = mx
        split <;> rfl
      have hfull : fX5_isDeckFull sizes (nI a) = some (if nI (L a).length < 8 then 0 else 1) := by
        unfold fX5_isDeckFull fX5_isDeckFull_b16
        rw [g_nI ha (by omega), ck_true, clN (by omega), a2]
        split <;> rfl
      have hcard := (hC a k ha (by omega)).1
      by_cases h8 : (L a).length = 8
      · right; right
        refine ⟨?_, ?_⟩
        · rw [needPlayer_ok ha, ob_some, xm_inl, e8, ob_some, xm_inl, hfull, ob_some, h8, if_neg (show ¬ nI 8 < 8 by decide), if_neg one0]
        · rw [isPlayer_ok ha, ob_some, if_neg one0, isKind_ok hn hk, ob_some, if_neg one0, if_neg one0, hin, ob_some, if_neg one0, g_nI ha (by omega), ck_true, clN (by omega), a3, h8, if_pos (show nI 8 = 8 from rfl), goesWell_2, ob_some]
          exact ⟨_, rfl⟩
      · have hlt : nI (L a).length < 8 := nlt (b := 8) (by omega) (by omega)
        have hne : ¬ nI (L a).length = 8 := neqI (b := 8) (by omega) (by omega) (by omega)
        by_cases ht : (if 3 < cards a k then 3 else cards a k) ≤ nI ((L a).count k)
        · right; right
          refine ⟨?_, ?_⟩
          · rw [needPlayer_ok ha, ob_some, xm_inl, e8, ob_some, xm_inl, hfull, ob_some, if_pos hlt, if_pos rfl, hmt, ob_some, if_pos ht, if_pos rfl]
          · rw [isPlayer_ok ha, ob_some, if_neg one0, isKind_ok hn hk, ob_some, if_neg one0, if_neg one0, hin, ob_some, if_neg one0, g_nI ha (by omega), ck_true, clN (by omega), a3, if_neg hne]
            by_cases h3 : 3 ≤ nI ((L a).count k)
            · rw [if_pos h3, goesWell_2, ob_some]
              exact ⟨_, rfl⟩
            · rw [if_neg h3, ix20 ha (by omega), g_nI (show 20 * a + k < 120 by omega) (by omega), ck_true, clN (by omega), ← hcard, if_neg (fun q => ?_), goesWell_2, ob_some]
              · exact ⟨_, rfl⟩
              · by_cases h3c : 3 < cards a k
                · rw [if_pos h3c] at ht
                  exact h3 ht
                · rw [if_neg h3c] at ht
                  exact ltirr (Int32.lt_of_lt_of_le q ht)
        · left
          have h3 : ¬ 3 ≤ nI ((L a).count k) := fun q => ht (by
            by_cases h3c : 3 < cards a k
            · rw [if_pos h3c]; exact q
            · rw [if_neg h3c]; exact Int32.le_trans (Int32.not_lt.mp h3c) q)
          have hq : nI ((L a).count k) < cards a k := Int32.not_le.mp (fun q => ht (by
            by_cases h3c : 3 < cards a k
            · exact absurd (Int32.le_of_lt (Int32.lt_of_lt_of_le h3c q)) h3
            · rw [if_neg h3c]; exact q))
          refine ⟨nI ((L a).length + 1), gup decks a k (nI ((L a).count k + 1)), upd sizes a (nI ((L a).length + 1)), upd deck (8 * a + (L a).length) (nI k), upd deckSize a (nI ((L a).length + 1)), ?_, ?_, ?_⟩
          · unfold fX5_addToDeck
            rw [needPlayer_ok ha, ob_some, xm_inl, e8, ob_some, xm_inl, hfull, ob_some, if_pos hlt, if_pos rfl, hmt, ob_some, if_neg ht, if_neg one0, g_nI ha (by omega), ck_true, g_nI (show k < 20 by omega) (by omega), ck_true]
            simp only [nm_eq, ck_true, clN (show a < 2147483648 by omega), clN (show k < 2147483648 by omega), a6 k (by omega), a2, nI_1, upd_s, ob_some]
          · rw [isPlayer_ok ha, ob_some, if_neg one0, isKind_ok hn hk, ob_some, if_neg one0, if_neg one0, hin, ob_some, if_neg one0, g_nI ha (by omega), ck_true, clN (by omega), a3, if_neg hne, if_neg h3, ix20 ha (by omega), g_nI (show 20 * a + k < 120 by omega) (by omega), ck_true, clN (by omega), ← hcard, if_pos hq, goesWell_0, ob_some]
            dsimp only
            rw [if_neg one0, ck_true, ix8, g_nI (show 8 * a + (L a).length < 48 by omega) (by omega), ck_true, ck_true, nm_eq, ck_true, ck_true, nI_1, clN (by omega), upd_s]
          · refine ⟨fun p => if p = a then L a ++ [k] else L p, fun p hp => ?_⟩
            by_cases hpa : p = a
            · subst hpa
              simp only [if_true]
              refine ⟨by simp; omega, by rw [upd_s]; simp, by rw [upd_s]; simp, fun j hj => ?_, fun x hx => ?_, fun j hj => ?_⟩
              · simp only [List.length_append, List.length_cons, List.length_nil] at hj
                by_cases hjl : j = (L p).length
                · subst hjl
                  rw [upd_s]
                  simp
                · rw [upd_n (by omega), a4 j (by omega)]
                  simp [List.getD_eq_getElem?_getD, List.getElem?_append_left (show j < (L p).length by omega)]
              · rcases List.mem_append.mp hx with q | q
                · exact a5 x q
                · rw [List.mem_singleton.mp q]; exact hk
              · rw [gup_val, List.count_append]
                by_cases hjk : j = k
                · subst hjk
                  rw [if_pos ⟨rfl, rfl⟩]
                  simp
                · rw [if_neg (fun q => hjk q.2), a6 j hj]
                  simp [List.count_cons, Ne.symm hjk]
            · simp only [if_neg hpa]
              obtain ⟨b1, b2, b3, b4, b5, b6⟩ := hL p hp
              refine ⟨b1, by rw [upd_n hpa]; exact b2, by rw [upd_n hpa]; exact b3, fun j hj => ?_, b5, fun j hj => ?_⟩
              · rw [upd_n (by omega)]; exact b4 j hj
              · rw [gup_val, if_neg (fun q => hpa q.1)]; exact b6 j hj
    · right; left
      refine ⟨?_, ?_⟩
      · rw [needPlayer_ok ha, ob_some, xm_inl, needKind_bad hk, ob_some, xm_inr]
      · rw [isPlayer_ok ha, ob_some, if_neg one0, isKind_bad hn hk, ob_some, if_pos rfl, if_pos rfl, if_pos rfl, goesWell_1, ob_some]
        exact ⟨_, rfl⟩
  · right; left
    refine ⟨?_, ?_⟩
    · rw [needPlayer_bad ha, ob_some, xm_inr]
    · rw [isPlayer_bad ha, ob_some, if_pos rfl, if_pos rfl, if_pos rfl, goesWell_1, ob_some]
      exact ⟨_, rfl⟩
theorem dg_loop {cards : Nat → Nat → Int32} {decks : Nat → Nat → Int32} {sizes bans : Nat → Int32} {a : Nat} {day : Int32} {c : Nat → Nat} (ha : a < 6) (hc : ∀ k, k < 20 → decks a k = nI (c k)) (hc8 : ∀ k, c k ≤ 8) (hb : ∀ k, k < 20 → c k ≠ 0 → fX2_isBanned bans (nI k) day = some (if day < bans k then 0 else 1)) :
    ∀ (r i n : Nat), i + r = 20 → r < n → fX5_isDeckGood_b15 cards decks sizes bans n (nI a) day (nI i) = some (if allB (fun k => decide (¬ 3 < nI (c k)) && decide (¬ cards a k < nI (c k)) && (decide (c k = 0) || decide (day < bans k))) i r = true then 1 else 0) := by
  intro r
  induction r with
  | zero =>
    intro i n hi hn
    rcases n with _ | n
    · omega
    rw [fX5_isDeckGood_b15, if_pos (show (20 : Int32) ≤ nI i from nle (a := 20) (by omega) (by omega))]
    rfl
  | succ r ih =>
    intro i n hi hn
    rcases n with _ | n
    · omega
    have h20 : i < 20 := by omega
    have h8 := hc8 i
    rw [fX5_isDeckGood_b15, if_neg (show ¬ (20 : Int32) ≤ nI i from nnle (a := 20) (by omega) (by omega)), g_nI ha (by omega), ck_true, g_nI h20 (by omega), ck_true, mid_eq ha h20, ob_some, clN (by omega), clN (by omega), hc i h20]
    unfold fX5_isDeckGood_b46 fX5_isDeckGood_b75 fX5_isDeckGood_b77 allB
    by_cases hm : nI (c i) ≤ (if 3 < cards a i then 3 else cards a i)
    · have hm2 := (most_le h8).mp hm
      rw [if_pos hm, if_pos rfl, g_nI ha (by omega), ck_true, g_nI h20 (by omega), ck_true, clN (by omega), clN (by omega), hc i h20]
      by_cases h0 : c i = 0
      · rw [h0, if_pos (show nI 0 ≤ 0 by decide), nm_eq, nI_1, ih (i + 1) n (by omega) (by omega)]
        rw [h0] at hm2
        simp [h0, hm2.1, hm2.2]
      · rw [if_neg (show ¬ nI (c i) ≤ 0 from nI_nle (by omega) (by omega)), hb i h20 h0, ob_some]
        by_cases hbn : day < bans i
        · rw [if_pos hbn, if_pos rfl, nm_eq, nI_1, ih (i + 1) n (by omega) (by omega)]
          simp [hm2.1, hm2.2, hbn]
        · rw [if_neg hbn, if_neg one0]
          simp [hbn, h0]
    · rw [if_neg hm, if_neg one0]
      have hm2 : ¬ (¬ 3 < nI (c i) ∧ ¬ cards a i < nI (c i)) := fun q => hm ((most_le h8).mpr q)
      by_cases q3 : 3 < nI (c i)
      · simp [q3]
      · have q4 : cards a i < nI (c i) := Classical.byContradiction fun q => hm2 ⟨q3, q⟩
        simp [q4]
theorem ig_loop {today : Int32} {banned has deck deckSize : Nat → Int32} {bans : Nat → Int32} {n0 a : Nat} {day : Int32} {c : Nat → Nat} (hn0 : n0 ≤ 20) (ha : a < 6) (hin : ∀ k, k < 20 → fX9_inDeck deck deckSize (nI a) (nI k) = some (nI (c k))) (hc8 : ∀ k, c k ≤ 8) (hb : ∀ k, k < n0 → fX9_isBanned banned (nI k) day = some (if day < bans k then 0 else 1)) (thrown : Int32) :
    ∀ (r i n : Nat) (f : Bool), i + r = n0 → r < n → fX9_isGood_b61 today (nI n0) banned has deck deckSize n thrown (nI a) day (if f = true then 1 else 0) (nI i) = some (if (f && allB (fun k => decide (¬ 3 < nI (c k)) && decide (¬ has (20 * a + k) < nI (c k)) && (decide (c k = 0) || decide (day < bans k))) i r) = true then 1 else 0, thrown) := by
  intro r
  induction r with
  | zero =>
    intro i n f hi hn
    rcases n with _ | n
    · omega
    rw [fX9_isGood_b61, if_pos (nle (by omega) (by omega))]
    unfold allB
    rw [Bool.and_true]
  | succ r ih =>
    intro i n f hi hn
    rcases n with _ | n
    · omega
    have h20 : i < 20 := by omega
    have h8 := hc8 i
    have go : ∀ g : Bool, fX9_isGood_b127 (fX9_isGood_b61 today (nI n0) banned has deck deckSize n) today (nI n0) banned has deck deckSize thrown (nI a) day (nI i) (if g = true then 1 else 0) = some (if (g && allB (fun k => decide (¬ 3 < nI (c k)) && decide (¬ has (20 * a + k) < nI (c k)) && (decide (c k = 0) || decide (day < bans k))) (i + 1) r) = true then 1 else 0, thrown) := fun g => by
      unfold fX9_isGood_b127
      rw [nm_eq, nI_1]
      exact ih (i + 1) n g (by omega) (by omega)
    have go0 := go false
    have go1 := go true
    simp only [Bool.false_eq_true, if_false, if_true, Bool.false_and, Bool.true_and] at go0 go1
    rw [fX9_isGood_b61, if_neg (nnle (by omega) (by omega)), hin i h20, ob_some]
    unfold fX9_isGood_b126 fX9_isGood_b122 allB
    rw [go0, go1]
    cases f with
    | false => simp
    | true =>
      rw [if_pos rfl, if_neg one0]
      by_cases q3 : 3 < nI (c i)
      · rw [if_pos q3]
        simp [q3]
      · rw [if_neg q3, ix20 ha h20, g_nI (show 20 * a + i < 120 by omega) (by omega), ck_true, clN (by omega)]
        by_cases q4 : has (20 * a + i) < nI (c i)
        · rw [if_pos q4]
          simp [q4]
        · rw [if_neg q4]
          by_cases h0 : c i = 0
          · rw [h0, if_pos (show nI 0 = 0 from rfl)]
            rw [h0] at q3 q4
            simp [h0, q3, q4]
          · rw [if_neg (show ¬ nI (c i) = 0 from nI_ne0 (by omega) (by omega)), hb i (by omega), ob_some]
            by_cases hbn : day < bans i
            · rw [if_pos hbn, if_pos rfl]
              simp [q3, q4, hbn]
            · rw [if_neg hbn, if_neg one0]
              simp [hbn, h0]
theorem m_isGood {n d : Nat} {count : Int32} {effects numbers bans : Nat → Int32} {today kinds : Int32} {effect number banned : Nat → Int32} {mtoday : Int32} {cards : Nat → Nat → Int32} {has : Nat → Int32} {decks : Nat → Nat → Int32} {sizes deck deckSize : Nat → Int32} (hK : RK n d count effects numbers bans today kinds effect number banned mtoday) (hC : RC n cards has) (hD : RD n decks sizes deck deckSize) (thrown p1 p2 : Int32) :
    (∃ r, wB r ∧ fX8_isGood today bans cards decks sizes p1 p2 = some (.inl (r, ())) ∧ fX9_isGood thrown mtoday kinds banned has deck deckSize p1 p2 = some (r, 0)) ∨
    (fX8_isGood today bans cards decks sizes p1 p2 = some (.inr ("java/lang/IndexOutOfBoundsException", ())) ∧ ∃ b, fX9_isGood thrown mtoday kinds banned has deck deckSize p1 p2 = some (b, 1)) ∨
    (fX8_isGood today bans cards decks sizes p1 p2 = some (.inr ("java/lang/IllegalArgumentException", ())) ∧ ∃ b, fX9_isGood thrown mtoday kinds banned has deck deckSize p1 p2 = some (b, 2)) := by
  have hK' := hK
  obtain ⟨hn, hd, rfl, rfl, rfl, rfl, hk⟩ := hK
  obtain ⟨L, hL⟩ := hD
  unfold fX8_isGood fX9_isGood fX9_isGood_b33 fX9_isGood_b56
  rcases in_n p1 6 (by omega) with ⟨a, ha, rfl⟩ | ⟨ha, -⟩
  · obtain ⟨a1, a2, a3, a4, a5, a6⟩ := hL a ha
    by_cases h : nI d ≤ p2 ∧ p2 ≤ 1000
    · left
      have hc8 : ∀ k, (L a).count k ≤ 8 := fun k => Nat.le_trans List.count_le_length a1
      have hin : ∀ k, k < 20 → fX9_inDeck deck deckSize (nI a) (nI k) = some (nI ((L a).count k)) := fun k hk => inDeck_eq ha hk a1 a3 a4 (fun x hx => by have := a5 x hx; omega)
      have hc0 : ∀ k, n ≤ k → (L a).count k = 0 := fun k hk => List.count_eq_zero.mpr (fun q => by have := a5 k q; omega)
      have hdg := dg_loop (cards := cards) (sizes := sizes) (day := p2) (c := fun k => (L a).count k) ha (fun k hk => a6 k hk) hc8 (fun k hk h0 => (isB_eq hK' (Nat.lt_of_not_le fun q => h0 (hc0 k q)) h.2).1) 20 0 70 (by omega) (by omega)
      have hig := ig_loop (today := nI d) (banned := banned) (has := has) (day := p2) (c := fun k => (L a).count k) (bans := bans) hn ha hin hc8 (fun k hk => (isB_eq hK' hk h.2).2) 0 n 0 70 (decide (4 ≤ (L a).length)) (by omega) (by omega)
      have hall : allB (fun k => decide (¬ 3 < nI ((L a).count k)) && decide (¬ cards a k < nI ((L a).count k)) && (decide ((L a).count k = 0) || decide (p2 < bans k))) 0 20 = allB (fun k => decide (¬ 3 < nI ((L a).count k)) && decide (¬ has (20 * a + k) < nI ((L a).count k)) && (decide ((L a).count k = 0) || decide (p2 < bans k))) 0 n := by
        have hs := allB_split (P := fun k => decide (¬ 3 < nI ((L a).count k)) && decide (¬ cards a k < nI ((L a).count k)) && (decide ((L a).count k = 0) || decide (p2 < bans k))) (i := 0) (a := n) (b := 20 - n)
        rw [show n + (20 - n) = 20 by omega, Nat.zero_add] at hs
        rw [hs, allB_t (i := n) (r := 20 - n) (fun k h1 h2 => by
          rw [hc0 k h1, (hC a k ha (by omega)).2 h1]
          simp
          decide), Bool.and_true]
        exact allB_cong (fun k h1 h2 => by rw [(hC a k ha (by omega)).1])
      refine ⟨if (decide (4 ≤ (L a).length) && allB (fun k => decide (¬ 3 < nI ((L a).count k)) && decide (¬ has (20 * a + k) < nI ((L a).count k)) && (decide ((L a).count k = 0) || decide (p2 < bans k))) 0 n) = true then 1 else 0, ?_, ?_, ?_⟩
      · unfold wB
        split
        · exact Or.inr rfl
        · exact Or.inl rfl
      · unfold fX8_needDay fX5_isDeckGood
        rw [needPlayer_ok ha, ob_some, xm_inl, if_neg (Int32.not_lt.mpr h.1), if_pos h.2, ob_some, xm_inl, g_nI ha (by omega), ck_true, clN (by omega), a2]
        by_cases h4 : 4 ≤ (L a).length
        · rw [if_pos (show (4 : Int32) ≤ nI (L a).length from nle (a := 4) h4 (by omega)), show fX5_isDeckGood_b15 cards decks sizes bans 70 (nI a) p2 0 = _ from hdg, hall, ob_some]
          simp [h4]
        · rw [if_neg (show ¬ (4 : Int32) ≤ nI (L a).length from nnle (a := 4) (by omega) (by omega)), ob_some]
          simp [h4]
      · rw [isPlayer_ok ha, ob_some, if_neg one0, in_eq, if_pos h, ob_some, if_neg one0, goesWell_0, ob_some]
        dsimp only
        rw [if_neg one0, g_nI ha (by omega), ck_true, clN (by omega), a3]
        by_cases h4 : 4 ≤ (L a).length
        · rw [if_neg (show ¬ nI (L a).length < 4 from nnlt (b := 4) (a := (L a).length) h4 (by omega))]
          simp only [h4, decide_true, if_true] at hig
          rw [show fX9_isGood_b61 (nI d) (nI n) banned has deck deckSize 70 0 (nI a) p2 1 0 = _ from hig]
          simp [h4]
        · rw [if_pos (show nI (L a).length < 4 from nlt (b := 4) (by omega) (by omega))]
          simp only [h4, decide_false, Bool.false_eq_true, if_false] at hig
          rw [show fX9_isGood_b61 (nI d) (nI n) banned has deck deckSize 70 0 (nI a) p2 0 0 = _ from hig]
          simp [h4]
    · right; right
      refine ⟨?_, ?_⟩
      · unfold fX8_needDay fX8_needDay_b15
        rw [needPlayer_ok ha, ob_some, xm_inl]
        by_cases h1 : p2 < nI d
        · rw [if_pos h1, ob_some, xm_inr]
        · rw [if_neg h1, if_neg (fun q => h ⟨Int32.not_lt.mp h1, q⟩), ob_some, xm_inr]
      · rw [isPlayer_ok ha, ob_some, if_neg one0, in_eq, if_neg h, ob_some, if_pos rfl, goesWell_2, ob_some]
        exact ⟨_, rfl⟩
  · right; left
    refine ⟨?_, ?_⟩
    · rw [needPlayer_bad ha, ob_some, xm_inr]
    · rw [isPlayer_bad ha, ob_some, if_pos rfl, goesWell_1, ob_some]
      exact ⟨_, rfl⟩
