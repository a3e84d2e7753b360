/-! MATH 1: the calls that only read, and the small ones -/
/-- kinds and days -/
def RK (n d : Nat) (count : Int32) (effects numbers bans : Nat → Int32) (today kinds : Int32) (effect number banned : Nat → Int32) (mtoday : Int32) : Prop :=
  n ≤ 20 ∧ d ≤ 1000 ∧ count = nI n ∧ kinds = nI n ∧ today = nI d ∧ mtoday = nI d ∧ ∀ k, k < n → ∃ e m, e < 6 ∧ 1 ≤ m ∧ m < 10 ∧ effects k = nI e ∧ effect k = nI e ∧ numbers k = nI m ∧ number k = nI m ∧ ((banned k = -1 ∧ bans k = nI 1001) ∨ ∃ b, b ≤ 1000 ∧ banned k = nI b ∧ bans k = nI b)
/-- collections -/
def RC (n : Nat) (cards : Nat → Nat → Int32) (has : Nat → Int32) : Prop := ∀ p k, p < 6 → k < 20 → cards p k = has (20 * p + k) ∧ (n ≤ k → cards p k = 0)
theorem ix20 {p k : Nat} (hp : p < 6) (hk : k < 20) : (20 * nI p + nI k : Int32) = nI (20 * p + k) := by
  rw [show (20 : Int32) = nI 20 from rfl, pk_mul, nI_add]
theorem ix8 {p k : Nat} : (8 * nI p + nI k : Int32) = nI (8 * p + k) := by
  rw [show (8 : Int32) = nI 8 from rfl, pk_mul, nI_add]
theorem ix6 {p k : Nat} : (6 * nI p + nI k : Int32) = nI (6 * p + k) := by
  rw [show (6 : Int32) = nI 6 from rfl, pk_mul, nI_add]
theorem gup_val (M : Nat → Nat → Int32) (i j : Nat) (v : Int32) (a b : Nat) : gup M i j v a b = if a = i ∧ b = j then v else M a b := by
  unfold gup upd
  by_cases h1 : a = i
  · by_cases h2 : b = j <;> simp [h1, h2]
  · simp [h1]
/-- a cell of a collection is changed in both -/
theorem RC.put {n : Nat} {cards : Nat → Nat → Int32} {has : Nat → Int32} (hC : RC n cards has) {a k : Nat} (ha : a < 6) (hk : k < n) (hn : n ≤ 20) (v : Int32) : RC n (gup cards a k v) (upd has (20 * a + k) v) := by
  intro q j hq hj
  have h0 := hC q j hq hj
  rw [gup_val]
  unfold upd
  by_cases e : q = a ∧ j = k
  · obtain ⟨rfl, rfl⟩ := e
    rw [if_pos ⟨rfl, rfl⟩, if_pos rfl]
    exact ⟨rfl, fun h => absurd hk (by omega)⟩
  · rw [if_neg e, if_neg (by omega)]
    exact h0
theorem one0 : ¬ (1 : Int32) = 0 := by decide
theorem two0 : ¬ (2 : Int32) = 0 := by decide
theorem m_has {n d : Nat} {count : Int32} {effects numbers bans : Nat → Int32} {today kinds : Int32} {effect number banned : Nat → Int32} {mtoday : Int32} {cards : Nat → Nat → Int32} {has : Nat → Int32} (hK : RK n d count effects numbers bans today kinds effect number banned mtoday) (hC : RC n cards has) (thrown p1 p2 : Int32) :
    (∃ r, fX8_has count cards p1 p2 = some (.inl (r, ())) ∧ fX9_has thrown kinds has p1 p2 = some (r, 0)) ∨ (fX8_has count cards p1 p2 = some (.inr ("java/lang/IndexOutOfBoundsException", ())) ∧ ∃ b, fX9_has thrown kinds has p1 p2 = some (b, 1)) := by
  obtain ⟨hn, hd, rfl, rfl, -, -, -⟩ := hK
  unfold fX8_has fX9_has fX9_has_b20 fX9_has_b21 fX9_has_b42
  rcases in_n p1 6 (by omega) with ⟨a, ha, rfl⟩ | ⟨ha, -⟩
  · rcases in_n p2 n (by omega) with ⟨k, hk, rfl⟩ | ⟨hk, -⟩
    · left
      refine ⟨cards a k, ?_, ?_⟩
      · rw [needPlayer_ok ha, ob_some, xm_inl, needKind_ok hn hk, ob_some, xm_inl, g_nI ha (by omega), ck_true, g_nI (show k < 20 by omega) (by omega), ck_true, clN (by omega), clN (by omega)]
      · rw [isPlayer_ok ha, ob_some, if_neg one0, isKind_ok hn hk, ob_some, if_neg one0, goesWell_0, ob_some]
        dsimp only
        rw [if_neg one0, ix20 ha (by omega), g_nI (show 20 * a + k < 120 by omega) (by omega), ck_true, clN (by omega), ((hC a k ha (by omega)).1)]
    · right
      refine ⟨?_, ?_⟩
      · rw [needPlayer_ok ha, ob_some, xm_inl, needKind_bad hk, ob_some, xm_inr]
      · rw [isPlayer_ok ha, ob_some, if_neg one0, isKind_bad hn hk, ob_some, if_pos rfl, goesWell_1, ob_some]
        exact ⟨_, rfl⟩
  · right
    refine ⟨?_, ?_⟩
    · rw [needPlayer_bad ha, ob_some, xm_inr]
    · rw [isPlayer_bad ha, ob_some, if_pos rfl, goesWell_1, ob_some]
      exact ⟨_, rfl⟩
theorem m_strength {strengths strength : Nat → Int32} (hs : ∀ p, p < 6 → strengths p = strength p) (thrown p1 : Int32) :
    (∃ r, fX8_strength strengths p1 = some (.inl (r, ())) ∧ fX9_strength thrown strength p1 = some (r, 0)) ∨ (fX8_strength strengths p1 = some (.inr ("java/lang/IndexOutOfBoundsException", ())) ∧ ∃ b, fX9_strength thrown strength p1 = some (b, 1)) := by
  unfold fX8_strength fX9_strength fX9_strength_b13 fX9_strength_b29
  rcases in_n p1 6 (by omega) with ⟨a, ha, rfl⟩ | ⟨ha, -⟩
  · left
    refine ⟨strength a, ?_, ?_⟩
    · rw [needPlayer_ok ha, ob_some, xm_inl, g_nI ha (by omega), ck_true, clN (by omega), hs a ha]
    · rw [isPlayer_ok ha, ob_some, if_neg one0, goesWell_0, ob_some]
      dsimp only
      rw [if_neg one0, g_nI ha (by omega), ck_true, clN (by omega)]
  · right
    refine ⟨?_, ?_⟩
    · rw [needPlayer_bad ha, ob_some, xm_inr]
    · rw [isPlayer_bad ha, ob_some, if_pos rfl, goesWell_1, ob_some]
      exact ⟨_, rfl⟩
theorem m_life {lives shields life shield : Nat → Int32} (hl : ∀ p, p < 6 → lives p = life p) (hs : ∀ p, p < 6 → shields p = shield p) (thrown p1 p2 : Int32) :
    (∃ r, fX8_life lives shields p1 p2 = some (.inl (r, ())) ∧ fX9_life thrown life shield p1 p2 = some (r, 0)) ∨ (fX8_life lives shields p1 p2 = some (.inr ("java/lang/IndexOutOfBoundsException", ())) ∧ ∃ b, fX9_life thrown life shield p1 p2 = some (b, 1)) := by
  unfold fX8_life fX9_life fX9_life_b13 fX9_life_b42 fX8_life_b29
  rcases in_n p1 6 (by omega) with ⟨a, ha, rfl⟩ | ⟨ha, -⟩
  · left
    refine ⟨if p2 = 0 then life a else shield a, ?_, ?_⟩
    · rw [needPlayer_ok ha, ob_some, xm_inl, g_nI ha (by omega), ck_true, ck_true, clN (by omega), hs a ha, hl a ha]
      split <;> rfl
    · rw [isPlayer_ok ha, ob_some, if_neg one0, goesWell_0, ob_some]
      dsimp only
      rw [if_neg one0, g_nI ha (by omega), ck_true, ck_true, clN (by omega)]
      split <;> rfl
  · right
    refine ⟨?_, ?_⟩
    · rw [needPlayer_bad ha, ob_some, xm_inr]
    · rw [isPlayer_bad ha, ob_some, if_pos rfl, goesWell_1, ob_some]
      exact ⟨_, rfl⟩
theorem m_get {n d : Nat} {count : Int32} {effects numbers bans : Nat → Int32} {today kinds : Int32} {effect number banned : Nat → Int32} {mtoday : Int32} {cards : Nat → Nat → Int32} {has : Nat → Int32} (hK : RK n d count effects numbers bans today kinds effect number banned mtoday) (hC : RC n cards has) (thrown p1 p2 p3 : Int32) :
    (∃ r cards' has', fX8_get count cards p1 p2 p3 = some (.inl (r, cards')) ∧ fX9_get thrown kinds has p1 p2 p3 = some (r, 0, has') ∧ RC n cards' has') ∨
    (fX8_get count cards p1 p2 p3 = some (.inr ("java/lang/IndexOutOfBoundsException", cards)) ∧ ∃ b, fX9_get thrown kinds has p1 p2 p3 = some (b, 1, has)) ∨
    (fX8_get count cards p1 p2 p3 = some (.inr ("java/lang/IllegalArgumentException", cards)) ∧ ∃ b, fX9_get thrown kinds has p1 p2 p3 = some (b, 2, has)) := by
  obtain ⟨hn, hd, rfl, rfl, -, -, -⟩ := hK
  unfold fX8_get fX9_get fX9_get_b19 fX9_get_b20 fX9_get_b47 fX8_get_b20
  rcases in_n p1 6 (by omega) with ⟨a, ha, rfl⟩ | ⟨ha, -⟩
  · rcases in_n p2 n (by omega) with ⟨k, hk, rfl⟩ | ⟨hk, -⟩
    · by_cases h3 : 1 ≤ p3 ∧ p3 ≤ 9
      · left
        refine ⟨cards a k + p3, gup cards a k (cards a k + p3), upd has (20 * a + k) (has (20 * a + k) + p3), ?_, ?_, ?_⟩
        · rw [needPlayer_ok ha, ob_some, xm_inl, needKind_ok hn hk, ob_some, xm_inl, if_neg (Int32.not_lt.mpr h3.1), if_pos h3.2, g_nI ha (by omega), ck_true, g_nI (show k < 20 by omega) (by omega), ck_true, nm_eq, ck_true, ck_true, ck_true, clN (by omega), clN (by omega)]
          simp [gup, upd]
        · rw [isPlayer_ok ha, ob_some, if_neg one0, isKind_ok hn hk, ob_some, if_neg one0, if_neg one0, in_eq, if_pos h3, ob_some, if_neg one0, goesWell_0, ob_some]
          dsimp only
          rw [if_neg one0, ix20 ha (by omega), g_nI (show 20 * a + k < 120 by omega) (by omega), ck_true, nm_eq, ck_true, ck_true, clN (by omega), ((hC a k ha (by omega)).1)]
          simp [upd]
        · rw [← (hC a k ha (by omega)).1]
          exact hC.put ha hk hn _
      · right; right
        refine ⟨?_, ?_⟩
        · rw [needPlayer_ok ha, ob_some, xm_inl, needKind_ok hn hk, ob_some, xm_inl]
          by_cases h1 : p3 < 1
          · rw [if_pos h1]
          · rw [if_neg h1, if_neg (fun q => h3 ⟨Int32.not_lt.mp h1, q⟩)]
        · rw [isPlayer_ok ha, ob_some, if_neg one0, isKind_ok hn hk, ob_some, if_neg one0, if_neg one0, in_eq, if_neg h3, ob_some, if_pos rfl, goesWell_2, ob_some]
          exact ⟨_, rfl⟩
    · right; left
      refine ⟨?_, ?_⟩
      · rw [needPlayer_ok ha, ob_some, xm_inl, needKind_bad hk, ob_some, xm_inr]
      · rw [isPlayer_ok ha, ob_some, if_neg one0, isKind_bad hn hk, ob_some, if_pos rfl, if_pos rfl, goesWell_1, ob_some]
        exact ⟨_, rfl⟩
  · right; left
    refine ⟨?_, ?_⟩
    · rw [needPlayer_bad ha, ob_some, xm_inr]
    · rw [isPlayer_bad ha, ob_some, if_pos rfl, if_pos rfl, goesWell_1, ob_some]
      exact ⟨_, rfl⟩
