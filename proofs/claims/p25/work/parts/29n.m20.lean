/-! MATH 20: pairs, the row -/
theorem ins_loop {str mstr : Nat → Int32} (hstr : ∀ p, p < 6 → str p = mstr p) (K : Int32 → (Nat → Int32) → Int32 → Int32 → Option (Int32 × (Nat → Int32))) (l1 : Int32) {len q : Nat} {R : Nat → Nat} (hlen : len < 6) (hq : q < 6) (hR : ∀ i, i < len → R i < q) : ∀ (l f f' : Nat) (row mrow : Nat → Int32), l ≤ len → l < f → l < f' →
    (∀ i, i < l → row i = nI (R i) ∧ mrow i = nI (R i)) → (∀ i, l < i → i ≤ len → row i = nI (R (i - 1)) ∧ mrow i = nI (R (i - 1))) →
    ∃ (c : Nat) (row' mrow' : Nat → Int32), c ≤ len ∧ fX3_putIntoRow_b15 str f (nI len) row (nI q) (nI l) = some (nI (len + 1), row') ∧ fX9_rowOf_b27 K mstr f' (nI len) mrow l1 (nI q) (nI l) = K (nI (len + 1)) mrow' l1 (nI (q + 1)) ∧
      ∀ i, i < len + 1 → row' i = nI (if i < c then R i else if i = c then q else R (i - 1)) ∧ mrow' i = nI (if i < c then R i else if i = c then q else R (i - 1)) := by
  have fin : ∀ (l f f' : Nat) (row mrow : Nat → Int32), l ≤ len → (∀ i, i < l → row i = nI (R i) ∧ mrow i = nI (R i)) → (∀ i, l < i → i ≤ len → row i = nI (R (i - 1)) ∧ mrow i = nI (R (i - 1))) →
      ∀ i, i < len + 1 → upd row l (nI q) i = nI (if i < l then R i else if i = l then q else R (i - 1)) ∧ upd mrow l (nI q) i = nI (if i < l then R i else if i = l then q else R (i - 1)) := by
    intro l f f' row mrow hl h1 h2 i hi
    by_cases z : i = l
    · rw [z, upd_s, upd_s, if_neg (Nat.lt_irrefl _), if_pos rfl]
      exact ⟨rfl, rfl⟩
    · rw [upd_n z, upd_n z]
      by_cases z2 : i < l
      · rw [if_pos z2]
        exact h1 i z2
      · rw [if_neg z2, if_neg z]
        exact h2 i (by omega) (by omega)
  intro l
  induction l with
  | zero =>
    intro f f' row mrow h1 h2 h3 h4 h5
    rcases f with _ | f
    · omega
    rcases f' with _ | f'
    · omega
    refine ⟨0, upd row 0 (nI q), upd mrow 0 (nI q), Nat.zero_le _, ?_, ?_, fin 0 0 0 row mrow h1 h4 h5⟩
    · rw [fX3_putIntoRow_b15, if_pos (show nI 0 ≤ 0 by decide)]
      unfold fX3_putIntoRow_b61
      rw [g_nI (show 0 < 6 by omega) (by omega), ck_true, nm_eq, nI_1, clN (by omega)]
    · rw [fX9_rowOf_b27, if_pos (show nI 0 ≤ 0 by decide)]
      unfold fX9_rowOf_b73 fX9_rowOf_b90
      rw [g_nI (show 0 < 6 by omega) (by omega), ck_true, nm_eq, nm_eq, nI_1, nI_1, clN (by omega)]
  | succ l ih =>
    intro f f' row mrow h1 h2 h3 h4 h5
    rcases f with _ | f
    · omega
    rcases f' with _ | f'
    · omega
    obtain ⟨e1, e2⟩ := h4 l (Nat.lt_succ_self l)
    have hRl := hR l (by omega)
    rw [fX3_putIntoRow_b15, if_neg (show ¬ nI (l + 1) ≤ 0 from nnle (b := 0) (by omega) (by omega)), nI_pred, g_nI (show l < 6 by omega) (by omega), ck_true, clN (by omega), e1, g_nI (show R l < 6 by omega) (by omega), ck_true, g_nI hq (by omega), ck_true, ck_true, nm_eq, clN (by omega), clN (by omega), g_nI (show l + 1 < 6 by omega) (by omega), ck_true, nm_eq, pl_m1, nI_pred,
      fX9_rowOf_b27, if_neg (show ¬ nI (l + 1) ≤ 0 from nnle (b := 0) (by omega) (by omega)), nI_pred, g_nI (show l < 6 by omega) (by omega), ck_true, clN (j := l) (by omega), e2, g_nI (show R l < 6 by omega) (by omega), ck_true, g_nI hq (by omega), ck_true, ck_true, nm_eq, clN (j := q) (by omega), clN (j := R l) (by omega), g_nI (show l + 1 < 6 by omega) (by omega), ck_true, nm_eq, pl_m1, nI_pred, hstr q hq, hstr (R l) (by omega), clN (j := l + 1) (by omega)]
    by_cases c : mstr q ≤ mstr (R l)
    · rw [if_pos c, if_pos c]
      refine ⟨l + 1, upd row (l + 1) (nI q), upd mrow (l + 1) (nI q), h1, ?_, ?_, fin (l + 1) 0 0 row mrow h1 h4 h5⟩
      · unfold fX3_putIntoRow_b61
        rw [g_nI (show l + 1 < 6 by omega) (by omega), ck_true, nm_eq, nI_1, clN (by omega)]
      · unfold fX9_rowOf_b73 fX9_rowOf_b90
        rw [g_nI (show l + 1 < 6 by omega) (by omega), ck_true, nm_eq, nm_eq, nI_1, nI_1, clN (by omega)]
    · rw [if_neg c, if_neg c]
      refine ih f f' _ _ (by omega) (by omega) (by omega) (fun i hi => ?_) fun i hi hi2 => ?_
      · rw [upd_n (by omega), upd_n (by omega)]
        exact h4 i (by omega)
      · by_cases z : i = l + 1
        · rw [z, upd_s, upd_s, Nat.add_sub_cancel]
          exact ⟨rfl, rfl⟩
        · rw [upd_n z, upd_n z]
          exact h5 i (by omega) hi2
theorem row_loop {str mstr : Nat → Int32} (hstr : ∀ p, p < 6 → str p = mstr p) {B : Nat} (hB : B < 64) : ∀ (r q f f' len : Nat) (R : Nat → Nat) (row mrow : Nat → Int32), q + r = 6 → r < f → r < f' → len ≤ q → (∀ i, i < len → R i < q) → (∀ i j, i < j → j < len → R i ≠ R j) → (∀ i, i < len → row i = nI (R i) ∧ mrow i = nI (R i)) →
    ∃ (len' : Nat) (R' : Nat → Nat) (row' mrow' : Nat → Int32), len' ≤ 6 ∧ fX3_makeRow_b7 str f (nI len) row (nI B) (nI q) = some (nI len', row') ∧ fX9_rowOf_b7 mstr f' (nI len) mrow (nI B) (nI q) = some (nI (len' - len' % 2), mrow') ∧ (∀ i, i < len' → R' i < 6) ∧ (∀ i j, i < j → j < len' → R' i ≠ R' j) ∧ ∀ i, i < len' → row' i = nI (R' i) ∧ mrow' i = nI (R' i) := by
  intro r
  induction r with
  | zero =>
    intro q f f' len R row mrow h1 h2 h3 h4 h5 h6 h7
    rcases f with _ | f
    · omega
    rcases f' with _ | f'
    · omega
    refine ⟨len, R, row, mrow, by omega, ?_, ?_, fun i hi => by have := h5 i hi; omega, h6, h7⟩
    · rw [fX3_makeRow_b7, if_pos (show 6 ≤ nI q from nle (a := 6) (by omega) (by omega))]
    · rw [fX9_rowOf_b7, if_pos (show 6 ≤ nI q from nle (a := 6) (by omega) (by omega)), nm_eq, show (2 : Int32) = nI 2 from rfl, pk_rem (by omega) (by omega) (by omega), pk_sub (Nat.mod_le _ _)]
  | succ r ih =>
    intro q f f' len R row mrow h1 h2 h3 h4 h5 h6 h7
    rcases f with _ | f
    · omega
    rcases f' with _ | f'
    · omega
    rw [fX3_makeRow_b7, if_neg (show ¬ 6 ≤ nI q from nnle (a := 6) (by omega) (by omega)), bitI B hB q (by omega), fX9_rowOf_b7, if_neg (show ¬ 6 ≤ nI q from nnle (a := 6) (by omega) (by omega)), bitI B hB q (by omega)]
    unfold fX3_makeRow_b27
    by_cases hb : B.testBit q = true
    · rw [if_pos hb, if_pos rfl, if_pos rfl]
      obtain ⟨c, row', mrow', hc, q1, q2, q3⟩ := ins_loop hstr (fX9_rowOf_b7 mstr f') (nI B) (show len < 6 by omega) (show q < 6 by omega) h5 len 70 70 row mrow (Nat.le_refl _) (by omega) (by omega) h7 (fun i hi hi2 => by omega)
      unfold fX3_putIntoRow
      rw [if_pos (show nI len < 6 from nlt (b := 6) (by omega) (by omega)), q1, ob_some, q2]
      dsimp only
      rw [nm_eq, nI_1]
      refine ih (q + 1) f f' (len + 1) _ row' mrow' (by omega) (by omega) (by omega) (by omega) (fun i hi => ?_) (fun i j hij hj => ?_) q3
      · by_cases z1 : i < c
        · rw [if_pos z1]
          have := h5 i (by omega)
          omega
        · rw [if_neg z1]
          by_cases z2 : i = c
          · rw [if_pos z2]
            omega
          · rw [if_neg z2]
            have := h5 (i - 1) (by omega)
            omega
      · by_cases z1 : j < c
        · rw [if_pos z1, if_pos (show i < c by omega)]
          exact h6 i j hij (by omega)
        · rw [if_neg z1]
          by_cases z2 : j = c
          · rw [if_pos z2, if_pos (show i < c by omega)]
            have := h5 i (by omega)
            omega
          · rw [if_neg z2]
            have hj1 := h5 (j - 1) (by omega)
            by_cases y1 : i < c
            · rw [if_pos y1]
              exact h6 i (j - 1) (by omega) (by omega)
            · rw [if_neg y1]
              by_cases y2 : i = c
              · rw [if_pos y2]
                omega
              · rw [if_neg y2]
                exact h6 (i - 1) (j - 1) (by omega) (by omega)
    · rw [if_neg hb, if_neg (by decide), if_neg (by decide), nm_eq, nI_1]
      unfold fX9_rowOf_b90
      rw [nm_eq, nI_1]
      exact ih (q + 1) f f' len R row mrow (by omega) (by omega) (by omega) (by omega) (fun i hi => by have := h5 i hi; omega) h6 h7
