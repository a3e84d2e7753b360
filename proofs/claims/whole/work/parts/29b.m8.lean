/-! MATH 8: the reference's stack -/
def gM (d : Nat → Int32) (m : Nat → Int64) (w a : Nat → Int32) (i : Nat) : Pl := ((d i).toNatClampNeg, (m i).toInt, (w i).toNatClampNeg, (a i).toNatClampNeg)
def okM (s : Nat) (d : Nat → Int32) (m : Nat → Int64) (w a : Nat → Int32) : Prop := s ≤ 6 ∧ ∀ i, i < s → (∃ k, k < 6 ∧ d i = nI k) ∧ (1 ≤ (m i).toInt ∧ (m i).toInt ≤ 2147483647) ∧ (∃ p, p < 6 ∧ w i = nI p) ∧ ∃ p, p < 6 ∧ a i = nI p
def okV (li sh : Nat → Int64) : Prop := ∀ p, p < 6 → okI (li p).toInt ∧ 0 ≤ (sh p).toInt ∧ (sh p).toInt ≤ 2147483647
def lL (li : Nat → Int64) (p : Nat) : Int := (li p).toInt
theorem updL_s (f : Nat → Int64) (k : Nat) (x : Int64) : vp_updL f k x k = x := by simp [vp_updL]
theorem updL_n {f : Nat → Int64} {k j : Nat} {x : Int64} (h : j ≠ k) : vp_updL f k x j = f j := by simp [vp_updL, h]
theorem lL_upd (li : Nat → Int64) (p : Nat) (v : Int64) : lL (vp_updL li p v) = fU (lL li) p v.toInt := by
  funext q
  unfold lL vp_updL fU
  by_cases h : q = p
  · rw [if_pos h, if_pos h]
  · rw [if_neg h, if_neg h]
theorem tOff_loop {z : Nat} (hz : z < 6) : ∀ (r j f : Nat) (w d : Nat → Int32) (m : Nat → Int64) (a : Nat → Int32), j + r = z → r < f →
    ∃ (w' d' : Nat → Int32) (m' : Nat → Int64) (a' : Nat → Int32), fX9_tryOff_b2 f (nI (z + 1)) w d m a (nI j) = some (nI z, w', d', m', a') ∧ ∀ i, i < z → (i < j → d' i = d i ∧ m' i = m i ∧ w' i = w i ∧ a' i = a i) ∧ (j ≤ i → d' i = d (i + 1) ∧ m' i = m (i + 1) ∧ w' i = w (i + 1) ∧ a' i = a (i + 1)) := by
  intro r
  induction r with
  | zero =>
    intro j f w d m a h1 h2
    rcases f with _ | f
    · omega
    refine ⟨w, d, m, a, ?_, fun i hi => ⟨fun _ => ⟨rfl, rfl, rfl, rfl⟩, fun q => absurd hi (by omega)⟩⟩
    rw [fX9_tryOff_b2, nI_pred, if_pos (nle (by omega) (by omega)), nm_eq]
  | succ r ih =>
    intro j f w d m a h1 h2
    rcases f with _ | f
    · omega
    obtain ⟨w', d', m', a', q1, q2⟩ := ih (j + 1) f (upd w j (w (j + 1))) (upd d j (d (j + 1))) (vp_updL m j (m (j + 1))) (upd a j (a (j + 1))) (by omega) (by omega)
    refine ⟨w', d', m', a', ?_, fun i hi => ⟨fun q => ?_, fun q => ?_⟩⟩
    · rw [fX9_tryOff_b2, nI_pred, if_neg (nnle (by omega) (by omega)), nI_1, g_nI (show j + 1 < 6 by omega) (by omega), ck_true, nm_eq, g_nI (show j < 6 by omega) (by omega), ck_true, ck_true, nm_eq, ck_true, ck_true, nm_eq, ck_true, ck_true, nm_eq, ck_true, nm_eq, clN (by omega), clN (by omega)]
      exact q1
    · have := (q2 i hi).1 (by omega)
      rw [upd_n (by omega), updL_n (by omega), upd_n (by omega), upd_n (by omega)] at this
      exact this
    · by_cases e1 : i = j
      · subst e1
        have := (q2 i hi).1 (by omega)
        rw [upd_s, updL_s, upd_s, upd_s] at this
        exact this
      · have := (q2 i hi).2 (by omega)
        rw [upd_n (by omega), updL_n (by omega), upd_n (by omega), upd_n (by omega)] at this
        exact this
theorem tStop {s : Nat} (hs : s < 6) {p : Nat} (w d : Nat → Int32) (m : Nat → Int64) (a : Nat → Int32) : ∀ (j f : Nat), j ≤ s → j < f → (∀ i, j ≤ i → i < s → w i = nI p) →
    (∃ q, q < s ∧ w q ≠ nI p ∧ (∀ i, q < i → i < s → w i = nI p) ∧ ∃ (w' d' : Nat → Int32) (m' : Nat → Int64) (a' : Nat → Int32), fX9_stopOne_b7 f (nI s) w d m a (nI p) (nI j - 1) = some (nI (s - 1), w', d', m', a') ∧ ∀ i, i < s - 1 → (i < q → d' i = d i ∧ m' i = m i ∧ w' i = w i ∧ a' i = a i) ∧ (q ≤ i → d' i = d (i + 1) ∧ m' i = m (i + 1) ∧ w' i = w (i + 1) ∧ a' i = a (i + 1))) ∨
    ((∀ i, i < s → w i = nI p) ∧ fX9_stopOne_b7 f (nI s) w d m a (nI p) (nI j - 1) = some (nI s, w, d, m, a)) := by
  intro j
  induction j with
  | zero =>
    intro f h1 h2 ha
    rcases f with _ | f
    · omega
    right
    refine ⟨fun i hi => ha i (by omega) hi, ?_⟩
    rw [fX9_stopOne_b7, if_pos (by decide)]
    unfold fX9_stopOne_b27 fX9_stopOne_b36
    rw [if_pos (by decide)]
  | succ j ih =>
    intro f h1 h2 ha
    rcases f with _ | f
    · omega
    have hj : ¬ nI j < 0 := Int32.not_lt.mpr (nI_pos' (show j < 2 ^ 31 by omega))
    rw [nI_pred, fX9_stopOne_b7, if_neg hj, g_nI (show j < 6 by omega) (by omega), ck_true, clN (by omega), nm_eq, pl_m1]
    by_cases h : w j = nI p
    · rw [if_pos h]
      exact ih f (by omega) (by omega) fun i h1 h2 => by
        by_cases e : i = j
        · rw [e]
          exact h
        · exact ha i (by omega) h2
    · left
      obtain ⟨t, rfl⟩ : ∃ t, s = t + 1 := ⟨s - 1, by omega⟩
      obtain ⟨w', d', m', a', q1, q2⟩ := tOff_loop (z := t) (by omega) (t - j) j 70 w d m a (by omega) (by omega)
      refine ⟨j, by omega, h, fun i h1 h2 => ha i (by omega) h2, w', d', m', a', ?_, q2⟩
      rw [if_neg h]
      unfold fX9_stopOne_b27 fX9_stopOne_b36 fX9_tryOff
      rw [if_neg hj, q1, ob_some]
      rfl
