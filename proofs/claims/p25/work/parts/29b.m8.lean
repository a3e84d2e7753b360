/-! MATH 8: the reference's stack -/
def gM (d : Nat → Int32) (m : Nat → Int64) (w a : Nat → Int32) (i : Nat) : Pl := ((d i).toNatClampNeg, (m i).toInt, (w i).toNatClampNeg, (a i).toNatClampNeg)
def okM (s : Nat) (d : Nat → Int32) (m : Nat → Int64) (w a : Nat → Int32) : Prop := s ≤ 6 ∧ ∀ i, i < s → (∃ k, k < 6 ∧ d i = nI k) ∧ (1 ≤ (m i).toInt ∧ (m i).toInt ≤ 2147483647) ∧ (∃ p, p < 6 ∧ w i = nI p) ∧ ∃ p, p < 6 ∧ a i = nI p
def okV (li sh : Nat → Int64) : Prop := ∀ p, p < 6 → okI (li p).toInt ∧ 0 ≤ (sh p).toInt ∧ (sh p).toInt ≤ 2147483647
def lL (li : Nat → Int64) (p : Nat) : Int := (li p).toInt
theorem updL_s (f : Nat → Int64) (k : Nat) (x : Int64) : vp_updL f k x k = x := by simp [vp_updL]
theorem updL_n {f : Nat → Int64} {k j : Nat} {x : Int64} (h : j ≠ k) : vp_updL f k x j = f j := by simp [vp_updL, h]
theorem lL_upd (li : Nat → Int64) (p : Nat) (v : Int64) : lL (vp_updL li p v) = fU (lL li) p v.toInt := by
  funext q
  unfold lL vp_updL fU
  by_cases h : q = p
  · rw [if_pos h, if_pos h]
  · rw [if_neg h, if_neg h]
theorem tOff_loop {z : Nat} (hz : z < 6) : ∀ (r j f : Nat) (w d : Nat → Int32) (m : Nat → Int64) (a : Nat → Int32), j + r = z → r < f →
    ∃ (w' d' : Nat → Int32) (m' : Nat → Int64) (a' : Nat → Int32), fX9_tryOff_b2 f (nI (z + 1)) w d m a (nI j) = some (nI z, w', d', m', a') ∧ ∀ i, i < z → (i < j → d' i = d i ∧ m' i = m i ∧ w' i = w i ∧ a' i = a i) ∧ (j ≤ i → d' i = d (i + 1) ∧ m' i = m (i + 1) ∧ w' i = w (i + 1) ∧ a' i = a (i + 1)) := by
  intro r
  induction r with
  | zero =>
    intro j f w d m a h1 h2
    rcases f with _ | f
    · omega
    refine ⟨w, d, m, a, ?_, fun i hi => ⟨fun _ => ⟨rfl, rfl, rfl, rfl⟩, fun q => absurd hi (by omega)⟩⟩
    rw [fX9_tryOff_b2, nI_pred, if_pos (nle (by omega) (by omega)), nm_eq]
  | succ r ih =>
    intro j f w d m a h1 h2
    rcases f with _ | f
    · omega
    obtain ⟨w', d', m', a', q1, q2⟩ := ih (j + 1) f (upd w j (w (j + 1))) (upd d j (d (j + 1))) (vp_updL m j (m (j + 1))) (upd a j (a (j + 1))) (by omega) (by omega)
    refine ⟨w', d', m', a', ?_, fun i hi => ⟨fun q => ?_, fun q => ?_⟩⟩
    · rw [fX9_tryOff_b2, nI_pred, if_neg (nnle (by omega) (by omega)), nI_1, g_nI (show j + 1 < 6 by omega) (by omega), ck_true, nm_eq, g_nI (show j < 6 by omega) (by omega), ck_true, ck_true, nm_eq, ck_true, ck_true, nm_eq, ck_true, ck_true, nm_eq, ck_true, nm_eq, clN (by omega), clN (by omega)]
      exact q1
    · have := (q2 i hi).1 (by omega)
      rw [upd_n (by omega), updL_n (by omega), upd_n (by omega), upd_n (by omega)] at this
      exact this
    · by_cases e1 : i = j
      · subst e1
        have := (q2 i hi).1 (by omega)
        rw [upd_s, updL_s, upd_s, upd_s] at this
        exact this
      · have := (q2 i hi).2 (by omega)
        rw [upd_n (by omega), updL_n (by omega), upd_n (by omega), upd_n (by omega)] at this
        exact this
theorem tStop {s : Nat} (hs : s < 6) {p : Nat} (w d : Nat → Int32) (m : Nat → Int64) (a : Nat → Int32) : ∀ (j f : Nat), j ≤ s → j < f → (∀ i, j ≤ i → i < s → w i = nI p) →
    (∃ q, q < s ∧ w q ≠ nI p ∧ (∀ i, q < i → i < s → w i = nI p) ∧ ∃ (w' d' : Nat → Int32) (m' : Nat → Int64) (a' : Nat → Int32), fX9_stopOne_b7 f (nI s) w d m a (nI p) (nI j - 1) = some (nI (s - 1), w', d', m', a') ∧ ∀ i, i < s - 1 → (i < q → d' i = d i ∧ m' i = m i ∧ w' i = w i ∧ a' i = a i) ∧ (q ≤ i → d' i = d (i + 1) ∧ m' i = m (i + 1) ∧ w' i = w (i + 1) ∧ a' i = a (i + 1))) ∨
    ((∀ i, i < s → w i = nI p) ∧ fX9_stopOne_b7 f (nI s) w d m a (nI p) (nI j - 1) = some (nI s, w, d, m, a)) := by
  intro j
  induction j with
  | zero =>
    intro f h1 h2 ha
    rcases f with _ | f
    · omega
    right
    refine ⟨fun i hi => ha i (by omega) hi, ?_⟩
    rw [fX9_stopOne_b7, if_pos (by decide)]
    unfold fX9_stopOne_b27 fX9_stopOne_b36
    rw [if_pos (by decide)]
  | succ j ih =>
    intro f h1 h2 ha
    rcases f with _ | f
    · omega
    have hj : ¬ nI j < 0 := Int32.not_lt.mpr (nI_pos' (show j < 2 ^ 31 by omega))
    rw [nI_pred, fX9_stopOne_b7, if_neg hj, g_nI (show j < 6 by omega) (by omega), ck_true, clN (by omega), nm_eq, pl_m1]
    by_cases h : w j = nI p
    · rw [if_pos h]
      exact ih f (by omega) (by omega) fun i h1 h2 => by
        by_cases e : i = j
        · rw [e]
          exact h
        · exact ha i (by omega) h2
    · left
      obtain ⟨t, rfl⟩ : ∃ t, s = t + 1 := ⟨s - 1, by omega⟩
      obtain ⟨w', d', m', a', q1, q2⟩ := tOff_loop (z := t) (by omega) (t - j) j 70 w d m a (by omega) (by omega)
      refine ⟨j, by omega, h, fun i h1 h2 => ha i (by omega) h2, w', d', m', a', ?_, q2⟩
      rw [if_neg h]
      unfold fX9_stopOne_b27 fX9_stopOne_b36 fX9_tryOff
      rw [if_neg hj, q1, ob_some]
      rfl
theorem tTurn {s : Nat} (hs : s < 6) (w : Nat → Int32) (m : Nat → Int64) (a : Nat → Int32) (li sh : Nat → Int64) : ∀ (r j f : Nat) (d : Nat → Int32), j + r = s → r < f →
    ∃ d' : Nat → Int32, fX9_tryTop_b241 f (nI s) w d m a li sh (nI j) = some (1, nI s, w, d', m, a, li, sh) ∧ ∀ i, d' i = if j ≤ i ∧ i < s then flI (d i) else d i := by
  intro r
  induction r with
  | zero =>
    intro j f d h1 h2
    rcases f with _ | f
    · omega
    refine ⟨d, ?_, fun i => by rw [if_neg (by omega)]⟩
    rw [fX9_tryTop_b241, if_pos (nle (by omega) (by omega))]
  | succ r ih =>
    intro j f d h1 h2
    rcases f with _ | f
    · omega
    obtain ⟨d', q1, q2⟩ := ih (j + 1) f (upd d j (flI (d j))) (by omega) (by omega)
    refine ⟨d', ?_, fun i => ?_⟩
    · rw [← q1, fX9_tryTop_b241, if_neg (nnle (by omega) (by omega)), g_nI (show j < 6 by omega) (by omega), ck_true, clN (by omega), ck_true, ck_true]
      unfold fX9_tryTop_b292 flI
      rw [g_nI (show j < 6 by omega) (by omega), ck_true, ck_true, ck_true, nm_eq, nm_eq, nm_eq, nI_1, clN (by omega)]
      by_cases h0 : d j = 0
      · rw [if_pos h0, if_pos h0]
      · rw [if_neg h0, if_neg h0]
        by_cases h1 : d j = 1
        · rw [if_pos h1, if_pos h1]
        · rw [if_neg h1, if_neg h1]
    · rw [q2]
      by_cases z : i = j
      · subst z
        rw [if_neg (by omega), if_pos (by omega), upd_s]
      · rw [upd_n z]
        by_cases z2 : j ≤ i ∧ i < s
        · rw [if_pos z2, if_pos (by omega)]
        · rw [if_neg z2, if_neg (by omega)]
theorem gM_eq {s : Nat} {d : Nat → Int32} {m : Nat → Int64} {w a : Nat → Int32} (hs : okM (s + 1) d m w a) : ∃ k p o, k < 6 ∧ p < 6 ∧ o < 6 ∧ d s = nI k ∧ w s = nI p ∧ a s = nI o ∧ 1 ≤ (m s).toInt ∧ (m s).toInt ≤ 2147483647 ∧ gM d m w a s = (k, (m s).toInt, p, o) := by
  obtain ⟨⟨k, hk, ek⟩, hm, ⟨p, hp, ep⟩, o, ho, eo⟩ := hs.2 s (Nat.lt_succ_self s)
  refine ⟨k, p, o, hk, hp, ho, ek, ep, eo, hm.1, hm.2, ?_⟩
  unfold gM
  rw [ek, ep, eo, clN (by omega), clN (by omega), clN (by omega)]
theorem gM_congr {d : Nat → Int32} {m : Nat → Int64} {w a d' : Nat → Int32} {m' : Nat → Int64} {w' a' : Nat → Int32} {i j : Nat} (h : d' i = d j ∧ m' i = m j ∧ w' i = w j ∧ a' i = a j) : gM d' m' w' a' i = gM d m w a j := by
  unfold gM
  rw [h.1, h.2.1, h.2.2.1, h.2.2.2]
theorem okV_upd {li sh : Nat → Int64} (h : okV li sh) {p : Nat} {x y : Int64} (hx : okI x.toInt) (hy : 0 ≤ y.toInt ∧ y.toInt ≤ 2147483647) : okV (vp_updL li p x) (vp_updL sh p y) := by
  intro q hq
  by_cases e : q = p
  · rw [e, updL_s, updL_s]
    exact ⟨hx, hy⟩
  · rw [updL_n e, updL_n e]
    exact h q hq
theorem okV_l {li sh : Nat → Int64} (h : okV li sh) {p : Nat} {x : Int64} (hx : okI x.toInt) : okV (vp_updL li p x) sh := by
  intro q hq
  by_cases e : q = p
  · rw [e, updL_s]
    exact ⟨hx, (h p (by omega)).2⟩
  · rw [updL_n e]
    exact h q hq
theorem okV_s {li sh : Nat → Int64} (h : okV li sh) {p : Nat} {y : Int64} (hy : 0 ≤ y.toInt ∧ y.toInt ≤ 2147483647) : okV li (vp_updL sh p y) := by
  intro q hq
  by_cases e : q = p
  · rw [e, updL_s]
    exact ⟨(h p (by omega)).1, hy⟩
  · rw [updL_n e]
    exact h q hq
/-- the reference's try of the top -/
theorem t_tryTop {s : Nat} {d : Nat → Int32} {m : Nat → Int64} {w a : Nat → Int32} {li sh : Nat → Int64} (hs : okM (s + 1) d m w a) (hh : okV li sh) :
    (aDo (gM d m w a s) (stk (gM d m w a) s) (lL li) (lL sh) = none ∧ ∃ (h' : Int32) (w' d' : Nat → Int32) (m' : Nat → Int64) (a' : Nat → Int32) (li' sh' : Nat → Int64), fX9_tryTop (nI (s + 1)) w d m a li sh = some (0, h', w', d', m', a', li', sh')) ∨
    ∃ (s' : Nat) (w' d' : Nat → Int32) (m' : Nat → Int64) (a' : Nat → Int32) (li' sh' : Nat → Int64), s' ≤ s ∧ okM s' d' m' w' a' ∧ okV li' sh' ∧ aDo (gM d m w a s) (stk (gM d m w a) s) (lL li) (lL sh) = some (stk (gM d' m' w' a') s', lL li', lL sh') ∧ fX9_tryTop (nI (s + 1)) w d m a li sh = some (1, nI s', w', d', m', a', li', sh') := by
  have hs6 := hs.1
  have hdown : ∀ t, t ≤ s → okM t d m w a := fun t ht => ⟨by omega, fun i hi => hs.2 i (by omega)⟩
  obtain ⟨k, p, o, hk, hp, ho, ek, ep, eo, hm, hm', eg⟩ := gM_eq hs
  have hv := hh o ho
  have hvl : -2147483648 ≤ (li o).toInt ∧ (li o).toInt ≤ 2147483647 := hv.1
  have elp : lL li o = (li o).toInt := rfl
  have esp : lL sh o = (sh o).toInt := rfl
  unfold fX9_tryTop
  rw [nm_eq, nI_pred, g_nI (show s < 6 by omega) (by omega), ck_true, clN (by omega), nm_eq, ck_true, nm_eq, ck_true, ek, eo, g_nI ho (by omega), ck_true, clN (by omega), eg]
  unfold aDo
  dsimp only
  rcases (show k = 0 ∨ k = 1 ∨ k = 2 ∨ k = 3 ∨ k = 4 ∨ k = 5 by omega) with rfl | rfl | rfl | rfl | rfl | rfl
  · rw [if_pos rfl, if_pos (show nI 0 = 0 from rfl), elp, esp]
    have hc : ∀ v : Int64, v.toInt = min (sh o).toInt (m s).toInt → fX9_tryTop_b93 (nI s) w d m a li sh (nI o) (m s) v = some (if okI ((li o).toInt - ((m s).toInt - v.toInt)) then 1 else 0, nI s, w, d, m, a, vp_updL li o (li o - (m s - v)), vp_updL sh o (sh o - v)) := by
      intro v hv0
      have e1 : (m s - v).toInt = (m s).toInt - v.toInt := fb_subL (by omega) (by omega)
      have e2 : (li o - (m s - v)).toInt = (li o).toInt - ((m s).toInt - v.toInt) := by
        rw [fb_subL (by omega) (by omega), e1]
      unfold fX9_tryTop_b93
      rw [g_nI ho (by omega), ck_true, nm_eq, ck_true, ck_true, nm_eq, ck_true, ck_true, clN (by omega), updL_s, isInt_eq, ob_some, e2]
    have hX : ∃ v : Int64, v.toInt = min (sh o).toInt (m s).toInt ∧ (if 0 ≤ lg_cmp (sh o) (m s) then fX9_tryTop_b93 (nI s) w d m a li sh (nI o) (m s) (m s) else fX9_tryTop_b93 (nI s) w d m a li sh (nI o) (m s) (sh o)) = fX9_tryTop_b93 (nI s) w d m a li sh (nI o) (m s) v := by
      by_cases c : 0 ≤ lg_cmp (sh o) (m s)
      · have := (cmp_ge _ _).mp c
        exact ⟨m s, by omega, by rw [if_pos c]⟩
      · have : ¬ (m s).toInt ≤ (sh o).toInt := fun z => c ((cmp_ge _ _).mpr z)
        exact ⟨sh o, by omega, by rw [if_neg c]⟩
    obtain ⟨v, hv1, hv2⟩ := hX
    have e1 : (m s - v).toInt = (m s).toInt - v.toInt := fb_subL (by omega) (by omega)
    have e2 : (li o - (m s - v)).toInt = (li o).toInt - ((m s).toInt - v.toInt) := by
      rw [fb_subL (by omega) (by omega), e1]
    have e3 : (sh o - v).toInt = (sh o).toInt - v.toInt := fb_subL (by omega) (by omega)
    rw [ck_true, hv2, hc v hv1, ← hv1]
    by_cases c : okI ((li o).toInt - ((m s).toInt - v.toInt))
    · right
      rw [if_pos c, if_pos c]
      refine ⟨s, w, d, m, a, _, _, Nat.le_refl _, hdown s (Nat.le_refl _), okV_upd hh (p := o) (x := li o - (m s - v)) (y := sh o - v) (by rw [e2]; exact c) (by rw [e3]; omega), ?_, rfl⟩
      rw [lL_upd, lL_upd, e2, e3]
    · left
      rw [if_neg c, if_neg c]
      exact ⟨rfl, _, _, _, _, _, _, _, rfl⟩
  · rw [if_neg (show ¬ (1 : Nat) = 0 by decide), if_pos rfl, if_neg (show ¬ nI 1 = 0 by decide), if_pos (show nI 1 = 1 from rfl), elp]
    have e2 : (li o + m s).toInt = (li o).toInt + (m s).toInt := fb_addL (by omega) (by omega)
    rw [nm_eq, ck_true, ck_true, updL_s, isInt_eq, ob_some, e2]
    by_cases c : okI ((li o).toInt + (m s).toInt)
    · right
      rw [if_pos c, if_pos c]
      refine ⟨s, w, d, m, a, _, _, Nat.le_refl _, hdown s (Nat.le_refl _), okV_l hh (p := o) (x := li o + m s) (by rw [e2]; exact c), ?_, rfl⟩
      rw [lL_upd, e2]
    · left
      rw [if_neg c, if_neg c]
      exact ⟨rfl, _, _, _, _, _, _, _, rfl⟩
  · rw [if_neg (show ¬ (2 : Nat) = 0 by decide), if_neg (show ¬ (2 : Nat) = 1 by decide), if_pos rfl, if_neg (show ¬ nI 2 = 0 by decide), if_neg (show ¬ nI 2 = 1 by decide), if_pos (show nI 2 = 2 from rfl), esp]
    have e2 : (sh o + m s).toInt = (sh o).toInt + (m s).toInt := fb_addL (by omega) (by omega)
    rw [nm_eq, ck_true, ck_true, updL_s, isInt_eq, ob_some, e2]
    by_cases c : okI ((sh o).toInt + (m s).toInt)
    · right
      rw [if_pos c, if_pos c]
      have c2 := c.2
      refine ⟨s, w, d, m, a, _, _, Nat.le_refl _, hdown s (Nat.le_refl _), okV_s hh (p := o) (y := sh o + m s) (by rw [e2]; exact ⟨by omega, by omega⟩), ?_, rfl⟩
      rw [lL_upd, e2]
    · left
      rw [if_neg c, if_neg c]
      exact ⟨rfl, _, _, _, _, _, _, _, rfl⟩
  · rw [if_neg (show ¬ (3 : Nat) = 0 by decide), if_neg (show ¬ (3 : Nat) = 1 by decide), if_neg (show ¬ (3 : Nat) = 2 by decide), if_pos rfl, if_neg (show ¬ nI 3 = 0 by decide), if_neg (show ¬ nI 3 = 1 by decide), if_neg (show ¬ nI 3 = 2 by decide), if_pos (show nI 3 = 3 from rfl)]
    right
    have hcl : ∀ i, i < s → ((gM d m w a i).2.2.1 = p ↔ w i = nI p) := by
      intro i hi
      obtain ⟨-, -, ⟨pi, hpi, epi⟩, -⟩ := hs.2 i (by omega)
      show (w i).toNatClampNeg = p ↔ _
      rw [epi, clN (by omega)]
      exact ⟨fun q => by rw [q], fun q => (nI_eq (by omega) (by omega)).mp q⟩
    rw [ep]
    unfold fX9_stopOne
    rw [nm_eq]
    rcases tStop (show s < 6 by omega) (p := p) w d m a s 70 (Nat.le_refl _) (by omega) (fun i h1 h2 => absurd h1 (by omega)) with ⟨q, hq, hne, hall, w', d', m', a', t1, t2⟩ | ⟨hall, t1⟩
    · have hg : ∀ i, i < s - 1 → gM d' m' w' a' i = if i < q then gM d m w a i else gM d m w a (i + 1) := by
        intro i hi
        by_cases c : i < q
        · rw [if_pos c]
          exact gM_congr ((t2 i (by omega)).1 (by omega))
        · rw [if_neg c]
          exact gM_congr ((t2 i (by omega)).2 (by omega))
      refine ⟨s - 1, w', d', m', a', li, sh, by omega, ⟨by omega, fun i hi => ?_⟩, hh, ?_, ?_⟩
      · by_cases c : i < q
        · obtain ⟨z1, z2, z3, z4⟩ := (t2 i (by omega)).1 (by omega)
          rw [z1, z2, z3, z4]
          exact hs.2 i (by omega)
        · obtain ⟨z1, z2, z3, z4⟩ := (t2 i (by omega)).2 (by omega)
          rw [z1, z2, z3, z4]
          exact hs.2 (i + 1) (by omega)
      · rw [stk_off (j := q) (fun z => hne ((hcl q hq).mp z)) hq (fun i h1 h2 => (hcl i h2).mpr (hall i h1 h2)), stk_congr (s := s - 1) fun i hi => (hg i hi).symm]
      · rw [t1, ob_some]
        rfl
    · refine ⟨s, w, d, m, a, li, sh, Nat.le_refl _, hdown s (Nat.le_refl _), hh, ?_, ?_⟩
      · rw [stk_off0 fun i hi => (hcl i hi).mpr (hall i hi)]
      · rw [t1, ob_some]
        rfl
  · rw [if_neg (show ¬ (4 : Nat) = 0 by decide), if_neg (show ¬ (4 : Nat) = 1 by decide), if_neg (show ¬ (4 : Nat) = 2 by decide), if_neg (show ¬ (4 : Nat) = 3 by decide), if_pos rfl, if_neg (show ¬ nI 4 = 0 by decide), if_neg (show ¬ nI 4 = 1 by decide), if_neg (show ¬ nI 4 = 2 by decide), if_neg (show ¬ nI 4 = 3 by decide), if_pos (show nI 4 = 4 from rfl)]
    unfold fX9_tryTop_b208 fX9_tryTop_b232 fX9_tryTop_b237
    rcases s with _ | t
    · right
      refine ⟨0, w, d, m, a, li, sh, Nat.le_refl _, hdown 0 (Nat.le_refl _), hh, rfl, ?_⟩
      rw [if_pos (show nI 0 ≤ 0 by decide), if_pos (show nI 0 = 0 from rfl)]
    · have h0 : ¬ nI (t + 1) = 0 := neqI (b := 0) (by omega) (by omega) (by omega)
      have h0' : ¬ nI (t + 1) ≤ 0 := nnle (b := 0) (by omega) (by omega)
      rw [if_neg h0', nI_pred, g_nI (show t < 6 by omega) (by omega), ck_true, clN (by omega), nm_eq, ck_true, if_neg h0, ck_true, updL_s, isInt_eq, ob_some, stk]
      dsimp only
      have hm2 : (gM d m w a t).2.1 = (m t).toInt := rfl
      rw [hm2]
      have hm1 := (hs.2 t (by omega)).2.1
      have hv : (m t * 2).toInt = 2 * (m t).toInt := by
        rw [fb_mulL (by rw [show (2 : Int64).toInt = 2 by decide]; omega) (by rw [show (2 : Int64).toInt = 2 by decide]; omega), show (2 : Int64).toInt = 2 by decide]
        omega
      rw [hv]
      by_cases c : okI (2 * (m t).toInt)
      · right
        have c2 := c.2
        rw [if_pos c, if_pos c, if_neg one0]
        refine ⟨t + 1, w, d, vp_updL m t (m t * 2), a, li, sh, Nat.le_refl _, ⟨by omega, fun i hi => ?_⟩, hh, ?_, rfl⟩
        · obtain ⟨z1, z2, z3⟩ := hs.2 i (by omega)
          refine ⟨z1, ?_, z3⟩
          by_cases z : i = t
          · rw [z, updL_s, hv]
            omega
          · rw [updL_n z]
            exact z2
        · rw [stk]
          have e1 : dbl (gM d m w a t) = gM d (vp_updL m t (m t * 2)) w a t := by
            unfold dbl gM
            rw [updL_s, hv]
          have e2 : stk (gM d m w a) t = stk (gM d (vp_updL m t (m t * 2)) w a) t := stk_congr fun i hi => by
            unfold gM
            rw [updL_n (by omega)]
          rw [e1, e2]
      · left
        rw [if_neg c, if_neg c, if_pos rfl]
        exact ⟨rfl, _, _, _, _, _, _, _, rfl⟩
  · rw [if_neg (show ¬ (5 : Nat) = 0 by decide), if_neg (show ¬ (5 : Nat) = 1 by decide), if_neg (show ¬ (5 : Nat) = 2 by decide), if_neg (show ¬ (5 : Nat) = 3 by decide), if_neg (show ¬ (5 : Nat) = 4 by decide), if_neg (show ¬ nI 5 = 0 by decide), if_neg (show ¬ nI 5 = 1 by decide), if_neg (show ¬ nI 5 = 2 by decide), if_neg (show ¬ nI 5 = 3 by decide), if_neg (show ¬ nI 5 = 4 by decide)]
    right
    obtain ⟨d', t1, t2⟩ := tTurn (show s < 6 by omega) w m a li sh s 0 70 d (by omega) (by omega)
    refine ⟨s, w, d', m, a, li, sh, Nat.le_refl _, ⟨by omega, fun i hi => ?_⟩, hh, ?_, t1⟩
    · obtain ⟨⟨c, hc, ec⟩, z3⟩ := hs.2 i (by omega)
      refine ⟨?_, z3⟩
      rw [t2, if_pos ⟨by omega, hi⟩, ec]
      unfold flI
      by_cases c0 : nI c = 0
      · rw [if_pos c0]
        exact ⟨1, by omega, rfl⟩
      · rw [if_neg c0]
        by_cases c1 : nI c = 1
        · rw [if_pos c1]
          exact ⟨0, by omega, rfl⟩
        · rw [if_neg c1]
          exact ⟨c, hc, rfl⟩
    · rw [stk_map, stk_congr (s := s) (g' := gM d' m w a) fun i hi => ?_]
      obtain ⟨⟨c, hc, ec⟩, z3⟩ := hs.2 i (by omega)
      unfold gM flip1
      dsimp only
      rw [t2, if_pos (show 0 ≤ i ∧ i < s from ⟨by omega, hi⟩), ec, clN (by omega)]
      unfold flI
      by_cases c0 : c = 0
      · subst c0
        rfl
      · rw [if_neg (show ¬ nI c = 0 from neqI (b := 0) (by omega) (by omega) c0), if_neg c0]
        by_cases c1 : c = 1
        · subst c1
          rfl
        · rw [if_neg (show ¬ nI c = 1 from neqI (b := 1) (by omega) (by omega) c1), if_neg c1, clN (by omega)]
