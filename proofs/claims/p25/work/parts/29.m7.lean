/-! MATH 7: the stack -/
def stk (g : Nat → Pl) : Nat → List Pl
  | 0 => []
  | s + 1 => g s :: stk g s
theorem stk_len (g : Nat → Pl) : ∀ s, (stk g s).length = s
  | 0 => rfl
  | s + 1 => by rw [stk, List.length_cons, stk_len g s]
theorem stk_congr {g g' : Nat → Pl} : ∀ {s : Nat}, (∀ i, i < s → g i = g' i) → stk g s = stk g' s
  | 0, _ => rfl
  | s + 1, h => by rw [stk, stk, h s (Nat.lt_succ_self s), stk_congr (s := s) fun i hi => h i (by omega)]
theorem stk_map (f : Pl → Pl) (g : Nat → Pl) : ∀ s, (stk g s).map f = stk (fun i => f (g i)) s
  | 0 => rfl
  | s + 1 => by rw [stk, stk, List.map_cons, stk_map f g s]
theorem stk_off {g : Nat → Pl} {w j : Nat} (hj : (g j).2.2.1 ≠ w) : ∀ {s : Nat}, j < s → (∀ i, j < i → i < s → (g i).2.2.1 = w) → offOther w (stk g s) = stk (fun i => if i < j then g i else g (i + 1)) (s - 1)
  | 0, h, _ => absurd h (Nat.not_lt_zero _)
  | s + 1, h, ha => by
    rw [stk, offOther]
    by_cases e : j = s
    · subst e
      rw [if_pos hj, Nat.add_sub_cancel]
      exact stk_congr fun i hi => by rw [if_pos hi]
    · rw [if_neg (fun q => q (ha s (by omega) (Nat.lt_succ_self s))), stk_off hj (s := s) (by omega) fun i h1 h2 => ha i h1 (by omega), Nat.add_sub_cancel]
      obtain ⟨t, rfl⟩ : ∃ t, s = t + 1 := ⟨s - 1, by omega⟩
      rw [Nat.add_sub_cancel, stk, if_neg (by omega)]
theorem stk_off0 {g : Nat → Pl} {w : Nat} : ∀ {s : Nat}, (∀ i, i < s → (g i).2.2.1 = w) → offOther w (stk g s) = stk g s
  | 0, _ => rfl
  | s + 1, h => by
    rw [stk, offOther, if_neg (fun q => q (h s (Nat.lt_succ_self s))), stk_off0 (s := s) fun i hi => h i (by omega)]
/-- a play as the class holds it -/
def gC (e m w a : Nat → Int32) (i : Nat) : Pl := ((e i).toNatClampNeg, (m i).toInt, (w i).toNatClampNeg, (a i).toNatClampNeg)
def okS (s : Nat) (e m w a : Nat → Int32) : Prop := s ≤ 6 ∧ ∀ i, i < s → (∃ k, k < 6 ∧ e i = nI k) ∧ 1 ≤ (m i).toInt ∧ (∃ p, p < 6 ∧ w i = nI p) ∧ ∃ p, p < 6 ∧ a i = nI p
def okH (sh : Nat → Int32) : Prop := ∀ p, p < 6 → 0 ≤ (sh p).toInt
def lF (li : Nat → Int32) (p : Nat) : Int := (li p).toInt
theorem lF_upd (li : Nat → Int32) (p : Nat) (v : Int32) : lF (upd li p v) = fU (lF li) p v.toInt := by
  funext q
  unfold lF upd fU
  by_cases h : q = p
  · rw [if_pos h, if_pos h]
  · rw [if_neg h, if_neg h]
theorem cmp_cases (a b : Int64) : (lg_cmp a b = 1 ∧ b.toInt < a.toInt) ∨ (lg_cmp a b = 0 ∧ a.toInt = b.toInt) ∨ (lg_cmp a b = -1 ∧ a.toInt < b.toInt) := by
  unfold lg_cmp
  by_cases h : a > b
  · rw [if_pos h]
    exact Or.inl ⟨rfl, Int64.lt_iff_toInt_lt.mp h⟩
  · rw [if_neg h]
    by_cases h2 : a = b
    · rw [if_pos h2]
      exact Or.inr (Or.inl ⟨rfl, by rw [h2]⟩)
    · rw [if_neg h2]
      refine Or.inr (Or.inr ⟨rfl, ?_⟩)
      have h3 : ¬ b.toInt < a.toInt := fun q => h (Int64.lt_iff_toInt_lt.mpr q)
      have h4 : a.toInt ≠ b.toInt := fun q => h2 (Int64.toInt_inj.mp q)
      omega
theorem cmp_lt (a b : Int64) : lg_cmp a b < 0 ↔ a.toInt < b.toInt := by
  rcases cmp_cases a b with ⟨h, q⟩ | ⟨h, q⟩ | ⟨h, q⟩ <;> rw [h]
  · exact ⟨fun z => absurd z (by decide), fun z => by omega⟩
  · exact ⟨fun z => absurd z (by decide), fun z => by omega⟩
  · exact ⟨fun z => q, fun z => by decide⟩
theorem cmp_gt (a b : Int64) : 0 < lg_cmp a b ↔ b.toInt < a.toInt := by
  rcases cmp_cases a b with ⟨h, q⟩ | ⟨h, q⟩ | ⟨h, q⟩ <;> rw [h]
  · exact ⟨fun z => q, fun z => by decide⟩
  · exact ⟨fun z => absurd z (by decide), fun z => by omega⟩
  · exact ⟨fun z => absurd z (by decide), fun z => by omega⟩
theorem cmp_le (a b : Int64) : lg_cmp a b ≤ 0 ↔ a.toInt ≤ b.toInt := by
  rcases cmp_cases a b with ⟨h, q⟩ | ⟨h, q⟩ | ⟨h, q⟩ <;> rw [h]
  · exact ⟨fun z => absurd z (by decide), fun z => by omega⟩
  · exact ⟨fun z => by omega, fun z => by decide⟩
  · exact ⟨fun z => by omega, fun z => by decide⟩
theorem cmp_ge (a b : Int64) : 0 ≤ lg_cmp a b ↔ b.toInt ≤ a.toInt := by
  rcases cmp_cases a b with ⟨h, q⟩ | ⟨h, q⟩ | ⟨h, q⟩ <;> rw [h]
  · exact ⟨fun z => by omega, fun z => by decide⟩
  · exact ⟨fun z => by omega, fun z => by decide⟩
  · exact ⟨fun z => absurd z (by decide), fun z => by omega⟩
theorem l64 (x : Int32) : x.toInt64.toInt = x.toInt := Int32.toInt_toInt64 x
theorem l32 {x : Int64} (h : okI x.toInt) : x.toInt32.toInt = x.toInt := by
  rw [Int64.toInt_toInt32]
  exact fb_bmod h.1 (by have := h.2; omega)
theorem cmp_hi (x : Int64) : 0 < lg_cmp x 2147483647 ↔ 2147483647 < x.toInt := by
  rw [cmp_gt, show (2147483647 : Int64).toInt = 2147483647 by decide]
theorem cmp_hi2 (x : Int64) : lg_cmp x 2147483647 ≤ 0 ↔ x.toInt ≤ 2147483647 := by
  rw [cmp_le, show (2147483647 : Int64).toInt = 2147483647 by decide]
theorem cmp_lo (x : Int64) : lg_cmp x (-2147483648) < 0 ↔ x.toInt < -2147483648 := by
  rw [cmp_lt, show (-2147483648 : Int64).toInt = -2147483648 by decide]
theorem isInt_eq (x : Int64) : fX9_isInt x = some (if okI x.toInt then 1 else 0) := by
  unfold fX9_isInt fX9_isInt_b20 fX9_isInt_b21
  by_cases h1 : x.toInt < -2147483648
  · rw [if_pos ((cmp_lo _).mpr h1), if_neg (fun q : okI x.toInt => absurd q.1 (by omega))]
  · rw [if_neg (fun q => h1 ((cmp_lo _).mp q))]
    by_cases h2 : 2147483647 < x.toInt
    · rw [if_pos ((cmp_hi _).mpr h2), if_neg (fun q : okI x.toInt => absurd q.2 (by omega))]
    · rw [if_neg (fun q => h2 ((cmp_hi _).mp q)), if_pos (show okI x.toInt from ⟨by omega, by omega⟩)]
/-- the class's touch -/
theorem c_touch {s : Nat} {e m w a : Nat → Int32} {li sh : Nat → Int32} (hs : okS (s + 1) e m w a) (hh : okH sh) (h3 : (gC e m w a s).1 < 3) (r : List Pl) :
    (aDo (gC e m w a s) r (lF li) (lF sh) = none ∧ fX6_touch li sh e m a (nI s) = some (0, li, sh)) ∨
    ∃ li' sh', okH sh' ∧ aDo (gC e m w a s) r (lF li) (lF sh) = some (r, lF li', lF sh') ∧ fX6_touch li sh e m a (nI s) = some (1, li', sh') := by
  obtain ⟨hs6, hs⟩ := hs
  obtain ⟨⟨k, hk, ek⟩, hm, -, p, hp, ep⟩ := hs s (Nat.lt_succ_self s)
  have e1 : gC e m w a s = (k, (m s).toInt, (w s).toNatClampNeg, p) := by
    unfold gC
    rw [ek, ep, clN (by omega), clN (by omega)]
  rw [e1] at h3 ⊢
  have hb := hh p hp
  have rm := fb_rng (m s)
  have rl := fb_rng (li p)
  have rs := fb_rng (sh p)
  have hc : ∀ l4 l6 : Int64, fX6_touch_b101 e m a li sh (nI p) l4 l6 = some (if okI l4.toInt ∧ l6.toInt ≤ 2147483647 then (1, upd li p l4.toInt32, upd sh p l6.toInt32) else (0, li, sh)) := by
    intro l4 l6
    unfold fX6_touch_b101 fX6_touch_b128
    by_cases q1 : l4.toInt < -2147483648
    · rw [if_pos ((cmp_lo _).mpr q1), if_neg (fun q : okI l4.toInt ∧ l6.toInt ≤ 2147483647 => absurd q.1.1 (by omega))]
    · rw [if_neg (fun q => q1 ((cmp_lo _).mp q))]
      by_cases q2 : 2147483647 < l4.toInt
      · rw [if_pos ((cmp_hi _).mpr q2), if_neg (fun q : okI l4.toInt ∧ l6.toInt ≤ 2147483647 => absurd q.1.2 (by omega))]
      · rw [if_neg (fun q => q2 ((cmp_hi _).mp q))]
        by_cases h6 : l6.toInt ≤ 2147483647
        · rw [if_pos (show okI l4.toInt ∧ l6.toInt ≤ 2147483647 from ⟨⟨by omega, by omega⟩, h6⟩), if_pos ((cmp_hi2 _).mpr h6), nm_eq, g_nI hp (by omega), ck_true, nm_eq, ck_true, clN (by omega)]
        · rw [if_neg (fun q : okI l4.toInt ∧ l6.toInt ≤ 2147483647 => h6 q.2), if_neg (fun q => h6 ((cmp_hi2 _).mp q))]
  have hH : ∀ v : Int32, 0 ≤ v.toInt → okH (upd sh p v) := by
    intro v hv q hq
    unfold upd
    by_cases h : q = p
    · rw [if_pos h]
      exact hv
    · rw [if_neg h]
      exact hh q hq
  unfold fX6_touch
  rw [g_nI (show s < 6 by omega) (by omega), ck_true, nm_eq, ck_true, nm_eq, clN (by omega), ep, g_nI hp (by omega), ck_true, nm_eq, ck_true, nm_eq, ck_true, ck_true, ek, clN (by omega)]
  have elp : lF li p = (li p).toInt := rfl
  have esp : lF sh p = (sh p).toInt := rfl
  unfold aDo
  dsimp only at h3 ⊢
  rw [elp, esp]
  rcases (show k = 0 ∨ k = 1 ∨ k = 2 by omega) with rfl | rfl | rfl
  · rw [if_pos (show nI 0 = 0 from rfl), if_pos rfl, nm_eq, nm_eq, nm_eq]
    generalize hv : (if m s < sh p then m s else sh p) = v
    have hv' : v.toInt = min (sh p).toInt (m s).toInt := by
      rw [← hv]
      by_cases q : m s < sh p
      · rw [if_pos q]
        have := i32lt.mp q
        omega
      · rw [if_neg q]
        have : ¬ (m s).toInt < (sh p).toInt := fun z => q (i32lt.mpr z)
        omega
    rw [← hv']
    have e17 : ((sh p).toInt64 - v.toInt64).toInt = (sh p).toInt - v.toInt := by
      rw [fb_subL (by rw [l64, l64]; omega) (by rw [l64, l64]; omega), l64, l64]
    have emv : (m s - v).toInt = (m s).toInt - v.toInt := fb_subI (by omega) (by omega)
    have e18 : ((li p).toInt64 - (m s - v).toInt64).toInt = (li p).toInt - ((m s).toInt - v.toInt) := by
      rw [fb_subL (by rw [l64, l64, emv]; omega) (by rw [l64, l64, emv]; omega), l64, l64, emv]
    rw [hc, e17, e18]
    by_cases q : okI ((li p).toInt - ((m s).toInt - v.toInt))
    · right
      rw [if_pos q, if_pos ⟨q, by omega⟩]
      have o17 : okI ((sh p).toInt - v.toInt) := ⟨by omega, by omega⟩
      refine ⟨_, _, hH _ ?_, ?_, rfl⟩
      · rw [l32 (by rw [e17]; exact o17), e17]
        omega
      · have a17 := l32 (x := (sh p).toInt64 - v.toInt64) (by rw [e17]; exact o17)
        have a18 := l32 (x := (li p).toInt64 - (m s - v).toInt64) (by rw [e18]; exact q)
        rw [lF_upd, lF_upd, a17, a18, e17, e18]
    · left
      rw [if_neg q, if_neg (fun z => q z.1)]
      exact ⟨rfl, rfl⟩
  · rw [if_neg (show ¬ nI 1 = 0 by decide), if_neg (show ¬ (1 : Nat) = 0 by decide), ck_true, if_pos (show nI 1 = 1 from rfl), if_pos rfl, nm_eq]
    have e18 : ((li p).toInt64 + (m s).toInt64).toInt = (li p).toInt + (m s).toInt := by
      rw [fb_addL (by rw [l64, l64]; omega) (by rw [l64, l64]; omega), l64, l64]
    rw [hc, e18, l64]
    by_cases q : okI ((li p).toInt + (m s).toInt)
    · right
      rw [if_pos q, if_pos ⟨q, by omega⟩]
      have e17 : (sh p).toInt64.toInt32.toInt = (sh p).toInt := by
        rw [l32 (by rw [l64]; exact ⟨by omega, by omega⟩), l64]
      refine ⟨_, _, hH _ ?_, ?_, rfl⟩
      · rw [e17]
        exact hb
      · rw [lF_upd, lF_upd, l32 (by rw [e18]; exact q), e18, e17]
        have : fU (lF sh) p (sh p).toInt = lF sh := by
          funext q
          unfold fU
          by_cases h : q = p
          · rw [if_pos h, h]
            rfl
          · rw [if_neg h]
        rw [this]
    · left
      rw [if_neg q, if_neg (fun z => q z.1)]
      exact ⟨rfl, rfl⟩
  · rw [if_neg (show ¬ nI 2 = 0 by decide), if_neg (show ¬ (2 : Nat) = 0 by decide), ck_true, if_neg (show ¬ nI 2 = 1 by decide), if_neg (show ¬ (2 : Nat) = 1 by decide), if_pos rfl, nm_eq]
    have e18 : ((sh p).toInt64 + (m s).toInt64).toInt = (sh p).toInt + (m s).toInt := by
      rw [fb_addL (by rw [l64, l64]; omega) (by rw [l64, l64]; omega), l64, l64]
    rw [hc, e18, l64]
    by_cases q : okI ((sh p).toInt + (m s).toInt)
    · right
      rw [if_pos q, if_pos ⟨⟨by omega, by omega⟩, q.2⟩]
      have e17 : (li p).toInt64.toInt32.toInt = (li p).toInt := by
        rw [l32 (by rw [l64]; exact ⟨by omega, by omega⟩), l64]
      refine ⟨_, _, hH _ ?_, ?_, rfl⟩
      · rw [l32 (by rw [e18]; exact q), e18]
        omega
      · have a18 := l32 (x := (sh p).toInt64 + (m s).toInt64) (by rw [e18]; exact q)
        rw [lF_upd, lF_upd, a18, e18, e17]
        have : fU (lF li) p (li p).toInt = lF li := by
          funext q
          unfold fU
          by_cases h : q = p
          · rw [if_pos h, h]
            rfl
          · rw [if_neg h]
        rw [this]
    · left
      rw [if_neg q, if_neg (fun z => q ⟨by omega, z.2⟩)]
      exact ⟨rfl, rfl⟩
theorem pl_m1 (x : Int32) : x + (-1) = x - 1 := by rw [Int32.sub_eq_add_neg]
theorem near_loop {w : Nat → Int32} {s : Nat} (hs : s < 6) : ∀ (j f : Nat), j ≤ s → j < f → (∀ i, j ≤ i → i < s → w i = w s) →
    (∃ q, q < s ∧ w q ≠ w s ∧ (∀ i, q < i → i < s → w i = w s) ∧ fX6_nearestByOther_b4 w f (nI s) (nI j - 1) = some (nI q)) ∨
    ((∀ i, i < s → w i = w s) ∧ fX6_nearestByOther_b4 w f (nI s) (nI j - 1) = some (-1)) := by
  intro j
  induction j with
  | zero =>
    intro f h1 h2 ha
    rcases f with _ | f
    · omega
    right
    refine ⟨fun i hi => ha i (by omega) hi, ?_⟩
    rw [fX6_nearestByOther_b4, if_pos (by decide)]
  | succ j ih =>
    intro f h1 h2 ha
    rcases f with _ | f
    · omega
    rw [nI_pred, fX6_nearestByOther_b4, if_neg (Int32.not_lt.mpr (nI_pos' (show j < 2 ^ 31 by omega))), g_nI (show j < 6 by omega) (by omega), ck_true, g_nI hs (by omega), ck_true, clN (by omega), clN (by omega), nm_eq, pl_m1]
    by_cases h : w j = w s
    · rw [if_pos h]
      exact ih f (by omega) (by omega) fun i h1 h2 => by
        by_cases e : i = j
        · rw [e]
          exact h
        · exact ha i (by omega) h2
    · left
      rw [if_neg h]
      exact ⟨j, by omega, h, fun i h1 h2 => ha i (by omega) h2, rfl⟩
theorem take_loop {z : Nat} (hz : z < 7) : ∀ (r j f : Nat) (e m w a : Nat → Int32), 1 ≤ j → j + r = z → r < f →
    ∃ e' m' w' a' : Nat → Int32, fX6_takeOff_b9 f (nI z) e m w a (nI j) = some (nI z - 1, e', m', w', a') ∧ ∀ i, i + 1 < z → (i + 1 < j → e' i = e i ∧ m' i = m i ∧ w' i = w i ∧ a' i = a i) ∧ (j ≤ i + 1 → e' i = e (i + 1) ∧ m' i = m (i + 1) ∧ w' i = w (i + 1) ∧ a' i = a (i + 1)) := by
  intro r
  induction r with
  | zero =>
    intro j f e m w a h1 h2 h3
    rcases f with _ | f
    · omega
    refine ⟨e, m, w, a, ?_, fun i hi => ⟨fun _ => ⟨rfl, rfl, rfl, rfl⟩, fun q => absurd hi (by omega)⟩⟩
    rw [fX6_takeOff_b9, if_pos (nle (by omega) (by omega)), nm_eq]
  | succ r ih =>
    intro j f e m w a h1 h2 h3
    rcases f with _ | f
    · omega
    obtain ⟨b, rfl⟩ : ∃ b, j = b + 1 := ⟨j - 1, by omega⟩
    obtain ⟨e', m', w', a', q1, q2⟩ := ih (b + 2) f (upd e b (e (b + 1))) (upd m b (m (b + 1))) (upd w b (w (b + 1))) (upd a b (a (b + 1))) (by omega) (by omega) (by omega)
    refine ⟨e', m', w', a', ?_, fun i hi => ⟨fun q => ?_, fun q => ?_⟩⟩
    · rw [fX6_takeOff_b9, if_neg (nnle (by omega) (by omega)), nI_pred, g_nI (show b + 1 < 6 by omega) (by omega), ck_true, nm_eq, g_nI (show b < 6 by omega) (by omega), ck_true, ck_true, nm_eq, ck_true, ck_true, nm_eq, ck_true, ck_true, nm_eq, ck_true, nm_eq, nI_1, clN (by omega), clN (by omega)]
      exact q1
    · have := (q2 i hi).1 (by omega)
      rw [upd_n (by omega), upd_n (by omega), upd_n (by omega), upd_n (by omega)] at this
      exact this
    · by_cases e1 : i = b
      · subst e1
        have := (q2 i hi).1 (by omega)
        rw [upd_s, upd_s, upd_s, upd_s] at this
        exact this
      · have := (q2 i hi).2 (by omega)
        rw [upd_n (by omega), upd_n (by omega), upd_n (by omega), upd_n (by omega)] at this
        exact this
theorem mask_bit : ∀ s, s < 6 → ∀ l, l < 6 → ((((1 : Int32) <<< (nI s &&& 31)) - 1) >>> (nI l &&& 31)) &&& 1 = if l < s then 1 else 0 := by decide +kernel
def flI (x : Int32) : Int32 := if x = 0 then 1 else if x = 1 then 0 else x
theorem turn_loop {s : Nat} (hs : s < 6) : ∀ (r j f : Nat) (e : Nat → Int32), j + r = s + 1 → r < f →
    ∃ e' : Nat → Int32, fX6_turn_b2 (nI (s + 1)) f e (((1 : Int32) <<< (nI s &&& 31)) - 1) (nI j) = some e' ∧ ∀ i, e' i = if j ≤ i ∧ i < s then flI (e i) else e i := by
  intro r
  induction r with
  | zero =>
    intro j f e h1 h2
    rcases f with _ | f
    · omega
    refine ⟨e, ?_, fun i => by rw [if_neg (by omega)]⟩
    rw [fX6_turn_b2, if_pos (nle (by omega) (by omega))]
  | succ r ih =>
    intro j f e h1 h2
    rcases f with _ | f
    · omega
    rw [fX6_turn_b2, if_neg (nnle (by omega) (by omega)), mask_bit s hs j (by omega)]
    unfold fX6_turn_b24 fX6_turn_b48 fX6_turn_b69
    by_cases h : j < s
    · obtain ⟨e', q1, q2⟩ := ih (j + 1) f (upd e j (flI (e j))) (by omega) (by omega)
      refine ⟨e', ?_, fun i => ?_⟩
      · rw [← q1, if_pos h, if_pos rfl, if_neg one0, g_nI (show j < 6 by omega) (by omega), ck_true, ck_true, if_neg one0, ck_true, nm_eq, nm_eq, nI_1, clN (by omega), ck_true]
        unfold flI
        by_cases h0 : e j = 0
        · rw [if_pos h0, if_pos h0]
        · rw [if_neg h0, if_neg h0]
          by_cases h1 : e j = 1
          · rw [if_pos h1, if_pos h1]
          · rw [if_neg h1, if_neg h1]
            have hu : upd e j (e j) = e := by
              funext i
              unfold upd
              by_cases z : i = j
              · rw [if_pos z, z]
              · rw [if_neg z]
            rw [hu]
            rfl
      · rw [q2]
        by_cases z : i = j
        · subst z
          rw [if_neg (by omega), if_pos (by omega), upd_s]
        · rw [upd_n z]
          by_cases z2 : j ≤ i ∧ i < s
          · rw [if_pos z2, if_pos (by omega)]
          · rw [if_neg z2, if_neg (by omega)]
    · obtain ⟨e', q1, q2⟩ := ih (j + 1) f e (by omega) (by omega)
      refine ⟨e', ?_, fun i => ?_⟩
      · rw [← q1, if_neg h, if_neg (show ¬ (0 : Int32) = 1 by decide), if_pos rfl, if_pos rfl, nm_eq, nI_1]
      · rw [q2, if_neg (by omega), if_neg (by omega)]
theorem gC_eq {s : Nat} {e m w a : Nat → Int32} (hs : okS (s + 1) e m w a) : ∃ k p o, k < 6 ∧ p < 6 ∧ o < 6 ∧ e s = nI k ∧ w s = nI p ∧ a s = nI o ∧ 1 ≤ (m s).toInt ∧ gC e m w a s = (k, (m s).toInt, p, o) := by
  obtain ⟨⟨k, hk, ek⟩, hm, ⟨p, hp, ep⟩, o, ho, eo⟩ := hs.2 s (Nat.lt_succ_self s)
  refine ⟨k, p, o, hk, hp, ho, ek, ep, eo, hm, ?_⟩
  unfold gC
  rw [ek, ep, eo, clN (by omega), clN (by omega), clN (by omega)]
theorem gC_congr {e m w a e' m' w' a' : Nat → Int32} {i j : Nat} (h : e' i = e j ∧ m' i = m j ∧ w' i = w j ∧ a' i = a j) : gC e' m' w' a' i = gC e m w a j := by
  unfold gC
  rw [h.1, h.2.1, h.2.2.1, h.2.2.2]
theorem c_doTop {s : Nat} {e m w a : Nat → Int32} {li sh : Nat → Int32} (hs : okS (s + 1) e m w a) (hh : okH sh) :
    (aDo (gC e m w a s) (stk (gC e m w a) s) (lF li) (lF sh) = none ∧ fX6_doTop (nI (s + 1)) li sh e m w a = some (0, nI (s + 1), li, sh, e, m, w, a)) ∨
    ∃ s' li' sh' e' m' w' a', s' ≤ s ∧ okS s' e' m' w' a' ∧ okH sh' ∧ aDo (gC e m w a s) (stk (gC e m w a) s) (lF li) (lF sh) = some (stk (gC e' m' w' a') s', lF li', lF sh') ∧ fX6_doTop (nI (s + 1)) li sh e m w a = some (1, nI s', li', sh', e', m', w', a') := by
  have hs6 := hs.1
  have hdown : ∀ t, t ≤ s → okS t e m w a := fun t ht => ⟨by omega, fun i hi => hs.2 i (by omega)⟩
  obtain ⟨k, p, o, hk, hp, ho, ek, ep, eo, hm, eg⟩ := gC_eq hs
  unfold fX6_doTop fX6_doTop_b19
  rw [nm_eq, nI_pred, if_neg (Int32.not_lt.mpr (nI_pos' (show s < 2 ^ 31 by omega)))]
  unfold fX6_act fX6_act_b62 fX6_act_b57 fX6_act_b62
  rw [g_nI (show s < 6 by omega) (by omega), ck_true, clN (by omega), ek]
  rcases Nat.lt_or_ge k 3 with h3 | h3
  · rw [if_neg (show ¬ nI k = 3 from neqI (b := 3) (by omega) (by omega) (by omega)), if_neg (show ¬ nI k = 4 from neqI (b := 4) (by omega) (by omega) (by omega)), if_neg (show ¬ nI k = 5 from neqI (b := 5) (by omega) (by omega) (by omega))]
    rcases c_touch hs hh (by rw [eg]; exact h3) (stk (gC e m w a) s) (li := li) with ⟨q1, q2⟩ | ⟨li', sh', q0, q1, q2⟩
    · left
      refine ⟨q1, ?_⟩
      rw [q2, ob_some]
      rfl
    · right
      refine ⟨s, li', sh', e, m, w, a, Nat.le_refl _, hdown s (Nat.le_refl _), q0, q1, ?_⟩
      rw [q2, ob_some, ob_some]
      dsimp only
      rw [if_neg one0, nm_eq, nI_pred]
  · rw [eg]
    unfold aDo
    dsimp only
    rw [if_neg (show ¬ k = 0 by omega), if_neg (show ¬ k = 1 by omega), if_neg (show ¬ k = 2 by omega)]
    rcases (show k = 3 ∨ k = 4 ∨ k = 5 by omega) with rfl | rfl | rfl
    · right
      rw [if_pos rfl, if_pos (show nI 3 = 3 from rfl)]
      unfold fX6_nearestByOther
      rw [nm_eq]
      have hcl : ∀ i, i < s → ((gC e m w a i).2.2.1 = p ↔ w i = w s) := by
        intro i hi
        obtain ⟨-, -, ⟨pi, hpi, epi⟩, -⟩ := hs.2 i (by omega)
        show (w i).toNatClampNeg = p ↔ _
        rw [epi, ep, clN (by omega)]
        exact ⟨fun q => by rw [q], fun q => (nI_eq (by omega) (by omega)).mp q⟩
      rcases near_loop (w := w) (show s < 6 by omega) s 70 (Nat.le_refl _) (by omega) (fun i h1 h2 => absurd h1 (by omega)) with ⟨q, hq, hne, hall, hb⟩ | ⟨hall, hb⟩
      · obtain ⟨e', m', w', a', t1, t2⟩ := take_loop (show s + 1 < 7 by omega) (s - q) (q + 1) 70 e m w a (by omega) (by omega) (by omega)
        have hg : ∀ i, i < s - 1 → gC e' m' w' a' i = if i < q then gC e m w a i else gC e m w a (i + 1) := by
          intro i hi
          by_cases c : i < q
          · rw [if_pos c]
            exact gC_congr ((t2 i (by omega)).1 (by omega))
          · rw [if_neg c]
            exact gC_congr ((t2 i (by omega)).2 (by omega))
        refine ⟨s - 1, li, sh, e', m', w', a', by omega, ⟨by omega, fun i hi => ?_⟩, hh, ?_, ?_⟩
        · by_cases c : i < q
          · obtain ⟨z1, z2, z3, z4⟩ := (t2 i (by omega)).1 (by omega)
            rw [z1, z2, z3, z4]
            exact hs.2 i (by omega)
          · obtain ⟨z1, z2, z3, z4⟩ := (t2 i (by omega)).2 (by omega)
            rw [z1, z2, z3, z4]
            exact hs.2 (i + 1) (by omega)
        · rw [stk_off (j := q) (fun z => hne ((hcl q hq).mp z)) hq (fun i h1 h2 => (hcl i h2).mpr (hall i h1 h2)), stk_congr (s := s - 1) fun i hi => (hg i hi).symm]
        · rw [hb, ob_some]
          unfold fX6_takeOff
          rw [if_pos (show (0 : Int32) ≤ nI q from nI_pos' (show q < 2 ^ 31 by omega)), nm_eq, nI_1, t1, ob_some, ob_some]
          dsimp only
          rw [if_neg one0, nm_eq, nI_pred, n1I (by omega)]
      · refine ⟨s, li, sh, e, m, w, a, Nat.le_refl _, hdown s (Nat.le_refl _), hh, ?_, ?_⟩
        · rw [stk_off0 fun i hi => (hcl i hi).mpr (hall i hi)]
        · rw [hb, ob_some]
          unfold fX6_takeOff
          rw [if_neg (show ¬ (0 : Int32) ≤ -1 by decide), ob_some, ob_some]
          dsimp only
          rw [if_neg one0, nm_eq, nI_pred]
    · rw [if_neg (show ¬ (4 : Nat) = 3 by decide), if_pos rfl, if_neg (show ¬ nI 4 = 3 by decide), if_pos (show nI 4 = 4 from rfl)]
      rcases s with _ | t
      · right
        refine ⟨0, li, sh, e, m, w, a, Nat.le_refl _, hdown 0 (Nat.le_refl _), hh, rfl, ?_⟩
        rw [if_pos (show nI 0 = 0 from rfl), ob_some]
        dsimp only
        rw [if_neg one0, nm_eq, nI_pred]
      · rw [if_neg (show ¬ nI (t + 1) = 0 from neqI (b := 0) (by omega) (by omega) (by omega)), nI_pred]
        unfold fX6_makeTwice
        rw [g_nI (show t < 6 by omega) (by omega), ck_true, clN (by omega), ck_true, nm_eq, ck_true, stk]
        dsimp only
        have hm2 : (gC e m w a t).2.1 = (m t).toInt := rfl
        rw [hm2]
        have hm1 := (hs.2 t (by omega)).2.1
        by_cases c : m t ≤ 1073741823
        · right
          have c' : (m t).toInt ≤ 1073741823 := i32le.mp c
          have hv : (m t * 2).toInt = 2 * (m t).toInt := by
            rw [fb_mulI (by rw [show (2 : Int32).toInt = 2 by decide]; omega) (by rw [show (2 : Int32).toInt = 2 by decide]; omega), show (2 : Int32).toInt = 2 by decide]
            omega
          refine ⟨t + 1, li, sh, e, upd m t (m t * 2), w, a, Nat.le_refl _, ⟨by omega, fun i hi => ?_⟩, hh, ?_, ?_⟩
          · obtain ⟨z1, z2, z3⟩ := hs.2 i (by omega)
            refine ⟨z1, ?_, z3⟩
            by_cases z : i = t
            · rw [z, upd_s, hv]
              omega
            · rw [upd_n z]
              exact z2
          · rw [if_pos ⟨by omega, by omega⟩, stk]
            have e1 : dbl (gC e m w a t) = gC e (upd m t (m t * 2)) w a t := by
              unfold dbl gC
              rw [upd_s, hv]
            have e2 : stk (gC e m w a) t = stk (gC e (upd m t (m t * 2)) w a) t := stk_congr fun i hi => by
              unfold gC
              rw [upd_n (by omega)]
            rw [e1, e2]
          · rw [if_pos c, ob_some]
            dsimp only
            rw [if_neg one0, ob_some]
            dsimp only
            rw [if_neg one0, nm_eq, nI_pred]
        · left
          have c' : ¬ (m t).toInt ≤ 1073741823 := fun z => c (i32le.mpr z)
          refine ⟨?_, ?_⟩
          · rw [if_neg (fun z : okI (2 * (m t).toInt) => absurd z.2 (by omega))]
          · rw [if_neg c, ob_some]
            dsimp only
            rw [if_pos rfl, ob_some]
            dsimp only
            rw [if_pos rfl]
    · right
      rw [if_neg (show ¬ (5 : Nat) = 3 by decide), if_neg (show ¬ (5 : Nat) = 4 by decide), if_neg (show ¬ nI 5 = 3 by decide), if_neg (show ¬ nI 5 = 4 by decide), if_pos (show nI 5 = 5 from rfl)]
      obtain ⟨e', t1, t2⟩ := turn_loop (show s < 6 by omega) (s + 1) 0 70 e (by omega) (by omega)
      refine ⟨s, li, sh, e', m, w, a, Nat.le_refl _, ⟨by omega, fun i hi => ?_⟩, hh, ?_, ?_⟩
      · obtain ⟨⟨c, hc, ec⟩, z3⟩ := hs.2 i (by omega)
        refine ⟨?_, z3⟩
        rw [t2, if_pos ⟨by omega, hi⟩, ec]
        unfold flI
        by_cases c0 : nI c = 0
        · rw [if_pos c0]
          exact ⟨1, by omega, rfl⟩
        · rw [if_neg c0]
          by_cases c1 : nI c = 1
          · rw [if_pos c1]
            exact ⟨0, by omega, rfl⟩
          · rw [if_neg c1]
            exact ⟨c, hc, rfl⟩
      · rw [stk_map, stk_congr (s := s) (g' := gC e' m w a) fun i hi => ?_]
        obtain ⟨⟨c, hc, ec⟩, z3⟩ := hs.2 i (by omega)
        unfold gC flip1
        dsimp only
        rw [t2, if_pos (show 0 ≤ i ∧ i < s from ⟨by omega, hi⟩), ec, clN (by omega)]
        unfold flI
        by_cases c0 : c = 0
        · subst c0
          rfl
        · rw [if_neg (show ¬ nI c = 0 from neqI (b := 0) (by omega) (by omega) c0), if_neg c0]
          by_cases c1 : c = 1
          · subst c1
            rfl
          · rw [if_neg (show ¬ nI c = 1 from neqI (b := 1) (by omega) (by omega) c1), if_neg c1, clN (by omega)]
      · unfold fX6_turn
        rw [show fX6_turn_b2 (nI (s + 1)) 70 e (((1 : Int32) <<< (nI s &&& 31)) - 1) 0 = some e' from t1, ob_some, ob_some]
        dsimp only
        rw [if_neg one0, nm_eq, nI_pred]
