/-! MATH 10: play, top, lives once more -/
abbrev St : Type := List Pl × (Nat → Int) × (Nat → Int)
def AgS (a b : St) : Prop := a.1 = b.1 ∧ ∀ p, p < 6 → a.2.1 p = b.2.1 p ∧ a.2.2 p = b.2.2 p
theorem AgS.refl (a : St) : AgS a a := ⟨rfl, fun _ _ => ⟨rfl, rfl⟩⟩
theorem AgS.symm {a b : St} (h : AgS a b) : AgS b a := ⟨h.1.symm, fun p hp => ⟨(h.2 p hp).1.symm, (h.2 p hp).2.symm⟩⟩
theorem AgS.trans {a b c : St} (h : AgS a b) (g : AgS b c) : AgS a c := ⟨h.1.trans g.1, fun p hp => ⟨(h.2 p hp).1.trans (g.2 p hp).1, (h.2 p hp).2.trans (g.2 p hp).2⟩⟩
theorem fU_ag {f g : Nat → Int} {k : Nat} {u v : Int} {p : Nat} (h : f p = g p) (e : u = v) : fU f k u p = fU g k v p := by
  unfold fU
  rw [h, e]
theorem aDo_ag {x : Pl} {r : List Pl} {li sh li' sh' : Nat → Int} {s : St} (hx : x.2.2.2 < 6) (ha : ∀ p, p < 6 → li p = li' p ∧ sh p = sh' p) (h : aDo x r li sh = some s) : ∃ s', aDo x r li' sh' = some s' ∧ AgS s s' := by
  have e1 := (ha _ hx).1
  have e2 := (ha _ hx).2
  unfold aDo at h ⊢
  rw [← e1, ← e2]
  by_cases h0 : x.1 = 0
  · rw [if_pos h0] at h ⊢
    by_cases hk : okI (li x.2.2.2 - (x.2.1 - min (sh x.2.2.2) x.2.1))
    · rw [if_pos hk] at h ⊢
      cases h
      exact ⟨_, rfl, rfl, fun p hp => ⟨fU_ag (ha p hp).1 rfl, fU_ag (ha p hp).2 rfl⟩⟩
    · rw [if_neg hk] at h
      cases h
  rw [if_neg h0] at h ⊢
  by_cases h1 : x.1 = 1
  · rw [if_pos h1] at h ⊢
    by_cases hk : okI (li x.2.2.2 + x.2.1)
    · rw [if_pos hk] at h ⊢
      cases h
      exact ⟨_, rfl, rfl, fun p hp => ⟨fU_ag (ha p hp).1 rfl, (ha p hp).2⟩⟩
    · rw [if_neg hk] at h
      cases h
  rw [if_neg h1] at h ⊢
  by_cases h2 : x.1 = 2
  · rw [if_pos h2] at h ⊢
    by_cases hk : okI (sh x.2.2.2 + x.2.1)
    · rw [if_pos hk] at h ⊢
      cases h
      exact ⟨_, rfl, rfl, fun p hp => ⟨(ha p hp).1, fU_ag (ha p hp).2 rfl⟩⟩
    · rw [if_neg hk] at h
      cases h
  rw [if_neg h2] at h ⊢
  by_cases h3 : x.1 = 3
  · rw [if_pos h3] at h ⊢
    cases h
    exact ⟨_, rfl, rfl, ha⟩
  rw [if_neg h3] at h ⊢
  by_cases h4 : x.1 = 4
  · rw [if_pos h4] at h ⊢
    cases r with
    | nil =>
      dsimp only at h ⊢
      cases h
      exact ⟨_, rfl, rfl, ha⟩
    | cons y r' =>
      dsimp only at h ⊢
      by_cases hk : okI (2 * y.2.1)
      · rw [if_pos hk] at h ⊢
        cases h
        exact ⟨_, rfl, rfl, ha⟩
      · rw [if_neg hk] at h
        cases h
  · rw [if_neg h4] at h ⊢
    cases h
    exact ⟨_, rfl, rfl, ha⟩
theorem stk_mem {g : Nat → Pl} {y : Pl} : ∀ {s : Nat}, y ∈ stk g s → ∃ i, i < s ∧ y = g i
  | 0, h => by cases h
  | s + 1, h => by
    rw [stk, List.mem_cons] at h
    rcases h with h | h
    · exact ⟨s, Nat.lt_succ_self s, h⟩
    · obtain ⟨i, hi, e⟩ := stk_mem h
      exact ⟨i, by omega, e⟩
theorem stk_inj {g g' : Nat → Pl} : ∀ {s : Nat}, stk g s = stk g' s → ∀ i, i < s → g i = g' i
  | 0, _, i, hi => absurd hi (Nat.not_lt_zero _)
  | s + 1, h, i, hi => by
    rw [stk, stk] at h
    injection h with h1 h2
    by_cases e : i = s
    · rw [e]
      exact h1
    · exact stk_inj h2 i (by omega)
theorem gC_ag {s : Nat} {e m w a : Nat → Int32} (h : okS s e m w a) : ∀ y ∈ stk (gC e m w a) s, y.2.2.2 < 6 := by
  intro y hy
  obtain ⟨i, hi, rfl⟩ := stk_mem hy
  obtain ⟨-, -, -, p, hp, ep⟩ := h.2 i hi
  show (a i).toNatClampNeg < 6
  rw [ep, clN (by omega)]
  exact hp
/-- the table and the reference's -/
def RT (s : Nat) (e m w a li sh does much who ag life shield : Nat → Int32) : Prop :=
  okS s e m w a ∧ okH sh ∧ (∀ i, i < s → does i = e i ∧ much i = m i ∧ who i = w i ∧ ag i = a i) ∧ ∀ p, p < 6 → life p = li p ∧ shield p = sh p
def dd (e n p a : Nat) : Int32 := (((nI e <<< ((10 : Int32) &&& 31)) ||| (nI n <<< ((6 : Int32) &&& 31))) ||| (nI p <<< ((3 : Int32) &&& 31))) ||| nI a
def ddB : Bool := (List.range 6).all fun e => (List.range 10).all fun n => (List.range 6).all fun p => (List.range 6).all fun a =>
  (dd e n p a != -1) && ((dd e n p a >>> ((10 : Int32) &&& 31)) == nI e) && (((dd e n p a >>> ((6 : Int32) &&& 31)) &&& 15) == nI n) && (((dd e n p a >>> ((3 : Int32) &&& 31)) &&& 7) == nI p) && ((dd e n p a &&& 7) == nI a)
theorem ddB_t : ddB = true := by decide +kernel
theorem dd_all {e n p a : Nat} (he : e < 6) (hn : n < 10) (hp : p < 6) (ha : a < 6) : dd e n p a ≠ -1 ∧ (dd e n p a >>> ((10 : Int32) &&& 31)) = nI e ∧ ((dd e n p a >>> ((6 : Int32) &&& 31)) &&& 15) = nI n ∧ ((dd e n p a >>> ((3 : Int32) &&& 31)) &&& 7) = nI p ∧ (dd e n p a &&& 7) = nI a := by
  have h := ddB_t
  unfold ddB at h
  have h := List.all_eq_true.mp (List.all_eq_true.mp (List.all_eq_true.mp (List.all_eq_true.mp h e (List.mem_range.mpr he)) n (List.mem_range.mpr hn)) p (List.mem_range.mpr hp)) a (List.mem_range.mpr ha)
  simp only [Bool.and_eq_true, bne_iff_ne, beq_iff_eq] at h
  exact ⟨h.1.1.1.1, h.1.1.1.2, h.1.1.2, h.1.2, h.2⟩
/-- what the deeds come to -/
def HS (D : Nat → Int32) : Nat → St → Prop
  | 0, st => st.1 = [] ∧ ∀ p, p < 6 → st.2.1 p = 20 ∧ st.2.2 p = 0
  | c + 1, st => ∃ b : St, HS D c b ∧ (∀ y ∈ b.1, y.2.2.2 < 6) ∧
     ((D c = -1 ∧ ∃ x r t, b.1 = x :: r ∧ aDo x r b.2.1 b.2.2 = some t ∧ AgS t st) ∨
      ∃ e n p a, e < 6 ∧ 1 ≤ n ∧ n < 10 ∧ p < 6 ∧ a < 6 ∧ b.1.length < 6 ∧ D c = dd e n p a ∧ AgS ((e, (n : Int), p, a) :: b.1, b.2.1, b.2.2) st)
theorem HS_uni {D : Nat → Int32} : ∀ {c : Nat} {st st' : St}, HS D c st → HS D c st' → AgS st st'
  | 0, st, st', h, h' => ⟨h.1.trans h'.1.symm, fun p hp => ⟨(h.2 p hp).1.trans (h'.2 p hp).1.symm, (h.2 p hp).2.trans (h'.2 p hp).2.symm⟩⟩
  | c + 1, st, st', h, h' => by
    obtain ⟨b, hb, hy, h⟩ := h
    obtain ⟨b', hb', hy', h'⟩ := h'
    have hg := HS_uni hb hb'
    rcases h with ⟨h1, x, r, t, h2, h3, h4⟩ | ⟨e, n, p, a, he, hn1, hn, hp, ha, hl, hd, h⟩
    · rcases h' with ⟨-, x', r', t', h2', h3', h4'⟩ | ⟨e', n', p', a', he', hn1', hn', hp', ha', hl', hd', h'⟩
      · have hq : x :: r = x' :: r' := by rw [← h2, ← h2', hg.1]
        injection hq with q1 q2
        subst q1
        subst q2
        obtain ⟨t2, h5, h6⟩ := aDo_ag (hy x (by rw [h2]; exact List.mem_cons_self)) hg.2 h3
        rw [h5] at h3'
        cases h3'
        exact (h4.symm.trans h6).trans h4'
      · exact absurd (hd'.symm.trans h1) (dd_all he' hn' hp' ha').1
    · rcases h' with ⟨h1, -⟩ | ⟨e', n', p', a', he', hn1', hn', hp', ha', hl', hd', h'⟩
      · exact absurd (hd.symm.trans h1) (dd_all he hn hp ha).1
      · obtain ⟨-, a1, a2, a3, a4⟩ := dd_all he hn hp ha
        obtain ⟨-, b1, b2, b3, b4⟩ := dd_all he' hn' hp' ha'
        rw [← hd, hd'] at a1 a2 a3 a4
        have c1 : e = e' := (nI_eq (by omega) (by omega)).mp (a1.symm.trans b1)
        have c2 : n = n' := (nI_eq (by omega) (by omega)).mp (a2.symm.trans b2)
        have c3 : p = p' := (nI_eq (by omega) (by omega)).mp (a3.symm.trans b3)
        have c4 : a = a' := (nI_eq (by omega) (by omega)).mp (a4.symm.trans b4)
        subst c1
        subst c2
        subst c3
        subst c4
        have hm : AgS ((e, (n : Int), p, a) :: b.1, b.2.1, b.2.2) ((e, (n : Int), p, a) :: b'.1, b'.2.1, b'.2.2) := ⟨by rw [hg.1], hg.2⟩
        exact (h.symm.trans hm).trans h'
theorem HS_cong {D D' : Nat → Int32} : ∀ {c : Nat} {st : St}, (∀ i, i < c → D i = D' i) → HS D c st → HS D' c st
  | 0, _, _, h => h
  | c + 1, st, hd, h => by
    obtain ⟨b, hb, hy, h⟩ := h
    refine ⟨b, HS_cong (fun i hi => hd i (by omega)) hb, hy, ?_⟩
    rw [← hd c (Nat.lt_succ_self c)]
    exact h
theorem HS_down {D : Nat → Int32} {c : Nat} {st : St} (h : HS D c st) : ∀ {r j : Nat}, j + r = c → ∃ b, HS D j b
  | 0, j, e => by
    rw [Nat.add_zero] at e
    exact ⟨st, e ▸ h⟩
  | r + 1, j, e => by
    obtain ⟨b, hb⟩ := HS_down h (r := r) (j := j + 1) (by omega)
    obtain ⟨b2, hb2, -⟩ := hb
    exact ⟨b2, hb2⟩
theorem clear_loop {z : Int32} : ∀ (r j f : Nat) (li sh : Nat → Int32), j + r = 6 → r < f →
    ∃ li' sh' : Nat → Int32, fX6_clear_b2 f z li sh (nI j) = some (0, li', sh') ∧ ∀ p, p < 6 → (p < j → li' p = li p ∧ sh' p = sh p) ∧ (j ≤ p → li' p = 20 ∧ sh' p = 0) := by
  intro r
  induction r with
  | zero =>
    intro j f li sh h1 h2
    rcases f with _ | f
    · omega
    refine ⟨li, sh, ?_, fun p hp => ⟨fun _ => ⟨rfl, rfl⟩, fun q => absurd hp (by omega)⟩⟩
    rw [fX6_clear_b2, if_pos (show 6 ≤ nI j from nle (a := 6) (by omega) (by omega))]
  | succ r ih =>
    intro j f li sh h1 h2
    rcases f with _ | f
    · omega
    obtain ⟨li', sh', q1, q2⟩ := ih (j + 1) f (upd li j 20) (upd sh j 0) (by omega) (by omega)
    refine ⟨li', sh', ?_, fun p hp => ⟨fun q => ?_, fun q => ?_⟩⟩
    · rw [fX6_clear_b2, if_neg (show ¬ 6 ≤ nI j from nnle (a := 6) (by omega) (by omega)), g_nI (show j < 6 by omega) (by omega), ck_true, ck_true, nm_eq, nI_1, clN (by omega)]
      exact q1
    · have := (q2 p hp).1 (by omega)
      rw [upd_n (by omega), upd_n (by omega)] at this
      exact this
    · by_cases e : p = j
      · subst e
        have := (q2 p hp).1 (by omega)
        rw [upd_s, upd_s] at this
        exact this
      · exact (q2 p hp).2 (by omega)
theorem c_lay {s : Nat} {e m w a : Nat → Int32} (hs : okS s e m w a) (h6 : s < 6) {E N P A : Nat} (hE : E < 6) (hN1 : 1 ≤ N) (hN : N < 10) (hP : P < 6) (hA : A < 6) :
    fX6_lay (nI s) e m w a (nI E) (nI N) (nI P) (nI A) = some (nI (s + 1), upd e s (nI E), upd m s (nI N), upd w s (nI P), upd a s (nI A)) ∧ okS (s + 1) (upd e s (nI E)) (upd m s (nI N)) (upd w s (nI P)) (upd a s (nI A)) ∧ stk (gC (upd e s (nI E)) (upd m s (nI N)) (upd w s (nI P)) (upd a s (nI A))) (s + 1) = (E, (N : Int), P, A) :: stk (gC e m w a) s := by
  refine ⟨?_, ⟨by omega, fun i hi => ?_⟩, ?_⟩
  · unfold fX6_lay
    rw [if_pos (show nI s < 6 from nlt (b := 6) h6 (by omega)), g_nI h6 (by omega), ck_true, ck_true, ck_true, ck_true, nm_eq, nI_1, clN (by omega)]
  · by_cases z : i = s
    · subst z
      rw [upd_s, upd_s, upd_s, upd_s, nI_toInt (by omega)]
      exact ⟨⟨E, hE, rfl⟩, by omega, ⟨P, hP, rfl⟩, A, hA, rfl⟩
    · rw [upd_n z, upd_n z, upd_n z, upd_n z]
      exact hs.2 i (by omega)
  · rw [stk]
    have e1 : gC (upd e s (nI E)) (upd m s (nI N)) (upd w s (nI P)) (upd a s (nI A)) s = (E, (N : Int), P, A) := by
      unfold gC
      rw [upd_s, upd_s, upd_s, upd_s, nI_toInt (by omega), clN (by omega), clN (by omega), clN (by omega)]
    have e2 : stk (gC (upd e s (nI E)) (upd m s (nI N)) (upd w s (nI P)) (upd a s (nI A))) s = stk (gC e m w a) s := stk_congr fun i hi => by
      unfold gC
      rw [upd_n (by omega), upd_n (by omega), upd_n (by omega), upd_n (by omega)]
    rw [e1, e2]
/-- the deeds done again -/
theorem c_replay {D : Nat → Int32} {c : Nat} {st : St} (hst : HS D c st) (hc : c ≤ 512) {P : Nat} (hP : P < 6) : ∀ (r j f s : Nat) (e m w a li sh : Nat → Int32), j + r = c → r < f → okS s e m w a → okH sh → HS D j (stk (gC e m w a) s, lF li, lF sh) →
    ∃ (v z : Int32) (li' sh' e' m' w' a' : Nat → Int32), fX1_findLife_b9 (nI c) D f (nI s) li sh e m w a (nI P) (nI j) = some (v, z, li', sh', e', m', w', a') ∧ v.toInt = st.2.1 P := by
  intro r
  induction r with
  | zero =>
    intro j f s e m w a li sh h1 h2 hs hh hH
    rcases f with _ | f
    · omega
    have : j = c := by omega
    subst this
    refine ⟨li P, nI s, li, sh, e, m, w, a, ?_, ((HS_uni hH hst).2 P hP).1⟩
    rw [fX1_findLife_b9, if_pos (nle (Nat.le_refl _) (by omega)), g_nI hP (by omega), ck_true, clN (by omega)]
  | succ r ih =>
    intro j f s e m w a li sh h1 h2 hs hh hH
    rcases f with _ | f
    · omega
    obtain ⟨st1, hst1⟩ := HS_down hst (r := r) (j := j + 1) (by omega)
    obtain ⟨b, hb, hy, hb2⟩ := hst1
    have hg := HS_uni hb hH
    have hgl : b.1 = stk (gC e m w a) s := hg.1
    have hga := hg.2
    rw [fX1_findLife_b9, if_neg (nnle (by omega) (by omega)), g_nI (show j < 512 by omega) (by omega), ck_true, nm_eq, clN (by omega)]
    rcases hb2 with ⟨q1, x, r', t, q2, q3, q4⟩ | ⟨E, N, P', A, hE, hN1, hN, hP', hA, hl, hd, -⟩
    · rw [if_pos q1]
      rw [q2] at hgl
      rcases s with _ | s
      · rw [stk] at hgl
        cases hgl
      · rw [stk] at hgl
        injection hgl with g1 g2
        subst g1
        subst g2
        have hx6 := hy (gC e m w a s) (by rw [q2]; exact List.mem_cons_self)
        obtain ⟨t2, u1, u2⟩ := aDo_ag hx6 hga q3
        rcases c_doTop (li := li) hs hh with ⟨n1, -⟩ | ⟨s', li', sh', e', m', w', a', hs1, hs2, hs3, hs4, hs5⟩
        · have n1' : aDo (gC e m w a s) (stk (gC e m w a) s) (lF li) (lF sh) = some t2 := u1
          rw [n1] at n1'
          cases n1'
        · rw [hs5, ob_some]
          unfold fX1_findLife_b68
          dsimp only
          rw [nm_eq, nI_1]
          refine ih (j + 1) f s' e' m' w' a' li' sh' (by omega) (by omega) hs2 hs3 ?_
          exact ⟨_, hH, fun y hy => gC_ag hs y hy, Or.inl ⟨q1, _, _, _, rfl, hs4, AgS.refl _⟩⟩
    · obtain ⟨d0, d1, d2, d3, d4⟩ := dd_all hE hN hP' hA
      rw [hd, if_neg d0, d1, d2, d3, d4]
      have hsl : s < 6 := by
        have := congrArg List.length hgl
        rw [stk_len] at this
        omega
      obtain ⟨l1, l2, l3⟩ := c_lay hs hsl hE hN1 hN hP' hA
      rw [l1, ob_some]
      unfold fX1_findLife_b68
      dsimp only
      rw [nm_eq, nI_1]
      refine ih (j + 1) f (s + 1) _ _ _ _ li sh (by omega) (by omega) l2 hh ?_
      exact ⟨_, hH, fun y hy => gC_ag hs y hy, Or.inr ⟨E, N, P', A, hE, hN1, hN, hP', hA, by rw [← hgl]; exact hl, hd, l3.symm, fun _ _ => ⟨rfl, rfl⟩⟩⟩
theorem c_findLife {D : Nat → Int32} {c : Nat} {st : St} (hst : HS D c st) (hc : c ≤ 512) {P : Nat} (hP : P < 6) (z0 : Int32) (li sh e m w a : Nat → Int32) :
    ∃ (v z : Int32) (li' sh' e' m' w' a' : Nat → Int32), fX1_findLife (nI c) D z0 li sh e m w a (nI P) = some (v, z, li', sh', e', m', w', a') ∧ v.toInt = st.2.1 P := by
  obtain ⟨li', sh', q1, q2⟩ := clear_loop (z := z0) 6 0 70 li sh (by omega) (by omega)
  unfold fX1_findLife fX6_clear
  rw [show (0 : Int32) = nI 0 from rfl, q1, ob_some]
  refine c_replay hst hc hP c 0 600 0 e m w a li' sh' (by omega) (by omega) ⟨by omega, fun i hi => absurd hi (Nat.not_lt_zero _)⟩ (fun p hp => ?_) ⟨rfl, fun p hp => ?_⟩
  · rw [((q2 p hp).2 (by omega)).2]
    decide
  · show (li' p).toInt = 20 ∧ (sh' p).toInt = 0
    rw [((q2 p hp).2 (by omega)).1, ((q2 p hp).2 (by omega)).2]
    decide
