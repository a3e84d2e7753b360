/-! MATH 11: the calls play, top, lifeAnew -/
theorem m_lifeAnew {s c : Nat} {e m w a li sh does much who ag life shield D : Nat → Int32} (hT : RT s e m w a li sh does much who ag life shield) (hH : HS D c (stk (gC e m w a) s, lF li, lF sh)) (hc : c ≤ 512) (z0 : Int32) (l1 s1 e1 m1 w1 a1 : Nat → Int32) (thrown p1 : Int32) :
    (∃ r x, fX8_lifeAnew (nI c) D z0 l1 s1 e1 m1 w1 a1 p1 = some (.inl (r, x)) ∧ fX9_lifeAnew thrown life p1 = some (r, 0)) ∨ (fX8_lifeAnew (nI c) D z0 l1 s1 e1 m1 w1 a1 p1 = some (.inr ("java/lang/IndexOutOfBoundsException", (z0, l1, s1, e1, m1, w1, a1))) ∧ ∃ b, fX9_lifeAnew thrown life p1 = some (b, 1)) := by
  unfold fX8_lifeAnew fX9_lifeAnew fX9_lifeAnew_b13 fX9_lifeAnew_b29
  rcases in_n p1 6 (by omega) with ⟨P, hP, rfl⟩ | ⟨hP, -⟩
  · left
    obtain ⟨v, z, li', sh', e', m', w', a', q1, q2⟩ := c_findLife hH hc hP z0 l1 s1 e1 m1 w1 a1
    refine ⟨v, (z, li', sh', e', m', w', a'), ?_, ?_⟩
    · rw [needPlayer_ok hP, ob_some, xm_inl, q1, ob_some]
    · rw [isPlayer_ok hP, ob_some, if_neg one0, goesWell_0, ob_some]
      dsimp only
      rw [if_neg one0, g_nI hP (by omega), ck_true, clN (by omega), (hT.2.2.2 P hP).1, show v = li P from i32eq.mpr q2]
  · right
    refine ⟨?_, ?_⟩
    · rw [needPlayer_bad hP, ob_some, xm_inr]
    · rw [isPlayer_bad hP, ob_some, if_pos rfl, goesWell_1, ob_some]
      exact ⟨_, rfl⟩
theorem add_ok {c : Nat} (hc : c < 512) (D : Nat → Int32) (x : Int32) : fX1_add (nI c) D x = some (nI (c + 1), upd D c x) := by
  unfold fX1_add fX1_add_b30
  rw [if_neg (show ¬ 512 ≤ nI c from nnle (a := 512) hc (by omega)), g_nI hc (by omega), ck_true, nm_eq, nI_1, clN (by omega)]
theorem m_play {n d : Nat} {count : Int32} {effects numbers bans : Nat → Int32} {today kinds : Int32} {effect number banned : Nat → Int32} {mtoday : Int32} {cards : Nat → Nat → Int32} {has : Nat → Int32} (hK : RK n d count effects numbers bans today kinds effect number banned mtoday) (hC : RC n cards has) {s c : Nat} {e m w a li sh does much who ag life shield D : Nat → Int32} (hT : RT s e m w a li sh does much who ag life shield) (hH : HS D c (stk (gC e m w a) s, lF li, lF sh)) (hc : c < 512) (thrown p1 p2 p3 : Int32) :
    (∃ r s' e' m' w' a' does' much' who' ag' D', fX8_play today count effects numbers bans cards (nI s) e m w a (nI c) D p1 p2 p3 = some (.inl (r, nI s', e', m', w', a', nI (c + 1), D')) ∧ fX9_play thrown mtoday kinds (nI s) effect number banned has who does much ag p1 p2 p3 = some (r, 0, nI s', who', does', much', ag') ∧ RT s' e' m' w' a' li sh does' much' who' ag' life shield ∧ HS D' (c + 1) (stk (gC e' m' w' a') s', lF li, lF sh)) ∨
    (fX8_play today count effects numbers bans cards (nI s) e m w a (nI c) D p1 p2 p3 = some (.inr ("java/lang/IndexOutOfBoundsException", (nI s, e, m, w, a, nI c, D))) ∧ ∃ b, fX9_play thrown mtoday kinds (nI s) effect number banned has who does much ag p1 p2 p3 = some (b, 1, nI s, who, does, much, ag)) ∨
    (fX8_play today count effects numbers bans cards (nI s) e m w a (nI c) D p1 p2 p3 = some (.inr ("java/lang/IllegalStateException", (nI s, e, m, w, a, nI c, D))) ∧ ∃ b, fX9_play thrown mtoday kinds (nI s) effect number banned has who does much ag p1 p2 p3 = some (b, 2, nI s, who, does, much, ag)) := by
  have hK' := hK
  obtain ⟨hn, hd, rfl, rfl, rfl, rfl, hkk⟩ := hK
  obtain ⟨hS, hh, hTs, hTl⟩ := hT
  unfold fX8_play fX9_play fX9_play_b26 fX9_play_b27 fX9_play_b73 fX9_play_b74 fX9_play_b96
  rcases in_n p1 6 (by omega) with ⟨P, hP, rfl⟩ | ⟨hP, -⟩
  · rcases in_n p2 n (by omega) with ⟨k, hk, rfl⟩ | ⟨hk, -⟩
    · rcases in_n p3 6 (by omega) with ⟨A, hA, rfl⟩ | ⟨hA, -⟩
      · obtain ⟨E, N, hE, hN1, hN, k1, k2, k3, k4, -⟩ := hkk k hk
        obtain ⟨b1, b2⟩ := isB_eq hK' hk (show nI d ≤ 1000 from nle (b := 1000) hd (by omega))
        have ec : has (20 * P + k) = cards P k := ((hC P k hP (by omega)).1).symm
        rw [needPlayer_ok hP, ob_some, xm_inl, needKind_ok hn hk, ob_some, xm_inl, needPlayer_ok hA, ob_some, xm_inl, g_nI hP (by omega), ck_true, g_nI (show k < 20 by omega) (by omega), ck_true, clN (by omega), clN (by omega), b1, ob_some,
          isPlayer_ok hP, ob_some, if_neg one0, isKind_ok hn hk, ob_some, if_neg one0, isPlayer_ok hA, ob_some, if_neg one0, if_neg one0, ix20 hP (by omega), g_nI (show 20 * P + k < 120 by omega) (by omega), ck_true, clN (by omega), b2, ob_some, ec, goesWell_0, ob_some, goesWell_2, ob_some]
        by_cases h1 : (1 : Int32) ≤ cards P k
        · have h2 : ¬ cards P k ≤ 0 := fun q => absurd (Int32.le_trans h1 q) (by decide)
          rw [if_pos h1, if_neg h2]
          by_cases h3 : nI d < bans k
          · rw [if_pos h3, if_pos rfl, if_pos rfl]
            by_cases h4 : s < 6
            · left
              obtain ⟨l1, l2, l3⟩ := c_lay hS h4 hE hN1 hN hP hA
              refine ⟨nI (s + 1), s + 1, upd e s (nI E), upd m s (nI N), upd w s (nI P), upd a s (nI A), upd does s (nI E), upd much s (nI N), upd who s (nI P), upd ag s (nI A), upd D c (dd E N P A), ?_, ?_, ⟨l2, hh, fun i hi => ?_, hTl⟩, ?_⟩
              · unfold fX1_addPlay
                rw [if_pos (show nI s < 6 from nlt (b := 6) h4 (by omega)), k1, k3, l1, ob_some]
                dsimp only
                rw [ck_true, ck_true, add_ok hc, ob_some]
                rfl
              · rw [if_neg (show ¬ 6 ≤ nI s from nnle (a := 6) h4 (by omega)), if_neg one0]
                dsimp only
                rw [if_neg one0, g_nI h4 (by omega), ck_true, ck_true, nm_eq, ck_true, ck_true, nm_eq, ck_true, ck_true, nm_eq, nI_1, clN (by omega), k2, k4, if_neg one0, ck_true]
              · by_cases z : i = s
                · subst z
                  rw [upd_s, upd_s, upd_s, upd_s, upd_s, upd_s, upd_s, upd_s]
                  exact ⟨rfl, rfl, rfl, rfl⟩
                · rw [upd_n z, upd_n z, upd_n z, upd_n z, upd_n z, upd_n z, upd_n z, upd_n z]
                  exact hTs i (by omega)
              · refine ⟨_, HS_cong (fun i hi => by rw [upd_n (by omega)]) hH, fun y hy => gC_ag hS y hy, Or.inr ⟨E, N, P, A, hE, hN1, hN, hP, hA, ?_, upd_s _ _ _, l3.symm, fun _ _ => ⟨rfl, rfl⟩⟩⟩
                show (stk (gC e m w a) s).length < 6
                rw [stk_len]
                exact h4
            · right; right
              have := hS.1
              rw [if_neg (show ¬ nI s < 6 from nnlt (b := 6) (by omega) (by omega)), if_pos (show 6 ≤ nI s from nle (a := 6) (by omega) (by omega))]
              exact ⟨rfl, _, rfl⟩
          · right; right
            rw [if_neg h3, if_neg one0, if_neg one0]
            exact ⟨rfl, _, rfl⟩
        · right; right
          have h2 : cards P k ≤ 0 := by
            rw [i32le] at h1 ⊢
            have e1 : (1 : Int32).toInt = 1 := rfl
            have e0 : (0 : Int32).toInt = 0 := rfl
            omega
          rw [if_neg h1, if_pos h2]
          exact ⟨rfl, _, rfl⟩
      · right; left
        refine ⟨?_, ?_⟩
        · rw [needPlayer_ok hP, ob_some, xm_inl, needKind_ok hn hk, ob_some, xm_inl, needPlayer_bad hA, ob_some, xm_inr]
        · rw [isPlayer_ok hP, ob_some, if_neg one0, isKind_ok hn hk, ob_some, if_neg one0, isPlayer_bad hA, ob_some, if_pos rfl, if_pos rfl, if_pos rfl, goesWell_1, ob_some]
          exact ⟨_, rfl⟩
    · right; left
      refine ⟨?_, ?_⟩
      · rw [needPlayer_ok hP, ob_some, xm_inl, needKind_bad hk, ob_some, xm_inr]
      · rw [isPlayer_ok hP, ob_some, if_neg one0, isKind_bad hn hk, ob_some, if_pos rfl, if_pos rfl, if_pos rfl, goesWell_1, ob_some]
        exact ⟨_, rfl⟩
  · right; left
    refine ⟨?_, ?_⟩
    · rw [needPlayer_bad hP, ob_some, xm_inr]
    · rw [isPlayer_bad hP, ob_some, if_pos rfl, if_pos rfl, if_pos rfl, goesWell_1, ob_some]
      exact ⟨_, rfl⟩
theorem top_copyL (th st hi : Int32) (who does much ag tw td : Nat → Int32) (tm : Nat → Int64) (ta : Nat → Int32) (tl ts : Nat → Int64) : ∀ (r j f : Nat) (life shield : Nat → Int32), j + r = 6 → r < f →
    ∃ life' shield' : Nat → Int32, fX9_top_b108 f th st hi life shield who does much ag tw td tm ta tl ts (nI j) = some (st, th, st, hi, life', shield', who, does, much, ag, tw, td, tm, ta, tl, ts) ∧ ∀ p, p < 6 → (p < j → life' p = life p ∧ shield' p = shield p) ∧ (j ≤ p → life' p = (tl p).toInt32 ∧ shield' p = (ts p).toInt32) := by
  intro r
  induction r with
  | zero =>
    intro j f life shield h1 h2
    rcases f with _ | f
    · omega
    refine ⟨life, shield, ?_, fun p hp => ⟨fun _ => ⟨rfl, rfl⟩, fun q => absurd hp (by omega)⟩⟩
    rw [fX9_top_b108, if_pos (show 6 ≤ nI j from nle (a := 6) (by omega) (by omega))]
  | succ r ih =>
    intro j f life shield h1 h2
    rcases f with _ | f
    · omega
    obtain ⟨life', shield', q1, q2⟩ := ih (j + 1) f (upd life j (tl j).toInt32) (upd shield j (ts j).toInt32) (by omega) (by omega)
    refine ⟨life', shield', ?_, fun p hp => ⟨fun q => ?_, fun q => ?_⟩⟩
    · rw [fX9_top_b108, if_neg (show ¬ 6 ≤ nI j from nnle (a := 6) (by omega) (by omega)), g_nI (show j < 6 by omega) (by omega), ck_true, nm_eq, ck_true, ck_true, nm_eq, ck_true, nm_eq, nI_1, clN (by omega)]
      exact q1
    · have := (q2 p hp).1 (by omega)
      rw [upd_n (by omega), upd_n (by omega)] at this
      exact this
    · by_cases e : p = j
      · subst e
        have := (q2 p hp).1 (by omega)
        rw [upd_s, upd_s] at this
        exact this
      · exact (q2 p hp).2 (by omega)
theorem top_copy {h : Nat} (hh : h ≤ 6) (th st : Int32) (life shield tw td : Nat → Int32) (tm : Nat → Int64) (ta : Nat → Int32) (tl ts : Nat → Int64) : ∀ (r j f : Nat) (who does much ag : Nat → Int32), j + r = h → r < f →
    ∃ who' does' much' ag' : Nat → Int32, fX9_top_b43 f th st (nI h) life shield who does much ag tw td tm ta tl ts (nI j) = fX9_top_b108 70 th st (nI h) life shield who' does' much' ag' tw td tm ta tl ts 0 ∧ ∀ i, i < h → (i < j → who' i = who i ∧ does' i = does i ∧ much' i = much i ∧ ag' i = ag i) ∧ (j ≤ i → who' i = tw i ∧ does' i = td i ∧ much' i = (tm i).toInt32 ∧ ag' i = ta i) := by
  intro r
  induction r with
  | zero =>
    intro j f who does much ag h1 h2
    rcases f with _ | f
    · omega
    refine ⟨who, does, much, ag, ?_, fun p hp => ⟨fun _ => ⟨rfl, rfl, rfl, rfl⟩, fun q => absurd hp (by omega)⟩⟩
    rw [fX9_top_b43, if_pos (nle (by omega) (by omega))]
  | succ r ih =>
    intro j f who does much ag h1 h2
    rcases f with _ | f
    · omega
    obtain ⟨who', does', much', ag', q1, q2⟩ := ih (j + 1) f (upd who j (tw j)) (upd does j (td j)) (upd much j (tm j).toInt32) (upd ag j (ta j)) (by omega) (by omega)
    refine ⟨who', does', much', ag', ?_, fun p hp => ⟨fun q => ?_, fun q => ?_⟩⟩
    · rw [fX9_top_b43, if_neg (nnle (by omega) (by omega)), g_nI (show j < 6 by omega) (by omega), ck_true, nm_eq, ck_true, ck_true, nm_eq, ck_true, ck_true, nm_eq, ck_true, ck_true, nm_eq, ck_true, nm_eq, nI_1, clN (by omega)]
      exact q1
    · have := (q2 p hp).1 (by omega)
      rw [upd_n (by omega), upd_n (by omega), upd_n (by omega), upd_n (by omega)] at this
      exact this
    · by_cases e : p = j
      · subst e
        have := (q2 p hp).1 (by omega)
        rw [upd_s, upd_s, upd_s, upd_s] at this
        exact this
      · exact (q2 p hp).2 (by omega)
/-- laid out, the reference's stack is the table's -/
theorem lay_rel {s : Nat} {e m w a li sh does much who ag life shield : Nat → Int32} (hT : RT s e m w a li sh does much who ag life shield) {tw td : Nat → Int32} {tm : Nat → Int64} {ta : Nat → Int32} {tl ts : Nat → Int64} (h1 : ∀ i, i < s → tw i = who i ∧ td i = does i ∧ tm i = (much i).toInt64 ∧ ta i = ag i) (h2 : ∀ p, p < 6 → tl p = (life p).toInt64 ∧ ts p = (shield p).toInt64) :
    okM s td tm tw ta ∧ okV tl ts ∧ (∀ i, i < s → gM td tm tw ta i = gC e m w a i) ∧ ∀ p, p < 6 → lL tl p = lF li p ∧ lL ts p = lF sh p := by
  obtain ⟨hS, hh, hTs, hTl⟩ := hT
  refine ⟨⟨hS.1, fun i hi => ?_⟩, fun p hp => ?_, fun i hi => ?_, fun p hp => ?_⟩
  · obtain ⟨a1, a2, a3, a4⟩ := h1 i hi
    obtain ⟨b1, b2, b3, b4⟩ := hTs i hi
    obtain ⟨c1, c2, c3, c4⟩ := hS.2 i hi
    rw [a1, a2, a3, a4, b1, b2, b3, b4, l64]
    have := fb_rng (m i)
    exact ⟨c1, ⟨c2, by omega⟩, c3, c4⟩
  · obtain ⟨a1, a2⟩ := h2 p hp
    rw [a1, a2, l64, l64, (hTl p hp).1, (hTl p hp).2]
    have := fb_rng (li p)
    have := fb_rng (sh p)
    have := hh p hp
    refine ⟨⟨by omega, by omega⟩, by omega, by omega⟩
  · obtain ⟨a1, a2, a3, a4⟩ := h1 i hi
    obtain ⟨b1, b2, b3, b4⟩ := hTs i hi
    unfold gM gC
    rw [a1, a2, a3, a4, b1, b2, b3, b4, l64]
  · obtain ⟨a1, a2⟩ := h2 p hp
    unfold lL lF
    rw [a1, a2, l64, l64, (hTl p hp).1, (hTl p hp).2]
    exact ⟨rfl, rfl⟩
theorem nI_back {x y : Int32} (hx : ∃ k, k < 6 ∧ x = nI k) (hy : ∃ k, k < 6 ∧ y = nI k) (h : x.toNatClampNeg = y.toNatClampNeg) : x = y := by
  obtain ⟨k, hk, rfl⟩ := hx
  obtain ⟨j, hj, rfl⟩ := hy
  rw [clN (by omega), clN (by omega)] at h
  rw [h]
theorem m_top {s c : Nat} {e m w a li sh does much who ag life shield D : Nat → Int32} (hT : RT s e m w a li sh does much who ag life shield) (hH : HS D c (stk (gC e m w a) s, lF li, lF sh)) (hc : c < 512) (thrown high : Int32) (tw td : Nat → Int32) (tm : Nat → Int64) (ta : Nat → Int32) (tl ts : Nat → Int64) :
    (∃ s' li' sh' e' m' w' a' D' high' life' shield' who' does' much' ag' x, fX8_top (nI s) li sh e m w a (nI c) D = some (.inl (nI s', nI s', li', sh', e', m', w', a', nI (c + 1), D')) ∧ fX9_top thrown (nI s) high life shield who does much ag tw td tm ta tl ts = some (nI s', 0, nI s', high', life', shield', who', does', much', ag', x) ∧ RT s' e' m' w' a' li' sh' does' much' who' ag' life' shield' ∧ HS D' (c + 1) (stk (gC e' m' w' a') s', lF li', lF sh')) ∨
    (fX8_top (nI s) li sh e m w a (nI c) D = some (.inr ("java/lang/IllegalStateException", (nI s, li, sh, e, m, w, a, nI c, D))) ∧ ∃ b high' x, fX9_top thrown (nI s) high life shield who does much ag tw td tm ta tl ts = some (b, 1, nI s, high', life, shield, who, does, much, ag, x)) := by
  obtain ⟨tw1, td1, tm1, ta1, tl1, ts1, y1, y2, y3⟩ := r_lay0 life shield who does much ag hT.1.1 high tw td tm ta tl ts
  obtain ⟨z1, z2, z3, z4⟩ := lay_rel hT y2 y3
  unfold fX8_top fX9_top fX9_top_b20 fX9_top_b25
  rw [y1, ob_some]
  dsimp only
  rcases s with _ | s
  · right
    rw [if_pos (show nI 0 = 0 from rfl), if_pos (show nI 0 = 0 from rfl), goesWell_1, ob_some]
    exact ⟨rfl, _, _, _, rfl⟩
  · have h6 := hT.1.1
    have hS := hT.1
    have h0 : ¬ nI (s + 1) = 0 := neqI (b := 0) (by omega) (by omega) (by omega)
    rw [if_neg h0, if_neg h0]
    have eg : gM td1 tm1 tw1 ta1 s = gC e m w a s := z3 s (by omega)
    have es : stk (gM td1 tm1 tw1 ta1) s = stk (gC e m w a) s := stk_congr fun i hi => z3 i (by omega)
    have ho : (gC e m w a s).2.2.2 < 6 := gC_ag hS _ (by rw [stk]; exact List.mem_cons_self)
    rcases c_doTop (li := li) hS hT.2.1 with ⟨n1, n2⟩ | ⟨s', li', sh', e', m', w', a', hs1, hs2, hs3, hs4, hs5⟩
    · right
      rcases t_tryTop z1 z2 with ⟨-, h', w2, d2, m2, a2, l2, g2, k2⟩ | ⟨s2, w2, d2, m2, a2, l2, g2, -, -, -, k1, -⟩
      · rw [n2, ob_some, k2, ob_some]
        dsimp only
        rw [if_pos rfl, if_pos rfl, goesWell_1, ob_some]
        exact ⟨rfl, _, _, _, rfl⟩
      · rw [eg, es] at k1
        obtain ⟨t, q1, -⟩ := aDo_ag ho z4 k1
        rw [n1] at q1
        cases q1
    · left
      rcases t_tryTop z1 z2 with ⟨n1, -⟩ | ⟨s2, w2, d2, m2, a2, l2, g2, k0, k3, k4, k1, k2⟩
      · obtain ⟨t, q1, -⟩ := aDo_ag ho (fun p hp => ⟨(z4 p hp).1.symm, (z4 p hp).2.symm⟩) hs4
        rw [eg, es] at n1
        rw [n1] at q1
        cases q1
      · rw [eg, es] at k1
        obtain ⟨t, q1, q2⟩ := aDo_ag ho z4 k1
        rw [hs4] at q1
        cases q1
        have qs : stk (gM d2 m2 w2 a2) s2 = stk (gC e' m' w' a') s' := q2.1
        have ql := q2.2
        dsimp only at ql
        have hls : s2 = s' := by
          have := congrArg List.length qs
          rw [stk_len, stk_len] at this
          exact this
        subst hls
        have qi := stk_inj qs
        obtain ⟨who', does', much', ag', r1, r2⟩ := top_copy (h := s2) (by omega) 0 (nI s2) life shield w2 d2 m2 a2 l2 g2 s2 0 70 who does much ag (by omega) (by omega)
        obtain ⟨life', shield', r3, r4⟩ := top_copyL 0 (nI s2) (nI s2) who' does' much' ag' w2 d2 m2 a2 l2 g2 6 0 70 life shield (by omega) (by omega)
        refine ⟨s2, li', sh', e', m', w', a', upd D c (-1), nI s2, life', shield', who', does', much', ag', (w2, d2, m2, a2, l2, g2), ?_, ?_, ⟨hs2, hs3, fun i hi => ?_, fun p hp => ?_⟩, ?_⟩
        · unfold fX1_addDoing
          rw [hs5, ob_some]
          dsimp only
          rw [if_neg one0, add_ok hc, ob_some]
          rfl
        · rw [k2, ob_some]
          dsimp only
          rw [if_neg one0, goesWell_0, ob_some]
          dsimp only
          rw [if_neg one0]
          exact r1.trans r3
        · obtain ⟨u1, u2, u3, u4⟩ := (r2 i hi).2 (by omega)
          obtain ⟨v1, v2, v3, v4⟩ := k3.2 i hi
          obtain ⟨x1, x2, x3, x4⟩ := hs2.2 i hi
          have hq := qi i hi
          unfold gM gC at hq
          injection hq with h1 hq
          injection hq with h2 hq
          injection hq with h3 h4
          rw [u1, u2, u3, u4]
          refine ⟨nI_back v1 x1 h1, ?_, nI_back v3 x3 h3, nI_back v4 x4 h4⟩
          rw [i32eq, l32 ⟨by omega, by omega⟩]
          exact h2
        · obtain ⟨u1, u2⟩ := (r4 p hp).2 (by omega)
          obtain ⟨v1, v2, v3⟩ := k4 p hp
          obtain ⟨x1, x2⟩ := ql p hp
          rw [u1, u2]
          refine ⟨?_, ?_⟩
          · rw [i32eq, l32 v1]
            exact x1
          · rw [i32eq, l32 ⟨by omega, by omega⟩]
            exact x2
        · exact ⟨_, HS_cong (fun i hi => by rw [upd_n (by omega)]) hH, fun y hy => gC_ag hS y hy, Or.inl ⟨upd_s _ _ _, _, _, _, rfl, hs4, AgS.refl _⟩⟩
