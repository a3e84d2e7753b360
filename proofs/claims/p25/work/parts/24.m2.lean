/-! MATH 2: pass, kind, wish, result -/
theorem le_n {p : Int32} {a b : Nat} (hb : b < 2147483647) (h1 : nI a ≤ p) (h2 : p ≤ nI b) (ha : a < 2147483648) : ∃ j, a ≤ j ∧ j ≤ b ∧ p = nI j := by
  rcases in_n p (b + 1) (by omega) with ⟨j, hj, rfl⟩ | ⟨h | h, -⟩
  · refine ⟨j, ?_, by omega, rfl⟩
    rcases Nat.lt_or_ge j a with q | q
    · exact absurd h1 (nnle q ha)
    · exact q
  · exact (ltirr (Int32.lt_of_le_of_lt (Int32.le_trans (nI_pos' ha) h1) h)).elim
  · exact absurd (Int32.le_trans h h2) (nnle (by omega) (by omega))
theorem m_pass {d : Nat} (hd : d ≤ 1000) (thrown p1 : Int32) :
    (∃ d', d ≤ d' ∧ d' ≤ 1000 ∧ fX8_pass (nI d) p1 = some (.inl (nI d', nI d')) ∧ fX9_pass thrown (nI d) p1 = some (nI d', 0, nI d')) ∨
    (fX8_pass (nI d) p1 = some (.inr ("java/lang/IllegalArgumentException", nI d)) ∧ ∃ b, fX9_pass thrown (nI d) p1 = some (b, 1, nI d)) ∨
    (fX8_pass (nI d) p1 = some (.inr ("java/lang/IllegalStateException", nI d)) ∧ ∃ b, fX9_pass thrown (nI d) p1 = some (b, 2, nI d)) := by
  unfold fX8_pass fX9_pass fX9_pass_b34 fX8_pass_b11
  by_cases h : 1 ≤ p1 ∧ p1 ≤ 100
  · obtain ⟨j, hj1, hj2, rfl⟩ := le_n (p := p1) (a := 1) (b := 100) (by omega) h.1 h.2 (by omega)
    have e : nI d + nI j = nI (d + j) := nI_add d j
    by_cases h2 : d + j ≤ 1000
    · left
      refine ⟨d + j, by omega, h2, ?_, ?_⟩
      · rw [if_neg (Int32.not_lt.mpr h.1), if_pos h.2, e, if_pos (show nI (d + j) ≤ 1000 from nle (b := 1000) h2 (by omega)), nm_eq]
      · rw [in_eq, if_pos h, ob_some, if_neg one0, e, if_pos (show nI (d + j) ≤ 1000 from nle (b := 1000) h2 (by omega)), goesWell_0, ob_some]
        dsimp only
        rw [if_neg one0, nm_eq]
    · right; right
      refine ⟨?_, ?_⟩
      · rw [if_neg (Int32.not_lt.mpr h.1), if_pos h.2, e, if_neg (show ¬ nI (d + j) ≤ 1000 from nnle (b := 1000) (by omega) (by omega))]
      · rw [in_eq, if_pos h, ob_some, if_neg one0, e, if_neg (show ¬ nI (d + j) ≤ 1000 from nnle (b := 1000) (by omega) (by omega)), goesWell_2, ob_some]
        exact ⟨_, rfl⟩
  · right; left
    refine ⟨?_, ?_⟩
    · by_cases h1 : p1 < 1
      · rw [if_pos h1]
      · rw [if_neg h1, if_neg (fun q => h ⟨Int32.not_lt.mp h1, q⟩)]
    · rw [in_eq, if_neg h, ob_some, if_pos rfl, goesWell_1, ob_some]
      exact ⟨_, rfl⟩
theorem upd_s (f : Nat → Int32) (k : Nat) (x : Int32) : upd f k x k = x := by simp [upd]
theorem upd_n {f : Nat → Int32} {k j : Nat} {x : Int32} (h : j ≠ k) : upd f k x j = f j := by simp [upd, h]
theorem m_kind {n d : Nat} {count : Int32} {effects numbers bans : Nat → Int32} {today kinds : Int32} {effect number banned : Nat → Int32} {mtoday : Int32} (hK : RK n d count effects numbers bans today kinds effect number banned mtoday) (thrown p1 p2 : Int32) :
    (∃ count' effects' numbers' bans' kinds' effect' number' banned', fX8_kind count effects numbers bans p1 p2 = some (.inl (nI n, count', effects', numbers', bans')) ∧ fX9_kind thrown kinds effect number banned p1 p2 = some (nI n, 0, kinds', effect', number', banned') ∧ RK (n + 1) d count' effects' numbers' bans' today kinds' effect' number' banned' mtoday) ∨
    (fX8_kind count effects numbers bans p1 p2 = some (.inr ("java/lang/IllegalArgumentException", count, effects, numbers, bans)) ∧ ∃ b, fX9_kind thrown kinds effect number banned p1 p2 = some (b, 1, kinds, effect, number, banned)) ∨
    (fX8_kind count effects numbers bans p1 p2 = some (.inr ("java/lang/IllegalStateException", count, effects, numbers, bans)) ∧ ∃ b, fX9_kind thrown kinds effect number banned p1 p2 = some (b, 2, kinds, effect, number, banned)) := by
  obtain ⟨hn, hd, rfl, rfl, ht, hmt, hk⟩ := hK
  unfold fX8_kind fX9_kind fX9_kind_b23 fX9_kind_b24 fX9_kind_b48 fX8_kind_b9 fX8_kind_b30
  by_cases h1 : 0 ≤ p1 ∧ p1 ≤ 5
  · by_cases h2 : 1 ≤ p2 ∧ p2 ≤ 9
    · obtain ⟨e, -, he2, rfl⟩ := le_n (p := p1) (a := 0) (b := 5) (by omega) h1.1 h1.2 (by omega)
      obtain ⟨m, hm1, hm2, rfl⟩ := le_n (p := p2) (a := 1) (b := 9) (by omega) h2.1 h2.2 (by omega)
      rcases Nat.lt_or_ge n 20 with q | q
      · left
        have e1 : nI n + 1 = nI (n + 1) := nI_1 n
        refine ⟨nI (n + 1), upd effects n (nI e), upd numbers n (nI m), upd bans n 1001, nI (n + 1), upd effect n (nI e), upd number n (nI m), upd banned n (-1), ?_, ?_, ?_⟩
        · rw [if_neg (Int32.not_lt.mpr h1.1), if_pos h1.2, if_neg (Int32.not_lt.mpr h2.1), if_pos h2.2, if_pos (show nI n < 20 from nlt (b := 20) q (by omega))]
          unfold fX2_add
          rw [if_pos (show nI n < 20 from nlt (b := 20) q (by omega)), g_nI q (by omega), ck_true, ck_true, ck_true, nm_eq, e1, nI_pred, ob_some, clN (by omega)]
        · rw [in_eq, if_pos h1, ob_some, if_neg one0, in_eq, if_pos h2, ob_some, if_neg one0, if_neg one0, if_neg (show ¬ nI n = 20 from neqI (b := 20) (by omega) (by omega) (by omega)), goesWell_0, ob_some]
          dsimp only
          rw [if_neg one0, g_nI q (by omega), ck_true, ck_true, ck_true, nm_eq, e1, nI_pred, clN (by omega)]
        · refine ⟨by omega, hd, rfl, rfl, ht, hmt, fun k hk' => ?_⟩
          rcases Nat.lt_or_ge k n with z | z
          · obtain ⟨e', m', q1, q2, q3, q4, q5, q6, q7, q8⟩ := hk k z
            refine ⟨e', m', q1, q2, q3, ?_, ?_, ?_, ?_, ?_⟩
            · rw [upd_n (by omega)]; exact q4
            · rw [upd_n (by omega)]; exact q5
            · rw [upd_n (by omega)]; exact q6
            · rw [upd_n (by omega)]; exact q7
            · rw [upd_n (by omega), upd_n (by omega)]; exact q8
          · have : k = n := by omega
            subst this
            refine ⟨e, m, by omega, by omega, by omega, upd_s _ _ _, upd_s _ _ _, upd_s _ _ _, upd_s _ _ _, Or.inl ⟨upd_s _ _ _, upd_s _ _ _⟩⟩
      · right; right
        have e20 : n = 20 := by omega
        subst e20
        refine ⟨?_, ?_⟩
        · rw [if_neg (Int32.not_lt.mpr h1.1), if_pos h1.2, if_neg (Int32.not_lt.mpr h2.1), if_pos h2.2, if_neg (show ¬ nI 20 < 20 by decide)]
        · rw [in_eq, if_pos h1, ob_some, if_neg one0, in_eq, if_pos h2, ob_some, if_neg one0, if_neg one0, if_pos (show nI 20 = 20 from rfl), goesWell_2, ob_some]
          exact ⟨_, rfl⟩
    · right; left
      refine ⟨?_, ?_⟩
      · rw [if_neg (Int32.not_lt.mpr h1.1), if_pos h1.2]
        by_cases h3 : p2 < 1
        · rw [if_pos h3]
        · rw [if_neg h3, if_neg (fun q => h2 ⟨Int32.not_lt.mp h3, q⟩)]
      · rw [in_eq, if_pos h1, ob_some, if_neg one0, in_eq, if_neg h2, ob_some, if_pos rfl, if_pos rfl, goesWell_1, ob_some]
        exact ⟨_, rfl⟩
  · right; left
    refine ⟨?_, ?_⟩
    · by_cases h3 : p1 < 0
      · rw [if_pos h3]
      · rw [if_neg h3, if_neg (fun q => h1 ⟨Int32.not_lt.mp h3, q⟩)]
    · rw [in_eq, if_neg h1, ob_some, if_pos rfl, if_pos rfl, goesWell_1, ob_some]
      exact ⟨_, rfl⟩
/-- wishes -/
def RW (n : Nat) (gives wants mgives mwants : Nat → Int32) : Prop := ∀ p, p < 6 → gives p = mgives p ∧ ((gives p = -1 ∧ wants p = -1) ∨ ∃ g w, g < n ∧ w < n ∧ g ≠ w ∧ gives p = nI g ∧ wants p = nI w ∧ mwants p = nI w)
theorem m_wish {n d : Nat} {count : Int32} {effects numbers bans : Nat → Int32} {today kinds : Int32} {effect number banned : Nat → Int32} {mtoday : Int32} {gives wants mgives mwants : Nat → Int32} (hK : RK n d count effects numbers bans today kinds effect number banned mtoday) (hW : RW n gives wants mgives mwants) (thrown p1 p2 p3 : Int32) :
    (∃ gives' wants' mgives' mwants', fX8_wish count gives wants p1 p2 p3 = some (.inl ((), gives', wants')) ∧ fX9_wish thrown kinds mgives mwants p1 p2 p3 = some (0, mgives', mwants') ∧ RW n gives' wants' mgives' mwants') ∨
    (fX8_wish count gives wants p1 p2 p3 = some (.inr ("java/lang/IndexOutOfBoundsException", gives, wants)) ∧ fX9_wish thrown kinds mgives mwants p1 p2 p3 = some (1, mgives, mwants)) ∨
    (fX8_wish count gives wants p1 p2 p3 = some (.inr ("java/lang/IllegalArgumentException", gives, wants)) ∧ fX9_wish thrown kinds mgives mwants p1 p2 p3 = some (2, mgives, mwants)) := by
  obtain ⟨hn, hd, rfl, rfl, -, -, -⟩ := hK
  unfold fX8_wish fX9_wish fX9_wish_b27 fX9_wish_b28 fX9_wish_b50 fX9_wish_b70
  rcases in_n p1 6 (by omega) with ⟨a, ha, rfl⟩ | ⟨ha, -⟩
  · rcases in_n p2 n (by omega) with ⟨g, hg, rfl⟩ | ⟨hg, -⟩
    · rcases in_n p3 n (by omega) with ⟨w, hw, rfl⟩ | ⟨hw, -⟩
      · by_cases e : g = w
        · right; right
          subst e
          refine ⟨?_, ?_⟩
          · rw [needPlayer_ok ha, ob_some, xm_inl, needKind_ok hn hg, ob_some, xm_inl, ob_some, xm_inl, if_pos rfl]
          · rw [isPlayer_ok ha, ob_some, if_neg one0, isKind_ok hn hg, ob_some, if_neg one0, ob_some, if_neg one0, if_neg one0, if_pos rfl, goesWell_2, ob_some]
            rfl
        · left
          have e9 : ¬ nI g = nI w := neqI (by omega) (by omega) e
          refine ⟨upd gives a (nI g), upd wants a (nI w), upd mgives a (nI g), upd mwants a (nI w), ?_, ?_, fun p hp => ?_⟩
          · unfold fX7_tell
            rw [needPlayer_ok ha, ob_some, xm_inl, needKind_ok hn hg, ob_some, xm_inl, needKind_ok hn hw, ob_some, xm_inl, if_neg e9, g_nI ha (by omega), ck_true, ck_true, ob_some, clN (by omega)]
          · rw [isPlayer_ok ha, ob_some, if_neg one0, isKind_ok hn hg, ob_some, if_neg one0, isKind_ok hn hw, ob_some, if_neg one0, if_neg one0, if_neg e9, goesWell_0, ob_some]
            dsimp only
            rw [if_neg one0, g_nI ha (by omega), ck_true, ck_true, clN (by omega)]
          · by_cases hpa : p = a
            · subst hpa
              rw [upd_s, upd_s, upd_s, upd_s]
              exact ⟨rfl, Or.inr ⟨g, w, hg, hw, e, rfl, rfl, rfl⟩⟩
            · rw [upd_n hpa, upd_n hpa, upd_n hpa, upd_n hpa]
              exact hW p hp
      · right; left
        refine ⟨?_, ?_⟩
        · rw [needPlayer_ok ha, ob_some, xm_inl, needKind_ok hn hg, ob_some, xm_inl, needKind_bad hw, ob_some, xm_inr]
        · rw [isPlayer_ok ha, ob_some, if_neg one0, isKind_ok hn hg, ob_some, if_neg one0, isKind_bad hn hw, ob_some, if_pos rfl, if_pos rfl, goesWell_1, ob_some]
          rfl
    · right; left
      refine ⟨?_, ?_⟩
      · rw [needPlayer_ok ha, ob_some, xm_inl, needKind_bad hg, ob_some, xm_inr]
      · rw [isPlayer_ok ha, ob_some, if_neg one0, isKind_bad hn hg, ob_some, if_pos rfl, if_pos rfl, goesWell_1, ob_some]
        rfl
  · right; left
    refine ⟨?_, ?_⟩
    · rw [needPlayer_bad ha, ob_some, xm_inr]
    · rw [isPlayer_bad ha, ob_some, if_pos rfl, if_pos rfl, goesWell_1, ob_some]
      rfl
