/-! MATH 19: the calls ring and swap -/
theorem m_ring {n : Nat} {gives wants mgives mwants : Nat → Int32} {cards : Nat → Nat → Int32} {has : Nat → Int32} (hn : n ≤ 20) (hW : RW n gives wants mgives mwants) (hC : RC n cards has) (gv : Int32) (row : Nat → Int32) (thrown rs : Int32) (ring : Nat → Int32) (p1 : Int32) :
    (∃ r x rs' ring', fX8_ring cards gv gives wants row p1 = some (.inl (r, x)) ∧ fX9_ring thrown rs has mgives mwants ring p1 = some (r, 0, rs', ring')) ∨
    (fX8_ring cards gv gives wants row p1 = some (.inr ("java/lang/IndexOutOfBoundsException", (gv, row))) ∧ ∃ b rs' ring', fX9_ring thrown rs has mgives mwants ring p1 = some (b, 1, rs', ring')) := by
  unfold fX8_ring fX9_ring fX9_ring_b15 fX9_ring_b45 fX8_ring_b10 fX8_ring_b53
  rcases in_n p1 6 (by omega) with ⟨P, hP, rfl⟩ | ⟨hP, -⟩
  · left
    obtain ⟨M, gv', row', q1, q2⟩ := c_best hn hW (cards := cards) gv row
    obtain ⟨M', ring', q3, q4⟩ := r_best hn hW hC rs ring
    obtain ⟨rfl, he⟩ := BST_uni q2 q4
    have hM : M ≤ 6 := by
      rcases q2 with ⟨h, -⟩ | ⟨-, h, -⟩ <;> omega
    rw [if_neg (nI_pos (by omega)), if_pos (show nI P < 6 from nlt (b := 6) hP (by omega)), q1, ob_some, in_eq, if_pos ⟨nI_pos' (by omega), show nI P ≤ 5 from nle (b := 5) (by omega) (by omega)⟩, ob_some, if_neg one0, goesWell_0, ob_some]
    dsimp only
    rw [if_neg one0, q3, ob_some]
    dsimp only
    rw [g_nI hP (by omega), ck_true, ck_true, clN (by omega)]
    by_cases c : M ≤ P
    · rw [if_pos (nle c (by omega)), if_pos (nle c (by omega))]
      exact ⟨_, _, _, _, rfl, rfl⟩
    · rw [if_neg (nnle (by omega) (by omega)), if_neg (nnle (by omega) (by omega)), he P (by omega)]
      exact ⟨_, _, _, _, rfl, rfl⟩
  · right
    refine ⟨?_, ?_⟩
    · by_cases c : p1 < 0
      · rw [if_pos c]
      · rw [if_neg c, if_neg (fun q : p1 < 6 => by
          rcases hP with h | h
          · exact c h
          · exact (ltirr (Int32.lt_of_lt_of_le q h)).elim)]
    · rw [in_eq, if_neg (fun q => by
        rcases hP with h | h
        · exact (ltirr (Int32.lt_of_lt_of_le h q.1)).elim
        · exact absurd (Int32.le_trans h q.2) (by decide)), ob_some, if_pos rfl, goesWell_1, ob_some]
      exact ⟨_, _, _, rfl⟩
theorem mod_nx {m i : Nat} (hi : i < m) : (i + 1) % m = if i + 1 < m then i + 1 else 0 := by
  by_cases h : i + 1 < m
  · rw [if_pos h, Nat.mod_eq_of_lt h]
  · rw [if_neg h, show i + 1 = m by omega, Nat.mod_self]
/-- the class fulfils a ring -/
theorem fulfil_loop {n m : Nat} {gives wants mgives mwants : Nat → Int32} {cards : Nat → Nat → Int32} (hn : n ≤ 20) (hW : RW n gives wants mgives mwants) {R : Nat → Nat} {row : Nat → Int32} (hm : m ≤ 6) (hrow : ∀ i, i < m → row i = nI (R i)) (hR : rgR gives wants cards m R) : ∀ (r j f : Nat) (g w : Nat → Int32) (cd : Nat → Nat → Int32), j + r = m → r < f →
    (∀ p, p < 6 → ((∃ i, i < j ∧ R i = p) → g p = -1 ∧ w p = -1 ∧ ∀ k k', gives p = nI k → wants p = nI k' → k < 20 → k' < 20 → ∀ x, x < 20 → cd p x = if x = k then cards p x - 1 else if x = k' then cards p x + 1 else cards p x) ∧ ((∀ i, i < j → R i ≠ p) → g p = gives p ∧ w p = wants p ∧ ∀ x, x < 20 → cd p x = cards p x)) →
    ∃ (g' w' : Nat → Int32) (cd' : Nat → Nat → Int32), fX7_fulfil_b2 row f g w cd (nI m) (nI j) = some (g', w', cd') ∧ (∀ p, p < 6 → ((∃ i, i < m ∧ R i = p) → g' p = -1 ∧ w' p = -1 ∧ ∀ k k', gives p = nI k → wants p = nI k' → k < 20 → k' < 20 → ∀ x, x < 20 → cd' p x = if x = k then cards p x - 1 else if x = k' then cards p x + 1 else cards p x) ∧ ((∀ i, i < m → R i ≠ p) → g' p = gives p ∧ w' p = wants p ∧ ∀ x, x < 20 → cd' p x = cards p x)) := by
  intro r
  induction r with
  | zero =>
    intro j f g w cd h1 h2 h3
    rcases f with _ | f
    · omega
    have : j = m := by omega
    subst this
    refine ⟨g, w, cd, ?_, h3⟩
    rw [fX7_fulfil_b2, if_pos (nle (Nat.le_refl _) (by omega))]
  | succ r ih =>
    intro j f g w cd h1 h2 h3
    rcases f with _ | f
    · omega
    have hj6 := (hR.1.1 j (by omega)).1
    obtain ⟨k0, hk0, ek0, -⟩ := (hR.1.1 j (by omega)).2
    have hfree : ∀ i, i < j → R i ≠ R j := fun i hi => hR.1.2.2.1 i j hi (by omega)
    obtain ⟨a1, a2, a3⟩ := (h3 (R j) hj6).2 hfree
    rcases (hW (R j) hj6).2 with ⟨e, -⟩ | ⟨k, k', hk, hk', hkk, ek, ek', -⟩
    · rw [e] at ek0
      exact absurd (ek0 ▸ nI_pos' (show k0 < 2 ^ 31 by omega)) (by decide)
    · rw [fX7_fulfil_b2, if_neg (nnle (by omega) (by omega)), g_nI (show j < 6 by omega) (by omega), ck_true, nm_eq, clN (by omega), hrow j (by omega), g_nI hj6 (by omega), ck_true, ck_true, clN (by omega), a1, a2, ek, ek', g_nI (show k < 20 by omega) (by omega), ck_true, nm_eq, ck_true, ck_true, ck_true, g_nI (show k' < 20 by omega) (by omega), ck_true, nm_eq, ck_true, clN (by omega), clN (by omega)]
      unfold fX7_tell
      rw [g_nI hj6 (by omega), ck_true, ck_true, ob_some]
      dsimp only
      rw [nm_eq, nI_1, clN (by omega)]
      refine ih (j + 1) f _ _ _ (by omega) (by omega) fun p hp => ⟨fun hin => ?_, fun hout => ?_⟩
      · by_cases z : p = R j
        · subst z
          refine ⟨upd_s _ _ _, upd_s _ _ _, fun c c' ec ec' hc hc' x hx => ?_⟩
          have u1 : c = k := (nI_eq (by omega) (by omega)).mp (ec.symm.trans ek)
          have u2 : c' = k' := (nI_eq (by omega) (by omega)).mp (ec'.symm.trans ek')
          subst u1
          subst u2
          rw [gup_val, gup_val, gup_val]
          by_cases y1 : x = c
          · subst y1
            rw [if_neg (fun q => hkk q.2), if_pos ⟨rfl, rfl⟩, if_pos rfl, a3 x hx]
          · by_cases y2 : x = c'
            · subst y2
              rw [if_pos ⟨rfl, rfl⟩, if_neg (fun q => y1 q.2), if_neg y1, if_pos rfl, a3 x hx]
            · rw [if_neg (fun q => y2 q.2), if_neg (fun q => y1 q.2), if_neg y1, if_neg y2, a3 x hx]
        · have hin' : ∃ i, i < j ∧ R i = p := by
            obtain ⟨i, hi, e⟩ := hin
            have : i ≠ j := fun q => z (by rw [← e, q])
            exact ⟨i, by omega, e⟩
          obtain ⟨b1, b2, b3⟩ := (h3 p hp).1 hin'
          refine ⟨by rw [upd_n z]; exact b1, by rw [upd_n z]; exact b2, fun c c' ec ec' hc hc' x hx => ?_⟩
          rw [gup_val, if_neg (fun q => z q.1), gup_val, if_neg (fun q => z q.1)]
          exact b3 c c' ec ec' hc hc' x hx
      · have z : p ≠ R j := fun q => hout j (by omega) q.symm
        obtain ⟨b1, b2, b3⟩ := (h3 p hp).2 fun i hi => hout i (by omega)
        refine ⟨by rw [upd_n z]; exact b1, by rw [upd_n z]; exact b2, fun x hx => ?_⟩
        rw [gup_val, if_neg (fun q => z q.1), gup_val, if_neg (fun q => z q.1)]
        exact b3 x hx
/-- the reference's collections along a ring -/
theorem swapH_loop {n m : Nat} {gives wants mgives mwants : Nat → Int32} {cards : Nat → Nat → Int32} {has : Nat → Int32} (hn : n ≤ 20) (hW : RW n gives wants mgives mwants) {R : Nat → Nat} {ring : Nat → Int32} (hm2 : 2 ≤ m) (hm : m ≤ 6) (hrow : ∀ i, i < m → ring i = nI (R i)) (hR : rgR gives wants cards m R) (th : Int32) : ∀ (r j f : Nat) (hs : Nat → Int32), j + r = m → r < f →
    (∀ p x, p < 6 → x < 20 → ((∃ i, i < j ∧ R i = p ∧ gives p = nI x) → hs (20 * p + x) = has (20 * p + x) - 1) ∧ ((∃ i, i < j ∧ R ((i + 1) % m) = p ∧ wants p = nI x) → hs (20 * p + x) = has (20 * p + x) + 1) ∧ ((∀ i, i < j → ¬ (R i = p ∧ gives p = nI x)) → (∀ i, i < j → ¬ (R ((i + 1) % m) = p ∧ wants p = nI x)) → hs (20 * p + x) = has (20 * p + x))) →
    ∃ hs' : Nat → Int32, fX9_swap_b11 mwants f th (nI m) hs mgives ring (nI j) = fX9_swap_b86 mwants 70 th (nI m) hs' mgives ring 0 ∧
      (∀ p x, p < 6 → x < 20 → ((∃ i, i < m ∧ R i = p ∧ gives p = nI x) → hs' (20 * p + x) = has (20 * p + x) - 1) ∧ ((∃ i, i < m ∧ R ((i + 1) % m) = p ∧ wants p = nI x) → hs' (20 * p + x) = has (20 * p + x) + 1) ∧ ((∀ i, i < m → ¬ (R i = p ∧ gives p = nI x)) → (∀ i, i < m → ¬ (R ((i + 1) % m) = p ∧ wants p = nI x)) → hs' (20 * p + x) = has (20 * p + x))) := by
  have h6 : ∀ i, i < m → R i < 6 := fun i hi => (hR.1.1 i hi).1
  have hinj : ∀ i k, i < m → k < m → R i = R k → i = k := fun i k hi hk e => by
    rcases Nat.lt_trichotomy i k with q | q | q
    · exact absurd e (hR.1.2.2.1 i k q hk)
    · exact q
    · exact absurd e.symm (hR.1.2.2.1 k i q hi)
  have hlink : ∀ i, i < m → gives (R i) = wants (R ((i + 1) % m)) := fun i hi => by
    rw [mod_nx hi]
    by_cases z : i + 1 < m
    · rw [if_pos z]
      exact hR.1.2.2.2 i z
    · rw [if_neg z, show i = m - 1 by omega]
      exact hR.2
  have hne : ∀ p x, p < 6 → gives p = nI x → wants p = nI x → x < 20 → False := fun p x hp e1 e2 hx => by
    rcases (hW p hp).2 with ⟨e, -⟩ | ⟨k, k', hk, hk', hkk, ek, ek', -⟩
    · rw [e] at e1
      exact absurd (e1 ▸ nI_pos' (show x < 2 ^ 31 by omega)) (by decide)
    · rw [e1] at ek
      rw [e2] at ek'
      have u1 := (nI_eq (by omega) (by omega)).mp ek
      have u2 := (nI_eq (by omega) (by omega)).mp ek'
      omega
  intro r
  induction r with
  | zero =>
    intro j f hs h1 h2 h3
    rcases f with _ | f
    · omega
    have : j = m := by omega
    subst this
    refine ⟨hs, ?_, h3⟩
    rw [fX9_swap_b11, if_pos (nle (Nat.le_refl _) (by omega))]
  | succ r ih =>
    intro j f hs h1 h2 h3
    rcases f with _ | f
    · omega
    have hj6 := h6 j (by omega)
    have hn' : (j + 1) % m < m := Nat.mod_lt _ (by omega)
    have hn6 := h6 _ hn'
    have nzm : nz (nI m) = true := by
      have := neqI (a := m) (b := 0) (by omega) (by omega) (by omega)
      unfold nz
      simp only [show nI 0 = 0 from rfl] at this
      simp [this]
    obtain ⟨k, hk, ek, -⟩ := (hR.1.1 j (by omega)).2
    have emk : mgives (R j) = nI k := by rw [← (hW _ hj6).1]; exact ek
    have ewy : wants (R ((j + 1) % m)) = nI k := (hlink j (by omega)).symm.trans ek
    have hxy : R j ≠ R ((j + 1) % m) := fun e => hne _ k hj6 ek (e ▸ ewy) hk
    have c1 : hs (20 * R j + k) = has (20 * R j + k) := (h3 (R j) k hj6 hk).2.2 (fun i hi q => by
      have := hinj i j (by omega) (by omega) q.1
      omega) (fun i hi q => hne _ k hj6 ek q.2 hk)
    have c2 : hs (20 * R ((j + 1) % m) + k) = has (20 * R ((j + 1) % m) + k) := (h3 _ k hn6 hk).2.2 (fun i hi q => hne _ k hn6 q.2 ewy hk) (fun i hi q => by
      have e := hinj _ _ (Nat.mod_lt _ (by omega)) hn' q.1
      rw [mod_nx (show i < m by omega), mod_nx (show j < m by omega)] at e
      split at e <;> split at e <;> omega)
    obtain ⟨hs', q1, q2⟩ := ih (j + 1) f (upd (upd hs (20 * R j + k) (has (20 * R j + k) - 1)) (20 * R ((j + 1) % m) + k) (has (20 * R ((j + 1) % m) + k) + 1)) (by omega) (by omega) (fun p x hp hx => by
      by_cases z1 : p = R j ∧ x = k
      · obtain ⟨rfl, rfl⟩ := z1
        rw [upd_n (by omega), upd_s]
        refine ⟨fun _ => rfl, fun ⟨i, hi, u1, u2⟩ => (hne _ x hj6 ek u2 hk).elim, fun u1 => absurd ⟨rfl, ek⟩ (u1 j (by omega))⟩
      · by_cases z2 : p = R ((j + 1) % m) ∧ x = k
        · obtain ⟨rfl, rfl⟩ := z2
          rw [upd_s]
          refine ⟨fun ⟨i, hi, u1, u2⟩ => (hne _ x hn6 u2 ewy hk).elim, fun _ => rfl, fun _ u1 => absurd ⟨rfl, ewy⟩ (u1 j (by omega))⟩
        · have ne1 : 20 * p + x ≠ 20 * R j + k := fun q => z1 ⟨by omega, by omega⟩
          have ne2 : 20 * p + x ≠ 20 * R ((j + 1) % m) + k := fun q => z2 ⟨by omega, by omega⟩
          rw [upd_n ne2, upd_n ne1]
          obtain ⟨b1, b2, b3⟩ := h3 p x hp hx
          refine ⟨fun ⟨i, hi, u1, u2⟩ => ?_, fun ⟨i, hi, u1, u2⟩ => ?_, fun u1 u2 => b3 (fun i hi => u1 i (by omega)) fun i hi => u2 i (by omega)⟩
          · by_cases y : i = j
            · subst y
              have := (nI_eq (by omega) (by omega)).mp (u2.symm.trans (u1 ▸ ek))
              exact absurd ⟨u1.symm, this⟩ z1
            · exact b1 ⟨i, by omega, u1, u2⟩
          · by_cases y : i = j
            · subst y
              have := (nI_eq (by omega) (by omega)).mp (u2.symm.trans (u1 ▸ ewy))
              exact absurd ⟨u1.symm, this⟩ z2
            · exact b2 ⟨i, by omega, u1, u2⟩)
    refine ⟨hs', ?_, q2⟩
    rw [fX9_swap_b11, if_neg (nnle (by omega) (by omega)), g_nI (show j < 6 by omega) (by omega), ck_true, nm_eq, clN (by omega), hrow j (by omega), g_nI hj6 (by omega), ck_true, clN (by omega), emk, ix20 hj6 hk, g_nI (show 20 * R j + k < 120 by omega) (by omega), ck_true, nm_eq, ck_true, nzm, ck_true, nI_1, pk_rem (by omega) (by omega) (by omega), g_nI (show (j + 1) % m < 6 by omega) (by omega), ck_true, ck_true, clN (by omega), clN (by omega), hrow _ hn', ix20 hn6 hk, g_nI (show 20 * R ((j + 1) % m) + k < 120 by omega) (by omega), ck_true, nm_eq, ck_true, nm_eq, clN (by omega), c1, upd_n (by omega), c2]
    exact q1
theorem swapG_loop {m : Nat} {mwants hs ring : Nat → Int32} {R : Nat → Nat} (hm : m ≤ 6) (hrow : ∀ i, i < m → ring i = nI (R i)) (h6 : ∀ i, i < m → R i < 6) (th : Int32) : ∀ (r j f : Nat) (mg : Nat → Int32), j + r = m → r < f →
    ∃ mg' : Nat → Int32, fX9_swap_b86 mwants f th (nI m) hs mg ring (nI j) = some (nI m, th, nI m, hs, mg', ring) ∧ ∀ p, ((∃ i, j ≤ i ∧ i < m ∧ R i = p) → mg' p = -1) ∧ ((∀ i, j ≤ i → i < m → R i ≠ p) → mg' p = mg p) := by
  intro r
  induction r with
  | zero =>
    intro j f mg h1 h2
    rcases f with _ | f
    · omega
    refine ⟨mg, ?_, fun p => ⟨fun ⟨i, u1, u2, _⟩ => by omega, fun _ => rfl⟩⟩
    rw [fX9_swap_b86, if_pos (nle (by omega) (by omega))]
  | succ r ih =>
    intro j f mg h1 h2
    rcases f with _ | f
    · omega
    obtain ⟨mg', q1, q2⟩ := ih (j + 1) f (upd mg (R j) (-1)) (by omega) (by omega)
    have hj6 := h6 j (by omega)
    refine ⟨mg', ?_, fun p => ⟨fun ⟨i, u1, u2, u3⟩ => ?_, fun u => ?_⟩⟩
    · rw [fX9_swap_b86, if_neg (nnle (by omega) (by omega)), g_nI (show j < 6 by omega) (by omega), ck_true, clN (by omega), hrow j (by omega), g_nI hj6 (by omega), ck_true, nm_eq, nI_1, clN (by omega)]
      exact q1
    · by_cases z : ∃ i, j + 1 ≤ i ∧ i < m ∧ R i = p
      · exact (q2 p).1 z
      · have hno : ∀ i, j + 1 ≤ i → i < m → R i ≠ p := fun i v1 v2 v3 => z ⟨i, v1, v2, v3⟩
        rw [(q2 p).2 hno]
        have : i = j := by
          apply Classical.byContradiction
          intro y
          exact hno i (by omega) u2 u3
        rw [← u3, this, upd_s]
    · rw [(q2 p).2 (fun i v1 v2 => u i (by omega) v2), upd_n (fun z => u j (Nat.le_refl _) (by omega) z.symm)]
theorem m_swap {n : Nat} {gives wants mgives mwants : Nat → Int32} {cards : Nat → Nat → Int32} {has : Nat → Int32} (hn : n ≤ 20) (hW : RW n gives wants mgives mwants) (hC : RC n cards has) (gv : Int32) (row : Nat → Int32) (thrown rs : Int32) (ring : Nat → Int32) :
    ∃ (r : Int32) (cards' : Nat → Nat → Int32) (gv' : Int32) (gives' wants' row' : Nat → Int32) (rs' : Int32) (has' mgives' ring' : Nat → Int32), fX8_swap cards gv gives wants row = some (r, cards', gv', gives', wants', row') ∧ fX9_swap thrown rs has mgives mwants ring = some (r, 0, rs', has', mgives', ring') ∧ RW n gives' wants' mgives' mwants ∧ RC n cards' has' := by
  obtain ⟨M, gv', row', q1, q2⟩ := c_best hn hW (cards := cards) gv row
  obtain ⟨M', ring', q3, q4⟩ := r_best hn hW hC rs ring
  obtain ⟨rfl, he⟩ := BST_uni q2 q4
  unfold fX8_swap fX9_swap fX7_fulfil
  rw [q1, ob_some, q3, ob_some]
  dsimp only
  rcases q2 with ⟨rfl, -⟩ | ⟨hm2, hm, -, R, hrow, hR, -⟩
  · refine ⟨nI 0, cards, gv', gives, wants, row', nI 0, has, mgives, ring', ?_, ?_, hW, hC⟩
    · rw [fX7_fulfil_b2, if_pos (show nI 0 ≤ 0 by decide), ob_some]
    · rw [fX9_swap_b11, if_pos (show nI 0 ≤ 0 by decide), fX9_swap_b86, if_pos (show nI 0 ≤ 0 by decide)]
  · have h6 : ∀ i, i < M → R i < 6 := fun i hi => (hR.1.1 i hi).1
    have hrow' : ∀ i, i < M → ring' i = nI (R i) := fun i hi => by rw [← he i hi]; exact hrow i hi
    obtain ⟨g', w', cd', a1, a2⟩ := fulfil_loop hn hW hm hrow hR M 0 70 gives wants cards (by omega) (by omega) (fun p hp => ⟨fun ⟨i, hi, _⟩ => absurd hi (Nat.not_lt_zero _), fun _ => ⟨rfl, rfl, fun _ _ => rfl⟩⟩)
    obtain ⟨hs', b1, b2⟩ := swapH_loop (has := has) hn hW hm2 hm hrow' hR 0 M 0 70 has (by omega) (by omega) (fun p x hp hx => ⟨fun ⟨i, hi, _⟩ => absurd hi (Nat.not_lt_zero _), fun ⟨i, hi, _⟩ => absurd hi (Nat.not_lt_zero _), fun _ _ => rfl⟩)
    obtain ⟨mg', d1, d2⟩ := swapG_loop (mwants := mwants) (hs := hs') hm hrow' h6 0 M 0 70 mgives (by omega) (by omega)
    refine ⟨nI M, cd', gv', g', w', row', nI M, hs', mg', ring', ?_, ?_, fun p hp => ?_, fun p x hp hx => ?_⟩
    · have a1' : fX7_fulfil_b2 row' 70 gives wants cards (nI M) 0 = _ := a1
      rw [a1', ob_some]
    · exact b1.trans d1
    · by_cases z : ∃ i, i < M ∧ R i = p
      · obtain ⟨u1, u2, -⟩ := (a2 p hp).1 z
        obtain ⟨i, hi, e⟩ := z
        have u3 := (d2 p).1 ⟨i, Nat.zero_le _, hi, e⟩
        rw [u1, u2, u3]
        exact ⟨rfl, Or.inl ⟨rfl, rfl⟩⟩
      · have hno : ∀ i, i < M → R i ≠ p := fun i v1 v2 => z ⟨i, v1, v2⟩
        obtain ⟨u1, u2, -⟩ := (a2 p hp).2 hno
        have u3 := (d2 p).2 fun i _ hi => hno i hi
        rw [u1, u2, u3]
        exact hW p hp
    · obtain ⟨e1, e2, e3⟩ := b2 p x hp hx
      obtain ⟨c1, c2⟩ := hC p x hp hx
      by_cases z : ∃ i, i < M ∧ R i = p
      · obtain ⟨-, -, u3⟩ := (a2 p hp).1 z
        obtain ⟨i, hi, e⟩ := z
        obtain ⟨k0, hk0, ek0, -⟩ := (hR.1.1 i hi).2
        rw [e] at ek0
        rcases (hW p hp).2 with ⟨e', -⟩ | ⟨k, k', hk, hk', hkk, ek, ek', -⟩
        · rw [e'] at ek0
          exact absurd (ek0 ▸ nI_pos' (show k0 < 2 ^ 31 by omega)) (by decide)
        · have u := u3 k k' ek ek' (by omega) (by omega) x hx
          have hnx : ∃ i', i' < M ∧ R ((i' + 1) % M) = p := by
            by_cases y : i = 0
            · refine ⟨M - 1, by omega, ?_⟩
              rw [show M - 1 + 1 = M by omega, Nat.mod_self, ← y]
              exact e
            · refine ⟨i - 1, by omega, ?_⟩
              rw [show i - 1 + 1 = i by omega, Nat.mod_eq_of_lt hi]
              exact e
          obtain ⟨i', hi', ei'⟩ := hnx
          by_cases y1 : x = k
          · subst y1
            rw [u, if_pos rfl, e1 ⟨i, hi, e, ek⟩, c1]
            exact ⟨rfl, fun q => by omega⟩
          · by_cases y2 : x = k'
            · subst y2
              rw [u, if_neg y1, if_pos rfl, e2 ⟨i', hi', ei', ek'⟩, c1]
              exact ⟨rfl, fun q => by omega⟩
            · rw [u, if_neg y1, if_neg y2, e3 (fun j hj q => y1 ((nI_eq (by omega) (by omega)).mp (q.2.symm.trans ek))) (fun j hj q => y2 ((nI_eq (by omega) (by omega)).mp (q.2.symm.trans ek')))]
              exact ⟨c1, c2⟩
      · have hno : ∀ i, i < M → R i ≠ p := fun i v1 v2 => z ⟨i, v1, v2⟩
        obtain ⟨-, -, u3⟩ := (a2 p hp).2 hno
        rw [u3 x hx, e3 (fun j hj q => hno j hj q.1) (fun j hj q => hno _ (Nat.mod_lt _ (by omega)) q.1)]
        exact ⟨c1, c2⟩
