/-! MATH 17: rings, the class's search -/
def gvr (gives : Nat → Int32) (cards : Nat → Nat → Int32) (p : Nat) : Prop := ∃ k, k < 20 ∧ gives p = nI k ∧ 0 < (cards p k).toInt
def rgP (gives wants : Nat → Int32) (cards : Nat → Nat → Int32) (len : Nat) (R : Nat → Nat) : Prop :=
  (∀ i, i < len → R i < 6 ∧ gvr gives cards (R i)) ∧ (∀ i, 0 < i → i < len → R 0 < R i) ∧ (∀ i j, i < j → j < len → R i ≠ R j) ∧ (∀ i, i + 1 < len → gives (R i) = wants (R (i + 1)))
def rgR (gives wants : Nat → Int32) (cards : Nat → Nat → Int32) (m : Nat) (R : Nat → Nat) : Prop := rgP gives wants cards m R ∧ gives (R (m - 1)) = wants (R 0)
def rgV : Nat → (Nat → Nat) → Nat
  | 0, _ => 0
  | m + 1, R => 6 * rgV m R + R m
def rgU (R : Nat → Nat) (k q : Nat) : Nat → Nat := fun i => if i = k then q else R i
theorem rgU_s (R : Nat → Nat) (k q : Nat) : rgU R k q k = q := if_pos rfl
theorem rgU_n {R : Nat → Nat} {k q i : Nat} (h : i ≠ k) : rgU R k q i = R i := if_neg h
theorem rgV_congr : ∀ {m : Nat} {R R' : Nat → Nat}, (∀ i, i < m → R i = R' i) → rgV m R = rgV m R'
  | 0, _, _, _ => rfl
  | m + 1, R, R', h => by rw [rgV, rgV, h m (Nat.lt_succ_self m), rgV_congr (m := m) fun i hi => h i (by omega)]
theorem rgV_lt : ∀ {m j : Nat} {R R' : Nat → Nat}, j < m → (∀ i, i < j → R i = R' i) → R j < R' j → (∀ i, i < m → R i < 6) → rgV m R < rgV m R'
  | 0, j, _, _, h, _, _, _ => absurd h (Nat.not_lt_zero _)
  | m + 1, j, R, R', h, he, hl, h6 => by
    rw [rgV, rgV]
    by_cases e : j = m
    · subst e
      rw [rgV_congr (m := j) (R := R) (R' := R') he]
      omega
    · have := rgV_lt (m := m) (j := j) (by omega) he hl fun i hi => h6 i (by omega)
      have := h6 m (Nat.lt_succ_self m)
      omega
theorem rgV_inj : ∀ {m : Nat} {R R' : Nat → Nat}, (∀ i, i < m → R i < 6) → (∀ i, i < m → R' i < 6) → rgV m R = rgV m R' → ∀ i, i < m → R i = R' i
  | 0, _, _, _, _, _, i, hi => absurd hi (Nat.not_lt_zero _)
  | m + 1, R, R', h, h', e, i, hi => by
    rw [rgV, rgV] at e
    have a := h m (Nat.lt_succ_self m)
    have b := h' m (Nat.lt_succ_self m)
    by_cases z : i = m
    · rw [z]
      omega
    · exact rgV_inj (m := m) (fun i hi => h i (by omega)) (fun i hi => h' i (by omega)) (by omega) i (by omega)
theorem rgP_congr {gives wants : Nat → Int32} {cards : Nat → Nat → Int32} {len : Nat} {R R' : Nat → Nat} (e : ∀ i, i < len → R i = R' i) (h : rgP gives wants cards len R) : rgP gives wants cards len R' := by
  obtain ⟨h1, h2, h3, h4⟩ := h
  refine ⟨fun i hi => ?_, fun i h0 hi => ?_, fun i j hij hj => ?_, fun i hi => ?_⟩
  · rw [← e i hi]
    exact h1 i hi
  · rw [← e i hi, ← e 0 (by omega)]
    exact h2 i h0 hi
  · rw [← e i (by omega), ← e j hj]
    exact h3 i j hij hj
  · rw [← e i (by omega), ← e (i + 1) hi]
    exact h4 i hi
theorem rgR_congr {gives wants : Nat → Int32} {cards : Nat → Nat → Int32} {m : Nat} {R R' : Nat → Nat} (hm : 0 < m) (e : ∀ i, i < m → R i = R' i) (h : rgR gives wants cards m R) : rgR gives wants cards m R' :=
  ⟨rgP_congr e h.1, by rw [← e (m - 1) (by omega), ← e 0 hm]; exact h.2⟩
def DF (gives wants : Nat → Int32) (cards : Nat → Nat → Int32) (m len : Nat) (R : Nat → Nat) (o : Option (Int32 × (Nat → Int32))) : Prop :=
  ∃ r row', o = some (r, row') ∧ ((r = 0 ∧ (∀ i, i < len → row' i = nI (R i)) ∧ ∀ R', rgR gives wants cards m R' → (∀ i, i < len → R' i = R i) → False) ∨
    (r = 1 ∧ ∃ R' : Nat → Nat, (∀ i, i < m → row' i = nI (R' i)) ∧ rgR gives wants cards m R' ∧ (∀ i, i < len → R' i = R i) ∧ ∀ R'', rgR gives wants cards m R'' → (∀ i, i < len → R'' i = R i) → rgV m R' ≤ rgV m R''))
theorem inRow_eq {row : Nat → Int32} {R : Nat → Nat} {len q : Nat} (hl : len ≤ 6) (hq : q < 6) (hr : ∀ i, i < len → row i = nI (R i) ∧ R i < 6) : ∀ (r j f : Nat), j + r = len → r < f → (∀ i, i < j → R i ≠ q) →
    ((∃ i, i < len ∧ R i = q) ∧ fX7_isInRow_b2 row f (nI q) (nI len) (nI j) = some 1) ∨ ((∀ i, i < len → R i ≠ q) ∧ fX7_isInRow_b2 row f (nI q) (nI len) (nI j) = some 0) := by
  intro r
  induction r with
  | zero =>
    intro j f h1 h2 h3
    rcases f with _ | f
    · omega
    right
    refine ⟨fun i hi => h3 i (by omega), ?_⟩
    rw [fX7_isInRow_b2, if_pos (nle (by omega) (by omega))]
  | succ r ih =>
    intro j f h1 h2 h3
    rcases f with _ | f
    · omega
    obtain ⟨e1, e2⟩ := hr j (by omega)
    rw [fX7_isInRow_b2, if_neg (nnle (by omega) (by omega)), g_nI (show j < 6 by omega) (by omega), ck_true, clN (by omega), e1, nm_eq, nI_1]
    by_cases z : R j = q
    · left
      refine ⟨⟨j, by omega, z⟩, ?_⟩
      rw [if_pos (by rw [z])]
    · rw [if_neg (neqI (by omega) (by omega) z)]
      exact ih (j + 1) f (by omega) (by omega) fun i hi => by
        by_cases y : i = j
        · rw [y]
          exact z
        · exact h3 i (by omega)
theorem giver_eq {G j : Nat} (hG : G < 64) (hj : j < 6) : fX7_isGiver (nI G) (nI j) = some (if G.testBit j = true then 1 else 0) := by
  unfold fX7_isGiver fX7_isGiver_b17
  rw [bitI G hG j hj]
  by_cases h : G.testBit j = true
  · rw [if_pos h, if_pos rfl]
  · rw [if_neg h, if_neg (by decide)]
abbrev tJ : Type := Int32 → (Nat → Int32) → (Nat → Int32) → (Nat → Int32) → Int32 → Int32 → Int32 → Option (Int32 × (Nat → Int32))
abbrev tI : Type := Int32 → (Nat → Int32) → (Nat → Int32) → (Nat → Int32) → Int32 → Int32 → Option (Int32 × (Nat → Int32))
theorem ring_loop (aJ : tJ) (aI : tI) {gives wants : Nat → Int32} {cards : Nat → Nat → Int32} {G m len : Nat} {R : Nat → Nat} (hG : G < 64) (hGg : ∀ p, p < 6 → (G.testBit p = true ↔ gvr gives cards p)) (h1 : 1 ≤ len) (hlm : len < m) (hm : m ≤ 6) (hP : rgP gives wants cards len R)
    (hJ : ∀ (q : Nat) (row : Nat → Int32), q < 6 → (∀ i, i < len → row i = nI (R i)) → rgP gives wants cards (len + 1) (rgU R len q) → DF gives wants cards m (len + 1) (rgU R len q) (aJ (nI G) gives wants row (nI q) (nI len) (nI m))) :
    ∀ (r j f : Nat) (row : Nat → Int32), j + r = 6 → r < f → R 0 < j → (∀ i, i < len → row i = nI (R i)) → (∀ R', rgR gives wants cards m R' → (∀ i, i < len → R' i = R i) → j ≤ R' len) →
      DF gives wants cards m len R (fX7_isRing_b50 aJ aI (nI G) gives wants f row (nI len) (nI m) (nI (R (len - 1))) (nI j)) := by
  intro r
  induction r with
  | zero =>
    intro j f row hj hf h0 hrow hno
    rcases f with _ | f
    · omega
    refine ⟨0, row, ?_, Or.inl ⟨rfl, hrow, fun R' hR' he => ?_⟩⟩
    · rw [fX7_isRing_b50, if_pos (show 6 ≤ nI j from nle (a := 6) (by omega) (by omega))]
    · have a := hno R' hR' he
      have b := (hR'.1.1 len hlm).1
      omega
  | succ r ih =>
    intro j f row hj hf h0 hrow hno
    rcases f with _ | f
    · omega
    have hlast := (hP.1 (len - 1) (by omega)).1
    have hskip : ∀ row' : Nat → Int32, (∀ i, i < len → row' i = nI (R i)) → (∀ R', rgR gives wants cards m R' → (∀ i, i < len → R' i = R i) → R' len ≠ j) → DF gives wants cards m len R (fX7_isRing_b50 aJ aI (nI G) gives wants f row' (nI len) (nI m) (nI (R (len - 1))) (nI (j + 1))) := fun row' hr' hne =>
      ih (j + 1) f row' (by omega) (by omega) (by omega) hr' fun R' hR' he => by
        have a := hno R' hR' he
        have b := hne R' hR' he
        omega
    rw [fX7_isRing_b50, if_neg (show ¬ 6 ≤ nI j from nnle (a := 6) (by omega) (by omega)), giver_eq hG (show j < 6 by omega), ob_some]
    unfold fX7_isRing_b96 fX7_isRing_b97 fX7_isRing_b117
    by_cases c1 : G.testBit j = true
    · rw [if_pos c1, if_neg one0, g_nI hlast (by omega), ck_true, g_nI (show j < 6 by omega) (by omega), ck_true, clN (by omega), clN (by omega)]
      by_cases c2 : gives (R (len - 1)) = wants j
      · rw [if_pos c2]
        unfold fX7_isInRow
        rcases inRow_eq (q := j) (show len ≤ 6 by omega) (by omega) (fun i hi => ⟨hrow i hi, (hP.1 i hi).1⟩) len 0 70 (by omega) (by omega) (fun i hi => absurd hi (Nat.not_lt_zero _)) with ⟨⟨i, hi, ei⟩, q⟩ | ⟨hne, q⟩
        · rw [show (0 : Int32) = nI 0 from rfl, q, ob_some, if_neg (show ¬ (1 : Int32) = nI 0 by decide), if_pos rfl, nm_eq, nI_1]
          refine hskip row hrow fun R' hR' he e => ?_
          have := hR'.1.2.2.1 i len hi hlm
          rw [he i hi, e] at this
          exact this ei
        · rw [show (0 : Int32) = nI 0 from rfl, q, ob_some, if_pos (show (0 : Int32) = nI 0 from rfl), if_neg (show ¬ (1 : Int32) = nI 0 by decide)]
          have hP' : rgP gives wants cards (len + 1) (rgU R len j) := by
            refine ⟨fun i hi => ?_, fun i hi0 hi => ?_, fun i k hik hk => ?_, fun i hi => ?_⟩
            · by_cases z : i = len
              · rw [z, rgU_s]
                exact ⟨by omega, (hGg j (by omega)).mp c1⟩
              · rw [rgU_n z]
                exact hP.1 i (by omega)
            · rw [rgU_n (show (0 : Nat) ≠ len by omega)]
              by_cases z : i = len
              · rw [z, rgU_s]
                exact h0
              · rw [rgU_n z]
                exact hP.2.1 i hi0 (by omega)
            · rw [rgU_n (show i ≠ len by omega)]
              by_cases z : k = len
              · rw [z, rgU_s]
                exact hne i (by omega)
              · rw [rgU_n z]
                exact hP.2.2.1 i k hik (by omega)
            · rw [rgU_n (show i ≠ len by omega)]
              by_cases z : i + 1 = len
              · rw [z, rgU_s, show i = len - 1 by omega]
                exact c2
              · rw [rgU_n z]
                exact hP.2.2.2 i (by omega)
          obtain ⟨r', row', q1, q2⟩ := hJ j row (by omega) hrow hP'
          rw [q1, ob_some]
          dsimp only
          rcases q2 with ⟨rfl, q2, q3⟩ | ⟨rfl, R', q2, q3, q4, q5⟩
          · rw [if_pos (show (0 : Int32) = nI 0 from rfl), nm_eq, nI_1]
            refine hskip row' (fun i hi => ?_) fun R' hR' he e => ?_
            · rw [q2 i (by omega), rgU_n (by omega)]
            · refine q3 R' hR' fun i hi => ?_
              by_cases z : i = len
              · rw [z, rgU_s]
                exact e
              · rw [rgU_n z]
                exact he i (by omega)
          · rw [if_neg (show ¬ (1 : Int32) = nI 0 by decide)]
            have hR'6 : ∀ i, i < m → R' i < 6 := fun i hi => (q3.1.1 i hi).1
            have epre : ∀ i, i < len → R' i = R i := fun i hi => by
              rw [q4 i (by omega), rgU_n (by omega)]
            have elen : R' len = j := by rw [q4 len (by omega), rgU_s]
            refine ⟨1, row', rfl, Or.inr ⟨rfl, R', q2, q3, epre, fun R'' hR'' he => ?_⟩⟩
            have a := hno R'' hR'' he
            by_cases z : R'' len = j
            · refine q5 R'' hR'' fun i hi => ?_
              by_cases y : i = len
              · rw [y, rgU_s]
                exact z
              · rw [rgU_n y]
                exact he i (by omega)
            · exact Nat.le_of_lt (rgV_lt (j := len) hlm (fun i hi => by rw [epre i hi, he i hi]) (by omega) hR'6)
      · rw [if_neg c2, if_pos rfl, nm_eq, nI_1]
        refine hskip row hrow fun R' hR' he e => c2 ?_
        have := hR'.1.2.2.2 (len - 1) (by omega)
        rw [show len - 1 + 1 = len by omega, e, he (len - 1) (by omega)] at this
        exact this
    · rw [if_neg c1, if_pos rfl, if_pos rfl, nm_eq, nI_1]
      refine hskip row hrow fun R' hR' he e => c1 ((hGg j (by omega)).mpr ?_)
      have := (hR'.1.1 len hlm).2
      rw [e] at this
      exact this
theorem ring_ok {gives wants : Nat → Int32} {cards : Nat → Nat → Int32} {G m : Nat} (hG : G < 64) (hGg : ∀ p, p < 6 → (G.testBit p = true ↔ gvr gives cards p)) (hm : m ≤ 6) : ∀ (t len dep : Nat) (R : Nat → Nat) (row : Nat → Int32), len + t = m → 2 * t + 1 ≤ dep → 1 ≤ len → rgP gives wants cards len R → (∀ i, i < len → row i = nI (R i)) → DF gives wants cards m len R ((fJoin dep).2 (nI G) gives wants row (nI len) (nI m)) := by
  intro t
  induction t with
  | zero =>
    intro len dep R row hl hd h1 hP hrow
    obtain ⟨k, rfl⟩ : ∃ k, dep = k + 1 := ⟨dep - 1, by omega⟩
    have : len = m := by omega
    subst this
    obtain ⟨l, rfl⟩ : ∃ l, len = l + 1 := ⟨len - 1, by omega⟩
    have h0 := (hP.1 0 (by omega)).1
    have hl6 := (hP.1 l (by omega)).1
    show DF gives wants cards (l + 1) (l + 1) R (bX7_isRing (fJoin k).1 (fJoin k).2 (nI G) gives wants row (nI (l + 1)) (nI (l + 1)))
    unfold bX7_isRing fX7_isRing_b39
    rw [nI_pred, g_nI (show l < 6 by omega) (by omega), ck_true, nm_eq, if_pos rfl, clN (by omega), hrow l (by omega), g_nI hl6 (by omega), ck_true, show g_in 0 6 = true from rfl, ck_true, show (0 : Int32).toNatClampNeg = 0 from rfl, hrow 0 (by omega), g_nI h0 (by omega), ck_true, clN (by omega), clN (by omega)]
    by_cases c : gives (R l) = wants (R 0)
    · rw [if_pos c]
      exact ⟨1, row, rfl, Or.inr ⟨rfl, R, hrow, ⟨hP, c⟩, fun _ _ => rfl, fun R'' hR'' he => Nat.le_of_eq (rgV_congr fun i hi => (he i hi).symm)⟩⟩
    · rw [if_neg c]
      refine ⟨0, row, rfl, Or.inl ⟨rfl, hrow, fun R' hR' he => c ?_⟩⟩
      have := hR'.2
      rw [show l + 1 - 1 = l by omega, he l (by omega), he 0 (by omega)] at this
      exact this
  | succ t ih =>
    intro len dep R row hl hd h1 hP hrow
    obtain ⟨k, rfl⟩ : ∃ k, dep = k + 2 := ⟨dep - 2, by omega⟩
    obtain ⟨l, rfl⟩ : ∃ l, len = l + 1 := ⟨len - 1, by omega⟩
    have h0 := (hP.1 0 (by omega)).1
    have hl6 := (hP.1 l (by omega)).1
    show DF gives wants cards m (l + 1) R (bX7_isRing (fJoin (k + 1)).1 (fJoin (k + 1)).2 (nI G) gives wants row (nI (l + 1)) (nI m))
    unfold bX7_isRing fX7_isRing_b39
    rw [nI_pred, g_nI (show l < 6 by omega) (by omega), ck_true, nm_eq, if_neg (neqI (by omega) (by omega) (by omega)), clN (by omega), hrow l (by omega), show g_in 0 6 = true from rfl, ck_true, show (0 : Int32).toNatClampNeg = 0 from rfl, hrow 0 (by omega), nm_eq, nI_1]
    have := ring_loop (fJoin (k + 1)).1 (fJoin (k + 1)).2 (len := l + 1) hG hGg (by omega) (by omega) hm hP (fun q row2 hq hr2 hP2 => by
      show DF gives wants cards m (l + 1 + 1) (rgU R (l + 1) q) (bX7_joins (fJoin k).1 (fJoin k).2 (nI G) gives wants row2 (nI q) (nI (l + 1)) (nI m))
      unfold bX7_joins
      have hn := ih (l + 1 + 1) k (rgU R (l + 1) q) (upd row2 (l + 1) (nI q)) (by omega) (by omega) (by omega) hP2 (fun i hi => by
        by_cases z : i = l + 1
        · rw [z, upd_s, rgU_s]
        · rw [upd_n z, rgU_n z]
          exact hr2 i (by omega))
      obtain ⟨r', row', q1, q2⟩ := hn
      refine ⟨r', row', ?_, q2⟩
      rw [if_pos (show nI (l + 1) < 6 from nlt (b := 6) (by omega) (by omega)), g_nI (show l + 1 < 6 by omega) (by omega), ck_true, clN (by omega), nI_1, q1, ob_some]) (6 - (R 0 + 1)) (R 0 + 1) 70 row (by omega) (by omega) (by omega) hrow (fun R' hR' he => by
        have := hR'.1.2.1 (l + 1) (by omega) (by omega)
        rw [he 0 (by omega)] at this
        exact this)
    rw [show l + 1 - 1 = l by omega] at this
    exact this
theorem givers_loop {n : Nat} {gives wants mgives mwants : Nat → Int32} {cards : Nat → Nat → Int32} (hn : n ≤ 20) (hW : RW n gives wants mgives mwants) : ∀ (r j f G : Nat), j + r = 6 → r < f → G < 64 → (∀ p, p < 6 → (G.testBit p = true ↔ p < j ∧ gvr gives cards p)) →
    ∃ G', fX7_findGivers_b7 gives cards f (nI G) (nI j) = some (nI G') ∧ G' < 64 ∧ ∀ p, p < 6 → (G'.testBit p = true ↔ gvr gives cards p) := by
  intro r
  induction r with
  | zero =>
    intro j f G h1 h2 h3 h4
    rcases f with _ | f
    · omega
    refine ⟨G, ?_, h3, fun p hp => ⟨fun q => ((h4 p hp).mp q).2, fun q => (h4 p hp).mpr ⟨by omega, q⟩⟩⟩
    rw [fX7_findGivers_b7, if_pos (show 6 ≤ nI j from nle (a := 6) (by omega) (by omega))]
  | succ r ih =>
    intro j f G h1 h2 h3 h4
    rcases f with _ | f
    · omega
    rw [fX7_findGivers_b7, if_neg (show ¬ 6 ≤ nI j from nnle (a := 6) (by omega) (by omega)), g_nI (show j < 6 by omega) (by omega), ck_true, clN (by omega)]
    unfold fX7_findGivers_b47
    have hno : ¬ gvr gives cards j → ∃ G', fX7_findGivers_b7 gives cards f (nI G) (nI (j + 1)) = some (nI G') ∧ G' < 64 ∧ ∀ p, p < 6 → (G'.testBit p = true ↔ gvr gives cards p) := fun hng =>
      ih (j + 1) f G (by omega) (by omega) h3 fun p hp => ⟨fun q => ⟨by have := ((h4 p hp).mp q).1; omega, ((h4 p hp).mp q).2⟩, fun q => (h4 p hp).mpr ⟨by
        have : p ≠ j := fun z => hng (z ▸ q.2)
        omega, q.2⟩⟩
    rcases (hW j (by omega)).2 with ⟨e1, -⟩ | ⟨k, w, hk, -, -, e1, -⟩
    · rw [e1, if_pos (by decide), nm_eq, nI_1]
      refine hno ?_
      rintro ⟨k, hk, e2, -⟩
      rw [e1] at e2
      exact absurd (e2 ▸ nI_pos' (show k < 2 ^ 31 by omega)) (by decide)
    · rw [e1, if_neg (nI_pos (by omega)), ck_true, ck_true, g_nI (show k < 20 by omega) (by omega), ck_true, clN (by omega)]
      have e0 : (0 : Int32).toInt = 0 := rfl
      by_cases c : cards j k ≤ 0
      · rw [if_pos c, nm_eq, nI_1]
        refine hno ?_
        rintro ⟨k', hk', e2, hc⟩
        rw [e1] at e2
        have : k = k' := (nI_eq (by omega) (by omega)).mp e2
        subst this
        have := i32le.mp c
        omega
      · obtain ⟨o1, o2⟩ := bitO G h3 j (by omega)
        rw [if_neg c, nm_eq, o1, nm_eq, nI_1]
        have hc : 0 < (cards j k).toInt := by
          have : ¬ (cards j k).toInt ≤ (0 : Int32).toInt := fun q => c (i32le.mpr q)
          omega
        refine ih (j + 1) f _ (by omega) (by omega) o2 fun p hp => ?_
        rw [bitT G h3 j (by omega) p hp]
        simp only [Bool.or_eq_true, beq_iff_eq]
        rw [h4 p hp]
        constructor
        · rintro (⟨q1, q2⟩ | rfl)
          · exact ⟨by omega, q2⟩
          · exact ⟨by omega, k, by omega, e1, hc⟩
        · rintro ⟨q1, q2⟩
          by_cases z : p = j
          · exact Or.inr z
          · exact Or.inl ⟨by omega, q2⟩
/-- the best ring stands in the row -/
def BST (gives wants : Nat → Int32) (cards : Nat → Nat → Int32) (m : Nat) (row : Nat → Int32) : Prop :=
  (m = 0 ∧ ∀ k, 2 ≤ k → k ≤ 6 → ∀ R, ¬ rgR gives wants cards k R) ∨ (2 ≤ m ∧ m ≤ 6 ∧ (∀ k, 2 ≤ k → k < m → ∀ R, ¬ rgR gives wants cards k R) ∧ ∃ R : Nat → Nat, (∀ i, i < m → row i = nI (R i)) ∧ rgR gives wants cards m R ∧ ∀ R', rgR gives wants cards m R' → rgV m R ≤ rgV m R')
theorem BST_uni {gives wants : Nat → Int32} {cards : Nat → Nat → Int32} {m m' : Nat} {row row' : Nat → Int32} (h : BST gives wants cards m row) (h' : BST gives wants cards m' row') : m = m' ∧ ∀ i, i < m → row i = row' i := by
  rcases h with ⟨rfl, a⟩ | ⟨a1, a2, a3, R, a4, a5, a6⟩
  · rcases h' with ⟨rfl, b⟩ | ⟨b1, b2, b3, R', b4, b5, b6⟩
    · exact ⟨rfl, fun i hi => absurd hi (Nat.not_lt_zero _)⟩
    · exact absurd b5 (a m' b1 b2 R')
  · rcases h' with ⟨rfl, b⟩ | ⟨b1, b2, b3, R', b4, b5, b6⟩
    · exact absurd a5 (b m a1 a2 R)
    · have : m = m' := by
        rcases Nat.lt_trichotomy m m' with q | q | q
        · exact absurd a5 (b3 m a1 q R)
        · exact q
        · exact absurd b5 (a3 m' b1 q R')
      subst this
      refine ⟨rfl, fun i hi => ?_⟩
      have e := rgV_inj (fun i hi => (a5.1.1 i hi).1) (fun i hi => (b5.1.1 i hi).1) (Nat.le_antisymm (a6 R' b5) (b6 R a5)) i hi
      rw [a4 i hi, b4 i hi, e]
theorem best_first {gives wants : Nat → Int32} {cards : Nat → Nat → Int32} {G m : Nat} (K : Int32 → (Nat → Int32) → Int32 → Option (Int32 × Int32 × (Nat → Int32))) (hG : G < 64) (hGg : ∀ p, p < 6 → (G.testBit p = true ↔ gvr gives cards p)) (hm2 : 2 ≤ m) (hm : m ≤ 6) : ∀ (r j f : Nat) (row : Nat → Int32), j + r = 6 → r < f → (∀ R, rgR gives wants cards m R → j ≤ R 0) →
    ((∀ R, ¬ rgR gives wants cards m R) ∧ ∃ row', fX7_findBest_b15 K gives wants cards f (nI G) row (nI m) (nI j) = K (nI G) row' (nI (m + 1))) ∨
    ∃ row', fX7_findBest_b15 K gives wants cards f (nI G) row (nI m) (nI j) = some (nI m, nI G, row') ∧ ∃ R : Nat → Nat, (∀ i, i < m → row' i = nI (R i)) ∧ rgR gives wants cards m R ∧ ∀ R', rgR gives wants cards m R' → rgV m R ≤ rgV m R' := by
  intro r
  induction r with
  | zero =>
    intro j f row h1 h2 h3
    rcases f with _ | f
    · omega
    left
    refine ⟨fun R hR => ?_, row, ?_⟩
    · have a := h3 R hR
      have b := (hR.1.1 0 (by omega)).1
      omega
    · rw [fX7_findBest_b15, if_pos (show 6 ≤ nI j from nle (a := 6) (by omega) (by omega)), nm_eq, nI_1]
  | succ r ih =>
    intro j f row h1 h2 h3
    rcases f with _ | f
    · omega
    rw [fX7_findBest_b15, if_neg (show ¬ 6 ≤ nI j from nnle (a := 6) (by omega) (by omega)), giver_eq hG (show j < 6 by omega), ob_some]
    unfold fX7_findBest_b41
    by_cases c : G.testBit j = true
    · rw [if_pos c, if_neg one0]
      have hP : rgP gives wants cards 1 (fun _ => j) := ⟨fun i hi => ⟨show j < 6 by omega, (hGg j (by omega)).mp c⟩, fun i q1 q2 => absurd q1 (by omega), fun i k q1 q2 => absurd q1 (by omega), fun i q1 => absurd q1 (by omega)⟩
      obtain ⟨r', row', q1, q2⟩ := ring_ok hG hGg hm (m - 1) 1 15 (fun _ => j) (upd row 0 (nI j)) (by omega) (by omega) (by omega) hP (fun i hi => by
        rw [show i = 0 by omega, upd_s])
      have hj : fX7_joins 16 (nI G) gives wants row (nI j) 0 (nI m) = some (r', row') := by
        show bX7_joins (fJoin 15).1 (fJoin 15).2 (nI G) gives wants row (nI j) 0 (nI m) = some (r', row')
        unfold bX7_joins
        rw [if_pos (show (0 : Int32) < 6 by decide), show g_in 0 6 = true from rfl, ck_true, show (0 : Int32).toNatClampNeg = 0 from rfl, show (0 : Int32) + 1 = nI 1 from rfl, q1, ob_some]
      rw [hj, ob_some]
      dsimp only
      rcases q2 with ⟨rfl, -, q3⟩ | ⟨rfl, R', q2, q3, q4, q5⟩
      · rw [if_pos rfl, nm_eq, nI_1]
        refine ih (j + 1) f row' (by omega) (by omega) fun R hR => ?_
        have a := h3 R hR
        have : R 0 ≠ j := fun z => q3 R hR fun i hi => by rw [show i = 0 by omega, z]
        omega
      · right
        rw [if_neg one0]
        refine ⟨row', rfl, R', q2, q3, fun R'' hR'' => ?_⟩
        have a := h3 R'' hR''
        have e : R' 0 = j := q4 0 (by omega)
        by_cases z : R'' 0 = j
        · exact q5 R'' hR'' fun i hi => by rw [show i = 0 by omega, z]
        · exact Nat.le_of_lt (rgV_lt (j := 0) (by omega) (fun i hi => absurd hi (Nat.not_lt_zero _)) (by omega) fun i hi => (q3.1.1 i hi).1)
    · rw [if_neg c, if_pos rfl, nm_eq, nI_1]
      refine ih (j + 1) f row (by omega) (by omega) fun R hR => ?_
      have a := h3 R hR
      have : R 0 ≠ j := fun z => c ((hGg j (by omega)).mpr (z ▸ (hR.1.1 0 (by omega)).2))
      omega
theorem best_many {gives wants : Nat → Int32} {cards : Nat → Nat → Int32} {G : Nat} (hG : G < 64) (hGg : ∀ p, p < 6 → (G.testBit p = true ↔ gvr gives cards p)) : ∀ (r m f : Nat) (row : Nat → Int32), m + r = 7 → 2 ≤ m → r < f → (∀ k, 2 ≤ k → k < m → ∀ R, ¬ rgR gives wants cards k R) →
    ∃ (M : Nat) (row' : Nat → Int32), fX7_findBest_b7 gives wants cards f (nI G) row (nI m) = some (nI M, nI G, row') ∧ BST gives wants cards M row' := by
  intro r
  induction r with
  | zero =>
    intro m f row h1 h2 h3 h4
    rcases f with _ | f
    · omega
    refine ⟨0, row, ?_, Or.inl ⟨rfl, fun k q1 q2 => h4 k q1 (by omega)⟩⟩
    rw [fX7_findBest_b7, if_pos (show 6 < nI m from nlt (a := 6) (by omega) (by omega))]
    rfl
  | succ r ih =>
    intro m f row h1 h2 h3 h4
    rcases f with _ | f
    · omega
    rw [fX7_findBest_b7, if_neg (show ¬ 6 < nI m from nnlt (a := 6) (b := m) (by omega) (by omega))]
    rcases best_first (fX7_findBest_b7 gives wants cards f) hG hGg h2 (show m ≤ 6 by omega) 6 0 70 row (by omega) (by omega) (fun R hR => Nat.zero_le _) with ⟨q1, row', q2⟩ | ⟨row', q1, q2⟩
    · rw [show (0 : Int32) = nI 0 from rfl, q2]
      refine ih (m + 1) f row' (by omega) (by omega) (by omega) fun k u1 u2 => ?_
      by_cases z : k = m
      · rw [z]
        exact q1
      · exact h4 k u1 (by omega)
    · exact ⟨m, row', q1, Or.inr ⟨h2, by omega, h4, q2⟩⟩
theorem c_best {n : Nat} {gives wants mgives mwants : Nat → Int32} {cards : Nat → Nat → Int32} (hn : n ≤ 20) (hW : RW n gives wants mgives mwants) (gv : Int32) (row : Nat → Int32) :
    ∃ (M : Nat) (gv' : Int32) (row' : Nat → Int32), fX7_findBest gv gives wants row cards = some (nI M, gv', row') ∧ BST gives wants cards M row' := by
  obtain ⟨G, q1, q2, q3⟩ := givers_loop (cards := cards) hn hW 6 0 70 0 (by omega) (by omega) (by omega) (fun p hp => by
    rw [Nat.zero_testBit]
    exact ⟨fun q => absurd q (by decide), fun q => absurd q.1 (Nat.not_lt_zero _)⟩)
  obtain ⟨M, row', q4, q5⟩ := best_many (gives := gives) (wants := wants) q2 q3 5 2 70 row (by omega) (by omega) (by omega) (fun k u1 u2 => by omega)
  refine ⟨M, nI G, row', ?_, q5⟩
  unfold fX7_findBest fX7_findGivers
  rw [show (0 : Int32) = nI 0 from rfl, q1, ob_some]
  exact q4
