/-! MATH 18: rings, the reference's rows -/
def rgC (gives mgives mwants : Nat → Int32) (cards : Nat → Nat → Int32) (m : Nat) (R : Nat → Nat) (i : Nat) : Prop :=
  (∀ j, j < i → R j ≠ R i) ∧ R 0 ≤ R i ∧ gvr gives cards (R i) ∧ mgives (R ((i + 1) % m)) ≠ -1 ∧ gives (R i) = mwants (R ((i + 1) % m))
theorem isr_fail (has mgives mwants ring : Nat → Int32) (x y z : Int32) {f : Nat} (hf : 0 < f) : fX9_isRing_b7 has mgives mwants ring f x y 0 z = some 0 := by
  rcases f with _ | f
  · omega
  rw [fX9_isRing_b7]
  unfold fX9_isRing_b138
  split
  · rfl
  · rw [if_pos rfl]
theorem isr_loop {n : Nat} {gives wants mgives mwants : Nat → Int32} {cards : Nat → Nat → Int32} {has : Nat → Int32} (hn : n ≤ 20) (hW : RW n gives wants mgives mwants) (hC : RC n cards has) {m : Nat} {R : Nat → Nat} {ring : Nat → Int32} (hm2 : 2 ≤ m) (hm : m ≤ 6) (h6 : ∀ i, i < m → R i < 6) (hr : ∀ i, i < m → ring i = nI (R i)) : ∀ (r j f M : Nat), j + r = m → r < f → M < 64 → (∀ p, p < 6 → (M.testBit p = true ↔ ∃ i, i < j ∧ R i = p)) → (∀ i, i < j → rgC gives mgives mwants cards m R i) →
    ((∀ i, i < m → rgC gives mgives mwants cards m R i) ∧ fX9_isRing_b7 has mgives mwants ring f (nI m) (nI M) 1 (nI j) = some 1) ∨ ((∃ i, i < m ∧ ¬ rgC gives mgives mwants cards m R i) ∧ fX9_isRing_b7 has mgives mwants ring f (nI m) (nI M) 1 (nI j) = some 0) := by
  intro r
  induction r with
  | zero =>
    intro j f M h1 h2 h3 h4 h5
    rcases f with _ | f
    · omega
    left
    refine ⟨fun i hi => h5 i (by omega), ?_⟩
    rw [fX9_isRing_b7, if_pos (nle (by omega) (by omega))]
    rfl
  | succ r ih =>
    intro j f M h1 h2 h3 h4 h5
    rcases f with _ | f
    · omega
    have hj6 := h6 j (by omega)
    have hn' : (j + 1) % m < m := Nat.mod_lt _ (by omega)
    have hn6 := h6 _ hn'
    have h06 := h6 0 (by omega)
    have nzm : nz (nI m) = true := by
      have := neqI (a := m) (b := 0) (by omega) (by omega) (by omega)
      unfold nz
      simp only [show nI 0 = 0 from rfl] at this
      simp [this]
    obtain ⟨o1, o2⟩ := bitO M h3 (R j) hj6
    rw [fX9_isRing_b7, if_neg (nnle (by omega) (by omega)), if_neg one0, g_nI (show j < 6 by omega) (by omega), ck_true, nm_eq, nzm, ck_true, nI_1, pk_rem (by omega) (by omega) (by omega), g_nI (show (j + 1) % m < 6 by omega) (by omega), ck_true, nm_eq, clN (by omega), clN (by omega), hr j (by omega), hr _ hn', bitI M h3 (R j) hj6]
    unfold fX9_isRing_b123 fX9_isRing_b124
    rw [o1, nm_eq, nm_eq, nm_eq, nm_eq, nI_1, isr_fail has mgives mwants ring _ _ _ (show 0 < f by omega)]
    have bad : ¬ rgC gives mgives mwants cards m R j → ((∀ i, i < m → rgC gives mgives mwants cards m R i) ∧ (some (0 : Int32)) = some 1) ∨ ((∃ i, i < m ∧ ¬ rgC gives mgives mwants cards m R i) ∧ (some (0 : Int32)) = some 0) := fun h => Or.inr ⟨⟨j, by omega, h⟩, rfl⟩
    by_cases c1 : M.testBit (R j) = true
    · rw [if_pos c1, if_neg one0]
      refine bad fun h => ?_
      obtain ⟨i, hi, e⟩ := (h4 _ hj6).mp c1
      exact h.1 i hi e
    rw [if_neg c1, if_pos rfl, show g_in 0 6 = true from rfl, ck_true, show (0 : Int32).toNatClampNeg = 0 from rfl, hr 0 (by omega), g_nI hj6 (by omega), ck_true, ck_true, ck_true, g_nI hn6 (by omega), ck_true, ck_true, clN (by omega), clN (by omega)]
    have q1 : ∀ i, i < j → R i ≠ R j := fun i hi e => c1 ((h4 _ hj6).mpr ⟨i, hi, e⟩)
    by_cases c2 : R j < R 0
    · rw [if_pos (nlt c2 (by omega))]
      exact bad fun h => absurd h.2.1 (by omega)
    rw [if_neg (nnlt (by omega) (by omega))]
    obtain ⟨w1, w2⟩ := hW (R j) hj6
    by_cases c3 : mgives (R j) = -1
    · rw [if_pos c3]
      refine bad fun h => ?_
      obtain ⟨k, hk, e, -⟩ := h.2.2.1
      rw [w1, c3] at e
      exact absurd (e ▸ nI_pos' (show k < 2 ^ 31 by omega)) (by decide)
    rw [if_neg c3]
    by_cases c4 : mgives (R ((j + 1) % m)) = -1
    · rw [if_pos c4]
      exact bad fun h => h.2.2.2.1 c4
    rw [if_neg c4]
    by_cases c5 : mgives (R j) = mwants (R ((j + 1) % m))
    · rw [if_pos c5]
      rcases w2 with ⟨e, -⟩ | ⟨g, w, hg, hw, hgw, eg, ew, emw⟩
      · rw [w1] at e
        exact absurd e c3
      · have eg' : mgives (R j) = nI g := by rw [← w1]; exact eg
        rw [eg', ix20 hj6 (by omega), g_nI (show 20 * R j + g < 120 by omega) (by omega), ck_true, clN (by omega), ← (hC (R j) g hj6 (by omega)).1]
        have e0 : (0 : Int32).toInt = 0 := rfl
        by_cases c6 : cards (R j) g ≤ 0
        · rw [if_pos c6]
          refine bad fun h => ?_
          obtain ⟨k, hk, e, hc⟩ := h.2.2.1
          rw [eg] at e
          have : g = k := (nI_eq (by omega) (by omega)).mp e
          subst this
          have := i32le.mp c6
          omega
        · rw [if_neg c6]
          have hc : 0 < (cards (R j) g).toInt := by
            have : ¬ (cards (R j) g).toInt ≤ (0 : Int32).toInt := fun q => c6 (i32le.mpr q)
            omega
          refine ih (j + 1) f _ (by omega) (by omega) o2 (fun p hp => ?_) fun i hi => ?_
          · rw [bitT M h3 (R j) hj6 p hp]
            simp only [Bool.or_eq_true, beq_iff_eq]
            rw [h4 p hp]
            constructor
            · rintro (⟨i, u1, u2⟩ | e)
              · exact ⟨i, by omega, u2⟩
              · exact ⟨j, by omega, e.symm⟩
            · rintro ⟨i, u1, u2⟩
              by_cases z : i = j
              · right
                rw [← u2, z]
              · exact Or.inl ⟨i, by omega, u2⟩
          · by_cases z : i = j
            · rw [z]
              exact ⟨q1, by omega, ⟨g, by omega, eg, hc⟩, c4, by rw [w1]; exact c5⟩
            · exact h5 i (by omega)
    · rw [if_neg c5]
      exact bad fun h => c5 (by rw [← w1]; exact h.2.2.2.2)
theorem rgC_all {n : Nat} {gives wants mgives mwants : Nat → Int32} {cards : Nat → Nat → Int32} (hW : RW n gives wants mgives mwants) {m : Nat} {R : Nat → Nat} (hm2 : 2 ≤ m) (h6 : ∀ i, i < m → R i < 6) : (∀ i, i < m → rgC gives mgives mwants cards m R i) ↔ rgR gives wants cards m R := by
  have hnx : ∀ i, i + 1 < m → (i + 1) % m = i + 1 := fun i hi => Nat.mod_eq_of_lt hi
  have hn0 : (m - 1 + 1) % m = 0 := by rw [show m - 1 + 1 = m by omega, Nat.mod_self]
  have hwt : ∀ p, p < 6 → mgives p ≠ -1 → wants p = mwants p := fun p hp h => by
    obtain ⟨w1, w2⟩ := hW p hp
    rcases w2 with ⟨e, -⟩ | ⟨g, w, -, -, -, -, e1, e2⟩
    · rw [w1] at e
      exact absurd e h
    · rw [e1, e2]
  constructor
  · intro h
    refine ⟨⟨fun i hi => ⟨h6 i hi, (h i hi).2.2.1⟩, fun i h0 hi => ?_, fun i j hij hj => (h j hj).1 i hij, fun i hi => ?_⟩, ?_⟩
    · have a := (h i hi).2.1
      have b := (h i hi).1 0 h0
      omega
    · have a := (h i (by omega)).2.2.2
      rw [hnx i hi] at a
      rw [hwt _ (h6 _ hi) a.1]
      exact a.2
    · have a := (h (m - 1) (by omega)).2.2.2
      rw [hn0] at a
      rw [hwt _ (h6 _ (by omega)) a.1]
      exact a.2
  · rintro ⟨⟨h1, h2, h3, h4⟩, h5⟩ i hi
    have hg : ∀ k, k < m → mgives (R k) ≠ -1 := fun k hk e => by
      obtain ⟨g, hg, e2, -⟩ := (h1 k hk).2
      rw [(hW _ (h6 k hk)).1, e] at e2
      exact absurd (e2 ▸ nI_pos' (show g < 2 ^ 31 by omega)) (by decide)
    have hle : R 0 ≤ R i := by
      by_cases z : i = 0
      · rw [z]
        exact Nat.le_refl _
      · exact Nat.le_of_lt (h2 i (by omega) hi)
    refine ⟨fun j hj => h3 j i hj hi, hle, (h1 i hi).2, hg _ (Nat.mod_lt _ (by omega)), ?_⟩
    by_cases z : i + 1 < m
    · rw [hnx i z, ← hwt _ (h6 _ z) (hg _ z)]
      exact h4 i z
    · have : i = m - 1 := by omega
      subst this
      rw [hn0, ← hwt _ (h6 0 (by omega)) (hg 0 (by omega))]
      exact h5
def dg : Nat → Nat → Nat → Nat
  | 0, _, _ => 0
  | j + 1, N, i => if i = j then N % 6 else dg j (N / 6) i
theorem dg_lt : ∀ {j N i : Nat}, dg j N i < 6
  | 0, _, _ => by
    show 0 < 6
    omega
  | j + 1, N, i => by
    rw [dg]
    split
    · exact Nat.mod_lt _ (by omega)
    · exact dg_lt
theorem dg_val : ∀ {j N : Nat}, N < 6 ^ j → rgV j (dg j N) = N
  | 0, N, h => by
    rw [Nat.pow_zero] at h
    show 0 = N
    omega
  | j + 1, N, h => by
    rw [Nat.pow_succ] at h
    have e : rgV j (dg (j + 1) N) = rgV j (dg j (N / 6)) := rgV_congr fun i hi => by
      rw [dg, if_neg (by omega)]
    rw [rgV, e, dg_val (j := j) (N := N / 6) (by omega), dg, if_pos rfl]
    omega
theorem val_lt : ∀ {j : Nat} {R : Nat → Nat}, (∀ i, i < j → R i < 6) → rgV j R < 6 ^ j
  | 0, _, _ => by
    show 0 < 6 ^ 0
    decide
  | j + 1, R, h => by
    have a := val_lt (j := j) fun i hi => h i (by omega)
    have b := h j (Nat.lt_succ_self j)
    rw [rgV, Nat.pow_succ]
    omega
theorem dig_loop {has mgives mwants : Nat → Int32} (K10 : Int32 → (Nat → Int32) → Int32 → Int32 → Option (Int32 × (Nat → Int32))) (K30 : Int32 → (Nat → Int32) → Int32 → Int32 → Int32 → Option (Int32 × (Nat → Int32))) (rs l1 l2 l3 : Int32) : ∀ (j f N : Nat) (ring : Nat → Int32), j ≤ 6 → j < f → N < 2147483648 →
    ∃ ring' : Nat → Int32, fX9_findRing_b50 K10 K30 has mgives mwants f rs ring l1 l2 l3 (nI N) (nI j - 1) = (ob (fX9_isRing has mgives mwants ring' l2) fun r_2 => if r_2 = 0 then fX9_findRing_b94 K10 K30 has mgives mwants rs ring' l1 l2 l3 0 else fX9_findRing_b94 K10 K30 has mgives mwants rs ring' l1 l2 l3 l2) ∧ ∀ i, (i < j → ring' i = nI (dg j N i)) ∧ (j ≤ i → ring' i = ring i) := by
  intro j
  induction j with
  | zero =>
    intro f N ring h0 h1 h2
    rcases f with _ | f
    · omega
    refine ⟨ring, ?_, fun i => ⟨fun h => absurd h (Nat.not_lt_zero _), fun _ => rfl⟩⟩
    rw [fX9_findRing_b50, if_pos (by decide)]
  | succ j ih =>
    intro f N ring h0 h1 h2
    rcases f with _ | f
    · omega
    obtain ⟨ring', q1, q2⟩ := ih f (N / 6) (upd ring j (nI (N % 6))) (by omega) (by omega) (by omega)
    refine ⟨ring', ?_, fun i => ⟨fun h => ?_, fun h => ?_⟩⟩
    · rw [nI_pred, fX9_findRing_b50, if_neg (nI_pos (by omega)), nm_eq, show (6 : Int32) = nI 6 from rfl, pk_rem (by omega) (by omega) (by omega), g_nI (show j < 6 by omega) (by omega), ck_true, nm_eq, pk_div (by omega) (by omega) (by omega), nm_eq, pl_m1, clN (by omega)]
      exact q1
    · rw [dg]
      by_cases z : i = j
      · rw [if_pos z, (q2 i).2 (by omega), z, upd_s]
      · rw [if_neg z]
        exact (q2 i).1 (by omega)
    · rw [(q2 i).2 (by omega), upd_n (by omega)]
theorem pow6 : ∀ m, m ≤ 6 → 6 ^ m ≤ 46656 := by decide
theorem rows_loop {n : Nat} {gives wants mgives mwants : Nat → Int32} {cards : Nat → Nat → Int32} {has : Nat → Int32} (hn : n ≤ 20) (hW : RW n gives wants mgives mwants) (hC : RC n cards has) (K : Int32 → (Nat → Int32) → Int32 → Int32 → Option (Int32 × (Nat → Int32))) {m : Nat} (hm2 : 2 ≤ m) (hm : m ≤ 6) : ∀ (r N f : Nat) (ring : Nat → Int32), N + r = 6 ^ m → r + 1 < f → (∀ N', N' < N → ¬ rgR gives wants cards m (dg m N')) →
    ((∀ R, ¬ rgR gives wants cards m R) ∧ ∃ ring', fX9_findRing_b30 K has mgives mwants f 0 ring (nI (6 ^ m)) (nI m) (nI N) = K 0 ring' (nI (6 ^ m)) (nI (m + 1))) ∨
    ∃ ring', fX9_findRing_b30 K has mgives mwants f 0 ring (nI (6 ^ m)) (nI m) (nI N) = K (nI m) ring' (nI (6 ^ m)) (nI (m + 1)) ∧ ∃ R : Nat → Nat, (∀ i, i < m → ring' i = nI (R i)) ∧ rgR gives wants cards m R ∧ ∀ R', rgR gives wants cards m R' → rgV m R ≤ rgV m R' := by
  have hp := pow6 m hm
  intro r
  induction r with
  | zero =>
    intro N f ring h1 h2 h3
    rcases f with _ | f
    · omega
    left
    refine ⟨fun R hR => ?_, ring, ?_⟩
    · have h6 : ∀ i, i < m → R i < 6 := fun i hi => (hR.1.1 i hi).1
      have hv := val_lt h6
      refine h3 (rgV m R) (by omega) (rgR_congr (by omega) (fun i hi => ?_) hR)
      exact rgV_inj h6 (fun i _ => dg_lt) (dg_val hv).symm i hi
    · rw [fX9_findRing_b30, if_pos (nle (by omega) (by omega))]
      unfold fX9_findRing_b103
      rw [nm_eq, nI_1]
  | succ r ih =>
    intro N f ring h1 h2 h3
    rcases f with _ | f
    · omega
    obtain ⟨ring', q1, q2⟩ := dig_loop (has := has) (mgives := mgives) (mwants := mwants) K (fX9_findRing_b30 K has mgives mwants f) 0 (nI (6 ^ m)) (nI m) (nI N) m 50000 N ring hm (by omega) (by omega)
    rw [fX9_findRing_b30, if_neg (nnle (by omega) (by omega)), if_pos rfl, nm_eq, q1]
    unfold fX9_isRing fX9_findRing_b94
    have h6 : ∀ i, i < m → dg m N i < 6 := fun i _ => dg_lt
    rcases isr_loop hn hW hC hm2 hm h6 (fun i hi => (q2 i).1 hi) m 0 70 0 (by omega) (by omega) (by omega) (fun p hp => by
      rw [Nat.zero_testBit]
      exact ⟨fun q => absurd q (by decide), fun ⟨i, q, _⟩ => absurd q (Nat.not_lt_zero _)⟩) (fun i hi => absurd hi (Nat.not_lt_zero _)) with ⟨a1, a2⟩ | ⟨⟨i0, a0, a1⟩, a2⟩
    · right
      rw [show (0 : Int32) = nI 0 from rfl, a2, ob_some, if_neg (show ¬ (1 : Int32) = nI 0 by decide), nm_eq, nI_1]
      rcases f with _ | f
      · omega
      have hR := (rgC_all hW hm2 h6).mp a1
      refine ⟨ring', ?_, dg m N, fun i hi => (q2 i).1 hi, hR, fun R' hR' => ?_⟩
      · rw [fX9_findRing_b30]
        unfold fX9_findRing_b103
        rw [if_neg (show ¬ nI m = 0 from neqI (b := 0) (by omega) (by omega) (by omega)), nm_eq, nI_1]
        split <;> rfl
      · rw [dg_val (by omega)]
        apply Classical.byContradiction
        intro q
        have h6' : ∀ i, i < m → R' i < 6 := fun i hi => (hR'.1.1 i hi).1
        have hv := val_lt h6'
        exact h3 (rgV m R') (by omega) (rgR_congr (by omega) (fun i hi => rgV_inj h6' (fun i _ => dg_lt) (dg_val hv).symm i hi) hR')
    · rw [show (0 : Int32) = nI 0 from rfl, a2, ob_some, if_pos (show (0 : Int32) = nI 0 from rfl), nm_eq, nI_1]
      refine ih (N + 1) f ring' (by omega) (by omega) fun N' hN' => ?_
      by_cases z : N' = N
      · rw [z]
        exact fun q => a1 ((rgC_all hW hm2 h6).mpr q i0 a0)
      · exact h3 N' (by omega)
theorem ref_many {n : Nat} {gives wants mgives mwants : Nat → Int32} {cards : Nat → Nat → Int32} {has : Nat → Int32} (hn : n ≤ 20) (hW : RW n gives wants mgives mwants) (hC : RC n cards has) : ∀ (r m f : Nat) (ring : Nat → Int32), m + r = 7 → 2 ≤ m → r + 1 < f → (∀ k, 2 ≤ k → k < m → ∀ R, ¬ rgR gives wants cards k R) →
    ∃ (M : Nat) (ring' : Nat → Int32), fX9_findRing_b10 has mgives mwants f 0 ring (nI (6 ^ (m - 1))) (nI m) = some (nI M, ring') ∧ BST gives wants cards M ring' := by
  intro r
  induction r with
  | zero =>
    intro m f ring h1 h2 h3 h4
    rcases f with _ | f
    · omega
    refine ⟨0, ring, ?_, Or.inl ⟨rfl, fun k q1 q2 => h4 k q1 (by omega)⟩⟩
    rw [fX9_findRing_b10, if_pos (show 6 < nI m from nlt (a := 6) (by omega) (by omega))]
    rfl
  | succ r ih =>
    intro m f ring h1 h2 h3 h4
    rcases f with _ | f
    · omega
    have hp := pow6 m (by omega)
    have e : 6 ^ (m - 1) * 6 = 6 ^ m := by
      conv => rhs; rw [show m = m - 1 + 1 by omega, Nat.pow_succ]
    rw [fX9_findRing_b10, if_neg (show ¬ 6 < nI m from nnlt (a := 6) (b := m) (by omega) (by omega)), if_pos rfl, nm_eq, show (6 : Int32) = nI 6 from rfl, pk_mul, e]
    rcases rows_loop hn hW hC (fX9_findRing_b10 has mgives mwants f) h2 (show m ≤ 6 by omega) (6 ^ m) 0 50000 ring (by omega) (by omega) (fun N' h => absurd h (Nat.not_lt_zero _)) with ⟨q1, ring', q2⟩ | ⟨ring', q1, q2⟩
    · have q2' : fX9_findRing_b30 (fX9_findRing_b10 has mgives mwants f) has mgives mwants 50000 0 ring (nI (6 ^ m)) (nI m) 0 = _ := q2
      rw [q2']
      have := ih (m + 1) f ring' (by omega) (by omega) (by omega) fun k u1 u2 => by
        by_cases z : k = m
        · rw [z]
          exact q1
        · exact h4 k u1 (by omega)
      rw [show m + 1 - 1 = m by omega] at this
      exact this
    · have q1' : fX9_findRing_b30 (fX9_findRing_b10 has mgives mwants f) has mgives mwants 50000 0 ring (nI (6 ^ m)) (nI m) 0 = _ := q1
      rw [q1']
      refine ⟨m, ring', ?_, Or.inr ⟨h2, by omega, h4, q2⟩⟩
      rcases f with _ | f
      · omega
      rw [fX9_findRing_b10, if_neg (show ¬ nI m = 0 from neqI (b := 0) (by omega) (by omega) (by omega))]
      unfold fX9_findRing_b109
      split <;> rfl
theorem r_best {n : Nat} {gives wants mgives mwants : Nat → Int32} {cards : Nat → Nat → Int32} {has : Nat → Int32} (hn : n ≤ 20) (hW : RW n gives wants mgives mwants) (hC : RC n cards has) (rs : Int32) (ring : Nat → Int32) :
    ∃ (M : Nat) (ring' : Nat → Int32), fX9_findRing rs has mgives mwants ring = some (nI M, ring') ∧ BST gives wants cards M ring' := by
  have := ref_many hn hW hC 5 2 50000 ring (by omega) (by omega) (by omega) (fun k u1 u2 => by omega)
  unfold fX9_findRing
  exact this
