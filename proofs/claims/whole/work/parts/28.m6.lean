/-! MATH 6: drafts -/
def own (P t r : Nat) : Nat := (t + 6 * P - r) % P
theorem own_eq : ∀ P, P < 7 → 2 ≤ P → ∀ t, t < P → ∀ r, r < 6 → fX0_packInTurn (nI P) (nI r) (nI t) = some (nI (own P t r)) ∧ fX9_packBefore (nI P) (nI r) (nI t) = some (nI (own P t r)) := by decide +kernel
theorem own_lt {P t r : Nat} (h : 2 ≤ P) : own P t r < P := Nat.mod_lt _ (by omega)
theorem own_inj : ∀ P, P < 7 → 2 ≤ P → ∀ r, r < 6 → ∀ t, t < P → ∀ u, u < P → own P t r = own P u r → t = u := by decide +kernel
theorem own_sur : ∀ P, P < 7 → 2 ≤ P → ∀ r, r < 6 → ∀ q, q < P → ∃ t, t < P ∧ own P t r = q := by decide +kernel
def RPk (packs : Nat → Nat → Int32) (pack : Nat → Int32) : Prop := ∀ q j, q < 6 → j < 6 → packs q j = pack (6 * q + j)
/-- no draft goes on -/
def RDr0 (players cards round turn : Int32) (mturn : Int32) : Prop := mturn = -1 ∧ ∃ c, c < 7 ∧ cards = nI c ∧ round = nI c
/-- a draft goes on: P players, C cards each, the round r, the turn t -/
def RDr1 (n P C r t : Nat) (players cards round turn : Int32) (packs : Nat → Nat → Int32) (drafters mcards mround mturn : Int32) (packSize : Nat → Int32) : Prop :=
  2 ≤ P ∧ P < 7 ∧ 3 ≤ C ∧ C < 7 ∧ r < C ∧ t < P ∧ players = nI P ∧ drafters = nI P ∧ cards = nI C ∧ mcards = nI C ∧ round = nI r ∧ mround = nI r ∧ turn = nI t ∧ mturn = nI t ∧
    (∀ q j, q < P → j < C → ∃ k, k < n ∧ packs q j = nI k) ∧ ∀ u, u < P → packSize (own P u r) = nI (if u < t then C - r - 1 else C - r)
def RDr (n : Nat) (players cards round turn : Int32) (packs : Nat → Nat → Int32) (drafters mcards mround mturn : Int32) (pack packSize : Nat → Int32) : Prop :=
  RPk packs pack ∧ (RDr0 players cards round turn mturn ∨ ∃ P C r t, RDr1 n P C r t players cards round turn packs drafters mcards mround mturn packSize)
theorem RDr.mono {n n' : Nat} {players cards round turn : Int32} {packs : Nat → Nat → Int32} {drafters mcards mround mturn : Int32} {pack packSize : Nat → Int32} (h : RDr n players cards round turn packs drafters mcards mround mturn pack packSize) (hn : n ≤ n') : RDr n' players cards round turn packs drafters mcards mround mturn pack packSize := by
  obtain ⟨h1, h2⟩ := h
  refine ⟨h1, ?_⟩
  rcases h2 with h2 | ⟨P, C, r, t, a1, a2, a3, a4, a5, a6, a7, a8, a9, b1, b2, b3, b4, b5, b6, b7⟩
  · exact Or.inl h2
  · refine Or.inr ⟨P, C, r, t, a1, a2, a3, a4, a5, a6, a7, a8, a9, b1, b2, b3, b4, b5, fun q j hq hj => ?_, b7⟩
    obtain ⟨k, hk, e⟩ := b6 q j hq hj
    exact ⟨k, by omega, e⟩
theorem m_offered {n : Nat} {players cards round turn : Int32} {packs : Nat → Nat → Int32} {drafters mcards mround mturn : Int32} {pack packSize : Nat → Int32} (hR : RDr n players cards round turn packs drafters mcards mround mturn pack packSize) (thrown p1 : Int32) :
    (∃ r, fX8_offered players cards round turn packs p1 = some (.inl (r, ())) ∧ fX9_offered thrown drafters mround mturn pack packSize p1 = some (r, 0)) ∨
    (fX8_offered players cards round turn packs p1 = some (.inr ("java/lang/IndexOutOfBoundsException", ())) ∧ ∃ b, fX9_offered thrown drafters mround mturn pack packSize p1 = some (b, 1)) := by
  obtain ⟨hpk, hR⟩ := hR
  unfold fX8_offered fX9_offered fX9_offered_b10 fX9_offered_b24 fX9_offered_b36 fX9_offered_b67 fX8_offered_b37 fX0_countOffered
  by_cases h0 : p1 < 0
  · right
    refine ⟨by rw [if_neg (Int32.not_le.mpr h0)], ?_⟩
    rw [if_pos h0, goesWell_1, ob_some]
    exact ⟨_, rfl⟩
  · left
    have h0' := Int32.not_lt.mp h0
    rcases hR with ⟨rfl, c, hc, rfl, rfl⟩ | ⟨P, C, r, t, a1, a2, a3, a4, a5, a6, rfl, rfl, rfl, rfl, rfl, rfl, rfl, rfl, b6, b7⟩
    · refine ⟨-1, ?_, ?_⟩
      · rw [if_pos h0', ob_some, pk_sub (Nat.le_refl _), Nat.sub_self, if_pos h0']
      · rw [if_neg h0, goesWell_0, ob_some]
        dsimp only
        rw [if_neg one0, if_pos rfl, if_pos rfl]
    · have hown := own_eq P a2 a1 t a6 r (by omega)
      have hol := own_lt (P := P) (t := t) (r := r) a1
      have hps := b7 t a6
      rw [if_neg (Nat.lt_irrefl t)] at hps
      have htm : ¬ nI t = -1 := fun h => absurd (h ▸ nI_pos' (show t < 2 ^ 31 by omega)) (by decide)
      rcases in_n p1 (C - r) (by omega) with ⟨j, hj, rfl⟩ | ⟨hj, -⟩
      · obtain ⟨k, hk, ek⟩ := b6 (own P t r) j hol (by omega)
        refine ⟨nI k, ?_, ?_⟩
        · unfold fX0_kindAt
          rw [if_pos h0', ob_some, pk_sub (show r ≤ C by omega), if_neg (nnle hj (by omega)), hown.1, ob_some, g_nI (show own P t r < 6 by omega) (by omega), ck_true, g_nI (show j < 6 by omega) (by omega), ck_true, clN (by omega), clN (by omega), ek, ob_some]
        · rw [if_neg h0, goesWell_0, ob_some]
          dsimp only
          rw [if_neg one0, if_neg htm, hown.2, ob_some, g_nI (show own P t r < 6 by omega) (by omega), ck_true, clN (by omega), hps, if_neg (nnle hj (by omega)), ix6, g_nI (show 6 * own P t r + j < 36 by omega) (by omega), ck_true, clN (by omega), ← hpk _ _ (by omega) (by omega), ek]
      · have hj' : nI (C - r) ≤ p1 := by
          rcases hj with h | h
          · exact absurd h h0
          · exact h
        refine ⟨-1, ?_, ?_⟩
        · rw [if_pos h0', ob_some, pk_sub (show r ≤ C by omega), if_pos hj']
        · rw [if_neg h0, goesWell_0, ob_some]
          dsimp only
          rw [if_neg one0, if_neg htm, hown.2, ob_some, g_nI (show own P t r < 6 by omega) (by omega), ck_true, clN (by omega), hps, if_pos hj']
/-- the inner loop of the draft: one pack -/
theorem dr_inner {n : Nat} (hn : 1 ≤ n) (hn2 : n ≤ 20) {P C i : Nat} (hi : i < 6) (hC : C < 7) {drafters mcards mround mturn players cards round turn : Int32} (thrown : Int32) {packSize : Nat → Int32}
    {k13 : Int32 → Int32 → Int32 → Int32 → (Nat → Nat → Int32) → Int32 → Int32 → Int32 → Int32 → Int32 → Option (Int32 × Int32 × Int32 × Int32 × (Nat → Nat → Int32))}
    {k72 : Int32 → Int32 → Int32 → Int32 → Int32 → (Nat → Int32) → (Nat → Int32) → Int32 → Int32 → Int32 → Int32 → Option (Int32 × Int32 × Int32 × Int32 × Int32 × (Nat → Int32) × (Nat → Int32))} :
    ∀ (r j x f1 f2 : Nat) (packs : Nat → Nat → Int32) (pack : Nat → Int32), j + r = C → r < f1 → r < f2 → x < 65537 → RPk packs pack → (∀ q b, ((q < i ∧ b < C) ∨ (q = i ∧ b < j)) → ∃ k, k < n ∧ packs q b = nI k) →
      ∃ x' packs' pack', x' < 65537 ∧ RPk packs' pack' ∧ (∀ q b, q < i + 1 → b < C → ∃ k, k < n ∧ packs' q b = nI k) ∧
        fX0_begin_b22 k13 f1 players cards round turn packs (nI P) (nI C) (nI n) (nI x) (nI i) (nI j) = k13 players cards round turn packs' (nI P) (nI C) (nI n) (nI x') (nI (i + 1)) ∧
        fX9_draft_b81 k72 (nI n) f2 thrown drafters mcards mround mturn pack packSize (nI P) (nI C) (nI x) (nI i) (nI j) = k72 thrown drafters mcards mround mturn pack' (upd packSize i (nI C)) (nI P) (nI C) (nI x') (nI (i + 1)) := by
  intro r
  induction r with
  | zero =>
    intro j x f1 f2 packs pack hj h1 h2 hx hp hv
    rcases f1 with _ | f1
    · omega
    rcases f2 with _ | f2
    · omega
    refine ⟨x, packs, pack, hx, hp, fun q b hq hb => hv q b (by omega), ?_, ?_⟩
    · rw [fX0_begin_b22, if_pos (nle (by omega) (by omega)), nm_eq, nI_1]
    · rw [fX9_draft_b81, if_pos (nle (by omega) (by omega)), g_nI hi (by omega), ck_true, nm_eq, nI_1, clN (by omega)]
  | succ r ih =>
    intro j x f1 f2 packs pack hj h1 h2 hx hp hv
    rcases f1 with _ | f1
    · omega
    rcases f2 with _ | f2
    · omega
    have ex : ((75 * nI x + 74) - (75 * nI x + 74) / 65537 * 65537 : Int32) = nI ((75 * x + 74) % 65537) := by
      rw [show (75 : Int32) = nI 75 from rfl, show (74 : Int32) = nI 74 from rfl, show (65537 : Int32) = nI 65537 from rfl, pk_mul, nI_add]
      exact pk_rem (by omega) (by omega) (by omega)
    generalize hx2 : (75 * x + 74) % 65537 = x2 at ex
    have hx2' : x2 < 65537 := by rw [← hx2]; exact Nat.mod_lt _ (by omega)
    have em : (nI x2 - nI x2 / nI n * nI n : Int32) = nI (x2 % n) := pk_rem (by omega) (by omega) (by omega)
    have hz : nz (nI n) = true := by
      have := nI_ne0 (n := n) (by omega) (by omega)
      simp [nz, this]
    have hml : x2 % n < n := Nat.mod_lt _ (by omega)
    obtain ⟨x', packs', pack', q1, q2, q3, q4, q5⟩ := ih (j + 1) x2 f1 f2 (gup packs i j (nI (x2 % n))) (upd pack (6 * i + j) (nI (x2 % n))) (by omega) (by omega) (by omega) hx2' (fun q b hq hb => by
        rw [gup_val]
        unfold upd
        by_cases e : q = i ∧ b = j
        · obtain ⟨rfl, rfl⟩ := e
          rw [if_pos ⟨rfl, rfl⟩, if_pos rfl]
        · rw [if_neg e, if_neg (by omega)]
          exact hp q b hq hb) (fun q b hqb => by
        rw [gup_val]
        by_cases e : q = i ∧ b = j
        · rw [if_pos e]
          exact ⟨_, hml, rfl⟩
        · rw [if_neg e]
          exact hv q b (by omega))
    refine ⟨x', packs', pack', q1, q2, q3, ?_, ?_⟩
    · rw [fX0_begin_b22, if_neg (nnle (by omega) (by omega)), ex, nm_eq, g_nI hi (by omega), ck_true, hz, ck_true, em, nm_eq, g_nI (show j < 6 by omega) (by omega), ck_true, nm_eq, nI_1, clN (by omega), clN (by omega)]
      exact q4
    · rw [fX9_draft_b81, if_neg (nnle (by omega) (by omega)), ex, nm_eq, hz, ck_true, em, nm_eq, ix6, g_nI (show 6 * i + j < 36 by omega) (by omega), ck_true, nm_eq, nI_1, clN (by omega)]
      exact q5
theorem dr_outer {n : Nat} (hn : 1 ≤ n) (hn2 : n ≤ 20) {P C : Nat} (hP : P < 7) (hC : C < 7) {drafters mcards mround mturn players cards round turn : Int32} (thrown : Int32) :
    ∀ (r i x f1 f2 : Nat) (packs : Nat → Nat → Int32) (pack packSize : Nat → Int32), i + r = P → r < f1 → r < f2 → x < 65537 → RPk packs pack → (∀ q b, q < i → b < C → ∃ k, k < n ∧ packs q b = nI k) → (∀ q, q < i → packSize q = nI C) →
      ∃ packs' pack' packSize', RPk packs' pack' ∧ (∀ q b, q < P → b < C → ∃ k, k < n ∧ packs' q b = nI k) ∧ (∀ q, q < P → packSize' q = nI C) ∧
        fX0_begin_b13 f1 players cards round turn packs (nI P) (nI C) (nI n) (nI x) (nI i) = some (nI P, nI C, 0, 0, packs') ∧
        fX9_draft_b72 (nI n) f2 thrown drafters mcards mround mturn pack packSize (nI P) (nI C) (nI x) (nI i) = some (thrown, nI P, nI C, 0, 0, pack', packSize') := by
  intro r
  induction r with
  | zero =>
    intro i x f1 f2 packs pack packSize hi h1 h2 hx hp hv hs
    rcases f1 with _ | f1
    · omega
    rcases f2 with _ | f2
    · omega
    refine ⟨packs, pack, packSize, hp, fun q b hq hb => hv q b (by omega) hb, fun q hq => hs q (by omega), ?_, ?_⟩
    · rw [fX0_begin_b13, if_pos (nle (by omega) (by omega))]
    · rw [fX9_draft_b72, if_pos (nle (by omega) (by omega))]
  | succ r ih =>
    intro i x f1 f2 packs pack packSize hi h1 h2 hx hp hv hs
    rcases f1 with _ | f1
    · omega
    rcases f2 with _ | f2
    · omega
    obtain ⟨x', packs', pack', q1, q2, q3, q4, q5⟩ := dr_inner (P := P) (drafters := drafters) (mcards := mcards) (mround := mround) (mturn := mturn) (players := players) (cards := cards) (round := round) (turn := turn) (packSize := packSize) (k13 := fX0_begin_b13 f1) (k72 := fX9_draft_b72 (nI n) f2) hn hn2 (show i < 6 by omega) hC thrown C 0 x 70 70 packs pack (by omega) (by omega) (by omega) hx hp (fun q b hqb => hv q b (by omega) (by omega))
    obtain ⟨packs2, pack2, ps2, r1, r2, r3, r4, r5⟩ := ih (i + 1) x' f1 f2 packs' pack' (upd packSize i (nI C)) (by omega) (by omega) (by omega) q1 q2 q3 (fun q hq => by
      by_cases e : q = i
      · subst e
        exact upd_s _ _ _
      · rw [upd_n e]
        exact hs q (by omega))
    refine ⟨packs2, pack2, ps2, r1, r2, r3, ?_, ?_⟩
    · rw [fX0_begin_b13, if_neg (nnle (by omega) (by omega)), show fX0_begin_b22 (fX0_begin_b13 f1) 70 players cards round turn packs (nI P) (nI C) (nI n) (nI x) (nI i) 0 = _ from q4]
      exact r4
    · rw [fX9_draft_b72, if_neg (nnle (by omega) (by omega)), show fX9_draft_b81 (fX9_draft_b72 (nI n) f2) (nI n) 70 thrown drafters mcards mround mturn pack packSize (nI P) (nI C) (nI x) (nI i) 0 = _ from q5]
      exact r5
