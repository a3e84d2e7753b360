/-! MATH 6: drafts -/
def own (P t r : Nat) : Nat := (t + 6 * P - r) % P
theorem own_eq : ∀ P, P < 7 → 2 ≤ P → ∀ t, t < P → ∀ r, r < 6 → fX0_packInTurn (nI P) (nI r) (nI t) = some (nI (own P t r)) ∧ fX9_packBefore (nI P) (nI r) (nI t) = some (nI (own P t r)) := by decide +kernel
theorem own_lt {P t r : Nat} (h : 2 ≤ P) : own P t r < P := Nat.mod_lt _ (by omega)
def ownInj (P r : Nat) : Bool := (List.range P).all fun t => (List.range P).all fun u => own P t r != own P u r || t == u
theorem own_inj' : ∀ P, P < 7 → ∀ r, r < 6 → ownInj P r = true := by decide +kernel
theorem own_inj {P r t u : Nat} (h1 : P < 7) (h2 : 2 ≤ P) (h3 : r < 6) (ht : t < P) (hu : u < P) (h : own P t r = own P u r) : t = u := by
  have q := own_inj' P h1 r h3
  unfold ownInj at q
  have q2 := List.all_eq_true.mp (List.all_eq_true.mp q t (List.mem_range.mpr ht)) u (List.mem_range.mpr hu)
  simp [h] at q2
  exact q2
theorem own_sur : ∀ P, P < 7 → 2 ≤ P → ∀ r, r < 6 → ∀ q, q < P → ∃ t, t < P ∧ own P t r = q := by decide +kernel
def RPk (packs : Nat → Nat → Int32) (pack : Nat → Int32) : Prop := ∀ q j, q < 6 → j < 6 → packs q j = pack (6 * q + j)
/-- no draft goes on -/
def RDr0 (players cards round turn : Int32) (mturn : Int32) : Prop := mturn = -1 ∧ ∃ c, c < 7 ∧ cards = nI c ∧ round = nI c
/-- a draft goes on: P players, C cards each, the round r, the turn t -/
def RDr1 (n P C r t : Nat) (players cards round turn : Int32) (packs : Nat → Nat → Int32) (drafters mcards mround mturn : Int32) (packSize : Nat → Int32) : Prop :=
  2 ≤ P ∧ P < 7 ∧ 3 ≤ C ∧ C < 7 ∧ r < C ∧ t < P ∧ players = nI P ∧ drafters = nI P ∧ cards = nI C ∧ mcards = nI C ∧ round = nI r ∧ mround = nI r ∧ turn = nI t ∧ mturn = nI t ∧
    (∀ q j, q < P → j < C → ∃ k, k < n ∧ packs q j = nI k) ∧ ∀ u, u < P → packSize (own P u r) = nI (if u < t then C - r - 1 else C - r)
def RDr (n : Nat) (players cards round turn : Int32) (packs : Nat → Nat → Int32) (drafters mcards mround mturn : Int32) (pack packSize : Nat → Int32) : Prop :=
  RPk packs pack ∧ (RDr0 players cards round turn mturn ∨ ∃ P C r t, RDr1 n P C r t players cards round turn packs drafters mcards mround mturn packSize)
theorem RDr.mono {n n' : Nat} {players cards round turn : Int32} {packs : Nat → Nat → Int32} {drafters mcards mround mturn : Int32} {pack packSize : Nat → Int32} (h : RDr n players cards round turn packs drafters mcards mround mturn pack packSize) (hn : n ≤ n') : RDr n' players cards round turn packs drafters mcards mround mturn pack packSize := by
  obtain ⟨h1, h2⟩ := h
  refine ⟨h1, ?_⟩
  rcases h2 with h2 | ⟨P, C, r, t, a1, a2, a3, a4, a5, a6, a7, a8, a9, b1, b2, b3, b4, b5, b6, b7⟩
  · exact Or.inl h2
  · refine Or.inr ⟨P, C, r, t, a1, a2, a3, a4, a5, a6, a7, a8, a9, b1, b2, b3, b4, b5, fun q j hq hj => ?_, b7⟩
    obtain ⟨k, hk, e⟩ := b6 q j hq hj
    exact ⟨k, by omega, e⟩
theorem m_offered {n : Nat} {players cards round turn : Int32} {packs : Nat → Nat → Int32} {drafters mcards mround mturn : Int32} {pack packSize : Nat → Int32} (hR : RDr n players cards round turn packs drafters mcards mround mturn pack packSize) (thrown p1 : Int32) :
    (∃ r, fX8_offered players cards round turn packs p1 = some (.inl (r, ())) ∧ fX9_offered thrown drafters mround mturn pack packSize p1 = some (r, 0)) ∨
    (fX8_offered players cards round turn packs p1 = some (.inr ("java/lang/IndexOutOfBoundsException", ())) ∧ ∃ b, fX9_offered thrown drafters mround mturn pack packSize p1 = some (b, 1)) := by
  obtain ⟨hpk, hR⟩ := hR
  unfold fX8_offered fX9_offered fX9_offered_b10 fX9_offered_b24 fX9_offered_b36 fX9_offered_b67 fX8_offered_b37 fX0_countOffered
  by_cases h0 : p1 < 0
  · right
    refine ⟨by rw [if_neg (Int32.not_le.mpr h0)], ?_⟩
    rw [if_pos h0, goesWell_1, ob_some]
    exact ⟨_, rfl⟩
  · left
    have h0' := Int32.not_lt.mp h0
    rcases hR with ⟨rfl, c, hc, rfl, rfl⟩ | ⟨P, C, r, t, a1, a2, a3, a4, a5, a6, rfl, rfl, rfl, rfl, rfl, rfl, rfl, rfl, b6, b7⟩
    · refine ⟨-1, ?_, ?_⟩
      · rw [if_pos h0', ob_some, pk_sub (Nat.le_refl _), Nat.sub_self, if_pos (show nI 0 ≤ p1 from h0')]
      · rw [if_neg h0, goesWell_0, ob_some]
        dsimp only
        rw [if_neg one0, if_pos rfl, if_pos rfl]
    · have hown := own_eq P a2 a1 t a6 r (by omega)
      have hol := own_lt (P := P) (t := t) (r := r) a1
      have hps := b7 t a6
      rw [if_neg (Nat.lt_irrefl t)] at hps
      have htm : ¬ nI t = -1 := fun h => absurd (h ▸ nI_pos' (show t < 2 ^ 31 by omega)) (by decide)
      rcases in_n p1 (C - r) (by omega) with ⟨j, hj, rfl⟩ | ⟨hj, -⟩
      · obtain ⟨k, hk, ek⟩ := b6 (own P t r) j hol (by omega)
        refine ⟨nI k, ?_, ?_⟩
        · unfold fX0_kindAt
          rw [if_pos h0', ob_some, pk_sub (show r ≤ C by omega), if_neg (nnle hj (by omega)), hown.1, ob_some, g_nI (show own P t r < 6 by omega) (by omega), ck_true, g_nI (show j < 6 by omega) (by omega), ck_true, clN (by omega), clN (by omega), ek, ob_some]
        · rw [if_neg h0, goesWell_0, ob_some]
          dsimp only
          rw [if_neg one0, if_neg htm, hown.2, ob_some, g_nI (show own P t r < 6 by omega) (by omega), ck_true, clN (by omega), hps, if_neg (nnle hj (by omega)), ix6, g_nI (show 6 * own P t r + j < 36 by omega) (by omega), ck_true, clN (by omega), ← hpk _ _ (by omega) (by omega), ek]
      · have hj' : nI (C - r) ≤ p1 := by
          rcases hj with h | h
          · exact absurd h h0
          · exact h
        refine ⟨-1, ?_, ?_⟩
        · rw [if_pos h0', ob_some, pk_sub (show r ≤ C by omega), if_pos hj']
        · rw [if_neg h0, goesWell_0, ob_some]
          dsimp only
          rw [if_neg one0, if_neg htm, hown.2, ob_some, g_nI (show own P t r < 6 by omega) (by omega), ck_true, clN (by omega), hps, if_pos hj']
/-- the inner loop of the draft: one pack -/
theorem dr_inner {n : Nat} (hn : 1 ≤ n) (hn2 : n ≤ 20) {P C i : Nat} (hi : i < 6) (hC : C < 7) {drafters mcards mround mturn players cards round turn : Int32} (thrown : Int32) {packSize : Nat → Int32}
    {k13 : Int32 → Int32 → Int32 → Int32 → (Nat → Nat → Int32) → Int32 → Int32 → Int32 → Int32 → Int32 → Option (Int32 × Int32 × Int32 × Int32 × (Nat → Nat → Int32))}
    {k72 : Int32 → Int32 → Int32 → Int32 → Int32 → (Nat → Int32) → (Nat → Int32) → Int32 → Int32 → Int32 → Int32 → Option (Int32 × Int32 × Int32 × Int32 × Int32 × (Nat → Int32) × (Nat → Int32))} :
    ∀ (r j x f1 f2 : Nat) (packs : Nat → Nat → Int32) (pack : Nat → Int32), j + r = C → r < f1 → r < f2 → x < 65537 → RPk packs pack → (∀ q b, ((q < i ∧ b < C) ∨ (q = i ∧ b < j)) → ∃ k, k < n ∧ packs q b = nI k) →
      ∃ x' packs' pack', x' < 65537 ∧ RPk packs' pack' ∧ (∀ q b, q < i + 1 → b < C → ∃ k, k < n ∧ packs' q b = nI k) ∧
        fX0_begin_b22 k13 f1 players cards round turn packs (nI P) (nI C) (nI n) (nI x) (nI i) (nI j) = k13 players cards round turn packs' (nI P) (nI C) (nI n) (nI x') (nI (i + 1)) ∧
        fX9_draft_b81 k72 (nI n) f2 thrown drafters mcards mround mturn pack packSize (nI P) (nI C) (nI x) (nI i) (nI j) = k72 thrown drafters mcards mround mturn pack' (upd packSize i (nI C)) (nI P) (nI C) (nI x') (nI (i + 1)) := by
  intro r
  induction r with
  | zero =>
    intro j x f1 f2 packs pack hj h1 h2 hx hp hv
    rcases f1 with _ | f1
    · omega
    rcases f2 with _ | f2
    · omega
    refine ⟨x, packs, pack, hx, hp, fun q b hq hb => hv q b (by omega), ?_, ?_⟩
    · rw [fX0_begin_b22, if_pos (nle (by omega) (by omega)), nm_eq, nI_1]
    · rw [fX9_draft_b81, if_pos (nle (by omega) (by omega)), g_nI hi (by omega), ck_true, nm_eq, nI_1, clN (by omega)]
  | succ r ih =>
    intro j x f1 f2 packs pack hj h1 h2 hx hp hv
    rcases f1 with _ | f1
    · omega
    rcases f2 with _ | f2
    · omega
    have ex : ((75 * nI x + 74) - (75 * nI x + 74) / 65537 * 65537 : Int32) = nI ((75 * x + 74) % 65537) := by
      rw [show (75 : Int32) = nI 75 from rfl, show (74 : Int32) = nI 74 from rfl, show (65537 : Int32) = nI 65537 from rfl, pk_mul, nI_add]
      exact pk_rem (by omega) (by omega) (by omega)
    generalize hx2 : (75 * x + 74) % 65537 = x2 at ex
    have hx2' : x2 < 65537 := by rw [← hx2]; exact Nat.mod_lt _ (by omega)
    have em : (nI x2 - nI x2 / nI n * nI n : Int32) = nI (x2 % n) := pk_rem (by omega) (by omega) (by omega)
    have hz : nz (nI n) = true := by
      have := nI_ne0 (n := n) (by omega) (by omega)
      simp [nz, this]
    have hml : x2 % n < n := Nat.mod_lt _ (by omega)
    obtain ⟨x', packs', pack', q1, q2, q3, q4, q5⟩ := ih (j + 1) x2 f1 f2 (gup packs i j (nI (x2 % n))) (upd pack (6 * i + j) (nI (x2 % n))) (by omega) (by omega) (by omega) hx2' (fun q b hq hb => by
        rw [gup_val]
        unfold upd
        by_cases e : q = i ∧ b = j
        · obtain ⟨rfl, rfl⟩ := e
          rw [if_pos ⟨rfl, rfl⟩, if_pos rfl]
        · rw [if_neg e, if_neg (by omega)]
          exact hp q b hq hb) (fun q b hqb => by
        rw [gup_val]
        by_cases e : q = i ∧ b = j
        · rw [if_pos e]
          exact ⟨_, hml, rfl⟩
        · rw [if_neg e]
          exact hv q b (by omega))
    refine ⟨x', packs', pack', q1, q2, q3, ?_, ?_⟩
    · rw [fX0_begin_b22, if_neg (nnle (by omega) (by omega)), ex, nm_eq, g_nI hi (by omega), ck_true, hz, ck_true, em, nm_eq, g_nI (show j < 6 by omega) (by omega), ck_true, nm_eq, nI_1, clN (by omega), clN (by omega)]
      exact q4
    · rw [fX9_draft_b81, if_neg (nnle (by omega) (by omega)), ex, nm_eq, hz, ck_true, em, nm_eq, ix6, g_nI (show 6 * i + j < 36 by omega) (by omega), ck_true, nm_eq, nI_1, clN (by omega)]
      exact q5
theorem dr_outer {n : Nat} (hn : 1 ≤ n) (hn2 : n ≤ 20) {P C : Nat} (hP : P < 7) (hC : C < 7) {drafters mcards mround mturn players cards round turn : Int32} (thrown : Int32) :
    ∀ (r i x f1 f2 : Nat) (packs : Nat → Nat → Int32) (pack packSize : Nat → Int32), i + r = P → r < f1 → r < f2 → x < 65537 → RPk packs pack → (∀ q b, q < i → b < C → ∃ k, k < n ∧ packs q b = nI k) → (∀ q, q < i → packSize q = nI C) →
      ∃ packs' pack' packSize', RPk packs' pack' ∧ (∀ q b, q < P → b < C → ∃ k, k < n ∧ packs' q b = nI k) ∧ (∀ q, q < P → packSize' q = nI C) ∧
        fX0_begin_b13 f1 players cards round turn packs (nI P) (nI C) (nI n) (nI x) (nI i) = some (nI P, nI C, 0, 0, packs') ∧
        fX9_draft_b72 (nI n) f2 thrown drafters mcards mround mturn pack packSize (nI P) (nI C) (nI x) (nI i) = some (thrown, nI P, nI C, 0, 0, pack', packSize') := by
  intro r
  induction r with
  | zero =>
    intro i x f1 f2 packs pack packSize hi h1 h2 hx hp hv hs
    rcases f1 with _ | f1
    · omega
    rcases f2 with _ | f2
    · omega
    refine ⟨packs, pack, packSize, hp, fun q b hq hb => hv q b (by omega) hb, fun q hq => hs q (by omega), ?_, ?_⟩
    · rw [fX0_begin_b13, if_pos (nle (by omega) (by omega))]
    · rw [fX9_draft_b72, if_pos (nle (by omega) (by omega))]
  | succ r ih =>
    intro i x f1 f2 packs pack packSize hi h1 h2 hx hp hv hs
    rcases f1 with _ | f1
    · omega
    rcases f2 with _ | f2
    · omega
    obtain ⟨x', packs', pack', q1, q2, q3, q4, q5⟩ := dr_inner (P := P) (drafters := drafters) (mcards := mcards) (mround := mround) (mturn := mturn) (players := players) (cards := cards) (round := round) (turn := turn) (packSize := packSize) (k13 := fX0_begin_b13 f1) (k72 := fX9_draft_b72 (nI n) f2) hn hn2 (show i < 6 by omega) hC thrown C 0 x 70 70 packs pack (by omega) (by omega) (by omega) hx hp (fun q b hqb => hv q b (by omega) (by omega))
    obtain ⟨packs2, pack2, ps2, r1, r2, r3, r4, r5⟩ := ih (i + 1) x' f1 f2 packs' pack' (upd packSize i (nI C)) (by omega) (by omega) (by omega) q1 q2 q3 (fun q hq => by
      by_cases e : q = i
      · subst e
        exact upd_s _ _ _
      · rw [upd_n e]
        exact hs q (by omega))
    refine ⟨packs2, pack2, ps2, r1, r2, r3, ?_, ?_⟩
    · rw [fX0_begin_b13, if_neg (nnle (by omega) (by omega)), show fX0_begin_b22 (fX0_begin_b13 f1) 70 players cards round turn packs (nI P) (nI C) (nI n) (nI x) (nI i) 0 = _ from q4]
      exact r4
    · rw [fX9_draft_b72, if_neg (nnle (by omega) (by omega)), show fX9_draft_b81 (fX9_draft_b72 (nI n) f2) (nI n) 70 thrown drafters mcards mround mturn pack packSize (nI P) (nI C) (nI x) (nI i) 0 = _ from q5]
      exact r5
theorem m_draft {n : Nat} (hn2 : n ≤ 20) {players cards round turn : Int32} {packs : Nat → Nat → Int32} {drafters mcards mround mturn : Int32} {pack packSize : Nat → Int32} (hR : RDr n players cards round turn packs drafters mcards mround mturn pack packSize) (thrown p1 p2 p3 : Int32) :
    (∃ a b c d packs' e f g h pack' packSize', fX8_draft (nI n) players cards round turn packs p1 p2 p3 = some (.inl ((), a, b, c, d, packs')) ∧ fX9_draft thrown (nI n) drafters mcards mround mturn pack packSize p1 p2 p3 = some (0, e, f, g, h, pack', packSize') ∧ RDr n a b c d packs' e f g h pack' packSize') ∨
    (fX8_draft (nI n) players cards round turn packs p1 p2 p3 = some (.inr ("java/lang/IllegalArgumentException", players, cards, round, turn, packs)) ∧ fX9_draft thrown (nI n) drafters mcards mround mturn pack packSize p1 p2 p3 = some (1, drafters, mcards, mround, mturn, pack, packSize)) ∨
    (fX8_draft (nI n) players cards round turn packs p1 p2 p3 = some (.inr ("java/lang/IllegalStateException", players, cards, round, turn, packs)) ∧ fX9_draft thrown (nI n) drafters mcards mround mturn pack packSize p1 p2 p3 = some (2, drafters, mcards, mround, mturn, pack, packSize)) := by
  unfold fX8_draft fX9_draft fX9_draft_b34 fX9_draft_b35 fX9_draft_b59 fX8_draft_b11 fX8_draft_b32 fX8_draft_b52
  rw [in_eq, ob_some, in_eq, ob_some, in_eq, ob_some]
  by_cases h1 : (2 : Int32) ≤ p1 ∧ p1 ≤ 6
  · rw [if_neg (Int32.not_lt.mpr h1.1), if_pos h1.2, if_pos h1, if_neg one0]
    by_cases h2 : (3 : Int32) ≤ p2 ∧ p2 ≤ 6
    · rw [if_neg (Int32.not_lt.mpr h2.1), if_pos h2.2, if_pos h2, if_neg one0]
      by_cases h3 : (0 : Int32) ≤ p3 ∧ p3 ≤ 65536
      · obtain ⟨P, hP1, hP2, rfl⟩ := le_n (p := p1) (a := 2) (b := 6) (by omega) h1.1 h1.2 (by omega)
        obtain ⟨C, hC1, hC2, rfl⟩ := le_n (p := p2) (a := 3) (b := 6) (by omega) h2.1 h2.2 (by omega)
        obtain ⟨x, -, hx, rfl⟩ := le_n (p := p3) (a := 0) (b := 65536) (by omega) h3.1 h3.2 (by omega)
        rw [if_neg (Int32.not_lt.mpr h3.1), if_pos (show nI x < 65537 from nlt (b := 65537) (by omega) (by omega)), if_pos h3, if_neg one0, if_neg one0]
        rcases Nat.eq_zero_or_pos n with rfl | hn
        · right; right
          refine ⟨by rw [if_pos (show nI 0 = 0 from rfl)], ?_⟩
          rw [if_pos (show nI 0 = 0 from rfl), goesWell_2, ob_some]
          dsimp only
          rw [if_pos rfl]
        · left
          obtain ⟨packs', pack', packSize', q1, q2, q3, q4, q5⟩ := dr_outer (drafters := drafters) (mcards := mcards) (mround := mround) (mturn := mturn) (players := players) (cards := cards) (round := round) (turn := turn) hn hn2 (show P < 7 by omega) (show C < 7 by omega) 0 P 0 x 70 70 packs pack packSize (by omega) (by omega) (by omega) (by omega) hR.1 (fun q b hq => absurd hq (by omega)) (fun q hq => absurd hq (by omega))
          have hz : ¬ nI n = 0 := neqI (b := 0) (by omega) (by omega) (by omega)
          refine ⟨nI P, nI C, 0, 0, packs', nI P, nI C, 0, 0, pack', packSize', ?_, ?_, q1, Or.inr ⟨P, C, 0, 0, hP1, by omega, hC1, by omega, by omega, by omega, rfl, rfl, rfl, rfl, rfl, rfl, rfl, rfl, q2, fun u hu => ?_⟩⟩
          · unfold fX0_begin
            rw [if_neg hz, if_pos (show (1 : Int32) ≤ nI n from nle (a := 1) (by omega) (by omega)), show fX0_begin_b13 70 players cards round turn packs (nI P) (nI C) (nI n) (nI x) 0 = _ from q4, ob_some]
          · rw [if_neg hz, goesWell_0, ob_some]
            dsimp only
            rw [if_neg one0]
            exact q5
          · rw [if_neg (Nat.not_lt_zero _), Nat.sub_zero]
            exact q3 _ (own_lt hP1)
      · right; left
        refine ⟨?_, ?_⟩
        · by_cases h : p3 < 0
          · rw [if_pos h]
          · rw [if_neg h, if_neg (fun q => h3 ⟨Int32.not_lt.mp h, by
              rw [i32le]; rw [i32lt] at q
              rw [show (65537 : Int32).toInt = 65537 from rfl] at q
              rw [show (65536 : Int32).toInt = 65536 from rfl]
              omega⟩)]
        · rw [if_neg h3, if_pos rfl, if_pos rfl, goesWell_1, ob_some]
          dsimp only
          rw [if_pos rfl]
    · right; left
      refine ⟨?_, ?_⟩
      · by_cases h : p2 < 3
        · rw [if_pos h]
        · rw [if_neg h, if_neg (fun q => h2 ⟨Int32.not_lt.mp h, q⟩)]
      · rw [if_neg h2, if_pos rfl, if_pos rfl, goesWell_1, ob_some]
        dsimp only
        rw [if_pos rfl]
  · right; left
    refine ⟨?_, ?_⟩
    · by_cases h : p1 < 2
      · rw [if_pos h]
      · rw [if_neg h, if_neg (fun q => h1 ⟨Int32.not_lt.mp h, q⟩)]
    · rw [if_neg h1, if_pos rfl, if_pos rfl, goesWell_1, ob_some]
      dsimp only
      rw [if_pos rfl]
/-- what stands after the pick, at the class and at the reference -/
def pkC (P r t : Nat) (packs : Nat → Nat → Int32) : Option (Int32 × Int32 × (Nat → Nat → Int32)) :=
  if t + 1 < P then some (nI r, nI (t + 1), packs) else some (nI (r + 1), 0, packs)
def pkM (P C r t : Nat) (thrown : Int32) (has pack packSize : Nat → Int32) : Option (Int32 × Int32 × Int32 × Int32 × (Nat → Int32) × (Nat → Int32) × (Nat → Int32)) :=
  if t + 1 < P then some (nI (t + 1), thrown, nI r, nI (t + 1), has, pack, packSize)
  else if r + 1 < C then some (0, thrown, nI (r + 1), 0, has, pack, packSize)
  else some (-1, thrown, nI (r + 1), -1, has, pack, packSize)
theorem pk_shift {n P C r t o : Nat} (hP : P < 7) (hC : C < 7) (hr : r < C) (ht : t < P) (ho : o < 6) (thrown : Int32) (has : Nat → Int32) {packSize : Nat → Int32} (hps : packSize o = nI (C - r - 1)) :
    ∀ (s a f1 f2 : Nat) (packs : Nat → Nat → Int32) (pack : Nat → Int32), a + s = C - r - 1 → s < f1 → s < f2 → RPk packs pack → (∀ q b, q < P → b < C → ∃ k, k < n ∧ packs q b = nI k) →
      ∃ packs' pack', RPk packs' pack' ∧ (∀ q b, q < P → b < C → ∃ k, k < n ∧ packs' q b = nI k) ∧
        fX0_takeOut_b9 (nI P) (nI C) f1 (nI r) (nI t) packs (nI o) (nI (a + 1)) = pkC P r t packs' ∧
        fX9_pick_b107 (nI P) (nI C) f2 thrown (nI r) (nI t) has pack packSize (nI o) (nI a) = pkM P C r t thrown has pack' packSize := by
  intro s
  induction s with
  | zero =>
    intro a f1 f2 packs pack ha h1 h2 hp hv
    rcases f1 with _ | f1
    · omega
    rcases f2 with _ | f2
    · omega
    refine ⟨packs, pack, hp, hv, ?_, ?_⟩
    · rw [fX0_takeOut_b9]
      unfold fX0_countOffered fX0_takeOut_b77 pkC
      rw [pk_sub (by omega), ob_some, if_pos (nle (by omega) (by omega)), nm_eq, nI_1, nm_eq, nI_1]
      by_cases h : t + 1 < P
      · rw [if_pos h, if_pos (nlt h (by omega))]
      · rw [if_neg h, if_neg (nnlt (by omega) (by omega))]
    · rw [fX9_pick_b107, g_nI ho (by omega), ck_true, clN (by omega), hps, if_pos (nle (by omega) (by omega)), nm_eq, nI_1, nm_eq, nI_1]
      unfold fX9_pick_b198 fX9_pick_b201 pkM
      by_cases h : t + 1 < P
      · rw [if_pos h, if_neg (neqI (by omega) (by omega) (by omega))]
      · rw [if_neg h, show t + 1 = P by omega, if_pos rfl]
        by_cases h' : r + 1 < C
        · rw [if_pos h', if_neg (neqI (by omega) (by omega) (by omega))]
        · rw [if_neg h', show r + 1 = C by omega, if_pos rfl]
  | succ s ih =>
    intro a f1 f2 packs pack ha h1 h2 hp hv
    rcases f1 with _ | f1
    · omega
    rcases f2 with _ | f2
    · omega
    obtain ⟨packs', pack', q1, q2, q3, q4⟩ := ih (a + 1) f1 f2 (gup packs o a (packs o (a + 1))) (upd pack (6 * o + a) (packs o (a + 1))) (by omega) (by omega) (by omega) (fun q b hq hb => by
        rw [gup_val]
        unfold upd
        by_cases e : q = o ∧ b = a
        · obtain ⟨rfl, rfl⟩ := e
          rw [if_pos ⟨rfl, rfl⟩, if_pos rfl]
        · rw [if_neg e, if_neg (by omega)]
          exact hp q b hq hb) (fun q b hq hb => by
        rw [gup_val]
        by_cases e : q = o ∧ b = a
        · rw [if_pos e]
          rw [e.1] at hq
          exact hv o (a + 1) hq (by omega)
        · rw [if_neg e]
          exact hv q b hq hb)
    refine ⟨packs', pack', q1, q2, ?_, ?_⟩
    · rw [fX0_takeOut_b9]
      unfold fX0_countOffered
      rw [pk_sub (by omega), ob_some, if_neg (nnle (by omega) (by omega)), g_nI ho (by omega), ck_true, ck_true, g_nI (show a + 1 < 6 by omega) (by omega), ck_true, nm_eq, nI_pred, g_nI (show a < 6 by omega) (by omega), ck_true, nm_eq, nI_1, clN (by omega), clN (by omega), clN (by omega)]
      exact q3
    · rw [fX9_pick_b107, g_nI ho (by omega), ck_true, clN (by omega), hps, if_neg (nnle (by omega) (by omega)), ix6, nI_1, g_nI (show 6 * o + a + 1 < 36 by omega) (by omega), ck_true, nm_eq, g_nI (show 6 * o + a < 36 by omega) (by omega), ck_true, nm_eq, nI_1, clN (by omega), clN (by omega), show 6 * o + a + 1 = 6 * o + (a + 1) by omega, ← hp o (a + 1) ho (by omega)]
      exact q4
theorem m_pick {n : Nat} (hn2 : n ≤ 20) {scards : Nat → Nat → Int32} {has : Nat → Int32} (hC : RC n scards has) {players cards round turn : Int32} {packs : Nat → Nat → Int32} {drafters mcards mround mturn : Int32} {pack packSize : Nat → Int32} (hR : RDr n players cards round turn packs drafters mcards mround mturn pack packSize) (thrown p1 : Int32) :
    (∃ a scards' c d packs' f g has' pack' packSize', fX8_pick scards players cards round turn packs p1 = some (.inl (a, scards', c, d, packs')) ∧ fX9_pick thrown drafters mcards mround mturn has pack packSize p1 = some (a, 0, f, g, has', pack', packSize') ∧ RC n scards' has' ∧ RDr n players cards c d packs' drafters mcards f g pack' packSize') ∨
    (fX8_pick scards players cards round turn packs p1 = some (.inr ("java/lang/IndexOutOfBoundsException", scards, round, turn, packs)) ∧ ∃ b, fX9_pick thrown drafters mcards mround mturn has pack packSize p1 = some (b, 1, mround, mturn, has, pack, packSize)) ∨
    (fX8_pick scards players cards round turn packs p1 = some (.inr ("java/lang/IllegalStateException", scards, round, turn, packs)) ∧ ∃ b, fX9_pick thrown drafters mcards mround mturn has pack packSize p1 = some (b, 2, mround, mturn, has, pack, packSize)) := by
  obtain ⟨hpk, hR⟩ := hR
  unfold fX8_pick fX9_pick fX9_pick_b29 fX9_pick_b25 fX9_pick_b30
  by_cases h0 : p1 < 0
  · right; left
    refine ⟨by rw [if_neg (Int32.not_le.mpr h0)], ?_⟩
    rw [if_pos h0, if_pos rfl]
    unfold fX9_pick_b53
    rw [goesWell_1, ob_some]
    exact ⟨_, rfl⟩
  · have h0' := Int32.not_lt.mp h0
    rcases hR with ⟨rfl, c, hc, rfl, rfl⟩ | ⟨P, C, r, t, a1, a2, a3, a4, a5, a6, rfl, rfl, rfl, rfl, rfl, rfl, rfl, rfl, b6, b7⟩
    · right; right
      refine ⟨?_, ?_⟩
      · unfold fX0_goesOn fX0_goesOn_b16
        rw [if_pos h0', if_pos (nle (Nat.le_refl _) (by omega)), ob_some, if_pos rfl]
      · rw [if_neg h0, if_pos rfl, if_neg one0, if_pos rfl]
        unfold fX9_pick_b53
        rw [goesWell_2, ob_some]
        exact ⟨_, rfl⟩
    · have hown := own_eq P a2 a1 t a6 r (by omega)
      have hol := own_lt (P := P) (t := t) (r := r) a1
      have hps := b7 t a6
      rw [if_neg (Nat.lt_irrefl t)] at hps
      have htm : ¬ nI t = -1 := fun h => absurd (h ▸ nI_pos' (show t < 2 ^ 31 by omega)) (by decide)
      have hgo : fX0_goesOn (nI C) (nI r) = some 1 := by
        unfold fX0_goesOn fX0_goesOn_b16
        rw [if_neg (nnle (by omega) (by omega))]
      rcases in_n p1 (C - r) (by omega) with ⟨j, hj, rfl⟩ | ⟨hj, -⟩
      · left
        obtain ⟨k, hk, ek⟩ := b6 (own P t r) j hol (by omega)
        have hc0 := (hC t k (by omega) (by omega)).1
        obtain ⟨packs', pack', q1, q2, q3, q4⟩ := pk_shift (n := n) (P := P) (C := C) (r := r) (t := t) (o := own P t r) a2 a4 a5 a6 (by omega) 0 (upd has (20 * t + k) (has (20 * t + k) + 1)) (packSize := upd packSize (own P t r) (nI (C - r - 1))) (upd_s _ _ _) (C - r - 1 - j) j 70 70 packs pack (by omega) (by omega) (by omega) hpk b6
        have hput := hC.put (show t < 6 by omega) hk hn2 (has (20 * t + k) + 1)
        have e1 : fX9_pick thrown (nI P) (nI C) (nI r) (nI t) has pack packSize (nI j) = pkM P C r t 0 (upd has (20 * t + k) (has (20 * t + k) + 1)) pack' (upd packSize (own P t r) (nI (C - r - 1))) := by
          unfold fX9_pick fX9_pick_b29 fX9_pick_b25 fX9_pick_b30
          rw [if_neg h0, if_neg htm, hown.2, ob_some, g_nI (show own P t r < 6 by omega) (by omega), ck_true, clN (by omega), hps, if_neg (nnle hj (by omega)), if_neg one0, if_neg htm]
          unfold fX9_pick_b53
          rw [goesWell_0, ob_some]
          dsimp only
          rw [if_neg one0, hown.2, ob_some, ix6, g_nI (show 6 * own P t r + j < 36 by omega) (by omega), ck_true, clN (by omega), ← hpk _ _ (by omega) (by omega), ek, ix20 (by omega) (by omega), g_nI (show 20 * t + k < 120 by omega) (by omega), ck_true, nm_eq, ck_true, g_nI (show own P t r < 6 by omega) (by omega), ck_true, nm_eq, ck_true, clN (by omega), clN (by omega), hps, n1I (by omega)]
          exact q4
        have e2 : ∀ K : Int32 × Int32 × (Nat → Nat → Int32) → Option ((Int32 × (Nat → Nat → Int32) × Int32 × Int32 × (Nat → Nat → Int32)) ⊕ (String × (Nat → Nat → Int32) × Int32 × Int32 × (Nat → Nat → Int32))), ob (fX0_takeOut (nI P) (nI C) (nI r) (nI t) packs (nI j)) K = ob (pkC P r t packs') K := by
          intro K
          unfold fX0_takeOut
          rw [hown.1, ob_some, nm_eq, nI_1, q3]
        rw [if_pos h0', hgo, ob_some, if_neg one0]
        unfold fX0_countOffered
        rw [pk_sub (show r ≤ C by omega), ob_some, if_pos (nlt hj (by omega)), g_nI (show t < 6 by omega) (by omega), ck_true]
        unfold fX0_kindAt
        rw [hown.1, ob_some, g_nI (show own P t r < 6 by omega) (by omega), ck_true, g_nI (show j < 6 by omega) (by omega), ck_true, clN (by omega), clN (by omega), ek, ob_some, g_nI (show k < 20 by omega) (by omega), ck_true, nm_eq, ck_true, e2, clN (by omega), clN (by omega), hc0]
        have e1' := e1
        unfold fX9_pick fX9_pick_b29 fX9_pick_b25 fX9_pick_b30 at e1'
        rw [e1']
        clear e1 e1' e2
        unfold pkC pkM
        by_cases ht1 : t + 1 < P
        · refine ⟨nI (t + 1), gup scards t k (has (20 * t + k) + 1), nI r, nI (t + 1), packs', nI r, nI (t + 1), upd has (20 * t + k) (has (20 * t + k) + 1), pack', upd packSize (own P t r) (nI (C - r - 1)), ?_, ?_, hput, q1, Or.inr ⟨P, C, r, t + 1, a1, a2, a3, a4, a5, ht1, rfl, rfl, rfl, rfl, rfl, rfl, rfl, rfl, q2, fun u hu => ?_⟩⟩
          · rw [if_pos ht1, ob_some]
            dsimp only
            rw [hgo, ob_some, if_neg one0]
            rfl
          · rw [if_pos ht1]
          · by_cases e : u = t
            · subst e
              rw [upd_s, if_pos (by omega)]
            · rw [upd_n (fun q => e (own_inj a2 a1 (by omega) hu a6 q)), b7 u hu]
              by_cases h : u < t
              · rw [if_pos h, if_pos (by omega)]
              · rw [if_neg h, if_neg (by omega)]
        · by_cases hr1 : r + 1 < C
          · refine ⟨0, gup scards t k (has (20 * t + k) + 1), nI (r + 1), 0, packs', nI (r + 1), 0, upd has (20 * t + k) (has (20 * t + k) + 1), pack', upd packSize (own P t r) (nI (C - r - 1)), ?_, ?_, hput, q1, Or.inr ⟨P, C, r + 1, 0, a1, a2, a3, a4, hr1, by omega, rfl, rfl, rfl, rfl, rfl, rfl, rfl, rfl, q2, fun u hu => ?_⟩⟩
            · have hgo2 : fX0_goesOn (nI C) (nI (r + 1)) = some 1 := by
                unfold fX0_goesOn fX0_goesOn_b16
                rw [if_neg (nnle (by omega) (by omega))]
              rw [if_neg ht1, ob_some]
              dsimp only
              rw [hgo2, ob_some, if_neg one0]
              rfl
            · rw [if_neg ht1, if_pos hr1]
            · rw [if_neg (Nat.not_lt_zero _)]
              obtain ⟨v, hv, ev⟩ := own_sur P a2 a1 r (by omega) (own P u (r + 1)) (own_lt a1)
              rw [← ev]
              by_cases e : v = t
              · subst e
                rw [upd_s]
                rw [show C - r - 1 = C - (r + 1) by omega]
              · rw [upd_n (fun q => e (own_inj a2 a1 (by omega) hv a6 q)), b7 v hv, if_pos (by omega)]
                rw [show C - r - 1 = C - (r + 1) by omega]
          · refine ⟨-1, gup scards t k (has (20 * t + k) + 1), nI (r + 1), 0, packs', nI (r + 1), -1, upd has (20 * t + k) (has (20 * t + k) + 1), pack', upd packSize (own P t r) (nI (C - r - 1)), ?_, ?_, hput, q1, Or.inl ⟨rfl, C, by omega, rfl, by rw [show r + 1 = C by omega]⟩⟩
            · have hgo2 : fX0_goesOn (nI C) (nI (r + 1)) = some 0 := by
                unfold fX0_goesOn fX0_goesOn_b16
                rw [if_pos (nle (by omega) (by omega))]
              rw [if_neg ht1, ob_some]
              dsimp only
              rw [hgo2, ob_some, if_pos rfl]
              rfl
            · rw [if_neg ht1, if_neg hr1]
      · right; left
        have hj' : nI (C - r) ≤ p1 := by
          rcases hj with h | h
          · exact absurd h h0
          · exact h
        refine ⟨?_, ?_⟩
        · rw [if_pos h0', hgo, ob_some, if_neg one0]
          unfold fX0_countOffered
          rw [pk_sub (show r ≤ C by omega), ob_some, if_neg (Int32.not_lt.mpr hj')]
        · rw [if_neg h0, if_neg htm, hown.2, ob_some, g_nI (show own P t r < 6 by omega) (by omega), ck_true, clN (by omega), hps, if_pos hj', if_pos rfl]
          unfold fX9_pick_b53
          rw [goesWell_1, ob_some]
          exact ⟨_, rfl⟩
