/-! what a hall that is in the state a answers -/
theorem row_loopB {str mstr : Nat → Int32} (hstr : ∀ p, p < 6 → str p = mstr p) {B : Nat} (hB : B < 64) : ∀ (r q f f' len : Nat) (R : Nat → Nat) (row mrow : Nat → Int32), q + r = 6 → r < f → r < f' → len ≤ q → (∀ i, i < len → R i < q) → (∀ i j, i < j → j < len → R i ≠ R j) → (∀ i, i < len → row i = nI (R i) ∧ mrow i = nI (R i)) → (∀ i, i < len → B.testBit (R i) = true) →
    ∃ (len' : Nat) (R' : Nat → Nat) (row' mrow' : Nat → Int32), len' ≤ 6 ∧ fX3_makeRow_b7 str f (nI len) row (nI B) (nI q) = some (nI len', row') ∧ fX9_rowOf_b7 mstr f' (nI len) mrow (nI B) (nI q) = some (nI (len' - len' % 2), mrow') ∧ (∀ i, i < len' → R' i < 6) ∧ (∀ i j, i < j → j < len' → R' i ≠ R' j) ∧ (∀ i, i < len' → row' i = nI (R' i) ∧ mrow' i = nI (R' i)) ∧ ∀ i, i < len' → B.testBit (R' i) = true := by
  intro r
  induction r with
  | zero =>
    intro q f f' len R row mrow h1 h2 h3 h4 h5 h6 h7 h8
    rcases f with _ | f
    · omega
    rcases f' with _ | f'
    · omega
    refine ⟨len, R, row, mrow, by omega, ?_, ?_, fun i hi => by have := h5 i hi; omega, h6, h7, h8⟩
    · rw [fX3_makeRow_b7, if_pos (show 6 ≤ nI q from nle (a := 6) (by omega) (by omega))]
    · rw [fX9_rowOf_b7, if_pos (show 6 ≤ nI q from nle (a := 6) (by omega) (by omega)), nm_eq, show (2 : Int32) = nI 2 from rfl, pk_rem (by omega) (by omega) (by omega), pk_sub (Nat.mod_le _ _)]
  | succ r ih =>
    intro q f f' len R row mrow h1 h2 h3 h4 h5 h6 h7 h8
    rcases f with _ | f
    · omega
    rcases f' with _ | f'
    · omega
    rw [fX3_makeRow_b7, if_neg (show ¬ 6 ≤ nI q from nnle (a := 6) (by omega) (by omega)), bitI B hB q (by omega), fX9_rowOf_b7, if_neg (show ¬ 6 ≤ nI q from nnle (a := 6) (by omega) (by omega)), bitI B hB q (by omega)]
    unfold fX3_makeRow_b27
    by_cases hb : B.testBit q = true
    · rw [if_pos hb, if_pos rfl, if_pos rfl]
      obtain ⟨c, row', mrow', hc, q1, q2, q3⟩ := ins_loop hstr (fX9_rowOf_b7 mstr f') (nI B) (show len < 6 by omega) (show q < 6 by omega) h5 len 70 70 row mrow (Nat.le_refl _) (by omega) (by omega) h7 (fun i hi hi2 => by omega)
      unfold fX3_putIntoRow
      rw [if_pos (show nI len < 6 from nlt (b := 6) (by omega) (by omega)), q1, ob_some, q2]
      dsimp only
      rw [nm_eq, nI_1]
      refine ih (q + 1) f f' (len + 1) _ row' mrow' (by omega) (by omega) (by omega) (by omega) (fun i hi => ?_) (fun i j hij hj => ?_) q3 (fun i hi => ?_)
      · by_cases z1 : i < c
        · rw [if_pos z1]
          have := h5 i (by omega)
          omega
        · rw [if_neg z1]
          by_cases z2 : i = c
          · rw [if_pos z2]
            omega
          · rw [if_neg z2]
            have := h5 (i - 1) (by omega)
            omega
      · by_cases z1 : j < c
        · rw [if_pos z1, if_pos (show i < c by omega)]
          exact h6 i j hij (by omega)
        · rw [if_neg z1]
          by_cases z2 : j = c
          · rw [if_pos z2, if_pos (show i < c by omega)]
            have := h5 i (by omega)
            omega
          · rw [if_neg z2]
            have hj1 := h5 (j - 1) (by omega)
            by_cases y1 : i < c
            · rw [if_pos y1]
              exact h6 i (j - 1) (by omega) (by omega)
            · rw [if_neg y1]
              by_cases y2 : i = c
              · rw [if_pos y2]
                omega
              · rw [if_neg y2]
                exact h6 (i - 1) (j - 1) (by omega) (by omega)
      · by_cases z1 : i < c
        · rw [if_pos z1]
          exact h8 i (by omega)
        · rw [if_neg z1]
          by_cases z2 : i = c
          · rw [if_pos z2]
            exact hb
          · rw [if_neg z2]
            exact h8 (i - 1) (by omega)
    · rw [if_neg hb, if_neg (by decide), if_neg (by decide), nm_eq, nI_1]
      unfold fX9_rowOf_b90
      rw [nm_eq, nI_1]
      exact ih (q + 1) f f' len R row mrow (by omega) (by omega) (by omega) (by omega) (fun i hi => by have := h5 i hi; omega) h6 h7 h8

theorem pair_val (row0 : Nat → Int32) {str met mstr haveMet : Nat → Int32} (hM : RM str met mstr haveMet) {B : Nat} (hB : B < 64) : ∃ (h : Nat) (R : Nat → Nat) (w : Option Wy), (∀ i, i < 2 * h → R i < 6 ∧ B.testBit (R i) = true) ∧ (∀ i j, i < 2 * h → j < 2 * h → R i = R j → i = j) ∧ (∀ w', w = some w' → (flat w').Nodup ∧ ∀ i ∈ flat w', i < 2 * h) ∧ ∀ P, P < 6 → ∃ many mrow, fX9_pair 0 0 mstr haveMet row0 (nI P) (nI B) = some (resW R P w, 0, many, mrow) := by
  obtain ⟨hs, mm, hmm⟩ := hM
  obtain ⟨len, R, row', mrow', hlen, u1, u2, u3, u4, u5, u6⟩ := row_loopB hs hB 6 0 70 70 0 (fun _ => 0) row0 row0 (by omega) (by omega) (by omega) (by omega) (fun i hi => absurd hi (Nat.not_lt_zero _)) (fun i j _ hj => absurd hj (Nat.not_lt_zero _)) (fun i hi => absurd hi (Nat.not_lt_zero _)) (fun i hi => absurd hi (Nat.not_lt_zero _))
  obtain ⟨h, hh, eh⟩ : ∃ h, h < 4 ∧ len - len % 2 = 2 * h := ⟨len / 2, by omega, by omega⟩
  have hinj : ∀ i j, i < 2 * h → j < 2 * h → R i = R j → i = j := fun i j hi hj e => by
    rcases Nat.lt_trichotomy i j with q | q | q
    · exact absurd e (u4 i j q (by omega))
    · exact q
    · exact absurd e.symm (u4 j i q (by omega))
  obtain ⟨t1, t2, t3⟩ := tabW h hh
  refine ⟨h, R, (ways h (List.range (2 * h))).find? (okW fun x y => (mm (R x)).testBit (R y)), fun i hi => ⟨u3 i (by omega), u6 i (by omega)⟩, hinj, fun w' hw' => ?_, fun P hP => ?_⟩
  · have hwm : w' ∈ wW h := List.mem_of_find?_eq_some hw'
    exact ⟨(t2 w' hwm).1, (t2 w' hwm).2.1⟩
  · have hw := fun th => ways_loop (str := mstr) hh hP th (fun p hp => ⟨(hmm p hp).2.1, (hmm p hp).2.2⟩) (fun i hi => ⟨(u5 i (by omega)).2, u3 i (by omega)⟩) hinj (wN h) 0 70 (by omega) (by
      unfold wN
      split
      · omega
      · split <;> omega)
    have hw0 : (wW h).drop 0 = ways h (List.range (2 * h)) := rfl
    rw [hw0] at hw
    refine ⟨nI (2 * h), mrow', ?_⟩
    unfold fX9_pair fX9_pair_b28 fX9_pair_b29
    rw [isPlayer_ok hP, ob_some, if_neg one0, if_neg (nI_pos (by omega)), if_neg (show ¬ 63 < nI B from nnlt (a := 63) (b := B) (by omega) (by omega)), goesWell_0, ob_some]
    dsimp only
    rw [if_neg one0]
    unfold fX9_rowOf fX9_pair_b69
    rw [show (0 : Int32) = nI 0 from rfl, u2, ob_some]
    dsimp only
    rw [eh]
    have hw' := hw (nI 0)
    have e6 : (nI (2 * h) = 6) ↔ h = 3 := ⟨fun q => by have := (nI_eq (b := 6) (by omega) (by omega)).mp q; omega, fun q => by rw [q]; rfl⟩
    have e4 : (nI (2 * h) = 4) ↔ h = 2 := ⟨fun q => by have := (nI_eq (b := 4) (by omega) (by omega)).mp q; omega, fun q => by rw [q]; rfl⟩
    by_cases c3 : h = 3
    · rw [if_pos (e6.mpr c3)]
      rw [show wN h = 15 by unfold wN; rw [if_pos c3]] at hw'
      exact hw'
    · rw [if_neg (fun q => c3 (e6.mp q))]
      by_cases c2 : h = 2
      · rw [if_pos (e4.mpr c2)]
        rw [show wN h = 3 by unfold wN; rw [if_neg c3, if_pos c2]] at hw'
        exact hw'
      · rw [if_neg (fun q => c2 (e4.mp q))]
        rw [show wN h = 1 by unfold wN; rw [if_neg c3, if_neg c2]] at hw'
        exact hw'
theorem fl_in {R : Nat → Nat} {P m : Nat} (hR : ∀ i j, i < m → j < m → R i = R j → i = j) : ∀ (w : Wy) (x : Int32), (flat w).Nodup → (∀ i ∈ flat w, i < m) → ∀ y ∈ w, (R y.1 = P → fl R P w x = nI (R y.2)) ∧ (R y.2 = P → fl R P w x = nI (R y.1))
  | [], x, _, _, y, hy => by cases hy
  | z :: w, x, hn, hb, y, hy => by
    rw [flat, List.nodup_cons, List.nodup_cons] at hn
    obtain ⟨n1, n2, n3⟩ := hn
    have b1 := hb z.1 List.mem_cons_self
    have b2 := hb z.2 (List.mem_cons_of_mem _ List.mem_cons_self)
    have b3 : ∀ i ∈ flat w, i < m := fun i hi => hb i (List.mem_cons_of_mem _ (List.mem_cons_of_mem _ hi))
    rcases List.mem_cons.mp hy with e | hy
    · subst e
      have d12 : R y.1 ≠ R y.2 := fun e => n1 (by rw [hR _ _ b1 b2 e]; exact List.mem_cons_self)
      refine ⟨fun e => ?_, fun e => ?_⟩
      · have hno : ∀ i ∈ flat w, R i ≠ P := fun i hi e' => n1 (by
          have := hR i y.1 (b3 i hi) b1 (by rw [e', e])
          rw [← this]
          exact List.mem_cons_of_mem _ hi)
        rw [fl, if_pos e, ((asg_fl (P := P) hR w _ (fun _ => 0) n3 b3).1 hno).1]
      · have hno : ∀ i ∈ flat w, R i ≠ P := fun i hi e' => n2 (by
          have := hR i y.2 (b3 i hi) b2 (by rw [e', e])
          rw [← this]
          exact hi)
        rw [fl, if_neg (fun q => d12 (q.trans e.symm)), if_pos e, ((asg_fl (P := P) hR w _ (fun _ => 0) n3 b3).1 hno).1]
    · have ih := fun x => fl_in (P := P) hR w x n3 b3 y hy
      exact ⟨fun e => by rw [fl]; exact (ih _).1 e, fun e => by rw [fl]; exact (ih _).2 e⟩
theorem flat_pr : ∀ {w : Wy} {i : Nat}, i ∈ flat w → ∃ y ∈ w, i = y.1 ∨ i = y.2
  | [], i, h => by cases h
  | z :: w, i, h => by
    rw [flat, List.mem_cons, List.mem_cons] at h
    rcases h with e | e | h
    · exact ⟨z, List.mem_cons_self, Or.inl e⟩
    · exact ⟨z, List.mem_cons_self, Or.inr e⟩
    · obtain ⟨y, h1, h2⟩ := flat_pr h
      exact ⟨y, List.mem_cons_of_mem _ h1, h2⟩
theorem nIne2 {Q : Nat} (h : Q < 6) : ¬ nI Q = -2 := fun e => absurd (e ▸ nI_pos' (show Q < 2 ^ 31 by omega)) (by decide)
theorem res_pair {h B P : Nat} {R : Nat → Nat} {w : Option Wy} (h1 : ∀ i, i < 2 * h → R i < 6 ∧ B.testBit (R i) = true) (h2 : ∀ i j, i < 2 * h → j < 2 * h → R i = R j → i = j) (h3 : ∀ w', w = some w' → (flat w').Nodup ∧ ∀ i ∈ flat w', i < 2 * h) : resW R P w = -1 ∨ ∃ Q, Q < 6 ∧ resW R P w = nI Q ∧ Q ≠ P ∧ B.testBit P = true ∧ resW R Q w = nI P := by
  cases w with
  | none => exact Or.inl rfl
  | some w =>
    obtain ⟨n1, n2⟩ := h3 w rfl
    by_cases c : ∃ y ∈ w, R y.1 = P ∨ R y.2 = P
    · right
      obtain ⟨y, hy, e⟩ := c
      obtain ⟨m1, m2⟩ := flat_mem hy
      have b1 := n2 _ m1
      have b2 := n2 _ m2
      have d : y.1 ≠ y.2 := by
        have : ∀ {w : Wy}, y ∈ w → (flat w).Nodup → y.1 ≠ y.2 := by
          intro w
          induction w with
          | nil => intro h; cases h
          | cons z w ih =>
            intro h hn
            rw [flat, List.nodup_cons, List.nodup_cons] at hn
            rcases List.mem_cons.mp h with e | h
            · subst e
              exact fun q => hn.1 (by rw [q]; exact List.mem_cons_self)
            · exact ih h hn.2.2
        exact this hy n1
      have dR : R y.1 ≠ R y.2 := fun q => d (h2 _ _ b1 b2 q)
      have key : ∀ Q x, (R y.1 = Q → fl R Q w x = nI (R y.2)) ∧ (R y.2 = Q → fl R Q w x = nI (R y.1)) := fun Q x => fl_in (P := Q) h2 w x n1 n2 y hy
      have rw1 : ∀ Q v, v < 6 → fl R Q w (-2) = nI v → resW R Q (some w) = nI v := fun Q v hv e => by
        show (if fl R Q w (-2) = -2 then -1 else fl R Q w (-2)) = nI v
        rw [e, if_neg (nIne2 hv)]
      rcases e with e | e
      · refine ⟨R y.2, (h1 _ b2).1, rw1 P _ (h1 _ b2).1 ((key P _).1 e), fun q => dR (e.trans q.symm), by rw [← e]; exact (h1 _ b1).2, ?_⟩
        rw [← e]
        exact rw1 _ _ (h1 _ b1).1 ((key (R y.2) _).2 rfl)
      · refine ⟨R y.1, (h1 _ b1).1, rw1 P _ (h1 _ b1).1 ((key P _).2 e), fun q => dR (q.trans e.symm), by rw [← e]; exact (h1 _ b2).2, ?_⟩
        rw [← e]
        exact rw1 _ _ (h1 _ b2).1 ((key (R y.1) _).1 rfl)
    · left
      have hno : ∀ i ∈ flat w, R i ≠ P := fun i hi e => by
        obtain ⟨y, hy, e2⟩ := flat_pr hi
        rcases e2 with rfl | rfl
        · exact c ⟨y, hy, Or.inl e⟩
        · exact c ⟨y, hy, Or.inr e⟩
      show (if fl R P w (-2) = -2 then -1 else fl R P w (-2)) = -1
      rw [((asg_fl (P := P) h2 w _ (fun _ => 0) n1 n2).1 hno).1, if_pos rfl]
section FCT
variable {q : Nat} {a : AT} {σ : CT}
theorem f_strength (a : AT) {P : Nat} (hP : P < 6) : rStrength a (nI P) = some (a.2 6 P, a) := by
  unfold rStrength fX9_strength fX9_strength_b13 fX9_strength_b29
  rw [isPlayer_ok hP, ob_some, if_neg one0, goesWell_0, ob_some]
  dsimp only
  rw [if_neg one0, g_nI hP (by omega), ck_true, clN (by omega)]
  rfl
theorem f_life (a : AT) {P : Nat} (hP : P < 6) (g : Int32) : rLife a (nI P) g = some (if g = 0 then a.2 4 P else a.2 5 P, a) := by
  have h : fX9_life 0 (a.2 4) (a.2 5) (nI P) g = some (if g = 0 then a.2 4 P else a.2 5 P, 0) := by
    unfold fX9_life fX9_life_b13 fX9_life_b42
    rw [isPlayer_ok hP, ob_some, if_neg one0, goesWell_0, ob_some]
    dsimp only
    rw [if_neg one0, g_nI hP (by omega), ck_true, ck_true, clN (by omega)]
    split <;> rfl
  unfold rLife
  rw [h]
  exact if_pos rfl
theorem f_lifeAnew (a : AT) {P : Nat} (hP : P < 6) : rLifeAnew a (nI P) = some (a.2 4 P, a) := by
  unfold rLifeAnew fX9_lifeAnew fX9_lifeAnew_b13 fX9_lifeAnew_b29
  rw [isPlayer_ok hP, ob_some, if_neg one0, goesWell_0, ob_some]
  dsimp only
  rw [if_neg one0, g_nI hP (by omega), ck_true, clN (by omega)]
  rfl
theorem f_shield (h : Rel q a σ) {P : Nat} (hP : P < 6) : 0 ≤ a.2 5 P := by
  obtain ⟨n, d, z, k, hkq, e1, e2, e3, e4, e5, e6, e7, hK, hC, hD, hT, hH, hDr, hW, hM, h6⟩ := h
  rw [(hT.2.2.2 P hP).2]
  exact i32le.mpr (hT.2.1 P hP)
theorem f_pair (h : Rel q a σ) {B : Nat} (hB : B < 64) {P : Nat} (hP : P < 6) : ∃ r, rPair a (nI P) (nI B) = some (r, a) ∧ (r = -1 ∨ rPair a r (nI B) = some (nI P, a) ∧ ¬ r = nI P ∧ B.testBit P = true) := by
  obtain ⟨n, d, z, k, hkq, e1, e2, e3, e4, e5, e6, e7, hK, hC, hD, hT, hH, hDr, hW, hM, h6⟩ := h
  obtain ⟨h, R, w, h1, h2, h3, h4⟩ := pair_val (fun _ => 0) hM hB
  have hv : ∀ P, P < 6 → rPair a (nI P) (nI B) = some (resW R P w, a) := fun P hP => by
    obtain ⟨many, mrow, e⟩ := h4 P hP
    unfold rPair
    rw [e]
    exact if_pos rfl
  refine ⟨_, hv P hP, ?_⟩
  rcases res_pair (P := P) h1 h2 h3 with e | ⟨Q, hQ, e, hne, hb, e'⟩
  · exact Or.inl e
  · right
    rw [e]
    refine ⟨by rw [hv Q hQ, e'], neqI (by omega) (by omega) hne, hb⟩
theorem f_pairX (a : AT) : rPair a 0 64 = none := by
  have h : ∃ b many mrow, fX9_pair 0 0 (a.2 6) (a.2 7) (fun _ => 0) 0 64 = some (b, 2, many, mrow) := by
    unfold fX9_pair fX9_pair_b28 fX9_pair_b29
    rw [show (0 : Int32) = nI 0 from rfl, isPlayer_ok (show 0 < 6 by omega), ob_some, if_neg (show ¬ (1 : Int32) = nI 0 from one0), if_neg (show ¬ (64 : Int32) < nI 0 by decide), if_pos (show (63 : Int32) < 64 by decide)]
    exact ⟨_, _, _, rfl⟩
  obtain ⟨b, many, mrow, e⟩ := h
  unfold rPair
  rw [e]
  exact if_neg (by decide)
theorem f_offeredX (a : AT) : rOffered a (-1) = none := by
  have h : ∃ b, fX9_offered 0 (a.1 3) (a.1 5) (a.1 6) (a.2 14) (a.2 15) (-1) = some (b, 1) := by
    unfold fX9_offered fX9_offered_b10
    rw [if_pos (show (-1 : Int32) < 0 by decide), goesWell_1, ob_some]
    exact ⟨_, rfl⟩
  obtain ⟨b, e⟩ := h
  unfold rOffered
  rw [e]
  exact if_neg (by decide)
theorem f_bound1 (h : Rel q a σ) {P : Nat} (hP : P < 6) (g : Int32) : ∃ f b, rBound a (nI P) g = some (b, a) ∧ ∃ z, a.1 2 = nI z ∧ z ≤ 6 ∧ Rep g (WS P (stk (gC (σ.2.1 6) (σ.2.1 7) (σ.2.1 8) (σ.2.1 9)) z) (lF (σ.2.1 4)) (lF (σ.2.1 5))) f b := by
  have h' := h
  obtain ⟨n, d, z, k, hkq, e1, e2, e3, e4, e5, e6, e7, hK, hC, hD, hT, hH, hDr, hW, hM, h6⟩ := h
  obtain ⟨f, b, li', sh', e', m', w', a', u1, u2⟩ := c_find (g := g) hP hT.1 hT.2.1 (σ.1 3) (σ.1 4) (σ.1 5) (σ.1 6) (σ.1 7) (σ.2.1 10) (σ.2.1 11) (σ.2.1 12) (σ.2.1 13) (σ.2.1 14) (σ.2.1 15)
  refine ⟨f, b, ?_, z, e7, hT.1.1, u2⟩
  rcases m_bound hT (σ.1 3) (σ.1 4) (σ.1 5) (σ.1 6) (σ.1 7) (σ.2.1 10) (σ.2.1 11) (σ.2.1 12) (σ.2.1 13) (σ.2.1 14) (σ.2.1 15) 0 0 (fun _ => 0) (fun _ => 0) (fun _ => 0) (fun _ => 0) (fun _ => 0) (fun _ => 0) (nI P) g with ⟨r, x, hi', y, hf, hg⟩ | ⟨hf, -⟩
  · unfold fX8_bound at hf
    rw [needPlayer_ok hP, ob_some, xm_inl, u1, ob_some] at hf
    simp only [Option.some.injEq, Sum.inl.injEq, Prod.mk.injEq] at hf
    obtain ⟨rfl, -⟩ := hf
    unfold rBound
    rw [e7, hg]
    exact if_pos rfl
  · exfalso
    unfold fX8_bound at hf
    rw [needPlayer_ok hP, ob_some, xm_inl, u1, ob_some] at hf
    simp at hf
theorem f_bound (h : Rel q a σ) {P : Nat} (hP : P < 6) : ∃ lo hi, rBound a (nI P) 0 = some (lo, a) ∧ rBound a (nI P) 1 = some (hi, a) ∧ lo ≤ hi ∧ (¬ 0 < a.1 2 → lo = a.2 4 P ∧ hi = lo) := by
  obtain ⟨f, lo, h1, z, e, hz, r1⟩ := f_bound1 h hP 0
  obtain ⟨f', hi, h2, z', e', hz', r2⟩ := f_bound1 h hP 1
  have : z' = z := (nI_eq (by omega) (by omega)).mp (e'.symm.trans e)
  subst this
  refine ⟨lo, hi, h1, h2, ?_, fun h0 => ?_⟩
  · rcases r1 with ⟨-, rfl, n1⟩ | ⟨-, s1, m1⟩
    · rcases r2 with ⟨-, rfl, -⟩ | ⟨-, s2, -⟩
      · decide
      · exact absurd s2 (n1 _)
    · rcases r2 with ⟨-, rfl, n2⟩ | ⟨-, s2, m2⟩
      · exact absurd s1 (n2 _)
      · have := m1 _ s2
        rw [if_pos rfl] at this
        exact i32le.mpr this
  · have hz0 : z' = 0 := by
      apply Classical.byContradiction
      intro c
      exact h0 (by rw [e]; exact nlt (a := 0) (by omega) (by omega))
    subst hz0
    obtain ⟨n, d, z, k, hkq, e1, e2, e3, e4, e5, e6, e7, hK, hC, hD, hT, hH, hDr, hW, hM, h6⟩ := h
    have hout : ∀ v, WS P (stk (gC (σ.2.1 6) (σ.2.1 7) (σ.2.1 8) (σ.2.1 9)) 0) (lF (σ.2.1 4)) (lF (σ.2.1 5)) v ↔ v = lF (σ.2.1 4) P := fun v => by
      constructor
      · rintro ⟨fin, ⟨L, hL, hr⟩, rfl⟩
        have : L = [] := List.perm_nil.mp hL
        subst this
        simp only [List.length_nil, aRun, Option.some.injEq] at hr
        rw [← hr]
      · rintro rfl
        exact ⟨_, ⟨[], List.Perm.refl _, rfl⟩, rfl⟩
    have k1 : lo.toInt = lF (σ.2.1 4) P := by
      rcases r1 with ⟨-, -, n1⟩ | ⟨-, s1, -⟩
      · exact absurd ((hout _).mpr rfl) (n1 _)
      · exact (hout _).mp s1
    have k2 : hi.toInt = lF (σ.2.1 4) P := by
      rcases r2 with ⟨-, -, n1⟩ | ⟨-, s1, -⟩
      · exact absurd ((hout _).mpr rfl) (n1 _)
      · exact (hout _).mp s1
    rw [(hT.2.2.2 P hP).1]
    exact ⟨i32eq.mpr k1, i32eq.mpr (k2.trans k1.symm)⟩
theorem f_ring (h : Rel q a σ) : ∃ (M : Nat) (ring : Nat → Int32), M ≠ 1 ∧ M ≤ 6 ∧ (∀ P, P < M → 0 ≤ ring P) ∧ (∀ P, P < 6 → rRing a (nI P) = some (if M ≤ P then -1 else ring P, a)) ∧ ∃ a', rSwap a = some (nI M, a') := by
  obtain ⟨n, d, z, k, hkq, e1, e2, e3, e4, e5, e6, e7, hK, hC, hD, hT, hH, hDr, hW, hM, h6⟩ := h
  obtain ⟨M, ring', q3, q4⟩ := r_best hK.1 hW hC 0 (fun _ => 0)
  have hM1 : M ≠ 1 ∧ M ≤ 6 := by rcases q4 with ⟨h, -⟩ | ⟨h1, h2, -⟩ <;> omega
  refine ⟨M, ring', hM1.1, hM1.2, fun P hP => ?_, fun P hP => ?_, ?_⟩
  · rcases q4 with ⟨h, -⟩ | ⟨h1, h2, -, R, hrow, hR, -⟩
    · omega
    · rw [hrow P hP]
      have := (hR.1.1 P hP).1
      exact nI_pos' (by omega)
  · have h : ∃ x y, fX9_ring 0 0 (a.2 3) (a.2 16) (a.2 17) (fun _ => 0) (nI P) = some (if M ≤ P then -1 else ring' P, 0, x, y) := by
      unfold fX9_ring fX9_ring_b15 fX9_ring_b45
      rw [in_eq, if_pos ⟨nI_pos' (by omega), show nI P ≤ 5 from nle (b := 5) (by omega) (by omega)⟩, ob_some, if_neg one0, goesWell_0, ob_some]
      dsimp only
      rw [if_neg one0, q3, ob_some]
      dsimp only
      rw [g_nI hP (by omega), ck_true, clN (by omega)]
      by_cases c : M ≤ P
      · rw [if_pos (nle c (by omega)), if_pos c]
        exact ⟨_, _, rfl⟩
      · rw [if_neg (nnle (by omega) (by omega)), if_neg c]
        exact ⟨_, _, rfl⟩
    obtain ⟨x, y, e⟩ := h
    unfold rRing
    rw [e]
    exact if_pos rfl
  · obtain ⟨r, u, a', hf, hg, -⟩ := n_swap (q := q) ⟨n, d, z, k, hkq, e1, e2, e3, e4, e5, e6, e7, hK, hC, hD, hT, hH, hDr, hW, hM, h6⟩
    refine ⟨a', ?_⟩
    have hr : r = nI M := by
      obtain ⟨M', gv', row', q1, q2⟩ := c_best hK.1 hW (cards := σ.2.2 0) (σ.1 14) (σ.2.1 25)
      obtain ⟨rfl, he⟩ := BST_uni q2 q4
      have hv : ∃ u, fX8_swap (σ.2.2 0) (σ.1 14) (σ.2.1 23) (σ.2.1 24) (σ.2.1 25) = some (nI M', u) := by
        unfold fX8_swap
        rw [q1, ob_some]
        dsimp only
        cases hx : fX7_fulfil (σ.2.1 23) (σ.2.1 24) row' (σ.2.2 0) (nI M') with
        | none =>
          exfalso
          unfold fX8_swap at hf
          rw [q1, ob_some] at hf
          dsimp only at hf
          rw [hx] at hf
          cases hf
        | some y =>
          rw [ob_some]
          exact ⟨_, rfl⟩
      obtain ⟨u', hv⟩ := hv
      rw [hv] at hf
      simp only [Option.some.injEq, Prod.mk.injEq] at hf
      exact hf.1.symm
    rw [hg, hr]
theorem f_sum (h : Rel q a σ) : sum6 (a.2 6) = 6000 := by
  obtain ⟨n, d, z, k, hkq, e1, e2, e3, e4, e5, e6, e7, hK, hC, hD, hT, hH, hDr, hW, hM, h6⟩ := h
  exact h6
end FCT
