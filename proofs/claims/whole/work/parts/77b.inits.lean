/-! printed by lawstart.py: what the constructors make belongs together -/
theorem i6 : ∃ li sh : Nat → Int32, fX6_init = some (0, li, sh, (fun _ => 0), (fun _ => 0), (fun _ => 0), (fun _ => 0)) ∧ ∀ p, p < 6 → li p = 20 ∧ sh p = 0 := by
  obtain ⟨li', sh', q1, q2⟩ := clear_loop (z := 0) 6 0 70 (fun _ => 0) (fun _ => 0) (by omega) (by omega)
  refine ⟨li', sh', ?_, fun p hp => (q2 p hp).2 (by omega)⟩
  unfold fX6_init fX6_clear
  have q1' : fX6_clear_b2 70 0 (fun _ => 0) (fun _ => 0) 0 = _ := q1
  rw [q1', ob_some]
theorem i3_loop : ∀ (r j f : Nat) (st : Nat → Int32), j + r = 6 → r < f → ∃ st' : Nat → Int32, fX3_init_b38 f 0 st (fun _ => 0) (fun _ => 0) (fun _ => 0) (nI j) = some (0, st', (fun _ => 0), (fun _ => 0), (fun _ => 0)) ∧ ∀ p, p < 6 → (p < j → st' p = st p) ∧ (j ≤ p → st' p = 1000) := by
  intro r
  induction r with
  | zero =>
    intro j f st h1 h2
    rcases f with _ | f
    · omega
    refine ⟨st, ?_, fun p hp => ⟨fun _ => rfl, fun q => absurd hp (by omega)⟩⟩
    rw [fX3_init_b38, if_pos (show 6 ≤ nI j from nle (a := 6) (by omega) (by omega))]
  | succ r ih =>
    intro j f st h1 h2
    rcases f with _ | f
    · omega
    obtain ⟨st', q1, q2⟩ := ih (j + 1) f (upd st j 1000) (by omega) (by omega)
    refine ⟨st', ?_, fun p hp => ⟨fun q => ?_, fun q => ?_⟩⟩
    · rw [fX3_init_b38, if_neg (show ¬ 6 ≤ nI j from nnle (a := 6) (by omega) (by omega)), g_nI (show j < 6 by omega) (by omega), ck_true, nm_eq, nI_1, clN (by omega)]
      exact q1
    · rw [(q2 p hp).1 (by omega), upd_n (by omega)]
    · by_cases e : p = j
      · rw [(q2 p hp).1 (by omega), e, upd_s]
      · exact (q2 p hp).2 (by omega)
theorem i7_loop : ∀ (r j f : Nat) (gi wa : Nat → Int32), j + r = 6 → r < f → ∃ gi' wa' : Nat → Int32, fX7_init_b30 f 0 gi wa (fun _ => 0) (nI j) = some (0, gi', wa', (fun _ => 0)) ∧ ∀ p, p < 6 → (p < j → gi' p = gi p ∧ wa' p = wa p) ∧ (j ≤ p → gi' p = -1 ∧ wa' p = -1) := by
  intro r
  induction r with
  | zero =>
    intro j f gi wa h1 h2
    rcases f with _ | f
    · omega
    refine ⟨gi, wa, ?_, fun p hp => ⟨fun _ => ⟨rfl, rfl⟩, fun q => absurd hp (by omega)⟩⟩
    rw [fX7_init_b30, if_pos (show 6 ≤ nI j from nle (a := 6) (by omega) (by omega))]
  | succ r ih =>
    intro j f gi wa h1 h2
    rcases f with _ | f
    · omega
    obtain ⟨gi', wa', q1, q2⟩ := ih (j + 1) f (upd gi j (-1)) (upd wa j (-1)) (by omega) (by omega)
    refine ⟨gi', wa', ?_, fun p hp => ⟨fun q => ?_, fun q => ?_⟩⟩
    · rw [fX7_init_b30, if_neg (show ¬ 6 ≤ nI j from nnle (a := 6) (by omega) (by omega)), g_nI (show j < 6 by omega) (by omega), ck_true, ck_true, nm_eq, nI_1, clN (by omega)]
      exact q1
    · rw [(q2 p hp).1 (by omega) |>.1, (q2 p hp).1 (by omega) |>.2, upd_n (by omega), upd_n (by omega)]
      exact ⟨rfl, rfl⟩
    · by_cases e : p = j
      · rw [(q2 p hp).1 (by omega) |>.1, (q2 p hp).1 (by omega) |>.2, e, upd_s, upd_s]
        exact ⟨rfl, rfl⟩
      · exact (q2 p hp).2 (by omega)
theorem i8 : ∃ li sh gi wa st : Nat → Int32, fX8_init = some (0, 0, (fun _ => 0), (fun _ => 0), (fun _ => 0), (fun _ _ => 0), (fun _ _ => 0), (fun _ => 0), 0, li, sh, (fun _ => 0), (fun _ => 0), (fun _ => 0), (fun _ => 0), 0, 0, 0, 0, 0, li, sh, (fun _ => 0), (fun _ => 0), (fun _ => 0), (fun _ => 0), 0, (fun _ => 0), 0, li, sh, (fun _ => 0), (fun _ => 0), (fun _ => 0), (fun _ => 0), 0, 0, 0, 0, (fun _ _ => 0), 0, gi, wa, (fun _ => 0), 0, st, (fun _ => 0), (fun _ => 0), (fun _ => 0)) ∧ (∀ p, p < 6 → li p = 20 ∧ sh p = 0) ∧ (∀ p, p < 6 → gi p = -1 ∧ wa p = -1) ∧ ∀ p, p < 6 → st p = 1000 := by
  obtain ⟨li, sh, a1, a2⟩ := i6
  obtain ⟨gi, wa, b1, b2⟩ := i7_loop 6 0 70 (fun _ => 0) (fun _ => 0) (by omega) (by omega)
  obtain ⟨st, c1, c2⟩ := i3_loop 6 0 70 (fun _ => 0) (by omega) (by omega)
  refine ⟨li, sh, gi, wa, st, ?_, a2, fun p hp => (b2 p hp).2 (by omega), fun p hp => (c2 p hp).2 (by omega)⟩
  have b1' : fX7_init = _ := b1
  have c1' : fX3_init = _ := c1
  unfold fX8_init fX2_init fX5_init fX4_init fX1_init fX0_init
  rw [a1, b1', c1']
  rfl
theorem i9 : fX9_init = some (0, 0, 0, 0, 0, 0, 0, (-1), 0, 0, 0, (fun _ => 0), (fun _ => 0), (fun _ => 0), (fun _ => 0), (upd (upd (upd (upd (upd (upd (fun _ => 0) (0 : Int32).toNatClampNeg 20) (1 : Int32).toNatClampNeg 20) (2 : Int32).toNatClampNeg 20) (3 : Int32).toNatClampNeg 20) (4 : Int32).toNatClampNeg 20) (5 : Int32).toNatClampNeg 20), (fun _ => 0), (upd (upd (upd (upd (upd (upd (fun _ => 0) (0 : Int32).toNatClampNeg 1000) (1 : Int32).toNatClampNeg 1000) (2 : Int32).toNatClampNeg 1000) (3 : Int32).toNatClampNeg 1000) (4 : Int32).toNatClampNeg 1000) (5 : Int32).toNatClampNeg 1000), (fun _ => 0), (fun _ => 0), (fun _ => 0), (fun _ => 0), (fun _ => 0), (fun _ => 0), (fun _ => 0), (fun _ => 0), (fun _ => 0), (upd (upd (upd (upd (upd (upd (fun _ => 0) (0 : Int32).toNatClampNeg (-1)) (1 : Int32).toNatClampNeg (-1)) (2 : Int32).toNatClampNeg (-1)) (3 : Int32).toNatClampNeg (-1)) (4 : Int32).toNatClampNeg (-1)) (5 : Int32).toNatClampNeg (-1)), (fun _ => 0), (fun _ => 0), (fun _ => 0), (fun _ => 0), (fun _ => 0), (fun _ => 0), (fun _ => 0), (fun _ => 0), (fun _ => 0)) := rfl
theorem six_all {P : Nat → Prop} (h0 : P 0) (h1 : P 1) (h2 : P 2) (h3 : P 3) (h4 : P 4) (h5 : P 5) : ∀ p, p < 6 → P p := by
  intro p hp
  rcases (show p = 0 ∨ p = 1 ∨ p = 2 ∨ p = 3 ∨ p = 4 ∨ p = 5 by omega) with rfl | rfl | rfl | rfl | rfl | rfl <;> assumption
set_option maxRecDepth 100000 in
theorem LInv.start {dC : Nat → ClassId} {dI : Nat → Nat → Nat} {cI cJ cZ cG : ClassId} {A : Nat → Prop} {ad : Nat → Nat} {rw : Nat → Nat → Nat} {H : Heap} {li sh gi wa st : Nat → Int32} (hli : ∀ p, p < 6 → li p = 20 ∧ sh p = 0) (hgi : ∀ p, p < 6 → gi p = -1 ∧ wa p = -1) (hst : ∀ p, p < 6 → st p = 1000) (hP : va_P (dC, dI) vwCl (wL cI cJ cZ cG ad rw 0 0 (fun _ => 0) (fun _ => 0) (fun _ => 0) (fun _ _ => 0) (fun _ _ => 0) (fun _ => 0) 0 li sh (fun _ => 0) (fun _ => 0) (fun _ => 0) (fun _ => 0) 0 0 0 0 0 li sh (fun _ => 0) (fun _ => 0) (fun _ => 0) (fun _ => 0) 0 (fun _ => 0) 0 li sh (fun _ => 0) (fun _ => 0) (fun _ => 0) (fun _ => 0) 0 0 0 0 (fun _ _ => 0) 0 gi wa (fun _ => 0) 0 st (fun _ => 0) (fun _ => 0) (fun _ => 0) 0 0 0 0 0 0 0 (-1) 0 0 0 (fun _ => 0) (fun _ => 0) (fun _ => 0) (fun _ => 0) (upd (upd (upd (upd (upd (upd (fun _ => 0) (0 : Int32).toNatClampNeg 20) (1 : Int32).toNatClampNeg 20) (2 : Int32).toNatClampNeg 20) (3 : Int32).toNatClampNeg 20) (4 : Int32).toNatClampNeg 20) (5 : Int32).toNatClampNeg 20) (fun _ => 0) (upd (upd (upd (upd (upd (upd (fun _ => 0) (0 : Int32).toNatClampNeg 1000) (1 : Int32).toNatClampNeg 1000) (2 : Int32).toNatClampNeg 1000) (3 : Int32).toNatClampNeg 1000) (4 : Int32).toNatClampNeg 1000) (5 : Int32).toNatClampNeg 1000) (fun _ => 0) (fun _ => 0) (fun _ => 0) (fun _ => 0) (fun _ => 0) (fun _ => 0) (fun _ => 0) (fun _ => 0) (fun _ => 0) (upd (upd (upd (upd (upd (upd (fun _ => 0) (0 : Int32).toNatClampNeg (-1)) (1 : Int32).toNatClampNeg (-1)) (2 : Int32).toNatClampNeg (-1)) (3 : Int32).toNatClampNeg (-1)) (4 : Int32).toNatClampNeg (-1)) (5 : Int32).toNatClampNeg (-1)) (fun _ => 0) (fun _ => 0) (fun _ => 0) (fun _ => 0) (fun _ => 0) (fun _ => 0) (fun _ => 0) (fun _ => 0) (fun _ => 0) (fun _ => 0)) H) (hD : va_D A (wL cI cJ cZ cG ad rw 0 0 (fun _ => 0) (fun _ => 0) (fun _ => 0) (fun _ _ => 0) (fun _ _ => 0) (fun _ => 0) 0 li sh (fun _ => 0) (fun _ => 0) (fun _ => 0) (fun _ => 0) 0 0 0 0 0 li sh (fun _ => 0) (fun _ => 0) (fun _ => 0) (fun _ => 0) 0 (fun _ => 0) 0 li sh (fun _ => 0) (fun _ => 0) (fun _ => 0) (fun _ => 0) 0 0 0 0 (fun _ _ => 0) 0 gi wa (fun _ => 0) 0 st (fun _ => 0) (fun _ => 0) (fun _ => 0) 0 0 0 0 0 0 0 (-1) 0 0 0 (fun _ => 0) (fun _ => 0) (fun _ => 0) (fun _ => 0) (upd (upd (upd (upd (upd (upd (fun _ => 0) (0 : Int32).toNatClampNeg 20) (1 : Int32).toNatClampNeg 20) (2 : Int32).toNatClampNeg 20) (3 : Int32).toNatClampNeg 20) (4 : Int32).toNatClampNeg 20) (5 : Int32).toNatClampNeg 20) (fun _ => 0) (upd (upd (upd (upd (upd (upd (fun _ => 0) (0 : Int32).toNatClampNeg 1000) (1 : Int32).toNatClampNeg 1000) (2 : Int32).toNatClampNeg 1000) (3 : Int32).toNatClampNeg 1000) (4 : Int32).toNatClampNeg 1000) (5 : Int32).toNatClampNeg 1000) (fun _ => 0) (fun _ => 0) (fun _ => 0) (fun _ => 0) (fun _ => 0) (fun _ => 0) (fun _ => 0) (fun _ => 0) (fun _ => 0) (upd (upd (upd (upd (upd (upd (fun _ => 0) (0 : Int32).toNatClampNeg (-1)) (1 : Int32).toNatClampNeg (-1)) (2 : Int32).toNatClampNeg (-1)) (3 : Int32).toNatClampNeg (-1)) (4 : Int32).toNatClampNeg (-1)) (5 : Int32).toNatClampNeg (-1)) (fun _ => 0) (fun _ => 0) (fun _ => 0) (fun _ => 0) (fun _ => 0) (fun _ => 0) (fun _ => 0) (fun _ => 0) (fun _ => 0) (fun _ => 0))) : LInv dC dI cI cJ cZ cG A ad rw 0 H := by
  have hl : ∀ p, p < 6 → (upd (upd (upd (upd (upd (upd (fun _ => 0) (0 : Int32).toNatClampNeg 20) (1 : Int32).toNatClampNeg 20) (2 : Int32).toNatClampNeg 20) (3 : Int32).toNatClampNeg 20) (4 : Int32).toNatClampNeg 20) (5 : Int32).toNatClampNeg 20) p = (20 : Int32) := six_all rfl rfl rfl rfl rfl rfl
  have hs : ∀ p, p < 6 → (upd (upd (upd (upd (upd (upd (fun _ => 0) (0 : Int32).toNatClampNeg 1000) (1 : Int32).toNatClampNeg 1000) (2 : Int32).toNatClampNeg 1000) (3 : Int32).toNatClampNeg 1000) (4 : Int32).toNatClampNeg 1000) (5 : Int32).toNatClampNeg 1000) p = (1000 : Int32) := six_all rfl rfl rfl rfl rfl rfl
  have hg : ∀ p, p < 6 → (upd (upd (upd (upd (upd (upd (fun _ => 0) (0 : Int32).toNatClampNeg (-1)) (1 : Int32).toNatClampNeg (-1)) (2 : Int32).toNatClampNeg (-1)) (3 : Int32).toNatClampNeg (-1)) (4 : Int32).toNatClampNeg (-1)) (5 : Int32).toNatClampNeg (-1)) p = (-1 : Int32) := six_all rfl rfl rfl rfl rfl rfl
  have hP : va_P (dC, dI) vwCl (wL cI cJ cZ cG ad rw (nI 0) (nI 0) (fun _ => 0) (fun _ => 0) (fun _ => 0) (fun _ _ => 0) (fun _ _ => 0) (fun _ => 0) (nI 0) li sh (fun _ => 0) (fun _ => 0) (fun _ => 0) (fun _ => 0) 0 0 0 0 0 li sh (fun _ => 0) (fun _ => 0) (fun _ => 0) (fun _ => 0) (nI 0) (fun _ => 0) 0 li sh (fun _ => 0) (fun _ => 0) (fun _ => 0) (fun _ => 0) 0 0 0 0 (fun _ _ => 0) 0 gi wa (fun _ => 0) 0 st (fun _ => 0) (fun _ => 0) (fun _ => 0) 0 (nI 0) (nI 0) (nI 0) 0 0 0 (-1) 0 0 0 (fun _ => 0) (fun _ => 0) (fun _ => 0) (fun _ => 0) (upd (upd (upd (upd (upd (upd (fun _ => 0) (0 : Int32).toNatClampNeg 20) (1 : Int32).toNatClampNeg 20) (2 : Int32).toNatClampNeg 20) (3 : Int32).toNatClampNeg 20) (4 : Int32).toNatClampNeg 20) (5 : Int32).toNatClampNeg 20) (fun _ => 0) (upd (upd (upd (upd (upd (upd (fun _ => 0) (0 : Int32).toNatClampNeg 1000) (1 : Int32).toNatClampNeg 1000) (2 : Int32).toNatClampNeg 1000) (3 : Int32).toNatClampNeg 1000) (4 : Int32).toNatClampNeg 1000) (5 : Int32).toNatClampNeg 1000) (fun _ => 0) (fun _ => 0) (fun _ => 0) (fun _ => 0) (fun _ => 0) (fun _ => 0) (fun _ => 0) (fun _ => 0) (fun _ => 0) (upd (upd (upd (upd (upd (upd (fun _ => 0) (0 : Int32).toNatClampNeg (-1)) (1 : Int32).toNatClampNeg (-1)) (2 : Int32).toNatClampNeg (-1)) (3 : Int32).toNatClampNeg (-1)) (4 : Int32).toNatClampNeg (-1)) (5 : Int32).toNatClampNeg (-1)) (fun _ => 0) (fun _ => 0) (fun _ => 0) (fun _ => 0) (fun _ => 0) (fun _ => 0) (fun _ => 0) (fun _ => 0) (fun _ => 0) (fun _ => 0)) H := hP
  have hD : va_D A (wL cI cJ cZ cG ad rw (nI 0) (nI 0) (fun _ => 0) (fun _ => 0) (fun _ => 0) (fun _ _ => 0) (fun _ _ => 0) (fun _ => 0) (nI 0) li sh (fun _ => 0) (fun _ => 0) (fun _ => 0) (fun _ => 0) 0 0 0 0 0 li sh (fun _ => 0) (fun _ => 0) (fun _ => 0) (fun _ => 0) (nI 0) (fun _ => 0) 0 li sh (fun _ => 0) (fun _ => 0) (fun _ => 0) (fun _ => 0) 0 0 0 0 (fun _ _ => 0) 0 gi wa (fun _ => 0) 0 st (fun _ => 0) (fun _ => 0) (fun _ => 0) 0 (nI 0) (nI 0) (nI 0) 0 0 0 (-1) 0 0 0 (fun _ => 0) (fun _ => 0) (fun _ => 0) (fun _ => 0) (upd (upd (upd (upd (upd (upd (fun _ => 0) (0 : Int32).toNatClampNeg 20) (1 : Int32).toNatClampNeg 20) (2 : Int32).toNatClampNeg 20) (3 : Int32).toNatClampNeg 20) (4 : Int32).toNatClampNeg 20) (5 : Int32).toNatClampNeg 20) (fun _ => 0) (upd (upd (upd (upd (upd (upd (fun _ => 0) (0 : Int32).toNatClampNeg 1000) (1 : Int32).toNatClampNeg 1000) (2 : Int32).toNatClampNeg 1000) (3 : Int32).toNatClampNeg 1000) (4 : Int32).toNatClampNeg 1000) (5 : Int32).toNatClampNeg 1000) (fun _ => 0) (fun _ => 0) (fun _ => 0) (fun _ => 0) (fun _ => 0) (fun _ => 0) (fun _ => 0) (fun _ => 0) (fun _ => 0) (upd (upd (upd (upd (upd (upd (fun _ => 0) (0 : Int32).toNatClampNeg (-1)) (1 : Int32).toNatClampNeg (-1)) (2 : Int32).toNatClampNeg (-1)) (3 : Int32).toNatClampNeg (-1)) (4 : Int32).toNatClampNeg (-1)) (5 : Int32).toNatClampNeg (-1)) (fun _ => 0) (fun _ => 0) (fun _ => 0) (fun _ => 0) (fun _ => 0) (fun _ => 0) (fun _ => 0) (fun _ => 0) (fun _ => 0) (fun _ => 0)) := hD
  refine LInv.mk (n := 0) (d := 0) (z := 0) (k := 0) hP hD ?_ ?_ ?_ ?_ ?_ (Nat.le_refl _) ?_ ?_ ?_
  · exact ⟨by omega, by omega, rfl, rfl, rfl, rfl, fun k hk => absurd hk (Nat.not_lt_zero _)⟩
  · exact fun p k _ _ => ⟨rfl, fun _ => rfl⟩
  · exact ⟨fun _ => [], fun p _ => ⟨Nat.zero_le 8, rfl, rfl, fun j hj => absurd hj (Nat.not_lt_zero _), fun k hk => absurd hk List.not_mem_nil, fun _ _ => rfl⟩⟩
  · refine ⟨⟨by omega, fun i hi => absurd hi (Nat.not_lt_zero _)⟩, fun p hp => ?_, fun i hi => absurd hi (Nat.not_lt_zero _), fun p hp => ⟨?_, ?_⟩⟩
    · rw [(hli p hp).2]
      decide
    · rw [(hli p hp).1]
      exact hl p hp
    · rw [(hli p hp).2]
  · refine ⟨rfl, fun p hp => ?_⟩
    show (li p).toInt = 20 ∧ (sh p).toInt = 0
    rw [(hli p hp).1, (hli p hp).2]
    decide
  · exact ⟨fun _ _ _ _ => rfl, Or.inl ⟨rfl, 0, by omega, rfl, rfl⟩⟩
  · exact fun p hp => ⟨(hgi p hp).1.trans (hg p hp).symm, Or.inl (hgi p hp)⟩
  · exact ⟨fun p hp => (hst p hp).trans (hs p hp).symm, fun _ => 0, fun p _ => ⟨rfl, show 0 < 64 by omega, fun q _ => by rw [if_neg (by rw [Nat.zero_testBit]; decide)]⟩⟩
