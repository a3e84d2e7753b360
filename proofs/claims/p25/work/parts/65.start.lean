/-! the start: what constructors make, what the tables say -/
def lwA (s : State) : Nat → Prop := fun q => s.heap.size ≤ q
theorem i6 : ∃ li sh : Nat → Int32, fX6_init = some (0, li, sh, (fun _ => 0), (fun _ => 0), (fun _ => 0), (fun _ => 0)) ∧ ∀ p, p < 6 → li p = 20 ∧ sh p = 0 := by
  obtain ⟨li', sh', q1, q2⟩ := clear_loop (z := 0) 6 0 70 (fun _ => 0) (fun _ => 0) (by omega) (by omega)
  refine ⟨li', sh', ?_, fun p hp => (q2 p hp).2 (by omega)⟩
  unfold fX6_init fX6_clear
  have q1' : fX6_clear_b2 70 0 (fun _ => 0) (fun _ => 0) 0 = _ := q1
  rw [q1', ob_some]
theorem i3_loop : ∀ (r j f : Nat) (st : Nat → Int32), j + r = 6 → r < f → ∃ st' : Nat → Int32, fX3_init_b38 f 0 st (fun _ => 0) (fun _ => 0) (fun _ => 0) (nI j) = some (0, st', (fun _ => 0), (fun _ => 0), (fun _ => 0)) ∧ ∀ p, p < 6 → (p < j → st' p = st p) ∧ (j ≤ p → st' p = 1000) := by
  intro r
  induction r with
  | zero =>
    intro j f st h1 h2
    rcases f with _ | f
    · omega
    refine ⟨st, ?_, fun p hp => ⟨fun _ => rfl, fun q => absurd hp (by omega)⟩⟩
    rw [fX3_init_b38, if_pos (show 6 ≤ nI j from nle (a := 6) (by omega) (by omega))]
  | succ r ih =>
    intro j f st h1 h2
    rcases f with _ | f
    · omega
    obtain ⟨st', q1, q2⟩ := ih (j + 1) f (upd st j 1000) (by omega) (by omega)
    refine ⟨st', ?_, fun p hp => ⟨fun q => ?_, fun q => ?_⟩⟩
    · rw [fX3_init_b38, if_neg (show ¬ 6 ≤ nI j from nnle (a := 6) (by omega) (by omega)), g_nI (show j < 6 by omega) (by omega), ck_true, nm_eq, nI_1, clN (by omega)]
      exact q1
    · rw [(q2 p hp).1 (by omega), upd_n (by omega)]
    · by_cases e : p = j
      · rw [(q2 p hp).1 (by omega), e, upd_s]
      · exact (q2 p hp).2 (by omega)
theorem i7_loop : ∀ (r j f : Nat) (gi wa : Nat → Int32), j + r = 6 → r < f → ∃ gi' wa' : Nat → Int32, fX7_init_b30 f 0 gi wa (fun _ => 0) (nI j) = some (0, gi', wa', (fun _ => 0)) ∧ ∀ p, p < 6 → (p < j → gi' p = gi p ∧ wa' p = wa p) ∧ (j ≤ p → gi' p = -1 ∧ wa' p = -1) := by
  intro r
  induction r with
  | zero =>
    intro j f gi wa h1 h2
    rcases f with _ | f
    · omega
    refine ⟨gi, wa, ?_, fun p hp => ⟨fun _ => ⟨rfl, rfl⟩, fun q => absurd hp (by omega)⟩⟩
    rw [fX7_init_b30, if_pos (show 6 ≤ nI j from nle (a := 6) (by omega) (by omega))]
  | succ r ih =>
    intro j f gi wa h1 h2
    rcases f with _ | f
    · omega
    obtain ⟨gi', wa', q1, q2⟩ := ih (j + 1) f (upd gi j (-1)) (upd wa j (-1)) (by omega) (by omega)
    refine ⟨gi', wa', ?_, fun p hp => ⟨fun q => ?_, fun q => ?_⟩⟩
    · rw [fX7_init_b30, if_neg (show ¬ 6 ≤ nI j from nnle (a := 6) (by omega) (by omega)), g_nI (show j < 6 by omega) (by omega), ck_true, ck_true, nm_eq, nI_1, clN (by omega)]
      exact q1
    · rw [(q2 p hp).1 (by omega) |>.1, (q2 p hp).1 (by omega) |>.2, upd_n (by omega), upd_n (by omega)]
      exact ⟨rfl, rfl⟩
    · by_cases e : p = j
      · rw [(q2 p hp).1 (by omega) |>.1, (q2 p hp).1 (by omega) |>.2, e, upd_s, upd_s]
        exact ⟨rfl, rfl⟩
      · exact (q2 p hp).2 (by omega)
theorem i8 : ∃ li sh gi wa st : Nat → Int32, fX8_init = some (0, 0, (fun _ => 0), (fun _ => 0), (fun _ => 0), (fun _ _ => 0), (fun _ _ => 0), (fun _ => 0), 0, li, sh, (fun _ => 0), (fun _ => 0), (fun _ => 0), (fun _ => 0), 0, 0, 0, 0, 0, li, sh, (fun _ => 0), (fun _ => 0), (fun _ => 0), (fun _ => 0), 0, (fun _ => 0), 0, li, sh, (fun _ => 0), (fun _ => 0), (fun _ => 0), (fun _ => 0), 0, 0, 0, 0, (fun _ _ => 0), 0, gi, wa, (fun _ => 0), 0, st, (fun _ => 0), (fun _ => 0), (fun _ => 0)) ∧ (∀ p, p < 6 → li p = 20 ∧ sh p = 0) ∧ (∀ p, p < 6 → gi p = -1 ∧ wa p = -1) ∧ ∀ p, p < 6 → st p = 1000 := by
  obtain ⟨li, sh, a1, a2⟩ := i6
  obtain ⟨gi, wa, b1, b2⟩ := i7_loop 6 0 70 (fun _ => 0) (fun _ => 0) (by omega) (by omega)
  obtain ⟨st, c1, c2⟩ := i3_loop 6 0 70 (fun _ => 0) (by omega) (by omega)
  refine ⟨li, sh, gi, wa, st, ?_, a2, fun p hp => (b2 p hp).2 (by omega), fun p hp => (c2 p hp).2 (by omega)⟩
  have b1' : fX7_init = _ := b1
  have c1' : fX3_init = _ := c1
  unfold fX8_init fX2_init fX5_init fX4_init fX1_init fX0_init
  rw [a1, b1', c1']
  rfl
def mkad (l : List Nat) : Nat → Nat := fun i => l.getD i 0
def mkrw (l : List (Nat → Nat)) : Nat → Nat → Nat := fun i => l.getD i (fun _ => 0)
def cst0 (li sh gi wa st : Nat → Int32) : CT := (fun _ => 0, fun i => ([(fun _ => 0), (fun _ => 0), (fun _ => 0), (fun _ => 0), li, sh, (fun _ => 0), (fun _ => 0), (fun _ => 0), (fun _ => 0), li, sh, (fun _ => 0), (fun _ => 0), (fun _ => 0), (fun _ => 0), (fun _ => 0), li, sh, (fun _ => 0), (fun _ => 0), (fun _ => 0), (fun _ => 0), gi, wa, (fun _ => 0), st, (fun _ => 0), (fun _ => 0), (fun _ => 0)] : List (Nat → Int32)).getD i (fun _ => 0), fun _ _ _ => 0)
def ast0 : AT := (fun i => ([0, 0, 0, 0, 0, 0, -1] : List Int32).getD i 0, fun i => ([fun _ => 0, fun _ => 0, fun _ => 0, fun _ => 0, fun _ => 20, fun _ => 0, fun _ => 1000, fun _ => 0, fun _ => 0, fun _ => 0, fun _ => 0, fun _ => 0, fun _ => 0, fun _ => 0, fun _ => 0, fun _ => 0, fun _ => -1, fun _ => -1] : List (Nat → Int32)).getD i (fun _ => 0))
set_option maxRecDepth 100000 in
theorem rel0 {li sh gi wa st : Nat → Int32} (hli : ∀ p, p < 6 → li p = 20 ∧ sh p = 0) (hgi : ∀ p, p < 6 → gi p = -1 ∧ wa p = -1) (hst : ∀ p, p < 6 → st p = 1000) : Rel 0 ast0 (cst0 li sh gi wa st) := by
  refine ⟨0, 0, 0, 0, Nat.le_refl _, rfl, rfl, rfl, rfl, rfl, rfl, rfl, ?_, ?_, ?_, ?_, ?_, ?_, ?_, ?_, ?_⟩
  · exact ⟨by omega, by omega, rfl, rfl, rfl, rfl, fun k hk => absurd hk (Nat.not_lt_zero _)⟩
  · exact fun p k _ _ => ⟨rfl, fun _ => rfl⟩
  · exact ⟨fun _ => [], fun p _ => ⟨Nat.zero_le 8, rfl, rfl, fun j hj => absurd hj (Nat.not_lt_zero _), fun k hk => absurd hk List.not_mem_nil, fun _ _ => rfl⟩⟩
  · refine ⟨⟨by omega, fun i hi => absurd hi (Nat.not_lt_zero _)⟩, fun p hp => ?_, fun i hi => absurd hi (Nat.not_lt_zero _), fun p hp => ⟨?_, ?_⟩⟩
    · show 0 ≤ (sh p).toInt
      rw [(hli p hp).2]
      decide
    · show (20 : Int32) = li p
      rw [(hli p hp).1]
    · show (0 : Int32) = sh p
      rw [(hli p hp).2]
  · refine ⟨rfl, fun p hp => ?_⟩
    show (li p).toInt = 20 ∧ (sh p).toInt = 0
    rw [(hli p hp).1, (hli p hp).2]
    decide
  · exact ⟨fun _ _ _ _ => rfl, Or.inl ⟨rfl, 0, by omega, rfl, rfl⟩⟩
  · exact fun p hp => ⟨(hgi p hp).1, Or.inl (hgi p hp)⟩
  · exact ⟨fun p hp => hst p hp, fun _ => 0, fun p _ => ⟨rfl, show 0 < 64 by omega, fun q _ => by rw [if_neg (by rw [Nat.zero_testBit]; decide)]; rfl⟩⟩
  · decide
theorem law_K {s : State} {A : Array Value} (hts : ∀ w ∈ lw_tbl, w.before A s = true) : ∃ (dC : Nat → ClassId) (dI : Nat → Nat → Nat) (cI cJ cZ cG : ClassId), va_K (dC, dI) vwCl (tysW cI cJ cZ cG) s := by
  obtain ⟨c0, i0, h0⟩ := u_known (C := RX0) (T := TX0) (N := 5) (n := 5) hts inX0 (hts (.instantiable RX0 5) (by decide +kernel))
  obtain ⟨c1, i1, h1⟩ := u_known (C := RX1) (T := TX1) (N := 3) (n := 3) hts inX1 (hts (.instantiable RX1 3) (by decide +kernel))
  obtain ⟨c2, i2, h2⟩ := u_known (C := RX2) (T := TX2) (N := 4) (n := 4) hts inX2 (hts (.instantiable RX2 4) (by decide +kernel))
  obtain ⟨c3, i3, h3⟩ := u_known (C := RX3) (T := TX3) (N := 5) (n := 5) hts inX3 (hts (.instantiable RX3 5) (by decide +kernel))
  obtain ⟨c4, i4, h4⟩ := u_known (C := RX4) (T := TX4) (N := 5) (n := 5) hts inX4 (hts (.instantiable RX4 5) (by decide +kernel))
  obtain ⟨c5, i5, h5⟩ := u_known (C := RX5) (T := TX5) (N := 3) (n := 3) hts inX5 (hts (.instantiable RX5 3) (by decide +kernel))
  obtain ⟨c6, i6, h6⟩ := u_known (C := RX6) (T := TX6) (N := 7) (n := 7) hts inX6 (hts (.instantiable RX6 7) (by decide +kernel))
  obtain ⟨c7, i7, h7⟩ := u_known (C := RX7) (T := TX7) (N := 4) (n := 4) hts inX7 (hts (.instantiable RX7 4) (by decide +kernel))
  obtain ⟨c8, i8, h8⟩ := u_known (C := RX8) (T := TX8) (N := 9) (n := 9) hts inX8 (hts (.instantiable RX8 9) (by decide +kernel))
  obtain ⟨cI, kI, mI, aI, bI, eI⟩ := Cond.arrayClass_spec (type := .int) (first := s) (o := none) (idx := []) (hts (.arrayClass .int) (by decide +kernel))
  obtain ⟨mG, cG, kG, -, bG, eG, aG⟩ := Cond.arrayOver_specA (t := .int) (first := s) (o := none) (idx := []) (hts (.arrayOver (.array .int)) (by decide +kernel))
  refine ⟨fun k => ([c0, c1, c2, c3, c4, c5, c6, c7, c8] : List ClassId).getD k c0, fun k => ([i0, i1, i2, i3, i4, i5, i6, i7, i8] : List (Nat → Nat)).getD k i0, cI, cI, cI, cG, ?_, ?_⟩
  · intro k q hq
    match k, hq with
    | 0, hq => cases hq; exact h0
    | 1, hq => cases hq; exact h1
    | 2, hq => cases hq; exact h2
    | 3, hq => cases hq; exact h3
    | 4, hq => cases hq; exact h4
    | 5, hq => cases hq; exact h5
    | 6, hq => cases hq; exact h6
    | 7, hq => cases hq; exact h7
    | 8, hq => cases hq; exact h8
    | k + 9, hq => simp [vwCl] at hq
  · intro k q hq
    match k, hq with
    | 0, hq => cases hq; exact ⟨fun n z => ⟨(fun k h => by cases h), kI, bI, mI, eI⟩, aI⟩
    | 1, hq => cases hq; exact ⟨fun n z => ⟨(fun k h => by cases h), kI, bI, mI, eI⟩, aI⟩
    | 2, hq => cases hq; exact ⟨fun n z => ⟨(fun k h => by cases h), kI, bI, mI, eI⟩, aI⟩
    | 3, hq => cases hq; exact ⟨fun n z => ⟨(fun k h => by cases h), kG, bG, mG, eG⟩, aG⟩
    | k + 4, hq => simp [tysW] at hq
theorem tx_in : ∀ q ∈ txX8, Cond.stringRef RX8 q.1 q.2 ∈ lw_tbl := by decide +kernel
theorem law_T {s : State} {b : Nat} (hts : ∀ w ∈ lw_tbl, w.before #[Value.ref b] s = true) (hgv : (Jvm.Cond.and given_1 narrow_1).before #[Value.ref b] s = true) : wThr (lwA s) s := by
  have hs := flat_of_before _ hgv
  have hA : ∀ a : Nat, a < s.heap.size → ¬ lwA s a := fun a h => Nat.not_le.mpr h
  obtain ⟨c8, i8, h8⟩ := u_known (C := RX8) (T := TX8) (N := 9) (n := 9) hts inX8 (hts (.instantiable RX8 9) (by decide +kernel))
  refine ⟨vx_Zqof (hts (.laysStatic Bundle.tN "UNASSIGNED_STACK" Bundle.steD) (by decide +kernel)) (hts (.initialized Bundle.tN) (by decide +kernel)) (hs (.isRef (.static Bundle.tN "UNASSIGNED_STACK" Bundle.steD)) (by decide +kernel)) hA, vx_Zqof (hts (.laysStatic Bundle.tN "SUPPRESSED_SENTINEL" Bundle.listD) (by decide +kernel)) (hts (.initialized Bundle.tN) (by decide +kernel)) (hs (.isRef (.static Bundle.tN "SUPPRESSED_SENTINEL" Bundle.listD)) (by decide +kernel)) hA, fun q hq => ?_, fun E hE => ?_, fun X hX => ?_⟩
  · have h := hts _ (tx_in q hq)
    obtain ⟨k, cf, i, a, -, -, -, -, -, he⟩ := Cond.stringRef_spec (first := s) (o := none) (idx := []) h8.2.1 h
    exact ⟨a, vk_R.of h he⟩
  · simp only [List.mem_cons, List.not_mem_nil, or_false] at hE
    rcases hE with rfl | rfl | rfl
    · exact va_Nw.of rfl (hts (.castable "java/lang/IllegalArgumentException" "java/lang/IllegalArgumentException") (by decide +kernel))
    · exact va_Nw.of rfl (hts (.castable "java/lang/IllegalStateException" "java/lang/IllegalStateException") (by decide +kernel))
    · exact va_Nw.of rfl (hts (.castable "java/lang/IndexOutOfBoundsException" "java/lang/IndexOutOfBoundsException") (by decide +kernel))
  · simp only [List.mem_cons, List.not_mem_nil, or_false] at hX
    rcases hX with rfl | rfl | rfl
    · exact va_Nw.of rfl (hts (.declares (Bundle.initS "java/lang/RuntimeException")) (by decide +kernel))
    · exact va_Nw.of rfl (hts (.declares (Bundle.initS "java/lang/Exception")) (by decide +kernel))
    · exact va_Nw.of rfl (hts (.declares (Bundle.initS "java/lang/Throwable")) (by decide +kernel))
theorem law_N {s : State} {b : Nat} (hgv : (Jvm.Cond.and given_1 narrow_1).before #[Value.ref b] s = true) : wNcs s := by
  have hs := flat_of_before _ hgv
  intro q hq
  simp only [List.mem_cons, List.not_mem_nil, or_false] at hq
  rcases hq with rfl | rfl | rfl | rfl | rfl | rfl
  · exact va_Nc.of (hs (.not (.castable "java/lang/IllegalArgumentException" "java/lang/IllegalStateException")) (by decide +kernel))
  · exact va_Nc.of (hs (.not (.castable "java/lang/IllegalArgumentException" "java/lang/IndexOutOfBoundsException")) (by decide +kernel))
  · exact va_Nc.of (hs (.not (.castable "java/lang/IllegalStateException" "java/lang/IllegalArgumentException")) (by decide +kernel))
  · exact va_Nc.of (hs (.not (.castable "java/lang/IllegalStateException" "java/lang/IndexOutOfBoundsException")) (by decide +kernel))
  · exact va_Nc.of (hs (.not (.castable "java/lang/IndexOutOfBoundsException" "java/lang/IllegalArgumentException")) (by decide +kernel))
  · exact va_Nc.of (hs (.not (.castable "java/lang/IndexOutOfBoundsException" "java/lang/IllegalStateException")) (by decide +kernel))
theorem law_I {s : State} {b : Nat} (hts : ∀ w ∈ lw_tbl, w.before #[Value.ref b] s = true) : wIni s := by
  refine ⟨va_AOA.of (hts (.arrayOver (.array .int)) (by decide +kernel)), fun q hq => ?_⟩
  have hin : ∀ q ∈ nestX8, Cond.methodLinkNest RX8 q.1 q.2 "Sleevehall" ∈ lw_tbl := by decide +kernel
  exact va_Nw.of rfl (hts _ (hin q hq))
/-- where act throws, nothing has changed -/
def Thr (a : AT) (x : Int64 × AT) : Prop := x.1 = -9000000000000000 → x.2 = a
theorem pr_thr (a : AT) (r : Option (Int32 × AT)) : Thr a (pr a r) := by
  intro h
  rcases r with _ | ⟨r, a'⟩
  · rfl
  · exfalso
    have h : r.toInt64 = -9000000000000000 := h
    have h2 := congrArg Int64.toInt h
    rw [Int32.toInt_toInt64] at h2
    have h3 := Int32.le_toInt r
    have h4 : (-9000000000000000 : Int64).toInt = -9000000000000000 := by decide
    omega
theorem pz_thr (a : AT) (r : Option (Int32 × AT)) : Thr a (pz a r) := by
  intro h
  rcases r with _ | ⟨r, a'⟩
  · rfl
  · exfalso
    have h : (if r = 0 then (0 : Int64) else 1) = -9000000000000000 := h
    by_cases c : r = 0
    · rw [if_pos c] at h
      exact absurd h (by decide)
    · rw [if_neg c] at h
      exact absurd h (by decide)
theorem ite_thr {a : AT} {x y : Int64 × AT} {C : Prop} {_ : Decidable C} (h1 : Thr a x) (h2 : Thr a y) : Thr a (if C then x else y) := by
  split
  · exact h1
  · exact h2
theorem sAct_thr (a : AT) (v ei : Int32) : Thr a (sAct a v ei) := by
  unfold sAct sSw
  split <;> first | exact pr_thr _ _ | exact pz_thr _ _ | exact ite_thr (pr_thr _ _) (pr_thr _ _)
theorem cmp_0 {x y : Int64} (h : lg_cmp x y = 0) : x = y := by
  unfold lg_cmp at h
  by_cases c1 : x > y
  · rw [if_pos c1] at h
    exact absurd h (by decide)
  · rw [if_neg c1] at h
    by_cases c2 : x = y
    · exact c2
    · rw [if_neg c2] at h
      exact absurd h (by decide)
