/-! MATH 22: pairs, the call -/
def fl (R : Nat → Nat) (P : Nat) : Wy → Int32 → Int32
  | [], x => x
  | y :: w, x => fl R P w (if R y.1 = P then nI (R y.2) else if R y.2 = P then nI (R y.1) else x)
def stp (l4 l6 : Int32) : Wy → Int32 → Int32 → Bool
  | [], _, l7 => decide (l7 ≤ 0)
  | y :: w, l3, l7 => decide (¬ l7 ≤ 0) && (fX9_placeOf l3 0 == some (nI y.1)) && decide (y.1 < 6) && decide (y.2 < 6) && (fX9_placeOf (l3 ||| ((1 : Int32) <<< (nI y.1 &&& 31))) (if l7 = 6 then l4 / l6 else if l7 = 4 then l4 - l4 / 3 * 3 else 0) == some (nI y.2)) && stp l4 l6 w ((l3 ||| ((1 : Int32) <<< (nI y.1 &&& 31))) ||| ((1 : Int32) <<< (nI y.2 &&& 31))) (l7 + (-2))
theorem ref_way {many l4 l6 : Int32} {hm row : Nat → Int32} {R mm : Nat → Nat} {P : Nat} (hP : P < 6) (hl6 : nz l6 = true) (hmet : ∀ p, p < 6 → mm p < 64 ∧ ∀ q, q < 6 → hm (6 * p + q) = if (mm p).testBit q = true then 1 else 0) : ∀ (w : Wy) (f : Nat) (l3 l5 l7 : Int32), stp l4 l6 w l3 l7 = true → w.length < f → (∀ y, y ∈ w → (row y.1 = nI (R y.1) ∧ R y.1 < 6) ∧ (row y.2 = nI (R y.2) ∧ R y.2 < 6)) →
    fX9_pairedIn_b31 many hm row f (nI P) l3 l4 l5 l6 l7 = some (if okW (fun x y => (mm (R x)).testBit (R y)) w = true then fl R P w l5 else -1)
  | [], f, l3, l5, l7, hs, hf, hr => by
    rcases f with _ | f
    · exact absurd hf (Nat.not_lt_zero _)
    have h : l7 ≤ 0 := of_decide_eq_true hs
    rw [fX9_pairedIn_b31, if_pos h]
    rfl
  | y :: w, f, l3, l5, l7, hs, hf, hr => by
    rcases f with _ | f
    · exact absurd hf (Nat.not_lt_zero _)
    rw [stp] at hs
    simp only [Bool.and_eq_true, decide_eq_true_eq, beq_iff_eq] at hs
    obtain ⟨⟨⟨⟨⟨s1, s2⟩, s3⟩, s4⟩, s5⟩, s6⟩ := hs
    obtain ⟨⟨r1, r2⟩, r3, r4⟩ := hr y List.mem_cons_self
    have ih := ref_way (many := many) (row := row) (R := R) hP hl6 hmet w f _ (if R y.1 = P then nI (R y.2) else if R y.2 = P then nI (R y.1) else l5) _ s6 (by simp only [List.length_cons] at hf; omega) (fun z hz => hr z (List.mem_cons_of_mem _ hz))
    have hk : ∀ q : Int32, fX9_placeOf (l3 ||| ((1 : Int32) <<< (nI y.1 &&& 31))) q = some (nI y.2) → fX9_pairedIn_b79 (fX9_pairedIn_b31 many hm row f) many hm row (nI P) (l3 ||| ((1 : Int32) <<< (nI y.1 &&& 31))) l4 l5 l6 l7 (nI y.1) q = some (if okW (fun x y => (mm (R x)).testBit (R y)) (y :: w) = true then fl R P (y :: w) l5 else -1) := by
      intro q hq
      unfold fX9_pairedIn_b79 fX9_pairedIn_b168
      rw [hq, ob_some, nm_eq, g_nI s3 (by omega), ck_true, g_nI s4 (by omega), ck_true, clN (j := y.1) (by omega), clN (j := y.2) (by omega), r1, r3, ix6, g_nI (show 6 * R y.1 + R y.2 < 36 by omega) (by omega), ck_true, clN (j := 6 * R y.1 + R y.2) (by omega), (hmet _ r2).2 _ r4, ck_true, ck_true, ck_true, nm_eq]
      have hok : okW (fun x y => (mm (R x)).testBit (R y)) (y :: w) = (!(mm (R y.1)).testBit (R y.2) && okW (fun x y => (mm (R x)).testBit (R y)) w) := rfl
      rw [hok]
      by_cases c : (mm (R y.1)).testBit (R y.2) = true
      · rw [if_pos c, if_neg one0, c]
        rfl
      · rw [if_neg c, if_pos rfl]
        have c' : (mm (R y.1)).testBit (R y.2) = false := by
          revert c
          cases (mm (R y.1)).testBit (R y.2) <;> simp
        rw [c', Bool.not_false, Bool.true_and, fl]
        by_cases e1 : R y.1 = P
        · rw [if_pos e1] at ih ⊢
          rw [if_pos (by rw [e1])]
          exact ih
        · rw [if_neg e1] at ih ⊢
          rw [if_neg (neqI (by omega) (by omega) e1)]
          by_cases e2 : R y.2 = P
          · rw [if_pos e2] at ih ⊢
            rw [if_pos (by rw [e2])]
            exact ih
          · rw [if_neg e2] at ih ⊢
            rw [if_neg (neqI (by omega) (by omega) e2)]
            exact ih
    rw [fX9_pairedIn_b31, if_neg s1, s2, ob_some, nm_eq, hl6, ck_true]
    by_cases c6 : l7 = 6
    · rw [if_pos c6]
      rw [if_pos c6] at s5
      exact hk _ s5
    · rw [if_neg c6]
      rw [if_neg c6] at s5
      by_cases c4 : l7 = 4
      · rw [if_pos c4]
        rw [if_pos c4] at s5
        exact hk _ s5
      · rw [if_neg c4]
        rw [if_neg c4] at s5
        exact hk _ s5
def wW (h : Nat) : List Wy := ways h (List.range (2 * h))
def wN (h : Nat) : Nat := if h = 3 then 15 else if h = 2 then 3 else 1
def flat : Wy → List Nat
  | [] => []
  | y :: w => y.1 :: y.2 :: flat w
theorem tabW : ∀ h, h < 4 → (wW h).length = wN h ∧ (∀ w ∈ wW h, (flat w).Nodup ∧ (∀ i ∈ flat w, i < 2 * h) ∧ w.length ≤ 3) ∧ ∀ k, k < wN h → stp (nI k) (if h = 3 then 3 else 1) ((wW h)[k]?.getD []) 0 (nI (2 * h)) = true := by decide +kernel
theorem flat_mem : ∀ {w : Wy} {y : Nat × Nat}, y ∈ w → y.1 ∈ flat w ∧ y.2 ∈ flat w
  | [], _, h => by cases h
  | z :: w, y, h => by
    rw [flat]
    rcases List.mem_cons.mp h with q | q
    · subst q
      exact ⟨List.mem_cons_self, List.mem_cons_of_mem _ List.mem_cons_self⟩
    · have := flat_mem q
      exact ⟨List.mem_cons_of_mem _ (List.mem_cons_of_mem _ this.1), List.mem_cons_of_mem _ (List.mem_cons_of_mem _ this.2)⟩
theorem asg_fl {R : Nat → Nat} {P m : Nat} (hR : ∀ i j, i < m → j < m → R i = R j → i = j) : ∀ (w : Wy) (x : Int32) (o : Nat → Int32), (flat w).Nodup → (∀ i ∈ flat w, i < m) →
    ((∀ i ∈ flat w, R i ≠ P) → fl R P w x = x ∧ asg R w o P = o P) ∧ ((∃ i, i ∈ flat w ∧ R i = P) → fl R P w x = asg R w o P ∧ ∃ j, j ∈ flat w ∧ fl R P w x = nI (R j))
  | [], x, o, _, _ => ⟨fun _ => ⟨rfl, rfl⟩, fun ⟨i, h, _⟩ => by cases h⟩
  | y :: w, x, o, hn, hb => by
    rw [flat, List.nodup_cons, List.nodup_cons] at hn
    obtain ⟨n1, n2, n3⟩ := hn
    have b1 := hb y.1 List.mem_cons_self
    have b2 := hb y.2 (List.mem_cons_of_mem _ List.mem_cons_self)
    have b3 : ∀ i ∈ flat w, i < m := fun i hi => hb i (List.mem_cons_of_mem _ (List.mem_cons_of_mem _ hi))
    have d12 : R y.1 ≠ R y.2 := fun e => n1 (by rw [hR _ _ b1 b2 e]; exact List.mem_cons_self)
    have ih := fun x => asg_fl (P := P) hR w x o n3 b3
    refine ⟨fun h => ?_, fun h => ?_⟩
    · have h1 := h y.1 List.mem_cons_self
      have h2 := h y.2 (List.mem_cons_of_mem _ List.mem_cons_self)
      rw [fl, asg, if_neg h1, if_neg h2, upd_n (Ne.symm h2), upd_n (Ne.symm h1)]
      exact (ih x).1 fun i hi => h i (List.mem_cons_of_mem _ (List.mem_cons_of_mem _ hi))
    · rw [fl, asg]
      by_cases e1 : R y.1 = P
      · have hno : ∀ i ∈ flat w, R i ≠ P := fun i hi e => n1 (by
          have := hR i y.1 (b3 i hi) b1 (by rw [e, e1])
          rw [← this]
          exact List.mem_cons_of_mem _ hi)
        rw [if_pos e1, ((ih _).1 hno).1, upd_n (by rw [← e1]; exact d12), ← e1, upd_s]
        exact ⟨rfl, y.2, List.mem_cons_of_mem _ List.mem_cons_self, rfl⟩
      · rw [if_neg e1]
        by_cases e2 : R y.2 = P
        · have hno : ∀ i ∈ flat w, R i ≠ P := fun i hi e => n2 (by
            have := hR i y.2 (b3 i hi) b2 (by rw [e, e2])
            rw [← this]
            exact hi)
          rw [if_pos e2, ((ih _).1 hno).1, ← e2, upd_s]
          exact ⟨rfl, y.1, List.mem_cons_self, rfl⟩
        · rw [if_neg e2, upd_n (Ne.symm e2), upd_n (Ne.symm e1)]
          have hw : ∃ i, i ∈ flat w ∧ R i = P := by
            obtain ⟨i, hi, e⟩ := h
            rw [flat, List.mem_cons, List.mem_cons] at hi
            rcases hi with q | q | q
            · rw [q] at e
              exact absurd e e1
            · rw [q] at e
              exact absurd e e2
            · exact ⟨i, q, e⟩
          obtain ⟨u1, j, u2, u3⟩ := (ih x).2 hw
          exact ⟨u1, j, List.mem_cons_of_mem _ (List.mem_cons_of_mem _ u2), u3⟩
def resW (R : Nat → Nat) (P : Nat) : Option Wy → Int32
  | none => -1
  | some w => if fl R P w (-2) = -2 then -1 else fl R P w (-2)
theorem ways_loop {h : Nat} (hh : h < 4) {str hm row : Nat → Int32} {R mm : Nat → Nat} {P : Nat} (hP : P < 6) (th : Int32) (hmet : ∀ p, p < 6 → mm p < 64 ∧ ∀ q, q < 6 → hm (6 * p + q) = if (mm p).testBit q = true then 1 else 0) (hrow : ∀ i, i < 2 * h → row i = nI (R i) ∧ R i < 6) (hinj : ∀ i j, i < 2 * h → j < 2 * h → R i = R j → i = j) : ∀ (r k f : Nat), k + r = wN h → r < f →
    fX9_pair_b74 str hm f th (nI (2 * h)) row (nI P) (nI (wN h)) (nI k) = some (resW R P (((wW h).drop k).find? (okW fun x y => (mm (R x)).testBit (R y))), th, nI (2 * h), row) := by
  obtain ⟨t1, t2, t3⟩ := tabW h hh
  have hN : wN h ≤ 15 := by
    unfold wN
    split
    · omega
    · split <;> omega
  intro r
  induction r with
  | zero =>
    intro k f h1 h2
    rcases f with _ | f
    · omega
    rw [fX9_pair_b74, if_pos (nle (by omega) (by omega)), List.drop_eq_nil_of_le (by omega)]
    rfl
  | succ r ih =>
    intro k f h1 h2
    rcases f with _ | f
    · omega
    have hk : k < (wW h).length := by omega
    have hst := t3 k (by omega)
    rw [List.getElem?_eq_getElem hk, Option.getD_some] at hst
    obtain ⟨u1, u2, u3⟩ := t2 _ (List.getElem_mem hk)
    rw [List.drop_eq_getElem_cons hk, List.find?_cons]
    generalize hw : (wW h)[k] = w at hst u1 u2 u3
    have hpl : ∀ y, y ∈ w → (row y.1 = nI (R y.1) ∧ R y.1 < 6) ∧ (row y.2 = nI (R y.2) ∧ R y.2 < 6) := fun y hy => ⟨hrow _ (u2 _ (flat_mem hy).1), hrow _ (u2 _ (flat_mem hy).2)⟩
    have hp : fX9_pairedIn (nI (2 * h)) hm row (nI P) (nI k) = some (if okW (fun x y => (mm (R x)).testBit (R y)) w = true then fl R P w (-2) else -1) := by
      unfold fX9_pairedIn fX9_pairedIn_b23
      by_cases c : h = 3
      · rw [if_pos c] at hst
        rw [if_pos (show nI (2 * h) = 6 by rw [c]; rfl)]
        exact ref_way hP (by decide) hmet w 70 0 (-2) _ hst (by omega) hpl
      · rw [if_neg c] at hst
        rw [if_neg (show ¬ nI (2 * h) = 6 from neqI (b := 6) (by omega) (by omega) (by omega))]
        exact ref_way hP (by decide) hmet w 70 0 (-2) _ hst (by omega) hpl
    rw [fX9_pair_b74, if_neg (nnle (by omega) (by omega)), hp, ob_some]
    unfold fX9_pair_b109
    by_cases c : okW (fun x y => (mm (R x)).testBit (R y)) w = true
    · have hne : ¬ fl R P w (-2) = -1 := by
        have hf := asg_fl (P := P) hinj w (-2) (fun _ => 0) u1 u2
        by_cases z : ∃ i, i ∈ flat w ∧ R i = P
        · obtain ⟨-, j, v1, v2⟩ := hf.2 z
          rw [v2]
          have := (hrow j (u2 j v1)).2
          exact fun q => absurd (q ▸ nI_pos' (show R j < 2 ^ 31 by omega)) (by decide)
        · rw [(hf.1 fun i hi e => z ⟨i, hi, e⟩).1]
          decide
      rw [if_pos c, if_neg hne, c]
      show (if fl R P w (-2) = -2 then _ else _) = some (if fl R P w (-2) = -2 then _ else _, _, _, _)
      by_cases c2 : fl R P w (-2) = -2
      · rw [if_pos c2, if_pos c2]
      · rw [if_neg c2, if_neg c2]
    · rw [if_neg c, if_pos rfl, nm_eq, nI_1]
      have c' : okW (fun x y => (mm (R x)).testBit (R y)) w = false := by
        revert c
        cases okW (fun x y => (mm (R x)).testBit (R y)) w <;> simp
      rw [c']
      exact ih (k + 1) f (by omega) (by omega)
theorem oth_loop {str met row : Nat → Int32} {l1 len : Int32} : ∀ (r j f : Nat) (o : Nat → Int32), j + r = 6 → r < f →
    ∃ o' : Nat → Int32, fX3_findOther_b7 str met f len row o l1 (nI j) = fX3_findOther_b7 str met 1 len row o' l1 (nI 6) ∧ ∀ p, p < 6 → (p < j → o' p = o p) ∧ (j ≤ p → o' p = -1) := by
  intro r
  induction r with
  | zero =>
    intro j f o h1 h2
    rcases f with _ | f
    · omega
    have : j = 6 := by omega
    subst this
    refine ⟨o, ?_, fun p hp => ⟨fun _ => rfl, fun q => absurd hp (by omega)⟩⟩
    rw [fX3_findOther_b7, fX3_findOther_b7, if_pos (show 6 ≤ nI 6 by decide), if_pos (show 6 ≤ nI 6 by decide)]
  | succ r ih =>
    intro j f o h1 h2
    rcases f with _ | f
    · omega
    obtain ⟨o', q1, q2⟩ := ih (j + 1) f (upd o j (-1)) (by omega) (by omega)
    refine ⟨o', ?_, fun p hp => ⟨fun q => ?_, fun q => ?_⟩⟩
    · rw [fX3_findOther_b7, if_neg (show ¬ 6 ≤ nI j from nnle (a := 6) (by omega) (by omega)), g_nI (show j < 6 by omega) (by omega), ck_true, nm_eq, nI_1, clN (by omega)]
      exact q1
    · rw [(q2 p hp).1 (by omega), upd_n (by omega)]
    · by_cases e : p = j
      · rw [(q2 p hp).1 (by omega), e, upd_s]
      · exact (q2 p hp).2 (by omega)
theorem full6 : ∀ h, h < 4 → plc 6 (1 <<< (2 * h) - 1) = List.range (2 * h) ∧ 1 <<< (2 * h) - 1 < 64 := by decide +kernel
theorem m_pair {str met mstr haveMet : Nat → Int32} (hM : RM str met mstr haveMet) (q1 : Int32) (row others : Nat → Int32) (thrown many : Int32) (mrow : Nat → Int32) (p1 p2 : Int32) :
    (∃ r x many' mrow', fX8_pair q1 str met row others p1 p2 = some (.inl (r, x)) ∧ fX9_pair thrown many mstr haveMet mrow p1 p2 = some (r, 0, many', mrow')) ∨
    (fX8_pair q1 str met row others p1 p2 = some (.inr ("java/lang/IndexOutOfBoundsException", (q1, row, others))) ∧ ∃ b many' mrow', fX9_pair thrown many mstr haveMet mrow p1 p2 = some (b, 1, many', mrow')) ∨
    (fX8_pair q1 str met row others p1 p2 = some (.inr ("java/lang/IllegalArgumentException", (q1, row, others))) ∧ ∃ b many' mrow', fX9_pair thrown many mstr haveMet mrow p1 p2 = some (b, 2, many', mrow')) := by
  obtain ⟨hs, mm, hmm⟩ := hM
  unfold fX8_pair fX9_pair fX9_pair_b28 fX9_pair_b29 fX8_pair_b14
  rcases in_n p1 6 (by omega) with ⟨P, hP, rfl⟩ | ⟨hP, -⟩
  · rcases in_n p2 64 (by omega) with ⟨B, hB, rfl⟩ | ⟨hB, -⟩
    · left
      obtain ⟨len, R, row', mrow', hlen, u1, u2, u3, u4, u5⟩ := row_loop hs hB 6 0 70 70 0 (fun _ => 0) row mrow (by omega) (by omega) (by omega) (by omega) (fun i hi => absurd hi (Nat.not_lt_zero _)) (fun i j _ hj => absurd hj (Nat.not_lt_zero _)) (fun i hi => absurd hi (Nat.not_lt_zero _))
      obtain ⟨h, hh, eh⟩ : ∃ h, h < 4 ∧ len - len % 2 = 2 * h := ⟨len / 2, by omega, by omega⟩
      have hinj : ∀ i j, i < 2 * h → j < 2 * h → R i = R j → i = j := fun i j hi hj e => by
        rcases Nat.lt_trichotomy i j with q | q | q
        · exact absurd e (u4 i j q (by omega))
        · exact q
        · exact absurd e.symm (u4 j i q (by omega))
      obtain ⟨f1, f2⟩ := full6 h hh
      obtain ⟨-, -, f3⟩ := full_plc (2 * h) (by omega)
      obtain ⟨o', o1, o2⟩ := oth_loop (str := str) (met := met) (row := row') (l1 := nI P) (len := nI len) 6 0 70 others (by omega) (by omega)
      have hmet : ∀ p, p < 6 → met p = nI (mm p) ∧ mm p < 64 := fun p hp => ⟨(hmm p hp).1, (hmm p hp).2.1⟩
      have hc := pair_ok (R := R) (mm := mm) (len := len) (met := met) (row := row') hlen (fun i hi => ⟨(u5 i hi).1, u3 i hi⟩) hmet h 9 (1 <<< (2 * h) - 1) 0 o' (by omega) f2 (fun i hi hb => by
        have : i ∈ plc 6 (1 <<< (2 * h) - 1) := plc_mem.mpr ⟨hi, hb⟩
        rw [f1, List.mem_range] at this
        omega) (by rw [f1, List.length_range]; omega) (by omega)
      rw [f1, dfs_eq] at hc
      have hw := fun th => ways_loop (str := mstr) hh hP th (fun p hp => ⟨(hmm p hp).2.1, (hmm p hp).2.2⟩) (fun i hi => ⟨(u5 i (by omega)).2, u3 i (by omega)⟩) hinj (wN h) 0 70 (by omega) (by
        unfold wN
        split
        · omega
        · split <;> omega)
      obtain ⟨t1, t2, t3⟩ := tabW h hh
      have hw0 : (wW h).drop 0 = ways h (List.range (2 * h)) := rfl
      rw [hw0] at hw
      refine ⟨resW R P ((ways h (List.range (2 * h))).find? (okW fun x y => (mm (R x)).testBit (R y))), (nI len, row', (rDF R o' ((ways h (List.range (2 * h))).find? (okW fun x y => (mm (R x)).testBit (R y)))).2), nI (2 * h), mrow', ?_, ?_⟩
      · rw [needPlayer_ok hP, ob_some, xm_inl, if_neg (nI_pos (by omega)), if_pos (show nI B < 64 from nlt (b := 64) hB (by omega))]
        unfold fX3_findOther fX3_makeRow
        rw [show (0 : Int32) = nI 0 from rfl, u1, ob_some]
        dsimp only
        rw [o1, fX3_findOther_b7, if_pos (show 6 ≤ nI 6 by decide), nm_eq, show (2 : Int32) = nI 2 from rfl, pk_rem (by omega) (by omega) (by omega), pk_sub (Nat.mod_le _ _), eh, f3]
        have hc' : fX3_canPair 9 (nI len) met row' o' (nI (1 <<< (2 * h) - 1)) 0 = _ := hc
        rw [hc', ob_some]
        unfold fX3_findOther_b61
        cases hfd : (ways h (List.range (2 * h))).find? (okW fun x y => (mm (R x)).testBit (R y)) with
        | none => rfl
        | some w =>
          have hwm : w ∈ wW h := List.mem_of_find?_eq_some hfd
          obtain ⟨v1, v2, v3⟩ := t2 w hwm
          have ha := asg_fl (P := P) hinj w (-2) o' v1 v2
          have e : asg R w o' P = resW R P (some w) := by
            show _ = if fl R P w (-2) = -2 then _ else _
            by_cases z : ∃ i, i ∈ flat w ∧ R i = P
            · obtain ⟨w1, j, w2, w3⟩ := ha.2 z
              rw [if_neg, w1]
              rw [w3]
              have := u3 j (by have := v2 j w2; omega)
              exact fun q => absurd (q ▸ nI_pos' (show R j < 2 ^ 31 by omega)) (by decide)
            · obtain ⟨w1, w2⟩ := ha.1 fun i hi e => z ⟨i, hi, e⟩
              rw [w1, if_pos rfl, w2, (o2 P hP).2 (by omega)]
          show (ob (if (1 : Int32) = 0 then _ else ck (g_in (nI P) 6) (some (asg R w o' (nI P).toNatClampNeg, _, _, asg R w o'))) _) = _
          rw [if_neg one0, g_nI hP (by omega), ck_true, clN (by omega), ob_some, e]
          rfl
      · rw [isPlayer_ok hP, ob_some, if_neg one0, if_neg (nI_pos (by omega)), if_neg (show ¬ 63 < nI B from nnlt (a := 63) (b := B) (by omega) (by omega)), goesWell_0, ob_some]
        dsimp only
        rw [if_neg one0]
        unfold fX9_rowOf fX9_pair_b69
        rw [show (0 : Int32) = nI 0 from rfl, u2, ob_some]
        dsimp only
        rw [eh]
        have hw' := hw (nI 0)
        have e6 : (nI (2 * h) = 6) ↔ h = 3 := ⟨fun q => by have := (nI_eq (b := 6) (by omega) (by omega)).mp q; omega, fun q => by rw [q]; rfl⟩
        have e4 : (nI (2 * h) = 4) ↔ h = 2 := ⟨fun q => by have := (nI_eq (b := 4) (by omega) (by omega)).mp q; omega, fun q => by rw [q]; rfl⟩
        by_cases c3 : h = 3
        · rw [if_pos (e6.mpr c3)]
          rw [show wN h = 15 by unfold wN; rw [if_pos c3]] at hw'
          exact hw'
        · rw [if_neg (fun q => c3 (e6.mp q))]
          by_cases c2 : h = 2
          · rw [if_pos (e4.mpr c2)]
            rw [show wN h = 3 by unfold wN; rw [if_neg c3, if_pos c2]] at hw'
            exact hw'
          · rw [if_neg (fun q => c2 (e4.mp q))]
            rw [show wN h = 1 by unfold wN; rw [if_neg c3, if_neg c2]] at hw'
            exact hw'
    · right; right
      refine ⟨?_, ?_⟩
      · rw [needPlayer_ok hP, ob_some, xm_inl]
        by_cases c : p2 < 0
        · rw [if_pos c]
        · rw [if_neg c, if_neg (fun q : p2 < 64 => by
            rcases hB with h | h
            · exact c h
            · exact (ltirr (Int32.lt_of_lt_of_le q h)).elim)]
      · rw [isPlayer_ok hP, ob_some, if_neg one0, goesWell_2, ob_some]
        by_cases c : p2 < 0
        · rw [if_pos c]
          exact ⟨_, _, _, rfl⟩
        · rw [if_neg c, if_pos (show (63 : Int32) < p2 by
            rcases hB with h | h
            · exact absurd h c
            · exact Int32.lt_of_lt_of_le (show (63 : Int32) < nI 64 by decide) h)]
          exact ⟨_, _, _, rfl⟩
  · right; left
    refine ⟨?_, ?_⟩
    · rw [needPlayer_bad hP, ob_some, xm_inr]
    · rw [isPlayer_bad hP, ob_some, if_pos rfl, goesWell_1, ob_some]
      exact ⟨_, _, _, rfl⟩
