/-! MATH 3: results -/
theorem fa_or (a b : Nat) : nI a ||| nI b = nI (a ||| b) := by
  apply Int32.toBitVec_inj.1
  show BitVec.ofNat 32 a ||| BitVec.ofNat 32 b = BitVec.ofNat 32 (a ||| b)
  apply BitVec.eq_of_getLsbD_eq
  intro i hi
  simp [hi]
theorem shl1 : ∀ b, b < 6 → (1 : Int32) <<< (nI b &&& 31) = nI (2 ^ b) := by decide +kernel
/-- strengths, and who has met whom -/
def RM (strengths met strength haveMet : Nat → Int32) : Prop := (∀ p, p < 6 → strengths p = strength p) ∧ ∃ mm : Nat → Nat, ∀ p, p < 6 → met p = nI (mm p) ∧ mm p < 64 ∧ ∀ q, q < 6 → haveMet (6 * p + q) = if (mm p).testBit q = true then 1 else 0
theorem gain_eq (x : Int32) : (if 1 < (if x < 32 then x else 32) then (if x < 32 then x else 32) else 1) = if 1 ≤ x then (if x ≤ 32 then x else 32) else (1 : Int32) := by
  have e1 : ((1 : Int32)).toInt = 1 := rfl
  have e32 : ((32 : Int32)).toInt = 32 := rfl
  by_cases h1 : x < 32
  · rw [if_pos h1]
    have h1' := i32lt.mp h1
    have h3 : x ≤ 32 := i32le.mpr (by omega)
    rw [if_pos h3]
    by_cases h2 : 1 < x
    · have h2' := i32lt.mp h2
      rw [if_pos h2, if_pos (i32le.mpr (by omega))]
    · rw [if_neg h2]
      by_cases h4 : 1 ≤ x
      · rw [if_pos h4]
        have h4' := i32le.mp h4
        have h2' : ¬ (1 : Int32).toInt < x.toInt := fun q => h2 (i32lt.mpr q)
        exact i32eq.mpr (by omega)
      · rw [if_neg h4]
  · rw [if_neg h1, if_pos (by decide)]
    have h1' : ¬ x.toInt < (32 : Int32).toInt := fun q => h1 (i32lt.mpr q)
    rw [if_pos (i32le.mpr (by omega))]
    by_cases h3 : x ≤ 32
    · rw [if_pos h3]
      have h3' := i32le.mp h3
      exact i32eq.mpr (by omega)
    · rw [if_neg h3]
theorem m_result {strengths met strength haveMet : Nat → Int32} (hM : RM strengths met strength haveMet) (thrown p1 p2 : Int32) :
    (∃ r strengths' met' strength' haveMet', fX8_result strengths met p1 p2 = some (.inl (r, strengths', met')) ∧ fX9_result thrown strength haveMet p1 p2 = some (r, 0, strength', haveMet') ∧ RM strengths' met' strength' haveMet') ∨
    (fX8_result strengths met p1 p2 = some (.inr ("java/lang/IndexOutOfBoundsException", strengths, met)) ∧ ∃ b, fX9_result thrown strength haveMet p1 p2 = some (b, 1, strength, haveMet)) ∨
    (fX8_result strengths met p1 p2 = some (.inr ("java/lang/IllegalArgumentException", strengths, met)) ∧ ∃ b, fX9_result thrown strength haveMet p1 p2 = some (b, 2, strength, haveMet)) := by
  obtain ⟨hs, mm, hm⟩ := hM
  unfold fX8_result fX9_result fX9_result_b18 fX9_result_b19 fX9_result_b39 fX9_result_b91
  rcases in_n p1 6 (by omega) with ⟨a, ha, rfl⟩ | ⟨ha, -⟩
  · rcases in_n p2 6 (by omega) with ⟨b, hb, rfl⟩ | ⟨hb, -⟩
    · by_cases e : a = b
      · right; right
        subst e
        refine ⟨?_, ?_⟩
        · rw [needPlayer_ok ha, ob_some, xm_inl, ob_some, xm_inl, if_pos rfl]
        · rw [isPlayer_ok ha, ob_some, if_neg one0, ob_some, if_neg one0, if_neg one0, if_pos rfl, goesWell_2, ob_some]
          exact ⟨_, rfl⟩
      · left
        have e9 : ¬ nI a = nI b := neqI (by omega) (by omega) e
        generalize hx : (16 + (strength b - strength a) / 4 : Int32) = x
        generalize hg : (if 1 ≤ x then (if x ≤ 32 then x else 32) else (1 : Int32)) = g
        refine ⟨g, upd (upd strengths a (strength a + g)) b (strength b - g), upd (upd met a (nI (mm a ||| 2 ^ b))) b (nI (mm b ||| 2 ^ a)), upd (upd strength a (strength a + g)) b (strength b - g), upd (upd haveMet (6 * a + b) 1) (6 * b + a) 1, ?_, ?_, ?_, ?_⟩
        · unfold fX3_tell
          rw [needPlayer_ok ha, ob_some, xm_inl, needPlayer_ok hb, ob_some, xm_inl, if_neg e9, g_nI hb (by omega), ck_true, g_nI ha (by omega), ck_true]
          simp only [nm_eq, ck_true, clN (show a < 2147483648 by omega), clN (show b < 2147483648 by omega), hs a ha, hs b hb, (hm a ha).1, (hm b hb).1, upd_n (Ne.symm e), hx, gain_eq, hg, shl1 a ha, shl1 b hb, fa_or, ob_some]
        · rw [isPlayer_ok ha, ob_some, if_neg one0, isPlayer_ok hb, ob_some, if_neg one0, if_neg one0, if_neg e9, goesWell_0, ob_some]
          dsimp only
          rw [if_neg one0, g_nI hb (by omega), ck_true, g_nI ha (by omega), ck_true, nm_eq, clN (show a < 2147483648 by omega), clN (show b < 2147483648 by omega), hx, ix6, ix6, g_nI (show 6 * a + b < 36 by omega) (by omega), g_nI (show 6 * b + a < 36 by omega) (by omega), clN (show 6 * a + b < 2147483648 by omega), clN (show 6 * b + a < 2147483648 by omega)]
          simp only [ck_true, nm_eq, upd_n (Ne.symm e)]
          subst hg
          split
          · split <;> rfl
          · rfl
        · intro p hp
          simp only [upd]
          split
          · rfl
          · split
            · rfl
            · exact hs p hp
        · refine ⟨fun p => if p = b then mm b ||| 2 ^ a else if p = a then mm a ||| 2 ^ b else mm p, fun p hp => ?_⟩
          have h2 : ∀ k, k < 6 → 2 ^ k < 64 := by decide
          have hor : ∀ x y : Nat, x < 64 → y < 64 → x ||| y < 64 := fun x y hx hy => Nat.or_lt_two_pow (n := 6) hx hy
          by_cases hpb : p = b
          · subst hpb
            simp only [if_true]
            refine ⟨upd_s _ _ _, hor _ _ (hm p hp).2.1 (h2 a ha), fun q hq => ?_⟩
            simp only [upd, Nat.testBit_or, Nat.testBit_two_pow]
            by_cases hqa : q = a
            · subst hqa
              simp
            · rw [if_neg (by omega), if_neg (by omega), (hm p hp).2.2 q hq]
              simp [Ne.symm hqa]
          · by_cases hpa : p = a
            · subst hpa
              simp only [if_neg hpb, if_true]
              refine ⟨by rw [upd_n hpb, upd_s], hor _ _ (hm p hp).2.1 (h2 b hb), fun q hq => ?_⟩
              simp only [upd, Nat.testBit_or, Nat.testBit_two_pow]
              by_cases hqb : q = b
              · subst hqb
                rw [if_neg (by omega)]
                simp
              · rw [if_neg (by omega), if_neg (by omega), (hm p hp).2.2 q hq]
                simp [Ne.symm hqb]
            · simp only [if_neg hpb, if_neg hpa]
              refine ⟨by rw [upd_n hpb, upd_n hpa]; exact (hm p hp).1, (hm p hp).2.1, fun q hq => ?_⟩
              rw [upd_n (by omega), upd_n (by omega)]
              exact (hm p hp).2.2 q hq
    · right; left
      refine ⟨?_, ?_⟩
      · rw [needPlayer_ok ha, ob_some, xm_inl, needPlayer_bad hb, ob_some, xm_inr]
      · rw [isPlayer_ok ha, ob_some, if_neg one0, isPlayer_bad hb, ob_some, if_pos rfl, if_pos rfl, goesWell_1, ob_some]
        exact ⟨_, rfl⟩
  · right; left
    refine ⟨?_, ?_⟩
    · rw [needPlayer_bad ha, ob_some, xm_inr]
    · rw [isPlayer_bad ha, ob_some, if_pos rfl, if_pos rfl, goesWell_1, ob_some]
      exact ⟨_, rfl⟩
