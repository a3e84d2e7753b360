/-! MATH 0: numbers, and the words that the printed functions are made of -/
theorem ck_true {α : Type} (k : Option α) : ck true k = k := rfl
theorem nm_eq {α β : Type} (x : α) (f : α → β) : nm x f = f x := rfl
theorem ob_some {α β : Type} (x : α) (f : α → Option β) : ob (some x) f = f x := rfl
theorem xm_inl {α : Type} (u : Unit × Unit) (fx : String → α) (k : α) : xm (.inl u) fx k = k := rfl
theorem xm_inr {α : Type} (E : String) (u : Unit) (fx : String → α) (k : α) : xm (.inr (E, u)) fx k = fx E := rfl
theorem clN {j : Nat} (h : j < 2147483648) : (nI j).toNatClampNeg = j := nI_clamp h
theorem g_nI {j n : Nat} (h : j < n) (hn : n < 2147483648) : g_in (nI j) n = true := by
  have h1 : ¬ nI j < 0 := nI_pos (by omega)
  unfold g_in
  rw [clN (by omega)]
  simp [h1, h]
theorem nle {a b : Nat} (h : a ≤ b) (hb : b < 2147483648) : nI a ≤ nI b := nI_le h hb
theorem nnle {a b : Nat} (h : b < a) (ha : a < 2147483648) : ¬ nI a ≤ nI b := fun q => absurd ((nI_leI ha (by omega)).mp q) (by omega)
theorem nlt {a b : Nat} (h : a < b) (hb : b < 2147483648) : nI a < nI b := nI_lt h hb
theorem nnlt {a b : Nat} (h : b ≤ a) (ha : a < 2147483648) : ¬ nI a < nI b := nI_nlt h ha
theorem neqI {a b : Nat} (ha : a < 2147483648) (hb : b < 2147483648) (h : a ≠ b) : ¬ nI a = nI b := fun q => h ((nI_eq ha hb).mp q)
theorem i32le {a b : Int32} : a ≤ b ↔ a.toInt ≤ b.toInt := Int32.le_iff_toInt_le
theorem i32lt {a b : Int32} : a < b ↔ a.toInt < b.toInt := Int32.lt_iff_toInt_lt
theorem i32eq {a b : Int32} : a = b ↔ a.toInt = b.toInt := Int32.toInt_inj.symm
theorem ltirr {a : Int32} (h : a < a) : False := by
  have := i32lt.mp h
  omega
/-- an int is one of the first n numbers, or out of them -/
theorem in_n (p : Int32) (n : Nat) (hn : n < 2147483648) : (∃ j, j < n ∧ p = nI j) ∨ ((p < 0 ∨ nI n ≤ p) ∧ ∀ j, j < n → p ≠ nI j) := by
  rcases pk_ix p hn with h | h | ⟨j, h, e⟩
  · refine Or.inr ⟨Or.inl h, fun j hj e => ?_⟩
    subst e
    exact nI_pos (by omega) h
  · refine Or.inr ⟨Or.inr h, fun j hj e => ?_⟩
    subst e
    exact nnle hj hn h
  · exact Or.inl ⟨j, h, e⟩
theorem fb_rng (x : Int32) : -2147483648 ≤ x.toInt ∧ x.toInt < 2147483648 := by
  have h1 := Int32.le_toInt x
  have h2 := Int32.toInt_lt x
  omega
theorem fb_bmod {z : Int} (h1 : -2147483648 ≤ z) (h2 : z < 2147483648) : z.bmod (2 ^ 32) = z := by
  rw [Int.bmod_eq_of_le (by omega) (by omega)]
theorem fb_addI {x y : Int32} (h1 : -2147483648 ≤ x.toInt + y.toInt) (h2 : x.toInt + y.toInt < 2147483648) : (x + y).toInt = x.toInt + y.toInt := by
  rw [Int32.toInt_add, fb_bmod h1 h2]
theorem fb_subI {x y : Int32} (h1 : -2147483648 ≤ x.toInt - y.toInt) (h2 : x.toInt - y.toInt < 2147483648) : (x - y).toInt = x.toInt - y.toInt := by
  rw [Int32.toInt_sub, fb_bmod h1 h2]
theorem fb_mulI {x y : Int32} (h1 : -2147483648 ≤ x.toInt * y.toInt) (h2 : x.toInt * y.toInt < 2147483648) : (x * y).toInt = x.toInt * y.toInt := by
  rw [Int32.toInt_mul, fb_bmod h1 h2]
theorem fb_rngL (x : Int64) : -9223372036854775808 ≤ x.toInt ∧ x.toInt < 9223372036854775808 := by
  have h1 := Int64.le_toInt x
  have h2 := Int64.toInt_lt x
  omega
theorem fb_bmodL {z : Int} (h1 : -9223372036854775808 ≤ z) (h2 : z < 9223372036854775808) : z.bmod (2 ^ 64) = z := by
  rw [Int.bmod_eq_of_le (by omega) (by omega)]
theorem fb_addL {x y : Int64} (h1 : -9223372036854775808 ≤ x.toInt + y.toInt) (h2 : x.toInt + y.toInt < 9223372036854775808) : (x + y).toInt = x.toInt + y.toInt := by
  rw [Int64.toInt_add, fb_bmodL h1 h2]
theorem fb_subL {x y : Int64} (h1 : -9223372036854775808 ≤ x.toInt - y.toInt) (h2 : x.toInt - y.toInt < 9223372036854775808) : (x - y).toInt = x.toInt - y.toInt := by
  rw [Int64.toInt_sub, fb_bmodL h1 h2]
theorem fb_mulL {x y : Int64} (h1 : -9223372036854775808 ≤ x.toInt * y.toInt) (h2 : x.toInt * y.toInt < 9223372036854775808) : (x * y).toInt = x.toInt * y.toInt := by
  rw [Int64.toInt_mul, fb_bmodL h1 h2]
theorem needPlayer_ok {j : Nat} (h : j < 6) : fX8_needPlayer (nI j) = some (.inl ((), ())) := by
  unfold fX8_needPlayer
  rw [if_neg (nI_pos (by omega)), if_pos (show nI j < 6 from nlt (b := 6) h (by omega))]
theorem needPlayer_bad {p : Int32} (h : p < 0 ∨ nI 6 ≤ p) : fX8_needPlayer p = some (.inr ("java/lang/IndexOutOfBoundsException", ())) := by
  unfold fX8_needPlayer
  by_cases h0 : p < 0
  · rw [if_pos h0]
    rfl
  · rw [if_neg h0, if_neg (show ¬ p < 6 from fun q => by
      rcases h with h | h
      · exact h0 h
      · exact (ltirr (Int32.lt_of_lt_of_le q h)).elim)]
    rfl
theorem needKind_ok {n j : Nat} (hn : n ≤ 20) (h : j < n) : fX8_needKind (nI n) (nI j) = some (.inl ((), ())) := by
  unfold fX8_needKind
  rw [if_neg (nI_pos (by omega)), if_pos (nlt h (by omega))]
theorem needKind_bad {n : Nat} {p : Int32} (h : p < 0 ∨ nI n ≤ p) : fX8_needKind (nI n) p = some (.inr ("java/lang/IndexOutOfBoundsException", ())) := by
  unfold fX8_needKind
  by_cases h0 : p < 0
  · rw [if_pos h0]
    rfl
  · rw [if_neg h0, if_neg (show ¬ p < nI n from fun q => by
      rcases h with h | h
      · exact h0 h
      · exact (ltirr (Int32.lt_of_lt_of_le q h)).elim)]
    rfl
theorem in_eq (a b c : Int32) : fX9_in a b c = some (if b ≤ a ∧ a ≤ c then 1 else 0) := by
  unfold fX9_in fX9_in_b14 fX9_in_b15
  by_cases h : a < b
  · rw [if_pos h, if_neg (fun q : b ≤ a ∧ a ≤ c => (ltirr (Int32.lt_of_lt_of_le h q.1)).elim)]
  · rw [if_neg h]
    by_cases h2 : c < a
    · rw [if_pos h2, if_neg (fun q : b ≤ a ∧ a ≤ c => (ltirr (Int32.lt_of_lt_of_le h2 q.2)).elim)]
    · rw [if_neg h2, if_pos ⟨Int32.not_lt.mp h, Int32.not_lt.mp h2⟩]
theorem isPlayer_ok {j : Nat} (h : j < 6) : fX9_isPlayer (nI j) = some 1 := by
  unfold fX9_isPlayer
  rw [in_eq, if_pos ⟨nI_pos' (by omega), show nI j ≤ 5 from nle (b := 5) (by omega) (by omega)⟩]
  rfl
theorem isPlayer_bad {p : Int32} (h : p < 0 ∨ nI 6 ≤ p) : fX9_isPlayer p = some 0 := by
  unfold fX9_isPlayer
  rw [in_eq, if_neg (fun q => ?_)]
  · rfl
  · rcases h with h | h
    · exact (ltirr (Int32.lt_of_lt_of_le h q.1)).elim
    · exact absurd (Int32.le_trans h q.2) (by decide)
theorem n1I {n : Nat} (h : 0 < n) : nI n - 1 = nI (n - 1) := by
  rcases n with _ | n
  · omega
  · rw [nI_pred]
    rfl
theorem isKind_ok {n j : Nat} (hn : n ≤ 20) (h : j < n) : fX9_isKind (nI n) (nI j) = some 1 := by
  unfold fX9_isKind
  rw [in_eq, n1I (by omega), if_pos ⟨nI_pos' (by omega), nle (by omega) (by omega)⟩]
  rfl
theorem isKind_bad {n : Nat} {p : Int32} (hn : n ≤ 20) (h : p < 0 ∨ nI n ≤ p) : fX9_isKind (nI n) p = some 0 := by
  unfold fX9_isKind
  rw [in_eq, if_neg (fun q => ?_)]
  · rfl
  · rcases h with h | h
    · exact (ltirr (Int32.lt_of_lt_of_le h q.1)).elim
    · rcases Nat.eq_zero_or_pos n with e | e
      · subst e
        exact absurd (Int32.le_trans q.1 q.2) (by decide)
      · rw [n1I e] at q
        exact nnle (show n - 1 < n by omega) (by omega) (Int32.le_trans h q.2)
/-- the codes of exceptions among those that a method names -/
theorem goesWell_0 (v : Int32) : fX9_goesWell v 0 = some (1, 0) := rfl
theorem goesWell_1 (v : Int32) : fX9_goesWell v 1 = some (0, 1) := rfl
theorem goesWell_2 (v : Int32) : fX9_goesWell v 2 = some (0, 2) := rfl
def IAE : String := "java/lang/IllegalArgumentException"
def ISE : String := "java/lang/IllegalStateException"
def IOB : String := "java/lang/IndexOutOfBoundsException"
