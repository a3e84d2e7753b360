/-! MATH 9: laying out an order -/
theorem bitI : ∀ m, m < 64 → ∀ i, i < 6 → (((nI m) >>> (nI i &&& 31)) &&& 1) = if m.testBit i then 1 else 0 := by decide +kernel
theorem bitO : ∀ m, m < 64 → ∀ i, i < 6 → (nI m ||| ((1 : Int32) <<< (nI i &&& 31))) = nI (m ||| 1 <<< i) ∧ m ||| 1 <<< i < 64 := by decide +kernel
theorem bitT : ∀ m, m < 64 → ∀ i, i < 6 → ∀ k, k < 6 → (m ||| 1 <<< i).testBit k = (m.testBit k || k == i) := by decide +kernel
def lz : Nat → List Nat → Nat → List Nat
  | 0, _, _ => []
  | r + 1, R, k => (R[k % (r + 1)]?.getD 0) :: lz r (R.filter (· != R[k % (r + 1)]?.getD 0)) (k / (r + 1))
def fac : Nat → Nat
  | 0 => 1
  | n + 1 => (n + 1) * fac n
theorem lz_len : ∀ (r : Nat) (R : List Nat) (k : Nat), (lz r R k).length = r
  | 0, _, _ => rfl
  | r + 1, R, k => by rw [lz, List.length_cons, lz_len r]
theorem lz_perm : ∀ (r : Nat) (R : List Nat) (k : Nat), R.Nodup → R.length = r → (lz r R k).Perm R
  | 0, R, _, _, h => by
    rw [List.eq_nil_of_length_eq_zero h]
    exact List.Perm.refl _
  | r + 1, R, k, hn, h => by
    have hk : k % (r + 1) < R.length := by rw [h]; exact Nat.mod_lt _ (by omega)
    rw [lz, List.getElem?_eq_getElem hk, Option.getD_some]
    have hm : R[k % (r + 1)] ∈ R := List.getElem_mem hk
    have he := hn.erase_eq_filter R[k % (r + 1)]
    have hp := List.perm_cons_erase hm
    have hl := hp.length_eq
    rw [List.length_cons] at hl
    rw [he] at hp hl
    exact ((lz_perm r _ _ (hn.filter _) (by omega)).cons _).trans hp.symm
theorem lz_all : ∀ (r : Nat) (R L : List Nat), R.Nodup → R.length = r → L.Perm R → ∃ k, k < fac r ∧ lz r R k = L
  | 0, R, L, _, h, hp => by
    refine ⟨0, by decide, ?_⟩
    rw [List.eq_nil_of_length_eq_zero h] at hp
    rw [List.Perm.eq_nil hp]
    rfl
  | r + 1, R, L, hn, h, hp => by
    cases L with
    | nil =>
      have := hp.length_eq
      rw [h] at this
      cases this
    | cons y L =>
      have hy : y ∈ R := hp.mem_iff.mp List.mem_cons_self
      obtain ⟨q, hq, rfl⟩ := List.mem_iff_getElem.mp hy
      have he := hn.erase_eq_filter R[q]
      have hp2 : L.Perm (R.filter (· != R[q])) := by
        rw [← he]
        have := hp.erase R[q]
        rw [List.erase_cons_head] at this
        exact this
      have hl := hp.length_eq
      have hl2 := hp2.length_eq
      rw [List.length_cons] at hl
      obtain ⟨k, hk, e⟩ := lz_all r (R.filter (· != R[q])) L (hn.filter _) (by omega) hp2
      refine ⟨q + (r + 1) * k, ?_, ?_⟩
      · show _ < (r + 1) * fac r
        have : (r + 1) * (k + 1) ≤ (r + 1) * fac r := Nat.mul_le_mul (Nat.le_refl _) hk
        rw [Nat.mul_add, Nat.mul_one] at this
        omega
      · have e1 : (q + (r + 1) * k) % (r + 1) = q := by
          rw [Nat.add_mul_mod_self_left, Nat.mod_eq_of_lt (by omega)]
        have e2 : (q + (r + 1) * k) / (r + 1) = k := by
          rw [Nat.add_mul_div_left _ _ (by omega), Nat.div_eq_of_lt (by omega), Nat.zero_add]
        rw [lz, e1, e2, List.getElem?_eq_getElem hq, Option.getD_some, e]
theorem lz_0 : ∀ (r : Nat) (R : List Nat), R.Nodup → R.length = r → lz r R 0 = R
  | 0, R, _, h => by
    rw [List.eq_nil_of_length_eq_zero h]
    rfl
  | r + 1, R, hn, h => by
    cases R with
    | nil => cases h
    | cons y R =>
      rw [List.nodup_cons] at hn
      have e : List.filter (· != y) (y :: R) = R := by
        rw [List.filter_cons]
        simp only [bne_self_eq_false, Bool.false_eq_true, if_false]
        rw [List.filter_eq_self]
        intro z hz
        simp only [bne_iff_ne, ne_eq]
        intro q
        subst q
        exact hn.1 hz
      have hl : R.length = r := by
        simp only [List.length_cons] at h
        omega
      rw [lz, Nat.zero_mod, Nat.zero_div]
      simp only [List.getElem?_cons_zero, Option.getD_some]
      rw [e, lz_0 r R hn.2 hl]
def unu (m a t : Nat) : List Nat := (List.range' a t).filter (fun x => !m.testBit x)
theorem lay_in (K : Int32 → (Nat → Int32) → (Nat → Int32) → (Nat → Int64) → (Nat → Int32) → (Nat → Int64) → (Nat → Int64) → Int32 → Int32 → Int32 → Option (Int32 × (Nat → Int32) × (Nat → Int32) × (Nat → Int64) × (Nat → Int32) × (Nat → Int64) × (Nat → Int64))) (st : Int32) (li sh who does much ag : Nat → Int32) (hi : Int32) (tw td : Nat → Int32) (tm : Nat → Int64) (ta : Nat → Int32) (tl ts : Nat → Int64) (l2 : Int32) {s j m : Nat} (hs : s ≤ 6) (hj : j < 6) (hm : m < 64) : ∀ (t i f q : Nat), i + t = s → t < f → q < (unu m i t).length →
    fX9_lay_b39 K st li sh who does much ag f hi tw td tm ta tl ts l2 (nI m) (nI j) (nI q) (nI i) = K hi (upd tw j (who ((unu m i t)[q]?.getD 0))) (upd td j (does ((unu m i t)[q]?.getD 0))) (vp_updL tm j (much ((unu m i t)[q]?.getD 0)).toInt64) (upd ta j (ag ((unu m i t)[q]?.getD 0))) tl ts l2 (nI (m ||| 1 <<< ((unu m i t)[q]?.getD 0))) (nI (j + 1)) := by
  intro t
  induction t with
  | zero =>
    intro i f q h1 h2 h3
    exact absurd h3 (Nat.not_lt_zero _)
  | succ t ih =>
    intro i f q h1 h2 h3
    rcases f with _ | f
    · omega
    have hi6 : i < 6 := by omega
    have eu : unu m i (t + 1) = if m.testBit i then unu m (i + 1) t else i :: unu m (i + 1) t := by
      unfold unu
      rw [List.range'_succ, List.filter_cons]
      by_cases hb : m.testBit i = true
      · rw [if_pos hb, if_neg (by rw [hb]; decide)]
      · rw [if_neg hb, if_pos (by rw [Bool.not_eq_true] at hb; rw [hb]; decide)]
    rw [fX9_lay_b39, bitI m hm i hi6]
    unfold fX9_lay_b54 fX9_lay_b70
    rw [bitI m hm i hi6]
    by_cases hb : m.testBit i = true
    · rw [if_pos hb] at eu
      rw [eu] at h3 ⊢
      rw [if_pos hb, if_pos rfl, if_neg one0, nm_eq, nm_eq, nI_1, show nI q - 0 = nI q by simp]
      exact ih (i + 1) f q (by omega) (by omega) h3
    · rw [if_neg hb] at eu
      rw [eu] at h3 ⊢
      rw [if_neg hb, if_neg (show ¬ (0 : Int32) = 1 by decide), if_pos (show (0 : Int32) = 0 from rfl)]
      rcases q with _ | q
      · rw [if_pos (show nI 0 ≤ 0 by decide)]
        simp only [List.getElem?_cons_zero, Option.getD_some]
        obtain ⟨o1, o2⟩ := bitO m hm i hi6
        rw [o1, nm_eq, g_nI hi6 (by omega), ck_true, nm_eq, g_nI hj (by omega), ck_true, ck_true, nm_eq, ck_true, ck_true, nm_eq, ck_true, ck_true, nm_eq, ck_true, nm_eq, nI_1, clN (by omega), clN (by omega)]
      · have hq6 : (unu m (i + 1) t).length ≤ t := by
          unfold unu
          refine Nat.le_trans (List.length_filter_le _ _) ?_
          rw [List.length_range']
          exact Nat.le_refl _
        rw [List.length_cons] at h3
        rw [if_neg (show ¬ nI (q + 1) ≤ 0 from nnle (b := 0) (by omega) (by omega)), nm_eq, nm_eq, nI_1, nI_pred]
        simp only [List.getElem?_cons_succ]
        exact ih (i + 1) f q (by omega) (by omega) (by omega)
theorem lay_loop (li sh who does much ag : Nat → Int32) {s : Nat} (hs : s ≤ 6) : ∀ (r j f k m : Nat) (hi : Int32) (tw td : Nat → Int32) (tm : Nat → Int64) (ta : Nat → Int32) (tl ts : Nat → Int64), j + r = s → r < f → m < 64 → k < 2147483648 → (unu m 0 s).length = r →
    ∃ (hi' : Int32) (tw' td' : Nat → Int32) (tm' : Nat → Int64) (ta' : Nat → Int32), fX9_lay_b7 (nI s) li sh who does much ag f hi tw td tm ta tl ts (nI k) (nI m) (nI j) = fX9_lay_b160 (nI s) li sh who does much ag 70 (nI s) tw' td' tm' ta' tl ts 0 ∧ ∀ i, i < s → (i < j → tw' i = tw i ∧ td' i = td i ∧ tm' i = tm i ∧ ta' i = ta i) ∧ (j ≤ i → tw' i = who ((lz r (unu m 0 s) k)[i - j]?.getD 0) ∧ td' i = does ((lz r (unu m 0 s) k)[i - j]?.getD 0) ∧ tm' i = (much ((lz r (unu m 0 s) k)[i - j]?.getD 0)).toInt64 ∧ ta' i = ag ((lz r (unu m 0 s) k)[i - j]?.getD 0)) := by
  intro r
  induction r with
  | zero =>
    intro j f k m hi tw td tm ta tl ts h1 h2 hm hk hu
    rcases f with _ | f
    · omega
    refine ⟨hi, tw, td, tm, ta, ?_, fun i hi => ⟨fun _ => ⟨rfl, rfl, rfl, rfl⟩, fun q => absurd hi (by omega)⟩⟩
    rw [fX9_lay_b7, if_pos (nle (by omega) (by omega))]
  | succ r ih =>
    intro j f k m hi tw td tm ta tl ts h1 h2 hm hk hu
    rcases f with _ | f
    · omega
    have hq : k % (r + 1) < (unu m 0 s).length := by rw [hu]; exact Nat.mod_lt _ (by omega)
    generalize hy : (unu m 0 s)[k % (r + 1)]?.getD 0 = y
    have hym : y ∈ unu m 0 s := by
      rw [← hy, List.getElem?_eq_getElem hq, Option.getD_some]
      exact List.getElem_mem hq
    have hy6 : y < s ∧ m.testBit y = false := by
      unfold unu at hym
      rw [List.mem_filter, List.mem_range'_1] at hym
      refine ⟨by omega, ?_⟩
      have := hym.2
      revert this
      cases m.testBit y <;> simp
    obtain ⟨o1, o2⟩ := bitO m hm y (by omega)
    have hu2 : unu (m ||| 1 <<< y) 0 s = (unu m 0 s).filter (· != y) := by
      unfold unu
      rw [List.filter_filter]
      apply List.filter_congr
      intro x hx
      rw [List.mem_range'_1] at hx
      rw [bitT m hm y (by omega) x (by omega)]
      cases m.testBit x <;> simp [bne, Bool.and_comm]
    have hnd : (unu m 0 s).Nodup := (List.nodup_range' (step := 1)).filter _
    have hlen : (unu (m ||| 1 <<< y) 0 s).length = r := by
      rw [hu2, ← hnd.erase_eq_filter]
      have := List.length_erase_of_mem hym
      rw [this, hu]
      rfl
    obtain ⟨hi', tw', td', tm', ta', q1, q2⟩ := ih (j + 1) f (k / (r + 1)) (m ||| 1 <<< y) hi (upd tw j (who y)) (upd td j (does y)) (vp_updL tm j (much y).toInt64) (upd ta j (ag y)) tl ts (by omega) (by omega) o2 (Nat.lt_of_le_of_lt (Nat.div_le_self _ _) hk) hlen
    refine ⟨hi', tw', td', tm', ta', ?_, fun i hi => ⟨fun q => ?_, fun q => ?_⟩⟩
    · have ex : nI s - nI j = nI (r + 1) := by
        rw [pk_sub (by omega), show s - j = r + 1 by omega]
      have nz1 : nz (nI (r + 1)) = true := by
        have := neqI (a := r + 1) (b := 0) (by omega) (by omega) (by omega)
        unfold nz
        simp only [show nI 0 = 0 from rfl] at this
        simp [this]
      rw [fX9_lay_b7, if_neg (nnle (by omega) (by omega)), nm_eq, ex, nz1, ck_true, nm_eq, ck_true, nm_eq, pk_rem (by omega) (by omega) (by omega), pk_div (by omega) (by omega) (by omega), show (0 : Int32) = nI 0 from rfl, lay_in _ (nI s) li sh who does much ag hi tw td tm ta tl ts _ hs (show j < 6 by omega) hm s 0 70 _ (by omega) (by omega) hq, hy]
      exact q1
    · have := (q2 i hi).1 (by omega)
      rw [upd_n (by omega), upd_n (by omega), updL_n (by omega), upd_n (by omega)] at this
      exact this
    · rw [lz, hy]
      by_cases e1 : i = j
      · subst e1
        have := (q2 i hi).1 (by omega)
        rw [upd_s, upd_s, updL_s, upd_s] at this
        rw [Nat.sub_self]
        exact this
      · have := (q2 i hi).2 (by omega)
        rw [hu2, show i - (j + 1) = i - j - 1 by omega] at this
        obtain ⟨z, hz⟩ : ∃ z, i - j = z + 1 := ⟨i - j - 1, by omega⟩
        rw [hz, List.getElem?_cons_succ]
        rw [hz, Nat.add_sub_cancel] at this
        exact this
theorem lay_lives (st : Int32) (li sh who does much ag : Nat → Int32) (hi : Int32) (tw td : Nat → Int32) (tm : Nat → Int64) (ta : Nat → Int32) : ∀ (r j f : Nat) (tl ts : Nat → Int64), j + r = 6 → r < f →
    ∃ tl' ts' : Nat → Int64, fX9_lay_b160 st li sh who does much ag f hi tw td tm ta tl ts (nI j) = some (hi, tw, td, tm, ta, tl', ts') ∧ ∀ p, p < 6 → (p < j → tl' p = tl p ∧ ts' p = ts p) ∧ (j ≤ p → tl' p = (li p).toInt64 ∧ ts' p = (sh p).toInt64) := by
  intro r
  induction r with
  | zero =>
    intro j f tl ts h1 h2
    rcases f with _ | f
    · omega
    refine ⟨tl, ts, ?_, fun p hp => ⟨fun _ => ⟨rfl, rfl⟩, fun q => absurd hp (by omega)⟩⟩
    rw [fX9_lay_b160, if_pos (show 6 ≤ nI j from nle (a := 6) (by omega) (by omega))]
  | succ r ih =>
    intro j f tl ts h1 h2
    rcases f with _ | f
    · omega
    obtain ⟨tl', ts', q1, q2⟩ := ih (j + 1) f (vp_updL tl j (li j).toInt64) (vp_updL ts j (sh j).toInt64) (by omega) (by omega)
    refine ⟨tl', ts', ?_, fun p hp => ⟨fun q => ?_, fun q => ?_⟩⟩
    · rw [fX9_lay_b160, if_neg (show ¬ 6 ≤ nI j from nnle (a := 6) (by omega) (by omega)), g_nI (show j < 6 by omega) (by omega), ck_true, nm_eq, ck_true, ck_true, nm_eq, ck_true, nm_eq, nI_1, clN (by omega)]
      exact q1
    · have := (q2 p hp).1 (by omega)
      rw [updL_n (by omega), updL_n (by omega)] at this
      exact this
    · by_cases e : p = j
      · subst e
        have := (q2 p hp).1 (by omega)
        rw [updL_s, updL_s] at this
        exact this
      · exact (q2 p hp).2 (by omega)
theorem unu_0 (s : Nat) (hs : s ≤ 6) : unu 0 0 s = List.range s := by
  unfold unu
  rw [List.filter_eq_self.mpr (fun x _ => by rw [Nat.zero_testBit]; rfl), List.range_eq_range']
/-- lay: the stack in the order k -/
theorem r_lay (li sh who does much ag : Nat → Int32) {s k : Nat} (hs : s ≤ 6) (hk : k < 2147483648) (hi : Int32) (tw td : Nat → Int32) (tm : Nat → Int64) (ta : Nat → Int32) (tl ts : Nat → Int64) :
    ∃ (tw' td' : Nat → Int32) (tm' : Nat → Int64) (ta' : Nat → Int32) (tl' ts' : Nat → Int64), fX9_lay (nI s) hi li sh who does much ag tw td tm ta tl ts (nI k) = some (nI s, tw', td', tm', ta', tl', ts') ∧
      (∀ i, i < s → tw' i = who ((lz s (List.range s) k)[i]?.getD 0) ∧ td' i = does ((lz s (List.range s) k)[i]?.getD 0) ∧ tm' i = (much ((lz s (List.range s) k)[i]?.getD 0)).toInt64 ∧ ta' i = ag ((lz s (List.range s) k)[i]?.getD 0)) ∧
      ∀ p, p < 6 → tl' p = (li p).toInt64 ∧ ts' p = (sh p).toInt64 := by
  obtain ⟨hi', tw', td', tm', ta', q1, q2⟩ := lay_loop li sh who does much ag hs s 0 70 k 0 hi tw td tm ta tl ts (by omega) (by omega) (by omega) hk (by rw [unu_0 s hs, List.length_range])
  obtain ⟨tl', ts', q3, q4⟩ := lay_lives (nI s) li sh who does much ag (nI s) tw' td' tm' ta' 6 0 70 tl ts (by omega) (by omega)
  refine ⟨tw', td', tm', ta', tl', ts', ?_, fun i hi => ?_, fun p hp => (q4 p hp).2 (by omega)⟩
  · unfold fX9_lay
    rw [show (0 : Int32) = nI 0 from rfl, q1]
    exact q3
  · have := (q2 i hi).2 (by omega)
    rw [unu_0 s hs, Nat.sub_zero] at this
    exact this
theorem r_lay0 (li sh who does much ag : Nat → Int32) {s : Nat} (hs : s ≤ 6) (hi : Int32) (tw td : Nat → Int32) (tm : Nat → Int64) (ta : Nat → Int32) (tl ts : Nat → Int64) :
    ∃ (tw' td' : Nat → Int32) (tm' : Nat → Int64) (ta' : Nat → Int32) (tl' ts' : Nat → Int64), fX9_lay (nI s) hi li sh who does much ag tw td tm ta tl ts 0 = some (nI s, tw', td', tm', ta', tl', ts') ∧
      (∀ i, i < s → tw' i = who i ∧ td' i = does i ∧ tm' i = (much i).toInt64 ∧ ta' i = ag i) ∧
      ∀ p, p < 6 → tl' p = (li p).toInt64 ∧ ts' p = (sh p).toInt64 := by
  obtain ⟨tw', td', tm', ta', tl', ts', q1, q2, q3⟩ := r_lay li sh who does much ag hs (show 0 < 2147483648 by omega) hi tw td tm ta tl ts
  refine ⟨tw', td', tm', ta', tl', ts', q1, fun i hi => ?_, q3⟩
  have := q2 i hi
  rw [lz_0 s _ List.nodup_range List.length_range, List.getElem?_range hi, Option.getD_some] at this
  exact this
