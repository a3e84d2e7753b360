/-! MATH 13: bound, the class's search -/
abbrev oR : Type := Option (Int32 × Int32 × (Nat → Int32) × (Nat → Int32) × (Nat → Int32) × (Nat → Int32))
abbrev oB : Type := Int32 → Int32 → Int32 → Int32 → Int32 → (Nat → Int32) → (Nat → Int32) → (Nat → Int32) → (Nat → Int32) → (Nat → Int32) → (Nat → Int32) → Int32 → Int32 → oR
abbrev oC : Type := Int32 → Int32 → Int32 → Int32 → Int32 → (Nat → Int32) → (Nat → Int32) → (Nat → Int32) → (Nat → Int32) → (Nat → Int32) → (Nat → Int32) → Int32 → Int32 → Int32 → oR
theorem isIn_eq {L j : Nat} (hL : L < 64) (hj : j < 6) : fX4_isIn (nI L) (nI j) = some (if L.testBit j = true then 1 else 0) := by
  unfold fX4_isIn fX4_isIn_b14
  rw [bitI L hL j hj]
  by_cases h : L.testBit j = true
  · rw [if_pos h, if_pos rfl]
  · rw [if_neg h, if_neg (by decide)]
def VS (P s : Nat) (g : Nat → Pl) (L : Nat) (li sh : Nat → Int32) (v : Int) : Prop := ∃ fin, OUT (pls g s L) (lF li) (lF sh) fin ∧ v = fin P
def VD (P s : Nat) (g : Nat → Pl) (L : Nat) (y : Pl) (li sh : Nat → Int32) (v : Int) : Prop := ∃ fin, SD y (pls g s L) (lF li) (lF sh) fin ∧ v = fin P
def GOK (aG : oB) (P : Nat) (g : Int32) (s : Nat) (w a : Nat → Int32) (L d : Nat) : Prop := ∀ (f b : Int32) (S : Int → Prop) (li sh e m : Nat → Int32), okS s e m w a → okH sh → Rep g S f b →
  ∃ f' b', aG (nI P) g f b (nI s) li sh e m w a (nI L) (nI d) = some (f', b', li, sh, e, m) ∧ Rep g (fun v => S v ∨ VS P s (gC e m w a) L li sh v) f' b'
def DOK (aD : oC) (P : Nat) (g : Int32) (s : Nat) (w a : Nat → Int32) (L p d : Nat) : Prop := ∀ (f b : Int32) (S : Int → Prop) (li sh e m : Nat → Int32), okS s e m w a → okH sh → Rep g S f b →
  ∃ f' b', aD (nI P) g f b (nI s) li sh e m w a (nI p) (nI L) (nI d) = some (f', b', li, sh, e, m) ∧ Rep g (fun v => S v ∨ VD P s (gC e m w a) L (gC e m w a p) li sh v) f' b'
theorem VS_0 {P s : Nat} {g : Nat → Pl} {li sh : Nat → Int32} {v : Int} : VS P s g 0 li sh v ↔ v = (li P).toInt := by
  have e : pls g s 0 = [] := by
    unfold pls plc
    rw [List.filter_eq_nil_iff.mpr (fun x _ => by rw [Nat.zero_testBit]; decide)]
    rfl
  unfold VS
  rw [e]
  constructor
  · rintro ⟨fin, h, rfl⟩
    rw [OUT_nil.mp h]
    rfl
  · intro h
    exact ⟨_, OUT_nil.mpr rfl, h⟩
theorem VS_cons {P s L : Nat} {g : Nat → Pl} {li sh : Nat → Int32} {v : Int} (hs : s ≤ 6) (hL : L < 1 <<< s) (h64 : L < 64) (h0 : L ≠ 0) : VS P s g L li sh v ↔ ∃ p, p < s ∧ L.testBit p = true ∧ VD P s g (cut L p) (g p) li sh v := by
  have hne : pls g s L ≠ [] := by
    intro q
    have := congrArg List.length q
    rw [pls_len] at this
    exact h0 (plc_nil s hs L hL this)
  unfold VS VD
  constructor
  · rintro ⟨fin, h, rfl⟩
    obtain ⟨p, h1, h2, h3⟩ := (pls_ex (Q := fun y M => SD y M (lF li) (lF sh) fin) hs h64 (fun y M M' h q => (SD_perm h).mp q)).mp ((OUT_cons hne).mp h)
    exact ⟨p, h1, h2, fin, h3, rfl⟩
  · rintro ⟨p, h1, h2, fin, h3, rfl⟩
    exact ⟨fin, (OUT_cons hne).mpr ((pls_ex (Q := fun y M => SD y M (lF li) (lF sh) fin) hs h64 (fun y M M' h q => (SD_perm h).mp q)).mpr ⟨p, h1, h2, h3⟩), rfl⟩
theorem goOn_loop (aG : oB) (aD aS : oC) (aT : oB) (aU : oC) {P s L d : Nat} {g : Int32} {w a li sh e m : Nat → Int32} (hs : s ≤ 6) (h64 : L < 64) (hS : okS s e m w a) (hh : okH sh) (hD : ∀ p, p < s → L.testBit p = true → DOK aD P g s w a (cut L p) p (d + 1)) : ∀ (r j fu : Nat) (f b : Int32) (S : Int → Prop), j + r = s → r < fu → Rep g S f b →
    ∃ f' b', fX4_goOn_b11 aG aD aS aT aU (nI P) g (nI s) w a fu f b li sh e m (nI L) (nI d) (nI j) = some (f', b', li, sh, e, m) ∧ Rep g (fun v => S v ∨ ∃ p, j ≤ p ∧ p < s ∧ L.testBit p = true ∧ VD P s (gC e m w a) (cut L p) (gC e m w a p) li sh v) f' b' := by
  intro r
  induction r with
  | zero =>
    intro j fu f b S h1 h2 hR
    rcases fu with _ | fu
    · omega
    refine ⟨f, b, ?_, hR.cong fun v => ⟨fun q => Or.inl q, fun q => ?_⟩⟩
    · rw [fX4_goOn_b11, if_pos (nle (by omega) (by omega))]
    · rcases q with q | ⟨p, q1, q2, -⟩
      · exact q
      · omega
  | succ r ih =>
    intro j fu f b S h1 h2 hR
    rcases fu with _ | fu
    · omega
    rw [fX4_goOn_b11, if_neg (nnle (by omega) (by omega)), isIn_eq h64 (show j < 6 by omega), ob_some]
    unfold fX4_goOn_b45
    by_cases hb : L.testBit j = true
    · obtain ⟨f1, b1, q1, q2⟩ := hD j (by omega) hb f b S li sh e m hS hh hR
      obtain ⟨f', b', q3, q4⟩ := ih (j + 1) fu f1 b1 _ (by omega) (by omega) q2
      refine ⟨f', b', ?_, q4.cong fun v => ?_⟩
      · rw [if_pos hb, if_neg one0, (cut_lt L h64 j (by omega)).2, nI_1, q1, ob_some]
        dsimp only
        rw [nm_eq, nI_1]
        exact q3
      · constructor
        · rintro ((q | q) | ⟨p, u1, u2, u3, u4⟩)
          · exact Or.inl q
          · exact Or.inr ⟨j, Nat.le_refl _, by omega, hb, q⟩
          · exact Or.inr ⟨p, by omega, u2, u3, u4⟩
        · rintro (q | ⟨p, u1, u2, u3, u4⟩)
          · exact Or.inl (Or.inl q)
          · by_cases z : p = j
            · subst z
              exact Or.inl (Or.inr u4)
            · exact Or.inr ⟨p, by omega, u2, u3, u4⟩
    · obtain ⟨f', b', q3, q4⟩ := ih (j + 1) fu f b _ (by omega) (by omega) hR
      refine ⟨f', b', ?_, q4.cong fun v => ?_⟩
      · rw [if_neg hb, if_pos rfl, nm_eq, nI_1]
        exact q3
      · constructor
        · rintro (q | ⟨p, u1, u2, u3, u4⟩)
          · exact Or.inl q
          · exact Or.inr ⟨p, by omega, u2, u3, u4⟩
        · rintro (q | ⟨p, u1, u2, u3, u4⟩)
          · exact Or.inl q
          · refine Or.inr ⟨p, ?_, u2, u3, u4⟩
            have : p ≠ j := fun z => hb (z ▸ u3)
            omega
theorem goOn_ok (aG : oB) (aD aS : oC) (aT : oB) (aU : oC) {P s L d : Nat} {g : Int32} {w a : Nat → Int32} (hP : P < 6) (hs : s ≤ 6) (hL : L < 1 <<< s) (h64 : L < 64) (hD : ∀ p, p < s → L.testBit p = true → DOK aD P g s w a (cut L p) p (d + 1)) : GOK (bX4_goOn aG aD aS aT aU) P g s w a L d := by
  intro f b S li sh e m hS hh hR
  unfold bX4_goOn
  by_cases h0 : L = 0
  · subst h0
    obtain ⟨f', b', q1, q2⟩ := c_note hP (li := li) hR
    refine ⟨f', b', ?_, q2.cong fun v => by rw [VS_0]⟩
    rw [if_pos (show nI 0 = 0 from rfl), q1, ob_some]
  · obtain ⟨f', b', q1, q2⟩ := goOn_loop aG aD aS aT aU hs h64 hS hh hD s 0 70 f b S (by omega) (by omega) hR
    refine ⟨f', b', ?_, q2.cong fun v => ?_⟩
    · rw [if_neg (show ¬ nI L = 0 from neqI (b := 0) (by omega) (by omega) h0)]
      exact q1
    · rw [VS_cons hs hL h64 h0]
      constructor
      · rintro (q | ⟨p, -, u2, u3, u4⟩)
        · exact Or.inl q
        · exact Or.inr ⟨p, u2, u3, u4⟩
      · rintro (q | ⟨p, u2, u3, u4⟩)
        · exact Or.inl q
        · exact Or.inr ⟨p, Nat.zero_le _, u2, u3, u4⟩
theorem stop_loop (aG : oB) (aD aS : oC) (aT : oB) (aU : oC) {P s L d : Nat} {g x : Int32} {w a li sh e m : Nat → Int32} (hs : s ≤ 6) (h64 : L < 64) (hS : okS s e m w a) (hh : okH sh) (hG : ∀ p, p < s → L.testBit p = true → GOK aG P g s w a (cut L p) d) (hG0 : GOK aG P g s w a L d) : ∀ (r j fu : Nat) (f b fl : Int32) (S : Int → Prop), j + r = s → r < fu → (fl = 0 ∨ fl = 1) → Rep g S f b →
    ∃ f' b', fX4_stopAny_b6 aG aD aS aT aU (nI P) g (nI s) w a fu f b li sh e m x (nI L) (nI d) fl (nI j) = some (f', b', li, sh, e, m) ∧ Rep g (fun v => S v ∨ (∃ p, j ≤ p ∧ p < s ∧ L.testBit p = true ∧ w p ≠ x ∧ VS P s (gC e m w a) (cut L p) li sh v) ∨ (fl = 0 ∧ (∀ p, j ≤ p → p < s → L.testBit p = true → w p = x) ∧ VS P s (gC e m w a) L li sh v)) f' b' := by
  intro r
  induction r with
  | zero =>
    intro j fu f b fl S h1 h2 hfl hR
    rcases fu with _ | fu
    · omega
    rw [fX4_stopAny_b6, if_pos (nle (by omega) (by omega))]
    unfold fX4_stopAny_b74
    by_cases h0 : fl = 0
    · obtain ⟨f', b', q1, q2⟩ := hG0 f b S li sh e m hS hh hR
      refine ⟨f', b', ?_, q2.cong fun v => ⟨fun q => ?_, fun q => ?_⟩⟩
      · rw [if_pos h0, q1, ob_some]
      · rcases q with q | q
        · exact Or.inl q
        · exact Or.inr (Or.inr ⟨h0, fun p u1 u2 => by omega, q⟩)
      · rcases q with q | ⟨p, u1, u2, -⟩ | ⟨-, -, q⟩
        · exact Or.inl q
        · omega
        · exact Or.inr q
    · refine ⟨f, b, by rw [if_neg h0], hR.cong fun v => ⟨fun q => Or.inl q, fun q => ?_⟩⟩
      rcases q with q | ⟨p, u1, u2, -⟩ | ⟨q, -⟩
      · exact q
      · omega
      · exact absurd q h0
  | succ r ih =>
    intro j fu f b fl S h1 h2 hfl hR
    rcases fu with _ | fu
    · omega
    have hskip : (L.testBit j = true → w j = x) → ∃ f' b', fX4_stopAny_b6 aG aD aS aT aU (nI P) g (nI s) w a fu f b li sh e m x (nI L) (nI d) fl (nI (j + 1)) = some (f', b', li, sh, e, m) ∧ Rep g (fun v => S v ∨ (∃ p, j ≤ p ∧ p < s ∧ L.testBit p = true ∧ w p ≠ x ∧ VS P s (gC e m w a) (cut L p) li sh v) ∨ (fl = 0 ∧ (∀ p, j ≤ p → p < s → L.testBit p = true → w p = x) ∧ VS P s (gC e m w a) L li sh v)) f' b' := by
      intro hj
      obtain ⟨f', b', q3, q4⟩ := ih (j + 1) fu f b fl S (by omega) (by omega) hfl hR
      refine ⟨f', b', q3, q4.cong fun v => ?_⟩
      constructor
      · rintro (q | ⟨p, u1, u2, u3, u4, u5⟩ | ⟨u1, u2, u3⟩)
        · exact Or.inl q
        · exact Or.inr (Or.inl ⟨p, by omega, u2, u3, u4, u5⟩)
        · refine Or.inr (Or.inr ⟨u1, fun p v1 v2 v3 => ?_, u3⟩)
          by_cases z : p = j
          · subst z
            exact hj v3
          · exact u2 p (by omega) v2 v3
      · rintro (q | ⟨p, u1, u2, u3, u4, u5⟩ | ⟨u1, u2, u3⟩)
        · exact Or.inl q
        · refine Or.inr (Or.inl ⟨p, ?_, u2, u3, u4, u5⟩)
          have : p ≠ j := fun z => u4 (z ▸ hj (z ▸ u3))
          omega
        · exact Or.inr (Or.inr ⟨u1, fun p v1 v2 v3 => u2 p (by omega) v2 v3, u3⟩)
    rw [fX4_stopAny_b6, if_neg (nnle (by omega) (by omega)), isIn_eq h64 (show j < 6 by omega), ob_some]
    unfold fX4_stopAny_b57
    by_cases hb : L.testBit j = true
    · rw [if_pos hb, if_neg one0, g_nI (show j < 6 by omega) (by omega), ck_true, clN (by omega)]
      by_cases hw : w j = x
      · rw [if_pos hw, nm_eq, nI_1]
        exact hskip fun _ => hw
      · obtain ⟨f1, b1, q1, q2⟩ := hG j (by omega) hb f b S li sh e m hS hh hR
        obtain ⟨f', b', q3, q4⟩ := ih (j + 1) fu f1 b1 1 _ (by omega) (by omega) (Or.inr rfl) q2
        refine ⟨f', b', ?_, q4.cong fun v => ?_⟩
        · rw [if_neg hw, (cut_lt L h64 j (by omega)).2, q1, ob_some]
          dsimp only
          rw [nm_eq, nI_1]
          exact q3
        · constructor
          · rintro ((q | q) | ⟨p, u1, u2, u3, u4, u5⟩ | ⟨u1, -⟩)
            · exact Or.inl q
            · exact Or.inr (Or.inl ⟨j, Nat.le_refl _, by omega, hb, hw, q⟩)
            · exact Or.inr (Or.inl ⟨p, by omega, u2, u3, u4, u5⟩)
            · exact absurd u1 one0
          · rintro (q | ⟨p, u1, u2, u3, u4, u5⟩ | ⟨u1, u2, u3⟩)
            · exact Or.inl (Or.inl q)
            · by_cases z : p = j
              · subst z
                exact Or.inl (Or.inr u5)
              · exact Or.inr (Or.inl ⟨p, by omega, u2, u3, u4, u5⟩)
            · exact absurd (u2 j (Nat.le_refl _) (by omega) hb) hw
    · rw [if_neg hb, if_pos rfl, nm_eq, nI_1]
      exact hskip fun q => absurd q hb
theorem c_twice {p : Nat} (hp : p < 6) {m : Nat → Int32} (hm : 1 ≤ (m p).toInt) : fX6_makeTwice m (nI p) = if okI (2 * (m p).toInt) then some (1, upd m p (m p * 2)) else some (0, m) := by
  unfold fX6_makeTwice
  rw [g_nI hp (by omega), ck_true, ck_true, nm_eq, ck_true, clN (by omega)]
  have e : (1073741823 : Int32).toInt = 1073741823 := rfl
  by_cases h : m p ≤ 1073741823
  · have h' := i32le.mp h
    rw [if_pos h, if_pos ⟨by omega, by omega⟩]
  · have h' : ¬ (m p).toInt ≤ (1073741823 : Int32).toInt := fun q => h (i32le.mpr q)
    rw [if_neg h, if_neg (fun q : okI (2 * (m p).toInt) => by have := q.2; omega)]
theorem c_twice_v {x : Int32} (h1 : 1 ≤ x.toInt) (h : okI (2 * x.toInt)) : (x * 2).toInt = 2 * x.toInt := by
  have e : (2 : Int32).toInt = 2 := rfl
  have h2 := h.2
  rw [fb_mulI (by rw [e]; omega) (by rw [e]; omega), e]
  omega
theorem upd_back (f : Nat → Int32) (k : Nat) (x : Int32) : upd (upd f k x) k (f k) = f := by
  funext i
  by_cases h : i = k
  · rw [h, upd_s]
  · rw [upd_n h, upd_n h]
theorem dbl_loop (aG : oB) (aD aS : oC) (aT : oB) (aU : oC) {P s L d : Nat} {g : Int32} {w a li sh e m : Nat → Int32} (hs : s ≤ 6) (h64 : L < 64) (hS : okS s e m w a) (hh : okH sh) (hD : ∀ p, p < s → L.testBit p = true → DOK aD P g s w a (cut L p) p (d + 1)) : ∀ (r j fu : Nat) (f b : Int32) (S : Int → Prop), j + r = s → r < fu → Rep g S f b →
    ∃ f' b', fX4_doubleAny_b12 aG aD aS aT aU (nI P) g (nI s) w a fu f b li sh e m (nI L) (nI d) (nI j) = some (f', b', li, sh, e, m) ∧ Rep g (fun v => S v ∨ ∃ p, j ≤ p ∧ p < s ∧ L.testBit p = true ∧ okI (2 * (gC e m w a p).2.1) ∧ VD P s (gC e m w a) (cut L p) (dbl (gC e m w a p)) li sh v) f' b' := by
  intro r
  induction r with
  | zero =>
    intro j fu f b S h1 h2 hR
    rcases fu with _ | fu
    · omega
    refine ⟨f, b, ?_, hR.cong fun v => ⟨fun q => Or.inl q, fun q => ?_⟩⟩
    · rw [fX4_doubleAny_b12, if_pos (nle (by omega) (by omega))]
    · rcases q with q | ⟨p, q1, q2, -⟩
      · exact q
      · omega
  | succ r ih =>
    intro j fu f b S h1 h2 hR
    rcases fu with _ | fu
    · omega
    have hskip : (L.testBit j = true → ¬ okI (2 * (m j).toInt)) → ∃ f' b', fX4_doubleAny_b12 aG aD aS aT aU (nI P) g (nI s) w a fu f b li sh e m (nI L) (nI d) (nI (j + 1)) = some (f', b', li, sh, e, m) ∧ Rep g (fun v => S v ∨ ∃ p, j ≤ p ∧ p < s ∧ L.testBit p = true ∧ okI (2 * (gC e m w a p).2.1) ∧ VD P s (gC e m w a) (cut L p) (dbl (gC e m w a p)) li sh v) f' b' := by
      intro hj
      obtain ⟨f', b', q3, q4⟩ := ih (j + 1) fu f b S (by omega) (by omega) hR
      refine ⟨f', b', q3, q4.cong fun v => ?_⟩
      constructor
      · rintro (q | ⟨p, u1, u2, u3, u4⟩)
        · exact Or.inl q
        · exact Or.inr ⟨p, by omega, u2, u3, u4⟩
      · rintro (q | ⟨p, u1, u2, u3, u4, u5⟩)
        · exact Or.inl q
        · refine Or.inr ⟨p, ?_, u2, u3, u4, u5⟩
          have : p ≠ j := fun z => hj (z ▸ u3) (z ▸ u4)
          omega
    rw [fX4_doubleAny_b12, if_neg (nnle (by omega) (by omega)), g_nI (show j < 6 by omega) (by omega), ck_true, nm_eq, isIn_eq h64 (show j < 6 by omega), ob_some, clN (by omega)]
    unfold fX4_doubleAny_b79
    by_cases hb : L.testBit j = true
    · have hm1 := (hS.2 j (by omega)).2.1
      rw [if_pos hb, if_neg one0, c_twice (show j < 6 by omega) hm1]
      by_cases hk : okI (2 * (m j).toInt)
      · have hv := c_twice_v hm1 hk
        have hS' : okS s e (upd m j (m j * 2)) w a := ⟨hS.1, fun i hi => by
          obtain ⟨z1, z2, z3⟩ := hS.2 i hi
          refine ⟨z1, ?_, z3⟩
          by_cases z : i = j
          · rw [z, upd_s, hv]
            omega
          · rw [upd_n z]
            exact z2⟩
        have eg : gC e (upd m j (m j * 2)) w a j = dbl (gC e m w a j) := by
          unfold gC dbl
          rw [upd_s, hv]
        have ep : pls (gC e (upd m j (m j * 2)) w a) s (cut L j) = pls (gC e m w a) s (cut L j) := pls_congr fun i hi hbi => by
          rw [cut_bit L h64 j (by omega) i (by omega)] at hbi
          have : i ≠ j := by
            intro z
            subst z
            simp at hbi
          unfold gC
          rw [upd_n this]
        obtain ⟨f1, b1, q1, q2⟩ := hD j (by omega) hb f b S li sh e _ hS' hh hR
        obtain ⟨f', b', q3, q4⟩ := ih (j + 1) fu f1 b1 _ (by omega) (by omega) q2
        refine ⟨f', b', ?_, q4.cong fun v => ?_⟩
        · rw [if_pos hk, ob_some]
          dsimp only
          rw [if_neg one0, (cut_lt L h64 j (by omega)).2, nI_1, q1, ob_some]
          dsimp only
          rw [ck_true, nm_eq, nI_1, upd_back]
          exact q3
        · unfold VD
          rw [eg, ep]
          constructor
          · rintro ((q | q) | ⟨p, u1, u2, u3, u4, u5⟩)
            · exact Or.inl q
            · exact Or.inr ⟨j, Nat.le_refl _, by omega, hb, hk, q⟩
            · exact Or.inr ⟨p, by omega, u2, u3, u4, u5⟩
          · rintro (q | ⟨p, u1, u2, u3, u4, u5⟩)
            · exact Or.inl (Or.inl q)
            · by_cases z : p = j
              · subst z
                exact Or.inl (Or.inr u5)
              · exact Or.inr ⟨p, by omega, u2, u3, u4, u5⟩
      · rw [if_neg hk, ob_some]
        dsimp only
        rw [if_pos rfl, nm_eq, nI_1]
        exact hskip fun _ => hk
    · rw [if_neg hb, if_pos rfl, nm_eq, nI_1]
      exact hskip fun q => absurd q hb
theorem turn_gen {s L : Nat} (hs : s ≤ 6) (h64 : L < 64) : ∀ (r j f : Nat) (e : Nat → Int32), j + r = s → r < f →
    ∃ e' : Nat → Int32, fX6_turn_b2 (nI s) f e (nI L) (nI j) = some e' ∧ ∀ i, e' i = if (j ≤ i ∧ i < s) ∧ L.testBit i = true then flI (e i) else e i := by
  intro r
  induction r with
  | zero =>
    intro j f e h1 h2
    rcases f with _ | f
    · omega
    refine ⟨e, ?_, fun i => by rw [if_neg (by omega)]⟩
    rw [fX6_turn_b2, if_pos (nle (by omega) (by omega))]
  | succ r ih =>
    intro j f e h1 h2
    rcases f with _ | f
    · omega
    rw [fX6_turn_b2, if_neg (nnle (by omega) (by omega)), bitI L h64 j (by omega)]
    unfold fX6_turn_b24 fX6_turn_b48 fX6_turn_b69
    by_cases h : L.testBit j = true
    · obtain ⟨e', q1, q2⟩ := ih (j + 1) f (upd e j (flI (e j))) (by omega) (by omega)
      refine ⟨e', ?_, fun i => ?_⟩
      · rw [← q1, if_pos h, if_pos rfl, if_neg one0, g_nI (show j < 6 by omega) (by omega), ck_true, ck_true, if_neg one0, ck_true, nm_eq, nm_eq, nI_1, clN (by omega), ck_true]
        unfold flI
        by_cases h0 : e j = 0
        · rw [if_pos h0, if_pos h0]
        · rw [if_neg h0, if_neg h0]
          by_cases h1 : e j = 1
          · rw [if_pos h1, if_pos h1]
          · rw [if_neg h1, if_neg h1]
            have hu : upd e j (e j) = e := by
              funext i
              unfold upd
              by_cases z : i = j
              · rw [if_pos z, z]
              · rw [if_neg z]
            rw [hu]
            rfl
      · rw [q2]
        by_cases z : i = j
        · subst z
          rw [if_neg (by omega), if_pos ⟨by omega, h⟩, upd_s]
        · rw [upd_n z]
          by_cases z2 : (j ≤ i ∧ i < s) ∧ L.testBit i = true
          · rw [if_pos z2, if_pos ⟨by omega, z2.2⟩]
          · rw [if_neg z2, if_neg (fun q => z2 ⟨by omega, q.2⟩)]
    · obtain ⟨e', q1, q2⟩ := ih (j + 1) f e (by omega) (by omega)
      refine ⟨e', ?_, fun i => ?_⟩
      · rw [if_neg h, if_neg (by decide), if_pos rfl, if_pos rfl, nm_eq, nI_1]
        exact q1
      · rw [q2]
        by_cases z : i = j
        · subst z
          rw [if_neg (by omega), if_neg (fun q => h q.2)]
        · by_cases z2 : (j ≤ i ∧ i < s) ∧ L.testBit i = true
          · rw [if_pos z2, if_pos ⟨by omega, z2.2⟩]
          · rw [if_neg z2, if_neg (fun q => z2 ⟨by omega, q.2⟩)]
theorem flI_2 (x : Int32) : flI (flI x) = x := by
  unfold flI
  by_cases h0 : x = 0
  · rw [if_pos h0, if_neg one0, if_pos rfl, h0]
  · rw [if_neg h0]
    by_cases h1 : x = 1
    · rw [if_pos h1, if_pos rfl, h1]
    · rw [if_neg h1, if_neg h0, if_neg h1]
theorem aDo_loc {x : Pl} {r : List Pl} {li sh : Nat → Int} {s : St} (hx : x.1 < 3) (h : aDo x r li sh = some s) : ∀ q, q ≠ x.2.2.2 → s.2.1 q = li q ∧ s.2.2 q = sh q := by
  intro q hq
  unfold aDo at h
  by_cases h0 : x.1 = 0
  · rw [if_pos h0] at h
    split at h
    · cases h
      unfold fU
      exact ⟨if_neg hq, if_neg hq⟩
    · cases h
  rw [if_neg h0] at h
  by_cases h1 : x.1 = 1
  · rw [if_pos h1] at h
    split at h
    · cases h
      unfold fU
      exact ⟨if_neg hq, rfl⟩
    · cases h
  rw [if_neg h1] at h
  rw [if_pos (show x.1 = 2 by omega)] at h
  split at h
  · cases h
    unfold fU
    exact ⟨rfl, if_neg hq⟩
  · cases h
