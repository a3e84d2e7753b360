/-! MATH 21: pairs, the ways -/
abbrev Wy : Type := List (Nat × Nat)
def ways : Nat → List Nat → List Wy
  | _, [] => [[]]
  | 0, _ :: _ => []
  | n + 1, a :: r => r.flatMap fun b => (ways n (r.filter (· != b))).map ((a, b) :: ·)
def okW (M : Nat → Nat → Bool) (w : Wy) : Bool := w.all fun x => !M x.1 x.2
def dfs (M : Nat → Nat → Bool) : Nat → List Nat → Option Wy
  | _, [] => some []
  | 0, _ :: _ => none
  | n + 1, a :: r => r.findSome? fun b => if M a b then none else (dfs M n (r.filter (· != b))).map ((a, b) :: ·)
theorem dfs_eq (M : Nat → Nat → Bool) : ∀ (n : Nat) (l : List Nat), dfs M n l = (ways n l).find? (okW M)
  | 0, [] => rfl
  | _ + 1, [] => rfl
  | 0, _ :: _ => rfl
  | n + 1, a :: r => by
    rw [dfs, ways, List.find?_flatMap]
    congr 1
    funext b
    rw [List.find?_map]
    by_cases h : M a b = true
    · rw [if_pos h]
      have : (okW M ∘ fun x => (a, b) :: x) = fun _ => false := by
        funext x
        simp [okW, h]
      rw [this]
      have hn : ∀ l : List Wy, List.find? (fun _ => false) l = none := fun l => by
        rw [List.find?_eq_none]
        intro x _ q
        cases q
      rw [hn]
      rfl
    · rw [if_neg h]
      have : (okW M ∘ fun x => (a, b) :: x) = okW M := by
        funext x
        simp [okW, h]
      rw [this, dfs_eq M n]
/-- whom the pairs of a way give to each -/
def asg (R : Nat → Nat) : Wy → (Nat → Int32) → (Nat → Int32)
  | [], o => o
  | x :: w, o => upd (upd (asg R w o) (R x.1) (nI (R x.2))) (R x.2) (nI (R x.1))
def rDF (R : Nat → Nat) (o : Nat → Int32) : Option Wy → Int32 × (Nat → Int32)
  | none => (0, o)
  | some w => (1, asg R w o)
abbrev tP : Type := Int32 → (Nat → Int32) → (Nat → Int32) → (Nat → Int32) → Int32 → Int32 → Option (Int32 × (Nat → Int32))
abbrev tB : Type := Int32 → (Nat → Int32) → (Nat → Int32) → (Nat → Int32) → Int32 → Int32 → Int32 → Int32 → Option (Int32 × (Nat → Int32))
theorem plc_cutf {s L p : Nat} (hs : s ≤ 6) (hL : L < 64) (hp : p < 6) : plc s (cut L p) = (plc s L).filter (· != p) := by
  unfold plc
  rw [List.filter_filter]
  apply List.filter_congr
  intro i hi
  rw [List.mem_range] at hi
  rw [cut_bit L hL p hp i (by omega), Bool.and_comm]
theorem both_ok (aP : tP) (aB : tB) {len : Nat} {met row : Nat → Int32} {R mm : Nat → Nat} {L a b d : Nat} {n : Nat} (ha : a < len) (hb : b < len) (hlen : len ≤ 6) (hL : L < 64) (hd : d ≤ 6) (hrow : ∀ i, i < len → row i = nI (R i) ∧ R i < 6) (hmet : ∀ p, p < 6 → met p = nI (mm p) ∧ mm p < 64) (o : Nat → Int32)
    (hP : aP (nI len) met row o (nI (cut (cut L a) b)) (nI d) = some (rDF R o (dfs (fun x y => (mm (R x)).testBit (R y)) n (plc 6 (cut (cut L a) b))))) :
    bX3_canPairBoth aP aB (nI len) met row o (nI a) (nI b) (nI L) (nI d) = some (if (mm (R a)).testBit (R b) = true then (0, o) else rDF R o ((dfs (fun x y => (mm (R x)).testBit (R y)) n (plc 6 (cut (cut L a) b))).map ((a, b) :: ·))) := by
  obtain ⟨ea, ha6⟩ := hrow a ha
  obtain ⟨eb, hb6⟩ := hrow b hb
  obtain ⟨em, hm⟩ := hmet (R a) ha6
  unfold bX3_canPairBoth fX3_canPairBoth_b37 fX3_canPairBoth_b73
  rw [g_nI (show a < 6 by omega) (by omega), ck_true, nm_eq, clN (j := a) (by omega), ea, g_nI (show b < 6 by omega) (by omega), ck_true, nm_eq, clN (j := b) (by omega), eb, g_nI ha6 (by omega), ck_true, clN (j := R a) (by omega), em, bitI _ hm _ hb6]
  by_cases c : (mm (R a)).testBit (R b) = true
  · rw [if_pos c, if_pos rfl, if_neg one0, if_pos c]
  · rw [if_neg c, if_neg (show ¬ (0 : Int32) = 1 by decide), if_pos rfl, if_neg (show ¬ 6 < nI d from nnlt (a := 6) (b := d) (by omega) (by omega)), (cut_lt L hL a (by omega)).2, (cut_lt (cut L a) (cut_lt L hL a (by omega)).1 b (by omega)).2, hP, ob_some, if_neg c]
    cases dfs (fun x y => (mm (R x)).testBit (R y)) n (plc 6 (cut (cut L a) b)) with
    | none =>
      show (if (0 : Int32) = 0 then _ else _) = _
      rw [if_pos rfl]
      rfl
    | some w =>
      show (if (1 : Int32) = 0 then _ else _) = _
      rw [if_neg one0, ck_true, g_nI hb6 (by omega), ck_true, clN (by omega)]
      rfl
theorem pair_loop (aP : tP) (aB : tB) {len : Nat} {met row : Nat → Int32} {R mm : Nat → Nat} {L a d : Nat} {n : Nat} (ha : a < len) (hlen : len ≤ 6) (hL : L < 64) (o : Nat → Int32)
    (hB : ∀ b, a < b → b < len → L.testBit b = true → aB (nI len) met row o (nI a) (nI b) (nI L) (nI (d + 1)) = some (if (mm (R a)).testBit (R b) = true then (0, o) else rDF R o ((dfs (fun x y => (mm (R x)).testBit (R y)) n (plc 6 (cut (cut L a) b))).map ((a, b) :: ·)))) : ∀ (r j f : Nat), a < j → j + r = len → r < f →
    fX3_canPair_b33 aP aB (nI len) met row f o (nI L) (nI d) (nI a) (nI j) = some (rDF R o (((List.range' j r).filter (fun x => L.testBit x)).findSome? fun b => if (mm (R a)).testBit (R b) = true then none else (dfs (fun x y => (mm (R x)).testBit (R y)) n (plc 6 (cut (cut L a) b))).map ((a, b) :: ·))) := by
  intro r
  induction r with
  | zero =>
    intro j f h0 h1 h2
    rcases f with _ | f
    · omega
    rw [fX3_canPair_b33, if_pos (nle (by omega) (by omega))]
    rfl
  | succ r ih =>
    intro j f h0 h1 h2
    rcases f with _ | f
    · omega
    rw [fX3_canPair_b33, if_neg (nnle (by omega) (by omega)), bitI L hL j (by omega), List.range'_succ, List.filter_cons]
    unfold fX3_canPair_b68
    by_cases hb : L.testBit j = true
    · rw [if_pos hb, if_pos rfl, if_pos hb, nI_1, hB j h0 (by omega) hb, ob_some, List.findSome?_cons]
      by_cases c : (mm (R a)).testBit (R j) = true
      · rw [if_pos c, if_pos c]
        dsimp only
        rw [if_pos rfl, nm_eq, nI_1]
        exact ih (j + 1) f (by omega) (by omega) (by omega)
      · rw [if_neg c, if_neg c]
        cases dfs (fun x y => (mm (R x)).testBit (R y)) n (plc 6 (cut (cut L a) j)) with
        | none =>
          show (if (0 : Int32) = 0 then _ else _) = _
          rw [if_pos rfl, nm_eq, nI_1]
          exact ih (j + 1) f (by omega) (by omega) (by omega)
        | some w =>
          show (if (1 : Int32) = 0 then _ else _) = _
          rw [if_neg one0]
          rfl
    · rw [if_neg hb, if_neg (show ¬ (0 : Int32) = 1 by decide), if_neg hb, nm_eq, nI_1]
      exact ih (j + 1) f (by omega) (by omega) (by omega)
theorem first_loop (aP : tP) (aB : tB) {len : Nat} {met row : Nat → Int32} {L a d : Nat} (ha : a < 6) (hL : L < 64) (hb : L.testBit a = true) (hno : ∀ i, i < a → L.testBit i = false) (o : Nat → Int32) : ∀ (r j f : Nat), j + r = a → r < f →
    fX3_canPair_b8 aP aB (nI len) met row f o (nI L) (nI d) (nI j) = fX3_canPair_b33 aP aB (nI len) met row 70 o (nI L) (nI d) (nI a) (nI (a + 1)) := by
  intro r
  induction r with
  | zero =>
    intro j f h1 h2
    rcases f with _ | f
    · omega
    have : j = a := by omega
    subst this
    rw [fX3_canPair_b8, if_neg (show ¬ 6 ≤ nI j from nnle (a := 6) (by omega) (by omega)), bitI L hL j ha, if_pos hb, if_neg one0]
    unfold fX3_canPair_b28
    rw [nm_eq, nI_1]
  | succ r ih =>
    intro j f h1 h2
    rcases f with _ | f
    · omega
    rw [fX3_canPair_b8, if_neg (show ¬ 6 ≤ nI j from nnle (a := 6) (by omega) (by omega)), bitI L hL j (by omega), if_neg (show ¬ L.testBit j = true by rw [hno j (by omega)]; decide), if_pos rfl, nm_eq, nI_1]
    exact ih (j + 1) f (by omega) (by omega)
theorem plc_split {len L a : Nat} {r : List Nat} (hlen : len ≤ 6) (hL : L < 64) (hb : ∀ i, i < 6 → L.testBit i = true → i < len) (h : plc 6 L = a :: r) : a < len ∧ L.testBit a = true ∧ (∀ i, i < a → L.testBit i = false) ∧ r = (List.range' (a + 1) (len - (a + 1))).filter (fun x => L.testBit x) := by
  have hm : a ∈ plc 6 L := by rw [h]; exact List.mem_cons_self
  obtain ⟨h1, h2⟩ := plc_mem.mp hm
  have h3 := hb a h1 h2
  have hsort : (plc 6 L).Pairwise (· < ·) := by
    unfold plc
    exact List.Pairwise.filter _ (List.pairwise_lt_range)
  rw [h, List.pairwise_cons] at hsort
  have hno : ∀ i, i < a → L.testBit i = false := by
    intro i hi
    apply Classical.byContradiction
    intro q
    have : i ∈ plc 6 L := plc_mem.mpr ⟨by omega, by revert q; cases L.testBit i <;> simp⟩
    rw [h, List.mem_cons] at this
    rcases this with e | e
    · omega
    · have := hsort.1 i e
      omega
  refine ⟨h3, h2, hno, ?_⟩
  have e0 : List.range 6 = List.range' 0 a ++ (a :: (List.range' (a + 1) (len - (a + 1)) ++ List.range' len (6 - len))) := by
    rw [List.range_eq_range', show 6 = a + (1 + ((len - (a + 1)) + (6 - len))) by omega, ← List.range'_append_1, Nat.add_comm 1, List.range'_succ, ← List.range'_append_1]
    congr 4
    all_goals first | omega | (congr 1; all_goals omega)
  have e1 : plc 6 L = a :: (List.range' (a + 1) (len - (a + 1))).filter (fun x => L.testBit x) := by
    have hA : List.filter (fun i => L.testBit i) (List.range' 0 a) = [] := List.filter_eq_nil_iff.mpr (fun x hx => by
      rw [List.mem_range'_1] at hx
      rw [hno x (by omega)]
      decide)
    have hB : List.filter (fun i => L.testBit i) (List.range' len (6 - len)) = [] := List.filter_eq_nil_iff.mpr (fun x hx q => by
      rw [List.mem_range'_1] at hx
      have := hb x (by omega) q
      omega)
    unfold plc
    rw [e0, List.filter_append, List.filter_cons, if_pos h2, List.filter_append, hA, hB, List.nil_append, List.append_nil]
  rw [h] at e1
  injection e1
theorem fs_congr {α β : Type} {f g : α → Option β} : ∀ {l : List α}, (∀ x, x ∈ l → f x = g x) → l.findSome? f = l.findSome? g
  | [], _ => rfl
  | x :: l, h => by
    rw [List.findSome?_cons, List.findSome?_cons, h x List.mem_cons_self, fs_congr (l := l) fun y hy => h y (List.mem_cons_of_mem _ hy)]
theorem pair_ok {len : Nat} {met row : Nat → Int32} {R mm : Nat → Nat} (hlen : len ≤ 6) (hrow : ∀ i, i < len → row i = nI (R i) ∧ R i < 6) (hmet : ∀ p, p < 6 → met p = nI (mm p) ∧ mm p < 64) : ∀ (n dep L d : Nat) (o : Nat → Int32), 2 * n + 1 ≤ dep → L < 64 → (∀ i, i < 6 → L.testBit i = true → i < len) → (plc 6 L).length ≤ 2 * n → d + n ≤ 6 →
    (fPair dep).1 (nI len) met row o (nI L) (nI d) = some (rDF R o (dfs (fun x y => (mm (R x)).testBit (R y)) n (plc 6 L))) := by
  have hz : ∀ L, L < 64 → (plc 6 L).length = 0 → L = 0 := fun L h => plc_nil 6 (by omega) L h
  intro n
  induction n with
  | zero =>
    intro dep L d o h1 h2 h3 h4 h5
    obtain ⟨k, rfl⟩ : ∃ k, dep = k + 1 := ⟨dep - 1, by omega⟩
    have hL := hz L h2 (by omega)
    subst hL
    show bX3_canPair (fPair k).1 (fPair k).2 (nI len) met row o (nI 0) (nI d) = _
    unfold bX3_canPair
    rw [if_pos (show nI 0 = 0 from rfl)]
    have : plc 6 0 = [] := by decide
    rw [this]
    rfl
  | succ n ih =>
    intro dep L d o h1 h2 h3 h4 h5
    obtain ⟨k, rfl⟩ : ∃ k, dep = k + 2 := ⟨dep - 2, by omega⟩
    show bX3_canPair (fPair (k + 1)).1 (fPair (k + 1)).2 (nI len) met row o (nI L) (nI d) = _
    unfold bX3_canPair
    cases hp : plc 6 L with
    | nil =>
      have hL := hz L h2 (by rw [hp]; rfl)
      subst hL
      rw [if_pos (show nI 0 = 0 from rfl)]
      rfl
    | cons a r =>
      have h0 : L ≠ 0 := by
        intro q
        subst q
        have : plc 6 0 = [] := by decide
        rw [this] at hp
        cases hp
      obtain ⟨s1, s2, s3, s4⟩ := plc_split hlen h2 h3 hp
      have ea : plc 6 (cut L a) = r := by
        rw [plc_cutf (by omega) h2 (by omega), hp, List.filter_cons]
        rw [if_neg (by simp)]
        rw [List.filter_eq_self]
        intro x hx
        have := plc_nd 6 L
        rw [hp, List.nodup_cons] at this
        simp only [bne_iff_ne, ne_eq]
        intro q
        subst q
        exact this.1 hx
      have hc1 := (cut_lt L h2 a (by omega)).1
      have eb : ∀ b, b < 6 → plc 6 (cut (cut L a) b) = r.filter (· != b) := fun b hb => by
        rw [plc_cutf (by omega) hc1 hb, ea]
      rw [if_neg (show ¬ nI L = 0 from neqI (b := 0) (by omega) (by omega) h0), show (0 : Int32) = nI 0 from rfl, first_loop _ _ (by omega) h2 s2 s3 o a 0 70 (by omega) (by omega), pair_loop (R := R) (mm := mm) (n := n) _ _ s1 hlen h2 o (fun b hab hb hbit => by
        show bX3_canPairBoth (fPair k).1 (fPair k).2 (nI len) met row o (nI a) (nI b) (nI L) (nI (d + 1)) = _
        have hba : b ∈ r := by
          have : b ∈ plc 6 L := plc_mem.mpr ⟨by omega, hbit⟩
          rw [hp, List.mem_cons] at this
          rcases this with e | e
          · omega
          · exact e
        refine both_ok _ _ s1 hb hlen h2 (by omega) hrow hmet o (ih k _ (d + 1) o (by omega) (cut_lt _ hc1 b (by omega)).1 (fun i hi hbi => ?_) ?_ (by omega))
        · rw [cut_bit _ hc1 b (by omega) i hi, cut_bit _ h2 a (by omega) i hi] at hbi
          simp only [Bool.and_eq_true] at hbi
          exact h3 i hi hbi.1.1
        · rw [eb b (by omega), ← (List.nodup_cons.mp (hp ▸ plc_nd 6 L)).2.erase_eq_filter]
          have := List.length_erase_of_mem hba
          rw [hp, List.length_cons] at h4
          omega) (len - (a + 1)) (a + 1) 70 (by omega) (by omega) (by omega), ← s4]
      congr 2
      rw [dfs]
      refine fs_congr fun b hb => ?_
      have : b ∈ plc 6 L := by rw [hp]; exact List.mem_cons_of_mem _ hb
      rw [eb b (plc_mem.mp this).1]
