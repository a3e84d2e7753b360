/-! MATH 4: a stack of plays, done in any order (pure) -/
abbrev Pl : Type := Nat × Int × Nat × Nat
abbrev okI (z : Int) : Prop := -2147483648 ≤ z ∧ z ≤ 2147483647
def fU (f : Nat → Int) (k : Nat) (v : Int) : Nat → Int := fun j => if j = k then v else f j
def flip1 (x : Pl) : Pl := if x.1 = 0 then (1, x.2) else if x.1 = 1 then (0, x.2) else x
def dbl (x : Pl) : Pl := (x.1, 2 * x.2.1, x.2.2)
def offOther (w : Nat) : List Pl → List Pl
  | [] => []
  | y :: r => if y.2.2.1 ≠ w then r else y :: offOther w r
/-- the top x is done over what lies below it, the next one first; none: refused -/
def aDo (x : Pl) (r : List Pl) (li sh : Nat → Int) : Option (List Pl × (Nat → Int) × (Nat → Int)) :=
  if x.1 = 0 then
    (if okI (li x.2.2.2 - (x.2.1 - min (sh x.2.2.2) x.2.1)) then some (r, fU li x.2.2.2 (li x.2.2.2 - (x.2.1 - min (sh x.2.2.2) x.2.1)), fU sh x.2.2.2 (sh x.2.2.2 - min (sh x.2.2.2) x.2.1)) else none)
  else if x.1 = 1 then (if okI (li x.2.2.2 + x.2.1) then some (r, fU li x.2.2.2 (li x.2.2.2 + x.2.1), sh) else none)
  else if x.1 = 2 then (if okI (sh x.2.2.2 + x.2.1) then some (r, li, fU sh x.2.2.2 (sh x.2.2.2 + x.2.1)) else none)
  else if x.1 = 3 then some (offOther x.2.2.1 r, li, sh)
  else if x.1 = 4 then (match r with
    | [] => some ([], li, sh)
    | y :: r' => if okI (2 * y.2.1) then some (dbl y :: r', li, sh) else none)
  else some (r.map flip1, li, sh)
def aRun : Nat → List Pl → (Nat → Int) → (Nat → Int) → Option (Nat → Int)
  | 0, _, _, _ => none
  | _ + 1, [], li, _ => some li
  | n + 1, x :: r, li, sh => (aDo x r li sh).bind fun s => aRun n s.1 s.2.1 s.2.2
theorem offOther_len (w : Nat) : ∀ r : List Pl, (offOther w r).length ≤ r.length
  | [] => Nat.le_refl _
  | y :: r => by
    unfold offOther
    split
    · simp
    · simp [offOther_len w r]
theorem aDo_len {x : Pl} {r : List Pl} {li sh : Nat → Int} {s : List Pl × (Nat → Int) × (Nat → Int)} (h : aDo x r li sh = some s) : s.1.length ≤ r.length := by
  unfold aDo at h
  split at h
  · split at h
    · cases h; exact Nat.le_refl _
    · cases h
  split at h
  · split at h
    · cases h; exact Nat.le_refl _
    · cases h
  split at h
  · split at h
    · cases h; exact Nat.le_refl _
    · cases h
  split at h
  · cases h; exact offOther_len _ _
  split at h
  · split at h
    · cases h; exact Nat.le_refl _
    · split at h
      · cases h; simp
      · cases h
  · cases h; simp
theorem aRun_fuel : ∀ (n m : Nat) (L : List Pl) (li sh : Nat → Int), L.length < n → L.length < m → aRun n L li sh = aRun m L li sh
  | 0, _, _, _, _, h, _ => absurd h (Nat.not_lt_zero _)
  | _ + 1, 0, _, _, _, _, h => absurd h (Nat.not_lt_zero _)
  | n + 1, m + 1, [], li, sh, _, _ => rfl
  | n + 1, m + 1, x :: r, li, sh, h1, h2 => by
    show (aDo x r li sh).bind _ = (aDo x r li sh).bind _
    cases hd : aDo x r li sh with
    | none => rfl
    | some s =>
      have := aDo_len hd
      simp only [List.length_cons] at h1 h2
      exact aRun_fuel n m s.1 s.2.1 s.2.2 (by omega) (by omega)
/-- what the search does: x is done next, M are left, in no order -/
def DN : Nat → Pl → List Pl → (Nat → Int) → (Nat → Int) → (Nat → Int) → Prop
  | 0, _, _, _, _, _ => False
  | n + 1, x, M, li, sh, fin =>
    if x.1 = 4 then (M = [] ∧ fin = li) ∨ ∃ y M', M.Perm (y :: M') ∧ okI (2 * y.2.1) ∧ DN n (dbl y) M' li sh fin
    else if x.1 = 3 then ((∀ y ∈ M, y.2.2.1 = x.2.2.1) ∧ ((M = [] ∧ fin = li) ∨ ∃ y M', M.Perm (y :: M') ∧ DN n y M' li sh fin)) ∨
      ∃ y M', M.Perm (y :: M') ∧ y.2.2.1 ≠ x.2.2.1 ∧ ((M' = [] ∧ fin = li) ∨ ∃ z M'', M'.Perm (z :: M'') ∧ DN n z M'' li sh fin)
    else ∃ s, aDo x M li sh = some s ∧ ((s.1 = [] ∧ fin = s.2.1) ∨ ∃ y M', s.1.Perm (y :: M') ∧ DN n y M' s.2.1 s.2.2 fin)
/-- M are left, in no order -/
def GO (n : Nat) (M : List Pl) (li sh fin : Nat → Int) : Prop := (M = [] ∧ fin = li) ∨ ∃ y M', M.Perm (y :: M') ∧ DN n y M' li sh fin
def OUT (M : List Pl) (li sh fin : Nat → Int) : Prop := ∃ L : List Pl, L.Perm M ∧ aRun (L.length + 1) L li sh = some fin
theorem offOther_all {w : Nat} : ∀ {r : List Pl}, (∀ y ∈ r, y.2.2.1 = w) → offOther w r = r
  | [], _ => rfl
  | y :: r, h => by
    unfold offOther
    rw [if_neg (fun q => q (h y List.mem_cons_self)), offOther_all (fun z hz => h z (List.mem_cons_of_mem _ hz))]
theorem offOther_some {w : Nat} : ∀ {r : List Pl}, (∃ y ∈ r, y.2.2.1 ≠ w) → ∃ y, y.2.2.1 ≠ w ∧ r.Perm (y :: offOther w r)
  | [], h => by obtain ⟨y, h, -⟩ := h; cases h
  | y :: r, h => by
    by_cases e : y.2.2.1 ≠ w
    · refine ⟨y, e, ?_⟩
      unfold offOther
      rw [if_pos e]
    · obtain ⟨z, hz, hzw⟩ := h
      have hz' : z ∈ r := by
        rcases List.mem_cons.mp hz with q | q
        · subst q; exact absurd hzw e
        · exact q
      obtain ⟨u, hu, hp⟩ := offOther_some ⟨z, hz', hzw⟩
      refine ⟨u, hu, ?_⟩
      unfold offOther
      rw [if_neg e]
      exact (hp.cons y).trans (List.Perm.swap u y _)
theorem aRun_cons {n : Nat} {x : Pl} {r : List Pl} {li sh : Nat → Int} (h : r.length < n) : aRun (n + 1) (x :: r) li sh = (aDo x r li sh).bind fun s => aRun (s.1.length + 1) s.1 s.2.1 s.2.2 := by
  show (aDo x r li sh).bind _ = _
  cases hd : aDo x r li sh with
  | none => rfl
  | some s =>
    have := aDo_len hd
    exact aRun_fuel _ _ _ _ _ (by omega) (by omega)
theorem flip1_2 (x : Pl) : flip1 (flip1 x) = x := by
  obtain ⟨a, b⟩ := x
  unfold flip1
  by_cases h0 : a = 0
  · subst h0
    simp
  · by_cases h1 : a = 1
    · subst h1
      simp
    · simp [h0, h1]
theorem aDo_shape (x : Pl) (li sh : Nat → Int) (h3 : x.1 ≠ 3) (h4 : x.1 ≠ 4) : ∃ g : Pl → Pl, (∀ y, g (g y) = y) ∧ ((∀ L, aDo x L li sh = none) ∨ ∃ li' sh', ∀ L, aDo x L li sh = some (L.map g, li', sh')) := by
  by_cases h0 : x.1 = 0
  · refine ⟨id, fun _ => rfl, ?_⟩
    by_cases hk : okI (li x.2.2.2 - (x.2.1 - min (sh x.2.2.2) x.2.1))
    · right
      refine ⟨fU li x.2.2.2 (li x.2.2.2 - (x.2.1 - min (sh x.2.2.2) x.2.1)), fU sh x.2.2.2 (sh x.2.2.2 - min (sh x.2.2.2) x.2.1), fun L => ?_⟩
      unfold aDo
      rw [if_pos h0, if_pos hk, List.map_id]
    · left
      intro L
      unfold aDo
      rw [if_pos h0, if_neg hk]
  by_cases h1 : x.1 = 1
  · refine ⟨id, fun _ => rfl, ?_⟩
    by_cases hk : okI (li x.2.2.2 + x.2.1)
    · right
      refine ⟨fU li x.2.2.2 (li x.2.2.2 + x.2.1), sh, fun L => ?_⟩
      unfold aDo
      rw [if_neg h0, if_pos h1, if_pos hk, List.map_id]
    · left
      intro L
      unfold aDo
      rw [if_neg h0, if_pos h1, if_neg hk]
  by_cases h2 : x.1 = 2
  · refine ⟨id, fun _ => rfl, ?_⟩
    by_cases hk : okI (sh x.2.2.2 + x.2.1)
    · right
      refine ⟨li, fU sh x.2.2.2 (sh x.2.2.2 + x.2.1), fun L => ?_⟩
      unfold aDo
      rw [if_neg h0, if_neg h1, if_pos h2, if_pos hk, List.map_id]
    · left
      intro L
      unfold aDo
      rw [if_neg h0, if_neg h1, if_pos h2, if_neg hk]
  · refine ⟨flip1, flip1_2, Or.inr ⟨li, sh, fun L => ?_⟩⟩
    unfold aDo
    rw [if_neg h0, if_neg h1, if_neg h2, if_neg h3, if_neg h4]
theorem GO_of {n : Nat} (ih : ∀ (x : Pl) (M : List Pl) (li sh fin : Nat → Int), M.length < n → (DN n x M li sh fin ↔ ∃ L : List Pl, L.Perm M ∧ aRun (L.length + 2) (x :: L) li sh = some fin)) (M : List Pl) (li sh fin : Nat → Int) (hM : M.length ≤ n) : GO n M li sh fin ↔ OUT M li sh fin := by
  constructor
  · rintro (⟨rfl, rfl⟩ | ⟨y, M', hp, hd⟩)
    · exact ⟨[], List.Perm.refl _, rfl⟩
    · have hl := hp.length_eq
      simp only [List.length_cons] at hl
      obtain ⟨L, hL, hr⟩ := (ih y M' li sh fin (by omega)).mp hd
      exact ⟨y :: L, (hL.cons y).trans hp.symm, hr⟩
  · rintro ⟨L, hL, hr⟩
    cases L with
    | nil =>
      left
      have : some li = some fin := hr
      cases this
      exact ⟨List.Perm.eq_nil hL.symm, rfl⟩
    | cons y L' =>
      right
      have hl := hL.length_eq
      simp only [List.length_cons] at hl
      exact ⟨y, L', hL.symm, (ih y L' li sh fin (by omega)).mpr ⟨L', List.Perm.refl _, hr⟩⟩
theorem DN_iff : ∀ (n : Nat) (x : Pl) (M : List Pl) (li sh fin : Nat → Int), M.length < n → (DN n x M li sh fin ↔ ∃ L : List Pl, L.Perm M ∧ aRun (L.length + 2) (x :: L) li sh = some fin) := by
  intro n
  induction n with
  | zero =>
    intro x M li sh fin h
    exact absurd h (Nat.not_lt_zero _)
  | succ n ih =>
    intro x M li sh fin hM
    have hrun : ∀ L : List Pl, aRun (L.length + 2) (x :: L) li sh = (aDo x L li sh).bind fun s => aRun (s.1.length + 1) s.1 s.2.1 s.2.2 := fun L => aRun_cons (n := L.length + 1) (Nat.lt_succ_self _)
    unfold DN
    by_cases h4 : x.1 = 4
    · rw [if_pos h4]
      have hd : ∀ y r, aDo x (y :: r) li sh = if okI (2 * y.2.1) then some (dbl y :: r, li, sh) else none := fun y r => by
        unfold aDo
        simp [h4]
      have hd0 : aDo x [] li sh = some ([], li, sh) := by
        unfold aDo
        simp [h4]
      constructor
      · rintro (⟨rfl, rfl⟩ | ⟨y, M', hp, hk, hdn⟩)
        · refine ⟨[], List.Perm.refl _, ?_⟩
          rw [hrun, hd0]
          rfl
        · have hl := hp.length_eq
          simp only [List.length_cons] at hl
          obtain ⟨L, hL, hr⟩ := (ih (dbl y) M' li sh fin (by omega)).mp hdn
          refine ⟨y :: L, (hL.cons y).trans hp.symm, ?_⟩
          rw [hrun, hd, if_pos hk]
          exact hr
      · rintro ⟨L, hL, hr⟩
        rw [hrun] at hr
        cases L with
        | nil =>
          left
          rw [hd0] at hr
          have : some li = some fin := hr
          cases this
          exact ⟨List.Perm.eq_nil hL.symm, rfl⟩
        | cons y L' =>
          right
          have hl := hL.length_eq
          simp only [List.length_cons] at hl
          rw [hd] at hr
          by_cases hk : okI (2 * y.2.1)
          · rw [if_pos hk] at hr
            exact ⟨y, L', hL.symm, hk, (ih (dbl y) L' li sh fin (by omega)).mpr ⟨L', List.Perm.refl _, hr⟩⟩
          · rw [if_neg hk] at hr
            cases hr
    rw [if_neg h4]
    by_cases h3 : x.1 = 3
    · rw [if_pos h3]
      have hd : ∀ r, aDo x r li sh = some (offOther x.2.2.1 r, li, sh) := fun r => by
        unfold aDo
        simp [h3]
      constructor
      · rintro (⟨ha, hg⟩ | ⟨y, M', hp, hy, hg⟩)
        · obtain ⟨L, hL, hr⟩ := (GO_of ih M li sh fin (by omega)).mp hg
          refine ⟨L, hL, ?_⟩
          rw [hrun, hd, offOther_all (fun y hy => ha y (hL.mem_iff.mp hy))]
          exact hr
        · have hl := hp.length_eq
          simp only [List.length_cons] at hl
          obtain ⟨L, hL, hr⟩ := (GO_of ih M' li sh fin (by omega)).mp hg
          refine ⟨y :: L, (hL.cons y).trans hp.symm, ?_⟩
          rw [hrun, hd]
          unfold offOther
          rw [if_pos hy]
          exact hr
      · rintro ⟨L, hL, hr⟩
        rw [hrun, hd] at hr
        have hr : aRun ((offOther x.2.2.1 L).length + 1) (offOther x.2.2.1 L) li sh = some fin := hr
        by_cases ha : ∀ y ∈ L, y.2.2.1 = x.2.2.1
        · left
          rw [offOther_all ha] at hr
          exact ⟨fun y hy => ha y (hL.mem_iff.mpr hy), (GO_of ih M li sh fin (by omega)).mpr ⟨L, hL, hr⟩⟩
        · right
          obtain ⟨y, hy, hp⟩ := offOther_some (w := x.2.2.1) (r := L) (by
            apply Classical.byContradiction
            intro q
            exact ha (fun y hy => Classical.byContradiction fun q2 => q ⟨y, hy, q2⟩))
          have hl := (hL.symm.trans hp).length_eq
          simp only [List.length_cons] at hl
          exact ⟨y, _, hL.symm.trans hp, hy, (GO_of ih _ li sh fin (by omega)).mpr ⟨_, List.Perm.refl _, hr⟩⟩
    rw [if_neg h3]
    obtain ⟨g, hg, hs⟩ := aDo_shape x li sh h3 h4
    rcases hs with hs | ⟨li', sh', hs⟩
    · constructor
      · rintro ⟨s, h, -⟩
        rw [hs] at h
        cases h
      · rintro ⟨L, hL, hr⟩
        rw [hrun, hs] at hr
        cases hr
    · have hgg : ∀ L : List Pl, (L.map g).map g = L := fun L => by
        rw [List.map_map]
        conv => rhs; rw [← List.map_id L]
        apply List.map_congr_left
        intro y _
        exact hg y
      constructor
      · rintro ⟨s, h, hgo⟩
        rw [hs] at h
        cases h
        obtain ⟨L, hL, hr⟩ := (GO_of ih (M.map g) li' sh' fin (by rw [List.length_map]; omega)).mp hgo
        refine ⟨L.map g, ?_, ?_⟩
        · have := hL.map g
          rw [hgg] at this
          exact this
        · rw [List.length_map] at *
          rw [show aRun (L.length + 2) (x :: L.map g) li sh = aRun ((L.map g).length + 2) (x :: L.map g) li sh by rw [List.length_map], hrun, hs]
          show aRun (((L.map g).map g).length + 1) ((L.map g).map g) li' sh' = some fin
          rw [hgg]
          exact hr
      · rintro ⟨L, hL, hr⟩
        rw [hrun, hs] at hr
        exact ⟨_, hs M, (GO_of ih (M.map g) li' sh' fin (by rw [List.length_map]; omega)).mpr ⟨L.map g, hL.map g, hr⟩⟩
/-- the search finds just what some order gives -/
theorem GO_iff {n : Nat} {M : List Pl} (li sh fin : Nat → Int) (hM : M.length ≤ n) : GO n M li sh fin ↔ OUT M li sh fin := GO_of (DN_iff n) M li sh fin hM
