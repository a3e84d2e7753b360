/-! MATH 12: bound, the pure part over places -/
def SD (y : Pl) (M : List Pl) (li sh fin : Nat → Int) : Prop := ∃ L : List Pl, L.Perm M ∧ aRun (L.length + 2) (y :: L) li sh = some fin
theorem SD_DN {n : Nat} {x : Pl} {M : List Pl} {li sh fin : Nat → Int} (h : M.length < n) : DN n x M li sh fin ↔ SD x M li sh fin := DN_iff n x M li sh fin h
theorem SD_perm {x : Pl} {M M' : List Pl} {li sh fin : Nat → Int} (h : M.Perm M') : SD x M li sh fin ↔ SD x M' li sh fin :=
  ⟨fun ⟨L, a, b⟩ => ⟨L, a.trans h, b⟩, fun ⟨L, a, b⟩ => ⟨L, a.trans h.symm, b⟩⟩
theorem OUT_perm {M M' : List Pl} {li sh fin : Nat → Int} (h : M.Perm M') : OUT M li sh fin ↔ OUT M' li sh fin :=
  ⟨fun ⟨L, a, b⟩ => ⟨L, a.trans h, b⟩, fun ⟨L, a, b⟩ => ⟨L, a.trans h.symm, b⟩⟩
theorem OUT_nil {li sh fin : Nat → Int} : OUT [] li sh fin ↔ fin = li := by
  constructor
  · rintro ⟨L, h, r⟩
    have := h.eq_nil
    subst this
    have : some li = some fin := r
    cases this
    rfl
  · rintro rfl
    exact ⟨[], List.Perm.refl _, rfl⟩
theorem OUT_cons {M : List Pl} {li sh fin : Nat → Int} (h : M ≠ []) : OUT M li sh fin ↔ ∃ y M', M.Perm (y :: M') ∧ SD y M' li sh fin := by
  rw [← GO_iff (n := M.length) li sh fin (Nat.le_refl _)]
  unfold GO
  constructor
  · rintro (⟨e, -⟩ | ⟨y, M', a, b⟩)
    · exact absurd e h
    · have hl := a.length_eq
      rw [List.length_cons] at hl
      exact ⟨y, M', a, (SD_DN (by omega)).mp b⟩
  · rintro ⟨y, M', a, b⟩
    have hl := a.length_eq
    rw [List.length_cons] at hl
    exact Or.inr ⟨y, M', a, (SD_DN (by omega)).mpr b⟩
theorem OUT_or {n : Nat} {M : List Pl} {li sh fin : Nat → Int} (hM : M.length ≤ n) : ((M = [] ∧ fin = li) ∨ ∃ y M', M.Perm (y :: M') ∧ DN n y M' li sh fin) ↔ OUT M li sh fin := GO_iff li sh fin hM
theorem SD_4 {x : Pl} {M : List Pl} {li sh fin : Nat → Int} (h : x.1 = 4) : SD x M li sh fin ↔ (M = [] ∧ fin = li) ∨ ∃ y M', M.Perm (y :: M') ∧ okI (2 * y.2.1) ∧ SD (dbl y) M' li sh fin := by
  rw [← SD_DN (Nat.lt_succ_self M.length), DN, if_pos h]
  constructor
  · rintro (h | ⟨y, M', a, k, b⟩)
    · exact Or.inl h
    · have hl := a.length_eq
      rw [List.length_cons] at hl
      exact Or.inr ⟨y, M', a, k, (SD_DN (by omega)).mp b⟩
  · rintro (h | ⟨y, M', a, k, b⟩)
    · exact Or.inl h
    · have hl := a.length_eq
      rw [List.length_cons] at hl
      exact Or.inr ⟨y, M', a, k, (SD_DN (by omega)).mpr b⟩
theorem SD_3 {x : Pl} {M : List Pl} {li sh fin : Nat → Int} (h : x.1 = 3) : SD x M li sh fin ↔ ((∀ y ∈ M, y.2.2.1 = x.2.2.1) ∧ OUT M li sh fin) ∨ ∃ y M', M.Perm (y :: M') ∧ y.2.2.1 ≠ x.2.2.1 ∧ OUT M' li sh fin := by
  rw [← SD_DN (Nat.lt_succ_self M.length), DN, if_neg (by omega), if_pos h, OUT_or (Nat.le_refl _)]
  constructor
  · rintro (h | ⟨y, M', a, k, b⟩)
    · exact Or.inl h
    · have hl := a.length_eq
      rw [List.length_cons] at hl
      exact Or.inr ⟨y, M', a, k, (OUT_or (by omega)).mp b⟩
  · rintro (h | ⟨y, M', a, k, b⟩)
    · exact Or.inl h
    · have hl := a.length_eq
      rw [List.length_cons] at hl
      exact Or.inr ⟨y, M', a, k, (OUT_or (n := M.length) (by omega)).mpr b⟩
theorem SD_o {x : Pl} {M : List Pl} {li sh fin : Nat → Int} (h3 : x.1 ≠ 3) (h4 : x.1 ≠ 4) : SD x M li sh fin ↔ ∃ s, aDo x M li sh = some s ∧ OUT s.1 s.2.1 s.2.2 fin := by
  rw [← SD_DN (Nat.lt_succ_self M.length), DN, if_neg h4, if_neg h3]
  constructor
  · rintro ⟨s, a, b⟩
    exact ⟨s, a, (OUT_or (aDo_len a)).mp b⟩
  · rintro ⟨s, a, b⟩
    exact ⟨s, a, (OUT_or (aDo_len a)).mpr b⟩
/-- the places in a set of bits -/
def plc (s L : Nat) : List Nat := (List.range s).filter fun i => L.testBit i
def pls (g : Nat → Pl) (s L : Nat) : List Pl := (plc s L).map g
def cut (L p : Nat) : Nat := L &&& (63 - 1 <<< p)
theorem cut_bit : ∀ L, L < 64 → ∀ p, p < 6 → ∀ i, i < 6 → (cut L p).testBit i = (L.testBit i && i != p) := by decide +kernel
theorem cut_lt : ∀ L, L < 64 → ∀ p, p < 6 → cut L p < 64 ∧ (nI L &&& (((1 : Int32) <<< (nI p &&& 31)) ^^^ (-1))) = nI (cut L p) := by decide +kernel
theorem plc_mem {s L i : Nat} : i ∈ plc s L ↔ i < s ∧ L.testBit i = true := by
  unfold plc
  rw [List.mem_filter, List.mem_range]
theorem plc_nd (s L : Nat) : (plc s L).Nodup := List.nodup_range.filter _
theorem plc_cut {s L p : Nat} (hs : s ≤ 6) (hL : L < 64) (hp : p < s) (hb : L.testBit p = true) : (plc s L).Perm (p :: plc s (cut L p)) := by
  have hm : p ∈ plc s L := plc_mem.mpr ⟨hp, hb⟩
  have h1 := List.perm_cons_erase hm
  have h2 : (plc s L).erase p = plc s (cut L p) := by
    rw [(plc_nd s L).erase_eq_filter]
    unfold plc
    rw [List.filter_filter]
    apply List.filter_congr
    intro i hi
    rw [List.mem_range] at hi
    rw [cut_bit L hL p (by omega) i (by omega), Bool.and_comm]
  rw [h2] at h1
  exact h1
theorem pls_cut {g : Nat → Pl} {s L p : Nat} (hs : s ≤ 6) (hL : L < 64) (hp : p < s) (hb : L.testBit p = true) : (pls g s L).Perm (g p :: pls g s (cut L p)) := (plc_cut hs hL hp hb).map g
theorem pls_len {g : Nat → Pl} {s L : Nat} : (pls g s L).length = (plc s L).length := List.length_map _
theorem plc_cut_len {s L p : Nat} (hs : s ≤ 6) (hL : L < 64) (hp : p < s) (hb : L.testBit p = true) : (plc s L).length = (plc s (cut L p)).length + 1 := (plc_cut hs hL hp hb).length_eq
theorem pls_ex {g : Nat → Pl} {s L : Nat} (hs : s ≤ 6) (hL : L < 64) {Q : Pl → List Pl → Prop} (hQ : ∀ y M M', M.Perm M' → Q y M → Q y M') : (∃ y M', (pls g s L).Perm (y :: M') ∧ Q y M') ↔ ∃ p, p < s ∧ L.testBit p = true ∧ Q (g p) (pls g s (cut L p)) := by
  constructor
  · rintro ⟨y, M', a, b⟩
    have hy : y ∈ pls g s L := a.mem_iff.mpr List.mem_cons_self
    obtain ⟨p, hp, rfl⟩ := List.mem_map.mp hy
    obtain ⟨h1, h2⟩ := plc_mem.mp hp
    have h3 := (pls_cut (g := g) hs hL h1 h2).symm.trans a
    exact ⟨p, h1, h2, hQ _ _ _ (List.Perm.cons_inv h3).symm b⟩
  · rintro ⟨p, h1, h2, h3⟩
    exact ⟨_, _, pls_cut hs hL h1 h2, h3⟩
theorem pls_congr {g g' : Nat → Pl} {s L : Nat} (h : ∀ i, i < s → L.testBit i = true → g i = g' i) : pls g s L = pls g' s L := by
  unfold pls
  apply List.map_congr_left
  intro i hi
  obtain ⟨h1, h2⟩ := plc_mem.mp hi
  exact h i h1 h2
theorem plc_nil : ∀ s, s ≤ 6 → ∀ L, L < 1 <<< s → (plc s L).length = 0 → L = 0 := by decide +kernel
/-- the best of a set of lives, found so far -/
def Rep (g : Int32) (S : Int → Prop) (f b : Int32) : Prop := (f = 0 ∧ b = -1 ∧ ∀ v, ¬ S v) ∨ (f = 1 ∧ S b.toInt ∧ ∀ v, S v → if g = 0 then b.toInt ≤ v else v ≤ b.toInt)
theorem Rep.cong {g : Int32} {S S' : Int → Prop} {f b : Int32} (h : Rep g S f b) (e : ∀ v, S v ↔ S' v) : Rep g S' f b := by
  rcases h with ⟨a, b, c⟩ | ⟨a, b, c⟩
  · exact Or.inl ⟨a, b, fun v q => c v ((e v).mpr q)⟩
  · exact Or.inr ⟨a, (e _).mp b, fun v q => c v ((e v).mpr q)⟩
theorem Rep.uni {g : Int32} {S : Int → Prop} {f b f' b' : Int32} (h : Rep g S f b) (h' : Rep g S f' b') : f = f' ∧ b = b' := by
  rcases h with ⟨a1, a2, a3⟩ | ⟨a1, a2, a3⟩
  · rcases h' with ⟨b1, b2, b3⟩ | ⟨b1, b2, b3⟩
    · exact ⟨a1.trans b1.symm, a2.trans b2.symm⟩
    · exact absurd b2 (a3 _)
  · rcases h' with ⟨b1, b2, b3⟩ | ⟨b1, b2, b3⟩
    · exact absurd a2 (b3 _)
    · refine ⟨a1.trans b1.symm, i32eq.mpr ?_⟩
      have h1 := a3 _ b2
      have h2 := b3 _ a2
      by_cases hg : g = 0
      · rw [if_pos hg] at h1 h2
        omega
      · rw [if_neg hg] at h1 h2
        omega
theorem Rep.add {g : Int32} {S : Int → Prop} {f b x : Int32} (h : Rep g S f b) (c : (f = 0 ∨ (g = 0 ∧ ¬ b ≤ x) ∨ (¬ g = 0 ∧ ¬ x ≤ b))) : Rep g (fun v => S v ∨ v = x.toInt) 1 x := by
  refine Or.inr ⟨rfl, Or.inr rfl, fun v q => ?_⟩
  rcases q with q | q
  · rcases h with ⟨a1, a2, a3⟩ | ⟨a1, a2, a3⟩
    · exact absurd q (a3 v)
    · have h1 := a3 v q
      rcases c with c | ⟨c1, c2⟩ | ⟨c1, c2⟩
      · exact absurd (a1.symm.trans c) (by decide)
      · rw [if_pos c1] at h1 ⊢
        have : ¬ b.toInt ≤ x.toInt := fun q => c2 (i32le.mpr q)
        omega
      · rw [if_neg c1] at h1 ⊢
        have : ¬ x.toInt ≤ b.toInt := fun q => c2 (i32le.mpr q)
        omega
  · subst q
    split <;> exact Int.le_refl _
theorem Rep.keep {g : Int32} {S : Int → Prop} {f b x : Int32} (h : Rep g S f b) (h0 : ¬ f = 0) (c : (g = 0 ∧ b ≤ x) ∨ (¬ g = 0 ∧ x ≤ b)) : Rep g (fun v => S v ∨ v = x.toInt) 1 b := by
  rcases h with ⟨a1, a2, a3⟩ | ⟨a1, a2, a3⟩
  · exact absurd a1 h0
  · refine Or.inr ⟨rfl, Or.inl a2, fun v q => ?_⟩
    rcases q with q | q
    · exact a3 v q
    · subst q
      rcases c with ⟨c1, c2⟩ | ⟨c1, c2⟩
      · rw [if_pos c1]
        exact i32le.mp c2
      · rw [if_neg c1]
        exact i32le.mp c2
theorem c_note {P : Nat} (hP : P < 6) {g f b : Int32} {li : Nat → Int32} {S : Int → Prop} (h : Rep g S f b) : ∃ f' b', fX4_note (nI P) g f b li = some (f', b') ∧ Rep g (fun v => S v ∨ v = (li P).toInt) f' b' := by
  unfold fX4_note fX4_note_b46 fX4_note_b51
  rw [g_nI hP (by omega), ck_true, nm_eq, clN (by omega)]
  by_cases h0 : f = 0
  · rw [if_pos h0]
    exact ⟨_, _, rfl, h.add (Or.inl h0)⟩
  · rw [if_neg h0]
    by_cases hg : g = 0
    · rw [if_pos hg]
      by_cases c : b ≤ li P
      · rw [if_pos c]
        exact ⟨_, _, rfl, h.keep h0 (Or.inl ⟨hg, c⟩)⟩
      · rw [if_neg c]
        exact ⟨_, _, rfl, h.add (Or.inr (Or.inl ⟨hg, c⟩))⟩
    · rw [if_neg hg]
      by_cases c : li P ≤ b
      · rw [if_pos c]
        exact ⟨_, _, rfl, h.keep h0 (Or.inr ⟨hg, c⟩)⟩
      · rw [if_neg c]
        exact ⟨_, _, rfl, h.add (Or.inr (Or.inr ⟨hg, c⟩))⟩
