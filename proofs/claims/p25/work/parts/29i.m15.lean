/-! MATH 15: bound, both -/
theorem copyA {s : Nat} (hs : s ≤ 6) (oli osh oe om ow oa : Nat → Int32) (z : Int32) (li sh : Nat → Int32) : ∀ (r j f : Nat) (e m w a : Nat → Int32), j + r = s → r < f →
    ∃ e' m' w' a' : Nat → Int32, fX6_copyFrom_b40 (nI s) oli osh oe om ow oa f z li sh e m w a (nI j) = some (nI s, li, sh, e', m', w', a') ∧ ∀ i, i < s → (i < j → e' i = e i ∧ m' i = m i ∧ w' i = w i ∧ a' i = a i) ∧ (j ≤ i → e' i = oe i ∧ m' i = om i ∧ w' i = ow i ∧ a' i = oa i) := by
  intro r
  induction r with
  | zero =>
    intro j f e m w a h1 h2
    rcases f with _ | f
    · omega
    refine ⟨e, m, w, a, ?_, fun p hp => ⟨fun _ => ⟨rfl, rfl, rfl, rfl⟩, fun q => absurd hp (by omega)⟩⟩
    rw [fX6_copyFrom_b40, if_pos (nle (by omega) (by omega))]
  | succ r ih =>
    intro j f e m w a h1 h2
    rcases f with _ | f
    · omega
    obtain ⟨e', m', w', a', q1, q2⟩ := ih (j + 1) f (upd e j (oe j)) (upd m j (om j)) (upd w j (ow j)) (upd a j (oa j)) (by omega) (by omega)
    refine ⟨e', m', w', a', ?_, fun p hp => ⟨fun q => ?_, fun q => ?_⟩⟩
    · rw [fX6_copyFrom_b40, if_neg (nnle (by omega) (by omega)), g_nI (show j < 6 by omega) (by omega), ck_true, nm_eq, ck_true, ck_true, nm_eq, ck_true, ck_true, nm_eq, ck_true, ck_true, nm_eq, ck_true, nm_eq, nI_1, clN (by omega)]
      exact q1
    · have := (q2 p hp).1 (by omega)
      rw [upd_n (by omega), upd_n (by omega), upd_n (by omega), upd_n (by omega)] at this
      exact this
    · by_cases e : p = j
      · subst e
        have := (q2 p hp).1 (by omega)
        rw [upd_s, upd_s, upd_s, upd_s] at this
        exact this
      · exact (q2 p hp).2 (by omega)
theorem copyL {s : Nat} (oli osh oe om ow oa : Nat → Int32) (z : Int32) (e m w a : Nat → Int32) : ∀ (r j f : Nat) (li sh : Nat → Int32), j + r = 6 → r < f →
    ∃ li' sh' : Nat → Int32, fX6_copyFrom_b2 (nI s) oli osh oe om ow oa f z li sh e m w a (nI j) = fX6_copyFrom_b40 (nI s) oli osh oe om ow oa 70 z li' sh' e m w a 0 ∧ ∀ p, p < 6 → (p < j → li' p = li p ∧ sh' p = sh p) ∧ (j ≤ p → li' p = oli p ∧ sh' p = osh p) := by
  intro r
  induction r with
  | zero =>
    intro j f li sh h1 h2
    rcases f with _ | f
    · omega
    refine ⟨li, sh, ?_, fun p hp => ⟨fun _ => ⟨rfl, rfl⟩, fun q => absurd hp (by omega)⟩⟩
    rw [fX6_copyFrom_b2, if_pos (show 6 ≤ nI j from nle (a := 6) (by omega) (by omega))]
  | succ r ih =>
    intro j f li sh h1 h2
    rcases f with _ | f
    · omega
    obtain ⟨li', sh', q1, q2⟩ := ih (j + 1) f (upd li j (oli j)) (upd sh j (osh j)) (by omega) (by omega)
    refine ⟨li', sh', ?_, fun p hp => ⟨fun q => ?_, fun q => ?_⟩⟩
    · rw [fX6_copyFrom_b2, if_neg (show ¬ 6 ≤ nI j from nnle (a := 6) (by omega) (by omega)), g_nI (show j < 6 by omega) (by omega), ck_true, nm_eq, ck_true, ck_true, nm_eq, ck_true, nm_eq, nI_1, clN (by omega)]
      exact q1
    · have := (q2 p hp).1 (by omega)
      rw [upd_n (by omega), upd_n (by omega)] at this
      exact this
    · by_cases e : p = j
      · subst e
        have := (q2 p hp).1 (by omega)
        rw [upd_s, upd_s] at this
        exact this
      · exact (q2 p hp).2 (by omega)
theorem offOther_mem {w : Nat} {y : Pl} : ∀ {r : List Pl}, y ∈ offOther w r → y ∈ r
  | [], h => by cases h
  | x :: r, h => by
    unfold offOther at h
    split at h
    · exact List.mem_cons_of_mem _ h
    · rcases List.mem_cons.mp h with q | q
      · rw [q]
        exact List.mem_cons_self
      · exact List.mem_cons_of_mem _ (offOther_mem q)
theorem aDo_6 {x : Pl} {r : List Pl} {li sh : Nat → Int} {s : St} (h : aDo x r li sh = some s) (h6 : ∀ y ∈ r, y.2.2.2 < 6) : ∀ y ∈ s.1, y.2.2.2 < 6 := by
  have hdb : ∀ y : Pl, y.2.2.2 < 6 → (dbl y).2.2.2 < 6 := fun _ q => q
  unfold aDo at h
  split at h
  · split at h
    · cases h; exact h6
    · cases h
  split at h
  · split at h
    · cases h; exact h6
    · cases h
  split at h
  · split at h
    · cases h; exact h6
    · cases h
  split at h
  · cases h
    exact fun y hy => h6 y (offOther_mem hy)
  split at h
  · split at h
    · cases h
      intro y hy
      cases hy
    · split at h
      · cases h
        intro y hy
        rcases List.mem_cons.mp hy with q | q
        · rw [q]
          exact hdb _ (h6 _ List.mem_cons_self)
        · exact h6 y (List.mem_cons_of_mem _ q)
      · cases h
  · cases h
    intro y hy
    obtain ⟨z, hz, rfl⟩ := List.mem_map.mp hy
    have := h6 z hz
    unfold flip1
    split
    · exact this
    · split
      · exact this
      · exact this
theorem aRun_ag : ∀ (n : Nat) (L : List Pl) (li sh li' sh' fin : Nat → Int), (∀ y ∈ L, y.2.2.2 < 6) → (∀ p, p < 6 → li p = li' p ∧ sh p = sh' p) → aRun n L li sh = some fin → ∃ fin', aRun n L li' sh' = some fin' ∧ ∀ p, p < 6 → fin p = fin' p
  | 0, _, _, _, _, _, _, _, _, h => by cases h
  | n + 1, [], li, sh, li', sh', fin, _, ha, h => by
    have : some li = some fin := h
    cases this
    exact ⟨li', rfl, fun p hp => (ha p hp).1⟩
  | n + 1, x :: r, li, sh, li', sh', fin, h6, ha, h => by
    have h : (aDo x r li sh).bind (fun s => aRun n s.1 s.2.1 s.2.2) = some fin := h
    cases hd : aDo x r li sh with
    | none =>
      rw [hd] at h
      cases h
    | some s =>
      rw [hd] at h
      obtain ⟨s', q1, q2⟩ := aDo_ag (h6 x List.mem_cons_self) ha hd
      obtain ⟨fin', q3, q4⟩ := aRun_ag n s.1 s.2.1 s.2.2 s'.2.1 s'.2.2 fin (aDo_6 hd fun y hy => h6 y (List.mem_cons_of_mem _ hy)) q2.2 h
      refine ⟨fin', ?_, q4⟩
      show (aDo x r li' sh').bind (fun s => aRun n s.1 s.2.1 s.2.2) = some fin'
      rw [q1]
      show aRun n s'.1 s'.2.1 s'.2.2 = some fin'
      rw [← q2.1]
      exact q3
theorem OUT_ag {M : List Pl} {li sh li' sh' fin : Nat → Int} (h6 : ∀ y ∈ M, y.2.2.2 < 6) (ha : ∀ p, p < 6 → li p = li' p ∧ sh p = sh' p) (h : OUT M li sh fin) : ∃ fin', OUT M li' sh' fin' ∧ ∀ p, p < 6 → fin p = fin' p := by
  obtain ⟨L, h1, h2⟩ := h
  obtain ⟨fin', q1, q2⟩ := aRun_ag _ L li sh li' sh' fin (fun y hy => h6 y (h1.mem_iff.mp hy)) ha h2
  exact ⟨fin', ⟨L, h1, q1⟩, q2⟩
/-- the lives that some order gives -/
def WS (P : Nat) (M : List Pl) (li sh : Nat → Int) (v : Int) : Prop := ∃ fin, OUT M li sh fin ∧ v = fin P
theorem WS_ag {P : Nat} (hP : P < 6) {M : List Pl} {li sh li' sh' : Nat → Int} (h6 : ∀ y ∈ M, y.2.2.2 < 6) (ha : ∀ p, p < 6 → li p = li' p ∧ sh p = sh' p) (v : Int) : WS P M li sh v ↔ WS P M li' sh' v := by
  constructor
  · rintro ⟨fin, h, rfl⟩
    obtain ⟨fin', q1, q2⟩ := OUT_ag h6 ha h
    exact ⟨fin', q1, q2 P hP⟩
  · rintro ⟨fin, h, rfl⟩
    obtain ⟨fin', q1, q2⟩ := OUT_ag h6 (fun p hp => ⟨(ha p hp).1.symm, (ha p hp).2.symm⟩) h
    exact ⟨fin', q1, q2 P hP⟩
theorem full_plc : ∀ s, s ≤ 6 → plc s (1 <<< s - 1) = List.range s ∧ 1 <<< s - 1 < 1 <<< s ∧ ((1 : Int32) <<< (nI s &&& 31)) - (1 : Int32) = nI (1 <<< s - 1) := by decide +kernel
theorem stk_rev (g : Nat → Pl) : ∀ s, stk g s = ((List.range s).map g).reverse
  | 0 => rfl
  | s + 1 => by rw [stk, stk_rev g s, List.range_succ, List.map_append, List.reverse_append]; rfl
/-- the class's answer stands for the best of all orders -/
theorem c_find {P s : Nat} {g : Int32} {e m w a li sh : Nat → Int32} (hP : P < 6) (hS : okS s e m w a) (hh : okH sh) (q1 q2 q3 q4 q5 : Int32) (wl ws we wm ww wa : Nat → Int32) :
    ∃ f b li' sh' e' m' w' a', fX4_find q1 q2 q3 q4 q5 wl ws we wm ww wa (nI s) li sh e m w a (nI P) g = some (b, nI P, g, f, b, nI s, li', sh', e', m', w', a') ∧ Rep g (WS P (stk (gC e m w a) s) (lF li) (lF sh)) f b := by
  have hs := hS.1
  obtain ⟨li1, sh1, r1, r2⟩ := copyL (s := s) li sh e m w a q5 we wm ww wa 6 0 70 wl ws (by omega) (by omega)
  obtain ⟨e1, m1, w1, a1, r3, r4⟩ := copyA hs li sh e m w a q5 li1 sh1 s 0 70 we wm ww wa (by omega) (by omega)
  have hS1 : okS s e1 m1 w1 a1 := ⟨hs, fun i hi => by
    obtain ⟨z1, z2, z3, z4⟩ := (r4 i hi).2 (by omega)
    rw [z1, z2, z3, z4]
    exact hS.2 i hi⟩
  have hh1 : okH sh1 := fun p hp => by
    rw [((r2 p hp).2 (by omega)).2]
    exact hh p hp
  obtain ⟨f1, f2, f3⟩ := full_plc s hs
  have hok := (ord_ok (w := w1) (a := a1) (g := g) hP hs s).1 (1 <<< s - 1) 0 40 f2 (by rw [f1, List.length_range]) (by omega) (by omega)
  obtain ⟨f, b, u1, u2⟩ := hok 0 (-1) (fun _ => False) li1 sh1 e1 m1 hS1 hh1 (Or.inl ⟨rfl, rfl, fun v h => h⟩)
  refine ⟨f, b, li1, sh1, e1, m1, w1, a1, ?_, u2.cong fun v => ?_⟩
  · unfold fX4_find fX6_copyFrom
    rw [show (0 : Int32) = nI 0 from rfl, r1, show (0 : Int32) = nI 0 from rfl, r3, ob_some]
    dsimp only
    rw [f3]
    show (ob ((fOrd 40).1 (nI P) g 0 (-1) (nI s) li1 sh1 e1 m1 w1 a1 (nI (1 <<< s - 1)) (nI 0)) _) = _
    rw [u1, ob_some]
  · have hp : pls (gC e1 m1 w1 a1) s (1 <<< s - 1) = (stk (gC e m w a) s).reverse := by
      rw [stk_rev, List.reverse_reverse]
      unfold pls
      rw [f1]
      apply List.map_congr_left
      intro i hi
      rw [List.mem_range] at hi
      obtain ⟨z1, z2, z3, z4⟩ := (r4 i hi).2 (by omega)
      unfold gC
      rw [z1, z2, z3, z4]
    have hW : VS P s (gC e1 m1 w1 a1) (1 <<< s - 1) li1 sh1 v ↔ WS P (stk (gC e m w a) s) (lF li1) (lF sh1) v := by
      unfold VS WS
      rw [hp]
      constructor
      · rintro ⟨fin, h, rfl⟩
        exact ⟨fin, (OUT_perm (List.reverse_perm _)).mp h, rfl⟩
      · rintro ⟨fin, h, rfl⟩
        exact ⟨fin, (OUT_perm (List.reverse_perm _)).mpr h, rfl⟩
    rw [hW, WS_ag hP (gC_ag hS) (li' := lF li) (sh' := lF sh) (fun p hp => by
      unfold lF
      rw [((r2 p hp).2 (by omega)).1, ((r2 p hp).2 (by omega)).2]
      exact ⟨rfl, rfl⟩)]
    constructor
    · rintro (h | h)
      · cases h
      · exact h
    · exact Or.inr
/-! the reference's -/
def RepL (g : Int32) (S : Int → Prop) (f : Int32) (b : Int64) : Prop := (f = 0 ∧ ∀ v, ¬ S v) ∨ (f = 1 ∧ okI b.toInt ∧ S b.toInt ∧ ∀ v, S v → if g = 0 then b.toInt ≤ v else v ≤ b.toInt)
theorem RepL.cong {g : Int32} {S S' : Int → Prop} {f : Int32} {b : Int64} (h : RepL g S f b) (e : ∀ v, S v ↔ S' v) : RepL g S' f b := by
  rcases h with ⟨a, c⟩ | ⟨a, k, b, c⟩
  · exact Or.inl ⟨a, fun v q => c v ((e v).mpr q)⟩
  · exact Or.inr ⟨a, k, (e _).mp b, fun v q => c v ((e v).mpr q)⟩
theorem RepL.rep {g : Int32} {S : Int → Prop} {f : Int32} {b : Int64} (h : RepL g S f b) : Rep g S f (if f = 0 then -1 else b.toInt32) := by
  rcases h with ⟨a, c⟩ | ⟨a, k, b, c⟩
  · rw [if_pos a]
    exact Or.inl ⟨a, rfl, c⟩
  · rw [if_neg (by rw [a]; decide)]
    refine Or.inr ⟨a, ?_, ?_⟩
    · rw [l32 k]
      exact b
    · intro v hv
      rw [l32 k]
      exact c v hv
theorem RepL.add {g : Int32} {S : Int → Prop} {f : Int32} {b x : Int64} (h : RepL g S f b) (hx : okI x.toInt) (c : (f = 0 ∨ (g = 0 ∧ x.toInt < b.toInt) ∨ (¬ g = 0 ∧ b.toInt < x.toInt))) : RepL g (fun v => S v ∨ v = x.toInt) 1 x := by
  refine Or.inr ⟨rfl, hx, Or.inr rfl, fun v q => ?_⟩
  rcases q with q | q
  · rcases h with ⟨a1, a3⟩ | ⟨a1, -, a2, a3⟩
    · exact absurd q (a3 v)
    · have h1 := a3 v q
      rcases c with c | ⟨c1, c2⟩ | ⟨c1, c2⟩
      · exact absurd (a1.symm.trans c) (by decide)
      · rw [if_pos c1] at h1 ⊢
        omega
      · rw [if_neg c1] at h1 ⊢
        omega
  · subst q
    split <;> exact Int.le_refl _
theorem RepL.keep {g : Int32} {S : Int → Prop} {f : Int32} {b x : Int64} (h : RepL g S f b) (h0 : ¬ f = 0) (c : (g = 0 ∧ b.toInt ≤ x.toInt) ∨ (¬ g = 0 ∧ x.toInt ≤ b.toInt)) : RepL g (fun v => S v ∨ v = x.toInt) 1 b := by
  rcases h with ⟨a1, a3⟩ | ⟨a1, k, a2, a3⟩
  · exact absurd a1 h0
  · refine Or.inr ⟨rfl, k, Or.inl a2, fun v q => ?_⟩
    rcases q with q | q
    · exact a3 v q
    · subst q
      rcases c with ⟨c1, c2⟩ | ⟨c1, c2⟩
      · rw [if_pos c1]
        exact c2
      · rw [if_neg c1]
        exact c2
abbrev kR : Type := Option (Int32 × Int32 × Int32 × (Nat → Int32) × (Nat → Int32) × (Nat → Int64) × (Nat → Int32) × (Nat → Int64) × (Nat → Int64))
abbrev kT : Type := Int32 → Int32 → (Nat → Int32) → (Nat → Int32) → (Nat → Int64) → (Nat → Int32) → (Nat → Int64) → (Nat → Int64) → Int32 → Int32 → Int32 → Int32 → Int64 → Int32 → kR
theorem b91_ok (K : kT) {P : Nat} (hP : P < 6) (st : Int32) (li sh who does much ag : Nat → Int32) (th hi : Int32) (tw td : Nat → Int32) (tm : Nat → Int64) (ta : Nat → Int32) (tl ts : Nat → Int64) (g F f : Int32) (b : Int64) (k : Nat) {S : Int → Prop} (hR : RepL g S f b) (hx : okI (tl P).toInt) :
    ∃ f' b', fX9_bound_b91 K st li sh who does much ag th hi tw td tm ta tl ts (nI P) g F f b (nI k) 1 = K th hi tw td tm ta tl ts (nI P) g F f' b' (nI (k + 1)) ∧ RepL g (fun v => S v ∨ v = (tl P).toInt) f' b' := by
  unfold fX9_bound_b91 fX9_bound_b127 fX9_bound_b131 fX9_bound_b132 fX9_bound_b153 fX9_bound_b155 fX9_bound_b167 fX9_bound_b172
  rw [g_nI hP (by omega), ck_true, ck_true, ck_true, nm_eq, nI_1, clN (by omega), if_neg one0, if_neg one0, if_pos rfl, if_neg one0]
  by_cases h0 : f = 0
  · rw [if_pos h0, if_pos h0]
    exact ⟨_, _, rfl, hR.add hx (Or.inl h0)⟩
  · rw [if_neg h0, if_neg h0]
    by_cases hg : g = 0
    · rw [if_pos hg]
      by_cases c : 0 ≤ lg_cmp (tl P) b
      · rw [if_pos c, if_neg one0]
        exact ⟨_, _, rfl, hR.keep h0 (Or.inl ⟨hg, (cmp_ge _ _).mp c⟩)⟩
      · rw [if_neg c, if_neg h0]
        refine ⟨_, _, rfl, hR.add hx (Or.inr (Or.inl ⟨hg, ?_⟩))⟩
        have : ¬ b.toInt ≤ (tl P).toInt := fun q => c ((cmp_ge _ _).mpr q)
        omega
    · rw [if_neg hg]
      by_cases c : lg_cmp (tl P) b ≤ 0
      · rw [if_pos c, if_neg one0]
        exact ⟨_, _, rfl, hR.keep h0 (Or.inr ⟨hg, (cmp_le _ _).mp c⟩)⟩
      · rw [if_neg c, if_neg h0]
        refine ⟨_, _, rfl, hR.add hx (Or.inr (Or.inr ⟨hg, ?_⟩))⟩
        have : ¬ (tl P).toInt ≤ b.toInt := fun q => c ((cmp_le _ _).mpr q)
        omega
theorem b91_no (K : kT) {P : Nat} (hP : P < 6) (st : Int32) (li sh who does much ag : Nat → Int32) (th hi : Int32) (tw td : Nat → Int32) (tm : Nat → Int64) (ta : Nat → Int32) (tl ts : Nat → Int64) (g F f : Int32) (b : Int64) (k : Nat) {S : Int → Prop} (hR : RepL g S f b) :
    fX9_bound_b91 K st li sh who does much ag th hi tw td tm ta tl ts (nI P) g F f b (nI k) 0 = K th hi tw td tm ta tl ts (nI P) g F f b (nI (k + 1)) := by
  have hf : f = 0 ∨ f = 1 := by
    rcases hR with ⟨a, -⟩ | ⟨a, -⟩
    · exact Or.inl a
    · exact Or.inr a
  unfold fX9_bound_b91 fX9_bound_b127 fX9_bound_b131 fX9_bound_b132 fX9_bound_b153 fX9_bound_b155 fX9_bound_b167 fX9_bound_b172
  rw [g_nI hP (by omega), ck_true, ck_true, ck_true, nm_eq, nI_1, if_pos rfl, if_pos rfl, if_pos rfl]
  rcases hf with rfl | rfl
  · rw [if_pos rfl, if_pos rfl]
  · rw [if_neg one0, if_neg one0]
    split
    · split <;> rfl
    · split <;> rfl
theorem run_ok (K : kT) {P : Nat} (st : Int32) (li sh who does much ag : Nat → Int32) (th : Int32) (g F f : Int32) (b : Int64) (k : Nat) : ∀ (s fu : Nat) (tw td : Nat → Int32) (tm : Nat → Int64) (ta : Nat → Int32) (tl ts : Nat → Int64), s + 1 < fu → okM s td tm tw ta → okV tl ts →
    (aRun (s + 1) (stk (gM td tm tw ta) s) (lL tl) (lL ts) = none ∧ ∃ hi' tw' td' tm' ta' tl' ts', fX9_bound_b70 K st li sh who does much ag fu th (nI s) tw td tm ta tl ts (nI P) g F f b (nI k) 1 = fX9_bound_b91 K st li sh who does much ag th hi' tw' td' tm' ta' tl' ts' (nI P) g F f b (nI k) 0) ∨
    ∃ tw' td' tm' ta' tl' ts', okV tl' ts' ∧ aRun (s + 1) (stk (gM td tm tw ta) s) (lL tl) (lL ts) = some (lL tl') ∧ fX9_bound_b70 K st li sh who does much ag fu th (nI s) tw td tm ta tl ts (nI P) g F f b (nI k) 1 = fX9_bound_b91 K st li sh who does much ag th 0 tw' td' tm' ta' tl' ts' (nI P) g F f b (nI k) 1 := by
  intro s
  induction s using Nat.strongRecOn with
  | ind s ih =>
    intro fu tw td tm ta tl ts hfu hM hV
    rcases fu with _ | fu
    · omega
    rcases s with _ | s
    · right
      refine ⟨tw, td, tm, ta, tl, ts, hV, rfl, ?_⟩
      rw [fX9_bound_b70, if_pos (show nI 0 ≤ 0 by decide)]
      rfl
    · have h6 := hM.1
      rw [fX9_bound_b70, if_neg (show ¬ nI (s + 1) ≤ 0 from nnle (b := 0) (by omega) (by omega)), if_neg one0]
      have hr : aRun (s + 1 + 1) (stk (gM td tm tw ta) (s + 1)) (lL tl) (lL ts) = (aDo (gM td tm tw ta s) (stk (gM td tm tw ta) s) (lL tl) (lL ts)).bind fun t => aRun (t.1.length + 1) t.1 t.2.1 t.2.2 := by
        rw [stk]
        exact aRun_cons (by rw [stk_len]; omega)
      rw [hr]
      rcases t_tryTop hM hV with ⟨n1, hi', w', d', m', a', l', v', n2⟩ | ⟨s', w', d', m', a', l', v', hs', hM', hV', n1, n2⟩
      · left
        rw [n1]
        refine ⟨rfl, hi', w', d', m', a', l', v', ?_⟩
        rw [n2, ob_some]
        dsimp only
        rcases fu with _ | fu
        · omega
        rw [fX9_bound_b70, if_pos rfl]
        split <;> rfl
      · rw [n1, n2, ob_some]
        dsimp only
        have := ih s' (by omega) fu w' d' m' a' l' v' (by omega) hM' hV'
        rw [show ∀ t : St, (some t).bind (fun t => aRun (t.1.length + 1) t.1 t.2.1 t.2.2) = aRun (t.1.length + 1) t.1 t.2.1 t.2.2 from fun _ => rfl]
        dsimp only
        rw [stk_len]
        exact this
