/-! MATH 16: bound, the call -/
theorem perm_map {f : Nat → Pl} : ∀ (L : List Pl) (l : List Nat), L.Perm (l.map f) → ∃ l' : List Nat, l'.Perm l ∧ L = l'.map f
  | [], l, h => by
    have := h.length_eq
    rw [List.length_map] at this
    have : l = [] := List.eq_nil_of_length_eq_zero this.symm
    subst this
    exact ⟨[], List.Perm.refl _, rfl⟩
  | y :: L, l, h => by
    obtain ⟨x, hx, rfl⟩ := List.mem_map.mp (h.mem_iff.mp List.mem_cons_self)
    have h1 := List.perm_cons_erase hx
    have h2 : (f x :: L).Perm (f x :: (l.erase x).map f) := h.trans (h1.map f)
    obtain ⟨l', q1, q2⟩ := perm_map L (l.erase x) (List.Perm.cons_inv h2)
    exact ⟨x :: l', (q1.cons x).trans h1.symm, by rw [List.map_cons, q2]⟩
def ORD (P s : Nat) (g : Nat → Pl) (li sh : Nat → Int) (k : Nat) (v : Int) : Prop := ∃ fin, aRun (s + 1) ((lz s (List.range s) k).map g).reverse li sh = some fin ∧ v = fin P
theorem ORD_all {P s : Nat} {g : Nat → Pl} {li sh : Nat → Int} (v : Int) : (∃ k, k < fac s ∧ ORD P s g li sh k v) ↔ WS P (stk g s) li sh v := by
  have hlen : ∀ k, ((lz s (List.range s) k).map g).reverse.length = s := fun k => by rw [List.length_reverse, List.length_map, lz_len]
  constructor
  · rintro ⟨k, hk, fin, h, rfl⟩
    refine ⟨fin, ⟨((lz s (List.range s) k).map g).reverse, ?_, ?_⟩, rfl⟩
    · rw [stk_rev]
      exact (List.reverse_perm _).trans (((lz_perm s _ k List.nodup_range List.length_range).map g).trans (List.reverse_perm _).symm)
    · rw [hlen]
      exact h
  · rintro ⟨fin, ⟨L, h1, h2⟩, rfl⟩
    rw [stk_rev] at h1
    have h3 : L.reverse.Perm ((List.range s).map g) := (List.reverse_perm L).trans (h1.trans (List.reverse_perm _))
    obtain ⟨σ, q1, q2⟩ := perm_map _ _ h3
    obtain ⟨k, hk, e⟩ := lz_all s (List.range s) σ List.nodup_range List.length_range q1
    have hL : L = ((lz s (List.range s) k).map g).reverse := by
      rw [e, ← q2, List.reverse_reverse]
    refine ⟨k, hk, fin, ?_, rfl⟩
    rw [← hL]
    have : L.length = s := by rw [hL, hlen]
    rw [this] at h2
    exact h2
theorem fac_le : ∀ s, s ≤ 6 → 1 ≤ fac s ∧ fac s ≤ 720 := by decide
theorem lz_lt {s k i : Nat} (hi : i < s) : (lz s (List.range s) k)[i]?.getD 0 < s := by
  have h : i < (lz s (List.range s) k).length := by rw [lz_len]; exact hi
  rw [List.getElem?_eq_getElem h, Option.getD_some]
  exact List.mem_range.mp ((lz_perm s _ k List.nodup_range List.length_range).mem_iff.mp (List.getElem_mem h))
theorem stk_lz {s k : Nat} {g h : Nat → Pl} (e : ∀ i, i < s → g i = h ((lz s (List.range s) k)[i]?.getD 0)) : stk g s = ((lz s (List.range s) k).map h).reverse := by
  rw [stk_rev]
  congr 1
  apply List.ext_getElem
  · rw [List.length_map, List.length_map, lz_len, List.length_range]
  · intro i h1 h2
    rw [List.length_map, List.length_range] at h1
    rw [List.length_map] at h2
    rw [List.getElem_map, List.getElem_map, List.getElem_range, e i h1, List.getElem?_eq_getElem h2, Option.getD_some]
theorem ref_loop {P s : Nat} (hP : P < 6) {e m w a li sh does much who ag life shield : Nat → Int32} (hT : RT s e m w a li sh does much who ag life shield) (g th : Int32) : ∀ (r k fu : Nat) (hi : Int32) (tw td : Nat → Int32) (tm : Nat → Int64) (ta : Nat → Int32) (tl ts : Nat → Int64) (f : Int32) (b : Int64), k + r = fac s → r < fu → RepL g (fun v => ∃ k', k' < k ∧ ORD P s (gC e m w a) (lF li) (lF sh) k' v) f b →
    ∃ (r' hi' : Int32) (x : (Nat → Int32) × (Nat → Int32) × (Nat → Int64) × (Nat → Int32) × (Nat → Int64) × (Nat → Int64)) (f' : Int32), fX9_bound_b55 (nI s) life shield who does much ag fu th hi tw td tm ta tl ts (nI P) g (nI (fac s)) f b (nI k) = some (r', th, hi', x) ∧ Rep g (fun v => ∃ k', k' < fac s ∧ ORD P s (gC e m w a) (lF li) (lF sh) k' v) f' r' := by
  have hs := hT.1.1
  have hf := fac_le s hs
  intro r
  induction r with
  | zero =>
    intro k fu hi tw td tm ta tl ts f b h1 h2 hR
    rcases fu with _ | fu
    · omega
    have : k = fac s := by omega
    subst this
    have hr := hR.rep
    rw [fX9_bound_b55, if_pos (nle (Nat.le_refl _) (by omega))]
    unfold fX9_bound_b192
    by_cases h0 : f = 0
    · rw [if_pos h0] at hr
      rw [if_pos h0]
      exact ⟨_, _, _, f, rfl, hr⟩
    · rw [if_neg h0] at hr
      rw [if_neg h0]
      exact ⟨_, _, _, f, rfl, hr⟩
  | succ r ih =>
    intro k fu hi tw td tm ta tl ts f b h1 h2 hR
    rcases fu with _ | fu
    · omega
    rw [fX9_bound_b55, if_neg (nnle (by omega) (by omega))]
    obtain ⟨tw1, td1, tm1, ta1, tl1, ts1, y1, y2, y3⟩ := r_lay life shield who does much ag hs (show k < 2147483648 by omega) hi tw td tm ta tl ts
    have hσ := fun i (hi : i < s) => lz_lt (k := k) hi
    rw [y1, ob_some]
    dsimp only
    obtain ⟨hS, hh, hTs, hTl⟩ := hT
    have hM : okM s td1 tm1 tw1 ta1 := ⟨hs, fun i hi => by
      obtain ⟨a1, a2, a3, a4⟩ := y2 i hi
      obtain ⟨b1, b2, b3, b4⟩ := hTs _ (hσ i hi)
      obtain ⟨c1, c2, c3, c4⟩ := hS.2 _ (hσ i hi)
      rw [a1, a2, a3, a4, b1, b2, b3, b4, l64]
      have := fb_rng (m ((lz s (List.range s) k)[i]?.getD 0))
      exact ⟨c1, ⟨c2, by omega⟩, c3, c4⟩⟩
    have hV : okV tl1 ts1 := fun p hp => by
      obtain ⟨a1, a2⟩ := y3 p hp
      rw [a1, a2, l64, l64, (hTl p hp).1, (hTl p hp).2]
      have := fb_rng (li p)
      have := fb_rng (sh p)
      have := hh p hp
      exact ⟨⟨by omega, by omega⟩, by omega, by omega⟩
    have hg : ∀ i, i < s → gM td1 tm1 tw1 ta1 i = gC e m w a ((lz s (List.range s) k)[i]?.getD 0) := fun i hi => by
      obtain ⟨a1, a2, a3, a4⟩ := y2 i hi
      obtain ⟨b1, b2, b3, b4⟩ := hTs _ (hσ i hi)
      unfold gM gC
      rw [a1, a2, a3, a4, b1, b2, b3, b4, l64]
    have hag : ∀ p, p < 6 → lL tl1 p = lF li p ∧ lL ts1 p = lF sh p := fun p hp => by
      obtain ⟨a1, a2⟩ := y3 p hp
      unfold lL lF
      rw [a1, a2, l64, l64, (hTl p hp).1, (hTl p hp).2]
      exact ⟨rfl, rfl⟩
    have hstk := stk_lz hg
    have h6 : ∀ y ∈ ((lz s (List.range s) k).map (gC e m w a)).reverse, y.2.2.2 < 6 := by
      intro y hy
      rw [List.mem_reverse] at hy
      obtain ⟨i, hi, rfl⟩ := List.mem_map.mp hy
      have hi' := List.mem_range.mp ((lz_perm s _ k List.nodup_range List.length_range).mem_iff.mp hi)
      obtain ⟨-, -, -, p, hp, ep⟩ := hS.2 i hi'
      show (a i).toNatClampNeg < 6
      rw [ep, clN (by omega)]
      exact hp
    have hT' : RT s e m w a li sh does much who ag life shield := ⟨hS, hh, hTs, hTl⟩
    rcases run_ok (P := P) (fX9_bound_b55 (nI s) life shield who does much ag fu) (nI s) life shield who does much ag th g (nI (fac s)) f b k s 800 tw1 td1 tm1 ta1 tl1 ts1 (by omega) hM hV with ⟨n1, hi', tw', td', tm', ta', tl', ts', n2⟩ | ⟨tw', td', tm', ta', tl', ts', hV', n1, n2⟩
    · rw [n2, b91_no (fX9_bound_b55 (nI s) life shield who does much ag fu) hP _ _ _ _ _ _ _ _ _ _ _ _ _ _ _ _ _ _ _ _ hR]
      refine ih (k + 1) fu _ _ _ _ _ _ _ _ _ (by omega) (by omega) (hR.cong fun v => ?_)
      constructor
      · rintro ⟨k', u1, u2⟩
        exact ⟨k', by omega, u2⟩
      · rintro ⟨k', u1, u2⟩
        by_cases z : k' = k
        · subst z
          obtain ⟨fin, u3, -⟩ := u2
          obtain ⟨fin', u4, -⟩ := aRun_ag _ _ _ _ (lL tl1) (lL ts1) fin h6 (fun p hp => ⟨(hag p hp).1.symm, (hag p hp).2.symm⟩) u3
          rw [← hstk, n1] at u4
          cases u4
        · exact ⟨k', by omega, u2⟩
    · obtain ⟨f1, b1, v1, v2⟩ := b91_ok (fX9_bound_b55 (nI s) life shield who does much ag fu) hP (nI s) life shield who does much ag th 0 tw' td' tm' ta' tl' ts' g (nI (fac s)) f b k hR (hV' P hP).1
      rw [n2, v1]
      refine ih (k + 1) fu _ _ _ _ _ _ _ _ _ (by omega) (by omega) (v2.cong fun v => ?_)
      rw [hstk] at n1
      obtain ⟨fin', u4, u5⟩ := aRun_ag _ _ _ _ (lF li) (lF sh) _ h6 hag n1
      have u6 : (tl' P).toInt = fin' P := u5 P hP
      constructor
      · rintro (⟨k', u1, u2⟩ | h)
        · exact ⟨k', by omega, u2⟩
        · exact ⟨k, by omega, fin', u4, h.trans u6⟩
      · rintro ⟨k', u1, u2⟩
        by_cases z : k' = k
        · subst z
          obtain ⟨fin, u3, rfl⟩ := u2
          rw [u4] at u3
          cases u3
          exact Or.inr u6.symm
        · exact Or.inl ⟨k', by omega, u2⟩
theorem fac_loop {P s : Nat} (hs : s ≤ 6) (life shield who does much ag : Nat → Int32) (th hi : Int32) (tw td : Nat → Int32) (tm : Nat → Int64) (ta : Nat → Int32) (tl ts : Nat → Int64) (g : Int32) : ∀ (r j fu : Nat), j + r = s + 1 → r < fu → 1 ≤ j →
    fX9_bound_b26 (nI s) life shield who does much ag fu th hi tw td tm ta tl ts (nI P) g (nI (fac (j - 1))) (nI j) = fX9_bound_b55 (nI s) life shield who does much ag 800 th hi tw td tm ta tl ts (nI P) g (nI (fac s)) 0 0 0 := by
  intro r
  induction r with
  | zero =>
    intro j fu h1 h2 h3
    rcases fu with _ | fu
    · omega
    rw [fX9_bound_b26, if_pos (nlt (by omega) (by omega)), show j - 1 = s by omega]
  | succ r ih =>
    intro j fu h1 h2 h3
    rcases fu with _ | fu
    · omega
    have e : fac (j - 1) * j = fac (j + 1 - 1) := by
      obtain ⟨i, rfl⟩ : ∃ i, j = i + 1 := ⟨j - 1, by omega⟩
      show fac i * (i + 1) = (i + 1) * fac i
      exact Nat.mul_comm _ _
    rw [fX9_bound_b26, if_neg (nnlt (by omega) (by omega)), nm_eq, nm_eq, nI_1, pk_mul, e]
    exact ih (j + 1) fu (by omega) (by omega) (by omega)
theorem m_bound {s : Nat} {e m w a li sh does much who ag life shield : Nat → Int32} (hT : RT s e m w a li sh does much who ag life shield) (q1 q2 q3 q4 q5 : Int32) (wl ws we wm ww wa : Nat → Int32) (thrown high : Int32) (tw td : Nat → Int32) (tm : Nat → Int64) (ta : Nat → Int32) (tl ts : Nat → Int64) (p1 p2 : Int32) :
    (∃ r x high' y, fX8_bound (nI s) li sh e m w a q1 q2 q3 q4 q5 wl ws we wm ww wa p1 p2 = some (.inl (r, x)) ∧ fX9_bound thrown (nI s) high life shield who does much ag tw td tm ta tl ts p1 p2 = some (r, 0, high', y)) ∨
    (fX8_bound (nI s) li sh e m w a q1 q2 q3 q4 q5 wl ws we wm ww wa p1 p2 = some (.inr ("java/lang/IndexOutOfBoundsException", (q1, q2, q3, q4, q5, wl, ws, we, wm, ww, wa))) ∧ ∃ b high' y, fX9_bound thrown (nI s) high life shield who does much ag tw td tm ta tl ts p1 p2 = some (b, 1, high', y)) := by
  unfold fX8_bound fX9_bound fX9_bound_b13
  rcases in_n p1 6 (by omega) with ⟨P, hP, rfl⟩ | ⟨hP, -⟩
  · left
    have hs := hT.1.1
    have hf := fac_le s hs
    obtain ⟨f, b, li', sh', e', m', w', a', u1, u2⟩ := c_find (g := p2) hP hT.1 hT.2.1 q1 q2 q3 q4 q5 wl ws we wm ww wa
    obtain ⟨r', hi', x, f', v1, v2⟩ := ref_loop hP hT p2 0 (fac s) 0 800 high tw td tm ta tl ts 0 0 (by omega) (by omega) (Or.inl ⟨rfl, fun v ⟨k', u, _⟩ => absurd u (Nat.not_lt_zero _)⟩)
    have hr : r' = b := ((v2.cong ORD_all).uni u2).2
    subst hr
    refine ⟨r', (nI P, p2, f, r', nI s, li', sh', e', m', w', a'), hi', x, ?_, ?_⟩
    · rw [needPlayer_ok hP, ob_some, xm_inl, u1, ob_some]
    · rw [isPlayer_ok hP, ob_some, if_neg one0, goesWell_0, ob_some]
      dsimp only
      rw [if_neg one0, ← v1]
      rcases s with _ | s
      · rw [fX9_bound_b26, if_pos (show nI 0 < 2 by decide)]
        rfl
      · exact fac_loop hs life shield who does much ag 0 high tw td tm ta tl ts p2 s 2 800 (by omega) (by omega) (by omega)
  · right
    refine ⟨?_, ?_⟩
    · rw [needPlayer_bad hP, ob_some, xm_inr]
    · rw [isPlayer_bad hP, ob_some, if_pos rfl, goesWell_1, ob_some]
      exact ⟨_, _, _, rfl⟩
