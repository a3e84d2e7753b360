/-! MATH 14: bound, the class's search, all together -/
theorem VD_4 {P s L : Nat} {g : Nat → Pl} {y : Pl} {li sh : Nat → Int32} {v : Int} (hs : s ≤ 6) (hL : L < 1 <<< s) (h64 : L < 64) (hy : y.1 = 4) : VD P s g L y li sh v ↔ (L = 0 ∧ v = (li P).toInt) ∨ ∃ p, p < s ∧ L.testBit p = true ∧ okI (2 * (g p).2.1) ∧ VD P s g (cut L p) (dbl (g p)) li sh v := by
  have hx := fun fin => pls_ex (g := g) (Q := fun y M => okI (2 * y.2.1) ∧ SD (dbl y) M (lF li) (lF sh) fin) hs h64 (fun y M M' h q => ⟨q.1, (SD_perm h).mp q.2⟩)
  constructor
  · rintro ⟨fin, h, rfl⟩
    rcases (SD_4 hy).mp h with ⟨h1, rfl⟩ | h1
    · left
      refine ⟨?_, rfl⟩
      have := congrArg List.length h1
      rw [pls_len] at this
      exact plc_nil s hs L hL this
    · right
      obtain ⟨p, u1, u2, u3, u4⟩ := (hx fin).mp h1
      exact ⟨p, u1, u2, u3, fin, u4, rfl⟩
  · rintro (⟨rfl, h⟩ | ⟨p, u1, u2, u3, fin, u4, rfl⟩)
    · obtain ⟨fin, h1, h2⟩ := VS_0 (P := P) (s := s) (g := g) (sh := sh) |>.mpr h
      have e : pls g s 0 = [] := by
        unfold pls plc
        rw [List.filter_eq_nil_iff.mpr (fun x _ => by rw [Nat.zero_testBit]; decide)]
        rfl
      rw [e] at h1
      refine ⟨fin, (SD_4 hy).mpr (Or.inl ⟨e, OUT_nil.mp h1⟩), h2⟩
    · exact ⟨fin, (SD_4 hy).mpr (Or.inr ((hx fin).mpr ⟨p, u1, u2, u3, u4⟩)), rfl⟩
theorem VD_3 {P s L : Nat} {g : Nat → Pl} {y : Pl} {li sh : Nat → Int32} {v : Int} (hs : s ≤ 6) (h64 : L < 64) (hy : y.1 = 3) : VD P s g L y li sh v ↔ ((∀ p, p < s → L.testBit p = true → (g p).2.2.1 = y.2.2.1) ∧ VS P s g L li sh v) ∨ ∃ p, p < s ∧ L.testBit p = true ∧ (g p).2.2.1 ≠ y.2.2.1 ∧ VS P s g (cut L p) li sh v := by
  have hx := fun fin => pls_ex (g := g) (Q := fun z M => z.2.2.1 ≠ y.2.2.1 ∧ OUT M (lF li) (lF sh) fin) hs h64 (fun y M M' h q => ⟨q.1, (OUT_perm h).mp q.2⟩)
  constructor
  · rintro ⟨fin, h, rfl⟩
    rcases (SD_3 hy).mp h with ⟨h1, h2⟩ | h1
    · left
      exact ⟨fun p u1 u2 => h1 _ (List.mem_map.mpr ⟨p, plc_mem.mpr ⟨u1, u2⟩, rfl⟩), fin, h2, rfl⟩
    · right
      obtain ⟨p, u1, u2, u3, u4⟩ := (hx fin).mp h1
      exact ⟨p, u1, u2, u3, fin, u4, rfl⟩
  · rintro (⟨h1, fin, h2, rfl⟩ | ⟨p, u1, u2, u3, fin, u4, rfl⟩)
    · refine ⟨fin, (SD_3 hy).mpr (Or.inl ⟨fun z hz => ?_, h2⟩), rfl⟩
      obtain ⟨p, hp, rfl⟩ := List.mem_map.mp hz
      obtain ⟨u1, u2⟩ := plc_mem.mp hp
      exact h1 p u1 u2
    · exact ⟨fin, (SD_3 hy).mpr (Or.inr ((hx fin).mpr ⟨p, u1, u2, u3, u4⟩)), rfl⟩
def XOK (run : Int32 → Int32 → (Nat → Int32) → (Nat → Int32) → (Nat → Int32) → (Nat → Int32) → Nat → oR) (P : Nat) (g : Int32) (s : Nat) (w a : Nat → Int32) (L : Nat) (ok : Nat → Prop) : Prop := ∀ (f b : Int32) (S : Int → Prop) (li sh e m : Nat → Int32) (p k : Nat), okS s e m w a → okH sh → Rep g S f b → p < s → e p = nI k → ok k → k < 6 →
  ∃ f' b', run f b li sh e m p = some (f', b', li, sh, e, m) ∧ Rep g (fun v => S v ∨ VD P s (gC e m w a) L (gC e m w a p) li sh v) f' b'
theorem gC_1 {e m w a : Nat → Int32} {p k : Nat} (h : e p = nI k) (hk : k < 6) : (gC e m w a p).1 = k := by
  show (e p).toNatClampNeg = k
  rw [h, clN (by omega)]
theorem stop_ok (aG : oB) (aD aS : oC) (aT : oB) (aU : oC) {P s L d : Nat} {g : Int32} {w a : Nat → Int32} (hs : s ≤ 6) (h64 : L < 64) (hG : ∀ p, p < s → L.testBit p = true → GOK aG P g s w a (cut L p) d) (hG0 : GOK aG P g s w a L d) :
    XOK (fun f b li sh e m p => bX4_stopAny aG aD aS aT aU (nI P) g f b (nI s) li sh e m w a (w p) (nI L) (nI d)) P g s w a L (fun k => k = 3) := by
  intro f b S li sh e m p k hS hh hR hp he hk hk6
  obtain ⟨f', b', q1, q2⟩ := stop_loop aG aD aS aT aU (x := w p) hs h64 hS hh hG hG0 s 0 70 f b 0 S (by omega) (by omega) (Or.inl rfl) hR
  refine ⟨f', b', q1, q2.cong fun v => ?_⟩
  have hw : ∀ q, q < s → ((gC e m w a q).2.2.1 = (gC e m w a p).2.2.1 ↔ w q = w p) := by
    intro q hq
    show (w q).toNatClampNeg = (w p).toNatClampNeg ↔ _
    exact ⟨fun h => nI_back (hS.2 q hq).2.2.1 (hS.2 p hp).2.2.1 h, fun h => by rw [h]⟩
  rw [VD_3 hs h64 ((gC_1 he hk6).trans hk)]
  constructor
  · rintro (h | ⟨q, -, u2, u3, u4, u5⟩ | ⟨-, u2, u3⟩)
    · exact Or.inl h
    · exact Or.inr (Or.inr ⟨q, u2, u3, fun z => u4 ((hw q u2).mp z), u5⟩)
    · exact Or.inr (Or.inl ⟨fun q v1 v2 => (hw q v1).mpr (u2 q (Nat.zero_le _) v1 v2), u3⟩)
  · rintro (h | ⟨u2, u3⟩ | ⟨q, u2, u3, u4, u5⟩)
    · exact Or.inl h
    · exact Or.inr (Or.inr ⟨rfl, fun q _ v1 v2 => (hw q v1).mp (u2 q v1 v2), u3⟩)
    · exact Or.inr (Or.inl ⟨q, Nat.zero_le _, u2, u3, fun z => u4 ((hw q u2).mpr z), u5⟩)
theorem dbl_ok (aG : oB) (aD aS : oC) (aT : oB) (aU : oC) {P s L d : Nat} {g : Int32} {w a : Nat → Int32} (hs : s ≤ 6) (hL : L < 1 <<< s) (h64 : L < 64) (hG0 : GOK aG P g s w a L d) (hD : ∀ p, p < s → L.testBit p = true → DOK aD P g s w a (cut L p) p (d + 1)) :
    XOK (fun f b li sh e m _ => bX4_doubleAny aG aD aS aT aU (nI P) g f b (nI s) li sh e m w a (nI L) (nI d)) P g s w a L (fun k => k = 4) := by
  intro f b S li sh e m p k hS hh hR hp he hk hk6
  dsimp only
  unfold bX4_doubleAny fX4_doubleAny_b10
  by_cases h0 : L = 0
  · subst h0
    obtain ⟨f1, b1, q1, q2⟩ := hG0 f b S li sh e m hS hh hR
    obtain ⟨f', b', q3, q4⟩ := dbl_loop aG aD aS aT aU hs h64 hS hh hD s 0 70 f1 b1 _ (by omega) (by omega) q2
    refine ⟨f', b', ?_, q4.cong fun v => ?_⟩
    · rw [if_pos (show nI 0 = 0 from rfl), q1, ob_some]
      exact q3
    · rw [VD_4 hs hL h64 ((gC_1 he hk6).trans hk), VS_0]
      constructor
      · rintro ((h | h) | ⟨q, -, u2, u3, -⟩)
        · exact Or.inl h
        · exact Or.inr (Or.inl ⟨rfl, h⟩)
        · rw [Nat.zero_testBit] at u3
          cases u3
      · rintro (h | ⟨-, h⟩ | ⟨q, u2, u3, -⟩)
        · exact Or.inl (Or.inl h)
        · exact Or.inl (Or.inr h)
        · rw [Nat.zero_testBit] at u3
          cases u3
  · obtain ⟨f', b', q3, q4⟩ := dbl_loop aG aD aS aT aU hs h64 hS hh hD s 0 70 f b _ (by omega) (by omega) hR
    refine ⟨f', b', ?_, q4.cong fun v => ?_⟩
    · rw [if_neg (show ¬ nI L = 0 from neqI (b := 0) (by omega) (by omega) h0)]
      exact q3
    · rw [VD_4 hs hL h64 ((gC_1 he hk6).trans hk)]
      constructor
      · rintro (h | ⟨q, -, u⟩)
        · exact Or.inl h
        · exact Or.inr (Or.inr ⟨q, u⟩)
      · rintro (h | ⟨h, -⟩ | ⟨q, u⟩)
        · exact Or.inl h
        · exact absurd h h0
        · exact Or.inr ⟨q, Nat.zero_le _, u⟩
theorem touch_ok (aG : oB) (aD aS : oC) (aT : oB) (aU : oC) {P s L d : Nat} {g : Int32} {w a : Nat → Int32} (hs : s ≤ 6) (hG0 : GOK aG P g s w a L d) :
    XOK (fun f b li sh e m p => bX4_touch aG aD aS aT aU (nI P) g f b (nI s) li sh e m w a (nI p) (nI L) (nI d)) P g s w a L (fun k => k < 3) := by
  intro f b S li sh e m p k hS hh hR hp he hk hk6
  dsimp only
  unfold bX4_touch fX4_touch_b76
  obtain ⟨-, -, -, o, ho, eo⟩ := hS.2 p hp
  have e1 := gC_1 (m := m) (w := w) (a := a) he hk6
  have hSp : okS (p + 1) e m w a := ⟨by omega, fun i hi => hS.2 i (by omega)⟩
  have ea : (gC e m w a p).2.2.2 = o := by
    show (a p).toNatClampNeg = o
    rw [eo, clN (by omega)]
  rw [g_nI (show p < 6 by omega) (by omega), ck_true, nm_eq, clN (by omega), eo, g_nI ho (by omega), ck_true, nm_eq, ck_true, nm_eq, clN (by omega)]
  rcases c_touch (li := li) hSp hh (show (gC e m w a p).1 < 3 by rw [e1]; exact hk) (pls (gC e m w a) s L) with ⟨n1, n2⟩ | ⟨li', sh', n1, n2, n3⟩
  · refine ⟨f, b, ?_, hR.cong fun v => ⟨fun q => Or.inl q, fun q => ?_⟩⟩
    · rw [n2, ob_some]
      dsimp only
      rw [if_pos rfl]
    · rcases q with q | ⟨fin, q, -⟩
      · exact q
      · rw [SD_o (by omega) (by omega)] at q
        obtain ⟨t, q1, -⟩ := q
        rw [n1] at q1
        cases q1
  · obtain ⟨f', b', q1, q2⟩ := hG0 f b S li' sh' e m hS n1 hR
    have hloc := aDo_loc (show (gC e m w a p).1 < 3 by rw [e1]; exact hk) n2
    rw [ea] at hloc
    have r1 : upd li' o (li o) = li := by
      funext q
      by_cases z : q = o
      · rw [z, upd_s]
      · rw [upd_n z]
        exact i32eq.mpr (hloc q z).1
    have r2 : upd sh' o (sh o) = sh := by
      funext q
      by_cases z : q = o
      · rw [z, upd_s]
      · rw [upd_n z]
        exact i32eq.mpr (hloc q z).2
    refine ⟨f', b', ?_, q2.cong fun v => ?_⟩
    · rw [n3, ob_some]
      dsimp only
      rw [if_neg one0, q1, ob_some]
      dsimp only
      rw [ck_true, ck_true, r1, r2]
    · constructor
      · rintro (q | ⟨fin, q, rfl⟩)
        · exact Or.inl q
        · exact Or.inr ⟨fin, (SD_o (by omega) (by omega)).mpr ⟨_, n2, q⟩, rfl⟩
      · rintro (q | ⟨fin, q, rfl⟩)
        · exact Or.inl q
        · rw [SD_o (by omega) (by omega)] at q
          obtain ⟨t, q3, q4⟩ := q
          rw [n2] at q3
          cases q3
          exact Or.inr ⟨fin, q4, rfl⟩
theorem do_ok (aG : oB) (aD aS : oC) (aT : oB) (aU : oC) {P s L p d : Nat} {g : Int32} {w a : Nat → Int32} (hs : s ≤ 6) (h64 : L < 64) (hp : p < s) (hd : d ≤ 6) (hG : GOK aG P g s w a L d)
    (hS3 : XOK (fun f b li sh e m p => aS (nI P) g f b (nI s) li sh e m w a (w p) (nI L) (nI d)) P g s w a L (fun k => k = 3))
    (hS4 : XOK (fun f b li sh e m _ => aT (nI P) g f b (nI s) li sh e m w a (nI L) (nI d)) P g s w a L (fun k => k = 4))
    (hSo : XOK (fun f b li sh e m p => aU (nI P) g f b (nI s) li sh e m w a (nI p) (nI L) (nI d)) P g s w a L (fun k => k < 3)) :
    DOK (bX4_doNext aG aD aS aT aU) P g s w a L p d := by
  intro f b S li sh e m hS hh hR
  obtain ⟨⟨k, hk, ek⟩, -⟩ := hS.2 p hp
  have e1 := gC_1 (m := m) (w := w) (a := a) ek hk
  unfold bX4_doNext fX4_doNext_b103
  rw [if_pos (show nI d ≤ 6 from nle (b := 6) hd (by omega)), g_nI (show p < 6 by omega) (by omega), ck_true, ck_true, clN (by omega), ek]
  by_cases k3 : k = 3
  · obtain ⟨f', b', q1, q2⟩ := hS3 f b S li sh e m p k hS hh hR hp ek k3 hk
    dsimp only at q1
    refine ⟨f', b', ?_, q2⟩
    rw [if_pos (show nI k = 3 by rw [k3]; rfl), q1, ob_some]
  rw [if_neg (show ¬ nI k = 3 from neqI (b := 3) (by omega) (by omega) k3)]
  by_cases k4 : k = 4
  · obtain ⟨f', b', q1, q2⟩ := hS4 f b S li sh e m p k hS hh hR hp ek k4 hk
    dsimp only at q1
    refine ⟨f', b', ?_, q2⟩
    rw [if_pos (show nI k = 4 by rw [k4]; rfl), q1, ob_some]
  rw [if_neg (show ¬ nI k = 4 from neqI (b := 4) (by omega) (by omega) k4)]
  by_cases k5 : k = 5
  · rw [if_pos (show nI k = 5 by rw [k5]; rfl)]
    obtain ⟨e', t1, t2⟩ := turn_gen hs h64 s 0 70 e (by omega) (by omega)
    have hS' : okS s e' m w a := ⟨hS.1, fun i hi => by
      obtain ⟨⟨c, hc, ec⟩, z2⟩ := hS.2 i hi
      refine ⟨?_, z2⟩
      rw [t2]
      split
      · rw [ec]
        unfold flI
        by_cases c0 : nI c = 0
        · rw [if_pos c0]
          exact ⟨1, by omega, rfl⟩
        · rw [if_neg c0]
          by_cases c1 : nI c = 1
          · rw [if_pos c1]
            exact ⟨0, by omega, rfl⟩
          · rw [if_neg c1]
            exact ⟨c, hc, rfl⟩
      · exact ⟨c, hc, ec⟩⟩
    have ep : pls (gC e' m w a) s L = (pls (gC e m w a) s L).map flip1 := by
      unfold pls
      rw [List.map_map]
      apply List.map_congr_left
      intro i hi
      obtain ⟨hi1, hi2⟩ := plc_mem.mp hi
      obtain ⟨⟨c, hc, ec⟩, -⟩ := hS.2 i hi1
      show gC e' m w a i = flip1 (gC e m w a i)
      unfold gC flip1
      dsimp only
      rw [t2, if_pos ⟨⟨by omega, hi1⟩, hi2⟩, ec, clN (by omega)]
      unfold flI
      by_cases c0 : c = 0
      · subst c0
        rfl
      · rw [if_neg (show ¬ nI c = 0 from neqI (b := 0) (by omega) (by omega) c0), if_neg c0]
        by_cases c1 : c = 1
        · subst c1
          rfl
        · rw [if_neg (show ¬ nI c = 1 from neqI (b := 1) (by omega) (by omega) c1), if_neg c1, clN (by omega)]
    obtain ⟨f', b', q1, q2⟩ := hG f b S li sh e' m hS' hh hR
    obtain ⟨e2, t3, t4⟩ := turn_gen hs h64 s 0 70 e' (by omega) (by omega)
    have he2 : e2 = e := by
      funext i
      rw [t4, t2]
      split
      · rw [flI_2]
      · rfl
    rw [he2] at t3
    refine ⟨f', b', ?_, q2.cong fun v => ?_⟩
    · unfold fX6_turn
      rw [show (0 : Int32) = nI 0 from rfl, t1, ob_some, q1, ob_some]
      dsimp only
      rw [t3, ob_some]
    · unfold VS VD
      rw [ep]
      have ha : aDo (gC e m w a p) (pls (gC e m w a) s L) (lF li) (lF sh) = some ((pls (gC e m w a) s L).map flip1, lF li, lF sh) := by
        unfold aDo
        rw [e1, if_neg (by omega), if_neg (by omega), if_neg (by omega), if_neg k3, if_neg k4]
      constructor
      · rintro (q | ⟨fin, q, rfl⟩)
        · exact Or.inl q
        · exact Or.inr ⟨fin, (SD_o (by omega) (by omega)).mpr ⟨_, ha, q⟩, rfl⟩
      · rintro (q | ⟨fin, q, rfl⟩)
        · exact Or.inl q
        · rw [SD_o (by omega) (by omega)] at q
          obtain ⟨t, q3, q4⟩ := q
          rw [ha] at q3
          cases q3
          exact Or.inr ⟨fin, q4, rfl⟩
  · rw [if_neg (show ¬ nI k = 5 from neqI (b := 5) (by omega) (by omega) k5)]
    obtain ⟨f', b', q1, q2⟩ := hSo f b S li sh e m p k hS hh hR hp ek (show k < 3 by omega) hk
    dsimp only at q1
    refine ⟨f', b', ?_, q2⟩
    rw [q1, ob_some]
theorem ord_ok {P s : Nat} {g : Int32} {w a : Nat → Int32} (hP : P < 6) (hs : s ≤ 6) : ∀ n : Nat, (∀ L d dep, L < 1 <<< s → (plc s L).length = n → d + n ≤ 6 → 3 * n + 1 ≤ dep → GOK (fOrd dep).1 P g s w a L d) ∧ (∀ L p d dep, p < s → L < 1 <<< s → (plc s L).length = n → d + n ≤ 6 → 3 * n + 3 ≤ dep → DOK (fOrd dep).2.1 P g s w a L p d) := by
  have h64' : ∀ s, s ≤ 6 → 1 <<< s ≤ 64 := by decide
  have h64 : ∀ L, L < 1 <<< s → L < 64 := fun L h => Nat.lt_of_lt_of_le h (h64' s hs)
  have hcut : ∀ L p, L < 1 <<< s → cut L p < 1 <<< s := fun L p h => Nat.lt_of_le_of_lt (Nat.and_le_left) h
  intro n
  induction n using Nat.strongRecOn with
  | ind n ih =>
    have hG : ∀ L d dep, L < 1 <<< s → (plc s L).length = n → d + n ≤ 6 → 3 * n + 1 ≤ dep → GOK (fOrd dep).1 P g s w a L d := by
      intro L d dep hL hn hd hdep
      obtain ⟨k, rfl⟩ : ∃ k, dep = k + 1 := ⟨dep - 1, by omega⟩
      refine goOn_ok _ _ _ _ _ hP hs hL (h64 L hL) fun p hp hb => ?_
      have hc := plc_cut_len hs (h64 L hL) hp hb
      exact (ih (n - 1) (by omega)).2 (cut L p) p (d + 1) k hp (hcut L p hL) (by omega) (by omega) (by omega)
    refine ⟨hG, fun L p d dep hp hL hn hd hdep => ?_⟩
    obtain ⟨k, rfl⟩ : ∃ k, dep = k + 2 := ⟨dep - 2, by omega⟩
    refine do_ok _ _ _ _ _ hs (h64 L hL) hp (by omega) (hG L d (k + 1) hL hn hd (by omega)) ?_ ?_ ?_
    · refine stop_ok _ _ _ _ _ hs (h64 L hL) (fun q hq hb => ?_) (hG L d k hL hn hd (by omega))
      have hc := plc_cut_len hs (h64 L hL) hq hb
      exact (ih (n - 1) (by omega)).1 (cut L q) d k (hcut L q hL) (by omega) (by omega) (by omega)
    · refine dbl_ok _ _ _ _ _ hs hL (h64 L hL) (hG L d k hL hn hd (by omega)) (fun q hq hb => ?_)
      have hc := plc_cut_len hs (h64 L hL) hq hb
      exact (ih (n - 1) (by omega)).2 (cut L q) q (d + 1) k hq (hcut L q hL) (by omega) (by omega) (by omega)
    · exact touch_ok _ _ _ _ _ hs (hG L d k hL hn hd (by omega))
