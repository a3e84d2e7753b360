/-! printed by alike25.py: areAlike -/
abbrev rmL_areAlike : Room := { frames := 53, cells := 200, slots := 1200, locals := 1032 }
theorem lg_cmp0 (v : Int64) : lg_cmp v v = 0 := by
  unfold lg_cmp
  rw [if_neg (by intro h; exact absurd (Int64.lt_iff_toInt_lt.mp h) (Int.lt_irrefl _)), if_pos rfl]
theorem nx_offered (a : AT) (p1 : Int32) : nx a (rOffered a p1) = a := by
  unfold rOffered
  generalize (fX9_offered 0 (a.1 3) (a.1 5) (a.1 6) (a.2 14) (a.2 15) p1) = o
  rcases o with _ | ⟨r, t⟩
  · rfl
  · dsimp only
    by_cases h : t = 0
    · rw [if_pos h]
      rfl
    · rw [if_neg h]
      rfl
theorem c_offered (l : Launch) (hlt : l.stackTraces = false) (dC : Nat → ClassId) (dI : Nat → Nat → Nat) (cI cJ cZ cG : ClassId) (ad : Nat → Nat) (rw : Nat → Nat → Nat) (q : Nat) (a : AT) (sz : Nat) (p1 : Int32) : Met l yL_offered wsL_offered rmL_offered (HPc [.ref (ad 0), .int p1] (dC, dI) cI cJ cZ cG sz ad rw q a) (HQl (tl (rOffered a p1)) a (dC, dI) cI cJ cZ cG (HA cI cJ cZ cG ad rw sz) ad rw q) 1 6 (HA cI cJ cZ cG ad rw sz) := by
  have h := b_offered l hlt dC dI cI cJ cZ cG ad rw q a sz p1 
  rw [nx_offered] at h
  exact h
theorem nx_pair (a : AT) (p1 p2 : Int32) : nx a (rPair a p1 p2) = a := by
  unfold rPair
  generalize (fX9_pair 0 0 (a.2 6) (a.2 7) (fun _ => (0 : Int32)) p1 p2) = o
  rcases o with _ | ⟨r, t, x, y⟩
  · rfl
  · dsimp only
    by_cases h : t = 0
    · rw [if_pos h]
      rfl
    · rw [if_neg h]
      rfl
theorem c_pair (l : Launch) (hlt : l.stackTraces = false) (dC : Nat → ClassId) (dI : Nat → Nat → Nat) (cI cJ cZ cG : ClassId) (ad : Nat → Nat) (rw : Nat → Nat → Nat) (q : Nat) (a : AT) (sz : Nat) (p1 p2 : Int32) : Met l yL_pair wsL_pair rmL_pair (HPc [.ref (ad 0), .int p1, .int p2] (dC, dI) cI cJ cZ cG sz ad rw q a) (HQl (tl (rPair a p1 p2)) a (dC, dI) cI cJ cZ cG (HA cI cJ cZ cG ad rw sz) ad rw q) 2 12 (HA cI cJ cZ cG ad rw sz) := by
  have h := b_pair l hlt dC dI cI cJ cZ cG ad rw q a sz p1 p2 
  rw [nx_pair] at h
  exact h
theorem nx_life (a : AT) (p1 p2 : Int32) : nx a (rLife a p1 p2) = a := by
  unfold rLife
  generalize (fX9_life 0 (a.2 4) (a.2 5) p1 p2) = o
  rcases o with _ | ⟨r, t⟩
  · rfl
  · dsimp only
    by_cases h : t = 0
    · rw [if_pos h]
      rfl
    · rw [if_neg h]
      rfl
theorem c_life (l : Launch) (hlt : l.stackTraces = false) (dC : Nat → ClassId) (dI : Nat → Nat → Nat) (cI cJ cZ cG : ClassId) (ad : Nat → Nat) (rw : Nat → Nat → Nat) (q : Nat) (a : AT) (sz : Nat) (p1 p2 : Int32) (hz_p2 : wB p2) : Met l yL_life wsL_life rmL_life (HPc [.ref (ad 0), .int p1, .int p2] (dC, dI) cI cJ cZ cG sz ad rw q a) (HQl (tl (rLife a p1 p2)) a (dC, dI) cI cJ cZ cG (HA cI cJ cZ cG ad rw sz) ad rw q) 1 6 (HA cI cJ cZ cG ad rw sz) := by
  have h := b_life l hlt dC dI cI cJ cZ cG ad rw q a sz p1 p2 hz_p2
  rw [nx_life] at h
  exact h
theorem nx_strength (a : AT) (p1 : Int32) : nx a (rStrength a p1) = a := by
  unfold rStrength
  generalize (fX9_strength 0 (a.2 6) p1) = o
  rcases o with _ | ⟨r, t⟩
  · rfl
  · dsimp only
    by_cases h : t = 0
    · rw [if_pos h]
      rfl
    · rw [if_neg h]
      rfl
theorem c_strength (l : Launch) (hlt : l.stackTraces = false) (dC : Nat → ClassId) (dI : Nat → Nat → Nat) (cI cJ cZ cG : ClassId) (ad : Nat → Nat) (rw : Nat → Nat → Nat) (q : Nat) (a : AT) (sz : Nat) (p1 : Int32) : Met l yL_strength wsL_strength rmL_strength (HPc [.ref (ad 0), .int p1] (dC, dI) cI cJ cZ cG sz ad rw q a) (HQl (tl (rStrength a p1)) a (dC, dI) cI cJ cZ cG (HA cI cJ cZ cG ad rw sz) ad rw q) 1 6 (HA cI cJ cZ cG ad rw sz) := by
  have h := b_strength l hlt dC dI cI cJ cZ cG ad rw q a sz p1 
  rw [nx_strength] at h
  exact h
theorem nx_has (a : AT) (p1 p2 : Int32) : nx a (rHas a p1 p2) = a := by
  unfold rHas
  generalize (fX9_has 0 (a.1 0) (a.2 3) p1 p2) = o
  rcases o with _ | ⟨r, t⟩
  · rfl
  · dsimp only
    by_cases h : t = 0
    · rw [if_pos h]
      rfl
    · rw [if_neg h]
      rfl
theorem c_has (l : Launch) (hlt : l.stackTraces = false) (dC : Nat → ClassId) (dI : Nat → Nat → Nat) (cI cJ cZ cG : ClassId) (ad : Nat → Nat) (rw : Nat → Nat → Nat) (q : Nat) (a : AT) (sz : Nat) (p1 p2 : Int32) : Met l yL_has wsL_has rmL_has (HPc [.ref (ad 0), .int p1, .int p2] (dC, dI) cI cJ cZ cG sz ad rw q a) (HQl (tl (rHas a p1 p2)) a (dC, dI) cI cJ cZ cG (HA cI cJ cZ cG ad rw sz) ad rw q) 2 12 (HA cI cJ cZ cG ad rw sz) := by
  have h := b_has l hlt dC dI cI cJ cZ cG ad rw q a sz p1 p2 
  rw [nx_has] at h
  exact h
set_option maxHeartbeats 4000000 in
set_option maxRecDepth 100000 in
theorem al_loop {p : Program} {l : Launch} {e : Env} {s : State} {m : MethodId} {args : Array Value} {below : List Frame} {meth : Method} {c : Code} {dC : Nat → ClassId} {dI : Nat → Nat → Nat} {cI cJ cZ cG : ClassId} {A : Nat → Prop} {ad : Nat → Nat} {rw : Nat → Nat → Nat} {q : Nat} {ad2 : Nat → Nat} {rw2 : Nat → Nat → Nat} {q2 : Nat} {a : AT} {v : Int32} (hx : p.tables.exec = Jvm.exec) (hb : c.code = cL_areAlike) (hr : meth.sig.returnType = some .boolean) (hml : c.maxLocals = 5) (hown : s.vm.findClass RL = some m.cls) (hts : ∀ w ∈ wsL_areAlike, w.before args s = true) (hlocks : meth.locks = false) (hlt : l.stackTraces = false) (hK : va_K (dC, dI) vwCl (tysW cI cJ cZ cG) s) (hT : wThr A s) (hN : wNcs s) (hA : ∀ x : Nat, s.heap.size ≤ x → A x) (hq : q ≤ 512) : ∀ (r k : Nat) (H : Heap) (locs : List Loc) (ls : Array Slot) (cells slots : Nat), k + r = 6 → cells ≤ 20 + 12 * k → slots ≤ 120 + 72 * k → HW2 (dC, dI) cI cJ cZ cG A ad rw q a ad2 rw2 q2 a H → va_S A s.heap H locs → lv_has ls 5 [(4, .int (nI k)), (3, .int 1), (0, .ref (ad 0)), (1, .ref (ad2 0)), (2, .int v)] → W p l e rmL_areAlike s m args below meth c H locs cells slots (MQ below (va_Qi (fun (r : Int32) (_ : Unit) => r = 1) (fun _ t => HW2 (dC, dI) cI cJ cZ cG A ad rw q a ad2 rw2 q2 a t.heap) A) args s 200 1200 A) (F0 m 70 ls []) := by
  intro r
  induction r with
  | zero =>
    intro k H locs ls cells slots hk hc1 hc2 hG hS hl
    have hk6 : k = 6 := by omega
    subst hk6
    refine lv_iload hx hb dL_areAlike_70 (lv_at hl 0 rfl) ?_
    refine lv_bipush (v := 6) hx hb dL_areAlike_72 (by decide) ?_
    refine lv_icmp_ge (tgt := 191) hx hb dL_areAlike_74 (by decide) (fun c_74 => ?_) (fun c_74 => absurd (by decide) c_74)
    refine lv_iload_n hx hb dL_areAlike_191 rfl (lv_at hl 1 rfl) ?_
    refine W.widen (k := 200) (n := 1200) (by omega) (by omega) ?_
    exact W.zret (v := 1) hx hb hr rfl (fun t ht hW => ⟨⟨1, (), rfl, rfl, by have h9 := hG; rw [← ht] at h9; exact h9⟩, hS.F ht⟩) hS.2.2 dL_areAlike_192 hlocks
  | succ r ih =>
    intro k H locs ls cells slots hk hc1 hc2 hG hS hl
    have hk6 : k < 6 := by omega
    refine lv_iload hx hb dL_areAlike_70 (lv_at hl 0 rfl) ?_
    refine lv_bipush (v := 6) hx hb dL_areAlike_72 (by decide) ?_
    refine lv_icmp_ge (tgt := 191) hx hb dL_areAlike_74 (by decide) (fun c_74 => absurd c_74 (nnle (a := 6) hk6 (by omega))) (fun c_74 => ?_)
    refine lv_iload_n hx hb dL_areAlike_77 rfl (lv_at hl 1 rfl) ?_
    refine lv_if_eq (tgt := 191) hx hb dL_areAlike_78 (by decide) (fun c_78 => absurd c_78 (by decide)) (fun c_78 => ?_)
    refine lv_aload_n hx hb dL_areAlike_81 rfl (lv_at hl 2 rfl) ?_
    refine lv_iload hx hb dL_areAlike_82 (lv_at hl 0 rfl) ?_
    refine lv_iconst (v := 0) hx hb dL_areAlike_84 (by decide) ?_
    refine h_callL (ad := ad) (rw := rw) (As := [.ref (ad 0), .int (nI k), .int 0]) (rest := []) ⟨hx, hb, hml, hown, hts⟩ (c_life l hlt dC dI cI cJ cZ cG ad rw q a H.size (nI k) 0 (Or.inl rfl)) (vx_cwSW 3 hts gL_areAlike_L_life rfl rfl rfl (by decide +kernel) ⟨Nat.le_of_ble_eq_true rfl, Nat.le_of_ble_eq_true rfl⟩) hK Foc.fst hG hS hA hT hN rfl hl.1 rfl (Nat.le_of_ble_eq_true rfl) dL_areAlike_85 ⟨by show cells + 1 ≤ 200; omega, by show slots + 6 ≤ 1200; omega⟩ (fun H locs hG hS => ?_)
    replace hG : HW2 (dC, dI) cI cJ cZ cG A ad rw q a ad2 rw2 q2 a H := hG
    refine lv_aload_n hx hb dL_areAlike_88 rfl (lv_at hl 3 rfl) ?_
    refine lv_iload hx hb dL_areAlike_89 (lv_at hl 0 rfl) ?_
    refine lv_iconst (v := 0) hx hb dL_areAlike_91 (by decide) ?_
    refine h_callL (ad := ad2) (rw := rw2) (As := [.ref (ad2 0), .int (nI k), .int 0]) (rest := [.long (tl (rLife a (nI k) 0))]) ⟨hx, hb, hml, hown, hts⟩ (c_life l hlt dC dI cI cJ cZ cG ad2 rw2 q2 a H.size (nI k) 0 (Or.inl rfl)) (vx_cwSW 3 hts gL_areAlike_L_life rfl rfl rfl (by decide +kernel) ⟨Nat.le_of_ble_eq_true rfl, Nat.le_of_ble_eq_true rfl⟩) hK Foc.snd hG hS hA hT hN rfl hl.1 rfl (Nat.le_of_ble_eq_true rfl) dL_areAlike_92 ⟨by show cells + 1 + 1 ≤ 200; omega, by show slots + 6 + 6 ≤ 1200; omega⟩ (fun H locs hG hS => ?_)
    replace hG : HW2 (dC, dI) cI cJ cZ cG A ad rw q a ad2 rw2 q2 a H := hG
    refine W.lcmp hx hb dL_areAlike_95 ?_
    refine lv_if_ne (tgt := 183) hx hb dL_areAlike_96 (by decide) (fun c_96 => absurd (lg_cmp0 _) c_96) (fun c_96 => ?_)
    refine lv_aload_n hx hb dL_areAlike_99 rfl (lv_at hl 2 rfl) ?_
    refine lv_iload hx hb dL_areAlike_100 (lv_at hl 0 rfl) ?_
    refine lv_iconst (v := 1) hx hb dL_areAlike_102 (by decide) ?_
    refine h_callL (ad := ad) (rw := rw) (As := [.ref (ad 0), .int (nI k), .int 1]) (rest := []) ⟨hx, hb, hml, hown, hts⟩ (c_life l hlt dC dI cI cJ cZ cG ad rw q a H.size (nI k) 1 (Or.inr rfl)) (vx_cwSW 3 hts gL_areAlike_L_life rfl rfl rfl (by decide +kernel) ⟨Nat.le_of_ble_eq_true rfl, Nat.le_of_ble_eq_true rfl⟩) hK Foc.fst hG hS hA hT hN rfl hl.1 rfl (Nat.le_of_ble_eq_true rfl) dL_areAlike_103 ⟨by show cells + 1 + 1 + 1 ≤ 200; omega, by show slots + 6 + 6 + 6 ≤ 1200; omega⟩ (fun H locs hG hS => ?_)
    replace hG : HW2 (dC, dI) cI cJ cZ cG A ad rw q a ad2 rw2 q2 a H := hG
    refine lv_aload_n hx hb dL_areAlike_106 rfl (lv_at hl 3 rfl) ?_
    refine lv_iload hx hb dL_areAlike_107 (lv_at hl 0 rfl) ?_
    refine lv_iconst (v := 1) hx hb dL_areAlike_109 (by decide) ?_
    refine h_callL (ad := ad2) (rw := rw2) (As := [.ref (ad2 0), .int (nI k), .int 1]) (rest := [.long (tl (rLife a (nI k) 1))]) ⟨hx, hb, hml, hown, hts⟩ (c_life l hlt dC dI cI cJ cZ cG ad2 rw2 q2 a H.size (nI k) 1 (Or.inr rfl)) (vx_cwSW 3 hts gL_areAlike_L_life rfl rfl rfl (by decide +kernel) ⟨Nat.le_of_ble_eq_true rfl, Nat.le_of_ble_eq_true rfl⟩) hK Foc.snd hG hS hA hT hN rfl hl.1 rfl (Nat.le_of_ble_eq_true rfl) dL_areAlike_110 ⟨by show cells + 1 + 1 + 1 + 1 ≤ 200; omega, by show slots + 6 + 6 + 6 + 6 ≤ 1200; omega⟩ (fun H locs hG hS => ?_)
    replace hG : HW2 (dC, dI) cI cJ cZ cG A ad rw q a ad2 rw2 q2 a H := hG
    refine W.lcmp hx hb dL_areAlike_113 ?_
    refine lv_if_ne (tgt := 183) hx hb dL_areAlike_114 (by decide) (fun c_114 => absurd (lg_cmp0 _) c_114) (fun c_114 => ?_)
    refine lv_aload_n hx hb dL_areAlike_117 rfl (lv_at hl 2 rfl) ?_
    refine lv_iload hx hb dL_areAlike_118 (lv_at hl 0 rfl) ?_
    refine h_callL (ad := ad) (rw := rw) (As := [.ref (ad 0), .int (nI k)]) (rest := []) ⟨hx, hb, hml, hown, hts⟩ (c_strength l hlt dC dI cI cJ cZ cG ad rw q a H.size (nI k)) (vx_cwSW 2 hts gL_areAlike_L_strength rfl rfl rfl (by decide +kernel) ⟨Nat.le_of_ble_eq_true rfl, Nat.le_of_ble_eq_true rfl⟩) hK Foc.fst hG hS hA hT hN rfl hl.1 rfl (Nat.le_of_ble_eq_true rfl) dL_areAlike_120 ⟨by show cells + 1 + 1 + 1 + 1 + 1 ≤ 200; omega, by show slots + 6 + 6 + 6 + 6 + 6 ≤ 1200; omega⟩ (fun H locs hG hS => ?_)
    replace hG : HW2 (dC, dI) cI cJ cZ cG A ad rw q a ad2 rw2 q2 a H := hG
    refine lv_aload_n hx hb dL_areAlike_123 rfl (lv_at hl 3 rfl) ?_
    refine lv_iload hx hb dL_areAlike_124 (lv_at hl 0 rfl) ?_
    refine h_callL (ad := ad2) (rw := rw2) (As := [.ref (ad2 0), .int (nI k)]) (rest := [.long (tl (rStrength a (nI k)))]) ⟨hx, hb, hml, hown, hts⟩ (c_strength l hlt dC dI cI cJ cZ cG ad2 rw2 q2 a H.size (nI k)) (vx_cwSW 2 hts gL_areAlike_L_strength rfl rfl rfl (by decide +kernel) ⟨Nat.le_of_ble_eq_true rfl, Nat.le_of_ble_eq_true rfl⟩) hK Foc.snd hG hS hA hT hN rfl hl.1 rfl (Nat.le_of_ble_eq_true rfl) dL_areAlike_126 ⟨by show cells + 1 + 1 + 1 + 1 + 1 + 1 ≤ 200; omega, by show slots + 6 + 6 + 6 + 6 + 6 + 6 ≤ 1200; omega⟩ (fun H locs hG hS => ?_)
    replace hG : HW2 (dC, dI) cI cJ cZ cG A ad rw q a ad2 rw2 q2 a H := hG
    refine W.lcmp hx hb dL_areAlike_129 ?_
    refine lv_if_ne (tgt := 183) hx hb dL_areAlike_130 (by decide) (fun c_130 => absurd (lg_cmp0 _) c_130) (fun c_130 => ?_)
    refine lv_aload_n hx hb dL_areAlike_133 rfl (lv_at hl 2 rfl) ?_
    refine lv_iload hx hb dL_areAlike_134 (lv_at hl 0 rfl) ?_
    refine lv_iload_n hx hb dL_areAlike_136 rfl (lv_at hl 4 rfl) ?_
    refine lv_iconst (v := 3) hx hb dL_areAlike_137 (by decide) ?_
    refine lv_ishr hx hb dL_areAlike_138 ?_
    refine lv_iconst (v := 5) hx hb dL_areAlike_139 (by decide) ?_
    refine h_callP (As := [.int (v >>> ((3 : Int32) &&& 31)), .int 5]) (rest := [.int (nI k), .ref (ad 0)]) ⟨hx, hb, hml, hown, hts⟩ (oL_low l dC dI cI cJ cZ cG H.size (v >>> ((3 : Int32) &&& 31)) 5 _ (low_ok (v >>> ((3 : Int32) &&& 31)) 5 (by decide))) (va_cwS 2 hts gL_areAlike_L_low rfl rfl rfl (by decide +kernel) ⟨Nat.le_of_ble_eq_true rfl, Nat.le_of_ble_eq_true rfl⟩) hK hS hA rfl hl.1 rfl (Nat.le_of_ble_eq_true rfl) dL_areAlike_140 ⟨by show cells + 1 + 1 + 1 + 1 + 1 + 1 ≤ 200; omega, by show slots + 6 + 6 + 6 + 6 + 6 + 6 ≤ 1200; omega⟩ (fun H locs hz9 hk9 hS => ?_)
    replace hG := h_keep2 hG hk9
    refine h_callL (ad := ad) (rw := rw) (As := [.ref (ad 0), .int (nI k), .int (lw (v >>> ((3 : Int32) &&& 31)) 5)]) (rest := []) ⟨hx, hb, hml, hown, hts⟩ (c_has l hlt dC dI cI cJ cZ cG ad rw q a H.size (nI k) (lw (v >>> ((3 : Int32) &&& 31)) 5)) (vx_cwSW 3 hts gL_areAlike_L_has rfl rfl rfl (by decide +kernel) ⟨Nat.le_of_ble_eq_true rfl, Nat.le_of_ble_eq_true rfl⟩) hK Foc.fst hG hS hA hT hN rfl hl.1 rfl (Nat.le_of_ble_eq_true rfl) dL_areAlike_143 ⟨by show cells + 1 + 1 + 1 + 1 + 1 + 1 + 2 ≤ 200; omega, by show slots + 6 + 6 + 6 + 6 + 6 + 6 + 12 ≤ 1200; omega⟩ (fun H locs hG hS => ?_)
    replace hG : HW2 (dC, dI) cI cJ cZ cG A ad rw q a ad2 rw2 q2 a H := hG
    refine lv_aload_n hx hb dL_areAlike_146 rfl (lv_at hl 3 rfl) ?_
    refine lv_iload hx hb dL_areAlike_147 (lv_at hl 0 rfl) ?_
    refine lv_iload_n hx hb dL_areAlike_149 rfl (lv_at hl 4 rfl) ?_
    refine lv_iconst (v := 3) hx hb dL_areAlike_150 (by decide) ?_
    refine lv_ishr hx hb dL_areAlike_151 ?_
    refine lv_iconst (v := 5) hx hb dL_areAlike_152 (by decide) ?_
    refine h_callP (As := [.int (v >>> ((3 : Int32) &&& 31)), .int 5]) (rest := [.int (nI k), .ref (ad2 0), .long (tl (rHas a (nI k) (lw (v >>> ((3 : Int32) &&& 31)) 5)))]) ⟨hx, hb, hml, hown, hts⟩ (oL_low l dC dI cI cJ cZ cG H.size (v >>> ((3 : Int32) &&& 31)) 5 _ (low_ok (v >>> ((3 : Int32) &&& 31)) 5 (by decide))) (va_cwS 2 hts gL_areAlike_L_low rfl rfl rfl (by decide +kernel) ⟨Nat.le_of_ble_eq_true rfl, Nat.le_of_ble_eq_true rfl⟩) hK hS hA rfl hl.1 rfl (Nat.le_of_ble_eq_true rfl) dL_areAlike_153 ⟨by show cells + 1 + 1 + 1 + 1 + 1 + 1 + 2 ≤ 200; omega, by show slots + 6 + 6 + 6 + 6 + 6 + 6 + 12 ≤ 1200; omega⟩ (fun H locs hz9 hk9 hS => ?_)
    replace hG := h_keep2 hG hk9
    refine h_callL (ad := ad2) (rw := rw2) (As := [.ref (ad2 0), .int (nI k), .int (lw (v >>> ((3 : Int32) &&& 31)) 5)]) (rest := [.long (tl (rHas a (nI k) (lw (v >>> ((3 : Int32) &&& 31)) 5)))]) ⟨hx, hb, hml, hown, hts⟩ (c_has l hlt dC dI cI cJ cZ cG ad2 rw2 q2 a H.size (nI k) (lw (v >>> ((3 : Int32) &&& 31)) 5)) (vx_cwSW 3 hts gL_areAlike_L_has rfl rfl rfl (by decide +kernel) ⟨Nat.le_of_ble_eq_true rfl, Nat.le_of_ble_eq_true rfl⟩) hK Foc.snd hG hS hA hT hN rfl hl.1 rfl (Nat.le_of_ble_eq_true rfl) dL_areAlike_156 ⟨by show cells + 1 + 1 + 1 + 1 + 1 + 1 + 2 + 2 ≤ 200; omega, by show slots + 6 + 6 + 6 + 6 + 6 + 6 + 12 + 12 ≤ 1200; omega⟩ (fun H locs hG hS => ?_)
    replace hG : HW2 (dC, dI) cI cJ cZ cG A ad rw q a ad2 rw2 q2 a H := hG
    refine W.lcmp hx hb dL_areAlike_159 ?_
    refine lv_if_ne (tgt := 183) hx hb dL_areAlike_160 (by decide) (fun c_160 => absurd (lg_cmp0 _) c_160) (fun c_160 => ?_)
    refine lv_aload_n hx hb dL_areAlike_163 rfl (lv_at hl 2 rfl) ?_
    refine lv_iload hx hb dL_areAlike_164 (lv_at hl 0 rfl) ?_
    refine h_callXo (ad := ad) (rw := rw) (As := [.int (nI k)]) (rest := []) ⟨hx, hb, hml, hown, hts⟩ (a_lifeAnew l hlt dC dI cI cJ cZ cG ad rw q a hq H.size (nI k) ) (f_lifeAnew a hk6) (cwV 1 hts gL_areAlike_X8_lifeAnew rfl rfl rfl (by decide +kernel) ⟨Nat.le_of_ble_eq_true rfl, Nat.le_of_ble_eq_true rfl⟩) hK Foc.fst hG hS hA hT rfl hl.1 rfl (Nat.le_of_ble_eq_true rfl) dL_areAlike_166 ⟨by show cells + 1 + 1 + 1 + 1 + 1 + 1 + 2 + 2 + 1 ≤ 200; omega, by show slots + 6 + 6 + 6 + 6 + 6 + 6 + 12 + 12 + 6 ≤ 1200; omega⟩ (fun H locs hG hS => ?_)
    replace hG : HW2 (dC, dI) cI cJ cZ cG A ad rw q a ad2 rw2 q2 a H := hG
    refine lv_aload_n hx hb dL_areAlike_169 rfl (lv_at hl 2 rfl) ?_
    refine lv_iload hx hb dL_areAlike_170 (lv_at hl 0 rfl) ?_
    refine lv_iconst (v := 0) hx hb dL_areAlike_172 (by decide) ?_
    refine h_callXo (ad := ad) (rw := rw) (As := [.int (nI k), .int 0]) (rest := [.int (a.2 4 k)]) ⟨hx, hb, hml, hown, hts⟩ (a_life l hlt dC dI cI cJ cZ cG ad rw q a H.size (nI k) 0 (Or.inl rfl)) (f_life a hk6 0) (cwV 2 hts gL_areAlike_X8_life rfl rfl rfl (by decide +kernel) ⟨Nat.le_of_ble_eq_true rfl, Nat.le_of_ble_eq_true rfl⟩) hK Foc.fst hG hS hA hT rfl hl.1 rfl (Nat.le_of_ble_eq_true rfl) dL_areAlike_173 ⟨by show cells + 1 + 1 + 1 + 1 + 1 + 1 + 2 + 2 + 1 + 1 ≤ 200; omega, by show slots + 6 + 6 + 6 + 6 + 6 + 6 + 12 + 12 + 6 + 6 ≤ 1200; omega⟩ (fun H locs hG hS => ?_)
    replace hG : HW2 (dC, dI) cI cJ cZ cG A ad rw q a ad2 rw2 q2 a H := hG
    refine lv_icmp_ne (tgt := 183) hx hb dL_areAlike_176 (by decide) (fun c_176 => absurd (by rw [if_pos rfl]) c_176) (fun c_176 => ?_)
    refine lv_iconst (v := 1) hx hb dL_areAlike_179 (by decide) ?_
    refine lv_goto (tgt := 184) hx hb dL_areAlike_180 (by decide) ?_
    refine lv_istore_n (lv' := [(3, .int 1), (4, .int (nI k)), (0, .ref (ad 0)), (1, .ref (ad2 0)), (2, .int v)]) hx hb dL_areAlike_184 rfl hl (by decide) rfl (fun ls hl => ?_)
    refine lv_iinc (v := nI (k + 1)) (lv' := [(4, .int (nI (k + 1))), (3, .int 1), (0, .ref (ad 0)), (1, .ref (ad2 0)), (2, .int v)]) hx hb dL_areAlike_185 hl (k := 1) rfl (by rw [← nI_1]; rfl) (by decide) rfl (fun ls hl => ?_)
    refine lv_goto (tgt := 70) hx hb dL_areAlike_188 (by decide) ?_
    exact ih (k + 1) H locs ls _ _ (by omega) (by omega) (by omega) hG hS hl
def H2Pc (av : List Value) (D : va_G) (cI cJ cZ cG : ClassId) (sz : Nat) (ad : Nat → Nat) (rw : Nat → Nat → Nat) (q : Nat) (ad2 : Nat → Nat) (rw2 : Nat → Nat → Nat) (q2 : Nat) (a : AT) : Array Value → State → Prop := va_Pc av (fun U => U.heap.size = sz ∧ HW2 D cI cJ cZ cG (fun _ => True) ad rw q a ad2 rw2 q2 a U.heap ∧ va_K D vwCl (tysW cI cJ cZ cG) U ∧ wThr (fun x => HA cI cJ cZ cG ad rw sz x ∨ HA cI cJ cZ cG ad2 rw2 sz x) U ∧ wNcs U)
theorem H2Pc_blind {av : List Value} {D : va_G} {cI cJ cZ cG : ClassId} {sz : Nat} {ad : Nat → Nat} {rw : Nat → Nat → Nat} {q : Nat} {ad2 : Nat → Nat} {rw2 : Nat → Nat → Nat} {q2 : Nat} {a : AT} : FrameBlind (H2Pc av D cI cJ cZ cG sz ad rw q ad2 rw2 q2 a) := fun b U g mk h => by
  obtain ⟨q0, q1, qP, qK, qT, qN⟩ := h
  exact ⟨q0, q1, qP, va_K.moved (u := U) (U := U.calling g mk b) (Vm.Alike.refl U.vm) qK, qT.calling g mk b, wNcs.moved (u := U) (U := U.calling g mk b) (Vm.Alike.refl U.vm) qN⟩
set_option maxHeartbeats 4000000 in
set_option maxRecDepth 100000 in
theorem b_areAlike (l : Launch) (hlt : l.stackTraces = false) (dC : Nat → ClassId) (dI : Nat → Nat → Nat) (cI cJ cZ cG : ClassId) (ad : Nat → Nat) (rw : Nat → Nat → Nat) (q : Nat) (ad2 : Nat → Nat) (rw2 : Nat → Nat → Nat) (q2 : Nat) (a : AT) (hq : q ≤ 512) (sz : Nat) (v : Int32) : Met l yL_areAlike wsL_areAlike rmL_areAlike (H2Pc [.ref (ad 0), .ref (ad2 0), .int v] (dC, dI) cI cJ cZ cG sz ad rw q ad2 rw2 q2 a) (va_Qi (fun (r : Int32) (_ : Unit) => r = 1) (fun _ t => HW2 (dC, dI) cI cJ cZ cG (fun x => HA cI cJ cZ cG ad rw sz x ∨ HA cI cJ cZ cG ad2 rw2 sz x) ad rw q a ad2 rw2 q2 a t.heap) (fun x => HA cI cJ cZ cG ad rw sz x ∨ HA cI cJ cZ cG ad2 rw2 sz x)) 200 1200 (fun x => HA cI cJ cZ cG ad rw sz x ∨ HA cI cJ cZ cG ad2 rw2 sz x) := by
  refine Met.ofW (cc := cL_areAlike) (maxL := 5) (ret := (some .boolean)) (by decide) rfl ?_
  intro p e s m args below meth c s₁ B hml hv
  obtain ⟨rfl, hsz, hG0, hK, hT, hN⟩ := hv
  have hx := B.exec
  have hb := B.bytes
  have hr := B.returns
  have hts := atoms_spec (ws := wsL_areAlike) B.pre
  have hown : s.vm.findClass RL = some m.cls := findClass_of_methodNamed B.named
  have hlocks := B.notSynchronized
  subst hsz
  have hG := hG0.self (sz := s.heap.size)
  have hA : ∀ x, s.heap.size ≤ x → (fun x => HA cI cJ cZ cG ad rw s.heap.size x ∨ HA cI cJ cZ cG ad2 rw2 s.heap.size x) x := fun x h => Or.inl (HA_hi x h)
  have hS : va_S (fun x => HA cI cJ cZ cG ad rw s.heap.size x ∨ HA cI cJ cZ cG ad2 rw2 s.heap.size x) s.heap s.heap [] := va_S.rf
  generalize hAe : (fun x => HA cI cJ cZ cG ad rw s.heap.size x ∨ HA cI cJ cZ cG ad2 rw2 s.heap.size x) = A at hG hT hA hS ⊢
  have hl := lv_entry ([.ref (ad 0), .ref (ad2 0), .int v]) (n := 5) (Nat.le_of_ble_eq_true rfl)
  rw [lg_entry_eq]
  generalize (lg_sl ([.ref (ad 0), .ref (ad2 0), .int v]) ++ List.replicate (5 - (lg_sl ([.ref (ad 0), .ref (ad2 0), .int v])).length) Slot.unset).toArray = ls at hl ⊢
  have hl : lv_has ls 5 [(0, .ref (ad 0)), (1, .ref (ad2 0)), (2, .int v)] := hl
  generalize hH : s.heap = H at hG ⊢
  replace hS : va_S A s.heap H [] := by rw [← hH]; exact hS
  generalize ([] : List Loc) = locs at hS ⊢
  show W p l e rmL_areAlike s m #[.ref (ad 0), .ref (ad2 0), .int v] below meth c H locs 0 0 (MQ below (va_Qi (fun (r : Int32) (_ : Unit) => r = 1) (fun _ t => HW2 (dC, dI) cI cJ cZ cG A ad rw q a ad2 rw2 q2 a t.heap) A) #[.ref (ad 0), .ref (ad2 0), .int v] s 200 1200 A) (F0 m 0 ls [])
  refine lv_aload_n hx hb dL_areAlike_0 rfl (lv_at hl 0 rfl) ?_
  refine h_callMi (ad := ad) (rw := rw) (As := []) (rest := []) ⟨hx, hb, hml, hown, hts⟩ (a_stacked l dC dI cI cJ cZ cG ad rw q a H.size) (cwV 0 hts gL_areAlike_X8_stacked rfl rfl rfl (by decide +kernel) ⟨Nat.le_of_ble_eq_true rfl, Nat.le_of_ble_eq_true rfl⟩) hK Foc.fst hG hS hA hT rfl hl.1 rfl (Nat.le_of_ble_eq_true rfl) dL_areAlike_1 ⟨by show 0 + 0 ≤ 200; omega, by show 0 + 0 ≤ 1200; omega⟩ (fun r9 a9 H locs hr9 hG hS => ?_)
  cases ((rfl : rStacked a = some (a.1 2, a))).symm.trans hr9
  replace hG : HW2 (dC, dI) cI cJ cZ cG A ad rw q a ad2 rw2 q2 a H := hG
  refine lv_aload_n hx hb dL_areAlike_4 rfl (lv_at hl 1 rfl) ?_
  refine h_callMi (ad := ad2) (rw := rw2) (As := []) (rest := [.int (a.1 2)]) ⟨hx, hb, hml, hown, hts⟩ (a_stacked l dC dI cI cJ cZ cG ad2 rw2 q2 a H.size) (cwV 0 hts gL_areAlike_X8_stacked rfl rfl rfl (by decide +kernel) ⟨Nat.le_of_ble_eq_true rfl, Nat.le_of_ble_eq_true rfl⟩) hK Foc.snd hG hS hA hT rfl hl.1 rfl (Nat.le_of_ble_eq_true rfl) dL_areAlike_5 ⟨by show 0 + 0 + 0 ≤ 200; omega, by show 0 + 0 + 0 ≤ 1200; omega⟩ (fun r9 a9 H locs hr9 hG hS => ?_)
  cases ((rfl : rStacked a = some (a.1 2, a))).symm.trans hr9
  replace hG : HW2 (dC, dI) cI cJ cZ cG A ad rw q a ad2 rw2 q2 a H := hG
  refine lv_icmp_ne (tgt := 65) hx hb dL_areAlike_8 (by decide) (fun c_8 => absurd rfl c_8) (fun c_8 => ?_)
  refine lv_aload_n hx hb dL_areAlike_11 rfl (lv_at hl 0 rfl) ?_
  refine lv_iload_n hx hb dL_areAlike_12 rfl (lv_at hl 2 rfl) ?_
  refine lv_iconst (v := 4) hx hb dL_areAlike_13 (by decide) ?_
  refine h_callP (As := [.int v, .int 4]) (rest := [.ref (ad 0)]) ⟨hx, hb, hml, hown, hts⟩ (oL_low l dC dI cI cJ cZ cG H.size v 4 _ (low_ok v 4 (by decide))) (va_cwS 2 hts gL_areAlike_L_low rfl rfl rfl (by decide +kernel) ⟨Nat.le_of_ble_eq_true rfl, Nat.le_of_ble_eq_true rfl⟩) hK hS hA rfl hl.1 rfl (Nat.le_of_ble_eq_true rfl) dL_areAlike_14 ⟨by show 0 + 0 + 0 ≤ 200; omega, by show 0 + 0 + 0 ≤ 1200; omega⟩ (fun H locs hz9 hk9 hS => ?_)
  replace hG := h_keep2 hG hk9
  refine h_callL (ad := ad) (rw := rw) (As := [.ref (ad 0), .int (lw v 4)]) (rest := []) ⟨hx, hb, hml, hown, hts⟩ (c_offered l hlt dC dI cI cJ cZ cG ad rw q a H.size (lw v 4)) (vx_cwSW 2 hts gL_areAlike_L_offered rfl rfl rfl (by decide +kernel) ⟨Nat.le_of_ble_eq_true rfl, Nat.le_of_ble_eq_true rfl⟩) hK Foc.fst hG hS hA hT hN rfl hl.1 rfl (Nat.le_of_ble_eq_true rfl) dL_areAlike_17 ⟨by show 0 + 0 + 0 + 1 ≤ 200; omega, by show 0 + 0 + 0 + 6 ≤ 1200; omega⟩ (fun H locs hG hS => ?_)
  replace hG : HW2 (dC, dI) cI cJ cZ cG A ad rw q a ad2 rw2 q2 a H := hG
  refine lv_aload_n hx hb dL_areAlike_20 rfl (lv_at hl 1 rfl) ?_
  refine lv_iload_n hx hb dL_areAlike_21 rfl (lv_at hl 2 rfl) ?_
  refine lv_iconst (v := 4) hx hb dL_areAlike_22 (by decide) ?_
  refine h_callP (As := [.int v, .int 4]) (rest := [.ref (ad2 0), .long (tl (rOffered a (lw v 4)))]) ⟨hx, hb, hml, hown, hts⟩ (oL_low l dC dI cI cJ cZ cG H.size v 4 _ (low_ok v 4 (by decide))) (va_cwS 2 hts gL_areAlike_L_low rfl rfl rfl (by decide +kernel) ⟨Nat.le_of_ble_eq_true rfl, Nat.le_of_ble_eq_true rfl⟩) hK hS hA rfl hl.1 rfl (Nat.le_of_ble_eq_true rfl) dL_areAlike_23 ⟨by show 0 + 0 + 0 + 1 ≤ 200; omega, by show 0 + 0 + 0 + 6 ≤ 1200; omega⟩ (fun H locs hz9 hk9 hS => ?_)
  replace hG := h_keep2 hG hk9
  refine h_callL (ad := ad2) (rw := rw2) (As := [.ref (ad2 0), .int (lw v 4)]) (rest := [.long (tl (rOffered a (lw v 4)))]) ⟨hx, hb, hml, hown, hts⟩ (c_offered l hlt dC dI cI cJ cZ cG ad2 rw2 q2 a H.size (lw v 4)) (vx_cwSW 2 hts gL_areAlike_L_offered rfl rfl rfl (by decide +kernel) ⟨Nat.le_of_ble_eq_true rfl, Nat.le_of_ble_eq_true rfl⟩) hK Foc.snd hG hS hA hT hN rfl hl.1 rfl (Nat.le_of_ble_eq_true rfl) dL_areAlike_26 ⟨by show 0 + 0 + 0 + 1 + 1 ≤ 200; omega, by show 0 + 0 + 0 + 6 + 6 ≤ 1200; omega⟩ (fun H locs hG hS => ?_)
  replace hG : HW2 (dC, dI) cI cJ cZ cG A ad rw q a ad2 rw2 q2 a H := hG
  refine W.lcmp hx hb dL_areAlike_29 ?_
  refine lv_if_ne (tgt := 65) hx hb dL_areAlike_30 (by decide) (fun c_30 => absurd (lg_cmp0 _) c_30) (fun c_30 => ?_)
  refine lv_aload_n hx hb dL_areAlike_33 rfl (lv_at hl 0 rfl) ?_
  refine lv_iload_n hx hb dL_areAlike_34 rfl (lv_at hl 2 rfl) ?_
  refine lv_bipush (v := 6) hx hb dL_areAlike_35 (by decide) ?_
  refine h_callP (As := [.int v, .int 6]) (rest := [.ref (ad 0)]) ⟨hx, hb, hml, hown, hts⟩ (oL_low l dC dI cI cJ cZ cG H.size v 6 _ (low_ok v 6 (by decide))) (va_cwS 2 hts gL_areAlike_L_low rfl rfl rfl (by decide +kernel) ⟨Nat.le_of_ble_eq_true rfl, Nat.le_of_ble_eq_true rfl⟩) hK hS hA rfl hl.1 rfl (Nat.le_of_ble_eq_true rfl) dL_areAlike_37 ⟨by show 0 + 0 + 0 + 1 + 1 ≤ 200; omega, by show 0 + 0 + 0 + 6 + 6 ≤ 1200; omega⟩ (fun H locs hz9 hk9 hS => ?_)
  replace hG := h_keep2 hG hk9
  refine lv_bipush (v := 63) hx hb dL_areAlike_40 (by decide) ?_
  refine h_callL (ad := ad) (rw := rw) (As := [.ref (ad 0), .int (lw v 6), .int 63]) (rest := []) ⟨hx, hb, hml, hown, hts⟩ (c_pair l hlt dC dI cI cJ cZ cG ad rw q a H.size (lw v 6) 63) (vx_cwSW 3 hts gL_areAlike_L_pair rfl rfl rfl (by decide +kernel) ⟨Nat.le_of_ble_eq_true rfl, Nat.le_of_ble_eq_true rfl⟩) hK Foc.fst hG hS hA hT hN rfl hl.1 rfl (Nat.le_of_ble_eq_true rfl) dL_areAlike_42 ⟨by show 0 + 0 + 0 + 1 + 1 + 2 ≤ 200; omega, by show 0 + 0 + 0 + 6 + 6 + 12 ≤ 1200; omega⟩ (fun H locs hG hS => ?_)
  replace hG : HW2 (dC, dI) cI cJ cZ cG A ad rw q a ad2 rw2 q2 a H := hG
  refine lv_aload_n hx hb dL_areAlike_45 rfl (lv_at hl 1 rfl) ?_
  refine lv_iload_n hx hb dL_areAlike_46 rfl (lv_at hl 2 rfl) ?_
  refine lv_bipush (v := 6) hx hb dL_areAlike_47 (by decide) ?_
  refine h_callP (As := [.int v, .int 6]) (rest := [.ref (ad2 0), .long (tl (rPair a (lw v 6) 63))]) ⟨hx, hb, hml, hown, hts⟩ (oL_low l dC dI cI cJ cZ cG H.size v 6 _ (low_ok v 6 (by decide))) (va_cwS 2 hts gL_areAlike_L_low rfl rfl rfl (by decide +kernel) ⟨Nat.le_of_ble_eq_true rfl, Nat.le_of_ble_eq_true rfl⟩) hK hS hA rfl hl.1 rfl (Nat.le_of_ble_eq_true rfl) dL_areAlike_49 ⟨by show 0 + 0 + 0 + 1 + 1 + 2 ≤ 200; omega, by show 0 + 0 + 0 + 6 + 6 + 12 ≤ 1200; omega⟩ (fun H locs hz9 hk9 hS => ?_)
  replace hG := h_keep2 hG hk9
  refine lv_bipush (v := 63) hx hb dL_areAlike_52 (by decide) ?_
  refine h_callL (ad := ad2) (rw := rw2) (As := [.ref (ad2 0), .int (lw v 6), .int 63]) (rest := [.long (tl (rPair a (lw v 6) 63))]) ⟨hx, hb, hml, hown, hts⟩ (c_pair l hlt dC dI cI cJ cZ cG ad2 rw2 q2 a H.size (lw v 6) 63) (vx_cwSW 3 hts gL_areAlike_L_pair rfl rfl rfl (by decide +kernel) ⟨Nat.le_of_ble_eq_true rfl, Nat.le_of_ble_eq_true rfl⟩) hK Foc.snd hG hS hA hT hN rfl hl.1 rfl (Nat.le_of_ble_eq_true rfl) dL_areAlike_54 ⟨by show 0 + 0 + 0 + 1 + 1 + 2 + 2 ≤ 200; omega, by show 0 + 0 + 0 + 6 + 6 + 12 + 12 ≤ 1200; omega⟩ (fun H locs hG hS => ?_)
  replace hG : HW2 (dC, dI) cI cJ cZ cG A ad rw q a ad2 rw2 q2 a H := hG
  refine W.lcmp hx hb dL_areAlike_57 ?_
  refine lv_if_ne (tgt := 65) hx hb dL_areAlike_58 (by decide) (fun c_58 => absurd (lg_cmp0 _) c_58) (fun c_58 => ?_)
  refine lv_iconst (v := 1) hx hb dL_areAlike_61 (by decide) ?_
  refine lv_goto (tgt := 66) hx hb dL_areAlike_62 (by decide) ?_
  refine lv_istore_n (lv' := [(3, .int 1), (0, .ref (ad 0)), (1, .ref (ad2 0)), (2, .int v)]) hx hb dL_areAlike_66 rfl hl (by decide) rfl (fun ls hl => ?_)
  refine lv_iconst (v := 0) hx hb dL_areAlike_67 (by decide) ?_
  refine lv_istore (lv' := [(4, .int 0), (3, .int 1), (0, .ref (ad 0)), (1, .ref (ad2 0)), (2, .int v)]) hx hb dL_areAlike_68 hl (by decide) rfl (fun ls hl => ?_)
  exact al_loop hx hb hr hml hown hts hlocks hlt hK hT hN hA hq 6 0 H locs ls _ _ (by omega) (by omega) (by omega) hG hS hl
