/-! printed by help25.py: the helpers of the law -/
abbrev rmL_kind : Room := { frames := 7, cells := 1, slots := 6, locals := 114 }
theorem mL_kind_0 : (Cond.classLink RL 14 "java/lang/IllegalArgumentException") ∈ wsL_kind := by decide +kernel
theorem mL_kind_1 : (Cond.constantLong RL 16 (-9000000000000000)) ∈ wsL_kind := by decide +kernel
theorem mL_kind_2 : (Cond.classLink RL 18 "java/lang/IllegalStateException") ∈ wsL_kind := by decide +kernel
set_option maxHeartbeats 4000000 in
set_option maxRecDepth 100000 in
theorem b_kind (l : Launch) (hlt : l.stackTraces = false) (dC : Nat → ClassId) (dI : Nat → Nat → Nat) (cI cJ cZ cG : ClassId) (ad : Nat → Nat) (rw : Nat → Nat → Nat) (q : Nat) (a : AT) (sz : Nat) (p1 p2 : Int32) : Met l yL_kind wsL_kind rmL_kind (HPc [.ref (ad 0), .int p1, .int p2] (dC, dI) cI cJ cZ cG sz ad rw q a) (HQl (tl (rKind a p1 p2)) (nx a (rKind a p1 p2)) (dC, dI) cI cJ cZ cG (HA cI cJ cZ cG ad rw sz) ad rw q) 1 6 (HA cI cJ cZ cG ad rw sz) := by
  refine va_MetW (cc := cL_kind) (maxL := 4) (ret := (some .long)) (hh := [(0, 7, 8, 14), (0, 7, 13, 18)]) (by decide) rfl ?_
  intro p e s m args below meth c s₁ B hml hv
  obtain ⟨rfl, hsz, hG0, hK, hT, hN⟩ := hv
  have hx := B.exec
  have hb := B.bytes
  have hr := B.returns
  have hts := atoms_spec (ws := wsL_kind) B.pre
  have hown : s.vm.findClass RL = some m.cls := findClass_of_methodNamed B.named
  have hlocks := B.notSynchronized
  have htb : c.exceptionTable.toList = [⟨0, 7, 8, 14⟩, ⟨0, 7, 13, 18⟩] := vx_table (x := yL_kind) B (hts (.codeWith yL_kind cL_kind 4 (some .long) [(0, 7, 8, 14), (0, 7, 13, 18)]) (List.mem_cons_self))
  subst hsz
  have hG := hG0.self (sz := s.heap.size)
  have hA : ∀ x, s.heap.size ≤ x → (HA cI cJ cZ cG ad rw s.heap.size) x := HA_hi
  have hS : va_S (HA cI cJ cZ cG ad rw s.heap.size) s.heap s.heap [] := va_S.rf
  generalize hAe : (HA cI cJ cZ cG ad rw s.heap.size) = A at hG hT hA hS ⊢
  have hl := lv_entry ([.ref (ad 0), .int p1, .int p2]) (n := 4) (Nat.le_of_ble_eq_true rfl)
  rw [lg_entry_eq]
  generalize (lg_sl ([.ref (ad 0), .int p1, .int p2]) ++ List.replicate (4 - (lg_sl ([.ref (ad 0), .int p1, .int p2])).length) Slot.unset).toArray = ls at hl ⊢
  have hl : lv_has ls 4 [(0, .ref (ad 0)), (1, .int p1), (2, .int p2)] := hl
  generalize hH : s.heap = H at hG ⊢
  replace hS : va_S A s.heap H [] := by rw [← hH]; exact hS
  show W p l e rmL_kind s m #[.ref (ad 0), .int p1, .int p2] below meth c H [] 0 0 (MQ below (HQl (tl (rKind a p1 p2)) (nx a (rKind a p1 p2)) (dC, dI) cI cJ cZ cG A ad rw q) #[.ref (ad 0), .int p1, .int p2] s 1 6 A) (F0 m 0 ls [])
  refine lv_aload_n hx hb dL_kind_0 rfl (lv_at hl 0 rfl) ?_
  refine lv_iload_n hx hb dL_kind_1 rfl (lv_at hl 1 rfl) ?_
  refine lv_iload_n hx hb dL_kind_2 rfl (lv_at hl 2 rfl) ?_
  refine h_callXi (As := [.int p1, .int p2]) (rest := []) ⟨hx, hb, hml, hown, hts⟩ (a_kind l hlt dC dI cI cJ cZ cG ad rw q a H.size p1 p2 ) (cwV 2 hts gL_kind_X8_kind rfl rfl rfl (by decide +kernel) ⟨Nat.le_of_ble_eq_true rfl, Nat.le_of_ble_eq_true rfl⟩) hK Foc.one hG hS hA hT rfl hl.1 rfl (Nat.le_of_ble_eq_true rfl) dL_kind_3 ⟨Nat.le_of_ble_eq_true rfl, Nat.le_of_ble_eq_true rfl⟩ (fun E ce q9 H locs hn hE hG hS h7 h8 h9 => ?_) (fun r a1 H locs hr1 hG hS => ?_)
  · rw [hn]
    rcases List.mem_cons.mp hE with rfl | hE
    · refine vx_catch hown [] ⟨0, 7, 8, 14⟩ [⟨0, 7, 13, 18⟩] htb (fun z hz => nomatch hz) (by decide) (by decide) (hts _ mL_kind_0) (va_any rfl (hT.2.2.2.1 "java/lang/IllegalArgumentException" (by decide))) h7 h8 h9 ?_
      refine lv_astore_n (lv' := [(3, .ref q9), (0, .ref (ad 0)), (1, .int p1), (2, .int p2)]) hx hb dL_kind_8 rfl hl (by decide) rfl (fun ls hl => ?_)
      refine lv_ldc2 hx hb (v := -9000000000000000) hown (hts _ mL_kind_1) dL_kind_9 ?_
      exact h_lret hx hb hr hlocks rfl hG hS (Nat.le_of_ble_eq_true rfl) (Nat.le_of_ble_eq_true rfl) dL_kind_12
    · cases List.mem_singleton.mp hE
      refine vx_catch hown [⟨0, 7, 8, 14⟩] ⟨0, 7, 13, 18⟩ [] htb (fun z hz => Or.inr (by cases List.mem_singleton.mp hz; exact ⟨by decide, "java/lang/IllegalArgumentException", hts _ mL_kind_0, hN ("java/lang/IllegalStateException", "java/lang/IllegalArgumentException") (by decide)⟩)) (by decide) (by decide) (hts _ mL_kind_2) (va_any rfl (hT.2.2.2.1 "java/lang/IllegalStateException" (by decide))) h7 h8 h9 ?_
      refine lv_astore_n (lv' := [(3, .ref q9), (0, .ref (ad 0)), (1, .int p1), (2, .int p2)]) hx hb dL_kind_13 rfl hl (by decide) rfl (fun ls hl => ?_)
      refine lv_ldc2 hx hb (v := -9000000000000000) hown (hts _ mL_kind_1) dL_kind_14 ?_
      exact h_lret hx hb hr hlocks rfl hG hS (Nat.le_of_ble_eq_true rfl) (Nat.le_of_ble_eq_true rfl) dL_kind_17
  · rw [hr1]
    refine lv_i2l (v := r.toInt64) hx hb dL_kind_6 rfl ?_
    exact h_lret hx hb hr hlocks rfl hG hS (Nat.le_of_ble_eq_true rfl) (Nat.le_of_ble_eq_true rfl) dL_kind_7
abbrev rmL_ban : Room := { frames := 8, cells := 2, slots := 12, locals := 135 }
theorem mL_ban_0 : (Cond.classLink RL 23 "java/lang/IndexOutOfBoundsException") ∈ wsL_ban := by decide +kernel
theorem mL_ban_1 : (Cond.constantLong RL 16 (-9000000000000000)) ∈ wsL_ban := by decide +kernel
theorem mL_ban_2 : (Cond.classLink RL 14 "java/lang/IllegalArgumentException") ∈ wsL_ban := by decide +kernel
set_option maxHeartbeats 4000000 in
set_option maxRecDepth 100000 in
theorem b_ban (l : Launch) (hlt : l.stackTraces = false) (dC : Nat → ClassId) (dI : Nat → Nat → Nat) (cI cJ cZ cG : ClassId) (ad : Nat → Nat) (rw : Nat → Nat → Nat) (q : Nat) (a : AT) (sz : Nat) (p1 p2 : Int32) : Met l yL_ban wsL_ban rmL_ban (HPc [.ref (ad 0), .int p1, .int p2] (dC, dI) cI cJ cZ cG sz ad rw q a) (HQl (tl (rBan a p1 p2)) (nx a (rBan a p1 p2)) (dC, dI) cI cJ cZ cG (HA cI cJ cZ cG ad rw sz) ad rw q) 2 12 (HA cI cJ cZ cG ad rw sz) := by
  refine va_MetW (cc := cL_ban) (maxL := 4) (ret := (some .long)) (hh := [(0, 7, 8, 23), (0, 7, 13, 14)]) (by decide) rfl ?_
  intro p e s m args below meth c s₁ B hml hv
  obtain ⟨rfl, hsz, hG0, hK, hT, hN⟩ := hv
  have hx := B.exec
  have hb := B.bytes
  have hr := B.returns
  have hts := atoms_spec (ws := wsL_ban) B.pre
  have hown : s.vm.findClass RL = some m.cls := findClass_of_methodNamed B.named
  have hlocks := B.notSynchronized
  have htb : c.exceptionTable.toList = [⟨0, 7, 8, 23⟩, ⟨0, 7, 13, 14⟩] := vx_table (x := yL_ban) B (hts (.codeWith yL_ban cL_ban 4 (some .long) [(0, 7, 8, 23), (0, 7, 13, 14)]) (List.mem_cons_self))
  subst hsz
  have hG := hG0.self (sz := s.heap.size)
  have hA : ∀ x, s.heap.size ≤ x → (HA cI cJ cZ cG ad rw s.heap.size) x := HA_hi
  have hS : va_S (HA cI cJ cZ cG ad rw s.heap.size) s.heap s.heap [] := va_S.rf
  generalize hAe : (HA cI cJ cZ cG ad rw s.heap.size) = A at hG hT hA hS ⊢
  have hl := lv_entry ([.ref (ad 0), .int p1, .int p2]) (n := 4) (Nat.le_of_ble_eq_true rfl)
  rw [lg_entry_eq]
  generalize (lg_sl ([.ref (ad 0), .int p1, .int p2]) ++ List.replicate (4 - (lg_sl ([.ref (ad 0), .int p1, .int p2])).length) Slot.unset).toArray = ls at hl ⊢
  have hl : lv_has ls 4 [(0, .ref (ad 0)), (1, .int p1), (2, .int p2)] := hl
  generalize hH : s.heap = H at hG ⊢
  replace hS : va_S A s.heap H [] := by rw [← hH]; exact hS
  show W p l e rmL_ban s m #[.ref (ad 0), .int p1, .int p2] below meth c H [] 0 0 (MQ below (HQl (tl (rBan a p1 p2)) (nx a (rBan a p1 p2)) (dC, dI) cI cJ cZ cG A ad rw q) #[.ref (ad 0), .int p1, .int p2] s 2 12 A) (F0 m 0 ls [])
  refine lv_aload_n hx hb dL_ban_0 rfl (lv_at hl 0 rfl) ?_
  refine lv_iload_n hx hb dL_ban_1 rfl (lv_at hl 1 rfl) ?_
  refine lv_iload_n hx hb dL_ban_2 rfl (lv_at hl 2 rfl) ?_
  refine h_callXi (As := [.int p1, .int p2]) (rest := []) ⟨hx, hb, hml, hown, hts⟩ (a_ban l hlt dC dI cI cJ cZ cG ad rw q a H.size p1 p2 ) (cwV 2 hts gL_ban_X8_ban rfl rfl rfl (by decide +kernel) ⟨Nat.le_of_ble_eq_true rfl, Nat.le_of_ble_eq_true rfl⟩) hK Foc.one hG hS hA hT rfl hl.1 rfl (Nat.le_of_ble_eq_true rfl) dL_ban_3 ⟨Nat.le_of_ble_eq_true rfl, Nat.le_of_ble_eq_true rfl⟩ (fun E ce q9 H locs hn hE hG hS h7 h8 h9 => ?_) (fun r a1 H locs hr1 hG hS => ?_)
  · rw [hn]
    rcases List.mem_cons.mp hE with rfl | hE
    · refine vx_catch hown [] ⟨0, 7, 8, 23⟩ [⟨0, 7, 13, 14⟩] htb (fun z hz => nomatch hz) (by decide) (by decide) (hts _ mL_ban_0) (va_any rfl (hT.2.2.2.1 "java/lang/IndexOutOfBoundsException" (by decide))) h7 h8 h9 ?_
      refine lv_astore_n (lv' := [(3, .ref q9), (0, .ref (ad 0)), (1, .int p1), (2, .int p2)]) hx hb dL_ban_8 rfl hl (by decide) rfl (fun ls hl => ?_)
      refine lv_ldc2 hx hb (v := -9000000000000000) hown (hts _ mL_ban_1) dL_ban_9 ?_
      exact h_lret hx hb hr hlocks rfl hG hS (Nat.le_of_ble_eq_true rfl) (Nat.le_of_ble_eq_true rfl) dL_ban_12
    · cases List.mem_singleton.mp hE
      refine vx_catch hown [⟨0, 7, 8, 23⟩] ⟨0, 7, 13, 14⟩ [] htb (fun z hz => Or.inr (by cases List.mem_singleton.mp hz; exact ⟨by decide, "java/lang/IndexOutOfBoundsException", hts _ mL_ban_0, hN ("java/lang/IllegalArgumentException", "java/lang/IndexOutOfBoundsException") (by decide)⟩)) (by decide) (by decide) (hts _ mL_ban_2) (va_any rfl (hT.2.2.2.1 "java/lang/IllegalArgumentException" (by decide))) h7 h8 h9 ?_
      refine lv_astore_n (lv' := [(3, .ref q9), (0, .ref (ad 0)), (1, .int p1), (2, .int p2)]) hx hb dL_ban_13 rfl hl (by decide) rfl (fun ls hl => ?_)
      refine lv_ldc2 hx hb (v := -9000000000000000) hown (hts _ mL_ban_1) dL_ban_14 ?_
      exact h_lret hx hb hr hlocks rfl hG hS (Nat.le_of_ble_eq_true rfl) (Nat.le_of_ble_eq_true rfl) dL_ban_17
  · rw [hr1]
    refine lv_i2l (v := r.toInt64) hx hb dL_ban_6 rfl ?_
    exact h_lret hx hb hr hlocks rfl hG hS (Nat.le_of_ble_eq_true rfl) (Nat.le_of_ble_eq_true rfl) dL_ban_7
abbrev rmL_get : Room := { frames := 8, cells := 3, slots := 18, locals := 136 }
theorem mL_get_0 : (Cond.classLink RL 23 "java/lang/IndexOutOfBoundsException") ∈ wsL_get := by decide +kernel
theorem mL_get_1 : (Cond.constantLong RL 16 (-9000000000000000)) ∈ wsL_get := by decide +kernel
theorem mL_get_2 : (Cond.classLink RL 14 "java/lang/IllegalArgumentException") ∈ wsL_get := by decide +kernel
set_option maxHeartbeats 4000000 in
set_option maxRecDepth 100000 in
theorem b_get (l : Launch) (hlt : l.stackTraces = false) (dC : Nat → ClassId) (dI : Nat → Nat → Nat) (cI cJ cZ cG : ClassId) (ad : Nat → Nat) (rw : Nat → Nat → Nat) (q : Nat) (a : AT) (sz : Nat) (p1 p2 p3 : Int32) : Met l yL_get wsL_get rmL_get (HPc [.ref (ad 0), .int p1, .int p2, .int p3] (dC, dI) cI cJ cZ cG sz ad rw q a) (HQl (tl (rGet a p1 p2 p3)) (nx a (rGet a p1 p2 p3)) (dC, dI) cI cJ cZ cG (HA cI cJ cZ cG ad rw sz) ad rw q) 3 18 (HA cI cJ cZ cG ad rw sz) := by
  refine va_MetW (cc := cL_get) (maxL := 5) (ret := (some .long)) (hh := [(0, 8, 9, 23), (0, 8, 15, 14)]) (by decide) rfl ?_
  intro p e s m args below meth c s₁ B hml hv
  obtain ⟨rfl, hsz, hG0, hK, hT, hN⟩ := hv
  have hx := B.exec
  have hb := B.bytes
  have hr := B.returns
  have hts := atoms_spec (ws := wsL_get) B.pre
  have hown : s.vm.findClass RL = some m.cls := findClass_of_methodNamed B.named
  have hlocks := B.notSynchronized
  have htb : c.exceptionTable.toList = [⟨0, 8, 9, 23⟩, ⟨0, 8, 15, 14⟩] := vx_table (x := yL_get) B (hts (.codeWith yL_get cL_get 5 (some .long) [(0, 8, 9, 23), (0, 8, 15, 14)]) (List.mem_cons_self))
  subst hsz
  have hG := hG0.self (sz := s.heap.size)
  have hA : ∀ x, s.heap.size ≤ x → (HA cI cJ cZ cG ad rw s.heap.size) x := HA_hi
  have hS : va_S (HA cI cJ cZ cG ad rw s.heap.size) s.heap s.heap [] := va_S.rf
  generalize hAe : (HA cI cJ cZ cG ad rw s.heap.size) = A at hG hT hA hS ⊢
  have hl := lv_entry ([.ref (ad 0), .int p1, .int p2, .int p3]) (n := 5) (Nat.le_of_ble_eq_true rfl)
  rw [lg_entry_eq]
  generalize (lg_sl ([.ref (ad 0), .int p1, .int p2, .int p3]) ++ List.replicate (5 - (lg_sl ([.ref (ad 0), .int p1, .int p2, .int p3])).length) Slot.unset).toArray = ls at hl ⊢
  have hl : lv_has ls 5 [(0, .ref (ad 0)), (1, .int p1), (2, .int p2), (3, .int p3)] := hl
  generalize hH : s.heap = H at hG ⊢
  replace hS : va_S A s.heap H [] := by rw [← hH]; exact hS
  show W p l e rmL_get s m #[.ref (ad 0), .int p1, .int p2, .int p3] below meth c H [] 0 0 (MQ below (HQl (tl (rGet a p1 p2 p3)) (nx a (rGet a p1 p2 p3)) (dC, dI) cI cJ cZ cG A ad rw q) #[.ref (ad 0), .int p1, .int p2, .int p3] s 3 18 A) (F0 m 0 ls [])
  refine lv_aload_n hx hb dL_get_0 rfl (lv_at hl 0 rfl) ?_
  refine lv_iload_n hx hb dL_get_1 rfl (lv_at hl 1 rfl) ?_
  refine lv_iload_n hx hb dL_get_2 rfl (lv_at hl 2 rfl) ?_
  refine lv_iload_n hx hb dL_get_3 rfl (lv_at hl 3 rfl) ?_
  refine h_callXi (As := [.int p1, .int p2, .int p3]) (rest := []) ⟨hx, hb, hml, hown, hts⟩ (a_get l hlt dC dI cI cJ cZ cG ad rw q a H.size p1 p2 p3 ) (cwV 3 hts gL_get_X8_get rfl rfl rfl (by decide +kernel) ⟨Nat.le_of_ble_eq_true rfl, Nat.le_of_ble_eq_true rfl⟩) hK Foc.one hG hS hA hT rfl hl.1 rfl (Nat.le_of_ble_eq_true rfl) dL_get_4 ⟨Nat.le_of_ble_eq_true rfl, Nat.le_of_ble_eq_true rfl⟩ (fun E ce q9 H locs hn hE hG hS h7 h8 h9 => ?_) (fun r a1 H locs hr1 hG hS => ?_)
  · rw [hn]
    rcases List.mem_cons.mp hE with rfl | hE
    · refine vx_catch hown [] ⟨0, 8, 9, 23⟩ [⟨0, 8, 15, 14⟩] htb (fun z hz => nomatch hz) (by decide) (by decide) (hts _ mL_get_0) (va_any rfl (hT.2.2.2.1 "java/lang/IndexOutOfBoundsException" (by decide))) h7 h8 h9 ?_
      refine lv_astore (lv' := [(4, .ref q9), (0, .ref (ad 0)), (1, .int p1), (2, .int p2), (3, .int p3)]) hx hb dL_get_9 hl (by decide) rfl (fun ls hl => ?_)
      refine lv_ldc2 hx hb (v := -9000000000000000) hown (hts _ mL_get_1) dL_get_11 ?_
      exact h_lret hx hb hr hlocks rfl hG hS (Nat.le_of_ble_eq_true rfl) (Nat.le_of_ble_eq_true rfl) dL_get_14
    · cases List.mem_singleton.mp hE
      refine vx_catch hown [⟨0, 8, 9, 23⟩] ⟨0, 8, 15, 14⟩ [] htb (fun z hz => Or.inr (by cases List.mem_singleton.mp hz; exact ⟨by decide, "java/lang/IndexOutOfBoundsException", hts _ mL_get_0, hN ("java/lang/IllegalArgumentException", "java/lang/IndexOutOfBoundsException") (by decide)⟩)) (by decide) (by decide) (hts _ mL_get_2) (va_any rfl (hT.2.2.2.1 "java/lang/IllegalArgumentException" (by decide))) h7 h8 h9 ?_
      refine lv_astore (lv' := [(4, .ref q9), (0, .ref (ad 0)), (1, .int p1), (2, .int p2), (3, .int p3)]) hx hb dL_get_15 hl (by decide) rfl (fun ls hl => ?_)
      refine lv_ldc2 hx hb (v := -9000000000000000) hown (hts _ mL_get_1) dL_get_17 ?_
      exact h_lret hx hb hr hlocks rfl hG hS (Nat.le_of_ble_eq_true rfl) (Nat.le_of_ble_eq_true rfl) dL_get_20
  · rw [hr1]
    refine lv_i2l (v := r.toInt64) hx hb dL_get_7 rfl ?_
    exact h_lret hx hb hr hlocks rfl hG hS (Nat.le_of_ble_eq_true rfl) (Nat.le_of_ble_eq_true rfl) dL_get_8
abbrev rmL_pass : Room := { frames := 7, cells := 1, slots := 6, locals := 113 }
theorem mL_pass_0 : (Cond.classLink RL 14 "java/lang/IllegalArgumentException") ∈ wsL_pass := by decide +kernel
theorem mL_pass_1 : (Cond.constantLong RL 16 (-9000000000000000)) ∈ wsL_pass := by decide +kernel
theorem mL_pass_2 : (Cond.classLink RL 18 "java/lang/IllegalStateException") ∈ wsL_pass := by decide +kernel
set_option maxHeartbeats 4000000 in
set_option maxRecDepth 100000 in
theorem b_pass (l : Launch) (hlt : l.stackTraces = false) (dC : Nat → ClassId) (dI : Nat → Nat → Nat) (cI cJ cZ cG : ClassId) (ad : Nat → Nat) (rw : Nat → Nat → Nat) (q : Nat) (a : AT) (sz : Nat) (p1 : Int32) : Met l yL_pass wsL_pass rmL_pass (HPc [.ref (ad 0), .int p1] (dC, dI) cI cJ cZ cG sz ad rw q a) (HQl (tl (rPass a p1)) (nx a (rPass a p1)) (dC, dI) cI cJ cZ cG (HA cI cJ cZ cG ad rw sz) ad rw q) 1 6 (HA cI cJ cZ cG ad rw sz) := by
  refine va_MetW (cc := cL_pass) (maxL := 3) (ret := (some .long)) (hh := [(0, 6, 7, 14), (0, 6, 12, 18)]) (by decide) rfl ?_
  intro p e s m args below meth c s₁ B hml hv
  obtain ⟨rfl, hsz, hG0, hK, hT, hN⟩ := hv
  have hx := B.exec
  have hb := B.bytes
  have hr := B.returns
  have hts := atoms_spec (ws := wsL_pass) B.pre
  have hown : s.vm.findClass RL = some m.cls := findClass_of_methodNamed B.named
  have hlocks := B.notSynchronized
  have htb : c.exceptionTable.toList = [⟨0, 6, 7, 14⟩, ⟨0, 6, 12, 18⟩] := vx_table (x := yL_pass) B (hts (.codeWith yL_pass cL_pass 3 (some .long) [(0, 6, 7, 14), (0, 6, 12, 18)]) (List.mem_cons_self))
  subst hsz
  have hG := hG0.self (sz := s.heap.size)
  have hA : ∀ x, s.heap.size ≤ x → (HA cI cJ cZ cG ad rw s.heap.size) x := HA_hi
  have hS : va_S (HA cI cJ cZ cG ad rw s.heap.size) s.heap s.heap [] := va_S.rf
  generalize hAe : (HA cI cJ cZ cG ad rw s.heap.size) = A at hG hT hA hS ⊢
  have hl := lv_entry ([.ref (ad 0), .int p1]) (n := 3) (Nat.le_of_ble_eq_true rfl)
  rw [lg_entry_eq]
  generalize (lg_sl ([.ref (ad 0), .int p1]) ++ List.replicate (3 - (lg_sl ([.ref (ad 0), .int p1])).length) Slot.unset).toArray = ls at hl ⊢
  have hl : lv_has ls 3 [(0, .ref (ad 0)), (1, .int p1)] := hl
  generalize hH : s.heap = H at hG ⊢
  replace hS : va_S A s.heap H [] := by rw [← hH]; exact hS
  show W p l e rmL_pass s m #[.ref (ad 0), .int p1] below meth c H [] 0 0 (MQ below (HQl (tl (rPass a p1)) (nx a (rPass a p1)) (dC, dI) cI cJ cZ cG A ad rw q) #[.ref (ad 0), .int p1] s 1 6 A) (F0 m 0 ls [])
  refine lv_aload_n hx hb dL_pass_0 rfl (lv_at hl 0 rfl) ?_
  refine lv_iload_n hx hb dL_pass_1 rfl (lv_at hl 1 rfl) ?_
  refine h_callXi (As := [.int p1]) (rest := []) ⟨hx, hb, hml, hown, hts⟩ (a_pass l hlt dC dI cI cJ cZ cG ad rw q a H.size p1 ) (cwV 1 hts gL_pass_X8_pass rfl rfl rfl (by decide +kernel) ⟨Nat.le_of_ble_eq_true rfl, Nat.le_of_ble_eq_true rfl⟩) hK Foc.one hG hS hA hT rfl hl.1 rfl (Nat.le_of_ble_eq_true rfl) dL_pass_2 ⟨Nat.le_of_ble_eq_true rfl, Nat.le_of_ble_eq_true rfl⟩ (fun E ce q9 H locs hn hE hG hS h7 h8 h9 => ?_) (fun r a1 H locs hr1 hG hS => ?_)
  · rw [hn]
    rcases List.mem_cons.mp hE with rfl | hE
    · refine vx_catch hown [] ⟨0, 6, 7, 14⟩ [⟨0, 6, 12, 18⟩] htb (fun z hz => nomatch hz) (by decide) (by decide) (hts _ mL_pass_0) (va_any rfl (hT.2.2.2.1 "java/lang/IllegalArgumentException" (by decide))) h7 h8 h9 ?_
      refine lv_astore_n (lv' := [(2, .ref q9), (0, .ref (ad 0)), (1, .int p1)]) hx hb dL_pass_7 rfl hl (by decide) rfl (fun ls hl => ?_)
      refine lv_ldc2 hx hb (v := -9000000000000000) hown (hts _ mL_pass_1) dL_pass_8 ?_
      exact h_lret hx hb hr hlocks rfl hG hS (Nat.le_of_ble_eq_true rfl) (Nat.le_of_ble_eq_true rfl) dL_pass_11
    · cases List.mem_singleton.mp hE
      refine vx_catch hown [⟨0, 6, 7, 14⟩] ⟨0, 6, 12, 18⟩ [] htb (fun z hz => Or.inr (by cases List.mem_singleton.mp hz; exact ⟨by decide, "java/lang/IllegalArgumentException", hts _ mL_pass_0, hN ("java/lang/IllegalStateException", "java/lang/IllegalArgumentException") (by decide)⟩)) (by decide) (by decide) (hts _ mL_pass_2) (va_any rfl (hT.2.2.2.1 "java/lang/IllegalStateException" (by decide))) h7 h8 h9 ?_
      refine lv_astore_n (lv' := [(2, .ref q9), (0, .ref (ad 0)), (1, .int p1)]) hx hb dL_pass_12 rfl hl (by decide) rfl (fun ls hl => ?_)
      refine lv_ldc2 hx hb (v := -9000000000000000) hown (hts _ mL_pass_1) dL_pass_13 ?_
      exact h_lret hx hb hr hlocks rfl hG hS (Nat.le_of_ble_eq_true rfl) (Nat.le_of_ble_eq_true rfl) dL_pass_16
  · rw [hr1]
    refine lv_i2l (v := r.toInt64) hx hb dL_pass_5 rfl ?_
    exact h_lret hx hb hr hlocks rfl hG hS (Nat.le_of_ble_eq_true rfl) (Nat.le_of_ble_eq_true rfl) dL_pass_6
abbrev rmL_play : Room := { frames := 8, cells := 4, slots := 24, locals := 136 }
theorem mL_play_0 : (Cond.classLink RL 23 "java/lang/IndexOutOfBoundsException") ∈ wsL_play := by decide +kernel
theorem mL_play_1 : (Cond.constantLong RL 16 (-9000000000000000)) ∈ wsL_play := by decide +kernel
theorem mL_play_2 : (Cond.classLink RL 18 "java/lang/IllegalStateException") ∈ wsL_play := by decide +kernel
set_option maxHeartbeats 4000000 in
set_option maxRecDepth 100000 in
theorem b_play (l : Launch) (hlt : l.stackTraces = false) (dC : Nat → ClassId) (dI : Nat → Nat → Nat) (cI cJ cZ cG : ClassId) (ad : Nat → Nat) (rw : Nat → Nat → Nat) (q : Nat) (a : AT) (hq : q < 512) (sz : Nat) (p1 p2 p3 : Int32) : Met l yL_play wsL_play rmL_play (HPc [.ref (ad 0), .int p1, .int p2, .int p3] (dC, dI) cI cJ cZ cG sz ad rw q a) (HQl (tl (rPlay a p1 p2 p3)) (nx a (rPlay a p1 p2 p3)) (dC, dI) cI cJ cZ cG (HA cI cJ cZ cG ad rw sz) ad rw (q + 1)) 4 24 (HA cI cJ cZ cG ad rw sz) := by
  refine va_MetW (cc := cL_play) (maxL := 5) (ret := (some .long)) (hh := [(0, 8, 9, 23), (0, 8, 15, 18)]) (by decide) rfl ?_
  intro p e s m args below meth c s₁ B hml hv
  obtain ⟨rfl, hsz, hG0, hK, hT, hN⟩ := hv
  have hx := B.exec
  have hb := B.bytes
  have hr := B.returns
  have hts := atoms_spec (ws := wsL_play) B.pre
  have hown : s.vm.findClass RL = some m.cls := findClass_of_methodNamed B.named
  have hlocks := B.notSynchronized
  have htb : c.exceptionTable.toList = [⟨0, 8, 9, 23⟩, ⟨0, 8, 15, 18⟩] := vx_table (x := yL_play) B (hts (.codeWith yL_play cL_play 5 (some .long) [(0, 8, 9, 23), (0, 8, 15, 18)]) (List.mem_cons_self))
  subst hsz
  have hG := hG0.self (sz := s.heap.size)
  have hA : ∀ x, s.heap.size ≤ x → (HA cI cJ cZ cG ad rw s.heap.size) x := HA_hi
  have hS : va_S (HA cI cJ cZ cG ad rw s.heap.size) s.heap s.heap [] := va_S.rf
  generalize hAe : (HA cI cJ cZ cG ad rw s.heap.size) = A at hG hT hA hS ⊢
  have hl := lv_entry ([.ref (ad 0), .int p1, .int p2, .int p3]) (n := 5) (Nat.le_of_ble_eq_true rfl)
  rw [lg_entry_eq]
  generalize (lg_sl ([.ref (ad 0), .int p1, .int p2, .int p3]) ++ List.replicate (5 - (lg_sl ([.ref (ad 0), .int p1, .int p2, .int p3])).length) Slot.unset).toArray = ls at hl ⊢
  have hl : lv_has ls 5 [(0, .ref (ad 0)), (1, .int p1), (2, .int p2), (3, .int p3)] := hl
  generalize hH : s.heap = H at hG ⊢
  replace hS : va_S A s.heap H [] := by rw [← hH]; exact hS
  show W p l e rmL_play s m #[.ref (ad 0), .int p1, .int p2, .int p3] below meth c H [] 0 0 (MQ below (HQl (tl (rPlay a p1 p2 p3)) (nx a (rPlay a p1 p2 p3)) (dC, dI) cI cJ cZ cG A ad rw (q + 1)) #[.ref (ad 0), .int p1, .int p2, .int p3] s 4 24 A) (F0 m 0 ls [])
  refine lv_aload_n hx hb dL_play_0 rfl (lv_at hl 0 rfl) ?_
  refine lv_iload_n hx hb dL_play_1 rfl (lv_at hl 1 rfl) ?_
  refine lv_iload_n hx hb dL_play_2 rfl (lv_at hl 2 rfl) ?_
  refine lv_iload_n hx hb dL_play_3 rfl (lv_at hl 3 rfl) ?_
  refine h_callXi (As := [.int p1, .int p2, .int p3]) (rest := []) ⟨hx, hb, hml, hown, hts⟩ (a_play l hlt dC dI cI cJ cZ cG ad rw q a hq H.size p1 p2 p3 ) (cwV 3 hts gL_play_X8_play rfl rfl rfl (by decide +kernel) ⟨Nat.le_of_ble_eq_true rfl, Nat.le_of_ble_eq_true rfl⟩) hK Foc.one hG hS hA hT rfl hl.1 rfl (Nat.le_of_ble_eq_true rfl) dL_play_4 ⟨Nat.le_of_ble_eq_true rfl, Nat.le_of_ble_eq_true rfl⟩ (fun E ce q9 H locs hn hE hG hS h7 h8 h9 => ?_) (fun r a1 H locs hr1 hG hS => ?_)
  · rw [hn]
    rcases List.mem_cons.mp hE with rfl | hE
    · refine vx_catch hown [] ⟨0, 8, 9, 23⟩ [⟨0, 8, 15, 18⟩] htb (fun z hz => nomatch hz) (by decide) (by decide) (hts _ mL_play_0) (va_any rfl (hT.2.2.2.1 "java/lang/IndexOutOfBoundsException" (by decide))) h7 h8 h9 ?_
      refine lv_astore (lv' := [(4, .ref q9), (0, .ref (ad 0)), (1, .int p1), (2, .int p2), (3, .int p3)]) hx hb dL_play_9 hl (by decide) rfl (fun ls hl => ?_)
      refine lv_ldc2 hx hb (v := -9000000000000000) hown (hts _ mL_play_1) dL_play_11 ?_
      exact h_lret hx hb hr hlocks rfl hG hS (Nat.le_of_ble_eq_true rfl) (Nat.le_of_ble_eq_true rfl) dL_play_14
    · cases List.mem_singleton.mp hE
      refine vx_catch hown [⟨0, 8, 9, 23⟩] ⟨0, 8, 15, 18⟩ [] htb (fun z hz => Or.inr (by cases List.mem_singleton.mp hz; exact ⟨by decide, "java/lang/IndexOutOfBoundsException", hts _ mL_play_0, hN ("java/lang/IllegalStateException", "java/lang/IndexOutOfBoundsException") (by decide)⟩)) (by decide) (by decide) (hts _ mL_play_2) (va_any rfl (hT.2.2.2.1 "java/lang/IllegalStateException" (by decide))) h7 h8 h9 ?_
      refine lv_astore (lv' := [(4, .ref q9), (0, .ref (ad 0)), (1, .int p1), (2, .int p2), (3, .int p3)]) hx hb dL_play_15 hl (by decide) rfl (fun ls hl => ?_)
      refine lv_ldc2 hx hb (v := -9000000000000000) hown (hts _ mL_play_1) dL_play_17 ?_
      exact h_lret hx hb hr hlocks rfl hG hS (Nat.le_of_ble_eq_true rfl) (Nat.le_of_ble_eq_true rfl) dL_play_20
  · rw [hr1]
    refine lv_i2l (v := r.toInt64) hx hb dL_play_7 rfl ?_
    exact h_lret hx hb hr hlocks rfl hG hS (Nat.le_of_ble_eq_true rfl) (Nat.le_of_ble_eq_true rfl) dL_play_8
abbrev rmL_top : Room := { frames := 7, cells := 1, slots := 6, locals := 112 }
theorem mL_top_0 : (Cond.classLink RL 18 "java/lang/IllegalStateException") ∈ wsL_top := by decide +kernel
theorem mL_top_1 : (Cond.constantLong RL 16 (-9000000000000000)) ∈ wsL_top := by decide +kernel
set_option maxHeartbeats 4000000 in
set_option maxRecDepth 100000 in
theorem b_top (l : Launch) (hlt : l.stackTraces = false) (dC : Nat → ClassId) (dI : Nat → Nat → Nat) (cI cJ cZ cG : ClassId) (ad : Nat → Nat) (rw : Nat → Nat → Nat) (q : Nat) (a : AT) (hq : q < 512) (sz : Nat) : Met l yL_top wsL_top rmL_top (HPc [.ref (ad 0)] (dC, dI) cI cJ cZ cG sz ad rw q a) (HQl (tl (rTop a)) (nx a (rTop a)) (dC, dI) cI cJ cZ cG (HA cI cJ cZ cG ad rw sz) ad rw (q + 1)) 1 6 (HA cI cJ cZ cG ad rw sz) := by
  refine va_MetW (cc := cL_top) (maxL := 2) (ret := (some .long)) (hh := [(0, 5, 6, 18)]) (by decide) rfl ?_
  intro p e s m args below meth c s₁ B hml hv
  obtain ⟨rfl, hsz, hG0, hK, hT, hN⟩ := hv
  have hx := B.exec
  have hb := B.bytes
  have hr := B.returns
  have hts := atoms_spec (ws := wsL_top) B.pre
  have hown : s.vm.findClass RL = some m.cls := findClass_of_methodNamed B.named
  have hlocks := B.notSynchronized
  have htb : c.exceptionTable.toList = [⟨0, 5, 6, 18⟩] := vx_table (x := yL_top) B (hts (.codeWith yL_top cL_top 2 (some .long) [(0, 5, 6, 18)]) (List.mem_cons_self))
  subst hsz
  have hG := hG0.self (sz := s.heap.size)
  have hA : ∀ x, s.heap.size ≤ x → (HA cI cJ cZ cG ad rw s.heap.size) x := HA_hi
  have hS : va_S (HA cI cJ cZ cG ad rw s.heap.size) s.heap s.heap [] := va_S.rf
  generalize hAe : (HA cI cJ cZ cG ad rw s.heap.size) = A at hG hT hA hS ⊢
  have hl := lv_entry ([.ref (ad 0)]) (n := 2) (Nat.le_of_ble_eq_true rfl)
  rw [lg_entry_eq]
  generalize (lg_sl ([.ref (ad 0)]) ++ List.replicate (2 - (lg_sl ([.ref (ad 0)])).length) Slot.unset).toArray = ls at hl ⊢
  have hl : lv_has ls 2 [(0, .ref (ad 0))] := hl
  generalize hH : s.heap = H at hG ⊢
  replace hS : va_S A s.heap H [] := by rw [← hH]; exact hS
  show W p l e rmL_top s m #[.ref (ad 0)] below meth c H [] 0 0 (MQ below (HQl (tl (rTop a)) (nx a (rTop a)) (dC, dI) cI cJ cZ cG A ad rw (q + 1)) #[.ref (ad 0)] s 1 6 A) (F0 m 0 ls [])
  refine lv_aload_n hx hb dL_top_0 rfl (lv_at hl 0 rfl) ?_
  refine h_callXi (As := []) (rest := []) ⟨hx, hb, hml, hown, hts⟩ (a_top l hlt dC dI cI cJ cZ cG ad rw q a hq H.size ) (cwV 0 hts gL_top_X8_top rfl rfl rfl (by decide +kernel) ⟨Nat.le_of_ble_eq_true rfl, Nat.le_of_ble_eq_true rfl⟩) hK Foc.one hG hS hA hT rfl hl.1 rfl (Nat.le_of_ble_eq_true rfl) dL_top_1 ⟨Nat.le_of_ble_eq_true rfl, Nat.le_of_ble_eq_true rfl⟩ (fun E ce q9 H locs hn hE hG hS h7 h8 h9 => ?_) (fun r a1 H locs hr1 hG hS => ?_)
  · rw [hn]
    cases List.mem_singleton.mp hE
    refine vx_catch hown [] ⟨0, 5, 6, 18⟩ [] htb (fun z hz => nomatch hz) (by decide) (by decide) (hts _ mL_top_0) (va_any rfl (hT.2.2.2.1 "java/lang/IllegalStateException" (by decide))) h7 h8 h9 ?_
    refine lv_astore_n (lv' := [(1, .ref q9), (0, .ref (ad 0))]) hx hb dL_top_6 rfl hl (by decide) rfl (fun ls hl => ?_)
    refine lv_ldc2 hx hb (v := -9000000000000000) hown (hts _ mL_top_1) dL_top_7 ?_
    exact h_lret hx hb hr hlocks rfl hG hS (Nat.le_of_ble_eq_true rfl) (Nat.le_of_ble_eq_true rfl) dL_top_10
  · rw [hr1]
    refine lv_i2l (v := r.toInt64) hx hb dL_top_4 rfl ?_
    exact h_lret hx hb hr hlocks rfl hG hS (Nat.le_of_ble_eq_true rfl) (Nat.le_of_ble_eq_true rfl) dL_top_5
abbrev rmL_bound : Room := { frames := 83, cells := 1, slots := 6, locals := 2868 }
theorem mL_bound_0 : (Cond.classLink RL 23 "java/lang/IndexOutOfBoundsException") ∈ wsL_bound := by decide +kernel
theorem mL_bound_1 : (Cond.constantLong RL 16 (-9000000000000000)) ∈ wsL_bound := by decide +kernel
set_option maxHeartbeats 4000000 in
set_option maxRecDepth 100000 in
theorem b_bound (l : Launch) (hlt : l.stackTraces = false) (dC : Nat → ClassId) (dI : Nat → Nat → Nat) (cI cJ cZ cG : ClassId) (ad : Nat → Nat) (rw : Nat → Nat → Nat) (q : Nat) (a : AT) (sz : Nat) (p1 p2 : Int32) (hz_p2 : wB p2) : Met l yL_bound wsL_bound rmL_bound (HPc [.ref (ad 0), .int p1, .int p2] (dC, dI) cI cJ cZ cG sz ad rw q a) (HQl (tl (rBound a p1 p2)) (nx a (rBound a p1 p2)) (dC, dI) cI cJ cZ cG (HA cI cJ cZ cG ad rw sz) ad rw q) 1 6 (HA cI cJ cZ cG ad rw sz) := by
  refine va_MetW (cc := cL_bound) (maxL := 4) (ret := (some .long)) (hh := [(0, 7, 8, 23)]) (by decide) rfl ?_
  intro p e s m args below meth c s₁ B hml hv
  obtain ⟨rfl, hsz, hG0, hK, hT, hN⟩ := hv
  have hx := B.exec
  have hb := B.bytes
  have hr := B.returns
  have hts := atoms_spec (ws := wsL_bound) B.pre
  have hown : s.vm.findClass RL = some m.cls := findClass_of_methodNamed B.named
  have hlocks := B.notSynchronized
  have htb : c.exceptionTable.toList = [⟨0, 7, 8, 23⟩] := vx_table (x := yL_bound) B (hts (.codeWith yL_bound cL_bound 4 (some .long) [(0, 7, 8, 23)]) (List.mem_cons_self))
  subst hsz
  have hG := hG0.self (sz := s.heap.size)
  have hA : ∀ x, s.heap.size ≤ x → (HA cI cJ cZ cG ad rw s.heap.size) x := HA_hi
  have hS : va_S (HA cI cJ cZ cG ad rw s.heap.size) s.heap s.heap [] := va_S.rf
  generalize hAe : (HA cI cJ cZ cG ad rw s.heap.size) = A at hG hT hA hS ⊢
  have hl := lv_entry ([.ref (ad 0), .int p1, .int p2]) (n := 4) (Nat.le_of_ble_eq_true rfl)
  rw [lg_entry_eq]
  generalize (lg_sl ([.ref (ad 0), .int p1, .int p2]) ++ List.replicate (4 - (lg_sl ([.ref (ad 0), .int p1, .int p2])).length) Slot.unset).toArray = ls at hl ⊢
  have hl : lv_has ls 4 [(0, .ref (ad 0)), (1, .int p1), (2, .int p2)] := hl
  generalize hH : s.heap = H at hG ⊢
  replace hS : va_S A s.heap H [] := by rw [← hH]; exact hS
  show W p l e rmL_bound s m #[.ref (ad 0), .int p1, .int p2] below meth c H [] 0 0 (MQ below (HQl (tl (rBound a p1 p2)) (nx a (rBound a p1 p2)) (dC, dI) cI cJ cZ cG A ad rw q) #[.ref (ad 0), .int p1, .int p2] s 1 6 A) (F0 m 0 ls [])
  refine lv_aload_n hx hb dL_bound_0 rfl (lv_at hl 0 rfl) ?_
  refine lv_iload_n hx hb dL_bound_1 rfl (lv_at hl 1 rfl) ?_
  refine lv_iload_n hx hb dL_bound_2 rfl (lv_at hl 2 rfl) ?_
  refine h_callXi (As := [.int p1, .int p2]) (rest := []) ⟨hx, hb, hml, hown, hts⟩ (a_bound l hlt dC dI cI cJ cZ cG ad rw q a H.size p1 p2 hz_p2) (cwV 2 hts gL_bound_X8_bound rfl rfl rfl (by decide +kernel) ⟨Nat.le_of_ble_eq_true rfl, Nat.le_of_ble_eq_true rfl⟩) hK Foc.one hG hS hA hT rfl hl.1 rfl (Nat.le_of_ble_eq_true rfl) dL_bound_3 ⟨Nat.le_of_ble_eq_true rfl, Nat.le_of_ble_eq_true rfl⟩ (fun E ce q9 H locs hn hE hG hS h7 h8 h9 => ?_) (fun r a1 H locs hr1 hG hS => ?_)
  · rw [hn]
    cases List.mem_singleton.mp hE
    refine vx_catch hown [] ⟨0, 7, 8, 23⟩ [] htb (fun z hz => nomatch hz) (by decide) (by decide) (hts _ mL_bound_0) (va_any rfl (hT.2.2.2.1 "java/lang/IndexOutOfBoundsException" (by decide))) h7 h8 h9 ?_
    refine lv_astore_n (lv' := [(3, .ref q9), (0, .ref (ad 0)), (1, .int p1), (2, .int p2)]) hx hb dL_bound_8 rfl hl (by decide) rfl (fun ls hl => ?_)
    refine lv_ldc2 hx hb (v := -9000000000000000) hown (hts _ mL_bound_1) dL_bound_9 ?_
    exact h_lret hx hb hr hlocks rfl hG hS (Nat.le_of_ble_eq_true rfl) (Nat.le_of_ble_eq_true rfl) dL_bound_12
  · rw [hr1]
    refine lv_i2l (v := r.toInt64) hx hb dL_bound_6 rfl ?_
    exact h_lret hx hb hr hlocks rfl hG hS (Nat.le_of_ble_eq_true rfl) (Nat.le_of_ble_eq_true rfl) dL_bound_7
abbrev rmL_life : Room := { frames := 8, cells := 1, slots := 6, locals := 134 }
theorem mL_life_0 : (Cond.classLink RL 23 "java/lang/IndexOutOfBoundsException") ∈ wsL_life := by decide +kernel
theorem mL_life_1 : (Cond.constantLong RL 16 (-9000000000000000)) ∈ wsL_life := by decide +kernel
set_option maxHeartbeats 4000000 in
set_option maxRecDepth 100000 in
theorem b_life (l : Launch) (hlt : l.stackTraces = false) (dC : Nat → ClassId) (dI : Nat → Nat → Nat) (cI cJ cZ cG : ClassId) (ad : Nat → Nat) (rw : Nat → Nat → Nat) (q : Nat) (a : AT) (sz : Nat) (p1 p2 : Int32) (hz_p2 : wB p2) : Met l yL_life wsL_life rmL_life (HPc [.ref (ad 0), .int p1, .int p2] (dC, dI) cI cJ cZ cG sz ad rw q a) (HQl (tl (rLife a p1 p2)) (nx a (rLife a p1 p2)) (dC, dI) cI cJ cZ cG (HA cI cJ cZ cG ad rw sz) ad rw q) 1 6 (HA cI cJ cZ cG ad rw sz) := by
  refine va_MetW (cc := cL_life) (maxL := 4) (ret := (some .long)) (hh := [(0, 7, 8, 23)]) (by decide) rfl ?_
  intro p e s m args below meth c s₁ B hml hv
  obtain ⟨rfl, hsz, hG0, hK, hT, hN⟩ := hv
  have hx := B.exec
  have hb := B.bytes
  have hr := B.returns
  have hts := atoms_spec (ws := wsL_life) B.pre
  have hown : s.vm.findClass RL = some m.cls := findClass_of_methodNamed B.named
  have hlocks := B.notSynchronized
  have htb : c.exceptionTable.toList = [⟨0, 7, 8, 23⟩] := vx_table (x := yL_life) B (hts (.codeWith yL_life cL_life 4 (some .long) [(0, 7, 8, 23)]) (List.mem_cons_self))
  subst hsz
  have hG := hG0.self (sz := s.heap.size)
  have hA : ∀ x, s.heap.size ≤ x → (HA cI cJ cZ cG ad rw s.heap.size) x := HA_hi
  have hS : va_S (HA cI cJ cZ cG ad rw s.heap.size) s.heap s.heap [] := va_S.rf
  generalize hAe : (HA cI cJ cZ cG ad rw s.heap.size) = A at hG hT hA hS ⊢
  have hl := lv_entry ([.ref (ad 0), .int p1, .int p2]) (n := 4) (Nat.le_of_ble_eq_true rfl)
  rw [lg_entry_eq]
  generalize (lg_sl ([.ref (ad 0), .int p1, .int p2]) ++ List.replicate (4 - (lg_sl ([.ref (ad 0), .int p1, .int p2])).length) Slot.unset).toArray = ls at hl ⊢
  have hl : lv_has ls 4 [(0, .ref (ad 0)), (1, .int p1), (2, .int p2)] := hl
  generalize hH : s.heap = H at hG ⊢
  replace hS : va_S A s.heap H [] := by rw [← hH]; exact hS
  show W p l e rmL_life s m #[.ref (ad 0), .int p1, .int p2] below meth c H [] 0 0 (MQ below (HQl (tl (rLife a p1 p2)) (nx a (rLife a p1 p2)) (dC, dI) cI cJ cZ cG A ad rw q) #[.ref (ad 0), .int p1, .int p2] s 1 6 A) (F0 m 0 ls [])
  refine lv_aload_n hx hb dL_life_0 rfl (lv_at hl 0 rfl) ?_
  refine lv_iload_n hx hb dL_life_1 rfl (lv_at hl 1 rfl) ?_
  refine lv_iload_n hx hb dL_life_2 rfl (lv_at hl 2 rfl) ?_
  refine h_callXi (As := [.int p1, .int p2]) (rest := []) ⟨hx, hb, hml, hown, hts⟩ (a_life l hlt dC dI cI cJ cZ cG ad rw q a H.size p1 p2 hz_p2) (cwV 2 hts gL_life_X8_life rfl rfl rfl (by decide +kernel) ⟨Nat.le_of_ble_eq_true rfl, Nat.le_of_ble_eq_true rfl⟩) hK Foc.one hG hS hA hT rfl hl.1 rfl (Nat.le_of_ble_eq_true rfl) dL_life_3 ⟨Nat.le_of_ble_eq_true rfl, Nat.le_of_ble_eq_true rfl⟩ (fun E ce q9 H locs hn hE hG hS h7 h8 h9 => ?_) (fun r a1 H locs hr1 hG hS => ?_)
  · rw [hn]
    cases List.mem_singleton.mp hE
    refine vx_catch hown [] ⟨0, 7, 8, 23⟩ [] htb (fun z hz => nomatch hz) (by decide) (by decide) (hts _ mL_life_0) (va_any rfl (hT.2.2.2.1 "java/lang/IndexOutOfBoundsException" (by decide))) h7 h8 h9 ?_
    refine lv_astore_n (lv' := [(3, .ref q9), (0, .ref (ad 0)), (1, .int p1), (2, .int p2)]) hx hb dL_life_8 rfl hl (by decide) rfl (fun ls hl => ?_)
    refine lv_ldc2 hx hb (v := -9000000000000000) hown (hts _ mL_life_1) dL_life_9 ?_
    exact h_lret hx hb hr hlocks rfl hG hS (Nat.le_of_ble_eq_true rfl) (Nat.le_of_ble_eq_true rfl) dL_life_12
  · rw [hr1]
    refine lv_i2l (v := r.toInt64) hx hb dL_life_6 rfl ?_
    exact h_lret hx hb hr hlocks rfl hG hS (Nat.le_of_ble_eq_true rfl) (Nat.le_of_ble_eq_true rfl) dL_life_7
abbrev rmL_put : Room := { frames := 8, cells := 3, slots := 18, locals := 135 }
theorem mL_put_0 : (Cond.classLink RL 23 "java/lang/IndexOutOfBoundsException") ∈ wsL_put := by decide +kernel
theorem mL_put_1 : (Cond.constantLong RL 16 (-9000000000000000)) ∈ wsL_put := by decide +kernel
theorem mL_put_2 : (Cond.classLink RL 18 "java/lang/IllegalStateException") ∈ wsL_put := by decide +kernel
set_option maxHeartbeats 4000000 in
set_option maxRecDepth 100000 in
theorem b_put (l : Launch) (hlt : l.stackTraces = false) (dC : Nat → ClassId) (dI : Nat → Nat → Nat) (cI cJ cZ cG : ClassId) (ad : Nat → Nat) (rw : Nat → Nat → Nat) (q : Nat) (a : AT) (sz : Nat) (p1 p2 : Int32) : Met l yL_put wsL_put rmL_put (HPc [.ref (ad 0), .int p1, .int p2] (dC, dI) cI cJ cZ cG sz ad rw q a) (HQl (tl (rPut a p1 p2)) (nx a (rPut a p1 p2)) (dC, dI) cI cJ cZ cG (HA cI cJ cZ cG ad rw sz) ad rw q) 3 18 (HA cI cJ cZ cG ad rw sz) := by
  refine va_MetW (cc := cL_put) (maxL := 4) (ret := (some .long)) (hh := [(0, 7, 8, 23), (0, 7, 13, 18)]) (by decide) rfl ?_
  intro p e s m args below meth c s₁ B hml hv
  obtain ⟨rfl, hsz, hG0, hK, hT, hN⟩ := hv
  have hx := B.exec
  have hb := B.bytes
  have hr := B.returns
  have hts := atoms_spec (ws := wsL_put) B.pre
  have hown : s.vm.findClass RL = some m.cls := findClass_of_methodNamed B.named
  have hlocks := B.notSynchronized
  have htb : c.exceptionTable.toList = [⟨0, 7, 8, 23⟩, ⟨0, 7, 13, 18⟩] := vx_table (x := yL_put) B (hts (.codeWith yL_put cL_put 4 (some .long) [(0, 7, 8, 23), (0, 7, 13, 18)]) (List.mem_cons_self))
  subst hsz
  have hG := hG0.self (sz := s.heap.size)
  have hA : ∀ x, s.heap.size ≤ x → (HA cI cJ cZ cG ad rw s.heap.size) x := HA_hi
  have hS : va_S (HA cI cJ cZ cG ad rw s.heap.size) s.heap s.heap [] := va_S.rf
  generalize hAe : (HA cI cJ cZ cG ad rw s.heap.size) = A at hG hT hA hS ⊢
  have hl := lv_entry ([.ref (ad 0), .int p1, .int p2]) (n := 4) (Nat.le_of_ble_eq_true rfl)
  rw [lg_entry_eq]
  generalize (lg_sl ([.ref (ad 0), .int p1, .int p2]) ++ List.replicate (4 - (lg_sl ([.ref (ad 0), .int p1, .int p2])).length) Slot.unset).toArray = ls at hl ⊢
  have hl : lv_has ls 4 [(0, .ref (ad 0)), (1, .int p1), (2, .int p2)] := hl
  generalize hH : s.heap = H at hG ⊢
  replace hS : va_S A s.heap H [] := by rw [← hH]; exact hS
  show W p l e rmL_put s m #[.ref (ad 0), .int p1, .int p2] below meth c H [] 0 0 (MQ below (HQl (tl (rPut a p1 p2)) (nx a (rPut a p1 p2)) (dC, dI) cI cJ cZ cG A ad rw q) #[.ref (ad 0), .int p1, .int p2] s 3 18 A) (F0 m 0 ls [])
  refine lv_aload_n hx hb dL_put_0 rfl (lv_at hl 0 rfl) ?_
  refine lv_iload_n hx hb dL_put_1 rfl (lv_at hl 1 rfl) ?_
  refine lv_iload_n hx hb dL_put_2 rfl (lv_at hl 2 rfl) ?_
  refine h_callXi (As := [.int p1, .int p2]) (rest := []) ⟨hx, hb, hml, hown, hts⟩ (a_put l hlt dC dI cI cJ cZ cG ad rw q a H.size p1 p2 ) (cwV 2 hts gL_put_X8_put rfl rfl rfl (by decide +kernel) ⟨Nat.le_of_ble_eq_true rfl, Nat.le_of_ble_eq_true rfl⟩) hK Foc.one hG hS hA hT rfl hl.1 rfl (Nat.le_of_ble_eq_true rfl) dL_put_3 ⟨Nat.le_of_ble_eq_true rfl, Nat.le_of_ble_eq_true rfl⟩ (fun E ce q9 H locs hn hE hG hS h7 h8 h9 => ?_) (fun r a1 H locs hr1 hG hS => ?_)
  · rw [hn]
    rcases List.mem_cons.mp hE with rfl | hE
    · refine vx_catch hown [] ⟨0, 7, 8, 23⟩ [⟨0, 7, 13, 18⟩] htb (fun z hz => nomatch hz) (by decide) (by decide) (hts _ mL_put_0) (va_any rfl (hT.2.2.2.1 "java/lang/IndexOutOfBoundsException" (by decide))) h7 h8 h9 ?_
      refine lv_astore_n (lv' := [(3, .ref q9), (0, .ref (ad 0)), (1, .int p1), (2, .int p2)]) hx hb dL_put_8 rfl hl (by decide) rfl (fun ls hl => ?_)
      refine lv_ldc2 hx hb (v := -9000000000000000) hown (hts _ mL_put_1) dL_put_9 ?_
      exact h_lret hx hb hr hlocks rfl hG hS (Nat.le_of_ble_eq_true rfl) (Nat.le_of_ble_eq_true rfl) dL_put_12
    · cases List.mem_singleton.mp hE
      refine vx_catch hown [⟨0, 7, 8, 23⟩] ⟨0, 7, 13, 18⟩ [] htb (fun z hz => Or.inr (by cases List.mem_singleton.mp hz; exact ⟨by decide, "java/lang/IndexOutOfBoundsException", hts _ mL_put_0, hN ("java/lang/IllegalStateException", "java/lang/IndexOutOfBoundsException") (by decide)⟩)) (by decide) (by decide) (hts _ mL_put_2) (va_any rfl (hT.2.2.2.1 "java/lang/IllegalStateException" (by decide))) h7 h8 h9 ?_
      refine lv_astore_n (lv' := [(3, .ref q9), (0, .ref (ad 0)), (1, .int p1), (2, .int p2)]) hx hb dL_put_13 rfl hl (by decide) rfl (fun ls hl => ?_)
      refine lv_ldc2 hx hb (v := -9000000000000000) hown (hts _ mL_put_1) dL_put_14 ?_
      exact h_lret hx hb hr hlocks rfl hG hS (Nat.le_of_ble_eq_true rfl) (Nat.le_of_ble_eq_true rfl) dL_put_17
  · rw [hr1]
    refine lv_i2l (v := r.toInt64) hx hb dL_put_6 rfl ?_
    exact h_lret hx hb hr hlocks rfl hG hS (Nat.le_of_ble_eq_true rfl) (Nat.le_of_ble_eq_true rfl) dL_put_7
abbrev rmL_isGood : Room := { frames := 8, cells := 2, slots := 12, locals := 135 }
theorem mL_isGood_0 : (Cond.classLink RL 23 "java/lang/IndexOutOfBoundsException") ∈ wsL_isGood := by decide +kernel
theorem mL_isGood_1 : (Cond.constantLong RL 16 (-9000000000000000)) ∈ wsL_isGood := by decide +kernel
theorem mL_isGood_2 : (Cond.classLink RL 14 "java/lang/IllegalArgumentException") ∈ wsL_isGood := by decide +kernel
set_option maxHeartbeats 4000000 in
set_option maxRecDepth 100000 in
theorem b_isGood (l : Launch) (hlt : l.stackTraces = false) (dC : Nat → ClassId) (dI : Nat → Nat → Nat) (cI cJ cZ cG : ClassId) (ad : Nat → Nat) (rw : Nat → Nat → Nat) (q : Nat) (a : AT) (sz : Nat) (p1 p2 : Int32) : Met l yL_isGood wsL_isGood rmL_isGood (HPc [.ref (ad 0), .int p1, .int p2] (dC, dI) cI cJ cZ cG sz ad rw q a) (HQl (tz (rIsGood a p1 p2)) (nx a (rIsGood a p1 p2)) (dC, dI) cI cJ cZ cG (HA cI cJ cZ cG ad rw sz) ad rw q) 2 12 (HA cI cJ cZ cG ad rw sz) := by
  refine va_MetW (cc := cL_isGood) (maxL := 4) (ret := (some .long)) (hh := [(0, 14, 15, 23), (0, 14, 20, 14)]) (by decide) rfl ?_
  intro p e s m args below meth c s₁ B hml hv
  obtain ⟨rfl, hsz, hG0, hK, hT, hN⟩ := hv
  have hx := B.exec
  have hb := B.bytes
  have hr := B.returns
  have hts := atoms_spec (ws := wsL_isGood) B.pre
  have hown : s.vm.findClass RL = some m.cls := findClass_of_methodNamed B.named
  have hlocks := B.notSynchronized
  have htb : c.exceptionTable.toList = [⟨0, 14, 15, 23⟩, ⟨0, 14, 20, 14⟩] := vx_table (x := yL_isGood) B (hts (.codeWith yL_isGood cL_isGood 4 (some .long) [(0, 14, 15, 23), (0, 14, 20, 14)]) (List.mem_cons_self))
  subst hsz
  have hG := hG0.self (sz := s.heap.size)
  have hA : ∀ x, s.heap.size ≤ x → (HA cI cJ cZ cG ad rw s.heap.size) x := HA_hi
  have hS : va_S (HA cI cJ cZ cG ad rw s.heap.size) s.heap s.heap [] := va_S.rf
  generalize hAe : (HA cI cJ cZ cG ad rw s.heap.size) = A at hG hT hA hS ⊢
  have hl := lv_entry ([.ref (ad 0), .int p1, .int p2]) (n := 4) (Nat.le_of_ble_eq_true rfl)
  rw [lg_entry_eq]
  generalize (lg_sl ([.ref (ad 0), .int p1, .int p2]) ++ List.replicate (4 - (lg_sl ([.ref (ad 0), .int p1, .int p2])).length) Slot.unset).toArray = ls at hl ⊢
  have hl : lv_has ls 4 [(0, .ref (ad 0)), (1, .int p1), (2, .int p2)] := hl
  generalize hH : s.heap = H at hG ⊢
  replace hS : va_S A s.heap H [] := by rw [← hH]; exact hS
  show W p l e rmL_isGood s m #[.ref (ad 0), .int p1, .int p2] below meth c H [] 0 0 (MQ below (HQl (tz (rIsGood a p1 p2)) (nx a (rIsGood a p1 p2)) (dC, dI) cI cJ cZ cG A ad rw q) #[.ref (ad 0), .int p1, .int p2] s 2 12 A) (F0 m 0 ls [])
  refine lv_aload_n hx hb dL_isGood_0 rfl (lv_at hl 0 rfl) ?_
  refine lv_iload_n hx hb dL_isGood_1 rfl (lv_at hl 1 rfl) ?_
  refine lv_iload_n hx hb dL_isGood_2 rfl (lv_at hl 2 rfl) ?_
  refine h_callXi (As := [.int p1, .int p2]) (rest := []) ⟨hx, hb, hml, hown, hts⟩ (a_isGood l hlt dC dI cI cJ cZ cG ad rw q a H.size p1 p2 ) (cwV 2 hts gL_isGood_X8_isGood rfl rfl rfl (by decide +kernel) ⟨Nat.le_of_ble_eq_true rfl, Nat.le_of_ble_eq_true rfl⟩) hK Foc.one hG hS hA hT rfl hl.1 rfl (Nat.le_of_ble_eq_true rfl) dL_isGood_3 ⟨Nat.le_of_ble_eq_true rfl, Nat.le_of_ble_eq_true rfl⟩ (fun E ce q9 H locs hn hE hG hS h7 h8 h9 => ?_) (fun r a1 H locs hr1 hG hS => ?_)
  · rw [hn]
    rcases List.mem_cons.mp hE with rfl | hE
    · refine vx_catch hown [] ⟨0, 14, 15, 23⟩ [⟨0, 14, 20, 14⟩] htb (fun z hz => nomatch hz) (by decide) (by decide) (hts _ mL_isGood_0) (va_any rfl (hT.2.2.2.1 "java/lang/IndexOutOfBoundsException" (by decide))) h7 h8 h9 ?_
      refine lv_astore_n (lv' := [(3, .ref q9), (0, .ref (ad 0)), (1, .int p1), (2, .int p2)]) hx hb dL_isGood_15 rfl hl (by decide) rfl (fun ls hl => ?_)
      refine lv_ldc2 hx hb (v := -9000000000000000) hown (hts _ mL_isGood_1) dL_isGood_16 ?_
      exact h_lret hx hb hr hlocks rfl hG hS (Nat.le_of_ble_eq_true rfl) (Nat.le_of_ble_eq_true rfl) dL_isGood_19
    · cases List.mem_singleton.mp hE
      refine vx_catch hown [⟨0, 14, 15, 23⟩] ⟨0, 14, 20, 14⟩ [] htb (fun z hz => Or.inr (by cases List.mem_singleton.mp hz; exact ⟨by decide, "java/lang/IndexOutOfBoundsException", hts _ mL_isGood_0, hN ("java/lang/IllegalArgumentException", "java/lang/IndexOutOfBoundsException") (by decide)⟩)) (by decide) (by decide) (hts _ mL_isGood_2) (va_any rfl (hT.2.2.2.1 "java/lang/IllegalArgumentException" (by decide))) h7 h8 h9 ?_
      refine lv_astore_n (lv' := [(3, .ref q9), (0, .ref (ad 0)), (1, .int p1), (2, .int p2)]) hx hb dL_isGood_20 rfl hl (by decide) rfl (fun ls hl => ?_)
      refine lv_ldc2 hx hb (v := -9000000000000000) hown (hts _ mL_isGood_1) dL_isGood_21 ?_
      exact h_lret hx hb hr hlocks rfl hG hS (Nat.le_of_ble_eq_true rfl) (Nat.le_of_ble_eq_true rfl) dL_isGood_24
  · rw [hr1]
    refine lv_if_eq (tgt := 13) hx hb dL_isGood_6 (by decide) (fun c_1 => ?_) (fun c_1 => ?_)
    · refine lv_lconst (v := 0) hx hb dL_isGood_13 rfl ?_
      exact h_lret hx hb hr hlocks (by show (0 : Int64) = if r = 0 then 0 else 1; rw [if_pos c_1]) hG hS (Nat.le_of_ble_eq_true rfl) (Nat.le_of_ble_eq_true rfl) dL_isGood_14
    · refine lv_lconst (v := 1) hx hb dL_isGood_9 rfl ?_
      refine lv_goto (tgt := 14) hx hb dL_isGood_10 (by decide) ?_
      exact h_lret hx hb hr hlocks (by show (1 : Int64) = if r = 0 then 0 else 1; rw [if_neg c_1]) hG hS (Nat.le_of_ble_eq_true rfl) (Nat.le_of_ble_eq_true rfl) dL_isGood_14
abbrev rmL_draft : Room := { frames := 7, cells := 1, slots := 6, locals := 115 }
theorem mL_draft_0 : (Cond.classLink RL 14 "java/lang/IllegalArgumentException") ∈ wsL_draft := by decide +kernel
theorem mL_draft_1 : (Cond.constantLong RL 16 (-9000000000000000)) ∈ wsL_draft := by decide +kernel
theorem mL_draft_2 : (Cond.classLink RL 18 "java/lang/IllegalStateException") ∈ wsL_draft := by decide +kernel
set_option maxHeartbeats 4000000 in
set_option maxRecDepth 100000 in
theorem b_draft (l : Launch) (hlt : l.stackTraces = false) (dC : Nat → ClassId) (dI : Nat → Nat → Nat) (cI cJ cZ cG : ClassId) (ad : Nat → Nat) (rw : Nat → Nat → Nat) (q : Nat) (a : AT) (sz : Nat) (p1 p2 p3 : Int32) : Met l yL_draft wsL_draft rmL_draft (HPc [.ref (ad 0), .int p1, .int p2, .int p3] (dC, dI) cI cJ cZ cG sz ad rw q a) (HQl (tl (rDraft a p1 p2 p3)) (nx a (rDraft a p1 p2 p3)) (dC, dI) cI cJ cZ cG (HA cI cJ cZ cG ad rw sz) ad rw q) 1 6 (HA cI cJ cZ cG ad rw sz) := by
  refine va_MetW (cc := cL_draft) (maxL := 5) (ret := (some .long)) (hh := [(0, 8, 9, 14), (0, 8, 15, 18)]) (by decide) rfl ?_
  intro p e s m args below meth c s₁ B hml hv
  obtain ⟨rfl, hsz, hG0, hK, hT, hN⟩ := hv
  have hx := B.exec
  have hb := B.bytes
  have hr := B.returns
  have hts := atoms_spec (ws := wsL_draft) B.pre
  have hown : s.vm.findClass RL = some m.cls := findClass_of_methodNamed B.named
  have hlocks := B.notSynchronized
  have htb : c.exceptionTable.toList = [⟨0, 8, 9, 14⟩, ⟨0, 8, 15, 18⟩] := vx_table (x := yL_draft) B (hts (.codeWith yL_draft cL_draft 5 (some .long) [(0, 8, 9, 14), (0, 8, 15, 18)]) (List.mem_cons_self))
  subst hsz
  have hG := hG0.self (sz := s.heap.size)
  have hA : ∀ x, s.heap.size ≤ x → (HA cI cJ cZ cG ad rw s.heap.size) x := HA_hi
  have hS : va_S (HA cI cJ cZ cG ad rw s.heap.size) s.heap s.heap [] := va_S.rf
  generalize hAe : (HA cI cJ cZ cG ad rw s.heap.size) = A at hG hT hA hS ⊢
  have hl := lv_entry ([.ref (ad 0), .int p1, .int p2, .int p3]) (n := 5) (Nat.le_of_ble_eq_true rfl)
  rw [lg_entry_eq]
  generalize (lg_sl ([.ref (ad 0), .int p1, .int p2, .int p3]) ++ List.replicate (5 - (lg_sl ([.ref (ad 0), .int p1, .int p2, .int p3])).length) Slot.unset).toArray = ls at hl ⊢
  have hl : lv_has ls 5 [(0, .ref (ad 0)), (1, .int p1), (2, .int p2), (3, .int p3)] := hl
  generalize hH : s.heap = H at hG ⊢
  replace hS : va_S A s.heap H [] := by rw [← hH]; exact hS
  show W p l e rmL_draft s m #[.ref (ad 0), .int p1, .int p2, .int p3] below meth c H [] 0 0 (MQ below (HQl (tl (rDraft a p1 p2 p3)) (nx a (rDraft a p1 p2 p3)) (dC, dI) cI cJ cZ cG A ad rw q) #[.ref (ad 0), .int p1, .int p2, .int p3] s 1 6 A) (F0 m 0 ls [])
  refine lv_aload_n hx hb dL_draft_0 rfl (lv_at hl 0 rfl) ?_
  refine lv_iload_n hx hb dL_draft_1 rfl (lv_at hl 1 rfl) ?_
  refine lv_iload_n hx hb dL_draft_2 rfl (lv_at hl 2 rfl) ?_
  refine lv_iload_n hx hb dL_draft_3 rfl (lv_at hl 3 rfl) ?_
  refine h_callXv (As := [.int p1, .int p2, .int p3]) (rest := []) ⟨hx, hb, hml, hown, hts⟩ (a_draft l hlt dC dI cI cJ cZ cG ad rw q a H.size p1 p2 p3 ) (cwV 3 hts gL_draft_X8_draft rfl rfl rfl (by decide +kernel) ⟨Nat.le_of_ble_eq_true rfl, Nat.le_of_ble_eq_true rfl⟩) hK Foc.one hG hS hA hT rfl hl.1 rfl (Nat.le_of_ble_eq_true rfl) dL_draft_4 ⟨Nat.le_of_ble_eq_true rfl, Nat.le_of_ble_eq_true rfl⟩ (fun E ce q9 H locs hn hE hG hS h7 h8 h9 => ?_) (fun a1 H locs hr1 hG hS => ?_)
  · rw [hn]
    rcases List.mem_cons.mp hE with rfl | hE
    · refine vx_catch hown [] ⟨0, 8, 9, 14⟩ [⟨0, 8, 15, 18⟩] htb (fun z hz => nomatch hz) (by decide) (by decide) (hts _ mL_draft_0) (va_any rfl (hT.2.2.2.1 "java/lang/IllegalArgumentException" (by decide))) h7 h8 h9 ?_
      refine lv_astore (lv' := [(4, .ref q9), (0, .ref (ad 0)), (1, .int p1), (2, .int p2), (3, .int p3)]) hx hb dL_draft_9 hl (by decide) rfl (fun ls hl => ?_)
      refine lv_ldc2 hx hb (v := -9000000000000000) hown (hts _ mL_draft_1) dL_draft_11 ?_
      exact h_lret hx hb hr hlocks rfl hG hS (Nat.le_of_ble_eq_true rfl) (Nat.le_of_ble_eq_true rfl) dL_draft_14
    · cases List.mem_singleton.mp hE
      refine vx_catch hown [⟨0, 8, 9, 14⟩] ⟨0, 8, 15, 18⟩ [] htb (fun z hz => Or.inr (by cases List.mem_singleton.mp hz; exact ⟨by decide, "java/lang/IllegalArgumentException", hts _ mL_draft_0, hN ("java/lang/IllegalStateException", "java/lang/IllegalArgumentException") (by decide)⟩)) (by decide) (by decide) (hts _ mL_draft_2) (va_any rfl (hT.2.2.2.1 "java/lang/IllegalStateException" (by decide))) h7 h8 h9 ?_
      refine lv_astore (lv' := [(4, .ref q9), (0, .ref (ad 0)), (1, .int p1), (2, .int p2), (3, .int p3)]) hx hb dL_draft_15 hl (by decide) rfl (fun ls hl => ?_)
      refine lv_ldc2 hx hb (v := -9000000000000000) hown (hts _ mL_draft_1) dL_draft_17 ?_
      exact h_lret hx hb hr hlocks rfl hG hS (Nat.le_of_ble_eq_true rfl) (Nat.le_of_ble_eq_true rfl) dL_draft_20
  · rw [hr1]
    refine lv_lconst (v := 0) hx hb dL_draft_7 rfl ?_
    exact h_lret hx hb hr hlocks rfl hG hS (Nat.le_of_ble_eq_true rfl) (Nat.le_of_ble_eq_true rfl) dL_draft_8
abbrev rmL_offered : Room := { frames := 7, cells := 1, slots := 6, locals := 113 }
theorem mL_offered_0 : (Cond.classLink RL 23 "java/lang/IndexOutOfBoundsException") ∈ wsL_offered := by decide +kernel
theorem mL_offered_1 : (Cond.constantLong RL 16 (-9000000000000000)) ∈ wsL_offered := by decide +kernel
set_option maxHeartbeats 4000000 in
set_option maxRecDepth 100000 in
theorem b_offered (l : Launch) (hlt : l.stackTraces = false) (dC : Nat → ClassId) (dI : Nat → Nat → Nat) (cI cJ cZ cG : ClassId) (ad : Nat → Nat) (rw : Nat → Nat → Nat) (q : Nat) (a : AT) (sz : Nat) (p1 : Int32) : Met l yL_offered wsL_offered rmL_offered (HPc [.ref (ad 0), .int p1] (dC, dI) cI cJ cZ cG sz ad rw q a) (HQl (tl (rOffered a p1)) (nx a (rOffered a p1)) (dC, dI) cI cJ cZ cG (HA cI cJ cZ cG ad rw sz) ad rw q) 1 6 (HA cI cJ cZ cG ad rw sz) := by
  refine va_MetW (cc := cL_offered) (maxL := 3) (ret := (some .long)) (hh := [(0, 6, 7, 23)]) (by decide) rfl ?_
  intro p e s m args below meth c s₁ B hml hv
  obtain ⟨rfl, hsz, hG0, hK, hT, hN⟩ := hv
  have hx := B.exec
  have hb := B.bytes
  have hr := B.returns
  have hts := atoms_spec (ws := wsL_offered) B.pre
  have hown : s.vm.findClass RL = some m.cls := findClass_of_methodNamed B.named
  have hlocks := B.notSynchronized
  have htb : c.exceptionTable.toList = [⟨0, 6, 7, 23⟩] := vx_table (x := yL_offered) B (hts (.codeWith yL_offered cL_offered 3 (some .long) [(0, 6, 7, 23)]) (List.mem_cons_self))
  subst hsz
  have hG := hG0.self (sz := s.heap.size)
  have hA : ∀ x, s.heap.size ≤ x → (HA cI cJ cZ cG ad rw s.heap.size) x := HA_hi
  have hS : va_S (HA cI cJ cZ cG ad rw s.heap.size) s.heap s.heap [] := va_S.rf
  generalize hAe : (HA cI cJ cZ cG ad rw s.heap.size) = A at hG hT hA hS ⊢
  have hl := lv_entry ([.ref (ad 0), .int p1]) (n := 3) (Nat.le_of_ble_eq_true rfl)
  rw [lg_entry_eq]
  generalize (lg_sl ([.ref (ad 0), .int p1]) ++ List.replicate (3 - (lg_sl ([.ref (ad 0), .int p1])).length) Slot.unset).toArray = ls at hl ⊢
  have hl : lv_has ls 3 [(0, .ref (ad 0)), (1, .int p1)] := hl
  generalize hH : s.heap = H at hG ⊢
  replace hS : va_S A s.heap H [] := by rw [← hH]; exact hS
  show W p l e rmL_offered s m #[.ref (ad 0), .int p1] below meth c H [] 0 0 (MQ below (HQl (tl (rOffered a p1)) (nx a (rOffered a p1)) (dC, dI) cI cJ cZ cG A ad rw q) #[.ref (ad 0), .int p1] s 1 6 A) (F0 m 0 ls [])
  refine lv_aload_n hx hb dL_offered_0 rfl (lv_at hl 0 rfl) ?_
  refine lv_iload_n hx hb dL_offered_1 rfl (lv_at hl 1 rfl) ?_
  refine h_callXi (As := [.int p1]) (rest := []) ⟨hx, hb, hml, hown, hts⟩ (a_offered l hlt dC dI cI cJ cZ cG ad rw q a H.size p1 ) (cwV 1 hts gL_offered_X8_offered rfl rfl rfl (by decide +kernel) ⟨Nat.le_of_ble_eq_true rfl, Nat.le_of_ble_eq_true rfl⟩) hK Foc.one hG hS hA hT rfl hl.1 rfl (Nat.le_of_ble_eq_true rfl) dL_offered_2 ⟨Nat.le_of_ble_eq_true rfl, Nat.le_of_ble_eq_true rfl⟩ (fun E ce q9 H locs hn hE hG hS h7 h8 h9 => ?_) (fun r a1 H locs hr1 hG hS => ?_)
  · rw [hn]
    cases List.mem_singleton.mp hE
    refine vx_catch hown [] ⟨0, 6, 7, 23⟩ [] htb (fun z hz => nomatch hz) (by decide) (by decide) (hts _ mL_offered_0) (va_any rfl (hT.2.2.2.1 "java/lang/IndexOutOfBoundsException" (by decide))) h7 h8 h9 ?_
    refine lv_astore_n (lv' := [(2, .ref q9), (0, .ref (ad 0)), (1, .int p1)]) hx hb dL_offered_7 rfl hl (by decide) rfl (fun ls hl => ?_)
    refine lv_ldc2 hx hb (v := -9000000000000000) hown (hts _ mL_offered_1) dL_offered_8 ?_
    exact h_lret hx hb hr hlocks rfl hG hS (Nat.le_of_ble_eq_true rfl) (Nat.le_of_ble_eq_true rfl) dL_offered_11
  · rw [hr1]
    refine lv_i2l (v := r.toInt64) hx hb dL_offered_5 rfl ?_
    exact h_lret hx hb hr hlocks rfl hG hS (Nat.le_of_ble_eq_true rfl) (Nat.le_of_ble_eq_true rfl) dL_offered_6
abbrev rmL_pick : Room := { frames := 7, cells := 1, slots := 6, locals := 113 }
theorem mL_pick_0 : (Cond.classLink RL 23 "java/lang/IndexOutOfBoundsException") ∈ wsL_pick := by decide +kernel
theorem mL_pick_1 : (Cond.constantLong RL 16 (-9000000000000000)) ∈ wsL_pick := by decide +kernel
theorem mL_pick_2 : (Cond.classLink RL 18 "java/lang/IllegalStateException") ∈ wsL_pick := by decide +kernel
set_option maxHeartbeats 4000000 in
set_option maxRecDepth 100000 in
theorem b_pick (l : Launch) (hlt : l.stackTraces = false) (dC : Nat → ClassId) (dI : Nat → Nat → Nat) (cI cJ cZ cG : ClassId) (ad : Nat → Nat) (rw : Nat → Nat → Nat) (q : Nat) (a : AT) (sz : Nat) (p1 : Int32) : Met l yL_pick wsL_pick rmL_pick (HPc [.ref (ad 0), .int p1] (dC, dI) cI cJ cZ cG sz ad rw q a) (HQl (tl (rPick a p1)) (nx a (rPick a p1)) (dC, dI) cI cJ cZ cG (HA cI cJ cZ cG ad rw sz) ad rw q) 1 6 (HA cI cJ cZ cG ad rw sz) := by
  refine va_MetW (cc := cL_pick) (maxL := 3) (ret := (some .long)) (hh := [(0, 6, 7, 23), (0, 6, 12, 18)]) (by decide) rfl ?_
  intro p e s m args below meth c s₁ B hml hv
  obtain ⟨rfl, hsz, hG0, hK, hT, hN⟩ := hv
  have hx := B.exec
  have hb := B.bytes
  have hr := B.returns
  have hts := atoms_spec (ws := wsL_pick) B.pre
  have hown : s.vm.findClass RL = some m.cls := findClass_of_methodNamed B.named
  have hlocks := B.notSynchronized
  have htb : c.exceptionTable.toList = [⟨0, 6, 7, 23⟩, ⟨0, 6, 12, 18⟩] := vx_table (x := yL_pick) B (hts (.codeWith yL_pick cL_pick 3 (some .long) [(0, 6, 7, 23), (0, 6, 12, 18)]) (List.mem_cons_self))
  subst hsz
  have hG := hG0.self (sz := s.heap.size)
  have hA : ∀ x, s.heap.size ≤ x → (HA cI cJ cZ cG ad rw s.heap.size) x := HA_hi
  have hS : va_S (HA cI cJ cZ cG ad rw s.heap.size) s.heap s.heap [] := va_S.rf
  generalize hAe : (HA cI cJ cZ cG ad rw s.heap.size) = A at hG hT hA hS ⊢
  have hl := lv_entry ([.ref (ad 0), .int p1]) (n := 3) (Nat.le_of_ble_eq_true rfl)
  rw [lg_entry_eq]
  generalize (lg_sl ([.ref (ad 0), .int p1]) ++ List.replicate (3 - (lg_sl ([.ref (ad 0), .int p1])).length) Slot.unset).toArray = ls at hl ⊢
  have hl : lv_has ls 3 [(0, .ref (ad 0)), (1, .int p1)] := hl
  generalize hH : s.heap = H at hG ⊢
  replace hS : va_S A s.heap H [] := by rw [← hH]; exact hS
  show W p l e rmL_pick s m #[.ref (ad 0), .int p1] below meth c H [] 0 0 (MQ below (HQl (tl (rPick a p1)) (nx a (rPick a p1)) (dC, dI) cI cJ cZ cG A ad rw q) #[.ref (ad 0), .int p1] s 1 6 A) (F0 m 0 ls [])
  refine lv_aload_n hx hb dL_pick_0 rfl (lv_at hl 0 rfl) ?_
  refine lv_iload_n hx hb dL_pick_1 rfl (lv_at hl 1 rfl) ?_
  refine h_callXi (As := [.int p1]) (rest := []) ⟨hx, hb, hml, hown, hts⟩ (a_pick l hlt dC dI cI cJ cZ cG ad rw q a H.size p1 ) (cwV 1 hts gL_pick_X8_pick rfl rfl rfl (by decide +kernel) ⟨Nat.le_of_ble_eq_true rfl, Nat.le_of_ble_eq_true rfl⟩) hK Foc.one hG hS hA hT rfl hl.1 rfl (Nat.le_of_ble_eq_true rfl) dL_pick_2 ⟨Nat.le_of_ble_eq_true rfl, Nat.le_of_ble_eq_true rfl⟩ (fun E ce q9 H locs hn hE hG hS h7 h8 h9 => ?_) (fun r a1 H locs hr1 hG hS => ?_)
  · rw [hn]
    rcases List.mem_cons.mp hE with rfl | hE
    · refine vx_catch hown [] ⟨0, 6, 7, 23⟩ [⟨0, 6, 12, 18⟩] htb (fun z hz => nomatch hz) (by decide) (by decide) (hts _ mL_pick_0) (va_any rfl (hT.2.2.2.1 "java/lang/IndexOutOfBoundsException" (by decide))) h7 h8 h9 ?_
      refine lv_astore_n (lv' := [(2, .ref q9), (0, .ref (ad 0)), (1, .int p1)]) hx hb dL_pick_7 rfl hl (by decide) rfl (fun ls hl => ?_)
      refine lv_ldc2 hx hb (v := -9000000000000000) hown (hts _ mL_pick_1) dL_pick_8 ?_
      exact h_lret hx hb hr hlocks rfl hG hS (Nat.le_of_ble_eq_true rfl) (Nat.le_of_ble_eq_true rfl) dL_pick_11
    · cases List.mem_singleton.mp hE
      refine vx_catch hown [⟨0, 6, 7, 23⟩] ⟨0, 6, 12, 18⟩ [] htb (fun z hz => Or.inr (by cases List.mem_singleton.mp hz; exact ⟨by decide, "java/lang/IndexOutOfBoundsException", hts _ mL_pick_0, hN ("java/lang/IllegalStateException", "java/lang/IndexOutOfBoundsException") (by decide)⟩)) (by decide) (by decide) (hts _ mL_pick_2) (va_any rfl (hT.2.2.2.1 "java/lang/IllegalStateException" (by decide))) h7 h8 h9 ?_
      refine lv_astore_n (lv' := [(2, .ref q9), (0, .ref (ad 0)), (1, .int p1)]) hx hb dL_pick_12 rfl hl (by decide) rfl (fun ls hl => ?_)
      refine lv_ldc2 hx hb (v := -9000000000000000) hown (hts _ mL_pick_1) dL_pick_13 ?_
      exact h_lret hx hb hr hlocks rfl hG hS (Nat.le_of_ble_eq_true rfl) (Nat.le_of_ble_eq_true rfl) dL_pick_16
  · rw [hr1]
    refine lv_i2l (v := r.toInt64) hx hb dL_pick_5 rfl ?_
    exact h_lret hx hb hr hlocks rfl hG hS (Nat.le_of_ble_eq_true rfl) (Nat.le_of_ble_eq_true rfl) dL_pick_6
abbrev rmL_wish : Room := { frames := 8, cells := 4, slots := 24, locals := 136 }
theorem mL_wish_0 : (Cond.classLink RL 23 "java/lang/IndexOutOfBoundsException") ∈ wsL_wish := by decide +kernel
theorem mL_wish_1 : (Cond.constantLong RL 16 (-9000000000000000)) ∈ wsL_wish := by decide +kernel
theorem mL_wish_2 : (Cond.classLink RL 14 "java/lang/IllegalArgumentException") ∈ wsL_wish := by decide +kernel
set_option maxHeartbeats 4000000 in
set_option maxRecDepth 100000 in
theorem b_wish (l : Launch) (hlt : l.stackTraces = false) (dC : Nat → ClassId) (dI : Nat → Nat → Nat) (cI cJ cZ cG : ClassId) (ad : Nat → Nat) (rw : Nat → Nat → Nat) (q : Nat) (a : AT) (sz : Nat) (p1 p2 p3 : Int32) : Met l yL_wish wsL_wish rmL_wish (HPc [.ref (ad 0), .int p1, .int p2, .int p3] (dC, dI) cI cJ cZ cG sz ad rw q a) (HQl (tl (rWish a p1 p2 p3)) (nx a (rWish a p1 p2 p3)) (dC, dI) cI cJ cZ cG (HA cI cJ cZ cG ad rw sz) ad rw q) 4 24 (HA cI cJ cZ cG ad rw sz) := by
  refine va_MetW (cc := cL_wish) (maxL := 5) (ret := (some .long)) (hh := [(0, 8, 9, 23), (0, 8, 15, 14)]) (by decide) rfl ?_
  intro p e s m args below meth c s₁ B hml hv
  obtain ⟨rfl, hsz, hG0, hK, hT, hN⟩ := hv
  have hx := B.exec
  have hb := B.bytes
  have hr := B.returns
  have hts := atoms_spec (ws := wsL_wish) B.pre
  have hown : s.vm.findClass RL = some m.cls := findClass_of_methodNamed B.named
  have hlocks := B.notSynchronized
  have htb : c.exceptionTable.toList = [⟨0, 8, 9, 23⟩, ⟨0, 8, 15, 14⟩] := vx_table (x := yL_wish) B (hts (.codeWith yL_wish cL_wish 5 (some .long) [(0, 8, 9, 23), (0, 8, 15, 14)]) (List.mem_cons_self))
  subst hsz
  have hG := hG0.self (sz := s.heap.size)
  have hA : ∀ x, s.heap.size ≤ x → (HA cI cJ cZ cG ad rw s.heap.size) x := HA_hi
  have hS : va_S (HA cI cJ cZ cG ad rw s.heap.size) s.heap s.heap [] := va_S.rf
  generalize hAe : (HA cI cJ cZ cG ad rw s.heap.size) = A at hG hT hA hS ⊢
  have hl := lv_entry ([.ref (ad 0), .int p1, .int p2, .int p3]) (n := 5) (Nat.le_of_ble_eq_true rfl)
  rw [lg_entry_eq]
  generalize (lg_sl ([.ref (ad 0), .int p1, .int p2, .int p3]) ++ List.replicate (5 - (lg_sl ([.ref (ad 0), .int p1, .int p2, .int p3])).length) Slot.unset).toArray = ls at hl ⊢
  have hl : lv_has ls 5 [(0, .ref (ad 0)), (1, .int p1), (2, .int p2), (3, .int p3)] := hl
  generalize hH : s.heap = H at hG ⊢
  replace hS : va_S A s.heap H [] := by rw [← hH]; exact hS
  show W p l e rmL_wish s m #[.ref (ad 0), .int p1, .int p2, .int p3] below meth c H [] 0 0 (MQ below (HQl (tl (rWish a p1 p2 p3)) (nx a (rWish a p1 p2 p3)) (dC, dI) cI cJ cZ cG A ad rw q) #[.ref (ad 0), .int p1, .int p2, .int p3] s 4 24 A) (F0 m 0 ls [])
  refine lv_aload_n hx hb dL_wish_0 rfl (lv_at hl 0 rfl) ?_
  refine lv_iload_n hx hb dL_wish_1 rfl (lv_at hl 1 rfl) ?_
  refine lv_iload_n hx hb dL_wish_2 rfl (lv_at hl 2 rfl) ?_
  refine lv_iload_n hx hb dL_wish_3 rfl (lv_at hl 3 rfl) ?_
  refine h_callXv (As := [.int p1, .int p2, .int p3]) (rest := []) ⟨hx, hb, hml, hown, hts⟩ (a_wish l hlt dC dI cI cJ cZ cG ad rw q a H.size p1 p2 p3 ) (cwV 3 hts gL_wish_X8_wish rfl rfl rfl (by decide +kernel) ⟨Nat.le_of_ble_eq_true rfl, Nat.le_of_ble_eq_true rfl⟩) hK Foc.one hG hS hA hT rfl hl.1 rfl (Nat.le_of_ble_eq_true rfl) dL_wish_4 ⟨Nat.le_of_ble_eq_true rfl, Nat.le_of_ble_eq_true rfl⟩ (fun E ce q9 H locs hn hE hG hS h7 h8 h9 => ?_) (fun a1 H locs hr1 hG hS => ?_)
  · rw [hn]
    rcases List.mem_cons.mp hE with rfl | hE
    · refine vx_catch hown [] ⟨0, 8, 9, 23⟩ [⟨0, 8, 15, 14⟩] htb (fun z hz => nomatch hz) (by decide) (by decide) (hts _ mL_wish_0) (va_any rfl (hT.2.2.2.1 "java/lang/IndexOutOfBoundsException" (by decide))) h7 h8 h9 ?_
      refine lv_astore (lv' := [(4, .ref q9), (0, .ref (ad 0)), (1, .int p1), (2, .int p2), (3, .int p3)]) hx hb dL_wish_9 hl (by decide) rfl (fun ls hl => ?_)
      refine lv_ldc2 hx hb (v := -9000000000000000) hown (hts _ mL_wish_1) dL_wish_11 ?_
      exact h_lret hx hb hr hlocks rfl hG hS (Nat.le_of_ble_eq_true rfl) (Nat.le_of_ble_eq_true rfl) dL_wish_14
    · cases List.mem_singleton.mp hE
      refine vx_catch hown [⟨0, 8, 9, 23⟩] ⟨0, 8, 15, 14⟩ [] htb (fun z hz => Or.inr (by cases List.mem_singleton.mp hz; exact ⟨by decide, "java/lang/IndexOutOfBoundsException", hts _ mL_wish_0, hN ("java/lang/IllegalArgumentException", "java/lang/IndexOutOfBoundsException") (by decide)⟩)) (by decide) (by decide) (hts _ mL_wish_2) (va_any rfl (hT.2.2.2.1 "java/lang/IllegalArgumentException" (by decide))) h7 h8 h9 ?_
      refine lv_astore (lv' := [(4, .ref q9), (0, .ref (ad 0)), (1, .int p1), (2, .int p2), (3, .int p3)]) hx hb dL_wish_15 hl (by decide) rfl (fun ls hl => ?_)
      refine lv_ldc2 hx hb (v := -9000000000000000) hown (hts _ mL_wish_1) dL_wish_17 ?_
      exact h_lret hx hb hr hlocks rfl hG hS (Nat.le_of_ble_eq_true rfl) (Nat.le_of_ble_eq_true rfl) dL_wish_20
  · rw [hr1]
    refine lv_lconst (v := 0) hx hb dL_wish_7 rfl ?_
    exact h_lret hx hb hr hlocks rfl hG hS (Nat.le_of_ble_eq_true rfl) (Nat.le_of_ble_eq_true rfl) dL_wish_8
abbrev rmL_ring : Room := { frames := 59, cells := 1, slots := 6, locals := 1428 }
theorem mL_ring_0 : (Cond.classLink RL 23 "java/lang/IndexOutOfBoundsException") ∈ wsL_ring := by decide +kernel
theorem mL_ring_1 : (Cond.constantLong RL 16 (-9000000000000000)) ∈ wsL_ring := by decide +kernel
set_option maxHeartbeats 4000000 in
set_option maxRecDepth 100000 in
theorem b_ring (l : Launch) (hlt : l.stackTraces = false) (dC : Nat → ClassId) (dI : Nat → Nat → Nat) (cI cJ cZ cG : ClassId) (ad : Nat → Nat) (rw : Nat → Nat → Nat) (q : Nat) (a : AT) (sz : Nat) (p1 : Int32) : Met l yL_ring wsL_ring rmL_ring (HPc [.ref (ad 0), .int p1] (dC, dI) cI cJ cZ cG sz ad rw q a) (HQl (tl (rRing a p1)) (nx a (rRing a p1)) (dC, dI) cI cJ cZ cG (HA cI cJ cZ cG ad rw sz) ad rw q) 1 6 (HA cI cJ cZ cG ad rw sz) := by
  refine va_MetW (cc := cL_ring) (maxL := 3) (ret := (some .long)) (hh := [(0, 6, 7, 23)]) (by decide) rfl ?_
  intro p e s m args below meth c s₁ B hml hv
  obtain ⟨rfl, hsz, hG0, hK, hT, hN⟩ := hv
  have hx := B.exec
  have hb := B.bytes
  have hr := B.returns
  have hts := atoms_spec (ws := wsL_ring) B.pre
  have hown : s.vm.findClass RL = some m.cls := findClass_of_methodNamed B.named
  have hlocks := B.notSynchronized
  have htb : c.exceptionTable.toList = [⟨0, 6, 7, 23⟩] := vx_table (x := yL_ring) B (hts (.codeWith yL_ring cL_ring 3 (some .long) [(0, 6, 7, 23)]) (List.mem_cons_self))
  subst hsz
  have hG := hG0.self (sz := s.heap.size)
  have hA : ∀ x, s.heap.size ≤ x → (HA cI cJ cZ cG ad rw s.heap.size) x := HA_hi
  have hS : va_S (HA cI cJ cZ cG ad rw s.heap.size) s.heap s.heap [] := va_S.rf
  generalize hAe : (HA cI cJ cZ cG ad rw s.heap.size) = A at hG hT hA hS ⊢
  have hl := lv_entry ([.ref (ad 0), .int p1]) (n := 3) (Nat.le_of_ble_eq_true rfl)
  rw [lg_entry_eq]
  generalize (lg_sl ([.ref (ad 0), .int p1]) ++ List.replicate (3 - (lg_sl ([.ref (ad 0), .int p1])).length) Slot.unset).toArray = ls at hl ⊢
  have hl : lv_has ls 3 [(0, .ref (ad 0)), (1, .int p1)] := hl
  generalize hH : s.heap = H at hG ⊢
  replace hS : va_S A s.heap H [] := by rw [← hH]; exact hS
  show W p l e rmL_ring s m #[.ref (ad 0), .int p1] below meth c H [] 0 0 (MQ below (HQl (tl (rRing a p1)) (nx a (rRing a p1)) (dC, dI) cI cJ cZ cG A ad rw q) #[.ref (ad 0), .int p1] s 1 6 A) (F0 m 0 ls [])
  refine lv_aload_n hx hb dL_ring_0 rfl (lv_at hl 0 rfl) ?_
  refine lv_iload_n hx hb dL_ring_1 rfl (lv_at hl 1 rfl) ?_
  refine h_callXi (As := [.int p1]) (rest := []) ⟨hx, hb, hml, hown, hts⟩ (a_ring l hlt dC dI cI cJ cZ cG ad rw q a H.size p1 ) (cwV 1 hts gL_ring_X8_ring rfl rfl rfl (by decide +kernel) ⟨Nat.le_of_ble_eq_true rfl, Nat.le_of_ble_eq_true rfl⟩) hK Foc.one hG hS hA hT rfl hl.1 rfl (Nat.le_of_ble_eq_true rfl) dL_ring_2 ⟨Nat.le_of_ble_eq_true rfl, Nat.le_of_ble_eq_true rfl⟩ (fun E ce q9 H locs hn hE hG hS h7 h8 h9 => ?_) (fun r a1 H locs hr1 hG hS => ?_)
  · rw [hn]
    cases List.mem_singleton.mp hE
    refine vx_catch hown [] ⟨0, 6, 7, 23⟩ [] htb (fun z hz => nomatch hz) (by decide) (by decide) (hts _ mL_ring_0) (va_any rfl (hT.2.2.2.1 "java/lang/IndexOutOfBoundsException" (by decide))) h7 h8 h9 ?_
    refine lv_astore_n (lv' := [(2, .ref q9), (0, .ref (ad 0)), (1, .int p1)]) hx hb dL_ring_7 rfl hl (by decide) rfl (fun ls hl => ?_)
    refine lv_ldc2 hx hb (v := -9000000000000000) hown (hts _ mL_ring_1) dL_ring_8 ?_
    exact h_lret hx hb hr hlocks rfl hG hS (Nat.le_of_ble_eq_true rfl) (Nat.le_of_ble_eq_true rfl) dL_ring_11
  · rw [hr1]
    refine lv_i2l (v := r.toInt64) hx hb dL_ring_5 rfl ?_
    exact h_lret hx hb hr hlocks rfl hG hS (Nat.le_of_ble_eq_true rfl) (Nat.le_of_ble_eq_true rfl) dL_ring_6
abbrev rmL_pair : Room := { frames := 52, cells := 2, slots := 12, locals := 1009 }
theorem mL_pair_0 : (Cond.classLink RL 23 "java/lang/IndexOutOfBoundsException") ∈ wsL_pair := by decide +kernel
theorem mL_pair_1 : (Cond.constantLong RL 16 (-9000000000000000)) ∈ wsL_pair := by decide +kernel
theorem mL_pair_2 : (Cond.classLink RL 14 "java/lang/IllegalArgumentException") ∈ wsL_pair := by decide +kernel
set_option maxHeartbeats 4000000 in
set_option maxRecDepth 100000 in
theorem b_pair (l : Launch) (hlt : l.stackTraces = false) (dC : Nat → ClassId) (dI : Nat → Nat → Nat) (cI cJ cZ cG : ClassId) (ad : Nat → Nat) (rw : Nat → Nat → Nat) (q : Nat) (a : AT) (sz : Nat) (p1 p2 : Int32) : Met l yL_pair wsL_pair rmL_pair (HPc [.ref (ad 0), .int p1, .int p2] (dC, dI) cI cJ cZ cG sz ad rw q a) (HQl (tl (rPair a p1 p2)) (nx a (rPair a p1 p2)) (dC, dI) cI cJ cZ cG (HA cI cJ cZ cG ad rw sz) ad rw q) 2 12 (HA cI cJ cZ cG ad rw sz) := by
  refine va_MetW (cc := cL_pair) (maxL := 4) (ret := (some .long)) (hh := [(0, 7, 8, 23), (0, 7, 13, 14)]) (by decide) rfl ?_
  intro p e s m args below meth c s₁ B hml hv
  obtain ⟨rfl, hsz, hG0, hK, hT, hN⟩ := hv
  have hx := B.exec
  have hb := B.bytes
  have hr := B.returns
  have hts := atoms_spec (ws := wsL_pair) B.pre
  have hown : s.vm.findClass RL = some m.cls := findClass_of_methodNamed B.named
  have hlocks := B.notSynchronized
  have htb : c.exceptionTable.toList = [⟨0, 7, 8, 23⟩, ⟨0, 7, 13, 14⟩] := vx_table (x := yL_pair) B (hts (.codeWith yL_pair cL_pair 4 (some .long) [(0, 7, 8, 23), (0, 7, 13, 14)]) (List.mem_cons_self))
  subst hsz
  have hG := hG0.self (sz := s.heap.size)
  have hA : ∀ x, s.heap.size ≤ x → (HA cI cJ cZ cG ad rw s.heap.size) x := HA_hi
  have hS : va_S (HA cI cJ cZ cG ad rw s.heap.size) s.heap s.heap [] := va_S.rf
  generalize hAe : (HA cI cJ cZ cG ad rw s.heap.size) = A at hG hT hA hS ⊢
  have hl := lv_entry ([.ref (ad 0), .int p1, .int p2]) (n := 4) (Nat.le_of_ble_eq_true rfl)
  rw [lg_entry_eq]
  generalize (lg_sl ([.ref (ad 0), .int p1, .int p2]) ++ List.replicate (4 - (lg_sl ([.ref (ad 0), .int p1, .int p2])).length) Slot.unset).toArray = ls at hl ⊢
  have hl : lv_has ls 4 [(0, .ref (ad 0)), (1, .int p1), (2, .int p2)] := hl
  generalize hH : s.heap = H at hG ⊢
  replace hS : va_S A s.heap H [] := by rw [← hH]; exact hS
  show W p l e rmL_pair s m #[.ref (ad 0), .int p1, .int p2] below meth c H [] 0 0 (MQ below (HQl (tl (rPair a p1 p2)) (nx a (rPair a p1 p2)) (dC, dI) cI cJ cZ cG A ad rw q) #[.ref (ad 0), .int p1, .int p2] s 2 12 A) (F0 m 0 ls [])
  refine lv_aload_n hx hb dL_pair_0 rfl (lv_at hl 0 rfl) ?_
  refine lv_iload_n hx hb dL_pair_1 rfl (lv_at hl 1 rfl) ?_
  refine lv_iload_n hx hb dL_pair_2 rfl (lv_at hl 2 rfl) ?_
  refine h_callXi (As := [.int p1, .int p2]) (rest := []) ⟨hx, hb, hml, hown, hts⟩ (a_pair l hlt dC dI cI cJ cZ cG ad rw q a H.size p1 p2 ) (cwV 2 hts gL_pair_X8_pair rfl rfl rfl (by decide +kernel) ⟨Nat.le_of_ble_eq_true rfl, Nat.le_of_ble_eq_true rfl⟩) hK Foc.one hG hS hA hT rfl hl.1 rfl (Nat.le_of_ble_eq_true rfl) dL_pair_3 ⟨Nat.le_of_ble_eq_true rfl, Nat.le_of_ble_eq_true rfl⟩ (fun E ce q9 H locs hn hE hG hS h7 h8 h9 => ?_) (fun r a1 H locs hr1 hG hS => ?_)
  · rw [hn]
    rcases List.mem_cons.mp hE with rfl | hE
    · refine vx_catch hown [] ⟨0, 7, 8, 23⟩ [⟨0, 7, 13, 14⟩] htb (fun z hz => nomatch hz) (by decide) (by decide) (hts _ mL_pair_0) (va_any rfl (hT.2.2.2.1 "java/lang/IndexOutOfBoundsException" (by decide))) h7 h8 h9 ?_
      refine lv_astore_n (lv' := [(3, .ref q9), (0, .ref (ad 0)), (1, .int p1), (2, .int p2)]) hx hb dL_pair_8 rfl hl (by decide) rfl (fun ls hl => ?_)
      refine lv_ldc2 hx hb (v := -9000000000000000) hown (hts _ mL_pair_1) dL_pair_9 ?_
      exact h_lret hx hb hr hlocks rfl hG hS (Nat.le_of_ble_eq_true rfl) (Nat.le_of_ble_eq_true rfl) dL_pair_12
    · cases List.mem_singleton.mp hE
      refine vx_catch hown [⟨0, 7, 8, 23⟩] ⟨0, 7, 13, 14⟩ [] htb (fun z hz => Or.inr (by cases List.mem_singleton.mp hz; exact ⟨by decide, "java/lang/IndexOutOfBoundsException", hts _ mL_pair_0, hN ("java/lang/IllegalArgumentException", "java/lang/IndexOutOfBoundsException") (by decide)⟩)) (by decide) (by decide) (hts _ mL_pair_2) (va_any rfl (hT.2.2.2.1 "java/lang/IllegalArgumentException" (by decide))) h7 h8 h9 ?_
      refine lv_astore_n (lv' := [(3, .ref q9), (0, .ref (ad 0)), (1, .int p1), (2, .int p2)]) hx hb dL_pair_13 rfl hl (by decide) rfl (fun ls hl => ?_)
      refine lv_ldc2 hx hb (v := -9000000000000000) hown (hts _ mL_pair_1) dL_pair_14 ?_
      exact h_lret hx hb hr hlocks rfl hG hS (Nat.le_of_ble_eq_true rfl) (Nat.le_of_ble_eq_true rfl) dL_pair_17
  · rw [hr1]
    refine lv_i2l (v := r.toInt64) hx hb dL_pair_6 rfl ?_
    exact h_lret hx hb hr hlocks rfl hG hS (Nat.le_of_ble_eq_true rfl) (Nat.le_of_ble_eq_true rfl) dL_pair_7
abbrev rmL_result : Room := { frames := 8, cells := 3, slots := 18, locals := 134 }
theorem mL_result_0 : (Cond.classLink RL 23 "java/lang/IndexOutOfBoundsException") ∈ wsL_result := by decide +kernel
theorem mL_result_1 : (Cond.constantLong RL 16 (-9000000000000000)) ∈ wsL_result := by decide +kernel
theorem mL_result_2 : (Cond.classLink RL 14 "java/lang/IllegalArgumentException") ∈ wsL_result := by decide +kernel
set_option maxHeartbeats 4000000 in
set_option maxRecDepth 100000 in
theorem b_result (l : Launch) (hlt : l.stackTraces = false) (dC : Nat → ClassId) (dI : Nat → Nat → Nat) (cI cJ cZ cG : ClassId) (ad : Nat → Nat) (rw : Nat → Nat → Nat) (q : Nat) (a : AT) (sz : Nat) (p1 p2 : Int32) : Met l yL_result wsL_result rmL_result (HPc [.ref (ad 0), .int p1, .int p2] (dC, dI) cI cJ cZ cG sz ad rw q a) (HQl (tl (rResult a p1 p2)) (nx a (rResult a p1 p2)) (dC, dI) cI cJ cZ cG (HA cI cJ cZ cG ad rw sz) ad rw q) 3 18 (HA cI cJ cZ cG ad rw sz) := by
  refine va_MetW (cc := cL_result) (maxL := 4) (ret := (some .long)) (hh := [(0, 7, 8, 23), (0, 7, 13, 14)]) (by decide) rfl ?_
  intro p e s m args below meth c s₁ B hml hv
  obtain ⟨rfl, hsz, hG0, hK, hT, hN⟩ := hv
  have hx := B.exec
  have hb := B.bytes
  have hr := B.returns
  have hts := atoms_spec (ws := wsL_result) B.pre
  have hown : s.vm.findClass RL = some m.cls := findClass_of_methodNamed B.named
  have hlocks := B.notSynchronized
  have htb : c.exceptionTable.toList = [⟨0, 7, 8, 23⟩, ⟨0, 7, 13, 14⟩] := vx_table (x := yL_result) B (hts (.codeWith yL_result cL_result 4 (some .long) [(0, 7, 8, 23), (0, 7, 13, 14)]) (List.mem_cons_self))
  subst hsz
  have hG := hG0.self (sz := s.heap.size)
  have hA : ∀ x, s.heap.size ≤ x → (HA cI cJ cZ cG ad rw s.heap.size) x := HA_hi
  have hS : va_S (HA cI cJ cZ cG ad rw s.heap.size) s.heap s.heap [] := va_S.rf
  generalize hAe : (HA cI cJ cZ cG ad rw s.heap.size) = A at hG hT hA hS ⊢
  have hl := lv_entry ([.ref (ad 0), .int p1, .int p2]) (n := 4) (Nat.le_of_ble_eq_true rfl)
  rw [lg_entry_eq]
  generalize (lg_sl ([.ref (ad 0), .int p1, .int p2]) ++ List.replicate (4 - (lg_sl ([.ref (ad 0), .int p1, .int p2])).length) Slot.unset).toArray = ls at hl ⊢
  have hl : lv_has ls 4 [(0, .ref (ad 0)), (1, .int p1), (2, .int p2)] := hl
  generalize hH : s.heap = H at hG ⊢
  replace hS : va_S A s.heap H [] := by rw [← hH]; exact hS
  show W p l e rmL_result s m #[.ref (ad 0), .int p1, .int p2] below meth c H [] 0 0 (MQ below (HQl (tl (rResult a p1 p2)) (nx a (rResult a p1 p2)) (dC, dI) cI cJ cZ cG A ad rw q) #[.ref (ad 0), .int p1, .int p2] s 3 18 A) (F0 m 0 ls [])
  refine lv_aload_n hx hb dL_result_0 rfl (lv_at hl 0 rfl) ?_
  refine lv_iload_n hx hb dL_result_1 rfl (lv_at hl 1 rfl) ?_
  refine lv_iload_n hx hb dL_result_2 rfl (lv_at hl 2 rfl) ?_
  refine h_callXi (As := [.int p1, .int p2]) (rest := []) ⟨hx, hb, hml, hown, hts⟩ (a_result l hlt dC dI cI cJ cZ cG ad rw q a H.size p1 p2 ) (cwV 2 hts gL_result_X8_result rfl rfl rfl (by decide +kernel) ⟨Nat.le_of_ble_eq_true rfl, Nat.le_of_ble_eq_true rfl⟩) hK Foc.one hG hS hA hT rfl hl.1 rfl (Nat.le_of_ble_eq_true rfl) dL_result_3 ⟨Nat.le_of_ble_eq_true rfl, Nat.le_of_ble_eq_true rfl⟩ (fun E ce q9 H locs hn hE hG hS h7 h8 h9 => ?_) (fun r a1 H locs hr1 hG hS => ?_)
  · rw [hn]
    rcases List.mem_cons.mp hE with rfl | hE
    · refine vx_catch hown [] ⟨0, 7, 8, 23⟩ [⟨0, 7, 13, 14⟩] htb (fun z hz => nomatch hz) (by decide) (by decide) (hts _ mL_result_0) (va_any rfl (hT.2.2.2.1 "java/lang/IndexOutOfBoundsException" (by decide))) h7 h8 h9 ?_
      refine lv_astore_n (lv' := [(3, .ref q9), (0, .ref (ad 0)), (1, .int p1), (2, .int p2)]) hx hb dL_result_8 rfl hl (by decide) rfl (fun ls hl => ?_)
      refine lv_ldc2 hx hb (v := -9000000000000000) hown (hts _ mL_result_1) dL_result_9 ?_
      exact h_lret hx hb hr hlocks rfl hG hS (Nat.le_of_ble_eq_true rfl) (Nat.le_of_ble_eq_true rfl) dL_result_12
    · cases List.mem_singleton.mp hE
      refine vx_catch hown [⟨0, 7, 8, 23⟩] ⟨0, 7, 13, 14⟩ [] htb (fun z hz => Or.inr (by cases List.mem_singleton.mp hz; exact ⟨by decide, "java/lang/IndexOutOfBoundsException", hts _ mL_result_0, hN ("java/lang/IllegalArgumentException", "java/lang/IndexOutOfBoundsException") (by decide)⟩)) (by decide) (by decide) (hts _ mL_result_2) (va_any rfl (hT.2.2.2.1 "java/lang/IllegalArgumentException" (by decide))) h7 h8 h9 ?_
      refine lv_astore_n (lv' := [(3, .ref q9), (0, .ref (ad 0)), (1, .int p1), (2, .int p2)]) hx hb dL_result_13 rfl hl (by decide) rfl (fun ls hl => ?_)
      refine lv_ldc2 hx hb (v := -9000000000000000) hown (hts _ mL_result_1) dL_result_14 ?_
      exact h_lret hx hb hr hlocks rfl hG hS (Nat.le_of_ble_eq_true rfl) (Nat.le_of_ble_eq_true rfl) dL_result_17
  · rw [hr1]
    refine lv_i2l (v := r.toInt64) hx hb dL_result_6 rfl ?_
    exact h_lret hx hb hr hlocks rfl hG hS (Nat.le_of_ble_eq_true rfl) (Nat.le_of_ble_eq_true rfl) dL_result_7
abbrev rmL_has : Room := { frames := 8, cells := 2, slots := 12, locals := 135 }
theorem mL_has_0 : (Cond.classLink RL 23 "java/lang/IndexOutOfBoundsException") ∈ wsL_has := by decide +kernel
theorem mL_has_1 : (Cond.constantLong RL 16 (-9000000000000000)) ∈ wsL_has := by decide +kernel
set_option maxHeartbeats 4000000 in
set_option maxRecDepth 100000 in
theorem b_has (l : Launch) (hlt : l.stackTraces = false) (dC : Nat → ClassId) (dI : Nat → Nat → Nat) (cI cJ cZ cG : ClassId) (ad : Nat → Nat) (rw : Nat → Nat → Nat) (q : Nat) (a : AT) (sz : Nat) (p1 p2 : Int32) : Met l yL_has wsL_has rmL_has (HPc [.ref (ad 0), .int p1, .int p2] (dC, dI) cI cJ cZ cG sz ad rw q a) (HQl (tl (rHas a p1 p2)) (nx a (rHas a p1 p2)) (dC, dI) cI cJ cZ cG (HA cI cJ cZ cG ad rw sz) ad rw q) 2 12 (HA cI cJ cZ cG ad rw sz) := by
  refine va_MetW (cc := cL_has) (maxL := 4) (ret := (some .long)) (hh := [(0, 7, 8, 23)]) (by decide) rfl ?_
  intro p e s m args below meth c s₁ B hml hv
  obtain ⟨rfl, hsz, hG0, hK, hT, hN⟩ := hv
  have hx := B.exec
  have hb := B.bytes
  have hr := B.returns
  have hts := atoms_spec (ws := wsL_has) B.pre
  have hown : s.vm.findClass RL = some m.cls := findClass_of_methodNamed B.named
  have hlocks := B.notSynchronized
  have htb : c.exceptionTable.toList = [⟨0, 7, 8, 23⟩] := vx_table (x := yL_has) B (hts (.codeWith yL_has cL_has 4 (some .long) [(0, 7, 8, 23)]) (List.mem_cons_self))
  subst hsz
  have hG := hG0.self (sz := s.heap.size)
  have hA : ∀ x, s.heap.size ≤ x → (HA cI cJ cZ cG ad rw s.heap.size) x := HA_hi
  have hS : va_S (HA cI cJ cZ cG ad rw s.heap.size) s.heap s.heap [] := va_S.rf
  generalize hAe : (HA cI cJ cZ cG ad rw s.heap.size) = A at hG hT hA hS ⊢
  have hl := lv_entry ([.ref (ad 0), .int p1, .int p2]) (n := 4) (Nat.le_of_ble_eq_true rfl)
  rw [lg_entry_eq]
  generalize (lg_sl ([.ref (ad 0), .int p1, .int p2]) ++ List.replicate (4 - (lg_sl ([.ref (ad 0), .int p1, .int p2])).length) Slot.unset).toArray = ls at hl ⊢
  have hl : lv_has ls 4 [(0, .ref (ad 0)), (1, .int p1), (2, .int p2)] := hl
  generalize hH : s.heap = H at hG ⊢
  replace hS : va_S A s.heap H [] := by rw [← hH]; exact hS
  show W p l e rmL_has s m #[.ref (ad 0), .int p1, .int p2] below meth c H [] 0 0 (MQ below (HQl (tl (rHas a p1 p2)) (nx a (rHas a p1 p2)) (dC, dI) cI cJ cZ cG A ad rw q) #[.ref (ad 0), .int p1, .int p2] s 2 12 A) (F0 m 0 ls [])
  refine lv_aload_n hx hb dL_has_0 rfl (lv_at hl 0 rfl) ?_
  refine lv_iload_n hx hb dL_has_1 rfl (lv_at hl 1 rfl) ?_
  refine lv_iload_n hx hb dL_has_2 rfl (lv_at hl 2 rfl) ?_
  refine h_callXi (As := [.int p1, .int p2]) (rest := []) ⟨hx, hb, hml, hown, hts⟩ (a_has l hlt dC dI cI cJ cZ cG ad rw q a H.size p1 p2 ) (cwV 2 hts gL_has_X8_has rfl rfl rfl (by decide +kernel) ⟨Nat.le_of_ble_eq_true rfl, Nat.le_of_ble_eq_true rfl⟩) hK Foc.one hG hS hA hT rfl hl.1 rfl (Nat.le_of_ble_eq_true rfl) dL_has_3 ⟨Nat.le_of_ble_eq_true rfl, Nat.le_of_ble_eq_true rfl⟩ (fun E ce q9 H locs hn hE hG hS h7 h8 h9 => ?_) (fun r a1 H locs hr1 hG hS => ?_)
  · rw [hn]
    cases List.mem_singleton.mp hE
    refine vx_catch hown [] ⟨0, 7, 8, 23⟩ [] htb (fun z hz => nomatch hz) (by decide) (by decide) (hts _ mL_has_0) (va_any rfl (hT.2.2.2.1 "java/lang/IndexOutOfBoundsException" (by decide))) h7 h8 h9 ?_
    refine lv_astore_n (lv' := [(3, .ref q9), (0, .ref (ad 0)), (1, .int p1), (2, .int p2)]) hx hb dL_has_8 rfl hl (by decide) rfl (fun ls hl => ?_)
    refine lv_ldc2 hx hb (v := -9000000000000000) hown (hts _ mL_has_1) dL_has_9 ?_
    exact h_lret hx hb hr hlocks rfl hG hS (Nat.le_of_ble_eq_true rfl) (Nat.le_of_ble_eq_true rfl) dL_has_12
  · rw [hr1]
    refine lv_i2l (v := r.toInt64) hx hb dL_has_6 rfl ?_
    exact h_lret hx hb hr hlocks rfl hG hS (Nat.le_of_ble_eq_true rfl) (Nat.le_of_ble_eq_true rfl) dL_has_7
abbrev rmL_strength : Room := { frames := 8, cells := 1, slots := 6, locals := 133 }
theorem mL_strength_0 : (Cond.classLink RL 23 "java/lang/IndexOutOfBoundsException") ∈ wsL_strength := by decide +kernel
theorem mL_strength_1 : (Cond.constantLong RL 16 (-9000000000000000)) ∈ wsL_strength := by decide +kernel
set_option maxHeartbeats 4000000 in
set_option maxRecDepth 100000 in
theorem b_strength (l : Launch) (hlt : l.stackTraces = false) (dC : Nat → ClassId) (dI : Nat → Nat → Nat) (cI cJ cZ cG : ClassId) (ad : Nat → Nat) (rw : Nat → Nat → Nat) (q : Nat) (a : AT) (sz : Nat) (p1 : Int32) : Met l yL_strength wsL_strength rmL_strength (HPc [.ref (ad 0), .int p1] (dC, dI) cI cJ cZ cG sz ad rw q a) (HQl (tl (rStrength a p1)) (nx a (rStrength a p1)) (dC, dI) cI cJ cZ cG (HA cI cJ cZ cG ad rw sz) ad rw q) 1 6 (HA cI cJ cZ cG ad rw sz) := by
  refine va_MetW (cc := cL_strength) (maxL := 3) (ret := (some .long)) (hh := [(0, 6, 7, 23)]) (by decide) rfl ?_
  intro p e s m args below meth c s₁ B hml hv
  obtain ⟨rfl, hsz, hG0, hK, hT, hN⟩ := hv
  have hx := B.exec
  have hb := B.bytes
  have hr := B.returns
  have hts := atoms_spec (ws := wsL_strength) B.pre
  have hown : s.vm.findClass RL = some m.cls := findClass_of_methodNamed B.named
  have hlocks := B.notSynchronized
  have htb : c.exceptionTable.toList = [⟨0, 6, 7, 23⟩] := vx_table (x := yL_strength) B (hts (.codeWith yL_strength cL_strength 3 (some .long) [(0, 6, 7, 23)]) (List.mem_cons_self))
  subst hsz
  have hG := hG0.self (sz := s.heap.size)
  have hA : ∀ x, s.heap.size ≤ x → (HA cI cJ cZ cG ad rw s.heap.size) x := HA_hi
  have hS : va_S (HA cI cJ cZ cG ad rw s.heap.size) s.heap s.heap [] := va_S.rf
  generalize hAe : (HA cI cJ cZ cG ad rw s.heap.size) = A at hG hT hA hS ⊢
  have hl := lv_entry ([.ref (ad 0), .int p1]) (n := 3) (Nat.le_of_ble_eq_true rfl)
  rw [lg_entry_eq]
  generalize (lg_sl ([.ref (ad 0), .int p1]) ++ List.replicate (3 - (lg_sl ([.ref (ad 0), .int p1])).length) Slot.unset).toArray = ls at hl ⊢
  have hl : lv_has ls 3 [(0, .ref (ad 0)), (1, .int p1)] := hl
  generalize hH : s.heap = H at hG ⊢
  replace hS : va_S A s.heap H [] := by rw [← hH]; exact hS
  show W p l e rmL_strength s m #[.ref (ad 0), .int p1] below meth c H [] 0 0 (MQ below (HQl (tl (rStrength a p1)) (nx a (rStrength a p1)) (dC, dI) cI cJ cZ cG A ad rw q) #[.ref (ad 0), .int p1] s 1 6 A) (F0 m 0 ls [])
  refine lv_aload_n hx hb dL_strength_0 rfl (lv_at hl 0 rfl) ?_
  refine lv_iload_n hx hb dL_strength_1 rfl (lv_at hl 1 rfl) ?_
  refine h_callXi (As := [.int p1]) (rest := []) ⟨hx, hb, hml, hown, hts⟩ (a_strength l hlt dC dI cI cJ cZ cG ad rw q a H.size p1 ) (cwV 1 hts gL_strength_X8_strength rfl rfl rfl (by decide +kernel) ⟨Nat.le_of_ble_eq_true rfl, Nat.le_of_ble_eq_true rfl⟩) hK Foc.one hG hS hA hT rfl hl.1 rfl (Nat.le_of_ble_eq_true rfl) dL_strength_2 ⟨Nat.le_of_ble_eq_true rfl, Nat.le_of_ble_eq_true rfl⟩ (fun E ce q9 H locs hn hE hG hS h7 h8 h9 => ?_) (fun r a1 H locs hr1 hG hS => ?_)
  · rw [hn]
    cases List.mem_singleton.mp hE
    refine vx_catch hown [] ⟨0, 6, 7, 23⟩ [] htb (fun z hz => nomatch hz) (by decide) (by decide) (hts _ mL_strength_0) (va_any rfl (hT.2.2.2.1 "java/lang/IndexOutOfBoundsException" (by decide))) h7 h8 h9 ?_
    refine lv_astore_n (lv' := [(2, .ref q9), (0, .ref (ad 0)), (1, .int p1)]) hx hb dL_strength_7 rfl hl (by decide) rfl (fun ls hl => ?_)
    refine lv_ldc2 hx hb (v := -9000000000000000) hown (hts _ mL_strength_1) dL_strength_8 ?_
    exact h_lret hx hb hr hlocks rfl hG hS (Nat.le_of_ble_eq_true rfl) (Nat.le_of_ble_eq_true rfl) dL_strength_11
  · rw [hr1]
    refine lv_i2l (v := r.toInt64) hx hb dL_strength_5 rfl ?_
    exact h_lret hx hb hr hlocks rfl hG hS (Nat.le_of_ble_eq_true rfl) (Nat.le_of_ble_eq_true rfl) dL_strength_6
