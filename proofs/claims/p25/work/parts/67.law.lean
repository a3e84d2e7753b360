/-! printed by law25.py: the law -/
theorem HW2.weak {D : va_G} {cI cJ cZ cG : ClassId} {A B : Nat → Prop} {ad : Nat → Nat} {rw : Nat → Nat → Nat} {q : Nat} {a : AT} {ad' : Nat → Nat} {rw' : Nat → Nat → Nat} {q' : Nat} {a' : AT} {H : Heap} (h : HW2 D cI cJ cZ cG A ad rw q a ad' rw' q' a' H) (hAB : ∀ x, A x → B x) : HW2 D cI cJ cZ cG B ad rw q a ad' rw' q' a' H := by
  obtain ⟨σ, τ, h1, h2, h3, h4⟩ := h
  exact ⟨σ, τ, h1, ⟨h2.1, fun k x hk => hAB _ (h2.2 k x hk)⟩, h3, h4⟩
theorem HW2.mono2 {D : va_G} {cI cJ cZ cG : ClassId} {A : Nat → Prop} {ad : Nat → Nat} {rw : Nat → Nat → Nat} {q : Nat} {a : AT} {ad' : Nat → Nat} {rw' : Nat → Nat → Nat} {q' q2 : Nat} {a' : AT} {H : Heap} (h : HW2 D cI cJ cZ cG A ad rw q a ad' rw' q' a' H) (hq : q' ≤ q2) : HW2 D cI cJ cZ cG A ad rw q a ad' rw' q2 a' H := by
  obtain ⟨σ, τ, h1, h2, h3, h4⟩ := h
  exact ⟨σ, τ, h1, h2, h3, h4.mono hq⟩
section HLW
variable {p : Program} {l : Launch} {e : Env} {R : Room} {s : State} {m : MethodId} {args : Array Value} {below : List Frame} {meth : Method} {c : Code} {H : Heap} {locs : List Loc} {cells slots : Nat} {Q : State → Prop}
variable {cc : ByteArray} {pc : Nat} {ls : Array Slot} {rest : List Value} {D : va_G} {A : Nat → Prop} {cI cJ cZ cG : ClassId} {ad : Nat → Nat} {rw : Nat → Nat → Nat} {q q' : Nat} {a : AT}
theorem h_callC {maxL nL n index : Nat} {bytes : ByteArray} {ret : Option FieldType} {Ts : List Cond} {own : String} {st : List Value} {b L k : Nat} {xs : Nat → Int32}
    (S : CallFix p m c cc nL s args Ts own) (hL : L ≤ 260) (hk : k < 1000) (cw : CallB R s args own index yL_cell bytes maxL ret wsL_cell rmL_cell 0 0 n ∧ (Cond.static yL_cell).before args s = true) (hX : va_X b L xs s s.heap) (hbl : b < s.heap.size) (hbA : ¬ A b)
    (hS : va_S A s.heap H locs) (hA : ∀ q, s.heap.size ≤ q → A q)
    (hlen : ([.ref b, .int (nI k)] : List Value).length = n) (hsize : ls.size = nL) (hst : st = ([.ref b, .int (nI k)] : List Value).reverse ++ rest) (hrest : (rest.map fun v => v.category).sum ≤ 8) (hdg : decode cc pc = .ok (.invokestatic index, 3)) (hroom : cells ≤ R.cells ∧ slots ≤ R.slots)
    (kk : ∀ (v : Int32) (H1 : Heap) (locs1 : List Loc), H.size ≤ H1.size → (∀ x : Nat, x < H.size → H1[x]? = H[x]?) → va_S A s.heap H1 locs1 → W p l e R s m args below meth c H1 locs1 cells slots Q (F0 m (pc + 3) ls (.int v :: rest))) : W p l e R s m args below meth c H locs cells slots Q (F0 m pc ls st) := by
  subst hst
  have hfr : ∀ x : Nat, H.size ≤ x → A x := fun x hx => hA x (Nat.le_trans hS.1 hx)
  have hp : PreS s H (cPc b L xs (nI k) H.size) [.ref b, .int (nI k)] := ⟨cPc_blind, fun U hU hW => ⟨rfl, by rw [hU], by rw [hU]; exact (hX.kept (hS.2.1 b hbl hbA)).moved hW.alike, Nat.lt_of_lt_of_le hbl hS.1⟩⟩
  refine va_calli (va_runS S (b_cell l b L xs hL k hk H.size) cw hp rfl hlen hsize rfl (lv_room hrest) hdg hroom) hS (fun x _ h => hfr x h) hfr (fun r u t H1 locs1 ht hvm hw hB hz1 hk1 hS1 => ?_)
  exact kk r H1 locs1 hz1 (fun x hx => hk1 x hx (Nat.not_le.mpr hx)) hS1
theorem h_callA {ad2 : Nat → Nat} {rw2 : Nat → Nat → Nat} {maxL nL n index mc ms : Nat} {bytes : ByteArray} {ret : Option FieldType} {Ts : List Cond} {own : String} {As st : List Value}
    (S : CallFix p m c cc nL s args Ts own) (hM : Met l yL_areAlike wsL_areAlike rmL_areAlike (H2Pc As D cI cJ cZ cG H.size ad rw q ad2 rw2 q' a) (va_Qi (fun (r : Int32) (_ : Unit) => r = 1) (fun _ t => HW2 D cI cJ cZ cG (fun x => HA cI cJ cZ cG ad rw H.size x ∨ HA cI cJ cZ cG ad2 rw2 H.size x) ad rw q a ad2 rw2 q' a t.heap) (fun x => HA cI cJ cZ cG ad rw H.size x ∨ HA cI cJ cZ cG ad2 rw2 H.size x)) mc ms (fun x => HA cI cJ cZ cG ad rw H.size x ∨ HA cI cJ cZ cG ad2 rw2 H.size x))
    (cw : CallB R s args own index yL_areAlike bytes maxL ret wsL_areAlike rmL_areAlike mc ms n ∧ (Cond.static yL_areAlike).before args s = true) (hK : va_K D vwCl (tysW cI cJ cZ cG) s) (hG : HW2 D cI cJ cZ cG A ad rw q a ad2 rw2 q' a H) (hS : va_S A s.heap H locs) (hA : ∀ q, s.heap.size ≤ q → A q) (hT : wThr A s) (hN : wNcs s)
    (hlen : As.length = n) (hsize : ls.size = nL) (hst : st = As.reverse ++ rest) (hrest : (rest.map fun v => v.category).sum ≤ 8) (hdg : decode cc pc = .ok (.invokestatic index, 3)) (hroom : cells + mc ≤ R.cells ∧ slots + ms ≤ R.slots)
    (kk : ∀ (H1 : Heap) (locs1 : List Loc), HW2 D cI cJ cZ cG A ad rw q a ad2 rw2 q' a H1 → va_S A s.heap H1 locs1 → W p l e R s m args below meth c H1 locs1 (cells + mc) (slots + ms) Q (F0 m (pc + 3) ls (.int 1 :: rest))) : W p l e R s m args below meth c H locs cells slots Q (F0 m pc ls st) := by
  subst hst
  have hA' : ∀ x, H.size ≤ x → A x := fun x hx => hA x (Nat.le_trans hS.1 hx)
  have hfr : ∀ x, (HA cI cJ cZ cG ad rw H.size x ∨ HA cI cJ cZ cG ad2 rw2 H.size x) → A x := fun x hx => hx.elim (hG.fst.free hA' x) (hG.symm.fst.free hA' x)
  have hp : PreS s H (H2Pc As D cI cJ cZ cG H.size ad rw q ad2 rw2 q' a) As := ⟨H2Pc_blind, fun U hU hW => ⟨rfl, by rw [hU], by rw [hU]; exact hG.weak (fun _ _ => trivial), va_K.moved hW.alike hK, hT.to hS hU hW hfr, hN.moved hW.alike⟩⟩
  refine va_calli (va_runS S hM cw hp rfl hlen hsize rfl (lv_room hrest) hdg hroom) hS (fun x _ h => hfr x h) hfr (fun r u t H1 locs1 ht hvm hw hB hz1 hk1 hS1 => ?_)
  subst hw
  rw [ht] at hB
  exact kk H1 locs1 (hB.weak hfr) hS1
theorem h_callI {maxL nL n index mc ms : Nat} {bytes : ByteArray} {ret : Option FieldType} {Ts : List Cond} {own : String} {As st : List Value}
    (S : CallFix p m c cc nL s args Ts own) (hM : Met l yL_isSo wsL_isSo rmL_isSo (HPc As D cI cJ cZ cG H.size ad rw q a) (va_Qi (fun (r : Int32) (_ : Unit) => r = 1) (fun _ _ => True) (HA cI cJ cZ cG ad rw H.size)) mc ms (HA cI cJ cZ cG ad rw H.size))
    (cw : CallB R s args own index yL_isSo bytes maxL ret wsL_isSo rmL_isSo mc ms n ∧ (Cond.static yL_isSo).before args s = true) (hK : va_K D vwCl (tysW cI cJ cZ cG) s) (hG : HWe D cI cJ cZ cG A ad rw q a H) (hS : va_S A s.heap H locs) (hA : ∀ q, s.heap.size ≤ q → A q) (hT : wThr A s) (hN : wNcs s)
    (hlen : As.length = n) (hsize : ls.size = nL) (hst : st = As.reverse ++ rest) (hrest : (rest.map fun v => v.category).sum ≤ 8) (hdg : decode cc pc = .ok (.invokestatic index, 3)) (hroom : cells + mc ≤ R.cells ∧ slots + ms ≤ R.slots)
    (kk : ∀ (H1 : Heap) (locs1 : List Loc), va_S A s.heap H1 locs1 → W p l e R s m args below meth c H1 locs1 (cells + mc) (slots + ms) Q (F0 m (pc + 3) ls (.int 1 :: rest))) : W p l e R s m args below meth c H locs cells slots Q (F0 m pc ls st) := by
  subst hst
  have hfr := hG.free (sz := H.size) (fun x hx => hA x (Nat.le_trans hS.1 hx))
  refine va_calli (va_runS S hM cw (h_preL hK hG hT hN hS hfr) rfl hlen hsize rfl (lv_room hrest) hdg hroom) hS (fun x _ h => hfr x h) hfr (fun r u t H1 locs1 ht hvm hw hB hz1 hk1 hS1 => ?_)
  subst hw
  exact kk H1 locs1 hS1
end HLW
theorem mL_law_0 : (Cond.constantLong RL 16 (-9000000000000000)) ∈ wsL_law := List.mem_append_left _ (List.mem_append_left _ (List.mem_append_left _ (by decide +kernel)))
set_option maxHeartbeats 4000000 in
set_option maxRecDepth 100000 in
theorem law_loop {p : Program} {l : Launch} {e : Env} {s : State} {m : MethodId} {below : List Frame} {meth : Method} {c : Code} {b L : Nat} {xs : Nat → Int32} {dC : Nat → ClassId} {dI : Nat → Nat → Nat} {cI cJ cZ cG : ClassId} {ad : Nat → Nat} {rw : Nat → Nat → Nat} {ad2 : Nat → Nat} {rw2 : Nat → Nat → Nat} (hx : p.tables.exec = Jvm.exec) (hb : c.code = code) (hr : meth.sig.returnType = ret) (hml : c.maxLocals = 7) (hown : s.vm.findClass RL = some m.cls) (hts : ∀ w ∈ wsL_law, w.before #[Value.ref b] s = true) (hX : va_X b L xs s s.heap) (hbl : b < s.heap.size) (hL : L ≤ 260) (hlocks : meth.locks = false) (hlt : l.stackTraces = false) (hK : va_K (dC, dI) vwCl (tysW cI cJ cZ cG) s) (hT : wThr (lwA s) s) (hN : wNcs s) : ∀ (r k : Nat) (a : AT) (H : Heap) (locs : List Loc) (ls : Array Slot) (cells slots : Nat), k + r = 100 → cells ≤ 400 + 220 * k → slots ≤ 6000 + 1320 * k → HW2 (dC, dI) cI cJ cZ cG (lwA s) ad rw k a ad2 rw2 k a H → va_S (lwA s) s.heap H locs → lv_has ls 7 [(3, .int (nI k)), (0, .ref b), (1, .ref (ad 0)), (2, .ref (ad2 0))] → W p l e room_1 s m #[Value.ref b] below meth c H locs cells slots (lw_Z below #[Value.ref b] s) (F0 m 18 ls []) := by
  have hA : ∀ x : Nat, s.heap.size ≤ x → lwA s x := fun _ h => h
  have hbA : ¬ lwA s b := Nat.not_le.mpr hbl
  intro r
  induction r with
  | zero =>
    intro k a H locs ls cells slots hk hc1 hc2 hG hS hl
    have hk1 : k = 100 := by omega
    subst hk1
    refine lv_iload_n hx hb dL_law_18 rfl (lv_at hl 0 rfl) ?_
    refine lv_bipush (v := 100) hx hb dL_law_19 (by decide) ?_
    refine lv_icmp_ge (tgt := 91) hx hb dL_law_21 (by decide) (fun c_1 => ?_) (fun c_1 => absurd (by decide) c_1)
    refine lv_aload_n hx hb dL_law_91 rfl (lv_at hl 2 rfl) ?_
    refine lv_aload_n hx hb dL_law_92 rfl (lv_at hl 1 rfl) ?_
    refine lv_bipush (v := 100) hx hb dL_law_93 (by decide) ?_
    refine h_callC (k := 100) (rest := [.ref (ad 0)]) ⟨hx, hb, hml, hown, hts⟩ hL (by decide) (va_cwS 2 hts gL_law_L_cell rfl rfl rfl (by decide +kernel) ⟨Nat.le_of_ble_eq_true rfl, Nat.le_of_ble_eq_true rfl⟩) hX hbl hbA hS hA rfl hl.1 rfl (Nat.le_of_ble_eq_true rfl) dL_law_95 ⟨by show cells ≤ 639334; omega, by show slots ≤ 7183466; omega⟩ (fun v H locs hz9 hk9 hS => ?_)
    replace hG := h_keep2 hG hk9
    refine h_callI (As := [.ref (ad 0), .int v]) (rest := []) ⟨hx, hb, hml, hown, hts⟩ (b_isSo l hlt dC dI cI cJ cZ cG ad rw 100 a (by decide) H.size v) (va_cwS 2 hts gL_law_L_isSo rfl rfl rfl (by decide +kernel) ⟨Nat.le_of_ble_eq_true rfl, Nat.le_of_ble_eq_true rfl⟩) hK hG.fst hS hA hT hN rfl hl.1 rfl (Nat.le_of_ble_eq_true rfl) dL_law_98 ⟨by show cells + 200 ≤ 639334; omega, by show slots + 1200 ≤ 7183466; omega⟩ (fun H locs hS => ?_)
    refine va_forget (fun q hq => hS.2.2 q hq) ?_
    refine W.widen (k := 639334) (n := 7183466) (by omega) (by omega) ?_
    exact lw_ret hx hb hr hlocks dL_law_101
  | succ r ih =>
    intro k a H locs ls cells slots hk hc1 hc2 hG hS hl
    have hk1 : k < 100 := by omega
    refine lv_iload_n hx hb dL_law_18 rfl (lv_at hl 0 rfl) ?_
    refine lv_bipush (v := 100) hx hb dL_law_19 (by decide) ?_
    refine lv_icmp_ge (tgt := 91) hx hb dL_law_21 (by decide) (fun c_1 => absurd c_1 (nnle (a := 100) hk1 (by omega))) (fun c_1 => ?_)
    refine lv_aload_n hx hb dL_law_24 rfl (lv_at hl 1 rfl) ?_
    refine lv_iload_n hx hb dL_law_25 rfl (lv_at hl 0 rfl) ?_
    refine h_callC (k := k) (rest := []) ⟨hx, hb, hml, hown, hts⟩ hL (by omega) (va_cwS 2 hts gL_law_L_cell rfl rfl rfl (by decide +kernel) ⟨Nat.le_of_ble_eq_true rfl, Nat.le_of_ble_eq_true rfl⟩) hX hbl hbA hS hA rfl hl.1 rfl (Nat.le_of_ble_eq_true rfl) dL_law_26 ⟨by show cells ≤ 639334; omega, by show slots ≤ 7183466; omega⟩ (fun v H locs hz9 hk9 hS => ?_)
    replace hG := h_keep2 hG hk9
    refine lv_istore (lv' := [(4, .int v), (3, .int (nI k)), (0, .ref b), (1, .ref (ad 0)), (2, .ref (ad2 0))]) hx hb dL_law_29 hl (by decide) rfl (fun ls hl => ?_)
    refine lv_aload_n hx hb dL_law_31 rfl (lv_at hl 3 rfl) ?_
    refine lv_iload hx hb dL_law_32 (lv_at hl 0 rfl) ?_
    refine lv_iload_n hx hb dL_law_34 rfl (lv_at hl 1 rfl) ?_
    refine h_callS (ad := ad) (rw := rw) (As := [.ref (ad 0), .int v, .int (nI k)]) (rest := []) ⟨hx, hb, hml, hown, hts⟩ (b_act l hlt dC dI cI cJ cZ cG ad rw k a (by omega) H.size v (nI k)) (va_cwS 3 hts gL_law_L_act rfl rfl rfl (by decide +kernel) ⟨Nat.le_of_ble_eq_true rfl, Nat.le_of_ble_eq_true rfl⟩) hK Foc.fst hG hS hA hT hN rfl hl.1 rfl (Nat.le_of_ble_eq_true rfl) dL_law_35 ⟨by show cells + 4 ≤ 639334; omega, by show slots + 24 ≤ 7183466; omega⟩ (fun H locs hG hS => ?_)
    replace hG : HW2 (dC, dI) cI cJ cZ cG (lwA s) ad rw (k + 1) (sAct a v (nI k)).2 ad2 rw2 k a H := hG
    refine lv_lstore (lv' := [(5, .long (sAct a v (nI k)).1), (4, .int v), (3, .int (nI k)), (0, .ref b), (1, .ref (ad 0)), (2, .ref (ad2 0))]) hx hb dL_law_38 hl (by decide) rfl (fun ls hl => ?_)
    -- what follows behind both ways
    have J85 : ∀ (a1 : AT) (H : Heap) (locs : List Loc) (cl sl : Nat), cl ≤ 400 + 220 * (k + 1) → sl ≤ 6000 + 1320 * (k + 1) → HW2 (dC, dI) cI cJ cZ cG (lwA s) ad rw (k + 1) a1 ad2 rw2 (k + 1) a1 H → va_S (lwA s) s.heap H locs → W p l e room_1 s m #[Value.ref b] below meth c H locs cl sl (lw_Z below #[Value.ref b] s) (F0 m 85 ls []) := by
      intro a1 H locs cl sl hc1 hc2 hG hS
      refine lv_iinc (v := nI (k + 1)) (lv' := [(3, .int (nI (k + 1))), (5, .long (sAct a v (nI k)).1), (4, .int v), (0, .ref b), (1, .ref (ad 0)), (2, .ref (ad2 0))]) hx hb dL_law_85 hl (k := 2) rfl (by rw [← nI_1]; rfl) (by decide) rfl (fun ls hl => ?_)
      refine lv_goto (tgt := 18) hx hb dL_law_88 (by decide) ?_
      exact ih (k + 1) a1 H locs ls cl sl (by omega) hc1 hc2 hG hS (lv_sub hl [0, 3, 4, 5] rfl)
    have J62 : ∀ (a1 : AT) (H : Heap) (locs : List Loc) (cl sl : Nat), cl ≤ cells + 8 → sl ≤ slots + 48 → HW2 (dC, dI) cI cJ cZ cG (lwA s) ad rw (k + 1) a1 ad2 rw2 (k + 1) a1 H → va_S (lwA s) s.heap H locs → W p l e room_1 s m #[Value.ref b] below meth c H locs cl sl (lw_Z below #[Value.ref b] s) (F0 m 62 ls []) := by
      intro a1 H locs cl sl hd1 hd2 hG hS
      refine lv_iload_n hx hb dL_law_62 rfl (lv_at hl 2 rfl) ?_
      refine lv_bipush (v := 20) hx hb dL_law_63 (by decide) ?_
      refine lv_irem hx hb dL_law_65 (by decide) ?_
      refine lv_bipush (v := 19) hx hb dL_law_66 (by decide) ?_
      refine lv_icmp_ne (tgt := 85) hx hb dL_law_68 (by decide) (fun c_68 => J85 a1 H locs cl sl (by omega) (by omega) hG hS) (fun c_68 => ?_)
      refine lv_aload_n hx hb dL_law_71 rfl (lv_at hl 4 rfl) ?_
      refine lv_aload_n hx hb dL_law_72 rfl (lv_at hl 5 rfl) ?_
      refine lv_iload hx hb dL_law_73 (lv_at hl 1 rfl) ?_
      refine lv_iconst (v := 3) hx hb dL_law_75 (by decide) ?_
      refine lv_ishr hx hb dL_law_76 ?_
      refine h_callA (As := [.ref (ad 0), .ref (ad2 0), .int (v >>> ((3 : Int32) &&& 31))]) (rest := []) ⟨hx, hb, hml, hown, hts⟩ (b_areAlike l hlt dC dI cI cJ cZ cG ad rw (k + 1) ad2 rw2 (k + 1) a1 (by omega) H.size (v >>> ((3 : Int32) &&& 31))) (va_cwS 3 hts gL_law_L_areAlike rfl rfl rfl (by decide +kernel) ⟨Nat.le_of_ble_eq_true rfl, Nat.le_of_ble_eq_true rfl⟩) hK hG hS hA hT hN rfl hl.1 rfl (Nat.le_of_ble_eq_true rfl) dL_law_77 ⟨by show cl + 200 ≤ 639334; omega, by show sl + 1200 ≤ 7183466; omega⟩ (fun H locs hG hS => ?_)
      refine lv_if_ne (tgt := 85) hx hb dL_law_80 (by decide) (fun c_80 => ?_) (fun c_80 => absurd c_80 (by decide))
      exact J85 a1 H locs _ _ (by omega) (by omega) hG hS
    refine lv_lload hx hb dL_law_40 (lv_at hl 0 rfl) ?_
    refine lv_ldc2 (v := (-9000000000000000)) hx hb hown (hts _ mL_law_0) dL_law_42 ?_
    refine W.lcmp hx hb dL_law_45 ?_
    refine lv_if_eq (tgt := 62) hx hb dL_law_46 (by decide) (fun c_46 => ?_) (fun c_46 => ?_)
    · have ea : (sAct a v (nI k)).2 = a := sAct_thr a v (nI k) (cmp_0 c_46)
      rw [ea] at hG
      exact J62 a H locs _ _ (by omega) (by omega) (hG.mono2 (Nat.le_succ k)) hS
    · refine lv_aload_n hx hb dL_law_49 rfl (lv_at hl 5 rfl) ?_
      refine lv_iload hx hb dL_law_50 (lv_at hl 1 rfl) ?_
      refine lv_iload_n hx hb dL_law_52 rfl (lv_at hl 2 rfl) ?_
      refine h_callS (ad := ad2) (rw := rw2) (As := [.ref (ad2 0), .int v, .int (nI k)]) (rest := []) ⟨hx, hb, hml, hown, hts⟩ (b_act l hlt dC dI cI cJ cZ cG ad2 rw2 k a (by omega) H.size v (nI k)) (va_cwS 3 hts gL_law_L_act rfl rfl rfl (by decide +kernel) ⟨Nat.le_of_ble_eq_true rfl, Nat.le_of_ble_eq_true rfl⟩) hK Foc.snd hG hS hA hT hN rfl hl.1 rfl (Nat.le_of_ble_eq_true rfl) dL_law_53 ⟨by show cells + 4 + 4 ≤ 639334; omega, by show slots + 24 + 24 ≤ 7183466; omega⟩ (fun H locs hG hS => ?_)
      replace hG : HW2 (dC, dI) cI cJ cZ cG (lwA s) ad rw (k + 1) (sAct a v (nI k)).2 ad2 rw2 (k + 1) (sAct a v (nI k)).2 H := hG
      refine lv_lload hx hb dL_law_56 (lv_at hl 0 rfl) ?_
      refine W.lcmp hx hb dL_law_58 ?_
      refine lv_if_ne (tgt := 83) hx hb dL_law_59 (by decide) (fun c_59 => absurd (lg_cmp0 _) c_59) (fun c_59 => ?_)
      exact J62 (sAct a v (nI k)).2 H locs _ _ (by omega) (by omega) hG hS
set_option maxHeartbeats 8000000 in
set_option maxRecDepth 100000 in
theorem whole_start {p : Program} {e : Env} {s : State} {m : MethodId} {below : List Frame} {meth : Method} {c : Code} (l : Launch) (hflags : l.flags = flags0) {b L : Nat} {xs : Nat → Int32} (hL : L ≤ 260) (C0 : lw_At p s m meth c b L xs) : W p l e room_1 s m #[Value.ref b] below meth c s.heap [] 0 0 (lw_Z below #[Value.ref b] s) (entryFrame m ([Value.ref b] : List Value).toArray 7) := by
  obtain ⟨hx, hb, hr, hml, hown, hts0, hX, hbl, hlocks, hgv⟩ := C0
  have hlt : l.stackTraces = false := by
    unfold Launch.stackTraces
    rw [hflags]
    decide +kernel
  obtain ⟨dC, dI, cI, cJ, cZ, cG, hK⟩ := law_K hts0
  have hT := law_T hts0 hgv
  have hN := law_N hgv
  have hI := law_I hts0
  have hts : ∀ w ∈ wsL_law, w.before #[Value.ref b] s = true := fun w hw => hts0 w (wsL_law_in w hw)
  have hA : ∀ q : Nat, s.heap.size ≤ q → lwA s q := fun _ h => h
  have hS : va_S (lwA s) s.heap s.heap [] := va_S.rf
  have hP : va_P (dC, dI) vwCl [] s.heap := fun k q h => by simp at h
  have hD : va_D (lwA s) [] := ⟨fun i j p q h => by simp at h, fun k q h => by simp at h⟩
  obtain ⟨li, sh, gi, wa, st, hf8, hli, hgi, hst⟩ := i8
  have hl := lv_entry ([.ref b]) (n := 7) (Nat.le_of_ble_eq_true rfl)
  rw [lg_entry_eq]
  generalize (lg_sl ([.ref b]) ++ List.replicate (7 - (lg_sl ([.ref b])).length) Slot.unset).toArray = ls at hl ⊢
  have hl : lv_has ls 7 [(0, .ref b)] := hl
  refine va_new (D := (dC, dI)) (ci := 8) (C := RX8) (T := TX8) (N := 9) (fs := [.null, .null, .null, .null, .null, .null, .null, .null, .int 0]) hx hb hts inlX8 tyX8 tyX8_ok hown (hts0 (.classLink RL 9 RX8) (by decide +kernel)) (hts0 (.instantiable RX8 9) (by decide +kernel)) (hts0 (.initialized RX8) (by decide +kernel)) hK hP hD hS hA rfl (fun j hj => by rcases j with _ | _ | _ | _ | _ | _ | _ | _ | _ | j <;> first | rfl | omega) (Nat.le_of_ble_eq_true rfl) (Nat.le_of_ble_eq_true rfl) dL_law_0 (fun p H hP hD hS => ?_)
  have hP : va_P (dC, dI) vwCl [(p, .inr (8, [.null, .null, .null, .null, .null, .null, .null, .null, .int 0]))] H := hP
  have hD : va_D (lwA s) [(p, .inr (8, [.null, .null, .null, .null, .null, .null, .null, .null, .int 0]))] := hD
  refine lv_dup hx hb dL_law_3 rfl ?_
  have hFc := va_free (wc := [(p, .inr (8, [.null, .null, .null, .null, .null, .null, .null, .null, .int 0]))]) hD hS hA [0] rfl
  refine va_callv (va_runI (As := []) (rest := [.ref p]) ⟨hx, hb, hml, hown, hts⟩ (oX8_init l dC dI cI cJ cZ cG p H.size (0, 0, (fun _ => 0), (fun _ => 0), (fun _ => 0), (fun _ _ => 0), (fun _ _ => 0), (fun _ => 0), 0, li, sh, (fun _ => 0), (fun _ => 0), (fun _ => 0), (fun _ => 0), 0, 0, 0, 0, 0, li, sh, (fun _ => 0), (fun _ => 0), (fun _ => 0), (fun _ => 0), 0, (fun _ => 0), 0, li, sh, (fun _ => 0), (fun _ => 0), (fun _ => 0), (fun _ => 0), 0, 0, 0, 0, (fun _ _ => 0), 0, gi, wa, (fun _ => 0), 0, st, (fun _ => 0), (fun _ => 0), (fun _ => 0)) hf8) (cwI 0 hts gL_law_X8_init rfl rfl rfl (hts0 (.initialized RX8) (by decide +kernel)) (hts0 (.methodLink RL 140 yX8_init) (by decide +kernel)) (hts0 (.instanceMethod yX8_init) (by decide +kernel)) rfl (by decide +kernel) ⟨Nat.le_of_ble_eq_true rfl, Nat.le_of_ble_eq_true rfl⟩) (w_preI hK hP hD hI) rfl rfl hl.1 rfl (lv_room (Nat.le_of_ble_eq_true rfl)) dL_law_4 ⟨Nat.le_of_ble_eq_true rfl, Nat.le_of_ble_eq_true rfl⟩) hS (fun q _ h => hFc q h) hFc (fun u t H1 locs ht hvm hw hB hz1 hk1 hS => ?_)
  obtain ⟨p1, p2, p3, p4, p5, p6, p7, p8, p9, p10, p11, p12, p13, p14, p15, p16, p17, p18, p19, p20, p21, p22, p23, p24, p25, p26, p27, p28, p29, p30, p31, p32, p33, p34, p35, p36, p37, p38, p39, p40, p41, p42, p43, r0, r1, r2, hP1, hD1⟩ := hB
  rw [ht] at hP1
  obtain ⟨hP, hD⟩ := va_join (wr := []) (w1 := (wcX8_full cI cJ cZ cG p p1 p2 p3 p4 p5 p6 p7 p8 p9 p10 p11 p12 p13 p14 p15 p16 p17 p18 p19 p20 p21 p22 p23 p24 p25 p26 p27 p28 p29 p30 p31 p32 p33 p34 p35 p36 p37 p38 p39 p40 p41 p42 p43 r0 r1 r2 0 0 (fun _ => 0) (fun _ => 0) (fun _ => 0) (fun _ _ => 0) (fun _ _ => 0) (fun _ => 0) 0 li sh (fun _ => 0) (fun _ => 0) (fun _ => 0) (fun _ => 0) 0 0 0 0 0 li sh (fun _ => 0) (fun _ => 0) (fun _ => 0) (fun _ => 0) 0 (fun _ => 0) 0 li sh (fun _ => 0) (fun _ => 0) (fun _ => 0) (fun _ => 0) 0 0 0 0 (fun _ _ => 0) 0 gi wa (fun _ => 0) 0 st (fun _ => 0) (fun _ => 0) (fun _ => 0))) hP hD [0] [] rfl rfl (by decide) (by decide) hk1 hFc hP1 hD1
  clear hFc hP1 hD1 hk1 hw hz1 hvm ht
  have hP : va_P (dC, dI) vwCl (HW cI cJ cZ cG (mkad [p, p1, p2, p3, p4, p5, p6, p7, p8, p9, p10, p11, p12, p13, p14, p15, p16, p17, p18, p19, p20, p21, p22, p23, p24, p25, p26, p27, p28, p29, p30, p31, p32, p33, p34, p35, p36, p37, p38, p39, p40, p41, p42, p43]) (mkrw [r0, r1, r2]) (cst0 li sh gi wa st)) H1 := hP
  have hD : va_D (lwA s) (HW cI cJ cZ cG (mkad [p, p1, p2, p3, p4, p5, p6, p7, p8, p9, p10, p11, p12, p13, p14, p15, p16, p17, p18, p19, p20, p21, p22, p23, p24, p25, p26, p27, p28, p29, p30, p31, p32, p33, p34, p35, p36, p37, p38, p39, p40, p41, p42, p43]) (mkrw [r0, r1, r2]) (cst0 li sh gi wa st)) := hD
  refine lv_astore_n (lv' := [(1, .ref p), (0, .ref b)]) hx hb dL_law_7 rfl hl (by decide) rfl (fun ls hl => ?_)
  obtain ⟨X1, hX1⟩ : ∃ x : va_W, x = (HW cI cJ cZ cG (mkad [p, p1, p2, p3, p4, p5, p6, p7, p8, p9, p10, p11, p12, p13, p14, p15, p16, p17, p18, p19, p20, p21, p22, p23, p24, p25, p26, p27, p28, p29, p30, p31, p32, p33, p34, p35, p36, p37, p38, p39, p40, p41, p42, p43]) (mkrw [r0, r1, r2]) (cst0 li sh gi wa st)) := ⟨_, rfl⟩
  rw [← hX1] at hP hD
  refine va_new (D := (dC, dI)) (ci := 8) (C := RX8) (T := TX8) (N := 9) (fs := [.null, .null, .null, .null, .null, .null, .null, .null, .int 0]) hx hb hts inlX8 tyX8 tyX8_ok hown (hts0 (.classLink RL 9 RX8) (by decide +kernel)) (hts0 (.instantiable RX8 9) (by decide +kernel)) (hts0 (.initialized RX8) (by decide +kernel)) hK hP hD hS hA rfl (fun j hj => by rcases j with _ | _ | _ | _ | _ | _ | _ | _ | _ | j <;> first | rfl | omega) (Nat.le_of_ble_eq_true rfl) (Nat.le_of_ble_eq_true rfl) dL_law_8 (fun u H2 hP hD hS => ?_)
  replace hP : va_P (dC, dI) vwCl ([(u, .inr (8, [.null, .null, .null, .null, .null, .null, .null, .null, .int 0]))] ++ X1) H2 := w_permP List.perm_append_comm hP
  replace hD : va_D (lwA s) ([(u, .inr (8, [.null, .null, .null, .null, .null, .null, .null, .null, .int 0]))] ++ X1) := w_permD List.perm_append_comm hD
  refine lv_dup hx hb dL_law_11 rfl ?_
  have hPc := w_lP hP
  have hDc := w_lD hD
  have hFc := va_free (wc := [(u, .inr (8, [.null, .null, .null, .null, .null, .null, .null, .null, .int 0]))]) hDc hS hA [0] rfl
  refine va_callv (va_runI (As := []) (rest := [.ref u]) ⟨hx, hb, hml, hown, hts⟩ (oX8_init l dC dI cI cJ cZ cG u H2.size (0, 0, (fun _ => 0), (fun _ => 0), (fun _ => 0), (fun _ _ => 0), (fun _ _ => 0), (fun _ => 0), 0, li, sh, (fun _ => 0), (fun _ => 0), (fun _ => 0), (fun _ => 0), 0, 0, 0, 0, 0, li, sh, (fun _ => 0), (fun _ => 0), (fun _ => 0), (fun _ => 0), 0, (fun _ => 0), 0, li, sh, (fun _ => 0), (fun _ => 0), (fun _ => 0), (fun _ => 0), 0, 0, 0, 0, (fun _ _ => 0), 0, gi, wa, (fun _ => 0), 0, st, (fun _ => 0), (fun _ => 0), (fun _ => 0)) hf8) (cwI 0 hts gL_law_X8_init rfl rfl rfl (hts0 (.initialized RX8) (by decide +kernel)) (hts0 (.methodLink RL 140 yX8_init) (by decide +kernel)) (hts0 (.instanceMethod yX8_init) (by decide +kernel)) rfl (by decide +kernel) ⟨Nat.le_of_ble_eq_true rfl, Nat.le_of_ble_eq_true rfl⟩) (w_preI hK hPc hDc hI) rfl rfl hl.1 rfl (lv_room (Nat.le_of_ble_eq_true rfl)) dL_law_12 ⟨Nat.le_of_ble_eq_true rfl, Nat.le_of_ble_eq_true rfl⟩) hS (fun q _ h => hFc q h) hFc (fun w9 t9 H3 locs ht hvm hw hB hz1 hk1 hS => ?_)
  obtain ⟨u1, u2, u3, u4, u5, u6, u7, u8, u9, u10, u11, u12, u13, u14, u15, u16, u17, u18, u19, u20, u21, u22, u23, u24, u25, u26, u27, u28, u29, u30, u31, u32, u33, u34, u35, u36, u37, u38, u39, u40, u41, u42, u43, t0, t1, t2, hP1, hD1⟩ := hB
  rw [ht] at hP1
  obtain ⟨hP, hD⟩ := va_joinQ (X := [(u, .inr (8, [.null, .null, .null, .null, .null, .null, .null, .null, .int 0]))]) (cx := [(u, .inr (8, [.null, .null, .null, .null, .null, .null, .null, .null, .int 0]))]) (wr := []) (w1 := (wcX8_full cI cJ cZ cG u u1 u2 u3 u4 u5 u6 u7 u8 u9 u10 u11 u12 u13 u14 u15 u16 u17 u18 u19 u20 u21 u22 u23 u24 u25 u26 u27 u28 u29 u30 u31 u32 u33 u34 u35 u36 u37 u38 u39 u40 u41 u42 u43 t0 t1 t2 0 0 (fun _ => 0) (fun _ => 0) (fun _ => 0) (fun _ _ => 0) (fun _ _ => 0) (fun _ => 0) 0 li sh (fun _ => 0) (fun _ => 0) (fun _ => 0) (fun _ => 0) 0 0 0 0 0 li sh (fun _ => 0) (fun _ => 0) (fun _ => 0) (fun _ => 0) 0 (fun _ => 0) 0 li sh (fun _ => 0) (fun _ => 0) (fun _ => 0) (fun _ => 0) 0 0 0 0 (fun _ _ => 0) 0 gi wa (fun _ => 0) 0 st (fun _ => 0) (fun _ => 0) (fun _ => 0))) (pl := X1) hP hD [0] [] rfl rfl rfl (by decide) hk1 hFc hP1 hD1
  clear hPc hDc hFc hP1 hD1 hk1 hw hz1 hvm ht
  replace hP : va_P (dC, dI) vwCl ((HW cI cJ cZ cG (mkad [u, u1, u2, u3, u4, u5, u6, u7, u8, u9, u10, u11, u12, u13, u14, u15, u16, u17, u18, u19, u20, u21, u22, u23, u24, u25, u26, u27, u28, u29, u30, u31, u32, u33, u34, u35, u36, u37, u38, u39, u40, u41, u42, u43]) (mkrw [t0, t1, t2]) (cst0 li sh gi wa st)) ++ X1) H3 := hP
  replace hD : va_D (lwA s) ((HW cI cJ cZ cG (mkad [u, u1, u2, u3, u4, u5, u6, u7, u8, u9, u10, u11, u12, u13, u14, u15, u16, u17, u18, u19, u20, u21, u22, u23, u24, u25, u26, u27, u28, u29, u30, u31, u32, u33, u34, u35, u36, u37, u38, u39, u40, u41, u42, u43]) (mkrw [t0, t1, t2]) (cst0 li sh gi wa st)) ++ X1) := hD
  replace hP := w_permP List.perm_append_comm hP
  replace hD := w_permD List.perm_append_comm hD
  refine lv_astore_n (lv' := [(2, .ref u), (1, .ref p), (0, .ref b)]) hx hb dL_law_15 rfl hl (by decide) rfl (fun ls hl => ?_)
  refine lv_iconst (v := 0) hx hb dL_law_16 (by decide) ?_
  refine lv_istore_n (lv' := [(3, .int (nI 0)), (2, .ref u), (1, .ref p), (0, .ref b)]) hx hb dL_law_17 rfl hl (by decide) rfl (fun ls hl => ?_)
  subst hX1
  have hG : HW2 (dC, dI) cI cJ cZ cG (lwA s) (mkad [p, p1, p2, p3, p4, p5, p6, p7, p8, p9, p10, p11, p12, p13, p14, p15, p16, p17, p18, p19, p20, p21, p22, p23, p24, p25, p26, p27, p28, p29, p30, p31, p32, p33, p34, p35, p36, p37, p38, p39, p40, p41, p42, p43]) (mkrw [r0, r1, r2]) 0 ast0 (mkad [u, u1, u2, u3, u4, u5, u6, u7, u8, u9, u10, u11, u12, u13, u14, u15, u16, u17, u18, u19, u20, u21, u22, u23, u24, u25, u26, u27, u28, u29, u30, u31, u32, u33, u34, u35, u36, u37, u38, u39, u40, u41, u42, u43]) (mkrw [t0, t1, t2]) 0 ast0 H3 := ⟨_, _, hP, hD, rel0 hli hgi hst, rel0 hli hgi hst⟩
  exact law_loop hx hb hr hml hown hts hX hbl hL hlocks hlt hK hT hN 100 0 ast0 H3 _ ls _ _ (by omega) (Nat.le_of_ble_eq_true rfl) (Nat.le_of_ble_eq_true rfl) hG hS (lv_sub hl [0, 3, 2, 1] rfl)
