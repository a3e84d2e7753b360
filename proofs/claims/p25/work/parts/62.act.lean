/-! printed by act25.py: act -/
abbrev rmL_act : Room := { frames := 84, cells := 4, slots := 24, locals := 2891 }
def pr (a : AT) (r : Option (Int32 × AT)) : Int64 × AT := (tl r, nx a r)
def pz (a : AT) (r : Option (Int32 × AT)) : Int64 × AT := (tz r, nx a r)
def ActE (p : Program) (l : Launch) (s : State) (args : Array Value) (m : MethodId) (meth : Method) (c : Code) (dC : Nat → ClassId) (dI : Nat → Nat → Nat) (cI cJ cZ cG : ClassId) (A : Nat → Prop) : Prop := p.tables.exec = Jvm.exec ∧ c.code = cL_act ∧ meth.sig.returnType = some .long ∧ c.maxLocals = 9 ∧ s.vm.findClass RL = some m.cls ∧ (∀ w ∈ wsL_act, w.before args s = true) ∧ meth.locks = false ∧ l.stackTraces = false ∧ va_K (dC, dI) vwCl (tysW cI cJ cZ cG) s ∧ wThr A s ∧ wNcs s ∧ ∀ x : Nat, s.heap.size ≤ x → A x
def zact_1 (v ei : Int32) : Int32 := if (lw (v >>> ((26 : Int32) &&& 31)) 14) = 0 then 1 else 0
def zact_2 (v ei : Int32) : Int32 := if (zact_1 v ei) = 0 then (lw (v >>> ((5 : Int32) &&& 31)) 6) else ((lw (v >>> ((5 : Int32) &&& 31)) 9) - 1)
def zact_3 (v ei : Int32) : Int32 := if (zact_1 v ei) = 0 then (lw (v >>> ((8 : Int32) &&& 31)) 6) else ((lw (v >>> ((8 : Int32) &&& 31)) 9) - 1)
def zact_4 (v ei : Int32) : Int32 := if (zact_1 v ei) = 0 then (lw (v >>> ((11 : Int32) &&& 31)) 5) else ((lw (v >>> ((11 : Int32) &&& 31)) 24) - 2)
def zact_5 (v ei : Int32) : Int32 := if (zact_1 v ei) = 0 then (lw (v >>> ((14 : Int32) &&& 31)) 5) else ((lw (v >>> ((14 : Int32) &&& 31)) 24) - 2)
def zact_6 (v ei : Int32) : Int32 := if (zact_1 v ei) = 0 then ((1 : Int32) + (lw (v >>> ((9 : Int32) &&& 31)) 9)) else (v >>> ((9 : Int32) &&& 31))
def zact_7 (v ei : Int32) : Int32 := if (zact_1 v ei) = 0 then (lw (v >>> ((8 : Int32) &&& 31)) 6) else (zact_3 v ei)
def zact_8 (v ei : Int32) : Int32 := if (zact_1 v ei) = 0 then (lw (v >>> ((9 : Int32) &&& 31)) 40) else (zact_6 v ei)
def zact_9 (v ei : Int32) : Int32 := if (zact_1 v ei) = 0 then ((1 : Int32) + (lw (v >>> ((9 : Int32) &&& 31)) 5)) else (zact_6 v ei)
def zact_10 (v ei : Int32) : Int32 := if ((v >>> ((20 : Int32) &&& 31)) &&& 1) = 1 then 1 else 0
def zact_11 (v ei : Int32) : Int32 := if ((v >>> ((20 : Int32) &&& 31)) &&& 1) = 1 then 1 else 0
def zact_12 (v ei : Int32) : Int32 := if (zact_1 v ei) = 0 then ((40 : Int32) + (lw (v >>> ((9 : Int32) &&& 31)) 30)) else (zact_6 v ei)
def zact_13 (v ei : Int32) : Int32 := if (zact_1 v ei) = 0 then ((2 : Int32) + (lw (v >>> ((8 : Int32) &&& 31)) 5)) else (zact_3 v ei)
def zact_14 (v ei : Int32) : Int32 := if (zact_1 v ei) = 0 then ((3 : Int32) + (lw (v >>> ((9 : Int32) &&& 31)) 4)) else (zact_6 v ei)
def zact_15 (v ei : Int32) : Int32 := if (zact_1 v ei) = 0 then (lw (v >>> ((4 : Int32) &&& 31)) 65537) else v
def zact_16 (v ei : Int32) : Int32 := if (zact_1 v ei) = 0 then (lw (v >>> ((14 : Int32) &&& 31)) 4) else (zact_5 v ei)
def zact_17 (v ei : Int32) : Int32 := if (zact_1 v ei) = 0 then (lw (v >>> ((14 : Int32) &&& 31)) 5) else (zact_5 v ei)
def zact_18 (v ei : Int32) : Int32 := if (zact_1 v ei) = 0 then (lw (v >>> ((14 : Int32) &&& 31)) 6) else (zact_5 v ei)
def zact_19 (v ei : Int32) : Int32 := if (zact_1 v ei) = 0 then (lw (v >>> ((9 : Int32) &&& 31)) 64) else (zact_6 v ei)
theorem zB_act_1 (v ei : Int32) : wB (zact_1 v ei) := by
  unfold zact_1
  split
  · exact Or.inr rfl
  · exact Or.inl rfl
theorem zB_act_10 (v ei : Int32) : wB (zact_10 v ei) := by
  unfold zact_10
  split
  · exact Or.inr rfl
  · exact Or.inl rfl
theorem zB_act_11 (v ei : Int32) : wB (zact_11 v ei) := by
  unfold zact_11
  split
  · exact Or.inr rfl
  · exact Or.inl rfl
def sSw (a : AT) (v ei : Int32) (k : Nat) : Int64 × AT := match k with
  | 0 => (pr a (rKind a (zact_7 v ei) (zact_6 v ei)))
  | 1 => (pr a (rKind a (zact_7 v ei) (zact_6 v ei)))
  | 2 => (pr a (rKind a (zact_7 v ei) (zact_6 v ei)))
  | 3 => (pr a (rBan a (zact_4 v ei) (zact_8 v ei)))
  | 4 => (pr a (rGet a (zact_2 v ei) (zact_4 v ei) (zact_6 v ei)))
  | 5 => (pr a (rGet a (zact_2 v ei) (zact_4 v ei) (zact_6 v ei)))
  | 6 => (pr a (rGet a (zact_2 v ei) (zact_4 v ei) (zact_6 v ei)))
  | 7 => (pr a (rGet a (zact_2 v ei) (zact_4 v ei) (zact_6 v ei)))
  | 8 => (pr a (rPass a (zact_9 v ei)))
  | 9 => (pr a (rPlay a (zact_2 v ei) (zact_4 v ei) (zact_3 v ei)))
  | 10 => (pr a (rPlay a (zact_2 v ei) (zact_4 v ei) (zact_3 v ei)))
  | 11 => (pr a (rPlay a (zact_2 v ei) (zact_4 v ei) (zact_3 v ei)))
  | 12 => (pr a (rPlay a (zact_2 v ei) (zact_4 v ei) (zact_3 v ei)))
  | 13 => (pr a (rPlay a (zact_2 v ei) (zact_4 v ei) (zact_3 v ei)))
  | 14 => (pr a (rTop a))
  | 15 => (pr a (rTop a))
  | 16 => (pr a (rTop a))
  | 17 => (if (ei - ei / 25 * 25) = 4 then (pr a (rBound a (zact_2 v ei) (zact_11 v ei))) else (pr a (rLife a (zact_2 v ei) (zact_10 v ei))))
  | 18 => (pr a (rPut a (zact_2 v ei) (zact_4 v ei)))
  | 19 => (pr a (rPut a (zact_2 v ei) (zact_4 v ei)))
  | 20 => (pz a (rIsGood a (zact_2 v ei) (zact_12 v ei)))
  | 21 => (pr a (rDraft a (zact_13 v ei) (zact_14 v ei) (zact_15 v ei)))
  | 22 => (pr a (rPick a (zact_16 v ei)))
  | 23 => (pr a (rPick a (zact_16 v ei)))
  | 24 => (pr a (rPick a (zact_16 v ei)))
  | 25 => (pr a (rOffered a (zact_17 v ei)))
  | 26 => (pr a (rWish a (zact_2 v ei) (zact_4 v ei) (zact_5 v ei)))
  | 27 => (pr a (rWish a (zact_2 v ei) (zact_4 v ei) (zact_5 v ei)))
  | 28 => (if (ei - ei / 5 * 5) = 0 then (pr a (rSwap a)) else (pr a (rHas a (zact_2 v ei) (zact_4 v ei))))
  | 29 => (if (ei - ei / 5 * 5) = 1 then (pr a (rRing a (zact_18 v ei))) else (pr a (rHas a (zact_2 v ei) (zact_5 v ei))))
  | 30 => (pr a (rPair a (zact_2 v ei) (zact_19 v ei)))
  | 31 => (pr a (rResult a (zact_2 v ei) (zact_3 v ei)))
  | _ => (pr a (rStrength a (zact_2 v ei)))
def sAct (a : AT) (v ei : Int32) : Int64 × AT := sSw a v ei ((lw v 34)).toNatClampNeg
theorem mL_act_0 : (Cond.constant RL 112 (65537)) ∈ wsL_act := by decide +kernel
set_option maxHeartbeats 4000000 in
set_option maxRecDepth 100000 in
theorem act_304 {p : Program} {l : Launch} {e : Env} {s : State} {m : MethodId} {args : Array Value} {below : List Frame} {meth : Method} {c : Code} {dC : Nat → ClassId} {dI : Nat → Nat → Nat} {cI cJ cZ cG : ClassId} {A : Nat → Prop} {ad : Nat → Nat} {rw : Nat → Nat → Nat} {q : Nat} {a : AT} {v ei : Int32} {H : Heap} {locs : List Loc} {ls : Array Slot} (E : ActE p l s args m meth c dC dI cI cJ cZ cG A) (hq : q < 500) (hG : HWe (dC, dI) cI cJ cZ cG A ad rw q a H) (hS : va_S A s.heap H locs) (hl : lv_has ls 9 [(8, .int (zact_6 v ei)), (7, .int (zact_5 v ei)), (6, .int (zact_4 v ei)), (5, .int (zact_3 v ei)), (4, .int (zact_2 v ei)), (3, .int (zact_1 v ei)), (0, .ref (ad 0)), (1, .int v), (2, .int ei)]) (hc : sAct a v ei = (pr a (rKind a (zact_7 v ei) (zact_6 v ei)))) : W p l e rmL_act s m args below meth c H locs 0 0 (MQ below (HQl (sAct a v ei).1 (sAct a v ei).2 (dC, dI) cI cJ cZ cG A ad rw (q + 1)) args s 4 24 A) (F0 m 304 ls []) := by
  obtain ⟨hx, hb, hr, hml, hown, hts, hlocks, hlt, hK, hT, hN, hA⟩ := E
  refine lv_aload_n hx hb dL_act_304 rfl (lv_at hl 6 rfl) ?_
  refine lv_iload_n hx hb dL_act_305 rfl (lv_at hl 5 rfl) ?_
  have J306 : ∀ (H : Heap) (locs : List Loc), HWe (dC, dI) cI cJ cZ cG A ad rw q a H → va_S A s.heap H locs → W p l e rmL_act s m args below meth c H locs 0 0 (MQ below (HQl (sAct a v ei).1 (sAct a v ei).2 (dC, dI) cI cJ cZ cG A ad rw (q + 1)) args s 4 24 A) (F0 m 323 ls [.int (zact_7 v ei), .ref (ad 0)]) := by
    intro H locs hG hS
    refine lv_iload hx hb dL_act_323 (lv_at hl 0 rfl) ?_
    refine h_callL (As := [.ref (ad 0), .int (zact_7 v ei), .int (zact_6 v ei)]) (rest := []) ⟨hx, hb, hml, hown, hts⟩ (b_kind l hlt dC dI cI cJ cZ cG ad rw q a H.size (zact_7 v ei) (zact_6 v ei) ) (vx_cwSW 3 hts gL_act_L_kind rfl rfl rfl (by decide +kernel) ⟨Nat.le_of_ble_eq_true rfl, Nat.le_of_ble_eq_true rfl⟩) hK Foc.one hG hS hA hT hN rfl hl.1 rfl (Nat.le_of_ble_eq_true rfl) dL_act_325 ⟨Nat.le_of_ble_eq_true rfl, Nat.le_of_ble_eq_true rfl⟩ (fun H locs hG hS => ?_)
    exact h_lret hx hb hr hlocks (by rw [hc]; rfl) (by rw [hc]; exact hG.mono (by omega)) hS (Nat.le_of_ble_eq_true rfl) (Nat.le_of_ble_eq_true rfl) dL_act_328
  refine lv_if_eq (tgt := 314) hx hb dL_act_306 (by decide) (fun c_306 => ?_) (fun c_306 => ?_)
  · refine lv_iload_n hx hb dL_act_314 rfl (lv_at hl 7 rfl) ?_
    refine lv_bipush (v := 8) hx hb dL_act_315 (by decide) ?_
    refine lv_ishr hx hb dL_act_317 ?_
    refine lv_bipush (v := 6) hx hb dL_act_318 (by decide) ?_
    refine h_callP (cells := 0) (slots := 0) (As := [.int (v >>> ((8 : Int32) &&& 31)), .int 6]) (rest := [.ref (ad 0)]) ⟨hx, hb, hml, hown, hts⟩ (oL_low l dC dI cI cJ cZ cG H.size (v >>> ((8 : Int32) &&& 31)) 6 _ (low_ok (v >>> ((8 : Int32) &&& 31)) 6 (by decide))) (va_cwS 2 hts gL_act_L_low rfl rfl rfl (by decide +kernel) ⟨Nat.le_of_ble_eq_true rfl, Nat.le_of_ble_eq_true rfl⟩) hK hS hA rfl hl.1 rfl (Nat.le_of_ble_eq_true rfl) dL_act_320 ⟨Nat.zero_le _, Nat.zero_le _⟩ (fun H locs hz9 hk9 hS => ?_)
    replace hG := h_keep hG hk9
    exact w_eqi (show (zact_7 v ei) = _ from if_pos c_306) (J306 H locs hG hS)
  · refine lv_iload hx hb dL_act_309 (lv_at hl 3 rfl) ?_
    refine lv_goto (tgt := 323) hx hb dL_act_311 (by decide) ?_
    exact w_eqi (show (zact_7 v ei) = _ from if_neg c_306) (J306 H locs hG hS)
set_option maxHeartbeats 4000000 in
set_option maxRecDepth 100000 in
theorem act_329 {p : Program} {l : Launch} {e : Env} {s : State} {m : MethodId} {args : Array Value} {below : List Frame} {meth : Method} {c : Code} {dC : Nat → ClassId} {dI : Nat → Nat → Nat} {cI cJ cZ cG : ClassId} {A : Nat → Prop} {ad : Nat → Nat} {rw : Nat → Nat → Nat} {q : Nat} {a : AT} {v ei : Int32} {H : Heap} {locs : List Loc} {ls : Array Slot} (E : ActE p l s args m meth c dC dI cI cJ cZ cG A) (hq : q < 500) (hG : HWe (dC, dI) cI cJ cZ cG A ad rw q a H) (hS : va_S A s.heap H locs) (hl : lv_has ls 9 [(8, .int (zact_6 v ei)), (7, .int (zact_5 v ei)), (6, .int (zact_4 v ei)), (5, .int (zact_3 v ei)), (4, .int (zact_2 v ei)), (3, .int (zact_1 v ei)), (0, .ref (ad 0)), (1, .int v), (2, .int ei)]) (hc : sAct a v ei = (pr a (rBan a (zact_4 v ei) (zact_8 v ei)))) : W p l e rmL_act s m args below meth c H locs 0 0 (MQ below (HQl (sAct a v ei).1 (sAct a v ei).2 (dC, dI) cI cJ cZ cG A ad rw (q + 1)) args s 4 24 A) (F0 m 329 ls []) := by
  obtain ⟨hx, hb, hr, hml, hown, hts, hlocks, hlt, hK, hT, hN, hA⟩ := E
  refine lv_aload_n hx hb dL_act_329 rfl (lv_at hl 6 rfl) ?_
  refine lv_iload hx hb dL_act_330 (lv_at hl 2 rfl) ?_
  refine lv_iload_n hx hb dL_act_332 rfl (lv_at hl 5 rfl) ?_
  have J333 : ∀ (H : Heap) (locs : List Loc), HWe (dC, dI) cI cJ cZ cG A ad rw q a H → va_S A s.heap H locs → W p l e rmL_act s m args below meth c H locs 0 0 (MQ below (HQl (sAct a v ei).1 (sAct a v ei).2 (dC, dI) cI cJ cZ cG A ad rw (q + 1)) args s 4 24 A) (F0 m 350 ls [.int (zact_8 v ei), .int (zact_4 v ei), .ref (ad 0)]) := by
    intro H locs hG hS
    refine h_callL (As := [.ref (ad 0), .int (zact_4 v ei), .int (zact_8 v ei)]) (rest := []) ⟨hx, hb, hml, hown, hts⟩ (b_ban l hlt dC dI cI cJ cZ cG ad rw q a H.size (zact_4 v ei) (zact_8 v ei) ) (vx_cwSW 3 hts gL_act_L_ban rfl rfl rfl (by decide +kernel) ⟨Nat.le_of_ble_eq_true rfl, Nat.le_of_ble_eq_true rfl⟩) hK Foc.one hG hS hA hT hN rfl hl.1 rfl (Nat.le_of_ble_eq_true rfl) dL_act_350 ⟨Nat.le_of_ble_eq_true rfl, Nat.le_of_ble_eq_true rfl⟩ (fun H locs hG hS => ?_)
    exact h_lret hx hb hr hlocks (by rw [hc]; rfl) (by rw [hc]; exact hG.mono (by omega)) hS (Nat.le_of_ble_eq_true rfl) (Nat.le_of_ble_eq_true rfl) dL_act_353
  refine lv_if_eq (tgt := 341) hx hb dL_act_333 (by decide) (fun c_333 => ?_) (fun c_333 => ?_)
  · refine lv_iload_n hx hb dL_act_341 rfl (lv_at hl 7 rfl) ?_
    refine lv_bipush (v := 9) hx hb dL_act_342 (by decide) ?_
    refine lv_ishr hx hb dL_act_344 ?_
    refine lv_bipush (v := 40) hx hb dL_act_345 (by decide) ?_
    refine h_callP (cells := 0) (slots := 0) (As := [.int (v >>> ((9 : Int32) &&& 31)), .int 40]) (rest := [.int (zact_4 v ei), .ref (ad 0)]) ⟨hx, hb, hml, hown, hts⟩ (oL_low l dC dI cI cJ cZ cG H.size (v >>> ((9 : Int32) &&& 31)) 40 _ (low_ok (v >>> ((9 : Int32) &&& 31)) 40 (by decide))) (va_cwS 2 hts gL_act_L_low rfl rfl rfl (by decide +kernel) ⟨Nat.le_of_ble_eq_true rfl, Nat.le_of_ble_eq_true rfl⟩) hK hS hA rfl hl.1 rfl (Nat.le_of_ble_eq_true rfl) dL_act_347 ⟨Nat.zero_le _, Nat.zero_le _⟩ (fun H locs hz9 hk9 hS => ?_)
    replace hG := h_keep hG hk9
    exact w_eqi (show (zact_8 v ei) = _ from if_pos c_333) (J333 H locs hG hS)
  · refine lv_iload hx hb dL_act_336 (lv_at hl 0 rfl) ?_
    refine lv_goto (tgt := 350) hx hb dL_act_338 (by decide) ?_
    exact w_eqi (show (zact_8 v ei) = _ from if_neg c_333) (J333 H locs hG hS)
set_option maxHeartbeats 4000000 in
set_option maxRecDepth 100000 in
theorem act_354 {p : Program} {l : Launch} {e : Env} {s : State} {m : MethodId} {args : Array Value} {below : List Frame} {meth : Method} {c : Code} {dC : Nat → ClassId} {dI : Nat → Nat → Nat} {cI cJ cZ cG : ClassId} {A : Nat → Prop} {ad : Nat → Nat} {rw : Nat → Nat → Nat} {q : Nat} {a : AT} {v ei : Int32} {H : Heap} {locs : List Loc} {ls : Array Slot} (E : ActE p l s args m meth c dC dI cI cJ cZ cG A) (hq : q < 500) (hG : HWe (dC, dI) cI cJ cZ cG A ad rw q a H) (hS : va_S A s.heap H locs) (hl : lv_has ls 9 [(8, .int (zact_6 v ei)), (7, .int (zact_5 v ei)), (6, .int (zact_4 v ei)), (5, .int (zact_3 v ei)), (4, .int (zact_2 v ei)), (3, .int (zact_1 v ei)), (0, .ref (ad 0)), (1, .int v), (2, .int ei)]) (hc : sAct a v ei = (pr a (rGet a (zact_2 v ei) (zact_4 v ei) (zact_6 v ei)))) : W p l e rmL_act s m args below meth c H locs 0 0 (MQ below (HQl (sAct a v ei).1 (sAct a v ei).2 (dC, dI) cI cJ cZ cG A ad rw (q + 1)) args s 4 24 A) (F0 m 354 ls []) := by
  obtain ⟨hx, hb, hr, hml, hown, hts, hlocks, hlt, hK, hT, hN, hA⟩ := E
  refine lv_aload_n hx hb dL_act_354 rfl (lv_at hl 6 rfl) ?_
  refine lv_iload hx hb dL_act_355 (lv_at hl 4 rfl) ?_
  refine lv_iload hx hb dL_act_357 (lv_at hl 2 rfl) ?_
  refine lv_iload hx hb dL_act_359 (lv_at hl 0 rfl) ?_
  refine h_callL (As := [.ref (ad 0), .int (zact_2 v ei), .int (zact_4 v ei), .int (zact_6 v ei)]) (rest := []) ⟨hx, hb, hml, hown, hts⟩ (b_get l hlt dC dI cI cJ cZ cG ad rw q a H.size (zact_2 v ei) (zact_4 v ei) (zact_6 v ei) ) (vx_cwSW 4 hts gL_act_L_get rfl rfl rfl (by decide +kernel) ⟨Nat.le_of_ble_eq_true rfl, Nat.le_of_ble_eq_true rfl⟩) hK Foc.one hG hS hA hT hN rfl hl.1 rfl (Nat.le_of_ble_eq_true rfl) dL_act_361 ⟨Nat.le_of_ble_eq_true rfl, Nat.le_of_ble_eq_true rfl⟩ (fun H locs hG hS => ?_)
  exact h_lret hx hb hr hlocks (by rw [hc]; rfl) (by rw [hc]; exact hG.mono (by omega)) hS (Nat.le_of_ble_eq_true rfl) (Nat.le_of_ble_eq_true rfl) dL_act_364
set_option maxHeartbeats 4000000 in
set_option maxRecDepth 100000 in
theorem act_365 {p : Program} {l : Launch} {e : Env} {s : State} {m : MethodId} {args : Array Value} {below : List Frame} {meth : Method} {c : Code} {dC : Nat → ClassId} {dI : Nat → Nat → Nat} {cI cJ cZ cG : ClassId} {A : Nat → Prop} {ad : Nat → Nat} {rw : Nat → Nat → Nat} {q : Nat} {a : AT} {v ei : Int32} {H : Heap} {locs : List Loc} {ls : Array Slot} (E : ActE p l s args m meth c dC dI cI cJ cZ cG A) (hq : q < 500) (hG : HWe (dC, dI) cI cJ cZ cG A ad rw q a H) (hS : va_S A s.heap H locs) (hl : lv_has ls 9 [(8, .int (zact_6 v ei)), (7, .int (zact_5 v ei)), (6, .int (zact_4 v ei)), (5, .int (zact_3 v ei)), (4, .int (zact_2 v ei)), (3, .int (zact_1 v ei)), (0, .ref (ad 0)), (1, .int v), (2, .int ei)]) (hc : sAct a v ei = (pr a (rPass a (zact_9 v ei)))) : W p l e rmL_act s m args below meth c H locs 0 0 (MQ below (HQl (sAct a v ei).1 (sAct a v ei).2 (dC, dI) cI cJ cZ cG A ad rw (q + 1)) args s 4 24 A) (F0 m 365 ls []) := by
  obtain ⟨hx, hb, hr, hml, hown, hts, hlocks, hlt, hK, hT, hN, hA⟩ := E
  refine lv_aload_n hx hb dL_act_365 rfl (lv_at hl 6 rfl) ?_
  refine lv_iload_n hx hb dL_act_366 rfl (lv_at hl 5 rfl) ?_
  have J367 : ∀ (H : Heap) (locs : List Loc), HWe (dC, dI) cI cJ cZ cG A ad rw q a H → va_S A s.heap H locs → W p l e rmL_act s m args below meth c H locs 0 0 (MQ below (HQl (sAct a v ei).1 (sAct a v ei).2 (dC, dI) cI cJ cZ cG A ad rw (q + 1)) args s 4 24 A) (F0 m 385 ls [.int (zact_9 v ei), .ref (ad 0)]) := by
    intro H locs hG hS
    refine h_callL (As := [.ref (ad 0), .int (zact_9 v ei)]) (rest := []) ⟨hx, hb, hml, hown, hts⟩ (b_pass l hlt dC dI cI cJ cZ cG ad rw q a H.size (zact_9 v ei) ) (vx_cwSW 2 hts gL_act_L_pass rfl rfl rfl (by decide +kernel) ⟨Nat.le_of_ble_eq_true rfl, Nat.le_of_ble_eq_true rfl⟩) hK Foc.one hG hS hA hT hN rfl hl.1 rfl (Nat.le_of_ble_eq_true rfl) dL_act_385 ⟨Nat.le_of_ble_eq_true rfl, Nat.le_of_ble_eq_true rfl⟩ (fun H locs hG hS => ?_)
    exact h_lret hx hb hr hlocks (by rw [hc]; rfl) (by rw [hc]; exact hG.mono (by omega)) hS (Nat.le_of_ble_eq_true rfl) (Nat.le_of_ble_eq_true rfl) dL_act_388
  refine lv_if_eq (tgt := 375) hx hb dL_act_367 (by decide) (fun c_367 => ?_) (fun c_367 => ?_)
  · refine lv_iconst (v := 1) hx hb dL_act_375 (by decide) ?_
    refine lv_iload_n hx hb dL_act_376 rfl (lv_at hl 7 rfl) ?_
    refine lv_bipush (v := 9) hx hb dL_act_377 (by decide) ?_
    refine lv_ishr hx hb dL_act_379 ?_
    refine lv_iconst (v := 5) hx hb dL_act_380 (by decide) ?_
    refine h_callP (cells := 0) (slots := 0) (As := [.int (v >>> ((9 : Int32) &&& 31)), .int 5]) (rest := [.int 1, .ref (ad 0)]) ⟨hx, hb, hml, hown, hts⟩ (oL_low l dC dI cI cJ cZ cG H.size (v >>> ((9 : Int32) &&& 31)) 5 _ (low_ok (v >>> ((9 : Int32) &&& 31)) 5 (by decide))) (va_cwS 2 hts gL_act_L_low rfl rfl rfl (by decide +kernel) ⟨Nat.le_of_ble_eq_true rfl, Nat.le_of_ble_eq_true rfl⟩) hK hS hA rfl hl.1 rfl (Nat.le_of_ble_eq_true rfl) dL_act_381 ⟨Nat.zero_le _, Nat.zero_le _⟩ (fun H locs hz9 hk9 hS => ?_)
    replace hG := h_keep hG hk9
    refine lv_iadd hx hb dL_act_384 ?_
    exact w_eqi (show (zact_9 v ei) = _ from if_pos c_367) (J367 H locs hG hS)
  · refine lv_iload hx hb dL_act_370 (lv_at hl 0 rfl) ?_
    refine lv_goto (tgt := 385) hx hb dL_act_372 (by decide) ?_
    exact w_eqi (show (zact_9 v ei) = _ from if_neg c_367) (J367 H locs hG hS)
set_option maxHeartbeats 4000000 in
set_option maxRecDepth 100000 in
theorem act_389 {p : Program} {l : Launch} {e : Env} {s : State} {m : MethodId} {args : Array Value} {below : List Frame} {meth : Method} {c : Code} {dC : Nat → ClassId} {dI : Nat → Nat → Nat} {cI cJ cZ cG : ClassId} {A : Nat → Prop} {ad : Nat → Nat} {rw : Nat → Nat → Nat} {q : Nat} {a : AT} {v ei : Int32} {H : Heap} {locs : List Loc} {ls : Array Slot} (E : ActE p l s args m meth c dC dI cI cJ cZ cG A) (hq : q < 500) (hG : HWe (dC, dI) cI cJ cZ cG A ad rw q a H) (hS : va_S A s.heap H locs) (hl : lv_has ls 9 [(8, .int (zact_6 v ei)), (7, .int (zact_5 v ei)), (6, .int (zact_4 v ei)), (5, .int (zact_3 v ei)), (4, .int (zact_2 v ei)), (3, .int (zact_1 v ei)), (0, .ref (ad 0)), (1, .int v), (2, .int ei)]) (hc : sAct a v ei = (pr a (rPlay a (zact_2 v ei) (zact_4 v ei) (zact_3 v ei)))) : W p l e rmL_act s m args below meth c H locs 0 0 (MQ below (HQl (sAct a v ei).1 (sAct a v ei).2 (dC, dI) cI cJ cZ cG A ad rw (q + 1)) args s 4 24 A) (F0 m 389 ls []) := by
  obtain ⟨hx, hb, hr, hml, hown, hts, hlocks, hlt, hK, hT, hN, hA⟩ := E
  refine lv_aload_n hx hb dL_act_389 rfl (lv_at hl 6 rfl) ?_
  refine lv_iload hx hb dL_act_390 (lv_at hl 4 rfl) ?_
  refine lv_iload hx hb dL_act_392 (lv_at hl 2 rfl) ?_
  refine lv_iload hx hb dL_act_394 (lv_at hl 3 rfl) ?_
  refine h_callL (As := [.ref (ad 0), .int (zact_2 v ei), .int (zact_4 v ei), .int (zact_3 v ei)]) (rest := []) ⟨hx, hb, hml, hown, hts⟩ (b_play l hlt dC dI cI cJ cZ cG ad rw q a (by omega) H.size (zact_2 v ei) (zact_4 v ei) (zact_3 v ei) ) (vx_cwSW 4 hts gL_act_L_play rfl rfl rfl (by decide +kernel) ⟨Nat.le_of_ble_eq_true rfl, Nat.le_of_ble_eq_true rfl⟩) hK Foc.one hG hS hA hT hN rfl hl.1 rfl (Nat.le_of_ble_eq_true rfl) dL_act_396 ⟨Nat.le_of_ble_eq_true rfl, Nat.le_of_ble_eq_true rfl⟩ (fun H locs hG hS => ?_)
  exact h_lret hx hb hr hlocks (by rw [hc]; rfl) (by rw [hc]; exact hG.mono (by omega)) hS (Nat.le_of_ble_eq_true rfl) (Nat.le_of_ble_eq_true rfl) dL_act_399
set_option maxHeartbeats 4000000 in
set_option maxRecDepth 100000 in
theorem act_400 {p : Program} {l : Launch} {e : Env} {s : State} {m : MethodId} {args : Array Value} {below : List Frame} {meth : Method} {c : Code} {dC : Nat → ClassId} {dI : Nat → Nat → Nat} {cI cJ cZ cG : ClassId} {A : Nat → Prop} {ad : Nat → Nat} {rw : Nat → Nat → Nat} {q : Nat} {a : AT} {v ei : Int32} {H : Heap} {locs : List Loc} {ls : Array Slot} (E : ActE p l s args m meth c dC dI cI cJ cZ cG A) (hq : q < 500) (hG : HWe (dC, dI) cI cJ cZ cG A ad rw q a H) (hS : va_S A s.heap H locs) (hl : lv_has ls 9 [(8, .int (zact_6 v ei)), (7, .int (zact_5 v ei)), (6, .int (zact_4 v ei)), (5, .int (zact_3 v ei)), (4, .int (zact_2 v ei)), (3, .int (zact_1 v ei)), (0, .ref (ad 0)), (1, .int v), (2, .int ei)]) (hc : sAct a v ei = (pr a (rTop a))) : W p l e rmL_act s m args below meth c H locs 0 0 (MQ below (HQl (sAct a v ei).1 (sAct a v ei).2 (dC, dI) cI cJ cZ cG A ad rw (q + 1)) args s 4 24 A) (F0 m 400 ls []) := by
  obtain ⟨hx, hb, hr, hml, hown, hts, hlocks, hlt, hK, hT, hN, hA⟩ := E
  refine lv_aload_n hx hb dL_act_400 rfl (lv_at hl 6 rfl) ?_
  refine h_callL (As := [.ref (ad 0)]) (rest := []) ⟨hx, hb, hml, hown, hts⟩ (b_top l hlt dC dI cI cJ cZ cG ad rw q a (by omega) H.size ) (vx_cwSW 1 hts gL_act_L_top rfl rfl rfl (by decide +kernel) ⟨Nat.le_of_ble_eq_true rfl, Nat.le_of_ble_eq_true rfl⟩) hK Foc.one hG hS hA hT hN rfl hl.1 rfl (Nat.le_of_ble_eq_true rfl) dL_act_401 ⟨Nat.le_of_ble_eq_true rfl, Nat.le_of_ble_eq_true rfl⟩ (fun H locs hG hS => ?_)
  exact h_lret hx hb hr hlocks (by rw [hc]; rfl) (by rw [hc]; exact hG.mono (by omega)) hS (Nat.le_of_ble_eq_true rfl) (Nat.le_of_ble_eq_true rfl) dL_act_404
set_option maxHeartbeats 4000000 in
set_option maxRecDepth 100000 in
theorem act_405 {p : Program} {l : Launch} {e : Env} {s : State} {m : MethodId} {args : Array Value} {below : List Frame} {meth : Method} {c : Code} {dC : Nat → ClassId} {dI : Nat → Nat → Nat} {cI cJ cZ cG : ClassId} {A : Nat → Prop} {ad : Nat → Nat} {rw : Nat → Nat → Nat} {q : Nat} {a : AT} {v ei : Int32} {H : Heap} {locs : List Loc} {ls : Array Slot} (E : ActE p l s args m meth c dC dI cI cJ cZ cG A) (hq : q < 500) (hG : HWe (dC, dI) cI cJ cZ cG A ad rw q a H) (hS : va_S A s.heap H locs) (hl : lv_has ls 9 [(8, .int (zact_6 v ei)), (7, .int (zact_5 v ei)), (6, .int (zact_4 v ei)), (5, .int (zact_3 v ei)), (4, .int (zact_2 v ei)), (3, .int (zact_1 v ei)), (0, .ref (ad 0)), (1, .int v), (2, .int ei)]) (hc : sAct a v ei = (if (ei - ei / 25 * 25) = 4 then (pr a (rBound a (zact_2 v ei) (zact_11 v ei))) else (pr a (rLife a (zact_2 v ei) (zact_10 v ei))))) : W p l e rmL_act s m args below meth c H locs 0 0 (MQ below (HQl (sAct a v ei).1 (sAct a v ei).2 (dC, dI) cI cJ cZ cG A ad rw (q + 1)) args s 4 24 A) (F0 m 405 ls []) := by
  obtain ⟨hx, hb, hr, hml, hown, hts, hlocks, hlt, hK, hT, hN, hA⟩ := E
  refine lv_iload_n hx hb dL_act_405 rfl (lv_at hl 8 rfl) ?_
  refine lv_bipush (v := 25) hx hb dL_act_406 (by decide) ?_
  refine lv_irem hx hb dL_act_408 (by decide) ?_
  refine lv_iconst (v := 4) hx hb dL_act_409 (by decide) ?_
  refine lv_icmp_ne (tgt := 437) hx hb dL_act_410 (by decide) (fun c_410 => ?_) (fun c_410 => ?_)
  · replace hc := hc.trans (if_neg c_410)
    refine lv_aload_n hx hb dL_act_437 rfl (lv_at hl 6 rfl) ?_
    refine lv_iload hx hb dL_act_438 (lv_at hl 4 rfl) ?_
    refine lv_iload_n hx hb dL_act_440 rfl (lv_at hl 7 rfl) ?_
    refine lv_bipush (v := 20) hx hb dL_act_441 (by decide) ?_
    refine lv_ishr hx hb dL_act_443 ?_
    refine lv_iconst (v := 1) hx hb dL_act_444 (by decide) ?_
    refine lv_iand hx hb dL_act_445 ?_
    refine lv_iconst (v := 1) hx hb dL_act_446 (by decide) ?_
    have J447 : ∀ (H : Heap) (locs : List Loc), HWe (dC, dI) cI cJ cZ cG A ad rw q a H → va_S A s.heap H locs → W p l e rmL_act s m args below meth c H locs 0 0 (MQ below (HQl (sAct a v ei).1 (sAct a v ei).2 (dC, dI) cI cJ cZ cG A ad rw (q + 1)) args s 4 24 A) (F0 m 455 ls [.int (zact_10 v ei), .int (zact_2 v ei), .ref (ad 0)]) := by
      intro H locs hG hS
      refine h_callL (As := [.ref (ad 0), .int (zact_2 v ei), .int (zact_10 v ei)]) (rest := []) ⟨hx, hb, hml, hown, hts⟩ (b_life l hlt dC dI cI cJ cZ cG ad rw q a H.size (zact_2 v ei) (zact_10 v ei) (zB_act_10 v ei)) (vx_cwSW 3 hts gL_act_L_life rfl rfl rfl (by decide +kernel) ⟨Nat.le_of_ble_eq_true rfl, Nat.le_of_ble_eq_true rfl⟩) hK Foc.one hG hS hA hT hN rfl hl.1 rfl (Nat.le_of_ble_eq_true rfl) dL_act_455 ⟨Nat.le_of_ble_eq_true rfl, Nat.le_of_ble_eq_true rfl⟩ (fun H locs hG hS => ?_)
      exact h_lret hx hb hr hlocks (by rw [hc]; rfl) (by rw [hc]; exact hG.mono (by omega)) hS (Nat.le_of_ble_eq_true rfl) (Nat.le_of_ble_eq_true rfl) dL_act_458
    refine lv_icmp_ne (tgt := 454) hx hb dL_act_447 (by decide) (fun c_447 => ?_) (fun c_447 => ?_)
    · refine lv_iconst (v := 0) hx hb dL_act_454 (by decide) ?_
      exact w_eqi (show (zact_10 v ei) = _ from if_neg c_447) (J447 H locs hG hS)
    · refine lv_iconst (v := 1) hx hb dL_act_450 (by decide) ?_
      refine lv_goto (tgt := 455) hx hb dL_act_451 (by decide) ?_
      exact w_eqi (show (zact_10 v ei) = _ from if_pos c_447) (J447 H locs hG hS)
  · replace hc := hc.trans (if_pos c_410)
    refine lv_aload_n hx hb dL_act_413 rfl (lv_at hl 6 rfl) ?_
    refine lv_iload hx hb dL_act_414 (lv_at hl 4 rfl) ?_
    refine lv_iload_n hx hb dL_act_416 rfl (lv_at hl 7 rfl) ?_
    refine lv_bipush (v := 20) hx hb dL_act_417 (by decide) ?_
    refine lv_ishr hx hb dL_act_419 ?_
    refine lv_iconst (v := 1) hx hb dL_act_420 (by decide) ?_
    refine lv_iand hx hb dL_act_421 ?_
    refine lv_iconst (v := 1) hx hb dL_act_422 (by decide) ?_
    have J423 : ∀ (H : Heap) (locs : List Loc), HWe (dC, dI) cI cJ cZ cG A ad rw q a H → va_S A s.heap H locs → W p l e rmL_act s m args below meth c H locs 0 0 (MQ below (HQl (sAct a v ei).1 (sAct a v ei).2 (dC, dI) cI cJ cZ cG A ad rw (q + 1)) args s 4 24 A) (F0 m 431 ls [.int (zact_11 v ei), .int (zact_2 v ei), .ref (ad 0)]) := by
      intro H locs hG hS
      refine h_callL (As := [.ref (ad 0), .int (zact_2 v ei), .int (zact_11 v ei)]) (rest := []) ⟨hx, hb, hml, hown, hts⟩ (b_bound l hlt dC dI cI cJ cZ cG ad rw q a H.size (zact_2 v ei) (zact_11 v ei) (zB_act_11 v ei)) (vx_cwSW 3 hts gL_act_L_bound rfl rfl rfl (by decide +kernel) ⟨Nat.le_of_ble_eq_true rfl, Nat.le_of_ble_eq_true rfl⟩) hK Foc.one hG hS hA hT hN rfl hl.1 rfl (Nat.le_of_ble_eq_true rfl) dL_act_431 ⟨Nat.le_of_ble_eq_true rfl, Nat.le_of_ble_eq_true rfl⟩ (fun H locs hG hS => ?_)
      refine lv_goto (tgt := 458) hx hb dL_act_434 (by decide) ?_
      exact h_lret hx hb hr hlocks (by rw [hc]; rfl) (by rw [hc]; exact hG.mono (by omega)) hS (Nat.le_of_ble_eq_true rfl) (Nat.le_of_ble_eq_true rfl) dL_act_458
    refine lv_icmp_ne (tgt := 430) hx hb dL_act_423 (by decide) (fun c_423 => ?_) (fun c_423 => ?_)
    · refine lv_iconst (v := 0) hx hb dL_act_430 (by decide) ?_
      exact w_eqi (show (zact_11 v ei) = _ from if_neg c_423) (J423 H locs hG hS)
    · refine lv_iconst (v := 1) hx hb dL_act_426 (by decide) ?_
      refine lv_goto (tgt := 431) hx hb dL_act_427 (by decide) ?_
      exact w_eqi (show (zact_11 v ei) = _ from if_pos c_423) (J423 H locs hG hS)
set_option maxHeartbeats 4000000 in
set_option maxRecDepth 100000 in
theorem act_459 {p : Program} {l : Launch} {e : Env} {s : State} {m : MethodId} {args : Array Value} {below : List Frame} {meth : Method} {c : Code} {dC : Nat → ClassId} {dI : Nat → Nat → Nat} {cI cJ cZ cG : ClassId} {A : Nat → Prop} {ad : Nat → Nat} {rw : Nat → Nat → Nat} {q : Nat} {a : AT} {v ei : Int32} {H : Heap} {locs : List Loc} {ls : Array Slot} (E : ActE p l s args m meth c dC dI cI cJ cZ cG A) (hq : q < 500) (hG : HWe (dC, dI) cI cJ cZ cG A ad rw q a H) (hS : va_S A s.heap H locs) (hl : lv_has ls 9 [(8, .int (zact_6 v ei)), (7, .int (zact_5 v ei)), (6, .int (zact_4 v ei)), (5, .int (zact_3 v ei)), (4, .int (zact_2 v ei)), (3, .int (zact_1 v ei)), (0, .ref (ad 0)), (1, .int v), (2, .int ei)]) (hc : sAct a v ei = (pr a (rPut a (zact_2 v ei) (zact_4 v ei)))) : W p l e rmL_act s m args below meth c H locs 0 0 (MQ below (HQl (sAct a v ei).1 (sAct a v ei).2 (dC, dI) cI cJ cZ cG A ad rw (q + 1)) args s 4 24 A) (F0 m 459 ls []) := by
  obtain ⟨hx, hb, hr, hml, hown, hts, hlocks, hlt, hK, hT, hN, hA⟩ := E
  refine lv_aload_n hx hb dL_act_459 rfl (lv_at hl 6 rfl) ?_
  refine lv_iload hx hb dL_act_460 (lv_at hl 4 rfl) ?_
  refine lv_iload hx hb dL_act_462 (lv_at hl 2 rfl) ?_
  refine h_callL (As := [.ref (ad 0), .int (zact_2 v ei), .int (zact_4 v ei)]) (rest := []) ⟨hx, hb, hml, hown, hts⟩ (b_put l hlt dC dI cI cJ cZ cG ad rw q a H.size (zact_2 v ei) (zact_4 v ei) ) (vx_cwSW 3 hts gL_act_L_put rfl rfl rfl (by decide +kernel) ⟨Nat.le_of_ble_eq_true rfl, Nat.le_of_ble_eq_true rfl⟩) hK Foc.one hG hS hA hT hN rfl hl.1 rfl (Nat.le_of_ble_eq_true rfl) dL_act_464 ⟨Nat.le_of_ble_eq_true rfl, Nat.le_of_ble_eq_true rfl⟩ (fun H locs hG hS => ?_)
  exact h_lret hx hb hr hlocks (by rw [hc]; rfl) (by rw [hc]; exact hG.mono (by omega)) hS (Nat.le_of_ble_eq_true rfl) (Nat.le_of_ble_eq_true rfl) dL_act_467
set_option maxHeartbeats 4000000 in
set_option maxRecDepth 100000 in
theorem act_468 {p : Program} {l : Launch} {e : Env} {s : State} {m : MethodId} {args : Array Value} {below : List Frame} {meth : Method} {c : Code} {dC : Nat → ClassId} {dI : Nat → Nat → Nat} {cI cJ cZ cG : ClassId} {A : Nat → Prop} {ad : Nat → Nat} {rw : Nat → Nat → Nat} {q : Nat} {a : AT} {v ei : Int32} {H : Heap} {locs : List Loc} {ls : Array Slot} (E : ActE p l s args m meth c dC dI cI cJ cZ cG A) (hq : q < 500) (hG : HWe (dC, dI) cI cJ cZ cG A ad rw q a H) (hS : va_S A s.heap H locs) (hl : lv_has ls 9 [(8, .int (zact_6 v ei)), (7, .int (zact_5 v ei)), (6, .int (zact_4 v ei)), (5, .int (zact_3 v ei)), (4, .int (zact_2 v ei)), (3, .int (zact_1 v ei)), (0, .ref (ad 0)), (1, .int v), (2, .int ei)]) (hc : sAct a v ei = (pz a (rIsGood a (zact_2 v ei) (zact_12 v ei)))) : W p l e rmL_act s m args below meth c H locs 0 0 (MQ below (HQl (sAct a v ei).1 (sAct a v ei).2 (dC, dI) cI cJ cZ cG A ad rw (q + 1)) args s 4 24 A) (F0 m 468 ls []) := by
  obtain ⟨hx, hb, hr, hml, hown, hts, hlocks, hlt, hK, hT, hN, hA⟩ := E
  refine lv_aload_n hx hb dL_act_468 rfl (lv_at hl 6 rfl) ?_
  refine lv_iload hx hb dL_act_469 (lv_at hl 4 rfl) ?_
  refine lv_iload_n hx hb dL_act_471 rfl (lv_at hl 5 rfl) ?_
  have J472 : ∀ (H : Heap) (locs : List Loc), HWe (dC, dI) cI cJ cZ cG A ad rw q a H → va_S A s.heap H locs → W p l e rmL_act s m args below meth c H locs 0 0 (MQ below (HQl (sAct a v ei).1 (sAct a v ei).2 (dC, dI) cI cJ cZ cG A ad rw (q + 1)) args s 4 24 A) (F0 m 492 ls [.int (zact_12 v ei), .int (zact_2 v ei), .ref (ad 0)]) := by
    intro H locs hG hS
    refine h_callL (As := [.ref (ad 0), .int (zact_2 v ei), .int (zact_12 v ei)]) (rest := []) ⟨hx, hb, hml, hown, hts⟩ (b_isGood l hlt dC dI cI cJ cZ cG ad rw q a H.size (zact_2 v ei) (zact_12 v ei) ) (vx_cwSW 3 hts gL_act_L_isGood rfl rfl rfl (by decide +kernel) ⟨Nat.le_of_ble_eq_true rfl, Nat.le_of_ble_eq_true rfl⟩) hK Foc.one hG hS hA hT hN rfl hl.1 rfl (Nat.le_of_ble_eq_true rfl) dL_act_492 ⟨Nat.le_of_ble_eq_true rfl, Nat.le_of_ble_eq_true rfl⟩ (fun H locs hG hS => ?_)
    exact h_lret hx hb hr hlocks (by rw [hc]; rfl) (by rw [hc]; exact hG.mono (by omega)) hS (Nat.le_of_ble_eq_true rfl) (Nat.le_of_ble_eq_true rfl) dL_act_495
  refine lv_if_eq (tgt := 480) hx hb dL_act_472 (by decide) (fun c_472 => ?_) (fun c_472 => ?_)
  · refine lv_bipush (v := 40) hx hb dL_act_480 (by decide) ?_
    refine lv_iload_n hx hb dL_act_482 rfl (lv_at hl 7 rfl) ?_
    refine lv_bipush (v := 9) hx hb dL_act_483 (by decide) ?_
    refine lv_ishr hx hb dL_act_485 ?_
    refine lv_bipush (v := 30) hx hb dL_act_486 (by decide) ?_
    refine h_callP (cells := 0) (slots := 0) (As := [.int (v >>> ((9 : Int32) &&& 31)), .int 30]) (rest := [.int 40, .int (zact_2 v ei), .ref (ad 0)]) ⟨hx, hb, hml, hown, hts⟩ (oL_low l dC dI cI cJ cZ cG H.size (v >>> ((9 : Int32) &&& 31)) 30 _ (low_ok (v >>> ((9 : Int32) &&& 31)) 30 (by decide))) (va_cwS 2 hts gL_act_L_low rfl rfl rfl (by decide +kernel) ⟨Nat.le_of_ble_eq_true rfl, Nat.le_of_ble_eq_true rfl⟩) hK hS hA rfl hl.1 rfl (Nat.le_of_ble_eq_true rfl) dL_act_488 ⟨Nat.zero_le _, Nat.zero_le _⟩ (fun H locs hz9 hk9 hS => ?_)
    replace hG := h_keep hG hk9
    refine lv_iadd hx hb dL_act_491 ?_
    exact w_eqi (show (zact_12 v ei) = _ from if_pos c_472) (J472 H locs hG hS)
  · refine lv_iload hx hb dL_act_475 (lv_at hl 0 rfl) ?_
    refine lv_goto (tgt := 492) hx hb dL_act_477 (by decide) ?_
    exact w_eqi (show (zact_12 v ei) = _ from if_neg c_472) (J472 H locs hG hS)
set_option maxHeartbeats 4000000 in
set_option maxRecDepth 100000 in
theorem act_496 {p : Program} {l : Launch} {e : Env} {s : State} {m : MethodId} {args : Array Value} {below : List Frame} {meth : Method} {c : Code} {dC : Nat → ClassId} {dI : Nat → Nat → Nat} {cI cJ cZ cG : ClassId} {A : Nat → Prop} {ad : Nat → Nat} {rw : Nat → Nat → Nat} {q : Nat} {a : AT} {v ei : Int32} {H : Heap} {locs : List Loc} {ls : Array Slot} (E : ActE p l s args m meth c dC dI cI cJ cZ cG A) (hq : q < 500) (hG : HWe (dC, dI) cI cJ cZ cG A ad rw q a H) (hS : va_S A s.heap H locs) (hl : lv_has ls 9 [(8, .int (zact_6 v ei)), (7, .int (zact_5 v ei)), (6, .int (zact_4 v ei)), (5, .int (zact_3 v ei)), (4, .int (zact_2 v ei)), (3, .int (zact_1 v ei)), (0, .ref (ad 0)), (1, .int v), (2, .int ei)]) (hc : sAct a v ei = (pr a (rDraft a (zact_13 v ei) (zact_14 v ei) (zact_15 v ei)))) : W p l e rmL_act s m args below meth c H locs 0 0 (MQ below (HQl (sAct a v ei).1 (sAct a v ei).2 (dC, dI) cI cJ cZ cG A ad rw (q + 1)) args s 4 24 A) (F0 m 496 ls []) := by
  obtain ⟨hx, hb, hr, hml, hown, hts, hlocks, hlt, hK, hT, hN, hA⟩ := E
  refine lv_aload_n hx hb dL_act_496 rfl (lv_at hl 6 rfl) ?_
  refine lv_iload_n hx hb dL_act_497 rfl (lv_at hl 5 rfl) ?_
  have J498 : ∀ (H : Heap) (locs : List Loc), HWe (dC, dI) cI cJ cZ cG A ad rw q a H → va_S A s.heap H locs → W p l e rmL_act s m args below meth c H locs 0 0 (MQ below (HQl (sAct a v ei).1 (sAct a v ei).2 (dC, dI) cI cJ cZ cG A ad rw (q + 1)) args s 4 24 A) (F0 m 516 ls [.int (zact_13 v ei), .ref (ad 0)]) := by
    intro H locs hG hS
    refine lv_iload_n hx hb dL_act_516 rfl (lv_at hl 5 rfl) ?_
    have J517 : ∀ (H : Heap) (locs : List Loc), HWe (dC, dI) cI cJ cZ cG A ad rw q a H → va_S A s.heap H locs → W p l e rmL_act s m args below meth c H locs 0 0 (MQ below (HQl (sAct a v ei).1 (sAct a v ei).2 (dC, dI) cI cJ cZ cG A ad rw (q + 1)) args s 4 24 A) (F0 m 535 ls [.int (zact_14 v ei), .int (zact_13 v ei), .ref (ad 0)]) := by
      intro H locs hG hS
      refine lv_iload_n hx hb dL_act_535 rfl (lv_at hl 5 rfl) ?_
      have J536 : ∀ (H : Heap) (locs : List Loc), HWe (dC, dI) cI cJ cZ cG A ad rw q a H → va_S A s.heap H locs → W p l e rmL_act s m args below meth c H locs 0 0 (MQ below (HQl (sAct a v ei).1 (sAct a v ei).2 (dC, dI) cI cJ cZ cG A ad rw (q + 1)) args s 4 24 A) (F0 m 551 ls [.int (zact_15 v ei), .int (zact_14 v ei), .int (zact_13 v ei), .ref (ad 0)]) := by
        intro H locs hG hS
        refine h_callL (As := [.ref (ad 0), .int (zact_13 v ei), .int (zact_14 v ei), .int (zact_15 v ei)]) (rest := []) ⟨hx, hb, hml, hown, hts⟩ (b_draft l hlt dC dI cI cJ cZ cG ad rw q a H.size (zact_13 v ei) (zact_14 v ei) (zact_15 v ei) ) (vx_cwSW 4 hts gL_act_L_draft rfl rfl rfl (by decide +kernel) ⟨Nat.le_of_ble_eq_true rfl, Nat.le_of_ble_eq_true rfl⟩) hK Foc.one hG hS hA hT hN rfl hl.1 rfl (Nat.le_of_ble_eq_true rfl) dL_act_551 ⟨Nat.le_of_ble_eq_true rfl, Nat.le_of_ble_eq_true rfl⟩ (fun H locs hG hS => ?_)
        exact h_lret hx hb hr hlocks (by rw [hc]; rfl) (by rw [hc]; exact hG.mono (by omega)) hS (Nat.le_of_ble_eq_true rfl) (Nat.le_of_ble_eq_true rfl) dL_act_554
      refine lv_if_eq (tgt := 543) hx hb dL_act_536 (by decide) (fun c_536 => ?_) (fun c_536 => ?_)
      · refine lv_iload_n hx hb dL_act_543 rfl (lv_at hl 7 rfl) ?_
        refine lv_iconst (v := 4) hx hb dL_act_544 (by decide) ?_
        refine lv_ishr hx hb dL_act_545 ?_
        refine lv_ldc (v := 65537) hx hb hown (hts _ mL_act_0) dL_act_546 ?_
        refine h_callP (cells := 0) (slots := 0) (As := [.int (v >>> ((4 : Int32) &&& 31)), .int 65537]) (rest := [.int (zact_14 v ei), .int (zact_13 v ei), .ref (ad 0)]) ⟨hx, hb, hml, hown, hts⟩ (oL_low l dC dI cI cJ cZ cG H.size (v >>> ((4 : Int32) &&& 31)) 65537 _ (low_ok (v >>> ((4 : Int32) &&& 31)) 65537 (by decide))) (va_cwS 2 hts gL_act_L_low rfl rfl rfl (by decide +kernel) ⟨Nat.le_of_ble_eq_true rfl, Nat.le_of_ble_eq_true rfl⟩) hK hS hA rfl hl.1 rfl (Nat.le_of_ble_eq_true rfl) dL_act_548 ⟨Nat.zero_le _, Nat.zero_le _⟩ (fun H locs hz9 hk9 hS => ?_)
        replace hG := h_keep hG hk9
        exact w_eqi (show (zact_15 v ei) = _ from if_pos c_536) (J536 H locs hG hS)
      · refine lv_iload_n hx hb dL_act_539 rfl (lv_at hl 7 rfl) ?_
        refine lv_goto (tgt := 551) hx hb dL_act_540 (by decide) ?_
        exact w_eqi (show (zact_15 v ei) = _ from if_neg c_536) (J536 H locs hG hS)
    refine lv_if_eq (tgt := 525) hx hb dL_act_517 (by decide) (fun c_517 => ?_) (fun c_517 => ?_)
    · refine lv_iconst (v := 3) hx hb dL_act_525 (by decide) ?_
      refine lv_iload_n hx hb dL_act_526 rfl (lv_at hl 7 rfl) ?_
      refine lv_bipush (v := 9) hx hb dL_act_527 (by decide) ?_
      refine lv_ishr hx hb dL_act_529 ?_
      refine lv_iconst (v := 4) hx hb dL_act_530 (by decide) ?_
      refine h_callP (cells := 0) (slots := 0) (As := [.int (v >>> ((9 : Int32) &&& 31)), .int 4]) (rest := [.int 3, .int (zact_13 v ei), .ref (ad 0)]) ⟨hx, hb, hml, hown, hts⟩ (oL_low l dC dI cI cJ cZ cG H.size (v >>> ((9 : Int32) &&& 31)) 4 _ (low_ok (v >>> ((9 : Int32) &&& 31)) 4 (by decide))) (va_cwS 2 hts gL_act_L_low rfl rfl rfl (by decide +kernel) ⟨Nat.le_of_ble_eq_true rfl, Nat.le_of_ble_eq_true rfl⟩) hK hS hA rfl hl.1 rfl (Nat.le_of_ble_eq_true rfl) dL_act_531 ⟨Nat.zero_le _, Nat.zero_le _⟩ (fun H locs hz9 hk9 hS => ?_)
      replace hG := h_keep hG hk9
      refine lv_iadd hx hb dL_act_534 ?_
      exact w_eqi (show (zact_14 v ei) = _ from if_pos c_517) (J517 H locs hG hS)
    · refine lv_iload hx hb dL_act_520 (lv_at hl 0 rfl) ?_
      refine lv_goto (tgt := 535) hx hb dL_act_522 (by decide) ?_
      exact w_eqi (show (zact_14 v ei) = _ from if_neg c_517) (J517 H locs hG hS)
  refine lv_if_eq (tgt := 506) hx hb dL_act_498 (by decide) (fun c_498 => ?_) (fun c_498 => ?_)
  · refine lv_iconst (v := 2) hx hb dL_act_506 (by decide) ?_
    refine lv_iload_n hx hb dL_act_507 rfl (lv_at hl 7 rfl) ?_
    refine lv_bipush (v := 8) hx hb dL_act_508 (by decide) ?_
    refine lv_ishr hx hb dL_act_510 ?_
    refine lv_iconst (v := 5) hx hb dL_act_511 (by decide) ?_
    refine h_callP (cells := 0) (slots := 0) (As := [.int (v >>> ((8 : Int32) &&& 31)), .int 5]) (rest := [.int 2, .ref (ad 0)]) ⟨hx, hb, hml, hown, hts⟩ (oL_low l dC dI cI cJ cZ cG H.size (v >>> ((8 : Int32) &&& 31)) 5 _ (low_ok (v >>> ((8 : Int32) &&& 31)) 5 (by decide))) (va_cwS 2 hts gL_act_L_low rfl rfl rfl (by decide +kernel) ⟨Nat.le_of_ble_eq_true rfl, Nat.le_of_ble_eq_true rfl⟩) hK hS hA rfl hl.1 rfl (Nat.le_of_ble_eq_true rfl) dL_act_512 ⟨Nat.zero_le _, Nat.zero_le _⟩ (fun H locs hz9 hk9 hS => ?_)
    replace hG := h_keep hG hk9
    refine lv_iadd hx hb dL_act_515 ?_
    exact w_eqi (show (zact_13 v ei) = _ from if_pos c_498) (J498 H locs hG hS)
  · refine lv_iload hx hb dL_act_501 (lv_at hl 3 rfl) ?_
    refine lv_goto (tgt := 516) hx hb dL_act_503 (by decide) ?_
    exact w_eqi (show (zact_13 v ei) = _ from if_neg c_498) (J498 H locs hG hS)
set_option maxHeartbeats 4000000 in
set_option maxRecDepth 100000 in
theorem act_555 {p : Program} {l : Launch} {e : Env} {s : State} {m : MethodId} {args : Array Value} {below : List Frame} {meth : Method} {c : Code} {dC : Nat → ClassId} {dI : Nat → Nat → Nat} {cI cJ cZ cG : ClassId} {A : Nat → Prop} {ad : Nat → Nat} {rw : Nat → Nat → Nat} {q : Nat} {a : AT} {v ei : Int32} {H : Heap} {locs : List Loc} {ls : Array Slot} (E : ActE p l s args m meth c dC dI cI cJ cZ cG A) (hq : q < 500) (hG : HWe (dC, dI) cI cJ cZ cG A ad rw q a H) (hS : va_S A s.heap H locs) (hl : lv_has ls 9 [(8, .int (zact_6 v ei)), (7, .int (zact_5 v ei)), (6, .int (zact_4 v ei)), (5, .int (zact_3 v ei)), (4, .int (zact_2 v ei)), (3, .int (zact_1 v ei)), (0, .ref (ad 0)), (1, .int v), (2, .int ei)]) (hc : sAct a v ei = (pr a (rPick a (zact_16 v ei)))) : W p l e rmL_act s m args below meth c H locs 0 0 (MQ below (HQl (sAct a v ei).1 (sAct a v ei).2 (dC, dI) cI cJ cZ cG A ad rw (q + 1)) args s 4 24 A) (F0 m 555 ls []) := by
  obtain ⟨hx, hb, hr, hml, hown, hts, hlocks, hlt, hK, hT, hN, hA⟩ := E
  refine lv_aload_n hx hb dL_act_555 rfl (lv_at hl 6 rfl) ?_
  refine lv_iload_n hx hb dL_act_556 rfl (lv_at hl 5 rfl) ?_
  have J557 : ∀ (H : Heap) (locs : List Loc), HWe (dC, dI) cI cJ cZ cG A ad rw q a H → va_S A s.heap H locs → W p l e rmL_act s m args below meth c H locs 0 0 (MQ below (HQl (sAct a v ei).1 (sAct a v ei).2 (dC, dI) cI cJ cZ cG A ad rw (q + 1)) args s 4 24 A) (F0 m 573 ls [.int (zact_16 v ei), .ref (ad 0)]) := by
    intro H locs hG hS
    refine h_callL (As := [.ref (ad 0), .int (zact_16 v ei)]) (rest := []) ⟨hx, hb, hml, hown, hts⟩ (b_pick l hlt dC dI cI cJ cZ cG ad rw q a H.size (zact_16 v ei) ) (vx_cwSW 2 hts gL_act_L_pick rfl rfl rfl (by decide +kernel) ⟨Nat.le_of_ble_eq_true rfl, Nat.le_of_ble_eq_true rfl⟩) hK Foc.one hG hS hA hT hN rfl hl.1 rfl (Nat.le_of_ble_eq_true rfl) dL_act_573 ⟨Nat.le_of_ble_eq_true rfl, Nat.le_of_ble_eq_true rfl⟩ (fun H locs hG hS => ?_)
    exact h_lret hx hb hr hlocks (by rw [hc]; rfl) (by rw [hc]; exact hG.mono (by omega)) hS (Nat.le_of_ble_eq_true rfl) (Nat.le_of_ble_eq_true rfl) dL_act_576
  refine lv_if_eq (tgt := 565) hx hb dL_act_557 (by decide) (fun c_557 => ?_) (fun c_557 => ?_)
  · refine lv_iload_n hx hb dL_act_565 rfl (lv_at hl 7 rfl) ?_
    refine lv_bipush (v := 14) hx hb dL_act_566 (by decide) ?_
    refine lv_ishr hx hb dL_act_568 ?_
    refine lv_iconst (v := 4) hx hb dL_act_569 (by decide) ?_
    refine h_callP (cells := 0) (slots := 0) (As := [.int (v >>> ((14 : Int32) &&& 31)), .int 4]) (rest := [.ref (ad 0)]) ⟨hx, hb, hml, hown, hts⟩ (oL_low l dC dI cI cJ cZ cG H.size (v >>> ((14 : Int32) &&& 31)) 4 _ (low_ok (v >>> ((14 : Int32) &&& 31)) 4 (by decide))) (va_cwS 2 hts gL_act_L_low rfl rfl rfl (by decide +kernel) ⟨Nat.le_of_ble_eq_true rfl, Nat.le_of_ble_eq_true rfl⟩) hK hS hA rfl hl.1 rfl (Nat.le_of_ble_eq_true rfl) dL_act_570 ⟨Nat.zero_le _, Nat.zero_le _⟩ (fun H locs hz9 hk9 hS => ?_)
    replace hG := h_keep hG hk9
    exact w_eqi (show (zact_16 v ei) = _ from if_pos c_557) (J557 H locs hG hS)
  · refine lv_iload hx hb dL_act_560 (lv_at hl 1 rfl) ?_
    refine lv_goto (tgt := 573) hx hb dL_act_562 (by decide) ?_
    exact w_eqi (show (zact_16 v ei) = _ from if_neg c_557) (J557 H locs hG hS)
set_option maxHeartbeats 4000000 in
set_option maxRecDepth 100000 in
theorem act_577 {p : Program} {l : Launch} {e : Env} {s : State} {m : MethodId} {args : Array Value} {below : List Frame} {meth : Method} {c : Code} {dC : Nat → ClassId} {dI : Nat → Nat → Nat} {cI cJ cZ cG : ClassId} {A : Nat → Prop} {ad : Nat → Nat} {rw : Nat → Nat → Nat} {q : Nat} {a : AT} {v ei : Int32} {H : Heap} {locs : List Loc} {ls : Array Slot} (E : ActE p l s args m meth c dC dI cI cJ cZ cG A) (hq : q < 500) (hG : HWe (dC, dI) cI cJ cZ cG A ad rw q a H) (hS : va_S A s.heap H locs) (hl : lv_has ls 9 [(8, .int (zact_6 v ei)), (7, .int (zact_5 v ei)), (6, .int (zact_4 v ei)), (5, .int (zact_3 v ei)), (4, .int (zact_2 v ei)), (3, .int (zact_1 v ei)), (0, .ref (ad 0)), (1, .int v), (2, .int ei)]) (hc : sAct a v ei = (pr a (rOffered a (zact_17 v ei)))) : W p l e rmL_act s m args below meth c H locs 0 0 (MQ below (HQl (sAct a v ei).1 (sAct a v ei).2 (dC, dI) cI cJ cZ cG A ad rw (q + 1)) args s 4 24 A) (F0 m 577 ls []) := by
  obtain ⟨hx, hb, hr, hml, hown, hts, hlocks, hlt, hK, hT, hN, hA⟩ := E
  refine lv_aload_n hx hb dL_act_577 rfl (lv_at hl 6 rfl) ?_
  refine lv_iload_n hx hb dL_act_578 rfl (lv_at hl 5 rfl) ?_
  have J579 : ∀ (H : Heap) (locs : List Loc), HWe (dC, dI) cI cJ cZ cG A ad rw q a H → va_S A s.heap H locs → W p l e rmL_act s m args below meth c H locs 0 0 (MQ below (HQl (sAct a v ei).1 (sAct a v ei).2 (dC, dI) cI cJ cZ cG A ad rw (q + 1)) args s 4 24 A) (F0 m 595 ls [.int (zact_17 v ei), .ref (ad 0)]) := by
    intro H locs hG hS
    refine h_callL (As := [.ref (ad 0), .int (zact_17 v ei)]) (rest := []) ⟨hx, hb, hml, hown, hts⟩ (b_offered l hlt dC dI cI cJ cZ cG ad rw q a H.size (zact_17 v ei) ) (vx_cwSW 2 hts gL_act_L_offered rfl rfl rfl (by decide +kernel) ⟨Nat.le_of_ble_eq_true rfl, Nat.le_of_ble_eq_true rfl⟩) hK Foc.one hG hS hA hT hN rfl hl.1 rfl (Nat.le_of_ble_eq_true rfl) dL_act_595 ⟨Nat.le_of_ble_eq_true rfl, Nat.le_of_ble_eq_true rfl⟩ (fun H locs hG hS => ?_)
    exact h_lret hx hb hr hlocks (by rw [hc]; rfl) (by rw [hc]; exact hG.mono (by omega)) hS (Nat.le_of_ble_eq_true rfl) (Nat.le_of_ble_eq_true rfl) dL_act_598
  refine lv_if_eq (tgt := 587) hx hb dL_act_579 (by decide) (fun c_579 => ?_) (fun c_579 => ?_)
  · refine lv_iload_n hx hb dL_act_587 rfl (lv_at hl 7 rfl) ?_
    refine lv_bipush (v := 14) hx hb dL_act_588 (by decide) ?_
    refine lv_ishr hx hb dL_act_590 ?_
    refine lv_iconst (v := 5) hx hb dL_act_591 (by decide) ?_
    refine h_callP (cells := 0) (slots := 0) (As := [.int (v >>> ((14 : Int32) &&& 31)), .int 5]) (rest := [.ref (ad 0)]) ⟨hx, hb, hml, hown, hts⟩ (oL_low l dC dI cI cJ cZ cG H.size (v >>> ((14 : Int32) &&& 31)) 5 _ (low_ok (v >>> ((14 : Int32) &&& 31)) 5 (by decide))) (va_cwS 2 hts gL_act_L_low rfl rfl rfl (by decide +kernel) ⟨Nat.le_of_ble_eq_true rfl, Nat.le_of_ble_eq_true rfl⟩) hK hS hA rfl hl.1 rfl (Nat.le_of_ble_eq_true rfl) dL_act_592 ⟨Nat.zero_le _, Nat.zero_le _⟩ (fun H locs hz9 hk9 hS => ?_)
    replace hG := h_keep hG hk9
    exact w_eqi (show (zact_17 v ei) = _ from if_pos c_579) (J579 H locs hG hS)
  · refine lv_iload hx hb dL_act_582 (lv_at hl 1 rfl) ?_
    refine lv_goto (tgt := 595) hx hb dL_act_584 (by decide) ?_
    exact w_eqi (show (zact_17 v ei) = _ from if_neg c_579) (J579 H locs hG hS)
set_option maxHeartbeats 4000000 in
set_option maxRecDepth 100000 in
theorem act_599 {p : Program} {l : Launch} {e : Env} {s : State} {m : MethodId} {args : Array Value} {below : List Frame} {meth : Method} {c : Code} {dC : Nat → ClassId} {dI : Nat → Nat → Nat} {cI cJ cZ cG : ClassId} {A : Nat → Prop} {ad : Nat → Nat} {rw : Nat → Nat → Nat} {q : Nat} {a : AT} {v ei : Int32} {H : Heap} {locs : List Loc} {ls : Array Slot} (E : ActE p l s args m meth c dC dI cI cJ cZ cG A) (hq : q < 500) (hG : HWe (dC, dI) cI cJ cZ cG A ad rw q a H) (hS : va_S A s.heap H locs) (hl : lv_has ls 9 [(8, .int (zact_6 v ei)), (7, .int (zact_5 v ei)), (6, .int (zact_4 v ei)), (5, .int (zact_3 v ei)), (4, .int (zact_2 v ei)), (3, .int (zact_1 v ei)), (0, .ref (ad 0)), (1, .int v), (2, .int ei)]) (hc : sAct a v ei = (pr a (rWish a (zact_2 v ei) (zact_4 v ei) (zact_5 v ei)))) : W p l e rmL_act s m args below meth c H locs 0 0 (MQ below (HQl (sAct a v ei).1 (sAct a v ei).2 (dC, dI) cI cJ cZ cG A ad rw (q + 1)) args s 4 24 A) (F0 m 599 ls []) := by
  obtain ⟨hx, hb, hr, hml, hown, hts, hlocks, hlt, hK, hT, hN, hA⟩ := E
  refine lv_aload_n hx hb dL_act_599 rfl (lv_at hl 6 rfl) ?_
  refine lv_iload hx hb dL_act_600 (lv_at hl 4 rfl) ?_
  refine lv_iload hx hb dL_act_602 (lv_at hl 2 rfl) ?_
  refine lv_iload hx hb dL_act_604 (lv_at hl 1 rfl) ?_
  refine h_callL (As := [.ref (ad 0), .int (zact_2 v ei), .int (zact_4 v ei), .int (zact_5 v ei)]) (rest := []) ⟨hx, hb, hml, hown, hts⟩ (b_wish l hlt dC dI cI cJ cZ cG ad rw q a H.size (zact_2 v ei) (zact_4 v ei) (zact_5 v ei) ) (vx_cwSW 4 hts gL_act_L_wish rfl rfl rfl (by decide +kernel) ⟨Nat.le_of_ble_eq_true rfl, Nat.le_of_ble_eq_true rfl⟩) hK Foc.one hG hS hA hT hN rfl hl.1 rfl (Nat.le_of_ble_eq_true rfl) dL_act_606 ⟨Nat.le_of_ble_eq_true rfl, Nat.le_of_ble_eq_true rfl⟩ (fun H locs hG hS => ?_)
  exact h_lret hx hb hr hlocks (by rw [hc]; rfl) (by rw [hc]; exact hG.mono (by omega)) hS (Nat.le_of_ble_eq_true rfl) (Nat.le_of_ble_eq_true rfl) dL_act_609
set_option maxHeartbeats 4000000 in
set_option maxRecDepth 100000 in
theorem act_610 {p : Program} {l : Launch} {e : Env} {s : State} {m : MethodId} {args : Array Value} {below : List Frame} {meth : Method} {c : Code} {dC : Nat → ClassId} {dI : Nat → Nat → Nat} {cI cJ cZ cG : ClassId} {A : Nat → Prop} {ad : Nat → Nat} {rw : Nat → Nat → Nat} {q : Nat} {a : AT} {v ei : Int32} {H : Heap} {locs : List Loc} {ls : Array Slot} (E : ActE p l s args m meth c dC dI cI cJ cZ cG A) (hq : q < 500) (hG : HWe (dC, dI) cI cJ cZ cG A ad rw q a H) (hS : va_S A s.heap H locs) (hl : lv_has ls 9 [(8, .int (zact_6 v ei)), (7, .int (zact_5 v ei)), (6, .int (zact_4 v ei)), (5, .int (zact_3 v ei)), (4, .int (zact_2 v ei)), (3, .int (zact_1 v ei)), (0, .ref (ad 0)), (1, .int v), (2, .int ei)]) (hc : sAct a v ei = (if (ei - ei / 5 * 5) = 0 then (pr a (rSwap a)) else (pr a (rHas a (zact_2 v ei) (zact_4 v ei))))) : W p l e rmL_act s m args below meth c H locs 0 0 (MQ below (HQl (sAct a v ei).1 (sAct a v ei).2 (dC, dI) cI cJ cZ cG A ad rw (q + 1)) args s 4 24 A) (F0 m 610 ls []) := by
  obtain ⟨hx, hb, hr, hml, hown, hts, hlocks, hlt, hK, hT, hN, hA⟩ := E
  refine lv_iload_n hx hb dL_act_610 rfl (lv_at hl 8 rfl) ?_
  refine lv_iconst (v := 5) hx hb dL_act_611 (by decide) ?_
  refine lv_irem hx hb dL_act_612 (by decide) ?_
  refine lv_if_ne (tgt := 624) hx hb dL_act_613 (by decide) (fun c_613 => ?_) (fun c_613 => ?_)
  · replace hc := hc.trans (if_neg c_613)
    refine lv_aload_n hx hb dL_act_624 rfl (lv_at hl 6 rfl) ?_
    refine lv_iload hx hb dL_act_625 (lv_at hl 4 rfl) ?_
    refine lv_iload hx hb dL_act_627 (lv_at hl 2 rfl) ?_
    refine h_callL (As := [.ref (ad 0), .int (zact_2 v ei), .int (zact_4 v ei)]) (rest := []) ⟨hx, hb, hml, hown, hts⟩ (b_has l hlt dC dI cI cJ cZ cG ad rw q a H.size (zact_2 v ei) (zact_4 v ei) ) (vx_cwSW 3 hts gL_act_L_has rfl rfl rfl (by decide +kernel) ⟨Nat.le_of_ble_eq_true rfl, Nat.le_of_ble_eq_true rfl⟩) hK Foc.one hG hS hA hT hN rfl hl.1 rfl (Nat.le_of_ble_eq_true rfl) dL_act_629 ⟨Nat.le_of_ble_eq_true rfl, Nat.le_of_ble_eq_true rfl⟩ (fun H locs hG hS => ?_)
    exact h_lret hx hb hr hlocks (by rw [hc]; rfl) (by rw [hc]; exact hG.mono (by omega)) hS (Nat.le_of_ble_eq_true rfl) (Nat.le_of_ble_eq_true rfl) dL_act_632
  · replace hc := hc.trans (if_pos c_613)
    refine lv_aload_n hx hb dL_act_616 rfl (lv_at hl 6 rfl) ?_
    refine h_callMi (As := []) (rest := []) ⟨hx, hb, hml, hown, hts⟩ (a_swap l dC dI cI cJ cZ cG ad rw q a H.size) (cwV 0 hts gL_act_X8_swap rfl rfl rfl (by decide +kernel) ⟨Nat.le_of_ble_eq_true rfl, Nat.le_of_ble_eq_true rfl⟩) hK Foc.one hG hS hA hT rfl hl.1 rfl (Nat.le_of_ble_eq_true rfl) dL_act_617 ⟨Nat.le_of_ble_eq_true rfl, Nat.le_of_ble_eq_true rfl⟩ (fun r a1 H locs hr1 hG hS => ?_)
    refine lv_i2l (v := r.toInt64) hx hb dL_act_620 rfl ?_
    refine lv_goto (tgt := 632) hx hb dL_act_621 (by decide) ?_
    exact h_lret hx hb hr hlocks (by rw [hc, hr1]; rfl) (by rw [hc, hr1]; exact hG.mono (by omega)) hS (Nat.le_of_ble_eq_true rfl) (Nat.le_of_ble_eq_true rfl) dL_act_632
set_option maxHeartbeats 4000000 in
set_option maxRecDepth 100000 in
theorem act_633 {p : Program} {l : Launch} {e : Env} {s : State} {m : MethodId} {args : Array Value} {below : List Frame} {meth : Method} {c : Code} {dC : Nat → ClassId} {dI : Nat → Nat → Nat} {cI cJ cZ cG : ClassId} {A : Nat → Prop} {ad : Nat → Nat} {rw : Nat → Nat → Nat} {q : Nat} {a : AT} {v ei : Int32} {H : Heap} {locs : List Loc} {ls : Array Slot} (E : ActE p l s args m meth c dC dI cI cJ cZ cG A) (hq : q < 500) (hG : HWe (dC, dI) cI cJ cZ cG A ad rw q a H) (hS : va_S A s.heap H locs) (hl : lv_has ls 9 [(8, .int (zact_6 v ei)), (7, .int (zact_5 v ei)), (6, .int (zact_4 v ei)), (5, .int (zact_3 v ei)), (4, .int (zact_2 v ei)), (3, .int (zact_1 v ei)), (0, .ref (ad 0)), (1, .int v), (2, .int ei)]) (hc : sAct a v ei = (if (ei - ei / 5 * 5) = 1 then (pr a (rRing a (zact_18 v ei))) else (pr a (rHas a (zact_2 v ei) (zact_5 v ei))))) : W p l e rmL_act s m args below meth c H locs 0 0 (MQ below (HQl (sAct a v ei).1 (sAct a v ei).2 (dC, dI) cI cJ cZ cG A ad rw (q + 1)) args s 4 24 A) (F0 m 633 ls []) := by
  obtain ⟨hx, hb, hr, hml, hown, hts, hlocks, hlt, hK, hT, hN, hA⟩ := E
  refine lv_iload_n hx hb dL_act_633 rfl (lv_at hl 8 rfl) ?_
  refine lv_iconst (v := 5) hx hb dL_act_634 (by decide) ?_
  refine lv_irem hx hb dL_act_635 (by decide) ?_
  refine lv_iconst (v := 1) hx hb dL_act_636 (by decide) ?_
  refine lv_icmp_ne (tgt := 665) hx hb dL_act_637 (by decide) (fun c_637 => ?_) (fun c_637 => ?_)
  · replace hc := hc.trans (if_neg c_637)
    refine lv_aload_n hx hb dL_act_665 rfl (lv_at hl 6 rfl) ?_
    refine lv_iload hx hb dL_act_666 (lv_at hl 4 rfl) ?_
    refine lv_iload hx hb dL_act_668 (lv_at hl 1 rfl) ?_
    refine h_callL (As := [.ref (ad 0), .int (zact_2 v ei), .int (zact_5 v ei)]) (rest := []) ⟨hx, hb, hml, hown, hts⟩ (b_has l hlt dC dI cI cJ cZ cG ad rw q a H.size (zact_2 v ei) (zact_5 v ei) ) (vx_cwSW 3 hts gL_act_L_has rfl rfl rfl (by decide +kernel) ⟨Nat.le_of_ble_eq_true rfl, Nat.le_of_ble_eq_true rfl⟩) hK Foc.one hG hS hA hT hN rfl hl.1 rfl (Nat.le_of_ble_eq_true rfl) dL_act_670 ⟨Nat.le_of_ble_eq_true rfl, Nat.le_of_ble_eq_true rfl⟩ (fun H locs hG hS => ?_)
    exact h_lret hx hb hr hlocks (by rw [hc]; rfl) (by rw [hc]; exact hG.mono (by omega)) hS (Nat.le_of_ble_eq_true rfl) (Nat.le_of_ble_eq_true rfl) dL_act_673
  · replace hc := hc.trans (if_pos c_637)
    refine lv_aload_n hx hb dL_act_640 rfl (lv_at hl 6 rfl) ?_
    refine lv_iload_n hx hb dL_act_641 rfl (lv_at hl 5 rfl) ?_
    have J642 : ∀ (H : Heap) (locs : List Loc), HWe (dC, dI) cI cJ cZ cG A ad rw q a H → va_S A s.heap H locs → W p l e rmL_act s m args below meth c H locs 0 0 (MQ below (HQl (sAct a v ei).1 (sAct a v ei).2 (dC, dI) cI cJ cZ cG A ad rw (q + 1)) args s 4 24 A) (F0 m 659 ls [.int (zact_18 v ei), .ref (ad 0)]) := by
      intro H locs hG hS
      refine h_callL (As := [.ref (ad 0), .int (zact_18 v ei)]) (rest := []) ⟨hx, hb, hml, hown, hts⟩ (b_ring l hlt dC dI cI cJ cZ cG ad rw q a H.size (zact_18 v ei) ) (vx_cwSW 2 hts gL_act_L_ring rfl rfl rfl (by decide +kernel) ⟨Nat.le_of_ble_eq_true rfl, Nat.le_of_ble_eq_true rfl⟩) hK Foc.one hG hS hA hT hN rfl hl.1 rfl (Nat.le_of_ble_eq_true rfl) dL_act_659 ⟨Nat.le_of_ble_eq_true rfl, Nat.le_of_ble_eq_true rfl⟩ (fun H locs hG hS => ?_)
      refine lv_goto (tgt := 673) hx hb dL_act_662 (by decide) ?_
      exact h_lret hx hb hr hlocks (by rw [hc]; rfl) (by rw [hc]; exact hG.mono (by omega)) hS (Nat.le_of_ble_eq_true rfl) (Nat.le_of_ble_eq_true rfl) dL_act_673
    refine lv_if_eq (tgt := 650) hx hb dL_act_642 (by decide) (fun c_642 => ?_) (fun c_642 => ?_)
    · refine lv_iload_n hx hb dL_act_650 rfl (lv_at hl 7 rfl) ?_
      refine lv_bipush (v := 14) hx hb dL_act_651 (by decide) ?_
      refine lv_ishr hx hb dL_act_653 ?_
      refine lv_bipush (v := 6) hx hb dL_act_654 (by decide) ?_
      refine h_callP (cells := 0) (slots := 0) (As := [.int (v >>> ((14 : Int32) &&& 31)), .int 6]) (rest := [.ref (ad 0)]) ⟨hx, hb, hml, hown, hts⟩ (oL_low l dC dI cI cJ cZ cG H.size (v >>> ((14 : Int32) &&& 31)) 6 _ (low_ok (v >>> ((14 : Int32) &&& 31)) 6 (by decide))) (va_cwS 2 hts gL_act_L_low rfl rfl rfl (by decide +kernel) ⟨Nat.le_of_ble_eq_true rfl, Nat.le_of_ble_eq_true rfl⟩) hK hS hA rfl hl.1 rfl (Nat.le_of_ble_eq_true rfl) dL_act_656 ⟨Nat.zero_le _, Nat.zero_le _⟩ (fun H locs hz9 hk9 hS => ?_)
      replace hG := h_keep hG hk9
      exact w_eqi (show (zact_18 v ei) = _ from if_pos c_642) (J642 H locs hG hS)
    · refine lv_iload hx hb dL_act_645 (lv_at hl 1 rfl) ?_
      refine lv_goto (tgt := 659) hx hb dL_act_647 (by decide) ?_
      exact w_eqi (show (zact_18 v ei) = _ from if_neg c_642) (J642 H locs hG hS)
set_option maxHeartbeats 4000000 in
set_option maxRecDepth 100000 in
theorem act_674 {p : Program} {l : Launch} {e : Env} {s : State} {m : MethodId} {args : Array Value} {below : List Frame} {meth : Method} {c : Code} {dC : Nat → ClassId} {dI : Nat → Nat → Nat} {cI cJ cZ cG : ClassId} {A : Nat → Prop} {ad : Nat → Nat} {rw : Nat → Nat → Nat} {q : Nat} {a : AT} {v ei : Int32} {H : Heap} {locs : List Loc} {ls : Array Slot} (E : ActE p l s args m meth c dC dI cI cJ cZ cG A) (hq : q < 500) (hG : HWe (dC, dI) cI cJ cZ cG A ad rw q a H) (hS : va_S A s.heap H locs) (hl : lv_has ls 9 [(8, .int (zact_6 v ei)), (7, .int (zact_5 v ei)), (6, .int (zact_4 v ei)), (5, .int (zact_3 v ei)), (4, .int (zact_2 v ei)), (3, .int (zact_1 v ei)), (0, .ref (ad 0)), (1, .int v), (2, .int ei)]) (hc : sAct a v ei = (pr a (rPair a (zact_2 v ei) (zact_19 v ei)))) : W p l e rmL_act s m args below meth c H locs 0 0 (MQ below (HQl (sAct a v ei).1 (sAct a v ei).2 (dC, dI) cI cJ cZ cG A ad rw (q + 1)) args s 4 24 A) (F0 m 674 ls []) := by
  obtain ⟨hx, hb, hr, hml, hown, hts, hlocks, hlt, hK, hT, hN, hA⟩ := E
  refine lv_aload_n hx hb dL_act_674 rfl (lv_at hl 6 rfl) ?_
  refine lv_iload hx hb dL_act_675 (lv_at hl 4 rfl) ?_
  refine lv_iload_n hx hb dL_act_677 rfl (lv_at hl 5 rfl) ?_
  have J678 : ∀ (H : Heap) (locs : List Loc), HWe (dC, dI) cI cJ cZ cG A ad rw q a H → va_S A s.heap H locs → W p l e rmL_act s m args below meth c H locs 0 0 (MQ below (HQl (sAct a v ei).1 (sAct a v ei).2 (dC, dI) cI cJ cZ cG A ad rw (q + 1)) args s 4 24 A) (F0 m 695 ls [.int (zact_19 v ei), .int (zact_2 v ei), .ref (ad 0)]) := by
    intro H locs hG hS
    refine h_callL (As := [.ref (ad 0), .int (zact_2 v ei), .int (zact_19 v ei)]) (rest := []) ⟨hx, hb, hml, hown, hts⟩ (b_pair l hlt dC dI cI cJ cZ cG ad rw q a H.size (zact_2 v ei) (zact_19 v ei) ) (vx_cwSW 3 hts gL_act_L_pair rfl rfl rfl (by decide +kernel) ⟨Nat.le_of_ble_eq_true rfl, Nat.le_of_ble_eq_true rfl⟩) hK Foc.one hG hS hA hT hN rfl hl.1 rfl (Nat.le_of_ble_eq_true rfl) dL_act_695 ⟨Nat.le_of_ble_eq_true rfl, Nat.le_of_ble_eq_true rfl⟩ (fun H locs hG hS => ?_)
    exact h_lret hx hb hr hlocks (by rw [hc]; rfl) (by rw [hc]; exact hG.mono (by omega)) hS (Nat.le_of_ble_eq_true rfl) (Nat.le_of_ble_eq_true rfl) dL_act_698
  refine lv_if_eq (tgt := 686) hx hb dL_act_678 (by decide) (fun c_678 => ?_) (fun c_678 => ?_)
  · refine lv_iload_n hx hb dL_act_686 rfl (lv_at hl 7 rfl) ?_
    refine lv_bipush (v := 9) hx hb dL_act_687 (by decide) ?_
    refine lv_ishr hx hb dL_act_689 ?_
    refine lv_bipush (v := 64) hx hb dL_act_690 (by decide) ?_
    refine h_callP (cells := 0) (slots := 0) (As := [.int (v >>> ((9 : Int32) &&& 31)), .int 64]) (rest := [.int (zact_2 v ei), .ref (ad 0)]) ⟨hx, hb, hml, hown, hts⟩ (oL_low l dC dI cI cJ cZ cG H.size (v >>> ((9 : Int32) &&& 31)) 64 _ (low_ok (v >>> ((9 : Int32) &&& 31)) 64 (by decide))) (va_cwS 2 hts gL_act_L_low rfl rfl rfl (by decide +kernel) ⟨Nat.le_of_ble_eq_true rfl, Nat.le_of_ble_eq_true rfl⟩) hK hS hA rfl hl.1 rfl (Nat.le_of_ble_eq_true rfl) dL_act_692 ⟨Nat.zero_le _, Nat.zero_le _⟩ (fun H locs hz9 hk9 hS => ?_)
    replace hG := h_keep hG hk9
    exact w_eqi (show (zact_19 v ei) = _ from if_pos c_678) (J678 H locs hG hS)
  · refine lv_iload hx hb dL_act_681 (lv_at hl 0 rfl) ?_
    refine lv_goto (tgt := 695) hx hb dL_act_683 (by decide) ?_
    exact w_eqi (show (zact_19 v ei) = _ from if_neg c_678) (J678 H locs hG hS)
set_option maxHeartbeats 4000000 in
set_option maxRecDepth 100000 in
theorem act_699 {p : Program} {l : Launch} {e : Env} {s : State} {m : MethodId} {args : Array Value} {below : List Frame} {meth : Method} {c : Code} {dC : Nat → ClassId} {dI : Nat → Nat → Nat} {cI cJ cZ cG : ClassId} {A : Nat → Prop} {ad : Nat → Nat} {rw : Nat → Nat → Nat} {q : Nat} {a : AT} {v ei : Int32} {H : Heap} {locs : List Loc} {ls : Array Slot} (E : ActE p l s args m meth c dC dI cI cJ cZ cG A) (hq : q < 500) (hG : HWe (dC, dI) cI cJ cZ cG A ad rw q a H) (hS : va_S A s.heap H locs) (hl : lv_has ls 9 [(8, .int (zact_6 v ei)), (7, .int (zact_5 v ei)), (6, .int (zact_4 v ei)), (5, .int (zact_3 v ei)), (4, .int (zact_2 v ei)), (3, .int (zact_1 v ei)), (0, .ref (ad 0)), (1, .int v), (2, .int ei)]) (hc : sAct a v ei = (pr a (rResult a (zact_2 v ei) (zact_3 v ei)))) : W p l e rmL_act s m args below meth c H locs 0 0 (MQ below (HQl (sAct a v ei).1 (sAct a v ei).2 (dC, dI) cI cJ cZ cG A ad rw (q + 1)) args s 4 24 A) (F0 m 699 ls []) := by
  obtain ⟨hx, hb, hr, hml, hown, hts, hlocks, hlt, hK, hT, hN, hA⟩ := E
  refine lv_aload_n hx hb dL_act_699 rfl (lv_at hl 6 rfl) ?_
  refine lv_iload hx hb dL_act_700 (lv_at hl 4 rfl) ?_
  refine lv_iload hx hb dL_act_702 (lv_at hl 3 rfl) ?_
  refine h_callL (As := [.ref (ad 0), .int (zact_2 v ei), .int (zact_3 v ei)]) (rest := []) ⟨hx, hb, hml, hown, hts⟩ (b_result l hlt dC dI cI cJ cZ cG ad rw q a H.size (zact_2 v ei) (zact_3 v ei) ) (vx_cwSW 3 hts gL_act_L_result rfl rfl rfl (by decide +kernel) ⟨Nat.le_of_ble_eq_true rfl, Nat.le_of_ble_eq_true rfl⟩) hK Foc.one hG hS hA hT hN rfl hl.1 rfl (Nat.le_of_ble_eq_true rfl) dL_act_704 ⟨Nat.le_of_ble_eq_true rfl, Nat.le_of_ble_eq_true rfl⟩ (fun H locs hG hS => ?_)
  exact h_lret hx hb hr hlocks (by rw [hc]; rfl) (by rw [hc]; exact hG.mono (by omega)) hS (Nat.le_of_ble_eq_true rfl) (Nat.le_of_ble_eq_true rfl) dL_act_707
set_option maxHeartbeats 4000000 in
set_option maxRecDepth 100000 in
theorem act_708 {p : Program} {l : Launch} {e : Env} {s : State} {m : MethodId} {args : Array Value} {below : List Frame} {meth : Method} {c : Code} {dC : Nat → ClassId} {dI : Nat → Nat → Nat} {cI cJ cZ cG : ClassId} {A : Nat → Prop} {ad : Nat → Nat} {rw : Nat → Nat → Nat} {q : Nat} {a : AT} {v ei : Int32} {H : Heap} {locs : List Loc} {ls : Array Slot} (E : ActE p l s args m meth c dC dI cI cJ cZ cG A) (hq : q < 500) (hG : HWe (dC, dI) cI cJ cZ cG A ad rw q a H) (hS : va_S A s.heap H locs) (hl : lv_has ls 9 [(8, .int (zact_6 v ei)), (7, .int (zact_5 v ei)), (6, .int (zact_4 v ei)), (5, .int (zact_3 v ei)), (4, .int (zact_2 v ei)), (3, .int (zact_1 v ei)), (0, .ref (ad 0)), (1, .int v), (2, .int ei)]) (hc : sAct a v ei = (pr a (rStrength a (zact_2 v ei)))) : W p l e rmL_act s m args below meth c H locs 0 0 (MQ below (HQl (sAct a v ei).1 (sAct a v ei).2 (dC, dI) cI cJ cZ cG A ad rw (q + 1)) args s 4 24 A) (F0 m 708 ls []) := by
  obtain ⟨hx, hb, hr, hml, hown, hts, hlocks, hlt, hK, hT, hN, hA⟩ := E
  refine lv_aload_n hx hb dL_act_708 rfl (lv_at hl 6 rfl) ?_
  refine lv_iload hx hb dL_act_709 (lv_at hl 4 rfl) ?_
  refine h_callL (As := [.ref (ad 0), .int (zact_2 v ei)]) (rest := []) ⟨hx, hb, hml, hown, hts⟩ (b_strength l hlt dC dI cI cJ cZ cG ad rw q a H.size (zact_2 v ei) ) (vx_cwSW 2 hts gL_act_L_strength rfl rfl rfl (by decide +kernel) ⟨Nat.le_of_ble_eq_true rfl, Nat.le_of_ble_eq_true rfl⟩) hK Foc.one hG hS hA hT hN rfl hl.1 rfl (Nat.le_of_ble_eq_true rfl) dL_act_711 ⟨Nat.le_of_ble_eq_true rfl, Nat.le_of_ble_eq_true rfl⟩ (fun H locs hG hS => ?_)
  exact h_lret hx hb hr hlocks (by rw [hc]; rfl) (by rw [hc]; exact hG.mono (by omega)) hS (Nat.le_of_ble_eq_true rfl) (Nat.le_of_ble_eq_true rfl) dL_act_714
set_option maxHeartbeats 4000000 in
set_option maxRecDepth 100000 in
theorem b_act (l : Launch) (hlt : l.stackTraces = false) (dC : Nat → ClassId) (dI : Nat → Nat → Nat) (cI cJ cZ cG : ClassId) (ad : Nat → Nat) (rw : Nat → Nat → Nat) (q : Nat) (a : AT) (hq : q < 500) (sz : Nat) (v ei : Int32) : Met l yL_act wsL_act rmL_act (HPc [.ref (ad 0), .int v, .int ei] (dC, dI) cI cJ cZ cG sz ad rw q a) (HQl (sAct a v ei).1 (sAct a v ei).2 (dC, dI) cI cJ cZ cG (HA cI cJ cZ cG ad rw sz) ad rw (q + 1)) 4 24 (HA cI cJ cZ cG ad rw sz) := by
  refine Met.ofW (cc := cL_act) (maxL := 9) (ret := (some .long)) (by decide) rfl ?_
  intro p e s m args below meth c s₁ B hml hv
  obtain ⟨rfl, hsz, hG0, hK, hT, hN⟩ := hv
  have hx := B.exec
  have hb := B.bytes
  have hr := B.returns
  have hts := atoms_spec (ws := wsL_act) B.pre
  have hown : s.vm.findClass RL = some m.cls := findClass_of_methodNamed B.named
  have hlocks := B.notSynchronized
  subst hsz
  have hG := hG0.self (sz := s.heap.size)
  have hA : ∀ x, s.heap.size ≤ x → (HA cI cJ cZ cG ad rw s.heap.size) x := HA_hi
  have hS : va_S (HA cI cJ cZ cG ad rw s.heap.size) s.heap s.heap [] := va_S.rf
  generalize hAe : (HA cI cJ cZ cG ad rw s.heap.size) = A at hG hT hA hS ⊢
  have hl := lv_entry ([.ref (ad 0), .int v, .int ei]) (n := 9) (Nat.le_of_ble_eq_true rfl)
  rw [lg_entry_eq]
  generalize (lg_sl ([.ref (ad 0), .int v, .int ei]) ++ List.replicate (9 - (lg_sl ([.ref (ad 0), .int v, .int ei])).length) Slot.unset).toArray = ls at hl ⊢
  have hl : lv_has ls 9 [(0, .ref (ad 0)), (1, .int v), (2, .int ei)] := hl
  have E : ActE p l s #[.ref (ad 0), .int v, .int ei] m meth c dC dI cI cJ cZ cG A := ⟨hx, hb, hr, hml, hown, hts, hlocks, hlt, hK, hT, hN, hA⟩
  generalize hH : s.heap = H at hG ⊢
  replace hS : va_S A s.heap H [] := by rw [← hH]; exact hS
  generalize ([] : List Loc) = locs at hS ⊢
  show W p l e rmL_act s m #[.ref (ad 0), .int v, .int ei] below meth c H locs 0 0 (MQ below (HQl (sAct a v ei).1 (sAct a v ei).2 (dC, dI) cI cJ cZ cG A ad rw (q + 1)) #[.ref (ad 0), .int v, .int ei] s 4 24 A) (F0 m 0 ls [])
  refine lv_iload_n hx hb dL_act_0 rfl (lv_at hl 1 rfl) ?_
  refine lv_bipush (v := 26) hx hb dL_act_1 (by decide) ?_
  refine lv_ishr hx hb dL_act_3 ?_
  refine lv_bipush (v := 14) hx hb dL_act_4 (by decide) ?_
  refine h_callP (cells := 0) (slots := 0) (As := [.int (v >>> ((26 : Int32) &&& 31)), .int 14]) (rest := []) ⟨hx, hb, hml, hown, hts⟩ (oL_low l dC dI cI cJ cZ cG H.size (v >>> ((26 : Int32) &&& 31)) 14 _ (low_ok (v >>> ((26 : Int32) &&& 31)) 14 (by decide))) (va_cwS 2 hts gL_act_L_low rfl rfl rfl (by decide +kernel) ⟨Nat.le_of_ble_eq_true rfl, Nat.le_of_ble_eq_true rfl⟩) hK hS hA rfl hl.1 rfl (Nat.le_of_ble_eq_true rfl) dL_act_6 ⟨Nat.zero_le _, Nat.zero_le _⟩ (fun H locs hz9 hk9 hS => ?_)
  replace hG := h_keep hG hk9
  have J9 : ∀ (H : Heap) (locs : List Loc), HWe (dC, dI) cI cJ cZ cG A ad rw q a H → va_S A s.heap H locs → W p l e rmL_act s m #[.ref (ad 0), .int v, .int ei] below meth c H locs 0 0 (MQ below (HQl (sAct a v ei).1 (sAct a v ei).2 (dC, dI) cI cJ cZ cG A ad rw (q + 1)) #[.ref (ad 0), .int v, .int ei] s 4 24 A) (F0 m 17 ls [.int (zact_1 v ei)]) := by
    intro H locs hG hS
    refine lv_istore_n (lv' := [(3, .int (zact_1 v ei)), (0, .ref (ad 0)), (1, .int v), (2, .int ei)]) hx hb dL_act_17 rfl hl (by decide) rfl (fun ls hl => ?_)
    refine lv_iload_n hx hb dL_act_18 rfl (lv_at hl 0 rfl) ?_
    have J19 : ∀ (H : Heap) (locs : List Loc), HWe (dC, dI) cI cJ cZ cG A ad rw q a H → va_S A s.heap H locs → W p l e rmL_act s m #[.ref (ad 0), .int v, .int ei] below meth c H locs 0 0 (MQ below (HQl (sAct a v ei).1 (sAct a v ei).2 (dC, dI) cI cJ cZ cG A ad rw (q + 1)) #[.ref (ad 0), .int v, .int ei] s 4 24 A) (F0 m 43 ls [.int (zact_2 v ei)]) := by
      intro H locs hG hS
      refine lv_istore (lv' := [(4, .int (zact_2 v ei)), (3, .int (zact_1 v ei)), (0, .ref (ad 0)), (1, .int v), (2, .int ei)]) hx hb dL_act_43 hl (by decide) rfl (fun ls hl => ?_)
      refine lv_iload_n hx hb dL_act_45 rfl (lv_at hl 1 rfl) ?_
      have J46 : ∀ (H : Heap) (locs : List Loc), HWe (dC, dI) cI cJ cZ cG A ad rw q a H → va_S A s.heap H locs → W p l e rmL_act s m #[.ref (ad 0), .int v, .int ei] below meth c H locs 0 0 (MQ below (HQl (sAct a v ei).1 (sAct a v ei).2 (dC, dI) cI cJ cZ cG A ad rw (q + 1)) #[.ref (ad 0), .int v, .int ei] s 4 24 A) (F0 m 72 ls [.int (zact_3 v ei)]) := by
        intro H locs hG hS
        refine lv_istore (lv' := [(5, .int (zact_3 v ei)), (4, .int (zact_2 v ei)), (3, .int (zact_1 v ei)), (0, .ref (ad 0)), (1, .int v), (2, .int ei)]) hx hb dL_act_72 hl (by decide) rfl (fun ls hl => ?_)
        refine lv_iload_n hx hb dL_act_74 rfl (lv_at hl 2 rfl) ?_
        have J75 : ∀ (H : Heap) (locs : List Loc), HWe (dC, dI) cI cJ cZ cG A ad rw q a H → va_S A s.heap H locs → W p l e rmL_act s m #[.ref (ad 0), .int v, .int ei] below meth c H locs 0 0 (MQ below (HQl (sAct a v ei).1 (sAct a v ei).2 (dC, dI) cI cJ cZ cG A ad rw (q + 1)) #[.ref (ad 0), .int v, .int ei] s 4 24 A) (F0 m 100 ls [.int (zact_4 v ei)]) := by
          intro H locs hG hS
          refine lv_istore (lv' := [(6, .int (zact_4 v ei)), (5, .int (zact_3 v ei)), (4, .int (zact_2 v ei)), (3, .int (zact_1 v ei)), (0, .ref (ad 0)), (1, .int v), (2, .int ei)]) hx hb dL_act_100 hl (by decide) rfl (fun ls hl => ?_)
          refine lv_iload_n hx hb dL_act_102 rfl (lv_at hl 3 rfl) ?_
          have J103 : ∀ (H : Heap) (locs : List Loc), HWe (dC, dI) cI cJ cZ cG A ad rw q a H → va_S A s.heap H locs → W p l e rmL_act s m #[.ref (ad 0), .int v, .int ei] below meth c H locs 0 0 (MQ below (HQl (sAct a v ei).1 (sAct a v ei).2 (dC, dI) cI cJ cZ cG A ad rw (q + 1)) #[.ref (ad 0), .int v, .int ei] s 4 24 A) (F0 m 128 ls [.int (zact_5 v ei)]) := by
            intro H locs hG hS
            refine lv_istore (lv' := [(7, .int (zact_5 v ei)), (6, .int (zact_4 v ei)), (5, .int (zact_3 v ei)), (4, .int (zact_2 v ei)), (3, .int (zact_1 v ei)), (0, .ref (ad 0)), (1, .int v), (2, .int ei)]) hx hb dL_act_128 hl (by decide) rfl (fun ls hl => ?_)
            refine lv_iload_n hx hb dL_act_130 rfl (lv_at hl 4 rfl) ?_
            have J131 : ∀ (H : Heap) (locs : List Loc), HWe (dC, dI) cI cJ cZ cG A ad rw q a H → va_S A s.heap H locs → W p l e rmL_act s m #[.ref (ad 0), .int v, .int ei] below meth c H locs 0 0 (MQ below (HQl (sAct a v ei).1 (sAct a v ei).2 (dC, dI) cI cJ cZ cG A ad rw (q + 1)) #[.ref (ad 0), .int v, .int ei] s 4 24 A) (F0 m 152 ls [.int (zact_6 v ei)]) := by
              intro H locs hG hS
              refine lv_istore (lv' := [(8, .int (zact_6 v ei)), (7, .int (zact_5 v ei)), (6, .int (zact_4 v ei)), (5, .int (zact_3 v ei)), (4, .int (zact_2 v ei)), (3, .int (zact_1 v ei)), (0, .ref (ad 0)), (1, .int v), (2, .int ei)]) hx hb dL_act_152 hl (by decide) rfl (fun ls hl => ?_)
              refine lv_iload_n hx hb dL_act_154 rfl (lv_at hl 7 rfl) ?_
              refine lv_bipush (v := 34) hx hb dL_act_155 (by decide) ?_
              refine h_callP (cells := 0) (slots := 0) (As := [.int v, .int 34]) (rest := []) ⟨hx, hb, hml, hown, hts⟩ (oL_low l dC dI cI cJ cZ cG H.size v 34 _ (low_ok v 34 (by decide))) (va_cwS 2 hts gL_act_L_low rfl rfl rfl (by decide +kernel) ⟨Nat.le_of_ble_eq_true rfl, Nat.le_of_ble_eq_true rfl⟩) hK hS hA rfl hl.1 rfl (Nat.le_of_ble_eq_true rfl) dL_act_157 ⟨Nat.zero_le _, Nat.zero_le _⟩ (fun H locs hz9 hk9 hS => ?_)
              replace hG := h_keep hG hk9
              obtain ⟨k, hk, ek⟩ := lw_ix v (n := 34) (by decide) (by decide)
              have ek : (lw v 34) = nI k := ek
              match k, hk, ek with
              | 0, _, ek => refine lv_tableIn (off := 144) (tgt := 304) hx hb dL_act_160 (by rw [ek]; decide) (by rw [ek]; decide) (by rw [ek]; rfl) (by decide) ?_; exact act_304 E hq hG hS hl (by unfold sAct; rw [ek]; rfl)
              | 1, _, ek => refine lv_tableIn (off := 144) (tgt := 304) hx hb dL_act_160 (by rw [ek]; decide) (by rw [ek]; decide) (by rw [ek]; rfl) (by decide) ?_; exact act_304 E hq hG hS hl (by unfold sAct; rw [ek]; rfl)
              | 2, _, ek => refine lv_tableIn (off := 144) (tgt := 304) hx hb dL_act_160 (by rw [ek]; decide) (by rw [ek]; decide) (by rw [ek]; rfl) (by decide) ?_; exact act_304 E hq hG hS hl (by unfold sAct; rw [ek]; rfl)
              | 3, _, ek => refine lv_tableIn (off := 169) (tgt := 329) hx hb dL_act_160 (by rw [ek]; decide) (by rw [ek]; decide) (by rw [ek]; rfl) (by decide) ?_; exact act_329 E hq hG hS hl (by unfold sAct; rw [ek]; rfl)
              | 4, _, ek => refine lv_tableIn (off := 194) (tgt := 354) hx hb dL_act_160 (by rw [ek]; decide) (by rw [ek]; decide) (by rw [ek]; rfl) (by decide) ?_; exact act_354 E hq hG hS hl (by unfold sAct; rw [ek]; rfl)
              | 5, _, ek => refine lv_tableIn (off := 194) (tgt := 354) hx hb dL_act_160 (by rw [ek]; decide) (by rw [ek]; decide) (by rw [ek]; rfl) (by decide) ?_; exact act_354 E hq hG hS hl (by unfold sAct; rw [ek]; rfl)
              | 6, _, ek => refine lv_tableIn (off := 194) (tgt := 354) hx hb dL_act_160 (by rw [ek]; decide) (by rw [ek]; decide) (by rw [ek]; rfl) (by decide) ?_; exact act_354 E hq hG hS hl (by unfold sAct; rw [ek]; rfl)
              | 7, _, ek => refine lv_tableIn (off := 194) (tgt := 354) hx hb dL_act_160 (by rw [ek]; decide) (by rw [ek]; decide) (by rw [ek]; rfl) (by decide) ?_; exact act_354 E hq hG hS hl (by unfold sAct; rw [ek]; rfl)
              | 8, _, ek => refine lv_tableIn (off := 205) (tgt := 365) hx hb dL_act_160 (by rw [ek]; decide) (by rw [ek]; decide) (by rw [ek]; rfl) (by decide) ?_; exact act_365 E hq hG hS hl (by unfold sAct; rw [ek]; rfl)
              | 9, _, ek => refine lv_tableIn (off := 229) (tgt := 389) hx hb dL_act_160 (by rw [ek]; decide) (by rw [ek]; decide) (by rw [ek]; rfl) (by decide) ?_; exact act_389 E hq hG hS hl (by unfold sAct; rw [ek]; rfl)
              | 10, _, ek => refine lv_tableIn (off := 229) (tgt := 389) hx hb dL_act_160 (by rw [ek]; decide) (by rw [ek]; decide) (by rw [ek]; rfl) (by decide) ?_; exact act_389 E hq hG hS hl (by unfold sAct; rw [ek]; rfl)
              | 11, _, ek => refine lv_tableIn (off := 229) (tgt := 389) hx hb dL_act_160 (by rw [ek]; decide) (by rw [ek]; decide) (by rw [ek]; rfl) (by decide) ?_; exact act_389 E hq hG hS hl (by unfold sAct; rw [ek]; rfl)
              | 12, _, ek => refine lv_tableIn (off := 229) (tgt := 389) hx hb dL_act_160 (by rw [ek]; decide) (by rw [ek]; decide) (by rw [ek]; rfl) (by decide) ?_; exact act_389 E hq hG hS hl (by unfold sAct; rw [ek]; rfl)
              | 13, _, ek => refine lv_tableIn (off := 229) (tgt := 389) hx hb dL_act_160 (by rw [ek]; decide) (by rw [ek]; decide) (by rw [ek]; rfl) (by decide) ?_; exact act_389 E hq hG hS hl (by unfold sAct; rw [ek]; rfl)
              | 14, _, ek => refine lv_tableIn (off := 240) (tgt := 400) hx hb dL_act_160 (by rw [ek]; decide) (by rw [ek]; decide) (by rw [ek]; rfl) (by decide) ?_; exact act_400 E hq hG hS hl (by unfold sAct; rw [ek]; rfl)
              | 15, _, ek => refine lv_tableIn (off := 240) (tgt := 400) hx hb dL_act_160 (by rw [ek]; decide) (by rw [ek]; decide) (by rw [ek]; rfl) (by decide) ?_; exact act_400 E hq hG hS hl (by unfold sAct; rw [ek]; rfl)
              | 16, _, ek => refine lv_tableIn (off := 240) (tgt := 400) hx hb dL_act_160 (by rw [ek]; decide) (by rw [ek]; decide) (by rw [ek]; rfl) (by decide) ?_; exact act_400 E hq hG hS hl (by unfold sAct; rw [ek]; rfl)
              | 17, _, ek => refine lv_tableIn (off := 245) (tgt := 405) hx hb dL_act_160 (by rw [ek]; decide) (by rw [ek]; decide) (by rw [ek]; rfl) (by decide) ?_; exact act_405 E hq hG hS hl (by unfold sAct; rw [ek]; rfl)
              | 18, _, ek => refine lv_tableIn (off := 299) (tgt := 459) hx hb dL_act_160 (by rw [ek]; decide) (by rw [ek]; decide) (by rw [ek]; rfl) (by decide) ?_; exact act_459 E hq hG hS hl (by unfold sAct; rw [ek]; rfl)
              | 19, _, ek => refine lv_tableIn (off := 299) (tgt := 459) hx hb dL_act_160 (by rw [ek]; decide) (by rw [ek]; decide) (by rw [ek]; rfl) (by decide) ?_; exact act_459 E hq hG hS hl (by unfold sAct; rw [ek]; rfl)
              | 20, _, ek => refine lv_tableIn (off := 308) (tgt := 468) hx hb dL_act_160 (by rw [ek]; decide) (by rw [ek]; decide) (by rw [ek]; rfl) (by decide) ?_; exact act_468 E hq hG hS hl (by unfold sAct; rw [ek]; rfl)
              | 21, _, ek => refine lv_tableIn (off := 336) (tgt := 496) hx hb dL_act_160 (by rw [ek]; decide) (by rw [ek]; decide) (by rw [ek]; rfl) (by decide) ?_; exact act_496 E hq hG hS hl (by unfold sAct; rw [ek]; rfl)
              | 22, _, ek => refine lv_tableIn (off := 395) (tgt := 555) hx hb dL_act_160 (by rw [ek]; decide) (by rw [ek]; decide) (by rw [ek]; rfl) (by decide) ?_; exact act_555 E hq hG hS hl (by unfold sAct; rw [ek]; rfl)
              | 23, _, ek => refine lv_tableIn (off := 395) (tgt := 555) hx hb dL_act_160 (by rw [ek]; decide) (by rw [ek]; decide) (by rw [ek]; rfl) (by decide) ?_; exact act_555 E hq hG hS hl (by unfold sAct; rw [ek]; rfl)
              | 24, _, ek => refine lv_tableIn (off := 395) (tgt := 555) hx hb dL_act_160 (by rw [ek]; decide) (by rw [ek]; decide) (by rw [ek]; rfl) (by decide) ?_; exact act_555 E hq hG hS hl (by unfold sAct; rw [ek]; rfl)
              | 25, _, ek => refine lv_tableIn (off := 417) (tgt := 577) hx hb dL_act_160 (by rw [ek]; decide) (by rw [ek]; decide) (by rw [ek]; rfl) (by decide) ?_; exact act_577 E hq hG hS hl (by unfold sAct; rw [ek]; rfl)
              | 26, _, ek => refine lv_tableIn (off := 439) (tgt := 599) hx hb dL_act_160 (by rw [ek]; decide) (by rw [ek]; decide) (by rw [ek]; rfl) (by decide) ?_; exact act_599 E hq hG hS hl (by unfold sAct; rw [ek]; rfl)
              | 27, _, ek => refine lv_tableIn (off := 439) (tgt := 599) hx hb dL_act_160 (by rw [ek]; decide) (by rw [ek]; decide) (by rw [ek]; rfl) (by decide) ?_; exact act_599 E hq hG hS hl (by unfold sAct; rw [ek]; rfl)
              | 28, _, ek => refine lv_tableIn (off := 450) (tgt := 610) hx hb dL_act_160 (by rw [ek]; decide) (by rw [ek]; decide) (by rw [ek]; rfl) (by decide) ?_; exact act_610 E hq hG hS hl (by unfold sAct; rw [ek]; rfl)
              | 29, _, ek => refine lv_tableIn (off := 473) (tgt := 633) hx hb dL_act_160 (by rw [ek]; decide) (by rw [ek]; decide) (by rw [ek]; rfl) (by decide) ?_; exact act_633 E hq hG hS hl (by unfold sAct; rw [ek]; rfl)
              | 30, _, ek => refine lv_tableIn (off := 514) (tgt := 674) hx hb dL_act_160 (by rw [ek]; decide) (by rw [ek]; decide) (by rw [ek]; rfl) (by decide) ?_; exact act_674 E hq hG hS hl (by unfold sAct; rw [ek]; rfl)
              | 31, _, ek => refine lv_tableIn (off := 539) (tgt := 699) hx hb dL_act_160 (by rw [ek]; decide) (by rw [ek]; decide) (by rw [ek]; rfl) (by decide) ?_; exact act_699 E hq hG hS hl (by unfold sAct; rw [ek]; rfl)
              | 32, _, ek => refine lv_tableOut (tgt := 708) hx hb dL_act_160 (by rw [ek]; decide) (by decide) ?_; exact act_708 E hq hG hS hl (by unfold sAct; rw [ek]; rfl)
              | 33, _, ek => refine lv_tableOut (tgt := 708) hx hb dL_act_160 (by rw [ek]; decide) (by decide) ?_; exact act_708 E hq hG hS hl (by unfold sAct; rw [ek]; rfl)
              | k + 34, hk, _ => exact absurd hk (by omega)
            refine lv_if_eq (tgt := 141) hx hb dL_act_131 (by decide) (fun c_131 => ?_) (fun c_131 => ?_)
            · refine lv_iconst (v := 1) hx hb dL_act_141 (by decide) ?_
              refine lv_iload_n hx hb dL_act_142 rfl (lv_at hl 6 rfl) ?_
              refine lv_bipush (v := 9) hx hb dL_act_143 (by decide) ?_
              refine lv_ishr hx hb dL_act_145 ?_
              refine lv_bipush (v := 9) hx hb dL_act_146 (by decide) ?_
              refine h_callP (cells := 0) (slots := 0) (As := [.int (v >>> ((9 : Int32) &&& 31)), .int 9]) (rest := [.int 1]) ⟨hx, hb, hml, hown, hts⟩ (oL_low l dC dI cI cJ cZ cG H.size (v >>> ((9 : Int32) &&& 31)) 9 _ (low_ok (v >>> ((9 : Int32) &&& 31)) 9 (by decide))) (va_cwS 2 hts gL_act_L_low rfl rfl rfl (by decide +kernel) ⟨Nat.le_of_ble_eq_true rfl, Nat.le_of_ble_eq_true rfl⟩) hK hS hA rfl hl.1 rfl (Nat.le_of_ble_eq_true rfl) dL_act_148 ⟨Nat.zero_le _, Nat.zero_le _⟩ (fun H locs hz9 hk9 hS => ?_)
              replace hG := h_keep hG hk9
              refine lv_iadd hx hb dL_act_151 ?_
              exact w_eqi (show (zact_6 v ei) = _ from if_pos c_131) (J131 H locs hG hS)
            · refine lv_iload_n hx hb dL_act_134 rfl (lv_at hl 6 rfl) ?_
              refine lv_bipush (v := 9) hx hb dL_act_135 (by decide) ?_
              refine lv_ishr hx hb dL_act_137 ?_
              refine lv_goto (tgt := 152) hx hb dL_act_138 (by decide) ?_
              exact w_eqi (show (zact_6 v ei) = _ from if_neg c_131) (J131 H locs hG hS)
          refine lv_if_eq (tgt := 120) hx hb dL_act_103 (by decide) (fun c_103 => ?_) (fun c_103 => ?_)
          · refine lv_iload_n hx hb dL_act_120 rfl (lv_at hl 5 rfl) ?_
            refine lv_bipush (v := 14) hx hb dL_act_121 (by decide) ?_
            refine lv_ishr hx hb dL_act_123 ?_
            refine lv_iconst (v := 5) hx hb dL_act_124 (by decide) ?_
            refine h_callP (cells := 0) (slots := 0) (As := [.int (v >>> ((14 : Int32) &&& 31)), .int 5]) (rest := []) ⟨hx, hb, hml, hown, hts⟩ (oL_low l dC dI cI cJ cZ cG H.size (v >>> ((14 : Int32) &&& 31)) 5 _ (low_ok (v >>> ((14 : Int32) &&& 31)) 5 (by decide))) (va_cwS 2 hts gL_act_L_low rfl rfl rfl (by decide +kernel) ⟨Nat.le_of_ble_eq_true rfl, Nat.le_of_ble_eq_true rfl⟩) hK hS hA rfl hl.1 rfl (Nat.le_of_ble_eq_true rfl) dL_act_125 ⟨Nat.zero_le _, Nat.zero_le _⟩ (fun H locs hz9 hk9 hS => ?_)
            replace hG := h_keep hG hk9
            exact w_eqi (show (zact_5 v ei) = _ from if_pos c_103) (J103 H locs hG hS)
          · refine lv_iload_n hx hb dL_act_106 rfl (lv_at hl 5 rfl) ?_
            refine lv_bipush (v := 14) hx hb dL_act_107 (by decide) ?_
            refine lv_ishr hx hb dL_act_109 ?_
            refine lv_bipush (v := 24) hx hb dL_act_110 (by decide) ?_
            refine h_callP (cells := 0) (slots := 0) (As := [.int (v >>> ((14 : Int32) &&& 31)), .int 24]) (rest := []) ⟨hx, hb, hml, hown, hts⟩ (oL_low l dC dI cI cJ cZ cG H.size (v >>> ((14 : Int32) &&& 31)) 24 _ (low_ok (v >>> ((14 : Int32) &&& 31)) 24 (by decide))) (va_cwS 2 hts gL_act_L_low rfl rfl rfl (by decide +kernel) ⟨Nat.le_of_ble_eq_true rfl, Nat.le_of_ble_eq_true rfl⟩) hK hS hA rfl hl.1 rfl (Nat.le_of_ble_eq_true rfl) dL_act_112 ⟨Nat.zero_le _, Nat.zero_le _⟩ (fun H locs hz9 hk9 hS => ?_)
            replace hG := h_keep hG hk9
            refine lv_iconst (v := 2) hx hb dL_act_115 (by decide) ?_
            refine lv_isub hx hb dL_act_116 ?_
            refine lv_goto (tgt := 128) hx hb dL_act_117 (by decide) ?_
            exact w_eqi (show (zact_5 v ei) = _ from if_neg c_103) (J103 H locs hG hS)
        refine lv_if_eq (tgt := 92) hx hb dL_act_75 (by decide) (fun c_75 => ?_) (fun c_75 => ?_)
        · refine lv_iload_n hx hb dL_act_92 rfl (lv_at hl 4 rfl) ?_
          refine lv_bipush (v := 11) hx hb dL_act_93 (by decide) ?_
          refine lv_ishr hx hb dL_act_95 ?_
          refine lv_iconst (v := 5) hx hb dL_act_96 (by decide) ?_
          refine h_callP (cells := 0) (slots := 0) (As := [.int (v >>> ((11 : Int32) &&& 31)), .int 5]) (rest := []) ⟨hx, hb, hml, hown, hts⟩ (oL_low l dC dI cI cJ cZ cG H.size (v >>> ((11 : Int32) &&& 31)) 5 _ (low_ok (v >>> ((11 : Int32) &&& 31)) 5 (by decide))) (va_cwS 2 hts gL_act_L_low rfl rfl rfl (by decide +kernel) ⟨Nat.le_of_ble_eq_true rfl, Nat.le_of_ble_eq_true rfl⟩) hK hS hA rfl hl.1 rfl (Nat.le_of_ble_eq_true rfl) dL_act_97 ⟨Nat.zero_le _, Nat.zero_le _⟩ (fun H locs hz9 hk9 hS => ?_)
          replace hG := h_keep hG hk9
          exact w_eqi (show (zact_4 v ei) = _ from if_pos c_75) (J75 H locs hG hS)
        · refine lv_iload_n hx hb dL_act_78 rfl (lv_at hl 4 rfl) ?_
          refine lv_bipush (v := 11) hx hb dL_act_79 (by decide) ?_
          refine lv_ishr hx hb dL_act_81 ?_
          refine lv_bipush (v := 24) hx hb dL_act_82 (by decide) ?_
          refine h_callP (cells := 0) (slots := 0) (As := [.int (v >>> ((11 : Int32) &&& 31)), .int 24]) (rest := []) ⟨hx, hb, hml, hown, hts⟩ (oL_low l dC dI cI cJ cZ cG H.size (v >>> ((11 : Int32) &&& 31)) 24 _ (low_ok (v >>> ((11 : Int32) &&& 31)) 24 (by decide))) (va_cwS 2 hts gL_act_L_low rfl rfl rfl (by decide +kernel) ⟨Nat.le_of_ble_eq_true rfl, Nat.le_of_ble_eq_true rfl⟩) hK hS hA rfl hl.1 rfl (Nat.le_of_ble_eq_true rfl) dL_act_84 ⟨Nat.zero_le _, Nat.zero_le _⟩ (fun H locs hz9 hk9 hS => ?_)
          replace hG := h_keep hG hk9
          refine lv_iconst (v := 2) hx hb dL_act_87 (by decide) ?_
          refine lv_isub hx hb dL_act_88 ?_
          refine lv_goto (tgt := 100) hx hb dL_act_89 (by decide) ?_
          exact w_eqi (show (zact_4 v ei) = _ from if_neg c_75) (J75 H locs hG hS)
      refine lv_if_eq (tgt := 63) hx hb dL_act_46 (by decide) (fun c_46 => ?_) (fun c_46 => ?_)
      · refine lv_iload_n hx hb dL_act_63 rfl (lv_at hl 3 rfl) ?_
        refine lv_bipush (v := 8) hx hb dL_act_64 (by decide) ?_
        refine lv_ishr hx hb dL_act_66 ?_
        refine lv_bipush (v := 6) hx hb dL_act_67 (by decide) ?_
        refine h_callP (cells := 0) (slots := 0) (As := [.int (v >>> ((8 : Int32) &&& 31)), .int 6]) (rest := []) ⟨hx, hb, hml, hown, hts⟩ (oL_low l dC dI cI cJ cZ cG H.size (v >>> ((8 : Int32) &&& 31)) 6 _ (low_ok (v >>> ((8 : Int32) &&& 31)) 6 (by decide))) (va_cwS 2 hts gL_act_L_low rfl rfl rfl (by decide +kernel) ⟨Nat.le_of_ble_eq_true rfl, Nat.le_of_ble_eq_true rfl⟩) hK hS hA rfl hl.1 rfl (Nat.le_of_ble_eq_true rfl) dL_act_69 ⟨Nat.zero_le _, Nat.zero_le _⟩ (fun H locs hz9 hk9 hS => ?_)
        replace hG := h_keep hG hk9
        exact w_eqi (show (zact_3 v ei) = _ from if_pos c_46) (J46 H locs hG hS)
      · refine lv_iload_n hx hb dL_act_49 rfl (lv_at hl 3 rfl) ?_
        refine lv_bipush (v := 8) hx hb dL_act_50 (by decide) ?_
        refine lv_ishr hx hb dL_act_52 ?_
        refine lv_bipush (v := 9) hx hb dL_act_53 (by decide) ?_
        refine h_callP (cells := 0) (slots := 0) (As := [.int (v >>> ((8 : Int32) &&& 31)), .int 9]) (rest := []) ⟨hx, hb, hml, hown, hts⟩ (oL_low l dC dI cI cJ cZ cG H.size (v >>> ((8 : Int32) &&& 31)) 9 _ (low_ok (v >>> ((8 : Int32) &&& 31)) 9 (by decide))) (va_cwS 2 hts gL_act_L_low rfl rfl rfl (by decide +kernel) ⟨Nat.le_of_ble_eq_true rfl, Nat.le_of_ble_eq_true rfl⟩) hK hS hA rfl hl.1 rfl (Nat.le_of_ble_eq_true rfl) dL_act_55 ⟨Nat.zero_le _, Nat.zero_le _⟩ (fun H locs hz9 hk9 hS => ?_)
        replace hG := h_keep hG hk9
        refine lv_iconst (v := 1) hx hb dL_act_58 (by decide) ?_
        refine lv_isub hx hb dL_act_59 ?_
        refine lv_goto (tgt := 72) hx hb dL_act_60 (by decide) ?_
        exact w_eqi (show (zact_3 v ei) = _ from if_neg c_46) (J46 H locs hG hS)
    refine lv_if_eq (tgt := 35) hx hb dL_act_19 (by decide) (fun c_19 => ?_) (fun c_19 => ?_)
    · refine lv_iload_n hx hb dL_act_35 rfl (lv_at hl 2 rfl) ?_
      refine lv_iconst (v := 5) hx hb dL_act_36 (by decide) ?_
      refine lv_ishr hx hb dL_act_37 ?_
      refine lv_bipush (v := 6) hx hb dL_act_38 (by decide) ?_
      refine h_callP (cells := 0) (slots := 0) (As := [.int (v >>> ((5 : Int32) &&& 31)), .int 6]) (rest := []) ⟨hx, hb, hml, hown, hts⟩ (oL_low l dC dI cI cJ cZ cG H.size (v >>> ((5 : Int32) &&& 31)) 6 _ (low_ok (v >>> ((5 : Int32) &&& 31)) 6 (by decide))) (va_cwS 2 hts gL_act_L_low rfl rfl rfl (by decide +kernel) ⟨Nat.le_of_ble_eq_true rfl, Nat.le_of_ble_eq_true rfl⟩) hK hS hA rfl hl.1 rfl (Nat.le_of_ble_eq_true rfl) dL_act_40 ⟨Nat.zero_le _, Nat.zero_le _⟩ (fun H locs hz9 hk9 hS => ?_)
      replace hG := h_keep hG hk9
      exact w_eqi (show (zact_2 v ei) = _ from if_pos c_19) (J19 H locs hG hS)
    · refine lv_iload_n hx hb dL_act_22 rfl (lv_at hl 2 rfl) ?_
      refine lv_iconst (v := 5) hx hb dL_act_23 (by decide) ?_
      refine lv_ishr hx hb dL_act_24 ?_
      refine lv_bipush (v := 9) hx hb dL_act_25 (by decide) ?_
      refine h_callP (cells := 0) (slots := 0) (As := [.int (v >>> ((5 : Int32) &&& 31)), .int 9]) (rest := []) ⟨hx, hb, hml, hown, hts⟩ (oL_low l dC dI cI cJ cZ cG H.size (v >>> ((5 : Int32) &&& 31)) 9 _ (low_ok (v >>> ((5 : Int32) &&& 31)) 9 (by decide))) (va_cwS 2 hts gL_act_L_low rfl rfl rfl (by decide +kernel) ⟨Nat.le_of_ble_eq_true rfl, Nat.le_of_ble_eq_true rfl⟩) hK hS hA rfl hl.1 rfl (Nat.le_of_ble_eq_true rfl) dL_act_27 ⟨Nat.zero_le _, Nat.zero_le _⟩ (fun H locs hz9 hk9 hS => ?_)
      replace hG := h_keep hG hk9
      refine lv_iconst (v := 1) hx hb dL_act_30 (by decide) ?_
      refine lv_isub hx hb dL_act_31 ?_
      refine lv_goto (tgt := 43) hx hb dL_act_32 (by decide) ?_
      exact w_eqi (show (zact_2 v ei) = _ from if_neg c_19) (J19 H locs hG hS)
  refine lv_if_ne (tgt := 16) hx hb dL_act_9 (by decide) (fun c_9 => ?_) (fun c_9 => ?_)
  · refine lv_iconst (v := 0) hx hb dL_act_16 (by decide) ?_
    exact w_eqi (show (zact_1 v ei) = _ from if_neg c_9) (J9 H locs hG hS)
  · refine lv_iconst (v := 1) hx hb dL_act_12 (by decide) ?_
    refine lv_goto (tgt := 17) hx hb dL_act_13 (by decide) ?_
    exact w_eqi (show (zact_1 v ei) = _ from if_pos c_9) (J9 H locs hG hS)
