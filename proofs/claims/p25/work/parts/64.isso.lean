/-! printed by isso25.py: isSo -/
abbrev rmL_isSo : Room := { frames := 83, cells := 200, slots := 1200, locals := 2868 }
theorem mL_isSo_0 : (Cond.constantLong RL 16 (-9000000000000000)) ∈ wsL_isSo := by decide +kernel
def psum (f : Nat → Int32) : Nat → Int32
  | 0 => 0
  | k + 1 => psum f k + f k
set_option maxHeartbeats 4000000 in
set_option maxRecDepth 100000 in
theorem is_loop2 {p : Program} {l : Launch} {e : Env} {s : State} {m : MethodId} {args : Array Value} {below : List Frame} {meth : Method} {c : Code} {dC : Nat → ClassId} {dI : Nat → Nat → Nat} {cI cJ cZ cG : ClassId} {A : Nat → Prop} {ad : Nat → Nat} {rw : Nat → Nat → Nat} {q : Nat} {a : AT} {v : Int32} {σ : CT} {B P : Nat} {lo hi : Int32} (hx : p.tables.exec = Jvm.exec) (hb : c.code = cL_isSo) (hr : meth.sig.returnType = some .boolean) (hml : c.maxLocals = 10) (hown : s.vm.findClass RL = some m.cls) (hts : ∀ w ∈ wsL_isSo, w.before args s = true) (hlocks : meth.locks = false) (hlt : l.stackTraces = false) (hK : va_K (dC, dI) vwCl (tysW cI cJ cZ cG) s) (hT : wThr A s) (hN : wNcs s) (hA : ∀ x : Nat, s.heap.size ≤ x → A x) (hR : Rel q a σ) (hq : q ≤ 512) {M : Nat} {ring : Nat → Int32} {a1 : AT} (hm1 : M ≠ 1) (hm6 : M ≤ 6) (hrn : ∀ P, P < M → 0 ≤ ring P) (hring : ∀ P, P < 6 → rRing a (nI P) = some (if M ≤ P then -1 else ring P, a)) (hsw : rSwap a = some (nI M, a1)) : ∀ (r k : Nat) (H : Heap) (locs : List Loc) (ls : Array Slot) (cells slots : Nat), k + r = 6 → cells ≤ 51 + 1 * k → slots ≤ 306 + 6 * k → HWe (dC, dI) cI cJ cZ cG A ad rw q a H → va_S A s.heap H locs → lv_has ls 10 [(9, .int (nI k)), (8, .int (nI (min k M))), (3, .int 1), (7, .int hi), (6, .int lo), (5, .int (nI P)), (2, .int (psum (a.2 6) 6)), (4, .int (nI B)), (0, .ref (ad 0)), (1, .int v)] → W p l e rmL_isSo s m args below meth c H locs cells slots (MQ below (va_Qi (fun (r : Int32) (_ : Unit) => r = 1) (fun _ _ => True) A) args s 200 1200 A) (F0 m 204 ls []) := by
  intro r
  induction r with
  | zero =>
    intro k H locs ls cells slots hk hc1 hc2 hG hS hl
    have hk6 : k = 6 := by omega
    subst hk6
    have hMm : min 6 M = M := by omega
    rw [hMm] at hl
    refine lv_iload hx hb dL_isSo_204 (lv_at hl 0 rfl) ?_
    refine lv_bipush (v := 6) hx hb dL_isSo_206 (by decide) ?_
    refine lv_icmp_ge (tgt := 236) hx hb dL_isSo_208 (by decide) (fun c_208 => ?_) (fun c_208 => absurd (by decide) c_208)
    refine lv_iload_n hx hb dL_isSo_236 rfl (lv_at hl 2 rfl) ?_
    refine lv_if_eq (tgt := 292) hx hb dL_isSo_237 (by decide) (fun c_237 => absurd c_237 (by decide)) (fun c_237 => ?_)
    refine lv_iload_n hx hb dL_isSo_240 rfl (lv_at hl 6 rfl) ?_
    refine lv_sipush (v := 6000) hx hb dL_isSo_241 (by decide) ?_
    refine lv_icmp_ne (tgt := 292) hx hb dL_isSo_244 (by decide) (fun c_244 => absurd (f_sum hR) c_244) (fun c_244 => ?_)
    refine lv_iload hx hb dL_isSo_247 (lv_at hl 1 rfl) ?_
    refine lv_iconst (v := 1) hx hb dL_isSo_249 (by decide) ?_
    refine lv_icmp_eq (tgt := 292) hx hb dL_isSo_250 (by decide) (fun c_250 => absurd ((nI_eq (b := 1) (by omega) (by omega)).mp c_250) hm1) (fun c_250 => ?_)
    refine lv_aload_n hx hb dL_isSo_253 rfl (lv_at hl 8 rfl) ?_
    refine h_callMi (ad := ad) (rw := rw) (As := []) (rest := []) ⟨hx, hb, hml, hown, hts⟩ (a_swap l dC dI cI cJ cZ cG ad rw q a H.size) (cwV 0 hts gL_isSo_X8_swap rfl rfl rfl (by decide +kernel) ⟨Nat.le_of_ble_eq_true rfl, Nat.le_of_ble_eq_true rfl⟩) hK Foc.one hG hS hA hT rfl hl.1 rfl (Nat.le_of_ble_eq_true rfl) dL_isSo_254 ⟨by show cells + 0 ≤ 200; omega, by show slots + 0 ≤ 1200; omega⟩ (fun r9 a9 H locs hr9 hG hS => ?_)
    cases (hsw).symm.trans hr9
    replace hG : HWe (dC, dI) cI cJ cZ cG A ad rw q a1 H := hG
    refine lv_iload hx hb dL_isSo_257 (lv_at hl 1 rfl) ?_
    refine lv_icmp_ne (tgt := 292) hx hb dL_isSo_259 (by decide) (fun c_259 => absurd rfl c_259) (fun c_259 => ?_)
    refine lv_aload_n hx hb dL_isSo_262 rfl (lv_at hl 8 rfl) ?_
    refine lv_iconst (v := (-1)) hx hb dL_isSo_263 (by decide) ?_
    refine h_callL (As := [.ref (ad 0), .int (-1)]) (rest := []) ⟨hx, hb, hml, hown, hts⟩ (r0 := -9000000000000000) (mc := 1) (ms := 6) (by have h9 := c_offered l hlt dC dI cI cJ cZ cG ad rw q a1 H.size (-1); rw [f_offeredX a1] at h9; exact h9) (vx_cwSW 2 hts gL_isSo_L_offered rfl rfl rfl (by decide +kernel) ⟨Nat.le_of_ble_eq_true rfl, Nat.le_of_ble_eq_true rfl⟩) hK Foc.one hG hS hA hT hN rfl hl.1 rfl (Nat.le_of_ble_eq_true rfl) dL_isSo_264 ⟨by show cells + 0 + 1 ≤ 200; omega, by show slots + 0 + 6 ≤ 1200; omega⟩ (fun H locs hG hS => ?_)
    replace hG : HWe (dC, dI) cI cJ cZ cG A ad rw q a1 H := hG
    refine lv_ldc2 (v := (-9000000000000000)) hx hb hown (hts _ mL_isSo_0) dL_isSo_267 ?_
    refine W.lcmp hx hb dL_isSo_270 ?_
    refine lv_if_ne (tgt := 292) hx hb dL_isSo_271 (by decide) (fun c_271 => absurd (lg_cmp0 _) c_271) (fun c_271 => ?_)
    refine lv_aload_n hx hb dL_isSo_274 rfl (lv_at hl 8 rfl) ?_
    refine lv_iconst (v := 0) hx hb dL_isSo_275 (by decide) ?_
    refine lv_bipush (v := 64) hx hb dL_isSo_276 (by decide) ?_
    refine h_callL (As := [.ref (ad 0), .int 0, .int 64]) (rest := []) ⟨hx, hb, hml, hown, hts⟩ (r0 := -9000000000000000) (mc := 2) (ms := 12) (by have h9 := c_pair l hlt dC dI cI cJ cZ cG ad rw q a1 H.size 0 64; rw [f_pairX a1] at h9; exact h9) (vx_cwSW 3 hts gL_isSo_L_pair rfl rfl rfl (by decide +kernel) ⟨Nat.le_of_ble_eq_true rfl, Nat.le_of_ble_eq_true rfl⟩) hK Foc.one hG hS hA hT hN rfl hl.1 rfl (Nat.le_of_ble_eq_true rfl) dL_isSo_278 ⟨by show cells + 0 + 1 + 2 ≤ 200; omega, by show slots + 0 + 6 + 12 ≤ 1200; omega⟩ (fun H locs hG hS => ?_)
    replace hG : HWe (dC, dI) cI cJ cZ cG A ad rw q a1 H := hG
    refine lv_ldc2 (v := (-9000000000000000)) hx hb hown (hts _ mL_isSo_0) dL_isSo_281 ?_
    refine W.lcmp hx hb dL_isSo_284 ?_
    refine lv_if_ne (tgt := 292) hx hb dL_isSo_285 (by decide) (fun c_285 => absurd (lg_cmp0 _) c_285) (fun c_285 => ?_)
    refine lv_iconst (v := 1) hx hb dL_isSo_288 (by decide) ?_
    refine lv_goto (tgt := 293) hx hb dL_isSo_289 (by decide) ?_
    refine W.widen (k := 200) (n := 1200) (by omega) (by omega) ?_
    exact W.zret (v := 1) hx hb hr rfl (fun t ht hW => ⟨⟨1, (), rfl, rfl, trivial⟩, hS.F ht⟩) hS.2.2 dL_isSo_293 hlocks
  | succ r ih =>
    intro k H locs ls cells slots hk hc1 hc2 hG hS hl
    have hk6 : k < 6 := by omega
    refine lv_iload hx hb dL_isSo_204 (lv_at hl 0 rfl) ?_
    refine lv_bipush (v := 6) hx hb dL_isSo_206 (by decide) ?_
    refine lv_icmp_ge (tgt := 236) hx hb dL_isSo_208 (by decide) (fun c_208 => absurd c_208 (nnle (a := 6) hk6 (by omega))) (fun c_208 => ?_)
    refine lv_iload hx hb dL_isSo_211 (lv_at hl 1 rfl) ?_
    refine lv_aload_n hx hb dL_isSo_213 rfl (lv_at hl 8 rfl) ?_
    refine lv_iload hx hb dL_isSo_214 (lv_at hl 0 rfl) ?_
    refine h_callXo (ad := ad) (rw := rw) (As := [.int (nI k)]) (rest := [.int (nI (min k M))]) ⟨hx, hb, hml, hown, hts⟩ (a_ring l hlt dC dI cI cJ cZ cG ad rw q a H.size (nI k) ) (hring k hk6) (cwV 1 hts gL_isSo_X8_ring rfl rfl rfl (by decide +kernel) ⟨Nat.le_of_ble_eq_true rfl, Nat.le_of_ble_eq_true rfl⟩) hK Foc.one hG hS hA hT rfl hl.1 rfl (Nat.le_of_ble_eq_true rfl) dL_isSo_216 ⟨by show cells + 1 ≤ 200; omega, by show slots + 6 ≤ 1200; omega⟩ (fun H locs hG hS => ?_)
    replace hG : HWe (dC, dI) cI cJ cZ cG A ad rw q a H := hG
    refine lv_if_lt (tgt := 226) hx hb dL_isSo_219 (by decide) (fun c_219 => ?_) (fun c_219 => ?_)
    · have hMk : M ≤ k := Nat.le_of_not_lt fun h => absurd c_219 (by rw [if_neg (by omega)]; exact Int32.not_lt.mpr (hrn k h))
      refine lv_iconst (v := 0) hx hb dL_isSo_226 (by decide) ?_
      refine lv_iadd hx hb dL_isSo_227 ?_
      refine w_eqi (show nI (min (k + 1) M) = nI (min k M) + 0 from by rw [show min (k + 1) M = min k M by omega]; exact (Int32.add_zero _).symm) ?_
      refine lv_istore (lv' := [(8, .int (nI (min (k + 1) M))), (9, .int (nI k)), (3, .int 1), (7, .int hi), (6, .int lo), (5, .int (nI P)), (2, .int (psum (a.2 6) 6)), (4, .int (nI B)), (0, .ref (ad 0)), (1, .int v)]) hx hb dL_isSo_228 hl (by decide) rfl (fun ls hl => ?_)
      refine lv_iinc (v := nI (k + 1)) (lv' := [(9, .int (nI (k + 1))), (8, .int (nI (min (k + 1) M))), (3, .int 1), (7, .int hi), (6, .int lo), (5, .int (nI P)), (2, .int (psum (a.2 6) 6)), (4, .int (nI B)), (0, .ref (ad 0)), (1, .int v)]) hx hb dL_isSo_230 hl (k := 1) rfl (by rw [← nI_1]; rfl) (by decide) rfl (fun ls hl => ?_)
      refine lv_goto (tgt := 204) hx hb dL_isSo_233 (by decide) ?_
      exact ih (k + 1) H locs ls _ _ (by omega) (by omega) (by omega) hG hS (lv_sub hl [0, 1, 2, 3, 4, 5, 6, 7, 8, 9] rfl)
    · have hMk : k < M := Nat.lt_of_not_le fun h => c_219 (by rw [if_pos h]; decide)
      refine lv_iconst (v := 1) hx hb dL_isSo_222 (by decide) ?_
      refine lv_goto (tgt := 227) hx hb dL_isSo_223 (by decide) ?_
      refine lv_iadd hx hb dL_isSo_227 ?_
      refine w_eqi (show nI (min (k + 1) M) = nI (min k M) + 1 from by rw [nI_1, show min (k + 1) M = min k M + 1 by omega]) ?_
      refine lv_istore (lv' := [(8, .int (nI (min (k + 1) M))), (9, .int (nI k)), (3, .int 1), (7, .int hi), (6, .int lo), (5, .int (nI P)), (2, .int (psum (a.2 6) 6)), (4, .int (nI B)), (0, .ref (ad 0)), (1, .int v)]) hx hb dL_isSo_228 hl (by decide) rfl (fun ls hl => ?_)
      refine lv_iinc (v := nI (k + 1)) (lv' := [(9, .int (nI (k + 1))), (8, .int (nI (min (k + 1) M))), (3, .int 1), (7, .int hi), (6, .int lo), (5, .int (nI P)), (2, .int (psum (a.2 6) 6)), (4, .int (nI B)), (0, .ref (ad 0)), (1, .int v)]) hx hb dL_isSo_230 hl (k := 1) rfl (by rw [← nI_1]; rfl) (by decide) rfl (fun ls hl => ?_)
      refine lv_goto (tgt := 204) hx hb dL_isSo_233 (by decide) ?_
      exact ih (k + 1) H locs ls _ _ (by omega) (by omega) (by omega) hG hS (lv_sub hl [0, 1, 2, 3, 4, 5, 6, 7, 8, 9] rfl)
set_option maxHeartbeats 4000000 in
set_option maxRecDepth 100000 in
theorem is_loop1 {p : Program} {l : Launch} {e : Env} {s : State} {m : MethodId} {args : Array Value} {below : List Frame} {meth : Method} {c : Code} {dC : Nat → ClassId} {dI : Nat → Nat → Nat} {cI cJ cZ cG : ClassId} {A : Nat → Prop} {ad : Nat → Nat} {rw : Nat → Nat → Nat} {q : Nat} {a : AT} {v : Int32} {σ : CT} {B : Nat} (hx : p.tables.exec = Jvm.exec) (hb : c.code = cL_isSo) (hr : meth.sig.returnType = some .boolean) (hml : c.maxLocals = 10) (hown : s.vm.findClass RL = some m.cls) (hts : ∀ w ∈ wsL_isSo, w.before args s = true) (hlocks : meth.locks = false) (hlt : l.stackTraces = false) (hK : va_K (dC, dI) vwCl (tysW cI cJ cZ cG) s) (hT : wThr A s) (hN : wNcs s) (hA : ∀ x : Nat, s.heap.size ≤ x → A x) (hR : Rel q a σ) (hq : q ≤ 512) (hB : B < 64) {M : Nat} {ring : Nat → Int32} {a1 : AT} (hm1 : M ≠ 1) (hm6 : M ≤ 6) (hrn : ∀ P, P < M → 0 ≤ ring P) (hring : ∀ P, P < 6 → rRing a (nI P) = some (if M ≤ P then -1 else ring P, a)) (hsw : rSwap a = some (nI M, a1)) : ∀ (r k : Nat) (H : Heap) (locs : List Loc) (ls : Array Slot) (cells slots : Nat), k + r = 6 → cells ≤ 8 * k → slots ≤ 48 * k → HWe (dC, dI) cI cJ cZ cG A ad rw q a H → va_S A s.heap H locs → lv_has ls 10 [(5, .int (nI k)), (2, .int (psum (a.2 6) k)), (4, .int (nI B)), (3, .int 1), (0, .ref (ad 0)), (1, .int v)] → W p l e rmL_isSo s m args below meth c H locs cells slots (MQ below (va_Qi (fun (r : Int32) (_ : Unit) => r = 1) (fun _ _ => True) A) args s 200 1200 A) (F0 m 15 ls []) := by
  intro r
  induction r with
  | zero =>
    intro k H locs ls cells slots hk hc1 hc2 hG hS hl
    have hk6 : k = 6 := by omega
    subst hk6
    refine lv_iload hx hb dL_isSo_15 (lv_at hl 0 rfl) ?_
    refine lv_bipush (v := 6) hx hb dL_isSo_17 (by decide) ?_
    refine lv_icmp_ge (tgt := 120) hx hb dL_isSo_19 (by decide) (fun c_19 => ?_) (fun c_19 => absurd (by decide) c_19)
    refine lv_iload_n hx hb dL_isSo_120 rfl (lv_at hl 5 rfl) ?_
    refine lv_bipush (v := 6) hx hb dL_isSo_121 (by decide) ?_
    refine lv_ishr hx hb dL_isSo_123 ?_
    refine lv_bipush (v := 6) hx hb dL_isSo_124 (by decide) ?_
    refine h_callP (As := [.int (v >>> ((6 : Int32) &&& 31)), .int 6]) (rest := []) ⟨hx, hb, hml, hown, hts⟩ (oL_low l dC dI cI cJ cZ cG H.size (v >>> ((6 : Int32) &&& 31)) 6 _ (low_ok (v >>> ((6 : Int32) &&& 31)) 6 (by decide))) (va_cwS 2 hts gL_isSo_L_low rfl rfl rfl (by decide +kernel) ⟨Nat.le_of_ble_eq_true rfl, Nat.le_of_ble_eq_true rfl⟩) hK hS hA rfl hl.1 rfl (Nat.le_of_ble_eq_true rfl) dL_isSo_126 ⟨by show cells ≤ 200; omega, by show slots ≤ 1200; omega⟩ (fun H locs hz9 hk9 hS => ?_)
    replace hG := h_keep hG hk9
    obtain ⟨P, hP6, eP⟩ := lw_ix (v >>> ((6 : Int32) &&& 31)) (n := 6) (by decide) (by decide)
    refine w_eqi ((eP.symm : nI P = lw (v >>> ((6 : Int32) &&& 31)) 6)) ?_
    obtain ⟨lo, hi, hlo, hhi, hlh, h0⟩ := f_bound hR hP6
    refine lv_istore (lv' := [(5, .int (nI P)), (2, .int (psum (a.2 6) 6)), (4, .int (nI B)), (3, .int 1), (0, .ref (ad 0)), (1, .int v)]) hx hb dL_isSo_129 hl (by decide) rfl (fun ls hl => ?_)
    refine lv_aload_n hx hb dL_isSo_131 rfl (lv_at hl 4 rfl) ?_
    refine lv_iload hx hb dL_isSo_132 (lv_at hl 0 rfl) ?_
    refine lv_iconst (v := 0) hx hb dL_isSo_134 (by decide) ?_
    refine h_callXo (ad := ad) (rw := rw) (As := [.int (nI P), .int 0]) (rest := []) ⟨hx, hb, hml, hown, hts⟩ (a_bound l hlt dC dI cI cJ cZ cG ad rw q a H.size (nI P) 0 (Or.inl rfl)) hlo (cwV 2 hts gL_isSo_X8_bound rfl rfl rfl (by decide +kernel) ⟨Nat.le_of_ble_eq_true rfl, Nat.le_of_ble_eq_true rfl⟩) hK Foc.one hG hS hA hT rfl hl.1 rfl (Nat.le_of_ble_eq_true rfl) dL_isSo_135 ⟨by show cells + 1 ≤ 200; omega, by show slots + 6 ≤ 1200; omega⟩ (fun H locs hG hS => ?_)
    replace hG : HWe (dC, dI) cI cJ cZ cG A ad rw q a H := hG
    refine lv_istore (lv' := [(6, .int lo), (5, .int (nI P)), (2, .int (psum (a.2 6) 6)), (4, .int (nI B)), (3, .int 1), (0, .ref (ad 0)), (1, .int v)]) hx hb dL_isSo_138 hl (by decide) rfl (fun ls hl => ?_)
    refine lv_aload_n hx hb dL_isSo_140 rfl (lv_at hl 5 rfl) ?_
    refine lv_iload hx hb dL_isSo_141 (lv_at hl 1 rfl) ?_
    refine lv_iconst (v := 1) hx hb dL_isSo_143 (by decide) ?_
    refine h_callXo (ad := ad) (rw := rw) (As := [.int (nI P), .int 1]) (rest := []) ⟨hx, hb, hml, hown, hts⟩ (a_bound l hlt dC dI cI cJ cZ cG ad rw q a H.size (nI P) 1 (Or.inr rfl)) hhi (cwV 2 hts gL_isSo_X8_bound rfl rfl rfl (by decide +kernel) ⟨Nat.le_of_ble_eq_true rfl, Nat.le_of_ble_eq_true rfl⟩) hK Foc.one hG hS hA hT rfl hl.1 rfl (Nat.le_of_ble_eq_true rfl) dL_isSo_144 ⟨by show cells + 1 + 1 ≤ 200; omega, by show slots + 6 + 6 ≤ 1200; omega⟩ (fun H locs hG hS => ?_)
    replace hG : HWe (dC, dI) cI cJ cZ cG A ad rw q a H := hG
    refine lv_istore (lv' := [(7, .int hi), (6, .int lo), (5, .int (nI P)), (2, .int (psum (a.2 6) 6)), (4, .int (nI B)), (3, .int 1), (0, .ref (ad 0)), (1, .int v)]) hx hb dL_isSo_147 hl (by decide) rfl (fun ls hl => ?_)
    have tail : ∀ (cl sl : Nat) (H : Heap) (locs : List Loc) (ls : Array Slot), cl ≤ 51 → sl ≤ 306 → HWe (dC, dI) cI cJ cZ cG A ad rw q a H → va_S A s.heap H locs → lv_has ls 10 [(7, .int hi), (6, .int lo), (5, .int (nI P)), (2, .int (psum (a.2 6) 6)), (4, .int (nI B)), (3, .int 1), (0, .ref (ad 0)), (1, .int v)] → W p l e rmL_isSo s m args below meth c H locs cl sl (MQ below (va_Qi (fun (r : Int32) (_ : Unit) => r = 1) (fun _ _ => True) A) args s 200 1200 A) (F0 m 192 ls []) := by
      intro cl sl H locs ls hc1 hc2 hG hS hl
      refine lv_iconst (v := 1) hx hb dL_isSo_192 (by decide) ?_
      refine lv_goto (tgt := 197) hx hb dL_isSo_193 (by decide) ?_
      refine lv_istore_n (lv' := [(3, .int 1), (7, .int hi), (6, .int lo), (5, .int (nI P)), (2, .int (psum (a.2 6) 6)), (4, .int (nI B)), (0, .ref (ad 0)), (1, .int v)]) hx hb dL_isSo_197 rfl hl (by decide) rfl (fun ls hl => ?_)
      refine lv_iconst (v := 0) hx hb dL_isSo_198 (by decide) ?_
      refine lv_istore (lv' := [(8, .int 0), (3, .int 1), (7, .int hi), (6, .int lo), (5, .int (nI P)), (2, .int (psum (a.2 6) 6)), (4, .int (nI B)), (0, .ref (ad 0)), (1, .int v)]) hx hb dL_isSo_199 hl (by decide) rfl (fun ls hl => ?_)
      refine lv_iconst (v := 0) hx hb dL_isSo_201 (by decide) ?_
      refine lv_istore (lv' := [(9, .int 0), (8, .int 0), (3, .int 1), (7, .int hi), (6, .int lo), (5, .int (nI P)), (2, .int (psum (a.2 6) 6)), (4, .int (nI B)), (0, .ref (ad 0)), (1, .int v)]) hx hb dL_isSo_202 hl (by decide) rfl (fun ls hl => ?_)
      exact is_loop2 hx hb hr hml hown hts hlocks hlt hK hT hN hA hR hq hm1 hm6 hrn hring hsw 6 0 H locs ls _ _ (by omega) (by omega) (by omega) hG hS hl
    refine lv_iload_n hx hb dL_isSo_149 rfl (lv_at hl 5 rfl) ?_
    refine lv_if_eq (tgt := 196) hx hb dL_isSo_150 (by decide) (fun c_150 => absurd c_150 (by decide)) (fun c_150 => ?_)
    refine lv_iload hx hb dL_isSo_153 (lv_at hl 1 rfl) ?_
    refine lv_iload hx hb dL_isSo_155 (lv_at hl 0 rfl) ?_
    refine lv_icmp_le (tgt := 166) hx hb dL_isSo_157 (by decide) (fun c_157 => ?_) (fun c_157 => absurd hlh c_157)
    refine lv_aload_n hx hb dL_isSo_166 rfl (lv_at hl 6 rfl) ?_
    refine h_callMi (ad := ad) (rw := rw) (As := []) (rest := []) ⟨hx, hb, hml, hown, hts⟩ (a_stacked l dC dI cI cJ cZ cG ad rw q a H.size) (cwV 0 hts gL_isSo_X8_stacked rfl rfl rfl (by decide +kernel) ⟨Nat.le_of_ble_eq_true rfl, Nat.le_of_ble_eq_true rfl⟩) hK Foc.one hG hS hA hT rfl hl.1 rfl (Nat.le_of_ble_eq_true rfl) dL_isSo_167 ⟨by show cells + 1 + 1 + 0 ≤ 200; omega, by show slots + 6 + 6 + 0 ≤ 1200; omega⟩ (fun r9 a9 H locs hr9 hG hS => ?_)
    cases ((rfl : rStacked a = some (a.1 2, a))).symm.trans hr9
    replace hG : HWe (dC, dI) cI cJ cZ cG A ad rw q a H := hG
    refine lv_if_gt (tgt := 192) hx hb dL_isSo_170 (by decide) (fun c_170 => ?_) (fun c_170 => ?_)
    · exact tail _ _ H locs ls (by omega) (by omega) hG hS hl
    · obtain ⟨e1, e2⟩ := h0 c_170
      refine lv_iload hx hb dL_isSo_173 (lv_at hl 1 rfl) ?_
      refine lv_aload_n hx hb dL_isSo_175 rfl (lv_at hl 6 rfl) ?_
      refine lv_iload hx hb dL_isSo_176 (lv_at hl 2 rfl) ?_
      refine lv_iconst (v := 0) hx hb dL_isSo_178 (by decide) ?_
      refine h_callXo (ad := ad) (rw := rw) (As := [.int (nI P), .int 0]) (rest := [.int lo]) ⟨hx, hb, hml, hown, hts⟩ (a_life l hlt dC dI cI cJ cZ cG ad rw q a H.size (nI P) 0 (Or.inl rfl)) (f_life a hP6 0) (cwV 2 hts gL_isSo_X8_life rfl rfl rfl (by decide +kernel) ⟨Nat.le_of_ble_eq_true rfl, Nat.le_of_ble_eq_true rfl⟩) hK Foc.one hG hS hA hT rfl hl.1 rfl (Nat.le_of_ble_eq_true rfl) dL_isSo_179 ⟨by show cells + 1 + 1 + 0 + 1 ≤ 200; omega, by show slots + 6 + 6 + 0 + 6 ≤ 1200; omega⟩ (fun H locs hG hS => ?_)
      replace hG : HWe (dC, dI) cI cJ cZ cG A ad rw q a H := hG
      refine lv_icmp_ne (tgt := 196) hx hb dL_isSo_182 (by decide) (fun c_182 => absurd (by rw [if_pos rfl]; exact e1) c_182) (fun c_182 => ?_)
      refine lv_iload hx hb dL_isSo_185 (lv_at hl 0 rfl) ?_
      refine lv_iload hx hb dL_isSo_187 (lv_at hl 1 rfl) ?_
      refine lv_icmp_ne (tgt := 196) hx hb dL_isSo_189 (by decide) (fun c_189 => absurd e2 c_189) (fun c_189 => ?_)
      exact tail _ _ H locs ls (by omega) (by omega) hG hS hl
  | succ r ih =>
    intro k H locs ls cells slots hk hc1 hc2 hG hS hl
    have hk6 : k < 6 := by omega
    refine lv_iload hx hb dL_isSo_15 (lv_at hl 0 rfl) ?_
    refine lv_bipush (v := 6) hx hb dL_isSo_17 (by decide) ?_
    refine lv_icmp_ge (tgt := 120) hx hb dL_isSo_19 (by decide) (fun c_19 => absurd c_19 (nnle (a := 6) hk6 (by omega))) (fun c_19 => ?_)
    refine lv_iload_n hx hb dL_isSo_22 rfl (lv_at hl 3 rfl) ?_
    refine lv_if_eq (tgt := 120) hx hb dL_isSo_23 (by decide) (fun c_23 => absurd c_23 (by decide)) (fun c_23 => ?_)
    refine lv_iload_n hx hb dL_isSo_26 rfl (lv_at hl 1 rfl) ?_
    refine lv_aload_n hx hb dL_isSo_27 rfl (lv_at hl 4 rfl) ?_
    refine lv_iload hx hb dL_isSo_28 (lv_at hl 0 rfl) ?_
    refine h_callXo (ad := ad) (rw := rw) (As := [.int (nI k)]) (rest := [.int (psum (a.2 6) k)]) ⟨hx, hb, hml, hown, hts⟩ (a_strength l hlt dC dI cI cJ cZ cG ad rw q a H.size (nI k) ) (f_strength a hk6) (cwV 1 hts gL_isSo_X8_strength rfl rfl rfl (by decide +kernel) ⟨Nat.le_of_ble_eq_true rfl, Nat.le_of_ble_eq_true rfl⟩) hK Foc.one hG hS hA hT rfl hl.1 rfl (Nat.le_of_ble_eq_true rfl) dL_isSo_30 ⟨by show cells + 1 ≤ 200; omega, by show slots + 6 ≤ 1200; omega⟩ (fun H locs hG hS => ?_)
    replace hG : HWe (dC, dI) cI cJ cZ cG A ad rw q a H := hG
    refine lv_iadd hx hb dL_isSo_33 ?_
    refine lv_istore_n (lv' := [(2, .int ((psum (a.2 6) k) + (a.2 6 k))), (5, .int (nI k)), (4, .int (nI B)), (3, .int 1), (0, .ref (ad 0)), (1, .int v)]) hx hb dL_isSo_34 rfl hl (by decide) rfl (fun ls hl => ?_)
    refine lv_aload_n hx hb dL_isSo_35 rfl (lv_at hl 4 rfl) ?_
    refine lv_iload hx hb dL_isSo_36 (lv_at hl 1 rfl) ?_
    refine lv_iload hx hb dL_isSo_38 (lv_at hl 2 rfl) ?_
    obtain ⟨ot, ho1, ho2⟩ := f_pair hR hB hk6
    refine h_callXo (ad := ad) (rw := rw) (As := [.int (nI k), .int (nI B)]) (rest := []) ⟨hx, hb, hml, hown, hts⟩ (a_pair l hlt dC dI cI cJ cZ cG ad rw q a H.size (nI k) (nI B) ) ho1 (cwV 2 hts gL_isSo_X8_pair rfl rfl rfl (by decide +kernel) ⟨Nat.le_of_ble_eq_true rfl, Nat.le_of_ble_eq_true rfl⟩) hK Foc.one hG hS hA hT rfl hl.1 rfl (Nat.le_of_ble_eq_true rfl) dL_isSo_40 ⟨by show cells + 1 + 2 ≤ 200; omega, by show slots + 6 + 12 ≤ 1200; omega⟩ (fun H locs hG hS => ?_)
    replace hG : HWe (dC, dI) cI cJ cZ cG A ad rw q a H := hG
    refine lv_istore (lv' := [(6, .int ot), (2, .int ((psum (a.2 6) k) + (a.2 6 k))), (5, .int (nI k)), (4, .int (nI B)), (3, .int 1), (0, .ref (ad 0)), (1, .int v)]) hx hb dL_isSo_43 hl (by decide) rfl (fun ls hl => ?_)
    have tail : ∀ (cl sl : Nat) (H : Heap) (locs : List Loc) (ls : Array Slot), cl ≤ 8 * (k + 1) → sl ≤ 48 * (k + 1) → HWe (dC, dI) cI cJ cZ cG A ad rw q a H → va_S A s.heap H locs → lv_has ls 10 [(6, .int ot), (2, .int ((psum (a.2 6) k) + (a.2 6 k))), (5, .int (nI k)), (4, .int (nI B)), (3, .int 1), (0, .ref (ad 0)), (1, .int v)] → W p l e rmL_isSo s m args below meth c H locs cl sl (MQ below (va_Qi (fun (r : Int32) (_ : Unit) => r = 1) (fun _ _ => True) A) args s 200 1200 A) (F0 m 108 ls []) := by
      intro cl sl H locs ls hc1 hc2 hG hS hl
      refine lv_iconst (v := 1) hx hb dL_isSo_108 (by decide) ?_
      refine lv_goto (tgt := 113) hx hb dL_isSo_109 (by decide) ?_
      refine lv_istore_n (lv' := [(3, .int 1), (6, .int ot), (2, .int ((psum (a.2 6) k) + (a.2 6 k))), (5, .int (nI k)), (4, .int (nI B)), (0, .ref (ad 0)), (1, .int v)]) hx hb dL_isSo_113 rfl hl (by decide) rfl (fun ls hl => ?_)
      refine lv_iinc (v := nI (k + 1)) (lv' := [(5, .int (nI (k + 1))), (3, .int 1), (6, .int ot), (2, .int ((psum (a.2 6) k) + (a.2 6 k))), (4, .int (nI B)), (0, .ref (ad 0)), (1, .int v)]) hx hb dL_isSo_114 hl (k := 3) rfl (by rw [← nI_1]; rfl) (by decide) rfl (fun ls hl => ?_)
      refine lv_goto (tgt := 15) hx hb dL_isSo_117 (by decide) ?_
      exact ih (k + 1) H locs ls _ _ (by omega) (by omega) (by omega) hG hS (lv_sub hl [0, 3, 4, 1, 5, 6] rfl)
    refine lv_aload_n hx hb dL_isSo_45 rfl (lv_at hl 5 rfl) ?_
    refine lv_iload hx hb dL_isSo_46 (lv_at hl 2 rfl) ?_
    refine lv_iconst (v := 1) hx hb dL_isSo_48 (by decide) ?_
    refine h_callXo (ad := ad) (rw := rw) (As := [.int (nI k), .int 1]) (rest := []) ⟨hx, hb, hml, hown, hts⟩ (a_life l hlt dC dI cI cJ cZ cG ad rw q a H.size (nI k) 1 (Or.inr rfl)) (f_life a hk6 1) (cwV 2 hts gL_isSo_X8_life rfl rfl rfl (by decide +kernel) ⟨Nat.le_of_ble_eq_true rfl, Nat.le_of_ble_eq_true rfl⟩) hK Foc.one hG hS hA hT rfl hl.1 rfl (Nat.le_of_ble_eq_true rfl) dL_isSo_49 ⟨by show cells + 1 + 2 + 1 ≤ 200; omega, by show slots + 6 + 12 + 6 ≤ 1200; omega⟩ (fun H locs hG hS => ?_)
    replace hG : HWe (dC, dI) cI cJ cZ cG A ad rw q a H := hG
    refine lv_if_lt (tgt := 112) hx hb dL_isSo_52 (by decide) (fun c_52 => absurd (show (if (1 : Int32) = 0 then a.2 4 k else a.2 5 k) < 0 from c_52) (by rw [if_neg one0]; exact Int32.not_lt.mpr (f_shield hR hk6))) (fun c_52 => ?_)
    refine lv_aload_n hx hb dL_isSo_55 rfl (lv_at hl 5 rfl) ?_
    refine lv_iload hx hb dL_isSo_56 (lv_at hl 2 rfl) ?_
    refine h_callXo (ad := ad) (rw := rw) (As := [.int (nI k)]) (rest := []) ⟨hx, hb, hml, hown, hts⟩ (a_lifeAnew l hlt dC dI cI cJ cZ cG ad rw q a hq H.size (nI k) ) (f_lifeAnew a hk6) (cwV 1 hts gL_isSo_X8_lifeAnew rfl rfl rfl (by decide +kernel) ⟨Nat.le_of_ble_eq_true rfl, Nat.le_of_ble_eq_true rfl⟩) hK Foc.one hG hS hA hT rfl hl.1 rfl (Nat.le_of_ble_eq_true rfl) dL_isSo_58 ⟨by show cells + 1 + 2 + 1 + 1 ≤ 200; omega, by show slots + 6 + 12 + 6 + 6 ≤ 1200; omega⟩ (fun H locs hG hS => ?_)
    replace hG : HWe (dC, dI) cI cJ cZ cG A ad rw q a H := hG
    refine lv_aload_n hx hb dL_isSo_61 rfl (lv_at hl 5 rfl) ?_
    refine lv_iload hx hb dL_isSo_62 (lv_at hl 2 rfl) ?_
    refine lv_iconst (v := 0) hx hb dL_isSo_64 (by decide) ?_
    refine h_callXo (ad := ad) (rw := rw) (As := [.int (nI k), .int 0]) (rest := [.int (a.2 4 k)]) ⟨hx, hb, hml, hown, hts⟩ (a_life l hlt dC dI cI cJ cZ cG ad rw q a H.size (nI k) 0 (Or.inl rfl)) (f_life a hk6 0) (cwV 2 hts gL_isSo_X8_life rfl rfl rfl (by decide +kernel) ⟨Nat.le_of_ble_eq_true rfl, Nat.le_of_ble_eq_true rfl⟩) hK Foc.one hG hS hA hT rfl hl.1 rfl (Nat.le_of_ble_eq_true rfl) dL_isSo_65 ⟨by show cells + 1 + 2 + 1 + 1 + 1 ≤ 200; omega, by show slots + 6 + 12 + 6 + 6 + 6 ≤ 1200; omega⟩ (fun H locs hG hS => ?_)
    replace hG : HWe (dC, dI) cI cJ cZ cG A ad rw q a H := hG
    refine lv_icmp_ne (tgt := 112) hx hb dL_isSo_68 (by decide) (fun c_68 => absurd (by rw [if_pos rfl]) c_68) (fun c_68 => ?_)
    refine lv_iload hx hb dL_isSo_71 (lv_at hl 0 rfl) ?_
    refine lv_iconst (v := (-1)) hx hb dL_isSo_73 (by decide) ?_
    refine lv_icmp_eq (tgt := 108) hx hb dL_isSo_74 (by decide) (fun c_74 => ?_) (fun c_74 => ?_)
    · exact tail _ _ H locs ls (by omega) (by omega) hG hS hl
    · obtain ⟨o1, o2, o3⟩ : rPair a ot (nI B) = some (nI k, a) ∧ ¬ ot = nI k ∧ B.testBit k = true := ho2.resolve_left c_74
      refine lv_aload_n hx hb dL_isSo_77 rfl (lv_at hl 5 rfl) ?_
      refine lv_iload hx hb dL_isSo_78 (lv_at hl 0 rfl) ?_
      refine lv_iload hx hb dL_isSo_80 (lv_at hl 3 rfl) ?_
      refine h_callXo (ad := ad) (rw := rw) (As := [.int ot, .int (nI B)]) (rest := []) ⟨hx, hb, hml, hown, hts⟩ (a_pair l hlt dC dI cI cJ cZ cG ad rw q a H.size ot (nI B) ) o1 (cwV 2 hts gL_isSo_X8_pair rfl rfl rfl (by decide +kernel) ⟨Nat.le_of_ble_eq_true rfl, Nat.le_of_ble_eq_true rfl⟩) hK Foc.one hG hS hA hT rfl hl.1 rfl (Nat.le_of_ble_eq_true rfl) dL_isSo_82 ⟨by show cells + 1 + 2 + 1 + 1 + 1 + 2 ≤ 200; omega, by show slots + 6 + 12 + 6 + 6 + 6 + 12 ≤ 1200; omega⟩ (fun H locs hG hS => ?_)
      replace hG : HWe (dC, dI) cI cJ cZ cG A ad rw q a H := hG
      refine lv_iload hx hb dL_isSo_85 (lv_at hl 2 rfl) ?_
      refine lv_icmp_ne (tgt := 112) hx hb dL_isSo_87 (by decide) (fun c_87 => absurd rfl c_87) (fun c_87 => ?_)
      refine lv_iload hx hb dL_isSo_90 (lv_at hl 0 rfl) ?_
      refine lv_iload hx hb dL_isSo_92 (lv_at hl 2 rfl) ?_
      refine lv_icmp_eq (tgt := 112) hx hb dL_isSo_94 (by decide) (fun c_94 => absurd c_94 o2) (fun c_94 => ?_)
      refine lv_iload hx hb dL_isSo_97 (lv_at hl 3 rfl) ?_
      refine lv_iload hx hb dL_isSo_99 (lv_at hl 2 rfl) ?_
      refine lv_ishr hx hb dL_isSo_101 ?_
      refine lv_iconst (v := 1) hx hb dL_isSo_102 (by decide) ?_
      refine lv_iand hx hb dL_isSo_103 ?_
      refine lv_iconst (v := 1) hx hb dL_isSo_104 (by decide) ?_
      refine lv_icmp_ne (tgt := 112) hx hb dL_isSo_105 (by decide) (fun c_105 => absurd (by rw [bitI B hB k hk6, if_pos o3]) c_105) (fun c_105 => ?_)
      exact tail _ _ H locs ls (by omega) (by omega) hG hS hl
set_option maxHeartbeats 4000000 in
set_option maxRecDepth 100000 in
theorem b_isSo (l : Launch) (hlt : l.stackTraces = false) (dC : Nat → ClassId) (dI : Nat → Nat → Nat) (cI cJ cZ cG : ClassId) (ad : Nat → Nat) (rw : Nat → Nat → Nat) (q : Nat) (a : AT) (hq : q ≤ 512) (sz : Nat) (v : Int32) : Met l yL_isSo wsL_isSo rmL_isSo (HPc [.ref (ad 0), .int v] (dC, dI) cI cJ cZ cG sz ad rw q a) (va_Qi (fun (r : Int32) (_ : Unit) => r = 1) (fun _ _ => True) (HA cI cJ cZ cG ad rw sz)) 200 1200 (HA cI cJ cZ cG ad rw sz) := by
  refine Met.ofW (cc := cL_isSo) (maxL := 10) (ret := (some .boolean)) (by decide) rfl ?_
  intro p e s m args below meth c s₁ B hml hv
  obtain ⟨rfl, hsz, hG0, hK, hT, hN⟩ := hv
  have hx := B.exec
  have hb := B.bytes
  have hr := B.returns
  have hts := atoms_spec (ws := wsL_isSo) B.pre
  have hown : s.vm.findClass RL = some m.cls := findClass_of_methodNamed B.named
  have hlocks := B.notSynchronized
  subst hsz
  have hG := hG0.self (sz := s.heap.size)
  have hA : ∀ x, s.heap.size ≤ x → (HA cI cJ cZ cG ad rw s.heap.size) x := HA_hi
  have hS : va_S (HA cI cJ cZ cG ad rw s.heap.size) s.heap s.heap [] := va_S.rf
  generalize hAe : (HA cI cJ cZ cG ad rw s.heap.size) = A at hG hT hA hS ⊢
  have hl := lv_entry ([.ref (ad 0), .int v]) (n := 10) (Nat.le_of_ble_eq_true rfl)
  rw [lg_entry_eq]
  generalize (lg_sl ([.ref (ad 0), .int v]) ++ List.replicate (10 - (lg_sl ([.ref (ad 0), .int v])).length) Slot.unset).toArray = ls at hl ⊢
  have hl : lv_has ls 10 [(0, .ref (ad 0)), (1, .int v)] := hl
  generalize hH : s.heap = H at hG ⊢
  replace hS : va_S A s.heap H [] := by rw [← hH]; exact hS
  generalize ([] : List Loc) = locs at hS ⊢
  obtain ⟨σ, -, -, hR⟩ := id hG
  clear B
  show W p l e rmL_isSo s m #[.ref (ad 0), .int v] below meth c H locs 0 0 (MQ below (va_Qi (fun (r : Int32) (_ : Unit) => r = 1) (fun _ _ => True) A) #[.ref (ad 0), .int v] s 200 1200 A) (F0 m 0 ls [])
  refine lv_iconst (v := 0) hx hb dL_isSo_0 (by decide) ?_
  refine lv_istore_n (lv' := [(2, .int 0), (0, .ref (ad 0)), (1, .int v)]) hx hb dL_isSo_1 rfl hl (by decide) rfl (fun ls hl => ?_)
  refine lv_iconst (v := 1) hx hb dL_isSo_2 (by decide) ?_
  refine lv_istore_n (lv' := [(3, .int 1), (2, .int 0), (0, .ref (ad 0)), (1, .int v)]) hx hb dL_isSo_3 rfl hl (by decide) rfl (fun ls hl => ?_)
  refine lv_iload_n hx hb dL_isSo_4 rfl (lv_at hl 3 rfl) ?_
  refine lv_bipush (v := 64) hx hb dL_isSo_5 (by decide) ?_
  refine h_callP (As := [.int v, .int 64]) (rest := []) ⟨hx, hb, hml, hown, hts⟩ (oL_low l dC dI cI cJ cZ cG H.size v 64 _ (low_ok v 64 (by decide))) (va_cwS 2 hts gL_isSo_L_low rfl rfl rfl (by decide +kernel) ⟨Nat.le_of_ble_eq_true rfl, Nat.le_of_ble_eq_true rfl⟩) hK hS hA rfl hl.1 rfl (Nat.le_of_ble_eq_true rfl) dL_isSo_7 ⟨by show 0 ≤ 200; omega, by show 0 ≤ 1200; omega⟩ (fun H locs hz9 hk9 hS => ?_)
  replace hG := h_keep hG hk9
  obtain ⟨B, hB, eB⟩ := lw_ix v (n := 64) (by decide) (by decide)
  refine w_eqi ((eB.symm : nI B = lw v 64)) ?_
  refine lv_istore (lv' := [(4, .int (nI B)), (3, .int 1), (2, .int 0), (0, .ref (ad 0)), (1, .int v)]) hx hb dL_isSo_10 hl (by decide) rfl (fun ls hl => ?_)
  refine lv_iconst (v := 0) hx hb dL_isSo_12 (by decide) ?_
  refine lv_istore (lv' := [(5, .int 0), (4, .int (nI B)), (3, .int 1), (2, .int 0), (0, .ref (ad 0)), (1, .int v)]) hx hb dL_isSo_13 hl (by decide) rfl (fun ls hl => ?_)
  obtain ⟨M, ring, hm1, hm6, hrn, hring, a1, hsw⟩ := f_ring hR
  exact is_loop1 hx hb hr hml hown hts hlocks hlt hK hT hN hA hR hq hB hm1 hm6 hrn hring hsw 6 0 H locs ls _ _ (by omega) (by omega) (by omega) hG hS (lv_sub hl [0, 3, 1, 2, 4, 5] rfl)
