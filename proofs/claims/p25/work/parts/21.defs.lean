/-! printed by gen.py out of the bytecode: a pure function for every method -/
/-! table -/
def fX6_clear_b2 : Nat → Int32 → (Nat → Int32) → (Nat → Int32) → Int32 → Option (Int32 × (Nat → Int32) × (Nat → Int32))
  | 0, _, _, _, _ => none
  | n + 1, v_size, v_lives, v_shields, l1 =>
  if 6 ≤ l1 then
  (some (0, v_lives, v_shields))
  else
  (ck (g_in l1 6) <|
  ck (g_in l1 6) <|
  nm (l1 + 1) fun x_4 =>
  (fX6_clear_b2 n) v_size (upd v_lives l1.toNatClampNeg 20) (upd v_shields l1.toNatClampNeg 0) x_4)
def fX6_clear (v_size : Int32) (v_lives : Nat → Int32) (v_shields : Nat → Int32) : Option (Int32 × (Nat → Int32) × (Nat → Int32)) :=
  fX6_clear_b2 70 v_size v_lives v_shields 0
def fX6_copyFrom_b40 (v_o1_size : Int32) (v_o1_lives : Nat → Int32) (v_o1_shields : Nat → Int32) (v_o1_effects : Nat → Int32) (v_o1_numbers : Nat → Int32) (v_o1_players : Nat → Int32) (v_o1_against : Nat → Int32) : Nat → Int32 → (Nat → Int32) → (Nat → Int32) → (Nat → Int32) → (Nat → Int32) → (Nat → Int32) → (Nat → Int32) → Int32 → Option (Int32 × (Nat → Int32) × (Nat → Int32) × (Nat → Int32) × (Nat → Int32) × (Nat → Int32) × (Nat → Int32))
  | 0, _, _, _, _, _, _, _, _ => none
  | n + 1, v_size, v_lives, v_shields, v_effects, v_numbers, v_players, v_against, l2 =>
  if v_o1_size ≤ l2 then
  (some (v_o1_size, v_lives, v_shields, v_effects, v_numbers, v_players, v_against))
  else
  (ck (g_in l2 6) <|
  nm (v_o1_effects l2.toNatClampNeg) fun x_3 =>
  ck (g_in l2 6) <|
  ck (g_in l2 6) <|
  nm (v_o1_numbers l2.toNatClampNeg) fun x_6 =>
  ck (g_in l2 6) <|
  ck (g_in l2 6) <|
  nm (v_o1_players l2.toNatClampNeg) fun x_9 =>
  ck (g_in l2 6) <|
  ck (g_in l2 6) <|
  nm (v_o1_against l2.toNatClampNeg) fun x_12 =>
  ck (g_in l2 6) <|
  nm (l2 + 1) fun x_14 =>
  (fX6_copyFrom_b40 v_o1_size v_o1_lives v_o1_shields v_o1_effects v_o1_numbers v_o1_players v_o1_against n) v_size v_lives v_shields (upd v_effects l2.toNatClampNeg x_3) (upd v_numbers l2.toNatClampNeg x_6) (upd v_players l2.toNatClampNeg x_9) (upd v_against l2.toNatClampNeg x_12) x_14)
def fX6_copyFrom_b2 (v_o1_size : Int32) (v_o1_lives : Nat → Int32) (v_o1_shields : Nat → Int32) (v_o1_effects : Nat → Int32) (v_o1_numbers : Nat → Int32) (v_o1_players : Nat → Int32) (v_o1_against : Nat → Int32) : Nat → Int32 → (Nat → Int32) → (Nat → Int32) → (Nat → Int32) → (Nat → Int32) → (Nat → Int32) → (Nat → Int32) → Int32 → Option (Int32 × (Nat → Int32) × (Nat → Int32) × (Nat → Int32) × (Nat → Int32) × (Nat → Int32) × (Nat → Int32))
  | 0, _, _, _, _, _, _, _, _ => none
  | n + 1, v_size, v_lives, v_shields, v_effects, v_numbers, v_players, v_against, l2 =>
  if 6 ≤ l2 then
  (fX6_copyFrom_b40 v_o1_size v_o1_lives v_o1_shields v_o1_effects v_o1_numbers v_o1_players v_o1_against 70 v_size v_lives v_shields v_effects v_numbers v_players v_against 0)
  else
  (ck (g_in l2 6) <|
  nm (v_o1_lives l2.toNatClampNeg) fun x_3 =>
  ck (g_in l2 6) <|
  ck (g_in l2 6) <|
  nm (v_o1_shields l2.toNatClampNeg) fun x_6 =>
  ck (g_in l2 6) <|
  nm (l2 + 1) fun x_8 =>
  (fX6_copyFrom_b2 v_o1_size v_o1_lives v_o1_shields v_o1_effects v_o1_numbers v_o1_players v_o1_against n) v_size (upd v_lives l2.toNatClampNeg x_3) (upd v_shields l2.toNatClampNeg x_6) v_effects v_numbers v_players v_against x_8)
def fX6_copyFrom (v_size : Int32) (v_lives : Nat → Int32) (v_shields : Nat → Int32) (v_effects : Nat → Int32) (v_numbers : Nat → Int32) (v_players : Nat → Int32) (v_against : Nat → Int32) (v_o1_size : Int32) (v_o1_lives : Nat → Int32) (v_o1_shields : Nat → Int32) (v_o1_effects : Nat → Int32) (v_o1_numbers : Nat → Int32) (v_o1_players : Nat → Int32) (v_o1_against : Nat → Int32) : Option (Int32 × (Nat → Int32) × (Nat → Int32) × (Nat → Int32) × (Nat → Int32) × (Nat → Int32) × (Nat → Int32)) :=
  fX6_copyFrom_b2 v_o1_size v_o1_lives v_o1_shields v_o1_effects v_o1_numbers v_o1_players v_o1_against 70 v_size v_lives v_shields v_effects v_numbers v_players v_against 0
def fX6_lay (v_size : Int32) (v_effects : Nat → Int32) (v_numbers : Nat → Int32) (v_players : Nat → Int32) (v_against : Nat → Int32) (p1 : Int32) (p2 : Int32) (p3 : Int32) (p4 : Int32) : Option (Int32 × (Nat → Int32) × (Nat → Int32) × (Nat → Int32) × (Nat → Int32)) :=
  if v_size < 6 then
  (ck (g_in v_size 6) <|
  ck (g_in v_size 6) <|
  ck (g_in v_size 6) <|
  ck (g_in v_size 6) <|
  nm (v_size + 1) fun x_6 =>
  some (x_6, (upd v_effects v_size.toNatClampNeg p1), (upd v_numbers v_size.toNatClampNeg p2), (upd v_players v_size.toNatClampNeg p3), (upd v_against v_size.toNatClampNeg p4)))
  else
  (some (v_size, v_effects, v_numbers, v_players, v_against))
def fX6_nearestByOther_b4 (v_players : Nat → Int32) : Nat → Int32 → Int32 → Option (Int32)
  | 0, _, _ => none
  | n + 1, l1, l2 =>
  if l2 < 0 then
  (some (-1))
  else
  (ck (g_in l2 6) <|
  ck (g_in l1 6) <|
  if (v_players l2.toNatClampNeg) = (v_players l1.toNatClampNeg) then
  (nm (l2 + (-1)) fun x_5 =>
  (fX6_nearestByOther_b4 v_players n) l1 x_5)
  else
  (some l2))
def fX6_nearestByOther (v_players : Nat → Int32) (p1 : Int32) : Option (Int32) :=
  nm (p1 - 1) fun x_1 =>
  fX6_nearestByOther_b4 v_players 70 p1 x_1
def fX6_takeOff_b9 : Nat → Int32 → (Nat → Int32) → (Nat → Int32) → (Nat → Int32) → (Nat → Int32) → Int32 → Option (Int32 × (Nat → Int32) × (Nat → Int32) × (Nat → Int32) × (Nat → Int32))
  | 0, _, _, _, _, _, _ => none
  | n + 1, v_size, v_effects, v_numbers, v_players, v_against, l2 =>
  if v_size ≤ l2 then
  (nm (v_size - 1) fun x_2 =>
  some (x_2, v_effects, v_numbers, v_players, v_against))
  else
  (ck (g_in l2 6) <|
  nm (v_effects l2.toNatClampNeg) fun x_4 =>
  ck (g_in (l2 - 1) 6) <|
  ck (g_in l2 6) <|
  nm (v_numbers l2.toNatClampNeg) fun x_7 =>
  ck (g_in (l2 - 1) 6) <|
  ck (g_in l2 6) <|
  nm (v_players l2.toNatClampNeg) fun x_10 =>
  ck (g_in (l2 - 1) 6) <|
  ck (g_in l2 6) <|
  nm (v_against l2.toNatClampNeg) fun x_13 =>
  ck (g_in (l2 - 1) 6) <|
  nm (l2 + 1) fun x_15 =>
  (fX6_takeOff_b9 n) v_size (upd v_effects (l2 - 1).toNatClampNeg x_4) (upd v_numbers (l2 - 1).toNatClampNeg x_7) (upd v_players (l2 - 1).toNatClampNeg x_10) (upd v_against (l2 - 1).toNatClampNeg x_13) x_15)
def fX6_takeOff (v_size : Int32) (v_effects : Nat → Int32) (v_numbers : Nat → Int32) (v_players : Nat → Int32) (v_against : Nat → Int32) (p1 : Int32) : Option (Int32 × (Nat → Int32) × (Nat → Int32) × (Nat → Int32) × (Nat → Int32)) :=
  if 0 ≤ p1 then
  (nm (p1 + 1) fun x_2 =>
  fX6_takeOff_b9 70 v_size v_effects v_numbers v_players v_against x_2)
  else
  (some (v_size, v_effects, v_numbers, v_players, v_against))
def fX6_makeTwice (v_numbers : Nat → Int32) (p1 : Int32) : Option (Int32 × (Nat → Int32)) :=
  ck (g_in p1 6) <|
  if (v_numbers p1.toNatClampNeg) ≤ 1073741823 then
  (ck (g_in p1 6) <|
  nm ((v_numbers p1.toNatClampNeg) * 2) fun x_4 =>
  ck (g_in p1 6) <|
  some (1, (upd v_numbers p1.toNatClampNeg x_4)))
  else
  (some (0, v_numbers))
def fX6_turn_b69 (k_2 : (Nat → Int32) → Int32 → Int32 → Option ((Nat → Int32))) (v_size : Int32) (v_effects : Nat → Int32) (l1 : Int32) (l2 : Int32) : Option ((Nat → Int32)) :=
  nm (l2 + 1) fun x_1 =>
  k_2 v_effects l1 x_1
def fX6_turn_b48 (k_2 : (Nat → Int32) → Int32 → Int32 → Option ((Nat → Int32))) (v_size : Int32) (v_effects : Nat → Int32) (l1 : Int32) (l2 : Int32) (l3 : Int32) : Option ((Nat → Int32)) :=
  if l3 = 0 then
  (fX6_turn_b69 k_2 v_size v_effects l1 l2)
  else
  (ck (g_in l2 6) <|
  if (v_effects l2.toNatClampNeg) = 1 then
  (ck (g_in l2 6) <|
  fX6_turn_b69 k_2 v_size (upd v_effects l2.toNatClampNeg 0) l1 l2)
  else
  (fX6_turn_b69 k_2 v_size v_effects l1 l2))
def fX6_turn_b24 (k_2 : (Nat → Int32) → Int32 → Int32 → Option ((Nat → Int32))) (v_size : Int32) (v_effects : Nat → Int32) (l1 : Int32) (l2 : Int32) (s0 : Int32) : Option ((Nat → Int32)) :=
  if s0 = 0 then
  (fX6_turn_b48 k_2 v_size v_effects l1 l2 s0)
  else
  (ck (g_in l2 6) <|
  if (v_effects l2.toNatClampNeg) = 0 then
  (ck (g_in l2 6) <|
  fX6_turn_b69 k_2 v_size (upd v_effects l2.toNatClampNeg 1) l1 l2)
  else
  (fX6_turn_b48 k_2 v_size v_effects l1 l2 s0))
def fX6_turn_b2 (v_size : Int32) : Nat → (Nat → Int32) → Int32 → Int32 → Option ((Nat → Int32))
  | 0, _, _, _ => none
  | n + 1, v_effects, l1, l2 =>
  if v_size ≤ l2 then
  (some v_effects)
  else
  (if ((l1 >>> (l2 &&& 31)) &&& 1) = 1 then
  (fX6_turn_b24 (fX6_turn_b2 v_size n) v_size v_effects l1 l2 1)
  else
  (fX6_turn_b24 (fX6_turn_b2 v_size n) v_size v_effects l1 l2 0))
def fX6_turn (v_size : Int32) (v_effects : Nat → Int32) (p1 : Int32) : Option ((Nat → Int32)) :=
  fX6_turn_b2 v_size 70 v_effects p1 0
def fX6_touch_b128 (v_effects : Nat → Int32) (v_numbers : Nat → Int32) (v_against : Nat → Int32) (v_lives : Nat → Int32) (v_shields : Nat → Int32) : Option (Int32 × (Nat → Int32) × (Nat → Int32)) :=
  some (0, v_lives, v_shields)
def fX6_touch_b101 (v_effects : Nat → Int32) (v_numbers : Nat → Int32) (v_against : Nat → Int32) (v_lives : Nat → Int32) (v_shields : Nat → Int32) (l2 : Int32) (l4 : Int64) (l6 : Int64) : Option (Int32 × (Nat → Int32) × (Nat → Int32)) :=
  if (lg_cmp l4 (-2147483648)) < 0 then
  (fX6_touch_b128 v_effects v_numbers v_against v_lives v_shields)
  else
  (if 0 < (lg_cmp l4 2147483647) then
  (fX6_touch_b128 v_effects v_numbers v_against v_lives v_shields)
  else
  (if (lg_cmp l6 2147483647) ≤ 0 then
  (nm (l4.toInt32) fun x_4 =>
  ck (g_in l2 6) <|
  nm (l6.toInt32) fun x_6 =>
  ck (g_in l2 6) <|
  some (1, (upd v_lives l2.toNatClampNeg x_4), (upd v_shields l2.toNatClampNeg x_6)))
  else
  (fX6_touch_b128 v_effects v_numbers v_against v_lives v_shields)))
def fX6_touch (v_lives : Nat → Int32) (v_shields : Nat → Int32) (v_effects : Nat → Int32) (v_numbers : Nat → Int32) (v_against : Nat → Int32) (p1 : Int32) : Option (Int32 × (Nat → Int32) × (Nat → Int32)) :=
  ck (g_in p1 6) <|
  nm (v_against p1.toNatClampNeg) fun x_2 =>
  ck (g_in p1 6) <|
  nm (v_numbers p1.toNatClampNeg) fun x_4 =>
  ck (g_in x_2 6) <|
  nm ((v_lives x_2.toNatClampNeg).toInt64) fun x_6 =>
  ck (g_in x_2 6) <|
  nm ((v_shields x_2.toNatClampNeg).toInt64) fun x_8 =>
  ck (g_in p1 6) <|
  if (v_effects p1.toNatClampNeg) = 0 then
  (ck (g_in x_2 6) <|
  nm (if x_4 < (v_shields x_2.toNatClampNeg) then x_4 else (v_shields x_2.toNatClampNeg)) fun x_16 =>
  nm (x_8 - x_16.toInt64) fun x_17 =>
  nm (x_6 - (x_4 - x_16).toInt64) fun x_18 =>
  fX6_touch_b101 v_effects v_numbers v_against v_lives v_shields x_2 x_18 x_17)
  else
  (ck (g_in p1 6) <|
  if (v_effects p1.toNatClampNeg) = 1 then
  (nm (x_6 + x_4.toInt64) fun x_14 =>
  fX6_touch_b101 v_effects v_numbers v_against v_lives v_shields x_2 x_14 x_8)
  else
  (nm (x_8 + x_4.toInt64) fun x_13 =>
  fX6_touch_b101 v_effects v_numbers v_against v_lives v_shields x_2 x_6 x_13))
def fX6_act_b62 (v_size : Int32) (v_lives : Nat → Int32) (v_shields : Nat → Int32) (v_effects : Nat → Int32) (v_numbers : Nat → Int32) (v_players : Nat → Int32) (v_against : Nat → Int32) (s0 : Int32) : Option (Int32 × Int32 × (Nat → Int32) × (Nat → Int32) × (Nat → Int32) × (Nat → Int32) × (Nat → Int32) × (Nat → Int32)) :=
  some (s0, v_size, v_lives, v_shields, v_effects, v_numbers, v_players, v_against)
def fX6_act_b57 (v_size : Int32) (v_lives : Nat → Int32) (v_shields : Nat → Int32) (v_effects : Nat → Int32) (v_numbers : Nat → Int32) (v_players : Nat → Int32) (v_against : Nat → Int32) : Option (Int32 × Int32 × (Nat → Int32) × (Nat → Int32) × (Nat → Int32) × (Nat → Int32) × (Nat → Int32) × (Nat → Int32)) :=
  fX6_act_b62 v_size v_lives v_shields v_effects v_numbers v_players v_against 1
def fX6_act (v_size : Int32) (v_lives : Nat → Int32) (v_shields : Nat → Int32) (v_effects : Nat → Int32) (v_numbers : Nat → Int32) (v_players : Nat → Int32) (v_against : Nat → Int32) (p1 : Int32) : Option (Int32 × Int32 × (Nat → Int32) × (Nat → Int32) × (Nat → Int32) × (Nat → Int32) × (Nat → Int32) × (Nat → Int32)) :=
  ck (g_in p1 6) <|
  if (v_effects p1.toNatClampNeg) = 3 then
  (ob (fX6_nearestByOther v_players p1) fun r_3 =>
  ob (fX6_takeOff v_size v_effects v_numbers v_players v_against r_3) fun (w_5, w_6, w_7, w_8, w_9) =>
  some (1, w_5, v_lives, v_shields, w_6, w_7, w_8, w_9))
  else if (v_effects p1.toNatClampNeg) = 4 then
  (if p1 = 0 then
  (fX6_act_b57 v_size v_lives v_shields v_effects v_numbers v_players v_against)
  else
  (ob (fX6_makeTwice v_numbers (p1 - 1)) fun (r_13, w_14) =>
  if r_13 = 0 then
  (fX6_act_b62 v_size v_lives v_shields v_effects w_14 v_players v_against 0)
  else
  (fX6_act_b57 v_size v_lives v_shields v_effects w_14 v_players v_against)))
  else if (v_effects p1.toNatClampNeg) = 5 then
  (ob (fX6_turn v_size v_effects (((1 : Int32) <<< (p1 &&& 31)) - 1)) fun w_19 =>
  some (1, v_size, v_lives, v_shields, w_19, v_numbers, v_players, v_against))
  else (ob (fX6_touch v_lives v_shields v_effects v_numbers v_against p1) fun (r_21, w_22, w_23) =>
  some (r_21, v_size, w_22, w_23, v_effects, v_numbers, v_players, v_against))
def fX6_doTop_b19 (v_size : Int32) (v_lives : Nat → Int32) (v_shields : Nat → Int32) (v_effects : Nat → Int32) (v_numbers : Nat → Int32) (v_players : Nat → Int32) (v_against : Nat → Int32) : Option (Int32 × Int32 × (Nat → Int32) × (Nat → Int32) × (Nat → Int32) × (Nat → Int32) × (Nat → Int32) × (Nat → Int32)) :=
  some (0, v_size, v_lives, v_shields, v_effects, v_numbers, v_players, v_against)
def fX6_doTop (v_size : Int32) (v_lives : Nat → Int32) (v_shields : Nat → Int32) (v_effects : Nat → Int32) (v_numbers : Nat → Int32) (v_players : Nat → Int32) (v_against : Nat → Int32) : Option (Int32 × Int32 × (Nat → Int32) × (Nat → Int32) × (Nat → Int32) × (Nat → Int32) × (Nat → Int32) × (Nat → Int32)) :=
  nm (v_size - 1) fun x_1 =>
  if x_1 < 0 then
  (fX6_doTop_b19 v_size v_lives v_shields v_effects v_numbers v_players v_against)
  else
  (ob (fX6_act v_size v_lives v_shields v_effects v_numbers v_players v_against x_1) fun (r_3, w_4, w_5, w_6, w_7, w_8, w_9, w_10) =>
  if r_3 = 0 then
  (fX6_doTop_b19 w_4 w_5 w_6 w_7 w_8 w_9 w_10)
  else
  (nm (w_4 - 1) fun x_14 =>
  some (1, x_14, w_5, w_6, w_7, w_8, w_9, w_10)))
/-! draft -/
def fJ9_floorMod_7cf53_b18 (l2 : Int32) : Option (Int32) :=
  some l2
def fJ9_floorMod_7cf53 (p1 : Int32) (p2 : Int32) : Option (Int32) :=
  ck (nz p2) <|
  nm (p1 - p1 / p2 * p2) fun x_2 =>
  if 0 ≤ (p1 ^^^ p2) then
  (fJ9_floorMod_7cf53_b18 x_2)
  else
  (if x_2 = 0 then
  (fJ9_floorMod_7cf53_b18 x_2)
  else
  (some (x_2 + p2)))
def fX0_packInTurn_b28 (v_players : Int32) (v_round : Int32) (v_turn : Int32) (s0 : Int32) : Option (Int32) :=
  some s0
def fX0_packInTurn (v_players : Int32) (v_round : Int32) (v_turn : Int32) : Option (Int32) :=
  if 1 ≤ v_players then
  (ob (fJ9_floorMod_7cf53 (v_turn - v_round) v_players) fun r_2 =>
  fX0_packInTurn_b28 v_players v_round v_turn r_2)
  else
  (fX0_packInTurn_b28 v_players v_round v_turn 0)
def fX0_goesOn_b16 (v_cards : Int32) (v_round : Int32) (s0 : Int32) : Option (Int32) :=
  some s0
def fX0_goesOn (v_cards : Int32) (v_round : Int32) : Option (Int32) :=
  if v_cards ≤ v_round then
  (fX0_goesOn_b16 v_cards v_round 0)
  else
  (fX0_goesOn_b16 v_cards v_round 1)
def fX0_countOffered (v_cards : Int32) (v_round : Int32) : Option (Int32) :=
  some (v_cards - v_round)
def fX0_kindAt (v_players : Int32) (v_round : Int32) (v_turn : Int32) (v_packs : Nat → Nat → Int32) (p1 : Int32) : Option (Int32) :=
  ob (fX0_packInTurn v_players v_round v_turn) fun r_1 =>
  ck (g_in r_1 6) <|
  ck (g_in p1 6) <|
  some (v_packs r_1.toNatClampNeg p1.toNatClampNeg)
def fX0_takeOut_b77 (v_players : Int32) (v_cards : Int32) (v_round : Int32) (v_turn : Int32) (v_packs : Nat → Nat → Int32) : Option (Int32 × Int32 × (Nat → Nat → Int32)) :=
  some (v_round, v_turn, v_packs)
def fX0_takeOut_b9 (v_players : Int32) (v_cards : Int32) : Nat → Int32 → Int32 → (Nat → Nat → Int32) → Int32 → Int32 → Option (Int32 × Int32 × (Nat → Nat → Int32))
  | 0, _, _, _, _, _ => none
  | n + 1, v_round, v_turn, v_packs, l2, l3 =>
  ob (fX0_countOffered v_cards v_round) fun r_1 =>
  if r_1 ≤ l3 then
  (nm (v_turn + 1) fun x_4 =>
  if x_4 < v_players then
  (fX0_takeOut_b77 v_players v_cards v_round x_4 v_packs)
  else
  (nm (v_round + 1) fun x_6 =>
  fX0_takeOut_b77 v_players v_cards x_6 0 v_packs))
  else
  (ck (g_in l2 6) <|
  ck (g_in l2 6) <|
  ck (g_in l3 6) <|
  nm (v_packs l2.toNatClampNeg l3.toNatClampNeg) fun x_10 =>
  ck (g_in (l3 - 1) 6) <|
  nm (l3 + 1) fun x_12 =>
  (fX0_takeOut_b9 v_players v_cards n) v_round v_turn (gup v_packs l2.toNatClampNeg (l3 - 1).toNatClampNeg x_10) l2 x_12)
def fX0_takeOut (v_players : Int32) (v_cards : Int32) (v_round : Int32) (v_turn : Int32) (v_packs : Nat → Nat → Int32) (p1 : Int32) : Option (Int32 × Int32 × (Nat → Nat → Int32)) :=
  ob (fX0_packInTurn v_players v_round v_turn) fun r_1 =>
  nm (p1 + 1) fun x_3 =>
  fX0_takeOut_b9 v_players v_cards 70 v_round v_turn v_packs r_1 x_3
def fX0_begin_b22 (k_13 : Int32 → Int32 → Int32 → Int32 → (Nat → Nat → Int32) → Int32 → Int32 → Int32 → Int32 → Int32 → Option (Int32 × Int32 × Int32 × Int32 × (Nat → Nat → Int32))) : Nat → Int32 → Int32 → Int32 → Int32 → (Nat → Nat → Int32) → Int32 → Int32 → Int32 → Int32 → Int32 → Int32 → Option (Int32 × Int32 × Int32 × Int32 × (Nat → Nat → Int32))
  | 0, _, _, _, _, _, _, _, _, _, _, _ => none
  | n + 1, v_players, v_cards, v_round, v_turn, v_packs, l1, l2, l4, l5, l6, l7 =>
  if l2 ≤ l7 then
  (nm (l6 + 1) fun x_2 =>
  k_13 v_players v_cards v_round v_turn v_packs l1 l2 l4 l5 x_2)
  else
  (nm (((75 * l5) + 74) - ((75 * l5) + 74) / 65537 * 65537) fun x_3 =>
  ck (g_in l6 6) <|
  ck (nz l4) <|
  nm (x_3 - x_3 / l4 * l4) fun x_6 =>
  ck (g_in l7 6) <|
  nm (l7 + 1) fun x_8 =>
  (fX0_begin_b22 k_13 n) v_players v_cards v_round v_turn (gup v_packs l6.toNatClampNeg l7.toNatClampNeg x_6) l1 l2 l4 x_3 l6 x_8)
def fX0_begin_b13 : Nat → Int32 → Int32 → Int32 → Int32 → (Nat → Nat → Int32) → Int32 → Int32 → Int32 → Int32 → Int32 → Option (Int32 × Int32 × Int32 × Int32 × (Nat → Nat → Int32))
  | 0, _, _, _, _, _, _, _, _, _, _ => none
  | n + 1, v_players, v_cards, v_round, v_turn, v_packs, l1, l2, l4, l5, l6 =>
  if l1 ≤ l6 then
  (some (l1, l2, 0, 0, v_packs))
  else
  (fX0_begin_b22 (fX0_begin_b13 n) 70 v_players v_cards v_round v_turn v_packs l1 l2 l4 l5 l6 0)
def fX0_begin (v_players : Int32) (v_cards : Int32) (v_round : Int32) (v_turn : Int32) (v_packs : Nat → Nat → Int32) (p1 : Int32) (p2 : Int32) (p3 : Int32) (p4 : Int32) : Option (Int32 × Int32 × Int32 × Int32 × (Nat → Nat → Int32)) :=
  if 1 ≤ p4 then
  (fX0_begin_b13 70 v_players v_cards v_round v_turn v_packs p1 p2 p4 p3 0)
  else
  (some (v_players, v_cards, v_round, v_turn, v_packs))
/-! history -/
def fX1_add_b30 (v_count : Int32) (v_deeds : Nat → Int32) : Option (Int32 × (Nat → Int32)) :=
  some (v_count, v_deeds)
def fX1_add (v_count : Int32) (v_deeds : Nat → Int32) (p1 : Int32) : Option (Int32 × (Nat → Int32)) :=
  if 512 ≤ v_count then
  (fX1_add_b30 v_count v_deeds)
  else
  (ck (g_in v_count 512) <|
  nm (v_count + 1) fun x_3 =>
  fX1_add_b30 x_3 (upd v_deeds v_count.toNatClampNeg p1))
def fX1_addPlay (v_count : Int32) (v_deeds : Nat → Int32) (p1 : Int32) (p2 : Int32) (p3 : Int32) (p4 : Int32) : Option (Int32 × (Nat → Int32)) :=
  ob (fX1_add v_count v_deeds ((((p1 <<< ((10 : Int32) &&& 31)) ||| (p2 <<< ((6 : Int32) &&& 31))) ||| (p3 <<< ((3 : Int32) &&& 31))) ||| p4)) fun (w_1, w_2) =>
  some (w_1, w_2)
def fX1_addDoing (v_count : Int32) (v_deeds : Nat → Int32) : Option (Int32 × (Nat → Int32)) :=
  ob (fX1_add v_count v_deeds (-1)) fun (w_1, w_2) =>
  some (w_1, w_2)
def fX1_findLife_b68 (k_9 : Int32 → (Nat → Int32) → (Nat → Int32) → (Nat → Int32) → (Nat → Int32) → (Nat → Int32) → (Nat → Int32) → Int32 → Int32 → Option (Int32 × Int32 × (Nat → Int32) × (Nat → Int32) × (Nat → Int32) × (Nat → Int32) × (Nat → Int32) × (Nat → Int32))) (v_count : Int32) (v_deeds : Nat → Int32) (v_anew_size : Int32) (v_anew_lives : Nat → Int32) (v_anew_shields : Nat → Int32) (v_anew_effects : Nat → Int32) (v_anew_numbers : Nat → Int32) (v_anew_players : Nat → Int32) (v_anew_against : Nat → Int32) (l1 : Int32) (l2 : Int32) : Option (Int32 × Int32 × (Nat → Int32) × (Nat → Int32) × (Nat → Int32) × (Nat → Int32) × (Nat → Int32) × (Nat → Int32)) :=
  nm (l2 + 1) fun x_1 =>
  k_9 v_anew_size v_anew_lives v_anew_shields v_anew_effects v_anew_numbers v_anew_players v_anew_against l1 x_1
def fX1_findLife_b9 (v_count : Int32) (v_deeds : Nat → Int32) : Nat → Int32 → (Nat → Int32) → (Nat → Int32) → (Nat → Int32) → (Nat → Int32) → (Nat → Int32) → (Nat → Int32) → Int32 → Int32 → Option (Int32 × Int32 × (Nat → Int32) × (Nat → Int32) × (Nat → Int32) × (Nat → Int32) × (Nat → Int32) × (Nat → Int32))
  | 0, _, _, _, _, _, _, _, _, _ => none
  | n + 1, v_anew_size, v_anew_lives, v_anew_shields, v_anew_effects, v_anew_numbers, v_anew_players, v_anew_against, l1, l2 =>
  if v_count ≤ l2 then
  (ck (g_in l1 6) <|
  some ((v_anew_lives l1.toNatClampNeg), v_anew_size, v_anew_lives, v_anew_shields, v_anew_effects, v_anew_numbers, v_anew_players, v_anew_against))
  else
  (ck (g_in l2 512) <|
  nm (v_deeds l2.toNatClampNeg) fun x_4 =>
  if x_4 = (-1) then
  (ob (fX6_doTop v_anew_size v_anew_lives v_anew_shields v_anew_effects v_anew_numbers v_anew_players v_anew_against) fun (r_12, w_13, w_14, w_15, w_16, w_17, w_18, w_19) =>
  fX1_findLife_b68 (fX1_findLife_b9 v_count v_deeds n) v_count v_deeds w_13 w_14 w_15 w_16 w_17 w_18 w_19 l1 l2)
  else
  (ob (fX6_lay v_anew_size v_anew_effects v_anew_numbers v_anew_players v_anew_against (x_4 >>> ((10 : Int32) &&& 31)) ((x_4 >>> ((6 : Int32) &&& 31)) &&& 15) ((x_4 >>> ((3 : Int32) &&& 31)) &&& 7) (x_4 &&& 7)) fun (w_6, w_7, w_8, w_9, w_10) =>
  fX1_findLife_b68 (fX1_findLife_b9 v_count v_deeds n) v_count v_deeds w_6 v_anew_lives v_anew_shields w_7 w_8 w_9 w_10 l1 l2))
def fX1_findLife (v_count : Int32) (v_deeds : Nat → Int32) (v_anew_size : Int32) (v_anew_lives : Nat → Int32) (v_anew_shields : Nat → Int32) (v_anew_effects : Nat → Int32) (v_anew_numbers : Nat → Int32) (v_anew_players : Nat → Int32) (v_anew_against : Nat → Int32) (p1 : Int32) : Option (Int32 × Int32 × (Nat → Int32) × (Nat → Int32) × (Nat → Int32) × (Nat → Int32) × (Nat → Int32) × (Nat → Int32)) :=
  ob (fX6_clear v_anew_size v_anew_lives v_anew_shields) fun (w_1, w_2, w_3) =>
  fX1_findLife_b9 v_count v_deeds 600 w_1 w_2 w_3 v_anew_effects v_anew_numbers v_anew_players v_anew_against p1 0
/-! kinds -/
def fX2_add (v_count : Int32) (v_effects : Nat → Int32) (v_numbers : Nat → Int32) (v_bans : Nat → Int32) (p1 : Int32) (p2 : Int32) : Option (Int32 × Int32 × (Nat → Int32) × (Nat → Int32) × (Nat → Int32)) :=
  if v_count < 20 then
  (ck (g_in v_count 20) <|
  ck (g_in v_count 20) <|
  ck (g_in v_count 20) <|
  nm (v_count + 1) fun x_5 =>
  some ((x_5 - 1), x_5, (upd v_effects v_count.toNatClampNeg p1), (upd v_numbers v_count.toNatClampNeg p2), (upd v_bans v_count.toNatClampNeg 1001)))
  else
  (some ((-1), v_count, v_effects, v_numbers, v_bans))
def fX2_isBanned_b15 (v_bans : Nat → Int32) (s0 : Int32) : Option (Int32) :=
  some s0
def fX2_isBanned (v_bans : Nat → Int32) (p1 : Int32) (p2 : Int32) : Option (Int32) :=
  ck (g_in p1 20) <|
  if p2 < (v_bans p1.toNatClampNeg) then
  (fX2_isBanned_b15 v_bans 0)
  else
  (fX2_isBanned_b15 v_bans 1)
/-! shelf -/
def fX5_mostInDeck (v_cards : Nat → Nat → Int32) (p1 : Int32) (p2 : Int32) : Option (Int32) :=
  ck (g_in p1 6) <|
  ck (g_in p2 20) <|
  nm (if 3 < (v_cards p1.toNatClampNeg p2.toNatClampNeg) then 3 else (v_cards p1.toNatClampNeg p2.toNatClampNeg)) fun x_3 =>
  some x_3
def fX5_countDecksWith_b24 (k_4 : Int32 → Int32 → Int32 → Option (Int32)) (v_decks : Nat → Nat → Int32) (l1 : Int32) (l2 : Int32) (l3 : Int32) : Option (Int32) :=
  nm (l3 + 1) fun x_1 =>
  k_4 l1 l2 x_1
def fX5_countDecksWith_b4 (v_decks : Nat → Nat → Int32) : Nat → Int32 → Int32 → Int32 → Option (Int32)
  | 0, _, _, _ => none
  | n + 1, l1, l2, l3 =>
  if 6 ≤ l3 then
  (some l2)
  else
  (ck (g_in l3 6) <|
  ck (g_in l1 20) <|
  if (v_decks l3.toNatClampNeg l1.toNatClampNeg) ≤ 0 then
  (fX5_countDecksWith_b24 (fX5_countDecksWith_b4 v_decks n) v_decks l1 l2 l3)
  else
  (nm (l2 + 1) fun x_5 =>
  fX5_countDecksWith_b24 (fX5_countDecksWith_b4 v_decks n) v_decks l1 x_5 l3))
def fX5_countDecksWith (v_decks : Nat → Nat → Int32) (p1 : Int32) : Option (Int32) :=
  fX5_countDecksWith_b4 v_decks 70 p1 0 0
def fX5_isDeckFull_b16 (v_deckSizes : Nat → Int32) (s0 : Int32) : Option (Int32) :=
  some s0
def fX5_isDeckFull (v_deckSizes : Nat → Int32) (p1 : Int32) : Option (Int32) :=
  ck (g_in p1 6) <|
  if (v_deckSizes p1.toNatClampNeg) < 8 then
  (fX5_isDeckFull_b16 v_deckSizes 0)
  else
  (fX5_isDeckFull_b16 v_deckSizes 1)
def fX5_mayTakeMore_b22 (v_cards : Nat → Nat → Int32) (v_decks : Nat → Nat → Int32) (s0 : Int32) : Option (Int32) :=
  some s0
def fX5_mayTakeMore (v_cards : Nat → Nat → Int32) (v_decks : Nat → Nat → Int32) (p1 : Int32) (p2 : Int32) : Option (Int32) :=
  ck (g_in p1 6) <|
  ck (g_in p2 20) <|
  ob (fX5_mostInDeck v_cards p1 p2) fun r_3 =>
  if r_3 ≤ (v_decks p1.toNatClampNeg p2.toNatClampNeg) then
  (fX5_mayTakeMore_b22 v_cards v_decks 0)
  else
  (fX5_mayTakeMore_b22 v_cards v_decks 1)
def fX5_addToDeck (v_decks : Nat → Nat → Int32) (v_deckSizes : Nat → Int32) (p1 : Int32) (p2 : Int32) : Option (Int32 × (Nat → Nat → Int32) × (Nat → Int32)) :=
  ck (g_in p1 6) <|
  ck (g_in p2 20) <|
  nm ((v_decks p1.toNatClampNeg p2.toNatClampNeg) + 1) fun x_3 =>
  ck (g_in p2 20) <|
  ck (g_in p1 6) <|
  nm ((v_deckSizes p1.toNatClampNeg) + 1) fun x_6 =>
  ck (g_in p1 6) <|
  ck (g_in p1 6) <|
  some (((upd v_deckSizes p1.toNatClampNeg x_6) p1.toNatClampNeg), (gup v_decks p1.toNatClampNeg p2.toNatClampNeg x_3), (upd v_deckSizes p1.toNatClampNeg x_6))
def fX5_isDeckGood_b75 (v_cards : Nat → Nat → Int32) (v_decks : Nat → Nat → Int32) (v_deckSizes : Nat → Int32) (v_o2_bans : Nat → Int32) : Option (Int32) :=
  some 0
def fX5_isDeckGood_b77 (k_15 : Int32 → Int32 → Int32 → Option (Int32)) (v_cards : Nat → Nat → Int32) (v_decks : Nat → Nat → Int32) (v_deckSizes : Nat → Int32) (v_o2_bans : Nat → Int32) (l1 : Int32) (l3 : Int32) (l4 : Int32) : Option (Int32) :=
  nm (l4 + 1) fun x_1 =>
  k_15 l1 l3 x_1
def fX5_isDeckGood_b46 (k_15 : Int32 → Int32 → Int32 → Option (Int32)) (v_cards : Nat → Nat → Int32) (v_decks : Nat → Nat → Int32) (v_deckSizes : Nat → Int32) (v_o2_bans : Nat → Int32) (l1 : Int32) (l3 : Int32) (l4 : Int32) (s0 : Int32) : Option (Int32) :=
  if s0 = 0 then
  (ck (g_in l1 6) <|
  ck (g_in l4 20) <|
  if (v_decks l1.toNatClampNeg l4.toNatClampNeg) ≤ 0 then
  (fX5_isDeckGood_b77 k_15 v_cards v_decks v_deckSizes v_o2_bans l1 l3 l4)
  else
  (ob (fX2_isBanned v_o2_bans l4 l3) fun r_5 =>
  if r_5 = 0 then
  (fX5_isDeckGood_b77 k_15 v_cards v_decks v_deckSizes v_o2_bans l1 l3 l4)
  else
  (fX5_isDeckGood_b75 v_cards v_decks v_deckSizes v_o2_bans)))
  else
  (fX5_isDeckGood_b75 v_cards v_decks v_deckSizes v_o2_bans)
def fX5_isDeckGood_b15 (v_cards : Nat → Nat → Int32) (v_decks : Nat → Nat → Int32) (v_deckSizes : Nat → Int32) (v_o2_bans : Nat → Int32) : Nat → Int32 → Int32 → Int32 → Option (Int32)
  | 0, _, _, _ => none
  | n + 1, l1, l3, l4 =>
  if 20 ≤ l4 then
  (some 1)
  else
  (ck (g_in l1 6) <|
  ck (g_in l4 20) <|
  ob (fX5_mostInDeck v_cards l1 l4) fun r_4 =>
  if (v_decks l1.toNatClampNeg l4.toNatClampNeg) ≤ r_4 then
  (fX5_isDeckGood_b46 (fX5_isDeckGood_b15 v_cards v_decks v_deckSizes v_o2_bans n) v_cards v_decks v_deckSizes v_o2_bans l1 l3 l4 0)
  else
  (fX5_isDeckGood_b46 (fX5_isDeckGood_b15 v_cards v_decks v_deckSizes v_o2_bans n) v_cards v_decks v_deckSizes v_o2_bans l1 l3 l4 1))
def fX5_isDeckGood (v_cards : Nat → Nat → Int32) (v_decks : Nat → Nat → Int32) (v_deckSizes : Nat → Int32) (v_o2_bans : Nat → Int32) (p1 : Int32) (p3 : Int32) : Option (Int32) :=
  ck (g_in p1 6) <|
  if 4 ≤ (v_deckSizes p1.toNatClampNeg) then
  (fX5_isDeckGood_b15 v_cards v_decks v_deckSizes v_o2_bans 70 p1 p3 0)
  else
  (some 0)
/-! matches -/
def fX3_tell (v_strengths : Nat → Int32) (v_met : Nat → Int32) (p1 : Int32) (p2 : Int32) : Option (Int32 × (Nat → Int32) × (Nat → Int32)) :=
  ck (g_in p2 6) <|
  ck (g_in p1 6) <|
  nm (((v_strengths p2.toNatClampNeg) - (v_strengths p1.toNatClampNeg)) / 4) fun x_3 =>
  nm (if (16 + x_3) < 32 then (16 + x_3) else 32) fun x_4 =>
  nm (if 1 < x_4 then x_4 else 1) fun x_5 =>
  ck (g_in p1 6) <|
  nm ((v_strengths p1.toNatClampNeg) + x_5) fun x_7 =>
  ck (g_in p1 6) <|
  ck (g_in p2 6) <|
  nm (((upd v_strengths p1.toNatClampNeg x_7) p2.toNatClampNeg) - x_5) fun x_10 =>
  ck (g_in p2 6) <|
  ck (g_in p1 6) <|
  nm ((v_met p1.toNatClampNeg) ||| ((1 : Int32) <<< (p2 &&& 31))) fun x_13 =>
  ck (g_in p1 6) <|
  ck (g_in p2 6) <|
  nm (((upd v_met p1.toNatClampNeg x_13) p2.toNatClampNeg) ||| ((1 : Int32) <<< (p1 &&& 31))) fun x_16 =>
  ck (g_in p2 6) <|
  some (x_5, (upd (upd v_strengths p1.toNatClampNeg x_7) p2.toNatClampNeg x_10), (upd (upd v_met p1.toNatClampNeg x_13) p2.toNatClampNeg x_16))
def fX3_putIntoRow_b61 (v_strengths : Nat → Int32) (v_length : Int32) (v_row : Nat → Int32) (l1 : Int32) (l2 : Int32) : Option (Int32 × (Nat → Int32)) :=
  ck (g_in l2 6) <|
  nm (v_length + 1) fun x_2 =>
  some (x_2, (upd v_row l2.toNatClampNeg l1))
def fX3_putIntoRow_b15 (v_strengths : Nat → Int32) : Nat → Int32 → (Nat → Int32) → Int32 → Int32 → Option (Int32 × (Nat → Int32))
  | 0, _, _, _, _ => none
  | n + 1, v_length, v_row, l1, l2 =>
  if l2 ≤ 0 then
  (fX3_putIntoRow_b61 v_strengths v_length v_row l1 l2)
  else
  (ck (g_in (l2 - 1) 6) <|
  ck (g_in (v_row (l2 - 1).toNatClampNeg) 6) <|
  ck (g_in l1 6) <|
  if (v_strengths l1.toNatClampNeg) ≤ (v_strengths (v_row (l2 - 1).toNatClampNeg).toNatClampNeg) then
  (fX3_putIntoRow_b61 v_strengths v_length v_row l1 l2)
  else
  (ck (g_in (l2 - 1) 6) <|
  nm (v_row (l2 - 1).toNatClampNeg) fun x_7 =>
  ck (g_in l2 6) <|
  nm (l2 + (-1)) fun x_9 =>
  (fX3_putIntoRow_b15 v_strengths n) v_length (upd v_row l2.toNatClampNeg x_7) l1 x_9))
def fX3_putIntoRow (v_length : Int32) (v_strengths : Nat → Int32) (v_row : Nat → Int32) (p1 : Int32) : Option (Int32 × (Nat → Int32)) :=
  if v_length < 6 then
  (fX3_putIntoRow_b15 v_strengths 70 v_length v_row p1 v_length)
  else
  (some (v_length, v_row))
def fX3_makeRow_b27 (k_7 : Int32 → (Nat → Int32) → Int32 → Int32 → Option (Int32 × (Nat → Int32))) (v_strengths : Nat → Int32) (v_length : Int32) (v_row : Nat → Int32) (l1 : Int32) (l2 : Int32) : Option (Int32 × (Nat → Int32)) :=
  nm (l2 + 1) fun x_1 =>
  k_7 v_length v_row l1 x_1
def fX3_makeRow_b7 (v_strengths : Nat → Int32) : Nat → Int32 → (Nat → Int32) → Int32 → Int32 → Option (Int32 × (Nat → Int32))
  | 0, _, _, _, _ => none
  | n + 1, v_length, v_row, l1, l2 =>
  if 6 ≤ l2 then
  (some (v_length, v_row))
  else
  (if ((l1 >>> (l2 &&& 31)) &&& 1) = 1 then
  (ob (fX3_putIntoRow v_length v_strengths v_row l2) fun (w_3, w_4) =>
  fX3_makeRow_b27 (fX3_makeRow_b7 v_strengths n) v_strengths w_3 w_4 l1 l2)
  else
  (fX3_makeRow_b27 (fX3_makeRow_b7 v_strengths n) v_strengths v_length v_row l1 l2))
def fX3_makeRow (v_length : Int32) (v_strengths : Nat → Int32) (v_row : Nat → Int32) (p1 : Int32) : Option (Int32 × (Nat → Int32)) :=
  fX3_makeRow_b7 v_strengths 70 0 v_row p1 0
/-! pairs -/
def fX3_canPair_b68 (a_X3_canPair : Int32 → (Nat → Int32) → (Nat → Int32) → (Nat → Int32) → Int32 → Int32 → Option (Int32 × (Nat → Int32))) (a_X3_canPairBoth : Int32 → (Nat → Int32) → (Nat → Int32) → (Nat → Int32) → Int32 → Int32 → Int32 → Int32 → Option (Int32 × (Nat → Int32))) (k_33 : (Nat → Int32) → Int32 → Int32 → Int32 → Int32 → Option (Int32 × (Nat → Int32))) (v_length : Int32) (v_met : Nat → Int32) (v_row : Nat → Int32) (v_others : Nat → Int32) (l1 : Int32) (l2 : Int32) (l3 : Int32) (l4 : Int32) : Option (Int32 × (Nat → Int32)) :=
  nm (l4 + 1) fun x_1 =>
  k_33 v_others l1 l2 l3 x_1
def fX3_canPair_b33 (a_X3_canPair : Int32 → (Nat → Int32) → (Nat → Int32) → (Nat → Int32) → Int32 → Int32 → Option (Int32 × (Nat → Int32))) (a_X3_canPairBoth : Int32 → (Nat → Int32) → (Nat → Int32) → (Nat → Int32) → Int32 → Int32 → Int32 → Int32 → Option (Int32 × (Nat → Int32))) (v_length : Int32) (v_met : Nat → Int32) (v_row : Nat → Int32) : Nat → (Nat → Int32) → Int32 → Int32 → Int32 → Int32 → Option (Int32 × (Nat → Int32))
  | 0, _, _, _, _, _ => none
  | n + 1, v_others, l1, l2, l3, l4 =>
  if v_length ≤ l4 then
  (some (0, v_others))
  else
  (if ((l1 >>> (l4 &&& 31)) &&& 1) = 1 then
  (ob (a_X3_canPairBoth v_length v_met v_row v_others l3 l4 l1 (l2 + 1)) fun (r_3, w_4) =>
  if r_3 = 0 then
  (fX3_canPair_b68 a_X3_canPair a_X3_canPairBoth (fX3_canPair_b33 a_X3_canPair a_X3_canPairBoth v_length v_met v_row n) v_length v_met v_row w_4 l1 l2 l3 l4)
  else
  (some (1, w_4)))
  else
  (fX3_canPair_b68 a_X3_canPair a_X3_canPairBoth (fX3_canPair_b33 a_X3_canPair a_X3_canPairBoth v_length v_met v_row n) v_length v_met v_row v_others l1 l2 l3 l4))
def fX3_canPair_b28 (a_X3_canPair : Int32 → (Nat → Int32) → (Nat → Int32) → (Nat → Int32) → Int32 → Int32 → Option (Int32 × (Nat → Int32))) (a_X3_canPairBoth : Int32 → (Nat → Int32) → (Nat → Int32) → (Nat → Int32) → Int32 → Int32 → Int32 → Int32 → Option (Int32 × (Nat → Int32))) (v_length : Int32) (v_met : Nat → Int32) (v_row : Nat → Int32) (v_others : Nat → Int32) (l1 : Int32) (l2 : Int32) (l3 : Int32) : Option (Int32 × (Nat → Int32)) :=
  nm (l3 + 1) fun x_1 =>
  fX3_canPair_b33 a_X3_canPair a_X3_canPairBoth v_length v_met v_row 70 v_others l1 l2 l3 x_1
def fX3_canPair_b8 (a_X3_canPair : Int32 → (Nat → Int32) → (Nat → Int32) → (Nat → Int32) → Int32 → Int32 → Option (Int32 × (Nat → Int32))) (a_X3_canPairBoth : Int32 → (Nat → Int32) → (Nat → Int32) → (Nat → Int32) → Int32 → Int32 → Int32 → Int32 → Option (Int32 × (Nat → Int32))) (v_length : Int32) (v_met : Nat → Int32) (v_row : Nat → Int32) : Nat → (Nat → Int32) → Int32 → Int32 → Int32 → Option (Int32 × (Nat → Int32))
  | 0, _, _, _, _ => none
  | n + 1, v_others, l1, l2, l3 =>
  if 6 ≤ l3 then
  (fX3_canPair_b28 a_X3_canPair a_X3_canPairBoth v_length v_met v_row v_others l1 l2 l3)
  else
  (if ((l1 >>> (l3 &&& 31)) &&& 1) = 0 then
  (nm (l3 + 1) fun x_3 =>
  (fX3_canPair_b8 a_X3_canPair a_X3_canPairBoth v_length v_met v_row n) v_others l1 l2 x_3)
  else
  (fX3_canPair_b28 a_X3_canPair a_X3_canPairBoth v_length v_met v_row v_others l1 l2 l3))
def bX3_canPair (a_X3_canPair : Int32 → (Nat → Int32) → (Nat → Int32) → (Nat → Int32) → Int32 → Int32 → Option (Int32 × (Nat → Int32))) (a_X3_canPairBoth : Int32 → (Nat → Int32) → (Nat → Int32) → (Nat → Int32) → Int32 → Int32 → Int32 → Int32 → Option (Int32 × (Nat → Int32))) (v_length : Int32) (v_met : Nat → Int32) (v_row : Nat → Int32) (v_others : Nat → Int32) (p1 : Int32) (p2 : Int32) : Option (Int32 × (Nat → Int32)) :=
  if p1 = 0 then
  (some (1, v_others))
  else
  (fX3_canPair_b8 a_X3_canPair a_X3_canPairBoth v_length v_met v_row 70 v_others p1 p2 0)
def fX3_canPairBoth_b73 (a_X3_canPair : Int32 → (Nat → Int32) → (Nat → Int32) → (Nat → Int32) → Int32 → Int32 → Option (Int32 × (Nat → Int32))) (a_X3_canPairBoth : Int32 → (Nat → Int32) → (Nat → Int32) → (Nat → Int32) → Int32 → Int32 → Int32 → Int32 → Option (Int32 × (Nat → Int32))) (v_length : Int32) (v_met : Nat → Int32) (v_row : Nat → Int32) (v_others : Nat → Int32) : Option (Int32 × (Nat → Int32)) :=
  some (0, v_others)
def fX3_canPairBoth_b37 (a_X3_canPair : Int32 → (Nat → Int32) → (Nat → Int32) → (Nat → Int32) → Int32 → Int32 → Option (Int32 × (Nat → Int32))) (a_X3_canPairBoth : Int32 → (Nat → Int32) → (Nat → Int32) → (Nat → Int32) → Int32 → Int32 → Int32 → Int32 → Option (Int32 × (Nat → Int32))) (v_length : Int32) (v_met : Nat → Int32) (v_row : Nat → Int32) (v_others : Nat → Int32) (l1 : Int32) (l2 : Int32) (l3 : Int32) (l4 : Int32) (l5 : Int32) (l6 : Int32) (s0 : Int32) : Option (Int32 × (Nat → Int32)) :=
  if s0 = 0 then
  (if 6 < l4 then
  (fX3_canPairBoth_b73 a_X3_canPair a_X3_canPairBoth v_length v_met v_row v_others)
  else
  (ob (a_X3_canPair v_length v_met v_row v_others ((l3 &&& (((1 : Int32) <<< (l1 &&& 31)) ^^^ (-1))) &&& (((1 : Int32) <<< (l2 &&& 31)) ^^^ (-1))) l4) fun (r_3, w_4) =>
  if r_3 = 0 then
  (fX3_canPairBoth_b73 a_X3_canPair a_X3_canPairBoth v_length v_met v_row w_4)
  else
  (ck (g_in l5 6) <|
  ck (g_in l6 6) <|
  some (1, (upd (upd w_4 l5.toNatClampNeg l6) l6.toNatClampNeg l5)))))
  else
  (fX3_canPairBoth_b73 a_X3_canPair a_X3_canPairBoth v_length v_met v_row v_others)
def bX3_canPairBoth (a_X3_canPair : Int32 → (Nat → Int32) → (Nat → Int32) → (Nat → Int32) → Int32 → Int32 → Option (Int32 × (Nat → Int32))) (a_X3_canPairBoth : Int32 → (Nat → Int32) → (Nat → Int32) → (Nat → Int32) → Int32 → Int32 → Int32 → Int32 → Option (Int32 × (Nat → Int32))) (v_length : Int32) (v_met : Nat → Int32) (v_row : Nat → Int32) (v_others : Nat → Int32) (p1 : Int32) (p2 : Int32) (p3 : Int32) (p4 : Int32) : Option (Int32 × (Nat → Int32)) :=
  ck (g_in p1 6) <|
  nm (v_row p1.toNatClampNeg) fun x_2 =>
  ck (g_in p2 6) <|
  nm (v_row p2.toNatClampNeg) fun x_4 =>
  ck (g_in x_2 6) <|
  if (((v_met x_2.toNatClampNeg) >>> (x_4 &&& 31)) &&& 1) = 1 then
  (fX3_canPairBoth_b37 a_X3_canPair a_X3_canPairBoth v_length v_met v_row v_others p1 p2 p3 p4 x_2 x_4 1)
  else
  (fX3_canPairBoth_b37 a_X3_canPair a_X3_canPairBoth v_length v_met v_row v_others p1 p2 p3 p4 x_2 x_4 0)
def fPair : Nat → (Int32 → (Nat → Int32) → (Nat → Int32) → (Nat → Int32) → Int32 → Int32 → Option (Int32 × (Nat → Int32))) × (Int32 → (Nat → Int32) → (Nat → Int32) → (Nat → Int32) → Int32 → Int32 → Int32 → Int32 → Option (Int32 × (Nat → Int32)))
  | 0 => (fun _ _ _ _ _ _ => none, fun _ _ _ _ _ _ _ _ => none)
  | n + 1 => (bX3_canPair (fPair n).1 (fPair n).2, bX3_canPairBoth (fPair n).1 (fPair n).2)
def fX3_canPair (dep : Nat) : Int32 → (Nat → Int32) → (Nat → Int32) → (Nat → Int32) → Int32 → Int32 → Option (Int32 × (Nat → Int32)) := (fPair dep).1
def fX3_canPairBoth (dep : Nat) : Int32 → (Nat → Int32) → (Nat → Int32) → (Nat → Int32) → Int32 → Int32 → Int32 → Int32 → Option (Int32 × (Nat → Int32)) := (fPair dep).2
/-! findother -/
def fX3_findOther_b61 (v_strengths : Nat → Int32) (v_met : Nat → Int32) (v_length : Int32) (v_row : Nat → Int32) (v_others : Nat → Int32) (s0 : Int32) : Option (Int32 × Int32 × (Nat → Int32) × (Nat → Int32)) :=
  some (s0, v_length, v_row, v_others)
def fX3_findOther_b7 (v_strengths : Nat → Int32) (v_met : Nat → Int32) : Nat → Int32 → (Nat → Int32) → (Nat → Int32) → Int32 → Int32 → Option (Int32 × Int32 × (Nat → Int32) × (Nat → Int32))
  | 0, _, _, _, _, _ => none
  | n + 1, v_length, v_row, v_others, l1, l3 =>
  if 6 ≤ l3 then
  (nm (v_length - (v_length - v_length / 2 * 2)) fun x_2 =>
  ob (fX3_canPair 9 v_length v_met v_row v_others (((1 : Int32) <<< (x_2 &&& 31)) - 1) 0) fun (r_3, w_4) =>
  if r_3 = 0 then
  (fX3_findOther_b61 v_strengths v_met v_length v_row w_4 (-1))
  else
  (ck (g_in l1 6) <|
  fX3_findOther_b61 v_strengths v_met v_length v_row w_4 (w_4 l1.toNatClampNeg)))
  else
  (ck (g_in l3 6) <|
  nm (l3 + 1) fun x_10 =>
  (fX3_findOther_b7 v_strengths v_met n) v_length v_row (upd v_others l3.toNatClampNeg (-1)) l1 x_10)
def fX3_findOther (v_length : Int32) (v_strengths : Nat → Int32) (v_met : Nat → Int32) (v_row : Nat → Int32) (v_others : Nat → Int32) (p1 : Int32) (p2 : Int32) : Option (Int32 × Int32 × (Nat → Int32) × (Nat → Int32)) :=
  ob (fX3_makeRow v_length v_strengths v_row p2) fun (w_1, w_2) =>
  fX3_findOther_b7 v_strengths v_met 70 w_1 w_2 v_others p1 0
/-! wishes -/
def fX7_tell (v_gives : Nat → Int32) (v_wants : Nat → Int32) (p1 : Int32) (p2 : Int32) (p3 : Int32) : Option ((Nat → Int32) × (Nat → Int32)) :=
  ck (g_in p1 6) <|
  ck (g_in p1 6) <|
  some ((upd v_gives p1.toNatClampNeg p2), (upd v_wants p1.toNatClampNeg p3))
def fX7_isGiver_b17 (v_givers : Int32) (s0 : Int32) : Option (Int32) :=
  some s0
def fX7_isGiver (v_givers : Int32) (p1 : Int32) : Option (Int32) :=
  if ((v_givers >>> (p1 &&& 31)) &&& 1) = 1 then
  (fX7_isGiver_b17 v_givers 1)
  else
  (fX7_isGiver_b17 v_givers 0)
def fX7_isInRow_b2 (v_row : Nat → Int32) : Nat → Int32 → Int32 → Int32 → Option (Int32)
  | 0, _, _, _ => none
  | n + 1, l1, l2, l3 =>
  if l2 ≤ l3 then
  (some 0)
  else
  (ck (g_in l3 6) <|
  if (v_row l3.toNatClampNeg) = l1 then
  (some 1)
  else
  (nm (l3 + 1) fun x_4 =>
  (fX7_isInRow_b2 v_row n) l1 l2 x_4))
def fX7_isInRow (v_row : Nat → Int32) (p1 : Int32) (p2 : Int32) : Option (Int32) :=
  fX7_isInRow_b2 v_row 70 p1 p2 0
def fX7_findGivers_b47 (k_7 : Int32 → Int32 → Option (Int32)) (v_gives : Nat → Int32) (v_o1 : Nat → Nat → Int32) (v_givers : Int32) (l2 : Int32) : Option (Int32) :=
  nm (l2 + 1) fun x_1 =>
  k_7 v_givers x_1
def fX7_findGivers_b7 (v_gives : Nat → Int32) (v_o1 : Nat → Nat → Int32) : Nat → Int32 → Int32 → Option (Int32)
  | 0, _, _ => none
  | n + 1, v_givers, l2 =>
  if 6 ≤ l2 then
  (some v_givers)
  else
  (ck (g_in l2 6) <|
  if (v_gives l2.toNatClampNeg) < 0 then
  (fX7_findGivers_b47 (fX7_findGivers_b7 v_gives v_o1 n) v_gives v_o1 v_givers l2)
  else
  (ck (g_in l2 6) <|
  ck (g_in l2 6) <|
  ck (g_in (v_gives l2.toNatClampNeg) 20) <|
  if (v_o1 l2.toNatClampNeg (v_gives l2.toNatClampNeg).toNatClampNeg) ≤ 0 then
  (fX7_findGivers_b47 (fX7_findGivers_b7 v_gives v_o1 n) v_gives v_o1 v_givers l2)
  else
  (nm (v_givers ||| ((1 : Int32) <<< (l2 &&& 31))) fun x_8 =>
  fX7_findGivers_b47 (fX7_findGivers_b7 v_gives v_o1 n) v_gives v_o1 x_8 l2)))
def fX7_findGivers (v_givers : Int32) (v_gives : Nat → Int32) (v_o1 : Nat → Nat → Int32) : Option (Int32) :=
  fX7_findGivers_b7 v_gives v_o1 70 0 0
/-! joins -/
def bX7_joins (a_X7_joins : Int32 → (Nat → Int32) → (Nat → Int32) → (Nat → Int32) → Int32 → Int32 → Int32 → Option (Int32 × (Nat → Int32))) (a_X7_isRing : Int32 → (Nat → Int32) → (Nat → Int32) → (Nat → Int32) → Int32 → Int32 → Option (Int32 × (Nat → Int32))) (v_givers : Int32) (v_gives : Nat → Int32) (v_wants : Nat → Int32) (v_row : Nat → Int32) (p1 : Int32) (p2 : Int32) (p3 : Int32) : Option (Int32 × (Nat → Int32)) :=
  if p2 < 6 then
  (ck (g_in p2 6) <|
  ob (a_X7_isRing v_givers v_gives v_wants (upd v_row p2.toNatClampNeg p1) (p2 + 1) p3) fun (r_3, w_4) =>
  some (r_3, w_4))
  else
  (some (0, v_row))
def fX7_isRing_b39 (a_X7_joins : Int32 → (Nat → Int32) → (Nat → Int32) → (Nat → Int32) → Int32 → Int32 → Int32 → Option (Int32 × (Nat → Int32))) (a_X7_isRing : Int32 → (Nat → Int32) → (Nat → Int32) → (Nat → Int32) → Int32 → Int32 → Option (Int32 × (Nat → Int32))) (v_givers : Int32) (v_gives : Nat → Int32) (v_wants : Nat → Int32) (v_row : Nat → Int32) (s0 : Int32) : Option (Int32 × (Nat → Int32)) :=
  some (s0, v_row)
def fX7_isRing_b117 (a_X7_joins : Int32 → (Nat → Int32) → (Nat → Int32) → (Nat → Int32) → Int32 → Int32 → Int32 → Option (Int32 × (Nat → Int32))) (a_X7_isRing : Int32 → (Nat → Int32) → (Nat → Int32) → (Nat → Int32) → Int32 → Int32 → Option (Int32 × (Nat → Int32))) (k_50 : (Nat → Int32) → Int32 → Int32 → Int32 → Int32 → Option (Int32 × (Nat → Int32))) (v_givers : Int32) (v_gives : Nat → Int32) (v_wants : Nat → Int32) (v_row : Nat → Int32) (l1 : Int32) (l2 : Int32) (l3 : Int32) (l4 : Int32) : Option (Int32 × (Nat → Int32)) :=
  nm (l4 + 1) fun x_1 =>
  k_50 v_row l1 l2 l3 x_1
def fX7_isRing_b97 (a_X7_joins : Int32 → (Nat → Int32) → (Nat → Int32) → (Nat → Int32) → Int32 → Int32 → Int32 → Option (Int32 × (Nat → Int32))) (a_X7_isRing : Int32 → (Nat → Int32) → (Nat → Int32) → (Nat → Int32) → Int32 → Int32 → Option (Int32 × (Nat → Int32))) (k_50 : (Nat → Int32) → Int32 → Int32 → Int32 → Int32 → Option (Int32 × (Nat → Int32))) (v_givers : Int32) (v_gives : Nat → Int32) (v_wants : Nat → Int32) (v_row : Nat → Int32) (l1 : Int32) (l2 : Int32) (l3 : Int32) (l4 : Int32) (s0 : Int32) : Option (Int32 × (Nat → Int32)) :=
  if s0 = 0 then
  (fX7_isRing_b117 a_X7_joins a_X7_isRing k_50 v_givers v_gives v_wants v_row l1 l2 l3 l4)
  else
  (ob (a_X7_joins v_givers v_gives v_wants v_row l4 l1 l2) fun (r_2, w_3) =>
  if r_2 = 0 then
  (fX7_isRing_b117 a_X7_joins a_X7_isRing k_50 v_givers v_gives v_wants w_3 l1 l2 l3 l4)
  else
  (some (1, w_3)))
def fX7_isRing_b96 (a_X7_joins : Int32 → (Nat → Int32) → (Nat → Int32) → (Nat → Int32) → Int32 → Int32 → Int32 → Option (Int32 × (Nat → Int32))) (a_X7_isRing : Int32 → (Nat → Int32) → (Nat → Int32) → (Nat → Int32) → Int32 → Int32 → Option (Int32 × (Nat → Int32))) (k_50 : (Nat → Int32) → Int32 → Int32 → Int32 → Int32 → Option (Int32 × (Nat → Int32))) (v_givers : Int32) (v_gives : Nat → Int32) (v_wants : Nat → Int32) (v_row : Nat → Int32) (l1 : Int32) (l2 : Int32) (l3 : Int32) (l4 : Int32) : Option (Int32 × (Nat → Int32)) :=
  fX7_isRing_b97 a_X7_joins a_X7_isRing k_50 v_givers v_gives v_wants v_row l1 l2 l3 l4 0
def fX7_isRing_b50 (a_X7_joins : Int32 → (Nat → Int32) → (Nat → Int32) → (Nat → Int32) → Int32 → Int32 → Int32 → Option (Int32 × (Nat → Int32))) (a_X7_isRing : Int32 → (Nat → Int32) → (Nat → Int32) → (Nat → Int32) → Int32 → Int32 → Option (Int32 × (Nat → Int32))) (v_givers : Int32) (v_gives : Nat → Int32) (v_wants : Nat → Int32) : Nat → (Nat → Int32) → Int32 → Int32 → Int32 → Int32 → Option (Int32 × (Nat → Int32))
  | 0, _, _, _, _, _ => none
  | n + 1, v_row, l1, l2, l3, l4 =>
  if 6 ≤ l4 then
  (some (0, v_row))
  else
  (ob (fX7_isGiver v_givers l4) fun r_2 =>
  if r_2 = 0 then
  (fX7_isRing_b96 a_X7_joins a_X7_isRing (fX7_isRing_b50 a_X7_joins a_X7_isRing v_givers v_gives v_wants n) v_givers v_gives v_wants v_row l1 l2 l3 l4)
  else
  (ck (g_in l3 6) <|
  ck (g_in l4 6) <|
  if (v_gives l3.toNatClampNeg) = (v_wants l4.toNatClampNeg) then
  (ob (fX7_isInRow v_row l4 l1) fun r_9 =>
  if r_9 = 0 then
  (fX7_isRing_b97 a_X7_joins a_X7_isRing (fX7_isRing_b50 a_X7_joins a_X7_isRing v_givers v_gives v_wants n) v_givers v_gives v_wants v_row l1 l2 l3 l4 1)
  else
  (fX7_isRing_b96 a_X7_joins a_X7_isRing (fX7_isRing_b50 a_X7_joins a_X7_isRing v_givers v_gives v_wants n) v_givers v_gives v_wants v_row l1 l2 l3 l4))
  else
  (fX7_isRing_b96 a_X7_joins a_X7_isRing (fX7_isRing_b50 a_X7_joins a_X7_isRing v_givers v_gives v_wants n) v_givers v_gives v_wants v_row l1 l2 l3 l4)))
def bX7_isRing (a_X7_joins : Int32 → (Nat → Int32) → (Nat → Int32) → (Nat → Int32) → Int32 → Int32 → Int32 → Option (Int32 × (Nat → Int32))) (a_X7_isRing : Int32 → (Nat → Int32) → (Nat → Int32) → (Nat → Int32) → Int32 → Int32 → Option (Int32 × (Nat → Int32))) (v_givers : Int32) (v_gives : Nat → Int32) (v_wants : Nat → Int32) (v_row : Nat → Int32) (p1 : Int32) (p2 : Int32) : Option (Int32 × (Nat → Int32)) :=
  ck (g_in (p1 - 1) 6) <|
  nm (v_row (p1 - 1).toNatClampNeg) fun x_2 =>
  if p1 = p2 then
  (ck (g_in x_2 6) <|
  ck (g_in 0 6) <|
  ck (g_in (v_row (0 : Int32).toNatClampNeg) 6) <|
  if (v_gives x_2.toNatClampNeg) = (v_wants (v_row (0 : Int32).toNatClampNeg).toNatClampNeg) then
  (fX7_isRing_b39 a_X7_joins a_X7_isRing v_givers v_gives v_wants v_row 1)
  else
  (fX7_isRing_b39 a_X7_joins a_X7_isRing v_givers v_gives v_wants v_row 0))
  else
  (ck (g_in 0 6) <|
  nm ((v_row (0 : Int32).toNatClampNeg) + 1) fun x_5 =>
  fX7_isRing_b50 a_X7_joins a_X7_isRing v_givers v_gives v_wants 70 v_row p1 p2 x_2 x_5)
def fJoin : Nat → (Int32 → (Nat → Int32) → (Nat → Int32) → (Nat → Int32) → Int32 → Int32 → Int32 → Option (Int32 × (Nat → Int32))) × (Int32 → (Nat → Int32) → (Nat → Int32) → (Nat → Int32) → Int32 → Int32 → Option (Int32 × (Nat → Int32)))
  | 0 => (fun _ _ _ _ _ _ _ => none, fun _ _ _ _ _ _ => none)
  | n + 1 => (bX7_joins (fJoin n).1 (fJoin n).2, bX7_isRing (fJoin n).1 (fJoin n).2)
def fX7_joins (dep : Nat) : Int32 → (Nat → Int32) → (Nat → Int32) → (Nat → Int32) → Int32 → Int32 → Int32 → Option (Int32 × (Nat → Int32)) := (fJoin dep).1
def fX7_isRing (dep : Nat) : Int32 → (Nat → Int32) → (Nat → Int32) → (Nat → Int32) → Int32 → Int32 → Option (Int32 × (Nat → Int32)) := (fJoin dep).2
/-! findbest -/
def fX7_findBest_b41 (k_7 : Int32 → (Nat → Int32) → Int32 → Option (Int32 × Int32 × (Nat → Int32))) (k_15 : Int32 → (Nat → Int32) → Int32 → Int32 → Option (Int32 × Int32 × (Nat → Int32))) (v_gives : Nat → Int32) (v_wants : Nat → Int32) (v_o1 : Nat → Nat → Int32) (v_givers : Int32) (v_row : Nat → Int32) (l2 : Int32) (l3 : Int32) : Option (Int32 × Int32 × (Nat → Int32)) :=
  nm (l3 + 1) fun x_1 =>
  k_15 v_givers v_row l2 x_1
def fX7_findBest_b15 (k_7 : Int32 → (Nat → Int32) → Int32 → Option (Int32 × Int32 × (Nat → Int32))) (v_gives : Nat → Int32) (v_wants : Nat → Int32) (v_o1 : Nat → Nat → Int32) : Nat → Int32 → (Nat → Int32) → Int32 → Int32 → Option (Int32 × Int32 × (Nat → Int32))
  | 0, _, _, _, _ => none
  | n + 1, v_givers, v_row, l2, l3 =>
  if 6 ≤ l3 then
  (nm (l2 + 1) fun x_2 =>
  k_7 v_givers v_row x_2)
  else
  (ob (fX7_isGiver v_givers l3) fun r_3 =>
  if r_3 = 0 then
  (fX7_findBest_b41 k_7 (fX7_findBest_b15 k_7 v_gives v_wants v_o1 n) v_gives v_wants v_o1 v_givers v_row l2 l3)
  else
  (ob (fX7_joins 16 v_givers v_gives v_wants v_row l3 0 l2) fun (r_7, w_8) =>
  if r_7 = 0 then
  (fX7_findBest_b41 k_7 (fX7_findBest_b15 k_7 v_gives v_wants v_o1 n) v_gives v_wants v_o1 v_givers w_8 l2 l3)
  else
  (some (l2, v_givers, w_8))))
def fX7_findBest_b7 (v_gives : Nat → Int32) (v_wants : Nat → Int32) (v_o1 : Nat → Nat → Int32) : Nat → Int32 → (Nat → Int32) → Int32 → Option (Int32 × Int32 × (Nat → Int32))
  | 0, _, _, _ => none
  | n + 1, v_givers, v_row, l2 =>
  if 6 < l2 then
  (some (0, v_givers, v_row))
  else
  (fX7_findBest_b15 (fX7_findBest_b7 v_gives v_wants v_o1 n) v_gives v_wants v_o1 70 v_givers v_row l2 0)
def fX7_findBest (v_givers : Int32) (v_gives : Nat → Int32) (v_wants : Nat → Int32) (v_row : Nat → Int32) (v_o1 : Nat → Nat → Int32) : Option (Int32 × Int32 × (Nat → Int32)) :=
  ob (fX7_findGivers v_givers v_gives v_o1) fun w_1 =>
  fX7_findBest_b7 v_gives v_wants v_o1 70 w_1 v_row 2
def fX7_fulfil_b2 (v_row : Nat → Int32) : Nat → (Nat → Int32) → (Nat → Int32) → (Nat → Nat → Int32) → Int32 → Int32 → Option ((Nat → Int32) × (Nat → Int32) × (Nat → Nat → Int32))
  | 0, _, _, _, _, _ => none
  | n + 1, v_gives, v_wants, v_o2, l1, l3 =>
  if l1 ≤ l3 then
  (some (v_gives, v_wants, v_o2))
  else
  (ck (g_in l3 6) <|
  nm (v_row l3.toNatClampNeg) fun x_3 =>
  ck (g_in x_3 6) <|
  ck (g_in x_3 6) <|
  ck (g_in (v_gives x_3.toNatClampNeg) 20) <|
  nm ((v_o2 x_3.toNatClampNeg (v_gives x_3.toNatClampNeg).toNatClampNeg) - 1) fun x_7 =>
  ck (g_in (v_gives x_3.toNatClampNeg) 20) <|
  ck (g_in x_3 6) <|
  ck (g_in x_3 6) <|
  ck (g_in (v_wants x_3.toNatClampNeg) 20) <|
  nm (((gup v_o2 x_3.toNatClampNeg (v_gives x_3.toNatClampNeg).toNatClampNeg x_7) x_3.toNatClampNeg (v_wants x_3.toNatClampNeg).toNatClampNeg) + 1) fun x_12 =>
  ck (g_in (v_wants x_3.toNatClampNeg) 20) <|
  ob (fX7_tell v_gives v_wants x_3 (-1) (-1)) fun (w_14, w_15) =>
  nm (l3 + 1) fun x_17 =>
  (fX7_fulfil_b2 v_row n) w_14 w_15 (gup (gup v_o2 x_3.toNatClampNeg (v_gives x_3.toNatClampNeg).toNatClampNeg x_7) x_3.toNatClampNeg (v_wants x_3.toNatClampNeg).toNatClampNeg x_12) l1 x_17)
def fX7_fulfil (v_gives : Nat → Int32) (v_wants : Nat → Int32) (v_row : Nat → Int32) (v_o2 : Nat → Nat → Int32) (p1 : Int32) : Option ((Nat → Int32) × (Nat → Int32) × (Nat → Nat → Int32)) :=
  fX7_fulfil_b2 v_row 70 v_gives v_wants v_o2 p1 0
/-! orders1 -/
def fX4_isIn_b14 (s0 : Int32) : Option (Int32) :=
  some s0
def fX4_isIn (p1 : Int32) (p2 : Int32) : Option (Int32) :=
  if ((p1 >>> (p2 &&& 31)) &&& 1) = 1 then
  (fX4_isIn_b14 1)
  else
  (fX4_isIn_b14 0)
def fX4_note_b51 (v_player : Int32) (v_isGreatest : Int32) (v_work_lives : Nat → Int32) (v_isFound : Int32) (v_best : Int32) : Option (Int32 × Int32) :=
  some (1, v_best)
def fX4_note_b46 (v_player : Int32) (v_isGreatest : Int32) (v_work_lives : Nat → Int32) (v_isFound : Int32) (v_best : Int32) (l1 : Int32) : Option (Int32 × Int32) :=
  fX4_note_b51 v_player v_isGreatest v_work_lives v_isFound l1
def fX4_note (v_player : Int32) (v_isGreatest : Int32) (v_isFound : Int32) (v_best : Int32) (v_work_lives : Nat → Int32) : Option (Int32 × Int32) :=
  ck (g_in v_player 6) <|
  nm (v_work_lives v_player.toNatClampNeg) fun x_2 =>
  if v_isFound = 0 then
  (fX4_note_b46 v_player v_isGreatest v_work_lives v_isFound v_best x_2)
  else
  (if v_isGreatest = 0 then
  (if v_best ≤ x_2 then
  (fX4_note_b51 v_player v_isGreatest v_work_lives v_isFound v_best)
  else
  (fX4_note_b46 v_player v_isGreatest v_work_lives v_isFound v_best x_2))
  else
  (if x_2 ≤ v_best then
  (fX4_note_b51 v_player v_isGreatest v_work_lives v_isFound v_best)
  else
  (fX4_note_b46 v_player v_isGreatest v_work_lives v_isFound v_best x_2)))
/-! orders2 -/
def fX4_goOn_b45 (a_X4_goOn : Int32 → Int32 → Int32 → Int32 → Int32 → (Nat → Int32) → (Nat → Int32) → (Nat → Int32) → (Nat → Int32) → (Nat → Int32) → (Nat → Int32) → Int32 → Int32 → Option (Int32 × Int32 × (Nat → Int32) × (Nat → Int32) × (Nat → Int32) × (Nat → Int32))) (a_X4_doNext : Int32 → Int32 → Int32 → Int32 → Int32 → (Nat → Int32) → (Nat → Int32) → (Nat → Int32) → (Nat → Int32) → (Nat → Int32) → (Nat → Int32) → Int32 → Int32 → Int32 → Option (Int32 × Int32 × (Nat → Int32) × (Nat → Int32) × (Nat → Int32) × (Nat → Int32))) (a_X4_stopAny : Int32 → Int32 → Int32 → Int32 → Int32 → (Nat → Int32) → (Nat → Int32) → (Nat → Int32) → (Nat → Int32) → (Nat → Int32) → (Nat → Int32) → Int32 → Int32 → Int32 → Option (Int32 × Int32 × (Nat → Int32) × (Nat → Int32) × (Nat → Int32) × (Nat → Int32))) (a_X4_doubleAny : Int32 → Int32 → Int32 → Int32 → Int32 → (Nat → Int32) → (Nat → Int32) → (Nat → Int32) → (Nat → Int32) → (Nat → Int32) → (Nat → Int32) → Int32 → Int32 → Option (Int32 × Int32 × (Nat → Int32) × (Nat → Int32) × (Nat → Int32) × (Nat → Int32))) (a_X4_touch : Int32 → Int32 → Int32 → Int32 → Int32 → (Nat → Int32) → (Nat → Int32) → (Nat → Int32) → (Nat → Int32) → (Nat → Int32) → (Nat → Int32) → Int32 → Int32 → Int32 → Option (Int32 × Int32 × (Nat → Int32) × (Nat → Int32) × (Nat → Int32) × (Nat → Int32))) (k_11 : Int32 → Int32 → (Nat → Int32) → (Nat → Int32) → (Nat → Int32) → (Nat → Int32) → Int32 → Int32 → Int32 → Option (Int32 × Int32 × (Nat → Int32) × (Nat → Int32) × (Nat → Int32) × (Nat → Int32))) (v_player : Int32) (v_isGreatest : Int32) (v_work_size : Int32) (v_work_players : Nat → Int32) (v_work_against : Nat → Int32) (v_isFound : Int32) (v_best : Int32) (v_work_lives : Nat → Int32) (v_work_shields : Nat → Int32) (v_work_effects : Nat → Int32) (v_work_numbers : Nat → Int32) (l1 : Int32) (l2 : Int32) (l3 : Int32) : Option (Int32 × Int32 × (Nat → Int32) × (Nat → Int32) × (Nat → Int32) × (Nat → Int32)) :=
  nm (l3 + 1) fun x_1 =>
  k_11 v_isFound v_best v_work_lives v_work_shields v_work_effects v_work_numbers l1 l2 x_1
def fX4_goOn_b11 (a_X4_goOn : Int32 → Int32 → Int32 → Int32 → Int32 → (Nat → Int32) → (Nat → Int32) → (Nat → Int32) → (Nat → Int32) → (Nat → Int32) → (Nat → Int32) → Int32 → Int32 → Option (Int32 × Int32 × (Nat → Int32) × (Nat → Int32) × (Nat → Int32) × (Nat → Int32))) (a_X4_doNext : Int32 → Int32 → Int32 → Int32 → Int32 → (Nat → Int32) → (Nat → Int32) → (Nat → Int32) → (Nat → Int32) → (Nat → Int32) → (Nat → Int32) → Int32 → Int32 → Int32 → Option (Int32 × Int32 × (Nat → Int32) × (Nat → Int32) × (Nat → Int32) × (Nat → Int32))) (a_X4_stopAny : Int32 → Int32 → Int32 → Int32 → Int32 → (Nat → Int32) → (Nat → Int32) → (Nat → Int32) → (Nat → Int32) → (Nat → Int32) → (Nat → Int32) → Int32 → Int32 → Int32 → Option (Int32 × Int32 × (Nat → Int32) × (Nat → Int32) × (Nat → Int32) × (Nat → Int32))) (a_X4_doubleAny : Int32 → Int32 → Int32 → Int32 → Int32 → (Nat → Int32) → (Nat → Int32) → (Nat → Int32) → (Nat → Int32) → (Nat → Int32) → (Nat → Int32) → Int32 → Int32 → Option (Int32 × Int32 × (Nat → Int32) × (Nat → Int32) × (Nat → Int32) × (Nat → Int32))) (a_X4_touch : Int32 → Int32 → Int32 → Int32 → Int32 → (Nat → Int32) → (Nat → Int32) → (Nat → Int32) → (Nat → Int32) → (Nat → Int32) → (Nat → Int32) → Int32 → Int32 → Int32 → Option (Int32 × Int32 × (Nat → Int32) × (Nat → Int32) × (Nat → Int32) × (Nat → Int32))) (v_player : Int32) (v_isGreatest : Int32) (v_work_size : Int32) (v_work_players : Nat → Int32) (v_work_against : Nat → Int32) : Nat → Int32 → Int32 → (Nat → Int32) → (Nat → Int32) → (Nat → Int32) → (Nat → Int32) → Int32 → Int32 → Int32 → Option (Int32 × Int32 × (Nat → Int32) × (Nat → Int32) × (Nat → Int32) × (Nat → Int32))
  | 0, _, _, _, _, _, _, _, _, _ => none
  | n + 1, v_isFound, v_best, v_work_lives, v_work_shields, v_work_effects, v_work_numbers, l1, l2, l3 =>
  if v_work_size ≤ l3 then
  (some (v_isFound, v_best, v_work_lives, v_work_shields, v_work_effects, v_work_numbers))
  else
  (ob (fX4_isIn l1 l3) fun r_2 =>
  if r_2 = 0 then
  (fX4_goOn_b45 a_X4_goOn a_X4_doNext a_X4_stopAny a_X4_doubleAny a_X4_touch (fX4_goOn_b11 a_X4_goOn a_X4_doNext a_X4_stopAny a_X4_doubleAny a_X4_touch v_player v_isGreatest v_work_size v_work_players v_work_against n) v_player v_isGreatest v_work_size v_work_players v_work_against v_isFound v_best v_work_lives v_work_shields v_work_effects v_work_numbers l1 l2 l3)
  else
  (ob (a_X4_doNext v_player v_isGreatest v_isFound v_best v_work_size v_work_lives v_work_shields v_work_effects v_work_numbers v_work_players v_work_against l3 (l1 &&& (((1 : Int32) <<< (l3 &&& 31)) ^^^ (-1))) (l2 + 1)) fun (w_6, w_7, w_8, w_9, w_10, w_11) =>
  fX4_goOn_b45 a_X4_goOn a_X4_doNext a_X4_stopAny a_X4_doubleAny a_X4_touch (fX4_goOn_b11 a_X4_goOn a_X4_doNext a_X4_stopAny a_X4_doubleAny a_X4_touch v_player v_isGreatest v_work_size v_work_players v_work_against n) v_player v_isGreatest v_work_size v_work_players v_work_against w_6 w_7 w_8 w_9 w_10 w_11 l1 l2 l3))
def bX4_goOn (a_X4_goOn : Int32 → Int32 → Int32 → Int32 → Int32 → (Nat → Int32) → (Nat → Int32) → (Nat → Int32) → (Nat → Int32) → (Nat → Int32) → (Nat → Int32) → Int32 → Int32 → Option (Int32 × Int32 × (Nat → Int32) × (Nat → Int32) × (Nat → Int32) × (Nat → Int32))) (a_X4_doNext : Int32 → Int32 → Int32 → Int32 → Int32 → (Nat → Int32) → (Nat → Int32) → (Nat → Int32) → (Nat → Int32) → (Nat → Int32) → (Nat → Int32) → Int32 → Int32 → Int32 → Option (Int32 × Int32 × (Nat → Int32) × (Nat → Int32) × (Nat → Int32) × (Nat → Int32))) (a_X4_stopAny : Int32 → Int32 → Int32 → Int32 → Int32 → (Nat → Int32) → (Nat → Int32) → (Nat → Int32) → (Nat → Int32) → (Nat → Int32) → (Nat → Int32) → Int32 → Int32 → Int32 → Option (Int32 × Int32 × (Nat → Int32) × (Nat → Int32) × (Nat → Int32) × (Nat → Int32))) (a_X4_doubleAny : Int32 → Int32 → Int32 → Int32 → Int32 → (Nat → Int32) → (Nat → Int32) → (Nat → Int32) → (Nat → Int32) → (Nat → Int32) → (Nat → Int32) → Int32 → Int32 → Option (Int32 × Int32 × (Nat → Int32) × (Nat → Int32) × (Nat → Int32) × (Nat → Int32))) (a_X4_touch : Int32 → Int32 → Int32 → Int32 → Int32 → (Nat → Int32) → (Nat → Int32) → (Nat → Int32) → (Nat → Int32) → (Nat → Int32) → (Nat → Int32) → Int32 → Int32 → Int32 → Option (Int32 × Int32 × (Nat → Int32) × (Nat → Int32) × (Nat → Int32) × (Nat → Int32))) (v_player : Int32) (v_isGreatest : Int32) (v_isFound : Int32) (v_best : Int32) (v_work_size : Int32) (v_work_lives : Nat → Int32) (v_work_shields : Nat → Int32) (v_work_effects : Nat → Int32) (v_work_numbers : Nat → Int32) (v_work_players : Nat → Int32) (v_work_against : Nat → Int32) (p1 : Int32) (p2 : Int32) : Option (Int32 × Int32 × (Nat → Int32) × (Nat → Int32) × (Nat → Int32) × (Nat → Int32)) :=
  if p1 = 0 then
  (ob (fX4_note v_player v_isGreatest v_isFound v_best v_work_lives) fun (w_2, w_3) =>
  some (w_2, w_3, v_work_lives, v_work_shields, v_work_effects, v_work_numbers))
  else
  (fX4_goOn_b11 a_X4_goOn a_X4_doNext a_X4_stopAny a_X4_doubleAny a_X4_touch v_player v_isGreatest v_work_size v_work_players v_work_against 70 v_isFound v_best v_work_lives v_work_shields v_work_effects v_work_numbers p1 p2 0)
def fX4_doNext_b103 (a_X4_goOn : Int32 → Int32 → Int32 → Int32 → Int32 → (Nat → Int32) → (Nat → Int32) → (Nat → Int32) → (Nat → Int32) → (Nat → Int32) → (Nat → Int32) → Int32 → Int32 → Option (Int32 × Int32 × (Nat → Int32) × (Nat → Int32) × (Nat → Int32) × (Nat → Int32))) (a_X4_doNext : Int32 → Int32 → Int32 → Int32 → Int32 → (Nat → Int32) → (Nat → Int32) → (Nat → Int32) → (Nat → Int32) → (Nat → Int32) → (Nat → Int32) → Int32 → Int32 → Int32 → Option (Int32 × Int32 × (Nat → Int32) × (Nat → Int32) × (Nat → Int32) × (Nat → Int32))) (a_X4_stopAny : Int32 → Int32 → Int32 → Int32 → Int32 → (Nat → Int32) → (Nat → Int32) → (Nat → Int32) → (Nat → Int32) → (Nat → Int32) → (Nat → Int32) → Int32 → Int32 → Int32 → Option (Int32 × Int32 × (Nat → Int32) × (Nat → Int32) × (Nat → Int32) × (Nat → Int32))) (a_X4_doubleAny : Int32 → Int32 → Int32 → Int32 → Int32 → (Nat → Int32) → (Nat → Int32) → (Nat → Int32) → (Nat → Int32) → (Nat → Int32) → (Nat → Int32) → Int32 → Int32 → Option (Int32 × Int32 × (Nat → Int32) × (Nat → Int32) × (Nat → Int32) × (Nat → Int32))) (a_X4_touch : Int32 → Int32 → Int32 → Int32 → Int32 → (Nat → Int32) → (Nat → Int32) → (Nat → Int32) → (Nat → Int32) → (Nat → Int32) → (Nat → Int32) → Int32 → Int32 → Int32 → Option (Int32 × Int32 × (Nat → Int32) × (Nat → Int32) × (Nat → Int32) × (Nat → Int32))) (v_player : Int32) (v_isGreatest : Int32) (v_work_size : Int32) (v_work_players : Nat → Int32) (v_work_against : Nat → Int32) (v_isFound : Int32) (v_best : Int32) (v_work_lives : Nat → Int32) (v_work_shields : Nat → Int32) (v_work_effects : Nat → Int32) (v_work_numbers : Nat → Int32) : Option (Int32 × Int32 × (Nat → Int32) × (Nat → Int32) × (Nat → Int32) × (Nat → Int32)) :=
  some (v_isFound, v_best, v_work_lives, v_work_shields, v_work_effects, v_work_numbers)
def bX4_doNext (a_X4_goOn : Int32 → Int32 → Int32 → Int32 → Int32 → (Nat → Int32) → (Nat → Int32) → (Nat → Int32) → (Nat → Int32) → (Nat → Int32) → (Nat → Int32) → Int32 → Int32 → Option (Int32 × Int32 × (Nat → Int32) × (Nat → Int32) × (Nat → Int32) × (Nat → Int32))) (a_X4_doNext : Int32 → Int32 → Int32 → Int32 → Int32 → (Nat → Int32) → (Nat → Int32) → (Nat → Int32) → (Nat → Int32) → (Nat → Int32) → (Nat → Int32) → Int32 → Int32 → Int32 → Option (Int32 × Int32 × (Nat → Int32) × (Nat → Int32) × (Nat → Int32) × (Nat → Int32))) (a_X4_stopAny : Int32 → Int32 → Int32 → Int32 → Int32 → (Nat → Int32) → (Nat → Int32) → (Nat → Int32) → (Nat → Int32) → (Nat → Int32) → (Nat → Int32) → Int32 → Int32 → Int32 → Option (Int32 × Int32 × (Nat → Int32) × (Nat → Int32) × (Nat → Int32) × (Nat → Int32))) (a_X4_doubleAny : Int32 → Int32 → Int32 → Int32 → Int32 → (Nat → Int32) → (Nat → Int32) → (Nat → Int32) → (Nat → Int32) → (Nat → Int32) → (Nat → Int32) → Int32 → Int32 → Option (Int32 × Int32 × (Nat → Int32) × (Nat → Int32) × (Nat → Int32) × (Nat → Int32))) (a_X4_touch : Int32 → Int32 → Int32 → Int32 → Int32 → (Nat → Int32) → (Nat → Int32) → (Nat → Int32) → (Nat → Int32) → (Nat → Int32) → (Nat → Int32) → Int32 → Int32 → Int32 → Option (Int32 × Int32 × (Nat → Int32) × (Nat → Int32) × (Nat → Int32) × (Nat → Int32))) (v_player : Int32) (v_isGreatest : Int32) (v_isFound : Int32) (v_best : Int32) (v_work_size : Int32) (v_work_lives : Nat → Int32) (v_work_shields : Nat → Int32) (v_work_effects : Nat → Int32) (v_work_numbers : Nat → Int32) (v_work_players : Nat → Int32) (v_work_against : Nat → Int32) (p1 : Int32) (p2 : Int32) (p3 : Int32) : Option (Int32 × Int32 × (Nat → Int32) × (Nat → Int32) × (Nat → Int32) × (Nat → Int32)) :=
  if p3 ≤ 6 then
  (ck (g_in p1 6) <|
  if (v_work_effects p1.toNatClampNeg) = 3 then
  (ck (g_in p1 6) <|
  ob (a_X4_stopAny v_player v_isGreatest v_isFound v_best v_work_size v_work_lives v_work_shields v_work_effects v_work_numbers v_work_players v_work_against (v_work_players p1.toNatClampNeg) p2 p3) fun (w_5, w_6, w_7, w_8, w_9, w_10) =>
  fX4_doNext_b103 a_X4_goOn a_X4_doNext a_X4_stopAny a_X4_doubleAny a_X4_touch v_player v_isGreatest v_work_size v_work_players v_work_against w_5 w_6 w_7 w_8 w_9 w_10)
  else if (v_work_effects p1.toNatClampNeg) = 4 then
  (ob (a_X4_doubleAny v_player v_isGreatest v_isFound v_best v_work_size v_work_lives v_work_shields v_work_effects v_work_numbers v_work_players v_work_against p2 p3) fun (w_13, w_14, w_15, w_16, w_17, w_18) =>
  fX4_doNext_b103 a_X4_goOn a_X4_doNext a_X4_stopAny a_X4_doubleAny a_X4_touch v_player v_isGreatest v_work_size v_work_players v_work_against w_13 w_14 w_15 w_16 w_17 w_18)
  else if (v_work_effects p1.toNatClampNeg) = 5 then
  (ob (fX6_turn v_work_size v_work_effects p2) fun w_21 =>
  ob (a_X4_goOn v_player v_isGreatest v_isFound v_best v_work_size v_work_lives v_work_shields w_21 v_work_numbers v_work_players v_work_against p2 p3) fun (w_23, w_24, w_25, w_26, w_27, w_28) =>
  ob (fX6_turn v_work_size w_27 p2) fun w_30 =>
  fX4_doNext_b103 a_X4_goOn a_X4_doNext a_X4_stopAny a_X4_doubleAny a_X4_touch v_player v_isGreatest v_work_size v_work_players v_work_against w_23 w_24 w_25 w_26 w_30 w_28)
  else (ob (a_X4_touch v_player v_isGreatest v_isFound v_best v_work_size v_work_lives v_work_shields v_work_effects v_work_numbers v_work_players v_work_against p1 p2 p3) fun (w_32, w_33, w_34, w_35, w_36, w_37) =>
  fX4_doNext_b103 a_X4_goOn a_X4_doNext a_X4_stopAny a_X4_doubleAny a_X4_touch v_player v_isGreatest v_work_size v_work_players v_work_against w_32 w_33 w_34 w_35 w_36 w_37))
  else
  (some (v_isFound, v_best, v_work_lives, v_work_shields, v_work_effects, v_work_numbers))
def fX4_stopAny_b57 (a_X4_goOn : Int32 → Int32 → Int32 → Int32 → Int32 → (Nat → Int32) → (Nat → Int32) → (Nat → Int32) → (Nat → Int32) → (Nat → Int32) → (Nat → Int32) → Int32 → Int32 → Option (Int32 × Int32 × (Nat → Int32) × (Nat → Int32) × (Nat → Int32) × (Nat → Int32))) (a_X4_doNext : Int32 → Int32 → Int32 → Int32 → Int32 → (Nat → Int32) → (Nat → Int32) → (Nat → Int32) → (Nat → Int32) → (Nat → Int32) → (Nat → Int32) → Int32 → Int32 → Int32 → Option (Int32 × Int32 × (Nat → Int32) × (Nat → Int32) × (Nat → Int32) × (Nat → Int32))) (a_X4_stopAny : Int32 → Int32 → Int32 → Int32 → Int32 → (Nat → Int32) → (Nat → Int32) → (Nat → Int32) → (Nat → Int32) → (Nat → Int32) → (Nat → Int32) → Int32 → Int32 → Int32 → Option (Int32 × Int32 × (Nat → Int32) × (Nat → Int32) × (Nat → Int32) × (Nat → Int32))) (a_X4_doubleAny : Int32 → Int32 → Int32 → Int32 → Int32 → (Nat → Int32) → (Nat → Int32) → (Nat → Int32) → (Nat → Int32) → (Nat → Int32) → (Nat → Int32) → Int32 → Int32 → Option (Int32 × Int32 × (Nat → Int32) × (Nat → Int32) × (Nat → Int32) × (Nat → Int32))) (a_X4_touch : Int32 → Int32 → Int32 → Int32 → Int32 → (Nat → Int32) → (Nat → Int32) → (Nat → Int32) → (Nat → Int32) → (Nat → Int32) → (Nat → Int32) → Int32 → Int32 → Int32 → Option (Int32 × Int32 × (Nat → Int32) × (Nat → Int32) × (Nat → Int32) × (Nat → Int32))) (k_6 : Int32 → Int32 → (Nat → Int32) → (Nat → Int32) → (Nat → Int32) → (Nat → Int32) → Int32 → Int32 → Int32 → Int32 → Int32 → Option (Int32 × Int32 × (Nat → Int32) × (Nat → Int32) × (Nat → Int32) × (Nat → Int32))) (v_player : Int32) (v_isGreatest : Int32) (v_work_size : Int32) (v_work_players : Nat → Int32) (v_work_against : Nat → Int32) (v_isFound : Int32) (v_best : Int32) (v_work_lives : Nat → Int32) (v_work_shields : Nat → Int32) (v_work_effects : Nat → Int32) (v_work_numbers : Nat → Int32) (l1 : Int32) (l2 : Int32) (l3 : Int32) (l4 : Int32) (l5 : Int32) : Option (Int32 × Int32 × (Nat → Int32) × (Nat → Int32) × (Nat → Int32) × (Nat → Int32)) :=
  nm (l5 + 1) fun x_1 =>
  k_6 v_isFound v_best v_work_lives v_work_shields v_work_effects v_work_numbers l1 l2 l3 l4 x_1
def fX4_stopAny_b74 (a_X4_goOn : Int32 → Int32 → Int32 → Int32 → Int32 → (Nat → Int32) → (Nat → Int32) → (Nat → Int32) → (Nat → Int32) → (Nat → Int32) → (Nat → Int32) → Int32 → Int32 → Option (Int32 × Int32 × (Nat → Int32) × (Nat → Int32) × (Nat → Int32) × (Nat → Int32))) (a_X4_doNext : Int32 → Int32 → Int32 → Int32 → Int32 → (Nat → Int32) → (Nat → Int32) → (Nat → Int32) → (Nat → Int32) → (Nat → Int32) → (Nat → Int32) → Int32 → Int32 → Int32 → Option (Int32 × Int32 × (Nat → Int32) × (Nat → Int32) × (Nat → Int32) × (Nat → Int32))) (a_X4_stopAny : Int32 → Int32 → Int32 → Int32 → Int32 → (Nat → Int32) → (Nat → Int32) → (Nat → Int32) → (Nat → Int32) → (Nat → Int32) → (Nat → Int32) → Int32 → Int32 → Int32 → Option (Int32 × Int32 × (Nat → Int32) × (Nat → Int32) × (Nat → Int32) × (Nat → Int32))) (a_X4_doubleAny : Int32 → Int32 → Int32 → Int32 → Int32 → (Nat → Int32) → (Nat → Int32) → (Nat → Int32) → (Nat → Int32) → (Nat → Int32) → (Nat → Int32) → Int32 → Int32 → Option (Int32 × Int32 × (Nat → Int32) × (Nat → Int32) × (Nat → Int32) × (Nat → Int32))) (a_X4_touch : Int32 → Int32 → Int32 → Int32 → Int32 → (Nat → Int32) → (Nat → Int32) → (Nat → Int32) → (Nat → Int32) → (Nat → Int32) → (Nat → Int32) → Int32 → Int32 → Int32 → Option (Int32 × Int32 × (Nat → Int32) × (Nat → Int32) × (Nat → Int32) × (Nat → Int32))) (v_player : Int32) (v_isGreatest : Int32) (v_work_size : Int32) (v_work_players : Nat → Int32) (v_work_against : Nat → Int32) (v_isFound : Int32) (v_best : Int32) (v_work_lives : Nat → Int32) (v_work_shields : Nat → Int32) (v_work_effects : Nat → Int32) (v_work_numbers : Nat → Int32) : Option (Int32 × Int32 × (Nat → Int32) × (Nat → Int32) × (Nat → Int32) × (Nat → Int32)) :=
  some (v_isFound, v_best, v_work_lives, v_work_shields, v_work_effects, v_work_numbers)
def fX4_stopAny_b6 (a_X4_goOn : Int32 → Int32 → Int32 → Int32 → Int32 → (Nat → Int32) → (Nat → Int32) → (Nat → Int32) → (Nat → Int32) → (Nat → Int32) → (Nat → Int32) → Int32 → Int32 → Option (Int32 × Int32 × (Nat → Int32) × (Nat → Int32) × (Nat → Int32) × (Nat → Int32))) (a_X4_doNext : Int32 → Int32 → Int32 → Int32 → Int32 → (Nat → Int32) → (Nat → Int32) → (Nat → Int32) → (Nat → Int32) → (Nat → Int32) → (Nat → Int32) → Int32 → Int32 → Int32 → Option (Int32 × Int32 × (Nat → Int32) × (Nat → Int32) × (Nat → Int32) × (Nat → Int32))) (a_X4_stopAny : Int32 → Int32 → Int32 → Int32 → Int32 → (Nat → Int32) → (Nat → Int32) → (Nat → Int32) → (Nat → Int32) → (Nat → Int32) → (Nat → Int32) → Int32 → Int32 → Int32 → Option (Int32 × Int32 × (Nat → Int32) × (Nat → Int32) × (Nat → Int32) × (Nat → Int32))) (a_X4_doubleAny : Int32 → Int32 → Int32 → Int32 → Int32 → (Nat → Int32) → (Nat → Int32) → (Nat → Int32) → (Nat → Int32) → (Nat → Int32) → (Nat → Int32) → Int32 → Int32 → Option (Int32 × Int32 × (Nat → Int32) × (Nat → Int32) × (Nat → Int32) × (Nat → Int32))) (a_X4_touch : Int32 → Int32 → Int32 → Int32 → Int32 → (Nat → Int32) → (Nat → Int32) → (Nat → Int32) → (Nat → Int32) → (Nat → Int32) → (Nat → Int32) → Int32 → Int32 → Int32 → Option (Int32 × Int32 × (Nat → Int32) × (Nat → Int32) × (Nat → Int32) × (Nat → Int32))) (v_player : Int32) (v_isGreatest : Int32) (v_work_size : Int32) (v_work_players : Nat → Int32) (v_work_against : Nat → Int32) : Nat → Int32 → Int32 → (Nat → Int32) → (Nat → Int32) → (Nat → Int32) → (Nat → Int32) → Int32 → Int32 → Int32 → Int32 → Int32 → Option (Int32 × Int32 × (Nat → Int32) × (Nat → Int32) × (Nat → Int32) × (Nat → Int32))
  | 0, _, _, _, _, _, _, _, _, _, _, _ => none
  | n + 1, v_isFound, v_best, v_work_lives, v_work_shields, v_work_effects, v_work_numbers, l1, l2, l3, l4, l5 =>
  if v_work_size ≤ l5 then
  (if l4 = 0 then
  (ob (a_X4_goOn v_player v_isGreatest v_isFound v_best v_work_size v_work_lives v_work_shields v_work_effects v_work_numbers v_work_players v_work_against l2 l3) fun (w_3, w_4, w_5, w_6, w_7, w_8) =>
  fX4_stopAny_b74 a_X4_goOn a_X4_doNext a_X4_stopAny a_X4_doubleAny a_X4_touch v_player v_isGreatest v_work_size v_work_players v_work_against w_3 w_4 w_5 w_6 w_7 w_8)
  else
  (fX4_stopAny_b74 a_X4_goOn a_X4_doNext a_X4_stopAny a_X4_doubleAny a_X4_touch v_player v_isGreatest v_work_size v_work_players v_work_against v_isFound v_best v_work_lives v_work_shields v_work_effects v_work_numbers))
  else
  (ob (fX4_isIn l2 l5) fun r_10 =>
  if r_10 = 0 then
  (fX4_stopAny_b57 a_X4_goOn a_X4_doNext a_X4_stopAny a_X4_doubleAny a_X4_touch (fX4_stopAny_b6 a_X4_goOn a_X4_doNext a_X4_stopAny a_X4_doubleAny a_X4_touch v_player v_isGreatest v_work_size v_work_players v_work_against n) v_player v_isGreatest v_work_size v_work_players v_work_against v_isFound v_best v_work_lives v_work_shields v_work_effects v_work_numbers l1 l2 l3 l4 l5)
  else
  (ck (g_in l5 6) <|
  if (v_work_players l5.toNatClampNeg) = l1 then
  (fX4_stopAny_b57 a_X4_goOn a_X4_doNext a_X4_stopAny a_X4_doubleAny a_X4_touch (fX4_stopAny_b6 a_X4_goOn a_X4_doNext a_X4_stopAny a_X4_doubleAny a_X4_touch v_player v_isGreatest v_work_size v_work_players v_work_against n) v_player v_isGreatest v_work_size v_work_players v_work_against v_isFound v_best v_work_lives v_work_shields v_work_effects v_work_numbers l1 l2 l3 l4 l5)
  else
  (ob (a_X4_goOn v_player v_isGreatest v_isFound v_best v_work_size v_work_lives v_work_shields v_work_effects v_work_numbers v_work_players v_work_against (l2 &&& (((1 : Int32) <<< (l5 &&& 31)) ^^^ (-1))) l3) fun (w_16, w_17, w_18, w_19, w_20, w_21) =>
  fX4_stopAny_b57 a_X4_goOn a_X4_doNext a_X4_stopAny a_X4_doubleAny a_X4_touch (fX4_stopAny_b6 a_X4_goOn a_X4_doNext a_X4_stopAny a_X4_doubleAny a_X4_touch v_player v_isGreatest v_work_size v_work_players v_work_against n) v_player v_isGreatest v_work_size v_work_players v_work_against w_16 w_17 w_18 w_19 w_20 w_21 l1 l2 l3 1 l5)))
def bX4_stopAny (a_X4_goOn : Int32 → Int32 → Int32 → Int32 → Int32 → (Nat → Int32) → (Nat → Int32) → (Nat → Int32) → (Nat → Int32) → (Nat → Int32) → (Nat → Int32) → Int32 → Int32 → Option (Int32 × Int32 × (Nat → Int32) × (Nat → Int32) × (Nat → Int32) × (Nat → Int32))) (a_X4_doNext : Int32 → Int32 → Int32 → Int32 → Int32 → (Nat → Int32) → (Nat → Int32) → (Nat → Int32) → (Nat → Int32) → (Nat → Int32) → (Nat → Int32) → Int32 → Int32 → Int32 → Option (Int32 × Int32 × (Nat → Int32) × (Nat → Int32) × (Nat → Int32) × (Nat → Int32))) (a_X4_stopAny : Int32 → Int32 → Int32 → Int32 → Int32 → (Nat → Int32) → (Nat → Int32) → (Nat → Int32) → (Nat → Int32) → (Nat → Int32) → (Nat → Int32) → Int32 → Int32 → Int32 → Option (Int32 × Int32 × (Nat → Int32) × (Nat → Int32) × (Nat → Int32) × (Nat → Int32))) (a_X4_doubleAny : Int32 → Int32 → Int32 → Int32 → Int32 → (Nat → Int32) → (Nat → Int32) → (Nat → Int32) → (Nat → Int32) → (Nat → Int32) → (Nat → Int32) → Int32 → Int32 → Option (Int32 × Int32 × (Nat → Int32) × (Nat → Int32) × (Nat → Int32) × (Nat → Int32))) (a_X4_touch : Int32 → Int32 → Int32 → Int32 → Int32 → (Nat → Int32) → (Nat → Int32) → (Nat → Int32) → (Nat → Int32) → (Nat → Int32) → (Nat → Int32) → Int32 → Int32 → Int32 → Option (Int32 × Int32 × (Nat → Int32) × (Nat → Int32) × (Nat → Int32) × (Nat → Int32))) (v_player : Int32) (v_isGreatest : Int32) (v_isFound : Int32) (v_best : Int32) (v_work_size : Int32) (v_work_lives : Nat → Int32) (v_work_shields : Nat → Int32) (v_work_effects : Nat → Int32) (v_work_numbers : Nat → Int32) (v_work_players : Nat → Int32) (v_work_against : Nat → Int32) (p1 : Int32) (p2 : Int32) (p3 : Int32) : Option (Int32 × Int32 × (Nat → Int32) × (Nat → Int32) × (Nat → Int32) × (Nat → Int32)) :=
  fX4_stopAny_b6 a_X4_goOn a_X4_doNext a_X4_stopAny a_X4_doubleAny a_X4_touch v_player v_isGreatest v_work_size v_work_players v_work_against 70 v_isFound v_best v_work_lives v_work_shields v_work_effects v_work_numbers p1 p2 p3 0 0
def fX4_doubleAny_b79 (a_X4_goOn : Int32 → Int32 → Int32 → Int32 → Int32 → (Nat → Int32) → (Nat → Int32) → (Nat → Int32) → (Nat → Int32) → (Nat → Int32) → (Nat → Int32) → Int32 → Int32 → Option (Int32 × Int32 × (Nat → Int32) × (Nat → Int32) × (Nat → Int32) × (Nat → Int32))) (a_X4_doNext : Int32 → Int32 → Int32 → Int32 → Int32 → (Nat → Int32) → (Nat → Int32) → (Nat → Int32) → (Nat → Int32) → (Nat → Int32) → (Nat → Int32) → Int32 → Int32 → Int32 → Option (Int32 × Int32 × (Nat → Int32) × (Nat → Int32) × (Nat → Int32) × (Nat → Int32))) (a_X4_stopAny : Int32 → Int32 → Int32 → Int32 → Int32 → (Nat → Int32) → (Nat → Int32) → (Nat → Int32) → (Nat → Int32) → (Nat → Int32) → (Nat → Int32) → Int32 → Int32 → Int32 → Option (Int32 × Int32 × (Nat → Int32) × (Nat → Int32) × (Nat → Int32) × (Nat → Int32))) (a_X4_doubleAny : Int32 → Int32 → Int32 → Int32 → Int32 → (Nat → Int32) → (Nat → Int32) → (Nat → Int32) → (Nat → Int32) → (Nat → Int32) → (Nat → Int32) → Int32 → Int32 → Option (Int32 × Int32 × (Nat → Int32) × (Nat → Int32) × (Nat → Int32) × (Nat → Int32))) (a_X4_touch : Int32 → Int32 → Int32 → Int32 → Int32 → (Nat → Int32) → (Nat → Int32) → (Nat → Int32) → (Nat → Int32) → (Nat → Int32) → (Nat → Int32) → Int32 → Int32 → Int32 → Option (Int32 × Int32 × (Nat → Int32) × (Nat → Int32) × (Nat → Int32) × (Nat → Int32))) (k_12 : Int32 → Int32 → (Nat → Int32) → (Nat → Int32) → (Nat → Int32) → (Nat → Int32) → Int32 → Int32 → Int32 → Option (Int32 × Int32 × (Nat → Int32) × (Nat → Int32) × (Nat → Int32) × (Nat → Int32))) (v_player : Int32) (v_isGreatest : Int32) (v_work_size : Int32) (v_work_players : Nat → Int32) (v_work_against : Nat → Int32) (v_isFound : Int32) (v_best : Int32) (v_work_lives : Nat → Int32) (v_work_shields : Nat → Int32) (v_work_effects : Nat → Int32) (v_work_numbers : Nat → Int32) (l1 : Int32) (l2 : Int32) (l3 : Int32) : Option (Int32 × Int32 × (Nat → Int32) × (Nat → Int32) × (Nat → Int32) × (Nat → Int32)) :=
  nm (l3 + 1) fun x_1 =>
  k_12 v_isFound v_best v_work_lives v_work_shields v_work_effects v_work_numbers l1 l2 x_1
def fX4_doubleAny_b12 (a_X4_goOn : Int32 → Int32 → Int32 → Int32 → Int32 → (Nat → Int32) → (Nat → Int32) → (Nat → Int32) → (Nat → Int32) → (Nat → Int32) → (Nat → Int32) → Int32 → Int32 → Option (Int32 × Int32 × (Nat → Int32) × (Nat → Int32) × (Nat → Int32) × (Nat → Int32))) (a_X4_doNext : Int32 → Int32 → Int32 → Int32 → Int32 → (Nat → Int32) → (Nat → Int32) → (Nat → Int32) → (Nat → Int32) → (Nat → Int32) → (Nat → Int32) → Int32 → Int32 → Int32 → Option (Int32 × Int32 × (Nat → Int32) × (Nat → Int32) × (Nat → Int32) × (Nat → Int32))) (a_X4_stopAny : Int32 → Int32 → Int32 → Int32 → Int32 → (Nat → Int32) → (Nat → Int32) → (Nat → Int32) → (Nat → Int32) → (Nat → Int32) → (Nat → Int32) → Int32 → Int32 → Int32 → Option (Int32 × Int32 × (Nat → Int32) × (Nat → Int32) × (Nat → Int32) × (Nat → Int32))) (a_X4_doubleAny : Int32 → Int32 → Int32 → Int32 → Int32 → (Nat → Int32) → (Nat → Int32) → (Nat → Int32) → (Nat → Int32) → (Nat → Int32) → (Nat → Int32) → Int32 → Int32 → Option (Int32 × Int32 × (Nat → Int32) × (Nat → Int32) × (Nat → Int32) × (Nat → Int32))) (a_X4_touch : Int32 → Int32 → Int32 → Int32 → Int32 → (Nat → Int32) → (Nat → Int32) → (Nat → Int32) → (Nat → Int32) → (Nat → Int32) → (Nat → Int32) → Int32 → Int32 → Int32 → Option (Int32 × Int32 × (Nat → Int32) × (Nat → Int32) × (Nat → Int32) × (Nat → Int32))) (v_player : Int32) (v_isGreatest : Int32) (v_work_size : Int32) (v_work_players : Nat → Int32) (v_work_against : Nat → Int32) : Nat → Int32 → Int32 → (Nat → Int32) → (Nat → Int32) → (Nat → Int32) → (Nat → Int32) → Int32 → Int32 → Int32 → Option (Int32 × Int32 × (Nat → Int32) × (Nat → Int32) × (Nat → Int32) × (Nat → Int32))
  | 0, _, _, _, _, _, _, _, _, _ => none
  | n + 1, v_isFound, v_best, v_work_lives, v_work_shields, v_work_effects, v_work_numbers, l1, l2, l3 =>
  if v_work_size ≤ l3 then
  (some (v_isFound, v_best, v_work_lives, v_work_shields, v_work_effects, v_work_numbers))
  else
  (ck (g_in l3 6) <|
  nm (v_work_numbers l3.toNatClampNeg) fun x_3 =>
  ob (fX4_isIn l1 l3) fun r_4 =>
  if r_4 = 0 then
  (fX4_doubleAny_b79 a_X4_goOn a_X4_doNext a_X4_stopAny a_X4_doubleAny a_X4_touch (fX4_doubleAny_b12 a_X4_goOn a_X4_doNext a_X4_stopAny a_X4_doubleAny a_X4_touch v_player v_isGreatest v_work_size v_work_players v_work_against n) v_player v_isGreatest v_work_size v_work_players v_work_against v_isFound v_best v_work_lives v_work_shields v_work_effects v_work_numbers l1 l2 l3)
  else
  (ob (fX6_makeTwice v_work_numbers l3) fun (r_8, w_9) =>
  if r_8 = 0 then
  (fX4_doubleAny_b79 a_X4_goOn a_X4_doNext a_X4_stopAny a_X4_doubleAny a_X4_touch (fX4_doubleAny_b12 a_X4_goOn a_X4_doNext a_X4_stopAny a_X4_doubleAny a_X4_touch v_player v_isGreatest v_work_size v_work_players v_work_against n) v_player v_isGreatest v_work_size v_work_players v_work_against v_isFound v_best v_work_lives v_work_shields v_work_effects w_9 l1 l2 l3)
  else
  (ob (a_X4_doNext v_player v_isGreatest v_isFound v_best v_work_size v_work_lives v_work_shields v_work_effects w_9 v_work_players v_work_against l3 (l1 &&& (((1 : Int32) <<< (l3 &&& 31)) ^^^ (-1))) (l2 + 1)) fun (w_13, w_14, w_15, w_16, w_17, w_18) =>
  ck (g_in l3 6) <|
  fX4_doubleAny_b79 a_X4_goOn a_X4_doNext a_X4_stopAny a_X4_doubleAny a_X4_touch (fX4_doubleAny_b12 a_X4_goOn a_X4_doNext a_X4_stopAny a_X4_doubleAny a_X4_touch v_player v_isGreatest v_work_size v_work_players v_work_against n) v_player v_isGreatest v_work_size v_work_players v_work_against w_13 w_14 w_15 w_16 w_17 (upd w_18 l3.toNatClampNeg x_3) l1 l2 l3)))
def fX4_doubleAny_b10 (a_X4_goOn : Int32 → Int32 → Int32 → Int32 → Int32 → (Nat → Int32) → (Nat → Int32) → (Nat → Int32) → (Nat → Int32) → (Nat → Int32) → (Nat → Int32) → Int32 → Int32 → Option (Int32 × Int32 × (Nat → Int32) × (Nat → Int32) × (Nat → Int32) × (Nat → Int32))) (a_X4_doNext : Int32 → Int32 → Int32 → Int32 → Int32 → (Nat → Int32) → (Nat → Int32) → (Nat → Int32) → (Nat → Int32) → (Nat → Int32) → (Nat → Int32) → Int32 → Int32 → Int32 → Option (Int32 × Int32 × (Nat → Int32) × (Nat → Int32) × (Nat → Int32) × (Nat → Int32))) (a_X4_stopAny : Int32 → Int32 → Int32 → Int32 → Int32 → (Nat → Int32) → (Nat → Int32) → (Nat → Int32) → (Nat → Int32) → (Nat → Int32) → (Nat → Int32) → Int32 → Int32 → Int32 → Option (Int32 × Int32 × (Nat → Int32) × (Nat → Int32) × (Nat → Int32) × (Nat → Int32))) (a_X4_doubleAny : Int32 → Int32 → Int32 → Int32 → Int32 → (Nat → Int32) → (Nat → Int32) → (Nat → Int32) → (Nat → Int32) → (Nat → Int32) → (Nat → Int32) → Int32 → Int32 → Option (Int32 × Int32 × (Nat → Int32) × (Nat → Int32) × (Nat → Int32) × (Nat → Int32))) (a_X4_touch : Int32 → Int32 → Int32 → Int32 → Int32 → (Nat → Int32) → (Nat → Int32) → (Nat → Int32) → (Nat → Int32) → (Nat → Int32) → (Nat → Int32) → Int32 → Int32 → Int32 → Option (Int32 × Int32 × (Nat → Int32) × (Nat → Int32) × (Nat → Int32) × (Nat → Int32))) (v_player : Int32) (v_isGreatest : Int32) (v_work_size : Int32) (v_work_players : Nat → Int32) (v_work_against : Nat → Int32) (v_isFound : Int32) (v_best : Int32) (v_work_lives : Nat → Int32) (v_work_shields : Nat → Int32) (v_work_effects : Nat → Int32) (v_work_numbers : Nat → Int32) (l1 : Int32) (l2 : Int32) : Option (Int32 × Int32 × (Nat → Int32) × (Nat → Int32) × (Nat → Int32) × (Nat → Int32)) :=
  fX4_doubleAny_b12 a_X4_goOn a_X4_doNext a_X4_stopAny a_X4_doubleAny a_X4_touch v_player v_isGreatest v_work_size v_work_players v_work_against 70 v_isFound v_best v_work_lives v_work_shields v_work_effects v_work_numbers l1 l2 0
def bX4_doubleAny (a_X4_goOn : Int32 → Int32 → Int32 → Int32 → Int32 → (Nat → Int32) → (Nat → Int32) → (Nat → Int32) → (Nat → Int32) → (Nat → Int32) → (Nat → Int32) → Int32 → Int32 → Option (Int32 × Int32 × (Nat → Int32) × (Nat → Int32) × (Nat → Int32) × (Nat → Int32))) (a_X4_doNext : Int32 → Int32 → Int32 → Int32 → Int32 → (Nat → Int32) → (Nat → Int32) → (Nat → Int32) → (Nat → Int32) → (Nat → Int32) → (Nat → Int32) → Int32 → Int32 → Int32 → Option (Int32 × Int32 × (Nat → Int32) × (Nat → Int32) × (Nat → Int32) × (Nat → Int32))) (a_X4_stopAny : Int32 → Int32 → Int32 → Int32 → Int32 → (Nat → Int32) → (Nat → Int32) → (Nat → Int32) → (Nat → Int32) → (Nat → Int32) → (Nat → Int32) → Int32 → Int32 → Int32 → Option (Int32 × Int32 × (Nat → Int32) × (Nat → Int32) × (Nat → Int32) × (Nat → Int32))) (a_X4_doubleAny : Int32 → Int32 → Int32 → Int32 → Int32 → (Nat → Int32) → (Nat → Int32) → (Nat → Int32) → (Nat → Int32) → (Nat → Int32) → (Nat → Int32) → Int32 → Int32 → Option (Int32 × Int32 × (Nat → Int32) × (Nat → Int32) × (Nat → Int32) × (Nat → Int32))) (a_X4_touch : Int32 → Int32 → Int32 → Int32 → Int32 → (Nat → Int32) → (Nat → Int32) → (Nat → Int32) → (Nat → Int32) → (Nat → Int32) → (Nat → Int32) → Int32 → Int32 → Int32 → Option (Int32 × Int32 × (Nat → Int32) × (Nat → Int32) × (Nat → Int32) × (Nat → Int32))) (v_player : Int32) (v_isGreatest : Int32) (v_isFound : Int32) (v_best : Int32) (v_work_size : Int32) (v_work_lives : Nat → Int32) (v_work_shields : Nat → Int32) (v_work_effects : Nat → Int32) (v_work_numbers : Nat → Int32) (v_work_players : Nat → Int32) (v_work_against : Nat → Int32) (p1 : Int32) (p2 : Int32) : Option (Int32 × Int32 × (Nat → Int32) × (Nat → Int32) × (Nat → Int32) × (Nat → Int32)) :=
  if p1 = 0 then
  (ob (a_X4_goOn v_player v_isGreatest v_isFound v_best v_work_size v_work_lives v_work_shields v_work_effects v_work_numbers v_work_players v_work_against p1 p2) fun (w_2, w_3, w_4, w_5, w_6, w_7) =>
  fX4_doubleAny_b10 a_X4_goOn a_X4_doNext a_X4_stopAny a_X4_doubleAny a_X4_touch v_player v_isGreatest v_work_size v_work_players v_work_against w_2 w_3 w_4 w_5 w_6 w_7 p1 p2)
  else
  (fX4_doubleAny_b10 a_X4_goOn a_X4_doNext a_X4_stopAny a_X4_doubleAny a_X4_touch v_player v_isGreatest v_work_size v_work_players v_work_against v_isFound v_best v_work_lives v_work_shields v_work_effects v_work_numbers p1 p2)
def fX4_touch_b76 (a_X4_goOn : Int32 → Int32 → Int32 → Int32 → Int32 → (Nat → Int32) → (Nat → Int32) → (Nat → Int32) → (Nat → Int32) → (Nat → Int32) → (Nat → Int32) → Int32 → Int32 → Option (Int32 × Int32 × (Nat → Int32) × (Nat → Int32) × (Nat → Int32) × (Nat → Int32))) (a_X4_doNext : Int32 → Int32 → Int32 → Int32 → Int32 → (Nat → Int32) → (Nat → Int32) → (Nat → Int32) → (Nat → Int32) → (Nat → Int32) → (Nat → Int32) → Int32 → Int32 → Int32 → Option (Int32 × Int32 × (Nat → Int32) × (Nat → Int32) × (Nat → Int32) × (Nat → Int32))) (a_X4_stopAny : Int32 → Int32 → Int32 → Int32 → Int32 → (Nat → Int32) → (Nat → Int32) → (Nat → Int32) → (Nat → Int32) → (Nat → Int32) → (Nat → Int32) → Int32 → Int32 → Int32 → Option (Int32 × Int32 × (Nat → Int32) × (Nat → Int32) × (Nat → Int32) × (Nat → Int32))) (a_X4_doubleAny : Int32 → Int32 → Int32 → Int32 → Int32 → (Nat → Int32) → (Nat → Int32) → (Nat → Int32) → (Nat → Int32) → (Nat → Int32) → (Nat → Int32) → Int32 → Int32 → Option (Int32 × Int32 × (Nat → Int32) × (Nat → Int32) × (Nat → Int32) × (Nat → Int32))) (a_X4_touch : Int32 → Int32 → Int32 → Int32 → Int32 → (Nat → Int32) → (Nat → Int32) → (Nat → Int32) → (Nat → Int32) → (Nat → Int32) → (Nat → Int32) → Int32 → Int32 → Int32 → Option (Int32 × Int32 × (Nat → Int32) × (Nat → Int32) × (Nat → Int32) × (Nat → Int32))) (v_player : Int32) (v_isGreatest : Int32) (v_work_size : Int32) (v_work_players : Nat → Int32) (v_work_against : Nat → Int32) (v_isFound : Int32) (v_best : Int32) (v_work_lives : Nat → Int32) (v_work_shields : Nat → Int32) (v_work_effects : Nat → Int32) (v_work_numbers : Nat → Int32) : Option (Int32 × Int32 × (Nat → Int32) × (Nat → Int32) × (Nat → Int32) × (Nat → Int32)) :=
  some (v_isFound, v_best, v_work_lives, v_work_shields, v_work_effects, v_work_numbers)
def bX4_touch (a_X4_goOn : Int32 → Int32 → Int32 → Int32 → Int32 → (Nat → Int32) → (Nat → Int32) → (Nat → Int32) → (Nat → Int32) → (Nat → Int32) → (Nat → Int32) → Int32 → Int32 → Option (Int32 × Int32 × (Nat → Int32) × (Nat → Int32) × (Nat → Int32) × (Nat → Int32))) (a_X4_doNext : Int32 → Int32 → Int32 → Int32 → Int32 → (Nat → Int32) → (Nat → Int32) → (Nat → Int32) → (Nat → Int32) → (Nat → Int32) → (Nat → Int32) → Int32 → Int32 → Int32 → Option (Int32 × Int32 × (Nat → Int32) × (Nat → Int32) × (Nat → Int32) × (Nat → Int32))) (a_X4_stopAny : Int32 → Int32 → Int32 → Int32 → Int32 → (Nat → Int32) → (Nat → Int32) → (Nat → Int32) → (Nat → Int32) → (Nat → Int32) → (Nat → Int32) → Int32 → Int32 → Int32 → Option (Int32 × Int32 × (Nat → Int32) × (Nat → Int32) × (Nat → Int32) × (Nat → Int32))) (a_X4_doubleAny : Int32 → Int32 → Int32 → Int32 → Int32 → (Nat → Int32) → (Nat → Int32) → (Nat → Int32) → (Nat → Int32) → (Nat → Int32) → (Nat → Int32) → Int32 → Int32 → Option (Int32 × Int32 × (Nat → Int32) × (Nat → Int32) × (Nat → Int32) × (Nat → Int32))) (a_X4_touch : Int32 → Int32 → Int32 → Int32 → Int32 → (Nat → Int32) → (Nat → Int32) → (Nat → Int32) → (Nat → Int32) → (Nat → Int32) → (Nat → Int32) → Int32 → Int32 → Int32 → Option (Int32 × Int32 × (Nat → Int32) × (Nat → Int32) × (Nat → Int32) × (Nat → Int32))) (v_player : Int32) (v_isGreatest : Int32) (v_isFound : Int32) (v_best : Int32) (v_work_size : Int32) (v_work_lives : Nat → Int32) (v_work_shields : Nat → Int32) (v_work_effects : Nat → Int32) (v_work_numbers : Nat → Int32) (v_work_players : Nat → Int32) (v_work_against : Nat → Int32) (p1 : Int32) (p2 : Int32) (p3 : Int32) : Option (Int32 × Int32 × (Nat → Int32) × (Nat → Int32) × (Nat → Int32) × (Nat → Int32)) :=
  ck (g_in p1 6) <|
  nm (v_work_against p1.toNatClampNeg) fun x_2 =>
  ck (g_in x_2 6) <|
  nm (v_work_lives x_2.toNatClampNeg) fun x_4 =>
  ck (g_in x_2 6) <|
  nm (v_work_shields x_2.toNatClampNeg) fun x_6 =>
  ob (fX6_touch v_work_lives v_work_shields v_work_effects v_work_numbers v_work_against p1) fun (r_7, w_8, w_9) =>
  if r_7 = 0 then
  (fX4_touch_b76 a_X4_goOn a_X4_doNext a_X4_stopAny a_X4_doubleAny a_X4_touch v_player v_isGreatest v_work_size v_work_players v_work_against v_isFound v_best w_8 w_9 v_work_effects v_work_numbers)
  else
  (ob (a_X4_goOn v_player v_isGreatest v_isFound v_best v_work_size w_8 w_9 v_work_effects v_work_numbers v_work_players v_work_against p2 p3) fun (w_13, w_14, w_15, w_16, w_17, w_18) =>
  ck (g_in x_2 6) <|
  ck (g_in x_2 6) <|
  fX4_touch_b76 a_X4_goOn a_X4_doNext a_X4_stopAny a_X4_doubleAny a_X4_touch v_player v_isGreatest v_work_size v_work_players v_work_against w_13 w_14 (upd w_15 x_2.toNatClampNeg x_4) (upd w_16 x_2.toNatClampNeg x_6) w_17 w_18)
def fOrd : Nat → (Int32 → Int32 → Int32 → Int32 → Int32 → (Nat → Int32) → (Nat → Int32) → (Nat → Int32) → (Nat → Int32) → (Nat → Int32) → (Nat → Int32) → Int32 → Int32 → Option (Int32 × Int32 × (Nat → Int32) × (Nat → Int32) × (Nat → Int32) × (Nat → Int32))) × (Int32 → Int32 → Int32 → Int32 → Int32 → (Nat → Int32) → (Nat → Int32) → (Nat → Int32) → (Nat → Int32) → (Nat → Int32) → (Nat → Int32) → Int32 → Int32 → Int32 → Option (Int32 × Int32 × (Nat → Int32) × (Nat → Int32) × (Nat → Int32) × (Nat → Int32))) × (Int32 → Int32 → Int32 → Int32 → Int32 → (Nat → Int32) → (Nat → Int32) → (Nat → Int32) → (Nat → Int32) → (Nat → Int32) → (Nat → Int32) → Int32 → Int32 → Int32 → Option (Int32 × Int32 × (Nat → Int32) × (Nat → Int32) × (Nat → Int32) × (Nat → Int32))) × (Int32 → Int32 → Int32 → Int32 → Int32 → (Nat → Int32) → (Nat → Int32) → (Nat → Int32) → (Nat → Int32) → (Nat → Int32) → (Nat → Int32) → Int32 → Int32 → Option (Int32 × Int32 × (Nat → Int32) × (Nat → Int32) × (Nat → Int32) × (Nat → Int32))) × (Int32 → Int32 → Int32 → Int32 → Int32 → (Nat → Int32) → (Nat → Int32) → (Nat → Int32) → (Nat → Int32) → (Nat → Int32) → (Nat → Int32) → Int32 → Int32 → Int32 → Option (Int32 × Int32 × (Nat → Int32) × (Nat → Int32) × (Nat → Int32) × (Nat → Int32)))
  | 0 => (fun _ _ _ _ _ _ _ _ _ _ _ _ _ => none, fun _ _ _ _ _ _ _ _ _ _ _ _ _ _ => none, fun _ _ _ _ _ _ _ _ _ _ _ _ _ _ => none, fun _ _ _ _ _ _ _ _ _ _ _ _ _ => none, fun _ _ _ _ _ _ _ _ _ _ _ _ _ _ => none)
  | n + 1 => (bX4_goOn (fOrd n).1 (fOrd n).2.1 (fOrd n).2.2.1 (fOrd n).2.2.2.1 (fOrd n).2.2.2.2, bX4_doNext (fOrd n).1 (fOrd n).2.1 (fOrd n).2.2.1 (fOrd n).2.2.2.1 (fOrd n).2.2.2.2, bX4_stopAny (fOrd n).1 (fOrd n).2.1 (fOrd n).2.2.1 (fOrd n).2.2.2.1 (fOrd n).2.2.2.2, bX4_doubleAny (fOrd n).1 (fOrd n).2.1 (fOrd n).2.2.1 (fOrd n).2.2.2.1 (fOrd n).2.2.2.2, bX4_touch (fOrd n).1 (fOrd n).2.1 (fOrd n).2.2.1 (fOrd n).2.2.2.1 (fOrd n).2.2.2.2)
def fX4_goOn (dep : Nat) : Int32 → Int32 → Int32 → Int32 → Int32 → (Nat → Int32) → (Nat → Int32) → (Nat → Int32) → (Nat → Int32) → (Nat → Int32) → (Nat → Int32) → Int32 → Int32 → Option (Int32 × Int32 × (Nat → Int32) × (Nat → Int32) × (Nat → Int32) × (Nat → Int32)) := (fOrd dep).1
def fX4_doNext (dep : Nat) : Int32 → Int32 → Int32 → Int32 → Int32 → (Nat → Int32) → (Nat → Int32) → (Nat → Int32) → (Nat → Int32) → (Nat → Int32) → (Nat → Int32) → Int32 → Int32 → Int32 → Option (Int32 × Int32 × (Nat → Int32) × (Nat → Int32) × (Nat → Int32) × (Nat → Int32)) := (fOrd dep).2.1
def fX4_stopAny (dep : Nat) : Int32 → Int32 → Int32 → Int32 → Int32 → (Nat → Int32) → (Nat → Int32) → (Nat → Int32) → (Nat → Int32) → (Nat → Int32) → (Nat → Int32) → Int32 → Int32 → Int32 → Option (Int32 × Int32 × (Nat → Int32) × (Nat → Int32) × (Nat → Int32) × (Nat → Int32)) := (fOrd dep).2.2.1
def fX4_doubleAny (dep : Nat) : Int32 → Int32 → Int32 → Int32 → Int32 → (Nat → Int32) → (Nat → Int32) → (Nat → Int32) → (Nat → Int32) → (Nat → Int32) → (Nat → Int32) → Int32 → Int32 → Option (Int32 × Int32 × (Nat → Int32) × (Nat → Int32) × (Nat → Int32) × (Nat → Int32)) := (fOrd dep).2.2.2.1
def fX4_touch (dep : Nat) : Int32 → Int32 → Int32 → Int32 → Int32 → (Nat → Int32) → (Nat → Int32) → (Nat → Int32) → (Nat → Int32) → (Nat → Int32) → (Nat → Int32) → Int32 → Int32 → Int32 → Option (Int32 × Int32 × (Nat → Int32) × (Nat → Int32) × (Nat → Int32) × (Nat → Int32)) := (fOrd dep).2.2.2.2
/-! orders3 -/
def fX4_find (v_player : Int32) (v_isGreatest : Int32) (v_isFound : Int32) (v_best : Int32) (v_work_size : Int32) (v_work_lives : Nat → Int32) (v_work_shields : Nat → Int32) (v_work_effects : Nat → Int32) (v_work_numbers : Nat → Int32) (v_work_players : Nat → Int32) (v_work_against : Nat → Int32) (v_o1_size : Int32) (v_o1_lives : Nat → Int32) (v_o1_shields : Nat → Int32) (v_o1_effects : Nat → Int32) (v_o1_numbers : Nat → Int32) (v_o1_players : Nat → Int32) (v_o1_against : Nat → Int32) (p2 : Int32) (p3 : Int32) : Option (Int32 × Int32 × Int32 × Int32 × Int32 × Int32 × (Nat → Int32) × (Nat → Int32) × (Nat → Int32) × (Nat → Int32) × (Nat → Int32) × (Nat → Int32)) :=
  ob (fX6_copyFrom v_work_size v_work_lives v_work_shields v_work_effects v_work_numbers v_work_players v_work_against v_o1_size v_o1_lives v_o1_shields v_o1_effects v_o1_numbers v_o1_players v_o1_against) fun (w_1, w_2, w_3, w_4, w_5, w_6, w_7) =>
  ob (fX4_goOn 40 p2 p3 0 (-1) w_1 w_2 w_3 w_4 w_5 w_6 w_7 (((1 : Int32) <<< (v_o1_size &&& 31)) - 1) 0) fun (w_9, w_10, w_11, w_12, w_13, w_14) =>
  some (w_10, p2, p3, w_9, w_10, w_1, w_11, w_12, w_13, w_14, w_6, w_7)
/-! model1 -/
def fX9_thrown (v_thrown : Int32) : Option (Int32) :=
  some v_thrown
def fX9_goesWell_b14 (v_thrown : Int32) (s0 : Int32) : Option (Int32 × Int32) :=
  some (s0, v_thrown)
def fX9_goesWell (v_thrown : Int32) (p1 : Int32) : Option (Int32 × Int32) :=
  if p1 = 0 then
  (fX9_goesWell_b14 p1 1)
  else
  (fX9_goesWell_b14 p1 0)
def fX9_in_b15 (s0 : Int32) : Option (Int32) :=
  some s0
def fX9_in_b14 : Option (Int32) :=
  fX9_in_b15 0
def fX9_in (p1 : Int32) (p2 : Int32) (p3 : Int32) : Option (Int32) :=
  if p1 < p2 then
  (fX9_in_b14)
  else
  (if p3 < p1 then
  (fX9_in_b14)
  else
  (fX9_in_b15 1))
def fX9_isPlayer (p1 : Int32) : Option (Int32) :=
  ob (fX9_in p1 0 5) fun r_1 =>
  some r_1
def fX9_isKind (v_kinds : Int32) (p1 : Int32) : Option (Int32) :=
  ob (fX9_in p1 0 (v_kinds - 1)) fun r_1 =>
  some r_1
def fX9_kind_b48 (v_thrown : Int32) (v_kinds : Int32) (v_effect : Nat → Int32) (v_number : Nat → Int32) (v_banned : Nat → Int32) (l1 : Int32) (l2 : Int32) (s1 : Int32) : Option (Int32 × Int32 × Int32 × (Nat → Int32) × (Nat → Int32) × (Nat → Int32)) :=
  ob (fX9_goesWell v_thrown s1) fun (r_1, w_2) =>
  if r_1 = 0 then
  (some (0, w_2, v_kinds, v_effect, v_number, v_banned))
  else
  (ck (g_in v_kinds 20) <|
  ck (g_in v_kinds 20) <|
  ck (g_in v_kinds 20) <|
  nm (v_kinds + 1) fun x_9 =>
  some ((x_9 - 1), w_2, x_9, (upd v_effect v_kinds.toNatClampNeg l1), (upd v_number v_kinds.toNatClampNeg l2), (upd v_banned v_kinds.toNatClampNeg (-1))))
def fX9_kind_b24 (v_thrown : Int32) (v_kinds : Int32) (v_effect : Nat → Int32) (v_number : Nat → Int32) (v_banned : Nat → Int32) (l1 : Int32) (l2 : Int32) (s0 : Int32) : Option (Int32 × Int32 × Int32 × (Nat → Int32) × (Nat → Int32) × (Nat → Int32)) :=
  if s0 = 0 then
  (fX9_kind_b48 v_thrown v_kinds v_effect v_number v_banned l1 l2 1)
  else
  (if v_kinds = 20 then
  (fX9_kind_b48 v_thrown v_kinds v_effect v_number v_banned l1 l2 2)
  else
  (fX9_kind_b48 v_thrown v_kinds v_effect v_number v_banned l1 l2 0))
def fX9_kind_b23 (v_thrown : Int32) (v_kinds : Int32) (v_effect : Nat → Int32) (v_number : Nat → Int32) (v_banned : Nat → Int32) (l1 : Int32) (l2 : Int32) : Option (Int32 × Int32 × Int32 × (Nat → Int32) × (Nat → Int32) × (Nat → Int32)) :=
  fX9_kind_b24 v_thrown v_kinds v_effect v_number v_banned l1 l2 0
def fX9_kind (v_thrown : Int32) (v_kinds : Int32) (v_effect : Nat → Int32) (v_number : Nat → Int32) (v_banned : Nat → Int32) (p1 : Int32) (p2 : Int32) : Option (Int32 × Int32 × Int32 × (Nat → Int32) × (Nat → Int32) × (Nat → Int32)) :=
  ob (fX9_in p1 0 5) fun r_1 =>
  if r_1 = 0 then
  (fX9_kind_b23 v_thrown v_kinds v_effect v_number v_banned p1 p2)
  else
  (ob (fX9_in p2 1 9) fun r_5 =>
  if r_5 = 0 then
  (fX9_kind_b23 v_thrown v_kinds v_effect v_number v_banned p1 p2)
  else
  (fX9_kind_b24 v_thrown v_kinds v_effect v_number v_banned p1 p2 1))
def fX9_inDeck_b38 (k_5 : Int32 → Int32 → Int32 → Int32 → Option (Int32)) (v_deck : Nat → Int32) (v_deckSize : Nat → Int32) (l1 : Int32) (l2 : Int32) (l4 : Int32) (s0 : Int32) (s1 : Int32) : Option (Int32) :=
  nm (s0 + s1) fun x_1 =>
  nm (l4 + 1) fun x_2 =>
  k_5 l1 l2 x_1 x_2
def fX9_inDeck_b5 (v_deck : Nat → Int32) (v_deckSize : Nat → Int32) : Nat → Int32 → Int32 → Int32 → Int32 → Option (Int32)
  | 0, _, _, _, _ => none
  | n + 1, l1, l2, l3, l4 =>
  ck (g_in l1 6) <|
  if (v_deckSize l1.toNatClampNeg) ≤ l4 then
  (some l3)
  else
  (ck (g_in ((8 * l1) + l4) 48) <|
  if (v_deck ((8 * l1) + l4).toNatClampNeg) = l2 then
  (fX9_inDeck_b38 (fX9_inDeck_b5 v_deck v_deckSize n) v_deck v_deckSize l1 l2 l4 l3 1)
  else
  (fX9_inDeck_b38 (fX9_inDeck_b5 v_deck v_deckSize n) v_deck v_deckSize l1 l2 l4 l3 0))
def fX9_inDeck (v_deck : Nat → Int32) (v_deckSize : Nat → Int32) (p1 : Int32) (p2 : Int32) : Option (Int32) :=
  fX9_inDeck_b5 v_deck v_deckSize 70 p1 p2 0 0
def fX9_ban_b79 (k_55 : Int32 → (Nat → Int32) → Int32 → Int32 → Int32 → Option (Int32 × Int32 × (Nat → Int32))) (v_today : Int32) (v_kinds : Int32) (v_deck : Nat → Int32) (v_deckSize : Nat → Int32) (v_thrown : Int32) (v_banned : Nat → Int32) (l1 : Int32) (l5 : Int32) (s0 : Int32) (s1 : Int32) : Option (Int32 × Int32 × (Nat → Int32)) :=
  nm (s0 + s1) fun x_1 =>
  nm (l5 + 1) fun x_2 =>
  k_55 v_thrown v_banned l1 x_1 x_2
def fX9_ban_b55 (v_today : Int32) (v_kinds : Int32) (v_deck : Nat → Int32) (v_deckSize : Nat → Int32) : Nat → Int32 → (Nat → Int32) → Int32 → Int32 → Int32 → Option (Int32 × Int32 × (Nat → Int32))
  | 0, _, _, _, _, _ => none
  | n + 1, v_thrown, v_banned, l1, l4, l5 =>
  if 6 ≤ l5 then
  (some (l4, v_thrown, v_banned))
  else
  (ob (fX9_inDeck v_deck v_deckSize l5 l1) fun r_2 =>
  if r_2 ≤ 0 then
  (fX9_ban_b79 (fX9_ban_b55 v_today v_kinds v_deck v_deckSize n) v_today v_kinds v_deck v_deckSize v_thrown v_banned l1 l5 l4 0)
  else
  (fX9_ban_b79 (fX9_ban_b55 v_today v_kinds v_deck v_deckSize n) v_today v_kinds v_deck v_deckSize v_thrown v_banned l1 l5 l4 1))
def fX9_ban_b34 (v_today : Int32) (v_kinds : Int32) (v_deck : Nat → Int32) (v_deckSize : Nat → Int32) (v_thrown : Int32) (v_banned : Nat → Int32) (l1 : Int32) (l2 : Int32) (s1 : Int32) : Option (Int32 × Int32 × (Nat → Int32)) :=
  ob (fX9_goesWell v_thrown s1) fun (r_1, w_2) =>
  if r_1 = 0 then
  (some (0, w_2, v_banned))
  else
  (ck (g_in l1 20) <|
  fX9_ban_b55 v_today v_kinds v_deck v_deckSize 70 w_2 (upd v_banned l1.toNatClampNeg l2) l1 0 0)
def fX9_ban (v_thrown : Int32) (v_today : Int32) (v_kinds : Int32) (v_banned : Nat → Int32) (v_deck : Nat → Int32) (v_deckSize : Nat → Int32) (p1 : Int32) (p2 : Int32) : Option (Int32 × Int32 × (Nat → Int32)) :=
  ob (fX9_isKind v_kinds p1) fun r_1 =>
  if r_1 = 0 then
  (fX9_ban_b34 v_today v_kinds v_deck v_deckSize v_thrown v_banned p1 p2 1)
  else
  (ob (fX9_in p2 v_today 1000) fun r_5 =>
  if r_5 = 0 then
  (fX9_ban_b34 v_today v_kinds v_deck v_deckSize v_thrown v_banned p1 p2 2)
  else
  (fX9_ban_b34 v_today v_kinds v_deck v_deckSize v_thrown v_banned p1 p2 0))
def fX9_isBanned_b25 (v_banned : Nat → Int32) (s0 : Int32) : Option (Int32) :=
  some s0
def fX9_isBanned_b24 (v_banned : Nat → Int32) : Option (Int32) :=
  fX9_isBanned_b25 v_banned 0
def fX9_isBanned (v_banned : Nat → Int32) (p1 : Int32) (p2 : Int32) : Option (Int32) :=
  ck (g_in p1 20) <|
  if (v_banned p1.toNatClampNeg) = (-1) then
  (fX9_isBanned_b24 v_banned)
  else
  (ck (g_in p1 20) <|
  if p2 < (v_banned p1.toNatClampNeg) then
  (fX9_isBanned_b24 v_banned)
  else
  (fX9_isBanned_b25 v_banned 1))
def fX9_get_b47 (v_kinds : Int32) (v_thrown : Int32) (v_has : Nat → Int32) (l1 : Int32) (l2 : Int32) (l3 : Int32) (s1 : Int32) : Option (Int32 × Int32 × (Nat → Int32)) :=
  ob (fX9_goesWell v_thrown s1) fun (r_1, w_2) =>
  if r_1 = 0 then
  (some (0, w_2, v_has))
  else
  (ck (g_in ((20 * l1) + l2) 120) <|
  nm ((v_has ((20 * l1) + l2).toNatClampNeg) + l3) fun x_7 =>
  ck (g_in ((20 * l1) + l2) 120) <|
  ck (g_in ((20 * l1) + l2) 120) <|
  some (((upd v_has ((20 * l1) + l2).toNatClampNeg x_7) ((20 * l1) + l2).toNatClampNeg), w_2, (upd v_has ((20 * l1) + l2).toNatClampNeg x_7)))
def fX9_get_b20 (v_kinds : Int32) (v_thrown : Int32) (v_has : Nat → Int32) (l1 : Int32) (l2 : Int32) (l3 : Int32) (s0 : Int32) : Option (Int32 × Int32 × (Nat → Int32)) :=
  if s0 = 0 then
  (fX9_get_b47 v_kinds v_thrown v_has l1 l2 l3 1)
  else
  (ob (fX9_in l3 1 9) fun r_2 =>
  if r_2 = 0 then
  (fX9_get_b47 v_kinds v_thrown v_has l1 l2 l3 2)
  else
  (fX9_get_b47 v_kinds v_thrown v_has l1 l2 l3 0))
def fX9_get_b19 (v_kinds : Int32) (v_thrown : Int32) (v_has : Nat → Int32) (l1 : Int32) (l2 : Int32) (l3 : Int32) : Option (Int32 × Int32 × (Nat → Int32)) :=
  fX9_get_b20 v_kinds v_thrown v_has l1 l2 l3 0
def fX9_get (v_thrown : Int32) (v_kinds : Int32) (v_has : Nat → Int32) (p1 : Int32) (p2 : Int32) (p3 : Int32) : Option (Int32 × Int32 × (Nat → Int32)) :=
  ob (fX9_isPlayer p1) fun r_1 =>
  if r_1 = 0 then
  (fX9_get_b19 v_kinds v_thrown v_has p1 p2 p3)
  else
  (ob (fX9_isKind v_kinds p2) fun r_5 =>
  if r_5 = 0 then
  (fX9_get_b19 v_kinds v_thrown v_has p1 p2 p3)
  else
  (fX9_get_b20 v_kinds v_thrown v_has p1 p2 p3 1))
def fX9_pass_b34 (v_thrown : Int32) (v_today : Int32) (l1 : Int32) (s1 : Int32) : Option (Int32 × Int32 × Int32) :=
  ob (fX9_goesWell v_thrown s1) fun (r_1, w_2) =>
  if r_1 = 0 then
  (some (0, w_2, v_today))
  else
  (nm (v_today + l1) fun x_6 =>
  some (x_6, w_2, x_6))
def fX9_pass (v_thrown : Int32) (v_today : Int32) (p1 : Int32) : Option (Int32 × Int32 × Int32) :=
  ob (fX9_in p1 1 100) fun r_1 =>
  if r_1 = 0 then
  (fX9_pass_b34 v_thrown v_today p1 1)
  else
  (if (v_today + p1) ≤ 1000 then
  (fX9_pass_b34 v_thrown v_today p1 0)
  else
  (fX9_pass_b34 v_thrown v_today p1 2))
def fX9_play_b96 (v_today : Int32) (v_kinds : Int32) (v_effect : Nat → Int32) (v_number : Nat → Int32) (v_banned : Nat → Int32) (v_has : Nat → Int32) (v_thrown : Int32) (v_stacked : Int32) (v_who : Nat → Int32) (v_does : Nat → Int32) (v_much : Nat → Int32) (v_against : Nat → Int32) (l1 : Int32) (l2 : Int32) (l3 : Int32) (s1 : Int32) : Option (Int32 × Int32 × Int32 × (Nat → Int32) × (Nat → Int32) × (Nat → Int32) × (Nat → Int32)) :=
  ob (fX9_goesWell v_thrown s1) fun (r_1, w_2) =>
  if r_1 = 0 then
  (some (0, w_2, v_stacked, v_who, v_does, v_much, v_against))
  else
  (ck (g_in v_stacked 6) <|
  ck (g_in l2 20) <|
  nm (v_effect l2.toNatClampNeg) fun x_8 =>
  ck (g_in v_stacked 6) <|
  ck (g_in l2 20) <|
  nm (v_number l2.toNatClampNeg) fun x_11 =>
  ck (g_in v_stacked 6) <|
  ck (g_in v_stacked 6) <|
  nm (v_stacked + 1) fun x_14 =>
  some (x_14, w_2, x_14, (upd v_who v_stacked.toNatClampNeg l1), (upd v_does v_stacked.toNatClampNeg x_8), (upd v_much v_stacked.toNatClampNeg x_11), (upd v_against v_stacked.toNatClampNeg l3)))
def fX9_play_b74 (v_today : Int32) (v_kinds : Int32) (v_effect : Nat → Int32) (v_number : Nat → Int32) (v_banned : Nat → Int32) (v_has : Nat → Int32) (v_thrown : Int32) (v_stacked : Int32) (v_who : Nat → Int32) (v_does : Nat → Int32) (v_much : Nat → Int32) (v_against : Nat → Int32) (l1 : Int32) (l2 : Int32) (l3 : Int32) (l4 : Int32) (s0 : Int32) : Option (Int32 × Int32 × Int32 × (Nat → Int32) × (Nat → Int32) × (Nat → Int32) × (Nat → Int32)) :=
  if l4 = 0 then
  (fX9_play_b96 v_today v_kinds v_effect v_number v_banned v_has v_thrown v_stacked v_who v_does v_much v_against l1 l2 l3 1)
  else
  (if s0 = 0 then
  (fX9_play_b96 v_today v_kinds v_effect v_number v_banned v_has v_thrown v_stacked v_who v_does v_much v_against l1 l2 l3 2)
  else
  (fX9_play_b96 v_today v_kinds v_effect v_number v_banned v_has v_thrown v_stacked v_who v_does v_much v_against l1 l2 l3 0))
def fX9_play_b73 (v_today : Int32) (v_kinds : Int32) (v_effect : Nat → Int32) (v_number : Nat → Int32) (v_banned : Nat → Int32) (v_has : Nat → Int32) (v_thrown : Int32) (v_stacked : Int32) (v_who : Nat → Int32) (v_does : Nat → Int32) (v_much : Nat → Int32) (v_against : Nat → Int32) (l1 : Int32) (l2 : Int32) (l3 : Int32) (l4 : Int32) : Option (Int32 × Int32 × Int32 × (Nat → Int32) × (Nat → Int32) × (Nat → Int32) × (Nat → Int32)) :=
  fX9_play_b74 v_today v_kinds v_effect v_number v_banned v_has v_thrown v_stacked v_who v_does v_much v_against l1 l2 l3 l4 0
def fX9_play_b27 (v_today : Int32) (v_kinds : Int32) (v_effect : Nat → Int32) (v_number : Nat → Int32) (v_banned : Nat → Int32) (v_has : Nat → Int32) (v_thrown : Int32) (v_stacked : Int32) (v_who : Nat → Int32) (v_does : Nat → Int32) (v_much : Nat → Int32) (v_against : Nat → Int32) (l1 : Int32) (l2 : Int32) (l3 : Int32) (s0 : Int32) : Option (Int32 × Int32 × Int32 × (Nat → Int32) × (Nat → Int32) × (Nat → Int32) × (Nat → Int32)) :=
  if s0 = 0 then
  (fX9_play_b73 v_today v_kinds v_effect v_number v_banned v_has v_thrown v_stacked v_who v_does v_much v_against l1 l2 l3 s0)
  else
  (ck (g_in ((20 * l1) + l2) 120) <|
  if (v_has ((20 * l1) + l2).toNatClampNeg) ≤ 0 then
  (fX9_play_b73 v_today v_kinds v_effect v_number v_banned v_has v_thrown v_stacked v_who v_does v_much v_against l1 l2 l3 s0)
  else
  (ob (fX9_isBanned v_banned l2 v_today) fun r_4 =>
  if r_4 = 0 then
  (if 6 ≤ v_stacked then
  (fX9_play_b73 v_today v_kinds v_effect v_number v_banned v_has v_thrown v_stacked v_who v_does v_much v_against l1 l2 l3 s0)
  else
  (fX9_play_b74 v_today v_kinds v_effect v_number v_banned v_has v_thrown v_stacked v_who v_does v_much v_against l1 l2 l3 s0 1))
  else
  (fX9_play_b73 v_today v_kinds v_effect v_number v_banned v_has v_thrown v_stacked v_who v_does v_much v_against l1 l2 l3 s0)))
def fX9_play_b26 (v_today : Int32) (v_kinds : Int32) (v_effect : Nat → Int32) (v_number : Nat → Int32) (v_banned : Nat → Int32) (v_has : Nat → Int32) (v_thrown : Int32) (v_stacked : Int32) (v_who : Nat → Int32) (v_does : Nat → Int32) (v_much : Nat → Int32) (v_against : Nat → Int32) (l1 : Int32) (l2 : Int32) (l3 : Int32) : Option (Int32 × Int32 × Int32 × (Nat → Int32) × (Nat → Int32) × (Nat → Int32) × (Nat → Int32)) :=
  fX9_play_b27 v_today v_kinds v_effect v_number v_banned v_has v_thrown v_stacked v_who v_does v_much v_against l1 l2 l3 0
def fX9_play (v_thrown : Int32) (v_today : Int32) (v_kinds : Int32) (v_stacked : Int32) (v_effect : Nat → Int32) (v_number : Nat → Int32) (v_banned : Nat → Int32) (v_has : Nat → Int32) (v_who : Nat → Int32) (v_does : Nat → Int32) (v_much : Nat → Int32) (v_against : Nat → Int32) (p1 : Int32) (p2 : Int32) (p3 : Int32) : Option (Int32 × Int32 × Int32 × (Nat → Int32) × (Nat → Int32) × (Nat → Int32) × (Nat → Int32)) :=
  ob (fX9_isPlayer p1) fun r_1 =>
  if r_1 = 0 then
  (fX9_play_b26 v_today v_kinds v_effect v_number v_banned v_has v_thrown v_stacked v_who v_does v_much v_against p1 p2 p3)
  else
  (ob (fX9_isKind v_kinds p2) fun r_5 =>
  if r_5 = 0 then
  (fX9_play_b26 v_today v_kinds v_effect v_number v_banned v_has v_thrown v_stacked v_who v_does v_much v_against p1 p2 p3)
  else
  (ob (fX9_isPlayer p3) fun r_9 =>
  if r_9 = 0 then
  (fX9_play_b26 v_today v_kinds v_effect v_number v_banned v_has v_thrown v_stacked v_who v_does v_much v_against p1 p2 p3)
  else
  (fX9_play_b27 v_today v_kinds v_effect v_number v_banned v_has v_thrown v_stacked v_who v_does v_much v_against p1 p2 p3 1)))
/-! model2 -/
def fX9_isInt_b21 (s0 : Int32) : Option (Int32) :=
  some s0
def fX9_isInt_b20 : Option (Int32) :=
  fX9_isInt_b21 0
def fX9_isInt (p1 : Int64) : Option (Int32) :=
  if (lg_cmp p1 (-2147483648)) < 0 then
  (fX9_isInt_b20)
  else
  (if 0 < (lg_cmp p1 2147483647) then
  (fX9_isInt_b20)
  else
  (fX9_isInt_b21 1))
def fX9_tryOff_b2 : Nat → Int32 → (Nat → Int32) → (Nat → Int32) → (Nat → Int64) → (Nat → Int32) → Int32 → Option (Int32 × (Nat → Int32) × (Nat → Int32) × (Nat → Int64) × (Nat → Int32))
  | 0, _, _, _, _, _, _ => none
  | n + 1, v_high, v_tryWho, v_tryDoes, v_tryMuch, v_tryAgainst, l2 =>
  if (v_high - 1) ≤ l2 then
  (nm (v_high - 1) fun x_2 =>
  some (x_2, v_tryWho, v_tryDoes, v_tryMuch, v_tryAgainst))
  else
  (ck (g_in (l2 + 1) 6) <|
  nm (v_tryWho (l2 + 1).toNatClampNeg) fun x_4 =>
  ck (g_in l2 6) <|
  ck (g_in (l2 + 1) 6) <|
  nm (v_tryDoes (l2 + 1).toNatClampNeg) fun x_7 =>
  ck (g_in l2 6) <|
  ck (g_in (l2 + 1) 6) <|
  nm (v_tryMuch (l2 + 1).toNatClampNeg) fun x_10 =>
  ck (g_in l2 6) <|
  ck (g_in (l2 + 1) 6) <|
  nm (v_tryAgainst (l2 + 1).toNatClampNeg) fun x_13 =>
  ck (g_in l2 6) <|
  nm (l2 + 1) fun x_15 =>
  (fX9_tryOff_b2 n) v_high (upd v_tryWho l2.toNatClampNeg x_4) (upd v_tryDoes l2.toNatClampNeg x_7) (vp_updL v_tryMuch l2.toNatClampNeg x_10) (upd v_tryAgainst l2.toNatClampNeg x_13) x_15)
def fX9_tryOff (v_high : Int32) (v_tryWho : Nat → Int32) (v_tryDoes : Nat → Int32) (v_tryMuch : Nat → Int64) (v_tryAgainst : Nat → Int32) (p1 : Int32) : Option (Int32 × (Nat → Int32) × (Nat → Int32) × (Nat → Int64) × (Nat → Int32)) :=
  fX9_tryOff_b2 70 v_high v_tryWho v_tryDoes v_tryMuch v_tryAgainst p1
def fX9_stopOne_b36 (v_high : Int32) (v_tryWho : Nat → Int32) (v_tryDoes : Nat → Int32) (v_tryMuch : Nat → Int64) (v_tryAgainst : Nat → Int32) : Option (Int32 × (Nat → Int32) × (Nat → Int32) × (Nat → Int64) × (Nat → Int32)) :=
  some (v_high, v_tryWho, v_tryDoes, v_tryMuch, v_tryAgainst)
def fX9_stopOne_b27 (v_high : Int32) (v_tryWho : Nat → Int32) (v_tryDoes : Nat → Int32) (v_tryMuch : Nat → Int64) (v_tryAgainst : Nat → Int32) (l2 : Int32) : Option (Int32 × (Nat → Int32) × (Nat → Int32) × (Nat → Int64) × (Nat → Int32)) :=
  if l2 < 0 then
  (fX9_stopOne_b36 v_high v_tryWho v_tryDoes v_tryMuch v_tryAgainst)
  else
  (ob (fX9_tryOff v_high v_tryWho v_tryDoes v_tryMuch v_tryAgainst l2) fun (w_2, w_3, w_4, w_5, w_6) =>
  fX9_stopOne_b36 w_2 w_3 w_4 w_5 w_6)
def fX9_stopOne_b7 : Nat → Int32 → (Nat → Int32) → (Nat → Int32) → (Nat → Int64) → (Nat → Int32) → Int32 → Int32 → Option (Int32 × (Nat → Int32) × (Nat → Int32) × (Nat → Int64) × (Nat → Int32))
  | 0, _, _, _, _, _, _, _ => none
  | n + 1, v_high, v_tryWho, v_tryDoes, v_tryMuch, v_tryAgainst, l1, l2 =>
  if l2 < 0 then
  (fX9_stopOne_b27 v_high v_tryWho v_tryDoes v_tryMuch v_tryAgainst l2)
  else
  (ck (g_in l2 6) <|
  if (v_tryWho l2.toNatClampNeg) = l1 then
  (nm (l2 + (-1)) fun x_4 =>
  (fX9_stopOne_b7 n) v_high v_tryWho v_tryDoes v_tryMuch v_tryAgainst l1 x_4)
  else
  (fX9_stopOne_b27 v_high v_tryWho v_tryDoes v_tryMuch v_tryAgainst l2))
def fX9_stopOne (v_high : Int32) (v_tryWho : Nat → Int32) (v_tryDoes : Nat → Int32) (v_tryMuch : Nat → Int64) (v_tryAgainst : Nat → Int32) (p1 : Int32) : Option (Int32 × (Nat → Int32) × (Nat → Int32) × (Nat → Int64) × (Nat → Int32)) :=
  nm (v_high - 1) fun x_1 =>
  fX9_stopOne_b7 70 v_high v_tryWho v_tryDoes v_tryMuch v_tryAgainst p1 x_1
def fX9_tryTop_b93 (v_high : Int32) (v_tryWho : Nat → Int32) (v_tryDoes : Nat → Int32) (v_tryMuch : Nat → Int64) (v_tryAgainst : Nat → Int32) (v_tryLife : Nat → Int64) (v_tryShield : Nat → Int64) (l1 : Int32) (l2 : Int64) (s0 : Int64) : Option (Int32 × Int32 × (Nat → Int32) × (Nat → Int32) × (Nat → Int64) × (Nat → Int32) × (Nat → Int64) × (Nat → Int64)) :=
  ck (g_in l1 6) <|
  nm ((v_tryShield l1.toNatClampNeg) - s0) fun x_2 =>
  ck (g_in l1 6) <|
  ck (g_in l1 6) <|
  nm ((v_tryLife l1.toNatClampNeg) - (l2 - s0)) fun x_5 =>
  ck (g_in l1 6) <|
  ck (g_in l1 6) <|
  ob (fX9_isInt ((vp_updL v_tryLife l1.toNatClampNeg x_5) l1.toNatClampNeg)) fun r_8 =>
  some (r_8, v_high, v_tryWho, v_tryDoes, v_tryMuch, v_tryAgainst, (vp_updL v_tryLife l1.toNatClampNeg x_5), (vp_updL v_tryShield l1.toNatClampNeg x_2))
def fX9_tryTop_b237 (v_high : Int32) (v_tryWho : Nat → Int32) (v_tryDoes : Nat → Int32) (v_tryMuch : Nat → Int64) (v_tryAgainst : Nat → Int32) (v_tryLife : Nat → Int64) (v_tryShield : Nat → Int64) (s0 : Int32) : Option (Int32 × Int32 × (Nat → Int32) × (Nat → Int32) × (Nat → Int64) × (Nat → Int32) × (Nat → Int64) × (Nat → Int64)) :=
  some (s0, v_high, v_tryWho, v_tryDoes, v_tryMuch, v_tryAgainst, v_tryLife, v_tryShield)
def fX9_tryTop_b232 (v_high : Int32) (v_tryWho : Nat → Int32) (v_tryDoes : Nat → Int32) (v_tryMuch : Nat → Int64) (v_tryAgainst : Nat → Int32) (v_tryLife : Nat → Int64) (v_tryShield : Nat → Int64) : Option (Int32 × Int32 × (Nat → Int32) × (Nat → Int32) × (Nat → Int64) × (Nat → Int32) × (Nat → Int64) × (Nat → Int64)) :=
  fX9_tryTop_b237 v_high v_tryWho v_tryDoes v_tryMuch v_tryAgainst v_tryLife v_tryShield 1
def fX9_tryTop_b208 (v_high : Int32) (v_tryWho : Nat → Int32) (v_tryDoes : Nat → Int32) (v_tryMuch : Nat → Int64) (v_tryAgainst : Nat → Int32) (v_tryLife : Nat → Int64) (v_tryShield : Nat → Int64) : Option (Int32 × Int32 × (Nat → Int32) × (Nat → Int32) × (Nat → Int64) × (Nat → Int32) × (Nat → Int64) × (Nat → Int64)) :=
  if v_high = 0 then
  (fX9_tryTop_b232 v_high v_tryWho v_tryDoes v_tryMuch v_tryAgainst v_tryLife v_tryShield)
  else
  (ck (g_in (v_high - 1) 6) <|
  ob (fX9_isInt (v_tryMuch (v_high - 1).toNatClampNeg)) fun r_3 =>
  if r_3 = 0 then
  (fX9_tryTop_b237 v_high v_tryWho v_tryDoes v_tryMuch v_tryAgainst v_tryLife v_tryShield 0)
  else
  (fX9_tryTop_b232 v_high v_tryWho v_tryDoes v_tryMuch v_tryAgainst v_tryLife v_tryShield))
def fX9_tryTop_b292 (k_241 : Int32 → (Nat → Int32) → (Nat → Int32) → (Nat → Int64) → (Nat → Int32) → (Nat → Int64) → (Nat → Int64) → Int32 → Option (Int32 × Int32 × (Nat → Int32) × (Nat → Int32) × (Nat → Int64) × (Nat → Int32) × (Nat → Int64) × (Nat → Int64))) (v_high : Int32) (v_tryWho : Nat → Int32) (v_tryDoes : Nat → Int32) (v_tryMuch : Nat → Int64) (v_tryAgainst : Nat → Int32) (v_tryLife : Nat → Int64) (v_tryShield : Nat → Int64) (l6 : Int32) (s1 : Int32) (s2 : Int32) : Option (Int32 × Int32 × (Nat → Int32) × (Nat → Int32) × (Nat → Int64) × (Nat → Int32) × (Nat → Int64) × (Nat → Int64)) :=
  ck (g_in s1 6) <|
  nm (l6 + 1) fun x_2 =>
  k_241 v_high v_tryWho (upd v_tryDoes s1.toNatClampNeg s2) v_tryMuch v_tryAgainst v_tryLife v_tryShield x_2
def fX9_tryTop_b241 : Nat → Int32 → (Nat → Int32) → (Nat → Int32) → (Nat → Int64) → (Nat → Int32) → (Nat → Int64) → (Nat → Int64) → Int32 → Option (Int32 × Int32 × (Nat → Int32) × (Nat → Int32) × (Nat → Int64) × (Nat → Int32) × (Nat → Int64) × (Nat → Int64))
  | 0, _, _, _, _, _, _, _, _ => none
  | n + 1, v_high, v_tryWho, v_tryDoes, v_tryMuch, v_tryAgainst, v_tryLife, v_tryShield, l6 =>
  if v_high ≤ l6 then
  (some (1, v_high, v_tryWho, v_tryDoes, v_tryMuch, v_tryAgainst, v_tryLife, v_tryShield))
  else
  (ck (g_in l6 6) <|
  if (v_tryDoes l6.toNatClampNeg) = 0 then
  (fX9_tryTop_b292 (fX9_tryTop_b241 n) v_high v_tryWho v_tryDoes v_tryMuch v_tryAgainst v_tryLife v_tryShield l6 l6 1)
  else
  (ck (g_in l6 6) <|
  if (v_tryDoes l6.toNatClampNeg) = 1 then
  (fX9_tryTop_b292 (fX9_tryTop_b241 n) v_high v_tryWho v_tryDoes v_tryMuch v_tryAgainst v_tryLife v_tryShield l6 l6 0)
  else
  (ck (g_in l6 6) <|
  fX9_tryTop_b292 (fX9_tryTop_b241 n) v_high v_tryWho v_tryDoes v_tryMuch v_tryAgainst v_tryLife v_tryShield l6 l6 (v_tryDoes l6.toNatClampNeg))))
def fX9_tryTop (v_high : Int32) (v_tryWho : Nat → Int32) (v_tryDoes : Nat → Int32) (v_tryMuch : Nat → Int64) (v_tryAgainst : Nat → Int32) (v_tryLife : Nat → Int64) (v_tryShield : Nat → Int64) : Option (Int32 × Int32 × (Nat → Int32) × (Nat → Int32) × (Nat → Int64) × (Nat → Int32) × (Nat → Int64) × (Nat → Int64)) :=
  nm (v_high - 1) fun x_1 =>
  ck (g_in x_1 6) <|
  nm (v_tryAgainst x_1.toNatClampNeg) fun x_3 =>
  ck (g_in x_1 6) <|
  nm (v_tryMuch x_1.toNatClampNeg) fun x_5 =>
  ck (g_in x_1 6) <|
  if (v_tryDoes x_1.toNatClampNeg) = 0 then
  (ck (g_in x_3 6) <|
  if 0 ≤ (lg_cmp (v_tryShield x_3.toNatClampNeg) x_5) then
  (fX9_tryTop_b93 x_1 v_tryWho v_tryDoes v_tryMuch v_tryAgainst v_tryLife v_tryShield x_3 x_5 x_5)
  else
  (ck (g_in x_3 6) <|
  fX9_tryTop_b93 x_1 v_tryWho v_tryDoes v_tryMuch v_tryAgainst v_tryLife v_tryShield x_3 x_5 (v_tryShield x_3.toNatClampNeg)))
  else if (v_tryDoes x_1.toNatClampNeg) = 1 then
  (ck (g_in x_3 6) <|
  nm ((v_tryLife x_3.toNatClampNeg) + x_5) fun x_13 =>
  ck (g_in x_3 6) <|
  ck (g_in x_3 6) <|
  ob (fX9_isInt ((vp_updL v_tryLife x_3.toNatClampNeg x_13) x_3.toNatClampNeg)) fun r_16 =>
  some (r_16, x_1, v_tryWho, v_tryDoes, v_tryMuch, v_tryAgainst, (vp_updL v_tryLife x_3.toNatClampNeg x_13), v_tryShield))
  else if (v_tryDoes x_1.toNatClampNeg) = 2 then
  (ck (g_in x_3 6) <|
  nm ((v_tryShield x_3.toNatClampNeg) + x_5) fun x_21 =>
  ck (g_in x_3 6) <|
  ck (g_in x_3 6) <|
  ob (fX9_isInt ((vp_updL v_tryShield x_3.toNatClampNeg x_21) x_3.toNatClampNeg)) fun r_24 =>
  some (r_24, x_1, v_tryWho, v_tryDoes, v_tryMuch, v_tryAgainst, v_tryLife, (vp_updL v_tryShield x_3.toNatClampNeg x_21)))
  else if (v_tryDoes x_1.toNatClampNeg) = 3 then
  (ck (g_in x_1 6) <|
  ob (fX9_stopOne x_1 v_tryWho v_tryDoes v_tryMuch v_tryAgainst (v_tryWho x_1.toNatClampNeg)) fun (w_29, w_30, w_31, w_32, w_33) =>
  some (1, w_29, w_30, w_31, w_32, w_33, v_tryLife, v_tryShield))
  else if (v_tryDoes x_1.toNatClampNeg) = 4 then
  (if x_1 ≤ 0 then
  (fX9_tryTop_b208 x_1 v_tryWho v_tryDoes v_tryMuch v_tryAgainst v_tryLife v_tryShield)
  else
  (ck (g_in (x_1 - 1) 6) <|
  nm ((v_tryMuch (x_1 - 1).toNatClampNeg) * 2) fun x_38 =>
  ck (g_in (x_1 - 1) 6) <|
  fX9_tryTop_b208 x_1 v_tryWho v_tryDoes (vp_updL v_tryMuch (x_1 - 1).toNatClampNeg x_38) v_tryAgainst v_tryLife v_tryShield))
  else (fX9_tryTop_b241 70 x_1 v_tryWho v_tryDoes v_tryMuch v_tryAgainst v_tryLife v_tryShield 0)
def fX9_lay_b70 (k_7 : Int32 → (Nat → Int32) → (Nat → Int32) → (Nat → Int64) → (Nat → Int32) → (Nat → Int64) → (Nat → Int64) → Int32 → Int32 → Int32 → Option (Int32 × (Nat → Int32) × (Nat → Int32) × (Nat → Int64) × (Nat → Int32) × (Nat → Int64) × (Nat → Int64))) (k_39 : Int32 → (Nat → Int32) → (Nat → Int32) → (Nat → Int64) → (Nat → Int32) → (Nat → Int64) → (Nat → Int64) → Int32 → Int32 → Int32 → Int32 → Int32 → Option (Int32 × (Nat → Int32) × (Nat → Int32) × (Nat → Int64) × (Nat → Int32) × (Nat → Int64) × (Nat → Int64))) (v_stacked : Int32) (v_life : Nat → Int32) (v_shield : Nat → Int32) (v_who : Nat → Int32) (v_does : Nat → Int32) (v_much : Nat → Int32) (v_against : Nat → Int32) (v_high : Int32) (v_tryWho : Nat → Int32) (v_tryDoes : Nat → Int32) (v_tryMuch : Nat → Int64) (v_tryAgainst : Nat → Int32) (v_tryLife : Nat → Int64) (v_tryShield : Nat → Int64) (l2 : Int32) (l3 : Int32) (l4 : Int32) (l7 : Int32) (s0 : Int32) (s1 : Int32) : Option (Int32 × (Nat → Int32) × (Nat → Int32) × (Nat → Int64) × (Nat → Int32) × (Nat → Int64) × (Nat → Int64)) :=
  nm (s0 - s1) fun x_1 =>
  nm (l7 + 1) fun x_2 =>
  k_39 v_high v_tryWho v_tryDoes v_tryMuch v_tryAgainst v_tryLife v_tryShield l2 l3 l4 x_1 x_2
def fX9_lay_b54 (k_7 : Int32 → (Nat → Int32) → (Nat → Int32) → (Nat → Int64) → (Nat → Int32) → (Nat → Int64) → (Nat → Int64) → Int32 → Int32 → Int32 → Option (Int32 × (Nat → Int32) × (Nat → Int32) × (Nat → Int64) × (Nat → Int32) × (Nat → Int64) × (Nat → Int64))) (k_39 : Int32 → (Nat → Int32) → (Nat → Int32) → (Nat → Int64) → (Nat → Int32) → (Nat → Int64) → (Nat → Int64) → Int32 → Int32 → Int32 → Int32 → Int32 → Option (Int32 × (Nat → Int32) × (Nat → Int32) × (Nat → Int64) × (Nat → Int32) × (Nat → Int64) × (Nat → Int64))) (v_stacked : Int32) (v_life : Nat → Int32) (v_shield : Nat → Int32) (v_who : Nat → Int32) (v_does : Nat → Int32) (v_much : Nat → Int32) (v_against : Nat → Int32) (v_high : Int32) (v_tryWho : Nat → Int32) (v_tryDoes : Nat → Int32) (v_tryMuch : Nat → Int64) (v_tryAgainst : Nat → Int32) (v_tryLife : Nat → Int64) (v_tryShield : Nat → Int64) (l2 : Int32) (l3 : Int32) (l4 : Int32) (l6 : Int32) (l7 : Int32) : Option (Int32 × (Nat → Int32) × (Nat → Int32) × (Nat → Int64) × (Nat → Int32) × (Nat → Int64) × (Nat → Int64)) :=
  if ((l3 >>> (l7 &&& 31)) &&& 1) = 0 then
  (fX9_lay_b70 k_7 k_39 v_stacked v_life v_shield v_who v_does v_much v_against v_high v_tryWho v_tryDoes v_tryMuch v_tryAgainst v_tryLife v_tryShield l2 l3 l4 l7 l6 1)
  else
  (fX9_lay_b70 k_7 k_39 v_stacked v_life v_shield v_who v_does v_much v_against v_high v_tryWho v_tryDoes v_tryMuch v_tryAgainst v_tryLife v_tryShield l2 l3 l4 l7 l6 0)
def fX9_lay_b39 (k_7 : Int32 → (Nat → Int32) → (Nat → Int32) → (Nat → Int64) → (Nat → Int32) → (Nat → Int64) → (Nat → Int64) → Int32 → Int32 → Int32 → Option (Int32 × (Nat → Int32) × (Nat → Int32) × (Nat → Int64) × (Nat → Int32) × (Nat → Int64) × (Nat → Int64))) (v_stacked : Int32) (v_life : Nat → Int32) (v_shield : Nat → Int32) (v_who : Nat → Int32) (v_does : Nat → Int32) (v_much : Nat → Int32) (v_against : Nat → Int32) : Nat → Int32 → (Nat → Int32) → (Nat → Int32) → (Nat → Int64) → (Nat → Int32) → (Nat → Int64) → (Nat → Int64) → Int32 → Int32 → Int32 → Int32 → Int32 → Option (Int32 × (Nat → Int32) × (Nat → Int32) × (Nat → Int64) × (Nat → Int32) × (Nat → Int64) × (Nat → Int64))
  | 0, _, _, _, _, _, _, _, _, _, _, _, _ => none
  | n + 1, v_high, v_tryWho, v_tryDoes, v_tryMuch, v_tryAgainst, v_tryLife, v_tryShield, l2, l3, l4, l6, l7 =>
  if ((l3 >>> (l7 &&& 31)) &&& 1) = 1 then
  (fX9_lay_b54 k_7 (fX9_lay_b39 k_7 v_stacked v_life v_shield v_who v_does v_much v_against n) v_stacked v_life v_shield v_who v_does v_much v_against v_high v_tryWho v_tryDoes v_tryMuch v_tryAgainst v_tryLife v_tryShield l2 l3 l4 l6 l7)
  else
  (if l6 ≤ 0 then
  (nm (l3 ||| ((1 : Int32) <<< (l7 &&& 31))) fun x_3 =>
  ck (g_in l7 6) <|
  nm (v_who l7.toNatClampNeg) fun x_5 =>
  ck (g_in l4 6) <|
  ck (g_in l7 6) <|
  nm (v_does l7.toNatClampNeg) fun x_8 =>
  ck (g_in l4 6) <|
  ck (g_in l7 6) <|
  nm ((v_much l7.toNatClampNeg).toInt64) fun x_11 =>
  ck (g_in l4 6) <|
  ck (g_in l7 6) <|
  nm (v_against l7.toNatClampNeg) fun x_14 =>
  ck (g_in l4 6) <|
  nm (l4 + 1) fun x_16 =>
  k_7 v_high (upd v_tryWho l4.toNatClampNeg x_5) (upd v_tryDoes l4.toNatClampNeg x_8) (vp_updL v_tryMuch l4.toNatClampNeg x_11) (upd v_tryAgainst l4.toNatClampNeg x_14) v_tryLife v_tryShield l2 x_3 x_16)
  else
  (fX9_lay_b54 k_7 (fX9_lay_b39 k_7 v_stacked v_life v_shield v_who v_does v_much v_against n) v_stacked v_life v_shield v_who v_does v_much v_against v_high v_tryWho v_tryDoes v_tryMuch v_tryAgainst v_tryLife v_tryShield l2 l3 l4 l6 l7))
def fX9_lay_b160 (v_stacked : Int32) (v_life : Nat → Int32) (v_shield : Nat → Int32) (v_who : Nat → Int32) (v_does : Nat → Int32) (v_much : Nat → Int32) (v_against : Nat → Int32) : Nat → Int32 → (Nat → Int32) → (Nat → Int32) → (Nat → Int64) → (Nat → Int32) → (Nat → Int64) → (Nat → Int64) → Int32 → Option (Int32 × (Nat → Int32) × (Nat → Int32) × (Nat → Int64) × (Nat → Int32) × (Nat → Int64) × (Nat → Int64))
  | 0, _, _, _, _, _, _, _, _ => none
  | n + 1, v_high, v_tryWho, v_tryDoes, v_tryMuch, v_tryAgainst, v_tryLife, v_tryShield, l4 =>
  if 6 ≤ l4 then
  (some (v_high, v_tryWho, v_tryDoes, v_tryMuch, v_tryAgainst, v_tryLife, v_tryShield))
  else
  (ck (g_in l4 6) <|
  nm ((v_life l4.toNatClampNeg).toInt64) fun x_3 =>
  ck (g_in l4 6) <|
  ck (g_in l4 6) <|
  nm ((v_shield l4.toNatClampNeg).toInt64) fun x_6 =>
  ck (g_in l4 6) <|
  nm (l4 + 1) fun x_8 =>
  (fX9_lay_b160 v_stacked v_life v_shield v_who v_does v_much v_against n) v_high v_tryWho v_tryDoes v_tryMuch v_tryAgainst (vp_updL v_tryLife l4.toNatClampNeg x_3) (vp_updL v_tryShield l4.toNatClampNeg x_6) x_8)
def fX9_lay_b7 (v_stacked : Int32) (v_life : Nat → Int32) (v_shield : Nat → Int32) (v_who : Nat → Int32) (v_does : Nat → Int32) (v_much : Nat → Int32) (v_against : Nat → Int32) : Nat → Int32 → (Nat → Int32) → (Nat → Int32) → (Nat → Int64) → (Nat → Int32) → (Nat → Int64) → (Nat → Int64) → Int32 → Int32 → Int32 → Option (Int32 × (Nat → Int32) × (Nat → Int32) × (Nat → Int64) × (Nat → Int32) × (Nat → Int64) × (Nat → Int64))
  | 0, _, _, _, _, _, _, _, _, _, _ => none
  | n + 1, v_high, v_tryWho, v_tryDoes, v_tryMuch, v_tryAgainst, v_tryLife, v_tryShield, l2, l3, l4 =>
  if v_stacked ≤ l4 then
  (fX9_lay_b160 v_stacked v_life v_shield v_who v_does v_much v_against 70 v_stacked v_tryWho v_tryDoes v_tryMuch v_tryAgainst v_tryLife v_tryShield 0)
  else
  (nm (v_stacked - l4) fun x_2 =>
  ck (nz x_2) <|
  nm (l2 - l2 / x_2 * x_2) fun x_4 =>
  ck (nz x_2) <|
  nm (l2 / x_2) fun x_6 =>
  fX9_lay_b39 (fX9_lay_b7 v_stacked v_life v_shield v_who v_does v_much v_against n) v_stacked v_life v_shield v_who v_does v_much v_against 70 v_high v_tryWho v_tryDoes v_tryMuch v_tryAgainst v_tryLife v_tryShield x_6 l3 l4 x_4 0)
def fX9_lay (v_stacked : Int32) (v_high : Int32) (v_life : Nat → Int32) (v_shield : Nat → Int32) (v_who : Nat → Int32) (v_does : Nat → Int32) (v_much : Nat → Int32) (v_against : Nat → Int32) (v_tryWho : Nat → Int32) (v_tryDoes : Nat → Int32) (v_tryMuch : Nat → Int64) (v_tryAgainst : Nat → Int32) (v_tryLife : Nat → Int64) (v_tryShield : Nat → Int64) (p1 : Int32) : Option (Int32 × (Nat → Int32) × (Nat → Int32) × (Nat → Int64) × (Nat → Int32) × (Nat → Int64) × (Nat → Int64)) :=
  fX9_lay_b7 v_stacked v_life v_shield v_who v_does v_much v_against 70 v_high v_tryWho v_tryDoes v_tryMuch v_tryAgainst v_tryLife v_tryShield p1 0 0
def fX9_top_b108 : Nat → Int32 → Int32 → Int32 → (Nat → Int32) → (Nat → Int32) → (Nat → Int32) → (Nat → Int32) → (Nat → Int32) → (Nat → Int32) → (Nat → Int32) → (Nat → Int32) → (Nat → Int64) → (Nat → Int32) → (Nat → Int64) → (Nat → Int64) → Int32 → Option (Int32 × Int32 × Int32 × Int32 × (Nat → Int32) × (Nat → Int32) × (Nat → Int32) × (Nat → Int32) × (Nat → Int32) × (Nat → Int32) × (Nat → Int32) × (Nat → Int32) × (Nat → Int64) × (Nat → Int32) × (Nat → Int64) × (Nat → Int64))
  | 0, _, _, _, _, _, _, _, _, _, _, _, _, _, _, _, _ => none
  | n + 1, v_thrown, v_stacked, v_high, v_life, v_shield, v_who, v_does, v_much, v_against, v_tryWho, v_tryDoes, v_tryMuch, v_tryAgainst, v_tryLife, v_tryShield, l1 =>
  if 6 ≤ l1 then
  (some (v_stacked, v_thrown, v_stacked, v_high, v_life, v_shield, v_who, v_does, v_much, v_against, v_tryWho, v_tryDoes, v_tryMuch, v_tryAgainst, v_tryLife, v_tryShield))
  else
  (ck (g_in l1 6) <|
  nm ((v_tryLife l1.toNatClampNeg).toInt32) fun x_3 =>
  ck (g_in l1 6) <|
  ck (g_in l1 6) <|
  nm ((v_tryShield l1.toNatClampNeg).toInt32) fun x_6 =>
  ck (g_in l1 6) <|
  nm (l1 + 1) fun x_8 =>
  (fX9_top_b108 n) v_thrown v_stacked v_high (upd v_life l1.toNatClampNeg x_3) (upd v_shield l1.toNatClampNeg x_6) v_who v_does v_much v_against v_tryWho v_tryDoes v_tryMuch v_tryAgainst v_tryLife v_tryShield x_8)
def fX9_top_b43 : Nat → Int32 → Int32 → Int32 → (Nat → Int32) → (Nat → Int32) → (Nat → Int32) → (Nat → Int32) → (Nat → Int32) → (Nat → Int32) → (Nat → Int32) → (Nat → Int32) → (Nat → Int64) → (Nat → Int32) → (Nat → Int64) → (Nat → Int64) → Int32 → Option (Int32 × Int32 × Int32 × Int32 × (Nat → Int32) × (Nat → Int32) × (Nat → Int32) × (Nat → Int32) × (Nat → Int32) × (Nat → Int32) × (Nat → Int32) × (Nat → Int32) × (Nat → Int64) × (Nat → Int32) × (Nat → Int64) × (Nat → Int64))
  | 0, _, _, _, _, _, _, _, _, _, _, _, _, _, _, _, _ => none
  | n + 1, v_thrown, v_stacked, v_high, v_life, v_shield, v_who, v_does, v_much, v_against, v_tryWho, v_tryDoes, v_tryMuch, v_tryAgainst, v_tryLife, v_tryShield, l1 =>
  if v_high ≤ l1 then
  (fX9_top_b108 70 v_thrown v_stacked v_high v_life v_shield v_who v_does v_much v_against v_tryWho v_tryDoes v_tryMuch v_tryAgainst v_tryLife v_tryShield 0)
  else
  (ck (g_in l1 6) <|
  nm (v_tryWho l1.toNatClampNeg) fun x_3 =>
  ck (g_in l1 6) <|
  ck (g_in l1 6) <|
  nm (v_tryDoes l1.toNatClampNeg) fun x_6 =>
  ck (g_in l1 6) <|
  ck (g_in l1 6) <|
  nm ((v_tryMuch l1.toNatClampNeg).toInt32) fun x_9 =>
  ck (g_in l1 6) <|
  ck (g_in l1 6) <|
  nm (v_tryAgainst l1.toNatClampNeg) fun x_12 =>
  ck (g_in l1 6) <|
  nm (l1 + 1) fun x_14 =>
  (fX9_top_b43 n) v_thrown v_stacked v_high v_life v_shield (upd v_who l1.toNatClampNeg x_3) (upd v_does l1.toNatClampNeg x_6) (upd v_much l1.toNatClampNeg x_9) (upd v_against l1.toNatClampNeg x_12) v_tryWho v_tryDoes v_tryMuch v_tryAgainst v_tryLife v_tryShield x_14)
def fX9_top_b25 (v_thrown : Int32) (v_stacked : Int32) (v_high : Int32) (v_life : Nat → Int32) (v_shield : Nat → Int32) (v_who : Nat → Int32) (v_does : Nat → Int32) (v_much : Nat → Int32) (v_against : Nat → Int32) (v_tryWho : Nat → Int32) (v_tryDoes : Nat → Int32) (v_tryMuch : Nat → Int64) (v_tryAgainst : Nat → Int32) (v_tryLife : Nat → Int64) (v_tryShield : Nat → Int64) (s1 : Int32) : Option (Int32 × Int32 × Int32 × Int32 × (Nat → Int32) × (Nat → Int32) × (Nat → Int32) × (Nat → Int32) × (Nat → Int32) × (Nat → Int32) × (Nat → Int32) × (Nat → Int32) × (Nat → Int64) × (Nat → Int32) × (Nat → Int64) × (Nat → Int64)) :=
  ob (fX9_goesWell v_thrown s1) fun (r_1, w_2) =>
  if r_1 = 0 then
  (some (0, w_2, v_stacked, v_high, v_life, v_shield, v_who, v_does, v_much, v_against, v_tryWho, v_tryDoes, v_tryMuch, v_tryAgainst, v_tryLife, v_tryShield))
  else
  (fX9_top_b43 70 w_2 v_high v_high v_life v_shield v_who v_does v_much v_against v_tryWho v_tryDoes v_tryMuch v_tryAgainst v_tryLife v_tryShield 0)
def fX9_top_b20 (v_thrown : Int32) (v_stacked : Int32) (v_high : Int32) (v_life : Nat → Int32) (v_shield : Nat → Int32) (v_who : Nat → Int32) (v_does : Nat → Int32) (v_much : Nat → Int32) (v_against : Nat → Int32) (v_tryWho : Nat → Int32) (v_tryDoes : Nat → Int32) (v_tryMuch : Nat → Int64) (v_tryAgainst : Nat → Int32) (v_tryLife : Nat → Int64) (v_tryShield : Nat → Int64) : Option (Int32 × Int32 × Int32 × Int32 × (Nat → Int32) × (Nat → Int32) × (Nat → Int32) × (Nat → Int32) × (Nat → Int32) × (Nat → Int32) × (Nat → Int32) × (Nat → Int32) × (Nat → Int64) × (Nat → Int32) × (Nat → Int64) × (Nat → Int64)) :=
  fX9_top_b25 v_thrown v_stacked v_high v_life v_shield v_who v_does v_much v_against v_tryWho v_tryDoes v_tryMuch v_tryAgainst v_tryLife v_tryShield 1
def fX9_top (v_thrown : Int32) (v_stacked : Int32) (v_high : Int32) (v_life : Nat → Int32) (v_shield : Nat → Int32) (v_who : Nat → Int32) (v_does : Nat → Int32) (v_much : Nat → Int32) (v_against : Nat → Int32) (v_tryWho : Nat → Int32) (v_tryDoes : Nat → Int32) (v_tryMuch : Nat → Int64) (v_tryAgainst : Nat → Int32) (v_tryLife : Nat → Int64) (v_tryShield : Nat → Int64) : Option (Int32 × Int32 × Int32 × Int32 × (Nat → Int32) × (Nat → Int32) × (Nat → Int32) × (Nat → Int32) × (Nat → Int32) × (Nat → Int32) × (Nat → Int32) × (Nat → Int32) × (Nat → Int64) × (Nat → Int32) × (Nat → Int64) × (Nat → Int64)) :=
  ob (fX9_lay v_stacked v_high v_life v_shield v_who v_does v_much v_against v_tryWho v_tryDoes v_tryMuch v_tryAgainst v_tryLife v_tryShield 0) fun (w_1, w_2, w_3, w_4, w_5, w_6, w_7) =>
  if v_stacked = 0 then
  (fX9_top_b20 v_thrown v_stacked w_1 v_life v_shield v_who v_does v_much v_against w_2 w_3 w_4 w_5 w_6 w_7)
  else
  (ob (fX9_tryTop w_1 w_2 w_3 w_4 w_5 w_6 w_7) fun (r_10, w_11, w_12, w_13, w_14, w_15, w_16, w_17) =>
  if r_10 = 0 then
  (fX9_top_b20 v_thrown v_stacked w_11 v_life v_shield v_who v_does v_much v_against w_12 w_13 w_14 w_15 w_16 w_17)
  else
  (fX9_top_b25 v_thrown v_stacked w_11 v_life v_shield v_who v_does v_much v_against w_12 w_13 w_14 w_15 w_16 w_17 0))
/-! model3 -/
def fX9_bound_b172 (k_55 : Int32 → Int32 → (Nat → Int32) → (Nat → Int32) → (Nat → Int64) → (Nat → Int32) → (Nat → Int64) → (Nat → Int64) → Int32 → Int32 → Int32 → Int32 → Int64 → Int32 → Option (Int32 × Int32 × Int32 × (Nat → Int32) × (Nat → Int32) × (Nat → Int64) × (Nat → Int32) × (Nat → Int64) × (Nat → Int64))) (v_stacked : Int32) (v_life : Nat → Int32) (v_shield : Nat → Int32) (v_who : Nat → Int32) (v_does : Nat → Int32) (v_much : Nat → Int32) (v_against : Nat → Int32) (v_thrown : Int32) (v_high : Int32) (v_tryWho : Nat → Int32) (v_tryDoes : Nat → Int32) (v_tryMuch : Nat → Int64) (v_tryAgainst : Nat → Int32) (v_tryLife : Nat → Int64) (v_tryShield : Nat → Int64) (l1 : Int32) (l2 : Int32) (l3 : Int32) (l5 : Int64) (l7 : Int32) (s0 : Int32) : Option (Int32 × Int32 × Int32 × (Nat → Int32) × (Nat → Int32) × (Nat → Int64) × (Nat → Int32) × (Nat → Int64) × (Nat → Int64)) :=
  nm (l7 + 1) fun x_1 =>
  k_55 v_thrown v_high v_tryWho v_tryDoes v_tryMuch v_tryAgainst v_tryLife v_tryShield l1 l2 l3 s0 l5 x_1
def fX9_bound_b167 (k_55 : Int32 → Int32 → (Nat → Int32) → (Nat → Int32) → (Nat → Int64) → (Nat → Int32) → (Nat → Int64) → (Nat → Int64) → Int32 → Int32 → Int32 → Int32 → Int64 → Int32 → Option (Int32 × Int32 × Int32 × (Nat → Int32) × (Nat → Int32) × (Nat → Int64) × (Nat → Int32) × (Nat → Int64) × (Nat → Int64))) (v_stacked : Int32) (v_life : Nat → Int32) (v_shield : Nat → Int32) (v_who : Nat → Int32) (v_does : Nat → Int32) (v_much : Nat → Int32) (v_against : Nat → Int32) (v_thrown : Int32) (v_high : Int32) (v_tryWho : Nat → Int32) (v_tryDoes : Nat → Int32) (v_tryMuch : Nat → Int64) (v_tryAgainst : Nat → Int32) (v_tryLife : Nat → Int64) (v_tryShield : Nat → Int64) (l1 : Int32) (l2 : Int32) (l3 : Int32) (l5 : Int64) (l7 : Int32) : Option (Int32 × Int32 × Int32 × (Nat → Int32) × (Nat → Int32) × (Nat → Int64) × (Nat → Int32) × (Nat → Int64) × (Nat → Int64)) :=
  fX9_bound_b172 k_55 v_stacked v_life v_shield v_who v_does v_much v_against v_thrown v_high v_tryWho v_tryDoes v_tryMuch v_tryAgainst v_tryLife v_tryShield l1 l2 l3 l5 l7 1
def fX9_bound_b155 (k_55 : Int32 → Int32 → (Nat → Int32) → (Nat → Int32) → (Nat → Int64) → (Nat → Int32) → (Nat → Int64) → (Nat → Int64) → Int32 → Int32 → Int32 → Int32 → Int64 → Int32 → Option (Int32 × Int32 × Int32 × (Nat → Int32) × (Nat → Int32) × (Nat → Int64) × (Nat → Int32) × (Nat → Int64) × (Nat → Int64))) (v_stacked : Int32) (v_life : Nat → Int32) (v_shield : Nat → Int32) (v_who : Nat → Int32) (v_does : Nat → Int32) (v_much : Nat → Int32) (v_against : Nat → Int32) (v_thrown : Int32) (v_high : Int32) (v_tryWho : Nat → Int32) (v_tryDoes : Nat → Int32) (v_tryMuch : Nat → Int64) (v_tryAgainst : Nat → Int32) (v_tryLife : Nat → Int64) (v_tryShield : Nat → Int64) (l1 : Int32) (l2 : Int32) (l3 : Int32) (l4 : Int32) (l7 : Int32) (l8 : Int32) (s0 : Int64) : Option (Int32 × Int32 × Int32 × (Nat → Int32) × (Nat → Int32) × (Nat → Int64) × (Nat → Int32) × (Nat → Int64) × (Nat → Int64)) :=
  if l4 = 0 then
  (if l8 = 0 then
  (fX9_bound_b172 k_55 v_stacked v_life v_shield v_who v_does v_much v_against v_thrown v_high v_tryWho v_tryDoes v_tryMuch v_tryAgainst v_tryLife v_tryShield l1 l2 l3 s0 l7 0)
  else
  (fX9_bound_b167 k_55 v_stacked v_life v_shield v_who v_does v_much v_against v_thrown v_high v_tryWho v_tryDoes v_tryMuch v_tryAgainst v_tryLife v_tryShield l1 l2 l3 s0 l7))
  else
  (fX9_bound_b167 k_55 v_stacked v_life v_shield v_who v_does v_much v_against v_thrown v_high v_tryWho v_tryDoes v_tryMuch v_tryAgainst v_tryLife v_tryShield l1 l2 l3 s0 l7)
def fX9_bound_b153 (k_55 : Int32 → Int32 → (Nat → Int32) → (Nat → Int32) → (Nat → Int64) → (Nat → Int32) → (Nat → Int64) → (Nat → Int64) → Int32 → Int32 → Int32 → Int32 → Int64 → Int32 → Option (Int32 × Int32 × Int32 × (Nat → Int32) × (Nat → Int32) × (Nat → Int64) × (Nat → Int32) × (Nat → Int64) × (Nat → Int64))) (v_stacked : Int32) (v_life : Nat → Int32) (v_shield : Nat → Int32) (v_who : Nat → Int32) (v_does : Nat → Int32) (v_much : Nat → Int32) (v_against : Nat → Int32) (v_thrown : Int32) (v_high : Int32) (v_tryWho : Nat → Int32) (v_tryDoes : Nat → Int32) (v_tryMuch : Nat → Int64) (v_tryAgainst : Nat → Int32) (v_tryLife : Nat → Int64) (v_tryShield : Nat → Int64) (l1 : Int32) (l2 : Int32) (l3 : Int32) (l4 : Int32) (l5 : Int64) (l7 : Int32) (l8 : Int32) : Option (Int32 × Int32 × Int32 × (Nat → Int32) × (Nat → Int32) × (Nat → Int64) × (Nat → Int32) × (Nat → Int64) × (Nat → Int64)) :=
  fX9_bound_b155 k_55 v_stacked v_life v_shield v_who v_does v_much v_against v_thrown v_high v_tryWho v_tryDoes v_tryMuch v_tryAgainst v_tryLife v_tryShield l1 l2 l3 l4 l7 l8 l5
def fX9_bound_b132 (k_55 : Int32 → Int32 → (Nat → Int32) → (Nat → Int32) → (Nat → Int64) → (Nat → Int32) → (Nat → Int64) → (Nat → Int64) → Int32 → Int32 → Int32 → Int32 → Int64 → Int32 → Option (Int32 × Int32 × Int32 × (Nat → Int32) × (Nat → Int32) × (Nat → Int64) × (Nat → Int32) × (Nat → Int64) × (Nat → Int64))) (v_stacked : Int32) (v_life : Nat → Int32) (v_shield : Nat → Int32) (v_who : Nat → Int32) (v_does : Nat → Int32) (v_much : Nat → Int32) (v_against : Nat → Int32) (v_thrown : Int32) (v_high : Int32) (v_tryWho : Nat → Int32) (v_tryDoes : Nat → Int32) (v_tryMuch : Nat → Int64) (v_tryAgainst : Nat → Int32) (v_tryLife : Nat → Int64) (v_tryShield : Nat → Int64) (l1 : Int32) (l2 : Int32) (l3 : Int32) (l4 : Int32) (l5 : Int64) (l7 : Int32) (l8 : Int32) (s0 : Int32) : Option (Int32 × Int32 × Int32 × (Nat → Int32) × (Nat → Int32) × (Nat → Int64) × (Nat → Int32) × (Nat → Int64) × (Nat → Int64)) :=
  if l8 = 0 then
  (fX9_bound_b153 k_55 v_stacked v_life v_shield v_who v_does v_much v_against v_thrown v_high v_tryWho v_tryDoes v_tryMuch v_tryAgainst v_tryLife v_tryShield l1 l2 l3 l4 l5 l7 l8)
  else
  (if s0 = 0 then
  (fX9_bound_b153 k_55 v_stacked v_life v_shield v_who v_does v_much v_against v_thrown v_high v_tryWho v_tryDoes v_tryMuch v_tryAgainst v_tryLife v_tryShield l1 l2 l3 l4 l5 l7 l8)
  else
  (ck (g_in l1 6) <|
  fX9_bound_b155 k_55 v_stacked v_life v_shield v_who v_does v_much v_against v_thrown v_high v_tryWho v_tryDoes v_tryMuch v_tryAgainst v_tryLife v_tryShield l1 l2 l3 l4 l7 l8 (v_tryLife l1.toNatClampNeg)))
def fX9_bound_b127 (k_55 : Int32 → Int32 → (Nat → Int32) → (Nat → Int32) → (Nat → Int64) → (Nat → Int32) → (Nat → Int64) → (Nat → Int64) → Int32 → Int32 → Int32 → Int32 → Int64 → Int32 → Option (Int32 × Int32 × Int32 × (Nat → Int32) × (Nat → Int32) × (Nat → Int64) × (Nat → Int32) × (Nat → Int64) × (Nat → Int64))) (v_stacked : Int32) (v_life : Nat → Int32) (v_shield : Nat → Int32) (v_who : Nat → Int32) (v_does : Nat → Int32) (v_much : Nat → Int32) (v_against : Nat → Int32) (v_thrown : Int32) (v_high : Int32) (v_tryWho : Nat → Int32) (v_tryDoes : Nat → Int32) (v_tryMuch : Nat → Int64) (v_tryAgainst : Nat → Int32) (v_tryLife : Nat → Int64) (v_tryShield : Nat → Int64) (l1 : Int32) (l2 : Int32) (l3 : Int32) (l4 : Int32) (l5 : Int64) (l7 : Int32) (l8 : Int32) : Option (Int32 × Int32 × Int32 × (Nat → Int32) × (Nat → Int32) × (Nat → Int64) × (Nat → Int32) × (Nat → Int64) × (Nat → Int64)) :=
  fX9_bound_b132 k_55 v_stacked v_life v_shield v_who v_does v_much v_against v_thrown v_high v_tryWho v_tryDoes v_tryMuch v_tryAgainst v_tryLife v_tryShield l1 l2 l3 l4 l5 l7 l8 1
def fX9_bound_b131 (k_55 : Int32 → Int32 → (Nat → Int32) → (Nat → Int32) → (Nat → Int64) → (Nat → Int32) → (Nat → Int64) → (Nat → Int64) → Int32 → Int32 → Int32 → Int32 → Int64 → Int32 → Option (Int32 × Int32 × Int32 × (Nat → Int32) × (Nat → Int32) × (Nat → Int64) × (Nat → Int32) × (Nat → Int64) × (Nat → Int64))) (v_stacked : Int32) (v_life : Nat → Int32) (v_shield : Nat → Int32) (v_who : Nat → Int32) (v_does : Nat → Int32) (v_much : Nat → Int32) (v_against : Nat → Int32) (v_thrown : Int32) (v_high : Int32) (v_tryWho : Nat → Int32) (v_tryDoes : Nat → Int32) (v_tryMuch : Nat → Int64) (v_tryAgainst : Nat → Int32) (v_tryLife : Nat → Int64) (v_tryShield : Nat → Int64) (l1 : Int32) (l2 : Int32) (l3 : Int32) (l4 : Int32) (l5 : Int64) (l7 : Int32) (l8 : Int32) : Option (Int32 × Int32 × Int32 × (Nat → Int32) × (Nat → Int32) × (Nat → Int64) × (Nat → Int32) × (Nat → Int64) × (Nat → Int64)) :=
  fX9_bound_b132 k_55 v_stacked v_life v_shield v_who v_does v_much v_against v_thrown v_high v_tryWho v_tryDoes v_tryMuch v_tryAgainst v_tryLife v_tryShield l1 l2 l3 l4 l5 l7 l8 0
def fX9_bound_b91 (k_55 : Int32 → Int32 → (Nat → Int32) → (Nat → Int32) → (Nat → Int64) → (Nat → Int32) → (Nat → Int64) → (Nat → Int64) → Int32 → Int32 → Int32 → Int32 → Int64 → Int32 → Option (Int32 × Int32 × Int32 × (Nat → Int32) × (Nat → Int32) × (Nat → Int64) × (Nat → Int32) × (Nat → Int64) × (Nat → Int64))) (v_stacked : Int32) (v_life : Nat → Int32) (v_shield : Nat → Int32) (v_who : Nat → Int32) (v_does : Nat → Int32) (v_much : Nat → Int32) (v_against : Nat → Int32) (v_thrown : Int32) (v_high : Int32) (v_tryWho : Nat → Int32) (v_tryDoes : Nat → Int32) (v_tryMuch : Nat → Int64) (v_tryAgainst : Nat → Int32) (v_tryLife : Nat → Int64) (v_tryShield : Nat → Int64) (l1 : Int32) (l2 : Int32) (l3 : Int32) (l4 : Int32) (l5 : Int64) (l7 : Int32) (l8 : Int32) : Option (Int32 × Int32 × Int32 × (Nat → Int32) × (Nat → Int32) × (Nat → Int64) × (Nat → Int32) × (Nat → Int64) × (Nat → Int64)) :=
  if l4 = 0 then
  (fX9_bound_b127 k_55 v_stacked v_life v_shield v_who v_does v_much v_against v_thrown v_high v_tryWho v_tryDoes v_tryMuch v_tryAgainst v_tryLife v_tryShield l1 l2 l3 l4 l5 l7 l8)
  else
  (if l2 = 0 then
  (ck (g_in l1 6) <|
  if 0 ≤ (lg_cmp (v_tryLife l1.toNatClampNeg) l5) then
  (fX9_bound_b131 k_55 v_stacked v_life v_shield v_who v_does v_much v_against v_thrown v_high v_tryWho v_tryDoes v_tryMuch v_tryAgainst v_tryLife v_tryShield l1 l2 l3 l4 l5 l7 l8)
  else
  (fX9_bound_b127 k_55 v_stacked v_life v_shield v_who v_does v_much v_against v_thrown v_high v_tryWho v_tryDoes v_tryMuch v_tryAgainst v_tryLife v_tryShield l1 l2 l3 l4 l5 l7 l8))
  else
  (ck (g_in l1 6) <|
  if (lg_cmp (v_tryLife l1.toNatClampNeg) l5) ≤ 0 then
  (fX9_bound_b131 k_55 v_stacked v_life v_shield v_who v_does v_much v_against v_thrown v_high v_tryWho v_tryDoes v_tryMuch v_tryAgainst v_tryLife v_tryShield l1 l2 l3 l4 l5 l7 l8)
  else
  (fX9_bound_b127 k_55 v_stacked v_life v_shield v_who v_does v_much v_against v_thrown v_high v_tryWho v_tryDoes v_tryMuch v_tryAgainst v_tryLife v_tryShield l1 l2 l3 l4 l5 l7 l8)))
def fX9_bound_b70 (k_55 : Int32 → Int32 → (Nat → Int32) → (Nat → Int32) → (Nat → Int64) → (Nat → Int32) → (Nat → Int64) → (Nat → Int64) → Int32 → Int32 → Int32 → Int32 → Int64 → Int32 → Option (Int32 × Int32 × Int32 × (Nat → Int32) × (Nat → Int32) × (Nat → Int64) × (Nat → Int32) × (Nat → Int64) × (Nat → Int64))) (v_stacked : Int32) (v_life : Nat → Int32) (v_shield : Nat → Int32) (v_who : Nat → Int32) (v_does : Nat → Int32) (v_much : Nat → Int32) (v_against : Nat → Int32) : Nat → Int32 → Int32 → (Nat → Int32) → (Nat → Int32) → (Nat → Int64) → (Nat → Int32) → (Nat → Int64) → (Nat → Int64) → Int32 → Int32 → Int32 → Int32 → Int64 → Int32 → Int32 → Option (Int32 × Int32 × Int32 × (Nat → Int32) × (Nat → Int32) × (Nat → Int64) × (Nat → Int32) × (Nat → Int64) × (Nat → Int64))
  | 0, _, _, _, _, _, _, _, _, _, _, _, _, _, _, _ => none
  | n + 1, v_thrown, v_high, v_tryWho, v_tryDoes, v_tryMuch, v_tryAgainst, v_tryLife, v_tryShield, l1, l2, l3, l4, l5, l7, l8 =>
  if v_high ≤ 0 then
  (fX9_bound_b91 k_55 v_stacked v_life v_shield v_who v_does v_much v_against v_thrown v_high v_tryWho v_tryDoes v_tryMuch v_tryAgainst v_tryLife v_tryShield l1 l2 l3 l4 l5 l7 l8)
  else
  (if l8 = 0 then
  (fX9_bound_b91 k_55 v_stacked v_life v_shield v_who v_does v_much v_against v_thrown v_high v_tryWho v_tryDoes v_tryMuch v_tryAgainst v_tryLife v_tryShield l1 l2 l3 l4 l5 l7 l8)
  else
  (ob (fX9_tryTop v_high v_tryWho v_tryDoes v_tryMuch v_tryAgainst v_tryLife v_tryShield) fun (r_3, w_4, w_5, w_6, w_7, w_8, w_9, w_10) =>
  (fX9_bound_b70 k_55 v_stacked v_life v_shield v_who v_does v_much v_against n) v_thrown w_4 w_5 w_6 w_7 w_8 w_9 w_10 l1 l2 l3 l4 l5 l7 r_3))
def fX9_bound_b192 (v_stacked : Int32) (v_life : Nat → Int32) (v_shield : Nat → Int32) (v_who : Nat → Int32) (v_does : Nat → Int32) (v_much : Nat → Int32) (v_against : Nat → Int32) (v_thrown : Int32) (v_high : Int32) (v_tryWho : Nat → Int32) (v_tryDoes : Nat → Int32) (v_tryMuch : Nat → Int64) (v_tryAgainst : Nat → Int32) (v_tryLife : Nat → Int64) (v_tryShield : Nat → Int64) (s0 : Int32) : Option (Int32 × Int32 × Int32 × (Nat → Int32) × (Nat → Int32) × (Nat → Int64) × (Nat → Int32) × (Nat → Int64) × (Nat → Int64)) :=
  some (s0, v_thrown, v_high, v_tryWho, v_tryDoes, v_tryMuch, v_tryAgainst, v_tryLife, v_tryShield)
def fX9_bound_b55 (v_stacked : Int32) (v_life : Nat → Int32) (v_shield : Nat → Int32) (v_who : Nat → Int32) (v_does : Nat → Int32) (v_much : Nat → Int32) (v_against : Nat → Int32) : Nat → Int32 → Int32 → (Nat → Int32) → (Nat → Int32) → (Nat → Int64) → (Nat → Int32) → (Nat → Int64) → (Nat → Int64) → Int32 → Int32 → Int32 → Int32 → Int64 → Int32 → Option (Int32 × Int32 × Int32 × (Nat → Int32) × (Nat → Int32) × (Nat → Int64) × (Nat → Int32) × (Nat → Int64) × (Nat → Int64))
  | 0, _, _, _, _, _, _, _, _, _, _, _, _, _, _ => none
  | n + 1, v_thrown, v_high, v_tryWho, v_tryDoes, v_tryMuch, v_tryAgainst, v_tryLife, v_tryShield, l1, l2, l3, l4, l5, l7 =>
  if l3 ≤ l7 then
  (if l4 = 0 then
  (fX9_bound_b192 v_stacked v_life v_shield v_who v_does v_much v_against v_thrown v_high v_tryWho v_tryDoes v_tryMuch v_tryAgainst v_tryLife v_tryShield (-1))
  else
  (fX9_bound_b192 v_stacked v_life v_shield v_who v_does v_much v_against v_thrown v_high v_tryWho v_tryDoes v_tryMuch v_tryAgainst v_tryLife v_tryShield (l5.toInt32)))
  else
  (ob (fX9_lay v_stacked v_high v_life v_shield v_who v_does v_much v_against v_tryWho v_tryDoes v_tryMuch v_tryAgainst v_tryLife v_tryShield l7) fun (w_3, w_4, w_5, w_6, w_7, w_8, w_9) =>
  fX9_bound_b70 (fX9_bound_b55 v_stacked v_life v_shield v_who v_does v_much v_against n) v_stacked v_life v_shield v_who v_does v_much v_against 800 v_thrown w_3 w_4 w_5 w_6 w_7 w_8 w_9 l1 l2 l3 l4 l5 l7 1)
def fX9_bound_b26 (v_stacked : Int32) (v_life : Nat → Int32) (v_shield : Nat → Int32) (v_who : Nat → Int32) (v_does : Nat → Int32) (v_much : Nat → Int32) (v_against : Nat → Int32) : Nat → Int32 → Int32 → (Nat → Int32) → (Nat → Int32) → (Nat → Int64) → (Nat → Int32) → (Nat → Int64) → (Nat → Int64) → Int32 → Int32 → Int32 → Int32 → Option (Int32 × Int32 × Int32 × (Nat → Int32) × (Nat → Int32) × (Nat → Int64) × (Nat → Int32) × (Nat → Int64) × (Nat → Int64))
  | 0, _, _, _, _, _, _, _, _, _, _, _, _ => none
  | n + 1, v_thrown, v_high, v_tryWho, v_tryDoes, v_tryMuch, v_tryAgainst, v_tryLife, v_tryShield, l1, l2, l3, l4 =>
  if v_stacked < l4 then
  (fX9_bound_b55 v_stacked v_life v_shield v_who v_does v_much v_against 800 v_thrown v_high v_tryWho v_tryDoes v_tryMuch v_tryAgainst v_tryLife v_tryShield l1 l2 l3 0 0 0)
  else
  (nm (l3 * l4) fun x_2 =>
  nm (l4 + 1) fun x_3 =>
  (fX9_bound_b26 v_stacked v_life v_shield v_who v_does v_much v_against n) v_thrown v_high v_tryWho v_tryDoes v_tryMuch v_tryAgainst v_tryLife v_tryShield l1 l2 x_2 x_3)
def fX9_bound_b13 (v_stacked : Int32) (v_life : Nat → Int32) (v_shield : Nat → Int32) (v_who : Nat → Int32) (v_does : Nat → Int32) (v_much : Nat → Int32) (v_against : Nat → Int32) (v_thrown : Int32) (v_high : Int32) (v_tryWho : Nat → Int32) (v_tryDoes : Nat → Int32) (v_tryMuch : Nat → Int64) (v_tryAgainst : Nat → Int32) (v_tryLife : Nat → Int64) (v_tryShield : Nat → Int64) (l1 : Int32) (l2 : Int32) (s1 : Int32) : Option (Int32 × Int32 × Int32 × (Nat → Int32) × (Nat → Int32) × (Nat → Int64) × (Nat → Int32) × (Nat → Int64) × (Nat → Int64)) :=
  ob (fX9_goesWell v_thrown s1) fun (r_1, w_2) =>
  if r_1 = 0 then
  (some (0, w_2, v_high, v_tryWho, v_tryDoes, v_tryMuch, v_tryAgainst, v_tryLife, v_tryShield))
  else
  (fX9_bound_b26 v_stacked v_life v_shield v_who v_does v_much v_against 800 w_2 v_high v_tryWho v_tryDoes v_tryMuch v_tryAgainst v_tryLife v_tryShield l1 l2 1 2)
def fX9_bound (v_thrown : Int32) (v_stacked : Int32) (v_high : Int32) (v_life : Nat → Int32) (v_shield : Nat → Int32) (v_who : Nat → Int32) (v_does : Nat → Int32) (v_much : Nat → Int32) (v_against : Nat → Int32) (v_tryWho : Nat → Int32) (v_tryDoes : Nat → Int32) (v_tryMuch : Nat → Int64) (v_tryAgainst : Nat → Int32) (v_tryLife : Nat → Int64) (v_tryShield : Nat → Int64) (p1 : Int32) (p2 : Int32) : Option (Int32 × Int32 × Int32 × (Nat → Int32) × (Nat → Int32) × (Nat → Int64) × (Nat → Int32) × (Nat → Int64) × (Nat → Int64)) :=
  ob (fX9_isPlayer p1) fun r_1 =>
  if r_1 = 0 then
  (fX9_bound_b13 v_stacked v_life v_shield v_who v_does v_much v_against v_thrown v_high v_tryWho v_tryDoes v_tryMuch v_tryAgainst v_tryLife v_tryShield p1 p2 1)
  else
  (fX9_bound_b13 v_stacked v_life v_shield v_who v_does v_much v_against v_thrown v_high v_tryWho v_tryDoes v_tryMuch v_tryAgainst v_tryLife v_tryShield p1 p2 0)
def fX9_life_b42 (v_life : Nat → Int32) (v_shield : Nat → Int32) (v_thrown : Int32) (s0 : Int32) : Option (Int32 × Int32) :=
  some (s0, v_thrown)
def fX9_life_b13 (v_life : Nat → Int32) (v_shield : Nat → Int32) (v_thrown : Int32) (l1 : Int32) (l2 : Int32) (s1 : Int32) : Option (Int32 × Int32) :=
  ob (fX9_goesWell v_thrown s1) fun (r_1, w_2) =>
  if r_1 = 0 then
  (fX9_life_b42 v_life v_shield w_2 0)
  else
  (if l2 = 0 then
  (ck (g_in l1 6) <|
  fX9_life_b42 v_life v_shield w_2 (v_life l1.toNatClampNeg))
  else
  (ck (g_in l1 6) <|
  fX9_life_b42 v_life v_shield w_2 (v_shield l1.toNatClampNeg)))
def fX9_life (v_thrown : Int32) (v_life : Nat → Int32) (v_shield : Nat → Int32) (p1 : Int32) (p2 : Int32) : Option (Int32 × Int32) :=
  ob (fX9_isPlayer p1) fun r_1 =>
  if r_1 = 0 then
  (fX9_life_b13 v_life v_shield v_thrown p1 p2 1)
  else
  (fX9_life_b13 v_life v_shield v_thrown p1 p2 0)
def fX9_lifeAnew_b29 (v_life : Nat → Int32) (v_thrown : Int32) (s0 : Int32) : Option (Int32 × Int32) :=
  some (s0, v_thrown)
def fX9_lifeAnew_b13 (v_life : Nat → Int32) (v_thrown : Int32) (l1 : Int32) (s1 : Int32) : Option (Int32 × Int32) :=
  ob (fX9_goesWell v_thrown s1) fun (r_1, w_2) =>
  if r_1 = 0 then
  (fX9_lifeAnew_b29 v_life w_2 0)
  else
  (ck (g_in l1 6) <|
  fX9_lifeAnew_b29 v_life w_2 (v_life l1.toNatClampNeg))
def fX9_lifeAnew (v_thrown : Int32) (v_life : Nat → Int32) (p1 : Int32) : Option (Int32 × Int32) :=
  ob (fX9_isPlayer p1) fun r_1 =>
  if r_1 = 0 then
  (fX9_lifeAnew_b13 v_life v_thrown p1 1)
  else
  (fX9_lifeAnew_b13 v_life v_thrown p1 0)
def fX9_put_b84 (v_kinds : Int32) (v_has : Nat → Int32) (v_thrown : Int32) (v_deck : Nat → Int32) (v_deckSize : Nat → Int32) (l1 : Int32) (l2 : Int32) (s1 : Int32) : Option (Int32 × Int32 × (Nat → Int32) × (Nat → Int32)) :=
  ob (fX9_goesWell v_thrown s1) fun (r_1, w_2) =>
  if r_1 = 0 then
  (some (0, w_2, v_deck, v_deckSize))
  else
  (ck (g_in l1 6) <|
  ck (g_in ((8 * l1) + (v_deckSize l1.toNatClampNeg)) 48) <|
  ck (g_in l1 6) <|
  nm ((v_deckSize l1.toNatClampNeg) + 1) fun x_9 =>
  ck (g_in l1 6) <|
  ck (g_in l1 6) <|
  some (((upd v_deckSize l1.toNatClampNeg x_9) l1.toNatClampNeg), w_2, (upd v_deck ((8 * l1) + (v_deckSize l1.toNatClampNeg)).toNatClampNeg l2), (upd v_deckSize l1.toNatClampNeg x_9)))
def fX9_put_b79 (v_kinds : Int32) (v_has : Nat → Int32) (v_thrown : Int32) (v_deck : Nat → Int32) (v_deckSize : Nat → Int32) (l1 : Int32) (l2 : Int32) : Option (Int32 × Int32 × (Nat → Int32) × (Nat → Int32)) :=
  fX9_put_b84 v_kinds v_has v_thrown v_deck v_deckSize l1 l2 2
def fX9_put_b35 (v_kinds : Int32) (v_has : Nat → Int32) (v_thrown : Int32) (v_deck : Nat → Int32) (v_deckSize : Nat → Int32) (l1 : Int32) (l2 : Int32) (l3 : Int32) (s0 : Int32) : Option (Int32 × Int32 × (Nat → Int32) × (Nat → Int32)) :=
  if l3 = 0 then
  (fX9_put_b84 v_kinds v_has v_thrown v_deck v_deckSize l1 l2 1)
  else
  (ck (g_in l1 6) <|
  if (v_deckSize l1.toNatClampNeg) = 8 then
  (fX9_put_b79 v_kinds v_has v_thrown v_deck v_deckSize l1 l2)
  else
  (if 3 ≤ s0 then
  (fX9_put_b79 v_kinds v_has v_thrown v_deck v_deckSize l1 l2)
  else
  (ck (g_in ((20 * l1) + l2) 120) <|
  if s0 < (v_has ((20 * l1) + l2).toNatClampNeg) then
  (fX9_put_b84 v_kinds v_has v_thrown v_deck v_deckSize l1 l2 0)
  else
  (fX9_put_b79 v_kinds v_has v_thrown v_deck v_deckSize l1 l2))))
def fX9_put_b20 (v_kinds : Int32) (v_has : Nat → Int32) (v_thrown : Int32) (v_deck : Nat → Int32) (v_deckSize : Nat → Int32) (l1 : Int32) (l2 : Int32) (s0 : Int32) : Option (Int32 × Int32 × (Nat → Int32) × (Nat → Int32)) :=
  if s0 = 0 then
  (fX9_put_b35 v_kinds v_has v_thrown v_deck v_deckSize l1 l2 s0 0)
  else
  (ob (fX9_inDeck v_deck v_deckSize l1 l2) fun r_2 =>
  fX9_put_b35 v_kinds v_has v_thrown v_deck v_deckSize l1 l2 s0 r_2)
def fX9_put_b19 (v_kinds : Int32) (v_has : Nat → Int32) (v_thrown : Int32) (v_deck : Nat → Int32) (v_deckSize : Nat → Int32) (l1 : Int32) (l2 : Int32) : Option (Int32 × Int32 × (Nat → Int32) × (Nat → Int32)) :=
  fX9_put_b20 v_kinds v_has v_thrown v_deck v_deckSize l1 l2 0
def fX9_put (v_thrown : Int32) (v_kinds : Int32) (v_has : Nat → Int32) (v_deck : Nat → Int32) (v_deckSize : Nat → Int32) (p1 : Int32) (p2 : Int32) : Option (Int32 × Int32 × (Nat → Int32) × (Nat → Int32)) :=
  ob (fX9_isPlayer p1) fun r_1 =>
  if r_1 = 0 then
  (fX9_put_b19 v_kinds v_has v_thrown v_deck v_deckSize p1 p2)
  else
  (ob (fX9_isKind v_kinds p2) fun r_5 =>
  if r_5 = 0 then
  (fX9_put_b19 v_kinds v_has v_thrown v_deck v_deckSize p1 p2)
  else
  (fX9_put_b20 v_kinds v_has v_thrown v_deck v_deckSize p1 p2 1))
def fX9_isGood_b127 (k_61 : Int32 → Int32 → Int32 → Int32 → Int32 → Option (Int32 × Int32)) (v_today : Int32) (v_kinds : Int32) (v_banned : Nat → Int32) (v_has : Nat → Int32) (v_deck : Nat → Int32) (v_deckSize : Nat → Int32) (v_thrown : Int32) (l1 : Int32) (l2 : Int32) (l5 : Int32) (s0 : Int32) : Option (Int32 × Int32) :=
  nm (l5 + 1) fun x_1 =>
  k_61 v_thrown l1 l2 s0 x_1
def fX9_isGood_b122 (k_61 : Int32 → Int32 → Int32 → Int32 → Int32 → Option (Int32 × Int32)) (v_today : Int32) (v_kinds : Int32) (v_banned : Nat → Int32) (v_has : Nat → Int32) (v_deck : Nat → Int32) (v_deckSize : Nat → Int32) (v_thrown : Int32) (l1 : Int32) (l2 : Int32) (l5 : Int32) : Option (Int32 × Int32) :=
  fX9_isGood_b127 k_61 v_today v_kinds v_banned v_has v_deck v_deckSize v_thrown l1 l2 l5 1
def fX9_isGood_b126 (k_61 : Int32 → Int32 → Int32 → Int32 → Int32 → Option (Int32 × Int32)) (v_today : Int32) (v_kinds : Int32) (v_banned : Nat → Int32) (v_has : Nat → Int32) (v_deck : Nat → Int32) (v_deckSize : Nat → Int32) (v_thrown : Int32) (l1 : Int32) (l2 : Int32) (l5 : Int32) : Option (Int32 × Int32) :=
  fX9_isGood_b127 k_61 v_today v_kinds v_banned v_has v_deck v_deckSize v_thrown l1 l2 l5 0
def fX9_isGood_b61 (v_today : Int32) (v_kinds : Int32) (v_banned : Nat → Int32) (v_has : Nat → Int32) (v_deck : Nat → Int32) (v_deckSize : Nat → Int32) : Nat → Int32 → Int32 → Int32 → Int32 → Int32 → Option (Int32 × Int32)
  | 0, _, _, _, _, _ => none
  | n + 1, v_thrown, l1, l2, l4, l5 =>
  if v_kinds ≤ l5 then
  (some (l4, v_thrown))
  else
  (ob (fX9_inDeck v_deck v_deckSize l1 l5) fun r_2 =>
  if l4 = 0 then
  (fX9_isGood_b126 (fX9_isGood_b61 v_today v_kinds v_banned v_has v_deck v_deckSize n) v_today v_kinds v_banned v_has v_deck v_deckSize v_thrown l1 l2 l5)
  else
  (if 3 < r_2 then
  (fX9_isGood_b126 (fX9_isGood_b61 v_today v_kinds v_banned v_has v_deck v_deckSize n) v_today v_kinds v_banned v_has v_deck v_deckSize v_thrown l1 l2 l5)
  else
  (ck (g_in ((20 * l1) + l5) 120) <|
  if (v_has ((20 * l1) + l5).toNatClampNeg) < r_2 then
  (fX9_isGood_b126 (fX9_isGood_b61 v_today v_kinds v_banned v_has v_deck v_deckSize n) v_today v_kinds v_banned v_has v_deck v_deckSize v_thrown l1 l2 l5)
  else
  (if r_2 = 0 then
  (fX9_isGood_b122 (fX9_isGood_b61 v_today v_kinds v_banned v_has v_deck v_deckSize n) v_today v_kinds v_banned v_has v_deck v_deckSize v_thrown l1 l2 l5)
  else
  (ob (fX9_isBanned v_banned l5 l2) fun r_9 =>
  if r_9 = 0 then
  (fX9_isGood_b122 (fX9_isGood_b61 v_today v_kinds v_banned v_has v_deck v_deckSize n) v_today v_kinds v_banned v_has v_deck v_deckSize v_thrown l1 l2 l5)
  else
  (fX9_isGood_b126 (fX9_isGood_b61 v_today v_kinds v_banned v_has v_deck v_deckSize n) v_today v_kinds v_banned v_has v_deck v_deckSize v_thrown l1 l2 l5))))))
def fX9_isGood_b56 (v_today : Int32) (v_kinds : Int32) (v_banned : Nat → Int32) (v_has : Nat → Int32) (v_deck : Nat → Int32) (v_deckSize : Nat → Int32) (v_thrown : Int32) (l1 : Int32) (l2 : Int32) (s0 : Int32) : Option (Int32 × Int32) :=
  fX9_isGood_b61 v_today v_kinds v_banned v_has v_deck v_deckSize 70 v_thrown l1 l2 s0 0
def fX9_isGood_b33 (v_today : Int32) (v_kinds : Int32) (v_banned : Nat → Int32) (v_has : Nat → Int32) (v_deck : Nat → Int32) (v_deckSize : Nat → Int32) (v_thrown : Int32) (l1 : Int32) (l2 : Int32) (s1 : Int32) : Option (Int32 × Int32) :=
  ob (fX9_goesWell v_thrown s1) fun (r_1, w_2) =>
  if r_1 = 0 then
  (some (0, w_2))
  else
  (ck (g_in l1 6) <|
  if (v_deckSize l1.toNatClampNeg) < 4 then
  (fX9_isGood_b56 v_today v_kinds v_banned v_has v_deck v_deckSize w_2 l1 l2 0)
  else
  (fX9_isGood_b56 v_today v_kinds v_banned v_has v_deck v_deckSize w_2 l1 l2 1))
def fX9_isGood (v_thrown : Int32) (v_today : Int32) (v_kinds : Int32) (v_banned : Nat → Int32) (v_has : Nat → Int32) (v_deck : Nat → Int32) (v_deckSize : Nat → Int32) (p1 : Int32) (p2 : Int32) : Option (Int32 × Int32) :=
  ob (fX9_isPlayer p1) fun r_1 =>
  if r_1 = 0 then
  (fX9_isGood_b33 v_today v_kinds v_banned v_has v_deck v_deckSize v_thrown p1 p2 1)
  else
  (ob (fX9_in p2 v_today 1000) fun r_5 =>
  if r_5 = 0 then
  (fX9_isGood_b33 v_today v_kinds v_banned v_has v_deck v_deckSize v_thrown p1 p2 2)
  else
  (fX9_isGood_b33 v_today v_kinds v_banned v_has v_deck v_deckSize v_thrown p1 p2 0))
def fX9_draft_b81 (k_72 : Int32 → Int32 → Int32 → Int32 → Int32 → (Nat → Int32) → (Nat → Int32) → Int32 → Int32 → Int32 → Int32 → Option (Int32 × Int32 × Int32 × Int32 × Int32 × (Nat → Int32) × (Nat → Int32))) (v_kinds : Int32) : Nat → Int32 → Int32 → Int32 → Int32 → Int32 → (Nat → Int32) → (Nat → Int32) → Int32 → Int32 → Int32 → Int32 → Int32 → Option (Int32 × Int32 × Int32 × Int32 × Int32 × (Nat → Int32) × (Nat → Int32))
  | 0, _, _, _, _, _, _, _, _, _, _, _, _ => none
  | n + 1, v_thrown, v_drafters, v_cards, v_round, v_turn, v_pack, v_packSize, l1, l2, l5, l6, l7 =>
  if l2 ≤ l7 then
  (ck (g_in l6 6) <|
  nm (l6 + 1) fun x_3 =>
  k_72 v_thrown v_drafters v_cards v_round v_turn v_pack (upd v_packSize l6.toNatClampNeg l2) l1 l2 l5 x_3)
  else
  (nm (((75 * l5) + 74) - ((75 * l5) + 74) / 65537 * 65537) fun x_4 =>
  ck (nz v_kinds) <|
  nm (x_4 - x_4 / v_kinds * v_kinds) fun x_6 =>
  ck (g_in ((6 * l6) + l7) 36) <|
  nm (l7 + 1) fun x_8 =>
  (fX9_draft_b81 k_72 v_kinds n) v_thrown v_drafters v_cards v_round v_turn (upd v_pack ((6 * l6) + l7).toNatClampNeg x_6) v_packSize l1 l2 x_4 l6 x_8)
def fX9_draft_b72 (v_kinds : Int32) : Nat → Int32 → Int32 → Int32 → Int32 → Int32 → (Nat → Int32) → (Nat → Int32) → Int32 → Int32 → Int32 → Int32 → Option (Int32 × Int32 × Int32 × Int32 × Int32 × (Nat → Int32) × (Nat → Int32))
  | 0, _, _, _, _, _, _, _, _, _, _, _ => none
  | n + 1, v_thrown, v_drafters, v_cards, v_round, v_turn, v_pack, v_packSize, l1, l2, l5, l6 =>
  if l1 ≤ l6 then
  (some (v_thrown, l1, l2, 0, 0, v_pack, v_packSize))
  else
  (fX9_draft_b81 (fX9_draft_b72 v_kinds n) v_kinds 70 v_thrown v_drafters v_cards v_round v_turn v_pack v_packSize l1 l2 l5 l6 0)
def fX9_draft_b59 (v_kinds : Int32) (v_thrown : Int32) (v_drafters : Int32) (v_cards : Int32) (v_round : Int32) (v_turn : Int32) (v_pack : Nat → Int32) (v_packSize : Nat → Int32) (l1 : Int32) (l2 : Int32) (l3 : Int32) (s1 : Int32) : Option (Int32 × Int32 × Int32 × Int32 × Int32 × (Nat → Int32) × (Nat → Int32)) :=
  ob (fX9_goesWell v_thrown s1) fun (r_1, w_2) =>
  if r_1 = 0 then
  (some (w_2, v_drafters, v_cards, v_round, v_turn, v_pack, v_packSize))
  else
  (fX9_draft_b72 v_kinds 70 w_2 v_drafters v_cards v_round v_turn v_pack v_packSize l1 l2 l3 0)
def fX9_draft_b35 (v_kinds : Int32) (v_thrown : Int32) (v_drafters : Int32) (v_cards : Int32) (v_round : Int32) (v_turn : Int32) (v_pack : Nat → Int32) (v_packSize : Nat → Int32) (l1 : Int32) (l2 : Int32) (l3 : Int32) (s0 : Int32) : Option (Int32 × Int32 × Int32 × Int32 × Int32 × (Nat → Int32) × (Nat → Int32)) :=
  if s0 = 0 then
  (fX9_draft_b59 v_kinds v_thrown v_drafters v_cards v_round v_turn v_pack v_packSize l1 l2 l3 1)
  else
  (if v_kinds = 0 then
  (fX9_draft_b59 v_kinds v_thrown v_drafters v_cards v_round v_turn v_pack v_packSize l1 l2 l3 2)
  else
  (fX9_draft_b59 v_kinds v_thrown v_drafters v_cards v_round v_turn v_pack v_packSize l1 l2 l3 0))
def fX9_draft_b34 (v_kinds : Int32) (v_thrown : Int32) (v_drafters : Int32) (v_cards : Int32) (v_round : Int32) (v_turn : Int32) (v_pack : Nat → Int32) (v_packSize : Nat → Int32) (l1 : Int32) (l2 : Int32) (l3 : Int32) : Option (Int32 × Int32 × Int32 × Int32 × Int32 × (Nat → Int32) × (Nat → Int32)) :=
  fX9_draft_b35 v_kinds v_thrown v_drafters v_cards v_round v_turn v_pack v_packSize l1 l2 l3 0
def fX9_draft (v_thrown : Int32) (v_kinds : Int32) (v_drafters : Int32) (v_cards : Int32) (v_round : Int32) (v_turn : Int32) (v_pack : Nat → Int32) (v_packSize : Nat → Int32) (p1 : Int32) (p2 : Int32) (p3 : Int32) : Option (Int32 × Int32 × Int32 × Int32 × Int32 × (Nat → Int32) × (Nat → Int32)) :=
  ob (fX9_in p1 2 6) fun r_1 =>
  if r_1 = 0 then
  (fX9_draft_b34 v_kinds v_thrown v_drafters v_cards v_round v_turn v_pack v_packSize p1 p2 p3)
  else
  (ob (fX9_in p2 3 6) fun r_5 =>
  if r_5 = 0 then
  (fX9_draft_b34 v_kinds v_thrown v_drafters v_cards v_round v_turn v_pack v_packSize p1 p2 p3)
  else
  (ob (fX9_in p3 0 65536) fun r_9 =>
  if r_9 = 0 then
  (fX9_draft_b34 v_kinds v_thrown v_drafters v_cards v_round v_turn v_pack v_packSize p1 p2 p3)
  else
  (fX9_draft_b35 v_kinds v_thrown v_drafters v_cards v_round v_turn v_pack v_packSize p1 p2 p3 1)))
def fX9_packBefore (v_drafters : Int32) (v_round : Int32) (v_turn : Int32) : Option (Int32) :=
  ck (nz v_drafters) <|
  ck (nz v_drafters) <|
  some (((v_turn - (v_round - v_round / v_drafters * v_drafters)) + v_drafters) - ((v_turn - (v_round - v_round / v_drafters * v_drafters)) + v_drafters) / v_drafters * v_drafters)
def fX9_offered_b36 (v_drafters : Int32) (v_round : Int32) (v_turn : Int32) (v_pack : Nat → Int32) (v_packSize : Nat → Int32) (v_thrown : Int32) (s0 : Int32) : Option (Int32 × Int32) :=
  some (s0, v_thrown)
def fX9_offered_b24 (v_drafters : Int32) (v_round : Int32) (v_turn : Int32) (v_pack : Nat → Int32) (v_packSize : Nat → Int32) (v_thrown : Int32) : Option (Int32 × Int32) :=
  if v_thrown = 0 then
  (fX9_offered_b36 v_drafters v_round v_turn v_pack v_packSize v_thrown (-1))
  else
  (fX9_offered_b36 v_drafters v_round v_turn v_pack v_packSize v_thrown 0)
def fX9_offered_b67 (v_drafters : Int32) (v_round : Int32) (v_turn : Int32) (v_pack : Nat → Int32) (v_packSize : Nat → Int32) (v_thrown : Int32) (s0 : Int32) : Option (Int32 × Int32) :=
  some (s0, v_thrown)
def fX9_offered_b10 (v_drafters : Int32) (v_round : Int32) (v_turn : Int32) (v_pack : Nat → Int32) (v_packSize : Nat → Int32) (v_thrown : Int32) (l1 : Int32) (s1 : Int32) : Option (Int32 × Int32) :=
  ob (fX9_goesWell v_thrown s1) fun (r_1, w_2) =>
  if r_1 = 0 then
  (fX9_offered_b24 v_drafters v_round v_turn v_pack v_packSize w_2)
  else
  (if v_turn = (-1) then
  (fX9_offered_b24 v_drafters v_round v_turn v_pack v_packSize w_2)
  else
  (ob (fX9_packBefore v_drafters v_round v_turn) fun r_7 =>
  ck (g_in r_7 6) <|
  if (v_packSize r_7.toNatClampNeg) ≤ l1 then
  (fX9_offered_b67 v_drafters v_round v_turn v_pack v_packSize w_2 (-1))
  else
  (ck (g_in ((6 * r_7) + l1) 36) <|
  fX9_offered_b67 v_drafters v_round v_turn v_pack v_packSize w_2 (v_pack ((6 * r_7) + l1).toNatClampNeg))))
def fX9_offered (v_thrown : Int32) (v_drafters : Int32) (v_round : Int32) (v_turn : Int32) (v_pack : Nat → Int32) (v_packSize : Nat → Int32) (p1 : Int32) : Option (Int32 × Int32) :=
  if p1 < 0 then
  (fX9_offered_b10 v_drafters v_round v_turn v_pack v_packSize v_thrown p1 1)
  else
  (fX9_offered_b10 v_drafters v_round v_turn v_pack v_packSize v_thrown p1 0)
def fX9_pick_b201 (v_drafters : Int32) (v_cards : Int32) (v_thrown : Int32) (v_round : Int32) (v_turn : Int32) (v_has : Nat → Int32) (v_pack : Nat → Int32) (v_packSize : Nat → Int32) : Option (Int32 × Int32 × Int32 × Int32 × (Nat → Int32) × (Nat → Int32) × (Nat → Int32)) :=
  some (v_turn, v_thrown, v_round, v_turn, v_has, v_pack, v_packSize)
def fX9_pick_b198 (v_drafters : Int32) (v_cards : Int32) (v_thrown : Int32) (v_round : Int32) (v_turn : Int32) (v_has : Nat → Int32) (v_pack : Nat → Int32) (v_packSize : Nat → Int32) (s1 : Int32) : Option (Int32 × Int32 × Int32 × Int32 × (Nat → Int32) × (Nat → Int32) × (Nat → Int32)) :=
  fX9_pick_b201 v_drafters v_cards v_thrown v_round s1 v_has v_pack v_packSize
def fX9_pick_b107 (v_drafters : Int32) (v_cards : Int32) : Nat → Int32 → Int32 → Int32 → (Nat → Int32) → (Nat → Int32) → (Nat → Int32) → Int32 → Int32 → Option (Int32 × Int32 × Int32 × Int32 × (Nat → Int32) × (Nat → Int32) × (Nat → Int32))
  | 0, _, _, _, _, _, _, _, _ => none
  | n + 1, v_thrown, v_round, v_turn, v_has, v_pack, v_packSize, l3, l4 =>
  ck (g_in l3 6) <|
  if (v_packSize l3.toNatClampNeg) ≤ l4 then
  (nm (v_turn + 1) fun x_3 =>
  if x_3 = v_drafters then
  (nm (v_round + 1) fun x_5 =>
  if x_5 = v_cards then
  (fX9_pick_b198 v_drafters v_cards v_thrown x_5 x_3 v_has v_pack v_packSize (-1))
  else
  (fX9_pick_b198 v_drafters v_cards v_thrown x_5 x_3 v_has v_pack v_packSize 0))
  else
  (fX9_pick_b201 v_drafters v_cards v_thrown v_round x_3 v_has v_pack v_packSize))
  else
  (ck (g_in (((6 * l3) + l4) + 1) 36) <|
  nm (v_pack (((6 * l3) + l4) + 1).toNatClampNeg) fun x_8 =>
  ck (g_in ((6 * l3) + l4) 36) <|
  nm (l4 + 1) fun x_10 =>
  (fX9_pick_b107 v_drafters v_cards n) v_thrown v_round v_turn v_has (upd v_pack ((6 * l3) + l4).toNatClampNeg x_8) v_packSize l3 x_10)
def fX9_pick_b53 (v_drafters : Int32) (v_cards : Int32) (v_thrown : Int32) (v_round : Int32) (v_turn : Int32) (v_has : Nat → Int32) (v_pack : Nat → Int32) (v_packSize : Nat → Int32) (l1 : Int32) (s1 : Int32) : Option (Int32 × Int32 × Int32 × Int32 × (Nat → Int32) × (Nat → Int32) × (Nat → Int32)) :=
  ob (fX9_goesWell v_thrown s1) fun (r_1, w_2) =>
  if r_1 = 0 then
  (some (0, w_2, v_round, v_turn, v_has, v_pack, v_packSize))
  else
  (ob (fX9_packBefore v_drafters v_round v_turn) fun r_6 =>
  ck (g_in ((6 * r_6) + l1) 36) <|
  ck (g_in ((20 * v_turn) + (v_pack ((6 * r_6) + l1).toNatClampNeg)) 120) <|
  nm ((v_has ((20 * v_turn) + (v_pack ((6 * r_6) + l1).toNatClampNeg)).toNatClampNeg) + 1) fun x_10 =>
  ck (g_in ((20 * v_turn) + (v_pack ((6 * r_6) + l1).toNatClampNeg)) 120) <|
  ck (g_in r_6 6) <|
  nm ((v_packSize r_6.toNatClampNeg) - 1) fun x_13 =>
  ck (g_in r_6 6) <|
  fX9_pick_b107 v_drafters v_cards 70 w_2 v_round v_turn (upd v_has ((20 * v_turn) + (v_pack ((6 * r_6) + l1).toNatClampNeg)).toNatClampNeg x_10) v_pack (upd v_packSize r_6.toNatClampNeg x_13) r_6 l1)
def fX9_pick_b30 (v_drafters : Int32) (v_cards : Int32) (v_thrown : Int32) (v_round : Int32) (v_turn : Int32) (v_has : Nat → Int32) (v_pack : Nat → Int32) (v_packSize : Nat → Int32) (l1 : Int32) (s0 : Int32) : Option (Int32 × Int32 × Int32 × Int32 × (Nat → Int32) × (Nat → Int32) × (Nat → Int32)) :=
  if s0 = 0 then
  (fX9_pick_b53 v_drafters v_cards v_thrown v_round v_turn v_has v_pack v_packSize l1 1)
  else
  (if v_turn = (-1) then
  (fX9_pick_b53 v_drafters v_cards v_thrown v_round v_turn v_has v_pack v_packSize l1 2)
  else
  (fX9_pick_b53 v_drafters v_cards v_thrown v_round v_turn v_has v_pack v_packSize l1 0))
def fX9_pick_b25 (v_drafters : Int32) (v_cards : Int32) (v_thrown : Int32) (v_round : Int32) (v_turn : Int32) (v_has : Nat → Int32) (v_pack : Nat → Int32) (v_packSize : Nat → Int32) (l1 : Int32) : Option (Int32 × Int32 × Int32 × Int32 × (Nat → Int32) × (Nat → Int32) × (Nat → Int32)) :=
  fX9_pick_b30 v_drafters v_cards v_thrown v_round v_turn v_has v_pack v_packSize l1 1
def fX9_pick_b29 (v_drafters : Int32) (v_cards : Int32) (v_thrown : Int32) (v_round : Int32) (v_turn : Int32) (v_has : Nat → Int32) (v_pack : Nat → Int32) (v_packSize : Nat → Int32) (l1 : Int32) : Option (Int32 × Int32 × Int32 × Int32 × (Nat → Int32) × (Nat → Int32) × (Nat → Int32)) :=
  fX9_pick_b30 v_drafters v_cards v_thrown v_round v_turn v_has v_pack v_packSize l1 0
def fX9_pick (v_thrown : Int32) (v_drafters : Int32) (v_cards : Int32) (v_round : Int32) (v_turn : Int32) (v_has : Nat → Int32) (v_pack : Nat → Int32) (v_packSize : Nat → Int32) (p1 : Int32) : Option (Int32 × Int32 × Int32 × Int32 × (Nat → Int32) × (Nat → Int32) × (Nat → Int32)) :=
  if p1 < 0 then
  (fX9_pick_b29 v_drafters v_cards v_thrown v_round v_turn v_has v_pack v_packSize p1)
  else
  (if v_turn = (-1) then
  (fX9_pick_b25 v_drafters v_cards v_thrown v_round v_turn v_has v_pack v_packSize p1)
  else
  (ob (fX9_packBefore v_drafters v_round v_turn) fun r_3 =>
  ck (g_in r_3 6) <|
  if (v_packSize r_3.toNatClampNeg) ≤ p1 then
  (fX9_pick_b29 v_drafters v_cards v_thrown v_round v_turn v_has v_pack v_packSize p1)
  else
  (fX9_pick_b25 v_drafters v_cards v_thrown v_round v_turn v_has v_pack v_packSize p1)))
def fX9_wish_b70 (v_kinds : Int32) (v_thrown : Int32) (v_gives : Nat → Int32) (v_wants : Nat → Int32) : Option (Int32 × (Nat → Int32) × (Nat → Int32)) :=
  some (v_thrown, v_gives, v_wants)
def fX9_wish_b50 (v_kinds : Int32) (v_thrown : Int32) (v_gives : Nat → Int32) (v_wants : Nat → Int32) (l1 : Int32) (l2 : Int32) (l3 : Int32) (s1 : Int32) : Option (Int32 × (Nat → Int32) × (Nat → Int32)) :=
  ob (fX9_goesWell v_thrown s1) fun (r_1, w_2) =>
  if r_1 = 0 then
  (fX9_wish_b70 v_kinds w_2 v_gives v_wants)
  else
  (ck (g_in l1 6) <|
  ck (g_in l1 6) <|
  fX9_wish_b70 v_kinds w_2 (upd v_gives l1.toNatClampNeg l2) (upd v_wants l1.toNatClampNeg l3))
def fX9_wish_b28 (v_kinds : Int32) (v_thrown : Int32) (v_gives : Nat → Int32) (v_wants : Nat → Int32) (l1 : Int32) (l2 : Int32) (l3 : Int32) (s0 : Int32) : Option (Int32 × (Nat → Int32) × (Nat → Int32)) :=
  if s0 = 0 then
  (fX9_wish_b50 v_kinds v_thrown v_gives v_wants l1 l2 l3 1)
  else
  (if l2 = l3 then
  (fX9_wish_b50 v_kinds v_thrown v_gives v_wants l1 l2 l3 2)
  else
  (fX9_wish_b50 v_kinds v_thrown v_gives v_wants l1 l2 l3 0))
def fX9_wish_b27 (v_kinds : Int32) (v_thrown : Int32) (v_gives : Nat → Int32) (v_wants : Nat → Int32) (l1 : Int32) (l2 : Int32) (l3 : Int32) : Option (Int32 × (Nat → Int32) × (Nat → Int32)) :=
  fX9_wish_b28 v_kinds v_thrown v_gives v_wants l1 l2 l3 0
def fX9_wish (v_thrown : Int32) (v_kinds : Int32) (v_gives : Nat → Int32) (v_wants : Nat → Int32) (p1 : Int32) (p2 : Int32) (p3 : Int32) : Option (Int32 × (Nat → Int32) × (Nat → Int32)) :=
  ob (fX9_isPlayer p1) fun r_1 =>
  if r_1 = 0 then
  (fX9_wish_b27 v_kinds v_thrown v_gives v_wants p1 p2 p3)
  else
  (ob (fX9_isKind v_kinds p2) fun r_5 =>
  if r_5 = 0 then
  (fX9_wish_b27 v_kinds v_thrown v_gives v_wants p1 p2 p3)
  else
  (ob (fX9_isKind v_kinds p3) fun r_9 =>
  if r_9 = 0 then
  (fX9_wish_b27 v_kinds v_thrown v_gives v_wants p1 p2 p3)
  else
  (fX9_wish_b28 v_kinds v_thrown v_gives v_wants p1 p2 p3 1)))
/-! model4 -/
def fX9_isRing_b124 (k_7 : Int32 → Int32 → Int32 → Int32 → Option (Int32)) (v_has : Nat → Int32) (v_gives : Nat → Int32) (v_wants : Nat → Int32) (v_ring : Nat → Int32) (l1 : Int32) (l2 : Int32) (l4 : Int32) (l5 : Int32) (s0 : Int32) : Option (Int32) :=
  nm (l2 ||| ((1 : Int32) <<< (l5 &&& 31))) fun x_1 =>
  nm (l4 + 1) fun x_2 =>
  k_7 l1 x_1 s0 x_2
def fX9_isRing_b123 (k_7 : Int32 → Int32 → Int32 → Int32 → Option (Int32)) (v_has : Nat → Int32) (v_gives : Nat → Int32) (v_wants : Nat → Int32) (v_ring : Nat → Int32) (l1 : Int32) (l2 : Int32) (l4 : Int32) (l5 : Int32) : Option (Int32) :=
  fX9_isRing_b124 k_7 v_has v_gives v_wants v_ring l1 l2 l4 l5 0
def fX9_isRing_b138 (v_has : Nat → Int32) (v_gives : Nat → Int32) (v_wants : Nat → Int32) (v_ring : Nat → Int32) (l3 : Int32) : Option (Int32) :=
  some l3
def fX9_isRing_b7 (v_has : Nat → Int32) (v_gives : Nat → Int32) (v_wants : Nat → Int32) (v_ring : Nat → Int32) : Nat → Int32 → Int32 → Int32 → Int32 → Option (Int32)
  | 0, _, _, _, _ => none
  | n + 1, l1, l2, l3, l4 =>
  if l1 ≤ l4 then
  (fX9_isRing_b138 v_has v_gives v_wants v_ring l3)
  else
  (if l3 = 0 then
  (fX9_isRing_b138 v_has v_gives v_wants v_ring l3)
  else
  (ck (g_in l4 6) <|
  nm (v_ring l4.toNatClampNeg) fun x_4 =>
  ck (nz l1) <|
  ck (g_in ((l4 + 1) - (l4 + 1) / l1 * l1) 6) <|
  nm (v_ring ((l4 + 1) - (l4 + 1) / l1 * l1).toNatClampNeg) fun x_7 =>
  if ((l2 >>> (x_4 &&& 31)) &&& 1) = 0 then
  (ck (g_in 0 6) <|
  if x_4 < (v_ring (0 : Int32).toNatClampNeg) then
  (fX9_isRing_b123 (fX9_isRing_b7 v_has v_gives v_wants v_ring n) v_has v_gives v_wants v_ring l1 l2 l4 x_4)
  else
  (ck (g_in x_4 6) <|
  if (v_gives x_4.toNatClampNeg) = (-1) then
  (fX9_isRing_b123 (fX9_isRing_b7 v_has v_gives v_wants v_ring n) v_has v_gives v_wants v_ring l1 l2 l4 x_4)
  else
  (ck (g_in x_7 6) <|
  if (v_gives x_7.toNatClampNeg) = (-1) then
  (fX9_isRing_b123 (fX9_isRing_b7 v_has v_gives v_wants v_ring n) v_has v_gives v_wants v_ring l1 l2 l4 x_4)
  else
  (ck (g_in x_4 6) <|
  ck (g_in x_7 6) <|
  if (v_gives x_4.toNatClampNeg) = (v_wants x_7.toNatClampNeg) then
  (ck (g_in x_4 6) <|
  ck (g_in ((20 * x_4) + (v_gives x_4.toNatClampNeg)) 120) <|
  if (v_has ((20 * x_4) + (v_gives x_4.toNatClampNeg)).toNatClampNeg) ≤ 0 then
  (fX9_isRing_b123 (fX9_isRing_b7 v_has v_gives v_wants v_ring n) v_has v_gives v_wants v_ring l1 l2 l4 x_4)
  else
  (fX9_isRing_b124 (fX9_isRing_b7 v_has v_gives v_wants v_ring n) v_has v_gives v_wants v_ring l1 l2 l4 x_4 1))
  else
  (fX9_isRing_b123 (fX9_isRing_b7 v_has v_gives v_wants v_ring n) v_has v_gives v_wants v_ring l1 l2 l4 x_4)))))
  else
  (fX9_isRing_b123 (fX9_isRing_b7 v_has v_gives v_wants v_ring n) v_has v_gives v_wants v_ring l1 l2 l4 x_4)))
def fX9_isRing (v_has : Nat → Int32) (v_gives : Nat → Int32) (v_wants : Nat → Int32) (v_ring : Nat → Int32) (p1 : Int32) : Option (Int32) :=
  fX9_isRing_b7 v_has v_gives v_wants v_ring 70 p1 0 1 0
def fX9_findRing_b94 (k_10 : Int32 → (Nat → Int32) → Int32 → Int32 → Option (Int32 × (Nat → Int32))) (k_30 : Int32 → (Nat → Int32) → Int32 → Int32 → Int32 → Option (Int32 × (Nat → Int32))) (v_has : Nat → Int32) (v_gives : Nat → Int32) (v_wants : Nat → Int32) (v_ringSize : Int32) (v_ring : Nat → Int32) (l1 : Int32) (l2 : Int32) (l3 : Int32) (s1 : Int32) : Option (Int32 × (Nat → Int32)) :=
  nm (l3 + 1) fun x_1 =>
  k_30 s1 v_ring l1 l2 x_1
def fX9_findRing_b50 (k_10 : Int32 → (Nat → Int32) → Int32 → Int32 → Option (Int32 × (Nat → Int32))) (k_30 : Int32 → (Nat → Int32) → Int32 → Int32 → Int32 → Option (Int32 × (Nat → Int32))) (v_has : Nat → Int32) (v_gives : Nat → Int32) (v_wants : Nat → Int32) : Nat → Int32 → (Nat → Int32) → Int32 → Int32 → Int32 → Int32 → Int32 → Option (Int32 × (Nat → Int32))
  | 0, _, _, _, _, _, _, _ => none
  | n + 1, v_ringSize, v_ring, l1, l2, l3, l4, l5 =>
  if l5 < 0 then
  (ob (fX9_isRing v_has v_gives v_wants v_ring l2) fun r_2 =>
  if r_2 = 0 then
  (fX9_findRing_b94 k_10 k_30 v_has v_gives v_wants v_ringSize v_ring l1 l2 l3 0)
  else
  (fX9_findRing_b94 k_10 k_30 v_has v_gives v_wants v_ringSize v_ring l1 l2 l3 l2))
  else
  (nm (l4 - l4 / 6 * 6) fun x_6 =>
  ck (g_in l5 6) <|
  nm (l4 / 6) fun x_8 =>
  nm (l5 + (-1)) fun x_9 =>
  (fX9_findRing_b50 k_10 k_30 v_has v_gives v_wants n) v_ringSize (upd v_ring l5.toNatClampNeg x_6) l1 l2 l3 x_8 x_9)
def fX9_findRing_b103 (k_10 : Int32 → (Nat → Int32) → Int32 → Int32 → Option (Int32 × (Nat → Int32))) (v_has : Nat → Int32) (v_gives : Nat → Int32) (v_wants : Nat → Int32) (v_ringSize : Int32) (v_ring : Nat → Int32) (l1 : Int32) (l2 : Int32) : Option (Int32 × (Nat → Int32)) :=
  nm (l2 + 1) fun x_1 =>
  k_10 v_ringSize v_ring l1 x_1
def fX9_findRing_b30 (k_10 : Int32 → (Nat → Int32) → Int32 → Int32 → Option (Int32 × (Nat → Int32))) (v_has : Nat → Int32) (v_gives : Nat → Int32) (v_wants : Nat → Int32) : Nat → Int32 → (Nat → Int32) → Int32 → Int32 → Int32 → Option (Int32 × (Nat → Int32))
  | 0, _, _, _, _, _ => none
  | n + 1, v_ringSize, v_ring, l1, l2, l3 =>
  if l1 ≤ l3 then
  (fX9_findRing_b103 k_10 v_has v_gives v_wants v_ringSize v_ring l1 l2)
  else
  (if v_ringSize = 0 then
  (nm (l2 - 1) fun x_3 =>
  fX9_findRing_b50 k_10 (fX9_findRing_b30 k_10 v_has v_gives v_wants n) v_has v_gives v_wants 50000 v_ringSize v_ring l1 l2 l3 l3 x_3)
  else
  (fX9_findRing_b103 k_10 v_has v_gives v_wants v_ringSize v_ring l1 l2))
def fX9_findRing_b109 (v_has : Nat → Int32) (v_gives : Nat → Int32) (v_wants : Nat → Int32) (v_ringSize : Int32) (v_ring : Nat → Int32) : Option (Int32 × (Nat → Int32)) :=
  some (v_ringSize, v_ring)
def fX9_findRing_b10 (v_has : Nat → Int32) (v_gives : Nat → Int32) (v_wants : Nat → Int32) : Nat → Int32 → (Nat → Int32) → Int32 → Int32 → Option (Int32 × (Nat → Int32))
  | 0, _, _, _, _ => none
  | n + 1, v_ringSize, v_ring, l1, l2 =>
  if 6 < l2 then
  (fX9_findRing_b109 v_has v_gives v_wants v_ringSize v_ring)
  else
  (if v_ringSize = 0 then
  (nm (l1 * 6) fun x_3 =>
  fX9_findRing_b30 (fX9_findRing_b10 v_has v_gives v_wants n) v_has v_gives v_wants 50000 v_ringSize v_ring x_3 l2 0)
  else
  (fX9_findRing_b109 v_has v_gives v_wants v_ringSize v_ring))
def fX9_findRing (v_ringSize : Int32) (v_has : Nat → Int32) (v_gives : Nat → Int32) (v_wants : Nat → Int32) (v_ring : Nat → Int32) : Option (Int32 × (Nat → Int32)) :=
  fX9_findRing_b10 v_has v_gives v_wants 50000 0 v_ring 6 2
def fX9_ring_b45 (v_has : Nat → Int32) (v_gives : Nat → Int32) (v_wants : Nat → Int32) (v_thrown : Int32) (v_ringSize : Int32) (v_ring : Nat → Int32) (s0 : Int32) : Option (Int32 × Int32 × Int32 × (Nat → Int32)) :=
  some (s0, v_thrown, v_ringSize, v_ring)
def fX9_ring_b15 (v_has : Nat → Int32) (v_gives : Nat → Int32) (v_wants : Nat → Int32) (v_thrown : Int32) (v_ringSize : Int32) (v_ring : Nat → Int32) (l1 : Int32) (s1 : Int32) : Option (Int32 × Int32 × Int32 × (Nat → Int32)) :=
  ob (fX9_goesWell v_thrown s1) fun (r_1, w_2) =>
  if r_1 = 0 then
  (some (0, w_2, v_ringSize, v_ring))
  else
  (ob (fX9_findRing v_ringSize v_has v_gives v_wants v_ring) fun (w_6, w_7) =>
  if w_6 ≤ l1 then
  (fX9_ring_b45 v_has v_gives v_wants w_2 w_6 w_7 (-1))
  else
  (ck (g_in l1 6) <|
  fX9_ring_b45 v_has v_gives v_wants w_2 w_6 w_7 (w_7 l1.toNatClampNeg)))
def fX9_ring (v_thrown : Int32) (v_ringSize : Int32) (v_has : Nat → Int32) (v_gives : Nat → Int32) (v_wants : Nat → Int32) (v_ring : Nat → Int32) (p1 : Int32) : Option (Int32 × Int32 × Int32 × (Nat → Int32)) :=
  ob (fX9_in p1 0 5) fun r_1 =>
  if r_1 = 0 then
  (fX9_ring_b15 v_has v_gives v_wants v_thrown v_ringSize v_ring p1 1)
  else
  (fX9_ring_b15 v_has v_gives v_wants v_thrown v_ringSize v_ring p1 0)
def fX9_swap_b86 (v_wants : Nat → Int32) : Nat → Int32 → Int32 → (Nat → Int32) → (Nat → Int32) → (Nat → Int32) → Int32 → Option (Int32 × Int32 × Int32 × (Nat → Int32) × (Nat → Int32) × (Nat → Int32))
  | 0, _, _, _, _, _, _ => none
  | n + 1, v_thrown, v_ringSize, v_has, v_gives, v_ring, l1 =>
  if v_ringSize ≤ l1 then
  (some (v_ringSize, v_thrown, v_ringSize, v_has, v_gives, v_ring))
  else
  (ck (g_in l1 6) <|
  ck (g_in (v_ring l1.toNatClampNeg) 6) <|
  nm (l1 + 1) fun x_4 =>
  (fX9_swap_b86 v_wants n) v_thrown v_ringSize v_has (upd v_gives (v_ring l1.toNatClampNeg).toNatClampNeg (-1)) v_ring x_4)
def fX9_swap_b11 (v_wants : Nat → Int32) : Nat → Int32 → Int32 → (Nat → Int32) → (Nat → Int32) → (Nat → Int32) → Int32 → Option (Int32 × Int32 × Int32 × (Nat → Int32) × (Nat → Int32) × (Nat → Int32))
  | 0, _, _, _, _, _, _ => none
  | n + 1, v_thrown, v_ringSize, v_has, v_gives, v_ring, l1 =>
  if v_ringSize ≤ l1 then
  (fX9_swap_b86 v_wants 70 v_thrown v_ringSize v_has v_gives v_ring 0)
  else
  (ck (g_in l1 6) <|
  nm (v_ring l1.toNatClampNeg) fun x_3 =>
  ck (g_in x_3 6) <|
  ck (g_in ((20 * x_3) + (v_gives x_3.toNatClampNeg)) 120) <|
  nm ((v_has ((20 * x_3) + (v_gives x_3.toNatClampNeg)).toNatClampNeg) - 1) fun x_6 =>
  ck (g_in ((20 * x_3) + (v_gives x_3.toNatClampNeg)) 120) <|
  ck (nz v_ringSize) <|
  ck (g_in ((l1 + 1) - (l1 + 1) / v_ringSize * v_ringSize) 6) <|
  ck (g_in x_3 6) <|
  ck (g_in ((20 * (v_ring ((l1 + 1) - (l1 + 1) / v_ringSize * v_ringSize).toNatClampNeg)) + (v_gives x_3.toNatClampNeg)) 120) <|
  nm (((upd v_has ((20 * x_3) + (v_gives x_3.toNatClampNeg)).toNatClampNeg x_6) ((20 * (v_ring ((l1 + 1) - (l1 + 1) / v_ringSize * v_ringSize).toNatClampNeg)) + (v_gives x_3.toNatClampNeg)).toNatClampNeg) + 1) fun x_12 =>
  ck (g_in ((20 * (v_ring ((l1 + 1) - (l1 + 1) / v_ringSize * v_ringSize).toNatClampNeg)) + (v_gives x_3.toNatClampNeg)) 120) <|
  nm (l1 + 1) fun x_14 =>
  (fX9_swap_b11 v_wants n) v_thrown v_ringSize (upd (upd v_has ((20 * x_3) + (v_gives x_3.toNatClampNeg)).toNatClampNeg x_6) ((20 * (v_ring ((l1 + 1) - (l1 + 1) / v_ringSize * v_ringSize).toNatClampNeg)) + (v_gives x_3.toNatClampNeg)).toNatClampNeg x_12) v_gives v_ring x_14)
def fX9_swap (v_thrown : Int32) (v_ringSize : Int32) (v_has : Nat → Int32) (v_gives : Nat → Int32) (v_wants : Nat → Int32) (v_ring : Nat → Int32) : Option (Int32 × Int32 × Int32 × (Nat → Int32) × (Nat → Int32) × (Nat → Int32)) :=
  ob (fX9_findRing v_ringSize v_has v_gives v_wants v_ring) fun (w_1, w_2) =>
  fX9_swap_b11 v_wants 70 0 w_1 v_has v_gives w_2 0
def fX9_rowOf_b90 (k_7 : Int32 → (Nat → Int32) → Int32 → Int32 → Option (Int32 × (Nat → Int32))) (v_strength : Nat → Int32) (v_many : Int32) (v_row : Nat → Int32) (l1 : Int32) (l2 : Int32) : Option (Int32 × (Nat → Int32)) :=
  nm (l2 + 1) fun x_1 =>
  k_7 v_many v_row l1 x_1
def fX9_rowOf_b73 (k_7 : Int32 → (Nat → Int32) → Int32 → Int32 → Option (Int32 × (Nat → Int32))) (v_strength : Nat → Int32) (v_many : Int32) (v_row : Nat → Int32) (l1 : Int32) (l2 : Int32) (l3 : Int32) : Option (Int32 × (Nat → Int32)) :=
  ck (g_in l3 6) <|
  nm (v_many + 1) fun x_2 =>
  fX9_rowOf_b90 k_7 v_strength x_2 (upd v_row l3.toNatClampNeg l2) l1 l2
def fX9_rowOf_b27 (k_7 : Int32 → (Nat → Int32) → Int32 → Int32 → Option (Int32 × (Nat → Int32))) (v_strength : Nat → Int32) : Nat → Int32 → (Nat → Int32) → Int32 → Int32 → Int32 → Option (Int32 × (Nat → Int32))
  | 0, _, _, _, _, _ => none
  | n + 1, v_many, v_row, l1, l2, l3 =>
  if l3 ≤ 0 then
  (fX9_rowOf_b73 k_7 v_strength v_many v_row l1 l2 l3)
  else
  (ck (g_in (l3 - 1) 6) <|
  ck (g_in (v_row (l3 - 1).toNatClampNeg) 6) <|
  ck (g_in l2 6) <|
  if (v_strength l2.toNatClampNeg) ≤ (v_strength (v_row (l3 - 1).toNatClampNeg).toNatClampNeg) then
  (fX9_rowOf_b73 k_7 v_strength v_many v_row l1 l2 l3)
  else
  (ck (g_in (l3 - 1) 6) <|
  nm (v_row (l3 - 1).toNatClampNeg) fun x_7 =>
  ck (g_in l3 6) <|
  nm (l3 + (-1)) fun x_9 =>
  (fX9_rowOf_b27 k_7 v_strength n) v_many (upd v_row l3.toNatClampNeg x_7) l1 l2 x_9))
def fX9_rowOf_b7 (v_strength : Nat → Int32) : Nat → Int32 → (Nat → Int32) → Int32 → Int32 → Option (Int32 × (Nat → Int32))
  | 0, _, _, _, _ => none
  | n + 1, v_many, v_row, l1, l2 =>
  if 6 ≤ l2 then
  (nm (v_many - (v_many - v_many / 2 * 2)) fun x_2 =>
  some (x_2, v_row))
  else
  (if ((l1 >>> (l2 &&& 31)) &&& 1) = 1 then
  (fX9_rowOf_b27 (fX9_rowOf_b7 v_strength n) v_strength 70 v_many v_row l1 l2 v_many)
  else
  (fX9_rowOf_b90 (fX9_rowOf_b7 v_strength n) v_strength v_many v_row l1 l2))
def fX9_rowOf (v_many : Int32) (v_strength : Nat → Int32) (v_row : Nat → Int32) (p1 : Int32) : Option (Int32 × (Nat → Int32)) :=
  fX9_rowOf_b7 v_strength 70 0 v_row p1 0
def fX9_placeOf_b31 (k_4 : Int32 → Int32 → Int32 → Option (Int32)) (l0 : Int32) (l2 : Int32) (s0 : Int32) (s1 : Int32) : Option (Int32) :=
  nm (s0 - s1) fun x_1 =>
  nm (l2 + 1) fun x_2 =>
  k_4 l0 x_2 x_1
def fX9_placeOf_b17 (k_4 : Int32 → Int32 → Int32 → Option (Int32)) (l0 : Int32) (l2 : Int32) (l3 : Int32) : Option (Int32) :=
  if ((l0 >>> (l2 &&& 31)) &&& 1) = 0 then
  (fX9_placeOf_b31 k_4 l0 l2 l3 1)
  else
  (fX9_placeOf_b31 k_4 l0 l2 l3 0)
def fX9_placeOf_b4 : Nat → Int32 → Int32 → Int32 → Option (Int32)
  | 0, _, _, _ => none
  | n + 1, l0, l2, l3 =>
  if ((l0 >>> (l2 &&& 31)) &&& 1) = 1 then
  (fX9_placeOf_b17 (fX9_placeOf_b4 n) l0 l2 l3)
  else
  (if l3 ≤ 0 then
  (some l2)
  else
  (fX9_placeOf_b17 (fX9_placeOf_b4 n) l0 l2 l3))
def fX9_placeOf (p1 : Int32) (p2 : Int32) : Option (Int32) :=
  fX9_placeOf_b4 70 p1 0 p2
def fX9_pairedIn_b168 (k_31 : Int32 → Int32 → Int32 → Int32 → Int32 → Int32 → Option (Int32)) (v_many : Int32) (v_haveMet : Nat → Int32) (v_row : Nat → Int32) (l1 : Int32) (l3 : Int32) (l4 : Int32) (l6 : Int32) (l7 : Int32) (s0 : Int32) : Option (Int32) :=
  nm (l7 + (-2)) fun x_1 =>
  k_31 l1 l3 l4 s0 l6 x_1
def fX9_pairedIn_b79 (k_31 : Int32 → Int32 → Int32 → Int32 → Int32 → Int32 → Option (Int32)) (v_many : Int32) (v_haveMet : Nat → Int32) (v_row : Nat → Int32) (l1 : Int32) (l3 : Int32) (l4 : Int32) (l5 : Int32) (l6 : Int32) (l7 : Int32) (l8 : Int32) (s0 : Int32) : Option (Int32) :=
  ob (fX9_placeOf l3 s0) fun r_1 =>
  nm (l3 ||| ((1 : Int32) <<< (r_1 &&& 31))) fun x_3 =>
  ck (g_in l8 6) <|
  ck (g_in r_1 6) <|
  ck (g_in ((6 * (v_row l8.toNatClampNeg)) + (v_row r_1.toNatClampNeg)) 36) <|
  if (v_haveMet ((6 * (v_row l8.toNatClampNeg)) + (v_row r_1.toNatClampNeg)).toNatClampNeg) = 0 then
  (ck (g_in l8 6) <|
  if (v_row l8.toNatClampNeg) = l1 then
  (ck (g_in r_1 6) <|
  fX9_pairedIn_b168 k_31 v_many v_haveMet v_row l1 x_3 l4 l6 l7 (v_row r_1.toNatClampNeg))
  else
  (ck (g_in r_1 6) <|
  if (v_row r_1.toNatClampNeg) = l1 then
  (ck (g_in l8 6) <|
  fX9_pairedIn_b168 k_31 v_many v_haveMet v_row l1 x_3 l4 l6 l7 (v_row l8.toNatClampNeg))
  else
  (fX9_pairedIn_b168 k_31 v_many v_haveMet v_row l1 x_3 l4 l6 l7 l5)))
  else
  (some (-1))
def fX9_pairedIn_b31 (v_many : Int32) (v_haveMet : Nat → Int32) (v_row : Nat → Int32) : Nat → Int32 → Int32 → Int32 → Int32 → Int32 → Int32 → Option (Int32)
  | 0, _, _, _, _, _, _ => none
  | n + 1, l1, l3, l4, l5, l6, l7 =>
  if l7 ≤ 0 then
  (some l5)
  else
  (ob (fX9_placeOf l3 0) fun r_2 =>
  nm (l3 ||| ((1 : Int32) <<< (r_2 &&& 31))) fun x_4 =>
  if l7 = 6 then
  (ck (nz l6) <|
  fX9_pairedIn_b79 (fX9_pairedIn_b31 v_many v_haveMet v_row n) v_many v_haveMet v_row l1 x_4 l4 l5 l6 l7 r_2 (l4 / l6))
  else
  (if l7 = 4 then
  (fX9_pairedIn_b79 (fX9_pairedIn_b31 v_many v_haveMet v_row n) v_many v_haveMet v_row l1 x_4 l4 l5 l6 l7 r_2 (l4 - l4 / 3 * 3))
  else
  (fX9_pairedIn_b79 (fX9_pairedIn_b31 v_many v_haveMet v_row n) v_many v_haveMet v_row l1 x_4 l4 l5 l6 l7 r_2 0)))
def fX9_pairedIn_b23 (v_many : Int32) (v_haveMet : Nat → Int32) (v_row : Nat → Int32) (l1 : Int32) (l3 : Int32) (l4 : Int32) (l5 : Int32) (s0 : Int32) : Option (Int32) :=
  fX9_pairedIn_b31 v_many v_haveMet v_row 70 l1 l3 l4 l5 s0 v_many
def fX9_pairedIn (v_many : Int32) (v_haveMet : Nat → Int32) (v_row : Nat → Int32) (p1 : Int32) (p2 : Int32) : Option (Int32) :=
  if v_many = 6 then
  (fX9_pairedIn_b23 v_many v_haveMet v_row p1 0 p2 (-2) 3)
  else
  (fX9_pairedIn_b23 v_many v_haveMet v_row p1 0 p2 (-2) 1)
def fX9_pair_b109 (v_strength : Nat → Int32) (v_haveMet : Nat → Int32) (v_thrown : Int32) (v_many : Int32) (v_row : Nat → Int32) (s0 : Int32) : Option (Int32 × Int32 × Int32 × (Nat → Int32)) :=
  some (s0, v_thrown, v_many, v_row)
def fX9_pair_b74 (v_strength : Nat → Int32) (v_haveMet : Nat → Int32) : Nat → Int32 → Int32 → (Nat → Int32) → Int32 → Int32 → Int32 → Option (Int32 × Int32 × Int32 × (Nat → Int32))
  | 0, _, _, _, _, _, _ => none
  | n + 1, v_thrown, v_many, v_row, l1, l4, l5 =>
  if l4 ≤ l5 then
  (some ((-1), v_thrown, v_many, v_row))
  else
  (ob (fX9_pairedIn v_many v_haveMet v_row l1 l5) fun r_2 =>
  if r_2 = (-1) then
  (nm (l5 + 1) fun x_5 =>
  (fX9_pair_b74 v_strength v_haveMet n) v_thrown v_many v_row l1 l4 x_5)
  else
  (if r_2 = (-2) then
  (fX9_pair_b109 v_strength v_haveMet v_thrown v_many v_row (-1))
  else
  (fX9_pair_b109 v_strength v_haveMet v_thrown v_many v_row r_2)))
def fX9_pair_b69 (v_strength : Nat → Int32) (v_haveMet : Nat → Int32) (v_thrown : Int32) (v_many : Int32) (v_row : Nat → Int32) (l1 : Int32) (s0 : Int32) : Option (Int32 × Int32 × Int32 × (Nat → Int32)) :=
  fX9_pair_b74 v_strength v_haveMet 70 v_thrown v_many v_row l1 s0 0
def fX9_pair_b29 (v_strength : Nat → Int32) (v_haveMet : Nat → Int32) (v_thrown : Int32) (v_many : Int32) (v_row : Nat → Int32) (l1 : Int32) (l2 : Int32) (s1 : Int32) : Option (Int32 × Int32 × Int32 × (Nat → Int32)) :=
  ob (fX9_goesWell v_thrown s1) fun (r_1, w_2) =>
  if r_1 = 0 then
  (some (0, w_2, v_many, v_row))
  else
  (ob (fX9_rowOf v_many v_strength v_row l2) fun (w_6, w_7) =>
  if w_6 = 6 then
  (fX9_pair_b69 v_strength v_haveMet w_2 w_6 w_7 l1 15)
  else
  (if w_6 = 4 then
  (fX9_pair_b69 v_strength v_haveMet w_2 w_6 w_7 l1 3)
  else
  (fX9_pair_b69 v_strength v_haveMet w_2 w_6 w_7 l1 1)))
def fX9_pair_b28 (v_strength : Nat → Int32) (v_haveMet : Nat → Int32) (v_thrown : Int32) (v_many : Int32) (v_row : Nat → Int32) (l1 : Int32) (l2 : Int32) : Option (Int32 × Int32 × Int32 × (Nat → Int32)) :=
  fX9_pair_b29 v_strength v_haveMet v_thrown v_many v_row l1 l2 2
def fX9_pair (v_thrown : Int32) (v_many : Int32) (v_strength : Nat → Int32) (v_haveMet : Nat → Int32) (v_row : Nat → Int32) (p1 : Int32) (p2 : Int32) : Option (Int32 × Int32 × Int32 × (Nat → Int32)) :=
  ob (fX9_isPlayer p1) fun r_1 =>
  if r_1 = 0 then
  (fX9_pair_b29 v_strength v_haveMet v_thrown v_many v_row p1 p2 1)
  else
  (if p2 < 0 then
  (fX9_pair_b28 v_strength v_haveMet v_thrown v_many v_row p1 p2)
  else
  (if 63 < p2 then
  (fX9_pair_b28 v_strength v_haveMet v_thrown v_many v_row p1 p2)
  else
  (fX9_pair_b29 v_strength v_haveMet v_thrown v_many v_row p1 p2 0)))
def fX9_result_b91 (v_thrown : Int32) (v_strength : Nat → Int32) (v_haveMet : Nat → Int32) (l1 : Int32) (l2 : Int32) (s0 : Int32) : Option (Int32 × Int32 × (Nat → Int32) × (Nat → Int32)) :=
  ck (g_in l1 6) <|
  nm ((v_strength l1.toNatClampNeg) + s0) fun x_2 =>
  ck (g_in l1 6) <|
  ck (g_in l2 6) <|
  nm (((upd v_strength l1.toNatClampNeg x_2) l2.toNatClampNeg) - s0) fun x_5 =>
  ck (g_in l2 6) <|
  ck (g_in ((6 * l1) + l2) 36) <|
  ck (g_in ((6 * l2) + l1) 36) <|
  some (s0, v_thrown, (upd (upd v_strength l1.toNatClampNeg x_2) l2.toNatClampNeg x_5), (upd (upd v_haveMet ((6 * l1) + l2).toNatClampNeg 1) ((6 * l2) + l1).toNatClampNeg 1))
def fX9_result_b39 (v_thrown : Int32) (v_strength : Nat → Int32) (v_haveMet : Nat → Int32) (l1 : Int32) (l2 : Int32) (s1 : Int32) : Option (Int32 × Int32 × (Nat → Int32) × (Nat → Int32)) :=
  ob (fX9_goesWell v_thrown s1) fun (r_1, w_2) =>
  if r_1 = 0 then
  (some (0, w_2, v_strength, v_haveMet))
  else
  (ck (g_in l2 6) <|
  ck (g_in l1 6) <|
  nm (16 + (((v_strength l2.toNatClampNeg) - (v_strength l1.toNatClampNeg)) / 4)) fun x_8 =>
  if 1 ≤ x_8 then
  (if x_8 ≤ 32 then
  (fX9_result_b91 w_2 v_strength v_haveMet l1 l2 x_8)
  else
  (fX9_result_b91 w_2 v_strength v_haveMet l1 l2 32))
  else
  (fX9_result_b91 w_2 v_strength v_haveMet l1 l2 1))
def fX9_result_b19 (v_thrown : Int32) (v_strength : Nat → Int32) (v_haveMet : Nat → Int32) (l1 : Int32) (l2 : Int32) (s0 : Int32) : Option (Int32 × Int32 × (Nat → Int32) × (Nat → Int32)) :=
  if s0 = 0 then
  (fX9_result_b39 v_thrown v_strength v_haveMet l1 l2 1)
  else
  (if l1 = l2 then
  (fX9_result_b39 v_thrown v_strength v_haveMet l1 l2 2)
  else
  (fX9_result_b39 v_thrown v_strength v_haveMet l1 l2 0))
def fX9_result_b18 (v_thrown : Int32) (v_strength : Nat → Int32) (v_haveMet : Nat → Int32) (l1 : Int32) (l2 : Int32) : Option (Int32 × Int32 × (Nat → Int32) × (Nat → Int32)) :=
  fX9_result_b19 v_thrown v_strength v_haveMet l1 l2 0
def fX9_result (v_thrown : Int32) (v_strength : Nat → Int32) (v_haveMet : Nat → Int32) (p1 : Int32) (p2 : Int32) : Option (Int32 × Int32 × (Nat → Int32) × (Nat → Int32)) :=
  ob (fX9_isPlayer p1) fun r_1 =>
  if r_1 = 0 then
  (fX9_result_b18 v_thrown v_strength v_haveMet p1 p2)
  else
  (ob (fX9_isPlayer p2) fun r_5 =>
  if r_5 = 0 then
  (fX9_result_b18 v_thrown v_strength v_haveMet p1 p2)
  else
  (fX9_result_b19 v_thrown v_strength v_haveMet p1 p2 1))
def fX9_has_b42 (v_kinds : Int32) (v_has : Nat → Int32) (v_thrown : Int32) (s0 : Int32) : Option (Int32 × Int32) :=
  some (s0, v_thrown)
def fX9_has_b21 (v_kinds : Int32) (v_has : Nat → Int32) (v_thrown : Int32) (l1 : Int32) (l2 : Int32) (s1 : Int32) : Option (Int32 × Int32) :=
  ob (fX9_goesWell v_thrown s1) fun (r_1, w_2) =>
  if r_1 = 0 then
  (fX9_has_b42 v_kinds v_has w_2 0)
  else
  (ck (g_in ((20 * l1) + l2) 120) <|
  fX9_has_b42 v_kinds v_has w_2 (v_has ((20 * l1) + l2).toNatClampNeg))
def fX9_has_b20 (v_kinds : Int32) (v_has : Nat → Int32) (v_thrown : Int32) (l1 : Int32) (l2 : Int32) : Option (Int32 × Int32) :=
  fX9_has_b21 v_kinds v_has v_thrown l1 l2 1
def fX9_has (v_thrown : Int32) (v_kinds : Int32) (v_has : Nat → Int32) (p1 : Int32) (p2 : Int32) : Option (Int32 × Int32) :=
  ob (fX9_isPlayer p1) fun r_1 =>
  if r_1 = 0 then
  (fX9_has_b20 v_kinds v_has v_thrown p1 p2)
  else
  (ob (fX9_isKind v_kinds p2) fun r_5 =>
  if r_5 = 0 then
  (fX9_has_b20 v_kinds v_has v_thrown p1 p2)
  else
  (fX9_has_b21 v_kinds v_has v_thrown p1 p2 0))
def fX9_strength_b29 (v_strength : Nat → Int32) (v_thrown : Int32) (s0 : Int32) : Option (Int32 × Int32) :=
  some (s0, v_thrown)
def fX9_strength_b13 (v_strength : Nat → Int32) (v_thrown : Int32) (l1 : Int32) (s1 : Int32) : Option (Int32 × Int32) :=
  ob (fX9_goesWell v_thrown s1) fun (r_1, w_2) =>
  if r_1 = 0 then
  (fX9_strength_b29 v_strength w_2 0)
  else
  (ck (g_in l1 6) <|
  fX9_strength_b29 v_strength w_2 (v_strength l1.toNatClampNeg))
def fX9_strength (v_thrown : Int32) (v_strength : Nat → Int32) (p1 : Int32) : Option (Int32 × Int32) :=
  ob (fX9_isPlayer p1) fun r_1 =>
  if r_1 = 0 then
  (fX9_strength_b13 v_strength v_thrown p1 1)
  else
  (fX9_strength_b13 v_strength v_thrown p1 0)
def fX9_stacked (v_thrown : Int32) (v_stacked : Int32) : Option (Int32 × Int32) :=
  some (v_stacked, 0)
/-! hall1 -/
def fX8_needPlayer_b10 : Option ((Unit × Unit) ⊕ (String × Unit)) :=
  some (Sum.inr ("java/lang/IndexOutOfBoundsException", ()))
def fX8_needPlayer (p1 : Int32) : Option ((Unit × Unit) ⊕ (String × Unit)) :=
  if p1 < 0 then
  (fX8_needPlayer_b10)
  else
  (if p1 < 6 then
  (some (Sum.inl ((), ())))
  else
  (fX8_needPlayer_b10))
def fX8_needKind_b15 (v_kinds_count : Int32) : Option ((Unit × Unit) ⊕ (String × Unit)) :=
  some (Sum.inr ("java/lang/IndexOutOfBoundsException", ()))
def fX8_needKind (v_kinds_count : Int32) (p1 : Int32) : Option ((Unit × Unit) ⊕ (String × Unit)) :=
  if p1 < 0 then
  (fX8_needKind_b15 v_kinds_count)
  else
  (if p1 < v_kinds_count then
  (some (Sum.inl ((), ())))
  else
  (fX8_needKind_b15 v_kinds_count))
def fX8_needDay_b15 (v_today : Int32) : Option ((Unit × Unit) ⊕ (String × Unit)) :=
  some (Sum.inr ("java/lang/IllegalArgumentException", ()))
def fX8_needDay (v_today : Int32) (p1 : Int32) : Option ((Unit × Unit) ⊕ (String × Unit)) :=
  if p1 < v_today then
  (fX8_needDay_b15 v_today)
  else
  (if p1 ≤ 1000 then
  (some (Sum.inl ((), ())))
  else
  (fX8_needDay_b15 v_today))
def fX8_kind_b9 (v_kinds_count : Int32) (v_kinds_effects : Nat → Int32) (v_kinds_numbers : Nat → Int32) (v_kinds_bans : Nat → Int32) : Option ((Int32 × Int32 × (Nat → Int32) × (Nat → Int32) × (Nat → Int32)) ⊕ (String × Int32 × (Nat → Int32) × (Nat → Int32) × (Nat → Int32))) :=
  some (Sum.inr ("java/lang/IllegalArgumentException", (v_kinds_count, v_kinds_effects, v_kinds_numbers, v_kinds_bans)))
def fX8_kind_b30 (v_kinds_count : Int32) (v_kinds_effects : Nat → Int32) (v_kinds_numbers : Nat → Int32) (v_kinds_bans : Nat → Int32) : Option ((Int32 × Int32 × (Nat → Int32) × (Nat → Int32) × (Nat → Int32)) ⊕ (String × Int32 × (Nat → Int32) × (Nat → Int32) × (Nat → Int32))) :=
  some (Sum.inr ("java/lang/IllegalArgumentException", (v_kinds_count, v_kinds_effects, v_kinds_numbers, v_kinds_bans)))
def fX8_kind (v_kinds_count : Int32) (v_kinds_effects : Nat → Int32) (v_kinds_numbers : Nat → Int32) (v_kinds_bans : Nat → Int32) (p1 : Int32) (p2 : Int32) : Option ((Int32 × Int32 × (Nat → Int32) × (Nat → Int32) × (Nat → Int32)) ⊕ (String × Int32 × (Nat → Int32) × (Nat → Int32) × (Nat → Int32))) :=
  if p1 < 0 then
  (fX8_kind_b9 v_kinds_count v_kinds_effects v_kinds_numbers v_kinds_bans)
  else
  (if p1 ≤ 5 then
  (if p2 < 1 then
  (fX8_kind_b30 v_kinds_count v_kinds_effects v_kinds_numbers v_kinds_bans)
  else
  (if p2 ≤ 9 then
  (if v_kinds_count < 20 then
  (ob (fX2_add v_kinds_count v_kinds_effects v_kinds_numbers v_kinds_bans p1 p2) fun (r_6, w_7, w_8, w_9, w_10) =>
  some (Sum.inl (r_6, (w_7, w_8, w_9, w_10))))
  else
  (some (Sum.inr ("java/lang/IllegalStateException", (v_kinds_count, v_kinds_effects, v_kinds_numbers, v_kinds_bans)))))
  else
  (fX8_kind_b30 v_kinds_count v_kinds_effects v_kinds_numbers v_kinds_bans)))
  else
  (fX8_kind_b9 v_kinds_count v_kinds_effects v_kinds_numbers v_kinds_bans))
def fX8_ban (v_today : Int32) (v_kinds_count : Int32) (v_kinds_bans : Nat → Int32) (v_shelf_decks : Nat → Nat → Int32) (p1 : Int32) (p2 : Int32) : Option ((Int32 × (Nat → Int32)) ⊕ (String × (Nat → Int32))) :=
  ob (fX8_needKind v_kinds_count p1) fun o_1 =>
  xm o_1 (fun E => some (Sum.inr (E, v_kinds_bans))) <|
  ob (fX8_needDay v_today p2) fun o_4 =>
  xm o_4 (fun E => some (Sum.inr (E, v_kinds_bans))) <|
  ck (g_in p1 20) <|
  ob (fX5_countDecksWith v_shelf_decks p1) fun r_8 =>
  some (Sum.inl (r_8, (upd v_kinds_bans p1.toNatClampNeg p2)))
def fX8_get_b20 (v_kinds_count : Int32) (v_shelf_cards : Nat → Nat → Int32) : Option ((Int32 × (Nat → Nat → Int32)) ⊕ (String × (Nat → Nat → Int32))) :=
  some (Sum.inr ("java/lang/IllegalArgumentException", v_shelf_cards))
def fX8_get (v_kinds_count : Int32) (v_shelf_cards : Nat → Nat → Int32) (p1 : Int32) (p2 : Int32) (p3 : Int32) : Option ((Int32 × (Nat → Nat → Int32)) ⊕ (String × (Nat → Nat → Int32))) :=
  ob (fX8_needPlayer p1) fun o_1 =>
  xm o_1 (fun E => some (Sum.inr (E, v_shelf_cards))) <|
  ob (fX8_needKind v_kinds_count p2) fun o_4 =>
  xm o_4 (fun E => some (Sum.inr (E, v_shelf_cards))) <|
  if p3 < 1 then
  (fX8_get_b20 v_kinds_count v_shelf_cards)
  else
  (if p3 ≤ 9 then
  (ck (g_in p1 6) <|
  ck (g_in p2 20) <|
  nm ((v_shelf_cards p1.toNatClampNeg p2.toNatClampNeg) + p3) fun x_11 =>
  ck (g_in p2 20) <|
  ck (g_in p1 6) <|
  ck (g_in p2 20) <|
  some (Sum.inl (((gup v_shelf_cards p1.toNatClampNeg p2.toNatClampNeg x_11) p1.toNatClampNeg p2.toNatClampNeg), (gup v_shelf_cards p1.toNatClampNeg p2.toNatClampNeg x_11))))
  else
  (fX8_get_b20 v_kinds_count v_shelf_cards))
def fX8_pass_b11 (v_today : Int32) : Option ((Int32 × Int32) ⊕ (String × Int32)) :=
  some (Sum.inr ("java/lang/IllegalArgumentException", v_today))
def fX8_pass (v_today : Int32) (p1 : Int32) : Option ((Int32 × Int32) ⊕ (String × Int32)) :=
  if p1 < 1 then
  (fX8_pass_b11 v_today)
  else
  (if p1 ≤ 100 then
  (if (v_today + p1) ≤ 1000 then
  (nm (v_today + p1) fun x_4 =>
  some (Sum.inl (x_4, x_4)))
  else
  (some (Sum.inr ("java/lang/IllegalStateException", v_today))))
  else
  (fX8_pass_b11 v_today))
def fX8_play (v_today : Int32) (v_kinds_count : Int32) (v_kinds_effects : Nat → Int32) (v_kinds_numbers : Nat → Int32) (v_kinds_bans : Nat → Int32) (v_shelf_cards : Nat → Nat → Int32) (v_table_size : Int32) (v_table_effects : Nat → Int32) (v_table_numbers : Nat → Int32) (v_table_players : Nat → Int32) (v_table_against : Nat → Int32) (v_history_count : Int32) (v_history_deeds : Nat → Int32) (p1 : Int32) (p2 : Int32) (p3 : Int32) : Option ((Int32 × Int32 × (Nat → Int32) × (Nat → Int32) × (Nat → Int32) × (Nat → Int32) × Int32 × (Nat → Int32)) ⊕ (String × Int32 × (Nat → Int32) × (Nat → Int32) × (Nat → Int32) × (Nat → Int32) × Int32 × (Nat → Int32))) :=
  ob (fX8_needPlayer p1) fun o_1 =>
  xm o_1 (fun E => some (Sum.inr (E, (v_table_size, v_table_effects, v_table_numbers, v_table_players, v_table_against, v_history_count, v_history_deeds)))) <|
  ob (fX8_needKind v_kinds_count p2) fun o_4 =>
  xm o_4 (fun E => some (Sum.inr (E, (v_table_size, v_table_effects, v_table_numbers, v_table_players, v_table_against, v_history_count, v_history_deeds)))) <|
  ob (fX8_needPlayer p3) fun o_7 =>
  xm o_7 (fun E => some (Sum.inr (E, (v_table_size, v_table_effects, v_table_numbers, v_table_players, v_table_against, v_history_count, v_history_deeds)))) <|
  ck (g_in p1 6) <|
  ck (g_in p2 20) <|
  if 1 ≤ (v_shelf_cards p1.toNatClampNeg p2.toNatClampNeg) then
  (ob (fX2_isBanned v_kinds_bans p2 v_today) fun r_13 =>
  if r_13 = 0 then
  (if v_table_size < 6 then
  (ck (g_in p2 20) <|
  ck (g_in p2 20) <|
  ob (fX6_lay v_table_size v_table_effects v_table_numbers v_table_players v_table_against (v_kinds_effects p2.toNatClampNeg) (v_kinds_numbers p2.toNatClampNeg) p1 p3) fun (w_20, w_21, w_22, w_23, w_24) =>
  ck (g_in p2 20) <|
  ck (g_in p2 20) <|
  ob (fX1_addPlay v_history_count v_history_deeds (v_kinds_effects p2.toNatClampNeg) (v_kinds_numbers p2.toNatClampNeg) p1 p3) fun (w_28, w_29) =>
  some (Sum.inl (w_20, (w_20, w_21, w_22, w_23, w_24, w_28, w_29))))
  else
  (some (Sum.inr ("java/lang/IllegalStateException", (v_table_size, v_table_effects, v_table_numbers, v_table_players, v_table_against, v_history_count, v_history_deeds)))))
  else
  (some (Sum.inr ("java/lang/IllegalStateException", (v_table_size, v_table_effects, v_table_numbers, v_table_players, v_table_against, v_history_count, v_history_deeds)))))
  else
  (some (Sum.inr ("java/lang/IllegalStateException", (v_table_size, v_table_effects, v_table_numbers, v_table_players, v_table_against, v_history_count, v_history_deeds))))
def fX8_top (v_table_size : Int32) (v_table_lives : Nat → Int32) (v_table_shields : Nat → Int32) (v_table_effects : Nat → Int32) (v_table_numbers : Nat → Int32) (v_table_players : Nat → Int32) (v_table_against : Nat → Int32) (v_history_count : Int32) (v_history_deeds : Nat → Int32) : Option ((Int32 × Int32 × (Nat → Int32) × (Nat → Int32) × (Nat → Int32) × (Nat → Int32) × (Nat → Int32) × (Nat → Int32) × Int32 × (Nat → Int32)) ⊕ (String × Int32 × (Nat → Int32) × (Nat → Int32) × (Nat → Int32) × (Nat → Int32) × (Nat → Int32) × (Nat → Int32) × Int32 × (Nat → Int32))) :=
  if v_table_size = 0 then
  (some (Sum.inr ("java/lang/IllegalStateException", (v_table_size, v_table_lives, v_table_shields, v_table_effects, v_table_numbers, v_table_players, v_table_against, v_history_count, v_history_deeds))))
  else
  (ob (fX6_doTop v_table_size v_table_lives v_table_shields v_table_effects v_table_numbers v_table_players v_table_against) fun (r_2, w_3, w_4, w_5, w_6, w_7, w_8, w_9) =>
  if r_2 = 0 then
  (some (Sum.inr ("java/lang/IllegalStateException", (w_3, w_4, w_5, w_6, w_7, w_8, w_9, v_history_count, v_history_deeds))))
  else
  (ob (fX1_addDoing v_history_count v_history_deeds) fun (w_13, w_14) =>
  some (Sum.inl (w_3, (w_3, w_4, w_5, w_6, w_7, w_8, w_9, w_13, w_14)))))
def fX8_bound (v_table_size : Int32) (v_table_lives : Nat → Int32) (v_table_shields : Nat → Int32) (v_table_effects : Nat → Int32) (v_table_numbers : Nat → Int32) (v_table_players : Nat → Int32) (v_table_against : Nat → Int32) (v_orders_player : Int32) (v_orders_isGreatest : Int32) (v_orders_isFound : Int32) (v_orders_best : Int32) (v_orders_work_size : Int32) (v_orders_work_lives : Nat → Int32) (v_orders_work_shields : Nat → Int32) (v_orders_work_effects : Nat → Int32) (v_orders_work_numbers : Nat → Int32) (v_orders_work_players : Nat → Int32) (v_orders_work_against : Nat → Int32) (p1 : Int32) (p2 : Int32) : Option ((Int32 × Int32 × Int32 × Int32 × Int32 × Int32 × (Nat → Int32) × (Nat → Int32) × (Nat → Int32) × (Nat → Int32) × (Nat → Int32) × (Nat → Int32)) ⊕ (String × Int32 × Int32 × Int32 × Int32 × Int32 × (Nat → Int32) × (Nat → Int32) × (Nat → Int32) × (Nat → Int32) × (Nat → Int32) × (Nat → Int32))) :=
  ob (fX8_needPlayer p1) fun o_1 =>
  xm o_1 (fun E => some (Sum.inr (E, (v_orders_player, v_orders_isGreatest, v_orders_isFound, v_orders_best, v_orders_work_size, v_orders_work_lives, v_orders_work_shields, v_orders_work_effects, v_orders_work_numbers, v_orders_work_players, v_orders_work_against)))) <|
  ob (fX4_find v_orders_player v_orders_isGreatest v_orders_isFound v_orders_best v_orders_work_size v_orders_work_lives v_orders_work_shields v_orders_work_effects v_orders_work_numbers v_orders_work_players v_orders_work_against v_table_size v_table_lives v_table_shields v_table_effects v_table_numbers v_table_players v_table_against p1 p2) fun (r_4, w_5, w_6, w_7, w_8, w_9, w_10, w_11, w_12, w_13, w_14, w_15) =>
  some (Sum.inl (r_4, (w_5, w_6, w_7, w_8, w_9, w_10, w_11, w_12, w_13, w_14, w_15)))
def fX8_swap (v_shelf_cards : Nat → Nat → Int32) (v_wishes_givers : Int32) (v_wishes_gives : Nat → Int32) (v_wishes_wants : Nat → Int32) (v_wishes_row : Nat → Int32) : Option (Int32 × (Nat → Nat → Int32) × Int32 × (Nat → Int32) × (Nat → Int32) × (Nat → Int32)) :=
  ob (fX7_findBest v_wishes_givers v_wishes_gives v_wishes_wants v_wishes_row v_shelf_cards) fun (r_1, w_2, w_3) =>
  ob (fX7_fulfil v_wishes_gives v_wishes_wants w_3 v_shelf_cards r_1) fun (w_5, w_6, w_7) =>
  some (r_1, w_7, w_2, w_5, w_6, w_3)
def fX8_stacked (v_table_size : Int32) : Option (Int32) :=
  some v_table_size
/-! hall2 -/
def fX8_life_b29 (v_table_lives : Nat → Int32) (v_table_shields : Nat → Int32) (s0 : Int32) : Option ((Int32 × Unit) ⊕ (String × Unit)) :=
  some (Sum.inl (s0, ()))
def fX8_life (v_table_lives : Nat → Int32) (v_table_shields : Nat → Int32) (p1 : Int32) (p2 : Int32) : Option ((Int32 × Unit) ⊕ (String × Unit)) :=
  ob (fX8_needPlayer p1) fun o_1 =>
  xm o_1 (fun E => some (Sum.inr (E, ()))) <|
  if p2 = 0 then
  (ck (g_in p1 6) <|
  fX8_life_b29 v_table_lives v_table_shields (v_table_lives p1.toNatClampNeg))
  else
  (ck (g_in p1 6) <|
  fX8_life_b29 v_table_lives v_table_shields (v_table_shields p1.toNatClampNeg))
def fX8_lifeAnew (v_history_count : Int32) (v_history_deeds : Nat → Int32) (v_history_anew_size : Int32) (v_history_anew_lives : Nat → Int32) (v_history_anew_shields : Nat → Int32) (v_history_anew_effects : Nat → Int32) (v_history_anew_numbers : Nat → Int32) (v_history_anew_players : Nat → Int32) (v_history_anew_against : Nat → Int32) (p1 : Int32) : Option ((Int32 × Int32 × (Nat → Int32) × (Nat → Int32) × (Nat → Int32) × (Nat → Int32) × (Nat → Int32) × (Nat → Int32)) ⊕ (String × Int32 × (Nat → Int32) × (Nat → Int32) × (Nat → Int32) × (Nat → Int32) × (Nat → Int32) × (Nat → Int32))) :=
  ob (fX8_needPlayer p1) fun o_1 =>
  xm o_1 (fun E => some (Sum.inr (E, (v_history_anew_size, v_history_anew_lives, v_history_anew_shields, v_history_anew_effects, v_history_anew_numbers, v_history_anew_players, v_history_anew_against)))) <|
  ob (fX1_findLife v_history_count v_history_deeds v_history_anew_size v_history_anew_lives v_history_anew_shields v_history_anew_effects v_history_anew_numbers v_history_anew_players v_history_anew_against p1) fun (r_4, w_5, w_6, w_7, w_8, w_9, w_10, w_11) =>
  some (Sum.inl (r_4, (w_5, w_6, w_7, w_8, w_9, w_10, w_11)))
def fX8_put (v_kinds_count : Int32) (v_shelf_cards : Nat → Nat → Int32) (v_shelf_decks : Nat → Nat → Int32) (v_shelf_deckSizes : Nat → Int32) (p1 : Int32) (p2 : Int32) : Option ((Int32 × (Nat → Nat → Int32) × (Nat → Int32)) ⊕ (String × (Nat → Nat → Int32) × (Nat → Int32))) :=
  ob (fX8_needPlayer p1) fun o_1 =>
  xm o_1 (fun E => some (Sum.inr (E, (v_shelf_decks, v_shelf_deckSizes)))) <|
  ob (fX8_needKind v_kinds_count p2) fun o_4 =>
  xm o_4 (fun E => some (Sum.inr (E, (v_shelf_decks, v_shelf_deckSizes)))) <|
  ob (fX5_isDeckFull v_shelf_deckSizes p1) fun r_7 =>
  if r_7 = 0 then
  (ob (fX5_mayTakeMore v_shelf_cards v_shelf_decks p1 p2) fun r_11 =>
  if r_11 = 0 then
  (some (Sum.inr ("java/lang/IllegalStateException", (v_shelf_decks, v_shelf_deckSizes))))
  else
  (ob (fX5_addToDeck v_shelf_decks v_shelf_deckSizes p1 p2) fun (r_15, w_16, w_17) =>
  some (Sum.inl (r_15, (w_16, w_17)))))
  else
  (some (Sum.inr ("java/lang/IllegalStateException", (v_shelf_decks, v_shelf_deckSizes))))
def fX8_isGood (v_today : Int32) (v_kinds_bans : Nat → Int32) (v_shelf_cards : Nat → Nat → Int32) (v_shelf_decks : Nat → Nat → Int32) (v_shelf_deckSizes : Nat → Int32) (p1 : Int32) (p2 : Int32) : Option ((Int32 × Unit) ⊕ (String × Unit)) :=
  ob (fX8_needPlayer p1) fun o_1 =>
  xm o_1 (fun E => some (Sum.inr (E, ()))) <|
  ob (fX8_needDay v_today p2) fun o_4 =>
  xm o_4 (fun E => some (Sum.inr (E, ()))) <|
  ob (fX5_isDeckGood v_shelf_cards v_shelf_decks v_shelf_deckSizes v_kinds_bans p1 p2) fun r_7 =>
  some (Sum.inl (r_7, ()))
def fX8_draft_b11 (v_kinds_count : Int32) (v_draft_players : Int32) (v_draft_cards : Int32) (v_draft_round : Int32) (v_draft_turn : Int32) (v_draft_packs : Nat → Nat → Int32) : Option ((Unit × Int32 × Int32 × Int32 × Int32 × (Nat → Nat → Int32)) ⊕ (String × Int32 × Int32 × Int32 × Int32 × (Nat → Nat → Int32))) :=
  some (Sum.inr ("java/lang/IllegalArgumentException", (v_draft_players, v_draft_cards, v_draft_round, v_draft_turn, v_draft_packs)))
def fX8_draft_b32 (v_kinds_count : Int32) (v_draft_players : Int32) (v_draft_cards : Int32) (v_draft_round : Int32) (v_draft_turn : Int32) (v_draft_packs : Nat → Nat → Int32) : Option ((Unit × Int32 × Int32 × Int32 × Int32 × (Nat → Nat → Int32)) ⊕ (String × Int32 × Int32 × Int32 × Int32 × (Nat → Nat → Int32))) :=
  some (Sum.inr ("java/lang/IllegalArgumentException", (v_draft_players, v_draft_cards, v_draft_round, v_draft_turn, v_draft_packs)))
def fX8_draft_b52 (v_kinds_count : Int32) (v_draft_players : Int32) (v_draft_cards : Int32) (v_draft_round : Int32) (v_draft_turn : Int32) (v_draft_packs : Nat → Nat → Int32) : Option ((Unit × Int32 × Int32 × Int32 × Int32 × (Nat → Nat → Int32)) ⊕ (String × Int32 × Int32 × Int32 × Int32 × (Nat → Nat → Int32))) :=
  some (Sum.inr ("java/lang/IllegalArgumentException", (v_draft_players, v_draft_cards, v_draft_round, v_draft_turn, v_draft_packs)))
def fX8_draft (v_kinds_count : Int32) (v_draft_players : Int32) (v_draft_cards : Int32) (v_draft_round : Int32) (v_draft_turn : Int32) (v_draft_packs : Nat → Nat → Int32) (p1 : Int32) (p2 : Int32) (p3 : Int32) : Option ((Unit × Int32 × Int32 × Int32 × Int32 × (Nat → Nat → Int32)) ⊕ (String × Int32 × Int32 × Int32 × Int32 × (Nat → Nat → Int32))) :=
  if p1 < 2 then
  (fX8_draft_b11 v_kinds_count v_draft_players v_draft_cards v_draft_round v_draft_turn v_draft_packs)
  else
  (if p1 ≤ 6 then
  (if p2 < 3 then
  (fX8_draft_b32 v_kinds_count v_draft_players v_draft_cards v_draft_round v_draft_turn v_draft_packs)
  else
  (if p2 ≤ 6 then
  (if p3 < 0 then
  (fX8_draft_b52 v_kinds_count v_draft_players v_draft_cards v_draft_round v_draft_turn v_draft_packs)
  else
  (if p3 < 65537 then
  (if v_kinds_count = 0 then
  (some (Sum.inr ("java/lang/IllegalStateException", (v_draft_players, v_draft_cards, v_draft_round, v_draft_turn, v_draft_packs))))
  else
  (ob (fX0_begin v_draft_players v_draft_cards v_draft_round v_draft_turn v_draft_packs p1 p2 p3 v_kinds_count) fun (w_8, w_9, w_10, w_11, w_12) =>
  some (Sum.inl ((), (w_8, w_9, w_10, w_11, w_12)))))
  else
  (fX8_draft_b52 v_kinds_count v_draft_players v_draft_cards v_draft_round v_draft_turn v_draft_packs)))
  else
  (fX8_draft_b32 v_kinds_count v_draft_players v_draft_cards v_draft_round v_draft_turn v_draft_packs)))
  else
  (fX8_draft_b11 v_kinds_count v_draft_players v_draft_cards v_draft_round v_draft_turn v_draft_packs))
def fX8_offered_b37 (v_draft_players : Int32) (v_draft_cards : Int32) (v_draft_round : Int32) (v_draft_turn : Int32) (v_draft_packs : Nat → Nat → Int32) (s0 : Int32) : Option ((Int32 × Unit) ⊕ (String × Unit)) :=
  some (Sum.inl (s0, ()))
def fX8_offered (v_draft_players : Int32) (v_draft_cards : Int32) (v_draft_round : Int32) (v_draft_turn : Int32) (v_draft_packs : Nat → Nat → Int32) (p1 : Int32) : Option ((Int32 × Unit) ⊕ (String × Unit)) :=
  if 0 ≤ p1 then
  (ob (fX0_countOffered v_draft_cards v_draft_round) fun r_2 =>
  if r_2 ≤ p1 then
  (fX8_offered_b37 v_draft_players v_draft_cards v_draft_round v_draft_turn v_draft_packs (-1))
  else
  (ob (fX0_kindAt v_draft_players v_draft_round v_draft_turn v_draft_packs p1) fun r_5 =>
  fX8_offered_b37 v_draft_players v_draft_cards v_draft_round v_draft_turn v_draft_packs r_5))
  else
  (some (Sum.inr ("java/lang/IndexOutOfBoundsException", ())))
def fX8_pick_b112 (v_draft_players : Int32) (v_draft_cards : Int32) (v_shelf_cards : Nat → Nat → Int32) (v_draft_round : Int32) (v_draft_turn : Int32) (v_draft_packs : Nat → Nat → Int32) (s0 : Int32) : Option ((Int32 × (Nat → Nat → Int32) × Int32 × Int32 × (Nat → Nat → Int32)) ⊕ (String × (Nat → Nat → Int32) × Int32 × Int32 × (Nat → Nat → Int32))) :=
  some (Sum.inl (s0, (v_shelf_cards, v_draft_round, v_draft_turn, v_draft_packs)))
def fX8_pick (v_shelf_cards : Nat → Nat → Int32) (v_draft_players : Int32) (v_draft_cards : Int32) (v_draft_round : Int32) (v_draft_turn : Int32) (v_draft_packs : Nat → Nat → Int32) (p1 : Int32) : Option ((Int32 × (Nat → Nat → Int32) × Int32 × Int32 × (Nat → Nat → Int32)) ⊕ (String × (Nat → Nat → Int32) × Int32 × Int32 × (Nat → Nat → Int32))) :=
  if 0 ≤ p1 then
  (ob (fX0_goesOn v_draft_cards v_draft_round) fun r_2 =>
  if r_2 = 0 then
  (some (Sum.inr ("java/lang/IllegalStateException", (v_shelf_cards, v_draft_round, v_draft_turn, v_draft_packs))))
  else
  (ob (fX0_countOffered v_draft_cards v_draft_round) fun r_6 =>
  if p1 < r_6 then
  (ck (g_in v_draft_turn 6) <|
  ob (fX0_kindAt v_draft_players v_draft_round v_draft_turn v_draft_packs p1) fun r_10 =>
  ck (g_in r_10 20) <|
  nm ((v_shelf_cards v_draft_turn.toNatClampNeg r_10.toNatClampNeg) + 1) fun x_13 =>
  ck (g_in r_10 20) <|
  ob (fX0_takeOut v_draft_players v_draft_cards v_draft_round v_draft_turn v_draft_packs p1) fun (w_15, w_16, w_17) =>
  ob (fX0_goesOn v_draft_cards w_15) fun r_19 =>
  if r_19 = 0 then
  (fX8_pick_b112 v_draft_players v_draft_cards (gup v_shelf_cards v_draft_turn.toNatClampNeg r_10.toNatClampNeg x_13) w_15 w_16 w_17 (-1))
  else
  (fX8_pick_b112 v_draft_players v_draft_cards (gup v_shelf_cards v_draft_turn.toNatClampNeg r_10.toNatClampNeg x_13) w_15 w_16 w_17 w_16))
  else
  (some (Sum.inr ("java/lang/IndexOutOfBoundsException", (v_shelf_cards, v_draft_round, v_draft_turn, v_draft_packs))))))
  else
  (some (Sum.inr ("java/lang/IndexOutOfBoundsException", (v_shelf_cards, v_draft_round, v_draft_turn, v_draft_packs))))
def fX8_wish (v_kinds_count : Int32) (v_wishes_gives : Nat → Int32) (v_wishes_wants : Nat → Int32) (p1 : Int32) (p2 : Int32) (p3 : Int32) : Option ((Unit × (Nat → Int32) × (Nat → Int32)) ⊕ (String × (Nat → Int32) × (Nat → Int32))) :=
  ob (fX8_needPlayer p1) fun o_1 =>
  xm o_1 (fun E => some (Sum.inr (E, (v_wishes_gives, v_wishes_wants)))) <|
  ob (fX8_needKind v_kinds_count p2) fun o_4 =>
  xm o_4 (fun E => some (Sum.inr (E, (v_wishes_gives, v_wishes_wants)))) <|
  ob (fX8_needKind v_kinds_count p3) fun o_7 =>
  xm o_7 (fun E => some (Sum.inr (E, (v_wishes_gives, v_wishes_wants)))) <|
  if p2 = p3 then
  (some (Sum.inr ("java/lang/IllegalArgumentException", (v_wishes_gives, v_wishes_wants))))
  else
  (ob (fX7_tell v_wishes_gives v_wishes_wants p1 p2 p3) fun (w_11, w_12) =>
  some (Sum.inl ((), (w_11, w_12))))
def fX8_ring_b10 (v_shelf_cards : Nat → Nat → Int32) (v_wishes_gives : Nat → Int32) (v_wishes_wants : Nat → Int32) (v_wishes_givers : Int32) (v_wishes_row : Nat → Int32) : Option ((Int32 × Int32 × (Nat → Int32)) ⊕ (String × Int32 × (Nat → Int32))) :=
  some (Sum.inr ("java/lang/IndexOutOfBoundsException", (v_wishes_givers, v_wishes_row)))
def fX8_ring_b53 (v_shelf_cards : Nat → Nat → Int32) (v_wishes_gives : Nat → Int32) (v_wishes_wants : Nat → Int32) (v_wishes_givers : Int32) (v_wishes_row : Nat → Int32) (s0 : Int32) : Option ((Int32 × Int32 × (Nat → Int32)) ⊕ (String × Int32 × (Nat → Int32))) :=
  some (Sum.inl (s0, (v_wishes_givers, v_wishes_row)))
def fX8_ring (v_shelf_cards : Nat → Nat → Int32) (v_wishes_givers : Int32) (v_wishes_gives : Nat → Int32) (v_wishes_wants : Nat → Int32) (v_wishes_row : Nat → Int32) (p1 : Int32) : Option ((Int32 × Int32 × (Nat → Int32)) ⊕ (String × Int32 × (Nat → Int32))) :=
  if p1 < 0 then
  (fX8_ring_b10 v_shelf_cards v_wishes_gives v_wishes_wants v_wishes_givers v_wishes_row)
  else
  (if p1 < 6 then
  (ob (fX7_findBest v_wishes_givers v_wishes_gives v_wishes_wants v_wishes_row v_shelf_cards) fun (r_3, w_4, w_5) =>
  if r_3 ≤ p1 then
  (fX8_ring_b53 v_shelf_cards v_wishes_gives v_wishes_wants w_4 w_5 (-1))
  else
  (ck (g_in p1 6) <|
  fX8_ring_b53 v_shelf_cards v_wishes_gives v_wishes_wants w_4 w_5 (w_5 p1.toNatClampNeg)))
  else
  (fX8_ring_b10 v_shelf_cards v_wishes_gives v_wishes_wants v_wishes_givers v_wishes_row))
def fX8_pair_b14 (v_matches_strengths : Nat → Int32) (v_matches_met : Nat → Int32) (v_matches_length : Int32) (v_matches_row : Nat → Int32) (v_matches_others : Nat → Int32) : Option ((Int32 × Int32 × (Nat → Int32) × (Nat → Int32)) ⊕ (String × Int32 × (Nat → Int32) × (Nat → Int32))) :=
  some (Sum.inr ("java/lang/IllegalArgumentException", (v_matches_length, v_matches_row, v_matches_others)))
def fX8_pair (v_matches_length : Int32) (v_matches_strengths : Nat → Int32) (v_matches_met : Nat → Int32) (v_matches_row : Nat → Int32) (v_matches_others : Nat → Int32) (p1 : Int32) (p2 : Int32) : Option ((Int32 × Int32 × (Nat → Int32) × (Nat → Int32)) ⊕ (String × Int32 × (Nat → Int32) × (Nat → Int32))) :=
  ob (fX8_needPlayer p1) fun o_1 =>
  xm o_1 (fun E => some (Sum.inr (E, (v_matches_length, v_matches_row, v_matches_others)))) <|
  if p2 < 0 then
  (fX8_pair_b14 v_matches_strengths v_matches_met v_matches_length v_matches_row v_matches_others)
  else
  (if p2 < 64 then
  (ob (fX3_findOther v_matches_length v_matches_strengths v_matches_met v_matches_row v_matches_others p1 p2) fun (r_6, w_7, w_8, w_9) =>
  some (Sum.inl (r_6, (w_7, w_8, w_9))))
  else
  (fX8_pair_b14 v_matches_strengths v_matches_met v_matches_length v_matches_row v_matches_others))
def fX8_result (v_matches_strengths : Nat → Int32) (v_matches_met : Nat → Int32) (p1 : Int32) (p2 : Int32) : Option ((Int32 × (Nat → Int32) × (Nat → Int32)) ⊕ (String × (Nat → Int32) × (Nat → Int32))) :=
  ob (fX8_needPlayer p1) fun o_1 =>
  xm o_1 (fun E => some (Sum.inr (E, (v_matches_strengths, v_matches_met)))) <|
  ob (fX8_needPlayer p2) fun o_4 =>
  xm o_4 (fun E => some (Sum.inr (E, (v_matches_strengths, v_matches_met)))) <|
  if p1 = p2 then
  (some (Sum.inr ("java/lang/IllegalArgumentException", (v_matches_strengths, v_matches_met))))
  else
  (ob (fX3_tell v_matches_strengths v_matches_met p1 p2) fun (r_8, w_9, w_10) =>
  some (Sum.inl (r_8, (w_9, w_10))))
def fX8_has (v_kinds_count : Int32) (v_shelf_cards : Nat → Nat → Int32) (p1 : Int32) (p2 : Int32) : Option ((Int32 × Unit) ⊕ (String × Unit)) :=
  ob (fX8_needPlayer p1) fun o_1 =>
  xm o_1 (fun E => some (Sum.inr (E, ()))) <|
  ob (fX8_needKind v_kinds_count p2) fun o_4 =>
  xm o_4 (fun E => some (Sum.inr (E, ()))) <|
  ck (g_in p1 6) <|
  ck (g_in p2 20) <|
  some (Sum.inl ((v_shelf_cards p1.toNatClampNeg p2.toNatClampNeg), ()))
def fX8_strength (v_matches_strengths : Nat → Int32) (p1 : Int32) : Option ((Int32 × Unit) ⊕ (String × Unit)) :=
  ob (fX8_needPlayer p1) fun o_1 =>
  xm o_1 (fun E => some (Sum.inr (E, ()))) <|
  ck (g_in p1 6) <|
  some (Sum.inl ((v_matches_strengths p1.toNatClampNeg), ()))
