/-! printed by gen.py: pure functions of Table -/
def fX6_clear_b2    : Nat → Int32 → (Nat → Int32) → (Nat → Int32) → Int32 → Option (Int32 × (Nat → Int32) × (Nat → Int32))
  | 0, _, _, _, _ => none
  | n + 1, v_size, v_lives, v_shields, l1 =>
  if 6 ≤ l1 then
  (some (0, v_lives, v_shields))
  else
  (ck (g_in l1 6) <|
  ck (g_in l1 6) <|
  nm (l1 + 1) fun x_4 =>
  (fX6_clear_b2 n) v_size (upd v_lives l1.toNatClampNeg 20) (upd v_shields l1.toNatClampNeg 0) x_4)
def fX6_clear  (v_size : Int32) (v_lives : Nat → Int32) (v_shields : Nat → Int32)  : Option (Int32 × (Nat → Int32) × (Nat → Int32)) :=
  fX6_clear_b2 70 v_size v_lives v_shields 0
def fX6_copyFrom_b40   (v_o1_size : Int32) (v_o1_lives : Nat → Int32) (v_o1_shields : Nat → Int32) (v_o1_effects : Nat → Int32) (v_o1_numbers : Nat → Int32) (v_o1_players : Nat → Int32) (v_o1_against : Nat → Int32) : Nat → Int32 → (Nat → Int32) → (Nat → Int32) → (Nat → Int32) → (Nat → Int32) → (Nat → Int32) → (Nat → Int32) → Int32 → Option (Int32 × (Nat → Int32) × (Nat → Int32) × (Nat → Int32) × (Nat → Int32) × (Nat → Int32) × (Nat → Int32))
  | 0, _, _, _, _, _, _, _, _ => none
  | n + 1, v_size, v_lives, v_shields, v_effects, v_numbers, v_players, v_against, l2 =>
  if v_o1_size ≤ l2 then
  (some (v_o1_size, v_lives, v_shields, v_effects, v_numbers, v_players, v_against))
  else
  (ck (g_in l2 6) <|
  nm (v_o1_effects l2.toNatClampNeg) fun x_3 =>
  ck (g_in l2 6) <|
  ck (g_in l2 6) <|
  nm (v_o1_numbers l2.toNatClampNeg) fun x_6 =>
  ck (g_in l2 6) <|
  ck (g_in l2 6) <|
  nm (v_o1_players l2.toNatClampNeg) fun x_9 =>
  ck (g_in l2 6) <|
  ck (g_in l2 6) <|
  nm (v_o1_against l2.toNatClampNeg) fun x_12 =>
  ck (g_in l2 6) <|
  nm (l2 + 1) fun x_14 =>
  (fX6_copyFrom_b40 v_o1_size v_o1_lives v_o1_shields v_o1_effects v_o1_numbers v_o1_players v_o1_against n) v_size v_lives v_shields (upd v_effects l2.toNatClampNeg x_3) (upd v_numbers l2.toNatClampNeg x_6) (upd v_players l2.toNatClampNeg x_9) (upd v_against l2.toNatClampNeg x_12) x_14)
def fX6_copyFrom_b2   (v_o1_size : Int32) (v_o1_lives : Nat → Int32) (v_o1_shields : Nat → Int32) (v_o1_effects : Nat → Int32) (v_o1_numbers : Nat → Int32) (v_o1_players : Nat → Int32) (v_o1_against : Nat → Int32) : Nat → Int32 → (Nat → Int32) → (Nat → Int32) → (Nat → Int32) → (Nat → Int32) → (Nat → Int32) → (Nat → Int32) → Int32 → Option (Int32 × (Nat → Int32) × (Nat → Int32) × (Nat → Int32) × (Nat → Int32) × (Nat → Int32) × (Nat → Int32))
  | 0, _, _, _, _, _, _, _, _ => none
  | n + 1, v_size, v_lives, v_shields, v_effects, v_numbers, v_players, v_against, l2 =>
  if 6 ≤ l2 then
  (fX6_copyFrom_b40 v_o1_size v_o1_lives v_o1_shields v_o1_effects v_o1_numbers v_o1_players v_o1_against 70 v_size v_lives v_shields v_effects v_numbers v_players v_against 0)
  else
  (ck (g_in l2 6) <|
  nm (v_o1_lives l2.toNatClampNeg) fun x_3 =>
  ck (g_in l2 6) <|
  ck (g_in l2 6) <|
  nm (v_o1_shields l2.toNatClampNeg) fun x_6 =>
  ck (g_in l2 6) <|
  nm (l2 + 1) fun x_8 =>
  (fX6_copyFrom_b2 v_o1_size v_o1_lives v_o1_shields v_o1_effects v_o1_numbers v_o1_players v_o1_against n) v_size (upd v_lives l2.toNatClampNeg x_3) (upd v_shields l2.toNatClampNeg x_6) v_effects v_numbers v_players v_against x_8)
def fX6_copyFrom  (v_size : Int32) (v_lives : Nat → Int32) (v_shields : Nat → Int32) (v_effects : Nat → Int32) (v_numbers : Nat → Int32) (v_players : Nat → Int32) (v_against : Nat → Int32) (v_o1_size : Int32) (v_o1_lives : Nat → Int32) (v_o1_shields : Nat → Int32) (v_o1_effects : Nat → Int32) (v_o1_numbers : Nat → Int32) (v_o1_players : Nat → Int32) (v_o1_against : Nat → Int32)  : Option (Int32 × (Nat → Int32) × (Nat → Int32) × (Nat → Int32) × (Nat → Int32) × (Nat → Int32) × (Nat → Int32)) :=
  fX6_copyFrom_b2 v_o1_size v_o1_lives v_o1_shields v_o1_effects v_o1_numbers v_o1_players v_o1_against 70 v_size v_lives v_shields v_effects v_numbers v_players v_against 0
def fX6_lay  (v_size : Int32) (v_effects : Nat → Int32) (v_numbers : Nat → Int32) (v_players : Nat → Int32) (v_against : Nat → Int32) (p1 : Int32) (p2 : Int32) (p3 : Int32) (p4 : Int32) : Option (Int32 × (Nat → Int32) × (Nat → Int32) × (Nat → Int32) × (Nat → Int32)) :=
  if v_size < 6 then
  (ck (g_in v_size 6) <|
  ck (g_in v_size 6) <|
  ck (g_in v_size 6) <|
  ck (g_in v_size 6) <|
  nm (v_size + 1) fun x_6 =>
  some (x_6, (upd v_effects v_size.toNatClampNeg p1), (upd v_numbers v_size.toNatClampNeg p2), (upd v_players v_size.toNatClampNeg p3), (upd v_against v_size.toNatClampNeg p4)))
  else
  (some (v_size, v_effects, v_numbers, v_players, v_against))
def fX6_nearestByOther_b4   (v_players : Nat → Int32) : Nat → Int32 → Int32 → Option (Int32)
  | 0, _, _ => none
  | n + 1, l1, l2 =>
  if l2 < 0 then
  (some (-1))
  else
  (ck (g_in l2 6) <|
  ck (g_in l1 6) <|
  if (v_players l2.toNatClampNeg) = (v_players l1.toNatClampNeg) then
  (nm (l2 + (-1)) fun x_5 =>
  (fX6_nearestByOther_b4 v_players n) l1 x_5)
  else
  (some l2))
def fX6_nearestByOther  (v_players : Nat → Int32) (p1 : Int32) : Option (Int32) :=
  nm (p1 - 1) fun x_1 =>
  fX6_nearestByOther_b4 v_players 70 p1 x_1
def fX6_takeOff_b9    : Nat → Int32 → (Nat → Int32) → (Nat → Int32) → (Nat → Int32) → (Nat → Int32) → Int32 → Option (Int32 × (Nat → Int32) × (Nat → Int32) × (Nat → Int32) × (Nat → Int32))
  | 0, _, _, _, _, _, _ => none
  | n + 1, v_size, v_effects, v_numbers, v_players, v_against, l2 =>
  if v_size ≤ l2 then
  (nm (v_size - 1) fun x_2 =>
  some (x_2, v_effects, v_numbers, v_players, v_against))
  else
  (ck (g_in l2 6) <|
  nm (v_effects l2.toNatClampNeg) fun x_4 =>
  ck (g_in (l2 - 1) 6) <|
  ck (g_in l2 6) <|
  nm (v_numbers l2.toNatClampNeg) fun x_7 =>
  ck (g_in (l2 - 1) 6) <|
  ck (g_in l2 6) <|
  nm (v_players l2.toNatClampNeg) fun x_10 =>
  ck (g_in (l2 - 1) 6) <|
  ck (g_in l2 6) <|
  nm (v_against l2.toNatClampNeg) fun x_13 =>
  ck (g_in (l2 - 1) 6) <|
  nm (l2 + 1) fun x_15 =>
  (fX6_takeOff_b9 n) v_size (upd v_effects (l2 - 1).toNatClampNeg x_4) (upd v_numbers (l2 - 1).toNatClampNeg x_7) (upd v_players (l2 - 1).toNatClampNeg x_10) (upd v_against (l2 - 1).toNatClampNeg x_13) x_15)
def fX6_takeOff  (v_size : Int32) (v_effects : Nat → Int32) (v_numbers : Nat → Int32) (v_players : Nat → Int32) (v_against : Nat → Int32) (p1 : Int32) : Option (Int32 × (Nat → Int32) × (Nat → Int32) × (Nat → Int32) × (Nat → Int32)) :=
  if 0 ≤ p1 then
  (nm (p1 + 1) fun x_2 =>
  fX6_takeOff_b9 70 v_size v_effects v_numbers v_players v_against x_2)
  else
  (some (v_size, v_effects, v_numbers, v_players, v_against))
def fX6_makeTwice  (v_numbers : Nat → Int32) (p1 : Int32) : Option (Int32 × (Nat → Int32)) :=
  ck (g_in p1 6) <|
  if (v_numbers p1.toNatClampNeg) ≤ 1073741823 then
  (ck (g_in p1 6) <|
  nm ((v_numbers p1.toNatClampNeg) * 2) fun x_4 =>
  ck (g_in p1 6) <|
  some (1, (upd v_numbers p1.toNatClampNeg x_4)))
  else
  (some (0, v_numbers))
def fX6_turn_b69  (k_2 : (Nat → Int32) → Int32 → Int32 → Option ((Nat → Int32))) (v_size : Int32) (v_effects : Nat → Int32) (l1 : Int32) (l2 : Int32) : Option ((Nat → Int32)) :=
  nm (l2 + 1) fun x_1 =>
  k_2 v_effects l1 x_1
def fX6_turn_b48  (k_2 : (Nat → Int32) → Int32 → Int32 → Option ((Nat → Int32))) (v_size : Int32) (v_effects : Nat → Int32) (l1 : Int32) (l2 : Int32) (l3 : Int32) : Option ((Nat → Int32)) :=
  if l3 = 0 then
  (fX6_turn_b69 k_2 v_size v_effects l1 l2)
  else
  (ck (g_in l2 6) <|
  if (v_effects l2.toNatClampNeg) = 1 then
  (ck (g_in l2 6) <|
  fX6_turn_b69 k_2 v_size (upd v_effects l2.toNatClampNeg 0) l1 l2)
  else
  (fX6_turn_b69 k_2 v_size v_effects l1 l2))
def fX6_turn_b24  (k_2 : (Nat → Int32) → Int32 → Int32 → Option ((Nat → Int32))) (v_size : Int32) (v_effects : Nat → Int32) (l1 : Int32) (l2 : Int32) (s0 : Int32) : Option ((Nat → Int32)) :=
  if s0 = 0 then
  (fX6_turn_b48 k_2 v_size v_effects l1 l2 s0)
  else
  (ck (g_in l2 6) <|
  if (v_effects l2.toNatClampNeg) = 0 then
  (ck (g_in l2 6) <|
  fX6_turn_b69 k_2 v_size (upd v_effects l2.toNatClampNeg 1) l1 l2)
  else
  (fX6_turn_b48 k_2 v_size v_effects l1 l2 s0))
def fX6_turn_b2   (v_size : Int32) : Nat → (Nat → Int32) → Int32 → Int32 → Option ((Nat → Int32))
  | 0, _, _, _ => none
  | n + 1, v_effects, l1, l2 =>
  if v_size ≤ l2 then
  (some v_effects)
  else
  (if ((l1 >>> (l2 &&& 31)) &&& 1) = 1 then
  (fX6_turn_b24 (fX6_turn_b2 v_size n) v_size v_effects l1 l2 1)
  else
  (fX6_turn_b24 (fX6_turn_b2 v_size n) v_size v_effects l1 l2 0))
def fX6_turn  (v_size : Int32) (v_effects : Nat → Int32) (p1 : Int32) : Option ((Nat → Int32)) :=
  fX6_turn_b2 v_size 70 v_effects p1 0
def fX6_touch_b128   (v_effects : Nat → Int32) (v_numbers : Nat → Int32) (v_against : Nat → Int32) (v_lives : Nat → Int32) (v_shields : Nat → Int32) : Option (Int32 × (Nat → Int32) × (Nat → Int32)) :=
  some (0, v_lives, v_shields)
def fX6_touch_b101   (v_effects : Nat → Int32) (v_numbers : Nat → Int32) (v_against : Nat → Int32) (v_lives : Nat → Int32) (v_shields : Nat → Int32) (l2 : Int32) (l4 : Int64) (l6 : Int64) : Option (Int32 × (Nat → Int32) × (Nat → Int32)) :=
  if (lg_cmp l4 (-2147483648)) < 0 then
  (fX6_touch_b128 v_effects v_numbers v_against v_lives v_shields)
  else
  (if 0 < (lg_cmp l4 2147483647) then
  (fX6_touch_b128 v_effects v_numbers v_against v_lives v_shields)
  else
  (if (lg_cmp l6 2147483647) ≤ 0 then
  (nm (l4.toInt32) fun x_4 =>
  ck (g_in l2 6) <|
  nm (l6.toInt32) fun x_6 =>
  ck (g_in l2 6) <|
  some (1, (upd v_lives l2.toNatClampNeg x_4), (upd v_shields l2.toNatClampNeg x_6)))
  else
  (fX6_touch_b128 v_effects v_numbers v_against v_lives v_shields)))
def fX6_touch  (v_lives : Nat → Int32) (v_shields : Nat → Int32) (v_effects : Nat → Int32) (v_numbers : Nat → Int32) (v_against : Nat → Int32) (p1 : Int32) : Option (Int32 × (Nat → Int32) × (Nat → Int32)) :=
  ck (g_in p1 6) <|
  nm (v_against p1.toNatClampNeg) fun x_2 =>
  ck (g_in p1 6) <|
  nm (v_numbers p1.toNatClampNeg) fun x_4 =>
  ck (g_in x_2 6) <|
  nm ((v_lives x_2.toNatClampNeg).toInt64) fun x_6 =>
  ck (g_in x_2 6) <|
  nm ((v_shields x_2.toNatClampNeg).toInt64) fun x_8 =>
  ck (g_in p1 6) <|
  if (v_effects p1.toNatClampNeg) = 0 then
  (ck (g_in x_2 6) <|
  nm (if x_4 < (v_shields x_2.toNatClampNeg) then x_4 else (v_shields x_2.toNatClampNeg)) fun x_16 =>
  nm (x_8 - x_16.toInt64) fun x_17 =>
  nm (x_6 - (x_4 - x_16).toInt64) fun x_18 =>
  fX6_touch_b101 v_effects v_numbers v_against v_lives v_shields x_2 x_18 x_17)
  else
  (ck (g_in p1 6) <|
  if (v_effects p1.toNatClampNeg) = 1 then
  (nm (x_6 + x_4.toInt64) fun x_14 =>
  fX6_touch_b101 v_effects v_numbers v_against v_lives v_shields x_2 x_14 x_8)
  else
  (nm (x_8 + x_4.toInt64) fun x_13 =>
  fX6_touch_b101 v_effects v_numbers v_against v_lives v_shields x_2 x_6 x_13))
def fX6_act_b62    (v_size : Int32) (v_lives : Nat → Int32) (v_shields : Nat → Int32) (v_effects : Nat → Int32) (v_numbers : Nat → Int32) (v_players : Nat → Int32) (v_against : Nat → Int32) (s0 : Int32) : Option (Int32 × Int32 × (Nat → Int32) × (Nat → Int32) × (Nat → Int32) × (Nat → Int32) × (Nat → Int32) × (Nat → Int32)) :=
  some (s0, v_size, v_lives, v_shields, v_effects, v_numbers, v_players, v_against)
def fX6_act_b57    (v_size : Int32) (v_lives : Nat → Int32) (v_shields : Nat → Int32) (v_effects : Nat → Int32) (v_numbers : Nat → Int32) (v_players : Nat → Int32) (v_against : Nat → Int32) : Option (Int32 × Int32 × (Nat → Int32) × (Nat → Int32) × (Nat → Int32) × (Nat → Int32) × (Nat → Int32) × (Nat → Int32)) :=
  fX6_act_b62 v_size v_lives v_shields v_effects v_numbers v_players v_against 1
def fX6_act  (v_size : Int32) (v_lives : Nat → Int32) (v_shields : Nat → Int32) (v_effects : Nat → Int32) (v_numbers : Nat → Int32) (v_players : Nat → Int32) (v_against : Nat → Int32) (p1 : Int32) : Option (Int32 × Int32 × (Nat → Int32) × (Nat → Int32) × (Nat → Int32) × (Nat → Int32) × (Nat → Int32) × (Nat → Int32)) :=
  ck (g_in p1 6) <|
  if (v_effects p1.toNatClampNeg) = 3 then
  (ob (fX6_nearestByOther v_players p1) fun r_3 =>
  ob (fX6_takeOff v_size v_effects v_numbers v_players v_against r_3) fun (w_5, w_6, w_7, w_8, w_9) =>
  some (1, w_5, v_lives, v_shields, w_6, w_7, w_8, w_9))
  else if (v_effects p1.toNatClampNeg) = 4 then
  (if p1 = 0 then
  (fX6_act_b57 v_size v_lives v_shields v_effects v_numbers v_players v_against)
  else
  (ob (fX6_makeTwice v_numbers (p1 - 1)) fun (r_13, w_14) =>
  if r_13 = 0 then
  (fX6_act_b62 v_size v_lives v_shields v_effects w_14 v_players v_against 0)
  else
  (fX6_act_b57 v_size v_lives v_shields v_effects w_14 v_players v_against)))
  else if (v_effects p1.toNatClampNeg) = 5 then
  (ob (fX6_turn v_size v_effects ((1 <<< (p1 &&& 31)) - 1)) fun w_19 =>
  some (1, v_size, v_lives, v_shields, w_19, v_numbers, v_players, v_against))
  else (ob (fX6_touch v_lives v_shields v_effects v_numbers v_against p1) fun (r_21, w_22, w_23) =>
  some (r_21, v_size, w_22, w_23, v_effects, v_numbers, v_players, v_against))
def fX6_doTop_b19    (v_size : Int32) (v_lives : Nat → Int32) (v_shields : Nat → Int32) (v_effects : Nat → Int32) (v_numbers : Nat → Int32) (v_players : Nat → Int32) (v_against : Nat → Int32) : Option (Int32 × Int32 × (Nat → Int32) × (Nat → Int32) × (Nat → Int32) × (Nat → Int32) × (Nat → Int32) × (Nat → Int32)) :=
  some (0, v_size, v_lives, v_shields, v_effects, v_numbers, v_players, v_against)
def fX6_doTop  (v_size : Int32) (v_lives : Nat → Int32) (v_shields : Nat → Int32) (v_effects : Nat → Int32) (v_numbers : Nat → Int32) (v_players : Nat → Int32) (v_against : Nat → Int32)  : Option (Int32 × Int32 × (Nat → Int32) × (Nat → Int32) × (Nat → Int32) × (Nat → Int32) × (Nat → Int32) × (Nat → Int32)) :=
  nm (v_size - 1) fun x_1 =>
  if x_1 < 0 then
  (fX6_doTop_b19 v_size v_lives v_shields v_effects v_numbers v_players v_against)
  else
  (ob (fX6_act v_size v_lives v_shields v_effects v_numbers v_players v_against x_1) fun (r_3, w_4, w_5, w_6, w_7, w_8, w_9, w_10) =>
  if r_3 = 0 then
  (fX6_doTop_b19 w_4 w_5 w_6 w_7 w_8 w_9 w_10)
  else
  (nm (w_4 - 1) fun x_14 =>
  some (1, x_14, w_5, w_6, w_7, w_8, w_9, w_10)))
