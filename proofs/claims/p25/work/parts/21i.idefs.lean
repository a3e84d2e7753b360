/-! printed by init.py: what constructors make -/
def fX6_init : Option (Int32 × (Nat → Int32) × (Nat → Int32) × (Nat → Int32) × (Nat → Int32) × (Nat → Int32) × (Nat → Int32)) :=
  ob (fX6_clear 0 (fun _ => 0) (fun _ => 0)) fun (w_7, w_8, w_9) =>
  some (w_7, w_8, w_9, (fun _ => 0), (fun _ => 0), (fun _ => 0), (fun _ => 0))
def fX1_init : Option (Int32 × (Nat → Int32) × Int32 × (Nat → Int32) × (Nat → Int32) × (Nat → Int32) × (Nat → Int32) × (Nat → Int32) × (Nat → Int32)) :=
  ob fX6_init fun (w_3, w_4, w_5, w_6, w_7, w_8, w_9) =>
  some (0, (fun _ => 0), w_3, w_4, w_5, w_6, w_7, w_8, w_9)
def fX2_init : Option (Int32 × (Nat → Int32) × (Nat → Int32) × (Nat → Int32)) :=
  some (0, (fun _ => 0), (fun _ => 0), (fun _ => 0))
def fX3_init_b38 : Nat → Int32 → (Nat → Int32) → (Nat → Int32) → (Nat → Int32) → (Nat → Int32) → Int32 → Option (Int32 × (Nat → Int32) × (Nat → Int32) × (Nat → Int32) × (Nat → Int32))
  | 0, _, _, _, _, _, _ => none
  | n + 1, v_length, v_strengths, v_met, v_row, v_others, l1 =>
  if 6 ≤ l1 then
  (some (v_length, v_strengths, v_met, v_row, v_others))
  else
  (ck (g_in l1 6) <|
  nm (l1 + 1) fun x_3 =>
  (fX3_init_b38 n) v_length (upd v_strengths l1.toNatClampNeg 1000) v_met v_row v_others x_3)
def fX3_init : Option (Int32 × (Nat → Int32) × (Nat → Int32) × (Nat → Int32) × (Nat → Int32)) :=
  fX3_init_b38 70 0 (fun _ => 0) (fun _ => 0) (fun _ => 0) (fun _ => 0) 0
def fX4_init : Option (Int32 × Int32 × Int32 × Int32 × Int32 × (Nat → Int32) × (Nat → Int32) × (Nat → Int32) × (Nat → Int32) × (Nat → Int32) × (Nat → Int32)) :=
  ob fX6_init fun (w_2, w_3, w_4, w_5, w_6, w_7, w_8) =>
  some (0, 0, 0, 0, w_2, w_3, w_4, w_5, w_6, w_7, w_8)
def fX5_init : Option ((Nat → Nat → Int32) × (Nat → Nat → Int32) × (Nat → Int32)) :=
  some ((fun _ _ => 0), (fun _ _ => 0), (fun _ => 0))
def fX0_init : Option (Int32 × Int32 × Int32 × Int32 × (Nat → Nat → Int32)) :=
  some (0, 0, 0, 0, (fun _ _ => 0))
def fX7_init_b30 : Nat → Int32 → (Nat → Int32) → (Nat → Int32) → (Nat → Int32) → Int32 → Option (Int32 × (Nat → Int32) × (Nat → Int32) × (Nat → Int32))
  | 0, _, _, _, _, _ => none
  | n + 1, v_givers, v_gives, v_wants, v_row, l1 =>
  if 6 ≤ l1 then
  (some (v_givers, v_gives, v_wants, v_row))
  else
  (ck (g_in l1 6) <|
  ck (g_in l1 6) <|
  nm (l1 + 1) fun x_4 =>
  (fX7_init_b30 n) v_givers (upd v_gives l1.toNatClampNeg (-1)) (upd v_wants l1.toNatClampNeg (-1)) v_row x_4)
def fX7_init : Option (Int32 × (Nat → Int32) × (Nat → Int32) × (Nat → Int32)) :=
  fX7_init_b30 70 0 (fun _ => 0) (fun _ => 0) (fun _ => 0) 0
def fX8_init : Option (Int32 × Int32 × (Nat → Int32) × (Nat → Int32) × (Nat → Int32) × (Nat → Nat → Int32) × (Nat → Nat → Int32) × (Nat → Int32) × Int32 × (Nat → Int32) × (Nat → Int32) × (Nat → Int32) × (Nat → Int32) × (Nat → Int32) × (Nat → Int32) × Int32 × Int32 × Int32 × Int32 × Int32 × (Nat → Int32) × (Nat → Int32) × (Nat → Int32) × (Nat → Int32) × (Nat → Int32) × (Nat → Int32) × Int32 × (Nat → Int32) × Int32 × (Nat → Int32) × (Nat → Int32) × (Nat → Int32) × (Nat → Int32) × (Nat → Int32) × (Nat → Int32) × Int32 × Int32 × Int32 × Int32 × (Nat → Nat → Int32) × Int32 × (Nat → Int32) × (Nat → Int32) × (Nat → Int32) × Int32 × (Nat → Int32) × (Nat → Int32) × (Nat → Int32) × (Nat → Int32)) :=
  ob fX2_init fun (w0_0, w0_1, w0_2, w0_3) =>
  ob fX5_init fun (w1_0, w1_1, w1_2) =>
  ob fX6_init fun (w2_0, w2_1, w2_2, w2_3, w2_4, w2_5, w2_6) =>
  ob fX4_init fun (w3_0, w3_1, w3_2, w3_3, w3_4, w3_5, w3_6, w3_7, w3_8, w3_9, w3_10) =>
  ob fX1_init fun (w4_0, w4_1, w4_2, w4_3, w4_4, w4_5, w4_6, w4_7, w4_8) =>
  ob fX0_init fun (w5_0, w5_1, w5_2, w5_3, w5_4) =>
  ob fX7_init fun (w6_0, w6_1, w6_2, w6_3) =>
  ob fX3_init fun (w7_0, w7_1, w7_2, w7_3, w7_4) =>
  some (0, w0_0, w0_1, w0_2, w0_3, w1_0, w1_1, w1_2, w2_0, w2_1, w2_2, w2_3, w2_4, w2_5, w2_6, w3_0, w3_1, w3_2, w3_3, w3_4, w3_5, w3_6, w3_7, w3_8, w3_9, w3_10, w4_0, w4_1, w4_2, w4_3, w4_4, w4_5, w4_6, w4_7, w4_8, w5_0, w5_1, w5_2, w5_3, w5_4, w6_0, w6_1, w6_2, w6_3, w7_0, w7_1, w7_2, w7_3, w7_4)
def fX9_init : Option (Int32 × Int32 × Int32 × Int32 × Int32 × Int32 × Int32 × Int32 × Int32 × Int32 × Int32 × (Nat → Int32) × (Nat → Int32) × (Nat → Int32) × (Nat → Int32) × (Nat → Int32) × (Nat → Int32) × (Nat → Int32) × (Nat → Int32) × (Nat → Int32) × (Nat → Int32) × (Nat → Int32) × (Nat → Int32) × (Nat → Int32) × (Nat → Int32) × (Nat → Int32) × (Nat → Int32) × (Nat → Int32) × (Nat → Int32) × (Nat → Int32) × (Nat → Int32) × (Nat → Int64) × (Nat → Int32) × (Nat → Int64) × (Nat → Int64) × (Nat → Int32) × (Nat → Int32)) :=
  ck (g_in 0 6) <|
  ck (g_in 1 6) <|
  ck (g_in 2 6) <|
  ck (g_in 3 6) <|
  ck (g_in 4 6) <|
  ck (g_in 5 6) <|
  ck (g_in 0 6) <|
  ck (g_in 1 6) <|
  ck (g_in 2 6) <|
  ck (g_in 3 6) <|
  ck (g_in 4 6) <|
  ck (g_in 5 6) <|
  ck (g_in 0 6) <|
  ck (g_in 1 6) <|
  ck (g_in 2 6) <|
  ck (g_in 3 6) <|
  ck (g_in 4 6) <|
  ck (g_in 5 6) <|
  some (0, 0, 0, 0, 0, 0, 0, (-1), 0, 0, 0, (fun _ => 0), (fun _ => 0), (fun _ => 0), (fun _ => 0), (upd (upd (upd (upd (upd (upd (fun _ => 0) (0 : Int32).toNatClampNeg 20) (1 : Int32).toNatClampNeg 20) (2 : Int32).toNatClampNeg 20) (3 : Int32).toNatClampNeg 20) (4 : Int32).toNatClampNeg 20) (5 : Int32).toNatClampNeg 20), (fun _ => 0), (upd (upd (upd (upd (upd (upd (fun _ => 0) (0 : Int32).toNatClampNeg 1000) (1 : Int32).toNatClampNeg 1000) (2 : Int32).toNatClampNeg 1000) (3 : Int32).toNatClampNeg 1000) (4 : Int32).toNatClampNeg 1000) (5 : Int32).toNatClampNeg 1000), (fun _ => 0), (fun _ => 0), (fun _ => 0), (fun _ => 0), (fun _ => 0), (fun _ => 0), (fun _ => 0), (fun _ => 0), (fun _ => 0), (upd (upd (upd (upd (upd (upd (fun _ => 0) (0 : Int32).toNatClampNeg (-1)) (1 : Int32).toNatClampNeg (-1)) (2 : Int32).toNatClampNeg (-1)) (3 : Int32).toNatClampNeg (-1)) (4 : Int32).toNatClampNeg (-1)) (5 : Int32).toNatClampNeg (-1)), (fun _ => 0), (fun _ => 0), (fun _ => 0), (fun _ => 0), (fun _ => 0), (fun _ => 0), (fun _ => 0), (fun _ => 0), (fun _ => 0))
