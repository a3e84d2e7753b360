/-! printed by init.py: what constructors make -/
def fX6_init : Option (Int32 × (Nat → Int32) × (Nat → Int32) × (Nat → Int32) × (Nat → Int32) × (Nat → Int32) × (Nat → Int32)) :=
  ob (fX6_clear 0 (fun _ => 0) (fun _ => 0)) fun (w_7, w_8, w_9) =>
  some (w_7, w_8, w_9, (fun _ => 0), (fun _ => 0), (fun _ => 0), (fun _ => 0))
def fX1_init : Option (Int32 × (Nat → Int32) × Int32 × (Nat → Int32) × (Nat → Int32) × (Nat → Int32) × (Nat → Int32) × (Nat → Int32) × (Nat → Int32)) :=
  ob fX6_init fun (w_3, w_4, w_5, w_6, w_7, w_8, w_9) =>
  some (0, (fun _ => 0), w_3, w_4, w_5, w_6, w_7, w_8, w_9)
def fX2_init : Option (Int32 × (Nat → Int32) × (Nat → Int32) × (Nat → Int32)) :=
  some (0, (fun _ => 0), (fun _ => 0), (fun _ => 0))
def fX3_init_b38 : Nat → Int32 → (Nat → Int32) → (Nat → Int32) → (Nat → Int32) → (Nat → Int32) → Int32 → Option (Int32 × (Nat → Int32) × (Nat → Int32) × (Nat → Int32) × (Nat → Int32))
  | 0, _, _, _, _, _, _ => none
  | n + 1, v_length, v_strengths, v_met, v_row, v_others, l1 =>
  if 6 ≤ l1 then
  (some (v_length, v_strengths, v_met, v_row, v_others))
  else
  (ck (g_in l1 6) <|
  nm (l1 + 1) fun x_3 =>
  (fX3_init_b38 n) v_length (upd v_strengths l1.toNatClampNeg 1000) v_met v_row v_others x_3)
def fX3_init : Option (Int32 × (Nat → Int32) × (Nat → Int32) × (Nat → Int32) × (Nat → Int32)) :=
  fX3_init_b38 70 0 (fun _ => 0) (fun _ => 0) (fun _ => 0) (fun _ => 0) 0
def fX4_init : Option (Int32 × Int32 × Int32 × Int32 × Int32 × (Nat → Int32) × (Nat → Int32) × (Nat → Int32) × (Nat → Int32) × (Nat → Int32) × (Nat → Int32)) :=
  ob fX6_init fun (w_2, w_3, w_4, w_5, w_6, w_7, w_8) =>
  some (0, 0, 0, 0, w_2, w_3, w_4, w_5, w_6, w_7, w_8)
def fX5_init : Option ((Nat → Nat → Int32) × (Nat → Nat → Int32) × (Nat → Int32)) :=
  some ((fun _ _ => 0), (fun _ _ => 0), (fun _ => 0))
def fX0_init : Option (Int32 × Int32 × Int32 × Int32 × (Nat → Nat → Int32)) :=
  some (0, 0, 0, 0, (fun _ _ => 0))
def fX7_init_b30 : Nat → Int32 → (Nat → Int32) → (Nat → Int32) → (Nat → Int32) → Int32 → Option (Int32 × (Nat → Int32) × (Nat → Int32) × (Nat → Int32))
  | 0, _, _, _, _, _ => none
  | n + 1, v_givers, v_gives, v_wants, v_row, l1 =>
  if 6 ≤ l1 then
  (some (v_givers, v_gives, v_wants, v_row))
  else
  (ck (g_in l1 6) <|
  ck (g_in l1 6) <|
  nm (l1 + 1) fun x_4 =>
  (fX7_init_b30 n) v_givers (upd v_gives l1.toNatClampNeg (-1)) (upd v_wants l1.toNatClampNeg (-1)) v_row x_4)
def fX7_init : Option (Int32 × (Nat → Int32) × (Nat → Int32) × (Nat → Int32)) :=
  fX7_init_b30 70 0 (fun _ => 0) (fun _ => 0) (fun _ => 0) 0
def fX8_init : Option (Int32 × Int32 × (Nat → Int32) × (Nat → Int32) × (Nat → Int32) × (Nat → Nat → Int32) × (Nat → Nat → Int32) × (Nat → Int32) × Int32 × (Nat → Int32) × (Nat → Int32) × (Nat → Int32) × (Nat → Int32) × (Nat → Int32) × (Nat → Int32) × Int32 × Int32 × Int32 × Int32 × Int32 × (Nat → Int32) × (Nat → Int32) × (Nat → Int32) × (Nat → Int32) × (Nat → Int32) × (Nat → Int32) × Int32 × (Nat → Int32) × Int32 × (Nat → Int32) × (Nat → Int32) × (Nat → Int32) × (Nat → Int32) × (Nat → Int32) × (Nat → Int32) × Int32 × Int32 × Int32 × Int32 × (Nat → Nat → Int32) × Int32 × (Nat → Int32) × (Nat → Int32) × (Nat → Int32) × Int32 × (Nat → Int32) × (Nat → Int32) × (Nat → Int32) × (Nat → Int32)) :=
  ob fX2_init fun (w_2, w_3, w_4, w_5) =>
  ob fX5_init fun (w_11, w_12, w_13) =>
  ob fX6_init fun (w_21, w_22, w_23, w_24, w_25, w_26, w_27) =>
  ob fX4_init fun (w_36, w_37, w_38, w_39, w_40, w_41, w_42, w_43, w_44, w_45, w_46) =>
  ob fX1_init fun (w_56, w_57, w_58, w_59, w_60, w_61, w_62, w_63, w_64) =>
  ob fX0_init fun (w_75, w_76, w_77, w_78, w_79) =>
  ob fX7_init fun (w_84, w_85, w_86, w_87) =>
  ob fX3_init fun (w_93, w_94, w_95, w_96, w_97) =>
  some (0, w_2, w_3, w_4, w_5, w_11, w_12, w_13, w_21, w_22, w_23, w_24, w_25, w_26, w_27, w_36, w_37, w_38, w_39, w_40, w_41, w_42, w_43, w_44, w_45, w_46, w_56, w_57, w_58, w_59, w_60, w_61, w_62, w_63, w_64, w_75, w_76, w_77, w_78, w_79, w_84, w_85, w_86, w_87, w_93, w_94, w_95, w_96, w_97)
def fX9_init : Option (Int32 × Int32 × Int32 × Int32 × Int32 × Int32 × Int32 × Int32 × Int32 × Int32 × Int32 × (Nat → Int32) × (Nat → Int32) × (Nat → Int32) × (Nat → Int32) × (Nat → Int32) × (Nat → Int32) × (Nat → Int32) × (Nat → Int32) × (Nat → Int32) × (Nat → Int32) × (Nat → Int32) × (Nat → Int32) × (Nat → Int32) × (Nat → Int32) × (Nat → Int32) × (Nat → Int32) × (Nat → Int32) × (Nat → Int32) × (Nat → Int32) × (Nat → Int32) × (Nat → Int64) × (Nat → Int32) × (Nat → Int64) × (Nat → Int64) × (Nat → Int32) × (Nat → Int32)) :=
  ck (g_in 0 6) <|
  ck (g_in 1 6) <|
  ck (g_in 2 6) <|
  ck (g_in 3 6) <|
  ck (g_in 4 6) <|
  ck (g_in 5 6) <|
  ck (g_in 0 6) <|
  ck (g_in 1 6) <|
  ck (g_in 2 6) <|
  ck (g_in 3 6) <|
  ck (g_in 4 6) <|
  ck (g_in 5 6) <|
  ck (g_in 0 6) <|
  ck (g_in 1 6) <|
  ck (g_in 2 6) <|
  ck (g_in 3 6) <|
  ck (g_in 4 6) <|
  ck (g_in 5 6) <|
  some (0, 0, 0, 0, 0, 0, 0, (-1), 0, 0, 0, (fun _ => 0), (fun _ => 0), (fun _ => 0), (fun _ => 0), (upd (upd (upd (upd (upd (upd (fun _ => 0) (0 : Int32).toNatClampNeg 20) (1 : Int32).toNatClampNeg 20) (2 : Int32).toNatClampNeg 20) (3 : Int32).toNatClampNeg 20) (4 : Int32).toNatClampNeg 20) (5 : Int32).toNatClampNeg 20), (fun _ => 0), (upd (upd (upd (upd (upd (upd (fun _ => 0) (0 : Int32).toNatClampNeg 1000) (1 : Int32).toNatClampNeg 1000) (2 : Int32).toNatClampNeg 1000) (3 : Int32).toNatClampNeg 1000) (4 : Int32).toNatClampNeg 1000) (5 : Int32).toNatClampNeg 1000), (fun _ => 0), (fun _ => 0), (fun _ => 0), (fun _ => 0), (fun _ => 0), (fun _ => 0), (fun _ => 0), (fun _ => 0), (fun _ => 0), (upd (upd (upd (upd (upd (upd (fun _ => 0) (0 : Int32).toNatClampNeg (-1)) (1 : Int32).toNatClampNeg (-1)) (2 : Int32).toNatClampNeg (-1)) (3 : Int32).toNatClampNeg (-1)) (4 : Int32).toNatClampNeg (-1)) (5 : Int32).toNatClampNeg (-1)), (fun _ => 0), (fun _ => 0), (fun _ => 0), (fun _ => 0), (fun _ => 0), (fun _ => 0), (fun _ => 0), (fun _ => 0), (fun _ => 0))
