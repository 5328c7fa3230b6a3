def f_M_thrown (S : gS) (I : gMI) (J : gMJ) (p0 : Nat) : Option (Int32) :=
  gd (S.1 p0 = 9) <|
  some ((I p0 0))
def f_M_isLogger_b15 (S : gS) (I : gMI) (J : gMJ) (s0 : Int32) : Option (Int32) :=
  gd (s0 = 0 ∨ s0 = 1) <|
  some (s0)
def f_M_isLogger_b14 (S : gS) (I : gMI) (J : gMJ)  : Option (Int32) :=
  f_M_isLogger_b15 S I J (0 : Int32)
def f_M_isLogger (S : gS) (I : gMI) (J : gMJ) (p0 : Int32) : Option (Int32) :=
  if p0 < 0 then
    f_M_isLogger_b14 S I J
  else
    if (8 : Int32) ≤ p0 then
      f_M_isLogger_b14 S I J
    else
      f_M_isLogger_b15 S I J (1 : Int32)
def f_M_placeOf_b29 (S : gS) (I : gMI) (J : gMJ) (k4 : Nat → Int32 → Int32 → Int32 → Option (Int32)) (s0 : Int32) (l0 : Nat) (l1 : Int32) (l3 : Int32) : Option (Int32) :=
  bnd (l3 + (1 : Int32)) fun v1 =>
  k4 l0 l1 s0 v1
def f_M_placeOf_b28 (S : gS) (I : gMI) (J : gMJ) (k4 : Nat → Int32 → Int32 → Int32 → Option (Int32)) (l0 : Nat) (l1 : Int32) (l2 : Int32) (l3 : Int32) : Option (Int32) :=
  f_M_placeOf_b29 S I J k4 l2 l0 l1 l3
def f_M_placeOf_b4 (S : gS) (I : gMI) (J : gMJ) : Nat → Nat → Int32 → Int32 → Int32 → Option (Int32)
  | 0, _, _, _, _ => none
  | n + 1, l0, l1, l2, l3 =>
    if (8 : Int32) ≤ l3 then
      some (l2)
    else
      if l1 ≤ 0 then
        f_M_placeOf_b28 S I J (f_M_placeOf_b4 S I J n) l0 l1 l2 l3
      else
        gd (S.1 l0 = 9) <|
        Option.bind (S.2.2 l0 5) fun r4 =>
        gd (S.1 r4 = 21) <|
        gd (¬ (l3 < 0 ∨ S.2.1 r4 ≤ l3.toNatClampNeg)) <|
        if (I r4 l3.toNatClampNeg) = l1 then
          f_M_placeOf_b29 S I J (f_M_placeOf_b4 S I J n) l3 l0 l1 l3
        else
          f_M_placeOf_b28 S I J (f_M_placeOf_b4 S I J n) l0 l1 l2 l3
def f_M_placeOf (S : gS) (I : gMI) (J : gMJ) (p0 : Nat) (p1 : Int32) : Option (Int32) :=
  f_M_placeOf_b4 S I J gFuel p0 p1 (-1 : Int32) (0 : Int32)
def f_M_record_b38 (S : gS) (J : gMJ) (I : gMI) (s0 : Int32) (s1 : Nat) (l0 : Nat) (l1 : Int32) (l2 : Int32) : Option (Int32 × gMI) :=
  gd (S.1 s1 = 9) <|
  bnd (upI I s1 0 s0) fun I2 =>
  gd (S.1 l0 = 9) <|
  if (I2 l0 0) ≤ 0 then
    Option.bind (S.2.2 l0 3) fun r5 =>
    Option.bind (S.2.2 l0 2) fun r6 =>
    gd (S.1 r6 = 21) <|
    gd (¬ (l1 < 0 ∨ S.2.1 r6 ≤ l1.toNatClampNeg)) <|
    gd (S.1 r5 = 21) <|
    gd (¬ ((((500 : Int32) * l1) + (I2 r6 l1.toNatClampNeg)) < 0 ∨ S.2.1 r5 ≤ (((500 : Int32) * l1) + (I2 r6 l1.toNatClampNeg)).toNatClampNeg)) <|
    bnd (upI I2 r5 (((500 : Int32) * l1) + (I2 r6 l1.toNatClampNeg)).toNatClampNeg l2) fun I11 =>
    bnd (upI I11 r6 l1.toNatClampNeg ((I11 r6 l1.toNatClampNeg) + (1 : Int32))) fun I12 =>
    some ((I12 r6 l1.toNatClampNeg), I12)
  else
    some ((0 : Int32), I2)
def f_M_record_b33 (S : gS) (J : gMJ) (I : gMI) (s0 : Nat) (l0 : Nat) (l1 : Int32) (l2 : Int32) : Option (Int32 × gMI) :=
  f_M_record_b38 S J I (2 : Int32) s0 l0 l1 l2
def f_M_record (S : gS) (I : gMI) (J : gMJ) (p0 : Nat) (p1 : Int32) (p2 : Int32) : Option (Int32 × gMI) :=
  Option.bind (f_M_isLogger S I J p1) fun x1 =>
  if x1 = 0 then
    f_M_record_b38 S J I (1 : Int32) p0 p0 p1 p2
  else
    gd (S.1 p0 = 9) <|
    Option.bind (S.2.2 p0 1) fun r5 =>
    gd (S.1 r5 = 22) <|
    gd (¬ (p1 < 0 ∨ S.2.1 r5 ≤ p1.toNatClampNeg)) <|
    if (I r5 p1.toNatClampNeg) = 0 then
      Option.bind (S.2.2 p0 2) fun r9 =>
      gd (S.1 r9 = 21) <|
      gd (¬ (p1 < 0 ∨ S.2.1 r9 ≤ p1.toNatClampNeg)) <|
      if (I r9 p1.toNatClampNeg) = (500 : Int32) then
        f_M_record_b33 S J I p0 p0 p1 p2
      else
        f_M_record_b38 S J I (0 : Int32) p0 p0 p1 p2
    else
      f_M_record_b33 S J I p0 p0 p1 p2
def f_M_fill_b70 (S : gS) (J : gMJ) : Nat → gMI → Nat → Int32 → Int32 → Int32 → Int32 → Int32 → Int32 → Option (Int32 × gMI)
  | 0, _, _, _, _, _, _, _, _ => none
  | n + 1, I, l0, l1, l2, l3, l4, l5, l6 =>
    if l2 ≤ l6 then
      gd (S.1 l0 = 9) <|
      Option.bind (S.2.2 l0 2) fun r3 =>
      gd (S.1 r3 = 21) <|
      gd (¬ (l1 < 0 ∨ S.2.1 r3 ≤ l1.toNatClampNeg)) <|
      bnd (upI I r3 l1.toNatClampNeg ((I r3 l1.toNatClampNeg) + l2)) fun I6 =>
      some ((I6 r3 l1.toNatClampNeg), I6)
    else
      gd (S.1 l0 = 9) <|
      Option.bind (S.2.2 l0 3) fun r8 =>
      Option.bind (S.2.2 l0 2) fun r9 =>
      gd (S.1 r9 = 21) <|
      gd (¬ (l1 < 0 ∨ S.2.1 r9 ≤ l1.toNatClampNeg)) <|
      gd (S.1 r8 = 21) <|
      gd (¬ (((((500 : Int32) * l1) + (I r9 l1.toNatClampNeg)) + l6) < 0 ∨ S.2.1 r8 ≤ ((((500 : Int32) * l1) + (I r9 l1.toNatClampNeg)) + l6).toNatClampNeg)) <|
      bnd (upI I r8 ((((500 : Int32) * l1) + (I r9 l1.toNatClampNeg)) + l6).toNatClampNeg ((l3 + (l4 * l6)) ^^^ ((l6 * (40503 : Int32)) &&& l5))) fun I14 =>
      bnd (l6 + (1 : Int32)) fun v15 =>
      f_M_fill_b70 S J n I14 l0 l1 l2 l3 l4 l5 v15
def f_M_fill_b55 (S : gS) (J : gMJ) (I : gMI) (s0 : Int32) (s1 : Nat) (l0 : Nat) (l1 : Int32) (l2 : Int32) (l3 : Int32) (l4 : Int32) (l5 : Int32) : Option (Int32 × gMI) :=
  gd (S.1 s1 = 9) <|
  bnd (upI I s1 0 s0) fun I2 =>
  gd (S.1 l0 = 9) <|
  if (I2 l0 0) ≤ 0 then
    f_M_fill_b70 S J gFuel I2 l0 l1 l2 l3 l4 l5 (0 : Int32)
  else
    some ((0 : Int32), I2)
def f_M_fill_b23 (S : gS) (J : gMJ) (I : gMI) (s0 : Nat) (l0 : Nat) (l1 : Int32) (l2 : Int32) (l3 : Int32) (l4 : Int32) (l5 : Int32) : Option (Int32 × gMI) :=
  f_M_fill_b55 S J I (2 : Int32) s0 l0 l1 l2 l3 l4 l5
def f_M_fill_b50 (S : gS) (J : gMJ) (I : gMI) (s0 : Nat) (l0 : Nat) (l1 : Int32) (l2 : Int32) (l3 : Int32) (l4 : Int32) (l5 : Int32) : Option (Int32 × gMI) :=
  f_M_fill_b55 S J I (3 : Int32) s0 l0 l1 l2 l3 l4 l5
def f_M_fill (S : gS) (I : gMI) (J : gMJ) (p0 : Nat) (p1 : Int32) (p2 : Int32) (p3 : Int32) (p4 : Int32) (p5 : Int32) : Option (Int32 × gMI) :=
  Option.bind (f_M_isLogger S I J p1) fun x1 =>
  if x1 = 0 then
    f_M_fill_b55 S J I (1 : Int32) p0 p0 p1 p2 p3 p4 p5
  else
    if p2 < 0 then
      f_M_fill_b23 S J I p0 p0 p1 p2 p3 p4 p5
    else
      if p2 ≤ (500 : Int32) then
        gd (S.1 p0 = 9) <|
        Option.bind (S.2.2 p0 1) fun r7 =>
        gd (S.1 r7 = 22) <|
        gd (¬ (p1 < 0 ∨ S.2.1 r7 ≤ p1.toNatClampNeg)) <|
        if (I r7 p1.toNatClampNeg) = 0 then
          Option.bind (S.2.2 p0 2) fun r11 =>
          gd (S.1 r11 = 21) <|
          gd (¬ (p1 < 0 ∨ S.2.1 r11 ≤ p1.toNatClampNeg)) <|
          if ((I r11 p1.toNatClampNeg) + p2) ≤ (500 : Int32) then
            f_M_fill_b55 S J I (0 : Int32) p0 p0 p1 p2 p3 p4 p5
          else
            f_M_fill_b50 S J I p0 p0 p1 p2 p3 p4 p5
        else
          f_M_fill_b50 S J I p0 p0 p1 p2 p3 p4 p5
      else
        f_M_fill_b23 S J I p0 p0 p1 p2 p3 p4 p5
def f_M_size_b33 (S : gS) (J : gMJ) (I : gMI) (s0 : Int32) : Option (Int32 × gMI) :=
  some (s0, I)
def f_M_size_b13 (S : gS) (J : gMJ) (I : gMI) (s0 : Int32) (s1 : Nat) (l0 : Nat) (l1 : Int32) : Option (Int32 × gMI) :=
  gd (S.1 s1 = 9) <|
  bnd (upI I s1 0 s0) fun I2 =>
  gd (S.1 l0 = 9) <|
  if (I2 l0 0) ≤ 0 then
    Option.bind (S.2.2 l0 2) fun r5 =>
    gd (S.1 r5 = 21) <|
    gd (¬ (l1 < 0 ∨ S.2.1 r5 ≤ l1.toNatClampNeg)) <|
    f_M_size_b33 S J I2 (I2 r5 l1.toNatClampNeg)
  else
    f_M_size_b33 S J I2 (0 : Int32)
def f_M_size (S : gS) (I : gMI) (J : gMJ) (p0 : Nat) (p1 : Int32) : Option (Int32 × gMI) :=
  Option.bind (f_M_isLogger S I J p1) fun x1 =>
  if x1 = 0 then
    f_M_size_b13 S J I (1 : Int32) p0 p0 p1
  else
    f_M_size_b13 S J I (0 : Int32) p0 p0 p1
def f_M_countOf_b61 (S : gS) (I : gMI) (J : gMJ) (k6 : Nat → Int32 → Int32 → Int64 → Int64 → Int32 → Int32 → Option (Int32)) (s0 : Int32) (s1 : Int32) (l0 : Nat) (l1 : Int32) (l2 : Int32) (l3 : Int64) (l5 : Int64) (l8 : Int32) : Option (Int32) :=
  bnd (s1 + s0) fun v1 =>
  bnd (l8 + (1 : Int32)) fun v2 =>
  k6 l0 l1 l2 l3 l5 v1 v2
def f_M_countOf_b60 (S : gS) (I : gMI) (J : gMJ) (k6 : Nat → Int32 → Int32 → Int64 → Int64 → Int32 → Int32 → Option (Int32)) (s0 : Int32) (l0 : Nat) (l1 : Int32) (l2 : Int32) (l3 : Int64) (l5 : Int64) (l8 : Int32) : Option (Int32) :=
  f_M_countOf_b61 S I J k6 (0 : Int32) s0 l0 l1 l2 l3 l5 l8
def f_M_countOf_b6 (S : gS) (I : gMI) (J : gMJ) : Nat → Nat → Int32 → Int32 → Int64 → Int64 → Int32 → Int32 → Option (Int32)
  | 0, _, _, _, _, _, _, _ => none
  | n + 1, l0, l1, l2, l3, l5, l7, l8 =>
    gd (S.1 l0 = 9) <|
    Option.bind (S.2.2 l0 17) fun r2 =>
    gd (S.1 r2 = 21) <|
    gd (¬ ((((8 : Int32) * l2) + l1) < 0 ∨ S.2.1 r2 ≤ (((8 : Int32) * l2) + l1).toNatClampNeg)) <|
    if (I r2 (((8 : Int32) * l2) + l1).toNatClampNeg) ≤ l8 then
      some (l7)
    else
      Option.bind (S.2.2 l0 3) fun r6 =>
      gd (S.1 r6 = 21) <|
      gd (¬ ((((500 : Int32) * l1) + l8) < 0 ∨ S.2.1 r6 ≤ (((500 : Int32) * l1) + l8).toNatClampNeg)) <|
      bnd (I r6 (((500 : Int32) * l1) + l8).toNatClampNeg) fun v9 =>
      if (lg_cmp v9.toInt64 l3) < 0 then
        f_M_countOf_b60 S I J (f_M_countOf_b6 S I J n) l7 l0 l1 l2 l3 l5 l8
      else
        if 0 < (lg_cmp v9.toInt64 l5) then
          f_M_countOf_b60 S I J (f_M_countOf_b6 S I J n) l7 l0 l1 l2 l3 l5 l8
        else
          f_M_countOf_b61 S I J (f_M_countOf_b6 S I J n) (1 : Int32) l7 l0 l1 l2 l3 l5 l8
def f_M_countOf (S : gS) (I : gMI) (J : gMJ) (p0 : Nat) (p1 : Int32) (p2 : Int32) (p3 : Int64) (p5 : Int64) : Option (Int32) :=
  f_M_countOf_b6 S I J gFuel p0 p1 p2 p3 p5 (0 : Int32) (0 : Int32)
def f_M_sumOf_b63 (S : gS) (I : gMI) (J : gMJ) (k6 : Nat → Int32 → Int32 → Int64 → Int64 → Int64 → Int32 → Option (Int64)) (s0 : Int64) (s1 : Int64) (l0 : Nat) (l1 : Int32) (l2 : Int32) (l3 : Int64) (l5 : Int64) (l9 : Int32) : Option (Int64) :=
  bnd (s1 + s0) fun v1 =>
  bnd (l9 + (1 : Int32)) fun v2 =>
  k6 l0 l1 l2 l3 l5 v1 v2
def f_M_sumOf_b62 (S : gS) (I : gMI) (J : gMJ) (k6 : Nat → Int32 → Int32 → Int64 → Int64 → Int64 → Int32 → Option (Int64)) (s0 : Int64) (l0 : Nat) (l1 : Int32) (l2 : Int32) (l3 : Int64) (l5 : Int64) (l9 : Int32) : Option (Int64) :=
  f_M_sumOf_b63 S I J k6 (0 : Int64) s0 l0 l1 l2 l3 l5 l9
def f_M_sumOf_b6 (S : gS) (I : gMI) (J : gMJ) : Nat → Nat → Int32 → Int32 → Int64 → Int64 → Int64 → Int32 → Option (Int64)
  | 0, _, _, _, _, _, _, _ => none
  | n + 1, l0, l1, l2, l3, l5, l7, l9 =>
    gd (S.1 l0 = 9) <|
    Option.bind (S.2.2 l0 17) fun r2 =>
    gd (S.1 r2 = 21) <|
    gd (¬ ((((8 : Int32) * l2) + l1) < 0 ∨ S.2.1 r2 ≤ (((8 : Int32) * l2) + l1).toNatClampNeg)) <|
    if (I r2 (((8 : Int32) * l2) + l1).toNatClampNeg) ≤ l9 then
      some (l7)
    else
      Option.bind (S.2.2 l0 3) fun r6 =>
      gd (S.1 r6 = 21) <|
      gd (¬ ((((500 : Int32) * l1) + l9) < 0 ∨ S.2.1 r6 ≤ (((500 : Int32) * l1) + l9).toNatClampNeg)) <|
      bnd (I r6 (((500 : Int32) * l1) + l9).toNatClampNeg) fun v9 =>
      if (lg_cmp v9.toInt64 l3) < 0 then
        f_M_sumOf_b62 S I J (f_M_sumOf_b6 S I J n) l7 l0 l1 l2 l3 l5 l9
      else
        if 0 < (lg_cmp v9.toInt64 l5) then
          f_M_sumOf_b62 S I J (f_M_sumOf_b6 S I J n) l7 l0 l1 l2 l3 l5 l9
        else
          f_M_sumOf_b63 S I J (f_M_sumOf_b6 S I J n) v9.toInt64 l7 l0 l1 l2 l3 l5 l9
def f_M_sumOf (S : gS) (I : gMI) (J : gMJ) (p0 : Nat) (p1 : Int32) (p2 : Int32) (p3 : Int64) (p5 : Int64) : Option (Int64) :=
  f_M_sumOf_b6 S I J gFuel p0 p1 p2 p3 p5 (0 : Int64) (0 : Int32)
def f_M_leastOf_b88 (S : gS) (I : gMI) (J : gMJ) (k6 : Nat → Int32 → Int32 → Int32 → Int32 → Int32 → Int32 → Int32 → Option (Int32)) (l0 : Nat) (l1 : Int32) (l2 : Int32) (l3 : Int32) (l4 : Int32) (l5 : Int32) (l6 : Int32) (l7 : Int32) : Option (Int32) :=
  bnd (l7 + (1 : Int32)) fun v1 =>
  k6 l0 l1 l2 l3 l4 l5 l6 v1
def f_M_leastOf_b6 (S : gS) (I : gMI) (J : gMJ) : Nat → Nat → Int32 → Int32 → Int32 → Int32 → Int32 → Int32 → Int32 → Option (Int32)
  | 0, _, _, _, _, _, _, _, _ => none
  | n + 1, l0, l1, l2, l3, l4, l5, l6, l7 =>
    gd (S.1 l0 = 9) <|
    Option.bind (S.2.2 l0 17) fun r2 =>
    gd (S.1 r2 = 21) <|
    gd (¬ ((((8 : Int32) * l2) + l1) < 0 ∨ S.2.1 r2 ≤ (((8 : Int32) * l2) + l1).toNatClampNeg)) <|
    if (I r2 (((8 : Int32) * l2) + l1).toNatClampNeg) ≤ l7 then
      some (l6)
    else
      Option.bind (S.2.2 l0 3) fun r6 =>
      gd (S.1 r6 = 21) <|
      gd (¬ ((((500 : Int32) * l1) + l7) < 0 ∨ S.2.1 r6 ≤ (((500 : Int32) * l1) + l7).toNatClampNeg)) <|
      bnd (I r6 (((500 : Int32) * l1) + l7).toNatClampNeg) fun v9 =>
      if v9 < l3 then
        f_M_leastOf_b88 S I J (f_M_leastOf_b6 S I J n) l0 l1 l2 l3 l4 l5 l6 l7
      else
        if l4 < v9 then
          f_M_leastOf_b88 S I J (f_M_leastOf_b6 S I J n) l0 l1 l2 l3 l4 l5 l6 l7
        else
          Option.bind (f_M_countOf S I J l0 l1 l2 l3.toInt64 (v9.toInt64 - (1 : Int64))) fun x12 =>
          if l5 ≤ x12 then
            f_M_leastOf_b88 S I J (f_M_leastOf_b6 S I J n) l0 l1 l2 l3 l4 l5 l6 l7
          else
            Option.bind (f_M_countOf S I J l0 l1 l2 l3.toInt64 v9.toInt64) fun x15 =>
            if x15 < l5 then
              f_M_leastOf_b88 S I J (f_M_leastOf_b6 S I J n) l0 l1 l2 l3 l4 l5 l6 l7
            else
              f_M_leastOf_b88 S I J (f_M_leastOf_b6 S I J n) l0 l1 l2 l3 l4 l5 v9 l7
def f_M_leastOf (S : gS) (I : gMI) (J : gMJ) (p0 : Nat) (p1 : Int32) (p2 : Int32) (p3 : Int32) (p4 : Int32) (p5 : Int32) : Option (Int32) :=
  f_M_leastOf_b6 S I J gFuel p0 p1 p2 p3 p4 p5 (0 : Int32) (0 : Int32)
def f_M_send_b138 (S : gS) (k97 : gMI → gMJ → Nat → Int32 → Option (gMI × gMJ)) (I : gMI) (J : gMJ) (s0 : Int32) (s1 : Int32) (s2 : Nat) (l0 : Nat) (l8 : Int32) : Option (gMI × gMJ) :=
  gd (S.1 s2 = 21) <|
  gd (¬ (s1 < 0 ∨ S.2.1 s2 ≤ s1.toNatClampNeg)) <|
  bnd (upI I s2 s1.toNatClampNeg s0) fun I3 =>
  bnd (l8 + (1 : Int32)) fun v4 =>
  k97 I3 J l0 v4
def f_M_send_b97 (S : gS) : Nat → gMI → gMJ → Nat → Int32 → Option (gMI × gMJ)
  | 0, _, _, _, _ => none
  | n + 1, I, J, l0, l8 =>
    if (64 : Int32) ≤ l8 then
      gd (S.1 l0 = 9) <|
      Option.bind (S.2.2 l0 35) fun r3 =>
      gd (S.1 r3 = 23) <|
      gd (¬ ((I l0 32) < 0 ∨ S.2.1 r3 ≤ (I l0 32).toNatClampNeg)) <|
      bnd (upJ J r3 (I l0 32).toNatClampNeg (J l0 38)) fun J6 =>
      bnd (upI I l0 32 ((I l0 32) + (1 : Int32))) fun I7 =>
      some (I7, J6)
    else
      gd (S.1 l0 = 9) <|
      Option.bind (S.2.2 l0 34) fun r9 =>
      if (I l0 37) ≤ l8 then
        f_M_send_b138 S (f_M_send_b97 S n) I J (0 : Int32) (((64 : Int32) * (I l0 32)) + l8) r9 l0 l8
      else
        Option.bind (S.2.2 l0 36) fun r11 =>
        gd (S.1 r11 = 21) <|
        gd (¬ (l8 < 0 ∨ S.2.1 r11 ≤ l8.toNatClampNeg)) <|
        f_M_send_b138 S (f_M_send_b97 S n) I J (I r11 l8.toNatClampNeg) (((64 : Int32) * (I l0 32)) + l8) r9 l0 l8
def f_M_send (S : gS) (I : gMI) (J : gMJ) (p0 : Nat) (p1 : Int32) (p2 : Int32) (p3 : Int32) (p4 : Int32) (p5 : Int32) (p6 : Int32) : Option (gMI × gMJ) :=
  gd (S.1 p0 = 9) <|
  if (I p0 32) = (96 : Int32) then
    some (I, J)
  else
    bnd ((7 : Int32) * (I p0 32)) fun v3 =>
    Option.bind (S.2.2 p0 33) fun r4 =>
    gd (S.1 r4 = 21) <|
    gd (¬ (v3 < 0 ∨ S.2.1 r4 ≤ v3.toNatClampNeg)) <|
    bnd (upI I r4 v3.toNatClampNeg p1) fun I7 =>
    gd (¬ ((v3 + (1 : Int32)) < 0 ∨ S.2.1 r4 ≤ (v3 + (1 : Int32)).toNatClampNeg)) <|
    bnd (upI I7 r4 (v3 + (1 : Int32)).toNatClampNeg p2) fun I9 =>
    gd (¬ ((v3 + (2 : Int32)) < 0 ∨ S.2.1 r4 ≤ (v3 + (2 : Int32)).toNatClampNeg)) <|
    bnd (upI I9 r4 (v3 + (2 : Int32)).toNatClampNeg p3) fun I11 =>
    gd (¬ ((v3 + (3 : Int32)) < 0 ∨ S.2.1 r4 ≤ (v3 + (3 : Int32)).toNatClampNeg)) <|
    bnd (upI I11 r4 (v3 + (3 : Int32)).toNatClampNeg p4) fun I13 =>
    gd (¬ ((v3 + (4 : Int32)) < 0 ∨ S.2.1 r4 ≤ (v3 + (4 : Int32)).toNatClampNeg)) <|
    bnd (upI I13 r4 (v3 + (4 : Int32)).toNatClampNeg p5) fun I15 =>
    gd (¬ ((v3 + (5 : Int32)) < 0 ∨ S.2.1 r4 ≤ (v3 + (5 : Int32)).toNatClampNeg)) <|
    bnd (upI I15 r4 (v3 + (5 : Int32)).toNatClampNeg p6) fun I17 =>
    gd (¬ ((v3 + (6 : Int32)) < 0 ∨ S.2.1 r4 ≤ (v3 + (6 : Int32)).toNatClampNeg)) <|
    bnd (upI I17 r4 (v3 + (6 : Int32)).toNatClampNeg (I17 p0 37)) fun I19 =>
    f_M_send_b97 S gFuel I19 J p0 (0 : Int32)
def f_M_ready (S : gS) (I : gMI) (J : gMJ) (p0 : Nat) (p1 : Int32) (p2 : Int32) (p3 : Int32) (p4 : Int32) : Option (gMI × gMJ) :=
  gd (S.1 p0 = 9) <|
  bnd (upI I p0 37 p1) fun I2 =>
  Option.bind (S.2.2 p0 36) fun r3 =>
  gd (S.1 r3 = 21) <|
  gd (¬ ((0 : Int32) < 0 ∨ S.2.1 r3 ≤ (0 : Int32).toNatClampNeg)) <|
  bnd (upI I2 r3 (0 : Int32).toNatClampNeg p2) fun I6 =>
  gd (¬ ((1 : Int32) < 0 ∨ S.2.1 r3 ≤ (1 : Int32).toNatClampNeg)) <|
  bnd (upI I6 r3 (1 : Int32).toNatClampNeg p3) fun I8 =>
  gd (¬ ((2 : Int32) < 0 ∨ S.2.1 r3 ≤ (2 : Int32).toNatClampNeg)) <|
  bnd (upI I8 r3 (2 : Int32).toNatClampNeg p4) fun I10 =>
  bnd (upJ J p0 38 (0 : Int64)) fun J11 =>
  some (I10, J11)
def f_M_readyAsk_b143 (S : gS) (I : gMI) (J : gMJ)  : Option (gMI × gMJ) :=
  some (I, J)
def f_M_readyAsk_b77 (S : gS) (I : gMI) (J : gMJ) (s0 : Int32) (s1 : Int32) (s2 : Int32) (s3 : Nat) : Option (gMI × gMJ) :=
  gd (S.1 s3 = 9) <|
  bd2 (f_M_ready S I J s3 s2 s1 s0 (0 : Int32)) fun I2 J3 =>
  f_M_readyAsk_b143 S I2 J3
def f_M_readyAsk_b52 (S : gS) (I : gMI) (J : gMJ) (s0 : Int32) (s1 : Int32) (s2 : Nat) (l0 : Nat) (l1 : Int32) : Option (gMI × gMJ) :=
  gd (S.1 l0 = 9) <|
  Option.bind (S.2.2 l0 6) fun r2 =>
  gd (S.1 r2 = 21) <|
  gd (¬ (l1 < 0 ∨ S.2.1 r2 ≤ l1.toNatClampNeg)) <|
  if (I r2 l1.toNatClampNeg) = (1 : Int32) then
    Option.bind (S.2.2 l0 8) fun r9 =>
    gd (S.1 r9 = 21) <|
    gd (¬ (l1 < 0 ∨ S.2.1 r9 ≤ l1.toNatClampNeg)) <|
    f_M_readyAsk_b77 S I J (I r9 l1.toNatClampNeg) s0 s1 s2
  else
    Option.bind (S.2.2 l0 7) fun r6 =>
    gd (S.1 r6 = 21) <|
    gd (¬ (l1 < 0 ∨ S.2.1 r6 ≤ l1.toNatClampNeg)) <|
    f_M_readyAsk_b77 S I J (I r6 l1.toNatClampNeg) s0 s1 s2
def f_M_readyAsk_b122 (S : gS) (I : gMI) (J : gMJ) (s0 : Int32) (s1 : Nat) (l0 : Nat) (l1 : Int32) : Option (gMI × gMJ) :=
  gd (S.1 l0 = 9) <|
  Option.bind (S.2.2 l0 18) fun r2 =>
  gd (S.1 r2 = 21) <|
  gd (¬ (l1 < 0 ∨ S.2.1 r2 ≤ l1.toNatClampNeg)) <|
  Option.bind (S.2.2 l0 19) fun r5 =>
  gd (S.1 r5 = 21) <|
  gd (¬ (l1 < 0 ∨ S.2.1 r5 ≤ l1.toNatClampNeg)) <|
  Option.bind (S.2.2 l0 23) fun r8 =>
  gd (S.1 r8 = 21) <|
  gd (¬ (l1 < 0 ∨ S.2.1 r8 ≤ l1.toNatClampNeg)) <|
  gd (S.1 s1 = 9) <|
  bd2 (f_M_ready S I J s1 s0 (I r2 l1.toNatClampNeg) (I r5 l1.toNatClampNeg) (I r8 l1.toNatClampNeg)) fun I12 J13 =>
  f_M_readyAsk_b143 S I12 J13
def f_M_readyAsk (S : gS) (I : gMI) (J : gMJ) (p0 : Nat) (p1 : Int32) : Option (gMI × gMJ) :=
  gd (S.1 p0 = 9) <|
  Option.bind (S.2.2 p0 16) fun r2 =>
  gd (S.1 r2 = 21) <|
  gd (¬ (p1 < 0 ∨ S.2.1 r2 ≤ p1.toNatClampNeg)) <|
  bnd (I r2 p1.toNatClampNeg) fun v5 =>
  if v5 = (1 : Int32) then
    bd2 (f_M_ready S I J p0 (0 : Int32) (0 : Int32) (0 : Int32) (0 : Int32)) fun I26 J27 =>
    f_M_readyAsk_b143 S I26 J27
  else
    if v5 = (9 : Int32) then
      Option.bind (S.2.2 p0 6) fun r19 =>
      gd (S.1 r19 = 21) <|
      gd (¬ (p1 < 0 ∨ S.2.1 r19 ≤ p1.toNatClampNeg)) <|
      if (I r19 p1.toNatClampNeg) = (1 : Int32) then
        Option.bind (S.2.2 p0 7) fun r23 =>
        gd (S.1 r23 = 21) <|
        gd (¬ (p1 < 0 ∨ S.2.1 r23 ≤ p1.toNatClampNeg)) <|
        f_M_readyAsk_b52 S I J (I r23 p1.toNatClampNeg) (2 : Int32) p0 p0 p1
      else
        f_M_readyAsk_b52 S I J (-2147483648 : Int32) (2 : Int32) p0 p0 p1
    else
      if v5 = (11 : Int32) then
        Option.bind (S.2.2 p0 24) fun r10 =>
        gd (S.1 r10 = 21) <|
        gd (¬ (p1 < 0 ∨ S.2.1 r10 ≤ p1.toNatClampNeg)) <|
        Option.bind (S.2.2 p0 25) fun r13 =>
        gd (S.1 r13 = 21) <|
        gd (¬ (p1 < 0 ∨ S.2.1 r13 ≤ p1.toNatClampNeg)) <|
        bd2 (f_M_ready S I J p0 (2 : Int32) (I r10 p1.toNatClampNeg) (I r13 p1.toNatClampNeg) (0 : Int32)) fun I16 J17 =>
        f_M_readyAsk_b143 S I16 J17
      else
        if v5 = (5 : Int32) then
          f_M_readyAsk_b122 S I J (3 : Int32) p0 p0 p1
        else
          f_M_readyAsk_b122 S I J (2 : Int32) p0 p0 p1
def f_M_askAll_b50 (S : gS) : Nat → gMI → gMJ → Nat → Int32 → Int32 → Int32 → Option (gMI × gMJ)
  | 0, _, _, _, _, _, _ => none
  | n + 1, I, J, l0, l1, l2, l3 =>
    if (8 : Int32) ≤ l3 then
      some (I, J)
    else
      gd (S.1 l0 = 9) <|
      Option.bind (S.2.2 l0 5) fun r3 =>
      gd (S.1 r3 = 21) <|
      gd (¬ (l1 < 0 ∨ S.2.1 r3 ≤ l1.toNatClampNeg)) <|
      Option.bind (S.2.2 l0 10) fun r6 =>
      gd (S.1 r6 = 21) <|
      gd (¬ (l1 < 0 ∨ S.2.1 r6 ≤ l1.toNatClampNeg)) <|
      Option.bind (S.2.2 l0 11) fun r9 =>
      gd (S.1 r9 = 21) <|
      gd (¬ (l1 < 0 ∨ S.2.1 r9 ≤ l1.toNatClampNeg)) <|
      Option.bind (S.2.2 l0 9) fun r12 =>
      gd (S.1 r12 = 21) <|
      gd (¬ (l1 < 0 ∨ S.2.1 r12 ≤ l1.toNatClampNeg)) <|
      bd2 (f_M_send S I J l0 l2 (I r3 l1.toNatClampNeg) (I r6 l1.toNatClampNeg) (I r9 l1.toNatClampNeg) (I r12 l1.toNatClampNeg) l3) fun I15 J16 =>
      bnd (l3 + (1 : Int32)) fun v18 =>
      f_M_askAll_b50 S n I15 J16 l0 l1 l2 v18
def f_M_askAll_b19 (S : gS) : Nat → gMI → gMJ → Nat → Int32 → Int32 → Int32 → Option (gMI × gMJ)
  | 0, _, _, _, _, _, _ => none
  | n + 1, I, J, l0, l1, l2, l3 =>
    if (8 : Int32) ≤ l3 then
      gd (S.1 l0 = 9) <|
      bd2 (f_M_readyAsk S I J l0 l1) fun I3 J4 =>
      f_M_askAll_b50 S gFuel I3 J4 l0 l1 l2 (0 : Int32)
    else
      gd (S.1 l0 = 9) <|
      Option.bind (S.2.2 l0 27) fun r7 =>
      gd (S.1 r7 = 22) <|
      gd (¬ ((((8 : Int32) * l1) + l3) < 0 ∨ S.2.1 r7 ≤ (((8 : Int32) * l1) + l3).toNatClampNeg)) <|
      bnd (upI I r7 (((8 : Int32) * l1) + l3).toNatClampNeg (0 : Int32)) fun I10 =>
      bnd (l3 + (1 : Int32)) fun v11 =>
      f_M_askAll_b19 S n I10 J l0 l1 l2 v11
def f_M_askAll (S : gS) (I : gMI) (J : gMJ) (p0 : Nat) (p1 : Int32) (p2 : Int32) : Option (gMI × gMJ) :=
  gd (S.1 p0 = 9) <|
  Option.bind (S.2.2 p0 16) fun r2 =>
  gd (S.1 r2 = 21) <|
  gd (¬ (p1 < 0 ∨ S.2.1 r2 ≤ p1.toNatClampNeg)) <|
  bnd (upI I r2 p1.toNatClampNeg p2) fun I5 =>
  Option.bind (S.2.2 p0 11) fun r6 =>
  gd (S.1 r6 = 21) <|
  gd (¬ (p1 < 0 ∨ S.2.1 r6 ≤ p1.toNatClampNeg)) <|
  bnd (upI I5 r6 p1.toNatClampNeg ((I5 r6 p1.toNatClampNeg) + (1 : Int32))) fun I9 =>
  f_M_askAll_b19 S gFuel I9 J p0 p1 p2 (0 : Int32)
def f_M_readyAnswer_b329 (S : gS) (I : gMI) (J : gMJ)  : Option (gMI × gMJ) :=
  some (I, J)
def f_M_readyAnswer_b90 (S : gS) (I : gMI) (J : gMJ) (s0 : Int32) (s1 : Int32) (s2 : Int32) (s3 : Nat) : Option (gMI × gMJ) :=
  gd (S.1 s3 = 9) <|
  bd2 (f_M_ready S I J s3 s2 s1 s0 (0 : Int32)) fun I2 J3 =>
  f_M_readyAnswer_b329 S I2 J3
def f_M_readyAnswer_b209 (S : gS) (I : gMI) (J : gMJ) (l0 : Nat) (l6 : Int32) : Option (gMI × gMJ) :=
  gd (S.1 l0 = 9) <|
  bnd (upI I l0 37 l6) fun I2 =>
  bnd (upJ J l0 38 (0 : Int64)) fun J3 =>
  f_M_readyAnswer_b329 S I2 J3
def f_M_readyAnswer_b168 (S : gS) : Nat → gMI → gMJ → Nat → Int32 → Int32 → Int32 → Int32 → Int32 → Int32 → Option (gMI × gMJ)
  | 0, _, _, _, _, _, _, _, _, _ => none
  | n + 1, I, J, l0, l2, l3, l4, l5, l6, l7 =>
    if l6 ≤ l7 then
      f_M_readyAnswer_b209 S I J l0 l6
    else
      if (64 : Int32) ≤ l7 then
        f_M_readyAnswer_b209 S I J l0 l6
      else
        gd (S.1 l0 = 9) <|
        Option.bind (S.2.2 l0 36) fun r4 =>
        Option.bind (f_M_leastOf S I J l0 l2 l3 l4 l5 (l7 + (1 : Int32))) fun x5 =>
        gd (S.1 r4 = 21) <|
        gd (¬ (l7 < 0 ∨ S.2.1 r4 ≤ l7.toNatClampNeg)) <|
        bnd (upI I r4 l7.toNatClampNeg x5) fun I9 =>
        bnd (l7 + (1 : Int32)) fun v10 =>
        f_M_readyAnswer_b168 S n I9 J l0 l2 l3 l4 l5 l6 v10
def f_M_readyAnswer (S : gS) (I : gMI) (J : gMJ) (p0 : Nat) (p1 : Int32) (p2 : Int32) (p3 : Int32) : Option (gMI × gMJ) :=
  gd (S.1 p0 = 9) <|
  Option.bind (S.2.2 p0 36) fun r2 =>
  gd (S.1 r2 = 21) <|
  gd (¬ ((0 : Int32) < 0 ∨ S.2.1 r2 ≤ (0 : Int32).toNatClampNeg)) <|
  bnd (I r2 (0 : Int32).toNatClampNeg) fun v5 =>
  gd (¬ ((1 : Int32) < 0 ∨ S.2.1 r2 ≤ (1 : Int32).toNatClampNeg)) <|
  bnd (I r2 (1 : Int32).toNatClampNeg) fun v7 =>
  if p1 = (1 : Int32) then
    Option.bind (S.2.2 p0 17) fun r48 =>
    gd (S.1 r48 = 21) <|
    gd (¬ ((((8 : Int32) * p3) + p2) < 0 ∨ S.2.1 r48 ≤ (((8 : Int32) * p3) + p2).toNatClampNeg)) <|
    bd2 (f_M_ready S I J p0 (1 : Int32) (I r48 (((8 : Int32) * p3) + p2).toNatClampNeg) (0 : Int32) (0 : Int32)) fun I51 J52 =>
    f_M_readyAnswer_b329 S I51 J52
  else
    if p1 = (3 : Int32) then
      Option.bind (f_M_countOf S I J p0 p2 p3 v5.toInt64 v7.toInt64) fun x43 =>
      if x43 = 0 then
        f_M_readyAnswer_b90 S I J (0 : Int32) x43 (2 : Int32) p0
      else
        Option.bind (f_M_leastOf S I J p0 p2 p3 v5 v7 ((x43 + (1 : Int32)) / (2 : Int32))) fun x46 =>
        f_M_readyAnswer_b90 S I J x46 x43 (2 : Int32) p0
    else
      if p1 = (5 : Int32) then
        gd (¬ ((2 : Int32) < 0 ∨ S.2.1 r2 ≤ (2 : Int32).toNatClampNeg)) <|
        bnd (I r2 (2 : Int32).toNatClampNeg) fun v35 =>
        Option.bind (f_M_countOf S I J p0 p2 p3 v5.toInt64 (v35.toInt64 - (1 : Int64))) fun x36 =>
        Option.bind (f_M_countOf S I J p0 p2 p3 v35.toInt64 v35.toInt64) fun x38 =>
        bd2 (f_M_ready S I J p0 (2 : Int32) x36 x38 (0 : Int32)) fun I40 J41 =>
        f_M_readyAnswer_b329 S I40 J41
      else
        if p1 = (7 : Int32) then
          Option.bind (f_M_countOf S I J p0 p2 p3 v5.toInt64 v7.toInt64) fun x32 =>
          f_M_readyAnswer_b168 S gFuel I J p0 p2 p3 v5 v7 x32 (0 : Int32)
        else
          if p1 = (9 : Int32) then
            Option.bind (f_M_countOf S I J p0 p2 p3 v5.toInt64 v7.toInt64) fun x27 =>
            bd2 (f_M_ready S I J p0 (1 : Int32) x27 (0 : Int32) (0 : Int32)) fun I29 J30 =>
            f_M_readyAnswer_b329 S I29 J30
          else
            Option.bind (f_M_countOf S I J p0 p2 p3 (-2147483648 : Int64) (v5.toInt64 - (1 : Int64))) fun x13 =>
            Option.bind (f_M_countOf S I J p0 p2 p3 v5.toInt64 v5.toInt64) fun x15 =>
            Option.bind (f_M_countOf S I J p0 p2 p3 (v5.toInt64 + (1 : Int64)) (v7.toInt64 - (1 : Int64))) fun x17 =>
            bd2 (f_M_ready S I J p0 (4 : Int32) x13 x15 x17) fun I19 J20 =>
            Option.bind (f_M_sumOf S I19 J20 p0 p2 p3 (v5.toInt64 + (1 : Int64)) (v7.toInt64 - (1 : Int64))) fun x22 =>
            bnd (upJ J20 p0 38 x22) fun J24 =>
            gd (¬ ((3 : Int32) < 0 ∨ S.2.1 r2 ≤ (3 : Int32).toNatClampNeg)) <|
            bnd (upI I19 r2 (3 : Int32).toNatClampNeg ((J24 p0 38).toInt32)) fun I26 =>
            f_M_readyAnswer_b329 S I26 J24
def f_M_answered (S : gS) (I : gMI) (J : gMJ) (p0 : Nat) (p1 : Int32) (p2 : Int64) : Option (gMI × gMJ) :=
  gd (S.1 p0 = 9) <|
  Option.bind (S.2.2 p0 12) fun r2 =>
  gd (S.1 r2 = 21) <|
  gd (¬ (p1 < 0 ∨ S.2.1 r2 ≤ p1.toNatClampNeg)) <|
  bnd (upI I r2 p1.toNatClampNeg (1 : Int32)) fun I5 =>
  Option.bind (S.2.2 p0 26) fun r6 =>
  gd (S.1 r6 = 23) <|
  gd (¬ (p1 < 0 ∨ S.2.1 r6 ≤ p1.toNatClampNeg)) <|
  bnd (upJ J r6 p1.toNatClampNeg p2) fun J9 =>
  some (I5, J9)
def f_M_total_b5 (S : gS) (I : gMI) (J : gMJ) : Nat → Nat → Int32 → Int32 → Int32 → Int32 → Option (Int32)
  | 0, _, _, _, _, _ => none
  | n + 1, l0, l1, l2, l3, l4 =>
    if (8 : Int32) ≤ l4 then
      some (l3)
    else
      gd (S.1 l0 = 9) <|
      Option.bind (S.2.2 l0 28) fun r3 =>
      gd (S.1 r3 = 21) <|
      gd (¬ ((((4 : Int32) * (((8 : Int32) * l1) + l4)) + l2) < 0 ∨ S.2.1 r3 ≤ (((4 : Int32) * (((8 : Int32) * l1) + l4)) + l2).toNatClampNeg)) <|
      bnd (l3 + (I r3 (((4 : Int32) * (((8 : Int32) * l1) + l4)) + l2).toNatClampNeg)) fun v6 =>
      bnd (l4 + (1 : Int32)) fun v7 =>
      f_M_total_b5 S I J n l0 l1 l2 v6 v7
def f_M_total (S : gS) (I : gMI) (J : gMJ) (p0 : Nat) (p1 : Int32) (p2 : Int32) : Option (Int32) :=
  f_M_total_b5 S I J gFuel p0 p1 p2 (0 : Int32) (0 : Int32)
def f_M_firstRank_b93 (S : gS) (I : gMI) (J : gMJ) (s0 : Int32) : Option (Int32) :=
  some (s0)
def f_M_firstRank (S : gS) (I : gMI) (J : gMJ) (p0 : Nat) (p1 : Int32) : Option (Int32) :=
  gd (S.1 p0 = 9) <|
  Option.bind (S.2.2 p0 14) fun r2 =>
  gd (S.1 r2 = 21) <|
  gd (¬ (p1 < 0 ∨ S.2.1 r2 ≤ p1.toNatClampNeg)) <|
  bnd (((I r2 p1.toNatClampNeg) + (1 : Int32)) / (2 : Int32)) fun v5 =>
  Option.bind (S.2.2 p0 7) fun r6 =>
  gd (S.1 r6 = 21) <|
  gd (¬ (p1 < 0 ∨ S.2.1 r6 ≤ p1.toNatClampNeg)) <|
  bnd (((I r2 p1.toNatClampNeg) * (I r6 p1.toNatClampNeg)) / (2000 : Int32)) fun v9 =>
  Option.bind (S.2.2 p0 6) fun r10 =>
  gd (S.1 r10 = 21) <|
  gd (¬ (p1 < 0 ∨ S.2.1 r10 ≤ p1.toNatClampNeg)) <|
  if (I r10 p1.toNatClampNeg) = 0 then
    f_M_firstRank_b93 S I J (I r6 p1.toNatClampNeg)
  else
    if (I r10 p1.toNatClampNeg) = (2 : Int32) then
      f_M_firstRank_b93 S I J ((((I r2 p1.toNatClampNeg) * (I r6 p1.toNatClampNeg)) / (1000 : Int32)) + (1 : Int32))
    else
      if (v5 - v9) ≤ (1 : Int32) then
        f_M_firstRank_b93 S I J (1 : Int32)
      else
        f_M_firstRank_b93 S I J (v5 - v9)
def f_M_lastRank_b90 (S : gS) (I : gMI) (J : gMJ) (s0 : Int32) : Option (Int32) :=
  some (s0)
def f_M_lastRank (S : gS) (I : gMI) (J : gMJ) (p0 : Nat) (p1 : Int32) : Option (Int32) :=
  gd (S.1 p0 = 9) <|
  Option.bind (S.2.2 p0 14) fun r2 =>
  gd (S.1 r2 = 21) <|
  gd (¬ (p1 < 0 ∨ S.2.1 r2 ≤ p1.toNatClampNeg)) <|
  bnd (((I r2 p1.toNatClampNeg) + (1 : Int32)) / (2 : Int32)) fun v5 =>
  Option.bind (S.2.2 p0 7) fun r6 =>
  gd (S.1 r6 = 21) <|
  gd (¬ (p1 < 0 ∨ S.2.1 r6 ≤ p1.toNatClampNeg)) <|
  bnd (((I r2 p1.toNatClampNeg) * (I r6 p1.toNatClampNeg)) / (2000 : Int32)) fun v9 =>
  Option.bind (S.2.2 p0 6) fun r10 =>
  gd (S.1 r10 = 21) <|
  gd (¬ (p1 < 0 ∨ S.2.1 r10 ≤ p1.toNatClampNeg)) <|
  if (I r10 p1.toNatClampNeg) = (2 : Int32) then
    f_M_lastRank_b90 S I J ((I r2 p1.toNatClampNeg) - (((I r2 p1.toNatClampNeg) * (I r6 p1.toNatClampNeg)) / (1000 : Int32)))
  else
    if (I r2 p1.toNatClampNeg) ≤ (v5 + v9) then
      f_M_lastRank_b90 S I J (I r2 p1.toNatClampNeg)
    else
      f_M_lastRank_b90 S I J (v5 + v9)
def f_M_search_b29 (S : gS) (I : gMI) (J : gMJ) (s0 : Int32) (s1 : Int32) (s2 : Nat) (l0 : Nat) (l1 : Int32) : Option (gMI × gMJ) :=
  gd (S.1 s2 = 21) <|
  gd (¬ (s1 < 0 ∨ S.2.1 s2 ≤ s1.toNatClampNeg)) <|
  bnd (upI I s2 s1.toNatClampNeg s0) fun I3 =>
  gd (S.1 l0 = 9) <|
  Option.bind (S.2.2 l0 18) fun r5 =>
  gd (S.1 r5 = 21) <|
  gd (¬ (l1 < 0 ∨ S.2.1 r5 ≤ l1.toNatClampNeg)) <|
  bnd (upI I3 r5 l1.toNatClampNeg (-2147483648 : Int32)) fun I8 =>
  Option.bind (S.2.2 l0 19) fun r9 =>
  gd (S.1 r9 = 21) <|
  gd (¬ (l1 < 0 ∨ S.2.1 r9 ≤ l1.toNatClampNeg)) <|
  bnd (upI I8 r9 l1.toNatClampNeg (2147483647 : Int32)) fun I12 =>
  Option.bind (S.2.2 l0 20) fun r13 =>
  gd (S.1 r13 = 21) <|
  gd (¬ (l1 < 0 ∨ S.2.1 r13 ≤ l1.toNatClampNeg)) <|
  bnd (upI I12 r13 l1.toNatClampNeg (0 : Int32)) fun I16 =>
  Option.bind (S.2.2 l0 15) fun r17 =>
  Option.bind (S.2.2 l0 14) fun r18 =>
  gd (S.1 r18 = 21) <|
  gd (¬ (l1 < 0 ∨ S.2.1 r18 ≤ l1.toNatClampNeg)) <|
  gd (S.1 r17 = 21) <|
  gd (¬ (l1 < 0 ∨ S.2.1 r17 ≤ l1.toNatClampNeg)) <|
  bnd (upI I16 r17 l1.toNatClampNeg (I16 r18 l1.toNatClampNeg)) fun I23 =>
  bd2 (f_M_askAll S I23 J l0 l1 (3 : Int32)) fun I24 J25 =>
  some (I24, J25)
def f_M_search (S : gS) (I : gMI) (J : gMJ) (p0 : Nat) (p1 : Int32) (p2 : Int32) : Option (gMI × gMJ) :=
  gd (S.1 p0 = 9) <|
  Option.bind (S.2.2 p0 22) fun r2 =>
  gd (S.1 r2 = 22) <|
  gd (¬ (p1 < 0 ∨ S.2.1 r2 ≤ p1.toNatClampNeg)) <|
  gd (p2 = 0 ∨ p2 = 1) <|
  bnd (upI I r2 p1.toNatClampNeg p2) fun I6 =>
  Option.bind (S.2.2 p0 21) fun r7 =>
  if p2 = 0 then
    Option.bind (f_M_firstRank S I6 J p0 p1) fun x9 =>
    f_M_search_b29 S I6 J x9 p1 r7 p0 p1
  else
    Option.bind (f_M_lastRank S I6 J p0 p1) fun x11 =>
    f_M_search_b29 S I6 J x11 p1 r7 p0 p1
def f_M_afterFreeze_b91 (S : gS) (I : gMI) (J : gMJ)  : Option (gMI × gMJ) :=
  some (I, J)
def f_M_afterFreeze_b45 (S : gS) (I : gMI) (J : gMJ) (l0 : Nat) (l1 : Int32) : Option (gMI × gMJ) :=
  gd (S.1 l0 = 9) <|
  Option.bind (S.2.2 l0 12) fun r2 =>
  gd (S.1 r2 = 21) <|
  gd (¬ (l1 < 0 ∨ S.2.1 r2 ≤ l1.toNatClampNeg)) <|
  bnd (upI I r2 l1.toNatClampNeg (2 : Int32)) fun I5 =>
  f_M_afterFreeze_b91 S I5 J
def f_M_afterFreeze_b75 (S : gS) (I : gMI) (J : gMJ) (l0 : Nat) (l1 : Int32) : Option (gMI × gMJ) :=
  gd (S.1 l0 = 9) <|
  bd2 (f_M_askAll S I J l0 l1 (9 : Int32)) fun I2 J3 =>
  f_M_afterFreeze_b91 S I2 J3
def f_M_afterFreeze_b55 (S : gS) (I : gMI) (J : gMJ) (l0 : Nat) (l1 : Int32) : Option (gMI × gMJ) :=
  gd (S.1 l0 = 9) <|
  Option.bind (S.2.2 l0 6) fun r2 =>
  gd (S.1 r2 = 21) <|
  gd (¬ (l1 < 0 ∨ S.2.1 r2 ≤ l1.toNatClampNeg)) <|
  if (I r2 l1.toNatClampNeg) = (1 : Int32) then
    f_M_afterFreeze_b75 S I J l0 l1
  else
    if (I r2 l1.toNatClampNeg) = (3 : Int32) then
      f_M_afterFreeze_b75 S I J l0 l1
    else
      bd2 (f_M_search S I J l0 l1 (0 : Int32)) fun I7 J8 =>
      f_M_afterFreeze_b91 S I7 J8
def f_M_afterFreeze (S : gS) (I : gMI) (J : gMJ) (p0 : Nat) (p1 : Int32) : Option (gMI × gMJ) :=
  gd (S.1 p0 = 9) <|
  Option.bind (S.2.2 p0 14) fun r2 =>
  Option.bind (f_M_total S I J p0 p1 (0 : Int32)) fun x3 =>
  gd (S.1 r2 = 21) <|
  gd (¬ (p1 < 0 ∨ S.2.1 r2 ≤ p1.toNatClampNeg)) <|
  bnd (upI I r2 p1.toNatClampNeg x3) fun I7 =>
  if (I7 r2 p1.toNatClampNeg) = 0 then
    f_M_afterFreeze_b45 S I7 J p0 p1
  else
    Option.bind (S.2.2 p0 6) fun r9 =>
    gd (S.1 r9 = 21) <|
    gd (¬ (p1 < 0 ∨ S.2.1 r9 ≤ p1.toNatClampNeg)) <|
    if (I7 r9 p1.toNatClampNeg) = 0 then
      Option.bind (S.2.2 p0 7) fun r13 =>
      gd (S.1 r13 = 21) <|
      gd (¬ (p1 < 0 ∨ S.2.1 r13 ≤ p1.toNatClampNeg)) <|
      if (I7 r13 p1.toNatClampNeg) ≤ (I7 r2 p1.toNatClampNeg) then
        f_M_afterFreeze_b55 S I7 J p0 p1
      else
        f_M_afterFreeze_b45 S I7 J p0 p1
    else
      f_M_afterFreeze_b55 S I7 J p0 p1
def f_M_pivotOf_b86 (S : gS) (I : gMI) (J : gMJ) (k38 : Nat → Int32 → Int32 → Int32 → Int32 → Int32 → Int32 → Int32 → Option (Int32)) (s0 : Int32) (s1 : Int32) (l0 : Nat) (l1 : Int32) (l2 : Int32) (l3 : Int32) (l4 : Int32) (l5 : Int32) (l7 : Int32) : Option (Int32) :=
  bnd (s1 + s0) fun v1 =>
  bnd (l7 + (1 : Int32)) fun v2 =>
  k38 l0 l1 l2 l3 l4 l5 v1 v2
def f_M_pivotOf_b152 (S : gS) (I : gMI) (J : gMJ) (k7 : Nat → Int32 → Int32 → Int32 → Int32 → Option (Int32)) (l0 : Nat) (l1 : Int32) (l2 : Int32) (l3 : Int32) (l4 : Int32) : Option (Int32) :=
  bnd (l4 + (1 : Int32)) fun v1 =>
  k7 l0 l1 l2 l3 v1
def f_M_pivotOf_b147 (S : gS) (I : gMI) (J : gMJ) (k7 : Nat → Int32 → Int32 → Int32 → Int32 → Option (Int32)) (l0 : Nat) (l1 : Int32) (l4 : Int32) (l5 : Int32) : Option (Int32) :=
  f_M_pivotOf_b152 S I J k7 l0 l1 l5 (1 : Int32) l4
def f_M_pivotOf_b130 (S : gS) (I : gMI) (J : gMJ) (k7 : Nat → Int32 → Int32 → Int32 → Int32 → Option (Int32)) (s0 : Int32) (l0 : Nat) (l1 : Int32) (l2 : Int32) (l3 : Int32) (l4 : Int32) (l5 : Int32) : Option (Int32) :=
  if s0 = 0 then
    f_M_pivotOf_b152 S I J k7 l0 l1 l2 l3 l4
  else
    if l3 = 0 then
      f_M_pivotOf_b147 S I J k7 l0 l1 l4 l5
    else
      if l2 ≤ l5 then
        f_M_pivotOf_b152 S I J k7 l0 l1 l2 l3 l4
      else
        f_M_pivotOf_b147 S I J k7 l0 l1 l4 l5
def f_M_pivotOf_b129 (S : gS) (I : gMI) (J : gMJ) (k7 : Nat → Int32 → Int32 → Int32 → Int32 → Option (Int32)) (l0 : Nat) (l1 : Int32) (l2 : Int32) (l3 : Int32) (l4 : Int32) (l5 : Int32) : Option (Int32) :=
  f_M_pivotOf_b130 S I J k7 (0 : Int32) l0 l1 l2 l3 l4 l5
def f_M_pivotOf_b38 (S : gS) (I : gMI) (J : gMJ) (k7 : Nat → Int32 → Int32 → Int32 → Int32 → Option (Int32)) : Nat → Nat → Int32 → Int32 → Int32 → Int32 → Int32 → Int32 → Int32 → Option (Int32)
  | 0, _, _, _, _, _, _, _, _ => none
  | n + 1, l0, l1, l2, l3, l4, l5, l6, l7 =>
    if (8 : Int32) ≤ l7 then
      gd (S.1 l0 = 9) <|
      Option.bind (S.2.2 l0 28) fun r3 =>
      gd (S.1 r3 = 21) <|
      gd (¬ (((4 : Int32) * (((8 : Int32) * l1) + l4)) < 0 ∨ S.2.1 r3 ≤ ((4 : Int32) * (((8 : Int32) * l1) + l4)).toNatClampNeg)) <|
      if (I r3 ((4 : Int32) * (((8 : Int32) * l1) + l4)).toNatClampNeg) ≤ 0 then
        f_M_pivotOf_b129 S I J k7 l0 l1 l2 l3 l4 l5
      else
        Option.bind (S.2.2 l0 15) fun r7 =>
        gd (S.1 r7 = 21) <|
        gd (¬ (l1 < 0 ∨ S.2.1 r7 ≤ l1.toNatClampNeg)) <|
        if ((2 : Int32) * l6) < (I r7 l1.toNatClampNeg) then
          f_M_pivotOf_b129 S I J k7 l0 l1 l2 l3 l4 l5
        else
          f_M_pivotOf_b130 S I J k7 (1 : Int32) l0 l1 l2 l3 l4 l5
    else
      gd (S.1 l0 = 9) <|
      Option.bind (S.2.2 l0 28) fun r12 =>
      gd (S.1 r12 = 21) <|
      gd (¬ ((((4 : Int32) * (((8 : Int32) * l1) + l7)) + (1 : Int32)) < 0 ∨ S.2.1 r12 ≤ (((4 : Int32) * (((8 : Int32) * l1) + l7)) + (1 : Int32)).toNatClampNeg)) <|
      if l5 < (I r12 (((4 : Int32) * (((8 : Int32) * l1) + l7)) + (1 : Int32)).toNatClampNeg) then
        f_M_pivotOf_b86 S I J (f_M_pivotOf_b38 S I J k7 n) (0 : Int32) l6 l0 l1 l2 l3 l4 l5 l7
      else
        gd (¬ (((4 : Int32) * (((8 : Int32) * l1) + l7)) < 0 ∨ S.2.1 r12 ≤ ((4 : Int32) * (((8 : Int32) * l1) + l7)).toNatClampNeg)) <|
        f_M_pivotOf_b86 S I J (f_M_pivotOf_b38 S I J k7 n) (I r12 ((4 : Int32) * (((8 : Int32) * l1) + l7)).toNatClampNeg) l6 l0 l1 l2 l3 l4 l5 l7
def f_M_pivotOf_b7 (S : gS) (I : gMI) (J : gMJ) : Nat → Nat → Int32 → Int32 → Int32 → Int32 → Option (Int32)
  | 0, _, _, _, _, _ => none
  | n + 1, l0, l1, l2, l3, l4 =>
    if (8 : Int32) ≤ l4 then
      some (l2)
    else
      gd (S.1 l0 = 9) <|
      Option.bind (S.2.2 l0 28) fun r3 =>
      gd (S.1 r3 = 21) <|
      gd (¬ ((((4 : Int32) * (((8 : Int32) * l1) + l4)) + (1 : Int32)) < 0 ∨ S.2.1 r3 ≤ (((4 : Int32) * (((8 : Int32) * l1) + l4)) + (1 : Int32)).toNatClampNeg)) <|
      bnd (I r3 (((4 : Int32) * (((8 : Int32) * l1) + l4)) + (1 : Int32)).toNatClampNeg) fun v6 =>
      f_M_pivotOf_b38 S I J (f_M_pivotOf_b7 S I J n) gFuel l0 l1 l2 l3 l4 v6 (0 : Int32) (0 : Int32)
def f_M_pivotOf (S : gS) (I : gMI) (J : gMJ) (p0 : Nat) (p1 : Int32) : Option (Int32) :=
  f_M_pivotOf_b7 S I J gFuel p0 p1 (0 : Int32) (0 : Int32) (0 : Int32)
def f_M_afterSplit_b50 (S : gS) (I : gMI) (J : gMJ)  : Option (gMI × gMJ) :=
  some (I, J)
def f_M_afterSplit (S : gS) (I : gMI) (J : gMJ) (p0 : Nat) (p1 : Int32) : Option (gMI × gMJ) :=
  gd (S.1 p0 = 9) <|
  Option.bind (S.2.2 p0 15) fun r2 =>
  Option.bind (f_M_total S I J p0 p1 (0 : Int32)) fun x3 =>
  gd (S.1 r2 = 21) <|
  gd (¬ (p1 < 0 ∨ S.2.1 r2 ≤ p1.toNatClampNeg)) <|
  bnd (upI I r2 p1.toNatClampNeg x3) fun I7 =>
  if (64 : Int32) < (I7 r2 p1.toNatClampNeg) then
    Option.bind (S.2.2 p0 23) fun r9 =>
    Option.bind (f_M_pivotOf S I7 J p0 p1) fun x10 =>
    gd (S.1 r9 = 21) <|
    gd (¬ (p1 < 0 ∨ S.2.1 r9 ≤ p1.toNatClampNeg)) <|
    bnd (upI I7 r9 p1.toNatClampNeg x10) fun I14 =>
    bd2 (f_M_askAll S I14 J p0 p1 (5 : Int32)) fun I15 J16 =>
    f_M_afterSplit_b50 S I15 J16
  else
    bd2 (f_M_askAll S I7 J p0 p1 (7 : Int32)) fun I18 J19 =>
    f_M_afterSplit_b50 S I18 J19
def f_M_isFound_b143 (S : gS) (I : gMI) (J : gMJ)  : Option (gMI × gMJ) :=
  some (I, J)
def f_M_isFound_b26 (S : gS) (I : gMI) (J : gMJ) (l0 : Nat) (l1 : Int32) (l2 : Int32) : Option (gMI × gMJ) :=
  gd (S.1 l0 = 9) <|
  Option.bind (S.2.2 l0 6) fun r2 =>
  gd (S.1 r2 = 21) <|
  gd (¬ (l1 < 0 ∨ S.2.1 r2 ≤ l1.toNatClampNeg)) <|
  if (I r2 l1.toNatClampNeg) = 0 then
    bd2 (f_M_answered S I J l0 l1 l2.toInt64) fun I40 J41 =>
    f_M_isFound_b143 S I40 J41
  else
    Option.bind (S.2.2 l0 22) fun r6 =>
    gd (S.1 r6 = 22) <|
    gd (¬ (l1 < 0 ∨ S.2.1 r6 ≤ l1.toNatClampNeg)) <|
    if (I r6 l1.toNatClampNeg) = 0 then
      bd2 (f_M_search S I J l0 l1 (1 : Int32)) fun I37 J38 =>
      f_M_isFound_b143 S I37 J38
    else
      if (I r2 l1.toNatClampNeg) = (4 : Int32) then
        Option.bind (S.2.2 l0 25) fun r28 =>
        gd (S.1 r28 = 21) <|
        gd (¬ (l1 < 0 ∨ S.2.1 r28 ≤ l1.toNatClampNeg)) <|
        Option.bind (S.2.2 l0 24) fun r31 =>
        gd (S.1 r31 = 21) <|
        gd (¬ (l1 < 0 ∨ S.2.1 r31 ≤ l1.toNatClampNeg)) <|
        bd2 (f_M_answered S I J l0 l1 ((I r28 l1.toNatClampNeg).toInt64 - (I r31 l1.toNatClampNeg).toInt64)) fun I34 J35 =>
        f_M_isFound_b143 S I34 J35
      else
        Option.bind (S.2.2 l0 24) fun r11 =>
        gd (S.1 r11 = 21) <|
        gd (¬ (l1 < 0 ∨ S.2.1 r11 ≤ l1.toNatClampNeg)) <|
        Option.bind (S.2.2 l0 25) fun r14 =>
        gd (S.1 r14 = 21) <|
        gd (¬ (l1 < 0 ∨ S.2.1 r14 ≤ l1.toNatClampNeg)) <|
        if (I r11 l1.toNatClampNeg) = (I r14 l1.toNatClampNeg) then
          Option.bind (f_M_lastRank S I J l0 l1) fun x21 =>
          Option.bind (f_M_firstRank S I J l0 l1) fun x23 =>
          bd2 (f_M_answered S I J l0 l1 (l2.toInt64 * ((x21 - x23) + (1 : Int32)).toInt64)) fun I25 J26 =>
          f_M_isFound_b143 S I25 J26
        else
          bd2 (f_M_askAll S I J l0 l1 (11 : Int32)) fun I18 J19 =>
          f_M_isFound_b143 S I18 J19
def f_M_isFound (S : gS) (I : gMI) (J : gMJ) (p0 : Nat) (p1 : Int32) (p2 : Int32) : Option (gMI × gMJ) :=
  gd (S.1 p0 = 9) <|
  Option.bind (S.2.2 p0 22) fun r2 =>
  gd (S.1 r2 = 22) <|
  gd (¬ (p1 < 0 ∨ S.2.1 r2 ≤ p1.toNatClampNeg)) <|
  if (I r2 p1.toNatClampNeg) = 0 then
    Option.bind (S.2.2 p0 24) fun r6 =>
    gd (S.1 r6 = 21) <|
    gd (¬ (p1 < 0 ∨ S.2.1 r6 ≤ p1.toNatClampNeg)) <|
    bnd (upI I r6 p1.toNatClampNeg p2) fun I9 =>
    f_M_isFound_b26 S I9 J p0 p1 p2
  else
    Option.bind (S.2.2 p0 25) fun r10 =>
    gd (S.1 r10 = 21) <|
    gd (¬ (p1 < 0 ∨ S.2.1 r10 ≤ p1.toNatClampNeg)) <|
    bnd (upI I r10 p1.toNatClampNeg p2) fun I13 =>
    f_M_isFound_b26 S I13 J p0 p1 p2
def f_M_afterCut_b149 (S : gS) (I : gMI) (J : gMJ)  : Option (gMI × gMJ) :=
  some (I, J)
def f_M_afterCut (S : gS) (I : gMI) (J : gMJ) (p0 : Nat) (p1 : Int32) : Option (gMI × gMJ) :=
  gd (S.1 p0 = 9) <|
  Option.bind (f_M_total S I J p0 p1 (0 : Int32)) fun x2 =>
  Option.bind (f_M_total S I J p0 p1 (1 : Int32)) fun x4 =>
  Option.bind (S.2.2 p0 21) fun r6 =>
  gd (S.1 r6 = 21) <|
  gd (¬ (p1 < 0 ∨ S.2.1 r6 ≤ p1.toNatClampNeg)) <|
  Option.bind (S.2.2 p0 20) fun r9 =>
  gd (S.1 r9 = 21) <|
  gd (¬ (p1 < 0 ∨ S.2.1 r9 ≤ p1.toNatClampNeg)) <|
  bnd ((I r6 p1.toNatClampNeg) - (I r9 p1.toNatClampNeg)) fun v12 =>
  Option.bind (S.2.2 p0 13) fun r13 =>
  gd (S.1 r13 = 21) <|
  gd (¬ (p1 < 0 ∨ S.2.1 r13 ≤ p1.toNatClampNeg)) <|
  bnd (upI I r13 p1.toNatClampNeg ((I r13 p1.toNatClampNeg) + (1 : Int32))) fun I16 =>
  if x2 < v12 then
    if (x2 + x4) < v12 then
      Option.bind (S.2.2 p0 18) fun r19 =>
      Option.bind (S.2.2 p0 23) fun r20 =>
      gd (S.1 r20 = 21) <|
      gd (¬ (p1 < 0 ∨ S.2.1 r20 ≤ p1.toNatClampNeg)) <|
      gd (S.1 r19 = 21) <|
      gd (¬ (p1 < 0 ∨ S.2.1 r19 ≤ p1.toNatClampNeg)) <|
      bnd (upI I16 r19 p1.toNatClampNeg ((I16 r20 p1.toNatClampNeg) + (1 : Int32))) fun I25 =>
      bnd (upI I25 r9 p1.toNatClampNeg (((I25 r9 p1.toNatClampNeg) + x2) + x4)) fun I26 =>
      Option.bind (S.2.2 p0 15) fun r27 =>
      gd (S.1 r27 = 21) <|
      gd (¬ (p1 < 0 ∨ S.2.1 r27 ≤ p1.toNatClampNeg)) <|
      bnd (upI I26 r27 p1.toNatClampNeg (((I26 r27 p1.toNatClampNeg) - x2) - x4)) fun I30 =>
      bd2 (f_M_askAll S I30 J p0 p1 (3 : Int32)) fun I31 J32 =>
      f_M_afterCut_b149 S I31 J32
    else
      Option.bind (S.2.2 p0 23) fun r34 =>
      gd (S.1 r34 = 21) <|
      gd (¬ (p1 < 0 ∨ S.2.1 r34 ≤ p1.toNatClampNeg)) <|
      bd2 (f_M_isFound S I16 J p0 p1 (I16 r34 p1.toNatClampNeg)) fun I37 J38 =>
      f_M_afterCut_b149 S I37 J38
  else
    Option.bind (S.2.2 p0 19) fun r40 =>
    Option.bind (S.2.2 p0 23) fun r41 =>
    gd (S.1 r41 = 21) <|
    gd (¬ (p1 < 0 ∨ S.2.1 r41 ≤ p1.toNatClampNeg)) <|
    gd (S.1 r40 = 21) <|
    gd (¬ (p1 < 0 ∨ S.2.1 r40 ≤ p1.toNatClampNeg)) <|
    bnd (upI I16 r40 p1.toNatClampNeg ((I16 r41 p1.toNatClampNeg) - (1 : Int32))) fun I46 =>
    Option.bind (S.2.2 p0 15) fun r47 =>
    gd (S.1 r47 = 21) <|
    gd (¬ (p1 < 0 ∨ S.2.1 r47 ≤ p1.toNatClampNeg)) <|
    bnd (upI I46 r47 p1.toNatClampNeg x2) fun I50 =>
    bd2 (f_M_askAll S I50 J p0 p1 (3 : Int32)) fun I51 J52 =>
    f_M_afterCut_b149 S I51 J52
def f_M_givenUpTo_b63 (S : gS) (I : gMI) (J : gMJ) (k25 : Nat → Int32 → Int64 → Int32 → Int32 → Int32 → Int32 → Option (Int32)) (s0 : Int32) (s1 : Int32) (l0 : Nat) (l1 : Int32) (l2 : Int64) (l5 : Int32) (l6 : Int32) (l7 : Int32) : Option (Int32) :=
  bnd (s1 + s0) fun v1 =>
  bnd (l7 + (1 : Int32)) fun v2 =>
  k25 l0 l1 l2 v1 l5 l6 v2
def f_M_givenUpTo_b25 (S : gS) (I : gMI) (J : gMJ) (k6 : Nat → Int32 → Int64 → Int32 → Int32 → Option (Int32)) : Nat → Nat → Int32 → Int64 → Int32 → Int32 → Int32 → Int32 → Option (Int32)
  | 0, _, _, _, _, _, _, _ => none
  | n + 1, l0, l1, l2, l4, l5, l6, l7 =>
    gd (S.1 l0 = 9) <|
    Option.bind (S.2.2 l0 30) fun r2 =>
    gd (S.1 r2 = 21) <|
    gd (¬ (l6 < 0 ∨ S.2.1 r2 ≤ l6.toNatClampNeg)) <|
    if (I r2 l6.toNatClampNeg) ≤ l7 then
      bnd (l5 + (1 : Int32)) fun v6 =>
      k6 l0 l1 l2 l4 v6
    else
      Option.bind (S.2.2 l0 31) fun r7 =>
      gd (S.1 r7 = 21) <|
      gd (¬ ((((64 : Int32) * l6) + l7) < 0 ∨ S.2.1 r7 ≤ (((64 : Int32) * l6) + l7).toNatClampNeg)) <|
      if 0 < (lg_cmp ((I r7 (((64 : Int32) * l6) + l7).toNatClampNeg).toInt64) l2) then
        f_M_givenUpTo_b63 S I J (f_M_givenUpTo_b25 S I J k6 n) (0 : Int32) l4 l0 l1 l2 l5 l6 l7
      else
        f_M_givenUpTo_b63 S I J (f_M_givenUpTo_b25 S I J k6 n) (1 : Int32) l4 l0 l1 l2 l5 l6 l7
def f_M_givenUpTo_b6 (S : gS) (I : gMI) (J : gMJ) : Nat → Nat → Int32 → Int64 → Int32 → Int32 → Option (Int32)
  | 0, _, _, _, _, _ => none
  | n + 1, l0, l1, l2, l4, l5 =>
    if (8 : Int32) ≤ l5 then
      some (l4)
    else
      bnd (((8 : Int32) * l1) + l5) fun v2 =>
      f_M_givenUpTo_b25 S I J (f_M_givenUpTo_b6 S I J n) gFuel l0 l1 l2 l4 l5 v2 (0 : Int32)
def f_M_givenUpTo (S : gS) (I : gMI) (J : gMJ) (p0 : Nat) (p1 : Int32) (p2 : Int64) : Option (Int32) :=
  f_M_givenUpTo_b6 S I J gFuel p0 p1 p2 (0 : Int32) (0 : Int32)
def f_M_afterGive_b97 (S : gS) (k38 : gMI → gMJ → Nat → Int32 → Int32 → Int32 → Int32 → Int32 → Int32 → Option (gMI × gMJ)) (I : gMI) (J : gMJ) (s0 : Int32) (l0 : Nat) (l1 : Int32) (l2 : Int32) (l4 : Int32) (l5 : Int32) (l6 : Int32) : Option (gMI × gMJ) :=
  bnd (l6 + (1 : Int32)) fun v1 =>
  k38 I J l0 l1 l2 s0 l4 l5 v1
def f_M_afterGive_b96 (S : gS) (k38 : gMI → gMJ → Nat → Int32 → Int32 → Int32 → Int32 → Int32 → Int32 → Option (gMI × gMJ)) (I : gMI) (J : gMJ) (l0 : Nat) (l1 : Int32) (l2 : Int32) (l3 : Int32) (l4 : Int32) (l5 : Int32) (l6 : Int32) : Option (gMI × gMJ) :=
  f_M_afterGive_b97 S k38 I J l3 l0 l1 l2 l4 l5 l6
def f_M_afterGive_b38 (S : gS) (k19 : gMI → gMJ → Nat → Int32 → Int32 → Int32 → Int32 → Option (gMI × gMJ)) : Nat → gMI → gMJ → Nat → Int32 → Int32 → Int32 → Int32 → Int32 → Int32 → Option (gMI × gMJ)
  | 0, _, _, _, _, _, _, _, _, _ => none
  | n + 1, I, J, l0, l1, l2, l3, l4, l5, l6 =>
    gd (S.1 l0 = 9) <|
    Option.bind (S.2.2 l0 30) fun r2 =>
    gd (S.1 r2 = 21) <|
    gd (¬ (l5 < 0 ∨ S.2.1 r2 ≤ l5.toNatClampNeg)) <|
    if (I r2 l5.toNatClampNeg) ≤ l6 then
      bnd (l4 + (1 : Int32)) fun v6 =>
      k19 I J l0 l1 l2 l3 v6
    else
      Option.bind (S.2.2 l0 31) fun r7 =>
      gd (S.1 r7 = 21) <|
      gd (¬ ((((64 : Int32) * l5) + l6) < 0 ∨ S.2.1 r7 ≤ (((64 : Int32) * l5) + l6).toNatClampNeg)) <|
      bnd (I r7 (((64 : Int32) * l5) + l6).toNatClampNeg) fun v10 =>
      Option.bind (f_M_givenUpTo S I J l0 l1 (v10.toInt64 - (1 : Int64))) fun x11 =>
      if l2 ≤ x11 then
        f_M_afterGive_b96 S (f_M_afterGive_b38 S k19 n) I J l0 l1 l2 l3 l4 l5 l6
      else
        Option.bind (f_M_givenUpTo S I J l0 l1 v10.toInt64) fun x14 =>
        if x14 < l2 then
          f_M_afterGive_b96 S (f_M_afterGive_b38 S k19 n) I J l0 l1 l2 l3 l4 l5 l6
        else
          f_M_afterGive_b97 S (f_M_afterGive_b38 S k19 n) I J v10 l0 l1 l2 l4 l5 l6
def f_M_afterGive_b19 (S : gS) : Nat → gMI → gMJ → Nat → Int32 → Int32 → Int32 → Int32 → Option (gMI × gMJ)
  | 0, _, _, _, _, _, _, _ => none
  | n + 1, I, J, l0, l1, l2, l3, l4 =>
    if (8 : Int32) ≤ l4 then
      gd (S.1 l0 = 9) <|
      bd2 (f_M_isFound S I J l0 l1 l3) fun I3 J4 =>
      some (I3, J4)
    else
      bnd (((8 : Int32) * l1) + l4) fun v6 =>
      f_M_afterGive_b38 S (f_M_afterGive_b19 S n) gFuel I J l0 l1 l2 l3 l4 v6 (0 : Int32)
def f_M_afterGive (S : gS) (I : gMI) (J : gMJ) (p0 : Nat) (p1 : Int32) : Option (gMI × gMJ) :=
  gd (S.1 p0 = 9) <|
  Option.bind (S.2.2 p0 21) fun r2 =>
  gd (S.1 r2 = 21) <|
  gd (¬ (p1 < 0 ∨ S.2.1 r2 ≤ p1.toNatClampNeg)) <|
  Option.bind (S.2.2 p0 20) fun r5 =>
  gd (S.1 r5 = 21) <|
  gd (¬ (p1 < 0 ∨ S.2.1 r5 ≤ p1.toNatClampNeg)) <|
  bnd ((I r2 p1.toNatClampNeg) - (I r5 p1.toNatClampNeg)) fun v8 =>
  f_M_afterGive_b19 S gFuel I J p0 p1 v8 (0 : Int32) (0 : Int32)
def f_M_afterAdd_b5 (S : gS) : Nat → gMI → gMJ → Nat → Int32 → Int64 → Int32 → Option (gMI × gMJ)
  | 0, _, _, _, _, _, _ => none
  | n + 1, I, J, l0, l1, l2, l4 =>
    if (8 : Int32) ≤ l4 then
      gd (S.1 l0 = 9) <|
      Option.bind (f_M_total S I J l0 l1 (0 : Int32)) fun x3 =>
      Option.bind (f_M_total S I J l0 l1 (1 : Int32)) fun x5 =>
      bnd (x3 + x5) fun v7 =>
      Option.bind (S.2.2 l0 24) fun r8 =>
      gd (S.1 r8 = 21) <|
      gd (¬ (l1 < 0 ∨ S.2.1 r8 ≤ l1.toNatClampNeg)) <|
      Option.bind (f_M_firstRank S I J l0 l1) fun x11 =>
      bnd ((I r8 l1.toNatClampNeg).toInt64 * ((v7 - x11) + (1 : Int32)).toInt64) fun v13 =>
      Option.bind (S.2.2 l0 25) fun r14 =>
      gd (S.1 r14 = 21) <|
      gd (¬ (l1 < 0 ∨ S.2.1 r14 ≤ l1.toNatClampNeg)) <|
      Option.bind (f_M_lastRank S I J l0 l1) fun x17 =>
      Option.bind (f_M_total S I J l0 l1 (2 : Int32)) fun x19 =>
      bnd ((I r14 l1.toNatClampNeg).toInt64 * ((x17 - v7) - x19).toInt64) fun v21 =>
      bd2 (f_M_answered S I J l0 l1 ((v13 + l2) + v21)) fun I22 J23 =>
      some (I22, J23)
    else
      gd (S.1 l0 = 9) <|
      Option.bind (S.2.2 l0 29) fun r26 =>
      gd (S.1 r26 = 23) <|
      gd (¬ ((((8 : Int32) * l1) + l4) < 0 ∨ S.2.1 r26 ≤ (((8 : Int32) * l1) + l4).toNatClampNeg)) <|
      bnd (l2 + (J r26 (((8 : Int32) * l1) + l4).toNatClampNeg)) fun v29 =>
      bnd (l4 + (1 : Int32)) fun v30 =>
      f_M_afterAdd_b5 S n I J l0 l1 v29 v30
def f_M_afterAdd (S : gS) (I : gMI) (J : gMJ) (p0 : Nat) (p1 : Int32) : Option (gMI × gMJ) :=
  f_M_afterAdd_b5 S gFuel I J p0 p1 (0 : Int64) (0 : Int32)
def f_M_goOn_b114 (S : gS) (I : gMI) (J : gMJ)  : Option (gMI × gMJ) :=
  some (I, J)
def f_M_goOn_b103 (S : gS) (I : gMI) (J : gMJ) (s0 : Int64) (s1 : Int32) (s2 : Nat) : Option (gMI × gMJ) :=
  gd (S.1 s2 = 9) <|
  bd2 (f_M_answered S I J s2 s1 s0) fun I2 J3 =>
  f_M_goOn_b114 S I2 J3
def f_M_goOn (S : gS) (I : gMI) (J : gMJ) (p0 : Nat) (p1 : Int32) : Option (gMI × gMJ) :=
  gd (S.1 p0 = 9) <|
  Option.bind (S.2.2 p0 16) fun r2 =>
  gd (S.1 r2 = 21) <|
  gd (¬ (p1 < 0 ∨ S.2.1 r2 ≤ p1.toNatClampNeg)) <|
  bnd (I r2 p1.toNatClampNeg) fun v5 =>
  if v5 = (1 : Int32) then
    bd2 (f_M_afterFreeze S I J p0 p1) fun I34 J35 =>
    f_M_goOn_b114 S I34 J35
  else
    if v5 = (3 : Int32) then
      bd2 (f_M_afterSplit S I J p0 p1) fun I31 J32 =>
      f_M_goOn_b114 S I31 J32
    else
      if v5 = (5 : Int32) then
        bd2 (f_M_afterCut S I J p0 p1) fun I28 J29 =>
        f_M_goOn_b114 S I28 J29
      else
        if v5 = (7 : Int32) then
          bd2 (f_M_afterGive S I J p0 p1) fun I25 J26 =>
          f_M_goOn_b114 S I25 J26
        else
          if v5 = (9 : Int32) then
            Option.bind (f_M_total S I J p0 p1 (0 : Int32)) fun x14 =>
            bnd x14.toInt64 fun v16 =>
            Option.bind (S.2.2 p0 6) fun r17 =>
            gd (S.1 r17 = 21) <|
            gd (¬ (p1 < 0 ∨ S.2.1 r17 ≤ p1.toNatClampNeg)) <|
            if (I r17 p1.toNatClampNeg) = (1 : Int32) then
              f_M_goOn_b103 S I J v16 p1 p0
            else
              Option.bind (S.2.2 p0 14) fun r21 =>
              gd (S.1 r21 = 21) <|
              gd (¬ (p1 < 0 ∨ S.2.1 r21 ≤ p1.toNatClampNeg)) <|
              gd (¬ (I r21 p1.toNatClampNeg).toInt64 = 0) <|
              f_M_goOn_b103 S I J (((1000000 : Int64) * v16) / (I r21 p1.toNatClampNeg).toInt64) p1 p0
          else
            bd2 (f_M_afterAdd S I J p0 p1) fun I11 J12 =>
            f_M_goOn_b114 S I11 J12
def f_M_take_b53 (S : gS) (k17 : gMI → gMJ → Nat → Int32 → Int32 → Int32 → Option (gMI × gMJ)) (I : gMI) (J : gMJ) (s0 : Int32) (s1 : Int32) (s2 : Nat) (l0 : Nat) (l1 : Int32) (l3 : Int32) (l4 : Int32) : Option (gMI × gMJ) :=
  gd (S.1 s2 = 21) <|
  gd (¬ (s1 < 0 ∨ S.2.1 s2 ≤ s1.toNatClampNeg)) <|
  bnd (upI I s2 s1.toNatClampNeg s0) fun I3 =>
  bnd (l4 + (1 : Int32)) fun v4 =>
  k17 I3 J l0 l1 l3 v4
def f_M_take_b153 (S : gS) (k121 : gMI → gMJ → Nat → Int32 → Int32 → Int32 → Option (gMI × gMJ)) (I : gMI) (J : gMJ) (s0 : Int32) (l0 : Nat) (l1 : Int32) (l5 : Int32) : Option (gMI × gMJ) :=
  bnd (l5 + (1 : Int32)) fun v1 =>
  k121 I J l0 l1 s0 v1
def f_M_take_b152 (S : gS) (k121 : gMI → gMJ → Nat → Int32 → Int32 → Int32 → Option (gMI × gMJ)) (I : gMI) (J : gMJ) (l0 : Nat) (l1 : Int32) (l5 : Int32) : Option (gMI × gMJ) :=
  f_M_take_b153 S k121 I J (0 : Int32) l0 l1 l5
def f_M_take_b171 (S : gS) (I : gMI) (J : gMJ)  : Option (gMI × gMJ) :=
  some (I, J)
def f_M_take_b121 (S : gS) : Nat → gMI → gMJ → Nat → Int32 → Int32 → Int32 → Option (gMI × gMJ)
  | 0, _, _, _, _, _, _ => none
  | n + 1, I, J, l0, l1, l4, l5 =>
    if (8 : Int32) ≤ l5 then
      if l4 = 0 then
        f_M_take_b171 S I J
      else
        gd (S.1 l0 = 9) <|
        bd2 (f_M_goOn S I J l0 l1) fun I4 J5 =>
        f_M_take_b171 S I4 J5
    else
      if l4 = 0 then
        f_M_take_b152 S (f_M_take_b121 S n) I J l0 l1 l5
      else
        gd (S.1 l0 = 9) <|
        Option.bind (S.2.2 l0 27) fun r9 =>
        gd (S.1 r9 = 22) <|
        gd (¬ ((((8 : Int32) * l1) + l5) < 0 ∨ S.2.1 r9 ≤ (((8 : Int32) * l1) + l5).toNatClampNeg)) <|
        if (I r9 (((8 : Int32) * l1) + l5).toNatClampNeg) = 0 then
          f_M_take_b152 S (f_M_take_b121 S n) I J l0 l1 l5
        else
          f_M_take_b153 S (f_M_take_b121 S n) I J (1 : Int32) l0 l1 l5
def f_M_take_b83 (S : gS) : Nat → gMI → gMJ → Nat → Int32 → Int32 → Int32 → Option (gMI × gMJ)
  | 0, _, _, _, _, _, _ => none
  | n + 1, I, J, l0, l1, l3, l4 =>
    if (64 : Int32) ≤ l4 then
      f_M_take_b121 S gFuel I J l0 l1 (1 : Int32) (0 : Int32)
    else
      gd (S.1 l0 = 9) <|
      Option.bind (S.2.2 l0 31) fun r3 =>
      Option.bind (S.2.2 l0 36) fun r4 =>
      gd (S.1 r4 = 21) <|
      gd (¬ (l4 < 0 ∨ S.2.1 r4 ≤ l4.toNatClampNeg)) <|
      gd (S.1 r3 = 21) <|
      gd (¬ ((((64 : Int32) * l3) + l4) < 0 ∨ S.2.1 r3 ≤ (((64 : Int32) * l3) + l4).toNatClampNeg)) <|
      bnd (upI I r3 (((64 : Int32) * l3) + l4).toNatClampNeg (I r4 l4.toNatClampNeg)) fun I9 =>
      bnd (l4 + (1 : Int32)) fun v10 =>
      f_M_take_b83 S n I9 J l0 l1 l3 v10
def f_M_take_b17 (S : gS) : Nat → gMI → gMJ → Nat → Int32 → Int32 → Int32 → Option (gMI × gMJ)
  | 0, _, _, _, _, _, _ => none
  | n + 1, I, J, l0, l1, l3, l4 =>
    if (4 : Int32) ≤ l4 then
      gd (S.1 l0 = 9) <|
      Option.bind (S.2.2 l0 29) fun r3 =>
      gd (S.1 r3 = 23) <|
      gd (¬ (l3 < 0 ∨ S.2.1 r3 ≤ l3.toNatClampNeg)) <|
      bnd (upJ J r3 l3.toNatClampNeg (J l0 38)) fun J6 =>
      Option.bind (S.2.2 l0 30) fun r7 =>
      gd (S.1 r7 = 21) <|
      gd (¬ (l3 < 0 ∨ S.2.1 r7 ≤ l3.toNatClampNeg)) <|
      bnd (upI I r7 l3.toNatClampNeg (I l0 37)) fun I10 =>
      f_M_take_b83 S gFuel I10 J6 l0 l1 l3 (0 : Int32)
    else
      gd (S.1 l0 = 9) <|
      Option.bind (S.2.2 l0 28) fun r12 =>
      if (I l0 37) ≤ l4 then
        f_M_take_b53 S (f_M_take_b17 S n) I J (0 : Int32) (((4 : Int32) * l3) + l4) r12 l0 l1 l3 l4
      else
        Option.bind (S.2.2 l0 36) fun r14 =>
        gd (S.1 r14 = 21) <|
        gd (¬ (l4 < 0 ∨ S.2.1 r14 ≤ l4.toNatClampNeg)) <|
        f_M_take_b53 S (f_M_take_b17 S n) I J (I r14 l4.toNatClampNeg) (((4 : Int32) * l3) + l4) r12 l0 l1 l3 l4
def f_M_take (S : gS) (I : gMI) (J : gMJ) (p0 : Nat) (p1 : Int32) (p2 : Int32) : Option (gMI × gMJ) :=
  bnd (((8 : Int32) * p1) + p2) fun v1 =>
  gd (S.1 p0 = 9) <|
  Option.bind (S.2.2 p0 27) fun r3 =>
  gd (S.1 r3 = 22) <|
  gd (¬ (v1 < 0 ∨ S.2.1 r3 ≤ v1.toNatClampNeg)) <|
  bnd (upI I r3 v1.toNatClampNeg (1 : Int32)) fun I6 =>
  f_M_take_b17 S gFuel I6 J p0 p1 v1 (0 : Int32)
def f_M_remove_b86 (S : gS) : Nat → gMI → gMJ → Nat → Int32 → Option (gMI × gMJ)
  | 0, _, _, _, _ => none
  | n + 1, I, J, l0, l2 =>
    gd (S.1 l0 = 9) <|
    if (I l0 32) ≤ l2 then
      some (I, J)
    else
      Option.bind (S.2.2 l0 35) fun r3 =>
      gd (S.1 r3 = 23) <|
      gd (¬ ((l2 + (1 : Int32)) < 0 ∨ S.2.1 r3 ≤ (l2 + (1 : Int32)).toNatClampNeg)) <|
      gd (¬ (l2 < 0 ∨ S.2.1 r3 ≤ l2.toNatClampNeg)) <|
      bnd (upJ J r3 l2.toNatClampNeg (J r3 (l2 + (1 : Int32)).toNatClampNeg)) fun J7 =>
      bnd (l2 + (1 : Int32)) fun v8 =>
      f_M_remove_b86 S n I J7 l0 v8
def f_M_remove_b52 (S : gS) : Nat → gMI → gMJ → Nat → Int32 → Int32 → Option (gMI × gMJ)
  | 0, _, _, _, _, _ => none
  | n + 1, I, J, l0, l1, l2 =>
    gd (S.1 l0 = 9) <|
    if ((64 : Int32) * (I l0 32)) ≤ l2 then
      f_M_remove_b86 S gFuel I J l0 l1
    else
      Option.bind (S.2.2 l0 34) fun r3 =>
      gd (S.1 r3 = 21) <|
      gd (¬ ((l2 + (64 : Int32)) < 0 ∨ S.2.1 r3 ≤ (l2 + (64 : Int32)).toNatClampNeg)) <|
      gd (¬ (l2 < 0 ∨ S.2.1 r3 ≤ l2.toNatClampNeg)) <|
      bnd (upI I r3 l2.toNatClampNeg (I r3 (l2 + (64 : Int32)).toNatClampNeg)) fun I7 =>
      bnd (l2 + (1 : Int32)) fun v8 =>
      f_M_remove_b52 S n I7 J l0 l1 v8
def f_M_remove_b15 (S : gS) : Nat → gMI → gMJ → Nat → Int32 → Int32 → Option (gMI × gMJ)
  | 0, _, _, _, _, _ => none
  | n + 1, I, J, l0, l1, l2 =>
    gd (S.1 l0 = 9) <|
    if ((7 : Int32) * (I l0 32)) ≤ l2 then
      bnd ((64 : Int32) * l1) fun v3 =>
      f_M_remove_b52 S gFuel I J l0 l1 v3
    else
      Option.bind (S.2.2 l0 33) fun r4 =>
      gd (S.1 r4 = 21) <|
      gd (¬ ((l2 + (7 : Int32)) < 0 ∨ S.2.1 r4 ≤ (l2 + (7 : Int32)).toNatClampNeg)) <|
      gd (¬ (l2 < 0 ∨ S.2.1 r4 ≤ l2.toNatClampNeg)) <|
      bnd (upI I r4 l2.toNatClampNeg (I r4 (l2 + (7 : Int32)).toNatClampNeg)) fun I8 =>
      bnd (l2 + (1 : Int32)) fun v9 =>
      f_M_remove_b15 S n I8 J l0 l1 v9
def f_M_remove (S : gS) (I : gMI) (J : gMJ) (p0 : Nat) (p1 : Int32) : Option (gMI × gMJ) :=
  gd (S.1 p0 = 9) <|
  bnd (upI I p0 32 ((I p0 32) - (1 : Int32))) fun I2 =>
  bnd ((7 : Int32) * p1) fun v3 =>
  f_M_remove_b15 S gFuel I2 J p0 p1 v3
def f_M_bring_b163 (S : gS) (I : gMI) (J : gMJ)  : Option (gMI × gMJ) :=
  some (I, J)
def f_M_bring_b252 (S : gS) (I : gMI) (J : gMJ)  : Option (gMI × gMJ) :=
  some (I, J)
def f_M_bring_b237 (S : gS) (I : gMI) (J : gMJ) (s0 : Int32) (l0 : Nat) (l6 : Int32) (l8 : Int32) : Option (gMI × gMJ) :=
  if s0 = 0 then
    f_M_bring_b252 S I J
  else
    gd (S.1 l0 = 9) <|
    bd2 (f_M_take S I J l0 l8 l6) fun I3 J4 =>
    f_M_bring_b252 S I3 J4
def f_M_bring_b236 (S : gS) (I : gMI) (J : gMJ) (l0 : Nat) (l6 : Int32) (l8 : Int32) : Option (gMI × gMJ) :=
  f_M_bring_b237 S I J (0 : Int32) l0 l6 l8
def f_M_bring_b337 (S : gS) (I : gMI) (J : gMJ)  : Option (gMI × gMJ) :=
  some (I, J)
def f_M_bring_b295 (S : gS) (I : gMI) (J : gMJ) (l0 : Nat) (l2 : Int32) (l3 : Int32) (l4 : Int32) (l5 : Int32) (l6 : Int32) (l7 : Int32) (l8 : Int32) : Option (gMI × gMJ) :=
  gd (S.1 l0 = 9) <|
  Option.bind (S.2.2 l0 17) fun r2 =>
  gd (S.1 r2 = 21) <|
  gd (¬ ((((8 : Int32) * l8) + l7) < 0 ∨ S.2.1 r2 ≤ (((8 : Int32) * l8) + l7).toNatClampNeg)) <|
  if (I r2 (((8 : Int32) * l8) + l7).toNatClampNeg) = (-1 : Int32) then
    f_M_bring_b337 S I J
  else
    bd2 (f_M_readyAnswer S I J l0 l2 l7 l8) fun I6 J7 =>
    bd2 (f_M_send S I6 J7 l0 (l2 + (1 : Int32)) l3 l4 l5 l7 l6) fun I9 J10 =>
    f_M_bring_b337 S I9 J10
def f_M_bring_b93 (S : gS) : Nat → gMI → gMJ → Nat → Int32 → Int32 → Int32 → Int32 → Int32 → Int32 → Int32 → Int32 → Option (gMI × gMJ)
  | 0, _, _, _, _, _, _, _, _, _, _, _ => none
  | n + 1, I, J, l0, l1, l2, l3, l4, l5, l6, l7, l8 =>
    if (64 : Int32) ≤ l8 then
      gd (S.1 l0 = 9) <|
      Option.bind (S.2.2 l0 35) fun r3 =>
      gd (S.1 r3 = 23) <|
      gd (¬ (l1 < 0 ∨ S.2.1 r3 ≤ l1.toNatClampNeg)) <|
      bnd (upJ J l0 38 (J r3 l1.toNatClampNeg)) fun J6 =>
      bd2 (f_M_remove S I J6 l0 l1) fun I7 J8 =>
      Option.bind (f_M_placeOf S I7 J8 l0 l3) fun x10 =>
      if x10 = (-1 : Int32) then
        f_M_bring_b163 S I7 J8
      else
        Option.bind (S.2.2 l0 1) fun r13 =>
        gd (S.1 r13 = 22) <|
        gd (¬ (l7 < 0 ∨ S.2.1 r13 ≤ l7.toNatClampNeg)) <|
        if (I7 r13 l7.toNatClampNeg) = 0 then
          if (l2 - l2 / (2 : Int32) * (2 : Int32)) = 0 then
            Option.bind (S.2.2 l0 9) fun r27 =>
            gd (S.1 r27 = 21) <|
            gd (¬ (x10 < 0 ∨ S.2.1 r27 ≤ x10.toNatClampNeg)) <|
            if (I7 r27 x10.toNatClampNeg) = l7 then
              Option.bind (S.2.2 l0 12) fun r31 =>
              gd (S.1 r31 = 21) <|
              gd (¬ (x10 < 0 ∨ S.2.1 r31 ≤ x10.toNatClampNeg)) <|
              if (I7 r31 x10.toNatClampNeg) = 0 then
                Option.bind (S.2.2 l0 10) fun r35 =>
                gd (S.1 r35 = 21) <|
                gd (¬ (x10 < 0 ∨ S.2.1 r35 ≤ x10.toNatClampNeg)) <|
                if (I7 r35 x10.toNatClampNeg) = l4 then
                  Option.bind (S.2.2 l0 11) fun r39 =>
                  gd (S.1 r39 = 21) <|
                  gd (¬ (x10 < 0 ∨ S.2.1 r39 ≤ x10.toNatClampNeg)) <|
                  if (I7 r39 x10.toNatClampNeg) = l5 then
                    Option.bind (S.2.2 l0 27) fun r43 =>
                    gd (S.1 r43 = 22) <|
                    gd (¬ ((((8 : Int32) * x10) + l6) < 0 ∨ S.2.1 r43 ≤ (((8 : Int32) * x10) + l6).toNatClampNeg)) <|
                    if (I7 r43 (((8 : Int32) * x10) + l6).toNatClampNeg) = 0 then
                      f_M_bring_b237 S I7 J8 (1 : Int32) l0 l6 x10
                    else
                      f_M_bring_b236 S I7 J8 l0 l6 x10
                  else
                    f_M_bring_b236 S I7 J8 l0 l6 x10
                else
                  f_M_bring_b236 S I7 J8 l0 l6 x10
              else
                f_M_bring_b236 S I7 J8 l0 l6 x10
            else
              f_M_bring_b236 S I7 J8 l0 l6 x10
          else
            if l2 = (1 : Int32) then
              Option.bind (S.2.2 l0 17) fun r19 =>
              gd (S.1 r19 = 21) <|
              gd (¬ ((((8 : Int32) * x10) + l7) < 0 ∨ S.2.1 r19 ≤ (((8 : Int32) * x10) + l7).toNatClampNeg)) <|
              if (I7 r19 (((8 : Int32) * x10) + l7).toNatClampNeg) = (-1 : Int32) then
                Option.bind (S.2.2 l0 2) fun r23 =>
                gd (S.1 r23 = 21) <|
                gd (¬ (l7 < 0 ∨ S.2.1 r23 ≤ l7.toNatClampNeg)) <|
                bnd (upI I7 r19 (((8 : Int32) * x10) + l7).toNatClampNeg (I7 r23 l7.toNatClampNeg)) fun I26 =>
                f_M_bring_b295 S I26 J8 l0 l2 l3 l4 l5 l6 l7 x10
              else
                f_M_bring_b295 S I7 J8 l0 l2 l3 l4 l5 l6 l7 x10
            else
              f_M_bring_b295 S I7 J8 l0 l2 l3 l4 l5 l6 l7 x10
        else
          f_M_bring_b163 S I7 J8
    else
      gd (S.1 l0 = 9) <|
      Option.bind (S.2.2 l0 36) fun r48 =>
      Option.bind (S.2.2 l0 34) fun r49 =>
      gd (S.1 r49 = 21) <|
      gd (¬ ((((64 : Int32) * l1) + l8) < 0 ∨ S.2.1 r49 ≤ (((64 : Int32) * l1) + l8).toNatClampNeg)) <|
      gd (S.1 r48 = 21) <|
      gd (¬ (l8 < 0 ∨ S.2.1 r48 ≤ l8.toNatClampNeg)) <|
      bnd (upI I r48 l8.toNatClampNeg (I r49 (((64 : Int32) * l1) + l8).toNatClampNeg)) fun I54 =>
      bnd (l8 + (1 : Int32)) fun v55 =>
      f_M_bring_b93 S n I54 J l0 l1 l2 l3 l4 l5 l6 l7 v55
def f_M_bring (S : gS) (I : gMI) (J : gMJ) (p0 : Nat) (p1 : Int32) : Option (gMI × gMJ) :=
  gd (S.1 p0 = 9) <|
  Option.bind (S.2.2 p0 33) fun r2 =>
  gd (S.1 r2 = 21) <|
  gd (¬ (((7 : Int32) * p1) < 0 ∨ S.2.1 r2 ≤ ((7 : Int32) * p1).toNatClampNeg)) <|
  bnd (I r2 ((7 : Int32) * p1).toNatClampNeg) fun v5 =>
  gd (¬ ((((7 : Int32) * p1) + (1 : Int32)) < 0 ∨ S.2.1 r2 ≤ (((7 : Int32) * p1) + (1 : Int32)).toNatClampNeg)) <|
  bnd (I r2 (((7 : Int32) * p1) + (1 : Int32)).toNatClampNeg) fun v7 =>
  gd (¬ ((((7 : Int32) * p1) + (2 : Int32)) < 0 ∨ S.2.1 r2 ≤ (((7 : Int32) * p1) + (2 : Int32)).toNatClampNeg)) <|
  bnd (I r2 (((7 : Int32) * p1) + (2 : Int32)).toNatClampNeg) fun v9 =>
  gd (¬ ((((7 : Int32) * p1) + (3 : Int32)) < 0 ∨ S.2.1 r2 ≤ (((7 : Int32) * p1) + (3 : Int32)).toNatClampNeg)) <|
  bnd (I r2 (((7 : Int32) * p1) + (3 : Int32)).toNatClampNeg) fun v11 =>
  gd (¬ ((((7 : Int32) * p1) + (4 : Int32)) < 0 ∨ S.2.1 r2 ≤ (((7 : Int32) * p1) + (4 : Int32)).toNatClampNeg)) <|
  bnd (I r2 (((7 : Int32) * p1) + (4 : Int32)).toNatClampNeg) fun v13 =>
  gd (¬ ((((7 : Int32) * p1) + (5 : Int32)) < 0 ∨ S.2.1 r2 ≤ (((7 : Int32) * p1) + (5 : Int32)).toNatClampNeg)) <|
  bnd (I r2 (((7 : Int32) * p1) + (5 : Int32)).toNatClampNeg) fun v15 =>
  gd (¬ ((((7 : Int32) * p1) + (6 : Int32)) < 0 ∨ S.2.1 r2 ≤ (((7 : Int32) * p1) + (6 : Int32)).toNatClampNeg)) <|
  bnd (upI I p0 37 (I r2 (((7 : Int32) * p1) + (6 : Int32)).toNatClampNeg)) fun I17 =>
  f_M_bring_b93 S gFuel I17 J p0 p1 v5 v7 v9 v11 v13 v15 (0 : Int32)
def f_M_isLetter_b17 (S : gS) (I : gMI) (J : gMJ) (s0 : Int32) : Option (Int32) :=
  gd (s0 = 0 ∨ s0 = 1) <|
  some (s0)
def f_M_isLetter_b16 (S : gS) (I : gMI) (J : gMJ)  : Option (Int32) :=
  f_M_isLetter_b17 S I J (0 : Int32)
def f_M_isLetter (S : gS) (I : gMI) (J : gMJ) (p0 : Nat) (p1 : Int32) : Option (Int32) :=
  if p1 < 0 then
    f_M_isLetter_b16 S I J
  else
    gd (S.1 p0 = 9) <|
    if (I p0 32) ≤ p1 then
      f_M_isLetter_b16 S I J
    else
      f_M_isLetter_b17 S I J (1 : Int32)
def f_M_letters (S : gS) (I : gMI) (J : gMJ) (p0 : Nat) : Option (Int32 × gMI) :=
  gd (S.1 p0 = 9) <|
  bnd (upI I p0 0 (0 : Int32)) fun I2 =>
  some ((I2 p0 32), I2)
def f_M_letter_b168 (S : gS) (J : gMJ) (I : gMI) (s0 : Int32) : Option (Int32 × gMI) :=
  some (s0, I)
def f_M_letter_b28 (S : gS) (J : gMJ) (I : gMI) (s0 : Int32) (s1 : Nat) (l0 : Nat) (l1 : Int32) (l2 : Int32) : Option (Int32 × gMI) :=
  gd (S.1 s1 = 9) <|
  bnd (upI I s1 0 s0) fun I2 =>
  gd (S.1 l0 = 9) <|
  if (I2 l0 0) ≤ 0 then
    if l2 ≤ (6 : Int32) then
      bnd ((7 : Int32) * l1) fun v6 =>
      if l2 = 0 then
        Option.bind (S.2.2 l0 33) fun r31 =>
        gd (S.1 r31 = 21) <|
        gd (¬ (v6 < 0 ∨ S.2.1 r31 ≤ v6.toNatClampNeg)) <|
        f_M_letter_b168 S J I2 (I2 r31 v6.toNatClampNeg)
      else
        if l2 = (1 : Int32) then
          Option.bind (S.2.2 l0 33) fun r28 =>
          gd (S.1 r28 = 21) <|
          gd (¬ ((v6 + (1 : Int32)) < 0 ∨ S.2.1 r28 ≤ (v6 + (1 : Int32)).toNatClampNeg)) <|
          f_M_letter_b168 S J I2 (I2 r28 (v6 + (1 : Int32)).toNatClampNeg)
        else
          if l2 = (2 : Int32) then
            Option.bind (S.2.2 l0 33) fun r25 =>
            gd (S.1 r25 = 21) <|
            gd (¬ ((v6 + (3 : Int32)) < 0 ∨ S.2.1 r25 ≤ (v6 + (3 : Int32)).toNatClampNeg)) <|
            f_M_letter_b168 S J I2 (I2 r25 (v6 + (3 : Int32)).toNatClampNeg)
          else
            if l2 = (3 : Int32) then
              Option.bind (S.2.2 l0 33) fun r22 =>
              gd (S.1 r22 = 21) <|
              gd (¬ ((v6 + (4 : Int32)) < 0 ∨ S.2.1 r22 ≤ (v6 + (4 : Int32)).toNatClampNeg)) <|
              f_M_letter_b168 S J I2 (I2 r22 (v6 + (4 : Int32)).toNatClampNeg)
            else
              if l2 = (4 : Int32) then
                Option.bind (S.2.2 l0 33) fun r19 =>
                gd (S.1 r19 = 21) <|
                gd (¬ ((v6 + (5 : Int32)) < 0 ∨ S.2.1 r19 ≤ (v6 + (5 : Int32)).toNatClampNeg)) <|
                f_M_letter_b168 S J I2 (I2 r19 (v6 + (5 : Int32)).toNatClampNeg)
              else
                if l2 = (5 : Int32) then
                  Option.bind (S.2.2 l0 33) fun r16 =>
                  gd (S.1 r16 = 21) <|
                  gd (¬ ((v6 + (2 : Int32)) < 0 ∨ S.2.1 r16 ≤ (v6 + (2 : Int32)).toNatClampNeg)) <|
                  f_M_letter_b168 S J I2 (I2 r16 (v6 + (2 : Int32)).toNatClampNeg)
                else
                  Option.bind (S.2.2 l0 33) fun r13 =>
                  gd (S.1 r13 = 21) <|
                  gd (¬ ((v6 + (6 : Int32)) < 0 ∨ S.2.1 r13 ≤ (v6 + (6 : Int32)).toNatClampNeg)) <|
                  f_M_letter_b168 S J I2 (I2 r13 (v6 + (6 : Int32)).toNatClampNeg)
    else
      Option.bind (S.2.2 l0 34) fun r34 =>
      gd (S.1 r34 = 21) <|
      gd (¬ (((((64 : Int32) * l1) + l2) - (7 : Int32)) < 0 ∨ S.2.1 r34 ≤ ((((64 : Int32) * l1) + l2) - (7 : Int32)).toNatClampNeg)) <|
      some ((I2 r34 ((((64 : Int32) * l1) + l2) - (7 : Int32)).toNatClampNeg), I2)
  else
    some ((0 : Int32), I2)
def f_M_letter_b23 (S : gS) (J : gMJ) (I : gMI) (s0 : Nat) (l0 : Nat) (l1 : Int32) (l2 : Int32) : Option (Int32 × gMI) :=
  f_M_letter_b28 S J I (2 : Int32) s0 l0 l1 l2
def f_M_letter (S : gS) (I : gMI) (J : gMJ) (p0 : Nat) (p1 : Int32) (p2 : Int32) : Option (Int32 × gMI) :=
  gd (S.1 p0 = 9) <|
  Option.bind (f_M_isLetter S I J p0 p1) fun x2 =>
  if x2 = 0 then
    f_M_letter_b28 S J I (1 : Int32) p0 p0 p1 p2
  else
    if p2 < 0 then
      f_M_letter_b23 S J I p0 p0 p1 p2
    else
      if p2 ≤ (70 : Int32) then
        f_M_letter_b28 S J I (0 : Int32) p0 p0 p1 p2
      else
        f_M_letter_b23 S J I p0 p0 p1 p2
def f_M_deliver_b44 (S : gS) (I : gMI) (J : gMJ) (s0 : Int32) : Option (Int32 × gMI × gMJ) :=
  some (s0, I, J)
def f_M_deliver_b29 (S : gS) (I : gMI) (J : gMJ) (l0 : Nat) : Option (Int32 × gMI × gMJ) :=
  gd (S.1 l0 = 9) <|
  if (I l0 0) ≤ 0 then
    f_M_deliver_b44 S I J (I l0 32)
  else
    f_M_deliver_b44 S I J (0 : Int32)
def f_M_deliver_b14 (S : gS) (I : gMI) (J : gMJ) (s0 : Int32) (s1 : Nat) (l0 : Nat) (l1 : Int32) : Option (Int32 × gMI × gMJ) :=
  gd (S.1 s1 = 9) <|
  bnd (upI I s1 0 s0) fun I2 =>
  gd (S.1 l0 = 9) <|
  if (I2 l0 0) = 0 then
    bd2 (f_M_bring S I2 J l0 l1) fun I5 J6 =>
    f_M_deliver_b29 S I5 J6 l0
  else
    f_M_deliver_b29 S I2 J l0
def f_M_deliver (S : gS) (I : gMI) (J : gMJ) (p0 : Nat) (p1 : Int32) : Option (Int32 × gMI × gMJ) :=
  gd (S.1 p0 = 9) <|
  Option.bind (f_M_isLetter S I J p0 p1) fun x2 =>
  if x2 = 0 then
    f_M_deliver_b14 S I J (1 : Int32) p0 p0 p1
  else
    f_M_deliver_b14 S I J (0 : Int32) p0 p0 p1
def f_M_lose_b44 (S : gS) (I : gMI) (J : gMJ) (s0 : Int32) : Option (Int32 × gMI × gMJ) :=
  some (s0, I, J)
def f_M_lose_b29 (S : gS) (I : gMI) (J : gMJ) (l0 : Nat) : Option (Int32 × gMI × gMJ) :=
  gd (S.1 l0 = 9) <|
  if (I l0 0) ≤ 0 then
    f_M_lose_b44 S I J (I l0 32)
  else
    f_M_lose_b44 S I J (0 : Int32)
def f_M_lose_b14 (S : gS) (I : gMI) (J : gMJ) (s0 : Int32) (s1 : Nat) (l0 : Nat) (l1 : Int32) : Option (Int32 × gMI × gMJ) :=
  gd (S.1 s1 = 9) <|
  bnd (upI I s1 0 s0) fun I2 =>
  gd (S.1 l0 = 9) <|
  if (I2 l0 0) = 0 then
    bd2 (f_M_remove S I2 J l0 l1) fun I5 J6 =>
    f_M_lose_b29 S I5 J6 l0
  else
    f_M_lose_b29 S I2 J l0
def f_M_lose (S : gS) (I : gMI) (J : gMJ) (p0 : Nat) (p1 : Int32) : Option (Int32 × gMI × gMJ) :=
  gd (S.1 p0 = 9) <|
  Option.bind (f_M_isLetter S I J p0 p1) fun x2 =>
  if x2 = 0 then
    f_M_lose_b14 S I J (1 : Int32) p0 p0 p1
  else
    f_M_lose_b14 S I J (0 : Int32) p0 p0 p1
def f_M_twin_b33 (S : gS) (I : gMI) (J : gMJ)  : Option (Int32 × gMI × gMJ) :=
  some ((0 : Int32), I, J)
def f_M_twin_b76 (S : gS) : Nat → gMI → gMJ → Nat → Int32 → Int32 → Option (Int32 × gMI × gMJ)
  | 0, _, _, _, _, _ => none
  | n + 1, I, J, l0, l1, l2 =>
    if (64 : Int32) ≤ l2 then
      gd (S.1 l0 = 9) <|
      Option.bind (S.2.2 l0 35) fun r3 =>
      gd (S.1 r3 = 23) <|
      gd (¬ (l1 < 0 ∨ S.2.1 r3 ≤ l1.toNatClampNeg)) <|
      gd (¬ ((I l0 32) < 0 ∨ S.2.1 r3 ≤ (I l0 32).toNatClampNeg)) <|
      bnd (upJ J r3 (I l0 32).toNatClampNeg (J r3 l1.toNatClampNeg)) fun J7 =>
      bnd (upI I l0 32 ((I l0 32) + (1 : Int32))) fun I8 =>
      some ((1 : Int32), I8, J7)
    else
      gd (S.1 l0 = 9) <|
      Option.bind (S.2.2 l0 34) fun r10 =>
      gd (S.1 r10 = 21) <|
      gd (¬ ((((64 : Int32) * l1) + l2) < 0 ∨ S.2.1 r10 ≤ (((64 : Int32) * l1) + l2).toNatClampNeg)) <|
      gd (¬ ((((64 : Int32) * (I l0 32)) + l2) < 0 ∨ S.2.1 r10 ≤ (((64 : Int32) * (I l0 32)) + l2).toNatClampNeg)) <|
      bnd (upI I r10 (((64 : Int32) * (I l0 32)) + l2).toNatClampNeg (I r10 (((64 : Int32) * l1) + l2).toNatClampNeg)) fun I14 =>
      bnd (l2 + (1 : Int32)) fun v15 =>
      f_M_twin_b76 S n I14 J l0 l1 v15
def f_M_twin_b37 (S : gS) : Nat → gMI → gMJ → Nat → Int32 → Int32 → Option (Int32 × gMI × gMJ)
  | 0, _, _, _, _, _ => none
  | n + 1, I, J, l0, l1, l2 =>
    if (7 : Int32) ≤ l2 then
      f_M_twin_b76 S gFuel I J l0 l1 (0 : Int32)
    else
      gd (S.1 l0 = 9) <|
      Option.bind (S.2.2 l0 33) fun r3 =>
      gd (S.1 r3 = 21) <|
      gd (¬ ((((7 : Int32) * l1) + l2) < 0 ∨ S.2.1 r3 ≤ (((7 : Int32) * l1) + l2).toNatClampNeg)) <|
      gd (¬ ((((7 : Int32) * (I l0 32)) + l2) < 0 ∨ S.2.1 r3 ≤ (((7 : Int32) * (I l0 32)) + l2).toNatClampNeg)) <|
      bnd (upI I r3 (((7 : Int32) * (I l0 32)) + l2).toNatClampNeg (I r3 (((7 : Int32) * l1) + l2).toNatClampNeg)) fun I7 =>
      bnd (l2 + (1 : Int32)) fun v8 =>
      f_M_twin_b37 S n I7 J l0 l1 v8
def f_M_twin_b14 (S : gS) (I : gMI) (J : gMJ) (s0 : Int32) (s1 : Nat) (l0 : Nat) (l1 : Int32) : Option (Int32 × gMI × gMJ) :=
  gd (S.1 s1 = 9) <|
  bnd (upI I s1 0 s0) fun I2 =>
  gd (S.1 l0 = 9) <|
  if 0 < (I2 l0 0) then
    f_M_twin_b33 S I2 J
  else
    if (I2 l0 32) = (96 : Int32) then
      f_M_twin_b33 S I2 J
    else
      f_M_twin_b37 S gFuel I2 J l0 l1 (0 : Int32)
def f_M_twin (S : gS) (I : gMI) (J : gMJ) (p0 : Nat) (p1 : Int32) : Option (Int32 × gMI × gMJ) :=
  gd (S.1 p0 = 9) <|
  Option.bind (f_M_isLetter S I J p0 p1) fun x2 =>
  if x2 = 0 then
    f_M_twin_b14 S I J (1 : Int32) p0 p0 p1
  else
    f_M_twin_b14 S I J (0 : Int32) p0 p0 p1
def f_M_run_b52 (S : gS) (I : gMI) (J : gMJ) (l2 : Int32) : Option (Int32 × gMI × gMJ) :=
  some (l2, I, J)
def f_M_run_b22 (S : gS) : Nat → gMI → gMJ → Nat → Int32 → Int32 → Option (Int32 × gMI × gMJ)
  | 0, _, _, _, _, _ => none
  | n + 1, I, J, l0, l1, l2 =>
    gd (S.1 l0 = 9) <|
    if (I l0 0) = 0 then
      if l1 ≤ l2 then
        f_M_run_b52 S I J l2
      else
        if (I l0 32) ≤ 0 then
          f_M_run_b52 S I J l2
        else
          bd2 (f_M_bring S I J l0 (0 : Int32)) fun I5 J6 =>
          bnd (l2 + (1 : Int32)) fun v8 =>
          f_M_run_b22 S n I5 J6 l0 l1 v8
    else
      f_M_run_b52 S I J l2
def f_M_run_b17 (S : gS) (I : gMI) (J : gMJ) (s0 : Int32) (s1 : Nat) (l0 : Nat) (l1 : Int32) : Option (Int32 × gMI × gMJ) :=
  gd (S.1 s1 = 9) <|
  bnd (upI I s1 0 s0) fun I2 =>
  f_M_run_b22 S gFuel I2 J l0 l1 (0 : Int32)
def f_M_run_b12 (S : gS) (I : gMI) (J : gMJ) (s0 : Nat) (l0 : Nat) (l1 : Int32) : Option (Int32 × gMI × gMJ) :=
  f_M_run_b17 S I J (1 : Int32) s0 l0 l1
def f_M_run (S : gS) (I : gMI) (J : gMJ) (p0 : Nat) (p1 : Int32) : Option (Int32 × gMI × gMJ) :=
  if p1 < 0 then
    f_M_run_b12 S I J p0 p0 p1
  else
    if p1 ≤ (1000 : Int32) then
      f_M_run_b17 S I J (0 : Int32) p0 p0 p1
    else
      f_M_run_b12 S I J p0 p0 p1
def f_M_begin (S : gS) (I : gMI) (J : gMJ) (p0 : Nat) (p1 : Int32) (p2 : Int32) : Option (gMI × gMJ) :=
  gd (S.1 p0 = 9) <|
  Option.bind (S.2.2 p0 9) fun r2 =>
  gd (S.1 r2 = 21) <|
  gd (¬ (p1 < 0 ∨ S.2.1 r2 ≤ p1.toNatClampNeg)) <|
  bnd (upI I r2 p1.toNatClampNeg p2) fun I5 =>
  Option.bind (S.2.2 p0 10) fun r6 =>
  gd (S.1 r6 = 21) <|
  gd (¬ (p1 < 0 ∨ S.2.1 r6 ≤ p1.toNatClampNeg)) <|
  bnd (upI I5 r6 p1.toNatClampNeg ((I5 r6 p1.toNatClampNeg) + (1 : Int32))) fun I9 =>
  Option.bind (S.2.2 p0 11) fun r10 =>
  gd (S.1 r10 = 21) <|
  gd (¬ (p1 < 0 ∨ S.2.1 r10 ≤ p1.toNatClampNeg)) <|
  bnd (upI I9 r10 p1.toNatClampNeg (0 : Int32)) fun I13 =>
  Option.bind (S.2.2 p0 12) fun r14 =>
  gd (S.1 r14 = 21) <|
  gd (¬ (p1 < 0 ∨ S.2.1 r14 ≤ p1.toNatClampNeg)) <|
  bnd (upI I13 r14 p1.toNatClampNeg (0 : Int32)) fun I17 =>
  Option.bind (S.2.2 p0 13) fun r18 =>
  gd (S.1 r18 = 21) <|
  gd (¬ (p1 < 0 ∨ S.2.1 r18 ≤ p1.toNatClampNeg)) <|
  bnd (upI I17 r18 p1.toNatClampNeg (0 : Int32)) fun I21 =>
  Option.bind (S.2.2 p0 14) fun r22 =>
  gd (S.1 r22 = 21) <|
  gd (¬ (p1 < 0 ∨ S.2.1 r22 ≤ p1.toNatClampNeg)) <|
  bnd (upI I21 r22 p1.toNatClampNeg (0 : Int32)) fun I25 =>
  Option.bind (S.2.2 p0 15) fun r26 =>
  gd (S.1 r26 = 21) <|
  gd (¬ (p1 < 0 ∨ S.2.1 r26 ≤ p1.toNatClampNeg)) <|
  bnd (upI I25 r26 p1.toNatClampNeg (0 : Int32)) fun I29 =>
  bd2 (f_M_askAll S I29 J p0 p1 (1 : Int32)) fun I30 J31 =>
  some (I30, J31)
def f_M_ask_b86 (S : gS) (k64 : gMI → gMJ → Nat → Int32 → Int32 → Int32 → Int32 → Int32 → Int32 → Int32 → Option (Int32 × gMI × gMJ)) (I : gMI) (J : gMJ) (s0 : Int32) (l0 : Nat) (l1 : Int32) (l2 : Int32) (l3 : Int32) (l4 : Int32) (l5 : Int32) (l7 : Int32) : Option (Int32 × gMI × gMJ) :=
  bnd (l7 + (-1 : Int32)) fun v1 =>
  k64 I J l0 l1 l2 l3 l4 l5 s0 v1
def f_M_ask_b196 (S : gS) : Nat → gMI → gMJ → Nat → Int32 → Int32 → Int32 → Option (Int32 × gMI × gMJ)
  | 0, _, _, _, _, _, _ => none
  | n + 1, I, J, l0, l1, l6, l7 =>
    if (8 : Int32) ≤ l7 then
      gd (S.1 l0 = 9) <|
      Option.bind (S.2.2 l0 10) fun r3 =>
      gd (S.1 r3 = 21) <|
      gd (¬ (l6 < 0 ∨ S.2.1 r3 ≤ l6.toNatClampNeg)) <|
      bnd (upI I r3 l6.toNatClampNeg (0 : Int32)) fun I6 =>
      bd2 (f_M_begin S I6 J l0 l6 l1) fun I7 J8 =>
      some ((I7 l0 4), I7, J8)
    else
      gd (S.1 l0 = 9) <|
      Option.bind (S.2.2 l0 17) fun r11 =>
      gd (S.1 r11 = 21) <|
      gd (¬ ((((8 : Int32) * l6) + l7) < 0 ∨ S.2.1 r11 ≤ (((8 : Int32) * l6) + l7).toNatClampNeg)) <|
      bnd (upI I r11 (((8 : Int32) * l6) + l7).toNatClampNeg (-1 : Int32)) fun I14 =>
      bnd (l7 + (1 : Int32)) fun v15 =>
      f_M_ask_b196 S n I14 J l0 l1 l6 v15
def f_M_ask_b135 (S : gS) (I : gMI) (J : gMJ) (s0 : Int32) (s1 : Nat) (l0 : Nat) (l1 : Int32) (l2 : Int32) (l3 : Int32) (l4 : Int32) (l6 : Int32) : Option (Int32 × gMI × gMJ) :=
  gd (S.1 s1 = 9) <|
  bnd (upI I s1 0 s0) fun I2 =>
  gd (S.1 l0 = 9) <|
  if (I2 l0 0) ≤ 0 then
    bnd (upI I2 l0 4 ((I2 l0 4) + (1 : Int32))) fun I5 =>
    Option.bind (S.2.2 l0 5) fun r6 =>
    gd (S.1 r6 = 21) <|
    gd (¬ (l6 < 0 ∨ S.2.1 r6 ≤ l6.toNatClampNeg)) <|
    bnd (upI I5 r6 l6.toNatClampNeg (I5 l0 4)) fun I9 =>
    Option.bind (S.2.2 l0 6) fun r10 =>
    gd (S.1 r10 = 21) <|
    gd (¬ (l6 < 0 ∨ S.2.1 r10 ≤ l6.toNatClampNeg)) <|
    bnd (upI I9 r10 l6.toNatClampNeg l2) fun I13 =>
    Option.bind (S.2.2 l0 7) fun r14 =>
    gd (S.1 r14 = 21) <|
    gd (¬ (l6 < 0 ∨ S.2.1 r14 ≤ l6.toNatClampNeg)) <|
    bnd (upI I13 r14 l6.toNatClampNeg l3) fun I17 =>
    Option.bind (S.2.2 l0 8) fun r18 =>
    gd (S.1 r18 = 21) <|
    gd (¬ (l6 < 0 ∨ S.2.1 r18 ≤ l6.toNatClampNeg)) <|
    bnd (upI I17 r18 l6.toNatClampNeg l4) fun I21 =>
    f_M_ask_b196 S gFuel I21 J l0 l1 l6 (0 : Int32)
  else
    some ((0 : Int32), I2, J)
def f_M_ask_b130 (S : gS) (I : gMI) (J : gMJ) (s0 : Nat) (l0 : Nat) (l1 : Int32) (l2 : Int32) (l3 : Int32) (l4 : Int32) (l6 : Int32) : Option (Int32 × gMI × gMJ) :=
  f_M_ask_b135 S I J (3 : Int32) s0 l0 l1 l2 l3 l4 l6
def f_M_ask_b64 (S : gS) : Nat → gMI → gMJ → Nat → Int32 → Int32 → Int32 → Int32 → Int32 → Int32 → Int32 → Option (Int32 × gMI × gMJ)
  | 0, _, _, _, _, _, _, _, _, _, _ => none
  | n + 1, I, J, l0, l1, l2, l3, l4, l5, l6, l7 =>
    if l7 < 0 then
      Option.bind (f_M_isLogger S I J l1) fun x2 =>
      if x2 = 0 then
        f_M_ask_b135 S I J (1 : Int32) l0 l0 l1 l2 l3 l4 l6
      else
        if l5 = 0 then
          f_M_ask_b135 S I J (2 : Int32) l0 l0 l1 l2 l3 l4 l6
        else
          gd (S.1 l0 = 9) <|
          Option.bind (S.2.2 l0 1) fun r7 =>
          gd (S.1 r7 = 22) <|
          gd (¬ (l1 < 0 ∨ S.2.1 r7 ≤ l1.toNatClampNeg)) <|
          if (I r7 l1.toNatClampNeg) = 0 then
            if l6 = (-1 : Int32) then
              f_M_ask_b130 S I J l0 l0 l1 l2 l3 l4 l6
            else
              f_M_ask_b135 S I J (0 : Int32) l0 l0 l1 l2 l3 l4 l6
          else
            f_M_ask_b130 S I J l0 l0 l1 l2 l3 l4 l6
    else
      gd (S.1 l0 = 9) <|
      Option.bind (S.2.2 l0 5) fun r13 =>
      gd (S.1 r13 = 21) <|
      gd (¬ (l7 < 0 ∨ S.2.1 r13 ≤ l7.toNatClampNeg)) <|
      if (I r13 l7.toNatClampNeg) = 0 then
        f_M_ask_b86 S (f_M_ask_b64 S n) I J l7 l0 l1 l2 l3 l4 l5 l7
      else
        f_M_ask_b86 S (f_M_ask_b64 S n) I J l6 l0 l1 l2 l3 l4 l5 l7
def f_M_ask_b55 (S : gS) (I : gMI) (J : gMJ) (s0 : Int32) (l0 : Nat) (l1 : Int32) (l2 : Int32) (l3 : Int32) (l4 : Int32) : Option (Int32 × gMI × gMJ) :=
  f_M_ask_b64 S gFuel I J l0 l1 l2 l3 l4 s0 (-1 : Int32) (7 : Int32)
def f_M_ask_b50 (S : gS) (I : gMI) (J : gMJ) (l0 : Nat) (l1 : Int32) (l2 : Int32) (l3 : Int32) (l4 : Int32) : Option (Int32 × gMI × gMJ) :=
  f_M_ask_b55 S I J (1 : Int32) l0 l1 l2 l3 l4
def f_M_ask_b54 (S : gS) (I : gMI) (J : gMJ) (l0 : Nat) (l1 : Int32) (l2 : Int32) (l3 : Int32) (l4 : Int32) : Option (Int32 × gMI × gMJ) :=
  f_M_ask_b55 S I J (0 : Int32) l0 l1 l2 l3 l4
def f_M_ask_b34 (S : gS) (I : gMI) (J : gMJ) (l0 : Nat) (l1 : Int32) (l2 : Int32) (l3 : Int32) (l4 : Int32) : Option (Int32 × gMI × gMJ) :=
  if l2 = (4 : Int32) then
    if l3 < 0 then
      f_M_ask_b54 S I J l0 l1 l2 l3 l4
    else
      if (1000 : Int32) < l3 then
        f_M_ask_b54 S I J l0 l1 l2 l3 l4
      else
        f_M_ask_b50 S I J l0 l1 l2 l3 l4
  else
    f_M_ask_b50 S I J l0 l1 l2 l3 l4
def f_M_ask_b18 (S : gS) (I : gMI) (J : gMJ) (l0 : Nat) (l1 : Int32) (l2 : Int32) (l3 : Int32) (l4 : Int32) : Option (Int32 × gMI × gMJ) :=
  if l2 = (2 : Int32) then
    if l3 < 0 then
      f_M_ask_b54 S I J l0 l1 l2 l3 l4
    else
      if (499 : Int32) < l3 then
        f_M_ask_b54 S I J l0 l1 l2 l3 l4
      else
        f_M_ask_b34 S I J l0 l1 l2 l3 l4
  else
    f_M_ask_b34 S I J l0 l1 l2 l3 l4
def f_M_ask (S : gS) (I : gMI) (J : gMJ) (p0 : Nat) (p1 : Int32) (p2 : Int32) (p3 : Int32) (p4 : Int32) : Option (Int32 × gMI × gMJ) :=
  if p2 < 0 then
    f_M_ask_b54 S I J p0 p1 p2 p3 p4
  else
    if (4 : Int32) < p2 then
      f_M_ask_b54 S I J p0 p1 p2 p3 p4
    else
      if p2 = 0 then
        if p3 < (1 : Int32) then
          f_M_ask_b54 S I J p0 p1 p2 p3 p4
        else
          f_M_ask_b18 S I J p0 p1 p2 p3 p4
      else
        f_M_ask_b18 S I J p0 p1 p2 p3 p4
def f_M_resend_b108 (S : gS) (k52 : gMI → gMJ → Nat → Int32 → Int32 → Int32 → Int32 → Option (Int32 × gMI × gMJ)) (I : gMI) (J : gMJ) (l0 : Nat) (l1 : Int32) (l2 : Int32) (l3 : Int32) (l4 : Int32) : Option (Int32 × gMI × gMJ) :=
  bnd (l4 + (1 : Int32)) fun v1 =>
  k52 I J l0 l1 l2 l3 v1
def f_M_resend_b52 (S : gS) : Nat → gMI → gMJ → Nat → Int32 → Int32 → Int32 → Int32 → Option (Int32 × gMI × gMJ)
  | 0, _, _, _, _, _, _, _ => none
  | n + 1, I, J, l0, l1, l2, l3, l4 =>
    if (8 : Int32) ≤ l4 then
      some (l3, I, J)
    else
      gd (S.1 l0 = 9) <|
      Option.bind (S.2.2 l0 27) fun r3 =>
      gd (S.1 r3 = 22) <|
      gd (¬ ((((8 : Int32) * l2) + l4) < 0 ∨ S.2.1 r3 ≤ (((8 : Int32) * l2) + l4).toNatClampNeg)) <|
      if (I r3 (((8 : Int32) * l2) + l4).toNatClampNeg) = 0 then
        Option.bind (S.2.2 l0 16) fun r7 =>
        gd (S.1 r7 = 21) <|
        gd (¬ (l2 < 0 ∨ S.2.1 r7 ≤ l2.toNatClampNeg)) <|
        Option.bind (S.2.2 l0 10) fun r10 =>
        gd (S.1 r10 = 21) <|
        gd (¬ (l2 < 0 ∨ S.2.1 r10 ≤ l2.toNatClampNeg)) <|
        Option.bind (S.2.2 l0 11) fun r13 =>
        gd (S.1 r13 = 21) <|
        gd (¬ (l2 < 0 ∨ S.2.1 r13 ≤ l2.toNatClampNeg)) <|
        Option.bind (S.2.2 l0 9) fun r16 =>
        gd (S.1 r16 = 21) <|
        gd (¬ (l2 < 0 ∨ S.2.1 r16 ≤ l2.toNatClampNeg)) <|
        bd2 (f_M_send S I J l0 (I r7 l2.toNatClampNeg) l1 (I r10 l2.toNatClampNeg) (I r13 l2.toNatClampNeg) (I r16 l2.toNatClampNeg) l4) fun I19 J20 =>
        bnd (l3 + (1 : Int32)) fun v22 =>
        f_M_resend_b108 S (f_M_resend_b52 S n) I19 J20 l0 l1 l2 v22 l4
      else
        f_M_resend_b108 S (f_M_resend_b52 S n) I J l0 l1 l2 l3 l4
def f_M_resend_b30 (S : gS) (I : gMI) (J : gMJ) (s0 : Int32) (s1 : Nat) (l0 : Nat) (l1 : Int32) (l2 : Int32) : Option (Int32 × gMI × gMJ) :=
  gd (S.1 s1 = 9) <|
  bnd (upI I s1 0 s0) fun I2 =>
  gd (S.1 l0 = 9) <|
  if (I2 l0 0) ≤ 0 then
    bd2 (f_M_readyAsk S I2 J l0 l2) fun I5 J6 =>
    f_M_resend_b52 S gFuel I5 J6 l0 l1 l2 (0 : Int32) (0 : Int32)
  else
    some ((0 : Int32), I2, J)
def f_M_resend (S : gS) (I : gMI) (J : gMJ) (p0 : Nat) (p1 : Int32) : Option (Int32 × gMI × gMJ) :=
  gd (S.1 p0 = 9) <|
  Option.bind (f_M_placeOf S I J p0 p1) fun x2 =>
  if x2 = (-1 : Int32) then
    f_M_resend_b30 S I J (1 : Int32) p0 p0 p1 x2
  else
    Option.bind (S.2.2 p0 12) fun r5 =>
    gd (S.1 r5 = 21) <|
    gd (¬ (x2 < 0 ∨ S.2.1 r5 ≤ x2.toNatClampNeg)) <|
    if (I r5 x2.toNatClampNeg) = 0 then
      f_M_resend_b30 S I J (0 : Int32) p0 p0 p1 x2
    else
      f_M_resend_b30 S I J (2 : Int32) p0 p0 p1 x2
def f_M_takeOver_b56 (S : gS) (I : gMI) (J : gMJ) (s0 : Int32) (s1 : Nat) (l0 : Nat) (l2 : Int32) (l3 : Int32) : Option (Int32 × gMI × gMJ) :=
  gd (S.1 s1 = 9) <|
  bnd (upI I s1 0 s0) fun I2 =>
  gd (S.1 l0 = 9) <|
  if (I2 l0 0) ≤ 0 then
    bd2 (f_M_begin S I2 J l0 l3 l2) fun I5 J6 =>
    Option.bind (S.2.2 l0 10) fun r8 =>
    gd (S.1 r8 = 21) <|
    gd (¬ (l3 < 0 ∨ S.2.1 r8 ≤ l3.toNatClampNeg)) <|
    some ((I5 r8 l3.toNatClampNeg), I5, J6)
  else
    some ((0 : Int32), I2, J)
def f_M_takeOver_b19 (S : gS) (I : gMI) (J : gMJ) (s0 : Nat) (l0 : Nat) (l2 : Int32) (l3 : Int32) : Option (Int32 × gMI × gMJ) :=
  f_M_takeOver_b56 S I J (1 : Int32) s0 l0 l2 l3
def f_M_takeOver_b51 (S : gS) (I : gMI) (J : gMJ) (s0 : Nat) (l0 : Nat) (l2 : Int32) (l3 : Int32) : Option (Int32 × gMI × gMJ) :=
  f_M_takeOver_b56 S I J (2 : Int32) s0 l0 l2 l3
def f_M_takeOver_b55 (S : gS) (I : gMI) (J : gMJ) (s0 : Nat) (l0 : Nat) (l2 : Int32) (l3 : Int32) : Option (Int32 × gMI × gMJ) :=
  f_M_takeOver_b56 S I J (0 : Int32) s0 l0 l2 l3
def f_M_takeOver (S : gS) (I : gMI) (J : gMJ) (p0 : Nat) (p1 : Int32) (p2 : Int32) : Option (Int32 × gMI × gMJ) :=
  gd (S.1 p0 = 9) <|
  Option.bind (f_M_placeOf S I J p0 p1) fun x2 =>
  if x2 = (-1 : Int32) then
    f_M_takeOver_b19 S I J p0 p0 p2 x2
  else
    Option.bind (f_M_isLogger S I J p2) fun x5 =>
    if x5 = 0 then
      f_M_takeOver_b19 S I J p0 p0 p2 x2
    else
      Option.bind (S.2.2 p0 1) fun r8 =>
      gd (S.1 r8 = 22) <|
      gd (¬ (p2 < 0 ∨ S.2.1 r8 ≤ p2.toNatClampNeg)) <|
      if (I r8 p2.toNatClampNeg) = 0 then
        Option.bind (S.2.2 p0 12) fun r12 =>
        gd (S.1 r12 = 21) <|
        gd (¬ (x2 < 0 ∨ S.2.1 r12 ≤ x2.toNatClampNeg)) <|
        if (I r12 x2.toNatClampNeg) = 0 then
          f_M_takeOver_b55 S I J p0 p0 p2 x2
        else
          if (I r12 x2.toNatClampNeg) = (3 : Int32) then
            f_M_takeOver_b55 S I J p0 p0 p2 x2
          else
            f_M_takeOver_b51 S I J p0 p0 p2 x2
      else
        f_M_takeOver_b51 S I J p0 p0 p2 x2
def f_M_crash_b80 (S : gS) (J : gMJ) (k36 : gMI → Nat → Int32 → Int32 → Int32 → Option (Int32 × gMI)) (I : gMI) (l0 : Nat) (l1 : Int32) (l2 : Int32) (l3 : Int32) : Option (Int32 × gMI) :=
  bnd (l3 + (1 : Int32)) fun v1 =>
  k36 I l0 l1 l2 v1
def f_M_crash_b36 (S : gS) (J : gMJ) : Nat → gMI → Nat → Int32 → Int32 → Int32 → Option (Int32 × gMI)
  | 0, _, _, _, _, _ => none
  | n + 1, I, l0, l1, l2, l3 =>
    if (8 : Int32) ≤ l3 then
      some (l2, I)
    else
      gd (S.1 l0 = 9) <|
      Option.bind (S.2.2 l0 5) fun r3 =>
      gd (S.1 r3 = 21) <|
      gd (¬ (l3 < 0 ∨ S.2.1 r3 ≤ l3.toNatClampNeg)) <|
      if (I r3 l3.toNatClampNeg) ≤ 0 then
        f_M_crash_b80 S J (f_M_crash_b36 S J n) I l0 l1 l2 l3
      else
        Option.bind (S.2.2 l0 9) fun r7 =>
        gd (S.1 r7 = 21) <|
        gd (¬ (l3 < 0 ∨ S.2.1 r7 ≤ l3.toNatClampNeg)) <|
        if (I r7 l3.toNatClampNeg) = l1 then
          Option.bind (S.2.2 l0 12) fun r11 =>
          gd (S.1 r11 = 21) <|
          gd (¬ (l3 < 0 ∨ S.2.1 r11 ≤ l3.toNatClampNeg)) <|
          if (I r11 l3.toNatClampNeg) = 0 then
            bnd (upI I r11 l3.toNatClampNeg (3 : Int32)) fun I15 =>
            bnd (l2 + (1 : Int32)) fun v16 =>
            f_M_crash_b80 S J (f_M_crash_b36 S J n) I15 l0 l1 v16 l3
          else
            f_M_crash_b80 S J (f_M_crash_b36 S J n) I l0 l1 l2 l3
        else
          f_M_crash_b80 S J (f_M_crash_b36 S J n) I l0 l1 l2 l3
def f_M_crash_b13 (S : gS) (J : gMJ) (I : gMI) (s0 : Int32) (s1 : Nat) (l0 : Nat) (l1 : Int32) : Option (Int32 × gMI) :=
  gd (S.1 s1 = 9) <|
  bnd (upI I s1 0 s0) fun I2 =>
  gd (S.1 l0 = 9) <|
  if (I2 l0 0) ≤ 0 then
    Option.bind (S.2.2 l0 1) fun r5 =>
    gd (S.1 r5 = 22) <|
    gd (¬ (l1 < 0 ∨ S.2.1 r5 ≤ l1.toNatClampNeg)) <|
    bnd (upI I2 r5 l1.toNatClampNeg (1 : Int32)) fun I8 =>
    f_M_crash_b36 S J gFuel I8 l0 l1 (0 : Int32) (0 : Int32)
  else
    some ((0 : Int32), I2)
def f_M_crash (S : gS) (I : gMI) (J : gMJ) (p0 : Nat) (p1 : Int32) : Option (Int32 × gMI) :=
  Option.bind (f_M_isLogger S I J p1) fun x1 =>
  if x1 = 0 then
    f_M_crash_b13 S J I (1 : Int32) p0 p0 p1
  else
    f_M_crash_b13 S J I (0 : Int32) p0 p0 p1
def f_M_restart_b30 (S : gS) (J : gMJ) (I : gMI)  : Option (gMI) :=
  some (I)
def f_M_restart_b13 (S : gS) (J : gMJ) (I : gMI) (s0 : Int32) (s1 : Nat) (l0 : Nat) (l1 : Int32) : Option (gMI) :=
  gd (S.1 s1 = 9) <|
  bnd (upI I s1 0 s0) fun I2 =>
  gd (S.1 l0 = 9) <|
  if (I2 l0 0) = 0 then
    Option.bind (S.2.2 l0 1) fun r5 =>
    gd (S.1 r5 = 22) <|
    gd (¬ (l1 < 0 ∨ S.2.1 r5 ≤ l1.toNatClampNeg)) <|
    bnd (upI I2 r5 l1.toNatClampNeg (0 : Int32)) fun I8 =>
    f_M_restart_b30 S J I8
  else
    f_M_restart_b30 S J I2
def f_M_restart (S : gS) (I : gMI) (J : gMJ) (p0 : Nat) (p1 : Int32) : Option (gMI) :=
  Option.bind (f_M_isLogger S I J p1) fun x1 =>
  if x1 = 0 then
    f_M_restart_b13 S J I (1 : Int32) p0 p0 p1
  else
    f_M_restart_b13 S J I (0 : Int32) p0 p0 p1
def f_M_state_b37 (S : gS) (J : gMJ) (I : gMI) (s0 : Int32) : Option (Int32 × gMI) :=
  some (s0, I)
def f_M_state_b17 (S : gS) (J : gMJ) (I : gMI) (s0 : Int32) (s1 : Nat) (l0 : Nat) (l2 : Int32) : Option (Int32 × gMI) :=
  gd (S.1 s1 = 9) <|
  bnd (upI I s1 0 s0) fun I2 =>
  gd (S.1 l0 = 9) <|
  if (I2 l0 0) ≤ 0 then
    Option.bind (S.2.2 l0 12) fun r5 =>
    gd (S.1 r5 = 21) <|
    gd (¬ (l2 < 0 ∨ S.2.1 r5 ≤ l2.toNatClampNeg)) <|
    f_M_state_b37 S J I2 (I2 r5 l2.toNatClampNeg)
  else
    f_M_state_b37 S J I2 (0 : Int32)
def f_M_state (S : gS) (I : gMI) (J : gMJ) (p0 : Nat) (p1 : Int32) : Option (Int32 × gMI) :=
  gd (S.1 p0 = 9) <|
  Option.bind (f_M_placeOf S I J p0 p1) fun x2 =>
  if x2 = (-1 : Int32) then
    f_M_state_b17 S J I (1 : Int32) p0 p0 x2
  else
    f_M_state_b17 S J I (0 : Int32) p0 p0 x2
def f_M_answer_b51 (S : gS) (J : gMJ) (I : gMI) (s0 : Int64) : Option (Int64 × gMI) :=
  some (s0, I)
def f_M_answer_b31 (S : gS) (J : gMJ) (I : gMI) (s0 : Int32) (s1 : Nat) (l0 : Nat) (l2 : Int32) : Option (Int64 × gMI) :=
  gd (S.1 s1 = 9) <|
  bnd (upI I s1 0 s0) fun I2 =>
  gd (S.1 l0 = 9) <|
  if (I2 l0 0) ≤ 0 then
    Option.bind (S.2.2 l0 26) fun r5 =>
    gd (S.1 r5 = 23) <|
    gd (¬ (l2 < 0 ∨ S.2.1 r5 ≤ l2.toNatClampNeg)) <|
    f_M_answer_b51 S J I2 (J r5 l2.toNatClampNeg)
  else
    f_M_answer_b51 S J I2 (0 : Int64)
def f_M_answer (S : gS) (I : gMI) (J : gMJ) (p0 : Nat) (p1 : Int32) : Option (Int64 × gMI) :=
  gd (S.1 p0 = 9) <|
  Option.bind (f_M_placeOf S I J p0 p1) fun x2 =>
  if x2 = (-1 : Int32) then
    f_M_answer_b31 S J I (1 : Int32) p0 p0 x2
  else
    Option.bind (S.2.2 p0 12) fun r5 =>
    gd (S.1 r5 = 21) <|
    gd (¬ (x2 < 0 ∨ S.2.1 r5 ≤ x2.toNatClampNeg)) <|
    if (I r5 x2.toNatClampNeg) = (1 : Int32) then
      f_M_answer_b31 S J I (0 : Int32) p0 p0 x2
    else
      f_M_answer_b31 S J I (2 : Int32) p0 p0 x2
def f_M_found_b84 (S : gS) (J : gMJ) (I : gMI) (s0 : Int32) : Option (Int32 × gMI) :=
  some (s0, I)
def f_M_found_b51 (S : gS) (J : gMJ) (I : gMI) (s0 : Int32) (s1 : Nat) (l0 : Nat) (l2 : Int32) (l3 : Int32) : Option (Int32 × gMI) :=
  gd (S.1 s1 = 9) <|
  bnd (upI I s1 0 s0) fun I2 =>
  gd (S.1 l0 = 9) <|
  if (I2 l0 0) ≤ 0 then
    if l2 = 0 then
      Option.bind (S.2.2 l0 24) fun r6 =>
      gd (S.1 r6 = 21) <|
      gd (¬ (l3 < 0 ∨ S.2.1 r6 ≤ l3.toNatClampNeg)) <|
      f_M_found_b84 S J I2 (I2 r6 l3.toNatClampNeg)
    else
      Option.bind (S.2.2 l0 25) fun r9 =>
      gd (S.1 r9 = 21) <|
      gd (¬ (l3 < 0 ∨ S.2.1 r9 ≤ l3.toNatClampNeg)) <|
      f_M_found_b84 S J I2 (I2 r9 l3.toNatClampNeg)
  else
    f_M_found_b84 S J I2 (0 : Int32)
def f_M_found_b46 (S : gS) (J : gMJ) (I : gMI) (s0 : Nat) (l0 : Nat) (l2 : Int32) (l3 : Int32) : Option (Int32 × gMI) :=
  f_M_found_b51 S J I (2 : Int32) s0 l0 l2 l3
def f_M_found_b50 (S : gS) (J : gMJ) (I : gMI) (s0 : Nat) (l0 : Nat) (l2 : Int32) (l3 : Int32) : Option (Int32 × gMI) :=
  f_M_found_b51 S J I (0 : Int32) s0 l0 l2 l3
def f_M_found (S : gS) (I : gMI) (J : gMJ) (p0 : Nat) (p1 : Int32) (p2 : Int32) : Option (Int32 × gMI) :=
  gd (S.1 p0 = 9) <|
  Option.bind (f_M_placeOf S I J p0 p1) fun x2 =>
  if x2 = (-1 : Int32) then
    f_M_found_b51 S J I (1 : Int32) p0 p0 p2 x2
  else
    Option.bind (S.2.2 p0 12) fun r5 =>
    gd (S.1 r5 = 21) <|
    gd (¬ (x2 < 0 ∨ S.2.1 r5 ≤ x2.toNatClampNeg)) <|
    if (I r5 x2.toNatClampNeg) = (1 : Int32) then
      Option.bind (S.2.2 p0 6) fun r9 =>
      gd (S.1 r9 = 21) <|
      gd (¬ (x2 < 0 ∨ S.2.1 r9 ≤ x2.toNatClampNeg)) <|
      if (I r9 x2.toNatClampNeg) = (2 : Int32) then
        f_M_found_b50 S J I p0 p0 p2 x2
      else
        if (I r9 x2.toNatClampNeg) = (4 : Int32) then
          f_M_found_b50 S J I p0 p0 p2 x2
        else
          f_M_found_b46 S J I p0 p0 p2 x2
    else
      f_M_found_b46 S J I p0 p0 p2 x2
def f_M_about_b95 (S : gS) (J : gMJ) (I : gMI) (s0 : Int32) : Option (Int32 × gMI) :=
  some (s0, I)
def f_M_about_b122 (S : gS) (J : gMJ) (I : gMI) (s0 : Int32) : Option (Int32 × gMI) :=
  some (s0, I)
def f_M_about_b158 (S : gS) (J : gMJ) (k129 : gMI → Nat → Int32 → Int32 → Int32 → Int32 → Option (Int32 × gMI)) (I : gMI) (s0 : Int32) (s1 : Int32) (l0 : Nat) (l2 : Int32) (l3 : Int32) (l5 : Int32) : Option (Int32 × gMI) :=
  bnd (s1 + s0) fun v1 =>
  bnd (l5 + (1 : Int32)) fun v2 =>
  k129 I l0 l2 l3 v1 v2
def f_M_about_b197 (S : gS) (J : gMJ) (I : gMI) (s0 : Int32) : Option (Int32 × gMI) :=
  some (s0, I)
def f_M_about_b129 (S : gS) (J : gMJ) : Nat → gMI → Nat → Int32 → Int32 → Int32 → Int32 → Option (Int32 × gMI)
  | 0, _, _, _, _, _, _ => none
  | n + 1, I, l0, l2, l3, l4, l5 =>
    if (8 : Int32) ≤ l5 then
      gd (S.1 l0 = 9) <|
      Option.bind (S.2.2 l0 12) fun r3 =>
      gd (S.1 r3 = 21) <|
      gd (¬ (l3 < 0 ∨ S.2.1 r3 ≤ l3.toNatClampNeg)) <|
      if (I r3 l3.toNatClampNeg) = 0 then
        if l2 = (6 : Int32) then
          Option.bind (S.2.2 l0 16) fun r8 =>
          gd (S.1 r8 = 21) <|
          gd (¬ (l3 < 0 ∨ S.2.1 r8 ≤ l3.toNatClampNeg)) <|
          f_M_about_b197 S J I (I r8 l3.toNatClampNeg)
        else
          f_M_about_b197 S J I l4
      else
        f_M_about_b197 S J I (0 : Int32)
    else
      gd (S.1 l0 = 9) <|
      Option.bind (S.2.2 l0 27) fun r12 =>
      gd (S.1 r12 = 22) <|
      gd (¬ ((((8 : Int32) * l3) + l5) < 0 ∨ S.2.1 r12 ≤ (((8 : Int32) * l3) + l5).toNatClampNeg)) <|
      if (I r12 (((8 : Int32) * l3) + l5).toNatClampNeg) = 0 then
        f_M_about_b158 S J (f_M_about_b129 S J n) I (0 : Int32) l4 l0 l2 l3 l5
      else
        f_M_about_b158 S J (f_M_about_b129 S J n) I (1 : Int32) l4 l0 l2 l3 l5
def f_M_about_b31 (S : gS) (J : gMJ) (I : gMI) (s0 : Int32) (s1 : Nat) (l0 : Nat) (l2 : Int32) (l3 : Int32) : Option (Int32 × gMI) :=
  gd (S.1 s1 = 9) <|
  bnd (upI I s1 0 s0) fun I2 =>
  gd (S.1 l0 = 9) <|
  if (I2 l0 0) ≤ 0 then
    if (4 : Int32) ≤ l2 then
      if (6 : Int32) ≤ l2 then
        f_M_about_b129 S J gFuel I2 l0 l2 l3 (0 : Int32) (0 : Int32)
      else
        if l2 = (4 : Int32) then
          Option.bind (S.2.2 l0 14) fun r11 =>
          gd (S.1 r11 = 21) <|
          gd (¬ (l3 < 0 ∨ S.2.1 r11 ≤ l3.toNatClampNeg)) <|
          f_M_about_b122 S J I2 (I2 r11 l3.toNatClampNeg)
        else
          Option.bind (S.2.2 l0 15) fun r8 =>
          gd (S.1 r8 = 21) <|
          gd (¬ (l3 < 0 ∨ S.2.1 r8 ≤ l3.toNatClampNeg)) <|
          f_M_about_b122 S J I2 (I2 r8 l3.toNatClampNeg)
    else
      if l2 = 0 then
        Option.bind (S.2.2 l0 9) fun r26 =>
        gd (S.1 r26 = 21) <|
        gd (¬ (l3 < 0 ∨ S.2.1 r26 ≤ l3.toNatClampNeg)) <|
        f_M_about_b95 S J I2 (I2 r26 l3.toNatClampNeg)
      else
        if l2 = (1 : Int32) then
          Option.bind (S.2.2 l0 10) fun r23 =>
          gd (S.1 r23 = 21) <|
          gd (¬ (l3 < 0 ∨ S.2.1 r23 ≤ l3.toNatClampNeg)) <|
          f_M_about_b95 S J I2 (I2 r23 l3.toNatClampNeg)
        else
          if l2 = (2 : Int32) then
            Option.bind (S.2.2 l0 11) fun r20 =>
            gd (S.1 r20 = 21) <|
            gd (¬ (l3 < 0 ∨ S.2.1 r20 ≤ l3.toNatClampNeg)) <|
            f_M_about_b95 S J I2 (I2 r20 l3.toNatClampNeg)
          else
            Option.bind (S.2.2 l0 13) fun r17 =>
            gd (S.1 r17 = 21) <|
            gd (¬ (l3 < 0 ∨ S.2.1 r17 ≤ l3.toNatClampNeg)) <|
            f_M_about_b95 S J I2 (I2 r17 l3.toNatClampNeg)
  else
    some ((0 : Int32), I2)
def f_M_about_b26 (S : gS) (J : gMJ) (I : gMI) (s0 : Nat) (l0 : Nat) (l2 : Int32) (l3 : Int32) : Option (Int32 × gMI) :=
  f_M_about_b31 S J I (2 : Int32) s0 l0 l2 l3
def f_M_about (S : gS) (I : gMI) (J : gMJ) (p0 : Nat) (p1 : Int32) (p2 : Int32) : Option (Int32 × gMI) :=
  gd (S.1 p0 = 9) <|
  Option.bind (f_M_placeOf S I J p0 p1) fun x2 =>
  if x2 = (-1 : Int32) then
    f_M_about_b31 S J I (1 : Int32) p0 p0 p2 x2
  else
    if p2 < 0 then
      f_M_about_b26 S J I p0 p0 p2 x2
    else
      if p2 ≤ (7 : Int32) then
        f_M_about_b31 S J I (0 : Int32) p0 p0 p2 x2
      else
        f_M_about_b26 S J I p0 p0 p2 x2
def f_M_mark_b49 (S : gS) (J : gMJ) (I : gMI) (s0 : Int32) : Option (Int32 × gMI) :=
  some (s0, I)
def f_M_mark_b24 (S : gS) (J : gMJ) (I : gMI) (s0 : Int32) (s1 : Nat) (l0 : Nat) (l1 : Int32) (l3 : Int32) : Option (Int32 × gMI) :=
  gd (S.1 s1 = 9) <|
  bnd (upI I s1 0 s0) fun I2 =>
  gd (S.1 l0 = 9) <|
  if (I2 l0 0) ≤ 0 then
    Option.bind (S.2.2 l0 17) fun r5 =>
    gd (S.1 r5 = 21) <|
    gd (¬ ((((8 : Int32) * l3) + l1) < 0 ∨ S.2.1 r5 ≤ (((8 : Int32) * l3) + l1).toNatClampNeg)) <|
    f_M_mark_b49 S J I2 (I2 r5 (((8 : Int32) * l3) + l1).toNatClampNeg)
  else
    f_M_mark_b49 S J I2 (0 : Int32)
def f_M_mark_b19 (S : gS) (J : gMJ) (I : gMI) (s0 : Nat) (l0 : Nat) (l1 : Int32) (l3 : Int32) : Option (Int32 × gMI) :=
  f_M_mark_b24 S J I (1 : Int32) s0 l0 l1 l3
def f_M_mark (S : gS) (I : gMI) (J : gMJ) (p0 : Nat) (p1 : Int32) (p2 : Int32) : Option (Int32 × gMI) :=
  gd (S.1 p0 = 9) <|
  Option.bind (f_M_placeOf S I J p0 p2) fun x2 =>
  Option.bind (f_M_isLogger S I J p1) fun x4 =>
  if x4 = 0 then
    f_M_mark_b19 S J I p0 p0 p1 x2
  else
    if x2 = (-1 : Int32) then
      f_M_mark_b19 S J I p0 p0 p1 x2
    else
      f_M_mark_b24 S J I (0 : Int32) p0 p0 p1 x2
def f_M_forget_b60 (S : gS) (k36 : gMI → gMJ → Nat → Int32 → Int32 → Int32 → Option (Int32 × gMI × gMJ)) (I : gMI) (J : gMJ) (l0 : Nat) (l1 : Int32) (l2 : Int32) (l3 : Int32) : Option (Int32 × gMI × gMJ) :=
  bnd (l3 + (-1 : Int32)) fun v1 =>
  k36 I J l0 l1 l2 v1
def f_M_forget_b101 (S : gS) (k78 : gMI → gMJ → Nat → Int32 → Int32 → Option (Int32 × gMI × gMJ)) (I : gMI) (J : gMJ) (s0 : Int32) (s1 : Int32) (l0 : Nat) (l4 : Int32) : Option (Int32 × gMI × gMJ) :=
  bnd (s1 + s0) fun v1 =>
  bnd (l4 + (1 : Int32)) fun v2 =>
  k78 I J l0 v1 v2
def f_M_forget_b78 (S : gS) : Nat → gMI → gMJ → Nat → Int32 → Int32 → Option (Int32 × gMI × gMJ)
  | 0, _, _, _, _, _ => none
  | n + 1, I, J, l0, l3, l4 =>
    if (8 : Int32) ≤ l4 then
      some (l3, I, J)
    else
      gd (S.1 l0 = 9) <|
      Option.bind (S.2.2 l0 5) fun r3 =>
      gd (S.1 r3 = 21) <|
      gd (¬ (l4 < 0 ∨ S.2.1 r3 ≤ l4.toNatClampNeg)) <|
      if (I r3 l4.toNatClampNeg) ≤ 0 then
        f_M_forget_b101 S (f_M_forget_b78 S n) I J (0 : Int32) l3 l0 l4
      else
        f_M_forget_b101 S (f_M_forget_b78 S n) I J (1 : Int32) l3 l0 l4
def f_M_forget_b36 (S : gS) : Nat → gMI → gMJ → Nat → Int32 → Int32 → Int32 → Option (Int32 × gMI × gMJ)
  | 0, _, _, _, _, _, _ => none
  | n + 1, I, J, l0, l1, l2, l3 =>
    if l3 < 0 then
      gd (S.1 l0 = 9) <|
      Option.bind (S.2.2 l0 5) fun r3 =>
      gd (S.1 r3 = 21) <|
      gd (¬ (l2 < 0 ∨ S.2.1 r3 ≤ l2.toNatClampNeg)) <|
      bnd (upI I r3 l2.toNatClampNeg (0 : Int32)) fun I6 =>
      f_M_forget_b78 S gFuel I6 J l0 (0 : Int32) (0 : Int32)
    else
      gd (S.1 l0 = 9) <|
      Option.bind (S.2.2 l0 33) fun r8 =>
      gd (S.1 r8 = 21) <|
      gd (¬ ((((7 : Int32) * l3) + (1 : Int32)) < 0 ∨ S.2.1 r8 ≤ (((7 : Int32) * l3) + (1 : Int32)).toNatClampNeg)) <|
      if (I r8 (((7 : Int32) * l3) + (1 : Int32)).toNatClampNeg) = l1 then
        bd2 (f_M_remove S I J l0 l3) fun I12 J13 =>
        f_M_forget_b60 S (f_M_forget_b36 S n) I12 J13 l0 l1 l2 l3
      else
        f_M_forget_b60 S (f_M_forget_b36 S n) I J l0 l1 l2 l3
def f_M_forget_b17 (S : gS) (I : gMI) (J : gMJ) (s0 : Int32) (s1 : Nat) (l0 : Nat) (l1 : Int32) (l2 : Int32) : Option (Int32 × gMI × gMJ) :=
  gd (S.1 s1 = 9) <|
  bnd (upI I s1 0 s0) fun I2 =>
  gd (S.1 l0 = 9) <|
  if (I2 l0 0) ≤ 0 then
    bnd ((I2 l0 32) - (1 : Int32)) fun v5 =>
    f_M_forget_b36 S gFuel I2 J l0 l1 l2 v5
  else
    some ((0 : Int32), I2, J)
def f_M_forget (S : gS) (I : gMI) (J : gMJ) (p0 : Nat) (p1 : Int32) : Option (Int32 × gMI × gMJ) :=
  gd (S.1 p0 = 9) <|
  Option.bind (f_M_placeOf S I J p0 p1) fun x2 =>
  if x2 = (-1 : Int32) then
    f_M_forget_b17 S I J (1 : Int32) p0 p0 p1 x2
  else
    f_M_forget_b17 S I J (0 : Int32) p0 p0 p1 x2
