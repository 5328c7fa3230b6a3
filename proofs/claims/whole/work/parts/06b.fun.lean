def f_Letter_address (S : gS) (I : gMI) (J : gMJ) (p0 : Nat) (p1 : Int32) (p2 : Int32) (p3 : Int32) (p4 : Int32) (p5 : Int32) (p6 : Int32) : Option (gMI × gMJ) :=
  gd (S.1 p0 = 1) <|
  bnd (upI I p0 3 p1) fun I2 =>
  bnd (upI I2 p0 4 p2) fun I3 =>
  bnd (upI I3 p0 5 p3) fun I4 =>
  bnd (upI I4 p0 6 p4) fun I5 =>
  bnd (upI I5 p0 7 p5) fun I6 =>
  bnd (upI I6 p0 8 p6) fun I7 =>
  bnd (upI I7 p0 1 (0 : Int32)) fun I8 =>
  bnd (upJ J p0 2 (0 : Int64)) fun J9 =>
  some (I8, J9)
def f_Letter_put_b29 (S : gS) (J : gMJ) (I : gMI)  : Option (gMI) :=
  some (I)
def f_Letter_put (S : gS) (I : gMI) (J : gMJ) (p0 : Nat) (p1 : Int32) : Option (gMI) :=
  gd (S.1 p0 = 1) <|
  if (64 : Int32) ≤ (I p0 1) then
    f_Letter_put_b29 S J I
  else
    Option.bind (S.2.2 p0 0) fun r3 =>
    gd (S.1 r3 = 21) <|
    gd (¬ ((I p0 1) < 0 ∨ S.2.1 r3 ≤ (I p0 1).toNatClampNeg)) <|
    bnd (upI I r3 (I p0 1).toNatClampNeg p1) fun I6 =>
    bnd (upI I6 p0 1 ((I6 p0 1) + (1 : Int32))) fun I7 =>
    f_Letter_put_b29 S J I7
def f_Letter_number_b22 (S : gS) (I : gMI) (J : gMJ) (s0 : Int32) : Option (Int32) :=
  some (s0)
def f_Letter_number_b21 (S : gS) (I : gMI) (J : gMJ)  : Option (Int32) :=
  f_Letter_number_b22 S I J (0 : Int32)
def f_Letter_number (S : gS) (I : gMI) (J : gMJ) (p0 : Nat) (p1 : Int32) : Option (Int32) :=
  if p1 < 0 then
    f_Letter_number_b21 S I J
  else
    gd (S.1 p0 = 1) <|
    if (I p0 1) ≤ p1 then
      f_Letter_number_b21 S I J
    else
      Option.bind (S.2.2 p0 0) fun r4 =>
      gd (S.1 r4 = 21) <|
      gd (¬ (p1 < 0 ∨ S.2.1 r4 ≤ p1.toNatClampNeg)) <|
      f_Letter_number_b22 S I J (I r4 p1.toNatClampNeg)
def f_Letter_tell (S : gS) (I : gMI) (J : gMJ) (p0 : Nat) (p1 : Int32) : Option (Int32) :=
  if p1 = (0 : Int32) then
    gd (S.1 p0 = 1) <|
    some ((I p0 3))
  else
  if p1 = (1 : Int32) then
    gd (S.1 p0 = 1) <|
    some ((I p0 4))
  else
  if p1 = (2 : Int32) then
    gd (S.1 p0 = 1) <|
    some ((I p0 6))
  else
  if p1 = (3 : Int32) then
    gd (S.1 p0 = 1) <|
    some ((I p0 7))
  else
  if p1 = (4 : Int32) then
    gd (S.1 p0 = 1) <|
    some ((I p0 8))
  else
  if p1 = (5 : Int32) then
    gd (S.1 p0 = 1) <|
    some ((I p0 5))
  else
  if p1 = (6 : Int32) then
    gd (S.1 p0 = 1) <|
    some ((I p0 1))
  else
    gd (S.1 p0 = 1) <|
    Option.bind (f_Letter_number S I J p0 (p1 - (7 : Int32))) fun x16 =>
    some (x16)
def f_Letter_isAsking_b15 (S : gS) (I : gMI) (J : gMJ) (s0 : Int32) : Option (Int32) :=
  gd (s0 = 0 ∨ s0 = 1) <|
  some (s0)
def f_Letter_isAsking (S : gS) (I : gMI) (J : gMJ) (p0 : Nat) : Option (Int32) :=
  gd (S.1 p0 = 1) <|
  if ((I p0 3) - (I p0 3) / (2 : Int32) * (2 : Int32)) = (1 : Int32) then
    f_Letter_isAsking_b15 S I J (1 : Int32)
  else
    f_Letter_isAsking_b15 S I J (0 : Int32)
def f_Letter_replyTo (S : gS) (I : gMI) (J : gMJ) (p0 : Nat) (p1 : Nat) : Option (gMI × gMJ) :=
  gd (S.1 p1 = 1) <|
  gd (S.1 p0 = 1) <|
  bd2 (f_Letter_address S I J p0 ((I p1 3) + (1 : Int32)) (I p1 4) (I p1 5) (I p1 6) (I p1 8) (I p1 7)) fun I3 J4 =>
  some (I3, J4)
def f_Letter_putPart_b45 (S : gS) (J : gMJ) (I : gMI) (s0 : Int32) (s1 : Nat) : Option (gMI) :=
  gd (S.1 s1 = 1) <|
  Option.bind (f_Letter_put S I J s1 s0) fun I2 =>
  some (I2)
def f_Letter_putPart (S : gS) (I : gMI) (J : gMJ) (p0 : Nat) (p1 : Nat) (p2 : Int32) (p3 : Int32) : Option (gMI) :=
  gd (S.1 p1 = 7) <|
  Option.bind (f_SortedRow_within S I J p1 p2.toInt64 p3.toInt64) fun x2 =>
  gd (S.1 p0 = 1) <|
  Option.bind (f_Letter_put S I J p0 x2) fun I5 =>
  if x2 = 0 then
    f_Letter_putPart_b45 S J I5 (0 : Int32) p0
  else
    Option.bind (f_SortedRow_below S I5 J p1 p2.toInt64) fun x8 =>
    Option.bind (f_SortedRow_at S I5 J p1 ((x8 + ((x2 + (1 : Int32)) / (2 : Int32))) - (1 : Int32))) fun x10 =>
    f_Letter_putPart_b45 S J I5 x10 p0
def f_Letter_putSides (S : gS) (I : gMI) (J : gMJ) (p0 : Nat) (p1 : Nat) (p2 : Int32) (p3 : Int32) : Option (gMI) :=
  gd (S.1 p1 = 7) <|
  Option.bind (f_SortedRow_within S I J p1 p2.toInt64 (p3.toInt64 - (1 : Int64))) fun x2 =>
  gd (S.1 p0 = 1) <|
  Option.bind (f_Letter_put S I J p0 x2) fun I5 =>
  Option.bind (f_SortedRow_within S I5 J p1 p3.toInt64 p3.toInt64) fun x7 =>
  Option.bind (f_Letter_put S I5 J p0 x7) fun I9 =>
  some (I9)
def f_Letter_putGiven_b21 (S : gS) (J : gMJ) : Nat → gMI → Nat → Nat → Int32 → Int32 → Int32 → Option (gMI)
  | 0, _, _, _, _, _, _ => none
  | n + 1, I, l0, l1, l4, l5, l6 =>
    if l4 ≤ l6 then
      some (I)
    else
      gd (S.1 l1 = 7) <|
      Option.bind (f_SortedRow_at S I J l1 (l5 + l6)) fun x3 =>
      gd (S.1 l0 = 1) <|
      Option.bind (f_Letter_put S I J l0 x3) fun I6 =>
      bnd (l6 + (1 : Int32)) fun v8 =>
      f_Letter_putGiven_b21 S J n I6 l0 l1 l4 l5 v8
def f_Letter_putGiven (S : gS) (I : gMI) (J : gMJ) (p0 : Nat) (p1 : Nat) (p2 : Int32) (p3 : Int32) : Option (gMI) :=
  gd (S.1 p1 = 7) <|
  Option.bind (f_SortedRow_within S I J p1 p2.toInt64 p3.toInt64) fun x2 =>
  Option.bind (f_SortedRow_below S I J p1 p2.toInt64) fun x4 =>
  f_Letter_putGiven_b21 S J gFuel I p0 p1 x2 x4 (0 : Int32)
def f_Letter_putAdded (S : gS) (I : gMI) (J : gMJ) (p0 : Nat) (p1 : Nat) (p2 : Int32) (p3 : Int32) : Option (gMI × gMJ) :=
  gd (S.1 p1 = 7) <|
  Option.bind (f_SortedRow_below S I J p1 (p2.toInt64 + (1 : Int64))) fun x2 =>
  Option.bind (f_SortedRow_below S I J p1 p3.toInt64) fun x4 =>
  Option.bind (f_SortedRow_sum S I J p1 x2 x4) fun x6 =>
  gd (S.1 p0 = 1) <|
  bnd (upJ J p0 2 x6) fun J9 =>
  Option.bind (f_SortedRow_below S I J9 p1 p2.toInt64) fun x10 =>
  Option.bind (f_Letter_put S I J9 p0 x10) fun I12 =>
  Option.bind (f_SortedRow_within S I12 J9 p1 p2.toInt64 p2.toInt64) fun x14 =>
  Option.bind (f_Letter_put S I12 J9 p0 x14) fun I16 =>
  Option.bind (f_Letter_put S I16 J9 p0 (if (0 : Int32) < (x4 - x2) then (x4 - x2) else (0 : Int32))) fun I18 =>
  Option.bind (f_Letter_put S I18 J9 p0 ((J9 p0 2).toInt32)) fun I20 =>
  some (I20, J9)
def f_Letter_fillIn_b139 (S : gS) (I : gMI) (J : gMJ)  : Option (gMI × gMJ) :=
  some (I, J)
def f_Letter_fillIn (S : gS) (I : gMI) (J : gMJ) (p0 : Nat) (p1 : Nat) (p2 : Nat) : Option (gMI × gMJ) :=
  gd (S.1 p1 = 1) <|
  Option.bind (f_Letter_number S I J p1 (0 : Int32)) fun x2 =>
  Option.bind (f_Letter_number S I J p1 (1 : Int32)) fun x4 =>
  if (I p1 3) = (1 : Int32) then
    gd (S.1 p2 = 7) <|
    gd (S.1 p0 = 1) <|
    Option.bind (f_Letter_put S I J p0 (I p2 1)) fun I9 =>
    f_Letter_fillIn_b139 S I9 J
  else
  if (I p1 3) = (2 : Int32) then
    gd (S.1 p0 = 1) <|
    bd2 (f_Letter_putAdded S I J p0 p2 x2 x4) fun I13 J14 =>
    f_Letter_fillIn_b139 S I13 J14
  else
  if (I p1 3) = (3 : Int32) then
    gd (S.1 p0 = 1) <|
    Option.bind (f_Letter_putPart S I J p0 p2 x2 x4) fun I18 =>
    f_Letter_fillIn_b139 S I18 J
  else
  if (I p1 3) = (4 : Int32) then
    gd (S.1 p0 = 1) <|
    bd2 (f_Letter_putAdded S I J p0 p2 x2 x4) fun I22 J23 =>
    f_Letter_fillIn_b139 S I22 J23
  else
  if (I p1 3) = (5 : Int32) then
    Option.bind (f_Letter_number S I J p1 (2 : Int32)) fun x26 =>
    gd (S.1 p0 = 1) <|
    Option.bind (f_Letter_putSides S I J p0 p2 x2 x26) fun I29 =>
    f_Letter_fillIn_b139 S I29 J
  else
  if (I p1 3) = (6 : Int32) then
    gd (S.1 p0 = 1) <|
    bd2 (f_Letter_putAdded S I J p0 p2 x2 x4) fun I33 J34 =>
    f_Letter_fillIn_b139 S I33 J34
  else
  if (I p1 3) = (7 : Int32) then
    gd (S.1 p0 = 1) <|
    Option.bind (f_Letter_putGiven S I J p0 p2 x2 x4) fun I38 =>
    f_Letter_fillIn_b139 S I38 J
  else
  if (I p1 3) = (8 : Int32) then
    gd (S.1 p0 = 1) <|
    bd2 (f_Letter_putAdded S I J p0 p2 x2 x4) fun I42 J43 =>
    f_Letter_fillIn_b139 S I42 J43
  else
  if (I p1 3) = (9 : Int32) then
    gd (S.1 p2 = 7) <|
    Option.bind (f_SortedRow_within S I J p2 x2.toInt64 x4.toInt64) fun x47 =>
    gd (S.1 p0 = 1) <|
    Option.bind (f_Letter_put S I J p0 x47) fun I50 =>
    f_Letter_fillIn_b139 S I50 J
  else
    gd (S.1 p0 = 1) <|
    bd2 (f_Letter_putAdded S I J p0 p2 x2 x4) fun I53 J54 =>
    f_Letter_fillIn_b139 S I53 J54
def f_Letter_copy (S : gS) (I : gMI) (J : gMJ) (p0 : Nat) (p1 : Nat) : Option (gMI × gMJ) :=
  gd (S.1 p1 = 1) <|
  gd (S.1 p0 = 1) <|
  bd2 (f_Letter_address S I J p0 (I p1 3) (I p1 4) (I p1 5) (I p1 6) (I p1 7) (I p1 8)) fun I3 J4 =>
  bnd (upI I3 p0 1 (I3 p1 1)) fun I6 =>
  Option.bind (S.2.2 p1 0) fun r7 =>
  Option.bind (S.2.2 p0 0) fun r8 =>
  gd (S.1 r7 = 21) <|
  gd (S.1 r8 = 21) <|
  gd (¬ (0 : Int32) < 0 ∧ ¬ (0 : Int32) < 0 ∧ ¬ (I6 p0 1) < 0 ∧ (0 : Int32).toNatClampNeg + (I6 p0 1).toNatClampNeg ≤ S.2.1 r7 ∧ (0 : Int32).toNatClampNeg + (I6 p0 1).toNatClampNeg ≤ S.2.1 r8) <|
  bnd (va_up I6 r8 (va_cpy (I6 r7) (I6 r8) (0 : Int32).toNatClampNeg (0 : Int32).toNatClampNeg (I6 p0 1).toNatClampNeg)) fun I12 =>
  bnd (upJ J4 p0 2 (J4 p1 2)) fun J13 =>
  some (I12, J13)
