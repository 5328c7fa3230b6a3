def f_SortedRow_below_b45 (S : gS) (I : gMI) (J : gMJ) (k7 : Nat → Int64 → Int32 → Int32 → Option (Int32)) (l0 : Nat) (l1 : Int64) (l3 : Int32) (l4 : Int32) : Option (Int32) :=
  bnd (l4 / (2 : Int32)) fun v1 =>
  k7 l0 l1 l3 v1
def f_SortedRow_below_b7 (S : gS) (I : gMI) (J : gMJ) : Nat → Nat → Int64 → Int32 → Int32 → Option (Int32)
  | 0, _, _, _, _ => none
  | n + 1, l0, l1, l3, l4 =>
    if l4 ≤ 0 then
      some (l3)
    else
      bnd (l3 + l4) fun v2 =>
      gd (S.1 l0 = 7) <|
      if (I l0 1) < v2 then
        f_SortedRow_below_b45 S I J (f_SortedRow_below_b7 S I J n) l0 l1 l3 l4
      else
        Option.bind (S.2.2 l0 0) fun r5 =>
        gd (S.1 r5 = 21) <|
        gd (¬ ((v2 - (1 : Int32)) < 0 ∨ S.2.1 r5 ≤ (v2 - (1 : Int32)).toNatClampNeg)) <|
        if 0 ≤ (lg_cmp ((I r5 (v2 - (1 : Int32)).toNatClampNeg).toInt64) l1) then
          f_SortedRow_below_b45 S I J (f_SortedRow_below_b7 S I J n) l0 l1 l3 l4
        else
          f_SortedRow_below_b45 S I J (f_SortedRow_below_b7 S I J n) l0 l1 v2 l4
def f_SortedRow_below (S : gS) (I : gMI) (J : gMJ) (p0 : Nat) (p1 : Int64) : Option (Int32) :=
  f_SortedRow_below_b7 S I J gFuel p0 p1 (0 : Int32) (256 : Int32)
def f_SortedRow_insert (S : gS) (I : gMI) (J : gMJ) (p0 : Nat) (p1 : Int32) : Option (gMI) :=
  gd (S.1 p0 = 7) <|
  Option.bind (S.2.2 p0 0) fun r2 =>
  gd (S.1 r2 = 21) <|
  if (I p0 1) < (Int32.ofNat (S.2.1 r2)) then
    Option.bind (f_SortedRow_below S I J p0 p1.toInt64) fun x5 =>
    gd (¬ x5 < 0 ∧ ¬ (x5 + (1 : Int32)) < 0 ∧ ¬ ((I p0 1) - x5) < 0 ∧ x5.toNatClampNeg + ((I p0 1) - x5).toNatClampNeg ≤ S.2.1 r2 ∧ (x5 + (1 : Int32)).toNatClampNeg + ((I p0 1) - x5).toNatClampNeg ≤ S.2.1 r2) <|
    bnd (va_up I r2 (va_cpy (I r2) (I r2) x5.toNatClampNeg (x5 + (1 : Int32)).toNatClampNeg ((I p0 1) - x5).toNatClampNeg)) fun I8 =>
    gd (¬ (x5 < 0 ∨ S.2.1 r2 ≤ x5.toNatClampNeg)) <|
    bnd (upI I8 r2 x5.toNatClampNeg p1) fun I10 =>
    bnd (upI I10 p0 1 ((I10 p0 1) + (1 : Int32))) fun I11 =>
    some (I11)
  else
    some (I)
def f_SortedRow_copy (S : gS) (I : gMI) (J : gMJ) (p0 : Nat) (p1 : Nat) : Option (gMI) :=
  gd (S.1 p1 = 7) <|
  gd (S.1 p0 = 7) <|
  Option.bind (S.2.2 p0 0) fun r3 =>
  gd (S.1 r3 = 21) <|
  bnd (upI I p0 1 (if (Int32.ofNat (S.2.1 r3)) < (I p1 1) then (Int32.ofNat (S.2.1 r3)) else (I p1 1))) fun I5 =>
  Option.bind (S.2.2 p1 0) fun r6 =>
  gd (S.1 r6 = 21) <|
  gd (¬ (0 : Int32) < 0 ∧ ¬ (0 : Int32) < 0 ∧ ¬ (I5 p0 1) < 0 ∧ (0 : Int32).toNatClampNeg + (I5 p0 1).toNatClampNeg ≤ S.2.1 r6 ∧ (0 : Int32).toNatClampNeg + (I5 p0 1).toNatClampNeg ≤ S.2.1 r3) <|
  bnd (va_up I5 r3 (va_cpy (I5 r6) (I5 r3) (0 : Int32).toNatClampNeg (0 : Int32).toNatClampNeg (I5 p0 1).toNatClampNeg)) fun I9 =>
  some (I9)
def f_SortedRow_within (S : gS) (I : gMI) (J : gMJ) (p0 : Nat) (p1 : Int64) (p3 : Int64) : Option (Int32) :=
  gd (S.1 p0 = 7) <|
  Option.bind (f_SortedRow_below S I J p0 (p3 + (1 : Int64))) fun x2 =>
  Option.bind (f_SortedRow_below S I J p0 p1) fun x4 =>
  some ((if (0 : Int32) < (x2 - x4) then (x2 - x4) else (0 : Int32)))
def f_SortedRow_at_b22 (S : gS) (I : gMI) (J : gMJ) (s0 : Int32) : Option (Int32) :=
  some (s0)
def f_SortedRow_at_b21 (S : gS) (I : gMI) (J : gMJ)  : Option (Int32) :=
  f_SortedRow_at_b22 S I J (0 : Int32)
def f_SortedRow_at (S : gS) (I : gMI) (J : gMJ) (p0 : Nat) (p1 : Int32) : Option (Int32) :=
  if p1 < 0 then
    f_SortedRow_at_b21 S I J
  else
    gd (S.1 p0 = 7) <|
    if (I p0 1) ≤ p1 then
      f_SortedRow_at_b21 S I J
    else
      Option.bind (S.2.2 p0 0) fun r4 =>
      gd (S.1 r4 = 21) <|
      gd (¬ (p1 < 0 ∨ S.2.1 r4 ≤ p1.toNatClampNeg)) <|
      f_SortedRow_at_b22 S I J (I r4 p1.toNatClampNeg)
def f_SortedRow_sum_b5 (S : gS) (I : gMI) (J : gMJ) : Nat → Nat → Int32 → Int64 → Int32 → Option (Int64)
  | 0, _, _, _, _ => none
  | n + 1, l0, l2, l3, l5 =>
    if l2 ≤ l5 then
      some (l3)
    else
      gd (S.1 l0 = 7) <|
      Option.bind (f_SortedRow_at S I J l0 l5) fun x3 =>
      bnd (l3 + x3.toInt64) fun v5 =>
      bnd (l5 + (1 : Int32)) fun v6 =>
      f_SortedRow_sum_b5 S I J n l0 l2 v5 v6
def f_SortedRow_sum (S : gS) (I : gMI) (J : gMJ) (p0 : Nat) (p1 : Int32) (p2 : Int32) : Option (Int64) :=
  f_SortedRow_sum_b5 S I J gFuel p0 p2 (0 : Int64) p1
def f_Search_begin (S : gS) (I : gMI) (J : gMJ) (p0 : Nat) (p1 : Int32) (p2 : Int32) (p3 : Int32) : Option (gMI) :=
  gd (S.1 p0 = 6) <|
  bnd (upI I p0 1 p1) fun I2 =>
  gd (p2 = 0 ∨ p2 = 1) <|
  bnd (upI I2 p0 0 p2) fun I4 =>
  bnd (upI I4 p0 2 (0 : Int32)) fun I5 =>
  bnd (upI I5 p0 3 (-2147483648 : Int32)) fun I6 =>
  bnd (upI I6 p0 4 (2147483647 : Int32)) fun I7 =>
  bnd (upI I7 p0 6 p3) fun I8 =>
  some (I8)
def f_Search_rankWithin (S : gS) (I : gMI) (J : gMJ) (p0 : Nat) : Option (Int32) :=
  gd (S.1 p0 = 6) <|
  some (((I p0 1) - (I p0 2)))
def f_Search_keepBelowPivot (S : gS) (I : gMI) (J : gMJ) (p0 : Nat) (p1 : Int32) : Option (gMI) :=
  gd (S.1 p0 = 6) <|
  bnd (upI I p0 4 ((I p0 5) - (1 : Int32))) fun I2 =>
  bnd (upI I2 p0 6 p1) fun I3 =>
  some (I3)
def f_Search_keepAbovePivot (S : gS) (I : gMI) (J : gMJ) (p0 : Nat) (p1 : Int32) : Option (gMI) :=
  gd (S.1 p0 = 6) <|
  bnd (upI I p0 3 ((I p0 5) + (1 : Int32))) fun I2 =>
  bnd (upI I2 p0 2 ((I2 p0 2) + p1)) fun I3 =>
  bnd (upI I3 p0 6 ((I3 p0 6) - p1)) fun I4 =>
  some (I4)
