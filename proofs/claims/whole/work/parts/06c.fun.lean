def f_Replies_clear_b2 (S : gS) : Nat → gMI → gMJ → Nat → Int32 → Option (gMI × gMJ)
  | 0, _, _, _, _ => none
  | n + 1, I, J, l0, l1 =>
    if (8 : Int32) ≤ l1 then
      gd (S.1 l0 = 5) <|
      Option.bind (S.2.2 l0 2) fun r3 =>
      gd (S.1 r3 = 7) <|
      bnd (upI I r3 1 (0 : Int32)) fun I5 =>
      bnd (upJ J l0 3 (0 : Int64)) fun J6 =>
      bnd (upI I5 l0 4 (0 : Int32)) fun I7 =>
      some (I7, J6)
    else
      gd (S.1 l0 = 5) <|
      Option.bind (S.2.2 l0 0) fun r9 =>
      gd (S.1 r9 = 22) <|
      gd (¬ (l1 < 0 ∨ S.2.1 r9 ≤ l1.toNatClampNeg)) <|
      bnd (upI I r9 l1.toNatClampNeg (0 : Int32)) fun I12 =>
      bnd (l1 + (1 : Int32)) fun v13 =>
      f_Replies_clear_b2 S n I12 J l0 v13
def f_Replies_clear (S : gS) (I : gMI) (J : gMJ) (p0 : Nat) : Option (gMI × gMJ) :=
  f_Replies_clear_b2 S gFuel I J p0 (0 : Int32)
def f_Post_at (S : gS) (I : gMI) (J : gMJ) (p0 : Nat) (p1 : Int32) : Option (Option Nat) :=
  gd (S.1 p0 = 3) <|
  Option.bind (S.2.2 p0 0) fun r2 =>
  Option.bind (S.2.2 p0 1) fun r3 =>
  gd (S.1 r3 = 21) <|
  gd (¬ (p1 < 0 ∨ S.2.1 r3 ≤ p1.toNatClampNeg)) <|
  gd (S.1 r2 = 26) <|
  gd (¬ ((I r3 p1.toNatClampNeg) < 0 ∨ S.2.1 r2 ≤ (I r3 p1.toNatClampNeg).toNatClampNeg)) <|
  Option.bind (S.2.2 r2 (I r3 p1.toNatClampNeg).toNatClampNeg) fun r8 =>
  some (some r8)
def f_Post_send (S : gS) (I : gMI) (J : gMJ) (p0 : Nat) : Option (Option Nat × gMI) :=
  gd (S.1 p0 = 3) <|
  if (I p0 2) < (96 : Int32) then
    bnd (upI I p0 2 ((I p0 2) + (1 : Int32))) fun I3 =>
    Option.bind (f_Post_at S I3 J p0 ((I3 p0 2) - (1 : Int32))) fun q4 =>
    Option.bind q4 fun r6 =>
    some (some r6, I3)
  else
    some (none, I)
def f_Post_takeOut (S : gS) (I : gMI) (J : gMJ) (p0 : Nat) (p1 : Int32) : Option (Option Nat × gMI) :=
  gd (S.1 p0 = 3) <|
  Option.bind (S.2.2 p0 1) fun r2 =>
  gd (S.1 r2 = 21) <|
  gd (¬ (p1 < 0 ∨ S.2.1 r2 ≤ p1.toNatClampNeg)) <|
  bnd (I r2 p1.toNatClampNeg) fun v5 =>
  gd (¬ (p1 + (1 : Int32)) < 0 ∧ ¬ p1 < 0 ∧ ¬ ((96 : Int32) - p1) < 0 ∧ (p1 + (1 : Int32)).toNatClampNeg + ((96 : Int32) - p1).toNatClampNeg ≤ S.2.1 r2 ∧ p1.toNatClampNeg + ((96 : Int32) - p1).toNatClampNeg ≤ S.2.1 r2) <|
  bnd (va_up I r2 (va_cpy (I r2) (I r2) (p1 + (1 : Int32)).toNatClampNeg p1.toNatClampNeg ((96 : Int32) - p1).toNatClampNeg)) fun I7 =>
  gd (¬ ((96 : Int32) < 0 ∨ S.2.1 r2 ≤ (96 : Int32).toNatClampNeg)) <|
  bnd (upI I7 r2 (96 : Int32).toNatClampNeg v5) fun I9 =>
  bnd (upI I9 p0 2 ((I9 p0 2) - (1 : Int32))) fun I10 =>
  Option.bind (S.2.2 p0 0) fun r11 =>
  gd (S.1 r11 = 26) <|
  gd (¬ (v5 < 0 ∨ S.2.1 r11 ≤ v5.toNatClampNeg)) <|
  Option.bind (S.2.2 r11 v5.toNatClampNeg) fun r14 =>
  some (some r14, I10)
def f_Replies_hear_b99 (S : gS) (I : gMI) (J : gMJ)  : Option (gMI × gMJ) :=
  some (I, J)
def f_Replies_hear_b73 (S : gS) : Nat → gMI → gMJ → Nat → Nat → Int32 → Option (gMI × gMJ)
  | 0, _, _, _, _, _ => none
  | n + 1, I, J, l0, l1, l2 =>
    gd (S.1 l1 = 1) <|
    if (I l1 1) ≤ l2 then
      f_Replies_hear_b99 S I J
    else
      gd (S.1 l0 = 5) <|
      Option.bind (S.2.2 l0 2) fun r4 =>
      Option.bind (f_Letter_number S I J l1 l2) fun x5 =>
      gd (S.1 r4 = 7) <|
      Option.bind (f_SortedRow_insert S I J r4 x5) fun I8 =>
      bnd (l2 + (1 : Int32)) fun v10 =>
      f_Replies_hear_b73 S n I8 J l0 l1 v10
def f_Replies_hear_b35 (S : gS) : Nat → gMI → gMJ → Nat → Nat → Int32 → Option (gMI × gMJ)
  | 0, _, _, _, _, _ => none
  | n + 1, I, J, l0, l1, l2 =>
    if (3 : Int32) ≤ l2 then
      gd (S.1 l1 = 1) <|
      if (I l1 3) = (8 : Int32) then
        f_Replies_hear_b73 S gFuel I J l0 l1 (0 : Int32)
      else
        f_Replies_hear_b99 S I J
    else
      gd (S.1 l0 = 5) <|
      Option.bind (S.2.2 l0 1) fun r5 =>
      gd (S.1 l1 = 1) <|
      gd (S.1 r5 = 28) <|
      gd (¬ ((I l1 7) < 0 ∨ S.2.1 r5 ≤ (I l1 7).toNatClampNeg)) <|
      Option.bind (S.2.2 r5 (I l1 7).toNatClampNeg) fun r9 =>
      Option.bind (f_Letter_number S I J l1 l2) fun x10 =>
      gd (S.1 r9 = 21) <|
      gd (¬ (l2 < 0 ∨ S.2.1 r9 ≤ l2.toNatClampNeg)) <|
      bnd (upI I r9 l2.toNatClampNeg x10) fun I14 =>
      bnd (l2 + (1 : Int32)) fun v15 =>
      f_Replies_hear_b35 S n I14 J l0 l1 v15
def f_Replies_hear (S : gS) (I : gMI) (J : gMJ) (p0 : Nat) (p1 : Nat) : Option (gMI × gMJ) :=
  gd (S.1 p0 = 5) <|
  Option.bind (S.2.2 p0 0) fun r2 =>
  gd (S.1 p1 = 1) <|
  gd (S.1 r2 = 22) <|
  gd (¬ ((I p1 7) < 0 ∨ S.2.1 r2 ≤ (I p1 7).toNatClampNeg)) <|
  bnd (upI I r2 (I p1 7).toNatClampNeg (1 : Int32)) fun I6 =>
  bnd (upI I6 p0 4 ((I6 p0 4) + (1 : Int32))) fun I7 =>
  bnd (upJ J p0 3 ((J p0 3) + (J p1 2))) fun J8 =>
  f_Replies_hear_b35 S gFuel I7 J8 p0 p1 (0 : Int32)
def f_Replies_total_b4 (S : gS) (I : gMI) (J : gMJ) : Nat → Nat → Int32 → Int32 → Int32 → Option (Int32)
  | 0, _, _, _, _ => none
  | n + 1, l0, l1, l2, l3 =>
    if (8 : Int32) ≤ l3 then
      some (l2)
    else
      gd (S.1 l0 = 5) <|
      Option.bind (S.2.2 l0 1) fun r3 =>
      gd (S.1 r3 = 28) <|
      gd (¬ (l3 < 0 ∨ S.2.1 r3 ≤ l3.toNatClampNeg)) <|
      Option.bind (S.2.2 r3 l3.toNatClampNeg) fun r6 =>
      gd (S.1 r6 = 21) <|
      gd (¬ (l1 < 0 ∨ S.2.1 r6 ≤ l1.toNatClampNeg)) <|
      bnd (l2 + (I r6 l1.toNatClampNeg)) fun v9 =>
      bnd (l3 + (1 : Int32)) fun v10 =>
      f_Replies_total_b4 S I J n l0 l1 v9 v10
def f_Replies_total (S : gS) (I : gMI) (J : gMJ) (p0 : Nat) (p1 : Int32) : Option (Int32) :=
  f_Replies_total_b4 S I J gFuel p0 p1 (0 : Int32) (0 : Int32)
def f_Replies_countUpTo_b33 (S : gS) (I : gMI) (J : gMJ) (k4 : Nat → Int32 → Int32 → Int32 → Option (Int32)) (l0 : Nat) (l1 : Int32) (l2 : Int32) (l3 : Int32) : Option (Int32) :=
  bnd (l3 + (1 : Int32)) fun v1 =>
  k4 l0 l1 l2 v1
def f_Replies_countUpTo_b4 (S : gS) (I : gMI) (J : gMJ) : Nat → Nat → Int32 → Int32 → Int32 → Option (Int32)
  | 0, _, _, _, _ => none
  | n + 1, l0, l1, l2, l3 =>
    if (8 : Int32) ≤ l3 then
      some (l2)
    else
      gd (S.1 l0 = 5) <|
      Option.bind (S.2.2 l0 1) fun r3 =>
      gd (S.1 r3 = 28) <|
      gd (¬ (l3 < 0 ∨ S.2.1 r3 ≤ l3.toNatClampNeg)) <|
      Option.bind (S.2.2 r3 l3.toNatClampNeg) fun r6 =>
      gd (S.1 r6 = 21) <|
      gd (¬ ((1 : Int32) < 0 ∨ S.2.1 r6 ≤ (1 : Int32).toNatClampNeg)) <|
      if l1 < (I r6 (1 : Int32).toNatClampNeg) then
        f_Replies_countUpTo_b33 S I J (f_Replies_countUpTo_b4 S I J n) l0 l1 l2 l3
      else
        gd (¬ ((0 : Int32) < 0 ∨ S.2.1 r6 ≤ (0 : Int32).toNatClampNeg)) <|
        bnd (l2 + (I r6 (0 : Int32).toNatClampNeg)) fun v11 =>
        f_Replies_countUpTo_b33 S I J (f_Replies_countUpTo_b4 S I J n) l0 l1 v11 l3
def f_Replies_countUpTo (S : gS) (I : gMI) (J : gMJ) (p0 : Nat) (p1 : Int32) : Option (Int32) :=
  f_Replies_countUpTo_b4 S I J gFuel p0 p1 (0 : Int32) (0 : Int32)
def f_Replies_pivot_b50 (S : gS) (I : gMI) (J : gMJ) (k5 : Nat → Int32 → Int32 → Int32 → Option (Int32)) (l0 : Nat) (l1 : Int32) (l2 : Int32) (l3 : Int32) : Option (Int32) :=
  bnd (l3 + (1 : Int32)) fun v1 =>
  k5 l0 l1 l2 v1
def f_Replies_pivot_b5 (S : gS) (I : gMI) (J : gMJ) : Nat → Nat → Int32 → Int32 → Int32 → Option (Int32)
  | 0, _, _, _, _ => none
  | n + 1, l0, l1, l2, l3 =>
    if (8 : Int32) ≤ l3 then
      some (l2)
    else
      gd (S.1 l0 = 5) <|
      Option.bind (S.2.2 l0 1) fun r3 =>
      gd (S.1 r3 = 28) <|
      gd (¬ (l3 < 0 ∨ S.2.1 r3 ≤ l3.toNatClampNeg)) <|
      Option.bind (S.2.2 r3 l3.toNatClampNeg) fun r6 =>
      gd (S.1 r6 = 21) <|
      gd (¬ ((1 : Int32) < 0 ∨ S.2.1 r6 ≤ (1 : Int32).toNatClampNeg)) <|
      if l2 ≤ (I r6 (1 : Int32).toNatClampNeg) then
        f_Replies_pivot_b50 S I J (f_Replies_pivot_b5 S I J n) l0 l1 l2 l3
      else
        Option.bind (f_Replies_countUpTo S I J l0 (I r6 (1 : Int32).toNatClampNeg)) fun x10 =>
        if ((2 : Int32) * x10) < l1 then
          f_Replies_pivot_b50 S I J (f_Replies_pivot_b5 S I J n) l0 l1 l2 l3
        else
          bnd (I r6 (1 : Int32).toNatClampNeg) fun v13 =>
          f_Replies_pivot_b50 S I J (f_Replies_pivot_b5 S I J n) l0 l1 v13 l3
def f_Replies_pivot (S : gS) (I : gMI) (J : gMJ) (p0 : Nat) (p1 : Int32) : Option (Int32) :=
  f_Replies_pivot_b5 S I J gFuel p0 p1 (2147483647 : Int32) (0 : Int32)
def f_Post_loseAllOf_b29 (S : gS) (J : gMJ) (k7 : gMI → Nat → Int32 → Int32 → Option (gMI)) (I : gMI) (l0 : Nat) (l1 : Int32) (l2 : Int32) : Option (gMI) :=
  bnd (l2 + (-1 : Int32)) fun v1 =>
  k7 I l0 l1 v1
def f_Post_loseAllOf_b7 (S : gS) (J : gMJ) : Nat → gMI → Nat → Int32 → Int32 → Option (gMI)
  | 0, _, _, _, _ => none
  | n + 1, I, l0, l1, l2 =>
    if l2 < 0 then
      some (I)
    else
      gd (S.1 l0 = 3) <|
      Option.bind (f_Post_at S I J l0 l2) fun q3 =>
      Option.bind q3 fun r5 =>
      gd (S.1 r5 = 1) <|
      if (I r5 4) = l1 then
        bd2 (f_Post_takeOut S I J l0 l2) fun q9 I10 =>
        Option.bind q9 fun r12 =>
        f_Post_loseAllOf_b29 S J (f_Post_loseAllOf_b7 S J n) I10 l0 l1 l2
      else
        f_Post_loseAllOf_b29 S J (f_Post_loseAllOf_b7 S J n) I l0 l1 l2
def f_Post_loseAllOf (S : gS) (I : gMI) (J : gMJ) (p0 : Nat) (p1 : Int32) : Option (gMI) :=
  gd (S.1 p0 = 3) <|
  bnd ((I p0 2) - (1 : Int32)) fun v2 =>
  f_Post_loseAllOf_b7 S J gFuel I p0 p1 v2
