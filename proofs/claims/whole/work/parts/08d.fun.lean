def f_L_record (S : gS) (I : gMI) (J : gMJ) (p0 : Nat) (p1 : Int32) (p2 : Int32) (p3 : Nat) : Option (Int32 × gMI × gMJ) :=
  gd (S.1 p0 = 8) <|
  bd3 (f_H_record S I J p0 p1 p2) fun e2 x3 I4 =>
  if e2 = 0 then
    gd (S.1 p3 = 23) <|
    gd (¬ ((0 : Int32) < 0 ∨ S.2.1 p3 ≤ (0 : Int32).toNatClampNeg)) <|
    bnd (upJ J p3 (0 : Int32).toNatClampNeg x3.toInt64) fun J10 =>
    some ((0 : Int32), I4, J10)
  else
    if e2 = 1 then
      some ((1 : Int32), I4, J)
    else
    if e2 = 3 then
      some ((2 : Int32), I4, J)
    else
      none
def f_L_fill (S : gS) (I : gMI) (J : gMJ) (p0 : Nat) (p1 : Int32) (p2 : Int32) (p3 : Int32) (p4 : Int32) (p5 : Int32) (p6 : Nat) : Option (Int32 × gMI × gMJ) :=
  gd (S.1 p0 = 8) <|
  bd3 (f_H_fill S I J p0 p1 p2 p3 p4 p5) fun e2 x3 I4 =>
  if e2 = 0 then
    gd (S.1 p6 = 23) <|
    gd (¬ ((0 : Int32) < 0 ∨ S.2.1 p6 ≤ (0 : Int32).toNatClampNeg)) <|
    bnd (upJ J p6 (0 : Int32).toNatClampNeg x3.toInt64) fun J11 =>
    some ((0 : Int32), I4, J11)
  else
    if e2 = 1 then
      some ((1 : Int32), I4, J)
    else
    if e2 = 2 then
      some ((2 : Int32), I4, J)
    else
    if e2 = 3 then
      some ((3 : Int32), I4, J)
    else
      none
def f_L_size (S : gS) (I : gMI) (J : gMJ) (p0 : Nat) (p1 : Int32) (p2 : Nat) : Option (Int32 × gMJ) :=
  gd (S.1 p0 = 8) <|
  bd2 (f_H_size S I J p0 p1) fun e2 x3 =>
  if e2 = 0 then
    gd (S.1 p2 = 23) <|
    gd (¬ ((0 : Int32) < 0 ∨ S.2.1 p2 ≤ (0 : Int32).toNatClampNeg)) <|
    bnd (upJ J p2 (0 : Int32).toNatClampNeg x3.toInt64) fun J8 =>
    some ((0 : Int32), J8)
  else
    if e2 = 1 then
      some ((1 : Int32), J)
    else
      none
def f_L_letter (S : gS) (I : gMI) (J : gMJ) (p0 : Nat) (p1 : Int32) (p2 : Int32) (p3 : Nat) : Option (Int32 × gMJ) :=
  gd (S.1 p0 = 8) <|
  bd2 (f_H_letter S I J p0 p1 p2) fun e2 x3 =>
  if e2 = 0 then
    gd (S.1 p3 = 23) <|
    gd (¬ ((0 : Int32) < 0 ∨ S.2.1 p3 ≤ (0 : Int32).toNatClampNeg)) <|
    bnd (upJ J p3 (0 : Int32).toNatClampNeg x3.toInt64) fun J9 =>
    some ((0 : Int32), J9)
  else
    if e2 = 1 then
      some ((1 : Int32), J)
    else
    if e2 = 2 then
      some ((2 : Int32), J)
    else
      none
def f_L_deliver (S : gS) (I : gMI) (J : gMJ) (p0 : Nat) (p1 : Int32) (p2 : Nat) : Option (Int32 × gMI × gMJ) :=
  gd (S.1 p0 = 8) <|
  bd4 (f_H_deliver S I J p0 p1) fun e2 x3 I4 J5 =>
  if e2 = 0 then
    gd (S.1 p2 = 23) <|
    gd (¬ ((0 : Int32) < 0 ∨ S.2.1 p2 ≤ (0 : Int32).toNatClampNeg)) <|
    bnd (upJ J5 p2 (0 : Int32).toNatClampNeg x3.toInt64) fun J10 =>
    some ((0 : Int32), I4, J10)
  else
    if e2 = 1 then
      some ((1 : Int32), I4, J5)
    else
      none
def f_L_lose (S : gS) (I : gMI) (J : gMJ) (p0 : Nat) (p1 : Int32) (p2 : Nat) : Option (Int32 × gMI × gMJ) :=
  gd (S.1 p0 = 8) <|
  bd3 (f_H_lose S I J p0 p1) fun e2 x3 I4 =>
  if e2 = 0 then
    gd (S.1 p2 = 23) <|
    gd (¬ ((0 : Int32) < 0 ∨ S.2.1 p2 ≤ (0 : Int32).toNatClampNeg)) <|
    bnd (upJ J p2 (0 : Int32).toNatClampNeg x3.toInt64) fun J9 =>
    some ((0 : Int32), I4, J9)
  else
    if e2 = 1 then
      some ((1 : Int32), I4, J)
    else
      none
def f_L_twin_b15 (S : gS) (I : gMI) (J : gMJ) (s0 : Int64) (s1 : Int32) (s2 : Nat) : Option (Int32 × gMI × gMJ) :=
  gd (S.1 s2 = 23) <|
  gd (¬ (s1 < 0 ∨ S.2.1 s2 ≤ s1.toNatClampNeg)) <|
  bnd (upJ J s2 s1.toNatClampNeg s0) fun J3 =>
  some ((0 : Int32), I, J3)
def f_L_twin (S : gS) (I : gMI) (J : gMJ) (p0 : Nat) (p1 : Int32) (p2 : Nat) : Option (Int32 × gMI × gMJ) :=
  gd (S.1 p0 = 8) <|
  bd4 (f_H_twin S I J p0 p1) fun e2 x3 I4 J5 =>
  if e2 = 0 then
    if x3 = 0 then
      f_L_twin_b15 S I4 J5 (0 : Int64) (0 : Int32) p2
    else
      f_L_twin_b15 S I4 J5 (1 : Int64) (0 : Int32) p2
  else
    if e2 = 1 then
      some ((1 : Int32), I4, J5)
    else
      none
def f_L_run (S : gS) (I : gMI) (J : gMJ) (p0 : Nat) (p1 : Int32) (p2 : Nat) : Option (Int32 × gMI × gMJ) :=
  gd (S.1 p0 = 8) <|
  bd4 (f_H_run S I J p0 p1) fun e2 x3 I4 J5 =>
  if e2 = 0 then
    gd (S.1 p2 = 23) <|
    gd (¬ ((0 : Int32) < 0 ∨ S.2.1 p2 ≤ (0 : Int32).toNatClampNeg)) <|
    bnd (upJ J5 p2 (0 : Int32).toNatClampNeg x3.toInt64) fun J10 =>
    some ((0 : Int32), I4, J10)
  else
    if e2 = 2 then
      some ((1 : Int32), I4, J5)
    else
      none
def f_L_resend (S : gS) (I : gMI) (J : gMJ) (p0 : Nat) (p1 : Int32) (p2 : Nat) : Option (Int32 × gMI × gMJ) :=
  gd (S.1 p0 = 8) <|
  bd4 (f_H_resend S I J p0 p1) fun e2 x3 I4 J5 =>
  if e2 = 0 then
    gd (S.1 p2 = 23) <|
    gd (¬ ((0 : Int32) < 0 ∨ S.2.1 p2 ≤ (0 : Int32).toNatClampNeg)) <|
    bnd (upJ J5 p2 (0 : Int32).toNatClampNeg x3.toInt64) fun J11 =>
    some ((0 : Int32), I4, J11)
  else
    if e2 = 1 then
      some ((1 : Int32), I4, J5)
    else
    if e2 = 3 then
      some ((2 : Int32), I4, J5)
    else
      none
def f_L_takeOver (S : gS) (I : gMI) (J : gMJ) (p0 : Nat) (p1 : Int32) (p2 : Int32) (p3 : Nat) : Option (Int32 × gMI × gMJ) :=
  gd (S.1 p0 = 8) <|
  bd4 (f_H_takeOver S I J p0 p1 p2) fun e2 x3 I4 J5 =>
  if e2 = 0 then
    gd (S.1 p3 = 23) <|
    gd (¬ ((0 : Int32) < 0 ∨ S.2.1 p3 ≤ (0 : Int32).toNatClampNeg)) <|
    bnd (upJ J5 p3 (0 : Int32).toNatClampNeg x3.toInt64) fun J11 =>
    some ((0 : Int32), I4, J11)
  else
    if e2 = 1 then
      some ((1 : Int32), I4, J5)
    else
    if e2 = 3 then
      some ((2 : Int32), I4, J5)
    else
      none
def f_L_crash (S : gS) (I : gMI) (J : gMJ) (p0 : Nat) (p1 : Int32) (p2 : Nat) : Option (Int32 × gMI × gMJ) :=
  gd (S.1 p0 = 8) <|
  bd3 (f_H_crash S I J p0 p1) fun e2 x3 I4 =>
  if e2 = 0 then
    gd (S.1 p2 = 23) <|
    gd (¬ ((0 : Int32) < 0 ∨ S.2.1 p2 ≤ (0 : Int32).toNatClampNeg)) <|
    bnd (upJ J p2 (0 : Int32).toNatClampNeg x3.toInt64) fun J9 =>
    some ((0 : Int32), I4, J9)
  else
    if e2 = 1 then
      some ((1 : Int32), I4, J)
    else
      none
def f_L_restart (S : gS) (I : gMI) (J : gMJ) (p0 : Nat) (p1 : Int32) : Option (Int32 × gMI) :=
  gd (S.1 p0 = 8) <|
  bd2 (f_H_restart S I J p0 p1) fun e2 I3 =>
  if e2 = 0 then
    some ((0 : Int32), I3)
  else
    if e2 = 1 then
      some ((1 : Int32), I3)
    else
      none
def f_L_state (S : gS) (I : gMI) (J : gMJ) (p0 : Nat) (p1 : Int32) (p2 : Nat) : Option (Int32 × gMJ) :=
  gd (S.1 p0 = 8) <|
  bd2 (f_H_state S I J p0 p1) fun e2 x3 =>
  if e2 = 0 then
    gd (S.1 p2 = 23) <|
    gd (¬ ((0 : Int32) < 0 ∨ S.2.1 p2 ≤ (0 : Int32).toNatClampNeg)) <|
    bnd (upJ J p2 (0 : Int32).toNatClampNeg x3.toInt64) fun J8 =>
    some ((0 : Int32), J8)
  else
    if e2 = 1 then
      some ((1 : Int32), J)
    else
      none
def f_L_answer (S : gS) (I : gMI) (J : gMJ) (p0 : Nat) (p1 : Int32) (p2 : Nat) : Option (Int32 × gMJ) :=
  gd (S.1 p0 = 8) <|
  bd2 (f_H_answer S I J p0 p1) fun e2 x3 =>
  if e2 = 0 then
    gd (S.1 p2 = 23) <|
    gd (¬ ((0 : Int32) < 0 ∨ S.2.1 p2 ≤ (0 : Int32).toNatClampNeg)) <|
    bnd (upJ J p2 (0 : Int32).toNatClampNeg x3) fun J9 =>
    some ((0 : Int32), J9)
  else
    if e2 = 1 then
      some ((1 : Int32), J)
    else
    if e2 = 3 then
      some ((2 : Int32), J)
    else
      none
def f_L_found (S : gS) (I : gMI) (J : gMJ) (p0 : Nat) (p1 : Int32) (p2 : Int32) (p3 : Nat) : Option (Int32 × gMJ) :=
  gd (S.1 p0 = 8) <|
  bd2 (f_H_found S I J p0 p1 p2) fun e2 x3 =>
  if e2 = 0 then
    gd (S.1 p3 = 23) <|
    gd (¬ ((0 : Int32) < 0 ∨ S.2.1 p3 ≤ (0 : Int32).toNatClampNeg)) <|
    bnd (upJ J p3 (0 : Int32).toNatClampNeg x3.toInt64) fun J9 =>
    some ((0 : Int32), J9)
  else
    if e2 = 1 then
      some ((1 : Int32), J)
    else
    if e2 = 3 then
      some ((2 : Int32), J)
    else
      none
def f_L_about (S : gS) (I : gMI) (J : gMJ) (p0 : Nat) (p1 : Int32) (p2 : Int32) (p3 : Nat) : Option (Int32 × gMJ) :=
  gd (S.1 p0 = 8) <|
  bd2 (f_H_about S I J p0 p1 p2) fun e2 x3 =>
  if e2 = 0 then
    gd (S.1 p3 = 23) <|
    gd (¬ ((0 : Int32) < 0 ∨ S.2.1 p3 ≤ (0 : Int32).toNatClampNeg)) <|
    bnd (upJ J p3 (0 : Int32).toNatClampNeg x3.toInt64) fun J9 =>
    some ((0 : Int32), J9)
  else
    if e2 = 1 then
      some ((1 : Int32), J)
    else
    if e2 = 2 then
      some ((2 : Int32), J)
    else
      none
def f_L_mark (S : gS) (I : gMI) (J : gMJ) (p0 : Nat) (p1 : Int32) (p2 : Int32) (p3 : Nat) : Option (Int32 × gMJ) :=
  gd (S.1 p0 = 8) <|
  bd2 (f_H_mark S I J p0 p1 p2) fun e2 x3 =>
  if e2 = 0 then
    gd (S.1 p3 = 23) <|
    gd (¬ ((0 : Int32) < 0 ∨ S.2.1 p3 ≤ (0 : Int32).toNatClampNeg)) <|
    bnd (upJ J p3 (0 : Int32).toNatClampNeg x3.toInt64) fun J8 =>
    some ((0 : Int32), J8)
  else
    if e2 = 1 then
      some ((1 : Int32), J)
    else
      none
def f_L_forget (S : gS) (I : gMI) (J : gMJ) (p0 : Nat) (p1 : Int32) (p2 : Nat) : Option (Int32 × gMI × gMJ) :=
  gd (S.1 p0 = 8) <|
  bd3 (f_H_forget S I J p0 p1) fun e2 x3 I4 =>
  if e2 = 0 then
    gd (S.1 p2 = 23) <|
    gd (¬ ((0 : Int32) < 0 ∨ S.2.1 p2 ≤ (0 : Int32).toNatClampNeg)) <|
    bnd (upJ J p2 (0 : Int32).toNatClampNeg x3.toInt64) fun J9 =>
    some ((0 : Int32), I4, J9)
  else
    if e2 = 1 then
      some ((1 : Int32), I4, J)
    else
      none
