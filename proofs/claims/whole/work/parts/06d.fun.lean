def f_Question_isThere_b12 (S : gS) (I : gMI) (J : gMJ) (s0 : Int32) : Option (Int32) :=
  gd (s0 = 0 ∨ s0 = 1) <|
  some (s0)
def f_Question_isThere (S : gS) (I : gMI) (J : gMJ) (p0 : Nat) : Option (Int32) :=
  gd (S.1 p0 = 4) <|
  if (I p0 6) ≤ 0 then
    f_Question_isThere_b12 S I J (0 : Int32)
  else
    f_Question_isThere_b12 S I J (1 : Int32)
def f_Question_begin_b29 (S : gS) (J : gMJ) : Nat → gMI → Nat → Int32 → Option (gMI)
  | 0, _, _, _ => none
  | n + 1, I, l0, l5 =>
    if (8 : Int32) ≤ l5 then
      some (I)
    else
      gd (S.1 l0 = 4) <|
      Option.bind (S.2.2 l0 0) fun r3 =>
      gd (S.1 r3 = 21) <|
      gd (¬ (l5 < 0 ∨ S.2.1 r3 ≤ l5.toNatClampNeg)) <|
      bnd (upI I r3 l5.toNatClampNeg (-1 : Int32)) fun I6 =>
      bnd (l5 + (1 : Int32)) fun v7 =>
      f_Question_begin_b29 S J n I6 l0 v7
def f_Question_begin (S : gS) (I : gMI) (J : gMJ) (p0 : Nat) (p1 : Int32) (p2 : Int32) (p3 : Int32) (p4 : Int32) : Option (gMI) :=
  gd (S.1 p0 = 4) <|
  bnd (upI I p0 6 p1) fun I2 =>
  bnd (upI I2 p0 7 p2) fun I3 =>
  bnd (upI I3 p0 8 p3) fun I4 =>
  bnd (upI I4 p0 9 p4) fun I5 =>
  bnd (upI I5 p0 11 (0 : Int32)) fun I6 =>
  f_Question_begin_b29 S J gFuel I6 p0 (0 : Int32)
def f_Question_beginTurn (S : gS) (I : gMI) (J : gMJ) (p0 : Nat) (p1 : Int32) : Option (gMI) :=
  gd (S.1 p0 = 4) <|
  bnd (upI I p0 10 p1) fun I2 =>
  bnd (upI I2 p0 11 ((I2 p0 11) + (1 : Int32))) fun I3 =>
  bnd (upI I3 p0 12 (0 : Int32)) fun I4 =>
  bnd (upI I4 p0 13 (0 : Int32)) fun I5 =>
  bnd (upI I5 p0 15 (0 : Int32)) fun I6 =>
  Option.bind (S.2.2 p0 3) fun r7 =>
  gd (S.1 r7 = 6) <|
  bnd (upI I6 r7 6 (0 : Int32)) fun I9 =>
  bnd (upI I9 p0 14 (0 : Int32)) fun I10 =>
  bnd (upI I10 p0 5 (1 : Int32)) fun I11 =>
  some (I11)
def f_Question_beginStep (S : gS) (I : gMI) (J : gMJ) (p0 : Nat) : Option (gMI × gMJ) :=
  gd (S.1 p0 = 4) <|
  bnd (upI I p0 12 ((I p0 12) + (1 : Int32))) fun I2 =>
  Option.bind (S.2.2 p0 2) fun r3 =>
  gd (S.1 r3 = 5) <|
  bd2 (f_Replies_clear S I2 J r3) fun I5 J6 =>
  some (I5, J6)
def f_Question_numbersAsked (S : gS) (I : gMI) (J : gMJ) (p0 : Nat) : Option (Int32) :=
  gd (S.1 p0 = 4) <|
  if (I p0 5) = (1 : Int32) then
    some ((0 : Int32))
  else
  if (I p0 5) = (5 : Int32) then
    some ((3 : Int32))
  else
    some ((2 : Int32))
def f_Question_writeAsking_b32 (S : gS) : Nat → gMI → gMJ → Nat → Nat → Int32 → Option (gMI × gMJ)
  | 0, _, _, _, _, _ => none
  | n + 1, I, J, l0, l1, l3 =>
    gd (S.1 l0 = 4) <|
    Option.bind (f_Question_numbersAsked S I J l0) fun x2 =>
    if x2 ≤ l3 then
      some (I, J)
    else
      Option.bind (S.2.2 l0 4) fun r5 =>
      gd (S.1 r5 = 21) <|
      gd (¬ (l3 < 0 ∨ S.2.1 r5 ≤ l3.toNatClampNeg)) <|
      gd (S.1 l1 = 1) <|
      Option.bind (f_Letter_put S I J l1 (I r5 l3.toNatClampNeg)) fun I9 =>
      bnd (l3 + (1 : Int32)) fun v11 =>
      f_Question_writeAsking_b32 S n I9 J l0 l1 v11
def f_Question_writeAsking (S : gS) (I : gMI) (J : gMJ) (p0 : Nat) (p1 : Option Nat) (p2 : Int32) : Option (gMI × gMJ) :=
  gm p1
    (some (I, J))
    (fun r1 =>
     gd (S.1 p0 = 4) <|
     gd (S.1 r1 = 1) <|
     bd2 (f_Letter_address S I J r1 (I p0 5) (I p0 6) (I p0 11) (I p0 12) (I p0 10) p2) fun I5 J6 =>
     f_Question_writeAsking_b32 S gFuel I5 J6 p0 r1 (0 : Int32)
    )
def f_Question_freeze_b30 (S : gS) (J : gMJ) (I : gMI)  : Option (gMI) :=
  some (I)
def f_Question_freeze (S : gS) (I : gMI) (J : gMJ) (p0 : Nat) (p1 : Int32) (p2 : Nat) : Option (gMI) :=
  gd (S.1 p0 = 4) <|
  Option.bind (S.2.2 p0 0) fun r2 =>
  gd (S.1 r2 = 21) <|
  gd (¬ (p1 < 0 ∨ S.2.1 r2 ≤ p1.toNatClampNeg)) <|
  if (I r2 p1.toNatClampNeg) = (-1 : Int32) then
    gd (S.1 p2 = 7) <|
    bnd (upI I r2 p1.toNatClampNeg (I p2 1)) fun I7 =>
    Option.bind (S.2.2 p0 1) fun r8 =>
    gd (S.1 r8 = 27) <|
    gd (¬ (p1 < 0 ∨ S.2.1 r8 ≤ p1.toNatClampNeg)) <|
    Option.bind (S.2.2 r8 p1.toNatClampNeg) fun r11 =>
    gd (S.1 r11 = 7) <|
    Option.bind (f_SortedRow_copy S I7 J r11 p2) fun I13 =>
    f_Question_freeze_b30 S J I13
  else
    f_Question_freeze_b30 S J I
def f_Question_awaits_b60 (S : gS) (I : gMI) (J : gMJ) (s0 : Int32) : Option (Int32) :=
  gd (s0 = 0 ∨ s0 = 1) <|
  some (s0)
def f_Question_awaits_b59 (S : gS) (I : gMI) (J : gMJ)  : Option (Int32) :=
  f_Question_awaits_b60 S I J (0 : Int32)
def f_Question_awaits (S : gS) (I : gMI) (J : gMJ) (p0 : Nat) (p1 : Nat) : Option (Int32) :=
  gd (S.1 p0 = 4) <|
  if (I p0 14) = 0 then
    gd (S.1 p1 = 1) <|
    if (I p1 8) = (I p0 10) then
      if (I p1 5) = (I p0 11) then
        if (I p1 6) = (I p0 12) then
          Option.bind (S.2.2 p0 2) fun r7 =>
          gd (S.1 r7 = 5) <|
          Option.bind (S.2.2 r7 0) fun r9 =>
          gd (S.1 r9 = 22) <|
          gd (¬ ((I p1 7) < 0 ∨ S.2.1 r9 ≤ (I p1 7).toNatClampNeg)) <|
          if (I r9 (I p1 7).toNatClampNeg) = 0 then
            f_Question_awaits_b60 S I J (1 : Int32)
          else
            f_Question_awaits_b59 S I J
        else
          f_Question_awaits_b59 S I J
      else
        f_Question_awaits_b59 S I J
    else
      f_Question_awaits_b59 S I J
  else
    f_Question_awaits_b59 S I J
def f_Question_next (S : gS) (I : gMI) (J : gMJ) (p0 : Nat) (p1 : Int32) (p2 : Int32) (p3 : Int32) : Option (gMI) :=
  gd (S.1 p0 = 4) <|
  bnd (upI I p0 5 p1) fun I2 =>
  Option.bind (S.2.2 p0 4) fun r3 =>
  gd (S.1 r3 = 21) <|
  gd (¬ ((0 : Int32) < 0 ∨ S.2.1 r3 ≤ (0 : Int32).toNatClampNeg)) <|
  bnd (upI I2 r3 (0 : Int32).toNatClampNeg p2) fun I6 =>
  gd (¬ ((1 : Int32) < 0 ∨ S.2.1 r3 ≤ (1 : Int32).toNatClampNeg)) <|
  bnd (upI I6 r3 (1 : Int32).toNatClampNeg p3) fun I8 =>
  some (I8)
def f_Question_firstRank (S : gS) (I : gMI) (J : gMJ) (p0 : Nat) : Option (Int32) :=
  gd (S.1 p0 = 4) <|
  if (I p0 7) = (2 : Int32) then
    some (((((I p0 15) * (I p0 8)) / (1000 : Int32)) + (1 : Int32)))
  else
  if (I p0 7) = (4 : Int32) then
    some ((if (1 : Int32) < ((((I p0 15) + (1 : Int32)) / (2 : Int32)) - (((I p0 15) * (I p0 8)) / (2000 : Int32))) then ((((I p0 15) + (1 : Int32)) / (2 : Int32)) - (((I p0 15) * (I p0 8)) / (2000 : Int32))) else (1 : Int32)))
  else
    some ((I p0 8))
def f_Question_seekRank (S : gS) (I : gMI) (J : gMJ) (p0 : Nat) (p1 : Int32) (p2 : Int32) : Option (gMI) :=
  gd (S.1 p0 = 4) <|
  Option.bind (S.2.2 p0 3) fun r2 =>
  gd (S.1 r2 = 6) <|
  Option.bind (f_Search_begin S I J r2 p1 p2 (I p0 15)) fun I4 =>
  Option.bind (f_Question_next S I4 J p0 (3 : Int32) (I4 r2 3) (I4 r2 4)) fun I6 =>
  some (I6)
def f_Question_afterFreeze_b102 (S : gS) (J : gMJ) (I : gMI)  : Option (gMI) :=
  some (I)
def f_Question_afterFreeze_b37 (S : gS) (J : gMJ) (I : gMI) (l0 : Nat) : Option (gMI) :=
  gd (S.1 l0 = 4) <|
  bnd (upI I l0 14 (2 : Int32)) fun I2 =>
  f_Question_afterFreeze_b102 S J I2
def f_Question_afterFreeze_b45 (S : gS) (J : gMJ) (I : gMI) (l0 : Nat) : Option (gMI) :=
  gd (S.1 l0 = 4) <|
  if (I l0 7) = (1 : Int32) then
    Option.bind (f_Question_next S I J l0 (9 : Int32) (I l0 8) (I l0 9)) fun I10 =>
    f_Question_afterFreeze_b102 S J I10
  else
    if (I l0 7) = (3 : Int32) then
      Option.bind (f_Question_next S I J l0 (9 : Int32) (-2147483648 : Int32) (I l0 8)) fun I8 =>
      f_Question_afterFreeze_b102 S J I8
    else
      Option.bind (f_Question_firstRank S I J l0) fun x4 =>
      Option.bind (f_Question_seekRank S I J l0 x4 (0 : Int32)) fun I6 =>
      f_Question_afterFreeze_b102 S J I6
def f_Question_afterFreeze (S : gS) (I : gMI) (J : gMJ) (p0 : Nat) : Option (gMI) :=
  gd (S.1 p0 = 4) <|
  Option.bind (S.2.2 p0 2) fun r2 =>
  gd (S.1 r2 = 5) <|
  Option.bind (f_Replies_total S I J r2 (0 : Int32)) fun x4 =>
  bnd (upI I p0 15 x4) fun I6 =>
  if (I6 p0 15) = 0 then
    f_Question_afterFreeze_b37 S J I6 p0
  else
    if (I6 p0 7) = 0 then
      if (I6 p0 8) ≤ (I6 p0 15) then
        f_Question_afterFreeze_b45 S J I6 p0
      else
        f_Question_afterFreeze_b37 S J I6 p0
    else
      f_Question_afterFreeze_b45 S J I6 p0
def f_Question_afterSplit_b103 (S : gS) (J : gMJ) (I : gMI)  : Option (gMI) :=
  some (I)
def f_Question_afterSplit (S : gS) (I : gMI) (J : gMJ) (p0 : Nat) : Option (gMI) :=
  gd (S.1 p0 = 4) <|
  Option.bind (S.2.2 p0 3) fun r2 =>
  Option.bind (S.2.2 p0 2) fun r3 =>
  gd (S.1 r3 = 5) <|
  Option.bind (f_Replies_total S I J r3 (0 : Int32)) fun x5 =>
  gd (S.1 r2 = 6) <|
  bnd (upI I r2 6 x5) fun I8 =>
  if (64 : Int32) < (I8 r2 6) then
    Option.bind (f_Replies_pivot S I8 J r3 (I8 r2 6)) fun x10 =>
    bnd (upI I8 r2 5 x10) fun I12 =>
    Option.bind (f_Question_next S I12 J p0 (5 : Int32) (I12 r2 3) (I12 r2 4)) fun I13 =>
    Option.bind (S.2.2 p0 4) fun r15 =>
    gd (S.1 r15 = 21) <|
    gd (¬ ((2 : Int32) < 0 ∨ S.2.1 r15 ≤ (2 : Int32).toNatClampNeg)) <|
    bnd (upI I13 r15 (2 : Int32).toNatClampNeg (I13 r2 5)) fun I18 =>
    f_Question_afterSplit_b103 S J I18
  else
    Option.bind (f_Question_next S I8 J p0 (7 : Int32) (I8 r2 3) (I8 r2 4)) fun I19 =>
    f_Question_afterSplit_b103 S J I19
def f_Question_hasTwoRanks_b21 (S : gS) (I : gMI) (J : gMJ) (s0 : Int32) : Option (Int32) :=
  gd (s0 = 0 ∨ s0 = 1) <|
  some (s0)
def f_Question_hasTwoRanks_b16 (S : gS) (I : gMI) (J : gMJ)  : Option (Int32) :=
  f_Question_hasTwoRanks_b21 S I J (1 : Int32)
def f_Question_hasTwoRanks (S : gS) (I : gMI) (J : gMJ) (p0 : Nat) : Option (Int32) :=
  gd (S.1 p0 = 4) <|
  if (I p0 7) = (2 : Int32) then
    f_Question_hasTwoRanks_b16 S I J
  else
    if (I p0 7) = (4 : Int32) then
      f_Question_hasTwoRanks_b16 S I J
    else
      f_Question_hasTwoRanks_b21 S I J (0 : Int32)
def f_Question_conclude (S : gS) (I : gMI) (J : gMJ) (p0 : Nat) (p1 : Int64) : Option (gMI × gMJ) :=
  gd (S.1 p0 = 4) <|
  bnd (upI I p0 14 (1 : Int32)) fun I2 =>
  bnd (upJ J p0 18 p1) fun J3 =>
  some (I2, J3)
def f_Question_lastRank (S : gS) (I : gMI) (J : gMJ) (p0 : Nat) : Option (Int32) :=
  gd (S.1 p0 = 4) <|
  if (I p0 7) = (2 : Int32) then
    some (((I p0 15) - (((I p0 15) * (I p0 8)) / (1000 : Int32))))
  else
  if (I p0 7) = (4 : Int32) then
    some ((if ((((I p0 15) + (1 : Int32)) / (2 : Int32)) + (((I p0 15) * (I p0 8)) / (2000 : Int32))) < (I p0 15) then ((((I p0 15) + (1 : Int32)) / (2 : Int32)) + (((I p0 15) * (I p0 8)) / (2000 : Int32))) else (I p0 15)))
  else
    some ((I p0 8))
def f_Question_afterBothRanks_b76 (S : gS) (I : gMI) (J : gMJ)  : Option (gMI × gMJ) :=
  some (I, J)
def f_Question_afterBothRanks (S : gS) (I : gMI) (J : gMJ) (p0 : Nat) : Option (gMI × gMJ) :=
  gd (S.1 p0 = 4) <|
  if (I p0 7) = (4 : Int32) then
    bd2 (f_Question_conclude S I J p0 ((I p0 17).toInt64 - (I p0 16).toInt64)) fun I13 J14 =>
    f_Question_afterBothRanks_b76 S I13 J14
  else
    if (I p0 16) = (I p0 17) then
      Option.bind (f_Question_lastRank S I J p0) fun x6 =>
      Option.bind (f_Question_firstRank S I J p0) fun x8 =>
      bd2 (f_Question_conclude S I J p0 ((I p0 16).toInt64 * ((x6 - x8) + (1 : Int32)).toInt64)) fun I10 J11 =>
      f_Question_afterBothRanks_b76 S I10 J11
    else
      Option.bind (f_Question_next S I J p0 (11 : Int32) (I p0 16) (I p0 17)) fun I4 =>
      f_Question_afterBothRanks_b76 S I4 J
def f_Question_settle_b52 (S : gS) (I : gMI) (J : gMJ)  : Option (gMI × gMJ) :=
  some (I, J)
def f_Question_settle (S : gS) (I : gMI) (J : gMJ) (p0 : Nat) (p1 : Int32) : Option (gMI × gMJ) :=
  gd (S.1 p0 = 4) <|
  Option.bind (f_Question_hasTwoRanks S I J p0) fun x2 =>
  if x2 = 0 then
    bd2 (f_Question_conclude S I J p0 p1.toInt64) fun I17 J18 =>
    f_Question_settle_b52 S I17 J18
  else
    Option.bind (S.2.2 p0 3) fun r5 =>
    gd (S.1 r5 = 6) <|
    if (I r5 0) = 0 then
      bnd (upI I p0 16 p1) fun I12 =>
      Option.bind (f_Question_lastRank S I12 J p0) fun x13 =>
      Option.bind (f_Question_seekRank S I12 J p0 x13 (1 : Int32)) fun I15 =>
      f_Question_settle_b52 S I15 J
    else
      bnd (upI I p0 17 p1) fun I8 =>
      bd2 (f_Question_afterBothRanks S I8 J p0) fun I9 J10 =>
      f_Question_settle_b52 S I9 J10
def f_Question_afterCut_b94 (S : gS) (I : gMI) (J : gMJ) (l0 : Nat) : Option (gMI × gMJ) :=
  gd (S.1 l0 = 4) <|
  Option.bind (S.2.2 l0 3) fun r2 =>
  gd (S.1 r2 = 6) <|
  Option.bind (f_Question_next S I J l0 (3 : Int32) (I r2 3) (I r2 4)) fun I4 =>
  some (I4, J)
def f_Question_afterCut_b64 (S : gS) (I : gMI) (J : gMJ) (l0 : Nat) (l1 : Int32) (l2 : Int32) : Option (gMI × gMJ) :=
  gd (S.1 l0 = 4) <|
  Option.bind (S.2.2 l0 3) fun r2 =>
  gd (S.1 r2 = 6) <|
  Option.bind (f_Search_rankWithin S I J r2) fun x4 =>
  if l1 < x4 then
    Option.bind (f_Search_keepAbovePivot S I J r2 l2) fun I7 =>
    f_Question_afterCut_b94 S I7 J l0
  else
    Option.bind (f_Search_keepBelowPivot S I J r2 l1) fun I9 =>
    f_Question_afterCut_b94 S I9 J l0
def f_Question_afterCut (S : gS) (I : gMI) (J : gMJ) (p0 : Nat) : Option (gMI × gMJ) :=
  gd (S.1 p0 = 4) <|
  bnd (upI I p0 13 ((I p0 13) + (1 : Int32))) fun I2 =>
  Option.bind (S.2.2 p0 2) fun r3 =>
  gd (S.1 r3 = 5) <|
  Option.bind (f_Replies_total S I2 J r3 (0 : Int32)) fun x5 =>
  Option.bind (f_Replies_total S I2 J r3 (1 : Int32)) fun x7 =>
  bnd (x5 + x7) fun v9 =>
  Option.bind (S.2.2 p0 3) fun r10 =>
  gd (S.1 r10 = 6) <|
  Option.bind (f_Search_rankWithin S I2 J r10) fun x12 =>
  if x12 ≤ x5 then
    f_Question_afterCut_b64 S I2 J p0 x5 v9
  else
    Option.bind (f_Search_rankWithin S I2 J r10) fun x15 =>
    if v9 < x15 then
      f_Question_afterCut_b64 S I2 J p0 x5 v9
    else
      bd2 (f_Question_settle S I2 J p0 (I2 r10 5)) fun I18 J19 =>
      some (I18, J19)
def f_Question_afterHold_b52 (S : gS) (I : gMI) (J : gMJ)  : Option (gMI × gMJ) :=
  some (I, J)
def f_Question_afterHold_b49 (S : gS) (I : gMI) (J : gMJ) (s0 : Int64) (s1 : Nat) : Option (gMI × gMJ) :=
  gd (S.1 s1 = 4) <|
  bd2 (f_Question_conclude S I J s1 s0) fun I2 J3 =>
  f_Question_afterHold_b52 S I2 J3
def f_Question_afterHold (S : gS) (I : gMI) (J : gMJ) (p0 : Nat) : Option (gMI × gMJ) :=
  gd (S.1 p0 = 4) <|
  Option.bind (S.2.2 p0 2) fun r2 =>
  gd (S.1 r2 = 5) <|
  Option.bind (f_Replies_total S I J r2 (0 : Int32)) fun x4 =>
  bnd x4.toInt64 fun v6 =>
  if (I p0 7) = (1 : Int32) then
    bd2 (f_Question_conclude S I J p0 v6) fun I10 J11 =>
    f_Question_afterHold_b52 S I10 J11
  else
    if (I p0 15) = 0 then
      f_Question_afterHold_b49 S I J (0 : Int64) p0
    else
      gd (¬ (I p0 15).toInt64 = 0) <|
      f_Question_afterHold_b49 S I J (((1000000 : Int64) * v6) / (I p0 15).toInt64) p0
def f_Question_afterAdd (S : gS) (I : gMI) (J : gMJ) (p0 : Nat) : Option (gMI × gMJ) :=
  gd (S.1 p0 = 4) <|
  Option.bind (S.2.2 p0 2) fun r2 =>
  gd (S.1 r2 = 5) <|
  Option.bind (f_Replies_total S I J r2 (0 : Int32)) fun x4 =>
  Option.bind (f_Replies_total S I J r2 (1 : Int32)) fun x6 =>
  bnd (x4 + x6) fun v8 =>
  Option.bind (f_Replies_total S I J r2 (2 : Int32)) fun x9 =>
  bnd (v8 + x9) fun v11 =>
  Option.bind (f_Question_firstRank S I J p0) fun x12 =>
  bnd (((v8 - x12) + (1 : Int32)).toInt64) fun v14 =>
  Option.bind (f_Question_lastRank S I J p0) fun x15 =>
  bnd ((x15 - v11).toInt64) fun v17 =>
  bd2 (f_Question_conclude S I J p0 (((v14 * (I p0 16).toInt64) + (J r2 3)) + (v17 * (I p0 17).toInt64))) fun I18 J19 =>
  some (I18, J19)
def f_Question_goOn_b114 (S : gS) (I : gMI) (J : gMJ)  : Option (gMI × gMJ) :=
  some (I, J)
def f_Question_goOn (S : gS) (I : gMI) (J : gMJ) (p0 : Nat) : Option (gMI × gMJ) :=
  gd (S.1 p0 = 4) <|
  if (I p0 5) = (1 : Int32) then
    Option.bind (f_Question_afterFreeze S I J p0) fun I3 =>
    f_Question_goOn_b114 S I3 J
  else
  if (I p0 5) = (2 : Int32) then
    bd2 (f_Question_afterAdd S I J p0) fun I6 J7 =>
    f_Question_goOn_b114 S I6 J7
  else
  if (I p0 5) = (3 : Int32) then
    Option.bind (f_Question_afterSplit S I J p0) fun I10 =>
    f_Question_goOn_b114 S I10 J
  else
  if (I p0 5) = (4 : Int32) then
    bd2 (f_Question_afterAdd S I J p0) fun I13 J14 =>
    f_Question_goOn_b114 S I13 J14
  else
  if (I p0 5) = (5 : Int32) then
    bd2 (f_Question_afterCut S I J p0) fun I17 J18 =>
    f_Question_goOn_b114 S I17 J18
  else
  if (I p0 5) = (6 : Int32) then
    bd2 (f_Question_afterAdd S I J p0) fun I21 J22 =>
    f_Question_goOn_b114 S I21 J22
  else
  if (I p0 5) = (7 : Int32) then
    Option.bind (S.2.2 p0 2) fun r25 =>
    gd (S.1 r25 = 5) <|
    Option.bind (S.2.2 r25 2) fun r27 =>
    Option.bind (S.2.2 p0 3) fun r28 =>
    gd (S.1 r28 = 6) <|
    Option.bind (f_Search_rankWithin S I J r28) fun x30 =>
    gd (S.1 r27 = 7) <|
    Option.bind (f_SortedRow_at S I J r27 (x30 - (1 : Int32))) fun x33 =>
    bd2 (f_Question_settle S I J p0 x33) fun I35 J36 =>
    f_Question_goOn_b114 S I35 J36
  else
  if (I p0 5) = (8 : Int32) then
    bd2 (f_Question_afterAdd S I J p0) fun I39 J40 =>
    f_Question_goOn_b114 S I39 J40
  else
  if (I p0 5) = (9 : Int32) then
    bd2 (f_Question_afterHold S I J p0) fun I43 J44 =>
    f_Question_goOn_b114 S I43 J44
  else
    bd2 (f_Question_afterAdd S I J p0) fun I46 J47 =>
    f_Question_goOn_b114 S I46 J47
