def f_H_needLogger_b10 (S : gS) (I : gMI) (J : gMJ)  : Option (Nat) :=
  some (1)
def f_H_needLogger (S : gS) (I : gMI) (J : gMJ) (p0 : Int32) : Option (Nat) :=
  if p0 < 0 then
    f_H_needLogger_b10 S I J
  else
    if p0 < (8 : Int32) then
      some (0)
    else
      f_H_needLogger_b10 S I J
def f_H_loggerOf (S : gS) (I : gMI) (J : gMJ) (p0 : Nat) (p1 : Int32) : Option (Nat × Option Nat) :=
  Option.bind (f_H_needLogger S I J p1) fun e1 =>
  if e1 = 0 then
    gd (S.1 p0 = 8) <|
    Option.bind (S.2.2 p0 0) fun r4 =>
    gd (S.1 r4 = 24) <|
    gd (¬ (p1 < 0 ∨ S.2.1 r4 ≤ p1.toNatClampNeg)) <|
    Option.bind (S.2.2 r4 p1.toNatClampNeg) fun r7 =>
    some (0, some r7)
  else
    some (e1, none)
def f_H_needUp (S : gS) (I : gMI) (J : gMJ) (p0 : Nat) : Option (Nat) :=
  gd (S.1 p0 = 2) <|
  if (I p0 1) = 0 then
    some (3)
  else
    some (0)
def f_H_needRoomFor (S : gS) (I : gMI) (J : gMJ) (p0 : Nat) (p1 : Int32) : Option (Nat) :=
  Option.bind (f_H_needUp S I J p0) fun e1 =>
  if e1 = 0 then
    gd (S.1 p0 = 2) <|
    Option.bind (S.2.2 p0 0) fun r4 =>
    gd (S.1 r4 = 7) <|
    if ((I r4 1) + p1) ≤ (500 : Int32) then
      some (0)
    else
      some (3)
  else
    some (e1)
def f_H_record (S : gS) (I : gMI) (J : gMJ) (p0 : Nat) (p1 : Int32) (p2 : Int32) : Option (Nat × Int32 × gMI) :=
  gd (S.1 p0 = 8) <|
  bd2 (f_H_loggerOf S I J p0 p1) fun e2 q3 =>
  if e2 = 0 then
    Option.bind q3 fun r5 =>
    Option.bind (f_H_needRoomFor S I J r5 (1 : Int32)) fun e6 =>
    if e6 = 0 then
      gd (S.1 r5 = 2) <|
      Option.bind (S.2.2 r5 0) fun r9 =>
      gd (S.1 r9 = 7) <|
      Option.bind (f_SortedRow_insert S I J r9 p2) fun I11 =>
      some (0, (I11 r9 1), I11)
    else
      some (e6, 0, I)
  else
    some (e2, 0, I)
def f_H_fill_b18 (S : gS) (J : gMJ) (I : gMI)  : Option (Nat × Int32 × gMI) :=
  some (2, 0, I)
def f_H_fill_b37 (S : gS) (J : gMJ) : Nat → gMI → Int32 → Int32 → Int32 → Int32 → Nat → Int32 → Option (Nat × Int32 × gMI)
  | 0, _, _, _, _, _, _, _ => none
  | n + 1, I, l2, l3, l4, l5, l6, l7 =>
    if l2 ≤ l7 then
      gd (S.1 l6 = 2) <|
      Option.bind (S.2.2 l6 0) fun r3 =>
      gd (S.1 r3 = 7) <|
      some (0, (I r3 1), I)
    else
      gd (S.1 l6 = 2) <|
      Option.bind (S.2.2 l6 0) fun r6 =>
      gd (S.1 r6 = 7) <|
      Option.bind (f_SortedRow_insert S I J r6 ((l3 + (l7 * l4)) ^^^ ((l7 * (40503 : Int32)) &&& l5))) fun I8 =>
      bnd (l7 + (1 : Int32)) fun v10 =>
      f_H_fill_b37 S J n I8 l2 l3 l4 l5 l6 v10
def f_H_fill (S : gS) (I : gMI) (J : gMJ) (p0 : Nat) (p1 : Int32) (p2 : Int32) (p3 : Int32) (p4 : Int32) (p5 : Int32) : Option (Nat × Int32 × gMI) :=
  gd (S.1 p0 = 8) <|
  bd2 (f_H_loggerOf S I J p0 p1) fun e2 q3 =>
  if e2 = 0 then
    Option.bind q3 fun r5 =>
    if p2 < 0 then
      f_H_fill_b18 S J I
    else
      if p2 ≤ (500 : Int32) then
        Option.bind (f_H_needRoomFor S I J r5 p2) fun e8 =>
        if e8 = 0 then
          f_H_fill_b37 S J gFuel I p2 p3 p4 p5 r5 (0 : Int32)
        else
          some (e8, 0, I)
      else
        f_H_fill_b18 S J I
  else
    some (e2, 0, I)
def f_H_size (S : gS) (I : gMI) (J : gMJ) (p0 : Nat) (p1 : Int32) : Option (Nat × Int32) :=
  gd (S.1 p0 = 8) <|
  bd2 (f_H_loggerOf S I J p0 p1) fun e2 q3 =>
  if e2 = 0 then
    Option.bind q3 fun r5 =>
    gd (S.1 r5 = 2) <|
    Option.bind (S.2.2 r5 0) fun r7 =>
    gd (S.1 r7 = 7) <|
    some (0, (I r7 1))
  else
    some (e2, 0)
def f_H_isAskable_b46 (S : gS) (I : gMI) (J : gMJ) (s0 : Int32) : Option (Int32) :=
  gd (s0 = 0 ∨ s0 = 1) <|
  some (s0)
def f_H_isAskable_b63 (S : gS) (I : gMI) (J : gMJ) (s0 : Int32) : Option (Int32) :=
  gd (s0 = 0 ∨ s0 = 1) <|
  some (s0)
def f_H_isAskable_b62 (S : gS) (I : gMI) (J : gMJ)  : Option (Int32) :=
  f_H_isAskable_b63 S I J (0 : Int32)
def f_H_isAskable_b80 (S : gS) (I : gMI) (J : gMJ) (s0 : Int32) : Option (Int32) :=
  gd (s0 = 0 ∨ s0 = 1) <|
  some (s0)
def f_H_isAskable_b79 (S : gS) (I : gMI) (J : gMJ)  : Option (Int32) :=
  f_H_isAskable_b80 S I J (0 : Int32)
def f_H_isAskable_b96 (S : gS) (I : gMI) (J : gMJ) (s0 : Int32) : Option (Int32) :=
  gd (s0 = 0 ∨ s0 = 1) <|
  some (s0)
def f_H_isAskable_b91 (S : gS) (I : gMI) (J : gMJ)  : Option (Int32) :=
  f_H_isAskable_b96 S I J (1 : Int32)
def f_H_isAskable (S : gS) (I : gMI) (J : gMJ) (p0 : Int32) (p1 : Int32) : Option (Int32) :=
  if p0 = (0 : Int32) then
    if p1 < (1 : Int32) then
      f_H_isAskable_b46 S I J (0 : Int32)
    else
      f_H_isAskable_b46 S I J (1 : Int32)
  else
  if p0 = (1 : Int32) then
    if p0 = (1 : Int32) then
      f_H_isAskable_b91 S I J
    else
      if p0 = (3 : Int32) then
        f_H_isAskable_b91 S I J
      else
        f_H_isAskable_b96 S I J (0 : Int32)
  else
  if p0 = (2 : Int32) then
    if p1 < 0 then
      f_H_isAskable_b62 S I J
    else
      if (499 : Int32) < p1 then
        f_H_isAskable_b62 S I J
      else
        f_H_isAskable_b63 S I J (1 : Int32)
  else
  if p0 = (3 : Int32) then
    if p0 = (1 : Int32) then
      f_H_isAskable_b91 S I J
    else
      if p0 = (3 : Int32) then
        f_H_isAskable_b91 S I J
      else
        f_H_isAskable_b96 S I J (0 : Int32)
  else
  if p0 = (4 : Int32) then
    if p1 < 0 then
      f_H_isAskable_b79 S I J
    else
      if (1000 : Int32) < p1 then
        f_H_isAskable_b79 S I J
      else
        f_H_isAskable_b80 S I J (1 : Int32)
  else
    if p0 = (1 : Int32) then
      f_H_isAskable_b91 S I J
    else
      if p0 = (3 : Int32) then
        f_H_isAskable_b91 S I J
      else
        f_H_isAskable_b96 S I J (0 : Int32)
def f_H_askThoseLeft_b37 (S : gS) (k4 : gMI → gMJ → Nat → Nat → Int32 → Int32 → Option (Int32 × gMI × gMJ)) (I : gMI) (J : gMJ) (l0 : Nat) (l1 : Nat) (l2 : Int32) (l3 : Int32) : Option (Int32 × gMI × gMJ) :=
  bnd (l3 + (1 : Int32)) fun v1 =>
  k4 I J l0 l1 l2 v1
def f_H_askThoseLeft_b4 (S : gS) : Nat → gMI → gMJ → Nat → Nat → Int32 → Int32 → Option (Int32 × gMI × gMJ)
  | 0, _, _, _, _, _, _ => none
  | n + 1, I, J, l0, l1, l2, l3 =>
    if (8 : Int32) ≤ l3 then
      some (l2, I, J)
    else
      gd (S.1 l1 = 4) <|
      Option.bind (S.2.2 l1 2) fun r3 =>
      gd (S.1 r3 = 5) <|
      Option.bind (S.2.2 r3 0) fun r5 =>
      gd (S.1 r5 = 22) <|
      gd (¬ (l3 < 0 ∨ S.2.1 r5 ≤ l3.toNatClampNeg)) <|
      if (I r5 l3.toNatClampNeg) = 0 then
        gd (S.1 l0 = 8) <|
        Option.bind (S.2.2 l0 2) fun r10 =>
        gd (S.1 r10 = 3) <|
        bd2 (f_Post_send S I J r10) fun q12 I13 =>
        gm q12
          (bd2 (f_Question_writeAsking S I13 J l1 none l3) fun I17 J18 =>
           bnd (l2 + (1 : Int32)) fun v20 =>
           f_H_askThoseLeft_b37 S (f_H_askThoseLeft_b4 S n) I17 J18 l0 l1 v20 l3)
          (fun r15 =>
           bd2 (f_Question_writeAsking S I13 J l1 (some r15) l3) fun I21 J22 =>
           bnd (l2 + (1 : Int32)) fun v24 =>
           f_H_askThoseLeft_b37 S (f_H_askThoseLeft_b4 S n) I21 J22 l0 l1 v24 l3
          )
      else
        f_H_askThoseLeft_b37 S (f_H_askThoseLeft_b4 S n) I J l0 l1 l2 l3
def f_H_askThoseLeft (S : gS) (I : gMI) (J : gMJ) (p0 : Nat) (p1 : Nat) : Option (Int32 × gMI × gMJ) :=
  f_H_askThoseLeft_b4 S gFuel I J p0 p1 (0 : Int32) (0 : Int32)
def f_H_askAll (S : gS) (I : gMI) (J : gMJ) (p0 : Nat) (p1 : Nat) : Option (gMI × gMJ) :=
  gd (S.1 p1 = 4) <|
  bd2 (f_Question_beginStep S I J p1) fun I2 J3 =>
  gd (S.1 p0 = 8) <|
  bd3 (f_H_askThoseLeft S I2 J3 p0 p1) fun x6 I7 J8 =>
  some (I7, J8)
def f_H_letters (S : gS) (I : gMI) (J : gMJ) (p0 : Nat) : Option (Int32) :=
  gd (S.1 p0 = 8) <|
  Option.bind (S.2.2 p0 2) fun r2 =>
  gd (S.1 r2 = 3) <|
  some ((I r2 2))
def f_H_needLetter_b15 (S : gS) (I : gMI) (J : gMJ)  : Option (Nat) :=
  some (1)
def f_H_needLetter (S : gS) (I : gMI) (J : gMJ) (p0 : Nat) (p1 : Int32) : Option (Nat) :=
  if p1 < 0 then
    f_H_needLetter_b15 S I J
  else
    gd (S.1 p0 = 8) <|
    Option.bind (S.2.2 p0 2) fun r3 =>
    gd (S.1 r3 = 3) <|
    if p1 < (I r3 2) then
      some (0)
    else
      f_H_needLetter_b15 S I J
def f_H_letter_b15 (S : gS) (I : gMI) (J : gMJ)  : Option (Nat × Int32) :=
  some (2, 0)
def f_H_letter (S : gS) (I : gMI) (J : gMJ) (p0 : Nat) (p1 : Int32) (p2 : Int32) : Option (Nat × Int32) :=
  gd (S.1 p0 = 8) <|
  Option.bind (f_H_needLetter S I J p0 p1) fun e2 =>
  if e2 = 0 then
    if p2 < 0 then
      f_H_letter_b15 S I J
    else
      if p2 ≤ (70 : Int32) then
        Option.bind (S.2.2 p0 2) fun r6 =>
        gd (S.1 r6 = 3) <|
        Option.bind (f_Post_at S I J r6 p1) fun q8 =>
        Option.bind q8 fun r10 =>
        gd (S.1 r10 = 1) <|
        Option.bind (f_Letter_tell S I J r10 p2) fun x13 =>
        some (0, x13)
      else
        f_H_letter_b15 S I J
  else
    some (e2, 0)
def f_H_seek_b36 (S : gS) (I : gMI) (J : gMJ) (k2 : Nat → Int32 → Int32 → Option (Option Nat)) (l0 : Nat) (l1 : Int32) (l2 : Int32) : Option (Option Nat) :=
  bnd (l2 + (1 : Int32)) fun v1 =>
  k2 l0 l1 v1
def f_H_seek_b2 (S : gS) (I : gMI) (J : gMJ) : Nat → Nat → Int32 → Int32 → Option (Option Nat)
  | 0, _, _, _ => none
  | n + 1, l0, l1, l2 =>
    if (8 : Int32) ≤ l2 then
      some (none)
    else
      gd (S.1 l0 = 8) <|
      Option.bind (S.2.2 l0 1) fun r3 =>
      gd (S.1 r3 = 25) <|
      gd (¬ (l2 < 0 ∨ S.2.1 r3 ≤ l2.toNatClampNeg)) <|
      gm (S.2.2 r3 l2.toNatClampNeg)
        (f_H_seek_b36 S I J (f_H_seek_b2 S I J n) l0 l1 l2)
        (fun r6 =>
         gd (S.1 r6 = 4) <|
         Option.bind (f_Question_isThere S I J r6) fun x9 =>
         if x9 = 0 then
           f_H_seek_b36 S I J (f_H_seek_b2 S I J n) l0 l1 l2
         else
           if (I r6 6) = l1 then
             some (some r6)
           else
             f_H_seek_b36 S I J (f_H_seek_b2 S I J n) l0 l1 l2
        )
def f_H_seek (S : gS) (I : gMI) (J : gMJ) (p0 : Nat) (p1 : Int32) : Option (Option Nat) :=
  f_H_seek_b2 S I J gFuel p0 p1 (0 : Int32)
def f_H_reply_b70 (S : gS) (I : gMI) (J : gMJ)  : Option (gMI × gMJ) :=
  some (I, J)
def f_H_reply_b27 (S : gS) (I : gMI) (J : gMJ) (l0 : Nat) (l1 : Nat) (l2 : Nat) (l3 : Int32) : Option (gMI × gMJ) :=
  gd (S.1 l2 = 4) <|
  Option.bind (S.2.2 l2 0) fun r2 =>
  gd (S.1 r2 = 21) <|
  gd (¬ (l3 < 0 ∨ S.2.1 r2 ≤ l3.toNatClampNeg)) <|
  if (I r2 l3.toNatClampNeg) = (-1 : Int32) then
    some (I, J)
  else
    gd (S.1 l0 = 8) <|
    Option.bind (S.2.2 l0 2) fun r7 =>
    gd (S.1 r7 = 3) <|
    bd2 (f_Post_send S I J r7) fun q9 I10 =>
    gm q9
      (f_H_reply_b70 S I10 J)
      (fun r12 =>
       gd (S.1 r12 = 1) <|
       bd2 (f_Letter_replyTo S I10 J r12 l1) fun I15 J16 =>
       Option.bind (S.2.2 l2 1) fun r18 =>
       gd (S.1 r18 = 27) <|
       gd (¬ (l3 < 0 ∨ S.2.1 r18 ≤ l3.toNatClampNeg)) <|
       Option.bind (S.2.2 r18 l3.toNatClampNeg) fun r21 =>
       bd2 (f_Letter_fillIn S I15 J16 r12 l1 r21) fun I22 J23 =>
       f_H_reply_b70 S I22 J23
      )
def f_H_reply (S : gS) (I : gMI) (J : gMJ) (p0 : Nat) (p1 : Nat) (p2 : Nat) : Option (gMI × gMJ) :=
  gd (S.1 p1 = 1) <|
  bnd (I p1 8) fun v2 =>
  if (I p1 3) = (1 : Int32) then
    gd (S.1 p0 = 8) <|
    Option.bind (S.2.2 p0 0) fun r5 =>
    gd (S.1 r5 = 24) <|
    gd (¬ (v2 < 0 ∨ S.2.1 r5 ≤ v2.toNatClampNeg)) <|
    Option.bind (S.2.2 r5 v2.toNatClampNeg) fun r8 =>
    gd (S.1 r8 = 2) <|
    Option.bind (S.2.2 r8 0) fun r10 =>
    gd (S.1 p2 = 4) <|
    Option.bind (f_Question_freeze S I J p2 v2 r10) fun I12 =>
    f_H_reply_b27 S I12 J p0 p1 p2 v2
  else
    f_H_reply_b27 S I J p0 p1 p2 v2
def f_H_askUnlessDone_b12 (S : gS) (I : gMI) (J : gMJ)  : Option (gMI × gMJ) :=
  some (I, J)
def f_H_askUnlessDone (S : gS) (I : gMI) (J : gMJ) (p0 : Nat) (p1 : Nat) : Option (gMI × gMJ) :=
  gd (S.1 p1 = 4) <|
  if (I p1 14) = 0 then
    gd (S.1 p0 = 8) <|
    bd2 (f_H_askAll S I J p0 p1) fun I4 J5 =>
    f_H_askUnlessDone_b12 S I4 J5
  else
    f_H_askUnlessDone_b12 S I J
def f_H_arrive_b28 (S : gS) (I : gMI) (J : gMJ)  : Option (gMI × gMJ) :=
  some (I, J)
def f_H_arrive_b82 (S : gS) (I : gMI) (J : gMJ)  : Option (gMI × gMJ) :=
  some (I, J)
def f_H_arrive (S : gS) (I : gMI) (J : gMJ) (p0 : Nat) (p1 : Nat) : Option (gMI × gMJ) :=
  gd (S.1 p1 = 1) <|
  gd (S.1 p0 = 8) <|
  Option.bind (f_H_seek S I J p0 (I p1 4)) fun q3 =>
  gm q3
    (f_H_arrive_b28 S I J)
    (fun r5 =>
     Option.bind (S.2.2 p0 0) fun r7 =>
     gd (S.1 r7 = 24) <|
     gd (¬ ((I p1 8) < 0 ∨ S.2.1 r7 ≤ (I p1 8).toNatClampNeg)) <|
     Option.bind (S.2.2 r7 (I p1 8).toNatClampNeg) fun r10 =>
     gd (S.1 r10 = 2) <|
     if (I r10 1) = 0 then
       f_H_arrive_b28 S I J
     else
       Option.bind (f_Letter_isAsking S I J p1) fun x13 =>
       if x13 = 0 then
         gd (S.1 r5 = 4) <|
         Option.bind (f_Question_awaits S I J r5 p1) fun x17 =>
         if x17 = 0 then
           f_H_arrive_b82 S I J
         else
           Option.bind (S.2.2 r5 2) fun r20 =>
           gd (S.1 r20 = 5) <|
           bd2 (f_Replies_hear S I J r20 p1) fun I22 J23 =>
           if (I22 r20 4) = (8 : Int32) then
             bd2 (f_Question_goOn S I22 J23 r5) fun I26 J27 =>
             bd2 (f_H_askUnlessDone S I26 J27 p0 r5) fun I29 J30 =>
             f_H_arrive_b82 S I29 J30
           else
             f_H_arrive_b82 S I22 J23
       else
         bd2 (f_H_reply S I J p0 p1 r5) fun I32 J33 =>
         f_H_arrive_b82 S I32 J33
    )
def f_H_deliver (S : gS) (I : gMI) (J : gMJ) (p0 : Nat) (p1 : Int32) : Option (Nat × Int32 × gMI × gMJ) :=
  gd (S.1 p0 = 8) <|
  Option.bind (f_H_needLetter S I J p0 p1) fun e2 =>
  if e2 = 0 then
    Option.bind (S.2.2 p0 2) fun r4 =>
    gd (S.1 r4 = 3) <|
    bd2 (f_Post_takeOut S I J r4 p1) fun q6 I7 =>
    Option.bind q6 fun r9 =>
    bd2 (f_H_arrive S I7 J p0 r9) fun I11 J12 =>
    some (0, (I11 r4 2), I11, J12)
  else
    some (e2, 0, I, J)
def f_H_lose (S : gS) (I : gMI) (J : gMJ) (p0 : Nat) (p1 : Int32) : Option (Nat × Int32 × gMI) :=
  gd (S.1 p0 = 8) <|
  Option.bind (f_H_needLetter S I J p0 p1) fun e2 =>
  if e2 = 0 then
    Option.bind (S.2.2 p0 2) fun r4 =>
    gd (S.1 r4 = 3) <|
    bd2 (f_Post_takeOut S I J r4 p1) fun q6 I7 =>
    Option.bind q6 fun r9 =>
    some (0, (I7 r4 2), I7)
  else
    some (e2, 0, I)
def f_H_twin (S : gS) (I : gMI) (J : gMJ) (p0 : Nat) (p1 : Int32) : Option (Nat × Int32 × gMI × gMJ) :=
  gd (S.1 p0 = 8) <|
  Option.bind (f_H_needLetter S I J p0 p1) fun e2 =>
  if e2 = 0 then
    Option.bind (S.2.2 p0 2) fun r4 =>
    gd (S.1 r4 = 3) <|
    bd2 (f_Post_send S I J r4) fun q6 I7 =>
    gm q6
      (some (0, (0 : Int32), I7, J))
      (fun r9 =>
       Option.bind (f_Post_at S I7 J r4 p1) fun q11 =>
       Option.bind q11 fun r13 =>
       gd (S.1 r9 = 1) <|
       bd2 (f_Letter_copy S I7 J r9 r13) fun I16 J17 =>
       some (0, (1 : Int32), I16, J17)
      )
  else
    some (e2, 0, I, J)
def f_H_run_b11 (S : gS) (I : gMI) (J : gMJ)  : Option (Nat × Int32 × gMI × gMJ) :=
  some (2, 0, I, J)
def f_H_run_b56 (S : gS) (I : gMI) (J : gMJ) (l2 : Int32) : Option (Nat × Int32 × gMI × gMJ) :=
  some (0, l2, I, J)
def f_H_run_b23 (S : gS) : Nat → gMI → gMJ → Nat → Int32 → Int32 → Option (Nat × Int32 × gMI × gMJ)
  | 0, _, _, _, _, _ => none
  | n + 1, I, J, l0, l1, l2 =>
    if l1 ≤ l2 then
      f_H_run_b56 S I J l2
    else
      gd (S.1 l0 = 8) <|
      Option.bind (S.2.2 l0 2) fun r3 =>
      gd (S.1 r3 = 3) <|
      if (I r3 2) ≤ 0 then
        f_H_run_b56 S I J l2
      else
        bd2 (f_Post_takeOut S I J r3 (0 : Int32)) fun q6 I7 =>
        Option.bind q6 fun r9 =>
        bd2 (f_H_arrive S I7 J l0 r9) fun I11 J12 =>
        bnd (l2 + (1 : Int32)) fun v14 =>
        f_H_run_b23 S n I11 J12 l0 l1 v14
def f_H_run (S : gS) (I : gMI) (J : gMJ) (p0 : Nat) (p1 : Int32) : Option (Nat × Int32 × gMI × gMJ) :=
  if p1 < 0 then
    f_H_run_b11 S I J
  else
    if p1 ≤ (1000 : Int32) then
      f_H_run_b23 S gFuel I J p0 p1 (0 : Int32)
    else
      f_H_run_b11 S I J
def f_H_questionOf (S : gS) (I : gMI) (J : gMJ) (p0 : Nat) (p1 : Int32) : Option (Nat × Option Nat) :=
  gd (S.1 p0 = 8) <|
  Option.bind (f_H_seek S I J p0 p1) fun q2 =>
  gm q2
    (some (1, none))
    (fun r4 =>
     some (0, some r4)
    )
def f_H_resend (S : gS) (I : gMI) (J : gMJ) (p0 : Nat) (p1 : Int32) : Option (Nat × Int32 × gMI × gMJ) :=
  gd (S.1 p0 = 8) <|
  bd2 (f_H_questionOf S I J p0 p1) fun e2 q3 =>
  if e2 = 0 then
    Option.bind q3 fun r5 =>
    gd (S.1 r5 = 4) <|
    if (I r5 14) = 0 then
      bd3 (f_H_askThoseLeft S I J p0 r5) fun x8 I9 J10 =>
      some (0, x8, I9, J10)
    else
      some (3, 0, I, J)
  else
    some (e2, 0, I, J)
def f_H_takeOver_b39 (S : gS) (I : gMI) (J : gMJ) (l0 : Nat) (l2 : Int32) (l3 : Nat) : Option (Nat × Int32 × gMI × gMJ) :=
  gd (S.1 l3 = 4) <|
  Option.bind (f_Question_beginTurn S I J l3 l2) fun I2 =>
  gd (S.1 l0 = 8) <|
  bd2 (f_H_askAll S I2 J l0 l3) fun I5 J6 =>
  some (0, (I5 l3 11), I5, J6)
def f_H_takeOver (S : gS) (I : gMI) (J : gMJ) (p0 : Nat) (p1 : Int32) (p2 : Int32) : Option (Nat × Int32 × gMI × gMJ) :=
  gd (S.1 p0 = 8) <|
  bd2 (f_H_questionOf S I J p0 p1) fun e2 q3 =>
  if e2 = 0 then
    Option.bind q3 fun r5 =>
    bd2 (f_H_loggerOf S I J p0 p2) fun e6 q7 =>
    if e6 = 0 then
      Option.bind q7 fun r9 =>
      Option.bind (f_H_needUp S I J r9) fun e10 =>
      if e10 = 0 then
        gd (S.1 r5 = 4) <|
        if (I r5 14) = 0 then
          f_H_takeOver_b39 S I J p0 p2 r5
        else
          if (I r5 14) = (3 : Int32) then
            f_H_takeOver_b39 S I J p0 p2 r5
          else
            some (3, 0, I, J)
      else
        some (e10, 0, I, J)
    else
      some (e6, 0, I, J)
  else
    some (e2, 0, I, J)
def f_H_crash_b66 (S : gS) (J : gMJ) (k13 : gMI → Nat → Int32 → Int32 → Int32 → Option (Nat × Int32 × gMI)) (I : gMI) (l0 : Nat) (l1 : Int32) (l2 : Int32) (l3 : Int32) : Option (Nat × Int32 × gMI) :=
  bnd (l3 + (1 : Int32)) fun v1 =>
  k13 I l0 l1 l2 v1
def f_H_crash_b13 (S : gS) (J : gMJ) : Nat → gMI → Nat → Int32 → Int32 → Int32 → Option (Nat × Int32 × gMI)
  | 0, _, _, _, _, _ => none
  | n + 1, I, l0, l1, l2, l3 =>
    if (8 : Int32) ≤ l3 then
      some (0, l2, I)
    else
      gd (S.1 l0 = 8) <|
      Option.bind (S.2.2 l0 1) fun r3 =>
      gd (S.1 r3 = 25) <|
      gd (¬ (l3 < 0 ∨ S.2.1 r3 ≤ l3.toNatClampNeg)) <|
      gm (S.2.2 r3 l3.toNatClampNeg)
        (f_H_crash_b66 S J (f_H_crash_b13 S J n) I l0 l1 l2 l3)
        (fun r6 =>
         gd (S.1 r6 = 4) <|
         Option.bind (f_Question_isThere S I J r6) fun x9 =>
         if x9 = 0 then
           f_H_crash_b66 S J (f_H_crash_b13 S J n) I l0 l1 l2 l3
         else
           if (I r6 10) = l1 then
             if (I r6 14) = 0 then
               bnd (upI I r6 14 (3 : Int32)) fun I14 =>
               bnd (l2 + (1 : Int32)) fun v15 =>
               f_H_crash_b66 S J (f_H_crash_b13 S J n) I14 l0 l1 v15 l3
             else
               f_H_crash_b66 S J (f_H_crash_b13 S J n) I l0 l1 l2 l3
           else
             f_H_crash_b66 S J (f_H_crash_b13 S J n) I l0 l1 l2 l3
        )
def f_H_crash (S : gS) (I : gMI) (J : gMJ) (p0 : Nat) (p1 : Int32) : Option (Nat × Int32 × gMI) :=
  gd (S.1 p0 = 8) <|
  bd2 (f_H_loggerOf S I J p0 p1) fun e2 q3 =>
  if e2 = 0 then
    Option.bind q3 fun r5 =>
    gd (S.1 r5 = 2) <|
    bnd (upI I r5 1 (0 : Int32)) fun I7 =>
    f_H_crash_b13 S J gFuel I7 p0 p1 (0 : Int32) (0 : Int32)
  else
    some (e2, 0, I)
def f_H_restart (S : gS) (I : gMI) (J : gMJ) (p0 : Nat) (p1 : Int32) : Option (Nat × gMI) :=
  gd (S.1 p0 = 8) <|
  bd2 (f_H_loggerOf S I J p0 p1) fun e2 q3 =>
  if e2 = 0 then
    Option.bind q3 fun r5 =>
    gd (S.1 r5 = 2) <|
    bnd (upI I r5 1 (1 : Int32)) fun I7 =>
    some (0, I7)
  else
    some (e2, I)
def f_H_state (S : gS) (I : gMI) (J : gMJ) (p0 : Nat) (p1 : Int32) : Option (Nat × Int32) :=
  gd (S.1 p0 = 8) <|
  bd2 (f_H_questionOf S I J p0 p1) fun e2 q3 =>
  if e2 = 0 then
    Option.bind q3 fun r5 =>
    gd (S.1 r5 = 4) <|
    some (0, (I r5 14))
  else
    some (e2, 0)
def f_H_needAnswered (S : gS) (I : gMI) (J : gMJ) (p0 : Nat) : Option (Nat) :=
  gd (S.1 p0 = 4) <|
  if (I p0 14) = (1 : Int32) then
    some (0)
  else
    some (3)
def f_H_answer (S : gS) (I : gMI) (J : gMJ) (p0 : Nat) (p1 : Int32) : Option (Nat × Int64) :=
  gd (S.1 p0 = 8) <|
  bd2 (f_H_questionOf S I J p0 p1) fun e2 q3 =>
  if e2 = 0 then
    Option.bind q3 fun r5 =>
    Option.bind (f_H_needAnswered S I J r5) fun e6 =>
    if e6 = 0 then
      gd (S.1 r5 = 4) <|
      some (0, (J r5 18))
    else
      some (e6, 0)
  else
    some (e2, 0)
def f_H_found_b42 (S : gS) (I : gMI) (J : gMJ) (s0 : Int32) : Option (Nat × Int32) :=
  some (0, s0)
def f_H_found (S : gS) (I : gMI) (J : gMJ) (p0 : Nat) (p1 : Int32) (p2 : Int32) : Option (Nat × Int32) :=
  gd (S.1 p0 = 8) <|
  bd2 (f_H_questionOf S I J p0 p1) fun e2 q3 =>
  if e2 = 0 then
    Option.bind q3 fun r5 =>
    Option.bind (f_H_needAnswered S I J r5) fun e6 =>
    if e6 = 0 then
      gd (S.1 r5 = 4) <|
      Option.bind (f_Question_hasTwoRanks S I J r5) fun x9 =>
      if x9 = 0 then
        some (3, 0)
      else
        if p2 = 0 then
          f_H_found_b42 S I J (I r5 16)
        else
          f_H_found_b42 S I J (I r5 17)
    else
      some (e6, 0)
  else
    some (e2, 0)
def f_H_about_b100 (S : gS) (I : gMI) (J : gMJ) (s0 : Int32) : Option (Nat × Int32) :=
  some (0, s0)
def f_H_about_b119 (S : gS) (I : gMI) (J : gMJ) (s0 : Int32) : Option (Nat × Int32) :=
  some (0, s0)
def f_H_about (S : gS) (I : gMI) (J : gMJ) (p0 : Nat) (p1 : Int32) (p2 : Int32) : Option (Nat × Int32) :=
  gd (S.1 p0 = 8) <|
  bd2 (f_H_questionOf S I J p0 p1) fun e2 q3 =>
  if e2 = 0 then
    Option.bind q3 fun r5 =>
    if p2 = (0 : Int32) then
      gd (S.1 r5 = 4) <|
      some (0, (I r5 10))
    else
    if p2 = (1 : Int32) then
      gd (S.1 r5 = 4) <|
      some (0, (I r5 11))
    else
    if p2 = (2 : Int32) then
      gd (S.1 r5 = 4) <|
      some (0, (I r5 12))
    else
    if p2 = (3 : Int32) then
      gd (S.1 r5 = 4) <|
      some (0, (I r5 13))
    else
    if p2 = (4 : Int32) then
      gd (S.1 r5 = 4) <|
      some (0, (I r5 15))
    else
    if p2 = (5 : Int32) then
      gd (S.1 r5 = 4) <|
      Option.bind (S.2.2 r5 3) fun r18 =>
      gd (S.1 r18 = 6) <|
      some (0, (I r18 6))
    else
    if p2 = (6 : Int32) then
      gd (S.1 r5 = 4) <|
      if (I r5 14) = 0 then
        f_H_about_b100 S I J (I r5 5)
      else
        f_H_about_b100 S I J (0 : Int32)
    else
    if p2 = (7 : Int32) then
      gd (S.1 r5 = 4) <|
      if (I r5 14) = 0 then
        Option.bind (S.2.2 r5 2) fun r26 =>
        gd (S.1 r26 = 5) <|
        f_H_about_b119 S I J (I r26 4)
      else
        f_H_about_b119 S I J (0 : Int32)
    else
      some (2, 0)
  else
    some (e2, 0)
def f_H_mark (S : gS) (I : gMI) (J : gMJ) (p0 : Nat) (p1 : Int32) (p2 : Int32) : Option (Nat × Int32) :=
  Option.bind (f_H_needLogger S I J p1) fun e1 =>
  if e1 = 0 then
    gd (S.1 p0 = 8) <|
    bd2 (f_H_questionOf S I J p0 p2) fun e4 q5 =>
    if e4 = 0 then
      Option.bind q5 fun r7 =>
      gd (S.1 r7 = 4) <|
      Option.bind (S.2.2 r7 0) fun r9 =>
      gd (S.1 r9 = 21) <|
      gd (¬ (p1 < 0 ∨ S.2.1 r9 ≤ p1.toNatClampNeg)) <|
      some (0, (I r9 p1.toNatClampNeg))
    else
      some (e4, 0)
  else
    some (e1, 0)
def f_H_forget_b51 (S : gS) (J : gMJ) (k21 : gMI → Nat → Int32 → Int32 → Option (Nat × Int32 × gMI)) (I : gMI) (l0 : Nat) (l2 : Int32) (l3 : Int32) : Option (Nat × Int32 × gMI) :=
  bnd (l3 + (1 : Int32)) fun v1 =>
  k21 I l0 l2 v1
def f_H_forget_b21 (S : gS) (J : gMJ) : Nat → gMI → Nat → Int32 → Int32 → Option (Nat × Int32 × gMI)
  | 0, _, _, _, _ => none
  | n + 1, I, l0, l2, l3 =>
    if (8 : Int32) ≤ l3 then
      some (0, l2, I)
    else
      gd (S.1 l0 = 8) <|
      Option.bind (S.2.2 l0 1) fun r3 =>
      gd (S.1 r3 = 25) <|
      gd (¬ (l3 < 0 ∨ S.2.1 r3 ≤ l3.toNatClampNeg)) <|
      gm (S.2.2 r3 l3.toNatClampNeg)
        (f_H_forget_b51 S J (f_H_forget_b21 S J n) I l0 l2 l3)
        (fun r6 =>
         gd (S.1 r6 = 4) <|
         Option.bind (f_Question_isThere S I J r6) fun x9 =>
         if x9 = 0 then
           f_H_forget_b51 S J (f_H_forget_b21 S J n) I l0 l2 l3
         else
           bnd (l2 + (1 : Int32)) fun v12 =>
           f_H_forget_b51 S J (f_H_forget_b21 S J n) I l0 v12 l3
        )
def f_H_forget (S : gS) (I : gMI) (J : gMJ) (p0 : Nat) (p1 : Int32) : Option (Nat × Int32 × gMI) :=
  gd (S.1 p0 = 8) <|
  bd2 (f_H_questionOf S I J p0 p1) fun e2 q3 =>
  if e2 = 0 then
    Option.bind q3 fun r5 =>
    gd (S.1 r5 = 4) <|
    bnd (upI I r5 6 (0 : Int32)) fun I7 =>
    Option.bind (S.2.2 p0 2) fun r8 =>
    gd (S.1 r8 = 3) <|
    Option.bind (f_Post_loseAllOf S I7 J r8 p1) fun I10 =>
    f_H_forget_b21 S J gFuel I10 p0 (0 : Int32) (0 : Int32)
  else
    some (e2, 0, I)
