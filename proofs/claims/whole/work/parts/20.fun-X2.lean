def fX2_dueTick (x0 : Nat) (x1 : Nat) (x2 : Int32) (h : HH) : Option (Int64 × HH) :=
  gd (inb x2 5) (
  bd (fX0_stepOf x1 x2 (gI h (x0 + 3) (ix x2)) h) (fun r8 h8 =>
  if 0 ≤ r8 then
    gd (inb x2 5) (
    bd (fX7_at (x1 + 6) r8 2 h8) (fun r34 h34 =>
    gd (inb x2 5) (
    bd (fX0_minuteOf x1 (gI h34 (x0 + 1) (ix x2)) h34) (fun r45 h45 =>
    some (((gL h8 (x0 + 5) (ix x2)) + (r34.toInt64 * r45.toInt64)), h45)))))
  else
  some (1152921504606846976, h8)))
def fX2_comeTo (x0 : Nat) (x1 : Nat) (x2 : Int32) (x3 : Int32) (x4 : Int32) (h : HH) : Option (HH) :=
  gd (inb x2 5) (
  gd (inb x2 5) (
  gd (inb x2 5) (
  bd (fX0_quickOf x1 (gI h (x0 + 1) (ix x2)) h) (fun r25 h25 =>
  gd (inb x2 5) (
  nm (sL h25 (x0 + 6) (ix x2) ((gL h (x0 + 6) (ix x2)) + (((gL h x0 6) - (gL h (x0 + 5) (ix x2))) * r25.toInt64))) (fun g1 =>
  gd (inb x2 5) (
  gd (inb x2 5) (
  if (gI (sL g1 (x0 + 5) (ix x2) (gL g1 x0 6)) (x0 + 1) (ix x2)) = 0 then
    gd (inb x2 5) (
    nm (sI (sL g1 (x0 + 5) (ix x2) (gL g1 x0 6)) (x0 + 2) (ix x2) x4) (fun g3 =>
    gd (inb x2 5) (
    gd (inb x2 5) (
    if (gI (sI g3 (x0 + 1) (ix x2) (jmmax 0 (jmmin x3 (gI g3 x1 9)))) (x0 + 1) (ix x2)) = 0 then
      gd (inb x2 5) (
      nm (sI (sI g3 (x0 + 1) (ix x2) (jmmax 0 (jmmin x3 (gI g3 x1 9)))) (x0 + 2) (ix x2) (-2)) (fun g4 =>
      some g4))
    else
    some (sI g3 (x0 + 1) (ix x2) (jmmax 0 (jmmin x3 (gI g3 x1 9))))))))
  else
  gd (inb x2 5) (
  nm (sI (sL g1 (x0 + 5) (ix x2) (gL g1 x0 6)) (x0 + 1) (ix x2) (jmmax 0 (jmmin x3 (gI (sL g1 (x0 + 5) (ix x2) (gL g1 x0 6)) x1 9)))) (fun g2 =>
  gd (inb x2 5) (
  if (gI g2 (x0 + 1) (ix x2)) = 0 then
    gd (inb x2 5) (
    some (sI g2 (x0 + 2) (ix x2) (-2)))
  else
  some g2)))))))))))
def fX2_takeStep (x0 : Nat) (x1 : Nat) (x2 : Int32) (h : HH) : Option (HH) :=
  gd (inb x2 5) (
  bd (fX0_stepOf x1 x2 (gI h (x0 + 3) (ix x2)) h) (fun r12 h12 =>
  bd (fX7_at (x1 + 6) r12 1 h12) (fun r16 h16 =>
  gd (inb x2 5) (
  gd (inb x2 5) (
  if r16 = (-1) then
    gd (inb x2 5) (
    bv (fX2_comeTo x0 x1 x2 ((gI (sI h16 (x0 + 3) (ix x2) ((gI h16 (x0 + 3) (ix x2)) + 1)) (x0 + 1) (ix x2)) - 1) r16 (sI h16 (x0 + 3) (ix x2) ((gI h16 (x0 + 3) (ix x2)) + 1))) (fun h58 =>
    some h58))
  else
  gd (inb x2 5) (
  bv (fX2_comeTo x0 x1 x2 ((gI (sI h16 (x0 + 3) (ix x2) ((gI h16 (x0 + 3) (ix x2)) + 1)) (x0 + 1) (ix x2)) + 1) r16 (sI h16 (x0 + 3) (ix x2) ((gI h16 (x0 + 3) (ix x2)) + 1))) (fun h58 =>
  some h58)))))))
def fX2_takeDueSteps_L15 (k15_47 : HH → Option (HH)) (x0 : Nat) (x1 : Nat) (x2 : Int32) (self15 : Int32 → HH → Option (HH)) (x3 : Int32) (h : HH) : Option (HH) :=
  if 20 ≤ x3 then
    k15_47  h
  else
  bd (fX2_dueTick x0 x1 x2 h) (fun r24 h24 =>
  if (gL h24 x0 6) < r24 then
    k15_47  h24
  else
  bv (fX2_takeStep x0 x1 x2 h24) (fun h38 =>
  self15 (x3 + 1) h38))
def fX2_takeDueSteps_L2 (x0 : Nat) (x1 : Nat) (self2 : Int32 → HH → Option (HH)) (x2 : Int32) (h : HH) : Option (HH) :=
  if (gI h (x1 + 4) 3) ≤ x2 then
    some h
  else
  lq1 (fX2_takeDueSteps_L15 (fun  h =>
    self2 (x2 + 1) h) x0 x1 x2) FU 0 h
def fX2_takeDueSteps (x0 : Nat) (x1 : Nat) (h : HH) : Option (HH) :=
  lq1 (fX2_takeDueSteps_L2 x0 x1) FU 0 h
def fX2_begin_L7 (x0 : Nat) (x1 : Nat) (self7 : Int32 → HH → Option (HH)) (x2 : Int32) (h : HH) : Option (HH) :=
  if 5 ≤ x2 then
    bv (fX2_takeDueSteps x0 x1 h) (fun h63 =>
    some h63)
  else
  gd (inb x2 5) (
  gd (inb x2 5) (
  nm (sI (sI h (x0 + 1) (ix x2) 0) (x0 + 2) (ix x2) (-2)) (fun g1 =>
  gd (inb x2 5) (
  gd (inb x2 5) (
  nm (sI (sI g1 (x0 + 3) (ix x2) 0) (x0 + 4) (ix x2) 0) (fun g2 =>
  gd (inb x2 5) (
  gd (inb x2 5) (
  nm (sL (sL g2 (x0 + 5) (ix x2) 0) (x0 + 6) (ix x2) 0) (fun g3 =>
  self7 (x2 + 1) g3)))))))))
def fX2_begin (x0 : Nat) (x1 : Nat) (h : HH) : Option (HH) :=
  lq1 (fX2_begin_L7 x0 x1) FU 0 (sL h x0 6 0)
def fX2_copyFrom_L10 (x0 : Nat) (x1 : Nat) (self10 : Int32 → HH → Option (HH)) (x2 : Int32) (h : HH) : Option (HH) :=
  if 5 ≤ x2 then
    some h
  else
  gd (inb x2 5) (
  gd (inb x2 5) (
  gd (inb x2 5) (
  gd (inb x2 5) (
  nm (sI (sI h (x0 + 1) (ix x2) (gI h (x1 + 1) (ix x2))) (x0 + 2) (ix x2) (gI (sI h (x0 + 1) (ix x2) (gI h (x1 + 1) (ix x2))) (x1 + 2) (ix x2))) (fun g1 =>
  gd (inb x2 5) (
  gd (inb x2 5) (
  gd (inb x2 5) (
  gd (inb x2 5) (
  nm (sI (sI g1 (x0 + 3) (ix x2) (gI g1 (x1 + 3) (ix x2))) (x0 + 4) (ix x2) (gI (sI g1 (x0 + 3) (ix x2) (gI g1 (x1 + 3) (ix x2))) (x1 + 4) (ix x2))) (fun g2 =>
  gd (inb x2 5) (
  gd (inb x2 5) (
  gd (inb x2 5) (
  gd (inb x2 5) (
  nm (sL (sL g2 (x0 + 5) (ix x2) (gL g2 (x1 + 5) (ix x2))) (x0 + 6) (ix x2) (gL (sL g2 (x0 + 5) (ix x2) (gL g2 (x1 + 5) (ix x2))) (x1 + 6) (ix x2))) (fun g3 =>
  self10 (x2 + 1) g3)))))))))))))))
def fX2_copyFrom (x0 : Nat) (x1 : Nat) (h : HH) : Option (HH) :=
  lq1 (fX2_copyFrom_L10 x0 x1) FU 0 (sL h x0 6 (gL h x1 6))
def fX2_nextChange_L7 (k7_37 : Int64 → HH → Option (Int64 × HH)) (x0 : Nat) (x1 : Nat) (self7 : Int64 → Int32 → HH → Option (Int64 × HH)) (x2 : Int64) (x4 : Int32) (h : HH) : Option (Int64 × HH) :=
  if (gI h (x1 + 4) 3) ≤ x4 then
    k7_37 x2 h
  else
  bd (fX2_dueTick x0 x1 x4 h) (fun r24 h24 =>
  nm (jmminl x2 r24) (fun y1 =>
  self7 y1 (x4 + 1) h24))
def fX2_nextChange_L40 (x0 : Nat) (x1 : Nat) (self40 : Int64 → Int32 → HH → Option (Int64 × HH)) (x2 : Int64) (x4 : Int32) (h : HH) : Option (Int64 × HH) :=
  if (gI h (x1 + 8) 3) ≤ x4 then
    some (x2, h)
  else
  bd (fX0_knockTick x1 x4 h) (fun r55 h55 =>
  if r55 ≤ (gL h55 x0 6) then
    self40 x2 (x4 + 1) h55
  else
  nm (jmminl x2 r55) (fun y2 =>
  self40 y2 (x4 + 1) h55))
def fX2_nextChange (x0 : Nat) (x1 : Nat) (h : HH) : Option (Int64 × HH) :=
  lq2 (fX2_nextChange_L7 (fun x2 h =>
    lq2 (fX2_nextChange_L40 x0 x1) FU x2 0 h) x0 x1) FU 1152921504606846976 0 h
def fX2_hearKnock_b55 (self6 : Int32 → Int32 → HH → Option (Int32 × HH)) (x0 : Nat) (x1 : Nat) (x2 : Int32) (x3 : Int32) (x4 : Int32) (x5 : Int32) (x6 : Int32) (s0 : Int32) (h : HH) : Option (Int32 × HH) :=
  gd (inb x6 5) (
  if s0 = (gI h (x0 + 1) (ix x6)) then
    self6 x5 (x6 + 1) h
  else
  bv (fX2_comeTo x0 x1 x6 s0 x2 h) (fun h76 =>
  gd (inb x6 5) (
  gd (inb x6 5) (
  nm (x5 ||| ((1 : Int32) <<< (x6 &&& 31))) (fun y2 =>
  self6 y2 (x6 + 1) (sI h76 (x0 + 4) (ix x6) ((gI h76 (x0 + 4) (ix x6)) + 1)))))))
def fX2_hearKnock_L6 (x0 : Nat) (x1 : Nat) (x2 : Int32) (x3 : Int32) (x4 : Int32) (self6 : Int32 → Int32 → HH → Option (Int32 × HH)) (x5 : Int32) (x6 : Int32) (h : HH) : Option (Int32 × HH) :=
  if (gI h (x1 + 4) 3) ≤ x6 then
    some (x5, h)
  else
  gd (inb x6 5) (
  if (gI h (x0 + 2) (ix x6)) = x2 then
    gd (inb x6 5) (
    bd (fX0_floorBehind x1 x6 (gI h (x0 + 1) (ix x6)) x3 x4 h) (fun r42 h42 =>
    fX2_hearKnock_b55 self6 x0 x1 x2 x3 x4 x5 x6 r42 h42))
  else
  gd (inb x6 5) (
  fX2_hearKnock_b55 self6 x0 x1 x2 x3 x4 x5 x6 (gI h (x0 + 1) (ix x6)) h))
def fX2_hearKnock (x0 : Nat) (x1 : Nat) (x2 : Int32) (x3 : Int32) (x4 : Int32) (h : HH) : Option (Int32 × HH) :=
  lq2 (fX2_hearKnock_L6 x0 x1 x2 x3 x4) FU 0 0 h
def fX2_hearToldKnocks_L7 (x0 : Nat) (x1 : Nat) (x2 : Nat) (self7 : Int32 → HH → Option (HH)) (x3 : Int32) (h : HH) : Option (HH) :=
  if (gI h x2 3) ≤ x3 then
    some h
  else
  bd (fX0_knockTick x1 x3 h) (fun r17 h17 =>
  if r17 = (gL h17 x0 6) then
    bd (fX7_at x2 x3 0 h17) (fun r33 h33 =>
    bd (fX7_at x2 x3 1 h33) (fun r39 h39 =>
    bd (fX7_at x2 x3 3 h39) (fun r45 h45 =>
    bd (fX2_hearKnock x0 x1 r33 r39 r45 h45) (fun r48 h48 =>
    self7 (x3 + 1) h48))))
  else
  self7 (x3 + 1) h17)
def fX2_hearToldKnocks (x0 : Nat) (x1 : Nat) (h : HH) : Option (HH) :=
  lq1 (fX2_hearToldKnocks_L7 x0 x1 (x1 + 8)) FU 0 h
def fX2_runTo_L3 (x0 : Nat) (x1 : Nat) (x2 : Int64) (self3 : Int32 → HH → Option (HH)) (x4 : Int32) (h : HH) : Option (HH) :=
  if 28 < x4 then
    some (sL h x0 6 x2)
  else
  bd (fX2_nextChange x0 x1 h) (fun r12 h12 =>
  if r12 ≤ x2 then
    bv (fX2_hearToldKnocks x0 x1 (sL h12 x0 6 r12)) (fun h35 =>
    bv (fX2_takeDueSteps x0 x1 h35) (fun h40 =>
    self3 (x4 + 1) h40))
  else
  some (sL h12 x0 6 x2))
def fX2_runTo (x0 : Nat) (x1 : Nat) (x2 : Int64) (h : HH) : Option (HH) :=
  lq1 (fX2_runTo_L3 x0 x1 x2) FU 0 h
def fX2_livedBy (x0 : Nat) (x1 : Nat) (x2 : Int32) (h : HH) : Option (Int64 × HH) :=
  gd (inb x2 5) (
  gd (inb x2 5) (
  gd (inb x2 5) (
  bd (fX0_quickOf x1 (gI h (x0 + 1) (ix x2)) h) (fun r24 h24 =>
  some (((gL h (x0 + 6) (ix x2)) + (((gL h x0 6) - (gL h (x0 + 5) (ix x2))) * r24.toInt64)), h24)))))
def fX2_haveMet (x0 : Nat) (x1 : Int32) (x2 : Int32) (h : HH) : Option (Bool × HH) :=
  gd (inb x1 5) (
  if (gI h (x0 + 1) (ix x1)) ≤ 0 then
    some (false, h)
  else
  gd (inb x1 5) (
  gd (inb x2 5) (
  if (gI h (x0 + 1) (ix x1)) = (gI h (x0 + 1) (ix x2)) then
    gd (inb x1 5) (
    gd (inb x2 5) (
    if (gI h (x0 + 2) (ix x1)) = (gI h (x0 + 2) (ix x2)) then
      some (true, h)
    else
    some (false, h)))
  else
  some (false, h))))
def fX2_companyOf_L5 (x0 : Nat) (x1 : Nat) (x2 : Int32) (self5 : Int32 → Int32 → HH → Option (Int32 × HH)) (x3 : Int32) (x4 : Int32) (h : HH) : Option (Int32 × HH) :=
  if (gI h (x1 + 4) 3) ≤ x4 then
    some (x3, h)
  else
  bd (fX2_haveMet x0 x2 x4 h) (fun r21 h21 =>
  bif r21 then
    self5 (x3 + 1) (x4 + 1) h21
  else
  self5 x3 (x4 + 1) h21)
def fX2_companyOf (x0 : Nat) (x1 : Nat) (x2 : Int32) (h : HH) : Option (Int32 × HH) :=
  lq2 (fX2_companyOf_L5 x0 x1 x2) FU 0 0 h
