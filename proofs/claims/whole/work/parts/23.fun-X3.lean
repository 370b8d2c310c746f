def fX3_lastAlike (x0 : Nat) (x1 : Nat) (h : HH) : Option (Int32 × HH) :=
  bd (fX2_nextChange (x0 + 1) x1 h) (fun r5 h5 =>
  if r5 = 1152921504606846976 then
    some ((gI h5 x0 2), h5)
  else
  bd (fX0_bottom x1 h5) (fun r38 h38 =>
  bd (fX8_quotient ((r5 - (gL h5 x0 1)) - 1) r38.toInt64 h38) (fun r42 h42 =>
  some ((jmminl (((gI h5 x0 2)).toInt64) r42).toInt32, h42))))
def fX3_begin (x0 : Nat) (x1 : Nat) (x2 : Nat) (x3 : Int32) (h : HH) : Option (HH) :=
  bv (fX2_copyFrom (x0 + 1) x2 h) (fun h5 =>
  nm (sI (sL h5 x0 1 (gL h5 x2 6)) x0 2 x3) (fun g1 =>
  bd (fX3_lastAlike x0 x1 (sI g1 x0 3 0)) (fun r29 h29 =>
  some (sI h29 x0 4 r29))))
def fX3_goOn (x0 : Nat) (x1 : Nat) (h : HH) : Option (HH) :=
  if (gI (sI h x0 3 ((gI h x0 4) + 1)) x0 2) < (gI (sI h x0 3 ((gI h x0 4) + 1)) x0 3) then
    some (sI h x0 3 ((gI h x0 4) + 1))
  else
  bd (fX0_bottom x1 (sI h x0 3 ((gI h x0 4) + 1))) (fun r36 h36 =>
  bv (fX2_runTo (x0 + 1) x1 ((gL (sI h x0 3 ((gI h x0 4) + 1)) x0 1) + ((((gI (sI h x0 3 ((gI h x0 4) + 1)) x0 3)).toInt64) * r36.toInt64)) h36) (fun h42 =>
  bd (fX3_lastAlike x0 x1 h42) (fun r48 h48 =>
  some (sI h48 x0 4 r48))))
def fX3_firstMeeting_L11 (x0 : Nat) (x1 : Nat) (x3 : Int32) (x4 : Int32) (x5 : Int32) (self11 : Int32 → HH → Option (Int32 × HH)) (x6 : Int32) (h : HH) : Option (Int32 × HH) :=
  if 29 ≤ x6 then
    some ((-2), h)
  else
  if x5 < (gI h x0 3) then
    some ((-2), h)
  else
  bd (fX2_haveMet (x0 + 1) x3 x4 h) (fun r34 h34 =>
  bif r34 then
    some ((gI h34 x0 3), h34)
  else
  bv (fX3_goOn x0 x1 h34) (fun h47 =>
  self11 (x6 + 1) h47))
def fX3_firstMeeting (x0 : Nat) (x1 : Nat) (x2 : Nat) (x3 : Int32) (x4 : Int32) (x5 : Int32) (h : HH) : Option (Int32 × HH) :=
  bv (fX3_begin x0 x1 x2 x5 h) (fun h5 =>
  lq1 (fX3_firstMeeting_L11 x0 x1 x3 x4 x5) FU 0 h5)
def fX3_firstAwake_L11 (x0 : Nat) (x1 : Nat) (x3 : Int32) (x4 : Int32) (self11 : Int32 → HH → Option (Int32 × HH)) (x5 : Int32) (h : HH) : Option (Int32 × HH) :=
  if 29 ≤ x5 then
    some ((-2), h)
  else
  if x4 < (gI h x0 3) then
    some ((-2), h)
  else
  gd (inb x3 5) (
  if (gI h ((x0 + 1) + 1) (ix x3)) = 0 then
    some ((gI h x0 3), h)
  else
  bv (fX3_goOn x0 x1 h) (fun h46 =>
  self11 (x5 + 1) h46))
def fX3_firstAwake (x0 : Nat) (x1 : Nat) (x2 : Nat) (x3 : Int32) (x4 : Int32) (h : HH) : Option (Int32 × HH) :=
  bv (fX3_begin x0 x1 x2 x4 h) (fun h5 =>
  lq1 (fX3_firstAwake_L11 x0 x1 x3 x4) FU 0 h5)
def fX3_countLonely_L14 (x0 : Nat) (x1 : Nat) (x3 : Int32) (x4 : Int32) (self14 : Int32 → Int32 → HH → Option (Int32 × HH)) (x5 : Int32) (x6 : Int32) (h : HH) : Option (Int32 × HH) :=
  if 29 ≤ x6 then
    some (x5, h)
  else
  if x4 < (gI h x0 3) then
    some (x5, h)
  else
  bd (fX2_companyOf (x0 + 1) x1 x3 h) (fun r36 h36 =>
  if r36 = 1 then
    nm (x5 + (((gI h36 x0 4) - (jmmax (gI h36 x0 3) 1)) + 1)) (fun y1 =>
    bv (fX3_goOn x0 x1 h36) (fun h65 =>
    self14 y1 (x6 + 1) h65))
  else
  bv (fX3_goOn x0 x1 h36) (fun h65 =>
  self14 x5 (x6 + 1) h65))
def fX3_countLonely (x0 : Nat) (x1 : Nat) (x2 : Nat) (x3 : Int32) (x4 : Int32) (h : HH) : Option (Int32 × HH) :=
  bv (fX3_begin x0 x1 x2 x4 h) (fun h8 =>
  lq2 (fX3_countLonely_L14 x0 x1 x3 x4) FU 0 0 h8)
def fX3_mostTogether_L31 (k31_66 : Int32 → HH → Option (Int32 × HH)) (x0 : Nat) (x1 : Nat) (x3 : Int32) (x5 : Int32) (self31 : Int32 → Int32 → HH → Option (Int32 × HH)) (x4 : Int32) (x6 : Int32) (h : HH) : Option (Int32 × HH) :=
  if (gI h (x1 + 4) 3) ≤ x6 then
    k31_66 x4 h
  else
  bd (fX2_companyOf (x0 + 1) x1 x6 h) (fun r52 h52 =>
  nm (jmmax x4 r52) (fun y1 =>
  self31 y1 (x6 + 1) h52))
def fX3_mostTogether_L13 (x0 : Nat) (x1 : Nat) (x3 : Int32) (self13 : Int32 → Int32 → HH → Option (Int32 × HH)) (x4 : Int32) (x5 : Int32) (h : HH) : Option (Int32 × HH) :=
  if 29 ≤ x5 then
    some (x4, h)
  else
  if x3 < (gI h x0 3) then
    some (x4, h)
  else
  lq2 (fX3_mostTogether_L31 (fun x4 h =>
    bv (fX3_goOn x0 x1 h) (fun h68 =>
    self13 x4 (x5 + 1) h68)) x0 x1 x3 x5) FU x4 0 h
def fX3_mostTogether (x0 : Nat) (x1 : Nat) (x2 : Nat) (x3 : Int32) (h : HH) : Option (Int32 × HH) :=
  bv (fX3_begin x0 x1 x2 x3 h) (fun h7 =>
  lq2 (fX3_mostTogether_L13 x0 x1 x3) FU 0 0 h7)
