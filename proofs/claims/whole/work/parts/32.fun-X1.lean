def fX1_need_b34 (x0 : Nat) (x1 : Int32) (x4 : Int32) (s0 : Bool) (h : HH) : Option (HH) :=
  gd (inb x1 5) (
  if (gI h (x0 + 2) (ix x1)) = 0 then
    bif s0 then
      gd (inb x1 5) (
      some (sI h (x0 + 2) (ix x1) x4))
    else
    gd (inb x1 5) (
    some (sI h (x0 + 2) (ix x1) (-1)))
  else
  gd (inb x1 5) (
  if (gI h (x0 + 2) (ix x1)) = x4 then
    bif s0 then
      gd (inb x1 5) (
      some (sI h (x0 + 2) (ix x1) x4))
    else
    gd (inb x1 5) (
    some (sI h (x0 + 2) (ix x1) (-1)))
  else
  bif s0 then
    gd (inb x1 5) (
    some (sI h (x0 + 2) (ix x1) (-1)))
  else
  gd (inb x1 5) (
  some (sI h (x0 + 2) (ix x1) (-1)))))
def fX1_need (x0 : Nat) (x1 : Int32) (x2 : Int32) (x3 : Int32) (h : HH) : Option (HH) :=
  if x1 < 1 then
    some h
  else
  if x1 ≤ 4 then
    bd (fX8_quotient x2.toInt64 x3.toInt64 h) (fun r15 h15 =>
    nm r15.toInt32 (fun y1 =>
    if (y1 * x3) = x2 then
      fX1_need_b34 x0 x1 y1 true h15
    else
    fX1_need_b34 x0 x1 y1 false h15))
  else
  some h
def fX1_countFrom_b59 (rec : Nat → Nat → Int32 → Int32 → HH → Option (Int32 × HH)) (self21 : Int32 → Int32 → HH → Option (Int32 × HH)) (x0 : Nat) (x1 : Nat) (x2 : Int32) (x3 : Int32) (x4 : Int32) (x5 : Int32) (x6 : Int32) (h : HH) : Option (Int32 × HH) :=
  bd (rec x0 x1 (x2 + 1) x6 h) (fun r73 h73 =>
  if r73 ≤ 0 then
    self21 x4 (x5 + 1) h73
  else
  gd (inb x2 5) (
  gd (inb x2 5) (
  nm (x4 + r73) (fun y2 =>
  self21 y2 (x5 + 1) (sI h73 (x0 + 1) (ix x2) ((gI h73 (x0 + 1) (ix x2)) ||| ((1 : Int32) <<< (x5 &&& 31))))))))
def fX1_countFrom_b54 (rec : Nat → Nat → Int32 → Int32 → HH → Option (Int32 × HH)) (self21 : Int32 → Int32 → HH → Option (Int32 × HH)) (x0 : Nat) (x1 : Nat) (x2 : Int32) (x3 : Int32) (x4 : Int32) (x5 : Int32) (x6 : Int32) (h : HH) : Option (Int32 × HH) :=
  fX1_countFrom_b59 rec self21 x0 x1 x2 x3 x4 x5 x6 h
def fX1_countFrom_L21 (rec : Nat → Nat → Int32 → Int32 → HH → Option (Int32 × HH)) (x0 : Nat) (x1 : Nat) (x2 : Int32) (x3 : Int32) (self21 : Int32 → Int32 → HH → Option (Int32 × HH)) (x4 : Int32) (x5 : Int32) (h : HH) : Option (Int32 × HH) :=
  if 12 < x5 then
    some (x4, h)
  else
  nm (x3 * x5) (fun y1 =>
  gd (inb x2 5) (
  if (gI h (x0 + 2) (ix x2)) = 0 then
    fX1_countFrom_b54 rec self21 x0 x1 x2 x3 x4 x5 y1 h
  else
  gd (inb x2 5) (
  if (gI h (x0 + 2) (ix x2)) = y1 then
    fX1_countFrom_b54 rec self21 x0 x1 x2 x3 x4 x5 y1 h
  else
  self21 x4 (x5 + 1) h)))
def fX1_countFrom_0 (rec : Nat → Nat → Int32 → Int32 → HH → Option (Int32 × HH)) (x0 : Nat) (x1 : Nat) (x2 : Int32) (x3 : Int32) (h : HH) : Option (Int32 × HH) :=
  if (gI h x1 9) < x2 then
    some (1, h)
  else
  if x2 ≤ 4 then
    lq2 (fX1_countFrom_L21 rec x0 x1 x2 x3) FU 0 2 h
  else
  some (1, h)
def fX1_countFrom (dp : Nat) (x0 : Nat) (x1 : Nat) (x2 : Int32) (x3 : Int32) (h : HH) : Option (Int32 × HH) := lq4 fX1_countFrom_0 dp x0 x1 x2 x3 h
def fX1_make_L15 (k15_40 : HH → Option (HH)) (x0 : Nat) (x1 : Nat) (self15 : Int32 → HH → Option (HH)) (x2 : Int32) (h : HH) : Option (HH) :=
  if 4 < x2 then
    k15_40  h
  else
  gd (inb x2 5) (
  gd (inb x2 5) (
  nm (sI (sI h (x0 + 1) (ix x2) 0) (x0 + 2) (ix x2) 0) (fun g1 =>
  self15 (x2 + 1) g1)))
def fX1_make_L42 (x0 : Nat) (x1 : Nat) (self42 : Int32 → HH → Option (HH)) (x2 : Int32) (h : HH) : Option (HH) :=
  if (gI h (x1 + 14) 3) ≤ x2 then
    bd (fX1_countFrom 6 x0 x1 1 1 h) (fun r95 h95 =>
    some (sI h95 x0 1 r95))
  else
  bd (fX7_at (x1 + 14) x2 1 h) (fun r60 h60 =>
  bd (fX7_at (x1 + 14) x2 0 h60) (fun r69 h69 =>
  bd (fX7_at (x1 + 14) x2 2 h69) (fun r78 h78 =>
  bv (fX1_need x0 r60 r69 r78 h78) (fun h81 =>
  self42 (x2 + 1) h81))))
def fX1_make (x0 : Nat) (x1 : Nat) (h : HH) : Option (HH) :=
  if (gI h x0 0) = 0 then
    lq1 (fX1_make_L15 (fun  h =>
      lq1 (fX1_make_L42 x0 x1) FU 0 h) x0 x1) FU 0 (sI h x0 0 1)
  else
  some h
def fX1_onlyRate_L15 (x0 : Nat) (x1 : Int32) (self15 : Int32 → HH → Option (Int32 × HH)) (x2 : Int32) (h : HH) : Option (Int32 × HH) :=
  if 12 < x2 then
    some ((-2), h)
  else
  gd (inb x1 5) (
  if (gI h (x0 + 1) (ix x1)) = ((1 : Int32) <<< (x2 &&& 31)) then
    some (x2, h)
  else
  self15 (x2 + 1) h)
def fX1_onlyRate (x0 : Nat) (x1 : Int32) (h : HH) : Option (Int32 × HH) :=
  if x1 < 1 then
    some ((-2), h)
  else
  if x1 ≤ 4 then
    lq1 (fX1_onlyRate_L15 x0 x1) FU 2 h
  else
  some ((-2), h)
