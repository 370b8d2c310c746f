def fX4_allMinutes_L4 (x0 : Nat) (self4 : Int64 → Int32 → HH → Option (Int64 × HH)) (x1 : Int64) (x3 : Int32) (h : HH) : Option (Int64 × HH) :=
  if (gI h (x0 + 10) 3) ≤ x3 then
    some (x1, h)
  else
  bd (fX7_at (x0 + 10) x3 1 h) (fun r22 h22 =>
  nm (x1 + r22.toInt64) (fun y1 =>
  self4 y1 (x3 + 1) h22))
def fX4_allMinutes (x0 : Nat) (h : HH) : Option (Int64 × HH) :=
  lq2 (fX4_allMinutes_L4 x0) FU 0 0 h
def fX4_weigh_L98 (x0 : Nat) (self98 : Int32 → HH → Option (HH)) (x10 : Int32) (h : HH) : Option (HH) :=
  if 6 ≤ x10 then
    some h
  else
  gd (inb x10 6) (
  gd (inb x10 6) (
  self98 (x10 + 1) (sI h (x0 + 1) (ix x10) (gI h (x0 + 2) (ix x10)))))
def fX4_weigh (x0 : Nat) (x1 : Nat) (x2 : Int32) (x3 : Int64) (x5 : Int64) (h : HH) : Option (HH) :=
  nm (((((gI h x1 10)).toInt64) * x2.toInt64) + (gL h x0 7)) (fun y1 =>
  if (gI h x0 3) = 0 then
    bd (fX0_morningTick x1 h) (fun r60 h60 =>
    if r60 < x5 then
      some h60
    else
    nm (sL (sI h60 x0 3 1) x0 4 x3) (fun g2 =>
    nm (sL (sL g2 x0 5 x5) x0 6 y1) (fun g3 =>
    lq1 (fX4_weigh_L98 x0) FU 0 g3)))
  else
  if x3 < (gL h x0 4) then
    bd (fX0_morningTick x1 h) (fun r60 h60 =>
    if r60 < x5 then
      some h60
    else
    nm (sL (sI h60 x0 3 1) x0 4 x3) (fun g4 =>
    nm (sL (sL g4 x0 5 x5) x0 6 y1) (fun g5 =>
    lq1 (fX4_weigh_L98 x0) FU 0 g5)))
  else
  if x3 = (gL h x0 4) then
    if (gL h x0 6) ≤ y1 then
      bd (fX0_morningTick x1 h) (fun r60 h60 =>
      if r60 < x5 then
        some h60
      else
      some h60)
    else
    bd (fX0_morningTick x1 h) (fun r60 h60 =>
    if r60 < x5 then
      some h60
    else
    nm (sL (sI h60 x0 3 1) x0 4 x3) (fun g6 =>
    nm (sL (sL g6 x0 5 x5) x0 6 y1) (fun g7 =>
    lq1 (fX4_weigh_L98 x0) FU 0 g7)))
  else
  bd (fX0_morningTick x1 h) (fun r60 h60 =>
  if r60 < x5 then
    some h60
  else
  some h60))
def fX4_choose_L96 (rec : Nat → Nat → Int32 → Int32 → Int64 → Int64 → HH → Option (HH)) (x0 : Nat) (x1 : Nat) (x2 : Int32) (x3 : Int32) (x4 : Int64) (x6 : Int64) (x8 : Int32) (x9 : Int32) (self96 : Int32 → HH → Option (HH)) (x10 : Int32) (h : HH) : Option (HH) :=
  if (gI h x1 9) < x10 then
    some h
  else
  gd (inb x2 6) (
  bd (fX0_minuteOf x1 x10 (sI h (x0 + 2) (ix x2) x10)) (fun r121 h121 =>
  nm (x6 + (x8.toInt64 * r121.toInt64)) (fun y1 =>
  bv (rec x0 x1 (x2 + 1) (jmmax x3 x10) (x4 + (x9.toInt64 * x10.toInt64)) y1 h121) (fun h152 =>
  self96 (x10 + 1) h152))))
def fX4_choose_b28 (rec : Nat → Nat → Int32 → Int32 → Int64 → Int64 → HH → Option (HH)) (x0 : Nat) (x1 : Nat) (x2 : Int32) (x3 : Int32) (x4 : Int64) (x6 : Int64) (h : HH) : Option (HH) :=
  if (gI h (x1 + 10) 3) ≤ x2 then
    bd (fX0_falling x1 0 x3 h) (fun r55 h55 =>
    bv (fX4_weigh x0 x1 x3 x4 (x6 + r55) h55) (fun h59 =>
    some h59))
  else
  if x2 < 6 then
    bd (fX7_at (x1 + 10) x2 1 h) (fun r69 h69 =>
    bd (fX7_at (x1 + 10) x2 2 h69) (fun r80 h80 =>
    bd (fX7_at (x1 + 10) x2 0 h80) (fun r91 h91 =>
    lq1 (fX4_choose_L96 rec x0 x1 x2 x3 x4 x6 r69 r80) FU r91 h91)))
  else
  bd (fX0_falling x1 0 x3 h) (fun r55 h55 =>
  bv (fX4_weigh x0 x1 x3 x4 (x6 + r55) h55) (fun h59 =>
  some h59))
def fX4_choose_0 (rec : Nat → Nat → Int32 → Int32 → Int64 → Int64 → HH → Option (HH)) (x0 : Nat) (x1 : Nat) (x2 : Int32) (x3 : Int32) (x4 : Int64) (x6 : Int64) (h : HH) : Option (HH) :=
  bd (fX0_morningTick x1 h) (fun r3 h3 =>
  if r3 < x6 then
    some h3
  else
  if (gI h3 x0 3) = 0 then
    fX4_choose_b28 rec x0 x1 x2 x3 x4 x6 h3
  else
  if x4 ≤ (gL h3 x0 4) then
    fX4_choose_b28 rec x0 x1 x2 x3 x4 x6 h3
  else
  some h3)
def fX4_choose (dp : Nat) (x0 : Nat) (x1 : Nat) (x2 : Int32) (x3 : Int32) (x4 : Int64) (x6 : Int64) (h : HH) : Option (HH) := lq6 fX4_choose_0 dp x0 x1 x2 x3 x4 x6 h
def fX4_make (x0 : Nat) (x1 : Nat) (h : HH) : Option (HH) :=
  if (gI h x0 2) = 0 then
    nm (sI (sI h x0 2 1) x0 3 0) (fun g1 =>
    bd (fX4_allMinutes x1 g1) (fun r19 h19 =>
    bv (fX4_choose 8 x0 x1 0 0 0 0 (sL h19 x0 7 r19)) (fun h31 =>
    some h31)))
  else
  some h
def fX4_leastTicks_L4 (k4_35 : Int32 → HH → Option (Int64 × HH)) (x0 : Nat) (self4 : Int32 → Int32 → HH → Option (Int64 × HH)) (x1 : Int32) (x2 : Int32) (h : HH) : Option (Int64 × HH) :=
  if (gI h (x0 + 10) 3) ≤ x2 then
    k4_35 x1 h
  else
  bd (fX7_at (x0 + 10) x2 0 h) (fun r22 h22 =>
  nm (jmmax x1 r22) (fun y1 =>
  self4 y1 (x2 + 1) h22))
def fX4_leastTicks_L42 (x0 : Nat) (self42 : Int64 → Int32 → HH → Option (Int64 × HH)) (x2 : Int64) (x4 : Int32) (h : HH) : Option (Int64 × HH) :=
  if (gI h x0 9) < x4 then
    some (x2, h)
  else
  bd (fX0_falling x0 0 x4 h) (fun r56 h56 =>
  bd (fX4_allMinutes x0 h56) (fun r60 h60 =>
  bd (fX0_minuteOf x0 x4 h60) (fun r66 h66 =>
  nm (jmminl x2 (r56 + (r60 * r66.toInt64))) (fun y2 =>
  self42 y2 (x4 + 1) h66))))
def fX4_leastTicks (x0 : Nat) (h : HH) : Option (Int64 × HH) :=
  lq2 (fX4_leastTicks_L4 (fun x1 h =>
    lq2 (fX4_leastTicks_L42 x0) FU 1152921504606846976 x1 h) x0) FU 0 0 h
