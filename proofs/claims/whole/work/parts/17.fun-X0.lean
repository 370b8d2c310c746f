def fX0_clear (x0 : Nat) (h : HH) : Option (HH) :=
  nm (sI (sI h (x0 + 4) 3 0) (x0 + 6) 3 0) (fun g1 =>
  nm (sI (sI g1 (x0 + 8) 3 0) (x0 + 10) 3 0) (fun g2 =>
  nm (sI (sI g2 (x0 + 12) 3 0) (x0 + 14) 3 0) (fun g3 =>
  gd (inb 0 5) (
  nm (sI (sI g3 (x0 + 1) (ix 0) 1) x0 9 0) (fun g4 =>
  nm (sI (sI g4 x0 10 0) x0 11 0) (fun g5 =>
  nm (sI (sI g5 x0 12 0) x0 13 0) (fun g6 =>
  some g6)))))))
def fX0_addRate (x0 : Nat) (x1 : Int32) (h : HH) : Option (HH) :=
  if 4 ≤ (gI h x0 9) then
    some h
  else
  gd (inb ((gI (sI h x0 9 ((gI h x0 9) + 1)) x0 9) - 1) 5) (
  gd (inb (gI (sI h x0 9 ((gI h x0 9) + 1)) x0 9) 5) (
  nm (sI (sI h x0 9 ((gI h x0 9) + 1)) (x0 + 1) (ix (gI (sI h x0 9 ((gI h x0 9) + 1)) x0 9)) ((gI (sI h x0 9 ((gI h x0 9) + 1)) (x0 + 1) (ix ((gI (sI h x0 9 ((gI h x0 9) + 1)) x0 9) - 1))) * x1)) (fun g1 =>
  some g1)))
def fX0_orderStep (x0 : Nat) (h : HH) : Option (HH) :=
  bd (fX7_at (x0 + 6) ((gI h (x0 + 6) 3) - 1) 0 h) (fun r14 h14 =>
  bd (fX7_at (x0 + 4) r14 5 h14) (fun r24 h24 =>
  if r14 < 0 then
    some h24
  else
  if 5 ≤ r14 then
    some h24
  else
  if r24 < 0 then
    some h24
  else
  if 20 ≤ r24 then
    some h24
  else
  gd (inb ((r14 * 20) + r24) 100) (
  bv (fX7_putAt (x0 + 4) r14 5 (r24 + 1) (sI h24 (x0 + 3) (ix ((r14 * 20) + r24)) ((gI h24 (x0 + 6) 3) - 1))) (fun h76 =>
  some h76))))
def fX0_stepOf (x0 : Nat) (x1 : Int32) (x2 : Int32) (h : HH) : Option (Int32 × HH) :=
  if x1 < 0 then
    some ((-1), h)
  else
  if 5 ≤ x1 then
    some ((-1), h)
  else
  if x2 < 0 then
    some ((-1), h)
  else
  bd (fX7_at (x0 + 4) x1 5 h) (fun r20 h20 =>
  if r20 ≤ x2 then
    some ((-1), h20)
  else
  if 20 ≤ x2 then
    some ((-1), h20)
  else
  gd (inb ((x1 * 20) + x2) 100) (
  some ((gI h20 (x0 + 3) (ix ((x1 * 20) + x2))), h20)))
def fX0_quickOf (x0 : Nat) (x1 : Int32) (h : HH) : Option (Int32 × HH) :=
  if x1 < 0 then
    some (1, h)
  else
  if x1 ≤ (gI h x0 9) then
    gd (inb x1 5) (
    some ((gI h (x0 + 1) (ix x1)), h))
  else
  some (1, h)
def fX0_bottom (x0 : Nat) (h : HH) : Option (Int32 × HH) :=
  bd (fX0_quickOf x0 (gI h x0 9) h) (fun r5 h5 =>
  some (r5, h5))
def fX0_ratio (x0 : Nat) (x1 : Int32) (x2 : Int32) (h : HH) : Option (Int32 × HH) :=
  if x1 < 0 then
    some (1, h)
  else
  if (gI h x0 9) < x1 then
    some (1, h)
  else
  if x2 < 0 then
    some (1, h)
  else
  if (gI h x0 9) < x2 then
    some (1, h)
  else
  gd (inb x1 5) (
  if (gI h (x0 + 1) (ix x1)) ≤ 0 then
    some (1, h)
  else
  gd (inb x2 5) (
  gd (inb x1 5) (
  gd (!((gI h (x0 + 1) (ix x1)) == 0)) (
  some (((gI h (x0 + 1) (ix x2)) / (gI h (x0 + 1) (ix x1))), h)))))
def fX0_minuteOf (x0 : Nat) (x1 : Int32) (h : HH) : Option (Int32 × HH) :=
  bd (fX0_ratio x0 x1 (gI h x0 9) h) (fun r6 h6 =>
  some (r6, h6))
def fX0_morningTick (x0 : Nat) (h : HH) : Option (Int64 × HH) :=
  bd (fX0_bottom x0 h) (fun r6 h6 =>
  some (((((gI h x0 11)).toInt64) * r6.toInt64), h6))
def fX0_knockTick (x0 : Nat) (x1 : Int32) (h : HH) : Option (Int64 × HH) :=
  bd (fX7_at (x0 + 8) x1 2 h) (fun r6 h6 =>
  bd (fX0_bottom x0 h6) (fun r11 h11 =>
  some ((r6.toInt64 * r11.toInt64), h11)))
def fX0_feltOn (x0 : Nat) (x1 : Int32) (x2 : Int32) (x3 : Int32) (h : HH) : Option (Int64 × HH) :=
  bd (fX0_ratio x0 x2 x3 h) (fun r5 h5 =>
  some ((x1.toInt64 * r5.toInt64), h5))
def fX0_shrunk (x0 : Nat) (x1 : Int32) (x2 : Int32) (x3 : Int32) (h : HH) : Option (Int32 × HH) :=
  bd (fX0_ratio x0 x3 x2 h) (fun r5 h5 =>
  bd (fX8_quotient x1.toInt64 r5.toInt64 h5) (fun r9 h9 =>
  some (r9.toInt32, h9)))
def fX0_falling_L5 (x0 : Nat) (x2 : Int32) (self5 : Int64 → Int32 → HH → Option (Int64 × HH)) (x3 : Int64) (x5 : Int32) (h : HH) : Option (Int64 × HH) :=
  if x2 ≤ x5 then
    some (x3, h)
  else
  bd (fX0_minuteOf x0 x5 h) (fun r20 h20 =>
  nm (x3 + ((((gI h x0 10)).toInt64) * r20.toInt64)) (fun y1 =>
  self5 y1 (x5 + 1) h20))
def fX0_falling (x0 : Nat) (x1 : Int32) (x2 : Int32) (h : HH) : Option (Int64 × HH) :=
  lq2 (fX0_falling_L5 x0 x2) FU 0 x1 h
def fX0_floorBehind_b60 (x0 : Nat) (x2 : Int32) (x3 : Int32) (x4 : Int32) (x5 : Int32) (x6 : Int32) (h : HH) : Option (Int32 × HH) :=
  bd (fX0_ratio x0 x3 x2 h) (fun r72 h72 =>
  if x6 ≤ (x4 * r72) then
    if x5 = 1 then
      some ((jmmax x3 (x2 - 2)), h72)
    else
    some ((jmmax x3 (x2 - 1)), h72)
  else
  some (x2, h72))
def fX0_floorBehind_b59 (x0 : Nat) (x2 : Int32) (x3 : Int32) (x4 : Int32) (x5 : Int32) (x6 : Int32) (h : HH) : Option (Int32 × HH) :=
  fX0_floorBehind_b60 x0 x2 x3 x4 x5 x6 h
def fX0_floorBehind_b38 (x0 : Nat) (x2 : Int32) (x3 : Int32) (x4 : Int32) (x5 : Int32) (s0 : Int32) (s1 : Int32) (h : HH) : Option (Int32 × HH) :=
  nm (s1 * s0) (fun y2 =>
  if x5 = 3 then
    if x2 < (gI h x0 9) then
      fX0_floorBehind_b59 x0 x2 x3 x4 x5 y2 h
    else
    some (x2, h)
  else
  fX0_floorBehind_b59 x0 x2 x3 x4 x5 y2 h)
def fX0_floorBehind (x0 : Nat) (x1 : Int32) (x2 : Int32) (x3 : Int32) (x4 : Int32) (h : HH) : Option (Int32 × HH) :=
  if x3 < x2 then
    bd (fX7_at (x0 + 4) x1 0 h) (fun r13 h13 =>
    bd (fX7_at (x0 + 4) x1 1 h13) (fun r24 h24 =>
    if r13 = 2 then
      fX0_floorBehind_b38 x0 x2 x3 x4 r13 2 r24 h24
    else
    fX0_floorBehind_b38 x0 x2 x3 x4 r13 1 r24 h24))
  else
  some (x2, h)
def fX0_fitsSigns_L2 (x0 : Nat) (x1 : Int32) (self2 : Int32 → HH → Option (Bool × HH)) (x2 : Int32) (h : HH) : Option (Bool × HH) :=
  if (gI h (x0 + 12) 3) ≤ x2 then
    some (true, h)
  else
  bd (fX7_at (x0 + 12) x2 1 h) (fun r19 h19 =>
  bd (fX7_at (x0 + 12) x2 0 h19) (fun r29 h29 =>
  if r29 = 1 then
    bd (fX0_shrunk x0 r19 x1 0 h29) (fun r40 h40 =>
    nm r40.toInt64 (fun y1 =>
    bd (fX7_at (x0 + 12) x2 2 h40) (fun r64 h64 =>
    if y1 = r64.toInt64 then
      self2 (x2 + 1) h64
    else
    some (false, h64))))
  else
  bd (fX0_feltOn x0 r19 0 x1 h29) (fun r51 h51 =>
  bd (fX7_at (x0 + 12) x2 2 h51) (fun r64 h64 =>
  if r51 = r64.toInt64 then
    self2 (x2 + 1) h64
  else
  some (false, h64)))))
def fX0_fitsSigns (x0 : Nat) (x1 : Int32) (h : HH) : Option (Bool × HH) :=
  lq1 (fX0_fitsSigns_L2 x0 x1) FU 0 h
def fX0_deepOnes_L4 (x0 : Nat) (self4 : Int32 → Int32 → HH → Option (Int32 × HH)) (x1 : Int32) (x2 : Int32) (h : HH) : Option (Int32 × HH) :=
  if (gI h x0 9) < x2 then
    some (x1, h)
  else
  bd (fX0_fitsSigns x0 x2 h) (fun r14 h14 =>
  bif r14 then
    nm (x1 ||| ((1 : Int32) <<< (x2 &&& 31))) (fun y1 =>
    self4 y1 (x2 + 1) h14)
  else
  self4 x1 (x2 + 1) h14)
def fX0_deepOnes (x0 : Nat) (h : HH) : Option (Int32 × HH) :=
  lq2 (fX0_deepOnes_L4 x0) FU 0 0 h
def fX0_dreadOn (x0 : Nat) (x1 : Int32) (x2 : Int32) (h : HH) : Option (Int64 × HH) :=
  bd (fX7_at (x0 + 4) x1 2 h) (fun r6 h6 =>
  some (((r6.toInt64 * x2.toInt64) * x2.toInt64), h6))
def fX0_gainOn (x0 : Nat) (x1 : Int32) (x2 : Int32) (h : HH) : Option (Int64 × HH) :=
  if x2 < 1 then
    some (0, h)
  else
  if x2 ≤ (gI h x0 9) then
    gd (inb x2 5) (
    bd (fX0_quickOf x0 x2 h) (fun r26 h26 =>
    bd (fX0_dreadOn x0 x1 x2 h26) (fun r34 h34 =>
    some ((((((gI h (x0 + 2) (ix x2))).toInt64) * r26.toInt64) - r34), h34))))
  else
  some (0, h)
