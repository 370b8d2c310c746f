def fX7_at (x0 : Nat) (x1 : Int32) (x2 : Int32) (h : HH) : Option (Int32 × HH) :=
  if x1 < 0 then
    some (0, h)
  else
  if (gI h x0 3) ≤ x1 then
    some (0, h)
  else
  if x2 < 0 then
    some (0, h)
  else
  if (gI h x0 1) ≤ x2 then
    some (0, h)
  else
  gd (inb ((x1 * (gI h x0 1)) + x2) (ln (x0 + 1))) (
  some ((gI h (x0 + 1) (ix ((x1 * (gI h x0 1)) + x2))), h))
def fX7_putAt (x0 : Nat) (x1 : Int32) (x2 : Int32) (x3 : Int32) (h : HH) : Option (HH) :=
  if x1 < 0 then
    some h
  else
  if (gI h x0 3) ≤ x1 then
    some h
  else
  if x2 < 0 then
    some h
  else
  if (gI h x0 1) ≤ x2 then
    some h
  else
  gd (inb ((x1 * (gI h x0 1)) + x2) (ln (x0 + 1))) (
  some (sI h (x0 + 1) (ix ((x1 * (gI h x0 1)) + x2)) x3))
def fX7_isFull (x0 : Nat) (h : HH) : Option (Bool × HH) :=
  if (gI h x0 3) < (gI h x0 0) then
    some (false, h)
  else
  some (true, h)
def fX7_put (x0 : Nat) (x1 : Int32) (x2 : Int32) (h : HH) : Option (HH) :=
  bv (fX7_putAt x0 ((gI h x0 3) - 1) x1 x2 h) (fun h9 =>
  some h9)
def fX7_add_L19 (x0 : Nat) (self19 : Int32 → HH → Option (HH)) (x1 : Int32) (h : HH) : Option (HH) :=
  if (gI h x0 1) ≤ x1 then
    some h
  else
  bv (fX7_put x0 x1 0 h) (fun h30 =>
  self19 (x1 + 1) h30)
def fX7_add (x0 : Nat) (h : HH) : Option (HH) :=
  bd (fX7_isFull x0 h) (fun r1 h1 =>
  bif r1 then
    some h1
  else
  lq1 (fX7_add_L19 x0) FU 0 (sI h1 x0 3 ((gI h1 x0 3) + 1)))
