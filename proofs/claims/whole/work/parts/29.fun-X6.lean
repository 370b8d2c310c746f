def fX6_gather_L10 (x0 : Nat) (x1 : Nat) (x2 : Int32) (self10 : Int32 → Int32 → HH → Option (Int32 × HH)) (x3 : Int32) (x4 : Int32) (h : HH) : Option (Int32 × HH) :=
  if 5 ≤ x4 then
    some (x3, h)
  else
  if ((x2 >>> (x4 &&& 31)) &&& 1) = 1 then
    gd (inb (gI h x0 8) 5) (
    gd (inb x4 5) (
    nm (x3 ||| ((((gI (sI h (x0 + 2) (ix (gI h x0 8)) x4) (x1 + 1) (ix x4)) - 1) &&& 3) <<< (((2 : Int32) * (gI (sI h (x0 + 2) (ix (gI h x0 8)) x4) x0 8)) &&& 31))) (fun y1 =>
    nm (sI (sI h (x0 + 2) (ix (gI h x0 8)) x4) x0 8 ((gI (sI h (x0 + 2) (ix (gI h x0 8)) x4) x0 8) + 1)) (fun g2 =>
    self10 y1 (x4 + 1) g2))))
  else
  self10 x3 (x4 + 1) h
def fX6_gather (x0 : Nat) (x1 : Nat) (x2 : Int32) (h : HH) : Option (Int32 × HH) :=
  lq2 (fX6_gather_L10 x0 x1 x2) FU 0 0 (sI h x0 8 0)
def fX6_enqueue (x0 : Nat) (x1 : Int32) (x2 : Int32) (x3 : Int32) (h : HH) : Option (HH) :=
  if x1 < 0 then
    some h
  else
  if 1024 ≤ x1 then
    some h
  else
  if 1024 ≤ (gI h x0 9) then
    some h
  else
  gd (inb x1 1024) (
  if (gI h (x0 + 7) (ix x1)) = (gI h x0 7) then
    some h
  else
  gd (inb x1 1024) (
  gd (inb (gI (sI h (x0 + 7) (ix x1) (gI h x0 7)) x0 9) 1024) (
  nm (sI (sI h (x0 + 7) (ix x1) (gI h x0 7)) (x0 + 4) (ix (gI (sI h (x0 + 7) (ix x1) (gI h x0 7)) x0 9)) x1) (fun g1 =>
  gd (inb (gI g1 x0 9) 1024) (
  gd (inb (gI (sI g1 (x0 + 5) (ix (gI g1 x0 9)) x2) x0 9) 1024) (
  nm (sI (sI g1 (x0 + 5) (ix (gI g1 x0 9)) x2) (x0 + 6) (ix (gI (sI g1 (x0 + 5) (ix (gI g1 x0 9)) x2) x0 9)) x3) (fun g2 =>
  some (sI g2 x0 9 ((gI g2 x0 9) + 1)))))))))
def fX6_place (x0 : Int32) (x1 : Int32) (x2 : Int32) (h : HH) : Option (Int32 × HH) :=
  some ((((((x0 * 4) + x1) - 1) * 10) + x2), h)
def fX6_tryKnocks_L20 (k20_59 : HH → Option (HH)) (x0 : Nat) (x1 : Nat) (x2 : Int32) (x3 : Int32) (self20 : Int32 → HH → Option (HH)) (x4 : Int32) (h : HH) : Option (HH) :=
  if 9 < x4 then
    k20_59  h
  else
  bd (fX6_place x2 x3 x4 h) (fun r35 h35 =>
  gd (inb x2 5) (
  bd (fX0_floorBehind x1 (gI h35 (x0 + 2) (ix x2)) x3 0 x4 h35) (fun r49 h49 =>
  gd (inb r35 200) (
  self20 (x4 + 1) (sI h49 (x0 + 3) (ix r35) r49)))))
def fX6_tryKnocks_L12 (k12_65 : HH → Option (HH)) (x0 : Nat) (x1 : Nat) (x2 : Int32) (self12 : Int32 → HH → Option (HH)) (x3 : Int32) (h : HH) : Option (HH) :=
  if 4 < x3 then
    k12_65  h
  else
  lq1 (fX6_tryKnocks_L20 (fun  h =>
    self12 (x3 + 1) h) x0 x1 x2 x3) FU 1 h
def fX6_tryKnocks_L2 (x0 : Nat) (x1 : Nat) (self2 : Int32 → HH → Option (HH)) (x2 : Int32) (h : HH) : Option (HH) :=
  if (gI h x0 8) ≤ x2 then
    some h
  else
  lq1 (fX6_tryKnocks_L12 (fun  h =>
    self2 (x2 + 1) h) x0 x1 x2) FU 1 h
def fX6_tryKnocks (x0 : Nat) (x1 : Nat) (h : HH) : Option (HH) :=
  lq1 (fX6_tryKnocks_L2 x0 x1) FU 0 h
def fX6_behindKnock_L8 (k8_69 : Int32 → Int32 → HH → Option (Int32 × HH)) (x0 : Nat) (x1 : Int32) (x2 : Int32) (self8 : Int32 → Int32 → Int32 → HH → Option (Int32 × HH)) (x3 : Int32) (x4 : Int32) (x5 : Int32) (h : HH) : Option (Int32 × HH) :=
  if (gI h x0 8) ≤ x5 then
    k8_69 x3 x4 h
  else
  bd (fX6_place x5 (((x1 >>> (((2 : Int32) * x5) &&& 31)) &&& 3) + 1) x2 h) (fun r34 h34 =>
  gd (inb r34 200) (
  nm (gI h34 (x0 + 3) (ix r34)) (fun y1 =>
  if y1 = 0 then
    self8 x3 (x4 + 1) (x5 + 1) h34
  else
  nm (x3 ||| ((y1 - 1) <<< (((2 : Int32) * x5) &&& 31))) (fun y2 =>
  self8 y2 x4 (x5 + 1) h34))))
def fX6_behindKnock (x0 : Nat) (x1 : Int32) (x2 : Int32) (h : HH) : Option (Int32 × HH) :=
  lq3 (fX6_behindKnock_L8 (fun x3 x4 h =>
    if x4 = (gI h x0 8) then
      some ((-1), h)
    else
    if x4 ≤ 0 then
      some (x3, h)
    else
    some ((-2), h)) x0 x1 x2) FU 0 0 0 h
def fX6_trace_L5 (k5_34 : Int32 → HH → Option (Int32 × HH)) (x0 : Nat) (x1 : Int32) (x2 : Int32) (self5 : Int32 → Int32 → HH → Option (Int32 × HH)) (x3 : Int32) (x4 : Int32) (h : HH) : Option (Int32 × HH) :=
  if x4 ≤ 0 then
    k5_34 x3 h
  else
  if 20 ≤ x3 then
    k5_34 x3 h
  else
  gd (inb x4 1024) (
  nm (gI h (x0 + 5) (ix x4)) (fun y1 =>
  self5 (x3 + 1) y1 h))
def fX6_trace_L51 (x0 : Nat) (x3 : Int32) (self51 : Int32 → Int32 → HH → Option (Int32 × HH)) (x4 : Int32) (x5 : Int32) (h : HH) : Option (Int32 × HH) :=
  if x5 < 0 then
    some (x3, h)
  else
  if x4 ≤ 0 then
    some (x3, h)
  else
  gd (inb x4 1024) (
  gd (inb x5 20) (
  gd (inb x4 1024) (
  nm (gI (sI h (x0 + 1) (ix x5) (gI h (x0 + 6) (ix x4))) (x0 + 5) (ix x4)) (fun y3 =>
  self51 y3 (x5 + (-1)) (sI h (x0 + 1) (ix x5) (gI h (x0 + 6) (ix x4)))))))
def fX6_trace (x0 : Nat) (x1 : Int32) (x2 : Int32) (h : HH) : Option (Int32 × HH) :=
  lq2 (fX6_trace_L5 (fun x3 h =>
    gd (inb (x3 - 1) 20) (
    nm (x3 - 2) (fun y2 =>
    lq2 (fX6_trace_L51 x0 x3) FU x1 y2 (sI h (x0 + 1) (ix (x3 - 1)) x2)))) x0 x1 x2) FU 1 x1 h
def fX6_seek_L55 (k55_115 : HH → Option (Int32 × HH)) (x0 : Nat) (x4 : Int32) (self55 : Int32 → HH → Option (Int32 × HH)) (x5 : Int32) (h : HH) : Option (Int32 × HH) :=
  if 9 < x5 then
    k55_115  h
  else
  gd (inb x4 1024) (
  bd (fX6_behindKnock x0 (gI h (x0 + 4) (ix x4)) x5 h) (fun r72 h72 =>
  if r72 = (-1) then
    bd (fX6_trace x0 x4 x5 h72) (fun r88 h88 =>
    some (r88, h88))
  else
  if r72 = (-2) then
    self55 (x5 + 1) h72
  else
  bv (fX6_enqueue x0 r72 x4 x5 h72) (fun h106 =>
  self55 (x5 + 1) h106)))
def fX6_seek_L35 (x0 : Nat) (self35 : Int32 → HH → Option (Int32 × HH)) (x4 : Int32) (h : HH) : Option (Int32 × HH) :=
  if (gI h x0 9) ≤ x4 then
    some ((-2), h)
  else
  if 1024 ≤ x4 then
    some ((-2), h)
  else
  lq1 (fX6_seek_L55 (fun  h =>
    self35 (x4 + 1) h) x0 x4) FU 1 h
def fX6_seek (x0 : Nat) (x1 : Nat) (x2 : Nat) (x3 : Int32) (h : HH) : Option (Int32 × HH) :=
  nm (sI (sI h x0 7 ((gI h x0 7) + 1)) x0 9 0) (fun g1 =>
  bd (fX6_gather x0 x2 x3 g1) (fun r19 h19 =>
  bv (fX6_enqueue x0 r19 (-1) 0 h19) (fun h24 =>
  bv (fX6_tryKnocks x0 x1 h24) (fun h29 =>
  lq1 (fX6_seek_L35 x0) FU 0 h29))))
