def fX9_thrown (x0 : Nat) (h : HH) : Option (Int32 × HH) :=
  some ((gI h x0 0), h)
def fX9_good (x0 : Nat) (h : HH) : Option (HH) :=
  nm (sI (sI h x0 0 0) x0 11 0) (fun g1 =>
  some g1)
def fX9_no (x0 : Nat) (x1 : Int32) (h : HH) : Option (Int32 × HH) :=
  some ((-1), (sI h x0 11 x1))
def fX9_isNot (x0 : Nat) (x1 : Int32) (h : HH) : Option (Bool × HH) :=
  some (false, (sI h x0 11 x1))
def fX9_within (x0 : Int32) (x1 : Int32) (x2 : Int32) (h : HH) : Option (Bool × HH) :=
  if x0 < x1 then
    some (false, h)
  else
  if x2 < x0 then
    some (false, h)
  else
  some (true, h)
def fX9_hasBit (x0 : Int32) (x1 : Int32) (h : HH) : Option (Bool × HH) :=
  if ((x0 >>> (x1 &&& 31)) &&& 1) = 1 then
    some (true, h)
  else
  some (false, h)
def fX9_ones_L4 (x0 : Int32) (self4 : Int32 → Int32 → HH → Option (Int32 × HH)) (x1 : Int32) (x2 : Int32) (h : HH) : Option (Int32 × HH) :=
  if 5 ≤ x2 then
    some (x1, h)
  else
  nm (x1 + ((x0 >>> (x2 &&& 31)) &&& 1)) (fun y1 =>
  self4 y1 (x2 + 1) h)
def fX9_ones (x0 : Int32) (h : HH) : Option (Int32 × HH) :=
  lq2 (fX9_ones_L4 x0) FU 0 0 h
def fX9_copy_L3 (x0 : Nat) (x1 : Int32) (x2 : Nat) (x3 : Int32) (x4 : Int32) (self3 : Int32 → HH → Option (HH)) (x5 : Int32) (h : HH) : Option (HH) :=
  if x4 ≤ x5 then
    some h
  else
  gd (inb (x1 + x5) (ln x0)) (
  gd (inb (x3 + x5) (ln x2)) (
  self3 (x5 + 1) (sI h x2 (ix (x3 + x5)) (gI h x0 (ix (x1 + x5))))))
def fX9_copy (x0 : Nat) (x1 : Int32) (x2 : Nat) (x3 : Int32) (x4 : Int32) (h : HH) : Option (HH) :=
  lq1 (fX9_copy_L3 x0 x1 x2 x3 x4) FU 0 h
def fX9_copyLongs_L3 (x0 : Nat) (x1 : Int32) (x2 : Nat) (x3 : Int32) (self3 : Int32 → HH → Option (HH)) (x4 : Int32) (h : HH) : Option (HH) :=
  if 31 ≤ x4 then
    some h
  else
  gd (inb (x1 + x4) (ln x0)) (
  gd (inb (x3 + x4) (ln x2)) (
  self3 (x4 + 1) (sL h x2 (ix (x3 + x4)) (gL h x0 (ix (x1 + x4))))))
def fX9_copyLongs (x0 : Nat) (x1 : Int32) (x2 : Nat) (x3 : Int32) (h : HH) : Option (HH) :=
  lq1 (fX9_copyLongs_L3 x0 x1 x2 x3) FU 0 h
def fX9_lowest_L6 (x0 : Int64) (x2 : Int64) (x4 : Bool) (self6 : Int64 → Int64 → HH → Option (Int64 × HH)) (x5 : Int64) (x7 : Int64) (h : HH) : Option (Int64 × HH) :=
  if x7 = 0 then
    bif x4 then
      gd (!(x5 == 0)) (
      some ((x2 / x5), h))
    else
    gd (!(x5 == 0)) (
    some ((x0 / x5), h))
  else
  gd (!(x7 == 0)) (
  nm (x5 - x5 / x7 * x7) (fun y1 =>
  self6 x7 y1 h))
def fX9_lowest (x0 : Int64) (x2 : Int64) (x4 : Bool) (h : HH) : Option (Int64 × HH) :=
  lq2 (fX9_lowest_L6 x0 x2 x4) FU x0 x2 h
def fX9_feed_L23 (x0 : Nat) (x1 : Int32) (x2 : Int32) (x3 : Int32) (x4 : Int32) (x5 : Int32) (self23 : Int32 → HH → Option (Int32 × HH)) (x6 : Int32) (h : HH) : Option (Int32 × HH) :=
  if 20 ≤ x6 then
    some ((gI h x0 2), h)
  else
  if 4 ≤ x6 then
    if 8 ≤ x6 then
      if 12 ≤ x6 then
        if 16 ≤ x6 then
          gd (inb (gI h x0 2) 1000) (
          nm (sI h (x0 + 1) (ix (gI h x0 2)) ((x5 >>> (((24 : Int32) - ((8 : Int32) * (x6 - x6 / 4 * 4))) &&& 31)) &&& 255)) (fun g1 =>
          self23 (x6 + 1) (sI g1 x0 2 ((gI g1 x0 2) + 1))))
        else
        gd (inb (gI h x0 2) 1000) (
        nm (sI h (x0 + 1) (ix (gI h x0 2)) ((x4 >>> (((24 : Int32) - ((8 : Int32) * (x6 - x6 / 4 * 4))) &&& 31)) &&& 255)) (fun g2 =>
        self23 (x6 + 1) (sI g2 x0 2 ((gI g2 x0 2) + 1))))
      else
      gd (inb (gI h x0 2) 1000) (
      nm (sI h (x0 + 1) (ix (gI h x0 2)) ((x3 >>> (((24 : Int32) - ((8 : Int32) * (x6 - x6 / 4 * 4))) &&& 31)) &&& 255)) (fun g3 =>
      self23 (x6 + 1) (sI g3 x0 2 ((gI g3 x0 2) + 1))))
    else
    gd (inb (gI h x0 2) 1000) (
    nm (sI h (x0 + 1) (ix (gI h x0 2)) ((x2 >>> (((24 : Int32) - ((8 : Int32) * (x6 - x6 / 4 * 4))) &&& 31)) &&& 255)) (fun g4 =>
    self23 (x6 + 1) (sI g4 x0 2 ((gI g4 x0 2) + 1))))
  else
  gd (inb (gI h x0 2) 1000) (
  nm (sI h (x0 + 1) (ix (gI h x0 2)) ((x1 >>> (((24 : Int32) - ((8 : Int32) * (x6 - x6 / 4 * 4))) &&& 31)) &&& 255)) (fun g5 =>
  self23 (x6 + 1) (sI g5 x0 2 ((gI g5 x0 2) + 1))))
def fX9_feed (x0 : Nat) (x1 : Int32) (x2 : Int32) (x3 : Int32) (x4 : Int32) (x5 : Int32) (h : HH) : Option (Int32 × HH) :=
  if ((gI (sI h x0 0 0) x0 2) + 20) ≤ 1000 then
    lq1 (fX9_feed_L23 x0 x1 x2 x3 x4 x5) FU 0 (sI h x0 0 0)
  else
  some ((-1), (sI h x0 0 0))
def fX9_look (x0 : Nat) (x1 : Int32) (h : HH) : Option (Int32 × HH) :=
  if (gI h x0 3) ≤ x1 then
    some ((-1), h)
  else
  gd (inb x1 1000) (
  some ((gI h (x0 + 1) (ix x1)), h))
def fX9_isSmall (x0 : Int32) (h : HH) : Option (Bool × HH) :=
  if x0 < 97 then
    some (false, h)
  else
  if 122 < x0 then
    some (false, h)
  else
  some (true, h)
def fX9_isDigit (x0 : Int32) (h : HH) : Option (Bool × HH) :=
  if x0 < 48 then
    some (false, h)
  else
  if 57 < x0 then
    some (false, h)
  else
  some (true, h)
def fX9_next_L5 (k5_21 : Int32 → HH → Option (HH)) (x0 : Nat) (self5 : Int32 → HH → Option (HH)) (x1 : Int32) (h : HH) : Option (HH) :=
  bd (fX9_look x0 x1 h) (fun r7 h7 =>
  if r7 = 32 then
    self5 (x1 + 1) h7
  else
  k5_21 x1 h7)
def fX9_next_L152 (k152_197 : Int32 → Int32 → HH → Option (HH)) (x0 : Nat) (self152 : Int32 → Int32 → HH → Option (HH)) (x1 : Int32) (x3 : Int32) (h : HH) : Option (HH) :=
  bd (fX9_look x0 x1 h) (fun r154 h154 =>
  bd (fX9_isDigit r154 h154) (fun r157 h157 =>
  bif r157 then
    if 4 ≤ x3 then
      self152 (x1 + 1) (x3 + 1) h157
    else
    bd (fX9_look x0 x1 h157) (fun r178 h178 =>
    self152 (x1 + 1) (x3 + 1) (sI h178 x0 7 ((((10 : Int32) * (gI h157 x0 7)) + r178) - 48)))
  else
  k152_197 x1 x3 h157))
def fX9_next_L67 (k67_117 : Int32 → HH → Option (HH)) (x0 : Nat) (self67 : Int32 → HH → Option (HH)) (x1 : Int32) (h : HH) : Option (HH) :=
  bd (fX9_look x0 x1 h) (fun r69 h69 =>
  bd (fX9_isSmall r69 h69) (fun r72 h72 =>
  bif r72 then
    if 8 ≤ (gI h72 x0 8) then
      self67 (x1 + 1) (sI h72 x0 8 ((gI h72 x0 8) + 1))
    else
    bd (fX9_look x0 x1 h72) (fun r97 h97 =>
    gd (inb (gI h72 x0 8) 8) (
    nm (sI (sI h97 (x0 + 2) (ix (gI h72 x0 8)) r97) x0 8 ((gI (sI h97 (x0 + 2) (ix (gI h72 x0 8)) r97) x0 8) + 1)) (fun g8 =>
    self67 (x1 + 1) g8)))
  else
  k67_117 x1 h72))
def fX9_next (x0 : Nat) (h : HH) : Option (HH) :=
  nm (gI h x0 5) (fun y1 =>
  lq1 (fX9_next_L5 (fun x1 h =>
    bd (fX9_look x0 x1 (sI h x0 4 x1)) (fun r28 h28 =>
    nm (sI (sI h28 x0 8 0) x0 7 0) (fun g2 =>
    if r28 = (-1) then
      nm (sI (sI g2 x0 6 0) x0 5 x1) (fun g11 =>
      some g11)
    else
    bd (fX9_isSmall r28 g2) (fun r61 h61 =>
    bif r61 then
      lq1 (fX9_next_L67 (fun x1 h =>
        if (gI (sI h x0 5 x1) x0 8) ≤ 8 then
          nm (sI (sI h x0 5 x1) x0 6 2) (fun g9 =>
          some g9)
        else
        nm (sI (sI h x0 5 x1) x0 6 1) (fun g10 =>
        some g10)) x0) FU x1 h61
    else
    bd (fX9_isDigit r28 h61) (fun r144 h144 =>
    bif r144 then
      lq2 (fX9_next_L152 (fun x1 x3 h =>
        if x3 ≤ 4 then
          nm (sI (sI h x0 5 x1) x0 6 3) (fun g6 =>
          some g6)
        else
        nm (sI (sI h x0 5 x1) x0 6 1) (fun g7 =>
        some g7)) x0) FU x1 0 h144
    else
    if r28 = 59 then
      nm (sI (sI h144 x0 5 (x1 + 1)) x0 6 r28) (fun g3 =>
      some g3)
    else
    if r28 = 44 then
      nm (sI (sI h144 x0 5 (x1 + 1)) x0 6 r28) (fun g5 =>
      some g5)
    else
    nm (sI (sI h144 x0 5 (x1 + 1)) x0 6 1) (fun g4 =>
    some g4)))))) x0) FU y1 h)
def fX9_wrong (x0 : Nat) (x1 : Int32) (x2 : Int32) (h : HH) : Option (HH) :=
  if (gI h x0 13) = 0 then
    nm (sI (sI h x0 13 1) x0 9 x1) (fun g1 =>
    some (sI g1 x0 10 x2))
  else
  some h
def fX9_isWord_L32 (x0 : Nat) (x1 : Nat) (self32 : Bool → Int32 → HH → Option (Bool × HH)) (x2 : Bool) (x3 : Int32) (h : HH) : Option (Bool × HH) :=
  if (gI h x0 8) ≤ x3 then
    some (x2, h)
  else
  bif x2 then
    gd (inb x3 8) (
    bd (fJ0_charAt_5068e x1 x3 h) (fun r52 h52 =>
    if (gI h (x0 + 2) (ix x3)) = r52 then
      self32 true (x3 + 1) h52
    else
    self32 false (x3 + 1) h52))
  else
  self32 false (x3 + 1) h
def fX9_isWord (x0 : Nat) (x1 : Nat) (h : HH) : Option (Bool × HH) :=
  if (gI h x0 13) = 0 then
    if (gI h x0 6) = 2 then
      bd (fJ0_length_8abf5 x1 h) (fun r20 h20 =>
      if (gI h x0 8) = r20 then
        lq2 (fX9_isWord_L32 x0 x1) FU true 0 h20
      else
      some (false, h20))
    else
    some (false, h)
  else
  some (false, h)
def fX9_takesWord (x0 : Nat) (x1 : Nat) (h : HH) : Option (Bool × HH) :=
  bd (fX9_isWord x0 x1 h) (fun r2 h2 =>
  bif r2 then
    bv (fX9_next x0 h2) (fun h11 =>
    some (true, h11))
  else
  some (false, h2))
def fX9_must (x0 : Nat) (x1 : Nat) (h : HH) : Option (HH) :=
  if (gI h x0 13) = 0 then
    bd (fX9_takesWord x0 x1 h) (fun r9 h9 =>
    bif r9 then
      some h9
    else
    bv (fX9_wrong x0 1 (gI h9 x0 4) h9) (fun h21 =>
    some h21))
  else
  some h
def fX9_mustName (x0 : Nat) (h : HH) : Option (HH) :=
  bd (fX9_isWord x0 29 h) (fun r3 h3 =>
  bif r3 then
    if (gI h3 x0 6) = 2 then
      bv (fX9_wrong x0 1 (gI h3 x0 4) h3) (fun h132 =>
      some h132)
    else
    bv (fX9_wrong x0 1 (gI h3 x0 4) h3) (fun h132 =>
    some h132)
  else
  bd (fX9_isWord x0 33 h3) (fun r12 h12 =>
  bif r12 then
    if (gI h12 x0 6) = 2 then
      bv (fX9_wrong x0 1 (gI h12 x0 4) h12) (fun h132 =>
      some h132)
    else
    bv (fX9_wrong x0 1 (gI h12 x0 4) h12) (fun h132 =>
    some h132)
  else
  bd (fX9_isWord x0 34 h12) (fun r21 h21 =>
  bif r21 then
    if (gI h21 x0 6) = 2 then
      bv (fX9_wrong x0 1 (gI h21 x0 4) h21) (fun h132 =>
      some h132)
    else
    bv (fX9_wrong x0 1 (gI h21 x0 4) h21) (fun h132 =>
    some h132)
  else
  bd (fX9_isWord x0 35 h21) (fun r30 h30 =>
  bif r30 then
    if (gI h30 x0 6) = 2 then
      bv (fX9_wrong x0 1 (gI h30 x0 4) h30) (fun h132 =>
      some h132)
    else
    bv (fX9_wrong x0 1 (gI h30 x0 4) h30) (fun h132 =>
    some h132)
  else
  bd (fX9_isWord x0 36 h30) (fun r39 h39 =>
  bif r39 then
    if (gI h39 x0 6) = 2 then
      bv (fX9_wrong x0 1 (gI h39 x0 4) h39) (fun h132 =>
      some h132)
    else
    bv (fX9_wrong x0 1 (gI h39 x0 4) h39) (fun h132 =>
    some h132)
  else
  bd (fX9_isWord x0 37 h39) (fun r48 h48 =>
  bif r48 then
    if (gI h48 x0 6) = 2 then
      bv (fX9_wrong x0 1 (gI h48 x0 4) h48) (fun h132 =>
      some h132)
    else
    bv (fX9_wrong x0 1 (gI h48 x0 4) h48) (fun h132 =>
    some h132)
  else
  bd (fX9_isWord x0 38 h48) (fun r57 h57 =>
  bif r57 then
    if (gI h57 x0 6) = 2 then
      bv (fX9_wrong x0 1 (gI h57 x0 4) h57) (fun h132 =>
      some h132)
    else
    bv (fX9_wrong x0 1 (gI h57 x0 4) h57) (fun h132 =>
    some h132)
  else
  bd (fX9_isWord x0 39 h57) (fun r66 h66 =>
  bif r66 then
    if (gI h66 x0 6) = 2 then
      bv (fX9_wrong x0 1 (gI h66 x0 4) h66) (fun h132 =>
      some h132)
    else
    bv (fX9_wrong x0 1 (gI h66 x0 4) h66) (fun h132 =>
    some h132)
  else
  bd (fX9_isWord x0 40 h66) (fun r75 h75 =>
  bif r75 then
    if (gI h75 x0 6) = 2 then
      bv (fX9_wrong x0 1 (gI h75 x0 4) h75) (fun h132 =>
      some h132)
    else
    bv (fX9_wrong x0 1 (gI h75 x0 4) h75) (fun h132 =>
    some h132)
  else
  bd (fX9_isWord x0 41 h75) (fun r84 h84 =>
  bif r84 then
    if (gI h84 x0 6) = 2 then
      bv (fX9_wrong x0 1 (gI h84 x0 4) h84) (fun h132 =>
      some h132)
    else
    bv (fX9_wrong x0 1 (gI h84 x0 4) h84) (fun h132 =>
    some h132)
  else
  bd (fX9_isWord x0 42 h84) (fun r93 h93 =>
  bif r93 then
    if (gI h93 x0 6) = 2 then
      bv (fX9_wrong x0 1 (gI h93 x0 4) h93) (fun h132 =>
      some h132)
    else
    bv (fX9_wrong x0 1 (gI h93 x0 4) h93) (fun h132 =>
    some h132)
  else
  bd (fX9_isWord x0 43 h93) (fun r102 h102 =>
  bif r102 then
    if (gI h102 x0 6) = 2 then
      bv (fX9_wrong x0 1 (gI h102 x0 4) h102) (fun h132 =>
      some h132)
    else
    bv (fX9_wrong x0 1 (gI h102 x0 4) h102) (fun h132 =>
    some h132)
  else
  if (gI h102 x0 6) = 2 then
    some h102
  else
  bv (fX9_wrong x0 1 (gI h102 x0 4) h102) (fun h132 =>
  some h132)))))))))))))
def fX9_find_L46 (k46_94 : Bool → HH → Option (Int32 × HH)) (x0 : Nat) (x1 : Int32) (self46 : Bool → Int32 → HH → Option (Int32 × HH)) (x2 : Bool) (x3 : Int32) (h : HH) : Option (Int32 × HH) :=
  if (gI h x0 8) ≤ x3 then
    k46_94 x2 h
  else
  bif x2 then
    gd (inb (((204 : Int32) + ((8 : Int32) * x1)) + x3) 316) (
    gd (inb x3 8) (
    if (gI h (x0 + 4) (ix (((204 : Int32) + ((8 : Int32) * x1)) + x3))) = (gI h (x0 + 2) (ix x3)) then
      self46 true (x3 + 1) h
    else
    self46 false (x3 + 1) h))
  else
  k46_94 x2 h
def fX9_find_L2 (x0 : Nat) (self2 : Int32 → HH → Option (Int32 × HH)) (x1 : Int32) (h : HH) : Option (Int32 × HH) :=
  if 14 ≤ x1 then
    some ((-1), h)
  else
  gd (inb ((190 : Int32) + x1) 316) (
  if (gI h (x0 + 4) (ix ((190 : Int32) + x1))) ≤ 0 then
    lq2 (fX9_find_L46 (fun x2 h =>
      bif x2 then
        some (x1, h)
      else
      self2 (x1 + 1) h) x0 x1) FU false 0 h
  else
  gd (inb ((190 : Int32) + x1) 316) (
  if (gI h (x0 + 4) (ix ((190 : Int32) + x1))) = (gI h x0 8) then
    lq2 (fX9_find_L46 (fun x2 h =>
      bif x2 then
        some (x1, h)
      else
      self2 (x1 + 1) h) x0 x1) FU true 0 h
  else
  lq2 (fX9_find_L46 (fun x2 h =>
    bif x2 then
      some (x1, h)
    else
    self2 (x1 + 1) h) x0 x1) FU false 0 h))
def fX9_find (x0 : Nat) (h : HH) : Option (Int32 × HH) :=
  lq1 (fX9_find_L2 x0) FU 0 h
def fX9_newName_L45 (x0 : Nat) (x1 : Int32) (self45 : Int32 → HH → Option (HH)) (x2 : Int32) (h : HH) : Option (HH) :=
  if (gI h x0 8) ≤ x2 then
    gd (inb ((190 : Int32) + x1) 316) (
    bv (fX9_next x0 (sI h (x0 + 4) (ix ((190 : Int32) + x1)) (gI h x0 8))) (fun h95 =>
    some h95))
  else
  gd (inb x2 8) (
  gd (inb (((204 : Int32) + ((8 : Int32) * x1)) + x2) 316) (
  self45 (x2 + 1) (sI h (x0 + 4) (ix (((204 : Int32) + ((8 : Int32) * x1)) + x2)) (gI h (x0 + 2) (ix x2)))))
def fX9_newName (x0 : Nat) (x1 : Int32) (h : HH) : Option (HH) :=
  if (gI h x0 13) = 0 then
    bv (fX9_mustName x0 h) (fun h9 =>
    if (gI h9 x0 13) = 0 then
      bd (fX9_find x0 h9) (fun r20 h20 =>
      if r20 < 0 then
        if (gI h20 x0 13) = 0 then
          lq1 (fX9_newName_L45 x0 x1) FU 0 h20
        else
        some h20
      else
      bv (fX9_wrong x0 3 (gI h20 x0 4) h20) (fun h32 =>
      if (gI h32 x0 13) = 0 then
        lq1 (fX9_newName_L45 x0 x1) FU 0 h32
      else
      some h32))
    else
    if (gI h9 x0 13) = 0 then
      lq1 (fX9_newName_L45 x0 x1) FU 0 h9
    else
    some h9)
  else
  some h
def fX9_named (x0 : Nat) (x1 : Int32) (x2 : Int32) (h : HH) : Option (Int32 × HH) :=
  if (gI h x0 13) = 0 then
    bv (fX9_mustName x0 h) (fun h10 =>
    if (gI h10 x0 13) = 0 then
      bd (fX9_find x0 h10) (fun r23 h23 =>
      bd (fX9_within r23 x1 x2 h23) (fun r30 h30 =>
      bif r30 then
        if (gI h30 x0 13) = 0 then
          some (r23, h30)
        else
        some (x1, h30)
      else
      bv (fX9_wrong x0 2 (gI h30 x0 4) h30) (fun h42 =>
      if (gI h42 x0 13) = 0 then
        some (r23, h42)
      else
      some (x1, h42))))
    else
    some (x1, h10))
  else
  some (x1, h)
def fX9_headPassed (x0 : Nat) (h : HH) : Option (Int32 × HH) :=
  bd (fX9_named x0 0 2 h) (fun r3 h3 =>
  if (gI h3 x0 13) = 0 then
    bv (fX9_next x0 h3) (fun h15 =>
    some (r3, h15))
  else
  some (r3, h3))
def fX9_sleeperHere (x0 : Nat) (h : HH) : Option (Int32 × HH) :=
  bd (fX9_named x0 3 7 h) (fun r4 h4 =>
  some ((r4 - 3), h4))
def fX9_sleeperPassed (x0 : Nat) (h : HH) : Option (Int32 × HH) :=
  bd (fX9_sleeperHere x0 h) (fun r1 h1 =>
  if (gI h1 x0 13) = 0 then
    bv (fX9_next x0 h1) (fun h13 =>
    some (r1, h13))
  else
  some (r1, h1))
def fX9_numberHere (x0 : Nat) (x1 : Int32) (x2 : Int32) (h : HH) : Option (Int32 × HH) :=
  if (gI h x0 13) = 0 then
    if (gI h x0 6) = 3 then
      bd (fX9_within (gI h x0 7) x1 x2 h) (fun r35 h35 =>
      bif r35 then
        if (gI h35 x0 13) = 0 then
          some ((gI h35 x0 7), h35)
        else
        some (x1, h35)
      else
      bv (fX9_wrong x0 4 (gI h35 x0 4) h35) (fun h47 =>
      if (gI h47 x0 13) = 0 then
        some ((gI h47 x0 7), h47)
      else
      some (x1, h47)))
    else
    bv (fX9_wrong x0 1 (gI h x0 4) h) (fun h23 =>
    if (gI h23 x0 13) = 0 then
      some ((gI h23 x0 7), h23)
    else
    some (x1, h23))
  else
  some (x1, h)
def fX9_number (x0 : Nat) (x1 : Int32) (x2 : Int32) (h : HH) : Option (Int32 × HH) :=
  bd (fX9_numberHere x0 x1 x2 h) (fun r3 h3 =>
  if (gI h3 x0 13) = 0 then
    bv (fX9_next x0 h3) (fun h15 =>
    some (r3, h15))
  else
  some (r3, h3))
def fX9_after (x0 : Nat) (x1 : Nat) (x2 : Int32) (x3 : Int32) (h : HH) : Option (Int32 × HH) :=
  bv (fX9_must x0 x1 h) (fun h2 =>
  bd (fX9_number x0 x2 x3 h2) (fun r8 h8 =>
  some (r8, h8)))
def fX9_comma (x0 : Nat) (h : HH) : Option (Bool × HH) :=
  if (gI h x0 13) = 0 then
    if (gI h x0 6) = 44 then
      bv (fX9_next x0 h) (fun h19 =>
      some (true, h19))
    else
    some (false, h)
  else
  some (false, h)
def fX9_dreamLine_b87 (self49 : Bool → HH → Option (HH)) (x0 : Nat) (x2 : Int32) (h : HH) : Option (HH) :=
  if (gI h x0 13) = 0 then
    gd (inb 0 316) (
    gd (inb ((11 : Int32) + (gI h (x0 + 4) (ix 0))) 316) (
    gd (inb 0 316) (
    gd (inb 0 316) (
    nm (sI (sI h (x0 + 4) (ix ((11 : Int32) + (gI h (x0 + 4) (ix 0)))) x2) (x0 + 4) (ix 0) ((gI (sI h (x0 + 4) (ix ((11 : Int32) + (gI h (x0 + 4) (ix 0)))) x2) (x0 + 4) (ix 0)) + 1)) (fun g2 =>
    bv (fX9_next x0 g2) (fun h121 =>
    bd (fX9_comma x0 h121) (fun r125 h125 =>
    self49 r125 h125)))))))
  else
  some h
def fX9_dreamLine_L49 (k49_132 : HH → Option (HH)) (x0 : Nat) (self49 : Bool → HH → Option (HH)) (x1 : Bool) (h : HH) : Option (HH) :=
  bif x1 then
    bd (fX9_numberHere x0 2 12 h) (fun r57 h57 =>
    if (gI h57 x0 13) = 0 then
      gd (inb 0 316) (
      if (gI h57 (x0 + 4) (ix 0)) = 4 then
        bv (fX9_wrong x0 5 (gI h57 x0 4) h57) (fun h84 =>
        fX9_dreamLine_b87 self49 x0 r57 h84)
      else
      fX9_dreamLine_b87 self49 x0 r57 h57)
    else
    fX9_dreamLine_b87 self49 x0 r57 h57)
  else
  k49_132  h
def fX9_dreamLine (x0 : Nat) (h : HH) : Option (HH) :=
  gd (inb 2 316) (
  if (gI h (x0 + 4) (ix 2)) ≤ 0 then
    if (gI h x0 13) = 0 then
      bv (fX9_next x0 h) (fun h27 =>
      bv (fX9_must x0 30 h27) (fun h33 =>
      if (gI h33 x0 13) = 0 then
        lq1 (fX9_dreamLine_L49 (fun  h =>
          bd (fX9_after x0 31 0 60 h) (fun r144 h144 =>
          gd (inb 1 316) (
          bd (fX9_after x0 32 1 600 (sI h144 (x0 + 4) (ix 1) r144)) (fun r156 h156 =>
          if (gI h156 x0 13) = 0 then
            gd (inb 2 316) (
            some (sI h156 (x0 + 4) (ix 2) r156))
          else
          some h156)))) x0) FU true h33
      else
      lq1 (fX9_dreamLine_L49 (fun  h =>
        bd (fX9_after x0 31 0 60 h) (fun r144 h144 =>
        gd (inb 1 316) (
        bd (fX9_after x0 32 1 600 (sI h144 (x0 + 4) (ix 1) r144)) (fun r156 h156 =>
        if (gI h156 x0 13) = 0 then
          gd (inb 2 316) (
          some (sI h156 (x0 + 4) (ix 2) r156))
        else
        some h156)))) x0) FU false h33))
    else
    some h
  else
  bv (fX9_wrong x0 3 (gI h x0 4) h) (fun h15 =>
  if (gI h15 x0 13) = 0 then
    bv (fX9_next x0 h15) (fun h27 =>
    bv (fX9_must x0 30 h27) (fun h33 =>
    if (gI h33 x0 13) = 0 then
      lq1 (fX9_dreamLine_L49 (fun  h =>
        bd (fX9_after x0 31 0 60 h) (fun r144 h144 =>
        gd (inb 1 316) (
        bd (fX9_after x0 32 1 600 (sI h144 (x0 + 4) (ix 1) r144)) (fun r156 h156 =>
        if (gI h156 x0 13) = 0 then
          gd (inb 2 316) (
          some (sI h156 (x0 + 4) (ix 2) r156))
        else
        some h156)))) x0) FU true h33
    else
    lq1 (fX9_dreamLine_L49 (fun  h =>
      bd (fX9_after x0 31 0 60 h) (fun r144 h144 =>
      gd (inb 1 316) (
      bd (fX9_after x0 32 1 600 (sI h144 (x0 + 4) (ix 1) r144)) (fun r156 h156 =>
      if (gI h156 x0 13) = 0 then
        gd (inb 2 316) (
        some (sI h156 (x0 + 4) (ix 2) r156))
      else
      some h156)))) x0) FU false h33))
  else
  some h15))
def fX9_begins_b23 (x0 : Nat) (h : HH) : Option (Bool × HH) :=
  gd (inb 2 316) (
  if (gI h (x0 + 4) (ix 2)) = 0 then
    bv (fX9_wrong x0 6 (gI h x0 4) h) (fun h39 =>
    if (gI h39 x0 13) = 0 then
      bv (fX9_next x0 h39) (fun h50 =>
      some (true, h50))
    else
    some (true, h39))
  else
  if (gI h x0 13) = 0 then
    bv (fX9_next x0 h) (fun h50 =>
    some (true, h50))
  else
  some (true, h))
def fX9_begins (x0 : Nat) (x1 : Nat) (x2 : Bool) (h : HH) : Option (Bool × HH) :=
  bd (fX9_isWord x0 x1 h) (fun r2 h2 =>
  bif r2 then
    bif x2 then
      fX9_begins_b23 x0 h2
    else
    bv (fX9_wrong x0 5 (gI h2 x0 4) h2) (fun h20 =>
    fX9_begins_b23 x0 h20)
  else
  some (false, h2))
def fX9_headLine (x0 : Nat) (h : HH) : Option (HH) :=
  if (gI h x0 13) = 0 then
    gd (inb 3 316) (
    bv (fX9_newName x0 (gI h (x0 + 4) (ix 3)) h) (fun h15 =>
    if (gI h15 x0 13) = 0 then
      gd (inb 3 316) (
      gd (inb 3 316) (
      some (sI h15 (x0 + 4) (ix 3) ((gI h15 (x0 + 4) (ix 3)) + 1))))
    else
    some h15))
  else
  some h
def fX9_sleeperLine_b100 (x0 : Nat) (x2 : Int32) (x3 : Int32) (h : HH) : Option (HH) :=
  if (gI h x0 13) = 0 then
    bv (fX9_next x0 h) (fun h109 =>
    gd (inb (x2 + 0) 316) (
    bd (fX9_after x0 48 1 9999 (sI h109 (x0 + 4) (ix (x2 + 0)) x3)) (fun r136 h136 =>
    gd (inb (x2 + 1) 316) (
    bd (fX9_after x0 49 0 999 (sI h136 (x0 + 4) (ix (x2 + 1)) r136)) (fun r155 h155 =>
    gd (inb (x2 + 2) 316) (
    bd (fX9_after x0 50 0 100 (sI h155 (x0 + 4) (ix (x2 + 2)) r155)) (fun r173 h173 =>
    gd (inb (x2 + 3) 316) (
    gd (inb (x2 + 4) 316) (
    nm (sI (sI h173 (x0 + 4) (ix (x2 + 3)) r173) (x0 + 4) (ix (x2 + 4)) 0) (fun g3 =>
    if (gI g3 x0 13) = 0 then
      gd (inb 4 316) (
      gd (inb 4 316) (
      some (sI g3 (x0 + 4) (ix 4) ((gI g3 (x0 + 4) (ix 4)) + 1))))
    else
    some g3))))))))))
  else
  some h
def fX9_sleeperLine_b86 (x0 : Nat) (x2 : Int32) (s0 : Int32) (h : HH) : Option (HH) :=
  if 0 ≤ s0 then
    fX9_sleeperLine_b100 x0 x2 s0 h
  else
  bv (fX9_wrong x0 1 (gI h x0 4) h) (fun h97 =>
  fX9_sleeperLine_b100 x0 x2 s0 h97)
def fX9_sleeperLine (x0 : Nat) (h : HH) : Option (HH) :=
  if (gI h x0 13) = 0 then
    gd (inb 4 316) (
    nm (gI h (x0 + 4) (ix 4)) (fun y1 =>
    nm ((15 : Int32) + ((5 : Int32) * y1)) (fun y2 =>
    bv (fX9_newName x0 ((3 : Int32) + y1) h) (fun h26 =>
    bd (fX9_isWord x0 44 h26) (fun r33 h33 =>
    bif r33 then
      fX9_sleeperLine_b86 x0 y2 0 h33
    else
    bd (fX9_isWord x0 45 h33) (fun r47 h47 =>
    bif r47 then
      fX9_sleeperLine_b86 x0 y2 1 h47
    else
    bd (fX9_isWord x0 46 h47) (fun r61 h61 =>
    bif r61 then
      fX9_sleeperLine_b86 x0 y2 2 h61
    else
    bd (fX9_isWord x0 47 h61) (fun r75 h75 =>
    bif r75 then
      fX9_sleeperLine_b86 x0 y2 3 h75
    else
    fX9_sleeperLine_b86 x0 y2 (-1) h75))))))))
  else
  some h
def fX9_stepLine (x0 : Nat) (x1 : Bool) (h : HH) : Option (HH) :=
  if (gI h x0 13) = 0 then
    gd (inb 5 316) (
    nm ((40 : Int32) + ((3 : Int32) * (gI h (x0 + 4) (ix 5)))) (fun y1 =>
    bd (fX9_sleeperPassed x0 h) (fun r26 h26 =>
    gd (inb y1 316) (
    bif x1 then
      bd (fX9_headPassed x0 (sI h26 (x0 + 4) (ix y1) r26)) (fun r42 h42 =>
      gd (inb (y1 + 1) 316) (
      bd (fX9_after x0 51 0 999 (sI h42 (x0 + 4) (ix (y1 + 1)) (r42 + 1))) (fun r67 h67 =>
      gd (inb (y1 + 2) 316) (
      if (gI (sI h67 (x0 + 4) (ix (y1 + 2)) r67) x0 13) = 0 then
        gd (inb 5 316) (
        gd (inb 5 316) (
        nm (sI (sI h67 (x0 + 4) (ix (y1 + 2)) r67) (x0 + 4) (ix 5) ((gI (sI h67 (x0 + 4) (ix (y1 + 2)) r67) (x0 + 4) (ix 5)) + 1)) (fun g4 =>
        some g4)))
      else
      some (sI h67 (x0 + 4) (ix (y1 + 2)) r67)))))
    else
    gd (inb (y1 + 1) 316) (
    nm (sI (sI h26 (x0 + 4) (ix y1) r26) (x0 + 4) (ix (y1 + 1)) 0) (fun g2 =>
    bd (fX9_after x0 51 0 999 g2) (fun r67 h67 =>
    gd (inb (y1 + 2) 316) (
    if (gI (sI h67 (x0 + 4) (ix (y1 + 2)) r67) x0 13) = 0 then
      gd (inb 5 316) (
      gd (inb 5 316) (
      nm (sI (sI h67 (x0 + 4) (ix (y1 + 2)) r67) (x0 + 4) (ix 5) ((gI (sI h67 (x0 + 4) (ix (y1 + 2)) r67) (x0 + 4) (ix 5)) + 1)) (fun g3 =>
      some g3)))
    else
    some (sI h67 (x0 + 4) (ix (y1 + 2)) r67)))))))))
  else
  some h
def fX9_knockLine (x0 : Nat) (h : HH) : Option (HH) :=
  if (gI h x0 13) = 0 then
    gd (inb 6 316) (
    nm ((100 : Int32) + ((4 : Int32) * (gI h (x0 + 4) (ix 6)))) (fun y1 =>
    bd (fX9_headPassed x0 h) (fun r27 h27 =>
    gd (inb y1 316) (
    gd (inb 0 316) (
    bd (fX9_after x0 52 0 ((gI (sI h27 (x0 + 4) (ix y1) r27) (x0 + 4) (ix 0)) - 1) (sI h27 (x0 + 4) (ix y1) r27)) (fun r51 h51 =>
    gd (inb (y1 + 1) 316) (
    gd (inb 2 316) (
    bd (fX9_after x0 53 0 (gI (sI h51 (x0 + 4) (ix (y1 + 1)) r51) (x0 + 4) (ix 2)) (sI h51 (x0 + 4) (ix (y1 + 1)) r51)) (fun r73 h73 =>
    gd (inb (y1 + 2) 316) (
    bd (fX9_after x0 54 1 99 (sI h73 (x0 + 4) (ix (y1 + 2)) r73)) (fun r91 h91 =>
    gd (inb (y1 + 3) 316) (
    if (gI (sI h91 (x0 + 4) (ix (y1 + 3)) r91) x0 13) = 0 then
      gd (inb 6 316) (
      gd (inb 6 316) (
      nm (sI (sI h91 (x0 + 4) (ix (y1 + 3)) r91) (x0 + 4) (ix 6) ((gI (sI h91 (x0 + 4) (ix (y1 + 3)) r91) (x0 + 4) (ix 6)) + 1)) (fun g2 =>
      some g2)))
    else
    some (sI h91 (x0 + 4) (ix (y1 + 3)) r91)))))))))))))
  else
  some h
def fX9_taskLine (x0 : Nat) (h : HH) : Option (HH) :=
  if (gI h x0 13) = 0 then
    gd (inb 7 316) (
    nm ((132 : Int32) + ((3 : Int32) * (gI h (x0 + 4) (ix 7)))) (fun y1 =>
    gd (inb 7 316) (
    bv (fX9_newName x0 ((8 : Int32) + (gI h (x0 + 4) (ix 7))) h) (fun h33 =>
    gd (inb 0 316) (
    bd (fX9_after x0 52 0 (gI h33 (x0 + 4) (ix 0)) h33) (fun r52 h52 =>
    gd (inb y1 316) (
    bd (fX9_after x0 55 1 999 (sI h52 (x0 + 4) (ix y1) r52)) (fun r71 h71 =>
    gd (inb (y1 + 1) 316) (
    bd (fX9_after x0 56 0 99 (sI h71 (x0 + 4) (ix (y1 + 1)) r71)) (fun r89 h89 =>
    gd (inb (y1 + 2) 316) (
    if (gI (sI h89 (x0 + 4) (ix (y1 + 2)) r89) x0 13) = 0 then
      gd (inb 7 316) (
      gd (inb 7 316) (
      nm (sI (sI h89 (x0 + 4) (ix (y1 + 2)) r89) (x0 + 4) (ix 7) ((gI (sI h89 (x0 + 4) (ix (y1 + 2)) r89) (x0 + 4) (ix 7)) + 1)) (fun g2 =>
      some g2)))
    else
    some (sI h89 (x0 + 4) (ix (y1 + 2)) r89))))))))))))
  else
  some h
def fX9_paysLine_L55 (k55_128 : Int32 → HH → Option (HH)) (x0 : Nat) (self55 : Int32 → Bool → HH → Option (HH)) (x1 : Int32) (x2 : Bool) (h : HH) : Option (HH) :=
  bif x2 then
    bd (fX9_numberHere x0 0 999 h) (fun r64 h64 =>
    if (gI h64 x0 13) = 0 then
      gd (inb 0 316) (
      if x1 = (gI h64 (x0 + 4) (ix 0)) then
        bv (fX9_wrong x0 5 (gI h64 x0 4) h64) (fun h91 =>
        if (gI h91 x0 13) = 0 then
          gd (inb ((150 : Int32) + x1) 316) (
          bv (fX9_next x0 (sI h91 (x0 + 4) (ix ((150 : Int32) + x1)) r64)) (fun h117 =>
          bd (fX9_comma x0 h117) (fun r121 h121 =>
          self55 (x1 + 1) r121 h121)))
        else
        some h91)
      else
      if (gI h64 x0 13) = 0 then
        gd (inb ((150 : Int32) + x1) 316) (
        bv (fX9_next x0 (sI h64 (x0 + 4) (ix ((150 : Int32) + x1)) r64)) (fun h117 =>
        bd (fX9_comma x0 h117) (fun r121 h121 =>
        self55 (x1 + 1) r121 h121)))
      else
      some h64)
    else
    if (gI h64 x0 13) = 0 then
      gd (inb ((150 : Int32) + x1) 316) (
      bv (fX9_next x0 (sI h64 (x0 + 4) (ix ((150 : Int32) + x1)) r64)) (fun h117 =>
      bd (fX9_comma x0 h117) (fun r121 h121 =>
      self55 (x1 + 1) r121 h121)))
    else
    some h64)
  else
  k55_128 x1 h
def fX9_paysLine_b20 (x0 : Nat) (h : HH) : Option (HH) :=
  gd (inb 2 316) (
  if (gI h (x0 + 4) (ix 2)) = 0 then
    bv (fX9_wrong x0 6 (gI h x0 4) h) (fun h36 =>
    if (gI h36 x0 13) = 0 then
      bv (fX9_next x0 h36) (fun h48 =>
      lq2 (fX9_paysLine_L55 (fun x1 h =>
        if (gI h x0 13) = 0 then
          gd (inb 0 316) (
          if (gI h (x0 + 4) (ix 0)) ≤ x1 then
            if (gI h x0 13) = 0 then
              gd (inb 10 316) (
              some (sI h (x0 + 4) (ix 10) 1))
            else
            some h
          else
          if (gI h x0 6) = 59 then
            bv (fX9_wrong x0 6 (gI h x0 4) h) (fun h172 =>
            if (gI h172 x0 13) = 0 then
              gd (inb 10 316) (
              some (sI h172 (x0 + 4) (ix 10) 1))
            else
            some h172)
          else
          if (gI h x0 6) = 0 then
            bv (fX9_wrong x0 6 (gI h x0 4) h) (fun h172 =>
            if (gI h172 x0 13) = 0 then
              gd (inb 10 316) (
              some (sI h172 (x0 + 4) (ix 10) 1))
            else
            some h172)
          else
          bv (fX9_wrong x0 1 (gI h x0 4) h) (fun h172 =>
          if (gI h172 x0 13) = 0 then
            gd (inb 10 316) (
            some (sI h172 (x0 + 4) (ix 10) 1))
          else
          some h172))
        else
        if (gI h x0 13) = 0 then
          gd (inb 10 316) (
          some (sI h (x0 + 4) (ix 10) 1))
        else
        some h) x0) FU 0 true h48)
    else
    some h36)
  else
  if (gI h x0 13) = 0 then
    bv (fX9_next x0 h) (fun h48 =>
    lq2 (fX9_paysLine_L55 (fun x1 h =>
      if (gI h x0 13) = 0 then
        gd (inb 0 316) (
        if (gI h (x0 + 4) (ix 0)) ≤ x1 then
          if (gI h x0 13) = 0 then
            gd (inb 10 316) (
            some (sI h (x0 + 4) (ix 10) 1))
          else
          some h
        else
        if (gI h x0 6) = 59 then
          bv (fX9_wrong x0 6 (gI h x0 4) h) (fun h172 =>
          if (gI h172 x0 13) = 0 then
            gd (inb 10 316) (
            some (sI h172 (x0 + 4) (ix 10) 1))
          else
          some h172)
        else
        if (gI h x0 6) = 0 then
          bv (fX9_wrong x0 6 (gI h x0 4) h) (fun h172 =>
          if (gI h172 x0 13) = 0 then
            gd (inb 10 316) (
            some (sI h172 (x0 + 4) (ix 10) 1))
          else
          some h172)
        else
        bv (fX9_wrong x0 1 (gI h x0 4) h) (fun h172 =>
        if (gI h172 x0 13) = 0 then
          gd (inb 10 316) (
          some (sI h172 (x0 + 4) (ix 10) 1))
        else
        some h172))
      else
      if (gI h x0 13) = 0 then
        gd (inb 10 316) (
        some (sI h (x0 + 4) (ix 10) 1))
      else
      some h) x0) FU 0 true h48)
  else
  some h)
def fX9_paysLine (x0 : Nat) (h : HH) : Option (HH) :=
  gd (inb 10 316) (
  if (gI h (x0 + 4) (ix 10)) = 1 then
    bv (fX9_wrong x0 3 (gI h x0 4) h) (fun h17 =>
    fX9_paysLine_b20 x0 h17)
  else
  fX9_paysLine_b20 x0 h)
def fX9_thinksLine (x0 : Nat) (h : HH) : Option (HH) :=
  if (gI h x0 13) = 0 then
    bd (fX9_sleeperHere x0 h) (fun r9 h9 =>
    nm (((15 : Int32) + ((5 : Int32) * r9)) + 4) (fun y1 =>
    if (gI h9 x0 13) = 0 then
      gd (inb y1 316) (
      if (gI h9 (x0 + 4) (ix y1)) ≤ 0 then
        if (gI h9 x0 13) = 0 then
          bv (fX9_next x0 h9) (fun h56 =>
          bd (fX9_number x0 0 4 h56) (fun r62 h62 =>
          if (gI h62 x0 13) = 0 then
            gd (inb y1 316) (
            some (sI h62 (x0 + 4) (ix y1) (r62 + 1)))
          else
          some h62))
        else
        some h9
      else
      bv (fX9_wrong x0 3 (gI h9 x0 4) h9) (fun h44 =>
      if (gI h44 x0 13) = 0 then
        bv (fX9_next x0 h44) (fun h56 =>
        bd (fX9_number x0 0 4 h56) (fun r62 h62 =>
        if (gI h62 x0 13) = 0 then
          gd (inb y1 316) (
          some (sI h62 (x0 + 4) (ix y1) (r62 + 1)))
        else
        some h62))
      else
      some h44))
    else
    if (gI h9 x0 13) = 0 then
      bv (fX9_next x0 h9) (fun h56 =>
      bd (fX9_number x0 0 4 h56) (fun r62 h62 =>
      if (gI h62 x0 13) = 0 then
        gd (inb y1 316) (
        some (sI h62 (x0 + 4) (ix y1) (r62 + 1)))
      else
      some h62))
    else
    some h9))
  else
  some h
def fX9_signLine_b58 (x0 : Nat) (x1 : Bool) (x2 : Int32) (s0 : Int32) (s3 : Int32) (s4 : Nat) (h : HH) : Option (HH) :=
  bd (fX9_number x0 1 s0 h) (fun r58 h58 =>
  gd (inb s3 (ln s4)) (
  bif x1 then
    bd (fX9_number x0 0 9999 (sI h58 s4 (ix s3) r58)) (fun r82 h82 =>
    gd (inb (x2 + 2) 316) (
    if (gI (sI h82 (x0 + 4) (ix (x2 + 2)) r82) x0 13) = 0 then
      gd (inb 8 316) (
      gd (inb 8 316) (
      nm (sI (sI h82 (x0 + 4) (ix (x2 + 2)) r82) (x0 + 4) (ix 8) ((gI (sI h82 (x0 + 4) (ix (x2 + 2)) r82) (x0 + 4) (ix 8)) + 1)) (fun g4 =>
      some g4)))
    else
    some (sI h82 (x0 + 4) (ix (x2 + 2)) r82)))
  else
  bd (fX9_number x0 1 9999 (sI h58 s4 (ix s3) r58)) (fun r82 h82 =>
  gd (inb (x2 + 2) 316) (
  if (gI (sI h82 (x0 + 4) (ix (x2 + 2)) r82) x0 13) = 0 then
    gd (inb 8 316) (
    gd (inb 8 316) (
    nm (sI (sI h82 (x0 + 4) (ix (x2 + 2)) r82) (x0 + 4) (ix 8) ((gI (sI h82 (x0 + 4) (ix (x2 + 2)) r82) (x0 + 4) (ix 8)) + 1)) (fun g3 =>
    some g3)))
  else
  some (sI h82 (x0 + 4) (ix (x2 + 2)) r82)))))
def fX9_signLine_b36 (x0 : Nat) (x1 : Bool) (x2 : Int32) (s0 : Bool) (s1 : Int32) (s2 : Nat) (h : HH) : Option (HH) :=
  gd (inb s1 (ln s2)) (
  bif x1 then
    fX9_signLine_b58 x0 x1 x2 9999 (x2 + 1) (x0 + 4) (sI h s2 (ix s1) (b2i s0))
  else
  fX9_signLine_b58 x0 x1 x2 99 (x2 + 1) (x0 + 4) (sI h s2 (ix s1) (b2i s0)))
def fX9_signLine (x0 : Nat) (x1 : Bool) (h : HH) : Option (HH) :=
  if (gI h x0 13) = 0 then
    gd (inb 8 316) (
    nm ((154 : Int32) + ((3 : Int32) * (gI h (x0 + 4) (ix 8)))) (fun y1 =>
    bif x1 then
      fX9_signLine_b36 x0 x1 y1 true y1 (x0 + 4) h
    else
    fX9_signLine_b36 x0 x1 y1 false y1 (x0 + 4) h))
  else
  some h
def fX9_didLine (x0 : Nat) (h : HH) : Option (HH) :=
  if (gI h x0 13) = 0 then
    gd (inb 9 316) (
    nm ((172 : Int32) + ((3 : Int32) * (gI h (x0 + 4) (ix 9)))) (fun y1 =>
    bd (fX9_number x0 1 9999 h) (fun r32 h32 =>
    gd (inb y1 316) (
    gd (inb 0 316) (
    bd (fX9_after x0 52 1 (gI (sI h32 (x0 + 4) (ix y1) r32) (x0 + 4) (ix 0)) (sI h32 (x0 + 4) (ix y1) r32)) (fun r54 h54 =>
    gd (inb (y1 + 1) 316) (
    bd (fX9_after x0 57 1 999 (sI h54 (x0 + 4) (ix (y1 + 1)) r54)) (fun r73 h73 =>
    gd (inb (y1 + 2) 316) (
    if (gI (sI h73 (x0 + 4) (ix (y1 + 2)) r73) x0 13) = 0 then
      gd (inb 9 316) (
      gd (inb 9 316) (
      nm (sI (sI h73 (x0 + 4) (ix (y1 + 2)) r73) (x0 + 4) (ix 9) ((gI (sI h73 (x0 + 4) (ix (y1 + 2)) r73) (x0 + 4) (ix 9)) + 1)) (fun g2 =>
      some g2)))
    else
    some (sI h73 (x0 + 4) (ix (y1 + 2)) r73))))))))))
  else
  some h
def fX9_readLine_b297 (x0 : Nat) (s0 : Bool) (h : HH) : Option (HH) :=
  bd (fX9_begins x0 42 s0 h) (fun r297 h297 =>
  bif r297 then
    bv (fX9_signLine x0 true h297) (fun h305 =>
    some h305)
  else
  gd (inb 9 316) (
  if 6 ≤ (gI h297 (x0 + 4) (ix 9)) then
    bd (fX9_begins x0 43 false h297) (fun r331 h331 =>
    bif r331 then
      bv (fX9_didLine x0 h331) (fun h338 =>
      some h338)
    else
    bv (fX9_wrong x0 1 (gI h331 x0 4) h331) (fun h350 =>
    some h350))
  else
  bd (fX9_begins x0 43 true h297) (fun r331 h331 =>
  bif r331 then
    bv (fX9_didLine x0 h331) (fun h338 =>
    some h338)
  else
  bv (fX9_wrong x0 1 (gI h331 x0 4) h331) (fun h350 =>
  some h350))))
def fX9_readLine_b263 (x0 : Nat) (s0 : Bool) (h : HH) : Option (HH) :=
  bd (fX9_begins x0 41 s0 h) (fun r263 h263 =>
  bif r263 then
    bv (fX9_signLine x0 false h263) (fun h271 =>
    some h271)
  else
  gd (inb 8 316) (
  if 6 ≤ (gI h263 (x0 + 4) (ix 8)) then
    fX9_readLine_b297 x0 false h263
  else
  fX9_readLine_b297 x0 true h263))
def fX9_readLine_b197 (x0 : Nat) (s0 : Bool) (h : HH) : Option (HH) :=
  bd (fX9_begins x0 38 s0 h) (fun r197 h197 =>
  bif r197 then
    bv (fX9_taskLine x0 h197) (fun h204 =>
    some h204)
  else
  bd (fX9_isWord x0 39 h197) (fun r213 h213 =>
  bif r213 then
    bv (fX9_paysLine x0 h213) (fun h220 =>
    some h220)
  else
  bd (fX9_begins x0 40 true h213) (fun r230 h230 =>
  bif r230 then
    bv (fX9_thinksLine x0 h230) (fun h237 =>
    some h237)
  else
  gd (inb 8 316) (
  if 6 ≤ (gI h230 (x0 + 4) (ix 8)) then
    fX9_readLine_b263 x0 false h230
  else
  fX9_readLine_b263 x0 true h230))))
def fX9_readLine_b164 (x0 : Nat) (s0 : Bool) (h : HH) : Option (HH) :=
  bd (fX9_begins x0 37 s0 h) (fun r164 h164 =>
  bif r164 then
    bv (fX9_knockLine x0 h164) (fun h171 =>
    some h171)
  else
  gd (inb 7 316) (
  if 6 ≤ (gI h164 (x0 + 4) (ix 7)) then
    fX9_readLine_b197 x0 false h164
  else
  fX9_readLine_b197 x0 true h164))
def fX9_readLine_b130 (x0 : Nat) (s0 : Bool) (h : HH) : Option (HH) :=
  bd (fX9_begins x0 36 s0 h) (fun r130 h130 =>
  bif r130 then
    bv (fX9_stepLine x0 false h130) (fun h138 =>
    some h138)
  else
  gd (inb 6 316) (
  if 8 ≤ (gI h130 (x0 + 4) (ix 6)) then
    fX9_readLine_b164 x0 false h130
  else
  fX9_readLine_b164 x0 true h130))
def fX9_readLine_b97 (x0 : Nat) (s0 : Bool) (h : HH) : Option (HH) :=
  bd (fX9_begins x0 35 s0 h) (fun r97 h97 =>
  bif r97 then
    bv (fX9_stepLine x0 true h97) (fun h105 =>
    some h105)
  else
  gd (inb 5 316) (
  if 20 ≤ (gI h97 (x0 + 4) (ix 5)) then
    fX9_readLine_b130 x0 false h97
  else
  fX9_readLine_b130 x0 true h97))
def fX9_readLine_b65 (x0 : Nat) (s0 : Bool) (h : HH) : Option (HH) :=
  bd (fX9_begins x0 34 s0 h) (fun r65 h65 =>
  bif r65 then
    bv (fX9_sleeperLine x0 h65) (fun h72 =>
    some h72)
  else
  gd (inb 5 316) (
  if 20 ≤ (gI h65 (x0 + 4) (ix 5)) then
    fX9_readLine_b97 x0 false h65
  else
  fX9_readLine_b97 x0 true h65))
def fX9_readLine_b34 (x0 : Nat) (s0 : Bool) (h : HH) : Option (HH) :=
  bd (fX9_begins x0 33 s0 h) (fun r34 h34 =>
  bif r34 then
    bv (fX9_headLine x0 h34) (fun h41 =>
    some h41)
  else
  gd (inb 4 316) (
  if 5 ≤ (gI h34 (x0 + 4) (ix 4)) then
    fX9_readLine_b65 x0 false h34
  else
  fX9_readLine_b65 x0 true h34))
def fX9_readLine (x0 : Nat) (h : HH) : Option (HH) :=
  bd (fX9_isWord x0 29 h) (fun r3 h3 =>
  bif r3 then
    bv (fX9_dreamLine x0 h3) (fun h10 =>
    some h10)
  else
  gd (inb 3 316) (
  if 3 ≤ (gI h3 (x0 + 4) (ix 3)) then
    fX9_readLine_b34 x0 false h3
  else
  fX9_readLine_b34 x0 true h3))
def fX9_quickOf_L4 (x0 : Nat) (x1 : Int32) (self4 : Int32 → Int32 → HH → Option (Int32 × HH)) (x2 : Int32) (x3 : Int32) (h : HH) : Option (Int32 × HH) :=
  if x1 ≤ x3 then
    some (x2, h)
  else
  gd (inb ((11 : Int32) + x3) 316) (
  nm (x2 * (gI h (x0 + 3) (ix ((11 : Int32) + x3)))) (fun y1 =>
  self4 y1 (x3 + 1) h))
def fX9_quickOf (x0 : Nat) (x1 : Int32) (h : HH) : Option (Int32 × HH) :=
  lq2 (fX9_quickOf_L4 x0 x1) FU 1 0 h
def fX9_bottom (x0 : Nat) (h : HH) : Option (Int32 × HH) :=
  gd (inb 0 316) (
  bd (fX9_quickOf x0 (gI h (x0 + 3) (ix 0)) h) (fun r7 h7 =>
  some (r7, h7)))
def fX9_its (x0 : Nat) (x1 : Int32) (x2 : Int32) (h : HH) : Option (Int32 × HH) :=
  gd (inb (((4 : Int32) * x1) + x2) 20) (
  some ((gI h (x0 + 5) (ix (((4 : Int32) * x1) + x2))), h))
def fX9_feelOf (x0 : Nat) (x1 : Int32) (x2 : Int32) (x3 : Int32) (h : HH) : Option (Int64 × HH) :=
  bd (fX9_quickOf x0 x3 h) (fun r4 h4 =>
  bd (fX9_quickOf x0 x2 h4) (fun r9 h9 =>
  gd (!(r9 == 0)) (
  some ((x1.toInt64 * (((r4 / r9)).toInt64)), h9))))
def fX9_of (x0 : Nat) (x1 : Int32) (x2 : Int32) (h : HH) : Option (Int32 × HH) :=
  gd (inb (((15 : Int32) + ((5 : Int32) * x1)) + x2) 316) (
  some ((gI h (x0 + 3) (ix (((15 : Int32) + ((5 : Int32) * x1)) + x2))), h))
def fX9_broughtTo_b62 (x2 : Int32) (x3 : Int32) (x7 : Int32) (h : HH) : Option (Int32 × HH) :=
  if x7 = 1 then
    nm (x2 - 2) (fun y5 =>
    if x3 ≤ y5 then
      some (y5, h)
    else
    some (x3, h))
  else
  nm (x2 - 1) (fun y4 =>
  if x3 ≤ y4 then
    some (y4, h)
  else
  some (x3, h))
def fX9_broughtTo_b38 (x0 : Nat) (x2 : Int32) (x3 : Int32) (x7 : Int32) (s0 : Int32) (s1 : Int64) (s2 : Int64) (h : HH) : Option (Int32 × HH) :=
  if s2 < (s1 * s0.toInt64) then
    some (x2, h)
  else
  if x7 = 3 then
    gd (inb 0 316) (
    if x2 = (gI h (x0 + 3) (ix 0)) then
      some (x2, h)
    else
    fX9_broughtTo_b62 x2 x3 x7 h)
  else
  fX9_broughtTo_b62 x2 x3 x7 h
def fX9_broughtTo (x0 : Nat) (x1 : Int32) (x2 : Int32) (x3 : Int32) (x4 : Int32) (h : HH) : Option (Int32 × HH) :=
  bd (fX9_feelOf x0 x4 x3 x2 h) (fun r5 h5 =>
  bd (fX9_of x0 x1 0 h5) (fun r13 h13 =>
  bd (fX9_of x0 x1 1 h13) (fun r23 h23 =>
  if r13 = 2 then
    fX9_broughtTo_b38 x0 x2 x3 r13 2 r23.toInt64 r5 h23
  else
  fX9_broughtTo_b38 x0 x2 x3 r13 1 r23.toInt64 r5 h23)))
def fX9_comes (x0 : Nat) (x1 : Int32) (x2 : Int32) (h : HH) : Option (HH) :=
  gd (inb (((4 : Int32) * x1) + 0) 20) (
  if x2 = 0 then
    gd (inb (((4 : Int32) * x1) + 1) 20) (
    nm (sI (sI h (x0 + 5) (ix (((4 : Int32) * x1) + 0)) x2) (x0 + 5) (ix (((4 : Int32) * x1) + 1)) 0) (fun g2 =>
    gd (inb 0 31) (
    gd (inb ((1 : Int32) + x1) 31) (
    some (sL g2 (x0 + 9) (ix ((1 : Int32) + x1)) (gL g2 (x0 + 9) (ix 0)))))))
  else
  gd (inb 0 31) (
  gd (inb ((1 : Int32) + x1) 31) (
  nm (sL (sI h (x0 + 5) (ix (((4 : Int32) * x1) + 0)) x2) (x0 + 9) (ix ((1 : Int32) + x1)) (gL (sI h (x0 + 5) (ix (((4 : Int32) * x1) + 0)) x2) (x0 + 9) (ix 0))) (fun g1 =>
  some g1))))
def fX9_knocks_L6 (x0 : Nat) (x1 : Int32) (x2 : Int32) (x3 : Int32) (self6 : Int32 → Int32 → HH → Option (Int32 × HH)) (x4 : Int32) (x5 : Int32) (h : HH) : Option (Int32 × HH) :=
  gd (inb 4 316) (
  if (gI h (x0 + 3) (ix 4)) ≤ x5 then
    some (x4, h)
  else
  bd (fX9_its x0 x5 1 h) (fun r21 h21 =>
  if r21 = (x1 + 1) then
    bd (fX9_its x0 x5 0 h21) (fun r34 h34 =>
    if x2 < r34 then
      bd (fX9_its x0 x5 0 h34) (fun r51 h51 =>
      bd (fX9_broughtTo x0 x5 r51 x2 x3 h51) (fun r56 h56 =>
      bd (fX9_its x0 x5 0 h56) (fun r67 h67 =>
      if r56 = r67 then
        self6 x4 (x5 + 1) h67
      else
      bv (fX9_comes x0 x5 r56 h67) (fun h81 =>
      gd (inb (((4 : Int32) * x5) + 3) 20) (
      gd (inb (((4 : Int32) * x5) + 3) 20) (
      nm (sI h81 (x0 + 5) (ix (((4 : Int32) * x5) + 3)) ((gI h81 (x0 + 5) (ix (((4 : Int32) * x5) + 3))) + 1)) (fun g1 =>
      nm (x4 ||| ((1 : Int32) <<< (x5 &&& 31))) (fun y2 =>
      self6 y2 (x5 + 1) g1))))))))
    else
    self6 x4 (x5 + 1) h34)
  else
  self6 x4 (x5 + 1) h21))
def fX9_knocks (x0 : Nat) (x1 : Int32) (x2 : Int32) (x3 : Int32) (h : HH) : Option (Int32 × HH) :=
  lq2 (fX9_knocks_L6 x0 x1 x2 x3) FU 0 0 h
def fX9_knocksNow_L2 (x0 : Nat) (self2 : Int32 → HH → Option (HH)) (x1 : Int32) (h : HH) : Option (HH) :=
  gd (inb 6 316) (
  if (gI h (x0 + 3) (ix 6)) ≤ x1 then
    some h
  else
  nm ((100 : Int32) + ((4 : Int32) * x1)) (fun y1 =>
  gd (inb (y1 + 2) 316) (
  bd (fX9_bottom x0 h) (fun r30 h30 =>
  gd (inb 0 31) (
  if ((((gI h (x0 + 3) (ix (y1 + 2)))).toInt64) * r30.toInt64) = (gL h30 (x0 + 9) (ix 0)) then
    gd (inb y1 316) (
    gd (inb (y1 + 1) 316) (
    gd (inb (y1 + 3) 316) (
    bd (fX9_knocks x0 (gI h30 (x0 + 3) (ix y1)) (gI h30 (x0 + 3) (ix (y1 + 1))) (gI h30 (x0 + 3) (ix (y1 + 3))) h30) (fun r68 h68 =>
    self2 (x1 + 1) h68))))
  else
  self2 (x1 + 1) h30)))))
def fX9_knocksNow (x0 : Nat) (h : HH) : Option (HH) :=
  lq1 (fX9_knocksNow_L2 x0) FU 0 h
def fX9_nextStep_L4 (x0 : Nat) (x1 : Int32) (self4 : Int32 → Int32 → HH → Option (Int32 × HH)) (x2 : Int32) (x3 : Int32) (h : HH) : Option (Int32 × HH) :=
  gd (inb 5 316) (
  if (gI h (x0 + 3) (ix 5)) ≤ x3 then
    some ((-1), h)
  else
  gd (inb ((40 : Int32) + ((3 : Int32) * x3)) 316) (
  if (gI h (x0 + 3) (ix ((40 : Int32) + ((3 : Int32) * x3)))) = x1 then
    bd (fX9_its x0 x1 2 h) (fun r36 h36 =>
    if x2 = r36 then
      some (x3, h36)
    else
    self4 (x2 + 1) (x3 + 1) h36)
  else
  self4 x2 (x3 + 1) h))
def fX9_nextStep (x0 : Nat) (x1 : Int32) (h : HH) : Option (Int32 × HH) :=
  lq2 (fX9_nextStep_L4 x0 x1) FU 0 0 h
def fX9_minute (x0 : Nat) (x1 : Int32) (h : HH) : Option (Int64 × HH) :=
  bd (fX9_bottom x0 h) (fun r1 h1 =>
  bd (fX9_quickOf x0 x1 h1) (fun r6 h6 =>
  gd (!(r6 == 0)) (
  some (((r1 / r6)).toInt64, h6))))
def fX9_dueOf (x0 : Nat) (x1 : Int32) (h : HH) : Option (Int64 × HH) :=
  bd (fX9_nextStep x0 x1 h) (fun r2 h2 =>
  if 0 ≤ r2 then
    gd (inb ((1 : Int32) + x1) 31) (
    gd (inb (((40 : Int32) + ((3 : Int32) * r2)) + 2) 316) (
    bd (fX9_its x0 x1 0 h2) (fun r42 h42 =>
    bd (fX9_minute x0 r42 h42) (fun r45 h45 =>
    some (((gL h2 (x0 + 9) (ix ((1 : Int32) + x1))) + ((((gI h2 (x0 + 3) (ix (((40 : Int32) + ((3 : Int32) * r2)) + 2)))).toInt64) * r45)), h45)))))
  else
  some ((-1), h2))
def fX9_steps (x0 : Nat) (x1 : Int32) (h : HH) : Option (HH) :=
  bd (fX9_nextStep x0 x1 h) (fun r2 h2 =>
  bd (fX9_its x0 x1 0 h2) (fun r9 h9 =>
  gd (inb (((40 : Int32) + ((3 : Int32) * r2)) + 1) 316) (
  nm (gI h9 (x0 + 3) (ix (((40 : Int32) + ((3 : Int32) * r2)) + 1))) (fun y1 =>
  gd (inb (((4 : Int32) * x1) + 2) 20) (
  gd (inb (((4 : Int32) * x1) + 2) 20) (
  if y1 = 0 then
    if r9 = 0 then
      bv (fX9_comes x0 x1 0 (sI h9 (x0 + 5) (ix (((4 : Int32) * x1) + 2)) ((gI h9 (x0 + 5) (ix (((4 : Int32) * x1) + 2))) + 1))) (fun h60 =>
      some h60)
    else
    bv (fX9_comes x0 x1 (r9 - 1) (sI h9 (x0 + 5) (ix (((4 : Int32) * x1) + 2)) ((gI h9 (x0 + 5) (ix (((4 : Int32) * x1) + 2))) + 1))) (fun h60 =>
    some h60)
  else
  if r9 = 0 then
    gd (inb (((4 : Int32) * x1) + 1) 20) (
    nm (sI (sI h9 (x0 + 5) (ix (((4 : Int32) * x1) + 2)) ((gI h9 (x0 + 5) (ix (((4 : Int32) * x1) + 2))) + 1)) (x0 + 5) (ix (((4 : Int32) * x1) + 1)) y1) (fun g2 =>
    gd (inb 0 316) (
    if (gI g2 (x0 + 3) (ix 0)) ≤ r9 then
      bv (fX9_comes x0 x1 r9 g2) (fun h99 =>
      some h99)
    else
    bv (fX9_comes x0 x1 (r9 + 1) g2) (fun h99 =>
    some h99))))
  else
  gd (inb 0 316) (
  if (gI (sI h9 (x0 + 5) (ix (((4 : Int32) * x1) + 2)) ((gI h9 (x0 + 5) (ix (((4 : Int32) * x1) + 2))) + 1)) (x0 + 3) (ix 0)) ≤ r9 then
    bv (fX9_comes x0 x1 r9 (sI h9 (x0 + 5) (ix (((4 : Int32) * x1) + 2)) ((gI h9 (x0 + 5) (ix (((4 : Int32) * x1) + 2))) + 1))) (fun h99 =>
    some h99)
  else
  bv (fX9_comes x0 x1 (r9 + 1) (sI h9 (x0 + 5) (ix (((4 : Int32) * x1) + 2)) ((gI h9 (x0 + 5) (ix (((4 : Int32) * x1) + 2))) + 1))) (fun h99 =>
  some h99))))))))
def fX9_stepsNow_L12 (k12_45 : HH → Option (HH)) (x0 : Nat) (x1 : Int32) (self12 : HH → Option (HH)) (h : HH) : Option (HH) :=
  bd (fX9_dueOf x0 x1 h) (fun r14 h14 =>
  if r14 < 0 then
    k12_45  h14
  else
  bd (fX9_dueOf x0 x1 h14) (fun r24 h24 =>
  gd (inb 0 31) (
  if (gL h24 (x0 + 9) (ix 0)) < r24 then
    k12_45  h24
  else
  bv (fX9_steps x0 x1 h24) (fun h39 =>
  self12  h39))))
def fX9_stepsNow_L2 (x0 : Nat) (self2 : Int32 → HH → Option (HH)) (x1 : Int32) (h : HH) : Option (HH) :=
  gd (inb 4 316) (
  if (gI h (x0 + 3) (ix 4)) ≤ x1 then
    some h
  else
  lq0 (fX9_stepsNow_L12 (fun  h =>
    self2 (x1 + 1) h) x0 x1) FU  h)
def fX9_stepsNow (x0 : Nat) (h : HH) : Option (HH) :=
  lq1 (fX9_stepsNow_L2 x0) FU 0 h
def fX9_dream_L39 (k39_59 : HH → Option (Int32 × HH)) (x0 : Nat) (x1 : Int32) (self39 : Int32 → HH → Option (Int32 × HH)) (x2 : Int32) (h : HH) : Option (Int32 × HH) :=
  if 316 ≤ x2 then
    k39_59  h
  else
  gd (inb x2 316) (
  self39 (x2 + 1) (sI h (x0 + 4) (ix x2) 0))
def fX9_dream_L77 (k77_104 : HH → Option (Int32 × HH)) (x0 : Nat) (self77 : HH → Option (Int32 × HH)) (h : HH) : Option (Int32 × HH) :=
  if (gI h x0 13) = 0 then
    if (gI h x0 6) = 59 then
      bv (fX9_next x0 h) (fun h94 =>
      bv (fX9_readLine x0 h94) (fun h98 =>
      self77  h98))
    else
    k77_104  h
  else
  k77_104  h
def fX9_dream_L202 (k202_221 : HH → Option (Int32 × HH)) (x0 : Nat) (self202 : Int32 → HH → Option (Int32 × HH)) (x2 : Int32) (h : HH) : Option (Int32 × HH) :=
  if 20 ≤ x2 then
    k202_221  h
  else
  gd (inb x2 20) (
  self202 (x2 + 1) (sI h (x0 + 5) (ix x2) 0))
def fX9_dream_L223 (k223_242 : HH → Option (Int32 × HH)) (x0 : Nat) (self223 : Int32 → HH → Option (Int32 × HH)) (x2 : Int32) (h : HH) : Option (Int32 × HH) :=
  if 31 ≤ x2 then
    k223_242  h
  else
  gd (inb x2 31) (
  self223 (x2 + 1) (sL h (x0 + 9) (ix x2) 0))
def fX9_dream_b127 (x0 : Nat) (h : HH) : Option (Int32 × HH) :=
  if (gI h x0 13) = 0 then
    gd (inb 2 316) (
    if (gI h (x0 + 4) (ix 2)) = 0 then
      bv (fX9_wrong x0 6 (gI h x0 4) h) (fun h168 =>
      if (gI h168 x0 13) = 0 then
        bv (fX9_copy (x0 + 4) 0 (x0 + 3) 0 316 h168) (fun h197 =>
        lq1 (fX9_dream_L202 (fun  h =>
          lq1 (fX9_dream_L223 (fun  h =>
            nm (sI (sI h x0 14 1) x0 25 0) (fun g5 =>
            bv (fX9_knocksNow x0 (sI g5 x0 26 0)) (fun h258 =>
            bv (fX9_stepsNow x0 h258) (fun h262 =>
            gd (inb 4 316) (
            some ((gI h262 (x0 + 3) (ix 4)), h262)))))) x0) FU 0 h) x0) FU 0 h197)
      else
      bd (fX9_no x0 4 h168) (fun r180 h180 =>
      some (r180, h180)))
    else
    gd (inb 3 316) (
    if (gI h (x0 + 4) (ix 3)) = 0 then
      bv (fX9_wrong x0 6 (gI h x0 4) h) (fun h168 =>
      if (gI h168 x0 13) = 0 then
        bv (fX9_copy (x0 + 4) 0 (x0 + 3) 0 316 h168) (fun h197 =>
        lq1 (fX9_dream_L202 (fun  h =>
          lq1 (fX9_dream_L223 (fun  h =>
            nm (sI (sI h x0 14 1) x0 25 0) (fun g6 =>
            bv (fX9_knocksNow x0 (sI g6 x0 26 0)) (fun h258 =>
            bv (fX9_stepsNow x0 h258) (fun h262 =>
            gd (inb 4 316) (
            some ((gI h262 (x0 + 3) (ix 4)), h262)))))) x0) FU 0 h) x0) FU 0 h197)
      else
      bd (fX9_no x0 4 h168) (fun r180 h180 =>
      some (r180, h180)))
    else
    gd (inb 4 316) (
    if (gI h (x0 + 4) (ix 4)) = 0 then
      bv (fX9_wrong x0 6 (gI h x0 4) h) (fun h168 =>
      if (gI h168 x0 13) = 0 then
        bv (fX9_copy (x0 + 4) 0 (x0 + 3) 0 316 h168) (fun h197 =>
        lq1 (fX9_dream_L202 (fun  h =>
          lq1 (fX9_dream_L223 (fun  h =>
            nm (sI (sI h x0 14 1) x0 25 0) (fun g8 =>
            bv (fX9_knocksNow x0 (sI g8 x0 26 0)) (fun h258 =>
            bv (fX9_stepsNow x0 h258) (fun h262 =>
            gd (inb 4 316) (
            some ((gI h262 (x0 + 3) (ix 4)), h262)))))) x0) FU 0 h) x0) FU 0 h197)
      else
      bd (fX9_no x0 4 h168) (fun r180 h180 =>
      some (r180, h180)))
    else
    if (gI h x0 13) = 0 then
      bv (fX9_copy (x0 + 4) 0 (x0 + 3) 0 316 h) (fun h197 =>
      lq1 (fX9_dream_L202 (fun  h =>
        lq1 (fX9_dream_L223 (fun  h =>
          nm (sI (sI h x0 14 1) x0 25 0) (fun g7 =>
          bv (fX9_knocksNow x0 (sI g7 x0 26 0)) (fun h258 =>
          bv (fX9_stepsNow x0 h258) (fun h262 =>
          gd (inb 4 316) (
          some ((gI h262 (x0 + 3) (ix 4)), h262)))))) x0) FU 0 h) x0) FU 0 h197)
    else
    bd (fX9_no x0 4 h) (fun r180 h180 =>
    some (r180, h180)))))
  else
  if (gI h x0 13) = 0 then
    bv (fX9_copy (x0 + 4) 0 (x0 + 3) 0 316 h) (fun h197 =>
    lq1 (fX9_dream_L202 (fun  h =>
      lq1 (fX9_dream_L223 (fun  h =>
        nm (sI (sI h x0 14 1) x0 25 0) (fun g4 =>
        bv (fX9_knocksNow x0 (sI g4 x0 26 0)) (fun h258 =>
        bv (fX9_stepsNow x0 h258) (fun h262 =>
        gd (inb 4 316) (
        some ((gI h262 (x0 + 3) (ix 4)), h262)))))) x0) FU 0 h) x0) FU 0 h197)
  else
  bd (fX9_no x0 4 h) (fun r180 h180 =>
  some (r180, h180))
def fX9_dream (x0 : Nat) (x1 : Int32) (h : HH) : Option (Int32 × HH) :=
  bv (fX9_good x0 h) (fun h1 =>
  bd (fX9_within x1 0 (gI h1 x0 2) h1) (fun r10 h10 =>
  bif r10 then
    nm (sI (sI h10 x0 2 0) x0 9 0) (fun g1 =>
    lq1 (fX9_dream_L39 (fun  h =>
      nm (sI (sI h x0 3 x1) x0 5 0) (fun g2 =>
      bv (fX9_next x0 g2) (fun h70 =>
      bv (fX9_readLine x0 h70) (fun h74 =>
      lq0 (fX9_dream_L77 (fun  h =>
        if (gI h x0 13) = 0 then
          if (gI h x0 6) = 0 then
            fX9_dream_b127 x0 h
          else
          bv (fX9_wrong x0 1 (gI h x0 4) h) (fun h124 =>
          fX9_dream_b127 x0 h124)
        else
        fX9_dream_b127 x0 h) x0) FU  h74)))) x0 x1) FU 0 (sI g1 x0 13 0))
  else
  bd (fX9_no x0 2 h10) (fun r18 h18 =>
  some (r18, h18))))
def fX9_fault (x0 : Nat) (h : HH) : Option (Int32 × HH) :=
  some ((gI (sI h x0 0 0) x0 9), (sI h x0 0 0))
def fX9_where (x0 : Nat) (h : HH) : Option (Int32 × HH) :=
  if (gI (sI h x0 0 0) x0 11) = 4 then
    some ((gI (sI h x0 0 0) x0 10), (sI h x0 0 0))
  else
  some ((-1), (sI h x0 0 0))
def fX9_isFloor (x0 : Nat) (x1 : Int32) (h : HH) : Option (Bool × HH) :=
  if (gI h x0 14) = 0 then
    some (false, h)
  else
  gd (inb 0 316) (
  bd (fX9_within x1 0 (gI h (x0 + 3) (ix 0)) h) (fun r15 h15 =>
  bif r15 then
    some (true, h15)
  else
  some (false, h15)))
def fX9_isSleeper (x0 : Nat) (x1 : Int32) (h : HH) : Option (Bool × HH) :=
  if (gI h x0 14) = 0 then
    some (false, h)
  else
  gd (inb 4 316) (
  bd (fX9_within x1 0 ((gI h (x0 + 3) (ix 4)) - 1) h) (fun r17 h17 =>
  bif r17 then
    some (true, h17)
  else
  some (false, h17)))
def fX9_isHead (x0 : Nat) (x1 : Int32) (h : HH) : Option (Bool × HH) :=
  if (gI h x0 14) = 0 then
    some (false, h)
  else
  gd (inb 3 316) (
  bd (fX9_within x1 0 ((gI h (x0 + 3) (ix 3)) - 1) h) (fun r17 h17 =>
  bif r17 then
    some (true, h17)
  else
  some (false, h17)))
def fX9_goOn_L16 (k16_79 : Int64 → HH → Option (HH)) (x0 : Nat) (x1 : Int64) (self16 : Int64 → Int32 → HH → Option (HH)) (x3 : Int64) (x5 : Int32) (h : HH) : Option (HH) :=
  gd (inb 6 316) (
  if (gI h (x0 + 3) (ix 6)) ≤ x5 then
    k16_79 x3 h
  else
  gd (inb (((100 : Int32) + ((4 : Int32) * x5)) + 2) 316) (
  bd (fX9_bottom x0 h) (fun r44 h44 =>
  nm ((((gI h (x0 + 3) (ix (((100 : Int32) + ((4 : Int32) * x5)) + 2)))).toInt64) * r44.toInt64) (fun y1 =>
  gd (inb 0 31) (
  if y1 ≤ (gL h44 (x0 + 9) (ix 0)) then
    self16 x3 (x5 + 1) h44
  else
  if x3 ≤ y1 then
    self16 x3 (x5 + 1) h44
  else
  self16 y1 (x5 + 1) h44)))))
def fX9_goOn_L82 (k82_129 : Int64 → HH → Option (HH)) (x0 : Nat) (x1 : Int64) (self82 : Int64 → Int32 → HH → Option (HH)) (x3 : Int64) (x5 : Int32) (h : HH) : Option (HH) :=
  gd (inb 4 316) (
  if (gI h (x0 + 3) (ix 4)) ≤ x5 then
    k82_129 x3 h
  else
  bd (fX9_dueOf x0 x5 h) (fun r96 h96 =>
  gd (inb 0 31) (
  if r96 ≤ (gL h96 (x0 + 9) (ix 0)) then
    self82 x3 (x5 + 1) h96
  else
  if x3 ≤ r96 then
    self82 x3 (x5 + 1) h96
  else
  self82 r96 (x5 + 1) h96)))
def fX9_goOn_L132 (k132_180 : HH → Option (HH)) (x0 : Nat) (x1 : Int64) (x3 : Int64) (self132 : Int32 → HH → Option (HH)) (x5 : Int32) (h : HH) : Option (HH) :=
  gd (inb 4 316) (
  if (gI h (x0 + 3) (ix 4)) ≤ x5 then
    k132_180  h
  else
  bd (fX9_its x0 x5 0 h) (fun r158 h158 =>
  gd (inb (((6 : Int32) + ((5 : Int32) * x5)) + r158) 31) (
  gd (inb 0 31) (
  gd (inb (((6 : Int32) + ((5 : Int32) * x5)) + r158) 31) (
  nm (sL h158 (x0 + 9) (ix (((6 : Int32) + ((5 : Int32) * x5)) + r158)) ((gL h158 (x0 + 9) (ix (((6 : Int32) + ((5 : Int32) * x5)) + r158))) + (x3 - (gL h158 (x0 + 9) (ix 0))))) (fun g2 =>
  self132 (x5 + 1) g2))))))
def fX9_goOn_L0 (x0 : Nat) (x1 : Int64) (self0 : HH → Option (HH)) (h : HH) : Option (HH) :=
  gd (inb 0 31) (
  if x1 ≤ (gL h (x0 + 9) (ix 0)) then
    some h
  else
  lq2 (fX9_goOn_L16 (fun x3 h =>
    lq2 (fX9_goOn_L82 (fun x3 h =>
      lq1 (fX9_goOn_L132 (fun  h =>
        gd (inb 0 31) (
        bv (fX9_knocksNow x0 (sL h (x0 + 9) (ix 0) x3)) (fun h188 =>
        bv (fX9_stepsNow x0 h188) (fun h192 =>
        self0  h192)))) x0 x1 x3) FU 0 h) x0 x1) FU x3 0 h) x0 x1) FU x1 0 h)
def fX9_goOn (x0 : Nat) (x1 : Int64) (h : HH) : Option (HH) :=
  lq0 (fX9_goOn_L0 x0 x1) FU  h
def fX9_save (x0 : Nat) (h : HH) : Option (HH) :=
  bv (fX9_copy (x0 + 5) 0 (x0 + 8) 0 20 h) (fun h12 =>
  bv (fX9_copyLongs (x0 + 9) 0 (x0 + 12) 0 h12) (fun h25 =>
  some h25))
def fX9_bringBack (x0 : Nat) (h : HH) : Option (HH) :=
  bv (fX9_copy (x0 + 8) 0 (x0 + 5) 0 20 h) (fun h12 =>
  bv (fX9_copyLongs (x0 + 12) 0 (x0 + 9) 0 h12) (fun h25 =>
  some h25))
def fX9_quick (x0 : Nat) (x1 : Int32) (h : HH) : Option (Int32 × HH) :=
  bv (fX9_good x0 h) (fun h1 =>
  bd (fX9_isFloor x0 x1 h1) (fun r6 h6 =>
  bif r6 then
    bd (fX9_quickOf x0 x1 h6) (fun r14 h14 =>
    some (r14, h14))
  else
  bd (fX9_no x0 1 h6) (fun r22 h22 =>
  some (r22, h22))))
def fX9_clock (x0 : Nat) (x1 : Int32) (h : HH) : Option (Int64 × HH) :=
  bv (fX9_good x0 h) (fun h1 =>
  bd (fX9_isFloor x0 x1 h1) (fun r6 h6 =>
  bif r6 then
    gd (inb 0 31) (
    bd (fX9_minute x0 x1 h6) (fun r20 h20 =>
    gd (!(r20 == 0)) (
    some (((gL h6 (x0 + 9) (ix 0)) / r20), h20))))
  else
  bd (fX9_no x0 1 h6) (fun r29 h29 =>
  some (r29.toInt64, h29))))
def fX9_ticks (x0 : Nat) (h : HH) : Option (Int64 × HH) :=
  bv (fX9_good x0 h) (fun h1 =>
  if (gI h1 x0 14) = 0 then
    bd (fX9_no x0 1 h1) (fun r22 h22 =>
    some (r22.toInt64, h22))
  else
  gd (inb 0 31) (
  some ((gL h1 (x0 + 9) (ix 0)), h1)))
def fX9_sleeper (x0 : Nat) (x1 : Int32) (x2 : Int32) (h : HH) : Option (Int32 × HH) :=
  bv (fX9_good x0 h) (fun h1 =>
  bd (fX9_isSleeper x0 x1 h1) (fun r6 h6 =>
  bif r6 then
    if x2 = 0 then
      bd (fX9_its x0 x1 0 h6) (fun r63 h63 =>
      some (r63, h63))
    else
    if x2 = 1 then
      bd (fX9_its x0 x1 1 h6) (fun r70 h70 =>
      if r70 = 0 then
        some ((-2), h70)
      else
      bd (fX9_its x0 x1 1 h70) (fun r84 h84 =>
      some ((r84 - 1), h84)))
    else
    if x2 = 2 then
      bd (fX9_its x0 x1 2 h6) (fun r93 h93 =>
      some (r93, h93))
    else
    if x2 = 3 then
      gd (inb 0 31) (
      gd (inb ((1 : Int32) + x1) 31) (
      bd (fX9_its x0 x1 0 h6) (fun r116 h116 =>
      bd (fX9_minute x0 r116 h116) (fun r119 h119 =>
      gd (!(r119 == 0)) (
      some ((((gL h6 (x0 + 9) (ix 0)) - (gL h6 (x0 + 9) (ix ((1 : Int32) + x1)))) / r119).toInt32, h119))))))
    else
    if x2 = 4 then
      bd (fX9_of x0 x1 0 h6) (fun r128 h128 =>
      some (r128, h128))
    else
    if x2 = 5 then
      bd (fX9_of x0 x1 1 h6) (fun r135 h135 =>
      some (r135, h135))
    else
    if x2 = 6 then
      bd (fX9_of x0 x1 4 h6) (fun r142 h142 =>
      if r142 = 0 then
        some ((-2), h142)
      else
      bd (fX9_of x0 x1 4 h142) (fun r156 h156 =>
      some ((r156 - 1), h156)))
    else
    bd (fX9_no x0 1 h6) (fun r164 h164 =>
    some (r164, h164))
  else
  bd (fX9_no x0 1 h6) (fun r14 h14 =>
  some (r14, h14))))
def fX9_lived_L24 (x0 : Nat) (x1 : Int32) (x2 : Bool) (self24 : Int64 → Int32 → HH → Option (Int64 × HH)) (x3 : Int64) (x5 : Int32) (h : HH) : Option (Int64 × HH) :=
  gd (inb 0 316) (
  if (gI h (x0 + 3) (ix 0)) < x5 then
    bd (fX9_bottom x0 h) (fun r68 h68 =>
    bd (fX9_lowest x3 r68.toInt64 x2 h68) (fun r73 h73 =>
    some (r73, h73)))
  else
  gd (inb (((6 : Int32) + ((5 : Int32) * x1)) + x5) 31) (
  bd (fX9_quickOf x0 x5 h) (fun r53 h53 =>
  nm (x3 + ((gL h (x0 + 9) (ix (((6 : Int32) + ((5 : Int32) * x1)) + x5))) * r53.toInt64)) (fun y1 =>
  self24 y1 (x5 + 1) h53))))
def fX9_lived (x0 : Nat) (x1 : Int32) (x2 : Bool) (h : HH) : Option (Int64 × HH) :=
  bv (fX9_good x0 h) (fun h1 =>
  bd (fX9_isSleeper x0 x1 h1) (fun r6 h6 =>
  bif r6 then
    lq2 (fX9_lived_L24 x0 x1 x2) FU 0 0 h6
  else
  bd (fX9_no x0 1 h6) (fun r14 h14 =>
  some (r14.toInt64, h14))))
def fX9_doMeet (x0 : Nat) (x1 : Int32) (x2 : Int32) (h : HH) : Option (Bool × HH) :=
  bd (fX9_its x0 x1 0 h) (fun r3 h3 =>
  if r3 ≤ 0 then
    some (false, h3)
  else
  bd (fX9_its x0 x1 0 h3) (fun r12 h12 =>
  bd (fX9_its x0 x2 0 h12) (fun r18 h18 =>
  if r12 = r18 then
    bd (fX9_its x0 x1 1 h18) (fun r27 h27 =>
    bd (fX9_its x0 x2 1 h27) (fun r33 h33 =>
    if r27 = r33 then
      some (true, h33)
    else
    some (false, h33)))
  else
  some (false, h18))))
def fX9_meet (x0 : Nat) (x1 : Int32) (x2 : Int32) (h : HH) : Option (Int32 × HH) :=
  bv (fX9_good x0 h) (fun h1 =>
  bd (fX9_isSleeper x0 x1 h1) (fun r6 h6 =>
  bif r6 then
    bd (fX9_isSleeper x0 x2 h6) (fun r14 h14 =>
    bif r14 then
      if x1 = x2 then
        bd (fX9_no x0 1 h14) (fun r44 h44 =>
        some (r44, h44))
      else
      bd (fX9_doMeet x0 x1 x2 h14) (fun r28 h28 =>
      bif r28 then
        some (1, h28)
      else
      some (0, h28))
    else
    bd (fX9_no x0 1 h14) (fun r44 h44 =>
    some (r44, h44)))
  else
  bd (fX9_no x0 1 h6) (fun r44 h44 =>
  some (r44, h44))))
def fX9_off_L19 (x0 : Nat) (self19 : Int32 → HH → Option (Int32 × HH)) (x1 : Int32) (h : HH) : Option (Int32 × HH) :=
  gd (inb 4 316) (
  if (gI h (x0 + 3) (ix 4)) ≤ x1 then
    some ((-2), h)
  else
  bd (fX9_of x0 x1 4 h) (fun r32 h32 =>
  if r32 ≤ 0 then
    self19 (x1 + 1) h32
  else
  bd (fX9_of x0 x1 4 h32) (fun r41 h41 =>
  bd (fX9_its x0 x1 0 h41) (fun r49 h49 =>
  if (r41 - 1) = r49 then
    self19 (x1 + 1) h49
  else
  some (x1, h49)))))
def fX9_off (x0 : Nat) (h : HH) : Option (Int32 × HH) :=
  bv (fX9_good x0 h) (fun h1 =>
  if (gI h1 x0 14) = 0 then
    bd (fX9_no x0 1 h1) (fun r13 h13 =>
    some (r13, h13))
  else
  lq1 (fX9_off_L19 x0) FU 0 h1)
def fX9_inWhy (x0 : Nat) (x1 : Int32) (x2 : Int32) (h : HH) : Option (Int32 × HH) :=
  bd (fX9_isSleeper x0 x1 h) (fun r2 h2 =>
  bif r2 then
    bd (fX9_within x2 0 600 h2) (fun r17 h17 =>
    bif r17 then
      some (0, h17)
    else
    some (2, h17))
  else
  some (1, h2))
def fX9_itsIn (x0 : Nat) (x1 : Int32) (x2 : Int32) (x3 : Int32) (h : HH) : Option (Int32 × HH) :=
  bv (fX9_save x0 h) (fun h1 =>
  gd (inb 0 31) (
  bd (fX9_bottom x0 h1) (fun r14 h14 =>
  bv (fX9_goOn x0 ((gL h1 (x0 + 9) (ix 0)) + (x2.toInt64 * r14.toInt64)) h14) (fun h20 =>
  bd (fX9_its x0 x1 x3 h20) (fun r26 h26 =>
  bv (fX9_bringBack x0 h26) (fun h32 =>
  some (r26, h32)))))))
def fX9_floorIn (x0 : Nat) (x1 : Int32) (x2 : Int32) (h : HH) : Option (Int32 × HH) :=
  bv (fX9_good x0 h) (fun h1 =>
  bd (fX9_inWhy x0 x1 x2 h1) (fun r7 h7 =>
  if r7 = 0 then
    bd (fX9_itsIn x0 x1 x2 0 h7) (fun r27 h27 =>
    some (r27, h27))
  else
  bd (fX9_no x0 r7 h7) (fun r17 h17 =>
  some (r17, h17))))
def fX9_headIn (x0 : Nat) (x1 : Int32) (x2 : Int32) (h : HH) : Option (Int32 × HH) :=
  bv (fX9_good x0 h) (fun h1 =>
  bd (fX9_inWhy x0 x1 x2 h1) (fun r7 h7 =>
  if r7 = 0 then
    bd (fX9_itsIn x0 x1 x2 1 h7) (fun r25 h25 =>
    if r25 = 0 then
      some ((-2), h25)
    else
    some ((r25 - 1), h25))
  else
  bd (fX9_no x0 r7 h7) (fun r17 h17 =>
  some (r17, h17))))
def fX9_meetsIn_L55 (k55_92 : Int32 → HH → Option (Int32 × HH)) (x0 : Nat) (x1 : Int32) (x2 : Int32) (x3 : Int32) (self55 : Int32 → HH → Option (Int32 × HH)) (x4 : Int32) (h : HH) : Option (Int32 × HH) :=
  if x3 ≤ x4 then
    k55_92 x4 h
  else
  bd (fX9_doMeet x0 x1 x2 h) (fun r64 h64 =>
  bif r64 then
    k55_92 x4 h64
  else
  gd (inb 0 31) (
  bd (fX9_bottom x0 h64) (fun r78 h78 =>
  bv (fX9_goOn x0 ((gL h64 (x0 + 9) (ix 0)) + r78.toInt64) h78) (fun h83 =>
  self55 (x4 + 1) h83))))
def fX9_meetsIn (x0 : Nat) (x1 : Int32) (x2 : Int32) (x3 : Int32) (h : HH) : Option (Int32 × HH) :=
  bv (fX9_good x0 h) (fun h1 =>
  bd (fX9_isSleeper x0 x1 h1) (fun r6 h6 =>
  bif r6 then
    bd (fX9_isSleeper x0 x2 h6) (fun r14 h14 =>
    bif r14 then
      if x1 = x2 then
        bd (fX9_no x0 1 h14) (fun r27 h27 =>
        some (r27, h27))
      else
      bd (fX9_within x3 0 600 h14) (fun r36 h36 =>
      bif r36 then
        bv (fX9_save x0 h36) (fun h49 =>
        lq1 (fX9_meetsIn_L55 (fun x4 h =>
          bd (fX9_doMeet x0 x1 x2 h) (fun r95 h95 =>
          bv (fX9_bringBack x0 h95) (fun h101 =>
          bif r95 then
            some (x4, h101)
          else
          some ((-2), h101)))) x0 x1 x2 x3) FU 0 h49)
      else
      bd (fX9_no x0 2 h36) (fun r44 h44 =>
      some (r44, h44)))
    else
    bd (fX9_no x0 1 h14) (fun r27 h27 =>
    some (r27, h27)))
  else
  bd (fX9_no x0 1 h6) (fun r27 h27 =>
  some (r27, h27))))
def fX9_left_L42 (x0 : Nat) (self42 : Int32 → Int32 → HH → Option (Int32 × HH)) (x1 : Int32) (x2 : Int32) (h : HH) : Option (Int32 × HH) :=
  gd (inb 4 316) (
  if (gI h (x0 + 3) (ix 4)) ≤ x2 then
    bv (fX9_bringBack x0 h) (fun h78 =>
    some (x1, h78))
  else
  bd (fX9_its x0 x2 0 h) (fun r56 h56 =>
  if r56 ≤ 0 then
    nm (x1 ||| 0) (fun y1 =>
    self42 y1 (x2 + 1) h56)
  else
  nm (x1 ||| ((1 : Int32) <<< (x2 &&& 31))) (fun y2 =>
  self42 y2 (x2 + 1) h56)))
def fX9_left (x0 : Nat) (h : HH) : Option (Int32 × HH) :=
  bv (fX9_good x0 h) (fun h1 =>
  if (gI h1 x0 14) = 0 then
    bd (fX9_no x0 1 h1) (fun r13 h13 =>
    some (r13, h13))
  else
  bv (fX9_save x0 h1) (fun h18 =>
  gd (inb 2 316) (
  bd (fX9_bottom x0 h18) (fun r30 h30 =>
  bv (fX9_goOn x0 ((((gI h18 (x0 + 3) (ix 2))).toInt64) * r30.toInt64) h30) (fun h35 =>
  lq2 (fX9_left_L42 x0) FU 0 0 h35)))))
def fX9_woken (x0 : Nat) (x1 : Int32) (x2 : Int32) (h : HH) : Option (Int32 × HH) :=
  bv (fX9_good x0 h) (fun h1 =>
  bd (fX9_inWhy x0 x1 x2 h1) (fun r7 h7 =>
  if r7 = 0 then
    bd (fX9_itsIn x0 x1 x2 3 h7) (fun r27 h27 =>
    bd (fX9_its x0 x1 3 h27) (fun r33 h33 =>
    some ((r27 - r33), h33)))
  else
  bd (fX9_no x0 r7 h7) (fun r17 h17 =>
  some (r17, h17))))
def fX9_minutes (x0 : Nat) (x1 : Int32) (x2 : Int32) (x3 : Int32) (x4 : Bool) (h : HH) : Option (Int64 × HH) :=
  bv (fX9_good x0 h) (fun h1 =>
  bd (fX9_isFloor x0 x1 h1) (fun r6 h6 =>
  bif r6 then
    bd (fX9_isFloor x0 x2 h6) (fun r14 h14 =>
    bif r14 then
      bd (fX9_within x3 0 9999 h14) (fun r32 h32 =>
      bif r32 then
        bd (fX9_quickOf x0 x2 h32) (fun r42 h42 =>
        bd (fX9_quickOf x0 x1 h42) (fun r49 h49 =>
        bd (fX9_lowest (x3.toInt64 * r42.toInt64) r49.toInt64 x4 h49) (fun r55 h55 =>
        some (r55, h55))))
      else
      bd (fX9_no x0 2 h32) (fun r63 h63 =>
      some (r63.toInt64, h63)))
    else
    bd (fX9_no x0 1 h14) (fun r22 h22 =>
    some (r22.toInt64, h22)))
  else
  bd (fX9_no x0 1 h6) (fun r22 h22 =>
  some (r22.toInt64, h22))))
def fX9_awakeIn_L28 (k28_65 : Int32 → HH → Option (Int32 × HH)) (x0 : Nat) (x1 : Int32) (x2 : Int32) (self28 : Int32 → HH → Option (Int32 × HH)) (x4 : Int32) (h : HH) : Option (Int32 × HH) :=
  if x2 ≤ x4 then
    k28_65 x4 h
  else
  bd (fX9_its x0 x1 0 h) (fun r37 h37 =>
  if r37 ≤ 0 then
    k28_65 x4 h37
  else
  gd (inb 0 31) (
  bd (fX9_bottom x0 h37) (fun r51 h51 =>
  bv (fX9_goOn x0 ((gL h37 (x0 + 9) (ix 0)) + r51.toInt64) h51) (fun h56 =>
  self28 (x4 + 1) h56))))
def fX9_awakeIn (x0 : Nat) (x1 : Int32) (x2 : Int32) (h : HH) : Option (Int32 × HH) :=
  bv (fX9_good x0 h) (fun h1 =>
  bd (fX9_inWhy x0 x1 x2 h1) (fun r7 h7 =>
  if r7 = 0 then
    bv (fX9_save x0 h7) (fun h22 =>
    lq1 (fX9_awakeIn_L28 (fun x4 h =>
      bd (fX9_its x0 x1 0 h) (fun r68 h68 =>
      if r68 = 0 then
        bv (fX9_bringBack x0 h68) (fun h82 =>
        some (x4, h82))
      else
      bv (fX9_bringBack x0 h68) (fun h82 =>
      some ((-2), h82)))) x0 x1 x2) FU 0 h22)
  else
  bd (fX9_no x0 r7 h7) (fun r17 h17 =>
  some (r17, h17))))
def fX9_lonely_L72 (k72_117 : Bool → HH → Option (Int32 × HH)) (x0 : Nat) (x1 : Int32) (x2 : Int32) (x4 : Int32) (x5 : Int32) (self72 : Bool → Int32 → HH → Option (Int32 × HH)) (x6 : Bool) (x7 : Int32) (h : HH) : Option (Int32 × HH) :=
  gd (inb 4 316) (
  if (gI h (x0 + 3) (ix 4)) ≤ x7 then
    k72_117 x6 h
  else
  bif x6 then
    if x7 = x1 then
      self72 true (x7 + 1) h
    else
    bd (fX9_doMeet x0 x1 x7 h) (fun r98 h98 =>
    bif r98 then
      self72 false (x7 + 1) h98
    else
    self72 true (x7 + 1) h98)
  else
  self72 false (x7 + 1) h)
def fX9_lonely_L31 (x0 : Nat) (x1 : Int32) (x2 : Int32) (self31 : Int32 → Int32 → HH → Option (Int32 × HH)) (x4 : Int32) (x5 : Int32) (h : HH) : Option (Int32 × HH) :=
  if x2 ≤ x5 then
    bv (fX9_bringBack x0 h) (fun h139 =>
    some (x4, h139))
  else
  gd (inb 0 31) (
  bd (fX9_bottom x0 h) (fun r45 h45 =>
  bv (fX9_goOn x0 ((gL h (x0 + 9) (ix 0)) + r45.toInt64) h45) (fun h50 =>
  bd (fX9_its x0 x1 0 h50) (fun r56 h56 =>
  if r56 ≤ 0 then
    lq2 (fX9_lonely_L72 (fun x6 h =>
      bif x6 then
        nm (x4 + 1) (fun y2 =>
        self31 y2 (x5 + 1) h)
      else
      nm (x4 + 0) (fun y1 =>
      self31 y1 (x5 + 1) h)) x0 x1 x2 x4 x5) FU false 0 h56
  else
  lq2 (fX9_lonely_L72 (fun x6 h =>
    bif x6 then
      nm (x4 + 1) (fun y4 =>
      self31 y4 (x5 + 1) h)
    else
    nm (x4 + 0) (fun y3 =>
    self31 y3 (x5 + 1) h)) x0 x1 x2 x4 x5) FU true 0 h56))))
def fX9_lonely (x0 : Nat) (x1 : Int32) (x2 : Int32) (h : HH) : Option (Int32 × HH) :=
  bv (fX9_good x0 h) (fun h1 =>
  bd (fX9_inWhy x0 x1 x2 h1) (fun r7 h7 =>
  if r7 = 0 then
    bv (fX9_save x0 h7) (fun h22 =>
    lq2 (fX9_lonely_L31 x0 x1 x2) FU 0 0 h22)
  else
  bd (fX9_no x0 r7 h7) (fun r17 h17 =>
  some (r17, h17))))
def fX9_crowdNow_L32 (k32_73 : Int32 → HH → Option (Int32 × HH)) (x0 : Nat) (x1 : Int32) (x2 : Int32) (self32 : Int32 → Int32 → HH → Option (Int32 × HH)) (x3 : Int32) (x4 : Int32) (h : HH) : Option (Int32 × HH) :=
  gd (inb 4 316) (
  if (gI h (x0 + 3) (ix 4)) ≤ x4 then
    k32_73 x3 h
  else
  if x4 = x2 then
    nm (x3 + 0) (fun y1 =>
    self32 y1 (x4 + 1) h)
  else
  bd (fX9_doMeet x0 x2 x4 h) (fun r54 h54 =>
  bif r54 then
    nm (x3 + 1) (fun y3 =>
    self32 y3 (x4 + 1) h54)
  else
  nm (x3 + 0) (fun y2 =>
  self32 y2 (x4 + 1) h54)))
def fX9_crowdNow_L4 (x0 : Nat) (self4 : Int32 → Int32 → HH → Option (Int32 × HH)) (x1 : Int32) (x2 : Int32) (h : HH) : Option (Int32 × HH) :=
  gd (inb 4 316) (
  if (gI h (x0 + 3) (ix 4)) ≤ x2 then
    some (x1, h)
  else
  bd (fX9_its x0 x2 0 h) (fun r17 h17 =>
  if r17 ≤ 0 then
    lq2 (fX9_crowdNow_L32 (fun x3 h =>
      if x3 ≤ x1 then
        self4 x1 (x2 + 1) h
      else
      self4 x3 (x2 + 1) h) x0 x1 x2) FU 0 0 h17
  else
  lq2 (fX9_crowdNow_L32 (fun x3 h =>
    if x3 ≤ x1 then
      self4 x1 (x2 + 1) h
    else
    self4 x3 (x2 + 1) h) x0 x1 x2) FU 1 0 h17))
def fX9_crowdNow (x0 : Nat) (h : HH) : Option (Int32 × HH) :=
  lq2 (fX9_crowdNow_L4 x0) FU 0 0 h
def fX9_crowd_L45 (x0 : Nat) (x1 : Int32) (self45 : Int32 → Int32 → HH → Option (Int32 × HH)) (x2 : Int32) (x3 : Int32) (h : HH) : Option (Int32 × HH) :=
  if x1 ≤ x3 then
    bv (fX9_bringBack x0 h) (fun h90 =>
    some (x2, h90))
  else
  gd (inb 0 31) (
  bd (fX9_bottom x0 h) (fun r58 h58 =>
  bv (fX9_goOn x0 ((gL h (x0 + 9) (ix 0)) + r58.toInt64) h58) (fun h63 =>
  bd (fX9_crowdNow x0 h63) (fun r67 h67 =>
  if r67 ≤ x2 then
    self45 x2 (x3 + 1) h67
  else
  bd (fX9_crowdNow x0 h67) (fun r75 h75 =>
  self45 r75 (x3 + 1) h75)))))
def fX9_crowd (x0 : Nat) (x1 : Int32) (h : HH) : Option (Int32 × HH) :=
  bv (fX9_good x0 h) (fun h1 =>
  if (gI h1 x0 14) = 0 then
    bd (fX9_no x0 1 h1) (fun r13 h13 =>
    some (r13, h13))
  else
  bd (fX9_within x1 0 600 h1) (fun r22 h22 =>
  bif r22 then
    bv (fX9_save x0 h22) (fun h35 =>
    bd (fX9_crowdNow x0 h35) (fun r39 h39 =>
    lq2 (fX9_crowd_L45 x0 x1) FU r39 0 h39))
  else
  bd (fX9_no x0 2 h22) (fun r30 h30 =>
  some (r30, h30))))
def fX9_felt (x0 : Nat) (x1 : Int32) (x2 : Int32) (x3 : Int32) (h : HH) : Option (Int64 × HH) :=
  bv (fX9_good x0 h) (fun h1 =>
  bd (fX9_isFloor x0 x2 h1) (fun r6 h6 =>
  bif r6 then
    bd (fX9_isFloor x0 x3 h6) (fun r14 h14 =>
    bif r14 then
      if x2 < x3 then
        bd (fX9_within x1 1 99 h14) (fun r36 h36 =>
        bif r36 then
          bd (fX9_feelOf x0 x1 x2 x3 h36) (fun r46 h46 =>
          some (r46, h46))
        else
        bd (fX9_no x0 2 h36) (fun r54 h54 =>
        some (r54.toInt64, h54)))
      else
      bd (fX9_no x0 1 h14) (fun r27 h27 =>
      some (r27.toInt64, h27))
    else
    bd (fX9_no x0 1 h14) (fun r27 h27 =>
    some (r27.toInt64, h27)))
  else
  bd (fX9_no x0 1 h6) (fun r27 h27 =>
  some (r27.toInt64, h27))))
def fX9_down_L5 (x0 : Nat) (x2 : Int32) (self5 : Int64 → Int32 → HH → Option (Int64 × HH)) (x3 : Int64) (x5 : Int32) (h : HH) : Option (Int64 × HH) :=
  if x2 ≤ x5 then
    some (x3, h)
  else
  gd (inb 1 316) (
  bd (fX9_minute x0 x5 h) (fun r22 h22 =>
  nm (x3 + ((((gI h (x0 + 3) (ix 1))).toInt64) * r22)) (fun y1 =>
  self5 y1 (x5 + 1) h22)))
def fX9_down (x0 : Nat) (x1 : Int32) (x2 : Int32) (h : HH) : Option (Int64 × HH) :=
  lq2 (fX9_down_L5 x0 x2) FU 0 x1 h
def fX9_endTasks_b27 (x0 : Nat) (x1 : Int64) (x3 : Int64) (x5 : Int64) (s0 : Int64) (h : HH) : Option (HH) :=
  gd (inb 2 316) (
  bd (fX9_bottom x0 (sL h x0 32 s0)) (fun r39 h39 =>
  if x3 ≤ ((((gI (sL h x0 32 s0) (x0 + 3) (ix 2))).toInt64) * r39.toInt64) then
    if (gL h39 x0 29) < 0 then
      nm (sL (sL h39 x0 29 x1) x0 30 x3) (fun g3 =>
      gd (inb 7 316) (
      bv (fX9_copy (x0 + 13) 0 (x0 + 14) 0 (gI (sL g3 x0 31 x5) (x0 + 3) (ix 7)) (sL g3 x0 31 x5)) (fun h120 =>
      some h120)))
    else
    if (gL h39 x0 29) < x1 then
      some h39
    else
    if x1 = (gL h39 x0 29) then
      if x5 < (gL h39 x0 31) then
        nm (sL (sL h39 x0 29 x1) x0 30 x3) (fun g5 =>
        gd (inb 7 316) (
        bv (fX9_copy (x0 + 13) 0 (x0 + 14) 0 (gI (sL g5 x0 31 x5) (x0 + 3) (ix 7)) (sL g5 x0 31 x5)) (fun h120 =>
        some h120)))
      else
      some h39
    else
    nm (sL (sL h39 x0 29 x1) x0 30 x3) (fun g4 =>
    gd (inb 7 316) (
    bv (fX9_copy (x0 + 13) 0 (x0 + 14) 0 (gI (sL g4 x0 31 x5) (x0 + 3) (ix 7)) (sL g4 x0 31 x5)) (fun h120 =>
    some h120)))
  else
  some h39))
def fX9_endTasks_b19 (x0 : Nat) (x1 : Int64) (x3 : Int64) (x5 : Int64) (h : HH) : Option (HH) :=
  fX9_endTasks_b27 x0 x1 x3 x5 x3 h
def fX9_endTasks (x0 : Nat) (x1 : Int64) (x3 : Int64) (x5 : Int64) (h : HH) : Option (HH) :=
  if (gL h x0 32) < 0 then
    fX9_endTasks_b19 x0 x1 x3 x5 h
  else
  if (gL h x0 32) ≤ x3 then
    fX9_endTasks_b27 x0 x1 x3 x5 (gL h x0 32) h
  else
  fX9_endTasks_b19 x0 x1 x3 x5 h
def fX9_seekFrom_b92 (rec : Nat → Int32 → Int32 → Int64 → Int64 → Int64 → HH → Option (HH)) (self57 : Int32 → HH → Option (HH)) (x0 : Nat) (x1 : Int32) (x2 : Int32) (x3 : Int64) (x5 : Int64) (x7 : Int64) (x9 : Int32) (x10 : Int32) (s0 : Int32) (s1 : Int32) (h : HH) : Option (HH) :=
  gd (inb (x9 + 2) 316) (
  gd (inb (x9 + 1) 316) (
  bd (fX9_minute x0 x10 h) (fun r123 h123 =>
  gd (inb (x9 + 1) 316) (
  bv (rec x0 s1 s0 (x3 + ((((gI h (x0 + 3) (ix (x9 + 2)))).toInt64) * x10.toInt64)) (x5 + ((((gI h (x0 + 3) (ix (x9 + 1)))).toInt64) * r123)) (x7 + (((gI h123 (x0 + 3) (ix (x9 + 1)))).toInt64)) h123) (fun h141 =>
  self57 (x10 + 1) h141)))))
def fX9_seekFrom_L57 (rec : Nat → Int32 → Int32 → Int64 → Int64 → Int64 → HH → Option (HH)) (x0 : Nat) (x1 : Int32) (x2 : Int32) (x3 : Int64) (x5 : Int64) (x7 : Int64) (x9 : Int32) (self57 : Int32 → HH → Option (HH)) (x10 : Int32) (h : HH) : Option (HH) :=
  gd (inb 0 316) (
  if (gI h (x0 + 3) (ix 0)) < x10 then
    some h
  else
  gd (inb x1 6) (
  if x10 ≤ x2 then
    fX9_seekFrom_b92 rec self57 x0 x1 x2 x3 x5 x7 x9 x10 x2 (x1 + 1) (sI h (x0 + 13) (ix x1) x10)
  else
  fX9_seekFrom_b92 rec self57 x0 x1 x2 x3 x5 x7 x9 x10 x10 (x1 + 1) (sI h (x0 + 13) (ix x1) x10)))
def fX9_seekFrom_0 (rec : Nat → Int32 → Int32 → Int64 → Int64 → Int64 → HH → Option (HH)) (x0 : Nat) (x1 : Int32) (x2 : Int32) (x3 : Int64) (x5 : Int64) (x7 : Int64) (h : HH) : Option (HH) :=
  gd (inb 7 316) (
  if x1 = (gI h (x0 + 3) (ix 7)) then
    bd (fX9_down x0 0 x2 h) (fun r18 h18 =>
    gd (inb 1 316) (
    bv (fX9_endTasks x0 x3 (x5 + r18) (x7 + ((((gI h18 (x0 + 3) (ix 1))).toInt64) * x2.toInt64)) h18) (fun h35 =>
    some h35)))
  else
  nm ((132 : Int32) + ((3 : Int32) * x1)) (fun y1 =>
  gd (inb y1 316) (
  nm (gI h (x0 + 3) (ix y1)) (fun y2 =>
  lq1 (fX9_seekFrom_L57 rec x0 x1 x2 x3 x5 x7 y1) FU y2 h))))
def fX9_seekFrom (dp : Nat) (x0 : Nat) (x1 : Int32) (x2 : Int32) (x3 : Int64) (x5 : Int64) (x7 : Int64) (h : HH) : Option (HH) := lq6 fX9_seekFrom_0 dp x0 x1 x2 x3 x5 x7 h
def fX9_seekTasks (x0 : Nat) (h : HH) : Option (HH) :=
  nm (sL (sL h x0 29 (-1)) x0 32 (-1)) (fun g1 =>
  bv (fX9_seekFrom 8 x0 0 0 0 0 0 g1) (fun h20 =>
  some h20))
def fX9_task (x0 : Nat) (x1 : Int32) (h : HH) : Option (Int32 × HH) :=
  bv (fX9_good x0 h) (fun h1 =>
  if (gI h1 x0 14) = 0 then
    bd (fX9_no x0 1 h1) (fun r30 h30 =>
    some (r30, h30))
  else
  gd (inb 7 316) (
  bd (fX9_within x1 0 ((gI h1 (x0 + 3) (ix 7)) - 1) h1) (fun r22 h22 =>
  bif r22 then
    bv (fX9_seekTasks x0 h22) (fun h35 =>
    if 0 ≤ (gL h35 x0 29) then
      gd (inb x1 6) (
      some ((gI h35 (x0 + 14) (ix x1)), h35))
    else
    some ((-2), h35))
  else
  bd (fX9_no x0 1 h22) (fun r30 h30 =>
  some (r30, h30)))))
def fX9_best (x0 : Nat) (x1 : Int32) (h : HH) : Option (Int64 × HH) :=
  bv (fX9_good x0 h) (fun h1 =>
  if (gI h1 x0 14) = 0 then
    bd (fX9_no x0 1 h1) (fun r22 h22 =>
    some (r22.toInt64, h22))
  else
  bd (fX9_within x1 0 2 h1) (fun r14 h14 =>
  bif r14 then
    bv (fX9_seekTasks x0 h14) (fun h28 =>
    if 0 ≤ (gL h28 x0 29) then
      if x1 = 0 then
        some ((gL h28 x0 29), h28)
      else
      if x1 = 1 then
        some ((gL h28 x0 30), h28)
      else
      some ((gL h28 x0 31), h28)
    else
    some ((-2), h28))
  else
  bd (fX9_no x0 1 h14) (fun r22 h22 =>
  some (r22.toInt64, h22))))
def fX9_soonest (x0 : Nat) (h : HH) : Option (Int64 × HH) :=
  bv (fX9_good x0 h) (fun h1 =>
  if (gI h1 x0 14) = 0 then
    bd (fX9_no x0 1 h1) (fun r13 h13 =>
    some (r13.toInt64, h13))
  else
  bv (fX9_seekTasks x0 h1) (fun h19 =>
  some ((gL h19 x0 32), h19)))
def fX9_behind_L12 (x0 : Nat) (x1 : Int32) (x3 : Int32) (self12 : Int32 → Int32 → Int32 → Int32 → HH → Option (Int32 × HH)) (x4 : Int32) (x5 : Int32) (x6 : Int32) (x7 : Int32) (h : HH) : Option (Int32 × HH) :=
  gd (inb 4 316) (
  if (gI h (x0 + 3) (ix 4)) ≤ x7 then
    some (x5, h)
  else
  nm (x4 - x4 / 5 * 5) (fun y1 =>
  nm (x4 / 5) (fun y2 =>
  bd (fX9_hasBit x1 x7 h) (fun r42 h42 =>
  bif r42 then
    if y1 ≤ 0 then
      nm (x5 + (x6 * y1)) (fun y5 =>
      nm (x6 * 5) (fun y6 =>
      self12 y2 y5 y6 (x7 + 1) h42))
    else
    bd (fX9_broughtTo x0 x7 y1 0 x3 h42) (fun r60 h60 =>
    nm (x5 + (x6 * r60)) (fun y7 =>
    nm (x6 * 5) (fun y8 =>
    self12 y2 y7 y8 (x7 + 1) h60)))
  else
  nm (x5 + (x6 * y1)) (fun y3 =>
  nm (x6 * 5) (fun y4 =>
  self12 y2 y3 y4 (x7 + 1) h42))))))
def fX9_behind (x0 : Nat) (x1 : Int32) (x2 : Int32) (x3 : Int32) (h : HH) : Option (Int32 × HH) :=
  lq4 (fX9_behind_L12 x0 x1 x3) FU x2 0 1 0 h
def fX9_doSleep_L8 (x0 : Nat) (x1 : Int32) (self8 : Bool → Int32 → Int32 → HH → Option (Bool × HH)) (x3 : Bool) (x4 : Int32) (x5 : Int32) (h : HH) : Option (Bool × HH) :=
  gd (inb 4 316) (
  if (gI h (x0 + 3) (ix 4)) ≤ x5 then
    some (x3, h)
  else
  bif x3 then
    bd (fX9_hasBit x1 x5 h) (fun r26 h26 =>
    bif r26 then
      if (x4 - x4 / 5 * 5) ≤ 0 then
        nm (x4 / 5) (fun y3 =>
        self8 false y3 (x5 + 1) h26)
      else
      nm (x4 / 5) (fun y4 =>
      self8 true y4 (x5 + 1) h26)
    else
    nm (x4 / 5) (fun y2 =>
    self8 true y2 (x5 + 1) h26))
  else
  nm (x4 / 5) (fun y1 =>
  self8 false y1 (x5 + 1) h))
def fX9_doSleep (x0 : Nat) (x1 : Int32) (x2 : Int32) (h : HH) : Option (Bool × HH) :=
  lq3 (fX9_doSleep_L8 x0 x1) FU true x2 0 h
def fX9_codeNow_L7 (x0 : Nat) (x1 : Int32) (self7 : Int32 → Int32 → Int32 → HH → Option (Int32 × HH)) (x2 : Int32) (x3 : Int32) (x4 : Int32) (h : HH) : Option (Int32 × HH) :=
  gd (inb 4 316) (
  if (gI h (x0 + 3) (ix 4)) ≤ x4 then
    some (x2, h)
  else
  bd (fX9_hasBit x1 x4 h) (fun r23 h23 =>
  bif r23 then
    bd (fX9_its x0 x4 0 h23) (fun r33 h33 =>
    nm (x2 + (x3 * r33)) (fun y3 =>
    nm (x3 * 5) (fun y4 =>
    self7 y3 y4 (x4 + 1) h33)))
  else
  nm (x2 + (x3 * 0)) (fun y1 =>
  nm (x3 * 5) (fun y2 =>
  self7 y1 y2 (x4 + 1) h23))))
def fX9_codeNow (x0 : Nat) (x1 : Int32) (h : HH) : Option (Int32 × HH) :=
  lq3 (fX9_codeNow_L7 x0 x1) FU 0 1 0 h
def fX9_togetherOf_L2 (k2_22 : HH → Option (Int32 × HH)) (x0 : Nat) (x1 : Int32) (self2 : Int32 → HH → Option (Int32 × HH)) (x2 : Int32) (h : HH) : Option (Int32 × HH) :=
  if 3125 ≤ x2 then
    k2_22  h
  else
  gd (inb x2 3125) (
  self2 (x2 + 1) (sI h (x0 + 17) (ix x2) (-1)))
def fX9_togetherOf_L68 (k68_91 : Int32 → HH → Option (Int32 × HH)) (k68_194 : HH → Option (Int32 × HH)) (x0 : Nat) (x1 : Int32) (x3 : Int32) (x4 : Int32) (self68 : Int32 → HH → Option (Int32 × HH)) (x5 : Int32) (h : HH) : Option (Int32 × HH) :=
  if 10 ≤ x5 then
    k68_194  h
  else
  bd (fX9_behind x0 x1 x4 x5 h) (fun r81 h81 =>
  if r81 = 0 then
    k68_91 x5 h81
  else
  gd (inb r81 3125) (
  if 0 ≤ (gI h81 (x0 + 17) (ix r81)) then
    self68 (x5 + 1) h81
  else
  bd (fX9_doSleep x0 x1 r81 h81) (fun r127 h127 =>
  bif r127 then
    gd (inb x4 3125) (
    gd (inb r81 3125) (
    gd (inb r81 3125) (
    nm (sI (sI h127 (x0 + 17) (ix r81) ((gI h127 (x0 + 17) (ix x4)) + 1)) (x0 + 15) (ix r81) (((10 : Int32) * x4) + x5)) (fun g3 =>
    gd (inb (gI g3 x0 36) 3125) (
    nm (sI (sI g3 (x0 + 16) (ix (gI g3 x0 36)) r81) x0 36 ((gI (sI g3 (x0 + 16) (ix (gI g3 x0 36)) r81) x0 36) + 1)) (fun g4 =>
    self68 (x5 + 1) g4))))))
  else
  self68 (x5 + 1) h127)))
def fX9_togetherOf_L49 (k49_91 : Int32 → Int32 → HH → Option (Int32 × HH)) (x0 : Nat) (x1 : Int32) (self49 : Int32 → HH → Option (Int32 × HH)) (x3 : Int32) (h : HH) : Option (Int32 × HH) :=
  if (gI h x0 36) ≤ x3 then
    some ((-2), h)
  else
  gd (inb x3 3125) (
  nm (gI h (x0 + 16) (ix x3)) (fun y2 =>
  lq1 (fX9_togetherOf_L68 (fun x5 h =>
    k49_91 y2 x5 h) (fun  h =>
    self49 (x3 + 1) h) x0 x1 x3 y2) FU 1 h))
def fX9_togetherOf (x0 : Nat) (x1 : Int32) (h : HH) : Option (Int32 × HH) :=
  lq1 (fX9_togetherOf_L2 (fun  h =>
    bd (fX9_codeNow x0 x1 h) (fun r24 h24 =>
    gd (inb 0 3125) (
    gd (inb r24 3125) (
    nm (sI (sI h24 (x0 + 16) (ix 0) r24) (x0 + 17) (ix r24) 0) (fun g1 =>
    lq1 (fX9_togetherOf_L49 (fun x4 x5 h =>
      nm (sI (sI h x0 37 x4) x0 38 x5) (fun g5 =>
      gd (inb x4 3125) (
      some (((gI g5 (x0 + 17) (ix x4)) + 1), g5)))) x0 x1) FU 0 (sI g1 x0 36 1)))))) x0 x1) FU 0 h
def fX9_setWhy_L33 (x0 : Nat) (x1 : Int32) (self33 : Int32 → Int32 → HH → Option (Int32 × HH)) (x2 : Int32) (x3 : Int32) (h : HH) : Option (Int32 × HH) :=
  gd (inb 4 316) (
  if (gI h (x0 + 3) (ix 4)) ≤ x3 then
    some (0, h)
  else
  bd (fX9_hasBit x1 x3 h) (fun r45 h45 =>
  bif r45 then
    bd (fX9_its x0 x3 0 h45) (fun r57 h57 =>
    if r57 = 0 then
      some (5, h57)
    else
    if x2 ≤ 0 then
      bd (fX9_its x0 x3 1 h57) (fun r82 h82 =>
      self33 r82 (x3 + 1) h82)
    else
    bd (fX9_its x0 x3 1 h57) (fun r70 h70 =>
    if r70 = x2 then
      bd (fX9_its x0 x3 1 h70) (fun r82 h82 =>
      self33 r82 (x3 + 1) h82)
    else
    some (5, h70)))
  else
  self33 x2 (x3 + 1) h45))
def fX9_setWhy (x0 : Nat) (x1 : Int32) (h : HH) : Option (Int32 × HH) :=
  if (gI h x0 14) = 0 then
    some (1, h)
  else
  gd (inb 4 316) (
  bd (fX9_within x1 1 (((1 : Int32) <<< ((gI h (x0 + 3) (ix 4)) &&& 31)) - 1) h) (fun r21 h21 =>
  bif r21 then
    lq2 (fX9_setWhy_L33 x0 x1) FU 0 0 h21
  else
  some (2, h21)))
def fX9_together (x0 : Nat) (x1 : Int32) (h : HH) : Option (Int32 × HH) :=
  bv (fX9_good x0 h) (fun h1 =>
  bd (fX9_setWhy x0 x1 h1) (fun r6 h6 =>
  if r6 = 0 then
    bd (fX9_togetherOf x0 x1 h6) (fun r24 h24 =>
    some (r24, h24))
  else
  bd (fX9_no x0 r6 h6) (fun r16 h16 =>
  some (r16, h16))))
def fX9_togetherAt_L63 (x0 : Nat) (x2 : Int32) (self63 : Int32 → Int32 → Int32 → HH → Option (Int32 × HH)) (x5 : Int32) (x6 : Int32) (x7 : Int32) (h : HH) : Option (Int32 × HH) :=
  if x7 ≤ x2 then
    some (x5, h)
  else
  gd (inb x6 3125) (
  nm ((gI h (x0 + 15) (ix x6)) - (gI h (x0 + 15) (ix x6)) / 10 * 10) (fun y4 =>
  gd (inb x6 3125) (
  nm ((gI h (x0 + 15) (ix x6)) / 10) (fun y5 =>
  self63 y4 y5 (x7 + (-1)) h))))
def fX9_togetherAt (x0 : Nat) (x1 : Int32) (x2 : Int32) (h : HH) : Option (Int32 × HH) :=
  bv (fX9_good x0 h) (fun h1 =>
  bd (fX9_setWhy x0 x1 h1) (fun r6 h6 =>
  if r6 = 0 then
    bd (fX9_togetherOf x0 x1 h6) (fun r22 h22 =>
    bd (fX9_within x2 0 (r22 - 1) h22) (fun r33 h33 =>
    bif r33 then
      nm (gI h33 x0 38) (fun y1 =>
      nm (gI h33 x0 37) (fun y2 =>
      nm (r22 - 1) (fun y3 =>
      lq3 (fX9_togetherAt_L63 x0 x2) FU y1 y2 y3 h33)))
    else
    bd (fX9_no x0 1 h33) (fun r41 h41 =>
    some (r41, h41))))
  else
  bd (fX9_no x0 r6 h6) (fun r16 h16 =>
  some (r16, h16))))
def fX9_isDeep_L4 (x0 : Nat) (x1 : Int32) (self4 : Bool → Int32 → HH → Option (Bool × HH)) (x2 : Bool) (x3 : Int32) (h : HH) : Option (Bool × HH) :=
  gd (inb 8 316) (
  if (gI h (x0 + 3) (ix 8)) ≤ x3 then
    some (x2, h)
  else
  gd (inb (((154 : Int32) + ((3 : Int32) * x3)) + 1) 316) (
  nm (gI h (x0 + 3) (ix (((154 : Int32) + ((3 : Int32) * x3)) + 1))) (fun y1 =>
  bif x2 then
    gd (inb ((154 : Int32) + ((3 : Int32) * x3)) 316) (
    if (gI h (x0 + 3) (ix ((154 : Int32) + ((3 : Int32) * x3)))) = 0 then
      bd (fX9_quickOf x0 x1 h) (fun r55 h55 =>
      gd (inb (((154 : Int32) + ((3 : Int32) * x3)) + 2) 316) (
      if (y1.toInt64 * r55.toInt64) = ((gI h55 (x0 + 3) (ix (((154 : Int32) + ((3 : Int32) * x3)) + 2)))).toInt64 then
        self4 true (x3 + 1) h55
      else
      self4 false (x3 + 1) h55))
    else
    bd (fX9_quickOf x0 x1 h) (fun r67 h67 =>
    gd (!(r67 == 0)) (
    gd (inb (((154 : Int32) + ((3 : Int32) * x3)) + 2) 316) (
    if ((y1 / r67)).toInt64 = ((gI h67 (x0 + 3) (ix (((154 : Int32) + ((3 : Int32) * x3)) + 2)))).toInt64 then
      self4 true (x3 + 1) h67
    else
    self4 false (x3 + 1) h67))))
  else
  self4 false (x3 + 1) h)))
def fX9_isDeep (x0 : Nat) (x1 : Int32) (h : HH) : Option (Bool × HH) :=
  lq2 (fX9_isDeep_L4 x0 x1) FU true 0 h
def fX9_deepOnes_L4 (x0 : Nat) (self4 : Int32 → Int32 → HH → Option (Int32 × HH)) (x1 : Int32) (x2 : Int32) (h : HH) : Option (Int32 × HH) :=
  gd (inb 0 316) (
  if (gI h (x0 + 3) (ix 0)) < x2 then
    some (x1, h)
  else
  bd (fX9_isDeep x0 x2 h) (fun r17 h17 =>
  bif r17 then
    nm (x1 ||| ((1 : Int32) <<< (x2 &&& 31))) (fun y2 =>
    self4 y2 (x2 + 1) h17)
  else
  nm (x1 ||| 0) (fun y1 =>
  self4 y1 (x2 + 1) h17)))
def fX9_deepOnes (x0 : Nat) (h : HH) : Option (Int32 × HH) :=
  lq2 (fX9_deepOnes_L4 x0) FU 0 0 h
def fX9_deep (x0 : Nat) (h : HH) : Option (Int32 × HH) :=
  bv (fX9_good x0 h) (fun h1 =>
  if (gI h1 x0 14) = 0 then
    bd (fX9_no x0 1 h1) (fun r20 h20 =>
    some (r20, h20))
  else
  bd (fX9_deepOnes x0 h1) (fun r12 h12 =>
  some (r12, h12)))
def fX9_askOf_L41 (k41_105 : Int32 → HH → Option (Int32 × HH)) (x0 : Nat) (x1 : Int32) (x2 : Int32) (x3 : Int32) (x4 : Int32) (x5 : Int32) (self41 : Int32 → Int32 → HH → Option (Int32 × HH)) (x6 : Int32) (x7 : Int32) (h : HH) : Option (Int32 × HH) :=
  gd (inb 0 316) (
  if (gI h (x0 + 3) (ix 0)) < x7 then
    k41_105 x6 h
  else
  bd (fX9_hasBit x1 x5 h) (fun r57 h57 =>
  bif r57 then
    bd (fX9_hasBit x1 x7 h57) (fun r66 h66 =>
    bif r66 then
      bd (fX9_quickOf x0 x5 h66) (fun r76 h76 =>
      gd (!(r76 == 0)) (
      bd (fX9_quickOf x0 x7 h76) (fun r84 h84 =>
      gd (!(r84 == 0)) (
      if (x3 / r76) = (x3 / r84) then
        nm (x6 + 1) (fun y4 =>
        self41 y4 (x7 + 1) h84)
      else
      nm (x6 + 0) (fun y3 =>
      self41 y3 (x7 + 1) h84)))))
    else
    nm (x6 + 0) (fun y2 =>
    self41 y2 (x7 + 1) h66))
  else
  nm (x6 + 0) (fun y1 =>
  self41 y1 (x7 + 1) h57)))
def fX9_askOf_L24 (k24_127 : Int32 → HH → Option (Int32 × HH)) (x0 : Nat) (x1 : Int32) (x2 : Int32) (x3 : Int32) (self24 : Int32 → Int32 → HH → Option (Int32 × HH)) (x4 : Int32) (x5 : Int32) (h : HH) : Option (Int32 × HH) :=
  gd (inb 0 316) (
  if (gI h (x0 + 3) (ix 0)) < x5 then
    k24_127 x4 h
  else
  lq2 (fX9_askOf_L41 (fun x6 h =>
    if x6 ≤ x4 then
      self24 x4 (x5 + 1) h
    else
    self24 x6 (x5 + 1) h) x0 x1 x2 x3 x4 x5) FU 0 0 h)
def fX9_askOf_L11 (x0 : Nat) (x1 : Int32) (self11 : Int32 → Int32 → HH → Option (Int32 × HH)) (x2 : Int32) (x3 : Int32) (h : HH) : Option (Int32 × HH) :=
  if 9999 < x3 then
    some (x2, h)
  else
  lq2 (fX9_askOf_L24 (fun x4 h =>
    if x4 < (gI h x0 39) then
      self11 x3 (x3 + 1) (sI h x0 39 x4)
    else
    self11 x2 (x3 + 1) h) x0 x1 x2 x3) FU 0 0 h
def fX9_askOf (x0 : Nat) (x1 : Int32) (h : HH) : Option (Int32 × HH) :=
  lq2 (fX9_askOf_L11 x0 x1) FU (-1) 1 (sI h x0 39 1000000)
def fX9_askWhy (x0 : Nat) (h : HH) : Option (Int32 × HH) :=
  if (gI h x0 14) = 0 then
    some (1, h)
  else
  bd (fX9_deepOnes x0 h) (fun r12 h12 =>
  bd (fX9_ones r12 h12) (fun r15 h15 =>
  if 2 ≤ r15 then
    some (0, h15)
  else
  some (6, h15)))
def fX9_ask (x0 : Nat) (h : HH) : Option (Int32 × HH) :=
  bv (fX9_good x0 h) (fun h1 =>
  bd (fX9_askWhy x0 h1) (fun r5 h5 =>
  if r5 = 0 then
    bd (fX9_deepOnes x0 h5) (fun r23 h23 =>
    bd (fX9_askOf x0 r23 h23) (fun r26 h26 =>
    some (r26, h26)))
  else
  bd (fX9_no x0 r5 h5) (fun r15 h15 =>
  some (r15, h15))))
def fX9_askMost (x0 : Nat) (h : HH) : Option (Int32 × HH) :=
  bv (fX9_good x0 h) (fun h1 =>
  bd (fX9_askWhy x0 h1) (fun r5 h5 =>
  if r5 = 0 then
    bd (fX9_deepOnes x0 h5) (fun r21 h21 =>
    bd (fX9_askOf x0 r21 h21) (fun r24 h24 =>
    some ((gI h24 x0 39), h24)))
  else
  bd (fX9_no x0 r5 h5) (fun r15 h15 =>
  some (r15, h15))))
def fX9_isUpward (x0 : Nat) (x1 : Int32) (x2 : Int32) (h : HH) : Option (Bool × HH) :=
  bd (fX9_isFloor x0 x1 h) (fun r2 h2 =>
  bif r2 then
    bd (fX9_isFloor x0 x2 h2) (fun r10 h10 =>
    bif r10 then
      if x1 ≤ x2 then
        some (false, h10)
      else
      some (true, h10)
    else
    some (false, h10))
  else
  some (false, h2))
def fX9_ratio (x0 : Nat) (x1 : Int32) (x2 : Int32) (h : HH) : Option (Int32 × HH) :=
  bd (fX9_quickOf x0 x1 h) (fun r2 h2 =>
  bd (fX9_quickOf x0 x2 h2) (fun r7 h7 =>
  gd (!(r7 == 0)) (
  some ((r2 / r7), h7))))
def fX9_letter (x0 : Nat) (x1 : Int32) (x2 : Int32) (x3 : Int32) (h : HH) : Option (Int32 × HH) :=
  bv (fX9_good x0 h) (fun h1 =>
  bd (fX9_isUpward x0 x1 x2 h1) (fun r7 h7 =>
  bif r7 then
    bd (fX9_within x3 0 9999 h7) (fun r24 h24 =>
    bif r24 then
      bd (fX9_ratio x0 x1 x2 h24) (fun r34 h34 =>
      gd (!(r34 == 0)) (
      some ((x3 / r34), h34)))
    else
    bd (fX9_no x0 2 h24) (fun r43 h43 =>
    some (r43, h43)))
  else
  bd (fX9_no x0 1 h7) (fun r15 h15 =>
  some (r15, h15))))
def fX9_tells_L60 (x4 : Int32) (self60 : Int32 → Int32 → HH → Option (Int32 × HH)) (x5 : Int32) (x6 : Int32) (h : HH) : Option (Int32 × HH) :=
  if x6 ≤ 0 then
    if x5 ≤ 1000000 then
      some (x5, h)
    else
    some (1000000, h)
  else
  if 1000000 ≤ x5 then
    if x5 ≤ 1000000 then
      some (x5, h)
    else
    some (1000000, h)
  else
  nm (x5 * x4) (fun y2 =>
  self60 y2 (x6 + (-1)) h)
def fX9_tells (x0 : Nat) (x1 : Int32) (x2 : Int32) (x3 : Int32) (x4 : Int32) (h : HH) : Option (Int32 × HH) :=
  bv (fX9_good x0 h) (fun h1 =>
  bd (fX9_isUpward x0 x1 x2 h1) (fun r7 h7 =>
  bif r7 then
    bd (fX9_within x3 0 9999 h7) (fun r24 h24 =>
    bif r24 then
      bd (fX9_within x4 2 26 h24) (fun r35 h35 =>
      bif r35 then
        bd (fX9_ratio x0 x1 x2 h35) (fun r54 h54 =>
        gd (!(r54 == 0)) (
        nm (x3 / r54) (fun y1 =>
        lq2 (fX9_tells_L60 x4) FU 1 y1 h54)))
      else
      bd (fX9_no x0 2 h35) (fun r43 h43 =>
      some (r43, h43)))
    else
    bd (fX9_no x0 2 h24) (fun r43 h43 =>
    some (r43, h43)))
  else
  bd (fX9_no x0 1 h7) (fun r15 h15 =>
  some (r15, h15))))
def fX9_words_L55 (x0 : Nat) (x1 : Int32) (x2 : Int32) (x3 : Int32) (x4 : Int32) (self55 : Int64 → Int64 → HH → Option (Int64 × HH)) (x5 : Int64) (x7 : Int64) (h : HH) : Option (Int64 × HH) :=
  if x3.toInt64 ≤ x7 then
    bd (fX9_ratio x0 x1 x2 h) (fun r85 h85 =>
    some ((x5 * r85.toInt64), h85))
  else
  nm (x5 + 1) (fun y1 =>
  nm (x7 * x4.toInt64) (fun y2 =>
  self55 y1 y2 h))
def fX9_words (x0 : Nat) (x1 : Int32) (x2 : Int32) (x3 : Int32) (x4 : Int32) (h : HH) : Option (Int64 × HH) :=
  bv (fX9_good x0 h) (fun h1 =>
  bd (fX9_isUpward x0 x1 x2 h1) (fun r7 h7 =>
  bif r7 then
    bd (fX9_within x3 1 1000000 h7) (fun r25 h25 =>
    bif r25 then
      bd (fX9_within x4 2 26 h25) (fun r36 h36 =>
      bif r36 then
        lq2 (fX9_words_L55 x0 x1 x2 x3 x4) FU 0 1 h36
      else
      bd (fX9_no x0 2 h36) (fun r44 h44 =>
      some (r44.toInt64, h44)))
    else
    bd (fX9_no x0 2 h25) (fun r44 h44 =>
    some (r44.toInt64, h44)))
  else
  bd (fX9_no x0 1 h7) (fun r15 h15 =>
  some (r15.toInt64, h15))))
def fX9_tillThere (x0 : Nat) (x1 : Int32) (x2 : Int32) (x3 : Int32) (h : HH) : Option (Int64 × HH) :=
  bd (fX9_its x0 x1 1 h) (fun r4 h4 =>
  if r4 = (x2 + 1) then
    bd (fX9_its x0 x1 0 h4) (fun r16 h16 =>
    bd (fX9_down x0 r16 x3 h16) (fun r24 h24 =>
    some (r24, h24)))
  else
  bd (fX9_down x0 0 x3 h4) (fun r24 h24 =>
  some (r24, h24)))
def fX9_meetWhy (x0 : Nat) (x1 : Int32) (x2 : Int32) (x3 : Int32) (h : HH) : Option (Int32 × HH) :=
  bd (fX9_isSleeper x0 x1 h) (fun r2 h2 =>
  bif r2 then
    bd (fX9_isSleeper x0 x2 h2) (fun r10 h10 =>
    bif r10 then
      if x1 = x2 then
        some (1, h10)
      else
      bd (fX9_isFloor x0 x3 h10) (fun r23 h23 =>
      bif r23 then
        if x3 = 0 then
          some (1, h23)
        else
        some (0, h23)
      else
      some (1, h23))
    else
    some (1, h10))
  else
  some (1, h2))
def fX9_meetHead_L6 (x0 : Nat) (x1 : Int32) (x2 : Int32) (x3 : Int32) (self6 : Int32 → Int32 → HH → Option (Int32 × HH)) (x4 : Int32) (x5 : Int32) (h : HH) : Option (Int32 × HH) :=
  gd (inb 3 316) (
  if (gI h (x0 + 3) (ix 3)) ≤ x5 then
    some (x4, h)
  else
  bd (fX9_tillThere x0 x1 x5 x3 h) (fun r22 h22 =>
  bd (fX9_tillThere x0 x2 x5 x3 h22) (fun r32 h32 =>
  if r22 ≤ r32 then
    if x4 < 0 then
      self6 x5 (x5 + 1) (sL h32 x0 40 r32)
    else
    if r32 < (gL h32 x0 40) then
      self6 x5 (x5 + 1) (sL h32 x0 40 r32)
    else
    self6 x4 (x5 + 1) h32
  else
  if x4 < 0 then
    self6 x5 (x5 + 1) (sL h32 x0 40 r22)
  else
  if r22 < (gL h32 x0 40) then
    self6 x5 (x5 + 1) (sL h32 x0 40 r22)
  else
  self6 x4 (x5 + 1) h32)))
def fX9_meetHead (x0 : Nat) (x1 : Int32) (x2 : Int32) (x3 : Int32) (h : HH) : Option (Int32 × HH) :=
  lq2 (fX9_meetHead_L6 x0 x1 x2 x3) FU (-1) 0 h
def fX9_meeting (x0 : Nat) (x1 : Int32) (x2 : Int32) (x3 : Int32) (h : HH) : Option (Int64 × HH) :=
  bv (fX9_good x0 h) (fun h1 =>
  bd (fX9_meetWhy x0 x1 x2 x3 h1) (fun r8 h8 =>
  if r8 = 0 then
    bd (fX9_meetHead x0 x1 x2 x3 h8) (fun r30 h30 =>
    some ((gL h30 x0 40), h30))
  else
  bd (fX9_no x0 r8 h8) (fun r21 h21 =>
  some (r21.toInt64, h21))))
def fX9_meetingHead (x0 : Nat) (x1 : Int32) (x2 : Int32) (x3 : Int32) (h : HH) : Option (Int32 × HH) :=
  bv (fX9_good x0 h) (fun h1 =>
  bd (fX9_meetWhy x0 x1 x2 x3 h1) (fun r8 h8 =>
  if r8 = 0 then
    bd (fX9_meetHead x0 x1 x2 x3 h8) (fun r31 h31 =>
    some (r31, h31))
  else
  bd (fX9_no x0 r8 h8) (fun r21 h21 =>
  some (r21, h21))))
def fX9_gainOf (x0 : Nat) (x1 : Int32) (x2 : Int32) (x3 : Int64) (h : HH) : Option (Int64 × HH) :=
  if x2 = 0 then
    some (0, h)
  else
  bd (fX9_quickOf x0 x2 h) (fun r11 h11 =>
  bd (fX9_of x0 x1 2 h11) (fun r19 h19 =>
  some (((x3 * r11.toInt64) - ((r19.toInt64 * x2.toInt64) * x2.toInt64)), h19)))
def fX9_takesOf_L4 (x0 : Nat) (x1 : Int32) (self4 : Int32 → Int32 → HH → Option (Int32 × HH)) (x2 : Int32) (x3 : Int32) (h : HH) : Option (Int32 × HH) :=
  gd (inb 0 316) (
  if (gI h (x0 + 3) (ix 0)) < x3 then
    some (x2, h)
  else
  gd (inb (((150 : Int32) + x3) - 1) 316) (
  bd (fX9_gainOf x0 x1 x3 (((gI h (x0 + 3) (ix (((150 : Int32) + x3) - 1)))).toInt64) h) (fun r30 h30 =>
  if x2 = 0 then
    bd (fX9_gainOf x0 x1 x2 0 h30) (fun r57 h57 =>
    if r30 ≤ r57 then
      self4 x2 (x3 + 1) h57
    else
    self4 x3 (x3 + 1) h57)
  else
  gd (inb (((150 : Int32) + x2) - 1) 316) (
  bd (fX9_gainOf x0 x1 x2 (((gI h30 (x0 + 3) (ix (((150 : Int32) + x2) - 1)))).toInt64) h30) (fun r57 h57 =>
  if r30 ≤ r57 then
    self4 x2 (x3 + 1) h57
  else
  self4 x3 (x3 + 1) h57)))))
def fX9_takesOf (x0 : Nat) (x1 : Int32) (h : HH) : Option (Int32 × HH) :=
  lq2 (fX9_takesOf_L4 x0 x1) FU 0 1 h
def fX9_payWhy (x0 : Nat) (x1 : Int32) (h : HH) : Option (Int32 × HH) :=
  bd (fX9_isSleeper x0 x1 h) (fun r2 h2 =>
  bif r2 then
    gd (inb 10 316) (
    if (gI h2 (x0 + 3) (ix 10)) = 1 then
      some (0, h2)
    else
    some (6, h2))
  else
  some (1, h2))
def fX9_takes (x0 : Nat) (x1 : Int32) (h : HH) : Option (Int32 × HH) :=
  bv (fX9_good x0 h) (fun h1 =>
  bd (fX9_payWhy x0 x1 h1) (fun r6 h6 =>
  if r6 = 0 then
    bd (fX9_takesOf x0 x1 h6) (fun r24 h24 =>
    some (r24, h24))
  else
  bd (fX9_no x0 r6 h6) (fun r16 h16 =>
  some (r16, h16))))
def fX9_gains (x0 : Nat) (x1 : Int32) (h : HH) : Option (Int64 × HH) :=
  bv (fX9_good x0 h) (fun h1 =>
  bd (fX9_payWhy x0 x1 h1) (fun r6 h6 =>
  if r6 = 0 then
    bd (fX9_takesOf x0 x1 h6) (fun r23 h23 =>
    if r23 = 0 then
      bd (fX9_gainOf x0 x1 r23 0 h23) (fun r51 h51 =>
      some (r51, h51))
    else
    gd (inb (((150 : Int32) + r23) - 1) 316) (
    bd (fX9_gainOf x0 x1 r23 (((gI h23 (x0 + 3) (ix (((150 : Int32) + r23) - 1)))).toInt64) h23) (fun r51 h51 =>
    some (r51, h51))))
  else
  bd (fX9_no x0 r6 h6) (fun r16 h16 =>
  some (r16.toInt64, h16))))
def fX9_doesTake_b62 (self15 : Bool → Int32 → HH → Option (Bool × HH)) (x0 : Nat) (x1 : Int32) (x2 : Int32) (x5 : Int64) (x7 : Bool) (x8 : Int32) (s0 : Int64) (s1 : Int32) (s2 : Int32) (h : HH) : Option (Bool × HH) :=
  bd (fX9_gainOf x0 s2 s1 s0 h) (fun r62 h62 =>
  bif x7 then
    if x2 ≤ x8 then
      if x5 < r62 then
        self15 false (x8 + 1) h62
      else
      self15 true (x8 + 1) h62
    else
    if x5 ≤ r62 then
      self15 false (x8 + 1) h62
    else
    self15 true (x8 + 1) h62
  else
  self15 false (x8 + 1) h62)
def fX9_doesTake_L15 (x0 : Nat) (x1 : Int32) (x2 : Int32) (x5 : Int64) (self15 : Bool → Int32 → HH → Option (Bool × HH)) (x7 : Bool) (x8 : Int32) (h : HH) : Option (Bool × HH) :=
  gd (inb 0 316) (
  if (gI h (x0 + 3) (ix 0)) < x8 then
    some (x7, h)
  else
  if x8 = x2 then
    self15 x7 (x8 + 1) h
  else
  if x8 = 0 then
    fX9_doesTake_b62 self15 x0 x1 x2 x5 x7 x8 0 x8 x1 h
  else
  gd (inb (((150 : Int32) + x8) - 1) 316) (
  fX9_doesTake_b62 self15 x0 x1 x2 x5 x7 x8 (((gI h (x0 + 3) (ix (((150 : Int32) + x8) - 1)))).toInt64) x8 x1 h))
def fX9_doesTake (x0 : Nat) (x1 : Int32) (x2 : Int32) (x3 : Int64) (h : HH) : Option (Bool × HH) :=
  bd (fX9_gainOf x0 x1 x2 x3 h) (fun r4 h4 =>
  lq2 (fX9_doesTake_L15 x0 x1 x2 r4) FU true 0 h4)
def fX9_price_L69 (x0 : Nat) (x1 : Int32) (x2 : Int32) (self69 : Int32 → Int32 → HH → Option (Int32 × HH)) (x4 : Int32) (x5 : Int32) (h : HH) : Option (Int32 × HH) :=
  if (x5 - x4) ≤ 1 then
    some (x5, h)
  else
  nm (x4 + ((x5 - x4) / 2)) (fun y1 =>
  bd (fX9_doesTake x0 x1 x2 y1.toInt64 h) (fun r96 h96 =>
  bif r96 then
    self69 x4 y1 h96
  else
  self69 y1 x5 h96))
def fX9_price (x0 : Nat) (x1 : Int32) (x2 : Int32) (h : HH) : Option (Int32 × HH) :=
  bv (fX9_good x0 h) (fun h1 =>
  bd (fX9_isSleeper x0 x1 h1) (fun r6 h6 =>
  bif r6 then
    bd (fX9_isFloor x0 x2 h6) (fun r14 h14 =>
    bif r14 then
      if x2 = 0 then
        bd (fX9_no x0 1 h14) (fun r26 h26 =>
        some (r26, h26))
      else
      bd (fX9_payWhy x0 x1 h14) (fun r32 h32 =>
      if r32 = 0 then
        bd (fX9_doesTake x0 x1 x2 99999 h32) (fun r52 h52 =>
        bif r52 then
          lq2 (fX9_price_L69 x0 x1 x2) FU (-1) 99999 h52
        else
        some ((-2), h52))
      else
      bd (fX9_no x0 r32 h32) (fun r42 h42 =>
      some (r42, h42)))
    else
    bd (fX9_no x0 1 h14) (fun r26 h26 =>
    some (r26, h26)))
  else
  bd (fX9_no x0 1 h6) (fun r26 h26 =>
  some (r26, h26))))
def fX9_enough (x0 : Nat) (x1 : Int32) (x2 : Int32) (h : HH) : Option (Int32 × HH) :=
  bv (fX9_good x0 h) (fun h1 =>
  bd (fX9_isSleeper x0 x1 h1) (fun r6 h6 =>
  bif r6 then
    bd (fX9_isFloor x0 x2 h6) (fun r14 h14 =>
    bif r14 then
      if x2 = 0 then
        bd (fX9_no x0 1 h14) (fun r26 h26 =>
        some (r26, h26))
      else
      bd (fX9_of x0 x1 2 h14) (fun r33 h33 =>
      bd (fX9_quickOf x0 x2 h33) (fun r42 h42 =>
      gd (!(r42 == 0)) (
      nm ((((r33 * x2) * x2) / r42) + 1) (fun y1 =>
      if y1 ≤ 99999 then
        some (y1, h42)
      else
      some ((-2), h42)))))
    else
    bd (fX9_no x0 1 h14) (fun r26 h26 =>
    some (r26, h26)))
  else
  bd (fX9_no x0 1 h6) (fun r26 h26 =>
  some (r26, h26))))
def fX9_doRatesFit_L37 (k37_69 : Int64 → HH → Option (Bool × HH)) (x0 : Nat) (x1 : Bool) (x2 : Int32) (x3 : Int32) (self37 : Int64 → Int32 → HH → Option (Bool × HH)) (x4 : Int64) (x6 : Int32) (h : HH) : Option (Bool × HH) :=
  gd (inb (x3 + 1) 316) (
  if (gI h (x0 + 3) (ix (x3 + 1))) ≤ x6 then
    k37_69 x4 h
  else
  gd (inb x6 4) (
  nm (x4 * (((gI h (x0 + 19) (ix x6))).toInt64)) (fun y3 =>
  self37 y3 (x6 + 1) h)))
def fX9_doRatesFit_L4 (x0 : Nat) (self4 : Bool → Int32 → HH → Option (Bool × HH)) (x1 : Bool) (x2 : Int32) (h : HH) : Option (Bool × HH) :=
  gd (inb 9 316) (
  if (gI h (x0 + 3) (ix 9)) ≤ x2 then
    some (x1, h)
  else
  nm ((172 : Int32) + ((3 : Int32) * x2)) (fun y1 =>
  gd (inb (y1 + 2) 316) (
  nm (((gI h (x0 + 3) (ix (y1 + 2)))).toInt64) (fun y2 =>
  lq2 (fX9_doRatesFit_L37 (fun x4 h =>
    bif x1 then
      gd (inb y1 316) (
      if x4 = ((gI h (x0 + 3) (ix y1))).toInt64 then
        self4 true (x2 + 1) h
      else
      self4 false (x2 + 1) h)
    else
    self4 false (x2 + 1) h) x0 x1 x2 y1) FU y2 0 h))))
def fX9_doRatesFit (x0 : Nat) (h : HH) : Option (Bool × HH) :=
  lq2 (fX9_doRatesFit_L4 x0) FU true 0 h
def fX9_seekRates_L7 (k7_25 : HH → Option (HH)) (x0 : Nat) (self7 : Int32 → HH → Option (HH)) (x1 : Int32) (h : HH) : Option (HH) :=
  if 4 ≤ x1 then
    k7_25  h
  else
  gd (inb x1 4) (
  self7 (x1 + 1) (sI h (x0 + 18) (ix x1) 0))
def fX9_seekRates_L29 (k29_50 : Int32 → HH → Option (HH)) (x0 : Nat) (self29 : Int32 → Int32 → HH → Option (HH)) (x1 : Int32) (x2 : Int32) (h : HH) : Option (HH) :=
  gd (inb 0 316) (
  if (gI h (x0 + 3) (ix 0)) ≤ x2 then
    k29_50 x1 h
  else
  nm (x1 * 11) (fun y1 =>
  self29 y1 (x2 + 1) h))
def fX9_seekRates_L62 (k62_97 : HH → Option (HH)) (x0 : Nat) (x1 : Int32) (x2 : Int32) (self62 : Int32 → Int32 → HH → Option (HH)) (x3 : Int32) (x4 : Int32) (h : HH) : Option (HH) :=
  gd (inb 0 316) (
  if (gI h (x0 + 3) (ix 0)) ≤ x4 then
    k62_97  h
  else
  gd (inb x4 4) (
  nm (x3 / 11) (fun y2 =>
  self62 y2 (x4 + 1) (sI h (x0 + 19) (ix x4) ((2 : Int32) + (x3 - x3 / 11 * 11))))))
def fX9_seekRates_L120 (k120_156 : HH → Option (HH)) (x0 : Nat) (x1 : Int32) (x2 : Int32) (self120 : Int32 → HH → Option (HH)) (x4 : Int32) (h : HH) : Option (HH) :=
  gd (inb 0 316) (
  if (gI h (x0 + 3) (ix 0)) ≤ x4 then
    k120_156  h
  else
  gd (inb x4 4) (
  gd (inb x4 4) (
  gd (inb x4 4) (
  nm (sI h (x0 + 18) (ix x4) ((gI h (x0 + 18) (ix x4)) ||| ((1 : Int32) <<< ((gI h (x0 + 19) (ix x4)) &&& 31)))) (fun g3 =>
  self120 (x4 + 1) g3)))))
def fX9_seekRates_L52 (x0 : Nat) (x1 : Int32) (self52 : Int32 → HH → Option (HH)) (x2 : Int32) (h : HH) : Option (HH) :=
  if x1 ≤ x2 then
    some h
  else
  lq2 (fX9_seekRates_L62 (fun  h =>
    bd (fX9_doRatesFit x0 h) (fun r98 h98 =>
    bif r98 then
      lq1 (fX9_seekRates_L120 (fun  h =>
        self52 (x2 + 1) h) x0 x1 x2) FU 0 (sI h98 x0 41 ((gI h98 x0 41) + 1))
    else
    self52 (x2 + 1) h98)) x0 x1 x2) FU x2 0 h
def fX9_seekRates (x0 : Nat) (h : HH) : Option (HH) :=
  lq1 (fX9_seekRates_L7 (fun  h =>
    lq2 (fX9_seekRates_L29 (fun x1 h =>
      lq1 (fX9_seekRates_L52 x0 x1) FU 0 h) x0) FU 1 0 h) x0) FU 0 (sI h x0 41 0)
def fX9_rates (x0 : Nat) (h : HH) : Option (Int32 × HH) :=
  bv (fX9_good x0 h) (fun h1 =>
  if (gI h1 x0 14) = 0 then
    bd (fX9_no x0 1 h1) (fun r13 h13 =>
    some (r13, h13))
  else
  bv (fX9_seekRates x0 h1) (fun h18 =>
  some ((gI h18 x0 41), h18)))
def fX9_rate_L28 (x0 : Nat) (x1 : Int32) (self28 : Int32 → HH → Option (Int32 × HH)) (x2 : Int32) (h : HH) : Option (Int32 × HH) :=
  if 13 ≤ x2 then
    some ((-2), h)
  else
  gd (inb (x1 - 1) 4) (
  if (gI h (x0 + 18) (ix (x1 - 1))) = ((1 : Int32) <<< (x2 &&& 31)) then
    some (x2, h)
  else
  self28 (x2 + 1) h)
def fX9_rate (x0 : Nat) (x1 : Int32) (h : HH) : Option (Int32 × HH) :=
  bv (fX9_good x0 h) (fun h1 =>
  bd (fX9_isFloor x0 x1 h1) (fun r6 h6 =>
  bif r6 then
    if x1 = 0 then
      bd (fX9_no x0 1 h6) (fun r18 h18 =>
      some (r18, h18))
    else
    bv (fX9_seekRates x0 h6) (fun h23 =>
    lq1 (fX9_rate_L28 x0 x1) FU 2 h23)
  else
  bd (fX9_no x0 1 h6) (fun r18 h18 =>
  some (r18, h18))))
def fX9_waking_L62 (k62_82 : Int64 → HH → Option (Int64 × HH)) (x2 : Int32) (x3 : Int32) (x4 : Bool) (x5 : Int64) (self62 : Int64 → Int32 → HH → Option (Int64 × HH)) (x9 : Int64) (x11 : Int32) (h : HH) : Option (Int64 × HH) :=
  if x3 ≤ x11 then
    k62_82 x9 h
  else
  nm (x9 * 100) (fun y2 =>
  self62 y2 (x11 + 1) h)
def fX9_waking_L97 (k97_126 : Int64 → HH → Option (Int64 × HH)) (x3 : Int32) (x4 : Bool) (x5 : Int64) (x7 : Int64) (x9 : Int64) (x11 : Int32) (self97 : Int64 → Int32 → HH → Option (Int64 × HH)) (x12 : Int64) (x14 : Int32) (h : HH) : Option (Int64 × HH) :=
  if x11 ≤ x14 then
    k97_126 x12 h
  else
  gd (!((((x14 + 1)).toInt64) == 0)) (
  nm ((x12 * (((x3 - x14)).toInt64)) / (((x14 + 1)).toInt64)) (fun y3 =>
  self97 y3 (x14 + 1) h))
def fX9_waking_L129 (k129_164 : Int64 → HH → Option (Int64 × HH)) (x3 : Int32) (x4 : Bool) (x5 : Int64) (x7 : Int64) (x9 : Int64) (x11 : Int32) (self129 : Int64 → Int32 → HH → Option (Int64 × HH)) (x12 : Int64) (x14 : Int32) (h : HH) : Option (Int64 × HH) :=
  if x3 ≤ x14 then
    k129_164 x12 h
  else
  if x11 ≤ x14 then
    nm (x12 * ((100 : Int64) - x5)) (fun y4 =>
    self129 y4 (x14 + 1) h)
  else
  nm (x12 * x5) (fun y5 =>
  self129 y5 (x14 + 1) h)
def fX9_waking_L85 (x3 : Int32) (x4 : Bool) (x5 : Int64) (x9 : Int64) (self85 : Int64 → Int32 → HH → Option (Int64 × HH)) (x7 : Int64) (x11 : Int32) (h : HH) : Option (Int64 × HH) :=
  if x3 < x11 then
    bd (fX9_lowest x7 x9 x4 h) (fun r183 h183 =>
    some (r183, h183))
  else
  lq2 (fX9_waking_L97 (fun x12 h =>
    lq2 (fX9_waking_L129 (fun x12 h =>
      nm (x7 + x12) (fun y6 =>
      self85 y6 (x11 + 1) h)) x3 x4 x5 x7 x9 x11) FU x12 0 h) x3 x4 x5 x7 x9 x11) FU 1 0 h
def fX9_waking (x0 : Nat) (x1 : Int32) (x2 : Int32) (x3 : Int32) (x4 : Bool) (h : HH) : Option (Int64 × HH) :=
  bv (fX9_good x0 h) (fun h1 =>
  bd (fX9_isSleeper x0 x1 h1) (fun r6 h6 =>
  bif r6 then
    bd (fX9_isFloor x0 x2 h6) (fun r14 h14 =>
    bif r14 then
      bd (fX9_within x3 0 8 h14) (fun r31 h31 =>
      bif r31 then
        bd (fX9_of x0 x1 3 h31) (fun r47 h47 =>
        nm r47.toInt64 (fun y1 =>
        lq2 (fX9_waking_L62 (fun x9 h =>
          lq2 (fX9_waking_L85 x3 x4 y1 x9) FU 0 x2 h) x2 x3 x4 y1) FU 1 0 h47))
      else
      bd (fX9_no x0 2 h31) (fun r39 h39 =>
      some (r39.toInt64, h39)))
    else
    bd (fX9_no x0 1 h14) (fun r22 h22 =>
    some (r22.toInt64, h22)))
  else
  bd (fX9_no x0 1 h6) (fun r22 h22 =>
  some (r22.toInt64, h22))))
def fX9_mean (x0 : Nat) (x1 : Int32) (x2 : Int32) (x3 : Bool) (h : HH) : Option (Int64 × HH) :=
  bv (fX9_good x0 h) (fun h1 =>
  bd (fX9_isSleeper x0 x1 h1) (fun r6 h6 =>
  bif r6 then
    bd (fX9_isFloor x0 x2 h6) (fun r14 h14 =>
    bif r14 then
      bd (fX9_of x0 x1 3 h14) (fun r30 h30 =>
      if x2 = 0 then
        bif x3 then
          some (1, h30)
        else
        some (0, h30)
      else
      if r30 = 0 then
        some ((-2), h30)
      else
      bd (fX9_lowest ((100 : Int64) * x2.toInt64) r30.toInt64 x3 h30) (fun r70 h70 =>
      some (r70, h70)))
    else
    bd (fX9_no x0 1 h14) (fun r22 h22 =>
    some (r22.toInt64, h22)))
  else
  bd (fX9_no x0 1 h6) (fun r22 h22 =>
  some (r22.toInt64, h22))))
def fX9_note_b79 (x0 : Nat) (h : HH) : Option (HH) :=
  bv (fX9_copy (x0 + 5) 0 (x0 + 6) ((20 : Int32) * (gI h x0 25)) 20 h) (fun h97 =>
  bv (fX9_copyLongs (x0 + 9) 0 (x0 + 10) ((31 : Int32) * (gI h97 x0 25)) h97) (fun h116 =>
  some (sI h116 x0 25 ((gI h116 x0 25) + 1))))
def fX9_note_L11 (k11_39 : HH → Option (HH)) (x0 : Nat) (self11 : Int32 → HH → Option (HH)) (x1 : Int32) (h : HH) : Option (HH) :=
  if 220 ≤ x1 then
    k11_39  h
  else
  gd (inb (x1 + 20) 240) (
  gd (inb x1 240) (
  self11 (x1 + 1) (sI h (x0 + 6) (ix x1) (gI h (x0 + 6) (ix (x1 + 20))))))
def fX9_note_L41 (k41_69 : HH → Option (HH)) (x0 : Nat) (self41 : Int32 → HH → Option (HH)) (x1 : Int32) (h : HH) : Option (HH) :=
  if 341 ≤ x1 then
    k41_69  h
  else
  gd (inb (x1 + 31) 372) (
  gd (inb x1 372) (
  self41 (x1 + 1) (sL h (x0 + 10) (ix x1) (gL h (x0 + 10) (ix (x1 + 31))))))
def fX9_note (x0 : Nat) (h : HH) : Option (HH) :=
  if (gI h x0 25) = 12 then
    lq1 (fX9_note_L11 (fun  h =>
      lq1 (fX9_note_L41 (fun  h =>
        fX9_note_b79 x0 (sI h x0 25 ((gI h x0 25) - 1))) x0) FU 0 h) x0) FU 0 h
  else
  fX9_note_b79 x0 h
def fX9_pass (x0 : Nat) (x1 : Int32) (x2 : Int32) (h : HH) : Option (Int32 × HH) :=
  bv (fX9_good x0 h) (fun h1 =>
  bd (fX9_isFloor x0 x1 h1) (fun r6 h6 =>
  bif r6 then
    bd (fX9_within x2 1 999 h6) (fun r23 h23 =>
    bif r23 then
      gd (inb 0 31) (
      bd (fX9_minute x0 x1 h23) (fun r45 h45 =>
      nm ((gL h23 (x0 + 9) (ix 0)) + (x2.toInt64 * r45)) (fun y1 =>
      bd (fX9_bottom x0 h45) (fun r56 h56 =>
      if y1 ≤ ((1200 : Int64) * r56.toInt64) then
        bv (fX9_note x0 h56) (fun h72 =>
        bv (fX9_goOn x0 y1 h72) (fun h77 =>
        gd (inb 0 31) (
        bd (fX9_bottom x0 h77) (fun r87 h87 =>
        gd (!(r87.toInt64 == 0)) (
        some (((gL h77 (x0 + 9) (ix 0)) / r87.toInt64).toInt32, h87))))))
      else
      bd (fX9_no x0 3 h56) (fun r67 h67 =>
      some (r67, h67))))))
    else
    bd (fX9_no x0 2 h23) (fun r31 h31 =>
    some (r31, h31)))
  else
  bd (fX9_no x0 1 h6) (fun r14 h14 =>
  some (r14, h14))))
def fX9_lie (x0 : Nat) (x1 : Int32) (x2 : Int32) (h : HH) : Option (Int32 × HH) :=
  bv (fX9_good x0 h) (fun h1 =>
  bd (fX9_isSleeper x0 x1 h1) (fun r6 h6 =>
  bif r6 then
    bd (fX9_isHead x0 x2 h6) (fun r14 h14 =>
    bif r14 then
      bd (fX9_its x0 x1 0 h14) (fun r29 h29 =>
      gd (inb 0 316) (
      if r29 = (gI h29 (x0 + 3) (ix 0)) then
        bd (fX9_no x0 5 h29) (fun r61 h61 =>
        some (r61, h61))
      else
      if r29 ≤ 0 then
        bv (fX9_note x0 h29) (fun h66 =>
        gd (inb (((4 : Int32) * x1) + 1) 20) (
        bv (fX9_comes x0 x1 (r29 + 1) (sI h66 (x0 + 5) (ix (((4 : Int32) * x1) + 1)) (x2 + 1))) (fun h87 =>
        bv (fX9_stepsNow x0 h87) (fun h91 =>
        bd (fX9_its x0 x1 0 h91) (fun r97 h97 =>
        some (r97, h97))))))
      else
      bd (fX9_its x0 x1 1 h29) (fun r50 h50 =>
      if r50 = (x2 + 1) then
        bv (fX9_note x0 h50) (fun h66 =>
        gd (inb (((4 : Int32) * x1) + 1) 20) (
        bv (fX9_comes x0 x1 (r29 + 1) (sI h66 (x0 + 5) (ix (((4 : Int32) * x1) + 1)) (x2 + 1))) (fun h87 =>
        bv (fX9_stepsNow x0 h87) (fun h91 =>
        bd (fX9_its x0 x1 0 h91) (fun r97 h97 =>
        some (r97, h97))))))
      else
      bd (fX9_no x0 5 h50) (fun r61 h61 =>
      some (r61, h61)))))
    else
    bd (fX9_no x0 1 h14) (fun r22 h22 =>
    some (r22, h22)))
  else
  bd (fX9_no x0 1 h6) (fun r22 h22 =>
  some (r22, h22))))
def fX9_wake (x0 : Nat) (x1 : Int32) (h : HH) : Option (Int32 × HH) :=
  bv (fX9_good x0 h) (fun h1 =>
  bd (fX9_isSleeper x0 x1 h1) (fun r6 h6 =>
  bif r6 then
    bd (fX9_its x0 x1 0 h6) (fun r21 h21 =>
    if r21 = 0 then
      bd (fX9_no x0 5 h21) (fun r29 h29 =>
      some (r29, h29))
    else
    bv (fX9_note x0 h21) (fun h34 =>
    bd (fX9_its x0 x1 0 h34) (fun r42 h42 =>
    bv (fX9_comes x0 x1 (r42 - 1) h42) (fun h47 =>
    bv (fX9_stepsNow x0 h47) (fun h51 =>
    bd (fX9_its x0 x1 0 h51) (fun r57 h57 =>
    some (r57, h57)))))))
  else
  bd (fX9_no x0 1 h6) (fun r14 h14 =>
  some (r14, h14))))
def fX9_knock (x0 : Nat) (x1 : Int32) (x2 : Int32) (x3 : Int32) (h : HH) : Option (Int32 × HH) :=
  bv (fX9_good x0 h) (fun h1 =>
  bd (fX9_isHead x0 x1 h1) (fun r6 h6 =>
  bif r6 then
    gd (inb 0 316) (
    bd (fX9_within x2 0 ((gI h6 (x0 + 3) (ix 0)) - 1) h6) (fun r22 h22 =>
    bif r22 then
      bd (fX9_within x3 1 99 h22) (fun r38 h38 =>
      bif r38 then
        bv (fX9_note x0 h38) (fun h51 =>
        bd (fX9_knocks x0 x1 x2 x3 h51) (fun r58 h58 =>
        bv (fX9_stepsNow x0 h58) (fun h64 =>
        some (r58, h64))))
      else
      bd (fX9_no x0 2 h38) (fun r46 h46 =>
      some (r46, h46)))
    else
    bd (fX9_no x0 1 h22) (fun r30 h30 =>
    some (r30, h30))))
  else
  bd (fX9_no x0 1 h6) (fun r30 h30 =>
  some (r30, h30))))
def fX9_undo (x0 : Nat) (h : HH) : Option (Bool × HH) :=
  bv (fX9_good x0 h) (fun h1 =>
  if (gI h1 x0 25) = 0 then
    bd (fX9_isNot x0 6 h1) (fun r14 h14 =>
    some (r14, h14))
  else
  bv (fX9_copy (x0 + 6) ((20 : Int32) * (gI (sI h1 x0 25 ((gI h1 x0 25) - 1)) x0 25)) (x0 + 5) 0 20 (sI h1 x0 25 ((gI h1 x0 25) - 1))) (fun h46 =>
  bv (fX9_copyLongs (x0 + 10) ((31 : Int32) * (gI h46 x0 25)) (x0 + 9) 0 h46) (fun h65 =>
  some (true, h65))))
def fX9_image (x0 : Nat) (h : HH) : Option (Int32 × HH) :=
  bv (fX9_good x0 h) (fun h1 =>
  if (gI h1 x0 14) = 0 then
    bd (fX9_no x0 1 h1) (fun r13 h13 =>
    some (r13, h13))
  else
  if (gI h1 x0 26) = 3 then
    bd (fX9_no x0 3 h1) (fun r27 h27 =>
    some (r27, h27))
  else
  bv (fX9_copy (x0 + 5) 0 (x0 + 7) ((20 : Int32) * (gI h1 x0 26)) 20 h1) (fun h49 =>
  bv (fX9_copyLongs (x0 + 9) 0 (x0 + 11) ((31 : Int32) * (gI h49 x0 26)) h49) (fun h68 =>
  some (((gI (sI h68 x0 26 ((gI h68 x0 26) + 1)) x0 26) - 1), (sI h68 x0 26 ((gI h68 x0 26) + 1))))))
def fX9_back (x0 : Nat) (x1 : Int32) (h : HH) : Option (Bool × HH) :=
  bv (fX9_good x0 h) (fun h1 =>
  bd (fX9_within x1 0 ((gI h1 x0 26) - 1) h1) (fun r12 h12 =>
  bif r12 then
    bv (fX9_copy (x0 + 7) ((20 : Int32) * x1) (x0 + 5) 0 20 h12) (fun h39 =>
    bv (fX9_copyLongs (x0 + 11) ((31 : Int32) * x1) (x0 + 9) 0 h39) (fun h55 =>
    some (true, (sI h55 x0 25 0))))
  else
  bd (fX9_isNot x0 1 h12) (fun r20 h20 =>
  some (r20, h20))))
def fX9_led_L4 (x0 : Nat) (x1 : Int32) (self4 : Int32 → Int32 → HH → Option (Int32 × HH)) (x2 : Int32) (x3 : Int32) (h : HH) : Option (Int32 × HH) :=
  if (gI h x0 14) = 0 then
    some (0, (sI h x0 0 1))
  else
  gd (inb 4 316) (
  if (gI h (x0 + 3) (ix 4)) ≤ x3 then
    some (0, (sI h x0 0 1))
  else
  bd (fX9_its x0 x3 0 h) (fun r24 h24 =>
  if r24 = 0 then
    self4 x2 (x3 + 1) h24
  else
  if x2 = x1 then
    some (x3, (sI h24 x0 0 0))
  else
  self4 (x2 + 1) (x3 + 1) h24))
def fX9_led (x0 : Nat) (x1 : Int32) (h : HH) : Option (Int32 × HH) :=
  lq2 (fX9_led_L4 x0 x1) FU 0 0 h
def fX9_size (x0 : Nat) (x1 : Int32) (h : HH) : Option (Int32 × HH) :=
  if x1 = 12 then
    some ((gI (sI h x0 0 0) x0 2), (sI h x0 0 0))
  else
  if (gI (sI h x0 0 0) x0 14) = 0 then
    bd (fX9_within x1 0 11 (sI h x0 0 0)) (fun r27 h27 =>
    bif r27 then
      some (0, h27)
    else
    some ((-1), h27))
  else
  if x1 = 0 then
    gd (inb 0 316) (
    some ((gI (sI h x0 0 0) (x0 + 3) (ix 0)), (sI h x0 0 0)))
  else
  if x1 = 1 then
    gd (inb 1 316) (
    some ((gI (sI h x0 0 0) (x0 + 3) (ix 1)), (sI h x0 0 0)))
  else
  if x1 = 2 then
    gd (inb 2 316) (
    some ((gI (sI h x0 0 0) (x0 + 3) (ix 2)), (sI h x0 0 0)))
  else
  if x1 = 3 then
    gd (inb 3 316) (
    some ((gI (sI h x0 0 0) (x0 + 3) (ix 3)), (sI h x0 0 0)))
  else
  if x1 = 4 then
    gd (inb 4 316) (
    some ((gI (sI h x0 0 0) (x0 + 3) (ix 4)), (sI h x0 0 0)))
  else
  if x1 = 5 then
    gd (inb 5 316) (
    some ((gI (sI h x0 0 0) (x0 + 3) (ix 5)), (sI h x0 0 0)))
  else
  if x1 = 6 then
    gd (inb 6 316) (
    some ((gI (sI h x0 0 0) (x0 + 3) (ix 6)), (sI h x0 0 0)))
  else
  if x1 = 7 then
    gd (inb 7 316) (
    some ((gI (sI h x0 0 0) (x0 + 3) (ix 7)), (sI h x0 0 0)))
  else
  if x1 = 8 then
    gd (inb 8 316) (
    some ((gI (sI h x0 0 0) (x0 + 3) (ix 8)), (sI h x0 0 0)))
  else
  if x1 = 9 then
    gd (inb 9 316) (
    some ((gI (sI h x0 0 0) (x0 + 3) (ix 9)), (sI h x0 0 0)))
  else
  if x1 = 10 then
    some ((gI (sI h x0 0 0) x0 25), (sI h x0 0 0))
  else
  if x1 = 11 then
    some ((gI (sI h x0 0 0) x0 26), (sI h x0 0 0))
  else
  some ((-1), (sI h x0 0 0))
def fX9_trouble (x0 : Nat) (h : HH) : Option (Int32 × HH) :=
  some ((gI (sI h x0 0 0) x0 11), (sI h x0 0 0))
