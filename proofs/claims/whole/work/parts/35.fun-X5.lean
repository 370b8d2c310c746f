def fX5_byteAt (x0 : Nat) (x1 : Int32) (h : HH) : Option (Int32 × HH) :=
  if x1 < 0 then
    some ((-1), h)
  else
  if (gI h x0 5) ≤ x1 then
    some ((-1), h)
  else
  gd (isKb 10 (gR h x0 4)) (
  gd (isKb 10 (gR h x0 4)) (
  if x1 < (Int32.ofNat (ln (gR h x0 4))) then
    gd (isKb 10 (gR h x0 4)) (
    gd (inb x1 (ln (gR h x0 4))) (
    some (((gI h (gR h x0 4) (ix x1)) &&& 255), h)))
  else
  some ((-1), h)))
def fX5_isLetter (x0 : Int32) (h : HH) : Option (Bool × HH) :=
  if x0 < 97 then
    some (false, h)
  else
  if 122 < x0 then
    some (false, h)
  else
  some (true, h)
def fX5_nextWord_L18 (k18_68 : HH → Option (HH)) (x0 : Nat) (self18 : Int32 → HH → Option (HH)) (x1 : Int32) (h : HH) : Option (HH) :=
  if (gI h x0 5) ≤ x1 then
    k18_68  h
  else
  bd (fX5_byteAt x0 x1 h) (fun r28 h28 =>
  bd (fX5_isLetter r28 h28) (fun r31 h31 =>
  bif r31 then
    bd (fX5_byteAt x0 x1 h31) (fun r47 h47 =>
    nm (sI (sL h47 x0 12 (((gL h31 x0 12) <<< ((8 : Int32).toInt64 &&& 63)) ||| r47.toInt64)) x0 9 (x1 + 1)) (fun g3 =>
    self18 (x1 + 1) g3))
  else
  k18_68  h31))
def fX5_nextWord (x0 : Nat) (h : HH) : Option (HH) :=
  nm (sI (sL h x0 12 0) x0 9 (gI (sL h x0 12 0) x0 8)) (fun g1 =>
  nm (gI g1 x0 8) (fun y2 =>
  lq1 (fX5_nextWord_L18 (fun  h =>
    if 8 < ((gI h x0 9) - (gI h x0 8)) then
      some (sI h x0 10 0)
    else
    some (sI h x0 10 1)) x0) FU y2 g1))
def fX5_isDigit (x0 : Int32) (h : HH) : Option (Bool × HH) :=
  if x0 < 48 then
    some (false, h)
  else
  if 57 < x0 then
    some (false, h)
  else
  some (true, h)
def fX5_nextWhole_L18 (k18_70 : HH → Option (HH)) (x0 : Nat) (self18 : Int32 → HH → Option (HH)) (x1 : Int32) (h : HH) : Option (HH) :=
  if (gI h x0 5) ≤ x1 then
    k18_70  h
  else
  bd (fX5_byteAt x0 x1 h) (fun r28 h28 =>
  bd (fX5_isDigit r28 h28) (fun r31 h31 =>
  bif r31 then
    bd (fX5_byteAt x0 x1 h31) (fun r47 h47 =>
    nm (sI (sI h47 x0 11 ((((gI h31 x0 11) * 10) + r47) - 48)) x0 9 (x1 + 1)) (fun g3 =>
    self18 (x1 + 1) g3))
  else
  k18_70  h31))
def fX5_nextWhole (x0 : Nat) (h : HH) : Option (HH) :=
  nm (sI (sI h x0 11 0) x0 9 (gI (sI h x0 11 0) x0 8)) (fun g1 =>
  nm (gI g1 x0 8) (fun y2 =>
  lq1 (fX5_nextWhole_L18 (fun  h =>
    if 4 < ((gI h x0 9) - (gI h x0 8)) then
      some (sI h x0 10 0)
    else
    some (sI h x0 10 2)) x0) FU y2 g1))
def fX5_next_L13 (k13_44 : HH → Option (HH)) (x0 : Nat) (self13 : Int32 → HH → Option (HH)) (x1 : Int32) (h : HH) : Option (HH) :=
  if (gI h x0 5) ≤ x1 then
    k13_44  h
  else
  bd (fX5_byteAt x0 x1 h) (fun r23 h23 =>
  if r23 = 32 then
    self13 (x1 + 1) (sI h23 x0 8 (x1 + 1))
  else
  k13_44  h23)
def fX5_next (x0 : Nat) (h : HH) : Option (HH) :=
  nm (gI (sI h x0 8 (gI h x0 9)) x0 8) (fun y1 =>
  lq1 (fX5_next_L13 (fun  h =>
    bd (fX5_byteAt x0 (gI h x0 8) h) (fun r49 h49 =>
    if 0 ≤ r49 then
      if r49 = 59 then
        nm (sI (sI h49 x0 9 ((gI h49 x0 8) + 1)) x0 10 3) (fun g3 =>
        some g3)
      else
      if r49 = 44 then
        nm (sI (sI h49 x0 9 ((gI h49 x0 8) + 1)) x0 10 4) (fun g2 =>
        some g2)
      else
      bd (fX5_isLetter r49 (sI h49 x0 9 ((gI h49 x0 8) + 1))) (fun r112 h112 =>
      bif r112 then
        bv (fX5_nextWord x0 h112) (fun h119 =>
        some h119)
      else
      bd (fX5_isDigit r49 h112) (fun r126 h126 =>
      bif r126 then
        bv (fX5_nextWhole x0 h126) (fun h133 =>
        some h133)
      else
      some (sI h126 x0 10 0)))
    else
    nm (sI (sI h49 x0 9 ((gI h49 x0 8) + 1)) x0 10 5) (fun g4 =>
    some (sI g4 x0 9 (gI g4 x0 5))))) x0) FU y1 (sI h x0 8 (gI h x0 9)))
def fX5_spells_L15 (x0 : Nat) (x1 : Nat) (self15 : Int64 → Int32 → HH → Option (Bool × HH)) (x2 : Int64) (x4 : Int32) (h : HH) : Option (Bool × HH) :=
  bd (fJ0_length_8abf5 x1 h) (fun r18 h18 =>
  if r18 ≤ x4 then
    if x2 = (gL h18 x0 12) then
      some (true, h18)
    else
    some (false, h18)
  else
  bd (fJ0_charAt_5068e x1 x4 h18) (fun r31 h31 =>
  nm ((x2 <<< ((8 : Int32).toInt64 &&& 63)) ||| r31.toInt64) (fun y1 =>
  self15 y1 (x4 + 1) h31)))
def fX5_spells (x0 : Nat) (x1 : Nat) (h : HH) : Option (Bool × HH) :=
  if (gI h x0 10) = 1 then
    lq2 (fX5_spells_L15 x0 x1) FU 0 0 h
  else
  some (false, h)
def fX5_isLineWord (x0 : Nat) (h : HH) : Option (Bool × HH) :=
  bd (fX5_spells x0 0 h) (fun r3 h3 =>
  bif r3 then
    some (true, h3)
  else
  bd (fX5_spells x0 1 h3) (fun r12 h12 =>
  bif r12 then
    some (true, h12)
  else
  bd (fX5_spells x0 2 h12) (fun r21 h21 =>
  bif r21 then
    some (true, h21)
  else
  bd (fX5_spells x0 3 h21) (fun r30 h30 =>
  bif r30 then
    some (true, h30)
  else
  bd (fX5_spells x0 4 h30) (fun r39 h39 =>
  bif r39 then
    some (true, h39)
  else
  bd (fX5_spells x0 5 h39) (fun r48 h48 =>
  bif r48 then
    some (true, h48)
  else
  bd (fX5_spells x0 6 h48) (fun r57 h57 =>
  bif r57 then
    some (true, h57)
  else
  bd (fX5_spells x0 7 h57) (fun r66 h66 =>
  bif r66 then
    some (true, h66)
  else
  bd (fX5_spells x0 8 h66) (fun r75 h75 =>
  bif r75 then
    some (true, h75)
  else
  bd (fX5_spells x0 9 h75) (fun r84 h84 =>
  bif r84 then
    some (true, h84)
  else
  bd (fX5_spells x0 10 h84) (fun r93 h93 =>
  bif r93 then
    some (true, h93)
  else
  bd (fX5_spells x0 11 h93) (fun r102 h102 =>
  bif r102 then
    some (true, h102)
  else
  some (false, h102)))))))))))))
def fX5_fail (x0 : Nat) (x1 : Int32) (h : HH) : Option (Bool × HH) :=
  some (false, (sI h x0 7 x1))
def fX5_word (x0 : Nat) (x1 : Nat) (h : HH) : Option (Bool × HH) :=
  bd (fX5_spells x0 x1 h) (fun r2 h2 =>
  bif r2 then
    bv (fX5_next x0 h2) (fun h15 =>
    some (true, h15))
  else
  bd (fX5_fail x0 1 h2) (fun r10 h10 =>
  some (r10, h10)))
def fX5_isWhole (x0 : Nat) (x1 : Int32) (x2 : Int32) (h : HH) : Option (Bool × HH) :=
  if (gI h x0 10) = 2 then
    if (gI h x0 11) < x1 then
      bd (fX5_fail x0 4 h) (fun r32 h32 =>
      bif r32 then
        some (true, h32)
      else
      some (false, h32))
    else
    if (gI h x0 11) ≤ x2 then
      some (true, h)
    else
    bd (fX5_fail x0 4 h) (fun r32 h32 =>
    bif r32 then
      some (true, h32)
    else
    some (false, h32))
  else
  bd (fX5_fail x0 1 h) (fun r10 h10 =>
  some (r10, h10))
def fX5_readRates_L2 (x0 : Nat) (self2 : Int32 → HH → Option (Bool × HH)) (x1 : Int32) (h : HH) : Option (Bool × HH) :=
  if 4 < x1 then
    some (true, h)
  else
  bd (fX5_isWhole x0 2 12 h) (fun r11 h11 =>
  bif r11 then
    if x1 = 4 then
      bd (fX5_fail x0 5 h11) (fun r26 h26 =>
      some (r26, h26))
    else
    gd (isKb 0 (gR h11 x0 6)) (
    bv (fX0_addRate (gR h11 x0 6) (gI h11 x0 11) h11) (fun h38 =>
    bv (fX5_next x0 h38) (fun h42 =>
    if (gI h42 x0 10) = 4 then
      bv (fX5_next x0 h42) (fun h56 =>
      self2 (x1 + 1) h56)
    else
    some (true, h42))))
  else
  some (false, h11))
def fX5_readRates (x0 : Nat) (h : HH) : Option (Bool × HH) :=
  lq1 (fX5_readRates_L2 x0) FU 0 h
def fX5_readDream (x0 : Nat) (h : HH) : Option (Bool × HH) :=
  gd (isKb 0 (gR h x0 6)) (
  if (gI h (gR h x0 6) 9) ≤ 0 then
    bv (fX5_next x0 h) (fun h17 =>
    bd (fX5_word x0 12 h17) (fun r23 h23 =>
    bif r23 then
      bd (fX5_readRates x0 h23) (fun r30 h30 =>
      bif r30 then
        bd (fX5_word x0 13 h30) (fun r39 h39 =>
        bif r39 then
          bd (fX5_isWhole x0 0 60 h39) (fun r49 h49 =>
          bif r49 then
            gd (isKb 0 (gR h49 x0 6)) (
            bv (fX5_next x0 (sI h49 (gR h49 x0 6) 10 (gI h49 x0 11))) (fun h69 =>
            bd (fX5_word x0 14 h69) (fun r75 h75 =>
            bif r75 then
              bd (fX5_isWhole x0 1 600 h75) (fun r86 h86 =>
              bif r86 then
                gd (isKb 0 (gR h86 x0 6)) (
                bv (fX5_next x0 (sI h86 (gR h86 x0 6) 11 (gI h86 x0 11))) (fun h106 =>
                some (true, h106)))
              else
              some (false, h86))
            else
            some (false, h75))))
          else
          some (false, h49))
        else
        some (false, h39))
      else
      some (false, h30))
    else
    some (false, h23)))
  else
  bd (fX5_fail x0 3 h) (fun r12 h12 =>
  some (r12, h12)))
def fX5_nameIndex_L2 (x0 : Nat) (self2 : Int32 → HH → Option (Int32 × HH)) (x1 : Int32) (h : HH) : Option (Int32 × HH) :=
  if (gI h x0 3) ≤ x1 then
    some ((-1), h)
  else
  if 14 ≤ x1 then
    some ((-1), h)
  else
  gd (inb x1 14) (
  if (gL h (x0 + 1) (ix x1)) = (gL h x0 12) then
    some (x1, h)
  else
  self2 (x1 + 1) h)
def fX5_nameIndex (x0 : Nat) (h : HH) : Option (Int32 × HH) :=
  lq1 (fX5_nameIndex_L2 x0) FU 0 h
def fX5_newName (x0 : Nat) (x1 : Int32) (x2 : Int32) (h : HH) : Option (Bool × HH) :=
  if (gI h x0 10) = 1 then
    bd (fX5_isLineWord x0 h) (fun r9 h9 =>
    bif r9 then
      bd (fX5_fail x0 1 h9) (fun r17 h17 =>
      some (r17, h17))
    else
    bd (fX5_nameIndex x0 h9) (fun r22 h22 =>
    if r22 < 0 then
      if 14 ≤ (gI h22 x0 3) then
        bv (fX5_next x0 h22) (fun h87 =>
        some (true, h87))
      else
      gd (inb (gI h22 x0 3) 14) (
      gd (inb (gI (sL h22 (x0 + 1) (ix (gI h22 x0 3)) (gL h22 x0 12)) x0 3) 14) (
      nm (sI (sL h22 (x0 + 1) (ix (gI h22 x0 3)) (gL h22 x0 12)) (x0 + 2) (ix (gI (sL h22 (x0 + 1) (ix (gI h22 x0 3)) (gL h22 x0 12)) x0 3)) x1) (fun g1 =>
      gd (inb (gI g1 x0 3) 14) (
      nm (sI (sI g1 (x0 + 3) (ix (gI g1 x0 3)) x2) x0 3 ((gI (sI g1 (x0 + 3) (ix (gI g1 x0 3)) x2) x0 3) + 1)) (fun g2 =>
      bv (fX5_next x0 g2) (fun h87 =>
      some (true, h87)))))))
    else
    bd (fX5_fail x0 3 h22) (fun r30 h30 =>
    some (r30, h30))))
  else
  bd (fX5_fail x0 1 h) (fun r17 h17 =>
  some (r17, h17))
def fX5_readHead (x0 : Nat) (h : HH) : Option (Bool × HH) :=
  gd (isKb 0 (gR h x0 6)) (
  if (gI h (gR h x0 6) 12) < 3 then
    bv (fX5_next x0 h) (fun h18 =>
    gd (isKb 0 (gR h18 x0 6)) (
    gd (isKb 0 (gR (sI h18 (gR h18 x0 6) 12 ((gI h18 (gR h18 x0 6) 12) + 1)) x0 6)) (
    bd (fX5_newName x0 0 ((gI (sI h18 (gR h18 x0 6) 12 ((gI h18 (gR h18 x0 6) 12) + 1)) (gR (sI h18 (gR h18 x0 6) 12 ((gI h18 (gR h18 x0 6) 12) + 1)) x0 6) 12) - 1) (sI h18 (gR h18 x0 6) 12 ((gI h18 (gR h18 x0 6) 12) + 1))) (fun r45 h45 =>
    some (r45, h45)))))
  else
  bd (fX5_fail x0 5 h) (fun r13 h13 =>
  some (r13, h13)))
def fX5_addRow (x0 : Nat) (x1 : Nat) (h : HH) : Option (Bool × HH) :=
  bd (fX7_isFull x1 h) (fun r1 h1 =>
  bif r1 then
    bd (fX5_fail x0 5 h1) (fun r9 h9 =>
    some (r9, h9))
  else
  bv (fX7_add x1 h1) (fun h14 =>
  bv (fX5_next x0 h14) (fun h18 =>
  some (true, h18))))
def fX5_readKind (x0 : Nat) (x1 : Nat) (h : HH) : Option (Bool × HH) :=
  bd (fX5_spells x0 15 h) (fun r3 h3 =>
  bif r3 then
    bv (fX7_put x1 0 0 h3) (fun h12 =>
    bv (fX5_next x0 h12) (fun h79 =>
    some (true, h79)))
  else
  bd (fX5_spells x0 16 h3) (fun r21 h21 =>
  bif r21 then
    bv (fX7_put x1 0 1 h21) (fun h30 =>
    bv (fX5_next x0 h30) (fun h79 =>
    some (true, h79)))
  else
  bd (fX5_spells x0 17 h21) (fun r39 h39 =>
  bif r39 then
    bv (fX7_put x1 0 2 h39) (fun h48 =>
    bv (fX5_next x0 h48) (fun h79 =>
    some (true, h79)))
  else
  bd (fX5_spells x0 18 h39) (fun r57 h57 =>
  bif r57 then
    bv (fX7_put x1 0 3 h57) (fun h66 =>
    bv (fX5_next x0 h66) (fun h79 =>
    some (true, h79)))
  else
  bd (fX5_fail x0 1 h57) (fun r74 h74 =>
  some (r74, h74))))))
def fX5_take (x0 : Nat) (x1 : Nat) (x2 : Int32) (h : HH) : Option (Bool × HH) :=
  bv (fX7_put x1 x2 (gI h x0 11) h) (fun h6 =>
  bv (fX5_next x0 h6) (fun h10 =>
  some (true, h10)))
def fX5_readSleeper (x0 : Nat) (h : HH) : Option (Bool × HH) :=
  gd (isKb 0 (gR h x0 6)) (
  nm ((gR h x0 6) + 4) (fun y2 =>
  bv (fX7_put y2 4 (-2) h) (fun h12 =>
  bd (fX5_newName x0 1 ((gI h12 y2 3) - 1) h12) (fun r23 h23 =>
  bif r23 then
    bd (fX5_readKind x0 y2 h23) (fun r31 h31 =>
    bif r31 then
      bd (fX5_word x0 19 h31) (fun r40 h40 =>
      bif r40 then
        bd (fX5_isWhole x0 1 9999 h40) (fun r51 h51 =>
        bif r51 then
          bd (fX5_take x0 y2 1 h51) (fun r60 h60 =>
          bif r60 then
            bd (fX5_word x0 20 h60) (fun r69 h69 =>
            bif r69 then
              bd (fX5_isWhole x0 0 999 h69) (fun r80 h80 =>
              bif r80 then
                bd (fX5_take x0 y2 2 h80) (fun r89 h89 =>
                bif r89 then
                  bd (fX5_word x0 21 h89) (fun r98 h98 =>
                  bif r98 then
                    bd (fX5_isWhole x0 0 100 h98) (fun r108 h108 =>
                    bif r108 then
                      bd (fX5_take x0 y2 3 h108) (fun r117 h117 =>
                      bif r117 then
                        some (true, h117)
                      else
                      some (false, h117))
                    else
                    some (false, h108))
                  else
                  some (false, h98))
                else
                some (false, h89))
              else
              some (false, h80))
            else
            some (false, h69))
          else
          some (false, h60))
        else
        some (false, h51))
      else
      some (false, h40))
    else
    some (false, h31))
  else
  some (false, h23)))))
def fX5_isTold (x0 : Nat) (x1 : Int32) (h : HH) : Option (Bool × HH) :=
  if (gI h x0 10) = 1 then
    bd (fX5_isLineWord x0 h) (fun r9 h9 =>
    bif r9 then
      bd (fX5_fail x0 1 h9) (fun r17 h17 =>
      some (r17, h17))
    else
    bd (fX5_nameIndex x0 h9) (fun r22 h22 =>
    if r22 < 0 then
      bd (fX5_fail x0 2 h22) (fun r42 h42 =>
      some (r42, h42))
    else
    gd (inb r22 14) (
    if (gI h22 (x0 + 2) (ix r22)) = x1 then
      gd (inb r22 14) (
      some (true, (sI h22 x0 11 (gI h22 (x0 + 3) (ix r22)))))
    else
    bd (fX5_fail x0 2 h22) (fun r42 h42 =>
    some (r42, h42)))))
  else
  bd (fX5_fail x0 1 h) (fun r17 h17 =>
  some (r17, h17))
def fX5_readDown (x0 : Nat) (h : HH) : Option (Bool × HH) :=
  gd (isKb 0 (gR h x0 6)) (
  nm ((gR h x0 6) + 6) (fun y2 =>
  bd (fX5_isTold x0 1 h) (fun r10 h10 =>
  bif r10 then
    bd (fX5_take x0 y2 0 h10) (fun r19 h19 =>
    bif r19 then
      bd (fX5_isTold x0 0 h19) (fun r27 h27 =>
      bif r27 then
        bd (fX5_take x0 y2 1 h27) (fun r36 h36 =>
        bif r36 then
          some (true, h36)
        else
        some (false, h36))
      else
      some (false, h27))
    else
    some (false, h19))
  else
  some (false, h10))))
def fX5_readAfter (x0 : Nat) (h : HH) : Option (Bool × HH) :=
  bd (fX5_word x0 22 h) (fun r3 h3 =>
  bif r3 then
    bd (fX5_isWhole x0 0 999 h3) (fun r14 h14 =>
    bif r14 then
      gd (isKb 0 (gR h14 x0 6)) (
      bd (fX5_take x0 ((gR h14 x0 6) + 6) 2 h14) (fun r29 h29 =>
      bif r29 then
        gd (isKb 0 (gR h29 x0 6)) (
        bv (fX0_orderStep (gR h29 x0 6) h29) (fun h41 =>
        some (true, h41)))
      else
      some (false, h29)))
    else
    some (false, h14))
  else
  some (false, h3))
def fX5_readUp (x0 : Nat) (h : HH) : Option (Bool × HH) :=
  gd (isKb 0 (gR h x0 6)) (
  bv (fX7_put ((gR h x0 6) + 6) 1 (-1) h) (fun h9 =>
  bd (fX5_isTold x0 1 h9) (fun r14 h14 =>
  bif r14 then
    gd (isKb 0 (gR h14 x0 6)) (
    bd (fX5_take x0 ((gR h14 x0 6) + 6) 0 h14) (fun r29 h29 =>
    bif r29 then
      some (true, h29)
    else
    some (false, h29)))
  else
  some (false, h14))))
def fX5_readKnock (x0 : Nat) (h : HH) : Option (Bool × HH) :=
  gd (isKb 0 (gR h x0 6)) (
  nm ((gR h x0 6) + 8) (fun y2 =>
  bd (fX5_isTold x0 0 h) (fun r10 h10 =>
  bif r10 then
    bd (fX5_take x0 y2 0 h10) (fun r19 h19 =>
    bif r19 then
      bd (fX5_word x0 23 h19) (fun r28 h28 =>
      bif r28 then
        gd (isKb 0 (gR h28 x0 6)) (
        bd (fX5_isWhole x0 0 ((gI h28 (gR h28 x0 6) 9) - 1) h28) (fun r45 h45 =>
        bif r45 then
          bd (fX5_take x0 y2 1 h45) (fun r54 h54 =>
          bif r54 then
            bd (fX5_word x0 24 h54) (fun r64 h64 =>
            bif r64 then
              gd (isKb 0 (gR h64 x0 6)) (
              bd (fX5_isWhole x0 0 (gI h64 (gR h64 x0 6) 11) h64) (fun r79 h79 =>
              bif r79 then
                bd (fX5_take x0 y2 2 h79) (fun r88 h88 =>
                bif r88 then
                  bd (fX5_word x0 25 h88) (fun r98 h98 =>
                  bif r98 then
                    bd (fX5_isWhole x0 1 99 h98) (fun r108 h108 =>
                    bif r108 then
                      bd (fX5_take x0 y2 3 h108) (fun r117 h117 =>
                      bif r117 then
                        some (true, h117)
                      else
                      some (false, h117))
                    else
                    some (false, h108))
                  else
                  some (false, h98))
                else
                some (false, h88))
              else
              some (false, h79)))
            else
            some (false, h64))
          else
          some (false, h54))
        else
        some (false, h45)))
      else
      some (false, h28))
    else
    some (false, h19))
  else
  some (false, h10))))
def fX5_readTask (x0 : Nat) (h : HH) : Option (Bool × HH) :=
  gd (isKb 0 (gR h x0 6)) (
  nm ((gR h x0 6) + 10) (fun y2 =>
  bd (fX5_newName x0 2 ((gI h y2 3) - 1) h) (fun r16 h16 =>
  bif r16 then
    bd (fX5_word x0 23 h16) (fun r25 h25 =>
    bif r25 then
      gd (isKb 0 (gR h25 x0 6)) (
      bd (fX5_isWhole x0 0 (gI h25 (gR h25 x0 6) 9) h25) (fun r40 h40 =>
      bif r40 then
        bd (fX5_take x0 y2 0 h40) (fun r49 h49 =>
        bif r49 then
          bd (fX5_word x0 26 h49) (fun r59 h59 =>
          bif r59 then
            bd (fX5_isWhole x0 1 999 h59) (fun r70 h70 =>
            bif r70 then
              bd (fX5_take x0 y2 1 h70) (fun r79 h79 =>
              bif r79 then
                bd (fX5_word x0 27 h79) (fun r89 h89 =>
                bif r89 then
                  bd (fX5_isWhole x0 0 99 h89) (fun r99 h99 =>
                  bif r99 then
                    bd (fX5_take x0 y2 2 h99) (fun r108 h108 =>
                    bif r108 then
                      some (true, h108)
                    else
                    some (false, h108))
                  else
                  some (false, h99))
                else
                some (false, h89))
              else
              some (false, h79))
            else
            some (false, h70))
          else
          some (false, h59))
        else
        some (false, h49))
      else
      some (false, h40)))
    else
    some (false, h25))
  else
  some (false, h16))))
def fX5_readPays_L30 (k30_90 : Int32 → HH → Option (Bool × HH)) (x0 : Nat) (self30 : Int32 → HH → Option (Bool × HH)) (x1 : Int32) (h : HH) : Option (Bool × HH) :=
  if 5 < x1 then
    some (true, h)
  else
  bd (fX5_isWhole x0 0 999 h) (fun r40 h40 =>
  bif r40 then
    gd (isKb 0 (gR h40 x0 6)) (
    if x1 ≤ (gI h40 (gR h40 x0 6) 9) then
      gd (isKb 0 (gR h40 x0 6)) (
      gd (inb x1 5) (
      bv (fX5_next x0 (sI h40 ((gR h40 x0 6) + 2) (ix x1) (gI h40 x0 11))) (fun h79 =>
      if (gI h79 x0 10) = 4 then
        bv (fX5_next x0 h79) (fun h143 =>
        self30 (x1 + 1) h143)
      else
      k30_90 x1 h79)))
    else
    bd (fX5_fail x0 5 h40) (fun r61 h61 =>
    some (r61, h61)))
  else
  some (false, h40))
def fX5_readPays (x0 : Nat) (h : HH) : Option (Bool × HH) :=
  gd (isKb 0 (gR h x0 6)) (
  if (gI h (gR h x0 6) 13) = 0 then
    gd (isKb 0 (gR h x0 6)) (
    bv (fX5_next x0 (sI h (gR h x0 6) 13 1)) (fun h25 =>
    lq1 (fX5_readPays_L30 (fun x1 h =>
      if (gI h x0 10) = 3 then
        gd (isKb 0 (gR h x0 6)) (
        if x1 = (gI h (gR h x0 6) 9) then
          some (true, h)
        else
        bd (fX5_fail x0 6 h) (fun r130 h130 =>
        bif r130 then
          some (true, h130)
        else
        some (false, h130)))
      else
      if (gI h x0 10) = 5 then
        gd (isKb 0 (gR h x0 6)) (
        if x1 = (gI h (gR h x0 6) 9) then
          some (true, h)
        else
        bd (fX5_fail x0 6 h) (fun r130 h130 =>
        bif r130 then
          some (true, h130)
        else
        some (false, h130)))
      else
      some (true, h)) x0) FU 1 h25))
  else
  bd (fX5_fail x0 3 h) (fun r12 h12 =>
  some (r12, h12)))
def fX5_readThinks (x0 : Nat) (h : HH) : Option (Bool × HH) :=
  bv (fX5_next x0 h) (fun h1 =>
  bd (fX5_isTold x0 1 h1) (fun r6 h6 =>
  bif r6 then
    nm (gI h6 x0 11) (fun y1 =>
    gd (isKb 0 (gR h6 x0 6)) (
    bd (fX7_at ((gR h6 x0 6) + 4) y1 4 h6) (fun r28 h28 =>
    if r28 = (-2) then
      bv (fX5_next x0 h28) (fun h43 =>
      bd (fX5_isWhole x0 0 4 h43) (fun r49 h49 =>
      bif r49 then
        gd (isKb 0 (gR h49 x0 6)) (
        bv (fX7_putAt ((gR h49 x0 6) + 4) y1 4 (gI h49 x0 11) h49) (fun h70 =>
        bv (fX5_next x0 h70) (fun h74 =>
        some (true, h74))))
      else
      some (false, h49)))
    else
    bd (fX5_fail x0 3 h28) (fun r38 h38 =>
    some (r38, h38)))))
  else
  some (false, h6)))
def fX5_readFelt (x0 : Nat) (h : HH) : Option (Bool × HH) :=
  gd (isKb 0 (gR h x0 6)) (
  nm ((gR h x0 6) + 12) (fun y2 =>
  bv (fX7_put y2 0 0 h) (fun h11 =>
  bd (fX5_isWhole x0 1 99 h11) (fun r18 h18 =>
  bif r18 then
    bd (fX5_take x0 y2 1 h18) (fun r27 h27 =>
    bif r27 then
      bd (fX5_isWhole x0 1 9999 h27) (fun r38 h38 =>
      bif r38 then
        bd (fX5_take x0 y2 2 h38) (fun r47 h47 =>
        bif r47 then
          some (true, h47)
        else
        some (false, h47))
      else
      some (false, h38))
    else
    some (false, h27))
  else
  some (false, h18)))))
def fX5_readCame (x0 : Nat) (h : HH) : Option (Bool × HH) :=
  gd (isKb 0 (gR h x0 6)) (
  nm ((gR h x0 6) + 12) (fun y2 =>
  bv (fX7_put y2 0 1 h) (fun h11 =>
  bd (fX5_isWhole x0 1 9999 h11) (fun r19 h19 =>
  bif r19 then
    bd (fX5_take x0 y2 1 h19) (fun r28 h28 =>
    bif r28 then
      bd (fX5_isWhole x0 0 9999 h28) (fun r39 h39 =>
      bif r39 then
        bd (fX5_take x0 y2 2 h39) (fun r48 h48 =>
        bif r48 then
          some (true, h48)
        else
        some (false, h48))
      else
      some (false, h39))
    else
    some (false, h28))
  else
  some (false, h19)))))
def fX5_readDid (x0 : Nat) (h : HH) : Option (Bool × HH) :=
  gd (isKb 0 (gR h x0 6)) (
  nm ((gR h x0 6) + 14) (fun y2 =>
  bd (fX5_isWhole x0 1 9999 h) (fun r13 h13 =>
  bif r13 then
    bd (fX5_take x0 y2 0 h13) (fun r22 h22 =>
    bif r22 then
      bd (fX5_word x0 23 h22) (fun r31 h31 =>
      bif r31 then
        gd (isKb 0 (gR h31 x0 6)) (
        bd (fX5_isWhole x0 1 (gI h31 (gR h31 x0 6) 9) h31) (fun r46 h46 =>
        bif r46 then
          bd (fX5_take x0 y2 1 h46) (fun r55 h55 =>
          bif r55 then
            bd (fX5_word x0 28 h55) (fun r65 h65 =>
            bif r65 then
              bd (fX5_isWhole x0 1 999 h65) (fun r76 h76 =>
              bif r76 then
                bd (fX5_take x0 y2 2 h76) (fun r85 h85 =>
                bif r85 then
                  some (true, h85)
                else
                some (false, h85))
              else
              some (false, h76))
            else
            some (false, h65))
          else
          some (false, h55))
        else
        some (false, h46)))
      else
      some (false, h31))
    else
    some (false, h22))
  else
  some (false, h13))))
def fX5_readLine (x0 : Nat) (h : HH) : Option (Bool × HH) :=
  bd (fX5_isLineWord x0 h) (fun r1 h1 =>
  bif r1 then
    bd (fX5_spells x0 0 h1) (fun r16 h16 =>
    bif r16 then
      bd (fX5_readDream x0 h16) (fun r23 h23 =>
      some (r23, h23))
    else
    gd (isKb 0 (gR h16 x0 6)) (
    if (gI h16 (gR h16 x0 6) 9) = 0 then
      bd (fX5_fail x0 6 h16) (fun r40 h40 =>
      some (r40, h40))
    else
    bd (fX5_spells x0 1 h16) (fun r47 h47 =>
    bif r47 then
      bd (fX5_readHead x0 h47) (fun r54 h54 =>
      some (r54, h54))
    else
    bd (fX5_spells x0 2 h47) (fun r61 h61 =>
    bif r61 then
      gd (isKb 0 (gR h61 x0 6)) (
      bd (fX5_addRow x0 ((gR h61 x0 6) + 4) h61) (fun r75 h75 =>
      bif r75 then
        bd (fX5_readSleeper x0 h75) (fun r82 h82 =>
        bif r82 then
          some (true, h82)
        else
        some (false, h82))
      else
      some (false, h75)))
    else
    bd (fX5_spells x0 3 h61) (fun r97 h97 =>
    bif r97 then
      gd (isKb 0 (gR h97 x0 6)) (
      bd (fX5_addRow x0 ((gR h97 x0 6) + 6) h97) (fun r111 h111 =>
      bif r111 then
        bd (fX5_readDown x0 h111) (fun r118 h118 =>
        bif r118 then
          bd (fX5_readAfter x0 h118) (fun r125 h125 =>
          bif r125 then
            some (true, h125)
          else
          some (false, h125))
        else
        some (false, h118))
      else
      some (false, h111)))
    else
    bd (fX5_spells x0 4 h97) (fun r140 h140 =>
    bif r140 then
      gd (isKb 0 (gR h140 x0 6)) (
      bd (fX5_addRow x0 ((gR h140 x0 6) + 6) h140) (fun r154 h154 =>
      bif r154 then
        bd (fX5_readUp x0 h154) (fun r161 h161 =>
        bif r161 then
          bd (fX5_readAfter x0 h161) (fun r168 h168 =>
          bif r168 then
            some (true, h168)
          else
          some (false, h168))
        else
        some (false, h161))
      else
      some (false, h154)))
    else
    bd (fX5_spells x0 5 h140) (fun r183 h183 =>
    bif r183 then
      gd (isKb 0 (gR h183 x0 6)) (
      bd (fX5_addRow x0 ((gR h183 x0 6) + 8) h183) (fun r197 h197 =>
      bif r197 then
        bd (fX5_readKnock x0 h197) (fun r204 h204 =>
        bif r204 then
          some (true, h204)
        else
        some (false, h204))
      else
      some (false, h197)))
    else
    bd (fX5_spells x0 6 h183) (fun r219 h219 =>
    bif r219 then
      gd (isKb 0 (gR h219 x0 6)) (
      bd (fX5_addRow x0 ((gR h219 x0 6) + 10) h219) (fun r233 h233 =>
      bif r233 then
        bd (fX5_readTask x0 h233) (fun r240 h240 =>
        bif r240 then
          some (true, h240)
        else
        some (false, h240))
      else
      some (false, h233)))
    else
    bd (fX5_spells x0 7 h219) (fun r255 h255 =>
    bif r255 then
      bd (fX5_readPays x0 h255) (fun r262 h262 =>
      some (r262, h262))
    else
    bd (fX5_spells x0 8 h255) (fun r269 h269 =>
    bif r269 then
      bd (fX5_readThinks x0 h269) (fun r276 h276 =>
      some (r276, h276))
    else
    bd (fX5_spells x0 9 h269) (fun r283 h283 =>
    bif r283 then
      gd (isKb 0 (gR h283 x0 6)) (
      bd (fX5_addRow x0 ((gR h283 x0 6) + 12) h283) (fun r297 h297 =>
      bif r297 then
        bd (fX5_readFelt x0 h297) (fun r304 h304 =>
        bif r304 then
          some (true, h304)
        else
        some (false, h304))
      else
      some (false, h297)))
    else
    bd (fX5_spells x0 10 h283) (fun r319 h319 =>
    bif r319 then
      gd (isKb 0 (gR h319 x0 6)) (
      bd (fX5_addRow x0 ((gR h319 x0 6) + 12) h319) (fun r333 h333 =>
      bif r333 then
        bd (fX5_readCame x0 h333) (fun r340 h340 =>
        bif r340 then
          some (true, h340)
        else
        some (false, h340))
      else
      some (false, h333)))
    else
    gd (isKb 0 (gR h319 x0 6)) (
    bd (fX5_addRow x0 ((gR h319 x0 6) + 14) h319) (fun r360 h360 =>
    bif r360 then
      bd (fX5_readDid x0 h360) (fun r367 h367 =>
      bif r367 then
        some (true, h367)
      else
      some (false, h367))
    else
    some (false, h360)))))))))))))))
  else
  bd (fX5_fail x0 1 h1) (fun r9 h9 =>
  some (r9, h9)))
def fX5_read_L49 (k49_73 : HH → Option (Int32 × HH)) (x0 : Nat) (self49 : Int32 → HH → Option (Int32 × HH)) (x4 : Int32) (h : HH) : Option (Int32 × HH) :=
  if (gI h x0 5) < x4 then
    some ((gI h x0 7), h)
  else
  bd (fX5_readLine x0 h) (fun r59 h59 =>
  bif r59 then
    if (gI h59 x0 10) = 5 then
      k49_73  h59
    else
    if (gI h59 x0 10) = 3 then
      bv (fX5_next x0 h59) (fun h114 =>
      self49 (x4 + 1) h114)
    else
    some (1, h59)
  else
  some ((gI h59 x0 7), h59))
def fX5_read (x0 : Nat) (x1 : Nat) (x2 : Int32) (x3 : Nat) (h : HH) : Option (Int32 × HH) :=
  nm (sI (sR h x0 4 x1) x0 5 (jmmin x2 (Int32.ofNat (ln x1)))) (fun g1 =>
  gd (isKb 0 (gR (sR g1 x0 6 x3) x0 6)) (
  bv (fX0_clear (gR (sR g1 x0 6 x3) x0 6) (sR g1 x0 6 x3)) (fun h24 =>
  nm (sI (sI h24 x0 3 0) x0 7 0) (fun g3 =>
  bv (fX5_next x0 (sI g3 x0 9 0)) (fun h43 =>
  lq1 (fX5_read_L49 (fun  h =>
    gd (isKb 0 (gR h x0 6)) (
    if (gI h (gR h x0 6) 12) = 0 then
      some (6, h)
    else
    gd (isKb 0 (gR h x0 6)) (
    if (gI h ((gR h x0 6) + 4) 3) = 0 then
      some (6, h)
    else
    some (0, h)))) x0) FU 0 h43)))))
