def fX8_feedNumber_L3 (x0 : Nat) (x1 : Int32) (self3 : Int32 → HH → Option (HH)) (x2 : Int32) (h : HH) : Option (HH) :=
  if x2 < 0 then
    some h
  else
  if 1000 ≤ (gI h x0 13) then
    some h
  else
  gd (inb (gI h x0 13) 1000) (
  nm (sI h (x0 + 1) (ix (gI h x0 13)) (vp_nar .byte ((((x1 : Int32).toUInt32 >>> ((x2 : Int32).toUInt32 &&& Int32.toUInt32 31)).toInt32).toInt8.toInt32))) (fun g1 =>
  self3 (x2 + (-8)) (sI g1 x0 13 ((gI g1 x0 13) + 1))))
def fX8_feedNumber (x0 : Nat) (x1 : Int32) (h : HH) : Option (HH) :=
  lq1 (fX8_feedNumber_L3 x0 x1) FU 24 h
def fX8_feed (x0 : Nat) (x1 : Int32) (x2 : Int32) (x3 : Int32) (x4 : Int32) (x5 : Int32) (h : HH) : Option (Int32 × HH) :=
  if ((gI h x0 13) + 20) ≤ 1000 then
    bv (fX8_feedNumber x0 x1 h) (fun h17 =>
    bv (fX8_feedNumber x0 x2 h17) (fun h22 =>
    bv (fX8_feedNumber x0 x3 h22) (fun h27 =>
    bv (fX8_feedNumber x0 x4 h27) (fun h33 =>
    bv (fX8_feedNumber x0 x5 h33) (fun h39 =>
    some ((gI h39 x0 13), h39))))))
  else
  some ((-1), h)
def fX8_refuse (x0 : Nat) (x1 : Int32) (h : HH) : Option (Int32 × HH) :=
  some ((-1), (sI h x0 16 x1))
def fX8_allow (x0 : Nat) (x1 : Int32) (h : HH) : Option (Int32 × HH) :=
  some (x1, (sI h x0 16 0))
def fX8_dream (x0 : Nat) (x1 : Int32) (h : HH) : Option (Int32 × HH) :=
  if x1 < 0 then
    bd (fX8_refuse x0 2 h) (fun r14 h14 =>
    some (r14, h14))
  else
  if x1 ≤ (gI h x0 13) then
    gd (isKb 0 (gR (sI h x0 13 0) x0 11)) (
    bd (fX5_read (x0 + 2) (x0 + 1) x1 (gR (sI h x0 13 0) x0 11) (sI h x0 13 0)) (fun r37 h37 =>
    if (gI (sI h37 x0 17 r37) x0 17) = 0 then
      gd (isKb 0 (gR (sI h37 x0 17 r37) x0 10)) (
      nm (gR (sI h37 x0 17 r37) x0 10) (fun y3 =>
      gd (isKb 0 (gR (sI h37 x0 17 r37) x0 11)) (
      nm (sR (sI h37 x0 17 r37) x0 10 (gR (sI h37 x0 17 r37) x0 11)) (fun g6 =>
      nm (sI (sR g6 x0 11 y3) x0 12 1) (fun g7 =>
      gd (isKb 0 (gR g7 x0 10)) (
      bv (fX2_begin (x0 + 6) (gR g7 x0 10) g7) (fun h98 =>
      nm (sI (sI h98 (x0 + 28) 2 0) (x0 + 39) 0 0) (fun g9 =>
      nm (sI (sI g9 x0 14 0) x0 15 0) (fun g10 =>
      gd (isKb 0 (gR g10 x0 10)) (
      bd (fX8_allow x0 (gI g10 ((gR g10 x0 10) + 4) 3) g10) (fun r138 h138 =>
      some (r138, h138))))))))))))
    else
    nm (sI (sI h37 x0 17 r37) x0 18 (gI (sI h37 x0 17 r37) (x0 + 2) 8)) (fun g12 =>
    bd (fX8_refuse x0 4 g12) (fun r63 h63 =>
    some (r63, h63)))))
  else
  bd (fX8_refuse x0 2 h) (fun r14 h14 =>
  some (r14, h14))
def fX8_fault (x0 : Nat) (h : HH) : Option (Int32 × HH) :=
  some ((gI h x0 17), h)
def fX8_where (x0 : Nat) (h : HH) : Option (Int32 × HH) :=
  if (gI h x0 16) = 4 then
    some ((gI h x0 18), h)
  else
  some ((-1), h)
def fX8_isFloor (x0 : Nat) (x1 : Int32) (h : HH) : Option (Bool × HH) :=
  if (gI h x0 12) = 0 then
    some (false, h)
  else
  if x1 < 0 then
    some (false, h)
  else
  gd (isKb 0 (gR h x0 10)) (
  if (gI h (gR h x0 10) 9) < x1 then
    some (false, h)
  else
  some (true, h))
def fX8_quick (x0 : Nat) (x1 : Int32) (h : HH) : Option (Int32 × HH) :=
  bd (fX8_isFloor x0 x1 h) (fun r2 h2 =>
  bif r2 then
    gd (isKb 0 (gR h2 x0 10)) (
    bd (fX0_quickOf (gR h2 x0 10) x1 h2) (fun r14 h14 =>
    bd (fX8_allow x0 r14 h14) (fun r17 h17 =>
    some (r17, h17))))
  else
  bd (fX8_refuse x0 1 h2) (fun r25 h25 =>
  some (r25, h25)))
def fX8_clockOf (x0 : Nat) (x1 : Int32) (h : HH) : Option (Int64 × HH) :=
  gd (isKb 0 (gR h x0 10)) (
  bd (fX0_minuteOf (gR h x0 10) x1 h) (fun r12 h12 =>
  bd (fX8_quotient (gL h (x0 + 6) 6) r12.toInt64 h12) (fun r16 h16 =>
  some (r16, h16))))
def fX8_allow_ (x0 : Nat) (x1 : Int64) (h : HH) : Option (Int64 × HH) :=
  some (x1, (sI h x0 16 0))
def fX8_clock (x0 : Nat) (x1 : Int32) (h : HH) : Option (Int64 × HH) :=
  bd (fX8_isFloor x0 x1 h) (fun r2 h2 =>
  bif r2 then
    bd (fX8_clockOf x0 x1 h2) (fun r11 h11 =>
    bd (fX8_allow_ x0 r11 h11) (fun r14 h14 =>
    some (r14, h14)))
  else
  bd (fX8_refuse x0 1 h2) (fun r22 h22 =>
  some (r22.toInt64, h22)))
def fX8_ticks (x0 : Nat) (h : HH) : Option (Int64 × HH) :=
  if (gI h x0 12) = 0 then
    bd (fX8_refuse x0 1 h) (fun r23 h23 =>
    some (r23.toInt64, h23))
  else
  bd (fX8_allow_ x0 (gL h (x0 + 6) 6) h) (fun r15 h15 =>
  some (r15, h15))
def fX8_inLowestTerms_L26 (x0 : Int64) (x2 : Int64) (x4 : Bool) (self26 : Int64 → Int64 → Int32 → HH → Option (Int64 × HH)) (x5 : Int64) (x7 : Int64) (x9 : Int32) (h : HH) : Option (Int64 × HH) :=
  if 200 ≤ x9 then
    bif x4 then
      bd (fX8_quotient x2 x5 h) (fun r74 h74 =>
      some (r74, h74))
    else
    bd (fX8_quotient x0 x5 h) (fun r74 h74 =>
    some (r74, h74))
  else
  if x7 = 0 then
    bif x4 then
      bd (fX8_quotient x2 x5 h) (fun r74 h74 =>
      some (r74, h74))
    else
    bd (fX8_quotient x0 x5 h) (fun r74 h74 =>
    some (r74, h74))
  else
  gd (!(x7 == 0)) (
  nm (x5 - x5 / x7 * x7) (fun y1 =>
  self26 x7 y1 (x9 + 1) h))
def fX8_inLowestTerms (x0 : Int64) (x2 : Int64) (x4 : Bool) (h : HH) : Option (Int64 × HH) :=
  if x0 = 0 then
    bif x4 then
      some (1, h)
    else
    some (0, h)
  else
  lq3 (fX8_inLowestTerms_L26 x0 x2 x4) FU x0 x2 0 h
def fX8_minutes (x0 : Nat) (x1 : Int32) (x2 : Int32) (x3 : Int32) (x4 : Bool) (h : HH) : Option (Int64 × HH) :=
  bd (fX8_isFloor x0 x1 h) (fun r2 h2 =>
  bif r2 then
    bd (fX8_isFloor x0 x2 h2) (fun r10 h10 =>
    bif r10 then
      if x3 < 0 then
        bd (fX8_refuse x0 2 h10) (fun r36 h36 =>
        some (r36.toInt64, h36))
      else
      if x3 ≤ 9999 then
        gd (isKb 0 (gR h10 x0 10)) (
        bd (fX0_quickOf (gR h10 x0 10) x2 h10) (fun r49 h49 =>
        gd (isKb 0 (gR h49 x0 10)) (
        bd (fX0_quickOf (gR h49 x0 10) x1 h49) (fun r59 h59 =>
        bd (fX8_inLowestTerms (x3.toInt64 * r49.toInt64) r59.toInt64 x4 h59) (fun r65 h65 =>
        bd (fX8_allow_ x0 r65 h65) (fun r68 h68 =>
        some (r68, h68)))))))
      else
      bd (fX8_refuse x0 2 h10) (fun r36 h36 =>
      some (r36.toInt64, h36))
    else
    bd (fX8_refuse x0 1 h10) (fun r18 h18 =>
    some (r18.toInt64, h18)))
  else
  bd (fX8_refuse x0 1 h2) (fun r18 h18 =>
  some (r18.toInt64, h18)))
def fX8_isSleeper (x0 : Nat) (x1 : Int32) (h : HH) : Option (Bool × HH) :=
  if (gI h x0 12) = 0 then
    some (false, h)
  else
  if x1 < 0 then
    some (false, h)
  else
  gd (isKb 0 (gR h x0 10)) (
  if (gI h ((gR h x0 10) + 4) 3) ≤ x1 then
    some (false, h)
  else
  some (true, h))
def fX8_sleeper (x0 : Nat) (x1 : Int32) (x2 : Int32) (h : HH) : Option (Int32 × HH) :=
  bd (fX8_isSleeper x0 x1 h) (fun r2 h2 =>
  bif r2 then
    if x2 = 0 then
      gd (inb x1 5) (
      bd (fX8_allow x0 (gI h2 ((x0 + 6) + 1) (ix x1)) h2) (fun r66 h66 =>
      some (r66, h66)))
    else
    if x2 = 1 then
      gd (inb x1 5) (
      bd (fX8_allow x0 (gI h2 ((x0 + 6) + 2) (ix x1)) h2) (fun r80 h80 =>
      some (r80, h80)))
    else
    if x2 = 2 then
      gd (inb x1 5) (
      bd (fX8_allow x0 (gI h2 ((x0 + 6) + 3) (ix x1)) h2) (fun r94 h94 =>
      some (r94, h94)))
    else
    if x2 = 3 then
      gd (inb x1 5) (
      gd (isKb 0 (gR h2 x0 10)) (
      gd (inb x1 5) (
      bd (fX0_minuteOf (gR h2 x0 10) (gI h2 ((x0 + 6) + 1) (ix x1)) h2) (fun r129 h129 =>
      bd (fX8_quotient ((gL h2 (x0 + 6) 6) - (gL h2 ((x0 + 6) + 5) (ix x1))) r129.toInt64 h129) (fun r133 h133 =>
      bd (fX8_allow x0 r133.toInt32 h133) (fun r137 h137 =>
      some (r137, h137)))))))
    else
    if x2 = 4 then
      gd (isKb 0 (gR h2 x0 10)) (
      bd (fX7_at ((gR h2 x0 10) + 4) x1 0 h2) (fun r151 h151 =>
      bd (fX8_allow x0 r151 h151) (fun r154 h154 =>
      some (r154, h154))))
    else
    if x2 = 5 then
      gd (isKb 0 (gR h2 x0 10)) (
      bd (fX7_at ((gR h2 x0 10) + 4) x1 1 h2) (fun r168 h168 =>
      bd (fX8_allow x0 r168 h168) (fun r171 h171 =>
      some (r171, h171))))
    else
    if x2 = 6 then
      gd (isKb 0 (gR h2 x0 10)) (
      bd (fX7_at ((gR h2 x0 10) + 4) x1 4 h2) (fun r185 h185 =>
      bd (fX8_allow x0 r185 h185) (fun r188 h188 =>
      some (r188, h188))))
    else
    bd (fX8_refuse x0 1 h2) (fun r194 h194 =>
    some (r194, h194))
  else
  bd (fX8_refuse x0 1 h2) (fun r10 h10 =>
  some (r10, h10)))
def fX8_lived (x0 : Nat) (x1 : Int32) (x2 : Bool) (h : HH) : Option (Int64 × HH) :=
  bd (fX8_isSleeper x0 x1 h) (fun r2 h2 =>
  bif r2 then
    gd (isKb 0 (gR h2 x0 10)) (
    bd (fX2_livedBy (x0 + 6) (gR h2 x0 10) x1 h2) (fun r25 h25 =>
    gd (isKb 0 (gR h25 x0 10)) (
    bd (fX0_bottom (gR h25 x0 10) h25) (fun r32 h32 =>
    bd (fX8_inLowestTerms r25 r32.toInt64 x2 h32) (fun r37 h37 =>
    bd (fX8_allow_ x0 r37 h37) (fun r40 h40 =>
    some (r40, h40)))))))
  else
  bd (fX8_refuse x0 1 h2) (fun r10 h10 =>
  some (r10.toInt64, h10)))
def fX8_isPair (x0 : Nat) (x1 : Int32) (x2 : Int32) (h : HH) : Option (Bool × HH) :=
  bd (fX8_isSleeper x0 x1 h) (fun r2 h2 =>
  bif r2 then
    bd (fX8_isSleeper x0 x2 h2) (fun r10 h10 =>
    bif r10 then
      if x1 = x2 then
        some (false, h10)
      else
      some (true, h10)
    else
    some (false, h10))
  else
  some (false, h2))
def fX8_meet (x0 : Nat) (x1 : Int32) (x2 : Int32) (h : HH) : Option (Int32 × HH) :=
  bd (fX8_isPair x0 x1 x2 h) (fun r3 h3 =>
  bif r3 then
    bd (fX2_haveMet (x0 + 6) x1 x2 h3) (fun r22 h22 =>
    bif r22 then
      bd (fX8_allow x0 1 h22) (fun r33 h33 =>
      some (r33, h33))
    else
    bd (fX8_allow x0 0 h22) (fun r33 h33 =>
    some (r33, h33)))
  else
  bd (fX8_refuse x0 1 h3) (fun r11 h11 =>
  some (r11, h11)))
def fX8_off_L15 (x0 : Nat) (self15 : Int32 → HH → Option (Int32 × HH)) (x1 : Int32) (h : HH) : Option (Int32 × HH) :=
  gd (isKb 0 (gR h x0 10)) (
  if (gI h ((gR h x0 10) + 4) 3) ≤ x1 then
    bd (fX8_allow x0 (-2) h) (fun r76 h76 =>
    some (r76, h76))
  else
  gd (isKb 0 (gR h x0 10)) (
  bd (fX7_at ((gR h x0 10) + 4) x1 4 h) (fun r38 h38 =>
  if r38 = (-2) then
    self15 (x1 + 1) h38
  else
  gd (inb x1 5) (
  if r38 = (gI h38 ((x0 + 6) + 1) (ix x1)) then
    self15 (x1 + 1) h38
  else
  bd (fX8_allow x0 x1 h38) (fun r63 h63 =>
  some (r63, h63))))))
def fX8_off (x0 : Nat) (h : HH) : Option (Int32 × HH) :=
  if (gI h x0 12) = 0 then
    bd (fX8_refuse x0 1 h) (fun r9 h9 =>
    some (r9, h9))
  else
  lq1 (fX8_off_L15 x0) FU 0 h
def fX8_isSpan (x0 : Int32) (h : HH) : Option (Bool × HH) :=
  if x0 < 0 then
    some (false, h)
  else
  if 600 < x0 then
    some (false, h)
  else
  some (true, h)
def fX8_whyNotIn (x0 : Nat) (x1 : Int32) (x2 : Int32) (h : HH) : Option (Int32 × HH) :=
  bd (fX8_isSleeper x0 x1 h) (fun r2 h2 =>
  bif r2 then
    bd (fX8_isSpan x2 h2) (fun r11 h11 =>
    bif r11 then
      some (0, h11)
    else
    some (2, h11))
  else
  some (1, h2))
def fX8_lookAhead (x0 : Nat) (x1 : Int32) (h : HH) : Option (HH) :=
  bv (fX2_copyFrom (x0 + 13) (x0 + 6) h) (fun h8 =>
  gd (isKb 0 (gR h8 x0 10)) (
  gd (isKb 0 (gR h8 x0 10)) (
  bd (fX0_bottom (gR h8 x0 10) h8) (fun r32 h32 =>
  bv (fX2_runTo (x0 + 13) (gR h8 x0 10) ((gL h8 (x0 + 6) 6) + (x1.toInt64 * r32.toInt64)) h32) (fun h38 =>
  some h38)))))
def fX8_floorIn (x0 : Nat) (x1 : Int32) (x2 : Int32) (h : HH) : Option (Int32 × HH) :=
  bd (fX8_whyNotIn x0 x1 x2 h) (fun r3 h3 =>
  if r3 = 0 then
    bv (fX8_lookAhead x0 x2 h3) (fun h19 =>
    gd (inb x1 5) (
    bd (fX8_allow x0 (gI h19 ((x0 + 13) + 1) (ix x1)) h19) (fun r32 h32 =>
    some (r32, h32))))
  else
  bd (fX8_refuse x0 r3 h3) (fun r13 h13 =>
  some (r13, h13)))
def fX8_headIn (x0 : Nat) (x1 : Int32) (x2 : Int32) (h : HH) : Option (Int32 × HH) :=
  bd (fX8_whyNotIn x0 x1 x2 h) (fun r3 h3 =>
  if r3 = 0 then
    bv (fX8_lookAhead x0 x2 h3) (fun h19 =>
    gd (inb x1 5) (
    bd (fX8_allow x0 (gI h19 ((x0 + 13) + 2) (ix x1)) h19) (fun r32 h32 =>
    some (r32, h32))))
  else
  bd (fX8_refuse x0 r3 h3) (fun r13 h13 =>
  some (r13, h13)))
def fX8_meetsIn (x0 : Nat) (x1 : Int32) (x2 : Int32) (x3 : Int32) (h : HH) : Option (Int32 × HH) :=
  bd (fX8_isPair x0 x1 x2 h) (fun r3 h3 =>
  bif r3 then
    bd (fX8_isSpan x3 h3) (fun r16 h16 =>
    bif r16 then
      gd (isKb 0 (gR h16 x0 10)) (
      bd (fX3_firstMeeting (x0 + 20) (gR h16 x0 10) (x0 + 6) x1 x2 x3 h16) (fun r44 h44 =>
      bd (fX8_allow x0 r44 h44) (fun r47 h47 =>
      some (r47, h47))))
    else
    bd (fX8_refuse x0 2 h16) (fun r24 h24 =>
    some (r24, h24)))
  else
  bd (fX8_refuse x0 1 h3) (fun r11 h11 =>
  some (r11, h11)))
def fX8_awakeIn (x0 : Nat) (x1 : Int32) (x2 : Int32) (h : HH) : Option (Int32 × HH) :=
  bd (fX8_whyNotIn x0 x1 x2 h) (fun r3 h3 =>
  if r3 = 0 then
    gd (isKb 0 (gR h3 x0 10)) (
    bd (fX3_firstAwake (x0 + 20) (gR h3 x0 10) (x0 + 6) x1 x2 h3) (fun r34 h34 =>
    bd (fX8_allow x0 r34 h34) (fun r37 h37 =>
    some (r37, h37))))
  else
  bd (fX8_refuse x0 r3 h3) (fun r13 h13 =>
  some (r13, h13)))
def fX8_lonely (x0 : Nat) (x1 : Int32) (x2 : Int32) (h : HH) : Option (Int32 × HH) :=
  bd (fX8_whyNotIn x0 x1 x2 h) (fun r3 h3 =>
  if r3 = 0 then
    gd (isKb 0 (gR h3 x0 10)) (
    bd (fX3_countLonely (x0 + 20) (gR h3 x0 10) (x0 + 6) x1 x2 h3) (fun r34 h34 =>
    bd (fX8_allow x0 r34 h34) (fun r37 h37 =>
    some (r37, h37))))
  else
  bd (fX8_refuse x0 r3 h3) (fun r13 h13 =>
  some (r13, h13)))
def fX8_crowd (x0 : Nat) (x1 : Int32) (h : HH) : Option (Int32 × HH) :=
  if (gI h x0 12) = 0 then
    bd (fX8_refuse x0 1 h) (fun r9 h9 =>
    some (r9, h9))
  else
  bd (fX8_isSpan x1 h) (fun r14 h14 =>
  bif r14 then
    gd (isKb 0 (gR h14 x0 10)) (
    bd (fX3_mostTogether (x0 + 20) (gR h14 x0 10) (x0 + 6) x1 h14) (fun r34 h34 =>
    bd (fX8_allow x0 r34 h34) (fun r37 h37 =>
    some (r37, h37))))
  else
  bd (fX8_refuse x0 2 h14) (fun r45 h45 =>
  some (r45, h45)))
def fX8_left_L56 (x0 : Nat) (self56 : Int32 → Int32 → HH → Option (Int32 × HH)) (x1 : Int32) (x2 : Int32) (h : HH) : Option (Int32 × HH) :=
  gd (isKb 0 (gR h x0 10)) (
  if (gI h ((gR h x0 10) + 4) 3) ≤ x2 then
    bd (fX8_allow x0 x1 h) (fun r96 h96 =>
    some (r96, h96))
  else
  gd (inb x2 5) (
  if (gI h ((x0 + 13) + 1) (ix x2)) ≤ 0 then
    self56 x1 (x2 + 1) h
  else
  nm (x1 ||| ((1 : Int32) <<< (x2 &&& 31))) (fun y4 =>
  self56 y4 (x2 + 1) h)))
def fX8_left (x0 : Nat) (h : HH) : Option (Int32 × HH) :=
  if (gI h x0 12) = 0 then
    bd (fX8_refuse x0 1 h) (fun r9 h9 =>
    some (r9, h9))
  else
  bv (fX2_copyFrom (x0 + 13) (x0 + 6) h) (fun h21 =>
  gd (isKb 0 (gR h21 x0 10)) (
  gd (isKb 0 (gR h21 x0 10)) (
  bd (fX0_morningTick (gR h21 x0 10) h21) (fun r43 h43 =>
  bv (fX2_runTo (x0 + 13) (gR h21 x0 10) (jmmaxl (gL h21 (x0 + 6) 6) r43) h43) (fun h49 =>
  lq2 (fX8_left_L56 x0) FU 0 0 h49)))))
def fX8_woken (x0 : Nat) (x1 : Int32) (x2 : Int32) (h : HH) : Option (Int32 × HH) :=
  bd (fX8_whyNotIn x0 x1 x2 h) (fun r3 h3 =>
  if r3 = 0 then
    bv (fX8_lookAhead x0 x2 h3) (fun h19 =>
    gd (inb x1 5) (
    gd (inb x1 5) (
    bd (fX8_allow x0 ((gI h19 ((x0 + 13) + 4) (ix x1)) - (gI h19 ((x0 + 6) + 4) (ix x1))) h19) (fun r42 h42 =>
    some (r42, h42)))))
  else
  bd (fX8_refuse x0 r3 h3) (fun r13 h13 =>
  some (r13, h13)))
def fX8_isStrong (x0 : Int32) (h : HH) : Option (Bool × HH) :=
  if x0 < 1 then
    some (false, h)
  else
  if 99 < x0 then
    some (false, h)
  else
  some (true, h)
def fX8_felt (x0 : Nat) (x1 : Int32) (x2 : Int32) (x3 : Int32) (h : HH) : Option (Int64 × HH) :=
  bd (fX8_isFloor x0 x2 h) (fun r2 h2 =>
  bif r2 then
    bd (fX8_isFloor x0 x3 h2) (fun r10 h10 =>
    bif r10 then
      if x2 < x3 then
        bd (fX8_isStrong x1 h10) (fun r29 h29 =>
        bif r29 then
          gd (isKb 0 (gR h29 x0 10)) (
          bd (fX0_feltOn (gR h29 x0 10) x1 x2 x3 h29) (fun r43 h43 =>
          bd (fX8_allow_ x0 r43 h43) (fun r46 h46 =>
          some (r46, h46))))
        else
        bd (fX8_refuse x0 2 h29) (fun r54 h54 =>
        some (r54.toInt64, h54)))
      else
      bd (fX8_refuse x0 1 h10) (fun r23 h23 =>
      some (r23.toInt64, h23))
    else
    bd (fX8_refuse x0 1 h10) (fun r23 h23 =>
    some (r23.toInt64, h23)))
  else
  bd (fX8_refuse x0 1 h2) (fun r23 h23 =>
  some (r23.toInt64, h23)))
def fX8_task (x0 : Nat) (x1 : Int32) (h : HH) : Option (Int32 × HH) :=
  if (gI h x0 12) = 0 then
    bd (fX8_refuse x0 1 h) (fun r27 h27 =>
    some (r27, h27))
  else
  if x1 < 0 then
    bd (fX8_refuse x0 1 h) (fun r27 h27 =>
    some (r27, h27))
  else
  gd (isKb 0 (gR h x0 10)) (
  if x1 < (gI h ((gR h x0 10) + 10) 3) then
    gd (isKb 0 (gR h x0 10)) (
    bv (fX4_make (x0 + 28) (gR h x0 10) h) (fun h39 =>
    if (gI h39 (x0 + 28) 3) = 0 then
      bd (fX8_allow x0 (-2) h39) (fun r67 h67 =>
      some (r67, h67))
    else
    gd (inb x1 6) (
    bd (fX8_allow x0 (gI h39 ((x0 + 28) + 1) (ix x1)) h39) (fun r67 h67 =>
    some (r67, h67)))))
  else
  bd (fX8_refuse x0 1 h) (fun r27 h27 =>
  some (r27, h27)))
def fX8_best (x0 : Nat) (x1 : Int32) (h : HH) : Option (Int64 × HH) :=
  if (gI h x0 12) = 0 then
    bd (fX8_refuse x0 1 h) (fun r18 h18 =>
    some (r18.toInt64, h18))
  else
  if x1 < 0 then
    bd (fX8_refuse x0 1 h) (fun r18 h18 =>
    some (r18.toInt64, h18))
  else
  if x1 ≤ 2 then
    gd (isKb 0 (gR h x0 10)) (
    bv (fX4_make (x0 + 28) (gR h x0 10) h) (fun h31 =>
    if (gI h31 (x0 + 28) 3) = 0 then
      bd (fX8_allow x0 (-2) h31) (fun r47 h47 =>
      some (r47.toInt64, h47))
    else
    if x1 = 0 then
      bd (fX8_allow_ x0 (gL h31 (x0 + 28) 4) h31) (fun r64 h64 =>
      some (r64, h64))
    else
    if x1 = 1 then
      bd (fX8_allow_ x0 (gL h31 (x0 + 28) 5) h31) (fun r91 h91 =>
      some (r91, h91))
    else
    bd (fX8_allow_ x0 (gL h31 (x0 + 28) 6) h31) (fun r91 h91 =>
    some (r91, h91))))
  else
  bd (fX8_refuse x0 1 h) (fun r18 h18 =>
  some (r18.toInt64, h18))
def fX8_soonest (x0 : Nat) (h : HH) : Option (Int64 × HH) :=
  if (gI h x0 12) = 0 then
    bd (fX8_refuse x0 1 h) (fun r23 h23 =>
    some (r23.toInt64, h23))
  else
  gd (isKb 0 (gR h x0 10)) (
  bd (fX4_leastTicks (gR h x0 10) h) (fun r12 h12 =>
  bd (fX8_allow_ x0 r12 h12) (fun r15 h15 =>
  some (r15, h15))))
def fX8_whyNotTogether_L37 (x0 : Nat) (x1 : Int32) (self37 : Int32 → Int32 → HH → Option (Int32 × HH)) (x2 : Int32) (x3 : Int32) (h : HH) : Option (Int32 × HH) :=
  gd (isKb 0 (gR h x0 10)) (
  if (gI h ((gR h x0 10) + 4) 3) ≤ x3 then
    some (0, h)
  else
  if ((x1 >>> (x3 &&& 31)) &&& 1) = 0 then
    self37 x2 (x3 + 1) h
  else
  if x2 = (-2) then
    gd (inb x3 5) (
    if (gI h ((x0 + 6) + 1) (ix x3)) = 0 then
      some (5, h)
    else
    gd (inb x3 5) (
    nm (gI h ((x0 + 6) + 2) (ix x3)) (fun y3 =>
    self37 y3 (x3 + 1) h)))
  else
  gd (inb x3 5) (
  if x2 = (gI h ((x0 + 6) + 2) (ix x3)) then
    gd (inb x3 5) (
    if (gI h ((x0 + 6) + 1) (ix x3)) = 0 then
      some (5, h)
    else
    gd (inb x3 5) (
    nm (gI h ((x0 + 6) + 2) (ix x3)) (fun y4 =>
    self37 y4 (x3 + 1) h)))
  else
  gd (inb x3 5) (
  if (gI h ((x0 + 6) + 1) (ix x3)) = 0 then
    some (5, h)
  else
  some (5, h))))
def fX8_whyNotTogether (x0 : Nat) (x1 : Int32) (h : HH) : Option (Int32 × HH) :=
  if (gI h x0 12) = 0 then
    some (1, h)
  else
  if x1 < 1 then
    some (2, h)
  else
  gd (isKb 0 (gR h x0 10)) (
  if x1 < ((1 : Int32) <<< ((gI h ((gR h x0 10) + 4) 3) &&& 31)) then
    lq2 (fX8_whyNotTogether_L37 x0 x1) FU (-2) 0 h
  else
  some (2, h))
def fX8_together (x0 : Nat) (x1 : Int32) (h : HH) : Option (Int32 × HH) :=
  bd (fX8_whyNotTogether x0 x1 h) (fun r2 h2 =>
  if r2 = 0 then
    gd (isKb 0 (gR h2 x0 10)) (
    bd (fX6_seek (x0 + 31) (gR h2 x0 10) (x0 + 6) x1 h2) (fun r32 h32 =>
    bd (fX8_allow x0 r32 h32) (fun r35 h35 =>
    some (r35, h35))))
  else
  bd (fX8_refuse x0 r2 h2) (fun r12 h12 =>
  some (r12, h12)))
def fX8_togetherAt (x0 : Nat) (x1 : Int32) (x2 : Int32) (h : HH) : Option (Int32 × HH) :=
  bd (fX8_whyNotTogether x0 x1 h) (fun r2 h2 =>
  if r2 = 0 then
    gd (isKb 0 (gR h2 x0 10)) (
    bd (fX6_seek (x0 + 31) (gR h2 x0 10) (x0 + 6) x1 h2) (fun r29 h29 =>
    if x2 < 0 then
      bd (fX8_refuse x0 1 h29) (fun r46 h46 =>
      some (r46, h46))
    else
    if x2 < r29 then
      gd (inb x2 20) (
      bd (fX8_allow x0 (gI h29 ((x0 + 31) + 1) (ix x2)) h29) (fun r62 h62 =>
      some (r62, h62)))
    else
    bd (fX8_refuse x0 1 h29) (fun r46 h46 =>
    some (r46, h46))))
  else
  bd (fX8_refuse x0 r2 h2) (fun r12 h12 =>
  some (r12, h12)))
def fX8_deep (x0 : Nat) (h : HH) : Option (Int32 × HH) :=
  if (gI h x0 12) = 0 then
    bd (fX8_refuse x0 1 h) (fun r23 h23 =>
    some (r23, h23))
  else
  gd (isKb 0 (gR h x0 10)) (
  bd (fX0_deepOnes (gR h x0 10) h) (fun r12 h12 =>
  bd (fX8_allow x0 r12 h12) (fun r15 h15 =>
  some (r15, h15))))
def fX8_whyNotAsk (x0 : Nat) (h : HH) : Option (Int32 × HH) :=
  if (gI h x0 12) = 0 then
    some (1, h)
  else
  gd (isKb 0 (gR h x0 10)) (
  bd (fX0_deepOnes (gR h x0 10) h) (fun r13 h13 =>
  bd (fJ6_bitCount_0f7a4 r13 h13) (fun r16 h16 =>
  if 2 ≤ r16 then
    some (0, h16)
  else
  some (6, h16))))
def fX8_fewestAsked_L9 (x0 : Nat) (x1 : Int32) (self9 : Int32 → Int32 → Int32 → HH → Option (Int32 × HH)) (x2 : Int32) (x3 : Int32) (x4 : Int32) (h : HH) : Option (Int32 × HH) :=
  gd (isKb 0 (gR h x0 10)) (
  if (gI h (gR h x0 10) 9) < x4 then
    gd (isKb 0 (gR h x0 10)) (
    bd (fX0_quickOf (gR h x0 10) x3 h) (fun r47 h47 =>
    some (r47, h47)))
  else
  if ((x1 >>> (x4 &&& 31)) &&& 1) = 1 then
    self9 x4 x2 (x4 + 1) h
  else
  self9 x2 x3 (x4 + 1) h)
def fX8_fewestAsked (x0 : Nat) (x1 : Int32) (h : HH) : Option (Int32 × HH) :=
  lq3 (fX8_fewestAsked_L9 x0 x1) FU (-2) (-2) 0 h
def fX8_ask (x0 : Nat) (h : HH) : Option (Int32 × HH) :=
  bd (fX8_whyNotAsk x0 h) (fun r1 h1 =>
  if r1 = 0 then
    gd (isKb 0 (gR h1 x0 10)) (
    bd (fX0_deepOnes (gR h1 x0 10) h1) (fun r23 h23 =>
    bd (fX8_fewestAsked x0 r23 h23) (fun r26 h26 =>
    bd (fX8_allow x0 r26 h26) (fun r29 h29 =>
    some (r29, h29)))))
  else
  bd (fX8_refuse x0 r1 h1) (fun r11 h11 =>
  some (r11, h11)))
def fX8_mostOfOneAnswer_L23 (k23_96 : Int32 → HH → Option (Int32 × HH)) (x0 : Nat) (x1 : Int32) (x2 : Int32) (x3 : Int32) (x4 : Int32) (self23 : Int32 → Int32 → HH → Option (Int32 × HH)) (x5 : Int32) (x6 : Int32) (h : HH) : Option (Int32 × HH) :=
  gd (isKb 0 (gR h x0 10)) (
  if (gI h (gR h x0 10) 9) < x6 then
    k23_96 x5 h
  else
  if (((x1 >>> (x4 &&& 31)) &&& (x1 >>> (x6 &&& 31))) &&& 1) = 1 then
    gd (isKb 0 (gR h x0 10)) (
    bd (fX0_shrunk (gR h x0 10) x2 x4 0 h) (fun r70 h70 =>
    gd (isKb 0 (gR h70 x0 10)) (
    bd (fX0_shrunk (gR h70 x0 10) x2 x6 0 h70) (fun r81 h81 =>
    if r70 = r81 then
      self23 (x5 + 1) (x6 + 1) h81
    else
    self23 x5 (x6 + 1) h81))))
  else
  self23 x5 (x6 + 1) h)
def fX8_mostOfOneAnswer_L5 (x0 : Nat) (x1 : Int32) (x2 : Int32) (self5 : Int32 → Int32 → HH → Option (Int32 × HH)) (x3 : Int32) (x4 : Int32) (h : HH) : Option (Int32 × HH) :=
  gd (isKb 0 (gR h x0 10)) (
  if (gI h (gR h x0 10) 9) < x4 then
    some (x3, h)
  else
  lq2 (fX8_mostOfOneAnswer_L23 (fun x5 h =>
    nm (jmmax x3 x5) (fun y5 =>
    self5 y5 (x4 + 1) h)) x0 x1 x2 x3 x4) FU 0 0 h)
def fX8_mostOfOneAnswer (x0 : Nat) (x1 : Int32) (x2 : Int32) (h : HH) : Option (Int32 × HH) :=
  lq2 (fX8_mostOfOneAnswer_L5 x0 x1 x2) FU 0 0 h
def fX8_askMost (x0 : Nat) (h : HH) : Option (Int32 × HH) :=
  bd (fX8_whyNotAsk x0 h) (fun r1 h1 =>
  if r1 = 0 then
    gd (isKb 0 (gR h1 x0 10)) (
    bd (fX0_deepOnes (gR h1 x0 10) h1) (fun r19 h19 =>
    bd (fX8_fewestAsked x0 r19 h19) (fun r28 h28 =>
    bd (fX8_mostOfOneAnswer x0 r19 r28 h28) (fun r31 h31 =>
    bd (fX8_allow x0 r31 h31) (fun r34 h34 =>
    some (r34, h34))))))
  else
  bd (fX8_refuse x0 r1 h1) (fun r11 h11 =>
  some (r11, h11)))
def fX8_isAbove (x0 : Nat) (x1 : Int32) (x2 : Int32) (h : HH) : Option (Bool × HH) :=
  bd (fX8_isFloor x0 x1 h) (fun r2 h2 =>
  bif r2 then
    bd (fX8_isFloor x0 x2 h2) (fun r10 h10 =>
    bif r10 then
      if x1 ≤ x2 then
        some (false, h10)
      else
      some (true, h10)
    else
    some (false, h10))
  else
  some (false, h2))
def fX8_letter (x0 : Nat) (x1 : Int32) (x2 : Int32) (x3 : Int32) (h : HH) : Option (Int32 × HH) :=
  bd (fX8_isAbove x0 x1 x2 h) (fun r3 h3 =>
  bif r3 then
    if x3 < 0 then
      bd (fX8_refuse x0 2 h3) (fun r28 h28 =>
      some (r28, h28))
    else
    if x3 ≤ 9999 then
      gd (isKb 0 (gR h3 x0 10)) (
      bd (fX0_shrunk (gR h3 x0 10) x3 x1 x2 h3) (fun r42 h42 =>
      bd (fX8_allow x0 r42 h42) (fun r45 h45 =>
      some (r45, h45))))
    else
    bd (fX8_refuse x0 2 h3) (fun r28 h28 =>
    some (r28, h28))
  else
  bd (fX8_refuse x0 1 h3) (fun r11 h11 =>
  some (r11, h11)))
def fX8_isVocabulary (x0 : Int32) (h : HH) : Option (Bool × HH) :=
  if x0 < 2 then
    some (false, h)
  else
  if 26 < x0 then
    some (false, h)
  else
  some (true, h)
def fX8_tells_L58 (x0 : Nat) (x4 : Int32) (x5 : Int32) (self58 : Int64 → Int32 → HH → Option (Int32 × HH)) (x6 : Int64) (x8 : Int32) (h : HH) : Option (Int32 × HH) :=
  if x5 ≤ x8 then
    bd (fX8_allow x0 ((jmminl x6 1000000).toInt32) h) (fun r98 h98 =>
    some (r98, h98))
  else
  if 1000000 ≤ x6 then
    bd (fX8_allow x0 ((jmminl x6 1000000).toInt32) h) (fun r98 h98 =>
    some (r98, h98))
  else
  nm (x6 * x4.toInt64) (fun y2 =>
  self58 y2 (x8 + 1) h)
def fX8_tells (x0 : Nat) (x1 : Int32) (x2 : Int32) (x3 : Int32) (x4 : Int32) (h : HH) : Option (Int32 × HH) :=
  bd (fX8_isAbove x0 x1 x2 h) (fun r3 h3 =>
  bif r3 then
    if x3 < 0 then
      bd (fX8_refuse x0 2 h3) (fun r36 h36 =>
      some (r36, h36))
    else
    if 9999 < x3 then
      bd (fX8_refuse x0 2 h3) (fun r36 h36 =>
      some (r36, h36))
    else
    bd (fX8_isVocabulary x4 h3) (fun r28 h28 =>
    bif r28 then
      gd (isKb 0 (gR h28 x0 10)) (
      bd (fX0_shrunk (gR h28 x0 10) x3 x1 x2 h28) (fun r47 h47 =>
      lq2 (fX8_tells_L58 x0 x4 r47) FU 1 0 h47))
    else
    bd (fX8_refuse x0 2 h28) (fun r36 h36 =>
    some (r36, h36)))
  else
  bd (fX8_refuse x0 1 h3) (fun r11 h11 =>
  some (r11, h11)))
def fX8_words_L49 (x0 : Nat) (x1 : Int32) (x2 : Int32) (x3 : Int32) (x4 : Int32) (self49 : Int64 → Int64 → HH → Option (Int64 × HH)) (x5 : Int64) (x7 : Int64) (h : HH) : Option (Int64 × HH) :=
  if x3.toInt64 ≤ x7 then
    gd (isKb 0 (gR h x0 10)) (
    bd (fX0_ratio (gR h x0 10) x2 x1 h) (fun r92 h92 =>
    bd (fX8_allow_ x0 (x5 * r92.toInt64) h92) (fun r97 h97 =>
    some (r97, h97))))
  else
  if 1000000 ≤ x5 then
    gd (isKb 0 (gR h x0 10)) (
    bd (fX0_ratio (gR h x0 10) x2 x1 h) (fun r92 h92 =>
    bd (fX8_allow_ x0 (x5 * r92.toInt64) h92) (fun r97 h97 =>
    some (r97, h97))))
  else
  nm (x5 + 1) (fun y3 =>
  nm (x7 * x4.toInt64) (fun y4 =>
  self49 y3 y4 h))
def fX8_words (x0 : Nat) (x1 : Int32) (x2 : Int32) (x3 : Int32) (x4 : Int32) (h : HH) : Option (Int64 × HH) :=
  bd (fX8_isAbove x0 x1 x2 h) (fun r3 h3 =>
  bif r3 then
    if x3 < 1 then
      bd (fX8_refuse x0 2 h3) (fun r38 h38 =>
      some (r38.toInt64, h38))
    else
    if 1000000 < x3 then
      bd (fX8_refuse x0 2 h3) (fun r38 h38 =>
      some (r38.toInt64, h38))
    else
    bd (fX8_isVocabulary x4 h3) (fun r30 h30 =>
    bif r30 then
      lq2 (fX8_words_L49 x0 x1 x2 x3 x4) FU 0 1 h30
    else
    bd (fX8_refuse x0 2 h30) (fun r38 h38 =>
    some (r38.toInt64, h38)))
  else
  bd (fX8_refuse x0 1 h3) (fun r11 h11 =>
  some (r11.toInt64, h11)))
def fX8_isDreamFloor (x0 : Nat) (x1 : Int32) (h : HH) : Option (Bool × HH) :=
  bd (fX8_isFloor x0 x1 h) (fun r2 h2 =>
  bif r2 then
    if x1 ≤ 0 then
      some (false, h2)
    else
    some (true, h2)
  else
  some (false, h2))
def fX8_ticksTo (x0 : Nat) (x1 : Int32) (x2 : Int32) (x3 : Int32) (h : HH) : Option (Int64 × HH) :=
  gd (isKb 0 (gR h x0 10)) (
  gd (inb x1 5) (
  if (gI h ((x0 + 6) + 2) (ix x1)) = x3 then
    gd (inb x1 5) (
    bd (fX0_falling (gR h x0 10) (gI h ((x0 + 6) + 1) (ix x1)) x2 h) (fun r31 h31 =>
    some (r31, h31)))
  else
  bd (fX0_falling (gR h x0 10) 0 x2 h) (fun r31 h31 =>
  some (r31, h31))))
def fX8_laterOfBoth (x0 : Nat) (x1 : Int32) (x2 : Int32) (x3 : Int32) (x4 : Int32) (h : HH) : Option (Int64 × HH) :=
  bd (fX8_ticksTo x0 x1 x3 x4 h) (fun r5 h5 =>
  bd (fX8_ticksTo x0 x2 x3 x4 h5) (fun r13 h13 =>
  some ((jmmaxl r5 r13), h13)))
def fX8_soonestHead_L6 (x0 : Nat) (x1 : Int32) (x2 : Int32) (x3 : Int32) (self6 : Int32 → Int32 → HH → Option (Int32 × HH)) (x4 : Int32) (x5 : Int32) (h : HH) : Option (Int32 × HH) :=
  gd (isKb 0 (gR h x0 10)) (
  if (gI h (gR h x0 10) 12) ≤ x5 then
    some (x4, h)
  else
  bd (fX8_laterOfBoth x0 x1 x2 x3 x5 h) (fun r24 h24 =>
  bd (fX8_laterOfBoth x0 x1 x2 x3 x4 h24) (fun r33 h33 =>
  if r33 ≤ r24 then
    self6 x4 (x5 + 1) h33
  else
  self6 x5 (x5 + 1) h33)))
def fX8_soonestHead (x0 : Nat) (x1 : Int32) (x2 : Int32) (x3 : Int32) (h : HH) : Option (Int32 × HH) :=
  lq2 (fX8_soonestHead_L6 x0 x1 x2 x3) FU 0 1 h
def fX8_meeting (x0 : Nat) (x1 : Int32) (x2 : Int32) (x3 : Int32) (h : HH) : Option (Int64 × HH) :=
  bd (fX8_isPair x0 x1 x2 h) (fun r3 h3 =>
  bif r3 then
    bd (fX8_isDreamFloor x0 x3 h3) (fun r11 h11 =>
    bif r11 then
      bd (fX8_soonestHead x0 x1 x2 x3 h11) (fun r33 h33 =>
      bd (fX8_laterOfBoth x0 x1 x2 x3 r33 h33) (fun r36 h36 =>
      bd (fX8_allow_ x0 r36 h36) (fun r39 h39 =>
      some (r39, h39))))
    else
    bd (fX8_refuse x0 1 h11) (fun r19 h19 =>
    some (r19.toInt64, h19)))
  else
  bd (fX8_refuse x0 1 h3) (fun r19 h19 =>
  some (r19.toInt64, h19)))
def fX8_meetingHead (x0 : Nat) (x1 : Int32) (x2 : Int32) (x3 : Int32) (h : HH) : Option (Int32 × HH) :=
  bd (fX8_isPair x0 x1 x2 h) (fun r3 h3 =>
  bif r3 then
    bd (fX8_isDreamFloor x0 x3 h3) (fun r11 h11 =>
    bif r11 then
      bd (fX8_soonestHead x0 x1 x2 x3 h11) (fun r28 h28 =>
      bd (fX8_allow x0 r28 h28) (fun r31 h31 =>
      some (r31, h31)))
    else
    bd (fX8_refuse x0 1 h11) (fun r19 h19 =>
    some (r19, h19)))
  else
  bd (fX8_refuse x0 1 h3) (fun r19 h19 =>
  some (r19, h19)))
def fX8_whyNoWages (x0 : Nat) (x1 : Int32) (h : HH) : Option (Int32 × HH) :=
  bd (fX8_isSleeper x0 x1 h) (fun r2 h2 =>
  bif r2 then
    gd (isKb 0 (gR h2 x0 10)) (
    if (gI h2 (gR h2 x0 10) 13) = 0 then
      some (6, h2)
    else
    some (0, h2))
  else
  some (1, h2))
def fX8_floorTaken_L4 (x0 : Nat) (x1 : Int32) (self4 : Int32 → Int32 → HH → Option (Int32 × HH)) (x2 : Int32) (x3 : Int32) (h : HH) : Option (Int32 × HH) :=
  gd (isKb 0 (gR h x0 10)) (
  if (gI h (gR h x0 10) 9) < x3 then
    some (x2, h)
  else
  gd (isKb 0 (gR h x0 10)) (
  bd (fX0_gainOn (gR h x0 10) x1 x3 h) (fun r21 h21 =>
  gd (isKb 0 (gR h21 x0 10)) (
  bd (fX0_gainOn (gR h21 x0 10) x1 x2 h21) (fun r30 h30 =>
  if r21 ≤ r30 then
    self4 x2 (x3 + 1) h30
  else
  self4 x3 (x3 + 1) h30)))))
def fX8_floorTaken (x0 : Nat) (x1 : Int32) (h : HH) : Option (Int32 × HH) :=
  lq2 (fX8_floorTaken_L4 x0 x1) FU 0 1 h
def fX8_takes (x0 : Nat) (x1 : Int32) (h : HH) : Option (Int32 × HH) :=
  bd (fX8_whyNoWages x0 x1 h) (fun r2 h2 =>
  if r2 = 0 then
    bd (fX8_floorTaken x0 x1 h2) (fun r21 h21 =>
    bd (fX8_allow x0 r21 h21) (fun r24 h24 =>
    some (r24, h24)))
  else
  bd (fX8_refuse x0 r2 h2) (fun r12 h12 =>
  some (r12, h12)))
def fX8_gains (x0 : Nat) (x1 : Int32) (h : HH) : Option (Int64 × HH) :=
  bd (fX8_whyNoWages x0 x1 h) (fun r2 h2 =>
  if r2 = 0 then
    gd (isKb 0 (gR h2 x0 10)) (
    bd (fX8_floorTaken x0 x1 h2) (fun r27 h27 =>
    bd (fX0_gainOn (gR h2 x0 10) x1 r27 h27) (fun r30 h30 =>
    bd (fX8_allow_ x0 r30 h30) (fun r33 h33 =>
    some (r33, h33)))))
  else
  bd (fX8_refuse x0 r2 h2) (fun r12 h12 =>
  some (r12.toInt64, h12)))
def fX8_leastPay (x0 : Nat) (x1 : Int32) (x2 : Int32) (x3 : Int64) (h : HH) : Option (Int32 × HH) :=
  gd (isKb 0 (gR h x0 10)) (
  bd (fX0_quickOf (gR h x0 10) x2 h) (fun r5 h5 =>
  gd (isKb 0 (gR h5 x0 10)) (
  bd (fX0_dreadOn (gR h5 x0 10) x1 x2 h5) (fun r17 h17 =>
  bd (fX8_quotient (((x3 + r17) + r5.toInt64) - 1) r5.toInt64 h17) (fun r30 h30 =>
  if r30 ≤ 99999 then
    some (r30.toInt32, h30)
  else
  some ((-2), h30))))))
def fX8_price_L44 (x0 : Nat) (x1 : Int32) (x2 : Int32) (self44 : Int64 → Int32 → HH → Option (Int32 × HH)) (x3 : Int64) (x5 : Int32) (h : HH) : Option (Int32 × HH) :=
  gd (isKb 0 (gR h x0 10)) (
  if (gI h (gR h x0 10) 9) < x5 then
    bd (fX8_leastPay x0 x1 x2 x3 h) (fun r101 h101 =>
    bd (fX8_allow x0 r101 h101) (fun r104 h104 =>
    some (r104, h104)))
  else
  if x5 = x2 then
    self44 x3 (x5 + 1) h
  else
  gd (isKb 0 (gR h x0 10)) (
  bd (fX0_gainOn (gR h x0 10) x1 x5 h) (fun r70 h70 =>
  if x2 ≤ x5 then
    nm (jmmaxl x3 (r70 + ((0 : Int32).toInt64))) (fun y4 =>
    self44 y4 (x5 + 1) h70)
  else
  nm (jmmaxl x3 (r70 + ((1 : Int32).toInt64))) (fun y5 =>
  self44 y5 (x5 + 1) h70))))
def fX8_price (x0 : Nat) (x1 : Int32) (x2 : Int32) (h : HH) : Option (Int32 × HH) :=
  bd (fX8_isSleeper x0 x1 h) (fun r2 h2 =>
  bif r2 then
    bd (fX8_isDreamFloor x0 x2 h2) (fun r10 h10 =>
    bif r10 then
      gd (isKb 0 (gR h10 x0 10)) (
      if (gI h10 (gR h10 x0 10) 13) = 0 then
        bd (fX8_refuse x0 6 h10) (fun r35 h35 =>
        some (r35, h35))
      else
      lq2 (fX8_price_L44 x0 x1 x2) FU 0 0 h10)
    else
    bd (fX8_refuse x0 1 h10) (fun r18 h18 =>
    some (r18, h18)))
  else
  bd (fX8_refuse x0 1 h2) (fun r18 h18 =>
  some (r18, h18)))
def fX8_enough (x0 : Nat) (x1 : Int32) (x2 : Int32) (h : HH) : Option (Int32 × HH) :=
  bd (fX8_isSleeper x0 x1 h) (fun r2 h2 =>
  bif r2 then
    bd (fX8_isDreamFloor x0 x2 h2) (fun r10 h10 =>
    bif r10 then
      bd (fX8_leastPay x0 x1 x2 1 h10) (fun r27 h27 =>
      bd (fX8_allow x0 r27 h27) (fun r30 h30 =>
      some (r30, h30)))
    else
    bd (fX8_refuse x0 1 h10) (fun r18 h18 =>
    some (r18, h18)))
  else
  bd (fX8_refuse x0 1 h2) (fun r18 h18 =>
  some (r18, h18)))
def fX8_rates (x0 : Nat) (h : HH) : Option (Int32 × HH) :=
  if (gI h x0 12) = 0 then
    bd (fX8_refuse x0 1 h) (fun r9 h9 =>
    some (r9, h9))
  else
  gd (isKb 0 (gR h x0 10)) (
  bv (fX1_make (x0 + 39) (gR h x0 10) h) (fun h21 =>
  bd (fX8_allow x0 (gI h21 (x0 + 39) 1) h21) (fun r32 h32 =>
  some (r32, h32))))
def fX8_rate (x0 : Nat) (x1 : Int32) (h : HH) : Option (Int32 × HH) :=
  bd (fX8_isDreamFloor x0 x1 h) (fun r2 h2 =>
  bif r2 then
    gd (isKb 0 (gR h2 x0 10)) (
    bv (fX1_make (x0 + 39) (gR h2 x0 10) h2) (fun h22 =>
    bd (fX1_onlyRate (x0 + 39) x1 h22) (fun r31 h31 =>
    bd (fX8_allow x0 r31 h31) (fun r34 h34 =>
    some (r34, h34)))))
  else
  bd (fX8_refuse x0 1 h2) (fun r10 h10 =>
  some (r10, h10)))
def fX8_hundreds_L4 (x0 : Int32) (self4 : Int64 → Int32 → HH → Option (Int64 × HH)) (x1 : Int64) (x3 : Int32) (h : HH) : Option (Int64 × HH) :=
  if x0 ≤ x3 then
    some (x1, h)
  else
  nm (x1 * 100) (fun y1 =>
  self4 y1 (x3 + 1) h)
def fX8_hundreds (x0 : Int32) (h : HH) : Option (Int64 × HH) :=
  lq2 (fX8_hundreds_L4 x0) FU 1 0 h
def fX8_wakingParts_0 (rec : Int32 → Int32 → Int32 → HH → Option (Int64 × HH)) (x0 : Int32) (x1 : Int32) (x2 : Int32) (h : HH) : Option (Int64 × HH) :=
  if 0 < x0 then
    if 0 < x1 then
      bd (rec (x0 - 1) (x1 - 1) x2 h) (fun r24 h24 =>
      bd (rec x0 (x1 - 1) x2 h24) (fun r38 h38 =>
      some (((x2.toInt64 * r24) + (((((100 : Int32) - x2)).toInt64) * r38)), h38)))
    else
    some (0, h)
  else
  bd (fX8_hundreds x1 h) (fun r5 h5 =>
  some (r5, h5))
def fX8_wakingParts (dp : Nat) (x0 : Int32) (x1 : Int32) (x2 : Int32) (h : HH) : Option (Int64 × HH) := lq3 fX8_wakingParts_0 dp x0 x1 x2 h
def fX8_waking (x0 : Nat) (x1 : Int32) (x2 : Int32) (x3 : Int32) (x4 : Bool) (h : HH) : Option (Int64 × HH) :=
  bd (fX8_isSleeper x0 x1 h) (fun r2 h2 =>
  bif r2 then
    bd (fX8_isFloor x0 x2 h2) (fun r10 h10 =>
    bif r10 then
      if x3 < 0 then
        bd (fX8_refuse x0 2 h10) (fun r35 h35 =>
        some (r35.toInt64, h35))
      else
      if x3 ≤ 8 then
        gd (isKb 0 (gR h10 x0 10)) (
        bd (fX7_at ((gR h10 x0 10) + 4) x1 3 h10) (fun r51 h51 =>
        bd (fX8_wakingParts 14 x2 x3 r51 h51) (fun r54 h54 =>
        bd (fX8_hundreds x3 h54) (fun r63 h63 =>
        bd (fX8_inLowestTerms r54 r63 x4 h63) (fun r68 h68 =>
        bd (fX8_allow_ x0 r68 h68) (fun r71 h71 =>
        some (r71, h71)))))))
      else
      bd (fX8_refuse x0 2 h10) (fun r35 h35 =>
      some (r35.toInt64, h35))
    else
    bd (fX8_refuse x0 1 h10) (fun r18 h18 =>
    some (r18.toInt64, h18)))
  else
  bd (fX8_refuse x0 1 h2) (fun r18 h18 =>
  some (r18.toInt64, h18)))
def fX8_mean (x0 : Nat) (x1 : Int32) (x2 : Int32) (x3 : Bool) (h : HH) : Option (Int64 × HH) :=
  bd (fX8_isSleeper x0 x1 h) (fun r2 h2 =>
  bif r2 then
    bd (fX8_isFloor x0 x2 h2) (fun r10 h10 =>
    bif r10 then
      gd (isKb 0 (gR h10 x0 10)) (
      bd (fX7_at ((gR h10 x0 10) + 4) x1 3 h10) (fun r32 h32 =>
      if x2 ≤ 0 then
        bd (fX8_inLowestTerms ((100 : Int64) * x2.toInt64) r32.toInt64 x3 h32) (fun r65 h65 =>
        bd (fX8_allow_ x0 r65 h65) (fun r68 h68 =>
        some (r68, h68)))
      else
      if r32 = 0 then
        bd (fX8_allow x0 (-2) h32) (fun r49 h49 =>
        some (r49.toInt64, h49))
      else
      bd (fX8_inLowestTerms ((100 : Int64) * x2.toInt64) r32.toInt64 x3 h32) (fun r65 h65 =>
      bd (fX8_allow_ x0 r65 h65) (fun r68 h68 =>
      some (r68, h68)))))
    else
    bd (fX8_refuse x0 1 h10) (fun r18 h18 =>
    some (r18.toInt64, h18)))
  else
  bd (fX8_refuse x0 1 h2) (fun r18 h18 =>
  some (r18.toInt64, h18)))
def fX8_keepAct_L18 (k18_44 : HH → Option (HH)) (x0 : Nat) (x1 : Nat) (self18 : Int32 → HH → Option (HH)) (x2 : Int32) (h : HH) : Option (HH) :=
  if 12 ≤ x2 then
    k18_44  h
  else
  gd (inb x2 12) (gd (isKb 2 (gR h (x0 + 42) (ix x2))) (
  gd (inb (x2 - 1) 12) (
  self18 (x2 + 1) (sR h (x0 + 42) (ix (x2 - 1)) (gR h (x0 + 42) (ix x2))))))
def fX8_keepAct (x0 : Nat) (h : HH) : Option (HH) :=
  if (gI h x0 14) < 12 then
    gd (inb (gI h x0 14) 12) (gd (isKb 2 (gR h (x0 + 42) (ix (gI h x0 14)))) (
    bv (fX2_copyFrom (gR h (x0 + 42) (ix (gI h x0 14))) (x0 + 6) h) (fun h71 =>
    some (sI h71 x0 14 ((gI h71 x0 14) + 1)))))
  else
  gd (inb 0 12) (gd (isKb 2 (gR h (x0 + 42) (ix 0))) (
  nm (gR h (x0 + 42) (ix 0)) (fun y3 =>
  lq1 (fX8_keepAct_L18 (fun  h =>
    gd (inb 11 12) (
    nm (sI (sR h (x0 + 42) (ix 11) y3) x0 14 11) (fun g6 =>
    gd (inb (gI g6 x0 14) 12) (gd (isKb 2 (gR g6 (x0 + 42) (ix (gI g6 x0 14)))) (
    bv (fX2_copyFrom (gR g6 (x0 + 42) (ix (gI g6 x0 14))) (x0 + 6) g6) (fun h71 =>
    some (sI h71 x0 14 ((gI h71 x0 14) + 1)))))))) x0 y3) FU 1 h)))
def fX8_pass (x0 : Nat) (x1 : Int32) (x2 : Int32) (h : HH) : Option (Int32 × HH) :=
  bd (fX8_isFloor x0 x1 h) (fun r2 h2 =>
  bif r2 then
    if x2 < 1 then
      bd (fX8_refuse x0 2 h2) (fun r28 h28 =>
      some (r28, h28))
    else
    if x2 ≤ 999 then
      gd (isKb 0 (gR h2 x0 10)) (
      bd (fX0_minuteOf (gR h2 x0 10) x1 h2) (fun r46 h46 =>
      nm ((gL h2 (x0 + 6) 6) + (x2.toInt64 * r46.toInt64)) (fun y2 =>
      gd (isKb 0 (gR h46 x0 10)) (
      bd (fX0_bottom (gR h46 x0 10) h46) (fun r61 h61 =>
      if y2 ≤ ((1200 : Int64) * r61.toInt64) then
        bv (fX8_keepAct x0 h61) (fun h77 =>
        gd (isKb 0 (gR h77 x0 10)) (
        bv (fX2_runTo (x0 + 6) (gR h77 x0 10) y2 h77) (fun h89 =>
        bd (fX8_clockOf x0 0 h89) (fun r95 h95 =>
        bd (fX8_allow x0 r95.toInt32 h95) (fun r99 h99 =>
        some (r99, h99))))))
      else
      bd (fX8_refuse x0 3 h61) (fun r72 h72 =>
      some (r72, h72)))))))
    else
    bd (fX8_refuse x0 2 h2) (fun r28 h28 =>
    some (r28, h28))
  else
  bd (fX8_refuse x0 1 h2) (fun r10 h10 =>
  some (r10, h10)))
def fX8_isHead (x0 : Nat) (x1 : Int32) (h : HH) : Option (Bool × HH) :=
  if (gI h x0 12) = 0 then
    some (false, h)
  else
  if x1 < 0 then
    some (false, h)
  else
  gd (isKb 0 (gR h x0 10)) (
  if (gI h (gR h x0 10) 12) ≤ x1 then
    some (false, h)
  else
  some (true, h))
def fX8_lie_b52 (x0 : Nat) (x1 : Int32) (x2 : Int32) (h : HH) : Option (Int32 × HH) :=
  gd (inb x1 5) (
  gd (isKb 0 (gR h x0 10)) (
  if (gI h (gR h x0 10) 9) ≤ (gI h ((x0 + 6) + 1) (ix x1)) then
    bd (fX8_refuse x0 5 h) (fun r78 h78 =>
    some (r78, h78))
  else
  bv (fX8_keepAct x0 h) (fun h83 =>
  gd (isKb 0 (gR h83 x0 10)) (
  gd (inb x1 5) (
  bv (fX2_comeTo (x0 + 6) (gR h83 x0 10) x1 ((gI h83 ((x0 + 6) + 1) (ix x1)) + 1) x2 h83) (fun h107 =>
  gd (isKb 0 (gR h107 x0 10)) (
  bv (fX2_takeDueSteps (x0 + 6) (gR h107 x0 10) h107) (fun h118 =>
  gd (inb x1 5) (
  bd (fX8_allow x0 (gI h118 ((x0 + 6) + 1) (ix x1)) h118) (fun r131 h131 =>
  some (r131, h131)))))))))))
def fX8_lie_b51 (x0 : Nat) (x1 : Int32) (x2 : Int32) (h : HH) : Option (Int32 × HH) :=
  fX8_lie_b52 x0 x1 x2 h
def fX8_lie (x0 : Nat) (x1 : Int32) (x2 : Int32) (h : HH) : Option (Int32 × HH) :=
  bd (fX8_isSleeper x0 x1 h) (fun r2 h2 =>
  bif r2 then
    bd (fX8_isHead x0 x2 h2) (fun r10 h10 =>
    bif r10 then
      gd (inb x1 5) (
      if (gI h10 ((x0 + 6) + 1) (ix x1)) ≤ 0 then
        fX8_lie_b51 x0 x1 x2 h10
      else
      gd (inb x1 5) (
      if (gI h10 ((x0 + 6) + 2) (ix x1)) = x2 then
        fX8_lie_b51 x0 x1 x2 h10
      else
      gd (inb x1 5) (
      gd (isKb 0 (gR h10 x0 10)) (
      if (gI h10 (gR h10 x0 10) 9) ≤ (gI h10 ((x0 + 6) + 1) (ix x1)) then
        bd (fX8_refuse x0 5 h10) (fun r78 h78 =>
        some (r78, h78))
      else
      bd (fX8_refuse x0 5 h10) (fun r78 h78 =>
      some (r78, h78))))))
    else
    bd (fX8_refuse x0 1 h10) (fun r18 h18 =>
    some (r18, h18)))
  else
  bd (fX8_refuse x0 1 h2) (fun r18 h18 =>
  some (r18, h18)))
def fX8_wake (x0 : Nat) (x1 : Int32) (h : HH) : Option (Int32 × HH) :=
  bd (fX8_isSleeper x0 x1 h) (fun r2 h2 =>
  bif r2 then
    gd (inb x1 5) (
    if (gI h2 ((x0 + 6) + 1) (ix x1)) = 0 then
      bd (fX8_refuse x0 5 h2) (fun r28 h28 =>
      some (r28, h28))
    else
    bv (fX8_keepAct x0 h2) (fun h33 =>
    gd (isKb 0 (gR h33 x0 10)) (
    gd (inb x1 5) (
    gd (inb x1 5) (
    bv (fX2_comeTo (x0 + 6) (gR h33 x0 10) x1 ((gI h33 ((x0 + 6) + 1) (ix x1)) - 1) (gI h33 ((x0 + 6) + 2) (ix x1)) h33) (fun h65 =>
    gd (isKb 0 (gR h65 x0 10)) (
    bv (fX2_takeDueSteps (x0 + 6) (gR h65 x0 10) h65) (fun h76 =>
    gd (inb x1 5) (
    bd (fX8_allow x0 (gI h76 ((x0 + 6) + 1) (ix x1)) h76) (fun r89 h89 =>
    some (r89, h89)))))))))))
  else
  bd (fX8_refuse x0 1 h2) (fun r10 h10 =>
  some (r10, h10)))
def fX8_knock (x0 : Nat) (x1 : Int32) (x2 : Int32) (x3 : Int32) (h : HH) : Option (Int32 × HH) :=
  bd (fX8_isHead x0 x1 h) (fun r2 h2 =>
  bif r2 then
    bd (fX8_isFloor x0 x2 h2) (fun r10 h10 =>
    bif r10 then
      gd (isKb 0 (gR h10 x0 10)) (
      if x2 < (gI h10 (gR h10 x0 10) 9) then
        bd (fX8_isStrong x3 h10) (fun r34 h34 =>
        bif r34 then
          bv (fX8_keepAct x0 h34) (fun h47 =>
          gd (isKb 0 (gR h47 x0 10)) (
          bd (fX2_hearKnock (x0 + 6) (gR h47 x0 10) x1 x2 x3 h47) (fun r61 h61 =>
          gd (isKb 0 (gR h61 x0 10)) (
          bv (fX2_takeDueSteps (x0 + 6) (gR h61 x0 10) h61) (fun h74 =>
          bd (fX8_allow x0 r61 h74) (fun r80 h80 =>
          some (r80, h80)))))))
        else
        bd (fX8_refuse x0 2 h34) (fun r42 h42 =>
        some (r42, h42)))
      else
      bd (fX8_refuse x0 1 h10) (fun r29 h29 =>
      some (r29, h29)))
    else
    bd (fX8_refuse x0 1 h10) (fun r29 h29 =>
    some (r29, h29)))
  else
  bd (fX8_refuse x0 1 h2) (fun r29 h29 =>
  some (r29, h29)))
def fX8_undo (x0 : Nat) (h : HH) : Option (Bool × HH) :=
  if 0 < (gI h x0 14) then
    gd (inb (gI (sI h x0 14 ((gI h x0 14) - 1)) x0 14) 12) (gd (isKb 2 (gR (sI h x0 14 ((gI h x0 14) - 1)) (x0 + 42) (ix (gI (sI h x0 14 ((gI h x0 14) - 1)) x0 14)))) (
    bv (fX2_copyFrom (x0 + 6) (gR (sI h x0 14 ((gI h x0 14) - 1)) (x0 + 42) (ix (gI (sI h x0 14 ((gI h x0 14) - 1)) x0 14))) (sI h x0 14 ((gI h x0 14) - 1))) (fun h38 =>
    some (true, (sI h38 x0 16 0)))))
  else
  some (false, (sI h x0 16 6))
def fX8_image (x0 : Nat) (h : HH) : Option (Int32 × HH) :=
  if (gI h x0 12) = 0 then
    bd (fX8_refuse x0 1 h) (fun r9 h9 =>
    some (r9, h9))
  else
  if (gI h x0 15) < 3 then
    gd (inb (gI h x0 15) 3) (gd (isKb 2 (gR h (x0 + 43) (ix (gI h x0 15)))) (
    bv (fX2_copyFrom (gR h (x0 + 43) (ix (gI h x0 15))) (x0 + 6) h) (fun h40 =>
    bd (fX8_allow x0 ((gI (sI h40 x0 15 ((gI h40 x0 15) + 1)) x0 15) - 1) (sI h40 x0 15 ((gI h40 x0 15) + 1))) (fun r60 h60 =>
    some (r60, h60)))))
  else
  bd (fX8_refuse x0 3 h) (fun r23 h23 =>
  some (r23, h23))
def fX8_back (x0 : Nat) (x1 : Int32) (h : HH) : Option (Bool × HH) :=
  if x1 < 0 then
    some (false, (sI h x0 16 1))
  else
  if x1 < (gI h x0 15) then
    gd (inb x1 3) (gd (isKb 2 (gR h (x0 + 43) (ix x1))) (
    bv (fX2_copyFrom (x0 + 6) (gR h (x0 + 43) (ix x1)) h) (fun h29 =>
    nm (sI (sI h29 x0 14 0) x0 16 0) (fun g2 =>
    some (true, g2)))))
  else
  some (false, (sI h x0 16 1))
def fX8_toldSize (x0 : Nat) (x1 : Int32) (h : HH) : Option (Int32 × HH) :=
  if (gI h x0 12) = 0 then
    some (0, h)
  else
  if x1 = 0 then
    gd (isKb 0 (gR h x0 10)) (
    some ((gI h (gR h x0 10) 9), h))
  else
  if x1 = 1 then
    gd (isKb 0 (gR h x0 10)) (
    some ((gI h (gR h x0 10) 10), h))
  else
  if x1 = 2 then
    gd (isKb 0 (gR h x0 10)) (
    some ((gI h (gR h x0 10) 11), h))
  else
  if x1 = 3 then
    gd (isKb 0 (gR h x0 10)) (
    some ((gI h (gR h x0 10) 12), h))
  else
  if x1 = 4 then
    gd (isKb 0 (gR h x0 10)) (
    some ((gI h ((gR h x0 10) + 4) 3), h))
  else
  if x1 = 5 then
    gd (isKb 0 (gR h x0 10)) (
    some ((gI h ((gR h x0 10) + 6) 3), h))
  else
  if x1 = 6 then
    gd (isKb 0 (gR h x0 10)) (
    some ((gI h ((gR h x0 10) + 8) 3), h))
  else
  if x1 = 7 then
    gd (isKb 0 (gR h x0 10)) (
    some ((gI h ((gR h x0 10) + 10) 3), h))
  else
  if x1 = 8 then
    gd (isKb 0 (gR h x0 10)) (
    some ((gI h ((gR h x0 10) + 12) 3), h))
  else
  gd (isKb 0 (gR h x0 10)) (
  some ((gI h ((gR h x0 10) + 14) 3), h))
def fX8_size (x0 : Nat) (x1 : Int32) (h : HH) : Option (Int32 × HH) :=
  if x1 = 10 then
    some ((gI h x0 14), h)
  else
  if x1 = 11 then
    some ((gI h x0 15), h)
  else
  if x1 = 12 then
    some ((gI h x0 13), h)
  else
  if x1 < 0 then
    some ((-1), h)
  else
  if x1 ≤ 12 then
    bd (fX8_toldSize x0 x1 h) (fun r59 h59 =>
    some (r59, h59))
  else
  some ((-1), h)
def fX8_trouble (x0 : Nat) (h : HH) : Option (Int32 × HH) :=
  some ((gI h x0 16), h)
