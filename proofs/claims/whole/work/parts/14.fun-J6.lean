def fX8_quotient (x0 : Int64) (x2 : Int64) (h : HH) : Option (Int64 × HH) :=
  if x2 = 0 then
    some (0, h)
  else
  gd (!(x2 == 0)) (
  some ((x0 / x2), h))
def fJ6_bitCount_0f7a4 (x0 : Int32) (h : HH) : Option (Int32 × HH) :=
  nm (x0 - ((((x0 : Int32).toUInt32 >>> ((1 : Int32).toUInt32 &&& Int32.toUInt32 31)).toInt32) &&& 1431655765)) (fun y1 =>
  nm ((y1 &&& 858993459) + ((((y1 : Int32).toUInt32 >>> ((2 : Int32).toUInt32 &&& Int32.toUInt32 31)).toInt32) &&& 858993459)) (fun y2 =>
  nm ((y2 + (((y2 : Int32).toUInt32 >>> ((4 : Int32).toUInt32 &&& Int32.toUInt32 31)).toInt32)) &&& 252645135) (fun y3 =>
  nm (y3 + (((y3 : Int32).toUInt32 >>> ((8 : Int32).toUInt32 &&& Int32.toUInt32 31)).toInt32)) (fun y4 =>
  nm (y4 + (((y4 : Int32).toUInt32 >>> ((16 : Int32).toUInt32 &&& Int32.toUInt32 31)).toInt32)) (fun y5 =>
  some ((y5 &&& 63), h))))))
