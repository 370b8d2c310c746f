set_option maxRecDepth 20000 in
theorem mX8_quotient {K : KX} {x0 : Int64} {x2 : Int64}  {h : HH} {rv : Int64} {hv : HH} (hf : fX8_quotient x0 x2 h = some (rv, hv)) : MR K yX8_quotient cX8_quotient 4 (some .long) 1 [.long x0, .long x2] h (some (.long rv)) hv := by
  refine MR_of (by decide) (Nat.le_of_ble_eq_true rfl) (fun G C E hnl => ?_)
  have C : Ok K G 1 cX8_quotient RX8 := C
  refine (show At K G 0 [(0, .long x0), (2, .long x2)] [] h from ?_)
  unfold fX8_quotient at hf
  refine A_lload_n C dX8_quotient_0 (i := 2) rfl 1 rfl 1 rfl ?_
  refine A_lconst (v := 0) C dX8_quotient_1 (by decide) 2 rfl ?_
  refine A_l_ne C dX8_quotient_2 dX8_quotient_3 10 (by decide) 6 rfl hf (fun c2 hf => ?_) (fun c2 hf => ?_)
  · refine A_lload_n C dX8_quotient_10 (i := 0) rfl 0 rfl 11 rfl ?_
    refine A_lload_n C dX8_quotient_11 (i := 2) rfl 1 rfl 12 rfl ?_
    refine A_ldivG C dX8_quotient_12 hf 13 rfl (fun hf => ?_)
    exact A_lret C dX8_quotient_13 E hf
  refine A_lconst (v := 0) C dX8_quotient_6 (by decide) 7 rfl ?_
  refine A_goto C dX8_quotient_7 13 (by decide) ?_
  exact A_lret C dX8_quotient_13 E hf
set_option maxRecDepth 20000 in
theorem mJ6_bitCount_0f7a4 {K : KX} {x0 : Int32}  {h : HH} {rv : Int32} {hv : HH} (hf : fJ6_bitCount_0f7a4 x0 h = some (rv, hv)) : MR K yJ6_bitCount_0f7a4 cJ6_bitCount_0f7a4 1 (some .int) 1 [.int x0] h (some (.int rv)) hv := by
  refine MR_of (by decide) (Nat.le_of_ble_eq_true rfl) (fun G C E hnl => ?_)
  have C : Ok K G 1 cJ6_bitCount_0f7a4 RJ6 := C
  refine (show At K G 0 [(0, .int x0)] [] h from ?_)
  unfold fJ6_bitCount_0f7a4 at hf
  refine A_iload_n C dJ6_bitCount_0f7a4_0 (i := 0) rfl 0 rfl 1 rfl ?_
  refine A_iload_n C dJ6_bitCount_0f7a4_1 (i := 0) rfl 0 rfl 2 rfl ?_
  refine A_iconst (v := 1) C dJ6_bitCount_0f7a4_2 (by decide) 3 rfl ?_
  refine A_iushr C dJ6_bitCount_0f7a4_3 4 rfl ?_
  refine A_ldcw C dJ6_bitCount_0f7a4_4 cRJ6_265 7 rfl ?_
  refine A_iand C dJ6_bitCount_0f7a4_7 8 rfl ?_
  refine A_isub C dJ6_bitCount_0f7a4_8 9 rfl ?_
  refine A_namI hf (fun y1 hf => ?_)
  refine A_istore_n C dJ6_bitCount_0f7a4_9 (i := 0) rfl [(0, .int y1)] (lt_nl hnl (by decide)) rfl 10 rfl ?_
  refine A_iload_n C dJ6_bitCount_0f7a4_10 (i := 0) rfl 0 rfl 11 rfl ?_
  refine A_ldcw C dJ6_bitCount_0f7a4_11 cRJ6_266 14 rfl ?_
  refine A_iand C dJ6_bitCount_0f7a4_14 15 rfl ?_
  refine A_iload_n C dJ6_bitCount_0f7a4_15 (i := 0) rfl 0 rfl 16 rfl ?_
  refine A_iconst (v := 2) C dJ6_bitCount_0f7a4_16 (by decide) 17 rfl ?_
  refine A_iushr C dJ6_bitCount_0f7a4_17 18 rfl ?_
  refine A_ldcw C dJ6_bitCount_0f7a4_18 cRJ6_266 21 rfl ?_
  refine A_iand C dJ6_bitCount_0f7a4_21 22 rfl ?_
  refine A_iadd C dJ6_bitCount_0f7a4_22 23 rfl ?_
  refine A_namI hf (fun y2 hf => ?_)
  refine A_istore_n C dJ6_bitCount_0f7a4_23 (i := 0) rfl [(0, .int y2)] (lt_nl hnl (by decide)) rfl 24 rfl ?_
  refine A_iload_n C dJ6_bitCount_0f7a4_24 (i := 0) rfl 0 rfl 25 rfl ?_
  refine A_iload_n C dJ6_bitCount_0f7a4_25 (i := 0) rfl 0 rfl 26 rfl ?_
  refine A_iconst (v := 4) C dJ6_bitCount_0f7a4_26 (by decide) 27 rfl ?_
  refine A_iushr C dJ6_bitCount_0f7a4_27 28 rfl ?_
  refine A_iadd C dJ6_bitCount_0f7a4_28 29 rfl ?_
  refine A_ldcw C dJ6_bitCount_0f7a4_29 cRJ6_267 32 rfl ?_
  refine A_iand C dJ6_bitCount_0f7a4_32 33 rfl ?_
  refine A_namI hf (fun y3 hf => ?_)
  refine A_istore_n C dJ6_bitCount_0f7a4_33 (i := 0) rfl [(0, .int y3)] (lt_nl hnl (by decide)) rfl 34 rfl ?_
  refine A_iload_n C dJ6_bitCount_0f7a4_34 (i := 0) rfl 0 rfl 35 rfl ?_
  refine A_iload_n C dJ6_bitCount_0f7a4_35 (i := 0) rfl 0 rfl 36 rfl ?_
  refine A_bipush (v := 8) C dJ6_bitCount_0f7a4_36 (by decide) 38 rfl ?_
  refine A_iushr C dJ6_bitCount_0f7a4_38 39 rfl ?_
  refine A_iadd C dJ6_bitCount_0f7a4_39 40 rfl ?_
  refine A_namI hf (fun y4 hf => ?_)
  refine A_istore_n C dJ6_bitCount_0f7a4_40 (i := 0) rfl [(0, .int y4)] (lt_nl hnl (by decide)) rfl 41 rfl ?_
  refine A_iload_n C dJ6_bitCount_0f7a4_41 (i := 0) rfl 0 rfl 42 rfl ?_
  refine A_iload_n C dJ6_bitCount_0f7a4_42 (i := 0) rfl 0 rfl 43 rfl ?_
  refine A_bipush (v := 16) C dJ6_bitCount_0f7a4_43 (by decide) 45 rfl ?_
  refine A_iushr C dJ6_bitCount_0f7a4_45 46 rfl ?_
  refine A_iadd C dJ6_bitCount_0f7a4_46 47 rfl ?_
  refine A_namI hf (fun y5 hf => ?_)
  refine A_istore_n C dJ6_bitCount_0f7a4_47 (i := 0) rfl [(0, .int y5)] (lt_nl hnl (by decide)) rfl 48 rfl ?_
  refine A_iload_n C dJ6_bitCount_0f7a4_48 (i := 0) rfl 0 rfl 49 rfl ?_
  refine A_bipush (v := 63) C dJ6_bitCount_0f7a4_49 (by decide) 51 rfl ?_
  refine A_iand C dJ6_bitCount_0f7a4_51 52 rfl ?_
  exact A_iret C dJ6_bitCount_0f7a4_52 E hf
