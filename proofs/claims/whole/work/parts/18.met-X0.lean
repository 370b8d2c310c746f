set_option maxRecDepth 20000 in
theorem mX0_clear {K : KX} {x0 : Nat} (k0 : isK 0 x0) {h : HH} {rv : HH} (hf : fX0_clear x0 h = some rv) : MR K yX0_clear cX0_clear 1 none 1 [.ref (K.2.1 x0)] h none rv := by
  refine MR_of (by decide) (Nat.le_of_ble_eq_true rfl) (fun G C E hnl => ?_)
  have C : Ok K G 1 cX0_clear RX0 := C
  refine (show At K G 0 [(0, .ref (K.2.1 x0))] [] h from ?_)
  unfold fX0_clear at hf
  refine A_aload_n C dX0_clear_0 (i := 0) rfl 0 rfl 1 rfl ?_
  refine gfRX0_26 C k0 dX0_clear_1 4 rfl ?_
  refine A_iconst (v := 0) C dX0_clear_4 (by decide) 5 rfl ?_
  refine pfRX0_45 C (of_0_3 k0) dX0_clear_5 8 rfl ?_
  refine A_aload_n C dX0_clear_8 (i := 0) rfl 0 rfl 9 rfl ?_
  refine gfRX0_30 C k0 dX0_clear_9 12 rfl ?_
  refine A_iconst (v := 0) C dX0_clear_12 (by decide) 13 rfl ?_
  refine pfRX0_45 C (of_0_4 k0) dX0_clear_13 16 rfl ?_
  refine A_namH hf (fun g1 hf => ?_)
  refine A_aload_n C dX0_clear_16 (i := 0) rfl 0 rfl 17 rfl ?_
  refine gfRX0_33 C k0 dX0_clear_17 20 rfl ?_
  refine A_iconst (v := 0) C dX0_clear_20 (by decide) 21 rfl ?_
  refine pfRX0_45 C (of_0_5 k0) dX0_clear_21 24 rfl ?_
  refine A_aload_n C dX0_clear_24 (i := 0) rfl 0 rfl 25 rfl ?_
  refine gfRX0_36 C k0 dX0_clear_25 28 rfl ?_
  refine A_iconst (v := 0) C dX0_clear_28 (by decide) 29 rfl ?_
  refine pfRX0_45 C (of_0_6 k0) dX0_clear_29 32 rfl ?_
  refine A_namH hf (fun g2 hf => ?_)
  refine A_aload_n C dX0_clear_32 (i := 0) rfl 0 rfl 33 rfl ?_
  refine gfRX0_39 C k0 dX0_clear_33 36 rfl ?_
  refine A_iconst (v := 0) C dX0_clear_36 (by decide) 37 rfl ?_
  refine pfRX0_45 C (of_0_7 k0) dX0_clear_37 40 rfl ?_
  refine A_aload_n C dX0_clear_40 (i := 0) rfl 0 rfl 41 rfl ?_
  refine gfRX0_42 C k0 dX0_clear_41 44 rfl ?_
  refine A_iconst (v := 0) C dX0_clear_44 (by decide) 45 rfl ?_
  refine pfRX0_45 C (of_0_8 k0) dX0_clear_45 48 rfl ?_
  refine A_namH hf (fun g3 hf => ?_)
  refine A_aload_n C dX0_clear_48 (i := 0) rfl 0 rfl 49 rfl ?_
  refine gfRX0_9 C k0 dX0_clear_49 52 rfl ?_
  refine A_iconst (v := 0) C dX0_clear_52 (by decide) 53 rfl ?_
  refine A_iconst (v := 1) C dX0_clear_53 (by decide) 54 rfl ?_
  refine A_iast C dX0_clear_54 (of_0_0 k0) hf 55 rfl (fun hf => ?_)
  refine A_aload_n C dX0_clear_55 (i := 0) rfl 0 rfl 56 rfl ?_
  refine A_iconst (v := 0) C dX0_clear_56 (by decide) 57 rfl ?_
  refine pfRX0_49 C k0 dX0_clear_57 60 rfl ?_
  refine A_namH hf (fun g4 hf => ?_)
  refine A_aload_n C dX0_clear_60 (i := 0) rfl 0 rfl 61 rfl ?_
  refine A_iconst (v := 0) C dX0_clear_61 (by decide) 62 rfl ?_
  refine pfRX0_52 C k0 dX0_clear_62 65 rfl ?_
  refine A_aload_n C dX0_clear_65 (i := 0) rfl 0 rfl 66 rfl ?_
  refine A_iconst (v := 0) C dX0_clear_66 (by decide) 67 rfl ?_
  refine pfRX0_55 C k0 dX0_clear_67 70 rfl ?_
  refine A_namH hf (fun g5 hf => ?_)
  refine A_aload_n C dX0_clear_70 (i := 0) rfl 0 rfl 71 rfl ?_
  refine A_iconst (v := 0) C dX0_clear_71 (by decide) 72 rfl ?_
  refine pfRX0_58 C k0 dX0_clear_72 75 rfl ?_
  refine A_aload_n C dX0_clear_75 (i := 0) rfl 0 rfl 76 rfl ?_
  refine A_iconst (v := 0) C dX0_clear_76 (by decide) 77 rfl ?_
  refine pfRX0_61 C k0 dX0_clear_77 (Or.inl rfl) 80 rfl ?_
  refine A_namH hf (fun g6 hf => ?_)
  exact A_vret C dX0_clear_80 E hf
set_option maxRecDepth 20000 in
theorem mX0_addRate {K : KX} {x0 : Nat} {x1 : Int32} (k0 : isK 0 x0) {h : HH} {rv : HH} (hf : fX0_addRate x0 x1 h = some rv) : MR K yX0_addRate cX0_addRate 2 none 1 [.ref (K.2.1 x0), .int x1] h none rv := by
  refine MR_of (by decide) (Nat.le_of_ble_eq_true rfl) (fun G C E hnl => ?_)
  have C : Ok K G 1 cX0_addRate RX0 := C
  refine (show At K G 0 [(0, .ref (K.2.1 x0)), (1, .int x1)] [] h from ?_)
  unfold fX0_addRate at hf
  refine A_aload_n C dX0_addRate_0 (i := 0) rfl 0 rfl 1 rfl ?_
  refine gfRX0_49 C k0 dX0_addRate_1 4 rfl ?_
  refine A_iconst (v := 4) C dX0_addRate_4 (by decide) 5 rfl ?_
  refine A_icmp_ge C dX0_addRate_5 40 (by decide) 8 rfl hf (fun c5 hf => ?_) (fun c5 hf => ?_)
  · exact A_vret C dX0_addRate_40 E hf
  refine A_aload_n C dX0_addRate_8 (i := 0) rfl 0 rfl 9 rfl ?_
  refine A_dup C dX0_addRate_9 rfl 10 rfl ?_
  refine gfRX0_49 C k0 dX0_addRate_10 13 rfl ?_
  refine A_iconst (v := 1) C dX0_addRate_13 (by decide) 14 rfl ?_
  refine A_iadd C dX0_addRate_14 15 rfl ?_
  refine pfRX0_49 C k0 dX0_addRate_15 18 rfl ?_
  refine A_aload_n C dX0_addRate_18 (i := 0) rfl 0 rfl 19 rfl ?_
  refine gfRX0_9 C k0 dX0_addRate_19 22 rfl ?_
  refine A_aload_n C dX0_addRate_22 (i := 0) rfl 0 rfl 23 rfl ?_
  refine gfRX0_49 C k0 dX0_addRate_23 26 rfl ?_
  refine A_aload_n C dX0_addRate_26 (i := 0) rfl 0 rfl 27 rfl ?_
  refine gfRX0_9 C k0 dX0_addRate_27 30 rfl ?_
  refine A_aload_n C dX0_addRate_30 (i := 0) rfl 0 rfl 31 rfl ?_
  refine gfRX0_49 C k0 dX0_addRate_31 34 rfl ?_
  refine A_iconst (v := 1) C dX0_addRate_34 (by decide) 35 rfl ?_
  refine A_isub C dX0_addRate_35 36 rfl ?_
  refine A_iald C dX0_addRate_36 (of_0_0 k0) hf 37 rfl (fun hf => ?_)
  refine A_iload_n C dX0_addRate_37 (i := 1) rfl 1 rfl 38 rfl ?_
  refine A_imul C dX0_addRate_38 39 rfl ?_
  refine A_iast C dX0_addRate_39 (of_0_0 k0) hf 40 rfl (fun hf => ?_)
  refine A_namH hf (fun g1 hf => ?_)
  exact A_vret C dX0_addRate_40 E hf
set_option maxRecDepth 20000 in
theorem mX0_orderStep {K : KX} {x0 : Nat} (k0 : isK 0 x0) {h : HH} {rv : HH} (hf : fX0_orderStep x0 h = some rv) : MR K yX0_orderStep cX0_orderStep 3 none 2 [.ref (K.2.1 x0)] h none rv := by
  refine MR_of (by decide) (Nat.le_of_ble_eq_true rfl) (fun G C E hnl => ?_)
  have C : Ok K G 2 cX0_orderStep RX0 := C
  refine (show At K G 0 [(0, .ref (K.2.1 x0))] [] h from ?_)
  unfold fX0_orderStep at hf
  refine A_aload_n C dX0_orderStep_0 (i := 0) rfl 0 rfl 1 rfl ?_
  refine gfRX0_30 C k0 dX0_orderStep_1 4 rfl ?_
  refine A_aload_n C dX0_orderStep_4 (i := 0) rfl 0 rfl 5 rfl ?_
  refine gfRX0_30 C k0 dX0_orderStep_5 8 rfl ?_
  refine gfRX0_45 C (of_0_4 k0) dX0_orderStep_8 11 rfl ?_
  refine A_iconst (v := 1) C dX0_orderStep_11 (by decide) 12 rfl ?_
  refine A_isub C dX0_orderStep_12 13 rfl ?_
  refine A_iconst (v := 0) C dX0_orderStep_13 (by decide) 14 rfl ?_
  refine CVi C dX0_orderStep_14 7 (of_0_4 k0) (by decide) (r := (RX7, TX7, 4)) rfl rfl hf (fun _ _ e => mX7_at (of_0_4 k0) e) lkRX0_65 (by decide) (by decide) rfl [] rfl (Nat.le_of_ble_eq_true rfl) 17 rfl (fun r14 h14 hf => ?_)
  refine A_istore_n C dX0_orderStep_17 (i := 1) rfl [(1, .int r14), (0, .ref (K.2.1 x0))] (lt_nl hnl (by decide)) rfl 18 rfl ?_
  refine A_aload_n C dX0_orderStep_18 (i := 0) rfl 1 rfl 19 rfl ?_
  refine gfRX0_26 C k0 dX0_orderStep_19 22 rfl ?_
  refine A_iload_n C dX0_orderStep_22 (i := 1) rfl 0 rfl 23 rfl ?_
  refine A_iconst (v := 5) C dX0_orderStep_23 (by decide) 24 rfl ?_
  refine CVi C dX0_orderStep_24 7 (of_0_3 k0) (by decide) (r := (RX7, TX7, 4)) rfl rfl hf (fun _ _ e => mX7_at (of_0_3 k0) e) lkRX0_65 (by decide) (by decide) rfl [] rfl (Nat.le_of_ble_eq_true rfl) 27 rfl (fun r24 h24 hf => ?_)
  refine A_istore_n C dX0_orderStep_27 (i := 2) rfl [(2, .int r24), (1, .int r14), (0, .ref (K.2.1 x0))] (lt_nl hnl (by decide)) rfl 28 rfl ?_
  refine A_iload_n C dX0_orderStep_28 (i := 1) rfl 1 rfl 29 rfl ?_
  refine A_if_lt C dX0_orderStep_29 79 (by decide) 32 rfl hf (fun c29 hf => ?_) (fun c29 hf => ?_)
  · exact A_vret C dX0_orderStep_79 E hf
  refine A_iload_n C dX0_orderStep_32 (i := 1) rfl 1 rfl 33 rfl ?_
  refine A_iconst (v := 5) C dX0_orderStep_33 (by decide) 34 rfl ?_
  refine A_icmp_ge C dX0_orderStep_34 79 (by decide) 37 rfl hf (fun c34 hf => ?_) (fun c34 hf => ?_)
  · exact A_vret C dX0_orderStep_79 E hf
  refine A_iload_n C dX0_orderStep_37 (i := 2) rfl 0 rfl 38 rfl ?_
  refine A_if_lt C dX0_orderStep_38 79 (by decide) 41 rfl hf (fun c38 hf => ?_) (fun c38 hf => ?_)
  · exact A_vret C dX0_orderStep_79 E hf
  refine A_iload_n C dX0_orderStep_41 (i := 2) rfl 0 rfl 42 rfl ?_
  refine A_bipush (v := 20) C dX0_orderStep_42 (by decide) 44 rfl ?_
  refine A_icmp_ge C dX0_orderStep_44 79 (by decide) 47 rfl hf (fun c44 hf => ?_) (fun c44 hf => ?_)
  · exact A_vret C dX0_orderStep_79 E hf
  refine A_aload_n C dX0_orderStep_47 (i := 0) rfl 2 rfl 48 rfl ?_
  refine gfRX0_18 C k0 dX0_orderStep_48 51 rfl ?_
  refine A_iload_n C dX0_orderStep_51 (i := 1) rfl 1 rfl 52 rfl ?_
  refine A_bipush (v := 20) C dX0_orderStep_52 (by decide) 54 rfl ?_
  refine A_imul C dX0_orderStep_54 55 rfl ?_
  refine A_iload_n C dX0_orderStep_55 (i := 2) rfl 0 rfl 56 rfl ?_
  refine A_iadd C dX0_orderStep_56 57 rfl ?_
  refine A_aload_n C dX0_orderStep_57 (i := 0) rfl 2 rfl 58 rfl ?_
  refine gfRX0_30 C k0 dX0_orderStep_58 61 rfl ?_
  refine gfRX0_45 C (of_0_4 k0) dX0_orderStep_61 64 rfl ?_
  refine A_iconst (v := 1) C dX0_orderStep_64 (by decide) 65 rfl ?_
  refine A_isub C dX0_orderStep_65 66 rfl ?_
  refine A_iast C dX0_orderStep_66 (of_0_2 k0) hf 67 rfl (fun hf => ?_)
  refine A_aload_n C dX0_orderStep_67 (i := 0) rfl 2 rfl 68 rfl ?_
  refine gfRX0_26 C k0 dX0_orderStep_68 71 rfl ?_
  refine A_iload_n C dX0_orderStep_71 (i := 1) rfl 1 rfl 72 rfl ?_
  refine A_iconst (v := 5) C dX0_orderStep_72 (by decide) 73 rfl ?_
  refine A_iload_n C dX0_orderStep_73 (i := 2) rfl 0 rfl 74 rfl ?_
  refine A_iconst (v := 1) C dX0_orderStep_74 (by decide) 75 rfl ?_
  refine A_iadd C dX0_orderStep_75 76 rfl ?_
  refine CVv C dX0_orderStep_76 7 (of_0_3 k0) (by decide) (r := (RX7, TX7, 4)) rfl rfl hf (fun _ e => mX7_putAt (of_0_3 k0) e) lkRX0_69 (by decide) (by decide) rfl [] rfl (Nat.le_of_ble_eq_true rfl) 79 rfl (fun h76 hf => ?_)
  exact A_vret C dX0_orderStep_79 E hf
set_option maxRecDepth 20000 in
theorem mX0_stepOf {K : KX} {x0 : Nat} {x1 : Int32} {x2 : Int32} (k0 : isK 0 x0) {h : HH} {rv : Int32} {hv : HH} (hf : fX0_stepOf x0 x1 x2 h = some (rv, hv)) : MR K yX0_stepOf cX0_stepOf 4 (some .int) 2 [.ref (K.2.1 x0), .int x1, .int x2] h (some (.int rv)) hv := by
  refine MR_of (by decide) (Nat.le_of_ble_eq_true rfl) (fun G C E hnl => ?_)
  have C : Ok K G 2 cX0_stepOf RX0 := C
  refine (show At K G 0 [(0, .ref (K.2.1 x0)), (1, .int x1), (2, .int x2)] [] h from ?_)
  unfold fX0_stepOf at hf
  refine A_iload_n C dX0_stepOf_0 (i := 1) rfl 1 rfl 1 rfl ?_
  refine A_if_lt C dX0_stepOf_1 30 (by decide) 4 rfl hf (fun c1 hf => ?_) (fun c1 hf => ?_)
  · refine A_iconst (v := 0) C dX0_stepOf_30 (by decide) 31 rfl ?_
    refine A_istore_n C dX0_stepOf_31 (i := 3) rfl [(3, .int 0), (0, .ref (K.2.1 x0)), (1, .int x1), (2, .int x2)] (lt_nl hnl (by decide)) rfl 32 rfl ?_
    refine A_iload_n C dX0_stepOf_32 (i := 3) rfl 0 rfl 33 rfl ?_
    refine T_if_eq C dX0_stepOf_33 56 (by decide) (by decide) ?_
    refine A_iconst (v := (-1)) C dX0_stepOf_56 (by decide) 57 rfl ?_
    exact A_iret C dX0_stepOf_57 E hf
  refine A_iload_n C dX0_stepOf_4 (i := 1) rfl 1 rfl 5 rfl ?_
  refine A_iconst (v := 5) C dX0_stepOf_5 (by decide) 6 rfl ?_
  refine A_icmp_ge C dX0_stepOf_6 30 (by decide) 9 rfl hf (fun c6 hf => ?_) (fun c6 hf => ?_)
  · refine A_iconst (v := 0) C dX0_stepOf_30 (by decide) 31 rfl ?_
    refine A_istore_n C dX0_stepOf_31 (i := 3) rfl [(3, .int 0), (0, .ref (K.2.1 x0)), (1, .int x1), (2, .int x2)] (lt_nl hnl (by decide)) rfl 32 rfl ?_
    refine A_iload_n C dX0_stepOf_32 (i := 3) rfl 0 rfl 33 rfl ?_
    refine T_if_eq C dX0_stepOf_33 56 (by decide) (by decide) ?_
    refine A_iconst (v := (-1)) C dX0_stepOf_56 (by decide) 57 rfl ?_
    exact A_iret C dX0_stepOf_57 E hf
  refine A_iload_n C dX0_stepOf_9 (i := 2) rfl 2 rfl 10 rfl ?_
  refine A_if_lt C dX0_stepOf_10 30 (by decide) 13 rfl hf (fun c10 hf => ?_) (fun c10 hf => ?_)
  · refine A_iconst (v := 0) C dX0_stepOf_30 (by decide) 31 rfl ?_
    refine A_istore_n C dX0_stepOf_31 (i := 3) rfl [(3, .int 0), (0, .ref (K.2.1 x0)), (1, .int x1), (2, .int x2)] (lt_nl hnl (by decide)) rfl 32 rfl ?_
    refine A_iload_n C dX0_stepOf_32 (i := 3) rfl 0 rfl 33 rfl ?_
    refine T_if_eq C dX0_stepOf_33 56 (by decide) (by decide) ?_
    refine A_iconst (v := (-1)) C dX0_stepOf_56 (by decide) 57 rfl ?_
    exact A_iret C dX0_stepOf_57 E hf
  refine A_iload_n C dX0_stepOf_13 (i := 2) rfl 2 rfl 14 rfl ?_
  refine A_aload_n C dX0_stepOf_14 (i := 0) rfl 0 rfl 15 rfl ?_
  refine gfRX0_26 C k0 dX0_stepOf_15 18 rfl ?_
  refine A_iload_n C dX0_stepOf_18 (i := 1) rfl 1 rfl 19 rfl ?_
  refine A_iconst (v := 5) C dX0_stepOf_19 (by decide) 20 rfl ?_
  refine CVi C dX0_stepOf_20 7 (of_0_3 k0) (by decide) (r := (RX7, TX7, 4)) rfl rfl hf (fun _ _ e => mX7_at (of_0_3 k0) e) lkRX0_65 (by decide) (by decide) rfl [.int x2] rfl (Nat.le_of_ble_eq_true rfl) 23 rfl (fun r20 h20 hf => ?_)
  refine A_icmp_ge C dX0_stepOf_23 30 (by decide) 26 rfl hf (fun c23 hf => ?_) (fun c23 hf => ?_)
  · refine A_iconst (v := 0) C dX0_stepOf_30 (by decide) 31 rfl ?_
    refine A_istore_n C dX0_stepOf_31 (i := 3) rfl [(3, .int 0), (0, .ref (K.2.1 x0)), (1, .int x1), (2, .int x2)] (lt_nl hnl (by decide)) rfl 32 rfl ?_
    refine A_iload_n C dX0_stepOf_32 (i := 3) rfl 0 rfl 33 rfl ?_
    refine T_if_eq C dX0_stepOf_33 56 (by decide) (by decide) ?_
    refine A_iconst (v := (-1)) C dX0_stepOf_56 (by decide) 57 rfl ?_
    exact A_iret C dX0_stepOf_57 E hf
  refine A_iconst (v := 1) C dX0_stepOf_26 (by decide) 27 rfl ?_
  refine A_goto C dX0_stepOf_27 31 (by decide) ?_
  refine A_istore_n C dX0_stepOf_31 (i := 3) rfl [(3, .int 1), (0, .ref (K.2.1 x0)), (1, .int x1), (2, .int x2)] (lt_nl hnl (by decide)) rfl 32 rfl ?_
  refine A_iload_n C dX0_stepOf_32 (i := 3) rfl 0 rfl 33 rfl ?_
  refine N_if_eq C dX0_stepOf_33 56 (by decide) (by decide) 36 rfl ?_
  refine A_iload_n C dX0_stepOf_36 (i := 2) rfl 3 rfl 37 rfl ?_
  refine A_bipush (v := 20) C dX0_stepOf_37 (by decide) 39 rfl ?_
  refine A_icmp_ge C dX0_stepOf_39 56 (by decide) 42 rfl hf (fun c39 hf => ?_) (fun c39 hf => ?_)
  · refine A_iconst (v := (-1)) C dX0_stepOf_56 (by decide) 57 rfl ?_
    exact A_iret C dX0_stepOf_57 E hf
  refine A_aload_n C dX0_stepOf_42 (i := 0) rfl 1 rfl 43 rfl ?_
  refine gfRX0_18 C k0 dX0_stepOf_43 46 rfl ?_
  refine A_iload_n C dX0_stepOf_46 (i := 1) rfl 2 rfl 47 rfl ?_
  refine A_bipush (v := 20) C dX0_stepOf_47 (by decide) 49 rfl ?_
  refine A_imul C dX0_stepOf_49 50 rfl ?_
  refine A_iload_n C dX0_stepOf_50 (i := 2) rfl 3 rfl 51 rfl ?_
  refine A_iadd C dX0_stepOf_51 52 rfl ?_
  refine A_iald C dX0_stepOf_52 (of_0_2 k0) hf 53 rfl (fun hf => ?_)
  refine A_goto C dX0_stepOf_53 57 (by decide) ?_
  exact A_iret C dX0_stepOf_57 E hf
set_option maxRecDepth 20000 in
theorem mX0_quickOf {K : KX} {x0 : Nat} {x1 : Int32} (k0 : isK 0 x0) {h : HH} {rv : Int32} {hv : HH} (hf : fX0_quickOf x0 x1 h = some (rv, hv)) : MR K yX0_quickOf cX0_quickOf 2 (some .int) 1 [.ref (K.2.1 x0), .int x1] h (some (.int rv)) hv := by
  refine MR_of (by decide) (Nat.le_of_ble_eq_true rfl) (fun G C E hnl => ?_)
  have C : Ok K G 1 cX0_quickOf RX0 := C
  refine (show At K G 0 [(0, .ref (K.2.1 x0)), (1, .int x1)] [] h from ?_)
  unfold fX0_quickOf at hf
  refine A_iload_n C dX0_quickOf_0 (i := 1) rfl 1 rfl 1 rfl ?_
  refine A_if_lt C dX0_quickOf_1 12 (by decide) 4 rfl hf (fun c1 hf => ?_) (fun c1 hf => ?_)
  · refine A_iconst (v := 1) C dX0_quickOf_12 (by decide) 13 rfl ?_
    refine A_goto C dX0_quickOf_13 22 (by decide) ?_
    exact A_iret C dX0_quickOf_22 E hf
  refine A_iload_n C dX0_quickOf_4 (i := 1) rfl 1 rfl 5 rfl ?_
  refine A_aload_n C dX0_quickOf_5 (i := 0) rfl 0 rfl 6 rfl ?_
  refine gfRX0_49 C k0 dX0_quickOf_6 9 rfl ?_
  refine A_icmp_le C dX0_quickOf_9 16 (by decide) 12 rfl hf (fun c9 hf => ?_) (fun c9 hf => ?_)
  · refine A_aload_n C dX0_quickOf_16 (i := 0) rfl 0 rfl 17 rfl ?_
    refine gfRX0_9 C k0 dX0_quickOf_17 20 rfl ?_
    refine A_iload_n C dX0_quickOf_20 (i := 1) rfl 1 rfl 21 rfl ?_
    refine A_iald C dX0_quickOf_21 (of_0_0 k0) hf 22 rfl (fun hf => ?_)
    exact A_iret C dX0_quickOf_22 E hf
  refine A_iconst (v := 1) C dX0_quickOf_12 (by decide) 13 rfl ?_
  refine A_goto C dX0_quickOf_13 22 (by decide) ?_
  exact A_iret C dX0_quickOf_22 E hf
set_option maxRecDepth 20000 in
theorem mX0_bottom {K : KX} {x0 : Nat} (k0 : isK 0 x0) {h : HH} {rv : Int32} {hv : HH} (hf : fX0_bottom x0 h = some (rv, hv)) : MR K yX0_bottom cX0_bottom 1 (some .int) 2 [.ref (K.2.1 x0)] h (some (.int rv)) hv := by
  refine MR_of (by decide) (Nat.le_of_ble_eq_true rfl) (fun G C E hnl => ?_)
  have C : Ok K G 2 cX0_bottom RX0 := C
  refine (show At K G 0 [(0, .ref (K.2.1 x0))] [] h from ?_)
  unfold fX0_bottom at hf
  refine A_aload_n C dX0_bottom_0 (i := 0) rfl 0 rfl 1 rfl ?_
  refine A_aload_n C dX0_bottom_1 (i := 0) rfl 0 rfl 2 rfl ?_
  refine gfRX0_49 C k0 dX0_bottom_2 5 rfl ?_
  refine CVi C dX0_bottom_5 0 k0 (by decide) (r := (RX0, TX0, 14)) rfl rfl hf (fun _ _ e => mX0_quickOf k0 e) lkRX0_73 (by decide) (by decide) rfl [] rfl (Nat.le_of_ble_eq_true rfl) 8 rfl (fun r5 h5 hf => ?_)
  exact A_iret C dX0_bottom_8 E hf
set_option maxRecDepth 20000 in
theorem mX0_ratio {K : KX} {x0 : Nat} {x1 : Int32} {x2 : Int32} (k0 : isK 0 x0) {h : HH} {rv : Int32} {hv : HH} (hf : fX0_ratio x0 x1 x2 h = some (rv, hv)) : MR K yX0_ratio cX0_ratio 4 (some .int) 1 [.ref (K.2.1 x0), .int x1, .int x2] h (some (.int rv)) hv := by
  refine MR_of (by decide) (Nat.le_of_ble_eq_true rfl) (fun G C E hnl => ?_)
  have C : Ok K G 1 cX0_ratio RX0 := C
  refine (show At K G 0 [(0, .ref (K.2.1 x0)), (1, .int x1), (2, .int x2)] [] h from ?_)
  unfold fX0_ratio at hf
  refine A_iload_n C dX0_ratio_0 (i := 1) rfl 1 rfl 1 rfl ?_
  refine A_if_lt C dX0_ratio_1 28 (by decide) 4 rfl hf (fun c1 hf => ?_) (fun c1 hf => ?_)
  · refine A_iconst (v := 0) C dX0_ratio_28 (by decide) 29 rfl ?_
    refine A_istore_n C dX0_ratio_29 (i := 3) rfl [(3, .int 0), (0, .ref (K.2.1 x0)), (1, .int x1), (2, .int x2)] (lt_nl hnl (by decide)) rfl 30 rfl ?_
    refine A_iload_n C dX0_ratio_30 (i := 3) rfl 0 rfl 31 rfl ?_
    refine T_if_eq C dX0_ratio_31 59 (by decide) (by decide) ?_
    refine A_iconst (v := 1) C dX0_ratio_59 (by decide) 60 rfl ?_
    exact A_iret C dX0_ratio_60 E hf
  refine A_iload_n C dX0_ratio_4 (i := 1) rfl 1 rfl 5 rfl ?_
  refine A_aload_n C dX0_ratio_5 (i := 0) rfl 0 rfl 6 rfl ?_
  refine gfRX0_49 C k0 dX0_ratio_6 9 rfl ?_
  refine A_icmp_gt C dX0_ratio_9 28 (by decide) 12 rfl hf (fun c9 hf => ?_) (fun c9 hf => ?_)
  · refine A_iconst (v := 0) C dX0_ratio_28 (by decide) 29 rfl ?_
    refine A_istore_n C dX0_ratio_29 (i := 3) rfl [(3, .int 0), (0, .ref (K.2.1 x0)), (1, .int x1), (2, .int x2)] (lt_nl hnl (by decide)) rfl 30 rfl ?_
    refine A_iload_n C dX0_ratio_30 (i := 3) rfl 0 rfl 31 rfl ?_
    refine T_if_eq C dX0_ratio_31 59 (by decide) (by decide) ?_
    refine A_iconst (v := 1) C dX0_ratio_59 (by decide) 60 rfl ?_
    exact A_iret C dX0_ratio_60 E hf
  refine A_iload_n C dX0_ratio_12 (i := 2) rfl 2 rfl 13 rfl ?_
  refine A_if_lt C dX0_ratio_13 28 (by decide) 16 rfl hf (fun c13 hf => ?_) (fun c13 hf => ?_)
  · refine A_iconst (v := 0) C dX0_ratio_28 (by decide) 29 rfl ?_
    refine A_istore_n C dX0_ratio_29 (i := 3) rfl [(3, .int 0), (0, .ref (K.2.1 x0)), (1, .int x1), (2, .int x2)] (lt_nl hnl (by decide)) rfl 30 rfl ?_
    refine A_iload_n C dX0_ratio_30 (i := 3) rfl 0 rfl 31 rfl ?_
    refine T_if_eq C dX0_ratio_31 59 (by decide) (by decide) ?_
    refine A_iconst (v := 1) C dX0_ratio_59 (by decide) 60 rfl ?_
    exact A_iret C dX0_ratio_60 E hf
  refine A_iload_n C dX0_ratio_16 (i := 2) rfl 2 rfl 17 rfl ?_
  refine A_aload_n C dX0_ratio_17 (i := 0) rfl 0 rfl 18 rfl ?_
  refine gfRX0_49 C k0 dX0_ratio_18 21 rfl ?_
  refine A_icmp_gt C dX0_ratio_21 28 (by decide) 24 rfl hf (fun c21 hf => ?_) (fun c21 hf => ?_)
  · refine A_iconst (v := 0) C dX0_ratio_28 (by decide) 29 rfl ?_
    refine A_istore_n C dX0_ratio_29 (i := 3) rfl [(3, .int 0), (0, .ref (K.2.1 x0)), (1, .int x1), (2, .int x2)] (lt_nl hnl (by decide)) rfl 30 rfl ?_
    refine A_iload_n C dX0_ratio_30 (i := 3) rfl 0 rfl 31 rfl ?_
    refine T_if_eq C dX0_ratio_31 59 (by decide) (by decide) ?_
    refine A_iconst (v := 1) C dX0_ratio_59 (by decide) 60 rfl ?_
    exact A_iret C dX0_ratio_60 E hf
  refine A_iconst (v := 1) C dX0_ratio_24 (by decide) 25 rfl ?_
  refine A_goto C dX0_ratio_25 29 (by decide) ?_
  refine A_istore_n C dX0_ratio_29 (i := 3) rfl [(3, .int 1), (0, .ref (K.2.1 x0)), (1, .int x1), (2, .int x2)] (lt_nl hnl (by decide)) rfl 30 rfl ?_
  refine A_iload_n C dX0_ratio_30 (i := 3) rfl 0 rfl 31 rfl ?_
  refine N_if_eq C dX0_ratio_31 59 (by decide) (by decide) 34 rfl ?_
  refine A_aload_n C dX0_ratio_34 (i := 0) rfl 1 rfl 35 rfl ?_
  refine gfRX0_9 C k0 dX0_ratio_35 38 rfl ?_
  refine A_iload_n C dX0_ratio_38 (i := 1) rfl 2 rfl 39 rfl ?_
  refine A_iald C dX0_ratio_39 (of_0_0 k0) hf 40 rfl (fun hf => ?_)
  refine A_if_le C dX0_ratio_40 59 (by decide) 43 rfl hf (fun c40 hf => ?_) (fun c40 hf => ?_)
  · refine A_iconst (v := 1) C dX0_ratio_59 (by decide) 60 rfl ?_
    exact A_iret C dX0_ratio_60 E hf
  refine A_aload_n C dX0_ratio_43 (i := 0) rfl 1 rfl 44 rfl ?_
  refine gfRX0_9 C k0 dX0_ratio_44 47 rfl ?_
  refine A_iload_n C dX0_ratio_47 (i := 2) rfl 3 rfl 48 rfl ?_
  refine A_iald C dX0_ratio_48 (of_0_0 k0) hf 49 rfl (fun hf => ?_)
  refine A_aload_n C dX0_ratio_49 (i := 0) rfl 1 rfl 50 rfl ?_
  refine gfRX0_9 C k0 dX0_ratio_50 53 rfl ?_
  refine A_iload_n C dX0_ratio_53 (i := 1) rfl 2 rfl 54 rfl ?_
  refine A_iald C dX0_ratio_54 (of_0_0 k0) hf 55 rfl (fun hf => ?_)
  refine A_idivG C dX0_ratio_55 hf 56 rfl (fun hf => ?_)
  refine A_goto C dX0_ratio_56 60 (by decide) ?_
  exact A_iret C dX0_ratio_60 E hf
set_option maxRecDepth 20000 in
theorem mX0_minuteOf {K : KX} {x0 : Nat} {x1 : Int32} (k0 : isK 0 x0) {h : HH} {rv : Int32} {hv : HH} (hf : fX0_minuteOf x0 x1 h = some (rv, hv)) : MR K yX0_minuteOf cX0_minuteOf 2 (some .int) 2 [.ref (K.2.1 x0), .int x1] h (some (.int rv)) hv := by
  refine MR_of (by decide) (Nat.le_of_ble_eq_true rfl) (fun G C E hnl => ?_)
  have C : Ok K G 2 cX0_minuteOf RX0 := C
  refine (show At K G 0 [(0, .ref (K.2.1 x0)), (1, .int x1)] [] h from ?_)
  unfold fX0_minuteOf at hf
  refine A_aload_n C dX0_minuteOf_0 (i := 0) rfl 0 rfl 1 rfl ?_
  refine A_iload_n C dX0_minuteOf_1 (i := 1) rfl 1 rfl 2 rfl ?_
  refine A_aload_n C dX0_minuteOf_2 (i := 0) rfl 0 rfl 3 rfl ?_
  refine gfRX0_49 C k0 dX0_minuteOf_3 6 rfl ?_
  refine CVi C dX0_minuteOf_6 0 k0 (by decide) (r := (RX0, TX0, 14)) rfl rfl hf (fun _ _ e => mX0_ratio k0 e) lkRX0_77 (by decide) (by decide) rfl [] rfl (Nat.le_of_ble_eq_true rfl) 9 rfl (fun r6 h6 hf => ?_)
  exact A_iret C dX0_minuteOf_9 E hf
set_option maxRecDepth 20000 in
theorem mX0_morningTick {K : KX} {x0 : Nat} (k0 : isK 0 x0) {h : HH} {rv : Int64} {hv : HH} (hf : fX0_morningTick x0 h = some (rv, hv)) : MR K yX0_morningTick cX0_morningTick 1 (some .long) 3 [.ref (K.2.1 x0)] h (some (.long rv)) hv := by
  refine MR_of (by decide) (Nat.le_of_ble_eq_true rfl) (fun G C E hnl => ?_)
  have C : Ok K G 3 cX0_morningTick RX0 := C
  refine (show At K G 0 [(0, .ref (K.2.1 x0))] [] h from ?_)
  unfold fX0_morningTick at hf
  refine A_aload_n C dX0_morningTick_0 (i := 0) rfl 0 rfl 1 rfl ?_
  refine gfRX0_55 C k0 dX0_morningTick_1 4 rfl ?_
  refine A_i2l C dX0_morningTick_4 5 rfl ?_
  refine A_aload_n C dX0_morningTick_5 (i := 0) rfl 0 rfl 6 rfl ?_
  refine CVi C dX0_morningTick_6 0 k0 (by decide) (r := (RX0, TX0, 14)) rfl rfl hf (fun _ _ e => mX0_bottom k0 e) lkRX0_80 (by decide) (by decide) rfl [.long (((gI h x0 11)).toInt64)] rfl (Nat.le_of_ble_eq_true rfl) 9 rfl (fun r6 h6 hf => ?_)
  refine A_i2l C dX0_morningTick_9 10 rfl ?_
  refine A_lmul C dX0_morningTick_10 11 rfl ?_
  exact A_lret C dX0_morningTick_11 E hf
set_option maxRecDepth 20000 in
theorem mX0_knockTick {K : KX} {x0 : Nat} {x1 : Int32} (k0 : isK 0 x0) {h : HH} {rv : Int64} {hv : HH} (hf : fX0_knockTick x0 x1 h = some (rv, hv)) : MR K yX0_knockTick cX0_knockTick 2 (some .long) 3 [.ref (K.2.1 x0), .int x1] h (some (.long rv)) hv := by
  refine MR_of (by decide) (Nat.le_of_ble_eq_true rfl) (fun G C E hnl => ?_)
  have C : Ok K G 3 cX0_knockTick RX0 := C
  refine (show At K G 0 [(0, .ref (K.2.1 x0)), (1, .int x1)] [] h from ?_)
  unfold fX0_knockTick at hf
  refine A_aload_n C dX0_knockTick_0 (i := 0) rfl 0 rfl 1 rfl ?_
  refine gfRX0_33 C k0 dX0_knockTick_1 4 rfl ?_
  refine A_iload_n C dX0_knockTick_4 (i := 1) rfl 1 rfl 5 rfl ?_
  refine A_iconst (v := 2) C dX0_knockTick_5 (by decide) 6 rfl ?_
  refine CVi C dX0_knockTick_6 7 (of_0_5 k0) (by decide) (r := (RX7, TX7, 4)) rfl rfl hf (fun _ _ e => mX7_at (of_0_5 k0) e) lkRX0_65 (by decide) (by decide) rfl [] rfl (Nat.le_of_ble_eq_true rfl) 9 rfl (fun r6 h6 hf => ?_)
  refine A_i2l C dX0_knockTick_9 10 rfl ?_
  refine A_aload_n C dX0_knockTick_10 (i := 0) rfl 0 rfl 11 rfl ?_
  refine CVi C dX0_knockTick_11 0 k0 (by decide) (r := (RX0, TX0, 14)) rfl rfl hf (fun _ _ e => mX0_bottom k0 e) lkRX0_80 (by decide) (by decide) rfl [.long r6.toInt64] rfl (Nat.le_of_ble_eq_true rfl) 14 rfl (fun r11 h11 hf => ?_)
  refine A_i2l C dX0_knockTick_14 15 rfl ?_
  refine A_lmul C dX0_knockTick_15 16 rfl ?_
  exact A_lret C dX0_knockTick_16 E hf
set_option maxRecDepth 20000 in
theorem mX0_feltOn {K : KX} {x0 : Nat} {x1 : Int32} {x2 : Int32} {x3 : Int32} (k0 : isK 0 x0) {h : HH} {rv : Int64} {hv : HH} (hf : fX0_feltOn x0 x1 x2 x3 h = some (rv, hv)) : MR K yX0_feltOn cX0_feltOn 4 (some .long) 2 [.ref (K.2.1 x0), .int x1, .int x2, .int x3] h (some (.long rv)) hv := by
  refine MR_of (by decide) (Nat.le_of_ble_eq_true rfl) (fun G C E hnl => ?_)
  have C : Ok K G 2 cX0_feltOn RX0 := C
  refine (show At K G 0 [(0, .ref (K.2.1 x0)), (1, .int x1), (2, .int x2), (3, .int x3)] [] h from ?_)
  unfold fX0_feltOn at hf
  refine A_iload_n C dX0_feltOn_0 (i := 1) rfl 1 rfl 1 rfl ?_
  refine A_i2l C dX0_feltOn_1 2 rfl ?_
  refine A_aload_n C dX0_feltOn_2 (i := 0) rfl 0 rfl 3 rfl ?_
  refine A_iload_n C dX0_feltOn_3 (i := 2) rfl 2 rfl 4 rfl ?_
  refine A_iload_n C dX0_feltOn_4 (i := 3) rfl 3 rfl 5 rfl ?_
  refine CVi C dX0_feltOn_5 0 k0 (by decide) (r := (RX0, TX0, 14)) rfl rfl hf (fun _ _ e => mX0_ratio k0 e) lkRX0_77 (by decide) (by decide) rfl [.long x1.toInt64] rfl (Nat.le_of_ble_eq_true rfl) 8 rfl (fun r5 h5 hf => ?_)
  refine A_i2l C dX0_feltOn_8 9 rfl ?_
  refine A_lmul C dX0_feltOn_9 10 rfl ?_
  exact A_lret C dX0_feltOn_10 E hf
set_option maxRecDepth 20000 in
theorem mX0_shrunk {K : KX} {x0 : Nat} {x1 : Int32} {x2 : Int32} {x3 : Int32} (k0 : isK 0 x0) {h : HH} {rv : Int32} {hv : HH} (hf : fX0_shrunk x0 x1 x2 x3 h = some (rv, hv)) : MR K yX0_shrunk cX0_shrunk 4 (some .int) 2 [.ref (K.2.1 x0), .int x1, .int x2, .int x3] h (some (.int rv)) hv := by
  refine MR_of (by decide) (Nat.le_of_ble_eq_true rfl) (fun G C E hnl => ?_)
  have C : Ok K G 2 cX0_shrunk RX0 := C
  refine (show At K G 0 [(0, .ref (K.2.1 x0)), (1, .int x1), (2, .int x2), (3, .int x3)] [] h from ?_)
  unfold fX0_shrunk at hf
  refine A_iload_n C dX0_shrunk_0 (i := 1) rfl 1 rfl 1 rfl ?_
  refine A_i2l C dX0_shrunk_1 2 rfl ?_
  refine A_aload_n C dX0_shrunk_2 (i := 0) rfl 0 rfl 3 rfl ?_
  refine A_iload_n C dX0_shrunk_3 (i := 3) rfl 3 rfl 4 rfl ?_
  refine A_iload_n C dX0_shrunk_4 (i := 2) rfl 2 rfl 5 rfl ?_
  refine CVi C dX0_shrunk_5 0 k0 (by decide) (r := (RX0, TX0, 14)) rfl rfl hf (fun _ _ e => mX0_ratio k0 e) lkRX0_77 (by decide) (by decide) rfl [.long x1.toInt64] rfl (Nat.le_of_ble_eq_true rfl) 8 rfl (fun r5 h5 hf => ?_)
  refine A_i2l C dX0_shrunk_8 9 rfl ?_
  refine CNl C dX0_shrunk_9 (fun _ z => z.1.2.1) hf (fun _ _ e => mX8_quotient  e) lkRX0_84 (by decide) (by decide) rfl [] rfl (Nat.le_of_ble_eq_true rfl) 12 rfl (fun r9 h9 hf => ?_)
  refine A_l2i C dX0_shrunk_12 13 rfl ?_
  exact A_iret C dX0_shrunk_13 E hf
set_option maxRecDepth 20000 in
theorem wX0_falling_L5 {K : KX} {G : GX} (C : Ok K G 3 cX0_falling RX0) (hnl : G.2.2.2.2.2.2.2.2.2.2.2.2.2 = 6) {rv : Int64} {hv : HH} (E : Endd K G (some .long) (some (.long rv)) hv) {x0 : Nat} {x2 : Int32}   (kx0 : isK 0 x0) : ∀ (self5 : Int64 → Int32 → HH → Option (Int64 × HH)), (∀ (x3 : Int64) (x5 : Int32) (h : HH), self5 x3 x5 h = some (rv, hv) → At K G 5 [(0, .ref (K.2.1 x0)), (2, .int x2), (3, .long x3), (5, .int x5)] [] h) → ∀ (x3 : Int64) (x5 : Int32) (h : HH), fX0_falling_L5 x0 x2 self5 x3 x5 h = some (rv, hv) → At K G 5 [(0, .ref (K.2.1 x0)), (2, .int x2), (3, .long x3), (5, .int x5)] [] h := by
  intro self5 Hself5 x3 x5 h hf
  unfold fX0_falling_L5 at hf
  refine A_iload C dX0_falling_5 3 rfl 7 rfl ?_
  refine A_iload_n C dX0_falling_7 (i := 2) rfl 1 rfl 8 rfl ?_
  refine A_icmp_ge C dX0_falling_8 33 (by decide) 11 rfl hf (fun c8 hf => ?_) (fun c8 hf => ?_)
  · refine A_lload_n C dX0_falling_33 (i := 3) rfl 2 rfl 34 rfl ?_
    exact A_lret C dX0_falling_34 E hf
  refine A_lload_n C dX0_falling_11 (i := 3) rfl 2 rfl 12 rfl ?_
  refine A_aload_n C dX0_falling_12 (i := 0) rfl 0 rfl 13 rfl ?_
  refine gfRX0_52 C kx0 dX0_falling_13 16 rfl ?_
  refine A_i2l C dX0_falling_16 17 rfl ?_
  refine A_aload_n C dX0_falling_17 (i := 0) rfl 0 rfl 18 rfl ?_
  refine A_iload C dX0_falling_18 3 rfl 20 rfl ?_
  refine CVi C dX0_falling_20 0 kx0 (by decide) (r := (RX0, TX0, 14)) rfl rfl hf (fun _ _ e => mX0_minuteOf kx0 e) lkRX0_88 (by decide) (by decide) rfl [.long (((gI h x0 10)).toInt64), .long x3] rfl (Nat.le_of_ble_eq_true rfl) 23 rfl (fun r20 h20 hf => ?_)
  refine A_i2l C dX0_falling_23 24 rfl ?_
  refine A_lmul C dX0_falling_24 25 rfl ?_
  refine A_ladd C dX0_falling_25 26 rfl ?_
  refine A_namL hf (fun y1 hf => ?_)
  refine A_lstore_n C dX0_falling_26 (i := 3) rfl [(3, .long y1), (0, .ref (K.2.1 x0)), (2, .int x2), (5, .int x5)] (lt_nl hnl (by decide)) rfl 27 rfl ?_
  refine A_iinc (v := (x5 + 1)) C dX0_falling_27 3 rfl rfl [(5, .int (x5 + 1)), (3, .long y1), (0, .ref (K.2.1 x0)), (2, .int x2)] (lt_nl hnl (by decide)) rfl 30 rfl ?_
  refine A_goto C dX0_falling_30 5 (by decide) ?_
  refine A_sub [2, 3, 1, 0] (lv' := [(0, .ref (K.2.1 x0)), (2, .int x2), (3, .long y1), (5, .int (x5 + 1))]) rfl ?_
  exact Hself5 _ _ _ hf
set_option maxRecDepth 20000 in
theorem mX0_falling {K : KX} {x0 : Nat} {x1 : Int32} {x2 : Int32} (k0 : isK 0 x0) {h : HH} {rv : Int64} {hv : HH} (hf : fX0_falling x0 x1 x2 h = some (rv, hv)) : MR K yX0_falling cX0_falling 6 (some .long) 3 [.ref (K.2.1 x0), .int x1, .int x2] h (some (.long rv)) hv := by
  refine MR_of (by decide) (Nat.le_of_ble_eq_true rfl) (fun G C E hnl => ?_)
  have C : Ok K G 3 cX0_falling RX0 := C
  refine (show At K G 0 [(0, .ref (K.2.1 x0)), (1, .int x1), (2, .int x2)] [] h from ?_)
  unfold fX0_falling at hf
  refine A_lconst (v := 0) C dX0_falling_0 (by decide) 1 rfl ?_
  refine A_lstore_n C dX0_falling_1 (i := 3) rfl [(3, .long 0), (0, .ref (K.2.1 x0)), (1, .int x1), (2, .int x2)] (lt_nl hnl (by decide)) rfl 2 rfl ?_
  refine A_iload_n C dX0_falling_2 (i := 1) rfl 2 rfl 3 rfl ?_
  refine A_istore C dX0_falling_3 [(5, .int x1), (3, .long 0), (0, .ref (K.2.1 x0)), (1, .int x1), (2, .int x2)] (lt_nl hnl (by decide)) rfl 5 rfl ?_
  refine A_sub [2, 4, 1, 0] (lv' := [(0, .ref (K.2.1 x0)), (2, .int x2), (3, .long 0), (5, .int x1)]) rfl ?_
  refine lq2_at (wX0_falling_L5 C hnl E k0) FU _ _ _ hf
set_option maxRecDepth 20000 in
theorem wX0_floorBehind_b60 {K : KX} {G : GX} (C : Ok K G 2 cX0_floorBehind RX0) (hnl : G.2.2.2.2.2.2.2.2.2.2.2.2.2 = 8) {rv : Int32} {hv : HH} (E : Endd K G (some .int) (some (.int rv)) hv) {x0 : Nat} {x2 : Int32} {x3 : Int32} {x4 : Int32} {x5 : Int32} {x6 : Int32}   (kx0 : isK 0 x0) {h : HH} (hf : fX0_floorBehind_b60 x0 x2 x3 x4 x5 x6 h = some (rv, hv)) : At K G 60 [(0, .ref (K.2.1 x0)), (2, .int x2), (3, .int x3), (4, .int x4), (5, .int x5), (6, .int x6)] [.int 0] h := by
  unfold fX0_floorBehind_b60 at hf
  refine A_istore C dX0_floorBehind_60 [(7, .int 0), (0, .ref (K.2.1 x0)), (2, .int x2), (3, .int x3), (4, .int x4), (5, .int x5), (6, .int x6)] (lt_nl hnl (by decide)) rfl 62 rfl ?_
  refine A_iload C dX0_floorBehind_62 0 rfl 64 rfl ?_
  refine N_if_ne C dX0_floorBehind_64 81 (by decide) (by decide) 67 rfl ?_
  refine A_iload C dX0_floorBehind_67 4 rfl 69 rfl ?_
  refine A_aload_n C dX0_floorBehind_69 (i := 0) rfl 1 rfl 70 rfl ?_
  refine A_iload_n C dX0_floorBehind_70 (i := 3) rfl 3 rfl 71 rfl ?_
  refine A_iload_n C dX0_floorBehind_71 (i := 2) rfl 2 rfl 72 rfl ?_
  refine CVi C dX0_floorBehind_72 0 kx0 (by decide) (r := (RX0, TX0, 14)) rfl rfl hf (fun _ _ e => mX0_ratio kx0 e) lkRX0_77 (by decide) (by decide) rfl [.int x4] rfl (Nat.le_of_ble_eq_true rfl) 75 rfl (fun r72 h72 hf => ?_)
  refine A_imul C dX0_floorBehind_75 76 rfl ?_
  refine A_iload C dX0_floorBehind_76 6 rfl 78 rfl ?_
  refine A_icmp_ge C dX0_floorBehind_78 83 (by decide) 81 rfl hf (fun c78 hf => ?_) (fun c78 hf => ?_)
  · refine A_iload_n C dX0_floorBehind_83 (i := 3) rfl 3 rfl 84 rfl ?_
    refine A_iload_n C dX0_floorBehind_84 (i := 2) rfl 2 rfl 85 rfl ?_
    refine A_iload C dX0_floorBehind_85 5 rfl 87 rfl ?_
    refine A_iconst (v := 1) C dX0_floorBehind_87 (by decide) 88 rfl ?_
    refine A_icmp_ne C dX0_floorBehind_88 95 (by decide) 91 rfl hf (fun c88 hf => ?_) (fun c88 hf => ?_)
    · refine A_iconst (v := 1) C dX0_floorBehind_95 (by decide) 96 rfl ?_
      refine A_isub C dX0_floorBehind_96 97 rfl ?_
      refine A_mmax C dX0_floorBehind_97 mlRX0_91 stmmax iniMath commax (by decide) (Nat.le_of_ble_eq_true rfl) 100 rfl ?_
      exact A_iret C dX0_floorBehind_100 E hf
    refine A_iconst (v := 2) C dX0_floorBehind_91 (by decide) 92 rfl ?_
    refine A_goto C dX0_floorBehind_92 96 (by decide) ?_
    refine A_isub C dX0_floorBehind_96 97 rfl ?_
    refine A_mmax C dX0_floorBehind_97 mlRX0_91 stmmax iniMath commax (by decide) (Nat.le_of_ble_eq_true rfl) 100 rfl ?_
    exact A_iret C dX0_floorBehind_100 E hf
  refine A_iload_n C dX0_floorBehind_81 (i := 2) rfl 2 rfl 82 rfl ?_
  exact A_iret C dX0_floorBehind_82 E hf
set_option maxRecDepth 20000 in
theorem wX0_floorBehind_b59 {K : KX} {G : GX} (C : Ok K G 2 cX0_floorBehind RX0) (hnl : G.2.2.2.2.2.2.2.2.2.2.2.2.2 = 8) {rv : Int32} {hv : HH} (E : Endd K G (some .int) (some (.int rv)) hv) {x0 : Nat} {x2 : Int32} {x3 : Int32} {x4 : Int32} {x5 : Int32} {x6 : Int32}   (kx0 : isK 0 x0) {h : HH} (hf : fX0_floorBehind_b59 x0 x2 x3 x4 x5 x6 h = some (rv, hv)) : At K G 59 [(0, .ref (K.2.1 x0)), (2, .int x2), (3, .int x3), (4, .int x4), (5, .int x5), (6, .int x6)] [] h := by
  unfold fX0_floorBehind_b59 at hf
  refine A_iconst (v := 0) C dX0_floorBehind_59 (by decide) 60 rfl ?_
  exact wX0_floorBehind_b60 C hnl E kx0 hf
set_option maxRecDepth 20000 in
theorem wX0_floorBehind_b38 {K : KX} {G : GX} (C : Ok K G 2 cX0_floorBehind RX0) (hnl : G.2.2.2.2.2.2.2.2.2.2.2.2.2 = 8) {rv : Int32} {hv : HH} (E : Endd K G (some .int) (some (.int rv)) hv) {x0 : Nat} {x2 : Int32} {x3 : Int32} {x4 : Int32} {x5 : Int32} {s0 : Int32} {s1 : Int32}   (kx0 : isK 0 x0) {h : HH} (hf : fX0_floorBehind_b38 x0 x2 x3 x4 x5 s0 s1 h = some (rv, hv)) : At K G 38 [(0, .ref (K.2.1 x0)), (2, .int x2), (3, .int x3), (4, .int x4), (5, .int x5)] [.int s0, .int s1] h := by
  unfold fX0_floorBehind_b38 at hf
  refine A_imul C dX0_floorBehind_38 39 rfl ?_
  refine A_namI hf (fun y2 hf => ?_)
  refine A_istore C dX0_floorBehind_39 [(6, .int y2), (0, .ref (K.2.1 x0)), (2, .int x2), (3, .int x3), (4, .int x4), (5, .int x5)] (lt_nl hnl (by decide)) rfl 41 rfl ?_
  refine A_iload C dX0_floorBehind_41 5 rfl 43 rfl ?_
  refine A_iconst (v := 3) C dX0_floorBehind_43 (by decide) 44 rfl ?_
  refine A_icmp_ne C dX0_floorBehind_44 59 (by decide) 47 rfl hf (fun c44 hf => ?_) (fun c44 hf => ?_)
  · refine A_sub [1, 2, 3, 4, 5, 0] (lv' := [(0, .ref (K.2.1 x0)), (2, .int x2), (3, .int x3), (4, .int x4), (5, .int x5), (6, .int y2)]) rfl ?_
    exact wX0_floorBehind_b59 C hnl E kx0 hf
  refine A_iload_n C dX0_floorBehind_47 (i := 2) rfl 2 rfl 48 rfl ?_
  refine A_aload_n C dX0_floorBehind_48 (i := 0) rfl 1 rfl 49 rfl ?_
  refine gfRX0_49 C kx0 dX0_floorBehind_49 52 rfl ?_
  refine A_icmp_lt C dX0_floorBehind_52 59 (by decide) 55 rfl hf (fun c52 hf => ?_) (fun c52 hf => ?_)
  · refine A_sub [1, 2, 3, 4, 5, 0] (lv' := [(0, .ref (K.2.1 x0)), (2, .int x2), (3, .int x3), (4, .int x4), (5, .int x5), (6, .int y2)]) rfl ?_
    exact wX0_floorBehind_b59 C hnl E kx0 hf
  refine A_iconst (v := 1) C dX0_floorBehind_55 (by decide) 56 rfl ?_
  refine A_goto C dX0_floorBehind_56 60 (by decide) ?_
  refine A_istore C dX0_floorBehind_60 [(7, .int 1), (6, .int y2), (0, .ref (K.2.1 x0)), (2, .int x2), (3, .int x3), (4, .int x4), (5, .int x5)] (lt_nl hnl (by decide)) rfl 62 rfl ?_
  refine A_iload C dX0_floorBehind_62 0 rfl 64 rfl ?_
  refine T_if_ne C dX0_floorBehind_64 81 (by decide) (by decide) ?_
  refine A_iload_n C dX0_floorBehind_81 (i := 2) rfl 3 rfl 82 rfl ?_
  exact A_iret C dX0_floorBehind_82 E hf
set_option maxRecDepth 20000 in
theorem mX0_floorBehind {K : KX} {x0 : Nat} {x1 : Int32} {x2 : Int32} {x3 : Int32} {x4 : Int32} (k0 : isK 0 x0) {h : HH} {rv : Int32} {hv : HH} (hf : fX0_floorBehind x0 x1 x2 x3 x4 h = some (rv, hv)) : MR K yX0_floorBehind cX0_floorBehind 8 (some .int) 2 [.ref (K.2.1 x0), .int x1, .int x2, .int x3, .int x4] h (some (.int rv)) hv := by
  refine MR_of (by decide) (Nat.le_of_ble_eq_true rfl) (fun G C E hnl => ?_)
  have C : Ok K G 2 cX0_floorBehind RX0 := C
  refine (show At K G 0 [(0, .ref (K.2.1 x0)), (1, .int x1), (2, .int x2), (3, .int x3), (4, .int x4)] [] h from ?_)
  unfold fX0_floorBehind at hf
  refine A_iload_n C dX0_floorBehind_0 (i := 2) rfl 2 rfl 1 rfl ?_
  refine A_iload_n C dX0_floorBehind_1 (i := 3) rfl 3 rfl 2 rfl ?_
  refine A_icmp_gt C dX0_floorBehind_2 7 (by decide) 5 rfl hf (fun c2 hf => ?_) (fun c2 hf => ?_)
  · refine A_aload_n C dX0_floorBehind_7 (i := 0) rfl 0 rfl 8 rfl ?_
    refine gfRX0_26 C k0 dX0_floorBehind_8 11 rfl ?_
    refine A_iload_n C dX0_floorBehind_11 (i := 1) rfl 1 rfl 12 rfl ?_
    refine A_iconst (v := 0) C dX0_floorBehind_12 (by decide) 13 rfl ?_
    refine CVi C dX0_floorBehind_13 7 (of_0_3 k0) (by decide) (r := (RX7, TX7, 4)) rfl rfl hf (fun _ _ e => mX7_at (of_0_3 k0) e) lkRX0_65 (by decide) (by decide) rfl [] rfl (Nat.le_of_ble_eq_true rfl) 16 rfl (fun r13 h13 hf => ?_)
    refine A_istore C dX0_floorBehind_16 [(5, .int r13), (0, .ref (K.2.1 x0)), (1, .int x1), (2, .int x2), (3, .int x3), (4, .int x4)] (lt_nl hnl (by decide)) rfl 18 rfl ?_
    refine A_aload_n C dX0_floorBehind_18 (i := 0) rfl 1 rfl 19 rfl ?_
    refine gfRX0_26 C k0 dX0_floorBehind_19 22 rfl ?_
    refine A_iload_n C dX0_floorBehind_22 (i := 1) rfl 2 rfl 23 rfl ?_
    refine A_iconst (v := 1) C dX0_floorBehind_23 (by decide) 24 rfl ?_
    refine CVi C dX0_floorBehind_24 7 (of_0_3 k0) (by decide) (r := (RX7, TX7, 4)) rfl rfl hf (fun _ _ e => mX7_at (of_0_3 k0) e) lkRX0_65 (by decide) (by decide) rfl [] rfl (Nat.le_of_ble_eq_true rfl) 27 rfl (fun r24 h24 hf => ?_)
    refine A_iload C dX0_floorBehind_27 0 rfl 29 rfl ?_
    refine A_iconst (v := 2) C dX0_floorBehind_29 (by decide) 30 rfl ?_
    refine A_icmp_ne C dX0_floorBehind_30 37 (by decide) 33 rfl hf (fun c30 hf => ?_) (fun c30 hf => ?_)
    · refine A_iconst (v := 1) C dX0_floorBehind_37 (by decide) 38 rfl ?_
      refine A_sub [1, 3, 4, 5, 0] (lv' := [(0, .ref (K.2.1 x0)), (2, .int x2), (3, .int x3), (4, .int x4), (5, .int r13)]) rfl ?_
      exact wX0_floorBehind_b38 C hnl E k0 hf
    refine A_iconst (v := 2) C dX0_floorBehind_33 (by decide) 34 rfl ?_
    refine A_goto C dX0_floorBehind_34 38 (by decide) ?_
    refine A_sub [1, 3, 4, 5, 0] (lv' := [(0, .ref (K.2.1 x0)), (2, .int x2), (3, .int x3), (4, .int x4), (5, .int r13)]) rfl ?_
    exact wX0_floorBehind_b38 C hnl E k0 hf
  refine A_iload_n C dX0_floorBehind_5 (i := 2) rfl 2 rfl 6 rfl ?_
  exact A_iret C dX0_floorBehind_6 E hf
set_option maxRecDepth 20000 in
theorem wX0_fitsSigns_L2 {K : KX} {G : GX} (C : Ok K G 3 cX0_fitsSigns RX0) (hnl : G.2.2.2.2.2.2.2.2.2.2.2.2.2 = 6) {rv : Bool} {hv : HH} (E : Endd K G (some .boolean) (some (.int (b2i rv))) hv) {x0 : Nat} {x1 : Int32}   (kx0 : isK 0 x0) : ∀ (self2 : Int32 → HH → Option (Bool × HH)), (∀ (x2 : Int32) (h : HH), self2 x2 h = some (rv, hv) → At K G 2 [(0, .ref (K.2.1 x0)), (1, .int x1), (2, .int x2)] [] h) → ∀ (x2 : Int32) (h : HH), fX0_fitsSigns_L2 x0 x1 self2 x2 h = some (rv, hv) → At K G 2 [(0, .ref (K.2.1 x0)), (1, .int x1), (2, .int x2)] [] h := by
  intro self2 Hself2 x2 h hf
  unfold fX0_fitsSigns_L2 at hf
  refine A_iload_n C dX0_fitsSigns_2 (i := 2) rfl 2 rfl 3 rfl ?_
  refine A_aload_n C dX0_fitsSigns_3 (i := 0) rfl 0 rfl 4 rfl ?_
  refine gfRX0_39 C kx0 dX0_fitsSigns_4 7 rfl ?_
  refine gfRX0_45 C (of_0_7 kx0) dX0_fitsSigns_7 10 rfl ?_
  refine A_icmp_ge C dX0_fitsSigns_10 80 (by decide) 13 rfl hf (fun c10 hf => ?_) (fun c10 hf => ?_)
  · refine A_iconst (v := 1) C dX0_fitsSigns_80 (by decide) 81 rfl ?_
    exact A_zret (x := true) C dX0_fitsSigns_81 E hf
  refine A_aload_n C dX0_fitsSigns_13 (i := 0) rfl 0 rfl 14 rfl ?_
  refine gfRX0_39 C kx0 dX0_fitsSigns_14 17 rfl ?_
  refine A_iload_n C dX0_fitsSigns_17 (i := 2) rfl 2 rfl 18 rfl ?_
  refine A_iconst (v := 1) C dX0_fitsSigns_18 (by decide) 19 rfl ?_
  refine CVi C dX0_fitsSigns_19 7 (of_0_7 kx0) (by decide) (r := (RX7, TX7, 4)) rfl rfl hf (fun _ _ e => mX7_at (of_0_7 kx0) e) lkRX0_65 (by decide) (by decide) rfl [] rfl (Nat.le_of_ble_eq_true rfl) 22 rfl (fun r19 h19 hf => ?_)
  refine A_istore_n C dX0_fitsSigns_22 (i := 3) rfl [(3, .int r19), (0, .ref (K.2.1 x0)), (1, .int x1), (2, .int x2)] (lt_nl hnl (by decide)) rfl 23 rfl ?_
  refine A_aload_n C dX0_fitsSigns_23 (i := 0) rfl 1 rfl 24 rfl ?_
  refine gfRX0_39 C kx0 dX0_fitsSigns_24 27 rfl ?_
  refine A_iload_n C dX0_fitsSigns_27 (i := 2) rfl 3 rfl 28 rfl ?_
  refine A_iconst (v := 0) C dX0_fitsSigns_28 (by decide) 29 rfl ?_
  refine CVi C dX0_fitsSigns_29 7 (of_0_7 kx0) (by decide) (r := (RX7, TX7, 4)) rfl rfl hf (fun _ _ e => mX7_at (of_0_7 kx0) e) lkRX0_65 (by decide) (by decide) rfl [] rfl (Nat.le_of_ble_eq_true rfl) 32 rfl (fun r29 h29 hf => ?_)
  refine A_iconst (v := 1) C dX0_fitsSigns_32 (by decide) 33 rfl ?_
  refine A_icmp_ne C dX0_fitsSigns_33 47 (by decide) 36 rfl hf (fun c33 hf => ?_) (fun c33 hf => ?_)
  · refine A_aload_n C dX0_fitsSigns_47 (i := 0) rfl 1 rfl 48 rfl ?_
    refine A_iload_n C dX0_fitsSigns_48 (i := 3) rfl 0 rfl 49 rfl ?_
    refine A_iconst (v := 0) C dX0_fitsSigns_49 (by decide) 50 rfl ?_
    refine A_iload_n C dX0_fitsSigns_50 (i := 1) rfl 2 rfl 51 rfl ?_
    refine CVl C dX0_fitsSigns_51 0 kx0 (by decide) (r := (RX0, TX0, 14)) rfl rfl hf (fun _ _ e => mX0_feltOn kx0 e) lkRX0_104 (by decide) (by decide) rfl [] rfl (Nat.le_of_ble_eq_true rfl) 54 rfl (fun r51 h51 hf => ?_)
    refine A_lstore C dX0_fitsSigns_54 [(4, .long r51), (3, .int r19), (0, .ref (K.2.1 x0)), (1, .int x1), (2, .int x2)] (lt_nl hnl (by decide)) rfl 56 rfl ?_
    refine A_lload C dX0_fitsSigns_56 0 rfl 58 rfl ?_
    refine A_aload_n C dX0_fitsSigns_58 (i := 0) rfl 2 rfl 59 rfl ?_
    refine gfRX0_39 C kx0 dX0_fitsSigns_59 62 rfl ?_
    refine A_iload_n C dX0_fitsSigns_62 (i := 2) rfl 4 rfl 63 rfl ?_
    refine A_iconst (v := 2) C dX0_fitsSigns_63 (by decide) 64 rfl ?_
    refine CVi C dX0_fitsSigns_64 7 (of_0_7 kx0) (by decide) (r := (RX7, TX7, 4)) rfl rfl hf (fun _ _ e => mX7_at (of_0_7 kx0) e) lkRX0_65 (by decide) (by decide) rfl [.long r51] rfl (Nat.le_of_ble_eq_true rfl) 67 rfl (fun r64 h64 hf => ?_)
    refine A_i2l C dX0_fitsSigns_67 68 rfl ?_
    refine A_l_eq C dX0_fitsSigns_68 dX0_fitsSigns_69 74 (by decide) 72 rfl hf (fun c68 hf => ?_) (fun c68 hf => ?_)
    · refine A_iinc (v := (x2 + 1)) C dX0_fitsSigns_74 4 rfl rfl [(2, .int (x2 + 1)), (4, .long r51), (3, .int r19), (0, .ref (K.2.1 x0)), (1, .int x1)] (lt_nl hnl (by decide)) rfl 77 rfl ?_
      refine A_goto C dX0_fitsSigns_77 2 (by decide) ?_
      refine A_sub [3, 4, 0] (lv' := [(0, .ref (K.2.1 x0)), (1, .int x1), (2, .int (x2 + 1))]) rfl ?_
      exact Hself2 _ _ hf
    refine A_iconst (v := 0) C dX0_fitsSigns_72 (by decide) 73 rfl ?_
    exact A_zret (x := false) C dX0_fitsSigns_73 E hf
  refine A_aload_n C dX0_fitsSigns_36 (i := 0) rfl 1 rfl 37 rfl ?_
  refine A_iload_n C dX0_fitsSigns_37 (i := 3) rfl 0 rfl 38 rfl ?_
  refine A_iload_n C dX0_fitsSigns_38 (i := 1) rfl 2 rfl 39 rfl ?_
  refine A_iconst (v := 0) C dX0_fitsSigns_39 (by decide) 40 rfl ?_
  refine CVi C dX0_fitsSigns_40 0 kx0 (by decide) (r := (RX0, TX0, 14)) rfl rfl hf (fun _ _ e => mX0_shrunk kx0 e) lkRX0_100 (by decide) (by decide) rfl [] rfl (Nat.le_of_ble_eq_true rfl) 43 rfl (fun r40 h40 hf => ?_)
  refine A_i2l C dX0_fitsSigns_43 44 rfl ?_
  refine A_goto C dX0_fitsSigns_44 54 (by decide) ?_
  refine A_namL hf (fun y1 hf => ?_)
  refine A_lstore C dX0_fitsSigns_54 [(4, .long y1), (3, .int r19), (0, .ref (K.2.1 x0)), (1, .int x1), (2, .int x2)] (lt_nl hnl (by decide)) rfl 56 rfl ?_
  refine A_lload C dX0_fitsSigns_56 0 rfl 58 rfl ?_
  refine A_aload_n C dX0_fitsSigns_58 (i := 0) rfl 2 rfl 59 rfl ?_
  refine gfRX0_39 C kx0 dX0_fitsSigns_59 62 rfl ?_
  refine A_iload_n C dX0_fitsSigns_62 (i := 2) rfl 4 rfl 63 rfl ?_
  refine A_iconst (v := 2) C dX0_fitsSigns_63 (by decide) 64 rfl ?_
  refine CVi C dX0_fitsSigns_64 7 (of_0_7 kx0) (by decide) (r := (RX7, TX7, 4)) rfl rfl hf (fun _ _ e => mX7_at (of_0_7 kx0) e) lkRX0_65 (by decide) (by decide) rfl [.long y1] rfl (Nat.le_of_ble_eq_true rfl) 67 rfl (fun r64 h64 hf => ?_)
  refine A_i2l C dX0_fitsSigns_67 68 rfl ?_
  refine A_l_eq C dX0_fitsSigns_68 dX0_fitsSigns_69 74 (by decide) 72 rfl hf (fun c68 hf => ?_) (fun c68 hf => ?_)
  · refine A_iinc (v := (x2 + 1)) C dX0_fitsSigns_74 4 rfl rfl [(2, .int (x2 + 1)), (4, .long y1), (3, .int r19), (0, .ref (K.2.1 x0)), (1, .int x1)] (lt_nl hnl (by decide)) rfl 77 rfl ?_
    refine A_goto C dX0_fitsSigns_77 2 (by decide) ?_
    refine A_sub [3, 4, 0] (lv' := [(0, .ref (K.2.1 x0)), (1, .int x1), (2, .int (x2 + 1))]) rfl ?_
    exact Hself2 _ _ hf
  refine A_iconst (v := 0) C dX0_fitsSigns_72 (by decide) 73 rfl ?_
  exact A_zret (x := false) C dX0_fitsSigns_73 E hf
set_option maxRecDepth 20000 in
theorem mX0_fitsSigns {K : KX} {x0 : Nat} {x1 : Int32} (k0 : isK 0 x0) {h : HH} {rv : Bool} {hv : HH} (hf : fX0_fitsSigns x0 x1 h = some (rv, hv)) : MR K yX0_fitsSigns cX0_fitsSigns 6 (some .boolean) 3 [.ref (K.2.1 x0), .int x1] h (some (.int (b2i rv))) hv := by
  refine MR_of (by decide) (Nat.le_of_ble_eq_true rfl) (fun G C E hnl => ?_)
  have C : Ok K G 3 cX0_fitsSigns RX0 := C
  refine (show At K G 0 [(0, .ref (K.2.1 x0)), (1, .int x1)] [] h from ?_)
  unfold fX0_fitsSigns at hf
  refine A_iconst (v := 0) C dX0_fitsSigns_0 (by decide) 1 rfl ?_
  refine A_istore_n C dX0_fitsSigns_1 (i := 2) rfl [(2, .int 0), (0, .ref (K.2.1 x0)), (1, .int x1)] (lt_nl hnl (by decide)) rfl 2 rfl ?_
  refine A_sub [1, 2, 0] (lv' := [(0, .ref (K.2.1 x0)), (1, .int x1), (2, .int 0)]) rfl ?_
  refine lq1_at (wX0_fitsSigns_L2 C hnl E k0) FU _ _ hf
set_option maxRecDepth 20000 in
theorem wX0_deepOnes_L4 {K : KX} {G : GX} (C : Ok K G 4 cX0_deepOnes RX0) (hnl : G.2.2.2.2.2.2.2.2.2.2.2.2.2 = 3) {rv : Int32} {hv : HH} (E : Endd K G (some .int) (some (.int rv)) hv) {x0 : Nat}   (kx0 : isK 0 x0) : ∀ (self4 : Int32 → Int32 → HH → Option (Int32 × HH)), (∀ (x1 : Int32) (x2 : Int32) (h : HH), self4 x1 x2 h = some (rv, hv) → At K G 4 [(0, .ref (K.2.1 x0)), (1, .int x1), (2, .int x2)] [] h) → ∀ (x1 : Int32) (x2 : Int32) (h : HH), fX0_deepOnes_L4 x0 self4 x1 x2 h = some (rv, hv) → At K G 4 [(0, .ref (K.2.1 x0)), (1, .int x1), (2, .int x2)] [] h := by
  intro self4 Hself4 x1 x2 h hf
  unfold fX0_deepOnes_L4 at hf
  refine A_iload_n C dX0_deepOnes_4 (i := 2) rfl 2 rfl 5 rfl ?_
  refine A_aload_n C dX0_deepOnes_5 (i := 0) rfl 0 rfl 6 rfl ?_
  refine gfRX0_49 C kx0 dX0_deepOnes_6 9 rfl ?_
  refine A_icmp_gt C dX0_deepOnes_9 32 (by decide) 12 rfl hf (fun c9 hf => ?_) (fun c9 hf => ?_)
  · refine A_iload_n C dX0_deepOnes_32 (i := 1) rfl 1 rfl 33 rfl ?_
    exact A_iret C dX0_deepOnes_33 E hf
  refine A_aload_n C dX0_deepOnes_12 (i := 0) rfl 0 rfl 13 rfl ?_
  refine A_iload_n C dX0_deepOnes_13 (i := 2) rfl 2 rfl 14 rfl ?_
  refine CVz C dX0_deepOnes_14 0 kx0 (by decide) (r := (RX0, TX0, 14)) rfl rfl hf (fun _ _ e => mX0_fitsSigns kx0 e) lkRX0_96 (by decide) (by decide) rfl [] rfl (Nat.le_of_ble_eq_true rfl) 17 rfl (fun r14 h14 hf => ?_)
  refine A_z_eq C dX0_deepOnes_17 26 (by decide) 20 rfl hf (fun c17 hf => ?_) (fun c17 hf => ?_)
  · refine A_iinc (v := (x2 + 1)) C dX0_deepOnes_26 2 rfl rfl [(2, .int (x2 + 1)), (0, .ref (K.2.1 x0)), (1, .int x1)] (lt_nl hnl (by decide)) rfl 29 rfl ?_
    refine A_goto C dX0_deepOnes_29 4 (by decide) ?_
    refine A_sub [1, 2, 0] (lv' := [(0, .ref (K.2.1 x0)), (1, .int x1), (2, .int (x2 + 1))]) rfl ?_
    exact Hself4 _ _ _ hf
  refine A_iload_n C dX0_deepOnes_20 (i := 1) rfl 1 rfl 21 rfl ?_
  refine A_iconst (v := 1) C dX0_deepOnes_21 (by decide) 22 rfl ?_
  refine A_iload_n C dX0_deepOnes_22 (i := 2) rfl 2 rfl 23 rfl ?_
  refine A_ishl C dX0_deepOnes_23 24 rfl ?_
  refine A_ior C dX0_deepOnes_24 25 rfl ?_
  refine A_namI hf (fun y1 hf => ?_)
  refine A_istore_n C dX0_deepOnes_25 (i := 1) rfl [(1, .int y1), (0, .ref (K.2.1 x0)), (2, .int x2)] (lt_nl hnl (by decide)) rfl 26 rfl ?_
  refine A_iinc (v := (x2 + 1)) C dX0_deepOnes_26 2 rfl rfl [(2, .int (x2 + 1)), (1, .int y1), (0, .ref (K.2.1 x0))] (lt_nl hnl (by decide)) rfl 29 rfl ?_
  refine A_goto C dX0_deepOnes_29 4 (by decide) ?_
  refine A_sub [2, 1, 0] (lv' := [(0, .ref (K.2.1 x0)), (1, .int y1), (2, .int (x2 + 1))]) rfl ?_
  exact Hself4 _ _ _ hf
set_option maxRecDepth 20000 in
theorem mX0_deepOnes {K : KX} {x0 : Nat} (k0 : isK 0 x0) {h : HH} {rv : Int32} {hv : HH} (hf : fX0_deepOnes x0 h = some (rv, hv)) : MR K yX0_deepOnes cX0_deepOnes 3 (some .int) 4 [.ref (K.2.1 x0)] h (some (.int rv)) hv := by
  refine MR_of (by decide) (Nat.le_of_ble_eq_true rfl) (fun G C E hnl => ?_)
  have C : Ok K G 4 cX0_deepOnes RX0 := C
  refine (show At K G 0 [(0, .ref (K.2.1 x0))] [] h from ?_)
  unfold fX0_deepOnes at hf
  refine A_iconst (v := 0) C dX0_deepOnes_0 (by decide) 1 rfl ?_
  refine A_istore_n C dX0_deepOnes_1 (i := 1) rfl [(1, .int 0), (0, .ref (K.2.1 x0))] (lt_nl hnl (by decide)) rfl 2 rfl ?_
  refine A_iconst (v := 0) C dX0_deepOnes_2 (by decide) 3 rfl ?_
  refine A_istore_n C dX0_deepOnes_3 (i := 2) rfl [(2, .int 0), (1, .int 0), (0, .ref (K.2.1 x0))] (lt_nl hnl (by decide)) rfl 4 rfl ?_
  refine A_sub [2, 1, 0] (lv' := [(0, .ref (K.2.1 x0)), (1, .int 0), (2, .int 0)]) rfl ?_
  refine lq2_at (wX0_deepOnes_L4 C hnl E k0) FU _ _ _ hf
set_option maxRecDepth 20000 in
theorem mX0_dreadOn {K : KX} {x0 : Nat} {x1 : Int32} {x2 : Int32} (k0 : isK 0 x0) {h : HH} {rv : Int64} {hv : HH} (hf : fX0_dreadOn x0 x1 x2 h = some (rv, hv)) : MR K yX0_dreadOn cX0_dreadOn 3 (some .long) 2 [.ref (K.2.1 x0), .int x1, .int x2] h (some (.long rv)) hv := by
  refine MR_of (by decide) (Nat.le_of_ble_eq_true rfl) (fun G C E hnl => ?_)
  have C : Ok K G 2 cX0_dreadOn RX0 := C
  refine (show At K G 0 [(0, .ref (K.2.1 x0)), (1, .int x1), (2, .int x2)] [] h from ?_)
  unfold fX0_dreadOn at hf
  refine A_aload_n C dX0_dreadOn_0 (i := 0) rfl 0 rfl 1 rfl ?_
  refine gfRX0_26 C k0 dX0_dreadOn_1 4 rfl ?_
  refine A_iload_n C dX0_dreadOn_4 (i := 1) rfl 1 rfl 5 rfl ?_
  refine A_iconst (v := 2) C dX0_dreadOn_5 (by decide) 6 rfl ?_
  refine CVi C dX0_dreadOn_6 7 (of_0_3 k0) (by decide) (r := (RX7, TX7, 4)) rfl rfl hf (fun _ _ e => mX7_at (of_0_3 k0) e) lkRX0_65 (by decide) (by decide) rfl [] rfl (Nat.le_of_ble_eq_true rfl) 9 rfl (fun r6 h6 hf => ?_)
  refine A_i2l C dX0_dreadOn_9 10 rfl ?_
  refine A_iload_n C dX0_dreadOn_10 (i := 2) rfl 2 rfl 11 rfl ?_
  refine A_i2l C dX0_dreadOn_11 12 rfl ?_
  refine A_lmul C dX0_dreadOn_12 13 rfl ?_
  refine A_iload_n C dX0_dreadOn_13 (i := 2) rfl 2 rfl 14 rfl ?_
  refine A_i2l C dX0_dreadOn_14 15 rfl ?_
  refine A_lmul C dX0_dreadOn_15 16 rfl ?_
  exact A_lret C dX0_dreadOn_16 E hf
set_option maxRecDepth 20000 in
theorem mX0_gainOn {K : KX} {x0 : Nat} {x1 : Int32} {x2 : Int32} (k0 : isK 0 x0) {h : HH} {rv : Int64} {hv : HH} (hf : fX0_gainOn x0 x1 x2 h = some (rv, hv)) : MR K yX0_gainOn cX0_gainOn 3 (some .long) 3 [.ref (K.2.1 x0), .int x1, .int x2] h (some (.long rv)) hv := by
  refine MR_of (by decide) (Nat.le_of_ble_eq_true rfl) (fun G C E hnl => ?_)
  have C : Ok K G 3 cX0_gainOn RX0 := C
  refine (show At K G 0 [(0, .ref (K.2.1 x0)), (1, .int x1), (2, .int x2)] [] h from ?_)
  unfold fX0_gainOn at hf
  refine A_iload_n C dX0_gainOn_0 (i := 2) rfl 2 rfl 1 rfl ?_
  refine A_iconst (v := 1) C dX0_gainOn_1 (by decide) 2 rfl ?_
  refine A_icmp_lt C dX0_gainOn_2 13 (by decide) 5 rfl hf (fun c2 hf => ?_) (fun c2 hf => ?_)
  · refine A_lconst (v := 0) C dX0_gainOn_13 (by decide) 14 rfl ?_
    refine A_goto C dX0_gainOn_14 38 (by decide) ?_
    exact A_lret C dX0_gainOn_38 E hf
  refine A_iload_n C dX0_gainOn_5 (i := 2) rfl 2 rfl 6 rfl ?_
  refine A_aload_n C dX0_gainOn_6 (i := 0) rfl 0 rfl 7 rfl ?_
  refine gfRX0_49 C k0 dX0_gainOn_7 10 rfl ?_
  refine A_icmp_le C dX0_gainOn_10 17 (by decide) 13 rfl hf (fun c10 hf => ?_) (fun c10 hf => ?_)
  · refine A_aload_n C dX0_gainOn_17 (i := 0) rfl 0 rfl 18 rfl ?_
    refine gfRX0_15 C k0 dX0_gainOn_18 21 rfl ?_
    refine A_iload_n C dX0_gainOn_21 (i := 2) rfl 2 rfl 22 rfl ?_
    refine A_iald C dX0_gainOn_22 (of_0_1 k0) hf 23 rfl (fun hf => ?_)
    refine A_i2l C dX0_gainOn_23 24 rfl ?_
    refine A_aload_n C dX0_gainOn_24 (i := 0) rfl 0 rfl 25 rfl ?_
    refine A_iload_n C dX0_gainOn_25 (i := 2) rfl 2 rfl 26 rfl ?_
    refine CVi C dX0_gainOn_26 0 k0 (by decide) (r := (RX0, TX0, 14)) rfl rfl hf (fun _ _ e => mX0_quickOf k0 e) lkRX0_73 (by decide) (by decide) rfl [.long (((gI h (x0 + 2) (ix x2))).toInt64)] rfl (Nat.le_of_ble_eq_true rfl) 29 rfl (fun r26 h26 hf => ?_)
    refine A_i2l C dX0_gainOn_29 30 rfl ?_
    refine A_lmul C dX0_gainOn_30 31 rfl ?_
    refine A_aload_n C dX0_gainOn_31 (i := 0) rfl 0 rfl 32 rfl ?_
    refine A_iload_n C dX0_gainOn_32 (i := 1) rfl 1 rfl 33 rfl ?_
    refine A_iload_n C dX0_gainOn_33 (i := 2) rfl 2 rfl 34 rfl ?_
    refine CVl C dX0_gainOn_34 0 k0 (by decide) (r := (RX0, TX0, 14)) rfl rfl hf (fun _ _ e => mX0_dreadOn k0 e) lkRX0_108 (by decide) (by decide) rfl [.long ((((gI h (x0 + 2) (ix x2))).toInt64) * r26.toInt64)] rfl (Nat.le_of_ble_eq_true rfl) 37 rfl (fun r34 h34 hf => ?_)
    refine A_lsub C dX0_gainOn_37 38 rfl ?_
    exact A_lret C dX0_gainOn_38 E hf
  refine A_lconst (v := 0) C dX0_gainOn_13 (by decide) 14 rfl ?_
  refine A_goto C dX0_gainOn_14 38 (by decide) ?_
  exact A_lret C dX0_gainOn_38 E hf
