set_option maxRecDepth 20000 in
theorem mX2_dueTick {K : KX} {x0 : Nat} {x1 : Nat} {x2 : Int32} (k0 : isK 2 x0) (k1 : isK 0 x1) {h : HH} {rv : Int64} {hv : HH} (hf : fX2_dueTick x0 x1 x2 h = some (rv, hv)) : MR K yX2_dueTick cX2_dueTick 4 (some .long) 3 [.ref (K.2.1 x0), .ref (K.2.1 x1), .int x2] h (some (.long rv)) hv := by
  refine MR_of (by decide) (Nat.le_of_ble_eq_true rfl) (fun G C E hnl => ?_)
  have C : Ok K G 3 cX2_dueTick RX2 := C
  refine (show At K G 0 [(0, .ref (K.2.1 x0)), (1, .ref (K.2.1 x1)), (2, .int x2)] [] h from ?_)
  unfold fX2_dueTick at hf
  refine A_aload_n C dX2_dueTick_0 (i := 1) rfl 1 rfl 1 rfl ?_
  refine A_iload_n C dX2_dueTick_1 (i := 2) rfl 2 rfl 2 rfl ?_
  refine A_aload_n C dX2_dueTick_2 (i := 0) rfl 0 rfl 3 rfl ?_
  refine gfRX2_18 C k0 dX2_dueTick_3 6 rfl ?_
  refine A_iload_n C dX2_dueTick_6 (i := 2) rfl 2 rfl 7 rfl ?_
  refine A_iald C dX2_dueTick_7 (of_2_2 k0) hf 8 rfl (fun hf => ?_)
  refine CVi C dX2_dueTick_8 0 k1 (by decide) (r := (RX0, TX0, 14)) rfl rfl hf (fun _ _ e => mX0_stepOf k1 e) lkRX2_77 (by decide) (by decide) rfl [] rfl (Nat.le_of_ble_eq_true rfl) 11 rfl (fun r8 h8 hf => ?_)
  refine A_istore_n C dX2_dueTick_11 (i := 3) rfl [(3, .int r8), (0, .ref (K.2.1 x0)), (1, .ref (K.2.1 x1)), (2, .int x2)] (lt_nl hnl (by decide)) rfl 12 rfl ?_
  refine A_iload_n C dX2_dueTick_12 (i := 3) rfl 0 rfl 13 rfl ?_
  refine A_if_ge C dX2_dueTick_13 22 (by decide) 16 rfl hf (fun c13 hf => ?_) (fun c13 hf => ?_)
  · refine A_aload_n C dX2_dueTick_22 (i := 0) rfl 1 rfl 23 rfl ?_
    refine gfRX2_24 C k0 dX2_dueTick_23 26 rfl ?_
    refine A_iload_n C dX2_dueTick_26 (i := 2) rfl 3 rfl 27 rfl ?_
    refine A_lald C dX2_dueTick_27 (of_2_4 k0) hf 28 rfl (fun hf => ?_)
    refine A_aload_n C dX2_dueTick_28 (i := 1) rfl 2 rfl 29 rfl ?_
    refine gfRX2_81 C k1 dX2_dueTick_29 32 rfl ?_
    refine A_iload_n C dX2_dueTick_32 (i := 3) rfl 0 rfl 33 rfl ?_
    refine A_iconst (v := 2) C dX2_dueTick_33 (by decide) 34 rfl ?_
    refine CVi C dX2_dueTick_34 7 (of_0_4 k1) (by decide) (r := (RX7, TX7, 4)) rfl rfl hf (fun _ _ e => mX7_at (of_0_4 k1) e) lkRX2_84 (by decide) (by decide) rfl [.long (gL h8 (x0 + 5) (ix x2))] rfl (Nat.le_of_ble_eq_true rfl) 37 rfl (fun r34 h34 hf => ?_)
    refine A_i2l C dX2_dueTick_37 38 rfl ?_
    refine A_aload_n C dX2_dueTick_38 (i := 1) rfl 2 rfl 39 rfl ?_
    refine A_aload_n C dX2_dueTick_39 (i := 0) rfl 1 rfl 40 rfl ?_
    refine gfRX2_9 C k0 dX2_dueTick_40 43 rfl ?_
    refine A_iload_n C dX2_dueTick_43 (i := 2) rfl 3 rfl 44 rfl ?_
    refine A_iald C dX2_dueTick_44 (of_2_0 k0) hf 45 rfl (fun hf => ?_)
    refine CVi C dX2_dueTick_45 0 k1 (by decide) (r := (RX0, TX0, 14)) rfl rfl hf (fun _ _ e => mX0_minuteOf k1 e) lkRX2_87 (by decide) (by decide) rfl [.long r34.toInt64, .long (gL h8 (x0 + 5) (ix x2))] rfl (Nat.le_of_ble_eq_true rfl) 48 rfl (fun r45 h45 hf => ?_)
    refine A_i2l C dX2_dueTick_48 49 rfl ?_
    refine A_lmul C dX2_dueTick_49 50 rfl ?_
    refine A_ladd C dX2_dueTick_50 51 rfl ?_
    exact A_lret C dX2_dueTick_51 E hf
  refine A_ldc2 C dX2_dueTick_16 cRX2_46 19 rfl ?_
  refine A_goto C dX2_dueTick_19 51 (by decide) ?_
  exact A_lret C dX2_dueTick_51 E hf
set_option maxRecDepth 20000 in
theorem mX2_comeTo {K : KX} {x0 : Nat} {x1 : Nat} {x2 : Int32} {x3 : Int32} {x4 : Int32} (k0 : isK 2 x0) (k1 : isK 0 x1) {h : HH} {rv : HH} (hf : fX2_comeTo x0 x1 x2 x3 x4 h = some rv) : MR K yX2_comeTo cX2_comeTo 5 none 2 [.ref (K.2.1 x0), .ref (K.2.1 x1), .int x2, .int x3, .int x4] h none rv := by
  refine MR_of (by decide) (Nat.le_of_ble_eq_true rfl) (fun G C E hnl => ?_)
  have C : Ok K G 2 cX2_comeTo RX2 := C
  refine (show At K G 0 [(0, .ref (K.2.1 x0)), (1, .ref (K.2.1 x1)), (2, .int x2), (3, .int x3), (4, .int x4)] [] h from ?_)
  unfold fX2_comeTo at hf
  refine A_aload_n C dX2_comeTo_0 (i := 0) rfl 0 rfl 1 rfl ?_
  refine gfRX2_28 C k0 dX2_comeTo_1 4 rfl ?_
  refine A_iload_n C dX2_comeTo_4 (i := 2) rfl 2 rfl 5 rfl ?_
  refine A_dup2 C dX2_comeTo_5 rfl rfl 6 rfl ?_
  refine A_lald C dX2_comeTo_6 (of_2_5 k0) hf 7 rfl (fun hf => ?_)
  refine A_aload_n C dX2_comeTo_7 (i := 0) rfl 0 rfl 8 rfl ?_
  refine gfRX2_31 C k0 dX2_comeTo_8 11 rfl ?_
  refine A_aload_n C dX2_comeTo_11 (i := 0) rfl 0 rfl 12 rfl ?_
  refine gfRX2_24 C k0 dX2_comeTo_12 15 rfl ?_
  refine A_iload_n C dX2_comeTo_15 (i := 2) rfl 2 rfl 16 rfl ?_
  refine A_lald C dX2_comeTo_16 (of_2_4 k0) hf 17 rfl (fun hf => ?_)
  refine A_lsub C dX2_comeTo_17 18 rfl ?_
  refine A_aload_n C dX2_comeTo_18 (i := 1) rfl 1 rfl 19 rfl ?_
  refine A_aload_n C dX2_comeTo_19 (i := 0) rfl 0 rfl 20 rfl ?_
  refine gfRX2_9 C k0 dX2_comeTo_20 23 rfl ?_
  refine A_iload_n C dX2_comeTo_23 (i := 2) rfl 2 rfl 24 rfl ?_
  refine A_iald C dX2_comeTo_24 (of_2_0 k0) hf 25 rfl (fun hf => ?_)
  refine CVi C dX2_comeTo_25 0 k1 (by decide) (r := (RX0, TX0, 14)) rfl rfl hf (fun _ _ e => mX0_quickOf k1 e) lkRX2_107 (by decide) (by decide) rfl [.long ((gL h x0 6) - (gL h (x0 + 5) (ix x2))), .long (gL h (x0 + 6) (ix x2)), .int x2, .ref (K.2.1 (x0 + 6))] rfl (Nat.le_of_ble_eq_true rfl) 28 rfl (fun r25 h25 hf => ?_)
  refine A_i2l C dX2_comeTo_28 29 rfl ?_
  refine A_lmul C dX2_comeTo_29 30 rfl ?_
  refine A_ladd C dX2_comeTo_30 31 rfl ?_
  refine A_last C dX2_comeTo_31 (of_2_5 k0) hf 32 rfl (fun hf => ?_)
  refine A_namH hf (fun g1 hf => ?_)
  refine A_aload_n C dX2_comeTo_32 (i := 0) rfl 0 rfl 33 rfl ?_
  refine gfRX2_24 C k0 dX2_comeTo_33 36 rfl ?_
  refine A_iload_n C dX2_comeTo_36 (i := 2) rfl 2 rfl 37 rfl ?_
  refine A_aload_n C dX2_comeTo_37 (i := 0) rfl 0 rfl 38 rfl ?_
  refine gfRX2_31 C k0 dX2_comeTo_38 41 rfl ?_
  refine A_last C dX2_comeTo_41 (of_2_4 k0) hf 42 rfl (fun hf => ?_)
  refine A_aload_n C dX2_comeTo_42 (i := 0) rfl 0 rfl 43 rfl ?_
  refine gfRX2_9 C k0 dX2_comeTo_43 46 rfl ?_
  refine A_iload_n C dX2_comeTo_46 (i := 2) rfl 2 rfl 47 rfl ?_
  refine A_iald C dX2_comeTo_47 (of_2_0 k0) hf 48 rfl (fun hf => ?_)
  refine A_if_ne C dX2_comeTo_48 59 (by decide) 51 rfl hf (fun c48 hf => ?_) (fun c48 hf => ?_)
  · refine A_aload_n C dX2_comeTo_59 (i := 0) rfl 0 rfl 60 rfl ?_
    refine gfRX2_9 C k0 dX2_comeTo_60 63 rfl ?_
    refine A_iload_n C dX2_comeTo_63 (i := 2) rfl 2 rfl 64 rfl ?_
    refine A_iconst (v := 0) C dX2_comeTo_64 (by decide) 65 rfl ?_
    refine A_iload_n C dX2_comeTo_65 (i := 3) rfl 3 rfl 66 rfl ?_
    refine A_aload_n C dX2_comeTo_66 (i := 1) rfl 1 rfl 67 rfl ?_
    refine gfRX2_110 C k1 dX2_comeTo_67 70 rfl ?_
    refine A_mmin C dX2_comeTo_70 mlRX2_112 stmmin iniMath commin (by decide) (Nat.le_of_ble_eq_true rfl) 73 rfl ?_
    refine A_mmax C dX2_comeTo_73 mlRX2_114 stmmax iniMath commax (by decide) (Nat.le_of_ble_eq_true rfl) 76 rfl ?_
    refine A_iast C dX2_comeTo_76 (of_2_0 k0) hf 77 rfl (fun hf => ?_)
    refine A_namH hf (fun g2 hf => ?_)
    refine A_aload_n C dX2_comeTo_77 (i := 0) rfl 0 rfl 78 rfl ?_
    refine gfRX2_9 C k0 dX2_comeTo_78 81 rfl ?_
    refine A_iload_n C dX2_comeTo_81 (i := 2) rfl 2 rfl 82 rfl ?_
    refine A_iald C dX2_comeTo_82 (of_2_0 k0) hf 83 rfl (fun hf => ?_)
    refine A_if_ne C dX2_comeTo_83 94 (by decide) 86 rfl hf (fun c83 hf => ?_) (fun c83 hf => ?_)
    · exact A_vret C dX2_comeTo_94 E hf
    refine A_aload_n C dX2_comeTo_86 (i := 0) rfl 0 rfl 87 rfl ?_
    refine gfRX2_15 C k0 dX2_comeTo_87 90 rfl ?_
    refine A_iload_n C dX2_comeTo_90 (i := 2) rfl 2 rfl 91 rfl ?_
    refine A_bipush (v := (-2)) C dX2_comeTo_91 (by decide) 93 rfl ?_
    refine A_iast C dX2_comeTo_93 (of_2_1 k0) hf 94 rfl (fun hf => ?_)
    exact A_vret C dX2_comeTo_94 E hf
  refine A_aload_n C dX2_comeTo_51 (i := 0) rfl 0 rfl 52 rfl ?_
  refine gfRX2_15 C k0 dX2_comeTo_52 55 rfl ?_
  refine A_iload_n C dX2_comeTo_55 (i := 2) rfl 2 rfl 56 rfl ?_
  refine A_iload C dX2_comeTo_56 4 rfl 58 rfl ?_
  refine A_iast C dX2_comeTo_58 (of_2_1 k0) hf 59 rfl (fun hf => ?_)
  refine A_namH hf (fun g3 hf => ?_)
  refine A_aload_n C dX2_comeTo_59 (i := 0) rfl 0 rfl 60 rfl ?_
  refine gfRX2_9 C k0 dX2_comeTo_60 63 rfl ?_
  refine A_iload_n C dX2_comeTo_63 (i := 2) rfl 2 rfl 64 rfl ?_
  refine A_iconst (v := 0) C dX2_comeTo_64 (by decide) 65 rfl ?_
  refine A_iload_n C dX2_comeTo_65 (i := 3) rfl 3 rfl 66 rfl ?_
  refine A_aload_n C dX2_comeTo_66 (i := 1) rfl 1 rfl 67 rfl ?_
  refine gfRX2_110 C k1 dX2_comeTo_67 70 rfl ?_
  refine A_mmin C dX2_comeTo_70 mlRX2_112 stmmin iniMath commin (by decide) (Nat.le_of_ble_eq_true rfl) 73 rfl ?_
  refine A_mmax C dX2_comeTo_73 mlRX2_114 stmmax iniMath commax (by decide) (Nat.le_of_ble_eq_true rfl) 76 rfl ?_
  refine A_iast C dX2_comeTo_76 (of_2_0 k0) hf 77 rfl (fun hf => ?_)
  refine A_aload_n C dX2_comeTo_77 (i := 0) rfl 0 rfl 78 rfl ?_
  refine gfRX2_9 C k0 dX2_comeTo_78 81 rfl ?_
  refine A_iload_n C dX2_comeTo_81 (i := 2) rfl 2 rfl 82 rfl ?_
  refine A_iald C dX2_comeTo_82 (of_2_0 k0) hf 83 rfl (fun hf => ?_)
  refine A_if_ne C dX2_comeTo_83 94 (by decide) 86 rfl hf (fun c83 hf => ?_) (fun c83 hf => ?_)
  · exact A_vret C dX2_comeTo_94 E hf
  refine A_aload_n C dX2_comeTo_86 (i := 0) rfl 0 rfl 87 rfl ?_
  refine gfRX2_15 C k0 dX2_comeTo_87 90 rfl ?_
  refine A_iload_n C dX2_comeTo_90 (i := 2) rfl 2 rfl 91 rfl ?_
  refine A_bipush (v := (-2)) C dX2_comeTo_91 (by decide) 93 rfl ?_
  refine A_iast C dX2_comeTo_93 (of_2_1 k0) hf 94 rfl (fun hf => ?_)
  refine A_namH hf (fun g4 hf => ?_)
  exact A_vret C dX2_comeTo_94 E hf
set_option maxRecDepth 20000 in
theorem mX2_takeStep {K : KX} {x0 : Nat} {x1 : Nat} {x2 : Int32} (k0 : isK 2 x0) (k1 : isK 0 x1) {h : HH} {rv : HH} (hf : fX2_takeStep x0 x1 x2 h = some rv) : MR K yX2_takeStep cX2_takeStep 4 none 3 [.ref (K.2.1 x0), .ref (K.2.1 x1), .int x2] h none rv := by
  refine MR_of (by decide) (Nat.le_of_ble_eq_true rfl) (fun G C E hnl => ?_)
  have C : Ok K G 3 cX2_takeStep RX2 := C
  refine (show At K G 0 [(0, .ref (K.2.1 x0)), (1, .ref (K.2.1 x1)), (2, .int x2)] [] h from ?_)
  unfold fX2_takeStep at hf
  refine A_aload_n C dX2_takeStep_0 (i := 1) rfl 1 rfl 1 rfl ?_
  refine gfRX2_81 C k1 dX2_takeStep_1 4 rfl ?_
  refine A_aload_n C dX2_takeStep_4 (i := 1) rfl 1 rfl 5 rfl ?_
  refine A_iload_n C dX2_takeStep_5 (i := 2) rfl 2 rfl 6 rfl ?_
  refine A_aload_n C dX2_takeStep_6 (i := 0) rfl 0 rfl 7 rfl ?_
  refine gfRX2_18 C k0 dX2_takeStep_7 10 rfl ?_
  refine A_iload_n C dX2_takeStep_10 (i := 2) rfl 2 rfl 11 rfl ?_
  refine A_iald C dX2_takeStep_11 (of_2_2 k0) hf 12 rfl (fun hf => ?_)
  refine CVi C dX2_takeStep_12 0 k1 (by decide) (r := (RX0, TX0, 14)) rfl rfl hf (fun _ _ e => mX0_stepOf k1 e) lkRX2_77 (by decide) (by decide) rfl [.ref (K.2.1 (x1 + 6))] rfl (Nat.le_of_ble_eq_true rfl) 15 rfl (fun r12 h12 hf => ?_)
  refine A_iconst (v := 1) C dX2_takeStep_15 (by decide) 16 rfl ?_
  refine CVi C dX2_takeStep_16 7 (of_0_4 k1) (by decide) (r := (RX7, TX7, 4)) rfl rfl hf (fun _ _ e => mX7_at (of_0_4 k1) e) lkRX2_84 (by decide) (by decide) rfl [] rfl (Nat.le_of_ble_eq_true rfl) 19 rfl (fun r16 h16 hf => ?_)
  refine A_istore_n C dX2_takeStep_19 (i := 3) rfl [(3, .int r16), (0, .ref (K.2.1 x0)), (1, .ref (K.2.1 x1)), (2, .int x2)] (lt_nl hnl (by decide)) rfl 20 rfl ?_
  refine A_aload_n C dX2_takeStep_20 (i := 0) rfl 1 rfl 21 rfl ?_
  refine gfRX2_18 C k0 dX2_takeStep_21 24 rfl ?_
  refine A_iload_n C dX2_takeStep_24 (i := 2) rfl 3 rfl 25 rfl ?_
  refine A_dup2 C dX2_takeStep_25 rfl rfl 26 rfl ?_
  refine A_iald C dX2_takeStep_26 (of_2_2 k0) hf 27 rfl (fun hf => ?_)
  refine A_iconst (v := 1) C dX2_takeStep_27 (by decide) 28 rfl ?_
  refine A_iadd C dX2_takeStep_28 29 rfl ?_
  refine A_iast C dX2_takeStep_29 (of_2_2 k0) hf 30 rfl (fun hf => ?_)
  refine A_aload_n C dX2_takeStep_30 (i := 0) rfl 1 rfl 31 rfl ?_
  refine A_aload_n C dX2_takeStep_31 (i := 1) rfl 2 rfl 32 rfl ?_
  refine A_iload_n C dX2_takeStep_32 (i := 2) rfl 3 rfl 33 rfl ?_
  refine A_iload_n C dX2_takeStep_33 (i := 3) rfl 0 rfl 34 rfl ?_
  refine A_iconst (v := (-1)) C dX2_takeStep_34 (by decide) 35 rfl ?_
  refine A_icmp_ne C dX2_takeStep_35 49 (by decide) 38 rfl hf (fun c35 hf => ?_) (fun c35 hf => ?_)
  · refine A_aload_n C dX2_takeStep_49 (i := 0) rfl 1 rfl 50 rfl ?_
    refine gfRX2_9 C k0 dX2_takeStep_50 53 rfl ?_
    refine A_iload_n C dX2_takeStep_53 (i := 2) rfl 3 rfl 54 rfl ?_
    refine A_iald C dX2_takeStep_54 (of_2_0 k0) hf 55 rfl (fun hf => ?_)
    refine A_iconst (v := 1) C dX2_takeStep_55 (by decide) 56 rfl ?_
    refine A_iadd C dX2_takeStep_56 57 rfl ?_
    refine A_iload_n C dX2_takeStep_57 (i := 3) rfl 0 rfl 58 rfl ?_
    refine CVv C dX2_takeStep_58 2 k0 (by decide) (r := (RX2, TX2, 7)) rfl rfl hf (fun _ e => mX2_comeTo k0 k1 e) lkRX2_99 (by decide) (by decide) rfl [] rfl (Nat.le_of_ble_eq_true rfl) 61 rfl (fun h58 hf => ?_)
    exact A_vret C dX2_takeStep_61 E hf
  refine A_aload_n C dX2_takeStep_38 (i := 0) rfl 1 rfl 39 rfl ?_
  refine gfRX2_9 C k0 dX2_takeStep_39 42 rfl ?_
  refine A_iload_n C dX2_takeStep_42 (i := 2) rfl 3 rfl 43 rfl ?_
  refine A_iald C dX2_takeStep_43 (of_2_0 k0) hf 44 rfl (fun hf => ?_)
  refine A_iconst (v := 1) C dX2_takeStep_44 (by decide) 45 rfl ?_
  refine A_isub C dX2_takeStep_45 46 rfl ?_
  refine A_goto C dX2_takeStep_46 57 (by decide) ?_
  refine A_iload_n C dX2_takeStep_57 (i := 3) rfl 0 rfl 58 rfl ?_
  refine CVv C dX2_takeStep_58 2 k0 (by decide) (r := (RX2, TX2, 7)) rfl rfl hf (fun _ e => mX2_comeTo k0 k1 e) lkRX2_99 (by decide) (by decide) rfl [] rfl (Nat.le_of_ble_eq_true rfl) 61 rfl (fun h58 hf => ?_)
  exact A_vret C dX2_takeStep_61 E hf
set_option maxRecDepth 20000 in
theorem wX2_takeDueSteps_L15 {K : KX} {G : GX} (C : Ok K G 4 cX2_takeDueSteps RX2) (hnl : G.2.2.2.2.2.2.2.2.2.2.2.2.2 = 4) {rv : HH} (E : Endd K G none none rv) {x0 : Nat} {x1 : Nat} {x2 : Int32} {k15_47 : HH → Option (HH)}  (Hk15_47 : ∀  (h : HH), k15_47  h = some rv → At K G 47 [(0, .ref (K.2.1 x0)), (1, .ref (K.2.1 x1)), (2, .int x2)] [] h) (kx0 : isK 2 x0) (kx1 : isK 0 x1) : ∀ (self15 : Int32 → HH → Option (HH)), (∀ (x3 : Int32) (h : HH), self15 x3 h = some rv → At K G 15 [(0, .ref (K.2.1 x0)), (1, .ref (K.2.1 x1)), (2, .int x2), (3, .int x3)] [] h) → ∀ (x3 : Int32) (h : HH), fX2_takeDueSteps_L15 k15_47 x0 x1 x2 self15 x3 h = some rv → At K G 15 [(0, .ref (K.2.1 x0)), (1, .ref (K.2.1 x1)), (2, .int x2), (3, .int x3)] [] h := by
  intro self15 Hself15 x3 h hf
  unfold fX2_takeDueSteps_L15 at hf
  refine A_iload_n C dX2_takeDueSteps_15 (i := 3) rfl 3 rfl 16 rfl ?_
  refine A_bipush (v := 20) C dX2_takeDueSteps_16 (by decide) 18 rfl ?_
  refine A_icmp_ge C dX2_takeDueSteps_18 47 (by decide) 21 rfl hf (fun c18 hf => ?_) (fun c18 hf => ?_)
  · refine A_sub [0, 1, 2] (lv' := [(0, .ref (K.2.1 x0)), (1, .ref (K.2.1 x1)), (2, .int x2)]) rfl ?_
    exact Hk15_47 _ hf
  refine A_aload_n C dX2_takeDueSteps_21 (i := 0) rfl 0 rfl 22 rfl ?_
  refine A_aload_n C dX2_takeDueSteps_22 (i := 1) rfl 1 rfl 23 rfl ?_
  refine A_iload_n C dX2_takeDueSteps_23 (i := 2) rfl 2 rfl 24 rfl ?_
  refine CVl C dX2_takeDueSteps_24 2 kx0 (by decide) (r := (RX2, TX2, 7)) rfl rfl hf (fun _ _ e => mX2_dueTick kx0 kx1 e) lkRX2_60 (by decide) (by decide) rfl [] rfl (Nat.le_of_ble_eq_true rfl) 27 rfl (fun r24 h24 hf => ?_)
  refine A_aload_n C dX2_takeDueSteps_27 (i := 0) rfl 0 rfl 28 rfl ?_
  refine gfRX2_31 C kx0 dX2_takeDueSteps_28 31 rfl ?_
  refine A_l_gt C dX2_takeDueSteps_31 dX2_takeDueSteps_32 47 (by decide) 35 rfl hf (fun c31 hf => ?_) (fun c31 hf => ?_)
  · refine A_sub [0, 1, 2] (lv' := [(0, .ref (K.2.1 x0)), (1, .ref (K.2.1 x1)), (2, .int x2)]) rfl ?_
    exact Hk15_47 _ hf
  refine A_aload_n C dX2_takeDueSteps_35 (i := 0) rfl 0 rfl 36 rfl ?_
  refine A_aload_n C dX2_takeDueSteps_36 (i := 1) rfl 1 rfl 37 rfl ?_
  refine A_iload_n C dX2_takeDueSteps_37 (i := 2) rfl 2 rfl 38 rfl ?_
  refine CVv C dX2_takeDueSteps_38 2 kx0 (by decide) (r := (RX2, TX2, 7)) rfl rfl hf (fun _ e => mX2_takeStep kx0 kx1 e) lkRX2_103 (by decide) (by decide) rfl [] rfl (Nat.le_of_ble_eq_true rfl) 41 rfl (fun h38 hf => ?_)
  refine A_iinc (v := (x3 + 1)) C dX2_takeDueSteps_41 3 rfl rfl [(3, .int (x3 + 1)), (0, .ref (K.2.1 x0)), (1, .ref (K.2.1 x1)), (2, .int x2)] (lt_nl hnl (by decide)) rfl 44 rfl ?_
  refine A_goto C dX2_takeDueSteps_44 15 (by decide) ?_
  refine A_sub [1, 2, 3, 0] (lv' := [(0, .ref (K.2.1 x0)), (1, .ref (K.2.1 x1)), (2, .int x2), (3, .int (x3 + 1))]) rfl ?_
  exact Hself15 _ _ hf
set_option maxRecDepth 20000 in
theorem wX2_takeDueSteps_L2 {K : KX} {G : GX} (C : Ok K G 4 cX2_takeDueSteps RX2) (hnl : G.2.2.2.2.2.2.2.2.2.2.2.2.2 = 4) {rv : HH} (E : Endd K G none none rv) {x0 : Nat} {x1 : Nat}   (kx0 : isK 2 x0) (kx1 : isK 0 x1) : ∀ (self2 : Int32 → HH → Option (HH)), (∀ (x2 : Int32) (h : HH), self2 x2 h = some rv → At K G 2 [(0, .ref (K.2.1 x0)), (1, .ref (K.2.1 x1)), (2, .int x2)] [] h) → ∀ (x2 : Int32) (h : HH), fX2_takeDueSteps_L2 x0 x1 self2 x2 h = some rv → At K G 2 [(0, .ref (K.2.1 x0)), (1, .ref (K.2.1 x1)), (2, .int x2)] [] h := by
  intro self2 Hself2 x2 h hf
  unfold fX2_takeDueSteps_L2 at hf
  refine A_iload_n C dX2_takeDueSteps_2 (i := 2) rfl 2 rfl 3 rfl ?_
  refine A_aload_n C dX2_takeDueSteps_3 (i := 1) rfl 1 rfl 4 rfl ?_
  refine gfRX2_48 C kx1 dX2_takeDueSteps_4 7 rfl ?_
  refine gfRX2_54 C (of_0_3 kx1) dX2_takeDueSteps_7 10 rfl ?_
  refine A_icmp_ge C dX2_takeDueSteps_10 53 (by decide) 13 rfl hf (fun c10 hf => ?_) (fun c10 hf => ?_)
  · exact A_vret C dX2_takeDueSteps_53 E hf
  refine A_iconst (v := 0) C dX2_takeDueSteps_13 (by decide) 14 rfl ?_
  refine A_istore_n C dX2_takeDueSteps_14 (i := 3) rfl [(3, .int 0), (0, .ref (K.2.1 x0)), (1, .ref (K.2.1 x1)), (2, .int x2)] (lt_nl hnl (by decide)) rfl 15 rfl ?_
  refine A_sub [1, 2, 3, 0] (lv' := [(0, .ref (K.2.1 x0)), (1, .ref (K.2.1 x1)), (2, .int x2), (3, .int 0)]) rfl ?_
  refine lq1_at (wX2_takeDueSteps_L15 C hnl E (fun  h hf => ?_) kx0 kx1) FU _ _ hf
  refine A_iinc (v := (x2 + 1)) C dX2_takeDueSteps_47 2 rfl rfl [(2, .int (x2 + 1)), (0, .ref (K.2.1 x0)), (1, .ref (K.2.1 x1))] (lt_nl hnl (by decide)) rfl 50 rfl ?_
  refine A_goto C dX2_takeDueSteps_50 2 (by decide) ?_
  refine A_sub [1, 2, 0] (lv' := [(0, .ref (K.2.1 x0)), (1, .ref (K.2.1 x1)), (2, .int (x2 + 1))]) rfl ?_
  exact Hself2 _ _ hf
set_option maxRecDepth 20000 in
theorem mX2_takeDueSteps {K : KX} {x0 : Nat} {x1 : Nat} (k0 : isK 2 x0) (k1 : isK 0 x1) {h : HH} {rv : HH} (hf : fX2_takeDueSteps x0 x1 h = some rv) : MR K yX2_takeDueSteps cX2_takeDueSteps 4 none 4 [.ref (K.2.1 x0), .ref (K.2.1 x1)] h none rv := by
  refine MR_of (by decide) (Nat.le_of_ble_eq_true rfl) (fun G C E hnl => ?_)
  have C : Ok K G 4 cX2_takeDueSteps RX2 := C
  refine (show At K G 0 [(0, .ref (K.2.1 x0)), (1, .ref (K.2.1 x1))] [] h from ?_)
  unfold fX2_takeDueSteps at hf
  refine A_iconst (v := 0) C dX2_takeDueSteps_0 (by decide) 1 rfl ?_
  refine A_istore_n C dX2_takeDueSteps_1 (i := 2) rfl [(2, .int 0), (0, .ref (K.2.1 x0)), (1, .ref (K.2.1 x1))] (lt_nl hnl (by decide)) rfl 2 rfl ?_
  refine A_sub [1, 2, 0] (lv' := [(0, .ref (K.2.1 x0)), (1, .ref (K.2.1 x1)), (2, .int 0)]) rfl ?_
  refine lq1_at (wX2_takeDueSteps_L2 C hnl E k0 k1) FU _ _ hf
set_option maxRecDepth 20000 in
theorem wX2_begin_L7 {K : KX} {G : GX} (C : Ok K G 5 cX2_begin RX2) (hnl : G.2.2.2.2.2.2.2.2.2.2.2.2.2 = 3) {rv : HH} (E : Endd K G none none rv) {x0 : Nat} {x1 : Nat}   (kx0 : isK 2 x0) (kx1 : isK 0 x1) : ∀ (self7 : Int32 → HH → Option (HH)), (∀ (x2 : Int32) (h : HH), self7 x2 h = some rv → At K G 7 [(0, .ref (K.2.1 x0)), (1, .ref (K.2.1 x1)), (2, .int x2)] [] h) → ∀ (x2 : Int32) (h : HH), fX2_begin_L7 x0 x1 self7 x2 h = some rv → At K G 7 [(0, .ref (K.2.1 x0)), (1, .ref (K.2.1 x1)), (2, .int x2)] [] h := by
  intro self7 Hself7 x2 h hf
  unfold fX2_begin_L7 at hf
  refine A_iload_n C dX2_begin_7 (i := 2) rfl 2 rfl 8 rfl ?_
  refine A_iconst (v := 5) C dX2_begin_8 (by decide) 9 rfl ?_
  refine A_icmp_ge C dX2_begin_9 61 (by decide) 12 rfl hf (fun c9 hf => ?_) (fun c9 hf => ?_)
  · refine A_aload_n C dX2_begin_61 (i := 0) rfl 0 rfl 62 rfl ?_
    refine A_aload_n C dX2_begin_62 (i := 1) rfl 1 rfl 63 rfl ?_
    refine CVv C dX2_begin_63 2 kx0 (by decide) (r := (RX2, TX2, 7)) rfl rfl hf (fun _ e => mX2_takeDueSteps kx0 kx1 e) lkRX2_35 (by decide) (by decide) rfl [] rfl (Nat.le_of_ble_eq_true rfl) 66 rfl (fun h63 hf => ?_)
    exact A_vret C dX2_begin_66 E hf
  refine A_aload_n C dX2_begin_12 (i := 0) rfl 0 rfl 13 rfl ?_
  refine gfRX2_9 C kx0 dX2_begin_13 16 rfl ?_
  refine A_iload_n C dX2_begin_16 (i := 2) rfl 2 rfl 17 rfl ?_
  refine A_iconst (v := 0) C dX2_begin_17 (by decide) 18 rfl ?_
  refine A_iast C dX2_begin_18 (of_2_0 kx0) hf 19 rfl (fun hf => ?_)
  refine A_aload_n C dX2_begin_19 (i := 0) rfl 0 rfl 20 rfl ?_
  refine gfRX2_15 C kx0 dX2_begin_20 23 rfl ?_
  refine A_iload_n C dX2_begin_23 (i := 2) rfl 2 rfl 24 rfl ?_
  refine A_bipush (v := (-2)) C dX2_begin_24 (by decide) 26 rfl ?_
  refine A_iast C dX2_begin_26 (of_2_1 kx0) hf 27 rfl (fun hf => ?_)
  refine A_namH hf (fun g1 hf => ?_)
  refine A_aload_n C dX2_begin_27 (i := 0) rfl 0 rfl 28 rfl ?_
  refine gfRX2_18 C kx0 dX2_begin_28 31 rfl ?_
  refine A_iload_n C dX2_begin_31 (i := 2) rfl 2 rfl 32 rfl ?_
  refine A_iconst (v := 0) C dX2_begin_32 (by decide) 33 rfl ?_
  refine A_iast C dX2_begin_33 (of_2_2 kx0) hf 34 rfl (fun hf => ?_)
  refine A_aload_n C dX2_begin_34 (i := 0) rfl 0 rfl 35 rfl ?_
  refine gfRX2_21 C kx0 dX2_begin_35 38 rfl ?_
  refine A_iload_n C dX2_begin_38 (i := 2) rfl 2 rfl 39 rfl ?_
  refine A_iconst (v := 0) C dX2_begin_39 (by decide) 40 rfl ?_
  refine A_iast C dX2_begin_40 (of_2_3 kx0) hf 41 rfl (fun hf => ?_)
  refine A_namH hf (fun g2 hf => ?_)
  refine A_aload_n C dX2_begin_41 (i := 0) rfl 0 rfl 42 rfl ?_
  refine gfRX2_24 C kx0 dX2_begin_42 45 rfl ?_
  refine A_iload_n C dX2_begin_45 (i := 2) rfl 2 rfl 46 rfl ?_
  refine A_lconst (v := 0) C dX2_begin_46 (by decide) 47 rfl ?_
  refine A_last C dX2_begin_47 (of_2_4 kx0) hf 48 rfl (fun hf => ?_)
  refine A_aload_n C dX2_begin_48 (i := 0) rfl 0 rfl 49 rfl ?_
  refine gfRX2_28 C kx0 dX2_begin_49 52 rfl ?_
  refine A_iload_n C dX2_begin_52 (i := 2) rfl 2 rfl 53 rfl ?_
  refine A_lconst (v := 0) C dX2_begin_53 (by decide) 54 rfl ?_
  refine A_last C dX2_begin_54 (of_2_5 kx0) hf 55 rfl (fun hf => ?_)
  refine A_namH hf (fun g3 hf => ?_)
  refine A_iinc (v := (x2 + 1)) C dX2_begin_55 2 rfl rfl [(2, .int (x2 + 1)), (0, .ref (K.2.1 x0)), (1, .ref (K.2.1 x1))] (lt_nl hnl (by decide)) rfl 58 rfl ?_
  refine A_goto C dX2_begin_58 7 (by decide) ?_
  refine A_sub [1, 2, 0] (lv' := [(0, .ref (K.2.1 x0)), (1, .ref (K.2.1 x1)), (2, .int (x2 + 1))]) rfl ?_
  exact Hself7 _ _ hf
set_option maxRecDepth 20000 in
theorem mX2_begin {K : KX} {x0 : Nat} {x1 : Nat} (k0 : isK 2 x0) (k1 : isK 0 x1) {h : HH} {rv : HH} (hf : fX2_begin x0 x1 h = some rv) : MR K yX2_begin cX2_begin 3 none 5 [.ref (K.2.1 x0), .ref (K.2.1 x1)] h none rv := by
  refine MR_of (by decide) (Nat.le_of_ble_eq_true rfl) (fun G C E hnl => ?_)
  have C : Ok K G 5 cX2_begin RX2 := C
  refine (show At K G 0 [(0, .ref (K.2.1 x0)), (1, .ref (K.2.1 x1))] [] h from ?_)
  unfold fX2_begin at hf
  refine A_aload_n C dX2_begin_0 (i := 0) rfl 0 rfl 1 rfl ?_
  refine A_lconst (v := 0) C dX2_begin_1 (by decide) 2 rfl ?_
  refine pfRX2_31 C k0 dX2_begin_2 5 rfl ?_
  refine A_iconst (v := 0) C dX2_begin_5 (by decide) 6 rfl ?_
  refine A_istore_n C dX2_begin_6 (i := 2) rfl [(2, .int 0), (0, .ref (K.2.1 x0)), (1, .ref (K.2.1 x1))] (lt_nl hnl (by decide)) rfl 7 rfl ?_
  refine A_sub [1, 2, 0] (lv' := [(0, .ref (K.2.1 x0)), (1, .ref (K.2.1 x1)), (2, .int 0)]) rfl ?_
  refine lq1_at (wX2_begin_L7 C hnl E k0 k1) FU _ _ hf
set_option maxRecDepth 20000 in
theorem wX2_copyFrom_L10 {K : KX} {G : GX} (C : Ok K G 1 cX2_copyFrom RX2) (hnl : G.2.2.2.2.2.2.2.2.2.2.2.2.2 = 3) {rv : HH} (E : Endd K G none none rv) {x0 : Nat} {x1 : Nat}   (kx0 : isK 2 x0) (kx1 : isK 2 x1) : ∀ (self10 : Int32 → HH → Option (HH)), (∀ (x2 : Int32) (h : HH), self10 x2 h = some rv → At K G 10 [(0, .ref (K.2.1 x0)), (1, .ref (K.2.1 x1)), (2, .int x2)] [] h) → ∀ (x2 : Int32) (h : HH), fX2_copyFrom_L10 x0 x1 self10 x2 h = some rv → At K G 10 [(0, .ref (K.2.1 x0)), (1, .ref (K.2.1 x1)), (2, .int x2)] [] h := by
  intro self10 Hself10 x2 h hf
  unfold fX2_copyFrom_L10 at hf
  refine A_iload_n C dX2_copyFrom_10 (i := 2) rfl 2 rfl 11 rfl ?_
  refine A_iconst (v := 5) C dX2_copyFrom_11 (by decide) 12 rfl ?_
  refine A_icmp_ge C dX2_copyFrom_12 93 (by decide) 15 rfl hf (fun c12 hf => ?_) (fun c12 hf => ?_)
  · exact A_vret C dX2_copyFrom_93 E hf
  refine A_aload_n C dX2_copyFrom_15 (i := 0) rfl 0 rfl 16 rfl ?_
  refine gfRX2_9 C kx0 dX2_copyFrom_16 19 rfl ?_
  refine A_iload_n C dX2_copyFrom_19 (i := 2) rfl 2 rfl 20 rfl ?_
  refine A_aload_n C dX2_copyFrom_20 (i := 1) rfl 1 rfl 21 rfl ?_
  refine gfRX2_9 C kx1 dX2_copyFrom_21 24 rfl ?_
  refine A_iload_n C dX2_copyFrom_24 (i := 2) rfl 2 rfl 25 rfl ?_
  refine A_iald C dX2_copyFrom_25 (of_2_0 kx1) hf 26 rfl (fun hf => ?_)
  refine A_iast C dX2_copyFrom_26 (of_2_0 kx0) hf 27 rfl (fun hf => ?_)
  refine A_aload_n C dX2_copyFrom_27 (i := 0) rfl 0 rfl 28 rfl ?_
  refine gfRX2_15 C kx0 dX2_copyFrom_28 31 rfl ?_
  refine A_iload_n C dX2_copyFrom_31 (i := 2) rfl 2 rfl 32 rfl ?_
  refine A_aload_n C dX2_copyFrom_32 (i := 1) rfl 1 rfl 33 rfl ?_
  refine gfRX2_15 C kx1 dX2_copyFrom_33 36 rfl ?_
  refine A_iload_n C dX2_copyFrom_36 (i := 2) rfl 2 rfl 37 rfl ?_
  refine A_iald C dX2_copyFrom_37 (of_2_1 kx1) hf 38 rfl (fun hf => ?_)
  refine A_iast C dX2_copyFrom_38 (of_2_1 kx0) hf 39 rfl (fun hf => ?_)
  refine A_namH hf (fun g1 hf => ?_)
  refine A_aload_n C dX2_copyFrom_39 (i := 0) rfl 0 rfl 40 rfl ?_
  refine gfRX2_18 C kx0 dX2_copyFrom_40 43 rfl ?_
  refine A_iload_n C dX2_copyFrom_43 (i := 2) rfl 2 rfl 44 rfl ?_
  refine A_aload_n C dX2_copyFrom_44 (i := 1) rfl 1 rfl 45 rfl ?_
  refine gfRX2_18 C kx1 dX2_copyFrom_45 48 rfl ?_
  refine A_iload_n C dX2_copyFrom_48 (i := 2) rfl 2 rfl 49 rfl ?_
  refine A_iald C dX2_copyFrom_49 (of_2_2 kx1) hf 50 rfl (fun hf => ?_)
  refine A_iast C dX2_copyFrom_50 (of_2_2 kx0) hf 51 rfl (fun hf => ?_)
  refine A_aload_n C dX2_copyFrom_51 (i := 0) rfl 0 rfl 52 rfl ?_
  refine gfRX2_21 C kx0 dX2_copyFrom_52 55 rfl ?_
  refine A_iload_n C dX2_copyFrom_55 (i := 2) rfl 2 rfl 56 rfl ?_
  refine A_aload_n C dX2_copyFrom_56 (i := 1) rfl 1 rfl 57 rfl ?_
  refine gfRX2_21 C kx1 dX2_copyFrom_57 60 rfl ?_
  refine A_iload_n C dX2_copyFrom_60 (i := 2) rfl 2 rfl 61 rfl ?_
  refine A_iald C dX2_copyFrom_61 (of_2_3 kx1) hf 62 rfl (fun hf => ?_)
  refine A_iast C dX2_copyFrom_62 (of_2_3 kx0) hf 63 rfl (fun hf => ?_)
  refine A_namH hf (fun g2 hf => ?_)
  refine A_aload_n C dX2_copyFrom_63 (i := 0) rfl 0 rfl 64 rfl ?_
  refine gfRX2_24 C kx0 dX2_copyFrom_64 67 rfl ?_
  refine A_iload_n C dX2_copyFrom_67 (i := 2) rfl 2 rfl 68 rfl ?_
  refine A_aload_n C dX2_copyFrom_68 (i := 1) rfl 1 rfl 69 rfl ?_
  refine gfRX2_24 C kx1 dX2_copyFrom_69 72 rfl ?_
  refine A_iload_n C dX2_copyFrom_72 (i := 2) rfl 2 rfl 73 rfl ?_
  refine A_lald C dX2_copyFrom_73 (of_2_4 kx1) hf 74 rfl (fun hf => ?_)
  refine A_last C dX2_copyFrom_74 (of_2_4 kx0) hf 75 rfl (fun hf => ?_)
  refine A_aload_n C dX2_copyFrom_75 (i := 0) rfl 0 rfl 76 rfl ?_
  refine gfRX2_28 C kx0 dX2_copyFrom_76 79 rfl ?_
  refine A_iload_n C dX2_copyFrom_79 (i := 2) rfl 2 rfl 80 rfl ?_
  refine A_aload_n C dX2_copyFrom_80 (i := 1) rfl 1 rfl 81 rfl ?_
  refine gfRX2_28 C kx1 dX2_copyFrom_81 84 rfl ?_
  refine A_iload_n C dX2_copyFrom_84 (i := 2) rfl 2 rfl 85 rfl ?_
  refine A_lald C dX2_copyFrom_85 (of_2_5 kx1) hf 86 rfl (fun hf => ?_)
  refine A_last C dX2_copyFrom_86 (of_2_5 kx0) hf 87 rfl (fun hf => ?_)
  refine A_namH hf (fun g3 hf => ?_)
  refine A_iinc (v := (x2 + 1)) C dX2_copyFrom_87 2 rfl rfl [(2, .int (x2 + 1)), (0, .ref (K.2.1 x0)), (1, .ref (K.2.1 x1))] (lt_nl hnl (by decide)) rfl 90 rfl ?_
  refine A_goto C dX2_copyFrom_90 10 (by decide) ?_
  refine A_sub [1, 2, 0] (lv' := [(0, .ref (K.2.1 x0)), (1, .ref (K.2.1 x1)), (2, .int (x2 + 1))]) rfl ?_
  exact Hself10 _ _ hf
set_option maxRecDepth 20000 in
theorem mX2_copyFrom {K : KX} {x0 : Nat} {x1 : Nat} (k0 : isK 2 x0) (k1 : isK 2 x1) {h : HH} {rv : HH} (hf : fX2_copyFrom x0 x1 h = some rv) : MR K yX2_copyFrom cX2_copyFrom 3 none 1 [.ref (K.2.1 x0), .ref (K.2.1 x1)] h none rv := by
  refine MR_of (by decide) (Nat.le_of_ble_eq_true rfl) (fun G C E hnl => ?_)
  have C : Ok K G 1 cX2_copyFrom RX2 := C
  refine (show At K G 0 [(0, .ref (K.2.1 x0)), (1, .ref (K.2.1 x1))] [] h from ?_)
  unfold fX2_copyFrom at hf
  refine A_aload_n C dX2_copyFrom_0 (i := 0) rfl 0 rfl 1 rfl ?_
  refine A_aload_n C dX2_copyFrom_1 (i := 1) rfl 1 rfl 2 rfl ?_
  refine gfRX2_31 C k1 dX2_copyFrom_2 5 rfl ?_
  refine pfRX2_31 C k0 dX2_copyFrom_5 8 rfl ?_
  refine A_iconst (v := 0) C dX2_copyFrom_8 (by decide) 9 rfl ?_
  refine A_istore_n C dX2_copyFrom_9 (i := 2) rfl [(2, .int 0), (0, .ref (K.2.1 x0)), (1, .ref (K.2.1 x1))] (lt_nl hnl (by decide)) rfl 10 rfl ?_
  refine A_sub [1, 2, 0] (lv' := [(0, .ref (K.2.1 x0)), (1, .ref (K.2.1 x1)), (2, .int 0)]) rfl ?_
  refine lq1_at (wX2_copyFrom_L10 C hnl E k0 k1) FU _ _ hf
set_option maxRecDepth 20000 in
theorem wX2_nextChange_L7 {K : KX} {G : GX} (C : Ok K G 4 cX2_nextChange RX2) (hnl : G.2.2.2.2.2.2.2.2.2.2.2.2.2 = 7) {rv : Int64} {hv : HH} (E : Endd K G (some .long) (some (.long rv)) hv) {x0 : Nat} {x1 : Nat} {k7_37 : Int64 → HH → Option (Int64 × HH)}  (Hk7_37 : ∀ (x2 : Int64) (h : HH), k7_37 x2 h = some (rv, hv) → At K G 37 [(0, .ref (K.2.1 x0)), (1, .ref (K.2.1 x1)), (2, .long x2)] [] h) (kx0 : isK 2 x0) (kx1 : isK 0 x1) : ∀ (self7 : Int64 → Int32 → HH → Option (Int64 × HH)), (∀ (x2 : Int64) (x4 : Int32) (h : HH), self7 x2 x4 h = some (rv, hv) → At K G 7 [(0, .ref (K.2.1 x0)), (1, .ref (K.2.1 x1)), (2, .long x2), (4, .int x4)] [] h) → ∀ (x2 : Int64) (x4 : Int32) (h : HH), fX2_nextChange_L7 k7_37 x0 x1 self7 x2 x4 h = some (rv, hv) → At K G 7 [(0, .ref (K.2.1 x0)), (1, .ref (K.2.1 x1)), (2, .long x2), (4, .int x4)] [] h := by
  intro self7 Hself7 x2 x4 h hf
  unfold fX2_nextChange_L7 at hf
  refine A_iload C dX2_nextChange_7 3 rfl 9 rfl ?_
  refine A_aload_n C dX2_nextChange_9 (i := 1) rfl 1 rfl 10 rfl ?_
  refine gfRX2_48 C kx1 dX2_nextChange_10 13 rfl ?_
  refine gfRX2_54 C (of_0_3 kx1) dX2_nextChange_13 16 rfl ?_
  refine A_icmp_ge C dX2_nextChange_16 37 (by decide) 19 rfl hf (fun c16 hf => ?_) (fun c16 hf => ?_)
  · refine A_sub [0, 1, 2] (lv' := [(0, .ref (K.2.1 x0)), (1, .ref (K.2.1 x1)), (2, .long x2)]) rfl ?_
    exact Hk7_37 _ _ hf
  refine A_lload_n C dX2_nextChange_19 (i := 2) rfl 2 rfl 20 rfl ?_
  refine A_aload_n C dX2_nextChange_20 (i := 0) rfl 0 rfl 21 rfl ?_
  refine A_aload_n C dX2_nextChange_21 (i := 1) rfl 1 rfl 22 rfl ?_
  refine A_iload C dX2_nextChange_22 3 rfl 24 rfl ?_
  refine CVl C dX2_nextChange_24 2 kx0 (by decide) (r := (RX2, TX2, 7)) rfl rfl hf (fun _ _ e => mX2_dueTick kx0 kx1 e) lkRX2_60 (by decide) (by decide) rfl [.long x2] rfl (Nat.le_of_ble_eq_true rfl) 27 rfl (fun r24 h24 hf => ?_)
  refine A_mminl C dX2_nextChange_27 mlRX2_64 stmminl iniMath comminl (by decide) (Nat.le_of_ble_eq_true rfl) 30 rfl ?_
  refine A_namL hf (fun y1 hf => ?_)
  refine A_lstore_n C dX2_nextChange_30 (i := 2) rfl [(2, .long y1), (0, .ref (K.2.1 x0)), (1, .ref (K.2.1 x1)), (4, .int x4)] (lt_nl hnl (by decide)) rfl 31 rfl ?_
  refine A_iinc (v := (x4 + 1)) C dX2_nextChange_31 3 rfl rfl [(4, .int (x4 + 1)), (2, .long y1), (0, .ref (K.2.1 x0)), (1, .ref (K.2.1 x1))] (lt_nl hnl (by decide)) rfl 34 rfl ?_
  refine A_goto C dX2_nextChange_34 7 (by decide) ?_
  refine A_sub [2, 3, 1, 0] (lv' := [(0, .ref (K.2.1 x0)), (1, .ref (K.2.1 x1)), (2, .long y1), (4, .int (x4 + 1))]) rfl ?_
  exact Hself7 _ _ _ hf
set_option maxRecDepth 20000 in
theorem wX2_nextChange_L40 {K : KX} {G : GX} (C : Ok K G 4 cX2_nextChange RX2) (hnl : G.2.2.2.2.2.2.2.2.2.2.2.2.2 = 7) {rv : Int64} {hv : HH} (E : Endd K G (some .long) (some (.long rv)) hv) {x0 : Nat} {x1 : Nat}   (kx0 : isK 2 x0) (kx1 : isK 0 x1) : ∀ (self40 : Int64 → Int32 → HH → Option (Int64 × HH)), (∀ (x2 : Int64) (x4 : Int32) (h : HH), self40 x2 x4 h = some (rv, hv) → At K G 40 [(0, .ref (K.2.1 x0)), (1, .ref (K.2.1 x1)), (2, .long x2), (4, .int x4)] [] h) → ∀ (x2 : Int64) (x4 : Int32) (h : HH), fX2_nextChange_L40 x0 x1 self40 x2 x4 h = some (rv, hv) → At K G 40 [(0, .ref (K.2.1 x0)), (1, .ref (K.2.1 x1)), (2, .long x2), (4, .int x4)] [] h := by
  intro self40 Hself40 x2 x4 h hf
  unfold fX2_nextChange_L40 at hf
  refine A_iload C dX2_nextChange_40 3 rfl 42 rfl ?_
  refine A_aload_n C dX2_nextChange_42 (i := 1) rfl 1 rfl 43 rfl ?_
  refine gfRX2_70 C kx1 dX2_nextChange_43 46 rfl ?_
  refine gfRX2_54 C (of_0_5 kx1) dX2_nextChange_46 49 rfl ?_
  refine A_icmp_ge C dX2_nextChange_49 83 (by decide) 52 rfl hf (fun c49 hf => ?_) (fun c49 hf => ?_)
  · refine A_lload_n C dX2_nextChange_83 (i := 2) rfl 2 rfl 84 rfl ?_
    exact A_lret C dX2_nextChange_84 E hf
  refine A_aload_n C dX2_nextChange_52 (i := 1) rfl 1 rfl 53 rfl ?_
  refine A_iload C dX2_nextChange_53 3 rfl 55 rfl ?_
  refine CVl C dX2_nextChange_55 0 kx1 (by decide) (r := (RX0, TX0, 14)) rfl rfl hf (fun _ _ e => mX0_knockTick kx1 e) lkRX2_73 (by decide) (by decide) rfl [] rfl (Nat.le_of_ble_eq_true rfl) 58 rfl (fun r55 h55 hf => ?_)
  refine A_lstore C dX2_nextChange_58 [(5, .long r55), (0, .ref (K.2.1 x0)), (1, .ref (K.2.1 x1)), (2, .long x2), (4, .int x4)] (lt_nl hnl (by decide)) rfl 60 rfl ?_
  refine A_lload C dX2_nextChange_60 0 rfl 62 rfl ?_
  refine A_aload_n C dX2_nextChange_62 (i := 0) rfl 1 rfl 63 rfl ?_
  refine gfRX2_31 C kx0 dX2_nextChange_63 66 rfl ?_
  refine A_l_le C dX2_nextChange_66 dX2_nextChange_67 77 (by decide) 70 rfl hf (fun c66 hf => ?_) (fun c66 hf => ?_)
  · refine A_iinc (v := (x4 + 1)) C dX2_nextChange_77 4 rfl rfl [(4, .int (x4 + 1)), (5, .long r55), (0, .ref (K.2.1 x0)), (1, .ref (K.2.1 x1)), (2, .long x2)] (lt_nl hnl (by decide)) rfl 80 rfl ?_
    refine A_goto C dX2_nextChange_80 40 (by decide) ?_
    refine A_sub [2, 3, 4, 0] (lv' := [(0, .ref (K.2.1 x0)), (1, .ref (K.2.1 x1)), (2, .long x2), (4, .int (x4 + 1))]) rfl ?_
    exact Hself40 _ _ _ hf
  refine A_lload_n C dX2_nextChange_70 (i := 2) rfl 3 rfl 71 rfl ?_
  refine A_lload C dX2_nextChange_71 0 rfl 73 rfl ?_
  refine A_mminl C dX2_nextChange_73 mlRX2_64 stmminl iniMath comminl (by decide) (Nat.le_of_ble_eq_true rfl) 76 rfl ?_
  refine A_namL hf (fun y2 hf => ?_)
  refine A_lstore_n C dX2_nextChange_76 (i := 2) rfl [(2, .long y2), (5, .long r55), (0, .ref (K.2.1 x0)), (1, .ref (K.2.1 x1)), (4, .int x4)] (lt_nl hnl (by decide)) rfl 77 rfl ?_
  refine A_iinc (v := (x4 + 1)) C dX2_nextChange_77 4 rfl rfl [(4, .int (x4 + 1)), (2, .long y2), (5, .long r55), (0, .ref (K.2.1 x0)), (1, .ref (K.2.1 x1))] (lt_nl hnl (by decide)) rfl 80 rfl ?_
  refine A_goto C dX2_nextChange_80 40 (by decide) ?_
  refine A_sub [3, 4, 1, 0] (lv' := [(0, .ref (K.2.1 x0)), (1, .ref (K.2.1 x1)), (2, .long y2), (4, .int (x4 + 1))]) rfl ?_
  exact Hself40 _ _ _ hf
set_option maxRecDepth 20000 in
theorem mX2_nextChange {K : KX} {x0 : Nat} {x1 : Nat} (k0 : isK 2 x0) (k1 : isK 0 x1) {h : HH} {rv : Int64} {hv : HH} (hf : fX2_nextChange x0 x1 h = some (rv, hv)) : MR K yX2_nextChange cX2_nextChange 7 (some .long) 4 [.ref (K.2.1 x0), .ref (K.2.1 x1)] h (some (.long rv)) hv := by
  refine MR_of (by decide) (Nat.le_of_ble_eq_true rfl) (fun G C E hnl => ?_)
  have C : Ok K G 4 cX2_nextChange RX2 := C
  refine (show At K G 0 [(0, .ref (K.2.1 x0)), (1, .ref (K.2.1 x1))] [] h from ?_)
  unfold fX2_nextChange at hf
  refine A_ldc2 C dX2_nextChange_0 cRX2_46 3 rfl ?_
  refine A_lstore_n C dX2_nextChange_3 (i := 2) rfl [(2, .long 1152921504606846976), (0, .ref (K.2.1 x0)), (1, .ref (K.2.1 x1))] (lt_nl hnl (by decide)) rfl 4 rfl ?_
  refine A_iconst (v := 0) C dX2_nextChange_4 (by decide) 5 rfl ?_
  refine A_istore C dX2_nextChange_5 [(4, .int 0), (2, .long 1152921504606846976), (0, .ref (K.2.1 x0)), (1, .ref (K.2.1 x1))] (lt_nl hnl (by decide)) rfl 7 rfl ?_
  refine A_sub [2, 3, 1, 0] (lv' := [(0, .ref (K.2.1 x0)), (1, .ref (K.2.1 x1)), (2, .long 1152921504606846976), (4, .int 0)]) rfl ?_
  refine lq2_at (wX2_nextChange_L7 C hnl E (fun x2 h hf => ?_) k0 k1) FU _ _ _ hf
  refine A_iconst (v := 0) C dX2_nextChange_37 (by decide) 38 rfl ?_
  refine A_istore C dX2_nextChange_38 [(4, .int 0), (0, .ref (K.2.1 x0)), (1, .ref (K.2.1 x1)), (2, .long x2)] (lt_nl hnl (by decide)) rfl 40 rfl ?_
  refine A_sub [1, 2, 3, 0] (lv' := [(0, .ref (K.2.1 x0)), (1, .ref (K.2.1 x1)), (2, .long x2), (4, .int 0)]) rfl ?_
  refine lq2_at (wX2_nextChange_L40 C hnl E k0 k1) FU _ _ _ hf
set_option maxRecDepth 20000 in
theorem wX2_hearKnock_b55 {K : KX} {G : GX} (C : Ok K G 3 cX2_hearKnock RX2) (hnl : G.2.2.2.2.2.2.2.2.2.2.2.2.2 = 8) {rv : Int32} {hv : HH} (E : Endd K G (some .int) (some (.int rv)) hv) {x0 : Nat} {x1 : Nat} {x2 : Int32} {x3 : Int32} {x4 : Int32} {x5 : Int32} {x6 : Int32} {s0 : Int32} {self6 : Int32 → Int32 → HH → Option (Int32 × HH)} (Hself6 : ∀ (x5 : Int32) (x6 : Int32) (h : HH), self6 x5 x6 h = some (rv, hv) → At K G 6 [(0, .ref (K.2.1 x0)), (1, .ref (K.2.1 x1)), (2, .int x2), (3, .int x3), (4, .int x4), (5, .int x5), (6, .int x6)] [] h) (kx0 : isK 2 x0) (kx1 : isK 0 x1) {h : HH} (hf : fX2_hearKnock_b55 self6 x0 x1 x2 x3 x4 x5 x6 s0 h = some (rv, hv)) : At K G 55 [(0, .ref (K.2.1 x0)), (1, .ref (K.2.1 x1)), (2, .int x2), (3, .int x3), (4, .int x4), (5, .int x5), (6, .int x6)] [.int s0] h := by
  unfold fX2_hearKnock_b55 at hf
  refine A_istore C dX2_hearKnock_55 [(7, .int s0), (0, .ref (K.2.1 x0)), (1, .ref (K.2.1 x1)), (2, .int x2), (3, .int x3), (4, .int x4), (5, .int x5), (6, .int x6)] (lt_nl hnl (by decide)) rfl 57 rfl ?_
  refine A_iload C dX2_hearKnock_57 0 rfl 59 rfl ?_
  refine A_aload_n C dX2_hearKnock_59 (i := 0) rfl 1 rfl 60 rfl ?_
  refine gfRX2_9 C kx0 dX2_hearKnock_60 63 rfl ?_
  refine A_iload C dX2_hearKnock_63 7 rfl 65 rfl ?_
  refine A_iald C dX2_hearKnock_65 (of_2_0 kx0) hf 66 rfl (fun hf => ?_)
  refine A_icmp_eq C dX2_hearKnock_66 99 (by decide) 69 rfl hf (fun c66 hf => ?_) (fun c66 hf => ?_)
  · refine A_iinc (v := (x6 + 1)) C dX2_hearKnock_99 7 rfl rfl [(6, .int (x6 + 1)), (7, .int s0), (0, .ref (K.2.1 x0)), (1, .ref (K.2.1 x1)), (2, .int x2), (3, .int x3), (4, .int x4), (5, .int x5)] (lt_nl hnl (by decide)) rfl 102 rfl ?_
    refine A_goto C dX2_hearKnock_102 6 (by decide) ?_
    refine A_sub [2, 3, 4, 5, 6, 7, 0] (lv' := [(0, .ref (K.2.1 x0)), (1, .ref (K.2.1 x1)), (2, .int x2), (3, .int x3), (4, .int x4), (5, .int x5), (6, .int (x6 + 1))]) rfl ?_
    exact Hself6 _ _ _ hf
  refine A_aload_n C dX2_hearKnock_69 (i := 0) rfl 1 rfl 70 rfl ?_
  refine A_aload_n C dX2_hearKnock_70 (i := 1) rfl 2 rfl 71 rfl ?_
  refine A_iload C dX2_hearKnock_71 7 rfl 73 rfl ?_
  refine A_iload C dX2_hearKnock_73 0 rfl 75 rfl ?_
  refine A_iload_n C dX2_hearKnock_75 (i := 2) rfl 3 rfl 76 rfl ?_
  refine CVv C dX2_hearKnock_76 2 kx0 (by decide) (r := (RX2, TX2, 7)) rfl rfl hf (fun _ e => mX2_comeTo kx0 kx1 e) lkRX2_99 (by decide) (by decide) rfl [] rfl (Nat.le_of_ble_eq_true rfl) 79 rfl (fun h76 hf => ?_)
  refine A_aload_n C dX2_hearKnock_79 (i := 0) rfl 1 rfl 80 rfl ?_
  refine gfRX2_21 C kx0 dX2_hearKnock_80 83 rfl ?_
  refine A_iload C dX2_hearKnock_83 7 rfl 85 rfl ?_
  refine A_dup2 C dX2_hearKnock_85 rfl rfl 86 rfl ?_
  refine A_iald C dX2_hearKnock_86 (of_2_3 kx0) hf 87 rfl (fun hf => ?_)
  refine A_iconst (v := 1) C dX2_hearKnock_87 (by decide) 88 rfl ?_
  refine A_iadd C dX2_hearKnock_88 89 rfl ?_
  refine A_iast C dX2_hearKnock_89 (of_2_3 kx0) hf 90 rfl (fun hf => ?_)
  refine A_iload C dX2_hearKnock_90 6 rfl 92 rfl ?_
  refine A_iconst (v := 1) C dX2_hearKnock_92 (by decide) 93 rfl ?_
  refine A_iload C dX2_hearKnock_93 7 rfl 95 rfl ?_
  refine A_ishl C dX2_hearKnock_95 96 rfl ?_
  refine A_ior C dX2_hearKnock_96 97 rfl ?_
  refine A_namI hf (fun y2 hf => ?_)
  refine A_istore C dX2_hearKnock_97 [(5, .int y2), (7, .int s0), (0, .ref (K.2.1 x0)), (1, .ref (K.2.1 x1)), (2, .int x2), (3, .int x3), (4, .int x4), (6, .int x6)] (lt_nl hnl (by decide)) rfl 99 rfl ?_
  refine A_iinc (v := (x6 + 1)) C dX2_hearKnock_99 7 rfl rfl [(6, .int (x6 + 1)), (5, .int y2), (7, .int s0), (0, .ref (K.2.1 x0)), (1, .ref (K.2.1 x1)), (2, .int x2), (3, .int x3), (4, .int x4)] (lt_nl hnl (by decide)) rfl 102 rfl ?_
  refine A_goto C dX2_hearKnock_102 6 (by decide) ?_
  refine A_sub [3, 4, 5, 6, 7, 1, 0] (lv' := [(0, .ref (K.2.1 x0)), (1, .ref (K.2.1 x1)), (2, .int x2), (3, .int x3), (4, .int x4), (5, .int y2), (6, .int (x6 + 1))]) rfl ?_
  exact Hself6 _ _ _ hf
set_option maxRecDepth 20000 in
theorem wX2_hearKnock_L6 {K : KX} {G : GX} (C : Ok K G 3 cX2_hearKnock RX2) (hnl : G.2.2.2.2.2.2.2.2.2.2.2.2.2 = 8) {rv : Int32} {hv : HH} (E : Endd K G (some .int) (some (.int rv)) hv) {x0 : Nat} {x1 : Nat} {x2 : Int32} {x3 : Int32} {x4 : Int32}   (kx0 : isK 2 x0) (kx1 : isK 0 x1) : ∀ (self6 : Int32 → Int32 → HH → Option (Int32 × HH)), (∀ (x5 : Int32) (x6 : Int32) (h : HH), self6 x5 x6 h = some (rv, hv) → At K G 6 [(0, .ref (K.2.1 x0)), (1, .ref (K.2.1 x1)), (2, .int x2), (3, .int x3), (4, .int x4), (5, .int x5), (6, .int x6)] [] h) → ∀ (x5 : Int32) (x6 : Int32) (h : HH), fX2_hearKnock_L6 x0 x1 x2 x3 x4 self6 x5 x6 h = some (rv, hv) → At K G 6 [(0, .ref (K.2.1 x0)), (1, .ref (K.2.1 x1)), (2, .int x2), (3, .int x3), (4, .int x4), (5, .int x5), (6, .int x6)] [] h := by
  intro self6 Hself6 x5 x6 h hf
  unfold fX2_hearKnock_L6 at hf
  refine A_iload C dX2_hearKnock_6 6 rfl 8 rfl ?_
  refine A_aload_n C dX2_hearKnock_8 (i := 1) rfl 1 rfl 9 rfl ?_
  refine gfRX2_48 C kx1 dX2_hearKnock_9 12 rfl ?_
  refine gfRX2_54 C (of_0_3 kx1) dX2_hearKnock_12 15 rfl ?_
  refine A_icmp_ge C dX2_hearKnock_15 105 (by decide) 18 rfl hf (fun c15 hf => ?_) (fun c15 hf => ?_)
  · refine A_iload C dX2_hearKnock_105 5 rfl 107 rfl ?_
    exact A_iret C dX2_hearKnock_107 E hf
  refine A_aload_n C dX2_hearKnock_18 (i := 0) rfl 0 rfl 19 rfl ?_
  refine gfRX2_15 C kx0 dX2_hearKnock_19 22 rfl ?_
  refine A_iload C dX2_hearKnock_22 6 rfl 24 rfl ?_
  refine A_iald C dX2_hearKnock_24 (of_2_1 kx0) hf 25 rfl (fun hf => ?_)
  refine A_iload_n C dX2_hearKnock_25 (i := 2) rfl 2 rfl 26 rfl ?_
  refine A_icmp_ne C dX2_hearKnock_26 48 (by decide) 29 rfl hf (fun c26 hf => ?_) (fun c26 hf => ?_)
  · refine A_aload_n C dX2_hearKnock_48 (i := 0) rfl 0 rfl 49 rfl ?_
    refine gfRX2_9 C kx0 dX2_hearKnock_49 52 rfl ?_
    refine A_iload C dX2_hearKnock_52 6 rfl 54 rfl ?_
    refine A_iald C dX2_hearKnock_54 (of_2_0 kx0) hf 55 rfl (fun hf => ?_)
    exact wX2_hearKnock_b55 C hnl E Hself6 kx0 kx1 hf
  refine A_aload_n C dX2_hearKnock_29 (i := 1) rfl 1 rfl 30 rfl ?_
  refine A_iload C dX2_hearKnock_30 6 rfl 32 rfl ?_
  refine A_aload_n C dX2_hearKnock_32 (i := 0) rfl 0 rfl 33 rfl ?_
  refine gfRX2_9 C kx0 dX2_hearKnock_33 36 rfl ?_
  refine A_iload C dX2_hearKnock_36 6 rfl 38 rfl ?_
  refine A_iald C dX2_hearKnock_38 (of_2_0 kx0) hf 39 rfl (fun hf => ?_)
  refine A_iload_n C dX2_hearKnock_39 (i := 3) rfl 3 rfl 40 rfl ?_
  refine A_iload C dX2_hearKnock_40 4 rfl 42 rfl ?_
  refine CVi C dX2_hearKnock_42 0 kx1 (by decide) (r := (RX0, TX0, 14)) rfl rfl hf (fun _ _ e => mX0_floorBehind kx1 e) lkRX2_95 (by decide) (by decide) rfl [] rfl (Nat.le_of_ble_eq_true rfl) 45 rfl (fun r42 h42 hf => ?_)
  refine A_goto C dX2_hearKnock_45 55 (by decide) ?_
  exact wX2_hearKnock_b55 C hnl E Hself6 kx0 kx1 hf
set_option maxRecDepth 20000 in
theorem mX2_hearKnock {K : KX} {x0 : Nat} {x1 : Nat} {x2 : Int32} {x3 : Int32} {x4 : Int32} (k0 : isK 2 x0) (k1 : isK 0 x1) {h : HH} {rv : Int32} {hv : HH} (hf : fX2_hearKnock x0 x1 x2 x3 x4 h = some (rv, hv)) : MR K yX2_hearKnock cX2_hearKnock 8 (some .int) 3 [.ref (K.2.1 x0), .ref (K.2.1 x1), .int x2, .int x3, .int x4] h (some (.int rv)) hv := by
  refine MR_of (by decide) (Nat.le_of_ble_eq_true rfl) (fun G C E hnl => ?_)
  have C : Ok K G 3 cX2_hearKnock RX2 := C
  refine (show At K G 0 [(0, .ref (K.2.1 x0)), (1, .ref (K.2.1 x1)), (2, .int x2), (3, .int x3), (4, .int x4)] [] h from ?_)
  unfold fX2_hearKnock at hf
  refine A_iconst (v := 0) C dX2_hearKnock_0 (by decide) 1 rfl ?_
  refine A_istore C dX2_hearKnock_1 [(5, .int 0), (0, .ref (K.2.1 x0)), (1, .ref (K.2.1 x1)), (2, .int x2), (3, .int x3), (4, .int x4)] (lt_nl hnl (by decide)) rfl 3 rfl ?_
  refine A_iconst (v := 0) C dX2_hearKnock_3 (by decide) 4 rfl ?_
  refine A_istore C dX2_hearKnock_4 [(6, .int 0), (5, .int 0), (0, .ref (K.2.1 x0)), (1, .ref (K.2.1 x1)), (2, .int x2), (3, .int x3), (4, .int x4)] (lt_nl hnl (by decide)) rfl 6 rfl ?_
  refine A_sub [2, 3, 4, 5, 6, 1, 0] (lv' := [(0, .ref (K.2.1 x0)), (1, .ref (K.2.1 x1)), (2, .int x2), (3, .int x3), (4, .int x4), (5, .int 0), (6, .int 0)]) rfl ?_
  refine lq2_at (wX2_hearKnock_L6 C hnl E k0 k1) FU _ _ _ hf
set_option maxRecDepth 20000 in
theorem wX2_hearToldKnocks_L7 {K : KX} {G : GX} (C : Ok K G 4 cX2_hearToldKnocks RX2) (hnl : G.2.2.2.2.2.2.2.2.2.2.2.2.2 = 4) {rv : HH} (E : Endd K G none none rv) {x0 : Nat} {x1 : Nat} {x2 : Nat}   (kx0 : isK 2 x0) (kx1 : isK 0 x1) (kx2 : isK 7 x2) : ∀ (self7 : Int32 → HH → Option (HH)), (∀ (x3 : Int32) (h : HH), self7 x3 h = some rv → At K G 7 [(0, .ref (K.2.1 x0)), (1, .ref (K.2.1 x1)), (2, .ref (K.2.1 x2)), (3, .int x3)] [] h) → ∀ (x3 : Int32) (h : HH), fX2_hearToldKnocks_L7 x0 x1 x2 self7 x3 h = some rv → At K G 7 [(0, .ref (K.2.1 x0)), (1, .ref (K.2.1 x1)), (2, .ref (K.2.1 x2)), (3, .int x3)] [] h := by
  intro self7 Hself7 x3 h hf
  unfold fX2_hearToldKnocks_L7 at hf
  refine A_iload_n C dX2_hearToldKnocks_7 (i := 3) rfl 3 rfl 8 rfl ?_
  refine A_aload_n C dX2_hearToldKnocks_8 (i := 2) rfl 2 rfl 9 rfl ?_
  refine gfRX2_54 C kx2 dX2_hearToldKnocks_9 12 rfl ?_
  refine A_icmp_ge C dX2_hearToldKnocks_12 58 (by decide) 15 rfl hf (fun c12 hf => ?_) (fun c12 hf => ?_)
  · exact A_vret C dX2_hearToldKnocks_58 E hf
  refine A_aload_n C dX2_hearToldKnocks_15 (i := 1) rfl 1 rfl 16 rfl ?_
  refine A_iload_n C dX2_hearToldKnocks_16 (i := 3) rfl 3 rfl 17 rfl ?_
  refine CVl C dX2_hearToldKnocks_17 0 kx1 (by decide) (r := (RX0, TX0, 14)) rfl rfl hf (fun _ _ e => mX0_knockTick kx1 e) lkRX2_73 (by decide) (by decide) rfl [] rfl (Nat.le_of_ble_eq_true rfl) 20 rfl (fun r17 h17 hf => ?_)
  refine A_aload_n C dX2_hearToldKnocks_20 (i := 0) rfl 0 rfl 21 rfl ?_
  refine gfRX2_31 C kx0 dX2_hearToldKnocks_21 24 rfl ?_
  refine A_l_ne C dX2_hearToldKnocks_24 dX2_hearToldKnocks_25 52 (by decide) 28 rfl hf (fun c24 hf => ?_) (fun c24 hf => ?_)
  · refine A_iinc (v := (x3 + 1)) C dX2_hearToldKnocks_52 3 rfl rfl [(3, .int (x3 + 1)), (0, .ref (K.2.1 x0)), (1, .ref (K.2.1 x1)), (2, .ref (K.2.1 x2))] (lt_nl hnl (by decide)) rfl 55 rfl ?_
    refine A_goto C dX2_hearToldKnocks_55 7 (by decide) ?_
    refine A_sub [1, 2, 3, 0] (lv' := [(0, .ref (K.2.1 x0)), (1, .ref (K.2.1 x1)), (2, .ref (K.2.1 x2)), (3, .int (x3 + 1))]) rfl ?_
    exact Hself7 _ _ hf
  refine A_aload_n C dX2_hearToldKnocks_28 (i := 0) rfl 0 rfl 29 rfl ?_
  refine A_aload_n C dX2_hearToldKnocks_29 (i := 1) rfl 1 rfl 30 rfl ?_
  refine A_aload_n C dX2_hearToldKnocks_30 (i := 2) rfl 2 rfl 31 rfl ?_
  refine A_iload_n C dX2_hearToldKnocks_31 (i := 3) rfl 3 rfl 32 rfl ?_
  refine A_iconst (v := 0) C dX2_hearToldKnocks_32 (by decide) 33 rfl ?_
  refine CVi C dX2_hearToldKnocks_33 7 kx2 (by decide) (r := (RX7, TX7, 4)) rfl rfl hf (fun _ _ e => mX7_at kx2 e) lkRX2_84 (by decide) (by decide) rfl [.ref (K.2.1 x1), .ref (K.2.1 x0)] rfl (Nat.le_of_ble_eq_true rfl) 36 rfl (fun r33 h33 hf => ?_)
  refine A_aload_n C dX2_hearToldKnocks_36 (i := 2) rfl 2 rfl 37 rfl ?_
  refine A_iload_n C dX2_hearToldKnocks_37 (i := 3) rfl 3 rfl 38 rfl ?_
  refine A_iconst (v := 1) C dX2_hearToldKnocks_38 (by decide) 39 rfl ?_
  refine CVi C dX2_hearToldKnocks_39 7 kx2 (by decide) (r := (RX7, TX7, 4)) rfl rfl hf (fun _ _ e => mX7_at kx2 e) lkRX2_84 (by decide) (by decide) rfl [.int r33, .ref (K.2.1 x1), .ref (K.2.1 x0)] rfl (Nat.le_of_ble_eq_true rfl) 42 rfl (fun r39 h39 hf => ?_)
  refine A_aload_n C dX2_hearToldKnocks_42 (i := 2) rfl 2 rfl 43 rfl ?_
  refine A_iload_n C dX2_hearToldKnocks_43 (i := 3) rfl 3 rfl 44 rfl ?_
  refine A_iconst (v := 3) C dX2_hearToldKnocks_44 (by decide) 45 rfl ?_
  refine CVi C dX2_hearToldKnocks_45 7 kx2 (by decide) (r := (RX7, TX7, 4)) rfl rfl hf (fun _ _ e => mX7_at kx2 e) lkRX2_84 (by decide) (by decide) rfl [.int r39, .int r33, .ref (K.2.1 x1), .ref (K.2.1 x0)] rfl (Nat.le_of_ble_eq_true rfl) 48 rfl (fun r45 h45 hf => ?_)
  refine CVi C dX2_hearToldKnocks_48 2 kx0 (by decide) (r := (RX2, TX2, 7)) rfl rfl hf (fun _ _ e => mX2_hearKnock kx0 kx1 e) lkRX2_91 (by decide) (by decide) rfl [] rfl (Nat.le_of_ble_eq_true rfl) 51 rfl (fun r48 h48 hf => ?_)
  refine A_pop C dX2_hearToldKnocks_51 rfl 52 rfl ?_
  refine A_iinc (v := (x3 + 1)) C dX2_hearToldKnocks_52 3 rfl rfl [(3, .int (x3 + 1)), (0, .ref (K.2.1 x0)), (1, .ref (K.2.1 x1)), (2, .ref (K.2.1 x2))] (lt_nl hnl (by decide)) rfl 55 rfl ?_
  refine A_goto C dX2_hearToldKnocks_55 7 (by decide) ?_
  refine A_sub [1, 2, 3, 0] (lv' := [(0, .ref (K.2.1 x0)), (1, .ref (K.2.1 x1)), (2, .ref (K.2.1 x2)), (3, .int (x3 + 1))]) rfl ?_
  exact Hself7 _ _ hf
set_option maxRecDepth 20000 in
theorem mX2_hearToldKnocks {K : KX} {x0 : Nat} {x1 : Nat} (k0 : isK 2 x0) (k1 : isK 0 x1) {h : HH} {rv : HH} (hf : fX2_hearToldKnocks x0 x1 h = some rv) : MR K yX2_hearToldKnocks cX2_hearToldKnocks 4 none 4 [.ref (K.2.1 x0), .ref (K.2.1 x1)] h none rv := by
  refine MR_of (by decide) (Nat.le_of_ble_eq_true rfl) (fun G C E hnl => ?_)
  have C : Ok K G 4 cX2_hearToldKnocks RX2 := C
  refine (show At K G 0 [(0, .ref (K.2.1 x0)), (1, .ref (K.2.1 x1))] [] h from ?_)
  unfold fX2_hearToldKnocks at hf
  refine A_aload_n C dX2_hearToldKnocks_0 (i := 1) rfl 1 rfl 1 rfl ?_
  refine gfRX2_70 C k1 dX2_hearToldKnocks_1 4 rfl ?_
  refine A_astore_n C dX2_hearToldKnocks_4 (i := 2) rfl [(2, .ref (K.2.1 (x1 + 8))), (0, .ref (K.2.1 x0)), (1, .ref (K.2.1 x1))] (lt_nl hnl (by decide)) rfl 5 rfl ?_
  refine A_iconst (v := 0) C dX2_hearToldKnocks_5 (by decide) 6 rfl ?_
  refine A_istore_n C dX2_hearToldKnocks_6 (i := 3) rfl [(3, .int 0), (2, .ref (K.2.1 (x1 + 8))), (0, .ref (K.2.1 x0)), (1, .ref (K.2.1 x1))] (lt_nl hnl (by decide)) rfl 7 rfl ?_
  refine A_sub [2, 3, 1, 0] (lv' := [(0, .ref (K.2.1 x0)), (1, .ref (K.2.1 x1)), (2, .ref (K.2.1 (x1 + 8))), (3, .int 0)]) rfl ?_
  refine lq1_at (wX2_hearToldKnocks_L7 C hnl E k0 k1 (of_0_5 k1)) FU _ _ hf
set_option maxRecDepth 20000 in
theorem wX2_runTo_L3 {K : KX} {G : GX} (C : Ok K G 5 cX2_runTo RX2) (hnl : G.2.2.2.2.2.2.2.2.2.2.2.2.2 = 7) {rv : HH} (E : Endd K G none none rv) {x0 : Nat} {x1 : Nat} {x2 : Int64}   (kx0 : isK 2 x0) (kx1 : isK 0 x1) : ∀ (self3 : Int32 → HH → Option (HH)), (∀ (x4 : Int32) (h : HH), self3 x4 h = some rv → At K G 3 [(0, .ref (K.2.1 x0)), (1, .ref (K.2.1 x1)), (2, .long x2), (4, .int x4)] [] h) → ∀ (x4 : Int32) (h : HH), fX2_runTo_L3 x0 x1 x2 self3 x4 h = some rv → At K G 3 [(0, .ref (K.2.1 x0)), (1, .ref (K.2.1 x1)), (2, .long x2), (4, .int x4)] [] h := by
  intro self3 Hself3 x4 h hf
  unfold fX2_runTo_L3 at hf
  refine A_iload C dX2_runTo_3 3 rfl 5 rfl ?_
  refine A_bipush (v := 28) C dX2_runTo_5 (by decide) 7 rfl ?_
  refine A_icmp_gt C dX2_runTo_7 49 (by decide) 10 rfl hf (fun c7 hf => ?_) (fun c7 hf => ?_)
  · refine A_aload_n C dX2_runTo_49 (i := 0) rfl 0 rfl 50 rfl ?_
    refine A_lload_n C dX2_runTo_50 (i := 2) rfl 2 rfl 51 rfl ?_
    refine pfRX2_31 C kx0 dX2_runTo_51 54 rfl ?_
    exact A_vret C dX2_runTo_54 E hf
  refine A_aload_n C dX2_runTo_10 (i := 0) rfl 0 rfl 11 rfl ?_
  refine A_aload_n C dX2_runTo_11 (i := 1) rfl 1 rfl 12 rfl ?_
  refine CVl C dX2_runTo_12 2 kx0 (by decide) (r := (RX2, TX2, 7)) rfl rfl hf (fun _ _ e => mX2_nextChange kx0 kx1 e) lkRX2_39 (by decide) (by decide) rfl [] rfl (Nat.le_of_ble_eq_true rfl) 15 rfl (fun r12 h12 hf => ?_)
  refine A_lstore C dX2_runTo_15 [(5, .long r12), (0, .ref (K.2.1 x0)), (1, .ref (K.2.1 x1)), (2, .long x2), (4, .int x4)] (lt_nl hnl (by decide)) rfl 17 rfl ?_
  refine A_lload C dX2_runTo_17 0 rfl 19 rfl ?_
  refine A_lload_n C dX2_runTo_19 (i := 2) rfl 3 rfl 20 rfl ?_
  refine A_l_le C dX2_runTo_20 dX2_runTo_21 27 (by decide) 24 rfl hf (fun c20 hf => ?_) (fun c20 hf => ?_)
  · refine A_aload_n C dX2_runTo_27 (i := 0) rfl 1 rfl 28 rfl ?_
    refine A_lload C dX2_runTo_28 0 rfl 30 rfl ?_
    refine pfRX2_31 C kx0 dX2_runTo_30 33 rfl ?_
    refine A_aload_n C dX2_runTo_33 (i := 0) rfl 1 rfl 34 rfl ?_
    refine A_aload_n C dX2_runTo_34 (i := 1) rfl 2 rfl 35 rfl ?_
    refine CVv C dX2_runTo_35 2 kx0 (by decide) (r := (RX2, TX2, 7)) rfl rfl hf (fun _ e => mX2_hearToldKnocks kx0 kx1 e) lkRX2_43 (by decide) (by decide) rfl [] rfl (Nat.le_of_ble_eq_true rfl) 38 rfl (fun h35 hf => ?_)
    refine A_aload_n C dX2_runTo_38 (i := 0) rfl 1 rfl 39 rfl ?_
    refine A_aload_n C dX2_runTo_39 (i := 1) rfl 2 rfl 40 rfl ?_
    refine CVv C dX2_runTo_40 2 kx0 (by decide) (r := (RX2, TX2, 7)) rfl rfl hf (fun _ e => mX2_takeDueSteps kx0 kx1 e) lkRX2_35 (by decide) (by decide) rfl [] rfl (Nat.le_of_ble_eq_true rfl) 43 rfl (fun h40 hf => ?_)
    refine A_iinc (v := (x4 + 1)) C dX2_runTo_43 4 rfl rfl [(4, .int (x4 + 1)), (5, .long r12), (0, .ref (K.2.1 x0)), (1, .ref (K.2.1 x1)), (2, .long x2)] (lt_nl hnl (by decide)) rfl 46 rfl ?_
    refine A_goto C dX2_runTo_46 3 (by decide) ?_
    refine A_sub [2, 3, 4, 0] (lv' := [(0, .ref (K.2.1 x0)), (1, .ref (K.2.1 x1)), (2, .long x2), (4, .int (x4 + 1))]) rfl ?_
    exact Hself3 _ _ hf
  refine A_goto C dX2_runTo_24 49 (by decide) ?_
  refine A_aload_n C dX2_runTo_49 (i := 0) rfl 1 rfl 50 rfl ?_
  refine A_lload_n C dX2_runTo_50 (i := 2) rfl 3 rfl 51 rfl ?_
  refine pfRX2_31 C kx0 dX2_runTo_51 54 rfl ?_
  exact A_vret C dX2_runTo_54 E hf
set_option maxRecDepth 20000 in
theorem mX2_runTo {K : KX} {x0 : Nat} {x1 : Nat} {x2 : Int64} (k0 : isK 2 x0) (k1 : isK 0 x1) {h : HH} {rv : HH} (hf : fX2_runTo x0 x1 x2 h = some rv) : MR K yX2_runTo cX2_runTo 7 none 5 [.ref (K.2.1 x0), .ref (K.2.1 x1), .long x2] h none rv := by
  refine MR_of (by decide) (Nat.le_of_ble_eq_true rfl) (fun G C E hnl => ?_)
  have C : Ok K G 5 cX2_runTo RX2 := C
  refine (show At K G 0 [(0, .ref (K.2.1 x0)), (1, .ref (K.2.1 x1)), (2, .long x2)] [] h from ?_)
  unfold fX2_runTo at hf
  refine A_iconst (v := 0) C dX2_runTo_0 (by decide) 1 rfl ?_
  refine A_istore C dX2_runTo_1 [(4, .int 0), (0, .ref (K.2.1 x0)), (1, .ref (K.2.1 x1)), (2, .long x2)] (lt_nl hnl (by decide)) rfl 3 rfl ?_
  refine A_sub [1, 2, 3, 0] (lv' := [(0, .ref (K.2.1 x0)), (1, .ref (K.2.1 x1)), (2, .long x2), (4, .int 0)]) rfl ?_
  refine lq1_at (wX2_runTo_L3 C hnl E k0 k1) FU _ _ hf
set_option maxRecDepth 20000 in
theorem mX2_livedBy {K : KX} {x0 : Nat} {x1 : Nat} {x2 : Int32} (k0 : isK 2 x0) (k1 : isK 0 x1) {h : HH} {rv : Int64} {hv : HH} (hf : fX2_livedBy x0 x1 x2 h = some (rv, hv)) : MR K yX2_livedBy cX2_livedBy 3 (some .long) 2 [.ref (K.2.1 x0), .ref (K.2.1 x1), .int x2] h (some (.long rv)) hv := by
  refine MR_of (by decide) (Nat.le_of_ble_eq_true rfl) (fun G C E hnl => ?_)
  have C : Ok K G 2 cX2_livedBy RX2 := C
  refine (show At K G 0 [(0, .ref (K.2.1 x0)), (1, .ref (K.2.1 x1)), (2, .int x2)] [] h from ?_)
  unfold fX2_livedBy at hf
  refine A_aload_n C dX2_livedBy_0 (i := 0) rfl 0 rfl 1 rfl ?_
  refine gfRX2_28 C k0 dX2_livedBy_1 4 rfl ?_
  refine A_iload_n C dX2_livedBy_4 (i := 2) rfl 2 rfl 5 rfl ?_
  refine A_lald C dX2_livedBy_5 (of_2_5 k0) hf 6 rfl (fun hf => ?_)
  refine A_aload_n C dX2_livedBy_6 (i := 0) rfl 0 rfl 7 rfl ?_
  refine gfRX2_31 C k0 dX2_livedBy_7 10 rfl ?_
  refine A_aload_n C dX2_livedBy_10 (i := 0) rfl 0 rfl 11 rfl ?_
  refine gfRX2_24 C k0 dX2_livedBy_11 14 rfl ?_
  refine A_iload_n C dX2_livedBy_14 (i := 2) rfl 2 rfl 15 rfl ?_
  refine A_lald C dX2_livedBy_15 (of_2_4 k0) hf 16 rfl (fun hf => ?_)
  refine A_lsub C dX2_livedBy_16 17 rfl ?_
  refine A_aload_n C dX2_livedBy_17 (i := 1) rfl 1 rfl 18 rfl ?_
  refine A_aload_n C dX2_livedBy_18 (i := 0) rfl 0 rfl 19 rfl ?_
  refine gfRX2_9 C k0 dX2_livedBy_19 22 rfl ?_
  refine A_iload_n C dX2_livedBy_22 (i := 2) rfl 2 rfl 23 rfl ?_
  refine A_iald C dX2_livedBy_23 (of_2_0 k0) hf 24 rfl (fun hf => ?_)
  refine CVi C dX2_livedBy_24 0 k1 (by decide) (r := (RX0, TX0, 14)) rfl rfl hf (fun _ _ e => mX0_quickOf k1 e) lkRX2_107 (by decide) (by decide) rfl [.long ((gL h x0 6) - (gL h (x0 + 5) (ix x2))), .long (gL h (x0 + 6) (ix x2))] rfl (Nat.le_of_ble_eq_true rfl) 27 rfl (fun r24 h24 hf => ?_)
  refine A_i2l C dX2_livedBy_27 28 rfl ?_
  refine A_lmul C dX2_livedBy_28 29 rfl ?_
  refine A_ladd C dX2_livedBy_29 30 rfl ?_
  exact A_lret C dX2_livedBy_30 E hf
set_option maxRecDepth 20000 in
theorem mX2_haveMet {K : KX} {x0 : Nat} {x1 : Int32} {x2 : Int32} (k0 : isK 2 x0) {h : HH} {rv : Bool} {hv : HH} (hf : fX2_haveMet x0 x1 x2 h = some (rv, hv)) : MR K yX2_haveMet cX2_haveMet 3 (some .boolean) 1 [.ref (K.2.1 x0), .int x1, .int x2] h (some (.int (b2i rv))) hv := by
  refine MR_of (by decide) (Nat.le_of_ble_eq_true rfl) (fun G C E hnl => ?_)
  have C : Ok K G 1 cX2_haveMet RX2 := C
  refine (show At K G 0 [(0, .ref (K.2.1 x0)), (1, .int x1), (2, .int x2)] [] h from ?_)
  unfold fX2_haveMet at hf
  refine A_aload_n C dX2_haveMet_0 (i := 0) rfl 0 rfl 1 rfl ?_
  refine gfRX2_9 C k0 dX2_haveMet_1 4 rfl ?_
  refine A_iload_n C dX2_haveMet_4 (i := 1) rfl 1 rfl 5 rfl ?_
  refine A_iald C dX2_haveMet_5 (of_2_0 k0) hf 6 rfl (fun hf => ?_)
  refine A_if_le C dX2_haveMet_6 43 (by decide) 9 rfl hf (fun c6 hf => ?_) (fun c6 hf => ?_)
  · refine A_iconst (v := 0) C dX2_haveMet_43 (by decide) 44 rfl ?_
    exact A_zret (x := false) C dX2_haveMet_44 E hf
  refine A_aload_n C dX2_haveMet_9 (i := 0) rfl 0 rfl 10 rfl ?_
  refine gfRX2_9 C k0 dX2_haveMet_10 13 rfl ?_
  refine A_iload_n C dX2_haveMet_13 (i := 1) rfl 1 rfl 14 rfl ?_
  refine A_iald C dX2_haveMet_14 (of_2_0 k0) hf 15 rfl (fun hf => ?_)
  refine A_aload_n C dX2_haveMet_15 (i := 0) rfl 0 rfl 16 rfl ?_
  refine gfRX2_9 C k0 dX2_haveMet_16 19 rfl ?_
  refine A_iload_n C dX2_haveMet_19 (i := 2) rfl 2 rfl 20 rfl ?_
  refine A_iald C dX2_haveMet_20 (of_2_0 k0) hf 21 rfl (fun hf => ?_)
  refine A_icmp_ne C dX2_haveMet_21 43 (by decide) 24 rfl hf (fun c21 hf => ?_) (fun c21 hf => ?_)
  · refine A_iconst (v := 0) C dX2_haveMet_43 (by decide) 44 rfl ?_
    exact A_zret (x := false) C dX2_haveMet_44 E hf
  refine A_aload_n C dX2_haveMet_24 (i := 0) rfl 0 rfl 25 rfl ?_
  refine gfRX2_15 C k0 dX2_haveMet_25 28 rfl ?_
  refine A_iload_n C dX2_haveMet_28 (i := 1) rfl 1 rfl 29 rfl ?_
  refine A_iald C dX2_haveMet_29 (of_2_1 k0) hf 30 rfl (fun hf => ?_)
  refine A_aload_n C dX2_haveMet_30 (i := 0) rfl 0 rfl 31 rfl ?_
  refine gfRX2_15 C k0 dX2_haveMet_31 34 rfl ?_
  refine A_iload_n C dX2_haveMet_34 (i := 2) rfl 2 rfl 35 rfl ?_
  refine A_iald C dX2_haveMet_35 (of_2_1 k0) hf 36 rfl (fun hf => ?_)
  refine A_icmp_ne C dX2_haveMet_36 43 (by decide) 39 rfl hf (fun c36 hf => ?_) (fun c36 hf => ?_)
  · refine A_iconst (v := 0) C dX2_haveMet_43 (by decide) 44 rfl ?_
    exact A_zret (x := false) C dX2_haveMet_44 E hf
  refine A_iconst (v := 1) C dX2_haveMet_39 (by decide) 40 rfl ?_
  refine A_goto C dX2_haveMet_40 44 (by decide) ?_
  exact A_zret (x := true) C dX2_haveMet_44 E hf
set_option maxRecDepth 20000 in
theorem wX2_companyOf_L5 {K : KX} {G : GX} (C : Ok K G 2 cX2_companyOf RX2) (hnl : G.2.2.2.2.2.2.2.2.2.2.2.2.2 = 5) {rv : Int32} {hv : HH} (E : Endd K G (some .int) (some (.int rv)) hv) {x0 : Nat} {x1 : Nat} {x2 : Int32}   (kx0 : isK 2 x0) (kx1 : isK 0 x1) : ∀ (self5 : Int32 → Int32 → HH → Option (Int32 × HH)), (∀ (x3 : Int32) (x4 : Int32) (h : HH), self5 x3 x4 h = some (rv, hv) → At K G 5 [(0, .ref (K.2.1 x0)), (1, .ref (K.2.1 x1)), (2, .int x2), (3, .int x3), (4, .int x4)] [] h) → ∀ (x3 : Int32) (x4 : Int32) (h : HH), fX2_companyOf_L5 x0 x1 x2 self5 x3 x4 h = some (rv, hv) → At K G 5 [(0, .ref (K.2.1 x0)), (1, .ref (K.2.1 x1)), (2, .int x2), (3, .int x3), (4, .int x4)] [] h := by
  intro self5 Hself5 x3 x4 h hf
  unfold fX2_companyOf_L5 at hf
  refine A_iload C dX2_companyOf_5 4 rfl 7 rfl ?_
  refine A_aload_n C dX2_companyOf_7 (i := 1) rfl 1 rfl 8 rfl ?_
  refine gfRX2_48 C kx1 dX2_companyOf_8 11 rfl ?_
  refine gfRX2_54 C (of_0_3 kx1) dX2_companyOf_11 14 rfl ?_
  refine A_icmp_ge C dX2_companyOf_14 36 (by decide) 17 rfl hf (fun c14 hf => ?_) (fun c14 hf => ?_)
  · refine A_iload_n C dX2_companyOf_36 (i := 3) rfl 3 rfl 37 rfl ?_
    exact A_iret C dX2_companyOf_37 E hf
  refine A_aload_n C dX2_companyOf_17 (i := 0) rfl 0 rfl 18 rfl ?_
  refine A_iload_n C dX2_companyOf_18 (i := 2) rfl 2 rfl 19 rfl ?_
  refine A_iload C dX2_companyOf_19 4 rfl 21 rfl ?_
  refine CVz C dX2_companyOf_21 2 kx0 (by decide) (r := (RX2, TX2, 7)) rfl rfl hf (fun _ _ e => mX2_haveMet kx0 e) lkRX2_117 (by decide) (by decide) rfl [] rfl (Nat.le_of_ble_eq_true rfl) 24 rfl (fun r21 h21 hf => ?_)
  refine A_z_eq C dX2_companyOf_24 30 (by decide) 27 rfl hf (fun c24 hf => ?_) (fun c24 hf => ?_)
  · refine A_iinc (v := (x4 + 1)) C dX2_companyOf_30 4 rfl rfl [(4, .int (x4 + 1)), (0, .ref (K.2.1 x0)), (1, .ref (K.2.1 x1)), (2, .int x2), (3, .int x3)] (lt_nl hnl (by decide)) rfl 33 rfl ?_
    refine A_goto C dX2_companyOf_33 5 (by decide) ?_
    refine A_sub [1, 2, 3, 4, 0] (lv' := [(0, .ref (K.2.1 x0)), (1, .ref (K.2.1 x1)), (2, .int x2), (3, .int x3), (4, .int (x4 + 1))]) rfl ?_
    exact Hself5 _ _ _ hf
  refine A_iinc (v := (x3 + 1)) C dX2_companyOf_27 3 rfl rfl [(3, .int (x3 + 1)), (0, .ref (K.2.1 x0)), (1, .ref (K.2.1 x1)), (2, .int x2), (4, .int x4)] (lt_nl hnl (by decide)) rfl 30 rfl ?_
  refine A_iinc (v := (x4 + 1)) C dX2_companyOf_30 4 rfl rfl [(4, .int (x4 + 1)), (3, .int (x3 + 1)), (0, .ref (K.2.1 x0)), (1, .ref (K.2.1 x1)), (2, .int x2)] (lt_nl hnl (by decide)) rfl 33 rfl ?_
  refine A_goto C dX2_companyOf_33 5 (by decide) ?_
  refine A_sub [2, 3, 4, 1, 0] (lv' := [(0, .ref (K.2.1 x0)), (1, .ref (K.2.1 x1)), (2, .int x2), (3, .int (x3 + 1)), (4, .int (x4 + 1))]) rfl ?_
  exact Hself5 _ _ _ hf
set_option maxRecDepth 20000 in
theorem mX2_companyOf {K : KX} {x0 : Nat} {x1 : Nat} {x2 : Int32} (k0 : isK 2 x0) (k1 : isK 0 x1) {h : HH} {rv : Int32} {hv : HH} (hf : fX2_companyOf x0 x1 x2 h = some (rv, hv)) : MR K yX2_companyOf cX2_companyOf 5 (some .int) 2 [.ref (K.2.1 x0), .ref (K.2.1 x1), .int x2] h (some (.int rv)) hv := by
  refine MR_of (by decide) (Nat.le_of_ble_eq_true rfl) (fun G C E hnl => ?_)
  have C : Ok K G 2 cX2_companyOf RX2 := C
  refine (show At K G 0 [(0, .ref (K.2.1 x0)), (1, .ref (K.2.1 x1)), (2, .int x2)] [] h from ?_)
  unfold fX2_companyOf at hf
  refine A_iconst (v := 0) C dX2_companyOf_0 (by decide) 1 rfl ?_
  refine A_istore_n C dX2_companyOf_1 (i := 3) rfl [(3, .int 0), (0, .ref (K.2.1 x0)), (1, .ref (K.2.1 x1)), (2, .int x2)] (lt_nl hnl (by decide)) rfl 2 rfl ?_
  refine A_iconst (v := 0) C dX2_companyOf_2 (by decide) 3 rfl ?_
  refine A_istore C dX2_companyOf_3 [(4, .int 0), (3, .int 0), (0, .ref (K.2.1 x0)), (1, .ref (K.2.1 x1)), (2, .int x2)] (lt_nl hnl (by decide)) rfl 5 rfl ?_
  refine A_sub [2, 3, 4, 1, 0] (lv' := [(0, .ref (K.2.1 x0)), (1, .ref (K.2.1 x1)), (2, .int x2), (3, .int 0), (4, .int 0)]) rfl ?_
  refine lq2_at (wX2_companyOf_L5 C hnl E k0 k1) FU _ _ _ hf
