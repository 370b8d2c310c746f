set_option maxRecDepth 20000 in
theorem mX3_lastAlike {K : KX} {x0 : Nat} {x1 : Nat} (k0 : isK 3 x0) (k1 : isK 0 x1) {h : HH} {rv : Int32} {hv : HH} (hf : fX3_lastAlike x0 x1 h = some (rv, hv)) : MR K yX3_lastAlike cX3_lastAlike 4 (some .int) 5 [.ref (K.2.1 x0), .ref (K.2.1 x1)] h (some (.int rv)) hv := by
  refine MR_of (by decide) (Nat.le_of_ble_eq_true rfl) (fun G C E hnl => ?_)
  have C : Ok K G 5 cX3_lastAlike RX3 := C
  refine (show At K G 0 [(0, .ref (K.2.1 x0)), (1, .ref (K.2.1 x1))] [] h from ?_)
  unfold fX3_lastAlike at hf
  refine A_aload_n C dX3_lastAlike_0 (i := 0) rfl 0 rfl 1 rfl ?_
  refine gfRX3_12 C k0 dX3_lastAlike_1 4 rfl ?_
  refine A_aload_n C dX3_lastAlike_4 (i := 1) rfl 1 rfl 5 rfl ?_
  refine CVl C dX3_lastAlike_5 2 (of_3_0 k0) (by decide) (r := (RX2, TX2, 7)) rfl rfl hf (fun _ _ e => mX2_nextChange (of_3_0 k0) k1 e) lkRX3_88 (by decide) (by decide) rfl [] rfl (Nat.le_of_ble_eq_true rfl) 8 rfl (fun r5 h5 hf => ?_)
  refine A_lstore_n C dX3_lastAlike_8 (i := 2) rfl [(2, .long r5), (0, .ref (K.2.1 x0)), (1, .ref (K.2.1 x1))] (lt_nl hnl (by decide)) rfl 9 rfl ?_
  refine A_lload_n C dX3_lastAlike_9 (i := 2) rfl 0 rfl 10 rfl ?_
  refine A_ldc2 C dX3_lastAlike_10 cRX3_92 13 rfl ?_
  refine A_l_ne C dX3_lastAlike_13 dX3_lastAlike_14 24 (by decide) 17 rfl hf (fun c13 hf => ?_) (fun c13 hf => ?_)
  · refine A_aload_n C dX3_lastAlike_24 (i := 0) rfl 1 rfl 25 rfl ?_
    refine gfRX3_73 C k0 dX3_lastAlike_25 28 rfl ?_
    refine A_i2l C dX3_lastAlike_28 29 rfl ?_
    refine A_lload_n C dX3_lastAlike_29 (i := 2) rfl 0 rfl 30 rfl ?_
    refine A_aload_n C dX3_lastAlike_30 (i := 0) rfl 1 rfl 31 rfl ?_
    refine gfRX3_70 C k0 dX3_lastAlike_31 34 rfl ?_
    refine A_lsub C dX3_lastAlike_34 35 rfl ?_
    refine A_lconst (v := 1) C dX3_lastAlike_35 (by decide) 36 rfl ?_
    refine A_lsub C dX3_lastAlike_36 37 rfl ?_
    refine A_aload_n C dX3_lastAlike_37 (i := 1) rfl 2 rfl 38 rfl ?_
    refine CVi C dX3_lastAlike_38 0 k1 (by decide) (r := (RX0, TX0, 14)) rfl rfl hf (fun _ _ e => mX0_bottom k1 e) lkRX3_80 (by decide) (by decide) rfl [.long ((r5 - (gL h5 x0 1)) - 1), .long (((gI h5 x0 2)).toInt64)] rfl (Nat.le_of_ble_eq_true rfl) 41 rfl (fun r38 h38 hf => ?_)
    refine A_i2l C dX3_lastAlike_41 42 rfl ?_
    refine CNl C dX3_lastAlike_42 (fun _ z => z.1.1) hf (fun _ _ e => mX8_quotient  e) lkRX3_94 (by decide) (by decide) rfl [.long (((gI h5 x0 2)).toInt64)] rfl (Nat.le_of_ble_eq_true rfl) 45 rfl (fun r42 h42 hf => ?_)
    refine A_mminl C dX3_lastAlike_45 mlRX3_98 stmminl iniMath comminl (by decide) (Nat.le_of_ble_eq_true rfl) 48 rfl ?_
    refine A_l2i C dX3_lastAlike_48 49 rfl ?_
    exact A_iret C dX3_lastAlike_49 E hf
  refine A_aload_n C dX3_lastAlike_17 (i := 0) rfl 1 rfl 18 rfl ?_
  refine gfRX3_73 C k0 dX3_lastAlike_18 21 rfl ?_
  refine A_goto C dX3_lastAlike_21 49 (by decide) ?_
  exact A_iret C dX3_lastAlike_49 E hf
set_option maxRecDepth 20000 in
theorem mX3_begin {K : KX} {x0 : Nat} {x1 : Nat} {x2 : Nat} {x3 : Int32} (k0 : isK 3 x0) (k1 : isK 0 x1) (k2 : isK 2 x2) {h : HH} {rv : HH} (hf : fX3_begin x0 x1 x2 x3 h = some rv) : MR K yX3_begin cX3_begin 4 none 6 [.ref (K.2.1 x0), .ref (K.2.1 x1), .ref (K.2.1 x2), .int x3] h none rv := by
  refine MR_of (by decide) (Nat.le_of_ble_eq_true rfl) (fun G C E hnl => ?_)
  have C : Ok K G 6 cX3_begin RX3 := C
  refine (show At K G 0 [(0, .ref (K.2.1 x0)), (1, .ref (K.2.1 x1)), (2, .ref (K.2.1 x2)), (3, .int x3)] [] h from ?_)
  unfold fX3_begin at hf
  refine A_aload_n C dX3_begin_0 (i := 0) rfl 0 rfl 1 rfl ?_
  refine gfRX3_12 C k0 dX3_begin_1 4 rfl ?_
  refine A_aload_n C dX3_begin_4 (i := 2) rfl 2 rfl 5 rfl ?_
  refine CVv C dX3_begin_5 2 (of_3_0 k0) (by decide) (r := (RX2, TX2, 7)) rfl rfl hf (fun _ e => mX2_copyFrom (of_3_0 k0) k2 e) lkRX3_62 (by decide) (by decide) rfl [] rfl (Nat.le_of_ble_eq_true rfl) 8 rfl (fun h5 hf => ?_)
  refine A_aload_n C dX3_begin_8 (i := 0) rfl 0 rfl 9 rfl ?_
  refine A_aload_n C dX3_begin_9 (i := 2) rfl 2 rfl 10 rfl ?_
  refine gfRX3_66 C k2 dX3_begin_10 13 rfl ?_
  refine pfRX3_70 C k0 dX3_begin_13 16 rfl ?_
  refine A_aload_n C dX3_begin_16 (i := 0) rfl 0 rfl 17 rfl ?_
  refine A_iload_n C dX3_begin_17 (i := 3) rfl 3 rfl 18 rfl ?_
  refine pfRX3_73 C k0 dX3_begin_18 21 rfl ?_
  refine A_namH hf (fun g1 hf => ?_)
  refine A_aload_n C dX3_begin_21 (i := 0) rfl 0 rfl 22 rfl ?_
  refine A_iconst (v := 0) C dX3_begin_22 (by decide) 23 rfl ?_
  refine pfRX3_22 C k0 dX3_begin_23 26 rfl ?_
  refine A_aload_n C dX3_begin_26 (i := 0) rfl 0 rfl 27 rfl ?_
  refine A_aload_n C dX3_begin_27 (i := 0) rfl 0 rfl 28 rfl ?_
  refine A_aload_n C dX3_begin_28 (i := 1) rfl 1 rfl 29 rfl ?_
  refine CVi C dX3_begin_29 3 k0 (by decide) (r := (RX3, TX3, 5)) rfl rfl hf (fun _ _ e => mX3_lastAlike k0 k1 e) lkRX3_76 (by decide) (by decide) rfl [.ref (K.2.1 x0)] rfl (Nat.le_of_ble_eq_true rfl) 32 rfl (fun r29 h29 hf => ?_)
  refine pfRX3_42 C k0 dX3_begin_32 35 rfl ?_
  exact A_vret C dX3_begin_35 E hf
set_option maxRecDepth 20000 in
theorem mX3_goOn {K : KX} {x0 : Nat} {x1 : Nat} (k0 : isK 3 x0) (k1 : isK 0 x1) {h : HH} {rv : HH} (hf : fX3_goOn x0 x1 h = some rv) : MR K yX3_goOn cX3_goOn 2 none 6 [.ref (K.2.1 x0), .ref (K.2.1 x1)] h none rv := by
  refine MR_of (by decide) (Nat.le_of_ble_eq_true rfl) (fun G C E hnl => ?_)
  have C : Ok K G 6 cX3_goOn RX3 := C
  refine (show At K G 0 [(0, .ref (K.2.1 x0)), (1, .ref (K.2.1 x1))] [] h from ?_)
  unfold fX3_goOn at hf
  refine A_aload_n C dX3_goOn_0 (i := 0) rfl 0 rfl 1 rfl ?_
  refine A_aload_n C dX3_goOn_1 (i := 0) rfl 0 rfl 2 rfl ?_
  refine gfRX3_42 C k0 dX3_goOn_2 5 rfl ?_
  refine A_iconst (v := 1) C dX3_goOn_5 (by decide) 6 rfl ?_
  refine A_iadd C dX3_goOn_6 7 rfl ?_
  refine pfRX3_22 C k0 dX3_goOn_7 10 rfl ?_
  refine A_aload_n C dX3_goOn_10 (i := 0) rfl 0 rfl 11 rfl ?_
  refine gfRX3_22 C k0 dX3_goOn_11 14 rfl ?_
  refine A_aload_n C dX3_goOn_14 (i := 0) rfl 0 rfl 15 rfl ?_
  refine gfRX3_73 C k0 dX3_goOn_15 18 rfl ?_
  refine A_icmp_gt C dX3_goOn_18 54 (by decide) 21 rfl hf (fun c18 hf => ?_) (fun c18 hf => ?_)
  · exact A_vret C dX3_goOn_54 E hf
  refine A_aload_n C dX3_goOn_21 (i := 0) rfl 0 rfl 22 rfl ?_
  refine gfRX3_12 C k0 dX3_goOn_22 25 rfl ?_
  refine A_aload_n C dX3_goOn_25 (i := 1) rfl 1 rfl 26 rfl ?_
  refine A_aload_n C dX3_goOn_26 (i := 0) rfl 0 rfl 27 rfl ?_
  refine gfRX3_70 C k0 dX3_goOn_27 30 rfl ?_
  refine A_aload_n C dX3_goOn_30 (i := 0) rfl 0 rfl 31 rfl ?_
  refine gfRX3_22 C k0 dX3_goOn_31 34 rfl ?_
  refine A_i2l C dX3_goOn_34 35 rfl ?_
  refine A_aload_n C dX3_goOn_35 (i := 1) rfl 1 rfl 36 rfl ?_
  refine CVi C dX3_goOn_36 0 k1 (by decide) (r := (RX0, TX0, 14)) rfl rfl hf (fun _ _ e => mX0_bottom k1 e) lkRX3_80 (by decide) (by decide) rfl [.long (((gI (sI h x0 3 ((gI h x0 4) + 1)) x0 3)).toInt64), .long (gL (sI h x0 3 ((gI h x0 4) + 1)) x0 1), .ref (K.2.1 x1), .ref (K.2.1 (x0 + 1))] rfl (Nat.le_of_ble_eq_true rfl) 39 rfl (fun r36 h36 hf => ?_)
  refine A_i2l C dX3_goOn_39 40 rfl ?_
  refine A_lmul C dX3_goOn_40 41 rfl ?_
  refine A_ladd C dX3_goOn_41 42 rfl ?_
  refine CVv C dX3_goOn_42 2 (of_3_0 k0) (by decide) (r := (RX2, TX2, 7)) rfl rfl hf (fun _ e => mX2_runTo (of_3_0 k0) k1 e) lkRX3_84 (by decide) (by decide) rfl [] rfl (Nat.le_of_ble_eq_true rfl) 45 rfl (fun h42 hf => ?_)
  refine A_aload_n C dX3_goOn_45 (i := 0) rfl 0 rfl 46 rfl ?_
  refine A_aload_n C dX3_goOn_46 (i := 0) rfl 0 rfl 47 rfl ?_
  refine A_aload_n C dX3_goOn_47 (i := 1) rfl 1 rfl 48 rfl ?_
  refine CVi C dX3_goOn_48 3 k0 (by decide) (r := (RX3, TX3, 5)) rfl rfl hf (fun _ _ e => mX3_lastAlike k0 k1 e) lkRX3_76 (by decide) (by decide) rfl [.ref (K.2.1 x0)] rfl (Nat.le_of_ble_eq_true rfl) 51 rfl (fun r48 h48 hf => ?_)
  refine pfRX3_42 C k0 dX3_goOn_51 54 rfl ?_
  exact A_vret C dX3_goOn_54 E hf
set_option maxRecDepth 20000 in
theorem wX3_firstMeeting_L11 {K : KX} {G : GX} (C : Ok K G 7 cX3_firstMeeting RX3) (hnl : G.2.2.2.2.2.2.2.2.2.2.2.2.2 = 7) {rv : Int32} {hv : HH} (E : Endd K G (some .int) (some (.int rv)) hv) {x0 : Nat} {x1 : Nat} {x3 : Int32} {x4 : Int32} {x5 : Int32}   (kx0 : isK 3 x0) (kx1 : isK 0 x1) : ∀ (self11 : Int32 → HH → Option (Int32 × HH)), (∀ (x6 : Int32) (h : HH), self11 x6 h = some (rv, hv) → At K G 11 [(0, .ref (K.2.1 x0)), (1, .ref (K.2.1 x1)), (3, .int x3), (4, .int x4), (5, .int x5), (6, .int x6)] [] h) → ∀ (x6 : Int32) (h : HH), fX3_firstMeeting_L11 x0 x1 x3 x4 x5 self11 x6 h = some (rv, hv) → At K G 11 [(0, .ref (K.2.1 x0)), (1, .ref (K.2.1 x1)), (3, .int x3), (4, .int x4), (5, .int x5), (6, .int x6)] [] h := by
  intro self11 Hself11 x6 h hf
  unfold fX3_firstMeeting_L11 at hf
  refine A_iload C dX3_firstMeeting_11 5 rfl 13 rfl ?_
  refine A_bipush (v := 29) C dX3_firstMeeting_13 (by decide) 15 rfl ?_
  refine A_icmp_ge C dX3_firstMeeting_15 56 (by decide) 18 rfl hf (fun c15 hf => ?_) (fun c15 hf => ?_)
  · refine A_bipush (v := (-2)) C dX3_firstMeeting_56 (by decide) 58 rfl ?_
    exact A_iret C dX3_firstMeeting_58 E hf
  refine A_aload_n C dX3_firstMeeting_18 (i := 0) rfl 0 rfl 19 rfl ?_
  refine gfRX3_22 C kx0 dX3_firstMeeting_19 22 rfl ?_
  refine A_iload C dX3_firstMeeting_22 4 rfl 24 rfl ?_
  refine A_icmp_gt C dX3_firstMeeting_24 56 (by decide) 27 rfl hf (fun c24 hf => ?_) (fun c24 hf => ?_)
  · refine A_bipush (v := (-2)) C dX3_firstMeeting_56 (by decide) 58 rfl ?_
    exact A_iret C dX3_firstMeeting_58 E hf
  refine A_aload_n C dX3_firstMeeting_27 (i := 0) rfl 0 rfl 28 rfl ?_
  refine gfRX3_12 C kx0 dX3_firstMeeting_28 31 rfl ?_
  refine A_iload_n C dX3_firstMeeting_31 (i := 3) rfl 2 rfl 32 rfl ?_
  refine A_iload C dX3_firstMeeting_32 3 rfl 34 rfl ?_
  refine CVz C dX3_firstMeeting_34 2 (of_3_0 kx0) (by decide) (r := (RX2, TX2, 7)) rfl rfl hf (fun _ _ e => mX2_haveMet (of_3_0 kx0) e) lkRX3_26 (by decide) (by decide) rfl [] rfl (Nat.le_of_ble_eq_true rfl) 37 rfl (fun r34 h34 hf => ?_)
  refine A_z_eq C dX3_firstMeeting_37 45 (by decide) 40 rfl hf (fun c37 hf => ?_) (fun c37 hf => ?_)
  · refine A_aload_n C dX3_firstMeeting_45 (i := 0) rfl 0 rfl 46 rfl ?_
    refine A_aload_n C dX3_firstMeeting_46 (i := 1) rfl 1 rfl 47 rfl ?_
    refine CVv C dX3_firstMeeting_47 3 kx0 (by decide) (r := (RX3, TX3, 5)) rfl rfl hf (fun _ e => mX3_goOn kx0 kx1 e) lkRX3_30 (by decide) (by decide) rfl [] rfl (Nat.le_of_ble_eq_true rfl) 50 rfl (fun h47 hf => ?_)
    refine A_iinc (v := (x6 + 1)) C dX3_firstMeeting_50 5 rfl rfl [(6, .int (x6 + 1)), (0, .ref (K.2.1 x0)), (1, .ref (K.2.1 x1)), (3, .int x3), (4, .int x4), (5, .int x5)] (lt_nl hnl (by decide)) rfl 53 rfl ?_
    refine A_goto C dX3_firstMeeting_53 11 (by decide) ?_
    refine A_sub [1, 2, 3, 4, 5, 0] (lv' := [(0, .ref (K.2.1 x0)), (1, .ref (K.2.1 x1)), (3, .int x3), (4, .int x4), (5, .int x5), (6, .int (x6 + 1))]) rfl ?_
    exact Hself11 _ _ hf
  refine A_aload_n C dX3_firstMeeting_40 (i := 0) rfl 0 rfl 41 rfl ?_
  refine gfRX3_22 C kx0 dX3_firstMeeting_41 44 rfl ?_
  exact A_iret C dX3_firstMeeting_44 E hf
set_option maxRecDepth 20000 in
theorem mX3_firstMeeting {K : KX} {x0 : Nat} {x1 : Nat} {x2 : Nat} {x3 : Int32} {x4 : Int32} {x5 : Int32} (k0 : isK 3 x0) (k1 : isK 0 x1) (k2 : isK 2 x2) {h : HH} {rv : Int32} {hv : HH} (hf : fX3_firstMeeting x0 x1 x2 x3 x4 x5 h = some (rv, hv)) : MR K yX3_firstMeeting cX3_firstMeeting 7 (some .int) 7 [.ref (K.2.1 x0), .ref (K.2.1 x1), .ref (K.2.1 x2), .int x3, .int x4, .int x5] h (some (.int rv)) hv := by
  refine MR_of (by decide) (Nat.le_of_ble_eq_true rfl) (fun G C E hnl => ?_)
  have C : Ok K G 7 cX3_firstMeeting RX3 := C
  refine (show At K G 0 [(0, .ref (K.2.1 x0)), (1, .ref (K.2.1 x1)), (2, .ref (K.2.1 x2)), (3, .int x3), (4, .int x4), (5, .int x5)] [] h from ?_)
  unfold fX3_firstMeeting at hf
  refine A_aload_n C dX3_firstMeeting_0 (i := 0) rfl 0 rfl 1 rfl ?_
  refine A_aload_n C dX3_firstMeeting_1 (i := 1) rfl 1 rfl 2 rfl ?_
  refine A_aload_n C dX3_firstMeeting_2 (i := 2) rfl 2 rfl 3 rfl ?_
  refine A_iload C dX3_firstMeeting_3 5 rfl 5 rfl ?_
  refine CVv C dX3_firstMeeting_5 3 k0 (by decide) (r := (RX3, TX3, 5)) rfl rfl hf (fun _ e => mX3_begin k0 k1 k2 e) lkRX3_18 (by decide) (by decide) rfl [] rfl (Nat.le_of_ble_eq_true rfl) 8 rfl (fun h5 hf => ?_)
  refine A_iconst (v := 0) C dX3_firstMeeting_8 (by decide) 9 rfl ?_
  refine A_istore C dX3_firstMeeting_9 [(6, .int 0), (0, .ref (K.2.1 x0)), (1, .ref (K.2.1 x1)), (2, .ref (K.2.1 x2)), (3, .int x3), (4, .int x4), (5, .int x5)] (lt_nl hnl (by decide)) rfl 11 rfl ?_
  refine A_sub [1, 2, 4, 5, 6, 0] (lv' := [(0, .ref (K.2.1 x0)), (1, .ref (K.2.1 x1)), (3, .int x3), (4, .int x4), (5, .int x5), (6, .int 0)]) rfl ?_
  refine lq1_at (wX3_firstMeeting_L11 C hnl E k0 k1) FU _ _ hf
set_option maxRecDepth 20000 in
theorem wX3_firstAwake_L11 {K : KX} {G : GX} (C : Ok K G 7 cX3_firstAwake RX3) (hnl : G.2.2.2.2.2.2.2.2.2.2.2.2.2 = 6) {rv : Int32} {hv : HH} (E : Endd K G (some .int) (some (.int rv)) hv) {x0 : Nat} {x1 : Nat} {x3 : Int32} {x4 : Int32}   (kx0 : isK 3 x0) (kx1 : isK 0 x1) : ∀ (self11 : Int32 → HH → Option (Int32 × HH)), (∀ (x5 : Int32) (h : HH), self11 x5 h = some (rv, hv) → At K G 11 [(0, .ref (K.2.1 x0)), (1, .ref (K.2.1 x1)), (3, .int x3), (4, .int x4), (5, .int x5)] [] h) → ∀ (x5 : Int32) (h : HH), fX3_firstAwake_L11 x0 x1 x3 x4 self11 x5 h = some (rv, hv) → At K G 11 [(0, .ref (K.2.1 x0)), (1, .ref (K.2.1 x1)), (3, .int x3), (4, .int x4), (5, .int x5)] [] h := by
  intro self11 Hself11 x5 h hf
  unfold fX3_firstAwake_L11 at hf
  refine A_iload C dX3_firstAwake_11 4 rfl 13 rfl ?_
  refine A_bipush (v := 29) C dX3_firstAwake_13 (by decide) 15 rfl ?_
  refine A_icmp_ge C dX3_firstAwake_15 55 (by decide) 18 rfl hf (fun c15 hf => ?_) (fun c15 hf => ?_)
  · refine A_bipush (v := (-2)) C dX3_firstAwake_55 (by decide) 57 rfl ?_
    exact A_iret C dX3_firstAwake_57 E hf
  refine A_aload_n C dX3_firstAwake_18 (i := 0) rfl 0 rfl 19 rfl ?_
  refine gfRX3_22 C kx0 dX3_firstAwake_19 22 rfl ?_
  refine A_iload C dX3_firstAwake_22 3 rfl 24 rfl ?_
  refine A_icmp_gt C dX3_firstAwake_24 55 (by decide) 27 rfl hf (fun c24 hf => ?_) (fun c24 hf => ?_)
  · refine A_bipush (v := (-2)) C dX3_firstAwake_55 (by decide) 57 rfl ?_
    exact A_iret C dX3_firstAwake_57 E hf
  refine A_aload_n C dX3_firstAwake_27 (i := 0) rfl 0 rfl 28 rfl ?_
  refine gfRX3_12 C kx0 dX3_firstAwake_28 31 rfl ?_
  refine gfRX3_34 C (of_3_0 kx0) dX3_firstAwake_31 34 rfl ?_
  refine A_iload_n C dX3_firstAwake_34 (i := 3) rfl 2 rfl 35 rfl ?_
  refine A_iald C dX3_firstAwake_35 (of_2_0 (of_3_0 kx0)) hf 36 rfl (fun hf => ?_)
  refine A_if_ne C dX3_firstAwake_36 44 (by decide) 39 rfl hf (fun c36 hf => ?_) (fun c36 hf => ?_)
  · refine A_aload_n C dX3_firstAwake_44 (i := 0) rfl 0 rfl 45 rfl ?_
    refine A_aload_n C dX3_firstAwake_45 (i := 1) rfl 1 rfl 46 rfl ?_
    refine CVv C dX3_firstAwake_46 3 kx0 (by decide) (r := (RX3, TX3, 5)) rfl rfl hf (fun _ e => mX3_goOn kx0 kx1 e) lkRX3_30 (by decide) (by decide) rfl [] rfl (Nat.le_of_ble_eq_true rfl) 49 rfl (fun h46 hf => ?_)
    refine A_iinc (v := (x5 + 1)) C dX3_firstAwake_49 4 rfl rfl [(5, .int (x5 + 1)), (0, .ref (K.2.1 x0)), (1, .ref (K.2.1 x1)), (3, .int x3), (4, .int x4)] (lt_nl hnl (by decide)) rfl 52 rfl ?_
    refine A_goto C dX3_firstAwake_52 11 (by decide) ?_
    refine A_sub [1, 2, 3, 4, 0] (lv' := [(0, .ref (K.2.1 x0)), (1, .ref (K.2.1 x1)), (3, .int x3), (4, .int x4), (5, .int (x5 + 1))]) rfl ?_
    exact Hself11 _ _ hf
  refine A_aload_n C dX3_firstAwake_39 (i := 0) rfl 0 rfl 40 rfl ?_
  refine gfRX3_22 C kx0 dX3_firstAwake_40 43 rfl ?_
  exact A_iret C dX3_firstAwake_43 E hf
set_option maxRecDepth 20000 in
theorem mX3_firstAwake {K : KX} {x0 : Nat} {x1 : Nat} {x2 : Nat} {x3 : Int32} {x4 : Int32} (k0 : isK 3 x0) (k1 : isK 0 x1) (k2 : isK 2 x2) {h : HH} {rv : Int32} {hv : HH} (hf : fX3_firstAwake x0 x1 x2 x3 x4 h = some (rv, hv)) : MR K yX3_firstAwake cX3_firstAwake 6 (some .int) 7 [.ref (K.2.1 x0), .ref (K.2.1 x1), .ref (K.2.1 x2), .int x3, .int x4] h (some (.int rv)) hv := by
  refine MR_of (by decide) (Nat.le_of_ble_eq_true rfl) (fun G C E hnl => ?_)
  have C : Ok K G 7 cX3_firstAwake RX3 := C
  refine (show At K G 0 [(0, .ref (K.2.1 x0)), (1, .ref (K.2.1 x1)), (2, .ref (K.2.1 x2)), (3, .int x3), (4, .int x4)] [] h from ?_)
  unfold fX3_firstAwake at hf
  refine A_aload_n C dX3_firstAwake_0 (i := 0) rfl 0 rfl 1 rfl ?_
  refine A_aload_n C dX3_firstAwake_1 (i := 1) rfl 1 rfl 2 rfl ?_
  refine A_aload_n C dX3_firstAwake_2 (i := 2) rfl 2 rfl 3 rfl ?_
  refine A_iload C dX3_firstAwake_3 4 rfl 5 rfl ?_
  refine CVv C dX3_firstAwake_5 3 k0 (by decide) (r := (RX3, TX3, 5)) rfl rfl hf (fun _ e => mX3_begin k0 k1 k2 e) lkRX3_18 (by decide) (by decide) rfl [] rfl (Nat.le_of_ble_eq_true rfl) 8 rfl (fun h5 hf => ?_)
  refine A_iconst (v := 0) C dX3_firstAwake_8 (by decide) 9 rfl ?_
  refine A_istore C dX3_firstAwake_9 [(5, .int 0), (0, .ref (K.2.1 x0)), (1, .ref (K.2.1 x1)), (2, .ref (K.2.1 x2)), (3, .int x3), (4, .int x4)] (lt_nl hnl (by decide)) rfl 11 rfl ?_
  refine A_sub [1, 2, 4, 5, 0] (lv' := [(0, .ref (K.2.1 x0)), (1, .ref (K.2.1 x1)), (3, .int x3), (4, .int x4), (5, .int 0)]) rfl ?_
  refine lq1_at (wX3_firstAwake_L11 C hnl E k0 k1) FU _ _ hf
set_option maxRecDepth 20000 in
theorem wX3_countLonely_L14 {K : KX} {G : GX} (C : Ok K G 7 cX3_countLonely RX3) (hnl : G.2.2.2.2.2.2.2.2.2.2.2.2.2 = 7) {rv : Int32} {hv : HH} (E : Endd K G (some .int) (some (.int rv)) hv) {x0 : Nat} {x1 : Nat} {x3 : Int32} {x4 : Int32}   (kx0 : isK 3 x0) (kx1 : isK 0 x1) : ∀ (self14 : Int32 → Int32 → HH → Option (Int32 × HH)), (∀ (x5 : Int32) (x6 : Int32) (h : HH), self14 x5 x6 h = some (rv, hv) → At K G 14 [(0, .ref (K.2.1 x0)), (1, .ref (K.2.1 x1)), (3, .int x3), (4, .int x4), (5, .int x5), (6, .int x6)] [] h) → ∀ (x5 : Int32) (x6 : Int32) (h : HH), fX3_countLonely_L14 x0 x1 x3 x4 self14 x5 x6 h = some (rv, hv) → At K G 14 [(0, .ref (K.2.1 x0)), (1, .ref (K.2.1 x1)), (3, .int x3), (4, .int x4), (5, .int x5), (6, .int x6)] [] h := by
  intro self14 Hself14 x5 x6 h hf
  unfold fX3_countLonely_L14 at hf
  refine A_iload C dX3_countLonely_14 5 rfl 16 rfl ?_
  refine A_bipush (v := 29) C dX3_countLonely_16 (by decide) 18 rfl ?_
  refine A_icmp_ge C dX3_countLonely_18 74 (by decide) 21 rfl hf (fun c18 hf => ?_) (fun c18 hf => ?_)
  · refine A_iload C dX3_countLonely_74 4 rfl 76 rfl ?_
    exact A_iret C dX3_countLonely_76 E hf
  refine A_aload_n C dX3_countLonely_21 (i := 0) rfl 0 rfl 22 rfl ?_
  refine gfRX3_22 C kx0 dX3_countLonely_22 25 rfl ?_
  refine A_iload C dX3_countLonely_25 3 rfl 27 rfl ?_
  refine A_icmp_gt C dX3_countLonely_27 74 (by decide) 30 rfl hf (fun c27 hf => ?_) (fun c27 hf => ?_)
  · refine A_iload C dX3_countLonely_74 4 rfl 76 rfl ?_
    exact A_iret C dX3_countLonely_76 E hf
  refine A_aload_n C dX3_countLonely_30 (i := 0) rfl 0 rfl 31 rfl ?_
  refine gfRX3_12 C kx0 dX3_countLonely_31 34 rfl ?_
  refine A_aload_n C dX3_countLonely_34 (i := 1) rfl 1 rfl 35 rfl ?_
  refine A_iload_n C dX3_countLonely_35 (i := 3) rfl 2 rfl 36 rfl ?_
  refine CVi C dX3_countLonely_36 2 (of_3_0 kx0) (by decide) (r := (RX2, TX2, 7)) rfl rfl hf (fun _ _ e => mX2_companyOf (of_3_0 kx0) kx1 e) lkRX3_38 (by decide) (by decide) rfl [] rfl (Nat.le_of_ble_eq_true rfl) 39 rfl (fun r36 h36 hf => ?_)
  refine A_iconst (v := 1) C dX3_countLonely_39 (by decide) 40 rfl ?_
  refine A_icmp_ne C dX3_countLonely_40 63 (by decide) 43 rfl hf (fun c40 hf => ?_) (fun c40 hf => ?_)
  · refine A_aload_n C dX3_countLonely_63 (i := 0) rfl 0 rfl 64 rfl ?_
    refine A_aload_n C dX3_countLonely_64 (i := 1) rfl 1 rfl 65 rfl ?_
    refine CVv C dX3_countLonely_65 3 kx0 (by decide) (r := (RX3, TX3, 5)) rfl rfl hf (fun _ e => mX3_goOn kx0 kx1 e) lkRX3_30 (by decide) (by decide) rfl [] rfl (Nat.le_of_ble_eq_true rfl) 68 rfl (fun h65 hf => ?_)
    refine A_iinc (v := (x6 + 1)) C dX3_countLonely_68 5 rfl rfl [(6, .int (x6 + 1)), (0, .ref (K.2.1 x0)), (1, .ref (K.2.1 x1)), (3, .int x3), (4, .int x4), (5, .int x5)] (lt_nl hnl (by decide)) rfl 71 rfl ?_
    refine A_goto C dX3_countLonely_71 14 (by decide) ?_
    refine A_sub [1, 2, 3, 4, 5, 0] (lv' := [(0, .ref (K.2.1 x0)), (1, .ref (K.2.1 x1)), (3, .int x3), (4, .int x4), (5, .int x5), (6, .int (x6 + 1))]) rfl ?_
    exact Hself14 _ _ _ hf
  refine A_iload C dX3_countLonely_43 4 rfl 45 rfl ?_
  refine A_aload_n C dX3_countLonely_45 (i := 0) rfl 0 rfl 46 rfl ?_
  refine gfRX3_42 C kx0 dX3_countLonely_46 49 rfl ?_
  refine A_aload_n C dX3_countLonely_49 (i := 0) rfl 0 rfl 50 rfl ?_
  refine gfRX3_22 C kx0 dX3_countLonely_50 53 rfl ?_
  refine A_iconst (v := 1) C dX3_countLonely_53 (by decide) 54 rfl ?_
  refine A_mmax C dX3_countLonely_54 mlRX3_45 stmmax iniMath commax (by decide) (Nat.le_of_ble_eq_true rfl) 57 rfl ?_
  refine A_isub C dX3_countLonely_57 58 rfl ?_
  refine A_iconst (v := 1) C dX3_countLonely_58 (by decide) 59 rfl ?_
  refine A_iadd C dX3_countLonely_59 60 rfl ?_
  refine A_iadd C dX3_countLonely_60 61 rfl ?_
  refine A_namI hf (fun y1 hf => ?_)
  refine A_istore C dX3_countLonely_61 [(5, .int y1), (0, .ref (K.2.1 x0)), (1, .ref (K.2.1 x1)), (3, .int x3), (4, .int x4), (6, .int x6)] (lt_nl hnl (by decide)) rfl 63 rfl ?_
  refine A_aload_n C dX3_countLonely_63 (i := 0) rfl 1 rfl 64 rfl ?_
  refine A_aload_n C dX3_countLonely_64 (i := 1) rfl 2 rfl 65 rfl ?_
  refine CVv C dX3_countLonely_65 3 kx0 (by decide) (r := (RX3, TX3, 5)) rfl rfl hf (fun _ e => mX3_goOn kx0 kx1 e) lkRX3_30 (by decide) (by decide) rfl [] rfl (Nat.le_of_ble_eq_true rfl) 68 rfl (fun h65 hf => ?_)
  refine A_iinc (v := (x6 + 1)) C dX3_countLonely_68 5 rfl rfl [(6, .int (x6 + 1)), (5, .int y1), (0, .ref (K.2.1 x0)), (1, .ref (K.2.1 x1)), (3, .int x3), (4, .int x4)] (lt_nl hnl (by decide)) rfl 71 rfl ?_
  refine A_goto C dX3_countLonely_71 14 (by decide) ?_
  refine A_sub [2, 3, 4, 5, 1, 0] (lv' := [(0, .ref (K.2.1 x0)), (1, .ref (K.2.1 x1)), (3, .int x3), (4, .int x4), (5, .int y1), (6, .int (x6 + 1))]) rfl ?_
  exact Hself14 _ _ _ hf
set_option maxRecDepth 20000 in
theorem mX3_countLonely {K : KX} {x0 : Nat} {x1 : Nat} {x2 : Nat} {x3 : Int32} {x4 : Int32} (k0 : isK 3 x0) (k1 : isK 0 x1) (k2 : isK 2 x2) {h : HH} {rv : Int32} {hv : HH} (hf : fX3_countLonely x0 x1 x2 x3 x4 h = some (rv, hv)) : MR K yX3_countLonely cX3_countLonely 7 (some .int) 7 [.ref (K.2.1 x0), .ref (K.2.1 x1), .ref (K.2.1 x2), .int x3, .int x4] h (some (.int rv)) hv := by
  refine MR_of (by decide) (Nat.le_of_ble_eq_true rfl) (fun G C E hnl => ?_)
  have C : Ok K G 7 cX3_countLonely RX3 := C
  refine (show At K G 0 [(0, .ref (K.2.1 x0)), (1, .ref (K.2.1 x1)), (2, .ref (K.2.1 x2)), (3, .int x3), (4, .int x4)] [] h from ?_)
  unfold fX3_countLonely at hf
  refine A_iconst (v := 0) C dX3_countLonely_0 (by decide) 1 rfl ?_
  refine A_istore C dX3_countLonely_1 [(5, .int 0), (0, .ref (K.2.1 x0)), (1, .ref (K.2.1 x1)), (2, .ref (K.2.1 x2)), (3, .int x3), (4, .int x4)] (lt_nl hnl (by decide)) rfl 3 rfl ?_
  refine A_aload_n C dX3_countLonely_3 (i := 0) rfl 1 rfl 4 rfl ?_
  refine A_aload_n C dX3_countLonely_4 (i := 1) rfl 2 rfl 5 rfl ?_
  refine A_aload_n C dX3_countLonely_5 (i := 2) rfl 3 rfl 6 rfl ?_
  refine A_iload C dX3_countLonely_6 5 rfl 8 rfl ?_
  refine CVv C dX3_countLonely_8 3 k0 (by decide) (r := (RX3, TX3, 5)) rfl rfl hf (fun _ e => mX3_begin k0 k1 k2 e) lkRX3_18 (by decide) (by decide) rfl [] rfl (Nat.le_of_ble_eq_true rfl) 11 rfl (fun h8 hf => ?_)
  refine A_iconst (v := 0) C dX3_countLonely_11 (by decide) 12 rfl ?_
  refine A_istore C dX3_countLonely_12 [(6, .int 0), (5, .int 0), (0, .ref (K.2.1 x0)), (1, .ref (K.2.1 x1)), (2, .ref (K.2.1 x2)), (3, .int x3), (4, .int x4)] (lt_nl hnl (by decide)) rfl 14 rfl ?_
  refine A_sub [2, 3, 5, 6, 1, 0] (lv' := [(0, .ref (K.2.1 x0)), (1, .ref (K.2.1 x1)), (3, .int x3), (4, .int x4), (5, .int 0), (6, .int 0)]) rfl ?_
  refine lq2_at (wX3_countLonely_L14 C hnl E k0 k1) FU _ _ _ hf
set_option maxRecDepth 20000 in
theorem wX3_mostTogether_L31 {K : KX} {G : GX} (C : Ok K G 7 cX3_mostTogether RX3) (hnl : G.2.2.2.2.2.2.2.2.2.2.2.2.2 = 7) {rv : Int32} {hv : HH} (E : Endd K G (some .int) (some (.int rv)) hv) {x0 : Nat} {x1 : Nat} {x3 : Int32} {x5 : Int32} {k31_66 : Int32 → HH → Option (Int32 × HH)}  (Hk31_66 : ∀ (x4 : Int32) (h : HH), k31_66 x4 h = some (rv, hv) → At K G 66 [(0, .ref (K.2.1 x0)), (1, .ref (K.2.1 x1)), (3, .int x3), (4, .int x4), (5, .int x5)] [] h) (kx0 : isK 3 x0) (kx1 : isK 0 x1) : ∀ (self31 : Int32 → Int32 → HH → Option (Int32 × HH)), (∀ (x4 : Int32) (x6 : Int32) (h : HH), self31 x4 x6 h = some (rv, hv) → At K G 31 [(0, .ref (K.2.1 x0)), (1, .ref (K.2.1 x1)), (3, .int x3), (4, .int x4), (5, .int x5), (6, .int x6)] [] h) → ∀ (x4 : Int32) (x6 : Int32) (h : HH), fX3_mostTogether_L31 k31_66 x0 x1 x3 x5 self31 x4 x6 h = some (rv, hv) → At K G 31 [(0, .ref (K.2.1 x0)), (1, .ref (K.2.1 x1)), (3, .int x3), (4, .int x4), (5, .int x5), (6, .int x6)] [] h := by
  intro self31 Hself31 x4 x6 h hf
  unfold fX3_mostTogether_L31 at hf
  refine A_iload C dX3_mostTogether_31 5 rfl 33 rfl ?_
  refine A_aload_n C dX3_mostTogether_33 (i := 1) rfl 1 rfl 34 rfl ?_
  refine gfRX3_51 C kx1 dX3_mostTogether_34 37 rfl ?_
  refine gfRX3_57 C (of_0_3 kx1) dX3_mostTogether_37 40 rfl ?_
  refine A_icmp_ge C dX3_mostTogether_40 66 (by decide) 43 rfl hf (fun c40 hf => ?_) (fun c40 hf => ?_)
  · refine A_sub [0, 1, 2, 3, 4] (lv' := [(0, .ref (K.2.1 x0)), (1, .ref (K.2.1 x1)), (3, .int x3), (4, .int x4), (5, .int x5)]) rfl ?_
    exact Hk31_66 _ _ hf
  refine A_iload C dX3_mostTogether_43 3 rfl 45 rfl ?_
  refine A_aload_n C dX3_mostTogether_45 (i := 0) rfl 0 rfl 46 rfl ?_
  refine gfRX3_12 C kx0 dX3_mostTogether_46 49 rfl ?_
  refine A_aload_n C dX3_mostTogether_49 (i := 1) rfl 1 rfl 50 rfl ?_
  refine A_iload C dX3_mostTogether_50 5 rfl 52 rfl ?_
  refine CVi C dX3_mostTogether_52 2 (of_3_0 kx0) (by decide) (r := (RX2, TX2, 7)) rfl rfl hf (fun _ _ e => mX2_companyOf (of_3_0 kx0) kx1 e) lkRX3_38 (by decide) (by decide) rfl [.int x4] rfl (Nat.le_of_ble_eq_true rfl) 55 rfl (fun r52 h52 hf => ?_)
  refine A_mmax C dX3_mostTogether_55 mlRX3_45 stmmax iniMath commax (by decide) (Nat.le_of_ble_eq_true rfl) 58 rfl ?_
  refine A_namI hf (fun y1 hf => ?_)
  refine A_istore C dX3_mostTogether_58 [(4, .int y1), (0, .ref (K.2.1 x0)), (1, .ref (K.2.1 x1)), (3, .int x3), (5, .int x5), (6, .int x6)] (lt_nl hnl (by decide)) rfl 60 rfl ?_
  refine A_iinc (v := (x6 + 1)) C dX3_mostTogether_60 5 rfl rfl [(6, .int (x6 + 1)), (4, .int y1), (0, .ref (K.2.1 x0)), (1, .ref (K.2.1 x1)), (3, .int x3), (5, .int x5)] (lt_nl hnl (by decide)) rfl 63 rfl ?_
  refine A_goto C dX3_mostTogether_63 31 (by decide) ?_
  refine A_sub [2, 3, 4, 1, 5, 0] (lv' := [(0, .ref (K.2.1 x0)), (1, .ref (K.2.1 x1)), (3, .int x3), (4, .int y1), (5, .int x5), (6, .int (x6 + 1))]) rfl ?_
  exact Hself31 _ _ _ hf
set_option maxRecDepth 20000 in
theorem wX3_mostTogether_L13 {K : KX} {G : GX} (C : Ok K G 7 cX3_mostTogether RX3) (hnl : G.2.2.2.2.2.2.2.2.2.2.2.2.2 = 7) {rv : Int32} {hv : HH} (E : Endd K G (some .int) (some (.int rv)) hv) {x0 : Nat} {x1 : Nat} {x3 : Int32}   (kx0 : isK 3 x0) (kx1 : isK 0 x1) : ∀ (self13 : Int32 → Int32 → HH → Option (Int32 × HH)), (∀ (x4 : Int32) (x5 : Int32) (h : HH), self13 x4 x5 h = some (rv, hv) → At K G 13 [(0, .ref (K.2.1 x0)), (1, .ref (K.2.1 x1)), (3, .int x3), (4, .int x4), (5, .int x5)] [] h) → ∀ (x4 : Int32) (x5 : Int32) (h : HH), fX3_mostTogether_L13 x0 x1 x3 self13 x4 x5 h = some (rv, hv) → At K G 13 [(0, .ref (K.2.1 x0)), (1, .ref (K.2.1 x1)), (3, .int x3), (4, .int x4), (5, .int x5)] [] h := by
  intro self13 Hself13 x4 x5 h hf
  unfold fX3_mostTogether_L13 at hf
  refine A_iload C dX3_mostTogether_13 4 rfl 15 rfl ?_
  refine A_bipush (v := 29) C dX3_mostTogether_15 (by decide) 17 rfl ?_
  refine A_icmp_ge C dX3_mostTogether_17 77 (by decide) 20 rfl hf (fun c17 hf => ?_) (fun c17 hf => ?_)
  · refine A_iload C dX3_mostTogether_77 3 rfl 79 rfl ?_
    exact A_iret C dX3_mostTogether_79 E hf
  refine A_aload_n C dX3_mostTogether_20 (i := 0) rfl 0 rfl 21 rfl ?_
  refine gfRX3_22 C kx0 dX3_mostTogether_21 24 rfl ?_
  refine A_iload_n C dX3_mostTogether_24 (i := 3) rfl 2 rfl 25 rfl ?_
  refine A_icmp_gt C dX3_mostTogether_25 77 (by decide) 28 rfl hf (fun c25 hf => ?_) (fun c25 hf => ?_)
  · refine A_iload C dX3_mostTogether_77 3 rfl 79 rfl ?_
    exact A_iret C dX3_mostTogether_79 E hf
  refine A_iconst (v := 0) C dX3_mostTogether_28 (by decide) 29 rfl ?_
  refine A_istore C dX3_mostTogether_29 [(6, .int 0), (0, .ref (K.2.1 x0)), (1, .ref (K.2.1 x1)), (3, .int x3), (4, .int x4), (5, .int x5)] (lt_nl hnl (by decide)) rfl 31 rfl ?_
  refine A_sub [1, 2, 3, 4, 5, 0] (lv' := [(0, .ref (K.2.1 x0)), (1, .ref (K.2.1 x1)), (3, .int x3), (4, .int x4), (5, .int x5), (6, .int 0)]) rfl ?_
  refine lq2_at (wX3_mostTogether_L31 C hnl E (fun x4 h hf => ?_) kx0 kx1) FU _ _ _ hf
  refine A_aload_n C dX3_mostTogether_66 (i := 0) rfl 0 rfl 67 rfl ?_
  refine A_aload_n C dX3_mostTogether_67 (i := 1) rfl 1 rfl 68 rfl ?_
  refine CVv C dX3_mostTogether_68 3 kx0 (by decide) (r := (RX3, TX3, 5)) rfl rfl hf (fun _ e => mX3_goOn kx0 kx1 e) lkRX3_30 (by decide) (by decide) rfl [] rfl (Nat.le_of_ble_eq_true rfl) 71 rfl (fun h68 hf => ?_)
  refine A_iinc (v := (x5 + 1)) C dX3_mostTogether_71 4 rfl rfl [(5, .int (x5 + 1)), (0, .ref (K.2.1 x0)), (1, .ref (K.2.1 x1)), (3, .int x3), (4, .int x4)] (lt_nl hnl (by decide)) rfl 74 rfl ?_
  refine A_goto C dX3_mostTogether_74 13 (by decide) ?_
  refine A_sub [1, 2, 3, 4, 0] (lv' := [(0, .ref (K.2.1 x0)), (1, .ref (K.2.1 x1)), (3, .int x3), (4, .int x4), (5, .int (x5 + 1))]) rfl ?_
  exact Hself13 _ _ _ hf
set_option maxRecDepth 20000 in
theorem mX3_mostTogether {K : KX} {x0 : Nat} {x1 : Nat} {x2 : Nat} {x3 : Int32} (k0 : isK 3 x0) (k1 : isK 0 x1) (k2 : isK 2 x2) {h : HH} {rv : Int32} {hv : HH} (hf : fX3_mostTogether x0 x1 x2 x3 h = some (rv, hv)) : MR K yX3_mostTogether cX3_mostTogether 7 (some .int) 7 [.ref (K.2.1 x0), .ref (K.2.1 x1), .ref (K.2.1 x2), .int x3] h (some (.int rv)) hv := by
  refine MR_of (by decide) (Nat.le_of_ble_eq_true rfl) (fun G C E hnl => ?_)
  have C : Ok K G 7 cX3_mostTogether RX3 := C
  refine (show At K G 0 [(0, .ref (K.2.1 x0)), (1, .ref (K.2.1 x1)), (2, .ref (K.2.1 x2)), (3, .int x3)] [] h from ?_)
  unfold fX3_mostTogether at hf
  refine A_iconst (v := 0) C dX3_mostTogether_0 (by decide) 1 rfl ?_
  refine A_istore C dX3_mostTogether_1 [(4, .int 0), (0, .ref (K.2.1 x0)), (1, .ref (K.2.1 x1)), (2, .ref (K.2.1 x2)), (3, .int x3)] (lt_nl hnl (by decide)) rfl 3 rfl ?_
  refine A_aload_n C dX3_mostTogether_3 (i := 0) rfl 1 rfl 4 rfl ?_
  refine A_aload_n C dX3_mostTogether_4 (i := 1) rfl 2 rfl 5 rfl ?_
  refine A_aload_n C dX3_mostTogether_5 (i := 2) rfl 3 rfl 6 rfl ?_
  refine A_iload_n C dX3_mostTogether_6 (i := 3) rfl 4 rfl 7 rfl ?_
  refine CVv C dX3_mostTogether_7 3 k0 (by decide) (r := (RX3, TX3, 5)) rfl rfl hf (fun _ e => mX3_begin k0 k1 k2 e) lkRX3_18 (by decide) (by decide) rfl [] rfl (Nat.le_of_ble_eq_true rfl) 10 rfl (fun h7 hf => ?_)
  refine A_iconst (v := 0) C dX3_mostTogether_10 (by decide) 11 rfl ?_
  refine A_istore C dX3_mostTogether_11 [(5, .int 0), (4, .int 0), (0, .ref (K.2.1 x0)), (1, .ref (K.2.1 x1)), (2, .ref (K.2.1 x2)), (3, .int x3)] (lt_nl hnl (by decide)) rfl 13 rfl ?_
  refine A_sub [2, 3, 5, 1, 0] (lv' := [(0, .ref (K.2.1 x0)), (1, .ref (K.2.1 x1)), (3, .int x3), (4, .int 0), (5, .int 0)]) rfl ?_
  refine lq2_at (wX3_mostTogether_L13 C hnl E k0 k1) FU _ _ _ hf
