set_option maxRecDepth 20000 in
theorem wX8_feedNumber_L3 {K : KX} {G : GX} (C : Ok K G 1 cX8_feedNumber RX8) (hnl : G.2.2.2.2.2.2.2.2.2.2.2.2.2 = 3) {rv : HH} (E : Endd K G none none rv) {x0 : Nat} {x1 : Int32}   (kx0 : isK 8 x0) : ∀ (self3 : Int32 → HH → Option (HH)), (∀ (x2 : Int32) (h : HH), self3 x2 h = some rv → At K G 3 [(0, .ref (K.2.1 x0)), (1, .int x1), (2, .int x2)] [] h) → ∀ (x2 : Int32) (h : HH), fX8_feedNumber_L3 x0 x1 self3 x2 h = some rv → At K G 3 [(0, .ref (K.2.1 x0)), (1, .int x1), (2, .int x2)] [] h := by
  intro self3 Hself3 x2 h hf
  unfold fX8_feedNumber_L3 at hf
  refine A_iload_n C dX8_feedNumber_3 (i := 2) rfl 2 rfl 4 rfl ?_
  refine A_if_lt C dX8_feedNumber_4 46 (by decide) 7 rfl hf (fun c4 hf => ?_) (fun c4 hf => ?_)
  · exact A_vret C dX8_feedNumber_46 E hf
  refine A_aload_n C dX8_feedNumber_7 (i := 0) rfl 0 rfl 8 rfl ?_
  refine gfRX8_75 C kx0 dX8_feedNumber_8 11 rfl ?_
  refine A_sipush (v := 1000) C dX8_feedNumber_11 (by decide) 14 rfl ?_
  refine A_icmp_ge C dX8_feedNumber_14 46 (by decide) 17 rfl hf (fun c14 hf => ?_) (fun c14 hf => ?_)
  · exact A_vret C dX8_feedNumber_46 E hf
  refine A_aload_n C dX8_feedNumber_17 (i := 0) rfl 0 rfl 18 rfl ?_
  refine gfRX8_9 C kx0 dX8_feedNumber_18 21 rfl ?_
  refine A_aload_n C dX8_feedNumber_21 (i := 0) rfl 0 rfl 22 rfl ?_
  refine gfRX8_75 C kx0 dX8_feedNumber_22 25 rfl ?_
  refine A_iload_n C dX8_feedNumber_25 (i := 1) rfl 1 rfl 26 rfl ?_
  refine A_iload_n C dX8_feedNumber_26 (i := 2) rfl 2 rfl 27 rfl ?_
  refine A_iushr C dX8_feedNumber_27 28 rfl ?_
  refine A_i2b C dX8_feedNumber_28 29 rfl ?_
  refine A_bast C dX8_feedNumber_29 (of_8_0 kx0) hf 30 rfl (fun hf => ?_)
  refine A_namH hf (fun g1 hf => ?_)
  refine A_aload_n C dX8_feedNumber_30 (i := 0) rfl 0 rfl 31 rfl ?_
  refine A_dup C dX8_feedNumber_31 rfl 32 rfl ?_
  refine gfRX8_75 C kx0 dX8_feedNumber_32 35 rfl ?_
  refine A_iconst (v := 1) C dX8_feedNumber_35 (by decide) 36 rfl ?_
  refine A_iadd C dX8_feedNumber_36 37 rfl ?_
  refine pfRX8_75 C kx0 dX8_feedNumber_37 40 rfl ?_
  refine A_iinc (v := (x2 + (-8))) C dX8_feedNumber_40 2 rfl rfl [(2, .int (x2 + (-8))), (0, .ref (K.2.1 x0)), (1, .int x1)] (lt_nl hnl (by decide)) rfl 43 rfl ?_
  refine A_goto C dX8_feedNumber_43 3 (by decide) ?_
  refine A_sub [1, 2, 0] (lv' := [(0, .ref (K.2.1 x0)), (1, .int x1), (2, .int (x2 + (-8)))]) rfl ?_
  exact Hself3 _ _ hf
set_option maxRecDepth 20000 in
theorem mX8_feedNumber {K : KX} {x0 : Nat} {x1 : Int32} (k0 : isK 8 x0) {h : HH} {rv : HH} (hf : fX8_feedNumber x0 x1 h = some rv) : MR K yX8_feedNumber cX8_feedNumber 3 none 1 [.ref (K.2.1 x0), .int x1] h none rv := by
  refine MR_of (by decide) (Nat.le_of_ble_eq_true rfl) (fun G C E hnl => ?_)
  have C : Ok K G 1 cX8_feedNumber RX8 := C
  refine (show At K G 0 [(0, .ref (K.2.1 x0)), (1, .int x1)] [] h from ?_)
  unfold fX8_feedNumber at hf
  refine A_bipush (v := 24) C dX8_feedNumber_0 (by decide) 2 rfl ?_
  refine A_istore_n C dX8_feedNumber_2 (i := 2) rfl [(2, .int 24), (0, .ref (K.2.1 x0)), (1, .int x1)] (lt_nl hnl (by decide)) rfl 3 rfl ?_
  refine A_sub [1, 2, 0] (lv' := [(0, .ref (K.2.1 x0)), (1, .int x1), (2, .int 24)]) rfl ?_
  refine lq1_at (wX8_feedNumber_L3 C hnl E k0) FU _ _ hf
set_option maxRecDepth 20000 in
theorem mX8_feed {K : KX} {x0 : Nat} {x1 : Int32} {x2 : Int32} {x3 : Int32} {x4 : Int32} {x5 : Int32} (k0 : isK 8 x0) {h : HH} {rv : Int32} {hv : HH} (hf : fX8_feed x0 x1 x2 x3 x4 x5 h = some (rv, hv)) : MR K yX8_feed cX8_feed 6 (some .int) 2 [.ref (K.2.1 x0), .int x1, .int x2, .int x3, .int x4, .int x5] h (some (.int rv)) hv := by
  refine MR_of (by decide) (Nat.le_of_ble_eq_true rfl) (fun G C E hnl => ?_)
  have C : Ok K G 2 cX8_feed RX8 := C
  refine (show At K G 0 [(0, .ref (K.2.1 x0)), (1, .int x1), (2, .int x2), (3, .int x3), (4, .int x4), (5, .int x5)] [] h from ?_)
  unfold fX8_feed at hf
  refine A_aload_n C dX8_feed_0 (i := 0) rfl 0 rfl 1 rfl ?_
  refine gfRX8_75 C k0 dX8_feed_1 4 rfl ?_
  refine A_bipush (v := 20) C dX8_feed_4 (by decide) 6 rfl ?_
  refine A_iadd C dX8_feed_6 7 rfl ?_
  refine A_sipush (v := 1000) C dX8_feed_7 (by decide) 10 rfl ?_
  refine A_icmp_le C dX8_feed_10 15 (by decide) 13 rfl hf (fun c10 hf => ?_) (fun c10 hf => ?_)
  · refine A_aload_n C dX8_feed_15 (i := 0) rfl 0 rfl 16 rfl ?_
    refine A_iload_n C dX8_feed_16 (i := 1) rfl 1 rfl 17 rfl ?_
    refine CVv C dX8_feed_17 8 k0 (by decide) (r := (RX8, TX8, 19)) rfl rfl hf (fun _ e => mX8_feedNumber k0 e) lkRX8_79 (by decide) (by decide) rfl [] rfl (Nat.le_of_ble_eq_true rfl) 20 rfl (fun h17 hf => ?_)
    refine A_aload_n C dX8_feed_20 (i := 0) rfl 0 rfl 21 rfl ?_
    refine A_iload_n C dX8_feed_21 (i := 2) rfl 2 rfl 22 rfl ?_
    refine CVv C dX8_feed_22 8 k0 (by decide) (r := (RX8, TX8, 19)) rfl rfl hf (fun _ e => mX8_feedNumber k0 e) lkRX8_79 (by decide) (by decide) rfl [] rfl (Nat.le_of_ble_eq_true rfl) 25 rfl (fun h22 hf => ?_)
    refine A_aload_n C dX8_feed_25 (i := 0) rfl 0 rfl 26 rfl ?_
    refine A_iload_n C dX8_feed_26 (i := 3) rfl 3 rfl 27 rfl ?_
    refine CVv C dX8_feed_27 8 k0 (by decide) (r := (RX8, TX8, 19)) rfl rfl hf (fun _ e => mX8_feedNumber k0 e) lkRX8_79 (by decide) (by decide) rfl [] rfl (Nat.le_of_ble_eq_true rfl) 30 rfl (fun h27 hf => ?_)
    refine A_aload_n C dX8_feed_30 (i := 0) rfl 0 rfl 31 rfl ?_
    refine A_iload C dX8_feed_31 4 rfl 33 rfl ?_
    refine CVv C dX8_feed_33 8 k0 (by decide) (r := (RX8, TX8, 19)) rfl rfl hf (fun _ e => mX8_feedNumber k0 e) lkRX8_79 (by decide) (by decide) rfl [] rfl (Nat.le_of_ble_eq_true rfl) 36 rfl (fun h33 hf => ?_)
    refine A_aload_n C dX8_feed_36 (i := 0) rfl 0 rfl 37 rfl ?_
    refine A_iload C dX8_feed_37 5 rfl 39 rfl ?_
    refine CVv C dX8_feed_39 8 k0 (by decide) (r := (RX8, TX8, 19)) rfl rfl hf (fun _ e => mX8_feedNumber k0 e) lkRX8_79 (by decide) (by decide) rfl [] rfl (Nat.le_of_ble_eq_true rfl) 42 rfl (fun h39 hf => ?_)
    refine A_aload_n C dX8_feed_42 (i := 0) rfl 0 rfl 43 rfl ?_
    refine gfRX8_75 C k0 dX8_feed_43 46 rfl ?_
    exact A_iret C dX8_feed_46 E hf
  refine A_iconst (v := (-1)) C dX8_feed_13 (by decide) 14 rfl ?_
  exact A_iret C dX8_feed_14 E hf
set_option maxRecDepth 20000 in
theorem mX8_refuse {K : KX} {x0 : Nat} {x1 : Int32} (k0 : isK 8 x0) {h : HH} {rv : Int32} {hv : HH} (hf : fX8_refuse x0 x1 h = some (rv, hv)) : MR K yX8_refuse cX8_refuse 2 (some .int) 1 [.ref (K.2.1 x0), .int x1] h (some (.int rv)) hv := by
  refine MR_of (by decide) (Nat.le_of_ble_eq_true rfl) (fun G C E hnl => ?_)
  have C : Ok K G 1 cX8_refuse RX8 := C
  refine (show At K G 0 [(0, .ref (K.2.1 x0)), (1, .int x1)] [] h from ?_)
  unfold fX8_refuse at hf
  refine A_aload_n C dX8_refuse_0 (i := 0) rfl 0 rfl 1 rfl ?_
  refine A_iload_n C dX8_refuse_1 (i := 1) rfl 1 rfl 2 rfl ?_
  refine pfRX8_128 C k0 dX8_refuse_2 5 rfl ?_
  refine A_iconst (v := (-1)) C dX8_refuse_5 (by decide) 6 rfl ?_
  exact A_iret C dX8_refuse_6 E hf
set_option maxRecDepth 20000 in
theorem mX8_allow {K : KX} {x0 : Nat} {x1 : Int32} (k0 : isK 8 x0) {h : HH} {rv : Int32} {hv : HH} (hf : fX8_allow x0 x1 h = some (rv, hv)) : MR K yX8_allow cX8_allow 2 (some .int) 1 [.ref (K.2.1 x0), .int x1] h (some (.int rv)) hv := by
  refine MR_of (by decide) (Nat.le_of_ble_eq_true rfl) (fun G C E hnl => ?_)
  have C : Ok K G 1 cX8_allow RX8 := C
  refine (show At K G 0 [(0, .ref (K.2.1 x0)), (1, .int x1)] [] h from ?_)
  unfold fX8_allow at hf
  refine A_aload_n C dX8_allow_0 (i := 0) rfl 0 rfl 1 rfl ?_
  refine A_iconst (v := 0) C dX8_allow_1 (by decide) 2 rfl ?_
  refine pfRX8_128 C k0 dX8_allow_2 5 rfl ?_
  refine A_iload_n C dX8_allow_5 (i := 1) rfl 1 rfl 6 rfl ?_
  exact A_iret C dX8_allow_6 E hf
set_option maxRecDepth 20000 in
theorem mX8_dream {K : KX} {x0 : Nat} {x1 : Int32} (k0 : isK 8 x0) {h : HH} {rv : Int32} {hv : HH} (hf : fX8_dream x0 x1 h = some (rv, hv)) : MR K yX8_dream cX8_dream 3 (some .int) 12 [.ref (K.2.1 x0), .int x1] h (some (.int rv)) hv := by
  refine MR_of (by decide) (Nat.le_of_ble_eq_true rfl) (fun G C E hnl => ?_)
  have C : Ok K G 12 cX8_dream RX8 := C
  refine (show At K G 0 [(0, .ref (K.2.1 x0)), (1, .int x1)] [] h from ?_)
  unfold fX8_dream at hf
  refine A_iload_n C dX8_dream_0 (i := 1) rfl 1 rfl 1 rfl ?_
  refine A_if_lt C dX8_dream_1 12 (by decide) 4 rfl hf (fun c1 hf => ?_) (fun c1 hf => ?_)
  · refine A_aload_n C dX8_dream_12 (i := 0) rfl 0 rfl 13 rfl ?_
    refine A_iconst (v := 2) C dX8_dream_13 (by decide) 14 rfl ?_
    refine CVi C dX8_dream_14 8 k0 (by decide) (r := (RX8, TX8, 19)) rfl rfl hf (fun _ _ e => mX8_refuse k0 e) lkRX8_83 (by decide) (by decide) rfl [] rfl (Nat.le_of_ble_eq_true rfl) 17 rfl (fun r14 h14 hf => ?_)
    exact A_iret C dX8_dream_17 E hf
  refine A_iload_n C dX8_dream_4 (i := 1) rfl 1 rfl 5 rfl ?_
  refine A_aload_n C dX8_dream_5 (i := 0) rfl 0 rfl 6 rfl ?_
  refine gfRX8_75 C k0 dX8_dream_6 9 rfl ?_
  refine A_icmp_le C dX8_dream_9 18 (by decide) 12 rfl hf (fun c9 hf => ?_) (fun c9 hf => ?_)
  · refine A_aload_n C dX8_dream_18 (i := 0) rfl 0 rfl 19 rfl ?_
    refine A_iconst (v := 0) C dX8_dream_19 (by decide) 20 rfl ?_
    refine pfRX8_75 C k0 dX8_dream_20 23 rfl ?_
    refine A_aload_n C dX8_dream_23 (i := 0) rfl 0 rfl 24 rfl ?_
    refine A_aload_n C dX8_dream_24 (i := 0) rfl 0 rfl 25 rfl ?_
    refine gfRX8_16 C k0 dX8_dream_25 28 rfl ?_
    refine A_aload_n C dX8_dream_28 (i := 0) rfl 0 rfl 29 rfl ?_
    refine gfRX8_9 C k0 dX8_dream_29 32 rfl ?_
    refine A_iload_n C dX8_dream_32 (i := 1) rfl 1 rfl 33 rfl ?_
    refine A_aload_n C dX8_dream_33 (i := 0) rfl 0 rfl 34 rfl ?_
    refine gfRX8_72 C k0 dX8_dream_34 hf 37 rfl (fun kp1 hf => ?_)
    refine CVi C dX8_dream_37 5 (of_8_1 k0) (by decide) (r := (RX5, TX5, 13)) rfl rfl hf (fun _ _ e => mX5_read (of_8_1 k0) (isK_ofA (of_8_0 k0)) kp1 e) lkRX8_87 (by decide) (by decide) rfl [.ref (K.2.1 x0)] rfl (Nat.le_of_ble_eq_true rfl) 40 rfl (fun r37 h37 hf => ?_)
    refine pfRX8_91 C k0 dX8_dream_40 43 rfl ?_
    refine A_aload_n C dX8_dream_43 (i := 0) rfl 0 rfl 44 rfl ?_
    refine gfRX8_91 C k0 dX8_dream_44 47 rfl ?_
    refine A_if_eq C dX8_dream_47 67 (by decide) 50 rfl hf (fun c47 hf => ?_) (fun c47 hf => ?_)
    · refine A_aload_n C dX8_dream_67 (i := 0) rfl 0 rfl 68 rfl ?_
      refine gfRX8_68 C k0 dX8_dream_68 hf 71 rfl (fun kp2 hf => ?_)
      refine A_namR kp2 hf (fun y3 kp4 hf => ?_)
      refine A_astore_n C dX8_dream_71 (i := 2) rfl [(2, .ref (K.2.1 y3)), (0, .ref (K.2.1 x0)), (1, .int x1)] (lt_nl hnl (by decide)) rfl 72 rfl ?_
      refine A_aload_n C dX8_dream_72 (i := 0) rfl 1 rfl 73 rfl ?_
      refine A_aload_n C dX8_dream_73 (i := 0) rfl 1 rfl 74 rfl ?_
      refine gfRX8_72 C k0 dX8_dream_74 hf 77 rfl (fun kp5 hf => ?_)
      refine pfRX8_68 C k0 kp5.1 dX8_dream_77 80 rfl ?_
      refine A_namH hf (fun g6 hf => ?_)
      refine A_aload_n C dX8_dream_80 (i := 0) rfl 1 rfl 81 rfl ?_
      refine A_aload_n C dX8_dream_81 (i := 2) rfl 0 rfl 82 rfl ?_
      refine pfRX8_72 C k0 kp4.1 dX8_dream_82 85 rfl ?_
      refine A_aload_n C dX8_dream_85 (i := 0) rfl 1 rfl 86 rfl ?_
      refine A_iconst (v := 1) C dX8_dream_86 (by decide) 87 rfl ?_
      refine pfRX8_98 C k0 dX8_dream_87 (Or.inr rfl) 90 rfl ?_
      refine A_namH hf (fun g7 hf => ?_)
      refine A_aload_n C dX8_dream_90 (i := 0) rfl 1 rfl 91 rfl ?_
      refine gfRX8_23 C k0 dX8_dream_91 94 rfl ?_
      refine A_aload_n C dX8_dream_94 (i := 0) rfl 1 rfl 95 rfl ?_
      refine gfRX8_68 C k0 dX8_dream_95 hf 98 rfl (fun kp8 hf => ?_)
      refine CVv C dX8_dream_98 2 (of_8_2 k0) (by decide) (r := (RX2, TX2, 7)) rfl rfl hf (fun _ e => mX2_begin (of_8_2 k0) kp8 e) lkRX8_102 (by decide) (by decide) rfl [] rfl (Nat.le_of_ble_eq_true rfl) 101 rfl (fun h98 hf => ?_)
      refine A_aload_n C dX8_dream_101 (i := 0) rfl 1 rfl 102 rfl ?_
      refine gfRX8_40 C k0 dX8_dream_102 105 rfl ?_
      refine A_iconst (v := 0) C dX8_dream_105 (by decide) 106 rfl ?_
      refine pfRX8_106 C (of_8_5 k0) dX8_dream_106 (Or.inl rfl) 109 rfl ?_
      refine A_aload_n C dX8_dream_109 (i := 0) rfl 1 rfl 110 rfl ?_
      refine gfRX8_54 C k0 dX8_dream_110 113 rfl ?_
      refine A_iconst (v := 0) C dX8_dream_113 (by decide) 114 rfl ?_
      refine pfRX8_109 C (of_8_7 k0) dX8_dream_114 (Or.inl rfl) 117 rfl ?_
      refine A_namH hf (fun g9 hf => ?_)
      refine A_aload_n C dX8_dream_117 (i := 0) rfl 1 rfl 118 rfl ?_
      refine A_iconst (v := 0) C dX8_dream_118 (by decide) 119 rfl ?_
      refine pfRX8_110 C k0 dX8_dream_119 122 rfl ?_
      refine A_aload_n C dX8_dream_122 (i := 0) rfl 1 rfl 123 rfl ?_
      refine A_iconst (v := 0) C dX8_dream_123 (by decide) 124 rfl ?_
      refine pfRX8_113 C k0 dX8_dream_124 127 rfl ?_
      refine A_namH hf (fun g10 hf => ?_)
      refine A_aload_n C dX8_dream_127 (i := 0) rfl 1 rfl 128 rfl ?_
      refine A_aload_n C dX8_dream_128 (i := 0) rfl 1 rfl 129 rfl ?_
      refine gfRX8_68 C k0 dX8_dream_129 hf 132 rfl (fun kp11 hf => ?_)
      refine gfRX8_116 C kp11 dX8_dream_132 135 rfl ?_
      refine gfRX8_120 C (of_0_3 kp11) dX8_dream_135 138 rfl ?_
      refine CVi C dX8_dream_138 8 k0 (by decide) (r := (RX8, TX8, 19)) rfl rfl hf (fun _ _ e => mX8_allow k0 e) lkRX8_125 (by decide) (by decide) rfl [] rfl (Nat.le_of_ble_eq_true rfl) 141 rfl (fun r138 h138 hf => ?_)
      exact A_iret C dX8_dream_141 E hf
    refine A_aload_n C dX8_dream_50 (i := 0) rfl 0 rfl 51 rfl ?_
    refine A_aload_n C dX8_dream_51 (i := 0) rfl 0 rfl 52 rfl ?_
    refine gfRX8_16 C k0 dX8_dream_52 55 rfl ?_
    refine gfRX8_94 C (of_8_1 k0) dX8_dream_55 58 rfl ?_
    refine pfRX8_97 C k0 dX8_dream_58 61 rfl ?_
    refine A_namH hf (fun g12 hf => ?_)
    refine A_aload_n C dX8_dream_61 (i := 0) rfl 0 rfl 62 rfl ?_
    refine A_iconst (v := 4) C dX8_dream_62 (by decide) 63 rfl ?_
    refine CVi C dX8_dream_63 8 k0 (by decide) (r := (RX8, TX8, 19)) rfl rfl hf (fun _ _ e => mX8_refuse k0 e) lkRX8_83 (by decide) (by decide) rfl [] rfl (Nat.le_of_ble_eq_true rfl) 66 rfl (fun r63 h63 hf => ?_)
    exact A_iret C dX8_dream_66 E hf
  refine A_aload_n C dX8_dream_12 (i := 0) rfl 0 rfl 13 rfl ?_
  refine A_iconst (v := 2) C dX8_dream_13 (by decide) 14 rfl ?_
  refine CVi C dX8_dream_14 8 k0 (by decide) (r := (RX8, TX8, 19)) rfl rfl hf (fun _ _ e => mX8_refuse k0 e) lkRX8_83 (by decide) (by decide) rfl [] rfl (Nat.le_of_ble_eq_true rfl) 17 rfl (fun r14 h14 hf => ?_)
  exact A_iret C dX8_dream_17 E hf
set_option maxRecDepth 20000 in
theorem mX8_fault {K : KX} {x0 : Nat} (k0 : isK 8 x0) {h : HH} {rv : Int32} {hv : HH} (hf : fX8_fault x0 h = some (rv, hv)) : MR K yX8_fault cX8_fault 1 (some .int) 1 [.ref (K.2.1 x0)] h (some (.int rv)) hv := by
  refine MR_of (by decide) (Nat.le_of_ble_eq_true rfl) (fun G C E hnl => ?_)
  have C : Ok K G 1 cX8_fault RX8 := C
  refine (show At K G 0 [(0, .ref (K.2.1 x0))] [] h from ?_)
  unfold fX8_fault at hf
  refine A_aload_n C dX8_fault_0 (i := 0) rfl 0 rfl 1 rfl ?_
  refine gfRX8_91 C k0 dX8_fault_1 4 rfl ?_
  exact A_iret C dX8_fault_4 E hf
set_option maxRecDepth 20000 in
theorem mX8_where {K : KX} {x0 : Nat} (k0 : isK 8 x0) {h : HH} {rv : Int32} {hv : HH} (hf : fX8_where x0 h = some (rv, hv)) : MR K yX8_where cX8_where 1 (some .int) 1 [.ref (K.2.1 x0)] h (some (.int rv)) hv := by
  refine MR_of (by decide) (Nat.le_of_ble_eq_true rfl) (fun G C E hnl => ?_)
  have C : Ok K G 1 cX8_where RX8 := C
  refine (show At K G 0 [(0, .ref (K.2.1 x0))] [] h from ?_)
  unfold fX8_where at hf
  refine A_aload_n C dX8_where_0 (i := 0) rfl 0 rfl 1 rfl ?_
  refine gfRX8_128 C k0 dX8_where_1 4 rfl ?_
  refine A_iconst (v := 4) C dX8_where_4 (by decide) 5 rfl ?_
  refine A_icmp_ne C dX8_where_5 15 (by decide) 8 rfl hf (fun c5 hf => ?_) (fun c5 hf => ?_)
  · refine A_iconst (v := (-1)) C dX8_where_15 (by decide) 16 rfl ?_
    exact A_iret C dX8_where_16 E hf
  refine A_aload_n C dX8_where_8 (i := 0) rfl 0 rfl 9 rfl ?_
  refine gfRX8_97 C k0 dX8_where_9 12 rfl ?_
  refine A_goto C dX8_where_12 16 (by decide) ?_
  exact A_iret C dX8_where_16 E hf
set_option maxRecDepth 20000 in
theorem mX8_isFloor {K : KX} {x0 : Nat} {x1 : Int32} (k0 : isK 8 x0) {h : HH} {rv : Bool} {hv : HH} (hf : fX8_isFloor x0 x1 h = some (rv, hv)) : MR K yX8_isFloor cX8_isFloor 2 (some .boolean) 1 [.ref (K.2.1 x0), .int x1] h (some (.int (b2i rv))) hv := by
  refine MR_of (by decide) (Nat.le_of_ble_eq_true rfl) (fun G C E hnl => ?_)
  have C : Ok K G 1 cX8_isFloor RX8 := C
  refine (show At K G 0 [(0, .ref (K.2.1 x0)), (1, .int x1)] [] h from ?_)
  unfold fX8_isFloor at hf
  refine A_aload_n C dX8_isFloor_0 (i := 0) rfl 0 rfl 1 rfl ?_
  refine gfRX8_98 C k0 dX8_isFloor_1 4 rfl ?_
  refine A_if_eq C dX8_isFloor_4 26 (by decide) 7 rfl hf (fun c4 hf => ?_) (fun c4 hf => ?_)
  · refine A_iconst (v := 0) C dX8_isFloor_26 (by decide) 27 rfl ?_
    exact A_zret (x := false) C dX8_isFloor_27 E hf
  refine A_iload_n C dX8_isFloor_7 (i := 1) rfl 1 rfl 8 rfl ?_
  refine A_if_lt C dX8_isFloor_8 26 (by decide) 11 rfl hf (fun c8 hf => ?_) (fun c8 hf => ?_)
  · refine A_iconst (v := 0) C dX8_isFloor_26 (by decide) 27 rfl ?_
    exact A_zret (x := false) C dX8_isFloor_27 E hf
  refine A_iload_n C dX8_isFloor_11 (i := 1) rfl 1 rfl 12 rfl ?_
  refine A_aload_n C dX8_isFloor_12 (i := 0) rfl 0 rfl 13 rfl ?_
  refine gfRX8_68 C k0 dX8_isFloor_13 hf 16 rfl (fun kp1 hf => ?_)
  refine gfRX8_298 C kp1 dX8_isFloor_16 19 rfl ?_
  refine A_icmp_gt C dX8_isFloor_19 26 (by decide) 22 rfl hf (fun c19 hf => ?_) (fun c19 hf => ?_)
  · refine A_iconst (v := 0) C dX8_isFloor_26 (by decide) 27 rfl ?_
    exact A_zret (x := false) C dX8_isFloor_27 E hf
  refine A_iconst (v := 1) C dX8_isFloor_22 (by decide) 23 rfl ?_
  refine A_goto C dX8_isFloor_23 27 (by decide) ?_
  exact A_zret (x := true) C dX8_isFloor_27 E hf
set_option maxRecDepth 20000 in
theorem mX8_quick {K : KX} {x0 : Nat} {x1 : Int32} (k0 : isK 8 x0) {h : HH} {rv : Int32} {hv : HH} (hf : fX8_quick x0 x1 h = some (rv, hv)) : MR K yX8_quick cX8_quick 2 (some .int) 2 [.ref (K.2.1 x0), .int x1] h (some (.int rv)) hv := by
  refine MR_of (by decide) (Nat.le_of_ble_eq_true rfl) (fun G C E hnl => ?_)
  have C : Ok K G 2 cX8_quick RX8 := C
  refine (show At K G 0 [(0, .ref (K.2.1 x0)), (1, .int x1)] [] h from ?_)
  unfold fX8_quick at hf
  refine A_aload_n C dX8_quick_0 (i := 0) rfl 0 rfl 1 rfl ?_
  refine A_iload_n C dX8_quick_1 (i := 1) rfl 1 rfl 2 rfl ?_
  refine CVz C dX8_quick_2 8 k0 (by decide) (r := (RX8, TX8, 19)) rfl rfl hf (fun _ _ e => mX8_isFloor k0 e) lkRX8_131 (by decide) (by decide) rfl [] rfl (Nat.le_of_ble_eq_true rfl) 5 rfl (fun r2 h2 hf => ?_)
  refine A_z_eq C dX8_quick_5 23 (by decide) 8 rfl hf (fun c5 hf => ?_) (fun c5 hf => ?_)
  · refine A_aload_n C dX8_quick_23 (i := 0) rfl 0 rfl 24 rfl ?_
    refine A_iconst (v := 1) C dX8_quick_24 (by decide) 25 rfl ?_
    refine CVi C dX8_quick_25 8 k0 (by decide) (r := (RX8, TX8, 19)) rfl rfl hf (fun _ _ e => mX8_refuse k0 e) lkRX8_83 (by decide) (by decide) rfl [] rfl (Nat.le_of_ble_eq_true rfl) 28 rfl (fun r25 h25 hf => ?_)
    exact A_iret C dX8_quick_28 E hf
  refine A_aload_n C dX8_quick_8 (i := 0) rfl 0 rfl 9 rfl ?_
  refine A_aload_n C dX8_quick_9 (i := 0) rfl 0 rfl 10 rfl ?_
  refine gfRX8_68 C k0 dX8_quick_10 hf 13 rfl (fun kp1 hf => ?_)
  refine A_iload_n C dX8_quick_13 (i := 1) rfl 1 rfl 14 rfl ?_
  refine CVi C dX8_quick_14 0 kp1 (by decide) (r := (RX0, TX0, 14)) rfl rfl hf (fun _ _ e => mX0_quickOf kp1 e) lkRX8_135 (by decide) (by decide) rfl [.ref (K.2.1 x0)] rfl (Nat.le_of_ble_eq_true rfl) 17 rfl (fun r14 h14 hf => ?_)
  refine CVi C dX8_quick_17 8 k0 (by decide) (r := (RX8, TX8, 19)) rfl rfl hf (fun _ _ e => mX8_allow k0 e) lkRX8_125 (by decide) (by decide) rfl [] rfl (Nat.le_of_ble_eq_true rfl) 20 rfl (fun r17 h17 hf => ?_)
  refine A_goto C dX8_quick_20 28 (by decide) ?_
  exact A_iret C dX8_quick_28 E hf
set_option maxRecDepth 20000 in
theorem mX8_clockOf {K : KX} {x0 : Nat} {x1 : Int32} (k0 : isK 8 x0) {h : HH} {rv : Int64} {hv : HH} (hf : fX8_clockOf x0 x1 h = some (rv, hv)) : MR K yX8_clockOf cX8_clockOf 2 (some .long) 3 [.ref (K.2.1 x0), .int x1] h (some (.long rv)) hv := by
  refine MR_of (by decide) (Nat.le_of_ble_eq_true rfl) (fun G C E hnl => ?_)
  have C : Ok K G 3 cX8_clockOf RX8 := C
  refine (show At K G 0 [(0, .ref (K.2.1 x0)), (1, .int x1)] [] h from ?_)
  unfold fX8_clockOf at hf
  refine A_aload_n C dX8_clockOf_0 (i := 0) rfl 0 rfl 1 rfl ?_
  refine gfRX8_23 C k0 dX8_clockOf_1 4 rfl ?_
  refine gfRX8_145 C (of_8_2 k0) dX8_clockOf_4 7 rfl ?_
  refine A_aload_n C dX8_clockOf_7 (i := 0) rfl 0 rfl 8 rfl ?_
  refine gfRX8_68 C k0 dX8_clockOf_8 hf 11 rfl (fun kp1 hf => ?_)
  refine A_iload_n C dX8_clockOf_11 (i := 1) rfl 1 rfl 12 rfl ?_
  refine CVi C dX8_clockOf_12 0 kp1 (by decide) (r := (RX0, TX0, 14)) rfl rfl hf (fun _ _ e => mX0_minuteOf kp1 e) lkRX8_149 (by decide) (by decide) rfl [.long (gL h (x0 + 6) 6)] rfl (Nat.le_of_ble_eq_true rfl) 15 rfl (fun r12 h12 hf => ?_)
  refine A_i2l C dX8_clockOf_15 16 rfl ?_
  refine CSl C dX8_clockOf_16 hf (fun _ _ e => mX8_quotient  e) lkRX8_152 (by decide) (by decide) rfl [] rfl (Nat.le_of_ble_eq_true rfl) 19 rfl (fun r16 h16 hf => ?_)
  exact A_lret C dX8_clockOf_19 E hf
set_option maxRecDepth 20000 in
theorem mX8_allow_ {K : KX} {x0 : Nat} {x1 : Int64} (k0 : isK 8 x0) {h : HH} {rv : Int64} {hv : HH} (hf : fX8_allow_ x0 x1 h = some (rv, hv)) : MR K yX8_allow_ cX8_allow_ 3 (some .long) 1 [.ref (K.2.1 x0), .long x1] h (some (.long rv)) hv := by
  refine MR_of (by decide) (Nat.le_of_ble_eq_true rfl) (fun G C E hnl => ?_)
  have C : Ok K G 1 cX8_allow_ RX8 := C
  refine (show At K G 0 [(0, .ref (K.2.1 x0)), (1, .long x1)] [] h from ?_)
  unfold fX8_allow_ at hf
  refine A_aload_n C dX8_allow__0 (i := 0) rfl 0 rfl 1 rfl ?_
  refine A_iconst (v := 0) C dX8_allow__1 (by decide) 2 rfl ?_
  refine pfRX8_128 C k0 dX8_allow__2 5 rfl ?_
  refine A_lload_n C dX8_allow__5 (i := 1) rfl 1 rfl 6 rfl ?_
  exact A_lret C dX8_allow__6 E hf
set_option maxRecDepth 20000 in
theorem mX8_clock {K : KX} {x0 : Nat} {x1 : Int32} (k0 : isK 8 x0) {h : HH} {rv : Int64} {hv : HH} (hf : fX8_clock x0 x1 h = some (rv, hv)) : MR K yX8_clock cX8_clock 2 (some .long) 4 [.ref (K.2.1 x0), .int x1] h (some (.long rv)) hv := by
  refine MR_of (by decide) (Nat.le_of_ble_eq_true rfl) (fun G C E hnl => ?_)
  have C : Ok K G 4 cX8_clock RX8 := C
  refine (show At K G 0 [(0, .ref (K.2.1 x0)), (1, .int x1)] [] h from ?_)
  unfold fX8_clock at hf
  refine A_aload_n C dX8_clock_0 (i := 0) rfl 0 rfl 1 rfl ?_
  refine A_iload_n C dX8_clock_1 (i := 1) rfl 1 rfl 2 rfl ?_
  refine CVz C dX8_clock_2 8 k0 (by decide) (r := (RX8, TX8, 19)) rfl rfl hf (fun _ _ e => mX8_isFloor k0 e) lkRX8_131 (by decide) (by decide) rfl [] rfl (Nat.le_of_ble_eq_true rfl) 5 rfl (fun r2 h2 hf => ?_)
  refine A_z_eq C dX8_clock_5 20 (by decide) 8 rfl hf (fun c5 hf => ?_) (fun c5 hf => ?_)
  · refine A_aload_n C dX8_clock_20 (i := 0) rfl 0 rfl 21 rfl ?_
    refine A_iconst (v := 1) C dX8_clock_21 (by decide) 22 rfl ?_
    refine CVi C dX8_clock_22 8 k0 (by decide) (r := (RX8, TX8, 19)) rfl rfl hf (fun _ _ e => mX8_refuse k0 e) lkRX8_83 (by decide) (by decide) rfl [] rfl (Nat.le_of_ble_eq_true rfl) 25 rfl (fun r22 h22 hf => ?_)
    refine A_i2l C dX8_clock_25 26 rfl ?_
    exact A_lret C dX8_clock_26 E hf
  refine A_aload_n C dX8_clock_8 (i := 0) rfl 0 rfl 9 rfl ?_
  refine A_aload_n C dX8_clock_9 (i := 0) rfl 0 rfl 10 rfl ?_
  refine A_iload_n C dX8_clock_10 (i := 1) rfl 1 rfl 11 rfl ?_
  refine CVl C dX8_clock_11 8 k0 (by decide) (r := (RX8, TX8, 19)) rfl rfl hf (fun _ _ e => mX8_clockOf k0 e) lkRX8_138 (by decide) (by decide) rfl [.ref (K.2.1 x0)] rfl (Nat.le_of_ble_eq_true rfl) 14 rfl (fun r11 h11 hf => ?_)
  refine CVl C dX8_clock_14 8 k0 (by decide) (r := (RX8, TX8, 19)) rfl rfl hf (fun _ _ e => mX8_allow_ k0 e) lkRX8_142 (by decide) (by decide) rfl [] rfl (Nat.le_of_ble_eq_true rfl) 17 rfl (fun r14 h14 hf => ?_)
  refine A_goto C dX8_clock_17 26 (by decide) ?_
  exact A_lret C dX8_clock_26 E hf
set_option maxRecDepth 20000 in
theorem mX8_ticks {K : KX} {x0 : Nat} (k0 : isK 8 x0) {h : HH} {rv : Int64} {hv : HH} (hf : fX8_ticks x0 h = some (rv, hv)) : MR K yX8_ticks cX8_ticks 1 (some .long) 2 [.ref (K.2.1 x0)] h (some (.long rv)) hv := by
  refine MR_of (by decide) (Nat.le_of_ble_eq_true rfl) (fun G C E hnl => ?_)
  have C : Ok K G 2 cX8_ticks RX8 := C
  refine (show At K G 0 [(0, .ref (K.2.1 x0))] [] h from ?_)
  unfold fX8_ticks at hf
  refine A_aload_n C dX8_ticks_0 (i := 0) rfl 0 rfl 1 rfl ?_
  refine gfRX8_98 C k0 dX8_ticks_1 4 rfl ?_
  refine A_if_eq C dX8_ticks_4 21 (by decide) 7 rfl hf (fun c4 hf => ?_) (fun c4 hf => ?_)
  · refine A_aload_n C dX8_ticks_21 (i := 0) rfl 0 rfl 22 rfl ?_
    refine A_iconst (v := 1) C dX8_ticks_22 (by decide) 23 rfl ?_
    refine CVi C dX8_ticks_23 8 k0 (by decide) (r := (RX8, TX8, 19)) rfl rfl hf (fun _ _ e => mX8_refuse k0 e) lkRX8_83 (by decide) (by decide) rfl [] rfl (Nat.le_of_ble_eq_true rfl) 26 rfl (fun r23 h23 hf => ?_)
    refine A_i2l C dX8_ticks_26 27 rfl ?_
    exact A_lret C dX8_ticks_27 E hf
  refine A_aload_n C dX8_ticks_7 (i := 0) rfl 0 rfl 8 rfl ?_
  refine A_aload_n C dX8_ticks_8 (i := 0) rfl 0 rfl 9 rfl ?_
  refine gfRX8_23 C k0 dX8_ticks_9 12 rfl ?_
  refine gfRX8_145 C (of_8_2 k0) dX8_ticks_12 15 rfl ?_
  refine CVl C dX8_ticks_15 8 k0 (by decide) (r := (RX8, TX8, 19)) rfl rfl hf (fun _ _ e => mX8_allow_ k0 e) lkRX8_142 (by decide) (by decide) rfl [] rfl (Nat.le_of_ble_eq_true rfl) 18 rfl (fun r15 h15 hf => ?_)
  refine A_goto C dX8_ticks_18 27 (by decide) ?_
  exact A_lret C dX8_ticks_27 E hf
set_option maxRecDepth 20000 in
theorem wX8_inLowestTerms_L26 {K : KX} {G : GX} (C : Ok K G 2 cX8_inLowestTerms RX8) (hnl : G.2.2.2.2.2.2.2.2.2.2.2.2.2 = 12) {rv : Int64} {hv : HH} (E : Endd K G (some .long) (some (.long rv)) hv) {x0 : Int64} {x2 : Int64} {x4 : Bool}    : ∀ (self26 : Int64 → Int64 → Int32 → HH → Option (Int64 × HH)), (∀ (x5 : Int64) (x7 : Int64) (x9 : Int32) (h : HH), self26 x5 x7 x9 h = some (rv, hv) → At K G 26 [(0, .long x0), (2, .long x2), (4, .int (b2i x4)), (5, .long x5), (7, .long x7), (9, .int x9)] [] h) → ∀ (x5 : Int64) (x7 : Int64) (x9 : Int32) (h : HH), fX8_inLowestTerms_L26 x0 x2 x4 self26 x5 x7 x9 h = some (rv, hv) → At K G 26 [(0, .long x0), (2, .long x2), (4, .int (b2i x4)), (5, .long x5), (7, .long x7), (9, .int x9)] [] h := by
  intro self26 Hself26 x5 x7 x9 h hf
  unfold fX8_inLowestTerms_L26 at hf
  refine A_iload C dX8_inLowestTerms_26 5 rfl 28 rfl ?_
  refine A_sipush (v := 200) C dX8_inLowestTerms_28 (by decide) 31 rfl ?_
  refine A_icmp_ge C dX8_inLowestTerms_31 62 (by decide) 34 rfl hf (fun c31 hf => ?_) (fun c31 hf => ?_)
  · refine A_iload C dX8_inLowestTerms_62 2 rfl 64 rfl ?_
    refine A_z_eq C dX8_inLowestTerms_64 71 (by decide) 67 rfl hf (fun c64 hf => ?_) (fun c64 hf => ?_)
    · refine A_lload_n C dX8_inLowestTerms_71 (i := 0) rfl 0 rfl 72 rfl ?_
      refine A_lload C dX8_inLowestTerms_72 3 rfl 74 rfl ?_
      refine CSl C dX8_inLowestTerms_74 hf (fun _ _ e => mX8_quotient  e) lkRX8_152 (by decide) (by decide) rfl [] rfl (Nat.le_of_ble_eq_true rfl) 77 rfl (fun r74 h74 hf => ?_)
      exact A_lret C dX8_inLowestTerms_77 E hf
    refine A_lload_n C dX8_inLowestTerms_67 (i := 2) rfl 1 rfl 68 rfl ?_
    refine A_goto C dX8_inLowestTerms_68 72 (by decide) ?_
    refine A_lload C dX8_inLowestTerms_72 3 rfl 74 rfl ?_
    refine CSl C dX8_inLowestTerms_74 hf (fun _ _ e => mX8_quotient  e) lkRX8_152 (by decide) (by decide) rfl [] rfl (Nat.le_of_ble_eq_true rfl) 77 rfl (fun r74 h74 hf => ?_)
    exact A_lret C dX8_inLowestTerms_77 E hf
  refine A_lload C dX8_inLowestTerms_34 4 rfl 36 rfl ?_
  refine A_lconst (v := 0) C dX8_inLowestTerms_36 (by decide) 37 rfl ?_
  refine A_l_eq C dX8_inLowestTerms_37 dX8_inLowestTerms_38 62 (by decide) 41 rfl hf (fun c37 hf => ?_) (fun c37 hf => ?_)
  · refine A_iload C dX8_inLowestTerms_62 2 rfl 64 rfl ?_
    refine A_z_eq C dX8_inLowestTerms_64 71 (by decide) 67 rfl hf (fun c64 hf => ?_) (fun c64 hf => ?_)
    · refine A_lload_n C dX8_inLowestTerms_71 (i := 0) rfl 0 rfl 72 rfl ?_
      refine A_lload C dX8_inLowestTerms_72 3 rfl 74 rfl ?_
      refine CSl C dX8_inLowestTerms_74 hf (fun _ _ e => mX8_quotient  e) lkRX8_152 (by decide) (by decide) rfl [] rfl (Nat.le_of_ble_eq_true rfl) 77 rfl (fun r74 h74 hf => ?_)
      exact A_lret C dX8_inLowestTerms_77 E hf
    refine A_lload_n C dX8_inLowestTerms_67 (i := 2) rfl 1 rfl 68 rfl ?_
    refine A_goto C dX8_inLowestTerms_68 72 (by decide) ?_
    refine A_lload C dX8_inLowestTerms_72 3 rfl 74 rfl ?_
    refine CSl C dX8_inLowestTerms_74 hf (fun _ _ e => mX8_quotient  e) lkRX8_152 (by decide) (by decide) rfl [] rfl (Nat.le_of_ble_eq_true rfl) 77 rfl (fun r74 h74 hf => ?_)
    exact A_lret C dX8_inLowestTerms_77 E hf
  refine A_lload C dX8_inLowestTerms_41 3 rfl 43 rfl ?_
  refine A_lload C dX8_inLowestTerms_43 4 rfl 45 rfl ?_
  refine A_lremG C dX8_inLowestTerms_45 hf 46 rfl (fun hf => ?_)
  refine A_namL hf (fun y1 hf => ?_)
  refine A_lstore C dX8_inLowestTerms_46 [(10, .long y1), (0, .long x0), (2, .long x2), (4, .int (b2i x4)), (5, .long x5), (7, .long x7), (9, .int x9)] (lt_nl hnl (by decide)) rfl 48 rfl ?_
  refine A_lload C dX8_inLowestTerms_48 5 rfl 50 rfl ?_
  refine A_lstore C dX8_inLowestTerms_50 [(5, .long x7), (10, .long y1), (0, .long x0), (2, .long x2), (4, .int (b2i x4)), (7, .long x7), (9, .int x9)] (lt_nl hnl (by decide)) rfl 52 rfl ?_
  refine A_lload C dX8_inLowestTerms_52 1 rfl 54 rfl ?_
  refine A_lstore C dX8_inLowestTerms_54 [(7, .long y1), (5, .long x7), (10, .long y1), (0, .long x0), (2, .long x2), (4, .int (b2i x4)), (9, .int x9)] (lt_nl hnl (by decide)) rfl 56 rfl ?_
  refine A_iinc (v := (x9 + 1)) C dX8_inLowestTerms_56 6 rfl rfl [(9, .int (x9 + 1)), (7, .long y1), (5, .long x7), (10, .long y1), (0, .long x0), (2, .long x2), (4, .int (b2i x4))] (lt_nl hnl (by decide)) rfl 59 rfl ?_
  refine A_goto C dX8_inLowestTerms_59 26 (by decide) ?_
  refine A_sub [4, 5, 6, 2, 1, 0] (lv' := [(0, .long x0), (2, .long x2), (4, .int (b2i x4)), (5, .long x7), (7, .long y1), (9, .int (x9 + 1))]) rfl ?_
  exact Hself26 _ _ _ _ hf
set_option maxRecDepth 20000 in
theorem mX8_inLowestTerms {K : KX} {x0 : Int64} {x2 : Int64} {x4 : Bool}  {h : HH} {rv : Int64} {hv : HH} (hf : fX8_inLowestTerms x0 x2 x4 h = some (rv, hv)) : MR K yX8_inLowestTerms cX8_inLowestTerms 12 (some .long) 2 [.long x0, .long x2, .int (b2i x4)] h (some (.long rv)) hv := by
  refine MR_of (by decide) (Nat.le_of_ble_eq_true rfl) (fun G C E hnl => ?_)
  have C : Ok K G 2 cX8_inLowestTerms RX8 := C
  refine (show At K G 0 [(0, .long x0), (2, .long x2), (4, .int (b2i x4))] [] h from ?_)
  unfold fX8_inLowestTerms at hf
  refine A_lload_n C dX8_inLowestTerms_0 (i := 0) rfl 0 rfl 1 rfl ?_
  refine A_lconst (v := 0) C dX8_inLowestTerms_1 (by decide) 2 rfl ?_
  refine A_l_ne C dX8_inLowestTerms_2 dX8_inLowestTerms_3 17 (by decide) 6 rfl hf (fun c2 hf => ?_) (fun c2 hf => ?_)
  · refine A_lload_n C dX8_inLowestTerms_17 (i := 0) rfl 0 rfl 18 rfl ?_
    refine A_lstore C dX8_inLowestTerms_18 [(5, .long x0), (0, .long x0), (2, .long x2), (4, .int (b2i x4))] (lt_nl hnl (by decide)) rfl 20 rfl ?_
    refine A_lload_n C dX8_inLowestTerms_20 (i := 2) rfl 2 rfl 21 rfl ?_
    refine A_lstore C dX8_inLowestTerms_21 [(7, .long x2), (5, .long x0), (0, .long x0), (2, .long x2), (4, .int (b2i x4))] (lt_nl hnl (by decide)) rfl 23 rfl ?_
    refine A_iconst (v := 0) C dX8_inLowestTerms_23 (by decide) 24 rfl ?_
    refine A_istore C dX8_inLowestTerms_24 [(9, .int 0), (7, .long x2), (5, .long x0), (0, .long x0), (2, .long x2), (4, .int (b2i x4))] (lt_nl hnl (by decide)) rfl 26 rfl ?_
    refine A_sub [3, 4, 5, 2, 1, 0] (lv' := [(0, .long x0), (2, .long x2), (4, .int (b2i x4)), (5, .long x0), (7, .long x2), (9, .int 0)]) rfl ?_
    refine lq3_at (wX8_inLowestTerms_L26 C hnl E ) FU _ _ _ _ hf
  refine A_iload C dX8_inLowestTerms_6 2 rfl 8 rfl ?_
  refine A_z_eq C dX8_inLowestTerms_8 15 (by decide) 11 rfl hf (fun c8 hf => ?_) (fun c8 hf => ?_)
  · refine A_lconst (v := 0) C dX8_inLowestTerms_15 (by decide) 16 rfl ?_
    exact A_lret C dX8_inLowestTerms_16 E hf
  refine A_lconst (v := 1) C dX8_inLowestTerms_11 (by decide) 12 rfl ?_
  refine A_goto C dX8_inLowestTerms_12 16 (by decide) ?_
  exact A_lret C dX8_inLowestTerms_16 E hf
set_option maxRecDepth 20000 in
theorem mX8_minutes {K : KX} {x0 : Nat} {x1 : Int32} {x2 : Int32} {x3 : Int32} {x4 : Bool} (k0 : isK 8 x0) {h : HH} {rv : Int64} {hv : HH} (hf : fX8_minutes x0 x1 x2 x3 x4 h = some (rv, hv)) : MR K yX8_minutes cX8_minutes 5 (some .long) 3 [.ref (K.2.1 x0), .int x1, .int x2, .int x3, .int (b2i x4)] h (some (.long rv)) hv := by
  refine MR_of (by decide) (Nat.le_of_ble_eq_true rfl) (fun G C E hnl => ?_)
  have C : Ok K G 3 cX8_minutes RX8 := C
  refine (show At K G 0 [(0, .ref (K.2.1 x0)), (1, .int x1), (2, .int x2), (3, .int x3), (4, .int (b2i x4))] [] h from ?_)
  unfold fX8_minutes at hf
  refine A_aload_n C dX8_minutes_0 (i := 0) rfl 0 rfl 1 rfl ?_
  refine A_iload_n C dX8_minutes_1 (i := 1) rfl 1 rfl 2 rfl ?_
  refine CVz C dX8_minutes_2 8 k0 (by decide) (r := (RX8, TX8, 19)) rfl rfl hf (fun _ _ e => mX8_isFloor k0 e) lkRX8_131 (by decide) (by decide) rfl [] rfl (Nat.le_of_ble_eq_true rfl) 5 rfl (fun r2 h2 hf => ?_)
  refine A_z_eq C dX8_minutes_5 16 (by decide) 8 rfl hf (fun c5 hf => ?_) (fun c5 hf => ?_)
  · refine A_aload_n C dX8_minutes_16 (i := 0) rfl 0 rfl 17 rfl ?_
    refine A_iconst (v := 1) C dX8_minutes_17 (by decide) 18 rfl ?_
    refine CVi C dX8_minutes_18 8 k0 (by decide) (r := (RX8, TX8, 19)) rfl rfl hf (fun _ _ e => mX8_refuse k0 e) lkRX8_83 (by decide) (by decide) rfl [] rfl (Nat.le_of_ble_eq_true rfl) 21 rfl (fun r18 h18 hf => ?_)
    refine A_i2l C dX8_minutes_21 22 rfl ?_
    exact A_lret C dX8_minutes_22 E hf
  refine A_aload_n C dX8_minutes_8 (i := 0) rfl 0 rfl 9 rfl ?_
  refine A_iload_n C dX8_minutes_9 (i := 2) rfl 2 rfl 10 rfl ?_
  refine CVz C dX8_minutes_10 8 k0 (by decide) (r := (RX8, TX8, 19)) rfl rfl hf (fun _ _ e => mX8_isFloor k0 e) lkRX8_131 (by decide) (by decide) rfl [] rfl (Nat.le_of_ble_eq_true rfl) 13 rfl (fun r10 h10 hf => ?_)
  refine A_z_ne C dX8_minutes_13 23 (by decide) 16 rfl hf (fun c13 hf => ?_) (fun c13 hf => ?_)
  · refine A_iload_n C dX8_minutes_23 (i := 3) rfl 3 rfl 24 rfl ?_
    refine A_if_lt C dX8_minutes_24 34 (by decide) 27 rfl hf (fun c24 hf => ?_) (fun c24 hf => ?_)
    · refine A_aload_n C dX8_minutes_34 (i := 0) rfl 0 rfl 35 rfl ?_
      refine A_iconst (v := 2) C dX8_minutes_35 (by decide) 36 rfl ?_
      refine CVi C dX8_minutes_36 8 k0 (by decide) (r := (RX8, TX8, 19)) rfl rfl hf (fun _ _ e => mX8_refuse k0 e) lkRX8_83 (by decide) (by decide) rfl [] rfl (Nat.le_of_ble_eq_true rfl) 39 rfl (fun r36 h36 hf => ?_)
      refine A_i2l C dX8_minutes_39 40 rfl ?_
      exact A_lret C dX8_minutes_40 E hf
    refine A_iload_n C dX8_minutes_27 (i := 3) rfl 3 rfl 28 rfl ?_
    refine A_sipush (v := 9999) C dX8_minutes_28 (by decide) 31 rfl ?_
    refine A_icmp_le C dX8_minutes_31 41 (by decide) 34 rfl hf (fun c31 hf => ?_) (fun c31 hf => ?_)
    · refine A_aload_n C dX8_minutes_41 (i := 0) rfl 0 rfl 42 rfl ?_
      refine A_iload_n C dX8_minutes_42 (i := 3) rfl 3 rfl 43 rfl ?_
      refine A_i2l C dX8_minutes_43 44 rfl ?_
      refine A_aload_n C dX8_minutes_44 (i := 0) rfl 0 rfl 45 rfl ?_
      refine gfRX8_68 C k0 dX8_minutes_45 hf 48 rfl (fun kp1 hf => ?_)
      refine A_iload_n C dX8_minutes_48 (i := 2) rfl 2 rfl 49 rfl ?_
      refine CVi C dX8_minutes_49 0 kp1 (by decide) (r := (RX0, TX0, 14)) rfl rfl hf (fun _ _ e => mX0_quickOf kp1 e) lkRX8_135 (by decide) (by decide) rfl [.long x3.toInt64, .ref (K.2.1 x0)] rfl (Nat.le_of_ble_eq_true rfl) 52 rfl (fun r49 h49 hf => ?_)
      refine A_i2l C dX8_minutes_52 53 rfl ?_
      refine A_lmul C dX8_minutes_53 54 rfl ?_
      refine A_aload_n C dX8_minutes_54 (i := 0) rfl 0 rfl 55 rfl ?_
      refine gfRX8_68 C k0 dX8_minutes_55 hf 58 rfl (fun kp2 hf => ?_)
      refine A_iload_n C dX8_minutes_58 (i := 1) rfl 1 rfl 59 rfl ?_
      refine CVi C dX8_minutes_59 0 kp2 (by decide) (r := (RX0, TX0, 14)) rfl rfl hf (fun _ _ e => mX0_quickOf kp2 e) lkRX8_135 (by decide) (by decide) rfl [.long (x3.toInt64 * r49.toInt64), .ref (K.2.1 x0)] rfl (Nat.le_of_ble_eq_true rfl) 62 rfl (fun r59 h59 hf => ?_)
      refine A_i2l C dX8_minutes_62 63 rfl ?_
      refine A_iload C dX8_minutes_63 4 rfl 65 rfl ?_
      refine CSl C dX8_minutes_65 hf (fun _ _ e => mX8_inLowestTerms  e) lkRX8_156 (by decide) (by decide) rfl [.ref (K.2.1 x0)] rfl (Nat.le_of_ble_eq_true rfl) 68 rfl (fun r65 h65 hf => ?_)
      refine CVl C dX8_minutes_68 8 k0 (by decide) (r := (RX8, TX8, 19)) rfl rfl hf (fun _ _ e => mX8_allow_ k0 e) lkRX8_142 (by decide) (by decide) rfl [] rfl (Nat.le_of_ble_eq_true rfl) 71 rfl (fun r68 h68 hf => ?_)
      exact A_lret C dX8_minutes_71 E hf
    refine A_aload_n C dX8_minutes_34 (i := 0) rfl 0 rfl 35 rfl ?_
    refine A_iconst (v := 2) C dX8_minutes_35 (by decide) 36 rfl ?_
    refine CVi C dX8_minutes_36 8 k0 (by decide) (r := (RX8, TX8, 19)) rfl rfl hf (fun _ _ e => mX8_refuse k0 e) lkRX8_83 (by decide) (by decide) rfl [] rfl (Nat.le_of_ble_eq_true rfl) 39 rfl (fun r36 h36 hf => ?_)
    refine A_i2l C dX8_minutes_39 40 rfl ?_
    exact A_lret C dX8_minutes_40 E hf
  refine A_aload_n C dX8_minutes_16 (i := 0) rfl 0 rfl 17 rfl ?_
  refine A_iconst (v := 1) C dX8_minutes_17 (by decide) 18 rfl ?_
  refine CVi C dX8_minutes_18 8 k0 (by decide) (r := (RX8, TX8, 19)) rfl rfl hf (fun _ _ e => mX8_refuse k0 e) lkRX8_83 (by decide) (by decide) rfl [] rfl (Nat.le_of_ble_eq_true rfl) 21 rfl (fun r18 h18 hf => ?_)
  refine A_i2l C dX8_minutes_21 22 rfl ?_
  exact A_lret C dX8_minutes_22 E hf
set_option maxRecDepth 20000 in
theorem mX8_isSleeper {K : KX} {x0 : Nat} {x1 : Int32} (k0 : isK 8 x0) {h : HH} {rv : Bool} {hv : HH} (hf : fX8_isSleeper x0 x1 h = some (rv, hv)) : MR K yX8_isSleeper cX8_isSleeper 2 (some .boolean) 1 [.ref (K.2.1 x0), .int x1] h (some (.int (b2i rv))) hv := by
  refine MR_of (by decide) (Nat.le_of_ble_eq_true rfl) (fun G C E hnl => ?_)
  have C : Ok K G 1 cX8_isSleeper RX8 := C
  refine (show At K G 0 [(0, .ref (K.2.1 x0)), (1, .int x1)] [] h from ?_)
  unfold fX8_isSleeper at hf
  refine A_aload_n C dX8_isSleeper_0 (i := 0) rfl 0 rfl 1 rfl ?_
  refine gfRX8_98 C k0 dX8_isSleeper_1 4 rfl ?_
  refine A_if_eq C dX8_isSleeper_4 29 (by decide) 7 rfl hf (fun c4 hf => ?_) (fun c4 hf => ?_)
  · refine A_iconst (v := 0) C dX8_isSleeper_29 (by decide) 30 rfl ?_
    exact A_zret (x := false) C dX8_isSleeper_30 E hf
  refine A_iload_n C dX8_isSleeper_7 (i := 1) rfl 1 rfl 8 rfl ?_
  refine A_if_lt C dX8_isSleeper_8 29 (by decide) 11 rfl hf (fun c8 hf => ?_) (fun c8 hf => ?_)
  · refine A_iconst (v := 0) C dX8_isSleeper_29 (by decide) 30 rfl ?_
    exact A_zret (x := false) C dX8_isSleeper_30 E hf
  refine A_iload_n C dX8_isSleeper_11 (i := 1) rfl 1 rfl 12 rfl ?_
  refine A_aload_n C dX8_isSleeper_12 (i := 0) rfl 0 rfl 13 rfl ?_
  refine gfRX8_68 C k0 dX8_isSleeper_13 hf 16 rfl (fun kp1 hf => ?_)
  refine gfRX8_116 C kp1 dX8_isSleeper_16 19 rfl ?_
  refine gfRX8_120 C (of_0_3 kp1) dX8_isSleeper_19 22 rfl ?_
  refine A_icmp_ge C dX8_isSleeper_22 29 (by decide) 25 rfl hf (fun c22 hf => ?_) (fun c22 hf => ?_)
  · refine A_iconst (v := 0) C dX8_isSleeper_29 (by decide) 30 rfl ?_
    exact A_zret (x := false) C dX8_isSleeper_30 E hf
  refine A_iconst (v := 1) C dX8_isSleeper_25 (by decide) 26 rfl ?_
  refine A_goto C dX8_isSleeper_26 30 (by decide) ?_
  exact A_zret (x := true) C dX8_isSleeper_30 E hf
set_option maxRecDepth 20000 in
theorem mX8_sleeper {K : KX} {x0 : Nat} {x1 : Int32} {x2 : Int32} (k0 : isK 8 x0) {h : HH} {rv : Int32} {hv : HH} (hf : fX8_sleeper x0 x1 x2 h = some (rv, hv)) : MR K yX8_sleeper cX8_sleeper 3 (some .int) 3 [.ref (K.2.1 x0), .int x1, .int x2] h (some (.int rv)) hv := by
  refine MR_of (by decide) (Nat.le_of_ble_eq_true rfl) (fun G C E hnl => ?_)
  have C : Ok K G 3 cX8_sleeper RX8 := C
  refine (show At K G 0 [(0, .ref (K.2.1 x0)), (1, .int x1), (2, .int x2)] [] h from ?_)
  unfold fX8_sleeper at hf
  refine A_aload_n C dX8_sleeper_0 (i := 0) rfl 0 rfl 1 rfl ?_
  refine A_iload_n C dX8_sleeper_1 (i := 1) rfl 1 rfl 2 rfl ?_
  refine CVz C dX8_sleeper_2 8 k0 (by decide) (r := (RX8, TX8, 19)) rfl rfl hf (fun _ _ e => mX8_isSleeper k0 e) lkRX8_160 (by decide) (by decide) rfl [] rfl (Nat.le_of_ble_eq_true rfl) 5 rfl (fun r2 h2 hf => ?_)
  refine A_z_ne C dX8_sleeper_5 14 (by decide) 8 rfl hf (fun c5 hf => ?_) (fun c5 hf => ?_)
  · refine A_iload_n C dX8_sleeper_14 (i := 2) rfl 2 rfl 15 rfl ?_
    by_cases e15_0 : x2 = 0
    · rw [if_pos e15_0] at hf
      refine A_swIn (v := 0) (off := 41) C dX8_sleeper_15 e15_0 (by decide) (by decide) (by decide) 56 (by decide) ?_
      refine A_aload_n C dX8_sleeper_56 (i := 0) rfl 0 rfl 57 rfl ?_
      refine A_aload_n C dX8_sleeper_57 (i := 0) rfl 0 rfl 58 rfl ?_
      refine gfRX8_23 C k0 dX8_sleeper_58 61 rfl ?_
      refine gfRX8_163 C (of_8_2 k0) dX8_sleeper_61 64 rfl ?_
      refine A_iload_n C dX8_sleeper_64 (i := 1) rfl 1 rfl 65 rfl ?_
      refine A_iald C dX8_sleeper_65 (of_2_0 (of_8_2 k0)) hf 66 rfl (fun hf => ?_)
      refine CVi C dX8_sleeper_66 8 k0 (by decide) (r := (RX8, TX8, 19)) rfl rfl hf (fun _ _ e => mX8_allow k0 e) lkRX8_125 (by decide) (by decide) rfl [] rfl (Nat.le_of_ble_eq_true rfl) 69 rfl (fun r66 h66 hf => ?_)
      exact A_iret C dX8_sleeper_69 E hf
    rw [if_neg e15_0] at hf
    by_cases e15_1 : x2 = 1
    · rw [if_pos e15_1] at hf
      refine A_swIn (v := 1) (off := 55) C dX8_sleeper_15 e15_1 (by decide) (by decide) (by decide) 70 (by decide) ?_
      refine A_aload_n C dX8_sleeper_70 (i := 0) rfl 0 rfl 71 rfl ?_
      refine A_aload_n C dX8_sleeper_71 (i := 0) rfl 0 rfl 72 rfl ?_
      refine gfRX8_23 C k0 dX8_sleeper_72 75 rfl ?_
      refine gfRX8_167 C (of_8_2 k0) dX8_sleeper_75 78 rfl ?_
      refine A_iload_n C dX8_sleeper_78 (i := 1) rfl 1 rfl 79 rfl ?_
      refine A_iald C dX8_sleeper_79 (of_2_1 (of_8_2 k0)) hf 80 rfl (fun hf => ?_)
      refine CVi C dX8_sleeper_80 8 k0 (by decide) (r := (RX8, TX8, 19)) rfl rfl hf (fun _ _ e => mX8_allow k0 e) lkRX8_125 (by decide) (by decide) rfl [] rfl (Nat.le_of_ble_eq_true rfl) 83 rfl (fun r80 h80 hf => ?_)
      exact A_iret C dX8_sleeper_83 E hf
    rw [if_neg e15_1] at hf
    by_cases e15_2 : x2 = 2
    · rw [if_pos e15_2] at hf
      refine A_swIn (v := 2) (off := 69) C dX8_sleeper_15 e15_2 (by decide) (by decide) (by decide) 84 (by decide) ?_
      refine A_aload_n C dX8_sleeper_84 (i := 0) rfl 0 rfl 85 rfl ?_
      refine A_aload_n C dX8_sleeper_85 (i := 0) rfl 0 rfl 86 rfl ?_
      refine gfRX8_23 C k0 dX8_sleeper_86 89 rfl ?_
      refine gfRX8_170 C (of_8_2 k0) dX8_sleeper_89 92 rfl ?_
      refine A_iload_n C dX8_sleeper_92 (i := 1) rfl 1 rfl 93 rfl ?_
      refine A_iald C dX8_sleeper_93 (of_2_2 (of_8_2 k0)) hf 94 rfl (fun hf => ?_)
      refine CVi C dX8_sleeper_94 8 k0 (by decide) (r := (RX8, TX8, 19)) rfl rfl hf (fun _ _ e => mX8_allow k0 e) lkRX8_125 (by decide) (by decide) rfl [] rfl (Nat.le_of_ble_eq_true rfl) 97 rfl (fun r94 h94 hf => ?_)
      exact A_iret C dX8_sleeper_97 E hf
    rw [if_neg e15_2] at hf
    by_cases e15_3 : x2 = 3
    · rw [if_pos e15_3] at hf
      refine A_swIn (v := 3) (off := 83) C dX8_sleeper_15 e15_3 (by decide) (by decide) (by decide) 98 (by decide) ?_
      refine A_aload_n C dX8_sleeper_98 (i := 0) rfl 0 rfl 99 rfl ?_
      refine A_aload_n C dX8_sleeper_99 (i := 0) rfl 0 rfl 100 rfl ?_
      refine gfRX8_23 C k0 dX8_sleeper_100 103 rfl ?_
      refine gfRX8_145 C (of_8_2 k0) dX8_sleeper_103 106 rfl ?_
      refine A_aload_n C dX8_sleeper_106 (i := 0) rfl 0 rfl 107 rfl ?_
      refine gfRX8_23 C k0 dX8_sleeper_107 110 rfl ?_
      refine gfRX8_173 C (of_8_2 k0) dX8_sleeper_110 113 rfl ?_
      refine A_iload_n C dX8_sleeper_113 (i := 1) rfl 1 rfl 114 rfl ?_
      refine A_lald C dX8_sleeper_114 (of_2_4 (of_8_2 k0)) hf 115 rfl (fun hf => ?_)
      refine A_lsub C dX8_sleeper_115 116 rfl ?_
      refine A_aload_n C dX8_sleeper_116 (i := 0) rfl 0 rfl 117 rfl ?_
      refine gfRX8_68 C k0 dX8_sleeper_117 hf 120 rfl (fun kp1 hf => ?_)
      refine A_aload_n C dX8_sleeper_120 (i := 0) rfl 0 rfl 121 rfl ?_
      refine gfRX8_23 C k0 dX8_sleeper_121 124 rfl ?_
      refine gfRX8_163 C (of_8_2 k0) dX8_sleeper_124 127 rfl ?_
      refine A_iload_n C dX8_sleeper_127 (i := 1) rfl 1 rfl 128 rfl ?_
      refine A_iald C dX8_sleeper_128 (of_2_0 (of_8_2 k0)) hf 129 rfl (fun hf => ?_)
      refine CVi C dX8_sleeper_129 0 kp1 (by decide) (r := (RX0, TX0, 14)) rfl rfl hf (fun _ _ e => mX0_minuteOf kp1 e) lkRX8_149 (by decide) (by decide) rfl [.long ((gL h2 (x0 + 6) 6) - (gL h2 ((x0 + 6) + 5) (ix x1))), .ref (K.2.1 x0)] rfl (Nat.le_of_ble_eq_true rfl) 132 rfl (fun r129 h129 hf => ?_)
      refine A_i2l C dX8_sleeper_132 133 rfl ?_
      refine CSl C dX8_sleeper_133 hf (fun _ _ e => mX8_quotient  e) lkRX8_152 (by decide) (by decide) rfl [.ref (K.2.1 x0)] rfl (Nat.le_of_ble_eq_true rfl) 136 rfl (fun r133 h133 hf => ?_)
      refine A_l2i C dX8_sleeper_136 137 rfl ?_
      refine CVi C dX8_sleeper_137 8 k0 (by decide) (r := (RX8, TX8, 19)) rfl rfl hf (fun _ _ e => mX8_allow k0 e) lkRX8_125 (by decide) (by decide) rfl [] rfl (Nat.le_of_ble_eq_true rfl) 140 rfl (fun r137 h137 hf => ?_)
      exact A_iret C dX8_sleeper_140 E hf
    rw [if_neg e15_3] at hf
    by_cases e15_4 : x2 = 4
    · rw [if_pos e15_4] at hf
      refine A_swIn (v := 4) (off := 126) C dX8_sleeper_15 e15_4 (by decide) (by decide) (by decide) 141 (by decide) ?_
      refine A_aload_n C dX8_sleeper_141 (i := 0) rfl 0 rfl 142 rfl ?_
      refine A_aload_n C dX8_sleeper_142 (i := 0) rfl 0 rfl 143 rfl ?_
      refine gfRX8_68 C k0 dX8_sleeper_143 hf 146 rfl (fun kp2 hf => ?_)
      refine gfRX8_116 C kp2 dX8_sleeper_146 149 rfl ?_
      refine A_iload_n C dX8_sleeper_149 (i := 1) rfl 1 rfl 150 rfl ?_
      refine A_iconst (v := 0) C dX8_sleeper_150 (by decide) 151 rfl ?_
      refine CVi C dX8_sleeper_151 7 (of_0_3 kp2) (by decide) (r := (RX7, TX7, 4)) rfl rfl hf (fun _ _ e => mX7_at (of_0_3 kp2) e) lkRX8_177 (by decide) (by decide) rfl [.ref (K.2.1 x0)] rfl (Nat.le_of_ble_eq_true rfl) 154 rfl (fun r151 h151 hf => ?_)
      refine CVi C dX8_sleeper_154 8 k0 (by decide) (r := (RX8, TX8, 19)) rfl rfl hf (fun _ _ e => mX8_allow k0 e) lkRX8_125 (by decide) (by decide) rfl [] rfl (Nat.le_of_ble_eq_true rfl) 157 rfl (fun r154 h154 hf => ?_)
      exact A_iret C dX8_sleeper_157 E hf
    rw [if_neg e15_4] at hf
    by_cases e15_5 : x2 = 5
    · rw [if_pos e15_5] at hf
      refine A_swIn (v := 5) (off := 143) C dX8_sleeper_15 e15_5 (by decide) (by decide) (by decide) 158 (by decide) ?_
      refine A_aload_n C dX8_sleeper_158 (i := 0) rfl 0 rfl 159 rfl ?_
      refine A_aload_n C dX8_sleeper_159 (i := 0) rfl 0 rfl 160 rfl ?_
      refine gfRX8_68 C k0 dX8_sleeper_160 hf 163 rfl (fun kp3 hf => ?_)
      refine gfRX8_116 C kp3 dX8_sleeper_163 166 rfl ?_
      refine A_iload_n C dX8_sleeper_166 (i := 1) rfl 1 rfl 167 rfl ?_
      refine A_iconst (v := 1) C dX8_sleeper_167 (by decide) 168 rfl ?_
      refine CVi C dX8_sleeper_168 7 (of_0_3 kp3) (by decide) (r := (RX7, TX7, 4)) rfl rfl hf (fun _ _ e => mX7_at (of_0_3 kp3) e) lkRX8_177 (by decide) (by decide) rfl [.ref (K.2.1 x0)] rfl (Nat.le_of_ble_eq_true rfl) 171 rfl (fun r168 h168 hf => ?_)
      refine CVi C dX8_sleeper_171 8 k0 (by decide) (r := (RX8, TX8, 19)) rfl rfl hf (fun _ _ e => mX8_allow k0 e) lkRX8_125 (by decide) (by decide) rfl [] rfl (Nat.le_of_ble_eq_true rfl) 174 rfl (fun r171 h171 hf => ?_)
      exact A_iret C dX8_sleeper_174 E hf
    rw [if_neg e15_5] at hf
    by_cases e15_6 : x2 = 6
    · rw [if_pos e15_6] at hf
      refine A_swIn (v := 6) (off := 160) C dX8_sleeper_15 e15_6 (by decide) (by decide) (by decide) 175 (by decide) ?_
      refine A_aload_n C dX8_sleeper_175 (i := 0) rfl 0 rfl 176 rfl ?_
      refine A_aload_n C dX8_sleeper_176 (i := 0) rfl 0 rfl 177 rfl ?_
      refine gfRX8_68 C k0 dX8_sleeper_177 hf 180 rfl (fun kp4 hf => ?_)
      refine gfRX8_116 C kp4 dX8_sleeper_180 183 rfl ?_
      refine A_iload_n C dX8_sleeper_183 (i := 1) rfl 1 rfl 184 rfl ?_
      refine A_iconst (v := 4) C dX8_sleeper_184 (by decide) 185 rfl ?_
      refine CVi C dX8_sleeper_185 7 (of_0_3 kp4) (by decide) (r := (RX7, TX7, 4)) rfl rfl hf (fun _ _ e => mX7_at (of_0_3 kp4) e) lkRX8_177 (by decide) (by decide) rfl [.ref (K.2.1 x0)] rfl (Nat.le_of_ble_eq_true rfl) 188 rfl (fun r185 h185 hf => ?_)
      refine CVi C dX8_sleeper_188 8 k0 (by decide) (r := (RX8, TX8, 19)) rfl rfl hf (fun _ _ e => mX8_allow k0 e) lkRX8_125 (by decide) (by decide) rfl [] rfl (Nat.le_of_ble_eq_true rfl) 191 rfl (fun r188 h188 hf => ?_)
      exact A_iret C dX8_sleeper_191 E hf
    rw [if_neg e15_6] at hf
    refine A_swOut C dX8_sleeper_15 (sw_out 0 7 (by decide) (fun j hj => by
      match j, hj with
      | 0, _ => exact e15_0
      | 1, _ => exact e15_1
      | 2, _ => exact e15_2
      | 3, _ => exact e15_3
      | 4, _ => exact e15_4
      | 5, _ => exact e15_5
      | 6, _ => exact e15_6
      | j + 7, hj => exact absurd hj (by omega))) 192 (by decide) ?_
    refine A_aload_n C dX8_sleeper_192 (i := 0) rfl 0 rfl 193 rfl ?_
    refine A_iconst (v := 1) C dX8_sleeper_193 (by decide) 194 rfl ?_
    refine CVi C dX8_sleeper_194 8 k0 (by decide) (r := (RX8, TX8, 19)) rfl rfl hf (fun _ _ e => mX8_refuse k0 e) lkRX8_83 (by decide) (by decide) rfl [] rfl (Nat.le_of_ble_eq_true rfl) 197 rfl (fun r194 h194 hf => ?_)
    exact A_iret C dX8_sleeper_197 E hf
  refine A_aload_n C dX8_sleeper_8 (i := 0) rfl 0 rfl 9 rfl ?_
  refine A_iconst (v := 1) C dX8_sleeper_9 (by decide) 10 rfl ?_
  refine CVi C dX8_sleeper_10 8 k0 (by decide) (r := (RX8, TX8, 19)) rfl rfl hf (fun _ _ e => mX8_refuse k0 e) lkRX8_83 (by decide) (by decide) rfl [] rfl (Nat.le_of_ble_eq_true rfl) 13 rfl (fun r10 h10 hf => ?_)
  exact A_iret C dX8_sleeper_13 E hf
set_option maxRecDepth 20000 in
theorem mX8_lived {K : KX} {x0 : Nat} {x1 : Int32} {x2 : Bool} (k0 : isK 8 x0) {h : HH} {rv : Int64} {hv : HH} (hf : fX8_lived x0 x1 x2 h = some (rv, hv)) : MR K yX8_lived cX8_lived 3 (some .long) 3 [.ref (K.2.1 x0), .int x1, .int (b2i x2)] h (some (.long rv)) hv := by
  refine MR_of (by decide) (Nat.le_of_ble_eq_true rfl) (fun G C E hnl => ?_)
  have C : Ok K G 3 cX8_lived RX8 := C
  refine (show At K G 0 [(0, .ref (K.2.1 x0)), (1, .int x1), (2, .int (b2i x2))] [] h from ?_)
  unfold fX8_lived at hf
  refine A_aload_n C dX8_lived_0 (i := 0) rfl 0 rfl 1 rfl ?_
  refine A_iload_n C dX8_lived_1 (i := 1) rfl 1 rfl 2 rfl ?_
  refine CVz C dX8_lived_2 8 k0 (by decide) (r := (RX8, TX8, 19)) rfl rfl hf (fun _ _ e => mX8_isSleeper k0 e) lkRX8_160 (by decide) (by decide) rfl [] rfl (Nat.le_of_ble_eq_true rfl) 5 rfl (fun r2 h2 hf => ?_)
  refine A_z_ne C dX8_lived_5 15 (by decide) 8 rfl hf (fun c5 hf => ?_) (fun c5 hf => ?_)
  · refine A_aload_n C dX8_lived_15 (i := 0) rfl 0 rfl 16 rfl ?_
    refine A_aload_n C dX8_lived_16 (i := 0) rfl 0 rfl 17 rfl ?_
    refine gfRX8_23 C k0 dX8_lived_17 20 rfl ?_
    refine A_aload_n C dX8_lived_20 (i := 0) rfl 0 rfl 21 rfl ?_
    refine gfRX8_68 C k0 dX8_lived_21 hf 24 rfl (fun kp1 hf => ?_)
    refine A_iload_n C dX8_lived_24 (i := 1) rfl 1 rfl 25 rfl ?_
    refine CVl C dX8_lived_25 2 (of_8_2 k0) (by decide) (r := (RX2, TX2, 7)) rfl rfl hf (fun _ _ e => mX2_livedBy (of_8_2 k0) kp1 e) lkRX8_181 (by decide) (by decide) rfl [.ref (K.2.1 x0)] rfl (Nat.le_of_ble_eq_true rfl) 28 rfl (fun r25 h25 hf => ?_)
    refine A_aload_n C dX8_lived_28 (i := 0) rfl 0 rfl 29 rfl ?_
    refine gfRX8_68 C k0 dX8_lived_29 hf 32 rfl (fun kp2 hf => ?_)
    refine CVi C dX8_lived_32 0 kp2 (by decide) (r := (RX0, TX0, 14)) rfl rfl hf (fun _ _ e => mX0_bottom kp2 e) lkRX8_185 (by decide) (by decide) rfl [.long r25, .ref (K.2.1 x0)] rfl (Nat.le_of_ble_eq_true rfl) 35 rfl (fun r32 h32 hf => ?_)
    refine A_i2l C dX8_lived_35 36 rfl ?_
    refine A_iload_n C dX8_lived_36 (i := 2) rfl 2 rfl 37 rfl ?_
    refine CSl C dX8_lived_37 hf (fun _ _ e => mX8_inLowestTerms  e) lkRX8_156 (by decide) (by decide) rfl [.ref (K.2.1 x0)] rfl (Nat.le_of_ble_eq_true rfl) 40 rfl (fun r37 h37 hf => ?_)
    refine CVl C dX8_lived_40 8 k0 (by decide) (r := (RX8, TX8, 19)) rfl rfl hf (fun _ _ e => mX8_allow_ k0 e) lkRX8_142 (by decide) (by decide) rfl [] rfl (Nat.le_of_ble_eq_true rfl) 43 rfl (fun r40 h40 hf => ?_)
    exact A_lret C dX8_lived_43 E hf
  refine A_aload_n C dX8_lived_8 (i := 0) rfl 0 rfl 9 rfl ?_
  refine A_iconst (v := 1) C dX8_lived_9 (by decide) 10 rfl ?_
  refine CVi C dX8_lived_10 8 k0 (by decide) (r := (RX8, TX8, 19)) rfl rfl hf (fun _ _ e => mX8_refuse k0 e) lkRX8_83 (by decide) (by decide) rfl [] rfl (Nat.le_of_ble_eq_true rfl) 13 rfl (fun r10 h10 hf => ?_)
  refine A_i2l C dX8_lived_13 14 rfl ?_
  exact A_lret C dX8_lived_14 E hf
set_option maxRecDepth 20000 in
theorem mX8_isPair {K : KX} {x0 : Nat} {x1 : Int32} {x2 : Int32} (k0 : isK 8 x0) {h : HH} {rv : Bool} {hv : HH} (hf : fX8_isPair x0 x1 x2 h = some (rv, hv)) : MR K yX8_isPair cX8_isPair 3 (some .boolean) 2 [.ref (K.2.1 x0), .int x1, .int x2] h (some (.int (b2i rv))) hv := by
  refine MR_of (by decide) (Nat.le_of_ble_eq_true rfl) (fun G C E hnl => ?_)
  have C : Ok K G 2 cX8_isPair RX8 := C
  refine (show At K G 0 [(0, .ref (K.2.1 x0)), (1, .int x1), (2, .int x2)] [] h from ?_)
  unfold fX8_isPair at hf
  refine A_aload_n C dX8_isPair_0 (i := 0) rfl 0 rfl 1 rfl ?_
  refine A_iload_n C dX8_isPair_1 (i := 1) rfl 1 rfl 2 rfl ?_
  refine CVz C dX8_isPair_2 8 k0 (by decide) (r := (RX8, TX8, 19)) rfl rfl hf (fun _ _ e => mX8_isSleeper k0 e) lkRX8_160 (by decide) (by decide) rfl [] rfl (Nat.le_of_ble_eq_true rfl) 5 rfl (fun r2 h2 hf => ?_)
  refine A_z_eq C dX8_isPair_5 25 (by decide) 8 rfl hf (fun c5 hf => ?_) (fun c5 hf => ?_)
  · refine A_iconst (v := 0) C dX8_isPair_25 (by decide) 26 rfl ?_
    exact A_zret (x := false) C dX8_isPair_26 E hf
  refine A_aload_n C dX8_isPair_8 (i := 0) rfl 0 rfl 9 rfl ?_
  refine A_iload_n C dX8_isPair_9 (i := 2) rfl 2 rfl 10 rfl ?_
  refine CVz C dX8_isPair_10 8 k0 (by decide) (r := (RX8, TX8, 19)) rfl rfl hf (fun _ _ e => mX8_isSleeper k0 e) lkRX8_160 (by decide) (by decide) rfl [] rfl (Nat.le_of_ble_eq_true rfl) 13 rfl (fun r10 h10 hf => ?_)
  refine A_z_eq C dX8_isPair_13 25 (by decide) 16 rfl hf (fun c13 hf => ?_) (fun c13 hf => ?_)
  · refine A_iconst (v := 0) C dX8_isPair_25 (by decide) 26 rfl ?_
    exact A_zret (x := false) C dX8_isPair_26 E hf
  refine A_iload_n C dX8_isPair_16 (i := 1) rfl 1 rfl 17 rfl ?_
  refine A_iload_n C dX8_isPair_17 (i := 2) rfl 2 rfl 18 rfl ?_
  refine A_icmp_eq C dX8_isPair_18 25 (by decide) 21 rfl hf (fun c18 hf => ?_) (fun c18 hf => ?_)
  · refine A_iconst (v := 0) C dX8_isPair_25 (by decide) 26 rfl ?_
    exact A_zret (x := false) C dX8_isPair_26 E hf
  refine A_iconst (v := 1) C dX8_isPair_21 (by decide) 22 rfl ?_
  refine A_goto C dX8_isPair_22 26 (by decide) ?_
  exact A_zret (x := true) C dX8_isPair_26 E hf
set_option maxRecDepth 20000 in
theorem mX8_meet {K : KX} {x0 : Nat} {x1 : Int32} {x2 : Int32} (k0 : isK 8 x0) {h : HH} {rv : Int32} {hv : HH} (hf : fX8_meet x0 x1 x2 h = some (rv, hv)) : MR K yX8_meet cX8_meet 3 (some .int) 3 [.ref (K.2.1 x0), .int x1, .int x2] h (some (.int rv)) hv := by
  refine MR_of (by decide) (Nat.le_of_ble_eq_true rfl) (fun G C E hnl => ?_)
  have C : Ok K G 3 cX8_meet RX8 := C
  refine (show At K G 0 [(0, .ref (K.2.1 x0)), (1, .int x1), (2, .int x2)] [] h from ?_)
  unfold fX8_meet at hf
  refine A_aload_n C dX8_meet_0 (i := 0) rfl 0 rfl 1 rfl ?_
  refine A_iload_n C dX8_meet_1 (i := 1) rfl 1 rfl 2 rfl ?_
  refine A_iload_n C dX8_meet_2 (i := 2) rfl 2 rfl 3 rfl ?_
  refine CVz C dX8_meet_3 8 k0 (by decide) (r := (RX8, TX8, 19)) rfl rfl hf (fun _ _ e => mX8_isPair k0 e) lkRX8_189 (by decide) (by decide) rfl [] rfl (Nat.le_of_ble_eq_true rfl) 6 rfl (fun r3 h3 hf => ?_)
  refine A_z_ne C dX8_meet_6 15 (by decide) 9 rfl hf (fun c6 hf => ?_) (fun c6 hf => ?_)
  · refine A_aload_n C dX8_meet_15 (i := 0) rfl 0 rfl 16 rfl ?_
    refine A_aload_n C dX8_meet_16 (i := 0) rfl 0 rfl 17 rfl ?_
    refine gfRX8_23 C k0 dX8_meet_17 20 rfl ?_
    refine A_iload_n C dX8_meet_20 (i := 1) rfl 1 rfl 21 rfl ?_
    refine A_iload_n C dX8_meet_21 (i := 2) rfl 2 rfl 22 rfl ?_
    refine CVz C dX8_meet_22 2 (of_8_2 k0) (by decide) (r := (RX2, TX2, 7)) rfl rfl hf (fun _ _ e => mX2_haveMet (of_8_2 k0) e) lkRX8_193 (by decide) (by decide) rfl [.ref (K.2.1 x0)] rfl (Nat.le_of_ble_eq_true rfl) 25 rfl (fun r22 h22 hf => ?_)
    refine A_z_eq C dX8_meet_25 32 (by decide) 28 rfl hf (fun c25 hf => ?_) (fun c25 hf => ?_)
    · refine A_iconst (v := 0) C dX8_meet_32 (by decide) 33 rfl ?_
      refine CVi C dX8_meet_33 8 k0 (by decide) (r := (RX8, TX8, 19)) rfl rfl hf (fun _ _ e => mX8_allow k0 e) lkRX8_125 (by decide) (by decide) rfl [] rfl (Nat.le_of_ble_eq_true rfl) 36 rfl (fun r33 h33 hf => ?_)
      exact A_iret C dX8_meet_36 E hf
    refine A_iconst (v := 1) C dX8_meet_28 (by decide) 29 rfl ?_
    refine A_goto C dX8_meet_29 33 (by decide) ?_
    refine CVi C dX8_meet_33 8 k0 (by decide) (r := (RX8, TX8, 19)) rfl rfl hf (fun _ _ e => mX8_allow k0 e) lkRX8_125 (by decide) (by decide) rfl [] rfl (Nat.le_of_ble_eq_true rfl) 36 rfl (fun r33 h33 hf => ?_)
    exact A_iret C dX8_meet_36 E hf
  refine A_aload_n C dX8_meet_9 (i := 0) rfl 0 rfl 10 rfl ?_
  refine A_iconst (v := 1) C dX8_meet_10 (by decide) 11 rfl ?_
  refine CVi C dX8_meet_11 8 k0 (by decide) (r := (RX8, TX8, 19)) rfl rfl hf (fun _ _ e => mX8_refuse k0 e) lkRX8_83 (by decide) (by decide) rfl [] rfl (Nat.le_of_ble_eq_true rfl) 14 rfl (fun r11 h11 hf => ?_)
  exact A_iret C dX8_meet_14 E hf
set_option maxRecDepth 20000 in
theorem wX8_off_L15 {K : KX} {G : GX} (C : Ok K G 2 cX8_off RX8) (hnl : G.2.2.2.2.2.2.2.2.2.2.2.2.2 = 3) {rv : Int32} {hv : HH} (E : Endd K G (some .int) (some (.int rv)) hv) {x0 : Nat}   (kx0 : isK 8 x0) : ∀ (self15 : Int32 → HH → Option (Int32 × HH)), (∀ (x1 : Int32) (h : HH), self15 x1 h = some (rv, hv) → At K G 15 [(0, .ref (K.2.1 x0)), (1, .int x1)] [] h) → ∀ (x1 : Int32) (h : HH), fX8_off_L15 x0 self15 x1 h = some (rv, hv) → At K G 15 [(0, .ref (K.2.1 x0)), (1, .int x1)] [] h := by
  intro self15 Hself15 x1 h hf
  unfold fX8_off_L15 at hf
  refine A_iload_n C dX8_off_15 (i := 1) rfl 1 rfl 16 rfl ?_
  refine A_aload_n C dX8_off_16 (i := 0) rfl 0 rfl 17 rfl ?_
  refine gfRX8_68 C kx0 dX8_off_17 hf 20 rfl (fun kp1 hf => ?_)
  refine gfRX8_116 C kp1 dX8_off_20 23 rfl ?_
  refine gfRX8_120 C (of_0_3 kp1) dX8_off_23 26 rfl ?_
  refine A_icmp_ge C dX8_off_26 73 (by decide) 29 rfl hf (fun c26 hf => ?_) (fun c26 hf => ?_)
  · refine A_aload_n C dX8_off_73 (i := 0) rfl 0 rfl 74 rfl ?_
    refine A_bipush (v := (-2)) C dX8_off_74 (by decide) 76 rfl ?_
    refine CVi C dX8_off_76 8 kx0 (by decide) (r := (RX8, TX8, 19)) rfl rfl hf (fun _ _ e => mX8_allow kx0 e) lkRX8_125 (by decide) (by decide) rfl [] rfl (Nat.le_of_ble_eq_true rfl) 79 rfl (fun r76 h76 hf => ?_)
    exact A_iret C dX8_off_79 E hf
  refine A_aload_n C dX8_off_29 (i := 0) rfl 0 rfl 30 rfl ?_
  refine gfRX8_68 C kx0 dX8_off_30 hf 33 rfl (fun kp2 hf => ?_)
  refine gfRX8_116 C kp2 dX8_off_33 36 rfl ?_
  refine A_iload_n C dX8_off_36 (i := 1) rfl 1 rfl 37 rfl ?_
  refine A_iconst (v := 4) C dX8_off_37 (by decide) 38 rfl ?_
  refine CVi C dX8_off_38 7 (of_0_3 kp2) (by decide) (r := (RX7, TX7, 4)) rfl rfl hf (fun _ _ e => mX7_at (of_0_3 kp2) e) lkRX8_177 (by decide) (by decide) rfl [] rfl (Nat.le_of_ble_eq_true rfl) 41 rfl (fun r38 h38 hf => ?_)
  refine A_istore_n C dX8_off_41 (i := 2) rfl [(2, .int r38), (0, .ref (K.2.1 x0)), (1, .int x1)] (lt_nl hnl (by decide)) rfl 42 rfl ?_
  refine A_iload_n C dX8_off_42 (i := 2) rfl 0 rfl 43 rfl ?_
  refine A_bipush (v := (-2)) C dX8_off_43 (by decide) 45 rfl ?_
  refine A_icmp_eq C dX8_off_45 67 (by decide) 48 rfl hf (fun c45 hf => ?_) (fun c45 hf => ?_)
  · refine A_iinc (v := (x1 + 1)) C dX8_off_67 2 rfl rfl [(1, .int (x1 + 1)), (2, .int r38), (0, .ref (K.2.1 x0))] (lt_nl hnl (by decide)) rfl 70 rfl ?_
    refine A_goto C dX8_off_70 15 (by decide) ?_
    refine A_sub [2, 0] (lv' := [(0, .ref (K.2.1 x0)), (1, .int (x1 + 1))]) rfl ?_
    exact Hself15 _ _ hf
  refine A_iload_n C dX8_off_48 (i := 2) rfl 0 rfl 49 rfl ?_
  refine A_aload_n C dX8_off_49 (i := 0) rfl 1 rfl 50 rfl ?_
  refine gfRX8_23 C kx0 dX8_off_50 53 rfl ?_
  refine gfRX8_163 C (of_8_2 kx0) dX8_off_53 56 rfl ?_
  refine A_iload_n C dX8_off_56 (i := 1) rfl 2 rfl 57 rfl ?_
  refine A_iald C dX8_off_57 (of_2_0 (of_8_2 kx0)) hf 58 rfl (fun hf => ?_)
  refine A_icmp_eq C dX8_off_58 67 (by decide) 61 rfl hf (fun c58 hf => ?_) (fun c58 hf => ?_)
  · refine A_iinc (v := (x1 + 1)) C dX8_off_67 2 rfl rfl [(1, .int (x1 + 1)), (2, .int r38), (0, .ref (K.2.1 x0))] (lt_nl hnl (by decide)) rfl 70 rfl ?_
    refine A_goto C dX8_off_70 15 (by decide) ?_
    refine A_sub [2, 0] (lv' := [(0, .ref (K.2.1 x0)), (1, .int (x1 + 1))]) rfl ?_
    exact Hself15 _ _ hf
  refine A_aload_n C dX8_off_61 (i := 0) rfl 1 rfl 62 rfl ?_
  refine A_iload_n C dX8_off_62 (i := 1) rfl 2 rfl 63 rfl ?_
  refine CVi C dX8_off_63 8 kx0 (by decide) (r := (RX8, TX8, 19)) rfl rfl hf (fun _ _ e => mX8_allow kx0 e) lkRX8_125 (by decide) (by decide) rfl [] rfl (Nat.le_of_ble_eq_true rfl) 66 rfl (fun r63 h63 hf => ?_)
  exact A_iret C dX8_off_66 E hf
set_option maxRecDepth 20000 in
theorem mX8_off {K : KX} {x0 : Nat} (k0 : isK 8 x0) {h : HH} {rv : Int32} {hv : HH} (hf : fX8_off x0 h = some (rv, hv)) : MR K yX8_off cX8_off 3 (some .int) 2 [.ref (K.2.1 x0)] h (some (.int rv)) hv := by
  refine MR_of (by decide) (Nat.le_of_ble_eq_true rfl) (fun G C E hnl => ?_)
  have C : Ok K G 2 cX8_off RX8 := C
  refine (show At K G 0 [(0, .ref (K.2.1 x0))] [] h from ?_)
  unfold fX8_off at hf
  refine A_aload_n C dX8_off_0 (i := 0) rfl 0 rfl 1 rfl ?_
  refine gfRX8_98 C k0 dX8_off_1 4 rfl ?_
  refine A_if_ne C dX8_off_4 13 (by decide) 7 rfl hf (fun c4 hf => ?_) (fun c4 hf => ?_)
  · refine A_iconst (v := 0) C dX8_off_13 (by decide) 14 rfl ?_
    refine A_istore_n C dX8_off_14 (i := 1) rfl [(1, .int 0), (0, .ref (K.2.1 x0))] (lt_nl hnl (by decide)) rfl 15 rfl ?_
    refine A_sub [1, 0] (lv' := [(0, .ref (K.2.1 x0)), (1, .int 0)]) rfl ?_
    refine lq1_at (wX8_off_L15 C hnl E k0) FU _ _ hf
  refine A_aload_n C dX8_off_7 (i := 0) rfl 0 rfl 8 rfl ?_
  refine A_iconst (v := 1) C dX8_off_8 (by decide) 9 rfl ?_
  refine CVi C dX8_off_9 8 k0 (by decide) (r := (RX8, TX8, 19)) rfl rfl hf (fun _ _ e => mX8_refuse k0 e) lkRX8_83 (by decide) (by decide) rfl [] rfl (Nat.le_of_ble_eq_true rfl) 12 rfl (fun r9 h9 hf => ?_)
  exact A_iret C dX8_off_12 E hf
set_option maxRecDepth 20000 in
theorem mX8_isSpan {K : KX} {x0 : Int32}  {h : HH} {rv : Bool} {hv : HH} (hf : fX8_isSpan x0 h = some (rv, hv)) : MR K yX8_isSpan cX8_isSpan 1 (some .boolean) 1 [.int x0] h (some (.int (b2i rv))) hv := by
  refine MR_of (by decide) (Nat.le_of_ble_eq_true rfl) (fun G C E hnl => ?_)
  have C : Ok K G 1 cX8_isSpan RX8 := C
  refine (show At K G 0 [(0, .int x0)] [] h from ?_)
  unfold fX8_isSpan at hf
  refine A_iload_n C dX8_isSpan_0 (i := 0) rfl 0 rfl 1 rfl ?_
  refine A_if_lt C dX8_isSpan_1 15 (by decide) 4 rfl hf (fun c1 hf => ?_) (fun c1 hf => ?_)
  · refine A_iconst (v := 0) C dX8_isSpan_15 (by decide) 16 rfl ?_
    exact A_zret (x := false) C dX8_isSpan_16 E hf
  refine A_iload_n C dX8_isSpan_4 (i := 0) rfl 0 rfl 5 rfl ?_
  refine A_sipush (v := 600) C dX8_isSpan_5 (by decide) 8 rfl ?_
  refine A_icmp_gt C dX8_isSpan_8 15 (by decide) 11 rfl hf (fun c8 hf => ?_) (fun c8 hf => ?_)
  · refine A_iconst (v := 0) C dX8_isSpan_15 (by decide) 16 rfl ?_
    exact A_zret (x := false) C dX8_isSpan_16 E hf
  refine A_iconst (v := 1) C dX8_isSpan_11 (by decide) 12 rfl ?_
  refine A_goto C dX8_isSpan_12 16 (by decide) ?_
  exact A_zret (x := true) C dX8_isSpan_16 E hf
set_option maxRecDepth 20000 in
theorem mX8_whyNotIn {K : KX} {x0 : Nat} {x1 : Int32} {x2 : Int32} (k0 : isK 8 x0) {h : HH} {rv : Int32} {hv : HH} (hf : fX8_whyNotIn x0 x1 x2 h = some (rv, hv)) : MR K yX8_whyNotIn cX8_whyNotIn 3 (some .int) 2 [.ref (K.2.1 x0), .int x1, .int x2] h (some (.int rv)) hv := by
  refine MR_of (by decide) (Nat.le_of_ble_eq_true rfl) (fun G C E hnl => ?_)
  have C : Ok K G 2 cX8_whyNotIn RX8 := C
  refine (show At K G 0 [(0, .ref (K.2.1 x0)), (1, .int x1), (2, .int x2)] [] h from ?_)
  unfold fX8_whyNotIn at hf
  refine A_aload_n C dX8_whyNotIn_0 (i := 0) rfl 0 rfl 1 rfl ?_
  refine A_iload_n C dX8_whyNotIn_1 (i := 1) rfl 1 rfl 2 rfl ?_
  refine CVz C dX8_whyNotIn_2 8 k0 (by decide) (r := (RX8, TX8, 19)) rfl rfl hf (fun _ _ e => mX8_isSleeper k0 e) lkRX8_160 (by decide) (by decide) rfl [] rfl (Nat.le_of_ble_eq_true rfl) 5 rfl (fun r2 h2 hf => ?_)
  refine A_z_ne C dX8_whyNotIn_5 10 (by decide) 8 rfl hf (fun c5 hf => ?_) (fun c5 hf => ?_)
  · refine A_iload_n C dX8_whyNotIn_10 (i := 2) rfl 2 rfl 11 rfl ?_
    refine CSz C dX8_whyNotIn_11 hf (fun _ _ e => mX8_isSpan  e) lkRX8_202 (by decide) (by decide) rfl [] rfl (Nat.le_of_ble_eq_true rfl) 14 rfl (fun r11 h11 hf => ?_)
    refine A_z_eq C dX8_whyNotIn_14 21 (by decide) 17 rfl hf (fun c14 hf => ?_) (fun c14 hf => ?_)
    · refine A_iconst (v := 2) C dX8_whyNotIn_21 (by decide) 22 rfl ?_
      exact A_iret C dX8_whyNotIn_22 E hf
    refine A_iconst (v := 0) C dX8_whyNotIn_17 (by decide) 18 rfl ?_
    refine A_goto C dX8_whyNotIn_18 22 (by decide) ?_
    exact A_iret C dX8_whyNotIn_22 E hf
  refine A_iconst (v := 1) C dX8_whyNotIn_8 (by decide) 9 rfl ?_
  exact A_iret C dX8_whyNotIn_9 E hf
set_option maxRecDepth 20000 in
theorem mX8_lookAhead {K : KX} {x0 : Nat} {x1 : Int32} (k0 : isK 8 x0) {h : HH} {rv : HH} (hf : fX8_lookAhead x0 x1 h = some rv) : MR K yX8_lookAhead cX8_lookAhead 2 none 6 [.ref (K.2.1 x0), .int x1] h none rv := by
  refine MR_of (by decide) (Nat.le_of_ble_eq_true rfl) (fun G C E hnl => ?_)
  have C : Ok K G 6 cX8_lookAhead RX8 := C
  refine (show At K G 0 [(0, .ref (K.2.1 x0)), (1, .int x1)] [] h from ?_)
  unfold fX8_lookAhead at hf
  refine A_aload_n C dX8_lookAhead_0 (i := 0) rfl 0 rfl 1 rfl ?_
  refine gfRX8_27 C k0 dX8_lookAhead_1 4 rfl ?_
  refine A_aload_n C dX8_lookAhead_4 (i := 0) rfl 0 rfl 5 rfl ?_
  refine gfRX8_23 C k0 dX8_lookAhead_5 8 rfl ?_
  refine CVv C dX8_lookAhead_8 2 (of_8_3 k0) (by decide) (r := (RX2, TX2, 7)) rfl rfl hf (fun _ e => mX2_copyFrom (of_8_3 k0) (of_8_2 k0) e) lkRX8_220 (by decide) (by decide) rfl [] rfl (Nat.le_of_ble_eq_true rfl) 11 rfl (fun h8 hf => ?_)
  refine A_aload_n C dX8_lookAhead_11 (i := 0) rfl 0 rfl 12 rfl ?_
  refine gfRX8_27 C k0 dX8_lookAhead_12 15 rfl ?_
  refine A_aload_n C dX8_lookAhead_15 (i := 0) rfl 0 rfl 16 rfl ?_
  refine gfRX8_68 C k0 dX8_lookAhead_16 hf 19 rfl (fun kp1 hf => ?_)
  refine A_aload_n C dX8_lookAhead_19 (i := 0) rfl 0 rfl 20 rfl ?_
  refine gfRX8_23 C k0 dX8_lookAhead_20 23 rfl ?_
  refine gfRX8_145 C (of_8_2 k0) dX8_lookAhead_23 26 rfl ?_
  refine A_iload_n C dX8_lookAhead_26 (i := 1) rfl 1 rfl 27 rfl ?_
  refine A_i2l C dX8_lookAhead_27 28 rfl ?_
  refine A_aload_n C dX8_lookAhead_28 (i := 0) rfl 0 rfl 29 rfl ?_
  refine gfRX8_68 C k0 dX8_lookAhead_29 hf 32 rfl (fun kp2 hf => ?_)
  refine CVi C dX8_lookAhead_32 0 kp2 (by decide) (r := (RX0, TX0, 14)) rfl rfl hf (fun _ _ e => mX0_bottom kp2 e) lkRX8_185 (by decide) (by decide) rfl [.long x1.toInt64, .long (gL h8 (x0 + 6) 6), .ref (K.2.1 (gR h8 x0 10)), .ref (K.2.1 (x0 + 13))] rfl (Nat.le_of_ble_eq_true rfl) 35 rfl (fun r32 h32 hf => ?_)
  refine A_i2l C dX8_lookAhead_35 36 rfl ?_
  refine A_lmul C dX8_lookAhead_36 37 rfl ?_
  refine A_ladd C dX8_lookAhead_37 38 rfl ?_
  refine CVv C dX8_lookAhead_38 2 (of_8_3 k0) (by decide) (r := (RX2, TX2, 7)) rfl rfl hf (fun _ e => mX2_runTo (of_8_3 k0) kp1 e) lkRX8_233 (by decide) (by decide) rfl [] rfl (Nat.le_of_ble_eq_true rfl) 41 rfl (fun h38 hf => ?_)
  exact A_vret C dX8_lookAhead_41 E hf
set_option maxRecDepth 20000 in
theorem mX8_floorIn {K : KX} {x0 : Nat} {x1 : Int32} {x2 : Int32} (k0 : isK 8 x0) {h : HH} {rv : Int32} {hv : HH} (hf : fX8_floorIn x0 x1 x2 h = some (rv, hv)) : MR K yX8_floorIn cX8_floorIn 4 (some .int) 7 [.ref (K.2.1 x0), .int x1, .int x2] h (some (.int rv)) hv := by
  refine MR_of (by decide) (Nat.le_of_ble_eq_true rfl) (fun G C E hnl => ?_)
  have C : Ok K G 7 cX8_floorIn RX8 := C
  refine (show At K G 0 [(0, .ref (K.2.1 x0)), (1, .int x1), (2, .int x2)] [] h from ?_)
  unfold fX8_floorIn at hf
  refine A_aload_n C dX8_floorIn_0 (i := 0) rfl 0 rfl 1 rfl ?_
  refine A_iload_n C dX8_floorIn_1 (i := 1) rfl 1 rfl 2 rfl ?_
  refine A_iload_n C dX8_floorIn_2 (i := 2) rfl 2 rfl 3 rfl ?_
  refine CVi C dX8_floorIn_3 8 k0 (by decide) (r := (RX8, TX8, 19)) rfl rfl hf (fun _ _ e => mX8_whyNotIn k0 e) lkRX8_196 (by decide) (by decide) rfl [] rfl (Nat.le_of_ble_eq_true rfl) 6 rfl (fun r3 h3 hf => ?_)
  refine A_istore_n C dX8_floorIn_6 (i := 3) rfl [(3, .int r3), (0, .ref (K.2.1 x0)), (1, .int x1), (2, .int x2)] (lt_nl hnl (by decide)) rfl 7 rfl ?_
  refine A_iload_n C dX8_floorIn_7 (i := 3) rfl 0 rfl 8 rfl ?_
  refine A_if_eq C dX8_floorIn_8 17 (by decide) 11 rfl hf (fun c8 hf => ?_) (fun c8 hf => ?_)
  · refine A_aload_n C dX8_floorIn_17 (i := 0) rfl 1 rfl 18 rfl ?_
    refine A_iload_n C dX8_floorIn_18 (i := 2) rfl 3 rfl 19 rfl ?_
    refine CVv C dX8_floorIn_19 8 k0 (by decide) (r := (RX8, TX8, 19)) rfl rfl hf (fun _ e => mX8_lookAhead k0 e) lkRX8_199 (by decide) (by decide) rfl [] rfl (Nat.le_of_ble_eq_true rfl) 22 rfl (fun h19 hf => ?_)
    refine A_aload_n C dX8_floorIn_22 (i := 0) rfl 1 rfl 23 rfl ?_
    refine A_aload_n C dX8_floorIn_23 (i := 0) rfl 1 rfl 24 rfl ?_
    refine gfRX8_27 C k0 dX8_floorIn_24 27 rfl ?_
    refine gfRX8_163 C (of_8_3 k0) dX8_floorIn_27 30 rfl ?_
    refine A_iload_n C dX8_floorIn_30 (i := 1) rfl 2 rfl 31 rfl ?_
    refine A_iald C dX8_floorIn_31 (of_2_0 (of_8_3 k0)) hf 32 rfl (fun hf => ?_)
    refine CVi C dX8_floorIn_32 8 k0 (by decide) (r := (RX8, TX8, 19)) rfl rfl hf (fun _ _ e => mX8_allow k0 e) lkRX8_125 (by decide) (by decide) rfl [] rfl (Nat.le_of_ble_eq_true rfl) 35 rfl (fun r32 h32 hf => ?_)
    exact A_iret C dX8_floorIn_35 E hf
  refine A_aload_n C dX8_floorIn_11 (i := 0) rfl 1 rfl 12 rfl ?_
  refine A_iload_n C dX8_floorIn_12 (i := 3) rfl 0 rfl 13 rfl ?_
  refine CVi C dX8_floorIn_13 8 k0 (by decide) (r := (RX8, TX8, 19)) rfl rfl hf (fun _ _ e => mX8_refuse k0 e) lkRX8_83 (by decide) (by decide) rfl [] rfl (Nat.le_of_ble_eq_true rfl) 16 rfl (fun r13 h13 hf => ?_)
  exact A_iret C dX8_floorIn_16 E hf
set_option maxRecDepth 20000 in
theorem mX8_headIn {K : KX} {x0 : Nat} {x1 : Int32} {x2 : Int32} (k0 : isK 8 x0) {h : HH} {rv : Int32} {hv : HH} (hf : fX8_headIn x0 x1 x2 h = some (rv, hv)) : MR K yX8_headIn cX8_headIn 4 (some .int) 7 [.ref (K.2.1 x0), .int x1, .int x2] h (some (.int rv)) hv := by
  refine MR_of (by decide) (Nat.le_of_ble_eq_true rfl) (fun G C E hnl => ?_)
  have C : Ok K G 7 cX8_headIn RX8 := C
  refine (show At K G 0 [(0, .ref (K.2.1 x0)), (1, .int x1), (2, .int x2)] [] h from ?_)
  unfold fX8_headIn at hf
  refine A_aload_n C dX8_headIn_0 (i := 0) rfl 0 rfl 1 rfl ?_
  refine A_iload_n C dX8_headIn_1 (i := 1) rfl 1 rfl 2 rfl ?_
  refine A_iload_n C dX8_headIn_2 (i := 2) rfl 2 rfl 3 rfl ?_
  refine CVi C dX8_headIn_3 8 k0 (by decide) (r := (RX8, TX8, 19)) rfl rfl hf (fun _ _ e => mX8_whyNotIn k0 e) lkRX8_196 (by decide) (by decide) rfl [] rfl (Nat.le_of_ble_eq_true rfl) 6 rfl (fun r3 h3 hf => ?_)
  refine A_istore_n C dX8_headIn_6 (i := 3) rfl [(3, .int r3), (0, .ref (K.2.1 x0)), (1, .int x1), (2, .int x2)] (lt_nl hnl (by decide)) rfl 7 rfl ?_
  refine A_iload_n C dX8_headIn_7 (i := 3) rfl 0 rfl 8 rfl ?_
  refine A_if_eq C dX8_headIn_8 17 (by decide) 11 rfl hf (fun c8 hf => ?_) (fun c8 hf => ?_)
  · refine A_aload_n C dX8_headIn_17 (i := 0) rfl 1 rfl 18 rfl ?_
    refine A_iload_n C dX8_headIn_18 (i := 2) rfl 3 rfl 19 rfl ?_
    refine CVv C dX8_headIn_19 8 k0 (by decide) (r := (RX8, TX8, 19)) rfl rfl hf (fun _ e => mX8_lookAhead k0 e) lkRX8_199 (by decide) (by decide) rfl [] rfl (Nat.le_of_ble_eq_true rfl) 22 rfl (fun h19 hf => ?_)
    refine A_aload_n C dX8_headIn_22 (i := 0) rfl 1 rfl 23 rfl ?_
    refine A_aload_n C dX8_headIn_23 (i := 0) rfl 1 rfl 24 rfl ?_
    refine gfRX8_27 C k0 dX8_headIn_24 27 rfl ?_
    refine gfRX8_167 C (of_8_3 k0) dX8_headIn_27 30 rfl ?_
    refine A_iload_n C dX8_headIn_30 (i := 1) rfl 2 rfl 31 rfl ?_
    refine A_iald C dX8_headIn_31 (of_2_1 (of_8_3 k0)) hf 32 rfl (fun hf => ?_)
    refine CVi C dX8_headIn_32 8 k0 (by decide) (r := (RX8, TX8, 19)) rfl rfl hf (fun _ _ e => mX8_allow k0 e) lkRX8_125 (by decide) (by decide) rfl [] rfl (Nat.le_of_ble_eq_true rfl) 35 rfl (fun r32 h32 hf => ?_)
    exact A_iret C dX8_headIn_35 E hf
  refine A_aload_n C dX8_headIn_11 (i := 0) rfl 1 rfl 12 rfl ?_
  refine A_iload_n C dX8_headIn_12 (i := 3) rfl 0 rfl 13 rfl ?_
  refine CVi C dX8_headIn_13 8 k0 (by decide) (r := (RX8, TX8, 19)) rfl rfl hf (fun _ _ e => mX8_refuse k0 e) lkRX8_83 (by decide) (by decide) rfl [] rfl (Nat.le_of_ble_eq_true rfl) 16 rfl (fun r13 h13 hf => ?_)
  exact A_iret C dX8_headIn_16 E hf
set_option maxRecDepth 20000 in
theorem mX8_meetsIn {K : KX} {x0 : Nat} {x1 : Int32} {x2 : Int32} {x3 : Int32} (k0 : isK 8 x0) {h : HH} {rv : Int32} {hv : HH} (hf : fX8_meetsIn x0 x1 x2 x3 h = some (rv, hv)) : MR K yX8_meetsIn cX8_meetsIn 4 (some .int) 8 [.ref (K.2.1 x0), .int x1, .int x2, .int x3] h (some (.int rv)) hv := by
  refine MR_of (by decide) (Nat.le_of_ble_eq_true rfl) (fun G C E hnl => ?_)
  have C : Ok K G 8 cX8_meetsIn RX8 := C
  refine (show At K G 0 [(0, .ref (K.2.1 x0)), (1, .int x1), (2, .int x2), (3, .int x3)] [] h from ?_)
  unfold fX8_meetsIn at hf
  refine A_aload_n C dX8_meetsIn_0 (i := 0) rfl 0 rfl 1 rfl ?_
  refine A_iload_n C dX8_meetsIn_1 (i := 1) rfl 1 rfl 2 rfl ?_
  refine A_iload_n C dX8_meetsIn_2 (i := 2) rfl 2 rfl 3 rfl ?_
  refine CVz C dX8_meetsIn_3 8 k0 (by decide) (r := (RX8, TX8, 19)) rfl rfl hf (fun _ _ e => mX8_isPair k0 e) lkRX8_189 (by decide) (by decide) rfl [] rfl (Nat.le_of_ble_eq_true rfl) 6 rfl (fun r3 h3 hf => ?_)
  refine A_z_ne C dX8_meetsIn_6 15 (by decide) 9 rfl hf (fun c6 hf => ?_) (fun c6 hf => ?_)
  · refine A_iload_n C dX8_meetsIn_15 (i := 3) rfl 3 rfl 16 rfl ?_
    refine CSz C dX8_meetsIn_16 hf (fun _ _ e => mX8_isSpan  e) lkRX8_202 (by decide) (by decide) rfl [] rfl (Nat.le_of_ble_eq_true rfl) 19 rfl (fun r16 h16 hf => ?_)
    refine A_z_ne C dX8_meetsIn_19 28 (by decide) 22 rfl hf (fun c19 hf => ?_) (fun c19 hf => ?_)
    · refine A_aload_n C dX8_meetsIn_28 (i := 0) rfl 0 rfl 29 rfl ?_
      refine A_aload_n C dX8_meetsIn_29 (i := 0) rfl 0 rfl 30 rfl ?_
      refine gfRX8_33 C k0 dX8_meetsIn_30 33 rfl ?_
      refine A_aload_n C dX8_meetsIn_33 (i := 0) rfl 0 rfl 34 rfl ?_
      refine gfRX8_68 C k0 dX8_meetsIn_34 hf 37 rfl (fun kp1 hf => ?_)
      refine A_aload_n C dX8_meetsIn_37 (i := 0) rfl 0 rfl 38 rfl ?_
      refine gfRX8_23 C k0 dX8_meetsIn_38 41 rfl ?_
      refine A_iload_n C dX8_meetsIn_41 (i := 1) rfl 1 rfl 42 rfl ?_
      refine A_iload_n C dX8_meetsIn_42 (i := 2) rfl 2 rfl 43 rfl ?_
      refine A_iload_n C dX8_meetsIn_43 (i := 3) rfl 3 rfl 44 rfl ?_
      refine CVi C dX8_meetsIn_44 3 (of_8_4 k0) (by decide) (r := (RX3, TX3, 5)) rfl rfl hf (fun _ _ e => mX3_firstMeeting (of_8_4 k0) kp1 (of_8_2 k0) e) lkRX8_205 (by decide) (by decide) rfl [.ref (K.2.1 x0)] rfl (Nat.le_of_ble_eq_true rfl) 47 rfl (fun r44 h44 hf => ?_)
      refine CVi C dX8_meetsIn_47 8 k0 (by decide) (r := (RX8, TX8, 19)) rfl rfl hf (fun _ _ e => mX8_allow k0 e) lkRX8_125 (by decide) (by decide) rfl [] rfl (Nat.le_of_ble_eq_true rfl) 50 rfl (fun r47 h47 hf => ?_)
      exact A_iret C dX8_meetsIn_50 E hf
    refine A_aload_n C dX8_meetsIn_22 (i := 0) rfl 0 rfl 23 rfl ?_
    refine A_iconst (v := 2) C dX8_meetsIn_23 (by decide) 24 rfl ?_
    refine CVi C dX8_meetsIn_24 8 k0 (by decide) (r := (RX8, TX8, 19)) rfl rfl hf (fun _ _ e => mX8_refuse k0 e) lkRX8_83 (by decide) (by decide) rfl [] rfl (Nat.le_of_ble_eq_true rfl) 27 rfl (fun r24 h24 hf => ?_)
    exact A_iret C dX8_meetsIn_27 E hf
  refine A_aload_n C dX8_meetsIn_9 (i := 0) rfl 0 rfl 10 rfl ?_
  refine A_iconst (v := 1) C dX8_meetsIn_10 (by decide) 11 rfl ?_
  refine CVi C dX8_meetsIn_11 8 k0 (by decide) (r := (RX8, TX8, 19)) rfl rfl hf (fun _ _ e => mX8_refuse k0 e) lkRX8_83 (by decide) (by decide) rfl [] rfl (Nat.le_of_ble_eq_true rfl) 14 rfl (fun r11 h11 hf => ?_)
  exact A_iret C dX8_meetsIn_14 E hf
set_option maxRecDepth 20000 in
theorem mX8_awakeIn {K : KX} {x0 : Nat} {x1 : Int32} {x2 : Int32} (k0 : isK 8 x0) {h : HH} {rv : Int32} {hv : HH} (hf : fX8_awakeIn x0 x1 x2 h = some (rv, hv)) : MR K yX8_awakeIn cX8_awakeIn 4 (some .int) 8 [.ref (K.2.1 x0), .int x1, .int x2] h (some (.int rv)) hv := by
  refine MR_of (by decide) (Nat.le_of_ble_eq_true rfl) (fun G C E hnl => ?_)
  have C : Ok K G 8 cX8_awakeIn RX8 := C
  refine (show At K G 0 [(0, .ref (K.2.1 x0)), (1, .int x1), (2, .int x2)] [] h from ?_)
  unfold fX8_awakeIn at hf
  refine A_aload_n C dX8_awakeIn_0 (i := 0) rfl 0 rfl 1 rfl ?_
  refine A_iload_n C dX8_awakeIn_1 (i := 1) rfl 1 rfl 2 rfl ?_
  refine A_iload_n C dX8_awakeIn_2 (i := 2) rfl 2 rfl 3 rfl ?_
  refine CVi C dX8_awakeIn_3 8 k0 (by decide) (r := (RX8, TX8, 19)) rfl rfl hf (fun _ _ e => mX8_whyNotIn k0 e) lkRX8_196 (by decide) (by decide) rfl [] rfl (Nat.le_of_ble_eq_true rfl) 6 rfl (fun r3 h3 hf => ?_)
  refine A_istore_n C dX8_awakeIn_6 (i := 3) rfl [(3, .int r3), (0, .ref (K.2.1 x0)), (1, .int x1), (2, .int x2)] (lt_nl hnl (by decide)) rfl 7 rfl ?_
  refine A_iload_n C dX8_awakeIn_7 (i := 3) rfl 0 rfl 8 rfl ?_
  refine A_if_eq C dX8_awakeIn_8 19 (by decide) 11 rfl hf (fun c8 hf => ?_) (fun c8 hf => ?_)
  · refine A_aload_n C dX8_awakeIn_19 (i := 0) rfl 1 rfl 20 rfl ?_
    refine A_aload_n C dX8_awakeIn_20 (i := 0) rfl 1 rfl 21 rfl ?_
    refine gfRX8_33 C k0 dX8_awakeIn_21 24 rfl ?_
    refine A_aload_n C dX8_awakeIn_24 (i := 0) rfl 1 rfl 25 rfl ?_
    refine gfRX8_68 C k0 dX8_awakeIn_25 hf 28 rfl (fun kp1 hf => ?_)
    refine A_aload_n C dX8_awakeIn_28 (i := 0) rfl 1 rfl 29 rfl ?_
    refine gfRX8_23 C k0 dX8_awakeIn_29 32 rfl ?_
    refine A_iload_n C dX8_awakeIn_32 (i := 1) rfl 2 rfl 33 rfl ?_
    refine A_iload_n C dX8_awakeIn_33 (i := 2) rfl 3 rfl 34 rfl ?_
    refine CVi C dX8_awakeIn_34 3 (of_8_4 k0) (by decide) (r := (RX3, TX3, 5)) rfl rfl hf (fun _ _ e => mX3_firstAwake (of_8_4 k0) kp1 (of_8_2 k0) e) lkRX8_209 (by decide) (by decide) rfl [.ref (K.2.1 x0)] rfl (Nat.le_of_ble_eq_true rfl) 37 rfl (fun r34 h34 hf => ?_)
    refine CVi C dX8_awakeIn_37 8 k0 (by decide) (r := (RX8, TX8, 19)) rfl rfl hf (fun _ _ e => mX8_allow k0 e) lkRX8_125 (by decide) (by decide) rfl [] rfl (Nat.le_of_ble_eq_true rfl) 40 rfl (fun r37 h37 hf => ?_)
    exact A_iret C dX8_awakeIn_40 E hf
  refine A_aload_n C dX8_awakeIn_11 (i := 0) rfl 1 rfl 12 rfl ?_
  refine A_iload_n C dX8_awakeIn_12 (i := 3) rfl 0 rfl 13 rfl ?_
  refine CVi C dX8_awakeIn_13 8 k0 (by decide) (r := (RX8, TX8, 19)) rfl rfl hf (fun _ _ e => mX8_refuse k0 e) lkRX8_83 (by decide) (by decide) rfl [] rfl (Nat.le_of_ble_eq_true rfl) 16 rfl (fun r13 h13 hf => ?_)
  refine A_goto C dX8_awakeIn_16 40 (by decide) ?_
  exact A_iret C dX8_awakeIn_40 E hf
set_option maxRecDepth 20000 in
theorem mX8_lonely {K : KX} {x0 : Nat} {x1 : Int32} {x2 : Int32} (k0 : isK 8 x0) {h : HH} {rv : Int32} {hv : HH} (hf : fX8_lonely x0 x1 x2 h = some (rv, hv)) : MR K yX8_lonely cX8_lonely 4 (some .int) 8 [.ref (K.2.1 x0), .int x1, .int x2] h (some (.int rv)) hv := by
  refine MR_of (by decide) (Nat.le_of_ble_eq_true rfl) (fun G C E hnl => ?_)
  have C : Ok K G 8 cX8_lonely RX8 := C
  refine (show At K G 0 [(0, .ref (K.2.1 x0)), (1, .int x1), (2, .int x2)] [] h from ?_)
  unfold fX8_lonely at hf
  refine A_aload_n C dX8_lonely_0 (i := 0) rfl 0 rfl 1 rfl ?_
  refine A_iload_n C dX8_lonely_1 (i := 1) rfl 1 rfl 2 rfl ?_
  refine A_iload_n C dX8_lonely_2 (i := 2) rfl 2 rfl 3 rfl ?_
  refine CVi C dX8_lonely_3 8 k0 (by decide) (r := (RX8, TX8, 19)) rfl rfl hf (fun _ _ e => mX8_whyNotIn k0 e) lkRX8_196 (by decide) (by decide) rfl [] rfl (Nat.le_of_ble_eq_true rfl) 6 rfl (fun r3 h3 hf => ?_)
  refine A_istore_n C dX8_lonely_6 (i := 3) rfl [(3, .int r3), (0, .ref (K.2.1 x0)), (1, .int x1), (2, .int x2)] (lt_nl hnl (by decide)) rfl 7 rfl ?_
  refine A_iload_n C dX8_lonely_7 (i := 3) rfl 0 rfl 8 rfl ?_
  refine A_if_eq C dX8_lonely_8 19 (by decide) 11 rfl hf (fun c8 hf => ?_) (fun c8 hf => ?_)
  · refine A_aload_n C dX8_lonely_19 (i := 0) rfl 1 rfl 20 rfl ?_
    refine A_aload_n C dX8_lonely_20 (i := 0) rfl 1 rfl 21 rfl ?_
    refine gfRX8_33 C k0 dX8_lonely_21 24 rfl ?_
    refine A_aload_n C dX8_lonely_24 (i := 0) rfl 1 rfl 25 rfl ?_
    refine gfRX8_68 C k0 dX8_lonely_25 hf 28 rfl (fun kp1 hf => ?_)
    refine A_aload_n C dX8_lonely_28 (i := 0) rfl 1 rfl 29 rfl ?_
    refine gfRX8_23 C k0 dX8_lonely_29 32 rfl ?_
    refine A_iload_n C dX8_lonely_32 (i := 1) rfl 2 rfl 33 rfl ?_
    refine A_iload_n C dX8_lonely_33 (i := 2) rfl 3 rfl 34 rfl ?_
    refine CVi C dX8_lonely_34 3 (of_8_4 k0) (by decide) (r := (RX3, TX3, 5)) rfl rfl hf (fun _ _ e => mX3_countLonely (of_8_4 k0) kp1 (of_8_2 k0) e) lkRX8_213 (by decide) (by decide) rfl [.ref (K.2.1 x0)] rfl (Nat.le_of_ble_eq_true rfl) 37 rfl (fun r34 h34 hf => ?_)
    refine CVi C dX8_lonely_37 8 k0 (by decide) (r := (RX8, TX8, 19)) rfl rfl hf (fun _ _ e => mX8_allow k0 e) lkRX8_125 (by decide) (by decide) rfl [] rfl (Nat.le_of_ble_eq_true rfl) 40 rfl (fun r37 h37 hf => ?_)
    exact A_iret C dX8_lonely_40 E hf
  refine A_aload_n C dX8_lonely_11 (i := 0) rfl 1 rfl 12 rfl ?_
  refine A_iload_n C dX8_lonely_12 (i := 3) rfl 0 rfl 13 rfl ?_
  refine CVi C dX8_lonely_13 8 k0 (by decide) (r := (RX8, TX8, 19)) rfl rfl hf (fun _ _ e => mX8_refuse k0 e) lkRX8_83 (by decide) (by decide) rfl [] rfl (Nat.le_of_ble_eq_true rfl) 16 rfl (fun r13 h13 hf => ?_)
  refine A_goto C dX8_lonely_16 40 (by decide) ?_
  exact A_iret C dX8_lonely_40 E hf
set_option maxRecDepth 20000 in
theorem mX8_crowd {K : KX} {x0 : Nat} {x1 : Int32} (k0 : isK 8 x0) {h : HH} {rv : Int32} {hv : HH} (hf : fX8_crowd x0 x1 h = some (rv, hv)) : MR K yX8_crowd cX8_crowd 2 (some .int) 8 [.ref (K.2.1 x0), .int x1] h (some (.int rv)) hv := by
  refine MR_of (by decide) (Nat.le_of_ble_eq_true rfl) (fun G C E hnl => ?_)
  have C : Ok K G 8 cX8_crowd RX8 := C
  refine (show At K G 0 [(0, .ref (K.2.1 x0)), (1, .int x1)] [] h from ?_)
  unfold fX8_crowd at hf
  refine A_aload_n C dX8_crowd_0 (i := 0) rfl 0 rfl 1 rfl ?_
  refine gfRX8_98 C k0 dX8_crowd_1 4 rfl ?_
  refine A_if_ne C dX8_crowd_4 13 (by decide) 7 rfl hf (fun c4 hf => ?_) (fun c4 hf => ?_)
  · refine A_iload_n C dX8_crowd_13 (i := 1) rfl 1 rfl 14 rfl ?_
    refine CSz C dX8_crowd_14 hf (fun _ _ e => mX8_isSpan  e) lkRX8_202 (by decide) (by decide) rfl [] rfl (Nat.le_of_ble_eq_true rfl) 17 rfl (fun r14 h14 hf => ?_)
    refine A_z_eq C dX8_crowd_17 43 (by decide) 20 rfl hf (fun c17 hf => ?_) (fun c17 hf => ?_)
    · refine A_aload_n C dX8_crowd_43 (i := 0) rfl 0 rfl 44 rfl ?_
      refine A_iconst (v := 2) C dX8_crowd_44 (by decide) 45 rfl ?_
      refine CVi C dX8_crowd_45 8 k0 (by decide) (r := (RX8, TX8, 19)) rfl rfl hf (fun _ _ e => mX8_refuse k0 e) lkRX8_83 (by decide) (by decide) rfl [] rfl (Nat.le_of_ble_eq_true rfl) 48 rfl (fun r45 h45 hf => ?_)
      exact A_iret C dX8_crowd_48 E hf
    refine A_aload_n C dX8_crowd_20 (i := 0) rfl 0 rfl 21 rfl ?_
    refine A_aload_n C dX8_crowd_21 (i := 0) rfl 0 rfl 22 rfl ?_
    refine gfRX8_33 C k0 dX8_crowd_22 25 rfl ?_
    refine A_aload_n C dX8_crowd_25 (i := 0) rfl 0 rfl 26 rfl ?_
    refine gfRX8_68 C k0 dX8_crowd_26 hf 29 rfl (fun kp1 hf => ?_)
    refine A_aload_n C dX8_crowd_29 (i := 0) rfl 0 rfl 30 rfl ?_
    refine gfRX8_23 C k0 dX8_crowd_30 33 rfl ?_
    refine A_iload_n C dX8_crowd_33 (i := 1) rfl 1 rfl 34 rfl ?_
    refine CVi C dX8_crowd_34 3 (of_8_4 k0) (by decide) (r := (RX3, TX3, 5)) rfl rfl hf (fun _ _ e => mX3_mostTogether (of_8_4 k0) kp1 (of_8_2 k0) e) lkRX8_216 (by decide) (by decide) rfl [.ref (K.2.1 x0)] rfl (Nat.le_of_ble_eq_true rfl) 37 rfl (fun r34 h34 hf => ?_)
    refine CVi C dX8_crowd_37 8 k0 (by decide) (r := (RX8, TX8, 19)) rfl rfl hf (fun _ _ e => mX8_allow k0 e) lkRX8_125 (by decide) (by decide) rfl [] rfl (Nat.le_of_ble_eq_true rfl) 40 rfl (fun r37 h37 hf => ?_)
    refine A_goto C dX8_crowd_40 48 (by decide) ?_
    exact A_iret C dX8_crowd_48 E hf
  refine A_aload_n C dX8_crowd_7 (i := 0) rfl 0 rfl 8 rfl ?_
  refine A_iconst (v := 1) C dX8_crowd_8 (by decide) 9 rfl ?_
  refine CVi C dX8_crowd_9 8 k0 (by decide) (r := (RX8, TX8, 19)) rfl rfl hf (fun _ _ e => mX8_refuse k0 e) lkRX8_83 (by decide) (by decide) rfl [] rfl (Nat.le_of_ble_eq_true rfl) 12 rfl (fun r9 h9 hf => ?_)
  exact A_iret C dX8_crowd_12 E hf
set_option maxRecDepth 20000 in
theorem wX8_left_L56 {K : KX} {G : GX} (C : Ok K G 6 cX8_left RX8) (hnl : G.2.2.2.2.2.2.2.2.2.2.2.2.2 = 3) {rv : Int32} {hv : HH} (E : Endd K G (some .int) (some (.int rv)) hv) {x0 : Nat}   (kx0 : isK 8 x0) : ∀ (self56 : Int32 → Int32 → HH → Option (Int32 × HH)), (∀ (x1 : Int32) (x2 : Int32) (h : HH), self56 x1 x2 h = some (rv, hv) → At K G 56 [(0, .ref (K.2.1 x0)), (1, .int x1), (2, .int x2)] [] h) → ∀ (x1 : Int32) (x2 : Int32) (h : HH), fX8_left_L56 x0 self56 x1 x2 h = some (rv, hv) → At K G 56 [(0, .ref (K.2.1 x0)), (1, .int x1), (2, .int x2)] [] h := by
  intro self56 Hself56 x1 x2 h hf
  unfold fX8_left_L56 at hf
  refine A_iload_n C dX8_left_56 (i := 2) rfl 2 rfl 57 rfl ?_
  refine A_aload_n C dX8_left_57 (i := 0) rfl 0 rfl 58 rfl ?_
  refine gfRX8_68 C kx0 dX8_left_58 hf 61 rfl (fun kp3 hf => ?_)
  refine gfRX8_116 C kp3 dX8_left_61 64 rfl ?_
  refine gfRX8_120 C (of_0_3 kp3) dX8_left_64 67 rfl ?_
  refine A_icmp_ge C dX8_left_67 94 (by decide) 70 rfl hf (fun c67 hf => ?_) (fun c67 hf => ?_)
  · refine A_aload_n C dX8_left_94 (i := 0) rfl 0 rfl 95 rfl ?_
    refine A_iload_n C dX8_left_95 (i := 1) rfl 1 rfl 96 rfl ?_
    refine CVi C dX8_left_96 8 kx0 (by decide) (r := (RX8, TX8, 19)) rfl rfl hf (fun _ _ e => mX8_allow kx0 e) lkRX8_125 (by decide) (by decide) rfl [] rfl (Nat.le_of_ble_eq_true rfl) 99 rfl (fun r96 h96 hf => ?_)
    exact A_iret C dX8_left_99 E hf
  refine A_aload_n C dX8_left_70 (i := 0) rfl 0 rfl 71 rfl ?_
  refine gfRX8_27 C kx0 dX8_left_71 74 rfl ?_
  refine gfRX8_163 C (of_8_3 kx0) dX8_left_74 77 rfl ?_
  refine A_iload_n C dX8_left_77 (i := 2) rfl 2 rfl 78 rfl ?_
  refine A_iald C dX8_left_78 (of_2_0 (of_8_3 kx0)) hf 79 rfl (fun hf => ?_)
  refine A_if_le C dX8_left_79 88 (by decide) 82 rfl hf (fun c79 hf => ?_) (fun c79 hf => ?_)
  · refine A_iinc (v := (x2 + 1)) C dX8_left_88 2 rfl rfl [(2, .int (x2 + 1)), (0, .ref (K.2.1 x0)), (1, .int x1)] (lt_nl hnl (by decide)) rfl 91 rfl ?_
    refine A_goto C dX8_left_91 56 (by decide) ?_
    refine A_sub [1, 2, 0] (lv' := [(0, .ref (K.2.1 x0)), (1, .int x1), (2, .int (x2 + 1))]) rfl ?_
    exact Hself56 _ _ _ hf
  refine A_iload_n C dX8_left_82 (i := 1) rfl 1 rfl 83 rfl ?_
  refine A_iconst (v := 1) C dX8_left_83 (by decide) 84 rfl ?_
  refine A_iload_n C dX8_left_84 (i := 2) rfl 2 rfl 85 rfl ?_
  refine A_ishl C dX8_left_85 86 rfl ?_
  refine A_ior C dX8_left_86 87 rfl ?_
  refine A_namI hf (fun y4 hf => ?_)
  refine A_istore_n C dX8_left_87 (i := 1) rfl [(1, .int y4), (0, .ref (K.2.1 x0)), (2, .int x2)] (lt_nl hnl (by decide)) rfl 88 rfl ?_
  refine A_iinc (v := (x2 + 1)) C dX8_left_88 2 rfl rfl [(2, .int (x2 + 1)), (1, .int y4), (0, .ref (K.2.1 x0))] (lt_nl hnl (by decide)) rfl 91 rfl ?_
  refine A_goto C dX8_left_91 56 (by decide) ?_
  refine A_sub [2, 1, 0] (lv' := [(0, .ref (K.2.1 x0)), (1, .int y4), (2, .int (x2 + 1))]) rfl ?_
  exact Hself56 _ _ _ hf
set_option maxRecDepth 20000 in
theorem mX8_left {K : KX} {x0 : Nat} (k0 : isK 8 x0) {h : HH} {rv : Int32} {hv : HH} (hf : fX8_left x0 h = some (rv, hv)) : MR K yX8_left cX8_left 3 (some .int) 6 [.ref (K.2.1 x0)] h (some (.int rv)) hv := by
  refine MR_of (by decide) (Nat.le_of_ble_eq_true rfl) (fun G C E hnl => ?_)
  have C : Ok K G 6 cX8_left RX8 := C
  refine (show At K G 0 [(0, .ref (K.2.1 x0))] [] h from ?_)
  unfold fX8_left at hf
  refine A_aload_n C dX8_left_0 (i := 0) rfl 0 rfl 1 rfl ?_
  refine gfRX8_98 C k0 dX8_left_1 4 rfl ?_
  refine A_if_ne C dX8_left_4 13 (by decide) 7 rfl hf (fun c4 hf => ?_) (fun c4 hf => ?_)
  · refine A_aload_n C dX8_left_13 (i := 0) rfl 0 rfl 14 rfl ?_
    refine gfRX8_27 C k0 dX8_left_14 17 rfl ?_
    refine A_aload_n C dX8_left_17 (i := 0) rfl 0 rfl 18 rfl ?_
    refine gfRX8_23 C k0 dX8_left_18 21 rfl ?_
    refine CVv C dX8_left_21 2 (of_8_3 k0) (by decide) (r := (RX2, TX2, 7)) rfl rfl hf (fun _ e => mX2_copyFrom (of_8_3 k0) (of_8_2 k0) e) lkRX8_220 (by decide) (by decide) rfl [] rfl (Nat.le_of_ble_eq_true rfl) 24 rfl (fun h21 hf => ?_)
    refine A_aload_n C dX8_left_24 (i := 0) rfl 0 rfl 25 rfl ?_
    refine gfRX8_27 C k0 dX8_left_25 28 rfl ?_
    refine A_aload_n C dX8_left_28 (i := 0) rfl 0 rfl 29 rfl ?_
    refine gfRX8_68 C k0 dX8_left_29 hf 32 rfl (fun kp1 hf => ?_)
    refine A_aload_n C dX8_left_32 (i := 0) rfl 0 rfl 33 rfl ?_
    refine gfRX8_23 C k0 dX8_left_33 36 rfl ?_
    refine gfRX8_145 C (of_8_2 k0) dX8_left_36 39 rfl ?_
    refine A_aload_n C dX8_left_39 (i := 0) rfl 0 rfl 40 rfl ?_
    refine gfRX8_68 C k0 dX8_left_40 hf 43 rfl (fun kp2 hf => ?_)
    refine CVl C dX8_left_43 0 kp2 (by decide) (r := (RX0, TX0, 14)) rfl rfl hf (fun _ _ e => mX0_morningTick kp2 e) lkRX8_224 (by decide) (by decide) rfl [.long (gL h21 (x0 + 6) 6), .ref (K.2.1 (gR h21 x0 10)), .ref (K.2.1 (x0 + 13))] rfl (Nat.le_of_ble_eq_true rfl) 46 rfl (fun r43 h43 hf => ?_)
    refine A_mmaxl C dX8_left_46 mlRX8_228 stmmaxl iniMath commaxl (by decide) (Nat.le_of_ble_eq_true rfl) 49 rfl ?_
    refine CVv C dX8_left_49 2 (of_8_3 k0) (by decide) (r := (RX2, TX2, 7)) rfl rfl hf (fun _ e => mX2_runTo (of_8_3 k0) kp1 e) lkRX8_233 (by decide) (by decide) rfl [] rfl (Nat.le_of_ble_eq_true rfl) 52 rfl (fun h49 hf => ?_)
    refine A_iconst (v := 0) C dX8_left_52 (by decide) 53 rfl ?_
    refine A_istore_n C dX8_left_53 (i := 1) rfl [(1, .int 0), (0, .ref (K.2.1 x0))] (lt_nl hnl (by decide)) rfl 54 rfl ?_
    refine A_iconst (v := 0) C dX8_left_54 (by decide) 55 rfl ?_
    refine A_istore_n C dX8_left_55 (i := 2) rfl [(2, .int 0), (1, .int 0), (0, .ref (K.2.1 x0))] (lt_nl hnl (by decide)) rfl 56 rfl ?_
    refine A_sub [2, 1, 0] (lv' := [(0, .ref (K.2.1 x0)), (1, .int 0), (2, .int 0)]) rfl ?_
    refine lq2_at (wX8_left_L56 C hnl E k0) FU _ _ _ hf
  refine A_aload_n C dX8_left_7 (i := 0) rfl 0 rfl 8 rfl ?_
  refine A_iconst (v := 1) C dX8_left_8 (by decide) 9 rfl ?_
  refine CVi C dX8_left_9 8 k0 (by decide) (r := (RX8, TX8, 19)) rfl rfl hf (fun _ _ e => mX8_refuse k0 e) lkRX8_83 (by decide) (by decide) rfl [] rfl (Nat.le_of_ble_eq_true rfl) 12 rfl (fun r9 h9 hf => ?_)
  exact A_iret C dX8_left_12 E hf
set_option maxRecDepth 20000 in
theorem mX8_woken {K : KX} {x0 : Nat} {x1 : Int32} {x2 : Int32} (k0 : isK 8 x0) {h : HH} {rv : Int32} {hv : HH} (hf : fX8_woken x0 x1 x2 h = some (rv, hv)) : MR K yX8_woken cX8_woken 4 (some .int) 7 [.ref (K.2.1 x0), .int x1, .int x2] h (some (.int rv)) hv := by
  refine MR_of (by decide) (Nat.le_of_ble_eq_true rfl) (fun G C E hnl => ?_)
  have C : Ok K G 7 cX8_woken RX8 := C
  refine (show At K G 0 [(0, .ref (K.2.1 x0)), (1, .int x1), (2, .int x2)] [] h from ?_)
  unfold fX8_woken at hf
  refine A_aload_n C dX8_woken_0 (i := 0) rfl 0 rfl 1 rfl ?_
  refine A_iload_n C dX8_woken_1 (i := 1) rfl 1 rfl 2 rfl ?_
  refine A_iload_n C dX8_woken_2 (i := 2) rfl 2 rfl 3 rfl ?_
  refine CVi C dX8_woken_3 8 k0 (by decide) (r := (RX8, TX8, 19)) rfl rfl hf (fun _ _ e => mX8_whyNotIn k0 e) lkRX8_196 (by decide) (by decide) rfl [] rfl (Nat.le_of_ble_eq_true rfl) 6 rfl (fun r3 h3 hf => ?_)
  refine A_istore_n C dX8_woken_6 (i := 3) rfl [(3, .int r3), (0, .ref (K.2.1 x0)), (1, .int x1), (2, .int x2)] (lt_nl hnl (by decide)) rfl 7 rfl ?_
  refine A_iload_n C dX8_woken_7 (i := 3) rfl 0 rfl 8 rfl ?_
  refine A_if_eq C dX8_woken_8 17 (by decide) 11 rfl hf (fun c8 hf => ?_) (fun c8 hf => ?_)
  · refine A_aload_n C dX8_woken_17 (i := 0) rfl 1 rfl 18 rfl ?_
    refine A_iload_n C dX8_woken_18 (i := 2) rfl 3 rfl 19 rfl ?_
    refine CVv C dX8_woken_19 8 k0 (by decide) (r := (RX8, TX8, 19)) rfl rfl hf (fun _ e => mX8_lookAhead k0 e) lkRX8_199 (by decide) (by decide) rfl [] rfl (Nat.le_of_ble_eq_true rfl) 22 rfl (fun h19 hf => ?_)
    refine A_aload_n C dX8_woken_22 (i := 0) rfl 1 rfl 23 rfl ?_
    refine A_aload_n C dX8_woken_23 (i := 0) rfl 1 rfl 24 rfl ?_
    refine gfRX8_27 C k0 dX8_woken_24 27 rfl ?_
    refine gfRX8_237 C (of_8_3 k0) dX8_woken_27 30 rfl ?_
    refine A_iload_n C dX8_woken_30 (i := 1) rfl 2 rfl 31 rfl ?_
    refine A_iald C dX8_woken_31 (of_2_3 (of_8_3 k0)) hf 32 rfl (fun hf => ?_)
    refine A_aload_n C dX8_woken_32 (i := 0) rfl 1 rfl 33 rfl ?_
    refine gfRX8_23 C k0 dX8_woken_33 36 rfl ?_
    refine gfRX8_237 C (of_8_2 k0) dX8_woken_36 39 rfl ?_
    refine A_iload_n C dX8_woken_39 (i := 1) rfl 2 rfl 40 rfl ?_
    refine A_iald C dX8_woken_40 (of_2_3 (of_8_2 k0)) hf 41 rfl (fun hf => ?_)
    refine A_isub C dX8_woken_41 42 rfl ?_
    refine CVi C dX8_woken_42 8 k0 (by decide) (r := (RX8, TX8, 19)) rfl rfl hf (fun _ _ e => mX8_allow k0 e) lkRX8_125 (by decide) (by decide) rfl [] rfl (Nat.le_of_ble_eq_true rfl) 45 rfl (fun r42 h42 hf => ?_)
    exact A_iret C dX8_woken_45 E hf
  refine A_aload_n C dX8_woken_11 (i := 0) rfl 1 rfl 12 rfl ?_
  refine A_iload_n C dX8_woken_12 (i := 3) rfl 0 rfl 13 rfl ?_
  refine CVi C dX8_woken_13 8 k0 (by decide) (r := (RX8, TX8, 19)) rfl rfl hf (fun _ _ e => mX8_refuse k0 e) lkRX8_83 (by decide) (by decide) rfl [] rfl (Nat.le_of_ble_eq_true rfl) 16 rfl (fun r13 h13 hf => ?_)
  exact A_iret C dX8_woken_16 E hf
set_option maxRecDepth 20000 in
theorem mX8_isStrong {K : KX} {x0 : Int32}  {h : HH} {rv : Bool} {hv : HH} (hf : fX8_isStrong x0 h = some (rv, hv)) : MR K yX8_isStrong cX8_isStrong 1 (some .boolean) 1 [.int x0] h (some (.int (b2i rv))) hv := by
  refine MR_of (by decide) (Nat.le_of_ble_eq_true rfl) (fun G C E hnl => ?_)
  have C : Ok K G 1 cX8_isStrong RX8 := C
  refine (show At K G 0 [(0, .int x0)] [] h from ?_)
  unfold fX8_isStrong at hf
  refine A_iload_n C dX8_isStrong_0 (i := 0) rfl 0 rfl 1 rfl ?_
  refine A_iconst (v := 1) C dX8_isStrong_1 (by decide) 2 rfl ?_
  refine A_icmp_lt C dX8_isStrong_2 15 (by decide) 5 rfl hf (fun c2 hf => ?_) (fun c2 hf => ?_)
  · refine A_iconst (v := 0) C dX8_isStrong_15 (by decide) 16 rfl ?_
    exact A_zret (x := false) C dX8_isStrong_16 E hf
  refine A_iload_n C dX8_isStrong_5 (i := 0) rfl 0 rfl 6 rfl ?_
  refine A_bipush (v := 99) C dX8_isStrong_6 (by decide) 8 rfl ?_
  refine A_icmp_gt C dX8_isStrong_8 15 (by decide) 11 rfl hf (fun c8 hf => ?_) (fun c8 hf => ?_)
  · refine A_iconst (v := 0) C dX8_isStrong_15 (by decide) 16 rfl ?_
    exact A_zret (x := false) C dX8_isStrong_16 E hf
  refine A_iconst (v := 1) C dX8_isStrong_11 (by decide) 12 rfl ?_
  refine A_goto C dX8_isStrong_12 16 (by decide) ?_
  exact A_zret (x := true) C dX8_isStrong_16 E hf
set_option maxRecDepth 20000 in
theorem mX8_felt {K : KX} {x0 : Nat} {x1 : Int32} {x2 : Int32} {x3 : Int32} (k0 : isK 8 x0) {h : HH} {rv : Int64} {hv : HH} (hf : fX8_felt x0 x1 x2 x3 h = some (rv, hv)) : MR K yX8_felt cX8_felt 4 (some .long) 3 [.ref (K.2.1 x0), .int x1, .int x2, .int x3] h (some (.long rv)) hv := by
  refine MR_of (by decide) (Nat.le_of_ble_eq_true rfl) (fun G C E hnl => ?_)
  have C : Ok K G 3 cX8_felt RX8 := C
  refine (show At K G 0 [(0, .ref (K.2.1 x0)), (1, .int x1), (2, .int x2), (3, .int x3)] [] h from ?_)
  unfold fX8_felt at hf
  refine A_aload_n C dX8_felt_0 (i := 0) rfl 0 rfl 1 rfl ?_
  refine A_iload_n C dX8_felt_1 (i := 2) rfl 2 rfl 2 rfl ?_
  refine CVz C dX8_felt_2 8 k0 (by decide) (r := (RX8, TX8, 19)) rfl rfl hf (fun _ _ e => mX8_isFloor k0 e) lkRX8_131 (by decide) (by decide) rfl [] rfl (Nat.le_of_ble_eq_true rfl) 5 rfl (fun r2 h2 hf => ?_)
  refine A_z_eq C dX8_felt_5 21 (by decide) 8 rfl hf (fun c5 hf => ?_) (fun c5 hf => ?_)
  · refine A_aload_n C dX8_felt_21 (i := 0) rfl 0 rfl 22 rfl ?_
    refine A_iconst (v := 1) C dX8_felt_22 (by decide) 23 rfl ?_
    refine CVi C dX8_felt_23 8 k0 (by decide) (r := (RX8, TX8, 19)) rfl rfl hf (fun _ _ e => mX8_refuse k0 e) lkRX8_83 (by decide) (by decide) rfl [] rfl (Nat.le_of_ble_eq_true rfl) 26 rfl (fun r23 h23 hf => ?_)
    refine A_i2l C dX8_felt_26 27 rfl ?_
    exact A_lret C dX8_felt_27 E hf
  refine A_aload_n C dX8_felt_8 (i := 0) rfl 0 rfl 9 rfl ?_
  refine A_iload_n C dX8_felt_9 (i := 3) rfl 3 rfl 10 rfl ?_
  refine CVz C dX8_felt_10 8 k0 (by decide) (r := (RX8, TX8, 19)) rfl rfl hf (fun _ _ e => mX8_isFloor k0 e) lkRX8_131 (by decide) (by decide) rfl [] rfl (Nat.le_of_ble_eq_true rfl) 13 rfl (fun r10 h10 hf => ?_)
  refine A_z_eq C dX8_felt_13 21 (by decide) 16 rfl hf (fun c13 hf => ?_) (fun c13 hf => ?_)
  · refine A_aload_n C dX8_felt_21 (i := 0) rfl 0 rfl 22 rfl ?_
    refine A_iconst (v := 1) C dX8_felt_22 (by decide) 23 rfl ?_
    refine CVi C dX8_felt_23 8 k0 (by decide) (r := (RX8, TX8, 19)) rfl rfl hf (fun _ _ e => mX8_refuse k0 e) lkRX8_83 (by decide) (by decide) rfl [] rfl (Nat.le_of_ble_eq_true rfl) 26 rfl (fun r23 h23 hf => ?_)
    refine A_i2l C dX8_felt_26 27 rfl ?_
    exact A_lret C dX8_felt_27 E hf
  refine A_iload_n C dX8_felt_16 (i := 3) rfl 3 rfl 17 rfl ?_
  refine A_iload_n C dX8_felt_17 (i := 2) rfl 2 rfl 18 rfl ?_
  refine A_icmp_gt C dX8_felt_18 28 (by decide) 21 rfl hf (fun c18 hf => ?_) (fun c18 hf => ?_)
  · refine A_iload_n C dX8_felt_28 (i := 1) rfl 1 rfl 29 rfl ?_
    refine CSz C dX8_felt_29 hf (fun _ _ e => mX8_isStrong  e) lkRX8_240 (by decide) (by decide) rfl [] rfl (Nat.le_of_ble_eq_true rfl) 32 rfl (fun r29 h29 hf => ?_)
    refine A_z_eq C dX8_felt_32 52 (by decide) 35 rfl hf (fun c32 hf => ?_) (fun c32 hf => ?_)
    · refine A_aload_n C dX8_felt_52 (i := 0) rfl 0 rfl 53 rfl ?_
      refine A_iconst (v := 2) C dX8_felt_53 (by decide) 54 rfl ?_
      refine CVi C dX8_felt_54 8 k0 (by decide) (r := (RX8, TX8, 19)) rfl rfl hf (fun _ _ e => mX8_refuse k0 e) lkRX8_83 (by decide) (by decide) rfl [] rfl (Nat.le_of_ble_eq_true rfl) 57 rfl (fun r54 h54 hf => ?_)
      refine A_i2l C dX8_felt_57 58 rfl ?_
      exact A_lret C dX8_felt_58 E hf
    refine A_aload_n C dX8_felt_35 (i := 0) rfl 0 rfl 36 rfl ?_
    refine A_aload_n C dX8_felt_36 (i := 0) rfl 0 rfl 37 rfl ?_
    refine gfRX8_68 C k0 dX8_felt_37 hf 40 rfl (fun kp1 hf => ?_)
    refine A_iload_n C dX8_felt_40 (i := 1) rfl 1 rfl 41 rfl ?_
    refine A_iload_n C dX8_felt_41 (i := 2) rfl 2 rfl 42 rfl ?_
    refine A_iload_n C dX8_felt_42 (i := 3) rfl 3 rfl 43 rfl ?_
    refine CVl C dX8_felt_43 0 kp1 (by decide) (r := (RX0, TX0, 14)) rfl rfl hf (fun _ _ e => mX0_feltOn kp1 e) lkRX8_243 (by decide) (by decide) rfl [.ref (K.2.1 x0)] rfl (Nat.le_of_ble_eq_true rfl) 46 rfl (fun r43 h43 hf => ?_)
    refine CVl C dX8_felt_46 8 k0 (by decide) (r := (RX8, TX8, 19)) rfl rfl hf (fun _ _ e => mX8_allow_ k0 e) lkRX8_142 (by decide) (by decide) rfl [] rfl (Nat.le_of_ble_eq_true rfl) 49 rfl (fun r46 h46 hf => ?_)
    refine A_goto C dX8_felt_49 58 (by decide) ?_
    exact A_lret C dX8_felt_58 E hf
  refine A_aload_n C dX8_felt_21 (i := 0) rfl 0 rfl 22 rfl ?_
  refine A_iconst (v := 1) C dX8_felt_22 (by decide) 23 rfl ?_
  refine CVi C dX8_felt_23 8 k0 (by decide) (r := (RX8, TX8, 19)) rfl rfl hf (fun _ _ e => mX8_refuse k0 e) lkRX8_83 (by decide) (by decide) rfl [] rfl (Nat.le_of_ble_eq_true rfl) 26 rfl (fun r23 h23 hf => ?_)
  refine A_i2l C dX8_felt_26 27 rfl ?_
  exact A_lret C dX8_felt_27 E hf
set_option maxRecDepth 20000 in
theorem mX8_task {K : KX} {x0 : Nat} {x1 : Int32} (k0 : isK 8 x0) {h : HH} {rv : Int32} {hv : HH} (hf : fX8_task x0 x1 h = some (rv, hv)) : MR K yX8_task cX8_task 2 (some .int) 15 [.ref (K.2.1 x0), .int x1] h (some (.int rv)) hv := by
  refine MR_of (by decide) (Nat.le_of_ble_eq_true rfl) (fun G C E hnl => ?_)
  have C : Ok K G 15 cX8_task RX8 := C
  refine (show At K G 0 [(0, .ref (K.2.1 x0)), (1, .int x1)] [] h from ?_)
  unfold fX8_task at hf
  refine A_aload_n C dX8_task_0 (i := 0) rfl 0 rfl 1 rfl ?_
  refine gfRX8_98 C k0 dX8_task_1 4 rfl ?_
  refine A_if_eq C dX8_task_4 25 (by decide) 7 rfl hf (fun c4 hf => ?_) (fun c4 hf => ?_)
  · refine A_aload_n C dX8_task_25 (i := 0) rfl 0 rfl 26 rfl ?_
    refine A_iconst (v := 1) C dX8_task_26 (by decide) 27 rfl ?_
    refine CVi C dX8_task_27 8 k0 (by decide) (r := (RX8, TX8, 19)) rfl rfl hf (fun _ _ e => mX8_refuse k0 e) lkRX8_83 (by decide) (by decide) rfl [] rfl (Nat.le_of_ble_eq_true rfl) 30 rfl (fun r27 h27 hf => ?_)
    exact A_iret C dX8_task_30 E hf
  refine A_iload_n C dX8_task_7 (i := 1) rfl 1 rfl 8 rfl ?_
  refine A_if_lt C dX8_task_8 25 (by decide) 11 rfl hf (fun c8 hf => ?_) (fun c8 hf => ?_)
  · refine A_aload_n C dX8_task_25 (i := 0) rfl 0 rfl 26 rfl ?_
    refine A_iconst (v := 1) C dX8_task_26 (by decide) 27 rfl ?_
    refine CVi C dX8_task_27 8 k0 (by decide) (r := (RX8, TX8, 19)) rfl rfl hf (fun _ _ e => mX8_refuse k0 e) lkRX8_83 (by decide) (by decide) rfl [] rfl (Nat.le_of_ble_eq_true rfl) 30 rfl (fun r27 h27 hf => ?_)
    exact A_iret C dX8_task_30 E hf
  refine A_iload_n C dX8_task_11 (i := 1) rfl 1 rfl 12 rfl ?_
  refine A_aload_n C dX8_task_12 (i := 0) rfl 0 rfl 13 rfl ?_
  refine gfRX8_68 C k0 dX8_task_13 hf 16 rfl (fun kp1 hf => ?_)
  refine gfRX8_247 C kp1 dX8_task_16 19 rfl ?_
  refine gfRX8_120 C (of_0_6 kp1) dX8_task_19 22 rfl ?_
  refine A_icmp_lt C dX8_task_22 31 (by decide) 25 rfl hf (fun c22 hf => ?_) (fun c22 hf => ?_)
  · refine A_aload_n C dX8_task_31 (i := 0) rfl 0 rfl 32 rfl ?_
    refine gfRX8_40 C k0 dX8_task_32 35 rfl ?_
    refine A_aload_n C dX8_task_35 (i := 0) rfl 0 rfl 36 rfl ?_
    refine gfRX8_68 C k0 dX8_task_36 hf 39 rfl (fun kp2 hf => ?_)
    refine CVv C dX8_task_39 4 (of_8_5 k0) (by decide) (r := (RX4, TX4, 8)) rfl rfl hf (fun _ e => mX4_make (of_8_5 k0) kp2 e) lkRX8_250 (by decide) (by decide) rfl [] rfl (Nat.le_of_ble_eq_true rfl) 42 rfl (fun h39 hf => ?_)
    refine A_aload_n C dX8_task_42 (i := 0) rfl 0 rfl 43 rfl ?_
    refine A_aload_n C dX8_task_43 (i := 0) rfl 0 rfl 44 rfl ?_
    refine gfRX8_40 C k0 dX8_task_44 47 rfl ?_
    refine gfRX8_253 C (of_8_5 k0) dX8_task_47 50 rfl ?_
    refine A_if_eq C dX8_task_50 65 (by decide) 53 rfl hf (fun c50 hf => ?_) (fun c50 hf => ?_)
    · refine A_bipush (v := (-2)) C dX8_task_65 (by decide) 67 rfl ?_
      refine CVi C dX8_task_67 8 k0 (by decide) (r := (RX8, TX8, 19)) rfl rfl hf (fun _ _ e => mX8_allow k0 e) lkRX8_125 (by decide) (by decide) rfl [] rfl (Nat.le_of_ble_eq_true rfl) 70 rfl (fun r67 h67 hf => ?_)
      exact A_iret C dX8_task_70 E hf
    refine A_aload_n C dX8_task_53 (i := 0) rfl 0 rfl 54 rfl ?_
    refine gfRX8_40 C k0 dX8_task_54 57 rfl ?_
    refine gfRX8_256 C (of_8_5 k0) dX8_task_57 60 rfl ?_
    refine A_iload_n C dX8_task_60 (i := 1) rfl 1 rfl 61 rfl ?_
    refine A_iald C dX8_task_61 (of_4_0 (of_8_5 k0)) hf 62 rfl (fun hf => ?_)
    refine A_goto C dX8_task_62 67 (by decide) ?_
    refine CVi C dX8_task_67 8 k0 (by decide) (r := (RX8, TX8, 19)) rfl rfl hf (fun _ _ e => mX8_allow k0 e) lkRX8_125 (by decide) (by decide) rfl [] rfl (Nat.le_of_ble_eq_true rfl) 70 rfl (fun r67 h67 hf => ?_)
    exact A_iret C dX8_task_70 E hf
  refine A_aload_n C dX8_task_25 (i := 0) rfl 0 rfl 26 rfl ?_
  refine A_iconst (v := 1) C dX8_task_26 (by decide) 27 rfl ?_
  refine CVi C dX8_task_27 8 k0 (by decide) (r := (RX8, TX8, 19)) rfl rfl hf (fun _ _ e => mX8_refuse k0 e) lkRX8_83 (by decide) (by decide) rfl [] rfl (Nat.le_of_ble_eq_true rfl) 30 rfl (fun r27 h27 hf => ?_)
  exact A_iret C dX8_task_30 E hf
set_option maxRecDepth 20000 in
theorem mX8_best {K : KX} {x0 : Nat} {x1 : Int32} (k0 : isK 8 x0) {h : HH} {rv : Int64} {hv : HH} (hf : fX8_best x0 x1 h = some (rv, hv)) : MR K yX8_best cX8_best 2 (some .long) 15 [.ref (K.2.1 x0), .int x1] h (some (.long rv)) hv := by
  refine MR_of (by decide) (Nat.le_of_ble_eq_true rfl) (fun G C E hnl => ?_)
  have C : Ok K G 15 cX8_best RX8 := C
  refine (show At K G 0 [(0, .ref (K.2.1 x0)), (1, .int x1)] [] h from ?_)
  unfold fX8_best at hf
  refine A_aload_n C dX8_best_0 (i := 0) rfl 0 rfl 1 rfl ?_
  refine gfRX8_98 C k0 dX8_best_1 4 rfl ?_
  refine A_if_eq C dX8_best_4 16 (by decide) 7 rfl hf (fun c4 hf => ?_) (fun c4 hf => ?_)
  · refine A_aload_n C dX8_best_16 (i := 0) rfl 0 rfl 17 rfl ?_
    refine A_iconst (v := 1) C dX8_best_17 (by decide) 18 rfl ?_
    refine CVi C dX8_best_18 8 k0 (by decide) (r := (RX8, TX8, 19)) rfl rfl hf (fun _ _ e => mX8_refuse k0 e) lkRX8_83 (by decide) (by decide) rfl [] rfl (Nat.le_of_ble_eq_true rfl) 21 rfl (fun r18 h18 hf => ?_)
    refine A_i2l C dX8_best_21 22 rfl ?_
    exact A_lret C dX8_best_22 E hf
  refine A_iload_n C dX8_best_7 (i := 1) rfl 1 rfl 8 rfl ?_
  refine A_if_lt C dX8_best_8 16 (by decide) 11 rfl hf (fun c8 hf => ?_) (fun c8 hf => ?_)
  · refine A_aload_n C dX8_best_16 (i := 0) rfl 0 rfl 17 rfl ?_
    refine A_iconst (v := 1) C dX8_best_17 (by decide) 18 rfl ?_
    refine CVi C dX8_best_18 8 k0 (by decide) (r := (RX8, TX8, 19)) rfl rfl hf (fun _ _ e => mX8_refuse k0 e) lkRX8_83 (by decide) (by decide) rfl [] rfl (Nat.le_of_ble_eq_true rfl) 21 rfl (fun r18 h18 hf => ?_)
    refine A_i2l C dX8_best_21 22 rfl ?_
    exact A_lret C dX8_best_22 E hf
  refine A_iload_n C dX8_best_11 (i := 1) rfl 1 rfl 12 rfl ?_
  refine A_iconst (v := 2) C dX8_best_12 (by decide) 13 rfl ?_
  refine A_icmp_le C dX8_best_13 23 (by decide) 16 rfl hf (fun c13 hf => ?_) (fun c13 hf => ?_)
  · refine A_aload_n C dX8_best_23 (i := 0) rfl 0 rfl 24 rfl ?_
    refine gfRX8_40 C k0 dX8_best_24 27 rfl ?_
    refine A_aload_n C dX8_best_27 (i := 0) rfl 0 rfl 28 rfl ?_
    refine gfRX8_68 C k0 dX8_best_28 hf 31 rfl (fun kp1 hf => ?_)
    refine CVv C dX8_best_31 4 (of_8_5 k0) (by decide) (r := (RX4, TX4, 8)) rfl rfl hf (fun _ e => mX4_make (of_8_5 k0) kp1 e) lkRX8_250 (by decide) (by decide) rfl [] rfl (Nat.le_of_ble_eq_true rfl) 34 rfl (fun h31 hf => ?_)
    refine A_aload_n C dX8_best_34 (i := 0) rfl 0 rfl 35 rfl ?_
    refine gfRX8_40 C k0 dX8_best_35 38 rfl ?_
    refine gfRX8_253 C (of_8_5 k0) dX8_best_38 41 rfl ?_
    refine A_if_ne C dX8_best_41 52 (by decide) 44 rfl hf (fun c41 hf => ?_) (fun c41 hf => ?_)
    · refine A_iload_n C dX8_best_52 (i := 1) rfl 1 rfl 53 rfl ?_
      refine A_if_ne C dX8_best_53 68 (by decide) 56 rfl hf (fun c53 hf => ?_) (fun c53 hf => ?_)
      · refine A_aload_n C dX8_best_68 (i := 0) rfl 0 rfl 69 rfl ?_
        refine A_iload_n C dX8_best_69 (i := 1) rfl 1 rfl 70 rfl ?_
        refine A_iconst (v := 1) C dX8_best_70 (by decide) 71 rfl ?_
        refine A_icmp_ne C dX8_best_71 84 (by decide) 74 rfl hf (fun c71 hf => ?_) (fun c71 hf => ?_)
        · refine A_aload_n C dX8_best_84 (i := 0) rfl 0 rfl 85 rfl ?_
          refine gfRX8_40 C k0 dX8_best_85 88 rfl ?_
          refine gfRX8_265 C (of_8_5 k0) dX8_best_88 91 rfl ?_
          refine CVl C dX8_best_91 8 k0 (by decide) (r := (RX8, TX8, 19)) rfl rfl hf (fun _ _ e => mX8_allow_ k0 e) lkRX8_142 (by decide) (by decide) rfl [] rfl (Nat.le_of_ble_eq_true rfl) 94 rfl (fun r91 h91 hf => ?_)
          exact A_lret C dX8_best_94 E hf
        refine A_aload_n C dX8_best_74 (i := 0) rfl 0 rfl 75 rfl ?_
        refine gfRX8_40 C k0 dX8_best_75 78 rfl ?_
        refine gfRX8_262 C (of_8_5 k0) dX8_best_78 81 rfl ?_
        refine A_goto C dX8_best_81 91 (by decide) ?_
        refine CVl C dX8_best_91 8 k0 (by decide) (r := (RX8, TX8, 19)) rfl rfl hf (fun _ _ e => mX8_allow_ k0 e) lkRX8_142 (by decide) (by decide) rfl [] rfl (Nat.le_of_ble_eq_true rfl) 94 rfl (fun r91 h91 hf => ?_)
        exact A_lret C dX8_best_94 E hf
      refine A_aload_n C dX8_best_56 (i := 0) rfl 0 rfl 57 rfl ?_
      refine A_aload_n C dX8_best_57 (i := 0) rfl 0 rfl 58 rfl ?_
      refine gfRX8_40 C k0 dX8_best_58 61 rfl ?_
      refine gfRX8_259 C (of_8_5 k0) dX8_best_61 64 rfl ?_
      refine CVl C dX8_best_64 8 k0 (by decide) (r := (RX8, TX8, 19)) rfl rfl hf (fun _ _ e => mX8_allow_ k0 e) lkRX8_142 (by decide) (by decide) rfl [] rfl (Nat.le_of_ble_eq_true rfl) 67 rfl (fun r64 h64 hf => ?_)
      exact A_lret C dX8_best_67 E hf
    refine A_aload_n C dX8_best_44 (i := 0) rfl 0 rfl 45 rfl ?_
    refine A_bipush (v := (-2)) C dX8_best_45 (by decide) 47 rfl ?_
    refine CVi C dX8_best_47 8 k0 (by decide) (r := (RX8, TX8, 19)) rfl rfl hf (fun _ _ e => mX8_allow k0 e) lkRX8_125 (by decide) (by decide) rfl [] rfl (Nat.le_of_ble_eq_true rfl) 50 rfl (fun r47 h47 hf => ?_)
    refine A_i2l C dX8_best_50 51 rfl ?_
    exact A_lret C dX8_best_51 E hf
  refine A_aload_n C dX8_best_16 (i := 0) rfl 0 rfl 17 rfl ?_
  refine A_iconst (v := 1) C dX8_best_17 (by decide) 18 rfl ?_
  refine CVi C dX8_best_18 8 k0 (by decide) (r := (RX8, TX8, 19)) rfl rfl hf (fun _ _ e => mX8_refuse k0 e) lkRX8_83 (by decide) (by decide) rfl [] rfl (Nat.le_of_ble_eq_true rfl) 21 rfl (fun r18 h18 hf => ?_)
  refine A_i2l C dX8_best_21 22 rfl ?_
  exact A_lret C dX8_best_22 E hf
set_option maxRecDepth 20000 in
theorem mX8_soonest {K : KX} {x0 : Nat} (k0 : isK 8 x0) {h : HH} {rv : Int64} {hv : HH} (hf : fX8_soonest x0 h = some (rv, hv)) : MR K yX8_soonest cX8_soonest 1 (some .long) 5 [.ref (K.2.1 x0)] h (some (.long rv)) hv := by
  refine MR_of (by decide) (Nat.le_of_ble_eq_true rfl) (fun G C E hnl => ?_)
  have C : Ok K G 5 cX8_soonest RX8 := C
  refine (show At K G 0 [(0, .ref (K.2.1 x0))] [] h from ?_)
  unfold fX8_soonest at hf
  refine A_aload_n C dX8_soonest_0 (i := 0) rfl 0 rfl 1 rfl ?_
  refine gfRX8_98 C k0 dX8_soonest_1 4 rfl ?_
  refine A_if_eq C dX8_soonest_4 21 (by decide) 7 rfl hf (fun c4 hf => ?_) (fun c4 hf => ?_)
  · refine A_aload_n C dX8_soonest_21 (i := 0) rfl 0 rfl 22 rfl ?_
    refine A_iconst (v := 1) C dX8_soonest_22 (by decide) 23 rfl ?_
    refine CVi C dX8_soonest_23 8 k0 (by decide) (r := (RX8, TX8, 19)) rfl rfl hf (fun _ _ e => mX8_refuse k0 e) lkRX8_83 (by decide) (by decide) rfl [] rfl (Nat.le_of_ble_eq_true rfl) 26 rfl (fun r23 h23 hf => ?_)
    refine A_i2l C dX8_soonest_26 27 rfl ?_
    exact A_lret C dX8_soonest_27 E hf
  refine A_aload_n C dX8_soonest_7 (i := 0) rfl 0 rfl 8 rfl ?_
  refine A_aload_n C dX8_soonest_8 (i := 0) rfl 0 rfl 9 rfl ?_
  refine gfRX8_68 C k0 dX8_soonest_9 hf 12 rfl (fun kp1 hf => ?_)
  refine CSl C dX8_soonest_12 hf (fun _ _ e => mX4_leastTicks kp1 e) lkRX8_268 (by decide) (by decide) rfl [.ref (K.2.1 x0)] rfl (Nat.le_of_ble_eq_true rfl) 15 rfl (fun r12 h12 hf => ?_)
  refine CVl C dX8_soonest_15 8 k0 (by decide) (r := (RX8, TX8, 19)) rfl rfl hf (fun _ _ e => mX8_allow_ k0 e) lkRX8_142 (by decide) (by decide) rfl [] rfl (Nat.le_of_ble_eq_true rfl) 18 rfl (fun r15 h15 hf => ?_)
  refine A_goto C dX8_soonest_18 27 (by decide) ?_
  exact A_lret C dX8_soonest_27 E hf
set_option maxRecDepth 20000 in
theorem wX8_whyNotTogether_L37 {K : KX} {G : GX} (C : Ok K G 1 cX8_whyNotTogether RX8) (hnl : G.2.2.2.2.2.2.2.2.2.2.2.2.2 = 5) {rv : Int32} {hv : HH} (E : Endd K G (some .int) (some (.int rv)) hv) {x0 : Nat} {x1 : Int32}   (kx0 : isK 8 x0) : ∀ (self37 : Int32 → Int32 → HH → Option (Int32 × HH)), (∀ (x2 : Int32) (x3 : Int32) (h : HH), self37 x2 x3 h = some (rv, hv) → At K G 37 [(0, .ref (K.2.1 x0)), (1, .int x1), (2, .int x2), (3, .int x3)] [] h) → ∀ (x2 : Int32) (x3 : Int32) (h : HH), fX8_whyNotTogether_L37 x0 x1 self37 x2 x3 h = some (rv, hv) → At K G 37 [(0, .ref (K.2.1 x0)), (1, .int x1), (2, .int x2), (3, .int x3)] [] h := by
  intro self37 Hself37 x2 x3 h hf
  unfold fX8_whyNotTogether_L37 at hf
  refine A_iload_n C dX8_whyNotTogether_37 (i := 3) rfl 3 rfl 38 rfl ?_
  refine A_aload_n C dX8_whyNotTogether_38 (i := 0) rfl 0 rfl 39 rfl ?_
  refine gfRX8_68 C kx0 dX8_whyNotTogether_39 hf 42 rfl (fun kp2 hf => ?_)
  refine gfRX8_116 C kp2 dX8_whyNotTogether_42 45 rfl ?_
  refine gfRX8_120 C (of_0_3 kp2) dX8_whyNotTogether_45 48 rfl ?_
  refine A_icmp_ge C dX8_whyNotTogether_48 123 (by decide) 51 rfl hf (fun c48 hf => ?_) (fun c48 hf => ?_)
  · refine A_iconst (v := 0) C dX8_whyNotTogether_123 (by decide) 124 rfl ?_
    exact A_iret C dX8_whyNotTogether_124 E hf
  refine A_iload_n C dX8_whyNotTogether_51 (i := 1) rfl 1 rfl 52 rfl ?_
  refine A_iload_n C dX8_whyNotTogether_52 (i := 3) rfl 3 rfl 53 rfl ?_
  refine A_ishr C dX8_whyNotTogether_53 54 rfl ?_
  refine A_iconst (v := 1) C dX8_whyNotTogether_54 (by decide) 55 rfl ?_
  refine A_iand C dX8_whyNotTogether_55 56 rfl ?_
  refine A_if_ne C dX8_whyNotTogether_56 62 (by decide) 59 rfl hf (fun c56 hf => ?_) (fun c56 hf => ?_)
  · refine A_iload_n C dX8_whyNotTogether_62 (i := 2) rfl 2 rfl 63 rfl ?_
    refine A_bipush (v := (-2)) C dX8_whyNotTogether_63 (by decide) 65 rfl ?_
    refine A_icmp_eq C dX8_whyNotTogether_65 85 (by decide) 68 rfl hf (fun c65 hf => ?_) (fun c65 hf => ?_)
    · refine A_iconst (v := 0) C dX8_whyNotTogether_85 (by decide) 86 rfl ?_
      refine A_istore C dX8_whyNotTogether_86 [(4, .int 0), (0, .ref (K.2.1 x0)), (1, .int x1), (2, .int x2), (3, .int x3)] (lt_nl hnl (by decide)) rfl 88 rfl ?_
      refine A_aload_n C dX8_whyNotTogether_88 (i := 0) rfl 1 rfl 89 rfl ?_
      refine gfRX8_23 C kx0 dX8_whyNotTogether_89 92 rfl ?_
      refine gfRX8_163 C (of_8_2 kx0) dX8_whyNotTogether_92 95 rfl ?_
      refine A_iload_n C dX8_whyNotTogether_95 (i := 3) rfl 4 rfl 96 rfl ?_
      refine A_iald C dX8_whyNotTogether_96 (of_2_0 (of_8_2 kx0)) hf 97 rfl (fun hf => ?_)
      refine A_if_eq C dX8_whyNotTogether_97 105 (by decide) 100 rfl hf (fun c97 hf => ?_) (fun c97 hf => ?_)
      · refine A_iconst (v := 5) C dX8_whyNotTogether_105 (by decide) 106 rfl ?_
        exact A_iret C dX8_whyNotTogether_106 E hf
      refine A_iload C dX8_whyNotTogether_100 0 rfl 102 rfl ?_
      refine T_if_eq C dX8_whyNotTogether_102 107 (by decide) (by decide) ?_
      refine A_aload_n C dX8_whyNotTogether_107 (i := 0) rfl 1 rfl 108 rfl ?_
      refine gfRX8_23 C kx0 dX8_whyNotTogether_108 111 rfl ?_
      refine gfRX8_167 C (of_8_2 kx0) dX8_whyNotTogether_111 114 rfl ?_
      refine A_iload_n C dX8_whyNotTogether_114 (i := 3) rfl 4 rfl 115 rfl ?_
      refine A_iald C dX8_whyNotTogether_115 (of_2_1 (of_8_2 kx0)) hf 116 rfl (fun hf => ?_)
      refine A_namI hf (fun y3 hf => ?_)
      refine A_istore_n C dX8_whyNotTogether_116 (i := 2) rfl [(2, .int y3), (4, .int 0), (0, .ref (K.2.1 x0)), (1, .int x1), (3, .int x3)] (lt_nl hnl (by decide)) rfl 117 rfl ?_
      refine A_iinc (v := (x3 + 1)) C dX8_whyNotTogether_117 4 rfl rfl [(3, .int (x3 + 1)), (2, .int y3), (4, .int 0), (0, .ref (K.2.1 x0)), (1, .int x1)] (lt_nl hnl (by decide)) rfl 120 rfl ?_
      refine A_goto C dX8_whyNotTogether_120 37 (by decide) ?_
      refine A_sub [3, 4, 1, 0] (lv' := [(0, .ref (K.2.1 x0)), (1, .int x1), (2, .int y3), (3, .int (x3 + 1))]) rfl ?_
      exact Hself37 _ _ _ hf
    refine A_iload_n C dX8_whyNotTogether_68 (i := 2) rfl 2 rfl 69 rfl ?_
    refine A_aload_n C dX8_whyNotTogether_69 (i := 0) rfl 0 rfl 70 rfl ?_
    refine gfRX8_23 C kx0 dX8_whyNotTogether_70 73 rfl ?_
    refine gfRX8_167 C (of_8_2 kx0) dX8_whyNotTogether_73 76 rfl ?_
    refine A_iload_n C dX8_whyNotTogether_76 (i := 3) rfl 3 rfl 77 rfl ?_
    refine A_iald C dX8_whyNotTogether_77 (of_2_1 (of_8_2 kx0)) hf 78 rfl (fun hf => ?_)
    refine A_icmp_eq C dX8_whyNotTogether_78 85 (by decide) 81 rfl hf (fun c78 hf => ?_) (fun c78 hf => ?_)
    · refine A_iconst (v := 0) C dX8_whyNotTogether_85 (by decide) 86 rfl ?_
      refine A_istore C dX8_whyNotTogether_86 [(4, .int 0), (0, .ref (K.2.1 x0)), (1, .int x1), (2, .int x2), (3, .int x3)] (lt_nl hnl (by decide)) rfl 88 rfl ?_
      refine A_aload_n C dX8_whyNotTogether_88 (i := 0) rfl 1 rfl 89 rfl ?_
      refine gfRX8_23 C kx0 dX8_whyNotTogether_89 92 rfl ?_
      refine gfRX8_163 C (of_8_2 kx0) dX8_whyNotTogether_92 95 rfl ?_
      refine A_iload_n C dX8_whyNotTogether_95 (i := 3) rfl 4 rfl 96 rfl ?_
      refine A_iald C dX8_whyNotTogether_96 (of_2_0 (of_8_2 kx0)) hf 97 rfl (fun hf => ?_)
      refine A_if_eq C dX8_whyNotTogether_97 105 (by decide) 100 rfl hf (fun c97 hf => ?_) (fun c97 hf => ?_)
      · refine A_iconst (v := 5) C dX8_whyNotTogether_105 (by decide) 106 rfl ?_
        exact A_iret C dX8_whyNotTogether_106 E hf
      refine A_iload C dX8_whyNotTogether_100 0 rfl 102 rfl ?_
      refine T_if_eq C dX8_whyNotTogether_102 107 (by decide) (by decide) ?_
      refine A_aload_n C dX8_whyNotTogether_107 (i := 0) rfl 1 rfl 108 rfl ?_
      refine gfRX8_23 C kx0 dX8_whyNotTogether_108 111 rfl ?_
      refine gfRX8_167 C (of_8_2 kx0) dX8_whyNotTogether_111 114 rfl ?_
      refine A_iload_n C dX8_whyNotTogether_114 (i := 3) rfl 4 rfl 115 rfl ?_
      refine A_iald C dX8_whyNotTogether_115 (of_2_1 (of_8_2 kx0)) hf 116 rfl (fun hf => ?_)
      refine A_namI hf (fun y4 hf => ?_)
      refine A_istore_n C dX8_whyNotTogether_116 (i := 2) rfl [(2, .int y4), (4, .int 0), (0, .ref (K.2.1 x0)), (1, .int x1), (3, .int x3)] (lt_nl hnl (by decide)) rfl 117 rfl ?_
      refine A_iinc (v := (x3 + 1)) C dX8_whyNotTogether_117 4 rfl rfl [(3, .int (x3 + 1)), (2, .int y4), (4, .int 0), (0, .ref (K.2.1 x0)), (1, .int x1)] (lt_nl hnl (by decide)) rfl 120 rfl ?_
      refine A_goto C dX8_whyNotTogether_120 37 (by decide) ?_
      refine A_sub [3, 4, 1, 0] (lv' := [(0, .ref (K.2.1 x0)), (1, .int x1), (2, .int y4), (3, .int (x3 + 1))]) rfl ?_
      exact Hself37 _ _ _ hf
    refine A_iconst (v := 1) C dX8_whyNotTogether_81 (by decide) 82 rfl ?_
    refine A_goto C dX8_whyNotTogether_82 86 (by decide) ?_
    refine A_istore C dX8_whyNotTogether_86 [(4, .int 1), (0, .ref (K.2.1 x0)), (1, .int x1), (2, .int x2), (3, .int x3)] (lt_nl hnl (by decide)) rfl 88 rfl ?_
    refine A_aload_n C dX8_whyNotTogether_88 (i := 0) rfl 1 rfl 89 rfl ?_
    refine gfRX8_23 C kx0 dX8_whyNotTogether_89 92 rfl ?_
    refine gfRX8_163 C (of_8_2 kx0) dX8_whyNotTogether_92 95 rfl ?_
    refine A_iload_n C dX8_whyNotTogether_95 (i := 3) rfl 4 rfl 96 rfl ?_
    refine A_iald C dX8_whyNotTogether_96 (of_2_0 (of_8_2 kx0)) hf 97 rfl (fun hf => ?_)
    refine A_if_eq C dX8_whyNotTogether_97 105 (by decide) 100 rfl hf (fun c97 hf => ?_) (fun c97 hf => ?_)
    · refine A_iconst (v := 5) C dX8_whyNotTogether_105 (by decide) 106 rfl ?_
      exact A_iret C dX8_whyNotTogether_106 E hf
    refine A_iload C dX8_whyNotTogether_100 0 rfl 102 rfl ?_
    refine N_if_eq C dX8_whyNotTogether_102 107 (by decide) (by decide) 105 rfl ?_
    refine A_iconst (v := 5) C dX8_whyNotTogether_105 (by decide) 106 rfl ?_
    exact A_iret C dX8_whyNotTogether_106 E hf
  refine A_goto C dX8_whyNotTogether_59 117 (by decide) ?_
  refine A_iinc (v := (x3 + 1)) C dX8_whyNotTogether_117 3 rfl rfl [(3, .int (x3 + 1)), (0, .ref (K.2.1 x0)), (1, .int x1), (2, .int x2)] (lt_nl hnl (by decide)) rfl 120 rfl ?_
  refine A_goto C dX8_whyNotTogether_120 37 (by decide) ?_
  refine A_sub [1, 2, 3, 0] (lv' := [(0, .ref (K.2.1 x0)), (1, .int x1), (2, .int x2), (3, .int (x3 + 1))]) rfl ?_
  exact Hself37 _ _ _ hf
set_option maxRecDepth 20000 in
theorem mX8_whyNotTogether {K : KX} {x0 : Nat} {x1 : Int32} (k0 : isK 8 x0) {h : HH} {rv : Int32} {hv : HH} (hf : fX8_whyNotTogether x0 x1 h = some (rv, hv)) : MR K yX8_whyNotTogether cX8_whyNotTogether 5 (some .int) 1 [.ref (K.2.1 x0), .int x1] h (some (.int rv)) hv := by
  refine MR_of (by decide) (Nat.le_of_ble_eq_true rfl) (fun G C E hnl => ?_)
  have C : Ok K G 1 cX8_whyNotTogether RX8 := C
  refine (show At K G 0 [(0, .ref (K.2.1 x0)), (1, .int x1)] [] h from ?_)
  unfold fX8_whyNotTogether at hf
  refine A_aload_n C dX8_whyNotTogether_0 (i := 0) rfl 0 rfl 1 rfl ?_
  refine gfRX8_98 C k0 dX8_whyNotTogether_1 4 rfl ?_
  refine A_if_ne C dX8_whyNotTogether_4 9 (by decide) 7 rfl hf (fun c4 hf => ?_) (fun c4 hf => ?_)
  · refine A_iload_n C dX8_whyNotTogether_9 (i := 1) rfl 1 rfl 10 rfl ?_
    refine A_iconst (v := 1) C dX8_whyNotTogether_10 (by decide) 11 rfl ?_
    refine A_icmp_lt C dX8_whyNotTogether_11 30 (by decide) 14 rfl hf (fun c11 hf => ?_) (fun c11 hf => ?_)
    · refine A_iconst (v := 2) C dX8_whyNotTogether_30 (by decide) 31 rfl ?_
      exact A_iret C dX8_whyNotTogether_31 E hf
    refine A_iload_n C dX8_whyNotTogether_14 (i := 1) rfl 1 rfl 15 rfl ?_
    refine A_iconst (v := 1) C dX8_whyNotTogether_15 (by decide) 16 rfl ?_
    refine A_aload_n C dX8_whyNotTogether_16 (i := 0) rfl 0 rfl 17 rfl ?_
    refine gfRX8_68 C k0 dX8_whyNotTogether_17 hf 20 rfl (fun kp1 hf => ?_)
    refine gfRX8_116 C kp1 dX8_whyNotTogether_20 23 rfl ?_
    refine gfRX8_120 C (of_0_3 kp1) dX8_whyNotTogether_23 26 rfl ?_
    refine A_ishl C dX8_whyNotTogether_26 27 rfl ?_
    refine A_icmp_lt C dX8_whyNotTogether_27 32 (by decide) 30 rfl hf (fun c27 hf => ?_) (fun c27 hf => ?_)
    · refine A_bipush (v := (-2)) C dX8_whyNotTogether_32 (by decide) 34 rfl ?_
      refine A_istore_n C dX8_whyNotTogether_34 (i := 2) rfl [(2, .int (-2)), (0, .ref (K.2.1 x0)), (1, .int x1)] (lt_nl hnl (by decide)) rfl 35 rfl ?_
      refine A_iconst (v := 0) C dX8_whyNotTogether_35 (by decide) 36 rfl ?_
      refine A_istore_n C dX8_whyNotTogether_36 (i := 3) rfl [(3, .int 0), (2, .int (-2)), (0, .ref (K.2.1 x0)), (1, .int x1)] (lt_nl hnl (by decide)) rfl 37 rfl ?_
      refine A_sub [2, 3, 1, 0] (lv' := [(0, .ref (K.2.1 x0)), (1, .int x1), (2, .int (-2)), (3, .int 0)]) rfl ?_
      refine lq2_at (wX8_whyNotTogether_L37 C hnl E k0) FU _ _ _ hf
    refine A_iconst (v := 2) C dX8_whyNotTogether_30 (by decide) 31 rfl ?_
    exact A_iret C dX8_whyNotTogether_31 E hf
  refine A_iconst (v := 1) C dX8_whyNotTogether_7 (by decide) 8 rfl ?_
  exact A_iret C dX8_whyNotTogether_8 E hf
set_option maxRecDepth 20000 in
theorem mX8_together {K : KX} {x0 : Nat} {x1 : Int32} (k0 : isK 8 x0) {h : HH} {rv : Int32} {hv : HH} (hf : fX8_together x0 x1 h = some (rv, hv)) : MR K yX8_together cX8_together 3 (some .int) 5 [.ref (K.2.1 x0), .int x1] h (some (.int rv)) hv := by
  refine MR_of (by decide) (Nat.le_of_ble_eq_true rfl) (fun G C E hnl => ?_)
  have C : Ok K G 5 cX8_together RX8 := C
  refine (show At K G 0 [(0, .ref (K.2.1 x0)), (1, .int x1)] [] h from ?_)
  unfold fX8_together at hf
  refine A_aload_n C dX8_together_0 (i := 0) rfl 0 rfl 1 rfl ?_
  refine A_iload_n C dX8_together_1 (i := 1) rfl 1 rfl 2 rfl ?_
  refine CVi C dX8_together_2 8 k0 (by decide) (r := (RX8, TX8, 19)) rfl rfl hf (fun _ _ e => mX8_whyNotTogether k0 e) lkRX8_272 (by decide) (by decide) rfl [] rfl (Nat.le_of_ble_eq_true rfl) 5 rfl (fun r2 h2 hf => ?_)
  refine A_istore_n C dX8_together_5 (i := 2) rfl [(2, .int r2), (0, .ref (K.2.1 x0)), (1, .int x1)] (lt_nl hnl (by decide)) rfl 6 rfl ?_
  refine A_iload_n C dX8_together_6 (i := 2) rfl 0 rfl 7 rfl ?_
  refine A_if_eq C dX8_together_7 18 (by decide) 10 rfl hf (fun c7 hf => ?_) (fun c7 hf => ?_)
  · refine A_aload_n C dX8_together_18 (i := 0) rfl 1 rfl 19 rfl ?_
    refine A_aload_n C dX8_together_19 (i := 0) rfl 1 rfl 20 rfl ?_
    refine gfRX8_47 C k0 dX8_together_20 23 rfl ?_
    refine A_aload_n C dX8_together_23 (i := 0) rfl 1 rfl 24 rfl ?_
    refine gfRX8_68 C k0 dX8_together_24 hf 27 rfl (fun kp1 hf => ?_)
    refine A_aload_n C dX8_together_27 (i := 0) rfl 1 rfl 28 rfl ?_
    refine gfRX8_23 C k0 dX8_together_28 31 rfl ?_
    refine A_iload_n C dX8_together_31 (i := 1) rfl 2 rfl 32 rfl ?_
    refine CVi C dX8_together_32 6 (of_8_6 k0) (by decide) (r := (RX6, TX6, 10)) rfl rfl hf (fun _ _ e => mX6_seek (of_8_6 k0) kp1 (of_8_2 k0) e) lkRX8_275 (by decide) (by decide) rfl [.ref (K.2.1 x0)] rfl (Nat.le_of_ble_eq_true rfl) 35 rfl (fun r32 h32 hf => ?_)
    refine CVi C dX8_together_35 8 k0 (by decide) (r := (RX8, TX8, 19)) rfl rfl hf (fun _ _ e => mX8_allow k0 e) lkRX8_125 (by decide) (by decide) rfl [] rfl (Nat.le_of_ble_eq_true rfl) 38 rfl (fun r35 h35 hf => ?_)
    exact A_iret C dX8_together_38 E hf
  refine A_aload_n C dX8_together_10 (i := 0) rfl 1 rfl 11 rfl ?_
  refine A_iload_n C dX8_together_11 (i := 2) rfl 0 rfl 12 rfl ?_
  refine CVi C dX8_together_12 8 k0 (by decide) (r := (RX8, TX8, 19)) rfl rfl hf (fun _ _ e => mX8_refuse k0 e) lkRX8_83 (by decide) (by decide) rfl [] rfl (Nat.le_of_ble_eq_true rfl) 15 rfl (fun r12 h12 hf => ?_)
  refine A_goto C dX8_together_15 38 (by decide) ?_
  exact A_iret C dX8_together_38 E hf
set_option maxRecDepth 20000 in
theorem mX8_togetherAt {K : KX} {x0 : Nat} {x1 : Int32} {x2 : Int32} (k0 : isK 8 x0) {h : HH} {rv : Int32} {hv : HH} (hf : fX8_togetherAt x0 x1 x2 h = some (rv, hv)) : MR K yX8_togetherAt cX8_togetherAt 5 (some .int) 5 [.ref (K.2.1 x0), .int x1, .int x2] h (some (.int rv)) hv := by
  refine MR_of (by decide) (Nat.le_of_ble_eq_true rfl) (fun G C E hnl => ?_)
  have C : Ok K G 5 cX8_togetherAt RX8 := C
  refine (show At K G 0 [(0, .ref (K.2.1 x0)), (1, .int x1), (2, .int x2)] [] h from ?_)
  unfold fX8_togetherAt at hf
  refine A_aload_n C dX8_togetherAt_0 (i := 0) rfl 0 rfl 1 rfl ?_
  refine A_iload_n C dX8_togetherAt_1 (i := 1) rfl 1 rfl 2 rfl ?_
  refine CVi C dX8_togetherAt_2 8 k0 (by decide) (r := (RX8, TX8, 19)) rfl rfl hf (fun _ _ e => mX8_whyNotTogether k0 e) lkRX8_272 (by decide) (by decide) rfl [] rfl (Nat.le_of_ble_eq_true rfl) 5 rfl (fun r2 h2 hf => ?_)
  refine A_istore_n C dX8_togetherAt_5 (i := 3) rfl [(3, .int r2), (0, .ref (K.2.1 x0)), (1, .int x1), (2, .int x2)] (lt_nl hnl (by decide)) rfl 6 rfl ?_
  refine A_iload_n C dX8_togetherAt_6 (i := 3) rfl 0 rfl 7 rfl ?_
  refine A_if_eq C dX8_togetherAt_7 16 (by decide) 10 rfl hf (fun c7 hf => ?_) (fun c7 hf => ?_)
  · refine A_aload_n C dX8_togetherAt_16 (i := 0) rfl 1 rfl 17 rfl ?_
    refine gfRX8_47 C k0 dX8_togetherAt_17 20 rfl ?_
    refine A_aload_n C dX8_togetherAt_20 (i := 0) rfl 1 rfl 21 rfl ?_
    refine gfRX8_68 C k0 dX8_togetherAt_21 hf 24 rfl (fun kp1 hf => ?_)
    refine A_aload_n C dX8_togetherAt_24 (i := 0) rfl 1 rfl 25 rfl ?_
    refine gfRX8_23 C k0 dX8_togetherAt_25 28 rfl ?_
    refine A_iload_n C dX8_togetherAt_28 (i := 1) rfl 2 rfl 29 rfl ?_
    refine CVi C dX8_togetherAt_29 6 (of_8_6 k0) (by decide) (r := (RX6, TX6, 10)) rfl rfl hf (fun _ _ e => mX6_seek (of_8_6 k0) kp1 (of_8_2 k0) e) lkRX8_275 (by decide) (by decide) rfl [] rfl (Nat.le_of_ble_eq_true rfl) 32 rfl (fun r29 h29 hf => ?_)
    refine A_istore C dX8_togetherAt_32 [(4, .int r29), (3, .int r2), (0, .ref (K.2.1 x0)), (1, .int x1), (2, .int x2)] (lt_nl hnl (by decide)) rfl 34 rfl ?_
    refine A_iload_n C dX8_togetherAt_34 (i := 2) rfl 4 rfl 35 rfl ?_
    refine A_if_lt C dX8_togetherAt_35 44 (by decide) 38 rfl hf (fun c35 hf => ?_) (fun c35 hf => ?_)
    · refine A_aload_n C dX8_togetherAt_44 (i := 0) rfl 2 rfl 45 rfl ?_
      refine A_iconst (v := 1) C dX8_togetherAt_45 (by decide) 46 rfl ?_
      refine CVi C dX8_togetherAt_46 8 k0 (by decide) (r := (RX8, TX8, 19)) rfl rfl hf (fun _ _ e => mX8_refuse k0 e) lkRX8_83 (by decide) (by decide) rfl [] rfl (Nat.le_of_ble_eq_true rfl) 49 rfl (fun r46 h46 hf => ?_)
      refine A_goto C dX8_togetherAt_49 65 (by decide) ?_
      exact A_iret C dX8_togetherAt_65 E hf
    refine A_iload_n C dX8_togetherAt_38 (i := 2) rfl 4 rfl 39 rfl ?_
    refine A_iload C dX8_togetherAt_39 0 rfl 41 rfl ?_
    refine A_icmp_lt C dX8_togetherAt_41 52 (by decide) 44 rfl hf (fun c41 hf => ?_) (fun c41 hf => ?_)
    · refine A_aload_n C dX8_togetherAt_52 (i := 0) rfl 2 rfl 53 rfl ?_
      refine A_aload_n C dX8_togetherAt_53 (i := 0) rfl 2 rfl 54 rfl ?_
      refine gfRX8_47 C k0 dX8_togetherAt_54 57 rfl ?_
      refine gfRX8_278 C (of_8_6 k0) dX8_togetherAt_57 60 rfl ?_
      refine A_iload_n C dX8_togetherAt_60 (i := 2) rfl 4 rfl 61 rfl ?_
      refine A_iald C dX8_togetherAt_61 (of_6_0 (of_8_6 k0)) hf 62 rfl (fun hf => ?_)
      refine CVi C dX8_togetherAt_62 8 k0 (by decide) (r := (RX8, TX8, 19)) rfl rfl hf (fun _ _ e => mX8_allow k0 e) lkRX8_125 (by decide) (by decide) rfl [] rfl (Nat.le_of_ble_eq_true rfl) 65 rfl (fun r62 h62 hf => ?_)
      exact A_iret C dX8_togetherAt_65 E hf
    refine A_aload_n C dX8_togetherAt_44 (i := 0) rfl 2 rfl 45 rfl ?_
    refine A_iconst (v := 1) C dX8_togetherAt_45 (by decide) 46 rfl ?_
    refine CVi C dX8_togetherAt_46 8 k0 (by decide) (r := (RX8, TX8, 19)) rfl rfl hf (fun _ _ e => mX8_refuse k0 e) lkRX8_83 (by decide) (by decide) rfl [] rfl (Nat.le_of_ble_eq_true rfl) 49 rfl (fun r46 h46 hf => ?_)
    refine A_goto C dX8_togetherAt_49 65 (by decide) ?_
    exact A_iret C dX8_togetherAt_65 E hf
  refine A_aload_n C dX8_togetherAt_10 (i := 0) rfl 1 rfl 11 rfl ?_
  refine A_iload_n C dX8_togetherAt_11 (i := 3) rfl 0 rfl 12 rfl ?_
  refine CVi C dX8_togetherAt_12 8 k0 (by decide) (r := (RX8, TX8, 19)) rfl rfl hf (fun _ _ e => mX8_refuse k0 e) lkRX8_83 (by decide) (by decide) rfl [] rfl (Nat.le_of_ble_eq_true rfl) 15 rfl (fun r12 h12 hf => ?_)
  exact A_iret C dX8_togetherAt_15 E hf
set_option maxRecDepth 20000 in
theorem mX8_deep {K : KX} {x0 : Nat} (k0 : isK 8 x0) {h : HH} {rv : Int32} {hv : HH} (hf : fX8_deep x0 h = some (rv, hv)) : MR K yX8_deep cX8_deep 1 (some .int) 5 [.ref (K.2.1 x0)] h (some (.int rv)) hv := by
  refine MR_of (by decide) (Nat.le_of_ble_eq_true rfl) (fun G C E hnl => ?_)
  have C : Ok K G 5 cX8_deep RX8 := C
  refine (show At K G 0 [(0, .ref (K.2.1 x0))] [] h from ?_)
  unfold fX8_deep at hf
  refine A_aload_n C dX8_deep_0 (i := 0) rfl 0 rfl 1 rfl ?_
  refine gfRX8_98 C k0 dX8_deep_1 4 rfl ?_
  refine A_if_eq C dX8_deep_4 21 (by decide) 7 rfl hf (fun c4 hf => ?_) (fun c4 hf => ?_)
  · refine A_aload_n C dX8_deep_21 (i := 0) rfl 0 rfl 22 rfl ?_
    refine A_iconst (v := 1) C dX8_deep_22 (by decide) 23 rfl ?_
    refine CVi C dX8_deep_23 8 k0 (by decide) (r := (RX8, TX8, 19)) rfl rfl hf (fun _ _ e => mX8_refuse k0 e) lkRX8_83 (by decide) (by decide) rfl [] rfl (Nat.le_of_ble_eq_true rfl) 26 rfl (fun r23 h23 hf => ?_)
    exact A_iret C dX8_deep_26 E hf
  refine A_aload_n C dX8_deep_7 (i := 0) rfl 0 rfl 8 rfl ?_
  refine A_aload_n C dX8_deep_8 (i := 0) rfl 0 rfl 9 rfl ?_
  refine gfRX8_68 C k0 dX8_deep_9 hf 12 rfl (fun kp1 hf => ?_)
  refine CVi C dX8_deep_12 0 kp1 (by decide) (r := (RX0, TX0, 14)) rfl rfl hf (fun _ _ e => mX0_deepOnes kp1 e) lkRX8_281 (by decide) (by decide) rfl [.ref (K.2.1 x0)] rfl (Nat.le_of_ble_eq_true rfl) 15 rfl (fun r12 h12 hf => ?_)
  refine CVi C dX8_deep_15 8 k0 (by decide) (r := (RX8, TX8, 19)) rfl rfl hf (fun _ _ e => mX8_allow k0 e) lkRX8_125 (by decide) (by decide) rfl [] rfl (Nat.le_of_ble_eq_true rfl) 18 rfl (fun r15 h15 hf => ?_)
  refine A_goto C dX8_deep_18 26 (by decide) ?_
  exact A_iret C dX8_deep_26 E hf
set_option maxRecDepth 20000 in
theorem mX8_whyNotAsk {K : KX} {x0 : Nat} (k0 : isK 8 x0) {h : HH} {rv : Int32} {hv : HH} (hf : fX8_whyNotAsk x0 h = some (rv, hv)) : MR K yX8_whyNotAsk cX8_whyNotAsk 1 (some .int) 5 [.ref (K.2.1 x0)] h (some (.int rv)) hv := by
  refine MR_of (by decide) (Nat.le_of_ble_eq_true rfl) (fun G C E hnl => ?_)
  have C : Ok K G 5 cX8_whyNotAsk RX8 := C
  refine (show At K G 0 [(0, .ref (K.2.1 x0))] [] h from ?_)
  unfold fX8_whyNotAsk at hf
  refine A_aload_n C dX8_whyNotAsk_0 (i := 0) rfl 0 rfl 1 rfl ?_
  refine gfRX8_98 C k0 dX8_whyNotAsk_1 4 rfl ?_
  refine A_if_ne C dX8_whyNotAsk_4 9 (by decide) 7 rfl hf (fun c4 hf => ?_) (fun c4 hf => ?_)
  · refine A_aload_n C dX8_whyNotAsk_9 (i := 0) rfl 0 rfl 10 rfl ?_
    refine gfRX8_68 C k0 dX8_whyNotAsk_10 hf 13 rfl (fun kp1 hf => ?_)
    refine CVi C dX8_whyNotAsk_13 0 kp1 (by decide) (r := (RX0, TX0, 14)) rfl rfl hf (fun _ _ e => mX0_deepOnes kp1 e) lkRX8_281 (by decide) (by decide) rfl [] rfl (Nat.le_of_ble_eq_true rfl) 16 rfl (fun r13 h13 hf => ?_)
    refine CSi C dX8_whyNotAsk_16 hf (fun _ _ e => mJ6_bitCount_0f7a4  e) lkRX8_293 (by decide) (by decide) rfl [] rfl (Nat.le_of_ble_eq_true rfl) 19 rfl (fun r16 h16 hf => ?_)
    refine A_iconst (v := 2) C dX8_whyNotAsk_19 (by decide) 20 rfl ?_
    refine A_icmp_ge C dX8_whyNotAsk_20 28 (by decide) 23 rfl hf (fun c20 hf => ?_) (fun c20 hf => ?_)
    · refine A_iconst (v := 0) C dX8_whyNotAsk_28 (by decide) 29 rfl ?_
      exact A_iret C dX8_whyNotAsk_29 E hf
    refine A_bipush (v := 6) C dX8_whyNotAsk_23 (by decide) 25 rfl ?_
    refine A_goto C dX8_whyNotAsk_25 29 (by decide) ?_
    exact A_iret C dX8_whyNotAsk_29 E hf
  refine A_iconst (v := 1) C dX8_whyNotAsk_7 (by decide) 8 rfl ?_
  exact A_iret C dX8_whyNotAsk_8 E hf
set_option maxRecDepth 20000 in
theorem wX8_fewestAsked_L9 {K : KX} {G : GX} (C : Ok K G 2 cX8_fewestAsked RX8) (hnl : G.2.2.2.2.2.2.2.2.2.2.2.2.2 = 5) {rv : Int32} {hv : HH} (E : Endd K G (some .int) (some (.int rv)) hv) {x0 : Nat} {x1 : Int32}   (kx0 : isK 8 x0) : ∀ (self9 : Int32 → Int32 → Int32 → HH → Option (Int32 × HH)), (∀ (x2 : Int32) (x3 : Int32) (x4 : Int32) (h : HH), self9 x2 x3 x4 h = some (rv, hv) → At K G 9 [(0, .ref (K.2.1 x0)), (1, .int x1), (2, .int x2), (3, .int x3), (4, .int x4)] [] h) → ∀ (x2 : Int32) (x3 : Int32) (x4 : Int32) (h : HH), fX8_fewestAsked_L9 x0 x1 self9 x2 x3 x4 h = some (rv, hv) → At K G 9 [(0, .ref (K.2.1 x0)), (1, .int x1), (2, .int x2), (3, .int x3), (4, .int x4)] [] h := by
  intro self9 Hself9 x2 x3 x4 h hf
  unfold fX8_fewestAsked_L9 at hf
  refine A_iload C dX8_fewestAsked_9 4 rfl 11 rfl ?_
  refine A_aload_n C dX8_fewestAsked_11 (i := 0) rfl 0 rfl 12 rfl ?_
  refine gfRX8_68 C kx0 dX8_fewestAsked_12 hf 15 rfl (fun kp1 hf => ?_)
  refine gfRX8_298 C kp1 dX8_fewestAsked_15 18 rfl ?_
  refine A_icmp_gt C dX8_fewestAsked_18 42 (by decide) 21 rfl hf (fun c18 hf => ?_) (fun c18 hf => ?_)
  · refine A_aload_n C dX8_fewestAsked_42 (i := 0) rfl 0 rfl 43 rfl ?_
    refine gfRX8_68 C kx0 dX8_fewestAsked_43 hf 46 rfl (fun kp2 hf => ?_)
    refine A_iload_n C dX8_fewestAsked_46 (i := 3) rfl 3 rfl 47 rfl ?_
    refine CVi C dX8_fewestAsked_47 0 kp2 (by decide) (r := (RX0, TX0, 14)) rfl rfl hf (fun _ _ e => mX0_quickOf kp2 e) lkRX8_135 (by decide) (by decide) rfl [] rfl (Nat.le_of_ble_eq_true rfl) 50 rfl (fun r47 h47 hf => ?_)
    exact A_iret C dX8_fewestAsked_50 E hf
  refine A_iload_n C dX8_fewestAsked_21 (i := 1) rfl 1 rfl 22 rfl ?_
  refine A_iload C dX8_fewestAsked_22 4 rfl 24 rfl ?_
  refine A_ishr C dX8_fewestAsked_24 25 rfl ?_
  refine A_iconst (v := 1) C dX8_fewestAsked_25 (by decide) 26 rfl ?_
  refine A_iand C dX8_fewestAsked_26 27 rfl ?_
  refine A_iconst (v := 1) C dX8_fewestAsked_27 (by decide) 28 rfl ?_
  refine A_icmp_ne C dX8_fewestAsked_28 36 (by decide) 31 rfl hf (fun c28 hf => ?_) (fun c28 hf => ?_)
  · refine A_iinc (v := (x4 + 1)) C dX8_fewestAsked_36 4 rfl rfl [(4, .int (x4 + 1)), (0, .ref (K.2.1 x0)), (1, .int x1), (2, .int x2), (3, .int x3)] (lt_nl hnl (by decide)) rfl 39 rfl ?_
    refine A_goto C dX8_fewestAsked_39 9 (by decide) ?_
    refine A_sub [1, 2, 3, 4, 0] (lv' := [(0, .ref (K.2.1 x0)), (1, .int x1), (2, .int x2), (3, .int x3), (4, .int (x4 + 1))]) rfl ?_
    exact Hself9 _ _ _ _ hf
  refine A_iload_n C dX8_fewestAsked_31 (i := 2) rfl 2 rfl 32 rfl ?_
  refine A_istore_n C dX8_fewestAsked_32 (i := 3) rfl [(3, .int x2), (0, .ref (K.2.1 x0)), (1, .int x1), (2, .int x2), (4, .int x4)] (lt_nl hnl (by decide)) rfl 33 rfl ?_
  refine A_iload C dX8_fewestAsked_33 4 rfl 35 rfl ?_
  refine A_istore_n C dX8_fewestAsked_35 (i := 2) rfl [(2, .int x4), (3, .int x2), (0, .ref (K.2.1 x0)), (1, .int x1), (4, .int x4)] (lt_nl hnl (by decide)) rfl 36 rfl ?_
  refine A_iinc (v := (x4 + 1)) C dX8_fewestAsked_36 4 rfl rfl [(4, .int (x4 + 1)), (2, .int x4), (3, .int x2), (0, .ref (K.2.1 x0)), (1, .int x1)] (lt_nl hnl (by decide)) rfl 39 rfl ?_
  refine A_goto C dX8_fewestAsked_39 9 (by decide) ?_
  refine A_sub [3, 4, 1, 2, 0] (lv' := [(0, .ref (K.2.1 x0)), (1, .int x1), (2, .int x4), (3, .int x2), (4, .int (x4 + 1))]) rfl ?_
  exact Hself9 _ _ _ _ hf
set_option maxRecDepth 20000 in
theorem mX8_fewestAsked {K : KX} {x0 : Nat} {x1 : Int32} (k0 : isK 8 x0) {h : HH} {rv : Int32} {hv : HH} (hf : fX8_fewestAsked x0 x1 h = some (rv, hv)) : MR K yX8_fewestAsked cX8_fewestAsked 5 (some .int) 2 [.ref (K.2.1 x0), .int x1] h (some (.int rv)) hv := by
  refine MR_of (by decide) (Nat.le_of_ble_eq_true rfl) (fun G C E hnl => ?_)
  have C : Ok K G 2 cX8_fewestAsked RX8 := C
  refine (show At K G 0 [(0, .ref (K.2.1 x0)), (1, .int x1)] [] h from ?_)
  unfold fX8_fewestAsked at hf
  refine A_bipush (v := (-2)) C dX8_fewestAsked_0 (by decide) 2 rfl ?_
  refine A_istore_n C dX8_fewestAsked_2 (i := 2) rfl [(2, .int (-2)), (0, .ref (K.2.1 x0)), (1, .int x1)] (lt_nl hnl (by decide)) rfl 3 rfl ?_
  refine A_bipush (v := (-2)) C dX8_fewestAsked_3 (by decide) 5 rfl ?_
  refine A_istore_n C dX8_fewestAsked_5 (i := 3) rfl [(3, .int (-2)), (2, .int (-2)), (0, .ref (K.2.1 x0)), (1, .int x1)] (lt_nl hnl (by decide)) rfl 6 rfl ?_
  refine A_iconst (v := 0) C dX8_fewestAsked_6 (by decide) 7 rfl ?_
  refine A_istore C dX8_fewestAsked_7 [(4, .int 0), (3, .int (-2)), (2, .int (-2)), (0, .ref (K.2.1 x0)), (1, .int x1)] (lt_nl hnl (by decide)) rfl 9 rfl ?_
  refine A_sub [3, 4, 2, 1, 0] (lv' := [(0, .ref (K.2.1 x0)), (1, .int x1), (2, .int (-2)), (3, .int (-2)), (4, .int 0)]) rfl ?_
  refine lq3_at (wX8_fewestAsked_L9 C hnl E k0) FU _ _ _ _ hf
set_option maxRecDepth 20000 in
theorem mX8_ask {K : KX} {x0 : Nat} (k0 : isK 8 x0) {h : HH} {rv : Int32} {hv : HH} (hf : fX8_ask x0 h = some (rv, hv)) : MR K yX8_ask cX8_ask 2 (some .int) 6 [.ref (K.2.1 x0)] h (some (.int rv)) hv := by
  refine MR_of (by decide) (Nat.le_of_ble_eq_true rfl) (fun G C E hnl => ?_)
  have C : Ok K G 6 cX8_ask RX8 := C
  refine (show At K G 0 [(0, .ref (K.2.1 x0))] [] h from ?_)
  unfold fX8_ask at hf
  refine A_aload_n C dX8_ask_0 (i := 0) rfl 0 rfl 1 rfl ?_
  refine CVi C dX8_ask_1 8 k0 (by decide) (r := (RX8, TX8, 19)) rfl rfl hf (fun _ _ e => mX8_whyNotAsk k0 e) lkRX8_284 (by decide) (by decide) rfl [] rfl (Nat.le_of_ble_eq_true rfl) 4 rfl (fun r1 h1 hf => ?_)
  refine A_istore_n C dX8_ask_4 (i := 1) rfl [(1, .int r1), (0, .ref (K.2.1 x0))] (lt_nl hnl (by decide)) rfl 5 rfl ?_
  refine A_iload_n C dX8_ask_5 (i := 1) rfl 0 rfl 6 rfl ?_
  refine A_if_eq C dX8_ask_6 17 (by decide) 9 rfl hf (fun c6 hf => ?_) (fun c6 hf => ?_)
  · refine A_aload_n C dX8_ask_17 (i := 0) rfl 1 rfl 18 rfl ?_
    refine A_aload_n C dX8_ask_18 (i := 0) rfl 1 rfl 19 rfl ?_
    refine A_aload_n C dX8_ask_19 (i := 0) rfl 1 rfl 20 rfl ?_
    refine gfRX8_68 C k0 dX8_ask_20 hf 23 rfl (fun kp1 hf => ?_)
    refine CVi C dX8_ask_23 0 kp1 (by decide) (r := (RX0, TX0, 14)) rfl rfl hf (fun _ _ e => mX0_deepOnes kp1 e) lkRX8_281 (by decide) (by decide) rfl [.ref (K.2.1 x0), .ref (K.2.1 x0)] rfl (Nat.le_of_ble_eq_true rfl) 26 rfl (fun r23 h23 hf => ?_)
    refine CVi C dX8_ask_26 8 k0 (by decide) (r := (RX8, TX8, 19)) rfl rfl hf (fun _ _ e => mX8_fewestAsked k0 e) lkRX8_287 (by decide) (by decide) rfl [.ref (K.2.1 x0)] rfl (Nat.le_of_ble_eq_true rfl) 29 rfl (fun r26 h26 hf => ?_)
    refine CVi C dX8_ask_29 8 k0 (by decide) (r := (RX8, TX8, 19)) rfl rfl hf (fun _ _ e => mX8_allow k0 e) lkRX8_125 (by decide) (by decide) rfl [] rfl (Nat.le_of_ble_eq_true rfl) 32 rfl (fun r29 h29 hf => ?_)
    exact A_iret C dX8_ask_32 E hf
  refine A_aload_n C dX8_ask_9 (i := 0) rfl 1 rfl 10 rfl ?_
  refine A_iload_n C dX8_ask_10 (i := 1) rfl 0 rfl 11 rfl ?_
  refine CVi C dX8_ask_11 8 k0 (by decide) (r := (RX8, TX8, 19)) rfl rfl hf (fun _ _ e => mX8_refuse k0 e) lkRX8_83 (by decide) (by decide) rfl [] rfl (Nat.le_of_ble_eq_true rfl) 14 rfl (fun r11 h11 hf => ?_)
  refine A_goto C dX8_ask_14 32 (by decide) ?_
  exact A_iret C dX8_ask_32 E hf
set_option maxRecDepth 20000 in
theorem wX8_mostOfOneAnswer_L23 {K : KX} {G : GX} (C : Ok K G 3 cX8_mostOfOneAnswer RX8) (hnl : G.2.2.2.2.2.2.2.2.2.2.2.2.2 = 8) {rv : Int32} {hv : HH} (E : Endd K G (some .int) (some (.int rv)) hv) {x0 : Nat} {x1 : Int32} {x2 : Int32} {x3 : Int32} {x4 : Int32} {k23_96 : Int32 → HH → Option (Int32 × HH)}  (Hk23_96 : ∀ (x5 : Int32) (h : HH), k23_96 x5 h = some (rv, hv) → At K G 96 [(0, .ref (K.2.1 x0)), (1, .int x1), (2, .int x2), (3, .int x3), (4, .int x4), (5, .int x5)] [] h) (kx0 : isK 8 x0) : ∀ (self23 : Int32 → Int32 → HH → Option (Int32 × HH)), (∀ (x5 : Int32) (x6 : Int32) (h : HH), self23 x5 x6 h = some (rv, hv) → At K G 23 [(0, .ref (K.2.1 x0)), (1, .int x1), (2, .int x2), (3, .int x3), (4, .int x4), (5, .int x5), (6, .int x6)] [] h) → ∀ (x5 : Int32) (x6 : Int32) (h : HH), fX8_mostOfOneAnswer_L23 k23_96 x0 x1 x2 x3 x4 self23 x5 x6 h = some (rv, hv) → At K G 23 [(0, .ref (K.2.1 x0)), (1, .int x1), (2, .int x2), (3, .int x3), (4, .int x4), (5, .int x5), (6, .int x6)] [] h := by
  intro self23 Hself23 x5 x6 h hf
  unfold fX8_mostOfOneAnswer_L23 at hf
  refine A_iload C dX8_mostOfOneAnswer_23 6 rfl 25 rfl ?_
  refine A_aload_n C dX8_mostOfOneAnswer_25 (i := 0) rfl 0 rfl 26 rfl ?_
  refine gfRX8_68 C kx0 dX8_mostOfOneAnswer_26 hf 29 rfl (fun kp2 hf => ?_)
  refine gfRX8_298 C kp2 dX8_mostOfOneAnswer_29 32 rfl ?_
  refine A_icmp_gt C dX8_mostOfOneAnswer_32 96 (by decide) 35 rfl hf (fun c32 hf => ?_) (fun c32 hf => ?_)
  · refine A_sub [0, 1, 2, 3, 4, 5] (lv' := [(0, .ref (K.2.1 x0)), (1, .int x1), (2, .int x2), (3, .int x3), (4, .int x4), (5, .int x5)]) rfl ?_
    exact Hk23_96 _ _ hf
  refine A_iload_n C dX8_mostOfOneAnswer_35 (i := 1) rfl 1 rfl 36 rfl ?_
  refine A_iload C dX8_mostOfOneAnswer_36 4 rfl 38 rfl ?_
  refine A_ishr C dX8_mostOfOneAnswer_38 39 rfl ?_
  refine A_iload_n C dX8_mostOfOneAnswer_39 (i := 1) rfl 1 rfl 40 rfl ?_
  refine A_iload C dX8_mostOfOneAnswer_40 6 rfl 42 rfl ?_
  refine A_ishr C dX8_mostOfOneAnswer_42 43 rfl ?_
  refine A_iand C dX8_mostOfOneAnswer_43 44 rfl ?_
  refine A_iconst (v := 1) C dX8_mostOfOneAnswer_44 (by decide) 45 rfl ?_
  refine A_iand C dX8_mostOfOneAnswer_45 46 rfl ?_
  refine A_iconst (v := 1) C dX8_mostOfOneAnswer_46 (by decide) 47 rfl ?_
  refine A_icmp_ne C dX8_mostOfOneAnswer_47 54 (by decide) 50 rfl hf (fun c47 hf => ?_) (fun c47 hf => ?_)
  · refine A_iconst (v := 0) C dX8_mostOfOneAnswer_54 (by decide) 55 rfl ?_
    refine A_istore C dX8_mostOfOneAnswer_55 [(7, .int 0), (0, .ref (K.2.1 x0)), (1, .int x1), (2, .int x2), (3, .int x3), (4, .int x4), (5, .int x5), (6, .int x6)] (lt_nl hnl (by decide)) rfl 57 rfl ?_
    refine A_iload C dX8_mostOfOneAnswer_57 0 rfl 59 rfl ?_
    refine T_if_eq C dX8_mostOfOneAnswer_59 90 (by decide) (by decide) ?_
    refine A_iinc (v := (x6 + 1)) C dX8_mostOfOneAnswer_90 7 rfl rfl [(6, .int (x6 + 1)), (7, .int 0), (0, .ref (K.2.1 x0)), (1, .int x1), (2, .int x2), (3, .int x3), (4, .int x4), (5, .int x5)] (lt_nl hnl (by decide)) rfl 93 rfl ?_
    refine A_goto C dX8_mostOfOneAnswer_93 23 (by decide) ?_
    refine A_sub [2, 3, 4, 5, 6, 7, 0] (lv' := [(0, .ref (K.2.1 x0)), (1, .int x1), (2, .int x2), (3, .int x3), (4, .int x4), (5, .int x5), (6, .int (x6 + 1))]) rfl ?_
    exact Hself23 _ _ _ hf
  refine A_iconst (v := 1) C dX8_mostOfOneAnswer_50 (by decide) 51 rfl ?_
  refine A_goto C dX8_mostOfOneAnswer_51 55 (by decide) ?_
  refine A_istore C dX8_mostOfOneAnswer_55 [(7, .int 1), (0, .ref (K.2.1 x0)), (1, .int x1), (2, .int x2), (3, .int x3), (4, .int x4), (5, .int x5), (6, .int x6)] (lt_nl hnl (by decide)) rfl 57 rfl ?_
  refine A_iload C dX8_mostOfOneAnswer_57 0 rfl 59 rfl ?_
  refine N_if_eq C dX8_mostOfOneAnswer_59 90 (by decide) (by decide) 62 rfl ?_
  refine A_aload_n C dX8_mostOfOneAnswer_62 (i := 0) rfl 1 rfl 63 rfl ?_
  refine gfRX8_68 C kx0 dX8_mostOfOneAnswer_63 hf 66 rfl (fun kp3 hf => ?_)
  refine A_iload_n C dX8_mostOfOneAnswer_66 (i := 2) rfl 3 rfl 67 rfl ?_
  refine A_iload C dX8_mostOfOneAnswer_67 5 rfl 69 rfl ?_
  refine A_iconst (v := 0) C dX8_mostOfOneAnswer_69 (by decide) 70 rfl ?_
  refine CVi C dX8_mostOfOneAnswer_70 0 kp3 (by decide) (r := (RX0, TX0, 14)) rfl rfl hf (fun _ _ e => mX0_shrunk kp3 e) lkRX8_300 (by decide) (by decide) rfl [] rfl (Nat.le_of_ble_eq_true rfl) 73 rfl (fun r70 h70 hf => ?_)
  refine A_aload_n C dX8_mostOfOneAnswer_73 (i := 0) rfl 1 rfl 74 rfl ?_
  refine gfRX8_68 C kx0 dX8_mostOfOneAnswer_74 hf 77 rfl (fun kp4 hf => ?_)
  refine A_iload_n C dX8_mostOfOneAnswer_77 (i := 2) rfl 3 rfl 78 rfl ?_
  refine A_iload C dX8_mostOfOneAnswer_78 7 rfl 80 rfl ?_
  refine A_iconst (v := 0) C dX8_mostOfOneAnswer_80 (by decide) 81 rfl ?_
  refine CVi C dX8_mostOfOneAnswer_81 0 kp4 (by decide) (r := (RX0, TX0, 14)) rfl rfl hf (fun _ _ e => mX0_shrunk kp4 e) lkRX8_300 (by decide) (by decide) rfl [.int r70] rfl (Nat.le_of_ble_eq_true rfl) 84 rfl (fun r81 h81 hf => ?_)
  refine A_icmp_ne C dX8_mostOfOneAnswer_84 90 (by decide) 87 rfl hf (fun c84 hf => ?_) (fun c84 hf => ?_)
  · refine A_iinc (v := (x6 + 1)) C dX8_mostOfOneAnswer_90 7 rfl rfl [(6, .int (x6 + 1)), (7, .int 1), (0, .ref (K.2.1 x0)), (1, .int x1), (2, .int x2), (3, .int x3), (4, .int x4), (5, .int x5)] (lt_nl hnl (by decide)) rfl 93 rfl ?_
    refine A_goto C dX8_mostOfOneAnswer_93 23 (by decide) ?_
    refine A_sub [2, 3, 4, 5, 6, 7, 0] (lv' := [(0, .ref (K.2.1 x0)), (1, .int x1), (2, .int x2), (3, .int x3), (4, .int x4), (5, .int x5), (6, .int (x6 + 1))]) rfl ?_
    exact Hself23 _ _ _ hf
  refine A_iinc (v := (x5 + 1)) C dX8_mostOfOneAnswer_87 6 rfl rfl [(5, .int (x5 + 1)), (7, .int 1), (0, .ref (K.2.1 x0)), (1, .int x1), (2, .int x2), (3, .int x3), (4, .int x4), (6, .int x6)] (lt_nl hnl (by decide)) rfl 90 rfl ?_
  refine A_iinc (v := (x6 + 1)) C dX8_mostOfOneAnswer_90 7 rfl rfl [(6, .int (x6 + 1)), (5, .int (x5 + 1)), (7, .int 1), (0, .ref (K.2.1 x0)), (1, .int x1), (2, .int x2), (3, .int x3), (4, .int x4)] (lt_nl hnl (by decide)) rfl 93 rfl ?_
  refine A_goto C dX8_mostOfOneAnswer_93 23 (by decide) ?_
  refine A_sub [3, 4, 5, 6, 7, 1, 0] (lv' := [(0, .ref (K.2.1 x0)), (1, .int x1), (2, .int x2), (3, .int x3), (4, .int x4), (5, .int (x5 + 1)), (6, .int (x6 + 1))]) rfl ?_
  exact Hself23 _ _ _ hf
set_option maxRecDepth 20000 in
theorem wX8_mostOfOneAnswer_L5 {K : KX} {G : GX} (C : Ok K G 3 cX8_mostOfOneAnswer RX8) (hnl : G.2.2.2.2.2.2.2.2.2.2.2.2.2 = 8) {rv : Int32} {hv : HH} (E : Endd K G (some .int) (some (.int rv)) hv) {x0 : Nat} {x1 : Int32} {x2 : Int32}   (kx0 : isK 8 x0) : ∀ (self5 : Int32 → Int32 → HH → Option (Int32 × HH)), (∀ (x3 : Int32) (x4 : Int32) (h : HH), self5 x3 x4 h = some (rv, hv) → At K G 5 [(0, .ref (K.2.1 x0)), (1, .int x1), (2, .int x2), (3, .int x3), (4, .int x4)] [] h) → ∀ (x3 : Int32) (x4 : Int32) (h : HH), fX8_mostOfOneAnswer_L5 x0 x1 x2 self5 x3 x4 h = some (rv, hv) → At K G 5 [(0, .ref (K.2.1 x0)), (1, .int x1), (2, .int x2), (3, .int x3), (4, .int x4)] [] h := by
  intro self5 Hself5 x3 x4 h hf
  unfold fX8_mostOfOneAnswer_L5 at hf
  refine A_iload C dX8_mostOfOneAnswer_5 4 rfl 7 rfl ?_
  refine A_aload_n C dX8_mostOfOneAnswer_7 (i := 0) rfl 0 rfl 8 rfl ?_
  refine gfRX8_68 C kx0 dX8_mostOfOneAnswer_8 hf 11 rfl (fun kp1 hf => ?_)
  refine gfRX8_298 C kp1 dX8_mostOfOneAnswer_11 14 rfl ?_
  refine A_icmp_gt C dX8_mostOfOneAnswer_14 109 (by decide) 17 rfl hf (fun c14 hf => ?_) (fun c14 hf => ?_)
  · refine A_iload_n C dX8_mostOfOneAnswer_109 (i := 3) rfl 3 rfl 110 rfl ?_
    exact A_iret C dX8_mostOfOneAnswer_110 E hf
  refine A_iconst (v := 0) C dX8_mostOfOneAnswer_17 (by decide) 18 rfl ?_
  refine A_istore C dX8_mostOfOneAnswer_18 [(5, .int 0), (0, .ref (K.2.1 x0)), (1, .int x1), (2, .int x2), (3, .int x3), (4, .int x4)] (lt_nl hnl (by decide)) rfl 20 rfl ?_
  refine A_iconst (v := 0) C dX8_mostOfOneAnswer_20 (by decide) 21 rfl ?_
  refine A_istore C dX8_mostOfOneAnswer_21 [(6, .int 0), (5, .int 0), (0, .ref (K.2.1 x0)), (1, .int x1), (2, .int x2), (3, .int x3), (4, .int x4)] (lt_nl hnl (by decide)) rfl 23 rfl ?_
  refine A_sub [2, 3, 4, 5, 6, 1, 0] (lv' := [(0, .ref (K.2.1 x0)), (1, .int x1), (2, .int x2), (3, .int x3), (4, .int x4), (5, .int 0), (6, .int 0)]) rfl ?_
  refine lq2_at (wX8_mostOfOneAnswer_L23 C hnl E (fun x5 h hf => ?_) kx0) FU _ _ _ hf
  refine A_iload_n C dX8_mostOfOneAnswer_96 (i := 3) rfl 3 rfl 97 rfl ?_
  refine A_iload C dX8_mostOfOneAnswer_97 5 rfl 99 rfl ?_
  refine A_mmax C dX8_mostOfOneAnswer_99 mlRX8_304 stmmax iniMath commax (by decide) (Nat.le_of_ble_eq_true rfl) 102 rfl ?_
  refine A_namI hf (fun y5 hf => ?_)
  refine A_istore_n C dX8_mostOfOneAnswer_102 (i := 3) rfl [(3, .int y5), (0, .ref (K.2.1 x0)), (1, .int x1), (2, .int x2), (4, .int x4), (5, .int x5)] (lt_nl hnl (by decide)) rfl 103 rfl ?_
  refine A_iinc (v := (x4 + 1)) C dX8_mostOfOneAnswer_103 4 rfl rfl [(4, .int (x4 + 1)), (3, .int y5), (0, .ref (K.2.1 x0)), (1, .int x1), (2, .int x2), (5, .int x5)] (lt_nl hnl (by decide)) rfl 106 rfl ?_
  refine A_goto C dX8_mostOfOneAnswer_106 5 (by decide) ?_
  refine A_sub [2, 3, 4, 1, 0] (lv' := [(0, .ref (K.2.1 x0)), (1, .int x1), (2, .int x2), (3, .int y5), (4, .int (x4 + 1))]) rfl ?_
  exact Hself5 _ _ _ hf
set_option maxRecDepth 20000 in
theorem mX8_mostOfOneAnswer {K : KX} {x0 : Nat} {x1 : Int32} {x2 : Int32} (k0 : isK 8 x0) {h : HH} {rv : Int32} {hv : HH} (hf : fX8_mostOfOneAnswer x0 x1 x2 h = some (rv, hv)) : MR K yX8_mostOfOneAnswer cX8_mostOfOneAnswer 8 (some .int) 3 [.ref (K.2.1 x0), .int x1, .int x2] h (some (.int rv)) hv := by
  refine MR_of (by decide) (Nat.le_of_ble_eq_true rfl) (fun G C E hnl => ?_)
  have C : Ok K G 3 cX8_mostOfOneAnswer RX8 := C
  refine (show At K G 0 [(0, .ref (K.2.1 x0)), (1, .int x1), (2, .int x2)] [] h from ?_)
  unfold fX8_mostOfOneAnswer at hf
  refine A_iconst (v := 0) C dX8_mostOfOneAnswer_0 (by decide) 1 rfl ?_
  refine A_istore_n C dX8_mostOfOneAnswer_1 (i := 3) rfl [(3, .int 0), (0, .ref (K.2.1 x0)), (1, .int x1), (2, .int x2)] (lt_nl hnl (by decide)) rfl 2 rfl ?_
  refine A_iconst (v := 0) C dX8_mostOfOneAnswer_2 (by decide) 3 rfl ?_
  refine A_istore C dX8_mostOfOneAnswer_3 [(4, .int 0), (3, .int 0), (0, .ref (K.2.1 x0)), (1, .int x1), (2, .int x2)] (lt_nl hnl (by decide)) rfl 5 rfl ?_
  refine A_sub [2, 3, 4, 1, 0] (lv' := [(0, .ref (K.2.1 x0)), (1, .int x1), (2, .int x2), (3, .int 0), (4, .int 0)]) rfl ?_
  refine lq2_at (wX8_mostOfOneAnswer_L5 C hnl E k0) FU _ _ _ hf
set_option maxRecDepth 20000 in
theorem mX8_askMost {K : KX} {x0 : Nat} (k0 : isK 8 x0) {h : HH} {rv : Int32} {hv : HH} (hf : fX8_askMost x0 h = some (rv, hv)) : MR K yX8_askMost cX8_askMost 3 (some .int) 6 [.ref (K.2.1 x0)] h (some (.int rv)) hv := by
  refine MR_of (by decide) (Nat.le_of_ble_eq_true rfl) (fun G C E hnl => ?_)
  have C : Ok K G 6 cX8_askMost RX8 := C
  refine (show At K G 0 [(0, .ref (K.2.1 x0))] [] h from ?_)
  unfold fX8_askMost at hf
  refine A_aload_n C dX8_askMost_0 (i := 0) rfl 0 rfl 1 rfl ?_
  refine CVi C dX8_askMost_1 8 k0 (by decide) (r := (RX8, TX8, 19)) rfl rfl hf (fun _ _ e => mX8_whyNotAsk k0 e) lkRX8_284 (by decide) (by decide) rfl [] rfl (Nat.le_of_ble_eq_true rfl) 4 rfl (fun r1 h1 hf => ?_)
  refine A_istore_n C dX8_askMost_4 (i := 1) rfl [(1, .int r1), (0, .ref (K.2.1 x0))] (lt_nl hnl (by decide)) rfl 5 rfl ?_
  refine A_iload_n C dX8_askMost_5 (i := 1) rfl 0 rfl 6 rfl ?_
  refine A_if_eq C dX8_askMost_6 15 (by decide) 9 rfl hf (fun c6 hf => ?_) (fun c6 hf => ?_)
  · refine A_aload_n C dX8_askMost_15 (i := 0) rfl 1 rfl 16 rfl ?_
    refine gfRX8_68 C k0 dX8_askMost_16 hf 19 rfl (fun kp1 hf => ?_)
    refine CVi C dX8_askMost_19 0 kp1 (by decide) (r := (RX0, TX0, 14)) rfl rfl hf (fun _ _ e => mX0_deepOnes kp1 e) lkRX8_281 (by decide) (by decide) rfl [] rfl (Nat.le_of_ble_eq_true rfl) 22 rfl (fun r19 h19 hf => ?_)
    refine A_istore_n C dX8_askMost_22 (i := 2) rfl [(2, .int r19), (1, .int r1), (0, .ref (K.2.1 x0))] (lt_nl hnl (by decide)) rfl 23 rfl ?_
    refine A_aload_n C dX8_askMost_23 (i := 0) rfl 2 rfl 24 rfl ?_
    refine A_aload_n C dX8_askMost_24 (i := 0) rfl 2 rfl 25 rfl ?_
    refine A_iload_n C dX8_askMost_25 (i := 2) rfl 0 rfl 26 rfl ?_
    refine A_aload_n C dX8_askMost_26 (i := 0) rfl 2 rfl 27 rfl ?_
    refine A_iload_n C dX8_askMost_27 (i := 2) rfl 0 rfl 28 rfl ?_
    refine CVi C dX8_askMost_28 8 k0 (by decide) (r := (RX8, TX8, 19)) rfl rfl hf (fun _ _ e => mX8_fewestAsked k0 e) lkRX8_287 (by decide) (by decide) rfl [.int r19, .ref (K.2.1 x0), .ref (K.2.1 x0)] rfl (Nat.le_of_ble_eq_true rfl) 31 rfl (fun r28 h28 hf => ?_)
    refine CVi C dX8_askMost_31 8 k0 (by decide) (r := (RX8, TX8, 19)) rfl rfl hf (fun _ _ e => mX8_mostOfOneAnswer k0 e) lkRX8_290 (by decide) (by decide) rfl [.ref (K.2.1 x0)] rfl (Nat.le_of_ble_eq_true rfl) 34 rfl (fun r31 h31 hf => ?_)
    refine CVi C dX8_askMost_34 8 k0 (by decide) (r := (RX8, TX8, 19)) rfl rfl hf (fun _ _ e => mX8_allow k0 e) lkRX8_125 (by decide) (by decide) rfl [] rfl (Nat.le_of_ble_eq_true rfl) 37 rfl (fun r34 h34 hf => ?_)
    exact A_iret C dX8_askMost_37 E hf
  refine A_aload_n C dX8_askMost_9 (i := 0) rfl 1 rfl 10 rfl ?_
  refine A_iload_n C dX8_askMost_10 (i := 1) rfl 0 rfl 11 rfl ?_
  refine CVi C dX8_askMost_11 8 k0 (by decide) (r := (RX8, TX8, 19)) rfl rfl hf (fun _ _ e => mX8_refuse k0 e) lkRX8_83 (by decide) (by decide) rfl [] rfl (Nat.le_of_ble_eq_true rfl) 14 rfl (fun r11 h11 hf => ?_)
  exact A_iret C dX8_askMost_14 E hf
set_option maxRecDepth 20000 in
theorem mX8_isAbove {K : KX} {x0 : Nat} {x1 : Int32} {x2 : Int32} (k0 : isK 8 x0) {h : HH} {rv : Bool} {hv : HH} (hf : fX8_isAbove x0 x1 x2 h = some (rv, hv)) : MR K yX8_isAbove cX8_isAbove 3 (some .boolean) 2 [.ref (K.2.1 x0), .int x1, .int x2] h (some (.int (b2i rv))) hv := by
  refine MR_of (by decide) (Nat.le_of_ble_eq_true rfl) (fun G C E hnl => ?_)
  have C : Ok K G 2 cX8_isAbove RX8 := C
  refine (show At K G 0 [(0, .ref (K.2.1 x0)), (1, .int x1), (2, .int x2)] [] h from ?_)
  unfold fX8_isAbove at hf
  refine A_aload_n C dX8_isAbove_0 (i := 0) rfl 0 rfl 1 rfl ?_
  refine A_iload_n C dX8_isAbove_1 (i := 1) rfl 1 rfl 2 rfl ?_
  refine CVz C dX8_isAbove_2 8 k0 (by decide) (r := (RX8, TX8, 19)) rfl rfl hf (fun _ _ e => mX8_isFloor k0 e) lkRX8_131 (by decide) (by decide) rfl [] rfl (Nat.le_of_ble_eq_true rfl) 5 rfl (fun r2 h2 hf => ?_)
  refine A_z_eq C dX8_isAbove_5 25 (by decide) 8 rfl hf (fun c5 hf => ?_) (fun c5 hf => ?_)
  · refine A_iconst (v := 0) C dX8_isAbove_25 (by decide) 26 rfl ?_
    exact A_zret (x := false) C dX8_isAbove_26 E hf
  refine A_aload_n C dX8_isAbove_8 (i := 0) rfl 0 rfl 9 rfl ?_
  refine A_iload_n C dX8_isAbove_9 (i := 2) rfl 2 rfl 10 rfl ?_
  refine CVz C dX8_isAbove_10 8 k0 (by decide) (r := (RX8, TX8, 19)) rfl rfl hf (fun _ _ e => mX8_isFloor k0 e) lkRX8_131 (by decide) (by decide) rfl [] rfl (Nat.le_of_ble_eq_true rfl) 13 rfl (fun r10 h10 hf => ?_)
  refine A_z_eq C dX8_isAbove_13 25 (by decide) 16 rfl hf (fun c13 hf => ?_) (fun c13 hf => ?_)
  · refine A_iconst (v := 0) C dX8_isAbove_25 (by decide) 26 rfl ?_
    exact A_zret (x := false) C dX8_isAbove_26 E hf
  refine A_iload_n C dX8_isAbove_16 (i := 2) rfl 2 rfl 17 rfl ?_
  refine A_iload_n C dX8_isAbove_17 (i := 1) rfl 1 rfl 18 rfl ?_
  refine A_icmp_ge C dX8_isAbove_18 25 (by decide) 21 rfl hf (fun c18 hf => ?_) (fun c18 hf => ?_)
  · refine A_iconst (v := 0) C dX8_isAbove_25 (by decide) 26 rfl ?_
    exact A_zret (x := false) C dX8_isAbove_26 E hf
  refine A_iconst (v := 1) C dX8_isAbove_21 (by decide) 22 rfl ?_
  refine A_goto C dX8_isAbove_22 26 (by decide) ?_
  exact A_zret (x := true) C dX8_isAbove_26 E hf
set_option maxRecDepth 20000 in
theorem mX8_letter {K : KX} {x0 : Nat} {x1 : Int32} {x2 : Int32} {x3 : Int32} (k0 : isK 8 x0) {h : HH} {rv : Int32} {hv : HH} (hf : fX8_letter x0 x1 x2 x3 h = some (rv, hv)) : MR K yX8_letter cX8_letter 4 (some .int) 3 [.ref (K.2.1 x0), .int x1, .int x2, .int x3] h (some (.int rv)) hv := by
  refine MR_of (by decide) (Nat.le_of_ble_eq_true rfl) (fun G C E hnl => ?_)
  have C : Ok K G 3 cX8_letter RX8 := C
  refine (show At K G 0 [(0, .ref (K.2.1 x0)), (1, .int x1), (2, .int x2), (3, .int x3)] [] h from ?_)
  unfold fX8_letter at hf
  refine A_aload_n C dX8_letter_0 (i := 0) rfl 0 rfl 1 rfl ?_
  refine A_iload_n C dX8_letter_1 (i := 1) rfl 1 rfl 2 rfl ?_
  refine A_iload_n C dX8_letter_2 (i := 2) rfl 2 rfl 3 rfl ?_
  refine CVz C dX8_letter_3 8 k0 (by decide) (r := (RX8, TX8, 19)) rfl rfl hf (fun _ _ e => mX8_isAbove k0 e) lkRX8_306 (by decide) (by decide) rfl [] rfl (Nat.le_of_ble_eq_true rfl) 6 rfl (fun r3 h3 hf => ?_)
  refine A_z_ne C dX8_letter_6 15 (by decide) 9 rfl hf (fun c6 hf => ?_) (fun c6 hf => ?_)
  · refine A_iload_n C dX8_letter_15 (i := 3) rfl 3 rfl 16 rfl ?_
    refine A_if_lt C dX8_letter_16 26 (by decide) 19 rfl hf (fun c16 hf => ?_) (fun c16 hf => ?_)
    · refine A_aload_n C dX8_letter_26 (i := 0) rfl 0 rfl 27 rfl ?_
      refine A_iconst (v := 2) C dX8_letter_27 (by decide) 28 rfl ?_
      refine CVi C dX8_letter_28 8 k0 (by decide) (r := (RX8, TX8, 19)) rfl rfl hf (fun _ _ e => mX8_refuse k0 e) lkRX8_83 (by decide) (by decide) rfl [] rfl (Nat.le_of_ble_eq_true rfl) 31 rfl (fun r28 h28 hf => ?_)
      refine A_goto C dX8_letter_31 48 (by decide) ?_
      exact A_iret C dX8_letter_48 E hf
    refine A_iload_n C dX8_letter_19 (i := 3) rfl 3 rfl 20 rfl ?_
    refine A_sipush (v := 9999) C dX8_letter_20 (by decide) 23 rfl ?_
    refine A_icmp_le C dX8_letter_23 34 (by decide) 26 rfl hf (fun c23 hf => ?_) (fun c23 hf => ?_)
    · refine A_aload_n C dX8_letter_34 (i := 0) rfl 0 rfl 35 rfl ?_
      refine A_aload_n C dX8_letter_35 (i := 0) rfl 0 rfl 36 rfl ?_
      refine gfRX8_68 C k0 dX8_letter_36 hf 39 rfl (fun kp1 hf => ?_)
      refine A_iload_n C dX8_letter_39 (i := 3) rfl 3 rfl 40 rfl ?_
      refine A_iload_n C dX8_letter_40 (i := 1) rfl 1 rfl 41 rfl ?_
      refine A_iload_n C dX8_letter_41 (i := 2) rfl 2 rfl 42 rfl ?_
      refine CVi C dX8_letter_42 0 kp1 (by decide) (r := (RX0, TX0, 14)) rfl rfl hf (fun _ _ e => mX0_shrunk kp1 e) lkRX8_300 (by decide) (by decide) rfl [.ref (K.2.1 x0)] rfl (Nat.le_of_ble_eq_true rfl) 45 rfl (fun r42 h42 hf => ?_)
      refine CVi C dX8_letter_45 8 k0 (by decide) (r := (RX8, TX8, 19)) rfl rfl hf (fun _ _ e => mX8_allow k0 e) lkRX8_125 (by decide) (by decide) rfl [] rfl (Nat.le_of_ble_eq_true rfl) 48 rfl (fun r45 h45 hf => ?_)
      exact A_iret C dX8_letter_48 E hf
    refine A_aload_n C dX8_letter_26 (i := 0) rfl 0 rfl 27 rfl ?_
    refine A_iconst (v := 2) C dX8_letter_27 (by decide) 28 rfl ?_
    refine CVi C dX8_letter_28 8 k0 (by decide) (r := (RX8, TX8, 19)) rfl rfl hf (fun _ _ e => mX8_refuse k0 e) lkRX8_83 (by decide) (by decide) rfl [] rfl (Nat.le_of_ble_eq_true rfl) 31 rfl (fun r28 h28 hf => ?_)
    refine A_goto C dX8_letter_31 48 (by decide) ?_
    exact A_iret C dX8_letter_48 E hf
  refine A_aload_n C dX8_letter_9 (i := 0) rfl 0 rfl 10 rfl ?_
  refine A_iconst (v := 1) C dX8_letter_10 (by decide) 11 rfl ?_
  refine CVi C dX8_letter_11 8 k0 (by decide) (r := (RX8, TX8, 19)) rfl rfl hf (fun _ _ e => mX8_refuse k0 e) lkRX8_83 (by decide) (by decide) rfl [] rfl (Nat.le_of_ble_eq_true rfl) 14 rfl (fun r11 h11 hf => ?_)
  exact A_iret C dX8_letter_14 E hf
set_option maxRecDepth 20000 in
theorem mX8_isVocabulary {K : KX} {x0 : Int32}  {h : HH} {rv : Bool} {hv : HH} (hf : fX8_isVocabulary x0 h = some (rv, hv)) : MR K yX8_isVocabulary cX8_isVocabulary 1 (some .boolean) 1 [.int x0] h (some (.int (b2i rv))) hv := by
  refine MR_of (by decide) (Nat.le_of_ble_eq_true rfl) (fun G C E hnl => ?_)
  have C : Ok K G 1 cX8_isVocabulary RX8 := C
  refine (show At K G 0 [(0, .int x0)] [] h from ?_)
  unfold fX8_isVocabulary at hf
  refine A_iload_n C dX8_isVocabulary_0 (i := 0) rfl 0 rfl 1 rfl ?_
  refine A_iconst (v := 2) C dX8_isVocabulary_1 (by decide) 2 rfl ?_
  refine A_icmp_lt C dX8_isVocabulary_2 15 (by decide) 5 rfl hf (fun c2 hf => ?_) (fun c2 hf => ?_)
  · refine A_iconst (v := 0) C dX8_isVocabulary_15 (by decide) 16 rfl ?_
    exact A_zret (x := false) C dX8_isVocabulary_16 E hf
  refine A_iload_n C dX8_isVocabulary_5 (i := 0) rfl 0 rfl 6 rfl ?_
  refine A_bipush (v := 26) C dX8_isVocabulary_6 (by decide) 8 rfl ?_
  refine A_icmp_gt C dX8_isVocabulary_8 15 (by decide) 11 rfl hf (fun c8 hf => ?_) (fun c8 hf => ?_)
  · refine A_iconst (v := 0) C dX8_isVocabulary_15 (by decide) 16 rfl ?_
    exact A_zret (x := false) C dX8_isVocabulary_16 E hf
  refine A_iconst (v := 1) C dX8_isVocabulary_11 (by decide) 12 rfl ?_
  refine A_goto C dX8_isVocabulary_12 16 (by decide) ?_
  exact A_zret (x := true) C dX8_isVocabulary_16 E hf
set_option maxRecDepth 20000 in
theorem wX8_tells_L58 {K : KX} {G : GX} (C : Ok K G 3 cX8_tells RX8) (hnl : G.2.2.2.2.2.2.2.2.2.2.2.2.2 = 9) {rv : Int32} {hv : HH} (E : Endd K G (some .int) (some (.int rv)) hv) {x0 : Nat} {x4 : Int32} {x5 : Int32}   (kx0 : isK 8 x0) : ∀ (self58 : Int64 → Int32 → HH → Option (Int32 × HH)), (∀ (x6 : Int64) (x8 : Int32) (h : HH), self58 x6 x8 h = some (rv, hv) → At K G 58 [(0, .ref (K.2.1 x0)), (4, .int x4), (5, .int x5), (6, .long x6), (8, .int x8)] [] h) → ∀ (x6 : Int64) (x8 : Int32) (h : HH), fX8_tells_L58 x0 x4 x5 self58 x6 x8 h = some (rv, hv) → At K G 58 [(0, .ref (K.2.1 x0)), (4, .int x4), (5, .int x5), (6, .long x6), (8, .int x8)] [] h := by
  intro self58 Hself58 x6 x8 h hf
  unfold fX8_tells_L58 at hf
  refine A_iload C dX8_tells_58 4 rfl 60 rfl ?_
  refine A_iload C dX8_tells_60 2 rfl 62 rfl ?_
  refine A_icmp_ge C dX8_tells_62 88 (by decide) 65 rfl hf (fun c62 hf => ?_) (fun c62 hf => ?_)
  · refine A_aload_n C dX8_tells_88 (i := 0) rfl 0 rfl 89 rfl ?_
    refine A_lload C dX8_tells_89 3 rfl 91 rfl ?_
    refine A_ldc2 C dX8_tells_91 cRX8_312 94 rfl ?_
    refine A_mminl C dX8_tells_94 mlRX8_314 stmminl iniMath comminl (by decide) (Nat.le_of_ble_eq_true rfl) 97 rfl ?_
    refine A_l2i C dX8_tells_97 98 rfl ?_
    refine CVi C dX8_tells_98 8 kx0 (by decide) (r := (RX8, TX8, 19)) rfl rfl hf (fun _ _ e => mX8_allow kx0 e) lkRX8_125 (by decide) (by decide) rfl [] rfl (Nat.le_of_ble_eq_true rfl) 101 rfl (fun r98 h98 hf => ?_)
    exact A_iret C dX8_tells_101 E hf
  refine A_lload C dX8_tells_65 3 rfl 67 rfl ?_
  refine A_ldc2 C dX8_tells_67 cRX8_312 70 rfl ?_
  refine A_l_ge C dX8_tells_70 dX8_tells_71 88 (by decide) 74 rfl hf (fun c70 hf => ?_) (fun c70 hf => ?_)
  · refine A_aload_n C dX8_tells_88 (i := 0) rfl 0 rfl 89 rfl ?_
    refine A_lload C dX8_tells_89 3 rfl 91 rfl ?_
    refine A_ldc2 C dX8_tells_91 cRX8_312 94 rfl ?_
    refine A_mminl C dX8_tells_94 mlRX8_314 stmminl iniMath comminl (by decide) (Nat.le_of_ble_eq_true rfl) 97 rfl ?_
    refine A_l2i C dX8_tells_97 98 rfl ?_
    refine CVi C dX8_tells_98 8 kx0 (by decide) (r := (RX8, TX8, 19)) rfl rfl hf (fun _ _ e => mX8_allow kx0 e) lkRX8_125 (by decide) (by decide) rfl [] rfl (Nat.le_of_ble_eq_true rfl) 101 rfl (fun r98 h98 hf => ?_)
    exact A_iret C dX8_tells_101 E hf
  refine A_lload C dX8_tells_74 3 rfl 76 rfl ?_
  refine A_iload C dX8_tells_76 1 rfl 78 rfl ?_
  refine A_i2l C dX8_tells_78 79 rfl ?_
  refine A_lmul C dX8_tells_79 80 rfl ?_
  refine A_namL hf (fun y2 hf => ?_)
  refine A_lstore C dX8_tells_80 [(6, .long y2), (0, .ref (K.2.1 x0)), (4, .int x4), (5, .int x5), (8, .int x8)] (lt_nl hnl (by decide)) rfl 82 rfl ?_
  refine A_iinc (v := (x8 + 1)) C dX8_tells_82 4 rfl rfl [(8, .int (x8 + 1)), (6, .long y2), (0, .ref (K.2.1 x0)), (4, .int x4), (5, .int x5)] (lt_nl hnl (by decide)) rfl 85 rfl ?_
  refine A_goto C dX8_tells_85 58 (by decide) ?_
  refine A_sub [2, 3, 4, 1, 0] (lv' := [(0, .ref (K.2.1 x0)), (4, .int x4), (5, .int x5), (6, .long y2), (8, .int (x8 + 1))]) rfl ?_
  exact Hself58 _ _ _ hf
set_option maxRecDepth 20000 in
theorem mX8_tells {K : KX} {x0 : Nat} {x1 : Int32} {x2 : Int32} {x3 : Int32} {x4 : Int32} (k0 : isK 8 x0) {h : HH} {rv : Int32} {hv : HH} (hf : fX8_tells x0 x1 x2 x3 x4 h = some (rv, hv)) : MR K yX8_tells cX8_tells 9 (some .int) 3 [.ref (K.2.1 x0), .int x1, .int x2, .int x3, .int x4] h (some (.int rv)) hv := by
  refine MR_of (by decide) (Nat.le_of_ble_eq_true rfl) (fun G C E hnl => ?_)
  have C : Ok K G 3 cX8_tells RX8 := C
  refine (show At K G 0 [(0, .ref (K.2.1 x0)), (1, .int x1), (2, .int x2), (3, .int x3), (4, .int x4)] [] h from ?_)
  unfold fX8_tells at hf
  refine A_aload_n C dX8_tells_0 (i := 0) rfl 0 rfl 1 rfl ?_
  refine A_iload_n C dX8_tells_1 (i := 1) rfl 1 rfl 2 rfl ?_
  refine A_iload_n C dX8_tells_2 (i := 2) rfl 2 rfl 3 rfl ?_
  refine CVz C dX8_tells_3 8 k0 (by decide) (r := (RX8, TX8, 19)) rfl rfl hf (fun _ _ e => mX8_isAbove k0 e) lkRX8_306 (by decide) (by decide) rfl [] rfl (Nat.le_of_ble_eq_true rfl) 6 rfl (fun r3 h3 hf => ?_)
  refine A_z_ne C dX8_tells_6 15 (by decide) 9 rfl hf (fun c6 hf => ?_) (fun c6 hf => ?_)
  · refine A_iload_n C dX8_tells_15 (i := 3) rfl 3 rfl 16 rfl ?_
    refine A_if_lt C dX8_tells_16 34 (by decide) 19 rfl hf (fun c16 hf => ?_) (fun c16 hf => ?_)
    · refine A_aload_n C dX8_tells_34 (i := 0) rfl 0 rfl 35 rfl ?_
      refine A_iconst (v := 2) C dX8_tells_35 (by decide) 36 rfl ?_
      refine CVi C dX8_tells_36 8 k0 (by decide) (r := (RX8, TX8, 19)) rfl rfl hf (fun _ _ e => mX8_refuse k0 e) lkRX8_83 (by decide) (by decide) rfl [] rfl (Nat.le_of_ble_eq_true rfl) 39 rfl (fun r36 h36 hf => ?_)
      exact A_iret C dX8_tells_39 E hf
    refine A_iload_n C dX8_tells_19 (i := 3) rfl 3 rfl 20 rfl ?_
    refine A_sipush (v := 9999) C dX8_tells_20 (by decide) 23 rfl ?_
    refine A_icmp_gt C dX8_tells_23 34 (by decide) 26 rfl hf (fun c23 hf => ?_) (fun c23 hf => ?_)
    · refine A_aload_n C dX8_tells_34 (i := 0) rfl 0 rfl 35 rfl ?_
      refine A_iconst (v := 2) C dX8_tells_35 (by decide) 36 rfl ?_
      refine CVi C dX8_tells_36 8 k0 (by decide) (r := (RX8, TX8, 19)) rfl rfl hf (fun _ _ e => mX8_refuse k0 e) lkRX8_83 (by decide) (by decide) rfl [] rfl (Nat.le_of_ble_eq_true rfl) 39 rfl (fun r36 h36 hf => ?_)
      exact A_iret C dX8_tells_39 E hf
    refine A_iload C dX8_tells_26 4 rfl 28 rfl ?_
    refine CSz C dX8_tells_28 hf (fun _ _ e => mX8_isVocabulary  e) lkRX8_309 (by decide) (by decide) rfl [] rfl (Nat.le_of_ble_eq_true rfl) 31 rfl (fun r28 h28 hf => ?_)
    refine A_z_ne C dX8_tells_31 40 (by decide) 34 rfl hf (fun c31 hf => ?_) (fun c31 hf => ?_)
    · refine A_aload_n C dX8_tells_40 (i := 0) rfl 0 rfl 41 rfl ?_
      refine gfRX8_68 C k0 dX8_tells_41 hf 44 rfl (fun kp1 hf => ?_)
      refine A_iload_n C dX8_tells_44 (i := 3) rfl 3 rfl 45 rfl ?_
      refine A_iload_n C dX8_tells_45 (i := 1) rfl 1 rfl 46 rfl ?_
      refine A_iload_n C dX8_tells_46 (i := 2) rfl 2 rfl 47 rfl ?_
      refine CVi C dX8_tells_47 0 kp1 (by decide) (r := (RX0, TX0, 14)) rfl rfl hf (fun _ _ e => mX0_shrunk kp1 e) lkRX8_300 (by decide) (by decide) rfl [] rfl (Nat.le_of_ble_eq_true rfl) 50 rfl (fun r47 h47 hf => ?_)
      refine A_istore C dX8_tells_50 [(5, .int r47), (0, .ref (K.2.1 x0)), (1, .int x1), (2, .int x2), (3, .int x3), (4, .int x4)] (lt_nl hnl (by decide)) rfl 52 rfl ?_
      refine A_lconst (v := 1) C dX8_tells_52 (by decide) 53 rfl ?_
      refine A_lstore C dX8_tells_53 [(6, .long 1), (5, .int r47), (0, .ref (K.2.1 x0)), (1, .int x1), (2, .int x2), (3, .int x3), (4, .int x4)] (lt_nl hnl (by decide)) rfl 55 rfl ?_
      refine A_iconst (v := 0) C dX8_tells_55 (by decide) 56 rfl ?_
      refine A_istore C dX8_tells_56 [(8, .int 0), (6, .long 1), (5, .int r47), (0, .ref (K.2.1 x0)), (1, .int x1), (2, .int x2), (3, .int x3), (4, .int x4)] (lt_nl hnl (by decide)) rfl 58 rfl ?_
      refine A_sub [3, 7, 2, 1, 0] (lv' := [(0, .ref (K.2.1 x0)), (4, .int x4), (5, .int r47), (6, .long 1), (8, .int 0)]) rfl ?_
      refine lq2_at (wX8_tells_L58 C hnl E k0) FU _ _ _ hf
    refine A_aload_n C dX8_tells_34 (i := 0) rfl 0 rfl 35 rfl ?_
    refine A_iconst (v := 2) C dX8_tells_35 (by decide) 36 rfl ?_
    refine CVi C dX8_tells_36 8 k0 (by decide) (r := (RX8, TX8, 19)) rfl rfl hf (fun _ _ e => mX8_refuse k0 e) lkRX8_83 (by decide) (by decide) rfl [] rfl (Nat.le_of_ble_eq_true rfl) 39 rfl (fun r36 h36 hf => ?_)
    exact A_iret C dX8_tells_39 E hf
  refine A_aload_n C dX8_tells_9 (i := 0) rfl 0 rfl 10 rfl ?_
  refine A_iconst (v := 1) C dX8_tells_10 (by decide) 11 rfl ?_
  refine CVi C dX8_tells_11 8 k0 (by decide) (r := (RX8, TX8, 19)) rfl rfl hf (fun _ _ e => mX8_refuse k0 e) lkRX8_83 (by decide) (by decide) rfl [] rfl (Nat.le_of_ble_eq_true rfl) 14 rfl (fun r11 h11 hf => ?_)
  exact A_iret C dX8_tells_14 E hf
set_option maxRecDepth 20000 in
theorem wX8_words_L49 {K : KX} {G : GX} (C : Ok K G 3 cX8_words RX8) (hnl : G.2.2.2.2.2.2.2.2.2.2.2.2.2 = 9) {rv : Int64} {hv : HH} (E : Endd K G (some .long) (some (.long rv)) hv) {x0 : Nat} {x1 : Int32} {x2 : Int32} {x3 : Int32} {x4 : Int32}   (kx0 : isK 8 x0) : ∀ (self49 : Int64 → Int64 → HH → Option (Int64 × HH)), (∀ (x5 : Int64) (x7 : Int64) (h : HH), self49 x5 x7 h = some (rv, hv) → At K G 49 [(0, .ref (K.2.1 x0)), (1, .int x1), (2, .int x2), (3, .int x3), (4, .int x4), (5, .long x5), (7, .long x7)] [] h) → ∀ (x5 : Int64) (x7 : Int64) (h : HH), fX8_words_L49 x0 x1 x2 x3 x4 self49 x5 x7 h = some (rv, hv) → At K G 49 [(0, .ref (K.2.1 x0)), (1, .int x1), (2, .int x2), (3, .int x3), (4, .int x4), (5, .long x5), (7, .long x7)] [] h := by
  intro self49 Hself49 x5 x7 h hf
  unfold fX8_words_L49 at hf
  refine A_lload C dX8_words_49 6 rfl 51 rfl ?_
  refine A_iload_n C dX8_words_51 (i := 3) rfl 3 rfl 52 rfl ?_
  refine A_i2l C dX8_words_52 53 rfl ?_
  refine A_l_ge C dX8_words_53 dX8_words_54 83 (by decide) 57 rfl hf (fun c53 hf => ?_) (fun c53 hf => ?_)
  · refine A_aload_n C dX8_words_83 (i := 0) rfl 0 rfl 84 rfl ?_
    refine A_lload C dX8_words_84 5 rfl 86 rfl ?_
    refine A_aload_n C dX8_words_86 (i := 0) rfl 0 rfl 87 rfl ?_
    refine gfRX8_68 C kx0 dX8_words_87 hf 90 rfl (fun kp1 hf => ?_)
    refine A_iload_n C dX8_words_90 (i := 2) rfl 2 rfl 91 rfl ?_
    refine A_iload_n C dX8_words_91 (i := 1) rfl 1 rfl 92 rfl ?_
    refine CVi C dX8_words_92 0 kp1 (by decide) (r := (RX0, TX0, 14)) rfl rfl hf (fun _ _ e => mX0_ratio kp1 e) lkRX8_318 (by decide) (by decide) rfl [.long x5, .ref (K.2.1 x0)] rfl (Nat.le_of_ble_eq_true rfl) 95 rfl (fun r92 h92 hf => ?_)
    refine A_i2l C dX8_words_95 96 rfl ?_
    refine A_lmul C dX8_words_96 97 rfl ?_
    refine CVl C dX8_words_97 8 kx0 (by decide) (r := (RX8, TX8, 19)) rfl rfl hf (fun _ _ e => mX8_allow_ kx0 e) lkRX8_142 (by decide) (by decide) rfl [] rfl (Nat.le_of_ble_eq_true rfl) 100 rfl (fun r97 h97 hf => ?_)
    exact A_lret C dX8_words_100 E hf
  refine A_lload C dX8_words_57 5 rfl 59 rfl ?_
  refine A_ldc2 C dX8_words_59 cRX8_312 62 rfl ?_
  refine A_l_ge C dX8_words_62 dX8_words_63 83 (by decide) 66 rfl hf (fun c62 hf => ?_) (fun c62 hf => ?_)
  · refine A_aload_n C dX8_words_83 (i := 0) rfl 0 rfl 84 rfl ?_
    refine A_lload C dX8_words_84 5 rfl 86 rfl ?_
    refine A_aload_n C dX8_words_86 (i := 0) rfl 0 rfl 87 rfl ?_
    refine gfRX8_68 C kx0 dX8_words_87 hf 90 rfl (fun kp2 hf => ?_)
    refine A_iload_n C dX8_words_90 (i := 2) rfl 2 rfl 91 rfl ?_
    refine A_iload_n C dX8_words_91 (i := 1) rfl 1 rfl 92 rfl ?_
    refine CVi C dX8_words_92 0 kp2 (by decide) (r := (RX0, TX0, 14)) rfl rfl hf (fun _ _ e => mX0_ratio kp2 e) lkRX8_318 (by decide) (by decide) rfl [.long x5, .ref (K.2.1 x0)] rfl (Nat.le_of_ble_eq_true rfl) 95 rfl (fun r92 h92 hf => ?_)
    refine A_i2l C dX8_words_95 96 rfl ?_
    refine A_lmul C dX8_words_96 97 rfl ?_
    refine CVl C dX8_words_97 8 kx0 (by decide) (r := (RX8, TX8, 19)) rfl rfl hf (fun _ _ e => mX8_allow_ kx0 e) lkRX8_142 (by decide) (by decide) rfl [] rfl (Nat.le_of_ble_eq_true rfl) 100 rfl (fun r97 h97 hf => ?_)
    exact A_lret C dX8_words_100 E hf
  refine A_lload C dX8_words_66 5 rfl 68 rfl ?_
  refine A_lconst (v := 1) C dX8_words_68 (by decide) 69 rfl ?_
  refine A_ladd C dX8_words_69 70 rfl ?_
  refine A_namL hf (fun y3 hf => ?_)
  refine A_lstore C dX8_words_70 [(5, .long y3), (0, .ref (K.2.1 x0)), (1, .int x1), (2, .int x2), (3, .int x3), (4, .int x4), (7, .long x7)] (lt_nl hnl (by decide)) rfl 72 rfl ?_
  refine A_lload C dX8_words_72 6 rfl 74 rfl ?_
  refine A_iload C dX8_words_74 5 rfl 76 rfl ?_
  refine A_i2l C dX8_words_76 77 rfl ?_
  refine A_lmul C dX8_words_77 78 rfl ?_
  refine A_namL hf (fun y4 hf => ?_)
  refine A_lstore C dX8_words_78 [(7, .long y4), (5, .long y3), (0, .ref (K.2.1 x0)), (1, .int x1), (2, .int x2), (3, .int x3), (4, .int x4)] (lt_nl hnl (by decide)) rfl 80 rfl ?_
  refine A_goto C dX8_words_80 49 (by decide) ?_
  refine A_sub [2, 3, 4, 5, 6, 1, 0] (lv' := [(0, .ref (K.2.1 x0)), (1, .int x1), (2, .int x2), (3, .int x3), (4, .int x4), (5, .long y3), (7, .long y4)]) rfl ?_
  exact Hself49 _ _ _ hf
set_option maxRecDepth 20000 in
theorem mX8_words {K : KX} {x0 : Nat} {x1 : Int32} {x2 : Int32} {x3 : Int32} {x4 : Int32} (k0 : isK 8 x0) {h : HH} {rv : Int64} {hv : HH} (hf : fX8_words x0 x1 x2 x3 x4 h = some (rv, hv)) : MR K yX8_words cX8_words 9 (some .long) 3 [.ref (K.2.1 x0), .int x1, .int x2, .int x3, .int x4] h (some (.long rv)) hv := by
  refine MR_of (by decide) (Nat.le_of_ble_eq_true rfl) (fun G C E hnl => ?_)
  have C : Ok K G 3 cX8_words RX8 := C
  refine (show At K G 0 [(0, .ref (K.2.1 x0)), (1, .int x1), (2, .int x2), (3, .int x3), (4, .int x4)] [] h from ?_)
  unfold fX8_words at hf
  refine A_aload_n C dX8_words_0 (i := 0) rfl 0 rfl 1 rfl ?_
  refine A_iload_n C dX8_words_1 (i := 1) rfl 1 rfl 2 rfl ?_
  refine A_iload_n C dX8_words_2 (i := 2) rfl 2 rfl 3 rfl ?_
  refine CVz C dX8_words_3 8 k0 (by decide) (r := (RX8, TX8, 19)) rfl rfl hf (fun _ _ e => mX8_isAbove k0 e) lkRX8_306 (by decide) (by decide) rfl [] rfl (Nat.le_of_ble_eq_true rfl) 6 rfl (fun r3 h3 hf => ?_)
  refine A_z_ne C dX8_words_6 16 (by decide) 9 rfl hf (fun c6 hf => ?_) (fun c6 hf => ?_)
  · refine A_iload_n C dX8_words_16 (i := 3) rfl 3 rfl 17 rfl ?_
    refine A_iconst (v := 1) C dX8_words_17 (by decide) 18 rfl ?_
    refine A_icmp_lt C dX8_words_18 36 (by decide) 21 rfl hf (fun c18 hf => ?_) (fun c18 hf => ?_)
    · refine A_aload_n C dX8_words_36 (i := 0) rfl 0 rfl 37 rfl ?_
      refine A_iconst (v := 2) C dX8_words_37 (by decide) 38 rfl ?_
      refine CVi C dX8_words_38 8 k0 (by decide) (r := (RX8, TX8, 19)) rfl rfl hf (fun _ _ e => mX8_refuse k0 e) lkRX8_83 (by decide) (by decide) rfl [] rfl (Nat.le_of_ble_eq_true rfl) 41 rfl (fun r38 h38 hf => ?_)
      refine A_i2l C dX8_words_41 42 rfl ?_
      exact A_lret C dX8_words_42 E hf
    refine A_iload_n C dX8_words_21 (i := 3) rfl 3 rfl 22 rfl ?_
    refine A_ldcw C dX8_words_22 cRX8_317 25 rfl ?_
    refine A_icmp_gt C dX8_words_25 36 (by decide) 28 rfl hf (fun c25 hf => ?_) (fun c25 hf => ?_)
    · refine A_aload_n C dX8_words_36 (i := 0) rfl 0 rfl 37 rfl ?_
      refine A_iconst (v := 2) C dX8_words_37 (by decide) 38 rfl ?_
      refine CVi C dX8_words_38 8 k0 (by decide) (r := (RX8, TX8, 19)) rfl rfl hf (fun _ _ e => mX8_refuse k0 e) lkRX8_83 (by decide) (by decide) rfl [] rfl (Nat.le_of_ble_eq_true rfl) 41 rfl (fun r38 h38 hf => ?_)
      refine A_i2l C dX8_words_41 42 rfl ?_
      exact A_lret C dX8_words_42 E hf
    refine A_iload C dX8_words_28 4 rfl 30 rfl ?_
    refine CSz C dX8_words_30 hf (fun _ _ e => mX8_isVocabulary  e) lkRX8_309 (by decide) (by decide) rfl [] rfl (Nat.le_of_ble_eq_true rfl) 33 rfl (fun r30 h30 hf => ?_)
    refine A_z_ne C dX8_words_33 43 (by decide) 36 rfl hf (fun c33 hf => ?_) (fun c33 hf => ?_)
    · refine A_lconst (v := 0) C dX8_words_43 (by decide) 44 rfl ?_
      refine A_lstore C dX8_words_44 [(5, .long 0), (0, .ref (K.2.1 x0)), (1, .int x1), (2, .int x2), (3, .int x3), (4, .int x4)] (lt_nl hnl (by decide)) rfl 46 rfl ?_
      refine A_lconst (v := 1) C dX8_words_46 (by decide) 47 rfl ?_
      refine A_lstore C dX8_words_47 [(7, .long 1), (5, .long 0), (0, .ref (K.2.1 x0)), (1, .int x1), (2, .int x2), (3, .int x3), (4, .int x4)] (lt_nl hnl (by decide)) rfl 49 rfl ?_
      refine A_sub [2, 3, 4, 5, 6, 1, 0] (lv' := [(0, .ref (K.2.1 x0)), (1, .int x1), (2, .int x2), (3, .int x3), (4, .int x4), (5, .long 0), (7, .long 1)]) rfl ?_
      refine lq2_at (wX8_words_L49 C hnl E k0) FU _ _ _ hf
    refine A_aload_n C dX8_words_36 (i := 0) rfl 0 rfl 37 rfl ?_
    refine A_iconst (v := 2) C dX8_words_37 (by decide) 38 rfl ?_
    refine CVi C dX8_words_38 8 k0 (by decide) (r := (RX8, TX8, 19)) rfl rfl hf (fun _ _ e => mX8_refuse k0 e) lkRX8_83 (by decide) (by decide) rfl [] rfl (Nat.le_of_ble_eq_true rfl) 41 rfl (fun r38 h38 hf => ?_)
    refine A_i2l C dX8_words_41 42 rfl ?_
    exact A_lret C dX8_words_42 E hf
  refine A_aload_n C dX8_words_9 (i := 0) rfl 0 rfl 10 rfl ?_
  refine A_iconst (v := 1) C dX8_words_10 (by decide) 11 rfl ?_
  refine CVi C dX8_words_11 8 k0 (by decide) (r := (RX8, TX8, 19)) rfl rfl hf (fun _ _ e => mX8_refuse k0 e) lkRX8_83 (by decide) (by decide) rfl [] rfl (Nat.le_of_ble_eq_true rfl) 14 rfl (fun r11 h11 hf => ?_)
  refine A_i2l C dX8_words_14 15 rfl ?_
  exact A_lret C dX8_words_15 E hf
set_option maxRecDepth 20000 in
theorem mX8_isDreamFloor {K : KX} {x0 : Nat} {x1 : Int32} (k0 : isK 8 x0) {h : HH} {rv : Bool} {hv : HH} (hf : fX8_isDreamFloor x0 x1 h = some (rv, hv)) : MR K yX8_isDreamFloor cX8_isDreamFloor 2 (some .boolean) 2 [.ref (K.2.1 x0), .int x1] h (some (.int (b2i rv))) hv := by
  refine MR_of (by decide) (Nat.le_of_ble_eq_true rfl) (fun G C E hnl => ?_)
  have C : Ok K G 2 cX8_isDreamFloor RX8 := C
  refine (show At K G 0 [(0, .ref (K.2.1 x0)), (1, .int x1)] [] h from ?_)
  unfold fX8_isDreamFloor at hf
  refine A_aload_n C dX8_isDreamFloor_0 (i := 0) rfl 0 rfl 1 rfl ?_
  refine A_iload_n C dX8_isDreamFloor_1 (i := 1) rfl 1 rfl 2 rfl ?_
  refine CVz C dX8_isDreamFloor_2 8 k0 (by decide) (r := (RX8, TX8, 19)) rfl rfl hf (fun _ _ e => mX8_isFloor k0 e) lkRX8_131 (by decide) (by decide) rfl [] rfl (Nat.le_of_ble_eq_true rfl) 5 rfl (fun r2 h2 hf => ?_)
  refine A_z_eq C dX8_isDreamFloor_5 16 (by decide) 8 rfl hf (fun c5 hf => ?_) (fun c5 hf => ?_)
  · refine A_iconst (v := 0) C dX8_isDreamFloor_16 (by decide) 17 rfl ?_
    exact A_zret (x := false) C dX8_isDreamFloor_17 E hf
  refine A_iload_n C dX8_isDreamFloor_8 (i := 1) rfl 1 rfl 9 rfl ?_
  refine A_if_le C dX8_isDreamFloor_9 16 (by decide) 12 rfl hf (fun c9 hf => ?_) (fun c9 hf => ?_)
  · refine A_iconst (v := 0) C dX8_isDreamFloor_16 (by decide) 17 rfl ?_
    exact A_zret (x := false) C dX8_isDreamFloor_17 E hf
  refine A_iconst (v := 1) C dX8_isDreamFloor_12 (by decide) 13 rfl ?_
  refine A_goto C dX8_isDreamFloor_13 17 (by decide) ?_
  exact A_zret (x := true) C dX8_isDreamFloor_17 E hf
set_option maxRecDepth 20000 in
theorem mX8_ticksTo {K : KX} {x0 : Nat} {x1 : Int32} {x2 : Int32} {x3 : Int32} (k0 : isK 8 x0) {h : HH} {rv : Int64} {hv : HH} (hf : fX8_ticksTo x0 x1 x2 x3 h = some (rv, hv)) : MR K yX8_ticksTo cX8_ticksTo 4 (some .long) 4 [.ref (K.2.1 x0), .int x1, .int x2, .int x3] h (some (.long rv)) hv := by
  refine MR_of (by decide) (Nat.le_of_ble_eq_true rfl) (fun G C E hnl => ?_)
  have C : Ok K G 4 cX8_ticksTo RX8 := C
  refine (show At K G 0 [(0, .ref (K.2.1 x0)), (1, .int x1), (2, .int x2), (3, .int x3)] [] h from ?_)
  unfold fX8_ticksTo at hf
  refine A_aload_n C dX8_ticksTo_0 (i := 0) rfl 0 rfl 1 rfl ?_
  refine gfRX8_68 C k0 dX8_ticksTo_1 hf 4 rfl (fun kp1 hf => ?_)
  refine A_aload_n C dX8_ticksTo_4 (i := 0) rfl 0 rfl 5 rfl ?_
  refine gfRX8_23 C k0 dX8_ticksTo_5 8 rfl ?_
  refine gfRX8_167 C (of_8_2 k0) dX8_ticksTo_8 11 rfl ?_
  refine A_iload_n C dX8_ticksTo_11 (i := 1) rfl 1 rfl 12 rfl ?_
  refine A_iald C dX8_ticksTo_12 (of_2_1 (of_8_2 k0)) hf 13 rfl (fun hf => ?_)
  refine A_iload_n C dX8_ticksTo_13 (i := 3) rfl 3 rfl 14 rfl ?_
  refine A_icmp_ne C dX8_ticksTo_14 29 (by decide) 17 rfl hf (fun c14 hf => ?_) (fun c14 hf => ?_)
  · refine A_iconst (v := 0) C dX8_ticksTo_29 (by decide) 30 rfl ?_
    refine A_iload_n C dX8_ticksTo_30 (i := 2) rfl 2 rfl 31 rfl ?_
    refine CVl C dX8_ticksTo_31 0 kp1 (by decide) (r := (RX0, TX0, 14)) rfl rfl hf (fun _ _ e => mX0_falling kp1 e) lkRX8_336 (by decide) (by decide) rfl [] rfl (Nat.le_of_ble_eq_true rfl) 34 rfl (fun r31 h31 hf => ?_)
    exact A_lret C dX8_ticksTo_34 E hf
  refine A_aload_n C dX8_ticksTo_17 (i := 0) rfl 0 rfl 18 rfl ?_
  refine gfRX8_23 C k0 dX8_ticksTo_18 21 rfl ?_
  refine gfRX8_163 C (of_8_2 k0) dX8_ticksTo_21 24 rfl ?_
  refine A_iload_n C dX8_ticksTo_24 (i := 1) rfl 1 rfl 25 rfl ?_
  refine A_iald C dX8_ticksTo_25 (of_2_0 (of_8_2 k0)) hf 26 rfl (fun hf => ?_)
  refine A_goto C dX8_ticksTo_26 30 (by decide) ?_
  refine A_iload_n C dX8_ticksTo_30 (i := 2) rfl 2 rfl 31 rfl ?_
  refine CVl C dX8_ticksTo_31 0 kp1 (by decide) (r := (RX0, TX0, 14)) rfl rfl hf (fun _ _ e => mX0_falling kp1 e) lkRX8_336 (by decide) (by decide) rfl [] rfl (Nat.le_of_ble_eq_true rfl) 34 rfl (fun r31 h31 hf => ?_)
  exact A_lret C dX8_ticksTo_34 E hf
set_option maxRecDepth 20000 in
theorem mX8_laterOfBoth {K : KX} {x0 : Nat} {x1 : Int32} {x2 : Int32} {x3 : Int32} {x4 : Int32} (k0 : isK 8 x0) {h : HH} {rv : Int64} {hv : HH} (hf : fX8_laterOfBoth x0 x1 x2 x3 x4 h = some (rv, hv)) : MR K yX8_laterOfBoth cX8_laterOfBoth 5 (some .long) 5 [.ref (K.2.1 x0), .int x1, .int x2, .int x3, .int x4] h (some (.long rv)) hv := by
  refine MR_of (by decide) (Nat.le_of_ble_eq_true rfl) (fun G C E hnl => ?_)
  have C : Ok K G 5 cX8_laterOfBoth RX8 := C
  refine (show At K G 0 [(0, .ref (K.2.1 x0)), (1, .int x1), (2, .int x2), (3, .int x3), (4, .int x4)] [] h from ?_)
  unfold fX8_laterOfBoth at hf
  refine A_aload_n C dX8_laterOfBoth_0 (i := 0) rfl 0 rfl 1 rfl ?_
  refine A_iload_n C dX8_laterOfBoth_1 (i := 1) rfl 1 rfl 2 rfl ?_
  refine A_iload_n C dX8_laterOfBoth_2 (i := 3) rfl 3 rfl 3 rfl ?_
  refine A_iload C dX8_laterOfBoth_3 4 rfl 5 rfl ?_
  refine CVl C dX8_laterOfBoth_5 8 k0 (by decide) (r := (RX8, TX8, 19)) rfl rfl hf (fun _ _ e => mX8_ticksTo k0 e) lkRX8_333 (by decide) (by decide) rfl [] rfl (Nat.le_of_ble_eq_true rfl) 8 rfl (fun r5 h5 hf => ?_)
  refine A_aload_n C dX8_laterOfBoth_8 (i := 0) rfl 0 rfl 9 rfl ?_
  refine A_iload_n C dX8_laterOfBoth_9 (i := 2) rfl 2 rfl 10 rfl ?_
  refine A_iload_n C dX8_laterOfBoth_10 (i := 3) rfl 3 rfl 11 rfl ?_
  refine A_iload C dX8_laterOfBoth_11 4 rfl 13 rfl ?_
  refine CVl C dX8_laterOfBoth_13 8 k0 (by decide) (r := (RX8, TX8, 19)) rfl rfl hf (fun _ _ e => mX8_ticksTo k0 e) lkRX8_333 (by decide) (by decide) rfl [.long r5] rfl (Nat.le_of_ble_eq_true rfl) 16 rfl (fun r13 h13 hf => ?_)
  refine A_mmaxl C dX8_laterOfBoth_16 mlRX8_228 stmmaxl iniMath commaxl (by decide) (Nat.le_of_ble_eq_true rfl) 19 rfl ?_
  exact A_lret C dX8_laterOfBoth_19 E hf
set_option maxRecDepth 20000 in
theorem wX8_soonestHead_L6 {K : KX} {G : GX} (C : Ok K G 6 cX8_soonestHead RX8) (hnl : G.2.2.2.2.2.2.2.2.2.2.2.2.2 = 6) {rv : Int32} {hv : HH} (E : Endd K G (some .int) (some (.int rv)) hv) {x0 : Nat} {x1 : Int32} {x2 : Int32} {x3 : Int32}   (kx0 : isK 8 x0) : ∀ (self6 : Int32 → Int32 → HH → Option (Int32 × HH)), (∀ (x4 : Int32) (x5 : Int32) (h : HH), self6 x4 x5 h = some (rv, hv) → At K G 6 [(0, .ref (K.2.1 x0)), (1, .int x1), (2, .int x2), (3, .int x3), (4, .int x4), (5, .int x5)] [] h) → ∀ (x4 : Int32) (x5 : Int32) (h : HH), fX8_soonestHead_L6 x0 x1 x2 x3 self6 x4 x5 h = some (rv, hv) → At K G 6 [(0, .ref (K.2.1 x0)), (1, .int x1), (2, .int x2), (3, .int x3), (4, .int x4), (5, .int x5)] [] h := by
  intro self6 Hself6 x4 x5 h hf
  unfold fX8_soonestHead_L6 at hf
  refine A_iload C dX8_soonestHead_6 5 rfl 8 rfl ?_
  refine A_aload_n C dX8_soonestHead_8 (i := 0) rfl 0 rfl 9 rfl ?_
  refine gfRX8_68 C kx0 dX8_soonestHead_9 hf 12 rfl (fun kp1 hf => ?_)
  refine gfRX8_331 C kp1 dX8_soonestHead_12 15 rfl ?_
  refine A_icmp_ge C dX8_soonestHead_15 50 (by decide) 18 rfl hf (fun c15 hf => ?_) (fun c15 hf => ?_)
  · refine A_iload C dX8_soonestHead_50 4 rfl 52 rfl ?_
    exact A_iret C dX8_soonestHead_52 E hf
  refine A_aload_n C dX8_soonestHead_18 (i := 0) rfl 0 rfl 19 rfl ?_
  refine A_iload_n C dX8_soonestHead_19 (i := 1) rfl 1 rfl 20 rfl ?_
  refine A_iload_n C dX8_soonestHead_20 (i := 2) rfl 2 rfl 21 rfl ?_
  refine A_iload_n C dX8_soonestHead_21 (i := 3) rfl 3 rfl 22 rfl ?_
  refine A_iload C dX8_soonestHead_22 5 rfl 24 rfl ?_
  refine CVl C dX8_soonestHead_24 8 kx0 (by decide) (r := (RX8, TX8, 19)) rfl rfl hf (fun _ _ e => mX8_laterOfBoth kx0 e) lkRX8_327 (by decide) (by decide) rfl [] rfl (Nat.le_of_ble_eq_true rfl) 27 rfl (fun r24 h24 hf => ?_)
  refine A_aload_n C dX8_soonestHead_27 (i := 0) rfl 0 rfl 28 rfl ?_
  refine A_iload_n C dX8_soonestHead_28 (i := 1) rfl 1 rfl 29 rfl ?_
  refine A_iload_n C dX8_soonestHead_29 (i := 2) rfl 2 rfl 30 rfl ?_
  refine A_iload_n C dX8_soonestHead_30 (i := 3) rfl 3 rfl 31 rfl ?_
  refine A_iload C dX8_soonestHead_31 4 rfl 33 rfl ?_
  refine CVl C dX8_soonestHead_33 8 kx0 (by decide) (r := (RX8, TX8, 19)) rfl rfl hf (fun _ _ e => mX8_laterOfBoth kx0 e) lkRX8_327 (by decide) (by decide) rfl [.long r24] rfl (Nat.le_of_ble_eq_true rfl) 36 rfl (fun r33 h33 hf => ?_)
  refine A_l_ge C dX8_soonestHead_36 dX8_soonestHead_37 44 (by decide) 40 rfl hf (fun c36 hf => ?_) (fun c36 hf => ?_)
  · refine A_iinc (v := (x5 + 1)) C dX8_soonestHead_44 5 rfl rfl [(5, .int (x5 + 1)), (0, .ref (K.2.1 x0)), (1, .int x1), (2, .int x2), (3, .int x3), (4, .int x4)] (lt_nl hnl (by decide)) rfl 47 rfl ?_
    refine A_goto C dX8_soonestHead_47 6 (by decide) ?_
    refine A_sub [1, 2, 3, 4, 5, 0] (lv' := [(0, .ref (K.2.1 x0)), (1, .int x1), (2, .int x2), (3, .int x3), (4, .int x4), (5, .int (x5 + 1))]) rfl ?_
    exact Hself6 _ _ _ hf
  refine A_iload C dX8_soonestHead_40 5 rfl 42 rfl ?_
  refine A_istore C dX8_soonestHead_42 [(4, .int x5), (0, .ref (K.2.1 x0)), (1, .int x1), (2, .int x2), (3, .int x3), (5, .int x5)] (lt_nl hnl (by decide)) rfl 44 rfl ?_
  refine A_iinc (v := (x5 + 1)) C dX8_soonestHead_44 5 rfl rfl [(5, .int (x5 + 1)), (4, .int x5), (0, .ref (K.2.1 x0)), (1, .int x1), (2, .int x2), (3, .int x3)] (lt_nl hnl (by decide)) rfl 47 rfl ?_
  refine A_goto C dX8_soonestHead_47 6 (by decide) ?_
  refine A_sub [2, 3, 4, 5, 1, 0] (lv' := [(0, .ref (K.2.1 x0)), (1, .int x1), (2, .int x2), (3, .int x3), (4, .int x5), (5, .int (x5 + 1))]) rfl ?_
  exact Hself6 _ _ _ hf
set_option maxRecDepth 20000 in
theorem mX8_soonestHead {K : KX} {x0 : Nat} {x1 : Int32} {x2 : Int32} {x3 : Int32} (k0 : isK 8 x0) {h : HH} {rv : Int32} {hv : HH} (hf : fX8_soonestHead x0 x1 x2 x3 h = some (rv, hv)) : MR K yX8_soonestHead cX8_soonestHead 6 (some .int) 6 [.ref (K.2.1 x0), .int x1, .int x2, .int x3] h (some (.int rv)) hv := by
  refine MR_of (by decide) (Nat.le_of_ble_eq_true rfl) (fun G C E hnl => ?_)
  have C : Ok K G 6 cX8_soonestHead RX8 := C
  refine (show At K G 0 [(0, .ref (K.2.1 x0)), (1, .int x1), (2, .int x2), (3, .int x3)] [] h from ?_)
  unfold fX8_soonestHead at hf
  refine A_iconst (v := 0) C dX8_soonestHead_0 (by decide) 1 rfl ?_
  refine A_istore C dX8_soonestHead_1 [(4, .int 0), (0, .ref (K.2.1 x0)), (1, .int x1), (2, .int x2), (3, .int x3)] (lt_nl hnl (by decide)) rfl 3 rfl ?_
  refine A_iconst (v := 1) C dX8_soonestHead_3 (by decide) 4 rfl ?_
  refine A_istore C dX8_soonestHead_4 [(5, .int 1), (4, .int 0), (0, .ref (K.2.1 x0)), (1, .int x1), (2, .int x2), (3, .int x3)] (lt_nl hnl (by decide)) rfl 6 rfl ?_
  refine A_sub [2, 3, 4, 5, 1, 0] (lv' := [(0, .ref (K.2.1 x0)), (1, .int x1), (2, .int x2), (3, .int x3), (4, .int 0), (5, .int 1)]) rfl ?_
  refine lq2_at (wX8_soonestHead_L6 C hnl E k0) FU _ _ _ hf
set_option maxRecDepth 20000 in
theorem mX8_meeting {K : KX} {x0 : Nat} {x1 : Int32} {x2 : Int32} {x3 : Int32} (k0 : isK 8 x0) {h : HH} {rv : Int64} {hv : HH} (hf : fX8_meeting x0 x1 x2 x3 h = some (rv, hv)) : MR K yX8_meeting cX8_meeting 4 (some .long) 7 [.ref (K.2.1 x0), .int x1, .int x2, .int x3] h (some (.long rv)) hv := by
  refine MR_of (by decide) (Nat.le_of_ble_eq_true rfl) (fun G C E hnl => ?_)
  have C : Ok K G 7 cX8_meeting RX8 := C
  refine (show At K G 0 [(0, .ref (K.2.1 x0)), (1, .int x1), (2, .int x2), (3, .int x3)] [] h from ?_)
  unfold fX8_meeting at hf
  refine A_aload_n C dX8_meeting_0 (i := 0) rfl 0 rfl 1 rfl ?_
  refine A_iload_n C dX8_meeting_1 (i := 1) rfl 1 rfl 2 rfl ?_
  refine A_iload_n C dX8_meeting_2 (i := 2) rfl 2 rfl 3 rfl ?_
  refine CVz C dX8_meeting_3 8 k0 (by decide) (r := (RX8, TX8, 19)) rfl rfl hf (fun _ _ e => mX8_isPair k0 e) lkRX8_189 (by decide) (by decide) rfl [] rfl (Nat.le_of_ble_eq_true rfl) 6 rfl (fun r3 h3 hf => ?_)
  refine A_z_eq C dX8_meeting_6 17 (by decide) 9 rfl hf (fun c6 hf => ?_) (fun c6 hf => ?_)
  · refine A_aload_n C dX8_meeting_17 (i := 0) rfl 0 rfl 18 rfl ?_
    refine A_iconst (v := 1) C dX8_meeting_18 (by decide) 19 rfl ?_
    refine CVi C dX8_meeting_19 8 k0 (by decide) (r := (RX8, TX8, 19)) rfl rfl hf (fun _ _ e => mX8_refuse k0 e) lkRX8_83 (by decide) (by decide) rfl [] rfl (Nat.le_of_ble_eq_true rfl) 22 rfl (fun r19 h19 hf => ?_)
    refine A_i2l C dX8_meeting_22 23 rfl ?_
    exact A_lret C dX8_meeting_23 E hf
  refine A_aload_n C dX8_meeting_9 (i := 0) rfl 0 rfl 10 rfl ?_
  refine A_iload_n C dX8_meeting_10 (i := 3) rfl 3 rfl 11 rfl ?_
  refine CVz C dX8_meeting_11 8 k0 (by decide) (r := (RX8, TX8, 19)) rfl rfl hf (fun _ _ e => mX8_isDreamFloor k0 e) lkRX8_321 (by decide) (by decide) rfl [] rfl (Nat.le_of_ble_eq_true rfl) 14 rfl (fun r11 h11 hf => ?_)
  refine A_z_ne C dX8_meeting_14 24 (by decide) 17 rfl hf (fun c14 hf => ?_) (fun c14 hf => ?_)
  · refine A_aload_n C dX8_meeting_24 (i := 0) rfl 0 rfl 25 rfl ?_
    refine A_aload_n C dX8_meeting_25 (i := 0) rfl 0 rfl 26 rfl ?_
    refine A_iload_n C dX8_meeting_26 (i := 1) rfl 1 rfl 27 rfl ?_
    refine A_iload_n C dX8_meeting_27 (i := 2) rfl 2 rfl 28 rfl ?_
    refine A_iload_n C dX8_meeting_28 (i := 3) rfl 3 rfl 29 rfl ?_
    refine A_aload_n C dX8_meeting_29 (i := 0) rfl 0 rfl 30 rfl ?_
    refine A_iload_n C dX8_meeting_30 (i := 1) rfl 1 rfl 31 rfl ?_
    refine A_iload_n C dX8_meeting_31 (i := 2) rfl 2 rfl 32 rfl ?_
    refine A_iload_n C dX8_meeting_32 (i := 3) rfl 3 rfl 33 rfl ?_
    refine CVi C dX8_meeting_33 8 k0 (by decide) (r := (RX8, TX8, 19)) rfl rfl hf (fun _ _ e => mX8_soonestHead k0 e) lkRX8_324 (by decide) (by decide) rfl [.int x3, .int x2, .int x1, .ref (K.2.1 x0), .ref (K.2.1 x0)] rfl (Nat.le_of_ble_eq_true rfl) 36 rfl (fun r33 h33 hf => ?_)
    refine CVl C dX8_meeting_36 8 k0 (by decide) (r := (RX8, TX8, 19)) rfl rfl hf (fun _ _ e => mX8_laterOfBoth k0 e) lkRX8_327 (by decide) (by decide) rfl [.ref (K.2.1 x0)] rfl (Nat.le_of_ble_eq_true rfl) 39 rfl (fun r36 h36 hf => ?_)
    refine CVl C dX8_meeting_39 8 k0 (by decide) (r := (RX8, TX8, 19)) rfl rfl hf (fun _ _ e => mX8_allow_ k0 e) lkRX8_142 (by decide) (by decide) rfl [] rfl (Nat.le_of_ble_eq_true rfl) 42 rfl (fun r39 h39 hf => ?_)
    exact A_lret C dX8_meeting_42 E hf
  refine A_aload_n C dX8_meeting_17 (i := 0) rfl 0 rfl 18 rfl ?_
  refine A_iconst (v := 1) C dX8_meeting_18 (by decide) 19 rfl ?_
  refine CVi C dX8_meeting_19 8 k0 (by decide) (r := (RX8, TX8, 19)) rfl rfl hf (fun _ _ e => mX8_refuse k0 e) lkRX8_83 (by decide) (by decide) rfl [] rfl (Nat.le_of_ble_eq_true rfl) 22 rfl (fun r19 h19 hf => ?_)
  refine A_i2l C dX8_meeting_22 23 rfl ?_
  exact A_lret C dX8_meeting_23 E hf
set_option maxRecDepth 20000 in
theorem mX8_meetingHead {K : KX} {x0 : Nat} {x1 : Int32} {x2 : Int32} {x3 : Int32} (k0 : isK 8 x0) {h : HH} {rv : Int32} {hv : HH} (hf : fX8_meetingHead x0 x1 x2 x3 h = some (rv, hv)) : MR K yX8_meetingHead cX8_meetingHead 4 (some .int) 7 [.ref (K.2.1 x0), .int x1, .int x2, .int x3] h (some (.int rv)) hv := by
  refine MR_of (by decide) (Nat.le_of_ble_eq_true rfl) (fun G C E hnl => ?_)
  have C : Ok K G 7 cX8_meetingHead RX8 := C
  refine (show At K G 0 [(0, .ref (K.2.1 x0)), (1, .int x1), (2, .int x2), (3, .int x3)] [] h from ?_)
  unfold fX8_meetingHead at hf
  refine A_aload_n C dX8_meetingHead_0 (i := 0) rfl 0 rfl 1 rfl ?_
  refine A_iload_n C dX8_meetingHead_1 (i := 1) rfl 1 rfl 2 rfl ?_
  refine A_iload_n C dX8_meetingHead_2 (i := 2) rfl 2 rfl 3 rfl ?_
  refine CVz C dX8_meetingHead_3 8 k0 (by decide) (r := (RX8, TX8, 19)) rfl rfl hf (fun _ _ e => mX8_isPair k0 e) lkRX8_189 (by decide) (by decide) rfl [] rfl (Nat.le_of_ble_eq_true rfl) 6 rfl (fun r3 h3 hf => ?_)
  refine A_z_eq C dX8_meetingHead_6 17 (by decide) 9 rfl hf (fun c6 hf => ?_) (fun c6 hf => ?_)
  · refine A_aload_n C dX8_meetingHead_17 (i := 0) rfl 0 rfl 18 rfl ?_
    refine A_iconst (v := 1) C dX8_meetingHead_18 (by decide) 19 rfl ?_
    refine CVi C dX8_meetingHead_19 8 k0 (by decide) (r := (RX8, TX8, 19)) rfl rfl hf (fun _ _ e => mX8_refuse k0 e) lkRX8_83 (by decide) (by decide) rfl [] rfl (Nat.le_of_ble_eq_true rfl) 22 rfl (fun r19 h19 hf => ?_)
    exact A_iret C dX8_meetingHead_22 E hf
  refine A_aload_n C dX8_meetingHead_9 (i := 0) rfl 0 rfl 10 rfl ?_
  refine A_iload_n C dX8_meetingHead_10 (i := 3) rfl 3 rfl 11 rfl ?_
  refine CVz C dX8_meetingHead_11 8 k0 (by decide) (r := (RX8, TX8, 19)) rfl rfl hf (fun _ _ e => mX8_isDreamFloor k0 e) lkRX8_321 (by decide) (by decide) rfl [] rfl (Nat.le_of_ble_eq_true rfl) 14 rfl (fun r11 h11 hf => ?_)
  refine A_z_ne C dX8_meetingHead_14 23 (by decide) 17 rfl hf (fun c14 hf => ?_) (fun c14 hf => ?_)
  · refine A_aload_n C dX8_meetingHead_23 (i := 0) rfl 0 rfl 24 rfl ?_
    refine A_aload_n C dX8_meetingHead_24 (i := 0) rfl 0 rfl 25 rfl ?_
    refine A_iload_n C dX8_meetingHead_25 (i := 1) rfl 1 rfl 26 rfl ?_
    refine A_iload_n C dX8_meetingHead_26 (i := 2) rfl 2 rfl 27 rfl ?_
    refine A_iload_n C dX8_meetingHead_27 (i := 3) rfl 3 rfl 28 rfl ?_
    refine CVi C dX8_meetingHead_28 8 k0 (by decide) (r := (RX8, TX8, 19)) rfl rfl hf (fun _ _ e => mX8_soonestHead k0 e) lkRX8_324 (by decide) (by decide) rfl [.ref (K.2.1 x0)] rfl (Nat.le_of_ble_eq_true rfl) 31 rfl (fun r28 h28 hf => ?_)
    refine CVi C dX8_meetingHead_31 8 k0 (by decide) (r := (RX8, TX8, 19)) rfl rfl hf (fun _ _ e => mX8_allow k0 e) lkRX8_125 (by decide) (by decide) rfl [] rfl (Nat.le_of_ble_eq_true rfl) 34 rfl (fun r31 h31 hf => ?_)
    exact A_iret C dX8_meetingHead_34 E hf
  refine A_aload_n C dX8_meetingHead_17 (i := 0) rfl 0 rfl 18 rfl ?_
  refine A_iconst (v := 1) C dX8_meetingHead_18 (by decide) 19 rfl ?_
  refine CVi C dX8_meetingHead_19 8 k0 (by decide) (r := (RX8, TX8, 19)) rfl rfl hf (fun _ _ e => mX8_refuse k0 e) lkRX8_83 (by decide) (by decide) rfl [] rfl (Nat.le_of_ble_eq_true rfl) 22 rfl (fun r19 h19 hf => ?_)
  exact A_iret C dX8_meetingHead_22 E hf
set_option maxRecDepth 20000 in
theorem mX8_whyNoWages {K : KX} {x0 : Nat} {x1 : Int32} (k0 : isK 8 x0) {h : HH} {rv : Int32} {hv : HH} (hf : fX8_whyNoWages x0 x1 h = some (rv, hv)) : MR K yX8_whyNoWages cX8_whyNoWages 2 (some .int) 2 [.ref (K.2.1 x0), .int x1] h (some (.int rv)) hv := by
  refine MR_of (by decide) (Nat.le_of_ble_eq_true rfl) (fun G C E hnl => ?_)
  have C : Ok K G 2 cX8_whyNoWages RX8 := C
  refine (show At K G 0 [(0, .ref (K.2.1 x0)), (1, .int x1)] [] h from ?_)
  unfold fX8_whyNoWages at hf
  refine A_aload_n C dX8_whyNoWages_0 (i := 0) rfl 0 rfl 1 rfl ?_
  refine A_iload_n C dX8_whyNoWages_1 (i := 1) rfl 1 rfl 2 rfl ?_
  refine CVz C dX8_whyNoWages_2 8 k0 (by decide) (r := (RX8, TX8, 19)) rfl rfl hf (fun _ _ e => mX8_isSleeper k0 e) lkRX8_160 (by decide) (by decide) rfl [] rfl (Nat.le_of_ble_eq_true rfl) 5 rfl (fun r2 h2 hf => ?_)
  refine A_z_ne C dX8_whyNoWages_5 10 (by decide) 8 rfl hf (fun c5 hf => ?_) (fun c5 hf => ?_)
  · refine A_aload_n C dX8_whyNoWages_10 (i := 0) rfl 0 rfl 11 rfl ?_
    refine gfRX8_68 C k0 dX8_whyNoWages_11 hf 14 rfl (fun kp1 hf => ?_)
    refine gfRX8_349 C kp1 dX8_whyNoWages_14 17 rfl ?_
    refine A_if_eq C dX8_whyNoWages_17 24 (by decide) 20 rfl hf (fun c17 hf => ?_) (fun c17 hf => ?_)
    · refine A_bipush (v := 6) C dX8_whyNoWages_24 (by decide) 26 rfl ?_
      exact A_iret C dX8_whyNoWages_26 E hf
    refine A_iconst (v := 0) C dX8_whyNoWages_20 (by decide) 21 rfl ?_
    refine A_goto C dX8_whyNoWages_21 26 (by decide) ?_
    exact A_iret C dX8_whyNoWages_26 E hf
  refine A_iconst (v := 1) C dX8_whyNoWages_8 (by decide) 9 rfl ?_
  exact A_iret C dX8_whyNoWages_9 E hf
set_option maxRecDepth 20000 in
theorem wX8_floorTaken_L4 {K : KX} {G : GX} (C : Ok K G 4 cX8_floorTaken RX8) (hnl : G.2.2.2.2.2.2.2.2.2.2.2.2.2 = 4) {rv : Int32} {hv : HH} (E : Endd K G (some .int) (some (.int rv)) hv) {x0 : Nat} {x1 : Int32}   (kx0 : isK 8 x0) : ∀ (self4 : Int32 → Int32 → HH → Option (Int32 × HH)), (∀ (x2 : Int32) (x3 : Int32) (h : HH), self4 x2 x3 h = some (rv, hv) → At K G 4 [(0, .ref (K.2.1 x0)), (1, .int x1), (2, .int x2), (3, .int x3)] [] h) → ∀ (x2 : Int32) (x3 : Int32) (h : HH), fX8_floorTaken_L4 x0 x1 self4 x2 x3 h = some (rv, hv) → At K G 4 [(0, .ref (K.2.1 x0)), (1, .int x1), (2, .int x2), (3, .int x3)] [] h := by
  intro self4 Hself4 x2 x3 h hf
  unfold fX8_floorTaken_L4 at hf
  refine A_iload_n C dX8_floorTaken_4 (i := 3) rfl 3 rfl 5 rfl ?_
  refine A_aload_n C dX8_floorTaken_5 (i := 0) rfl 0 rfl 6 rfl ?_
  refine gfRX8_68 C kx0 dX8_floorTaken_6 hf 9 rfl (fun kp1 hf => ?_)
  refine gfRX8_298 C kp1 dX8_floorTaken_9 12 rfl ?_
  refine A_icmp_gt C dX8_floorTaken_12 45 (by decide) 15 rfl hf (fun c12 hf => ?_) (fun c12 hf => ?_)
  · refine A_iload_n C dX8_floorTaken_45 (i := 2) rfl 2 rfl 46 rfl ?_
    exact A_iret C dX8_floorTaken_46 E hf
  refine A_aload_n C dX8_floorTaken_15 (i := 0) rfl 0 rfl 16 rfl ?_
  refine gfRX8_68 C kx0 dX8_floorTaken_16 hf 19 rfl (fun kp2 hf => ?_)
  refine A_iload_n C dX8_floorTaken_19 (i := 1) rfl 1 rfl 20 rfl ?_
  refine A_iload_n C dX8_floorTaken_20 (i := 3) rfl 3 rfl 21 rfl ?_
  refine CVl C dX8_floorTaken_21 0 kp2 (by decide) (r := (RX0, TX0, 14)) rfl rfl hf (fun _ _ e => mX0_gainOn kp2 e) lkRX8_346 (by decide) (by decide) rfl [] rfl (Nat.le_of_ble_eq_true rfl) 24 rfl (fun r21 h21 hf => ?_)
  refine A_aload_n C dX8_floorTaken_24 (i := 0) rfl 0 rfl 25 rfl ?_
  refine gfRX8_68 C kx0 dX8_floorTaken_25 hf 28 rfl (fun kp3 hf => ?_)
  refine A_iload_n C dX8_floorTaken_28 (i := 1) rfl 1 rfl 29 rfl ?_
  refine A_iload_n C dX8_floorTaken_29 (i := 2) rfl 2 rfl 30 rfl ?_
  refine CVl C dX8_floorTaken_30 0 kp3 (by decide) (r := (RX0, TX0, 14)) rfl rfl hf (fun _ _ e => mX0_gainOn kp3 e) lkRX8_346 (by decide) (by decide) rfl [.long r21] rfl (Nat.le_of_ble_eq_true rfl) 33 rfl (fun r30 h30 hf => ?_)
  refine A_l_le C dX8_floorTaken_33 dX8_floorTaken_34 39 (by decide) 37 rfl hf (fun c33 hf => ?_) (fun c33 hf => ?_)
  · refine A_iinc (v := (x3 + 1)) C dX8_floorTaken_39 3 rfl rfl [(3, .int (x3 + 1)), (0, .ref (K.2.1 x0)), (1, .int x1), (2, .int x2)] (lt_nl hnl (by decide)) rfl 42 rfl ?_
    refine A_goto C dX8_floorTaken_42 4 (by decide) ?_
    refine A_sub [1, 2, 3, 0] (lv' := [(0, .ref (K.2.1 x0)), (1, .int x1), (2, .int x2), (3, .int (x3 + 1))]) rfl ?_
    exact Hself4 _ _ _ hf
  refine A_iload_n C dX8_floorTaken_37 (i := 3) rfl 3 rfl 38 rfl ?_
  refine A_istore_n C dX8_floorTaken_38 (i := 2) rfl [(2, .int x3), (0, .ref (K.2.1 x0)), (1, .int x1), (3, .int x3)] (lt_nl hnl (by decide)) rfl 39 rfl ?_
  refine A_iinc (v := (x3 + 1)) C dX8_floorTaken_39 3 rfl rfl [(3, .int (x3 + 1)), (2, .int x3), (0, .ref (K.2.1 x0)), (1, .int x1)] (lt_nl hnl (by decide)) rfl 42 rfl ?_
  refine A_goto C dX8_floorTaken_42 4 (by decide) ?_
  refine A_sub [2, 3, 1, 0] (lv' := [(0, .ref (K.2.1 x0)), (1, .int x1), (2, .int x3), (3, .int (x3 + 1))]) rfl ?_
  exact Hself4 _ _ _ hf
set_option maxRecDepth 20000 in
theorem mX8_floorTaken {K : KX} {x0 : Nat} {x1 : Int32} (k0 : isK 8 x0) {h : HH} {rv : Int32} {hv : HH} (hf : fX8_floorTaken x0 x1 h = some (rv, hv)) : MR K yX8_floorTaken cX8_floorTaken 4 (some .int) 4 [.ref (K.2.1 x0), .int x1] h (some (.int rv)) hv := by
  refine MR_of (by decide) (Nat.le_of_ble_eq_true rfl) (fun G C E hnl => ?_)
  have C : Ok K G 4 cX8_floorTaken RX8 := C
  refine (show At K G 0 [(0, .ref (K.2.1 x0)), (1, .int x1)] [] h from ?_)
  unfold fX8_floorTaken at hf
  refine A_iconst (v := 0) C dX8_floorTaken_0 (by decide) 1 rfl ?_
  refine A_istore_n C dX8_floorTaken_1 (i := 2) rfl [(2, .int 0), (0, .ref (K.2.1 x0)), (1, .int x1)] (lt_nl hnl (by decide)) rfl 2 rfl ?_
  refine A_iconst (v := 1) C dX8_floorTaken_2 (by decide) 3 rfl ?_
  refine A_istore_n C dX8_floorTaken_3 (i := 3) rfl [(3, .int 1), (2, .int 0), (0, .ref (K.2.1 x0)), (1, .int x1)] (lt_nl hnl (by decide)) rfl 4 rfl ?_
  refine A_sub [2, 3, 1, 0] (lv' := [(0, .ref (K.2.1 x0)), (1, .int x1), (2, .int 0), (3, .int 1)]) rfl ?_
  refine lq2_at (wX8_floorTaken_L4 C hnl E k0) FU _ _ _ hf
set_option maxRecDepth 20000 in
theorem mX8_takes {K : KX} {x0 : Nat} {x1 : Int32} (k0 : isK 8 x0) {h : HH} {rv : Int32} {hv : HH} (hf : fX8_takes x0 x1 h = some (rv, hv)) : MR K yX8_takes cX8_takes 3 (some .int) 5 [.ref (K.2.1 x0), .int x1] h (some (.int rv)) hv := by
  refine MR_of (by decide) (Nat.le_of_ble_eq_true rfl) (fun G C E hnl => ?_)
  have C : Ok K G 5 cX8_takes RX8 := C
  refine (show At K G 0 [(0, .ref (K.2.1 x0)), (1, .int x1)] [] h from ?_)
  unfold fX8_takes at hf
  refine A_aload_n C dX8_takes_0 (i := 0) rfl 0 rfl 1 rfl ?_
  refine A_iload_n C dX8_takes_1 (i := 1) rfl 1 rfl 2 rfl ?_
  refine CVi C dX8_takes_2 8 k0 (by decide) (r := (RX8, TX8, 19)) rfl rfl hf (fun _ _ e => mX8_whyNoWages k0 e) lkRX8_340 (by decide) (by decide) rfl [] rfl (Nat.le_of_ble_eq_true rfl) 5 rfl (fun r2 h2 hf => ?_)
  refine A_istore_n C dX8_takes_5 (i := 2) rfl [(2, .int r2), (0, .ref (K.2.1 x0)), (1, .int x1)] (lt_nl hnl (by decide)) rfl 6 rfl ?_
  refine A_iload_n C dX8_takes_6 (i := 2) rfl 0 rfl 7 rfl ?_
  refine A_if_eq C dX8_takes_7 18 (by decide) 10 rfl hf (fun c7 hf => ?_) (fun c7 hf => ?_)
  · refine A_aload_n C dX8_takes_18 (i := 0) rfl 1 rfl 19 rfl ?_
    refine A_aload_n C dX8_takes_19 (i := 0) rfl 1 rfl 20 rfl ?_
    refine A_iload_n C dX8_takes_20 (i := 1) rfl 2 rfl 21 rfl ?_
    refine CVi C dX8_takes_21 8 k0 (by decide) (r := (RX8, TX8, 19)) rfl rfl hf (fun _ _ e => mX8_floorTaken k0 e) lkRX8_343 (by decide) (by decide) rfl [.ref (K.2.1 x0)] rfl (Nat.le_of_ble_eq_true rfl) 24 rfl (fun r21 h21 hf => ?_)
    refine CVi C dX8_takes_24 8 k0 (by decide) (r := (RX8, TX8, 19)) rfl rfl hf (fun _ _ e => mX8_allow k0 e) lkRX8_125 (by decide) (by decide) rfl [] rfl (Nat.le_of_ble_eq_true rfl) 27 rfl (fun r24 h24 hf => ?_)
    exact A_iret C dX8_takes_27 E hf
  refine A_aload_n C dX8_takes_10 (i := 0) rfl 1 rfl 11 rfl ?_
  refine A_iload_n C dX8_takes_11 (i := 2) rfl 0 rfl 12 rfl ?_
  refine CVi C dX8_takes_12 8 k0 (by decide) (r := (RX8, TX8, 19)) rfl rfl hf (fun _ _ e => mX8_refuse k0 e) lkRX8_83 (by decide) (by decide) rfl [] rfl (Nat.le_of_ble_eq_true rfl) 15 rfl (fun r12 h12 hf => ?_)
  refine A_goto C dX8_takes_15 27 (by decide) ?_
  exact A_iret C dX8_takes_27 E hf
set_option maxRecDepth 20000 in
theorem mX8_gains {K : KX} {x0 : Nat} {x1 : Int32} (k0 : isK 8 x0) {h : HH} {rv : Int64} {hv : HH} (hf : fX8_gains x0 x1 h = some (rv, hv)) : MR K yX8_gains cX8_gains 3 (some .long) 5 [.ref (K.2.1 x0), .int x1] h (some (.long rv)) hv := by
  refine MR_of (by decide) (Nat.le_of_ble_eq_true rfl) (fun G C E hnl => ?_)
  have C : Ok K G 5 cX8_gains RX8 := C
  refine (show At K G 0 [(0, .ref (K.2.1 x0)), (1, .int x1)] [] h from ?_)
  unfold fX8_gains at hf
  refine A_aload_n C dX8_gains_0 (i := 0) rfl 0 rfl 1 rfl ?_
  refine A_iload_n C dX8_gains_1 (i := 1) rfl 1 rfl 2 rfl ?_
  refine CVi C dX8_gains_2 8 k0 (by decide) (r := (RX8, TX8, 19)) rfl rfl hf (fun _ _ e => mX8_whyNoWages k0 e) lkRX8_340 (by decide) (by decide) rfl [] rfl (Nat.le_of_ble_eq_true rfl) 5 rfl (fun r2 h2 hf => ?_)
  refine A_istore_n C dX8_gains_5 (i := 2) rfl [(2, .int r2), (0, .ref (K.2.1 x0)), (1, .int x1)] (lt_nl hnl (by decide)) rfl 6 rfl ?_
  refine A_iload_n C dX8_gains_6 (i := 2) rfl 0 rfl 7 rfl ?_
  refine A_if_eq C dX8_gains_7 19 (by decide) 10 rfl hf (fun c7 hf => ?_) (fun c7 hf => ?_)
  · refine A_aload_n C dX8_gains_19 (i := 0) rfl 1 rfl 20 rfl ?_
    refine A_aload_n C dX8_gains_20 (i := 0) rfl 1 rfl 21 rfl ?_
    refine gfRX8_68 C k0 dX8_gains_21 hf 24 rfl (fun kp1 hf => ?_)
    refine A_iload_n C dX8_gains_24 (i := 1) rfl 2 rfl 25 rfl ?_
    refine A_aload_n C dX8_gains_25 (i := 0) rfl 1 rfl 26 rfl ?_
    refine A_iload_n C dX8_gains_26 (i := 1) rfl 2 rfl 27 rfl ?_
    refine CVi C dX8_gains_27 8 k0 (by decide) (r := (RX8, TX8, 19)) rfl rfl hf (fun _ _ e => mX8_floorTaken k0 e) lkRX8_343 (by decide) (by decide) rfl [.int x1, .ref (K.2.1 (gR h2 x0 10)), .ref (K.2.1 x0)] rfl (Nat.le_of_ble_eq_true rfl) 30 rfl (fun r27 h27 hf => ?_)
    refine CVl C dX8_gains_30 0 kp1 (by decide) (r := (RX0, TX0, 14)) rfl rfl hf (fun _ _ e => mX0_gainOn kp1 e) lkRX8_346 (by decide) (by decide) rfl [.ref (K.2.1 x0)] rfl (Nat.le_of_ble_eq_true rfl) 33 rfl (fun r30 h30 hf => ?_)
    refine CVl C dX8_gains_33 8 k0 (by decide) (r := (RX8, TX8, 19)) rfl rfl hf (fun _ _ e => mX8_allow_ k0 e) lkRX8_142 (by decide) (by decide) rfl [] rfl (Nat.le_of_ble_eq_true rfl) 36 rfl (fun r33 h33 hf => ?_)
    exact A_lret C dX8_gains_36 E hf
  refine A_aload_n C dX8_gains_10 (i := 0) rfl 1 rfl 11 rfl ?_
  refine A_iload_n C dX8_gains_11 (i := 2) rfl 0 rfl 12 rfl ?_
  refine CVi C dX8_gains_12 8 k0 (by decide) (r := (RX8, TX8, 19)) rfl rfl hf (fun _ _ e => mX8_refuse k0 e) lkRX8_83 (by decide) (by decide) rfl [] rfl (Nat.le_of_ble_eq_true rfl) 15 rfl (fun r12 h12 hf => ?_)
  refine A_i2l C dX8_gains_15 16 rfl ?_
  refine A_goto C dX8_gains_16 36 (by decide) ?_
  exact A_lret C dX8_gains_36 E hf
set_option maxRecDepth 20000 in
theorem mX8_leastPay {K : KX} {x0 : Nat} {x1 : Int32} {x2 : Int32} {x3 : Int64} (k0 : isK 8 x0) {h : HH} {rv : Int32} {hv : HH} (hf : fX8_leastPay x0 x1 x2 x3 h = some (rv, hv)) : MR K yX8_leastPay cX8_leastPay 8 (some .int) 3 [.ref (K.2.1 x0), .int x1, .int x2, .long x3] h (some (.int rv)) hv := by
  refine MR_of (by decide) (Nat.le_of_ble_eq_true rfl) (fun G C E hnl => ?_)
  have C : Ok K G 3 cX8_leastPay RX8 := C
  refine (show At K G 0 [(0, .ref (K.2.1 x0)), (1, .int x1), (2, .int x2), (3, .long x3)] [] h from ?_)
  unfold fX8_leastPay at hf
  refine A_aload_n C dX8_leastPay_0 (i := 0) rfl 0 rfl 1 rfl ?_
  refine gfRX8_68 C k0 dX8_leastPay_1 hf 4 rfl (fun kp1 hf => ?_)
  refine A_iload_n C dX8_leastPay_4 (i := 2) rfl 2 rfl 5 rfl ?_
  refine CVi C dX8_leastPay_5 0 kp1 (by decide) (r := (RX0, TX0, 14)) rfl rfl hf (fun _ _ e => mX0_quickOf kp1 e) lkRX8_135 (by decide) (by decide) rfl [] rfl (Nat.le_of_ble_eq_true rfl) 8 rfl (fun r5 h5 hf => ?_)
  refine A_istore C dX8_leastPay_8 [(5, .int r5), (0, .ref (K.2.1 x0)), (1, .int x1), (2, .int x2), (3, .long x3)] (lt_nl hnl (by decide)) rfl 10 rfl ?_
  refine A_lload_n C dX8_leastPay_10 (i := 3) rfl 4 rfl 11 rfl ?_
  refine A_aload_n C dX8_leastPay_11 (i := 0) rfl 1 rfl 12 rfl ?_
  refine gfRX8_68 C k0 dX8_leastPay_12 hf 15 rfl (fun kp2 hf => ?_)
  refine A_iload_n C dX8_leastPay_15 (i := 1) rfl 2 rfl 16 rfl ?_
  refine A_iload_n C dX8_leastPay_16 (i := 2) rfl 3 rfl 17 rfl ?_
  refine CVl C dX8_leastPay_17 0 kp2 (by decide) (r := (RX0, TX0, 14)) rfl rfl hf (fun _ _ e => mX0_dreadOn kp2 e) lkRX8_356 (by decide) (by decide) rfl [.long x3] rfl (Nat.le_of_ble_eq_true rfl) 20 rfl (fun r17 h17 hf => ?_)
  refine A_ladd C dX8_leastPay_20 21 rfl ?_
  refine A_iload C dX8_leastPay_21 0 rfl 23 rfl ?_
  refine A_i2l C dX8_leastPay_23 24 rfl ?_
  refine A_ladd C dX8_leastPay_24 25 rfl ?_
  refine A_lconst (v := 1) C dX8_leastPay_25 (by decide) 26 rfl ?_
  refine A_lsub C dX8_leastPay_26 27 rfl ?_
  refine A_iload C dX8_leastPay_27 0 rfl 29 rfl ?_
  refine A_i2l C dX8_leastPay_29 30 rfl ?_
  refine CSl C dX8_leastPay_30 hf (fun _ _ e => mX8_quotient  e) lkRX8_152 (by decide) (by decide) rfl [] rfl (Nat.le_of_ble_eq_true rfl) 33 rfl (fun r30 h30 hf => ?_)
  refine A_lstore C dX8_leastPay_33 [(6, .long r30), (5, .int r5), (0, .ref (K.2.1 x0)), (1, .int x1), (2, .int x2), (3, .long x3)] (lt_nl hnl (by decide)) rfl 35 rfl ?_
  refine A_lload C dX8_leastPay_35 0 rfl 37 rfl ?_
  refine A_ldc2 C dX8_leastPay_37 cRX8_359 40 rfl ?_
  refine A_l_le C dX8_leastPay_40 dX8_leastPay_41 49 (by decide) 44 rfl hf (fun c40 hf => ?_) (fun c40 hf => ?_)
  · refine A_lload C dX8_leastPay_49 0 rfl 51 rfl ?_
    refine A_l2i C dX8_leastPay_51 52 rfl ?_
    exact A_iret C dX8_leastPay_52 E hf
  refine A_bipush (v := (-2)) C dX8_leastPay_44 (by decide) 46 rfl ?_
  refine A_goto C dX8_leastPay_46 52 (by decide) ?_
  exact A_iret C dX8_leastPay_52 E hf
set_option maxRecDepth 20000 in
theorem wX8_price_L44 {K : KX} {G : GX} (C : Ok K G 4 cX8_price RX8) (hnl : G.2.2.2.2.2.2.2.2.2.2.2.2.2 = 6) {rv : Int32} {hv : HH} (E : Endd K G (some .int) (some (.int rv)) hv) {x0 : Nat} {x1 : Int32} {x2 : Int32}   (kx0 : isK 8 x0) : ∀ (self44 : Int64 → Int32 → HH → Option (Int32 × HH)), (∀ (x3 : Int64) (x5 : Int32) (h : HH), self44 x3 x5 h = some (rv, hv) → At K G 44 [(0, .ref (K.2.1 x0)), (1, .int x1), (2, .int x2), (3, .long x3), (5, .int x5)] [] h) → ∀ (x3 : Int64) (x5 : Int32) (h : HH), fX8_price_L44 x0 x1 x2 self44 x3 x5 h = some (rv, hv) → At K G 44 [(0, .ref (K.2.1 x0)), (1, .int x1), (2, .int x2), (3, .long x3), (5, .int x5)] [] h := by
  intro self44 Hself44 x3 x5 h hf
  unfold fX8_price_L44 at hf
  refine A_iload C dX8_price_44 4 rfl 46 rfl ?_
  refine A_aload_n C dX8_price_46 (i := 0) rfl 0 rfl 47 rfl ?_
  refine gfRX8_68 C kx0 dX8_price_47 hf 50 rfl (fun kp2 hf => ?_)
  refine gfRX8_298 C kp2 dX8_price_50 53 rfl ?_
  refine A_icmp_gt C dX8_price_53 96 (by decide) 56 rfl hf (fun c53 hf => ?_) (fun c53 hf => ?_)
  · refine A_aload_n C dX8_price_96 (i := 0) rfl 0 rfl 97 rfl ?_
    refine A_aload_n C dX8_price_97 (i := 0) rfl 0 rfl 98 rfl ?_
    refine A_iload_n C dX8_price_98 (i := 1) rfl 1 rfl 99 rfl ?_
    refine A_iload_n C dX8_price_99 (i := 2) rfl 2 rfl 100 rfl ?_
    refine A_lload_n C dX8_price_100 (i := 3) rfl 3 rfl 101 rfl ?_
    refine CVi C dX8_price_101 8 kx0 (by decide) (r := (RX8, TX8, 19)) rfl rfl hf (fun _ _ e => mX8_leastPay kx0 e) lkRX8_352 (by decide) (by decide) rfl [.ref (K.2.1 x0)] rfl (Nat.le_of_ble_eq_true rfl) 104 rfl (fun r101 h101 hf => ?_)
    refine CVi C dX8_price_104 8 kx0 (by decide) (r := (RX8, TX8, 19)) rfl rfl hf (fun _ _ e => mX8_allow kx0 e) lkRX8_125 (by decide) (by decide) rfl [] rfl (Nat.le_of_ble_eq_true rfl) 107 rfl (fun r104 h104 hf => ?_)
    exact A_iret C dX8_price_107 E hf
  refine A_iload C dX8_price_56 4 rfl 58 rfl ?_
  refine A_iload_n C dX8_price_58 (i := 2) rfl 2 rfl 59 rfl ?_
  refine A_icmp_eq C dX8_price_59 90 (by decide) 62 rfl hf (fun c59 hf => ?_) (fun c59 hf => ?_)
  · refine A_iinc (v := (x5 + 1)) C dX8_price_90 4 rfl rfl [(5, .int (x5 + 1)), (0, .ref (K.2.1 x0)), (1, .int x1), (2, .int x2), (3, .long x3)] (lt_nl hnl (by decide)) rfl 93 rfl ?_
    refine A_goto C dX8_price_93 44 (by decide) ?_
    refine A_sub [1, 2, 3, 4, 0] (lv' := [(0, .ref (K.2.1 x0)), (1, .int x1), (2, .int x2), (3, .long x3), (5, .int (x5 + 1))]) rfl ?_
    exact Hself44 _ _ _ hf
  refine A_lload_n C dX8_price_62 (i := 3) rfl 3 rfl 63 rfl ?_
  refine A_aload_n C dX8_price_63 (i := 0) rfl 0 rfl 64 rfl ?_
  refine gfRX8_68 C kx0 dX8_price_64 hf 67 rfl (fun kp3 hf => ?_)
  refine A_iload_n C dX8_price_67 (i := 1) rfl 1 rfl 68 rfl ?_
  refine A_iload C dX8_price_68 4 rfl 70 rfl ?_
  refine CVl C dX8_price_70 0 kp3 (by decide) (r := (RX0, TX0, 14)) rfl rfl hf (fun _ _ e => mX0_gainOn kp3 e) lkRX8_346 (by decide) (by decide) rfl [.long x3] rfl (Nat.le_of_ble_eq_true rfl) 73 rfl (fun r70 h70 hf => ?_)
  refine A_iload C dX8_price_73 4 rfl 75 rfl ?_
  refine A_iload_n C dX8_price_75 (i := 2) rfl 2 rfl 76 rfl ?_
  refine A_icmp_ge C dX8_price_76 83 (by decide) 79 rfl hf (fun c76 hf => ?_) (fun c76 hf => ?_)
  · refine A_iconst (v := 0) C dX8_price_83 (by decide) 84 rfl ?_
    refine A_i2l C dX8_price_84 85 rfl ?_
    refine A_ladd C dX8_price_85 86 rfl ?_
    refine A_mmaxl C dX8_price_86 mlRX8_228 stmmaxl iniMath commaxl (by decide) (Nat.le_of_ble_eq_true rfl) 89 rfl ?_
    refine A_namL hf (fun y4 hf => ?_)
    refine A_lstore_n C dX8_price_89 (i := 3) rfl [(3, .long y4), (0, .ref (K.2.1 x0)), (1, .int x1), (2, .int x2), (5, .int x5)] (lt_nl hnl (by decide)) rfl 90 rfl ?_
    refine A_iinc (v := (x5 + 1)) C dX8_price_90 4 rfl rfl [(5, .int (x5 + 1)), (3, .long y4), (0, .ref (K.2.1 x0)), (1, .int x1), (2, .int x2)] (lt_nl hnl (by decide)) rfl 93 rfl ?_
    refine A_goto C dX8_price_93 44 (by decide) ?_
    refine A_sub [2, 3, 4, 1, 0] (lv' := [(0, .ref (K.2.1 x0)), (1, .int x1), (2, .int x2), (3, .long y4), (5, .int (x5 + 1))]) rfl ?_
    exact Hself44 _ _ _ hf
  refine A_iconst (v := 1) C dX8_price_79 (by decide) 80 rfl ?_
  refine A_goto C dX8_price_80 84 (by decide) ?_
  refine A_i2l C dX8_price_84 85 rfl ?_
  refine A_ladd C dX8_price_85 86 rfl ?_
  refine A_mmaxl C dX8_price_86 mlRX8_228 stmmaxl iniMath commaxl (by decide) (Nat.le_of_ble_eq_true rfl) 89 rfl ?_
  refine A_namL hf (fun y5 hf => ?_)
  refine A_lstore_n C dX8_price_89 (i := 3) rfl [(3, .long y5), (0, .ref (K.2.1 x0)), (1, .int x1), (2, .int x2), (5, .int x5)] (lt_nl hnl (by decide)) rfl 90 rfl ?_
  refine A_iinc (v := (x5 + 1)) C dX8_price_90 4 rfl rfl [(5, .int (x5 + 1)), (3, .long y5), (0, .ref (K.2.1 x0)), (1, .int x1), (2, .int x2)] (lt_nl hnl (by decide)) rfl 93 rfl ?_
  refine A_goto C dX8_price_93 44 (by decide) ?_
  refine A_sub [2, 3, 4, 1, 0] (lv' := [(0, .ref (K.2.1 x0)), (1, .int x1), (2, .int x2), (3, .long y5), (5, .int (x5 + 1))]) rfl ?_
  exact Hself44 _ _ _ hf
set_option maxRecDepth 20000 in
theorem mX8_price {K : KX} {x0 : Nat} {x1 : Int32} {x2 : Int32} (k0 : isK 8 x0) {h : HH} {rv : Int32} {hv : HH} (hf : fX8_price x0 x1 x2 h = some (rv, hv)) : MR K yX8_price cX8_price 6 (some .int) 4 [.ref (K.2.1 x0), .int x1, .int x2] h (some (.int rv)) hv := by
  refine MR_of (by decide) (Nat.le_of_ble_eq_true rfl) (fun G C E hnl => ?_)
  have C : Ok K G 4 cX8_price RX8 := C
  refine (show At K G 0 [(0, .ref (K.2.1 x0)), (1, .int x1), (2, .int x2)] [] h from ?_)
  unfold fX8_price at hf
  refine A_aload_n C dX8_price_0 (i := 0) rfl 0 rfl 1 rfl ?_
  refine A_iload_n C dX8_price_1 (i := 1) rfl 1 rfl 2 rfl ?_
  refine CVz C dX8_price_2 8 k0 (by decide) (r := (RX8, TX8, 19)) rfl rfl hf (fun _ _ e => mX8_isSleeper k0 e) lkRX8_160 (by decide) (by decide) rfl [] rfl (Nat.le_of_ble_eq_true rfl) 5 rfl (fun r2 h2 hf => ?_)
  refine A_z_eq C dX8_price_5 16 (by decide) 8 rfl hf (fun c5 hf => ?_) (fun c5 hf => ?_)
  · refine A_aload_n C dX8_price_16 (i := 0) rfl 0 rfl 17 rfl ?_
    refine A_iconst (v := 1) C dX8_price_17 (by decide) 18 rfl ?_
    refine CVi C dX8_price_18 8 k0 (by decide) (r := (RX8, TX8, 19)) rfl rfl hf (fun _ _ e => mX8_refuse k0 e) lkRX8_83 (by decide) (by decide) rfl [] rfl (Nat.le_of_ble_eq_true rfl) 21 rfl (fun r18 h18 hf => ?_)
    exact A_iret C dX8_price_21 E hf
  refine A_aload_n C dX8_price_8 (i := 0) rfl 0 rfl 9 rfl ?_
  refine A_iload_n C dX8_price_9 (i := 2) rfl 2 rfl 10 rfl ?_
  refine CVz C dX8_price_10 8 k0 (by decide) (r := (RX8, TX8, 19)) rfl rfl hf (fun _ _ e => mX8_isDreamFloor k0 e) lkRX8_321 (by decide) (by decide) rfl [] rfl (Nat.le_of_ble_eq_true rfl) 13 rfl (fun r10 h10 hf => ?_)
  refine A_z_ne C dX8_price_13 22 (by decide) 16 rfl hf (fun c13 hf => ?_) (fun c13 hf => ?_)
  · refine A_aload_n C dX8_price_22 (i := 0) rfl 0 rfl 23 rfl ?_
    refine gfRX8_68 C k0 dX8_price_23 hf 26 rfl (fun kp1 hf => ?_)
    refine gfRX8_349 C kp1 dX8_price_26 29 rfl ?_
    refine A_if_ne C dX8_price_29 39 (by decide) 32 rfl hf (fun c29 hf => ?_) (fun c29 hf => ?_)
    · refine A_lconst (v := 0) C dX8_price_39 (by decide) 40 rfl ?_
      refine A_lstore_n C dX8_price_40 (i := 3) rfl [(3, .long 0), (0, .ref (K.2.1 x0)), (1, .int x1), (2, .int x2)] (lt_nl hnl (by decide)) rfl 41 rfl ?_
      refine A_iconst (v := 0) C dX8_price_41 (by decide) 42 rfl ?_
      refine A_istore C dX8_price_42 [(5, .int 0), (3, .long 0), (0, .ref (K.2.1 x0)), (1, .int x1), (2, .int x2)] (lt_nl hnl (by decide)) rfl 44 rfl ?_
      refine A_sub [2, 3, 4, 1, 0] (lv' := [(0, .ref (K.2.1 x0)), (1, .int x1), (2, .int x2), (3, .long 0), (5, .int 0)]) rfl ?_
      refine lq2_at (wX8_price_L44 C hnl E k0) FU _ _ _ hf
    refine A_aload_n C dX8_price_32 (i := 0) rfl 0 rfl 33 rfl ?_
    refine A_bipush (v := 6) C dX8_price_33 (by decide) 35 rfl ?_
    refine CVi C dX8_price_35 8 k0 (by decide) (r := (RX8, TX8, 19)) rfl rfl hf (fun _ _ e => mX8_refuse k0 e) lkRX8_83 (by decide) (by decide) rfl [] rfl (Nat.le_of_ble_eq_true rfl) 38 rfl (fun r35 h35 hf => ?_)
    exact A_iret C dX8_price_38 E hf
  refine A_aload_n C dX8_price_16 (i := 0) rfl 0 rfl 17 rfl ?_
  refine A_iconst (v := 1) C dX8_price_17 (by decide) 18 rfl ?_
  refine CVi C dX8_price_18 8 k0 (by decide) (r := (RX8, TX8, 19)) rfl rfl hf (fun _ _ e => mX8_refuse k0 e) lkRX8_83 (by decide) (by decide) rfl [] rfl (Nat.le_of_ble_eq_true rfl) 21 rfl (fun r18 h18 hf => ?_)
  exact A_iret C dX8_price_21 E hf
set_option maxRecDepth 20000 in
theorem mX8_enough {K : KX} {x0 : Nat} {x1 : Int32} {x2 : Int32} (k0 : isK 8 x0) {h : HH} {rv : Int32} {hv : HH} (hf : fX8_enough x0 x1 x2 h = some (rv, hv)) : MR K yX8_enough cX8_enough 3 (some .int) 4 [.ref (K.2.1 x0), .int x1, .int x2] h (some (.int rv)) hv := by
  refine MR_of (by decide) (Nat.le_of_ble_eq_true rfl) (fun G C E hnl => ?_)
  have C : Ok K G 4 cX8_enough RX8 := C
  refine (show At K G 0 [(0, .ref (K.2.1 x0)), (1, .int x1), (2, .int x2)] [] h from ?_)
  unfold fX8_enough at hf
  refine A_aload_n C dX8_enough_0 (i := 0) rfl 0 rfl 1 rfl ?_
  refine A_iload_n C dX8_enough_1 (i := 1) rfl 1 rfl 2 rfl ?_
  refine CVz C dX8_enough_2 8 k0 (by decide) (r := (RX8, TX8, 19)) rfl rfl hf (fun _ _ e => mX8_isSleeper k0 e) lkRX8_160 (by decide) (by decide) rfl [] rfl (Nat.le_of_ble_eq_true rfl) 5 rfl (fun r2 h2 hf => ?_)
  refine A_z_eq C dX8_enough_5 16 (by decide) 8 rfl hf (fun c5 hf => ?_) (fun c5 hf => ?_)
  · refine A_aload_n C dX8_enough_16 (i := 0) rfl 0 rfl 17 rfl ?_
    refine A_iconst (v := 1) C dX8_enough_17 (by decide) 18 rfl ?_
    refine CVi C dX8_enough_18 8 k0 (by decide) (r := (RX8, TX8, 19)) rfl rfl hf (fun _ _ e => mX8_refuse k0 e) lkRX8_83 (by decide) (by decide) rfl [] rfl (Nat.le_of_ble_eq_true rfl) 21 rfl (fun r18 h18 hf => ?_)
    exact A_iret C dX8_enough_21 E hf
  refine A_aload_n C dX8_enough_8 (i := 0) rfl 0 rfl 9 rfl ?_
  refine A_iload_n C dX8_enough_9 (i := 2) rfl 2 rfl 10 rfl ?_
  refine CVz C dX8_enough_10 8 k0 (by decide) (r := (RX8, TX8, 19)) rfl rfl hf (fun _ _ e => mX8_isDreamFloor k0 e) lkRX8_321 (by decide) (by decide) rfl [] rfl (Nat.le_of_ble_eq_true rfl) 13 rfl (fun r10 h10 hf => ?_)
  refine A_z_ne C dX8_enough_13 22 (by decide) 16 rfl hf (fun c13 hf => ?_) (fun c13 hf => ?_)
  · refine A_aload_n C dX8_enough_22 (i := 0) rfl 0 rfl 23 rfl ?_
    refine A_aload_n C dX8_enough_23 (i := 0) rfl 0 rfl 24 rfl ?_
    refine A_iload_n C dX8_enough_24 (i := 1) rfl 1 rfl 25 rfl ?_
    refine A_iload_n C dX8_enough_25 (i := 2) rfl 2 rfl 26 rfl ?_
    refine A_lconst (v := 1) C dX8_enough_26 (by decide) 27 rfl ?_
    refine CVi C dX8_enough_27 8 k0 (by decide) (r := (RX8, TX8, 19)) rfl rfl hf (fun _ _ e => mX8_leastPay k0 e) lkRX8_352 (by decide) (by decide) rfl [.ref (K.2.1 x0)] rfl (Nat.le_of_ble_eq_true rfl) 30 rfl (fun r27 h27 hf => ?_)
    refine CVi C dX8_enough_30 8 k0 (by decide) (r := (RX8, TX8, 19)) rfl rfl hf (fun _ _ e => mX8_allow k0 e) lkRX8_125 (by decide) (by decide) rfl [] rfl (Nat.le_of_ble_eq_true rfl) 33 rfl (fun r30 h30 hf => ?_)
    exact A_iret C dX8_enough_33 E hf
  refine A_aload_n C dX8_enough_16 (i := 0) rfl 0 rfl 17 rfl ?_
  refine A_iconst (v := 1) C dX8_enough_17 (by decide) 18 rfl ?_
  refine CVi C dX8_enough_18 8 k0 (by decide) (r := (RX8, TX8, 19)) rfl rfl hf (fun _ _ e => mX8_refuse k0 e) lkRX8_83 (by decide) (by decide) rfl [] rfl (Nat.le_of_ble_eq_true rfl) 21 rfl (fun r18 h18 hf => ?_)
  exact A_iret C dX8_enough_21 E hf
set_option maxRecDepth 20000 in
theorem mX8_rates {K : KX} {x0 : Nat} (k0 : isK 8 x0) {h : HH} {rv : Int32} {hv : HH} (hf : fX8_rates x0 h = some (rv, hv)) : MR K yX8_rates cX8_rates 1 (some .int) 9 [.ref (K.2.1 x0)] h (some (.int rv)) hv := by
  refine MR_of (by decide) (Nat.le_of_ble_eq_true rfl) (fun G C E hnl => ?_)
  have C : Ok K G 9 cX8_rates RX8 := C
  refine (show At K G 0 [(0, .ref (K.2.1 x0))] [] h from ?_)
  unfold fX8_rates at hf
  refine A_aload_n C dX8_rates_0 (i := 0) rfl 0 rfl 1 rfl ?_
  refine gfRX8_98 C k0 dX8_rates_1 4 rfl ?_
  refine A_if_ne C dX8_rates_4 13 (by decide) 7 rfl hf (fun c4 hf => ?_) (fun c4 hf => ?_)
  · refine A_aload_n C dX8_rates_13 (i := 0) rfl 0 rfl 14 rfl ?_
    refine gfRX8_54 C k0 dX8_rates_14 17 rfl ?_
    refine A_aload_n C dX8_rates_17 (i := 0) rfl 0 rfl 18 rfl ?_
    refine gfRX8_68 C k0 dX8_rates_18 hf 21 rfl (fun kp1 hf => ?_)
    refine CVv C dX8_rates_21 1 (of_8_7 k0) (by decide) (r := (RX1, TX1, 4)) rfl rfl hf (fun _ e => mX1_make (of_8_7 k0) kp1 e) lkRX8_361 (by decide) (by decide) rfl [] rfl (Nat.le_of_ble_eq_true rfl) 24 rfl (fun h21 hf => ?_)
    refine A_aload_n C dX8_rates_24 (i := 0) rfl 0 rfl 25 rfl ?_
    refine A_aload_n C dX8_rates_25 (i := 0) rfl 0 rfl 26 rfl ?_
    refine gfRX8_54 C k0 dX8_rates_26 29 rfl ?_
    refine gfRX8_362 C (of_8_7 k0) dX8_rates_29 32 rfl ?_
    refine CVi C dX8_rates_32 8 k0 (by decide) (r := (RX8, TX8, 19)) rfl rfl hf (fun _ _ e => mX8_allow k0 e) lkRX8_125 (by decide) (by decide) rfl [] rfl (Nat.le_of_ble_eq_true rfl) 35 rfl (fun r32 h32 hf => ?_)
    exact A_iret C dX8_rates_35 E hf
  refine A_aload_n C dX8_rates_7 (i := 0) rfl 0 rfl 8 rfl ?_
  refine A_iconst (v := 1) C dX8_rates_8 (by decide) 9 rfl ?_
  refine CVi C dX8_rates_9 8 k0 (by decide) (r := (RX8, TX8, 19)) rfl rfl hf (fun _ _ e => mX8_refuse k0 e) lkRX8_83 (by decide) (by decide) rfl [] rfl (Nat.le_of_ble_eq_true rfl) 12 rfl (fun r9 h9 hf => ?_)
  exact A_iret C dX8_rates_12 E hf
set_option maxRecDepth 20000 in
theorem mX8_rate {K : KX} {x0 : Nat} {x1 : Int32} (k0 : isK 8 x0) {h : HH} {rv : Int32} {hv : HH} (hf : fX8_rate x0 x1 h = some (rv, hv)) : MR K yX8_rate cX8_rate 2 (some .int) 9 [.ref (K.2.1 x0), .int x1] h (some (.int rv)) hv := by
  refine MR_of (by decide) (Nat.le_of_ble_eq_true rfl) (fun G C E hnl => ?_)
  have C : Ok K G 9 cX8_rate RX8 := C
  refine (show At K G 0 [(0, .ref (K.2.1 x0)), (1, .int x1)] [] h from ?_)
  unfold fX8_rate at hf
  refine A_aload_n C dX8_rate_0 (i := 0) rfl 0 rfl 1 rfl ?_
  refine A_iload_n C dX8_rate_1 (i := 1) rfl 1 rfl 2 rfl ?_
  refine CVz C dX8_rate_2 8 k0 (by decide) (r := (RX8, TX8, 19)) rfl rfl hf (fun _ _ e => mX8_isDreamFloor k0 e) lkRX8_321 (by decide) (by decide) rfl [] rfl (Nat.le_of_ble_eq_true rfl) 5 rfl (fun r2 h2 hf => ?_)
  refine A_z_ne C dX8_rate_5 14 (by decide) 8 rfl hf (fun c5 hf => ?_) (fun c5 hf => ?_)
  · refine A_aload_n C dX8_rate_14 (i := 0) rfl 0 rfl 15 rfl ?_
    refine gfRX8_54 C k0 dX8_rate_15 18 rfl ?_
    refine A_aload_n C dX8_rate_18 (i := 0) rfl 0 rfl 19 rfl ?_
    refine gfRX8_68 C k0 dX8_rate_19 hf 22 rfl (fun kp1 hf => ?_)
    refine CVv C dX8_rate_22 1 (of_8_7 k0) (by decide) (r := (RX1, TX1, 4)) rfl rfl hf (fun _ e => mX1_make (of_8_7 k0) kp1 e) lkRX8_361 (by decide) (by decide) rfl [] rfl (Nat.le_of_ble_eq_true rfl) 25 rfl (fun h22 hf => ?_)
    refine A_aload_n C dX8_rate_25 (i := 0) rfl 0 rfl 26 rfl ?_
    refine A_aload_n C dX8_rate_26 (i := 0) rfl 0 rfl 27 rfl ?_
    refine gfRX8_54 C k0 dX8_rate_27 30 rfl ?_
    refine A_iload_n C dX8_rate_30 (i := 1) rfl 1 rfl 31 rfl ?_
    refine CVi C dX8_rate_31 1 (of_8_7 k0) (by decide) (r := (RX1, TX1, 4)) rfl rfl hf (fun _ _ e => mX1_onlyRate (of_8_7 k0) e) lkRX8_365 (by decide) (by decide) rfl [.ref (K.2.1 x0)] rfl (Nat.le_of_ble_eq_true rfl) 34 rfl (fun r31 h31 hf => ?_)
    refine CVi C dX8_rate_34 8 k0 (by decide) (r := (RX8, TX8, 19)) rfl rfl hf (fun _ _ e => mX8_allow k0 e) lkRX8_125 (by decide) (by decide) rfl [] rfl (Nat.le_of_ble_eq_true rfl) 37 rfl (fun r34 h34 hf => ?_)
    exact A_iret C dX8_rate_37 E hf
  refine A_aload_n C dX8_rate_8 (i := 0) rfl 0 rfl 9 rfl ?_
  refine A_iconst (v := 1) C dX8_rate_9 (by decide) 10 rfl ?_
  refine CVi C dX8_rate_10 8 k0 (by decide) (r := (RX8, TX8, 19)) rfl rfl hf (fun _ _ e => mX8_refuse k0 e) lkRX8_83 (by decide) (by decide) rfl [] rfl (Nat.le_of_ble_eq_true rfl) 13 rfl (fun r10 h10 hf => ?_)
  exact A_iret C dX8_rate_13 E hf
set_option maxRecDepth 20000 in
theorem wX8_hundreds_L4 {K : KX} {G : GX} (C : Ok K G 1 cX8_hundreds RX8) (hnl : G.2.2.2.2.2.2.2.2.2.2.2.2.2 = 4) {rv : Int64} {hv : HH} (E : Endd K G (some .long) (some (.long rv)) hv) {x0 : Int32}    : ∀ (self4 : Int64 → Int32 → HH → Option (Int64 × HH)), (∀ (x1 : Int64) (x3 : Int32) (h : HH), self4 x1 x3 h = some (rv, hv) → At K G 4 [(0, .int x0), (1, .long x1), (3, .int x3)] [] h) → ∀ (x1 : Int64) (x3 : Int32) (h : HH), fX8_hundreds_L4 x0 self4 x1 x3 h = some (rv, hv) → At K G 4 [(0, .int x0), (1, .long x1), (3, .int x3)] [] h := by
  intro self4 Hself4 x1 x3 h hf
  unfold fX8_hundreds_L4 at hf
  refine A_iload_n C dX8_hundreds_4 (i := 3) rfl 2 rfl 5 rfl ?_
  refine A_iload_n C dX8_hundreds_5 (i := 0) rfl 0 rfl 6 rfl ?_
  refine A_icmp_ge C dX8_hundreds_6 21 (by decide) 9 rfl hf (fun c6 hf => ?_) (fun c6 hf => ?_)
  · refine A_lload_n C dX8_hundreds_21 (i := 1) rfl 1 rfl 22 rfl ?_
    exact A_lret C dX8_hundreds_22 E hf
  refine A_lload_n C dX8_hundreds_9 (i := 1) rfl 1 rfl 10 rfl ?_
  refine A_ldc2 C dX8_hundreds_10 cRX8_374 13 rfl ?_
  refine A_lmul C dX8_hundreds_13 14 rfl ?_
  refine A_namL hf (fun y1 hf => ?_)
  refine A_lstore_n C dX8_hundreds_14 (i := 1) rfl [(1, .long y1), (0, .int x0), (3, .int x3)] (lt_nl hnl (by decide)) rfl 15 rfl ?_
  refine A_iinc (v := (x3 + 1)) C dX8_hundreds_15 2 rfl rfl [(3, .int (x3 + 1)), (1, .long y1), (0, .int x0)] (lt_nl hnl (by decide)) rfl 18 rfl ?_
  refine A_goto C dX8_hundreds_18 4 (by decide) ?_
  refine A_sub [2, 1, 0] (lv' := [(0, .int x0), (1, .long y1), (3, .int (x3 + 1))]) rfl ?_
  exact Hself4 _ _ _ hf
set_option maxRecDepth 20000 in
theorem mX8_hundreds {K : KX} {x0 : Int32}  {h : HH} {rv : Int64} {hv : HH} (hf : fX8_hundreds x0 h = some (rv, hv)) : MR K yX8_hundreds cX8_hundreds 4 (some .long) 1 [.int x0] h (some (.long rv)) hv := by
  refine MR_of (by decide) (Nat.le_of_ble_eq_true rfl) (fun G C E hnl => ?_)
  have C : Ok K G 1 cX8_hundreds RX8 := C
  refine (show At K G 0 [(0, .int x0)] [] h from ?_)
  unfold fX8_hundreds at hf
  refine A_lconst (v := 1) C dX8_hundreds_0 (by decide) 1 rfl ?_
  refine A_lstore_n C dX8_hundreds_1 (i := 1) rfl [(1, .long 1), (0, .int x0)] (lt_nl hnl (by decide)) rfl 2 rfl ?_
  refine A_iconst (v := 0) C dX8_hundreds_2 (by decide) 3 rfl ?_
  refine A_istore_n C dX8_hundreds_3 (i := 3) rfl [(3, .int 0), (1, .long 1), (0, .int x0)] (lt_nl hnl (by decide)) rfl 4 rfl ?_
  refine A_sub [2, 1, 0] (lv' := [(0, .int x0), (1, .long 1), (3, .int 0)]) rfl ?_
  refine lq2_at (wX8_hundreds_L4 C hnl E ) FU _ _ _ hf
set_option maxRecDepth 20000 in
theorem mX8_wakingParts_0 {K : KX} {rk : Nat} (hrk0 : 2 ≤ rk) {rec : Int32 → Int32 → Int32 → HH → Option (Int64 × HH)} (Hrec : ∀ (x0 : Int32) (x1 : Int32) (x2 : Int32)  (h : HH) (rv : Int64) (hv : HH), rec x0 x1 x2 h = some (rv, hv) → MR K yX8_wakingParts cX8_wakingParts 3 (some .long) rk [.int x0, .int x1, .int x2] h (some (.long rv)) hv) {x0 : Int32} {x1 : Int32} {x2 : Int32}  {h : HH} {rv : Int64} {hv : HH} (hf : fX8_wakingParts_0 rec x0 x1 x2 h = some (rv, hv)) : MR K yX8_wakingParts cX8_wakingParts 3 (some .long) (rk + 1) [.int x0, .int x1, .int x2] h (some (.long rv)) hv := by
  refine MR_of (by decide) (Nat.le_of_ble_eq_true rfl) (fun G C E hnl => ?_)
  have C : Ok K G (rk + 1) cX8_wakingParts RX8 := C
  refine (show At K G 0 [(0, .int x0), (1, .int x1), (2, .int x2)] [] h from ?_)
  unfold fX8_wakingParts_0 at hf
  refine A_iload_n C dX8_wakingParts_0 (i := 0) rfl 0 rfl 1 rfl ?_
  refine A_if_gt C dX8_wakingParts_1 9 (by decide) 4 rfl hf (fun c1 hf => ?_) (fun c1 hf => ?_)
  · refine A_iload_n C dX8_wakingParts_9 (i := 1) rfl 1 rfl 10 rfl ?_
    refine A_if_gt C dX8_wakingParts_10 15 (by decide) 13 rfl hf (fun c10 hf => ?_) (fun c10 hf => ?_)
    · refine A_iload_n C dX8_wakingParts_15 (i := 2) rfl 2 rfl 16 rfl ?_
      refine A_i2l C dX8_wakingParts_16 17 rfl ?_
      refine A_iload_n C dX8_wakingParts_17 (i := 0) rfl 0 rfl 18 rfl ?_
      refine A_iconst (v := 1) C dX8_wakingParts_18 (by decide) 19 rfl ?_
      refine A_isub C dX8_wakingParts_19 20 rfl ?_
      refine A_iload_n C dX8_wakingParts_20 (i := 1) rfl 1 rfl 21 rfl ?_
      refine A_iconst (v := 1) C dX8_wakingParts_21 (by decide) 22 rfl ?_
      refine A_isub C dX8_wakingParts_22 23 rfl ?_
      refine A_iload_n C dX8_wakingParts_23 (i := 2) rfl 2 rfl 24 rfl ?_
      refine CSl C dX8_wakingParts_24 hf (fun _ _ e => Hrec (x0 - 1) (x1 - 1) x2  _ _ _ e) lkRX8_368 (Nat.le_refl _) (by decide) rfl [.long x2.toInt64] rfl (Nat.le_of_ble_eq_true rfl) 27 rfl (fun r24 h24 hf => ?_)
      refine A_lmul C dX8_wakingParts_27 28 rfl ?_
      refine A_bipush (v := 100) C dX8_wakingParts_28 (by decide) 30 rfl ?_
      refine A_iload_n C dX8_wakingParts_30 (i := 2) rfl 2 rfl 31 rfl ?_
      refine A_isub C dX8_wakingParts_31 32 rfl ?_
      refine A_i2l C dX8_wakingParts_32 33 rfl ?_
      refine A_iload_n C dX8_wakingParts_33 (i := 0) rfl 0 rfl 34 rfl ?_
      refine A_iload_n C dX8_wakingParts_34 (i := 1) rfl 1 rfl 35 rfl ?_
      refine A_iconst (v := 1) C dX8_wakingParts_35 (by decide) 36 rfl ?_
      refine A_isub C dX8_wakingParts_36 37 rfl ?_
      refine A_iload_n C dX8_wakingParts_37 (i := 2) rfl 2 rfl 38 rfl ?_
      refine CSl C dX8_wakingParts_38 hf (fun _ _ e => Hrec x0 (x1 - 1) x2  _ _ _ e) lkRX8_368 (Nat.le_refl _) (by decide) rfl [.long ((((100 : Int32) - x2)).toInt64), .long (x2.toInt64 * r24)] rfl (Nat.le_of_ble_eq_true rfl) 41 rfl (fun r38 h38 hf => ?_)
      refine A_lmul C dX8_wakingParts_41 42 rfl ?_
      refine A_ladd C dX8_wakingParts_42 43 rfl ?_
      exact A_lret C dX8_wakingParts_43 E hf
    refine A_lconst (v := 0) C dX8_wakingParts_13 (by decide) 14 rfl ?_
    exact A_lret C dX8_wakingParts_14 E hf
  refine A_iload_n C dX8_wakingParts_4 (i := 1) rfl 1 rfl 5 rfl ?_
  refine CSl C dX8_wakingParts_5 hf (fun _ _ e => mX8_hundreds  e) lkRX8_371 (by omega) (by decide) rfl [] rfl (Nat.le_of_ble_eq_true rfl) 8 rfl (fun r5 h5 hf => ?_)
  exact A_lret C dX8_wakingParts_8 E hf
theorem mX8_wakingParts {K : KX} (dp : Nat) {x0 : Int32} {x1 : Int32} {x2 : Int32}  {h : HH} {rv : Int64} {hv : HH} (hf : fX8_wakingParts dp x0 x1 x2 h = some (rv, hv)) : MR K yX8_wakingParts cX8_wakingParts 3 (some .long) (2 + dp) [.int x0, .int x1, .int x2] h (some (.long rv)) hv := by
  have hq := lq3_rec (f := fX8_wakingParts_0) (P := fun n x0 x1 x2 h q => MR K yX8_wakingParts cX8_wakingParts 3 (some .long) (2 + n) [.int x0, .int x1, .int x2] h (some (.long q.1)) q.2) (fun n self ih x0 x1 x2 h q hf  => mX8_wakingParts_0 (rk := 2 + n) (Nat.le_add_right _ _) (rec := self) (fun x0 x1 x2  h rv hv e => ih x0 x1 x2 h (rv, hv) e )  hf) dp x0 x1 x2 h _ hf
  exact hq 
set_option maxRecDepth 20000 in
theorem mX8_waking {K : KX} {x0 : Nat} {x1 : Int32} {x2 : Int32} {x3 : Int32} {x4 : Bool} (k0 : isK 8 x0) {h : HH} {rv : Int64} {hv : HH} (hf : fX8_waking x0 x1 x2 x3 x4 h = some (rv, hv)) : MR K yX8_waking cX8_waking 7 (some .long) 17 [.ref (K.2.1 x0), .int x1, .int x2, .int x3, .int (b2i x4)] h (some (.long rv)) hv := by
  refine MR_of (by decide) (Nat.le_of_ble_eq_true rfl) (fun G C E hnl => ?_)
  have C : Ok K G 17 cX8_waking RX8 := C
  refine (show At K G 0 [(0, .ref (K.2.1 x0)), (1, .int x1), (2, .int x2), (3, .int x3), (4, .int (b2i x4))] [] h from ?_)
  unfold fX8_waking at hf
  refine A_aload_n C dX8_waking_0 (i := 0) rfl 0 rfl 1 rfl ?_
  refine A_iload_n C dX8_waking_1 (i := 1) rfl 1 rfl 2 rfl ?_
  refine CVz C dX8_waking_2 8 k0 (by decide) (r := (RX8, TX8, 19)) rfl rfl hf (fun _ _ e => mX8_isSleeper k0 e) lkRX8_160 (by decide) (by decide) rfl [] rfl (Nat.le_of_ble_eq_true rfl) 5 rfl (fun r2 h2 hf => ?_)
  refine A_z_eq C dX8_waking_5 16 (by decide) 8 rfl hf (fun c5 hf => ?_) (fun c5 hf => ?_)
  · refine A_aload_n C dX8_waking_16 (i := 0) rfl 0 rfl 17 rfl ?_
    refine A_iconst (v := 1) C dX8_waking_17 (by decide) 18 rfl ?_
    refine CVi C dX8_waking_18 8 k0 (by decide) (r := (RX8, TX8, 19)) rfl rfl hf (fun _ _ e => mX8_refuse k0 e) lkRX8_83 (by decide) (by decide) rfl [] rfl (Nat.le_of_ble_eq_true rfl) 21 rfl (fun r18 h18 hf => ?_)
    refine A_i2l C dX8_waking_21 22 rfl ?_
    exact A_lret C dX8_waking_22 E hf
  refine A_aload_n C dX8_waking_8 (i := 0) rfl 0 rfl 9 rfl ?_
  refine A_iload_n C dX8_waking_9 (i := 2) rfl 2 rfl 10 rfl ?_
  refine CVz C dX8_waking_10 8 k0 (by decide) (r := (RX8, TX8, 19)) rfl rfl hf (fun _ _ e => mX8_isFloor k0 e) lkRX8_131 (by decide) (by decide) rfl [] rfl (Nat.le_of_ble_eq_true rfl) 13 rfl (fun r10 h10 hf => ?_)
  refine A_z_ne C dX8_waking_13 23 (by decide) 16 rfl hf (fun c13 hf => ?_) (fun c13 hf => ?_)
  · refine A_iload_n C dX8_waking_23 (i := 3) rfl 3 rfl 24 rfl ?_
    refine A_if_lt C dX8_waking_24 33 (by decide) 27 rfl hf (fun c24 hf => ?_) (fun c24 hf => ?_)
    · refine A_aload_n C dX8_waking_33 (i := 0) rfl 0 rfl 34 rfl ?_
      refine A_iconst (v := 2) C dX8_waking_34 (by decide) 35 rfl ?_
      refine CVi C dX8_waking_35 8 k0 (by decide) (r := (RX8, TX8, 19)) rfl rfl hf (fun _ _ e => mX8_refuse k0 e) lkRX8_83 (by decide) (by decide) rfl [] rfl (Nat.le_of_ble_eq_true rfl) 38 rfl (fun r35 h35 hf => ?_)
      refine A_i2l C dX8_waking_38 39 rfl ?_
      exact A_lret C dX8_waking_39 E hf
    refine A_iload_n C dX8_waking_27 (i := 3) rfl 3 rfl 28 rfl ?_
    refine A_bipush (v := 8) C dX8_waking_28 (by decide) 30 rfl ?_
    refine A_icmp_le C dX8_waking_30 40 (by decide) 33 rfl hf (fun c30 hf => ?_) (fun c30 hf => ?_)
    · refine A_iload_n C dX8_waking_40 (i := 2) rfl 2 rfl 41 rfl ?_
      refine A_iload_n C dX8_waking_41 (i := 3) rfl 3 rfl 42 rfl ?_
      refine A_aload_n C dX8_waking_42 (i := 0) rfl 0 rfl 43 rfl ?_
      refine gfRX8_68 C k0 dX8_waking_43 hf 46 rfl (fun kp1 hf => ?_)
      refine gfRX8_116 C kp1 dX8_waking_46 49 rfl ?_
      refine A_iload_n C dX8_waking_49 (i := 1) rfl 1 rfl 50 rfl ?_
      refine A_iconst (v := 3) C dX8_waking_50 (by decide) 51 rfl ?_
      refine CVi C dX8_waking_51 7 (of_0_3 kp1) (by decide) (r := (RX7, TX7, 4)) rfl rfl hf (fun _ _ e => mX7_at (of_0_3 kp1) e) lkRX8_177 (by decide) (by decide) rfl [.int x3, .int x2] rfl (Nat.le_of_ble_eq_true rfl) 54 rfl (fun r51 h51 hf => ?_)
      refine CSl C dX8_waking_54 hf (fun _ _ e => mX8_wakingParts 14  e) lkRX8_368 (by decide) (by decide) rfl [] rfl (Nat.le_of_ble_eq_true rfl) 57 rfl (fun r54 h54 hf => ?_)
      refine A_lstore C dX8_waking_57 [(5, .long r54), (0, .ref (K.2.1 x0)), (1, .int x1), (2, .int x2), (3, .int x3), (4, .int (b2i x4))] (lt_nl hnl (by decide)) rfl 59 rfl ?_
      refine A_aload_n C dX8_waking_59 (i := 0) rfl 1 rfl 60 rfl ?_
      refine A_lload C dX8_waking_60 0 rfl 62 rfl ?_
      refine A_iload_n C dX8_waking_62 (i := 3) rfl 4 rfl 63 rfl ?_
      refine CSl C dX8_waking_63 hf (fun _ _ e => mX8_hundreds  e) lkRX8_371 (by decide) (by decide) rfl [.long r54, .ref (K.2.1 x0)] rfl (Nat.le_of_ble_eq_true rfl) 66 rfl (fun r63 h63 hf => ?_)
      refine A_iload C dX8_waking_66 5 rfl 68 rfl ?_
      refine CSl C dX8_waking_68 hf (fun _ _ e => mX8_inLowestTerms  e) lkRX8_156 (by decide) (by decide) rfl [.ref (K.2.1 x0)] rfl (Nat.le_of_ble_eq_true rfl) 71 rfl (fun r68 h68 hf => ?_)
      refine CVl C dX8_waking_71 8 k0 (by decide) (r := (RX8, TX8, 19)) rfl rfl hf (fun _ _ e => mX8_allow_ k0 e) lkRX8_142 (by decide) (by decide) rfl [] rfl (Nat.le_of_ble_eq_true rfl) 74 rfl (fun r71 h71 hf => ?_)
      exact A_lret C dX8_waking_74 E hf
    refine A_aload_n C dX8_waking_33 (i := 0) rfl 0 rfl 34 rfl ?_
    refine A_iconst (v := 2) C dX8_waking_34 (by decide) 35 rfl ?_
    refine CVi C dX8_waking_35 8 k0 (by decide) (r := (RX8, TX8, 19)) rfl rfl hf (fun _ _ e => mX8_refuse k0 e) lkRX8_83 (by decide) (by decide) rfl [] rfl (Nat.le_of_ble_eq_true rfl) 38 rfl (fun r35 h35 hf => ?_)
    refine A_i2l C dX8_waking_38 39 rfl ?_
    exact A_lret C dX8_waking_39 E hf
  refine A_aload_n C dX8_waking_16 (i := 0) rfl 0 rfl 17 rfl ?_
  refine A_iconst (v := 1) C dX8_waking_17 (by decide) 18 rfl ?_
  refine CVi C dX8_waking_18 8 k0 (by decide) (r := (RX8, TX8, 19)) rfl rfl hf (fun _ _ e => mX8_refuse k0 e) lkRX8_83 (by decide) (by decide) rfl [] rfl (Nat.le_of_ble_eq_true rfl) 21 rfl (fun r18 h18 hf => ?_)
  refine A_i2l C dX8_waking_21 22 rfl ?_
  exact A_lret C dX8_waking_22 E hf
set_option maxRecDepth 20000 in
theorem mX8_mean {K : KX} {x0 : Nat} {x1 : Int32} {x2 : Int32} {x3 : Bool} (k0 : isK 8 x0) {h : HH} {rv : Int64} {hv : HH} (hf : fX8_mean x0 x1 x2 x3 h = some (rv, hv)) : MR K yX8_mean cX8_mean 5 (some .long) 3 [.ref (K.2.1 x0), .int x1, .int x2, .int (b2i x3)] h (some (.long rv)) hv := by
  refine MR_of (by decide) (Nat.le_of_ble_eq_true rfl) (fun G C E hnl => ?_)
  have C : Ok K G 3 cX8_mean RX8 := C
  refine (show At K G 0 [(0, .ref (K.2.1 x0)), (1, .int x1), (2, .int x2), (3, .int (b2i x3))] [] h from ?_)
  unfold fX8_mean at hf
  refine A_aload_n C dX8_mean_0 (i := 0) rfl 0 rfl 1 rfl ?_
  refine A_iload_n C dX8_mean_1 (i := 1) rfl 1 rfl 2 rfl ?_
  refine CVz C dX8_mean_2 8 k0 (by decide) (r := (RX8, TX8, 19)) rfl rfl hf (fun _ _ e => mX8_isSleeper k0 e) lkRX8_160 (by decide) (by decide) rfl [] rfl (Nat.le_of_ble_eq_true rfl) 5 rfl (fun r2 h2 hf => ?_)
  refine A_z_eq C dX8_mean_5 16 (by decide) 8 rfl hf (fun c5 hf => ?_) (fun c5 hf => ?_)
  · refine A_aload_n C dX8_mean_16 (i := 0) rfl 0 rfl 17 rfl ?_
    refine A_iconst (v := 1) C dX8_mean_17 (by decide) 18 rfl ?_
    refine CVi C dX8_mean_18 8 k0 (by decide) (r := (RX8, TX8, 19)) rfl rfl hf (fun _ _ e => mX8_refuse k0 e) lkRX8_83 (by decide) (by decide) rfl [] rfl (Nat.le_of_ble_eq_true rfl) 21 rfl (fun r18 h18 hf => ?_)
    refine A_i2l C dX8_mean_21 22 rfl ?_
    exact A_lret C dX8_mean_22 E hf
  refine A_aload_n C dX8_mean_8 (i := 0) rfl 0 rfl 9 rfl ?_
  refine A_iload_n C dX8_mean_9 (i := 2) rfl 2 rfl 10 rfl ?_
  refine CVz C dX8_mean_10 8 k0 (by decide) (r := (RX8, TX8, 19)) rfl rfl hf (fun _ _ e => mX8_isFloor k0 e) lkRX8_131 (by decide) (by decide) rfl [] rfl (Nat.le_of_ble_eq_true rfl) 13 rfl (fun r10 h10 hf => ?_)
  refine A_z_ne C dX8_mean_13 23 (by decide) 16 rfl hf (fun c13 hf => ?_) (fun c13 hf => ?_)
  · refine A_aload_n C dX8_mean_23 (i := 0) rfl 0 rfl 24 rfl ?_
    refine gfRX8_68 C k0 dX8_mean_24 hf 27 rfl (fun kp1 hf => ?_)
    refine gfRX8_116 C kp1 dX8_mean_27 30 rfl ?_
    refine A_iload_n C dX8_mean_30 (i := 1) rfl 1 rfl 31 rfl ?_
    refine A_iconst (v := 3) C dX8_mean_31 (by decide) 32 rfl ?_
    refine CVi C dX8_mean_32 7 (of_0_3 kp1) (by decide) (r := (RX7, TX7, 4)) rfl rfl hf (fun _ _ e => mX7_at (of_0_3 kp1) e) lkRX8_177 (by decide) (by decide) rfl [] rfl (Nat.le_of_ble_eq_true rfl) 35 rfl (fun r32 h32 hf => ?_)
    refine A_istore C dX8_mean_35 [(4, .int r32), (0, .ref (K.2.1 x0)), (1, .int x1), (2, .int x2), (3, .int (b2i x3))] (lt_nl hnl (by decide)) rfl 37 rfl ?_
    refine A_iload_n C dX8_mean_37 (i := 2) rfl 3 rfl 38 rfl ?_
    refine A_if_le C dX8_mean_38 54 (by decide) 41 rfl hf (fun c38 hf => ?_) (fun c38 hf => ?_)
    · refine A_aload_n C dX8_mean_54 (i := 0) rfl 1 rfl 55 rfl ?_
      refine A_ldc2 C dX8_mean_55 cRX8_374 58 rfl ?_
      refine A_iload_n C dX8_mean_58 (i := 2) rfl 3 rfl 59 rfl ?_
      refine A_i2l C dX8_mean_59 60 rfl ?_
      refine A_lmul C dX8_mean_60 61 rfl ?_
      refine A_iload C dX8_mean_61 0 rfl 63 rfl ?_
      refine A_i2l C dX8_mean_63 64 rfl ?_
      refine A_iload_n C dX8_mean_64 (i := 3) rfl 4 rfl 65 rfl ?_
      refine CSl C dX8_mean_65 hf (fun _ _ e => mX8_inLowestTerms  e) lkRX8_156 (by decide) (by decide) rfl [.ref (K.2.1 x0)] rfl (Nat.le_of_ble_eq_true rfl) 68 rfl (fun r65 h65 hf => ?_)
      refine CVl C dX8_mean_68 8 k0 (by decide) (r := (RX8, TX8, 19)) rfl rfl hf (fun _ _ e => mX8_allow_ k0 e) lkRX8_142 (by decide) (by decide) rfl [] rfl (Nat.le_of_ble_eq_true rfl) 71 rfl (fun r68 h68 hf => ?_)
      exact A_lret C dX8_mean_71 E hf
    refine A_iload C dX8_mean_41 0 rfl 43 rfl ?_
    refine A_if_ne C dX8_mean_43 54 (by decide) 46 rfl hf (fun c43 hf => ?_) (fun c43 hf => ?_)
    · refine A_aload_n C dX8_mean_54 (i := 0) rfl 1 rfl 55 rfl ?_
      refine A_ldc2 C dX8_mean_55 cRX8_374 58 rfl ?_
      refine A_iload_n C dX8_mean_58 (i := 2) rfl 3 rfl 59 rfl ?_
      refine A_i2l C dX8_mean_59 60 rfl ?_
      refine A_lmul C dX8_mean_60 61 rfl ?_
      refine A_iload C dX8_mean_61 0 rfl 63 rfl ?_
      refine A_i2l C dX8_mean_63 64 rfl ?_
      refine A_iload_n C dX8_mean_64 (i := 3) rfl 4 rfl 65 rfl ?_
      refine CSl C dX8_mean_65 hf (fun _ _ e => mX8_inLowestTerms  e) lkRX8_156 (by decide) (by decide) rfl [.ref (K.2.1 x0)] rfl (Nat.le_of_ble_eq_true rfl) 68 rfl (fun r65 h65 hf => ?_)
      refine CVl C dX8_mean_68 8 k0 (by decide) (r := (RX8, TX8, 19)) rfl rfl hf (fun _ _ e => mX8_allow_ k0 e) lkRX8_142 (by decide) (by decide) rfl [] rfl (Nat.le_of_ble_eq_true rfl) 71 rfl (fun r68 h68 hf => ?_)
      exact A_lret C dX8_mean_71 E hf
    refine A_aload_n C dX8_mean_46 (i := 0) rfl 1 rfl 47 rfl ?_
    refine A_bipush (v := (-2)) C dX8_mean_47 (by decide) 49 rfl ?_
    refine CVi C dX8_mean_49 8 k0 (by decide) (r := (RX8, TX8, 19)) rfl rfl hf (fun _ _ e => mX8_allow k0 e) lkRX8_125 (by decide) (by decide) rfl [] rfl (Nat.le_of_ble_eq_true rfl) 52 rfl (fun r49 h49 hf => ?_)
    refine A_i2l C dX8_mean_52 53 rfl ?_
    exact A_lret C dX8_mean_53 E hf
  refine A_aload_n C dX8_mean_16 (i := 0) rfl 0 rfl 17 rfl ?_
  refine A_iconst (v := 1) C dX8_mean_17 (by decide) 18 rfl ?_
  refine CVi C dX8_mean_18 8 k0 (by decide) (r := (RX8, TX8, 19)) rfl rfl hf (fun _ _ e => mX8_refuse k0 e) lkRX8_83 (by decide) (by decide) rfl [] rfl (Nat.le_of_ble_eq_true rfl) 21 rfl (fun r18 h18 hf => ?_)
  refine A_i2l C dX8_mean_21 22 rfl ?_
  exact A_lret C dX8_mean_22 E hf
set_option maxRecDepth 20000 in
theorem wX8_keepAct_L18 {K : KX} {G : GX} (C : Ok K G 2 cX8_keepAct RX8) (hnl : G.2.2.2.2.2.2.2.2.2.2.2.2.2 = 3) {rv : HH} (E : Endd K G none none rv) {x0 : Nat} {x1 : Nat} {k18_44 : HH → Option (HH)}  (Hk18_44 : ∀  (h : HH), k18_44  h = some rv → At K G 44 [(0, .ref (K.2.1 x0)), (1, .ref (K.2.1 x1))] [] h) (kx0 : isK 8 x0) (kx1 : isK 2 x1) : ∀ (self18 : Int32 → HH → Option (HH)), (∀ (x2 : Int32) (h : HH), self18 x2 h = some rv → At K G 18 [(0, .ref (K.2.1 x0)), (1, .ref (K.2.1 x1)), (2, .int x2)] [] h) → ∀ (x2 : Int32) (h : HH), fX8_keepAct_L18 k18_44 x0 x1 self18 x2 h = some rv → At K G 18 [(0, .ref (K.2.1 x0)), (1, .ref (K.2.1 x1)), (2, .int x2)] [] h := by
  intro self18 Hself18 x2 h hf
  unfold fX8_keepAct_L18 at hf
  refine A_iload_n C dX8_keepAct_18 (i := 2) rfl 2 rfl 19 rfl ?_
  refine A_bipush (v := 12) C dX8_keepAct_19 (by decide) 21 rfl ?_
  refine A_icmp_ge C dX8_keepAct_21 44 (by decide) 24 rfl hf (fun c21 hf => ?_) (fun c21 hf => ?_)
  · refine A_sub [0, 1] (lv' := [(0, .ref (K.2.1 x0)), (1, .ref (K.2.1 x1))]) rfl ?_
    exact Hk18_44 _ hf
  refine A_aload_n C dX8_keepAct_24 (i := 0) rfl 0 rfl 25 rfl ?_
  refine gfRX8_58 C kx0 dX8_keepAct_25 28 rfl ?_
  refine A_iload_n C dX8_keepAct_28 (i := 2) rfl 2 rfl 29 rfl ?_
  refine A_iconst (v := 1) C dX8_keepAct_29 (by decide) 30 rfl ?_
  refine A_isub C dX8_keepAct_30 31 rfl ?_
  refine A_aload_n C dX8_keepAct_31 (i := 0) rfl 0 rfl 32 rfl ?_
  refine gfRX8_58 C kx0 dX8_keepAct_32 35 rfl ?_
  refine A_iload_n C dX8_keepAct_35 (i := 2) rfl 2 rfl 36 rfl ?_
  refine A_aald C dX8_keepAct_36 (of_8_8 kx0) hf 37 rfl (fun kp5 hf => ?_)
  refine A_aast C dX8_keepAct_37 (of_8_8 kx0) kp5 hf 38 rfl (fun hf => ?_)
  refine A_iinc (v := (x2 + 1)) C dX8_keepAct_38 2 rfl rfl [(2, .int (x2 + 1)), (0, .ref (K.2.1 x0)), (1, .ref (K.2.1 x1))] (lt_nl hnl (by decide)) rfl 41 rfl ?_
  refine A_goto C dX8_keepAct_41 18 (by decide) ?_
  refine A_sub [1, 2, 0] (lv' := [(0, .ref (K.2.1 x0)), (1, .ref (K.2.1 x1)), (2, .int (x2 + 1))]) rfl ?_
  exact Hself18 _ _ hf
set_option maxRecDepth 20000 in
theorem mX8_keepAct {K : KX} {x0 : Nat} (k0 : isK 8 x0) {h : HH} {rv : HH} (hf : fX8_keepAct x0 h = some rv) : MR K yX8_keepAct cX8_keepAct 3 none 2 [.ref (K.2.1 x0)] h none rv := by
  refine MR_of (by decide) (Nat.le_of_ble_eq_true rfl) (fun G C E hnl => ?_)
  have C : Ok K G 2 cX8_keepAct RX8 := C
  refine (show At K G 0 [(0, .ref (K.2.1 x0))] [] h from ?_)
  unfold fX8_keepAct at hf
  refine A_aload_n C dX8_keepAct_0 (i := 0) rfl 0 rfl 1 rfl ?_
  refine gfRX8_110 C k0 dX8_keepAct_1 4 rfl ?_
  refine A_bipush (v := 12) C dX8_keepAct_4 (by decide) 6 rfl ?_
  refine A_icmp_lt C dX8_keepAct_6 58 (by decide) 9 rfl hf (fun c6 hf => ?_) (fun c6 hf => ?_)
  · refine A_aload_n C dX8_keepAct_58 (i := 0) rfl 0 rfl 59 rfl ?_
    refine gfRX8_58 C k0 dX8_keepAct_59 62 rfl ?_
    refine A_aload_n C dX8_keepAct_62 (i := 0) rfl 0 rfl 63 rfl ?_
    refine gfRX8_110 C k0 dX8_keepAct_63 66 rfl ?_
    refine A_aald C dX8_keepAct_66 (of_8_8 k0) hf 67 rfl (fun kp1 hf => ?_)
    refine A_aload_n C dX8_keepAct_67 (i := 0) rfl 0 rfl 68 rfl ?_
    refine gfRX8_23 C k0 dX8_keepAct_68 71 rfl ?_
    refine CVv C dX8_keepAct_71 2 kp1 (by decide) (r := (RX2, TX2, 7)) rfl rfl hf (fun _ e => mX2_copyFrom kp1 (of_8_2 k0) e) lkRX8_220 (by decide) (by decide) rfl [] rfl (Nat.le_of_ble_eq_true rfl) 74 rfl (fun h71 hf => ?_)
    refine A_aload_n C dX8_keepAct_74 (i := 0) rfl 0 rfl 75 rfl ?_
    refine A_dup C dX8_keepAct_75 rfl 76 rfl ?_
    refine gfRX8_110 C k0 dX8_keepAct_76 79 rfl ?_
    refine A_iconst (v := 1) C dX8_keepAct_79 (by decide) 80 rfl ?_
    refine A_iadd C dX8_keepAct_80 81 rfl ?_
    refine pfRX8_110 C k0 dX8_keepAct_81 84 rfl ?_
    exact A_vret C dX8_keepAct_84 E hf
  refine A_aload_n C dX8_keepAct_9 (i := 0) rfl 0 rfl 10 rfl ?_
  refine gfRX8_58 C k0 dX8_keepAct_10 13 rfl ?_
  refine A_iconst (v := 0) C dX8_keepAct_13 (by decide) 14 rfl ?_
  refine A_aald C dX8_keepAct_14 (of_8_8 k0) hf 15 rfl (fun kp2 hf => ?_)
  refine A_namR kp2 hf (fun y3 kp4 hf => ?_)
  refine A_astore_n C dX8_keepAct_15 (i := 1) rfl [(1, .ref (K.2.1 y3)), (0, .ref (K.2.1 x0))] (lt_nl hnl (by decide)) rfl 16 rfl ?_
  refine A_iconst (v := 1) C dX8_keepAct_16 (by decide) 17 rfl ?_
  refine A_istore_n C dX8_keepAct_17 (i := 2) rfl [(2, .int 1), (1, .ref (K.2.1 y3)), (0, .ref (K.2.1 x0))] (lt_nl hnl (by decide)) rfl 18 rfl ?_
  refine A_sub [2, 1, 0] (lv' := [(0, .ref (K.2.1 x0)), (1, .ref (K.2.1 y3)), (2, .int 1)]) rfl ?_
  refine lq1_at (wX8_keepAct_L18 C hnl E (fun  h hf => ?_) k0 kp4) FU _ _ hf
  refine A_aload_n C dX8_keepAct_44 (i := 0) rfl 0 rfl 45 rfl ?_
  refine gfRX8_58 C k0 dX8_keepAct_45 48 rfl ?_
  refine A_bipush (v := 11) C dX8_keepAct_48 (by decide) 50 rfl ?_
  refine A_aload_n C dX8_keepAct_50 (i := 1) rfl 1 rfl 51 rfl ?_
  refine A_aast C dX8_keepAct_51 (of_8_8 k0) kp4 hf 52 rfl (fun hf => ?_)
  refine A_aload_n C dX8_keepAct_52 (i := 0) rfl 0 rfl 53 rfl ?_
  refine A_bipush (v := 11) C dX8_keepAct_53 (by decide) 55 rfl ?_
  refine pfRX8_110 C k0 dX8_keepAct_55 58 rfl ?_
  refine A_namH hf (fun g6 hf => ?_)
  refine A_aload_n C dX8_keepAct_58 (i := 0) rfl 0 rfl 59 rfl ?_
  refine gfRX8_58 C k0 dX8_keepAct_59 62 rfl ?_
  refine A_aload_n C dX8_keepAct_62 (i := 0) rfl 0 rfl 63 rfl ?_
  refine gfRX8_110 C k0 dX8_keepAct_63 66 rfl ?_
  refine A_aald C dX8_keepAct_66 (of_8_8 k0) hf 67 rfl (fun kp7 hf => ?_)
  refine A_aload_n C dX8_keepAct_67 (i := 0) rfl 0 rfl 68 rfl ?_
  refine gfRX8_23 C k0 dX8_keepAct_68 71 rfl ?_
  refine CVv C dX8_keepAct_71 2 kp7 (by decide) (r := (RX2, TX2, 7)) rfl rfl hf (fun _ e => mX2_copyFrom kp7 (of_8_2 k0) e) lkRX8_220 (by decide) (by decide) rfl [] rfl (Nat.le_of_ble_eq_true rfl) 74 rfl (fun h71 hf => ?_)
  refine A_aload_n C dX8_keepAct_74 (i := 0) rfl 0 rfl 75 rfl ?_
  refine A_dup C dX8_keepAct_75 rfl 76 rfl ?_
  refine gfRX8_110 C k0 dX8_keepAct_76 79 rfl ?_
  refine A_iconst (v := 1) C dX8_keepAct_79 (by decide) 80 rfl ?_
  refine A_iadd C dX8_keepAct_80 81 rfl ?_
  refine pfRX8_110 C k0 dX8_keepAct_81 84 rfl ?_
  exact A_vret C dX8_keepAct_84 E hf
set_option maxRecDepth 20000 in
theorem mX8_pass {K : KX} {x0 : Nat} {x1 : Int32} {x2 : Int32} (k0 : isK 8 x0) {h : HH} {rv : Int32} {hv : HH} (hf : fX8_pass x0 x1 x2 h = some (rv, hv)) : MR K yX8_pass cX8_pass 5 (some .int) 6 [.ref (K.2.1 x0), .int x1, .int x2] h (some (.int rv)) hv := by
  refine MR_of (by decide) (Nat.le_of_ble_eq_true rfl) (fun G C E hnl => ?_)
  have C : Ok K G 6 cX8_pass RX8 := C
  refine (show At K G 0 [(0, .ref (K.2.1 x0)), (1, .int x1), (2, .int x2)] [] h from ?_)
  unfold fX8_pass at hf
  refine A_aload_n C dX8_pass_0 (i := 0) rfl 0 rfl 1 rfl ?_
  refine A_iload_n C dX8_pass_1 (i := 1) rfl 1 rfl 2 rfl ?_
  refine CVz C dX8_pass_2 8 k0 (by decide) (r := (RX8, TX8, 19)) rfl rfl hf (fun _ _ e => mX8_isFloor k0 e) lkRX8_131 (by decide) (by decide) rfl [] rfl (Nat.le_of_ble_eq_true rfl) 5 rfl (fun r2 h2 hf => ?_)
  refine A_z_ne C dX8_pass_5 14 (by decide) 8 rfl hf (fun c5 hf => ?_) (fun c5 hf => ?_)
  · refine A_iload_n C dX8_pass_14 (i := 2) rfl 2 rfl 15 rfl ?_
    refine A_iconst (v := 1) C dX8_pass_15 (by decide) 16 rfl ?_
    refine A_icmp_lt C dX8_pass_16 26 (by decide) 19 rfl hf (fun c16 hf => ?_) (fun c16 hf => ?_)
    · refine A_aload_n C dX8_pass_26 (i := 0) rfl 0 rfl 27 rfl ?_
      refine A_iconst (v := 2) C dX8_pass_27 (by decide) 28 rfl ?_
      refine CVi C dX8_pass_28 8 k0 (by decide) (r := (RX8, TX8, 19)) rfl rfl hf (fun _ _ e => mX8_refuse k0 e) lkRX8_83 (by decide) (by decide) rfl [] rfl (Nat.le_of_ble_eq_true rfl) 31 rfl (fun r28 h28 hf => ?_)
      exact A_iret C dX8_pass_31 E hf
    refine A_iload_n C dX8_pass_19 (i := 2) rfl 2 rfl 20 rfl ?_
    refine A_sipush (v := 999) C dX8_pass_20 (by decide) 23 rfl ?_
    refine A_icmp_le C dX8_pass_23 32 (by decide) 26 rfl hf (fun c23 hf => ?_) (fun c23 hf => ?_)
    · refine A_aload_n C dX8_pass_32 (i := 0) rfl 0 rfl 33 rfl ?_
      refine gfRX8_23 C k0 dX8_pass_33 36 rfl ?_
      refine gfRX8_145 C (of_8_2 k0) dX8_pass_36 39 rfl ?_
      refine A_iload_n C dX8_pass_39 (i := 2) rfl 2 rfl 40 rfl ?_
      refine A_i2l C dX8_pass_40 41 rfl ?_
      refine A_aload_n C dX8_pass_41 (i := 0) rfl 0 rfl 42 rfl ?_
      refine gfRX8_68 C k0 dX8_pass_42 hf 45 rfl (fun kp1 hf => ?_)
      refine A_iload_n C dX8_pass_45 (i := 1) rfl 1 rfl 46 rfl ?_
      refine CVi C dX8_pass_46 0 kp1 (by decide) (r := (RX0, TX0, 14)) rfl rfl hf (fun _ _ e => mX0_minuteOf kp1 e) lkRX8_149 (by decide) (by decide) rfl [.long x2.toInt64, .long (gL h2 (x0 + 6) 6)] rfl (Nat.le_of_ble_eq_true rfl) 49 rfl (fun r46 h46 hf => ?_)
      refine A_i2l C dX8_pass_49 50 rfl ?_
      refine A_lmul C dX8_pass_50 51 rfl ?_
      refine A_ladd C dX8_pass_51 52 rfl ?_
      refine A_namL hf (fun y2 hf => ?_)
      refine A_lstore_n C dX8_pass_52 (i := 3) rfl [(3, .long y2), (0, .ref (K.2.1 x0)), (1, .int x1), (2, .int x2)] (lt_nl hnl (by decide)) rfl 53 rfl ?_
      refine A_lload_n C dX8_pass_53 (i := 3) rfl 0 rfl 54 rfl ?_
      refine A_ldc2 C dX8_pass_54 cRX8_376 57 rfl ?_
      refine A_aload_n C dX8_pass_57 (i := 0) rfl 1 rfl 58 rfl ?_
      refine gfRX8_68 C k0 dX8_pass_58 hf 61 rfl (fun kp3 hf => ?_)
      refine CVi C dX8_pass_61 0 kp3 (by decide) (r := (RX0, TX0, 14)) rfl rfl hf (fun _ _ e => mX0_bottom kp3 e) lkRX8_185 (by decide) (by decide) rfl [.long 1200, .long y2] rfl (Nat.le_of_ble_eq_true rfl) 64 rfl (fun r61 h61 hf => ?_)
      refine A_i2l C dX8_pass_64 65 rfl ?_
      refine A_lmul C dX8_pass_65 66 rfl ?_
      refine A_l_le C dX8_pass_66 dX8_pass_67 76 (by decide) 70 rfl hf (fun c66 hf => ?_) (fun c66 hf => ?_)
      · refine A_aload_n C dX8_pass_76 (i := 0) rfl 1 rfl 77 rfl ?_
        refine CVv C dX8_pass_77 8 k0 (by decide) (r := (RX8, TX8, 19)) rfl rfl hf (fun _ e => mX8_keepAct k0 e) lkRX8_378 (by decide) (by decide) rfl [] rfl (Nat.le_of_ble_eq_true rfl) 80 rfl (fun h77 hf => ?_)
        refine A_aload_n C dX8_pass_80 (i := 0) rfl 1 rfl 81 rfl ?_
        refine gfRX8_23 C k0 dX8_pass_81 84 rfl ?_
        refine A_aload_n C dX8_pass_84 (i := 0) rfl 1 rfl 85 rfl ?_
        refine gfRX8_68 C k0 dX8_pass_85 hf 88 rfl (fun kp4 hf => ?_)
        refine A_lload_n C dX8_pass_88 (i := 3) rfl 0 rfl 89 rfl ?_
        refine CVv C dX8_pass_89 2 (of_8_2 k0) (by decide) (r := (RX2, TX2, 7)) rfl rfl hf (fun _ e => mX2_runTo (of_8_2 k0) kp4 e) lkRX8_233 (by decide) (by decide) rfl [] rfl (Nat.le_of_ble_eq_true rfl) 92 rfl (fun h89 hf => ?_)
        refine A_aload_n C dX8_pass_92 (i := 0) rfl 1 rfl 93 rfl ?_
        refine A_aload_n C dX8_pass_93 (i := 0) rfl 1 rfl 94 rfl ?_
        refine A_iconst (v := 0) C dX8_pass_94 (by decide) 95 rfl ?_
        refine CVl C dX8_pass_95 8 k0 (by decide) (r := (RX8, TX8, 19)) rfl rfl hf (fun _ _ e => mX8_clockOf k0 e) lkRX8_138 (by decide) (by decide) rfl [.ref (K.2.1 x0)] rfl (Nat.le_of_ble_eq_true rfl) 98 rfl (fun r95 h95 hf => ?_)
        refine A_l2i C dX8_pass_98 99 rfl ?_
        refine CVi C dX8_pass_99 8 k0 (by decide) (r := (RX8, TX8, 19)) rfl rfl hf (fun _ _ e => mX8_allow k0 e) lkRX8_125 (by decide) (by decide) rfl [] rfl (Nat.le_of_ble_eq_true rfl) 102 rfl (fun r99 h99 hf => ?_)
        exact A_iret C dX8_pass_102 E hf
      refine A_aload_n C dX8_pass_70 (i := 0) rfl 1 rfl 71 rfl ?_
      refine A_iconst (v := 3) C dX8_pass_71 (by decide) 72 rfl ?_
      refine CVi C dX8_pass_72 8 k0 (by decide) (r := (RX8, TX8, 19)) rfl rfl hf (fun _ _ e => mX8_refuse k0 e) lkRX8_83 (by decide) (by decide) rfl [] rfl (Nat.le_of_ble_eq_true rfl) 75 rfl (fun r72 h72 hf => ?_)
      exact A_iret C dX8_pass_75 E hf
    refine A_aload_n C dX8_pass_26 (i := 0) rfl 0 rfl 27 rfl ?_
    refine A_iconst (v := 2) C dX8_pass_27 (by decide) 28 rfl ?_
    refine CVi C dX8_pass_28 8 k0 (by decide) (r := (RX8, TX8, 19)) rfl rfl hf (fun _ _ e => mX8_refuse k0 e) lkRX8_83 (by decide) (by decide) rfl [] rfl (Nat.le_of_ble_eq_true rfl) 31 rfl (fun r28 h28 hf => ?_)
    exact A_iret C dX8_pass_31 E hf
  refine A_aload_n C dX8_pass_8 (i := 0) rfl 0 rfl 9 rfl ?_
  refine A_iconst (v := 1) C dX8_pass_9 (by decide) 10 rfl ?_
  refine CVi C dX8_pass_10 8 k0 (by decide) (r := (RX8, TX8, 19)) rfl rfl hf (fun _ _ e => mX8_refuse k0 e) lkRX8_83 (by decide) (by decide) rfl [] rfl (Nat.le_of_ble_eq_true rfl) 13 rfl (fun r10 h10 hf => ?_)
  exact A_iret C dX8_pass_13 E hf
set_option maxRecDepth 20000 in
theorem mX8_isHead {K : KX} {x0 : Nat} {x1 : Int32} (k0 : isK 8 x0) {h : HH} {rv : Bool} {hv : HH} (hf : fX8_isHead x0 x1 h = some (rv, hv)) : MR K yX8_isHead cX8_isHead 2 (some .boolean) 1 [.ref (K.2.1 x0), .int x1] h (some (.int (b2i rv))) hv := by
  refine MR_of (by decide) (Nat.le_of_ble_eq_true rfl) (fun G C E hnl => ?_)
  have C : Ok K G 1 cX8_isHead RX8 := C
  refine (show At K G 0 [(0, .ref (K.2.1 x0)), (1, .int x1)] [] h from ?_)
  unfold fX8_isHead at hf
  refine A_aload_n C dX8_isHead_0 (i := 0) rfl 0 rfl 1 rfl ?_
  refine gfRX8_98 C k0 dX8_isHead_1 4 rfl ?_
  refine A_if_eq C dX8_isHead_4 26 (by decide) 7 rfl hf (fun c4 hf => ?_) (fun c4 hf => ?_)
  · refine A_iconst (v := 0) C dX8_isHead_26 (by decide) 27 rfl ?_
    exact A_zret (x := false) C dX8_isHead_27 E hf
  refine A_iload_n C dX8_isHead_7 (i := 1) rfl 1 rfl 8 rfl ?_
  refine A_if_lt C dX8_isHead_8 26 (by decide) 11 rfl hf (fun c8 hf => ?_) (fun c8 hf => ?_)
  · refine A_iconst (v := 0) C dX8_isHead_26 (by decide) 27 rfl ?_
    exact A_zret (x := false) C dX8_isHead_27 E hf
  refine A_iload_n C dX8_isHead_11 (i := 1) rfl 1 rfl 12 rfl ?_
  refine A_aload_n C dX8_isHead_12 (i := 0) rfl 0 rfl 13 rfl ?_
  refine gfRX8_68 C k0 dX8_isHead_13 hf 16 rfl (fun kp1 hf => ?_)
  refine gfRX8_331 C kp1 dX8_isHead_16 19 rfl ?_
  refine A_icmp_ge C dX8_isHead_19 26 (by decide) 22 rfl hf (fun c19 hf => ?_) (fun c19 hf => ?_)
  · refine A_iconst (v := 0) C dX8_isHead_26 (by decide) 27 rfl ?_
    exact A_zret (x := false) C dX8_isHead_27 E hf
  refine A_iconst (v := 1) C dX8_isHead_22 (by decide) 23 rfl ?_
  refine A_goto C dX8_isHead_23 27 (by decide) ?_
  exact A_zret (x := true) C dX8_isHead_27 E hf
set_option maxRecDepth 20000 in
theorem wX8_lie_b52 {K : KX} {G : GX} (C : Ok K G 5 cX8_lie RX8) (hnl : G.2.2.2.2.2.2.2.2.2.2.2.2.2 = 4) {rv : Int32} {hv : HH} (E : Endd K G (some .int) (some (.int rv)) hv) {x0 : Nat} {x1 : Int32} {x2 : Int32}   (kx0 : isK 8 x0) {h : HH} (hf : fX8_lie_b52 x0 x1 x2 h = some (rv, hv)) : At K G 52 [(0, .ref (K.2.1 x0)), (1, .int x1), (2, .int x2)] [.int 0] h := by
  unfold fX8_lie_b52 at hf
  refine A_istore_n C dX8_lie_52 (i := 3) rfl [(3, .int 0), (0, .ref (K.2.1 x0)), (1, .int x1), (2, .int x2)] (lt_nl hnl (by decide)) rfl 53 rfl ?_
  refine A_aload_n C dX8_lie_53 (i := 0) rfl 1 rfl 54 rfl ?_
  refine gfRX8_23 C kx0 dX8_lie_54 57 rfl ?_
  refine gfRX8_163 C (of_8_2 kx0) dX8_lie_57 60 rfl ?_
  refine A_iload_n C dX8_lie_60 (i := 1) rfl 2 rfl 61 rfl ?_
  refine A_iald C dX8_lie_61 (of_2_0 (of_8_2 kx0)) hf 62 rfl (fun hf => ?_)
  refine A_aload_n C dX8_lie_62 (i := 0) rfl 1 rfl 63 rfl ?_
  refine gfRX8_68 C kx0 dX8_lie_63 hf 66 rfl (fun kp5 hf => ?_)
  refine gfRX8_298 C kp5 dX8_lie_66 69 rfl ?_
  refine A_icmp_ge C dX8_lie_69 76 (by decide) 72 rfl hf (fun c69 hf => ?_) (fun c69 hf => ?_)
  · refine A_aload_n C dX8_lie_76 (i := 0) rfl 1 rfl 77 rfl ?_
    refine A_iconst (v := 5) C dX8_lie_77 (by decide) 78 rfl ?_
    refine CVi C dX8_lie_78 8 kx0 (by decide) (r := (RX8, TX8, 19)) rfl rfl hf (fun _ _ e => mX8_refuse kx0 e) lkRX8_83 (by decide) (by decide) rfl [] rfl (Nat.le_of_ble_eq_true rfl) 81 rfl (fun r78 h78 hf => ?_)
    exact A_iret C dX8_lie_81 E hf
  refine A_iload_n C dX8_lie_72 (i := 3) rfl 0 rfl 73 rfl ?_
  refine T_if_eq C dX8_lie_73 82 (by decide) (by decide) ?_
  refine A_aload_n C dX8_lie_82 (i := 0) rfl 1 rfl 83 rfl ?_
  refine CVv C dX8_lie_83 8 kx0 (by decide) (r := (RX8, TX8, 19)) rfl rfl hf (fun _ e => mX8_keepAct kx0 e) lkRX8_378 (by decide) (by decide) rfl [] rfl (Nat.le_of_ble_eq_true rfl) 86 rfl (fun h83 hf => ?_)
  refine A_aload_n C dX8_lie_86 (i := 0) rfl 1 rfl 87 rfl ?_
  refine gfRX8_23 C kx0 dX8_lie_87 90 rfl ?_
  refine A_aload_n C dX8_lie_90 (i := 0) rfl 1 rfl 91 rfl ?_
  refine gfRX8_68 C kx0 dX8_lie_91 hf 94 rfl (fun kp6 hf => ?_)
  refine A_iload_n C dX8_lie_94 (i := 1) rfl 2 rfl 95 rfl ?_
  refine A_aload_n C dX8_lie_95 (i := 0) rfl 1 rfl 96 rfl ?_
  refine gfRX8_23 C kx0 dX8_lie_96 99 rfl ?_
  refine gfRX8_163 C (of_8_2 kx0) dX8_lie_99 102 rfl ?_
  refine A_iload_n C dX8_lie_102 (i := 1) rfl 2 rfl 103 rfl ?_
  refine A_iald C dX8_lie_103 (of_2_0 (of_8_2 kx0)) hf 104 rfl (fun hf => ?_)
  refine A_iconst (v := 1) C dX8_lie_104 (by decide) 105 rfl ?_
  refine A_iadd C dX8_lie_105 106 rfl ?_
  refine A_iload_n C dX8_lie_106 (i := 2) rfl 3 rfl 107 rfl ?_
  refine CVv C dX8_lie_107 2 (of_8_2 kx0) (by decide) (r := (RX2, TX2, 7)) rfl rfl hf (fun _ e => mX2_comeTo (of_8_2 kx0) kp6 e) lkRX8_384 (by decide) (by decide) rfl [] rfl (Nat.le_of_ble_eq_true rfl) 110 rfl (fun h107 hf => ?_)
  refine A_aload_n C dX8_lie_110 (i := 0) rfl 1 rfl 111 rfl ?_
  refine gfRX8_23 C kx0 dX8_lie_111 114 rfl ?_
  refine A_aload_n C dX8_lie_114 (i := 0) rfl 1 rfl 115 rfl ?_
  refine gfRX8_68 C kx0 dX8_lie_115 hf 118 rfl (fun kp7 hf => ?_)
  refine CVv C dX8_lie_118 2 (of_8_2 kx0) (by decide) (r := (RX2, TX2, 7)) rfl rfl hf (fun _ e => mX2_takeDueSteps (of_8_2 kx0) kp7 e) lkRX8_388 (by decide) (by decide) rfl [] rfl (Nat.le_of_ble_eq_true rfl) 121 rfl (fun h118 hf => ?_)
  refine A_aload_n C dX8_lie_121 (i := 0) rfl 1 rfl 122 rfl ?_
  refine A_aload_n C dX8_lie_122 (i := 0) rfl 1 rfl 123 rfl ?_
  refine gfRX8_23 C kx0 dX8_lie_123 126 rfl ?_
  refine gfRX8_163 C (of_8_2 kx0) dX8_lie_126 129 rfl ?_
  refine A_iload_n C dX8_lie_129 (i := 1) rfl 2 rfl 130 rfl ?_
  refine A_iald C dX8_lie_130 (of_2_0 (of_8_2 kx0)) hf 131 rfl (fun hf => ?_)
  refine CVi C dX8_lie_131 8 kx0 (by decide) (r := (RX8, TX8, 19)) rfl rfl hf (fun _ _ e => mX8_allow kx0 e) lkRX8_125 (by decide) (by decide) rfl [] rfl (Nat.le_of_ble_eq_true rfl) 134 rfl (fun r131 h131 hf => ?_)
  exact A_iret C dX8_lie_134 E hf
set_option maxRecDepth 20000 in
theorem wX8_lie_b51 {K : KX} {G : GX} (C : Ok K G 5 cX8_lie RX8) (hnl : G.2.2.2.2.2.2.2.2.2.2.2.2.2 = 4) {rv : Int32} {hv : HH} (E : Endd K G (some .int) (some (.int rv)) hv) {x0 : Nat} {x1 : Int32} {x2 : Int32}   (kx0 : isK 8 x0) {h : HH} (hf : fX8_lie_b51 x0 x1 x2 h = some (rv, hv)) : At K G 51 [(0, .ref (K.2.1 x0)), (1, .int x1), (2, .int x2)] [] h := by
  unfold fX8_lie_b51 at hf
  refine A_iconst (v := 0) C dX8_lie_51 (by decide) 52 rfl ?_
  exact wX8_lie_b52 C hnl E kx0 hf
set_option maxRecDepth 20000 in
theorem mX8_lie {K : KX} {x0 : Nat} {x1 : Int32} {x2 : Int32} (k0 : isK 8 x0) {h : HH} {rv : Int32} {hv : HH} (hf : fX8_lie x0 x1 x2 h = some (rv, hv)) : MR K yX8_lie cX8_lie 4 (some .int) 5 [.ref (K.2.1 x0), .int x1, .int x2] h (some (.int rv)) hv := by
  refine MR_of (by decide) (Nat.le_of_ble_eq_true rfl) (fun G C E hnl => ?_)
  have C : Ok K G 5 cX8_lie RX8 := C
  refine (show At K G 0 [(0, .ref (K.2.1 x0)), (1, .int x1), (2, .int x2)] [] h from ?_)
  unfold fX8_lie at hf
  refine A_aload_n C dX8_lie_0 (i := 0) rfl 0 rfl 1 rfl ?_
  refine A_iload_n C dX8_lie_1 (i := 1) rfl 1 rfl 2 rfl ?_
  refine CVz C dX8_lie_2 8 k0 (by decide) (r := (RX8, TX8, 19)) rfl rfl hf (fun _ _ e => mX8_isSleeper k0 e) lkRX8_160 (by decide) (by decide) rfl [] rfl (Nat.le_of_ble_eq_true rfl) 5 rfl (fun r2 h2 hf => ?_)
  refine A_z_eq C dX8_lie_5 16 (by decide) 8 rfl hf (fun c5 hf => ?_) (fun c5 hf => ?_)
  · refine A_aload_n C dX8_lie_16 (i := 0) rfl 0 rfl 17 rfl ?_
    refine A_iconst (v := 1) C dX8_lie_17 (by decide) 18 rfl ?_
    refine CVi C dX8_lie_18 8 k0 (by decide) (r := (RX8, TX8, 19)) rfl rfl hf (fun _ _ e => mX8_refuse k0 e) lkRX8_83 (by decide) (by decide) rfl [] rfl (Nat.le_of_ble_eq_true rfl) 21 rfl (fun r18 h18 hf => ?_)
    exact A_iret C dX8_lie_21 E hf
  refine A_aload_n C dX8_lie_8 (i := 0) rfl 0 rfl 9 rfl ?_
  refine A_iload_n C dX8_lie_9 (i := 2) rfl 2 rfl 10 rfl ?_
  refine CVz C dX8_lie_10 8 k0 (by decide) (r := (RX8, TX8, 19)) rfl rfl hf (fun _ _ e => mX8_isHead k0 e) lkRX8_381 (by decide) (by decide) rfl [] rfl (Nat.le_of_ble_eq_true rfl) 13 rfl (fun r10 h10 hf => ?_)
  refine A_z_ne C dX8_lie_13 22 (by decide) 16 rfl hf (fun c13 hf => ?_) (fun c13 hf => ?_)
  · refine A_aload_n C dX8_lie_22 (i := 0) rfl 0 rfl 23 rfl ?_
    refine gfRX8_23 C k0 dX8_lie_23 26 rfl ?_
    refine gfRX8_163 C (of_8_2 k0) dX8_lie_26 29 rfl ?_
    refine A_iload_n C dX8_lie_29 (i := 1) rfl 1 rfl 30 rfl ?_
    refine A_iald C dX8_lie_30 (of_2_0 (of_8_2 k0)) hf 31 rfl (fun hf => ?_)
    refine A_if_le C dX8_lie_31 51 (by decide) 34 rfl hf (fun c31 hf => ?_) (fun c31 hf => ?_)
    · exact wX8_lie_b51 C hnl E k0 hf
    refine A_aload_n C dX8_lie_34 (i := 0) rfl 0 rfl 35 rfl ?_
    refine gfRX8_23 C k0 dX8_lie_35 38 rfl ?_
    refine gfRX8_167 C (of_8_2 k0) dX8_lie_38 41 rfl ?_
    refine A_iload_n C dX8_lie_41 (i := 1) rfl 1 rfl 42 rfl ?_
    refine A_iald C dX8_lie_42 (of_2_1 (of_8_2 k0)) hf 43 rfl (fun hf => ?_)
    refine A_iload_n C dX8_lie_43 (i := 2) rfl 2 rfl 44 rfl ?_
    refine A_icmp_eq C dX8_lie_44 51 (by decide) 47 rfl hf (fun c44 hf => ?_) (fun c44 hf => ?_)
    · exact wX8_lie_b51 C hnl E k0 hf
    refine A_iconst (v := 1) C dX8_lie_47 (by decide) 48 rfl ?_
    refine A_goto C dX8_lie_48 52 (by decide) ?_
    refine A_istore_n C dX8_lie_52 (i := 3) rfl [(3, .int 1), (0, .ref (K.2.1 x0)), (1, .int x1), (2, .int x2)] (lt_nl hnl (by decide)) rfl 53 rfl ?_
    refine A_aload_n C dX8_lie_53 (i := 0) rfl 1 rfl 54 rfl ?_
    refine gfRX8_23 C k0 dX8_lie_54 57 rfl ?_
    refine gfRX8_163 C (of_8_2 k0) dX8_lie_57 60 rfl ?_
    refine A_iload_n C dX8_lie_60 (i := 1) rfl 2 rfl 61 rfl ?_
    refine A_iald C dX8_lie_61 (of_2_0 (of_8_2 k0)) hf 62 rfl (fun hf => ?_)
    refine A_aload_n C dX8_lie_62 (i := 0) rfl 1 rfl 63 rfl ?_
    refine gfRX8_68 C k0 dX8_lie_63 hf 66 rfl (fun kp10 hf => ?_)
    refine gfRX8_298 C kp10 dX8_lie_66 69 rfl ?_
    refine A_icmp_ge C dX8_lie_69 76 (by decide) 72 rfl hf (fun c69 hf => ?_) (fun c69 hf => ?_)
    · refine A_aload_n C dX8_lie_76 (i := 0) rfl 1 rfl 77 rfl ?_
      refine A_iconst (v := 5) C dX8_lie_77 (by decide) 78 rfl ?_
      refine CVi C dX8_lie_78 8 k0 (by decide) (r := (RX8, TX8, 19)) rfl rfl hf (fun _ _ e => mX8_refuse k0 e) lkRX8_83 (by decide) (by decide) rfl [] rfl (Nat.le_of_ble_eq_true rfl) 81 rfl (fun r78 h78 hf => ?_)
      exact A_iret C dX8_lie_81 E hf
    refine A_iload_n C dX8_lie_72 (i := 3) rfl 0 rfl 73 rfl ?_
    refine N_if_eq C dX8_lie_73 82 (by decide) (by decide) 76 rfl ?_
    refine A_aload_n C dX8_lie_76 (i := 0) rfl 1 rfl 77 rfl ?_
    refine A_iconst (v := 5) C dX8_lie_77 (by decide) 78 rfl ?_
    refine CVi C dX8_lie_78 8 k0 (by decide) (r := (RX8, TX8, 19)) rfl rfl hf (fun _ _ e => mX8_refuse k0 e) lkRX8_83 (by decide) (by decide) rfl [] rfl (Nat.le_of_ble_eq_true rfl) 81 rfl (fun r78 h78 hf => ?_)
    exact A_iret C dX8_lie_81 E hf
  refine A_aload_n C dX8_lie_16 (i := 0) rfl 0 rfl 17 rfl ?_
  refine A_iconst (v := 1) C dX8_lie_17 (by decide) 18 rfl ?_
  refine CVi C dX8_lie_18 8 k0 (by decide) (r := (RX8, TX8, 19)) rfl rfl hf (fun _ _ e => mX8_refuse k0 e) lkRX8_83 (by decide) (by decide) rfl [] rfl (Nat.le_of_ble_eq_true rfl) 21 rfl (fun r18 h18 hf => ?_)
  exact A_iret C dX8_lie_21 E hf
set_option maxRecDepth 20000 in
theorem mX8_wake {K : KX} {x0 : Nat} {x1 : Int32} (k0 : isK 8 x0) {h : HH} {rv : Int32} {hv : HH} (hf : fX8_wake x0 x1 h = some (rv, hv)) : MR K yX8_wake cX8_wake 2 (some .int) 5 [.ref (K.2.1 x0), .int x1] h (some (.int rv)) hv := by
  refine MR_of (by decide) (Nat.le_of_ble_eq_true rfl) (fun G C E hnl => ?_)
  have C : Ok K G 5 cX8_wake RX8 := C
  refine (show At K G 0 [(0, .ref (K.2.1 x0)), (1, .int x1)] [] h from ?_)
  unfold fX8_wake at hf
  refine A_aload_n C dX8_wake_0 (i := 0) rfl 0 rfl 1 rfl ?_
  refine A_iload_n C dX8_wake_1 (i := 1) rfl 1 rfl 2 rfl ?_
  refine CVz C dX8_wake_2 8 k0 (by decide) (r := (RX8, TX8, 19)) rfl rfl hf (fun _ _ e => mX8_isSleeper k0 e) lkRX8_160 (by decide) (by decide) rfl [] rfl (Nat.le_of_ble_eq_true rfl) 5 rfl (fun r2 h2 hf => ?_)
  refine A_z_ne C dX8_wake_5 14 (by decide) 8 rfl hf (fun c5 hf => ?_) (fun c5 hf => ?_)
  · refine A_aload_n C dX8_wake_14 (i := 0) rfl 0 rfl 15 rfl ?_
    refine gfRX8_23 C k0 dX8_wake_15 18 rfl ?_
    refine gfRX8_163 C (of_8_2 k0) dX8_wake_18 21 rfl ?_
    refine A_iload_n C dX8_wake_21 (i := 1) rfl 1 rfl 22 rfl ?_
    refine A_iald C dX8_wake_22 (of_2_0 (of_8_2 k0)) hf 23 rfl (fun hf => ?_)
    refine A_if_ne C dX8_wake_23 32 (by decide) 26 rfl hf (fun c23 hf => ?_) (fun c23 hf => ?_)
    · refine A_aload_n C dX8_wake_32 (i := 0) rfl 0 rfl 33 rfl ?_
      refine CVv C dX8_wake_33 8 k0 (by decide) (r := (RX8, TX8, 19)) rfl rfl hf (fun _ e => mX8_keepAct k0 e) lkRX8_378 (by decide) (by decide) rfl [] rfl (Nat.le_of_ble_eq_true rfl) 36 rfl (fun h33 hf => ?_)
      refine A_aload_n C dX8_wake_36 (i := 0) rfl 0 rfl 37 rfl ?_
      refine gfRX8_23 C k0 dX8_wake_37 40 rfl ?_
      refine A_aload_n C dX8_wake_40 (i := 0) rfl 0 rfl 41 rfl ?_
      refine gfRX8_68 C k0 dX8_wake_41 hf 44 rfl (fun kp1 hf => ?_)
      refine A_iload_n C dX8_wake_44 (i := 1) rfl 1 rfl 45 rfl ?_
      refine A_aload_n C dX8_wake_45 (i := 0) rfl 0 rfl 46 rfl ?_
      refine gfRX8_23 C k0 dX8_wake_46 49 rfl ?_
      refine gfRX8_163 C (of_8_2 k0) dX8_wake_49 52 rfl ?_
      refine A_iload_n C dX8_wake_52 (i := 1) rfl 1 rfl 53 rfl ?_
      refine A_iald C dX8_wake_53 (of_2_0 (of_8_2 k0)) hf 54 rfl (fun hf => ?_)
      refine A_iconst (v := 1) C dX8_wake_54 (by decide) 55 rfl ?_
      refine A_isub C dX8_wake_55 56 rfl ?_
      refine A_aload_n C dX8_wake_56 (i := 0) rfl 0 rfl 57 rfl ?_
      refine gfRX8_23 C k0 dX8_wake_57 60 rfl ?_
      refine gfRX8_167 C (of_8_2 k0) dX8_wake_60 63 rfl ?_
      refine A_iload_n C dX8_wake_63 (i := 1) rfl 1 rfl 64 rfl ?_
      refine A_iald C dX8_wake_64 (of_2_1 (of_8_2 k0)) hf 65 rfl (fun hf => ?_)
      refine CVv C dX8_wake_65 2 (of_8_2 k0) (by decide) (r := (RX2, TX2, 7)) rfl rfl hf (fun _ e => mX2_comeTo (of_8_2 k0) kp1 e) lkRX8_384 (by decide) (by decide) rfl [] rfl (Nat.le_of_ble_eq_true rfl) 68 rfl (fun h65 hf => ?_)
      refine A_aload_n C dX8_wake_68 (i := 0) rfl 0 rfl 69 rfl ?_
      refine gfRX8_23 C k0 dX8_wake_69 72 rfl ?_
      refine A_aload_n C dX8_wake_72 (i := 0) rfl 0 rfl 73 rfl ?_
      refine gfRX8_68 C k0 dX8_wake_73 hf 76 rfl (fun kp2 hf => ?_)
      refine CVv C dX8_wake_76 2 (of_8_2 k0) (by decide) (r := (RX2, TX2, 7)) rfl rfl hf (fun _ e => mX2_takeDueSteps (of_8_2 k0) kp2 e) lkRX8_388 (by decide) (by decide) rfl [] rfl (Nat.le_of_ble_eq_true rfl) 79 rfl (fun h76 hf => ?_)
      refine A_aload_n C dX8_wake_79 (i := 0) rfl 0 rfl 80 rfl ?_
      refine A_aload_n C dX8_wake_80 (i := 0) rfl 0 rfl 81 rfl ?_
      refine gfRX8_23 C k0 dX8_wake_81 84 rfl ?_
      refine gfRX8_163 C (of_8_2 k0) dX8_wake_84 87 rfl ?_
      refine A_iload_n C dX8_wake_87 (i := 1) rfl 1 rfl 88 rfl ?_
      refine A_iald C dX8_wake_88 (of_2_0 (of_8_2 k0)) hf 89 rfl (fun hf => ?_)
      refine CVi C dX8_wake_89 8 k0 (by decide) (r := (RX8, TX8, 19)) rfl rfl hf (fun _ _ e => mX8_allow k0 e) lkRX8_125 (by decide) (by decide) rfl [] rfl (Nat.le_of_ble_eq_true rfl) 92 rfl (fun r89 h89 hf => ?_)
      exact A_iret C dX8_wake_92 E hf
    refine A_aload_n C dX8_wake_26 (i := 0) rfl 0 rfl 27 rfl ?_
    refine A_iconst (v := 5) C dX8_wake_27 (by decide) 28 rfl ?_
    refine CVi C dX8_wake_28 8 k0 (by decide) (r := (RX8, TX8, 19)) rfl rfl hf (fun _ _ e => mX8_refuse k0 e) lkRX8_83 (by decide) (by decide) rfl [] rfl (Nat.le_of_ble_eq_true rfl) 31 rfl (fun r28 h28 hf => ?_)
    exact A_iret C dX8_wake_31 E hf
  refine A_aload_n C dX8_wake_8 (i := 0) rfl 0 rfl 9 rfl ?_
  refine A_iconst (v := 1) C dX8_wake_9 (by decide) 10 rfl ?_
  refine CVi C dX8_wake_10 8 k0 (by decide) (r := (RX8, TX8, 19)) rfl rfl hf (fun _ _ e => mX8_refuse k0 e) lkRX8_83 (by decide) (by decide) rfl [] rfl (Nat.le_of_ble_eq_true rfl) 13 rfl (fun r10 h10 hf => ?_)
  exact A_iret C dX8_wake_13 E hf
set_option maxRecDepth 20000 in
theorem mX8_knock {K : KX} {x0 : Nat} {x1 : Int32} {x2 : Int32} {x3 : Int32} (k0 : isK 8 x0) {h : HH} {rv : Int32} {hv : HH} (hf : fX8_knock x0 x1 x2 x3 h = some (rv, hv)) : MR K yX8_knock cX8_knock 5 (some .int) 5 [.ref (K.2.1 x0), .int x1, .int x2, .int x3] h (some (.int rv)) hv := by
  refine MR_of (by decide) (Nat.le_of_ble_eq_true rfl) (fun G C E hnl => ?_)
  have C : Ok K G 5 cX8_knock RX8 := C
  refine (show At K G 0 [(0, .ref (K.2.1 x0)), (1, .int x1), (2, .int x2), (3, .int x3)] [] h from ?_)
  unfold fX8_knock at hf
  refine A_aload_n C dX8_knock_0 (i := 0) rfl 0 rfl 1 rfl ?_
  refine A_iload_n C dX8_knock_1 (i := 1) rfl 1 rfl 2 rfl ?_
  refine CVz C dX8_knock_2 8 k0 (by decide) (r := (RX8, TX8, 19)) rfl rfl hf (fun _ _ e => mX8_isHead k0 e) lkRX8_381 (by decide) (by decide) rfl [] rfl (Nat.le_of_ble_eq_true rfl) 5 rfl (fun r2 h2 hf => ?_)
  refine A_z_eq C dX8_knock_5 27 (by decide) 8 rfl hf (fun c5 hf => ?_) (fun c5 hf => ?_)
  · refine A_aload_n C dX8_knock_27 (i := 0) rfl 0 rfl 28 rfl ?_
    refine A_iconst (v := 1) C dX8_knock_28 (by decide) 29 rfl ?_
    refine CVi C dX8_knock_29 8 k0 (by decide) (r := (RX8, TX8, 19)) rfl rfl hf (fun _ _ e => mX8_refuse k0 e) lkRX8_83 (by decide) (by decide) rfl [] rfl (Nat.le_of_ble_eq_true rfl) 32 rfl (fun r29 h29 hf => ?_)
    exact A_iret C dX8_knock_32 E hf
  refine A_aload_n C dX8_knock_8 (i := 0) rfl 0 rfl 9 rfl ?_
  refine A_iload_n C dX8_knock_9 (i := 2) rfl 2 rfl 10 rfl ?_
  refine CVz C dX8_knock_10 8 k0 (by decide) (r := (RX8, TX8, 19)) rfl rfl hf (fun _ _ e => mX8_isFloor k0 e) lkRX8_131 (by decide) (by decide) rfl [] rfl (Nat.le_of_ble_eq_true rfl) 13 rfl (fun r10 h10 hf => ?_)
  refine A_z_eq C dX8_knock_13 27 (by decide) 16 rfl hf (fun c13 hf => ?_) (fun c13 hf => ?_)
  · refine A_aload_n C dX8_knock_27 (i := 0) rfl 0 rfl 28 rfl ?_
    refine A_iconst (v := 1) C dX8_knock_28 (by decide) 29 rfl ?_
    refine CVi C dX8_knock_29 8 k0 (by decide) (r := (RX8, TX8, 19)) rfl rfl hf (fun _ _ e => mX8_refuse k0 e) lkRX8_83 (by decide) (by decide) rfl [] rfl (Nat.le_of_ble_eq_true rfl) 32 rfl (fun r29 h29 hf => ?_)
    exact A_iret C dX8_knock_32 E hf
  refine A_iload_n C dX8_knock_16 (i := 2) rfl 2 rfl 17 rfl ?_
  refine A_aload_n C dX8_knock_17 (i := 0) rfl 0 rfl 18 rfl ?_
  refine gfRX8_68 C k0 dX8_knock_18 hf 21 rfl (fun kp1 hf => ?_)
  refine gfRX8_298 C kp1 dX8_knock_21 24 rfl ?_
  refine A_icmp_lt C dX8_knock_24 33 (by decide) 27 rfl hf (fun c24 hf => ?_) (fun c24 hf => ?_)
  · refine A_iload_n C dX8_knock_33 (i := 3) rfl 3 rfl 34 rfl ?_
    refine CSz C dX8_knock_34 hf (fun _ _ e => mX8_isStrong  e) lkRX8_240 (by decide) (by decide) rfl [] rfl (Nat.le_of_ble_eq_true rfl) 37 rfl (fun r34 h34 hf => ?_)
    refine A_z_ne C dX8_knock_37 46 (by decide) 40 rfl hf (fun c37 hf => ?_) (fun c37 hf => ?_)
    · refine A_aload_n C dX8_knock_46 (i := 0) rfl 0 rfl 47 rfl ?_
      refine CVv C dX8_knock_47 8 k0 (by decide) (r := (RX8, TX8, 19)) rfl rfl hf (fun _ e => mX8_keepAct k0 e) lkRX8_378 (by decide) (by decide) rfl [] rfl (Nat.le_of_ble_eq_true rfl) 50 rfl (fun h47 hf => ?_)
      refine A_aload_n C dX8_knock_50 (i := 0) rfl 0 rfl 51 rfl ?_
      refine gfRX8_23 C k0 dX8_knock_51 54 rfl ?_
      refine A_aload_n C dX8_knock_54 (i := 0) rfl 0 rfl 55 rfl ?_
      refine gfRX8_68 C k0 dX8_knock_55 hf 58 rfl (fun kp2 hf => ?_)
      refine A_iload_n C dX8_knock_58 (i := 1) rfl 1 rfl 59 rfl ?_
      refine A_iload_n C dX8_knock_59 (i := 2) rfl 2 rfl 60 rfl ?_
      refine A_iload_n C dX8_knock_60 (i := 3) rfl 3 rfl 61 rfl ?_
      refine CVi C dX8_knock_61 2 (of_8_2 k0) (by decide) (r := (RX2, TX2, 7)) rfl rfl hf (fun _ _ e => mX2_hearKnock (of_8_2 k0) kp2 e) lkRX8_391 (by decide) (by decide) rfl [] rfl (Nat.le_of_ble_eq_true rfl) 64 rfl (fun r61 h61 hf => ?_)
      refine A_istore C dX8_knock_64 [(4, .int r61), (0, .ref (K.2.1 x0)), (1, .int x1), (2, .int x2), (3, .int x3)] (lt_nl hnl (by decide)) rfl 66 rfl ?_
      refine A_aload_n C dX8_knock_66 (i := 0) rfl 1 rfl 67 rfl ?_
      refine gfRX8_23 C k0 dX8_knock_67 70 rfl ?_
      refine A_aload_n C dX8_knock_70 (i := 0) rfl 1 rfl 71 rfl ?_
      refine gfRX8_68 C k0 dX8_knock_71 hf 74 rfl (fun kp3 hf => ?_)
      refine CVv C dX8_knock_74 2 (of_8_2 k0) (by decide) (r := (RX2, TX2, 7)) rfl rfl hf (fun _ e => mX2_takeDueSteps (of_8_2 k0) kp3 e) lkRX8_388 (by decide) (by decide) rfl [] rfl (Nat.le_of_ble_eq_true rfl) 77 rfl (fun h74 hf => ?_)
      refine A_aload_n C dX8_knock_77 (i := 0) rfl 1 rfl 78 rfl ?_
      refine A_iload C dX8_knock_78 0 rfl 80 rfl ?_
      refine CVi C dX8_knock_80 8 k0 (by decide) (r := (RX8, TX8, 19)) rfl rfl hf (fun _ _ e => mX8_allow k0 e) lkRX8_125 (by decide) (by decide) rfl [] rfl (Nat.le_of_ble_eq_true rfl) 83 rfl (fun r80 h80 hf => ?_)
      exact A_iret C dX8_knock_83 E hf
    refine A_aload_n C dX8_knock_40 (i := 0) rfl 0 rfl 41 rfl ?_
    refine A_iconst (v := 2) C dX8_knock_41 (by decide) 42 rfl ?_
    refine CVi C dX8_knock_42 8 k0 (by decide) (r := (RX8, TX8, 19)) rfl rfl hf (fun _ _ e => mX8_refuse k0 e) lkRX8_83 (by decide) (by decide) rfl [] rfl (Nat.le_of_ble_eq_true rfl) 45 rfl (fun r42 h42 hf => ?_)
    exact A_iret C dX8_knock_45 E hf
  refine A_aload_n C dX8_knock_27 (i := 0) rfl 0 rfl 28 rfl ?_
  refine A_iconst (v := 1) C dX8_knock_28 (by decide) 29 rfl ?_
  refine CVi C dX8_knock_29 8 k0 (by decide) (r := (RX8, TX8, 19)) rfl rfl hf (fun _ _ e => mX8_refuse k0 e) lkRX8_83 (by decide) (by decide) rfl [] rfl (Nat.le_of_ble_eq_true rfl) 32 rfl (fun r29 h29 hf => ?_)
  exact A_iret C dX8_knock_32 E hf
set_option maxRecDepth 20000 in
theorem mX8_undo {K : KX} {x0 : Nat} (k0 : isK 8 x0) {h : HH} {rv : Bool} {hv : HH} (hf : fX8_undo x0 h = some (rv, hv)) : MR K yX8_undo cX8_undo 1 (some .boolean) 2 [.ref (K.2.1 x0)] h (some (.int (b2i rv))) hv := by
  refine MR_of (by decide) (Nat.le_of_ble_eq_true rfl) (fun G C E hnl => ?_)
  have C : Ok K G 2 cX8_undo RX8 := C
  refine (show At K G 0 [(0, .ref (K.2.1 x0))] [] h from ?_)
  unfold fX8_undo at hf
  refine A_aload_n C dX8_undo_0 (i := 0) rfl 0 rfl 1 rfl ?_
  refine gfRX8_110 C k0 dX8_undo_1 4 rfl ?_
  refine A_if_gt C dX8_undo_4 15 (by decide) 7 rfl hf (fun c4 hf => ?_) (fun c4 hf => ?_)
  · refine A_aload_n C dX8_undo_15 (i := 0) rfl 0 rfl 16 rfl ?_
    refine A_dup C dX8_undo_16 rfl 17 rfl ?_
    refine gfRX8_110 C k0 dX8_undo_17 20 rfl ?_
    refine A_iconst (v := 1) C dX8_undo_20 (by decide) 21 rfl ?_
    refine A_isub C dX8_undo_21 22 rfl ?_
    refine pfRX8_110 C k0 dX8_undo_22 25 rfl ?_
    refine A_aload_n C dX8_undo_25 (i := 0) rfl 0 rfl 26 rfl ?_
    refine gfRX8_23 C k0 dX8_undo_26 29 rfl ?_
    refine A_aload_n C dX8_undo_29 (i := 0) rfl 0 rfl 30 rfl ?_
    refine gfRX8_58 C k0 dX8_undo_30 33 rfl ?_
    refine A_aload_n C dX8_undo_33 (i := 0) rfl 0 rfl 34 rfl ?_
    refine gfRX8_110 C k0 dX8_undo_34 37 rfl ?_
    refine A_aald C dX8_undo_37 (of_8_8 k0) hf 38 rfl (fun kp1 hf => ?_)
    refine CVv C dX8_undo_38 2 (of_8_2 k0) (by decide) (r := (RX2, TX2, 7)) rfl rfl hf (fun _ e => mX2_copyFrom (of_8_2 k0) kp1 e) lkRX8_220 (by decide) (by decide) rfl [] rfl (Nat.le_of_ble_eq_true rfl) 41 rfl (fun h38 hf => ?_)
    refine A_aload_n C dX8_undo_41 (i := 0) rfl 0 rfl 42 rfl ?_
    refine A_iconst (v := 0) C dX8_undo_42 (by decide) 43 rfl ?_
    refine pfRX8_128 C k0 dX8_undo_43 46 rfl ?_
    refine A_iconst (v := 1) C dX8_undo_46 (by decide) 47 rfl ?_
    exact A_zret (x := true) C dX8_undo_47 E hf
  refine A_aload_n C dX8_undo_7 (i := 0) rfl 0 rfl 8 rfl ?_
  refine A_bipush (v := 6) C dX8_undo_8 (by decide) 10 rfl ?_
  refine pfRX8_128 C k0 dX8_undo_10 13 rfl ?_
  refine A_iconst (v := 0) C dX8_undo_13 (by decide) 14 rfl ?_
  exact A_zret (x := false) C dX8_undo_14 E hf
set_option maxRecDepth 20000 in
theorem mX8_image {K : KX} {x0 : Nat} (k0 : isK 8 x0) {h : HH} {rv : Int32} {hv : HH} (hf : fX8_image x0 h = some (rv, hv)) : MR K yX8_image cX8_image 1 (some .int) 2 [.ref (K.2.1 x0)] h (some (.int rv)) hv := by
  refine MR_of (by decide) (Nat.le_of_ble_eq_true rfl) (fun G C E hnl => ?_)
  have C : Ok K G 2 cX8_image RX8 := C
  refine (show At K G 0 [(0, .ref (K.2.1 x0))] [] h from ?_)
  unfold fX8_image at hf
  refine A_aload_n C dX8_image_0 (i := 0) rfl 0 rfl 1 rfl ?_
  refine gfRX8_98 C k0 dX8_image_1 4 rfl ?_
  refine A_if_ne C dX8_image_4 13 (by decide) 7 rfl hf (fun c4 hf => ?_) (fun c4 hf => ?_)
  · refine A_aload_n C dX8_image_13 (i := 0) rfl 0 rfl 14 rfl ?_
    refine gfRX8_113 C k0 dX8_image_14 17 rfl ?_
    refine A_iconst (v := 3) C dX8_image_17 (by decide) 18 rfl ?_
    refine A_icmp_lt C dX8_image_18 27 (by decide) 21 rfl hf (fun c18 hf => ?_) (fun c18 hf => ?_)
    · refine A_aload_n C dX8_image_27 (i := 0) rfl 0 rfl 28 rfl ?_
      refine gfRX8_62 C k0 dX8_image_28 31 rfl ?_
      refine A_aload_n C dX8_image_31 (i := 0) rfl 0 rfl 32 rfl ?_
      refine gfRX8_113 C k0 dX8_image_32 35 rfl ?_
      refine A_aald C dX8_image_35 (of_8_9 k0) hf 36 rfl (fun kp1 hf => ?_)
      refine A_aload_n C dX8_image_36 (i := 0) rfl 0 rfl 37 rfl ?_
      refine gfRX8_23 C k0 dX8_image_37 40 rfl ?_
      refine CVv C dX8_image_40 2 kp1 (by decide) (r := (RX2, TX2, 7)) rfl rfl hf (fun _ e => mX2_copyFrom kp1 (of_8_2 k0) e) lkRX8_220 (by decide) (by decide) rfl [] rfl (Nat.le_of_ble_eq_true rfl) 43 rfl (fun h40 hf => ?_)
      refine A_aload_n C dX8_image_43 (i := 0) rfl 0 rfl 44 rfl ?_
      refine A_dup C dX8_image_44 rfl 45 rfl ?_
      refine gfRX8_113 C k0 dX8_image_45 48 rfl ?_
      refine A_iconst (v := 1) C dX8_image_48 (by decide) 49 rfl ?_
      refine A_iadd C dX8_image_49 50 rfl ?_
      refine pfRX8_113 C k0 dX8_image_50 53 rfl ?_
      refine A_aload_n C dX8_image_53 (i := 0) rfl 0 rfl 54 rfl ?_
      refine A_aload_n C dX8_image_54 (i := 0) rfl 0 rfl 55 rfl ?_
      refine gfRX8_113 C k0 dX8_image_55 58 rfl ?_
      refine A_iconst (v := 1) C dX8_image_58 (by decide) 59 rfl ?_
      refine A_isub C dX8_image_59 60 rfl ?_
      refine CVi C dX8_image_60 8 k0 (by decide) (r := (RX8, TX8, 19)) rfl rfl hf (fun _ _ e => mX8_allow k0 e) lkRX8_125 (by decide) (by decide) rfl [] rfl (Nat.le_of_ble_eq_true rfl) 63 rfl (fun r60 h60 hf => ?_)
      exact A_iret C dX8_image_63 E hf
    refine A_aload_n C dX8_image_21 (i := 0) rfl 0 rfl 22 rfl ?_
    refine A_iconst (v := 3) C dX8_image_22 (by decide) 23 rfl ?_
    refine CVi C dX8_image_23 8 k0 (by decide) (r := (RX8, TX8, 19)) rfl rfl hf (fun _ _ e => mX8_refuse k0 e) lkRX8_83 (by decide) (by decide) rfl [] rfl (Nat.le_of_ble_eq_true rfl) 26 rfl (fun r23 h23 hf => ?_)
    exact A_iret C dX8_image_26 E hf
  refine A_aload_n C dX8_image_7 (i := 0) rfl 0 rfl 8 rfl ?_
  refine A_iconst (v := 1) C dX8_image_8 (by decide) 9 rfl ?_
  refine CVi C dX8_image_9 8 k0 (by decide) (r := (RX8, TX8, 19)) rfl rfl hf (fun _ _ e => mX8_refuse k0 e) lkRX8_83 (by decide) (by decide) rfl [] rfl (Nat.le_of_ble_eq_true rfl) 12 rfl (fun r9 h9 hf => ?_)
  exact A_iret C dX8_image_12 E hf
set_option maxRecDepth 20000 in
theorem mX8_back {K : KX} {x0 : Nat} {x1 : Int32} (k0 : isK 8 x0) {h : HH} {rv : Bool} {hv : HH} (hf : fX8_back x0 x1 h = some (rv, hv)) : MR K yX8_back cX8_back 2 (some .boolean) 2 [.ref (K.2.1 x0), .int x1] h (some (.int (b2i rv))) hv := by
  refine MR_of (by decide) (Nat.le_of_ble_eq_true rfl) (fun G C E hnl => ?_)
  have C : Ok K G 2 cX8_back RX8 := C
  refine (show At K G 0 [(0, .ref (K.2.1 x0)), (1, .int x1)] [] h from ?_)
  unfold fX8_back at hf
  refine A_iload_n C dX8_back_0 (i := 1) rfl 1 rfl 1 rfl ?_
  refine A_if_lt C dX8_back_1 12 (by decide) 4 rfl hf (fun c1 hf => ?_) (fun c1 hf => ?_)
  · refine A_aload_n C dX8_back_12 (i := 0) rfl 0 rfl 13 rfl ?_
    refine A_iconst (v := 1) C dX8_back_13 (by decide) 14 rfl ?_
    refine pfRX8_128 C k0 dX8_back_14 17 rfl ?_
    refine A_iconst (v := 0) C dX8_back_17 (by decide) 18 rfl ?_
    exact A_zret (x := false) C dX8_back_18 E hf
  refine A_iload_n C dX8_back_4 (i := 1) rfl 1 rfl 5 rfl ?_
  refine A_aload_n C dX8_back_5 (i := 0) rfl 0 rfl 6 rfl ?_
  refine gfRX8_113 C k0 dX8_back_6 9 rfl ?_
  refine A_icmp_lt C dX8_back_9 19 (by decide) 12 rfl hf (fun c9 hf => ?_) (fun c9 hf => ?_)
  · refine A_aload_n C dX8_back_19 (i := 0) rfl 0 rfl 20 rfl ?_
    refine gfRX8_23 C k0 dX8_back_20 23 rfl ?_
    refine A_aload_n C dX8_back_23 (i := 0) rfl 0 rfl 24 rfl ?_
    refine gfRX8_62 C k0 dX8_back_24 27 rfl ?_
    refine A_iload_n C dX8_back_27 (i := 1) rfl 1 rfl 28 rfl ?_
    refine A_aald C dX8_back_28 (of_8_9 k0) hf 29 rfl (fun kp1 hf => ?_)
    refine CVv C dX8_back_29 2 (of_8_2 k0) (by decide) (r := (RX2, TX2, 7)) rfl rfl hf (fun _ e => mX2_copyFrom (of_8_2 k0) kp1 e) lkRX8_220 (by decide) (by decide) rfl [] rfl (Nat.le_of_ble_eq_true rfl) 32 rfl (fun h29 hf => ?_)
    refine A_aload_n C dX8_back_32 (i := 0) rfl 0 rfl 33 rfl ?_
    refine A_iconst (v := 0) C dX8_back_33 (by decide) 34 rfl ?_
    refine pfRX8_110 C k0 dX8_back_34 37 rfl ?_
    refine A_aload_n C dX8_back_37 (i := 0) rfl 0 rfl 38 rfl ?_
    refine A_iconst (v := 0) C dX8_back_38 (by decide) 39 rfl ?_
    refine pfRX8_128 C k0 dX8_back_39 42 rfl ?_
    refine A_namH hf (fun g2 hf => ?_)
    refine A_iconst (v := 1) C dX8_back_42 (by decide) 43 rfl ?_
    exact A_zret (x := true) C dX8_back_43 E hf
  refine A_aload_n C dX8_back_12 (i := 0) rfl 0 rfl 13 rfl ?_
  refine A_iconst (v := 1) C dX8_back_13 (by decide) 14 rfl ?_
  refine pfRX8_128 C k0 dX8_back_14 17 rfl ?_
  refine A_iconst (v := 0) C dX8_back_17 (by decide) 18 rfl ?_
  exact A_zret (x := false) C dX8_back_18 E hf
set_option maxRecDepth 20000 in
theorem mX8_toldSize {K : KX} {x0 : Nat} {x1 : Int32} (k0 : isK 8 x0) {h : HH} {rv : Int32} {hv : HH} (hf : fX8_toldSize x0 x1 h = some (rv, hv)) : MR K yX8_toldSize cX8_toldSize 2 (some .int) 1 [.ref (K.2.1 x0), .int x1] h (some (.int rv)) hv := by
  refine MR_of (by decide) (Nat.le_of_ble_eq_true rfl) (fun G C E hnl => ?_)
  have C : Ok K G 1 cX8_toldSize RX8 := C
  refine (show At K G 0 [(0, .ref (K.2.1 x0)), (1, .int x1)] [] h from ?_)
  unfold fX8_toldSize at hf
  refine A_aload_n C dX8_toldSize_0 (i := 0) rfl 0 rfl 1 rfl ?_
  refine gfRX8_98 C k0 dX8_toldSize_1 4 rfl ?_
  refine A_if_ne C dX8_toldSize_4 9 (by decide) 7 rfl hf (fun c4 hf => ?_) (fun c4 hf => ?_)
  · refine A_iload_n C dX8_toldSize_9 (i := 1) rfl 1 rfl 10 rfl ?_
    by_cases e10_0 : x1 = 0
    · rw [if_pos e10_0] at hf
      refine A_swIn (v := 0) (off := 50) C dX8_toldSize_10 e10_0 (by decide) (by decide) (by decide) 60 (by decide) ?_
      refine A_aload_n C dX8_toldSize_60 (i := 0) rfl 0 rfl 61 rfl ?_
      refine gfRX8_68 C k0 dX8_toldSize_61 hf 64 rfl (fun kp1 hf => ?_)
      refine gfRX8_298 C kp1 dX8_toldSize_64 67 rfl ?_
      exact A_iret C dX8_toldSize_67 E hf
    rw [if_neg e10_0] at hf
    by_cases e10_1 : x1 = 1
    · rw [if_pos e10_1] at hf
      refine A_swIn (v := 1) (off := 58) C dX8_toldSize_10 e10_1 (by decide) (by decide) (by decide) 68 (by decide) ?_
      refine A_aload_n C dX8_toldSize_68 (i := 0) rfl 0 rfl 69 rfl ?_
      refine gfRX8_68 C k0 dX8_toldSize_69 hf 72 rfl (fun kp2 hf => ?_)
      refine gfRX8_401 C kp2 dX8_toldSize_72 75 rfl ?_
      exact A_iret C dX8_toldSize_75 E hf
    rw [if_neg e10_1] at hf
    by_cases e10_2 : x1 = 2
    · rw [if_pos e10_2] at hf
      refine A_swIn (v := 2) (off := 66) C dX8_toldSize_10 e10_2 (by decide) (by decide) (by decide) 76 (by decide) ?_
      refine A_aload_n C dX8_toldSize_76 (i := 0) rfl 0 rfl 77 rfl ?_
      refine gfRX8_68 C k0 dX8_toldSize_77 hf 80 rfl (fun kp3 hf => ?_)
      refine gfRX8_404 C kp3 dX8_toldSize_80 83 rfl ?_
      exact A_iret C dX8_toldSize_83 E hf
    rw [if_neg e10_2] at hf
    by_cases e10_3 : x1 = 3
    · rw [if_pos e10_3] at hf
      refine A_swIn (v := 3) (off := 74) C dX8_toldSize_10 e10_3 (by decide) (by decide) (by decide) 84 (by decide) ?_
      refine A_aload_n C dX8_toldSize_84 (i := 0) rfl 0 rfl 85 rfl ?_
      refine gfRX8_68 C k0 dX8_toldSize_85 hf 88 rfl (fun kp4 hf => ?_)
      refine gfRX8_331 C kp4 dX8_toldSize_88 91 rfl ?_
      exact A_iret C dX8_toldSize_91 E hf
    rw [if_neg e10_3] at hf
    by_cases e10_4 : x1 = 4
    · rw [if_pos e10_4] at hf
      refine A_swIn (v := 4) (off := 82) C dX8_toldSize_10 e10_4 (by decide) (by decide) (by decide) 92 (by decide) ?_
      refine A_aload_n C dX8_toldSize_92 (i := 0) rfl 0 rfl 93 rfl ?_
      refine gfRX8_68 C k0 dX8_toldSize_93 hf 96 rfl (fun kp5 hf => ?_)
      refine gfRX8_116 C kp5 dX8_toldSize_96 99 rfl ?_
      refine gfRX8_120 C (of_0_3 kp5) dX8_toldSize_99 102 rfl ?_
      exact A_iret C dX8_toldSize_102 E hf
    rw [if_neg e10_4] at hf
    by_cases e10_5 : x1 = 5
    · rw [if_pos e10_5] at hf
      refine A_swIn (v := 5) (off := 93) C dX8_toldSize_10 e10_5 (by decide) (by decide) (by decide) 103 (by decide) ?_
      refine A_aload_n C dX8_toldSize_103 (i := 0) rfl 0 rfl 104 rfl ?_
      refine gfRX8_68 C k0 dX8_toldSize_104 hf 107 rfl (fun kp6 hf => ?_)
      refine gfRX8_407 C kp6 dX8_toldSize_107 110 rfl ?_
      refine gfRX8_120 C (of_0_4 kp6) dX8_toldSize_110 113 rfl ?_
      exact A_iret C dX8_toldSize_113 E hf
    rw [if_neg e10_5] at hf
    by_cases e10_6 : x1 = 6
    · rw [if_pos e10_6] at hf
      refine A_swIn (v := 6) (off := 104) C dX8_toldSize_10 e10_6 (by decide) (by decide) (by decide) 114 (by decide) ?_
      refine A_aload_n C dX8_toldSize_114 (i := 0) rfl 0 rfl 115 rfl ?_
      refine gfRX8_68 C k0 dX8_toldSize_115 hf 118 rfl (fun kp7 hf => ?_)
      refine gfRX8_410 C kp7 dX8_toldSize_118 121 rfl ?_
      refine gfRX8_120 C (of_0_5 kp7) dX8_toldSize_121 124 rfl ?_
      exact A_iret C dX8_toldSize_124 E hf
    rw [if_neg e10_6] at hf
    by_cases e10_7 : x1 = 7
    · rw [if_pos e10_7] at hf
      refine A_swIn (v := 7) (off := 115) C dX8_toldSize_10 e10_7 (by decide) (by decide) (by decide) 125 (by decide) ?_
      refine A_aload_n C dX8_toldSize_125 (i := 0) rfl 0 rfl 126 rfl ?_
      refine gfRX8_68 C k0 dX8_toldSize_126 hf 129 rfl (fun kp8 hf => ?_)
      refine gfRX8_247 C kp8 dX8_toldSize_129 132 rfl ?_
      refine gfRX8_120 C (of_0_6 kp8) dX8_toldSize_132 135 rfl ?_
      exact A_iret C dX8_toldSize_135 E hf
    rw [if_neg e10_7] at hf
    by_cases e10_8 : x1 = 8
    · rw [if_pos e10_8] at hf
      refine A_swIn (v := 8) (off := 126) C dX8_toldSize_10 e10_8 (by decide) (by decide) (by decide) 136 (by decide) ?_
      refine A_aload_n C dX8_toldSize_136 (i := 0) rfl 0 rfl 137 rfl ?_
      refine gfRX8_68 C k0 dX8_toldSize_137 hf 140 rfl (fun kp9 hf => ?_)
      refine gfRX8_413 C kp9 dX8_toldSize_140 143 rfl ?_
      refine gfRX8_120 C (of_0_7 kp9) dX8_toldSize_143 146 rfl ?_
      exact A_iret C dX8_toldSize_146 E hf
    rw [if_neg e10_8] at hf
    refine A_swOut C dX8_toldSize_10 (sw_out 0 9 (by decide) (fun j hj => by
      match j, hj with
      | 0, _ => exact e10_0
      | 1, _ => exact e10_1
      | 2, _ => exact e10_2
      | 3, _ => exact e10_3
      | 4, _ => exact e10_4
      | 5, _ => exact e10_5
      | 6, _ => exact e10_6
      | 7, _ => exact e10_7
      | 8, _ => exact e10_8
      | j + 9, hj => exact absurd hj (by omega))) 147 (by decide) ?_
    refine A_aload_n C dX8_toldSize_147 (i := 0) rfl 0 rfl 148 rfl ?_
    refine gfRX8_68 C k0 dX8_toldSize_148 hf 151 rfl (fun kp10 hf => ?_)
    refine gfRX8_416 C kp10 dX8_toldSize_151 154 rfl ?_
    refine gfRX8_120 C (of_0_8 kp10) dX8_toldSize_154 157 rfl ?_
    exact A_iret C dX8_toldSize_157 E hf
  refine A_iconst (v := 0) C dX8_toldSize_7 (by decide) 8 rfl ?_
  exact A_iret C dX8_toldSize_8 E hf
set_option maxRecDepth 20000 in
theorem mX8_size {K : KX} {x0 : Nat} {x1 : Int32} (k0 : isK 8 x0) {h : HH} {rv : Int32} {hv : HH} (hf : fX8_size x0 x1 h = some (rv, hv)) : MR K yX8_size cX8_size 2 (some .int) 2 [.ref (K.2.1 x0), .int x1] h (some (.int rv)) hv := by
  refine MR_of (by decide) (Nat.le_of_ble_eq_true rfl) (fun G C E hnl => ?_)
  have C : Ok K G 2 cX8_size RX8 := C
  refine (show At K G 0 [(0, .ref (K.2.1 x0)), (1, .int x1)] [] h from ?_)
  unfold fX8_size at hf
  refine A_iload_n C dX8_size_0 (i := 1) rfl 1 rfl 1 rfl ?_
  by_cases e1_0 : x1 = 10
  · rw [if_pos e1_0] at hf
    refine A_swIn (v := 10) (off := 27) C dX8_size_1 e1_0 (by decide) (by decide) (by decide) 28 (by decide) ?_
    refine A_aload_n C dX8_size_28 (i := 0) rfl 0 rfl 29 rfl ?_
    refine gfRX8_110 C k0 dX8_size_29 32 rfl ?_
    exact A_iret C dX8_size_32 E hf
  rw [if_neg e1_0] at hf
  by_cases e1_1 : x1 = 11
  · rw [if_pos e1_1] at hf
    refine A_swIn (v := 11) (off := 32) C dX8_size_1 e1_1 (by decide) (by decide) (by decide) 33 (by decide) ?_
    refine A_aload_n C dX8_size_33 (i := 0) rfl 0 rfl 34 rfl ?_
    refine gfRX8_113 C k0 dX8_size_34 37 rfl ?_
    exact A_iret C dX8_size_37 E hf
  rw [if_neg e1_1] at hf
  by_cases e1_2 : x1 = 12
  · rw [if_pos e1_2] at hf
    refine A_swIn (v := 12) (off := 37) C dX8_size_1 e1_2 (by decide) (by decide) (by decide) 38 (by decide) ?_
    refine A_aload_n C dX8_size_38 (i := 0) rfl 0 rfl 39 rfl ?_
    refine gfRX8_75 C k0 dX8_size_39 42 rfl ?_
    exact A_iret C dX8_size_42 E hf
  rw [if_neg e1_2] at hf
  refine A_swOut C dX8_size_1 (sw_out 10 3 (by decide) (fun j hj => by
    match j, hj with
    | 0, _ => exact e1_0
    | 1, _ => exact e1_1
    | 2, _ => exact e1_2
    | j + 3, hj => exact absurd hj (by omega))) 43 (by decide) ?_
  refine A_iload_n C dX8_size_43 (i := 1) rfl 1 rfl 44 rfl ?_
  refine A_if_lt C dX8_size_44 53 (by decide) 47 rfl hf (fun c44 hf => ?_) (fun c44 hf => ?_)
  · refine A_iconst (v := (-1)) C dX8_size_53 (by decide) 54 rfl ?_
    refine A_goto C dX8_size_54 62 (by decide) ?_
    exact A_iret C dX8_size_62 E hf
  refine A_iload_n C dX8_size_47 (i := 1) rfl 1 rfl 48 rfl ?_
  refine A_bipush (v := 12) C dX8_size_48 (by decide) 50 rfl ?_
  refine A_icmp_le C dX8_size_50 57 (by decide) 53 rfl hf (fun c50 hf => ?_) (fun c50 hf => ?_)
  · refine A_aload_n C dX8_size_57 (i := 0) rfl 0 rfl 58 rfl ?_
    refine A_iload_n C dX8_size_58 (i := 1) rfl 1 rfl 59 rfl ?_
    refine CVi C dX8_size_59 8 k0 (by decide) (r := (RX8, TX8, 19)) rfl rfl hf (fun _ _ e => mX8_toldSize k0 e) lkRX8_398 (by decide) (by decide) rfl [] rfl (Nat.le_of_ble_eq_true rfl) 62 rfl (fun r59 h59 hf => ?_)
    exact A_iret C dX8_size_62 E hf
  refine A_iconst (v := (-1)) C dX8_size_53 (by decide) 54 rfl ?_
  refine A_goto C dX8_size_54 62 (by decide) ?_
  exact A_iret C dX8_size_62 E hf
set_option maxRecDepth 20000 in
theorem mX8_trouble {K : KX} {x0 : Nat} (k0 : isK 8 x0) {h : HH} {rv : Int32} {hv : HH} (hf : fX8_trouble x0 h = some (rv, hv)) : MR K yX8_trouble cX8_trouble 1 (some .int) 1 [.ref (K.2.1 x0)] h (some (.int rv)) hv := by
  refine MR_of (by decide) (Nat.le_of_ble_eq_true rfl) (fun G C E hnl => ?_)
  have C : Ok K G 1 cX8_trouble RX8 := C
  refine (show At K G 0 [(0, .ref (K.2.1 x0))] [] h from ?_)
  unfold fX8_trouble at hf
  refine A_aload_n C dX8_trouble_0 (i := 0) rfl 0 rfl 1 rfl ?_
  refine gfRX8_128 C k0 dX8_trouble_1 4 rfl ?_
  exact A_iret C dX8_trouble_4 E hf
