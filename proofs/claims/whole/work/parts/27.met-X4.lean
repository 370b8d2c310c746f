set_option maxRecDepth 20000 in
theorem wX4_allMinutes_L4 {K : KX} {G : GX} (C : Ok K G 2 cX4_allMinutes RX4) (hnl : G.2.2.2.2.2.2.2.2.2.2.2.2.2 = 4) {rv : Int64} {hv : HH} (E : Endd K G (some .long) (some (.long rv)) hv) {x0 : Nat}   (kx0 : isK 0 x0) : ∀ (self4 : Int64 → Int32 → HH → Option (Int64 × HH)), (∀ (x1 : Int64) (x3 : Int32) (h : HH), self4 x1 x3 h = some (rv, hv) → At K G 4 [(0, .ref (K.2.1 x0)), (1, .long x1), (3, .int x3)] [] h) → ∀ (x1 : Int64) (x3 : Int32) (h : HH), fX4_allMinutes_L4 x0 self4 x1 x3 h = some (rv, hv) → At K G 4 [(0, .ref (K.2.1 x0)), (1, .long x1), (3, .int x3)] [] h := by
  intro self4 Hself4 x1 x3 h hf
  unfold fX4_allMinutes_L4 at hf
  refine A_iload_n C dX4_allMinutes_4 (i := 3) rfl 2 rfl 5 rfl ?_
  refine A_aload_n C dX4_allMinutes_5 (i := 0) rfl 0 rfl 6 rfl ?_
  refine gfRX4_46 C kx0 dX4_allMinutes_6 9 rfl ?_
  refine gfRX4_50 C (of_0_6 kx0) dX4_allMinutes_9 12 rfl ?_
  refine A_icmp_ge C dX4_allMinutes_12 34 (by decide) 15 rfl hf (fun c12 hf => ?_) (fun c12 hf => ?_)
  · refine A_lload_n C dX4_allMinutes_34 (i := 1) rfl 1 rfl 35 rfl ?_
    exact A_lret C dX4_allMinutes_35 E hf
  refine A_lload_n C dX4_allMinutes_15 (i := 1) rfl 1 rfl 16 rfl ?_
  refine A_aload_n C dX4_allMinutes_16 (i := 0) rfl 0 rfl 17 rfl ?_
  refine gfRX4_46 C kx0 dX4_allMinutes_17 20 rfl ?_
  refine A_iload_n C dX4_allMinutes_20 (i := 3) rfl 2 rfl 21 rfl ?_
  refine A_iconst (v := 1) C dX4_allMinutes_21 (by decide) 22 rfl ?_
  refine CVi C dX4_allMinutes_22 7 (of_0_6 kx0) (by decide) (r := (RX7, TX7, 4)) rfl rfl hf (fun _ _ e => mX7_at (of_0_6 kx0) e) lkRX4_64 (by decide) (by decide) rfl [.long x1] rfl (Nat.le_of_ble_eq_true rfl) 25 rfl (fun r22 h22 hf => ?_)
  refine A_i2l C dX4_allMinutes_25 26 rfl ?_
  refine A_ladd C dX4_allMinutes_26 27 rfl ?_
  refine A_namL hf (fun y1 hf => ?_)
  refine A_lstore_n C dX4_allMinutes_27 (i := 1) rfl [(1, .long y1), (0, .ref (K.2.1 x0)), (3, .int x3)] (lt_nl hnl (by decide)) rfl 28 rfl ?_
  refine A_iinc (v := (x3 + 1)) C dX4_allMinutes_28 2 rfl rfl [(3, .int (x3 + 1)), (1, .long y1), (0, .ref (K.2.1 x0))] (lt_nl hnl (by decide)) rfl 31 rfl ?_
  refine A_goto C dX4_allMinutes_31 4 (by decide) ?_
  refine A_sub [2, 1, 0] (lv' := [(0, .ref (K.2.1 x0)), (1, .long y1), (3, .int (x3 + 1))]) rfl ?_
  exact Hself4 _ _ _ hf
set_option maxRecDepth 20000 in
theorem mX4_allMinutes {K : KX} {x0 : Nat} (k0 : isK 0 x0) {h : HH} {rv : Int64} {hv : HH} (hf : fX4_allMinutes x0 h = some (rv, hv)) : MR K yX4_allMinutes cX4_allMinutes 4 (some .long) 2 [.ref (K.2.1 x0)] h (some (.long rv)) hv := by
  refine MR_of (by decide) (Nat.le_of_ble_eq_true rfl) (fun G C E hnl => ?_)
  have C : Ok K G 2 cX4_allMinutes RX4 := C
  refine (show At K G 0 [(0, .ref (K.2.1 x0))] [] h from ?_)
  unfold fX4_allMinutes at hf
  refine A_lconst (v := 0) C dX4_allMinutes_0 (by decide) 1 rfl ?_
  refine A_lstore_n C dX4_allMinutes_1 (i := 1) rfl [(1, .long 0), (0, .ref (K.2.1 x0))] (lt_nl hnl (by decide)) rfl 2 rfl ?_
  refine A_iconst (v := 0) C dX4_allMinutes_2 (by decide) 3 rfl ?_
  refine A_istore_n C dX4_allMinutes_3 (i := 3) rfl [(3, .int 0), (1, .long 0), (0, .ref (K.2.1 x0))] (lt_nl hnl (by decide)) rfl 4 rfl ?_
  refine A_sub [2, 1, 0] (lv' := [(0, .ref (K.2.1 x0)), (1, .long 0), (3, .int 0)]) rfl ?_
  refine lq2_at (wX4_allMinutes_L4 C hnl E k0) FU _ _ _ hf
set_option maxRecDepth 20000 in
theorem wX4_weigh_L98 {K : KX} {G : GX} (C : Ok K G 4 cX4_weigh RX4) (hnl : G.2.2.2.2.2.2.2.2.2.2.2.2.2 = 11) {rv : HH} (E : Endd K G none none rv) {x0 : Nat}   (kx0 : isK 4 x0) : ∀ (self98 : Int32 → HH → Option (HH)), (∀ (x10 : Int32) (h : HH), self98 x10 h = some rv → At K G 98 [(0, .ref (K.2.1 x0)), (10, .int x10)] [] h) → ∀ (x10 : Int32) (h : HH), fX4_weigh_L98 x0 self98 x10 h = some rv → At K G 98 [(0, .ref (K.2.1 x0)), (10, .int x10)] [] h := by
  intro self98 Hself98 x10 h hf
  unfold fX4_weigh_L98 at hf
  refine A_iload C dX4_weigh_98 1 rfl 100 rfl ?_
  refine A_bipush (v := 6) C dX4_weigh_100 (by decide) 102 rfl ?_
  refine A_icmp_ge C dX4_weigh_102 125 (by decide) 105 rfl hf (fun c102 hf => ?_) (fun c102 hf => ?_)
  · exact A_vret C dX4_weigh_125 E hf
  refine A_aload_n C dX4_weigh_105 (i := 0) rfl 0 rfl 106 rfl ?_
  refine gfRX4_9 C kx0 dX4_weigh_106 109 rfl ?_
  refine A_iload C dX4_weigh_109 1 rfl 111 rfl ?_
  refine A_aload_n C dX4_weigh_111 (i := 0) rfl 0 rfl 112 rfl ?_
  refine gfRX4_15 C kx0 dX4_weigh_112 115 rfl ?_
  refine A_iload C dX4_weigh_115 1 rfl 117 rfl ?_
  refine A_iald C dX4_weigh_117 (of_4_1 kx0) hf 118 rfl (fun hf => ?_)
  refine A_iast C dX4_weigh_118 (of_4_0 kx0) hf 119 rfl (fun hf => ?_)
  refine A_iinc (v := (x10 + 1)) C dX4_weigh_119 1 rfl rfl [(10, .int (x10 + 1)), (0, .ref (K.2.1 x0))] (lt_nl hnl (by decide)) rfl 122 rfl ?_
  refine A_goto C dX4_weigh_122 98 (by decide) ?_
  refine A_sub [1, 0] (lv' := [(0, .ref (K.2.1 x0)), (10, .int (x10 + 1))]) rfl ?_
  exact Hself98 _ _ hf
set_option maxRecDepth 20000 in
theorem mX4_weigh {K : KX} {x0 : Nat} {x1 : Nat} {x2 : Int32} {x3 : Int64} {x5 : Int64} (k0 : isK 4 x0) (k1 : isK 0 x1) {h : HH} {rv : HH} (hf : fX4_weigh x0 x1 x2 x3 x5 h = some rv) : MR K yX4_weigh cX4_weigh 11 none 4 [.ref (K.2.1 x0), .ref (K.2.1 x1), .int x2, .long x3, .long x5] h none rv := by
  refine MR_of (by decide) (Nat.le_of_ble_eq_true rfl) (fun G C E hnl => ?_)
  have C : Ok K G 4 cX4_weigh RX4 := C
  refine (show At K G 0 [(0, .ref (K.2.1 x0)), (1, .ref (K.2.1 x1)), (2, .int x2), (3, .long x3), (5, .long x5)] [] h from ?_)
  unfold fX4_weigh at hf
  refine A_aload_n C dX4_weigh_0 (i := 1) rfl 1 rfl 1 rfl ?_
  refine gfRX4_80 C k1 dX4_weigh_1 4 rfl ?_
  refine A_i2l C dX4_weigh_4 5 rfl ?_
  refine A_iload_n C dX4_weigh_5 (i := 2) rfl 2 rfl 6 rfl ?_
  refine A_i2l C dX4_weigh_6 7 rfl ?_
  refine A_lmul C dX4_weigh_7 8 rfl ?_
  refine A_aload_n C dX4_weigh_8 (i := 0) rfl 0 rfl 9 rfl ?_
  refine gfRX4_29 C k0 dX4_weigh_9 12 rfl ?_
  refine A_ladd C dX4_weigh_12 13 rfl ?_
  refine A_namL hf (fun y1 hf => ?_)
  refine A_lstore C dX4_weigh_13 [(7, .long y1), (0, .ref (K.2.1 x0)), (1, .ref (K.2.1 x1)), (2, .int x2), (3, .long x3), (5, .long x5)] (lt_nl hnl (by decide)) rfl 15 rfl ?_
  refine A_aload_n C dX4_weigh_15 (i := 0) rfl 1 rfl 16 rfl ?_
  refine gfRX4_22 C k0 dX4_weigh_16 19 rfl ?_
  refine A_if_eq C dX4_weigh_19 50 (by decide) 22 rfl hf (fun c19 hf => ?_) (fun c19 hf => ?_)
  · refine A_iconst (v := 1) C dX4_weigh_50 (by decide) 51 rfl ?_
    refine A_goto C dX4_weigh_51 55 (by decide) ?_
    refine A_istore C dX4_weigh_55 [(9, .int 1), (7, .long y1), (0, .ref (K.2.1 x0)), (1, .ref (K.2.1 x1)), (2, .int x2), (3, .long x3), (5, .long x5)] (lt_nl hnl (by decide)) rfl 57 rfl ?_
    refine A_lload C dX4_weigh_57 6 rfl 59 rfl ?_
    refine A_aload_n C dX4_weigh_59 (i := 1) rfl 3 rfl 60 rfl ?_
    refine CVl C dX4_weigh_60 0 k1 (by decide) (r := (RX0, TX0, 14)) rfl rfl hf (fun _ _ e => mX0_morningTick k1 e) lkRX4_37 (by decide) (by decide) rfl [.long x5] rfl (Nat.le_of_ble_eq_true rfl) 63 rfl (fun r60 h60 hf => ?_)
    refine A_l_gt C dX4_weigh_63 dX4_weigh_64 72 (by decide) 67 rfl hf (fun c63 hf => ?_) (fun c63 hf => ?_)
    · exact A_vret C dX4_weigh_72 E hf
    refine A_iload C dX4_weigh_67 0 rfl 69 rfl ?_
    refine T_if_ne C dX4_weigh_69 73 (by decide) (by decide) ?_
    refine A_aload_n C dX4_weigh_73 (i := 0) rfl 2 rfl 74 rfl ?_
    refine A_iconst (v := 1) C dX4_weigh_74 (by decide) 75 rfl ?_
    refine pfRX4_22 C k0 dX4_weigh_75 (Or.inr rfl) 78 rfl ?_
    refine A_aload_n C dX4_weigh_78 (i := 0) rfl 2 rfl 79 rfl ?_
    refine A_lload_n C dX4_weigh_79 (i := 3) rfl 5 rfl 80 rfl ?_
    refine pfRX4_43 C k0 dX4_weigh_80 83 rfl ?_
    refine A_namH hf (fun g2 hf => ?_)
    refine A_aload_n C dX4_weigh_83 (i := 0) rfl 2 rfl 84 rfl ?_
    refine A_lload C dX4_weigh_84 6 rfl 86 rfl ?_
    refine pfRX4_86 C k0 dX4_weigh_86 89 rfl ?_
    refine A_aload_n C dX4_weigh_89 (i := 0) rfl 2 rfl 90 rfl ?_
    refine A_lload C dX4_weigh_90 1 rfl 92 rfl ?_
    refine pfRX4_83 C k0 dX4_weigh_92 95 rfl ?_
    refine A_namH hf (fun g3 hf => ?_)
    refine A_iconst (v := 0) C dX4_weigh_95 (by decide) 96 rfl ?_
    refine A_istore C dX4_weigh_96 [(10, .int 0), (9, .int 1), (7, .long y1), (0, .ref (K.2.1 x0)), (1, .ref (K.2.1 x1)), (2, .int x2), (3, .long x3), (5, .long x5)] (lt_nl hnl (by decide)) rfl 98 rfl ?_
    refine A_sub [3, 0] (lv' := [(0, .ref (K.2.1 x0)), (10, .int 0)]) rfl ?_
    refine lq1_at (wX4_weigh_L98 C hnl E k0) FU _ _ hf
  refine A_lload_n C dX4_weigh_22 (i := 3) rfl 4 rfl 23 rfl ?_
  refine A_aload_n C dX4_weigh_23 (i := 0) rfl 1 rfl 24 rfl ?_
  refine gfRX4_43 C k0 dX4_weigh_24 27 rfl ?_
  refine A_l_lt C dX4_weigh_27 dX4_weigh_28 50 (by decide) 31 rfl hf (fun c27 hf => ?_) (fun c27 hf => ?_)
  · refine A_iconst (v := 1) C dX4_weigh_50 (by decide) 51 rfl ?_
    refine A_goto C dX4_weigh_51 55 (by decide) ?_
    refine A_istore C dX4_weigh_55 [(9, .int 1), (7, .long y1), (0, .ref (K.2.1 x0)), (1, .ref (K.2.1 x1)), (2, .int x2), (3, .long x3), (5, .long x5)] (lt_nl hnl (by decide)) rfl 57 rfl ?_
    refine A_lload C dX4_weigh_57 6 rfl 59 rfl ?_
    refine A_aload_n C dX4_weigh_59 (i := 1) rfl 3 rfl 60 rfl ?_
    refine CVl C dX4_weigh_60 0 k1 (by decide) (r := (RX0, TX0, 14)) rfl rfl hf (fun _ _ e => mX0_morningTick k1 e) lkRX4_37 (by decide) (by decide) rfl [.long x5] rfl (Nat.le_of_ble_eq_true rfl) 63 rfl (fun r60 h60 hf => ?_)
    refine A_l_gt C dX4_weigh_63 dX4_weigh_64 72 (by decide) 67 rfl hf (fun c63 hf => ?_) (fun c63 hf => ?_)
    · exact A_vret C dX4_weigh_72 E hf
    refine A_iload C dX4_weigh_67 0 rfl 69 rfl ?_
    refine T_if_ne C dX4_weigh_69 73 (by decide) (by decide) ?_
    refine A_aload_n C dX4_weigh_73 (i := 0) rfl 2 rfl 74 rfl ?_
    refine A_iconst (v := 1) C dX4_weigh_74 (by decide) 75 rfl ?_
    refine pfRX4_22 C k0 dX4_weigh_75 (Or.inr rfl) 78 rfl ?_
    refine A_aload_n C dX4_weigh_78 (i := 0) rfl 2 rfl 79 rfl ?_
    refine A_lload_n C dX4_weigh_79 (i := 3) rfl 5 rfl 80 rfl ?_
    refine pfRX4_43 C k0 dX4_weigh_80 83 rfl ?_
    refine A_namH hf (fun g4 hf => ?_)
    refine A_aload_n C dX4_weigh_83 (i := 0) rfl 2 rfl 84 rfl ?_
    refine A_lload C dX4_weigh_84 6 rfl 86 rfl ?_
    refine pfRX4_86 C k0 dX4_weigh_86 89 rfl ?_
    refine A_aload_n C dX4_weigh_89 (i := 0) rfl 2 rfl 90 rfl ?_
    refine A_lload C dX4_weigh_90 1 rfl 92 rfl ?_
    refine pfRX4_83 C k0 dX4_weigh_92 95 rfl ?_
    refine A_namH hf (fun g5 hf => ?_)
    refine A_iconst (v := 0) C dX4_weigh_95 (by decide) 96 rfl ?_
    refine A_istore C dX4_weigh_96 [(10, .int 0), (9, .int 1), (7, .long y1), (0, .ref (K.2.1 x0)), (1, .ref (K.2.1 x1)), (2, .int x2), (3, .long x3), (5, .long x5)] (lt_nl hnl (by decide)) rfl 98 rfl ?_
    refine A_sub [3, 0] (lv' := [(0, .ref (K.2.1 x0)), (10, .int 0)]) rfl ?_
    refine lq1_at (wX4_weigh_L98 C hnl E k0) FU _ _ hf
  refine A_lload_n C dX4_weigh_31 (i := 3) rfl 4 rfl 32 rfl ?_
  refine A_aload_n C dX4_weigh_32 (i := 0) rfl 1 rfl 33 rfl ?_
  refine gfRX4_43 C k0 dX4_weigh_33 36 rfl ?_
  refine A_l_ne C dX4_weigh_36 dX4_weigh_37 54 (by decide) 40 rfl hf (fun c36 hf => ?_) (fun c36 hf => ?_)
  · refine A_iconst (v := 0) C dX4_weigh_54 (by decide) 55 rfl ?_
    refine A_istore C dX4_weigh_55 [(9, .int 0), (7, .long y1), (0, .ref (K.2.1 x0)), (1, .ref (K.2.1 x1)), (2, .int x2), (3, .long x3), (5, .long x5)] (lt_nl hnl (by decide)) rfl 57 rfl ?_
    refine A_lload C dX4_weigh_57 6 rfl 59 rfl ?_
    refine A_aload_n C dX4_weigh_59 (i := 1) rfl 3 rfl 60 rfl ?_
    refine CVl C dX4_weigh_60 0 k1 (by decide) (r := (RX0, TX0, 14)) rfl rfl hf (fun _ _ e => mX0_morningTick k1 e) lkRX4_37 (by decide) (by decide) rfl [.long x5] rfl (Nat.le_of_ble_eq_true rfl) 63 rfl (fun r60 h60 hf => ?_)
    refine A_l_gt C dX4_weigh_63 dX4_weigh_64 72 (by decide) 67 rfl hf (fun c63 hf => ?_) (fun c63 hf => ?_)
    · exact A_vret C dX4_weigh_72 E hf
    refine A_iload C dX4_weigh_67 0 rfl 69 rfl ?_
    refine N_if_ne C dX4_weigh_69 73 (by decide) (by decide) 72 rfl ?_
    exact A_vret C dX4_weigh_72 E hf
  refine A_lload C dX4_weigh_40 0 rfl 42 rfl ?_
  refine A_aload_n C dX4_weigh_42 (i := 0) rfl 1 rfl 43 rfl ?_
  refine gfRX4_83 C k0 dX4_weigh_43 46 rfl ?_
  refine A_l_ge C dX4_weigh_46 dX4_weigh_47 54 (by decide) 50 rfl hf (fun c46 hf => ?_) (fun c46 hf => ?_)
  · refine A_iconst (v := 0) C dX4_weigh_54 (by decide) 55 rfl ?_
    refine A_istore C dX4_weigh_55 [(9, .int 0), (7, .long y1), (0, .ref (K.2.1 x0)), (1, .ref (K.2.1 x1)), (2, .int x2), (3, .long x3), (5, .long x5)] (lt_nl hnl (by decide)) rfl 57 rfl ?_
    refine A_lload C dX4_weigh_57 6 rfl 59 rfl ?_
    refine A_aload_n C dX4_weigh_59 (i := 1) rfl 3 rfl 60 rfl ?_
    refine CVl C dX4_weigh_60 0 k1 (by decide) (r := (RX0, TX0, 14)) rfl rfl hf (fun _ _ e => mX0_morningTick k1 e) lkRX4_37 (by decide) (by decide) rfl [.long x5] rfl (Nat.le_of_ble_eq_true rfl) 63 rfl (fun r60 h60 hf => ?_)
    refine A_l_gt C dX4_weigh_63 dX4_weigh_64 72 (by decide) 67 rfl hf (fun c63 hf => ?_) (fun c63 hf => ?_)
    · exact A_vret C dX4_weigh_72 E hf
    refine A_iload C dX4_weigh_67 0 rfl 69 rfl ?_
    refine N_if_ne C dX4_weigh_69 73 (by decide) (by decide) 72 rfl ?_
    exact A_vret C dX4_weigh_72 E hf
  refine A_iconst (v := 1) C dX4_weigh_50 (by decide) 51 rfl ?_
  refine A_goto C dX4_weigh_51 55 (by decide) ?_
  refine A_istore C dX4_weigh_55 [(9, .int 1), (7, .long y1), (0, .ref (K.2.1 x0)), (1, .ref (K.2.1 x1)), (2, .int x2), (3, .long x3), (5, .long x5)] (lt_nl hnl (by decide)) rfl 57 rfl ?_
  refine A_lload C dX4_weigh_57 6 rfl 59 rfl ?_
  refine A_aload_n C dX4_weigh_59 (i := 1) rfl 3 rfl 60 rfl ?_
  refine CVl C dX4_weigh_60 0 k1 (by decide) (r := (RX0, TX0, 14)) rfl rfl hf (fun _ _ e => mX0_morningTick k1 e) lkRX4_37 (by decide) (by decide) rfl [.long x5] rfl (Nat.le_of_ble_eq_true rfl) 63 rfl (fun r60 h60 hf => ?_)
  refine A_l_gt C dX4_weigh_63 dX4_weigh_64 72 (by decide) 67 rfl hf (fun c63 hf => ?_) (fun c63 hf => ?_)
  · exact A_vret C dX4_weigh_72 E hf
  refine A_iload C dX4_weigh_67 0 rfl 69 rfl ?_
  refine T_if_ne C dX4_weigh_69 73 (by decide) (by decide) ?_
  refine A_aload_n C dX4_weigh_73 (i := 0) rfl 2 rfl 74 rfl ?_
  refine A_iconst (v := 1) C dX4_weigh_74 (by decide) 75 rfl ?_
  refine pfRX4_22 C k0 dX4_weigh_75 (Or.inr rfl) 78 rfl ?_
  refine A_aload_n C dX4_weigh_78 (i := 0) rfl 2 rfl 79 rfl ?_
  refine A_lload_n C dX4_weigh_79 (i := 3) rfl 5 rfl 80 rfl ?_
  refine pfRX4_43 C k0 dX4_weigh_80 83 rfl ?_
  refine A_namH hf (fun g6 hf => ?_)
  refine A_aload_n C dX4_weigh_83 (i := 0) rfl 2 rfl 84 rfl ?_
  refine A_lload C dX4_weigh_84 6 rfl 86 rfl ?_
  refine pfRX4_86 C k0 dX4_weigh_86 89 rfl ?_
  refine A_aload_n C dX4_weigh_89 (i := 0) rfl 2 rfl 90 rfl ?_
  refine A_lload C dX4_weigh_90 1 rfl 92 rfl ?_
  refine pfRX4_83 C k0 dX4_weigh_92 95 rfl ?_
  refine A_namH hf (fun g7 hf => ?_)
  refine A_iconst (v := 0) C dX4_weigh_95 (by decide) 96 rfl ?_
  refine A_istore C dX4_weigh_96 [(10, .int 0), (9, .int 1), (7, .long y1), (0, .ref (K.2.1 x0)), (1, .ref (K.2.1 x1)), (2, .int x2), (3, .long x3), (5, .long x5)] (lt_nl hnl (by decide)) rfl 98 rfl ?_
  refine A_sub [3, 0] (lv' := [(0, .ref (K.2.1 x0)), (10, .int 0)]) rfl ?_
  refine lq1_at (wX4_weigh_L98 C hnl E k0) FU _ _ hf
set_option maxRecDepth 20000 in
theorem wX4_choose_L96 {K : KX} {G : GX} {rk : Nat} (C : Ok K G (rk + 1) cX4_choose RX4) (hnl : G.2.2.2.2.2.2.2.2.2.2.2.2.2 = 13) {rv : HH} (E : Endd K G none none rv) (hrk0 : 5 ≤ rk) {x0 : Nat} {x1 : Nat} {x2 : Int32} {x3 : Int32} {x4 : Int64} {x6 : Int64} {x8 : Int32} {x9 : Int32} {rec : Nat → Nat → Int32 → Int32 → Int64 → Int64 → HH → Option (HH)} (Hrec : ∀ (x0 : Nat) (x1 : Nat) (x2 : Int32) (x3 : Int32) (x4 : Int64) (x6 : Int64) (k0 : isK 4 x0) (k1 : isK 0 x1) (h : HH) (rv : HH), rec x0 x1 x2 x3 x4 x6 h = some rv → MR K yX4_choose cX4_choose 13 none rk [.ref (K.2.1 x0), .ref (K.2.1 x1), .int x2, .int x3, .long x4, .long x6] h none rv)  (kx0 : isK 4 x0) (kx1 : isK 0 x1) : ∀ (self96 : Int32 → HH → Option (HH)), (∀ (x10 : Int32) (h : HH), self96 x10 h = some rv → At K G 96 [(0, .ref (K.2.1 x0)), (1, .ref (K.2.1 x1)), (2, .int x2), (3, .int x3), (4, .long x4), (6, .long x6), (8, .int x8), (9, .int x9), (10, .int x10)] [] h) → ∀ (x10 : Int32) (h : HH), fX4_choose_L96 rec x0 x1 x2 x3 x4 x6 x8 x9 self96 x10 h = some rv → At K G 96 [(0, .ref (K.2.1 x0)), (1, .ref (K.2.1 x1)), (2, .int x2), (3, .int x3), (4, .long x4), (6, .long x6), (8, .int x8), (9, .int x9), (10, .int x10)] [] h := by
  intro self96 Hself96 x10 h hf
  unfold fX4_choose_L96 at hf
  refine A_iload C dX4_choose_96 8 rfl 98 rfl ?_
  refine A_aload_n C dX4_choose_98 (i := 1) rfl 1 rfl 99 rfl ?_
  refine gfRX4_68 C kx1 dX4_choose_99 102 rfl ?_
  refine A_icmp_gt C dX4_choose_102 161 (by decide) 105 rfl hf (fun c102 hf => ?_) (fun c102 hf => ?_)
  · exact A_vret C dX4_choose_161 E hf
  refine A_aload_n C dX4_choose_105 (i := 0) rfl 0 rfl 106 rfl ?_
  refine gfRX4_15 C kx0 dX4_choose_106 109 rfl ?_
  refine A_iload_n C dX4_choose_109 (i := 2) rfl 2 rfl 110 rfl ?_
  refine A_iload C dX4_choose_110 8 rfl 112 rfl ?_
  refine A_iast C dX4_choose_112 (of_4_1 kx0) hf 113 rfl (fun hf => ?_)
  refine A_lload C dX4_choose_113 5 rfl 115 rfl ?_
  refine A_iload C dX4_choose_115 6 rfl 117 rfl ?_
  refine A_i2l C dX4_choose_117 118 rfl ?_
  refine A_aload_n C dX4_choose_118 (i := 1) rfl 1 rfl 119 rfl ?_
  refine A_iload C dX4_choose_119 8 rfl 121 rfl ?_
  refine CVi C dX4_choose_121 0 kx1 (by decide) (r := (RX0, TX0, 14)) rfl rfl hf (fun _ _ e => mX0_minuteOf kx1 e) lkRX4_71 (by omega) (by decide) rfl [.long x8.toInt64, .long x6] rfl (Nat.le_of_ble_eq_true rfl) 124 rfl (fun r121 h121 hf => ?_)
  refine A_i2l C dX4_choose_124 125 rfl ?_
  refine A_lmul C dX4_choose_125 126 rfl ?_
  refine A_ladd C dX4_choose_126 127 rfl ?_
  refine A_namL hf (fun y1 hf => ?_)
  refine A_lstore C dX4_choose_127 [(11, .long y1), (0, .ref (K.2.1 x0)), (1, .ref (K.2.1 x1)), (2, .int x2), (3, .int x3), (4, .long x4), (6, .long x6), (8, .int x8), (9, .int x9), (10, .int x10)] (lt_nl hnl (by decide)) rfl 129 rfl ?_
  refine A_aload_n C dX4_choose_129 (i := 0) rfl 1 rfl 130 rfl ?_
  refine A_aload_n C dX4_choose_130 (i := 1) rfl 2 rfl 131 rfl ?_
  refine A_iload_n C dX4_choose_131 (i := 2) rfl 3 rfl 132 rfl ?_
  refine A_iconst (v := 1) C dX4_choose_132 (by decide) 133 rfl ?_
  refine A_iadd C dX4_choose_133 134 rfl ?_
  refine A_iload_n C dX4_choose_134 (i := 3) rfl 4 rfl 135 rfl ?_
  refine A_iload C dX4_choose_135 9 rfl 137 rfl ?_
  refine A_mmax C dX4_choose_137 mlRX4_75 stmmax iniMath commax (by omega) (Nat.le_of_ble_eq_true rfl) 140 rfl ?_
  refine A_lload C dX4_choose_140 5 rfl 142 rfl ?_
  refine A_iload C dX4_choose_142 8 rfl 144 rfl ?_
  refine A_i2l C dX4_choose_144 145 rfl ?_
  refine A_iload C dX4_choose_145 9 rfl 147 rfl ?_
  refine A_i2l C dX4_choose_147 148 rfl ?_
  refine A_lmul C dX4_choose_148 149 rfl ?_
  refine A_ladd C dX4_choose_149 150 rfl ?_
  refine A_lload C dX4_choose_150 0 rfl 152 rfl ?_
  refine CVv C dX4_choose_152 4 kx0 (by decide) (r := (RX4, TX4, 8)) rfl rfl hf (fun _ e => Hrec x0 x1 (x2 + 1) (jmmax x3 x10) (x4 + (x9.toInt64 * x10.toInt64)) y1 kx0 kx1 _ _ e) lkRX4_33 (Nat.le_refl _) (by decide) rfl [] rfl (Nat.le_of_ble_eq_true rfl) 155 rfl (fun h152 hf => ?_)
  refine A_iinc (v := (x10 + 1)) C dX4_choose_155 9 rfl rfl [(10, .int (x10 + 1)), (11, .long y1), (0, .ref (K.2.1 x0)), (1, .ref (K.2.1 x1)), (2, .int x2), (3, .int x3), (4, .long x4), (6, .long x6), (8, .int x8), (9, .int x9)] (lt_nl hnl (by decide)) rfl 158 rfl ?_
  refine A_goto C dX4_choose_158 96 (by decide) ?_
  refine A_sub [2, 3, 4, 5, 6, 7, 8, 9, 0] (lv' := [(0, .ref (K.2.1 x0)), (1, .ref (K.2.1 x1)), (2, .int x2), (3, .int x3), (4, .long x4), (6, .long x6), (8, .int x8), (9, .int x9), (10, .int (x10 + 1))]) rfl ?_
  exact Hself96 _ _ hf
set_option maxRecDepth 20000 in
theorem wX4_choose_b28 {K : KX} {G : GX} {rk : Nat} (C : Ok K G (rk + 1) cX4_choose RX4) (hnl : G.2.2.2.2.2.2.2.2.2.2.2.2.2 = 13) {rv : HH} (E : Endd K G none none rv) (hrk0 : 5 ≤ rk) {x0 : Nat} {x1 : Nat} {x2 : Int32} {x3 : Int32} {x4 : Int64} {x6 : Int64} {rec : Nat → Nat → Int32 → Int32 → Int64 → Int64 → HH → Option (HH)} (Hrec : ∀ (x0 : Nat) (x1 : Nat) (x2 : Int32) (x3 : Int32) (x4 : Int64) (x6 : Int64) (k0 : isK 4 x0) (k1 : isK 0 x1) (h : HH) (rv : HH), rec x0 x1 x2 x3 x4 x6 h = some rv → MR K yX4_choose cX4_choose 13 none rk [.ref (K.2.1 x0), .ref (K.2.1 x1), .int x2, .int x3, .long x4, .long x6] h none rv) (kx0 : isK 4 x0) (kx1 : isK 0 x1) {h : HH} (hf : fX4_choose_b28 rec x0 x1 x2 x3 x4 x6 h = some rv) : At K G 28 [(0, .ref (K.2.1 x0)), (1, .ref (K.2.1 x1)), (2, .int x2), (3, .int x3), (4, .long x4), (6, .long x6)] [] h := by
  unfold fX4_choose_b28 at hf
  refine A_iload_n C dX4_choose_28 (i := 2) rfl 2 rfl 29 rfl ?_
  refine A_aload_n C dX4_choose_29 (i := 1) rfl 1 rfl 30 rfl ?_
  refine gfRX4_46 C kx1 dX4_choose_30 33 rfl ?_
  refine gfRX4_50 C (of_0_6 kx1) dX4_choose_33 36 rfl ?_
  refine A_icmp_ge C dX4_choose_36 45 (by decide) 39 rfl hf (fun c36 hf => ?_) (fun c36 hf => ?_)
  · refine A_aload_n C dX4_choose_45 (i := 0) rfl 0 rfl 46 rfl ?_
    refine A_aload_n C dX4_choose_46 (i := 1) rfl 1 rfl 47 rfl ?_
    refine A_iload_n C dX4_choose_47 (i := 3) rfl 3 rfl 48 rfl ?_
    refine A_lload C dX4_choose_48 4 rfl 50 rfl ?_
    refine A_lload C dX4_choose_50 5 rfl 52 rfl ?_
    refine A_aload_n C dX4_choose_52 (i := 1) rfl 1 rfl 53 rfl ?_
    refine A_iconst (v := 0) C dX4_choose_53 (by decide) 54 rfl ?_
    refine A_iload_n C dX4_choose_54 (i := 3) rfl 3 rfl 55 rfl ?_
    refine CVl C dX4_choose_55 0 kx1 (by decide) (r := (RX0, TX0, 14)) rfl rfl hf (fun _ _ e => mX0_falling kx1 e) lkRX4_56 (by omega) (by decide) rfl [.long x6, .long x4, .int x3, .ref (K.2.1 x1), .ref (K.2.1 x0)] rfl (Nat.le_of_ble_eq_true rfl) 58 rfl (fun r55 h55 hf => ?_)
    refine A_ladd C dX4_choose_58 59 rfl ?_
    refine CVv C dX4_choose_59 4 kx0 (by decide) (r := (RX4, TX4, 8)) rfl rfl hf (fun _ e => mX4_weigh kx0 kx1 e) lkRX4_60 (by omega) (by decide) rfl [] rfl (Nat.le_of_ble_eq_true rfl) 62 rfl (fun h59 hf => ?_)
    exact A_vret C dX4_choose_62 E hf
  refine A_iload_n C dX4_choose_39 (i := 2) rfl 2 rfl 40 rfl ?_
  refine A_bipush (v := 6) C dX4_choose_40 (by decide) 42 rfl ?_
  refine A_icmp_lt C dX4_choose_42 63 (by decide) 45 rfl hf (fun c42 hf => ?_) (fun c42 hf => ?_)
  · refine A_aload_n C dX4_choose_63 (i := 1) rfl 1 rfl 64 rfl ?_
    refine gfRX4_46 C kx1 dX4_choose_64 67 rfl ?_
    refine A_iload_n C dX4_choose_67 (i := 2) rfl 2 rfl 68 rfl ?_
    refine A_iconst (v := 1) C dX4_choose_68 (by decide) 69 rfl ?_
    refine CVi C dX4_choose_69 7 (of_0_6 kx1) (by decide) (r := (RX7, TX7, 4)) rfl rfl hf (fun _ _ e => mX7_at (of_0_6 kx1) e) lkRX4_64 (by omega) (by decide) rfl [] rfl (Nat.le_of_ble_eq_true rfl) 72 rfl (fun r69 h69 hf => ?_)
    refine A_istore C dX4_choose_72 [(8, .int r69), (0, .ref (K.2.1 x0)), (1, .ref (K.2.1 x1)), (2, .int x2), (3, .int x3), (4, .long x4), (6, .long x6)] (lt_nl hnl (by decide)) rfl 74 rfl ?_
    refine A_aload_n C dX4_choose_74 (i := 1) rfl 2 rfl 75 rfl ?_
    refine gfRX4_46 C kx1 dX4_choose_75 78 rfl ?_
    refine A_iload_n C dX4_choose_78 (i := 2) rfl 3 rfl 79 rfl ?_
    refine A_iconst (v := 2) C dX4_choose_79 (by decide) 80 rfl ?_
    refine CVi C dX4_choose_80 7 (of_0_6 kx1) (by decide) (r := (RX7, TX7, 4)) rfl rfl hf (fun _ _ e => mX7_at (of_0_6 kx1) e) lkRX4_64 (by omega) (by decide) rfl [] rfl (Nat.le_of_ble_eq_true rfl) 83 rfl (fun r80 h80 hf => ?_)
    refine A_istore C dX4_choose_83 [(9, .int r80), (8, .int r69), (0, .ref (K.2.1 x0)), (1, .ref (K.2.1 x1)), (2, .int x2), (3, .int x3), (4, .long x4), (6, .long x6)] (lt_nl hnl (by decide)) rfl 85 rfl ?_
    refine A_aload_n C dX4_choose_85 (i := 1) rfl 3 rfl 86 rfl ?_
    refine gfRX4_46 C kx1 dX4_choose_86 89 rfl ?_
    refine A_iload_n C dX4_choose_89 (i := 2) rfl 4 rfl 90 rfl ?_
    refine A_iconst (v := 0) C dX4_choose_90 (by decide) 91 rfl ?_
    refine CVi C dX4_choose_91 7 (of_0_6 kx1) (by decide) (r := (RX7, TX7, 4)) rfl rfl hf (fun _ _ e => mX7_at (of_0_6 kx1) e) lkRX4_64 (by omega) (by decide) rfl [] rfl (Nat.le_of_ble_eq_true rfl) 94 rfl (fun r91 h91 hf => ?_)
    refine A_istore C dX4_choose_94 [(10, .int r91), (9, .int r80), (8, .int r69), (0, .ref (K.2.1 x0)), (1, .ref (K.2.1 x1)), (2, .int x2), (3, .int x3), (4, .long x4), (6, .long x6)] (lt_nl hnl (by decide)) rfl 96 rfl ?_
    refine A_sub [3, 4, 5, 6, 7, 8, 2, 1, 0] (lv' := [(0, .ref (K.2.1 x0)), (1, .ref (K.2.1 x1)), (2, .int x2), (3, .int x3), (4, .long x4), (6, .long x6), (8, .int r69), (9, .int r80), (10, .int r91)]) rfl ?_
    refine lq1_at (wX4_choose_L96 C hnl E hrk0 Hrec kx0 kx1) FU _ _ hf
  refine A_aload_n C dX4_choose_45 (i := 0) rfl 0 rfl 46 rfl ?_
  refine A_aload_n C dX4_choose_46 (i := 1) rfl 1 rfl 47 rfl ?_
  refine A_iload_n C dX4_choose_47 (i := 3) rfl 3 rfl 48 rfl ?_
  refine A_lload C dX4_choose_48 4 rfl 50 rfl ?_
  refine A_lload C dX4_choose_50 5 rfl 52 rfl ?_
  refine A_aload_n C dX4_choose_52 (i := 1) rfl 1 rfl 53 rfl ?_
  refine A_iconst (v := 0) C dX4_choose_53 (by decide) 54 rfl ?_
  refine A_iload_n C dX4_choose_54 (i := 3) rfl 3 rfl 55 rfl ?_
  refine CVl C dX4_choose_55 0 kx1 (by decide) (r := (RX0, TX0, 14)) rfl rfl hf (fun _ _ e => mX0_falling kx1 e) lkRX4_56 (by omega) (by decide) rfl [.long x6, .long x4, .int x3, .ref (K.2.1 x1), .ref (K.2.1 x0)] rfl (Nat.le_of_ble_eq_true rfl) 58 rfl (fun r55 h55 hf => ?_)
  refine A_ladd C dX4_choose_58 59 rfl ?_
  refine CVv C dX4_choose_59 4 kx0 (by decide) (r := (RX4, TX4, 8)) rfl rfl hf (fun _ e => mX4_weigh kx0 kx1 e) lkRX4_60 (by omega) (by decide) rfl [] rfl (Nat.le_of_ble_eq_true rfl) 62 rfl (fun h59 hf => ?_)
  exact A_vret C dX4_choose_62 E hf
set_option maxRecDepth 20000 in
theorem mX4_choose_0 {K : KX} {rk : Nat} (hrk0 : 5 ≤ rk) {rec : Nat → Nat → Int32 → Int32 → Int64 → Int64 → HH → Option (HH)} (Hrec : ∀ (x0 : Nat) (x1 : Nat) (x2 : Int32) (x3 : Int32) (x4 : Int64) (x6 : Int64) (k0 : isK 4 x0) (k1 : isK 0 x1) (h : HH) (rv : HH), rec x0 x1 x2 x3 x4 x6 h = some rv → MR K yX4_choose cX4_choose 13 none rk [.ref (K.2.1 x0), .ref (K.2.1 x1), .int x2, .int x3, .long x4, .long x6] h none rv) {x0 : Nat} {x1 : Nat} {x2 : Int32} {x3 : Int32} {x4 : Int64} {x6 : Int64} (k0 : isK 4 x0) (k1 : isK 0 x1) {h : HH} {rv : HH} (hf : fX4_choose_0 rec x0 x1 x2 x3 x4 x6 h = some rv) : MR K yX4_choose cX4_choose 13 none (rk + 1) [.ref (K.2.1 x0), .ref (K.2.1 x1), .int x2, .int x3, .long x4, .long x6] h none rv := by
  refine MR_of (by decide) (Nat.le_of_ble_eq_true rfl) (fun G C E hnl => ?_)
  have C : Ok K G (rk + 1) cX4_choose RX4 := C
  refine (show At K G 0 [(0, .ref (K.2.1 x0)), (1, .ref (K.2.1 x1)), (2, .int x2), (3, .int x3), (4, .long x4), (6, .long x6)] [] h from ?_)
  unfold fX4_choose_0 at hf
  refine A_lload C dX4_choose_0 5 rfl 2 rfl ?_
  refine A_aload_n C dX4_choose_2 (i := 1) rfl 1 rfl 3 rfl ?_
  refine CVl C dX4_choose_3 0 k1 (by decide) (r := (RX0, TX0, 14)) rfl rfl hf (fun _ _ e => mX0_morningTick k1 e) lkRX4_37 (by omega) (by decide) rfl [.long x6] rfl (Nat.le_of_ble_eq_true rfl) 6 rfl (fun r3 h3 hf => ?_)
  refine A_l_gt C dX4_choose_6 dX4_choose_7 27 (by decide) 10 rfl hf (fun c6 hf => ?_) (fun c6 hf => ?_)
  · exact A_vret C dX4_choose_27 E hf
  refine A_aload_n C dX4_choose_10 (i := 0) rfl 0 rfl 11 rfl ?_
  refine gfRX4_22 C k0 dX4_choose_11 14 rfl ?_
  refine A_if_eq C dX4_choose_14 28 (by decide) 17 rfl hf (fun c14 hf => ?_) (fun c14 hf => ?_)
  · exact wX4_choose_b28 C hnl E hrk0 Hrec k0 k1 hf
  refine A_lload C dX4_choose_17 4 rfl 19 rfl ?_
  refine A_aload_n C dX4_choose_19 (i := 0) rfl 0 rfl 20 rfl ?_
  refine gfRX4_43 C k0 dX4_choose_20 23 rfl ?_
  refine A_l_le C dX4_choose_23 dX4_choose_24 28 (by decide) 27 rfl hf (fun c23 hf => ?_) (fun c23 hf => ?_)
  · exact wX4_choose_b28 C hnl E hrk0 Hrec k0 k1 hf
  exact A_vret C dX4_choose_27 E hf
theorem mX4_choose {K : KX} (dp : Nat) {x0 : Nat} {x1 : Nat} {x2 : Int32} {x3 : Int32} {x4 : Int64} {x6 : Int64} (k0 : isK 4 x0) (k1 : isK 0 x1) {h : HH} {rv : HH} (hf : fX4_choose dp x0 x1 x2 x3 x4 x6 h = some rv) : MR K yX4_choose cX4_choose 13 none (5 + dp) [.ref (K.2.1 x0), .ref (K.2.1 x1), .int x2, .int x3, .long x4, .long x6] h none rv := by
  have hq := lq6_rec (f := fX4_choose_0) (P := fun n x0 x1 x2 x3 x4 x6 h q => isK 4 x0 → isK 0 x1 → MR K yX4_choose cX4_choose 13 none (5 + n) [.ref (K.2.1 x0), .ref (K.2.1 x1), .int x2, .int x3, .long x4, .long x6] h none q) (fun n self ih x0 x1 x2 x3 x4 x6 h q hf k0 k1 => mX4_choose_0 (rk := 5 + n) (Nat.le_add_right _ _) (rec := self) (fun x0 x1 x2 x3 x4 x6 k0 k1 h rv e => ih x0 x1 x2 x3 x4 x6 h rv e k0 k1) k0 k1 hf) dp x0 x1 x2 x3 x4 x6 h _ hf
  exact hq k0 k1
set_option maxRecDepth 20000 in
theorem mX4_make {K : KX} {x0 : Nat} {x1 : Nat} (k0 : isK 4 x0) (k1 : isK 0 x1) {h : HH} {rv : HH} (hf : fX4_make x0 x1 h = some rv) : MR K yX4_make cX4_make 2 none 14 [.ref (K.2.1 x0), .ref (K.2.1 x1)] h none rv := by
  refine MR_of (by decide) (Nat.le_of_ble_eq_true rfl) (fun G C E hnl => ?_)
  have C : Ok K G 14 cX4_make RX4 := C
  refine (show At K G 0 [(0, .ref (K.2.1 x0)), (1, .ref (K.2.1 x1))] [] h from ?_)
  unfold fX4_make at hf
  refine A_aload_n C dX4_make_0 (i := 0) rfl 0 rfl 1 rfl ?_
  refine gfRX4_18 C k0 dX4_make_1 4 rfl ?_
  refine A_if_ne C dX4_make_4 34 (by decide) 7 rfl hf (fun c4 hf => ?_) (fun c4 hf => ?_)
  · exact A_vret C dX4_make_34 E hf
  refine A_aload_n C dX4_make_7 (i := 0) rfl 0 rfl 8 rfl ?_
  refine A_iconst (v := 1) C dX4_make_8 (by decide) 9 rfl ?_
  refine pfRX4_18 C k0 dX4_make_9 (Or.inr rfl) 12 rfl ?_
  refine A_aload_n C dX4_make_12 (i := 0) rfl 0 rfl 13 rfl ?_
  refine A_iconst (v := 0) C dX4_make_13 (by decide) 14 rfl ?_
  refine pfRX4_22 C k0 dX4_make_14 (Or.inl rfl) 17 rfl ?_
  refine A_namH hf (fun g1 hf => ?_)
  refine A_aload_n C dX4_make_17 (i := 0) rfl 0 rfl 18 rfl ?_
  refine A_aload_n C dX4_make_18 (i := 1) rfl 1 rfl 19 rfl ?_
  refine CSl C dX4_make_19 hf (fun _ _ e => mX4_allMinutes k1 e) lkRX4_25 (by decide) (by decide) rfl [.ref (K.2.1 x0)] rfl (Nat.le_of_ble_eq_true rfl) 22 rfl (fun r19 h19 hf => ?_)
  refine pfRX4_29 C k0 dX4_make_22 25 rfl ?_
  refine A_aload_n C dX4_make_25 (i := 0) rfl 0 rfl 26 rfl ?_
  refine A_aload_n C dX4_make_26 (i := 1) rfl 1 rfl 27 rfl ?_
  refine A_iconst (v := 0) C dX4_make_27 (by decide) 28 rfl ?_
  refine A_iconst (v := 0) C dX4_make_28 (by decide) 29 rfl ?_
  refine A_lconst (v := 0) C dX4_make_29 (by decide) 30 rfl ?_
  refine A_lconst (v := 0) C dX4_make_30 (by decide) 31 rfl ?_
  refine CVv C dX4_make_31 4 k0 (by decide) (r := (RX4, TX4, 8)) rfl rfl hf (fun _ e => mX4_choose 8 k0 k1 e) lkRX4_33 (by decide) (by decide) rfl [] rfl (Nat.le_of_ble_eq_true rfl) 34 rfl (fun h31 hf => ?_)
  exact A_vret C dX4_make_34 E hf
set_option maxRecDepth 20000 in
theorem wX4_leastTicks_L4 {K : KX} {G : GX} (C : Ok K G 4 cX4_leastTicks RX4) (hnl : G.2.2.2.2.2.2.2.2.2.2.2.2.2 = 5) {rv : Int64} {hv : HH} (E : Endd K G (some .long) (some (.long rv)) hv) {x0 : Nat} {k4_35 : Int32 → HH → Option (Int64 × HH)}  (Hk4_35 : ∀ (x1 : Int32) (h : HH), k4_35 x1 h = some (rv, hv) → At K G 35 [(0, .ref (K.2.1 x0)), (1, .int x1)] [] h) (kx0 : isK 0 x0) : ∀ (self4 : Int32 → Int32 → HH → Option (Int64 × HH)), (∀ (x1 : Int32) (x2 : Int32) (h : HH), self4 x1 x2 h = some (rv, hv) → At K G 4 [(0, .ref (K.2.1 x0)), (1, .int x1), (2, .int x2)] [] h) → ∀ (x1 : Int32) (x2 : Int32) (h : HH), fX4_leastTicks_L4 k4_35 x0 self4 x1 x2 h = some (rv, hv) → At K G 4 [(0, .ref (K.2.1 x0)), (1, .int x1), (2, .int x2)] [] h := by
  intro self4 Hself4 x1 x2 h hf
  unfold fX4_leastTicks_L4 at hf
  refine A_iload_n C dX4_leastTicks_4 (i := 2) rfl 2 rfl 5 rfl ?_
  refine A_aload_n C dX4_leastTicks_5 (i := 0) rfl 0 rfl 6 rfl ?_
  refine gfRX4_46 C kx0 dX4_leastTicks_6 9 rfl ?_
  refine gfRX4_50 C (of_0_6 kx0) dX4_leastTicks_9 12 rfl ?_
  refine A_icmp_ge C dX4_leastTicks_12 35 (by decide) 15 rfl hf (fun c12 hf => ?_) (fun c12 hf => ?_)
  · refine A_sub [0, 1] (lv' := [(0, .ref (K.2.1 x0)), (1, .int x1)]) rfl ?_
    exact Hk4_35 _ _ hf
  refine A_iload_n C dX4_leastTicks_15 (i := 1) rfl 1 rfl 16 rfl ?_
  refine A_aload_n C dX4_leastTicks_16 (i := 0) rfl 0 rfl 17 rfl ?_
  refine gfRX4_46 C kx0 dX4_leastTicks_17 20 rfl ?_
  refine A_iload_n C dX4_leastTicks_20 (i := 2) rfl 2 rfl 21 rfl ?_
  refine A_iconst (v := 0) C dX4_leastTicks_21 (by decide) 22 rfl ?_
  refine CVi C dX4_leastTicks_22 7 (of_0_6 kx0) (by decide) (r := (RX7, TX7, 4)) rfl rfl hf (fun _ _ e => mX7_at (of_0_6 kx0) e) lkRX4_64 (by decide) (by decide) rfl [.int x1] rfl (Nat.le_of_ble_eq_true rfl) 25 rfl (fun r22 h22 hf => ?_)
  refine A_mmax C dX4_leastTicks_25 mlRX4_75 stmmax iniMath commax (by decide) (Nat.le_of_ble_eq_true rfl) 28 rfl ?_
  refine A_namI hf (fun y1 hf => ?_)
  refine A_istore_n C dX4_leastTicks_28 (i := 1) rfl [(1, .int y1), (0, .ref (K.2.1 x0)), (2, .int x2)] (lt_nl hnl (by decide)) rfl 29 rfl ?_
  refine A_iinc (v := (x2 + 1)) C dX4_leastTicks_29 2 rfl rfl [(2, .int (x2 + 1)), (1, .int y1), (0, .ref (K.2.1 x0))] (lt_nl hnl (by decide)) rfl 32 rfl ?_
  refine A_goto C dX4_leastTicks_32 4 (by decide) ?_
  refine A_sub [2, 1, 0] (lv' := [(0, .ref (K.2.1 x0)), (1, .int y1), (2, .int (x2 + 1))]) rfl ?_
  exact Hself4 _ _ _ hf
set_option maxRecDepth 20000 in
theorem wX4_leastTicks_L42 {K : KX} {G : GX} (C : Ok K G 4 cX4_leastTicks RX4) (hnl : G.2.2.2.2.2.2.2.2.2.2.2.2.2 = 5) {rv : Int64} {hv : HH} (E : Endd K G (some .long) (some (.long rv)) hv) {x0 : Nat}   (kx0 : isK 0 x0) : ∀ (self42 : Int64 → Int32 → HH → Option (Int64 × HH)), (∀ (x2 : Int64) (x4 : Int32) (h : HH), self42 x2 x4 h = some (rv, hv) → At K G 42 [(0, .ref (K.2.1 x0)), (2, .long x2), (4, .int x4)] [] h) → ∀ (x2 : Int64) (x4 : Int32) (h : HH), fX4_leastTicks_L42 x0 self42 x2 x4 h = some (rv, hv) → At K G 42 [(0, .ref (K.2.1 x0)), (2, .long x2), (4, .int x4)] [] h := by
  intro self42 Hself42 x2 x4 h hf
  unfold fX4_leastTicks_L42 at hf
  refine A_iload C dX4_leastTicks_42 2 rfl 44 rfl ?_
  refine A_aload_n C dX4_leastTicks_44 (i := 0) rfl 0 rfl 45 rfl ?_
  refine gfRX4_68 C kx0 dX4_leastTicks_45 48 rfl ?_
  refine A_icmp_gt C dX4_leastTicks_48 82 (by decide) 51 rfl hf (fun c48 hf => ?_) (fun c48 hf => ?_)
  · refine A_lload_n C dX4_leastTicks_82 (i := 2) rfl 1 rfl 83 rfl ?_
    exact A_lret C dX4_leastTicks_83 E hf
  refine A_lload_n C dX4_leastTicks_51 (i := 2) rfl 1 rfl 52 rfl ?_
  refine A_aload_n C dX4_leastTicks_52 (i := 0) rfl 0 rfl 53 rfl ?_
  refine A_iconst (v := 0) C dX4_leastTicks_53 (by decide) 54 rfl ?_
  refine A_iload C dX4_leastTicks_54 2 rfl 56 rfl ?_
  refine CVl C dX4_leastTicks_56 0 kx0 (by decide) (r := (RX0, TX0, 14)) rfl rfl hf (fun _ _ e => mX0_falling kx0 e) lkRX4_56 (by decide) (by decide) rfl [.long x2] rfl (Nat.le_of_ble_eq_true rfl) 59 rfl (fun r56 h56 hf => ?_)
  refine A_aload_n C dX4_leastTicks_59 (i := 0) rfl 0 rfl 60 rfl ?_
  refine CSl C dX4_leastTicks_60 hf (fun _ _ e => mX4_allMinutes kx0 e) lkRX4_25 (by decide) (by decide) rfl [.long r56, .long x2] rfl (Nat.le_of_ble_eq_true rfl) 63 rfl (fun r60 h60 hf => ?_)
  refine A_aload_n C dX4_leastTicks_63 (i := 0) rfl 0 rfl 64 rfl ?_
  refine A_iload C dX4_leastTicks_64 2 rfl 66 rfl ?_
  refine CVi C dX4_leastTicks_66 0 kx0 (by decide) (r := (RX0, TX0, 14)) rfl rfl hf (fun _ _ e => mX0_minuteOf kx0 e) lkRX4_71 (by decide) (by decide) rfl [.long r60, .long r56, .long x2] rfl (Nat.le_of_ble_eq_true rfl) 69 rfl (fun r66 h66 hf => ?_)
  refine A_i2l C dX4_leastTicks_69 70 rfl ?_
  refine A_lmul C dX4_leastTicks_70 71 rfl ?_
  refine A_ladd C dX4_leastTicks_71 72 rfl ?_
  refine A_mminl C dX4_leastTicks_72 mlRX4_91 stmminl iniMath comminl (by decide) (Nat.le_of_ble_eq_true rfl) 75 rfl ?_
  refine A_namL hf (fun y2 hf => ?_)
  refine A_lstore_n C dX4_leastTicks_75 (i := 2) rfl [(2, .long y2), (0, .ref (K.2.1 x0)), (4, .int x4)] (lt_nl hnl (by decide)) rfl 76 rfl ?_
  refine A_iinc (v := (x4 + 1)) C dX4_leastTicks_76 2 rfl rfl [(4, .int (x4 + 1)), (2, .long y2), (0, .ref (K.2.1 x0))] (lt_nl hnl (by decide)) rfl 79 rfl ?_
  refine A_goto C dX4_leastTicks_79 42 (by decide) ?_
  refine A_sub [2, 1, 0] (lv' := [(0, .ref (K.2.1 x0)), (2, .long y2), (4, .int (x4 + 1))]) rfl ?_
  exact Hself42 _ _ _ hf
set_option maxRecDepth 20000 in
theorem mX4_leastTicks {K : KX} {x0 : Nat} (k0 : isK 0 x0) {h : HH} {rv : Int64} {hv : HH} (hf : fX4_leastTicks x0 h = some (rv, hv)) : MR K yX4_leastTicks cX4_leastTicks 5 (some .long) 4 [.ref (K.2.1 x0)] h (some (.long rv)) hv := by
  refine MR_of (by decide) (Nat.le_of_ble_eq_true rfl) (fun G C E hnl => ?_)
  have C : Ok K G 4 cX4_leastTicks RX4 := C
  refine (show At K G 0 [(0, .ref (K.2.1 x0))] [] h from ?_)
  unfold fX4_leastTicks at hf
  refine A_iconst (v := 0) C dX4_leastTicks_0 (by decide) 1 rfl ?_
  refine A_istore_n C dX4_leastTicks_1 (i := 1) rfl [(1, .int 0), (0, .ref (K.2.1 x0))] (lt_nl hnl (by decide)) rfl 2 rfl ?_
  refine A_iconst (v := 0) C dX4_leastTicks_2 (by decide) 3 rfl ?_
  refine A_istore_n C dX4_leastTicks_3 (i := 2) rfl [(2, .int 0), (1, .int 0), (0, .ref (K.2.1 x0))] (lt_nl hnl (by decide)) rfl 4 rfl ?_
  refine A_sub [2, 1, 0] (lv' := [(0, .ref (K.2.1 x0)), (1, .int 0), (2, .int 0)]) rfl ?_
  refine lq2_at (wX4_leastTicks_L4 C hnl E (fun x1 h hf => ?_) k0) FU _ _ _ hf
  refine A_ldc2 C dX4_leastTicks_35 cRX4_89 38 rfl ?_
  refine A_lstore_n C dX4_leastTicks_38 (i := 2) rfl [(2, .long 1152921504606846976), (0, .ref (K.2.1 x0)), (1, .int x1)] (lt_nl hnl (by decide)) rfl 39 rfl ?_
  refine A_iload_n C dX4_leastTicks_39 (i := 1) rfl 2 rfl 40 rfl ?_
  refine A_istore C dX4_leastTicks_40 [(4, .int x1), (2, .long 1152921504606846976), (0, .ref (K.2.1 x0)), (1, .int x1)] (lt_nl hnl (by decide)) rfl 42 rfl ?_
  refine A_sub [2, 1, 0] (lv' := [(0, .ref (K.2.1 x0)), (2, .long 1152921504606846976), (4, .int x1)]) rfl ?_
  refine lq2_at (wX4_leastTicks_L42 C hnl E k0) FU _ _ _ hf
