set_option maxRecDepth 20000 in
theorem wX1_need_b34 {K : KX} {G : GX} (C : Ok K G 2 cX1_need RX1) (hnl : G.2.2.2.2.2.2.2.2.2.2.2.2.2 = 7) {rv : HH} (E : Endd K G none none rv) {x0 : Nat} {x1 : Int32} {x4 : Int32} {s0 : Bool}   (kx0 : isK 1 x0) {h : HH} (hf : fX1_need_b34 x0 x1 x4 s0 h = some rv) : At K G 34 [(0, .ref (K.2.1 x0)), (1, .int x1), (4, .int x4)] [.int (b2i s0)] h := by
  unfold fX1_need_b34 at hf
  refine A_istore C dX1_need_34 [(5, .int (b2i s0)), (0, .ref (K.2.1 x0)), (1, .int x1), (4, .int x4)] (lt_nl hnl (by decide)) rfl 36 rfl ?_
  refine A_aload_n C dX1_need_36 (i := 0) rfl 1 rfl 37 rfl ?_
  refine gfRX1_15 C kx0 dX1_need_37 40 rfl ?_
  refine A_iload_n C dX1_need_40 (i := 1) rfl 2 rfl 41 rfl ?_
  refine A_iald C dX1_need_41 (of_1_3 kx0) hf 42 rfl (fun hf => ?_)
  refine A_if_eq C dX1_need_42 56 (by decide) 45 rfl hf (fun c42 hf => ?_) (fun c42 hf => ?_)
  · refine A_iconst (v := 1) C dX1_need_56 (by decide) 57 rfl ?_
    refine A_goto C dX1_need_57 61 (by decide) ?_
    refine A_istore C dX1_need_61 [(6, .int 1), (5, .int (b2i s0)), (0, .ref (K.2.1 x0)), (1, .int x1), (4, .int x4)] (lt_nl hnl (by decide)) rfl 63 rfl ?_
    refine A_aload_n C dX1_need_63 (i := 0) rfl 2 rfl 64 rfl ?_
    refine gfRX1_15 C kx0 dX1_need_64 67 rfl ?_
    refine A_iload_n C dX1_need_67 (i := 1) rfl 3 rfl 68 rfl ?_
    refine A_iload C dX1_need_68 1 rfl 70 rfl ?_
    refine A_z_eq C dX1_need_70 83 (by decide) 73 rfl hf (fun c70 hf => ?_) (fun c70 hf => ?_)
    · refine A_iconst (v := (-1)) C dX1_need_83 (by decide) 84 rfl ?_
      refine A_iast C dX1_need_84 (of_1_3 kx0) hf 85 rfl (fun hf => ?_)
      exact A_vret C dX1_need_85 E hf
    refine A_iload C dX1_need_73 0 rfl 75 rfl ?_
    refine N_if_eq C dX1_need_75 83 (by decide) (by decide) 78 rfl ?_
    refine A_iload C dX1_need_78 4 rfl 80 rfl ?_
    refine A_goto C dX1_need_80 84 (by decide) ?_
    refine A_iast C dX1_need_84 (of_1_3 kx0) hf 85 rfl (fun hf => ?_)
    exact A_vret C dX1_need_85 E hf
  refine A_aload_n C dX1_need_45 (i := 0) rfl 1 rfl 46 rfl ?_
  refine gfRX1_15 C kx0 dX1_need_46 49 rfl ?_
  refine A_iload_n C dX1_need_49 (i := 1) rfl 2 rfl 50 rfl ?_
  refine A_iald C dX1_need_50 (of_1_3 kx0) hf 51 rfl (fun hf => ?_)
  refine A_iload C dX1_need_51 3 rfl 53 rfl ?_
  refine A_icmp_ne C dX1_need_53 60 (by decide) 56 rfl hf (fun c53 hf => ?_) (fun c53 hf => ?_)
  · refine A_iconst (v := 0) C dX1_need_60 (by decide) 61 rfl ?_
    refine A_istore C dX1_need_61 [(6, .int 0), (5, .int (b2i s0)), (0, .ref (K.2.1 x0)), (1, .int x1), (4, .int x4)] (lt_nl hnl (by decide)) rfl 63 rfl ?_
    refine A_aload_n C dX1_need_63 (i := 0) rfl 2 rfl 64 rfl ?_
    refine gfRX1_15 C kx0 dX1_need_64 67 rfl ?_
    refine A_iload_n C dX1_need_67 (i := 1) rfl 3 rfl 68 rfl ?_
    refine A_iload C dX1_need_68 1 rfl 70 rfl ?_
    refine A_z_eq C dX1_need_70 83 (by decide) 73 rfl hf (fun c70 hf => ?_) (fun c70 hf => ?_)
    · refine A_iconst (v := (-1)) C dX1_need_83 (by decide) 84 rfl ?_
      refine A_iast C dX1_need_84 (of_1_3 kx0) hf 85 rfl (fun hf => ?_)
      exact A_vret C dX1_need_85 E hf
    refine A_iload C dX1_need_73 0 rfl 75 rfl ?_
    refine T_if_eq C dX1_need_75 83 (by decide) (by decide) ?_
    refine A_iconst (v := (-1)) C dX1_need_83 (by decide) 84 rfl ?_
    refine A_iast C dX1_need_84 (of_1_3 kx0) hf 85 rfl (fun hf => ?_)
    exact A_vret C dX1_need_85 E hf
  refine A_iconst (v := 1) C dX1_need_56 (by decide) 57 rfl ?_
  refine A_goto C dX1_need_57 61 (by decide) ?_
  refine A_istore C dX1_need_61 [(6, .int 1), (5, .int (b2i s0)), (0, .ref (K.2.1 x0)), (1, .int x1), (4, .int x4)] (lt_nl hnl (by decide)) rfl 63 rfl ?_
  refine A_aload_n C dX1_need_63 (i := 0) rfl 2 rfl 64 rfl ?_
  refine gfRX1_15 C kx0 dX1_need_64 67 rfl ?_
  refine A_iload_n C dX1_need_67 (i := 1) rfl 3 rfl 68 rfl ?_
  refine A_iload C dX1_need_68 1 rfl 70 rfl ?_
  refine A_z_eq C dX1_need_70 83 (by decide) 73 rfl hf (fun c70 hf => ?_) (fun c70 hf => ?_)
  · refine A_iconst (v := (-1)) C dX1_need_83 (by decide) 84 rfl ?_
    refine A_iast C dX1_need_84 (of_1_3 kx0) hf 85 rfl (fun hf => ?_)
    exact A_vret C dX1_need_85 E hf
  refine A_iload C dX1_need_73 0 rfl 75 rfl ?_
  refine N_if_eq C dX1_need_75 83 (by decide) (by decide) 78 rfl ?_
  refine A_iload C dX1_need_78 4 rfl 80 rfl ?_
  refine A_goto C dX1_need_80 84 (by decide) ?_
  refine A_iast C dX1_need_84 (of_1_3 kx0) hf 85 rfl (fun hf => ?_)
  exact A_vret C dX1_need_85 E hf
set_option maxRecDepth 20000 in
theorem mX1_need {K : KX} {x0 : Nat} {x1 : Int32} {x2 : Int32} {x3 : Int32} (k0 : isK 1 x0) {h : HH} {rv : HH} (hf : fX1_need x0 x1 x2 x3 h = some rv) : MR K yX1_need cX1_need 7 none 2 [.ref (K.2.1 x0), .int x1, .int x2, .int x3] h none rv := by
  refine MR_of (by decide) (Nat.le_of_ble_eq_true rfl) (fun G C E hnl => ?_)
  have C : Ok K G 2 cX1_need RX1 := C
  refine (show At K G 0 [(0, .ref (K.2.1 x0)), (1, .int x1), (2, .int x2), (3, .int x3)] [] h from ?_)
  unfold fX1_need at hf
  refine A_iload_n C dX1_need_0 (i := 1) rfl 1 rfl 1 rfl ?_
  refine A_iconst (v := 1) C dX1_need_1 (by decide) 2 rfl ?_
  refine A_icmp_lt C dX1_need_2 10 (by decide) 5 rfl hf (fun c2 hf => ?_) (fun c2 hf => ?_)
  · exact A_vret C dX1_need_10 E hf
  refine A_iload_n C dX1_need_5 (i := 1) rfl 1 rfl 6 rfl ?_
  refine A_iconst (v := 4) C dX1_need_6 (by decide) 7 rfl ?_
  refine A_icmp_le C dX1_need_7 11 (by decide) 10 rfl hf (fun c7 hf => ?_) (fun c7 hf => ?_)
  · refine A_iload_n C dX1_need_11 (i := 2) rfl 2 rfl 12 rfl ?_
    refine A_i2l C dX1_need_12 13 rfl ?_
    refine A_iload_n C dX1_need_13 (i := 3) rfl 3 rfl 14 rfl ?_
    refine A_i2l C dX1_need_14 15 rfl ?_
    refine CNl C dX1_need_15 (fun _ z => z.1.2.2) hf (fun _ _ e => mX8_quotient  e) lkRX1_49 (by decide) (by decide) rfl [] rfl (Nat.le_of_ble_eq_true rfl) 18 rfl (fun r15 h15 hf => ?_)
    refine A_l2i C dX1_need_18 19 rfl ?_
    refine A_namI hf (fun y1 hf => ?_)
    refine A_istore C dX1_need_19 [(4, .int y1), (0, .ref (K.2.1 x0)), (1, .int x1), (2, .int x2), (3, .int x3)] (lt_nl hnl (by decide)) rfl 21 rfl ?_
    refine A_iload C dX1_need_21 0 rfl 23 rfl ?_
    refine A_iload_n C dX1_need_23 (i := 3) rfl 4 rfl 24 rfl ?_
    refine A_imul C dX1_need_24 25 rfl ?_
    refine A_iload_n C dX1_need_25 (i := 2) rfl 3 rfl 26 rfl ?_
    refine A_icmp_ne C dX1_need_26 33 (by decide) 29 rfl hf (fun c26 hf => ?_) (fun c26 hf => ?_)
    · refine A_iconst (v := 0) C dX1_need_33 (by decide) 34 rfl ?_
      refine A_sub [1, 2, 0] (lv' := [(0, .ref (K.2.1 x0)), (1, .int x1), (4, .int y1)]) rfl ?_
      exact wX1_need_b34 C hnl E k0 hf
    refine A_iconst (v := 1) C dX1_need_29 (by decide) 30 rfl ?_
    refine A_goto C dX1_need_30 34 (by decide) ?_
    refine A_sub [1, 2, 0] (lv' := [(0, .ref (K.2.1 x0)), (1, .int x1), (4, .int y1)]) rfl ?_
    exact wX1_need_b34 C hnl E k0 hf
  exact A_vret C dX1_need_10 E hf
set_option maxRecDepth 20000 in
theorem wX1_countFrom_b59 {K : KX} {G : GX} {rk : Nat} (C : Ok K G (rk + 1) cX1_countFrom RX1) (hnl : G.2.2.2.2.2.2.2.2.2.2.2.2.2 = 9) {rv : Int32} {hv : HH} (E : Endd K G (some .int) (some (.int rv)) hv) (hrk0 : 1 ≤ rk) {x0 : Nat} {x1 : Nat} {x2 : Int32} {x3 : Int32} {x4 : Int32} {x5 : Int32} {x6 : Int32} {rec : Nat → Nat → Int32 → Int32 → HH → Option (Int32 × HH)} {self21 : Int32 → Int32 → HH → Option (Int32 × HH)} (Hrec : ∀ (x0 : Nat) (x1 : Nat) (x2 : Int32) (x3 : Int32) (k0 : isK 1 x0) (k1 : isK 0 x1) (h : HH) (rv : Int32) (hv : HH), rec x0 x1 x2 x3 h = some (rv, hv) → MR K yX1_countFrom cX1_countFrom 9 (some .int) rk [.ref (K.2.1 x0), .ref (K.2.1 x1), .int x2, .int x3] h (some (.int rv)) hv) (Hself21 : ∀ (x4 : Int32) (x5 : Int32) (h : HH), self21 x4 x5 h = some (rv, hv) → At K G 21 [(0, .ref (K.2.1 x0)), (1, .ref (K.2.1 x1)), (2, .int x2), (3, .int x3), (4, .int x4), (5, .int x5)] [] h) (kx0 : isK 1 x0) (kx1 : isK 0 x1) {h : HH} (hf : fX1_countFrom_b59 rec self21 x0 x1 x2 x3 x4 x5 x6 h = some (rv, hv)) : At K G 59 [(0, .ref (K.2.1 x0)), (1, .ref (K.2.1 x1)), (2, .int x2), (3, .int x3), (4, .int x4), (5, .int x5), (6, .int x6)] [.int 1] h := by
  unfold fX1_countFrom_b59 at hf
  refine A_istore C dX1_countFrom_59 [(7, .int 1), (0, .ref (K.2.1 x0)), (1, .ref (K.2.1 x1)), (2, .int x2), (3, .int x3), (4, .int x4), (5, .int x5), (6, .int x6)] (lt_nl hnl (by decide)) rfl 61 rfl ?_
  refine A_iload C dX1_countFrom_61 0 rfl 63 rfl ?_
  refine N_if_eq C dX1_countFrom_63 79 (by decide) (by decide) 66 rfl ?_
  refine A_aload_n C dX1_countFrom_66 (i := 0) rfl 1 rfl 67 rfl ?_
  refine A_aload_n C dX1_countFrom_67 (i := 1) rfl 2 rfl 68 rfl ?_
  refine A_iload_n C dX1_countFrom_68 (i := 2) rfl 3 rfl 69 rfl ?_
  refine A_iconst (v := 1) C dX1_countFrom_69 (by decide) 70 rfl ?_
  refine A_iadd C dX1_countFrom_70 71 rfl ?_
  refine A_iload C dX1_countFrom_71 7 rfl 73 rfl ?_
  refine CVi C dX1_countFrom_73 1 kx0 (by decide) (r := (RX1, TX1, 4)) rfl rfl hf (fun _ _ e => Hrec x0 x1 (x2 + 1) x6 kx0 kx1 _ _ _ e) lkRX1_42 (Nat.le_refl _) (by decide) rfl [] rfl (Nat.le_of_ble_eq_true rfl) 76 rfl (fun r73 h73 hf => ?_)
  refine A_goto C dX1_countFrom_76 80 (by decide) ?_
  refine A_istore C dX1_countFrom_80 [(8, .int r73), (7, .int 1), (0, .ref (K.2.1 x0)), (1, .ref (K.2.1 x1)), (2, .int x2), (3, .int x3), (4, .int x4), (5, .int x5), (6, .int x6)] (lt_nl hnl (by decide)) rfl 82 rfl ?_
  refine A_iload C dX1_countFrom_82 0 rfl 84 rfl ?_
  refine A_if_le C dX1_countFrom_84 107 (by decide) 87 rfl hf (fun c84 hf => ?_) (fun c84 hf => ?_)
  · refine A_iinc (v := (x5 + 1)) C dX1_countFrom_107 7 rfl rfl [(5, .int (x5 + 1)), (8, .int r73), (7, .int 1), (0, .ref (K.2.1 x0)), (1, .ref (K.2.1 x1)), (2, .int x2), (3, .int x3), (4, .int x4), (6, .int x6)] (lt_nl hnl (by decide)) rfl 110 rfl ?_
    refine A_goto C dX1_countFrom_110 21 (by decide) ?_
    refine A_sub [3, 4, 5, 6, 7, 0] (lv' := [(0, .ref (K.2.1 x0)), (1, .ref (K.2.1 x1)), (2, .int x2), (3, .int x3), (4, .int x4), (5, .int (x5 + 1))]) rfl ?_
    exact Hself21 _ _ _ hf
  refine A_aload_n C dX1_countFrom_87 (i := 0) rfl 2 rfl 88 rfl ?_
  refine gfRX1_9 C kx0 dX1_countFrom_88 91 rfl ?_
  refine A_iload_n C dX1_countFrom_91 (i := 2) rfl 4 rfl 92 rfl ?_
  refine A_dup2 C dX1_countFrom_92 rfl rfl 93 rfl ?_
  refine A_iald C dX1_countFrom_93 (of_1_2 kx0) hf 94 rfl (fun hf => ?_)
  refine A_iconst (v := 1) C dX1_countFrom_94 (by decide) 95 rfl ?_
  refine A_iload C dX1_countFrom_95 7 rfl 97 rfl ?_
  refine A_ishl C dX1_countFrom_97 98 rfl ?_
  refine A_ior C dX1_countFrom_98 99 rfl ?_
  refine A_iast C dX1_countFrom_99 (of_1_2 kx0) hf 100 rfl (fun hf => ?_)
  refine A_iload C dX1_countFrom_100 6 rfl 102 rfl ?_
  refine A_iload C dX1_countFrom_102 0 rfl 104 rfl ?_
  refine A_iadd C dX1_countFrom_104 105 rfl ?_
  refine A_namI hf (fun y2 hf => ?_)
  refine A_istore C dX1_countFrom_105 [(4, .int y2), (8, .int r73), (7, .int 1), (0, .ref (K.2.1 x0)), (1, .ref (K.2.1 x1)), (2, .int x2), (3, .int x3), (5, .int x5), (6, .int x6)] (lt_nl hnl (by decide)) rfl 107 rfl ?_
  refine A_iinc (v := (x5 + 1)) C dX1_countFrom_107 7 rfl rfl [(5, .int (x5 + 1)), (4, .int y2), (8, .int r73), (7, .int 1), (0, .ref (K.2.1 x0)), (1, .ref (K.2.1 x1)), (2, .int x2), (3, .int x3), (6, .int x6)] (lt_nl hnl (by decide)) rfl 110 rfl ?_
  refine A_goto C dX1_countFrom_110 21 (by decide) ?_
  refine A_sub [4, 5, 6, 7, 1, 0] (lv' := [(0, .ref (K.2.1 x0)), (1, .ref (K.2.1 x1)), (2, .int x2), (3, .int x3), (4, .int y2), (5, .int (x5 + 1))]) rfl ?_
  exact Hself21 _ _ _ hf
set_option maxRecDepth 20000 in
theorem wX1_countFrom_b54 {K : KX} {G : GX} {rk : Nat} (C : Ok K G (rk + 1) cX1_countFrom RX1) (hnl : G.2.2.2.2.2.2.2.2.2.2.2.2.2 = 9) {rv : Int32} {hv : HH} (E : Endd K G (some .int) (some (.int rv)) hv) (hrk0 : 1 ≤ rk) {x0 : Nat} {x1 : Nat} {x2 : Int32} {x3 : Int32} {x4 : Int32} {x5 : Int32} {x6 : Int32} {rec : Nat → Nat → Int32 → Int32 → HH → Option (Int32 × HH)} {self21 : Int32 → Int32 → HH → Option (Int32 × HH)} (Hrec : ∀ (x0 : Nat) (x1 : Nat) (x2 : Int32) (x3 : Int32) (k0 : isK 1 x0) (k1 : isK 0 x1) (h : HH) (rv : Int32) (hv : HH), rec x0 x1 x2 x3 h = some (rv, hv) → MR K yX1_countFrom cX1_countFrom 9 (some .int) rk [.ref (K.2.1 x0), .ref (K.2.1 x1), .int x2, .int x3] h (some (.int rv)) hv) (Hself21 : ∀ (x4 : Int32) (x5 : Int32) (h : HH), self21 x4 x5 h = some (rv, hv) → At K G 21 [(0, .ref (K.2.1 x0)), (1, .ref (K.2.1 x1)), (2, .int x2), (3, .int x3), (4, .int x4), (5, .int x5)] [] h) (kx0 : isK 1 x0) (kx1 : isK 0 x1) {h : HH} (hf : fX1_countFrom_b54 rec self21 x0 x1 x2 x3 x4 x5 x6 h = some (rv, hv)) : At K G 54 [(0, .ref (K.2.1 x0)), (1, .ref (K.2.1 x1)), (2, .int x2), (3, .int x3), (4, .int x4), (5, .int x5), (6, .int x6)] [] h := by
  unfold fX1_countFrom_b54 at hf
  refine A_iconst (v := 1) C dX1_countFrom_54 (by decide) 55 rfl ?_
  refine A_goto C dX1_countFrom_55 59 (by decide) ?_
  exact wX1_countFrom_b59 C hnl E hrk0 Hrec Hself21 kx0 kx1 hf
set_option maxRecDepth 20000 in
theorem wX1_countFrom_L21 {K : KX} {G : GX} {rk : Nat} (C : Ok K G (rk + 1) cX1_countFrom RX1) (hnl : G.2.2.2.2.2.2.2.2.2.2.2.2.2 = 9) {rv : Int32} {hv : HH} (E : Endd K G (some .int) (some (.int rv)) hv) (hrk0 : 1 ≤ rk) {x0 : Nat} {x1 : Nat} {x2 : Int32} {x3 : Int32} {rec : Nat → Nat → Int32 → Int32 → HH → Option (Int32 × HH)} (Hrec : ∀ (x0 : Nat) (x1 : Nat) (x2 : Int32) (x3 : Int32) (k0 : isK 1 x0) (k1 : isK 0 x1) (h : HH) (rv : Int32) (hv : HH), rec x0 x1 x2 x3 h = some (rv, hv) → MR K yX1_countFrom cX1_countFrom 9 (some .int) rk [.ref (K.2.1 x0), .ref (K.2.1 x1), .int x2, .int x3] h (some (.int rv)) hv)  (kx0 : isK 1 x0) (kx1 : isK 0 x1) : ∀ (self21 : Int32 → Int32 → HH → Option (Int32 × HH)), (∀ (x4 : Int32) (x5 : Int32) (h : HH), self21 x4 x5 h = some (rv, hv) → At K G 21 [(0, .ref (K.2.1 x0)), (1, .ref (K.2.1 x1)), (2, .int x2), (3, .int x3), (4, .int x4), (5, .int x5)] [] h) → ∀ (x4 : Int32) (x5 : Int32) (h : HH), fX1_countFrom_L21 rec x0 x1 x2 x3 self21 x4 x5 h = some (rv, hv) → At K G 21 [(0, .ref (K.2.1 x0)), (1, .ref (K.2.1 x1)), (2, .int x2), (3, .int x3), (4, .int x4), (5, .int x5)] [] h := by
  intro self21 Hself21 x4 x5 h hf
  unfold fX1_countFrom_L21 at hf
  refine A_iload C dX1_countFrom_21 5 rfl 23 rfl ?_
  refine A_bipush (v := 12) C dX1_countFrom_23 (by decide) 25 rfl ?_
  refine A_icmp_gt C dX1_countFrom_25 113 (by decide) 28 rfl hf (fun c25 hf => ?_) (fun c25 hf => ?_)
  · refine A_iload C dX1_countFrom_113 4 rfl 115 rfl ?_
    exact A_iret C dX1_countFrom_115 E hf
  refine A_iload_n C dX1_countFrom_28 (i := 3) rfl 3 rfl 29 rfl ?_
  refine A_iload C dX1_countFrom_29 5 rfl 31 rfl ?_
  refine A_imul C dX1_countFrom_31 32 rfl ?_
  refine A_namI hf (fun y1 hf => ?_)
  refine A_istore C dX1_countFrom_32 [(6, .int y1), (0, .ref (K.2.1 x0)), (1, .ref (K.2.1 x1)), (2, .int x2), (3, .int x3), (4, .int x4), (5, .int x5)] (lt_nl hnl (by decide)) rfl 34 rfl ?_
  refine A_aload_n C dX1_countFrom_34 (i := 0) rfl 1 rfl 35 rfl ?_
  refine gfRX1_15 C kx0 dX1_countFrom_35 38 rfl ?_
  refine A_iload_n C dX1_countFrom_38 (i := 2) rfl 3 rfl 39 rfl ?_
  refine A_iald C dX1_countFrom_39 (of_1_3 kx0) hf 40 rfl (fun hf => ?_)
  refine A_if_eq C dX1_countFrom_40 54 (by decide) 43 rfl hf (fun c40 hf => ?_) (fun c40 hf => ?_)
  · refine A_sub [1, 2, 3, 4, 5, 6, 0] (lv' := [(0, .ref (K.2.1 x0)), (1, .ref (K.2.1 x1)), (2, .int x2), (3, .int x3), (4, .int x4), (5, .int x5), (6, .int y1)]) rfl ?_
    exact wX1_countFrom_b54 C hnl E hrk0 Hrec Hself21 kx0 kx1 hf
  refine A_aload_n C dX1_countFrom_43 (i := 0) rfl 1 rfl 44 rfl ?_
  refine gfRX1_15 C kx0 dX1_countFrom_44 47 rfl ?_
  refine A_iload_n C dX1_countFrom_47 (i := 2) rfl 3 rfl 48 rfl ?_
  refine A_iald C dX1_countFrom_48 (of_1_3 kx0) hf 49 rfl (fun hf => ?_)
  refine A_iload C dX1_countFrom_49 0 rfl 51 rfl ?_
  refine A_icmp_ne C dX1_countFrom_51 58 (by decide) 54 rfl hf (fun c51 hf => ?_) (fun c51 hf => ?_)
  · refine A_iconst (v := 0) C dX1_countFrom_58 (by decide) 59 rfl ?_
    refine A_istore C dX1_countFrom_59 [(7, .int 0), (6, .int y1), (0, .ref (K.2.1 x0)), (1, .ref (K.2.1 x1)), (2, .int x2), (3, .int x3), (4, .int x4), (5, .int x5)] (lt_nl hnl (by decide)) rfl 61 rfl ?_
    refine A_iload C dX1_countFrom_61 0 rfl 63 rfl ?_
    refine T_if_eq C dX1_countFrom_63 79 (by decide) (by decide) ?_
    refine A_iconst (v := 0) C dX1_countFrom_79 (by decide) 80 rfl ?_
    refine A_istore C dX1_countFrom_80 [(8, .int 0), (7, .int 0), (6, .int y1), (0, .ref (K.2.1 x0)), (1, .ref (K.2.1 x1)), (2, .int x2), (3, .int x3), (4, .int x4), (5, .int x5)] (lt_nl hnl (by decide)) rfl 82 rfl ?_
    refine A_iload C dX1_countFrom_82 0 rfl 84 rfl ?_
    refine T_if_le C dX1_countFrom_84 107 (by decide) (by decide) ?_
    refine A_iinc (v := (x5 + 1)) C dX1_countFrom_107 8 rfl rfl [(5, .int (x5 + 1)), (8, .int 0), (7, .int 0), (6, .int y1), (0, .ref (K.2.1 x0)), (1, .ref (K.2.1 x1)), (2, .int x2), (3, .int x3), (4, .int x4)] (lt_nl hnl (by decide)) rfl 110 rfl ?_
    refine A_goto C dX1_countFrom_110 21 (by decide) ?_
    refine A_sub [4, 5, 6, 7, 8, 0] (lv' := [(0, .ref (K.2.1 x0)), (1, .ref (K.2.1 x1)), (2, .int x2), (3, .int x3), (4, .int x4), (5, .int (x5 + 1))]) rfl ?_
    exact Hself21 _ _ _ hf
  refine A_sub [1, 2, 3, 4, 5, 6, 0] (lv' := [(0, .ref (K.2.1 x0)), (1, .ref (K.2.1 x1)), (2, .int x2), (3, .int x3), (4, .int x4), (5, .int x5), (6, .int y1)]) rfl ?_
  exact wX1_countFrom_b54 C hnl E hrk0 Hrec Hself21 kx0 kx1 hf
set_option maxRecDepth 20000 in
theorem mX1_countFrom_0 {K : KX} {rk : Nat} (hrk0 : 1 ≤ rk) {rec : Nat → Nat → Int32 → Int32 → HH → Option (Int32 × HH)} (Hrec : ∀ (x0 : Nat) (x1 : Nat) (x2 : Int32) (x3 : Int32) (k0 : isK 1 x0) (k1 : isK 0 x1) (h : HH) (rv : Int32) (hv : HH), rec x0 x1 x2 x3 h = some (rv, hv) → MR K yX1_countFrom cX1_countFrom 9 (some .int) rk [.ref (K.2.1 x0), .ref (K.2.1 x1), .int x2, .int x3] h (some (.int rv)) hv) {x0 : Nat} {x1 : Nat} {x2 : Int32} {x3 : Int32} (k0 : isK 1 x0) (k1 : isK 0 x1) {h : HH} {rv : Int32} {hv : HH} (hf : fX1_countFrom_0 rec x0 x1 x2 x3 h = some (rv, hv)) : MR K yX1_countFrom cX1_countFrom 9 (some .int) (rk + 1) [.ref (K.2.1 x0), .ref (K.2.1 x1), .int x2, .int x3] h (some (.int rv)) hv := by
  refine MR_of (by decide) (Nat.le_of_ble_eq_true rfl) (fun G C E hnl => ?_)
  have C : Ok K G (rk + 1) cX1_countFrom RX1 := C
  refine (show At K G 0 [(0, .ref (K.2.1 x0)), (1, .ref (K.2.1 x1)), (2, .int x2), (3, .int x3)] [] h from ?_)
  unfold fX1_countFrom_0 at hf
  refine A_iload_n C dX1_countFrom_0 (i := 2) rfl 2 rfl 1 rfl ?_
  refine A_aload_n C dX1_countFrom_1 (i := 1) rfl 1 rfl 2 rfl ?_
  refine gfRX1_53 C k1 dX1_countFrom_2 5 rfl ?_
  refine A_icmp_gt C dX1_countFrom_5 13 (by decide) 8 rfl hf (fun c5 hf => ?_) (fun c5 hf => ?_)
  · refine A_iconst (v := 1) C dX1_countFrom_13 (by decide) 14 rfl ?_
    exact A_iret C dX1_countFrom_14 E hf
  refine A_iload_n C dX1_countFrom_8 (i := 2) rfl 2 rfl 9 rfl ?_
  refine A_iconst (v := 4) C dX1_countFrom_9 (by decide) 10 rfl ?_
  refine A_icmp_le C dX1_countFrom_10 15 (by decide) 13 rfl hf (fun c10 hf => ?_) (fun c10 hf => ?_)
  · refine A_iconst (v := 0) C dX1_countFrom_15 (by decide) 16 rfl ?_
    refine A_istore C dX1_countFrom_16 [(4, .int 0), (0, .ref (K.2.1 x0)), (1, .ref (K.2.1 x1)), (2, .int x2), (3, .int x3)] (lt_nl hnl (by decide)) rfl 18 rfl ?_
    refine A_iconst (v := 2) C dX1_countFrom_18 (by decide) 19 rfl ?_
    refine A_istore C dX1_countFrom_19 [(5, .int 2), (4, .int 0), (0, .ref (K.2.1 x0)), (1, .ref (K.2.1 x1)), (2, .int x2), (3, .int x3)] (lt_nl hnl (by decide)) rfl 21 rfl ?_
    refine A_sub [2, 3, 4, 5, 1, 0] (lv' := [(0, .ref (K.2.1 x0)), (1, .ref (K.2.1 x1)), (2, .int x2), (3, .int x3), (4, .int 0), (5, .int 2)]) rfl ?_
    refine lq2_at (wX1_countFrom_L21 C hnl E hrk0 Hrec k0 k1) FU _ _ _ hf
  refine A_iconst (v := 1) C dX1_countFrom_13 (by decide) 14 rfl ?_
  exact A_iret C dX1_countFrom_14 E hf
theorem mX1_countFrom {K : KX} (dp : Nat) {x0 : Nat} {x1 : Nat} {x2 : Int32} {x3 : Int32} (k0 : isK 1 x0) (k1 : isK 0 x1) {h : HH} {rv : Int32} {hv : HH} (hf : fX1_countFrom dp x0 x1 x2 x3 h = some (rv, hv)) : MR K yX1_countFrom cX1_countFrom 9 (some .int) (1 + dp) [.ref (K.2.1 x0), .ref (K.2.1 x1), .int x2, .int x3] h (some (.int rv)) hv := by
  have hq := lq4_rec (f := fX1_countFrom_0) (P := fun n x0 x1 x2 x3 h q => isK 1 x0 → isK 0 x1 → MR K yX1_countFrom cX1_countFrom 9 (some .int) (1 + n) [.ref (K.2.1 x0), .ref (K.2.1 x1), .int x2, .int x3] h (some (.int q.1)) q.2) (fun n self ih x0 x1 x2 x3 h q hf k0 k1 => mX1_countFrom_0 (rk := 1 + n) (Nat.le_add_right _ _) (rec := self) (fun x0 x1 x2 x3 k0 k1 h rv hv e => ih x0 x1 x2 x3 h (rv, hv) e k0 k1) k0 k1 hf) dp x0 x1 x2 x3 h _ hf
  exact hq k0 k1
set_option maxRecDepth 20000 in
theorem wX1_make_L15 {K : KX} {G : GX} (C : Ok K G 8 cX1_make RX1) (hnl : G.2.2.2.2.2.2.2.2.2.2.2.2.2 = 3) {rv : HH} (E : Endd K G none none rv) {x0 : Nat} {x1 : Nat} {k15_40 : HH → Option (HH)}  (Hk15_40 : ∀  (h : HH), k15_40  h = some rv → At K G 40 [(0, .ref (K.2.1 x0)), (1, .ref (K.2.1 x1))] [] h) (kx0 : isK 1 x0) (kx1 : isK 0 x1) : ∀ (self15 : Int32 → HH → Option (HH)), (∀ (x2 : Int32) (h : HH), self15 x2 h = some rv → At K G 15 [(0, .ref (K.2.1 x0)), (1, .ref (K.2.1 x1)), (2, .int x2)] [] h) → ∀ (x2 : Int32) (h : HH), fX1_make_L15 k15_40 x0 x1 self15 x2 h = some rv → At K G 15 [(0, .ref (K.2.1 x0)), (1, .ref (K.2.1 x1)), (2, .int x2)] [] h := by
  intro self15 Hself15 x2 h hf
  unfold fX1_make_L15 at hf
  refine A_iload_n C dX1_make_15 (i := 2) rfl 2 rfl 16 rfl ?_
  refine A_iconst (v := 4) C dX1_make_16 (by decide) 17 rfl ?_
  refine A_icmp_gt C dX1_make_17 40 (by decide) 20 rfl hf (fun c17 hf => ?_) (fun c17 hf => ?_)
  · refine A_sub [0, 1] (lv' := [(0, .ref (K.2.1 x0)), (1, .ref (K.2.1 x1))]) rfl ?_
    exact Hk15_40 _ hf
  refine A_aload_n C dX1_make_20 (i := 0) rfl 0 rfl 21 rfl ?_
  refine gfRX1_9 C kx0 dX1_make_21 24 rfl ?_
  refine A_iload_n C dX1_make_24 (i := 2) rfl 2 rfl 25 rfl ?_
  refine A_iconst (v := 0) C dX1_make_25 (by decide) 26 rfl ?_
  refine A_iast C dX1_make_26 (of_1_2 kx0) hf 27 rfl (fun hf => ?_)
  refine A_aload_n C dX1_make_27 (i := 0) rfl 0 rfl 28 rfl ?_
  refine gfRX1_15 C kx0 dX1_make_28 31 rfl ?_
  refine A_iload_n C dX1_make_31 (i := 2) rfl 2 rfl 32 rfl ?_
  refine A_iconst (v := 0) C dX1_make_32 (by decide) 33 rfl ?_
  refine A_iast C dX1_make_33 (of_1_3 kx0) hf 34 rfl (fun hf => ?_)
  refine A_namH hf (fun g1 hf => ?_)
  refine A_iinc (v := (x2 + 1)) C dX1_make_34 2 rfl rfl [(2, .int (x2 + 1)), (0, .ref (K.2.1 x0)), (1, .ref (K.2.1 x1))] (lt_nl hnl (by decide)) rfl 37 rfl ?_
  refine A_goto C dX1_make_37 15 (by decide) ?_
  refine A_sub [1, 2, 0] (lv' := [(0, .ref (K.2.1 x0)), (1, .ref (K.2.1 x1)), (2, .int (x2 + 1))]) rfl ?_
  exact Hself15 _ _ hf
set_option maxRecDepth 20000 in
theorem wX1_make_L42 {K : KX} {G : GX} (C : Ok K G 8 cX1_make RX1) (hnl : G.2.2.2.2.2.2.2.2.2.2.2.2.2 = 3) {rv : HH} (E : Endd K G none none rv) {x0 : Nat} {x1 : Nat}   (kx0 : isK 1 x0) (kx1 : isK 0 x1) : ∀ (self42 : Int32 → HH → Option (HH)), (∀ (x2 : Int32) (h : HH), self42 x2 h = some rv → At K G 42 [(0, .ref (K.2.1 x0)), (1, .ref (K.2.1 x1)), (2, .int x2)] [] h) → ∀ (x2 : Int32) (h : HH), fX1_make_L42 x0 x1 self42 x2 h = some rv → At K G 42 [(0, .ref (K.2.1 x0)), (1, .ref (K.2.1 x1)), (2, .int x2)] [] h := by
  intro self42 Hself42 x2 h hf
  unfold fX1_make_L42 at hf
  refine A_iload_n C dX1_make_42 (i := 2) rfl 2 rfl 43 rfl ?_
  refine A_aload_n C dX1_make_43 (i := 1) rfl 1 rfl 44 rfl ?_
  refine gfRX1_22 C kx1 dX1_make_44 47 rfl ?_
  refine gfRX1_28 C (of_0_8 kx1) dX1_make_47 50 rfl ?_
  refine A_icmp_ge C dX1_make_50 90 (by decide) 53 rfl hf (fun c50 hf => ?_) (fun c50 hf => ?_)
  · refine A_aload_n C dX1_make_90 (i := 0) rfl 0 rfl 91 rfl ?_
    refine A_aload_n C dX1_make_91 (i := 0) rfl 0 rfl 92 rfl ?_
    refine A_aload_n C dX1_make_92 (i := 1) rfl 1 rfl 93 rfl ?_
    refine A_iconst (v := 1) C dX1_make_93 (by decide) 94 rfl ?_
    refine A_iconst (v := 1) C dX1_make_94 (by decide) 95 rfl ?_
    refine CVi C dX1_make_95 1 kx0 (by decide) (r := (RX1, TX1, 4)) rfl rfl hf (fun _ _ e => mX1_countFrom 6 kx0 kx1 e) lkRX1_42 (by decide) (by decide) rfl [.ref (K.2.1 x0)] rfl (Nat.le_of_ble_eq_true rfl) 98 rfl (fun r95 h95 hf => ?_)
    refine pfRX1_46 C kx0 dX1_make_98 101 rfl ?_
    exact A_vret C dX1_make_101 E hf
  refine A_aload_n C dX1_make_53 (i := 0) rfl 0 rfl 54 rfl ?_
  refine A_aload_n C dX1_make_54 (i := 1) rfl 1 rfl 55 rfl ?_
  refine gfRX1_22 C kx1 dX1_make_55 58 rfl ?_
  refine A_iload_n C dX1_make_58 (i := 2) rfl 2 rfl 59 rfl ?_
  refine A_iconst (v := 1) C dX1_make_59 (by decide) 60 rfl ?_
  refine CVi C dX1_make_60 7 (of_0_8 kx1) (by decide) (r := (RX7, TX7, 4)) rfl rfl hf (fun _ _ e => mX7_at (of_0_8 kx1) e) lkRX1_34 (by decide) (by decide) rfl [.ref (K.2.1 x0)] rfl (Nat.le_of_ble_eq_true rfl) 63 rfl (fun r60 h60 hf => ?_)
  refine A_aload_n C dX1_make_63 (i := 1) rfl 1 rfl 64 rfl ?_
  refine gfRX1_22 C kx1 dX1_make_64 67 rfl ?_
  refine A_iload_n C dX1_make_67 (i := 2) rfl 2 rfl 68 rfl ?_
  refine A_iconst (v := 0) C dX1_make_68 (by decide) 69 rfl ?_
  refine CVi C dX1_make_69 7 (of_0_8 kx1) (by decide) (r := (RX7, TX7, 4)) rfl rfl hf (fun _ _ e => mX7_at (of_0_8 kx1) e) lkRX1_34 (by decide) (by decide) rfl [.int r60, .ref (K.2.1 x0)] rfl (Nat.le_of_ble_eq_true rfl) 72 rfl (fun r69 h69 hf => ?_)
  refine A_aload_n C dX1_make_72 (i := 1) rfl 1 rfl 73 rfl ?_
  refine gfRX1_22 C kx1 dX1_make_73 76 rfl ?_
  refine A_iload_n C dX1_make_76 (i := 2) rfl 2 rfl 77 rfl ?_
  refine A_iconst (v := 2) C dX1_make_77 (by decide) 78 rfl ?_
  refine CVi C dX1_make_78 7 (of_0_8 kx1) (by decide) (r := (RX7, TX7, 4)) rfl rfl hf (fun _ _ e => mX7_at (of_0_8 kx1) e) lkRX1_34 (by decide) (by decide) rfl [.int r69, .int r60, .ref (K.2.1 x0)] rfl (Nat.le_of_ble_eq_true rfl) 81 rfl (fun r78 h78 hf => ?_)
  refine CVv C dX1_make_81 1 kx0 (by decide) (r := (RX1, TX1, 4)) rfl rfl hf (fun _ e => mX1_need kx0 e) lkRX1_38 (by decide) (by decide) rfl [] rfl (Nat.le_of_ble_eq_true rfl) 84 rfl (fun h81 hf => ?_)
  refine A_iinc (v := (x2 + 1)) C dX1_make_84 2 rfl rfl [(2, .int (x2 + 1)), (0, .ref (K.2.1 x0)), (1, .ref (K.2.1 x1))] (lt_nl hnl (by decide)) rfl 87 rfl ?_
  refine A_goto C dX1_make_87 42 (by decide) ?_
  refine A_sub [1, 2, 0] (lv' := [(0, .ref (K.2.1 x0)), (1, .ref (K.2.1 x1)), (2, .int (x2 + 1))]) rfl ?_
  exact Hself42 _ _ hf
set_option maxRecDepth 20000 in
theorem mX1_make {K : KX} {x0 : Nat} {x1 : Nat} (k0 : isK 1 x0) (k1 : isK 0 x1) {h : HH} {rv : HH} (hf : fX1_make x0 x1 h = some rv) : MR K yX1_make cX1_make 3 none 8 [.ref (K.2.1 x0), .ref (K.2.1 x1)] h none rv := by
  refine MR_of (by decide) (Nat.le_of_ble_eq_true rfl) (fun G C E hnl => ?_)
  have C : Ok K G 8 cX1_make RX1 := C
  refine (show At K G 0 [(0, .ref (K.2.1 x0)), (1, .ref (K.2.1 x1))] [] h from ?_)
  unfold fX1_make at hf
  refine A_aload_n C dX1_make_0 (i := 0) rfl 0 rfl 1 rfl ?_
  refine gfRX1_18 C k0 dX1_make_1 4 rfl ?_
  refine A_if_eq C dX1_make_4 8 (by decide) 7 rfl hf (fun c4 hf => ?_) (fun c4 hf => ?_)
  · refine A_aload_n C dX1_make_8 (i := 0) rfl 0 rfl 9 rfl ?_
    refine A_iconst (v := 1) C dX1_make_9 (by decide) 10 rfl ?_
    refine pfRX1_18 C k0 dX1_make_10 (Or.inr rfl) 13 rfl ?_
    refine A_iconst (v := 0) C dX1_make_13 (by decide) 14 rfl ?_
    refine A_istore_n C dX1_make_14 (i := 2) rfl [(2, .int 0), (0, .ref (K.2.1 x0)), (1, .ref (K.2.1 x1))] (lt_nl hnl (by decide)) rfl 15 rfl ?_
    refine A_sub [1, 2, 0] (lv' := [(0, .ref (K.2.1 x0)), (1, .ref (K.2.1 x1)), (2, .int 0)]) rfl ?_
    refine lq1_at (wX1_make_L15 C hnl E (fun  h hf => ?_) k0 k1) FU _ _ hf
    refine A_iconst (v := 0) C dX1_make_40 (by decide) 41 rfl ?_
    refine A_istore_n C dX1_make_41 (i := 2) rfl [(2, .int 0), (0, .ref (K.2.1 x0)), (1, .ref (K.2.1 x1))] (lt_nl hnl (by decide)) rfl 42 rfl ?_
    refine A_sub [1, 2, 0] (lv' := [(0, .ref (K.2.1 x0)), (1, .ref (K.2.1 x1)), (2, .int 0)]) rfl ?_
    refine lq1_at (wX1_make_L42 C hnl E k0 k1) FU _ _ hf
  exact A_vret C dX1_make_7 E hf
set_option maxRecDepth 20000 in
theorem wX1_onlyRate_L15 {K : KX} {G : GX} (C : Ok K G 1 cX1_onlyRate RX1) (hnl : G.2.2.2.2.2.2.2.2.2.2.2.2.2 = 3) {rv : Int32} {hv : HH} (E : Endd K G (some .int) (some (.int rv)) hv) {x0 : Nat} {x1 : Int32}   (kx0 : isK 1 x0) : ∀ (self15 : Int32 → HH → Option (Int32 × HH)), (∀ (x2 : Int32) (h : HH), self15 x2 h = some (rv, hv) → At K G 15 [(0, .ref (K.2.1 x0)), (1, .int x1), (2, .int x2)] [] h) → ∀ (x2 : Int32) (h : HH), fX1_onlyRate_L15 x0 x1 self15 x2 h = some (rv, hv) → At K G 15 [(0, .ref (K.2.1 x0)), (1, .int x1), (2, .int x2)] [] h := by
  intro self15 Hself15 x2 h hf
  unfold fX1_onlyRate_L15 at hf
  refine A_iload_n C dX1_onlyRate_15 (i := 2) rfl 2 rfl 16 rfl ?_
  refine A_bipush (v := 12) C dX1_onlyRate_16 (by decide) 18 rfl ?_
  refine A_icmp_gt C dX1_onlyRate_18 41 (by decide) 21 rfl hf (fun c18 hf => ?_) (fun c18 hf => ?_)
  · refine A_bipush (v := (-2)) C dX1_onlyRate_41 (by decide) 43 rfl ?_
    exact A_iret C dX1_onlyRate_43 E hf
  refine A_aload_n C dX1_onlyRate_21 (i := 0) rfl 0 rfl 22 rfl ?_
  refine gfRX1_9 C kx0 dX1_onlyRate_22 25 rfl ?_
  refine A_iload_n C dX1_onlyRate_25 (i := 1) rfl 1 rfl 26 rfl ?_
  refine A_iald C dX1_onlyRate_26 (of_1_2 kx0) hf 27 rfl (fun hf => ?_)
  refine A_iconst (v := 1) C dX1_onlyRate_27 (by decide) 28 rfl ?_
  refine A_iload_n C dX1_onlyRate_28 (i := 2) rfl 2 rfl 29 rfl ?_
  refine A_ishl C dX1_onlyRate_29 30 rfl ?_
  refine A_icmp_ne C dX1_onlyRate_30 35 (by decide) 33 rfl hf (fun c30 hf => ?_) (fun c30 hf => ?_)
  · refine A_iinc (v := (x2 + 1)) C dX1_onlyRate_35 2 rfl rfl [(2, .int (x2 + 1)), (0, .ref (K.2.1 x0)), (1, .int x1)] (lt_nl hnl (by decide)) rfl 38 rfl ?_
    refine A_goto C dX1_onlyRate_38 15 (by decide) ?_
    refine A_sub [1, 2, 0] (lv' := [(0, .ref (K.2.1 x0)), (1, .int x1), (2, .int (x2 + 1))]) rfl ?_
    exact Hself15 _ _ hf
  refine A_iload_n C dX1_onlyRate_33 (i := 2) rfl 2 rfl 34 rfl ?_
  exact A_iret C dX1_onlyRate_34 E hf
set_option maxRecDepth 20000 in
theorem mX1_onlyRate {K : KX} {x0 : Nat} {x1 : Int32} (k0 : isK 1 x0) {h : HH} {rv : Int32} {hv : HH} (hf : fX1_onlyRate x0 x1 h = some (rv, hv)) : MR K yX1_onlyRate cX1_onlyRate 3 (some .int) 1 [.ref (K.2.1 x0), .int x1] h (some (.int rv)) hv := by
  refine MR_of (by decide) (Nat.le_of_ble_eq_true rfl) (fun G C E hnl => ?_)
  have C : Ok K G 1 cX1_onlyRate RX1 := C
  refine (show At K G 0 [(0, .ref (K.2.1 x0)), (1, .int x1)] [] h from ?_)
  unfold fX1_onlyRate at hf
  refine A_iload_n C dX1_onlyRate_0 (i := 1) rfl 1 rfl 1 rfl ?_
  refine A_iconst (v := 1) C dX1_onlyRate_1 (by decide) 2 rfl ?_
  refine A_icmp_lt C dX1_onlyRate_2 10 (by decide) 5 rfl hf (fun c2 hf => ?_) (fun c2 hf => ?_)
  · refine A_bipush (v := (-2)) C dX1_onlyRate_10 (by decide) 12 rfl ?_
    exact A_iret C dX1_onlyRate_12 E hf
  refine A_iload_n C dX1_onlyRate_5 (i := 1) rfl 1 rfl 6 rfl ?_
  refine A_iconst (v := 4) C dX1_onlyRate_6 (by decide) 7 rfl ?_
  refine A_icmp_le C dX1_onlyRate_7 13 (by decide) 10 rfl hf (fun c7 hf => ?_) (fun c7 hf => ?_)
  · refine A_iconst (v := 2) C dX1_onlyRate_13 (by decide) 14 rfl ?_
    refine A_istore_n C dX1_onlyRate_14 (i := 2) rfl [(2, .int 2), (0, .ref (K.2.1 x0)), (1, .int x1)] (lt_nl hnl (by decide)) rfl 15 rfl ?_
    refine A_sub [1, 2, 0] (lv' := [(0, .ref (K.2.1 x0)), (1, .int x1), (2, .int 2)]) rfl ?_
    refine lq1_at (wX1_onlyRate_L15 C hnl E k0) FU _ _ hf
  refine A_bipush (v := (-2)) C dX1_onlyRate_10 (by decide) 12 rfl ?_
  exact A_iret C dX1_onlyRate_12 E hf
