set_option maxRecDepth 20000 in
theorem wX6_gather_L10 {K : KX} {G : GX} (C : Ok K G 1 cX6_gather RX6) (hnl : G.2.2.2.2.2.2.2.2.2.2.2.2.2 = 5) {rv : Int32} {hv : HH} (E : Endd K G (some .int) (some (.int rv)) hv) {x0 : Nat} {x1 : Nat} {x2 : Int32}   (kx0 : isK 6 x0) (kx1 : isK 2 x1) : ∀ (self10 : Int32 → Int32 → HH → Option (Int32 × HH)), (∀ (x3 : Int32) (x4 : Int32) (h : HH), self10 x3 x4 h = some (rv, hv) → At K G 10 [(0, .ref (K.2.1 x0)), (1, .ref (K.2.1 x1)), (2, .int x2), (3, .int x3), (4, .int x4)] [] h) → ∀ (x3 : Int32) (x4 : Int32) (h : HH), fX6_gather_L10 x0 x1 x2 self10 x3 x4 h = some (rv, hv) → At K G 10 [(0, .ref (K.2.1 x0)), (1, .ref (K.2.1 x1)), (2, .int x2), (3, .int x3), (4, .int x4)] [] h := by
  intro self10 Hself10 x3 x4 h hf
  unfold fX6_gather_L10 at hf
  refine A_iload C dX6_gather_10 4 rfl 12 rfl ?_
  refine A_iconst (v := 5) C dX6_gather_12 (by decide) 13 rfl ?_
  refine A_icmp_ge C dX6_gather_13 74 (by decide) 16 rfl hf (fun c13 hf => ?_) (fun c13 hf => ?_)
  · refine A_iload_n C dX6_gather_74 (i := 3) rfl 3 rfl 75 rfl ?_
    exact A_iret C dX6_gather_75 E hf
  refine A_iload_n C dX6_gather_16 (i := 2) rfl 2 rfl 17 rfl ?_
  refine A_iload C dX6_gather_17 4 rfl 19 rfl ?_
  refine A_ishr C dX6_gather_19 20 rfl ?_
  refine A_iconst (v := 1) C dX6_gather_20 (by decide) 21 rfl ?_
  refine A_iand C dX6_gather_21 22 rfl ?_
  refine A_iconst (v := 1) C dX6_gather_22 (by decide) 23 rfl ?_
  refine A_icmp_ne C dX6_gather_23 68 (by decide) 26 rfl hf (fun c23 hf => ?_) (fun c23 hf => ?_)
  · refine A_iinc (v := (x4 + 1)) C dX6_gather_68 4 rfl rfl [(4, .int (x4 + 1)), (0, .ref (K.2.1 x0)), (1, .ref (K.2.1 x1)), (2, .int x2), (3, .int x3)] (lt_nl hnl (by decide)) rfl 71 rfl ?_
    refine A_goto C dX6_gather_71 10 (by decide) ?_
    refine A_sub [1, 2, 3, 4, 0] (lv' := [(0, .ref (K.2.1 x0)), (1, .ref (K.2.1 x1)), (2, .int x2), (3, .int x3), (4, .int (x4 + 1))]) rfl ?_
    exact Hself10 _ _ _ hf
  refine A_aload_n C dX6_gather_26 (i := 0) rfl 0 rfl 27 rfl ?_
  refine gfRX6_15 C kx0 dX6_gather_27 30 rfl ?_
  refine A_aload_n C dX6_gather_30 (i := 0) rfl 0 rfl 31 rfl ?_
  refine gfRX6_59 C kx0 dX6_gather_31 34 rfl ?_
  refine A_iload C dX6_gather_34 4 rfl 36 rfl ?_
  refine A_iast C dX6_gather_36 (of_6_1 kx0) hf 37 rfl (fun hf => ?_)
  refine A_iload_n C dX6_gather_37 (i := 3) rfl 3 rfl 38 rfl ?_
  refine A_aload_n C dX6_gather_38 (i := 1) rfl 1 rfl 39 rfl ?_
  refine gfRX6_62 C kx1 dX6_gather_39 42 rfl ?_
  refine A_iload C dX6_gather_42 4 rfl 44 rfl ?_
  refine A_iald C dX6_gather_44 (of_2_0 kx1) hf 45 rfl (fun hf => ?_)
  refine A_iconst (v := 1) C dX6_gather_45 (by decide) 46 rfl ?_
  refine A_isub C dX6_gather_46 47 rfl ?_
  refine A_iconst (v := 3) C dX6_gather_47 (by decide) 48 rfl ?_
  refine A_iand C dX6_gather_48 49 rfl ?_
  refine A_iconst (v := 2) C dX6_gather_49 (by decide) 50 rfl ?_
  refine A_aload_n C dX6_gather_50 (i := 0) rfl 0 rfl 51 rfl ?_
  refine gfRX6_59 C kx0 dX6_gather_51 54 rfl ?_
  refine A_imul C dX6_gather_54 55 rfl ?_
  refine A_ishl C dX6_gather_55 56 rfl ?_
  refine A_ior C dX6_gather_56 57 rfl ?_
  refine A_namI hf (fun y1 hf => ?_)
  refine A_istore_n C dX6_gather_57 (i := 3) rfl [(3, .int y1), (0, .ref (K.2.1 x0)), (1, .ref (K.2.1 x1)), (2, .int x2), (4, .int x4)] (lt_nl hnl (by decide)) rfl 58 rfl ?_
  refine A_aload_n C dX6_gather_58 (i := 0) rfl 1 rfl 59 rfl ?_
  refine A_dup C dX6_gather_59 rfl 60 rfl ?_
  refine gfRX6_59 C kx0 dX6_gather_60 63 rfl ?_
  refine A_iconst (v := 1) C dX6_gather_63 (by decide) 64 rfl ?_
  refine A_iadd C dX6_gather_64 65 rfl ?_
  refine pfRX6_59 C kx0 dX6_gather_65 68 rfl ?_
  refine A_namH hf (fun g2 hf => ?_)
  refine A_iinc (v := (x4 + 1)) C dX6_gather_68 4 rfl rfl [(4, .int (x4 + 1)), (3, .int y1), (0, .ref (K.2.1 x0)), (1, .ref (K.2.1 x1)), (2, .int x2)] (lt_nl hnl (by decide)) rfl 71 rfl ?_
  refine A_goto C dX6_gather_71 10 (by decide) ?_
  refine A_sub [2, 3, 4, 1, 0] (lv' := [(0, .ref (K.2.1 x0)), (1, .ref (K.2.1 x1)), (2, .int x2), (3, .int y1), (4, .int (x4 + 1))]) rfl ?_
  exact Hself10 _ _ _ hf
set_option maxRecDepth 20000 in
theorem mX6_gather {K : KX} {x0 : Nat} {x1 : Nat} {x2 : Int32} (k0 : isK 6 x0) (k1 : isK 2 x1) {h : HH} {rv : Int32} {hv : HH} (hf : fX6_gather x0 x1 x2 h = some (rv, hv)) : MR K yX6_gather cX6_gather 5 (some .int) 1 [.ref (K.2.1 x0), .ref (K.2.1 x1), .int x2] h (some (.int rv)) hv := by
  refine MR_of (by decide) (Nat.le_of_ble_eq_true rfl) (fun G C E hnl => ?_)
  have C : Ok K G 1 cX6_gather RX6 := C
  refine (show At K G 0 [(0, .ref (K.2.1 x0)), (1, .ref (K.2.1 x1)), (2, .int x2)] [] h from ?_)
  unfold fX6_gather at hf
  refine A_iconst (v := 0) C dX6_gather_0 (by decide) 1 rfl ?_
  refine A_istore_n C dX6_gather_1 (i := 3) rfl [(3, .int 0), (0, .ref (K.2.1 x0)), (1, .ref (K.2.1 x1)), (2, .int x2)] (lt_nl hnl (by decide)) rfl 2 rfl ?_
  refine A_aload_n C dX6_gather_2 (i := 0) rfl 1 rfl 3 rfl ?_
  refine A_iconst (v := 0) C dX6_gather_3 (by decide) 4 rfl ?_
  refine pfRX6_59 C k0 dX6_gather_4 7 rfl ?_
  refine A_iconst (v := 0) C dX6_gather_7 (by decide) 8 rfl ?_
  refine A_istore C dX6_gather_8 [(4, .int 0), (3, .int 0), (0, .ref (K.2.1 x0)), (1, .ref (K.2.1 x1)), (2, .int x2)] (lt_nl hnl (by decide)) rfl 10 rfl ?_
  refine A_sub [2, 3, 4, 1, 0] (lv' := [(0, .ref (K.2.1 x0)), (1, .ref (K.2.1 x1)), (2, .int x2), (3, .int 0), (4, .int 0)]) rfl ?_
  refine lq2_at (wX6_gather_L10 C hnl E k0 k1) FU _ _ _ hf
set_option maxRecDepth 20000 in
theorem mX6_enqueue {K : KX} {x0 : Nat} {x1 : Int32} {x2 : Int32} {x3 : Int32} (k0 : isK 6 x0) {h : HH} {rv : HH} (hf : fX6_enqueue x0 x1 x2 x3 h = some rv) : MR K yX6_enqueue cX6_enqueue 4 none 1 [.ref (K.2.1 x0), .int x1, .int x2, .int x3] h none rv := by
  refine MR_of (by decide) (Nat.le_of_ble_eq_true rfl) (fun G C E hnl => ?_)
  have C : Ok K G 1 cX6_enqueue RX6 := C
  refine (show At K G 0 [(0, .ref (K.2.1 x0)), (1, .int x1), (2, .int x2), (3, .int x3)] [] h from ?_)
  unfold fX6_enqueue at hf
  refine A_iload_n C dX6_enqueue_0 (i := 1) rfl 1 rfl 1 rfl ?_
  refine A_if_lt C dX6_enqueue_1 34 (by decide) 4 rfl hf (fun c1 hf => ?_) (fun c1 hf => ?_)
  · exact A_vret C dX6_enqueue_34 E hf
  refine A_iload_n C dX6_enqueue_4 (i := 1) rfl 1 rfl 5 rfl ?_
  refine A_sipush (v := 1024) C dX6_enqueue_5 (by decide) 8 rfl ?_
  refine A_icmp_ge C dX6_enqueue_8 34 (by decide) 11 rfl hf (fun c8 hf => ?_) (fun c8 hf => ?_)
  · exact A_vret C dX6_enqueue_34 E hf
  refine A_aload_n C dX6_enqueue_11 (i := 0) rfl 0 rfl 12 rfl ?_
  refine gfRX6_37 C k0 dX6_enqueue_12 15 rfl ?_
  refine A_sipush (v := 1024) C dX6_enqueue_15 (by decide) 18 rfl ?_
  refine A_icmp_ge C dX6_enqueue_18 34 (by decide) 21 rfl hf (fun c18 hf => ?_) (fun c18 hf => ?_)
  · exact A_vret C dX6_enqueue_34 E hf
  refine A_aload_n C dX6_enqueue_21 (i := 0) rfl 0 rfl 22 rfl ?_
  refine gfRX6_30 C k0 dX6_enqueue_22 25 rfl ?_
  refine A_iload_n C dX6_enqueue_25 (i := 1) rfl 1 rfl 26 rfl ?_
  refine A_iald C dX6_enqueue_26 (of_6_6 k0) hf 27 rfl (fun hf => ?_)
  refine A_aload_n C dX6_enqueue_27 (i := 0) rfl 0 rfl 28 rfl ?_
  refine gfRX6_33 C k0 dX6_enqueue_28 31 rfl ?_
  refine A_icmp_ne C dX6_enqueue_31 35 (by decide) 34 rfl hf (fun c31 hf => ?_) (fun c31 hf => ?_)
  · refine A_aload_n C dX6_enqueue_35 (i := 0) rfl 0 rfl 36 rfl ?_
    refine gfRX6_30 C k0 dX6_enqueue_36 39 rfl ?_
    refine A_iload_n C dX6_enqueue_39 (i := 1) rfl 1 rfl 40 rfl ?_
    refine A_aload_n C dX6_enqueue_40 (i := 0) rfl 0 rfl 41 rfl ?_
    refine gfRX6_33 C k0 dX6_enqueue_41 44 rfl ?_
    refine A_iast C dX6_enqueue_44 (of_6_6 k0) hf 45 rfl (fun hf => ?_)
    refine A_aload_n C dX6_enqueue_45 (i := 0) rfl 0 rfl 46 rfl ?_
    refine gfRX6_21 C k0 dX6_enqueue_46 49 rfl ?_
    refine A_aload_n C dX6_enqueue_49 (i := 0) rfl 0 rfl 50 rfl ?_
    refine gfRX6_37 C k0 dX6_enqueue_50 53 rfl ?_
    refine A_iload_n C dX6_enqueue_53 (i := 1) rfl 1 rfl 54 rfl ?_
    refine A_iast C dX6_enqueue_54 (of_6_3 k0) hf 55 rfl (fun hf => ?_)
    refine A_namH hf (fun g1 hf => ?_)
    refine A_aload_n C dX6_enqueue_55 (i := 0) rfl 0 rfl 56 rfl ?_
    refine gfRX6_24 C k0 dX6_enqueue_56 59 rfl ?_
    refine A_aload_n C dX6_enqueue_59 (i := 0) rfl 0 rfl 60 rfl ?_
    refine gfRX6_37 C k0 dX6_enqueue_60 63 rfl ?_
    refine A_iload_n C dX6_enqueue_63 (i := 2) rfl 2 rfl 64 rfl ?_
    refine A_iast C dX6_enqueue_64 (of_6_4 k0) hf 65 rfl (fun hf => ?_)
    refine A_aload_n C dX6_enqueue_65 (i := 0) rfl 0 rfl 66 rfl ?_
    refine gfRX6_27 C k0 dX6_enqueue_66 69 rfl ?_
    refine A_aload_n C dX6_enqueue_69 (i := 0) rfl 0 rfl 70 rfl ?_
    refine gfRX6_37 C k0 dX6_enqueue_70 73 rfl ?_
    refine A_iload_n C dX6_enqueue_73 (i := 3) rfl 3 rfl 74 rfl ?_
    refine A_iast C dX6_enqueue_74 (of_6_5 k0) hf 75 rfl (fun hf => ?_)
    refine A_namH hf (fun g2 hf => ?_)
    refine A_aload_n C dX6_enqueue_75 (i := 0) rfl 0 rfl 76 rfl ?_
    refine A_dup C dX6_enqueue_76 rfl 77 rfl ?_
    refine gfRX6_37 C k0 dX6_enqueue_77 80 rfl ?_
    refine A_iconst (v := 1) C dX6_enqueue_80 (by decide) 81 rfl ?_
    refine A_iadd C dX6_enqueue_81 82 rfl ?_
    refine pfRX6_37 C k0 dX6_enqueue_82 85 rfl ?_
    exact A_vret C dX6_enqueue_85 E hf
  exact A_vret C dX6_enqueue_34 E hf
set_option maxRecDepth 20000 in
theorem mX6_place {K : KX} {x0 : Int32} {x1 : Int32} {x2 : Int32}  {h : HH} {rv : Int32} {hv : HH} (hf : fX6_place x0 x1 x2 h = some (rv, hv)) : MR K yX6_place cX6_place 3 (some .int) 1 [.int x0, .int x1, .int x2] h (some (.int rv)) hv := by
  refine MR_of (by decide) (Nat.le_of_ble_eq_true rfl) (fun G C E hnl => ?_)
  have C : Ok K G 1 cX6_place RX6 := C
  refine (show At K G 0 [(0, .int x0), (1, .int x1), (2, .int x2)] [] h from ?_)
  unfold fX6_place at hf
  refine A_iload_n C dX6_place_0 (i := 0) rfl 0 rfl 1 rfl ?_
  refine A_iconst (v := 4) C dX6_place_1 (by decide) 2 rfl ?_
  refine A_imul C dX6_place_2 3 rfl ?_
  refine A_iload_n C dX6_place_3 (i := 1) rfl 1 rfl 4 rfl ?_
  refine A_iadd C dX6_place_4 5 rfl ?_
  refine A_iconst (v := 1) C dX6_place_5 (by decide) 6 rfl ?_
  refine A_isub C dX6_place_6 7 rfl ?_
  refine A_bipush (v := 10) C dX6_place_7 (by decide) 9 rfl ?_
  refine A_imul C dX6_place_9 10 rfl ?_
  refine A_iload_n C dX6_place_10 (i := 2) rfl 2 rfl 11 rfl ?_
  refine A_iadd C dX6_place_11 12 rfl ?_
  exact A_iret C dX6_place_12 E hf
set_option maxRecDepth 20000 in
theorem wX6_tryKnocks_L20 {K : KX} {G : GX} (C : Ok K G 3 cX6_tryKnocks RX6) (hnl : G.2.2.2.2.2.2.2.2.2.2.2.2.2 = 5) {rv : HH} (E : Endd K G none none rv) {x0 : Nat} {x1 : Nat} {x2 : Int32} {x3 : Int32} {k20_59 : HH → Option (HH)}  (Hk20_59 : ∀  (h : HH), k20_59  h = some rv → At K G 59 [(0, .ref (K.2.1 x0)), (1, .ref (K.2.1 x1)), (2, .int x2), (3, .int x3)] [] h) (kx0 : isK 6 x0) (kx1 : isK 0 x1) : ∀ (self20 : Int32 → HH → Option (HH)), (∀ (x4 : Int32) (h : HH), self20 x4 h = some rv → At K G 20 [(0, .ref (K.2.1 x0)), (1, .ref (K.2.1 x1)), (2, .int x2), (3, .int x3), (4, .int x4)] [] h) → ∀ (x4 : Int32) (h : HH), fX6_tryKnocks_L20 k20_59 x0 x1 x2 x3 self20 x4 h = some rv → At K G 20 [(0, .ref (K.2.1 x0)), (1, .ref (K.2.1 x1)), (2, .int x2), (3, .int x3), (4, .int x4)] [] h := by
  intro self20 Hself20 x4 h hf
  unfold fX6_tryKnocks_L20 at hf
  refine A_iload C dX6_tryKnocks_20 4 rfl 22 rfl ?_
  refine A_bipush (v := 9) C dX6_tryKnocks_22 (by decide) 24 rfl ?_
  refine A_icmp_gt C dX6_tryKnocks_24 59 (by decide) 27 rfl hf (fun c24 hf => ?_) (fun c24 hf => ?_)
  · refine A_sub [0, 1, 2, 3] (lv' := [(0, .ref (K.2.1 x0)), (1, .ref (K.2.1 x1)), (2, .int x2), (3, .int x3)]) rfl ?_
    exact Hk20_59 _ hf
  refine A_aload_n C dX6_tryKnocks_27 (i := 0) rfl 0 rfl 28 rfl ?_
  refine gfRX6_18 C kx0 dX6_tryKnocks_28 31 rfl ?_
  refine A_iload_n C dX6_tryKnocks_31 (i := 2) rfl 2 rfl 32 rfl ?_
  refine A_iload_n C dX6_tryKnocks_32 (i := 3) rfl 3 rfl 33 rfl ?_
  refine A_iload C dX6_tryKnocks_33 4 rfl 35 rfl ?_
  refine CSi C dX6_tryKnocks_35 hf (fun _ _ e => mX6_place  e) lkRX6_67 (by decide) (by decide) rfl [.ref (K.2.1 (x0 + 3))] rfl (Nat.le_of_ble_eq_true rfl) 38 rfl (fun r35 h35 hf => ?_)
  refine A_aload_n C dX6_tryKnocks_38 (i := 1) rfl 1 rfl 39 rfl ?_
  refine A_aload_n C dX6_tryKnocks_39 (i := 0) rfl 0 rfl 40 rfl ?_
  refine gfRX6_15 C kx0 dX6_tryKnocks_40 43 rfl ?_
  refine A_iload_n C dX6_tryKnocks_43 (i := 2) rfl 2 rfl 44 rfl ?_
  refine A_iald C dX6_tryKnocks_44 (of_6_1 kx0) hf 45 rfl (fun hf => ?_)
  refine A_iload_n C dX6_tryKnocks_45 (i := 3) rfl 3 rfl 46 rfl ?_
  refine A_iconst (v := 0) C dX6_tryKnocks_46 (by decide) 47 rfl ?_
  refine A_iload C dX6_tryKnocks_47 4 rfl 49 rfl ?_
  refine CVi C dX6_tryKnocks_49 0 kx1 (by decide) (r := (RX0, TX0, 14)) rfl rfl hf (fun _ _ e => mX0_floorBehind kx1 e) lkRX6_71 (by decide) (by decide) rfl [.int r35, .ref (K.2.1 (x0 + 3))] rfl (Nat.le_of_ble_eq_true rfl) 52 rfl (fun r49 h49 hf => ?_)
  refine A_iast C dX6_tryKnocks_52 (of_6_2 kx0) hf 53 rfl (fun hf => ?_)
  refine A_iinc (v := (x4 + 1)) C dX6_tryKnocks_53 4 rfl rfl [(4, .int (x4 + 1)), (0, .ref (K.2.1 x0)), (1, .ref (K.2.1 x1)), (2, .int x2), (3, .int x3)] (lt_nl hnl (by decide)) rfl 56 rfl ?_
  refine A_goto C dX6_tryKnocks_56 20 (by decide) ?_
  refine A_sub [1, 2, 3, 4, 0] (lv' := [(0, .ref (K.2.1 x0)), (1, .ref (K.2.1 x1)), (2, .int x2), (3, .int x3), (4, .int (x4 + 1))]) rfl ?_
  exact Hself20 _ _ hf
set_option maxRecDepth 20000 in
theorem wX6_tryKnocks_L12 {K : KX} {G : GX} (C : Ok K G 3 cX6_tryKnocks RX6) (hnl : G.2.2.2.2.2.2.2.2.2.2.2.2.2 = 5) {rv : HH} (E : Endd K G none none rv) {x0 : Nat} {x1 : Nat} {x2 : Int32} {k12_65 : HH → Option (HH)}  (Hk12_65 : ∀  (h : HH), k12_65  h = some rv → At K G 65 [(0, .ref (K.2.1 x0)), (1, .ref (K.2.1 x1)), (2, .int x2)] [] h) (kx0 : isK 6 x0) (kx1 : isK 0 x1) : ∀ (self12 : Int32 → HH → Option (HH)), (∀ (x3 : Int32) (h : HH), self12 x3 h = some rv → At K G 12 [(0, .ref (K.2.1 x0)), (1, .ref (K.2.1 x1)), (2, .int x2), (3, .int x3)] [] h) → ∀ (x3 : Int32) (h : HH), fX6_tryKnocks_L12 k12_65 x0 x1 x2 self12 x3 h = some rv → At K G 12 [(0, .ref (K.2.1 x0)), (1, .ref (K.2.1 x1)), (2, .int x2), (3, .int x3)] [] h := by
  intro self12 Hself12 x3 h hf
  unfold fX6_tryKnocks_L12 at hf
  refine A_iload_n C dX6_tryKnocks_12 (i := 3) rfl 3 rfl 13 rfl ?_
  refine A_iconst (v := 4) C dX6_tryKnocks_13 (by decide) 14 rfl ?_
  refine A_icmp_gt C dX6_tryKnocks_14 65 (by decide) 17 rfl hf (fun c14 hf => ?_) (fun c14 hf => ?_)
  · refine A_sub [0, 1, 2] (lv' := [(0, .ref (K.2.1 x0)), (1, .ref (K.2.1 x1)), (2, .int x2)]) rfl ?_
    exact Hk12_65 _ hf
  refine A_iconst (v := 1) C dX6_tryKnocks_17 (by decide) 18 rfl ?_
  refine A_istore C dX6_tryKnocks_18 [(4, .int 1), (0, .ref (K.2.1 x0)), (1, .ref (K.2.1 x1)), (2, .int x2), (3, .int x3)] (lt_nl hnl (by decide)) rfl 20 rfl ?_
  refine A_sub [1, 2, 3, 4, 0] (lv' := [(0, .ref (K.2.1 x0)), (1, .ref (K.2.1 x1)), (2, .int x2), (3, .int x3), (4, .int 1)]) rfl ?_
  refine lq1_at (wX6_tryKnocks_L20 C hnl E (fun  h hf => ?_) kx0 kx1) FU _ _ hf
  refine A_iinc (v := (x3 + 1)) C dX6_tryKnocks_59 3 rfl rfl [(3, .int (x3 + 1)), (0, .ref (K.2.1 x0)), (1, .ref (K.2.1 x1)), (2, .int x2)] (lt_nl hnl (by decide)) rfl 62 rfl ?_
  refine A_goto C dX6_tryKnocks_62 12 (by decide) ?_
  refine A_sub [1, 2, 3, 0] (lv' := [(0, .ref (K.2.1 x0)), (1, .ref (K.2.1 x1)), (2, .int x2), (3, .int (x3 + 1))]) rfl ?_
  exact Hself12 _ _ hf
set_option maxRecDepth 20000 in
theorem wX6_tryKnocks_L2 {K : KX} {G : GX} (C : Ok K G 3 cX6_tryKnocks RX6) (hnl : G.2.2.2.2.2.2.2.2.2.2.2.2.2 = 5) {rv : HH} (E : Endd K G none none rv) {x0 : Nat} {x1 : Nat}   (kx0 : isK 6 x0) (kx1 : isK 0 x1) : ∀ (self2 : Int32 → HH → Option (HH)), (∀ (x2 : Int32) (h : HH), self2 x2 h = some rv → At K G 2 [(0, .ref (K.2.1 x0)), (1, .ref (K.2.1 x1)), (2, .int x2)] [] h) → ∀ (x2 : Int32) (h : HH), fX6_tryKnocks_L2 x0 x1 self2 x2 h = some rv → At K G 2 [(0, .ref (K.2.1 x0)), (1, .ref (K.2.1 x1)), (2, .int x2)] [] h := by
  intro self2 Hself2 x2 h hf
  unfold fX6_tryKnocks_L2 at hf
  refine A_iload_n C dX6_tryKnocks_2 (i := 2) rfl 2 rfl 3 rfl ?_
  refine A_aload_n C dX6_tryKnocks_3 (i := 0) rfl 0 rfl 4 rfl ?_
  refine gfRX6_59 C kx0 dX6_tryKnocks_4 7 rfl ?_
  refine A_icmp_ge C dX6_tryKnocks_7 71 (by decide) 10 rfl hf (fun c7 hf => ?_) (fun c7 hf => ?_)
  · exact A_vret C dX6_tryKnocks_71 E hf
  refine A_iconst (v := 1) C dX6_tryKnocks_10 (by decide) 11 rfl ?_
  refine A_istore_n C dX6_tryKnocks_11 (i := 3) rfl [(3, .int 1), (0, .ref (K.2.1 x0)), (1, .ref (K.2.1 x1)), (2, .int x2)] (lt_nl hnl (by decide)) rfl 12 rfl ?_
  refine A_sub [1, 2, 3, 0] (lv' := [(0, .ref (K.2.1 x0)), (1, .ref (K.2.1 x1)), (2, .int x2), (3, .int 1)]) rfl ?_
  refine lq1_at (wX6_tryKnocks_L12 C hnl E (fun  h hf => ?_) kx0 kx1) FU _ _ hf
  refine A_iinc (v := (x2 + 1)) C dX6_tryKnocks_65 2 rfl rfl [(2, .int (x2 + 1)), (0, .ref (K.2.1 x0)), (1, .ref (K.2.1 x1))] (lt_nl hnl (by decide)) rfl 68 rfl ?_
  refine A_goto C dX6_tryKnocks_68 2 (by decide) ?_
  refine A_sub [1, 2, 0] (lv' := [(0, .ref (K.2.1 x0)), (1, .ref (K.2.1 x1)), (2, .int (x2 + 1))]) rfl ?_
  exact Hself2 _ _ hf
set_option maxRecDepth 20000 in
theorem mX6_tryKnocks {K : KX} {x0 : Nat} {x1 : Nat} (k0 : isK 6 x0) (k1 : isK 0 x1) {h : HH} {rv : HH} (hf : fX6_tryKnocks x0 x1 h = some rv) : MR K yX6_tryKnocks cX6_tryKnocks 5 none 3 [.ref (K.2.1 x0), .ref (K.2.1 x1)] h none rv := by
  refine MR_of (by decide) (Nat.le_of_ble_eq_true rfl) (fun G C E hnl => ?_)
  have C : Ok K G 3 cX6_tryKnocks RX6 := C
  refine (show At K G 0 [(0, .ref (K.2.1 x0)), (1, .ref (K.2.1 x1))] [] h from ?_)
  unfold fX6_tryKnocks at hf
  refine A_iconst (v := 0) C dX6_tryKnocks_0 (by decide) 1 rfl ?_
  refine A_istore_n C dX6_tryKnocks_1 (i := 2) rfl [(2, .int 0), (0, .ref (K.2.1 x0)), (1, .ref (K.2.1 x1))] (lt_nl hnl (by decide)) rfl 2 rfl ?_
  refine A_sub [1, 2, 0] (lv' := [(0, .ref (K.2.1 x0)), (1, .ref (K.2.1 x1)), (2, .int 0)]) rfl ?_
  refine lq1_at (wX6_tryKnocks_L2 C hnl E k0 k1) FU _ _ hf
set_option maxRecDepth 20000 in
theorem wX6_behindKnock_L8 {K : KX} {G : GX} (C : Ok K G 2 cX6_behindKnock RX6) (hnl : G.2.2.2.2.2.2.2.2.2.2.2.2.2 = 7) {rv : Int32} {hv : HH} (E : Endd K G (some .int) (some (.int rv)) hv) {x0 : Nat} {x1 : Int32} {x2 : Int32} {k8_69 : Int32 → Int32 → HH → Option (Int32 × HH)}  (Hk8_69 : ∀ (x3 : Int32) (x4 : Int32) (h : HH), k8_69 x3 x4 h = some (rv, hv) → At K G 69 [(0, .ref (K.2.1 x0)), (3, .int x3), (4, .int x4)] [] h) (kx0 : isK 6 x0) : ∀ (self8 : Int32 → Int32 → Int32 → HH → Option (Int32 × HH)), (∀ (x3 : Int32) (x4 : Int32) (x5 : Int32) (h : HH), self8 x3 x4 x5 h = some (rv, hv) → At K G 8 [(0, .ref (K.2.1 x0)), (1, .int x1), (2, .int x2), (3, .int x3), (4, .int x4), (5, .int x5)] [] h) → ∀ (x3 : Int32) (x4 : Int32) (x5 : Int32) (h : HH), fX6_behindKnock_L8 k8_69 x0 x1 x2 self8 x3 x4 x5 h = some (rv, hv) → At K G 8 [(0, .ref (K.2.1 x0)), (1, .int x1), (2, .int x2), (3, .int x3), (4, .int x4), (5, .int x5)] [] h := by
  intro self8 Hself8 x3 x4 x5 h hf
  unfold fX6_behindKnock_L8 at hf
  refine A_iload C dX6_behindKnock_8 5 rfl 10 rfl ?_
  refine A_aload_n C dX6_behindKnock_10 (i := 0) rfl 0 rfl 11 rfl ?_
  refine gfRX6_59 C kx0 dX6_behindKnock_11 14 rfl ?_
  refine A_icmp_ge C dX6_behindKnock_14 69 (by decide) 17 rfl hf (fun c14 hf => ?_) (fun c14 hf => ?_)
  · refine A_sub [0, 3, 4] (lv' := [(0, .ref (K.2.1 x0)), (3, .int x3), (4, .int x4)]) rfl ?_
    exact Hk8_69 _ _ _ hf
  refine A_aload_n C dX6_behindKnock_17 (i := 0) rfl 0 rfl 18 rfl ?_
  refine gfRX6_18 C kx0 dX6_behindKnock_18 21 rfl ?_
  refine A_iload C dX6_behindKnock_21 5 rfl 23 rfl ?_
  refine A_iload_n C dX6_behindKnock_23 (i := 1) rfl 1 rfl 24 rfl ?_
  refine A_iconst (v := 2) C dX6_behindKnock_24 (by decide) 25 rfl ?_
  refine A_iload C dX6_behindKnock_25 5 rfl 27 rfl ?_
  refine A_imul C dX6_behindKnock_27 28 rfl ?_
  refine A_ishr C dX6_behindKnock_28 29 rfl ?_
  refine A_iconst (v := 3) C dX6_behindKnock_29 (by decide) 30 rfl ?_
  refine A_iand C dX6_behindKnock_30 31 rfl ?_
  refine A_iconst (v := 1) C dX6_behindKnock_31 (by decide) 32 rfl ?_
  refine A_iadd C dX6_behindKnock_32 33 rfl ?_
  refine A_iload_n C dX6_behindKnock_33 (i := 2) rfl 2 rfl 34 rfl ?_
  refine CSi C dX6_behindKnock_34 hf (fun _ _ e => mX6_place  e) lkRX6_67 (by decide) (by decide) rfl [.ref (K.2.1 (x0 + 3))] rfl (Nat.le_of_ble_eq_true rfl) 37 rfl (fun r34 h34 hf => ?_)
  refine A_iald C dX6_behindKnock_37 (of_6_2 kx0) hf 38 rfl (fun hf => ?_)
  refine A_namI hf (fun y1 hf => ?_)
  refine A_istore C dX6_behindKnock_38 [(6, .int y1), (0, .ref (K.2.1 x0)), (1, .int x1), (2, .int x2), (3, .int x3), (4, .int x4), (5, .int x5)] (lt_nl hnl (by decide)) rfl 40 rfl ?_
  refine A_iload C dX6_behindKnock_40 0 rfl 42 rfl ?_
  refine A_if_ne C dX6_behindKnock_42 51 (by decide) 45 rfl hf (fun c42 hf => ?_) (fun c42 hf => ?_)
  · refine A_iload_n C dX6_behindKnock_51 (i := 3) rfl 4 rfl 52 rfl ?_
    refine A_iload C dX6_behindKnock_52 0 rfl 54 rfl ?_
    refine A_iconst (v := 1) C dX6_behindKnock_54 (by decide) 55 rfl ?_
    refine A_isub C dX6_behindKnock_55 56 rfl ?_
    refine A_iconst (v := 2) C dX6_behindKnock_56 (by decide) 57 rfl ?_
    refine A_iload C dX6_behindKnock_57 6 rfl 59 rfl ?_
    refine A_imul C dX6_behindKnock_59 60 rfl ?_
    refine A_ishl C dX6_behindKnock_60 61 rfl ?_
    refine A_ior C dX6_behindKnock_61 62 rfl ?_
    refine A_namI hf (fun y2 hf => ?_)
    refine A_istore_n C dX6_behindKnock_62 (i := 3) rfl [(3, .int y2), (6, .int y1), (0, .ref (K.2.1 x0)), (1, .int x1), (2, .int x2), (4, .int x4), (5, .int x5)] (lt_nl hnl (by decide)) rfl 63 rfl ?_
    refine A_iinc (v := (x5 + 1)) C dX6_behindKnock_63 6 rfl rfl [(5, .int (x5 + 1)), (3, .int y2), (6, .int y1), (0, .ref (K.2.1 x0)), (1, .int x1), (2, .int x2), (4, .int x4)] (lt_nl hnl (by decide)) rfl 66 rfl ?_
    refine A_goto C dX6_behindKnock_66 8 (by decide) ?_
    refine A_sub [3, 4, 5, 1, 6, 0] (lv' := [(0, .ref (K.2.1 x0)), (1, .int x1), (2, .int x2), (3, .int y2), (4, .int x4), (5, .int (x5 + 1))]) rfl ?_
    exact Hself8 _ _ _ _ hf
  refine A_iinc (v := (x4 + 1)) C dX6_behindKnock_45 5 rfl rfl [(4, .int (x4 + 1)), (6, .int y1), (0, .ref (K.2.1 x0)), (1, .int x1), (2, .int x2), (3, .int x3), (5, .int x5)] (lt_nl hnl (by decide)) rfl 48 rfl ?_
  refine A_goto C dX6_behindKnock_48 63 (by decide) ?_
  refine A_iinc (v := (x5 + 1)) C dX6_behindKnock_63 6 rfl rfl [(5, .int (x5 + 1)), (4, .int (x4 + 1)), (6, .int y1), (0, .ref (K.2.1 x0)), (1, .int x1), (2, .int x2), (3, .int x3)] (lt_nl hnl (by decide)) rfl 66 rfl ?_
  refine A_goto C dX6_behindKnock_66 8 (by decide) ?_
  refine A_sub [3, 4, 5, 6, 1, 0] (lv' := [(0, .ref (K.2.1 x0)), (1, .int x1), (2, .int x2), (3, .int x3), (4, .int (x4 + 1)), (5, .int (x5 + 1))]) rfl ?_
  exact Hself8 _ _ _ _ hf
set_option maxRecDepth 20000 in
theorem mX6_behindKnock {K : KX} {x0 : Nat} {x1 : Int32} {x2 : Int32} (k0 : isK 6 x0) {h : HH} {rv : Int32} {hv : HH} (hf : fX6_behindKnock x0 x1 x2 h = some (rv, hv)) : MR K yX6_behindKnock cX6_behindKnock 7 (some .int) 2 [.ref (K.2.1 x0), .int x1, .int x2] h (some (.int rv)) hv := by
  refine MR_of (by decide) (Nat.le_of_ble_eq_true rfl) (fun G C E hnl => ?_)
  have C : Ok K G 2 cX6_behindKnock RX6 := C
  refine (show At K G 0 [(0, .ref (K.2.1 x0)), (1, .int x1), (2, .int x2)] [] h from ?_)
  unfold fX6_behindKnock at hf
  refine A_iconst (v := 0) C dX6_behindKnock_0 (by decide) 1 rfl ?_
  refine A_istore_n C dX6_behindKnock_1 (i := 3) rfl [(3, .int 0), (0, .ref (K.2.1 x0)), (1, .int x1), (2, .int x2)] (lt_nl hnl (by decide)) rfl 2 rfl ?_
  refine A_iconst (v := 0) C dX6_behindKnock_2 (by decide) 3 rfl ?_
  refine A_istore C dX6_behindKnock_3 [(4, .int 0), (3, .int 0), (0, .ref (K.2.1 x0)), (1, .int x1), (2, .int x2)] (lt_nl hnl (by decide)) rfl 5 rfl ?_
  refine A_iconst (v := 0) C dX6_behindKnock_5 (by decide) 6 rfl ?_
  refine A_istore C dX6_behindKnock_6 [(5, .int 0), (4, .int 0), (3, .int 0), (0, .ref (K.2.1 x0)), (1, .int x1), (2, .int x2)] (lt_nl hnl (by decide)) rfl 8 rfl ?_
  refine A_sub [3, 4, 5, 2, 1, 0] (lv' := [(0, .ref (K.2.1 x0)), (1, .int x1), (2, .int x2), (3, .int 0), (4, .int 0), (5, .int 0)]) rfl ?_
  refine lq3_at (wX6_behindKnock_L8 C hnl E (fun x3 x4 h hf => ?_) k0) FU _ _ _ _ hf
  refine A_iload C dX6_behindKnock_69 2 rfl 71 rfl ?_
  refine A_aload_n C dX6_behindKnock_71 (i := 0) rfl 0 rfl 72 rfl ?_
  refine gfRX6_59 C k0 dX6_behindKnock_72 75 rfl ?_
  refine A_icmp_ne C dX6_behindKnock_75 80 (by decide) 78 rfl hf (fun c75 hf => ?_) (fun c75 hf => ?_)
  · refine A_iload C dX6_behindKnock_80 2 rfl 82 rfl ?_
    refine A_if_le C dX6_behindKnock_82 90 (by decide) 85 rfl hf (fun c82 hf => ?_) (fun c82 hf => ?_)
    · refine A_iload_n C dX6_behindKnock_90 (i := 3) rfl 1 rfl 91 rfl ?_
      exact A_iret C dX6_behindKnock_91 E hf
    refine A_bipush (v := (-2)) C dX6_behindKnock_85 (by decide) 87 rfl ?_
    refine A_goto C dX6_behindKnock_87 91 (by decide) ?_
    exact A_iret C dX6_behindKnock_91 E hf
  refine A_iconst (v := (-1)) C dX6_behindKnock_78 (by decide) 79 rfl ?_
  exact A_iret C dX6_behindKnock_79 E hf
set_option maxRecDepth 20000 in
theorem wX6_trace_L5 {K : KX} {G : GX} (C : Ok K G 1 cX6_trace RX6) (hnl : G.2.2.2.2.2.2.2.2.2.2.2.2.2 = 6) {rv : Int32} {hv : HH} (E : Endd K G (some .int) (some (.int rv)) hv) {x0 : Nat} {x1 : Int32} {x2 : Int32} {k5_34 : Int32 → HH → Option (Int32 × HH)}  (Hk5_34 : ∀ (x3 : Int32) (h : HH), k5_34 x3 h = some (rv, hv) → At K G 34 [(0, .ref (K.2.1 x0)), (1, .int x1), (2, .int x2), (3, .int x3)] [] h) (kx0 : isK 6 x0) : ∀ (self5 : Int32 → Int32 → HH → Option (Int32 × HH)), (∀ (x3 : Int32) (x4 : Int32) (h : HH), self5 x3 x4 h = some (rv, hv) → At K G 5 [(0, .ref (K.2.1 x0)), (1, .int x1), (2, .int x2), (3, .int x3), (4, .int x4)] [] h) → ∀ (x3 : Int32) (x4 : Int32) (h : HH), fX6_trace_L5 k5_34 x0 x1 x2 self5 x3 x4 h = some (rv, hv) → At K G 5 [(0, .ref (K.2.1 x0)), (1, .int x1), (2, .int x2), (3, .int x3), (4, .int x4)] [] h := by
  intro self5 Hself5 x3 x4 h hf
  unfold fX6_trace_L5 at hf
  refine A_iload C dX6_trace_5 4 rfl 7 rfl ?_
  refine A_if_le C dX6_trace_7 34 (by decide) 10 rfl hf (fun c7 hf => ?_) (fun c7 hf => ?_)
  · refine A_sub [0, 1, 2, 3] (lv' := [(0, .ref (K.2.1 x0)), (1, .int x1), (2, .int x2), (3, .int x3)]) rfl ?_
    exact Hk5_34 _ _ hf
  refine A_iload_n C dX6_trace_10 (i := 3) rfl 3 rfl 11 rfl ?_
  refine A_aload_n C dX6_trace_11 (i := 0) rfl 0 rfl 12 rfl ?_
  refine gfRX6_9 C kx0 dX6_trace_12 15 rfl ?_
  refine A_alen (v := 20) C dX6_trace_15 (of_6_0 kx0) (by decide) (by decide) 16 rfl ?_
  refine A_icmp_ge C dX6_trace_16 34 (by decide) 19 rfl hf (fun c16 hf => ?_) (fun c16 hf => ?_)
  · refine A_sub [0, 1, 2, 3] (lv' := [(0, .ref (K.2.1 x0)), (1, .int x1), (2, .int x2), (3, .int x3)]) rfl ?_
    exact Hk5_34 _ _ hf
  refine A_iinc (v := (x3 + 1)) C dX6_trace_19 3 rfl rfl [(3, .int (x3 + 1)), (0, .ref (K.2.1 x0)), (1, .int x1), (2, .int x2), (4, .int x4)] (lt_nl hnl (by decide)) rfl 22 rfl ?_
  refine A_aload_n C dX6_trace_22 (i := 0) rfl 1 rfl 23 rfl ?_
  refine gfRX6_24 C kx0 dX6_trace_23 26 rfl ?_
  refine A_iload C dX6_trace_26 4 rfl 28 rfl ?_
  refine A_iald C dX6_trace_28 (of_6_4 kx0) hf 29 rfl (fun hf => ?_)
  refine A_namI hf (fun y1 hf => ?_)
  refine A_istore C dX6_trace_29 [(4, .int y1), (3, .int (x3 + 1)), (0, .ref (K.2.1 x0)), (1, .int x1), (2, .int x2)] (lt_nl hnl (by decide)) rfl 31 rfl ?_
  refine A_goto C dX6_trace_31 5 (by decide) ?_
  refine A_sub [2, 3, 4, 1, 0] (lv' := [(0, .ref (K.2.1 x0)), (1, .int x1), (2, .int x2), (3, .int (x3 + 1)), (4, .int y1)]) rfl ?_
  exact Hself5 _ _ _ hf
set_option maxRecDepth 20000 in
theorem wX6_trace_L51 {K : KX} {G : GX} (C : Ok K G 1 cX6_trace RX6) (hnl : G.2.2.2.2.2.2.2.2.2.2.2.2.2 = 6) {rv : Int32} {hv : HH} (E : Endd K G (some .int) (some (.int rv)) hv) {x0 : Nat} {x3 : Int32}   (kx0 : isK 6 x0) : ∀ (self51 : Int32 → Int32 → HH → Option (Int32 × HH)), (∀ (x4 : Int32) (x5 : Int32) (h : HH), self51 x4 x5 h = some (rv, hv) → At K G 51 [(0, .ref (K.2.1 x0)), (3, .int x3), (4, .int x4), (5, .int x5)] [] h) → ∀ (x4 : Int32) (x5 : Int32) (h : HH), fX6_trace_L51 x0 x3 self51 x4 x5 h = some (rv, hv) → At K G 51 [(0, .ref (K.2.1 x0)), (3, .int x3), (4, .int x4), (5, .int x5)] [] h := by
  intro self51 Hself51 x4 x5 h hf
  unfold fX6_trace_L51 at hf
  refine A_iload C dX6_trace_51 3 rfl 53 rfl ?_
  refine A_if_lt C dX6_trace_53 90 (by decide) 56 rfl hf (fun c53 hf => ?_) (fun c53 hf => ?_)
  · refine A_iload_n C dX6_trace_90 (i := 3) rfl 1 rfl 91 rfl ?_
    exact A_iret C dX6_trace_91 E hf
  refine A_iload C dX6_trace_56 2 rfl 58 rfl ?_
  refine A_if_le C dX6_trace_58 90 (by decide) 61 rfl hf (fun c58 hf => ?_) (fun c58 hf => ?_)
  · refine A_iload_n C dX6_trace_90 (i := 3) rfl 1 rfl 91 rfl ?_
    exact A_iret C dX6_trace_91 E hf
  refine A_aload_n C dX6_trace_61 (i := 0) rfl 0 rfl 62 rfl ?_
  refine gfRX6_9 C kx0 dX6_trace_62 65 rfl ?_
  refine A_iload C dX6_trace_65 3 rfl 67 rfl ?_
  refine A_aload_n C dX6_trace_67 (i := 0) rfl 0 rfl 68 rfl ?_
  refine gfRX6_27 C kx0 dX6_trace_68 71 rfl ?_
  refine A_iload C dX6_trace_71 2 rfl 73 rfl ?_
  refine A_iald C dX6_trace_73 (of_6_5 kx0) hf 74 rfl (fun hf => ?_)
  refine A_iast C dX6_trace_74 (of_6_0 kx0) hf 75 rfl (fun hf => ?_)
  refine A_aload_n C dX6_trace_75 (i := 0) rfl 0 rfl 76 rfl ?_
  refine gfRX6_24 C kx0 dX6_trace_76 79 rfl ?_
  refine A_iload C dX6_trace_79 2 rfl 81 rfl ?_
  refine A_iald C dX6_trace_81 (of_6_4 kx0) hf 82 rfl (fun hf => ?_)
  refine A_namI hf (fun y3 hf => ?_)
  refine A_istore C dX6_trace_82 [(4, .int y3), (0, .ref (K.2.1 x0)), (3, .int x3), (5, .int x5)] (lt_nl hnl (by decide)) rfl 84 rfl ?_
  refine A_iinc (v := (x5 + (-1))) C dX6_trace_84 3 rfl rfl [(5, .int (x5 + (-1))), (4, .int y3), (0, .ref (K.2.1 x0)), (3, .int x3)] (lt_nl hnl (by decide)) rfl 87 rfl ?_
  refine A_goto C dX6_trace_87 51 (by decide) ?_
  refine A_sub [2, 3, 1, 0] (lv' := [(0, .ref (K.2.1 x0)), (3, .int x3), (4, .int y3), (5, .int (x5 + (-1)))]) rfl ?_
  exact Hself51 _ _ _ hf
set_option maxRecDepth 20000 in
theorem mX6_trace {K : KX} {x0 : Nat} {x1 : Int32} {x2 : Int32} (k0 : isK 6 x0) {h : HH} {rv : Int32} {hv : HH} (hf : fX6_trace x0 x1 x2 h = some (rv, hv)) : MR K yX6_trace cX6_trace 6 (some .int) 1 [.ref (K.2.1 x0), .int x1, .int x2] h (some (.int rv)) hv := by
  refine MR_of (by decide) (Nat.le_of_ble_eq_true rfl) (fun G C E hnl => ?_)
  have C : Ok K G 1 cX6_trace RX6 := C
  refine (show At K G 0 [(0, .ref (K.2.1 x0)), (1, .int x1), (2, .int x2)] [] h from ?_)
  unfold fX6_trace at hf
  refine A_iconst (v := 1) C dX6_trace_0 (by decide) 1 rfl ?_
  refine A_istore_n C dX6_trace_1 (i := 3) rfl [(3, .int 1), (0, .ref (K.2.1 x0)), (1, .int x1), (2, .int x2)] (lt_nl hnl (by decide)) rfl 2 rfl ?_
  refine A_iload_n C dX6_trace_2 (i := 1) rfl 2 rfl 3 rfl ?_
  refine A_istore C dX6_trace_3 [(4, .int x1), (3, .int 1), (0, .ref (K.2.1 x0)), (1, .int x1), (2, .int x2)] (lt_nl hnl (by decide)) rfl 5 rfl ?_
  refine A_sub [2, 3, 4, 1, 0] (lv' := [(0, .ref (K.2.1 x0)), (1, .int x1), (2, .int x2), (3, .int 1), (4, .int x1)]) rfl ?_
  refine lq2_at (wX6_trace_L5 C hnl E (fun x3 h hf => ?_) k0) FU _ _ _ hf
  refine A_aload_n C dX6_trace_34 (i := 0) rfl 0 rfl 35 rfl ?_
  refine gfRX6_9 C k0 dX6_trace_35 38 rfl ?_
  refine A_iload_n C dX6_trace_38 (i := 3) rfl 3 rfl 39 rfl ?_
  refine A_iconst (v := 1) C dX6_trace_39 (by decide) 40 rfl ?_
  refine A_isub C dX6_trace_40 41 rfl ?_
  refine A_iload_n C dX6_trace_41 (i := 2) rfl 2 rfl 42 rfl ?_
  refine A_iast C dX6_trace_42 (of_6_0 k0) hf 43 rfl (fun hf => ?_)
  refine A_iload_n C dX6_trace_43 (i := 1) rfl 1 rfl 44 rfl ?_
  refine A_istore C dX6_trace_44 [(4, .int x1), (0, .ref (K.2.1 x0)), (1, .int x1), (2, .int x2), (3, .int x3)] (lt_nl hnl (by decide)) rfl 46 rfl ?_
  refine A_iload_n C dX6_trace_46 (i := 3) rfl 4 rfl 47 rfl ?_
  refine A_iconst (v := 2) C dX6_trace_47 (by decide) 48 rfl ?_
  refine A_isub C dX6_trace_48 49 rfl ?_
  refine A_namI hf (fun y2 hf => ?_)
  refine A_istore C dX6_trace_49 [(5, .int y2), (4, .int x1), (0, .ref (K.2.1 x0)), (1, .int x1), (2, .int x2), (3, .int x3)] (lt_nl hnl (by decide)) rfl 51 rfl ?_
  refine A_sub [2, 5, 1, 0] (lv' := [(0, .ref (K.2.1 x0)), (3, .int x3), (4, .int x1), (5, .int y2)]) rfl ?_
  refine lq2_at (wX6_trace_L51 C hnl E k0) FU _ _ _ hf
set_option maxRecDepth 20000 in
theorem wX6_seek_L55 {K : KX} {G : GX} (C : Ok K G 4 cX6_seek RX6) (hnl : G.2.2.2.2.2.2.2.2.2.2.2.2.2 = 7) {rv : Int32} {hv : HH} (E : Endd K G (some .int) (some (.int rv)) hv) {x0 : Nat} {x4 : Int32} {k55_115 : HH → Option (Int32 × HH)}  (Hk55_115 : ∀  (h : HH), k55_115  h = some (rv, hv) → At K G 115 [(0, .ref (K.2.1 x0)), (4, .int x4)] [] h) (kx0 : isK 6 x0) : ∀ (self55 : Int32 → HH → Option (Int32 × HH)), (∀ (x5 : Int32) (h : HH), self55 x5 h = some (rv, hv) → At K G 55 [(0, .ref (K.2.1 x0)), (4, .int x4), (5, .int x5)] [] h) → ∀ (x5 : Int32) (h : HH), fX6_seek_L55 k55_115 x0 x4 self55 x5 h = some (rv, hv) → At K G 55 [(0, .ref (K.2.1 x0)), (4, .int x4), (5, .int x5)] [] h := by
  intro self55 Hself55 x5 h hf
  unfold fX6_seek_L55 at hf
  refine A_iload C dX6_seek_55 2 rfl 57 rfl ?_
  refine A_bipush (v := 9) C dX6_seek_57 (by decide) 59 rfl ?_
  refine A_icmp_gt C dX6_seek_59 115 (by decide) 62 rfl hf (fun c59 hf => ?_) (fun c59 hf => ?_)
  · refine A_sub [0, 1] (lv' := [(0, .ref (K.2.1 x0)), (4, .int x4)]) rfl ?_
    exact Hk55_115 _ hf
  refine A_aload_n C dX6_seek_62 (i := 0) rfl 0 rfl 63 rfl ?_
  refine A_aload_n C dX6_seek_63 (i := 0) rfl 0 rfl 64 rfl ?_
  refine gfRX6_21 C kx0 dX6_seek_64 67 rfl ?_
  refine A_iload C dX6_seek_67 1 rfl 69 rfl ?_
  refine A_iald C dX6_seek_69 (of_6_3 kx0) hf 70 rfl (fun hf => ?_)
  refine A_iload C dX6_seek_70 2 rfl 72 rfl ?_
  refine CVi C dX6_seek_72 6 kx0 (by decide) (r := (RX6, TX6, 10)) rfl rfl hf (fun _ _ e => mX6_behindKnock kx0 e) lkRX6_52 (by decide) (by decide) rfl [] rfl (Nat.le_of_ble_eq_true rfl) 75 rfl (fun r72 h72 hf => ?_)
  refine A_istore C dX6_seek_75 [(6, .int r72), (0, .ref (K.2.1 x0)), (4, .int x4), (5, .int x5)] (lt_nl hnl (by decide)) rfl 77 rfl ?_
  refine A_iload C dX6_seek_77 0 rfl 79 rfl ?_
  refine A_iconst (v := (-1)) C dX6_seek_79 (by decide) 80 rfl ?_
  refine A_icmp_ne C dX6_seek_80 92 (by decide) 83 rfl hf (fun c80 hf => ?_) (fun c80 hf => ?_)
  · refine A_iload C dX6_seek_92 0 rfl 94 rfl ?_
    refine A_bipush (v := (-2)) C dX6_seek_94 (by decide) 96 rfl ?_
    refine A_icmp_eq C dX6_seek_96 109 (by decide) 99 rfl hf (fun c96 hf => ?_) (fun c96 hf => ?_)
    · refine A_iinc (v := (x5 + 1)) C dX6_seek_109 3 rfl rfl [(5, .int (x5 + 1)), (6, .int r72), (0, .ref (K.2.1 x0)), (4, .int x4)] (lt_nl hnl (by decide)) rfl 112 rfl ?_
      refine A_goto C dX6_seek_112 55 (by decide) ?_
      refine A_sub [2, 3, 0] (lv' := [(0, .ref (K.2.1 x0)), (4, .int x4), (5, .int (x5 + 1))]) rfl ?_
      exact Hself55 _ _ hf
    refine A_aload_n C dX6_seek_99 (i := 0) rfl 1 rfl 100 rfl ?_
    refine A_iload C dX6_seek_100 0 rfl 102 rfl ?_
    refine A_iload C dX6_seek_102 2 rfl 104 rfl ?_
    refine A_iload C dX6_seek_104 3 rfl 106 rfl ?_
    refine CVv C dX6_seek_106 6 kx0 (by decide) (r := (RX6, TX6, 10)) rfl rfl hf (fun _ e => mX6_enqueue kx0 e) lkRX6_44 (by decide) (by decide) rfl [] rfl (Nat.le_of_ble_eq_true rfl) 109 rfl (fun h106 hf => ?_)
    refine A_iinc (v := (x5 + 1)) C dX6_seek_109 3 rfl rfl [(5, .int (x5 + 1)), (6, .int r72), (0, .ref (K.2.1 x0)), (4, .int x4)] (lt_nl hnl (by decide)) rfl 112 rfl ?_
    refine A_goto C dX6_seek_112 55 (by decide) ?_
    refine A_sub [2, 3, 0] (lv' := [(0, .ref (K.2.1 x0)), (4, .int x4), (5, .int (x5 + 1))]) rfl ?_
    exact Hself55 _ _ hf
  refine A_aload_n C dX6_seek_83 (i := 0) rfl 1 rfl 84 rfl ?_
  refine A_iload C dX6_seek_84 2 rfl 86 rfl ?_
  refine A_iload C dX6_seek_86 3 rfl 88 rfl ?_
  refine CVi C dX6_seek_88 6 kx0 (by decide) (r := (RX6, TX6, 10)) rfl rfl hf (fun _ _ e => mX6_trace kx0 e) lkRX6_56 (by decide) (by decide) rfl [] rfl (Nat.le_of_ble_eq_true rfl) 91 rfl (fun r88 h88 hf => ?_)
  exact A_iret C dX6_seek_91 E hf
set_option maxRecDepth 20000 in
theorem wX6_seek_L35 {K : KX} {G : GX} (C : Ok K G 4 cX6_seek RX6) (hnl : G.2.2.2.2.2.2.2.2.2.2.2.2.2 = 7) {rv : Int32} {hv : HH} (E : Endd K G (some .int) (some (.int rv)) hv) {x0 : Nat}   (kx0 : isK 6 x0) : ∀ (self35 : Int32 → HH → Option (Int32 × HH)), (∀ (x4 : Int32) (h : HH), self35 x4 h = some (rv, hv) → At K G 35 [(0, .ref (K.2.1 x0)), (4, .int x4)] [] h) → ∀ (x4 : Int32) (h : HH), fX6_seek_L35 x0 self35 x4 h = some (rv, hv) → At K G 35 [(0, .ref (K.2.1 x0)), (4, .int x4)] [] h := by
  intro self35 Hself35 x4 h hf
  unfold fX6_seek_L35 at hf
  refine A_iload C dX6_seek_35 1 rfl 37 rfl ?_
  refine A_aload_n C dX6_seek_37 (i := 0) rfl 0 rfl 38 rfl ?_
  refine gfRX6_37 C kx0 dX6_seek_38 41 rfl ?_
  refine A_icmp_ge C dX6_seek_41 121 (by decide) 44 rfl hf (fun c41 hf => ?_) (fun c41 hf => ?_)
  · refine A_bipush (v := (-2)) C dX6_seek_121 (by decide) 123 rfl ?_
    exact A_iret C dX6_seek_123 E hf
  refine A_iload C dX6_seek_44 1 rfl 46 rfl ?_
  refine A_sipush (v := 1024) C dX6_seek_46 (by decide) 49 rfl ?_
  refine A_icmp_ge C dX6_seek_49 121 (by decide) 52 rfl hf (fun c49 hf => ?_) (fun c49 hf => ?_)
  · refine A_bipush (v := (-2)) C dX6_seek_121 (by decide) 123 rfl ?_
    exact A_iret C dX6_seek_123 E hf
  refine A_iconst (v := 1) C dX6_seek_52 (by decide) 53 rfl ?_
  refine A_istore C dX6_seek_53 [(5, .int 1), (0, .ref (K.2.1 x0)), (4, .int x4)] (lt_nl hnl (by decide)) rfl 55 rfl ?_
  refine A_sub [1, 2, 0] (lv' := [(0, .ref (K.2.1 x0)), (4, .int x4), (5, .int 1)]) rfl ?_
  refine lq1_at (wX6_seek_L55 C hnl E (fun  h hf => ?_) kx0) FU _ _ hf
  refine A_iinc (v := (x4 + 1)) C dX6_seek_115 1 rfl rfl [(4, .int (x4 + 1)), (0, .ref (K.2.1 x0))] (lt_nl hnl (by decide)) rfl 118 rfl ?_
  refine A_goto C dX6_seek_118 35 (by decide) ?_
  refine A_sub [1, 0] (lv' := [(0, .ref (K.2.1 x0)), (4, .int (x4 + 1))]) rfl ?_
  exact Hself35 _ _ hf
set_option maxRecDepth 20000 in
theorem mX6_seek {K : KX} {x0 : Nat} {x1 : Nat} {x2 : Nat} {x3 : Int32} (k0 : isK 6 x0) (k1 : isK 0 x1) (k2 : isK 2 x2) {h : HH} {rv : Int32} {hv : HH} (hf : fX6_seek x0 x1 x2 x3 h = some (rv, hv)) : MR K yX6_seek cX6_seek 7 (some .int) 4 [.ref (K.2.1 x0), .ref (K.2.1 x1), .ref (K.2.1 x2), .int x3] h (some (.int rv)) hv := by
  refine MR_of (by decide) (Nat.le_of_ble_eq_true rfl) (fun G C E hnl => ?_)
  have C : Ok K G 4 cX6_seek RX6 := C
  refine (show At K G 0 [(0, .ref (K.2.1 x0)), (1, .ref (K.2.1 x1)), (2, .ref (K.2.1 x2)), (3, .int x3)] [] h from ?_)
  unfold fX6_seek at hf
  refine A_aload_n C dX6_seek_0 (i := 0) rfl 0 rfl 1 rfl ?_
  refine A_dup C dX6_seek_1 rfl 2 rfl ?_
  refine gfRX6_33 C k0 dX6_seek_2 5 rfl ?_
  refine A_iconst (v := 1) C dX6_seek_5 (by decide) 6 rfl ?_
  refine A_iadd C dX6_seek_6 7 rfl ?_
  refine pfRX6_33 C k0 dX6_seek_7 10 rfl ?_
  refine A_aload_n C dX6_seek_10 (i := 0) rfl 0 rfl 11 rfl ?_
  refine A_iconst (v := 0) C dX6_seek_11 (by decide) 12 rfl ?_
  refine pfRX6_37 C k0 dX6_seek_12 15 rfl ?_
  refine A_namH hf (fun g1 hf => ?_)
  refine A_aload_n C dX6_seek_15 (i := 0) rfl 0 rfl 16 rfl ?_
  refine A_aload_n C dX6_seek_16 (i := 0) rfl 0 rfl 17 rfl ?_
  refine A_aload_n C dX6_seek_17 (i := 2) rfl 2 rfl 18 rfl ?_
  refine A_iload_n C dX6_seek_18 (i := 3) rfl 3 rfl 19 rfl ?_
  refine CVi C dX6_seek_19 6 k0 (by decide) (r := (RX6, TX6, 10)) rfl rfl hf (fun _ _ e => mX6_gather k0 k2 e) lkRX6_40 (by decide) (by decide) rfl [.ref (K.2.1 x0)] rfl (Nat.le_of_ble_eq_true rfl) 22 rfl (fun r19 h19 hf => ?_)
  refine A_iconst (v := (-1)) C dX6_seek_22 (by decide) 23 rfl ?_
  refine A_iconst (v := 0) C dX6_seek_23 (by decide) 24 rfl ?_
  refine CVv C dX6_seek_24 6 k0 (by decide) (r := (RX6, TX6, 10)) rfl rfl hf (fun _ e => mX6_enqueue k0 e) lkRX6_44 (by decide) (by decide) rfl [] rfl (Nat.le_of_ble_eq_true rfl) 27 rfl (fun h24 hf => ?_)
  refine A_aload_n C dX6_seek_27 (i := 0) rfl 0 rfl 28 rfl ?_
  refine A_aload_n C dX6_seek_28 (i := 1) rfl 1 rfl 29 rfl ?_
  refine CVv C dX6_seek_29 6 k0 (by decide) (r := (RX6, TX6, 10)) rfl rfl hf (fun _ e => mX6_tryKnocks k0 k1 e) lkRX6_48 (by decide) (by decide) rfl [] rfl (Nat.le_of_ble_eq_true rfl) 32 rfl (fun h29 hf => ?_)
  refine A_iconst (v := 0) C dX6_seek_32 (by decide) 33 rfl ?_
  refine A_istore C dX6_seek_33 [(4, .int 0), (0, .ref (K.2.1 x0)), (1, .ref (K.2.1 x1)), (2, .ref (K.2.1 x2)), (3, .int x3)] (lt_nl hnl (by decide)) rfl 35 rfl ?_
  refine A_sub [1, 0] (lv' := [(0, .ref (K.2.1 x0)), (4, .int 0)]) rfl ?_
  refine lq1_at (wX6_seek_L35 C hnl E k0) FU _ _ hf
