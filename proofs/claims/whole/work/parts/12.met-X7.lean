set_option maxRecDepth 20000 in
theorem mX7_at {K : KX} {x0 : Nat} {x1 : Int32} {x2 : Int32} (k0 : isK 7 x0) {h : HH} {rv : Int32} {hv : HH} (hf : fX7_at x0 x1 x2 h = some (rv, hv)) : MR K yX7_at cX7_at 4 (some .int) 1 [.ref (K.2.1 x0), .int x1, .int x2] h (some (.int rv)) hv := by
  refine MR_of (by decide) (Nat.le_of_ble_eq_true rfl) (fun G C E hnl => ?_)
  have C : Ok K G 1 cX7_at RX7 := C
  refine (show At K G 0 [(0, .ref (K.2.1 x0)), (1, .int x1), (2, .int x2)] [] h from ?_)
  unfold fX7_at at hf
  refine A_iload_n C dX7_at_0 (i := 1) rfl 1 rfl 1 rfl ?_
  refine A_if_lt C dX7_at_1 28 (by decide) 4 rfl hf (fun c1 hf => ?_) (fun c1 hf => ?_)
  · refine A_iconst (v := 0) C dX7_at_28 (by decide) 29 rfl ?_
    refine A_istore_n C dX7_at_29 (i := 3) rfl [(3, .int 0), (0, .ref (K.2.1 x0)), (1, .int x1), (2, .int x2)] (lt_nl hnl (by decide)) rfl 30 rfl ?_
    refine A_iload_n C dX7_at_30 (i := 3) rfl 0 rfl 31 rfl ?_
    refine T_if_eq C dX7_at_31 50 (by decide) (by decide) ?_
    refine A_iconst (v := 0) C dX7_at_50 (by decide) 51 rfl ?_
    exact A_iret C dX7_at_51 E hf
  refine A_iload_n C dX7_at_4 (i := 1) rfl 1 rfl 5 rfl ?_
  refine A_aload_n C dX7_at_5 (i := 0) rfl 0 rfl 6 rfl ?_
  refine gfRX7_26 C k0 dX7_at_6 9 rfl ?_
  refine A_icmp_ge C dX7_at_9 28 (by decide) 12 rfl hf (fun c9 hf => ?_) (fun c9 hf => ?_)
  · refine A_iconst (v := 0) C dX7_at_28 (by decide) 29 rfl ?_
    refine A_istore_n C dX7_at_29 (i := 3) rfl [(3, .int 0), (0, .ref (K.2.1 x0)), (1, .int x1), (2, .int x2)] (lt_nl hnl (by decide)) rfl 30 rfl ?_
    refine A_iload_n C dX7_at_30 (i := 3) rfl 0 rfl 31 rfl ?_
    refine T_if_eq C dX7_at_31 50 (by decide) (by decide) ?_
    refine A_iconst (v := 0) C dX7_at_50 (by decide) 51 rfl ?_
    exact A_iret C dX7_at_51 E hf
  refine A_iload_n C dX7_at_12 (i := 2) rfl 2 rfl 13 rfl ?_
  refine A_if_lt C dX7_at_13 28 (by decide) 16 rfl hf (fun c13 hf => ?_) (fun c13 hf => ?_)
  · refine A_iconst (v := 0) C dX7_at_28 (by decide) 29 rfl ?_
    refine A_istore_n C dX7_at_29 (i := 3) rfl [(3, .int 0), (0, .ref (K.2.1 x0)), (1, .int x1), (2, .int x2)] (lt_nl hnl (by decide)) rfl 30 rfl ?_
    refine A_iload_n C dX7_at_30 (i := 3) rfl 0 rfl 31 rfl ?_
    refine T_if_eq C dX7_at_31 50 (by decide) (by decide) ?_
    refine A_iconst (v := 0) C dX7_at_50 (by decide) 51 rfl ?_
    exact A_iret C dX7_at_51 E hf
  refine A_iload_n C dX7_at_16 (i := 2) rfl 2 rfl 17 rfl ?_
  refine A_aload_n C dX7_at_17 (i := 0) rfl 0 rfl 18 rfl ?_
  refine gfRX7_19 C k0 dX7_at_18 21 rfl ?_
  refine A_icmp_ge C dX7_at_21 28 (by decide) 24 rfl hf (fun c21 hf => ?_) (fun c21 hf => ?_)
  · refine A_iconst (v := 0) C dX7_at_28 (by decide) 29 rfl ?_
    refine A_istore_n C dX7_at_29 (i := 3) rfl [(3, .int 0), (0, .ref (K.2.1 x0)), (1, .int x1), (2, .int x2)] (lt_nl hnl (by decide)) rfl 30 rfl ?_
    refine A_iload_n C dX7_at_30 (i := 3) rfl 0 rfl 31 rfl ?_
    refine T_if_eq C dX7_at_31 50 (by decide) (by decide) ?_
    refine A_iconst (v := 0) C dX7_at_50 (by decide) 51 rfl ?_
    exact A_iret C dX7_at_51 E hf
  refine A_iconst (v := 1) C dX7_at_24 (by decide) 25 rfl ?_
  refine A_goto C dX7_at_25 29 (by decide) ?_
  refine A_istore_n C dX7_at_29 (i := 3) rfl [(3, .int 1), (0, .ref (K.2.1 x0)), (1, .int x1), (2, .int x2)] (lt_nl hnl (by decide)) rfl 30 rfl ?_
  refine A_iload_n C dX7_at_30 (i := 3) rfl 0 rfl 31 rfl ?_
  refine N_if_eq C dX7_at_31 50 (by decide) (by decide) 34 rfl ?_
  refine A_aload_n C dX7_at_34 (i := 0) rfl 1 rfl 35 rfl ?_
  refine gfRX7_22 C k0 dX7_at_35 38 rfl ?_
  refine A_iload_n C dX7_at_38 (i := 1) rfl 2 rfl 39 rfl ?_
  refine A_aload_n C dX7_at_39 (i := 0) rfl 1 rfl 40 rfl ?_
  refine gfRX7_19 C k0 dX7_at_40 43 rfl ?_
  refine A_imul C dX7_at_43 44 rfl ?_
  refine A_iload_n C dX7_at_44 (i := 2) rfl 3 rfl 45 rfl ?_
  refine A_iadd C dX7_at_45 46 rfl ?_
  refine A_iald C dX7_at_46 (of_7_2 k0) hf 47 rfl (fun hf => ?_)
  refine A_goto C dX7_at_47 51 (by decide) ?_
  exact A_iret C dX7_at_51 E hf
set_option maxRecDepth 20000 in
theorem mX7_putAt {K : KX} {x0 : Nat} {x1 : Int32} {x2 : Int32} {x3 : Int32} (k0 : isK 7 x0) {h : HH} {rv : HH} (hf : fX7_putAt x0 x1 x2 x3 h = some rv) : MR K yX7_putAt cX7_putAt 4 none 1 [.ref (K.2.1 x0), .int x1, .int x2, .int x3] h none rv := by
  refine MR_of (by decide) (Nat.le_of_ble_eq_true rfl) (fun G C E hnl => ?_)
  have C : Ok K G 1 cX7_putAt RX7 := C
  refine (show At K G 0 [(0, .ref (K.2.1 x0)), (1, .int x1), (2, .int x2), (3, .int x3)] [] h from ?_)
  unfold fX7_putAt at hf
  refine A_iload_n C dX7_putAt_0 (i := 1) rfl 1 rfl 1 rfl ?_
  refine A_if_lt C dX7_putAt_1 38 (by decide) 4 rfl hf (fun c1 hf => ?_) (fun c1 hf => ?_)
  · exact A_vret C dX7_putAt_38 E hf
  refine A_iload_n C dX7_putAt_4 (i := 1) rfl 1 rfl 5 rfl ?_
  refine A_aload_n C dX7_putAt_5 (i := 0) rfl 0 rfl 6 rfl ?_
  refine gfRX7_26 C k0 dX7_putAt_6 9 rfl ?_
  refine A_icmp_ge C dX7_putAt_9 38 (by decide) 12 rfl hf (fun c9 hf => ?_) (fun c9 hf => ?_)
  · exact A_vret C dX7_putAt_38 E hf
  refine A_iload_n C dX7_putAt_12 (i := 2) rfl 2 rfl 13 rfl ?_
  refine A_if_lt C dX7_putAt_13 38 (by decide) 16 rfl hf (fun c13 hf => ?_) (fun c13 hf => ?_)
  · exact A_vret C dX7_putAt_38 E hf
  refine A_iload_n C dX7_putAt_16 (i := 2) rfl 2 rfl 17 rfl ?_
  refine A_aload_n C dX7_putAt_17 (i := 0) rfl 0 rfl 18 rfl ?_
  refine gfRX7_19 C k0 dX7_putAt_18 21 rfl ?_
  refine A_icmp_ge C dX7_putAt_21 38 (by decide) 24 rfl hf (fun c21 hf => ?_) (fun c21 hf => ?_)
  · exact A_vret C dX7_putAt_38 E hf
  refine A_aload_n C dX7_putAt_24 (i := 0) rfl 0 rfl 25 rfl ?_
  refine gfRX7_22 C k0 dX7_putAt_25 28 rfl ?_
  refine A_iload_n C dX7_putAt_28 (i := 1) rfl 1 rfl 29 rfl ?_
  refine A_aload_n C dX7_putAt_29 (i := 0) rfl 0 rfl 30 rfl ?_
  refine gfRX7_19 C k0 dX7_putAt_30 33 rfl ?_
  refine A_imul C dX7_putAt_33 34 rfl ?_
  refine A_iload_n C dX7_putAt_34 (i := 2) rfl 2 rfl 35 rfl ?_
  refine A_iadd C dX7_putAt_35 36 rfl ?_
  refine A_iload_n C dX7_putAt_36 (i := 3) rfl 3 rfl 37 rfl ?_
  refine A_iast C dX7_putAt_37 (of_7_2 k0) hf 38 rfl (fun hf => ?_)
  exact A_vret C dX7_putAt_38 E hf
set_option maxRecDepth 20000 in
theorem mX7_isFull {K : KX} {x0 : Nat} (k0 : isK 7 x0) {h : HH} {rv : Bool} {hv : HH} (hf : fX7_isFull x0 h = some (rv, hv)) : MR K yX7_isFull cX7_isFull 1 (some .boolean) 1 [.ref (K.2.1 x0)] h (some (.int (b2i rv))) hv := by
  refine MR_of (by decide) (Nat.le_of_ble_eq_true rfl) (fun G C E hnl => ?_)
  have C : Ok K G 1 cX7_isFull RX7 := C
  refine (show At K G 0 [(0, .ref (K.2.1 x0))] [] h from ?_)
  unfold fX7_isFull at hf
  refine A_aload_n C dX7_isFull_0 (i := 0) rfl 0 rfl 1 rfl ?_
  refine gfRX7_26 C k0 dX7_isFull_1 4 rfl ?_
  refine A_aload_n C dX7_isFull_4 (i := 0) rfl 0 rfl 5 rfl ?_
  refine gfRX7_13 C k0 dX7_isFull_5 8 rfl ?_
  refine A_icmp_lt C dX7_isFull_8 15 (by decide) 11 rfl hf (fun c8 hf => ?_) (fun c8 hf => ?_)
  · refine A_iconst (v := 0) C dX7_isFull_15 (by decide) 16 rfl ?_
    exact A_zret (x := false) C dX7_isFull_16 E hf
  refine A_iconst (v := 1) C dX7_isFull_11 (by decide) 12 rfl ?_
  refine A_goto C dX7_isFull_12 16 (by decide) ?_
  exact A_zret (x := true) C dX7_isFull_16 E hf
set_option maxRecDepth 20000 in
theorem mX7_put {K : KX} {x0 : Nat} {x1 : Int32} {x2 : Int32} (k0 : isK 7 x0) {h : HH} {rv : HH} (hf : fX7_put x0 x1 x2 h = some rv) : MR K yX7_put cX7_put 3 none 2 [.ref (K.2.1 x0), .int x1, .int x2] h none rv := by
  refine MR_of (by decide) (Nat.le_of_ble_eq_true rfl) (fun G C E hnl => ?_)
  have C : Ok K G 2 cX7_put RX7 := C
  refine (show At K G 0 [(0, .ref (K.2.1 x0)), (1, .int x1), (2, .int x2)] [] h from ?_)
  unfold fX7_put at hf
  refine A_aload_n C dX7_put_0 (i := 0) rfl 0 rfl 1 rfl ?_
  refine A_aload_n C dX7_put_1 (i := 0) rfl 0 rfl 2 rfl ?_
  refine gfRX7_26 C k0 dX7_put_2 5 rfl ?_
  refine A_iconst (v := 1) C dX7_put_5 (by decide) 6 rfl ?_
  refine A_isub C dX7_put_6 7 rfl ?_
  refine A_iload_n C dX7_put_7 (i := 1) rfl 1 rfl 8 rfl ?_
  refine A_iload_n C dX7_put_8 (i := 2) rfl 2 rfl 9 rfl ?_
  refine CVv C dX7_put_9 7 k0 (by decide) (r := (RX7, TX7, 4)) rfl rfl hf (fun _ e => mX7_putAt k0 e) lkRX7_37 (by decide) (by decide) rfl [] rfl (Nat.le_of_ble_eq_true rfl) 12 rfl (fun h9 hf => ?_)
  exact A_vret C dX7_put_12 E hf
set_option maxRecDepth 20000 in
theorem wX7_add_L19 {K : KX} {G : GX} (C : Ok K G 3 cX7_add RX7) (hnl : G.2.2.2.2.2.2.2.2.2.2.2.2.2 = 2) {rv : HH} (E : Endd K G none none rv) {x0 : Nat}   (kx0 : isK 7 x0) : ∀ (self19 : Int32 → HH → Option (HH)), (∀ (x1 : Int32) (h : HH), self19 x1 h = some rv → At K G 19 [(0, .ref (K.2.1 x0)), (1, .int x1)] [] h) → ∀ (x1 : Int32) (h : HH), fX7_add_L19 x0 self19 x1 h = some rv → At K G 19 [(0, .ref (K.2.1 x0)), (1, .int x1)] [] h := by
  intro self19 Hself19 x1 h hf
  unfold fX7_add_L19 at hf
  refine A_iload_n C dX7_add_19 (i := 1) rfl 1 rfl 20 rfl ?_
  refine A_aload_n C dX7_add_20 (i := 0) rfl 0 rfl 21 rfl ?_
  refine gfRX7_19 C kx0 dX7_add_21 24 rfl ?_
  refine A_icmp_ge C dX7_add_24 39 (by decide) 27 rfl hf (fun c24 hf => ?_) (fun c24 hf => ?_)
  · exact A_vret C dX7_add_39 E hf
  refine A_aload_n C dX7_add_27 (i := 0) rfl 0 rfl 28 rfl ?_
  refine A_iload_n C dX7_add_28 (i := 1) rfl 1 rfl 29 rfl ?_
  refine A_iconst (v := 0) C dX7_add_29 (by decide) 30 rfl ?_
  refine CVv C dX7_add_30 7 kx0 (by decide) (r := (RX7, TX7, 4)) rfl rfl hf (fun _ e => mX7_put kx0 e) lkRX7_33 (by decide) (by decide) rfl [] rfl (Nat.le_of_ble_eq_true rfl) 33 rfl (fun h30 hf => ?_)
  refine A_iinc (v := (x1 + 1)) C dX7_add_33 1 rfl rfl [(1, .int (x1 + 1)), (0, .ref (K.2.1 x0))] (lt_nl hnl (by decide)) rfl 36 rfl ?_
  refine A_goto C dX7_add_36 19 (by decide) ?_
  refine A_sub [1, 0] (lv' := [(0, .ref (K.2.1 x0)), (1, .int (x1 + 1))]) rfl ?_
  exact Hself19 _ _ hf
set_option maxRecDepth 20000 in
theorem mX7_add {K : KX} {x0 : Nat} (k0 : isK 7 x0) {h : HH} {rv : HH} (hf : fX7_add x0 h = some rv) : MR K yX7_add cX7_add 2 none 3 [.ref (K.2.1 x0)] h none rv := by
  refine MR_of (by decide) (Nat.le_of_ble_eq_true rfl) (fun G C E hnl => ?_)
  have C : Ok K G 3 cX7_add RX7 := C
  refine (show At K G 0 [(0, .ref (K.2.1 x0))] [] h from ?_)
  unfold fX7_add at hf
  refine A_aload_n C dX7_add_0 (i := 0) rfl 0 rfl 1 rfl ?_
  refine CVz C dX7_add_1 7 k0 (by decide) (r := (RX7, TX7, 4)) rfl rfl hf (fun _ _ e => mX7_isFull k0 e) lkRX7_29 (by decide) (by decide) rfl [] rfl (Nat.le_of_ble_eq_true rfl) 4 rfl (fun r1 h1 hf => ?_)
  refine A_z_ne C dX7_add_4 39 (by decide) 7 rfl hf (fun c4 hf => ?_) (fun c4 hf => ?_)
  · exact A_vret C dX7_add_39 E hf
  refine A_aload_n C dX7_add_7 (i := 0) rfl 0 rfl 8 rfl ?_
  refine A_dup C dX7_add_8 rfl 9 rfl ?_
  refine gfRX7_26 C k0 dX7_add_9 12 rfl ?_
  refine A_iconst (v := 1) C dX7_add_12 (by decide) 13 rfl ?_
  refine A_iadd C dX7_add_13 14 rfl ?_
  refine pfRX7_26 C k0 dX7_add_14 17 rfl ?_
  refine A_iconst (v := 0) C dX7_add_17 (by decide) 18 rfl ?_
  refine A_istore_n C dX7_add_18 (i := 1) rfl [(1, .int 0), (0, .ref (K.2.1 x0))] (lt_nl hnl (by decide)) rfl 19 rfl ?_
  refine A_sub [1, 0] (lv' := [(0, .ref (K.2.1 x0)), (1, .int 0)]) rfl ?_
  refine lq1_at (wX7_add_L19 C hnl E k0) FU _ _ hf
