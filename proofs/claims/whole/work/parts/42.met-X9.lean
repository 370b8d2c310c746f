set_option maxRecDepth 20000 in
theorem mX9_thrown {K : KX} {x0 : Nat} (k0 : isK 9 x0) {h : HH} {rv : Int32} {hv : HH} (hf : fX9_thrown x0 h = some (rv, hv)) : MR K yX9_thrown cX9_thrown 1 (some .int) 1 [.ref (K.2.1 x0)] h (some (.int rv)) hv := by
  refine MR_of (by decide) (Nat.le_of_ble_eq_true rfl) (fun G C E hnl => ?_)
  have C : Ok K G 1 cX9_thrown RX9 := C
  refine (show At K G 0 [(0, .ref (K.2.1 x0))] [] h from ?_)
  unfold fX9_thrown at hf
  refine A_aload_n C dX9_thrown_0 (i := 0) rfl 0 rfl 1 rfl ?_
  refine gfRX9_72 C k0 dX9_thrown_1 4 rfl ?_
  exact A_iret C dX9_thrown_4 E hf
set_option maxRecDepth 20000 in
theorem mX9_good {K : KX} {x0 : Nat} (k0 : isK 9 x0) {h : HH} {rv : HH} (hf : fX9_good x0 h = some rv) : MR K yX9_good cX9_good 1 none 1 [.ref (K.2.1 x0)] h none rv := by
  refine MR_of (by decide) (Nat.le_of_ble_eq_true rfl) (fun G C E hnl => ?_)
  have C : Ok K G 1 cX9_good RX9 := C
  refine (show At K G 0 [(0, .ref (K.2.1 x0))] [] h from ?_)
  unfold fX9_good at hf
  refine A_aload_n C dX9_good_0 (i := 0) rfl 0 rfl 1 rfl ?_
  refine A_iconst (v := 0) C dX9_good_1 (by decide) 2 rfl ?_
  refine pfRX9_72 C k0 dX9_good_2 5 rfl ?_
  refine A_aload_n C dX9_good_5 (i := 0) rfl 0 rfl 6 rfl ?_
  refine A_iconst (v := 0) C dX9_good_6 (by decide) 7 rfl ?_
  refine pfRX9_75 C k0 dX9_good_7 10 rfl ?_
  refine A_namH hf (fun g1 hf => ?_)
  exact A_vret C dX9_good_10 E hf
set_option maxRecDepth 20000 in
theorem mX9_no {K : KX} {x0 : Nat} {x1 : Int32} (k0 : isK 9 x0) {h : HH} {rv : Int32} {hv : HH} (hf : fX9_no x0 x1 h = some (rv, hv)) : MR K yX9_no cX9_no 2 (some .int) 1 [.ref (K.2.1 x0), .int x1] h (some (.int rv)) hv := by
  refine MR_of (by decide) (Nat.le_of_ble_eq_true rfl) (fun G C E hnl => ?_)
  have C : Ok K G 1 cX9_no RX9 := C
  refine (show At K G 0 [(0, .ref (K.2.1 x0)), (1, .int x1)] [] h from ?_)
  unfold fX9_no at hf
  refine A_aload_n C dX9_no_0 (i := 0) rfl 0 rfl 1 rfl ?_
  refine A_iload_n C dX9_no_1 (i := 1) rfl 1 rfl 2 rfl ?_
  refine pfRX9_75 C k0 dX9_no_2 5 rfl ?_
  refine A_iconst (v := (-1)) C dX9_no_5 (by decide) 6 rfl ?_
  exact A_iret C dX9_no_6 E hf
set_option maxRecDepth 20000 in
theorem mX9_isNot {K : KX} {x0 : Nat} {x1 : Int32} (k0 : isK 9 x0) {h : HH} {rv : Bool} {hv : HH} (hf : fX9_isNot x0 x1 h = some (rv, hv)) : MR K yX9_isNot cX9_isNot 2 (some .boolean) 1 [.ref (K.2.1 x0), .int x1] h (some (.int (b2i rv))) hv := by
  refine MR_of (by decide) (Nat.le_of_ble_eq_true rfl) (fun G C E hnl => ?_)
  have C : Ok K G 1 cX9_isNot RX9 := C
  refine (show At K G 0 [(0, .ref (K.2.1 x0)), (1, .int x1)] [] h from ?_)
  unfold fX9_isNot at hf
  refine A_aload_n C dX9_isNot_0 (i := 0) rfl 0 rfl 1 rfl ?_
  refine A_iload_n C dX9_isNot_1 (i := 1) rfl 1 rfl 2 rfl ?_
  refine pfRX9_75 C k0 dX9_isNot_2 5 rfl ?_
  refine A_iconst (v := 0) C dX9_isNot_5 (by decide) 6 rfl ?_
  exact A_zret (x := false) C dX9_isNot_6 E hf
set_option maxRecDepth 20000 in
theorem mX9_within {K : KX} {x0 : Int32} {x1 : Int32} {x2 : Int32}  {h : HH} {rv : Bool} {hv : HH} (hf : fX9_within x0 x1 x2 h = some (rv, hv)) : MR K yX9_within cX9_within 3 (some .boolean) 1 [.int x0, .int x1, .int x2] h (some (.int (b2i rv))) hv := by
  refine MR_of (by decide) (Nat.le_of_ble_eq_true rfl) (fun G C E hnl => ?_)
  have C : Ok K G 1 cX9_within RX9 := C
  refine (show At K G 0 [(0, .int x0), (1, .int x1), (2, .int x2)] [] h from ?_)
  unfold fX9_within at hf
  refine A_iload_n C dX9_within_0 (i := 0) rfl 0 rfl 1 rfl ?_
  refine A_iload_n C dX9_within_1 (i := 1) rfl 1 rfl 2 rfl ?_
  refine A_icmp_lt C dX9_within_2 14 (by decide) 5 rfl hf (fun c2 hf => ?_) (fun c2 hf => ?_)
  · refine A_iconst (v := 0) C dX9_within_14 (by decide) 15 rfl ?_
    exact A_zret (x := false) C dX9_within_15 E hf
  refine A_iload_n C dX9_within_5 (i := 0) rfl 0 rfl 6 rfl ?_
  refine A_iload_n C dX9_within_6 (i := 2) rfl 2 rfl 7 rfl ?_
  refine A_icmp_gt C dX9_within_7 14 (by decide) 10 rfl hf (fun c7 hf => ?_) (fun c7 hf => ?_)
  · refine A_iconst (v := 0) C dX9_within_14 (by decide) 15 rfl ?_
    exact A_zret (x := false) C dX9_within_15 E hf
  refine A_iconst (v := 1) C dX9_within_10 (by decide) 11 rfl ?_
  refine A_goto C dX9_within_11 15 (by decide) ?_
  exact A_zret (x := true) C dX9_within_15 E hf
set_option maxRecDepth 20000 in
theorem mX9_hasBit {K : KX} {x0 : Int32} {x1 : Int32}  {h : HH} {rv : Bool} {hv : HH} (hf : fX9_hasBit x0 x1 h = some (rv, hv)) : MR K yX9_hasBit cX9_hasBit 2 (some .boolean) 1 [.int x0, .int x1] h (some (.int (b2i rv))) hv := by
  refine MR_of (by decide) (Nat.le_of_ble_eq_true rfl) (fun G C E hnl => ?_)
  have C : Ok K G 1 cX9_hasBit RX9 := C
  refine (show At K G 0 [(0, .int x0), (1, .int x1)] [] h from ?_)
  unfold fX9_hasBit at hf
  refine A_iload_n C dX9_hasBit_0 (i := 0) rfl 0 rfl 1 rfl ?_
  refine A_iload_n C dX9_hasBit_1 (i := 1) rfl 1 rfl 2 rfl ?_
  refine A_ishr C dX9_hasBit_2 3 rfl ?_
  refine A_iconst (v := 1) C dX9_hasBit_3 (by decide) 4 rfl ?_
  refine A_iand C dX9_hasBit_4 5 rfl ?_
  refine A_iconst (v := 1) C dX9_hasBit_5 (by decide) 6 rfl ?_
  refine A_icmp_ne C dX9_hasBit_6 13 (by decide) 9 rfl hf (fun c6 hf => ?_) (fun c6 hf => ?_)
  · refine A_iconst (v := 0) C dX9_hasBit_13 (by decide) 14 rfl ?_
    exact A_zret (x := false) C dX9_hasBit_14 E hf
  refine A_iconst (v := 1) C dX9_hasBit_9 (by decide) 10 rfl ?_
  refine A_goto C dX9_hasBit_10 14 (by decide) ?_
  exact A_zret (x := true) C dX9_hasBit_14 E hf
set_option maxRecDepth 20000 in
theorem wX9_ones_L4 {K : KX} {G : GX} (C : Ok K G 1 cX9_ones RX9) (hnl : G.2.2.2.2.2.2.2.2.2.2.2.2.2 = 3) {rv : Int32} {hv : HH} (E : Endd K G (some .int) (some (.int rv)) hv) {x0 : Int32}    : ∀ (self4 : Int32 → Int32 → HH → Option (Int32 × HH)), (∀ (x1 : Int32) (x2 : Int32) (h : HH), self4 x1 x2 h = some (rv, hv) → At K G 4 [(0, .int x0), (1, .int x1), (2, .int x2)] [] h) → ∀ (x1 : Int32) (x2 : Int32) (h : HH), fX9_ones_L4 x0 self4 x1 x2 h = some (rv, hv) → At K G 4 [(0, .int x0), (1, .int x1), (2, .int x2)] [] h := by
  intro self4 Hself4 x1 x2 h hf
  unfold fX9_ones_L4 at hf
  refine A_iload_n C dX9_ones_4 (i := 2) rfl 2 rfl 5 rfl ?_
  refine A_iconst (v := 5) C dX9_ones_5 (by decide) 6 rfl ?_
  refine A_icmp_ge C dX9_ones_6 23 (by decide) 9 rfl hf (fun c6 hf => ?_) (fun c6 hf => ?_)
  · refine A_iload_n C dX9_ones_23 (i := 1) rfl 1 rfl 24 rfl ?_
    exact A_iret C dX9_ones_24 E hf
  refine A_iload_n C dX9_ones_9 (i := 1) rfl 1 rfl 10 rfl ?_
  refine A_iload_n C dX9_ones_10 (i := 0) rfl 0 rfl 11 rfl ?_
  refine A_iload_n C dX9_ones_11 (i := 2) rfl 2 rfl 12 rfl ?_
  refine A_ishr C dX9_ones_12 13 rfl ?_
  refine A_iconst (v := 1) C dX9_ones_13 (by decide) 14 rfl ?_
  refine A_iand C dX9_ones_14 15 rfl ?_
  refine A_iadd C dX9_ones_15 16 rfl ?_
  refine A_namI hf (fun y1 hf => ?_)
  refine A_istore_n C dX9_ones_16 (i := 1) rfl [(1, .int y1), (0, .int x0), (2, .int x2)] (lt_nl hnl (by decide)) rfl 17 rfl ?_
  refine A_iinc (v := (x2 + 1)) C dX9_ones_17 2 rfl rfl [(2, .int (x2 + 1)), (1, .int y1), (0, .int x0)] (lt_nl hnl (by decide)) rfl 20 rfl ?_
  refine A_goto C dX9_ones_20 4 (by decide) ?_
  refine A_sub [2, 1, 0] (lv' := [(0, .int x0), (1, .int y1), (2, .int (x2 + 1))]) rfl ?_
  exact Hself4 _ _ _ hf
set_option maxRecDepth 20000 in
theorem mX9_ones {K : KX} {x0 : Int32}  {h : HH} {rv : Int32} {hv : HH} (hf : fX9_ones x0 h = some (rv, hv)) : MR K yX9_ones cX9_ones 3 (some .int) 1 [.int x0] h (some (.int rv)) hv := by
  refine MR_of (by decide) (Nat.le_of_ble_eq_true rfl) (fun G C E hnl => ?_)
  have C : Ok K G 1 cX9_ones RX9 := C
  refine (show At K G 0 [(0, .int x0)] [] h from ?_)
  unfold fX9_ones at hf
  refine A_iconst (v := 0) C dX9_ones_0 (by decide) 1 rfl ?_
  refine A_istore_n C dX9_ones_1 (i := 1) rfl [(1, .int 0), (0, .int x0)] (lt_nl hnl (by decide)) rfl 2 rfl ?_
  refine A_iconst (v := 0) C dX9_ones_2 (by decide) 3 rfl ?_
  refine A_istore_n C dX9_ones_3 (i := 2) rfl [(2, .int 0), (1, .int 0), (0, .int x0)] (lt_nl hnl (by decide)) rfl 4 rfl ?_
  refine A_sub [2, 1, 0] (lv' := [(0, .int x0), (1, .int 0), (2, .int 0)]) rfl ?_
  refine lq2_at (wX9_ones_L4 C hnl E ) FU _ _ _ hf
set_option maxRecDepth 20000 in
theorem wX9_copy_L3 {K : KX} {G : GX} (C : Ok K G 1 cX9_copy RX9) (hnl : G.2.2.2.2.2.2.2.2.2.2.2.2.2 = 6) {rv : HH} (E : Endd K G none none rv) {x0 : Nat} {x1 : Int32} {x2 : Nat} {x3 : Int32} {x4 : Int32}   (kx0 : isK 11 x0) (kx2 : isK 11 x2) : ∀ (self3 : Int32 → HH → Option (HH)), (∀ (x5 : Int32) (h : HH), self3 x5 h = some rv → At K G 3 [(0, .ref (K.2.1 x0)), (1, .int x1), (2, .ref (K.2.1 x2)), (3, .int x3), (4, .int x4), (5, .int x5)] [] h) → ∀ (x5 : Int32) (h : HH), fX9_copy_L3 x0 x1 x2 x3 x4 self3 x5 h = some rv → At K G 3 [(0, .ref (K.2.1 x0)), (1, .int x1), (2, .ref (K.2.1 x2)), (3, .int x3), (4, .int x4), (5, .int x5)] [] h := by
  intro self3 Hself3 x5 h hf
  unfold fX9_copy_L3 at hf
  refine A_iload C dX9_copy_3 5 rfl 5 rfl ?_
  refine A_iload C dX9_copy_5 4 rfl 7 rfl ?_
  refine A_icmp_ge C dX9_copy_7 28 (by decide) 10 rfl hf (fun c7 hf => ?_) (fun c7 hf => ?_)
  · exact A_vret C dX9_copy_28 E hf
  refine A_aload_n C dX9_copy_10 (i := 2) rfl 2 rfl 11 rfl ?_
  refine A_iload_n C dX9_copy_11 (i := 3) rfl 3 rfl 12 rfl ?_
  refine A_iload C dX9_copy_12 5 rfl 14 rfl ?_
  refine A_iadd C dX9_copy_14 15 rfl ?_
  refine A_aload_n C dX9_copy_15 (i := 0) rfl 0 rfl 16 rfl ?_
  refine A_iload_n C dX9_copy_16 (i := 1) rfl 1 rfl 17 rfl ?_
  refine A_iload C dX9_copy_17 5 rfl 19 rfl ?_
  refine A_iadd C dX9_copy_19 20 rfl ?_
  refine A_iald C dX9_copy_20 (isA_of kx0) hf 21 rfl (fun hf => ?_)
  refine A_iast C dX9_copy_21 (isA_of kx2) hf 22 rfl (fun hf => ?_)
  refine A_iinc (v := (x5 + 1)) C dX9_copy_22 5 rfl rfl [(5, .int (x5 + 1)), (0, .ref (K.2.1 x0)), (1, .int x1), (2, .ref (K.2.1 x2)), (3, .int x3), (4, .int x4)] (lt_nl hnl (by decide)) rfl 25 rfl ?_
  refine A_goto C dX9_copy_25 3 (by decide) ?_
  refine A_sub [1, 2, 3, 4, 5, 0] (lv' := [(0, .ref (K.2.1 x0)), (1, .int x1), (2, .ref (K.2.1 x2)), (3, .int x3), (4, .int x4), (5, .int (x5 + 1))]) rfl ?_
  exact Hself3 _ _ hf
set_option maxRecDepth 20000 in
theorem mX9_copy {K : KX} {x0 : Nat} {x1 : Int32} {x2 : Nat} {x3 : Int32} {x4 : Int32} (k0 : isK 11 x0) (k2 : isK 11 x2) {h : HH} {rv : HH} (hf : fX9_copy x0 x1 x2 x3 x4 h = some rv) : MR K yX9_copy cX9_copy 6 none 1 [.ref (K.2.1 x0), .int x1, .ref (K.2.1 x2), .int x3, .int x4] h none rv := by
  refine MR_of (by decide) (Nat.le_of_ble_eq_true rfl) (fun G C E hnl => ?_)
  have C : Ok K G 1 cX9_copy RX9 := C
  refine (show At K G 0 [(0, .ref (K.2.1 x0)), (1, .int x1), (2, .ref (K.2.1 x2)), (3, .int x3), (4, .int x4)] [] h from ?_)
  unfold fX9_copy at hf
  refine A_iconst (v := 0) C dX9_copy_0 (by decide) 1 rfl ?_
  refine A_istore C dX9_copy_1 [(5, .int 0), (0, .ref (K.2.1 x0)), (1, .int x1), (2, .ref (K.2.1 x2)), (3, .int x3), (4, .int x4)] (lt_nl hnl (by decide)) rfl 3 rfl ?_
  refine A_sub [1, 2, 3, 4, 5, 0] (lv' := [(0, .ref (K.2.1 x0)), (1, .int x1), (2, .ref (K.2.1 x2)), (3, .int x3), (4, .int x4), (5, .int 0)]) rfl ?_
  refine lq1_at (wX9_copy_L3 C hnl E (isK_ofA (isA_of k0)) (isK_ofA (isA_of k2))) FU _ _ hf
set_option maxRecDepth 20000 in
theorem wX9_copyLongs_L3 {K : KX} {G : GX} (C : Ok K G 1 cX9_copyLongs RX9) (hnl : G.2.2.2.2.2.2.2.2.2.2.2.2.2 = 5) {rv : HH} (E : Endd K G none none rv) {x0 : Nat} {x1 : Int32} {x2 : Nat} {x3 : Int32}   (kx0 : isK 12 x0) (kx2 : isK 12 x2) : ∀ (self3 : Int32 → HH → Option (HH)), (∀ (x4 : Int32) (h : HH), self3 x4 h = some rv → At K G 3 [(0, .ref (K.2.1 x0)), (1, .int x1), (2, .ref (K.2.1 x2)), (3, .int x3), (4, .int x4)] [] h) → ∀ (x4 : Int32) (h : HH), fX9_copyLongs_L3 x0 x1 x2 x3 self3 x4 h = some rv → At K G 3 [(0, .ref (K.2.1 x0)), (1, .int x1), (2, .ref (K.2.1 x2)), (3, .int x3), (4, .int x4)] [] h := by
  intro self3 Hself3 x4 h hf
  unfold fX9_copyLongs_L3 at hf
  refine A_iload C dX9_copyLongs_3 4 rfl 5 rfl ?_
  refine A_bipush (v := 31) C dX9_copyLongs_5 (by decide) 7 rfl ?_
  refine A_icmp_ge C dX9_copyLongs_7 28 (by decide) 10 rfl hf (fun c7 hf => ?_) (fun c7 hf => ?_)
  · exact A_vret C dX9_copyLongs_28 E hf
  refine A_aload_n C dX9_copyLongs_10 (i := 2) rfl 2 rfl 11 rfl ?_
  refine A_iload_n C dX9_copyLongs_11 (i := 3) rfl 3 rfl 12 rfl ?_
  refine A_iload C dX9_copyLongs_12 4 rfl 14 rfl ?_
  refine A_iadd C dX9_copyLongs_14 15 rfl ?_
  refine A_aload_n C dX9_copyLongs_15 (i := 0) rfl 0 rfl 16 rfl ?_
  refine A_iload_n C dX9_copyLongs_16 (i := 1) rfl 1 rfl 17 rfl ?_
  refine A_iload C dX9_copyLongs_17 4 rfl 19 rfl ?_
  refine A_iadd C dX9_copyLongs_19 20 rfl ?_
  refine A_lald C dX9_copyLongs_20 (isA_of kx0) hf 21 rfl (fun hf => ?_)
  refine A_last C dX9_copyLongs_21 (isA_of kx2) hf 22 rfl (fun hf => ?_)
  refine A_iinc (v := (x4 + 1)) C dX9_copyLongs_22 4 rfl rfl [(4, .int (x4 + 1)), (0, .ref (K.2.1 x0)), (1, .int x1), (2, .ref (K.2.1 x2)), (3, .int x3)] (lt_nl hnl (by decide)) rfl 25 rfl ?_
  refine A_goto C dX9_copyLongs_25 3 (by decide) ?_
  refine A_sub [1, 2, 3, 4, 0] (lv' := [(0, .ref (K.2.1 x0)), (1, .int x1), (2, .ref (K.2.1 x2)), (3, .int x3), (4, .int (x4 + 1))]) rfl ?_
  exact Hself3 _ _ hf
set_option maxRecDepth 20000 in
theorem mX9_copyLongs {K : KX} {x0 : Nat} {x1 : Int32} {x2 : Nat} {x3 : Int32} (k0 : isK 12 x0) (k2 : isK 12 x2) {h : HH} {rv : HH} (hf : fX9_copyLongs x0 x1 x2 x3 h = some rv) : MR K yX9_copyLongs cX9_copyLongs 5 none 1 [.ref (K.2.1 x0), .int x1, .ref (K.2.1 x2), .int x3] h none rv := by
  refine MR_of (by decide) (Nat.le_of_ble_eq_true rfl) (fun G C E hnl => ?_)
  have C : Ok K G 1 cX9_copyLongs RX9 := C
  refine (show At K G 0 [(0, .ref (K.2.1 x0)), (1, .int x1), (2, .ref (K.2.1 x2)), (3, .int x3)] [] h from ?_)
  unfold fX9_copyLongs at hf
  refine A_iconst (v := 0) C dX9_copyLongs_0 (by decide) 1 rfl ?_
  refine A_istore C dX9_copyLongs_1 [(4, .int 0), (0, .ref (K.2.1 x0)), (1, .int x1), (2, .ref (K.2.1 x2)), (3, .int x3)] (lt_nl hnl (by decide)) rfl 3 rfl ?_
  refine A_sub [1, 2, 3, 4, 0] (lv' := [(0, .ref (K.2.1 x0)), (1, .int x1), (2, .ref (K.2.1 x2)), (3, .int x3), (4, .int 0)]) rfl ?_
  refine lq1_at (wX9_copyLongs_L3 C hnl E (isK_ofA (isA_of k0)) (isK_ofA (isA_of k2))) FU _ _ hf
set_option maxRecDepth 20000 in
theorem wX9_lowest_L6 {K : KX} {G : GX} (C : Ok K G 1 cX9_lowest RX9) (hnl : G.2.2.2.2.2.2.2.2.2.2.2.2.2 = 11) {rv : Int64} {hv : HH} (E : Endd K G (some .long) (some (.long rv)) hv) {x0 : Int64} {x2 : Int64} {x4 : Bool}    : ∀ (self6 : Int64 → Int64 → HH → Option (Int64 × HH)), (∀ (x5 : Int64) (x7 : Int64) (h : HH), self6 x5 x7 h = some (rv, hv) → At K G 6 [(0, .long x0), (2, .long x2), (4, .int (b2i x4)), (5, .long x5), (7, .long x7)] [] h) → ∀ (x5 : Int64) (x7 : Int64) (h : HH), fX9_lowest_L6 x0 x2 x4 self6 x5 x7 h = some (rv, hv) → At K G 6 [(0, .long x0), (2, .long x2), (4, .int (b2i x4)), (5, .long x5), (7, .long x7)] [] h := by
  intro self6 Hself6 x5 x7 h hf
  unfold fX9_lowest_L6 at hf
  refine A_lload C dX9_lowest_6 4 rfl 8 rfl ?_
  refine A_lconst (v := 0) C dX9_lowest_8 (by decide) 9 rfl ?_
  refine A_l_eq C dX9_lowest_9 dX9_lowest_10 31 (by decide) 13 rfl hf (fun c9 hf => ?_) (fun c9 hf => ?_)
  · refine A_iload C dX9_lowest_31 2 rfl 33 rfl ?_
    refine A_z_eq C dX9_lowest_33 40 (by decide) 36 rfl hf (fun c33 hf => ?_) (fun c33 hf => ?_)
    · refine A_lload_n C dX9_lowest_40 (i := 0) rfl 0 rfl 41 rfl ?_
      refine A_lload C dX9_lowest_41 3 rfl 43 rfl ?_
      refine A_ldivG C dX9_lowest_43 hf 44 rfl (fun hf => ?_)
      exact A_lret C dX9_lowest_44 E hf
    refine A_lload_n C dX9_lowest_36 (i := 2) rfl 1 rfl 37 rfl ?_
    refine A_goto C dX9_lowest_37 41 (by decide) ?_
    refine A_lload C dX9_lowest_41 3 rfl 43 rfl ?_
    refine A_ldivG C dX9_lowest_43 hf 44 rfl (fun hf => ?_)
    exact A_lret C dX9_lowest_44 E hf
  refine A_lload C dX9_lowest_13 3 rfl 15 rfl ?_
  refine A_lload C dX9_lowest_15 4 rfl 17 rfl ?_
  refine A_lremG C dX9_lowest_17 hf 18 rfl (fun hf => ?_)
  refine A_namL hf (fun y1 hf => ?_)
  refine A_lstore C dX9_lowest_18 [(9, .long y1), (0, .long x0), (2, .long x2), (4, .int (b2i x4)), (5, .long x5), (7, .long x7)] (lt_nl hnl (by decide)) rfl 20 rfl ?_
  refine A_lload C dX9_lowest_20 5 rfl 22 rfl ?_
  refine A_lstore C dX9_lowest_22 [(5, .long x7), (9, .long y1), (0, .long x0), (2, .long x2), (4, .int (b2i x4)), (7, .long x7)] (lt_nl hnl (by decide)) rfl 24 rfl ?_
  refine A_lload C dX9_lowest_24 1 rfl 26 rfl ?_
  refine A_lstore C dX9_lowest_26 [(7, .long y1), (5, .long x7), (9, .long y1), (0, .long x0), (2, .long x2), (4, .int (b2i x4))] (lt_nl hnl (by decide)) rfl 28 rfl ?_
  refine A_goto C dX9_lowest_28 6 (by decide) ?_
  refine A_sub [3, 4, 5, 1, 0] (lv' := [(0, .long x0), (2, .long x2), (4, .int (b2i x4)), (5, .long x7), (7, .long y1)]) rfl ?_
  exact Hself6 _ _ _ hf
set_option maxRecDepth 20000 in
theorem mX9_lowest {K : KX} {x0 : Int64} {x2 : Int64} {x4 : Bool}  {h : HH} {rv : Int64} {hv : HH} (hf : fX9_lowest x0 x2 x4 h = some (rv, hv)) : MR K yX9_lowest cX9_lowest 11 (some .long) 1 [.long x0, .long x2, .int (b2i x4)] h (some (.long rv)) hv := by
  refine MR_of (by decide) (Nat.le_of_ble_eq_true rfl) (fun G C E hnl => ?_)
  have C : Ok K G 1 cX9_lowest RX9 := C
  refine (show At K G 0 [(0, .long x0), (2, .long x2), (4, .int (b2i x4))] [] h from ?_)
  unfold fX9_lowest at hf
  refine A_lload_n C dX9_lowest_0 (i := 0) rfl 0 rfl 1 rfl ?_
  refine A_lstore C dX9_lowest_1 [(5, .long x0), (0, .long x0), (2, .long x2), (4, .int (b2i x4))] (lt_nl hnl (by decide)) rfl 3 rfl ?_
  refine A_lload_n C dX9_lowest_3 (i := 2) rfl 2 rfl 4 rfl ?_
  refine A_lstore C dX9_lowest_4 [(7, .long x2), (5, .long x0), (0, .long x0), (2, .long x2), (4, .int (b2i x4))] (lt_nl hnl (by decide)) rfl 6 rfl ?_
  refine A_sub [2, 3, 4, 1, 0] (lv' := [(0, .long x0), (2, .long x2), (4, .int (b2i x4)), (5, .long x0), (7, .long x2)]) rfl ?_
  refine lq2_at (wX9_lowest_L6 C hnl E ) FU _ _ _ hf
set_option maxRecDepth 20000 in
theorem wX9_feed_L23 {K : KX} {G : GX} (C : Ok K G 1 cX9_feed RX9) (hnl : G.2.2.2.2.2.2.2.2.2.2.2.2.2 = 8) {rv : Int32} {hv : HH} (E : Endd K G (some .int) (some (.int rv)) hv) {x0 : Nat} {x1 : Int32} {x2 : Int32} {x3 : Int32} {x4 : Int32} {x5 : Int32}   (kx0 : isK 9 x0) : ∀ (self23 : Int32 → HH → Option (Int32 × HH)), (∀ (x6 : Int32) (h : HH), self23 x6 h = some (rv, hv) → At K G 23 [(0, .ref (K.2.1 x0)), (1, .int x1), (2, .int x2), (3, .int x3), (4, .int x4), (5, .int x5), (6, .int x6)] [] h) → ∀ (x6 : Int32) (h : HH), fX9_feed_L23 x0 x1 x2 x3 x4 x5 self23 x6 h = some (rv, hv) → At K G 23 [(0, .ref (K.2.1 x0)), (1, .int x1), (2, .int x2), (3, .int x3), (4, .int x4), (5, .int x5), (6, .int x6)] [] h := by
  intro self23 Hself23 x6 h hf
  unfold fX9_feed_L23 at hf
  refine A_iload C dX9_feed_23 6 rfl 25 rfl ?_
  refine A_bipush (v := 20) C dX9_feed_25 (by decide) 27 rfl ?_
  refine A_icmp_ge C dX9_feed_27 120 (by decide) 30 rfl hf (fun c27 hf => ?_) (fun c27 hf => ?_)
  · refine A_aload_n C dX9_feed_120 (i := 0) rfl 0 rfl 121 rfl ?_
    refine gfRX9_78 C kx0 dX9_feed_121 124 rfl ?_
    exact A_iret C dX9_feed_124 E hf
  refine A_iload C dX9_feed_30 6 rfl 32 rfl ?_
  refine A_iconst (v := 4) C dX9_feed_32 (by decide) 33 rfl ?_
  refine A_icmp_ge C dX9_feed_33 40 (by decide) 36 rfl hf (fun c33 hf => ?_) (fun c33 hf => ?_)
  · refine A_iload C dX9_feed_40 6 rfl 42 rfl ?_
    refine A_bipush (v := 8) C dX9_feed_42 (by decide) 44 rfl ?_
    refine A_icmp_ge C dX9_feed_44 51 (by decide) 47 rfl hf (fun c44 hf => ?_) (fun c44 hf => ?_)
    · refine A_iload C dX9_feed_51 6 rfl 53 rfl ?_
      refine A_bipush (v := 12) C dX9_feed_53 (by decide) 55 rfl ?_
      refine A_icmp_ge C dX9_feed_55 62 (by decide) 58 rfl hf (fun c55 hf => ?_) (fun c55 hf => ?_)
      · refine A_iload C dX9_feed_62 6 rfl 64 rfl ?_
        refine A_bipush (v := 16) C dX9_feed_64 (by decide) 66 rfl ?_
        refine A_icmp_ge C dX9_feed_66 74 (by decide) 69 rfl hf (fun c66 hf => ?_) (fun c66 hf => ?_)
        · refine A_iload C dX9_feed_74 5 rfl 76 rfl ?_
          refine A_istore C dX9_feed_76 [(7, .int x5), (0, .ref (K.2.1 x0)), (1, .int x1), (2, .int x2), (3, .int x3), (4, .int x4), (5, .int x5), (6, .int x6)] (lt_nl hnl (by decide)) rfl 78 rfl ?_
          refine A_aload_n C dX9_feed_78 (i := 0) rfl 1 rfl 79 rfl ?_
          refine gfRX9_7 C kx0 dX9_feed_79 82 rfl ?_
          refine A_aload_n C dX9_feed_82 (i := 0) rfl 1 rfl 83 rfl ?_
          refine gfRX9_78 C kx0 dX9_feed_83 86 rfl ?_
          refine A_iload C dX9_feed_86 0 rfl 88 rfl ?_
          refine A_bipush (v := 24) C dX9_feed_88 (by decide) 90 rfl ?_
          refine A_bipush (v := 8) C dX9_feed_90 (by decide) 92 rfl ?_
          refine A_iload C dX9_feed_92 7 rfl 94 rfl ?_
          refine A_iconst (v := 4) C dX9_feed_94 (by decide) 95 rfl ?_
          refine A_irem C dX9_feed_95 (by decide) 96 rfl ?_
          refine A_imul C dX9_feed_96 97 rfl ?_
          refine A_isub C dX9_feed_97 98 rfl ?_
          refine A_ishr C dX9_feed_98 99 rfl ?_
          refine A_sipush (v := 255) C dX9_feed_99 (by decide) 102 rfl ?_
          refine A_iand C dX9_feed_102 103 rfl ?_
          refine A_iast C dX9_feed_103 (of_9_1 kx0) hf 104 rfl (fun hf => ?_)
          refine A_namH hf (fun g1 hf => ?_)
          refine A_aload_n C dX9_feed_104 (i := 0) rfl 1 rfl 105 rfl ?_
          refine A_dup C dX9_feed_105 rfl 106 rfl ?_
          refine gfRX9_78 C kx0 dX9_feed_106 109 rfl ?_
          refine A_iconst (v := 1) C dX9_feed_109 (by decide) 110 rfl ?_
          refine A_iadd C dX9_feed_110 111 rfl ?_
          refine pfRX9_78 C kx0 dX9_feed_111 114 rfl ?_
          refine A_iinc (v := (x6 + 1)) C dX9_feed_114 7 rfl rfl [(6, .int (x6 + 1)), (7, .int x5), (0, .ref (K.2.1 x0)), (1, .int x1), (2, .int x2), (3, .int x3), (4, .int x4), (5, .int x5)] (lt_nl hnl (by decide)) rfl 117 rfl ?_
          refine A_goto C dX9_feed_117 23 (by decide) ?_
          refine A_sub [2, 3, 4, 5, 6, 7, 0] (lv' := [(0, .ref (K.2.1 x0)), (1, .int x1), (2, .int x2), (3, .int x3), (4, .int x4), (5, .int x5), (6, .int (x6 + 1))]) rfl ?_
          exact Hself23 _ _ hf
        refine A_iload C dX9_feed_69 4 rfl 71 rfl ?_
        refine A_goto C dX9_feed_71 76 (by decide) ?_
        refine A_istore C dX9_feed_76 [(7, .int x4), (0, .ref (K.2.1 x0)), (1, .int x1), (2, .int x2), (3, .int x3), (4, .int x4), (5, .int x5), (6, .int x6)] (lt_nl hnl (by decide)) rfl 78 rfl ?_
        refine A_aload_n C dX9_feed_78 (i := 0) rfl 1 rfl 79 rfl ?_
        refine gfRX9_7 C kx0 dX9_feed_79 82 rfl ?_
        refine A_aload_n C dX9_feed_82 (i := 0) rfl 1 rfl 83 rfl ?_
        refine gfRX9_78 C kx0 dX9_feed_83 86 rfl ?_
        refine A_iload C dX9_feed_86 0 rfl 88 rfl ?_
        refine A_bipush (v := 24) C dX9_feed_88 (by decide) 90 rfl ?_
        refine A_bipush (v := 8) C dX9_feed_90 (by decide) 92 rfl ?_
        refine A_iload C dX9_feed_92 7 rfl 94 rfl ?_
        refine A_iconst (v := 4) C dX9_feed_94 (by decide) 95 rfl ?_
        refine A_irem C dX9_feed_95 (by decide) 96 rfl ?_
        refine A_imul C dX9_feed_96 97 rfl ?_
        refine A_isub C dX9_feed_97 98 rfl ?_
        refine A_ishr C dX9_feed_98 99 rfl ?_
        refine A_sipush (v := 255) C dX9_feed_99 (by decide) 102 rfl ?_
        refine A_iand C dX9_feed_102 103 rfl ?_
        refine A_iast C dX9_feed_103 (of_9_1 kx0) hf 104 rfl (fun hf => ?_)
        refine A_namH hf (fun g2 hf => ?_)
        refine A_aload_n C dX9_feed_104 (i := 0) rfl 1 rfl 105 rfl ?_
        refine A_dup C dX9_feed_105 rfl 106 rfl ?_
        refine gfRX9_78 C kx0 dX9_feed_106 109 rfl ?_
        refine A_iconst (v := 1) C dX9_feed_109 (by decide) 110 rfl ?_
        refine A_iadd C dX9_feed_110 111 rfl ?_
        refine pfRX9_78 C kx0 dX9_feed_111 114 rfl ?_
        refine A_iinc (v := (x6 + 1)) C dX9_feed_114 7 rfl rfl [(6, .int (x6 + 1)), (7, .int x4), (0, .ref (K.2.1 x0)), (1, .int x1), (2, .int x2), (3, .int x3), (4, .int x4), (5, .int x5)] (lt_nl hnl (by decide)) rfl 117 rfl ?_
        refine A_goto C dX9_feed_117 23 (by decide) ?_
        refine A_sub [2, 3, 4, 5, 6, 7, 0] (lv' := [(0, .ref (K.2.1 x0)), (1, .int x1), (2, .int x2), (3, .int x3), (4, .int x4), (5, .int x5), (6, .int (x6 + 1))]) rfl ?_
        exact Hself23 _ _ hf
      refine A_iload_n C dX9_feed_58 (i := 3) rfl 3 rfl 59 rfl ?_
      refine A_goto C dX9_feed_59 76 (by decide) ?_
      refine A_istore C dX9_feed_76 [(7, .int x3), (0, .ref (K.2.1 x0)), (1, .int x1), (2, .int x2), (3, .int x3), (4, .int x4), (5, .int x5), (6, .int x6)] (lt_nl hnl (by decide)) rfl 78 rfl ?_
      refine A_aload_n C dX9_feed_78 (i := 0) rfl 1 rfl 79 rfl ?_
      refine gfRX9_7 C kx0 dX9_feed_79 82 rfl ?_
      refine A_aload_n C dX9_feed_82 (i := 0) rfl 1 rfl 83 rfl ?_
      refine gfRX9_78 C kx0 dX9_feed_83 86 rfl ?_
      refine A_iload C dX9_feed_86 0 rfl 88 rfl ?_
      refine A_bipush (v := 24) C dX9_feed_88 (by decide) 90 rfl ?_
      refine A_bipush (v := 8) C dX9_feed_90 (by decide) 92 rfl ?_
      refine A_iload C dX9_feed_92 7 rfl 94 rfl ?_
      refine A_iconst (v := 4) C dX9_feed_94 (by decide) 95 rfl ?_
      refine A_irem C dX9_feed_95 (by decide) 96 rfl ?_
      refine A_imul C dX9_feed_96 97 rfl ?_
      refine A_isub C dX9_feed_97 98 rfl ?_
      refine A_ishr C dX9_feed_98 99 rfl ?_
      refine A_sipush (v := 255) C dX9_feed_99 (by decide) 102 rfl ?_
      refine A_iand C dX9_feed_102 103 rfl ?_
      refine A_iast C dX9_feed_103 (of_9_1 kx0) hf 104 rfl (fun hf => ?_)
      refine A_namH hf (fun g3 hf => ?_)
      refine A_aload_n C dX9_feed_104 (i := 0) rfl 1 rfl 105 rfl ?_
      refine A_dup C dX9_feed_105 rfl 106 rfl ?_
      refine gfRX9_78 C kx0 dX9_feed_106 109 rfl ?_
      refine A_iconst (v := 1) C dX9_feed_109 (by decide) 110 rfl ?_
      refine A_iadd C dX9_feed_110 111 rfl ?_
      refine pfRX9_78 C kx0 dX9_feed_111 114 rfl ?_
      refine A_iinc (v := (x6 + 1)) C dX9_feed_114 7 rfl rfl [(6, .int (x6 + 1)), (7, .int x3), (0, .ref (K.2.1 x0)), (1, .int x1), (2, .int x2), (3, .int x3), (4, .int x4), (5, .int x5)] (lt_nl hnl (by decide)) rfl 117 rfl ?_
      refine A_goto C dX9_feed_117 23 (by decide) ?_
      refine A_sub [2, 3, 4, 5, 6, 7, 0] (lv' := [(0, .ref (K.2.1 x0)), (1, .int x1), (2, .int x2), (3, .int x3), (4, .int x4), (5, .int x5), (6, .int (x6 + 1))]) rfl ?_
      exact Hself23 _ _ hf
    refine A_iload_n C dX9_feed_47 (i := 2) rfl 2 rfl 48 rfl ?_
    refine A_goto C dX9_feed_48 76 (by decide) ?_
    refine A_istore C dX9_feed_76 [(7, .int x2), (0, .ref (K.2.1 x0)), (1, .int x1), (2, .int x2), (3, .int x3), (4, .int x4), (5, .int x5), (6, .int x6)] (lt_nl hnl (by decide)) rfl 78 rfl ?_
    refine A_aload_n C dX9_feed_78 (i := 0) rfl 1 rfl 79 rfl ?_
    refine gfRX9_7 C kx0 dX9_feed_79 82 rfl ?_
    refine A_aload_n C dX9_feed_82 (i := 0) rfl 1 rfl 83 rfl ?_
    refine gfRX9_78 C kx0 dX9_feed_83 86 rfl ?_
    refine A_iload C dX9_feed_86 0 rfl 88 rfl ?_
    refine A_bipush (v := 24) C dX9_feed_88 (by decide) 90 rfl ?_
    refine A_bipush (v := 8) C dX9_feed_90 (by decide) 92 rfl ?_
    refine A_iload C dX9_feed_92 7 rfl 94 rfl ?_
    refine A_iconst (v := 4) C dX9_feed_94 (by decide) 95 rfl ?_
    refine A_irem C dX9_feed_95 (by decide) 96 rfl ?_
    refine A_imul C dX9_feed_96 97 rfl ?_
    refine A_isub C dX9_feed_97 98 rfl ?_
    refine A_ishr C dX9_feed_98 99 rfl ?_
    refine A_sipush (v := 255) C dX9_feed_99 (by decide) 102 rfl ?_
    refine A_iand C dX9_feed_102 103 rfl ?_
    refine A_iast C dX9_feed_103 (of_9_1 kx0) hf 104 rfl (fun hf => ?_)
    refine A_namH hf (fun g4 hf => ?_)
    refine A_aload_n C dX9_feed_104 (i := 0) rfl 1 rfl 105 rfl ?_
    refine A_dup C dX9_feed_105 rfl 106 rfl ?_
    refine gfRX9_78 C kx0 dX9_feed_106 109 rfl ?_
    refine A_iconst (v := 1) C dX9_feed_109 (by decide) 110 rfl ?_
    refine A_iadd C dX9_feed_110 111 rfl ?_
    refine pfRX9_78 C kx0 dX9_feed_111 114 rfl ?_
    refine A_iinc (v := (x6 + 1)) C dX9_feed_114 7 rfl rfl [(6, .int (x6 + 1)), (7, .int x2), (0, .ref (K.2.1 x0)), (1, .int x1), (2, .int x2), (3, .int x3), (4, .int x4), (5, .int x5)] (lt_nl hnl (by decide)) rfl 117 rfl ?_
    refine A_goto C dX9_feed_117 23 (by decide) ?_
    refine A_sub [2, 3, 4, 5, 6, 7, 0] (lv' := [(0, .ref (K.2.1 x0)), (1, .int x1), (2, .int x2), (3, .int x3), (4, .int x4), (5, .int x5), (6, .int (x6 + 1))]) rfl ?_
    exact Hself23 _ _ hf
  refine A_iload_n C dX9_feed_36 (i := 1) rfl 1 rfl 37 rfl ?_
  refine A_goto C dX9_feed_37 76 (by decide) ?_
  refine A_istore C dX9_feed_76 [(7, .int x1), (0, .ref (K.2.1 x0)), (1, .int x1), (2, .int x2), (3, .int x3), (4, .int x4), (5, .int x5), (6, .int x6)] (lt_nl hnl (by decide)) rfl 78 rfl ?_
  refine A_aload_n C dX9_feed_78 (i := 0) rfl 1 rfl 79 rfl ?_
  refine gfRX9_7 C kx0 dX9_feed_79 82 rfl ?_
  refine A_aload_n C dX9_feed_82 (i := 0) rfl 1 rfl 83 rfl ?_
  refine gfRX9_78 C kx0 dX9_feed_83 86 rfl ?_
  refine A_iload C dX9_feed_86 0 rfl 88 rfl ?_
  refine A_bipush (v := 24) C dX9_feed_88 (by decide) 90 rfl ?_
  refine A_bipush (v := 8) C dX9_feed_90 (by decide) 92 rfl ?_
  refine A_iload C dX9_feed_92 7 rfl 94 rfl ?_
  refine A_iconst (v := 4) C dX9_feed_94 (by decide) 95 rfl ?_
  refine A_irem C dX9_feed_95 (by decide) 96 rfl ?_
  refine A_imul C dX9_feed_96 97 rfl ?_
  refine A_isub C dX9_feed_97 98 rfl ?_
  refine A_ishr C dX9_feed_98 99 rfl ?_
  refine A_sipush (v := 255) C dX9_feed_99 (by decide) 102 rfl ?_
  refine A_iand C dX9_feed_102 103 rfl ?_
  refine A_iast C dX9_feed_103 (of_9_1 kx0) hf 104 rfl (fun hf => ?_)
  refine A_namH hf (fun g5 hf => ?_)
  refine A_aload_n C dX9_feed_104 (i := 0) rfl 1 rfl 105 rfl ?_
  refine A_dup C dX9_feed_105 rfl 106 rfl ?_
  refine gfRX9_78 C kx0 dX9_feed_106 109 rfl ?_
  refine A_iconst (v := 1) C dX9_feed_109 (by decide) 110 rfl ?_
  refine A_iadd C dX9_feed_110 111 rfl ?_
  refine pfRX9_78 C kx0 dX9_feed_111 114 rfl ?_
  refine A_iinc (v := (x6 + 1)) C dX9_feed_114 7 rfl rfl [(6, .int (x6 + 1)), (7, .int x1), (0, .ref (K.2.1 x0)), (1, .int x1), (2, .int x2), (3, .int x3), (4, .int x4), (5, .int x5)] (lt_nl hnl (by decide)) rfl 117 rfl ?_
  refine A_goto C dX9_feed_117 23 (by decide) ?_
  refine A_sub [2, 3, 4, 5, 6, 7, 0] (lv' := [(0, .ref (K.2.1 x0)), (1, .int x1), (2, .int x2), (3, .int x3), (4, .int x4), (5, .int x5), (6, .int (x6 + 1))]) rfl ?_
  exact Hself23 _ _ hf
set_option maxRecDepth 20000 in
theorem mX9_feed {K : KX} {x0 : Nat} {x1 : Int32} {x2 : Int32} {x3 : Int32} {x4 : Int32} {x5 : Int32} (k0 : isK 9 x0) {h : HH} {rv : Int32} {hv : HH} (hf : fX9_feed x0 x1 x2 x3 x4 x5 h = some (rv, hv)) : MR K yX9_feed cX9_feed 8 (some .int) 1 [.ref (K.2.1 x0), .int x1, .int x2, .int x3, .int x4, .int x5] h (some (.int rv)) hv := by
  refine MR_of (by decide) (Nat.le_of_ble_eq_true rfl) (fun G C E hnl => ?_)
  have C : Ok K G 1 cX9_feed RX9 := C
  refine (show At K G 0 [(0, .ref (K.2.1 x0)), (1, .int x1), (2, .int x2), (3, .int x3), (4, .int x4), (5, .int x5)] [] h from ?_)
  unfold fX9_feed at hf
  refine A_aload_n C dX9_feed_0 (i := 0) rfl 0 rfl 1 rfl ?_
  refine A_iconst (v := 0) C dX9_feed_1 (by decide) 2 rfl ?_
  refine pfRX9_72 C k0 dX9_feed_2 5 rfl ?_
  refine A_aload_n C dX9_feed_5 (i := 0) rfl 0 rfl 6 rfl ?_
  refine gfRX9_78 C k0 dX9_feed_6 9 rfl ?_
  refine A_bipush (v := 20) C dX9_feed_9 (by decide) 11 rfl ?_
  refine A_iadd C dX9_feed_11 12 rfl ?_
  refine A_sipush (v := 1000) C dX9_feed_12 (by decide) 15 rfl ?_
  refine A_icmp_le C dX9_feed_15 20 (by decide) 18 rfl hf (fun c15 hf => ?_) (fun c15 hf => ?_)
  · refine A_iconst (v := 0) C dX9_feed_20 (by decide) 21 rfl ?_
    refine A_istore C dX9_feed_21 [(6, .int 0), (0, .ref (K.2.1 x0)), (1, .int x1), (2, .int x2), (3, .int x3), (4, .int x4), (5, .int x5)] (lt_nl hnl (by decide)) rfl 23 rfl ?_
    refine A_sub [1, 2, 3, 4, 5, 6, 0] (lv' := [(0, .ref (K.2.1 x0)), (1, .int x1), (2, .int x2), (3, .int x3), (4, .int x4), (5, .int x5), (6, .int 0)]) rfl ?_
    refine lq1_at (wX9_feed_L23 C hnl E k0) FU _ _ hf
  refine A_iconst (v := (-1)) C dX9_feed_18 (by decide) 19 rfl ?_
  exact A_iret C dX9_feed_19 E hf
set_option maxRecDepth 20000 in
theorem mX9_look {K : KX} {x0 : Nat} {x1 : Int32} (k0 : isK 9 x0) {h : HH} {rv : Int32} {hv : HH} (hf : fX9_look x0 x1 h = some (rv, hv)) : MR K yX9_look cX9_look 2 (some .int) 1 [.ref (K.2.1 x0), .int x1] h (some (.int rv)) hv := by
  refine MR_of (by decide) (Nat.le_of_ble_eq_true rfl) (fun G C E hnl => ?_)
  have C : Ok K G 1 cX9_look RX9 := C
  refine (show At K G 0 [(0, .ref (K.2.1 x0)), (1, .int x1)] [] h from ?_)
  unfold fX9_look at hf
  refine A_iload_n C dX9_look_0 (i := 1) rfl 1 rfl 1 rfl ?_
  refine A_aload_n C dX9_look_1 (i := 0) rfl 0 rfl 2 rfl ?_
  refine gfRX9_81 C k0 dX9_look_2 5 rfl ?_
  refine A_icmp_ge C dX9_look_5 17 (by decide) 8 rfl hf (fun c5 hf => ?_) (fun c5 hf => ?_)
  · refine A_iconst (v := (-1)) C dX9_look_17 (by decide) 18 rfl ?_
    exact A_iret C dX9_look_18 E hf
  refine A_aload_n C dX9_look_8 (i := 0) rfl 0 rfl 9 rfl ?_
  refine gfRX9_7 C k0 dX9_look_9 12 rfl ?_
  refine A_iload_n C dX9_look_12 (i := 1) rfl 1 rfl 13 rfl ?_
  refine A_iald C dX9_look_13 (of_9_1 k0) hf 14 rfl (fun hf => ?_)
  refine A_goto C dX9_look_14 18 (by decide) ?_
  exact A_iret C dX9_look_18 E hf
set_option maxRecDepth 20000 in
theorem mX9_isSmall {K : KX} {x0 : Int32}  {h : HH} {rv : Bool} {hv : HH} (hf : fX9_isSmall x0 h = some (rv, hv)) : MR K yX9_isSmall cX9_isSmall 1 (some .boolean) 1 [.int x0] h (some (.int (b2i rv))) hv := by
  refine MR_of (by decide) (Nat.le_of_ble_eq_true rfl) (fun G C E hnl => ?_)
  have C : Ok K G 1 cX9_isSmall RX9 := C
  refine (show At K G 0 [(0, .int x0)] [] h from ?_)
  unfold fX9_isSmall at hf
  refine A_iload_n C dX9_isSmall_0 (i := 0) rfl 0 rfl 1 rfl ?_
  refine A_bipush (v := 97) C dX9_isSmall_1 (by decide) 3 rfl ?_
  refine A_icmp_lt C dX9_isSmall_3 16 (by decide) 6 rfl hf (fun c3 hf => ?_) (fun c3 hf => ?_)
  · refine A_iconst (v := 0) C dX9_isSmall_16 (by decide) 17 rfl ?_
    exact A_zret (x := false) C dX9_isSmall_17 E hf
  refine A_iload_n C dX9_isSmall_6 (i := 0) rfl 0 rfl 7 rfl ?_
  refine A_bipush (v := 122) C dX9_isSmall_7 (by decide) 9 rfl ?_
  refine A_icmp_gt C dX9_isSmall_9 16 (by decide) 12 rfl hf (fun c9 hf => ?_) (fun c9 hf => ?_)
  · refine A_iconst (v := 0) C dX9_isSmall_16 (by decide) 17 rfl ?_
    exact A_zret (x := false) C dX9_isSmall_17 E hf
  refine A_iconst (v := 1) C dX9_isSmall_12 (by decide) 13 rfl ?_
  refine A_goto C dX9_isSmall_13 17 (by decide) ?_
  exact A_zret (x := true) C dX9_isSmall_17 E hf
set_option maxRecDepth 20000 in
theorem mX9_isDigit {K : KX} {x0 : Int32}  {h : HH} {rv : Bool} {hv : HH} (hf : fX9_isDigit x0 h = some (rv, hv)) : MR K yX9_isDigit cX9_isDigit 1 (some .boolean) 1 [.int x0] h (some (.int (b2i rv))) hv := by
  refine MR_of (by decide) (Nat.le_of_ble_eq_true rfl) (fun G C E hnl => ?_)
  have C : Ok K G 1 cX9_isDigit RX9 := C
  refine (show At K G 0 [(0, .int x0)] [] h from ?_)
  unfold fX9_isDigit at hf
  refine A_iload_n C dX9_isDigit_0 (i := 0) rfl 0 rfl 1 rfl ?_
  refine A_bipush (v := 48) C dX9_isDigit_1 (by decide) 3 rfl ?_
  refine A_icmp_lt C dX9_isDigit_3 16 (by decide) 6 rfl hf (fun c3 hf => ?_) (fun c3 hf => ?_)
  · refine A_iconst (v := 0) C dX9_isDigit_16 (by decide) 17 rfl ?_
    exact A_zret (x := false) C dX9_isDigit_17 E hf
  refine A_iload_n C dX9_isDigit_6 (i := 0) rfl 0 rfl 7 rfl ?_
  refine A_bipush (v := 57) C dX9_isDigit_7 (by decide) 9 rfl ?_
  refine A_icmp_gt C dX9_isDigit_9 16 (by decide) 12 rfl hf (fun c9 hf => ?_) (fun c9 hf => ?_)
  · refine A_iconst (v := 0) C dX9_isDigit_16 (by decide) 17 rfl ?_
    exact A_zret (x := false) C dX9_isDigit_17 E hf
  refine A_iconst (v := 1) C dX9_isDigit_12 (by decide) 13 rfl ?_
  refine A_goto C dX9_isDigit_13 17 (by decide) ?_
  exact A_zret (x := true) C dX9_isDigit_17 E hf
set_option maxRecDepth 20000 in
theorem wX9_next_L5 {K : KX} {G : GX} (C : Ok K G 2 cX9_next RX9) (hnl : G.2.2.2.2.2.2.2.2.2.2.2.2.2 = 4) {rv : HH} (E : Endd K G none none rv) {x0 : Nat} {k5_21 : Int32 → HH → Option (HH)}  (Hk5_21 : ∀ (x1 : Int32) (h : HH), k5_21 x1 h = some rv → At K G 21 [(0, .ref (K.2.1 x0)), (1, .int x1)] [] h) (kx0 : isK 9 x0) : ∀ (self5 : Int32 → HH → Option (HH)), (∀ (x1 : Int32) (h : HH), self5 x1 h = some rv → At K G 5 [(0, .ref (K.2.1 x0)), (1, .int x1)] [] h) → ∀ (x1 : Int32) (h : HH), fX9_next_L5 k5_21 x0 self5 x1 h = some rv → At K G 5 [(0, .ref (K.2.1 x0)), (1, .int x1)] [] h := by
  intro self5 Hself5 x1 h hf
  unfold fX9_next_L5 at hf
  refine A_aload_n C dX9_next_5 (i := 0) rfl 0 rfl 6 rfl ?_
  refine A_iload_n C dX9_next_6 (i := 1) rfl 1 rfl 7 rfl ?_
  refine CVi C dX9_next_7 9 kx0 (by decide) (r := (RX9, TX9, 44)) rfl rfl hf (fun _ _ e => mX9_look kx0 e) lkRX9_87 (by decide) (by decide) rfl [] rfl (Nat.le_of_ble_eq_true rfl) 10 rfl (fun r7 h7 hf => ?_)
  refine A_bipush (v := 32) C dX9_next_10 (by decide) 12 rfl ?_
  refine A_icmp_ne C dX9_next_12 21 (by decide) 15 rfl hf (fun c12 hf => ?_) (fun c12 hf => ?_)
  · exact Hk5_21 _ _ hf
  refine A_iinc (v := (x1 + 1)) C dX9_next_15 1 rfl rfl [(1, .int (x1 + 1)), (0, .ref (K.2.1 x0))] (lt_nl hnl (by decide)) rfl 18 rfl ?_
  refine A_goto C dX9_next_18 5 (by decide) ?_
  refine A_sub [1, 0] (lv' := [(0, .ref (K.2.1 x0)), (1, .int (x1 + 1))]) rfl ?_
  exact Hself5 _ _ hf
set_option maxRecDepth 20000 in
theorem wX9_next_L152 {K : KX} {G : GX} (C : Ok K G 2 cX9_next RX9) (hnl : G.2.2.2.2.2.2.2.2.2.2.2.2.2 = 4) {rv : HH} (E : Endd K G none none rv) {x0 : Nat} {k152_197 : Int32 → Int32 → HH → Option (HH)}  (Hk152_197 : ∀ (x1 : Int32) (x3 : Int32) (h : HH), k152_197 x1 x3 h = some rv → At K G 197 [(0, .ref (K.2.1 x0)), (1, .int x1), (3, .int x3)] [] h) (kx0 : isK 9 x0) : ∀ (self152 : Int32 → Int32 → HH → Option (HH)), (∀ (x1 : Int32) (x3 : Int32) (h : HH), self152 x1 x3 h = some rv → At K G 152 [(0, .ref (K.2.1 x0)), (1, .int x1), (3, .int x3)] [] h) → ∀ (x1 : Int32) (x3 : Int32) (h : HH), fX9_next_L152 k152_197 x0 self152 x1 x3 h = some rv → At K G 152 [(0, .ref (K.2.1 x0)), (1, .int x1), (3, .int x3)] [] h := by
  intro self152 Hself152 x1 x3 h hf
  unfold fX9_next_L152 at hf
  refine A_aload_n C dX9_next_152 (i := 0) rfl 0 rfl 153 rfl ?_
  refine A_iload_n C dX9_next_153 (i := 1) rfl 1 rfl 154 rfl ?_
  refine CVi C dX9_next_154 9 kx0 (by decide) (r := (RX9, TX9, 44)) rfl rfl hf (fun _ _ e => mX9_look kx0 e) lkRX9_87 (by decide) (by decide) rfl [] rfl (Nat.le_of_ble_eq_true rfl) 157 rfl (fun r154 h154 hf => ?_)
  refine CSz C dX9_next_157 hf (fun _ _ e => mX9_isDigit  e) lkRX9_107 (by decide) (by decide) rfl [] rfl (Nat.le_of_ble_eq_true rfl) 160 rfl (fun r157 h157 hf => ?_)
  refine A_z_eq C dX9_next_160 197 (by decide) 163 rfl hf (fun c160 hf => ?_) (fun c160 hf => ?_)
  · exact Hk152_197 _ _ _ hf
  refine A_iload_n C dX9_next_163 (i := 3) rfl 2 rfl 164 rfl ?_
  refine A_iconst (v := 4) C dX9_next_164 (by decide) 165 rfl ?_
  refine A_icmp_ge C dX9_next_165 188 (by decide) 168 rfl hf (fun c165 hf => ?_) (fun c165 hf => ?_)
  · refine A_iinc (v := (x3 + 1)) C dX9_next_188 2 rfl rfl [(3, .int (x3 + 1)), (0, .ref (K.2.1 x0)), (1, .int x1)] (lt_nl hnl (by decide)) rfl 191 rfl ?_
    refine A_iinc (v := (x1 + 1)) C dX9_next_191 2 rfl rfl [(1, .int (x1 + 1)), (3, .int (x3 + 1)), (0, .ref (K.2.1 x0))] (lt_nl hnl (by decide)) rfl 194 rfl ?_
    refine A_goto C dX9_next_194 152 (by decide) ?_
    refine A_sub [2, 0, 1] (lv' := [(0, .ref (K.2.1 x0)), (1, .int (x1 + 1)), (3, .int (x3 + 1))]) rfl ?_
    exact Hself152 _ _ _ hf
  refine A_aload_n C dX9_next_168 (i := 0) rfl 0 rfl 169 rfl ?_
  refine A_bipush (v := 10) C dX9_next_169 (by decide) 171 rfl ?_
  refine A_aload_n C dX9_next_171 (i := 0) rfl 0 rfl 172 rfl ?_
  refine gfRX9_97 C kx0 dX9_next_172 175 rfl ?_
  refine A_imul C dX9_next_175 176 rfl ?_
  refine A_aload_n C dX9_next_176 (i := 0) rfl 0 rfl 177 rfl ?_
  refine A_iload_n C dX9_next_177 (i := 1) rfl 1 rfl 178 rfl ?_
  refine CVi C dX9_next_178 9 kx0 (by decide) (r := (RX9, TX9, 44)) rfl rfl hf (fun _ _ e => mX9_look kx0 e) lkRX9_87 (by decide) (by decide) rfl [.int ((10 : Int32) * (gI h157 x0 7)), .ref (K.2.1 x0)] rfl (Nat.le_of_ble_eq_true rfl) 181 rfl (fun r178 h178 hf => ?_)
  refine A_iadd C dX9_next_181 182 rfl ?_
  refine A_bipush (v := 48) C dX9_next_182 (by decide) 184 rfl ?_
  refine A_isub C dX9_next_184 185 rfl ?_
  refine pfRX9_97 C kx0 dX9_next_185 188 rfl ?_
  refine A_iinc (v := (x3 + 1)) C dX9_next_188 2 rfl rfl [(3, .int (x3 + 1)), (0, .ref (K.2.1 x0)), (1, .int x1)] (lt_nl hnl (by decide)) rfl 191 rfl ?_
  refine A_iinc (v := (x1 + 1)) C dX9_next_191 2 rfl rfl [(1, .int (x1 + 1)), (3, .int (x3 + 1)), (0, .ref (K.2.1 x0))] (lt_nl hnl (by decide)) rfl 194 rfl ?_
  refine A_goto C dX9_next_194 152 (by decide) ?_
  refine A_sub [2, 0, 1] (lv' := [(0, .ref (K.2.1 x0)), (1, .int (x1 + 1)), (3, .int (x3 + 1))]) rfl ?_
  exact Hself152 _ _ _ hf
set_option maxRecDepth 20000 in
theorem wX9_next_L67 {K : KX} {G : GX} (C : Ok K G 2 cX9_next RX9) (hnl : G.2.2.2.2.2.2.2.2.2.2.2.2.2 = 4) {rv : HH} (E : Endd K G none none rv) {x0 : Nat} {k67_117 : Int32 → HH → Option (HH)}  (Hk67_117 : ∀ (x1 : Int32) (h : HH), k67_117 x1 h = some rv → At K G 117 [(0, .ref (K.2.1 x0)), (1, .int x1)] [] h) (kx0 : isK 9 x0) : ∀ (self67 : Int32 → HH → Option (HH)), (∀ (x1 : Int32) (h : HH), self67 x1 h = some rv → At K G 67 [(0, .ref (K.2.1 x0)), (1, .int x1)] [] h) → ∀ (x1 : Int32) (h : HH), fX9_next_L67 k67_117 x0 self67 x1 h = some rv → At K G 67 [(0, .ref (K.2.1 x0)), (1, .int x1)] [] h := by
  intro self67 Hself67 x1 h hf
  unfold fX9_next_L67 at hf
  refine A_aload_n C dX9_next_67 (i := 0) rfl 0 rfl 68 rfl ?_
  refine A_iload_n C dX9_next_68 (i := 1) rfl 1 rfl 69 rfl ?_
  refine CVi C dX9_next_69 9 kx0 (by decide) (r := (RX9, TX9, 44)) rfl rfl hf (fun _ _ e => mX9_look kx0 e) lkRX9_87 (by decide) (by decide) rfl [] rfl (Nat.le_of_ble_eq_true rfl) 72 rfl (fun r69 h69 hf => ?_)
  refine CSz C dX9_next_72 hf (fun _ _ e => mX9_isSmall  e) lkRX9_103 (by decide) (by decide) rfl [] rfl (Nat.le_of_ble_eq_true rfl) 75 rfl (fun r72 h72 hf => ?_)
  refine A_z_eq C dX9_next_75 117 (by decide) 78 rfl hf (fun c75 hf => ?_) (fun c75 hf => ?_)
  · exact Hk67_117 _ _ hf
  refine A_aload_n C dX9_next_78 (i := 0) rfl 0 rfl 79 rfl ?_
  refine gfRX9_94 C kx0 dX9_next_79 82 rfl ?_
  refine A_bipush (v := 8) C dX9_next_82 (by decide) 84 rfl ?_
  refine A_icmp_ge C dX9_next_84 101 (by decide) 87 rfl hf (fun c84 hf => ?_) (fun c84 hf => ?_)
  · refine A_aload_n C dX9_next_101 (i := 0) rfl 0 rfl 102 rfl ?_
    refine A_dup C dX9_next_102 rfl 103 rfl ?_
    refine gfRX9_94 C kx0 dX9_next_103 106 rfl ?_
    refine A_iconst (v := 1) C dX9_next_106 (by decide) 107 rfl ?_
    refine A_iadd C dX9_next_107 108 rfl ?_
    refine pfRX9_94 C kx0 dX9_next_108 111 rfl ?_
    refine A_iinc (v := (x1 + 1)) C dX9_next_111 1 rfl rfl [(1, .int (x1 + 1)), (0, .ref (K.2.1 x0))] (lt_nl hnl (by decide)) rfl 114 rfl ?_
    refine A_goto C dX9_next_114 67 (by decide) ?_
    refine A_sub [1, 0] (lv' := [(0, .ref (K.2.1 x0)), (1, .int (x1 + 1))]) rfl ?_
    exact Hself67 _ _ hf
  refine A_aload_n C dX9_next_87 (i := 0) rfl 0 rfl 88 rfl ?_
  refine gfRX9_17 C kx0 dX9_next_88 91 rfl ?_
  refine A_aload_n C dX9_next_91 (i := 0) rfl 0 rfl 92 rfl ?_
  refine gfRX9_94 C kx0 dX9_next_92 95 rfl ?_
  refine A_aload_n C dX9_next_95 (i := 0) rfl 0 rfl 96 rfl ?_
  refine A_iload_n C dX9_next_96 (i := 1) rfl 1 rfl 97 rfl ?_
  refine CVi C dX9_next_97 9 kx0 (by decide) (r := (RX9, TX9, 44)) rfl rfl hf (fun _ _ e => mX9_look kx0 e) lkRX9_87 (by decide) (by decide) rfl [.int (gI h72 x0 8), .ref (K.2.1 (x0 + 2))] rfl (Nat.le_of_ble_eq_true rfl) 100 rfl (fun r97 h97 hf => ?_)
  refine A_iast C dX9_next_100 (of_9_12 kx0) hf 101 rfl (fun hf => ?_)
  refine A_aload_n C dX9_next_101 (i := 0) rfl 0 rfl 102 rfl ?_
  refine A_dup C dX9_next_102 rfl 103 rfl ?_
  refine gfRX9_94 C kx0 dX9_next_103 106 rfl ?_
  refine A_iconst (v := 1) C dX9_next_106 (by decide) 107 rfl ?_
  refine A_iadd C dX9_next_107 108 rfl ?_
  refine pfRX9_94 C kx0 dX9_next_108 111 rfl ?_
  refine A_namH hf (fun g8 hf => ?_)
  refine A_iinc (v := (x1 + 1)) C dX9_next_111 1 rfl rfl [(1, .int (x1 + 1)), (0, .ref (K.2.1 x0))] (lt_nl hnl (by decide)) rfl 114 rfl ?_
  refine A_goto C dX9_next_114 67 (by decide) ?_
  refine A_sub [1, 0] (lv' := [(0, .ref (K.2.1 x0)), (1, .int (x1 + 1))]) rfl ?_
  exact Hself67 _ _ hf
set_option maxRecDepth 20000 in
theorem mX9_next {K : KX} {x0 : Nat} (k0 : isK 9 x0) {h : HH} {rv : HH} (hf : fX9_next x0 h = some rv) : MR K yX9_next cX9_next 4 none 2 [.ref (K.2.1 x0)] h none rv := by
  refine MR_of (by decide) (Nat.le_of_ble_eq_true rfl) (fun G C E hnl => ?_)
  have C : Ok K G 2 cX9_next RX9 := C
  refine (show At K G 0 [(0, .ref (K.2.1 x0))] [] h from ?_)
  unfold fX9_next at hf
  refine A_aload_n C dX9_next_0 (i := 0) rfl 0 rfl 1 rfl ?_
  refine gfRX9_84 C k0 dX9_next_1 4 rfl ?_
  refine A_namI hf (fun y1 hf => ?_)
  refine A_istore_n C dX9_next_4 (i := 1) rfl [(1, .int y1), (0, .ref (K.2.1 x0))] (lt_nl hnl (by decide)) rfl 5 rfl ?_
  refine A_sub [1, 0] (lv' := [(0, .ref (K.2.1 x0)), (1, .int y1)]) rfl ?_
  refine lq1_at (wX9_next_L5 C hnl E (fun x1 h hf => ?_) k0) FU _ _ hf
  refine A_aload_n C dX9_next_21 (i := 0) rfl 0 rfl 22 rfl ?_
  refine A_iload_n C dX9_next_22 (i := 1) rfl 1 rfl 23 rfl ?_
  refine pfRX9_91 C k0 dX9_next_23 26 rfl ?_
  refine A_aload_n C dX9_next_26 (i := 0) rfl 0 rfl 27 rfl ?_
  refine A_iload_n C dX9_next_27 (i := 1) rfl 1 rfl 28 rfl ?_
  refine CVi C dX9_next_28 9 k0 (by decide) (r := (RX9, TX9, 44)) rfl rfl hf (fun _ _ e => mX9_look k0 e) lkRX9_87 (by decide) (by decide) rfl [] rfl (Nat.le_of_ble_eq_true rfl) 31 rfl (fun r28 h28 hf => ?_)
  refine A_istore_n C dX9_next_31 (i := 2) rfl [(2, .int r28), (0, .ref (K.2.1 x0)), (1, .int x1)] (lt_nl hnl (by decide)) rfl 32 rfl ?_
  refine A_aload_n C dX9_next_32 (i := 0) rfl 1 rfl 33 rfl ?_
  refine A_iconst (v := 0) C dX9_next_33 (by decide) 34 rfl ?_
  refine pfRX9_94 C k0 dX9_next_34 37 rfl ?_
  refine A_aload_n C dX9_next_37 (i := 0) rfl 1 rfl 38 rfl ?_
  refine A_iconst (v := 0) C dX9_next_38 (by decide) 39 rfl ?_
  refine pfRX9_97 C k0 dX9_next_39 42 rfl ?_
  refine A_namH hf (fun g2 hf => ?_)
  refine A_iload_n C dX9_next_42 (i := 2) rfl 0 rfl 43 rfl ?_
  refine A_iconst (v := (-1)) C dX9_next_43 (by decide) 44 rfl ?_
  refine A_icmp_ne C dX9_next_44 60 (by decide) 47 rfl hf (fun c44 hf => ?_) (fun c44 hf => ?_)
  · refine A_iload_n C dX9_next_60 (i := 2) rfl 0 rfl 61 rfl ?_
    refine CSz C dX9_next_61 hf (fun _ _ e => mX9_isSmall  e) lkRX9_103 (by decide) (by decide) rfl [] rfl (Nat.le_of_ble_eq_true rfl) 64 rfl (fun r61 h61 hf => ?_)
    refine A_z_eq C dX9_next_64 143 (by decide) 67 rfl hf (fun c64 hf => ?_) (fun c64 hf => ?_)
    · refine A_iload_n C dX9_next_143 (i := 2) rfl 0 rfl 144 rfl ?_
      refine CSz C dX9_next_144 hf (fun _ _ e => mX9_isDigit  e) lkRX9_107 (by decide) (by decide) rfl [] rfl (Nat.le_of_ble_eq_true rfl) 147 rfl (fun r144 h144 hf => ?_)
      refine A_z_eq C dX9_next_147 219 (by decide) 150 rfl hf (fun c147 hf => ?_) (fun c147 hf => ?_)
      · refine A_aload_n C dX9_next_219 (i := 0) rfl 1 rfl 220 rfl ?_
        refine A_iload_n C dX9_next_220 (i := 1) rfl 2 rfl 221 rfl ?_
        refine A_iconst (v := 1) C dX9_next_221 (by decide) 222 rfl ?_
        refine A_iadd C dX9_next_222 223 rfl ?_
        refine pfRX9_84 C k0 dX9_next_223 226 rfl ?_
        refine A_aload_n C dX9_next_226 (i := 0) rfl 1 rfl 227 rfl ?_
        refine A_iload_n C dX9_next_227 (i := 2) rfl 0 rfl 228 rfl ?_
        refine A_bipush (v := 59) C dX9_next_228 (by decide) 230 rfl ?_
        refine A_icmp_eq C dX9_next_230 239 (by decide) 233 rfl hf (fun c230 hf => ?_) (fun c230 hf => ?_)
        · refine A_iload_n C dX9_next_239 (i := 2) rfl 0 rfl 240 rfl ?_
          refine A_goto C dX9_next_240 244 (by decide) ?_
          refine pfRX9_100 C k0 dX9_next_244 247 rfl ?_
          refine A_namH hf (fun g3 hf => ?_)
          exact A_vret C dX9_next_247 E hf
        refine A_iload_n C dX9_next_233 (i := 2) rfl 0 rfl 234 rfl ?_
        refine A_bipush (v := 44) C dX9_next_234 (by decide) 236 rfl ?_
        refine A_icmp_ne C dX9_next_236 243 (by decide) 239 rfl hf (fun c236 hf => ?_) (fun c236 hf => ?_)
        · refine A_iconst (v := 1) C dX9_next_243 (by decide) 244 rfl ?_
          refine pfRX9_100 C k0 dX9_next_244 247 rfl ?_
          refine A_namH hf (fun g4 hf => ?_)
          exact A_vret C dX9_next_247 E hf
        refine A_iload_n C dX9_next_239 (i := 2) rfl 0 rfl 240 rfl ?_
        refine A_goto C dX9_next_240 244 (by decide) ?_
        refine pfRX9_100 C k0 dX9_next_244 247 rfl ?_
        refine A_namH hf (fun g5 hf => ?_)
        exact A_vret C dX9_next_247 E hf
      refine A_iconst (v := 0) C dX9_next_150 (by decide) 151 rfl ?_
      refine A_istore_n C dX9_next_151 (i := 3) rfl [(3, .int 0), (2, .int r28), (0, .ref (K.2.1 x0)), (1, .int x1)] (lt_nl hnl (by decide)) rfl 152 rfl ?_
      refine A_sub [2, 3, 0] (lv' := [(0, .ref (K.2.1 x0)), (1, .int x1), (3, .int 0)]) rfl ?_
      refine lq2_at (wX9_next_L152 C hnl E (fun x1 x3 h hf => ?_) k0) FU _ _ _ hf
      refine A_aload_n C dX9_next_197 (i := 0) rfl 0 rfl 198 rfl ?_
      refine A_iload_n C dX9_next_198 (i := 1) rfl 1 rfl 199 rfl ?_
      refine pfRX9_84 C k0 dX9_next_199 202 rfl ?_
      refine A_aload_n C dX9_next_202 (i := 0) rfl 0 rfl 203 rfl ?_
      refine A_iload_n C dX9_next_203 (i := 3) rfl 2 rfl 204 rfl ?_
      refine A_iconst (v := 4) C dX9_next_204 (by decide) 205 rfl ?_
      refine A_icmp_le C dX9_next_205 212 (by decide) 208 rfl hf (fun c205 hf => ?_) (fun c205 hf => ?_)
      · refine A_iconst (v := 3) C dX9_next_212 (by decide) 213 rfl ?_
        refine pfRX9_100 C k0 dX9_next_213 216 rfl ?_
        refine A_namH hf (fun g6 hf => ?_)
        refine A_goto C dX9_next_216 247 (by decide) ?_
        exact A_vret C dX9_next_247 E hf
      refine A_iconst (v := 1) C dX9_next_208 (by decide) 209 rfl ?_
      refine A_goto C dX9_next_209 213 (by decide) ?_
      refine pfRX9_100 C k0 dX9_next_213 216 rfl ?_
      refine A_namH hf (fun g7 hf => ?_)
      refine A_goto C dX9_next_216 247 (by decide) ?_
      exact A_vret C dX9_next_247 E hf
    refine A_sub [1, 2] (lv' := [(0, .ref (K.2.1 x0)), (1, .int x1)]) rfl ?_
    refine lq1_at (wX9_next_L67 C hnl E (fun x1 h hf => ?_) k0) FU _ _ hf
    refine A_aload_n C dX9_next_117 (i := 0) rfl 0 rfl 118 rfl ?_
    refine A_iload_n C dX9_next_118 (i := 1) rfl 1 rfl 119 rfl ?_
    refine pfRX9_84 C k0 dX9_next_119 122 rfl ?_
    refine A_aload_n C dX9_next_122 (i := 0) rfl 0 rfl 123 rfl ?_
    refine A_aload_n C dX9_next_123 (i := 0) rfl 0 rfl 124 rfl ?_
    refine gfRX9_94 C k0 dX9_next_124 127 rfl ?_
    refine A_bipush (v := 8) C dX9_next_127 (by decide) 129 rfl ?_
    refine A_icmp_le C dX9_next_129 136 (by decide) 132 rfl hf (fun c129 hf => ?_) (fun c129 hf => ?_)
    · refine A_iconst (v := 2) C dX9_next_136 (by decide) 137 rfl ?_
      refine pfRX9_100 C k0 dX9_next_137 140 rfl ?_
      refine A_namH hf (fun g9 hf => ?_)
      refine A_goto C dX9_next_140 247 (by decide) ?_
      exact A_vret C dX9_next_247 E hf
    refine A_iconst (v := 1) C dX9_next_132 (by decide) 133 rfl ?_
    refine A_goto C dX9_next_133 137 (by decide) ?_
    refine pfRX9_100 C k0 dX9_next_137 140 rfl ?_
    refine A_namH hf (fun g10 hf => ?_)
    refine A_goto C dX9_next_140 247 (by decide) ?_
    exact A_vret C dX9_next_247 E hf
  refine A_aload_n C dX9_next_47 (i := 0) rfl 1 rfl 48 rfl ?_
  refine A_iconst (v := 0) C dX9_next_48 (by decide) 49 rfl ?_
  refine pfRX9_100 C k0 dX9_next_49 52 rfl ?_
  refine A_aload_n C dX9_next_52 (i := 0) rfl 1 rfl 53 rfl ?_
  refine A_iload_n C dX9_next_53 (i := 1) rfl 2 rfl 54 rfl ?_
  refine pfRX9_84 C k0 dX9_next_54 57 rfl ?_
  refine A_namH hf (fun g11 hf => ?_)
  refine A_goto C dX9_next_57 247 (by decide) ?_
  exact A_vret C dX9_next_247 E hf
set_option maxRecDepth 20000 in
theorem mX9_wrong {K : KX} {x0 : Nat} {x1 : Int32} {x2 : Int32} (k0 : isK 9 x0) {h : HH} {rv : HH} (hf : fX9_wrong x0 x1 x2 h = some rv) : MR K yX9_wrong cX9_wrong 3 none 1 [.ref (K.2.1 x0), .int x1, .int x2] h none rv := by
  refine MR_of (by decide) (Nat.le_of_ble_eq_true rfl) (fun G C E hnl => ?_)
  have C : Ok K G 1 cX9_wrong RX9 := C
  refine (show At K G 0 [(0, .ref (K.2.1 x0)), (1, .int x1), (2, .int x2)] [] h from ?_)
  unfold fX9_wrong at hf
  refine A_aload_n C dX9_wrong_0 (i := 0) rfl 0 rfl 1 rfl ?_
  refine gfRX9_110 C k0 dX9_wrong_1 4 rfl ?_
  refine A_if_eq C dX9_wrong_4 8 (by decide) 7 rfl hf (fun c4 hf => ?_) (fun c4 hf => ?_)
  · refine A_aload_n C dX9_wrong_8 (i := 0) rfl 0 rfl 9 rfl ?_
    refine A_iconst (v := 1) C dX9_wrong_9 (by decide) 10 rfl ?_
    refine pfRX9_110 C k0 dX9_wrong_10 (Or.inr rfl) 13 rfl ?_
    refine A_aload_n C dX9_wrong_13 (i := 0) rfl 0 rfl 14 rfl ?_
    refine A_iload_n C dX9_wrong_14 (i := 1) rfl 1 rfl 15 rfl ?_
    refine pfRX9_114 C k0 dX9_wrong_15 18 rfl ?_
    refine A_namH hf (fun g1 hf => ?_)
    refine A_aload_n C dX9_wrong_18 (i := 0) rfl 0 rfl 19 rfl ?_
    refine A_iload_n C dX9_wrong_19 (i := 2) rfl 2 rfl 20 rfl ?_
    refine pfRX9_13 C k0 dX9_wrong_20 23 rfl ?_
    exact A_vret C dX9_wrong_23 E hf
  exact A_vret C dX9_wrong_7 E hf
set_option maxRecDepth 20000 in
theorem wX9_isWord_L32 {K : KX} {G : GX} (C : Ok K G 6 cX9_isWord RX9) (hnl : G.2.2.2.2.2.2.2.2.2.2.2.2.2 = 4) {rv : Bool} {hv : HH} (E : Endd K G (some .boolean) (some (.int (b2i rv))) hv) {x0 : Nat} {x1 : Nat}   (kx0 : isK 9 x0) (kx1 : x1 < 58) : ∀ (self32 : Bool → Int32 → HH → Option (Bool × HH)), (∀ (x2 : Bool) (x3 : Int32) (h : HH), self32 x2 x3 h = some (rv, hv) → At K G 32 [(0, .ref (K.2.1 x0)), (1, .ref (K.2.2.2.2.2.1 x1)), (2, .int (b2i x2)), (3, .int x3)] [] h) → ∀ (x2 : Bool) (x3 : Int32) (h : HH), fX9_isWord_L32 x0 x1 self32 x2 x3 h = some (rv, hv) → At K G 32 [(0, .ref (K.2.1 x0)), (1, .ref (K.2.2.2.2.2.1 x1)), (2, .int (b2i x2)), (3, .int x3)] [] h := by
  intro self32 Hself32 x2 x3 h hf
  unfold fX9_isWord_L32 at hf
  refine A_iload_n C dX9_isWord_32 (i := 3) rfl 3 rfl 33 rfl ?_
  refine A_aload_n C dX9_isWord_33 (i := 0) rfl 0 rfl 34 rfl ?_
  refine gfRX9_94 C kx0 dX9_isWord_34 37 rfl ?_
  refine A_icmp_ge C dX9_isWord_37 70 (by decide) 40 rfl hf (fun c37 hf => ?_) (fun c37 hf => ?_)
  · refine A_iload_n C dX9_isWord_70 (i := 2) rfl 2 rfl 71 rfl ?_
    exact A_zret (x := x2) C dX9_isWord_71 E hf
  refine A_iload_n C dX9_isWord_40 (i := 2) rfl 2 rfl 41 rfl ?_
  refine A_z_eq C dX9_isWord_41 62 (by decide) 44 rfl hf (fun c41 hf => ?_) (fun c41 hf => ?_)
  · refine A_iconst (v := 0) C dX9_isWord_62 (by decide) 63 rfl ?_
    refine A_istore_n C dX9_isWord_63 (i := 2) rfl [(2, .int 0), (0, .ref (K.2.1 x0)), (1, .ref (K.2.2.2.2.2.1 x1)), (3, .int x3)] (lt_nl hnl (by decide)) rfl 64 rfl ?_
    refine A_iinc (v := (x3 + 1)) C dX9_isWord_64 3 rfl rfl [(3, .int (x3 + 1)), (2, .int 0), (0, .ref (K.2.1 x0)), (1, .ref (K.2.2.2.2.2.1 x1))] (lt_nl hnl (by decide)) rfl 67 rfl ?_
    refine A_goto C dX9_isWord_67 32 (by decide) ?_
    refine A_sub [2, 3, 1, 0] (lv' := [(0, .ref (K.2.1 x0)), (1, .ref (K.2.2.2.2.2.1 x1)), (2, .int (b2i false)), (3, .int (x3 + 1))]) rfl ?_
    exact Hself32 _ _ _ hf
  refine A_aload_n C dX9_isWord_44 (i := 0) rfl 0 rfl 45 rfl ?_
  refine gfRX9_17 C kx0 dX9_isWord_45 48 rfl ?_
  refine A_iload_n C dX9_isWord_48 (i := 3) rfl 3 rfl 49 rfl ?_
  refine A_iald C dX9_isWord_49 (of_9_12 kx0) hf 50 rfl (fun hf => ?_)
  refine A_aload_n C dX9_isWord_50 (i := 1) rfl 1 rfl 51 rfl ?_
  refine A_iload_n C dX9_isWord_51 (i := 3) rfl 3 rfl 52 rfl ?_
  refine CTi C dX9_isWord_52 kx1 hf (fun _ _ e => mJ0_charAt_5068e kx1 e) lkRX9_123 (by decide) (by decide) rfl [.int (gI h (x0 + 2) (ix x3))] rfl (Nat.le_of_ble_eq_true rfl) 55 rfl (fun r52 h52 hf => ?_)
  refine A_icmp_ne C dX9_isWord_55 62 (by decide) 58 rfl hf (fun c55 hf => ?_) (fun c55 hf => ?_)
  · refine A_iconst (v := 0) C dX9_isWord_62 (by decide) 63 rfl ?_
    refine A_istore_n C dX9_isWord_63 (i := 2) rfl [(2, .int 0), (0, .ref (K.2.1 x0)), (1, .ref (K.2.2.2.2.2.1 x1)), (3, .int x3)] (lt_nl hnl (by decide)) rfl 64 rfl ?_
    refine A_iinc (v := (x3 + 1)) C dX9_isWord_64 3 rfl rfl [(3, .int (x3 + 1)), (2, .int 0), (0, .ref (K.2.1 x0)), (1, .ref (K.2.2.2.2.2.1 x1))] (lt_nl hnl (by decide)) rfl 67 rfl ?_
    refine A_goto C dX9_isWord_67 32 (by decide) ?_
    refine A_sub [2, 3, 1, 0] (lv' := [(0, .ref (K.2.1 x0)), (1, .ref (K.2.2.2.2.2.1 x1)), (2, .int (b2i false)), (3, .int (x3 + 1))]) rfl ?_
    exact Hself32 _ _ _ hf
  refine A_iconst (v := 1) C dX9_isWord_58 (by decide) 59 rfl ?_
  refine A_goto C dX9_isWord_59 63 (by decide) ?_
  refine A_istore_n C dX9_isWord_63 (i := 2) rfl [(2, .int 1), (0, .ref (K.2.1 x0)), (1, .ref (K.2.2.2.2.2.1 x1)), (3, .int x3)] (lt_nl hnl (by decide)) rfl 64 rfl ?_
  refine A_iinc (v := (x3 + 1)) C dX9_isWord_64 3 rfl rfl [(3, .int (x3 + 1)), (2, .int 1), (0, .ref (K.2.1 x0)), (1, .ref (K.2.2.2.2.2.1 x1))] (lt_nl hnl (by decide)) rfl 67 rfl ?_
  refine A_goto C dX9_isWord_67 32 (by decide) ?_
  refine A_sub [2, 3, 1, 0] (lv' := [(0, .ref (K.2.1 x0)), (1, .ref (K.2.2.2.2.2.1 x1)), (2, .int (b2i true)), (3, .int (x3 + 1))]) rfl ?_
  exact Hself32 _ _ _ hf
set_option maxRecDepth 20000 in
theorem mX9_isWord {K : KX} {x0 : Nat} {x1 : Nat} (k0 : isK 9 x0) (k1 : x1 < 58) {h : HH} {rv : Bool} {hv : HH} (hf : fX9_isWord x0 x1 h = some (rv, hv)) : MR K yX9_isWord cX9_isWord 4 (some .boolean) 6 [.ref (K.2.1 x0), .ref (K.2.2.2.2.2.1 x1)] h (some (.int (b2i rv))) hv := by
  refine MR_of (by decide) (Nat.le_of_ble_eq_true rfl) (fun G C E hnl => ?_)
  have C : Ok K G 6 cX9_isWord RX9 := C
  refine (show At K G 0 [(0, .ref (K.2.1 x0)), (1, .ref (K.2.2.2.2.2.1 x1))] [] h from ?_)
  unfold fX9_isWord at hf
  refine A_aload_n C dX9_isWord_0 (i := 0) rfl 0 rfl 1 rfl ?_
  refine gfRX9_110 C k0 dX9_isWord_1 4 rfl ?_
  refine A_if_ne C dX9_isWord_4 26 (by decide) 7 rfl hf (fun c4 hf => ?_) (fun c4 hf => ?_)
  · refine A_iconst (v := 0) C dX9_isWord_26 (by decide) 27 rfl ?_
    exact A_zret (x := false) C dX9_isWord_27 E hf
  refine A_aload_n C dX9_isWord_7 (i := 0) rfl 0 rfl 8 rfl ?_
  refine gfRX9_100 C k0 dX9_isWord_8 11 rfl ?_
  refine A_iconst (v := 2) C dX9_isWord_11 (by decide) 12 rfl ?_
  refine A_icmp_ne C dX9_isWord_12 26 (by decide) 15 rfl hf (fun c12 hf => ?_) (fun c12 hf => ?_)
  · refine A_iconst (v := 0) C dX9_isWord_26 (by decide) 27 rfl ?_
    exact A_zret (x := false) C dX9_isWord_27 E hf
  refine A_aload_n C dX9_isWord_15 (i := 0) rfl 0 rfl 16 rfl ?_
  refine gfRX9_94 C k0 dX9_isWord_16 19 rfl ?_
  refine A_aload_n C dX9_isWord_19 (i := 1) rfl 1 rfl 20 rfl ?_
  refine CTi C dX9_isWord_20 k1 hf (fun _ _ e => mJ0_length_8abf5 k1 e) lkRX9_117 (by decide) (by decide) rfl [.int (gI h x0 8)] rfl (Nat.le_of_ble_eq_true rfl) 23 rfl (fun r20 h20 hf => ?_)
  refine A_icmp_eq C dX9_isWord_23 28 (by decide) 26 rfl hf (fun c23 hf => ?_) (fun c23 hf => ?_)
  · refine A_iconst (v := 1) C dX9_isWord_28 (by decide) 29 rfl ?_
    refine A_istore_n C dX9_isWord_29 (i := 2) rfl [(2, .int 1), (0, .ref (K.2.1 x0)), (1, .ref (K.2.2.2.2.2.1 x1))] (lt_nl hnl (by decide)) rfl 30 rfl ?_
    refine A_iconst (v := 0) C dX9_isWord_30 (by decide) 31 rfl ?_
    refine A_istore_n C dX9_isWord_31 (i := 3) rfl [(3, .int 0), (2, .int 1), (0, .ref (K.2.1 x0)), (1, .ref (K.2.2.2.2.2.1 x1))] (lt_nl hnl (by decide)) rfl 32 rfl ?_
    refine A_sub [2, 3, 1, 0] (lv' := [(0, .ref (K.2.1 x0)), (1, .ref (K.2.2.2.2.2.1 x1)), (2, .int (b2i true)), (3, .int 0)]) rfl ?_
    refine lq2_at (wX9_isWord_L32 C hnl E k0 k1) FU _ _ _ hf
  refine A_iconst (v := 0) C dX9_isWord_26 (by decide) 27 rfl ?_
  exact A_zret (x := false) C dX9_isWord_27 E hf
set_option maxRecDepth 20000 in
theorem mX9_takesWord {K : KX} {x0 : Nat} {x1 : Nat} (k0 : isK 9 x0) (k1 : x1 < 58) {h : HH} {rv : Bool} {hv : HH} (hf : fX9_takesWord x0 x1 h = some (rv, hv)) : MR K yX9_takesWord cX9_takesWord 2 (some .boolean) 7 [.ref (K.2.1 x0), .ref (K.2.2.2.2.2.1 x1)] h (some (.int (b2i rv))) hv := by
  refine MR_of (by decide) (Nat.le_of_ble_eq_true rfl) (fun G C E hnl => ?_)
  have C : Ok K G 7 cX9_takesWord RX9 := C
  refine (show At K G 0 [(0, .ref (K.2.1 x0)), (1, .ref (K.2.2.2.2.2.1 x1))] [] h from ?_)
  unfold fX9_takesWord at hf
  refine A_aload_n C dX9_takesWord_0 (i := 0) rfl 0 rfl 1 rfl ?_
  refine A_aload_n C dX9_takesWord_1 (i := 1) rfl 1 rfl 2 rfl ?_
  refine CVz C dX9_takesWord_2 9 k0 (by decide) (r := (RX9, TX9, 44)) rfl rfl hf (fun _ _ e => mX9_isWord k0 k1 e) lkRX9_127 (by decide) (by decide) rfl [] rfl (Nat.le_of_ble_eq_true rfl) 5 rfl (fun r2 h2 hf => ?_)
  refine A_z_ne C dX9_takesWord_5 10 (by decide) 8 rfl hf (fun c5 hf => ?_) (fun c5 hf => ?_)
  · refine A_aload_n C dX9_takesWord_10 (i := 0) rfl 0 rfl 11 rfl ?_
    refine CVv C dX9_takesWord_11 9 k0 (by decide) (r := (RX9, TX9, 44)) rfl rfl hf (fun _ e => mX9_next k0 e) lkRX9_131 (by decide) (by decide) rfl [] rfl (Nat.le_of_ble_eq_true rfl) 14 rfl (fun h11 hf => ?_)
    refine A_iconst (v := 1) C dX9_takesWord_14 (by decide) 15 rfl ?_
    exact A_zret (x := true) C dX9_takesWord_15 E hf
  refine A_iconst (v := 0) C dX9_takesWord_8 (by decide) 9 rfl ?_
  exact A_zret (x := false) C dX9_takesWord_9 E hf
set_option maxRecDepth 20000 in
theorem mX9_must {K : KX} {x0 : Nat} {x1 : Nat} (k0 : isK 9 x0) (k1 : x1 < 58) {h : HH} {rv : HH} (hf : fX9_must x0 x1 h = some rv) : MR K yX9_must cX9_must 2 none 8 [.ref (K.2.1 x0), .ref (K.2.2.2.2.2.1 x1)] h none rv := by
  refine MR_of (by decide) (Nat.le_of_ble_eq_true rfl) (fun G C E hnl => ?_)
  have C : Ok K G 8 cX9_must RX9 := C
  refine (show At K G 0 [(0, .ref (K.2.1 x0)), (1, .ref (K.2.2.2.2.2.1 x1))] [] h from ?_)
  unfold fX9_must at hf
  refine A_aload_n C dX9_must_0 (i := 0) rfl 0 rfl 1 rfl ?_
  refine gfRX9_110 C k0 dX9_must_1 4 rfl ?_
  refine A_if_ne C dX9_must_4 24 (by decide) 7 rfl hf (fun c4 hf => ?_) (fun c4 hf => ?_)
  · exact A_vret C dX9_must_24 E hf
  refine A_aload_n C dX9_must_7 (i := 0) rfl 0 rfl 8 rfl ?_
  refine A_aload_n C dX9_must_8 (i := 1) rfl 1 rfl 9 rfl ?_
  refine CVz C dX9_must_9 9 k0 (by decide) (r := (RX9, TX9, 44)) rfl rfl hf (fun _ _ e => mX9_takesWord k0 k1 e) lkRX9_134 (by decide) (by decide) rfl [] rfl (Nat.le_of_ble_eq_true rfl) 12 rfl (fun r9 h9 hf => ?_)
  refine A_z_ne C dX9_must_12 24 (by decide) 15 rfl hf (fun c12 hf => ?_) (fun c12 hf => ?_)
  · exact A_vret C dX9_must_24 E hf
  refine A_aload_n C dX9_must_15 (i := 0) rfl 0 rfl 16 rfl ?_
  refine A_iconst (v := 1) C dX9_must_16 (by decide) 17 rfl ?_
  refine A_aload_n C dX9_must_17 (i := 0) rfl 0 rfl 18 rfl ?_
  refine gfRX9_91 C k0 dX9_must_18 21 rfl ?_
  refine CVv C dX9_must_21 9 k0 (by decide) (r := (RX9, TX9, 44)) rfl rfl hf (fun _ e => mX9_wrong k0 e) lkRX9_137 (by decide) (by decide) rfl [] rfl (Nat.le_of_ble_eq_true rfl) 24 rfl (fun h21 hf => ?_)
  exact A_vret C dX9_must_24 E hf
set_option maxRecDepth 20000 in
theorem mX9_mustName {K : KX} {x0 : Nat} (k0 : isK 9 x0) {h : HH} {rv : HH} (hf : fX9_mustName x0 h = some rv) : MR K yX9_mustName cX9_mustName 2 none 7 [.ref (K.2.1 x0)] h none rv := by
  refine MR_of (by decide) (Nat.le_of_ble_eq_true rfl) (fun G C E hnl => ?_)
  have C : Ok K G 7 cX9_mustName RX9 := C
  refine (show At K G 0 [(0, .ref (K.2.1 x0))] [] h from ?_)
  unfold fX9_mustName at hf
  refine A_aload_n C dX9_mustName_0 (i := 0) rfl 0 rfl 1 rfl ?_
  refine A_str C dX9_mustName_1 (i := 29) (by decide) rfl 3 rfl ?_
  refine CVz C dX9_mustName_3 9 k0 (by decide) (r := (RX9, TX9, 44)) rfl rfl hf (fun _ _ e => mX9_isWord k0 (by decide) e) lkRX9_127 (by decide) (by decide) rfl [] rfl (Nat.le_of_ble_eq_true rfl) 6 rfl (fun r3 h3 hf => ?_)
  refine A_z_ne C dX9_mustName_6 108 (by decide) 9 rfl hf (fun c6 hf => ?_) (fun c6 hf => ?_)
  · refine A_iconst (v := 1) C dX9_mustName_108 (by decide) 109 rfl ?_
    refine A_goto C dX9_mustName_109 113 (by decide) ?_
    refine A_istore_n C dX9_mustName_113 (i := 1) rfl [(1, .int 1), (0, .ref (K.2.1 x0))] (lt_nl hnl (by decide)) rfl 114 rfl ?_
    refine A_aload_n C dX9_mustName_114 (i := 0) rfl 1 rfl 115 rfl ?_
    refine gfRX9_100 C k0 dX9_mustName_115 118 rfl ?_
    refine A_iconst (v := 2) C dX9_mustName_118 (by decide) 119 rfl ?_
    refine A_icmp_ne C dX9_mustName_119 126 (by decide) 122 rfl hf (fun c119 hf => ?_) (fun c119 hf => ?_)
    · refine A_aload_n C dX9_mustName_126 (i := 0) rfl 1 rfl 127 rfl ?_
      refine A_iconst (v := 1) C dX9_mustName_127 (by decide) 128 rfl ?_
      refine A_aload_n C dX9_mustName_128 (i := 0) rfl 1 rfl 129 rfl ?_
      refine gfRX9_91 C k0 dX9_mustName_129 132 rfl ?_
      refine CVv C dX9_mustName_132 9 k0 (by decide) (r := (RX9, TX9, 44)) rfl rfl hf (fun _ e => mX9_wrong k0 e) lkRX9_137 (by decide) (by decide) rfl [] rfl (Nat.le_of_ble_eq_true rfl) 135 rfl (fun h132 hf => ?_)
      exact A_vret C dX9_mustName_135 E hf
    refine A_iload_n C dX9_mustName_122 (i := 1) rfl 0 rfl 123 rfl ?_
    refine N_if_eq C dX9_mustName_123 135 (by decide) (by decide) 126 rfl ?_
    refine A_aload_n C dX9_mustName_126 (i := 0) rfl 1 rfl 127 rfl ?_
    refine A_iconst (v := 1) C dX9_mustName_127 (by decide) 128 rfl ?_
    refine A_aload_n C dX9_mustName_128 (i := 0) rfl 1 rfl 129 rfl ?_
    refine gfRX9_91 C k0 dX9_mustName_129 132 rfl ?_
    refine CVv C dX9_mustName_132 9 k0 (by decide) (r := (RX9, TX9, 44)) rfl rfl hf (fun _ e => mX9_wrong k0 e) lkRX9_137 (by decide) (by decide) rfl [] rfl (Nat.le_of_ble_eq_true rfl) 135 rfl (fun h132 hf => ?_)
    exact A_vret C dX9_mustName_135 E hf
  refine A_aload_n C dX9_mustName_9 (i := 0) rfl 0 rfl 10 rfl ?_
  refine A_str C dX9_mustName_10 (i := 33) (by decide) rfl 12 rfl ?_
  refine CVz C dX9_mustName_12 9 k0 (by decide) (r := (RX9, TX9, 44)) rfl rfl hf (fun _ _ e => mX9_isWord k0 (by decide) e) lkRX9_127 (by decide) (by decide) rfl [] rfl (Nat.le_of_ble_eq_true rfl) 15 rfl (fun r12 h12 hf => ?_)
  refine A_z_ne C dX9_mustName_15 108 (by decide) 18 rfl hf (fun c15 hf => ?_) (fun c15 hf => ?_)
  · refine A_iconst (v := 1) C dX9_mustName_108 (by decide) 109 rfl ?_
    refine A_goto C dX9_mustName_109 113 (by decide) ?_
    refine A_istore_n C dX9_mustName_113 (i := 1) rfl [(1, .int 1), (0, .ref (K.2.1 x0))] (lt_nl hnl (by decide)) rfl 114 rfl ?_
    refine A_aload_n C dX9_mustName_114 (i := 0) rfl 1 rfl 115 rfl ?_
    refine gfRX9_100 C k0 dX9_mustName_115 118 rfl ?_
    refine A_iconst (v := 2) C dX9_mustName_118 (by decide) 119 rfl ?_
    refine A_icmp_ne C dX9_mustName_119 126 (by decide) 122 rfl hf (fun c119 hf => ?_) (fun c119 hf => ?_)
    · refine A_aload_n C dX9_mustName_126 (i := 0) rfl 1 rfl 127 rfl ?_
      refine A_iconst (v := 1) C dX9_mustName_127 (by decide) 128 rfl ?_
      refine A_aload_n C dX9_mustName_128 (i := 0) rfl 1 rfl 129 rfl ?_
      refine gfRX9_91 C k0 dX9_mustName_129 132 rfl ?_
      refine CVv C dX9_mustName_132 9 k0 (by decide) (r := (RX9, TX9, 44)) rfl rfl hf (fun _ e => mX9_wrong k0 e) lkRX9_137 (by decide) (by decide) rfl [] rfl (Nat.le_of_ble_eq_true rfl) 135 rfl (fun h132 hf => ?_)
      exact A_vret C dX9_mustName_135 E hf
    refine A_iload_n C dX9_mustName_122 (i := 1) rfl 0 rfl 123 rfl ?_
    refine N_if_eq C dX9_mustName_123 135 (by decide) (by decide) 126 rfl ?_
    refine A_aload_n C dX9_mustName_126 (i := 0) rfl 1 rfl 127 rfl ?_
    refine A_iconst (v := 1) C dX9_mustName_127 (by decide) 128 rfl ?_
    refine A_aload_n C dX9_mustName_128 (i := 0) rfl 1 rfl 129 rfl ?_
    refine gfRX9_91 C k0 dX9_mustName_129 132 rfl ?_
    refine CVv C dX9_mustName_132 9 k0 (by decide) (r := (RX9, TX9, 44)) rfl rfl hf (fun _ e => mX9_wrong k0 e) lkRX9_137 (by decide) (by decide) rfl [] rfl (Nat.le_of_ble_eq_true rfl) 135 rfl (fun h132 hf => ?_)
    exact A_vret C dX9_mustName_135 E hf
  refine A_aload_n C dX9_mustName_18 (i := 0) rfl 0 rfl 19 rfl ?_
  refine A_str C dX9_mustName_19 (i := 34) (by decide) rfl 21 rfl ?_
  refine CVz C dX9_mustName_21 9 k0 (by decide) (r := (RX9, TX9, 44)) rfl rfl hf (fun _ _ e => mX9_isWord k0 (by decide) e) lkRX9_127 (by decide) (by decide) rfl [] rfl (Nat.le_of_ble_eq_true rfl) 24 rfl (fun r21 h21 hf => ?_)
  refine A_z_ne C dX9_mustName_24 108 (by decide) 27 rfl hf (fun c24 hf => ?_) (fun c24 hf => ?_)
  · refine A_iconst (v := 1) C dX9_mustName_108 (by decide) 109 rfl ?_
    refine A_goto C dX9_mustName_109 113 (by decide) ?_
    refine A_istore_n C dX9_mustName_113 (i := 1) rfl [(1, .int 1), (0, .ref (K.2.1 x0))] (lt_nl hnl (by decide)) rfl 114 rfl ?_
    refine A_aload_n C dX9_mustName_114 (i := 0) rfl 1 rfl 115 rfl ?_
    refine gfRX9_100 C k0 dX9_mustName_115 118 rfl ?_
    refine A_iconst (v := 2) C dX9_mustName_118 (by decide) 119 rfl ?_
    refine A_icmp_ne C dX9_mustName_119 126 (by decide) 122 rfl hf (fun c119 hf => ?_) (fun c119 hf => ?_)
    · refine A_aload_n C dX9_mustName_126 (i := 0) rfl 1 rfl 127 rfl ?_
      refine A_iconst (v := 1) C dX9_mustName_127 (by decide) 128 rfl ?_
      refine A_aload_n C dX9_mustName_128 (i := 0) rfl 1 rfl 129 rfl ?_
      refine gfRX9_91 C k0 dX9_mustName_129 132 rfl ?_
      refine CVv C dX9_mustName_132 9 k0 (by decide) (r := (RX9, TX9, 44)) rfl rfl hf (fun _ e => mX9_wrong k0 e) lkRX9_137 (by decide) (by decide) rfl [] rfl (Nat.le_of_ble_eq_true rfl) 135 rfl (fun h132 hf => ?_)
      exact A_vret C dX9_mustName_135 E hf
    refine A_iload_n C dX9_mustName_122 (i := 1) rfl 0 rfl 123 rfl ?_
    refine N_if_eq C dX9_mustName_123 135 (by decide) (by decide) 126 rfl ?_
    refine A_aload_n C dX9_mustName_126 (i := 0) rfl 1 rfl 127 rfl ?_
    refine A_iconst (v := 1) C dX9_mustName_127 (by decide) 128 rfl ?_
    refine A_aload_n C dX9_mustName_128 (i := 0) rfl 1 rfl 129 rfl ?_
    refine gfRX9_91 C k0 dX9_mustName_129 132 rfl ?_
    refine CVv C dX9_mustName_132 9 k0 (by decide) (r := (RX9, TX9, 44)) rfl rfl hf (fun _ e => mX9_wrong k0 e) lkRX9_137 (by decide) (by decide) rfl [] rfl (Nat.le_of_ble_eq_true rfl) 135 rfl (fun h132 hf => ?_)
    exact A_vret C dX9_mustName_135 E hf
  refine A_aload_n C dX9_mustName_27 (i := 0) rfl 0 rfl 28 rfl ?_
  refine A_str C dX9_mustName_28 (i := 35) (by decide) rfl 30 rfl ?_
  refine CVz C dX9_mustName_30 9 k0 (by decide) (r := (RX9, TX9, 44)) rfl rfl hf (fun _ _ e => mX9_isWord k0 (by decide) e) lkRX9_127 (by decide) (by decide) rfl [] rfl (Nat.le_of_ble_eq_true rfl) 33 rfl (fun r30 h30 hf => ?_)
  refine A_z_ne C dX9_mustName_33 108 (by decide) 36 rfl hf (fun c33 hf => ?_) (fun c33 hf => ?_)
  · refine A_iconst (v := 1) C dX9_mustName_108 (by decide) 109 rfl ?_
    refine A_goto C dX9_mustName_109 113 (by decide) ?_
    refine A_istore_n C dX9_mustName_113 (i := 1) rfl [(1, .int 1), (0, .ref (K.2.1 x0))] (lt_nl hnl (by decide)) rfl 114 rfl ?_
    refine A_aload_n C dX9_mustName_114 (i := 0) rfl 1 rfl 115 rfl ?_
    refine gfRX9_100 C k0 dX9_mustName_115 118 rfl ?_
    refine A_iconst (v := 2) C dX9_mustName_118 (by decide) 119 rfl ?_
    refine A_icmp_ne C dX9_mustName_119 126 (by decide) 122 rfl hf (fun c119 hf => ?_) (fun c119 hf => ?_)
    · refine A_aload_n C dX9_mustName_126 (i := 0) rfl 1 rfl 127 rfl ?_
      refine A_iconst (v := 1) C dX9_mustName_127 (by decide) 128 rfl ?_
      refine A_aload_n C dX9_mustName_128 (i := 0) rfl 1 rfl 129 rfl ?_
      refine gfRX9_91 C k0 dX9_mustName_129 132 rfl ?_
      refine CVv C dX9_mustName_132 9 k0 (by decide) (r := (RX9, TX9, 44)) rfl rfl hf (fun _ e => mX9_wrong k0 e) lkRX9_137 (by decide) (by decide) rfl [] rfl (Nat.le_of_ble_eq_true rfl) 135 rfl (fun h132 hf => ?_)
      exact A_vret C dX9_mustName_135 E hf
    refine A_iload_n C dX9_mustName_122 (i := 1) rfl 0 rfl 123 rfl ?_
    refine N_if_eq C dX9_mustName_123 135 (by decide) (by decide) 126 rfl ?_
    refine A_aload_n C dX9_mustName_126 (i := 0) rfl 1 rfl 127 rfl ?_
    refine A_iconst (v := 1) C dX9_mustName_127 (by decide) 128 rfl ?_
    refine A_aload_n C dX9_mustName_128 (i := 0) rfl 1 rfl 129 rfl ?_
    refine gfRX9_91 C k0 dX9_mustName_129 132 rfl ?_
    refine CVv C dX9_mustName_132 9 k0 (by decide) (r := (RX9, TX9, 44)) rfl rfl hf (fun _ e => mX9_wrong k0 e) lkRX9_137 (by decide) (by decide) rfl [] rfl (Nat.le_of_ble_eq_true rfl) 135 rfl (fun h132 hf => ?_)
    exact A_vret C dX9_mustName_135 E hf
  refine A_aload_n C dX9_mustName_36 (i := 0) rfl 0 rfl 37 rfl ?_
  refine A_str C dX9_mustName_37 (i := 36) (by decide) rfl 39 rfl ?_
  refine CVz C dX9_mustName_39 9 k0 (by decide) (r := (RX9, TX9, 44)) rfl rfl hf (fun _ _ e => mX9_isWord k0 (by decide) e) lkRX9_127 (by decide) (by decide) rfl [] rfl (Nat.le_of_ble_eq_true rfl) 42 rfl (fun r39 h39 hf => ?_)
  refine A_z_ne C dX9_mustName_42 108 (by decide) 45 rfl hf (fun c42 hf => ?_) (fun c42 hf => ?_)
  · refine A_iconst (v := 1) C dX9_mustName_108 (by decide) 109 rfl ?_
    refine A_goto C dX9_mustName_109 113 (by decide) ?_
    refine A_istore_n C dX9_mustName_113 (i := 1) rfl [(1, .int 1), (0, .ref (K.2.1 x0))] (lt_nl hnl (by decide)) rfl 114 rfl ?_
    refine A_aload_n C dX9_mustName_114 (i := 0) rfl 1 rfl 115 rfl ?_
    refine gfRX9_100 C k0 dX9_mustName_115 118 rfl ?_
    refine A_iconst (v := 2) C dX9_mustName_118 (by decide) 119 rfl ?_
    refine A_icmp_ne C dX9_mustName_119 126 (by decide) 122 rfl hf (fun c119 hf => ?_) (fun c119 hf => ?_)
    · refine A_aload_n C dX9_mustName_126 (i := 0) rfl 1 rfl 127 rfl ?_
      refine A_iconst (v := 1) C dX9_mustName_127 (by decide) 128 rfl ?_
      refine A_aload_n C dX9_mustName_128 (i := 0) rfl 1 rfl 129 rfl ?_
      refine gfRX9_91 C k0 dX9_mustName_129 132 rfl ?_
      refine CVv C dX9_mustName_132 9 k0 (by decide) (r := (RX9, TX9, 44)) rfl rfl hf (fun _ e => mX9_wrong k0 e) lkRX9_137 (by decide) (by decide) rfl [] rfl (Nat.le_of_ble_eq_true rfl) 135 rfl (fun h132 hf => ?_)
      exact A_vret C dX9_mustName_135 E hf
    refine A_iload_n C dX9_mustName_122 (i := 1) rfl 0 rfl 123 rfl ?_
    refine N_if_eq C dX9_mustName_123 135 (by decide) (by decide) 126 rfl ?_
    refine A_aload_n C dX9_mustName_126 (i := 0) rfl 1 rfl 127 rfl ?_
    refine A_iconst (v := 1) C dX9_mustName_127 (by decide) 128 rfl ?_
    refine A_aload_n C dX9_mustName_128 (i := 0) rfl 1 rfl 129 rfl ?_
    refine gfRX9_91 C k0 dX9_mustName_129 132 rfl ?_
    refine CVv C dX9_mustName_132 9 k0 (by decide) (r := (RX9, TX9, 44)) rfl rfl hf (fun _ e => mX9_wrong k0 e) lkRX9_137 (by decide) (by decide) rfl [] rfl (Nat.le_of_ble_eq_true rfl) 135 rfl (fun h132 hf => ?_)
    exact A_vret C dX9_mustName_135 E hf
  refine A_aload_n C dX9_mustName_45 (i := 0) rfl 0 rfl 46 rfl ?_
  refine A_str C dX9_mustName_46 (i := 37) (by decide) rfl 48 rfl ?_
  refine CVz C dX9_mustName_48 9 k0 (by decide) (r := (RX9, TX9, 44)) rfl rfl hf (fun _ _ e => mX9_isWord k0 (by decide) e) lkRX9_127 (by decide) (by decide) rfl [] rfl (Nat.le_of_ble_eq_true rfl) 51 rfl (fun r48 h48 hf => ?_)
  refine A_z_ne C dX9_mustName_51 108 (by decide) 54 rfl hf (fun c51 hf => ?_) (fun c51 hf => ?_)
  · refine A_iconst (v := 1) C dX9_mustName_108 (by decide) 109 rfl ?_
    refine A_goto C dX9_mustName_109 113 (by decide) ?_
    refine A_istore_n C dX9_mustName_113 (i := 1) rfl [(1, .int 1), (0, .ref (K.2.1 x0))] (lt_nl hnl (by decide)) rfl 114 rfl ?_
    refine A_aload_n C dX9_mustName_114 (i := 0) rfl 1 rfl 115 rfl ?_
    refine gfRX9_100 C k0 dX9_mustName_115 118 rfl ?_
    refine A_iconst (v := 2) C dX9_mustName_118 (by decide) 119 rfl ?_
    refine A_icmp_ne C dX9_mustName_119 126 (by decide) 122 rfl hf (fun c119 hf => ?_) (fun c119 hf => ?_)
    · refine A_aload_n C dX9_mustName_126 (i := 0) rfl 1 rfl 127 rfl ?_
      refine A_iconst (v := 1) C dX9_mustName_127 (by decide) 128 rfl ?_
      refine A_aload_n C dX9_mustName_128 (i := 0) rfl 1 rfl 129 rfl ?_
      refine gfRX9_91 C k0 dX9_mustName_129 132 rfl ?_
      refine CVv C dX9_mustName_132 9 k0 (by decide) (r := (RX9, TX9, 44)) rfl rfl hf (fun _ e => mX9_wrong k0 e) lkRX9_137 (by decide) (by decide) rfl [] rfl (Nat.le_of_ble_eq_true rfl) 135 rfl (fun h132 hf => ?_)
      exact A_vret C dX9_mustName_135 E hf
    refine A_iload_n C dX9_mustName_122 (i := 1) rfl 0 rfl 123 rfl ?_
    refine N_if_eq C dX9_mustName_123 135 (by decide) (by decide) 126 rfl ?_
    refine A_aload_n C dX9_mustName_126 (i := 0) rfl 1 rfl 127 rfl ?_
    refine A_iconst (v := 1) C dX9_mustName_127 (by decide) 128 rfl ?_
    refine A_aload_n C dX9_mustName_128 (i := 0) rfl 1 rfl 129 rfl ?_
    refine gfRX9_91 C k0 dX9_mustName_129 132 rfl ?_
    refine CVv C dX9_mustName_132 9 k0 (by decide) (r := (RX9, TX9, 44)) rfl rfl hf (fun _ e => mX9_wrong k0 e) lkRX9_137 (by decide) (by decide) rfl [] rfl (Nat.le_of_ble_eq_true rfl) 135 rfl (fun h132 hf => ?_)
    exact A_vret C dX9_mustName_135 E hf
  refine A_aload_n C dX9_mustName_54 (i := 0) rfl 0 rfl 55 rfl ?_
  refine A_str C dX9_mustName_55 (i := 38) (by decide) rfl 57 rfl ?_
  refine CVz C dX9_mustName_57 9 k0 (by decide) (r := (RX9, TX9, 44)) rfl rfl hf (fun _ _ e => mX9_isWord k0 (by decide) e) lkRX9_127 (by decide) (by decide) rfl [] rfl (Nat.le_of_ble_eq_true rfl) 60 rfl (fun r57 h57 hf => ?_)
  refine A_z_ne C dX9_mustName_60 108 (by decide) 63 rfl hf (fun c60 hf => ?_) (fun c60 hf => ?_)
  · refine A_iconst (v := 1) C dX9_mustName_108 (by decide) 109 rfl ?_
    refine A_goto C dX9_mustName_109 113 (by decide) ?_
    refine A_istore_n C dX9_mustName_113 (i := 1) rfl [(1, .int 1), (0, .ref (K.2.1 x0))] (lt_nl hnl (by decide)) rfl 114 rfl ?_
    refine A_aload_n C dX9_mustName_114 (i := 0) rfl 1 rfl 115 rfl ?_
    refine gfRX9_100 C k0 dX9_mustName_115 118 rfl ?_
    refine A_iconst (v := 2) C dX9_mustName_118 (by decide) 119 rfl ?_
    refine A_icmp_ne C dX9_mustName_119 126 (by decide) 122 rfl hf (fun c119 hf => ?_) (fun c119 hf => ?_)
    · refine A_aload_n C dX9_mustName_126 (i := 0) rfl 1 rfl 127 rfl ?_
      refine A_iconst (v := 1) C dX9_mustName_127 (by decide) 128 rfl ?_
      refine A_aload_n C dX9_mustName_128 (i := 0) rfl 1 rfl 129 rfl ?_
      refine gfRX9_91 C k0 dX9_mustName_129 132 rfl ?_
      refine CVv C dX9_mustName_132 9 k0 (by decide) (r := (RX9, TX9, 44)) rfl rfl hf (fun _ e => mX9_wrong k0 e) lkRX9_137 (by decide) (by decide) rfl [] rfl (Nat.le_of_ble_eq_true rfl) 135 rfl (fun h132 hf => ?_)
      exact A_vret C dX9_mustName_135 E hf
    refine A_iload_n C dX9_mustName_122 (i := 1) rfl 0 rfl 123 rfl ?_
    refine N_if_eq C dX9_mustName_123 135 (by decide) (by decide) 126 rfl ?_
    refine A_aload_n C dX9_mustName_126 (i := 0) rfl 1 rfl 127 rfl ?_
    refine A_iconst (v := 1) C dX9_mustName_127 (by decide) 128 rfl ?_
    refine A_aload_n C dX9_mustName_128 (i := 0) rfl 1 rfl 129 rfl ?_
    refine gfRX9_91 C k0 dX9_mustName_129 132 rfl ?_
    refine CVv C dX9_mustName_132 9 k0 (by decide) (r := (RX9, TX9, 44)) rfl rfl hf (fun _ e => mX9_wrong k0 e) lkRX9_137 (by decide) (by decide) rfl [] rfl (Nat.le_of_ble_eq_true rfl) 135 rfl (fun h132 hf => ?_)
    exact A_vret C dX9_mustName_135 E hf
  refine A_aload_n C dX9_mustName_63 (i := 0) rfl 0 rfl 64 rfl ?_
  refine A_str C dX9_mustName_64 (i := 39) (by decide) rfl 66 rfl ?_
  refine CVz C dX9_mustName_66 9 k0 (by decide) (r := (RX9, TX9, 44)) rfl rfl hf (fun _ _ e => mX9_isWord k0 (by decide) e) lkRX9_127 (by decide) (by decide) rfl [] rfl (Nat.le_of_ble_eq_true rfl) 69 rfl (fun r66 h66 hf => ?_)
  refine A_z_ne C dX9_mustName_69 108 (by decide) 72 rfl hf (fun c69 hf => ?_) (fun c69 hf => ?_)
  · refine A_iconst (v := 1) C dX9_mustName_108 (by decide) 109 rfl ?_
    refine A_goto C dX9_mustName_109 113 (by decide) ?_
    refine A_istore_n C dX9_mustName_113 (i := 1) rfl [(1, .int 1), (0, .ref (K.2.1 x0))] (lt_nl hnl (by decide)) rfl 114 rfl ?_
    refine A_aload_n C dX9_mustName_114 (i := 0) rfl 1 rfl 115 rfl ?_
    refine gfRX9_100 C k0 dX9_mustName_115 118 rfl ?_
    refine A_iconst (v := 2) C dX9_mustName_118 (by decide) 119 rfl ?_
    refine A_icmp_ne C dX9_mustName_119 126 (by decide) 122 rfl hf (fun c119 hf => ?_) (fun c119 hf => ?_)
    · refine A_aload_n C dX9_mustName_126 (i := 0) rfl 1 rfl 127 rfl ?_
      refine A_iconst (v := 1) C dX9_mustName_127 (by decide) 128 rfl ?_
      refine A_aload_n C dX9_mustName_128 (i := 0) rfl 1 rfl 129 rfl ?_
      refine gfRX9_91 C k0 dX9_mustName_129 132 rfl ?_
      refine CVv C dX9_mustName_132 9 k0 (by decide) (r := (RX9, TX9, 44)) rfl rfl hf (fun _ e => mX9_wrong k0 e) lkRX9_137 (by decide) (by decide) rfl [] rfl (Nat.le_of_ble_eq_true rfl) 135 rfl (fun h132 hf => ?_)
      exact A_vret C dX9_mustName_135 E hf
    refine A_iload_n C dX9_mustName_122 (i := 1) rfl 0 rfl 123 rfl ?_
    refine N_if_eq C dX9_mustName_123 135 (by decide) (by decide) 126 rfl ?_
    refine A_aload_n C dX9_mustName_126 (i := 0) rfl 1 rfl 127 rfl ?_
    refine A_iconst (v := 1) C dX9_mustName_127 (by decide) 128 rfl ?_
    refine A_aload_n C dX9_mustName_128 (i := 0) rfl 1 rfl 129 rfl ?_
    refine gfRX9_91 C k0 dX9_mustName_129 132 rfl ?_
    refine CVv C dX9_mustName_132 9 k0 (by decide) (r := (RX9, TX9, 44)) rfl rfl hf (fun _ e => mX9_wrong k0 e) lkRX9_137 (by decide) (by decide) rfl [] rfl (Nat.le_of_ble_eq_true rfl) 135 rfl (fun h132 hf => ?_)
    exact A_vret C dX9_mustName_135 E hf
  refine A_aload_n C dX9_mustName_72 (i := 0) rfl 0 rfl 73 rfl ?_
  refine A_str C dX9_mustName_73 (i := 40) (by decide) rfl 75 rfl ?_
  refine CVz C dX9_mustName_75 9 k0 (by decide) (r := (RX9, TX9, 44)) rfl rfl hf (fun _ _ e => mX9_isWord k0 (by decide) e) lkRX9_127 (by decide) (by decide) rfl [] rfl (Nat.le_of_ble_eq_true rfl) 78 rfl (fun r75 h75 hf => ?_)
  refine A_z_ne C dX9_mustName_78 108 (by decide) 81 rfl hf (fun c78 hf => ?_) (fun c78 hf => ?_)
  · refine A_iconst (v := 1) C dX9_mustName_108 (by decide) 109 rfl ?_
    refine A_goto C dX9_mustName_109 113 (by decide) ?_
    refine A_istore_n C dX9_mustName_113 (i := 1) rfl [(1, .int 1), (0, .ref (K.2.1 x0))] (lt_nl hnl (by decide)) rfl 114 rfl ?_
    refine A_aload_n C dX9_mustName_114 (i := 0) rfl 1 rfl 115 rfl ?_
    refine gfRX9_100 C k0 dX9_mustName_115 118 rfl ?_
    refine A_iconst (v := 2) C dX9_mustName_118 (by decide) 119 rfl ?_
    refine A_icmp_ne C dX9_mustName_119 126 (by decide) 122 rfl hf (fun c119 hf => ?_) (fun c119 hf => ?_)
    · refine A_aload_n C dX9_mustName_126 (i := 0) rfl 1 rfl 127 rfl ?_
      refine A_iconst (v := 1) C dX9_mustName_127 (by decide) 128 rfl ?_
      refine A_aload_n C dX9_mustName_128 (i := 0) rfl 1 rfl 129 rfl ?_
      refine gfRX9_91 C k0 dX9_mustName_129 132 rfl ?_
      refine CVv C dX9_mustName_132 9 k0 (by decide) (r := (RX9, TX9, 44)) rfl rfl hf (fun _ e => mX9_wrong k0 e) lkRX9_137 (by decide) (by decide) rfl [] rfl (Nat.le_of_ble_eq_true rfl) 135 rfl (fun h132 hf => ?_)
      exact A_vret C dX9_mustName_135 E hf
    refine A_iload_n C dX9_mustName_122 (i := 1) rfl 0 rfl 123 rfl ?_
    refine N_if_eq C dX9_mustName_123 135 (by decide) (by decide) 126 rfl ?_
    refine A_aload_n C dX9_mustName_126 (i := 0) rfl 1 rfl 127 rfl ?_
    refine A_iconst (v := 1) C dX9_mustName_127 (by decide) 128 rfl ?_
    refine A_aload_n C dX9_mustName_128 (i := 0) rfl 1 rfl 129 rfl ?_
    refine gfRX9_91 C k0 dX9_mustName_129 132 rfl ?_
    refine CVv C dX9_mustName_132 9 k0 (by decide) (r := (RX9, TX9, 44)) rfl rfl hf (fun _ e => mX9_wrong k0 e) lkRX9_137 (by decide) (by decide) rfl [] rfl (Nat.le_of_ble_eq_true rfl) 135 rfl (fun h132 hf => ?_)
    exact A_vret C dX9_mustName_135 E hf
  refine A_aload_n C dX9_mustName_81 (i := 0) rfl 0 rfl 82 rfl ?_
  refine A_str C dX9_mustName_82 (i := 41) (by decide) rfl 84 rfl ?_
  refine CVz C dX9_mustName_84 9 k0 (by decide) (r := (RX9, TX9, 44)) rfl rfl hf (fun _ _ e => mX9_isWord k0 (by decide) e) lkRX9_127 (by decide) (by decide) rfl [] rfl (Nat.le_of_ble_eq_true rfl) 87 rfl (fun r84 h84 hf => ?_)
  refine A_z_ne C dX9_mustName_87 108 (by decide) 90 rfl hf (fun c87 hf => ?_) (fun c87 hf => ?_)
  · refine A_iconst (v := 1) C dX9_mustName_108 (by decide) 109 rfl ?_
    refine A_goto C dX9_mustName_109 113 (by decide) ?_
    refine A_istore_n C dX9_mustName_113 (i := 1) rfl [(1, .int 1), (0, .ref (K.2.1 x0))] (lt_nl hnl (by decide)) rfl 114 rfl ?_
    refine A_aload_n C dX9_mustName_114 (i := 0) rfl 1 rfl 115 rfl ?_
    refine gfRX9_100 C k0 dX9_mustName_115 118 rfl ?_
    refine A_iconst (v := 2) C dX9_mustName_118 (by decide) 119 rfl ?_
    refine A_icmp_ne C dX9_mustName_119 126 (by decide) 122 rfl hf (fun c119 hf => ?_) (fun c119 hf => ?_)
    · refine A_aload_n C dX9_mustName_126 (i := 0) rfl 1 rfl 127 rfl ?_
      refine A_iconst (v := 1) C dX9_mustName_127 (by decide) 128 rfl ?_
      refine A_aload_n C dX9_mustName_128 (i := 0) rfl 1 rfl 129 rfl ?_
      refine gfRX9_91 C k0 dX9_mustName_129 132 rfl ?_
      refine CVv C dX9_mustName_132 9 k0 (by decide) (r := (RX9, TX9, 44)) rfl rfl hf (fun _ e => mX9_wrong k0 e) lkRX9_137 (by decide) (by decide) rfl [] rfl (Nat.le_of_ble_eq_true rfl) 135 rfl (fun h132 hf => ?_)
      exact A_vret C dX9_mustName_135 E hf
    refine A_iload_n C dX9_mustName_122 (i := 1) rfl 0 rfl 123 rfl ?_
    refine N_if_eq C dX9_mustName_123 135 (by decide) (by decide) 126 rfl ?_
    refine A_aload_n C dX9_mustName_126 (i := 0) rfl 1 rfl 127 rfl ?_
    refine A_iconst (v := 1) C dX9_mustName_127 (by decide) 128 rfl ?_
    refine A_aload_n C dX9_mustName_128 (i := 0) rfl 1 rfl 129 rfl ?_
    refine gfRX9_91 C k0 dX9_mustName_129 132 rfl ?_
    refine CVv C dX9_mustName_132 9 k0 (by decide) (r := (RX9, TX9, 44)) rfl rfl hf (fun _ e => mX9_wrong k0 e) lkRX9_137 (by decide) (by decide) rfl [] rfl (Nat.le_of_ble_eq_true rfl) 135 rfl (fun h132 hf => ?_)
    exact A_vret C dX9_mustName_135 E hf
  refine A_aload_n C dX9_mustName_90 (i := 0) rfl 0 rfl 91 rfl ?_
  refine A_str C dX9_mustName_91 (i := 42) (by decide) rfl 93 rfl ?_
  refine CVz C dX9_mustName_93 9 k0 (by decide) (r := (RX9, TX9, 44)) rfl rfl hf (fun _ _ e => mX9_isWord k0 (by decide) e) lkRX9_127 (by decide) (by decide) rfl [] rfl (Nat.le_of_ble_eq_true rfl) 96 rfl (fun r93 h93 hf => ?_)
  refine A_z_ne C dX9_mustName_96 108 (by decide) 99 rfl hf (fun c96 hf => ?_) (fun c96 hf => ?_)
  · refine A_iconst (v := 1) C dX9_mustName_108 (by decide) 109 rfl ?_
    refine A_goto C dX9_mustName_109 113 (by decide) ?_
    refine A_istore_n C dX9_mustName_113 (i := 1) rfl [(1, .int 1), (0, .ref (K.2.1 x0))] (lt_nl hnl (by decide)) rfl 114 rfl ?_
    refine A_aload_n C dX9_mustName_114 (i := 0) rfl 1 rfl 115 rfl ?_
    refine gfRX9_100 C k0 dX9_mustName_115 118 rfl ?_
    refine A_iconst (v := 2) C dX9_mustName_118 (by decide) 119 rfl ?_
    refine A_icmp_ne C dX9_mustName_119 126 (by decide) 122 rfl hf (fun c119 hf => ?_) (fun c119 hf => ?_)
    · refine A_aload_n C dX9_mustName_126 (i := 0) rfl 1 rfl 127 rfl ?_
      refine A_iconst (v := 1) C dX9_mustName_127 (by decide) 128 rfl ?_
      refine A_aload_n C dX9_mustName_128 (i := 0) rfl 1 rfl 129 rfl ?_
      refine gfRX9_91 C k0 dX9_mustName_129 132 rfl ?_
      refine CVv C dX9_mustName_132 9 k0 (by decide) (r := (RX9, TX9, 44)) rfl rfl hf (fun _ e => mX9_wrong k0 e) lkRX9_137 (by decide) (by decide) rfl [] rfl (Nat.le_of_ble_eq_true rfl) 135 rfl (fun h132 hf => ?_)
      exact A_vret C dX9_mustName_135 E hf
    refine A_iload_n C dX9_mustName_122 (i := 1) rfl 0 rfl 123 rfl ?_
    refine N_if_eq C dX9_mustName_123 135 (by decide) (by decide) 126 rfl ?_
    refine A_aload_n C dX9_mustName_126 (i := 0) rfl 1 rfl 127 rfl ?_
    refine A_iconst (v := 1) C dX9_mustName_127 (by decide) 128 rfl ?_
    refine A_aload_n C dX9_mustName_128 (i := 0) rfl 1 rfl 129 rfl ?_
    refine gfRX9_91 C k0 dX9_mustName_129 132 rfl ?_
    refine CVv C dX9_mustName_132 9 k0 (by decide) (r := (RX9, TX9, 44)) rfl rfl hf (fun _ e => mX9_wrong k0 e) lkRX9_137 (by decide) (by decide) rfl [] rfl (Nat.le_of_ble_eq_true rfl) 135 rfl (fun h132 hf => ?_)
    exact A_vret C dX9_mustName_135 E hf
  refine A_aload_n C dX9_mustName_99 (i := 0) rfl 0 rfl 100 rfl ?_
  refine A_str C dX9_mustName_100 (i := 43) (by decide) rfl 102 rfl ?_
  refine CVz C dX9_mustName_102 9 k0 (by decide) (r := (RX9, TX9, 44)) rfl rfl hf (fun _ _ e => mX9_isWord k0 (by decide) e) lkRX9_127 (by decide) (by decide) rfl [] rfl (Nat.le_of_ble_eq_true rfl) 105 rfl (fun r102 h102 hf => ?_)
  refine A_z_eq C dX9_mustName_105 112 (by decide) 108 rfl hf (fun c105 hf => ?_) (fun c105 hf => ?_)
  · refine A_iconst (v := 0) C dX9_mustName_112 (by decide) 113 rfl ?_
    refine A_istore_n C dX9_mustName_113 (i := 1) rfl [(1, .int 0), (0, .ref (K.2.1 x0))] (lt_nl hnl (by decide)) rfl 114 rfl ?_
    refine A_aload_n C dX9_mustName_114 (i := 0) rfl 1 rfl 115 rfl ?_
    refine gfRX9_100 C k0 dX9_mustName_115 118 rfl ?_
    refine A_iconst (v := 2) C dX9_mustName_118 (by decide) 119 rfl ?_
    refine A_icmp_ne C dX9_mustName_119 126 (by decide) 122 rfl hf (fun c119 hf => ?_) (fun c119 hf => ?_)
    · refine A_aload_n C dX9_mustName_126 (i := 0) rfl 1 rfl 127 rfl ?_
      refine A_iconst (v := 1) C dX9_mustName_127 (by decide) 128 rfl ?_
      refine A_aload_n C dX9_mustName_128 (i := 0) rfl 1 rfl 129 rfl ?_
      refine gfRX9_91 C k0 dX9_mustName_129 132 rfl ?_
      refine CVv C dX9_mustName_132 9 k0 (by decide) (r := (RX9, TX9, 44)) rfl rfl hf (fun _ e => mX9_wrong k0 e) lkRX9_137 (by decide) (by decide) rfl [] rfl (Nat.le_of_ble_eq_true rfl) 135 rfl (fun h132 hf => ?_)
      exact A_vret C dX9_mustName_135 E hf
    refine A_iload_n C dX9_mustName_122 (i := 1) rfl 0 rfl 123 rfl ?_
    refine T_if_eq C dX9_mustName_123 135 (by decide) (by decide) ?_
    exact A_vret C dX9_mustName_135 E hf
  refine A_iconst (v := 1) C dX9_mustName_108 (by decide) 109 rfl ?_
  refine A_goto C dX9_mustName_109 113 (by decide) ?_
  refine A_istore_n C dX9_mustName_113 (i := 1) rfl [(1, .int 1), (0, .ref (K.2.1 x0))] (lt_nl hnl (by decide)) rfl 114 rfl ?_
  refine A_aload_n C dX9_mustName_114 (i := 0) rfl 1 rfl 115 rfl ?_
  refine gfRX9_100 C k0 dX9_mustName_115 118 rfl ?_
  refine A_iconst (v := 2) C dX9_mustName_118 (by decide) 119 rfl ?_
  refine A_icmp_ne C dX9_mustName_119 126 (by decide) 122 rfl hf (fun c119 hf => ?_) (fun c119 hf => ?_)
  · refine A_aload_n C dX9_mustName_126 (i := 0) rfl 1 rfl 127 rfl ?_
    refine A_iconst (v := 1) C dX9_mustName_127 (by decide) 128 rfl ?_
    refine A_aload_n C dX9_mustName_128 (i := 0) rfl 1 rfl 129 rfl ?_
    refine gfRX9_91 C k0 dX9_mustName_129 132 rfl ?_
    refine CVv C dX9_mustName_132 9 k0 (by decide) (r := (RX9, TX9, 44)) rfl rfl hf (fun _ e => mX9_wrong k0 e) lkRX9_137 (by decide) (by decide) rfl [] rfl (Nat.le_of_ble_eq_true rfl) 135 rfl (fun h132 hf => ?_)
    exact A_vret C dX9_mustName_135 E hf
  refine A_iload_n C dX9_mustName_122 (i := 1) rfl 0 rfl 123 rfl ?_
  refine N_if_eq C dX9_mustName_123 135 (by decide) (by decide) 126 rfl ?_
  refine A_aload_n C dX9_mustName_126 (i := 0) rfl 1 rfl 127 rfl ?_
  refine A_iconst (v := 1) C dX9_mustName_127 (by decide) 128 rfl ?_
  refine A_aload_n C dX9_mustName_128 (i := 0) rfl 1 rfl 129 rfl ?_
  refine gfRX9_91 C k0 dX9_mustName_129 132 rfl ?_
  refine CVv C dX9_mustName_132 9 k0 (by decide) (r := (RX9, TX9, 44)) rfl rfl hf (fun _ e => mX9_wrong k0 e) lkRX9_137 (by decide) (by decide) rfl [] rfl (Nat.le_of_ble_eq_true rfl) 135 rfl (fun h132 hf => ?_)
  exact A_vret C dX9_mustName_135 E hf
set_option maxRecDepth 20000 in
theorem wX9_find_L46 {K : KX} {G : GX} (C : Ok K G 1 cX9_find RX9) (hnl : G.2.2.2.2.2.2.2.2.2.2.2.2.2 = 4) {rv : Int32} {hv : HH} (E : Endd K G (some .int) (some (.int rv)) hv) {x0 : Nat} {x1 : Int32} {k46_94 : Bool → HH → Option (Int32 × HH)}  (Hk46_94 : ∀ (x2 : Bool) (h : HH), k46_94 x2 h = some (rv, hv) → At K G 94 [(0, .ref (K.2.1 x0)), (1, .int x1), (2, .int (b2i x2))] [] h) (kx0 : isK 9 x0) : ∀ (self46 : Bool → Int32 → HH → Option (Int32 × HH)), (∀ (x2 : Bool) (x3 : Int32) (h : HH), self46 x2 x3 h = some (rv, hv) → At K G 46 [(0, .ref (K.2.1 x0)), (1, .int x1), (2, .int (b2i x2)), (3, .int x3)] [] h) → ∀ (x2 : Bool) (x3 : Int32) (h : HH), fX9_find_L46 k46_94 x0 x1 self46 x2 x3 h = some (rv, hv) → At K G 46 [(0, .ref (K.2.1 x0)), (1, .int x1), (2, .int (b2i x2)), (3, .int x3)] [] h := by
  intro self46 Hself46 x2 x3 h hf
  unfold fX9_find_L46 at hf
  refine A_iload_n C dX9_find_46 (i := 3) rfl 3 rfl 47 rfl ?_
  refine A_aload_n C dX9_find_47 (i := 0) rfl 0 rfl 48 rfl ?_
  refine gfRX9_94 C kx0 dX9_find_48 51 rfl ?_
  refine A_icmp_ge C dX9_find_51 94 (by decide) 54 rfl hf (fun c51 hf => ?_) (fun c51 hf => ?_)
  · refine A_sub [0, 1, 2] (lv' := [(0, .ref (K.2.1 x0)), (1, .int x1), (2, .int (b2i x2))]) rfl ?_
    exact Hk46_94 _ _ hf
  refine A_iload_n C dX9_find_54 (i := 2) rfl 2 rfl 55 rfl ?_
  refine A_z_eq C dX9_find_55 94 (by decide) 58 rfl hf (fun c55 hf => ?_) (fun c55 hf => ?_)
  · refine A_sub [0, 1, 2] (lv' := [(0, .ref (K.2.1 x0)), (1, .int x1), (2, .int (b2i x2))]) rfl ?_
    exact Hk46_94 _ _ hf
  refine A_aload_n C dX9_find_58 (i := 0) rfl 0 rfl 59 rfl ?_
  refine gfRX9_23 C kx0 dX9_find_59 62 rfl ?_
  refine A_sipush (v := 204) C dX9_find_62 (by decide) 65 rfl ?_
  refine A_bipush (v := 8) C dX9_find_65 (by decide) 67 rfl ?_
  refine A_iload_n C dX9_find_67 (i := 1) rfl 1 rfl 68 rfl ?_
  refine A_imul C dX9_find_68 69 rfl ?_
  refine A_iadd C dX9_find_69 70 rfl ?_
  refine A_iload_n C dX9_find_70 (i := 3) rfl 3 rfl 71 rfl ?_
  refine A_iadd C dX9_find_71 72 rfl ?_
  refine A_iald C dX9_find_72 (of_9_16 kx0) hf 73 rfl (fun hf => ?_)
  refine A_aload_n C dX9_find_73 (i := 0) rfl 0 rfl 74 rfl ?_
  refine gfRX9_17 C kx0 dX9_find_74 77 rfl ?_
  refine A_iload_n C dX9_find_77 (i := 3) rfl 3 rfl 78 rfl ?_
  refine A_iald C dX9_find_78 (of_9_12 kx0) hf 79 rfl (fun hf => ?_)
  refine A_icmp_ne C dX9_find_79 86 (by decide) 82 rfl hf (fun c79 hf => ?_) (fun c79 hf => ?_)
  · refine A_iconst (v := 0) C dX9_find_86 (by decide) 87 rfl ?_
    refine A_istore_n C dX9_find_87 (i := 2) rfl [(2, .int 0), (0, .ref (K.2.1 x0)), (1, .int x1), (3, .int x3)] (lt_nl hnl (by decide)) rfl 88 rfl ?_
    refine A_iinc (v := (x3 + 1)) C dX9_find_88 3 rfl rfl [(3, .int (x3 + 1)), (2, .int 0), (0, .ref (K.2.1 x0)), (1, .int x1)] (lt_nl hnl (by decide)) rfl 91 rfl ?_
    refine A_goto C dX9_find_91 46 (by decide) ?_
    refine A_sub [2, 3, 1, 0] (lv' := [(0, .ref (K.2.1 x0)), (1, .int x1), (2, .int (b2i false)), (3, .int (x3 + 1))]) rfl ?_
    exact Hself46 _ _ _ hf
  refine A_iconst (v := 1) C dX9_find_82 (by decide) 83 rfl ?_
  refine A_goto C dX9_find_83 87 (by decide) ?_
  refine A_istore_n C dX9_find_87 (i := 2) rfl [(2, .int 1), (0, .ref (K.2.1 x0)), (1, .int x1), (3, .int x3)] (lt_nl hnl (by decide)) rfl 88 rfl ?_
  refine A_iinc (v := (x3 + 1)) C dX9_find_88 3 rfl rfl [(3, .int (x3 + 1)), (2, .int 1), (0, .ref (K.2.1 x0)), (1, .int x1)] (lt_nl hnl (by decide)) rfl 91 rfl ?_
  refine A_goto C dX9_find_91 46 (by decide) ?_
  refine A_sub [2, 3, 1, 0] (lv' := [(0, .ref (K.2.1 x0)), (1, .int x1), (2, .int (b2i true)), (3, .int (x3 + 1))]) rfl ?_
  exact Hself46 _ _ _ hf
set_option maxRecDepth 20000 in
theorem wX9_find_L2 {K : KX} {G : GX} (C : Ok K G 1 cX9_find RX9) (hnl : G.2.2.2.2.2.2.2.2.2.2.2.2.2 = 4) {rv : Int32} {hv : HH} (E : Endd K G (some .int) (some (.int rv)) hv) {x0 : Nat}   (kx0 : isK 9 x0) : ∀ (self2 : Int32 → HH → Option (Int32 × HH)), (∀ (x1 : Int32) (h : HH), self2 x1 h = some (rv, hv) → At K G 2 [(0, .ref (K.2.1 x0)), (1, .int x1)] [] h) → ∀ (x1 : Int32) (h : HH), fX9_find_L2 x0 self2 x1 h = some (rv, hv) → At K G 2 [(0, .ref (K.2.1 x0)), (1, .int x1)] [] h := by
  intro self2 Hself2 x1 h hf
  unfold fX9_find_L2 at hf
  refine A_iload_n C dX9_find_2 (i := 1) rfl 1 rfl 3 rfl ?_
  refine A_bipush (v := 14) C dX9_find_3 (by decide) 5 rfl ?_
  refine A_icmp_ge C dX9_find_5 106 (by decide) 8 rfl hf (fun c5 hf => ?_) (fun c5 hf => ?_)
  · refine A_iconst (v := (-1)) C dX9_find_106 (by decide) 107 rfl ?_
    exact A_iret C dX9_find_107 E hf
  refine A_aload_n C dX9_find_8 (i := 0) rfl 0 rfl 9 rfl ?_
  refine gfRX9_23 C kx0 dX9_find_9 12 rfl ?_
  refine A_sipush (v := 190) C dX9_find_12 (by decide) 15 rfl ?_
  refine A_iload_n C dX9_find_15 (i := 1) rfl 1 rfl 16 rfl ?_
  refine A_iadd C dX9_find_16 17 rfl ?_
  refine A_iald C dX9_find_17 (of_9_16 kx0) hf 18 rfl (fun hf => ?_)
  refine A_if_le C dX9_find_18 42 (by decide) 21 rfl hf (fun c18 hf => ?_) (fun c18 hf => ?_)
  · refine A_iconst (v := 0) C dX9_find_42 (by decide) 43 rfl ?_
    refine A_istore_n C dX9_find_43 (i := 2) rfl [(2, .int 0), (0, .ref (K.2.1 x0)), (1, .int x1)] (lt_nl hnl (by decide)) rfl 44 rfl ?_
    refine A_iconst (v := 0) C dX9_find_44 (by decide) 45 rfl ?_
    refine A_istore_n C dX9_find_45 (i := 3) rfl [(3, .int 0), (2, .int 0), (0, .ref (K.2.1 x0)), (1, .int x1)] (lt_nl hnl (by decide)) rfl 46 rfl ?_
    refine A_sub [2, 3, 1, 0] (lv' := [(0, .ref (K.2.1 x0)), (1, .int x1), (2, .int (b2i false)), (3, .int 0)]) rfl ?_
    refine lq2_at (wX9_find_L46 C hnl E (fun x2 h hf => ?_) kx0) FU _ _ _ hf
    refine A_iload_n C dX9_find_94 (i := 2) rfl 2 rfl 95 rfl ?_
    refine A_z_eq C dX9_find_95 100 (by decide) 98 rfl hf (fun c95 hf => ?_) (fun c95 hf => ?_)
    · refine A_iinc (v := (x1 + 1)) C dX9_find_100 1 rfl rfl [(1, .int (x1 + 1)), (0, .ref (K.2.1 x0)), (2, .int (b2i x2))] (lt_nl hnl (by decide)) rfl 103 rfl ?_
      refine A_goto C dX9_find_103 2 (by decide) ?_
      refine A_sub [1, 0] (lv' := [(0, .ref (K.2.1 x0)), (1, .int (x1 + 1))]) rfl ?_
      exact Hself2 _ _ hf
    refine A_iload_n C dX9_find_98 (i := 1) rfl 1 rfl 99 rfl ?_
    exact A_iret C dX9_find_99 E hf
  refine A_aload_n C dX9_find_21 (i := 0) rfl 0 rfl 22 rfl ?_
  refine gfRX9_23 C kx0 dX9_find_22 25 rfl ?_
  refine A_sipush (v := 190) C dX9_find_25 (by decide) 28 rfl ?_
  refine A_iload_n C dX9_find_28 (i := 1) rfl 1 rfl 29 rfl ?_
  refine A_iadd C dX9_find_29 30 rfl ?_
  refine A_iald C dX9_find_30 (of_9_16 kx0) hf 31 rfl (fun hf => ?_)
  refine A_aload_n C dX9_find_31 (i := 0) rfl 0 rfl 32 rfl ?_
  refine gfRX9_94 C kx0 dX9_find_32 35 rfl ?_
  refine A_icmp_ne C dX9_find_35 42 (by decide) 38 rfl hf (fun c35 hf => ?_) (fun c35 hf => ?_)
  · refine A_iconst (v := 0) C dX9_find_42 (by decide) 43 rfl ?_
    refine A_istore_n C dX9_find_43 (i := 2) rfl [(2, .int 0), (0, .ref (K.2.1 x0)), (1, .int x1)] (lt_nl hnl (by decide)) rfl 44 rfl ?_
    refine A_iconst (v := 0) C dX9_find_44 (by decide) 45 rfl ?_
    refine A_istore_n C dX9_find_45 (i := 3) rfl [(3, .int 0), (2, .int 0), (0, .ref (K.2.1 x0)), (1, .int x1)] (lt_nl hnl (by decide)) rfl 46 rfl ?_
    refine A_sub [2, 3, 1, 0] (lv' := [(0, .ref (K.2.1 x0)), (1, .int x1), (2, .int (b2i false)), (3, .int 0)]) rfl ?_
    refine lq2_at (wX9_find_L46 C hnl E (fun x2 h hf => ?_) kx0) FU _ _ _ hf
    refine A_iload_n C dX9_find_94 (i := 2) rfl 2 rfl 95 rfl ?_
    refine A_z_eq C dX9_find_95 100 (by decide) 98 rfl hf (fun c95 hf => ?_) (fun c95 hf => ?_)
    · refine A_iinc (v := (x1 + 1)) C dX9_find_100 1 rfl rfl [(1, .int (x1 + 1)), (0, .ref (K.2.1 x0)), (2, .int (b2i x2))] (lt_nl hnl (by decide)) rfl 103 rfl ?_
      refine A_goto C dX9_find_103 2 (by decide) ?_
      refine A_sub [1, 0] (lv' := [(0, .ref (K.2.1 x0)), (1, .int (x1 + 1))]) rfl ?_
      exact Hself2 _ _ hf
    refine A_iload_n C dX9_find_98 (i := 1) rfl 1 rfl 99 rfl ?_
    exact A_iret C dX9_find_99 E hf
  refine A_iconst (v := 1) C dX9_find_38 (by decide) 39 rfl ?_
  refine A_goto C dX9_find_39 43 (by decide) ?_
  refine A_istore_n C dX9_find_43 (i := 2) rfl [(2, .int 1), (0, .ref (K.2.1 x0)), (1, .int x1)] (lt_nl hnl (by decide)) rfl 44 rfl ?_
  refine A_iconst (v := 0) C dX9_find_44 (by decide) 45 rfl ?_
  refine A_istore_n C dX9_find_45 (i := 3) rfl [(3, .int 0), (2, .int 1), (0, .ref (K.2.1 x0)), (1, .int x1)] (lt_nl hnl (by decide)) rfl 46 rfl ?_
  refine A_sub [2, 3, 1, 0] (lv' := [(0, .ref (K.2.1 x0)), (1, .int x1), (2, .int (b2i true)), (3, .int 0)]) rfl ?_
  refine lq2_at (wX9_find_L46 C hnl E (fun x2 h hf => ?_) kx0) FU _ _ _ hf
  refine A_iload_n C dX9_find_94 (i := 2) rfl 2 rfl 95 rfl ?_
  refine A_z_eq C dX9_find_95 100 (by decide) 98 rfl hf (fun c95 hf => ?_) (fun c95 hf => ?_)
  · refine A_iinc (v := (x1 + 1)) C dX9_find_100 1 rfl rfl [(1, .int (x1 + 1)), (0, .ref (K.2.1 x0)), (2, .int (b2i x2))] (lt_nl hnl (by decide)) rfl 103 rfl ?_
    refine A_goto C dX9_find_103 2 (by decide) ?_
    refine A_sub [1, 0] (lv' := [(0, .ref (K.2.1 x0)), (1, .int (x1 + 1))]) rfl ?_
    exact Hself2 _ _ hf
  refine A_iload_n C dX9_find_98 (i := 1) rfl 1 rfl 99 rfl ?_
  exact A_iret C dX9_find_99 E hf
set_option maxRecDepth 20000 in
theorem mX9_find {K : KX} {x0 : Nat} (k0 : isK 9 x0) {h : HH} {rv : Int32} {hv : HH} (hf : fX9_find x0 h = some (rv, hv)) : MR K yX9_find cX9_find 4 (some .int) 1 [.ref (K.2.1 x0)] h (some (.int rv)) hv := by
  refine MR_of (by decide) (Nat.le_of_ble_eq_true rfl) (fun G C E hnl => ?_)
  have C : Ok K G 1 cX9_find RX9 := C
  refine (show At K G 0 [(0, .ref (K.2.1 x0))] [] h from ?_)
  unfold fX9_find at hf
  refine A_iconst (v := 0) C dX9_find_0 (by decide) 1 rfl ?_
  refine A_istore_n C dX9_find_1 (i := 1) rfl [(1, .int 0), (0, .ref (K.2.1 x0))] (lt_nl hnl (by decide)) rfl 2 rfl ?_
  refine A_sub [1, 0] (lv' := [(0, .ref (K.2.1 x0)), (1, .int 0)]) rfl ?_
  refine lq1_at (wX9_find_L2 C hnl E k0) FU _ _ hf
set_option maxRecDepth 20000 in
theorem wX9_newName_L45 {K : KX} {G : GX} (C : Ok K G 8 cX9_newName RX9) (hnl : G.2.2.2.2.2.2.2.2.2.2.2.2.2 = 3) {rv : HH} (E : Endd K G none none rv) {x0 : Nat} {x1 : Int32}   (kx0 : isK 9 x0) : ∀ (self45 : Int32 → HH → Option (HH)), (∀ (x2 : Int32) (h : HH), self45 x2 h = some rv → At K G 45 [(0, .ref (K.2.1 x0)), (1, .int x1), (2, .int x2)] [] h) → ∀ (x2 : Int32) (h : HH), fX9_newName_L45 x0 x1 self45 x2 h = some rv → At K G 45 [(0, .ref (K.2.1 x0)), (1, .int x1), (2, .int x2)] [] h := by
  intro self45 Hself45 x2 h hf
  unfold fX9_newName_L45 at hf
  refine A_iload_n C dX9_newName_45 (i := 2) rfl 2 rfl 46 rfl ?_
  refine A_aload_n C dX9_newName_46 (i := 0) rfl 0 rfl 47 rfl ?_
  refine gfRX9_94 C kx0 dX9_newName_47 50 rfl ?_
  refine A_icmp_ge C dX9_newName_50 80 (by decide) 53 rfl hf (fun c50 hf => ?_) (fun c50 hf => ?_)
  · refine A_aload_n C dX9_newName_80 (i := 0) rfl 0 rfl 81 rfl ?_
    refine gfRX9_23 C kx0 dX9_newName_81 84 rfl ?_
    refine A_sipush (v := 190) C dX9_newName_84 (by decide) 87 rfl ?_
    refine A_iload_n C dX9_newName_87 (i := 1) rfl 1 rfl 88 rfl ?_
    refine A_iadd C dX9_newName_88 89 rfl ?_
    refine A_aload_n C dX9_newName_89 (i := 0) rfl 0 rfl 90 rfl ?_
    refine gfRX9_94 C kx0 dX9_newName_90 93 rfl ?_
    refine A_iast C dX9_newName_93 (of_9_16 kx0) hf 94 rfl (fun hf => ?_)
    refine A_aload_n C dX9_newName_94 (i := 0) rfl 0 rfl 95 rfl ?_
    refine CVv C dX9_newName_95 9 kx0 (by decide) (r := (RX9, TX9, 44)) rfl rfl hf (fun _ e => mX9_next kx0 e) lkRX9_131 (by decide) (by decide) rfl [] rfl (Nat.le_of_ble_eq_true rfl) 98 rfl (fun h95 hf => ?_)
    exact A_vret C dX9_newName_98 E hf
  refine A_aload_n C dX9_newName_53 (i := 0) rfl 0 rfl 54 rfl ?_
  refine gfRX9_23 C kx0 dX9_newName_54 57 rfl ?_
  refine A_sipush (v := 204) C dX9_newName_57 (by decide) 60 rfl ?_
  refine A_bipush (v := 8) C dX9_newName_60 (by decide) 62 rfl ?_
  refine A_iload_n C dX9_newName_62 (i := 1) rfl 1 rfl 63 rfl ?_
  refine A_imul C dX9_newName_63 64 rfl ?_
  refine A_iadd C dX9_newName_64 65 rfl ?_
  refine A_iload_n C dX9_newName_65 (i := 2) rfl 2 rfl 66 rfl ?_
  refine A_iadd C dX9_newName_66 67 rfl ?_
  refine A_aload_n C dX9_newName_67 (i := 0) rfl 0 rfl 68 rfl ?_
  refine gfRX9_17 C kx0 dX9_newName_68 71 rfl ?_
  refine A_iload_n C dX9_newName_71 (i := 2) rfl 2 rfl 72 rfl ?_
  refine A_iald C dX9_newName_72 (of_9_12 kx0) hf 73 rfl (fun hf => ?_)
  refine A_iast C dX9_newName_73 (of_9_16 kx0) hf 74 rfl (fun hf => ?_)
  refine A_iinc (v := (x2 + 1)) C dX9_newName_74 2 rfl rfl [(2, .int (x2 + 1)), (0, .ref (K.2.1 x0)), (1, .int x1)] (lt_nl hnl (by decide)) rfl 77 rfl ?_
  refine A_goto C dX9_newName_77 45 (by decide) ?_
  refine A_sub [1, 2, 0] (lv' := [(0, .ref (K.2.1 x0)), (1, .int x1), (2, .int (x2 + 1))]) rfl ?_
  exact Hself45 _ _ hf
set_option maxRecDepth 20000 in
theorem mX9_newName {K : KX} {x0 : Nat} {x1 : Int32} (k0 : isK 9 x0) {h : HH} {rv : HH} (hf : fX9_newName x0 x1 h = some rv) : MR K yX9_newName cX9_newName 3 none 8 [.ref (K.2.1 x0), .int x1] h none rv := by
  refine MR_of (by decide) (Nat.le_of_ble_eq_true rfl) (fun G C E hnl => ?_)
  have C : Ok K G 8 cX9_newName RX9 := C
  refine (show At K G 0 [(0, .ref (K.2.1 x0)), (1, .int x1)] [] h from ?_)
  unfold fX9_newName at hf
  refine A_aload_n C dX9_newName_0 (i := 0) rfl 0 rfl 1 rfl ?_
  refine gfRX9_110 C k0 dX9_newName_1 4 rfl ?_
  refine A_if_eq C dX9_newName_4 8 (by decide) 7 rfl hf (fun c4 hf => ?_) (fun c4 hf => ?_)
  · refine A_aload_n C dX9_newName_8 (i := 0) rfl 0 rfl 9 rfl ?_
    refine CVv C dX9_newName_9 9 k0 (by decide) (r := (RX9, TX9, 44)) rfl rfl hf (fun _ e => mX9_mustName k0 e) lkRX9_164 (by decide) (by decide) rfl [] rfl (Nat.le_of_ble_eq_true rfl) 12 rfl (fun h9 hf => ?_)
    refine A_aload_n C dX9_newName_12 (i := 0) rfl 0 rfl 13 rfl ?_
    refine gfRX9_110 C k0 dX9_newName_13 16 rfl ?_
    refine A_if_ne C dX9_newName_16 35 (by decide) 19 rfl hf (fun c16 hf => ?_) (fun c16 hf => ?_)
    · refine A_aload_n C dX9_newName_35 (i := 0) rfl 0 rfl 36 rfl ?_
      refine gfRX9_110 C k0 dX9_newName_36 39 rfl ?_
      refine A_if_eq C dX9_newName_39 43 (by decide) 42 rfl hf (fun c39 hf => ?_) (fun c39 hf => ?_)
      · refine A_iconst (v := 0) C dX9_newName_43 (by decide) 44 rfl ?_
        refine A_istore_n C dX9_newName_44 (i := 2) rfl [(2, .int 0), (0, .ref (K.2.1 x0)), (1, .int x1)] (lt_nl hnl (by decide)) rfl 45 rfl ?_
        refine A_sub [1, 2, 0] (lv' := [(0, .ref (K.2.1 x0)), (1, .int x1), (2, .int 0)]) rfl ?_
        refine lq1_at (wX9_newName_L45 C hnl E k0) FU _ _ hf
      exact A_vret C dX9_newName_42 E hf
    refine A_aload_n C dX9_newName_19 (i := 0) rfl 0 rfl 20 rfl ?_
    refine CVi C dX9_newName_20 9 k0 (by decide) (r := (RX9, TX9, 44)) rfl rfl hf (fun _ _ e => mX9_find k0 e) lkRX9_167 (by decide) (by decide) rfl [] rfl (Nat.le_of_ble_eq_true rfl) 23 rfl (fun r20 h20 hf => ?_)
    refine A_if_lt C dX9_newName_23 35 (by decide) 26 rfl hf (fun c23 hf => ?_) (fun c23 hf => ?_)
    · refine A_aload_n C dX9_newName_35 (i := 0) rfl 0 rfl 36 rfl ?_
      refine gfRX9_110 C k0 dX9_newName_36 39 rfl ?_
      refine A_if_eq C dX9_newName_39 43 (by decide) 42 rfl hf (fun c39 hf => ?_) (fun c39 hf => ?_)
      · refine A_iconst (v := 0) C dX9_newName_43 (by decide) 44 rfl ?_
        refine A_istore_n C dX9_newName_44 (i := 2) rfl [(2, .int 0), (0, .ref (K.2.1 x0)), (1, .int x1)] (lt_nl hnl (by decide)) rfl 45 rfl ?_
        refine A_sub [1, 2, 0] (lv' := [(0, .ref (K.2.1 x0)), (1, .int x1), (2, .int 0)]) rfl ?_
        refine lq1_at (wX9_newName_L45 C hnl E k0) FU _ _ hf
      exact A_vret C dX9_newName_42 E hf
    refine A_aload_n C dX9_newName_26 (i := 0) rfl 0 rfl 27 rfl ?_
    refine A_iconst (v := 3) C dX9_newName_27 (by decide) 28 rfl ?_
    refine A_aload_n C dX9_newName_28 (i := 0) rfl 0 rfl 29 rfl ?_
    refine gfRX9_91 C k0 dX9_newName_29 32 rfl ?_
    refine CVv C dX9_newName_32 9 k0 (by decide) (r := (RX9, TX9, 44)) rfl rfl hf (fun _ e => mX9_wrong k0 e) lkRX9_137 (by decide) (by decide) rfl [] rfl (Nat.le_of_ble_eq_true rfl) 35 rfl (fun h32 hf => ?_)
    refine A_aload_n C dX9_newName_35 (i := 0) rfl 0 rfl 36 rfl ?_
    refine gfRX9_110 C k0 dX9_newName_36 39 rfl ?_
    refine A_if_eq C dX9_newName_39 43 (by decide) 42 rfl hf (fun c39 hf => ?_) (fun c39 hf => ?_)
    · refine A_iconst (v := 0) C dX9_newName_43 (by decide) 44 rfl ?_
      refine A_istore_n C dX9_newName_44 (i := 2) rfl [(2, .int 0), (0, .ref (K.2.1 x0)), (1, .int x1)] (lt_nl hnl (by decide)) rfl 45 rfl ?_
      refine A_sub [1, 2, 0] (lv' := [(0, .ref (K.2.1 x0)), (1, .int x1), (2, .int 0)]) rfl ?_
      refine lq1_at (wX9_newName_L45 C hnl E k0) FU _ _ hf
    exact A_vret C dX9_newName_42 E hf
  exact A_vret C dX9_newName_7 E hf
set_option maxRecDepth 20000 in
theorem mX9_named {K : KX} {x0 : Nat} {x1 : Int32} {x2 : Int32} (k0 : isK 9 x0) {h : HH} {rv : Int32} {hv : HH} (hf : fX9_named x0 x1 x2 h = some (rv, hv)) : MR K yX9_named cX9_named 4 (some .int) 8 [.ref (K.2.1 x0), .int x1, .int x2] h (some (.int rv)) hv := by
  refine MR_of (by decide) (Nat.le_of_ble_eq_true rfl) (fun G C E hnl => ?_)
  have C : Ok K G 8 cX9_named RX9 := C
  refine (show At K G 0 [(0, .ref (K.2.1 x0)), (1, .int x1), (2, .int x2)] [] h from ?_)
  unfold fX9_named at hf
  refine A_aload_n C dX9_named_0 (i := 0) rfl 0 rfl 1 rfl ?_
  refine gfRX9_110 C k0 dX9_named_1 4 rfl ?_
  refine A_if_eq C dX9_named_4 9 (by decide) 7 rfl hf (fun c4 hf => ?_) (fun c4 hf => ?_)
  · refine A_aload_n C dX9_named_9 (i := 0) rfl 0 rfl 10 rfl ?_
    refine CVv C dX9_named_10 9 k0 (by decide) (r := (RX9, TX9, 44)) rfl rfl hf (fun _ e => mX9_mustName k0 e) lkRX9_164 (by decide) (by decide) rfl [] rfl (Nat.le_of_ble_eq_true rfl) 13 rfl (fun h10 hf => ?_)
    refine A_aload_n C dX9_named_13 (i := 0) rfl 0 rfl 14 rfl ?_
    refine gfRX9_110 C k0 dX9_named_14 17 rfl ?_
    refine A_if_eq C dX9_named_17 22 (by decide) 20 rfl hf (fun c17 hf => ?_) (fun c17 hf => ?_)
    · refine A_aload_n C dX9_named_22 (i := 0) rfl 0 rfl 23 rfl ?_
      refine CVi C dX9_named_23 9 k0 (by decide) (r := (RX9, TX9, 44)) rfl rfl hf (fun _ _ e => mX9_find k0 e) lkRX9_167 (by decide) (by decide) rfl [] rfl (Nat.le_of_ble_eq_true rfl) 26 rfl (fun r23 h23 hf => ?_)
      refine A_istore_n C dX9_named_26 (i := 3) rfl [(3, .int r23), (0, .ref (K.2.1 x0)), (1, .int x1), (2, .int x2)] (lt_nl hnl (by decide)) rfl 27 rfl ?_
      refine A_iload_n C dX9_named_27 (i := 3) rfl 0 rfl 28 rfl ?_
      refine A_iload_n C dX9_named_28 (i := 1) rfl 2 rfl 29 rfl ?_
      refine A_iload_n C dX9_named_29 (i := 2) rfl 3 rfl 30 rfl ?_
      refine CSz C dX9_named_30 hf (fun _ _ e => mX9_within  e) lkRX9_170 (by decide) (by decide) rfl [] rfl (Nat.le_of_ble_eq_true rfl) 33 rfl (fun r30 h30 hf => ?_)
      refine A_z_ne C dX9_named_33 45 (by decide) 36 rfl hf (fun c33 hf => ?_) (fun c33 hf => ?_)
      · refine A_aload_n C dX9_named_45 (i := 0) rfl 1 rfl 46 rfl ?_
        refine gfRX9_110 C k0 dX9_named_46 49 rfl ?_
        refine A_if_eq C dX9_named_49 56 (by decide) 52 rfl hf (fun c49 hf => ?_) (fun c49 hf => ?_)
        · refine A_iload_n C dX9_named_56 (i := 3) rfl 0 rfl 57 rfl ?_
          exact A_iret C dX9_named_57 E hf
        refine A_iload_n C dX9_named_52 (i := 1) rfl 2 rfl 53 rfl ?_
        refine A_goto C dX9_named_53 57 (by decide) ?_
        exact A_iret C dX9_named_57 E hf
      refine A_aload_n C dX9_named_36 (i := 0) rfl 1 rfl 37 rfl ?_
      refine A_iconst (v := 2) C dX9_named_37 (by decide) 38 rfl ?_
      refine A_aload_n C dX9_named_38 (i := 0) rfl 1 rfl 39 rfl ?_
      refine gfRX9_91 C k0 dX9_named_39 42 rfl ?_
      refine CVv C dX9_named_42 9 k0 (by decide) (r := (RX9, TX9, 44)) rfl rfl hf (fun _ e => mX9_wrong k0 e) lkRX9_137 (by decide) (by decide) rfl [] rfl (Nat.le_of_ble_eq_true rfl) 45 rfl (fun h42 hf => ?_)
      refine A_aload_n C dX9_named_45 (i := 0) rfl 1 rfl 46 rfl ?_
      refine gfRX9_110 C k0 dX9_named_46 49 rfl ?_
      refine A_if_eq C dX9_named_49 56 (by decide) 52 rfl hf (fun c49 hf => ?_) (fun c49 hf => ?_)
      · refine A_iload_n C dX9_named_56 (i := 3) rfl 0 rfl 57 rfl ?_
        exact A_iret C dX9_named_57 E hf
      refine A_iload_n C dX9_named_52 (i := 1) rfl 2 rfl 53 rfl ?_
      refine A_goto C dX9_named_53 57 (by decide) ?_
      exact A_iret C dX9_named_57 E hf
    refine A_iload_n C dX9_named_20 (i := 1) rfl 1 rfl 21 rfl ?_
    exact A_iret C dX9_named_21 E hf
  refine A_iload_n C dX9_named_7 (i := 1) rfl 1 rfl 8 rfl ?_
  exact A_iret C dX9_named_8 E hf
set_option maxRecDepth 20000 in
theorem mX9_headPassed {K : KX} {x0 : Nat} (k0 : isK 9 x0) {h : HH} {rv : Int32} {hv : HH} (hf : fX9_headPassed x0 h = some (rv, hv)) : MR K yX9_headPassed cX9_headPassed 2 (some .int) 9 [.ref (K.2.1 x0)] h (some (.int rv)) hv := by
  refine MR_of (by decide) (Nat.le_of_ble_eq_true rfl) (fun G C E hnl => ?_)
  have C : Ok K G 9 cX9_headPassed RX9 := C
  refine (show At K G 0 [(0, .ref (K.2.1 x0))] [] h from ?_)
  unfold fX9_headPassed at hf
  refine A_aload_n C dX9_headPassed_0 (i := 0) rfl 0 rfl 1 rfl ?_
  refine A_iconst (v := 0) C dX9_headPassed_1 (by decide) 2 rfl ?_
  refine A_iconst (v := 2) C dX9_headPassed_2 (by decide) 3 rfl ?_
  refine CVi C dX9_headPassed_3 9 k0 (by decide) (r := (RX9, TX9, 44)) rfl rfl hf (fun _ _ e => mX9_named k0 e) lkRX9_174 (by decide) (by decide) rfl [] rfl (Nat.le_of_ble_eq_true rfl) 6 rfl (fun r3 h3 hf => ?_)
  refine A_istore_n C dX9_headPassed_6 (i := 1) rfl [(1, .int r3), (0, .ref (K.2.1 x0))] (lt_nl hnl (by decide)) rfl 7 rfl ?_
  refine A_aload_n C dX9_headPassed_7 (i := 0) rfl 1 rfl 8 rfl ?_
  refine gfRX9_110 C k0 dX9_headPassed_8 11 rfl ?_
  refine A_if_ne C dX9_headPassed_11 18 (by decide) 14 rfl hf (fun c11 hf => ?_) (fun c11 hf => ?_)
  · refine A_iload_n C dX9_headPassed_18 (i := 1) rfl 0 rfl 19 rfl ?_
    exact A_iret C dX9_headPassed_19 E hf
  refine A_aload_n C dX9_headPassed_14 (i := 0) rfl 1 rfl 15 rfl ?_
  refine CVv C dX9_headPassed_15 9 k0 (by decide) (r := (RX9, TX9, 44)) rfl rfl hf (fun _ e => mX9_next k0 e) lkRX9_131 (by decide) (by decide) rfl [] rfl (Nat.le_of_ble_eq_true rfl) 18 rfl (fun h15 hf => ?_)
  refine A_iload_n C dX9_headPassed_18 (i := 1) rfl 0 rfl 19 rfl ?_
  exact A_iret C dX9_headPassed_19 E hf
set_option maxRecDepth 20000 in
theorem mX9_sleeperHere {K : KX} {x0 : Nat} (k0 : isK 9 x0) {h : HH} {rv : Int32} {hv : HH} (hf : fX9_sleeperHere x0 h = some (rv, hv)) : MR K yX9_sleeperHere cX9_sleeperHere 1 (some .int) 9 [.ref (K.2.1 x0)] h (some (.int rv)) hv := by
  refine MR_of (by decide) (Nat.le_of_ble_eq_true rfl) (fun G C E hnl => ?_)
  have C : Ok K G 9 cX9_sleeperHere RX9 := C
  refine (show At K G 0 [(0, .ref (K.2.1 x0))] [] h from ?_)
  unfold fX9_sleeperHere at hf
  refine A_aload_n C dX9_sleeperHere_0 (i := 0) rfl 0 rfl 1 rfl ?_
  refine A_iconst (v := 3) C dX9_sleeperHere_1 (by decide) 2 rfl ?_
  refine A_bipush (v := 7) C dX9_sleeperHere_2 (by decide) 4 rfl ?_
  refine CVi C dX9_sleeperHere_4 9 k0 (by decide) (r := (RX9, TX9, 44)) rfl rfl hf (fun _ _ e => mX9_named k0 e) lkRX9_174 (by decide) (by decide) rfl [] rfl (Nat.le_of_ble_eq_true rfl) 7 rfl (fun r4 h4 hf => ?_)
  refine A_iconst (v := 3) C dX9_sleeperHere_7 (by decide) 8 rfl ?_
  refine A_isub C dX9_sleeperHere_8 9 rfl ?_
  exact A_iret C dX9_sleeperHere_9 E hf
set_option maxRecDepth 20000 in
theorem mX9_sleeperPassed {K : KX} {x0 : Nat} (k0 : isK 9 x0) {h : HH} {rv : Int32} {hv : HH} (hf : fX9_sleeperPassed x0 h = some (rv, hv)) : MR K yX9_sleeperPassed cX9_sleeperPassed 2 (some .int) 10 [.ref (K.2.1 x0)] h (some (.int rv)) hv := by
  refine MR_of (by decide) (Nat.le_of_ble_eq_true rfl) (fun G C E hnl => ?_)
  have C : Ok K G 10 cX9_sleeperPassed RX9 := C
  refine (show At K G 0 [(0, .ref (K.2.1 x0))] [] h from ?_)
  unfold fX9_sleeperPassed at hf
  refine A_aload_n C dX9_sleeperPassed_0 (i := 0) rfl 0 rfl 1 rfl ?_
  refine CVi C dX9_sleeperPassed_1 9 k0 (by decide) (r := (RX9, TX9, 44)) rfl rfl hf (fun _ _ e => mX9_sleeperHere k0 e) lkRX9_178 (by decide) (by decide) rfl [] rfl (Nat.le_of_ble_eq_true rfl) 4 rfl (fun r1 h1 hf => ?_)
  refine A_istore_n C dX9_sleeperPassed_4 (i := 1) rfl [(1, .int r1), (0, .ref (K.2.1 x0))] (lt_nl hnl (by decide)) rfl 5 rfl ?_
  refine A_aload_n C dX9_sleeperPassed_5 (i := 0) rfl 1 rfl 6 rfl ?_
  refine gfRX9_110 C k0 dX9_sleeperPassed_6 9 rfl ?_
  refine A_if_ne C dX9_sleeperPassed_9 16 (by decide) 12 rfl hf (fun c9 hf => ?_) (fun c9 hf => ?_)
  · refine A_iload_n C dX9_sleeperPassed_16 (i := 1) rfl 0 rfl 17 rfl ?_
    exact A_iret C dX9_sleeperPassed_17 E hf
  refine A_aload_n C dX9_sleeperPassed_12 (i := 0) rfl 1 rfl 13 rfl ?_
  refine CVv C dX9_sleeperPassed_13 9 k0 (by decide) (r := (RX9, TX9, 44)) rfl rfl hf (fun _ e => mX9_next k0 e) lkRX9_131 (by decide) (by decide) rfl [] rfl (Nat.le_of_ble_eq_true rfl) 16 rfl (fun h13 hf => ?_)
  refine A_iload_n C dX9_sleeperPassed_16 (i := 1) rfl 0 rfl 17 rfl ?_
  exact A_iret C dX9_sleeperPassed_17 E hf
set_option maxRecDepth 20000 in
theorem mX9_numberHere {K : KX} {x0 : Nat} {x1 : Int32} {x2 : Int32} (k0 : isK 9 x0) {h : HH} {rv : Int32} {hv : HH} (hf : fX9_numberHere x0 x1 x2 h = some (rv, hv)) : MR K yX9_numberHere cX9_numberHere 3 (some .int) 2 [.ref (K.2.1 x0), .int x1, .int x2] h (some (.int rv)) hv := by
  refine MR_of (by decide) (Nat.le_of_ble_eq_true rfl) (fun G C E hnl => ?_)
  have C : Ok K G 2 cX9_numberHere RX9 := C
  refine (show At K G 0 [(0, .ref (K.2.1 x0)), (1, .int x1), (2, .int x2)] [] h from ?_)
  unfold fX9_numberHere at hf
  refine A_aload_n C dX9_numberHere_0 (i := 0) rfl 0 rfl 1 rfl ?_
  refine gfRX9_110 C k0 dX9_numberHere_1 4 rfl ?_
  refine A_if_eq C dX9_numberHere_4 9 (by decide) 7 rfl hf (fun c4 hf => ?_) (fun c4 hf => ?_)
  · refine A_aload_n C dX9_numberHere_9 (i := 0) rfl 0 rfl 10 rfl ?_
    refine gfRX9_100 C k0 dX9_numberHere_10 13 rfl ?_
    refine A_iconst (v := 3) C dX9_numberHere_13 (by decide) 14 rfl ?_
    refine A_icmp_eq C dX9_numberHere_14 29 (by decide) 17 rfl hf (fun c14 hf => ?_) (fun c14 hf => ?_)
    · refine A_aload_n C dX9_numberHere_29 (i := 0) rfl 0 rfl 30 rfl ?_
      refine gfRX9_97 C k0 dX9_numberHere_30 33 rfl ?_
      refine A_iload_n C dX9_numberHere_33 (i := 1) rfl 1 rfl 34 rfl ?_
      refine A_iload_n C dX9_numberHere_34 (i := 2) rfl 2 rfl 35 rfl ?_
      refine CSz C dX9_numberHere_35 hf (fun _ _ e => mX9_within  e) lkRX9_170 (by decide) (by decide) rfl [] rfl (Nat.le_of_ble_eq_true rfl) 38 rfl (fun r35 h35 hf => ?_)
      refine A_z_ne C dX9_numberHere_38 50 (by decide) 41 rfl hf (fun c38 hf => ?_) (fun c38 hf => ?_)
      · refine A_aload_n C dX9_numberHere_50 (i := 0) rfl 0 rfl 51 rfl ?_
        refine gfRX9_110 C k0 dX9_numberHere_51 54 rfl ?_
        refine A_if_eq C dX9_numberHere_54 61 (by decide) 57 rfl hf (fun c54 hf => ?_) (fun c54 hf => ?_)
        · refine A_aload_n C dX9_numberHere_61 (i := 0) rfl 0 rfl 62 rfl ?_
          refine gfRX9_97 C k0 dX9_numberHere_62 65 rfl ?_
          exact A_iret C dX9_numberHere_65 E hf
        refine A_iload_n C dX9_numberHere_57 (i := 1) rfl 1 rfl 58 rfl ?_
        refine A_goto C dX9_numberHere_58 65 (by decide) ?_
        exact A_iret C dX9_numberHere_65 E hf
      refine A_aload_n C dX9_numberHere_41 (i := 0) rfl 0 rfl 42 rfl ?_
      refine A_iconst (v := 4) C dX9_numberHere_42 (by decide) 43 rfl ?_
      refine A_aload_n C dX9_numberHere_43 (i := 0) rfl 0 rfl 44 rfl ?_
      refine gfRX9_91 C k0 dX9_numberHere_44 47 rfl ?_
      refine CVv C dX9_numberHere_47 9 k0 (by decide) (r := (RX9, TX9, 44)) rfl rfl hf (fun _ e => mX9_wrong k0 e) lkRX9_137 (by decide) (by decide) rfl [] rfl (Nat.le_of_ble_eq_true rfl) 50 rfl (fun h47 hf => ?_)
      refine A_aload_n C dX9_numberHere_50 (i := 0) rfl 0 rfl 51 rfl ?_
      refine gfRX9_110 C k0 dX9_numberHere_51 54 rfl ?_
      refine A_if_eq C dX9_numberHere_54 61 (by decide) 57 rfl hf (fun c54 hf => ?_) (fun c54 hf => ?_)
      · refine A_aload_n C dX9_numberHere_61 (i := 0) rfl 0 rfl 62 rfl ?_
        refine gfRX9_97 C k0 dX9_numberHere_62 65 rfl ?_
        exact A_iret C dX9_numberHere_65 E hf
      refine A_iload_n C dX9_numberHere_57 (i := 1) rfl 1 rfl 58 rfl ?_
      refine A_goto C dX9_numberHere_58 65 (by decide) ?_
      exact A_iret C dX9_numberHere_65 E hf
    refine A_aload_n C dX9_numberHere_17 (i := 0) rfl 0 rfl 18 rfl ?_
    refine A_iconst (v := 1) C dX9_numberHere_18 (by decide) 19 rfl ?_
    refine A_aload_n C dX9_numberHere_19 (i := 0) rfl 0 rfl 20 rfl ?_
    refine gfRX9_91 C k0 dX9_numberHere_20 23 rfl ?_
    refine CVv C dX9_numberHere_23 9 k0 (by decide) (r := (RX9, TX9, 44)) rfl rfl hf (fun _ e => mX9_wrong k0 e) lkRX9_137 (by decide) (by decide) rfl [] rfl (Nat.le_of_ble_eq_true rfl) 26 rfl (fun h23 hf => ?_)
    refine A_goto C dX9_numberHere_26 50 (by decide) ?_
    refine A_aload_n C dX9_numberHere_50 (i := 0) rfl 0 rfl 51 rfl ?_
    refine gfRX9_110 C k0 dX9_numberHere_51 54 rfl ?_
    refine A_if_eq C dX9_numberHere_54 61 (by decide) 57 rfl hf (fun c54 hf => ?_) (fun c54 hf => ?_)
    · refine A_aload_n C dX9_numberHere_61 (i := 0) rfl 0 rfl 62 rfl ?_
      refine gfRX9_97 C k0 dX9_numberHere_62 65 rfl ?_
      exact A_iret C dX9_numberHere_65 E hf
    refine A_iload_n C dX9_numberHere_57 (i := 1) rfl 1 rfl 58 rfl ?_
    refine A_goto C dX9_numberHere_58 65 (by decide) ?_
    exact A_iret C dX9_numberHere_65 E hf
  refine A_iload_n C dX9_numberHere_7 (i := 1) rfl 1 rfl 8 rfl ?_
  exact A_iret C dX9_numberHere_8 E hf
set_option maxRecDepth 20000 in
theorem mX9_number {K : KX} {x0 : Nat} {x1 : Int32} {x2 : Int32} (k0 : isK 9 x0) {h : HH} {rv : Int32} {hv : HH} (hf : fX9_number x0 x1 x2 h = some (rv, hv)) : MR K yX9_number cX9_number 4 (some .int) 3 [.ref (K.2.1 x0), .int x1, .int x2] h (some (.int rv)) hv := by
  refine MR_of (by decide) (Nat.le_of_ble_eq_true rfl) (fun G C E hnl => ?_)
  have C : Ok K G 3 cX9_number RX9 := C
  refine (show At K G 0 [(0, .ref (K.2.1 x0)), (1, .int x1), (2, .int x2)] [] h from ?_)
  unfold fX9_number at hf
  refine A_aload_n C dX9_number_0 (i := 0) rfl 0 rfl 1 rfl ?_
  refine A_iload_n C dX9_number_1 (i := 1) rfl 1 rfl 2 rfl ?_
  refine A_iload_n C dX9_number_2 (i := 2) rfl 2 rfl 3 rfl ?_
  refine CVi C dX9_number_3 9 k0 (by decide) (r := (RX9, TX9, 44)) rfl rfl hf (fun _ _ e => mX9_numberHere k0 e) lkRX9_181 (by decide) (by decide) rfl [] rfl (Nat.le_of_ble_eq_true rfl) 6 rfl (fun r3 h3 hf => ?_)
  refine A_istore_n C dX9_number_6 (i := 3) rfl [(3, .int r3), (0, .ref (K.2.1 x0)), (1, .int x1), (2, .int x2)] (lt_nl hnl (by decide)) rfl 7 rfl ?_
  refine A_aload_n C dX9_number_7 (i := 0) rfl 1 rfl 8 rfl ?_
  refine gfRX9_110 C k0 dX9_number_8 11 rfl ?_
  refine A_if_ne C dX9_number_11 18 (by decide) 14 rfl hf (fun c11 hf => ?_) (fun c11 hf => ?_)
  · refine A_iload_n C dX9_number_18 (i := 3) rfl 0 rfl 19 rfl ?_
    exact A_iret C dX9_number_19 E hf
  refine A_aload_n C dX9_number_14 (i := 0) rfl 1 rfl 15 rfl ?_
  refine CVv C dX9_number_15 9 k0 (by decide) (r := (RX9, TX9, 44)) rfl rfl hf (fun _ e => mX9_next k0 e) lkRX9_131 (by decide) (by decide) rfl [] rfl (Nat.le_of_ble_eq_true rfl) 18 rfl (fun h15 hf => ?_)
  refine A_iload_n C dX9_number_18 (i := 3) rfl 0 rfl 19 rfl ?_
  exact A_iret C dX9_number_19 E hf
set_option maxRecDepth 20000 in
theorem mX9_after {K : KX} {x0 : Nat} {x1 : Nat} {x2 : Int32} {x3 : Int32} (k0 : isK 9 x0) (k1 : x1 < 58) {h : HH} {rv : Int32} {hv : HH} (hf : fX9_after x0 x1 x2 x3 h = some (rv, hv)) : MR K yX9_after cX9_after 4 (some .int) 9 [.ref (K.2.1 x0), .ref (K.2.2.2.2.2.1 x1), .int x2, .int x3] h (some (.int rv)) hv := by
  refine MR_of (by decide) (Nat.le_of_ble_eq_true rfl) (fun G C E hnl => ?_)
  have C : Ok K G 9 cX9_after RX9 := C
  refine (show At K G 0 [(0, .ref (K.2.1 x0)), (1, .ref (K.2.2.2.2.2.1 x1)), (2, .int x2), (3, .int x3)] [] h from ?_)
  unfold fX9_after at hf
  refine A_aload_n C dX9_after_0 (i := 0) rfl 0 rfl 1 rfl ?_
  refine A_aload_n C dX9_after_1 (i := 1) rfl 1 rfl 2 rfl ?_
  refine CVv C dX9_after_2 9 k0 (by decide) (r := (RX9, TX9, 44)) rfl rfl hf (fun _ e => mX9_must k0 k1 e) lkRX9_184 (by decide) (by decide) rfl [] rfl (Nat.le_of_ble_eq_true rfl) 5 rfl (fun h2 hf => ?_)
  refine A_aload_n C dX9_after_5 (i := 0) rfl 0 rfl 6 rfl ?_
  refine A_iload_n C dX9_after_6 (i := 2) rfl 2 rfl 7 rfl ?_
  refine A_iload_n C dX9_after_7 (i := 3) rfl 3 rfl 8 rfl ?_
  refine CVi C dX9_after_8 9 k0 (by decide) (r := (RX9, TX9, 44)) rfl rfl hf (fun _ _ e => mX9_number k0 e) lkRX9_188 (by decide) (by decide) rfl [] rfl (Nat.le_of_ble_eq_true rfl) 11 rfl (fun r8 h8 hf => ?_)
  exact A_iret C dX9_after_11 E hf
set_option maxRecDepth 20000 in
theorem mX9_comma {K : KX} {x0 : Nat} (k0 : isK 9 x0) {h : HH} {rv : Bool} {hv : HH} (hf : fX9_comma x0 h = some (rv, hv)) : MR K yX9_comma cX9_comma 1 (some .boolean) 3 [.ref (K.2.1 x0)] h (some (.int (b2i rv))) hv := by
  refine MR_of (by decide) (Nat.le_of_ble_eq_true rfl) (fun G C E hnl => ?_)
  have C : Ok K G 3 cX9_comma RX9 := C
  refine (show At K G 0 [(0, .ref (K.2.1 x0))] [] h from ?_)
  unfold fX9_comma at hf
  refine A_aload_n C dX9_comma_0 (i := 0) rfl 0 rfl 1 rfl ?_
  refine gfRX9_110 C k0 dX9_comma_1 4 rfl ?_
  refine A_if_ne C dX9_comma_4 16 (by decide) 7 rfl hf (fun c4 hf => ?_) (fun c4 hf => ?_)
  · refine A_iconst (v := 0) C dX9_comma_16 (by decide) 17 rfl ?_
    exact A_zret (x := false) C dX9_comma_17 E hf
  refine A_aload_n C dX9_comma_7 (i := 0) rfl 0 rfl 8 rfl ?_
  refine gfRX9_100 C k0 dX9_comma_8 11 rfl ?_
  refine A_bipush (v := 44) C dX9_comma_11 (by decide) 13 rfl ?_
  refine A_icmp_eq C dX9_comma_13 18 (by decide) 16 rfl hf (fun c13 hf => ?_) (fun c13 hf => ?_)
  · refine A_aload_n C dX9_comma_18 (i := 0) rfl 0 rfl 19 rfl ?_
    refine CVv C dX9_comma_19 9 k0 (by decide) (r := (RX9, TX9, 44)) rfl rfl hf (fun _ e => mX9_next k0 e) lkRX9_131 (by decide) (by decide) rfl [] rfl (Nat.le_of_ble_eq_true rfl) 22 rfl (fun h19 hf => ?_)
    refine A_iconst (v := 1) C dX9_comma_22 (by decide) 23 rfl ?_
    exact A_zret (x := true) C dX9_comma_23 E hf
  refine A_iconst (v := 0) C dX9_comma_16 (by decide) 17 rfl ?_
  exact A_zret (x := false) C dX9_comma_17 E hf
set_option maxRecDepth 20000 in
theorem wX9_dreamLine_b87 {K : KX} {G : GX} (C : Ok K G 10 cX9_dreamLine RX9) (hnl : G.2.2.2.2.2.2.2.2.2.2.2.2.2 = 3) {rv : HH} (E : Endd K G none none rv) {x0 : Nat} {x2 : Int32} {self49 : Bool → HH → Option (HH)} (Hself49 : ∀ (x1 : Bool) (h : HH), self49 x1 h = some rv → At K G 49 [(0, .ref (K.2.1 x0)), (1, .int (b2i x1))] [] h) (kx0 : isK 9 x0) {h : HH} (hf : fX9_dreamLine_b87 self49 x0 x2 h = some rv) : At K G 87 [(0, .ref (K.2.1 x0)), (2, .int x2)] [] h := by
  unfold fX9_dreamLine_b87 at hf
  refine A_aload_n C dX9_dreamLine_87 (i := 0) rfl 0 rfl 88 rfl ?_
  refine gfRX9_110 C kx0 dX9_dreamLine_88 91 rfl ?_
  refine A_if_eq C dX9_dreamLine_91 95 (by decide) 94 rfl hf (fun c91 hf => ?_) (fun c91 hf => ?_)
  · refine A_aload_n C dX9_dreamLine_95 (i := 0) rfl 0 rfl 96 rfl ?_
    refine gfRX9_23 C kx0 dX9_dreamLine_96 99 rfl ?_
    refine A_bipush (v := 11) C dX9_dreamLine_99 (by decide) 101 rfl ?_
    refine A_aload_n C dX9_dreamLine_101 (i := 0) rfl 0 rfl 102 rfl ?_
    refine gfRX9_23 C kx0 dX9_dreamLine_102 105 rfl ?_
    refine A_iconst (v := 0) C dX9_dreamLine_105 (by decide) 106 rfl ?_
    refine A_iald C dX9_dreamLine_106 (of_9_16 kx0) hf 107 rfl (fun hf => ?_)
    refine A_iadd C dX9_dreamLine_107 108 rfl ?_
    refine A_iload_n C dX9_dreamLine_108 (i := 2) rfl 1 rfl 109 rfl ?_
    refine A_iast C dX9_dreamLine_109 (of_9_16 kx0) hf 110 rfl (fun hf => ?_)
    refine A_aload_n C dX9_dreamLine_110 (i := 0) rfl 0 rfl 111 rfl ?_
    refine gfRX9_23 C kx0 dX9_dreamLine_111 114 rfl ?_
    refine A_iconst (v := 0) C dX9_dreamLine_114 (by decide) 115 rfl ?_
    refine A_dup2 C dX9_dreamLine_115 rfl rfl 116 rfl ?_
    refine A_iald C dX9_dreamLine_116 (of_9_16 kx0) hf 117 rfl (fun hf => ?_)
    refine A_iconst (v := 1) C dX9_dreamLine_117 (by decide) 118 rfl ?_
    refine A_iadd C dX9_dreamLine_118 119 rfl ?_
    refine A_iast C dX9_dreamLine_119 (of_9_16 kx0) hf 120 rfl (fun hf => ?_)
    refine A_namH hf (fun g2 hf => ?_)
    refine A_aload_n C dX9_dreamLine_120 (i := 0) rfl 0 rfl 121 rfl ?_
    refine CVv C dX9_dreamLine_121 9 kx0 (by decide) (r := (RX9, TX9, 44)) rfl rfl hf (fun _ e => mX9_next kx0 e) lkRX9_131 (by decide) (by decide) rfl [] rfl (Nat.le_of_ble_eq_true rfl) 124 rfl (fun h121 hf => ?_)
    refine A_aload_n C dX9_dreamLine_124 (i := 0) rfl 0 rfl 125 rfl ?_
    refine CVz C dX9_dreamLine_125 9 kx0 (by decide) (r := (RX9, TX9, 44)) rfl rfl hf (fun _ _ e => mX9_comma kx0 e) lkRX9_256 (by decide) (by decide) rfl [] rfl (Nat.le_of_ble_eq_true rfl) 128 rfl (fun r125 h125 hf => ?_)
    refine A_istore_n C dX9_dreamLine_128 (i := 1) rfl [(1, .int (b2i r125)), (0, .ref (K.2.1 x0)), (2, .int x2)] (lt_nl hnl (by decide)) rfl 129 rfl ?_
    refine A_goto C dX9_dreamLine_129 49 (by decide) ?_
    refine A_sub [1, 0] (lv' := [(0, .ref (K.2.1 x0)), (1, .int (b2i r125))]) rfl ?_
    exact Hself49 _ _ hf
  exact A_vret C dX9_dreamLine_94 E hf
set_option maxRecDepth 20000 in
theorem wX9_dreamLine_L49 {K : KX} {G : GX} (C : Ok K G 10 cX9_dreamLine RX9) (hnl : G.2.2.2.2.2.2.2.2.2.2.2.2.2 = 3) {rv : HH} (E : Endd K G none none rv) {x0 : Nat} {k49_132 : HH → Option (HH)}  (Hk49_132 : ∀  (h : HH), k49_132  h = some rv → At K G 132 [(0, .ref (K.2.1 x0))] [] h) (kx0 : isK 9 x0) : ∀ (self49 : Bool → HH → Option (HH)), (∀ (x1 : Bool) (h : HH), self49 x1 h = some rv → At K G 49 [(0, .ref (K.2.1 x0)), (1, .int (b2i x1))] [] h) → ∀ (x1 : Bool) (h : HH), fX9_dreamLine_L49 k49_132 x0 self49 x1 h = some rv → At K G 49 [(0, .ref (K.2.1 x0)), (1, .int (b2i x1))] [] h := by
  intro self49 Hself49 x1 h hf
  unfold fX9_dreamLine_L49 at hf
  refine A_iload_n C dX9_dreamLine_49 (i := 1) rfl 1 rfl 50 rfl ?_
  refine A_z_eq C dX9_dreamLine_50 132 (by decide) 53 rfl hf (fun c50 hf => ?_) (fun c50 hf => ?_)
  · refine A_sub [0] (lv' := [(0, .ref (K.2.1 x0))]) rfl ?_
    exact Hk49_132 _ hf
  refine A_aload_n C dX9_dreamLine_53 (i := 0) rfl 0 rfl 54 rfl ?_
  refine A_iconst (v := 2) C dX9_dreamLine_54 (by decide) 55 rfl ?_
  refine A_bipush (v := 12) C dX9_dreamLine_55 (by decide) 57 rfl ?_
  refine CVi C dX9_dreamLine_57 9 kx0 (by decide) (r := (RX9, TX9, 44)) rfl rfl hf (fun _ _ e => mX9_numberHere kx0 e) lkRX9_181 (by decide) (by decide) rfl [] rfl (Nat.le_of_ble_eq_true rfl) 60 rfl (fun r57 h57 hf => ?_)
  refine A_istore_n C dX9_dreamLine_60 (i := 2) rfl [(2, .int r57), (0, .ref (K.2.1 x0)), (1, .int (b2i x1))] (lt_nl hnl (by decide)) rfl 61 rfl ?_
  refine A_aload_n C dX9_dreamLine_61 (i := 0) rfl 1 rfl 62 rfl ?_
  refine gfRX9_110 C kx0 dX9_dreamLine_62 65 rfl ?_
  refine A_if_ne C dX9_dreamLine_65 87 (by decide) 68 rfl hf (fun c65 hf => ?_) (fun c65 hf => ?_)
  · refine A_sub [1, 0] (lv' := [(0, .ref (K.2.1 x0)), (2, .int r57)]) rfl ?_
    exact wX9_dreamLine_b87 C hnl E Hself49 kx0 hf
  refine A_aload_n C dX9_dreamLine_68 (i := 0) rfl 1 rfl 69 rfl ?_
  refine gfRX9_23 C kx0 dX9_dreamLine_69 72 rfl ?_
  refine A_iconst (v := 0) C dX9_dreamLine_72 (by decide) 73 rfl ?_
  refine A_iald C dX9_dreamLine_73 (of_9_16 kx0) hf 74 rfl (fun hf => ?_)
  refine A_iconst (v := 4) C dX9_dreamLine_74 (by decide) 75 rfl ?_
  refine A_icmp_ne C dX9_dreamLine_75 87 (by decide) 78 rfl hf (fun c75 hf => ?_) (fun c75 hf => ?_)
  · refine A_sub [1, 0] (lv' := [(0, .ref (K.2.1 x0)), (2, .int r57)]) rfl ?_
    exact wX9_dreamLine_b87 C hnl E Hself49 kx0 hf
  refine A_aload_n C dX9_dreamLine_78 (i := 0) rfl 1 rfl 79 rfl ?_
  refine A_iconst (v := 5) C dX9_dreamLine_79 (by decide) 80 rfl ?_
  refine A_aload_n C dX9_dreamLine_80 (i := 0) rfl 1 rfl 81 rfl ?_
  refine gfRX9_91 C kx0 dX9_dreamLine_81 84 rfl ?_
  refine CVv C dX9_dreamLine_84 9 kx0 (by decide) (r := (RX9, TX9, 44)) rfl rfl hf (fun _ e => mX9_wrong kx0 e) lkRX9_137 (by decide) (by decide) rfl [] rfl (Nat.le_of_ble_eq_true rfl) 87 rfl (fun h84 hf => ?_)
  refine A_sub [1, 0] (lv' := [(0, .ref (K.2.1 x0)), (2, .int r57)]) rfl ?_
  exact wX9_dreamLine_b87 C hnl E Hself49 kx0 hf
set_option maxRecDepth 20000 in
theorem mX9_dreamLine {K : KX} {x0 : Nat} (k0 : isK 9 x0) {h : HH} {rv : HH} (hf : fX9_dreamLine x0 h = some rv) : MR K yX9_dreamLine cX9_dreamLine 3 none 10 [.ref (K.2.1 x0)] h none rv := by
  refine MR_of (by decide) (Nat.le_of_ble_eq_true rfl) (fun G C E hnl => ?_)
  have C : Ok K G 10 cX9_dreamLine RX9 := C
  refine (show At K G 0 [(0, .ref (K.2.1 x0))] [] h from ?_)
  unfold fX9_dreamLine at hf
  refine A_aload_n C dX9_dreamLine_0 (i := 0) rfl 0 rfl 1 rfl ?_
  refine gfRX9_23 C k0 dX9_dreamLine_1 4 rfl ?_
  refine A_iconst (v := 2) C dX9_dreamLine_4 (by decide) 5 rfl ?_
  refine A_iald C dX9_dreamLine_5 (of_9_16 k0) hf 6 rfl (fun hf => ?_)
  refine A_if_le C dX9_dreamLine_6 18 (by decide) 9 rfl hf (fun c6 hf => ?_) (fun c6 hf => ?_)
  · refine A_aload_n C dX9_dreamLine_18 (i := 0) rfl 0 rfl 19 rfl ?_
    refine gfRX9_110 C k0 dX9_dreamLine_19 22 rfl ?_
    refine A_if_eq C dX9_dreamLine_22 26 (by decide) 25 rfl hf (fun c22 hf => ?_) (fun c22 hf => ?_)
    · refine A_aload_n C dX9_dreamLine_26 (i := 0) rfl 0 rfl 27 rfl ?_
      refine CVv C dX9_dreamLine_27 9 k0 (by decide) (r := (RX9, TX9, 44)) rfl rfl hf (fun _ e => mX9_next k0 e) lkRX9_131 (by decide) (by decide) rfl [] rfl (Nat.le_of_ble_eq_true rfl) 30 rfl (fun h27 hf => ?_)
      refine A_aload_n C dX9_dreamLine_30 (i := 0) rfl 0 rfl 31 rfl ?_
      refine A_str C dX9_dreamLine_31 (i := 30) (by decide) rfl 33 rfl ?_
      refine CVv C dX9_dreamLine_33 9 k0 (by decide) (r := (RX9, TX9, 44)) rfl rfl hf (fun _ e => mX9_must k0 (by decide) e) lkRX9_184 (by decide) (by decide) rfl [] rfl (Nat.le_of_ble_eq_true rfl) 36 rfl (fun h33 hf => ?_)
      refine A_aload_n C dX9_dreamLine_36 (i := 0) rfl 0 rfl 37 rfl ?_
      refine gfRX9_110 C k0 dX9_dreamLine_37 40 rfl ?_
      refine A_if_ne C dX9_dreamLine_40 47 (by decide) 43 rfl hf (fun c40 hf => ?_) (fun c40 hf => ?_)
      · refine A_iconst (v := 0) C dX9_dreamLine_47 (by decide) 48 rfl ?_
        refine A_istore_n C dX9_dreamLine_48 (i := 1) rfl [(1, .int 0), (0, .ref (K.2.1 x0))] (lt_nl hnl (by decide)) rfl 49 rfl ?_
        refine A_sub [1, 0] (lv' := [(0, .ref (K.2.1 x0)), (1, .int (b2i false))]) rfl ?_
        refine lq1_at (wX9_dreamLine_L49 C hnl E (fun  h hf => ?_) k0) FU _ _ hf
        refine A_aload_n C dX9_dreamLine_132 (i := 0) rfl 0 rfl 133 rfl ?_
        refine gfRX9_23 C k0 dX9_dreamLine_133 136 rfl ?_
        refine A_iconst (v := 1) C dX9_dreamLine_136 (by decide) 137 rfl ?_
        refine A_aload_n C dX9_dreamLine_137 (i := 0) rfl 0 rfl 138 rfl ?_
        refine A_strw C dX9_dreamLine_138 (i := 31) (by decide) rfl 141 rfl ?_
        refine A_iconst (v := 0) C dX9_dreamLine_141 (by decide) 142 rfl ?_
        refine A_bipush (v := 60) C dX9_dreamLine_142 (by decide) 144 rfl ?_
        refine CVi C dX9_dreamLine_144 9 k0 (by decide) (r := (RX9, TX9, 44)) rfl rfl hf (fun _ _ e => mX9_after k0 (by decide) e) lkRX9_262 (by decide) (by decide) rfl [.int 1, .ref (K.2.1 (x0 + 4))] rfl (Nat.le_of_ble_eq_true rfl) 147 rfl (fun r144 h144 hf => ?_)
        refine A_iast C dX9_dreamLine_147 (of_9_16 k0) hf 148 rfl (fun hf => ?_)
        refine A_aload_n C dX9_dreamLine_148 (i := 0) rfl 0 rfl 149 rfl ?_
        refine A_strw C dX9_dreamLine_149 (i := 32) (by decide) rfl 152 rfl ?_
        refine A_iconst (v := 1) C dX9_dreamLine_152 (by decide) 153 rfl ?_
        refine A_sipush (v := 600) C dX9_dreamLine_153 (by decide) 156 rfl ?_
        refine CVi C dX9_dreamLine_156 9 k0 (by decide) (r := (RX9, TX9, 44)) rfl rfl hf (fun _ _ e => mX9_after k0 (by decide) e) lkRX9_262 (by decide) (by decide) rfl [] rfl (Nat.le_of_ble_eq_true rfl) 159 rfl (fun r156 h156 hf => ?_)
        refine A_istore_n C dX9_dreamLine_159 (i := 2) rfl [(2, .int r156), (0, .ref (K.2.1 x0))] (lt_nl hnl (by decide)) rfl 160 rfl ?_
        refine A_aload_n C dX9_dreamLine_160 (i := 0) rfl 1 rfl 161 rfl ?_
        refine gfRX9_110 C k0 dX9_dreamLine_161 164 rfl ?_
        refine A_if_ne C dX9_dreamLine_164 174 (by decide) 167 rfl hf (fun c164 hf => ?_) (fun c164 hf => ?_)
        · exact A_vret C dX9_dreamLine_174 E hf
        refine A_aload_n C dX9_dreamLine_167 (i := 0) rfl 1 rfl 168 rfl ?_
        refine gfRX9_23 C k0 dX9_dreamLine_168 171 rfl ?_
        refine A_iconst (v := 2) C dX9_dreamLine_171 (by decide) 172 rfl ?_
        refine A_iload_n C dX9_dreamLine_172 (i := 2) rfl 0 rfl 173 rfl ?_
        refine A_iast C dX9_dreamLine_173 (of_9_16 k0) hf 174 rfl (fun hf => ?_)
        exact A_vret C dX9_dreamLine_174 E hf
      refine A_iconst (v := 1) C dX9_dreamLine_43 (by decide) 44 rfl ?_
      refine A_goto C dX9_dreamLine_44 48 (by decide) ?_
      refine A_istore_n C dX9_dreamLine_48 (i := 1) rfl [(1, .int 1), (0, .ref (K.2.1 x0))] (lt_nl hnl (by decide)) rfl 49 rfl ?_
      refine A_sub [1, 0] (lv' := [(0, .ref (K.2.1 x0)), (1, .int (b2i true))]) rfl ?_
      refine lq1_at (wX9_dreamLine_L49 C hnl E (fun  h hf => ?_) k0) FU _ _ hf
      refine A_aload_n C dX9_dreamLine_132 (i := 0) rfl 0 rfl 133 rfl ?_
      refine gfRX9_23 C k0 dX9_dreamLine_133 136 rfl ?_
      refine A_iconst (v := 1) C dX9_dreamLine_136 (by decide) 137 rfl ?_
      refine A_aload_n C dX9_dreamLine_137 (i := 0) rfl 0 rfl 138 rfl ?_
      refine A_strw C dX9_dreamLine_138 (i := 31) (by decide) rfl 141 rfl ?_
      refine A_iconst (v := 0) C dX9_dreamLine_141 (by decide) 142 rfl ?_
      refine A_bipush (v := 60) C dX9_dreamLine_142 (by decide) 144 rfl ?_
      refine CVi C dX9_dreamLine_144 9 k0 (by decide) (r := (RX9, TX9, 44)) rfl rfl hf (fun _ _ e => mX9_after k0 (by decide) e) lkRX9_262 (by decide) (by decide) rfl [.int 1, .ref (K.2.1 (x0 + 4))] rfl (Nat.le_of_ble_eq_true rfl) 147 rfl (fun r144 h144 hf => ?_)
      refine A_iast C dX9_dreamLine_147 (of_9_16 k0) hf 148 rfl (fun hf => ?_)
      refine A_aload_n C dX9_dreamLine_148 (i := 0) rfl 0 rfl 149 rfl ?_
      refine A_strw C dX9_dreamLine_149 (i := 32) (by decide) rfl 152 rfl ?_
      refine A_iconst (v := 1) C dX9_dreamLine_152 (by decide) 153 rfl ?_
      refine A_sipush (v := 600) C dX9_dreamLine_153 (by decide) 156 rfl ?_
      refine CVi C dX9_dreamLine_156 9 k0 (by decide) (r := (RX9, TX9, 44)) rfl rfl hf (fun _ _ e => mX9_after k0 (by decide) e) lkRX9_262 (by decide) (by decide) rfl [] rfl (Nat.le_of_ble_eq_true rfl) 159 rfl (fun r156 h156 hf => ?_)
      refine A_istore_n C dX9_dreamLine_159 (i := 2) rfl [(2, .int r156), (0, .ref (K.2.1 x0))] (lt_nl hnl (by decide)) rfl 160 rfl ?_
      refine A_aload_n C dX9_dreamLine_160 (i := 0) rfl 1 rfl 161 rfl ?_
      refine gfRX9_110 C k0 dX9_dreamLine_161 164 rfl ?_
      refine A_if_ne C dX9_dreamLine_164 174 (by decide) 167 rfl hf (fun c164 hf => ?_) (fun c164 hf => ?_)
      · exact A_vret C dX9_dreamLine_174 E hf
      refine A_aload_n C dX9_dreamLine_167 (i := 0) rfl 1 rfl 168 rfl ?_
      refine gfRX9_23 C k0 dX9_dreamLine_168 171 rfl ?_
      refine A_iconst (v := 2) C dX9_dreamLine_171 (by decide) 172 rfl ?_
      refine A_iload_n C dX9_dreamLine_172 (i := 2) rfl 0 rfl 173 rfl ?_
      refine A_iast C dX9_dreamLine_173 (of_9_16 k0) hf 174 rfl (fun hf => ?_)
      exact A_vret C dX9_dreamLine_174 E hf
    exact A_vret C dX9_dreamLine_25 E hf
  refine A_aload_n C dX9_dreamLine_9 (i := 0) rfl 0 rfl 10 rfl ?_
  refine A_iconst (v := 3) C dX9_dreamLine_10 (by decide) 11 rfl ?_
  refine A_aload_n C dX9_dreamLine_11 (i := 0) rfl 0 rfl 12 rfl ?_
  refine gfRX9_91 C k0 dX9_dreamLine_12 15 rfl ?_
  refine CVv C dX9_dreamLine_15 9 k0 (by decide) (r := (RX9, TX9, 44)) rfl rfl hf (fun _ e => mX9_wrong k0 e) lkRX9_137 (by decide) (by decide) rfl [] rfl (Nat.le_of_ble_eq_true rfl) 18 rfl (fun h15 hf => ?_)
  refine A_aload_n C dX9_dreamLine_18 (i := 0) rfl 0 rfl 19 rfl ?_
  refine gfRX9_110 C k0 dX9_dreamLine_19 22 rfl ?_
  refine A_if_eq C dX9_dreamLine_22 26 (by decide) 25 rfl hf (fun c22 hf => ?_) (fun c22 hf => ?_)
  · refine A_aload_n C dX9_dreamLine_26 (i := 0) rfl 0 rfl 27 rfl ?_
    refine CVv C dX9_dreamLine_27 9 k0 (by decide) (r := (RX9, TX9, 44)) rfl rfl hf (fun _ e => mX9_next k0 e) lkRX9_131 (by decide) (by decide) rfl [] rfl (Nat.le_of_ble_eq_true rfl) 30 rfl (fun h27 hf => ?_)
    refine A_aload_n C dX9_dreamLine_30 (i := 0) rfl 0 rfl 31 rfl ?_
    refine A_str C dX9_dreamLine_31 (i := 30) (by decide) rfl 33 rfl ?_
    refine CVv C dX9_dreamLine_33 9 k0 (by decide) (r := (RX9, TX9, 44)) rfl rfl hf (fun _ e => mX9_must k0 (by decide) e) lkRX9_184 (by decide) (by decide) rfl [] rfl (Nat.le_of_ble_eq_true rfl) 36 rfl (fun h33 hf => ?_)
    refine A_aload_n C dX9_dreamLine_36 (i := 0) rfl 0 rfl 37 rfl ?_
    refine gfRX9_110 C k0 dX9_dreamLine_37 40 rfl ?_
    refine A_if_ne C dX9_dreamLine_40 47 (by decide) 43 rfl hf (fun c40 hf => ?_) (fun c40 hf => ?_)
    · refine A_iconst (v := 0) C dX9_dreamLine_47 (by decide) 48 rfl ?_
      refine A_istore_n C dX9_dreamLine_48 (i := 1) rfl [(1, .int 0), (0, .ref (K.2.1 x0))] (lt_nl hnl (by decide)) rfl 49 rfl ?_
      refine A_sub [1, 0] (lv' := [(0, .ref (K.2.1 x0)), (1, .int (b2i false))]) rfl ?_
      refine lq1_at (wX9_dreamLine_L49 C hnl E (fun  h hf => ?_) k0) FU _ _ hf
      refine A_aload_n C dX9_dreamLine_132 (i := 0) rfl 0 rfl 133 rfl ?_
      refine gfRX9_23 C k0 dX9_dreamLine_133 136 rfl ?_
      refine A_iconst (v := 1) C dX9_dreamLine_136 (by decide) 137 rfl ?_
      refine A_aload_n C dX9_dreamLine_137 (i := 0) rfl 0 rfl 138 rfl ?_
      refine A_strw C dX9_dreamLine_138 (i := 31) (by decide) rfl 141 rfl ?_
      refine A_iconst (v := 0) C dX9_dreamLine_141 (by decide) 142 rfl ?_
      refine A_bipush (v := 60) C dX9_dreamLine_142 (by decide) 144 rfl ?_
      refine CVi C dX9_dreamLine_144 9 k0 (by decide) (r := (RX9, TX9, 44)) rfl rfl hf (fun _ _ e => mX9_after k0 (by decide) e) lkRX9_262 (by decide) (by decide) rfl [.int 1, .ref (K.2.1 (x0 + 4))] rfl (Nat.le_of_ble_eq_true rfl) 147 rfl (fun r144 h144 hf => ?_)
      refine A_iast C dX9_dreamLine_147 (of_9_16 k0) hf 148 rfl (fun hf => ?_)
      refine A_aload_n C dX9_dreamLine_148 (i := 0) rfl 0 rfl 149 rfl ?_
      refine A_strw C dX9_dreamLine_149 (i := 32) (by decide) rfl 152 rfl ?_
      refine A_iconst (v := 1) C dX9_dreamLine_152 (by decide) 153 rfl ?_
      refine A_sipush (v := 600) C dX9_dreamLine_153 (by decide) 156 rfl ?_
      refine CVi C dX9_dreamLine_156 9 k0 (by decide) (r := (RX9, TX9, 44)) rfl rfl hf (fun _ _ e => mX9_after k0 (by decide) e) lkRX9_262 (by decide) (by decide) rfl [] rfl (Nat.le_of_ble_eq_true rfl) 159 rfl (fun r156 h156 hf => ?_)
      refine A_istore_n C dX9_dreamLine_159 (i := 2) rfl [(2, .int r156), (0, .ref (K.2.1 x0))] (lt_nl hnl (by decide)) rfl 160 rfl ?_
      refine A_aload_n C dX9_dreamLine_160 (i := 0) rfl 1 rfl 161 rfl ?_
      refine gfRX9_110 C k0 dX9_dreamLine_161 164 rfl ?_
      refine A_if_ne C dX9_dreamLine_164 174 (by decide) 167 rfl hf (fun c164 hf => ?_) (fun c164 hf => ?_)
      · exact A_vret C dX9_dreamLine_174 E hf
      refine A_aload_n C dX9_dreamLine_167 (i := 0) rfl 1 rfl 168 rfl ?_
      refine gfRX9_23 C k0 dX9_dreamLine_168 171 rfl ?_
      refine A_iconst (v := 2) C dX9_dreamLine_171 (by decide) 172 rfl ?_
      refine A_iload_n C dX9_dreamLine_172 (i := 2) rfl 0 rfl 173 rfl ?_
      refine A_iast C dX9_dreamLine_173 (of_9_16 k0) hf 174 rfl (fun hf => ?_)
      exact A_vret C dX9_dreamLine_174 E hf
    refine A_iconst (v := 1) C dX9_dreamLine_43 (by decide) 44 rfl ?_
    refine A_goto C dX9_dreamLine_44 48 (by decide) ?_
    refine A_istore_n C dX9_dreamLine_48 (i := 1) rfl [(1, .int 1), (0, .ref (K.2.1 x0))] (lt_nl hnl (by decide)) rfl 49 rfl ?_
    refine A_sub [1, 0] (lv' := [(0, .ref (K.2.1 x0)), (1, .int (b2i true))]) rfl ?_
    refine lq1_at (wX9_dreamLine_L49 C hnl E (fun  h hf => ?_) k0) FU _ _ hf
    refine A_aload_n C dX9_dreamLine_132 (i := 0) rfl 0 rfl 133 rfl ?_
    refine gfRX9_23 C k0 dX9_dreamLine_133 136 rfl ?_
    refine A_iconst (v := 1) C dX9_dreamLine_136 (by decide) 137 rfl ?_
    refine A_aload_n C dX9_dreamLine_137 (i := 0) rfl 0 rfl 138 rfl ?_
    refine A_strw C dX9_dreamLine_138 (i := 31) (by decide) rfl 141 rfl ?_
    refine A_iconst (v := 0) C dX9_dreamLine_141 (by decide) 142 rfl ?_
    refine A_bipush (v := 60) C dX9_dreamLine_142 (by decide) 144 rfl ?_
    refine CVi C dX9_dreamLine_144 9 k0 (by decide) (r := (RX9, TX9, 44)) rfl rfl hf (fun _ _ e => mX9_after k0 (by decide) e) lkRX9_262 (by decide) (by decide) rfl [.int 1, .ref (K.2.1 (x0 + 4))] rfl (Nat.le_of_ble_eq_true rfl) 147 rfl (fun r144 h144 hf => ?_)
    refine A_iast C dX9_dreamLine_147 (of_9_16 k0) hf 148 rfl (fun hf => ?_)
    refine A_aload_n C dX9_dreamLine_148 (i := 0) rfl 0 rfl 149 rfl ?_
    refine A_strw C dX9_dreamLine_149 (i := 32) (by decide) rfl 152 rfl ?_
    refine A_iconst (v := 1) C dX9_dreamLine_152 (by decide) 153 rfl ?_
    refine A_sipush (v := 600) C dX9_dreamLine_153 (by decide) 156 rfl ?_
    refine CVi C dX9_dreamLine_156 9 k0 (by decide) (r := (RX9, TX9, 44)) rfl rfl hf (fun _ _ e => mX9_after k0 (by decide) e) lkRX9_262 (by decide) (by decide) rfl [] rfl (Nat.le_of_ble_eq_true rfl) 159 rfl (fun r156 h156 hf => ?_)
    refine A_istore_n C dX9_dreamLine_159 (i := 2) rfl [(2, .int r156), (0, .ref (K.2.1 x0))] (lt_nl hnl (by decide)) rfl 160 rfl ?_
    refine A_aload_n C dX9_dreamLine_160 (i := 0) rfl 1 rfl 161 rfl ?_
    refine gfRX9_110 C k0 dX9_dreamLine_161 164 rfl ?_
    refine A_if_ne C dX9_dreamLine_164 174 (by decide) 167 rfl hf (fun c164 hf => ?_) (fun c164 hf => ?_)
    · exact A_vret C dX9_dreamLine_174 E hf
    refine A_aload_n C dX9_dreamLine_167 (i := 0) rfl 1 rfl 168 rfl ?_
    refine gfRX9_23 C k0 dX9_dreamLine_168 171 rfl ?_
    refine A_iconst (v := 2) C dX9_dreamLine_171 (by decide) 172 rfl ?_
    refine A_iload_n C dX9_dreamLine_172 (i := 2) rfl 0 rfl 173 rfl ?_
    refine A_iast C dX9_dreamLine_173 (of_9_16 k0) hf 174 rfl (fun hf => ?_)
    exact A_vret C dX9_dreamLine_174 E hf
  exact A_vret C dX9_dreamLine_25 E hf
set_option maxRecDepth 20000 in
theorem wX9_begins_b23 {K : KX} {G : GX} (C : Ok K G 7 cX9_begins RX9) (hnl : G.2.2.2.2.2.2.2.2.2.2.2.2.2 = 3) {rv : Bool} {hv : HH} (E : Endd K G (some .boolean) (some (.int (b2i rv))) hv) {x0 : Nat}   (kx0 : isK 9 x0) {h : HH} (hf : fX9_begins_b23 x0 h = some (rv, hv)) : At K G 23 [(0, .ref (K.2.1 x0))] [] h := by
  unfold fX9_begins_b23 at hf
  refine A_aload_n C dX9_begins_23 (i := 0) rfl 0 rfl 24 rfl ?_
  refine gfRX9_23 C kx0 dX9_begins_24 27 rfl ?_
  refine A_iconst (v := 2) C dX9_begins_27 (by decide) 28 rfl ?_
  refine A_iald C dX9_begins_28 (of_9_16 kx0) hf 29 rfl (fun hf => ?_)
  refine A_if_ne C dX9_begins_29 42 (by decide) 32 rfl hf (fun c29 hf => ?_) (fun c29 hf => ?_)
  · refine A_aload_n C dX9_begins_42 (i := 0) rfl 0 rfl 43 rfl ?_
    refine gfRX9_110 C kx0 dX9_begins_43 46 rfl ?_
    refine A_if_ne C dX9_begins_46 53 (by decide) 49 rfl hf (fun c46 hf => ?_) (fun c46 hf => ?_)
    · refine A_iconst (v := 1) C dX9_begins_53 (by decide) 54 rfl ?_
      exact A_zret (x := true) C dX9_begins_54 E hf
    refine A_aload_n C dX9_begins_49 (i := 0) rfl 0 rfl 50 rfl ?_
    refine CVv C dX9_begins_50 9 kx0 (by decide) (r := (RX9, TX9, 44)) rfl rfl hf (fun _ e => mX9_next kx0 e) lkRX9_131 (by decide) (by decide) rfl [] rfl (Nat.le_of_ble_eq_true rfl) 53 rfl (fun h50 hf => ?_)
    refine A_iconst (v := 1) C dX9_begins_53 (by decide) 54 rfl ?_
    exact A_zret (x := true) C dX9_begins_54 E hf
  refine A_aload_n C dX9_begins_32 (i := 0) rfl 0 rfl 33 rfl ?_
  refine A_bipush (v := 6) C dX9_begins_33 (by decide) 35 rfl ?_
  refine A_aload_n C dX9_begins_35 (i := 0) rfl 0 rfl 36 rfl ?_
  refine gfRX9_91 C kx0 dX9_begins_36 39 rfl ?_
  refine CVv C dX9_begins_39 9 kx0 (by decide) (r := (RX9, TX9, 44)) rfl rfl hf (fun _ e => mX9_wrong kx0 e) lkRX9_137 (by decide) (by decide) rfl [] rfl (Nat.le_of_ble_eq_true rfl) 42 rfl (fun h39 hf => ?_)
  refine A_aload_n C dX9_begins_42 (i := 0) rfl 0 rfl 43 rfl ?_
  refine gfRX9_110 C kx0 dX9_begins_43 46 rfl ?_
  refine A_if_ne C dX9_begins_46 53 (by decide) 49 rfl hf (fun c46 hf => ?_) (fun c46 hf => ?_)
  · refine A_iconst (v := 1) C dX9_begins_53 (by decide) 54 rfl ?_
    exact A_zret (x := true) C dX9_begins_54 E hf
  refine A_aload_n C dX9_begins_49 (i := 0) rfl 0 rfl 50 rfl ?_
  refine CVv C dX9_begins_50 9 kx0 (by decide) (r := (RX9, TX9, 44)) rfl rfl hf (fun _ e => mX9_next kx0 e) lkRX9_131 (by decide) (by decide) rfl [] rfl (Nat.le_of_ble_eq_true rfl) 53 rfl (fun h50 hf => ?_)
  refine A_iconst (v := 1) C dX9_begins_53 (by decide) 54 rfl ?_
  exact A_zret (x := true) C dX9_begins_54 E hf
set_option maxRecDepth 20000 in
theorem mX9_begins {K : KX} {x0 : Nat} {x1 : Nat} {x2 : Bool} (k0 : isK 9 x0) (k1 : x1 < 58) {h : HH} {rv : Bool} {hv : HH} (hf : fX9_begins x0 x1 x2 h = some (rv, hv)) : MR K yX9_begins cX9_begins 3 (some .boolean) 7 [.ref (K.2.1 x0), .ref (K.2.2.2.2.2.1 x1), .int (b2i x2)] h (some (.int (b2i rv))) hv := by
  refine MR_of (by decide) (Nat.le_of_ble_eq_true rfl) (fun G C E hnl => ?_)
  have C : Ok K G 7 cX9_begins RX9 := C
  refine (show At K G 0 [(0, .ref (K.2.1 x0)), (1, .ref (K.2.2.2.2.2.1 x1)), (2, .int (b2i x2))] [] h from ?_)
  unfold fX9_begins at hf
  refine A_aload_n C dX9_begins_0 (i := 0) rfl 0 rfl 1 rfl ?_
  refine A_aload_n C dX9_begins_1 (i := 1) rfl 1 rfl 2 rfl ?_
  refine CVz C dX9_begins_2 9 k0 (by decide) (r := (RX9, TX9, 44)) rfl rfl hf (fun _ _ e => mX9_isWord k0 k1 e) lkRX9_127 (by decide) (by decide) rfl [] rfl (Nat.le_of_ble_eq_true rfl) 5 rfl (fun r2 h2 hf => ?_)
  refine A_z_ne C dX9_begins_5 10 (by decide) 8 rfl hf (fun c5 hf => ?_) (fun c5 hf => ?_)
  · refine A_iload_n C dX9_begins_10 (i := 2) rfl 2 rfl 11 rfl ?_
    refine A_z_ne C dX9_begins_11 23 (by decide) 14 rfl hf (fun c11 hf => ?_) (fun c11 hf => ?_)
    · refine A_sub [0] (lv' := [(0, .ref (K.2.1 x0))]) rfl ?_
      exact wX9_begins_b23 C hnl E k0 hf
    refine A_aload_n C dX9_begins_14 (i := 0) rfl 0 rfl 15 rfl ?_
    refine A_iconst (v := 5) C dX9_begins_15 (by decide) 16 rfl ?_
    refine A_aload_n C dX9_begins_16 (i := 0) rfl 0 rfl 17 rfl ?_
    refine gfRX9_91 C k0 dX9_begins_17 20 rfl ?_
    refine CVv C dX9_begins_20 9 k0 (by decide) (r := (RX9, TX9, 44)) rfl rfl hf (fun _ e => mX9_wrong k0 e) lkRX9_137 (by decide) (by decide) rfl [] rfl (Nat.le_of_ble_eq_true rfl) 23 rfl (fun h20 hf => ?_)
    refine A_sub [0] (lv' := [(0, .ref (K.2.1 x0))]) rfl ?_
    exact wX9_begins_b23 C hnl E k0 hf
  refine A_iconst (v := 0) C dX9_begins_8 (by decide) 9 rfl ?_
  exact A_zret (x := false) C dX9_begins_9 E hf
set_option maxRecDepth 20000 in
theorem mX9_headLine {K : KX} {x0 : Nat} (k0 : isK 9 x0) {h : HH} {rv : HH} (hf : fX9_headLine x0 h = some rv) : MR K yX9_headLine cX9_headLine 1 none 9 [.ref (K.2.1 x0)] h none rv := by
  refine MR_of (by decide) (Nat.le_of_ble_eq_true rfl) (fun G C E hnl => ?_)
  have C : Ok K G 9 cX9_headLine RX9 := C
  refine (show At K G 0 [(0, .ref (K.2.1 x0))] [] h from ?_)
  unfold fX9_headLine at hf
  refine A_aload_n C dX9_headLine_0 (i := 0) rfl 0 rfl 1 rfl ?_
  refine gfRX9_110 C k0 dX9_headLine_1 4 rfl ?_
  refine A_if_eq C dX9_headLine_4 8 (by decide) 7 rfl hf (fun c4 hf => ?_) (fun c4 hf => ?_)
  · refine A_aload_n C dX9_headLine_8 (i := 0) rfl 0 rfl 9 rfl ?_
    refine A_aload_n C dX9_headLine_9 (i := 0) rfl 0 rfl 10 rfl ?_
    refine gfRX9_23 C k0 dX9_headLine_10 13 rfl ?_
    refine A_iconst (v := 3) C dX9_headLine_13 (by decide) 14 rfl ?_
    refine A_iald C dX9_headLine_14 (of_9_16 k0) hf 15 rfl (fun hf => ?_)
    refine CVv C dX9_headLine_15 9 k0 (by decide) (r := (RX9, TX9, 44)) rfl rfl hf (fun _ e => mX9_newName k0 e) lkRX9_268 (by decide) (by decide) rfl [] rfl (Nat.le_of_ble_eq_true rfl) 18 rfl (fun h15 hf => ?_)
    refine A_aload_n C dX9_headLine_18 (i := 0) rfl 0 rfl 19 rfl ?_
    refine gfRX9_110 C k0 dX9_headLine_19 22 rfl ?_
    refine A_if_ne C dX9_headLine_22 35 (by decide) 25 rfl hf (fun c22 hf => ?_) (fun c22 hf => ?_)
    · exact A_vret C dX9_headLine_35 E hf
    refine A_aload_n C dX9_headLine_25 (i := 0) rfl 0 rfl 26 rfl ?_
    refine gfRX9_23 C k0 dX9_headLine_26 29 rfl ?_
    refine A_iconst (v := 3) C dX9_headLine_29 (by decide) 30 rfl ?_
    refine A_dup2 C dX9_headLine_30 rfl rfl 31 rfl ?_
    refine A_iald C dX9_headLine_31 (of_9_16 k0) hf 32 rfl (fun hf => ?_)
    refine A_iconst (v := 1) C dX9_headLine_32 (by decide) 33 rfl ?_
    refine A_iadd C dX9_headLine_33 34 rfl ?_
    refine A_iast C dX9_headLine_34 (of_9_16 k0) hf 35 rfl (fun hf => ?_)
    exact A_vret C dX9_headLine_35 E hf
  exact A_vret C dX9_headLine_7 E hf
set_option maxRecDepth 20000 in
theorem wX9_sleeperLine_b100 {K : KX} {G : GX} (C : Ok K G 10 cX9_sleeperLine RX9) (hnl : G.2.2.2.2.2.2.2.2.2.2.2.2.2 = 4) {rv : HH} (E : Endd K G none none rv) {x0 : Nat} {x2 : Int32} {x3 : Int32}   (kx0 : isK 9 x0) {h : HH} (hf : fX9_sleeperLine_b100 x0 x2 x3 h = some rv) : At K G 100 [(0, .ref (K.2.1 x0)), (2, .int x2), (3, .int x3)] [] h := by
  unfold fX9_sleeperLine_b100 at hf
  refine A_aload_n C dX9_sleeperLine_100 (i := 0) rfl 0 rfl 101 rfl ?_
  refine gfRX9_110 C kx0 dX9_sleeperLine_101 104 rfl ?_
  refine A_if_eq C dX9_sleeperLine_104 108 (by decide) 107 rfl hf (fun c104 hf => ?_) (fun c104 hf => ?_)
  · refine A_aload_n C dX9_sleeperLine_108 (i := 0) rfl 0 rfl 109 rfl ?_
    refine CVv C dX9_sleeperLine_109 9 kx0 (by decide) (r := (RX9, TX9, 44)) rfl rfl hf (fun _ e => mX9_next kx0 e) lkRX9_131 (by decide) (by decide) rfl [] rfl (Nat.le_of_ble_eq_true rfl) 112 rfl (fun h109 hf => ?_)
    refine A_aload_n C dX9_sleeperLine_112 (i := 0) rfl 0 rfl 113 rfl ?_
    refine gfRX9_23 C kx0 dX9_sleeperLine_113 116 rfl ?_
    refine A_iload_n C dX9_sleeperLine_116 (i := 2) rfl 1 rfl 117 rfl ?_
    refine A_iconst (v := 0) C dX9_sleeperLine_117 (by decide) 118 rfl ?_
    refine A_iadd C dX9_sleeperLine_118 119 rfl ?_
    refine A_iload_n C dX9_sleeperLine_119 (i := 3) rfl 2 rfl 120 rfl ?_
    refine A_iast C dX9_sleeperLine_120 (of_9_16 kx0) hf 121 rfl (fun hf => ?_)
    refine A_aload_n C dX9_sleeperLine_121 (i := 0) rfl 0 rfl 122 rfl ?_
    refine gfRX9_23 C kx0 dX9_sleeperLine_122 125 rfl ?_
    refine A_iload_n C dX9_sleeperLine_125 (i := 2) rfl 1 rfl 126 rfl ?_
    refine A_iconst (v := 1) C dX9_sleeperLine_126 (by decide) 127 rfl ?_
    refine A_iadd C dX9_sleeperLine_127 128 rfl ?_
    refine A_aload_n C dX9_sleeperLine_128 (i := 0) rfl 0 rfl 129 rfl ?_
    refine A_strw C dX9_sleeperLine_129 (i := 48) (by decide) rfl 132 rfl ?_
    refine A_iconst (v := 1) C dX9_sleeperLine_132 (by decide) 133 rfl ?_
    refine A_sipush (v := 9999) C dX9_sleeperLine_133 (by decide) 136 rfl ?_
    refine CVi C dX9_sleeperLine_136 9 kx0 (by decide) (r := (RX9, TX9, 44)) rfl rfl hf (fun _ _ e => mX9_after kx0 (by decide) e) lkRX9_262 (by decide) (by decide) rfl [.int (x2 + 1), .ref (K.2.1 (x0 + 4))] rfl (Nat.le_of_ble_eq_true rfl) 139 rfl (fun r136 h136 hf => ?_)
    refine A_iast C dX9_sleeperLine_139 (of_9_16 kx0) hf 140 rfl (fun hf => ?_)
    refine A_aload_n C dX9_sleeperLine_140 (i := 0) rfl 0 rfl 141 rfl ?_
    refine gfRX9_23 C kx0 dX9_sleeperLine_141 144 rfl ?_
    refine A_iload_n C dX9_sleeperLine_144 (i := 2) rfl 1 rfl 145 rfl ?_
    refine A_iconst (v := 2) C dX9_sleeperLine_145 (by decide) 146 rfl ?_
    refine A_iadd C dX9_sleeperLine_146 147 rfl ?_
    refine A_aload_n C dX9_sleeperLine_147 (i := 0) rfl 0 rfl 148 rfl ?_
    refine A_strw C dX9_sleeperLine_148 (i := 49) (by decide) rfl 151 rfl ?_
    refine A_iconst (v := 0) C dX9_sleeperLine_151 (by decide) 152 rfl ?_
    refine A_sipush (v := 999) C dX9_sleeperLine_152 (by decide) 155 rfl ?_
    refine CVi C dX9_sleeperLine_155 9 kx0 (by decide) (r := (RX9, TX9, 44)) rfl rfl hf (fun _ _ e => mX9_after kx0 (by decide) e) lkRX9_262 (by decide) (by decide) rfl [.int (x2 + 2), .ref (K.2.1 (x0 + 4))] rfl (Nat.le_of_ble_eq_true rfl) 158 rfl (fun r155 h155 hf => ?_)
    refine A_iast C dX9_sleeperLine_158 (of_9_16 kx0) hf 159 rfl (fun hf => ?_)
    refine A_aload_n C dX9_sleeperLine_159 (i := 0) rfl 0 rfl 160 rfl ?_
    refine gfRX9_23 C kx0 dX9_sleeperLine_160 163 rfl ?_
    refine A_iload_n C dX9_sleeperLine_163 (i := 2) rfl 1 rfl 164 rfl ?_
    refine A_iconst (v := 3) C dX9_sleeperLine_164 (by decide) 165 rfl ?_
    refine A_iadd C dX9_sleeperLine_165 166 rfl ?_
    refine A_aload_n C dX9_sleeperLine_166 (i := 0) rfl 0 rfl 167 rfl ?_
    refine A_strw C dX9_sleeperLine_167 (i := 50) (by decide) rfl 170 rfl ?_
    refine A_iconst (v := 0) C dX9_sleeperLine_170 (by decide) 171 rfl ?_
    refine A_bipush (v := 100) C dX9_sleeperLine_171 (by decide) 173 rfl ?_
    refine CVi C dX9_sleeperLine_173 9 kx0 (by decide) (r := (RX9, TX9, 44)) rfl rfl hf (fun _ _ e => mX9_after kx0 (by decide) e) lkRX9_262 (by decide) (by decide) rfl [.int (x2 + 3), .ref (K.2.1 (x0 + 4))] rfl (Nat.le_of_ble_eq_true rfl) 176 rfl (fun r173 h173 hf => ?_)
    refine A_iast C dX9_sleeperLine_176 (of_9_16 kx0) hf 177 rfl (fun hf => ?_)
    refine A_aload_n C dX9_sleeperLine_177 (i := 0) rfl 0 rfl 178 rfl ?_
    refine gfRX9_23 C kx0 dX9_sleeperLine_178 181 rfl ?_
    refine A_iload_n C dX9_sleeperLine_181 (i := 2) rfl 1 rfl 182 rfl ?_
    refine A_iconst (v := 4) C dX9_sleeperLine_182 (by decide) 183 rfl ?_
    refine A_iadd C dX9_sleeperLine_183 184 rfl ?_
    refine A_iconst (v := 0) C dX9_sleeperLine_184 (by decide) 185 rfl ?_
    refine A_iast C dX9_sleeperLine_185 (of_9_16 kx0) hf 186 rfl (fun hf => ?_)
    refine A_namH hf (fun g3 hf => ?_)
    refine A_aload_n C dX9_sleeperLine_186 (i := 0) rfl 0 rfl 187 rfl ?_
    refine gfRX9_110 C kx0 dX9_sleeperLine_187 190 rfl ?_
    refine A_if_ne C dX9_sleeperLine_190 203 (by decide) 193 rfl hf (fun c190 hf => ?_) (fun c190 hf => ?_)
    · exact A_vret C dX9_sleeperLine_203 E hf
    refine A_aload_n C dX9_sleeperLine_193 (i := 0) rfl 0 rfl 194 rfl ?_
    refine gfRX9_23 C kx0 dX9_sleeperLine_194 197 rfl ?_
    refine A_iconst (v := 4) C dX9_sleeperLine_197 (by decide) 198 rfl ?_
    refine A_dup2 C dX9_sleeperLine_198 rfl rfl 199 rfl ?_
    refine A_iald C dX9_sleeperLine_199 (of_9_16 kx0) hf 200 rfl (fun hf => ?_)
    refine A_iconst (v := 1) C dX9_sleeperLine_200 (by decide) 201 rfl ?_
    refine A_iadd C dX9_sleeperLine_201 202 rfl ?_
    refine A_iast C dX9_sleeperLine_202 (of_9_16 kx0) hf 203 rfl (fun hf => ?_)
    exact A_vret C dX9_sleeperLine_203 E hf
  exact A_vret C dX9_sleeperLine_107 E hf
set_option maxRecDepth 20000 in
theorem wX9_sleeperLine_b86 {K : KX} {G : GX} (C : Ok K G 10 cX9_sleeperLine RX9) (hnl : G.2.2.2.2.2.2.2.2.2.2.2.2.2 = 4) {rv : HH} (E : Endd K G none none rv) {x0 : Nat} {x2 : Int32} {s0 : Int32}   (kx0 : isK 9 x0) {h : HH} (hf : fX9_sleeperLine_b86 x0 x2 s0 h = some rv) : At K G 86 [(0, .ref (K.2.1 x0)), (2, .int x2)] [.int s0] h := by
  unfold fX9_sleeperLine_b86 at hf
  refine A_istore_n C dX9_sleeperLine_86 (i := 3) rfl [(3, .int s0), (0, .ref (K.2.1 x0)), (2, .int x2)] (lt_nl hnl (by decide)) rfl 87 rfl ?_
  refine A_iload_n C dX9_sleeperLine_87 (i := 3) rfl 0 rfl 88 rfl ?_
  refine A_if_ge C dX9_sleeperLine_88 100 (by decide) 91 rfl hf (fun c88 hf => ?_) (fun c88 hf => ?_)
  · refine A_sub [1, 2, 0] (lv' := [(0, .ref (K.2.1 x0)), (2, .int x2), (3, .int s0)]) rfl ?_
    exact wX9_sleeperLine_b100 C hnl E kx0 hf
  refine A_aload_n C dX9_sleeperLine_91 (i := 0) rfl 1 rfl 92 rfl ?_
  refine A_iconst (v := 1) C dX9_sleeperLine_92 (by decide) 93 rfl ?_
  refine A_aload_n C dX9_sleeperLine_93 (i := 0) rfl 1 rfl 94 rfl ?_
  refine gfRX9_91 C kx0 dX9_sleeperLine_94 97 rfl ?_
  refine CVv C dX9_sleeperLine_97 9 kx0 (by decide) (r := (RX9, TX9, 44)) rfl rfl hf (fun _ e => mX9_wrong kx0 e) lkRX9_137 (by decide) (by decide) rfl [] rfl (Nat.le_of_ble_eq_true rfl) 100 rfl (fun h97 hf => ?_)
  refine A_sub [1, 2, 0] (lv' := [(0, .ref (K.2.1 x0)), (2, .int x2), (3, .int s0)]) rfl ?_
  exact wX9_sleeperLine_b100 C hnl E kx0 hf
set_option maxRecDepth 20000 in
theorem mX9_sleeperLine {K : KX} {x0 : Nat} (k0 : isK 9 x0) {h : HH} {rv : HH} (hf : fX9_sleeperLine x0 h = some rv) : MR K yX9_sleeperLine cX9_sleeperLine 4 none 10 [.ref (K.2.1 x0)] h none rv := by
  refine MR_of (by decide) (Nat.le_of_ble_eq_true rfl) (fun G C E hnl => ?_)
  have C : Ok K G 10 cX9_sleeperLine RX9 := C
  refine (show At K G 0 [(0, .ref (K.2.1 x0))] [] h from ?_)
  unfold fX9_sleeperLine at hf
  refine A_aload_n C dX9_sleeperLine_0 (i := 0) rfl 0 rfl 1 rfl ?_
  refine gfRX9_110 C k0 dX9_sleeperLine_1 4 rfl ?_
  refine A_if_eq C dX9_sleeperLine_4 8 (by decide) 7 rfl hf (fun c4 hf => ?_) (fun c4 hf => ?_)
  · refine A_aload_n C dX9_sleeperLine_8 (i := 0) rfl 0 rfl 9 rfl ?_
    refine gfRX9_23 C k0 dX9_sleeperLine_9 12 rfl ?_
    refine A_iconst (v := 4) C dX9_sleeperLine_12 (by decide) 13 rfl ?_
    refine A_iald C dX9_sleeperLine_13 (of_9_16 k0) hf 14 rfl (fun hf => ?_)
    refine A_namI hf (fun y1 hf => ?_)
    refine A_istore_n C dX9_sleeperLine_14 (i := 1) rfl [(1, .int y1), (0, .ref (K.2.1 x0))] (lt_nl hnl (by decide)) rfl 15 rfl ?_
    refine A_bipush (v := 15) C dX9_sleeperLine_15 (by decide) 17 rfl ?_
    refine A_iconst (v := 5) C dX9_sleeperLine_17 (by decide) 18 rfl ?_
    refine A_iload_n C dX9_sleeperLine_18 (i := 1) rfl 0 rfl 19 rfl ?_
    refine A_imul C dX9_sleeperLine_19 20 rfl ?_
    refine A_iadd C dX9_sleeperLine_20 21 rfl ?_
    refine A_namI hf (fun y2 hf => ?_)
    refine A_istore_n C dX9_sleeperLine_21 (i := 2) rfl [(2, .int y2), (1, .int y1), (0, .ref (K.2.1 x0))] (lt_nl hnl (by decide)) rfl 22 rfl ?_
    refine A_aload_n C dX9_sleeperLine_22 (i := 0) rfl 2 rfl 23 rfl ?_
    refine A_iconst (v := 3) C dX9_sleeperLine_23 (by decide) 24 rfl ?_
    refine A_iload_n C dX9_sleeperLine_24 (i := 1) rfl 1 rfl 25 rfl ?_
    refine A_iadd C dX9_sleeperLine_25 26 rfl ?_
    refine CVv C dX9_sleeperLine_26 9 k0 (by decide) (r := (RX9, TX9, 44)) rfl rfl hf (fun _ e => mX9_newName k0 e) lkRX9_268 (by decide) (by decide) rfl [] rfl (Nat.le_of_ble_eq_true rfl) 29 rfl (fun h26 hf => ?_)
    refine A_aload_n C dX9_sleeperLine_29 (i := 0) rfl 2 rfl 30 rfl ?_
    refine A_strw C dX9_sleeperLine_30 (i := 44) (by decide) rfl 33 rfl ?_
    refine CVz C dX9_sleeperLine_33 9 k0 (by decide) (r := (RX9, TX9, 44)) rfl rfl hf (fun _ _ e => mX9_isWord k0 (by decide) e) lkRX9_127 (by decide) (by decide) rfl [] rfl (Nat.le_of_ble_eq_true rfl) 36 rfl (fun r33 h33 hf => ?_)
    refine A_z_eq C dX9_sleeperLine_36 43 (by decide) 39 rfl hf (fun c36 hf => ?_) (fun c36 hf => ?_)
    · refine A_aload_n C dX9_sleeperLine_43 (i := 0) rfl 2 rfl 44 rfl ?_
      refine A_strw C dX9_sleeperLine_44 (i := 45) (by decide) rfl 47 rfl ?_
      refine CVz C dX9_sleeperLine_47 9 k0 (by decide) (r := (RX9, TX9, 44)) rfl rfl hf (fun _ _ e => mX9_isWord k0 (by decide) e) lkRX9_127 (by decide) (by decide) rfl [] rfl (Nat.le_of_ble_eq_true rfl) 50 rfl (fun r47 h47 hf => ?_)
      refine A_z_eq C dX9_sleeperLine_50 57 (by decide) 53 rfl hf (fun c50 hf => ?_) (fun c50 hf => ?_)
      · refine A_aload_n C dX9_sleeperLine_57 (i := 0) rfl 2 rfl 58 rfl ?_
        refine A_strw C dX9_sleeperLine_58 (i := 46) (by decide) rfl 61 rfl ?_
        refine CVz C dX9_sleeperLine_61 9 k0 (by decide) (r := (RX9, TX9, 44)) rfl rfl hf (fun _ _ e => mX9_isWord k0 (by decide) e) lkRX9_127 (by decide) (by decide) rfl [] rfl (Nat.le_of_ble_eq_true rfl) 64 rfl (fun r61 h61 hf => ?_)
        refine A_z_eq C dX9_sleeperLine_64 71 (by decide) 67 rfl hf (fun c64 hf => ?_) (fun c64 hf => ?_)
        · refine A_aload_n C dX9_sleeperLine_71 (i := 0) rfl 2 rfl 72 rfl ?_
          refine A_strw C dX9_sleeperLine_72 (i := 47) (by decide) rfl 75 rfl ?_
          refine CVz C dX9_sleeperLine_75 9 k0 (by decide) (r := (RX9, TX9, 44)) rfl rfl hf (fun _ _ e => mX9_isWord k0 (by decide) e) lkRX9_127 (by decide) (by decide) rfl [] rfl (Nat.le_of_ble_eq_true rfl) 78 rfl (fun r75 h75 hf => ?_)
          refine A_z_eq C dX9_sleeperLine_78 85 (by decide) 81 rfl hf (fun c78 hf => ?_) (fun c78 hf => ?_)
          · refine A_iconst (v := (-1)) C dX9_sleeperLine_85 (by decide) 86 rfl ?_
            refine A_sub [2, 0] (lv' := [(0, .ref (K.2.1 x0)), (2, .int y2)]) rfl ?_
            exact wX9_sleeperLine_b86 C hnl E k0 hf
          refine A_iconst (v := 3) C dX9_sleeperLine_81 (by decide) 82 rfl ?_
          refine A_goto C dX9_sleeperLine_82 86 (by decide) ?_
          refine A_sub [2, 0] (lv' := [(0, .ref (K.2.1 x0)), (2, .int y2)]) rfl ?_
          exact wX9_sleeperLine_b86 C hnl E k0 hf
        refine A_iconst (v := 2) C dX9_sleeperLine_67 (by decide) 68 rfl ?_
        refine A_goto C dX9_sleeperLine_68 86 (by decide) ?_
        refine A_sub [2, 0] (lv' := [(0, .ref (K.2.1 x0)), (2, .int y2)]) rfl ?_
        exact wX9_sleeperLine_b86 C hnl E k0 hf
      refine A_iconst (v := 1) C dX9_sleeperLine_53 (by decide) 54 rfl ?_
      refine A_goto C dX9_sleeperLine_54 86 (by decide) ?_
      refine A_sub [2, 0] (lv' := [(0, .ref (K.2.1 x0)), (2, .int y2)]) rfl ?_
      exact wX9_sleeperLine_b86 C hnl E k0 hf
    refine A_iconst (v := 0) C dX9_sleeperLine_39 (by decide) 40 rfl ?_
    refine A_goto C dX9_sleeperLine_40 86 (by decide) ?_
    refine A_sub [2, 0] (lv' := [(0, .ref (K.2.1 x0)), (2, .int y2)]) rfl ?_
    exact wX9_sleeperLine_b86 C hnl E k0 hf
  exact A_vret C dX9_sleeperLine_7 E hf
set_option maxRecDepth 20000 in
theorem mX9_stepLine {K : KX} {x0 : Nat} {x1 : Bool} (k0 : isK 9 x0) {h : HH} {rv : HH} (hf : fX9_stepLine x0 x1 h = some rv) : MR K yX9_stepLine cX9_stepLine 3 none 11 [.ref (K.2.1 x0), .int (b2i x1)] h none rv := by
  refine MR_of (by decide) (Nat.le_of_ble_eq_true rfl) (fun G C E hnl => ?_)
  have C : Ok K G 11 cX9_stepLine RX9 := C
  refine (show At K G 0 [(0, .ref (K.2.1 x0)), (1, .int (b2i x1))] [] h from ?_)
  unfold fX9_stepLine at hf
  refine A_aload_n C dX9_stepLine_0 (i := 0) rfl 0 rfl 1 rfl ?_
  refine gfRX9_110 C k0 dX9_stepLine_1 4 rfl ?_
  refine A_if_eq C dX9_stepLine_4 8 (by decide) 7 rfl hf (fun c4 hf => ?_) (fun c4 hf => ?_)
  · refine A_bipush (v := 40) C dX9_stepLine_8 (by decide) 10 rfl ?_
    refine A_iconst (v := 3) C dX9_stepLine_10 (by decide) 11 rfl ?_
    refine A_aload_n C dX9_stepLine_11 (i := 0) rfl 0 rfl 12 rfl ?_
    refine gfRX9_23 C k0 dX9_stepLine_12 15 rfl ?_
    refine A_iconst (v := 5) C dX9_stepLine_15 (by decide) 16 rfl ?_
    refine A_iald C dX9_stepLine_16 (of_9_16 k0) hf 17 rfl (fun hf => ?_)
    refine A_imul C dX9_stepLine_17 18 rfl ?_
    refine A_iadd C dX9_stepLine_18 19 rfl ?_
    refine A_namI hf (fun y1 hf => ?_)
    refine A_istore_n C dX9_stepLine_19 (i := 2) rfl [(2, .int y1), (0, .ref (K.2.1 x0)), (1, .int (b2i x1))] (lt_nl hnl (by decide)) rfl 20 rfl ?_
    refine A_aload_n C dX9_stepLine_20 (i := 0) rfl 1 rfl 21 rfl ?_
    refine gfRX9_23 C k0 dX9_stepLine_21 24 rfl ?_
    refine A_iload_n C dX9_stepLine_24 (i := 2) rfl 0 rfl 25 rfl ?_
    refine A_aload_n C dX9_stepLine_25 (i := 0) rfl 1 rfl 26 rfl ?_
    refine CVi C dX9_stepLine_26 9 k0 (by decide) (r := (RX9, TX9, 44)) rfl rfl hf (fun _ _ e => mX9_sleeperPassed k0 e) lkRX9_286 (by decide) (by decide) rfl [.int y1, .ref (K.2.1 (x0 + 4))] rfl (Nat.le_of_ble_eq_true rfl) 29 rfl (fun r26 h26 hf => ?_)
    refine A_iast C dX9_stepLine_29 (of_9_16 k0) hf 30 rfl (fun hf => ?_)
    refine A_aload_n C dX9_stepLine_30 (i := 0) rfl 1 rfl 31 rfl ?_
    refine gfRX9_23 C k0 dX9_stepLine_31 34 rfl ?_
    refine A_iload_n C dX9_stepLine_34 (i := 2) rfl 0 rfl 35 rfl ?_
    refine A_iconst (v := 1) C dX9_stepLine_35 (by decide) 36 rfl ?_
    refine A_iadd C dX9_stepLine_36 37 rfl ?_
    refine A_iload_n C dX9_stepLine_37 (i := 1) rfl 2 rfl 38 rfl ?_
    refine A_z_eq C dX9_stepLine_38 50 (by decide) 41 rfl hf (fun c38 hf => ?_) (fun c38 hf => ?_)
    · refine A_iconst (v := 0) C dX9_stepLine_50 (by decide) 51 rfl ?_
      refine A_iast C dX9_stepLine_51 (of_9_16 k0) hf 52 rfl (fun hf => ?_)
      refine A_namH hf (fun g2 hf => ?_)
      refine A_aload_n C dX9_stepLine_52 (i := 0) rfl 1 rfl 53 rfl ?_
      refine gfRX9_23 C k0 dX9_stepLine_53 56 rfl ?_
      refine A_iload_n C dX9_stepLine_56 (i := 2) rfl 0 rfl 57 rfl ?_
      refine A_iconst (v := 2) C dX9_stepLine_57 (by decide) 58 rfl ?_
      refine A_iadd C dX9_stepLine_58 59 rfl ?_
      refine A_aload_n C dX9_stepLine_59 (i := 0) rfl 1 rfl 60 rfl ?_
      refine A_strw C dX9_stepLine_60 (i := 51) (by decide) rfl 63 rfl ?_
      refine A_iconst (v := 0) C dX9_stepLine_63 (by decide) 64 rfl ?_
      refine A_sipush (v := 999) C dX9_stepLine_64 (by decide) 67 rfl ?_
      refine CVi C dX9_stepLine_67 9 k0 (by decide) (r := (RX9, TX9, 44)) rfl rfl hf (fun _ _ e => mX9_after k0 (by decide) e) lkRX9_262 (by decide) (by decide) rfl [.int (y1 + 2), .ref (K.2.1 (x0 + 4))] rfl (Nat.le_of_ble_eq_true rfl) 70 rfl (fun r67 h67 hf => ?_)
      refine A_iast C dX9_stepLine_70 (of_9_16 k0) hf 71 rfl (fun hf => ?_)
      refine A_aload_n C dX9_stepLine_71 (i := 0) rfl 1 rfl 72 rfl ?_
      refine gfRX9_110 C k0 dX9_stepLine_72 75 rfl ?_
      refine A_if_ne C dX9_stepLine_75 88 (by decide) 78 rfl hf (fun c75 hf => ?_) (fun c75 hf => ?_)
      · exact A_vret C dX9_stepLine_88 E hf
      refine A_aload_n C dX9_stepLine_78 (i := 0) rfl 1 rfl 79 rfl ?_
      refine gfRX9_23 C k0 dX9_stepLine_79 82 rfl ?_
      refine A_iconst (v := 5) C dX9_stepLine_82 (by decide) 83 rfl ?_
      refine A_dup2 C dX9_stepLine_83 rfl rfl 84 rfl ?_
      refine A_iald C dX9_stepLine_84 (of_9_16 k0) hf 85 rfl (fun hf => ?_)
      refine A_iconst (v := 1) C dX9_stepLine_85 (by decide) 86 rfl ?_
      refine A_iadd C dX9_stepLine_86 87 rfl ?_
      refine A_iast C dX9_stepLine_87 (of_9_16 k0) hf 88 rfl (fun hf => ?_)
      refine A_namH hf (fun g3 hf => ?_)
      exact A_vret C dX9_stepLine_88 E hf
    refine A_aload_n C dX9_stepLine_41 (i := 0) rfl 1 rfl 42 rfl ?_
    refine CVi C dX9_stepLine_42 9 k0 (by decide) (r := (RX9, TX9, 44)) rfl rfl hf (fun _ _ e => mX9_headPassed k0 e) lkRX9_289 (by decide) (by decide) rfl [.int (y1 + 1), .ref (K.2.1 (x0 + 4))] rfl (Nat.le_of_ble_eq_true rfl) 45 rfl (fun r42 h42 hf => ?_)
    refine A_iconst (v := 1) C dX9_stepLine_45 (by decide) 46 rfl ?_
    refine A_iadd C dX9_stepLine_46 47 rfl ?_
    refine A_goto C dX9_stepLine_47 51 (by decide) ?_
    refine A_iast C dX9_stepLine_51 (of_9_16 k0) hf 52 rfl (fun hf => ?_)
    refine A_aload_n C dX9_stepLine_52 (i := 0) rfl 1 rfl 53 rfl ?_
    refine gfRX9_23 C k0 dX9_stepLine_53 56 rfl ?_
    refine A_iload_n C dX9_stepLine_56 (i := 2) rfl 0 rfl 57 rfl ?_
    refine A_iconst (v := 2) C dX9_stepLine_57 (by decide) 58 rfl ?_
    refine A_iadd C dX9_stepLine_58 59 rfl ?_
    refine A_aload_n C dX9_stepLine_59 (i := 0) rfl 1 rfl 60 rfl ?_
    refine A_strw C dX9_stepLine_60 (i := 51) (by decide) rfl 63 rfl ?_
    refine A_iconst (v := 0) C dX9_stepLine_63 (by decide) 64 rfl ?_
    refine A_sipush (v := 999) C dX9_stepLine_64 (by decide) 67 rfl ?_
    refine CVi C dX9_stepLine_67 9 k0 (by decide) (r := (RX9, TX9, 44)) rfl rfl hf (fun _ _ e => mX9_after k0 (by decide) e) lkRX9_262 (by decide) (by decide) rfl [.int (y1 + 2), .ref (K.2.1 (x0 + 4))] rfl (Nat.le_of_ble_eq_true rfl) 70 rfl (fun r67 h67 hf => ?_)
    refine A_iast C dX9_stepLine_70 (of_9_16 k0) hf 71 rfl (fun hf => ?_)
    refine A_aload_n C dX9_stepLine_71 (i := 0) rfl 1 rfl 72 rfl ?_
    refine gfRX9_110 C k0 dX9_stepLine_72 75 rfl ?_
    refine A_if_ne C dX9_stepLine_75 88 (by decide) 78 rfl hf (fun c75 hf => ?_) (fun c75 hf => ?_)
    · exact A_vret C dX9_stepLine_88 E hf
    refine A_aload_n C dX9_stepLine_78 (i := 0) rfl 1 rfl 79 rfl ?_
    refine gfRX9_23 C k0 dX9_stepLine_79 82 rfl ?_
    refine A_iconst (v := 5) C dX9_stepLine_82 (by decide) 83 rfl ?_
    refine A_dup2 C dX9_stepLine_83 rfl rfl 84 rfl ?_
    refine A_iald C dX9_stepLine_84 (of_9_16 k0) hf 85 rfl (fun hf => ?_)
    refine A_iconst (v := 1) C dX9_stepLine_85 (by decide) 86 rfl ?_
    refine A_iadd C dX9_stepLine_86 87 rfl ?_
    refine A_iast C dX9_stepLine_87 (of_9_16 k0) hf 88 rfl (fun hf => ?_)
    refine A_namH hf (fun g4 hf => ?_)
    exact A_vret C dX9_stepLine_88 E hf
  exact A_vret C dX9_stepLine_7 E hf
set_option maxRecDepth 20000 in
theorem mX9_knockLine {K : KX} {x0 : Nat} (k0 : isK 9 x0) {h : HH} {rv : HH} (hf : fX9_knockLine x0 h = some rv) : MR K yX9_knockLine cX9_knockLine 2 none 10 [.ref (K.2.1 x0)] h none rv := by
  refine MR_of (by decide) (Nat.le_of_ble_eq_true rfl) (fun G C E hnl => ?_)
  have C : Ok K G 10 cX9_knockLine RX9 := C
  refine (show At K G 0 [(0, .ref (K.2.1 x0))] [] h from ?_)
  unfold fX9_knockLine at hf
  refine A_aload_n C dX9_knockLine_0 (i := 0) rfl 0 rfl 1 rfl ?_
  refine gfRX9_110 C k0 dX9_knockLine_1 4 rfl ?_
  refine A_if_eq C dX9_knockLine_4 8 (by decide) 7 rfl hf (fun c4 hf => ?_) (fun c4 hf => ?_)
  · refine A_bipush (v := 100) C dX9_knockLine_8 (by decide) 10 rfl ?_
    refine A_iconst (v := 4) C dX9_knockLine_10 (by decide) 11 rfl ?_
    refine A_aload_n C dX9_knockLine_11 (i := 0) rfl 0 rfl 12 rfl ?_
    refine gfRX9_23 C k0 dX9_knockLine_12 15 rfl ?_
    refine A_bipush (v := 6) C dX9_knockLine_15 (by decide) 17 rfl ?_
    refine A_iald C dX9_knockLine_17 (of_9_16 k0) hf 18 rfl (fun hf => ?_)
    refine A_imul C dX9_knockLine_18 19 rfl ?_
    refine A_iadd C dX9_knockLine_19 20 rfl ?_
    refine A_namI hf (fun y1 hf => ?_)
    refine A_istore_n C dX9_knockLine_20 (i := 1) rfl [(1, .int y1), (0, .ref (K.2.1 x0))] (lt_nl hnl (by decide)) rfl 21 rfl ?_
    refine A_aload_n C dX9_knockLine_21 (i := 0) rfl 1 rfl 22 rfl ?_
    refine gfRX9_23 C k0 dX9_knockLine_22 25 rfl ?_
    refine A_iload_n C dX9_knockLine_25 (i := 1) rfl 0 rfl 26 rfl ?_
    refine A_aload_n C dX9_knockLine_26 (i := 0) rfl 1 rfl 27 rfl ?_
    refine CVi C dX9_knockLine_27 9 k0 (by decide) (r := (RX9, TX9, 44)) rfl rfl hf (fun _ _ e => mX9_headPassed k0 e) lkRX9_289 (by decide) (by decide) rfl [.int y1, .ref (K.2.1 (x0 + 4))] rfl (Nat.le_of_ble_eq_true rfl) 30 rfl (fun r27 h27 hf => ?_)
    refine A_iast C dX9_knockLine_30 (of_9_16 k0) hf 31 rfl (fun hf => ?_)
    refine A_aload_n C dX9_knockLine_31 (i := 0) rfl 1 rfl 32 rfl ?_
    refine gfRX9_23 C k0 dX9_knockLine_32 35 rfl ?_
    refine A_iload_n C dX9_knockLine_35 (i := 1) rfl 0 rfl 36 rfl ?_
    refine A_iconst (v := 1) C dX9_knockLine_36 (by decide) 37 rfl ?_
    refine A_iadd C dX9_knockLine_37 38 rfl ?_
    refine A_aload_n C dX9_knockLine_38 (i := 0) rfl 1 rfl 39 rfl ?_
    refine A_strw C dX9_knockLine_39 (i := 52) (by decide) rfl 42 rfl ?_
    refine A_iconst (v := 0) C dX9_knockLine_42 (by decide) 43 rfl ?_
    refine A_aload_n C dX9_knockLine_43 (i := 0) rfl 1 rfl 44 rfl ?_
    refine gfRX9_23 C k0 dX9_knockLine_44 47 rfl ?_
    refine A_iconst (v := 0) C dX9_knockLine_47 (by decide) 48 rfl ?_
    refine A_iald C dX9_knockLine_48 (of_9_16 k0) hf 49 rfl (fun hf => ?_)
    refine A_iconst (v := 1) C dX9_knockLine_49 (by decide) 50 rfl ?_
    refine A_isub C dX9_knockLine_50 51 rfl ?_
    refine CVi C dX9_knockLine_51 9 k0 (by decide) (r := (RX9, TX9, 44)) rfl rfl hf (fun _ _ e => mX9_after k0 (by decide) e) lkRX9_262 (by decide) (by decide) rfl [.int (y1 + 1), .ref (K.2.1 (x0 + 4))] rfl (Nat.le_of_ble_eq_true rfl) 54 rfl (fun r51 h51 hf => ?_)
    refine A_iast C dX9_knockLine_54 (of_9_16 k0) hf 55 rfl (fun hf => ?_)
    refine A_aload_n C dX9_knockLine_55 (i := 0) rfl 1 rfl 56 rfl ?_
    refine gfRX9_23 C k0 dX9_knockLine_56 59 rfl ?_
    refine A_iload_n C dX9_knockLine_59 (i := 1) rfl 0 rfl 60 rfl ?_
    refine A_iconst (v := 2) C dX9_knockLine_60 (by decide) 61 rfl ?_
    refine A_iadd C dX9_knockLine_61 62 rfl ?_
    refine A_aload_n C dX9_knockLine_62 (i := 0) rfl 1 rfl 63 rfl ?_
    refine A_strw C dX9_knockLine_63 (i := 53) (by decide) rfl 66 rfl ?_
    refine A_iconst (v := 0) C dX9_knockLine_66 (by decide) 67 rfl ?_
    refine A_aload_n C dX9_knockLine_67 (i := 0) rfl 1 rfl 68 rfl ?_
    refine gfRX9_23 C k0 dX9_knockLine_68 71 rfl ?_
    refine A_iconst (v := 2) C dX9_knockLine_71 (by decide) 72 rfl ?_
    refine A_iald C dX9_knockLine_72 (of_9_16 k0) hf 73 rfl (fun hf => ?_)
    refine CVi C dX9_knockLine_73 9 k0 (by decide) (r := (RX9, TX9, 44)) rfl rfl hf (fun _ _ e => mX9_after k0 (by decide) e) lkRX9_262 (by decide) (by decide) rfl [.int (y1 + 2), .ref (K.2.1 (x0 + 4))] rfl (Nat.le_of_ble_eq_true rfl) 76 rfl (fun r73 h73 hf => ?_)
    refine A_iast C dX9_knockLine_76 (of_9_16 k0) hf 77 rfl (fun hf => ?_)
    refine A_aload_n C dX9_knockLine_77 (i := 0) rfl 1 rfl 78 rfl ?_
    refine gfRX9_23 C k0 dX9_knockLine_78 81 rfl ?_
    refine A_iload_n C dX9_knockLine_81 (i := 1) rfl 0 rfl 82 rfl ?_
    refine A_iconst (v := 3) C dX9_knockLine_82 (by decide) 83 rfl ?_
    refine A_iadd C dX9_knockLine_83 84 rfl ?_
    refine A_aload_n C dX9_knockLine_84 (i := 0) rfl 1 rfl 85 rfl ?_
    refine A_strw C dX9_knockLine_85 (i := 54) (by decide) rfl 88 rfl ?_
    refine A_iconst (v := 1) C dX9_knockLine_88 (by decide) 89 rfl ?_
    refine A_bipush (v := 99) C dX9_knockLine_89 (by decide) 91 rfl ?_
    refine CVi C dX9_knockLine_91 9 k0 (by decide) (r := (RX9, TX9, 44)) rfl rfl hf (fun _ _ e => mX9_after k0 (by decide) e) lkRX9_262 (by decide) (by decide) rfl [.int (y1 + 3), .ref (K.2.1 (x0 + 4))] rfl (Nat.le_of_ble_eq_true rfl) 94 rfl (fun r91 h91 hf => ?_)
    refine A_iast C dX9_knockLine_94 (of_9_16 k0) hf 95 rfl (fun hf => ?_)
    refine A_aload_n C dX9_knockLine_95 (i := 0) rfl 1 rfl 96 rfl ?_
    refine gfRX9_110 C k0 dX9_knockLine_96 99 rfl ?_
    refine A_if_ne C dX9_knockLine_99 113 (by decide) 102 rfl hf (fun c99 hf => ?_) (fun c99 hf => ?_)
    · exact A_vret C dX9_knockLine_113 E hf
    refine A_aload_n C dX9_knockLine_102 (i := 0) rfl 1 rfl 103 rfl ?_
    refine gfRX9_23 C k0 dX9_knockLine_103 106 rfl ?_
    refine A_bipush (v := 6) C dX9_knockLine_106 (by decide) 108 rfl ?_
    refine A_dup2 C dX9_knockLine_108 rfl rfl 109 rfl ?_
    refine A_iald C dX9_knockLine_109 (of_9_16 k0) hf 110 rfl (fun hf => ?_)
    refine A_iconst (v := 1) C dX9_knockLine_110 (by decide) 111 rfl ?_
    refine A_iadd C dX9_knockLine_111 112 rfl ?_
    refine A_iast C dX9_knockLine_112 (of_9_16 k0) hf 113 rfl (fun hf => ?_)
    refine A_namH hf (fun g2 hf => ?_)
    exact A_vret C dX9_knockLine_113 E hf
  exact A_vret C dX9_knockLine_7 E hf
set_option maxRecDepth 20000 in
theorem mX9_taskLine {K : KX} {x0 : Nat} (k0 : isK 9 x0) {h : HH} {rv : HH} (hf : fX9_taskLine x0 h = some rv) : MR K yX9_taskLine cX9_taskLine 2 none 10 [.ref (K.2.1 x0)] h none rv := by
  refine MR_of (by decide) (Nat.le_of_ble_eq_true rfl) (fun G C E hnl => ?_)
  have C : Ok K G 10 cX9_taskLine RX9 := C
  refine (show At K G 0 [(0, .ref (K.2.1 x0))] [] h from ?_)
  unfold fX9_taskLine at hf
  refine A_aload_n C dX9_taskLine_0 (i := 0) rfl 0 rfl 1 rfl ?_
  refine gfRX9_110 C k0 dX9_taskLine_1 4 rfl ?_
  refine A_if_eq C dX9_taskLine_4 8 (by decide) 7 rfl hf (fun c4 hf => ?_) (fun c4 hf => ?_)
  · refine A_sipush (v := 132) C dX9_taskLine_8 (by decide) 11 rfl ?_
    refine A_iconst (v := 3) C dX9_taskLine_11 (by decide) 12 rfl ?_
    refine A_aload_n C dX9_taskLine_12 (i := 0) rfl 0 rfl 13 rfl ?_
    refine gfRX9_23 C k0 dX9_taskLine_13 16 rfl ?_
    refine A_bipush (v := 7) C dX9_taskLine_16 (by decide) 18 rfl ?_
    refine A_iald C dX9_taskLine_18 (of_9_16 k0) hf 19 rfl (fun hf => ?_)
    refine A_imul C dX9_taskLine_19 20 rfl ?_
    refine A_iadd C dX9_taskLine_20 21 rfl ?_
    refine A_namI hf (fun y1 hf => ?_)
    refine A_istore_n C dX9_taskLine_21 (i := 1) rfl [(1, .int y1), (0, .ref (K.2.1 x0))] (lt_nl hnl (by decide)) rfl 22 rfl ?_
    refine A_aload_n C dX9_taskLine_22 (i := 0) rfl 1 rfl 23 rfl ?_
    refine A_bipush (v := 8) C dX9_taskLine_23 (by decide) 25 rfl ?_
    refine A_aload_n C dX9_taskLine_25 (i := 0) rfl 1 rfl 26 rfl ?_
    refine gfRX9_23 C k0 dX9_taskLine_26 29 rfl ?_
    refine A_bipush (v := 7) C dX9_taskLine_29 (by decide) 31 rfl ?_
    refine A_iald C dX9_taskLine_31 (of_9_16 k0) hf 32 rfl (fun hf => ?_)
    refine A_iadd C dX9_taskLine_32 33 rfl ?_
    refine CVv C dX9_taskLine_33 9 k0 (by decide) (r := (RX9, TX9, 44)) rfl rfl hf (fun _ e => mX9_newName k0 e) lkRX9_268 (by decide) (by decide) rfl [] rfl (Nat.le_of_ble_eq_true rfl) 36 rfl (fun h33 hf => ?_)
    refine A_aload_n C dX9_taskLine_36 (i := 0) rfl 1 rfl 37 rfl ?_
    refine gfRX9_23 C k0 dX9_taskLine_37 40 rfl ?_
    refine A_iload_n C dX9_taskLine_40 (i := 1) rfl 0 rfl 41 rfl ?_
    refine A_aload_n C dX9_taskLine_41 (i := 0) rfl 1 rfl 42 rfl ?_
    refine A_strw C dX9_taskLine_42 (i := 52) (by decide) rfl 45 rfl ?_
    refine A_iconst (v := 0) C dX9_taskLine_45 (by decide) 46 rfl ?_
    refine A_aload_n C dX9_taskLine_46 (i := 0) rfl 1 rfl 47 rfl ?_
    refine gfRX9_23 C k0 dX9_taskLine_47 50 rfl ?_
    refine A_iconst (v := 0) C dX9_taskLine_50 (by decide) 51 rfl ?_
    refine A_iald C dX9_taskLine_51 (of_9_16 k0) hf 52 rfl (fun hf => ?_)
    refine CVi C dX9_taskLine_52 9 k0 (by decide) (r := (RX9, TX9, 44)) rfl rfl hf (fun _ _ e => mX9_after k0 (by decide) e) lkRX9_262 (by decide) (by decide) rfl [.int y1, .ref (K.2.1 (x0 + 4))] rfl (Nat.le_of_ble_eq_true rfl) 55 rfl (fun r52 h52 hf => ?_)
    refine A_iast C dX9_taskLine_55 (of_9_16 k0) hf 56 rfl (fun hf => ?_)
    refine A_aload_n C dX9_taskLine_56 (i := 0) rfl 1 rfl 57 rfl ?_
    refine gfRX9_23 C k0 dX9_taskLine_57 60 rfl ?_
    refine A_iload_n C dX9_taskLine_60 (i := 1) rfl 0 rfl 61 rfl ?_
    refine A_iconst (v := 1) C dX9_taskLine_61 (by decide) 62 rfl ?_
    refine A_iadd C dX9_taskLine_62 63 rfl ?_
    refine A_aload_n C dX9_taskLine_63 (i := 0) rfl 1 rfl 64 rfl ?_
    refine A_strw C dX9_taskLine_64 (i := 55) (by decide) rfl 67 rfl ?_
    refine A_iconst (v := 1) C dX9_taskLine_67 (by decide) 68 rfl ?_
    refine A_sipush (v := 999) C dX9_taskLine_68 (by decide) 71 rfl ?_
    refine CVi C dX9_taskLine_71 9 k0 (by decide) (r := (RX9, TX9, 44)) rfl rfl hf (fun _ _ e => mX9_after k0 (by decide) e) lkRX9_262 (by decide) (by decide) rfl [.int (y1 + 1), .ref (K.2.1 (x0 + 4))] rfl (Nat.le_of_ble_eq_true rfl) 74 rfl (fun r71 h71 hf => ?_)
    refine A_iast C dX9_taskLine_74 (of_9_16 k0) hf 75 rfl (fun hf => ?_)
    refine A_aload_n C dX9_taskLine_75 (i := 0) rfl 1 rfl 76 rfl ?_
    refine gfRX9_23 C k0 dX9_taskLine_76 79 rfl ?_
    refine A_iload_n C dX9_taskLine_79 (i := 1) rfl 0 rfl 80 rfl ?_
    refine A_iconst (v := 2) C dX9_taskLine_80 (by decide) 81 rfl ?_
    refine A_iadd C dX9_taskLine_81 82 rfl ?_
    refine A_aload_n C dX9_taskLine_82 (i := 0) rfl 1 rfl 83 rfl ?_
    refine A_strw C dX9_taskLine_83 (i := 56) (by decide) rfl 86 rfl ?_
    refine A_iconst (v := 0) C dX9_taskLine_86 (by decide) 87 rfl ?_
    refine A_bipush (v := 99) C dX9_taskLine_87 (by decide) 89 rfl ?_
    refine CVi C dX9_taskLine_89 9 k0 (by decide) (r := (RX9, TX9, 44)) rfl rfl hf (fun _ _ e => mX9_after k0 (by decide) e) lkRX9_262 (by decide) (by decide) rfl [.int (y1 + 2), .ref (K.2.1 (x0 + 4))] rfl (Nat.le_of_ble_eq_true rfl) 92 rfl (fun r89 h89 hf => ?_)
    refine A_iast C dX9_taskLine_92 (of_9_16 k0) hf 93 rfl (fun hf => ?_)
    refine A_aload_n C dX9_taskLine_93 (i := 0) rfl 1 rfl 94 rfl ?_
    refine gfRX9_110 C k0 dX9_taskLine_94 97 rfl ?_
    refine A_if_ne C dX9_taskLine_97 111 (by decide) 100 rfl hf (fun c97 hf => ?_) (fun c97 hf => ?_)
    · exact A_vret C dX9_taskLine_111 E hf
    refine A_aload_n C dX9_taskLine_100 (i := 0) rfl 1 rfl 101 rfl ?_
    refine gfRX9_23 C k0 dX9_taskLine_101 104 rfl ?_
    refine A_bipush (v := 7) C dX9_taskLine_104 (by decide) 106 rfl ?_
    refine A_dup2 C dX9_taskLine_106 rfl rfl 107 rfl ?_
    refine A_iald C dX9_taskLine_107 (of_9_16 k0) hf 108 rfl (fun hf => ?_)
    refine A_iconst (v := 1) C dX9_taskLine_108 (by decide) 109 rfl ?_
    refine A_iadd C dX9_taskLine_109 110 rfl ?_
    refine A_iast C dX9_taskLine_110 (of_9_16 k0) hf 111 rfl (fun hf => ?_)
    refine A_namH hf (fun g2 hf => ?_)
    exact A_vret C dX9_taskLine_111 E hf
  exact A_vret C dX9_taskLine_7 E hf
set_option maxRecDepth 20000 in
theorem wX9_paysLine_L55 {K : KX} {G : GX} (C : Ok K G 4 cX9_paysLine RX9) (hnl : G.2.2.2.2.2.2.2.2.2.2.2.2.2 = 4) {rv : HH} (E : Endd K G none none rv) {x0 : Nat} {k55_128 : Int32 → HH → Option (HH)}  (Hk55_128 : ∀ (x1 : Int32) (h : HH), k55_128 x1 h = some rv → At K G 128 [(0, .ref (K.2.1 x0)), (1, .int x1)] [] h) (kx0 : isK 9 x0) : ∀ (self55 : Int32 → Bool → HH → Option (HH)), (∀ (x1 : Int32) (x2 : Bool) (h : HH), self55 x1 x2 h = some rv → At K G 55 [(0, .ref (K.2.1 x0)), (1, .int x1), (2, .int (b2i x2))] [] h) → ∀ (x1 : Int32) (x2 : Bool) (h : HH), fX9_paysLine_L55 k55_128 x0 self55 x1 x2 h = some rv → At K G 55 [(0, .ref (K.2.1 x0)), (1, .int x1), (2, .int (b2i x2))] [] h := by
  intro self55 Hself55 x1 x2 h hf
  unfold fX9_paysLine_L55 at hf
  refine A_iload_n C dX9_paysLine_55 (i := 2) rfl 2 rfl 56 rfl ?_
  refine A_z_eq C dX9_paysLine_56 128 (by decide) 59 rfl hf (fun c56 hf => ?_) (fun c56 hf => ?_)
  · refine A_sub [0, 1] (lv' := [(0, .ref (K.2.1 x0)), (1, .int x1)]) rfl ?_
    exact Hk55_128 _ _ hf
  refine A_aload_n C dX9_paysLine_59 (i := 0) rfl 0 rfl 60 rfl ?_
  refine A_iconst (v := 0) C dX9_paysLine_60 (by decide) 61 rfl ?_
  refine A_sipush (v := 999) C dX9_paysLine_61 (by decide) 64 rfl ?_
  refine CVi C dX9_paysLine_64 9 kx0 (by decide) (r := (RX9, TX9, 44)) rfl rfl hf (fun _ _ e => mX9_numberHere kx0 e) lkRX9_181 (by decide) (by decide) rfl [] rfl (Nat.le_of_ble_eq_true rfl) 67 rfl (fun r64 h64 hf => ?_)
  refine A_istore_n C dX9_paysLine_67 (i := 3) rfl [(3, .int r64), (0, .ref (K.2.1 x0)), (1, .int x1), (2, .int (b2i x2))] (lt_nl hnl (by decide)) rfl 68 rfl ?_
  refine A_aload_n C dX9_paysLine_68 (i := 0) rfl 1 rfl 69 rfl ?_
  refine gfRX9_110 C kx0 dX9_paysLine_69 72 rfl ?_
  refine A_if_ne C dX9_paysLine_72 94 (by decide) 75 rfl hf (fun c72 hf => ?_) (fun c72 hf => ?_)
  · refine A_aload_n C dX9_paysLine_94 (i := 0) rfl 1 rfl 95 rfl ?_
    refine gfRX9_110 C kx0 dX9_paysLine_95 98 rfl ?_
    refine A_if_eq C dX9_paysLine_98 102 (by decide) 101 rfl hf (fun c98 hf => ?_) (fun c98 hf => ?_)
    · refine A_aload_n C dX9_paysLine_102 (i := 0) rfl 1 rfl 103 rfl ?_
      refine gfRX9_23 C kx0 dX9_paysLine_103 106 rfl ?_
      refine A_sipush (v := 150) C dX9_paysLine_106 (by decide) 109 rfl ?_
      refine A_iload_n C dX9_paysLine_109 (i := 1) rfl 2 rfl 110 rfl ?_
      refine A_iadd C dX9_paysLine_110 111 rfl ?_
      refine A_iload_n C dX9_paysLine_111 (i := 3) rfl 0 rfl 112 rfl ?_
      refine A_iast C dX9_paysLine_112 (of_9_16 kx0) hf 113 rfl (fun hf => ?_)
      refine A_iinc (v := (x1 + 1)) C dX9_paysLine_113 2 rfl rfl [(1, .int (x1 + 1)), (3, .int r64), (0, .ref (K.2.1 x0)), (2, .int (b2i x2))] (lt_nl hnl (by decide)) rfl 116 rfl ?_
      refine A_aload_n C dX9_paysLine_116 (i := 0) rfl 2 rfl 117 rfl ?_
      refine CVv C dX9_paysLine_117 9 kx0 (by decide) (r := (RX9, TX9, 44)) rfl rfl hf (fun _ e => mX9_next kx0 e) lkRX9_131 (by decide) (by decide) rfl [] rfl (Nat.le_of_ble_eq_true rfl) 120 rfl (fun h117 hf => ?_)
      refine A_aload_n C dX9_paysLine_120 (i := 0) rfl 2 rfl 121 rfl ?_
      refine CVz C dX9_paysLine_121 9 kx0 (by decide) (r := (RX9, TX9, 44)) rfl rfl hf (fun _ _ e => mX9_comma kx0 e) lkRX9_256 (by decide) (by decide) rfl [] rfl (Nat.le_of_ble_eq_true rfl) 124 rfl (fun r121 h121 hf => ?_)
      refine A_istore_n C dX9_paysLine_124 (i := 2) rfl [(2, .int (b2i r121)), (1, .int (x1 + 1)), (3, .int r64), (0, .ref (K.2.1 x0))] (lt_nl hnl (by decide)) rfl 125 rfl ?_
      refine A_goto C dX9_paysLine_125 55 (by decide) ?_
      refine A_sub [3, 1, 0] (lv' := [(0, .ref (K.2.1 x0)), (1, .int (x1 + 1)), (2, .int (b2i r121))]) rfl ?_
      exact Hself55 _ _ _ hf
    exact A_vret C dX9_paysLine_101 E hf
  refine A_iload_n C dX9_paysLine_75 (i := 1) rfl 2 rfl 76 rfl ?_
  refine A_aload_n C dX9_paysLine_76 (i := 0) rfl 1 rfl 77 rfl ?_
  refine gfRX9_23 C kx0 dX9_paysLine_77 80 rfl ?_
  refine A_iconst (v := 0) C dX9_paysLine_80 (by decide) 81 rfl ?_
  refine A_iald C dX9_paysLine_81 (of_9_16 kx0) hf 82 rfl (fun hf => ?_)
  refine A_icmp_ne C dX9_paysLine_82 94 (by decide) 85 rfl hf (fun c82 hf => ?_) (fun c82 hf => ?_)
  · refine A_aload_n C dX9_paysLine_94 (i := 0) rfl 1 rfl 95 rfl ?_
    refine gfRX9_110 C kx0 dX9_paysLine_95 98 rfl ?_
    refine A_if_eq C dX9_paysLine_98 102 (by decide) 101 rfl hf (fun c98 hf => ?_) (fun c98 hf => ?_)
    · refine A_aload_n C dX9_paysLine_102 (i := 0) rfl 1 rfl 103 rfl ?_
      refine gfRX9_23 C kx0 dX9_paysLine_103 106 rfl ?_
      refine A_sipush (v := 150) C dX9_paysLine_106 (by decide) 109 rfl ?_
      refine A_iload_n C dX9_paysLine_109 (i := 1) rfl 2 rfl 110 rfl ?_
      refine A_iadd C dX9_paysLine_110 111 rfl ?_
      refine A_iload_n C dX9_paysLine_111 (i := 3) rfl 0 rfl 112 rfl ?_
      refine A_iast C dX9_paysLine_112 (of_9_16 kx0) hf 113 rfl (fun hf => ?_)
      refine A_iinc (v := (x1 + 1)) C dX9_paysLine_113 2 rfl rfl [(1, .int (x1 + 1)), (3, .int r64), (0, .ref (K.2.1 x0)), (2, .int (b2i x2))] (lt_nl hnl (by decide)) rfl 116 rfl ?_
      refine A_aload_n C dX9_paysLine_116 (i := 0) rfl 2 rfl 117 rfl ?_
      refine CVv C dX9_paysLine_117 9 kx0 (by decide) (r := (RX9, TX9, 44)) rfl rfl hf (fun _ e => mX9_next kx0 e) lkRX9_131 (by decide) (by decide) rfl [] rfl (Nat.le_of_ble_eq_true rfl) 120 rfl (fun h117 hf => ?_)
      refine A_aload_n C dX9_paysLine_120 (i := 0) rfl 2 rfl 121 rfl ?_
      refine CVz C dX9_paysLine_121 9 kx0 (by decide) (r := (RX9, TX9, 44)) rfl rfl hf (fun _ _ e => mX9_comma kx0 e) lkRX9_256 (by decide) (by decide) rfl [] rfl (Nat.le_of_ble_eq_true rfl) 124 rfl (fun r121 h121 hf => ?_)
      refine A_istore_n C dX9_paysLine_124 (i := 2) rfl [(2, .int (b2i r121)), (1, .int (x1 + 1)), (3, .int r64), (0, .ref (K.2.1 x0))] (lt_nl hnl (by decide)) rfl 125 rfl ?_
      refine A_goto C dX9_paysLine_125 55 (by decide) ?_
      refine A_sub [3, 1, 0] (lv' := [(0, .ref (K.2.1 x0)), (1, .int (x1 + 1)), (2, .int (b2i r121))]) rfl ?_
      exact Hself55 _ _ _ hf
    exact A_vret C dX9_paysLine_101 E hf
  refine A_aload_n C dX9_paysLine_85 (i := 0) rfl 1 rfl 86 rfl ?_
  refine A_iconst (v := 5) C dX9_paysLine_86 (by decide) 87 rfl ?_
  refine A_aload_n C dX9_paysLine_87 (i := 0) rfl 1 rfl 88 rfl ?_
  refine gfRX9_91 C kx0 dX9_paysLine_88 91 rfl ?_
  refine CVv C dX9_paysLine_91 9 kx0 (by decide) (r := (RX9, TX9, 44)) rfl rfl hf (fun _ e => mX9_wrong kx0 e) lkRX9_137 (by decide) (by decide) rfl [] rfl (Nat.le_of_ble_eq_true rfl) 94 rfl (fun h91 hf => ?_)
  refine A_aload_n C dX9_paysLine_94 (i := 0) rfl 1 rfl 95 rfl ?_
  refine gfRX9_110 C kx0 dX9_paysLine_95 98 rfl ?_
  refine A_if_eq C dX9_paysLine_98 102 (by decide) 101 rfl hf (fun c98 hf => ?_) (fun c98 hf => ?_)
  · refine A_aload_n C dX9_paysLine_102 (i := 0) rfl 1 rfl 103 rfl ?_
    refine gfRX9_23 C kx0 dX9_paysLine_103 106 rfl ?_
    refine A_sipush (v := 150) C dX9_paysLine_106 (by decide) 109 rfl ?_
    refine A_iload_n C dX9_paysLine_109 (i := 1) rfl 2 rfl 110 rfl ?_
    refine A_iadd C dX9_paysLine_110 111 rfl ?_
    refine A_iload_n C dX9_paysLine_111 (i := 3) rfl 0 rfl 112 rfl ?_
    refine A_iast C dX9_paysLine_112 (of_9_16 kx0) hf 113 rfl (fun hf => ?_)
    refine A_iinc (v := (x1 + 1)) C dX9_paysLine_113 2 rfl rfl [(1, .int (x1 + 1)), (3, .int r64), (0, .ref (K.2.1 x0)), (2, .int (b2i x2))] (lt_nl hnl (by decide)) rfl 116 rfl ?_
    refine A_aload_n C dX9_paysLine_116 (i := 0) rfl 2 rfl 117 rfl ?_
    refine CVv C dX9_paysLine_117 9 kx0 (by decide) (r := (RX9, TX9, 44)) rfl rfl hf (fun _ e => mX9_next kx0 e) lkRX9_131 (by decide) (by decide) rfl [] rfl (Nat.le_of_ble_eq_true rfl) 120 rfl (fun h117 hf => ?_)
    refine A_aload_n C dX9_paysLine_120 (i := 0) rfl 2 rfl 121 rfl ?_
    refine CVz C dX9_paysLine_121 9 kx0 (by decide) (r := (RX9, TX9, 44)) rfl rfl hf (fun _ _ e => mX9_comma kx0 e) lkRX9_256 (by decide) (by decide) rfl [] rfl (Nat.le_of_ble_eq_true rfl) 124 rfl (fun r121 h121 hf => ?_)
    refine A_istore_n C dX9_paysLine_124 (i := 2) rfl [(2, .int (b2i r121)), (1, .int (x1 + 1)), (3, .int r64), (0, .ref (K.2.1 x0))] (lt_nl hnl (by decide)) rfl 125 rfl ?_
    refine A_goto C dX9_paysLine_125 55 (by decide) ?_
    refine A_sub [3, 1, 0] (lv' := [(0, .ref (K.2.1 x0)), (1, .int (x1 + 1)), (2, .int (b2i r121))]) rfl ?_
    exact Hself55 _ _ _ hf
  exact A_vret C dX9_paysLine_101 E hf
set_option maxRecDepth 20000 in
theorem wX9_paysLine_b20 {K : KX} {G : GX} (C : Ok K G 4 cX9_paysLine RX9) (hnl : G.2.2.2.2.2.2.2.2.2.2.2.2.2 = 4) {rv : HH} (E : Endd K G none none rv) {x0 : Nat}   (kx0 : isK 9 x0) {h : HH} (hf : fX9_paysLine_b20 x0 h = some rv) : At K G 20 [(0, .ref (K.2.1 x0))] [] h := by
  unfold fX9_paysLine_b20 at hf
  refine A_aload_n C dX9_paysLine_20 (i := 0) rfl 0 rfl 21 rfl ?_
  refine gfRX9_23 C kx0 dX9_paysLine_21 24 rfl ?_
  refine A_iconst (v := 2) C dX9_paysLine_24 (by decide) 25 rfl ?_
  refine A_iald C dX9_paysLine_25 (of_9_16 kx0) hf 26 rfl (fun hf => ?_)
  refine A_if_ne C dX9_paysLine_26 39 (by decide) 29 rfl hf (fun c26 hf => ?_) (fun c26 hf => ?_)
  · refine A_aload_n C dX9_paysLine_39 (i := 0) rfl 0 rfl 40 rfl ?_
    refine gfRX9_110 C kx0 dX9_paysLine_40 43 rfl ?_
    refine A_if_eq C dX9_paysLine_43 47 (by decide) 46 rfl hf (fun c43 hf => ?_) (fun c43 hf => ?_)
    · refine A_aload_n C dX9_paysLine_47 (i := 0) rfl 0 rfl 48 rfl ?_
      refine CVv C dX9_paysLine_48 9 kx0 (by decide) (r := (RX9, TX9, 44)) rfl rfl hf (fun _ e => mX9_next kx0 e) lkRX9_131 (by decide) (by decide) rfl [] rfl (Nat.le_of_ble_eq_true rfl) 51 rfl (fun h48 hf => ?_)
      refine A_iconst (v := 0) C dX9_paysLine_51 (by decide) 52 rfl ?_
      refine A_istore_n C dX9_paysLine_52 (i := 1) rfl [(1, .int 0), (0, .ref (K.2.1 x0))] (lt_nl hnl (by decide)) rfl 53 rfl ?_
      refine A_iconst (v := 1) C dX9_paysLine_53 (by decide) 54 rfl ?_
      refine A_istore_n C dX9_paysLine_54 (i := 2) rfl [(2, .int 1), (1, .int 0), (0, .ref (K.2.1 x0))] (lt_nl hnl (by decide)) rfl 55 rfl ?_
      refine A_sub [2, 1, 0] (lv' := [(0, .ref (K.2.1 x0)), (1, .int 0), (2, .int (b2i true))]) rfl ?_
      refine lq2_at (wX9_paysLine_L55 C hnl E (fun x1 h hf => ?_) kx0) FU _ _ _ hf
      refine A_aload_n C dX9_paysLine_128 (i := 0) rfl 0 rfl 129 rfl ?_
      refine gfRX9_110 C kx0 dX9_paysLine_129 132 rfl ?_
      refine A_if_ne C dX9_paysLine_132 175 (by decide) 135 rfl hf (fun c132 hf => ?_) (fun c132 hf => ?_)
      · refine A_aload_n C dX9_paysLine_175 (i := 0) rfl 0 rfl 176 rfl ?_
        refine gfRX9_110 C kx0 dX9_paysLine_176 179 rfl ?_
        refine A_if_ne C dX9_paysLine_179 190 (by decide) 182 rfl hf (fun c179 hf => ?_) (fun c179 hf => ?_)
        · exact A_vret C dX9_paysLine_190 E hf
        refine A_aload_n C dX9_paysLine_182 (i := 0) rfl 0 rfl 183 rfl ?_
        refine gfRX9_23 C kx0 dX9_paysLine_183 186 rfl ?_
        refine A_bipush (v := 10) C dX9_paysLine_186 (by decide) 188 rfl ?_
        refine A_iconst (v := 1) C dX9_paysLine_188 (by decide) 189 rfl ?_
        refine A_iast C dX9_paysLine_189 (of_9_16 kx0) hf 190 rfl (fun hf => ?_)
        exact A_vret C dX9_paysLine_190 E hf
      refine A_iload_n C dX9_paysLine_135 (i := 1) rfl 1 rfl 136 rfl ?_
      refine A_aload_n C dX9_paysLine_136 (i := 0) rfl 0 rfl 137 rfl ?_
      refine gfRX9_23 C kx0 dX9_paysLine_137 140 rfl ?_
      refine A_iconst (v := 0) C dX9_paysLine_140 (by decide) 141 rfl ?_
      refine A_iald C dX9_paysLine_141 (of_9_16 kx0) hf 142 rfl (fun hf => ?_)
      refine A_icmp_ge C dX9_paysLine_142 175 (by decide) 145 rfl hf (fun c142 hf => ?_) (fun c142 hf => ?_)
      · refine A_aload_n C dX9_paysLine_175 (i := 0) rfl 0 rfl 176 rfl ?_
        refine gfRX9_110 C kx0 dX9_paysLine_176 179 rfl ?_
        refine A_if_ne C dX9_paysLine_179 190 (by decide) 182 rfl hf (fun c179 hf => ?_) (fun c179 hf => ?_)
        · exact A_vret C dX9_paysLine_190 E hf
        refine A_aload_n C dX9_paysLine_182 (i := 0) rfl 0 rfl 183 rfl ?_
        refine gfRX9_23 C kx0 dX9_paysLine_183 186 rfl ?_
        refine A_bipush (v := 10) C dX9_paysLine_186 (by decide) 188 rfl ?_
        refine A_iconst (v := 1) C dX9_paysLine_188 (by decide) 189 rfl ?_
        refine A_iast C dX9_paysLine_189 (of_9_16 kx0) hf 190 rfl (fun hf => ?_)
        exact A_vret C dX9_paysLine_190 E hf
      refine A_aload_n C dX9_paysLine_145 (i := 0) rfl 0 rfl 146 rfl ?_
      refine A_aload_n C dX9_paysLine_146 (i := 0) rfl 0 rfl 147 rfl ?_
      refine gfRX9_100 C kx0 dX9_paysLine_147 150 rfl ?_
      refine A_bipush (v := 59) C dX9_paysLine_150 (by decide) 152 rfl ?_
      refine A_icmp_eq C dX9_paysLine_152 162 (by decide) 155 rfl hf (fun c152 hf => ?_) (fun c152 hf => ?_)
      · refine A_bipush (v := 6) C dX9_paysLine_162 (by decide) 164 rfl ?_
        refine A_goto C dX9_paysLine_164 168 (by decide) ?_
        refine A_aload_n C dX9_paysLine_168 (i := 0) rfl 0 rfl 169 rfl ?_
        refine gfRX9_91 C kx0 dX9_paysLine_169 172 rfl ?_
        refine CVv C dX9_paysLine_172 9 kx0 (by decide) (r := (RX9, TX9, 44)) rfl rfl hf (fun _ e => mX9_wrong kx0 e) lkRX9_137 (by decide) (by decide) rfl [] rfl (Nat.le_of_ble_eq_true rfl) 175 rfl (fun h172 hf => ?_)
        refine A_aload_n C dX9_paysLine_175 (i := 0) rfl 0 rfl 176 rfl ?_
        refine gfRX9_110 C kx0 dX9_paysLine_176 179 rfl ?_
        refine A_if_ne C dX9_paysLine_179 190 (by decide) 182 rfl hf (fun c179 hf => ?_) (fun c179 hf => ?_)
        · exact A_vret C dX9_paysLine_190 E hf
        refine A_aload_n C dX9_paysLine_182 (i := 0) rfl 0 rfl 183 rfl ?_
        refine gfRX9_23 C kx0 dX9_paysLine_183 186 rfl ?_
        refine A_bipush (v := 10) C dX9_paysLine_186 (by decide) 188 rfl ?_
        refine A_iconst (v := 1) C dX9_paysLine_188 (by decide) 189 rfl ?_
        refine A_iast C dX9_paysLine_189 (of_9_16 kx0) hf 190 rfl (fun hf => ?_)
        exact A_vret C dX9_paysLine_190 E hf
      refine A_aload_n C dX9_paysLine_155 (i := 0) rfl 0 rfl 156 rfl ?_
      refine gfRX9_100 C kx0 dX9_paysLine_156 159 rfl ?_
      refine A_if_ne C dX9_paysLine_159 167 (by decide) 162 rfl hf (fun c159 hf => ?_) (fun c159 hf => ?_)
      · refine A_iconst (v := 1) C dX9_paysLine_167 (by decide) 168 rfl ?_
        refine A_aload_n C dX9_paysLine_168 (i := 0) rfl 0 rfl 169 rfl ?_
        refine gfRX9_91 C kx0 dX9_paysLine_169 172 rfl ?_
        refine CVv C dX9_paysLine_172 9 kx0 (by decide) (r := (RX9, TX9, 44)) rfl rfl hf (fun _ e => mX9_wrong kx0 e) lkRX9_137 (by decide) (by decide) rfl [] rfl (Nat.le_of_ble_eq_true rfl) 175 rfl (fun h172 hf => ?_)
        refine A_aload_n C dX9_paysLine_175 (i := 0) rfl 0 rfl 176 rfl ?_
        refine gfRX9_110 C kx0 dX9_paysLine_176 179 rfl ?_
        refine A_if_ne C dX9_paysLine_179 190 (by decide) 182 rfl hf (fun c179 hf => ?_) (fun c179 hf => ?_)
        · exact A_vret C dX9_paysLine_190 E hf
        refine A_aload_n C dX9_paysLine_182 (i := 0) rfl 0 rfl 183 rfl ?_
        refine gfRX9_23 C kx0 dX9_paysLine_183 186 rfl ?_
        refine A_bipush (v := 10) C dX9_paysLine_186 (by decide) 188 rfl ?_
        refine A_iconst (v := 1) C dX9_paysLine_188 (by decide) 189 rfl ?_
        refine A_iast C dX9_paysLine_189 (of_9_16 kx0) hf 190 rfl (fun hf => ?_)
        exact A_vret C dX9_paysLine_190 E hf
      refine A_bipush (v := 6) C dX9_paysLine_162 (by decide) 164 rfl ?_
      refine A_goto C dX9_paysLine_164 168 (by decide) ?_
      refine A_aload_n C dX9_paysLine_168 (i := 0) rfl 0 rfl 169 rfl ?_
      refine gfRX9_91 C kx0 dX9_paysLine_169 172 rfl ?_
      refine CVv C dX9_paysLine_172 9 kx0 (by decide) (r := (RX9, TX9, 44)) rfl rfl hf (fun _ e => mX9_wrong kx0 e) lkRX9_137 (by decide) (by decide) rfl [] rfl (Nat.le_of_ble_eq_true rfl) 175 rfl (fun h172 hf => ?_)
      refine A_aload_n C dX9_paysLine_175 (i := 0) rfl 0 rfl 176 rfl ?_
      refine gfRX9_110 C kx0 dX9_paysLine_176 179 rfl ?_
      refine A_if_ne C dX9_paysLine_179 190 (by decide) 182 rfl hf (fun c179 hf => ?_) (fun c179 hf => ?_)
      · exact A_vret C dX9_paysLine_190 E hf
      refine A_aload_n C dX9_paysLine_182 (i := 0) rfl 0 rfl 183 rfl ?_
      refine gfRX9_23 C kx0 dX9_paysLine_183 186 rfl ?_
      refine A_bipush (v := 10) C dX9_paysLine_186 (by decide) 188 rfl ?_
      refine A_iconst (v := 1) C dX9_paysLine_188 (by decide) 189 rfl ?_
      refine A_iast C dX9_paysLine_189 (of_9_16 kx0) hf 190 rfl (fun hf => ?_)
      exact A_vret C dX9_paysLine_190 E hf
    exact A_vret C dX9_paysLine_46 E hf
  refine A_aload_n C dX9_paysLine_29 (i := 0) rfl 0 rfl 30 rfl ?_
  refine A_bipush (v := 6) C dX9_paysLine_30 (by decide) 32 rfl ?_
  refine A_aload_n C dX9_paysLine_32 (i := 0) rfl 0 rfl 33 rfl ?_
  refine gfRX9_91 C kx0 dX9_paysLine_33 36 rfl ?_
  refine CVv C dX9_paysLine_36 9 kx0 (by decide) (r := (RX9, TX9, 44)) rfl rfl hf (fun _ e => mX9_wrong kx0 e) lkRX9_137 (by decide) (by decide) rfl [] rfl (Nat.le_of_ble_eq_true rfl) 39 rfl (fun h36 hf => ?_)
  refine A_aload_n C dX9_paysLine_39 (i := 0) rfl 0 rfl 40 rfl ?_
  refine gfRX9_110 C kx0 dX9_paysLine_40 43 rfl ?_
  refine A_if_eq C dX9_paysLine_43 47 (by decide) 46 rfl hf (fun c43 hf => ?_) (fun c43 hf => ?_)
  · refine A_aload_n C dX9_paysLine_47 (i := 0) rfl 0 rfl 48 rfl ?_
    refine CVv C dX9_paysLine_48 9 kx0 (by decide) (r := (RX9, TX9, 44)) rfl rfl hf (fun _ e => mX9_next kx0 e) lkRX9_131 (by decide) (by decide) rfl [] rfl (Nat.le_of_ble_eq_true rfl) 51 rfl (fun h48 hf => ?_)
    refine A_iconst (v := 0) C dX9_paysLine_51 (by decide) 52 rfl ?_
    refine A_istore_n C dX9_paysLine_52 (i := 1) rfl [(1, .int 0), (0, .ref (K.2.1 x0))] (lt_nl hnl (by decide)) rfl 53 rfl ?_
    refine A_iconst (v := 1) C dX9_paysLine_53 (by decide) 54 rfl ?_
    refine A_istore_n C dX9_paysLine_54 (i := 2) rfl [(2, .int 1), (1, .int 0), (0, .ref (K.2.1 x0))] (lt_nl hnl (by decide)) rfl 55 rfl ?_
    refine A_sub [2, 1, 0] (lv' := [(0, .ref (K.2.1 x0)), (1, .int 0), (2, .int (b2i true))]) rfl ?_
    refine lq2_at (wX9_paysLine_L55 C hnl E (fun x1 h hf => ?_) kx0) FU _ _ _ hf
    refine A_aload_n C dX9_paysLine_128 (i := 0) rfl 0 rfl 129 rfl ?_
    refine gfRX9_110 C kx0 dX9_paysLine_129 132 rfl ?_
    refine A_if_ne C dX9_paysLine_132 175 (by decide) 135 rfl hf (fun c132 hf => ?_) (fun c132 hf => ?_)
    · refine A_aload_n C dX9_paysLine_175 (i := 0) rfl 0 rfl 176 rfl ?_
      refine gfRX9_110 C kx0 dX9_paysLine_176 179 rfl ?_
      refine A_if_ne C dX9_paysLine_179 190 (by decide) 182 rfl hf (fun c179 hf => ?_) (fun c179 hf => ?_)
      · exact A_vret C dX9_paysLine_190 E hf
      refine A_aload_n C dX9_paysLine_182 (i := 0) rfl 0 rfl 183 rfl ?_
      refine gfRX9_23 C kx0 dX9_paysLine_183 186 rfl ?_
      refine A_bipush (v := 10) C dX9_paysLine_186 (by decide) 188 rfl ?_
      refine A_iconst (v := 1) C dX9_paysLine_188 (by decide) 189 rfl ?_
      refine A_iast C dX9_paysLine_189 (of_9_16 kx0) hf 190 rfl (fun hf => ?_)
      exact A_vret C dX9_paysLine_190 E hf
    refine A_iload_n C dX9_paysLine_135 (i := 1) rfl 1 rfl 136 rfl ?_
    refine A_aload_n C dX9_paysLine_136 (i := 0) rfl 0 rfl 137 rfl ?_
    refine gfRX9_23 C kx0 dX9_paysLine_137 140 rfl ?_
    refine A_iconst (v := 0) C dX9_paysLine_140 (by decide) 141 rfl ?_
    refine A_iald C dX9_paysLine_141 (of_9_16 kx0) hf 142 rfl (fun hf => ?_)
    refine A_icmp_ge C dX9_paysLine_142 175 (by decide) 145 rfl hf (fun c142 hf => ?_) (fun c142 hf => ?_)
    · refine A_aload_n C dX9_paysLine_175 (i := 0) rfl 0 rfl 176 rfl ?_
      refine gfRX9_110 C kx0 dX9_paysLine_176 179 rfl ?_
      refine A_if_ne C dX9_paysLine_179 190 (by decide) 182 rfl hf (fun c179 hf => ?_) (fun c179 hf => ?_)
      · exact A_vret C dX9_paysLine_190 E hf
      refine A_aload_n C dX9_paysLine_182 (i := 0) rfl 0 rfl 183 rfl ?_
      refine gfRX9_23 C kx0 dX9_paysLine_183 186 rfl ?_
      refine A_bipush (v := 10) C dX9_paysLine_186 (by decide) 188 rfl ?_
      refine A_iconst (v := 1) C dX9_paysLine_188 (by decide) 189 rfl ?_
      refine A_iast C dX9_paysLine_189 (of_9_16 kx0) hf 190 rfl (fun hf => ?_)
      exact A_vret C dX9_paysLine_190 E hf
    refine A_aload_n C dX9_paysLine_145 (i := 0) rfl 0 rfl 146 rfl ?_
    refine A_aload_n C dX9_paysLine_146 (i := 0) rfl 0 rfl 147 rfl ?_
    refine gfRX9_100 C kx0 dX9_paysLine_147 150 rfl ?_
    refine A_bipush (v := 59) C dX9_paysLine_150 (by decide) 152 rfl ?_
    refine A_icmp_eq C dX9_paysLine_152 162 (by decide) 155 rfl hf (fun c152 hf => ?_) (fun c152 hf => ?_)
    · refine A_bipush (v := 6) C dX9_paysLine_162 (by decide) 164 rfl ?_
      refine A_goto C dX9_paysLine_164 168 (by decide) ?_
      refine A_aload_n C dX9_paysLine_168 (i := 0) rfl 0 rfl 169 rfl ?_
      refine gfRX9_91 C kx0 dX9_paysLine_169 172 rfl ?_
      refine CVv C dX9_paysLine_172 9 kx0 (by decide) (r := (RX9, TX9, 44)) rfl rfl hf (fun _ e => mX9_wrong kx0 e) lkRX9_137 (by decide) (by decide) rfl [] rfl (Nat.le_of_ble_eq_true rfl) 175 rfl (fun h172 hf => ?_)
      refine A_aload_n C dX9_paysLine_175 (i := 0) rfl 0 rfl 176 rfl ?_
      refine gfRX9_110 C kx0 dX9_paysLine_176 179 rfl ?_
      refine A_if_ne C dX9_paysLine_179 190 (by decide) 182 rfl hf (fun c179 hf => ?_) (fun c179 hf => ?_)
      · exact A_vret C dX9_paysLine_190 E hf
      refine A_aload_n C dX9_paysLine_182 (i := 0) rfl 0 rfl 183 rfl ?_
      refine gfRX9_23 C kx0 dX9_paysLine_183 186 rfl ?_
      refine A_bipush (v := 10) C dX9_paysLine_186 (by decide) 188 rfl ?_
      refine A_iconst (v := 1) C dX9_paysLine_188 (by decide) 189 rfl ?_
      refine A_iast C dX9_paysLine_189 (of_9_16 kx0) hf 190 rfl (fun hf => ?_)
      exact A_vret C dX9_paysLine_190 E hf
    refine A_aload_n C dX9_paysLine_155 (i := 0) rfl 0 rfl 156 rfl ?_
    refine gfRX9_100 C kx0 dX9_paysLine_156 159 rfl ?_
    refine A_if_ne C dX9_paysLine_159 167 (by decide) 162 rfl hf (fun c159 hf => ?_) (fun c159 hf => ?_)
    · refine A_iconst (v := 1) C dX9_paysLine_167 (by decide) 168 rfl ?_
      refine A_aload_n C dX9_paysLine_168 (i := 0) rfl 0 rfl 169 rfl ?_
      refine gfRX9_91 C kx0 dX9_paysLine_169 172 rfl ?_
      refine CVv C dX9_paysLine_172 9 kx0 (by decide) (r := (RX9, TX9, 44)) rfl rfl hf (fun _ e => mX9_wrong kx0 e) lkRX9_137 (by decide) (by decide) rfl [] rfl (Nat.le_of_ble_eq_true rfl) 175 rfl (fun h172 hf => ?_)
      refine A_aload_n C dX9_paysLine_175 (i := 0) rfl 0 rfl 176 rfl ?_
      refine gfRX9_110 C kx0 dX9_paysLine_176 179 rfl ?_
      refine A_if_ne C dX9_paysLine_179 190 (by decide) 182 rfl hf (fun c179 hf => ?_) (fun c179 hf => ?_)
      · exact A_vret C dX9_paysLine_190 E hf
      refine A_aload_n C dX9_paysLine_182 (i := 0) rfl 0 rfl 183 rfl ?_
      refine gfRX9_23 C kx0 dX9_paysLine_183 186 rfl ?_
      refine A_bipush (v := 10) C dX9_paysLine_186 (by decide) 188 rfl ?_
      refine A_iconst (v := 1) C dX9_paysLine_188 (by decide) 189 rfl ?_
      refine A_iast C dX9_paysLine_189 (of_9_16 kx0) hf 190 rfl (fun hf => ?_)
      exact A_vret C dX9_paysLine_190 E hf
    refine A_bipush (v := 6) C dX9_paysLine_162 (by decide) 164 rfl ?_
    refine A_goto C dX9_paysLine_164 168 (by decide) ?_
    refine A_aload_n C dX9_paysLine_168 (i := 0) rfl 0 rfl 169 rfl ?_
    refine gfRX9_91 C kx0 dX9_paysLine_169 172 rfl ?_
    refine CVv C dX9_paysLine_172 9 kx0 (by decide) (r := (RX9, TX9, 44)) rfl rfl hf (fun _ e => mX9_wrong kx0 e) lkRX9_137 (by decide) (by decide) rfl [] rfl (Nat.le_of_ble_eq_true rfl) 175 rfl (fun h172 hf => ?_)
    refine A_aload_n C dX9_paysLine_175 (i := 0) rfl 0 rfl 176 rfl ?_
    refine gfRX9_110 C kx0 dX9_paysLine_176 179 rfl ?_
    refine A_if_ne C dX9_paysLine_179 190 (by decide) 182 rfl hf (fun c179 hf => ?_) (fun c179 hf => ?_)
    · exact A_vret C dX9_paysLine_190 E hf
    refine A_aload_n C dX9_paysLine_182 (i := 0) rfl 0 rfl 183 rfl ?_
    refine gfRX9_23 C kx0 dX9_paysLine_183 186 rfl ?_
    refine A_bipush (v := 10) C dX9_paysLine_186 (by decide) 188 rfl ?_
    refine A_iconst (v := 1) C dX9_paysLine_188 (by decide) 189 rfl ?_
    refine A_iast C dX9_paysLine_189 (of_9_16 kx0) hf 190 rfl (fun hf => ?_)
    exact A_vret C dX9_paysLine_190 E hf
  exact A_vret C dX9_paysLine_46 E hf
set_option maxRecDepth 20000 in
theorem mX9_paysLine {K : KX} {x0 : Nat} (k0 : isK 9 x0) {h : HH} {rv : HH} (hf : fX9_paysLine x0 h = some rv) : MR K yX9_paysLine cX9_paysLine 4 none 4 [.ref (K.2.1 x0)] h none rv := by
  refine MR_of (by decide) (Nat.le_of_ble_eq_true rfl) (fun G C E hnl => ?_)
  have C : Ok K G 4 cX9_paysLine RX9 := C
  refine (show At K G 0 [(0, .ref (K.2.1 x0))] [] h from ?_)
  unfold fX9_paysLine at hf
  refine A_aload_n C dX9_paysLine_0 (i := 0) rfl 0 rfl 1 rfl ?_
  refine gfRX9_23 C k0 dX9_paysLine_1 4 rfl ?_
  refine A_bipush (v := 10) C dX9_paysLine_4 (by decide) 6 rfl ?_
  refine A_iald C dX9_paysLine_6 (of_9_16 k0) hf 7 rfl (fun hf => ?_)
  refine A_iconst (v := 1) C dX9_paysLine_7 (by decide) 8 rfl ?_
  refine A_icmp_ne C dX9_paysLine_8 20 (by decide) 11 rfl hf (fun c8 hf => ?_) (fun c8 hf => ?_)
  · exact wX9_paysLine_b20 C hnl E k0 hf
  refine A_aload_n C dX9_paysLine_11 (i := 0) rfl 0 rfl 12 rfl ?_
  refine A_iconst (v := 3) C dX9_paysLine_12 (by decide) 13 rfl ?_
  refine A_aload_n C dX9_paysLine_13 (i := 0) rfl 0 rfl 14 rfl ?_
  refine gfRX9_91 C k0 dX9_paysLine_14 17 rfl ?_
  refine CVv C dX9_paysLine_17 9 k0 (by decide) (r := (RX9, TX9, 44)) rfl rfl hf (fun _ e => mX9_wrong k0 e) lkRX9_137 (by decide) (by decide) rfl [] rfl (Nat.le_of_ble_eq_true rfl) 20 rfl (fun h17 hf => ?_)
  exact wX9_paysLine_b20 C hnl E k0 hf
set_option maxRecDepth 20000 in
theorem mX9_thinksLine {K : KX} {x0 : Nat} (k0 : isK 9 x0) {h : HH} {rv : HH} (hf : fX9_thinksLine x0 h = some rv) : MR K yX9_thinksLine cX9_thinksLine 4 none 10 [.ref (K.2.1 x0)] h none rv := by
  refine MR_of (by decide) (Nat.le_of_ble_eq_true rfl) (fun G C E hnl => ?_)
  have C : Ok K G 10 cX9_thinksLine RX9 := C
  refine (show At K G 0 [(0, .ref (K.2.1 x0))] [] h from ?_)
  unfold fX9_thinksLine at hf
  refine A_aload_n C dX9_thinksLine_0 (i := 0) rfl 0 rfl 1 rfl ?_
  refine gfRX9_110 C k0 dX9_thinksLine_1 4 rfl ?_
  refine A_if_eq C dX9_thinksLine_4 8 (by decide) 7 rfl hf (fun c4 hf => ?_) (fun c4 hf => ?_)
  · refine A_aload_n C dX9_thinksLine_8 (i := 0) rfl 0 rfl 9 rfl ?_
    refine CVi C dX9_thinksLine_9 9 k0 (by decide) (r := (RX9, TX9, 44)) rfl rfl hf (fun _ _ e => mX9_sleeperHere k0 e) lkRX9_178 (by decide) (by decide) rfl [] rfl (Nat.le_of_ble_eq_true rfl) 12 rfl (fun r9 h9 hf => ?_)
    refine A_istore_n C dX9_thinksLine_12 (i := 1) rfl [(1, .int r9), (0, .ref (K.2.1 x0))] (lt_nl hnl (by decide)) rfl 13 rfl ?_
    refine A_bipush (v := 15) C dX9_thinksLine_13 (by decide) 15 rfl ?_
    refine A_iconst (v := 5) C dX9_thinksLine_15 (by decide) 16 rfl ?_
    refine A_iload_n C dX9_thinksLine_16 (i := 1) rfl 0 rfl 17 rfl ?_
    refine A_imul C dX9_thinksLine_17 18 rfl ?_
    refine A_iadd C dX9_thinksLine_18 19 rfl ?_
    refine A_iconst (v := 4) C dX9_thinksLine_19 (by decide) 20 rfl ?_
    refine A_iadd C dX9_thinksLine_20 21 rfl ?_
    refine A_namI hf (fun y1 hf => ?_)
    refine A_istore_n C dX9_thinksLine_21 (i := 2) rfl [(2, .int y1), (1, .int r9), (0, .ref (K.2.1 x0))] (lt_nl hnl (by decide)) rfl 22 rfl ?_
    refine A_aload_n C dX9_thinksLine_22 (i := 0) rfl 2 rfl 23 rfl ?_
    refine gfRX9_110 C k0 dX9_thinksLine_23 26 rfl ?_
    refine A_if_ne C dX9_thinksLine_26 47 (by decide) 29 rfl hf (fun c26 hf => ?_) (fun c26 hf => ?_)
    · refine A_aload_n C dX9_thinksLine_47 (i := 0) rfl 2 rfl 48 rfl ?_
      refine gfRX9_110 C k0 dX9_thinksLine_48 51 rfl ?_
      refine A_if_eq C dX9_thinksLine_51 55 (by decide) 54 rfl hf (fun c51 hf => ?_) (fun c51 hf => ?_)
      · refine A_aload_n C dX9_thinksLine_55 (i := 0) rfl 2 rfl 56 rfl ?_
        refine CVv C dX9_thinksLine_56 9 k0 (by decide) (r := (RX9, TX9, 44)) rfl rfl hf (fun _ e => mX9_next k0 e) lkRX9_131 (by decide) (by decide) rfl [] rfl (Nat.le_of_ble_eq_true rfl) 59 rfl (fun h56 hf => ?_)
        refine A_aload_n C dX9_thinksLine_59 (i := 0) rfl 2 rfl 60 rfl ?_
        refine A_iconst (v := 0) C dX9_thinksLine_60 (by decide) 61 rfl ?_
        refine A_iconst (v := 4) C dX9_thinksLine_61 (by decide) 62 rfl ?_
        refine CVi C dX9_thinksLine_62 9 k0 (by decide) (r := (RX9, TX9, 44)) rfl rfl hf (fun _ _ e => mX9_number k0 e) lkRX9_188 (by decide) (by decide) rfl [] rfl (Nat.le_of_ble_eq_true rfl) 65 rfl (fun r62 h62 hf => ?_)
        refine A_istore_n C dX9_thinksLine_65 (i := 3) rfl [(3, .int r62), (2, .int y1), (1, .int r9), (0, .ref (K.2.1 x0))] (lt_nl hnl (by decide)) rfl 66 rfl ?_
        refine A_aload_n C dX9_thinksLine_66 (i := 0) rfl 3 rfl 67 rfl ?_
        refine gfRX9_110 C k0 dX9_thinksLine_67 70 rfl ?_
        refine A_if_ne C dX9_thinksLine_70 82 (by decide) 73 rfl hf (fun c70 hf => ?_) (fun c70 hf => ?_)
        · exact A_vret C dX9_thinksLine_82 E hf
        refine A_aload_n C dX9_thinksLine_73 (i := 0) rfl 3 rfl 74 rfl ?_
        refine gfRX9_23 C k0 dX9_thinksLine_74 77 rfl ?_
        refine A_iload_n C dX9_thinksLine_77 (i := 2) rfl 1 rfl 78 rfl ?_
        refine A_iload_n C dX9_thinksLine_78 (i := 3) rfl 0 rfl 79 rfl ?_
        refine A_iconst (v := 1) C dX9_thinksLine_79 (by decide) 80 rfl ?_
        refine A_iadd C dX9_thinksLine_80 81 rfl ?_
        refine A_iast C dX9_thinksLine_81 (of_9_16 k0) hf 82 rfl (fun hf => ?_)
        exact A_vret C dX9_thinksLine_82 E hf
      exact A_vret C dX9_thinksLine_54 E hf
    refine A_aload_n C dX9_thinksLine_29 (i := 0) rfl 2 rfl 30 rfl ?_
    refine gfRX9_23 C k0 dX9_thinksLine_30 33 rfl ?_
    refine A_iload_n C dX9_thinksLine_33 (i := 2) rfl 0 rfl 34 rfl ?_
    refine A_iald C dX9_thinksLine_34 (of_9_16 k0) hf 35 rfl (fun hf => ?_)
    refine A_if_le C dX9_thinksLine_35 47 (by decide) 38 rfl hf (fun c35 hf => ?_) (fun c35 hf => ?_)
    · refine A_aload_n C dX9_thinksLine_47 (i := 0) rfl 2 rfl 48 rfl ?_
      refine gfRX9_110 C k0 dX9_thinksLine_48 51 rfl ?_
      refine A_if_eq C dX9_thinksLine_51 55 (by decide) 54 rfl hf (fun c51 hf => ?_) (fun c51 hf => ?_)
      · refine A_aload_n C dX9_thinksLine_55 (i := 0) rfl 2 rfl 56 rfl ?_
        refine CVv C dX9_thinksLine_56 9 k0 (by decide) (r := (RX9, TX9, 44)) rfl rfl hf (fun _ e => mX9_next k0 e) lkRX9_131 (by decide) (by decide) rfl [] rfl (Nat.le_of_ble_eq_true rfl) 59 rfl (fun h56 hf => ?_)
        refine A_aload_n C dX9_thinksLine_59 (i := 0) rfl 2 rfl 60 rfl ?_
        refine A_iconst (v := 0) C dX9_thinksLine_60 (by decide) 61 rfl ?_
        refine A_iconst (v := 4) C dX9_thinksLine_61 (by decide) 62 rfl ?_
        refine CVi C dX9_thinksLine_62 9 k0 (by decide) (r := (RX9, TX9, 44)) rfl rfl hf (fun _ _ e => mX9_number k0 e) lkRX9_188 (by decide) (by decide) rfl [] rfl (Nat.le_of_ble_eq_true rfl) 65 rfl (fun r62 h62 hf => ?_)
        refine A_istore_n C dX9_thinksLine_65 (i := 3) rfl [(3, .int r62), (2, .int y1), (1, .int r9), (0, .ref (K.2.1 x0))] (lt_nl hnl (by decide)) rfl 66 rfl ?_
        refine A_aload_n C dX9_thinksLine_66 (i := 0) rfl 3 rfl 67 rfl ?_
        refine gfRX9_110 C k0 dX9_thinksLine_67 70 rfl ?_
        refine A_if_ne C dX9_thinksLine_70 82 (by decide) 73 rfl hf (fun c70 hf => ?_) (fun c70 hf => ?_)
        · exact A_vret C dX9_thinksLine_82 E hf
        refine A_aload_n C dX9_thinksLine_73 (i := 0) rfl 3 rfl 74 rfl ?_
        refine gfRX9_23 C k0 dX9_thinksLine_74 77 rfl ?_
        refine A_iload_n C dX9_thinksLine_77 (i := 2) rfl 1 rfl 78 rfl ?_
        refine A_iload_n C dX9_thinksLine_78 (i := 3) rfl 0 rfl 79 rfl ?_
        refine A_iconst (v := 1) C dX9_thinksLine_79 (by decide) 80 rfl ?_
        refine A_iadd C dX9_thinksLine_80 81 rfl ?_
        refine A_iast C dX9_thinksLine_81 (of_9_16 k0) hf 82 rfl (fun hf => ?_)
        exact A_vret C dX9_thinksLine_82 E hf
      exact A_vret C dX9_thinksLine_54 E hf
    refine A_aload_n C dX9_thinksLine_38 (i := 0) rfl 2 rfl 39 rfl ?_
    refine A_iconst (v := 3) C dX9_thinksLine_39 (by decide) 40 rfl ?_
    refine A_aload_n C dX9_thinksLine_40 (i := 0) rfl 2 rfl 41 rfl ?_
    refine gfRX9_91 C k0 dX9_thinksLine_41 44 rfl ?_
    refine CVv C dX9_thinksLine_44 9 k0 (by decide) (r := (RX9, TX9, 44)) rfl rfl hf (fun _ e => mX9_wrong k0 e) lkRX9_137 (by decide) (by decide) rfl [] rfl (Nat.le_of_ble_eq_true rfl) 47 rfl (fun h44 hf => ?_)
    refine A_aload_n C dX9_thinksLine_47 (i := 0) rfl 2 rfl 48 rfl ?_
    refine gfRX9_110 C k0 dX9_thinksLine_48 51 rfl ?_
    refine A_if_eq C dX9_thinksLine_51 55 (by decide) 54 rfl hf (fun c51 hf => ?_) (fun c51 hf => ?_)
    · refine A_aload_n C dX9_thinksLine_55 (i := 0) rfl 2 rfl 56 rfl ?_
      refine CVv C dX9_thinksLine_56 9 k0 (by decide) (r := (RX9, TX9, 44)) rfl rfl hf (fun _ e => mX9_next k0 e) lkRX9_131 (by decide) (by decide) rfl [] rfl (Nat.le_of_ble_eq_true rfl) 59 rfl (fun h56 hf => ?_)
      refine A_aload_n C dX9_thinksLine_59 (i := 0) rfl 2 rfl 60 rfl ?_
      refine A_iconst (v := 0) C dX9_thinksLine_60 (by decide) 61 rfl ?_
      refine A_iconst (v := 4) C dX9_thinksLine_61 (by decide) 62 rfl ?_
      refine CVi C dX9_thinksLine_62 9 k0 (by decide) (r := (RX9, TX9, 44)) rfl rfl hf (fun _ _ e => mX9_number k0 e) lkRX9_188 (by decide) (by decide) rfl [] rfl (Nat.le_of_ble_eq_true rfl) 65 rfl (fun r62 h62 hf => ?_)
      refine A_istore_n C dX9_thinksLine_65 (i := 3) rfl [(3, .int r62), (2, .int y1), (1, .int r9), (0, .ref (K.2.1 x0))] (lt_nl hnl (by decide)) rfl 66 rfl ?_
      refine A_aload_n C dX9_thinksLine_66 (i := 0) rfl 3 rfl 67 rfl ?_
      refine gfRX9_110 C k0 dX9_thinksLine_67 70 rfl ?_
      refine A_if_ne C dX9_thinksLine_70 82 (by decide) 73 rfl hf (fun c70 hf => ?_) (fun c70 hf => ?_)
      · exact A_vret C dX9_thinksLine_82 E hf
      refine A_aload_n C dX9_thinksLine_73 (i := 0) rfl 3 rfl 74 rfl ?_
      refine gfRX9_23 C k0 dX9_thinksLine_74 77 rfl ?_
      refine A_iload_n C dX9_thinksLine_77 (i := 2) rfl 1 rfl 78 rfl ?_
      refine A_iload_n C dX9_thinksLine_78 (i := 3) rfl 0 rfl 79 rfl ?_
      refine A_iconst (v := 1) C dX9_thinksLine_79 (by decide) 80 rfl ?_
      refine A_iadd C dX9_thinksLine_80 81 rfl ?_
      refine A_iast C dX9_thinksLine_81 (of_9_16 k0) hf 82 rfl (fun hf => ?_)
      exact A_vret C dX9_thinksLine_82 E hf
    exact A_vret C dX9_thinksLine_54 E hf
  exact A_vret C dX9_thinksLine_7 E hf
set_option maxRecDepth 20000 in
theorem wX9_signLine_b58 {K : KX} {G : GX} (C : Ok K G 4 cX9_signLine RX9) (hnl : G.2.2.2.2.2.2.2.2.2.2.2.2.2 = 3) {rv : HH} (E : Endd K G none none rv) {x0 : Nat} {x1 : Bool} {x2 : Int32} {s0 : Int32} {s3 : Int32} {s4 : Nat}   (kx0 : isK 9 x0) (ks4 : isK 11 s4) {h : HH} (hf : fX9_signLine_b58 x0 x1 x2 s0 s3 s4 h = some rv) : At K G 58 [(0, .ref (K.2.1 x0)), (1, .int (b2i x1)), (2, .int x2)] [.int s0, .int 1, .ref (K.2.1 x0), .int s3, .ref (K.2.1 s4)] h := by
  unfold fX9_signLine_b58 at hf
  refine CVi C dX9_signLine_58 9 kx0 (by decide) (r := (RX9, TX9, 44)) rfl rfl hf (fun _ _ e => mX9_number kx0 e) lkRX9_188 (by decide) (by decide) rfl [.int s3, .ref (K.2.1 s4)] rfl (Nat.le_of_ble_eq_true rfl) 61 rfl (fun r58 h58 hf => ?_)
  refine A_iast C dX9_signLine_61 (isA_of ks4) hf 62 rfl (fun hf => ?_)
  refine A_aload_n C dX9_signLine_62 (i := 0) rfl 0 rfl 63 rfl ?_
  refine gfRX9_23 C kx0 dX9_signLine_63 66 rfl ?_
  refine A_iload_n C dX9_signLine_66 (i := 2) rfl 2 rfl 67 rfl ?_
  refine A_iconst (v := 2) C dX9_signLine_67 (by decide) 68 rfl ?_
  refine A_iadd C dX9_signLine_68 69 rfl ?_
  refine A_aload_n C dX9_signLine_69 (i := 0) rfl 0 rfl 70 rfl ?_
  refine A_iload_n C dX9_signLine_70 (i := 1) rfl 1 rfl 71 rfl ?_
  refine A_z_eq C dX9_signLine_71 78 (by decide) 74 rfl hf (fun c71 hf => ?_) (fun c71 hf => ?_)
  · refine A_iconst (v := 1) C dX9_signLine_78 (by decide) 79 rfl ?_
    refine A_sipush (v := 9999) C dX9_signLine_79 (by decide) 82 rfl ?_
    refine CVi C dX9_signLine_82 9 kx0 (by decide) (r := (RX9, TX9, 44)) rfl rfl hf (fun _ _ e => mX9_number kx0 e) lkRX9_188 (by decide) (by decide) rfl [.int (x2 + 2), .ref (K.2.1 (x0 + 4))] rfl (Nat.le_of_ble_eq_true rfl) 85 rfl (fun r82 h82 hf => ?_)
    refine A_iast C dX9_signLine_85 (of_9_16 kx0) hf 86 rfl (fun hf => ?_)
    refine A_aload_n C dX9_signLine_86 (i := 0) rfl 0 rfl 87 rfl ?_
    refine gfRX9_110 C kx0 dX9_signLine_87 90 rfl ?_
    refine A_if_ne C dX9_signLine_90 104 (by decide) 93 rfl hf (fun c90 hf => ?_) (fun c90 hf => ?_)
    · exact A_vret C dX9_signLine_104 E hf
    refine A_aload_n C dX9_signLine_93 (i := 0) rfl 0 rfl 94 rfl ?_
    refine gfRX9_23 C kx0 dX9_signLine_94 97 rfl ?_
    refine A_bipush (v := 8) C dX9_signLine_97 (by decide) 99 rfl ?_
    refine A_dup2 C dX9_signLine_99 rfl rfl 100 rfl ?_
    refine A_iald C dX9_signLine_100 (of_9_16 kx0) hf 101 rfl (fun hf => ?_)
    refine A_iconst (v := 1) C dX9_signLine_101 (by decide) 102 rfl ?_
    refine A_iadd C dX9_signLine_102 103 rfl ?_
    refine A_iast C dX9_signLine_103 (of_9_16 kx0) hf 104 rfl (fun hf => ?_)
    refine A_namH hf (fun g3 hf => ?_)
    exact A_vret C dX9_signLine_104 E hf
  refine A_iconst (v := 0) C dX9_signLine_74 (by decide) 75 rfl ?_
  refine A_goto C dX9_signLine_75 79 (by decide) ?_
  refine A_sipush (v := 9999) C dX9_signLine_79 (by decide) 82 rfl ?_
  refine CVi C dX9_signLine_82 9 kx0 (by decide) (r := (RX9, TX9, 44)) rfl rfl hf (fun _ _ e => mX9_number kx0 e) lkRX9_188 (by decide) (by decide) rfl [.int (x2 + 2), .ref (K.2.1 (x0 + 4))] rfl (Nat.le_of_ble_eq_true rfl) 85 rfl (fun r82 h82 hf => ?_)
  refine A_iast C dX9_signLine_85 (of_9_16 kx0) hf 86 rfl (fun hf => ?_)
  refine A_aload_n C dX9_signLine_86 (i := 0) rfl 0 rfl 87 rfl ?_
  refine gfRX9_110 C kx0 dX9_signLine_87 90 rfl ?_
  refine A_if_ne C dX9_signLine_90 104 (by decide) 93 rfl hf (fun c90 hf => ?_) (fun c90 hf => ?_)
  · exact A_vret C dX9_signLine_104 E hf
  refine A_aload_n C dX9_signLine_93 (i := 0) rfl 0 rfl 94 rfl ?_
  refine gfRX9_23 C kx0 dX9_signLine_94 97 rfl ?_
  refine A_bipush (v := 8) C dX9_signLine_97 (by decide) 99 rfl ?_
  refine A_dup2 C dX9_signLine_99 rfl rfl 100 rfl ?_
  refine A_iald C dX9_signLine_100 (of_9_16 kx0) hf 101 rfl (fun hf => ?_)
  refine A_iconst (v := 1) C dX9_signLine_101 (by decide) 102 rfl ?_
  refine A_iadd C dX9_signLine_102 103 rfl ?_
  refine A_iast C dX9_signLine_103 (of_9_16 kx0) hf 104 rfl (fun hf => ?_)
  refine A_namH hf (fun g4 hf => ?_)
  exact A_vret C dX9_signLine_104 E hf
set_option maxRecDepth 20000 in
theorem wX9_signLine_b36 {K : KX} {G : GX} (C : Ok K G 4 cX9_signLine RX9) (hnl : G.2.2.2.2.2.2.2.2.2.2.2.2.2 = 3) {rv : HH} (E : Endd K G none none rv) {x0 : Nat} {x1 : Bool} {x2 : Int32} {s0 : Bool} {s1 : Int32} {s2 : Nat}   (kx0 : isK 9 x0) (ks2 : isK 11 s2) {h : HH} (hf : fX9_signLine_b36 x0 x1 x2 s0 s1 s2 h = some rv) : At K G 36 [(0, .ref (K.2.1 x0)), (1, .int (b2i x1)), (2, .int x2)] [.int (b2i s0), .int s1, .ref (K.2.1 s2)] h := by
  unfold fX9_signLine_b36 at hf
  refine A_iast C dX9_signLine_36 (isA_of ks2) hf 37 rfl (fun hf => ?_)
  refine A_aload_n C dX9_signLine_37 (i := 0) rfl 0 rfl 38 rfl ?_
  refine gfRX9_23 C kx0 dX9_signLine_38 41 rfl ?_
  refine A_iload_n C dX9_signLine_41 (i := 2) rfl 2 rfl 42 rfl ?_
  refine A_iconst (v := 1) C dX9_signLine_42 (by decide) 43 rfl ?_
  refine A_iadd C dX9_signLine_43 44 rfl ?_
  refine A_aload_n C dX9_signLine_44 (i := 0) rfl 0 rfl 45 rfl ?_
  refine A_iconst (v := 1) C dX9_signLine_45 (by decide) 46 rfl ?_
  refine A_iload_n C dX9_signLine_46 (i := 1) rfl 1 rfl 47 rfl ?_
  refine A_z_eq C dX9_signLine_47 56 (by decide) 50 rfl hf (fun c47 hf => ?_) (fun c47 hf => ?_)
  · refine A_bipush (v := 99) C dX9_signLine_56 (by decide) 58 rfl ?_
    exact wX9_signLine_b58 C hnl E kx0 (isK_ofA (of_9_16 kx0)) hf
  refine A_sipush (v := 9999) C dX9_signLine_50 (by decide) 53 rfl ?_
  refine A_goto C dX9_signLine_53 58 (by decide) ?_
  exact wX9_signLine_b58 C hnl E kx0 (isK_ofA (of_9_16 kx0)) hf
set_option maxRecDepth 20000 in
theorem mX9_signLine {K : KX} {x0 : Nat} {x1 : Bool} (k0 : isK 9 x0) {h : HH} {rv : HH} (hf : fX9_signLine x0 x1 h = some rv) : MR K yX9_signLine cX9_signLine 3 none 4 [.ref (K.2.1 x0), .int (b2i x1)] h none rv := by
  refine MR_of (by decide) (Nat.le_of_ble_eq_true rfl) (fun G C E hnl => ?_)
  have C : Ok K G 4 cX9_signLine RX9 := C
  refine (show At K G 0 [(0, .ref (K.2.1 x0)), (1, .int (b2i x1))] [] h from ?_)
  unfold fX9_signLine at hf
  refine A_aload_n C dX9_signLine_0 (i := 0) rfl 0 rfl 1 rfl ?_
  refine gfRX9_110 C k0 dX9_signLine_1 4 rfl ?_
  refine A_if_eq C dX9_signLine_4 8 (by decide) 7 rfl hf (fun c4 hf => ?_) (fun c4 hf => ?_)
  · refine A_sipush (v := 154) C dX9_signLine_8 (by decide) 11 rfl ?_
    refine A_iconst (v := 3) C dX9_signLine_11 (by decide) 12 rfl ?_
    refine A_aload_n C dX9_signLine_12 (i := 0) rfl 0 rfl 13 rfl ?_
    refine gfRX9_23 C k0 dX9_signLine_13 16 rfl ?_
    refine A_bipush (v := 8) C dX9_signLine_16 (by decide) 18 rfl ?_
    refine A_iald C dX9_signLine_18 (of_9_16 k0) hf 19 rfl (fun hf => ?_)
    refine A_imul C dX9_signLine_19 20 rfl ?_
    refine A_iadd C dX9_signLine_20 21 rfl ?_
    refine A_namI hf (fun y1 hf => ?_)
    refine A_istore_n C dX9_signLine_21 (i := 2) rfl [(2, .int y1), (0, .ref (K.2.1 x0)), (1, .int (b2i x1))] (lt_nl hnl (by decide)) rfl 22 rfl ?_
    refine A_aload_n C dX9_signLine_22 (i := 0) rfl 1 rfl 23 rfl ?_
    refine gfRX9_23 C k0 dX9_signLine_23 26 rfl ?_
    refine A_iload_n C dX9_signLine_26 (i := 2) rfl 0 rfl 27 rfl ?_
    refine A_iload_n C dX9_signLine_27 (i := 1) rfl 2 rfl 28 rfl ?_
    refine A_z_eq C dX9_signLine_28 35 (by decide) 31 rfl hf (fun c28 hf => ?_) (fun c28 hf => ?_)
    · refine A_iconst (v := 0) C dX9_signLine_35 (by decide) 36 rfl ?_
      refine A_sub [1, 2, 0] (lv' := [(0, .ref (K.2.1 x0)), (1, .int (b2i x1)), (2, .int y1)]) rfl ?_
      exact wX9_signLine_b36 C hnl E k0 (isK_ofA (of_9_16 k0)) hf
    refine A_iconst (v := 1) C dX9_signLine_31 (by decide) 32 rfl ?_
    refine A_goto C dX9_signLine_32 36 (by decide) ?_
    refine A_sub [1, 2, 0] (lv' := [(0, .ref (K.2.1 x0)), (1, .int (b2i x1)), (2, .int y1)]) rfl ?_
    exact wX9_signLine_b36 C hnl E k0 (isK_ofA (of_9_16 k0)) hf
  exact A_vret C dX9_signLine_7 E hf
set_option maxRecDepth 20000 in
theorem mX9_didLine {K : KX} {x0 : Nat} (k0 : isK 9 x0) {h : HH} {rv : HH} (hf : fX9_didLine x0 h = some rv) : MR K yX9_didLine cX9_didLine 2 none 10 [.ref (K.2.1 x0)] h none rv := by
  refine MR_of (by decide) (Nat.le_of_ble_eq_true rfl) (fun G C E hnl => ?_)
  have C : Ok K G 10 cX9_didLine RX9 := C
  refine (show At K G 0 [(0, .ref (K.2.1 x0))] [] h from ?_)
  unfold fX9_didLine at hf
  refine A_aload_n C dX9_didLine_0 (i := 0) rfl 0 rfl 1 rfl ?_
  refine gfRX9_110 C k0 dX9_didLine_1 4 rfl ?_
  refine A_if_eq C dX9_didLine_4 8 (by decide) 7 rfl hf (fun c4 hf => ?_) (fun c4 hf => ?_)
  · refine A_sipush (v := 172) C dX9_didLine_8 (by decide) 11 rfl ?_
    refine A_iconst (v := 3) C dX9_didLine_11 (by decide) 12 rfl ?_
    refine A_aload_n C dX9_didLine_12 (i := 0) rfl 0 rfl 13 rfl ?_
    refine gfRX9_23 C k0 dX9_didLine_13 16 rfl ?_
    refine A_bipush (v := 9) C dX9_didLine_16 (by decide) 18 rfl ?_
    refine A_iald C dX9_didLine_18 (of_9_16 k0) hf 19 rfl (fun hf => ?_)
    refine A_imul C dX9_didLine_19 20 rfl ?_
    refine A_iadd C dX9_didLine_20 21 rfl ?_
    refine A_namI hf (fun y1 hf => ?_)
    refine A_istore_n C dX9_didLine_21 (i := 1) rfl [(1, .int y1), (0, .ref (K.2.1 x0))] (lt_nl hnl (by decide)) rfl 22 rfl ?_
    refine A_aload_n C dX9_didLine_22 (i := 0) rfl 1 rfl 23 rfl ?_
    refine gfRX9_23 C k0 dX9_didLine_23 26 rfl ?_
    refine A_iload_n C dX9_didLine_26 (i := 1) rfl 0 rfl 27 rfl ?_
    refine A_aload_n C dX9_didLine_27 (i := 0) rfl 1 rfl 28 rfl ?_
    refine A_iconst (v := 1) C dX9_didLine_28 (by decide) 29 rfl ?_
    refine A_sipush (v := 9999) C dX9_didLine_29 (by decide) 32 rfl ?_
    refine CVi C dX9_didLine_32 9 k0 (by decide) (r := (RX9, TX9, 44)) rfl rfl hf (fun _ _ e => mX9_number k0 e) lkRX9_188 (by decide) (by decide) rfl [.int y1, .ref (K.2.1 (x0 + 4))] rfl (Nat.le_of_ble_eq_true rfl) 35 rfl (fun r32 h32 hf => ?_)
    refine A_iast C dX9_didLine_35 (of_9_16 k0) hf 36 rfl (fun hf => ?_)
    refine A_aload_n C dX9_didLine_36 (i := 0) rfl 1 rfl 37 rfl ?_
    refine gfRX9_23 C k0 dX9_didLine_37 40 rfl ?_
    refine A_iload_n C dX9_didLine_40 (i := 1) rfl 0 rfl 41 rfl ?_
    refine A_iconst (v := 1) C dX9_didLine_41 (by decide) 42 rfl ?_
    refine A_iadd C dX9_didLine_42 43 rfl ?_
    refine A_aload_n C dX9_didLine_43 (i := 0) rfl 1 rfl 44 rfl ?_
    refine A_strw C dX9_didLine_44 (i := 52) (by decide) rfl 47 rfl ?_
    refine A_iconst (v := 1) C dX9_didLine_47 (by decide) 48 rfl ?_
    refine A_aload_n C dX9_didLine_48 (i := 0) rfl 1 rfl 49 rfl ?_
    refine gfRX9_23 C k0 dX9_didLine_49 52 rfl ?_
    refine A_iconst (v := 0) C dX9_didLine_52 (by decide) 53 rfl ?_
    refine A_iald C dX9_didLine_53 (of_9_16 k0) hf 54 rfl (fun hf => ?_)
    refine CVi C dX9_didLine_54 9 k0 (by decide) (r := (RX9, TX9, 44)) rfl rfl hf (fun _ _ e => mX9_after k0 (by decide) e) lkRX9_262 (by decide) (by decide) rfl [.int (y1 + 1), .ref (K.2.1 (x0 + 4))] rfl (Nat.le_of_ble_eq_true rfl) 57 rfl (fun r54 h54 hf => ?_)
    refine A_iast C dX9_didLine_57 (of_9_16 k0) hf 58 rfl (fun hf => ?_)
    refine A_aload_n C dX9_didLine_58 (i := 0) rfl 1 rfl 59 rfl ?_
    refine gfRX9_23 C k0 dX9_didLine_59 62 rfl ?_
    refine A_iload_n C dX9_didLine_62 (i := 1) rfl 0 rfl 63 rfl ?_
    refine A_iconst (v := 2) C dX9_didLine_63 (by decide) 64 rfl ?_
    refine A_iadd C dX9_didLine_64 65 rfl ?_
    refine A_aload_n C dX9_didLine_65 (i := 0) rfl 1 rfl 66 rfl ?_
    refine A_strw C dX9_didLine_66 (i := 57) (by decide) rfl 69 rfl ?_
    refine A_iconst (v := 1) C dX9_didLine_69 (by decide) 70 rfl ?_
    refine A_sipush (v := 999) C dX9_didLine_70 (by decide) 73 rfl ?_
    refine CVi C dX9_didLine_73 9 k0 (by decide) (r := (RX9, TX9, 44)) rfl rfl hf (fun _ _ e => mX9_after k0 (by decide) e) lkRX9_262 (by decide) (by decide) rfl [.int (y1 + 2), .ref (K.2.1 (x0 + 4))] rfl (Nat.le_of_ble_eq_true rfl) 76 rfl (fun r73 h73 hf => ?_)
    refine A_iast C dX9_didLine_76 (of_9_16 k0) hf 77 rfl (fun hf => ?_)
    refine A_aload_n C dX9_didLine_77 (i := 0) rfl 1 rfl 78 rfl ?_
    refine gfRX9_110 C k0 dX9_didLine_78 81 rfl ?_
    refine A_if_ne C dX9_didLine_81 95 (by decide) 84 rfl hf (fun c81 hf => ?_) (fun c81 hf => ?_)
    · exact A_vret C dX9_didLine_95 E hf
    refine A_aload_n C dX9_didLine_84 (i := 0) rfl 1 rfl 85 rfl ?_
    refine gfRX9_23 C k0 dX9_didLine_85 88 rfl ?_
    refine A_bipush (v := 9) C dX9_didLine_88 (by decide) 90 rfl ?_
    refine A_dup2 C dX9_didLine_90 rfl rfl 91 rfl ?_
    refine A_iald C dX9_didLine_91 (of_9_16 k0) hf 92 rfl (fun hf => ?_)
    refine A_iconst (v := 1) C dX9_didLine_92 (by decide) 93 rfl ?_
    refine A_iadd C dX9_didLine_93 94 rfl ?_
    refine A_iast C dX9_didLine_94 (of_9_16 k0) hf 95 rfl (fun hf => ?_)
    refine A_namH hf (fun g2 hf => ?_)
    exact A_vret C dX9_didLine_95 E hf
  exact A_vret C dX9_didLine_7 E hf
set_option maxRecDepth 20000 in
theorem wX9_readLine_b297 {K : KX} {G : GX} (C : Ok K G 12 cX9_readLine RX9) (hnl : G.2.2.2.2.2.2.2.2.2.2.2.2.2 = 1) {rv : HH} (E : Endd K G none none rv) {x0 : Nat} {s0 : Bool}   (kx0 : isK 9 x0) {h : HH} (hf : fX9_readLine_b297 x0 s0 h = some rv) : At K G 297 [(0, .ref (K.2.1 x0))] [.int (b2i s0), .ref (K.2.2.2.2.2.1 42), .ref (K.2.1 x0)] h := by
  unfold fX9_readLine_b297 at hf
  refine CVz C dX9_readLine_297 9 kx0 (by decide) (r := (RX9, TX9, 44)) rfl rfl hf (fun _ _ e => mX9_begins kx0 (by decide) e) lkRX9_222 (by decide) (by decide) rfl [] rfl (Nat.le_of_ble_eq_true rfl) 300 rfl (fun r297 h297 hf => ?_)
  refine A_z_eq C dX9_readLine_300 311 (by decide) 303 rfl hf (fun c300 hf => ?_) (fun c300 hf => ?_)
  · refine A_aload_n C dX9_readLine_311 (i := 0) rfl 0 rfl 312 rfl ?_
    refine A_str C dX9_readLine_312 (i := 43) (by decide) rfl 314 rfl ?_
    refine A_aload_n C dX9_readLine_314 (i := 0) rfl 0 rfl 315 rfl ?_
    refine gfRX9_23 C kx0 dX9_readLine_315 318 rfl ?_
    refine A_bipush (v := 9) C dX9_readLine_318 (by decide) 320 rfl ?_
    refine A_iald C dX9_readLine_320 (of_9_16 kx0) hf 321 rfl (fun hf => ?_)
    refine A_bipush (v := 6) C dX9_readLine_321 (by decide) 323 rfl ?_
    refine A_icmp_ge C dX9_readLine_323 330 (by decide) 326 rfl hf (fun c323 hf => ?_) (fun c323 hf => ?_)
    · refine A_iconst (v := 0) C dX9_readLine_330 (by decide) 331 rfl ?_
      refine CVz C dX9_readLine_331 9 kx0 (by decide) (r := (RX9, TX9, 44)) rfl rfl hf (fun _ _ e => mX9_begins kx0 (by decide) e) lkRX9_222 (by decide) (by decide) rfl [] rfl (Nat.le_of_ble_eq_true rfl) 334 rfl (fun r331 h331 hf => ?_)
      refine A_z_eq C dX9_readLine_334 344 (by decide) 337 rfl hf (fun c334 hf => ?_) (fun c334 hf => ?_)
      · refine A_aload_n C dX9_readLine_344 (i := 0) rfl 0 rfl 345 rfl ?_
        refine A_iconst (v := 1) C dX9_readLine_345 (by decide) 346 rfl ?_
        refine A_aload_n C dX9_readLine_346 (i := 0) rfl 0 rfl 347 rfl ?_
        refine gfRX9_91 C kx0 dX9_readLine_347 350 rfl ?_
        refine CVv C dX9_readLine_350 9 kx0 (by decide) (r := (RX9, TX9, 44)) rfl rfl hf (fun _ e => mX9_wrong kx0 e) lkRX9_137 (by decide) (by decide) rfl [] rfl (Nat.le_of_ble_eq_true rfl) 353 rfl (fun h350 hf => ?_)
        exact A_vret C dX9_readLine_353 E hf
      refine A_aload_n C dX9_readLine_337 (i := 0) rfl 0 rfl 338 rfl ?_
      refine CVv C dX9_readLine_338 9 kx0 (by decide) (r := (RX9, TX9, 44)) rfl rfl hf (fun _ e => mX9_didLine kx0 e) lkRX9_251 (by decide) (by decide) rfl [] rfl (Nat.le_of_ble_eq_true rfl) 341 rfl (fun h338 hf => ?_)
      refine A_goto C dX9_readLine_341 353 (by decide) ?_
      exact A_vret C dX9_readLine_353 E hf
    refine A_iconst (v := 1) C dX9_readLine_326 (by decide) 327 rfl ?_
    refine A_goto C dX9_readLine_327 331 (by decide) ?_
    refine CVz C dX9_readLine_331 9 kx0 (by decide) (r := (RX9, TX9, 44)) rfl rfl hf (fun _ _ e => mX9_begins kx0 (by decide) e) lkRX9_222 (by decide) (by decide) rfl [] rfl (Nat.le_of_ble_eq_true rfl) 334 rfl (fun r331 h331 hf => ?_)
    refine A_z_eq C dX9_readLine_334 344 (by decide) 337 rfl hf (fun c334 hf => ?_) (fun c334 hf => ?_)
    · refine A_aload_n C dX9_readLine_344 (i := 0) rfl 0 rfl 345 rfl ?_
      refine A_iconst (v := 1) C dX9_readLine_345 (by decide) 346 rfl ?_
      refine A_aload_n C dX9_readLine_346 (i := 0) rfl 0 rfl 347 rfl ?_
      refine gfRX9_91 C kx0 dX9_readLine_347 350 rfl ?_
      refine CVv C dX9_readLine_350 9 kx0 (by decide) (r := (RX9, TX9, 44)) rfl rfl hf (fun _ e => mX9_wrong kx0 e) lkRX9_137 (by decide) (by decide) rfl [] rfl (Nat.le_of_ble_eq_true rfl) 353 rfl (fun h350 hf => ?_)
      exact A_vret C dX9_readLine_353 E hf
    refine A_aload_n C dX9_readLine_337 (i := 0) rfl 0 rfl 338 rfl ?_
    refine CVv C dX9_readLine_338 9 kx0 (by decide) (r := (RX9, TX9, 44)) rfl rfl hf (fun _ e => mX9_didLine kx0 e) lkRX9_251 (by decide) (by decide) rfl [] rfl (Nat.le_of_ble_eq_true rfl) 341 rfl (fun h338 hf => ?_)
    refine A_goto C dX9_readLine_341 353 (by decide) ?_
    exact A_vret C dX9_readLine_353 E hf
  refine A_aload_n C dX9_readLine_303 (i := 0) rfl 0 rfl 304 rfl ?_
  refine A_iconst (v := 1) C dX9_readLine_304 (by decide) 305 rfl ?_
  refine CVv C dX9_readLine_305 9 kx0 (by decide) (r := (RX9, TX9, 44)) rfl rfl hf (fun _ e => mX9_signLine kx0 e) lkRX9_248 (by decide) (by decide) rfl [] rfl (Nat.le_of_ble_eq_true rfl) 308 rfl (fun h305 hf => ?_)
  refine A_goto C dX9_readLine_308 353 (by decide) ?_
  exact A_vret C dX9_readLine_353 E hf
set_option maxRecDepth 20000 in
theorem wX9_readLine_b263 {K : KX} {G : GX} (C : Ok K G 12 cX9_readLine RX9) (hnl : G.2.2.2.2.2.2.2.2.2.2.2.2.2 = 1) {rv : HH} (E : Endd K G none none rv) {x0 : Nat} {s0 : Bool}   (kx0 : isK 9 x0) {h : HH} (hf : fX9_readLine_b263 x0 s0 h = some rv) : At K G 263 [(0, .ref (K.2.1 x0))] [.int (b2i s0), .ref (K.2.2.2.2.2.1 41), .ref (K.2.1 x0)] h := by
  unfold fX9_readLine_b263 at hf
  refine CVz C dX9_readLine_263 9 kx0 (by decide) (r := (RX9, TX9, 44)) rfl rfl hf (fun _ _ e => mX9_begins kx0 (by decide) e) lkRX9_222 (by decide) (by decide) rfl [] rfl (Nat.le_of_ble_eq_true rfl) 266 rfl (fun r263 h263 hf => ?_)
  refine A_z_eq C dX9_readLine_266 277 (by decide) 269 rfl hf (fun c266 hf => ?_) (fun c266 hf => ?_)
  · refine A_aload_n C dX9_readLine_277 (i := 0) rfl 0 rfl 278 rfl ?_
    refine A_str C dX9_readLine_278 (i := 42) (by decide) rfl 280 rfl ?_
    refine A_aload_n C dX9_readLine_280 (i := 0) rfl 0 rfl 281 rfl ?_
    refine gfRX9_23 C kx0 dX9_readLine_281 284 rfl ?_
    refine A_bipush (v := 8) C dX9_readLine_284 (by decide) 286 rfl ?_
    refine A_iald C dX9_readLine_286 (of_9_16 kx0) hf 287 rfl (fun hf => ?_)
    refine A_bipush (v := 6) C dX9_readLine_287 (by decide) 289 rfl ?_
    refine A_icmp_ge C dX9_readLine_289 296 (by decide) 292 rfl hf (fun c289 hf => ?_) (fun c289 hf => ?_)
    · refine A_iconst (v := 0) C dX9_readLine_296 (by decide) 297 rfl ?_
      exact wX9_readLine_b297 C hnl E kx0 hf
    refine A_iconst (v := 1) C dX9_readLine_292 (by decide) 293 rfl ?_
    refine A_goto C dX9_readLine_293 297 (by decide) ?_
    exact wX9_readLine_b297 C hnl E kx0 hf
  refine A_aload_n C dX9_readLine_269 (i := 0) rfl 0 rfl 270 rfl ?_
  refine A_iconst (v := 0) C dX9_readLine_270 (by decide) 271 rfl ?_
  refine CVv C dX9_readLine_271 9 kx0 (by decide) (r := (RX9, TX9, 44)) rfl rfl hf (fun _ e => mX9_signLine kx0 e) lkRX9_248 (by decide) (by decide) rfl [] rfl (Nat.le_of_ble_eq_true rfl) 274 rfl (fun h271 hf => ?_)
  refine A_goto C dX9_readLine_274 353 (by decide) ?_
  exact A_vret C dX9_readLine_353 E hf
set_option maxRecDepth 20000 in
theorem wX9_readLine_b197 {K : KX} {G : GX} (C : Ok K G 12 cX9_readLine RX9) (hnl : G.2.2.2.2.2.2.2.2.2.2.2.2.2 = 1) {rv : HH} (E : Endd K G none none rv) {x0 : Nat} {s0 : Bool}   (kx0 : isK 9 x0) {h : HH} (hf : fX9_readLine_b197 x0 s0 h = some rv) : At K G 197 [(0, .ref (K.2.1 x0))] [.int (b2i s0), .ref (K.2.2.2.2.2.1 38), .ref (K.2.1 x0)] h := by
  unfold fX9_readLine_b197 at hf
  refine CVz C dX9_readLine_197 9 kx0 (by decide) (r := (RX9, TX9, 44)) rfl rfl hf (fun _ _ e => mX9_begins kx0 (by decide) e) lkRX9_222 (by decide) (by decide) rfl [] rfl (Nat.le_of_ble_eq_true rfl) 200 rfl (fun r197 h197 hf => ?_)
  refine A_z_eq C dX9_readLine_200 210 (by decide) 203 rfl hf (fun c200 hf => ?_) (fun c200 hf => ?_)
  · refine A_aload_n C dX9_readLine_210 (i := 0) rfl 0 rfl 211 rfl ?_
    refine A_str C dX9_readLine_211 (i := 39) (by decide) rfl 213 rfl ?_
    refine CVz C dX9_readLine_213 9 kx0 (by decide) (r := (RX9, TX9, 44)) rfl rfl hf (fun _ _ e => mX9_isWord kx0 (by decide) e) lkRX9_127 (by decide) (by decide) rfl [] rfl (Nat.le_of_ble_eq_true rfl) 216 rfl (fun r213 h213 hf => ?_)
    refine A_z_eq C dX9_readLine_216 226 (by decide) 219 rfl hf (fun c216 hf => ?_) (fun c216 hf => ?_)
    · refine A_aload_n C dX9_readLine_226 (i := 0) rfl 0 rfl 227 rfl ?_
      refine A_str C dX9_readLine_227 (i := 40) (by decide) rfl 229 rfl ?_
      refine A_iconst (v := 1) C dX9_readLine_229 (by decide) 230 rfl ?_
      refine CVz C dX9_readLine_230 9 kx0 (by decide) (r := (RX9, TX9, 44)) rfl rfl hf (fun _ _ e => mX9_begins kx0 (by decide) e) lkRX9_222 (by decide) (by decide) rfl [] rfl (Nat.le_of_ble_eq_true rfl) 233 rfl (fun r230 h230 hf => ?_)
      refine A_z_eq C dX9_readLine_233 243 (by decide) 236 rfl hf (fun c233 hf => ?_) (fun c233 hf => ?_)
      · refine A_aload_n C dX9_readLine_243 (i := 0) rfl 0 rfl 244 rfl ?_
        refine A_str C dX9_readLine_244 (i := 41) (by decide) rfl 246 rfl ?_
        refine A_aload_n C dX9_readLine_246 (i := 0) rfl 0 rfl 247 rfl ?_
        refine gfRX9_23 C kx0 dX9_readLine_247 250 rfl ?_
        refine A_bipush (v := 8) C dX9_readLine_250 (by decide) 252 rfl ?_
        refine A_iald C dX9_readLine_252 (of_9_16 kx0) hf 253 rfl (fun hf => ?_)
        refine A_bipush (v := 6) C dX9_readLine_253 (by decide) 255 rfl ?_
        refine A_icmp_ge C dX9_readLine_255 262 (by decide) 258 rfl hf (fun c255 hf => ?_) (fun c255 hf => ?_)
        · refine A_iconst (v := 0) C dX9_readLine_262 (by decide) 263 rfl ?_
          exact wX9_readLine_b263 C hnl E kx0 hf
        refine A_iconst (v := 1) C dX9_readLine_258 (by decide) 259 rfl ?_
        refine A_goto C dX9_readLine_259 263 (by decide) ?_
        exact wX9_readLine_b263 C hnl E kx0 hf
      refine A_aload_n C dX9_readLine_236 (i := 0) rfl 0 rfl 237 rfl ?_
      refine CVv C dX9_readLine_237 9 kx0 (by decide) (r := (RX9, TX9, 44)) rfl rfl hf (fun _ e => mX9_thinksLine kx0 e) lkRX9_245 (by decide) (by decide) rfl [] rfl (Nat.le_of_ble_eq_true rfl) 240 rfl (fun h237 hf => ?_)
      refine A_goto C dX9_readLine_240 353 (by decide) ?_
      exact A_vret C dX9_readLine_353 E hf
    refine A_aload_n C dX9_readLine_219 (i := 0) rfl 0 rfl 220 rfl ?_
    refine CVv C dX9_readLine_220 9 kx0 (by decide) (r := (RX9, TX9, 44)) rfl rfl hf (fun _ e => mX9_paysLine kx0 e) lkRX9_242 (by decide) (by decide) rfl [] rfl (Nat.le_of_ble_eq_true rfl) 223 rfl (fun h220 hf => ?_)
    refine A_goto C dX9_readLine_223 353 (by decide) ?_
    exact A_vret C dX9_readLine_353 E hf
  refine A_aload_n C dX9_readLine_203 (i := 0) rfl 0 rfl 204 rfl ?_
  refine CVv C dX9_readLine_204 9 kx0 (by decide) (r := (RX9, TX9, 44)) rfl rfl hf (fun _ e => mX9_taskLine kx0 e) lkRX9_239 (by decide) (by decide) rfl [] rfl (Nat.le_of_ble_eq_true rfl) 207 rfl (fun h204 hf => ?_)
  refine A_goto C dX9_readLine_207 353 (by decide) ?_
  exact A_vret C dX9_readLine_353 E hf
set_option maxRecDepth 20000 in
theorem wX9_readLine_b164 {K : KX} {G : GX} (C : Ok K G 12 cX9_readLine RX9) (hnl : G.2.2.2.2.2.2.2.2.2.2.2.2.2 = 1) {rv : HH} (E : Endd K G none none rv) {x0 : Nat} {s0 : Bool}   (kx0 : isK 9 x0) {h : HH} (hf : fX9_readLine_b164 x0 s0 h = some rv) : At K G 164 [(0, .ref (K.2.1 x0))] [.int (b2i s0), .ref (K.2.2.2.2.2.1 37), .ref (K.2.1 x0)] h := by
  unfold fX9_readLine_b164 at hf
  refine CVz C dX9_readLine_164 9 kx0 (by decide) (r := (RX9, TX9, 44)) rfl rfl hf (fun _ _ e => mX9_begins kx0 (by decide) e) lkRX9_222 (by decide) (by decide) rfl [] rfl (Nat.le_of_ble_eq_true rfl) 167 rfl (fun r164 h164 hf => ?_)
  refine A_z_eq C dX9_readLine_167 177 (by decide) 170 rfl hf (fun c167 hf => ?_) (fun c167 hf => ?_)
  · refine A_aload_n C dX9_readLine_177 (i := 0) rfl 0 rfl 178 rfl ?_
    refine A_str C dX9_readLine_178 (i := 38) (by decide) rfl 180 rfl ?_
    refine A_aload_n C dX9_readLine_180 (i := 0) rfl 0 rfl 181 rfl ?_
    refine gfRX9_23 C kx0 dX9_readLine_181 184 rfl ?_
    refine A_bipush (v := 7) C dX9_readLine_184 (by decide) 186 rfl ?_
    refine A_iald C dX9_readLine_186 (of_9_16 kx0) hf 187 rfl (fun hf => ?_)
    refine A_bipush (v := 6) C dX9_readLine_187 (by decide) 189 rfl ?_
    refine A_icmp_ge C dX9_readLine_189 196 (by decide) 192 rfl hf (fun c189 hf => ?_) (fun c189 hf => ?_)
    · refine A_iconst (v := 0) C dX9_readLine_196 (by decide) 197 rfl ?_
      exact wX9_readLine_b197 C hnl E kx0 hf
    refine A_iconst (v := 1) C dX9_readLine_192 (by decide) 193 rfl ?_
    refine A_goto C dX9_readLine_193 197 (by decide) ?_
    exact wX9_readLine_b197 C hnl E kx0 hf
  refine A_aload_n C dX9_readLine_170 (i := 0) rfl 0 rfl 171 rfl ?_
  refine CVv C dX9_readLine_171 9 kx0 (by decide) (r := (RX9, TX9, 44)) rfl rfl hf (fun _ e => mX9_knockLine kx0 e) lkRX9_236 (by decide) (by decide) rfl [] rfl (Nat.le_of_ble_eq_true rfl) 174 rfl (fun h171 hf => ?_)
  refine A_goto C dX9_readLine_174 353 (by decide) ?_
  exact A_vret C dX9_readLine_353 E hf
set_option maxRecDepth 20000 in
theorem wX9_readLine_b130 {K : KX} {G : GX} (C : Ok K G 12 cX9_readLine RX9) (hnl : G.2.2.2.2.2.2.2.2.2.2.2.2.2 = 1) {rv : HH} (E : Endd K G none none rv) {x0 : Nat} {s0 : Bool}   (kx0 : isK 9 x0) {h : HH} (hf : fX9_readLine_b130 x0 s0 h = some rv) : At K G 130 [(0, .ref (K.2.1 x0))] [.int (b2i s0), .ref (K.2.2.2.2.2.1 36), .ref (K.2.1 x0)] h := by
  unfold fX9_readLine_b130 at hf
  refine CVz C dX9_readLine_130 9 kx0 (by decide) (r := (RX9, TX9, 44)) rfl rfl hf (fun _ _ e => mX9_begins kx0 (by decide) e) lkRX9_222 (by decide) (by decide) rfl [] rfl (Nat.le_of_ble_eq_true rfl) 133 rfl (fun r130 h130 hf => ?_)
  refine A_z_eq C dX9_readLine_133 144 (by decide) 136 rfl hf (fun c133 hf => ?_) (fun c133 hf => ?_)
  · refine A_aload_n C dX9_readLine_144 (i := 0) rfl 0 rfl 145 rfl ?_
    refine A_str C dX9_readLine_145 (i := 37) (by decide) rfl 147 rfl ?_
    refine A_aload_n C dX9_readLine_147 (i := 0) rfl 0 rfl 148 rfl ?_
    refine gfRX9_23 C kx0 dX9_readLine_148 151 rfl ?_
    refine A_bipush (v := 6) C dX9_readLine_151 (by decide) 153 rfl ?_
    refine A_iald C dX9_readLine_153 (of_9_16 kx0) hf 154 rfl (fun hf => ?_)
    refine A_bipush (v := 8) C dX9_readLine_154 (by decide) 156 rfl ?_
    refine A_icmp_ge C dX9_readLine_156 163 (by decide) 159 rfl hf (fun c156 hf => ?_) (fun c156 hf => ?_)
    · refine A_iconst (v := 0) C dX9_readLine_163 (by decide) 164 rfl ?_
      exact wX9_readLine_b164 C hnl E kx0 hf
    refine A_iconst (v := 1) C dX9_readLine_159 (by decide) 160 rfl ?_
    refine A_goto C dX9_readLine_160 164 (by decide) ?_
    exact wX9_readLine_b164 C hnl E kx0 hf
  refine A_aload_n C dX9_readLine_136 (i := 0) rfl 0 rfl 137 rfl ?_
  refine A_iconst (v := 0) C dX9_readLine_137 (by decide) 138 rfl ?_
  refine CVv C dX9_readLine_138 9 kx0 (by decide) (r := (RX9, TX9, 44)) rfl rfl hf (fun _ e => mX9_stepLine kx0 e) lkRX9_232 (by decide) (by decide) rfl [] rfl (Nat.le_of_ble_eq_true rfl) 141 rfl (fun h138 hf => ?_)
  refine A_goto C dX9_readLine_141 353 (by decide) ?_
  exact A_vret C dX9_readLine_353 E hf
set_option maxRecDepth 20000 in
theorem wX9_readLine_b97 {K : KX} {G : GX} (C : Ok K G 12 cX9_readLine RX9) (hnl : G.2.2.2.2.2.2.2.2.2.2.2.2.2 = 1) {rv : HH} (E : Endd K G none none rv) {x0 : Nat} {s0 : Bool}   (kx0 : isK 9 x0) {h : HH} (hf : fX9_readLine_b97 x0 s0 h = some rv) : At K G 97 [(0, .ref (K.2.1 x0))] [.int (b2i s0), .ref (K.2.2.2.2.2.1 35), .ref (K.2.1 x0)] h := by
  unfold fX9_readLine_b97 at hf
  refine CVz C dX9_readLine_97 9 kx0 (by decide) (r := (RX9, TX9, 44)) rfl rfl hf (fun _ _ e => mX9_begins kx0 (by decide) e) lkRX9_222 (by decide) (by decide) rfl [] rfl (Nat.le_of_ble_eq_true rfl) 100 rfl (fun r97 h97 hf => ?_)
  refine A_z_eq C dX9_readLine_100 111 (by decide) 103 rfl hf (fun c100 hf => ?_) (fun c100 hf => ?_)
  · refine A_aload_n C dX9_readLine_111 (i := 0) rfl 0 rfl 112 rfl ?_
    refine A_str C dX9_readLine_112 (i := 36) (by decide) rfl 114 rfl ?_
    refine A_aload_n C dX9_readLine_114 (i := 0) rfl 0 rfl 115 rfl ?_
    refine gfRX9_23 C kx0 dX9_readLine_115 118 rfl ?_
    refine A_iconst (v := 5) C dX9_readLine_118 (by decide) 119 rfl ?_
    refine A_iald C dX9_readLine_119 (of_9_16 kx0) hf 120 rfl (fun hf => ?_)
    refine A_bipush (v := 20) C dX9_readLine_120 (by decide) 122 rfl ?_
    refine A_icmp_ge C dX9_readLine_122 129 (by decide) 125 rfl hf (fun c122 hf => ?_) (fun c122 hf => ?_)
    · refine A_iconst (v := 0) C dX9_readLine_129 (by decide) 130 rfl ?_
      exact wX9_readLine_b130 C hnl E kx0 hf
    refine A_iconst (v := 1) C dX9_readLine_125 (by decide) 126 rfl ?_
    refine A_goto C dX9_readLine_126 130 (by decide) ?_
    exact wX9_readLine_b130 C hnl E kx0 hf
  refine A_aload_n C dX9_readLine_103 (i := 0) rfl 0 rfl 104 rfl ?_
  refine A_iconst (v := 1) C dX9_readLine_104 (by decide) 105 rfl ?_
  refine CVv C dX9_readLine_105 9 kx0 (by decide) (r := (RX9, TX9, 44)) rfl rfl hf (fun _ e => mX9_stepLine kx0 e) lkRX9_232 (by decide) (by decide) rfl [] rfl (Nat.le_of_ble_eq_true rfl) 108 rfl (fun h105 hf => ?_)
  refine A_goto C dX9_readLine_108 353 (by decide) ?_
  exact A_vret C dX9_readLine_353 E hf
set_option maxRecDepth 20000 in
theorem wX9_readLine_b65 {K : KX} {G : GX} (C : Ok K G 12 cX9_readLine RX9) (hnl : G.2.2.2.2.2.2.2.2.2.2.2.2.2 = 1) {rv : HH} (E : Endd K G none none rv) {x0 : Nat} {s0 : Bool}   (kx0 : isK 9 x0) {h : HH} (hf : fX9_readLine_b65 x0 s0 h = some rv) : At K G 65 [(0, .ref (K.2.1 x0))] [.int (b2i s0), .ref (K.2.2.2.2.2.1 34), .ref (K.2.1 x0)] h := by
  unfold fX9_readLine_b65 at hf
  refine CVz C dX9_readLine_65 9 kx0 (by decide) (r := (RX9, TX9, 44)) rfl rfl hf (fun _ _ e => mX9_begins kx0 (by decide) e) lkRX9_222 (by decide) (by decide) rfl [] rfl (Nat.le_of_ble_eq_true rfl) 68 rfl (fun r65 h65 hf => ?_)
  refine A_z_eq C dX9_readLine_68 78 (by decide) 71 rfl hf (fun c68 hf => ?_) (fun c68 hf => ?_)
  · refine A_aload_n C dX9_readLine_78 (i := 0) rfl 0 rfl 79 rfl ?_
    refine A_str C dX9_readLine_79 (i := 35) (by decide) rfl 81 rfl ?_
    refine A_aload_n C dX9_readLine_81 (i := 0) rfl 0 rfl 82 rfl ?_
    refine gfRX9_23 C kx0 dX9_readLine_82 85 rfl ?_
    refine A_iconst (v := 5) C dX9_readLine_85 (by decide) 86 rfl ?_
    refine A_iald C dX9_readLine_86 (of_9_16 kx0) hf 87 rfl (fun hf => ?_)
    refine A_bipush (v := 20) C dX9_readLine_87 (by decide) 89 rfl ?_
    refine A_icmp_ge C dX9_readLine_89 96 (by decide) 92 rfl hf (fun c89 hf => ?_) (fun c89 hf => ?_)
    · refine A_iconst (v := 0) C dX9_readLine_96 (by decide) 97 rfl ?_
      exact wX9_readLine_b97 C hnl E kx0 hf
    refine A_iconst (v := 1) C dX9_readLine_92 (by decide) 93 rfl ?_
    refine A_goto C dX9_readLine_93 97 (by decide) ?_
    exact wX9_readLine_b97 C hnl E kx0 hf
  refine A_aload_n C dX9_readLine_71 (i := 0) rfl 0 rfl 72 rfl ?_
  refine CVv C dX9_readLine_72 9 kx0 (by decide) (r := (RX9, TX9, 44)) rfl rfl hf (fun _ e => mX9_sleeperLine kx0 e) lkRX9_229 (by decide) (by decide) rfl [] rfl (Nat.le_of_ble_eq_true rfl) 75 rfl (fun h72 hf => ?_)
  refine A_goto C dX9_readLine_75 353 (by decide) ?_
  exact A_vret C dX9_readLine_353 E hf
set_option maxRecDepth 20000 in
theorem wX9_readLine_b34 {K : KX} {G : GX} (C : Ok K G 12 cX9_readLine RX9) (hnl : G.2.2.2.2.2.2.2.2.2.2.2.2.2 = 1) {rv : HH} (E : Endd K G none none rv) {x0 : Nat} {s0 : Bool}   (kx0 : isK 9 x0) {h : HH} (hf : fX9_readLine_b34 x0 s0 h = some rv) : At K G 34 [(0, .ref (K.2.1 x0))] [.int (b2i s0), .ref (K.2.2.2.2.2.1 33), .ref (K.2.1 x0)] h := by
  unfold fX9_readLine_b34 at hf
  refine CVz C dX9_readLine_34 9 kx0 (by decide) (r := (RX9, TX9, 44)) rfl rfl hf (fun _ _ e => mX9_begins kx0 (by decide) e) lkRX9_222 (by decide) (by decide) rfl [] rfl (Nat.le_of_ble_eq_true rfl) 37 rfl (fun r34 h34 hf => ?_)
  refine A_z_eq C dX9_readLine_37 47 (by decide) 40 rfl hf (fun c37 hf => ?_) (fun c37 hf => ?_)
  · refine A_aload_n C dX9_readLine_47 (i := 0) rfl 0 rfl 48 rfl ?_
    refine A_str C dX9_readLine_48 (i := 34) (by decide) rfl 50 rfl ?_
    refine A_aload_n C dX9_readLine_50 (i := 0) rfl 0 rfl 51 rfl ?_
    refine gfRX9_23 C kx0 dX9_readLine_51 54 rfl ?_
    refine A_iconst (v := 4) C dX9_readLine_54 (by decide) 55 rfl ?_
    refine A_iald C dX9_readLine_55 (of_9_16 kx0) hf 56 rfl (fun hf => ?_)
    refine A_iconst (v := 5) C dX9_readLine_56 (by decide) 57 rfl ?_
    refine A_icmp_ge C dX9_readLine_57 64 (by decide) 60 rfl hf (fun c57 hf => ?_) (fun c57 hf => ?_)
    · refine A_iconst (v := 0) C dX9_readLine_64 (by decide) 65 rfl ?_
      exact wX9_readLine_b65 C hnl E kx0 hf
    refine A_iconst (v := 1) C dX9_readLine_60 (by decide) 61 rfl ?_
    refine A_goto C dX9_readLine_61 65 (by decide) ?_
    exact wX9_readLine_b65 C hnl E kx0 hf
  refine A_aload_n C dX9_readLine_40 (i := 0) rfl 0 rfl 41 rfl ?_
  refine CVv C dX9_readLine_41 9 kx0 (by decide) (r := (RX9, TX9, 44)) rfl rfl hf (fun _ e => mX9_headLine kx0 e) lkRX9_226 (by decide) (by decide) rfl [] rfl (Nat.le_of_ble_eq_true rfl) 44 rfl (fun h41 hf => ?_)
  refine A_goto C dX9_readLine_44 353 (by decide) ?_
  exact A_vret C dX9_readLine_353 E hf
set_option maxRecDepth 20000 in
theorem mX9_readLine {K : KX} {x0 : Nat} (k0 : isK 9 x0) {h : HH} {rv : HH} (hf : fX9_readLine x0 h = some rv) : MR K yX9_readLine cX9_readLine 1 none 12 [.ref (K.2.1 x0)] h none rv := by
  refine MR_of (by decide) (Nat.le_of_ble_eq_true rfl) (fun G C E hnl => ?_)
  have C : Ok K G 12 cX9_readLine RX9 := C
  refine (show At K G 0 [(0, .ref (K.2.1 x0))] [] h from ?_)
  unfold fX9_readLine at hf
  refine A_aload_n C dX9_readLine_0 (i := 0) rfl 0 rfl 1 rfl ?_
  refine A_str C dX9_readLine_1 (i := 29) (by decide) rfl 3 rfl ?_
  refine CVz C dX9_readLine_3 9 k0 (by decide) (r := (RX9, TX9, 44)) rfl rfl hf (fun _ _ e => mX9_isWord k0 (by decide) e) lkRX9_127 (by decide) (by decide) rfl [] rfl (Nat.le_of_ble_eq_true rfl) 6 rfl (fun r3 h3 hf => ?_)
  refine A_z_eq C dX9_readLine_6 16 (by decide) 9 rfl hf (fun c6 hf => ?_) (fun c6 hf => ?_)
  · refine A_aload_n C dX9_readLine_16 (i := 0) rfl 0 rfl 17 rfl ?_
    refine A_str C dX9_readLine_17 (i := 33) (by decide) rfl 19 rfl ?_
    refine A_aload_n C dX9_readLine_19 (i := 0) rfl 0 rfl 20 rfl ?_
    refine gfRX9_23 C k0 dX9_readLine_20 23 rfl ?_
    refine A_iconst (v := 3) C dX9_readLine_23 (by decide) 24 rfl ?_
    refine A_iald C dX9_readLine_24 (of_9_16 k0) hf 25 rfl (fun hf => ?_)
    refine A_iconst (v := 3) C dX9_readLine_25 (by decide) 26 rfl ?_
    refine A_icmp_ge C dX9_readLine_26 33 (by decide) 29 rfl hf (fun c26 hf => ?_) (fun c26 hf => ?_)
    · refine A_iconst (v := 0) C dX9_readLine_33 (by decide) 34 rfl ?_
      exact wX9_readLine_b34 C hnl E k0 hf
    refine A_iconst (v := 1) C dX9_readLine_29 (by decide) 30 rfl ?_
    refine A_goto C dX9_readLine_30 34 (by decide) ?_
    exact wX9_readLine_b34 C hnl E k0 hf
  refine A_aload_n C dX9_readLine_9 (i := 0) rfl 0 rfl 10 rfl ?_
  refine CVv C dX9_readLine_10 9 k0 (by decide) (r := (RX9, TX9, 44)) rfl rfl hf (fun _ e => mX9_dreamLine k0 e) lkRX9_219 (by decide) (by decide) rfl [] rfl (Nat.le_of_ble_eq_true rfl) 13 rfl (fun h10 hf => ?_)
  refine A_goto C dX9_readLine_13 353 (by decide) ?_
  exact A_vret C dX9_readLine_353 E hf
set_option maxRecDepth 20000 in
theorem wX9_quickOf_L4 {K : KX} {G : GX} (C : Ok K G 1 cX9_quickOf RX9) (hnl : G.2.2.2.2.2.2.2.2.2.2.2.2.2 = 4) {rv : Int32} {hv : HH} (E : Endd K G (some .int) (some (.int rv)) hv) {x0 : Nat} {x1 : Int32}   (kx0 : isK 9 x0) : ∀ (self4 : Int32 → Int32 → HH → Option (Int32 × HH)), (∀ (x2 : Int32) (x3 : Int32) (h : HH), self4 x2 x3 h = some (rv, hv) → At K G 4 [(0, .ref (K.2.1 x0)), (1, .int x1), (2, .int x2), (3, .int x3)] [] h) → ∀ (x2 : Int32) (x3 : Int32) (h : HH), fX9_quickOf_L4 x0 x1 self4 x2 x3 h = some (rv, hv) → At K G 4 [(0, .ref (K.2.1 x0)), (1, .int x1), (2, .int x2), (3, .int x3)] [] h := by
  intro self4 Hself4 x2 x3 h hf
  unfold fX9_quickOf_L4 at hf
  refine A_iload_n C dX9_quickOf_4 (i := 3) rfl 3 rfl 5 rfl ?_
  refine A_iload_n C dX9_quickOf_5 (i := 1) rfl 1 rfl 6 rfl ?_
  refine A_icmp_ge C dX9_quickOf_6 27 (by decide) 9 rfl hf (fun c6 hf => ?_) (fun c6 hf => ?_)
  · refine A_iload_n C dX9_quickOf_27 (i := 2) rfl 2 rfl 28 rfl ?_
    exact A_iret C dX9_quickOf_28 E hf
  refine A_iload_n C dX9_quickOf_9 (i := 2) rfl 2 rfl 10 rfl ?_
  refine A_aload_n C dX9_quickOf_10 (i := 0) rfl 0 rfl 11 rfl ?_
  refine gfRX9_20 C kx0 dX9_quickOf_11 14 rfl ?_
  refine A_bipush (v := 11) C dX9_quickOf_14 (by decide) 16 rfl ?_
  refine A_iload_n C dX9_quickOf_16 (i := 3) rfl 3 rfl 17 rfl ?_
  refine A_iadd C dX9_quickOf_17 18 rfl ?_
  refine A_iald C dX9_quickOf_18 (of_9_15 kx0) hf 19 rfl (fun hf => ?_)
  refine A_imul C dX9_quickOf_19 20 rfl ?_
  refine A_namI hf (fun y1 hf => ?_)
  refine A_istore_n C dX9_quickOf_20 (i := 2) rfl [(2, .int y1), (0, .ref (K.2.1 x0)), (1, .int x1), (3, .int x3)] (lt_nl hnl (by decide)) rfl 21 rfl ?_
  refine A_iinc (v := (x3 + 1)) C dX9_quickOf_21 3 rfl rfl [(3, .int (x3 + 1)), (2, .int y1), (0, .ref (K.2.1 x0)), (1, .int x1)] (lt_nl hnl (by decide)) rfl 24 rfl ?_
  refine A_goto C dX9_quickOf_24 4 (by decide) ?_
  refine A_sub [2, 3, 1, 0] (lv' := [(0, .ref (K.2.1 x0)), (1, .int x1), (2, .int y1), (3, .int (x3 + 1))]) rfl ?_
  exact Hself4 _ _ _ hf
set_option maxRecDepth 20000 in
theorem mX9_quickOf {K : KX} {x0 : Nat} {x1 : Int32} (k0 : isK 9 x0) {h : HH} {rv : Int32} {hv : HH} (hf : fX9_quickOf x0 x1 h = some (rv, hv)) : MR K yX9_quickOf cX9_quickOf 4 (some .int) 1 [.ref (K.2.1 x0), .int x1] h (some (.int rv)) hv := by
  refine MR_of (by decide) (Nat.le_of_ble_eq_true rfl) (fun G C E hnl => ?_)
  have C : Ok K G 1 cX9_quickOf RX9 := C
  refine (show At K G 0 [(0, .ref (K.2.1 x0)), (1, .int x1)] [] h from ?_)
  unfold fX9_quickOf at hf
  refine A_iconst (v := 1) C dX9_quickOf_0 (by decide) 1 rfl ?_
  refine A_istore_n C dX9_quickOf_1 (i := 2) rfl [(2, .int 1), (0, .ref (K.2.1 x0)), (1, .int x1)] (lt_nl hnl (by decide)) rfl 2 rfl ?_
  refine A_iconst (v := 0) C dX9_quickOf_2 (by decide) 3 rfl ?_
  refine A_istore_n C dX9_quickOf_3 (i := 3) rfl [(3, .int 0), (2, .int 1), (0, .ref (K.2.1 x0)), (1, .int x1)] (lt_nl hnl (by decide)) rfl 4 rfl ?_
  refine A_sub [2, 3, 1, 0] (lv' := [(0, .ref (K.2.1 x0)), (1, .int x1), (2, .int 1), (3, .int 0)]) rfl ?_
  refine lq2_at (wX9_quickOf_L4 C hnl E k0) FU _ _ _ hf
set_option maxRecDepth 20000 in
theorem mX9_bottom {K : KX} {x0 : Nat} (k0 : isK 9 x0) {h : HH} {rv : Int32} {hv : HH} (hf : fX9_bottom x0 h = some (rv, hv)) : MR K yX9_bottom cX9_bottom 1 (some .int) 2 [.ref (K.2.1 x0)] h (some (.int rv)) hv := by
  refine MR_of (by decide) (Nat.le_of_ble_eq_true rfl) (fun G C E hnl => ?_)
  have C : Ok K G 2 cX9_bottom RX9 := C
  refine (show At K G 0 [(0, .ref (K.2.1 x0))] [] h from ?_)
  unfold fX9_bottom at hf
  refine A_aload_n C dX9_bottom_0 (i := 0) rfl 0 rfl 1 rfl ?_
  refine A_aload_n C dX9_bottom_1 (i := 0) rfl 0 rfl 2 rfl ?_
  refine gfRX9_20 C k0 dX9_bottom_2 5 rfl ?_
  refine A_iconst (v := 0) C dX9_bottom_5 (by decide) 6 rfl ?_
  refine A_iald C dX9_bottom_6 (of_9_15 k0) hf 7 rfl (fun hf => ?_)
  refine CVi C dX9_bottom_7 9 k0 (by decide) (r := (RX9, TX9, 44)) rfl rfl hf (fun _ _ e => mX9_quickOf k0 e) lkRX9_304 (by decide) (by decide) rfl [] rfl (Nat.le_of_ble_eq_true rfl) 10 rfl (fun r7 h7 hf => ?_)
  exact A_iret C dX9_bottom_10 E hf
set_option maxRecDepth 20000 in
theorem mX9_its {K : KX} {x0 : Nat} {x1 : Int32} {x2 : Int32} (k0 : isK 9 x0) {h : HH} {rv : Int32} {hv : HH} (hf : fX9_its x0 x1 x2 h = some (rv, hv)) : MR K yX9_its cX9_its 3 (some .int) 1 [.ref (K.2.1 x0), .int x1, .int x2] h (some (.int rv)) hv := by
  refine MR_of (by decide) (Nat.le_of_ble_eq_true rfl) (fun G C E hnl => ?_)
  have C : Ok K G 1 cX9_its RX9 := C
  refine (show At K G 0 [(0, .ref (K.2.1 x0)), (1, .int x1), (2, .int x2)] [] h from ?_)
  unfold fX9_its at hf
  refine A_aload_n C dX9_its_0 (i := 0) rfl 0 rfl 1 rfl ?_
  refine gfRX9_26 C k0 dX9_its_1 4 rfl ?_
  refine A_iconst (v := 4) C dX9_its_4 (by decide) 5 rfl ?_
  refine A_iload_n C dX9_its_5 (i := 1) rfl 1 rfl 6 rfl ?_
  refine A_imul C dX9_its_6 7 rfl ?_
  refine A_iload_n C dX9_its_7 (i := 2) rfl 2 rfl 8 rfl ?_
  refine A_iadd C dX9_its_8 9 rfl ?_
  refine A_iald C dX9_its_9 (of_9_17 k0) hf 10 rfl (fun hf => ?_)
  exact A_iret C dX9_its_10 E hf
set_option maxRecDepth 20000 in
theorem mX9_feelOf {K : KX} {x0 : Nat} {x1 : Int32} {x2 : Int32} {x3 : Int32} (k0 : isK 9 x0) {h : HH} {rv : Int64} {hv : HH} (hf : fX9_feelOf x0 x1 x2 x3 h = some (rv, hv)) : MR K yX9_feelOf cX9_feelOf 4 (some .long) 2 [.ref (K.2.1 x0), .int x1, .int x2, .int x3] h (some (.long rv)) hv := by
  refine MR_of (by decide) (Nat.le_of_ble_eq_true rfl) (fun G C E hnl => ?_)
  have C : Ok K G 2 cX9_feelOf RX9 := C
  refine (show At K G 0 [(0, .ref (K.2.1 x0)), (1, .int x1), (2, .int x2), (3, .int x3)] [] h from ?_)
  unfold fX9_feelOf at hf
  refine A_iload_n C dX9_feelOf_0 (i := 1) rfl 1 rfl 1 rfl ?_
  refine A_i2l C dX9_feelOf_1 2 rfl ?_
  refine A_aload_n C dX9_feelOf_2 (i := 0) rfl 0 rfl 3 rfl ?_
  refine A_iload_n C dX9_feelOf_3 (i := 3) rfl 3 rfl 4 rfl ?_
  refine CVi C dX9_feelOf_4 9 k0 (by decide) (r := (RX9, TX9, 44)) rfl rfl hf (fun _ _ e => mX9_quickOf k0 e) lkRX9_304 (by decide) (by decide) rfl [.long x1.toInt64] rfl (Nat.le_of_ble_eq_true rfl) 7 rfl (fun r4 h4 hf => ?_)
  refine A_aload_n C dX9_feelOf_7 (i := 0) rfl 0 rfl 8 rfl ?_
  refine A_iload_n C dX9_feelOf_8 (i := 2) rfl 2 rfl 9 rfl ?_
  refine CVi C dX9_feelOf_9 9 k0 (by decide) (r := (RX9, TX9, 44)) rfl rfl hf (fun _ _ e => mX9_quickOf k0 e) lkRX9_304 (by decide) (by decide) rfl [.int r4, .long x1.toInt64] rfl (Nat.le_of_ble_eq_true rfl) 12 rfl (fun r9 h9 hf => ?_)
  refine A_idivG C dX9_feelOf_12 hf 13 rfl (fun hf => ?_)
  refine A_i2l C dX9_feelOf_13 14 rfl ?_
  refine A_lmul C dX9_feelOf_14 15 rfl ?_
  exact A_lret C dX9_feelOf_15 E hf
set_option maxRecDepth 20000 in
theorem mX9_of {K : KX} {x0 : Nat} {x1 : Int32} {x2 : Int32} (k0 : isK 9 x0) {h : HH} {rv : Int32} {hv : HH} (hf : fX9_of x0 x1 x2 h = some (rv, hv)) : MR K yX9_of cX9_of 3 (some .int) 1 [.ref (K.2.1 x0), .int x1, .int x2] h (some (.int rv)) hv := by
  refine MR_of (by decide) (Nat.le_of_ble_eq_true rfl) (fun G C E hnl => ?_)
  have C : Ok K G 1 cX9_of RX9 := C
  refine (show At K G 0 [(0, .ref (K.2.1 x0)), (1, .int x1), (2, .int x2)] [] h from ?_)
  unfold fX9_of at hf
  refine A_aload_n C dX9_of_0 (i := 0) rfl 0 rfl 1 rfl ?_
  refine gfRX9_20 C k0 dX9_of_1 4 rfl ?_
  refine A_bipush (v := 15) C dX9_of_4 (by decide) 6 rfl ?_
  refine A_iconst (v := 5) C dX9_of_6 (by decide) 7 rfl ?_
  refine A_iload_n C dX9_of_7 (i := 1) rfl 1 rfl 8 rfl ?_
  refine A_imul C dX9_of_8 9 rfl ?_
  refine A_iadd C dX9_of_9 10 rfl ?_
  refine A_iload_n C dX9_of_10 (i := 2) rfl 2 rfl 11 rfl ?_
  refine A_iadd C dX9_of_11 12 rfl ?_
  refine A_iald C dX9_of_12 (of_9_15 k0) hf 13 rfl (fun hf => ?_)
  exact A_iret C dX9_of_13 E hf
set_option maxRecDepth 20000 in
theorem wX9_broughtTo_b62 {K : KX} {G : GX} (C : Ok K G 3 cX9_broughtTo RX9) (hnl : G.2.2.2.2.2.2.2.2.2.2.2.2.2 = 9) {rv : Int32} {hv : HH} (E : Endd K G (some .int) (some (.int rv)) hv) {x2 : Int32} {x3 : Int32} {x7 : Int32}    {h : HH} (hf : fX9_broughtTo_b62 x2 x3 x7 h = some (rv, hv)) : At K G 62 [(2, .int x2), (3, .int x3), (7, .int x7)] [] h := by
  unfold fX9_broughtTo_b62 at hf
  refine A_iload_n C dX9_broughtTo_62 (i := 2) rfl 0 rfl 63 rfl ?_
  refine A_iload C dX9_broughtTo_63 2 rfl 65 rfl ?_
  refine A_iconst (v := 1) C dX9_broughtTo_65 (by decide) 66 rfl ?_
  refine A_icmp_ne C dX9_broughtTo_66 73 (by decide) 69 rfl hf (fun c66 hf => ?_) (fun c66 hf => ?_)
  · refine A_iconst (v := 1) C dX9_broughtTo_73 (by decide) 74 rfl ?_
    refine A_isub C dX9_broughtTo_74 75 rfl ?_
    refine A_namI hf (fun y4 hf => ?_)
    refine A_istore C dX9_broughtTo_75 [(8, .int y4), (2, .int x2), (3, .int x3), (7, .int x7)] (lt_nl hnl (by decide)) rfl 77 rfl ?_
    refine A_iload C dX9_broughtTo_77 0 rfl 79 rfl ?_
    refine A_iload_n C dX9_broughtTo_79 (i := 3) rfl 2 rfl 80 rfl ?_
    refine A_icmp_ge C dX9_broughtTo_80 87 (by decide) 83 rfl hf (fun c80 hf => ?_) (fun c80 hf => ?_)
    · refine A_iload C dX9_broughtTo_87 0 rfl 89 rfl ?_
      exact A_iret C dX9_broughtTo_89 E hf
    refine A_iload_n C dX9_broughtTo_83 (i := 3) rfl 2 rfl 84 rfl ?_
    refine A_goto C dX9_broughtTo_84 89 (by decide) ?_
    exact A_iret C dX9_broughtTo_89 E hf
  refine A_iconst (v := 2) C dX9_broughtTo_69 (by decide) 70 rfl ?_
  refine A_goto C dX9_broughtTo_70 74 (by decide) ?_
  refine A_isub C dX9_broughtTo_74 75 rfl ?_
  refine A_namI hf (fun y5 hf => ?_)
  refine A_istore C dX9_broughtTo_75 [(8, .int y5), (2, .int x2), (3, .int x3), (7, .int x7)] (lt_nl hnl (by decide)) rfl 77 rfl ?_
  refine A_iload C dX9_broughtTo_77 0 rfl 79 rfl ?_
  refine A_iload_n C dX9_broughtTo_79 (i := 3) rfl 2 rfl 80 rfl ?_
  refine A_icmp_ge C dX9_broughtTo_80 87 (by decide) 83 rfl hf (fun c80 hf => ?_) (fun c80 hf => ?_)
  · refine A_iload C dX9_broughtTo_87 0 rfl 89 rfl ?_
    exact A_iret C dX9_broughtTo_89 E hf
  refine A_iload_n C dX9_broughtTo_83 (i := 3) rfl 2 rfl 84 rfl ?_
  refine A_goto C dX9_broughtTo_84 89 (by decide) ?_
  exact A_iret C dX9_broughtTo_89 E hf
set_option maxRecDepth 20000 in
theorem wX9_broughtTo_b38 {K : KX} {G : GX} (C : Ok K G 3 cX9_broughtTo RX9) (hnl : G.2.2.2.2.2.2.2.2.2.2.2.2.2 = 9) {rv : Int32} {hv : HH} (E : Endd K G (some .int) (some (.int rv)) hv) {x0 : Nat} {x2 : Int32} {x3 : Int32} {x7 : Int32} {s0 : Int32} {s1 : Int64} {s2 : Int64}   (kx0 : isK 9 x0) {h : HH} (hf : fX9_broughtTo_b38 x0 x2 x3 x7 s0 s1 s2 h = some (rv, hv)) : At K G 38 [(0, .ref (K.2.1 x0)), (2, .int x2), (3, .int x3), (7, .int x7)] [.int s0, .long s1, .long s2] h := by
  unfold fX9_broughtTo_b38 at hf
  refine A_i2l C dX9_broughtTo_38 39 rfl ?_
  refine A_lmul C dX9_broughtTo_39 40 rfl ?_
  refine A_l_lt C dX9_broughtTo_40 dX9_broughtTo_41 60 (by decide) 44 rfl hf (fun c40 hf => ?_) (fun c40 hf => ?_)
  · refine A_iload_n C dX9_broughtTo_60 (i := 2) rfl 1 rfl 61 rfl ?_
    exact A_iret C dX9_broughtTo_61 E hf
  refine A_iload C dX9_broughtTo_44 3 rfl 46 rfl ?_
  refine A_iconst (v := 3) C dX9_broughtTo_46 (by decide) 47 rfl ?_
  refine A_icmp_ne C dX9_broughtTo_47 62 (by decide) 50 rfl hf (fun c47 hf => ?_) (fun c47 hf => ?_)
  · refine A_sub [1, 2, 3] (lv' := [(2, .int x2), (3, .int x3), (7, .int x7)]) rfl ?_
    exact wX9_broughtTo_b62 C hnl E  hf
  refine A_iload_n C dX9_broughtTo_50 (i := 2) rfl 1 rfl 51 rfl ?_
  refine A_aload_n C dX9_broughtTo_51 (i := 0) rfl 0 rfl 52 rfl ?_
  refine gfRX9_20 C kx0 dX9_broughtTo_52 55 rfl ?_
  refine A_iconst (v := 0) C dX9_broughtTo_55 (by decide) 56 rfl ?_
  refine A_iald C dX9_broughtTo_56 (of_9_15 kx0) hf 57 rfl (fun hf => ?_)
  refine A_icmp_ne C dX9_broughtTo_57 62 (by decide) 60 rfl hf (fun c57 hf => ?_) (fun c57 hf => ?_)
  · refine A_sub [1, 2, 3] (lv' := [(2, .int x2), (3, .int x3), (7, .int x7)]) rfl ?_
    exact wX9_broughtTo_b62 C hnl E  hf
  refine A_iload_n C dX9_broughtTo_60 (i := 2) rfl 1 rfl 61 rfl ?_
  exact A_iret C dX9_broughtTo_61 E hf
set_option maxRecDepth 20000 in
theorem mX9_broughtTo {K : KX} {x0 : Nat} {x1 : Int32} {x2 : Int32} {x3 : Int32} {x4 : Int32} (k0 : isK 9 x0) {h : HH} {rv : Int32} {hv : HH} (hf : fX9_broughtTo x0 x1 x2 x3 x4 h = some (rv, hv)) : MR K yX9_broughtTo cX9_broughtTo 9 (some .int) 3 [.ref (K.2.1 x0), .int x1, .int x2, .int x3, .int x4] h (some (.int rv)) hv := by
  refine MR_of (by decide) (Nat.le_of_ble_eq_true rfl) (fun G C E hnl => ?_)
  have C : Ok K G 3 cX9_broughtTo RX9 := C
  refine (show At K G 0 [(0, .ref (K.2.1 x0)), (1, .int x1), (2, .int x2), (3, .int x3), (4, .int x4)] [] h from ?_)
  unfold fX9_broughtTo at hf
  refine A_aload_n C dX9_broughtTo_0 (i := 0) rfl 0 rfl 1 rfl ?_
  refine A_iload C dX9_broughtTo_1 4 rfl 3 rfl ?_
  refine A_iload_n C dX9_broughtTo_3 (i := 3) rfl 3 rfl 4 rfl ?_
  refine A_iload_n C dX9_broughtTo_4 (i := 2) rfl 2 rfl 5 rfl ?_
  refine CVl C dX9_broughtTo_5 9 k0 (by decide) (r := (RX9, TX9, 44)) rfl rfl hf (fun _ _ e => mX9_feelOf k0 e) lkRX9_331 (by decide) (by decide) rfl [] rfl (Nat.le_of_ble_eq_true rfl) 8 rfl (fun r5 h5 hf => ?_)
  refine A_lstore C dX9_broughtTo_8 [(5, .long r5), (0, .ref (K.2.1 x0)), (1, .int x1), (2, .int x2), (3, .int x3), (4, .int x4)] (lt_nl hnl (by decide)) rfl 10 rfl ?_
  refine A_aload_n C dX9_broughtTo_10 (i := 0) rfl 1 rfl 11 rfl ?_
  refine A_iload_n C dX9_broughtTo_11 (i := 1) rfl 2 rfl 12 rfl ?_
  refine A_iconst (v := 0) C dX9_broughtTo_12 (by decide) 13 rfl ?_
  refine CVi C dX9_broughtTo_13 9 k0 (by decide) (r := (RX9, TX9, 44)) rfl rfl hf (fun _ _ e => mX9_of k0 e) lkRX9_335 (by decide) (by decide) rfl [] rfl (Nat.le_of_ble_eq_true rfl) 16 rfl (fun r13 h13 hf => ?_)
  refine A_istore C dX9_broughtTo_16 [(7, .int r13), (5, .long r5), (0, .ref (K.2.1 x0)), (1, .int x1), (2, .int x2), (3, .int x3), (4, .int x4)] (lt_nl hnl (by decide)) rfl 18 rfl ?_
  refine A_lload C dX9_broughtTo_18 1 rfl 20 rfl ?_
  refine A_aload_n C dX9_broughtTo_20 (i := 0) rfl 2 rfl 21 rfl ?_
  refine A_iload_n C dX9_broughtTo_21 (i := 1) rfl 3 rfl 22 rfl ?_
  refine A_iconst (v := 1) C dX9_broughtTo_22 (by decide) 23 rfl ?_
  refine CVi C dX9_broughtTo_23 9 k0 (by decide) (r := (RX9, TX9, 44)) rfl rfl hf (fun _ _ e => mX9_of k0 e) lkRX9_335 (by decide) (by decide) rfl [.long r5] rfl (Nat.le_of_ble_eq_true rfl) 26 rfl (fun r23 h23 hf => ?_)
  refine A_i2l C dX9_broughtTo_26 27 rfl ?_
  refine A_iload C dX9_broughtTo_27 0 rfl 29 rfl ?_
  refine A_iconst (v := 2) C dX9_broughtTo_29 (by decide) 30 rfl ?_
  refine A_icmp_ne C dX9_broughtTo_30 37 (by decide) 33 rfl hf (fun c30 hf => ?_) (fun c30 hf => ?_)
  · refine A_iconst (v := 1) C dX9_broughtTo_37 (by decide) 38 rfl ?_
    refine A_sub [2, 4, 5, 0] (lv' := [(0, .ref (K.2.1 x0)), (2, .int x2), (3, .int x3), (7, .int r13)]) rfl ?_
    exact wX9_broughtTo_b38 C hnl E k0 hf
  refine A_iconst (v := 2) C dX9_broughtTo_33 (by decide) 34 rfl ?_
  refine A_goto C dX9_broughtTo_34 38 (by decide) ?_
  refine A_sub [2, 4, 5, 0] (lv' := [(0, .ref (K.2.1 x0)), (2, .int x2), (3, .int x3), (7, .int r13)]) rfl ?_
  exact wX9_broughtTo_b38 C hnl E k0 hf
set_option maxRecDepth 20000 in
theorem mX9_comes {K : KX} {x0 : Nat} {x1 : Int32} {x2 : Int32} (k0 : isK 9 x0) {h : HH} {rv : HH} (hf : fX9_comes x0 x1 x2 h = some rv) : MR K yX9_comes cX9_comes 3 none 1 [.ref (K.2.1 x0), .int x1, .int x2] h none rv := by
  refine MR_of (by decide) (Nat.le_of_ble_eq_true rfl) (fun G C E hnl => ?_)
  have C : Ok K G 1 cX9_comes RX9 := C
  refine (show At K G 0 [(0, .ref (K.2.1 x0)), (1, .int x1), (2, .int x2)] [] h from ?_)
  unfold fX9_comes at hf
  refine A_aload_n C dX9_comes_0 (i := 0) rfl 0 rfl 1 rfl ?_
  refine gfRX9_26 C k0 dX9_comes_1 4 rfl ?_
  refine A_iconst (v := 4) C dX9_comes_4 (by decide) 5 rfl ?_
  refine A_iload_n C dX9_comes_5 (i := 1) rfl 1 rfl 6 rfl ?_
  refine A_imul C dX9_comes_6 7 rfl ?_
  refine A_iconst (v := 0) C dX9_comes_7 (by decide) 8 rfl ?_
  refine A_iadd C dX9_comes_8 9 rfl ?_
  refine A_iload_n C dX9_comes_9 (i := 2) rfl 2 rfl 10 rfl ?_
  refine A_iast C dX9_comes_10 (of_9_17 k0) hf 11 rfl (fun hf => ?_)
  refine A_iload_n C dX9_comes_11 (i := 2) rfl 2 rfl 12 rfl ?_
  refine A_if_ne C dX9_comes_12 26 (by decide) 15 rfl hf (fun c12 hf => ?_) (fun c12 hf => ?_)
  · refine A_aload_n C dX9_comes_26 (i := 0) rfl 0 rfl 27 rfl ?_
    refine gfRX9_38 C k0 dX9_comes_27 30 rfl ?_
    refine A_iconst (v := 1) C dX9_comes_30 (by decide) 31 rfl ?_
    refine A_iload_n C dX9_comes_31 (i := 1) rfl 1 rfl 32 rfl ?_
    refine A_iadd C dX9_comes_32 33 rfl ?_
    refine A_aload_n C dX9_comes_33 (i := 0) rfl 0 rfl 34 rfl ?_
    refine gfRX9_38 C k0 dX9_comes_34 37 rfl ?_
    refine A_iconst (v := 0) C dX9_comes_37 (by decide) 38 rfl ?_
    refine A_lald C dX9_comes_38 (of_9_21 k0) hf 39 rfl (fun hf => ?_)
    refine A_last C dX9_comes_39 (of_9_21 k0) hf 40 rfl (fun hf => ?_)
    refine A_namH hf (fun g1 hf => ?_)
    exact A_vret C dX9_comes_40 E hf
  refine A_aload_n C dX9_comes_15 (i := 0) rfl 0 rfl 16 rfl ?_
  refine gfRX9_26 C k0 dX9_comes_16 19 rfl ?_
  refine A_iconst (v := 4) C dX9_comes_19 (by decide) 20 rfl ?_
  refine A_iload_n C dX9_comes_20 (i := 1) rfl 1 rfl 21 rfl ?_
  refine A_imul C dX9_comes_21 22 rfl ?_
  refine A_iconst (v := 1) C dX9_comes_22 (by decide) 23 rfl ?_
  refine A_iadd C dX9_comes_23 24 rfl ?_
  refine A_iconst (v := 0) C dX9_comes_24 (by decide) 25 rfl ?_
  refine A_iast C dX9_comes_25 (of_9_17 k0) hf 26 rfl (fun hf => ?_)
  refine A_namH hf (fun g2 hf => ?_)
  refine A_aload_n C dX9_comes_26 (i := 0) rfl 0 rfl 27 rfl ?_
  refine gfRX9_38 C k0 dX9_comes_27 30 rfl ?_
  refine A_iconst (v := 1) C dX9_comes_30 (by decide) 31 rfl ?_
  refine A_iload_n C dX9_comes_31 (i := 1) rfl 1 rfl 32 rfl ?_
  refine A_iadd C dX9_comes_32 33 rfl ?_
  refine A_aload_n C dX9_comes_33 (i := 0) rfl 0 rfl 34 rfl ?_
  refine gfRX9_38 C k0 dX9_comes_34 37 rfl ?_
  refine A_iconst (v := 0) C dX9_comes_37 (by decide) 38 rfl ?_
  refine A_lald C dX9_comes_38 (of_9_21 k0) hf 39 rfl (fun hf => ?_)
  refine A_last C dX9_comes_39 (of_9_21 k0) hf 40 rfl (fun hf => ?_)
  exact A_vret C dX9_comes_40 E hf
set_option maxRecDepth 20000 in
theorem wX9_knocks_L6 {K : KX} {G : GX} (C : Ok K G 4 cX9_knocks RX9) (hnl : G.2.2.2.2.2.2.2.2.2.2.2.2.2 = 7) {rv : Int32} {hv : HH} (E : Endd K G (some .int) (some (.int rv)) hv) {x0 : Nat} {x1 : Int32} {x2 : Int32} {x3 : Int32}   (kx0 : isK 9 x0) : ∀ (self6 : Int32 → Int32 → HH → Option (Int32 × HH)), (∀ (x4 : Int32) (x5 : Int32) (h : HH), self6 x4 x5 h = some (rv, hv) → At K G 6 [(0, .ref (K.2.1 x0)), (1, .int x1), (2, .int x2), (3, .int x3), (4, .int x4), (5, .int x5)] [] h) → ∀ (x4 : Int32) (x5 : Int32) (h : HH), fX9_knocks_L6 x0 x1 x2 x3 self6 x4 x5 h = some (rv, hv) → At K G 6 [(0, .ref (K.2.1 x0)), (1, .int x1), (2, .int x2), (3, .int x3), (4, .int x4), (5, .int x5)] [] h := by
  intro self6 Hself6 x4 x5 h hf
  unfold fX9_knocks_L6 at hf
  refine A_iload C dX9_knocks_6 5 rfl 8 rfl ?_
  refine A_aload_n C dX9_knocks_8 (i := 0) rfl 0 rfl 9 rfl ?_
  refine gfRX9_20 C kx0 dX9_knocks_9 12 rfl ?_
  refine A_iconst (v := 4) C dX9_knocks_12 (by decide) 13 rfl ?_
  refine A_iald C dX9_knocks_13 (of_9_15 kx0) hf 14 rfl (fun hf => ?_)
  refine A_icmp_ge C dX9_knocks_14 114 (by decide) 17 rfl hf (fun c14 hf => ?_) (fun c14 hf => ?_)
  · refine A_iload C dX9_knocks_114 4 rfl 116 rfl ?_
    exact A_iret C dX9_knocks_116 E hf
  refine A_aload_n C dX9_knocks_17 (i := 0) rfl 0 rfl 18 rfl ?_
  refine A_iload C dX9_knocks_18 5 rfl 20 rfl ?_
  refine A_iconst (v := 1) C dX9_knocks_20 (by decide) 21 rfl ?_
  refine CVi C dX9_knocks_21 9 kx0 (by decide) (r := (RX9, TX9, 44)) rfl rfl hf (fun _ _ e => mX9_its kx0 e) lkRX9_310 (by decide) (by decide) rfl [] rfl (Nat.le_of_ble_eq_true rfl) 24 rfl (fun r21 h21 hf => ?_)
  refine A_iload_n C dX9_knocks_24 (i := 1) rfl 1 rfl 25 rfl ?_
  refine A_iconst (v := 1) C dX9_knocks_25 (by decide) 26 rfl ?_
  refine A_iadd C dX9_knocks_26 27 rfl ?_
  refine A_icmp_ne C dX9_knocks_27 108 (by decide) 30 rfl hf (fun c27 hf => ?_) (fun c27 hf => ?_)
  · refine A_iinc (v := (x5 + 1)) C dX9_knocks_108 5 rfl rfl [(5, .int (x5 + 1)), (0, .ref (K.2.1 x0)), (1, .int x1), (2, .int x2), (3, .int x3), (4, .int x4)] (lt_nl hnl (by decide)) rfl 111 rfl ?_
    refine A_goto C dX9_knocks_111 6 (by decide) ?_
    refine A_sub [1, 2, 3, 4, 5, 0] (lv' := [(0, .ref (K.2.1 x0)), (1, .int x1), (2, .int x2), (3, .int x3), (4, .int x4), (5, .int (x5 + 1))]) rfl ?_
    exact Hself6 _ _ _ hf
  refine A_aload_n C dX9_knocks_30 (i := 0) rfl 0 rfl 31 rfl ?_
  refine A_iload C dX9_knocks_31 5 rfl 33 rfl ?_
  refine A_iconst (v := 0) C dX9_knocks_33 (by decide) 34 rfl ?_
  refine CVi C dX9_knocks_34 9 kx0 (by decide) (r := (RX9, TX9, 44)) rfl rfl hf (fun _ _ e => mX9_its kx0 e) lkRX9_310 (by decide) (by decide) rfl [] rfl (Nat.le_of_ble_eq_true rfl) 37 rfl (fun r34 h34 hf => ?_)
  refine A_iload_n C dX9_knocks_37 (i := 2) rfl 2 rfl 38 rfl ?_
  refine A_icmp_gt C dX9_knocks_38 44 (by decide) 41 rfl hf (fun c38 hf => ?_) (fun c38 hf => ?_)
  · refine A_aload_n C dX9_knocks_44 (i := 0) rfl 0 rfl 45 rfl ?_
    refine A_iload C dX9_knocks_45 5 rfl 47 rfl ?_
    refine A_aload_n C dX9_knocks_47 (i := 0) rfl 0 rfl 48 rfl ?_
    refine A_iload C dX9_knocks_48 5 rfl 50 rfl ?_
    refine A_iconst (v := 0) C dX9_knocks_50 (by decide) 51 rfl ?_
    refine CVi C dX9_knocks_51 9 kx0 (by decide) (r := (RX9, TX9, 44)) rfl rfl hf (fun _ _ e => mX9_its kx0 e) lkRX9_310 (by decide) (by decide) rfl [.int x5, .ref (K.2.1 x0)] rfl (Nat.le_of_ble_eq_true rfl) 54 rfl (fun r51 h51 hf => ?_)
    refine A_iload_n C dX9_knocks_54 (i := 2) rfl 2 rfl 55 rfl ?_
    refine A_iload_n C dX9_knocks_55 (i := 3) rfl 3 rfl 56 rfl ?_
    refine CVi C dX9_knocks_56 9 kx0 (by decide) (r := (RX9, TX9, 44)) rfl rfl hf (fun _ _ e => mX9_broughtTo kx0 e) lkRX9_338 (by decide) (by decide) rfl [] rfl (Nat.le_of_ble_eq_true rfl) 59 rfl (fun r56 h56 hf => ?_)
    refine A_istore C dX9_knocks_59 [(6, .int r56), (0, .ref (K.2.1 x0)), (1, .int x1), (2, .int x2), (3, .int x3), (4, .int x4), (5, .int x5)] (lt_nl hnl (by decide)) rfl 61 rfl ?_
    refine A_iload C dX9_knocks_61 0 rfl 63 rfl ?_
    refine A_aload_n C dX9_knocks_63 (i := 0) rfl 1 rfl 64 rfl ?_
    refine A_iload C dX9_knocks_64 6 rfl 66 rfl ?_
    refine A_iconst (v := 0) C dX9_knocks_66 (by decide) 67 rfl ?_
    refine CVi C dX9_knocks_67 9 kx0 (by decide) (r := (RX9, TX9, 44)) rfl rfl hf (fun _ _ e => mX9_its kx0 e) lkRX9_310 (by decide) (by decide) rfl [.int r56] rfl (Nat.le_of_ble_eq_true rfl) 70 rfl (fun r67 h67 hf => ?_)
    refine A_icmp_ne C dX9_knocks_70 76 (by decide) 73 rfl hf (fun c70 hf => ?_) (fun c70 hf => ?_)
    · refine A_aload_n C dX9_knocks_76 (i := 0) rfl 1 rfl 77 rfl ?_
      refine A_iload C dX9_knocks_77 6 rfl 79 rfl ?_
      refine A_iload C dX9_knocks_79 0 rfl 81 rfl ?_
      refine CVv C dX9_knocks_81 9 kx0 (by decide) (r := (RX9, TX9, 44)) rfl rfl hf (fun _ e => mX9_comes kx0 e) lkRX9_322 (by decide) (by decide) rfl [] rfl (Nat.le_of_ble_eq_true rfl) 84 rfl (fun h81 hf => ?_)
      refine A_aload_n C dX9_knocks_84 (i := 0) rfl 1 rfl 85 rfl ?_
      refine gfRX9_26 C kx0 dX9_knocks_85 88 rfl ?_
      refine A_iconst (v := 4) C dX9_knocks_88 (by decide) 89 rfl ?_
      refine A_iload C dX9_knocks_89 6 rfl 91 rfl ?_
      refine A_imul C dX9_knocks_91 92 rfl ?_
      refine A_iconst (v := 3) C dX9_knocks_92 (by decide) 93 rfl ?_
      refine A_iadd C dX9_knocks_93 94 rfl ?_
      refine A_dup2 C dX9_knocks_94 rfl rfl 95 rfl ?_
      refine A_iald C dX9_knocks_95 (of_9_17 kx0) hf 96 rfl (fun hf => ?_)
      refine A_iconst (v := 1) C dX9_knocks_96 (by decide) 97 rfl ?_
      refine A_iadd C dX9_knocks_97 98 rfl ?_
      refine A_iast C dX9_knocks_98 (of_9_17 kx0) hf 99 rfl (fun hf => ?_)
      refine A_namH hf (fun g1 hf => ?_)
      refine A_iload C dX9_knocks_99 5 rfl 101 rfl ?_
      refine A_iconst (v := 1) C dX9_knocks_101 (by decide) 102 rfl ?_
      refine A_iload C dX9_knocks_102 6 rfl 104 rfl ?_
      refine A_ishl C dX9_knocks_104 105 rfl ?_
      refine A_ior C dX9_knocks_105 106 rfl ?_
      refine A_namI hf (fun y2 hf => ?_)
      refine A_istore C dX9_knocks_106 [(4, .int y2), (6, .int r56), (0, .ref (K.2.1 x0)), (1, .int x1), (2, .int x2), (3, .int x3), (5, .int x5)] (lt_nl hnl (by decide)) rfl 108 rfl ?_
      refine A_iinc (v := (x5 + 1)) C dX9_knocks_108 6 rfl rfl [(5, .int (x5 + 1)), (4, .int y2), (6, .int r56), (0, .ref (K.2.1 x0)), (1, .int x1), (2, .int x2), (3, .int x3)] (lt_nl hnl (by decide)) rfl 111 rfl ?_
      refine A_goto C dX9_knocks_111 6 (by decide) ?_
      refine A_sub [3, 4, 5, 6, 1, 0] (lv' := [(0, .ref (K.2.1 x0)), (1, .int x1), (2, .int x2), (3, .int x3), (4, .int y2), (5, .int (x5 + 1))]) rfl ?_
      exact Hself6 _ _ _ hf
    refine A_goto C dX9_knocks_73 108 (by decide) ?_
    refine A_iinc (v := (x5 + 1)) C dX9_knocks_108 6 rfl rfl [(5, .int (x5 + 1)), (6, .int r56), (0, .ref (K.2.1 x0)), (1, .int x1), (2, .int x2), (3, .int x3), (4, .int x4)] (lt_nl hnl (by decide)) rfl 111 rfl ?_
    refine A_goto C dX9_knocks_111 6 (by decide) ?_
    refine A_sub [2, 3, 4, 5, 6, 0] (lv' := [(0, .ref (K.2.1 x0)), (1, .int x1), (2, .int x2), (3, .int x3), (4, .int x4), (5, .int (x5 + 1))]) rfl ?_
    exact Hself6 _ _ _ hf
  refine A_goto C dX9_knocks_41 108 (by decide) ?_
  refine A_iinc (v := (x5 + 1)) C dX9_knocks_108 5 rfl rfl [(5, .int (x5 + 1)), (0, .ref (K.2.1 x0)), (1, .int x1), (2, .int x2), (3, .int x3), (4, .int x4)] (lt_nl hnl (by decide)) rfl 111 rfl ?_
  refine A_goto C dX9_knocks_111 6 (by decide) ?_
  refine A_sub [1, 2, 3, 4, 5, 0] (lv' := [(0, .ref (K.2.1 x0)), (1, .int x1), (2, .int x2), (3, .int x3), (4, .int x4), (5, .int (x5 + 1))]) rfl ?_
  exact Hself6 _ _ _ hf
set_option maxRecDepth 20000 in
theorem mX9_knocks {K : KX} {x0 : Nat} {x1 : Int32} {x2 : Int32} {x3 : Int32} (k0 : isK 9 x0) {h : HH} {rv : Int32} {hv : HH} (hf : fX9_knocks x0 x1 x2 x3 h = some (rv, hv)) : MR K yX9_knocks cX9_knocks 7 (some .int) 4 [.ref (K.2.1 x0), .int x1, .int x2, .int x3] h (some (.int rv)) hv := by
  refine MR_of (by decide) (Nat.le_of_ble_eq_true rfl) (fun G C E hnl => ?_)
  have C : Ok K G 4 cX9_knocks RX9 := C
  refine (show At K G 0 [(0, .ref (K.2.1 x0)), (1, .int x1), (2, .int x2), (3, .int x3)] [] h from ?_)
  unfold fX9_knocks at hf
  refine A_iconst (v := 0) C dX9_knocks_0 (by decide) 1 rfl ?_
  refine A_istore C dX9_knocks_1 [(4, .int 0), (0, .ref (K.2.1 x0)), (1, .int x1), (2, .int x2), (3, .int x3)] (lt_nl hnl (by decide)) rfl 3 rfl ?_
  refine A_iconst (v := 0) C dX9_knocks_3 (by decide) 4 rfl ?_
  refine A_istore C dX9_knocks_4 [(5, .int 0), (4, .int 0), (0, .ref (K.2.1 x0)), (1, .int x1), (2, .int x2), (3, .int x3)] (lt_nl hnl (by decide)) rfl 6 rfl ?_
  refine A_sub [2, 3, 4, 5, 1, 0] (lv' := [(0, .ref (K.2.1 x0)), (1, .int x1), (2, .int x2), (3, .int x3), (4, .int 0), (5, .int 0)]) rfl ?_
  refine lq2_at (wX9_knocks_L6 C hnl E k0) FU _ _ _ hf
set_option maxRecDepth 20000 in
theorem wX9_knocksNow_L2 {K : KX} {G : GX} (C : Ok K G 5 cX9_knocksNow RX9) (hnl : G.2.2.2.2.2.2.2.2.2.2.2.2.2 = 3) {rv : HH} (E : Endd K G none none rv) {x0 : Nat}   (kx0 : isK 9 x0) : ∀ (self2 : Int32 → HH → Option (HH)), (∀ (x1 : Int32) (h : HH), self2 x1 h = some rv → At K G 2 [(0, .ref (K.2.1 x0)), (1, .int x1)] [] h) → ∀ (x1 : Int32) (h : HH), fX9_knocksNow_L2 x0 self2 x1 h = some rv → At K G 2 [(0, .ref (K.2.1 x0)), (1, .int x1)] [] h := by
  intro self2 Hself2 x1 h hf
  unfold fX9_knocksNow_L2 at hf
  refine A_iload_n C dX9_knocksNow_2 (i := 1) rfl 1 rfl 3 rfl ?_
  refine A_aload_n C dX9_knocksNow_3 (i := 0) rfl 0 rfl 4 rfl ?_
  refine gfRX9_20 C kx0 dX9_knocksNow_4 7 rfl ?_
  refine A_bipush (v := 6) C dX9_knocksNow_7 (by decide) 9 rfl ?_
  refine A_iald C dX9_knocksNow_9 (of_9_15 kx0) hf 10 rfl (fun hf => ?_)
  refine A_icmp_ge C dX9_knocksNow_10 78 (by decide) 13 rfl hf (fun c10 hf => ?_) (fun c10 hf => ?_)
  · exact A_vret C dX9_knocksNow_78 E hf
  refine A_bipush (v := 100) C dX9_knocksNow_13 (by decide) 15 rfl ?_
  refine A_iconst (v := 4) C dX9_knocksNow_15 (by decide) 16 rfl ?_
  refine A_iload_n C dX9_knocksNow_16 (i := 1) rfl 1 rfl 17 rfl ?_
  refine A_imul C dX9_knocksNow_17 18 rfl ?_
  refine A_iadd C dX9_knocksNow_18 19 rfl ?_
  refine A_namI hf (fun y1 hf => ?_)
  refine A_istore_n C dX9_knocksNow_19 (i := 2) rfl [(2, .int y1), (0, .ref (K.2.1 x0)), (1, .int x1)] (lt_nl hnl (by decide)) rfl 20 rfl ?_
  refine A_aload_n C dX9_knocksNow_20 (i := 0) rfl 1 rfl 21 rfl ?_
  refine gfRX9_20 C kx0 dX9_knocksNow_21 24 rfl ?_
  refine A_iload_n C dX9_knocksNow_24 (i := 2) rfl 0 rfl 25 rfl ?_
  refine A_iconst (v := 2) C dX9_knocksNow_25 (by decide) 26 rfl ?_
  refine A_iadd C dX9_knocksNow_26 27 rfl ?_
  refine A_iald C dX9_knocksNow_27 (of_9_15 kx0) hf 28 rfl (fun hf => ?_)
  refine A_i2l C dX9_knocksNow_28 29 rfl ?_
  refine A_aload_n C dX9_knocksNow_29 (i := 0) rfl 1 rfl 30 rfl ?_
  refine CVi C dX9_knocksNow_30 9 kx0 (by decide) (r := (RX9, TX9, 44)) rfl rfl hf (fun _ _ e => mX9_bottom kx0 e) lkRX9_307 (by decide) (by decide) rfl [.long (((gI h (x0 + 3) (ix (y1 + 2)))).toInt64)] rfl (Nat.le_of_ble_eq_true rfl) 33 rfl (fun r30 h30 hf => ?_)
  refine A_i2l C dX9_knocksNow_33 34 rfl ?_
  refine A_lmul C dX9_knocksNow_34 35 rfl ?_
  refine A_aload_n C dX9_knocksNow_35 (i := 0) rfl 1 rfl 36 rfl ?_
  refine gfRX9_38 C kx0 dX9_knocksNow_36 39 rfl ?_
  refine A_iconst (v := 0) C dX9_knocksNow_39 (by decide) 40 rfl ?_
  refine A_lald C dX9_knocksNow_40 (of_9_21 kx0) hf 41 rfl (fun hf => ?_)
  refine A_l_ne C dX9_knocksNow_41 dX9_knocksNow_42 72 (by decide) 45 rfl hf (fun c41 hf => ?_) (fun c41 hf => ?_)
  · refine A_iinc (v := (x1 + 1)) C dX9_knocksNow_72 2 rfl rfl [(1, .int (x1 + 1)), (2, .int y1), (0, .ref (K.2.1 x0))] (lt_nl hnl (by decide)) rfl 75 rfl ?_
    refine A_goto C dX9_knocksNow_75 2 (by decide) ?_
    refine A_sub [2, 0] (lv' := [(0, .ref (K.2.1 x0)), (1, .int (x1 + 1))]) rfl ?_
    exact Hself2 _ _ hf
  refine A_aload_n C dX9_knocksNow_45 (i := 0) rfl 1 rfl 46 rfl ?_
  refine A_aload_n C dX9_knocksNow_46 (i := 0) rfl 1 rfl 47 rfl ?_
  refine gfRX9_20 C kx0 dX9_knocksNow_47 50 rfl ?_
  refine A_iload_n C dX9_knocksNow_50 (i := 2) rfl 0 rfl 51 rfl ?_
  refine A_iald C dX9_knocksNow_51 (of_9_15 kx0) hf 52 rfl (fun hf => ?_)
  refine A_aload_n C dX9_knocksNow_52 (i := 0) rfl 1 rfl 53 rfl ?_
  refine gfRX9_20 C kx0 dX9_knocksNow_53 56 rfl ?_
  refine A_iload_n C dX9_knocksNow_56 (i := 2) rfl 0 rfl 57 rfl ?_
  refine A_iconst (v := 1) C dX9_knocksNow_57 (by decide) 58 rfl ?_
  refine A_iadd C dX9_knocksNow_58 59 rfl ?_
  refine A_iald C dX9_knocksNow_59 (of_9_15 kx0) hf 60 rfl (fun hf => ?_)
  refine A_aload_n C dX9_knocksNow_60 (i := 0) rfl 1 rfl 61 rfl ?_
  refine gfRX9_20 C kx0 dX9_knocksNow_61 64 rfl ?_
  refine A_iload_n C dX9_knocksNow_64 (i := 2) rfl 0 rfl 65 rfl ?_
  refine A_iconst (v := 3) C dX9_knocksNow_65 (by decide) 66 rfl ?_
  refine A_iadd C dX9_knocksNow_66 67 rfl ?_
  refine A_iald C dX9_knocksNow_67 (of_9_15 kx0) hf 68 rfl (fun hf => ?_)
  refine CVi C dX9_knocksNow_68 9 kx0 (by decide) (r := (RX9, TX9, 44)) rfl rfl hf (fun _ _ e => mX9_knocks kx0 e) lkRX9_342 (by decide) (by decide) rfl [] rfl (Nat.le_of_ble_eq_true rfl) 71 rfl (fun r68 h68 hf => ?_)
  refine A_pop C dX9_knocksNow_71 rfl 72 rfl ?_
  refine A_iinc (v := (x1 + 1)) C dX9_knocksNow_72 2 rfl rfl [(1, .int (x1 + 1)), (2, .int y1), (0, .ref (K.2.1 x0))] (lt_nl hnl (by decide)) rfl 75 rfl ?_
  refine A_goto C dX9_knocksNow_75 2 (by decide) ?_
  refine A_sub [2, 0] (lv' := [(0, .ref (K.2.1 x0)), (1, .int (x1 + 1))]) rfl ?_
  exact Hself2 _ _ hf
set_option maxRecDepth 20000 in
theorem mX9_knocksNow {K : KX} {x0 : Nat} (k0 : isK 9 x0) {h : HH} {rv : HH} (hf : fX9_knocksNow x0 h = some rv) : MR K yX9_knocksNow cX9_knocksNow 3 none 5 [.ref (K.2.1 x0)] h none rv := by
  refine MR_of (by decide) (Nat.le_of_ble_eq_true rfl) (fun G C E hnl => ?_)
  have C : Ok K G 5 cX9_knocksNow RX9 := C
  refine (show At K G 0 [(0, .ref (K.2.1 x0))] [] h from ?_)
  unfold fX9_knocksNow at hf
  refine A_iconst (v := 0) C dX9_knocksNow_0 (by decide) 1 rfl ?_
  refine A_istore_n C dX9_knocksNow_1 (i := 1) rfl [(1, .int 0), (0, .ref (K.2.1 x0))] (lt_nl hnl (by decide)) rfl 2 rfl ?_
  refine A_sub [1, 0] (lv' := [(0, .ref (K.2.1 x0)), (1, .int 0)]) rfl ?_
  refine lq1_at (wX9_knocksNow_L2 C hnl E k0) FU _ _ hf
set_option maxRecDepth 20000 in
theorem wX9_nextStep_L4 {K : KX} {G : GX} (C : Ok K G 2 cX9_nextStep RX9) (hnl : G.2.2.2.2.2.2.2.2.2.2.2.2.2 = 4) {rv : Int32} {hv : HH} (E : Endd K G (some .int) (some (.int rv)) hv) {x0 : Nat} {x1 : Int32}   (kx0 : isK 9 x0) : ∀ (self4 : Int32 → Int32 → HH → Option (Int32 × HH)), (∀ (x2 : Int32) (x3 : Int32) (h : HH), self4 x2 x3 h = some (rv, hv) → At K G 4 [(0, .ref (K.2.1 x0)), (1, .int x1), (2, .int x2), (3, .int x3)] [] h) → ∀ (x2 : Int32) (x3 : Int32) (h : HH), fX9_nextStep_L4 x0 x1 self4 x2 x3 h = some (rv, hv) → At K G 4 [(0, .ref (K.2.1 x0)), (1, .int x1), (2, .int x2), (3, .int x3)] [] h := by
  intro self4 Hself4 x2 x3 h hf
  unfold fX9_nextStep_L4 at hf
  refine A_iload_n C dX9_nextStep_4 (i := 3) rfl 3 rfl 5 rfl ?_
  refine A_aload_n C dX9_nextStep_5 (i := 0) rfl 0 rfl 6 rfl ?_
  refine gfRX9_20 C kx0 dX9_nextStep_6 9 rfl ?_
  refine A_iconst (v := 5) C dX9_nextStep_9 (by decide) 10 rfl ?_
  refine A_iald C dX9_nextStep_10 (of_9_15 kx0) hf 11 rfl (fun hf => ?_)
  refine A_icmp_ge C dX9_nextStep_11 53 (by decide) 14 rfl hf (fun c11 hf => ?_) (fun c11 hf => ?_)
  · refine A_iconst (v := (-1)) C dX9_nextStep_53 (by decide) 54 rfl ?_
    exact A_iret C dX9_nextStep_54 E hf
  refine A_aload_n C dX9_nextStep_14 (i := 0) rfl 0 rfl 15 rfl ?_
  refine gfRX9_20 C kx0 dX9_nextStep_15 18 rfl ?_
  refine A_bipush (v := 40) C dX9_nextStep_18 (by decide) 20 rfl ?_
  refine A_iconst (v := 3) C dX9_nextStep_20 (by decide) 21 rfl ?_
  refine A_iload_n C dX9_nextStep_21 (i := 3) rfl 3 rfl 22 rfl ?_
  refine A_imul C dX9_nextStep_22 23 rfl ?_
  refine A_iadd C dX9_nextStep_23 24 rfl ?_
  refine A_iald C dX9_nextStep_24 (of_9_15 kx0) hf 25 rfl (fun hf => ?_)
  refine A_iload_n C dX9_nextStep_25 (i := 1) rfl 1 rfl 26 rfl ?_
  refine A_icmp_eq C dX9_nextStep_26 32 (by decide) 29 rfl hf (fun c26 hf => ?_) (fun c26 hf => ?_)
  · refine A_iload_n C dX9_nextStep_32 (i := 2) rfl 2 rfl 33 rfl ?_
    refine A_aload_n C dX9_nextStep_33 (i := 0) rfl 0 rfl 34 rfl ?_
    refine A_iload_n C dX9_nextStep_34 (i := 1) rfl 1 rfl 35 rfl ?_
    refine A_iconst (v := 2) C dX9_nextStep_35 (by decide) 36 rfl ?_
    refine CVi C dX9_nextStep_36 9 kx0 (by decide) (r := (RX9, TX9, 44)) rfl rfl hf (fun _ _ e => mX9_its kx0 e) lkRX9_310 (by decide) (by decide) rfl [.int x2] rfl (Nat.le_of_ble_eq_true rfl) 39 rfl (fun r36 h36 hf => ?_)
    refine A_icmp_ne C dX9_nextStep_39 44 (by decide) 42 rfl hf (fun c39 hf => ?_) (fun c39 hf => ?_)
    · refine A_iinc (v := (x2 + 1)) C dX9_nextStep_44 2 rfl rfl [(2, .int (x2 + 1)), (0, .ref (K.2.1 x0)), (1, .int x1), (3, .int x3)] (lt_nl hnl (by decide)) rfl 47 rfl ?_
      refine A_iinc (v := (x3 + 1)) C dX9_nextStep_47 3 rfl rfl [(3, .int (x3 + 1)), (2, .int (x2 + 1)), (0, .ref (K.2.1 x0)), (1, .int x1)] (lt_nl hnl (by decide)) rfl 50 rfl ?_
      refine A_goto C dX9_nextStep_50 4 (by decide) ?_
      refine A_sub [2, 3, 1, 0] (lv' := [(0, .ref (K.2.1 x0)), (1, .int x1), (2, .int (x2 + 1)), (3, .int (x3 + 1))]) rfl ?_
      exact Hself4 _ _ _ hf
    refine A_iload_n C dX9_nextStep_42 (i := 3) rfl 3 rfl 43 rfl ?_
    exact A_iret C dX9_nextStep_43 E hf
  refine A_goto C dX9_nextStep_29 47 (by decide) ?_
  refine A_iinc (v := (x3 + 1)) C dX9_nextStep_47 3 rfl rfl [(3, .int (x3 + 1)), (0, .ref (K.2.1 x0)), (1, .int x1), (2, .int x2)] (lt_nl hnl (by decide)) rfl 50 rfl ?_
  refine A_goto C dX9_nextStep_50 4 (by decide) ?_
  refine A_sub [1, 2, 3, 0] (lv' := [(0, .ref (K.2.1 x0)), (1, .int x1), (2, .int x2), (3, .int (x3 + 1))]) rfl ?_
  exact Hself4 _ _ _ hf
set_option maxRecDepth 20000 in
theorem mX9_nextStep {K : KX} {x0 : Nat} {x1 : Int32} (k0 : isK 9 x0) {h : HH} {rv : Int32} {hv : HH} (hf : fX9_nextStep x0 x1 h = some (rv, hv)) : MR K yX9_nextStep cX9_nextStep 4 (some .int) 2 [.ref (K.2.1 x0), .int x1] h (some (.int rv)) hv := by
  refine MR_of (by decide) (Nat.le_of_ble_eq_true rfl) (fun G C E hnl => ?_)
  have C : Ok K G 2 cX9_nextStep RX9 := C
  refine (show At K G 0 [(0, .ref (K.2.1 x0)), (1, .int x1)] [] h from ?_)
  unfold fX9_nextStep at hf
  refine A_iconst (v := 0) C dX9_nextStep_0 (by decide) 1 rfl ?_
  refine A_istore_n C dX9_nextStep_1 (i := 2) rfl [(2, .int 0), (0, .ref (K.2.1 x0)), (1, .int x1)] (lt_nl hnl (by decide)) rfl 2 rfl ?_
  refine A_iconst (v := 0) C dX9_nextStep_2 (by decide) 3 rfl ?_
  refine A_istore_n C dX9_nextStep_3 (i := 3) rfl [(3, .int 0), (2, .int 0), (0, .ref (K.2.1 x0)), (1, .int x1)] (lt_nl hnl (by decide)) rfl 4 rfl ?_
  refine A_sub [2, 3, 1, 0] (lv' := [(0, .ref (K.2.1 x0)), (1, .int x1), (2, .int 0), (3, .int 0)]) rfl ?_
  refine lq2_at (wX9_nextStep_L4 C hnl E k0) FU _ _ _ hf
set_option maxRecDepth 20000 in
theorem mX9_minute {K : KX} {x0 : Nat} {x1 : Int32} (k0 : isK 9 x0) {h : HH} {rv : Int64} {hv : HH} (hf : fX9_minute x0 x1 h = some (rv, hv)) : MR K yX9_minute cX9_minute 2 (some .long) 3 [.ref (K.2.1 x0), .int x1] h (some (.long rv)) hv := by
  refine MR_of (by decide) (Nat.le_of_ble_eq_true rfl) (fun G C E hnl => ?_)
  have C : Ok K G 3 cX9_minute RX9 := C
  refine (show At K G 0 [(0, .ref (K.2.1 x0)), (1, .int x1)] [] h from ?_)
  unfold fX9_minute at hf
  refine A_aload_n C dX9_minute_0 (i := 0) rfl 0 rfl 1 rfl ?_
  refine CVi C dX9_minute_1 9 k0 (by decide) (r := (RX9, TX9, 44)) rfl rfl hf (fun _ _ e => mX9_bottom k0 e) lkRX9_307 (by decide) (by decide) rfl [] rfl (Nat.le_of_ble_eq_true rfl) 4 rfl (fun r1 h1 hf => ?_)
  refine A_aload_n C dX9_minute_4 (i := 0) rfl 0 rfl 5 rfl ?_
  refine A_iload_n C dX9_minute_5 (i := 1) rfl 1 rfl 6 rfl ?_
  refine CVi C dX9_minute_6 9 k0 (by decide) (r := (RX9, TX9, 44)) rfl rfl hf (fun _ _ e => mX9_quickOf k0 e) lkRX9_304 (by decide) (by decide) rfl [.int r1] rfl (Nat.le_of_ble_eq_true rfl) 9 rfl (fun r6 h6 hf => ?_)
  refine A_idivG C dX9_minute_9 hf 10 rfl (fun hf => ?_)
  refine A_i2l C dX9_minute_10 11 rfl ?_
  exact A_lret C dX9_minute_11 E hf
set_option maxRecDepth 20000 in
theorem mX9_dueOf {K : KX} {x0 : Nat} {x1 : Int32} (k0 : isK 9 x0) {h : HH} {rv : Int64} {hv : HH} (hf : fX9_dueOf x0 x1 h = some (rv, hv)) : MR K yX9_dueOf cX9_dueOf 3 (some .long) 4 [.ref (K.2.1 x0), .int x1] h (some (.long rv)) hv := by
  refine MR_of (by decide) (Nat.le_of_ble_eq_true rfl) (fun G C E hnl => ?_)
  have C : Ok K G 4 cX9_dueOf RX9 := C
  refine (show At K G 0 [(0, .ref (K.2.1 x0)), (1, .int x1)] [] h from ?_)
  unfold fX9_dueOf at hf
  refine A_aload_n C dX9_dueOf_0 (i := 0) rfl 0 rfl 1 rfl ?_
  refine A_iload_n C dX9_dueOf_1 (i := 1) rfl 1 rfl 2 rfl ?_
  refine CVi C dX9_dueOf_2 9 k0 (by decide) (r := (RX9, TX9, 44)) rfl rfl hf (fun _ _ e => mX9_nextStep k0 e) lkRX9_313 (by decide) (by decide) rfl [] rfl (Nat.le_of_ble_eq_true rfl) 5 rfl (fun r2 h2 hf => ?_)
  refine A_istore_n C dX9_dueOf_5 (i := 2) rfl [(2, .int r2), (0, .ref (K.2.1 x0)), (1, .int x1)] (lt_nl hnl (by decide)) rfl 6 rfl ?_
  refine A_iload_n C dX9_dueOf_6 (i := 2) rfl 0 rfl 7 rfl ?_
  refine A_if_ge C dX9_dueOf_7 16 (by decide) 10 rfl hf (fun c7 hf => ?_) (fun c7 hf => ?_)
  · refine A_aload_n C dX9_dueOf_16 (i := 0) rfl 1 rfl 17 rfl ?_
    refine gfRX9_38 C k0 dX9_dueOf_17 20 rfl ?_
    refine A_iconst (v := 1) C dX9_dueOf_20 (by decide) 21 rfl ?_
    refine A_iload_n C dX9_dueOf_21 (i := 1) rfl 2 rfl 22 rfl ?_
    refine A_iadd C dX9_dueOf_22 23 rfl ?_
    refine A_lald C dX9_dueOf_23 (of_9_21 k0) hf 24 rfl (fun hf => ?_)
    refine A_aload_n C dX9_dueOf_24 (i := 0) rfl 1 rfl 25 rfl ?_
    refine gfRX9_20 C k0 dX9_dueOf_25 28 rfl ?_
    refine A_bipush (v := 40) C dX9_dueOf_28 (by decide) 30 rfl ?_
    refine A_iconst (v := 3) C dX9_dueOf_30 (by decide) 31 rfl ?_
    refine A_iload_n C dX9_dueOf_31 (i := 2) rfl 0 rfl 32 rfl ?_
    refine A_imul C dX9_dueOf_32 33 rfl ?_
    refine A_iadd C dX9_dueOf_33 34 rfl ?_
    refine A_iconst (v := 2) C dX9_dueOf_34 (by decide) 35 rfl ?_
    refine A_iadd C dX9_dueOf_35 36 rfl ?_
    refine A_iald C dX9_dueOf_36 (of_9_15 k0) hf 37 rfl (fun hf => ?_)
    refine A_i2l C dX9_dueOf_37 38 rfl ?_
    refine A_aload_n C dX9_dueOf_38 (i := 0) rfl 1 rfl 39 rfl ?_
    refine A_aload_n C dX9_dueOf_39 (i := 0) rfl 1 rfl 40 rfl ?_
    refine A_iload_n C dX9_dueOf_40 (i := 1) rfl 2 rfl 41 rfl ?_
    refine A_iconst (v := 0) C dX9_dueOf_41 (by decide) 42 rfl ?_
    refine CVi C dX9_dueOf_42 9 k0 (by decide) (r := (RX9, TX9, 44)) rfl rfl hf (fun _ _ e => mX9_its k0 e) lkRX9_310 (by decide) (by decide) rfl [.ref (K.2.1 x0), .long (((gI h2 (x0 + 3) (ix (((40 : Int32) + ((3 : Int32) * r2)) + 2)))).toInt64), .long (gL h2 (x0 + 9) (ix ((1 : Int32) + x1)))] rfl (Nat.le_of_ble_eq_true rfl) 45 rfl (fun r42 h42 hf => ?_)
    refine CVl C dX9_dueOf_45 9 k0 (by decide) (r := (RX9, TX9, 44)) rfl rfl hf (fun _ _ e => mX9_minute k0 e) lkRX9_318 (by decide) (by decide) rfl [.long (((gI h2 (x0 + 3) (ix (((40 : Int32) + ((3 : Int32) * r2)) + 2)))).toInt64), .long (gL h2 (x0 + 9) (ix ((1 : Int32) + x1)))] rfl (Nat.le_of_ble_eq_true rfl) 48 rfl (fun r45 h45 hf => ?_)
    refine A_lmul C dX9_dueOf_48 49 rfl ?_
    refine A_ladd C dX9_dueOf_49 50 rfl ?_
    exact A_lret C dX9_dueOf_50 E hf
  refine A_ldc2 C dX9_dueOf_10 cRX9_316 13 rfl ?_
  refine A_goto C dX9_dueOf_13 50 (by decide) ?_
  exact A_lret C dX9_dueOf_50 E hf
set_option maxRecDepth 20000 in
theorem mX9_steps {K : KX} {x0 : Nat} {x1 : Int32} (k0 : isK 9 x0) {h : HH} {rv : HH} (hf : fX9_steps x0 x1 h = some rv) : MR K yX9_steps cX9_steps 5 none 3 [.ref (K.2.1 x0), .int x1] h none rv := by
  refine MR_of (by decide) (Nat.le_of_ble_eq_true rfl) (fun G C E hnl => ?_)
  have C : Ok K G 3 cX9_steps RX9 := C
  refine (show At K G 0 [(0, .ref (K.2.1 x0)), (1, .int x1)] [] h from ?_)
  unfold fX9_steps at hf
  refine A_aload_n C dX9_steps_0 (i := 0) rfl 0 rfl 1 rfl ?_
  refine A_iload_n C dX9_steps_1 (i := 1) rfl 1 rfl 2 rfl ?_
  refine CVi C dX9_steps_2 9 k0 (by decide) (r := (RX9, TX9, 44)) rfl rfl hf (fun _ _ e => mX9_nextStep k0 e) lkRX9_313 (by decide) (by decide) rfl [] rfl (Nat.le_of_ble_eq_true rfl) 5 rfl (fun r2 h2 hf => ?_)
  refine A_istore_n C dX9_steps_5 (i := 2) rfl [(2, .int r2), (0, .ref (K.2.1 x0)), (1, .int x1)] (lt_nl hnl (by decide)) rfl 6 rfl ?_
  refine A_aload_n C dX9_steps_6 (i := 0) rfl 1 rfl 7 rfl ?_
  refine A_iload_n C dX9_steps_7 (i := 1) rfl 2 rfl 8 rfl ?_
  refine A_iconst (v := 0) C dX9_steps_8 (by decide) 9 rfl ?_
  refine CVi C dX9_steps_9 9 k0 (by decide) (r := (RX9, TX9, 44)) rfl rfl hf (fun _ _ e => mX9_its k0 e) lkRX9_310 (by decide) (by decide) rfl [] rfl (Nat.le_of_ble_eq_true rfl) 12 rfl (fun r9 h9 hf => ?_)
  refine A_istore_n C dX9_steps_12 (i := 3) rfl [(3, .int r9), (2, .int r2), (0, .ref (K.2.1 x0)), (1, .int x1)] (lt_nl hnl (by decide)) rfl 13 rfl ?_
  refine A_aload_n C dX9_steps_13 (i := 0) rfl 2 rfl 14 rfl ?_
  refine gfRX9_20 C k0 dX9_steps_14 17 rfl ?_
  refine A_bipush (v := 40) C dX9_steps_17 (by decide) 19 rfl ?_
  refine A_iconst (v := 3) C dX9_steps_19 (by decide) 20 rfl ?_
  refine A_iload_n C dX9_steps_20 (i := 2) rfl 1 rfl 21 rfl ?_
  refine A_imul C dX9_steps_21 22 rfl ?_
  refine A_iadd C dX9_steps_22 23 rfl ?_
  refine A_iconst (v := 1) C dX9_steps_23 (by decide) 24 rfl ?_
  refine A_iadd C dX9_steps_24 25 rfl ?_
  refine A_iald C dX9_steps_25 (of_9_15 k0) hf 26 rfl (fun hf => ?_)
  refine A_namI hf (fun y1 hf => ?_)
  refine A_istore C dX9_steps_26 [(4, .int y1), (3, .int r9), (2, .int r2), (0, .ref (K.2.1 x0)), (1, .int x1)] (lt_nl hnl (by decide)) rfl 28 rfl ?_
  refine A_aload_n C dX9_steps_28 (i := 0) rfl 3 rfl 29 rfl ?_
  refine gfRX9_26 C k0 dX9_steps_29 32 rfl ?_
  refine A_iconst (v := 4) C dX9_steps_32 (by decide) 33 rfl ?_
  refine A_iload_n C dX9_steps_33 (i := 1) rfl 4 rfl 34 rfl ?_
  refine A_imul C dX9_steps_34 35 rfl ?_
  refine A_iconst (v := 2) C dX9_steps_35 (by decide) 36 rfl ?_
  refine A_iadd C dX9_steps_36 37 rfl ?_
  refine A_dup2 C dX9_steps_37 rfl rfl 38 rfl ?_
  refine A_iald C dX9_steps_38 (of_9_17 k0) hf 39 rfl (fun hf => ?_)
  refine A_iconst (v := 1) C dX9_steps_39 (by decide) 40 rfl ?_
  refine A_iadd C dX9_steps_40 41 rfl ?_
  refine A_iast C dX9_steps_41 (of_9_17 k0) hf 42 rfl (fun hf => ?_)
  refine A_iload C dX9_steps_42 0 rfl 44 rfl ?_
  refine A_if_ne C dX9_steps_44 64 (by decide) 47 rfl hf (fun c44 hf => ?_) (fun c44 hf => ?_)
  · refine A_iload_n C dX9_steps_64 (i := 3) rfl 1 rfl 65 rfl ?_
    refine A_if_ne C dX9_steps_65 80 (by decide) 68 rfl hf (fun c65 hf => ?_) (fun c65 hf => ?_)
    · refine A_aload_n C dX9_steps_80 (i := 0) rfl 3 rfl 81 rfl ?_
      refine A_iload_n C dX9_steps_81 (i := 1) rfl 4 rfl 82 rfl ?_
      refine A_iload_n C dX9_steps_82 (i := 3) rfl 1 rfl 83 rfl ?_
      refine A_aload_n C dX9_steps_83 (i := 0) rfl 3 rfl 84 rfl ?_
      refine gfRX9_20 C k0 dX9_steps_84 87 rfl ?_
      refine A_iconst (v := 0) C dX9_steps_87 (by decide) 88 rfl ?_
      refine A_iald C dX9_steps_88 (of_9_15 k0) hf 89 rfl (fun hf => ?_)
      refine A_icmp_ge C dX9_steps_89 98 (by decide) 92 rfl hf (fun c89 hf => ?_) (fun c89 hf => ?_)
      · refine A_iload_n C dX9_steps_98 (i := 3) rfl 1 rfl 99 rfl ?_
        refine CVv C dX9_steps_99 9 k0 (by decide) (r := (RX9, TX9, 44)) rfl rfl hf (fun _ e => mX9_comes k0 e) lkRX9_322 (by decide) (by decide) rfl [] rfl (Nat.le_of_ble_eq_true rfl) 102 rfl (fun h99 hf => ?_)
        exact A_vret C dX9_steps_102 E hf
      refine A_iload_n C dX9_steps_92 (i := 3) rfl 1 rfl 93 rfl ?_
      refine A_iconst (v := 1) C dX9_steps_93 (by decide) 94 rfl ?_
      refine A_iadd C dX9_steps_94 95 rfl ?_
      refine A_goto C dX9_steps_95 99 (by decide) ?_
      refine CVv C dX9_steps_99 9 k0 (by decide) (r := (RX9, TX9, 44)) rfl rfl hf (fun _ e => mX9_comes k0 e) lkRX9_322 (by decide) (by decide) rfl [] rfl (Nat.le_of_ble_eq_true rfl) 102 rfl (fun h99 hf => ?_)
      exact A_vret C dX9_steps_102 E hf
    refine A_aload_n C dX9_steps_68 (i := 0) rfl 3 rfl 69 rfl ?_
    refine gfRX9_26 C k0 dX9_steps_69 72 rfl ?_
    refine A_iconst (v := 4) C dX9_steps_72 (by decide) 73 rfl ?_
    refine A_iload_n C dX9_steps_73 (i := 1) rfl 4 rfl 74 rfl ?_
    refine A_imul C dX9_steps_74 75 rfl ?_
    refine A_iconst (v := 1) C dX9_steps_75 (by decide) 76 rfl ?_
    refine A_iadd C dX9_steps_76 77 rfl ?_
    refine A_iload C dX9_steps_77 0 rfl 79 rfl ?_
    refine A_iast C dX9_steps_79 (of_9_17 k0) hf 80 rfl (fun hf => ?_)
    refine A_namH hf (fun g2 hf => ?_)
    refine A_aload_n C dX9_steps_80 (i := 0) rfl 3 rfl 81 rfl ?_
    refine A_iload_n C dX9_steps_81 (i := 1) rfl 4 rfl 82 rfl ?_
    refine A_iload_n C dX9_steps_82 (i := 3) rfl 1 rfl 83 rfl ?_
    refine A_aload_n C dX9_steps_83 (i := 0) rfl 3 rfl 84 rfl ?_
    refine gfRX9_20 C k0 dX9_steps_84 87 rfl ?_
    refine A_iconst (v := 0) C dX9_steps_87 (by decide) 88 rfl ?_
    refine A_iald C dX9_steps_88 (of_9_15 k0) hf 89 rfl (fun hf => ?_)
    refine A_icmp_ge C dX9_steps_89 98 (by decide) 92 rfl hf (fun c89 hf => ?_) (fun c89 hf => ?_)
    · refine A_iload_n C dX9_steps_98 (i := 3) rfl 1 rfl 99 rfl ?_
      refine CVv C dX9_steps_99 9 k0 (by decide) (r := (RX9, TX9, 44)) rfl rfl hf (fun _ e => mX9_comes k0 e) lkRX9_322 (by decide) (by decide) rfl [] rfl (Nat.le_of_ble_eq_true rfl) 102 rfl (fun h99 hf => ?_)
      exact A_vret C dX9_steps_102 E hf
    refine A_iload_n C dX9_steps_92 (i := 3) rfl 1 rfl 93 rfl ?_
    refine A_iconst (v := 1) C dX9_steps_93 (by decide) 94 rfl ?_
    refine A_iadd C dX9_steps_94 95 rfl ?_
    refine A_goto C dX9_steps_95 99 (by decide) ?_
    refine CVv C dX9_steps_99 9 k0 (by decide) (r := (RX9, TX9, 44)) rfl rfl hf (fun _ e => mX9_comes k0 e) lkRX9_322 (by decide) (by decide) rfl [] rfl (Nat.le_of_ble_eq_true rfl) 102 rfl (fun h99 hf => ?_)
    exact A_vret C dX9_steps_102 E hf
  refine A_aload_n C dX9_steps_47 (i := 0) rfl 3 rfl 48 rfl ?_
  refine A_iload_n C dX9_steps_48 (i := 1) rfl 4 rfl 49 rfl ?_
  refine A_iload_n C dX9_steps_49 (i := 3) rfl 1 rfl 50 rfl ?_
  refine A_if_ne C dX9_steps_50 57 (by decide) 53 rfl hf (fun c50 hf => ?_) (fun c50 hf => ?_)
  · refine A_iload_n C dX9_steps_57 (i := 3) rfl 1 rfl 58 rfl ?_
    refine A_iconst (v := 1) C dX9_steps_58 (by decide) 59 rfl ?_
    refine A_isub C dX9_steps_59 60 rfl ?_
    refine CVv C dX9_steps_60 9 k0 (by decide) (r := (RX9, TX9, 44)) rfl rfl hf (fun _ e => mX9_comes k0 e) lkRX9_322 (by decide) (by decide) rfl [] rfl (Nat.le_of_ble_eq_true rfl) 63 rfl (fun h60 hf => ?_)
    exact A_vret C dX9_steps_63 E hf
  refine A_iconst (v := 0) C dX9_steps_53 (by decide) 54 rfl ?_
  refine A_goto C dX9_steps_54 60 (by decide) ?_
  refine CVv C dX9_steps_60 9 k0 (by decide) (r := (RX9, TX9, 44)) rfl rfl hf (fun _ e => mX9_comes k0 e) lkRX9_322 (by decide) (by decide) rfl [] rfl (Nat.le_of_ble_eq_true rfl) 63 rfl (fun h60 hf => ?_)
  exact A_vret C dX9_steps_63 E hf
set_option maxRecDepth 20000 in
theorem wX9_stepsNow_L12 {K : KX} {G : GX} (C : Ok K G 5 cX9_stepsNow RX9) (hnl : G.2.2.2.2.2.2.2.2.2.2.2.2.2 = 2) {rv : HH} (E : Endd K G none none rv) {x0 : Nat} {x1 : Int32} {k12_45 : HH → Option (HH)}  (Hk12_45 : ∀  (h : HH), k12_45  h = some rv → At K G 45 [(0, .ref (K.2.1 x0)), (1, .int x1)] [] h) (kx0 : isK 9 x0) : ∀ (self12 : HH → Option (HH)), (∀  (h : HH), self12  h = some rv → At K G 12 [(0, .ref (K.2.1 x0)), (1, .int x1)] [] h) → ∀  (h : HH), fX9_stepsNow_L12 k12_45 x0 x1 self12 h = some rv → At K G 12 [(0, .ref (K.2.1 x0)), (1, .int x1)] [] h := by
  intro self12 Hself12  h hf
  unfold fX9_stepsNow_L12 at hf
  refine A_aload_n C dX9_stepsNow_12 (i := 0) rfl 0 rfl 13 rfl ?_
  refine A_iload_n C dX9_stepsNow_13 (i := 1) rfl 1 rfl 14 rfl ?_
  refine CVl C dX9_stepsNow_14 9 kx0 (by decide) (r := (RX9, TX9, 44)) rfl rfl hf (fun _ _ e => mX9_dueOf kx0 e) lkRX9_325 (by decide) (by decide) rfl [] rfl (Nat.le_of_ble_eq_true rfl) 17 rfl (fun r14 h14 hf => ?_)
  refine A_lconst (v := 0) C dX9_stepsNow_17 (by decide) 18 rfl ?_
  refine A_l_lt C dX9_stepsNow_18 dX9_stepsNow_19 45 (by decide) 22 rfl hf (fun c18 hf => ?_) (fun c18 hf => ?_)
  · exact Hk12_45 _ hf
  refine A_aload_n C dX9_stepsNow_22 (i := 0) rfl 0 rfl 23 rfl ?_
  refine A_iload_n C dX9_stepsNow_23 (i := 1) rfl 1 rfl 24 rfl ?_
  refine CVl C dX9_stepsNow_24 9 kx0 (by decide) (r := (RX9, TX9, 44)) rfl rfl hf (fun _ _ e => mX9_dueOf kx0 e) lkRX9_325 (by decide) (by decide) rfl [] rfl (Nat.le_of_ble_eq_true rfl) 27 rfl (fun r24 h24 hf => ?_)
  refine A_aload_n C dX9_stepsNow_27 (i := 0) rfl 0 rfl 28 rfl ?_
  refine gfRX9_38 C kx0 dX9_stepsNow_28 31 rfl ?_
  refine A_iconst (v := 0) C dX9_stepsNow_31 (by decide) 32 rfl ?_
  refine A_lald C dX9_stepsNow_32 (of_9_21 kx0) hf 33 rfl (fun hf => ?_)
  refine A_l_gt C dX9_stepsNow_33 dX9_stepsNow_34 45 (by decide) 37 rfl hf (fun c33 hf => ?_) (fun c33 hf => ?_)
  · exact Hk12_45 _ hf
  refine A_aload_n C dX9_stepsNow_37 (i := 0) rfl 0 rfl 38 rfl ?_
  refine A_iload_n C dX9_stepsNow_38 (i := 1) rfl 1 rfl 39 rfl ?_
  refine CVv C dX9_stepsNow_39 9 kx0 (by decide) (r := (RX9, TX9, 44)) rfl rfl hf (fun _ e => mX9_steps kx0 e) lkRX9_328 (by decide) (by decide) rfl [] rfl (Nat.le_of_ble_eq_true rfl) 42 rfl (fun h39 hf => ?_)
  refine A_goto C dX9_stepsNow_42 12 (by decide) ?_
  exact Hself12 _ hf
set_option maxRecDepth 20000 in
theorem wX9_stepsNow_L2 {K : KX} {G : GX} (C : Ok K G 5 cX9_stepsNow RX9) (hnl : G.2.2.2.2.2.2.2.2.2.2.2.2.2 = 2) {rv : HH} (E : Endd K G none none rv) {x0 : Nat}   (kx0 : isK 9 x0) : ∀ (self2 : Int32 → HH → Option (HH)), (∀ (x1 : Int32) (h : HH), self2 x1 h = some rv → At K G 2 [(0, .ref (K.2.1 x0)), (1, .int x1)] [] h) → ∀ (x1 : Int32) (h : HH), fX9_stepsNow_L2 x0 self2 x1 h = some rv → At K G 2 [(0, .ref (K.2.1 x0)), (1, .int x1)] [] h := by
  intro self2 Hself2 x1 h hf
  unfold fX9_stepsNow_L2 at hf
  refine A_iload_n C dX9_stepsNow_2 (i := 1) rfl 1 rfl 3 rfl ?_
  refine A_aload_n C dX9_stepsNow_3 (i := 0) rfl 0 rfl 4 rfl ?_
  refine gfRX9_20 C kx0 dX9_stepsNow_4 7 rfl ?_
  refine A_iconst (v := 4) C dX9_stepsNow_7 (by decide) 8 rfl ?_
  refine A_iald C dX9_stepsNow_8 (of_9_15 kx0) hf 9 rfl (fun hf => ?_)
  refine A_icmp_ge C dX9_stepsNow_9 51 (by decide) 12 rfl hf (fun c9 hf => ?_) (fun c9 hf => ?_)
  · exact A_vret C dX9_stepsNow_51 E hf
  refine lq0_at (wX9_stepsNow_L12 C hnl E (fun  h hf => ?_) kx0) FU _ hf
  refine A_iinc (v := (x1 + 1)) C dX9_stepsNow_45 1 rfl rfl [(1, .int (x1 + 1)), (0, .ref (K.2.1 x0))] (lt_nl hnl (by decide)) rfl 48 rfl ?_
  refine A_goto C dX9_stepsNow_48 2 (by decide) ?_
  refine A_sub [1, 0] (lv' := [(0, .ref (K.2.1 x0)), (1, .int (x1 + 1))]) rfl ?_
  exact Hself2 _ _ hf
set_option maxRecDepth 20000 in
theorem mX9_stepsNow {K : KX} {x0 : Nat} (k0 : isK 9 x0) {h : HH} {rv : HH} (hf : fX9_stepsNow x0 h = some rv) : MR K yX9_stepsNow cX9_stepsNow 2 none 5 [.ref (K.2.1 x0)] h none rv := by
  refine MR_of (by decide) (Nat.le_of_ble_eq_true rfl) (fun G C E hnl => ?_)
  have C : Ok K G 5 cX9_stepsNow RX9 := C
  refine (show At K G 0 [(0, .ref (K.2.1 x0))] [] h from ?_)
  unfold fX9_stepsNow at hf
  refine A_iconst (v := 0) C dX9_stepsNow_0 (by decide) 1 rfl ?_
  refine A_istore_n C dX9_stepsNow_1 (i := 1) rfl [(1, .int 0), (0, .ref (K.2.1 x0))] (lt_nl hnl (by decide)) rfl 2 rfl ?_
  refine A_sub [1, 0] (lv' := [(0, .ref (K.2.1 x0)), (1, .int 0)]) rfl ?_
  refine lq1_at (wX9_stepsNow_L2 C hnl E k0) FU _ _ hf
set_option maxRecDepth 20000 in
theorem wX9_dream_L39 {K : KX} {G : GX} (C : Ok K G 13 cX9_dream RX9) (hnl : G.2.2.2.2.2.2.2.2.2.2.2.2.2 = 3) {rv : Int32} {hv : HH} (E : Endd K G (some .int) (some (.int rv)) hv) {x0 : Nat} {x1 : Int32} {k39_59 : HH → Option (Int32 × HH)}  (Hk39_59 : ∀  (h : HH), k39_59  h = some (rv, hv) → At K G 59 [(0, .ref (K.2.1 x0)), (1, .int x1)] [] h) (kx0 : isK 9 x0) : ∀ (self39 : Int32 → HH → Option (Int32 × HH)), (∀ (x2 : Int32) (h : HH), self39 x2 h = some (rv, hv) → At K G 39 [(0, .ref (K.2.1 x0)), (1, .int x1), (2, .int x2)] [] h) → ∀ (x2 : Int32) (h : HH), fX9_dream_L39 k39_59 x0 x1 self39 x2 h = some (rv, hv) → At K G 39 [(0, .ref (K.2.1 x0)), (1, .int x1), (2, .int x2)] [] h := by
  intro self39 Hself39 x2 h hf
  unfold fX9_dream_L39 at hf
  refine A_iload_n C dX9_dream_39 (i := 2) rfl 2 rfl 40 rfl ?_
  refine A_sipush (v := 316) C dX9_dream_40 (by decide) 43 rfl ?_
  refine A_icmp_ge C dX9_dream_43 59 (by decide) 46 rfl hf (fun c43 hf => ?_) (fun c43 hf => ?_)
  · refine A_sub [0, 1] (lv' := [(0, .ref (K.2.1 x0)), (1, .int x1)]) rfl ?_
    exact Hk39_59 _ hf
  refine A_aload_n C dX9_dream_46 (i := 0) rfl 0 rfl 47 rfl ?_
  refine gfRX9_23 C kx0 dX9_dream_47 50 rfl ?_
  refine A_iload_n C dX9_dream_50 (i := 2) rfl 2 rfl 51 rfl ?_
  refine A_iconst (v := 0) C dX9_dream_51 (by decide) 52 rfl ?_
  refine A_iast C dX9_dream_52 (of_9_16 kx0) hf 53 rfl (fun hf => ?_)
  refine A_iinc (v := (x2 + 1)) C dX9_dream_53 2 rfl rfl [(2, .int (x2 + 1)), (0, .ref (K.2.1 x0)), (1, .int x1)] (lt_nl hnl (by decide)) rfl 56 rfl ?_
  refine A_goto C dX9_dream_56 39 (by decide) ?_
  refine A_sub [1, 2, 0] (lv' := [(0, .ref (K.2.1 x0)), (1, .int x1), (2, .int (x2 + 1))]) rfl ?_
  exact Hself39 _ _ hf
set_option maxRecDepth 20000 in
theorem wX9_dream_L77 {K : KX} {G : GX} (C : Ok K G 13 cX9_dream RX9) (hnl : G.2.2.2.2.2.2.2.2.2.2.2.2.2 = 3) {rv : Int32} {hv : HH} (E : Endd K G (some .int) (some (.int rv)) hv) {x0 : Nat} {k77_104 : HH → Option (Int32 × HH)}  (Hk77_104 : ∀  (h : HH), k77_104  h = some (rv, hv) → At K G 104 [(0, .ref (K.2.1 x0))] [] h) (kx0 : isK 9 x0) : ∀ (self77 : HH → Option (Int32 × HH)), (∀  (h : HH), self77  h = some (rv, hv) → At K G 77 [(0, .ref (K.2.1 x0))] [] h) → ∀  (h : HH), fX9_dream_L77 k77_104 x0 self77 h = some (rv, hv) → At K G 77 [(0, .ref (K.2.1 x0))] [] h := by
  intro self77 Hself77  h hf
  unfold fX9_dream_L77 at hf
  refine A_aload_n C dX9_dream_77 (i := 0) rfl 0 rfl 78 rfl ?_
  refine gfRX9_110 C kx0 dX9_dream_78 81 rfl ?_
  refine A_if_ne C dX9_dream_81 104 (by decide) 84 rfl hf (fun c81 hf => ?_) (fun c81 hf => ?_)
  · exact Hk77_104 _ hf
  refine A_aload_n C dX9_dream_84 (i := 0) rfl 0 rfl 85 rfl ?_
  refine gfRX9_100 C kx0 dX9_dream_85 88 rfl ?_
  refine A_bipush (v := 59) C dX9_dream_88 (by decide) 90 rfl ?_
  refine A_icmp_ne C dX9_dream_90 104 (by decide) 93 rfl hf (fun c90 hf => ?_) (fun c90 hf => ?_)
  · exact Hk77_104 _ hf
  refine A_aload_n C dX9_dream_93 (i := 0) rfl 0 rfl 94 rfl ?_
  refine CVv C dX9_dream_94 9 kx0 (by decide) (r := (RX9, TX9, 44)) rfl rfl hf (fun _ e => mX9_next kx0 e) lkRX9_131 (by decide) (by decide) rfl [] rfl (Nat.le_of_ble_eq_true rfl) 97 rfl (fun h94 hf => ?_)
  refine A_aload_n C dX9_dream_97 (i := 0) rfl 0 rfl 98 rfl ?_
  refine CVv C dX9_dream_98 9 kx0 (by decide) (r := (RX9, TX9, 44)) rfl rfl hf (fun _ e => mX9_readLine kx0 e) lkRX9_197 (by decide) (by decide) rfl [] rfl (Nat.le_of_ble_eq_true rfl) 101 rfl (fun h98 hf => ?_)
  refine A_goto C dX9_dream_101 77 (by decide) ?_
  exact Hself77 _ hf
set_option maxRecDepth 20000 in
theorem wX9_dream_L202 {K : KX} {G : GX} (C : Ok K G 13 cX9_dream RX9) (hnl : G.2.2.2.2.2.2.2.2.2.2.2.2.2 = 3) {rv : Int32} {hv : HH} (E : Endd K G (some .int) (some (.int rv)) hv) {x0 : Nat} {k202_221 : HH → Option (Int32 × HH)}  (Hk202_221 : ∀  (h : HH), k202_221  h = some (rv, hv) → At K G 221 [(0, .ref (K.2.1 x0))] [] h) (kx0 : isK 9 x0) : ∀ (self202 : Int32 → HH → Option (Int32 × HH)), (∀ (x2 : Int32) (h : HH), self202 x2 h = some (rv, hv) → At K G 202 [(0, .ref (K.2.1 x0)), (2, .int x2)] [] h) → ∀ (x2 : Int32) (h : HH), fX9_dream_L202 k202_221 x0 self202 x2 h = some (rv, hv) → At K G 202 [(0, .ref (K.2.1 x0)), (2, .int x2)] [] h := by
  intro self202 Hself202 x2 h hf
  unfold fX9_dream_L202 at hf
  refine A_iload_n C dX9_dream_202 (i := 2) rfl 1 rfl 203 rfl ?_
  refine A_bipush (v := 20) C dX9_dream_203 (by decide) 205 rfl ?_
  refine A_icmp_ge C dX9_dream_205 221 (by decide) 208 rfl hf (fun c205 hf => ?_) (fun c205 hf => ?_)
  · refine A_sub [0] (lv' := [(0, .ref (K.2.1 x0))]) rfl ?_
    exact Hk202_221 _ hf
  refine A_aload_n C dX9_dream_208 (i := 0) rfl 0 rfl 209 rfl ?_
  refine gfRX9_26 C kx0 dX9_dream_209 212 rfl ?_
  refine A_iload_n C dX9_dream_212 (i := 2) rfl 1 rfl 213 rfl ?_
  refine A_iconst (v := 0) C dX9_dream_213 (by decide) 214 rfl ?_
  refine A_iast C dX9_dream_214 (of_9_17 kx0) hf 215 rfl (fun hf => ?_)
  refine A_iinc (v := (x2 + 1)) C dX9_dream_215 1 rfl rfl [(2, .int (x2 + 1)), (0, .ref (K.2.1 x0))] (lt_nl hnl (by decide)) rfl 218 rfl ?_
  refine A_goto C dX9_dream_218 202 (by decide) ?_
  refine A_sub [1, 0] (lv' := [(0, .ref (K.2.1 x0)), (2, .int (x2 + 1))]) rfl ?_
  exact Hself202 _ _ hf
set_option maxRecDepth 20000 in
theorem wX9_dream_L223 {K : KX} {G : GX} (C : Ok K G 13 cX9_dream RX9) (hnl : G.2.2.2.2.2.2.2.2.2.2.2.2.2 = 3) {rv : Int32} {hv : HH} (E : Endd K G (some .int) (some (.int rv)) hv) {x0 : Nat} {k223_242 : HH → Option (Int32 × HH)}  (Hk223_242 : ∀  (h : HH), k223_242  h = some (rv, hv) → At K G 242 [(0, .ref (K.2.1 x0))] [] h) (kx0 : isK 9 x0) : ∀ (self223 : Int32 → HH → Option (Int32 × HH)), (∀ (x2 : Int32) (h : HH), self223 x2 h = some (rv, hv) → At K G 223 [(0, .ref (K.2.1 x0)), (2, .int x2)] [] h) → ∀ (x2 : Int32) (h : HH), fX9_dream_L223 k223_242 x0 self223 x2 h = some (rv, hv) → At K G 223 [(0, .ref (K.2.1 x0)), (2, .int x2)] [] h := by
  intro self223 Hself223 x2 h hf
  unfold fX9_dream_L223 at hf
  refine A_iload_n C dX9_dream_223 (i := 2) rfl 1 rfl 224 rfl ?_
  refine A_bipush (v := 31) C dX9_dream_224 (by decide) 226 rfl ?_
  refine A_icmp_ge C dX9_dream_226 242 (by decide) 229 rfl hf (fun c226 hf => ?_) (fun c226 hf => ?_)
  · refine A_sub [0] (lv' := [(0, .ref (K.2.1 x0))]) rfl ?_
    exact Hk223_242 _ hf
  refine A_aload_n C dX9_dream_229 (i := 0) rfl 0 rfl 230 rfl ?_
  refine gfRX9_38 C kx0 dX9_dream_230 233 rfl ?_
  refine A_iload_n C dX9_dream_233 (i := 2) rfl 1 rfl 234 rfl ?_
  refine A_lconst (v := 0) C dX9_dream_234 (by decide) 235 rfl ?_
  refine A_last C dX9_dream_235 (of_9_21 kx0) hf 236 rfl (fun hf => ?_)
  refine A_iinc (v := (x2 + 1)) C dX9_dream_236 1 rfl rfl [(2, .int (x2 + 1)), (0, .ref (K.2.1 x0))] (lt_nl hnl (by decide)) rfl 239 rfl ?_
  refine A_goto C dX9_dream_239 223 (by decide) ?_
  refine A_sub [1, 0] (lv' := [(0, .ref (K.2.1 x0)), (2, .int (x2 + 1))]) rfl ?_
  exact Hself223 _ _ hf
set_option maxRecDepth 20000 in
theorem wX9_dream_b127 {K : KX} {G : GX} (C : Ok K G 13 cX9_dream RX9) (hnl : G.2.2.2.2.2.2.2.2.2.2.2.2.2 = 3) {rv : Int32} {hv : HH} (E : Endd K G (some .int) (some (.int rv)) hv) {x0 : Nat}   (kx0 : isK 9 x0) {h : HH} (hf : fX9_dream_b127 x0 h = some (rv, hv)) : At K G 127 [(0, .ref (K.2.1 x0))] [] h := by
  unfold fX9_dream_b127 at hf
  refine A_aload_n C dX9_dream_127 (i := 0) rfl 0 rfl 128 rfl ?_
  refine gfRX9_110 C kx0 dX9_dream_128 131 rfl ?_
  refine A_if_ne C dX9_dream_131 171 (by decide) 134 rfl hf (fun c131 hf => ?_) (fun c131 hf => ?_)
  · refine A_aload_n C dX9_dream_171 (i := 0) rfl 0 rfl 172 rfl ?_
    refine gfRX9_110 C kx0 dX9_dream_172 175 rfl ?_
    refine A_if_eq C dX9_dream_175 184 (by decide) 178 rfl hf (fun c175 hf => ?_) (fun c175 hf => ?_)
    · refine A_aload_n C dX9_dream_184 (i := 0) rfl 0 rfl 185 rfl ?_
      refine gfRX9_23 C kx0 dX9_dream_185 188 rfl ?_
      refine A_iconst (v := 0) C dX9_dream_188 (by decide) 189 rfl ?_
      refine A_aload_n C dX9_dream_189 (i := 0) rfl 0 rfl 190 rfl ?_
      refine gfRX9_20 C kx0 dX9_dream_190 193 rfl ?_
      refine A_iconst (v := 0) C dX9_dream_193 (by decide) 194 rfl ?_
      refine A_sipush (v := 316) C dX9_dream_194 (by decide) 197 rfl ?_
      refine CSv C dX9_dream_197 hf (fun _ e => mX9_copy (isK_ofA (of_9_16 kx0)) (isK_ofA (of_9_15 kx0)) e) lkRX9_200 (by decide) (by decide) rfl [] rfl (Nat.le_of_ble_eq_true rfl) 200 rfl (fun h197 hf => ?_)
      refine A_iconst (v := 0) C dX9_dream_200 (by decide) 201 rfl ?_
      refine A_istore_n C dX9_dream_201 (i := 2) rfl [(2, .int 0), (0, .ref (K.2.1 x0))] (lt_nl hnl (by decide)) rfl 202 rfl ?_
      refine A_sub [1, 0] (lv' := [(0, .ref (K.2.1 x0)), (2, .int 0)]) rfl ?_
      refine lq1_at (wX9_dream_L202 C hnl E (fun  h hf => ?_) kx0) FU _ _ hf
      refine A_iconst (v := 0) C dX9_dream_221 (by decide) 222 rfl ?_
      refine A_istore_n C dX9_dream_222 (i := 2) rfl [(2, .int 0), (0, .ref (K.2.1 x0))] (lt_nl hnl (by decide)) rfl 223 rfl ?_
      refine A_sub [1, 0] (lv' := [(0, .ref (K.2.1 x0)), (2, .int 0)]) rfl ?_
      refine lq1_at (wX9_dream_L223 C hnl E (fun  h hf => ?_) kx0) FU _ _ hf
      refine A_aload_n C dX9_dream_242 (i := 0) rfl 0 rfl 243 rfl ?_
      refine A_iconst (v := 1) C dX9_dream_243 (by decide) 244 rfl ?_
      refine pfRX9_204 C kx0 dX9_dream_244 (Or.inr rfl) 247 rfl ?_
      refine A_aload_n C dX9_dream_247 (i := 0) rfl 0 rfl 248 rfl ?_
      refine A_iconst (v := 0) C dX9_dream_248 (by decide) 249 rfl ?_
      refine pfRX9_207 C kx0 dX9_dream_249 252 rfl ?_
      refine A_namH hf (fun g4 hf => ?_)
      refine A_aload_n C dX9_dream_252 (i := 0) rfl 0 rfl 253 rfl ?_
      refine A_iconst (v := 0) C dX9_dream_253 (by decide) 254 rfl ?_
      refine pfRX9_210 C kx0 dX9_dream_254 257 rfl ?_
      refine A_aload_n C dX9_dream_257 (i := 0) rfl 0 rfl 258 rfl ?_
      refine CVv C dX9_dream_258 9 kx0 (by decide) (r := (RX9, TX9, 44)) rfl rfl hf (fun _ e => mX9_knocksNow kx0 e) lkRX9_213 (by decide) (by decide) rfl [] rfl (Nat.le_of_ble_eq_true rfl) 261 rfl (fun h258 hf => ?_)
      refine A_aload_n C dX9_dream_261 (i := 0) rfl 0 rfl 262 rfl ?_
      refine CVv C dX9_dream_262 9 kx0 (by decide) (r := (RX9, TX9, 44)) rfl rfl hf (fun _ e => mX9_stepsNow kx0 e) lkRX9_216 (by decide) (by decide) rfl [] rfl (Nat.le_of_ble_eq_true rfl) 265 rfl (fun h262 hf => ?_)
      refine A_aload_n C dX9_dream_265 (i := 0) rfl 0 rfl 266 rfl ?_
      refine gfRX9_20 C kx0 dX9_dream_266 269 rfl ?_
      refine A_iconst (v := 4) C dX9_dream_269 (by decide) 270 rfl ?_
      refine A_iald C dX9_dream_270 (of_9_15 kx0) hf 271 rfl (fun hf => ?_)
      exact A_iret C dX9_dream_271 E hf
    refine A_aload_n C dX9_dream_178 (i := 0) rfl 0 rfl 179 rfl ?_
    refine A_iconst (v := 4) C dX9_dream_179 (by decide) 180 rfl ?_
    refine CVi C dX9_dream_180 9 kx0 (by decide) (r := (RX9, TX9, 44)) rfl rfl hf (fun _ _ e => mX9_no kx0 e) lkRX9_194 (by decide) (by decide) rfl [] rfl (Nat.le_of_ble_eq_true rfl) 183 rfl (fun r180 h180 hf => ?_)
    exact A_iret C dX9_dream_183 E hf
  refine A_aload_n C dX9_dream_134 (i := 0) rfl 0 rfl 135 rfl ?_
  refine gfRX9_23 C kx0 dX9_dream_135 138 rfl ?_
  refine A_iconst (v := 2) C dX9_dream_138 (by decide) 139 rfl ?_
  refine A_iald C dX9_dream_139 (of_9_16 kx0) hf 140 rfl (fun hf => ?_)
  refine A_if_eq C dX9_dream_140 161 (by decide) 143 rfl hf (fun c140 hf => ?_) (fun c140 hf => ?_)
  · refine A_aload_n C dX9_dream_161 (i := 0) rfl 0 rfl 162 rfl ?_
    refine A_bipush (v := 6) C dX9_dream_162 (by decide) 164 rfl ?_
    refine A_aload_n C dX9_dream_164 (i := 0) rfl 0 rfl 165 rfl ?_
    refine gfRX9_91 C kx0 dX9_dream_165 168 rfl ?_
    refine CVv C dX9_dream_168 9 kx0 (by decide) (r := (RX9, TX9, 44)) rfl rfl hf (fun _ e => mX9_wrong kx0 e) lkRX9_137 (by decide) (by decide) rfl [] rfl (Nat.le_of_ble_eq_true rfl) 171 rfl (fun h168 hf => ?_)
    refine A_aload_n C dX9_dream_171 (i := 0) rfl 0 rfl 172 rfl ?_
    refine gfRX9_110 C kx0 dX9_dream_172 175 rfl ?_
    refine A_if_eq C dX9_dream_175 184 (by decide) 178 rfl hf (fun c175 hf => ?_) (fun c175 hf => ?_)
    · refine A_aload_n C dX9_dream_184 (i := 0) rfl 0 rfl 185 rfl ?_
      refine gfRX9_23 C kx0 dX9_dream_185 188 rfl ?_
      refine A_iconst (v := 0) C dX9_dream_188 (by decide) 189 rfl ?_
      refine A_aload_n C dX9_dream_189 (i := 0) rfl 0 rfl 190 rfl ?_
      refine gfRX9_20 C kx0 dX9_dream_190 193 rfl ?_
      refine A_iconst (v := 0) C dX9_dream_193 (by decide) 194 rfl ?_
      refine A_sipush (v := 316) C dX9_dream_194 (by decide) 197 rfl ?_
      refine CSv C dX9_dream_197 hf (fun _ e => mX9_copy (isK_ofA (of_9_16 kx0)) (isK_ofA (of_9_15 kx0)) e) lkRX9_200 (by decide) (by decide) rfl [] rfl (Nat.le_of_ble_eq_true rfl) 200 rfl (fun h197 hf => ?_)
      refine A_iconst (v := 0) C dX9_dream_200 (by decide) 201 rfl ?_
      refine A_istore_n C dX9_dream_201 (i := 2) rfl [(2, .int 0), (0, .ref (K.2.1 x0))] (lt_nl hnl (by decide)) rfl 202 rfl ?_
      refine A_sub [1, 0] (lv' := [(0, .ref (K.2.1 x0)), (2, .int 0)]) rfl ?_
      refine lq1_at (wX9_dream_L202 C hnl E (fun  h hf => ?_) kx0) FU _ _ hf
      refine A_iconst (v := 0) C dX9_dream_221 (by decide) 222 rfl ?_
      refine A_istore_n C dX9_dream_222 (i := 2) rfl [(2, .int 0), (0, .ref (K.2.1 x0))] (lt_nl hnl (by decide)) rfl 223 rfl ?_
      refine A_sub [1, 0] (lv' := [(0, .ref (K.2.1 x0)), (2, .int 0)]) rfl ?_
      refine lq1_at (wX9_dream_L223 C hnl E (fun  h hf => ?_) kx0) FU _ _ hf
      refine A_aload_n C dX9_dream_242 (i := 0) rfl 0 rfl 243 rfl ?_
      refine A_iconst (v := 1) C dX9_dream_243 (by decide) 244 rfl ?_
      refine pfRX9_204 C kx0 dX9_dream_244 (Or.inr rfl) 247 rfl ?_
      refine A_aload_n C dX9_dream_247 (i := 0) rfl 0 rfl 248 rfl ?_
      refine A_iconst (v := 0) C dX9_dream_248 (by decide) 249 rfl ?_
      refine pfRX9_207 C kx0 dX9_dream_249 252 rfl ?_
      refine A_namH hf (fun g5 hf => ?_)
      refine A_aload_n C dX9_dream_252 (i := 0) rfl 0 rfl 253 rfl ?_
      refine A_iconst (v := 0) C dX9_dream_253 (by decide) 254 rfl ?_
      refine pfRX9_210 C kx0 dX9_dream_254 257 rfl ?_
      refine A_aload_n C dX9_dream_257 (i := 0) rfl 0 rfl 258 rfl ?_
      refine CVv C dX9_dream_258 9 kx0 (by decide) (r := (RX9, TX9, 44)) rfl rfl hf (fun _ e => mX9_knocksNow kx0 e) lkRX9_213 (by decide) (by decide) rfl [] rfl (Nat.le_of_ble_eq_true rfl) 261 rfl (fun h258 hf => ?_)
      refine A_aload_n C dX9_dream_261 (i := 0) rfl 0 rfl 262 rfl ?_
      refine CVv C dX9_dream_262 9 kx0 (by decide) (r := (RX9, TX9, 44)) rfl rfl hf (fun _ e => mX9_stepsNow kx0 e) lkRX9_216 (by decide) (by decide) rfl [] rfl (Nat.le_of_ble_eq_true rfl) 265 rfl (fun h262 hf => ?_)
      refine A_aload_n C dX9_dream_265 (i := 0) rfl 0 rfl 266 rfl ?_
      refine gfRX9_20 C kx0 dX9_dream_266 269 rfl ?_
      refine A_iconst (v := 4) C dX9_dream_269 (by decide) 270 rfl ?_
      refine A_iald C dX9_dream_270 (of_9_15 kx0) hf 271 rfl (fun hf => ?_)
      exact A_iret C dX9_dream_271 E hf
    refine A_aload_n C dX9_dream_178 (i := 0) rfl 0 rfl 179 rfl ?_
    refine A_iconst (v := 4) C dX9_dream_179 (by decide) 180 rfl ?_
    refine CVi C dX9_dream_180 9 kx0 (by decide) (r := (RX9, TX9, 44)) rfl rfl hf (fun _ _ e => mX9_no kx0 e) lkRX9_194 (by decide) (by decide) rfl [] rfl (Nat.le_of_ble_eq_true rfl) 183 rfl (fun r180 h180 hf => ?_)
    exact A_iret C dX9_dream_183 E hf
  refine A_aload_n C dX9_dream_143 (i := 0) rfl 0 rfl 144 rfl ?_
  refine gfRX9_23 C kx0 dX9_dream_144 147 rfl ?_
  refine A_iconst (v := 3) C dX9_dream_147 (by decide) 148 rfl ?_
  refine A_iald C dX9_dream_148 (of_9_16 kx0) hf 149 rfl (fun hf => ?_)
  refine A_if_eq C dX9_dream_149 161 (by decide) 152 rfl hf (fun c149 hf => ?_) (fun c149 hf => ?_)
  · refine A_aload_n C dX9_dream_161 (i := 0) rfl 0 rfl 162 rfl ?_
    refine A_bipush (v := 6) C dX9_dream_162 (by decide) 164 rfl ?_
    refine A_aload_n C dX9_dream_164 (i := 0) rfl 0 rfl 165 rfl ?_
    refine gfRX9_91 C kx0 dX9_dream_165 168 rfl ?_
    refine CVv C dX9_dream_168 9 kx0 (by decide) (r := (RX9, TX9, 44)) rfl rfl hf (fun _ e => mX9_wrong kx0 e) lkRX9_137 (by decide) (by decide) rfl [] rfl (Nat.le_of_ble_eq_true rfl) 171 rfl (fun h168 hf => ?_)
    refine A_aload_n C dX9_dream_171 (i := 0) rfl 0 rfl 172 rfl ?_
    refine gfRX9_110 C kx0 dX9_dream_172 175 rfl ?_
    refine A_if_eq C dX9_dream_175 184 (by decide) 178 rfl hf (fun c175 hf => ?_) (fun c175 hf => ?_)
    · refine A_aload_n C dX9_dream_184 (i := 0) rfl 0 rfl 185 rfl ?_
      refine gfRX9_23 C kx0 dX9_dream_185 188 rfl ?_
      refine A_iconst (v := 0) C dX9_dream_188 (by decide) 189 rfl ?_
      refine A_aload_n C dX9_dream_189 (i := 0) rfl 0 rfl 190 rfl ?_
      refine gfRX9_20 C kx0 dX9_dream_190 193 rfl ?_
      refine A_iconst (v := 0) C dX9_dream_193 (by decide) 194 rfl ?_
      refine A_sipush (v := 316) C dX9_dream_194 (by decide) 197 rfl ?_
      refine CSv C dX9_dream_197 hf (fun _ e => mX9_copy (isK_ofA (of_9_16 kx0)) (isK_ofA (of_9_15 kx0)) e) lkRX9_200 (by decide) (by decide) rfl [] rfl (Nat.le_of_ble_eq_true rfl) 200 rfl (fun h197 hf => ?_)
      refine A_iconst (v := 0) C dX9_dream_200 (by decide) 201 rfl ?_
      refine A_istore_n C dX9_dream_201 (i := 2) rfl [(2, .int 0), (0, .ref (K.2.1 x0))] (lt_nl hnl (by decide)) rfl 202 rfl ?_
      refine A_sub [1, 0] (lv' := [(0, .ref (K.2.1 x0)), (2, .int 0)]) rfl ?_
      refine lq1_at (wX9_dream_L202 C hnl E (fun  h hf => ?_) kx0) FU _ _ hf
      refine A_iconst (v := 0) C dX9_dream_221 (by decide) 222 rfl ?_
      refine A_istore_n C dX9_dream_222 (i := 2) rfl [(2, .int 0), (0, .ref (K.2.1 x0))] (lt_nl hnl (by decide)) rfl 223 rfl ?_
      refine A_sub [1, 0] (lv' := [(0, .ref (K.2.1 x0)), (2, .int 0)]) rfl ?_
      refine lq1_at (wX9_dream_L223 C hnl E (fun  h hf => ?_) kx0) FU _ _ hf
      refine A_aload_n C dX9_dream_242 (i := 0) rfl 0 rfl 243 rfl ?_
      refine A_iconst (v := 1) C dX9_dream_243 (by decide) 244 rfl ?_
      refine pfRX9_204 C kx0 dX9_dream_244 (Or.inr rfl) 247 rfl ?_
      refine A_aload_n C dX9_dream_247 (i := 0) rfl 0 rfl 248 rfl ?_
      refine A_iconst (v := 0) C dX9_dream_248 (by decide) 249 rfl ?_
      refine pfRX9_207 C kx0 dX9_dream_249 252 rfl ?_
      refine A_namH hf (fun g6 hf => ?_)
      refine A_aload_n C dX9_dream_252 (i := 0) rfl 0 rfl 253 rfl ?_
      refine A_iconst (v := 0) C dX9_dream_253 (by decide) 254 rfl ?_
      refine pfRX9_210 C kx0 dX9_dream_254 257 rfl ?_
      refine A_aload_n C dX9_dream_257 (i := 0) rfl 0 rfl 258 rfl ?_
      refine CVv C dX9_dream_258 9 kx0 (by decide) (r := (RX9, TX9, 44)) rfl rfl hf (fun _ e => mX9_knocksNow kx0 e) lkRX9_213 (by decide) (by decide) rfl [] rfl (Nat.le_of_ble_eq_true rfl) 261 rfl (fun h258 hf => ?_)
      refine A_aload_n C dX9_dream_261 (i := 0) rfl 0 rfl 262 rfl ?_
      refine CVv C dX9_dream_262 9 kx0 (by decide) (r := (RX9, TX9, 44)) rfl rfl hf (fun _ e => mX9_stepsNow kx0 e) lkRX9_216 (by decide) (by decide) rfl [] rfl (Nat.le_of_ble_eq_true rfl) 265 rfl (fun h262 hf => ?_)
      refine A_aload_n C dX9_dream_265 (i := 0) rfl 0 rfl 266 rfl ?_
      refine gfRX9_20 C kx0 dX9_dream_266 269 rfl ?_
      refine A_iconst (v := 4) C dX9_dream_269 (by decide) 270 rfl ?_
      refine A_iald C dX9_dream_270 (of_9_15 kx0) hf 271 rfl (fun hf => ?_)
      exact A_iret C dX9_dream_271 E hf
    refine A_aload_n C dX9_dream_178 (i := 0) rfl 0 rfl 179 rfl ?_
    refine A_iconst (v := 4) C dX9_dream_179 (by decide) 180 rfl ?_
    refine CVi C dX9_dream_180 9 kx0 (by decide) (r := (RX9, TX9, 44)) rfl rfl hf (fun _ _ e => mX9_no kx0 e) lkRX9_194 (by decide) (by decide) rfl [] rfl (Nat.le_of_ble_eq_true rfl) 183 rfl (fun r180 h180 hf => ?_)
    exact A_iret C dX9_dream_183 E hf
  refine A_aload_n C dX9_dream_152 (i := 0) rfl 0 rfl 153 rfl ?_
  refine gfRX9_23 C kx0 dX9_dream_153 156 rfl ?_
  refine A_iconst (v := 4) C dX9_dream_156 (by decide) 157 rfl ?_
  refine A_iald C dX9_dream_157 (of_9_16 kx0) hf 158 rfl (fun hf => ?_)
  refine A_if_ne C dX9_dream_158 171 (by decide) 161 rfl hf (fun c158 hf => ?_) (fun c158 hf => ?_)
  · refine A_aload_n C dX9_dream_171 (i := 0) rfl 0 rfl 172 rfl ?_
    refine gfRX9_110 C kx0 dX9_dream_172 175 rfl ?_
    refine A_if_eq C dX9_dream_175 184 (by decide) 178 rfl hf (fun c175 hf => ?_) (fun c175 hf => ?_)
    · refine A_aload_n C dX9_dream_184 (i := 0) rfl 0 rfl 185 rfl ?_
      refine gfRX9_23 C kx0 dX9_dream_185 188 rfl ?_
      refine A_iconst (v := 0) C dX9_dream_188 (by decide) 189 rfl ?_
      refine A_aload_n C dX9_dream_189 (i := 0) rfl 0 rfl 190 rfl ?_
      refine gfRX9_20 C kx0 dX9_dream_190 193 rfl ?_
      refine A_iconst (v := 0) C dX9_dream_193 (by decide) 194 rfl ?_
      refine A_sipush (v := 316) C dX9_dream_194 (by decide) 197 rfl ?_
      refine CSv C dX9_dream_197 hf (fun _ e => mX9_copy (isK_ofA (of_9_16 kx0)) (isK_ofA (of_9_15 kx0)) e) lkRX9_200 (by decide) (by decide) rfl [] rfl (Nat.le_of_ble_eq_true rfl) 200 rfl (fun h197 hf => ?_)
      refine A_iconst (v := 0) C dX9_dream_200 (by decide) 201 rfl ?_
      refine A_istore_n C dX9_dream_201 (i := 2) rfl [(2, .int 0), (0, .ref (K.2.1 x0))] (lt_nl hnl (by decide)) rfl 202 rfl ?_
      refine A_sub [1, 0] (lv' := [(0, .ref (K.2.1 x0)), (2, .int 0)]) rfl ?_
      refine lq1_at (wX9_dream_L202 C hnl E (fun  h hf => ?_) kx0) FU _ _ hf
      refine A_iconst (v := 0) C dX9_dream_221 (by decide) 222 rfl ?_
      refine A_istore_n C dX9_dream_222 (i := 2) rfl [(2, .int 0), (0, .ref (K.2.1 x0))] (lt_nl hnl (by decide)) rfl 223 rfl ?_
      refine A_sub [1, 0] (lv' := [(0, .ref (K.2.1 x0)), (2, .int 0)]) rfl ?_
      refine lq1_at (wX9_dream_L223 C hnl E (fun  h hf => ?_) kx0) FU _ _ hf
      refine A_aload_n C dX9_dream_242 (i := 0) rfl 0 rfl 243 rfl ?_
      refine A_iconst (v := 1) C dX9_dream_243 (by decide) 244 rfl ?_
      refine pfRX9_204 C kx0 dX9_dream_244 (Or.inr rfl) 247 rfl ?_
      refine A_aload_n C dX9_dream_247 (i := 0) rfl 0 rfl 248 rfl ?_
      refine A_iconst (v := 0) C dX9_dream_248 (by decide) 249 rfl ?_
      refine pfRX9_207 C kx0 dX9_dream_249 252 rfl ?_
      refine A_namH hf (fun g7 hf => ?_)
      refine A_aload_n C dX9_dream_252 (i := 0) rfl 0 rfl 253 rfl ?_
      refine A_iconst (v := 0) C dX9_dream_253 (by decide) 254 rfl ?_
      refine pfRX9_210 C kx0 dX9_dream_254 257 rfl ?_
      refine A_aload_n C dX9_dream_257 (i := 0) rfl 0 rfl 258 rfl ?_
      refine CVv C dX9_dream_258 9 kx0 (by decide) (r := (RX9, TX9, 44)) rfl rfl hf (fun _ e => mX9_knocksNow kx0 e) lkRX9_213 (by decide) (by decide) rfl [] rfl (Nat.le_of_ble_eq_true rfl) 261 rfl (fun h258 hf => ?_)
      refine A_aload_n C dX9_dream_261 (i := 0) rfl 0 rfl 262 rfl ?_
      refine CVv C dX9_dream_262 9 kx0 (by decide) (r := (RX9, TX9, 44)) rfl rfl hf (fun _ e => mX9_stepsNow kx0 e) lkRX9_216 (by decide) (by decide) rfl [] rfl (Nat.le_of_ble_eq_true rfl) 265 rfl (fun h262 hf => ?_)
      refine A_aload_n C dX9_dream_265 (i := 0) rfl 0 rfl 266 rfl ?_
      refine gfRX9_20 C kx0 dX9_dream_266 269 rfl ?_
      refine A_iconst (v := 4) C dX9_dream_269 (by decide) 270 rfl ?_
      refine A_iald C dX9_dream_270 (of_9_15 kx0) hf 271 rfl (fun hf => ?_)
      exact A_iret C dX9_dream_271 E hf
    refine A_aload_n C dX9_dream_178 (i := 0) rfl 0 rfl 179 rfl ?_
    refine A_iconst (v := 4) C dX9_dream_179 (by decide) 180 rfl ?_
    refine CVi C dX9_dream_180 9 kx0 (by decide) (r := (RX9, TX9, 44)) rfl rfl hf (fun _ _ e => mX9_no kx0 e) lkRX9_194 (by decide) (by decide) rfl [] rfl (Nat.le_of_ble_eq_true rfl) 183 rfl (fun r180 h180 hf => ?_)
    exact A_iret C dX9_dream_183 E hf
  refine A_aload_n C dX9_dream_161 (i := 0) rfl 0 rfl 162 rfl ?_
  refine A_bipush (v := 6) C dX9_dream_162 (by decide) 164 rfl ?_
  refine A_aload_n C dX9_dream_164 (i := 0) rfl 0 rfl 165 rfl ?_
  refine gfRX9_91 C kx0 dX9_dream_165 168 rfl ?_
  refine CVv C dX9_dream_168 9 kx0 (by decide) (r := (RX9, TX9, 44)) rfl rfl hf (fun _ e => mX9_wrong kx0 e) lkRX9_137 (by decide) (by decide) rfl [] rfl (Nat.le_of_ble_eq_true rfl) 171 rfl (fun h168 hf => ?_)
  refine A_aload_n C dX9_dream_171 (i := 0) rfl 0 rfl 172 rfl ?_
  refine gfRX9_110 C kx0 dX9_dream_172 175 rfl ?_
  refine A_if_eq C dX9_dream_175 184 (by decide) 178 rfl hf (fun c175 hf => ?_) (fun c175 hf => ?_)
  · refine A_aload_n C dX9_dream_184 (i := 0) rfl 0 rfl 185 rfl ?_
    refine gfRX9_23 C kx0 dX9_dream_185 188 rfl ?_
    refine A_iconst (v := 0) C dX9_dream_188 (by decide) 189 rfl ?_
    refine A_aload_n C dX9_dream_189 (i := 0) rfl 0 rfl 190 rfl ?_
    refine gfRX9_20 C kx0 dX9_dream_190 193 rfl ?_
    refine A_iconst (v := 0) C dX9_dream_193 (by decide) 194 rfl ?_
    refine A_sipush (v := 316) C dX9_dream_194 (by decide) 197 rfl ?_
    refine CSv C dX9_dream_197 hf (fun _ e => mX9_copy (isK_ofA (of_9_16 kx0)) (isK_ofA (of_9_15 kx0)) e) lkRX9_200 (by decide) (by decide) rfl [] rfl (Nat.le_of_ble_eq_true rfl) 200 rfl (fun h197 hf => ?_)
    refine A_iconst (v := 0) C dX9_dream_200 (by decide) 201 rfl ?_
    refine A_istore_n C dX9_dream_201 (i := 2) rfl [(2, .int 0), (0, .ref (K.2.1 x0))] (lt_nl hnl (by decide)) rfl 202 rfl ?_
    refine A_sub [1, 0] (lv' := [(0, .ref (K.2.1 x0)), (2, .int 0)]) rfl ?_
    refine lq1_at (wX9_dream_L202 C hnl E (fun  h hf => ?_) kx0) FU _ _ hf
    refine A_iconst (v := 0) C dX9_dream_221 (by decide) 222 rfl ?_
    refine A_istore_n C dX9_dream_222 (i := 2) rfl [(2, .int 0), (0, .ref (K.2.1 x0))] (lt_nl hnl (by decide)) rfl 223 rfl ?_
    refine A_sub [1, 0] (lv' := [(0, .ref (K.2.1 x0)), (2, .int 0)]) rfl ?_
    refine lq1_at (wX9_dream_L223 C hnl E (fun  h hf => ?_) kx0) FU _ _ hf
    refine A_aload_n C dX9_dream_242 (i := 0) rfl 0 rfl 243 rfl ?_
    refine A_iconst (v := 1) C dX9_dream_243 (by decide) 244 rfl ?_
    refine pfRX9_204 C kx0 dX9_dream_244 (Or.inr rfl) 247 rfl ?_
    refine A_aload_n C dX9_dream_247 (i := 0) rfl 0 rfl 248 rfl ?_
    refine A_iconst (v := 0) C dX9_dream_248 (by decide) 249 rfl ?_
    refine pfRX9_207 C kx0 dX9_dream_249 252 rfl ?_
    refine A_namH hf (fun g8 hf => ?_)
    refine A_aload_n C dX9_dream_252 (i := 0) rfl 0 rfl 253 rfl ?_
    refine A_iconst (v := 0) C dX9_dream_253 (by decide) 254 rfl ?_
    refine pfRX9_210 C kx0 dX9_dream_254 257 rfl ?_
    refine A_aload_n C dX9_dream_257 (i := 0) rfl 0 rfl 258 rfl ?_
    refine CVv C dX9_dream_258 9 kx0 (by decide) (r := (RX9, TX9, 44)) rfl rfl hf (fun _ e => mX9_knocksNow kx0 e) lkRX9_213 (by decide) (by decide) rfl [] rfl (Nat.le_of_ble_eq_true rfl) 261 rfl (fun h258 hf => ?_)
    refine A_aload_n C dX9_dream_261 (i := 0) rfl 0 rfl 262 rfl ?_
    refine CVv C dX9_dream_262 9 kx0 (by decide) (r := (RX9, TX9, 44)) rfl rfl hf (fun _ e => mX9_stepsNow kx0 e) lkRX9_216 (by decide) (by decide) rfl [] rfl (Nat.le_of_ble_eq_true rfl) 265 rfl (fun h262 hf => ?_)
    refine A_aload_n C dX9_dream_265 (i := 0) rfl 0 rfl 266 rfl ?_
    refine gfRX9_20 C kx0 dX9_dream_266 269 rfl ?_
    refine A_iconst (v := 4) C dX9_dream_269 (by decide) 270 rfl ?_
    refine A_iald C dX9_dream_270 (of_9_15 kx0) hf 271 rfl (fun hf => ?_)
    exact A_iret C dX9_dream_271 E hf
  refine A_aload_n C dX9_dream_178 (i := 0) rfl 0 rfl 179 rfl ?_
  refine A_iconst (v := 4) C dX9_dream_179 (by decide) 180 rfl ?_
  refine CVi C dX9_dream_180 9 kx0 (by decide) (r := (RX9, TX9, 44)) rfl rfl hf (fun _ _ e => mX9_no kx0 e) lkRX9_194 (by decide) (by decide) rfl [] rfl (Nat.le_of_ble_eq_true rfl) 183 rfl (fun r180 h180 hf => ?_)
  exact A_iret C dX9_dream_183 E hf
set_option maxRecDepth 20000 in
theorem mX9_dream {K : KX} {x0 : Nat} {x1 : Int32} (k0 : isK 9 x0) {h : HH} {rv : Int32} {hv : HH} (hf : fX9_dream x0 x1 h = some (rv, hv)) : MR K yX9_dream cX9_dream 3 (some .int) 13 [.ref (K.2.1 x0), .int x1] h (some (.int rv)) hv := by
  refine MR_of (by decide) (Nat.le_of_ble_eq_true rfl) (fun G C E hnl => ?_)
  have C : Ok K G 13 cX9_dream RX9 := C
  refine (show At K G 0 [(0, .ref (K.2.1 x0)), (1, .int x1)] [] h from ?_)
  unfold fX9_dream at hf
  refine A_aload_n C dX9_dream_0 (i := 0) rfl 0 rfl 1 rfl ?_
  refine CVv C dX9_dream_1 9 k0 (by decide) (r := (RX9, TX9, 44)) rfl rfl hf (fun _ e => mX9_good k0 e) lkRX9_191 (by decide) (by decide) rfl [] rfl (Nat.le_of_ble_eq_true rfl) 4 rfl (fun h1 hf => ?_)
  refine A_iload_n C dX9_dream_4 (i := 1) rfl 1 rfl 5 rfl ?_
  refine A_iconst (v := 0) C dX9_dream_5 (by decide) 6 rfl ?_
  refine A_aload_n C dX9_dream_6 (i := 0) rfl 0 rfl 7 rfl ?_
  refine gfRX9_78 C k0 dX9_dream_7 10 rfl ?_
  refine CSz C dX9_dream_10 hf (fun _ _ e => mX9_within  e) lkRX9_170 (by decide) (by decide) rfl [] rfl (Nat.le_of_ble_eq_true rfl) 13 rfl (fun r10 h10 hf => ?_)
  refine A_z_ne C dX9_dream_13 22 (by decide) 16 rfl hf (fun c13 hf => ?_) (fun c13 hf => ?_)
  · refine A_aload_n C dX9_dream_22 (i := 0) rfl 0 rfl 23 rfl ?_
    refine A_iconst (v := 0) C dX9_dream_23 (by decide) 24 rfl ?_
    refine pfRX9_78 C k0 dX9_dream_24 27 rfl ?_
    refine A_aload_n C dX9_dream_27 (i := 0) rfl 0 rfl 28 rfl ?_
    refine A_iconst (v := 0) C dX9_dream_28 (by decide) 29 rfl ?_
    refine pfRX9_114 C k0 dX9_dream_29 32 rfl ?_
    refine A_namH hf (fun g1 hf => ?_)
    refine A_aload_n C dX9_dream_32 (i := 0) rfl 0 rfl 33 rfl ?_
    refine A_iconst (v := 0) C dX9_dream_33 (by decide) 34 rfl ?_
    refine pfRX9_110 C k0 dX9_dream_34 (Or.inl rfl) 37 rfl ?_
    refine A_iconst (v := 0) C dX9_dream_37 (by decide) 38 rfl ?_
    refine A_istore_n C dX9_dream_38 (i := 2) rfl [(2, .int 0), (0, .ref (K.2.1 x0)), (1, .int x1)] (lt_nl hnl (by decide)) rfl 39 rfl ?_
    refine A_sub [1, 2, 0] (lv' := [(0, .ref (K.2.1 x0)), (1, .int x1), (2, .int 0)]) rfl ?_
    refine lq1_at (wX9_dream_L39 C hnl E (fun  h hf => ?_) k0) FU _ _ hf
    refine A_aload_n C dX9_dream_59 (i := 0) rfl 0 rfl 60 rfl ?_
    refine A_iload_n C dX9_dream_60 (i := 1) rfl 1 rfl 61 rfl ?_
    refine pfRX9_81 C k0 dX9_dream_61 64 rfl ?_
    refine A_aload_n C dX9_dream_64 (i := 0) rfl 0 rfl 65 rfl ?_
    refine A_iconst (v := 0) C dX9_dream_65 (by decide) 66 rfl ?_
    refine pfRX9_84 C k0 dX9_dream_66 69 rfl ?_
    refine A_namH hf (fun g2 hf => ?_)
    refine A_aload_n C dX9_dream_69 (i := 0) rfl 0 rfl 70 rfl ?_
    refine CVv C dX9_dream_70 9 k0 (by decide) (r := (RX9, TX9, 44)) rfl rfl hf (fun _ e => mX9_next k0 e) lkRX9_131 (by decide) (by decide) rfl [] rfl (Nat.le_of_ble_eq_true rfl) 73 rfl (fun h70 hf => ?_)
    refine A_aload_n C dX9_dream_73 (i := 0) rfl 0 rfl 74 rfl ?_
    refine CVv C dX9_dream_74 9 k0 (by decide) (r := (RX9, TX9, 44)) rfl rfl hf (fun _ e => mX9_readLine k0 e) lkRX9_197 (by decide) (by decide) rfl [] rfl (Nat.le_of_ble_eq_true rfl) 77 rfl (fun h74 hf => ?_)
    refine A_sub [0] (lv' := [(0, .ref (K.2.1 x0))]) rfl ?_
    refine lq0_at (wX9_dream_L77 C hnl E (fun  h hf => ?_) k0) FU _ hf
    refine A_aload_n C dX9_dream_104 (i := 0) rfl 0 rfl 105 rfl ?_
    refine gfRX9_110 C k0 dX9_dream_105 108 rfl ?_
    refine A_if_ne C dX9_dream_108 127 (by decide) 111 rfl hf (fun c108 hf => ?_) (fun c108 hf => ?_)
    · exact wX9_dream_b127 C hnl E k0 hf
    refine A_aload_n C dX9_dream_111 (i := 0) rfl 0 rfl 112 rfl ?_
    refine gfRX9_100 C k0 dX9_dream_112 115 rfl ?_
    refine A_if_eq C dX9_dream_115 127 (by decide) 118 rfl hf (fun c115 hf => ?_) (fun c115 hf => ?_)
    · exact wX9_dream_b127 C hnl E k0 hf
    refine A_aload_n C dX9_dream_118 (i := 0) rfl 0 rfl 119 rfl ?_
    refine A_iconst (v := 1) C dX9_dream_119 (by decide) 120 rfl ?_
    refine A_aload_n C dX9_dream_120 (i := 0) rfl 0 rfl 121 rfl ?_
    refine gfRX9_91 C k0 dX9_dream_121 124 rfl ?_
    refine CVv C dX9_dream_124 9 k0 (by decide) (r := (RX9, TX9, 44)) rfl rfl hf (fun _ e => mX9_wrong k0 e) lkRX9_137 (by decide) (by decide) rfl [] rfl (Nat.le_of_ble_eq_true rfl) 127 rfl (fun h124 hf => ?_)
    exact wX9_dream_b127 C hnl E k0 hf
  refine A_aload_n C dX9_dream_16 (i := 0) rfl 0 rfl 17 rfl ?_
  refine A_iconst (v := 2) C dX9_dream_17 (by decide) 18 rfl ?_
  refine CVi C dX9_dream_18 9 k0 (by decide) (r := (RX9, TX9, 44)) rfl rfl hf (fun _ _ e => mX9_no k0 e) lkRX9_194 (by decide) (by decide) rfl [] rfl (Nat.le_of_ble_eq_true rfl) 21 rfl (fun r18 h18 hf => ?_)
  exact A_iret C dX9_dream_21 E hf
set_option maxRecDepth 20000 in
theorem mX9_fault {K : KX} {x0 : Nat} (k0 : isK 9 x0) {h : HH} {rv : Int32} {hv : HH} (hf : fX9_fault x0 h = some (rv, hv)) : MR K yX9_fault cX9_fault 1 (some .int) 1 [.ref (K.2.1 x0)] h (some (.int rv)) hv := by
  refine MR_of (by decide) (Nat.le_of_ble_eq_true rfl) (fun G C E hnl => ?_)
  have C : Ok K G 1 cX9_fault RX9 := C
  refine (show At K G 0 [(0, .ref (K.2.1 x0))] [] h from ?_)
  unfold fX9_fault at hf
  refine A_aload_n C dX9_fault_0 (i := 0) rfl 0 rfl 1 rfl ?_
  refine A_iconst (v := 0) C dX9_fault_1 (by decide) 2 rfl ?_
  refine pfRX9_72 C k0 dX9_fault_2 5 rfl ?_
  refine A_aload_n C dX9_fault_5 (i := 0) rfl 0 rfl 6 rfl ?_
  refine gfRX9_114 C k0 dX9_fault_6 9 rfl ?_
  exact A_iret C dX9_fault_9 E hf
set_option maxRecDepth 20000 in
theorem mX9_where {K : KX} {x0 : Nat} (k0 : isK 9 x0) {h : HH} {rv : Int32} {hv : HH} (hf : fX9_where x0 h = some (rv, hv)) : MR K yX9_where cX9_where 1 (some .int) 1 [.ref (K.2.1 x0)] h (some (.int rv)) hv := by
  refine MR_of (by decide) (Nat.le_of_ble_eq_true rfl) (fun G C E hnl => ?_)
  have C : Ok K G 1 cX9_where RX9 := C
  refine (show At K G 0 [(0, .ref (K.2.1 x0))] [] h from ?_)
  unfold fX9_where at hf
  refine A_aload_n C dX9_where_0 (i := 0) rfl 0 rfl 1 rfl ?_
  refine A_iconst (v := 0) C dX9_where_1 (by decide) 2 rfl ?_
  refine pfRX9_72 C k0 dX9_where_2 5 rfl ?_
  refine A_aload_n C dX9_where_5 (i := 0) rfl 0 rfl 6 rfl ?_
  refine gfRX9_75 C k0 dX9_where_6 9 rfl ?_
  refine A_iconst (v := 4) C dX9_where_9 (by decide) 10 rfl ?_
  refine A_icmp_ne C dX9_where_10 20 (by decide) 13 rfl hf (fun c10 hf => ?_) (fun c10 hf => ?_)
  · refine A_iconst (v := (-1)) C dX9_where_20 (by decide) 21 rfl ?_
    exact A_iret C dX9_where_21 E hf
  refine A_aload_n C dX9_where_13 (i := 0) rfl 0 rfl 14 rfl ?_
  refine gfRX9_13 C k0 dX9_where_14 17 rfl ?_
  refine A_goto C dX9_where_17 21 (by decide) ?_
  exact A_iret C dX9_where_21 E hf
set_option maxRecDepth 20000 in
theorem mX9_isFloor {K : KX} {x0 : Nat} {x1 : Int32} (k0 : isK 9 x0) {h : HH} {rv : Bool} {hv : HH} (hf : fX9_isFloor x0 x1 h = some (rv, hv)) : MR K yX9_isFloor cX9_isFloor 2 (some .boolean) 2 [.ref (K.2.1 x0), .int x1] h (some (.int (b2i rv))) hv := by
  refine MR_of (by decide) (Nat.le_of_ble_eq_true rfl) (fun G C E hnl => ?_)
  have C : Ok K G 2 cX9_isFloor RX9 := C
  refine (show At K G 0 [(0, .ref (K.2.1 x0)), (1, .int x1)] [] h from ?_)
  unfold fX9_isFloor at hf
  refine A_aload_n C dX9_isFloor_0 (i := 0) rfl 0 rfl 1 rfl ?_
  refine gfRX9_204 C k0 dX9_isFloor_1 4 rfl ?_
  refine A_if_eq C dX9_isFloor_4 25 (by decide) 7 rfl hf (fun c4 hf => ?_) (fun c4 hf => ?_)
  · refine A_iconst (v := 0) C dX9_isFloor_25 (by decide) 26 rfl ?_
    exact A_zret (x := false) C dX9_isFloor_26 E hf
  refine A_iload_n C dX9_isFloor_7 (i := 1) rfl 1 rfl 8 rfl ?_
  refine A_iconst (v := 0) C dX9_isFloor_8 (by decide) 9 rfl ?_
  refine A_aload_n C dX9_isFloor_9 (i := 0) rfl 0 rfl 10 rfl ?_
  refine gfRX9_20 C k0 dX9_isFloor_10 13 rfl ?_
  refine A_iconst (v := 0) C dX9_isFloor_13 (by decide) 14 rfl ?_
  refine A_iald C dX9_isFloor_14 (of_9_15 k0) hf 15 rfl (fun hf => ?_)
  refine CSz C dX9_isFloor_15 hf (fun _ _ e => mX9_within  e) lkRX9_170 (by decide) (by decide) rfl [] rfl (Nat.le_of_ble_eq_true rfl) 18 rfl (fun r15 h15 hf => ?_)
  refine A_z_eq C dX9_isFloor_18 25 (by decide) 21 rfl hf (fun c18 hf => ?_) (fun c18 hf => ?_)
  · refine A_iconst (v := 0) C dX9_isFloor_25 (by decide) 26 rfl ?_
    exact A_zret (x := false) C dX9_isFloor_26 E hf
  refine A_iconst (v := 1) C dX9_isFloor_21 (by decide) 22 rfl ?_
  refine A_goto C dX9_isFloor_22 26 (by decide) ?_
  exact A_zret (x := true) C dX9_isFloor_26 E hf
set_option maxRecDepth 20000 in
theorem mX9_isSleeper {K : KX} {x0 : Nat} {x1 : Int32} (k0 : isK 9 x0) {h : HH} {rv : Bool} {hv : HH} (hf : fX9_isSleeper x0 x1 h = some (rv, hv)) : MR K yX9_isSleeper cX9_isSleeper 2 (some .boolean) 2 [.ref (K.2.1 x0), .int x1] h (some (.int (b2i rv))) hv := by
  refine MR_of (by decide) (Nat.le_of_ble_eq_true rfl) (fun G C E hnl => ?_)
  have C : Ok K G 2 cX9_isSleeper RX9 := C
  refine (show At K G 0 [(0, .ref (K.2.1 x0)), (1, .int x1)] [] h from ?_)
  unfold fX9_isSleeper at hf
  refine A_aload_n C dX9_isSleeper_0 (i := 0) rfl 0 rfl 1 rfl ?_
  refine gfRX9_204 C k0 dX9_isSleeper_1 4 rfl ?_
  refine A_if_eq C dX9_isSleeper_4 27 (by decide) 7 rfl hf (fun c4 hf => ?_) (fun c4 hf => ?_)
  · refine A_iconst (v := 0) C dX9_isSleeper_27 (by decide) 28 rfl ?_
    exact A_zret (x := false) C dX9_isSleeper_28 E hf
  refine A_iload_n C dX9_isSleeper_7 (i := 1) rfl 1 rfl 8 rfl ?_
  refine A_iconst (v := 0) C dX9_isSleeper_8 (by decide) 9 rfl ?_
  refine A_aload_n C dX9_isSleeper_9 (i := 0) rfl 0 rfl 10 rfl ?_
  refine gfRX9_20 C k0 dX9_isSleeper_10 13 rfl ?_
  refine A_iconst (v := 4) C dX9_isSleeper_13 (by decide) 14 rfl ?_
  refine A_iald C dX9_isSleeper_14 (of_9_15 k0) hf 15 rfl (fun hf => ?_)
  refine A_iconst (v := 1) C dX9_isSleeper_15 (by decide) 16 rfl ?_
  refine A_isub C dX9_isSleeper_16 17 rfl ?_
  refine CSz C dX9_isSleeper_17 hf (fun _ _ e => mX9_within  e) lkRX9_170 (by decide) (by decide) rfl [] rfl (Nat.le_of_ble_eq_true rfl) 20 rfl (fun r17 h17 hf => ?_)
  refine A_z_eq C dX9_isSleeper_20 27 (by decide) 23 rfl hf (fun c20 hf => ?_) (fun c20 hf => ?_)
  · refine A_iconst (v := 0) C dX9_isSleeper_27 (by decide) 28 rfl ?_
    exact A_zret (x := false) C dX9_isSleeper_28 E hf
  refine A_iconst (v := 1) C dX9_isSleeper_23 (by decide) 24 rfl ?_
  refine A_goto C dX9_isSleeper_24 28 (by decide) ?_
  exact A_zret (x := true) C dX9_isSleeper_28 E hf
set_option maxRecDepth 20000 in
theorem mX9_isHead {K : KX} {x0 : Nat} {x1 : Int32} (k0 : isK 9 x0) {h : HH} {rv : Bool} {hv : HH} (hf : fX9_isHead x0 x1 h = some (rv, hv)) : MR K yX9_isHead cX9_isHead 2 (some .boolean) 2 [.ref (K.2.1 x0), .int x1] h (some (.int (b2i rv))) hv := by
  refine MR_of (by decide) (Nat.le_of_ble_eq_true rfl) (fun G C E hnl => ?_)
  have C : Ok K G 2 cX9_isHead RX9 := C
  refine (show At K G 0 [(0, .ref (K.2.1 x0)), (1, .int x1)] [] h from ?_)
  unfold fX9_isHead at hf
  refine A_aload_n C dX9_isHead_0 (i := 0) rfl 0 rfl 1 rfl ?_
  refine gfRX9_204 C k0 dX9_isHead_1 4 rfl ?_
  refine A_if_eq C dX9_isHead_4 27 (by decide) 7 rfl hf (fun c4 hf => ?_) (fun c4 hf => ?_)
  · refine A_iconst (v := 0) C dX9_isHead_27 (by decide) 28 rfl ?_
    exact A_zret (x := false) C dX9_isHead_28 E hf
  refine A_iload_n C dX9_isHead_7 (i := 1) rfl 1 rfl 8 rfl ?_
  refine A_iconst (v := 0) C dX9_isHead_8 (by decide) 9 rfl ?_
  refine A_aload_n C dX9_isHead_9 (i := 0) rfl 0 rfl 10 rfl ?_
  refine gfRX9_20 C k0 dX9_isHead_10 13 rfl ?_
  refine A_iconst (v := 3) C dX9_isHead_13 (by decide) 14 rfl ?_
  refine A_iald C dX9_isHead_14 (of_9_15 k0) hf 15 rfl (fun hf => ?_)
  refine A_iconst (v := 1) C dX9_isHead_15 (by decide) 16 rfl ?_
  refine A_isub C dX9_isHead_16 17 rfl ?_
  refine CSz C dX9_isHead_17 hf (fun _ _ e => mX9_within  e) lkRX9_170 (by decide) (by decide) rfl [] rfl (Nat.le_of_ble_eq_true rfl) 20 rfl (fun r17 h17 hf => ?_)
  refine A_z_eq C dX9_isHead_20 27 (by decide) 23 rfl hf (fun c20 hf => ?_) (fun c20 hf => ?_)
  · refine A_iconst (v := 0) C dX9_isHead_27 (by decide) 28 rfl ?_
    exact A_zret (x := false) C dX9_isHead_28 E hf
  refine A_iconst (v := 1) C dX9_isHead_23 (by decide) 24 rfl ?_
  refine A_goto C dX9_isHead_24 28 (by decide) ?_
  exact A_zret (x := true) C dX9_isHead_28 E hf
set_option maxRecDepth 20000 in
theorem wX9_goOn_L16 {K : KX} {G : GX} (C : Ok K G 6 cX9_goOn RX9) (hnl : G.2.2.2.2.2.2.2.2.2.2.2.2.2 = 8) {rv : HH} (E : Endd K G none none rv) {x0 : Nat} {x1 : Int64} {k16_79 : Int64 → HH → Option (HH)}  (Hk16_79 : ∀ (x3 : Int64) (h : HH), k16_79 x3 h = some rv → At K G 79 [(0, .ref (K.2.1 x0)), (1, .long x1), (3, .long x3)] [] h) (kx0 : isK 9 x0) : ∀ (self16 : Int64 → Int32 → HH → Option (HH)), (∀ (x3 : Int64) (x5 : Int32) (h : HH), self16 x3 x5 h = some rv → At K G 16 [(0, .ref (K.2.1 x0)), (1, .long x1), (3, .long x3), (5, .int x5)] [] h) → ∀ (x3 : Int64) (x5 : Int32) (h : HH), fX9_goOn_L16 k16_79 x0 x1 self16 x3 x5 h = some rv → At K G 16 [(0, .ref (K.2.1 x0)), (1, .long x1), (3, .long x3), (5, .int x5)] [] h := by
  intro self16 Hself16 x3 x5 h hf
  unfold fX9_goOn_L16 at hf
  refine A_iload C dX9_goOn_16 3 rfl 18 rfl ?_
  refine A_aload_n C dX9_goOn_18 (i := 0) rfl 0 rfl 19 rfl ?_
  refine gfRX9_20 C kx0 dX9_goOn_19 22 rfl ?_
  refine A_bipush (v := 6) C dX9_goOn_22 (by decide) 24 rfl ?_
  refine A_iald C dX9_goOn_24 (of_9_15 kx0) hf 25 rfl (fun hf => ?_)
  refine A_icmp_ge C dX9_goOn_25 79 (by decide) 28 rfl hf (fun c25 hf => ?_) (fun c25 hf => ?_)
  · refine A_sub [0, 1, 2] (lv' := [(0, .ref (K.2.1 x0)), (1, .long x1), (3, .long x3)]) rfl ?_
    exact Hk16_79 _ _ hf
  refine A_aload_n C dX9_goOn_28 (i := 0) rfl 0 rfl 29 rfl ?_
  refine gfRX9_20 C kx0 dX9_goOn_29 32 rfl ?_
  refine A_bipush (v := 100) C dX9_goOn_32 (by decide) 34 rfl ?_
  refine A_iconst (v := 4) C dX9_goOn_34 (by decide) 35 rfl ?_
  refine A_iload C dX9_goOn_35 3 rfl 37 rfl ?_
  refine A_imul C dX9_goOn_37 38 rfl ?_
  refine A_iadd C dX9_goOn_38 39 rfl ?_
  refine A_iconst (v := 2) C dX9_goOn_39 (by decide) 40 rfl ?_
  refine A_iadd C dX9_goOn_40 41 rfl ?_
  refine A_iald C dX9_goOn_41 (of_9_15 kx0) hf 42 rfl (fun hf => ?_)
  refine A_i2l C dX9_goOn_42 43 rfl ?_
  refine A_aload_n C dX9_goOn_43 (i := 0) rfl 0 rfl 44 rfl ?_
  refine CVi C dX9_goOn_44 9 kx0 (by decide) (r := (RX9, TX9, 44)) rfl rfl hf (fun _ _ e => mX9_bottom kx0 e) lkRX9_307 (by decide) (by decide) rfl [.long (((gI h (x0 + 3) (ix (((100 : Int32) + ((4 : Int32) * x5)) + 2)))).toInt64)] rfl (Nat.le_of_ble_eq_true rfl) 47 rfl (fun r44 h44 hf => ?_)
  refine A_i2l C dX9_goOn_47 48 rfl ?_
  refine A_lmul C dX9_goOn_48 49 rfl ?_
  refine A_namL hf (fun y1 hf => ?_)
  refine A_lstore C dX9_goOn_49 [(6, .long y1), (0, .ref (K.2.1 x0)), (1, .long x1), (3, .long x3), (5, .int x5)] (lt_nl hnl (by decide)) rfl 51 rfl ?_
  refine A_lload C dX9_goOn_51 0 rfl 53 rfl ?_
  refine A_aload_n C dX9_goOn_53 (i := 0) rfl 1 rfl 54 rfl ?_
  refine gfRX9_38 C kx0 dX9_goOn_54 57 rfl ?_
  refine A_iconst (v := 0) C dX9_goOn_57 (by decide) 58 rfl ?_
  refine A_lald C dX9_goOn_58 (of_9_21 kx0) hf 59 rfl (fun hf => ?_)
  refine A_l_le C dX9_goOn_59 dX9_goOn_60 73 (by decide) 63 rfl hf (fun c59 hf => ?_) (fun c59 hf => ?_)
  · refine A_iinc (v := (x5 + 1)) C dX9_goOn_73 4 rfl rfl [(5, .int (x5 + 1)), (6, .long y1), (0, .ref (K.2.1 x0)), (1, .long x1), (3, .long x3)] (lt_nl hnl (by decide)) rfl 76 rfl ?_
    refine A_goto C dX9_goOn_76 16 (by decide) ?_
    refine A_sub [2, 3, 4, 0] (lv' := [(0, .ref (K.2.1 x0)), (1, .long x1), (3, .long x3), (5, .int (x5 + 1))]) rfl ?_
    exact Hself16 _ _ _ hf
  refine A_lload C dX9_goOn_63 0 rfl 65 rfl ?_
  refine A_lload_n C dX9_goOn_65 (i := 3) rfl 3 rfl 66 rfl ?_
  refine A_l_ge C dX9_goOn_66 dX9_goOn_67 73 (by decide) 70 rfl hf (fun c66 hf => ?_) (fun c66 hf => ?_)
  · refine A_iinc (v := (x5 + 1)) C dX9_goOn_73 4 rfl rfl [(5, .int (x5 + 1)), (6, .long y1), (0, .ref (K.2.1 x0)), (1, .long x1), (3, .long x3)] (lt_nl hnl (by decide)) rfl 76 rfl ?_
    refine A_goto C dX9_goOn_76 16 (by decide) ?_
    refine A_sub [2, 3, 4, 0] (lv' := [(0, .ref (K.2.1 x0)), (1, .long x1), (3, .long x3), (5, .int (x5 + 1))]) rfl ?_
    exact Hself16 _ _ _ hf
  refine A_lload C dX9_goOn_70 0 rfl 72 rfl ?_
  refine A_lstore_n C dX9_goOn_72 (i := 3) rfl [(3, .long y1), (6, .long y1), (0, .ref (K.2.1 x0)), (1, .long x1), (5, .int x5)] (lt_nl hnl (by decide)) rfl 73 rfl ?_
  refine A_iinc (v := (x5 + 1)) C dX9_goOn_73 4 rfl rfl [(5, .int (x5 + 1)), (3, .long y1), (6, .long y1), (0, .ref (K.2.1 x0)), (1, .long x1)] (lt_nl hnl (by decide)) rfl 76 rfl ?_
  refine A_goto C dX9_goOn_76 16 (by decide) ?_
  refine A_sub [3, 4, 1, 0] (lv' := [(0, .ref (K.2.1 x0)), (1, .long x1), (3, .long y1), (5, .int (x5 + 1))]) rfl ?_
  exact Hself16 _ _ _ hf
set_option maxRecDepth 20000 in
theorem wX9_goOn_L82 {K : KX} {G : GX} (C : Ok K G 6 cX9_goOn RX9) (hnl : G.2.2.2.2.2.2.2.2.2.2.2.2.2 = 8) {rv : HH} (E : Endd K G none none rv) {x0 : Nat} {x1 : Int64} {k82_129 : Int64 → HH → Option (HH)}  (Hk82_129 : ∀ (x3 : Int64) (h : HH), k82_129 x3 h = some rv → At K G 129 [(0, .ref (K.2.1 x0)), (1, .long x1), (3, .long x3)] [] h) (kx0 : isK 9 x0) : ∀ (self82 : Int64 → Int32 → HH → Option (HH)), (∀ (x3 : Int64) (x5 : Int32) (h : HH), self82 x3 x5 h = some rv → At K G 82 [(0, .ref (K.2.1 x0)), (1, .long x1), (3, .long x3), (5, .int x5)] [] h) → ∀ (x3 : Int64) (x5 : Int32) (h : HH), fX9_goOn_L82 k82_129 x0 x1 self82 x3 x5 h = some rv → At K G 82 [(0, .ref (K.2.1 x0)), (1, .long x1), (3, .long x3), (5, .int x5)] [] h := by
  intro self82 Hself82 x3 x5 h hf
  unfold fX9_goOn_L82 at hf
  refine A_iload C dX9_goOn_82 3 rfl 84 rfl ?_
  refine A_aload_n C dX9_goOn_84 (i := 0) rfl 0 rfl 85 rfl ?_
  refine gfRX9_20 C kx0 dX9_goOn_85 88 rfl ?_
  refine A_iconst (v := 4) C dX9_goOn_88 (by decide) 89 rfl ?_
  refine A_iald C dX9_goOn_89 (of_9_15 kx0) hf 90 rfl (fun hf => ?_)
  refine A_icmp_ge C dX9_goOn_90 129 (by decide) 93 rfl hf (fun c90 hf => ?_) (fun c90 hf => ?_)
  · refine A_sub [0, 1, 2] (lv' := [(0, .ref (K.2.1 x0)), (1, .long x1), (3, .long x3)]) rfl ?_
    exact Hk82_129 _ _ hf
  refine A_aload_n C dX9_goOn_93 (i := 0) rfl 0 rfl 94 rfl ?_
  refine A_iload C dX9_goOn_94 3 rfl 96 rfl ?_
  refine CVl C dX9_goOn_96 9 kx0 (by decide) (r := (RX9, TX9, 44)) rfl rfl hf (fun _ _ e => mX9_dueOf kx0 e) lkRX9_325 (by decide) (by decide) rfl [] rfl (Nat.le_of_ble_eq_true rfl) 99 rfl (fun r96 h96 hf => ?_)
  refine A_lstore C dX9_goOn_99 [(6, .long r96), (0, .ref (K.2.1 x0)), (1, .long x1), (3, .long x3), (5, .int x5)] (lt_nl hnl (by decide)) rfl 101 rfl ?_
  refine A_lload C dX9_goOn_101 0 rfl 103 rfl ?_
  refine A_aload_n C dX9_goOn_103 (i := 0) rfl 1 rfl 104 rfl ?_
  refine gfRX9_38 C kx0 dX9_goOn_104 107 rfl ?_
  refine A_iconst (v := 0) C dX9_goOn_107 (by decide) 108 rfl ?_
  refine A_lald C dX9_goOn_108 (of_9_21 kx0) hf 109 rfl (fun hf => ?_)
  refine A_l_le C dX9_goOn_109 dX9_goOn_110 123 (by decide) 113 rfl hf (fun c109 hf => ?_) (fun c109 hf => ?_)
  · refine A_iinc (v := (x5 + 1)) C dX9_goOn_123 4 rfl rfl [(5, .int (x5 + 1)), (6, .long r96), (0, .ref (K.2.1 x0)), (1, .long x1), (3, .long x3)] (lt_nl hnl (by decide)) rfl 126 rfl ?_
    refine A_goto C dX9_goOn_126 82 (by decide) ?_
    refine A_sub [2, 3, 4, 0] (lv' := [(0, .ref (K.2.1 x0)), (1, .long x1), (3, .long x3), (5, .int (x5 + 1))]) rfl ?_
    exact Hself82 _ _ _ hf
  refine A_lload C dX9_goOn_113 0 rfl 115 rfl ?_
  refine A_lload_n C dX9_goOn_115 (i := 3) rfl 3 rfl 116 rfl ?_
  refine A_l_ge C dX9_goOn_116 dX9_goOn_117 123 (by decide) 120 rfl hf (fun c116 hf => ?_) (fun c116 hf => ?_)
  · refine A_iinc (v := (x5 + 1)) C dX9_goOn_123 4 rfl rfl [(5, .int (x5 + 1)), (6, .long r96), (0, .ref (K.2.1 x0)), (1, .long x1), (3, .long x3)] (lt_nl hnl (by decide)) rfl 126 rfl ?_
    refine A_goto C dX9_goOn_126 82 (by decide) ?_
    refine A_sub [2, 3, 4, 0] (lv' := [(0, .ref (K.2.1 x0)), (1, .long x1), (3, .long x3), (5, .int (x5 + 1))]) rfl ?_
    exact Hself82 _ _ _ hf
  refine A_lload C dX9_goOn_120 0 rfl 122 rfl ?_
  refine A_lstore_n C dX9_goOn_122 (i := 3) rfl [(3, .long r96), (6, .long r96), (0, .ref (K.2.1 x0)), (1, .long x1), (5, .int x5)] (lt_nl hnl (by decide)) rfl 123 rfl ?_
  refine A_iinc (v := (x5 + 1)) C dX9_goOn_123 4 rfl rfl [(5, .int (x5 + 1)), (3, .long r96), (6, .long r96), (0, .ref (K.2.1 x0)), (1, .long x1)] (lt_nl hnl (by decide)) rfl 126 rfl ?_
  refine A_goto C dX9_goOn_126 82 (by decide) ?_
  refine A_sub [3, 4, 1, 0] (lv' := [(0, .ref (K.2.1 x0)), (1, .long x1), (3, .long r96), (5, .int (x5 + 1))]) rfl ?_
  exact Hself82 _ _ _ hf
set_option maxRecDepth 20000 in
theorem wX9_goOn_L132 {K : KX} {G : GX} (C : Ok K G 6 cX9_goOn RX9) (hnl : G.2.2.2.2.2.2.2.2.2.2.2.2.2 = 8) {rv : HH} (E : Endd K G none none rv) {x0 : Nat} {x1 : Int64} {x3 : Int64} {k132_180 : HH → Option (HH)}  (Hk132_180 : ∀  (h : HH), k132_180  h = some rv → At K G 180 [(0, .ref (K.2.1 x0)), (1, .long x1), (3, .long x3)] [] h) (kx0 : isK 9 x0) : ∀ (self132 : Int32 → HH → Option (HH)), (∀ (x5 : Int32) (h : HH), self132 x5 h = some rv → At K G 132 [(0, .ref (K.2.1 x0)), (1, .long x1), (3, .long x3), (5, .int x5)] [] h) → ∀ (x5 : Int32) (h : HH), fX9_goOn_L132 k132_180 x0 x1 x3 self132 x5 h = some rv → At K G 132 [(0, .ref (K.2.1 x0)), (1, .long x1), (3, .long x3), (5, .int x5)] [] h := by
  intro self132 Hself132 x5 h hf
  unfold fX9_goOn_L132 at hf
  refine A_iload C dX9_goOn_132 3 rfl 134 rfl ?_
  refine A_aload_n C dX9_goOn_134 (i := 0) rfl 0 rfl 135 rfl ?_
  refine gfRX9_20 C kx0 dX9_goOn_135 138 rfl ?_
  refine A_iconst (v := 4) C dX9_goOn_138 (by decide) 139 rfl ?_
  refine A_iald C dX9_goOn_139 (of_9_15 kx0) hf 140 rfl (fun hf => ?_)
  refine A_icmp_ge C dX9_goOn_140 180 (by decide) 143 rfl hf (fun c140 hf => ?_) (fun c140 hf => ?_)
  · refine A_sub [0, 1, 2] (lv' := [(0, .ref (K.2.1 x0)), (1, .long x1), (3, .long x3)]) rfl ?_
    exact Hk132_180 _ hf
  refine A_aload_n C dX9_goOn_143 (i := 0) rfl 0 rfl 144 rfl ?_
  refine gfRX9_38 C kx0 dX9_goOn_144 147 rfl ?_
  refine A_bipush (v := 6) C dX9_goOn_147 (by decide) 149 rfl ?_
  refine A_iconst (v := 5) C dX9_goOn_149 (by decide) 150 rfl ?_
  refine A_iload C dX9_goOn_150 3 rfl 152 rfl ?_
  refine A_imul C dX9_goOn_152 153 rfl ?_
  refine A_iadd C dX9_goOn_153 154 rfl ?_
  refine A_aload_n C dX9_goOn_154 (i := 0) rfl 0 rfl 155 rfl ?_
  refine A_iload C dX9_goOn_155 3 rfl 157 rfl ?_
  refine A_iconst (v := 0) C dX9_goOn_157 (by decide) 158 rfl ?_
  refine CVi C dX9_goOn_158 9 kx0 (by decide) (r := (RX9, TX9, 44)) rfl rfl hf (fun _ _ e => mX9_its kx0 e) lkRX9_310 (by decide) (by decide) rfl [.int ((6 : Int32) + ((5 : Int32) * x5)), .ref (K.2.1 (x0 + 9))] rfl (Nat.le_of_ble_eq_true rfl) 161 rfl (fun r158 h158 hf => ?_)
  refine A_iadd C dX9_goOn_161 162 rfl ?_
  refine A_dup2 C dX9_goOn_162 rfl rfl 163 rfl ?_
  refine A_lald C dX9_goOn_163 (of_9_21 kx0) hf 164 rfl (fun hf => ?_)
  refine A_lload_n C dX9_goOn_164 (i := 3) rfl 2 rfl 165 rfl ?_
  refine A_aload_n C dX9_goOn_165 (i := 0) rfl 0 rfl 166 rfl ?_
  refine gfRX9_38 C kx0 dX9_goOn_166 169 rfl ?_
  refine A_iconst (v := 0) C dX9_goOn_169 (by decide) 170 rfl ?_
  refine A_lald C dX9_goOn_170 (of_9_21 kx0) hf 171 rfl (fun hf => ?_)
  refine A_lsub C dX9_goOn_171 172 rfl ?_
  refine A_ladd C dX9_goOn_172 173 rfl ?_
  refine A_last C dX9_goOn_173 (of_9_21 kx0) hf 174 rfl (fun hf => ?_)
  refine A_namH hf (fun g2 hf => ?_)
  refine A_iinc (v := (x5 + 1)) C dX9_goOn_174 3 rfl rfl [(5, .int (x5 + 1)), (0, .ref (K.2.1 x0)), (1, .long x1), (3, .long x3)] (lt_nl hnl (by decide)) rfl 177 rfl ?_
  refine A_goto C dX9_goOn_177 132 (by decide) ?_
  refine A_sub [1, 2, 3, 0] (lv' := [(0, .ref (K.2.1 x0)), (1, .long x1), (3, .long x3), (5, .int (x5 + 1))]) rfl ?_
  exact Hself132 _ _ hf
set_option maxRecDepth 20000 in
theorem wX9_goOn_L0 {K : KX} {G : GX} (C : Ok K G 6 cX9_goOn RX9) (hnl : G.2.2.2.2.2.2.2.2.2.2.2.2.2 = 8) {rv : HH} (E : Endd K G none none rv) {x0 : Nat} {x1 : Int64}   (kx0 : isK 9 x0) : ∀ (self0 : HH → Option (HH)), (∀  (h : HH), self0  h = some rv → At K G 0 [(0, .ref (K.2.1 x0)), (1, .long x1)] [] h) → ∀  (h : HH), fX9_goOn_L0 x0 x1 self0 h = some rv → At K G 0 [(0, .ref (K.2.1 x0)), (1, .long x1)] [] h := by
  intro self0 Hself0  h hf
  unfold fX9_goOn_L0 at hf
  refine A_aload_n C dX9_goOn_0 (i := 0) rfl 0 rfl 1 rfl ?_
  refine gfRX9_38 C kx0 dX9_goOn_1 4 rfl ?_
  refine A_iconst (v := 0) C dX9_goOn_4 (by decide) 5 rfl ?_
  refine A_lald C dX9_goOn_5 (of_9_21 kx0) hf 6 rfl (fun hf => ?_)
  refine A_lload_n C dX9_goOn_6 (i := 1) rfl 1 rfl 7 rfl ?_
  refine A_l_ge C dX9_goOn_7 dX9_goOn_8 198 (by decide) 11 rfl hf (fun c7 hf => ?_) (fun c7 hf => ?_)
  · exact A_vret C dX9_goOn_198 E hf
  refine A_lload_n C dX9_goOn_11 (i := 1) rfl 1 rfl 12 rfl ?_
  refine A_lstore_n C dX9_goOn_12 (i := 3) rfl [(3, .long x1), (0, .ref (K.2.1 x0)), (1, .long x1)] (lt_nl hnl (by decide)) rfl 13 rfl ?_
  refine A_iconst (v := 0) C dX9_goOn_13 (by decide) 14 rfl ?_
  refine A_istore C dX9_goOn_14 [(5, .int 0), (3, .long x1), (0, .ref (K.2.1 x0)), (1, .long x1)] (lt_nl hnl (by decide)) rfl 16 rfl ?_
  refine A_sub [2, 3, 1, 0] (lv' := [(0, .ref (K.2.1 x0)), (1, .long x1), (3, .long x1), (5, .int 0)]) rfl ?_
  refine lq2_at (wX9_goOn_L16 C hnl E (fun x3 h hf => ?_) kx0) FU _ _ _ hf
  refine A_iconst (v := 0) C dX9_goOn_79 (by decide) 80 rfl ?_
  refine A_istore C dX9_goOn_80 [(5, .int 0), (0, .ref (K.2.1 x0)), (1, .long x1), (3, .long x3)] (lt_nl hnl (by decide)) rfl 82 rfl ?_
  refine A_sub [1, 2, 3, 0] (lv' := [(0, .ref (K.2.1 x0)), (1, .long x1), (3, .long x3), (5, .int 0)]) rfl ?_
  refine lq2_at (wX9_goOn_L82 C hnl E (fun x3 h hf => ?_) kx0) FU _ _ _ hf
  refine A_iconst (v := 0) C dX9_goOn_129 (by decide) 130 rfl ?_
  refine A_istore C dX9_goOn_130 [(5, .int 0), (0, .ref (K.2.1 x0)), (1, .long x1), (3, .long x3)] (lt_nl hnl (by decide)) rfl 132 rfl ?_
  refine A_sub [1, 2, 3, 0] (lv' := [(0, .ref (K.2.1 x0)), (1, .long x1), (3, .long x3), (5, .int 0)]) rfl ?_
  refine lq1_at (wX9_goOn_L132 C hnl E (fun  h hf => ?_) kx0) FU _ _ hf
  refine A_aload_n C dX9_goOn_180 (i := 0) rfl 0 rfl 181 rfl ?_
  refine gfRX9_38 C kx0 dX9_goOn_181 184 rfl ?_
  refine A_iconst (v := 0) C dX9_goOn_184 (by decide) 185 rfl ?_
  refine A_lload_n C dX9_goOn_185 (i := 3) rfl 2 rfl 186 rfl ?_
  refine A_last C dX9_goOn_186 (of_9_21 kx0) hf 187 rfl (fun hf => ?_)
  refine A_aload_n C dX9_goOn_187 (i := 0) rfl 0 rfl 188 rfl ?_
  refine CVv C dX9_goOn_188 9 kx0 (by decide) (r := (RX9, TX9, 44)) rfl rfl hf (fun _ e => mX9_knocksNow kx0 e) lkRX9_213 (by decide) (by decide) rfl [] rfl (Nat.le_of_ble_eq_true rfl) 191 rfl (fun h188 hf => ?_)
  refine A_aload_n C dX9_goOn_191 (i := 0) rfl 0 rfl 192 rfl ?_
  refine CVv C dX9_goOn_192 9 kx0 (by decide) (r := (RX9, TX9, 44)) rfl rfl hf (fun _ e => mX9_stepsNow kx0 e) lkRX9_216 (by decide) (by decide) rfl [] rfl (Nat.le_of_ble_eq_true rfl) 195 rfl (fun h192 hf => ?_)
  refine A_goto C dX9_goOn_195 0 (by decide) ?_
  refine A_sub [0, 1] (lv' := [(0, .ref (K.2.1 x0)), (1, .long x1)]) rfl ?_
  exact Hself0 _ hf
set_option maxRecDepth 20000 in
theorem mX9_goOn {K : KX} {x0 : Nat} {x1 : Int64} (k0 : isK 9 x0) {h : HH} {rv : HH} (hf : fX9_goOn x0 x1 h = some rv) : MR K yX9_goOn cX9_goOn 8 none 6 [.ref (K.2.1 x0), .long x1] h none rv := by
  refine MR_of (by decide) (Nat.le_of_ble_eq_true rfl) (fun G C E hnl => ?_)
  have C : Ok K G 6 cX9_goOn RX9 := C
  refine (show At K G 0 [(0, .ref (K.2.1 x0)), (1, .long x1)] [] h from ?_)
  unfold fX9_goOn at hf
  refine lq0_at (wX9_goOn_L0 C hnl E k0) FU _ hf
set_option maxRecDepth 20000 in
theorem mX9_save {K : KX} {x0 : Nat} (k0 : isK 9 x0) {h : HH} {rv : HH} (hf : fX9_save x0 h = some rv) : MR K yX9_save cX9_save 1 none 2 [.ref (K.2.1 x0)] h none rv := by
  refine MR_of (by decide) (Nat.le_of_ble_eq_true rfl) (fun G C E hnl => ?_)
  have C : Ok K G 2 cX9_save RX9 := C
  refine (show At K G 0 [(0, .ref (K.2.1 x0))] [] h from ?_)
  unfold fX9_save at hf
  refine A_aload_n C dX9_save_0 (i := 0) rfl 0 rfl 1 rfl ?_
  refine gfRX9_26 C k0 dX9_save_1 4 rfl ?_
  refine A_iconst (v := 0) C dX9_save_4 (by decide) 5 rfl ?_
  refine A_aload_n C dX9_save_5 (i := 0) rfl 0 rfl 6 rfl ?_
  refine gfRX9_35 C k0 dX9_save_6 9 rfl ?_
  refine A_iconst (v := 0) C dX9_save_9 (by decide) 10 rfl ?_
  refine A_bipush (v := 20) C dX9_save_10 (by decide) 12 rfl ?_
  refine CSv C dX9_save_12 hf (fun _ e => mX9_copy (isK_ofA (of_9_17 k0)) (isK_ofA (of_9_20 k0)) e) lkRX9_200 (by decide) (by decide) rfl [] rfl (Nat.le_of_ble_eq_true rfl) 15 rfl (fun h12 hf => ?_)
  refine A_aload_n C dX9_save_15 (i := 0) rfl 0 rfl 16 rfl ?_
  refine gfRX9_38 C k0 dX9_save_16 19 rfl ?_
  refine A_iconst (v := 0) C dX9_save_19 (by decide) 20 rfl ?_
  refine A_aload_n C dX9_save_20 (i := 0) rfl 0 rfl 21 rfl ?_
  refine gfRX9_48 C k0 dX9_save_21 24 rfl ?_
  refine A_iconst (v := 0) C dX9_save_24 (by decide) 25 rfl ?_
  refine CSv C dX9_save_25 hf (fun _ e => mX9_copyLongs (isK_ofA (of_9_21 k0)) (isK_ofA (of_9_24 k0)) e) lkRX9_346 (by decide) (by decide) rfl [] rfl (Nat.le_of_ble_eq_true rfl) 28 rfl (fun h25 hf => ?_)
  exact A_vret C dX9_save_28 E hf
set_option maxRecDepth 20000 in
theorem mX9_bringBack {K : KX} {x0 : Nat} (k0 : isK 9 x0) {h : HH} {rv : HH} (hf : fX9_bringBack x0 h = some rv) : MR K yX9_bringBack cX9_bringBack 1 none 2 [.ref (K.2.1 x0)] h none rv := by
  refine MR_of (by decide) (Nat.le_of_ble_eq_true rfl) (fun G C E hnl => ?_)
  have C : Ok K G 2 cX9_bringBack RX9 := C
  refine (show At K G 0 [(0, .ref (K.2.1 x0))] [] h from ?_)
  unfold fX9_bringBack at hf
  refine A_aload_n C dX9_bringBack_0 (i := 0) rfl 0 rfl 1 rfl ?_
  refine gfRX9_35 C k0 dX9_bringBack_1 4 rfl ?_
  refine A_iconst (v := 0) C dX9_bringBack_4 (by decide) 5 rfl ?_
  refine A_aload_n C dX9_bringBack_5 (i := 0) rfl 0 rfl 6 rfl ?_
  refine gfRX9_26 C k0 dX9_bringBack_6 9 rfl ?_
  refine A_iconst (v := 0) C dX9_bringBack_9 (by decide) 10 rfl ?_
  refine A_bipush (v := 20) C dX9_bringBack_10 (by decide) 12 rfl ?_
  refine CSv C dX9_bringBack_12 hf (fun _ e => mX9_copy (isK_ofA (of_9_20 k0)) (isK_ofA (of_9_17 k0)) e) lkRX9_200 (by decide) (by decide) rfl [] rfl (Nat.le_of_ble_eq_true rfl) 15 rfl (fun h12 hf => ?_)
  refine A_aload_n C dX9_bringBack_15 (i := 0) rfl 0 rfl 16 rfl ?_
  refine gfRX9_48 C k0 dX9_bringBack_16 19 rfl ?_
  refine A_iconst (v := 0) C dX9_bringBack_19 (by decide) 20 rfl ?_
  refine A_aload_n C dX9_bringBack_20 (i := 0) rfl 0 rfl 21 rfl ?_
  refine gfRX9_38 C k0 dX9_bringBack_21 24 rfl ?_
  refine A_iconst (v := 0) C dX9_bringBack_24 (by decide) 25 rfl ?_
  refine CSv C dX9_bringBack_25 hf (fun _ e => mX9_copyLongs (isK_ofA (of_9_24 k0)) (isK_ofA (of_9_21 k0)) e) lkRX9_346 (by decide) (by decide) rfl [] rfl (Nat.le_of_ble_eq_true rfl) 28 rfl (fun h25 hf => ?_)
  exact A_vret C dX9_bringBack_28 E hf
set_option maxRecDepth 20000 in
theorem mX9_quick {K : KX} {x0 : Nat} {x1 : Int32} (k0 : isK 9 x0) {h : HH} {rv : Int32} {hv : HH} (hf : fX9_quick x0 x1 h = some (rv, hv)) : MR K yX9_quick cX9_quick 2 (some .int) 3 [.ref (K.2.1 x0), .int x1] h (some (.int rv)) hv := by
  refine MR_of (by decide) (Nat.le_of_ble_eq_true rfl) (fun G C E hnl => ?_)
  have C : Ok K G 3 cX9_quick RX9 := C
  refine (show At K G 0 [(0, .ref (K.2.1 x0)), (1, .int x1)] [] h from ?_)
  unfold fX9_quick at hf
  refine A_aload_n C dX9_quick_0 (i := 0) rfl 0 rfl 1 rfl ?_
  refine CVv C dX9_quick_1 9 k0 (by decide) (r := (RX9, TX9, 44)) rfl rfl hf (fun _ e => mX9_good k0 e) lkRX9_191 (by decide) (by decide) rfl [] rfl (Nat.le_of_ble_eq_true rfl) 4 rfl (fun h1 hf => ?_)
  refine A_aload_n C dX9_quick_4 (i := 0) rfl 0 rfl 5 rfl ?_
  refine A_iload_n C dX9_quick_5 (i := 1) rfl 1 rfl 6 rfl ?_
  refine CVz C dX9_quick_6 9 k0 (by decide) (r := (RX9, TX9, 44)) rfl rfl hf (fun _ _ e => mX9_isFloor k0 e) lkRX9_350 (by decide) (by decide) rfl [] rfl (Nat.le_of_ble_eq_true rfl) 9 rfl (fun r6 h6 hf => ?_)
  refine A_z_eq C dX9_quick_9 20 (by decide) 12 rfl hf (fun c9 hf => ?_) (fun c9 hf => ?_)
  · refine A_aload_n C dX9_quick_20 (i := 0) rfl 0 rfl 21 rfl ?_
    refine A_iconst (v := 1) C dX9_quick_21 (by decide) 22 rfl ?_
    refine CVi C dX9_quick_22 9 k0 (by decide) (r := (RX9, TX9, 44)) rfl rfl hf (fun _ _ e => mX9_no k0 e) lkRX9_194 (by decide) (by decide) rfl [] rfl (Nat.le_of_ble_eq_true rfl) 25 rfl (fun r22 h22 hf => ?_)
    exact A_iret C dX9_quick_25 E hf
  refine A_aload_n C dX9_quick_12 (i := 0) rfl 0 rfl 13 rfl ?_
  refine A_iload_n C dX9_quick_13 (i := 1) rfl 1 rfl 14 rfl ?_
  refine CVi C dX9_quick_14 9 k0 (by decide) (r := (RX9, TX9, 44)) rfl rfl hf (fun _ _ e => mX9_quickOf k0 e) lkRX9_304 (by decide) (by decide) rfl [] rfl (Nat.le_of_ble_eq_true rfl) 17 rfl (fun r14 h14 hf => ?_)
  refine A_goto C dX9_quick_17 25 (by decide) ?_
  exact A_iret C dX9_quick_25 E hf
set_option maxRecDepth 20000 in
theorem mX9_clock {K : KX} {x0 : Nat} {x1 : Int32} (k0 : isK 9 x0) {h : HH} {rv : Int64} {hv : HH} (hf : fX9_clock x0 x1 h = some (rv, hv)) : MR K yX9_clock cX9_clock 2 (some .long) 4 [.ref (K.2.1 x0), .int x1] h (some (.long rv)) hv := by
  refine MR_of (by decide) (Nat.le_of_ble_eq_true rfl) (fun G C E hnl => ?_)
  have C : Ok K G 4 cX9_clock RX9 := C
  refine (show At K G 0 [(0, .ref (K.2.1 x0)), (1, .int x1)] [] h from ?_)
  unfold fX9_clock at hf
  refine A_aload_n C dX9_clock_0 (i := 0) rfl 0 rfl 1 rfl ?_
  refine CVv C dX9_clock_1 9 k0 (by decide) (r := (RX9, TX9, 44)) rfl rfl hf (fun _ e => mX9_good k0 e) lkRX9_191 (by decide) (by decide) rfl [] rfl (Nat.le_of_ble_eq_true rfl) 4 rfl (fun h1 hf => ?_)
  refine A_aload_n C dX9_clock_4 (i := 0) rfl 0 rfl 5 rfl ?_
  refine A_iload_n C dX9_clock_5 (i := 1) rfl 1 rfl 6 rfl ?_
  refine CVz C dX9_clock_6 9 k0 (by decide) (r := (RX9, TX9, 44)) rfl rfl hf (fun _ _ e => mX9_isFloor k0 e) lkRX9_350 (by decide) (by decide) rfl [] rfl (Nat.le_of_ble_eq_true rfl) 9 rfl (fun r6 h6 hf => ?_)
  refine A_z_eq C dX9_clock_9 27 (by decide) 12 rfl hf (fun c9 hf => ?_) (fun c9 hf => ?_)
  · refine A_aload_n C dX9_clock_27 (i := 0) rfl 0 rfl 28 rfl ?_
    refine A_iconst (v := 1) C dX9_clock_28 (by decide) 29 rfl ?_
    refine CVi C dX9_clock_29 9 k0 (by decide) (r := (RX9, TX9, 44)) rfl rfl hf (fun _ _ e => mX9_no k0 e) lkRX9_194 (by decide) (by decide) rfl [] rfl (Nat.le_of_ble_eq_true rfl) 32 rfl (fun r29 h29 hf => ?_)
    refine A_i2l C dX9_clock_32 33 rfl ?_
    exact A_lret C dX9_clock_33 E hf
  refine A_aload_n C dX9_clock_12 (i := 0) rfl 0 rfl 13 rfl ?_
  refine gfRX9_38 C k0 dX9_clock_13 16 rfl ?_
  refine A_iconst (v := 0) C dX9_clock_16 (by decide) 17 rfl ?_
  refine A_lald C dX9_clock_17 (of_9_21 k0) hf 18 rfl (fun hf => ?_)
  refine A_aload_n C dX9_clock_18 (i := 0) rfl 0 rfl 19 rfl ?_
  refine A_iload_n C dX9_clock_19 (i := 1) rfl 1 rfl 20 rfl ?_
  refine CVl C dX9_clock_20 9 k0 (by decide) (r := (RX9, TX9, 44)) rfl rfl hf (fun _ _ e => mX9_minute k0 e) lkRX9_318 (by decide) (by decide) rfl [.long (gL h6 (x0 + 9) (ix 0))] rfl (Nat.le_of_ble_eq_true rfl) 23 rfl (fun r20 h20 hf => ?_)
  refine A_ldivG C dX9_clock_23 hf 24 rfl (fun hf => ?_)
  refine A_goto C dX9_clock_24 33 (by decide) ?_
  exact A_lret C dX9_clock_33 E hf
set_option maxRecDepth 20000 in
theorem mX9_ticks {K : KX} {x0 : Nat} (k0 : isK 9 x0) {h : HH} {rv : Int64} {hv : HH} (hf : fX9_ticks x0 h = some (rv, hv)) : MR K yX9_ticks cX9_ticks 1 (some .long) 2 [.ref (K.2.1 x0)] h (some (.long rv)) hv := by
  refine MR_of (by decide) (Nat.le_of_ble_eq_true rfl) (fun G C E hnl => ?_)
  have C : Ok K G 2 cX9_ticks RX9 := C
  refine (show At K G 0 [(0, .ref (K.2.1 x0))] [] h from ?_)
  unfold fX9_ticks at hf
  refine A_aload_n C dX9_ticks_0 (i := 0) rfl 0 rfl 1 rfl ?_
  refine CVv C dX9_ticks_1 9 k0 (by decide) (r := (RX9, TX9, 44)) rfl rfl hf (fun _ e => mX9_good k0 e) lkRX9_191 (by decide) (by decide) rfl [] rfl (Nat.le_of_ble_eq_true rfl) 4 rfl (fun h1 hf => ?_)
  refine A_aload_n C dX9_ticks_4 (i := 0) rfl 0 rfl 5 rfl ?_
  refine gfRX9_204 C k0 dX9_ticks_5 8 rfl ?_
  refine A_if_eq C dX9_ticks_8 20 (by decide) 11 rfl hf (fun c8 hf => ?_) (fun c8 hf => ?_)
  · refine A_aload_n C dX9_ticks_20 (i := 0) rfl 0 rfl 21 rfl ?_
    refine A_iconst (v := 1) C dX9_ticks_21 (by decide) 22 rfl ?_
    refine CVi C dX9_ticks_22 9 k0 (by decide) (r := (RX9, TX9, 44)) rfl rfl hf (fun _ _ e => mX9_no k0 e) lkRX9_194 (by decide) (by decide) rfl [] rfl (Nat.le_of_ble_eq_true rfl) 25 rfl (fun r22 h22 hf => ?_)
    refine A_i2l C dX9_ticks_25 26 rfl ?_
    exact A_lret C dX9_ticks_26 E hf
  refine A_aload_n C dX9_ticks_11 (i := 0) rfl 0 rfl 12 rfl ?_
  refine gfRX9_38 C k0 dX9_ticks_12 15 rfl ?_
  refine A_iconst (v := 0) C dX9_ticks_15 (by decide) 16 rfl ?_
  refine A_lald C dX9_ticks_16 (of_9_21 k0) hf 17 rfl (fun hf => ?_)
  refine A_goto C dX9_ticks_17 26 (by decide) ?_
  exact A_lret C dX9_ticks_26 E hf
set_option maxRecDepth 20000 in
theorem mX9_sleeper {K : KX} {x0 : Nat} {x1 : Int32} {x2 : Int32} (k0 : isK 9 x0) {h : HH} {rv : Int32} {hv : HH} (hf : fX9_sleeper x0 x1 x2 h = some (rv, hv)) : MR K yX9_sleeper cX9_sleeper 3 (some .int) 4 [.ref (K.2.1 x0), .int x1, .int x2] h (some (.int rv)) hv := by
  refine MR_of (by decide) (Nat.le_of_ble_eq_true rfl) (fun G C E hnl => ?_)
  have C : Ok K G 4 cX9_sleeper RX9 := C
  refine (show At K G 0 [(0, .ref (K.2.1 x0)), (1, .int x1), (2, .int x2)] [] h from ?_)
  unfold fX9_sleeper at hf
  refine A_aload_n C dX9_sleeper_0 (i := 0) rfl 0 rfl 1 rfl ?_
  refine CVv C dX9_sleeper_1 9 k0 (by decide) (r := (RX9, TX9, 44)) rfl rfl hf (fun _ e => mX9_good k0 e) lkRX9_191 (by decide) (by decide) rfl [] rfl (Nat.le_of_ble_eq_true rfl) 4 rfl (fun h1 hf => ?_)
  refine A_aload_n C dX9_sleeper_4 (i := 0) rfl 0 rfl 5 rfl ?_
  refine A_iload_n C dX9_sleeper_5 (i := 1) rfl 1 rfl 6 rfl ?_
  refine CVz C dX9_sleeper_6 9 k0 (by decide) (r := (RX9, TX9, 44)) rfl rfl hf (fun _ _ e => mX9_isSleeper k0 e) lkRX9_353 (by decide) (by decide) rfl [] rfl (Nat.le_of_ble_eq_true rfl) 9 rfl (fun r6 h6 hf => ?_)
  refine A_z_ne C dX9_sleeper_9 18 (by decide) 12 rfl hf (fun c9 hf => ?_) (fun c9 hf => ?_)
  · refine A_iload_n C dX9_sleeper_18 (i := 2) rfl 2 rfl 19 rfl ?_
    by_cases e19_0 : x2 = 0
    · rw [if_pos e19_0] at hf
      refine A_swIn (v := 0) (off := 41) C dX9_sleeper_19 e19_0 (by decide) (by decide) (by decide) 60 (by decide) ?_
      refine A_aload_n C dX9_sleeper_60 (i := 0) rfl 0 rfl 61 rfl ?_
      refine A_iload_n C dX9_sleeper_61 (i := 1) rfl 1 rfl 62 rfl ?_
      refine A_iconst (v := 0) C dX9_sleeper_62 (by decide) 63 rfl ?_
      refine CVi C dX9_sleeper_63 9 k0 (by decide) (r := (RX9, TX9, 44)) rfl rfl hf (fun _ _ e => mX9_its k0 e) lkRX9_310 (by decide) (by decide) rfl [] rfl (Nat.le_of_ble_eq_true rfl) 66 rfl (fun r63 h63 hf => ?_)
      exact A_iret C dX9_sleeper_66 E hf
    rw [if_neg e19_0] at hf
    by_cases e19_1 : x2 = 1
    · rw [if_pos e19_1] at hf
      refine A_swIn (v := 1) (off := 48) C dX9_sleeper_19 e19_1 (by decide) (by decide) (by decide) 67 (by decide) ?_
      refine A_aload_n C dX9_sleeper_67 (i := 0) rfl 0 rfl 68 rfl ?_
      refine A_iload_n C dX9_sleeper_68 (i := 1) rfl 1 rfl 69 rfl ?_
      refine A_iconst (v := 1) C dX9_sleeper_69 (by decide) 70 rfl ?_
      refine CVi C dX9_sleeper_70 9 k0 (by decide) (r := (RX9, TX9, 44)) rfl rfl hf (fun _ _ e => mX9_its k0 e) lkRX9_310 (by decide) (by decide) rfl [] rfl (Nat.le_of_ble_eq_true rfl) 73 rfl (fun r70 h70 hf => ?_)
      refine A_if_ne C dX9_sleeper_73 81 (by decide) 76 rfl hf (fun c73 hf => ?_) (fun c73 hf => ?_)
      · refine A_aload_n C dX9_sleeper_81 (i := 0) rfl 0 rfl 82 rfl ?_
        refine A_iload_n C dX9_sleeper_82 (i := 1) rfl 1 rfl 83 rfl ?_
        refine A_iconst (v := 1) C dX9_sleeper_83 (by decide) 84 rfl ?_
        refine CVi C dX9_sleeper_84 9 k0 (by decide) (r := (RX9, TX9, 44)) rfl rfl hf (fun _ _ e => mX9_its k0 e) lkRX9_310 (by decide) (by decide) rfl [] rfl (Nat.le_of_ble_eq_true rfl) 87 rfl (fun r84 h84 hf => ?_)
        refine A_iconst (v := 1) C dX9_sleeper_87 (by decide) 88 rfl ?_
        refine A_isub C dX9_sleeper_88 89 rfl ?_
        exact A_iret C dX9_sleeper_89 E hf
      refine A_bipush (v := (-2)) C dX9_sleeper_76 (by decide) 78 rfl ?_
      refine A_goto C dX9_sleeper_78 89 (by decide) ?_
      exact A_iret C dX9_sleeper_89 E hf
    rw [if_neg e19_1] at hf
    by_cases e19_2 : x2 = 2
    · rw [if_pos e19_2] at hf
      refine A_swIn (v := 2) (off := 71) C dX9_sleeper_19 e19_2 (by decide) (by decide) (by decide) 90 (by decide) ?_
      refine A_aload_n C dX9_sleeper_90 (i := 0) rfl 0 rfl 91 rfl ?_
      refine A_iload_n C dX9_sleeper_91 (i := 1) rfl 1 rfl 92 rfl ?_
      refine A_iconst (v := 2) C dX9_sleeper_92 (by decide) 93 rfl ?_
      refine CVi C dX9_sleeper_93 9 k0 (by decide) (r := (RX9, TX9, 44)) rfl rfl hf (fun _ _ e => mX9_its k0 e) lkRX9_310 (by decide) (by decide) rfl [] rfl (Nat.le_of_ble_eq_true rfl) 96 rfl (fun r93 h93 hf => ?_)
      exact A_iret C dX9_sleeper_96 E hf
    rw [if_neg e19_2] at hf
    by_cases e19_3 : x2 = 3
    · rw [if_pos e19_3] at hf
      refine A_swIn (v := 3) (off := 78) C dX9_sleeper_19 e19_3 (by decide) (by decide) (by decide) 97 (by decide) ?_
      refine A_aload_n C dX9_sleeper_97 (i := 0) rfl 0 rfl 98 rfl ?_
      refine gfRX9_38 C k0 dX9_sleeper_98 101 rfl ?_
      refine A_iconst (v := 0) C dX9_sleeper_101 (by decide) 102 rfl ?_
      refine A_lald C dX9_sleeper_102 (of_9_21 k0) hf 103 rfl (fun hf => ?_)
      refine A_aload_n C dX9_sleeper_103 (i := 0) rfl 0 rfl 104 rfl ?_
      refine gfRX9_38 C k0 dX9_sleeper_104 107 rfl ?_
      refine A_iconst (v := 1) C dX9_sleeper_107 (by decide) 108 rfl ?_
      refine A_iload_n C dX9_sleeper_108 (i := 1) rfl 1 rfl 109 rfl ?_
      refine A_iadd C dX9_sleeper_109 110 rfl ?_
      refine A_lald C dX9_sleeper_110 (of_9_21 k0) hf 111 rfl (fun hf => ?_)
      refine A_lsub C dX9_sleeper_111 112 rfl ?_
      refine A_aload_n C dX9_sleeper_112 (i := 0) rfl 0 rfl 113 rfl ?_
      refine A_aload_n C dX9_sleeper_113 (i := 0) rfl 0 rfl 114 rfl ?_
      refine A_iload_n C dX9_sleeper_114 (i := 1) rfl 1 rfl 115 rfl ?_
      refine A_iconst (v := 0) C dX9_sleeper_115 (by decide) 116 rfl ?_
      refine CVi C dX9_sleeper_116 9 k0 (by decide) (r := (RX9, TX9, 44)) rfl rfl hf (fun _ _ e => mX9_its k0 e) lkRX9_310 (by decide) (by decide) rfl [.ref (K.2.1 x0), .long ((gL h6 (x0 + 9) (ix 0)) - (gL h6 (x0 + 9) (ix ((1 : Int32) + x1))))] rfl (Nat.le_of_ble_eq_true rfl) 119 rfl (fun r116 h116 hf => ?_)
      refine CVl C dX9_sleeper_119 9 k0 (by decide) (r := (RX9, TX9, 44)) rfl rfl hf (fun _ _ e => mX9_minute k0 e) lkRX9_318 (by decide) (by decide) rfl [.long ((gL h6 (x0 + 9) (ix 0)) - (gL h6 (x0 + 9) (ix ((1 : Int32) + x1))))] rfl (Nat.le_of_ble_eq_true rfl) 122 rfl (fun r119 h119 hf => ?_)
      refine A_ldivG C dX9_sleeper_122 hf 123 rfl (fun hf => ?_)
      refine A_l2i C dX9_sleeper_123 124 rfl ?_
      exact A_iret C dX9_sleeper_124 E hf
    rw [if_neg e19_3] at hf
    by_cases e19_4 : x2 = 4
    · rw [if_pos e19_4] at hf
      refine A_swIn (v := 4) (off := 106) C dX9_sleeper_19 e19_4 (by decide) (by decide) (by decide) 125 (by decide) ?_
      refine A_aload_n C dX9_sleeper_125 (i := 0) rfl 0 rfl 126 rfl ?_
      refine A_iload_n C dX9_sleeper_126 (i := 1) rfl 1 rfl 127 rfl ?_
      refine A_iconst (v := 0) C dX9_sleeper_127 (by decide) 128 rfl ?_
      refine CVi C dX9_sleeper_128 9 k0 (by decide) (r := (RX9, TX9, 44)) rfl rfl hf (fun _ _ e => mX9_of k0 e) lkRX9_335 (by decide) (by decide) rfl [] rfl (Nat.le_of_ble_eq_true rfl) 131 rfl (fun r128 h128 hf => ?_)
      exact A_iret C dX9_sleeper_131 E hf
    rw [if_neg e19_4] at hf
    by_cases e19_5 : x2 = 5
    · rw [if_pos e19_5] at hf
      refine A_swIn (v := 5) (off := 113) C dX9_sleeper_19 e19_5 (by decide) (by decide) (by decide) 132 (by decide) ?_
      refine A_aload_n C dX9_sleeper_132 (i := 0) rfl 0 rfl 133 rfl ?_
      refine A_iload_n C dX9_sleeper_133 (i := 1) rfl 1 rfl 134 rfl ?_
      refine A_iconst (v := 1) C dX9_sleeper_134 (by decide) 135 rfl ?_
      refine CVi C dX9_sleeper_135 9 k0 (by decide) (r := (RX9, TX9, 44)) rfl rfl hf (fun _ _ e => mX9_of k0 e) lkRX9_335 (by decide) (by decide) rfl [] rfl (Nat.le_of_ble_eq_true rfl) 138 rfl (fun r135 h135 hf => ?_)
      exact A_iret C dX9_sleeper_138 E hf
    rw [if_neg e19_5] at hf
    by_cases e19_6 : x2 = 6
    · rw [if_pos e19_6] at hf
      refine A_swIn (v := 6) (off := 120) C dX9_sleeper_19 e19_6 (by decide) (by decide) (by decide) 139 (by decide) ?_
      refine A_aload_n C dX9_sleeper_139 (i := 0) rfl 0 rfl 140 rfl ?_
      refine A_iload_n C dX9_sleeper_140 (i := 1) rfl 1 rfl 141 rfl ?_
      refine A_iconst (v := 4) C dX9_sleeper_141 (by decide) 142 rfl ?_
      refine CVi C dX9_sleeper_142 9 k0 (by decide) (r := (RX9, TX9, 44)) rfl rfl hf (fun _ _ e => mX9_of k0 e) lkRX9_335 (by decide) (by decide) rfl [] rfl (Nat.le_of_ble_eq_true rfl) 145 rfl (fun r142 h142 hf => ?_)
      refine A_if_ne C dX9_sleeper_145 153 (by decide) 148 rfl hf (fun c145 hf => ?_) (fun c145 hf => ?_)
      · refine A_aload_n C dX9_sleeper_153 (i := 0) rfl 0 rfl 154 rfl ?_
        refine A_iload_n C dX9_sleeper_154 (i := 1) rfl 1 rfl 155 rfl ?_
        refine A_iconst (v := 4) C dX9_sleeper_155 (by decide) 156 rfl ?_
        refine CVi C dX9_sleeper_156 9 k0 (by decide) (r := (RX9, TX9, 44)) rfl rfl hf (fun _ _ e => mX9_of k0 e) lkRX9_335 (by decide) (by decide) rfl [] rfl (Nat.le_of_ble_eq_true rfl) 159 rfl (fun r156 h156 hf => ?_)
        refine A_iconst (v := 1) C dX9_sleeper_159 (by decide) 160 rfl ?_
        refine A_isub C dX9_sleeper_160 161 rfl ?_
        exact A_iret C dX9_sleeper_161 E hf
      refine A_bipush (v := (-2)) C dX9_sleeper_148 (by decide) 150 rfl ?_
      refine A_goto C dX9_sleeper_150 161 (by decide) ?_
      exact A_iret C dX9_sleeper_161 E hf
    rw [if_neg e19_6] at hf
    refine A_swOut C dX9_sleeper_19 (sw_out 0 7 (by decide) (fun j hj => by
      match j, hj with
      | 0, _ => exact e19_0
      | 1, _ => exact e19_1
      | 2, _ => exact e19_2
      | 3, _ => exact e19_3
      | 4, _ => exact e19_4
      | 5, _ => exact e19_5
      | 6, _ => exact e19_6
      | j + 7, hj => exact absurd hj (by omega))) 162 (by decide) ?_
    refine A_aload_n C dX9_sleeper_162 (i := 0) rfl 0 rfl 163 rfl ?_
    refine A_iconst (v := 1) C dX9_sleeper_163 (by decide) 164 rfl ?_
    refine CVi C dX9_sleeper_164 9 k0 (by decide) (r := (RX9, TX9, 44)) rfl rfl hf (fun _ _ e => mX9_no k0 e) lkRX9_194 (by decide) (by decide) rfl [] rfl (Nat.le_of_ble_eq_true rfl) 167 rfl (fun r164 h164 hf => ?_)
    exact A_iret C dX9_sleeper_167 E hf
  refine A_aload_n C dX9_sleeper_12 (i := 0) rfl 0 rfl 13 rfl ?_
  refine A_iconst (v := 1) C dX9_sleeper_13 (by decide) 14 rfl ?_
  refine CVi C dX9_sleeper_14 9 k0 (by decide) (r := (RX9, TX9, 44)) rfl rfl hf (fun _ _ e => mX9_no k0 e) lkRX9_194 (by decide) (by decide) rfl [] rfl (Nat.le_of_ble_eq_true rfl) 17 rfl (fun r14 h14 hf => ?_)
  exact A_iret C dX9_sleeper_17 E hf
set_option maxRecDepth 20000 in
theorem wX9_lived_L24 {K : KX} {G : GX} (C : Ok K G 3 cX9_lived RX9) (hnl : G.2.2.2.2.2.2.2.2.2.2.2.2.2 = 6) {rv : Int64} {hv : HH} (E : Endd K G (some .long) (some (.long rv)) hv) {x0 : Nat} {x1 : Int32} {x2 : Bool}   (kx0 : isK 9 x0) : ∀ (self24 : Int64 → Int32 → HH → Option (Int64 × HH)), (∀ (x3 : Int64) (x5 : Int32) (h : HH), self24 x3 x5 h = some (rv, hv) → At K G 24 [(0, .ref (K.2.1 x0)), (1, .int x1), (2, .int (b2i x2)), (3, .long x3), (5, .int x5)] [] h) → ∀ (x3 : Int64) (x5 : Int32) (h : HH), fX9_lived_L24 x0 x1 x2 self24 x3 x5 h = some (rv, hv) → At K G 24 [(0, .ref (K.2.1 x0)), (1, .int x1), (2, .int (b2i x2)), (3, .long x3), (5, .int x5)] [] h := by
  intro self24 Hself24 x3 x5 h hf
  unfold fX9_lived_L24 at hf
  refine A_iload C dX9_lived_24 4 rfl 26 rfl ?_
  refine A_aload_n C dX9_lived_26 (i := 0) rfl 0 rfl 27 rfl ?_
  refine gfRX9_20 C kx0 dX9_lived_27 30 rfl ?_
  refine A_iconst (v := 0) C dX9_lived_30 (by decide) 31 rfl ?_
  refine A_iald C dX9_lived_31 (of_9_15 kx0) hf 32 rfl (fun hf => ?_)
  refine A_icmp_gt C dX9_lived_32 66 (by decide) 35 rfl hf (fun c32 hf => ?_) (fun c32 hf => ?_)
  · refine A_lload_n C dX9_lived_66 (i := 3) rfl 3 rfl 67 rfl ?_
    refine A_aload_n C dX9_lived_67 (i := 0) rfl 0 rfl 68 rfl ?_
    refine CVi C dX9_lived_68 9 kx0 (by decide) (r := (RX9, TX9, 44)) rfl rfl hf (fun _ _ e => mX9_bottom kx0 e) lkRX9_307 (by decide) (by decide) rfl [.long x3] rfl (Nat.le_of_ble_eq_true rfl) 71 rfl (fun r68 h68 hf => ?_)
    refine A_i2l C dX9_lived_71 72 rfl ?_
    refine A_iload_n C dX9_lived_72 (i := 2) rfl 2 rfl 73 rfl ?_
    refine CSl C dX9_lived_73 hf (fun _ _ e => mX9_lowest  e) lkRX9_356 (by decide) (by decide) rfl [] rfl (Nat.le_of_ble_eq_true rfl) 76 rfl (fun r73 h73 hf => ?_)
    exact A_lret C dX9_lived_76 E hf
  refine A_lload_n C dX9_lived_35 (i := 3) rfl 3 rfl 36 rfl ?_
  refine A_aload_n C dX9_lived_36 (i := 0) rfl 0 rfl 37 rfl ?_
  refine gfRX9_38 C kx0 dX9_lived_37 40 rfl ?_
  refine A_bipush (v := 6) C dX9_lived_40 (by decide) 42 rfl ?_
  refine A_iconst (v := 5) C dX9_lived_42 (by decide) 43 rfl ?_
  refine A_iload_n C dX9_lived_43 (i := 1) rfl 1 rfl 44 rfl ?_
  refine A_imul C dX9_lived_44 45 rfl ?_
  refine A_iadd C dX9_lived_45 46 rfl ?_
  refine A_iload C dX9_lived_46 4 rfl 48 rfl ?_
  refine A_iadd C dX9_lived_48 49 rfl ?_
  refine A_lald C dX9_lived_49 (of_9_21 kx0) hf 50 rfl (fun hf => ?_)
  refine A_aload_n C dX9_lived_50 (i := 0) rfl 0 rfl 51 rfl ?_
  refine A_iload C dX9_lived_51 4 rfl 53 rfl ?_
  refine CVi C dX9_lived_53 9 kx0 (by decide) (r := (RX9, TX9, 44)) rfl rfl hf (fun _ _ e => mX9_quickOf kx0 e) lkRX9_304 (by decide) (by decide) rfl [.long (gL h (x0 + 9) (ix (((6 : Int32) + ((5 : Int32) * x1)) + x5))), .long x3] rfl (Nat.le_of_ble_eq_true rfl) 56 rfl (fun r53 h53 hf => ?_)
  refine A_i2l C dX9_lived_56 57 rfl ?_
  refine A_lmul C dX9_lived_57 58 rfl ?_
  refine A_ladd C dX9_lived_58 59 rfl ?_
  refine A_namL hf (fun y1 hf => ?_)
  refine A_lstore_n C dX9_lived_59 (i := 3) rfl [(3, .long y1), (0, .ref (K.2.1 x0)), (1, .int x1), (2, .int (b2i x2)), (5, .int x5)] (lt_nl hnl (by decide)) rfl 60 rfl ?_
  refine A_iinc (v := (x5 + 1)) C dX9_lived_60 4 rfl rfl [(5, .int (x5 + 1)), (3, .long y1), (0, .ref (K.2.1 x0)), (1, .int x1), (2, .int (b2i x2))] (lt_nl hnl (by decide)) rfl 63 rfl ?_
  refine A_goto C dX9_lived_63 24 (by decide) ?_
  refine A_sub [2, 3, 4, 1, 0] (lv' := [(0, .ref (K.2.1 x0)), (1, .int x1), (2, .int (b2i x2)), (3, .long y1), (5, .int (x5 + 1))]) rfl ?_
  exact Hself24 _ _ _ hf
set_option maxRecDepth 20000 in
theorem mX9_lived {K : KX} {x0 : Nat} {x1 : Int32} {x2 : Bool} (k0 : isK 9 x0) {h : HH} {rv : Int64} {hv : HH} (hf : fX9_lived x0 x1 x2 h = some (rv, hv)) : MR K yX9_lived cX9_lived 6 (some .long) 3 [.ref (K.2.1 x0), .int x1, .int (b2i x2)] h (some (.long rv)) hv := by
  refine MR_of (by decide) (Nat.le_of_ble_eq_true rfl) (fun G C E hnl => ?_)
  have C : Ok K G 3 cX9_lived RX9 := C
  refine (show At K G 0 [(0, .ref (K.2.1 x0)), (1, .int x1), (2, .int (b2i x2))] [] h from ?_)
  unfold fX9_lived at hf
  refine A_aload_n C dX9_lived_0 (i := 0) rfl 0 rfl 1 rfl ?_
  refine CVv C dX9_lived_1 9 k0 (by decide) (r := (RX9, TX9, 44)) rfl rfl hf (fun _ e => mX9_good k0 e) lkRX9_191 (by decide) (by decide) rfl [] rfl (Nat.le_of_ble_eq_true rfl) 4 rfl (fun h1 hf => ?_)
  refine A_aload_n C dX9_lived_4 (i := 0) rfl 0 rfl 5 rfl ?_
  refine A_iload_n C dX9_lived_5 (i := 1) rfl 1 rfl 6 rfl ?_
  refine CVz C dX9_lived_6 9 k0 (by decide) (r := (RX9, TX9, 44)) rfl rfl hf (fun _ _ e => mX9_isSleeper k0 e) lkRX9_353 (by decide) (by decide) rfl [] rfl (Nat.le_of_ble_eq_true rfl) 9 rfl (fun r6 h6 hf => ?_)
  refine A_z_ne C dX9_lived_9 19 (by decide) 12 rfl hf (fun c9 hf => ?_) (fun c9 hf => ?_)
  · refine A_lconst (v := 0) C dX9_lived_19 (by decide) 20 rfl ?_
    refine A_lstore_n C dX9_lived_20 (i := 3) rfl [(3, .long 0), (0, .ref (K.2.1 x0)), (1, .int x1), (2, .int (b2i x2))] (lt_nl hnl (by decide)) rfl 21 rfl ?_
    refine A_iconst (v := 0) C dX9_lived_21 (by decide) 22 rfl ?_
    refine A_istore C dX9_lived_22 [(5, .int 0), (3, .long 0), (0, .ref (K.2.1 x0)), (1, .int x1), (2, .int (b2i x2))] (lt_nl hnl (by decide)) rfl 24 rfl ?_
    refine A_sub [2, 3, 4, 1, 0] (lv' := [(0, .ref (K.2.1 x0)), (1, .int x1), (2, .int (b2i x2)), (3, .long 0), (5, .int 0)]) rfl ?_
    refine lq2_at (wX9_lived_L24 C hnl E k0) FU _ _ _ hf
  refine A_aload_n C dX9_lived_12 (i := 0) rfl 0 rfl 13 rfl ?_
  refine A_iconst (v := 1) C dX9_lived_13 (by decide) 14 rfl ?_
  refine CVi C dX9_lived_14 9 k0 (by decide) (r := (RX9, TX9, 44)) rfl rfl hf (fun _ _ e => mX9_no k0 e) lkRX9_194 (by decide) (by decide) rfl [] rfl (Nat.le_of_ble_eq_true rfl) 17 rfl (fun r14 h14 hf => ?_)
  refine A_i2l C dX9_lived_17 18 rfl ?_
  exact A_lret C dX9_lived_18 E hf
set_option maxRecDepth 20000 in
theorem mX9_doMeet {K : KX} {x0 : Nat} {x1 : Int32} {x2 : Int32} (k0 : isK 9 x0) {h : HH} {rv : Bool} {hv : HH} (hf : fX9_doMeet x0 x1 x2 h = some (rv, hv)) : MR K yX9_doMeet cX9_doMeet 3 (some .boolean) 2 [.ref (K.2.1 x0), .int x1, .int x2] h (some (.int (b2i rv))) hv := by
  refine MR_of (by decide) (Nat.le_of_ble_eq_true rfl) (fun G C E hnl => ?_)
  have C : Ok K G 2 cX9_doMeet RX9 := C
  refine (show At K G 0 [(0, .ref (K.2.1 x0)), (1, .int x1), (2, .int x2)] [] h from ?_)
  unfold fX9_doMeet at hf
  refine A_aload_n C dX9_doMeet_0 (i := 0) rfl 0 rfl 1 rfl ?_
  refine A_iload_n C dX9_doMeet_1 (i := 1) rfl 1 rfl 2 rfl ?_
  refine A_iconst (v := 0) C dX9_doMeet_2 (by decide) 3 rfl ?_
  refine CVi C dX9_doMeet_3 9 k0 (by decide) (r := (RX9, TX9, 44)) rfl rfl hf (fun _ _ e => mX9_its k0 e) lkRX9_310 (by decide) (by decide) rfl [] rfl (Nat.le_of_ble_eq_true rfl) 6 rfl (fun r3 h3 hf => ?_)
  refine A_if_le C dX9_doMeet_6 43 (by decide) 9 rfl hf (fun c6 hf => ?_) (fun c6 hf => ?_)
  · refine A_iconst (v := 0) C dX9_doMeet_43 (by decide) 44 rfl ?_
    exact A_zret (x := false) C dX9_doMeet_44 E hf
  refine A_aload_n C dX9_doMeet_9 (i := 0) rfl 0 rfl 10 rfl ?_
  refine A_iload_n C dX9_doMeet_10 (i := 1) rfl 1 rfl 11 rfl ?_
  refine A_iconst (v := 0) C dX9_doMeet_11 (by decide) 12 rfl ?_
  refine CVi C dX9_doMeet_12 9 k0 (by decide) (r := (RX9, TX9, 44)) rfl rfl hf (fun _ _ e => mX9_its k0 e) lkRX9_310 (by decide) (by decide) rfl [] rfl (Nat.le_of_ble_eq_true rfl) 15 rfl (fun r12 h12 hf => ?_)
  refine A_aload_n C dX9_doMeet_15 (i := 0) rfl 0 rfl 16 rfl ?_
  refine A_iload_n C dX9_doMeet_16 (i := 2) rfl 2 rfl 17 rfl ?_
  refine A_iconst (v := 0) C dX9_doMeet_17 (by decide) 18 rfl ?_
  refine CVi C dX9_doMeet_18 9 k0 (by decide) (r := (RX9, TX9, 44)) rfl rfl hf (fun _ _ e => mX9_its k0 e) lkRX9_310 (by decide) (by decide) rfl [.int r12] rfl (Nat.le_of_ble_eq_true rfl) 21 rfl (fun r18 h18 hf => ?_)
  refine A_icmp_ne C dX9_doMeet_21 43 (by decide) 24 rfl hf (fun c21 hf => ?_) (fun c21 hf => ?_)
  · refine A_iconst (v := 0) C dX9_doMeet_43 (by decide) 44 rfl ?_
    exact A_zret (x := false) C dX9_doMeet_44 E hf
  refine A_aload_n C dX9_doMeet_24 (i := 0) rfl 0 rfl 25 rfl ?_
  refine A_iload_n C dX9_doMeet_25 (i := 1) rfl 1 rfl 26 rfl ?_
  refine A_iconst (v := 1) C dX9_doMeet_26 (by decide) 27 rfl ?_
  refine CVi C dX9_doMeet_27 9 k0 (by decide) (r := (RX9, TX9, 44)) rfl rfl hf (fun _ _ e => mX9_its k0 e) lkRX9_310 (by decide) (by decide) rfl [] rfl (Nat.le_of_ble_eq_true rfl) 30 rfl (fun r27 h27 hf => ?_)
  refine A_aload_n C dX9_doMeet_30 (i := 0) rfl 0 rfl 31 rfl ?_
  refine A_iload_n C dX9_doMeet_31 (i := 2) rfl 2 rfl 32 rfl ?_
  refine A_iconst (v := 1) C dX9_doMeet_32 (by decide) 33 rfl ?_
  refine CVi C dX9_doMeet_33 9 k0 (by decide) (r := (RX9, TX9, 44)) rfl rfl hf (fun _ _ e => mX9_its k0 e) lkRX9_310 (by decide) (by decide) rfl [.int r27] rfl (Nat.le_of_ble_eq_true rfl) 36 rfl (fun r33 h33 hf => ?_)
  refine A_icmp_ne C dX9_doMeet_36 43 (by decide) 39 rfl hf (fun c36 hf => ?_) (fun c36 hf => ?_)
  · refine A_iconst (v := 0) C dX9_doMeet_43 (by decide) 44 rfl ?_
    exact A_zret (x := false) C dX9_doMeet_44 E hf
  refine A_iconst (v := 1) C dX9_doMeet_39 (by decide) 40 rfl ?_
  refine A_goto C dX9_doMeet_40 44 (by decide) ?_
  exact A_zret (x := true) C dX9_doMeet_44 E hf
set_option maxRecDepth 20000 in
theorem mX9_meet {K : KX} {x0 : Nat} {x1 : Int32} {x2 : Int32} (k0 : isK 9 x0) {h : HH} {rv : Int32} {hv : HH} (hf : fX9_meet x0 x1 x2 h = some (rv, hv)) : MR K yX9_meet cX9_meet 3 (some .int) 3 [.ref (K.2.1 x0), .int x1, .int x2] h (some (.int rv)) hv := by
  refine MR_of (by decide) (Nat.le_of_ble_eq_true rfl) (fun G C E hnl => ?_)
  have C : Ok K G 3 cX9_meet RX9 := C
  refine (show At K G 0 [(0, .ref (K.2.1 x0)), (1, .int x1), (2, .int x2)] [] h from ?_)
  unfold fX9_meet at hf
  refine A_aload_n C dX9_meet_0 (i := 0) rfl 0 rfl 1 rfl ?_
  refine CVv C dX9_meet_1 9 k0 (by decide) (r := (RX9, TX9, 44)) rfl rfl hf (fun _ e => mX9_good k0 e) lkRX9_191 (by decide) (by decide) rfl [] rfl (Nat.le_of_ble_eq_true rfl) 4 rfl (fun h1 hf => ?_)
  refine A_aload_n C dX9_meet_4 (i := 0) rfl 0 rfl 5 rfl ?_
  refine A_iload_n C dX9_meet_5 (i := 1) rfl 1 rfl 6 rfl ?_
  refine CVz C dX9_meet_6 9 k0 (by decide) (r := (RX9, TX9, 44)) rfl rfl hf (fun _ _ e => mX9_isSleeper k0 e) lkRX9_353 (by decide) (by decide) rfl [] rfl (Nat.le_of_ble_eq_true rfl) 9 rfl (fun r6 h6 hf => ?_)
  refine A_z_eq C dX9_meet_9 42 (by decide) 12 rfl hf (fun c9 hf => ?_) (fun c9 hf => ?_)
  · refine A_aload_n C dX9_meet_42 (i := 0) rfl 0 rfl 43 rfl ?_
    refine A_iconst (v := 1) C dX9_meet_43 (by decide) 44 rfl ?_
    refine CVi C dX9_meet_44 9 k0 (by decide) (r := (RX9, TX9, 44)) rfl rfl hf (fun _ _ e => mX9_no k0 e) lkRX9_194 (by decide) (by decide) rfl [] rfl (Nat.le_of_ble_eq_true rfl) 47 rfl (fun r44 h44 hf => ?_)
    exact A_iret C dX9_meet_47 E hf
  refine A_aload_n C dX9_meet_12 (i := 0) rfl 0 rfl 13 rfl ?_
  refine A_iload_n C dX9_meet_13 (i := 2) rfl 2 rfl 14 rfl ?_
  refine CVz C dX9_meet_14 9 k0 (by decide) (r := (RX9, TX9, 44)) rfl rfl hf (fun _ _ e => mX9_isSleeper k0 e) lkRX9_353 (by decide) (by decide) rfl [] rfl (Nat.le_of_ble_eq_true rfl) 17 rfl (fun r14 h14 hf => ?_)
  refine A_z_eq C dX9_meet_17 42 (by decide) 20 rfl hf (fun c17 hf => ?_) (fun c17 hf => ?_)
  · refine A_aload_n C dX9_meet_42 (i := 0) rfl 0 rfl 43 rfl ?_
    refine A_iconst (v := 1) C dX9_meet_43 (by decide) 44 rfl ?_
    refine CVi C dX9_meet_44 9 k0 (by decide) (r := (RX9, TX9, 44)) rfl rfl hf (fun _ _ e => mX9_no k0 e) lkRX9_194 (by decide) (by decide) rfl [] rfl (Nat.le_of_ble_eq_true rfl) 47 rfl (fun r44 h44 hf => ?_)
    exact A_iret C dX9_meet_47 E hf
  refine A_iload_n C dX9_meet_20 (i := 1) rfl 1 rfl 21 rfl ?_
  refine A_iload_n C dX9_meet_21 (i := 2) rfl 2 rfl 22 rfl ?_
  refine A_icmp_eq C dX9_meet_22 42 (by decide) 25 rfl hf (fun c22 hf => ?_) (fun c22 hf => ?_)
  · refine A_aload_n C dX9_meet_42 (i := 0) rfl 0 rfl 43 rfl ?_
    refine A_iconst (v := 1) C dX9_meet_43 (by decide) 44 rfl ?_
    refine CVi C dX9_meet_44 9 k0 (by decide) (r := (RX9, TX9, 44)) rfl rfl hf (fun _ _ e => mX9_no k0 e) lkRX9_194 (by decide) (by decide) rfl [] rfl (Nat.le_of_ble_eq_true rfl) 47 rfl (fun r44 h44 hf => ?_)
    exact A_iret C dX9_meet_47 E hf
  refine A_aload_n C dX9_meet_25 (i := 0) rfl 0 rfl 26 rfl ?_
  refine A_iload_n C dX9_meet_26 (i := 1) rfl 1 rfl 27 rfl ?_
  refine A_iload_n C dX9_meet_27 (i := 2) rfl 2 rfl 28 rfl ?_
  refine CVz C dX9_meet_28 9 k0 (by decide) (r := (RX9, TX9, 44)) rfl rfl hf (fun _ _ e => mX9_doMeet k0 e) lkRX9_360 (by decide) (by decide) rfl [] rfl (Nat.le_of_ble_eq_true rfl) 31 rfl (fun r28 h28 hf => ?_)
  refine A_z_eq C dX9_meet_31 38 (by decide) 34 rfl hf (fun c31 hf => ?_) (fun c31 hf => ?_)
  · refine A_iconst (v := 0) C dX9_meet_38 (by decide) 39 rfl ?_
    refine A_goto C dX9_meet_39 47 (by decide) ?_
    exact A_iret C dX9_meet_47 E hf
  refine A_iconst (v := 1) C dX9_meet_34 (by decide) 35 rfl ?_
  refine A_goto C dX9_meet_35 47 (by decide) ?_
  exact A_iret C dX9_meet_47 E hf
set_option maxRecDepth 20000 in
theorem wX9_off_L19 {K : KX} {G : GX} (C : Ok K G 2 cX9_off RX9) (hnl : G.2.2.2.2.2.2.2.2.2.2.2.2.2 = 2) {rv : Int32} {hv : HH} (E : Endd K G (some .int) (some (.int rv)) hv) {x0 : Nat}   (kx0 : isK 9 x0) : ∀ (self19 : Int32 → HH → Option (Int32 × HH)), (∀ (x1 : Int32) (h : HH), self19 x1 h = some (rv, hv) → At K G 19 [(0, .ref (K.2.1 x0)), (1, .int x1)] [] h) → ∀ (x1 : Int32) (h : HH), fX9_off_L19 x0 self19 x1 h = some (rv, hv) → At K G 19 [(0, .ref (K.2.1 x0)), (1, .int x1)] [] h := by
  intro self19 Hself19 x1 h hf
  unfold fX9_off_L19 at hf
  refine A_iload_n C dX9_off_19 (i := 1) rfl 1 rfl 20 rfl ?_
  refine A_aload_n C dX9_off_20 (i := 0) rfl 0 rfl 21 rfl ?_
  refine gfRX9_20 C kx0 dX9_off_21 24 rfl ?_
  refine A_iconst (v := 4) C dX9_off_24 (by decide) 25 rfl ?_
  refine A_iald C dX9_off_25 (of_9_15 kx0) hf 26 rfl (fun hf => ?_)
  refine A_icmp_ge C dX9_off_26 63 (by decide) 29 rfl hf (fun c26 hf => ?_) (fun c26 hf => ?_)
  · refine A_bipush (v := (-2)) C dX9_off_63 (by decide) 65 rfl ?_
    exact A_iret C dX9_off_65 E hf
  refine A_aload_n C dX9_off_29 (i := 0) rfl 0 rfl 30 rfl ?_
  refine A_iload_n C dX9_off_30 (i := 1) rfl 1 rfl 31 rfl ?_
  refine A_iconst (v := 4) C dX9_off_31 (by decide) 32 rfl ?_
  refine CVi C dX9_off_32 9 kx0 (by decide) (r := (RX9, TX9, 44)) rfl rfl hf (fun _ _ e => mX9_of kx0 e) lkRX9_335 (by decide) (by decide) rfl [] rfl (Nat.le_of_ble_eq_true rfl) 35 rfl (fun r32 h32 hf => ?_)
  refine A_if_le C dX9_off_35 57 (by decide) 38 rfl hf (fun c35 hf => ?_) (fun c35 hf => ?_)
  · refine A_iinc (v := (x1 + 1)) C dX9_off_57 1 rfl rfl [(1, .int (x1 + 1)), (0, .ref (K.2.1 x0))] (lt_nl hnl (by decide)) rfl 60 rfl ?_
    refine A_goto C dX9_off_60 19 (by decide) ?_
    refine A_sub [1, 0] (lv' := [(0, .ref (K.2.1 x0)), (1, .int (x1 + 1))]) rfl ?_
    exact Hself19 _ _ hf
  refine A_aload_n C dX9_off_38 (i := 0) rfl 0 rfl 39 rfl ?_
  refine A_iload_n C dX9_off_39 (i := 1) rfl 1 rfl 40 rfl ?_
  refine A_iconst (v := 4) C dX9_off_40 (by decide) 41 rfl ?_
  refine CVi C dX9_off_41 9 kx0 (by decide) (r := (RX9, TX9, 44)) rfl rfl hf (fun _ _ e => mX9_of kx0 e) lkRX9_335 (by decide) (by decide) rfl [] rfl (Nat.le_of_ble_eq_true rfl) 44 rfl (fun r41 h41 hf => ?_)
  refine A_iconst (v := 1) C dX9_off_44 (by decide) 45 rfl ?_
  refine A_isub C dX9_off_45 46 rfl ?_
  refine A_aload_n C dX9_off_46 (i := 0) rfl 0 rfl 47 rfl ?_
  refine A_iload_n C dX9_off_47 (i := 1) rfl 1 rfl 48 rfl ?_
  refine A_iconst (v := 0) C dX9_off_48 (by decide) 49 rfl ?_
  refine CVi C dX9_off_49 9 kx0 (by decide) (r := (RX9, TX9, 44)) rfl rfl hf (fun _ _ e => mX9_its kx0 e) lkRX9_310 (by decide) (by decide) rfl [.int (r41 - 1)] rfl (Nat.le_of_ble_eq_true rfl) 52 rfl (fun r49 h49 hf => ?_)
  refine A_icmp_eq C dX9_off_52 57 (by decide) 55 rfl hf (fun c52 hf => ?_) (fun c52 hf => ?_)
  · refine A_iinc (v := (x1 + 1)) C dX9_off_57 1 rfl rfl [(1, .int (x1 + 1)), (0, .ref (K.2.1 x0))] (lt_nl hnl (by decide)) rfl 60 rfl ?_
    refine A_goto C dX9_off_60 19 (by decide) ?_
    refine A_sub [1, 0] (lv' := [(0, .ref (K.2.1 x0)), (1, .int (x1 + 1))]) rfl ?_
    exact Hself19 _ _ hf
  refine A_iload_n C dX9_off_55 (i := 1) rfl 1 rfl 56 rfl ?_
  exact A_iret C dX9_off_56 E hf
set_option maxRecDepth 20000 in
theorem mX9_off {K : KX} {x0 : Nat} (k0 : isK 9 x0) {h : HH} {rv : Int32} {hv : HH} (hf : fX9_off x0 h = some (rv, hv)) : MR K yX9_off cX9_off 2 (some .int) 2 [.ref (K.2.1 x0)] h (some (.int rv)) hv := by
  refine MR_of (by decide) (Nat.le_of_ble_eq_true rfl) (fun G C E hnl => ?_)
  have C : Ok K G 2 cX9_off RX9 := C
  refine (show At K G 0 [(0, .ref (K.2.1 x0))] [] h from ?_)
  unfold fX9_off at hf
  refine A_aload_n C dX9_off_0 (i := 0) rfl 0 rfl 1 rfl ?_
  refine CVv C dX9_off_1 9 k0 (by decide) (r := (RX9, TX9, 44)) rfl rfl hf (fun _ e => mX9_good k0 e) lkRX9_191 (by decide) (by decide) rfl [] rfl (Nat.le_of_ble_eq_true rfl) 4 rfl (fun h1 hf => ?_)
  refine A_aload_n C dX9_off_4 (i := 0) rfl 0 rfl 5 rfl ?_
  refine gfRX9_204 C k0 dX9_off_5 8 rfl ?_
  refine A_if_ne C dX9_off_8 17 (by decide) 11 rfl hf (fun c8 hf => ?_) (fun c8 hf => ?_)
  · refine A_iconst (v := 0) C dX9_off_17 (by decide) 18 rfl ?_
    refine A_istore_n C dX9_off_18 (i := 1) rfl [(1, .int 0), (0, .ref (K.2.1 x0))] (lt_nl hnl (by decide)) rfl 19 rfl ?_
    refine A_sub [1, 0] (lv' := [(0, .ref (K.2.1 x0)), (1, .int 0)]) rfl ?_
    refine lq1_at (wX9_off_L19 C hnl E k0) FU _ _ hf
  refine A_aload_n C dX9_off_11 (i := 0) rfl 0 rfl 12 rfl ?_
  refine A_iconst (v := 1) C dX9_off_12 (by decide) 13 rfl ?_
  refine CVi C dX9_off_13 9 k0 (by decide) (r := (RX9, TX9, 44)) rfl rfl hf (fun _ _ e => mX9_no k0 e) lkRX9_194 (by decide) (by decide) rfl [] rfl (Nat.le_of_ble_eq_true rfl) 16 rfl (fun r13 h13 hf => ?_)
  exact A_iret C dX9_off_16 E hf
set_option maxRecDepth 20000 in
theorem mX9_inWhy {K : KX} {x0 : Nat} {x1 : Int32} {x2 : Int32} (k0 : isK 9 x0) {h : HH} {rv : Int32} {hv : HH} (hf : fX9_inWhy x0 x1 x2 h = some (rv, hv)) : MR K yX9_inWhy cX9_inWhy 3 (some .int) 3 [.ref (K.2.1 x0), .int x1, .int x2] h (some (.int rv)) hv := by
  refine MR_of (by decide) (Nat.le_of_ble_eq_true rfl) (fun G C E hnl => ?_)
  have C : Ok K G 3 cX9_inWhy RX9 := C
  refine (show At K G 0 [(0, .ref (K.2.1 x0)), (1, .int x1), (2, .int x2)] [] h from ?_)
  unfold fX9_inWhy at hf
  refine A_aload_n C dX9_inWhy_0 (i := 0) rfl 0 rfl 1 rfl ?_
  refine A_iload_n C dX9_inWhy_1 (i := 1) rfl 1 rfl 2 rfl ?_
  refine CVz C dX9_inWhy_2 9 k0 (by decide) (r := (RX9, TX9, 44)) rfl rfl hf (fun _ _ e => mX9_isSleeper k0 e) lkRX9_353 (by decide) (by decide) rfl [] rfl (Nat.le_of_ble_eq_true rfl) 5 rfl (fun r2 h2 hf => ?_)
  refine A_z_ne C dX9_inWhy_5 12 (by decide) 8 rfl hf (fun c5 hf => ?_) (fun c5 hf => ?_)
  · refine A_iload_n C dX9_inWhy_12 (i := 2) rfl 2 rfl 13 rfl ?_
    refine A_iconst (v := 0) C dX9_inWhy_13 (by decide) 14 rfl ?_
    refine A_sipush (v := 600) C dX9_inWhy_14 (by decide) 17 rfl ?_
    refine CSz C dX9_inWhy_17 hf (fun _ _ e => mX9_within  e) lkRX9_170 (by decide) (by decide) rfl [] rfl (Nat.le_of_ble_eq_true rfl) 20 rfl (fun r17 h17 hf => ?_)
    refine A_z_eq C dX9_inWhy_20 27 (by decide) 23 rfl hf (fun c20 hf => ?_) (fun c20 hf => ?_)
    · refine A_iconst (v := 2) C dX9_inWhy_27 (by decide) 28 rfl ?_
      exact A_iret C dX9_inWhy_28 E hf
    refine A_iconst (v := 0) C dX9_inWhy_23 (by decide) 24 rfl ?_
    refine A_goto C dX9_inWhy_24 28 (by decide) ?_
    exact A_iret C dX9_inWhy_28 E hf
  refine A_iconst (v := 1) C dX9_inWhy_8 (by decide) 9 rfl ?_
  refine A_goto C dX9_inWhy_9 28 (by decide) ?_
  exact A_iret C dX9_inWhy_28 E hf
set_option maxRecDepth 20000 in
theorem mX9_itsIn {K : KX} {x0 : Nat} {x1 : Int32} {x2 : Int32} {x3 : Int32} (k0 : isK 9 x0) {h : HH} {rv : Int32} {hv : HH} (hf : fX9_itsIn x0 x1 x2 x3 h = some (rv, hv)) : MR K yX9_itsIn cX9_itsIn 5 (some .int) 7 [.ref (K.2.1 x0), .int x1, .int x2, .int x3] h (some (.int rv)) hv := by
  refine MR_of (by decide) (Nat.le_of_ble_eq_true rfl) (fun G C E hnl => ?_)
  have C : Ok K G 7 cX9_itsIn RX9 := C
  refine (show At K G 0 [(0, .ref (K.2.1 x0)), (1, .int x1), (2, .int x2), (3, .int x3)] [] h from ?_)
  unfold fX9_itsIn at hf
  refine A_aload_n C dX9_itsIn_0 (i := 0) rfl 0 rfl 1 rfl ?_
  refine CVv C dX9_itsIn_1 9 k0 (by decide) (r := (RX9, TX9, 44)) rfl rfl hf (fun _ e => mX9_save k0 e) lkRX9_364 (by decide) (by decide) rfl [] rfl (Nat.le_of_ble_eq_true rfl) 4 rfl (fun h1 hf => ?_)
  refine A_aload_n C dX9_itsIn_4 (i := 0) rfl 0 rfl 5 rfl ?_
  refine A_aload_n C dX9_itsIn_5 (i := 0) rfl 0 rfl 6 rfl ?_
  refine gfRX9_38 C k0 dX9_itsIn_6 9 rfl ?_
  refine A_iconst (v := 0) C dX9_itsIn_9 (by decide) 10 rfl ?_
  refine A_lald C dX9_itsIn_10 (of_9_21 k0) hf 11 rfl (fun hf => ?_)
  refine A_iload_n C dX9_itsIn_11 (i := 2) rfl 2 rfl 12 rfl ?_
  refine A_i2l C dX9_itsIn_12 13 rfl ?_
  refine A_aload_n C dX9_itsIn_13 (i := 0) rfl 0 rfl 14 rfl ?_
  refine CVi C dX9_itsIn_14 9 k0 (by decide) (r := (RX9, TX9, 44)) rfl rfl hf (fun _ _ e => mX9_bottom k0 e) lkRX9_307 (by decide) (by decide) rfl [.long x2.toInt64, .long (gL h1 (x0 + 9) (ix 0)), .ref (K.2.1 x0)] rfl (Nat.le_of_ble_eq_true rfl) 17 rfl (fun r14 h14 hf => ?_)
  refine A_i2l C dX9_itsIn_17 18 rfl ?_
  refine A_lmul C dX9_itsIn_18 19 rfl ?_
  refine A_ladd C dX9_itsIn_19 20 rfl ?_
  refine CVv C dX9_itsIn_20 9 k0 (by decide) (r := (RX9, TX9, 44)) rfl rfl hf (fun _ e => mX9_goOn k0 e) lkRX9_367 (by decide) (by decide) rfl [] rfl (Nat.le_of_ble_eq_true rfl) 23 rfl (fun h20 hf => ?_)
  refine A_aload_n C dX9_itsIn_23 (i := 0) rfl 0 rfl 24 rfl ?_
  refine A_iload_n C dX9_itsIn_24 (i := 1) rfl 1 rfl 25 rfl ?_
  refine A_iload_n C dX9_itsIn_25 (i := 3) rfl 3 rfl 26 rfl ?_
  refine CVi C dX9_itsIn_26 9 k0 (by decide) (r := (RX9, TX9, 44)) rfl rfl hf (fun _ _ e => mX9_its k0 e) lkRX9_310 (by decide) (by decide) rfl [] rfl (Nat.le_of_ble_eq_true rfl) 29 rfl (fun r26 h26 hf => ?_)
  refine A_istore C dX9_itsIn_29 [(4, .int r26), (0, .ref (K.2.1 x0)), (1, .int x1), (2, .int x2), (3, .int x3)] (lt_nl hnl (by decide)) rfl 31 rfl ?_
  refine A_aload_n C dX9_itsIn_31 (i := 0) rfl 1 rfl 32 rfl ?_
  refine CVv C dX9_itsIn_32 9 k0 (by decide) (r := (RX9, TX9, 44)) rfl rfl hf (fun _ e => mX9_bringBack k0 e) lkRX9_371 (by decide) (by decide) rfl [] rfl (Nat.le_of_ble_eq_true rfl) 35 rfl (fun h32 hf => ?_)
  refine A_iload C dX9_itsIn_35 0 rfl 37 rfl ?_
  exact A_iret C dX9_itsIn_37 E hf
set_option maxRecDepth 20000 in
theorem mX9_floorIn {K : KX} {x0 : Nat} {x1 : Int32} {x2 : Int32} (k0 : isK 9 x0) {h : HH} {rv : Int32} {hv : HH} (hf : fX9_floorIn x0 x1 x2 h = some (rv, hv)) : MR K yX9_floorIn cX9_floorIn 4 (some .int) 8 [.ref (K.2.1 x0), .int x1, .int x2] h (some (.int rv)) hv := by
  refine MR_of (by decide) (Nat.le_of_ble_eq_true rfl) (fun G C E hnl => ?_)
  have C : Ok K G 8 cX9_floorIn RX9 := C
  refine (show At K G 0 [(0, .ref (K.2.1 x0)), (1, .int x1), (2, .int x2)] [] h from ?_)
  unfold fX9_floorIn at hf
  refine A_aload_n C dX9_floorIn_0 (i := 0) rfl 0 rfl 1 rfl ?_
  refine CVv C dX9_floorIn_1 9 k0 (by decide) (r := (RX9, TX9, 44)) rfl rfl hf (fun _ e => mX9_good k0 e) lkRX9_191 (by decide) (by decide) rfl [] rfl (Nat.le_of_ble_eq_true rfl) 4 rfl (fun h1 hf => ?_)
  refine A_aload_n C dX9_floorIn_4 (i := 0) rfl 0 rfl 5 rfl ?_
  refine A_iload_n C dX9_floorIn_5 (i := 1) rfl 1 rfl 6 rfl ?_
  refine A_iload_n C dX9_floorIn_6 (i := 2) rfl 2 rfl 7 rfl ?_
  refine CVi C dX9_floorIn_7 9 k0 (by decide) (r := (RX9, TX9, 44)) rfl rfl hf (fun _ _ e => mX9_inWhy k0 e) lkRX9_374 (by decide) (by decide) rfl [] rfl (Nat.le_of_ble_eq_true rfl) 10 rfl (fun r7 h7 hf => ?_)
  refine A_istore_n C dX9_floorIn_10 (i := 3) rfl [(3, .int r7), (0, .ref (K.2.1 x0)), (1, .int x1), (2, .int x2)] (lt_nl hnl (by decide)) rfl 11 rfl ?_
  refine A_iload_n C dX9_floorIn_11 (i := 3) rfl 0 rfl 12 rfl ?_
  refine A_if_eq C dX9_floorIn_12 23 (by decide) 15 rfl hf (fun c12 hf => ?_) (fun c12 hf => ?_)
  · refine A_aload_n C dX9_floorIn_23 (i := 0) rfl 1 rfl 24 rfl ?_
    refine A_iload_n C dX9_floorIn_24 (i := 1) rfl 2 rfl 25 rfl ?_
    refine A_iload_n C dX9_floorIn_25 (i := 2) rfl 3 rfl 26 rfl ?_
    refine A_iconst (v := 0) C dX9_floorIn_26 (by decide) 27 rfl ?_
    refine CVi C dX9_floorIn_27 9 k0 (by decide) (r := (RX9, TX9, 44)) rfl rfl hf (fun _ _ e => mX9_itsIn k0 e) lkRX9_377 (by decide) (by decide) rfl [] rfl (Nat.le_of_ble_eq_true rfl) 30 rfl (fun r27 h27 hf => ?_)
    exact A_iret C dX9_floorIn_30 E hf
  refine A_aload_n C dX9_floorIn_15 (i := 0) rfl 1 rfl 16 rfl ?_
  refine A_iload_n C dX9_floorIn_16 (i := 3) rfl 0 rfl 17 rfl ?_
  refine CVi C dX9_floorIn_17 9 k0 (by decide) (r := (RX9, TX9, 44)) rfl rfl hf (fun _ _ e => mX9_no k0 e) lkRX9_194 (by decide) (by decide) rfl [] rfl (Nat.le_of_ble_eq_true rfl) 20 rfl (fun r17 h17 hf => ?_)
  refine A_goto C dX9_floorIn_20 30 (by decide) ?_
  exact A_iret C dX9_floorIn_30 E hf
set_option maxRecDepth 20000 in
theorem mX9_headIn {K : KX} {x0 : Nat} {x1 : Int32} {x2 : Int32} (k0 : isK 9 x0) {h : HH} {rv : Int32} {hv : HH} (hf : fX9_headIn x0 x1 x2 h = some (rv, hv)) : MR K yX9_headIn cX9_headIn 5 (some .int) 8 [.ref (K.2.1 x0), .int x1, .int x2] h (some (.int rv)) hv := by
  refine MR_of (by decide) (Nat.le_of_ble_eq_true rfl) (fun G C E hnl => ?_)
  have C : Ok K G 8 cX9_headIn RX9 := C
  refine (show At K G 0 [(0, .ref (K.2.1 x0)), (1, .int x1), (2, .int x2)] [] h from ?_)
  unfold fX9_headIn at hf
  refine A_aload_n C dX9_headIn_0 (i := 0) rfl 0 rfl 1 rfl ?_
  refine CVv C dX9_headIn_1 9 k0 (by decide) (r := (RX9, TX9, 44)) rfl rfl hf (fun _ e => mX9_good k0 e) lkRX9_191 (by decide) (by decide) rfl [] rfl (Nat.le_of_ble_eq_true rfl) 4 rfl (fun h1 hf => ?_)
  refine A_aload_n C dX9_headIn_4 (i := 0) rfl 0 rfl 5 rfl ?_
  refine A_iload_n C dX9_headIn_5 (i := 1) rfl 1 rfl 6 rfl ?_
  refine A_iload_n C dX9_headIn_6 (i := 2) rfl 2 rfl 7 rfl ?_
  refine CVi C dX9_headIn_7 9 k0 (by decide) (r := (RX9, TX9, 44)) rfl rfl hf (fun _ _ e => mX9_inWhy k0 e) lkRX9_374 (by decide) (by decide) rfl [] rfl (Nat.le_of_ble_eq_true rfl) 10 rfl (fun r7 h7 hf => ?_)
  refine A_istore_n C dX9_headIn_10 (i := 3) rfl [(3, .int r7), (0, .ref (K.2.1 x0)), (1, .int x1), (2, .int x2)] (lt_nl hnl (by decide)) rfl 11 rfl ?_
  refine A_iload_n C dX9_headIn_11 (i := 3) rfl 0 rfl 12 rfl ?_
  refine A_if_eq C dX9_headIn_12 21 (by decide) 15 rfl hf (fun c12 hf => ?_) (fun c12 hf => ?_)
  · refine A_aload_n C dX9_headIn_21 (i := 0) rfl 1 rfl 22 rfl ?_
    refine A_iload_n C dX9_headIn_22 (i := 1) rfl 2 rfl 23 rfl ?_
    refine A_iload_n C dX9_headIn_23 (i := 2) rfl 3 rfl 24 rfl ?_
    refine A_iconst (v := 1) C dX9_headIn_24 (by decide) 25 rfl ?_
    refine CVi C dX9_headIn_25 9 k0 (by decide) (r := (RX9, TX9, 44)) rfl rfl hf (fun _ _ e => mX9_itsIn k0 e) lkRX9_377 (by decide) (by decide) rfl [] rfl (Nat.le_of_ble_eq_true rfl) 28 rfl (fun r25 h25 hf => ?_)
    refine A_istore C dX9_headIn_28 [(4, .int r25), (3, .int r7), (0, .ref (K.2.1 x0)), (1, .int x1), (2, .int x2)] (lt_nl hnl (by decide)) rfl 30 rfl ?_
    refine A_iload C dX9_headIn_30 0 rfl 32 rfl ?_
    refine A_if_ne C dX9_headIn_32 40 (by decide) 35 rfl hf (fun c32 hf => ?_) (fun c32 hf => ?_)
    · refine A_iload C dX9_headIn_40 0 rfl 42 rfl ?_
      refine A_iconst (v := 1) C dX9_headIn_42 (by decide) 43 rfl ?_
      refine A_isub C dX9_headIn_43 44 rfl ?_
      exact A_iret C dX9_headIn_44 E hf
    refine A_bipush (v := (-2)) C dX9_headIn_35 (by decide) 37 rfl ?_
    refine A_goto C dX9_headIn_37 44 (by decide) ?_
    exact A_iret C dX9_headIn_44 E hf
  refine A_aload_n C dX9_headIn_15 (i := 0) rfl 1 rfl 16 rfl ?_
  refine A_iload_n C dX9_headIn_16 (i := 3) rfl 0 rfl 17 rfl ?_
  refine CVi C dX9_headIn_17 9 k0 (by decide) (r := (RX9, TX9, 44)) rfl rfl hf (fun _ _ e => mX9_no k0 e) lkRX9_194 (by decide) (by decide) rfl [] rfl (Nat.le_of_ble_eq_true rfl) 20 rfl (fun r17 h17 hf => ?_)
  exact A_iret C dX9_headIn_20 E hf
set_option maxRecDepth 20000 in
theorem wX9_meetsIn_L55 {K : KX} {G : GX} (C : Ok K G 7 cX9_meetsIn RX9) (hnl : G.2.2.2.2.2.2.2.2.2.2.2.2.2 = 6) {rv : Int32} {hv : HH} (E : Endd K G (some .int) (some (.int rv)) hv) {x0 : Nat} {x1 : Int32} {x2 : Int32} {x3 : Int32} {k55_92 : Int32 → HH → Option (Int32 × HH)}  (Hk55_92 : ∀ (x4 : Int32) (h : HH), k55_92 x4 h = some (rv, hv) → At K G 92 [(0, .ref (K.2.1 x0)), (1, .int x1), (2, .int x2), (4, .int x4)] [] h) (kx0 : isK 9 x0) : ∀ (self55 : Int32 → HH → Option (Int32 × HH)), (∀ (x4 : Int32) (h : HH), self55 x4 h = some (rv, hv) → At K G 55 [(0, .ref (K.2.1 x0)), (1, .int x1), (2, .int x2), (3, .int x3), (4, .int x4)] [] h) → ∀ (x4 : Int32) (h : HH), fX9_meetsIn_L55 k55_92 x0 x1 x2 x3 self55 x4 h = some (rv, hv) → At K G 55 [(0, .ref (K.2.1 x0)), (1, .int x1), (2, .int x2), (3, .int x3), (4, .int x4)] [] h := by
  intro self55 Hself55 x4 h hf
  unfold fX9_meetsIn_L55 at hf
  refine A_iload C dX9_meetsIn_55 4 rfl 57 rfl ?_
  refine A_iload_n C dX9_meetsIn_57 (i := 3) rfl 3 rfl 58 rfl ?_
  refine A_icmp_ge C dX9_meetsIn_58 92 (by decide) 61 rfl hf (fun c58 hf => ?_) (fun c58 hf => ?_)
  · refine A_sub [0, 1, 2, 4] (lv' := [(0, .ref (K.2.1 x0)), (1, .int x1), (2, .int x2), (4, .int x4)]) rfl ?_
    exact Hk55_92 _ _ hf
  refine A_aload_n C dX9_meetsIn_61 (i := 0) rfl 0 rfl 62 rfl ?_
  refine A_iload_n C dX9_meetsIn_62 (i := 1) rfl 1 rfl 63 rfl ?_
  refine A_iload_n C dX9_meetsIn_63 (i := 2) rfl 2 rfl 64 rfl ?_
  refine CVz C dX9_meetsIn_64 9 kx0 (by decide) (r := (RX9, TX9, 44)) rfl rfl hf (fun _ _ e => mX9_doMeet kx0 e) lkRX9_360 (by decide) (by decide) rfl [] rfl (Nat.le_of_ble_eq_true rfl) 67 rfl (fun r64 h64 hf => ?_)
  refine A_z_ne C dX9_meetsIn_67 92 (by decide) 70 rfl hf (fun c67 hf => ?_) (fun c67 hf => ?_)
  · refine A_sub [0, 1, 2, 4] (lv' := [(0, .ref (K.2.1 x0)), (1, .int x1), (2, .int x2), (4, .int x4)]) rfl ?_
    exact Hk55_92 _ _ hf
  refine A_aload_n C dX9_meetsIn_70 (i := 0) rfl 0 rfl 71 rfl ?_
  refine A_aload_n C dX9_meetsIn_71 (i := 0) rfl 0 rfl 72 rfl ?_
  refine gfRX9_38 C kx0 dX9_meetsIn_72 75 rfl ?_
  refine A_iconst (v := 0) C dX9_meetsIn_75 (by decide) 76 rfl ?_
  refine A_lald C dX9_meetsIn_76 (of_9_21 kx0) hf 77 rfl (fun hf => ?_)
  refine A_aload_n C dX9_meetsIn_77 (i := 0) rfl 0 rfl 78 rfl ?_
  refine CVi C dX9_meetsIn_78 9 kx0 (by decide) (r := (RX9, TX9, 44)) rfl rfl hf (fun _ _ e => mX9_bottom kx0 e) lkRX9_307 (by decide) (by decide) rfl [.long (gL h64 (x0 + 9) (ix 0)), .ref (K.2.1 x0)] rfl (Nat.le_of_ble_eq_true rfl) 81 rfl (fun r78 h78 hf => ?_)
  refine A_i2l C dX9_meetsIn_81 82 rfl ?_
  refine A_ladd C dX9_meetsIn_82 83 rfl ?_
  refine CVv C dX9_meetsIn_83 9 kx0 (by decide) (r := (RX9, TX9, 44)) rfl rfl hf (fun _ e => mX9_goOn kx0 e) lkRX9_367 (by decide) (by decide) rfl [] rfl (Nat.le_of_ble_eq_true rfl) 86 rfl (fun h83 hf => ?_)
  refine A_iinc (v := (x4 + 1)) C dX9_meetsIn_86 4 rfl rfl [(4, .int (x4 + 1)), (0, .ref (K.2.1 x0)), (1, .int x1), (2, .int x2), (3, .int x3)] (lt_nl hnl (by decide)) rfl 89 rfl ?_
  refine A_goto C dX9_meetsIn_89 55 (by decide) ?_
  refine A_sub [1, 2, 3, 4, 0] (lv' := [(0, .ref (K.2.1 x0)), (1, .int x1), (2, .int x2), (3, .int x3), (4, .int (x4 + 1))]) rfl ?_
  exact Hself55 _ _ hf
set_option maxRecDepth 20000 in
theorem mX9_meetsIn {K : KX} {x0 : Nat} {x1 : Int32} {x2 : Int32} {x3 : Int32} (k0 : isK 9 x0) {h : HH} {rv : Int32} {hv : HH} (hf : fX9_meetsIn x0 x1 x2 x3 h = some (rv, hv)) : MR K yX9_meetsIn cX9_meetsIn 6 (some .int) 7 [.ref (K.2.1 x0), .int x1, .int x2, .int x3] h (some (.int rv)) hv := by
  refine MR_of (by decide) (Nat.le_of_ble_eq_true rfl) (fun G C E hnl => ?_)
  have C : Ok K G 7 cX9_meetsIn RX9 := C
  refine (show At K G 0 [(0, .ref (K.2.1 x0)), (1, .int x1), (2, .int x2), (3, .int x3)] [] h from ?_)
  unfold fX9_meetsIn at hf
  refine A_aload_n C dX9_meetsIn_0 (i := 0) rfl 0 rfl 1 rfl ?_
  refine CVv C dX9_meetsIn_1 9 k0 (by decide) (r := (RX9, TX9, 44)) rfl rfl hf (fun _ e => mX9_good k0 e) lkRX9_191 (by decide) (by decide) rfl [] rfl (Nat.le_of_ble_eq_true rfl) 4 rfl (fun h1 hf => ?_)
  refine A_aload_n C dX9_meetsIn_4 (i := 0) rfl 0 rfl 5 rfl ?_
  refine A_iload_n C dX9_meetsIn_5 (i := 1) rfl 1 rfl 6 rfl ?_
  refine CVz C dX9_meetsIn_6 9 k0 (by decide) (r := (RX9, TX9, 44)) rfl rfl hf (fun _ _ e => mX9_isSleeper k0 e) lkRX9_353 (by decide) (by decide) rfl [] rfl (Nat.le_of_ble_eq_true rfl) 9 rfl (fun r6 h6 hf => ?_)
  refine A_z_eq C dX9_meetsIn_9 25 (by decide) 12 rfl hf (fun c9 hf => ?_) (fun c9 hf => ?_)
  · refine A_aload_n C dX9_meetsIn_25 (i := 0) rfl 0 rfl 26 rfl ?_
    refine A_iconst (v := 1) C dX9_meetsIn_26 (by decide) 27 rfl ?_
    refine CVi C dX9_meetsIn_27 9 k0 (by decide) (r := (RX9, TX9, 44)) rfl rfl hf (fun _ _ e => mX9_no k0 e) lkRX9_194 (by decide) (by decide) rfl [] rfl (Nat.le_of_ble_eq_true rfl) 30 rfl (fun r27 h27 hf => ?_)
    exact A_iret C dX9_meetsIn_30 E hf
  refine A_aload_n C dX9_meetsIn_12 (i := 0) rfl 0 rfl 13 rfl ?_
  refine A_iload_n C dX9_meetsIn_13 (i := 2) rfl 2 rfl 14 rfl ?_
  refine CVz C dX9_meetsIn_14 9 k0 (by decide) (r := (RX9, TX9, 44)) rfl rfl hf (fun _ _ e => mX9_isSleeper k0 e) lkRX9_353 (by decide) (by decide) rfl [] rfl (Nat.le_of_ble_eq_true rfl) 17 rfl (fun r14 h14 hf => ?_)
  refine A_z_eq C dX9_meetsIn_17 25 (by decide) 20 rfl hf (fun c17 hf => ?_) (fun c17 hf => ?_)
  · refine A_aload_n C dX9_meetsIn_25 (i := 0) rfl 0 rfl 26 rfl ?_
    refine A_iconst (v := 1) C dX9_meetsIn_26 (by decide) 27 rfl ?_
    refine CVi C dX9_meetsIn_27 9 k0 (by decide) (r := (RX9, TX9, 44)) rfl rfl hf (fun _ _ e => mX9_no k0 e) lkRX9_194 (by decide) (by decide) rfl [] rfl (Nat.le_of_ble_eq_true rfl) 30 rfl (fun r27 h27 hf => ?_)
    exact A_iret C dX9_meetsIn_30 E hf
  refine A_iload_n C dX9_meetsIn_20 (i := 1) rfl 1 rfl 21 rfl ?_
  refine A_iload_n C dX9_meetsIn_21 (i := 2) rfl 2 rfl 22 rfl ?_
  refine A_icmp_ne C dX9_meetsIn_22 31 (by decide) 25 rfl hf (fun c22 hf => ?_) (fun c22 hf => ?_)
  · refine A_iload_n C dX9_meetsIn_31 (i := 3) rfl 3 rfl 32 rfl ?_
    refine A_iconst (v := 0) C dX9_meetsIn_32 (by decide) 33 rfl ?_
    refine A_sipush (v := 600) C dX9_meetsIn_33 (by decide) 36 rfl ?_
    refine CSz C dX9_meetsIn_36 hf (fun _ _ e => mX9_within  e) lkRX9_170 (by decide) (by decide) rfl [] rfl (Nat.le_of_ble_eq_true rfl) 39 rfl (fun r36 h36 hf => ?_)
    refine A_z_ne C dX9_meetsIn_39 48 (by decide) 42 rfl hf (fun c39 hf => ?_) (fun c39 hf => ?_)
    · refine A_aload_n C dX9_meetsIn_48 (i := 0) rfl 0 rfl 49 rfl ?_
      refine CVv C dX9_meetsIn_49 9 k0 (by decide) (r := (RX9, TX9, 44)) rfl rfl hf (fun _ e => mX9_save k0 e) lkRX9_364 (by decide) (by decide) rfl [] rfl (Nat.le_of_ble_eq_true rfl) 52 rfl (fun h49 hf => ?_)
      refine A_iconst (v := 0) C dX9_meetsIn_52 (by decide) 53 rfl ?_
      refine A_istore C dX9_meetsIn_53 [(4, .int 0), (0, .ref (K.2.1 x0)), (1, .int x1), (2, .int x2), (3, .int x3)] (lt_nl hnl (by decide)) rfl 55 rfl ?_
      refine A_sub [1, 2, 3, 4, 0] (lv' := [(0, .ref (K.2.1 x0)), (1, .int x1), (2, .int x2), (3, .int x3), (4, .int 0)]) rfl ?_
      refine lq1_at (wX9_meetsIn_L55 C hnl E (fun x4 h hf => ?_) k0) FU _ _ hf
      refine A_aload_n C dX9_meetsIn_92 (i := 0) rfl 0 rfl 93 rfl ?_
      refine A_iload_n C dX9_meetsIn_93 (i := 1) rfl 1 rfl 94 rfl ?_
      refine A_iload_n C dX9_meetsIn_94 (i := 2) rfl 2 rfl 95 rfl ?_
      refine CVz C dX9_meetsIn_95 9 k0 (by decide) (r := (RX9, TX9, 44)) rfl rfl hf (fun _ _ e => mX9_doMeet k0 e) lkRX9_360 (by decide) (by decide) rfl [] rfl (Nat.le_of_ble_eq_true rfl) 98 rfl (fun r95 h95 hf => ?_)
      refine A_istore C dX9_meetsIn_98 [(5, .int (b2i r95)), (0, .ref (K.2.1 x0)), (1, .int x1), (2, .int x2), (4, .int x4)] (lt_nl hnl (by decide)) rfl 100 rfl ?_
      refine A_aload_n C dX9_meetsIn_100 (i := 0) rfl 1 rfl 101 rfl ?_
      refine CVv C dX9_meetsIn_101 9 k0 (by decide) (r := (RX9, TX9, 44)) rfl rfl hf (fun _ e => mX9_bringBack k0 e) lkRX9_371 (by decide) (by decide) rfl [] rfl (Nat.le_of_ble_eq_true rfl) 104 rfl (fun h101 hf => ?_)
      refine A_iload C dX9_meetsIn_104 0 rfl 106 rfl ?_
      refine A_z_eq C dX9_meetsIn_106 114 (by decide) 109 rfl hf (fun c106 hf => ?_) (fun c106 hf => ?_)
      · refine A_bipush (v := (-2)) C dX9_meetsIn_114 (by decide) 116 rfl ?_
        exact A_iret C dX9_meetsIn_116 E hf
      refine A_iload C dX9_meetsIn_109 4 rfl 111 rfl ?_
      refine A_goto C dX9_meetsIn_111 116 (by decide) ?_
      exact A_iret C dX9_meetsIn_116 E hf
    refine A_aload_n C dX9_meetsIn_42 (i := 0) rfl 0 rfl 43 rfl ?_
    refine A_iconst (v := 2) C dX9_meetsIn_43 (by decide) 44 rfl ?_
    refine CVi C dX9_meetsIn_44 9 k0 (by decide) (r := (RX9, TX9, 44)) rfl rfl hf (fun _ _ e => mX9_no k0 e) lkRX9_194 (by decide) (by decide) rfl [] rfl (Nat.le_of_ble_eq_true rfl) 47 rfl (fun r44 h44 hf => ?_)
    exact A_iret C dX9_meetsIn_47 E hf
  refine A_aload_n C dX9_meetsIn_25 (i := 0) rfl 0 rfl 26 rfl ?_
  refine A_iconst (v := 1) C dX9_meetsIn_26 (by decide) 27 rfl ?_
  refine CVi C dX9_meetsIn_27 9 k0 (by decide) (r := (RX9, TX9, 44)) rfl rfl hf (fun _ _ e => mX9_no k0 e) lkRX9_194 (by decide) (by decide) rfl [] rfl (Nat.le_of_ble_eq_true rfl) 30 rfl (fun r27 h27 hf => ?_)
  exact A_iret C dX9_meetsIn_30 E hf
set_option maxRecDepth 20000 in
theorem wX9_left_L42 {K : KX} {G : GX} (C : Ok K G 7 cX9_left RX9) (hnl : G.2.2.2.2.2.2.2.2.2.2.2.2.2 = 3) {rv : Int32} {hv : HH} (E : Endd K G (some .int) (some (.int rv)) hv) {x0 : Nat}   (kx0 : isK 9 x0) : ∀ (self42 : Int32 → Int32 → HH → Option (Int32 × HH)), (∀ (x1 : Int32) (x2 : Int32) (h : HH), self42 x1 x2 h = some (rv, hv) → At K G 42 [(0, .ref (K.2.1 x0)), (1, .int x1), (2, .int x2)] [] h) → ∀ (x1 : Int32) (x2 : Int32) (h : HH), fX9_left_L42 x0 self42 x1 x2 h = some (rv, hv) → At K G 42 [(0, .ref (K.2.1 x0)), (1, .int x1), (2, .int x2)] [] h := by
  intro self42 Hself42 x1 x2 h hf
  unfold fX9_left_L42 at hf
  refine A_iload_n C dX9_left_42 (i := 2) rfl 2 rfl 43 rfl ?_
  refine A_aload_n C dX9_left_43 (i := 0) rfl 0 rfl 44 rfl ?_
  refine gfRX9_20 C kx0 dX9_left_44 47 rfl ?_
  refine A_iconst (v := 4) C dX9_left_47 (by decide) 48 rfl ?_
  refine A_iald C dX9_left_48 (of_9_15 kx0) hf 49 rfl (fun hf => ?_)
  refine A_icmp_ge C dX9_left_49 77 (by decide) 52 rfl hf (fun c49 hf => ?_) (fun c49 hf => ?_)
  · refine A_aload_n C dX9_left_77 (i := 0) rfl 0 rfl 78 rfl ?_
    refine CVv C dX9_left_78 9 kx0 (by decide) (r := (RX9, TX9, 44)) rfl rfl hf (fun _ e => mX9_bringBack kx0 e) lkRX9_371 (by decide) (by decide) rfl [] rfl (Nat.le_of_ble_eq_true rfl) 81 rfl (fun h78 hf => ?_)
    refine A_iload_n C dX9_left_81 (i := 1) rfl 1 rfl 82 rfl ?_
    exact A_iret C dX9_left_82 E hf
  refine A_iload_n C dX9_left_52 (i := 1) rfl 1 rfl 53 rfl ?_
  refine A_aload_n C dX9_left_53 (i := 0) rfl 0 rfl 54 rfl ?_
  refine A_iload_n C dX9_left_54 (i := 2) rfl 2 rfl 55 rfl ?_
  refine A_iconst (v := 0) C dX9_left_55 (by decide) 56 rfl ?_
  refine CVi C dX9_left_56 9 kx0 (by decide) (r := (RX9, TX9, 44)) rfl rfl hf (fun _ _ e => mX9_its kx0 e) lkRX9_310 (by decide) (by decide) rfl [.int x1] rfl (Nat.le_of_ble_eq_true rfl) 59 rfl (fun r56 h56 hf => ?_)
  refine A_if_le C dX9_left_59 68 (by decide) 62 rfl hf (fun c59 hf => ?_) (fun c59 hf => ?_)
  · refine A_iconst (v := 0) C dX9_left_68 (by decide) 69 rfl ?_
    refine A_ior C dX9_left_69 70 rfl ?_
    refine A_namI hf (fun y1 hf => ?_)
    refine A_istore_n C dX9_left_70 (i := 1) rfl [(1, .int y1), (0, .ref (K.2.1 x0)), (2, .int x2)] (lt_nl hnl (by decide)) rfl 71 rfl ?_
    refine A_iinc (v := (x2 + 1)) C dX9_left_71 2 rfl rfl [(2, .int (x2 + 1)), (1, .int y1), (0, .ref (K.2.1 x0))] (lt_nl hnl (by decide)) rfl 74 rfl ?_
    refine A_goto C dX9_left_74 42 (by decide) ?_
    refine A_sub [2, 1, 0] (lv' := [(0, .ref (K.2.1 x0)), (1, .int y1), (2, .int (x2 + 1))]) rfl ?_
    exact Hself42 _ _ _ hf
  refine A_iconst (v := 1) C dX9_left_62 (by decide) 63 rfl ?_
  refine A_iload_n C dX9_left_63 (i := 2) rfl 2 rfl 64 rfl ?_
  refine A_ishl C dX9_left_64 65 rfl ?_
  refine A_goto C dX9_left_65 69 (by decide) ?_
  refine A_ior C dX9_left_69 70 rfl ?_
  refine A_namI hf (fun y2 hf => ?_)
  refine A_istore_n C dX9_left_70 (i := 1) rfl [(1, .int y2), (0, .ref (K.2.1 x0)), (2, .int x2)] (lt_nl hnl (by decide)) rfl 71 rfl ?_
  refine A_iinc (v := (x2 + 1)) C dX9_left_71 2 rfl rfl [(2, .int (x2 + 1)), (1, .int y2), (0, .ref (K.2.1 x0))] (lt_nl hnl (by decide)) rfl 74 rfl ?_
  refine A_goto C dX9_left_74 42 (by decide) ?_
  refine A_sub [2, 1, 0] (lv' := [(0, .ref (K.2.1 x0)), (1, .int y2), (2, .int (x2 + 1))]) rfl ?_
  exact Hself42 _ _ _ hf
set_option maxRecDepth 20000 in
theorem mX9_left {K : KX} {x0 : Nat} (k0 : isK 9 x0) {h : HH} {rv : Int32} {hv : HH} (hf : fX9_left x0 h = some (rv, hv)) : MR K yX9_left cX9_left 3 (some .int) 7 [.ref (K.2.1 x0)] h (some (.int rv)) hv := by
  refine MR_of (by decide) (Nat.le_of_ble_eq_true rfl) (fun G C E hnl => ?_)
  have C : Ok K G 7 cX9_left RX9 := C
  refine (show At K G 0 [(0, .ref (K.2.1 x0))] [] h from ?_)
  unfold fX9_left at hf
  refine A_aload_n C dX9_left_0 (i := 0) rfl 0 rfl 1 rfl ?_
  refine CVv C dX9_left_1 9 k0 (by decide) (r := (RX9, TX9, 44)) rfl rfl hf (fun _ e => mX9_good k0 e) lkRX9_191 (by decide) (by decide) rfl [] rfl (Nat.le_of_ble_eq_true rfl) 4 rfl (fun h1 hf => ?_)
  refine A_aload_n C dX9_left_4 (i := 0) rfl 0 rfl 5 rfl ?_
  refine gfRX9_204 C k0 dX9_left_5 8 rfl ?_
  refine A_if_ne C dX9_left_8 17 (by decide) 11 rfl hf (fun c8 hf => ?_) (fun c8 hf => ?_)
  · refine A_aload_n C dX9_left_17 (i := 0) rfl 0 rfl 18 rfl ?_
    refine CVv C dX9_left_18 9 k0 (by decide) (r := (RX9, TX9, 44)) rfl rfl hf (fun _ e => mX9_save k0 e) lkRX9_364 (by decide) (by decide) rfl [] rfl (Nat.le_of_ble_eq_true rfl) 21 rfl (fun h18 hf => ?_)
    refine A_aload_n C dX9_left_21 (i := 0) rfl 0 rfl 22 rfl ?_
    refine A_aload_n C dX9_left_22 (i := 0) rfl 0 rfl 23 rfl ?_
    refine gfRX9_20 C k0 dX9_left_23 26 rfl ?_
    refine A_iconst (v := 2) C dX9_left_26 (by decide) 27 rfl ?_
    refine A_iald C dX9_left_27 (of_9_15 k0) hf 28 rfl (fun hf => ?_)
    refine A_i2l C dX9_left_28 29 rfl ?_
    refine A_aload_n C dX9_left_29 (i := 0) rfl 0 rfl 30 rfl ?_
    refine CVi C dX9_left_30 9 k0 (by decide) (r := (RX9, TX9, 44)) rfl rfl hf (fun _ _ e => mX9_bottom k0 e) lkRX9_307 (by decide) (by decide) rfl [.long (((gI h18 (x0 + 3) (ix 2))).toInt64), .ref (K.2.1 x0)] rfl (Nat.le_of_ble_eq_true rfl) 33 rfl (fun r30 h30 hf => ?_)
    refine A_i2l C dX9_left_33 34 rfl ?_
    refine A_lmul C dX9_left_34 35 rfl ?_
    refine CVv C dX9_left_35 9 k0 (by decide) (r := (RX9, TX9, 44)) rfl rfl hf (fun _ e => mX9_goOn k0 e) lkRX9_367 (by decide) (by decide) rfl [] rfl (Nat.le_of_ble_eq_true rfl) 38 rfl (fun h35 hf => ?_)
    refine A_iconst (v := 0) C dX9_left_38 (by decide) 39 rfl ?_
    refine A_istore_n C dX9_left_39 (i := 1) rfl [(1, .int 0), (0, .ref (K.2.1 x0))] (lt_nl hnl (by decide)) rfl 40 rfl ?_
    refine A_iconst (v := 0) C dX9_left_40 (by decide) 41 rfl ?_
    refine A_istore_n C dX9_left_41 (i := 2) rfl [(2, .int 0), (1, .int 0), (0, .ref (K.2.1 x0))] (lt_nl hnl (by decide)) rfl 42 rfl ?_
    refine A_sub [2, 1, 0] (lv' := [(0, .ref (K.2.1 x0)), (1, .int 0), (2, .int 0)]) rfl ?_
    refine lq2_at (wX9_left_L42 C hnl E k0) FU _ _ _ hf
  refine A_aload_n C dX9_left_11 (i := 0) rfl 0 rfl 12 rfl ?_
  refine A_iconst (v := 1) C dX9_left_12 (by decide) 13 rfl ?_
  refine CVi C dX9_left_13 9 k0 (by decide) (r := (RX9, TX9, 44)) rfl rfl hf (fun _ _ e => mX9_no k0 e) lkRX9_194 (by decide) (by decide) rfl [] rfl (Nat.le_of_ble_eq_true rfl) 16 rfl (fun r13 h13 hf => ?_)
  exact A_iret C dX9_left_16 E hf
set_option maxRecDepth 20000 in
theorem mX9_woken {K : KX} {x0 : Nat} {x1 : Int32} {x2 : Int32} (k0 : isK 9 x0) {h : HH} {rv : Int32} {hv : HH} (hf : fX9_woken x0 x1 x2 h = some (rv, hv)) : MR K yX9_woken cX9_woken 4 (some .int) 8 [.ref (K.2.1 x0), .int x1, .int x2] h (some (.int rv)) hv := by
  refine MR_of (by decide) (Nat.le_of_ble_eq_true rfl) (fun G C E hnl => ?_)
  have C : Ok K G 8 cX9_woken RX9 := C
  refine (show At K G 0 [(0, .ref (K.2.1 x0)), (1, .int x1), (2, .int x2)] [] h from ?_)
  unfold fX9_woken at hf
  refine A_aload_n C dX9_woken_0 (i := 0) rfl 0 rfl 1 rfl ?_
  refine CVv C dX9_woken_1 9 k0 (by decide) (r := (RX9, TX9, 44)) rfl rfl hf (fun _ e => mX9_good k0 e) lkRX9_191 (by decide) (by decide) rfl [] rfl (Nat.le_of_ble_eq_true rfl) 4 rfl (fun h1 hf => ?_)
  refine A_aload_n C dX9_woken_4 (i := 0) rfl 0 rfl 5 rfl ?_
  refine A_iload_n C dX9_woken_5 (i := 1) rfl 1 rfl 6 rfl ?_
  refine A_iload_n C dX9_woken_6 (i := 2) rfl 2 rfl 7 rfl ?_
  refine CVi C dX9_woken_7 9 k0 (by decide) (r := (RX9, TX9, 44)) rfl rfl hf (fun _ _ e => mX9_inWhy k0 e) lkRX9_374 (by decide) (by decide) rfl [] rfl (Nat.le_of_ble_eq_true rfl) 10 rfl (fun r7 h7 hf => ?_)
  refine A_istore_n C dX9_woken_10 (i := 3) rfl [(3, .int r7), (0, .ref (K.2.1 x0)), (1, .int x1), (2, .int x2)] (lt_nl hnl (by decide)) rfl 11 rfl ?_
  refine A_iload_n C dX9_woken_11 (i := 3) rfl 0 rfl 12 rfl ?_
  refine A_if_eq C dX9_woken_12 23 (by decide) 15 rfl hf (fun c12 hf => ?_) (fun c12 hf => ?_)
  · refine A_aload_n C dX9_woken_23 (i := 0) rfl 1 rfl 24 rfl ?_
    refine A_iload_n C dX9_woken_24 (i := 1) rfl 2 rfl 25 rfl ?_
    refine A_iload_n C dX9_woken_25 (i := 2) rfl 3 rfl 26 rfl ?_
    refine A_iconst (v := 3) C dX9_woken_26 (by decide) 27 rfl ?_
    refine CVi C dX9_woken_27 9 k0 (by decide) (r := (RX9, TX9, 44)) rfl rfl hf (fun _ _ e => mX9_itsIn k0 e) lkRX9_377 (by decide) (by decide) rfl [] rfl (Nat.le_of_ble_eq_true rfl) 30 rfl (fun r27 h27 hf => ?_)
    refine A_aload_n C dX9_woken_30 (i := 0) rfl 1 rfl 31 rfl ?_
    refine A_iload_n C dX9_woken_31 (i := 1) rfl 2 rfl 32 rfl ?_
    refine A_iconst (v := 3) C dX9_woken_32 (by decide) 33 rfl ?_
    refine CVi C dX9_woken_33 9 k0 (by decide) (r := (RX9, TX9, 44)) rfl rfl hf (fun _ _ e => mX9_its k0 e) lkRX9_310 (by decide) (by decide) rfl [.int r27] rfl (Nat.le_of_ble_eq_true rfl) 36 rfl (fun r33 h33 hf => ?_)
    refine A_isub C dX9_woken_36 37 rfl ?_
    exact A_iret C dX9_woken_37 E hf
  refine A_aload_n C dX9_woken_15 (i := 0) rfl 1 rfl 16 rfl ?_
  refine A_iload_n C dX9_woken_16 (i := 3) rfl 0 rfl 17 rfl ?_
  refine CVi C dX9_woken_17 9 k0 (by decide) (r := (RX9, TX9, 44)) rfl rfl hf (fun _ _ e => mX9_no k0 e) lkRX9_194 (by decide) (by decide) rfl [] rfl (Nat.le_of_ble_eq_true rfl) 20 rfl (fun r17 h17 hf => ?_)
  refine A_goto C dX9_woken_20 37 (by decide) ?_
  exact A_iret C dX9_woken_37 E hf
set_option maxRecDepth 20000 in
theorem mX9_minutes {K : KX} {x0 : Nat} {x1 : Int32} {x2 : Int32} {x3 : Int32} {x4 : Bool} (k0 : isK 9 x0) {h : HH} {rv : Int64} {hv : HH} (hf : fX9_minutes x0 x1 x2 x3 x4 h = some (rv, hv)) : MR K yX9_minutes cX9_minutes 5 (some .long) 3 [.ref (K.2.1 x0), .int x1, .int x2, .int x3, .int (b2i x4)] h (some (.long rv)) hv := by
  refine MR_of (by decide) (Nat.le_of_ble_eq_true rfl) (fun G C E hnl => ?_)
  have C : Ok K G 3 cX9_minutes RX9 := C
  refine (show At K G 0 [(0, .ref (K.2.1 x0)), (1, .int x1), (2, .int x2), (3, .int x3), (4, .int (b2i x4))] [] h from ?_)
  unfold fX9_minutes at hf
  refine A_aload_n C dX9_minutes_0 (i := 0) rfl 0 rfl 1 rfl ?_
  refine CVv C dX9_minutes_1 9 k0 (by decide) (r := (RX9, TX9, 44)) rfl rfl hf (fun _ e => mX9_good k0 e) lkRX9_191 (by decide) (by decide) rfl [] rfl (Nat.le_of_ble_eq_true rfl) 4 rfl (fun h1 hf => ?_)
  refine A_aload_n C dX9_minutes_4 (i := 0) rfl 0 rfl 5 rfl ?_
  refine A_iload_n C dX9_minutes_5 (i := 1) rfl 1 rfl 6 rfl ?_
  refine CVz C dX9_minutes_6 9 k0 (by decide) (r := (RX9, TX9, 44)) rfl rfl hf (fun _ _ e => mX9_isFloor k0 e) lkRX9_350 (by decide) (by decide) rfl [] rfl (Nat.le_of_ble_eq_true rfl) 9 rfl (fun r6 h6 hf => ?_)
  refine A_z_eq C dX9_minutes_9 20 (by decide) 12 rfl hf (fun c9 hf => ?_) (fun c9 hf => ?_)
  · refine A_aload_n C dX9_minutes_20 (i := 0) rfl 0 rfl 21 rfl ?_
    refine A_iconst (v := 1) C dX9_minutes_21 (by decide) 22 rfl ?_
    refine CVi C dX9_minutes_22 9 k0 (by decide) (r := (RX9, TX9, 44)) rfl rfl hf (fun _ _ e => mX9_no k0 e) lkRX9_194 (by decide) (by decide) rfl [] rfl (Nat.le_of_ble_eq_true rfl) 25 rfl (fun r22 h22 hf => ?_)
    refine A_i2l C dX9_minutes_25 26 rfl ?_
    exact A_lret C dX9_minutes_26 E hf
  refine A_aload_n C dX9_minutes_12 (i := 0) rfl 0 rfl 13 rfl ?_
  refine A_iload_n C dX9_minutes_13 (i := 2) rfl 2 rfl 14 rfl ?_
  refine CVz C dX9_minutes_14 9 k0 (by decide) (r := (RX9, TX9, 44)) rfl rfl hf (fun _ _ e => mX9_isFloor k0 e) lkRX9_350 (by decide) (by decide) rfl [] rfl (Nat.le_of_ble_eq_true rfl) 17 rfl (fun r14 h14 hf => ?_)
  refine A_z_ne C dX9_minutes_17 27 (by decide) 20 rfl hf (fun c17 hf => ?_) (fun c17 hf => ?_)
  · refine A_iload_n C dX9_minutes_27 (i := 3) rfl 3 rfl 28 rfl ?_
    refine A_iconst (v := 0) C dX9_minutes_28 (by decide) 29 rfl ?_
    refine A_sipush (v := 9999) C dX9_minutes_29 (by decide) 32 rfl ?_
    refine CSz C dX9_minutes_32 hf (fun _ _ e => mX9_within  e) lkRX9_170 (by decide) (by decide) rfl [] rfl (Nat.le_of_ble_eq_true rfl) 35 rfl (fun r32 h32 hf => ?_)
    refine A_z_eq C dX9_minutes_35 61 (by decide) 38 rfl hf (fun c35 hf => ?_) (fun c35 hf => ?_)
    · refine A_aload_n C dX9_minutes_61 (i := 0) rfl 0 rfl 62 rfl ?_
      refine A_iconst (v := 2) C dX9_minutes_62 (by decide) 63 rfl ?_
      refine CVi C dX9_minutes_63 9 k0 (by decide) (r := (RX9, TX9, 44)) rfl rfl hf (fun _ _ e => mX9_no k0 e) lkRX9_194 (by decide) (by decide) rfl [] rfl (Nat.le_of_ble_eq_true rfl) 66 rfl (fun r63 h63 hf => ?_)
      refine A_i2l C dX9_minutes_66 67 rfl ?_
      exact A_lret C dX9_minutes_67 E hf
    refine A_iload_n C dX9_minutes_38 (i := 3) rfl 3 rfl 39 rfl ?_
    refine A_i2l C dX9_minutes_39 40 rfl ?_
    refine A_aload_n C dX9_minutes_40 (i := 0) rfl 0 rfl 41 rfl ?_
    refine A_iload_n C dX9_minutes_41 (i := 2) rfl 2 rfl 42 rfl ?_
    refine CVi C dX9_minutes_42 9 k0 (by decide) (r := (RX9, TX9, 44)) rfl rfl hf (fun _ _ e => mX9_quickOf k0 e) lkRX9_304 (by decide) (by decide) rfl [.long x3.toInt64] rfl (Nat.le_of_ble_eq_true rfl) 45 rfl (fun r42 h42 hf => ?_)
    refine A_i2l C dX9_minutes_45 46 rfl ?_
    refine A_lmul C dX9_minutes_46 47 rfl ?_
    refine A_aload_n C dX9_minutes_47 (i := 0) rfl 0 rfl 48 rfl ?_
    refine A_iload_n C dX9_minutes_48 (i := 1) rfl 1 rfl 49 rfl ?_
    refine CVi C dX9_minutes_49 9 k0 (by decide) (r := (RX9, TX9, 44)) rfl rfl hf (fun _ _ e => mX9_quickOf k0 e) lkRX9_304 (by decide) (by decide) rfl [.long (x3.toInt64 * r42.toInt64)] rfl (Nat.le_of_ble_eq_true rfl) 52 rfl (fun r49 h49 hf => ?_)
    refine A_i2l C dX9_minutes_52 53 rfl ?_
    refine A_iload C dX9_minutes_53 4 rfl 55 rfl ?_
    refine CSl C dX9_minutes_55 hf (fun _ _ e => mX9_lowest  e) lkRX9_356 (by decide) (by decide) rfl [] rfl (Nat.le_of_ble_eq_true rfl) 58 rfl (fun r55 h55 hf => ?_)
    refine A_goto C dX9_minutes_58 67 (by decide) ?_
    exact A_lret C dX9_minutes_67 E hf
  refine A_aload_n C dX9_minutes_20 (i := 0) rfl 0 rfl 21 rfl ?_
  refine A_iconst (v := 1) C dX9_minutes_21 (by decide) 22 rfl ?_
  refine CVi C dX9_minutes_22 9 k0 (by decide) (r := (RX9, TX9, 44)) rfl rfl hf (fun _ _ e => mX9_no k0 e) lkRX9_194 (by decide) (by decide) rfl [] rfl (Nat.le_of_ble_eq_true rfl) 25 rfl (fun r22 h22 hf => ?_)
  refine A_i2l C dX9_minutes_25 26 rfl ?_
  exact A_lret C dX9_minutes_26 E hf
set_option maxRecDepth 20000 in
theorem wX9_awakeIn_L28 {K : KX} {G : GX} (C : Ok K G 7 cX9_awakeIn RX9) (hnl : G.2.2.2.2.2.2.2.2.2.2.2.2.2 = 6) {rv : Int32} {hv : HH} (E : Endd K G (some .int) (some (.int rv)) hv) {x0 : Nat} {x1 : Int32} {x2 : Int32} {k28_65 : Int32 → HH → Option (Int32 × HH)}  (Hk28_65 : ∀ (x4 : Int32) (h : HH), k28_65 x4 h = some (rv, hv) → At K G 65 [(0, .ref (K.2.1 x0)), (1, .int x1), (4, .int x4)] [] h) (kx0 : isK 9 x0) : ∀ (self28 : Int32 → HH → Option (Int32 × HH)), (∀ (x4 : Int32) (h : HH), self28 x4 h = some (rv, hv) → At K G 28 [(0, .ref (K.2.1 x0)), (1, .int x1), (2, .int x2), (4, .int x4)] [] h) → ∀ (x4 : Int32) (h : HH), fX9_awakeIn_L28 k28_65 x0 x1 x2 self28 x4 h = some (rv, hv) → At K G 28 [(0, .ref (K.2.1 x0)), (1, .int x1), (2, .int x2), (4, .int x4)] [] h := by
  intro self28 Hself28 x4 h hf
  unfold fX9_awakeIn_L28 at hf
  refine A_iload C dX9_awakeIn_28 3 rfl 30 rfl ?_
  refine A_iload_n C dX9_awakeIn_30 (i := 2) rfl 2 rfl 31 rfl ?_
  refine A_icmp_ge C dX9_awakeIn_31 65 (by decide) 34 rfl hf (fun c31 hf => ?_) (fun c31 hf => ?_)
  · refine A_sub [0, 1, 3] (lv' := [(0, .ref (K.2.1 x0)), (1, .int x1), (4, .int x4)]) rfl ?_
    exact Hk28_65 _ _ hf
  refine A_aload_n C dX9_awakeIn_34 (i := 0) rfl 0 rfl 35 rfl ?_
  refine A_iload_n C dX9_awakeIn_35 (i := 1) rfl 1 rfl 36 rfl ?_
  refine A_iconst (v := 0) C dX9_awakeIn_36 (by decide) 37 rfl ?_
  refine CVi C dX9_awakeIn_37 9 kx0 (by decide) (r := (RX9, TX9, 44)) rfl rfl hf (fun _ _ e => mX9_its kx0 e) lkRX9_310 (by decide) (by decide) rfl [] rfl (Nat.le_of_ble_eq_true rfl) 40 rfl (fun r37 h37 hf => ?_)
  refine A_if_le C dX9_awakeIn_40 65 (by decide) 43 rfl hf (fun c40 hf => ?_) (fun c40 hf => ?_)
  · refine A_sub [0, 1, 3] (lv' := [(0, .ref (K.2.1 x0)), (1, .int x1), (4, .int x4)]) rfl ?_
    exact Hk28_65 _ _ hf
  refine A_aload_n C dX9_awakeIn_43 (i := 0) rfl 0 rfl 44 rfl ?_
  refine A_aload_n C dX9_awakeIn_44 (i := 0) rfl 0 rfl 45 rfl ?_
  refine gfRX9_38 C kx0 dX9_awakeIn_45 48 rfl ?_
  refine A_iconst (v := 0) C dX9_awakeIn_48 (by decide) 49 rfl ?_
  refine A_lald C dX9_awakeIn_49 (of_9_21 kx0) hf 50 rfl (fun hf => ?_)
  refine A_aload_n C dX9_awakeIn_50 (i := 0) rfl 0 rfl 51 rfl ?_
  refine CVi C dX9_awakeIn_51 9 kx0 (by decide) (r := (RX9, TX9, 44)) rfl rfl hf (fun _ _ e => mX9_bottom kx0 e) lkRX9_307 (by decide) (by decide) rfl [.long (gL h37 (x0 + 9) (ix 0)), .ref (K.2.1 x0)] rfl (Nat.le_of_ble_eq_true rfl) 54 rfl (fun r51 h51 hf => ?_)
  refine A_i2l C dX9_awakeIn_54 55 rfl ?_
  refine A_ladd C dX9_awakeIn_55 56 rfl ?_
  refine CVv C dX9_awakeIn_56 9 kx0 (by decide) (r := (RX9, TX9, 44)) rfl rfl hf (fun _ e => mX9_goOn kx0 e) lkRX9_367 (by decide) (by decide) rfl [] rfl (Nat.le_of_ble_eq_true rfl) 59 rfl (fun h56 hf => ?_)
  refine A_iinc (v := (x4 + 1)) C dX9_awakeIn_59 3 rfl rfl [(4, .int (x4 + 1)), (0, .ref (K.2.1 x0)), (1, .int x1), (2, .int x2)] (lt_nl hnl (by decide)) rfl 62 rfl ?_
  refine A_goto C dX9_awakeIn_62 28 (by decide) ?_
  refine A_sub [1, 2, 3, 0] (lv' := [(0, .ref (K.2.1 x0)), (1, .int x1), (2, .int x2), (4, .int (x4 + 1))]) rfl ?_
  exact Hself28 _ _ hf
set_option maxRecDepth 20000 in
theorem mX9_awakeIn {K : KX} {x0 : Nat} {x1 : Int32} {x2 : Int32} (k0 : isK 9 x0) {h : HH} {rv : Int32} {hv : HH} (hf : fX9_awakeIn x0 x1 x2 h = some (rv, hv)) : MR K yX9_awakeIn cX9_awakeIn 6 (some .int) 7 [.ref (K.2.1 x0), .int x1, .int x2] h (some (.int rv)) hv := by
  refine MR_of (by decide) (Nat.le_of_ble_eq_true rfl) (fun G C E hnl => ?_)
  have C : Ok K G 7 cX9_awakeIn RX9 := C
  refine (show At K G 0 [(0, .ref (K.2.1 x0)), (1, .int x1), (2, .int x2)] [] h from ?_)
  unfold fX9_awakeIn at hf
  refine A_aload_n C dX9_awakeIn_0 (i := 0) rfl 0 rfl 1 rfl ?_
  refine CVv C dX9_awakeIn_1 9 k0 (by decide) (r := (RX9, TX9, 44)) rfl rfl hf (fun _ e => mX9_good k0 e) lkRX9_191 (by decide) (by decide) rfl [] rfl (Nat.le_of_ble_eq_true rfl) 4 rfl (fun h1 hf => ?_)
  refine A_aload_n C dX9_awakeIn_4 (i := 0) rfl 0 rfl 5 rfl ?_
  refine A_iload_n C dX9_awakeIn_5 (i := 1) rfl 1 rfl 6 rfl ?_
  refine A_iload_n C dX9_awakeIn_6 (i := 2) rfl 2 rfl 7 rfl ?_
  refine CVi C dX9_awakeIn_7 9 k0 (by decide) (r := (RX9, TX9, 44)) rfl rfl hf (fun _ _ e => mX9_inWhy k0 e) lkRX9_374 (by decide) (by decide) rfl [] rfl (Nat.le_of_ble_eq_true rfl) 10 rfl (fun r7 h7 hf => ?_)
  refine A_istore_n C dX9_awakeIn_10 (i := 3) rfl [(3, .int r7), (0, .ref (K.2.1 x0)), (1, .int x1), (2, .int x2)] (lt_nl hnl (by decide)) rfl 11 rfl ?_
  refine A_iload_n C dX9_awakeIn_11 (i := 3) rfl 0 rfl 12 rfl ?_
  refine A_if_eq C dX9_awakeIn_12 21 (by decide) 15 rfl hf (fun c12 hf => ?_) (fun c12 hf => ?_)
  · refine A_aload_n C dX9_awakeIn_21 (i := 0) rfl 1 rfl 22 rfl ?_
    refine CVv C dX9_awakeIn_22 9 k0 (by decide) (r := (RX9, TX9, 44)) rfl rfl hf (fun _ e => mX9_save k0 e) lkRX9_364 (by decide) (by decide) rfl [] rfl (Nat.le_of_ble_eq_true rfl) 25 rfl (fun h22 hf => ?_)
    refine A_iconst (v := 0) C dX9_awakeIn_25 (by decide) 26 rfl ?_
    refine A_istore C dX9_awakeIn_26 [(4, .int 0), (3, .int r7), (0, .ref (K.2.1 x0)), (1, .int x1), (2, .int x2)] (lt_nl hnl (by decide)) rfl 28 rfl ?_
    refine A_sub [2, 3, 4, 0] (lv' := [(0, .ref (K.2.1 x0)), (1, .int x1), (2, .int x2), (4, .int 0)]) rfl ?_
    refine lq1_at (wX9_awakeIn_L28 C hnl E (fun x4 h hf => ?_) k0) FU _ _ hf
    refine A_aload_n C dX9_awakeIn_65 (i := 0) rfl 0 rfl 66 rfl ?_
    refine A_iload_n C dX9_awakeIn_66 (i := 1) rfl 1 rfl 67 rfl ?_
    refine A_iconst (v := 0) C dX9_awakeIn_67 (by decide) 68 rfl ?_
    refine CVi C dX9_awakeIn_68 9 k0 (by decide) (r := (RX9, TX9, 44)) rfl rfl hf (fun _ _ e => mX9_its k0 e) lkRX9_310 (by decide) (by decide) rfl [] rfl (Nat.le_of_ble_eq_true rfl) 71 rfl (fun r68 h68 hf => ?_)
    refine A_if_ne C dX9_awakeIn_71 78 (by decide) 74 rfl hf (fun c71 hf => ?_) (fun c71 hf => ?_)
    · refine A_iconst (v := 0) C dX9_awakeIn_78 (by decide) 79 rfl ?_
      refine A_istore C dX9_awakeIn_79 [(5, .int 0), (0, .ref (K.2.1 x0)), (1, .int x1), (4, .int x4)] (lt_nl hnl (by decide)) rfl 81 rfl ?_
      refine A_aload_n C dX9_awakeIn_81 (i := 0) rfl 1 rfl 82 rfl ?_
      refine CVv C dX9_awakeIn_82 9 k0 (by decide) (r := (RX9, TX9, 44)) rfl rfl hf (fun _ e => mX9_bringBack k0 e) lkRX9_371 (by decide) (by decide) rfl [] rfl (Nat.le_of_ble_eq_true rfl) 85 rfl (fun h82 hf => ?_)
      refine A_iload C dX9_awakeIn_85 0 rfl 87 rfl ?_
      refine T_if_eq C dX9_awakeIn_87 95 (by decide) (by decide) ?_
      refine A_bipush (v := (-2)) C dX9_awakeIn_95 (by decide) 97 rfl ?_
      exact A_iret C dX9_awakeIn_97 E hf
    refine A_iconst (v := 1) C dX9_awakeIn_74 (by decide) 75 rfl ?_
    refine A_goto C dX9_awakeIn_75 79 (by decide) ?_
    refine A_istore C dX9_awakeIn_79 [(5, .int 1), (0, .ref (K.2.1 x0)), (1, .int x1), (4, .int x4)] (lt_nl hnl (by decide)) rfl 81 rfl ?_
    refine A_aload_n C dX9_awakeIn_81 (i := 0) rfl 1 rfl 82 rfl ?_
    refine CVv C dX9_awakeIn_82 9 k0 (by decide) (r := (RX9, TX9, 44)) rfl rfl hf (fun _ e => mX9_bringBack k0 e) lkRX9_371 (by decide) (by decide) rfl [] rfl (Nat.le_of_ble_eq_true rfl) 85 rfl (fun h82 hf => ?_)
    refine A_iload C dX9_awakeIn_85 0 rfl 87 rfl ?_
    refine N_if_eq C dX9_awakeIn_87 95 (by decide) (by decide) 90 rfl ?_
    refine A_iload C dX9_awakeIn_90 3 rfl 92 rfl ?_
    refine A_goto C dX9_awakeIn_92 97 (by decide) ?_
    exact A_iret C dX9_awakeIn_97 E hf
  refine A_aload_n C dX9_awakeIn_15 (i := 0) rfl 1 rfl 16 rfl ?_
  refine A_iload_n C dX9_awakeIn_16 (i := 3) rfl 0 rfl 17 rfl ?_
  refine CVi C dX9_awakeIn_17 9 k0 (by decide) (r := (RX9, TX9, 44)) rfl rfl hf (fun _ _ e => mX9_no k0 e) lkRX9_194 (by decide) (by decide) rfl [] rfl (Nat.le_of_ble_eq_true rfl) 20 rfl (fun r17 h17 hf => ?_)
  exact A_iret C dX9_awakeIn_20 E hf
set_option maxRecDepth 20000 in
theorem wX9_lonely_L72 {K : KX} {G : GX} (C : Ok K G 7 cX9_lonely RX9) (hnl : G.2.2.2.2.2.2.2.2.2.2.2.2.2 = 8) {rv : Int32} {hv : HH} (E : Endd K G (some .int) (some (.int rv)) hv) {x0 : Nat} {x1 : Int32} {x2 : Int32} {x4 : Int32} {x5 : Int32} {k72_117 : Bool → HH → Option (Int32 × HH)}  (Hk72_117 : ∀ (x6 : Bool) (h : HH), k72_117 x6 h = some (rv, hv) → At K G 117 [(0, .ref (K.2.1 x0)), (1, .int x1), (2, .int x2), (4, .int x4), (5, .int x5), (6, .int (b2i x6))] [] h) (kx0 : isK 9 x0) : ∀ (self72 : Bool → Int32 → HH → Option (Int32 × HH)), (∀ (x6 : Bool) (x7 : Int32) (h : HH), self72 x6 x7 h = some (rv, hv) → At K G 72 [(0, .ref (K.2.1 x0)), (1, .int x1), (2, .int x2), (4, .int x4), (5, .int x5), (6, .int (b2i x6)), (7, .int x7)] [] h) → ∀ (x6 : Bool) (x7 : Int32) (h : HH), fX9_lonely_L72 k72_117 x0 x1 x2 x4 x5 self72 x6 x7 h = some (rv, hv) → At K G 72 [(0, .ref (K.2.1 x0)), (1, .int x1), (2, .int x2), (4, .int x4), (5, .int x5), (6, .int (b2i x6)), (7, .int x7)] [] h := by
  intro self72 Hself72 x6 x7 h hf
  unfold fX9_lonely_L72 at hf
  refine A_iload C dX9_lonely_72 6 rfl 74 rfl ?_
  refine A_aload_n C dX9_lonely_74 (i := 0) rfl 0 rfl 75 rfl ?_
  refine gfRX9_20 C kx0 dX9_lonely_75 78 rfl ?_
  refine A_iconst (v := 4) C dX9_lonely_78 (by decide) 79 rfl ?_
  refine A_iald C dX9_lonely_79 (of_9_15 kx0) hf 80 rfl (fun hf => ?_)
  refine A_icmp_ge C dX9_lonely_80 117 (by decide) 83 rfl hf (fun c80 hf => ?_) (fun c80 hf => ?_)
  · refine A_sub [0, 1, 2, 3, 4, 5] (lv' := [(0, .ref (K.2.1 x0)), (1, .int x1), (2, .int x2), (4, .int x4), (5, .int x5), (6, .int (b2i x6))]) rfl ?_
    exact Hk72_117 _ _ hf
  refine A_iload C dX9_lonely_83 5 rfl 85 rfl ?_
  refine A_z_eq C dX9_lonely_85 108 (by decide) 88 rfl hf (fun c85 hf => ?_) (fun c85 hf => ?_)
  · refine A_iconst (v := 0) C dX9_lonely_108 (by decide) 109 rfl ?_
    refine A_istore C dX9_lonely_109 [(6, .int 0), (0, .ref (K.2.1 x0)), (1, .int x1), (2, .int x2), (4, .int x4), (5, .int x5), (7, .int x7)] (lt_nl hnl (by decide)) rfl 111 rfl ?_
    refine A_iinc (v := (x7 + 1)) C dX9_lonely_111 6 rfl rfl [(7, .int (x7 + 1)), (6, .int 0), (0, .ref (K.2.1 x0)), (1, .int x1), (2, .int x2), (4, .int x4), (5, .int x5)] (lt_nl hnl (by decide)) rfl 114 rfl ?_
    refine A_goto C dX9_lonely_114 72 (by decide) ?_
    refine A_sub [2, 3, 4, 5, 6, 1, 0] (lv' := [(0, .ref (K.2.1 x0)), (1, .int x1), (2, .int x2), (4, .int x4), (5, .int x5), (6, .int (b2i false)), (7, .int (x7 + 1))]) rfl ?_
    exact Hself72 _ _ _ hf
  refine A_iload C dX9_lonely_88 6 rfl 90 rfl ?_
  refine A_iload_n C dX9_lonely_90 (i := 1) rfl 1 rfl 91 rfl ?_
  refine A_icmp_eq C dX9_lonely_91 104 (by decide) 94 rfl hf (fun c91 hf => ?_) (fun c91 hf => ?_)
  · refine A_iconst (v := 1) C dX9_lonely_104 (by decide) 105 rfl ?_
    refine A_goto C dX9_lonely_105 109 (by decide) ?_
    refine A_istore C dX9_lonely_109 [(6, .int 1), (0, .ref (K.2.1 x0)), (1, .int x1), (2, .int x2), (4, .int x4), (5, .int x5), (7, .int x7)] (lt_nl hnl (by decide)) rfl 111 rfl ?_
    refine A_iinc (v := (x7 + 1)) C dX9_lonely_111 6 rfl rfl [(7, .int (x7 + 1)), (6, .int 1), (0, .ref (K.2.1 x0)), (1, .int x1), (2, .int x2), (4, .int x4), (5, .int x5)] (lt_nl hnl (by decide)) rfl 114 rfl ?_
    refine A_goto C dX9_lonely_114 72 (by decide) ?_
    refine A_sub [2, 3, 4, 5, 6, 1, 0] (lv' := [(0, .ref (K.2.1 x0)), (1, .int x1), (2, .int x2), (4, .int x4), (5, .int x5), (6, .int (b2i true)), (7, .int (x7 + 1))]) rfl ?_
    exact Hself72 _ _ _ hf
  refine A_aload_n C dX9_lonely_94 (i := 0) rfl 0 rfl 95 rfl ?_
  refine A_iload_n C dX9_lonely_95 (i := 1) rfl 1 rfl 96 rfl ?_
  refine A_iload C dX9_lonely_96 6 rfl 98 rfl ?_
  refine CVz C dX9_lonely_98 9 kx0 (by decide) (r := (RX9, TX9, 44)) rfl rfl hf (fun _ _ e => mX9_doMeet kx0 e) lkRX9_360 (by decide) (by decide) rfl [] rfl (Nat.le_of_ble_eq_true rfl) 101 rfl (fun r98 h98 hf => ?_)
  refine A_z_ne C dX9_lonely_101 108 (by decide) 104 rfl hf (fun c101 hf => ?_) (fun c101 hf => ?_)
  · refine A_iconst (v := 0) C dX9_lonely_108 (by decide) 109 rfl ?_
    refine A_istore C dX9_lonely_109 [(6, .int 0), (0, .ref (K.2.1 x0)), (1, .int x1), (2, .int x2), (4, .int x4), (5, .int x5), (7, .int x7)] (lt_nl hnl (by decide)) rfl 111 rfl ?_
    refine A_iinc (v := (x7 + 1)) C dX9_lonely_111 6 rfl rfl [(7, .int (x7 + 1)), (6, .int 0), (0, .ref (K.2.1 x0)), (1, .int x1), (2, .int x2), (4, .int x4), (5, .int x5)] (lt_nl hnl (by decide)) rfl 114 rfl ?_
    refine A_goto C dX9_lonely_114 72 (by decide) ?_
    refine A_sub [2, 3, 4, 5, 6, 1, 0] (lv' := [(0, .ref (K.2.1 x0)), (1, .int x1), (2, .int x2), (4, .int x4), (5, .int x5), (6, .int (b2i false)), (7, .int (x7 + 1))]) rfl ?_
    exact Hself72 _ _ _ hf
  refine A_iconst (v := 1) C dX9_lonely_104 (by decide) 105 rfl ?_
  refine A_goto C dX9_lonely_105 109 (by decide) ?_
  refine A_istore C dX9_lonely_109 [(6, .int 1), (0, .ref (K.2.1 x0)), (1, .int x1), (2, .int x2), (4, .int x4), (5, .int x5), (7, .int x7)] (lt_nl hnl (by decide)) rfl 111 rfl ?_
  refine A_iinc (v := (x7 + 1)) C dX9_lonely_111 6 rfl rfl [(7, .int (x7 + 1)), (6, .int 1), (0, .ref (K.2.1 x0)), (1, .int x1), (2, .int x2), (4, .int x4), (5, .int x5)] (lt_nl hnl (by decide)) rfl 114 rfl ?_
  refine A_goto C dX9_lonely_114 72 (by decide) ?_
  refine A_sub [2, 3, 4, 5, 6, 1, 0] (lv' := [(0, .ref (K.2.1 x0)), (1, .int x1), (2, .int x2), (4, .int x4), (5, .int x5), (6, .int (b2i true)), (7, .int (x7 + 1))]) rfl ?_
  exact Hself72 _ _ _ hf
set_option maxRecDepth 20000 in
theorem wX9_lonely_L31 {K : KX} {G : GX} (C : Ok K G 7 cX9_lonely RX9) (hnl : G.2.2.2.2.2.2.2.2.2.2.2.2.2 = 8) {rv : Int32} {hv : HH} (E : Endd K G (some .int) (some (.int rv)) hv) {x0 : Nat} {x1 : Int32} {x2 : Int32}   (kx0 : isK 9 x0) : ∀ (self31 : Int32 → Int32 → HH → Option (Int32 × HH)), (∀ (x4 : Int32) (x5 : Int32) (h : HH), self31 x4 x5 h = some (rv, hv) → At K G 31 [(0, .ref (K.2.1 x0)), (1, .int x1), (2, .int x2), (4, .int x4), (5, .int x5)] [] h) → ∀ (x4 : Int32) (x5 : Int32) (h : HH), fX9_lonely_L31 x0 x1 x2 self31 x4 x5 h = some (rv, hv) → At K G 31 [(0, .ref (K.2.1 x0)), (1, .int x1), (2, .int x2), (4, .int x4), (5, .int x5)] [] h := by
  intro self31 Hself31 x4 x5 h hf
  unfold fX9_lonely_L31 at hf
  refine A_iload C dX9_lonely_31 4 rfl 33 rfl ?_
  refine A_iload_n C dX9_lonely_33 (i := 2) rfl 2 rfl 34 rfl ?_
  refine A_icmp_ge C dX9_lonely_34 138 (by decide) 37 rfl hf (fun c34 hf => ?_) (fun c34 hf => ?_)
  · refine A_aload_n C dX9_lonely_138 (i := 0) rfl 0 rfl 139 rfl ?_
    refine CVv C dX9_lonely_139 9 kx0 (by decide) (r := (RX9, TX9, 44)) rfl rfl hf (fun _ e => mX9_bringBack kx0 e) lkRX9_371 (by decide) (by decide) rfl [] rfl (Nat.le_of_ble_eq_true rfl) 142 rfl (fun h139 hf => ?_)
    refine A_iload C dX9_lonely_142 3 rfl 144 rfl ?_
    exact A_iret C dX9_lonely_144 E hf
  refine A_aload_n C dX9_lonely_37 (i := 0) rfl 0 rfl 38 rfl ?_
  refine A_aload_n C dX9_lonely_38 (i := 0) rfl 0 rfl 39 rfl ?_
  refine gfRX9_38 C kx0 dX9_lonely_39 42 rfl ?_
  refine A_iconst (v := 0) C dX9_lonely_42 (by decide) 43 rfl ?_
  refine A_lald C dX9_lonely_43 (of_9_21 kx0) hf 44 rfl (fun hf => ?_)
  refine A_aload_n C dX9_lonely_44 (i := 0) rfl 0 rfl 45 rfl ?_
  refine CVi C dX9_lonely_45 9 kx0 (by decide) (r := (RX9, TX9, 44)) rfl rfl hf (fun _ _ e => mX9_bottom kx0 e) lkRX9_307 (by decide) (by decide) rfl [.long (gL h (x0 + 9) (ix 0)), .ref (K.2.1 x0)] rfl (Nat.le_of_ble_eq_true rfl) 48 rfl (fun r45 h45 hf => ?_)
  refine A_i2l C dX9_lonely_48 49 rfl ?_
  refine A_ladd C dX9_lonely_49 50 rfl ?_
  refine CVv C dX9_lonely_50 9 kx0 (by decide) (r := (RX9, TX9, 44)) rfl rfl hf (fun _ e => mX9_goOn kx0 e) lkRX9_367 (by decide) (by decide) rfl [] rfl (Nat.le_of_ble_eq_true rfl) 53 rfl (fun h50 hf => ?_)
  refine A_aload_n C dX9_lonely_53 (i := 0) rfl 0 rfl 54 rfl ?_
  refine A_iload_n C dX9_lonely_54 (i := 1) rfl 1 rfl 55 rfl ?_
  refine A_iconst (v := 0) C dX9_lonely_55 (by decide) 56 rfl ?_
  refine CVi C dX9_lonely_56 9 kx0 (by decide) (r := (RX9, TX9, 44)) rfl rfl hf (fun _ _ e => mX9_its kx0 e) lkRX9_310 (by decide) (by decide) rfl [] rfl (Nat.le_of_ble_eq_true rfl) 59 rfl (fun r56 h56 hf => ?_)
  refine A_if_le C dX9_lonely_59 66 (by decide) 62 rfl hf (fun c59 hf => ?_) (fun c59 hf => ?_)
  · refine A_iconst (v := 0) C dX9_lonely_66 (by decide) 67 rfl ?_
    refine A_istore C dX9_lonely_67 [(6, .int 0), (0, .ref (K.2.1 x0)), (1, .int x1), (2, .int x2), (4, .int x4), (5, .int x5)] (lt_nl hnl (by decide)) rfl 69 rfl ?_
    refine A_iconst (v := 0) C dX9_lonely_69 (by decide) 70 rfl ?_
    refine A_istore C dX9_lonely_70 [(7, .int 0), (6, .int 0), (0, .ref (K.2.1 x0)), (1, .int x1), (2, .int x2), (4, .int x4), (5, .int x5)] (lt_nl hnl (by decide)) rfl 72 rfl ?_
    refine A_sub [2, 3, 4, 5, 6, 1, 0] (lv' := [(0, .ref (K.2.1 x0)), (1, .int x1), (2, .int x2), (4, .int x4), (5, .int x5), (6, .int (b2i false)), (7, .int 0)]) rfl ?_
    refine lq2_at (wX9_lonely_L72 C hnl E (fun x6 h hf => ?_) kx0) FU _ _ _ hf
    refine A_iload C dX9_lonely_117 3 rfl 119 rfl ?_
    refine A_iload C dX9_lonely_119 5 rfl 121 rfl ?_
    refine A_z_eq C dX9_lonely_121 128 (by decide) 124 rfl hf (fun c121 hf => ?_) (fun c121 hf => ?_)
    · refine A_iconst (v := 0) C dX9_lonely_128 (by decide) 129 rfl ?_
      refine A_iadd C dX9_lonely_129 130 rfl ?_
      refine A_namI hf (fun y1 hf => ?_)
      refine A_istore C dX9_lonely_130 [(4, .int y1), (0, .ref (K.2.1 x0)), (1, .int x1), (2, .int x2), (5, .int x5), (6, .int (b2i x6))] (lt_nl hnl (by decide)) rfl 132 rfl ?_
      refine A_iinc (v := (x5 + 1)) C dX9_lonely_132 4 rfl rfl [(5, .int (x5 + 1)), (4, .int y1), (0, .ref (K.2.1 x0)), (1, .int x1), (2, .int x2), (6, .int (b2i x6))] (lt_nl hnl (by decide)) rfl 135 rfl ?_
      refine A_goto C dX9_lonely_135 31 (by decide) ?_
      refine A_sub [2, 3, 4, 1, 0] (lv' := [(0, .ref (K.2.1 x0)), (1, .int x1), (2, .int x2), (4, .int y1), (5, .int (x5 + 1))]) rfl ?_
      exact Hself31 _ _ _ hf
    refine A_iconst (v := 1) C dX9_lonely_124 (by decide) 125 rfl ?_
    refine A_goto C dX9_lonely_125 129 (by decide) ?_
    refine A_iadd C dX9_lonely_129 130 rfl ?_
    refine A_namI hf (fun y2 hf => ?_)
    refine A_istore C dX9_lonely_130 [(4, .int y2), (0, .ref (K.2.1 x0)), (1, .int x1), (2, .int x2), (5, .int x5), (6, .int (b2i x6))] (lt_nl hnl (by decide)) rfl 132 rfl ?_
    refine A_iinc (v := (x5 + 1)) C dX9_lonely_132 4 rfl rfl [(5, .int (x5 + 1)), (4, .int y2), (0, .ref (K.2.1 x0)), (1, .int x1), (2, .int x2), (6, .int (b2i x6))] (lt_nl hnl (by decide)) rfl 135 rfl ?_
    refine A_goto C dX9_lonely_135 31 (by decide) ?_
    refine A_sub [2, 3, 4, 1, 0] (lv' := [(0, .ref (K.2.1 x0)), (1, .int x1), (2, .int x2), (4, .int y2), (5, .int (x5 + 1))]) rfl ?_
    exact Hself31 _ _ _ hf
  refine A_iconst (v := 1) C dX9_lonely_62 (by decide) 63 rfl ?_
  refine A_goto C dX9_lonely_63 67 (by decide) ?_
  refine A_istore C dX9_lonely_67 [(6, .int 1), (0, .ref (K.2.1 x0)), (1, .int x1), (2, .int x2), (4, .int x4), (5, .int x5)] (lt_nl hnl (by decide)) rfl 69 rfl ?_
  refine A_iconst (v := 0) C dX9_lonely_69 (by decide) 70 rfl ?_
  refine A_istore C dX9_lonely_70 [(7, .int 0), (6, .int 1), (0, .ref (K.2.1 x0)), (1, .int x1), (2, .int x2), (4, .int x4), (5, .int x5)] (lt_nl hnl (by decide)) rfl 72 rfl ?_
  refine A_sub [2, 3, 4, 5, 6, 1, 0] (lv' := [(0, .ref (K.2.1 x0)), (1, .int x1), (2, .int x2), (4, .int x4), (5, .int x5), (6, .int (b2i true)), (7, .int 0)]) rfl ?_
  refine lq2_at (wX9_lonely_L72 C hnl E (fun x6 h hf => ?_) kx0) FU _ _ _ hf
  refine A_iload C dX9_lonely_117 3 rfl 119 rfl ?_
  refine A_iload C dX9_lonely_119 5 rfl 121 rfl ?_
  refine A_z_eq C dX9_lonely_121 128 (by decide) 124 rfl hf (fun c121 hf => ?_) (fun c121 hf => ?_)
  · refine A_iconst (v := 0) C dX9_lonely_128 (by decide) 129 rfl ?_
    refine A_iadd C dX9_lonely_129 130 rfl ?_
    refine A_namI hf (fun y3 hf => ?_)
    refine A_istore C dX9_lonely_130 [(4, .int y3), (0, .ref (K.2.1 x0)), (1, .int x1), (2, .int x2), (5, .int x5), (6, .int (b2i x6))] (lt_nl hnl (by decide)) rfl 132 rfl ?_
    refine A_iinc (v := (x5 + 1)) C dX9_lonely_132 4 rfl rfl [(5, .int (x5 + 1)), (4, .int y3), (0, .ref (K.2.1 x0)), (1, .int x1), (2, .int x2), (6, .int (b2i x6))] (lt_nl hnl (by decide)) rfl 135 rfl ?_
    refine A_goto C dX9_lonely_135 31 (by decide) ?_
    refine A_sub [2, 3, 4, 1, 0] (lv' := [(0, .ref (K.2.1 x0)), (1, .int x1), (2, .int x2), (4, .int y3), (5, .int (x5 + 1))]) rfl ?_
    exact Hself31 _ _ _ hf
  refine A_iconst (v := 1) C dX9_lonely_124 (by decide) 125 rfl ?_
  refine A_goto C dX9_lonely_125 129 (by decide) ?_
  refine A_iadd C dX9_lonely_129 130 rfl ?_
  refine A_namI hf (fun y4 hf => ?_)
  refine A_istore C dX9_lonely_130 [(4, .int y4), (0, .ref (K.2.1 x0)), (1, .int x1), (2, .int x2), (5, .int x5), (6, .int (b2i x6))] (lt_nl hnl (by decide)) rfl 132 rfl ?_
  refine A_iinc (v := (x5 + 1)) C dX9_lonely_132 4 rfl rfl [(5, .int (x5 + 1)), (4, .int y4), (0, .ref (K.2.1 x0)), (1, .int x1), (2, .int x2), (6, .int (b2i x6))] (lt_nl hnl (by decide)) rfl 135 rfl ?_
  refine A_goto C dX9_lonely_135 31 (by decide) ?_
  refine A_sub [2, 3, 4, 1, 0] (lv' := [(0, .ref (K.2.1 x0)), (1, .int x1), (2, .int x2), (4, .int y4), (5, .int (x5 + 1))]) rfl ?_
  exact Hself31 _ _ _ hf
set_option maxRecDepth 20000 in
theorem mX9_lonely {K : KX} {x0 : Nat} {x1 : Int32} {x2 : Int32} (k0 : isK 9 x0) {h : HH} {rv : Int32} {hv : HH} (hf : fX9_lonely x0 x1 x2 h = some (rv, hv)) : MR K yX9_lonely cX9_lonely 8 (some .int) 7 [.ref (K.2.1 x0), .int x1, .int x2] h (some (.int rv)) hv := by
  refine MR_of (by decide) (Nat.le_of_ble_eq_true rfl) (fun G C E hnl => ?_)
  have C : Ok K G 7 cX9_lonely RX9 := C
  refine (show At K G 0 [(0, .ref (K.2.1 x0)), (1, .int x1), (2, .int x2)] [] h from ?_)
  unfold fX9_lonely at hf
  refine A_aload_n C dX9_lonely_0 (i := 0) rfl 0 rfl 1 rfl ?_
  refine CVv C dX9_lonely_1 9 k0 (by decide) (r := (RX9, TX9, 44)) rfl rfl hf (fun _ e => mX9_good k0 e) lkRX9_191 (by decide) (by decide) rfl [] rfl (Nat.le_of_ble_eq_true rfl) 4 rfl (fun h1 hf => ?_)
  refine A_aload_n C dX9_lonely_4 (i := 0) rfl 0 rfl 5 rfl ?_
  refine A_iload_n C dX9_lonely_5 (i := 1) rfl 1 rfl 6 rfl ?_
  refine A_iload_n C dX9_lonely_6 (i := 2) rfl 2 rfl 7 rfl ?_
  refine CVi C dX9_lonely_7 9 k0 (by decide) (r := (RX9, TX9, 44)) rfl rfl hf (fun _ _ e => mX9_inWhy k0 e) lkRX9_374 (by decide) (by decide) rfl [] rfl (Nat.le_of_ble_eq_true rfl) 10 rfl (fun r7 h7 hf => ?_)
  refine A_istore_n C dX9_lonely_10 (i := 3) rfl [(3, .int r7), (0, .ref (K.2.1 x0)), (1, .int x1), (2, .int x2)] (lt_nl hnl (by decide)) rfl 11 rfl ?_
  refine A_iload_n C dX9_lonely_11 (i := 3) rfl 0 rfl 12 rfl ?_
  refine A_if_eq C dX9_lonely_12 21 (by decide) 15 rfl hf (fun c12 hf => ?_) (fun c12 hf => ?_)
  · refine A_aload_n C dX9_lonely_21 (i := 0) rfl 1 rfl 22 rfl ?_
    refine CVv C dX9_lonely_22 9 k0 (by decide) (r := (RX9, TX9, 44)) rfl rfl hf (fun _ e => mX9_save k0 e) lkRX9_364 (by decide) (by decide) rfl [] rfl (Nat.le_of_ble_eq_true rfl) 25 rfl (fun h22 hf => ?_)
    refine A_iconst (v := 0) C dX9_lonely_25 (by decide) 26 rfl ?_
    refine A_istore C dX9_lonely_26 [(4, .int 0), (3, .int r7), (0, .ref (K.2.1 x0)), (1, .int x1), (2, .int x2)] (lt_nl hnl (by decide)) rfl 28 rfl ?_
    refine A_iconst (v := 0) C dX9_lonely_28 (by decide) 29 rfl ?_
    refine A_istore C dX9_lonely_29 [(5, .int 0), (4, .int 0), (3, .int r7), (0, .ref (K.2.1 x0)), (1, .int x1), (2, .int x2)] (lt_nl hnl (by decide)) rfl 31 rfl ?_
    refine A_sub [3, 4, 5, 1, 0] (lv' := [(0, .ref (K.2.1 x0)), (1, .int x1), (2, .int x2), (4, .int 0), (5, .int 0)]) rfl ?_
    refine lq2_at (wX9_lonely_L31 C hnl E k0) FU _ _ _ hf
  refine A_aload_n C dX9_lonely_15 (i := 0) rfl 1 rfl 16 rfl ?_
  refine A_iload_n C dX9_lonely_16 (i := 3) rfl 0 rfl 17 rfl ?_
  refine CVi C dX9_lonely_17 9 k0 (by decide) (r := (RX9, TX9, 44)) rfl rfl hf (fun _ _ e => mX9_no k0 e) lkRX9_194 (by decide) (by decide) rfl [] rfl (Nat.le_of_ble_eq_true rfl) 20 rfl (fun r17 h17 hf => ?_)
  exact A_iret C dX9_lonely_20 E hf
set_option maxRecDepth 20000 in
theorem wX9_crowdNow_L32 {K : KX} {G : GX} (C : Ok K G 3 cX9_crowdNow RX9) (hnl : G.2.2.2.2.2.2.2.2.2.2.2.2.2 = 5) {rv : Int32} {hv : HH} (E : Endd K G (some .int) (some (.int rv)) hv) {x0 : Nat} {x1 : Int32} {x2 : Int32} {k32_73 : Int32 → HH → Option (Int32 × HH)}  (Hk32_73 : ∀ (x3 : Int32) (h : HH), k32_73 x3 h = some (rv, hv) → At K G 73 [(0, .ref (K.2.1 x0)), (1, .int x1), (2, .int x2), (3, .int x3)] [] h) (kx0 : isK 9 x0) : ∀ (self32 : Int32 → Int32 → HH → Option (Int32 × HH)), (∀ (x3 : Int32) (x4 : Int32) (h : HH), self32 x3 x4 h = some (rv, hv) → At K G 32 [(0, .ref (K.2.1 x0)), (1, .int x1), (2, .int x2), (3, .int x3), (4, .int x4)] [] h) → ∀ (x3 : Int32) (x4 : Int32) (h : HH), fX9_crowdNow_L32 k32_73 x0 x1 x2 self32 x3 x4 h = some (rv, hv) → At K G 32 [(0, .ref (K.2.1 x0)), (1, .int x1), (2, .int x2), (3, .int x3), (4, .int x4)] [] h := by
  intro self32 Hself32 x3 x4 h hf
  unfold fX9_crowdNow_L32 at hf
  refine A_iload C dX9_crowdNow_32 4 rfl 34 rfl ?_
  refine A_aload_n C dX9_crowdNow_34 (i := 0) rfl 0 rfl 35 rfl ?_
  refine gfRX9_20 C kx0 dX9_crowdNow_35 38 rfl ?_
  refine A_iconst (v := 4) C dX9_crowdNow_38 (by decide) 39 rfl ?_
  refine A_iald C dX9_crowdNow_39 (of_9_15 kx0) hf 40 rfl (fun hf => ?_)
  refine A_icmp_ge C dX9_crowdNow_40 73 (by decide) 43 rfl hf (fun c40 hf => ?_) (fun c40 hf => ?_)
  · refine A_sub [0, 1, 2, 3] (lv' := [(0, .ref (K.2.1 x0)), (1, .int x1), (2, .int x2), (3, .int x3)]) rfl ?_
    exact Hk32_73 _ _ hf
  refine A_iload_n C dX9_crowdNow_43 (i := 3) rfl 3 rfl 44 rfl ?_
  refine A_iload C dX9_crowdNow_44 4 rfl 46 rfl ?_
  refine A_iload_n C dX9_crowdNow_46 (i := 2) rfl 2 rfl 47 rfl ?_
  refine A_icmp_eq C dX9_crowdNow_47 64 (by decide) 50 rfl hf (fun c47 hf => ?_) (fun c47 hf => ?_)
  · refine A_iconst (v := 0) C dX9_crowdNow_64 (by decide) 65 rfl ?_
    refine A_iadd C dX9_crowdNow_65 66 rfl ?_
    refine A_namI hf (fun y1 hf => ?_)
    refine A_istore_n C dX9_crowdNow_66 (i := 3) rfl [(3, .int y1), (0, .ref (K.2.1 x0)), (1, .int x1), (2, .int x2), (4, .int x4)] (lt_nl hnl (by decide)) rfl 67 rfl ?_
    refine A_iinc (v := (x4 + 1)) C dX9_crowdNow_67 4 rfl rfl [(4, .int (x4 + 1)), (3, .int y1), (0, .ref (K.2.1 x0)), (1, .int x1), (2, .int x2)] (lt_nl hnl (by decide)) rfl 70 rfl ?_
    refine A_goto C dX9_crowdNow_70 32 (by decide) ?_
    refine A_sub [2, 3, 4, 1, 0] (lv' := [(0, .ref (K.2.1 x0)), (1, .int x1), (2, .int x2), (3, .int y1), (4, .int (x4 + 1))]) rfl ?_
    exact Hself32 _ _ _ hf
  refine A_aload_n C dX9_crowdNow_50 (i := 0) rfl 0 rfl 51 rfl ?_
  refine A_iload_n C dX9_crowdNow_51 (i := 2) rfl 2 rfl 52 rfl ?_
  refine A_iload C dX9_crowdNow_52 4 rfl 54 rfl ?_
  refine CVz C dX9_crowdNow_54 9 kx0 (by decide) (r := (RX9, TX9, 44)) rfl rfl hf (fun _ _ e => mX9_doMeet kx0 e) lkRX9_360 (by decide) (by decide) rfl [.int x3] rfl (Nat.le_of_ble_eq_true rfl) 57 rfl (fun r54 h54 hf => ?_)
  refine A_z_eq C dX9_crowdNow_57 64 (by decide) 60 rfl hf (fun c57 hf => ?_) (fun c57 hf => ?_)
  · refine A_iconst (v := 0) C dX9_crowdNow_64 (by decide) 65 rfl ?_
    refine A_iadd C dX9_crowdNow_65 66 rfl ?_
    refine A_namI hf (fun y2 hf => ?_)
    refine A_istore_n C dX9_crowdNow_66 (i := 3) rfl [(3, .int y2), (0, .ref (K.2.1 x0)), (1, .int x1), (2, .int x2), (4, .int x4)] (lt_nl hnl (by decide)) rfl 67 rfl ?_
    refine A_iinc (v := (x4 + 1)) C dX9_crowdNow_67 4 rfl rfl [(4, .int (x4 + 1)), (3, .int y2), (0, .ref (K.2.1 x0)), (1, .int x1), (2, .int x2)] (lt_nl hnl (by decide)) rfl 70 rfl ?_
    refine A_goto C dX9_crowdNow_70 32 (by decide) ?_
    refine A_sub [2, 3, 4, 1, 0] (lv' := [(0, .ref (K.2.1 x0)), (1, .int x1), (2, .int x2), (3, .int y2), (4, .int (x4 + 1))]) rfl ?_
    exact Hself32 _ _ _ hf
  refine A_iconst (v := 1) C dX9_crowdNow_60 (by decide) 61 rfl ?_
  refine A_goto C dX9_crowdNow_61 65 (by decide) ?_
  refine A_iadd C dX9_crowdNow_65 66 rfl ?_
  refine A_namI hf (fun y3 hf => ?_)
  refine A_istore_n C dX9_crowdNow_66 (i := 3) rfl [(3, .int y3), (0, .ref (K.2.1 x0)), (1, .int x1), (2, .int x2), (4, .int x4)] (lt_nl hnl (by decide)) rfl 67 rfl ?_
  refine A_iinc (v := (x4 + 1)) C dX9_crowdNow_67 4 rfl rfl [(4, .int (x4 + 1)), (3, .int y3), (0, .ref (K.2.1 x0)), (1, .int x1), (2, .int x2)] (lt_nl hnl (by decide)) rfl 70 rfl ?_
  refine A_goto C dX9_crowdNow_70 32 (by decide) ?_
  refine A_sub [2, 3, 4, 1, 0] (lv' := [(0, .ref (K.2.1 x0)), (1, .int x1), (2, .int x2), (3, .int y3), (4, .int (x4 + 1))]) rfl ?_
  exact Hself32 _ _ _ hf
set_option maxRecDepth 20000 in
theorem wX9_crowdNow_L4 {K : KX} {G : GX} (C : Ok K G 3 cX9_crowdNow RX9) (hnl : G.2.2.2.2.2.2.2.2.2.2.2.2.2 = 5) {rv : Int32} {hv : HH} (E : Endd K G (some .int) (some (.int rv)) hv) {x0 : Nat}   (kx0 : isK 9 x0) : ∀ (self4 : Int32 → Int32 → HH → Option (Int32 × HH)), (∀ (x1 : Int32) (x2 : Int32) (h : HH), self4 x1 x2 h = some (rv, hv) → At K G 4 [(0, .ref (K.2.1 x0)), (1, .int x1), (2, .int x2)] [] h) → ∀ (x1 : Int32) (x2 : Int32) (h : HH), fX9_crowdNow_L4 x0 self4 x1 x2 h = some (rv, hv) → At K G 4 [(0, .ref (K.2.1 x0)), (1, .int x1), (2, .int x2)] [] h := by
  intro self4 Hself4 x1 x2 h hf
  unfold fX9_crowdNow_L4 at hf
  refine A_iload_n C dX9_crowdNow_4 (i := 2) rfl 2 rfl 5 rfl ?_
  refine A_aload_n C dX9_crowdNow_5 (i := 0) rfl 0 rfl 6 rfl ?_
  refine gfRX9_20 C kx0 dX9_crowdNow_6 9 rfl ?_
  refine A_iconst (v := 4) C dX9_crowdNow_9 (by decide) 10 rfl ?_
  refine A_iald C dX9_crowdNow_10 (of_9_15 kx0) hf 11 rfl (fun hf => ?_)
  refine A_icmp_ge C dX9_crowdNow_11 90 (by decide) 14 rfl hf (fun c11 hf => ?_) (fun c11 hf => ?_)
  · refine A_iload_n C dX9_crowdNow_90 (i := 1) rfl 1 rfl 91 rfl ?_
    exact A_iret C dX9_crowdNow_91 E hf
  refine A_aload_n C dX9_crowdNow_14 (i := 0) rfl 0 rfl 15 rfl ?_
  refine A_iload_n C dX9_crowdNow_15 (i := 2) rfl 2 rfl 16 rfl ?_
  refine A_iconst (v := 0) C dX9_crowdNow_16 (by decide) 17 rfl ?_
  refine CVi C dX9_crowdNow_17 9 kx0 (by decide) (r := (RX9, TX9, 44)) rfl rfl hf (fun _ _ e => mX9_its kx0 e) lkRX9_310 (by decide) (by decide) rfl [] rfl (Nat.le_of_ble_eq_true rfl) 20 rfl (fun r17 h17 hf => ?_)
  refine A_if_le C dX9_crowdNow_20 27 (by decide) 23 rfl hf (fun c20 hf => ?_) (fun c20 hf => ?_)
  · refine A_iconst (v := 0) C dX9_crowdNow_27 (by decide) 28 rfl ?_
    refine A_istore_n C dX9_crowdNow_28 (i := 3) rfl [(3, .int 0), (0, .ref (K.2.1 x0)), (1, .int x1), (2, .int x2)] (lt_nl hnl (by decide)) rfl 29 rfl ?_
    refine A_iconst (v := 0) C dX9_crowdNow_29 (by decide) 30 rfl ?_
    refine A_istore C dX9_crowdNow_30 [(4, .int 0), (3, .int 0), (0, .ref (K.2.1 x0)), (1, .int x1), (2, .int x2)] (lt_nl hnl (by decide)) rfl 32 rfl ?_
    refine A_sub [2, 3, 4, 1, 0] (lv' := [(0, .ref (K.2.1 x0)), (1, .int x1), (2, .int x2), (3, .int 0), (4, .int 0)]) rfl ?_
    refine lq2_at (wX9_crowdNow_L32 C hnl E (fun x3 h hf => ?_) kx0) FU _ _ _ hf
    refine A_iload_n C dX9_crowdNow_73 (i := 3) rfl 3 rfl 74 rfl ?_
    refine A_iload_n C dX9_crowdNow_74 (i := 1) rfl 1 rfl 75 rfl ?_
    refine A_icmp_le C dX9_crowdNow_75 82 (by decide) 78 rfl hf (fun c75 hf => ?_) (fun c75 hf => ?_)
    · refine A_iload_n C dX9_crowdNow_82 (i := 1) rfl 1 rfl 83 rfl ?_
      refine A_istore_n C dX9_crowdNow_83 (i := 1) rfl [(1, .int x1), (0, .ref (K.2.1 x0)), (2, .int x2), (3, .int x3)] (lt_nl hnl (by decide)) rfl 84 rfl ?_
      refine A_iinc (v := (x2 + 1)) C dX9_crowdNow_84 2 rfl rfl [(2, .int (x2 + 1)), (1, .int x1), (0, .ref (K.2.1 x0)), (3, .int x3)] (lt_nl hnl (by decide)) rfl 87 rfl ?_
      refine A_goto C dX9_crowdNow_87 4 (by decide) ?_
      refine A_sub [2, 1, 0] (lv' := [(0, .ref (K.2.1 x0)), (1, .int x1), (2, .int (x2 + 1))]) rfl ?_
      exact Hself4 _ _ _ hf
    refine A_iload_n C dX9_crowdNow_78 (i := 3) rfl 3 rfl 79 rfl ?_
    refine A_goto C dX9_crowdNow_79 83 (by decide) ?_
    refine A_istore_n C dX9_crowdNow_83 (i := 1) rfl [(1, .int x3), (0, .ref (K.2.1 x0)), (2, .int x2), (3, .int x3)] (lt_nl hnl (by decide)) rfl 84 rfl ?_
    refine A_iinc (v := (x2 + 1)) C dX9_crowdNow_84 2 rfl rfl [(2, .int (x2 + 1)), (1, .int x3), (0, .ref (K.2.1 x0)), (3, .int x3)] (lt_nl hnl (by decide)) rfl 87 rfl ?_
    refine A_goto C dX9_crowdNow_87 4 (by decide) ?_
    refine A_sub [2, 1, 0] (lv' := [(0, .ref (K.2.1 x0)), (1, .int x3), (2, .int (x2 + 1))]) rfl ?_
    exact Hself4 _ _ _ hf
  refine A_iconst (v := 1) C dX9_crowdNow_23 (by decide) 24 rfl ?_
  refine A_goto C dX9_crowdNow_24 28 (by decide) ?_
  refine A_istore_n C dX9_crowdNow_28 (i := 3) rfl [(3, .int 1), (0, .ref (K.2.1 x0)), (1, .int x1), (2, .int x2)] (lt_nl hnl (by decide)) rfl 29 rfl ?_
  refine A_iconst (v := 0) C dX9_crowdNow_29 (by decide) 30 rfl ?_
  refine A_istore C dX9_crowdNow_30 [(4, .int 0), (3, .int 1), (0, .ref (K.2.1 x0)), (1, .int x1), (2, .int x2)] (lt_nl hnl (by decide)) rfl 32 rfl ?_
  refine A_sub [2, 3, 4, 1, 0] (lv' := [(0, .ref (K.2.1 x0)), (1, .int x1), (2, .int x2), (3, .int 1), (4, .int 0)]) rfl ?_
  refine lq2_at (wX9_crowdNow_L32 C hnl E (fun x3 h hf => ?_) kx0) FU _ _ _ hf
  refine A_iload_n C dX9_crowdNow_73 (i := 3) rfl 3 rfl 74 rfl ?_
  refine A_iload_n C dX9_crowdNow_74 (i := 1) rfl 1 rfl 75 rfl ?_
  refine A_icmp_le C dX9_crowdNow_75 82 (by decide) 78 rfl hf (fun c75 hf => ?_) (fun c75 hf => ?_)
  · refine A_iload_n C dX9_crowdNow_82 (i := 1) rfl 1 rfl 83 rfl ?_
    refine A_istore_n C dX9_crowdNow_83 (i := 1) rfl [(1, .int x1), (0, .ref (K.2.1 x0)), (2, .int x2), (3, .int x3)] (lt_nl hnl (by decide)) rfl 84 rfl ?_
    refine A_iinc (v := (x2 + 1)) C dX9_crowdNow_84 2 rfl rfl [(2, .int (x2 + 1)), (1, .int x1), (0, .ref (K.2.1 x0)), (3, .int x3)] (lt_nl hnl (by decide)) rfl 87 rfl ?_
    refine A_goto C dX9_crowdNow_87 4 (by decide) ?_
    refine A_sub [2, 1, 0] (lv' := [(0, .ref (K.2.1 x0)), (1, .int x1), (2, .int (x2 + 1))]) rfl ?_
    exact Hself4 _ _ _ hf
  refine A_iload_n C dX9_crowdNow_78 (i := 3) rfl 3 rfl 79 rfl ?_
  refine A_goto C dX9_crowdNow_79 83 (by decide) ?_
  refine A_istore_n C dX9_crowdNow_83 (i := 1) rfl [(1, .int x3), (0, .ref (K.2.1 x0)), (2, .int x2), (3, .int x3)] (lt_nl hnl (by decide)) rfl 84 rfl ?_
  refine A_iinc (v := (x2 + 1)) C dX9_crowdNow_84 2 rfl rfl [(2, .int (x2 + 1)), (1, .int x3), (0, .ref (K.2.1 x0)), (3, .int x3)] (lt_nl hnl (by decide)) rfl 87 rfl ?_
  refine A_goto C dX9_crowdNow_87 4 (by decide) ?_
  refine A_sub [2, 1, 0] (lv' := [(0, .ref (K.2.1 x0)), (1, .int x3), (2, .int (x2 + 1))]) rfl ?_
  exact Hself4 _ _ _ hf
set_option maxRecDepth 20000 in
theorem mX9_crowdNow {K : KX} {x0 : Nat} (k0 : isK 9 x0) {h : HH} {rv : Int32} {hv : HH} (hf : fX9_crowdNow x0 h = some (rv, hv)) : MR K yX9_crowdNow cX9_crowdNow 5 (some .int) 3 [.ref (K.2.1 x0)] h (some (.int rv)) hv := by
  refine MR_of (by decide) (Nat.le_of_ble_eq_true rfl) (fun G C E hnl => ?_)
  have C : Ok K G 3 cX9_crowdNow RX9 := C
  refine (show At K G 0 [(0, .ref (K.2.1 x0))] [] h from ?_)
  unfold fX9_crowdNow at hf
  refine A_iconst (v := 0) C dX9_crowdNow_0 (by decide) 1 rfl ?_
  refine A_istore_n C dX9_crowdNow_1 (i := 1) rfl [(1, .int 0), (0, .ref (K.2.1 x0))] (lt_nl hnl (by decide)) rfl 2 rfl ?_
  refine A_iconst (v := 0) C dX9_crowdNow_2 (by decide) 3 rfl ?_
  refine A_istore_n C dX9_crowdNow_3 (i := 2) rfl [(2, .int 0), (1, .int 0), (0, .ref (K.2.1 x0))] (lt_nl hnl (by decide)) rfl 4 rfl ?_
  refine A_sub [2, 1, 0] (lv' := [(0, .ref (K.2.1 x0)), (1, .int 0), (2, .int 0)]) rfl ?_
  refine lq2_at (wX9_crowdNow_L4 C hnl E k0) FU _ _ _ hf
set_option maxRecDepth 20000 in
theorem wX9_crowd_L45 {K : KX} {G : GX} (C : Ok K G 7 cX9_crowd RX9) (hnl : G.2.2.2.2.2.2.2.2.2.2.2.2.2 = 4) {rv : Int32} {hv : HH} (E : Endd K G (some .int) (some (.int rv)) hv) {x0 : Nat} {x1 : Int32}   (kx0 : isK 9 x0) : ∀ (self45 : Int32 → Int32 → HH → Option (Int32 × HH)), (∀ (x2 : Int32) (x3 : Int32) (h : HH), self45 x2 x3 h = some (rv, hv) → At K G 45 [(0, .ref (K.2.1 x0)), (1, .int x1), (2, .int x2), (3, .int x3)] [] h) → ∀ (x2 : Int32) (x3 : Int32) (h : HH), fX9_crowd_L45 x0 x1 self45 x2 x3 h = some (rv, hv) → At K G 45 [(0, .ref (K.2.1 x0)), (1, .int x1), (2, .int x2), (3, .int x3)] [] h := by
  intro self45 Hself45 x2 x3 h hf
  unfold fX9_crowd_L45 at hf
  refine A_iload_n C dX9_crowd_45 (i := 3) rfl 3 rfl 46 rfl ?_
  refine A_iload_n C dX9_crowd_46 (i := 1) rfl 1 rfl 47 rfl ?_
  refine A_icmp_ge C dX9_crowd_47 89 (by decide) 50 rfl hf (fun c47 hf => ?_) (fun c47 hf => ?_)
  · refine A_aload_n C dX9_crowd_89 (i := 0) rfl 0 rfl 90 rfl ?_
    refine CVv C dX9_crowd_90 9 kx0 (by decide) (r := (RX9, TX9, 44)) rfl rfl hf (fun _ e => mX9_bringBack kx0 e) lkRX9_371 (by decide) (by decide) rfl [] rfl (Nat.le_of_ble_eq_true rfl) 93 rfl (fun h90 hf => ?_)
    refine A_iload_n C dX9_crowd_93 (i := 2) rfl 2 rfl 94 rfl ?_
    exact A_iret C dX9_crowd_94 E hf
  refine A_aload_n C dX9_crowd_50 (i := 0) rfl 0 rfl 51 rfl ?_
  refine A_aload_n C dX9_crowd_51 (i := 0) rfl 0 rfl 52 rfl ?_
  refine gfRX9_38 C kx0 dX9_crowd_52 55 rfl ?_
  refine A_iconst (v := 0) C dX9_crowd_55 (by decide) 56 rfl ?_
  refine A_lald C dX9_crowd_56 (of_9_21 kx0) hf 57 rfl (fun hf => ?_)
  refine A_aload_n C dX9_crowd_57 (i := 0) rfl 0 rfl 58 rfl ?_
  refine CVi C dX9_crowd_58 9 kx0 (by decide) (r := (RX9, TX9, 44)) rfl rfl hf (fun _ _ e => mX9_bottom kx0 e) lkRX9_307 (by decide) (by decide) rfl [.long (gL h (x0 + 9) (ix 0)), .ref (K.2.1 x0)] rfl (Nat.le_of_ble_eq_true rfl) 61 rfl (fun r58 h58 hf => ?_)
  refine A_i2l C dX9_crowd_61 62 rfl ?_
  refine A_ladd C dX9_crowd_62 63 rfl ?_
  refine CVv C dX9_crowd_63 9 kx0 (by decide) (r := (RX9, TX9, 44)) rfl rfl hf (fun _ e => mX9_goOn kx0 e) lkRX9_367 (by decide) (by decide) rfl [] rfl (Nat.le_of_ble_eq_true rfl) 66 rfl (fun h63 hf => ?_)
  refine A_aload_n C dX9_crowd_66 (i := 0) rfl 0 rfl 67 rfl ?_
  refine CVi C dX9_crowd_67 9 kx0 (by decide) (r := (RX9, TX9, 44)) rfl rfl hf (fun _ _ e => mX9_crowdNow kx0 e) lkRX9_380 (by decide) (by decide) rfl [] rfl (Nat.le_of_ble_eq_true rfl) 70 rfl (fun r67 h67 hf => ?_)
  refine A_iload_n C dX9_crowd_70 (i := 2) rfl 2 rfl 71 rfl ?_
  refine A_icmp_le C dX9_crowd_71 81 (by decide) 74 rfl hf (fun c71 hf => ?_) (fun c71 hf => ?_)
  · refine A_iload_n C dX9_crowd_81 (i := 2) rfl 2 rfl 82 rfl ?_
    refine A_istore_n C dX9_crowd_82 (i := 2) rfl [(2, .int x2), (0, .ref (K.2.1 x0)), (1, .int x1), (3, .int x3)] (lt_nl hnl (by decide)) rfl 83 rfl ?_
    refine A_iinc (v := (x3 + 1)) C dX9_crowd_83 3 rfl rfl [(3, .int (x3 + 1)), (2, .int x2), (0, .ref (K.2.1 x0)), (1, .int x1)] (lt_nl hnl (by decide)) rfl 86 rfl ?_
    refine A_goto C dX9_crowd_86 45 (by decide) ?_
    refine A_sub [2, 3, 1, 0] (lv' := [(0, .ref (K.2.1 x0)), (1, .int x1), (2, .int x2), (3, .int (x3 + 1))]) rfl ?_
    exact Hself45 _ _ _ hf
  refine A_aload_n C dX9_crowd_74 (i := 0) rfl 0 rfl 75 rfl ?_
  refine CVi C dX9_crowd_75 9 kx0 (by decide) (r := (RX9, TX9, 44)) rfl rfl hf (fun _ _ e => mX9_crowdNow kx0 e) lkRX9_380 (by decide) (by decide) rfl [] rfl (Nat.le_of_ble_eq_true rfl) 78 rfl (fun r75 h75 hf => ?_)
  refine A_goto C dX9_crowd_78 82 (by decide) ?_
  refine A_istore_n C dX9_crowd_82 (i := 2) rfl [(2, .int r75), (0, .ref (K.2.1 x0)), (1, .int x1), (3, .int x3)] (lt_nl hnl (by decide)) rfl 83 rfl ?_
  refine A_iinc (v := (x3 + 1)) C dX9_crowd_83 3 rfl rfl [(3, .int (x3 + 1)), (2, .int r75), (0, .ref (K.2.1 x0)), (1, .int x1)] (lt_nl hnl (by decide)) rfl 86 rfl ?_
  refine A_goto C dX9_crowd_86 45 (by decide) ?_
  refine A_sub [2, 3, 1, 0] (lv' := [(0, .ref (K.2.1 x0)), (1, .int x1), (2, .int r75), (3, .int (x3 + 1))]) rfl ?_
  exact Hself45 _ _ _ hf
set_option maxRecDepth 20000 in
theorem mX9_crowd {K : KX} {x0 : Nat} {x1 : Int32} (k0 : isK 9 x0) {h : HH} {rv : Int32} {hv : HH} (hf : fX9_crowd x0 x1 h = some (rv, hv)) : MR K yX9_crowd cX9_crowd 4 (some .int) 7 [.ref (K.2.1 x0), .int x1] h (some (.int rv)) hv := by
  refine MR_of (by decide) (Nat.le_of_ble_eq_true rfl) (fun G C E hnl => ?_)
  have C : Ok K G 7 cX9_crowd RX9 := C
  refine (show At K G 0 [(0, .ref (K.2.1 x0)), (1, .int x1)] [] h from ?_)
  unfold fX9_crowd at hf
  refine A_aload_n C dX9_crowd_0 (i := 0) rfl 0 rfl 1 rfl ?_
  refine CVv C dX9_crowd_1 9 k0 (by decide) (r := (RX9, TX9, 44)) rfl rfl hf (fun _ e => mX9_good k0 e) lkRX9_191 (by decide) (by decide) rfl [] rfl (Nat.le_of_ble_eq_true rfl) 4 rfl (fun h1 hf => ?_)
  refine A_aload_n C dX9_crowd_4 (i := 0) rfl 0 rfl 5 rfl ?_
  refine gfRX9_204 C k0 dX9_crowd_5 8 rfl ?_
  refine A_if_ne C dX9_crowd_8 17 (by decide) 11 rfl hf (fun c8 hf => ?_) (fun c8 hf => ?_)
  · refine A_iload_n C dX9_crowd_17 (i := 1) rfl 1 rfl 18 rfl ?_
    refine A_iconst (v := 0) C dX9_crowd_18 (by decide) 19 rfl ?_
    refine A_sipush (v := 600) C dX9_crowd_19 (by decide) 22 rfl ?_
    refine CSz C dX9_crowd_22 hf (fun _ _ e => mX9_within  e) lkRX9_170 (by decide) (by decide) rfl [] rfl (Nat.le_of_ble_eq_true rfl) 25 rfl (fun r22 h22 hf => ?_)
    refine A_z_ne C dX9_crowd_25 34 (by decide) 28 rfl hf (fun c25 hf => ?_) (fun c25 hf => ?_)
    · refine A_aload_n C dX9_crowd_34 (i := 0) rfl 0 rfl 35 rfl ?_
      refine CVv C dX9_crowd_35 9 k0 (by decide) (r := (RX9, TX9, 44)) rfl rfl hf (fun _ e => mX9_save k0 e) lkRX9_364 (by decide) (by decide) rfl [] rfl (Nat.le_of_ble_eq_true rfl) 38 rfl (fun h35 hf => ?_)
      refine A_aload_n C dX9_crowd_38 (i := 0) rfl 0 rfl 39 rfl ?_
      refine CVi C dX9_crowd_39 9 k0 (by decide) (r := (RX9, TX9, 44)) rfl rfl hf (fun _ _ e => mX9_crowdNow k0 e) lkRX9_380 (by decide) (by decide) rfl [] rfl (Nat.le_of_ble_eq_true rfl) 42 rfl (fun r39 h39 hf => ?_)
      refine A_istore_n C dX9_crowd_42 (i := 2) rfl [(2, .int r39), (0, .ref (K.2.1 x0)), (1, .int x1)] (lt_nl hnl (by decide)) rfl 43 rfl ?_
      refine A_iconst (v := 0) C dX9_crowd_43 (by decide) 44 rfl ?_
      refine A_istore_n C dX9_crowd_44 (i := 3) rfl [(3, .int 0), (2, .int r39), (0, .ref (K.2.1 x0)), (1, .int x1)] (lt_nl hnl (by decide)) rfl 45 rfl ?_
      refine A_sub [2, 3, 1, 0] (lv' := [(0, .ref (K.2.1 x0)), (1, .int x1), (2, .int r39), (3, .int 0)]) rfl ?_
      refine lq2_at (wX9_crowd_L45 C hnl E k0) FU _ _ _ hf
    refine A_aload_n C dX9_crowd_28 (i := 0) rfl 0 rfl 29 rfl ?_
    refine A_iconst (v := 2) C dX9_crowd_29 (by decide) 30 rfl ?_
    refine CVi C dX9_crowd_30 9 k0 (by decide) (r := (RX9, TX9, 44)) rfl rfl hf (fun _ _ e => mX9_no k0 e) lkRX9_194 (by decide) (by decide) rfl [] rfl (Nat.le_of_ble_eq_true rfl) 33 rfl (fun r30 h30 hf => ?_)
    exact A_iret C dX9_crowd_33 E hf
  refine A_aload_n C dX9_crowd_11 (i := 0) rfl 0 rfl 12 rfl ?_
  refine A_iconst (v := 1) C dX9_crowd_12 (by decide) 13 rfl ?_
  refine CVi C dX9_crowd_13 9 k0 (by decide) (r := (RX9, TX9, 44)) rfl rfl hf (fun _ _ e => mX9_no k0 e) lkRX9_194 (by decide) (by decide) rfl [] rfl (Nat.le_of_ble_eq_true rfl) 16 rfl (fun r13 h13 hf => ?_)
  exact A_iret C dX9_crowd_16 E hf
set_option maxRecDepth 20000 in
theorem mX9_felt {K : KX} {x0 : Nat} {x1 : Int32} {x2 : Int32} {x3 : Int32} (k0 : isK 9 x0) {h : HH} {rv : Int64} {hv : HH} (hf : fX9_felt x0 x1 x2 x3 h = some (rv, hv)) : MR K yX9_felt cX9_felt 4 (some .long) 3 [.ref (K.2.1 x0), .int x1, .int x2, .int x3] h (some (.long rv)) hv := by
  refine MR_of (by decide) (Nat.le_of_ble_eq_true rfl) (fun G C E hnl => ?_)
  have C : Ok K G 3 cX9_felt RX9 := C
  refine (show At K G 0 [(0, .ref (K.2.1 x0)), (1, .int x1), (2, .int x2), (3, .int x3)] [] h from ?_)
  unfold fX9_felt at hf
  refine A_aload_n C dX9_felt_0 (i := 0) rfl 0 rfl 1 rfl ?_
  refine CVv C dX9_felt_1 9 k0 (by decide) (r := (RX9, TX9, 44)) rfl rfl hf (fun _ e => mX9_good k0 e) lkRX9_191 (by decide) (by decide) rfl [] rfl (Nat.le_of_ble_eq_true rfl) 4 rfl (fun h1 hf => ?_)
  refine A_aload_n C dX9_felt_4 (i := 0) rfl 0 rfl 5 rfl ?_
  refine A_iload_n C dX9_felt_5 (i := 2) rfl 2 rfl 6 rfl ?_
  refine CVz C dX9_felt_6 9 k0 (by decide) (r := (RX9, TX9, 44)) rfl rfl hf (fun _ _ e => mX9_isFloor k0 e) lkRX9_350 (by decide) (by decide) rfl [] rfl (Nat.le_of_ble_eq_true rfl) 9 rfl (fun r6 h6 hf => ?_)
  refine A_z_eq C dX9_felt_9 25 (by decide) 12 rfl hf (fun c9 hf => ?_) (fun c9 hf => ?_)
  · refine A_aload_n C dX9_felt_25 (i := 0) rfl 0 rfl 26 rfl ?_
    refine A_iconst (v := 1) C dX9_felt_26 (by decide) 27 rfl ?_
    refine CVi C dX9_felt_27 9 k0 (by decide) (r := (RX9, TX9, 44)) rfl rfl hf (fun _ _ e => mX9_no k0 e) lkRX9_194 (by decide) (by decide) rfl [] rfl (Nat.le_of_ble_eq_true rfl) 30 rfl (fun r27 h27 hf => ?_)
    refine A_i2l C dX9_felt_30 31 rfl ?_
    exact A_lret C dX9_felt_31 E hf
  refine A_aload_n C dX9_felt_12 (i := 0) rfl 0 rfl 13 rfl ?_
  refine A_iload_n C dX9_felt_13 (i := 3) rfl 3 rfl 14 rfl ?_
  refine CVz C dX9_felt_14 9 k0 (by decide) (r := (RX9, TX9, 44)) rfl rfl hf (fun _ _ e => mX9_isFloor k0 e) lkRX9_350 (by decide) (by decide) rfl [] rfl (Nat.le_of_ble_eq_true rfl) 17 rfl (fun r14 h14 hf => ?_)
  refine A_z_eq C dX9_felt_17 25 (by decide) 20 rfl hf (fun c17 hf => ?_) (fun c17 hf => ?_)
  · refine A_aload_n C dX9_felt_25 (i := 0) rfl 0 rfl 26 rfl ?_
    refine A_iconst (v := 1) C dX9_felt_26 (by decide) 27 rfl ?_
    refine CVi C dX9_felt_27 9 k0 (by decide) (r := (RX9, TX9, 44)) rfl rfl hf (fun _ _ e => mX9_no k0 e) lkRX9_194 (by decide) (by decide) rfl [] rfl (Nat.le_of_ble_eq_true rfl) 30 rfl (fun r27 h27 hf => ?_)
    refine A_i2l C dX9_felt_30 31 rfl ?_
    exact A_lret C dX9_felt_31 E hf
  refine A_iload_n C dX9_felt_20 (i := 2) rfl 2 rfl 21 rfl ?_
  refine A_iload_n C dX9_felt_21 (i := 3) rfl 3 rfl 22 rfl ?_
  refine A_icmp_lt C dX9_felt_22 32 (by decide) 25 rfl hf (fun c22 hf => ?_) (fun c22 hf => ?_)
  · refine A_iload_n C dX9_felt_32 (i := 1) rfl 1 rfl 33 rfl ?_
    refine A_iconst (v := 1) C dX9_felt_33 (by decide) 34 rfl ?_
    refine A_bipush (v := 99) C dX9_felt_34 (by decide) 36 rfl ?_
    refine CSz C dX9_felt_36 hf (fun _ _ e => mX9_within  e) lkRX9_170 (by decide) (by decide) rfl [] rfl (Nat.le_of_ble_eq_true rfl) 39 rfl (fun r36 h36 hf => ?_)
    refine A_z_eq C dX9_felt_39 52 (by decide) 42 rfl hf (fun c39 hf => ?_) (fun c39 hf => ?_)
    · refine A_aload_n C dX9_felt_52 (i := 0) rfl 0 rfl 53 rfl ?_
      refine A_iconst (v := 2) C dX9_felt_53 (by decide) 54 rfl ?_
      refine CVi C dX9_felt_54 9 k0 (by decide) (r := (RX9, TX9, 44)) rfl rfl hf (fun _ _ e => mX9_no k0 e) lkRX9_194 (by decide) (by decide) rfl [] rfl (Nat.le_of_ble_eq_true rfl) 57 rfl (fun r54 h54 hf => ?_)
      refine A_i2l C dX9_felt_57 58 rfl ?_
      exact A_lret C dX9_felt_58 E hf
    refine A_aload_n C dX9_felt_42 (i := 0) rfl 0 rfl 43 rfl ?_
    refine A_iload_n C dX9_felt_43 (i := 1) rfl 1 rfl 44 rfl ?_
    refine A_iload_n C dX9_felt_44 (i := 2) rfl 2 rfl 45 rfl ?_
    refine A_iload_n C dX9_felt_45 (i := 3) rfl 3 rfl 46 rfl ?_
    refine CVl C dX9_felt_46 9 k0 (by decide) (r := (RX9, TX9, 44)) rfl rfl hf (fun _ _ e => mX9_feelOf k0 e) lkRX9_331 (by decide) (by decide) rfl [] rfl (Nat.le_of_ble_eq_true rfl) 49 rfl (fun r46 h46 hf => ?_)
    refine A_goto C dX9_felt_49 58 (by decide) ?_
    exact A_lret C dX9_felt_58 E hf
  refine A_aload_n C dX9_felt_25 (i := 0) rfl 0 rfl 26 rfl ?_
  refine A_iconst (v := 1) C dX9_felt_26 (by decide) 27 rfl ?_
  refine CVi C dX9_felt_27 9 k0 (by decide) (r := (RX9, TX9, 44)) rfl rfl hf (fun _ _ e => mX9_no k0 e) lkRX9_194 (by decide) (by decide) rfl [] rfl (Nat.le_of_ble_eq_true rfl) 30 rfl (fun r27 h27 hf => ?_)
  refine A_i2l C dX9_felt_30 31 rfl ?_
  exact A_lret C dX9_felt_31 E hf
set_option maxRecDepth 20000 in
theorem wX9_down_L5 {K : KX} {G : GX} (C : Ok K G 4 cX9_down RX9) (hnl : G.2.2.2.2.2.2.2.2.2.2.2.2.2 = 6) {rv : Int64} {hv : HH} (E : Endd K G (some .long) (some (.long rv)) hv) {x0 : Nat} {x2 : Int32}   (kx0 : isK 9 x0) : ∀ (self5 : Int64 → Int32 → HH → Option (Int64 × HH)), (∀ (x3 : Int64) (x5 : Int32) (h : HH), self5 x3 x5 h = some (rv, hv) → At K G 5 [(0, .ref (K.2.1 x0)), (2, .int x2), (3, .long x3), (5, .int x5)] [] h) → ∀ (x3 : Int64) (x5 : Int32) (h : HH), fX9_down_L5 x0 x2 self5 x3 x5 h = some (rv, hv) → At K G 5 [(0, .ref (K.2.1 x0)), (2, .int x2), (3, .long x3), (5, .int x5)] [] h := by
  intro self5 Hself5 x3 x5 h hf
  unfold fX9_down_L5 at hf
  refine A_iload C dX9_down_5 3 rfl 7 rfl ?_
  refine A_iload_n C dX9_down_7 (i := 2) rfl 1 rfl 8 rfl ?_
  refine A_icmp_ge C dX9_down_8 34 (by decide) 11 rfl hf (fun c8 hf => ?_) (fun c8 hf => ?_)
  · refine A_lload_n C dX9_down_34 (i := 3) rfl 2 rfl 35 rfl ?_
    exact A_lret C dX9_down_35 E hf
  refine A_lload_n C dX9_down_11 (i := 3) rfl 2 rfl 12 rfl ?_
  refine A_aload_n C dX9_down_12 (i := 0) rfl 0 rfl 13 rfl ?_
  refine gfRX9_20 C kx0 dX9_down_13 16 rfl ?_
  refine A_iconst (v := 1) C dX9_down_16 (by decide) 17 rfl ?_
  refine A_iald C dX9_down_17 (of_9_15 kx0) hf 18 rfl (fun hf => ?_)
  refine A_i2l C dX9_down_18 19 rfl ?_
  refine A_aload_n C dX9_down_19 (i := 0) rfl 0 rfl 20 rfl ?_
  refine A_iload C dX9_down_20 3 rfl 22 rfl ?_
  refine CVl C dX9_down_22 9 kx0 (by decide) (r := (RX9, TX9, 44)) rfl rfl hf (fun _ _ e => mX9_minute kx0 e) lkRX9_318 (by decide) (by decide) rfl [.long (((gI h (x0 + 3) (ix 1))).toInt64), .long x3] rfl (Nat.le_of_ble_eq_true rfl) 25 rfl (fun r22 h22 hf => ?_)
  refine A_lmul C dX9_down_25 26 rfl ?_
  refine A_ladd C dX9_down_26 27 rfl ?_
  refine A_namL hf (fun y1 hf => ?_)
  refine A_lstore_n C dX9_down_27 (i := 3) rfl [(3, .long y1), (0, .ref (K.2.1 x0)), (2, .int x2), (5, .int x5)] (lt_nl hnl (by decide)) rfl 28 rfl ?_
  refine A_iinc (v := (x5 + 1)) C dX9_down_28 3 rfl rfl [(5, .int (x5 + 1)), (3, .long y1), (0, .ref (K.2.1 x0)), (2, .int x2)] (lt_nl hnl (by decide)) rfl 31 rfl ?_
  refine A_goto C dX9_down_31 5 (by decide) ?_
  refine A_sub [2, 3, 1, 0] (lv' := [(0, .ref (K.2.1 x0)), (2, .int x2), (3, .long y1), (5, .int (x5 + 1))]) rfl ?_
  exact Hself5 _ _ _ hf
set_option maxRecDepth 20000 in
theorem mX9_down {K : KX} {x0 : Nat} {x1 : Int32} {x2 : Int32} (k0 : isK 9 x0) {h : HH} {rv : Int64} {hv : HH} (hf : fX9_down x0 x1 x2 h = some (rv, hv)) : MR K yX9_down cX9_down 6 (some .long) 4 [.ref (K.2.1 x0), .int x1, .int x2] h (some (.long rv)) hv := by
  refine MR_of (by decide) (Nat.le_of_ble_eq_true rfl) (fun G C E hnl => ?_)
  have C : Ok K G 4 cX9_down RX9 := C
  refine (show At K G 0 [(0, .ref (K.2.1 x0)), (1, .int x1), (2, .int x2)] [] h from ?_)
  unfold fX9_down at hf
  refine A_lconst (v := 0) C dX9_down_0 (by decide) 1 rfl ?_
  refine A_lstore_n C dX9_down_1 (i := 3) rfl [(3, .long 0), (0, .ref (K.2.1 x0)), (1, .int x1), (2, .int x2)] (lt_nl hnl (by decide)) rfl 2 rfl ?_
  refine A_iload_n C dX9_down_2 (i := 1) rfl 2 rfl 3 rfl ?_
  refine A_istore C dX9_down_3 [(5, .int x1), (3, .long 0), (0, .ref (K.2.1 x0)), (1, .int x1), (2, .int x2)] (lt_nl hnl (by decide)) rfl 5 rfl ?_
  refine A_sub [2, 4, 1, 0] (lv' := [(0, .ref (K.2.1 x0)), (2, .int x2), (3, .long 0), (5, .int x1)]) rfl ?_
  refine lq2_at (wX9_down_L5 C hnl E k0) FU _ _ _ hf
set_option maxRecDepth 20000 in
theorem wX9_endTasks_b27 {K : KX} {G : GX} (C : Ok K G 3 cX9_endTasks RX9) (hnl : G.2.2.2.2.2.2.2.2.2.2.2.2.2 = 7) {rv : HH} (E : Endd K G none none rv) {x0 : Nat} {x1 : Int64} {x3 : Int64} {x5 : Int64} {s0 : Int64}   (kx0 : isK 9 x0) {h : HH} (hf : fX9_endTasks_b27 x0 x1 x3 x5 s0 h = some rv) : At K G 27 [(0, .ref (K.2.1 x0)), (1, .long x1), (3, .long x3), (5, .long x5)] [.long s0, .ref (K.2.1 x0)] h := by
  unfold fX9_endTasks_b27 at hf
  refine pfRX9_387 C kx0 dX9_endTasks_27 30 rfl ?_
  refine A_lload_n C dX9_endTasks_30 (i := 3) rfl 2 rfl 31 rfl ?_
  refine A_aload_n C dX9_endTasks_31 (i := 0) rfl 0 rfl 32 rfl ?_
  refine gfRX9_20 C kx0 dX9_endTasks_32 35 rfl ?_
  refine A_iconst (v := 2) C dX9_endTasks_35 (by decide) 36 rfl ?_
  refine A_iald C dX9_endTasks_36 (of_9_15 kx0) hf 37 rfl (fun hf => ?_)
  refine A_i2l C dX9_endTasks_37 38 rfl ?_
  refine A_aload_n C dX9_endTasks_38 (i := 0) rfl 0 rfl 39 rfl ?_
  refine CVi C dX9_endTasks_39 9 kx0 (by decide) (r := (RX9, TX9, 44)) rfl rfl hf (fun _ _ e => mX9_bottom kx0 e) lkRX9_307 (by decide) (by decide) rfl [.long (((gI (sL h x0 32 s0) (x0 + 3) (ix 2))).toInt64), .long x3] rfl (Nat.le_of_ble_eq_true rfl) 42 rfl (fun r39 h39 hf => ?_)
  refine A_i2l C dX9_endTasks_42 43 rfl ?_
  refine A_lmul C dX9_endTasks_43 44 rfl ?_
  refine A_l_le C dX9_endTasks_44 dX9_endTasks_45 49 (by decide) 48 rfl hf (fun c44 hf => ?_) (fun c44 hf => ?_)
  · refine A_aload_n C dX9_endTasks_49 (i := 0) rfl 0 rfl 50 rfl ?_
    refine gfRX9_383 C kx0 dX9_endTasks_50 53 rfl ?_
    refine A_lconst (v := 0) C dX9_endTasks_53 (by decide) 54 rfl ?_
    refine A_l_lt C dX9_endTasks_54 dX9_endTasks_55 87 (by decide) 58 rfl hf (fun c54 hf => ?_) (fun c54 hf => ?_)
    · refine A_aload_n C dX9_endTasks_87 (i := 0) rfl 0 rfl 88 rfl ?_
      refine A_lload_n C dX9_endTasks_88 (i := 1) rfl 1 rfl 89 rfl ?_
      refine pfRX9_383 C kx0 dX9_endTasks_89 92 rfl ?_
      refine A_aload_n C dX9_endTasks_92 (i := 0) rfl 0 rfl 93 rfl ?_
      refine A_lload_n C dX9_endTasks_93 (i := 3) rfl 2 rfl 94 rfl ?_
      refine pfRX9_404 C kx0 dX9_endTasks_94 97 rfl ?_
      refine A_namH hf (fun g3 hf => ?_)
      refine A_aload_n C dX9_endTasks_97 (i := 0) rfl 0 rfl 98 rfl ?_
      refine A_lload C dX9_endTasks_98 3 rfl 100 rfl ?_
      refine pfRX9_401 C kx0 dX9_endTasks_100 103 rfl ?_
      refine A_aload_n C dX9_endTasks_103 (i := 0) rfl 0 rfl 104 rfl ?_
      refine gfRX9_51 C kx0 dX9_endTasks_104 107 rfl ?_
      refine A_iconst (v := 0) C dX9_endTasks_107 (by decide) 108 rfl ?_
      refine A_aload_n C dX9_endTasks_108 (i := 0) rfl 0 rfl 109 rfl ?_
      refine gfRX9_54 C kx0 dX9_endTasks_109 112 rfl ?_
      refine A_iconst (v := 0) C dX9_endTasks_112 (by decide) 113 rfl ?_
      refine A_aload_n C dX9_endTasks_113 (i := 0) rfl 0 rfl 114 rfl ?_
      refine gfRX9_20 C kx0 dX9_endTasks_114 117 rfl ?_
      refine A_bipush (v := 7) C dX9_endTasks_117 (by decide) 119 rfl ?_
      refine A_iald C dX9_endTasks_119 (of_9_15 kx0) hf 120 rfl (fun hf => ?_)
      refine CSv C dX9_endTasks_120 hf (fun _ e => mX9_copy (isK_ofA (of_9_27 kx0)) (isK_ofA (of_9_28 kx0)) e) lkRX9_200 (by decide) (by decide) rfl [] rfl (Nat.le_of_ble_eq_true rfl) 123 rfl (fun h120 hf => ?_)
      exact A_vret C dX9_endTasks_123 E hf
    refine A_lload_n C dX9_endTasks_58 (i := 1) rfl 1 rfl 59 rfl ?_
    refine A_aload_n C dX9_endTasks_59 (i := 0) rfl 0 rfl 60 rfl ?_
    refine gfRX9_383 C kx0 dX9_endTasks_60 63 rfl ?_
    refine A_l_gt C dX9_endTasks_63 dX9_endTasks_64 86 (by decide) 67 rfl hf (fun c63 hf => ?_) (fun c63 hf => ?_)
    · exact A_vret C dX9_endTasks_86 E hf
    refine A_lload_n C dX9_endTasks_67 (i := 1) rfl 1 rfl 68 rfl ?_
    refine A_aload_n C dX9_endTasks_68 (i := 0) rfl 0 rfl 69 rfl ?_
    refine gfRX9_383 C kx0 dX9_endTasks_69 72 rfl ?_
    refine A_l_ne C dX9_endTasks_72 dX9_endTasks_73 87 (by decide) 76 rfl hf (fun c72 hf => ?_) (fun c72 hf => ?_)
    · refine A_aload_n C dX9_endTasks_87 (i := 0) rfl 0 rfl 88 rfl ?_
      refine A_lload_n C dX9_endTasks_88 (i := 1) rfl 1 rfl 89 rfl ?_
      refine pfRX9_383 C kx0 dX9_endTasks_89 92 rfl ?_
      refine A_aload_n C dX9_endTasks_92 (i := 0) rfl 0 rfl 93 rfl ?_
      refine A_lload_n C dX9_endTasks_93 (i := 3) rfl 2 rfl 94 rfl ?_
      refine pfRX9_404 C kx0 dX9_endTasks_94 97 rfl ?_
      refine A_namH hf (fun g4 hf => ?_)
      refine A_aload_n C dX9_endTasks_97 (i := 0) rfl 0 rfl 98 rfl ?_
      refine A_lload C dX9_endTasks_98 3 rfl 100 rfl ?_
      refine pfRX9_401 C kx0 dX9_endTasks_100 103 rfl ?_
      refine A_aload_n C dX9_endTasks_103 (i := 0) rfl 0 rfl 104 rfl ?_
      refine gfRX9_51 C kx0 dX9_endTasks_104 107 rfl ?_
      refine A_iconst (v := 0) C dX9_endTasks_107 (by decide) 108 rfl ?_
      refine A_aload_n C dX9_endTasks_108 (i := 0) rfl 0 rfl 109 rfl ?_
      refine gfRX9_54 C kx0 dX9_endTasks_109 112 rfl ?_
      refine A_iconst (v := 0) C dX9_endTasks_112 (by decide) 113 rfl ?_
      refine A_aload_n C dX9_endTasks_113 (i := 0) rfl 0 rfl 114 rfl ?_
      refine gfRX9_20 C kx0 dX9_endTasks_114 117 rfl ?_
      refine A_bipush (v := 7) C dX9_endTasks_117 (by decide) 119 rfl ?_
      refine A_iald C dX9_endTasks_119 (of_9_15 kx0) hf 120 rfl (fun hf => ?_)
      refine CSv C dX9_endTasks_120 hf (fun _ e => mX9_copy (isK_ofA (of_9_27 kx0)) (isK_ofA (of_9_28 kx0)) e) lkRX9_200 (by decide) (by decide) rfl [] rfl (Nat.le_of_ble_eq_true rfl) 123 rfl (fun h120 hf => ?_)
      exact A_vret C dX9_endTasks_123 E hf
    refine A_lload C dX9_endTasks_76 3 rfl 78 rfl ?_
    refine A_aload_n C dX9_endTasks_78 (i := 0) rfl 0 rfl 79 rfl ?_
    refine gfRX9_401 C kx0 dX9_endTasks_79 82 rfl ?_
    refine A_l_lt C dX9_endTasks_82 dX9_endTasks_83 87 (by decide) 86 rfl hf (fun c82 hf => ?_) (fun c82 hf => ?_)
    · refine A_aload_n C dX9_endTasks_87 (i := 0) rfl 0 rfl 88 rfl ?_
      refine A_lload_n C dX9_endTasks_88 (i := 1) rfl 1 rfl 89 rfl ?_
      refine pfRX9_383 C kx0 dX9_endTasks_89 92 rfl ?_
      refine A_aload_n C dX9_endTasks_92 (i := 0) rfl 0 rfl 93 rfl ?_
      refine A_lload_n C dX9_endTasks_93 (i := 3) rfl 2 rfl 94 rfl ?_
      refine pfRX9_404 C kx0 dX9_endTasks_94 97 rfl ?_
      refine A_namH hf (fun g5 hf => ?_)
      refine A_aload_n C dX9_endTasks_97 (i := 0) rfl 0 rfl 98 rfl ?_
      refine A_lload C dX9_endTasks_98 3 rfl 100 rfl ?_
      refine pfRX9_401 C kx0 dX9_endTasks_100 103 rfl ?_
      refine A_aload_n C dX9_endTasks_103 (i := 0) rfl 0 rfl 104 rfl ?_
      refine gfRX9_51 C kx0 dX9_endTasks_104 107 rfl ?_
      refine A_iconst (v := 0) C dX9_endTasks_107 (by decide) 108 rfl ?_
      refine A_aload_n C dX9_endTasks_108 (i := 0) rfl 0 rfl 109 rfl ?_
      refine gfRX9_54 C kx0 dX9_endTasks_109 112 rfl ?_
      refine A_iconst (v := 0) C dX9_endTasks_112 (by decide) 113 rfl ?_
      refine A_aload_n C dX9_endTasks_113 (i := 0) rfl 0 rfl 114 rfl ?_
      refine gfRX9_20 C kx0 dX9_endTasks_114 117 rfl ?_
      refine A_bipush (v := 7) C dX9_endTasks_117 (by decide) 119 rfl ?_
      refine A_iald C dX9_endTasks_119 (of_9_15 kx0) hf 120 rfl (fun hf => ?_)
      refine CSv C dX9_endTasks_120 hf (fun _ e => mX9_copy (isK_ofA (of_9_27 kx0)) (isK_ofA (of_9_28 kx0)) e) lkRX9_200 (by decide) (by decide) rfl [] rfl (Nat.le_of_ble_eq_true rfl) 123 rfl (fun h120 hf => ?_)
      exact A_vret C dX9_endTasks_123 E hf
    exact A_vret C dX9_endTasks_86 E hf
  exact A_vret C dX9_endTasks_48 E hf
set_option maxRecDepth 20000 in
theorem wX9_endTasks_b19 {K : KX} {G : GX} (C : Ok K G 3 cX9_endTasks RX9) (hnl : G.2.2.2.2.2.2.2.2.2.2.2.2.2 = 7) {rv : HH} (E : Endd K G none none rv) {x0 : Nat} {x1 : Int64} {x3 : Int64} {x5 : Int64}   (kx0 : isK 9 x0) {h : HH} (hf : fX9_endTasks_b19 x0 x1 x3 x5 h = some rv) : At K G 19 [(0, .ref (K.2.1 x0)), (1, .long x1), (3, .long x3), (5, .long x5)] [.ref (K.2.1 x0)] h := by
  unfold fX9_endTasks_b19 at hf
  refine A_lload_n C dX9_endTasks_19 (i := 3) rfl 2 rfl 20 rfl ?_
  refine A_goto C dX9_endTasks_20 27 (by decide) ?_
  exact wX9_endTasks_b27 C hnl E kx0 hf
set_option maxRecDepth 20000 in
theorem mX9_endTasks {K : KX} {x0 : Nat} {x1 : Int64} {x3 : Int64} {x5 : Int64} (k0 : isK 9 x0) {h : HH} {rv : HH} (hf : fX9_endTasks x0 x1 x3 x5 h = some rv) : MR K yX9_endTasks cX9_endTasks 7 none 3 [.ref (K.2.1 x0), .long x1, .long x3, .long x5] h none rv := by
  refine MR_of (by decide) (Nat.le_of_ble_eq_true rfl) (fun G C E hnl => ?_)
  have C : Ok K G 3 cX9_endTasks RX9 := C
  refine (show At K G 0 [(0, .ref (K.2.1 x0)), (1, .long x1), (3, .long x3), (5, .long x5)] [] h from ?_)
  unfold fX9_endTasks at hf
  refine A_aload_n C dX9_endTasks_0 (i := 0) rfl 0 rfl 1 rfl ?_
  refine A_aload_n C dX9_endTasks_1 (i := 0) rfl 0 rfl 2 rfl ?_
  refine gfRX9_387 C k0 dX9_endTasks_2 5 rfl ?_
  refine A_lconst (v := 0) C dX9_endTasks_5 (by decide) 6 rfl ?_
  refine A_l_lt C dX9_endTasks_6 dX9_endTasks_7 19 (by decide) 10 rfl hf (fun c6 hf => ?_) (fun c6 hf => ?_)
  · exact wX9_endTasks_b19 C hnl E k0 hf
  refine A_lload_n C dX9_endTasks_10 (i := 3) rfl 2 rfl 11 rfl ?_
  refine A_aload_n C dX9_endTasks_11 (i := 0) rfl 0 rfl 12 rfl ?_
  refine gfRX9_387 C k0 dX9_endTasks_12 15 rfl ?_
  refine A_l_ge C dX9_endTasks_15 dX9_endTasks_16 23 (by decide) 19 rfl hf (fun c15 hf => ?_) (fun c15 hf => ?_)
  · refine A_aload_n C dX9_endTasks_23 (i := 0) rfl 0 rfl 24 rfl ?_
    refine gfRX9_387 C k0 dX9_endTasks_24 27 rfl ?_
    exact wX9_endTasks_b27 C hnl E k0 hf
  exact wX9_endTasks_b19 C hnl E k0 hf
set_option maxRecDepth 20000 in
theorem wX9_seekFrom_b92 {K : KX} {G : GX} {rk : Nat} (C : Ok K G (rk + 1) cX9_seekFrom RX9) (hnl : G.2.2.2.2.2.2.2.2.2.2.2.2.2 = 11) {rv : HH} (E : Endd K G none none rv) (hrk0 : 5 ≤ rk) {x0 : Nat} {x1 : Int32} {x2 : Int32} {x3 : Int64} {x5 : Int64} {x7 : Int64} {x9 : Int32} {x10 : Int32} {s0 : Int32} {s1 : Int32} {rec : Nat → Int32 → Int32 → Int64 → Int64 → Int64 → HH → Option (HH)} {self57 : Int32 → HH → Option (HH)} (Hrec : ∀ (x0 : Nat) (x1 : Int32) (x2 : Int32) (x3 : Int64) (x5 : Int64) (x7 : Int64) (k0 : isK 9 x0) (h : HH) (rv : HH), rec x0 x1 x2 x3 x5 x7 h = some rv → MR K yX9_seekFrom cX9_seekFrom 11 none rk [.ref (K.2.1 x0), .int x1, .int x2, .long x3, .long x5, .long x7] h none rv) (Hself57 : ∀ (x10 : Int32) (h : HH), self57 x10 h = some rv → At K G 57 [(0, .ref (K.2.1 x0)), (1, .int x1), (2, .int x2), (3, .long x3), (5, .long x5), (7, .long x7), (9, .int x9), (10, .int x10)] [] h) (kx0 : isK 9 x0) {h : HH} (hf : fX9_seekFrom_b92 rec self57 x0 x1 x2 x3 x5 x7 x9 x10 s0 s1 h = some rv) : At K G 92 [(0, .ref (K.2.1 x0)), (1, .int x1), (2, .int x2), (3, .long x3), (5, .long x5), (7, .long x7), (9, .int x9), (10, .int x10)] [.int s0, .int s1, .ref (K.2.1 x0)] h := by
  unfold fX9_seekFrom_b92 at hf
  refine A_lload_n C dX9_seekFrom_92 (i := 3) rfl 3 rfl 93 rfl ?_
  refine A_aload_n C dX9_seekFrom_93 (i := 0) rfl 0 rfl 94 rfl ?_
  refine gfRX9_20 C kx0 dX9_seekFrom_94 97 rfl ?_
  refine A_iload C dX9_seekFrom_97 6 rfl 99 rfl ?_
  refine A_iconst (v := 2) C dX9_seekFrom_99 (by decide) 100 rfl ?_
  refine A_iadd C dX9_seekFrom_100 101 rfl ?_
  refine A_iald C dX9_seekFrom_101 (of_9_15 kx0) hf 102 rfl (fun hf => ?_)
  refine A_i2l C dX9_seekFrom_102 103 rfl ?_
  refine A_iload C dX9_seekFrom_103 7 rfl 105 rfl ?_
  refine A_i2l C dX9_seekFrom_105 106 rfl ?_
  refine A_lmul C dX9_seekFrom_106 107 rfl ?_
  refine A_ladd C dX9_seekFrom_107 108 rfl ?_
  refine A_lload C dX9_seekFrom_108 4 rfl 110 rfl ?_
  refine A_aload_n C dX9_seekFrom_110 (i := 0) rfl 0 rfl 111 rfl ?_
  refine gfRX9_20 C kx0 dX9_seekFrom_111 114 rfl ?_
  refine A_iload C dX9_seekFrom_114 6 rfl 116 rfl ?_
  refine A_iconst (v := 1) C dX9_seekFrom_116 (by decide) 117 rfl ?_
  refine A_iadd C dX9_seekFrom_117 118 rfl ?_
  refine A_iald C dX9_seekFrom_118 (of_9_15 kx0) hf 119 rfl (fun hf => ?_)
  refine A_i2l C dX9_seekFrom_119 120 rfl ?_
  refine A_aload_n C dX9_seekFrom_120 (i := 0) rfl 0 rfl 121 rfl ?_
  refine A_iload C dX9_seekFrom_121 7 rfl 123 rfl ?_
  refine CVl C dX9_seekFrom_123 9 kx0 (by decide) (r := (RX9, TX9, 44)) rfl rfl hf (fun _ _ e => mX9_minute kx0 e) lkRX9_318 (by omega) (by decide) rfl [.long (((gI h (x0 + 3) (ix (x9 + 1)))).toInt64), .long x5, .long (x3 + ((((gI h (x0 + 3) (ix (x9 + 2)))).toInt64) * x10.toInt64)), .int s0, .int s1, .ref (K.2.1 x0)] rfl (Nat.le_of_ble_eq_true rfl) 126 rfl (fun r123 h123 hf => ?_)
  refine A_lmul C dX9_seekFrom_126 127 rfl ?_
  refine A_ladd C dX9_seekFrom_127 128 rfl ?_
  refine A_lload C dX9_seekFrom_128 5 rfl 130 rfl ?_
  refine A_aload_n C dX9_seekFrom_130 (i := 0) rfl 0 rfl 131 rfl ?_
  refine gfRX9_20 C kx0 dX9_seekFrom_131 134 rfl ?_
  refine A_iload C dX9_seekFrom_134 6 rfl 136 rfl ?_
  refine A_iconst (v := 1) C dX9_seekFrom_136 (by decide) 137 rfl ?_
  refine A_iadd C dX9_seekFrom_137 138 rfl ?_
  refine A_iald C dX9_seekFrom_138 (of_9_15 kx0) hf 139 rfl (fun hf => ?_)
  refine A_i2l C dX9_seekFrom_139 140 rfl ?_
  refine A_ladd C dX9_seekFrom_140 141 rfl ?_
  refine CVv C dX9_seekFrom_141 9 kx0 (by decide) (r := (RX9, TX9, 44)) rfl rfl hf (fun _ e => Hrec x0 s1 s0 (x3 + ((((gI h (x0 + 3) (ix (x9 + 2)))).toInt64) * x10.toInt64)) (x5 + ((((gI h (x0 + 3) (ix (x9 + 1)))).toInt64) * r123)) (x7 + (((gI h123 (x0 + 3) (ix (x9 + 1)))).toInt64)) kx0 _ _ e) lkRX9_390 (Nat.le_refl _) (by decide) rfl [] rfl (Nat.le_of_ble_eq_true rfl) 144 rfl (fun h141 hf => ?_)
  refine A_iinc (v := (x10 + 1)) C dX9_seekFrom_144 7 rfl rfl [(10, .int (x10 + 1)), (0, .ref (K.2.1 x0)), (1, .int x1), (2, .int x2), (3, .long x3), (5, .long x5), (7, .long x7), (9, .int x9)] (lt_nl hnl (by decide)) rfl 147 rfl ?_
  refine A_goto C dX9_seekFrom_147 57 (by decide) ?_
  refine A_sub [1, 2, 3, 4, 5, 6, 7, 0] (lv' := [(0, .ref (K.2.1 x0)), (1, .int x1), (2, .int x2), (3, .long x3), (5, .long x5), (7, .long x7), (9, .int x9), (10, .int (x10 + 1))]) rfl ?_
  exact Hself57 _ _ hf
set_option maxRecDepth 20000 in
theorem wX9_seekFrom_L57 {K : KX} {G : GX} {rk : Nat} (C : Ok K G (rk + 1) cX9_seekFrom RX9) (hnl : G.2.2.2.2.2.2.2.2.2.2.2.2.2 = 11) {rv : HH} (E : Endd K G none none rv) (hrk0 : 5 ≤ rk) {x0 : Nat} {x1 : Int32} {x2 : Int32} {x3 : Int64} {x5 : Int64} {x7 : Int64} {x9 : Int32} {rec : Nat → Int32 → Int32 → Int64 → Int64 → Int64 → HH → Option (HH)} (Hrec : ∀ (x0 : Nat) (x1 : Int32) (x2 : Int32) (x3 : Int64) (x5 : Int64) (x7 : Int64) (k0 : isK 9 x0) (h : HH) (rv : HH), rec x0 x1 x2 x3 x5 x7 h = some rv → MR K yX9_seekFrom cX9_seekFrom 11 none rk [.ref (K.2.1 x0), .int x1, .int x2, .long x3, .long x5, .long x7] h none rv)  (kx0 : isK 9 x0) : ∀ (self57 : Int32 → HH → Option (HH)), (∀ (x10 : Int32) (h : HH), self57 x10 h = some rv → At K G 57 [(0, .ref (K.2.1 x0)), (1, .int x1), (2, .int x2), (3, .long x3), (5, .long x5), (7, .long x7), (9, .int x9), (10, .int x10)] [] h) → ∀ (x10 : Int32) (h : HH), fX9_seekFrom_L57 rec x0 x1 x2 x3 x5 x7 x9 self57 x10 h = some rv → At K G 57 [(0, .ref (K.2.1 x0)), (1, .int x1), (2, .int x2), (3, .long x3), (5, .long x5), (7, .long x7), (9, .int x9), (10, .int x10)] [] h := by
  intro self57 Hself57 x10 h hf
  unfold fX9_seekFrom_L57 at hf
  refine A_iload C dX9_seekFrom_57 7 rfl 59 rfl ?_
  refine A_aload_n C dX9_seekFrom_59 (i := 0) rfl 0 rfl 60 rfl ?_
  refine gfRX9_20 C kx0 dX9_seekFrom_60 63 rfl ?_
  refine A_iconst (v := 0) C dX9_seekFrom_63 (by decide) 64 rfl ?_
  refine A_iald C dX9_seekFrom_64 (of_9_15 kx0) hf 65 rfl (fun hf => ?_)
  refine A_icmp_gt C dX9_seekFrom_65 150 (by decide) 68 rfl hf (fun c65 hf => ?_) (fun c65 hf => ?_)
  · exact A_vret C dX9_seekFrom_150 E hf
  refine A_aload_n C dX9_seekFrom_68 (i := 0) rfl 0 rfl 69 rfl ?_
  refine gfRX9_51 C kx0 dX9_seekFrom_69 72 rfl ?_
  refine A_iload_n C dX9_seekFrom_72 (i := 1) rfl 1 rfl 73 rfl ?_
  refine A_iload C dX9_seekFrom_73 7 rfl 75 rfl ?_
  refine A_iast C dX9_seekFrom_75 (of_9_27 kx0) hf 76 rfl (fun hf => ?_)
  refine A_aload_n C dX9_seekFrom_76 (i := 0) rfl 0 rfl 77 rfl ?_
  refine A_iload_n C dX9_seekFrom_77 (i := 1) rfl 1 rfl 78 rfl ?_
  refine A_iconst (v := 1) C dX9_seekFrom_78 (by decide) 79 rfl ?_
  refine A_iadd C dX9_seekFrom_79 80 rfl ?_
  refine A_iload C dX9_seekFrom_80 7 rfl 82 rfl ?_
  refine A_iload_n C dX9_seekFrom_82 (i := 2) rfl 2 rfl 83 rfl ?_
  refine A_icmp_le C dX9_seekFrom_83 91 (by decide) 86 rfl hf (fun c83 hf => ?_) (fun c83 hf => ?_)
  · refine A_iload_n C dX9_seekFrom_91 (i := 2) rfl 2 rfl 92 rfl ?_
    exact wX9_seekFrom_b92 C hnl E hrk0 Hrec Hself57 kx0 hf
  refine A_iload C dX9_seekFrom_86 7 rfl 88 rfl ?_
  refine A_goto C dX9_seekFrom_88 92 (by decide) ?_
  exact wX9_seekFrom_b92 C hnl E hrk0 Hrec Hself57 kx0 hf
set_option maxRecDepth 20000 in
theorem mX9_seekFrom_0 {K : KX} {rk : Nat} (hrk0 : 5 ≤ rk) {rec : Nat → Int32 → Int32 → Int64 → Int64 → Int64 → HH → Option (HH)} (Hrec : ∀ (x0 : Nat) (x1 : Int32) (x2 : Int32) (x3 : Int64) (x5 : Int64) (x7 : Int64) (k0 : isK 9 x0) (h : HH) (rv : HH), rec x0 x1 x2 x3 x5 x7 h = some rv → MR K yX9_seekFrom cX9_seekFrom 11 none rk [.ref (K.2.1 x0), .int x1, .int x2, .long x3, .long x5, .long x7] h none rv) {x0 : Nat} {x1 : Int32} {x2 : Int32} {x3 : Int64} {x5 : Int64} {x7 : Int64} (k0 : isK 9 x0) {h : HH} {rv : HH} (hf : fX9_seekFrom_0 rec x0 x1 x2 x3 x5 x7 h = some rv) : MR K yX9_seekFrom cX9_seekFrom 11 none (rk + 1) [.ref (K.2.1 x0), .int x1, .int x2, .long x3, .long x5, .long x7] h none rv := by
  refine MR_of (by decide) (Nat.le_of_ble_eq_true rfl) (fun G C E hnl => ?_)
  have C : Ok K G (rk + 1) cX9_seekFrom RX9 := C
  refine (show At K G 0 [(0, .ref (K.2.1 x0)), (1, .int x1), (2, .int x2), (3, .long x3), (5, .long x5), (7, .long x7)] [] h from ?_)
  unfold fX9_seekFrom_0 at hf
  refine A_iload_n C dX9_seekFrom_0 (i := 1) rfl 1 rfl 1 rfl ?_
  refine A_aload_n C dX9_seekFrom_1 (i := 0) rfl 0 rfl 2 rfl ?_
  refine gfRX9_20 C k0 dX9_seekFrom_2 5 rfl ?_
  refine A_bipush (v := 7) C dX9_seekFrom_5 (by decide) 7 rfl ?_
  refine A_iald C dX9_seekFrom_7 (of_9_15 k0) hf 8 rfl (fun hf => ?_)
  refine A_icmp_ne C dX9_seekFrom_8 39 (by decide) 11 rfl hf (fun c8 hf => ?_) (fun c8 hf => ?_)
  · refine A_sipush (v := 132) C dX9_seekFrom_39 (by decide) 42 rfl ?_
    refine A_iconst (v := 3) C dX9_seekFrom_42 (by decide) 43 rfl ?_
    refine A_iload_n C dX9_seekFrom_43 (i := 1) rfl 1 rfl 44 rfl ?_
    refine A_imul C dX9_seekFrom_44 45 rfl ?_
    refine A_iadd C dX9_seekFrom_45 46 rfl ?_
    refine A_namI hf (fun y1 hf => ?_)
    refine A_istore C dX9_seekFrom_46 [(9, .int y1), (0, .ref (K.2.1 x0)), (1, .int x1), (2, .int x2), (3, .long x3), (5, .long x5), (7, .long x7)] (lt_nl hnl (by decide)) rfl 48 rfl ?_
    refine A_aload_n C dX9_seekFrom_48 (i := 0) rfl 1 rfl 49 rfl ?_
    refine gfRX9_20 C k0 dX9_seekFrom_49 52 rfl ?_
    refine A_iload C dX9_seekFrom_52 0 rfl 54 rfl ?_
    refine A_iald C dX9_seekFrom_54 (of_9_15 k0) hf 55 rfl (fun hf => ?_)
    refine A_namI hf (fun y2 hf => ?_)
    refine A_istore C dX9_seekFrom_55 [(10, .int y2), (9, .int y1), (0, .ref (K.2.1 x0)), (1, .int x1), (2, .int x2), (3, .long x3), (5, .long x5), (7, .long x7)] (lt_nl hnl (by decide)) rfl 57 rfl ?_
    refine A_sub [2, 3, 4, 5, 6, 7, 1, 0] (lv' := [(0, .ref (K.2.1 x0)), (1, .int x1), (2, .int x2), (3, .long x3), (5, .long x5), (7, .long x7), (9, .int y1), (10, .int y2)]) rfl ?_
    refine lq1_at (wX9_seekFrom_L57 C hnl E hrk0 Hrec k0) FU _ _ hf
  refine A_aload_n C dX9_seekFrom_11 (i := 0) rfl 0 rfl 12 rfl ?_
  refine A_lload_n C dX9_seekFrom_12 (i := 3) rfl 3 rfl 13 rfl ?_
  refine A_lload C dX9_seekFrom_13 4 rfl 15 rfl ?_
  refine A_aload_n C dX9_seekFrom_15 (i := 0) rfl 0 rfl 16 rfl ?_
  refine A_iconst (v := 0) C dX9_seekFrom_16 (by decide) 17 rfl ?_
  refine A_iload_n C dX9_seekFrom_17 (i := 2) rfl 2 rfl 18 rfl ?_
  refine CVl C dX9_seekFrom_18 9 k0 (by decide) (r := (RX9, TX9, 44)) rfl rfl hf (fun _ _ e => mX9_down k0 e) lkRX9_394 (by omega) (by decide) rfl [.long x5, .long x3, .ref (K.2.1 x0)] rfl (Nat.le_of_ble_eq_true rfl) 21 rfl (fun r18 h18 hf => ?_)
  refine A_ladd C dX9_seekFrom_21 22 rfl ?_
  refine A_lload C dX9_seekFrom_22 5 rfl 24 rfl ?_
  refine A_aload_n C dX9_seekFrom_24 (i := 0) rfl 0 rfl 25 rfl ?_
  refine gfRX9_20 C k0 dX9_seekFrom_25 28 rfl ?_
  refine A_iconst (v := 1) C dX9_seekFrom_28 (by decide) 29 rfl ?_
  refine A_iald C dX9_seekFrom_29 (of_9_15 k0) hf 30 rfl (fun hf => ?_)
  refine A_i2l C dX9_seekFrom_30 31 rfl ?_
  refine A_iload_n C dX9_seekFrom_31 (i := 2) rfl 2 rfl 32 rfl ?_
  refine A_i2l C dX9_seekFrom_32 33 rfl ?_
  refine A_lmul C dX9_seekFrom_33 34 rfl ?_
  refine A_ladd C dX9_seekFrom_34 35 rfl ?_
  refine CVv C dX9_seekFrom_35 9 k0 (by decide) (r := (RX9, TX9, 44)) rfl rfl hf (fun _ e => mX9_endTasks k0 e) lkRX9_397 (by omega) (by decide) rfl [] rfl (Nat.le_of_ble_eq_true rfl) 38 rfl (fun h35 hf => ?_)
  exact A_vret C dX9_seekFrom_38 E hf
theorem mX9_seekFrom {K : KX} (dp : Nat) {x0 : Nat} {x1 : Int32} {x2 : Int32} {x3 : Int64} {x5 : Int64} {x7 : Int64} (k0 : isK 9 x0) {h : HH} {rv : HH} (hf : fX9_seekFrom dp x0 x1 x2 x3 x5 x7 h = some rv) : MR K yX9_seekFrom cX9_seekFrom 11 none (5 + dp) [.ref (K.2.1 x0), .int x1, .int x2, .long x3, .long x5, .long x7] h none rv := by
  have hq := lq6_rec (f := fX9_seekFrom_0) (P := fun n x0 x1 x2 x3 x5 x7 h q => isK 9 x0 → MR K yX9_seekFrom cX9_seekFrom 11 none (5 + n) [.ref (K.2.1 x0), .int x1, .int x2, .long x3, .long x5, .long x7] h none q) (fun n self ih x0 x1 x2 x3 x5 x7 h q hf k0 => mX9_seekFrom_0 (rk := 5 + n) (Nat.le_add_right _ _) (rec := self) (fun x0 x1 x2 x3 x5 x7 k0 h rv e => ih x0 x1 x2 x3 x5 x7 h rv e k0) k0 hf) dp x0 x1 x2 x3 x5 x7 h _ hf
  exact hq k0
set_option maxRecDepth 20000 in
theorem mX9_seekTasks {K : KX} {x0 : Nat} (k0 : isK 9 x0) {h : HH} {rv : HH} (hf : fX9_seekTasks x0 h = some rv) : MR K yX9_seekTasks cX9_seekTasks 1 none 14 [.ref (K.2.1 x0)] h none rv := by
  refine MR_of (by decide) (Nat.le_of_ble_eq_true rfl) (fun G C E hnl => ?_)
  have C : Ok K G 14 cX9_seekTasks RX9 := C
  refine (show At K G 0 [(0, .ref (K.2.1 x0))] [] h from ?_)
  unfold fX9_seekTasks at hf
  refine A_aload_n C dX9_seekTasks_0 (i := 0) rfl 0 rfl 1 rfl ?_
  refine A_ldc2 C dX9_seekTasks_1 cRX9_316 4 rfl ?_
  refine pfRX9_383 C k0 dX9_seekTasks_4 7 rfl ?_
  refine A_aload_n C dX9_seekTasks_7 (i := 0) rfl 0 rfl 8 rfl ?_
  refine A_ldc2 C dX9_seekTasks_8 cRX9_316 11 rfl ?_
  refine pfRX9_387 C k0 dX9_seekTasks_11 14 rfl ?_
  refine A_namH hf (fun g1 hf => ?_)
  refine A_aload_n C dX9_seekTasks_14 (i := 0) rfl 0 rfl 15 rfl ?_
  refine A_iconst (v := 0) C dX9_seekTasks_15 (by decide) 16 rfl ?_
  refine A_iconst (v := 0) C dX9_seekTasks_16 (by decide) 17 rfl ?_
  refine A_lconst (v := 0) C dX9_seekTasks_17 (by decide) 18 rfl ?_
  refine A_lconst (v := 0) C dX9_seekTasks_18 (by decide) 19 rfl ?_
  refine A_lconst (v := 0) C dX9_seekTasks_19 (by decide) 20 rfl ?_
  refine CVv C dX9_seekTasks_20 9 k0 (by decide) (r := (RX9, TX9, 44)) rfl rfl hf (fun _ e => mX9_seekFrom 8 k0 e) lkRX9_390 (by decide) (by decide) rfl [] rfl (Nat.le_of_ble_eq_true rfl) 23 rfl (fun h20 hf => ?_)
  exact A_vret C dX9_seekTasks_23 E hf
set_option maxRecDepth 20000 in
theorem mX9_task {K : KX} {x0 : Nat} {x1 : Int32} (k0 : isK 9 x0) {h : HH} {rv : Int32} {hv : HH} (hf : fX9_task x0 x1 h = some (rv, hv)) : MR K yX9_task cX9_task 2 (some .int) 15 [.ref (K.2.1 x0), .int x1] h (some (.int rv)) hv := by
  refine MR_of (by decide) (Nat.le_of_ble_eq_true rfl) (fun G C E hnl => ?_)
  have C : Ok K G 15 cX9_task RX9 := C
  refine (show At K G 0 [(0, .ref (K.2.1 x0)), (1, .int x1)] [] h from ?_)
  unfold fX9_task at hf
  refine A_aload_n C dX9_task_0 (i := 0) rfl 0 rfl 1 rfl ?_
  refine CVv C dX9_task_1 9 k0 (by decide) (r := (RX9, TX9, 44)) rfl rfl hf (fun _ e => mX9_good k0 e) lkRX9_191 (by decide) (by decide) rfl [] rfl (Nat.le_of_ble_eq_true rfl) 4 rfl (fun h1 hf => ?_)
  refine A_aload_n C dX9_task_4 (i := 0) rfl 0 rfl 5 rfl ?_
  refine gfRX9_204 C k0 dX9_task_5 8 rfl ?_
  refine A_if_eq C dX9_task_8 28 (by decide) 11 rfl hf (fun c8 hf => ?_) (fun c8 hf => ?_)
  · refine A_aload_n C dX9_task_28 (i := 0) rfl 0 rfl 29 rfl ?_
    refine A_iconst (v := 1) C dX9_task_29 (by decide) 30 rfl ?_
    refine CVi C dX9_task_30 9 k0 (by decide) (r := (RX9, TX9, 44)) rfl rfl hf (fun _ _ e => mX9_no k0 e) lkRX9_194 (by decide) (by decide) rfl [] rfl (Nat.le_of_ble_eq_true rfl) 33 rfl (fun r30 h30 hf => ?_)
    exact A_iret C dX9_task_33 E hf
  refine A_iload_n C dX9_task_11 (i := 1) rfl 1 rfl 12 rfl ?_
  refine A_iconst (v := 0) C dX9_task_12 (by decide) 13 rfl ?_
  refine A_aload_n C dX9_task_13 (i := 0) rfl 0 rfl 14 rfl ?_
  refine gfRX9_20 C k0 dX9_task_14 17 rfl ?_
  refine A_bipush (v := 7) C dX9_task_17 (by decide) 19 rfl ?_
  refine A_iald C dX9_task_19 (of_9_15 k0) hf 20 rfl (fun hf => ?_)
  refine A_iconst (v := 1) C dX9_task_20 (by decide) 21 rfl ?_
  refine A_isub C dX9_task_21 22 rfl ?_
  refine CSz C dX9_task_22 hf (fun _ _ e => mX9_within  e) lkRX9_170 (by decide) (by decide) rfl [] rfl (Nat.le_of_ble_eq_true rfl) 25 rfl (fun r22 h22 hf => ?_)
  refine A_z_ne C dX9_task_25 34 (by decide) 28 rfl hf (fun c25 hf => ?_) (fun c25 hf => ?_)
  · refine A_aload_n C dX9_task_34 (i := 0) rfl 0 rfl 35 rfl ?_
    refine CVv C dX9_task_35 9 k0 (by decide) (r := (RX9, TX9, 44)) rfl rfl hf (fun _ e => mX9_seekTasks k0 e) lkRX9_407 (by decide) (by decide) rfl [] rfl (Nat.le_of_ble_eq_true rfl) 38 rfl (fun h35 hf => ?_)
    refine A_aload_n C dX9_task_38 (i := 0) rfl 0 rfl 39 rfl ?_
    refine gfRX9_383 C k0 dX9_task_39 42 rfl ?_
    refine A_lconst (v := 0) C dX9_task_42 (by decide) 43 rfl ?_
    refine A_l_ge C dX9_task_43 dX9_task_44 52 (by decide) 47 rfl hf (fun c43 hf => ?_) (fun c43 hf => ?_)
    · refine A_aload_n C dX9_task_52 (i := 0) rfl 0 rfl 53 rfl ?_
      refine gfRX9_54 C k0 dX9_task_53 56 rfl ?_
      refine A_iload_n C dX9_task_56 (i := 1) rfl 1 rfl 57 rfl ?_
      refine A_iald C dX9_task_57 (of_9_28 k0) hf 58 rfl (fun hf => ?_)
      exact A_iret C dX9_task_58 E hf
    refine A_bipush (v := (-2)) C dX9_task_47 (by decide) 49 rfl ?_
    refine A_goto C dX9_task_49 58 (by decide) ?_
    exact A_iret C dX9_task_58 E hf
  refine A_aload_n C dX9_task_28 (i := 0) rfl 0 rfl 29 rfl ?_
  refine A_iconst (v := 1) C dX9_task_29 (by decide) 30 rfl ?_
  refine CVi C dX9_task_30 9 k0 (by decide) (r := (RX9, TX9, 44)) rfl rfl hf (fun _ _ e => mX9_no k0 e) lkRX9_194 (by decide) (by decide) rfl [] rfl (Nat.le_of_ble_eq_true rfl) 33 rfl (fun r30 h30 hf => ?_)
  exact A_iret C dX9_task_33 E hf
set_option maxRecDepth 20000 in
theorem mX9_best {K : KX} {x0 : Nat} {x1 : Int32} (k0 : isK 9 x0) {h : HH} {rv : Int64} {hv : HH} (hf : fX9_best x0 x1 h = some (rv, hv)) : MR K yX9_best cX9_best 2 (some .long) 15 [.ref (K.2.1 x0), .int x1] h (some (.long rv)) hv := by
  refine MR_of (by decide) (Nat.le_of_ble_eq_true rfl) (fun G C E hnl => ?_)
  have C : Ok K G 15 cX9_best RX9 := C
  refine (show At K G 0 [(0, .ref (K.2.1 x0)), (1, .int x1)] [] h from ?_)
  unfold fX9_best at hf
  refine A_aload_n C dX9_best_0 (i := 0) rfl 0 rfl 1 rfl ?_
  refine CVv C dX9_best_1 9 k0 (by decide) (r := (RX9, TX9, 44)) rfl rfl hf (fun _ e => mX9_good k0 e) lkRX9_191 (by decide) (by decide) rfl [] rfl (Nat.le_of_ble_eq_true rfl) 4 rfl (fun h1 hf => ?_)
  refine A_aload_n C dX9_best_4 (i := 0) rfl 0 rfl 5 rfl ?_
  refine gfRX9_204 C k0 dX9_best_5 8 rfl ?_
  refine A_if_eq C dX9_best_8 20 (by decide) 11 rfl hf (fun c8 hf => ?_) (fun c8 hf => ?_)
  · refine A_aload_n C dX9_best_20 (i := 0) rfl 0 rfl 21 rfl ?_
    refine A_iconst (v := 1) C dX9_best_21 (by decide) 22 rfl ?_
    refine CVi C dX9_best_22 9 k0 (by decide) (r := (RX9, TX9, 44)) rfl rfl hf (fun _ _ e => mX9_no k0 e) lkRX9_194 (by decide) (by decide) rfl [] rfl (Nat.le_of_ble_eq_true rfl) 25 rfl (fun r22 h22 hf => ?_)
    refine A_i2l C dX9_best_25 26 rfl ?_
    exact A_lret C dX9_best_26 E hf
  refine A_iload_n C dX9_best_11 (i := 1) rfl 1 rfl 12 rfl ?_
  refine A_iconst (v := 0) C dX9_best_12 (by decide) 13 rfl ?_
  refine A_iconst (v := 2) C dX9_best_13 (by decide) 14 rfl ?_
  refine CSz C dX9_best_14 hf (fun _ _ e => mX9_within  e) lkRX9_170 (by decide) (by decide) rfl [] rfl (Nat.le_of_ble_eq_true rfl) 17 rfl (fun r14 h14 hf => ?_)
  refine A_z_ne C dX9_best_17 27 (by decide) 20 rfl hf (fun c17 hf => ?_) (fun c17 hf => ?_)
  · refine A_aload_n C dX9_best_27 (i := 0) rfl 0 rfl 28 rfl ?_
    refine CVv C dX9_best_28 9 k0 (by decide) (r := (RX9, TX9, 44)) rfl rfl hf (fun _ e => mX9_seekTasks k0 e) lkRX9_407 (by decide) (by decide) rfl [] rfl (Nat.le_of_ble_eq_true rfl) 31 rfl (fun h28 hf => ?_)
    refine A_aload_n C dX9_best_31 (i := 0) rfl 0 rfl 32 rfl ?_
    refine gfRX9_383 C k0 dX9_best_32 35 rfl ?_
    refine A_lconst (v := 0) C dX9_best_35 (by decide) 36 rfl ?_
    refine A_l_ge C dX9_best_36 dX9_best_37 46 (by decide) 40 rfl hf (fun c36 hf => ?_) (fun c36 hf => ?_)
    · refine A_iload_n C dX9_best_46 (i := 1) rfl 1 rfl 47 rfl ?_
      refine A_if_ne C dX9_best_47 57 (by decide) 50 rfl hf (fun c47 hf => ?_) (fun c47 hf => ?_)
      · refine A_iload_n C dX9_best_57 (i := 1) rfl 1 rfl 58 rfl ?_
        refine A_iconst (v := 1) C dX9_best_58 (by decide) 59 rfl ?_
        refine A_icmp_ne C dX9_best_59 69 (by decide) 62 rfl hf (fun c59 hf => ?_) (fun c59 hf => ?_)
        · refine A_aload_n C dX9_best_69 (i := 0) rfl 0 rfl 70 rfl ?_
          refine gfRX9_401 C k0 dX9_best_70 73 rfl ?_
          exact A_lret C dX9_best_73 E hf
        refine A_aload_n C dX9_best_62 (i := 0) rfl 0 rfl 63 rfl ?_
        refine gfRX9_404 C k0 dX9_best_63 66 rfl ?_
        refine A_goto C dX9_best_66 73 (by decide) ?_
        exact A_lret C dX9_best_73 E hf
      refine A_aload_n C dX9_best_50 (i := 0) rfl 0 rfl 51 rfl ?_
      refine gfRX9_383 C k0 dX9_best_51 54 rfl ?_
      refine A_goto C dX9_best_54 73 (by decide) ?_
      exact A_lret C dX9_best_73 E hf
    refine A_ldc2 C dX9_best_40 cRX9_410 43 rfl ?_
    refine A_goto C dX9_best_43 73 (by decide) ?_
    exact A_lret C dX9_best_73 E hf
  refine A_aload_n C dX9_best_20 (i := 0) rfl 0 rfl 21 rfl ?_
  refine A_iconst (v := 1) C dX9_best_21 (by decide) 22 rfl ?_
  refine CVi C dX9_best_22 9 k0 (by decide) (r := (RX9, TX9, 44)) rfl rfl hf (fun _ _ e => mX9_no k0 e) lkRX9_194 (by decide) (by decide) rfl [] rfl (Nat.le_of_ble_eq_true rfl) 25 rfl (fun r22 h22 hf => ?_)
  refine A_i2l C dX9_best_25 26 rfl ?_
  exact A_lret C dX9_best_26 E hf
set_option maxRecDepth 20000 in
theorem mX9_soonest {K : KX} {x0 : Nat} (k0 : isK 9 x0) {h : HH} {rv : Int64} {hv : HH} (hf : fX9_soonest x0 h = some (rv, hv)) : MR K yX9_soonest cX9_soonest 1 (some .long) 15 [.ref (K.2.1 x0)] h (some (.long rv)) hv := by
  refine MR_of (by decide) (Nat.le_of_ble_eq_true rfl) (fun G C E hnl => ?_)
  have C : Ok K G 15 cX9_soonest RX9 := C
  refine (show At K G 0 [(0, .ref (K.2.1 x0))] [] h from ?_)
  unfold fX9_soonest at hf
  refine A_aload_n C dX9_soonest_0 (i := 0) rfl 0 rfl 1 rfl ?_
  refine CVv C dX9_soonest_1 9 k0 (by decide) (r := (RX9, TX9, 44)) rfl rfl hf (fun _ e => mX9_good k0 e) lkRX9_191 (by decide) (by decide) rfl [] rfl (Nat.le_of_ble_eq_true rfl) 4 rfl (fun h1 hf => ?_)
  refine A_aload_n C dX9_soonest_4 (i := 0) rfl 0 rfl 5 rfl ?_
  refine gfRX9_204 C k0 dX9_soonest_5 8 rfl ?_
  refine A_if_ne C dX9_soonest_8 18 (by decide) 11 rfl hf (fun c8 hf => ?_) (fun c8 hf => ?_)
  · refine A_aload_n C dX9_soonest_18 (i := 0) rfl 0 rfl 19 rfl ?_
    refine CVv C dX9_soonest_19 9 k0 (by decide) (r := (RX9, TX9, 44)) rfl rfl hf (fun _ e => mX9_seekTasks k0 e) lkRX9_407 (by decide) (by decide) rfl [] rfl (Nat.le_of_ble_eq_true rfl) 22 rfl (fun h19 hf => ?_)
    refine A_aload_n C dX9_soonest_22 (i := 0) rfl 0 rfl 23 rfl ?_
    refine gfRX9_387 C k0 dX9_soonest_23 26 rfl ?_
    exact A_lret C dX9_soonest_26 E hf
  refine A_aload_n C dX9_soonest_11 (i := 0) rfl 0 rfl 12 rfl ?_
  refine A_iconst (v := 1) C dX9_soonest_12 (by decide) 13 rfl ?_
  refine CVi C dX9_soonest_13 9 k0 (by decide) (r := (RX9, TX9, 44)) rfl rfl hf (fun _ _ e => mX9_no k0 e) lkRX9_194 (by decide) (by decide) rfl [] rfl (Nat.le_of_ble_eq_true rfl) 16 rfl (fun r13 h13 hf => ?_)
  refine A_i2l C dX9_soonest_16 17 rfl ?_
  exact A_lret C dX9_soonest_17 E hf
set_option maxRecDepth 20000 in
theorem wX9_behind_L12 {K : KX} {G : GX} (C : Ok K G 4 cX9_behind RX9) (hnl : G.2.2.2.2.2.2.2.2.2.2.2.2.2 = 9) {rv : Int32} {hv : HH} (E : Endd K G (some .int) (some (.int rv)) hv) {x0 : Nat} {x1 : Int32} {x3 : Int32}   (kx0 : isK 9 x0) : ∀ (self12 : Int32 → Int32 → Int32 → Int32 → HH → Option (Int32 × HH)), (∀ (x4 : Int32) (x5 : Int32) (x6 : Int32) (x7 : Int32) (h : HH), self12 x4 x5 x6 x7 h = some (rv, hv) → At K G 12 [(0, .ref (K.2.1 x0)), (1, .int x1), (3, .int x3), (4, .int x4), (5, .int x5), (6, .int x6), (7, .int x7)] [] h) → ∀ (x4 : Int32) (x5 : Int32) (x6 : Int32) (x7 : Int32) (h : HH), fX9_behind_L12 x0 x1 x3 self12 x4 x5 x6 x7 h = some (rv, hv) → At K G 12 [(0, .ref (K.2.1 x0)), (1, .int x1), (3, .int x3), (4, .int x4), (5, .int x5), (6, .int x6), (7, .int x7)] [] h := by
  intro self12 Hself12 x4 x5 x6 x7 h hf
  unfold fX9_behind_L12 at hf
  refine A_iload C dX9_behind_12 6 rfl 14 rfl ?_
  refine A_aload_n C dX9_behind_14 (i := 0) rfl 0 rfl 15 rfl ?_
  refine gfRX9_20 C kx0 dX9_behind_15 18 rfl ?_
  refine A_iconst (v := 4) C dX9_behind_18 (by decide) 19 rfl ?_
  refine A_iald C dX9_behind_19 (of_9_15 kx0) hf 20 rfl (fun hf => ?_)
  refine A_icmp_ge C dX9_behind_20 84 (by decide) 23 rfl hf (fun c20 hf => ?_) (fun c20 hf => ?_)
  · refine A_iload C dX9_behind_84 4 rfl 86 rfl ?_
    exact A_iret C dX9_behind_86 E hf
  refine A_iload C dX9_behind_23 3 rfl 25 rfl ?_
  refine A_iconst (v := 5) C dX9_behind_25 (by decide) 26 rfl ?_
  refine A_irem C dX9_behind_26 (by decide) 27 rfl ?_
  refine A_namI hf (fun y1 hf => ?_)
  refine A_istore C dX9_behind_27 [(8, .int y1), (0, .ref (K.2.1 x0)), (1, .int x1), (3, .int x3), (4, .int x4), (5, .int x5), (6, .int x6), (7, .int x7)] (lt_nl hnl (by decide)) rfl 29 rfl ?_
  refine A_iload C dX9_behind_29 4 rfl 31 rfl ?_
  refine A_iconst (v := 5) C dX9_behind_31 (by decide) 32 rfl ?_
  refine A_idiv C dX9_behind_32 (by decide) 33 rfl ?_
  refine A_namI hf (fun y2 hf => ?_)
  refine A_istore C dX9_behind_33 [(4, .int y2), (8, .int y1), (0, .ref (K.2.1 x0)), (1, .int x1), (3, .int x3), (5, .int x5), (6, .int x6), (7, .int x7)] (lt_nl hnl (by decide)) rfl 35 rfl ?_
  refine A_iload C dX9_behind_35 5 rfl 37 rfl ?_
  refine A_iload C dX9_behind_37 6 rfl 39 rfl ?_
  refine A_iload_n C dX9_behind_39 (i := 1) rfl 3 rfl 40 rfl ?_
  refine A_iload C dX9_behind_40 7 rfl 42 rfl ?_
  refine CSz C dX9_behind_42 hf (fun _ _ e => mX9_hasBit  e) lkRX9_412 (by decide) (by decide) rfl [.int x6, .int x5] rfl (Nat.le_of_ble_eq_true rfl) 45 rfl (fun r42 h42 hf => ?_)
  refine A_z_eq C dX9_behind_45 66 (by decide) 48 rfl hf (fun c45 hf => ?_) (fun c45 hf => ?_)
  · refine A_iload C dX9_behind_66 1 rfl 68 rfl ?_
    refine A_imul C dX9_behind_68 69 rfl ?_
    refine A_iadd C dX9_behind_69 70 rfl ?_
    refine A_namI hf (fun y3 hf => ?_)
    refine A_istore C dX9_behind_70 [(5, .int y3), (4, .int y2), (8, .int y1), (0, .ref (K.2.1 x0)), (1, .int x1), (3, .int x3), (6, .int x6), (7, .int x7)] (lt_nl hnl (by decide)) rfl 72 rfl ?_
    refine A_iload C dX9_behind_72 6 rfl 74 rfl ?_
    refine A_iconst (v := 5) C dX9_behind_74 (by decide) 75 rfl ?_
    refine A_imul C dX9_behind_75 76 rfl ?_
    refine A_namI hf (fun y4 hf => ?_)
    refine A_istore C dX9_behind_76 [(6, .int y4), (5, .int y3), (4, .int y2), (8, .int y1), (0, .ref (K.2.1 x0)), (1, .int x1), (3, .int x3), (7, .int x7)] (lt_nl hnl (by decide)) rfl 78 rfl ?_
    refine A_iinc (v := (x7 + 1)) C dX9_behind_78 7 rfl rfl [(7, .int (x7 + 1)), (6, .int y4), (5, .int y3), (4, .int y2), (8, .int y1), (0, .ref (K.2.1 x0)), (1, .int x1), (3, .int x3)] (lt_nl hnl (by decide)) rfl 81 rfl ?_
    refine A_goto C dX9_behind_81 12 (by decide) ?_
    refine A_sub [5, 6, 7, 3, 2, 1, 0] (lv' := [(0, .ref (K.2.1 x0)), (1, .int x1), (3, .int x3), (4, .int y2), (5, .int y3), (6, .int y4), (7, .int (x7 + 1))]) rfl ?_
    exact Hself12 _ _ _ _ _ hf
  refine A_iload C dX9_behind_48 1 rfl 50 rfl ?_
  refine A_if_le C dX9_behind_50 66 (by decide) 53 rfl hf (fun c50 hf => ?_) (fun c50 hf => ?_)
  · refine A_iload C dX9_behind_66 1 rfl 68 rfl ?_
    refine A_imul C dX9_behind_68 69 rfl ?_
    refine A_iadd C dX9_behind_69 70 rfl ?_
    refine A_namI hf (fun y5 hf => ?_)
    refine A_istore C dX9_behind_70 [(5, .int y5), (4, .int y2), (8, .int y1), (0, .ref (K.2.1 x0)), (1, .int x1), (3, .int x3), (6, .int x6), (7, .int x7)] (lt_nl hnl (by decide)) rfl 72 rfl ?_
    refine A_iload C dX9_behind_72 6 rfl 74 rfl ?_
    refine A_iconst (v := 5) C dX9_behind_74 (by decide) 75 rfl ?_
    refine A_imul C dX9_behind_75 76 rfl ?_
    refine A_namI hf (fun y6 hf => ?_)
    refine A_istore C dX9_behind_76 [(6, .int y6), (5, .int y5), (4, .int y2), (8, .int y1), (0, .ref (K.2.1 x0)), (1, .int x1), (3, .int x3), (7, .int x7)] (lt_nl hnl (by decide)) rfl 78 rfl ?_
    refine A_iinc (v := (x7 + 1)) C dX9_behind_78 7 rfl rfl [(7, .int (x7 + 1)), (6, .int y6), (5, .int y5), (4, .int y2), (8, .int y1), (0, .ref (K.2.1 x0)), (1, .int x1), (3, .int x3)] (lt_nl hnl (by decide)) rfl 81 rfl ?_
    refine A_goto C dX9_behind_81 12 (by decide) ?_
    refine A_sub [5, 6, 7, 3, 2, 1, 0] (lv' := [(0, .ref (K.2.1 x0)), (1, .int x1), (3, .int x3), (4, .int y2), (5, .int y5), (6, .int y6), (7, .int (x7 + 1))]) rfl ?_
    exact Hself12 _ _ _ _ _ hf
  refine A_aload_n C dX9_behind_53 (i := 0) rfl 2 rfl 54 rfl ?_
  refine A_iload C dX9_behind_54 7 rfl 56 rfl ?_
  refine A_iload C dX9_behind_56 1 rfl 58 rfl ?_
  refine A_iconst (v := 0) C dX9_behind_58 (by decide) 59 rfl ?_
  refine A_iload_n C dX9_behind_59 (i := 3) rfl 4 rfl 60 rfl ?_
  refine CVi C dX9_behind_60 9 kx0 (by decide) (r := (RX9, TX9, 44)) rfl rfl hf (fun _ _ e => mX9_broughtTo kx0 e) lkRX9_338 (by decide) (by decide) rfl [.int x6, .int x5] rfl (Nat.le_of_ble_eq_true rfl) 63 rfl (fun r60 h60 hf => ?_)
  refine A_goto C dX9_behind_63 68 (by decide) ?_
  refine A_imul C dX9_behind_68 69 rfl ?_
  refine A_iadd C dX9_behind_69 70 rfl ?_
  refine A_namI hf (fun y7 hf => ?_)
  refine A_istore C dX9_behind_70 [(5, .int y7), (4, .int y2), (8, .int y1), (0, .ref (K.2.1 x0)), (1, .int x1), (3, .int x3), (6, .int x6), (7, .int x7)] (lt_nl hnl (by decide)) rfl 72 rfl ?_
  refine A_iload C dX9_behind_72 6 rfl 74 rfl ?_
  refine A_iconst (v := 5) C dX9_behind_74 (by decide) 75 rfl ?_
  refine A_imul C dX9_behind_75 76 rfl ?_
  refine A_namI hf (fun y8 hf => ?_)
  refine A_istore C dX9_behind_76 [(6, .int y8), (5, .int y7), (4, .int y2), (8, .int y1), (0, .ref (K.2.1 x0)), (1, .int x1), (3, .int x3), (7, .int x7)] (lt_nl hnl (by decide)) rfl 78 rfl ?_
  refine A_iinc (v := (x7 + 1)) C dX9_behind_78 7 rfl rfl [(7, .int (x7 + 1)), (6, .int y8), (5, .int y7), (4, .int y2), (8, .int y1), (0, .ref (K.2.1 x0)), (1, .int x1), (3, .int x3)] (lt_nl hnl (by decide)) rfl 81 rfl ?_
  refine A_goto C dX9_behind_81 12 (by decide) ?_
  refine A_sub [5, 6, 7, 3, 2, 1, 0] (lv' := [(0, .ref (K.2.1 x0)), (1, .int x1), (3, .int x3), (4, .int y2), (5, .int y7), (6, .int y8), (7, .int (x7 + 1))]) rfl ?_
  exact Hself12 _ _ _ _ _ hf
set_option maxRecDepth 20000 in
theorem mX9_behind {K : KX} {x0 : Nat} {x1 : Int32} {x2 : Int32} {x3 : Int32} (k0 : isK 9 x0) {h : HH} {rv : Int32} {hv : HH} (hf : fX9_behind x0 x1 x2 x3 h = some (rv, hv)) : MR K yX9_behind cX9_behind 9 (some .int) 4 [.ref (K.2.1 x0), .int x1, .int x2, .int x3] h (some (.int rv)) hv := by
  refine MR_of (by decide) (Nat.le_of_ble_eq_true rfl) (fun G C E hnl => ?_)
  have C : Ok K G 4 cX9_behind RX9 := C
  refine (show At K G 0 [(0, .ref (K.2.1 x0)), (1, .int x1), (2, .int x2), (3, .int x3)] [] h from ?_)
  unfold fX9_behind at hf
  refine A_iload_n C dX9_behind_0 (i := 2) rfl 2 rfl 1 rfl ?_
  refine A_istore C dX9_behind_1 [(4, .int x2), (0, .ref (K.2.1 x0)), (1, .int x1), (2, .int x2), (3, .int x3)] (lt_nl hnl (by decide)) rfl 3 rfl ?_
  refine A_iconst (v := 0) C dX9_behind_3 (by decide) 4 rfl ?_
  refine A_istore C dX9_behind_4 [(5, .int 0), (4, .int x2), (0, .ref (K.2.1 x0)), (1, .int x1), (2, .int x2), (3, .int x3)] (lt_nl hnl (by decide)) rfl 6 rfl ?_
  refine A_iconst (v := 1) C dX9_behind_6 (by decide) 7 rfl ?_
  refine A_istore C dX9_behind_7 [(6, .int 1), (5, .int 0), (4, .int x2), (0, .ref (K.2.1 x0)), (1, .int x1), (2, .int x2), (3, .int x3)] (lt_nl hnl (by decide)) rfl 9 rfl ?_
  refine A_iconst (v := 0) C dX9_behind_9 (by decide) 10 rfl ?_
  refine A_istore C dX9_behind_10 [(7, .int 0), (6, .int 1), (5, .int 0), (4, .int x2), (0, .ref (K.2.1 x0)), (1, .int x1), (2, .int x2), (3, .int x3)] (lt_nl hnl (by decide)) rfl 12 rfl ?_
  refine A_sub [4, 5, 7, 3, 2, 1, 0] (lv' := [(0, .ref (K.2.1 x0)), (1, .int x1), (3, .int x3), (4, .int x2), (5, .int 0), (6, .int 1), (7, .int 0)]) rfl ?_
  refine lq4_at (wX9_behind_L12 C hnl E k0) FU _ _ _ _ _ hf
set_option maxRecDepth 20000 in
theorem wX9_doSleep_L8 {K : KX} {G : GX} (C : Ok K G 2 cX9_doSleep RX9) (hnl : G.2.2.2.2.2.2.2.2.2.2.2.2.2 = 6) {rv : Bool} {hv : HH} (E : Endd K G (some .boolean) (some (.int (b2i rv))) hv) {x0 : Nat} {x1 : Int32}   (kx0 : isK 9 x0) : ∀ (self8 : Bool → Int32 → Int32 → HH → Option (Bool × HH)), (∀ (x3 : Bool) (x4 : Int32) (x5 : Int32) (h : HH), self8 x3 x4 x5 h = some (rv, hv) → At K G 8 [(0, .ref (K.2.1 x0)), (1, .int x1), (3, .int (b2i x3)), (4, .int x4), (5, .int x5)] [] h) → ∀ (x3 : Bool) (x4 : Int32) (x5 : Int32) (h : HH), fX9_doSleep_L8 x0 x1 self8 x3 x4 x5 h = some (rv, hv) → At K G 8 [(0, .ref (K.2.1 x0)), (1, .int x1), (3, .int (b2i x3)), (4, .int x4), (5, .int x5)] [] h := by
  intro self8 Hself8 x3 x4 x5 h hf
  unfold fX9_doSleep_L8 at hf
  refine A_iload C dX9_doSleep_8 4 rfl 10 rfl ?_
  refine A_aload_n C dX9_doSleep_10 (i := 0) rfl 0 rfl 11 rfl ?_
  refine gfRX9_20 C kx0 dX9_doSleep_11 14 rfl ?_
  refine A_iconst (v := 4) C dX9_doSleep_14 (by decide) 15 rfl ?_
  refine A_iald C dX9_doSleep_15 (of_9_15 kx0) hf 16 rfl (fun hf => ?_)
  refine A_icmp_ge C dX9_doSleep_16 57 (by decide) 19 rfl hf (fun c16 hf => ?_) (fun c16 hf => ?_)
  · refine A_iload_n C dX9_doSleep_57 (i := 3) rfl 2 rfl 58 rfl ?_
    exact A_zret (x := x3) C dX9_doSleep_58 E hf
  refine A_iload_n C dX9_doSleep_19 (i := 3) rfl 2 rfl 20 rfl ?_
  refine A_z_eq C dX9_doSleep_20 43 (by decide) 23 rfl hf (fun c20 hf => ?_) (fun c20 hf => ?_)
  · refine A_iconst (v := 0) C dX9_doSleep_43 (by decide) 44 rfl ?_
    refine A_istore_n C dX9_doSleep_44 (i := 3) rfl [(3, .int 0), (0, .ref (K.2.1 x0)), (1, .int x1), (4, .int x4), (5, .int x5)] (lt_nl hnl (by decide)) rfl 45 rfl ?_
    refine A_iload C dX9_doSleep_45 3 rfl 47 rfl ?_
    refine A_iconst (v := 5) C dX9_doSleep_47 (by decide) 48 rfl ?_
    refine A_idiv C dX9_doSleep_48 (by decide) 49 rfl ?_
    refine A_namI hf (fun y1 hf => ?_)
    refine A_istore C dX9_doSleep_49 [(4, .int y1), (3, .int 0), (0, .ref (K.2.1 x0)), (1, .int x1), (5, .int x5)] (lt_nl hnl (by decide)) rfl 51 rfl ?_
    refine A_iinc (v := (x5 + 1)) C dX9_doSleep_51 4 rfl rfl [(5, .int (x5 + 1)), (4, .int y1), (3, .int 0), (0, .ref (K.2.1 x0)), (1, .int x1)] (lt_nl hnl (by decide)) rfl 54 rfl ?_
    refine A_goto C dX9_doSleep_54 8 (by decide) ?_
    refine A_sub [3, 4, 2, 1, 0] (lv' := [(0, .ref (K.2.1 x0)), (1, .int x1), (3, .int (b2i false)), (4, .int y1), (5, .int (x5 + 1))]) rfl ?_
    exact Hself8 _ _ _ _ hf
  refine A_iload_n C dX9_doSleep_23 (i := 1) rfl 1 rfl 24 rfl ?_
  refine A_iload C dX9_doSleep_24 4 rfl 26 rfl ?_
  refine CSz C dX9_doSleep_26 hf (fun _ _ e => mX9_hasBit  e) lkRX9_412 (by decide) (by decide) rfl [] rfl (Nat.le_of_ble_eq_true rfl) 29 rfl (fun r26 h26 hf => ?_)
  refine A_z_eq C dX9_doSleep_29 39 (by decide) 32 rfl hf (fun c29 hf => ?_) (fun c29 hf => ?_)
  · refine A_iconst (v := 1) C dX9_doSleep_39 (by decide) 40 rfl ?_
    refine A_goto C dX9_doSleep_40 44 (by decide) ?_
    refine A_istore_n C dX9_doSleep_44 (i := 3) rfl [(3, .int 1), (0, .ref (K.2.1 x0)), (1, .int x1), (4, .int x4), (5, .int x5)] (lt_nl hnl (by decide)) rfl 45 rfl ?_
    refine A_iload C dX9_doSleep_45 3 rfl 47 rfl ?_
    refine A_iconst (v := 5) C dX9_doSleep_47 (by decide) 48 rfl ?_
    refine A_idiv C dX9_doSleep_48 (by decide) 49 rfl ?_
    refine A_namI hf (fun y2 hf => ?_)
    refine A_istore C dX9_doSleep_49 [(4, .int y2), (3, .int 1), (0, .ref (K.2.1 x0)), (1, .int x1), (5, .int x5)] (lt_nl hnl (by decide)) rfl 51 rfl ?_
    refine A_iinc (v := (x5 + 1)) C dX9_doSleep_51 4 rfl rfl [(5, .int (x5 + 1)), (4, .int y2), (3, .int 1), (0, .ref (K.2.1 x0)), (1, .int x1)] (lt_nl hnl (by decide)) rfl 54 rfl ?_
    refine A_goto C dX9_doSleep_54 8 (by decide) ?_
    refine A_sub [3, 4, 2, 1, 0] (lv' := [(0, .ref (K.2.1 x0)), (1, .int x1), (3, .int (b2i true)), (4, .int y2), (5, .int (x5 + 1))]) rfl ?_
    exact Hself8 _ _ _ _ hf
  refine A_iload C dX9_doSleep_32 3 rfl 34 rfl ?_
  refine A_iconst (v := 5) C dX9_doSleep_34 (by decide) 35 rfl ?_
  refine A_irem C dX9_doSleep_35 (by decide) 36 rfl ?_
  refine A_if_le C dX9_doSleep_36 43 (by decide) 39 rfl hf (fun c36 hf => ?_) (fun c36 hf => ?_)
  · refine A_iconst (v := 0) C dX9_doSleep_43 (by decide) 44 rfl ?_
    refine A_istore_n C dX9_doSleep_44 (i := 3) rfl [(3, .int 0), (0, .ref (K.2.1 x0)), (1, .int x1), (4, .int x4), (5, .int x5)] (lt_nl hnl (by decide)) rfl 45 rfl ?_
    refine A_iload C dX9_doSleep_45 3 rfl 47 rfl ?_
    refine A_iconst (v := 5) C dX9_doSleep_47 (by decide) 48 rfl ?_
    refine A_idiv C dX9_doSleep_48 (by decide) 49 rfl ?_
    refine A_namI hf (fun y3 hf => ?_)
    refine A_istore C dX9_doSleep_49 [(4, .int y3), (3, .int 0), (0, .ref (K.2.1 x0)), (1, .int x1), (5, .int x5)] (lt_nl hnl (by decide)) rfl 51 rfl ?_
    refine A_iinc (v := (x5 + 1)) C dX9_doSleep_51 4 rfl rfl [(5, .int (x5 + 1)), (4, .int y3), (3, .int 0), (0, .ref (K.2.1 x0)), (1, .int x1)] (lt_nl hnl (by decide)) rfl 54 rfl ?_
    refine A_goto C dX9_doSleep_54 8 (by decide) ?_
    refine A_sub [3, 4, 2, 1, 0] (lv' := [(0, .ref (K.2.1 x0)), (1, .int x1), (3, .int (b2i false)), (4, .int y3), (5, .int (x5 + 1))]) rfl ?_
    exact Hself8 _ _ _ _ hf
  refine A_iconst (v := 1) C dX9_doSleep_39 (by decide) 40 rfl ?_
  refine A_goto C dX9_doSleep_40 44 (by decide) ?_
  refine A_istore_n C dX9_doSleep_44 (i := 3) rfl [(3, .int 1), (0, .ref (K.2.1 x0)), (1, .int x1), (4, .int x4), (5, .int x5)] (lt_nl hnl (by decide)) rfl 45 rfl ?_
  refine A_iload C dX9_doSleep_45 3 rfl 47 rfl ?_
  refine A_iconst (v := 5) C dX9_doSleep_47 (by decide) 48 rfl ?_
  refine A_idiv C dX9_doSleep_48 (by decide) 49 rfl ?_
  refine A_namI hf (fun y4 hf => ?_)
  refine A_istore C dX9_doSleep_49 [(4, .int y4), (3, .int 1), (0, .ref (K.2.1 x0)), (1, .int x1), (5, .int x5)] (lt_nl hnl (by decide)) rfl 51 rfl ?_
  refine A_iinc (v := (x5 + 1)) C dX9_doSleep_51 4 rfl rfl [(5, .int (x5 + 1)), (4, .int y4), (3, .int 1), (0, .ref (K.2.1 x0)), (1, .int x1)] (lt_nl hnl (by decide)) rfl 54 rfl ?_
  refine A_goto C dX9_doSleep_54 8 (by decide) ?_
  refine A_sub [3, 4, 2, 1, 0] (lv' := [(0, .ref (K.2.1 x0)), (1, .int x1), (3, .int (b2i true)), (4, .int y4), (5, .int (x5 + 1))]) rfl ?_
  exact Hself8 _ _ _ _ hf
set_option maxRecDepth 20000 in
theorem mX9_doSleep {K : KX} {x0 : Nat} {x1 : Int32} {x2 : Int32} (k0 : isK 9 x0) {h : HH} {rv : Bool} {hv : HH} (hf : fX9_doSleep x0 x1 x2 h = some (rv, hv)) : MR K yX9_doSleep cX9_doSleep 6 (some .boolean) 2 [.ref (K.2.1 x0), .int x1, .int x2] h (some (.int (b2i rv))) hv := by
  refine MR_of (by decide) (Nat.le_of_ble_eq_true rfl) (fun G C E hnl => ?_)
  have C : Ok K G 2 cX9_doSleep RX9 := C
  refine (show At K G 0 [(0, .ref (K.2.1 x0)), (1, .int x1), (2, .int x2)] [] h from ?_)
  unfold fX9_doSleep at hf
  refine A_iconst (v := 1) C dX9_doSleep_0 (by decide) 1 rfl ?_
  refine A_istore_n C dX9_doSleep_1 (i := 3) rfl [(3, .int 1), (0, .ref (K.2.1 x0)), (1, .int x1), (2, .int x2)] (lt_nl hnl (by decide)) rfl 2 rfl ?_
  refine A_iload_n C dX9_doSleep_2 (i := 2) rfl 3 rfl 3 rfl ?_
  refine A_istore C dX9_doSleep_3 [(4, .int x2), (3, .int 1), (0, .ref (K.2.1 x0)), (1, .int x1), (2, .int x2)] (lt_nl hnl (by decide)) rfl 5 rfl ?_
  refine A_iconst (v := 0) C dX9_doSleep_5 (by decide) 6 rfl ?_
  refine A_istore C dX9_doSleep_6 [(5, .int 0), (4, .int x2), (3, .int 1), (0, .ref (K.2.1 x0)), (1, .int x1), (2, .int x2)] (lt_nl hnl (by decide)) rfl 8 rfl ?_
  refine A_sub [3, 4, 2, 1, 0] (lv' := [(0, .ref (K.2.1 x0)), (1, .int x1), (3, .int (b2i true)), (4, .int x2), (5, .int 0)]) rfl ?_
  refine lq3_at (wX9_doSleep_L8 C hnl E k0) FU _ _ _ _ hf
set_option maxRecDepth 20000 in
theorem wX9_codeNow_L7 {K : KX} {G : GX} (C : Ok K G 2 cX9_codeNow RX9) (hnl : G.2.2.2.2.2.2.2.2.2.2.2.2.2 = 5) {rv : Int32} {hv : HH} (E : Endd K G (some .int) (some (.int rv)) hv) {x0 : Nat} {x1 : Int32}   (kx0 : isK 9 x0) : ∀ (self7 : Int32 → Int32 → Int32 → HH → Option (Int32 × HH)), (∀ (x2 : Int32) (x3 : Int32) (x4 : Int32) (h : HH), self7 x2 x3 x4 h = some (rv, hv) → At K G 7 [(0, .ref (K.2.1 x0)), (1, .int x1), (2, .int x2), (3, .int x3), (4, .int x4)] [] h) → ∀ (x2 : Int32) (x3 : Int32) (x4 : Int32) (h : HH), fX9_codeNow_L7 x0 x1 self7 x2 x3 x4 h = some (rv, hv) → At K G 7 [(0, .ref (K.2.1 x0)), (1, .int x1), (2, .int x2), (3, .int x3), (4, .int x4)] [] h := by
  intro self7 Hself7 x2 x3 x4 h hf
  unfold fX9_codeNow_L7 at hf
  refine A_iload C dX9_codeNow_7 4 rfl 9 rfl ?_
  refine A_aload_n C dX9_codeNow_9 (i := 0) rfl 0 rfl 10 rfl ?_
  refine gfRX9_20 C kx0 dX9_codeNow_10 13 rfl ?_
  refine A_iconst (v := 4) C dX9_codeNow_13 (by decide) 14 rfl ?_
  refine A_iald C dX9_codeNow_14 (of_9_15 kx0) hf 15 rfl (fun hf => ?_)
  refine A_icmp_ge C dX9_codeNow_15 53 (by decide) 18 rfl hf (fun c15 hf => ?_) (fun c15 hf => ?_)
  · refine A_iload_n C dX9_codeNow_53 (i := 2) rfl 2 rfl 54 rfl ?_
    exact A_iret C dX9_codeNow_54 E hf
  refine A_iload_n C dX9_codeNow_18 (i := 2) rfl 2 rfl 19 rfl ?_
  refine A_iload_n C dX9_codeNow_19 (i := 3) rfl 3 rfl 20 rfl ?_
  refine A_iload_n C dX9_codeNow_20 (i := 1) rfl 1 rfl 21 rfl ?_
  refine A_iload C dX9_codeNow_21 4 rfl 23 rfl ?_
  refine CSz C dX9_codeNow_23 hf (fun _ _ e => mX9_hasBit  e) lkRX9_412 (by decide) (by decide) rfl [.int x3, .int x2] rfl (Nat.le_of_ble_eq_true rfl) 26 rfl (fun r23 h23 hf => ?_)
  refine A_z_eq C dX9_codeNow_26 39 (by decide) 29 rfl hf (fun c26 hf => ?_) (fun c26 hf => ?_)
  · refine A_iconst (v := 0) C dX9_codeNow_39 (by decide) 40 rfl ?_
    refine A_imul C dX9_codeNow_40 41 rfl ?_
    refine A_iadd C dX9_codeNow_41 42 rfl ?_
    refine A_namI hf (fun y1 hf => ?_)
    refine A_istore_n C dX9_codeNow_42 (i := 2) rfl [(2, .int y1), (0, .ref (K.2.1 x0)), (1, .int x1), (3, .int x3), (4, .int x4)] (lt_nl hnl (by decide)) rfl 43 rfl ?_
    refine A_iload_n C dX9_codeNow_43 (i := 3) rfl 3 rfl 44 rfl ?_
    refine A_iconst (v := 5) C dX9_codeNow_44 (by decide) 45 rfl ?_
    refine A_imul C dX9_codeNow_45 46 rfl ?_
    refine A_namI hf (fun y2 hf => ?_)
    refine A_istore_n C dX9_codeNow_46 (i := 3) rfl [(3, .int y2), (2, .int y1), (0, .ref (K.2.1 x0)), (1, .int x1), (4, .int x4)] (lt_nl hnl (by decide)) rfl 47 rfl ?_
    refine A_iinc (v := (x4 + 1)) C dX9_codeNow_47 4 rfl rfl [(4, .int (x4 + 1)), (3, .int y2), (2, .int y1), (0, .ref (K.2.1 x0)), (1, .int x1)] (lt_nl hnl (by decide)) rfl 50 rfl ?_
    refine A_goto C dX9_codeNow_50 7 (by decide) ?_
    refine A_sub [3, 4, 2, 1, 0] (lv' := [(0, .ref (K.2.1 x0)), (1, .int x1), (2, .int y1), (3, .int y2), (4, .int (x4 + 1))]) rfl ?_
    exact Hself7 _ _ _ _ hf
  refine A_aload_n C dX9_codeNow_29 (i := 0) rfl 0 rfl 30 rfl ?_
  refine A_iload C dX9_codeNow_30 4 rfl 32 rfl ?_
  refine A_iconst (v := 0) C dX9_codeNow_32 (by decide) 33 rfl ?_
  refine CVi C dX9_codeNow_33 9 kx0 (by decide) (r := (RX9, TX9, 44)) rfl rfl hf (fun _ _ e => mX9_its kx0 e) lkRX9_310 (by decide) (by decide) rfl [.int x3, .int x2] rfl (Nat.le_of_ble_eq_true rfl) 36 rfl (fun r33 h33 hf => ?_)
  refine A_goto C dX9_codeNow_36 40 (by decide) ?_
  refine A_imul C dX9_codeNow_40 41 rfl ?_
  refine A_iadd C dX9_codeNow_41 42 rfl ?_
  refine A_namI hf (fun y3 hf => ?_)
  refine A_istore_n C dX9_codeNow_42 (i := 2) rfl [(2, .int y3), (0, .ref (K.2.1 x0)), (1, .int x1), (3, .int x3), (4, .int x4)] (lt_nl hnl (by decide)) rfl 43 rfl ?_
  refine A_iload_n C dX9_codeNow_43 (i := 3) rfl 3 rfl 44 rfl ?_
  refine A_iconst (v := 5) C dX9_codeNow_44 (by decide) 45 rfl ?_
  refine A_imul C dX9_codeNow_45 46 rfl ?_
  refine A_namI hf (fun y4 hf => ?_)
  refine A_istore_n C dX9_codeNow_46 (i := 3) rfl [(3, .int y4), (2, .int y3), (0, .ref (K.2.1 x0)), (1, .int x1), (4, .int x4)] (lt_nl hnl (by decide)) rfl 47 rfl ?_
  refine A_iinc (v := (x4 + 1)) C dX9_codeNow_47 4 rfl rfl [(4, .int (x4 + 1)), (3, .int y4), (2, .int y3), (0, .ref (K.2.1 x0)), (1, .int x1)] (lt_nl hnl (by decide)) rfl 50 rfl ?_
  refine A_goto C dX9_codeNow_50 7 (by decide) ?_
  refine A_sub [3, 4, 2, 1, 0] (lv' := [(0, .ref (K.2.1 x0)), (1, .int x1), (2, .int y3), (3, .int y4), (4, .int (x4 + 1))]) rfl ?_
  exact Hself7 _ _ _ _ hf
set_option maxRecDepth 20000 in
theorem mX9_codeNow {K : KX} {x0 : Nat} {x1 : Int32} (k0 : isK 9 x0) {h : HH} {rv : Int32} {hv : HH} (hf : fX9_codeNow x0 x1 h = some (rv, hv)) : MR K yX9_codeNow cX9_codeNow 5 (some .int) 2 [.ref (K.2.1 x0), .int x1] h (some (.int rv)) hv := by
  refine MR_of (by decide) (Nat.le_of_ble_eq_true rfl) (fun G C E hnl => ?_)
  have C : Ok K G 2 cX9_codeNow RX9 := C
  refine (show At K G 0 [(0, .ref (K.2.1 x0)), (1, .int x1)] [] h from ?_)
  unfold fX9_codeNow at hf
  refine A_iconst (v := 0) C dX9_codeNow_0 (by decide) 1 rfl ?_
  refine A_istore_n C dX9_codeNow_1 (i := 2) rfl [(2, .int 0), (0, .ref (K.2.1 x0)), (1, .int x1)] (lt_nl hnl (by decide)) rfl 2 rfl ?_
  refine A_iconst (v := 1) C dX9_codeNow_2 (by decide) 3 rfl ?_
  refine A_istore_n C dX9_codeNow_3 (i := 3) rfl [(3, .int 1), (2, .int 0), (0, .ref (K.2.1 x0)), (1, .int x1)] (lt_nl hnl (by decide)) rfl 4 rfl ?_
  refine A_iconst (v := 0) C dX9_codeNow_4 (by decide) 5 rfl ?_
  refine A_istore C dX9_codeNow_5 [(4, .int 0), (3, .int 1), (2, .int 0), (0, .ref (K.2.1 x0)), (1, .int x1)] (lt_nl hnl (by decide)) rfl 7 rfl ?_
  refine A_sub [3, 4, 2, 1, 0] (lv' := [(0, .ref (K.2.1 x0)), (1, .int x1), (2, .int 0), (3, .int 1), (4, .int 0)]) rfl ?_
  refine lq3_at (wX9_codeNow_L7 C hnl E k0) FU _ _ _ _ hf
set_option maxRecDepth 20000 in
theorem wX9_togetherOf_L2 {K : KX} {G : GX} (C : Ok K G 5 cX9_togetherOf RX9) (hnl : G.2.2.2.2.2.2.2.2.2.2.2.2.2 = 7) {rv : Int32} {hv : HH} (E : Endd K G (some .int) (some (.int rv)) hv) {x0 : Nat} {x1 : Int32} {k2_22 : HH → Option (Int32 × HH)}  (Hk2_22 : ∀  (h : HH), k2_22  h = some (rv, hv) → At K G 22 [(0, .ref (K.2.1 x0)), (1, .int x1)] [] h) (kx0 : isK 9 x0) : ∀ (self2 : Int32 → HH → Option (Int32 × HH)), (∀ (x2 : Int32) (h : HH), self2 x2 h = some (rv, hv) → At K G 2 [(0, .ref (K.2.1 x0)), (1, .int x1), (2, .int x2)] [] h) → ∀ (x2 : Int32) (h : HH), fX9_togetherOf_L2 k2_22 x0 x1 self2 x2 h = some (rv, hv) → At K G 2 [(0, .ref (K.2.1 x0)), (1, .int x1), (2, .int x2)] [] h := by
  intro self2 Hself2 x2 h hf
  unfold fX9_togetherOf_L2 at hf
  refine A_iload_n C dX9_togetherOf_2 (i := 2) rfl 2 rfl 3 rfl ?_
  refine A_sipush (v := 3125) C dX9_togetherOf_3 (by decide) 6 rfl ?_
  refine A_icmp_ge C dX9_togetherOf_6 22 (by decide) 9 rfl hf (fun c6 hf => ?_) (fun c6 hf => ?_)
  · refine A_sub [0, 1] (lv' := [(0, .ref (K.2.1 x0)), (1, .int x1)]) rfl ?_
    exact Hk2_22 _ hf
  refine A_aload_n C dX9_togetherOf_9 (i := 0) rfl 0 rfl 10 rfl ?_
  refine gfRX9_63 C kx0 dX9_togetherOf_10 13 rfl ?_
  refine A_iload_n C dX9_togetherOf_13 (i := 2) rfl 2 rfl 14 rfl ?_
  refine A_iconst (v := (-1)) C dX9_togetherOf_14 (by decide) 15 rfl ?_
  refine A_iast C dX9_togetherOf_15 (of_9_35 kx0) hf 16 rfl (fun hf => ?_)
  refine A_iinc (v := (x2 + 1)) C dX9_togetherOf_16 2 rfl rfl [(2, .int (x2 + 1)), (0, .ref (K.2.1 x0)), (1, .int x1)] (lt_nl hnl (by decide)) rfl 19 rfl ?_
  refine A_goto C dX9_togetherOf_19 2 (by decide) ?_
  refine A_sub [1, 2, 0] (lv' := [(0, .ref (K.2.1 x0)), (1, .int x1), (2, .int (x2 + 1))]) rfl ?_
  exact Hself2 _ _ hf
set_option maxRecDepth 20000 in
theorem wX9_togetherOf_L68 {K : KX} {G : GX} (C : Ok K G 5 cX9_togetherOf RX9) (hnl : G.2.2.2.2.2.2.2.2.2.2.2.2.2 = 7) {rv : Int32} {hv : HH} (E : Endd K G (some .int) (some (.int rv)) hv) {x0 : Nat} {x1 : Int32} {x3 : Int32} {x4 : Int32} {k68_91 : Int32 → HH → Option (Int32 × HH)} {k68_194 : HH → Option (Int32 × HH)}  (Hk68_91 : ∀ (x5 : Int32) (h : HH), k68_91 x5 h = some (rv, hv) → At K G 91 [(0, .ref (K.2.1 x0)), (4, .int x4), (5, .int x5)] [] h) (Hk68_194 : ∀  (h : HH), k68_194  h = some (rv, hv) → At K G 194 [(0, .ref (K.2.1 x0)), (1, .int x1), (3, .int x3)] [] h) (kx0 : isK 9 x0) : ∀ (self68 : Int32 → HH → Option (Int32 × HH)), (∀ (x5 : Int32) (h : HH), self68 x5 h = some (rv, hv) → At K G 68 [(0, .ref (K.2.1 x0)), (1, .int x1), (3, .int x3), (4, .int x4), (5, .int x5)] [] h) → ∀ (x5 : Int32) (h : HH), fX9_togetherOf_L68 k68_91 k68_194 x0 x1 x3 x4 self68 x5 h = some (rv, hv) → At K G 68 [(0, .ref (K.2.1 x0)), (1, .int x1), (3, .int x3), (4, .int x4), (5, .int x5)] [] h := by
  intro self68 Hself68 x5 h hf
  unfold fX9_togetherOf_L68 at hf
  refine A_iload C dX9_togetherOf_68 4 rfl 70 rfl ?_
  refine A_bipush (v := 10) C dX9_togetherOf_70 (by decide) 72 rfl ?_
  refine A_icmp_ge C dX9_togetherOf_72 194 (by decide) 75 rfl hf (fun c72 hf => ?_) (fun c72 hf => ?_)
  · refine A_sub [0, 1, 2] (lv' := [(0, .ref (K.2.1 x0)), (1, .int x1), (3, .int x3)]) rfl ?_
    exact Hk68_194 _ hf
  refine A_aload_n C dX9_togetherOf_75 (i := 0) rfl 0 rfl 76 rfl ?_
  refine A_iload_n C dX9_togetherOf_76 (i := 1) rfl 1 rfl 77 rfl ?_
  refine A_iload C dX9_togetherOf_77 3 rfl 79 rfl ?_
  refine A_iload C dX9_togetherOf_79 4 rfl 81 rfl ?_
  refine CVi C dX9_togetherOf_81 9 kx0 (by decide) (r := (RX9, TX9, 44)) rfl rfl hf (fun _ _ e => mX9_behind kx0 e) lkRX9_421 (by decide) (by decide) rfl [] rfl (Nat.le_of_ble_eq_true rfl) 84 rfl (fun r81 h81 hf => ?_)
  refine A_istore C dX9_togetherOf_84 [(6, .int r81), (0, .ref (K.2.1 x0)), (1, .int x1), (3, .int x3), (4, .int x4), (5, .int x5)] (lt_nl hnl (by decide)) rfl 86 rfl ?_
  refine A_iload C dX9_togetherOf_86 0 rfl 88 rfl ?_
  refine A_if_ne C dX9_togetherOf_88 113 (by decide) 91 rfl hf (fun c88 hf => ?_) (fun c88 hf => ?_)
  · refine A_aload_n C dX9_togetherOf_113 (i := 0) rfl 1 rfl 114 rfl ?_
    refine gfRX9_63 C kx0 dX9_togetherOf_114 117 rfl ?_
    refine A_iload C dX9_togetherOf_117 0 rfl 119 rfl ?_
    refine A_iald C dX9_togetherOf_119 (of_9_35 kx0) hf 120 rfl (fun hf => ?_)
    refine A_if_ge C dX9_togetherOf_120 188 (by decide) 123 rfl hf (fun c120 hf => ?_) (fun c120 hf => ?_)
    · refine A_iinc (v := (x5 + 1)) C dX9_togetherOf_188 5 rfl rfl [(5, .int (x5 + 1)), (6, .int r81), (0, .ref (K.2.1 x0)), (1, .int x1), (3, .int x3), (4, .int x4)] (lt_nl hnl (by decide)) rfl 191 rfl ?_
      refine A_goto C dX9_togetherOf_191 68 (by decide) ?_
      refine A_sub [2, 3, 4, 5, 0] (lv' := [(0, .ref (K.2.1 x0)), (1, .int x1), (3, .int x3), (4, .int x4), (5, .int (x5 + 1))]) rfl ?_
      exact Hself68 _ _ hf
    refine A_aload_n C dX9_togetherOf_123 (i := 0) rfl 1 rfl 124 rfl ?_
    refine A_iload_n C dX9_togetherOf_124 (i := 1) rfl 2 rfl 125 rfl ?_
    refine A_iload C dX9_togetherOf_125 0 rfl 127 rfl ?_
    refine CVz C dX9_togetherOf_127 9 kx0 (by decide) (r := (RX9, TX9, 44)) rfl rfl hf (fun _ _ e => mX9_doSleep kx0 e) lkRX9_430 (by decide) (by decide) rfl [] rfl (Nat.le_of_ble_eq_true rfl) 130 rfl (fun r127 h127 hf => ?_)
    refine A_z_ne C dX9_togetherOf_130 136 (by decide) 133 rfl hf (fun c130 hf => ?_) (fun c130 hf => ?_)
    · refine A_aload_n C dX9_togetherOf_136 (i := 0) rfl 1 rfl 137 rfl ?_
      refine gfRX9_63 C kx0 dX9_togetherOf_137 140 rfl ?_
      refine A_iload C dX9_togetherOf_140 0 rfl 142 rfl ?_
      refine A_aload_n C dX9_togetherOf_142 (i := 0) rfl 1 rfl 143 rfl ?_
      refine gfRX9_63 C kx0 dX9_togetherOf_143 146 rfl ?_
      refine A_iload C dX9_togetherOf_146 4 rfl 148 rfl ?_
      refine A_iald C dX9_togetherOf_148 (of_9_35 kx0) hf 149 rfl (fun hf => ?_)
      refine A_iconst (v := 1) C dX9_togetherOf_149 (by decide) 150 rfl ?_
      refine A_iadd C dX9_togetherOf_150 151 rfl ?_
      refine A_iast C dX9_togetherOf_151 (of_9_35 kx0) hf 152 rfl (fun hf => ?_)
      refine A_aload_n C dX9_togetherOf_152 (i := 0) rfl 1 rfl 153 rfl ?_
      refine gfRX9_57 C kx0 dX9_togetherOf_153 156 rfl ?_
      refine A_iload C dX9_togetherOf_156 0 rfl 158 rfl ?_
      refine A_bipush (v := 10) C dX9_togetherOf_158 (by decide) 160 rfl ?_
      refine A_iload C dX9_togetherOf_160 4 rfl 162 rfl ?_
      refine A_imul C dX9_togetherOf_162 163 rfl ?_
      refine A_iload C dX9_togetherOf_163 5 rfl 165 rfl ?_
      refine A_iadd C dX9_togetherOf_165 166 rfl ?_
      refine A_iast C dX9_togetherOf_166 (of_9_33 kx0) hf 167 rfl (fun hf => ?_)
      refine A_namH hf (fun g3 hf => ?_)
      refine A_aload_n C dX9_togetherOf_167 (i := 0) rfl 1 rfl 168 rfl ?_
      refine gfRX9_60 C kx0 dX9_togetherOf_168 171 rfl ?_
      refine A_aload_n C dX9_togetherOf_171 (i := 0) rfl 1 rfl 172 rfl ?_
      refine gfRX9_418 C kx0 dX9_togetherOf_172 175 rfl ?_
      refine A_iload C dX9_togetherOf_175 0 rfl 177 rfl ?_
      refine A_iast C dX9_togetherOf_177 (of_9_34 kx0) hf 178 rfl (fun hf => ?_)
      refine A_aload_n C dX9_togetherOf_178 (i := 0) rfl 1 rfl 179 rfl ?_
      refine A_dup C dX9_togetherOf_179 rfl 180 rfl ?_
      refine gfRX9_418 C kx0 dX9_togetherOf_180 183 rfl ?_
      refine A_iconst (v := 1) C dX9_togetherOf_183 (by decide) 184 rfl ?_
      refine A_iadd C dX9_togetherOf_184 185 rfl ?_
      refine pfRX9_418 C kx0 dX9_togetherOf_185 188 rfl ?_
      refine A_namH hf (fun g4 hf => ?_)
      refine A_iinc (v := (x5 + 1)) C dX9_togetherOf_188 5 rfl rfl [(5, .int (x5 + 1)), (6, .int r81), (0, .ref (K.2.1 x0)), (1, .int x1), (3, .int x3), (4, .int x4)] (lt_nl hnl (by decide)) rfl 191 rfl ?_
      refine A_goto C dX9_togetherOf_191 68 (by decide) ?_
      refine A_sub [2, 3, 4, 5, 0] (lv' := [(0, .ref (K.2.1 x0)), (1, .int x1), (3, .int x3), (4, .int x4), (5, .int (x5 + 1))]) rfl ?_
      exact Hself68 _ _ hf
    refine A_goto C dX9_togetherOf_133 188 (by decide) ?_
    refine A_iinc (v := (x5 + 1)) C dX9_togetherOf_188 5 rfl rfl [(5, .int (x5 + 1)), (6, .int r81), (0, .ref (K.2.1 x0)), (1, .int x1), (3, .int x3), (4, .int x4)] (lt_nl hnl (by decide)) rfl 191 rfl ?_
    refine A_goto C dX9_togetherOf_191 68 (by decide) ?_
    refine A_sub [2, 3, 4, 5, 0] (lv' := [(0, .ref (K.2.1 x0)), (1, .int x1), (3, .int x3), (4, .int x4), (5, .int (x5 + 1))]) rfl ?_
    exact Hself68 _ _ hf
  refine A_sub [1, 4, 5] (lv' := [(0, .ref (K.2.1 x0)), (4, .int x4), (5, .int x5)]) rfl ?_
  exact Hk68_91 _ _ hf
set_option maxRecDepth 20000 in
theorem wX9_togetherOf_L49 {K : KX} {G : GX} (C : Ok K G 5 cX9_togetherOf RX9) (hnl : G.2.2.2.2.2.2.2.2.2.2.2.2.2 = 7) {rv : Int32} {hv : HH} (E : Endd K G (some .int) (some (.int rv)) hv) {x0 : Nat} {x1 : Int32} {k49_91 : Int32 → Int32 → HH → Option (Int32 × HH)}  (Hk49_91 : ∀ (x4 : Int32) (x5 : Int32) (h : HH), k49_91 x4 x5 h = some (rv, hv) → At K G 91 [(0, .ref (K.2.1 x0)), (4, .int x4), (5, .int x5)] [] h) (kx0 : isK 9 x0) : ∀ (self49 : Int32 → HH → Option (Int32 × HH)), (∀ (x3 : Int32) (h : HH), self49 x3 h = some (rv, hv) → At K G 49 [(0, .ref (K.2.1 x0)), (1, .int x1), (3, .int x3)] [] h) → ∀ (x3 : Int32) (h : HH), fX9_togetherOf_L49 k49_91 x0 x1 self49 x3 h = some (rv, hv) → At K G 49 [(0, .ref (K.2.1 x0)), (1, .int x1), (3, .int x3)] [] h := by
  intro self49 Hself49 x3 h hf
  unfold fX9_togetherOf_L49 at hf
  refine A_iload_n C dX9_togetherOf_49 (i := 3) rfl 2 rfl 50 rfl ?_
  refine A_aload_n C dX9_togetherOf_50 (i := 0) rfl 0 rfl 51 rfl ?_
  refine gfRX9_418 C kx0 dX9_togetherOf_51 54 rfl ?_
  refine A_icmp_ge C dX9_togetherOf_54 200 (by decide) 57 rfl hf (fun c54 hf => ?_) (fun c54 hf => ?_)
  · refine A_bipush (v := (-2)) C dX9_togetherOf_200 (by decide) 202 rfl ?_
    exact A_iret C dX9_togetherOf_202 E hf
  refine A_aload_n C dX9_togetherOf_57 (i := 0) rfl 0 rfl 58 rfl ?_
  refine gfRX9_60 C kx0 dX9_togetherOf_58 61 rfl ?_
  refine A_iload_n C dX9_togetherOf_61 (i := 3) rfl 2 rfl 62 rfl ?_
  refine A_iald C dX9_togetherOf_62 (of_9_34 kx0) hf 63 rfl (fun hf => ?_)
  refine A_namI hf (fun y2 hf => ?_)
  refine A_istore C dX9_togetherOf_63 [(4, .int y2), (0, .ref (K.2.1 x0)), (1, .int x1), (3, .int x3)] (lt_nl hnl (by decide)) rfl 65 rfl ?_
  refine A_iconst (v := 1) C dX9_togetherOf_65 (by decide) 66 rfl ?_
  refine A_istore C dX9_togetherOf_66 [(5, .int 1), (4, .int y2), (0, .ref (K.2.1 x0)), (1, .int x1), (3, .int x3)] (lt_nl hnl (by decide)) rfl 68 rfl ?_
  refine A_sub [2, 3, 4, 1, 0] (lv' := [(0, .ref (K.2.1 x0)), (1, .int x1), (3, .int x3), (4, .int y2), (5, .int 1)]) rfl ?_
  refine lq1_at (wX9_togetherOf_L68 C hnl E (fun x5 h hf => ?_) (fun  h hf => ?_) kx0) FU _ _ hf
  · exact Hk49_91 _ _ _ hf
  refine A_iinc (v := (x3 + 1)) C dX9_togetherOf_194 2 rfl rfl [(3, .int (x3 + 1)), (0, .ref (K.2.1 x0)), (1, .int x1)] (lt_nl hnl (by decide)) rfl 197 rfl ?_
  refine A_goto C dX9_togetherOf_197 49 (by decide) ?_
  refine A_sub [1, 2, 0] (lv' := [(0, .ref (K.2.1 x0)), (1, .int x1), (3, .int (x3 + 1))]) rfl ?_
  exact Hself49 _ _ hf
set_option maxRecDepth 20000 in
theorem mX9_togetherOf {K : KX} {x0 : Nat} {x1 : Int32} (k0 : isK 9 x0) {h : HH} {rv : Int32} {hv : HH} (hf : fX9_togetherOf x0 x1 h = some (rv, hv)) : MR K yX9_togetherOf cX9_togetherOf 7 (some .int) 5 [.ref (K.2.1 x0), .int x1] h (some (.int rv)) hv := by
  refine MR_of (by decide) (Nat.le_of_ble_eq_true rfl) (fun G C E hnl => ?_)
  have C : Ok K G 5 cX9_togetherOf RX9 := C
  refine (show At K G 0 [(0, .ref (K.2.1 x0)), (1, .int x1)] [] h from ?_)
  unfold fX9_togetherOf at hf
  refine A_iconst (v := 0) C dX9_togetherOf_0 (by decide) 1 rfl ?_
  refine A_istore_n C dX9_togetherOf_1 (i := 2) rfl [(2, .int 0), (0, .ref (K.2.1 x0)), (1, .int x1)] (lt_nl hnl (by decide)) rfl 2 rfl ?_
  refine A_sub [1, 2, 0] (lv' := [(0, .ref (K.2.1 x0)), (1, .int x1), (2, .int 0)]) rfl ?_
  refine lq1_at (wX9_togetherOf_L2 C hnl E (fun  h hf => ?_) k0) FU _ _ hf
  refine A_aload_n C dX9_togetherOf_22 (i := 0) rfl 0 rfl 23 rfl ?_
  refine A_iload_n C dX9_togetherOf_23 (i := 1) rfl 1 rfl 24 rfl ?_
  refine CVi C dX9_togetherOf_24 9 k0 (by decide) (r := (RX9, TX9, 44)) rfl rfl hf (fun _ _ e => mX9_codeNow k0 e) lkRX9_415 (by decide) (by decide) rfl [] rfl (Nat.le_of_ble_eq_true rfl) 27 rfl (fun r24 h24 hf => ?_)
  refine A_istore_n C dX9_togetherOf_27 (i := 2) rfl [(2, .int r24), (0, .ref (K.2.1 x0)), (1, .int x1)] (lt_nl hnl (by decide)) rfl 28 rfl ?_
  refine A_aload_n C dX9_togetherOf_28 (i := 0) rfl 1 rfl 29 rfl ?_
  refine gfRX9_60 C k0 dX9_togetherOf_29 32 rfl ?_
  refine A_iconst (v := 0) C dX9_togetherOf_32 (by decide) 33 rfl ?_
  refine A_iload_n C dX9_togetherOf_33 (i := 2) rfl 0 rfl 34 rfl ?_
  refine A_iast C dX9_togetherOf_34 (of_9_34 k0) hf 35 rfl (fun hf => ?_)
  refine A_aload_n C dX9_togetherOf_35 (i := 0) rfl 1 rfl 36 rfl ?_
  refine gfRX9_63 C k0 dX9_togetherOf_36 39 rfl ?_
  refine A_iload_n C dX9_togetherOf_39 (i := 2) rfl 0 rfl 40 rfl ?_
  refine A_iconst (v := 0) C dX9_togetherOf_40 (by decide) 41 rfl ?_
  refine A_iast C dX9_togetherOf_41 (of_9_35 k0) hf 42 rfl (fun hf => ?_)
  refine A_namH hf (fun g1 hf => ?_)
  refine A_aload_n C dX9_togetherOf_42 (i := 0) rfl 1 rfl 43 rfl ?_
  refine A_iconst (v := 1) C dX9_togetherOf_43 (by decide) 44 rfl ?_
  refine pfRX9_418 C k0 dX9_togetherOf_44 47 rfl ?_
  refine A_iconst (v := 0) C dX9_togetherOf_47 (by decide) 48 rfl ?_
  refine A_istore_n C dX9_togetherOf_48 (i := 3) rfl [(3, .int 0), (2, .int r24), (0, .ref (K.2.1 x0)), (1, .int x1)] (lt_nl hnl (by decide)) rfl 49 rfl ?_
  refine A_sub [2, 3, 0] (lv' := [(0, .ref (K.2.1 x0)), (1, .int x1), (3, .int 0)]) rfl ?_
  refine lq1_at (wX9_togetherOf_L49 C hnl E (fun x4 x5 h hf => ?_) k0) FU _ _ hf
  refine A_aload_n C dX9_togetherOf_91 (i := 0) rfl 0 rfl 92 rfl ?_
  refine A_iload C dX9_togetherOf_92 1 rfl 94 rfl ?_
  refine pfRX9_424 C k0 dX9_togetherOf_94 97 rfl ?_
  refine A_aload_n C dX9_togetherOf_97 (i := 0) rfl 0 rfl 98 rfl ?_
  refine A_iload C dX9_togetherOf_98 2 rfl 100 rfl ?_
  refine pfRX9_427 C k0 dX9_togetherOf_100 103 rfl ?_
  refine A_namH hf (fun g5 hf => ?_)
  refine A_aload_n C dX9_togetherOf_103 (i := 0) rfl 0 rfl 104 rfl ?_
  refine gfRX9_63 C k0 dX9_togetherOf_104 107 rfl ?_
  refine A_iload C dX9_togetherOf_107 1 rfl 109 rfl ?_
  refine A_iald C dX9_togetherOf_109 (of_9_35 k0) hf 110 rfl (fun hf => ?_)
  refine A_iconst (v := 1) C dX9_togetherOf_110 (by decide) 111 rfl ?_
  refine A_iadd C dX9_togetherOf_111 112 rfl ?_
  exact A_iret C dX9_togetherOf_112 E hf
set_option maxRecDepth 20000 in
theorem wX9_setWhy_L33 {K : KX} {G : GX} (C : Ok K G 2 cX9_setWhy RX9) (hnl : G.2.2.2.2.2.2.2.2.2.2.2.2.2 = 4) {rv : Int32} {hv : HH} (E : Endd K G (some .int) (some (.int rv)) hv) {x0 : Nat} {x1 : Int32}   (kx0 : isK 9 x0) : ∀ (self33 : Int32 → Int32 → HH → Option (Int32 × HH)), (∀ (x2 : Int32) (x3 : Int32) (h : HH), self33 x2 x3 h = some (rv, hv) → At K G 33 [(0, .ref (K.2.1 x0)), (1, .int x1), (2, .int x2), (3, .int x3)] [] h) → ∀ (x2 : Int32) (x3 : Int32) (h : HH), fX9_setWhy_L33 x0 x1 self33 x2 x3 h = some (rv, hv) → At K G 33 [(0, .ref (K.2.1 x0)), (1, .int x1), (2, .int x2), (3, .int x3)] [] h := by
  intro self33 Hself33 x2 x3 h hf
  unfold fX9_setWhy_L33 at hf
  refine A_iload_n C dX9_setWhy_33 (i := 3) rfl 3 rfl 34 rfl ?_
  refine A_aload_n C dX9_setWhy_34 (i := 0) rfl 0 rfl 35 rfl ?_
  refine gfRX9_20 C kx0 dX9_setWhy_35 38 rfl ?_
  refine A_iconst (v := 4) C dX9_setWhy_38 (by decide) 39 rfl ?_
  refine A_iald C dX9_setWhy_39 (of_9_15 kx0) hf 40 rfl (fun hf => ?_)
  refine A_icmp_ge C dX9_setWhy_40 92 (by decide) 43 rfl hf (fun c40 hf => ?_) (fun c40 hf => ?_)
  · refine A_iconst (v := 0) C dX9_setWhy_92 (by decide) 93 rfl ?_
    exact A_iret C dX9_setWhy_93 E hf
  refine A_iload_n C dX9_setWhy_43 (i := 1) rfl 1 rfl 44 rfl ?_
  refine A_iload_n C dX9_setWhy_44 (i := 3) rfl 3 rfl 45 rfl ?_
  refine CSz C dX9_setWhy_45 hf (fun _ _ e => mX9_hasBit  e) lkRX9_412 (by decide) (by decide) rfl [] rfl (Nat.le_of_ble_eq_true rfl) 48 rfl (fun r45 h45 hf => ?_)
  refine A_z_ne C dX9_setWhy_48 54 (by decide) 51 rfl hf (fun c48 hf => ?_) (fun c48 hf => ?_)
  · refine A_aload_n C dX9_setWhy_54 (i := 0) rfl 0 rfl 55 rfl ?_
    refine A_iload_n C dX9_setWhy_55 (i := 3) rfl 3 rfl 56 rfl ?_
    refine A_iconst (v := 0) C dX9_setWhy_56 (by decide) 57 rfl ?_
    refine CVi C dX9_setWhy_57 9 kx0 (by decide) (r := (RX9, TX9, 44)) rfl rfl hf (fun _ _ e => mX9_its kx0 e) lkRX9_310 (by decide) (by decide) rfl [] rfl (Nat.le_of_ble_eq_true rfl) 60 rfl (fun r57 h57 hf => ?_)
    refine A_if_eq C dX9_setWhy_60 77 (by decide) 63 rfl hf (fun c60 hf => ?_) (fun c60 hf => ?_)
    · refine A_iconst (v := 5) C dX9_setWhy_77 (by decide) 78 rfl ?_
      exact A_iret C dX9_setWhy_78 E hf
    refine A_iload_n C dX9_setWhy_63 (i := 2) rfl 2 rfl 64 rfl ?_
    refine A_if_le C dX9_setWhy_64 79 (by decide) 67 rfl hf (fun c64 hf => ?_) (fun c64 hf => ?_)
    · refine A_aload_n C dX9_setWhy_79 (i := 0) rfl 0 rfl 80 rfl ?_
      refine A_iload_n C dX9_setWhy_80 (i := 3) rfl 3 rfl 81 rfl ?_
      refine A_iconst (v := 1) C dX9_setWhy_81 (by decide) 82 rfl ?_
      refine CVi C dX9_setWhy_82 9 kx0 (by decide) (r := (RX9, TX9, 44)) rfl rfl hf (fun _ _ e => mX9_its kx0 e) lkRX9_310 (by decide) (by decide) rfl [] rfl (Nat.le_of_ble_eq_true rfl) 85 rfl (fun r82 h82 hf => ?_)
      refine A_istore_n C dX9_setWhy_85 (i := 2) rfl [(2, .int r82), (0, .ref (K.2.1 x0)), (1, .int x1), (3, .int x3)] (lt_nl hnl (by decide)) rfl 86 rfl ?_
      refine A_iinc (v := (x3 + 1)) C dX9_setWhy_86 3 rfl rfl [(3, .int (x3 + 1)), (2, .int r82), (0, .ref (K.2.1 x0)), (1, .int x1)] (lt_nl hnl (by decide)) rfl 89 rfl ?_
      refine A_goto C dX9_setWhy_89 33 (by decide) ?_
      refine A_sub [2, 3, 1, 0] (lv' := [(0, .ref (K.2.1 x0)), (1, .int x1), (2, .int r82), (3, .int (x3 + 1))]) rfl ?_
      exact Hself33 _ _ _ hf
    refine A_aload_n C dX9_setWhy_67 (i := 0) rfl 0 rfl 68 rfl ?_
    refine A_iload_n C dX9_setWhy_68 (i := 3) rfl 3 rfl 69 rfl ?_
    refine A_iconst (v := 1) C dX9_setWhy_69 (by decide) 70 rfl ?_
    refine CVi C dX9_setWhy_70 9 kx0 (by decide) (r := (RX9, TX9, 44)) rfl rfl hf (fun _ _ e => mX9_its kx0 e) lkRX9_310 (by decide) (by decide) rfl [] rfl (Nat.le_of_ble_eq_true rfl) 73 rfl (fun r70 h70 hf => ?_)
    refine A_iload_n C dX9_setWhy_73 (i := 2) rfl 2 rfl 74 rfl ?_
    refine A_icmp_eq C dX9_setWhy_74 79 (by decide) 77 rfl hf (fun c74 hf => ?_) (fun c74 hf => ?_)
    · refine A_aload_n C dX9_setWhy_79 (i := 0) rfl 0 rfl 80 rfl ?_
      refine A_iload_n C dX9_setWhy_80 (i := 3) rfl 3 rfl 81 rfl ?_
      refine A_iconst (v := 1) C dX9_setWhy_81 (by decide) 82 rfl ?_
      refine CVi C dX9_setWhy_82 9 kx0 (by decide) (r := (RX9, TX9, 44)) rfl rfl hf (fun _ _ e => mX9_its kx0 e) lkRX9_310 (by decide) (by decide) rfl [] rfl (Nat.le_of_ble_eq_true rfl) 85 rfl (fun r82 h82 hf => ?_)
      refine A_istore_n C dX9_setWhy_85 (i := 2) rfl [(2, .int r82), (0, .ref (K.2.1 x0)), (1, .int x1), (3, .int x3)] (lt_nl hnl (by decide)) rfl 86 rfl ?_
      refine A_iinc (v := (x3 + 1)) C dX9_setWhy_86 3 rfl rfl [(3, .int (x3 + 1)), (2, .int r82), (0, .ref (K.2.1 x0)), (1, .int x1)] (lt_nl hnl (by decide)) rfl 89 rfl ?_
      refine A_goto C dX9_setWhy_89 33 (by decide) ?_
      refine A_sub [2, 3, 1, 0] (lv' := [(0, .ref (K.2.1 x0)), (1, .int x1), (2, .int r82), (3, .int (x3 + 1))]) rfl ?_
      exact Hself33 _ _ _ hf
    refine A_iconst (v := 5) C dX9_setWhy_77 (by decide) 78 rfl ?_
    exact A_iret C dX9_setWhy_78 E hf
  refine A_goto C dX9_setWhy_51 86 (by decide) ?_
  refine A_iinc (v := (x3 + 1)) C dX9_setWhy_86 3 rfl rfl [(3, .int (x3 + 1)), (0, .ref (K.2.1 x0)), (1, .int x1), (2, .int x2)] (lt_nl hnl (by decide)) rfl 89 rfl ?_
  refine A_goto C dX9_setWhy_89 33 (by decide) ?_
  refine A_sub [1, 2, 3, 0] (lv' := [(0, .ref (K.2.1 x0)), (1, .int x1), (2, .int x2), (3, .int (x3 + 1))]) rfl ?_
  exact Hself33 _ _ _ hf
set_option maxRecDepth 20000 in
theorem mX9_setWhy {K : KX} {x0 : Nat} {x1 : Int32} (k0 : isK 9 x0) {h : HH} {rv : Int32} {hv : HH} (hf : fX9_setWhy x0 x1 h = some (rv, hv)) : MR K yX9_setWhy cX9_setWhy 4 (some .int) 2 [.ref (K.2.1 x0), .int x1] h (some (.int rv)) hv := by
  refine MR_of (by decide) (Nat.le_of_ble_eq_true rfl) (fun G C E hnl => ?_)
  have C : Ok K G 2 cX9_setWhy RX9 := C
  refine (show At K G 0 [(0, .ref (K.2.1 x0)), (1, .int x1)] [] h from ?_)
  unfold fX9_setWhy at hf
  refine A_aload_n C dX9_setWhy_0 (i := 0) rfl 0 rfl 1 rfl ?_
  refine gfRX9_204 C k0 dX9_setWhy_1 4 rfl ?_
  refine A_if_ne C dX9_setWhy_4 9 (by decide) 7 rfl hf (fun c4 hf => ?_) (fun c4 hf => ?_)
  · refine A_iload_n C dX9_setWhy_9 (i := 1) rfl 1 rfl 10 rfl ?_
    refine A_iconst (v := 1) C dX9_setWhy_10 (by decide) 11 rfl ?_
    refine A_iconst (v := 1) C dX9_setWhy_11 (by decide) 12 rfl ?_
    refine A_aload_n C dX9_setWhy_12 (i := 0) rfl 0 rfl 13 rfl ?_
    refine gfRX9_20 C k0 dX9_setWhy_13 16 rfl ?_
    refine A_iconst (v := 4) C dX9_setWhy_16 (by decide) 17 rfl ?_
    refine A_iald C dX9_setWhy_17 (of_9_15 k0) hf 18 rfl (fun hf => ?_)
    refine A_ishl C dX9_setWhy_18 19 rfl ?_
    refine A_iconst (v := 1) C dX9_setWhy_19 (by decide) 20 rfl ?_
    refine A_isub C dX9_setWhy_20 21 rfl ?_
    refine CSz C dX9_setWhy_21 hf (fun _ _ e => mX9_within  e) lkRX9_170 (by decide) (by decide) rfl [] rfl (Nat.le_of_ble_eq_true rfl) 24 rfl (fun r21 h21 hf => ?_)
    refine A_z_ne C dX9_setWhy_24 29 (by decide) 27 rfl hf (fun c24 hf => ?_) (fun c24 hf => ?_)
    · refine A_iconst (v := 0) C dX9_setWhy_29 (by decide) 30 rfl ?_
      refine A_istore_n C dX9_setWhy_30 (i := 2) rfl [(2, .int 0), (0, .ref (K.2.1 x0)), (1, .int x1)] (lt_nl hnl (by decide)) rfl 31 rfl ?_
      refine A_iconst (v := 0) C dX9_setWhy_31 (by decide) 32 rfl ?_
      refine A_istore_n C dX9_setWhy_32 (i := 3) rfl [(3, .int 0), (2, .int 0), (0, .ref (K.2.1 x0)), (1, .int x1)] (lt_nl hnl (by decide)) rfl 33 rfl ?_
      refine A_sub [2, 3, 1, 0] (lv' := [(0, .ref (K.2.1 x0)), (1, .int x1), (2, .int 0), (3, .int 0)]) rfl ?_
      refine lq2_at (wX9_setWhy_L33 C hnl E k0) FU _ _ _ hf
    refine A_iconst (v := 2) C dX9_setWhy_27 (by decide) 28 rfl ?_
    exact A_iret C dX9_setWhy_28 E hf
  refine A_iconst (v := 1) C dX9_setWhy_7 (by decide) 8 rfl ?_
  exact A_iret C dX9_setWhy_8 E hf
set_option maxRecDepth 20000 in
theorem mX9_together {K : KX} {x0 : Nat} {x1 : Int32} (k0 : isK 9 x0) {h : HH} {rv : Int32} {hv : HH} (hf : fX9_together x0 x1 h = some (rv, hv)) : MR K yX9_together cX9_together 3 (some .int) 6 [.ref (K.2.1 x0), .int x1] h (some (.int rv)) hv := by
  refine MR_of (by decide) (Nat.le_of_ble_eq_true rfl) (fun G C E hnl => ?_)
  have C : Ok K G 6 cX9_together RX9 := C
  refine (show At K G 0 [(0, .ref (K.2.1 x0)), (1, .int x1)] [] h from ?_)
  unfold fX9_together at hf
  refine A_aload_n C dX9_together_0 (i := 0) rfl 0 rfl 1 rfl ?_
  refine CVv C dX9_together_1 9 k0 (by decide) (r := (RX9, TX9, 44)) rfl rfl hf (fun _ e => mX9_good k0 e) lkRX9_191 (by decide) (by decide) rfl [] rfl (Nat.le_of_ble_eq_true rfl) 4 rfl (fun h1 hf => ?_)
  refine A_aload_n C dX9_together_4 (i := 0) rfl 0 rfl 5 rfl ?_
  refine A_iload_n C dX9_together_5 (i := 1) rfl 1 rfl 6 rfl ?_
  refine CVi C dX9_together_6 9 k0 (by decide) (r := (RX9, TX9, 44)) rfl rfl hf (fun _ _ e => mX9_setWhy k0 e) lkRX9_433 (by decide) (by decide) rfl [] rfl (Nat.le_of_ble_eq_true rfl) 9 rfl (fun r6 h6 hf => ?_)
  refine A_istore_n C dX9_together_9 (i := 2) rfl [(2, .int r6), (0, .ref (K.2.1 x0)), (1, .int x1)] (lt_nl hnl (by decide)) rfl 10 rfl ?_
  refine A_iload_n C dX9_together_10 (i := 2) rfl 0 rfl 11 rfl ?_
  refine A_if_eq C dX9_together_11 22 (by decide) 14 rfl hf (fun c11 hf => ?_) (fun c11 hf => ?_)
  · refine A_aload_n C dX9_together_22 (i := 0) rfl 1 rfl 23 rfl ?_
    refine A_iload_n C dX9_together_23 (i := 1) rfl 2 rfl 24 rfl ?_
    refine CVi C dX9_together_24 9 k0 (by decide) (r := (RX9, TX9, 44)) rfl rfl hf (fun _ _ e => mX9_togetherOf k0 e) lkRX9_436 (by decide) (by decide) rfl [] rfl (Nat.le_of_ble_eq_true rfl) 27 rfl (fun r24 h24 hf => ?_)
    exact A_iret C dX9_together_27 E hf
  refine A_aload_n C dX9_together_14 (i := 0) rfl 1 rfl 15 rfl ?_
  refine A_iload_n C dX9_together_15 (i := 2) rfl 0 rfl 16 rfl ?_
  refine CVi C dX9_together_16 9 k0 (by decide) (r := (RX9, TX9, 44)) rfl rfl hf (fun _ _ e => mX9_no k0 e) lkRX9_194 (by decide) (by decide) rfl [] rfl (Nat.le_of_ble_eq_true rfl) 19 rfl (fun r16 h16 hf => ?_)
  refine A_goto C dX9_together_19 27 (by decide) ?_
  exact A_iret C dX9_together_27 E hf
set_option maxRecDepth 20000 in
theorem wX9_togetherAt_L63 {K : KX} {G : GX} (C : Ok K G 6 cX9_togetherAt RX9) (hnl : G.2.2.2.2.2.2.2.2.2.2.2.2.2 = 8) {rv : Int32} {hv : HH} (E : Endd K G (some .int) (some (.int rv)) hv) {x0 : Nat} {x2 : Int32}   (kx0 : isK 9 x0) : ∀ (self63 : Int32 → Int32 → Int32 → HH → Option (Int32 × HH)), (∀ (x5 : Int32) (x6 : Int32) (x7 : Int32) (h : HH), self63 x5 x6 x7 h = some (rv, hv) → At K G 63 [(0, .ref (K.2.1 x0)), (2, .int x2), (5, .int x5), (6, .int x6), (7, .int x7)] [] h) → ∀ (x5 : Int32) (x6 : Int32) (x7 : Int32) (h : HH), fX9_togetherAt_L63 x0 x2 self63 x5 x6 x7 h = some (rv, hv) → At K G 63 [(0, .ref (K.2.1 x0)), (2, .int x2), (5, .int x5), (6, .int x6), (7, .int x7)] [] h := by
  intro self63 Hself63 x5 x6 x7 h hf
  unfold fX9_togetherAt_L63 at hf
  refine A_iload C dX9_togetherAt_63 4 rfl 65 rfl ?_
  refine A_iload_n C dX9_togetherAt_65 (i := 2) rfl 1 rfl 66 rfl ?_
  refine A_icmp_le C dX9_togetherAt_66 99 (by decide) 69 rfl hf (fun c66 hf => ?_) (fun c66 hf => ?_)
  · refine A_iload C dX9_togetherAt_99 2 rfl 101 rfl ?_
    exact A_iret C dX9_togetherAt_101 E hf
  refine A_aload_n C dX9_togetherAt_69 (i := 0) rfl 0 rfl 70 rfl ?_
  refine gfRX9_57 C kx0 dX9_togetherAt_70 73 rfl ?_
  refine A_iload C dX9_togetherAt_73 3 rfl 75 rfl ?_
  refine A_iald C dX9_togetherAt_75 (of_9_33 kx0) hf 76 rfl (fun hf => ?_)
  refine A_bipush (v := 10) C dX9_togetherAt_76 (by decide) 78 rfl ?_
  refine A_irem C dX9_togetherAt_78 (by decide) 79 rfl ?_
  refine A_namI hf (fun y4 hf => ?_)
  refine A_istore C dX9_togetherAt_79 [(5, .int y4), (0, .ref (K.2.1 x0)), (2, .int x2), (6, .int x6), (7, .int x7)] (lt_nl hnl (by decide)) rfl 81 rfl ?_
  refine A_aload_n C dX9_togetherAt_81 (i := 0) rfl 1 rfl 82 rfl ?_
  refine gfRX9_57 C kx0 dX9_togetherAt_82 85 rfl ?_
  refine A_iload C dX9_togetherAt_85 3 rfl 87 rfl ?_
  refine A_iald C dX9_togetherAt_87 (of_9_33 kx0) hf 88 rfl (fun hf => ?_)
  refine A_bipush (v := 10) C dX9_togetherAt_88 (by decide) 90 rfl ?_
  refine A_idiv C dX9_togetherAt_90 (by decide) 91 rfl ?_
  refine A_namI hf (fun y5 hf => ?_)
  refine A_istore C dX9_togetherAt_91 [(6, .int y5), (5, .int y4), (0, .ref (K.2.1 x0)), (2, .int x2), (7, .int x7)] (lt_nl hnl (by decide)) rfl 93 rfl ?_
  refine A_iinc (v := (x7 + (-1))) C dX9_togetherAt_93 4 rfl rfl [(7, .int (x7 + (-1))), (6, .int y5), (5, .int y4), (0, .ref (K.2.1 x0)), (2, .int x2)] (lt_nl hnl (by decide)) rfl 96 rfl ?_
  refine A_goto C dX9_togetherAt_96 63 (by decide) ?_
  refine A_sub [3, 4, 2, 1, 0] (lv' := [(0, .ref (K.2.1 x0)), (2, .int x2), (5, .int y4), (6, .int y5), (7, .int (x7 + (-1)))]) rfl ?_
  exact Hself63 _ _ _ _ hf
set_option maxRecDepth 20000 in
theorem mX9_togetherAt {K : KX} {x0 : Nat} {x1 : Int32} {x2 : Int32} (k0 : isK 9 x0) {h : HH} {rv : Int32} {hv : HH} (hf : fX9_togetherAt x0 x1 x2 h = some (rv, hv)) : MR K yX9_togetherAt cX9_togetherAt 8 (some .int) 6 [.ref (K.2.1 x0), .int x1, .int x2] h (some (.int rv)) hv := by
  refine MR_of (by decide) (Nat.le_of_ble_eq_true rfl) (fun G C E hnl => ?_)
  have C : Ok K G 6 cX9_togetherAt RX9 := C
  refine (show At K G 0 [(0, .ref (K.2.1 x0)), (1, .int x1), (2, .int x2)] [] h from ?_)
  unfold fX9_togetherAt at hf
  refine A_aload_n C dX9_togetherAt_0 (i := 0) rfl 0 rfl 1 rfl ?_
  refine CVv C dX9_togetherAt_1 9 k0 (by decide) (r := (RX9, TX9, 44)) rfl rfl hf (fun _ e => mX9_good k0 e) lkRX9_191 (by decide) (by decide) rfl [] rfl (Nat.le_of_ble_eq_true rfl) 4 rfl (fun h1 hf => ?_)
  refine A_aload_n C dX9_togetherAt_4 (i := 0) rfl 0 rfl 5 rfl ?_
  refine A_iload_n C dX9_togetherAt_5 (i := 1) rfl 1 rfl 6 rfl ?_
  refine CVi C dX9_togetherAt_6 9 k0 (by decide) (r := (RX9, TX9, 44)) rfl rfl hf (fun _ _ e => mX9_setWhy k0 e) lkRX9_433 (by decide) (by decide) rfl [] rfl (Nat.le_of_ble_eq_true rfl) 9 rfl (fun r6 h6 hf => ?_)
  refine A_istore_n C dX9_togetherAt_9 (i := 3) rfl [(3, .int r6), (0, .ref (K.2.1 x0)), (1, .int x1), (2, .int x2)] (lt_nl hnl (by decide)) rfl 10 rfl ?_
  refine A_iload_n C dX9_togetherAt_10 (i := 3) rfl 0 rfl 11 rfl ?_
  refine A_if_eq C dX9_togetherAt_11 20 (by decide) 14 rfl hf (fun c11 hf => ?_) (fun c11 hf => ?_)
  · refine A_aload_n C dX9_togetherAt_20 (i := 0) rfl 1 rfl 21 rfl ?_
    refine A_iload_n C dX9_togetherAt_21 (i := 1) rfl 2 rfl 22 rfl ?_
    refine CVi C dX9_togetherAt_22 9 k0 (by decide) (r := (RX9, TX9, 44)) rfl rfl hf (fun _ _ e => mX9_togetherOf k0 e) lkRX9_436 (by decide) (by decide) rfl [] rfl (Nat.le_of_ble_eq_true rfl) 25 rfl (fun r22 h22 hf => ?_)
    refine A_istore C dX9_togetherAt_25 [(4, .int r22), (3, .int r6), (0, .ref (K.2.1 x0)), (1, .int x1), (2, .int x2)] (lt_nl hnl (by decide)) rfl 27 rfl ?_
    refine A_iload_n C dX9_togetherAt_27 (i := 2) rfl 4 rfl 28 rfl ?_
    refine A_iconst (v := 0) C dX9_togetherAt_28 (by decide) 29 rfl ?_
    refine A_iload C dX9_togetherAt_29 0 rfl 31 rfl ?_
    refine A_iconst (v := 1) C dX9_togetherAt_31 (by decide) 32 rfl ?_
    refine A_isub C dX9_togetherAt_32 33 rfl ?_
    refine CSz C dX9_togetherAt_33 hf (fun _ _ e => mX9_within  e) lkRX9_170 (by decide) (by decide) rfl [] rfl (Nat.le_of_ble_eq_true rfl) 36 rfl (fun r33 h33 hf => ?_)
    refine A_z_ne C dX9_togetherAt_36 45 (by decide) 39 rfl hf (fun c36 hf => ?_) (fun c36 hf => ?_)
    · refine A_aload_n C dX9_togetherAt_45 (i := 0) rfl 2 rfl 46 rfl ?_
      refine gfRX9_427 C k0 dX9_togetherAt_46 49 rfl ?_
      refine A_namI hf (fun y1 hf => ?_)
      refine A_istore C dX9_togetherAt_49 [(5, .int y1), (4, .int r22), (3, .int r6), (0, .ref (K.2.1 x0)), (1, .int x1), (2, .int x2)] (lt_nl hnl (by decide)) rfl 51 rfl ?_
      refine A_aload_n C dX9_togetherAt_51 (i := 0) rfl 3 rfl 52 rfl ?_
      refine gfRX9_424 C k0 dX9_togetherAt_52 55 rfl ?_
      refine A_namI hf (fun y2 hf => ?_)
      refine A_istore C dX9_togetherAt_55 [(6, .int y2), (5, .int y1), (4, .int r22), (3, .int r6), (0, .ref (K.2.1 x0)), (1, .int x1), (2, .int x2)] (lt_nl hnl (by decide)) rfl 57 rfl ?_
      refine A_iload C dX9_togetherAt_57 2 rfl 59 rfl ?_
      refine A_iconst (v := 1) C dX9_togetherAt_59 (by decide) 60 rfl ?_
      refine A_isub C dX9_togetherAt_60 61 rfl ?_
      refine A_namI hf (fun y3 hf => ?_)
      refine A_istore C dX9_togetherAt_61 [(7, .int y3), (6, .int y2), (5, .int y1), (4, .int r22), (3, .int r6), (0, .ref (K.2.1 x0)), (1, .int x1), (2, .int x2)] (lt_nl hnl (by decide)) rfl 63 rfl ?_
      refine A_sub [5, 7, 2, 1, 0] (lv' := [(0, .ref (K.2.1 x0)), (2, .int x2), (5, .int y1), (6, .int y2), (7, .int y3)]) rfl ?_
      refine lq3_at (wX9_togetherAt_L63 C hnl E k0) FU _ _ _ _ hf
    refine A_aload_n C dX9_togetherAt_39 (i := 0) rfl 2 rfl 40 rfl ?_
    refine A_iconst (v := 1) C dX9_togetherAt_40 (by decide) 41 rfl ?_
    refine CVi C dX9_togetherAt_41 9 k0 (by decide) (r := (RX9, TX9, 44)) rfl rfl hf (fun _ _ e => mX9_no k0 e) lkRX9_194 (by decide) (by decide) rfl [] rfl (Nat.le_of_ble_eq_true rfl) 44 rfl (fun r41 h41 hf => ?_)
    exact A_iret C dX9_togetherAt_44 E hf
  refine A_aload_n C dX9_togetherAt_14 (i := 0) rfl 1 rfl 15 rfl ?_
  refine A_iload_n C dX9_togetherAt_15 (i := 3) rfl 0 rfl 16 rfl ?_
  refine CVi C dX9_togetherAt_16 9 k0 (by decide) (r := (RX9, TX9, 44)) rfl rfl hf (fun _ _ e => mX9_no k0 e) lkRX9_194 (by decide) (by decide) rfl [] rfl (Nat.le_of_ble_eq_true rfl) 19 rfl (fun r16 h16 hf => ?_)
  exact A_iret C dX9_togetherAt_19 E hf
set_option maxRecDepth 20000 in
theorem wX9_isDeep_L4 {K : KX} {G : GX} (C : Ok K G 2 cX9_isDeep RX9) (hnl : G.2.2.2.2.2.2.2.2.2.2.2.2.2 = 5) {rv : Bool} {hv : HH} (E : Endd K G (some .boolean) (some (.int (b2i rv))) hv) {x0 : Nat} {x1 : Int32}   (kx0 : isK 9 x0) : ∀ (self4 : Bool → Int32 → HH → Option (Bool × HH)), (∀ (x2 : Bool) (x3 : Int32) (h : HH), self4 x2 x3 h = some (rv, hv) → At K G 4 [(0, .ref (K.2.1 x0)), (1, .int x1), (2, .int (b2i x2)), (3, .int x3)] [] h) → ∀ (x2 : Bool) (x3 : Int32) (h : HH), fX9_isDeep_L4 x0 x1 self4 x2 x3 h = some (rv, hv) → At K G 4 [(0, .ref (K.2.1 x0)), (1, .int x1), (2, .int (b2i x2)), (3, .int x3)] [] h := by
  intro self4 Hself4 x2 x3 h hf
  unfold fX9_isDeep_L4 at hf
  refine A_iload_n C dX9_isDeep_4 (i := 3) rfl 3 rfl 5 rfl ?_
  refine A_aload_n C dX9_isDeep_5 (i := 0) rfl 0 rfl 6 rfl ?_
  refine gfRX9_20 C kx0 dX9_isDeep_6 9 rfl ?_
  refine A_bipush (v := 8) C dX9_isDeep_9 (by decide) 11 rfl ?_
  refine A_iald C dX9_isDeep_11 (of_9_15 kx0) hf 12 rfl (fun hf => ?_)
  refine A_icmp_ge C dX9_isDeep_12 103 (by decide) 15 rfl hf (fun c12 hf => ?_) (fun c12 hf => ?_)
  · refine A_iload_n C dX9_isDeep_103 (i := 2) rfl 2 rfl 104 rfl ?_
    exact A_zret (x := x2) C dX9_isDeep_104 E hf
  refine A_aload_n C dX9_isDeep_15 (i := 0) rfl 0 rfl 16 rfl ?_
  refine gfRX9_20 C kx0 dX9_isDeep_16 19 rfl ?_
  refine A_sipush (v := 154) C dX9_isDeep_19 (by decide) 22 rfl ?_
  refine A_iconst (v := 3) C dX9_isDeep_22 (by decide) 23 rfl ?_
  refine A_iload_n C dX9_isDeep_23 (i := 3) rfl 3 rfl 24 rfl ?_
  refine A_imul C dX9_isDeep_24 25 rfl ?_
  refine A_iadd C dX9_isDeep_25 26 rfl ?_
  refine A_iconst (v := 1) C dX9_isDeep_26 (by decide) 27 rfl ?_
  refine A_iadd C dX9_isDeep_27 28 rfl ?_
  refine A_iald C dX9_isDeep_28 (of_9_15 kx0) hf 29 rfl (fun hf => ?_)
  refine A_namI hf (fun y1 hf => ?_)
  refine A_istore C dX9_isDeep_29 [(4, .int y1), (0, .ref (K.2.1 x0)), (1, .int x1), (2, .int (b2i x2)), (3, .int x3)] (lt_nl hnl (by decide)) rfl 31 rfl ?_
  refine A_iload_n C dX9_isDeep_31 (i := 2) rfl 3 rfl 32 rfl ?_
  refine A_z_eq C dX9_isDeep_32 95 (by decide) 35 rfl hf (fun c32 hf => ?_) (fun c32 hf => ?_)
  · refine A_iconst (v := 0) C dX9_isDeep_95 (by decide) 96 rfl ?_
    refine A_istore_n C dX9_isDeep_96 (i := 2) rfl [(2, .int 0), (4, .int y1), (0, .ref (K.2.1 x0)), (1, .int x1), (3, .int x3)] (lt_nl hnl (by decide)) rfl 97 rfl ?_
    refine A_iinc (v := (x3 + 1)) C dX9_isDeep_97 4 rfl rfl [(3, .int (x3 + 1)), (2, .int 0), (4, .int y1), (0, .ref (K.2.1 x0)), (1, .int x1)] (lt_nl hnl (by decide)) rfl 100 rfl ?_
    refine A_goto C dX9_isDeep_100 4 (by decide) ?_
    refine A_sub [3, 4, 1, 0] (lv' := [(0, .ref (K.2.1 x0)), (1, .int x1), (2, .int (b2i false)), (3, .int (x3 + 1))]) rfl ?_
    exact Hself4 _ _ _ hf
  refine A_aload_n C dX9_isDeep_35 (i := 0) rfl 1 rfl 36 rfl ?_
  refine gfRX9_20 C kx0 dX9_isDeep_36 39 rfl ?_
  refine A_sipush (v := 154) C dX9_isDeep_39 (by decide) 42 rfl ?_
  refine A_iconst (v := 3) C dX9_isDeep_42 (by decide) 43 rfl ?_
  refine A_iload_n C dX9_isDeep_43 (i := 3) rfl 4 rfl 44 rfl ?_
  refine A_imul C dX9_isDeep_44 45 rfl ?_
  refine A_iadd C dX9_isDeep_45 46 rfl ?_
  refine A_iald C dX9_isDeep_46 (of_9_15 kx0) hf 47 rfl (fun hf => ?_)
  refine A_if_ne C dX9_isDeep_47 63 (by decide) 50 rfl hf (fun c47 hf => ?_) (fun c47 hf => ?_)
  · refine A_iload C dX9_isDeep_63 0 rfl 65 rfl ?_
    refine A_aload_n C dX9_isDeep_65 (i := 0) rfl 1 rfl 66 rfl ?_
    refine A_iload_n C dX9_isDeep_66 (i := 1) rfl 2 rfl 67 rfl ?_
    refine CVi C dX9_isDeep_67 9 kx0 (by decide) (r := (RX9, TX9, 44)) rfl rfl hf (fun _ _ e => mX9_quickOf kx0 e) lkRX9_304 (by decide) (by decide) rfl [.int y1] rfl (Nat.le_of_ble_eq_true rfl) 70 rfl (fun r67 h67 hf => ?_)
    refine A_idivG C dX9_isDeep_70 hf 71 rfl (fun hf => ?_)
    refine A_i2l C dX9_isDeep_71 72 rfl ?_
    refine A_aload_n C dX9_isDeep_72 (i := 0) rfl 1 rfl 73 rfl ?_
    refine gfRX9_20 C kx0 dX9_isDeep_73 76 rfl ?_
    refine A_sipush (v := 154) C dX9_isDeep_76 (by decide) 79 rfl ?_
    refine A_iconst (v := 3) C dX9_isDeep_79 (by decide) 80 rfl ?_
    refine A_iload_n C dX9_isDeep_80 (i := 3) rfl 4 rfl 81 rfl ?_
    refine A_imul C dX9_isDeep_81 82 rfl ?_
    refine A_iadd C dX9_isDeep_82 83 rfl ?_
    refine A_iconst (v := 2) C dX9_isDeep_83 (by decide) 84 rfl ?_
    refine A_iadd C dX9_isDeep_84 85 rfl ?_
    refine A_iald C dX9_isDeep_85 (of_9_15 kx0) hf 86 rfl (fun hf => ?_)
    refine A_i2l C dX9_isDeep_86 87 rfl ?_
    refine A_l_ne C dX9_isDeep_87 dX9_isDeep_88 95 (by decide) 91 rfl hf (fun c87 hf => ?_) (fun c87 hf => ?_)
    · refine A_iconst (v := 0) C dX9_isDeep_95 (by decide) 96 rfl ?_
      refine A_istore_n C dX9_isDeep_96 (i := 2) rfl [(2, .int 0), (4, .int y1), (0, .ref (K.2.1 x0)), (1, .int x1), (3, .int x3)] (lt_nl hnl (by decide)) rfl 97 rfl ?_
      refine A_iinc (v := (x3 + 1)) C dX9_isDeep_97 4 rfl rfl [(3, .int (x3 + 1)), (2, .int 0), (4, .int y1), (0, .ref (K.2.1 x0)), (1, .int x1)] (lt_nl hnl (by decide)) rfl 100 rfl ?_
      refine A_goto C dX9_isDeep_100 4 (by decide) ?_
      refine A_sub [3, 4, 1, 0] (lv' := [(0, .ref (K.2.1 x0)), (1, .int x1), (2, .int (b2i false)), (3, .int (x3 + 1))]) rfl ?_
      exact Hself4 _ _ _ hf
    refine A_iconst (v := 1) C dX9_isDeep_91 (by decide) 92 rfl ?_
    refine A_goto C dX9_isDeep_92 96 (by decide) ?_
    refine A_istore_n C dX9_isDeep_96 (i := 2) rfl [(2, .int 1), (4, .int y1), (0, .ref (K.2.1 x0)), (1, .int x1), (3, .int x3)] (lt_nl hnl (by decide)) rfl 97 rfl ?_
    refine A_iinc (v := (x3 + 1)) C dX9_isDeep_97 4 rfl rfl [(3, .int (x3 + 1)), (2, .int 1), (4, .int y1), (0, .ref (K.2.1 x0)), (1, .int x1)] (lt_nl hnl (by decide)) rfl 100 rfl ?_
    refine A_goto C dX9_isDeep_100 4 (by decide) ?_
    refine A_sub [3, 4, 1, 0] (lv' := [(0, .ref (K.2.1 x0)), (1, .int x1), (2, .int (b2i true)), (3, .int (x3 + 1))]) rfl ?_
    exact Hself4 _ _ _ hf
  refine A_iload C dX9_isDeep_50 0 rfl 52 rfl ?_
  refine A_i2l C dX9_isDeep_52 53 rfl ?_
  refine A_aload_n C dX9_isDeep_53 (i := 0) rfl 1 rfl 54 rfl ?_
  refine A_iload_n C dX9_isDeep_54 (i := 1) rfl 2 rfl 55 rfl ?_
  refine CVi C dX9_isDeep_55 9 kx0 (by decide) (r := (RX9, TX9, 44)) rfl rfl hf (fun _ _ e => mX9_quickOf kx0 e) lkRX9_304 (by decide) (by decide) rfl [.long y1.toInt64] rfl (Nat.le_of_ble_eq_true rfl) 58 rfl (fun r55 h55 hf => ?_)
  refine A_i2l C dX9_isDeep_58 59 rfl ?_
  refine A_lmul C dX9_isDeep_59 60 rfl ?_
  refine A_goto C dX9_isDeep_60 72 (by decide) ?_
  refine A_aload_n C dX9_isDeep_72 (i := 0) rfl 1 rfl 73 rfl ?_
  refine gfRX9_20 C kx0 dX9_isDeep_73 76 rfl ?_
  refine A_sipush (v := 154) C dX9_isDeep_76 (by decide) 79 rfl ?_
  refine A_iconst (v := 3) C dX9_isDeep_79 (by decide) 80 rfl ?_
  refine A_iload_n C dX9_isDeep_80 (i := 3) rfl 4 rfl 81 rfl ?_
  refine A_imul C dX9_isDeep_81 82 rfl ?_
  refine A_iadd C dX9_isDeep_82 83 rfl ?_
  refine A_iconst (v := 2) C dX9_isDeep_83 (by decide) 84 rfl ?_
  refine A_iadd C dX9_isDeep_84 85 rfl ?_
  refine A_iald C dX9_isDeep_85 (of_9_15 kx0) hf 86 rfl (fun hf => ?_)
  refine A_i2l C dX9_isDeep_86 87 rfl ?_
  refine A_l_ne C dX9_isDeep_87 dX9_isDeep_88 95 (by decide) 91 rfl hf (fun c87 hf => ?_) (fun c87 hf => ?_)
  · refine A_iconst (v := 0) C dX9_isDeep_95 (by decide) 96 rfl ?_
    refine A_istore_n C dX9_isDeep_96 (i := 2) rfl [(2, .int 0), (4, .int y1), (0, .ref (K.2.1 x0)), (1, .int x1), (3, .int x3)] (lt_nl hnl (by decide)) rfl 97 rfl ?_
    refine A_iinc (v := (x3 + 1)) C dX9_isDeep_97 4 rfl rfl [(3, .int (x3 + 1)), (2, .int 0), (4, .int y1), (0, .ref (K.2.1 x0)), (1, .int x1)] (lt_nl hnl (by decide)) rfl 100 rfl ?_
    refine A_goto C dX9_isDeep_100 4 (by decide) ?_
    refine A_sub [3, 4, 1, 0] (lv' := [(0, .ref (K.2.1 x0)), (1, .int x1), (2, .int (b2i false)), (3, .int (x3 + 1))]) rfl ?_
    exact Hself4 _ _ _ hf
  refine A_iconst (v := 1) C dX9_isDeep_91 (by decide) 92 rfl ?_
  refine A_goto C dX9_isDeep_92 96 (by decide) ?_
  refine A_istore_n C dX9_isDeep_96 (i := 2) rfl [(2, .int 1), (4, .int y1), (0, .ref (K.2.1 x0)), (1, .int x1), (3, .int x3)] (lt_nl hnl (by decide)) rfl 97 rfl ?_
  refine A_iinc (v := (x3 + 1)) C dX9_isDeep_97 4 rfl rfl [(3, .int (x3 + 1)), (2, .int 1), (4, .int y1), (0, .ref (K.2.1 x0)), (1, .int x1)] (lt_nl hnl (by decide)) rfl 100 rfl ?_
  refine A_goto C dX9_isDeep_100 4 (by decide) ?_
  refine A_sub [3, 4, 1, 0] (lv' := [(0, .ref (K.2.1 x0)), (1, .int x1), (2, .int (b2i true)), (3, .int (x3 + 1))]) rfl ?_
  exact Hself4 _ _ _ hf
set_option maxRecDepth 20000 in
theorem mX9_isDeep {K : KX} {x0 : Nat} {x1 : Int32} (k0 : isK 9 x0) {h : HH} {rv : Bool} {hv : HH} (hf : fX9_isDeep x0 x1 h = some (rv, hv)) : MR K yX9_isDeep cX9_isDeep 5 (some .boolean) 2 [.ref (K.2.1 x0), .int x1] h (some (.int (b2i rv))) hv := by
  refine MR_of (by decide) (Nat.le_of_ble_eq_true rfl) (fun G C E hnl => ?_)
  have C : Ok K G 2 cX9_isDeep RX9 := C
  refine (show At K G 0 [(0, .ref (K.2.1 x0)), (1, .int x1)] [] h from ?_)
  unfold fX9_isDeep at hf
  refine A_iconst (v := 1) C dX9_isDeep_0 (by decide) 1 rfl ?_
  refine A_istore_n C dX9_isDeep_1 (i := 2) rfl [(2, .int 1), (0, .ref (K.2.1 x0)), (1, .int x1)] (lt_nl hnl (by decide)) rfl 2 rfl ?_
  refine A_iconst (v := 0) C dX9_isDeep_2 (by decide) 3 rfl ?_
  refine A_istore_n C dX9_isDeep_3 (i := 3) rfl [(3, .int 0), (2, .int 1), (0, .ref (K.2.1 x0)), (1, .int x1)] (lt_nl hnl (by decide)) rfl 4 rfl ?_
  refine A_sub [2, 3, 1, 0] (lv' := [(0, .ref (K.2.1 x0)), (1, .int x1), (2, .int (b2i true)), (3, .int 0)]) rfl ?_
  refine lq2_at (wX9_isDeep_L4 C hnl E k0) FU _ _ _ hf
set_option maxRecDepth 20000 in
theorem wX9_deepOnes_L4 {K : KX} {G : GX} (C : Ok K G 3 cX9_deepOnes RX9) (hnl : G.2.2.2.2.2.2.2.2.2.2.2.2.2 = 3) {rv : Int32} {hv : HH} (E : Endd K G (some .int) (some (.int rv)) hv) {x0 : Nat}   (kx0 : isK 9 x0) : ∀ (self4 : Int32 → Int32 → HH → Option (Int32 × HH)), (∀ (x1 : Int32) (x2 : Int32) (h : HH), self4 x1 x2 h = some (rv, hv) → At K G 4 [(0, .ref (K.2.1 x0)), (1, .int x1), (2, .int x2)] [] h) → ∀ (x1 : Int32) (x2 : Int32) (h : HH), fX9_deepOnes_L4 x0 self4 x1 x2 h = some (rv, hv) → At K G 4 [(0, .ref (K.2.1 x0)), (1, .int x1), (2, .int x2)] [] h := by
  intro self4 Hself4 x1 x2 h hf
  unfold fX9_deepOnes_L4 at hf
  refine A_iload_n C dX9_deepOnes_4 (i := 2) rfl 2 rfl 5 rfl ?_
  refine A_aload_n C dX9_deepOnes_5 (i := 0) rfl 0 rfl 6 rfl ?_
  refine gfRX9_20 C kx0 dX9_deepOnes_6 9 rfl ?_
  refine A_iconst (v := 0) C dX9_deepOnes_9 (by decide) 10 rfl ?_
  refine A_iald C dX9_deepOnes_10 (of_9_15 kx0) hf 11 rfl (fun hf => ?_)
  refine A_icmp_gt C dX9_deepOnes_11 38 (by decide) 14 rfl hf (fun c11 hf => ?_) (fun c11 hf => ?_)
  · refine A_iload_n C dX9_deepOnes_38 (i := 1) rfl 1 rfl 39 rfl ?_
    exact A_iret C dX9_deepOnes_39 E hf
  refine A_iload_n C dX9_deepOnes_14 (i := 1) rfl 1 rfl 15 rfl ?_
  refine A_aload_n C dX9_deepOnes_15 (i := 0) rfl 0 rfl 16 rfl ?_
  refine A_iload_n C dX9_deepOnes_16 (i := 2) rfl 2 rfl 17 rfl ?_
  refine CVz C dX9_deepOnes_17 9 kx0 (by decide) (r := (RX9, TX9, 44)) rfl rfl hf (fun _ _ e => mX9_isDeep kx0 e) lkRX9_439 (by decide) (by decide) rfl [.int x1] rfl (Nat.le_of_ble_eq_true rfl) 20 rfl (fun r17 h17 hf => ?_)
  refine A_z_eq C dX9_deepOnes_20 29 (by decide) 23 rfl hf (fun c20 hf => ?_) (fun c20 hf => ?_)
  · refine A_iconst (v := 0) C dX9_deepOnes_29 (by decide) 30 rfl ?_
    refine A_ior C dX9_deepOnes_30 31 rfl ?_
    refine A_namI hf (fun y1 hf => ?_)
    refine A_istore_n C dX9_deepOnes_31 (i := 1) rfl [(1, .int y1), (0, .ref (K.2.1 x0)), (2, .int x2)] (lt_nl hnl (by decide)) rfl 32 rfl ?_
    refine A_iinc (v := (x2 + 1)) C dX9_deepOnes_32 2 rfl rfl [(2, .int (x2 + 1)), (1, .int y1), (0, .ref (K.2.1 x0))] (lt_nl hnl (by decide)) rfl 35 rfl ?_
    refine A_goto C dX9_deepOnes_35 4 (by decide) ?_
    refine A_sub [2, 1, 0] (lv' := [(0, .ref (K.2.1 x0)), (1, .int y1), (2, .int (x2 + 1))]) rfl ?_
    exact Hself4 _ _ _ hf
  refine A_iconst (v := 1) C dX9_deepOnes_23 (by decide) 24 rfl ?_
  refine A_iload_n C dX9_deepOnes_24 (i := 2) rfl 2 rfl 25 rfl ?_
  refine A_ishl C dX9_deepOnes_25 26 rfl ?_
  refine A_goto C dX9_deepOnes_26 30 (by decide) ?_
  refine A_ior C dX9_deepOnes_30 31 rfl ?_
  refine A_namI hf (fun y2 hf => ?_)
  refine A_istore_n C dX9_deepOnes_31 (i := 1) rfl [(1, .int y2), (0, .ref (K.2.1 x0)), (2, .int x2)] (lt_nl hnl (by decide)) rfl 32 rfl ?_
  refine A_iinc (v := (x2 + 1)) C dX9_deepOnes_32 2 rfl rfl [(2, .int (x2 + 1)), (1, .int y2), (0, .ref (K.2.1 x0))] (lt_nl hnl (by decide)) rfl 35 rfl ?_
  refine A_goto C dX9_deepOnes_35 4 (by decide) ?_
  refine A_sub [2, 1, 0] (lv' := [(0, .ref (K.2.1 x0)), (1, .int y2), (2, .int (x2 + 1))]) rfl ?_
  exact Hself4 _ _ _ hf
set_option maxRecDepth 20000 in
theorem mX9_deepOnes {K : KX} {x0 : Nat} (k0 : isK 9 x0) {h : HH} {rv : Int32} {hv : HH} (hf : fX9_deepOnes x0 h = some (rv, hv)) : MR K yX9_deepOnes cX9_deepOnes 3 (some .int) 3 [.ref (K.2.1 x0)] h (some (.int rv)) hv := by
  refine MR_of (by decide) (Nat.le_of_ble_eq_true rfl) (fun G C E hnl => ?_)
  have C : Ok K G 3 cX9_deepOnes RX9 := C
  refine (show At K G 0 [(0, .ref (K.2.1 x0))] [] h from ?_)
  unfold fX9_deepOnes at hf
  refine A_iconst (v := 0) C dX9_deepOnes_0 (by decide) 1 rfl ?_
  refine A_istore_n C dX9_deepOnes_1 (i := 1) rfl [(1, .int 0), (0, .ref (K.2.1 x0))] (lt_nl hnl (by decide)) rfl 2 rfl ?_
  refine A_iconst (v := 0) C dX9_deepOnes_2 (by decide) 3 rfl ?_
  refine A_istore_n C dX9_deepOnes_3 (i := 2) rfl [(2, .int 0), (1, .int 0), (0, .ref (K.2.1 x0))] (lt_nl hnl (by decide)) rfl 4 rfl ?_
  refine A_sub [2, 1, 0] (lv' := [(0, .ref (K.2.1 x0)), (1, .int 0), (2, .int 0)]) rfl ?_
  refine lq2_at (wX9_deepOnes_L4 C hnl E k0) FU _ _ _ hf
set_option maxRecDepth 20000 in
theorem mX9_deep {K : KX} {x0 : Nat} (k0 : isK 9 x0) {h : HH} {rv : Int32} {hv : HH} (hf : fX9_deep x0 h = some (rv, hv)) : MR K yX9_deep cX9_deep 1 (some .int) 4 [.ref (K.2.1 x0)] h (some (.int rv)) hv := by
  refine MR_of (by decide) (Nat.le_of_ble_eq_true rfl) (fun G C E hnl => ?_)
  have C : Ok K G 4 cX9_deep RX9 := C
  refine (show At K G 0 [(0, .ref (K.2.1 x0))] [] h from ?_)
  unfold fX9_deep at hf
  refine A_aload_n C dX9_deep_0 (i := 0) rfl 0 rfl 1 rfl ?_
  refine CVv C dX9_deep_1 9 k0 (by decide) (r := (RX9, TX9, 44)) rfl rfl hf (fun _ e => mX9_good k0 e) lkRX9_191 (by decide) (by decide) rfl [] rfl (Nat.le_of_ble_eq_true rfl) 4 rfl (fun h1 hf => ?_)
  refine A_aload_n C dX9_deep_4 (i := 0) rfl 0 rfl 5 rfl ?_
  refine gfRX9_204 C k0 dX9_deep_5 8 rfl ?_
  refine A_if_eq C dX9_deep_8 18 (by decide) 11 rfl hf (fun c8 hf => ?_) (fun c8 hf => ?_)
  · refine A_aload_n C dX9_deep_18 (i := 0) rfl 0 rfl 19 rfl ?_
    refine A_iconst (v := 1) C dX9_deep_19 (by decide) 20 rfl ?_
    refine CVi C dX9_deep_20 9 k0 (by decide) (r := (RX9, TX9, 44)) rfl rfl hf (fun _ _ e => mX9_no k0 e) lkRX9_194 (by decide) (by decide) rfl [] rfl (Nat.le_of_ble_eq_true rfl) 23 rfl (fun r20 h20 hf => ?_)
    exact A_iret C dX9_deep_23 E hf
  refine A_aload_n C dX9_deep_11 (i := 0) rfl 0 rfl 12 rfl ?_
  refine CVi C dX9_deep_12 9 k0 (by decide) (r := (RX9, TX9, 44)) rfl rfl hf (fun _ _ e => mX9_deepOnes k0 e) lkRX9_442 (by decide) (by decide) rfl [] rfl (Nat.le_of_ble_eq_true rfl) 15 rfl (fun r12 h12 hf => ?_)
  refine A_goto C dX9_deep_15 23 (by decide) ?_
  exact A_iret C dX9_deep_23 E hf
set_option maxRecDepth 20000 in
theorem wX9_askOf_L41 {K : KX} {G : GX} (C : Ok K G 2 cX9_askOf RX9) (hnl : G.2.2.2.2.2.2.2.2.2.2.2.2.2 = 8) {rv : Int32} {hv : HH} (E : Endd K G (some .int) (some (.int rv)) hv) {x0 : Nat} {x1 : Int32} {x2 : Int32} {x3 : Int32} {x4 : Int32} {x5 : Int32} {k41_105 : Int32 → HH → Option (Int32 × HH)}  (Hk41_105 : ∀ (x6 : Int32) (h : HH), k41_105 x6 h = some (rv, hv) → At K G 105 [(0, .ref (K.2.1 x0)), (1, .int x1), (2, .int x2), (3, .int x3), (4, .int x4), (5, .int x5), (6, .int x6)] [] h) (kx0 : isK 9 x0) : ∀ (self41 : Int32 → Int32 → HH → Option (Int32 × HH)), (∀ (x6 : Int32) (x7 : Int32) (h : HH), self41 x6 x7 h = some (rv, hv) → At K G 41 [(0, .ref (K.2.1 x0)), (1, .int x1), (2, .int x2), (3, .int x3), (4, .int x4), (5, .int x5), (6, .int x6), (7, .int x7)] [] h) → ∀ (x6 : Int32) (x7 : Int32) (h : HH), fX9_askOf_L41 k41_105 x0 x1 x2 x3 x4 x5 self41 x6 x7 h = some (rv, hv) → At K G 41 [(0, .ref (K.2.1 x0)), (1, .int x1), (2, .int x2), (3, .int x3), (4, .int x4), (5, .int x5), (6, .int x6), (7, .int x7)] [] h := by
  intro self41 Hself41 x6 x7 h hf
  unfold fX9_askOf_L41 at hf
  refine A_iload C dX9_askOf_41 7 rfl 43 rfl ?_
  refine A_aload_n C dX9_askOf_43 (i := 0) rfl 0 rfl 44 rfl ?_
  refine gfRX9_20 C kx0 dX9_askOf_44 47 rfl ?_
  refine A_iconst (v := 0) C dX9_askOf_47 (by decide) 48 rfl ?_
  refine A_iald C dX9_askOf_48 (of_9_15 kx0) hf 49 rfl (fun hf => ?_)
  refine A_icmp_gt C dX9_askOf_49 105 (by decide) 52 rfl hf (fun c49 hf => ?_) (fun c49 hf => ?_)
  · refine A_sub [0, 1, 2, 3, 4, 5, 6] (lv' := [(0, .ref (K.2.1 x0)), (1, .int x1), (2, .int x2), (3, .int x3), (4, .int x4), (5, .int x5), (6, .int x6)]) rfl ?_
    exact Hk41_105 _ _ hf
  refine A_iload C dX9_askOf_52 6 rfl 54 rfl ?_
  refine A_iload_n C dX9_askOf_54 (i := 1) rfl 1 rfl 55 rfl ?_
  refine A_iload C dX9_askOf_55 5 rfl 57 rfl ?_
  refine CSz C dX9_askOf_57 hf (fun _ _ e => mX9_hasBit  e) lkRX9_412 (by decide) (by decide) rfl [.int x6] rfl (Nat.le_of_ble_eq_true rfl) 60 rfl (fun r57 h57 hf => ?_)
  refine A_z_eq C dX9_askOf_60 95 (by decide) 63 rfl hf (fun c60 hf => ?_) (fun c60 hf => ?_)
  · refine A_iconst (v := 0) C dX9_askOf_95 (by decide) 96 rfl ?_
    refine A_iadd C dX9_askOf_96 97 rfl ?_
    refine A_namI hf (fun y1 hf => ?_)
    refine A_istore C dX9_askOf_97 [(6, .int y1), (0, .ref (K.2.1 x0)), (1, .int x1), (2, .int x2), (3, .int x3), (4, .int x4), (5, .int x5), (7, .int x7)] (lt_nl hnl (by decide)) rfl 99 rfl ?_
    refine A_iinc (v := (x7 + 1)) C dX9_askOf_99 7 rfl rfl [(7, .int (x7 + 1)), (6, .int y1), (0, .ref (K.2.1 x0)), (1, .int x1), (2, .int x2), (3, .int x3), (4, .int x4), (5, .int x5)] (lt_nl hnl (by decide)) rfl 102 rfl ?_
    refine A_goto C dX9_askOf_102 41 (by decide) ?_
    refine A_sub [2, 3, 4, 5, 6, 7, 1, 0] (lv' := [(0, .ref (K.2.1 x0)), (1, .int x1), (2, .int x2), (3, .int x3), (4, .int x4), (5, .int x5), (6, .int y1), (7, .int (x7 + 1))]) rfl ?_
    exact Hself41 _ _ _ hf
  refine A_iload_n C dX9_askOf_63 (i := 1) rfl 1 rfl 64 rfl ?_
  refine A_iload C dX9_askOf_64 7 rfl 66 rfl ?_
  refine CSz C dX9_askOf_66 hf (fun _ _ e => mX9_hasBit  e) lkRX9_412 (by decide) (by decide) rfl [.int x6] rfl (Nat.le_of_ble_eq_true rfl) 69 rfl (fun r66 h66 hf => ?_)
  refine A_z_eq C dX9_askOf_69 95 (by decide) 72 rfl hf (fun c69 hf => ?_) (fun c69 hf => ?_)
  · refine A_iconst (v := 0) C dX9_askOf_95 (by decide) 96 rfl ?_
    refine A_iadd C dX9_askOf_96 97 rfl ?_
    refine A_namI hf (fun y2 hf => ?_)
    refine A_istore C dX9_askOf_97 [(6, .int y2), (0, .ref (K.2.1 x0)), (1, .int x1), (2, .int x2), (3, .int x3), (4, .int x4), (5, .int x5), (7, .int x7)] (lt_nl hnl (by decide)) rfl 99 rfl ?_
    refine A_iinc (v := (x7 + 1)) C dX9_askOf_99 7 rfl rfl [(7, .int (x7 + 1)), (6, .int y2), (0, .ref (K.2.1 x0)), (1, .int x1), (2, .int x2), (3, .int x3), (4, .int x4), (5, .int x5)] (lt_nl hnl (by decide)) rfl 102 rfl ?_
    refine A_goto C dX9_askOf_102 41 (by decide) ?_
    refine A_sub [2, 3, 4, 5, 6, 7, 1, 0] (lv' := [(0, .ref (K.2.1 x0)), (1, .int x1), (2, .int x2), (3, .int x3), (4, .int x4), (5, .int x5), (6, .int y2), (7, .int (x7 + 1))]) rfl ?_
    exact Hself41 _ _ _ hf
  refine A_iload_n C dX9_askOf_72 (i := 3) rfl 3 rfl 73 rfl ?_
  refine A_aload_n C dX9_askOf_73 (i := 0) rfl 0 rfl 74 rfl ?_
  refine A_iload C dX9_askOf_74 5 rfl 76 rfl ?_
  refine CVi C dX9_askOf_76 9 kx0 (by decide) (r := (RX9, TX9, 44)) rfl rfl hf (fun _ _ e => mX9_quickOf kx0 e) lkRX9_304 (by decide) (by decide) rfl [.int x3, .int x6] rfl (Nat.le_of_ble_eq_true rfl) 79 rfl (fun r76 h76 hf => ?_)
  refine A_idivG C dX9_askOf_79 hf 80 rfl (fun hf => ?_)
  refine A_iload_n C dX9_askOf_80 (i := 3) rfl 3 rfl 81 rfl ?_
  refine A_aload_n C dX9_askOf_81 (i := 0) rfl 0 rfl 82 rfl ?_
  refine A_iload C dX9_askOf_82 7 rfl 84 rfl ?_
  refine CVi C dX9_askOf_84 9 kx0 (by decide) (r := (RX9, TX9, 44)) rfl rfl hf (fun _ _ e => mX9_quickOf kx0 e) lkRX9_304 (by decide) (by decide) rfl [.int x3, .int (x3 / r76), .int x6] rfl (Nat.le_of_ble_eq_true rfl) 87 rfl (fun r84 h84 hf => ?_)
  refine A_idivG C dX9_askOf_87 hf 88 rfl (fun hf => ?_)
  refine A_icmp_ne C dX9_askOf_88 95 (by decide) 91 rfl hf (fun c88 hf => ?_) (fun c88 hf => ?_)
  · refine A_iconst (v := 0) C dX9_askOf_95 (by decide) 96 rfl ?_
    refine A_iadd C dX9_askOf_96 97 rfl ?_
    refine A_namI hf (fun y3 hf => ?_)
    refine A_istore C dX9_askOf_97 [(6, .int y3), (0, .ref (K.2.1 x0)), (1, .int x1), (2, .int x2), (3, .int x3), (4, .int x4), (5, .int x5), (7, .int x7)] (lt_nl hnl (by decide)) rfl 99 rfl ?_
    refine A_iinc (v := (x7 + 1)) C dX9_askOf_99 7 rfl rfl [(7, .int (x7 + 1)), (6, .int y3), (0, .ref (K.2.1 x0)), (1, .int x1), (2, .int x2), (3, .int x3), (4, .int x4), (5, .int x5)] (lt_nl hnl (by decide)) rfl 102 rfl ?_
    refine A_goto C dX9_askOf_102 41 (by decide) ?_
    refine A_sub [2, 3, 4, 5, 6, 7, 1, 0] (lv' := [(0, .ref (K.2.1 x0)), (1, .int x1), (2, .int x2), (3, .int x3), (4, .int x4), (5, .int x5), (6, .int y3), (7, .int (x7 + 1))]) rfl ?_
    exact Hself41 _ _ _ hf
  refine A_iconst (v := 1) C dX9_askOf_91 (by decide) 92 rfl ?_
  refine A_goto C dX9_askOf_92 96 (by decide) ?_
  refine A_iadd C dX9_askOf_96 97 rfl ?_
  refine A_namI hf (fun y4 hf => ?_)
  refine A_istore C dX9_askOf_97 [(6, .int y4), (0, .ref (K.2.1 x0)), (1, .int x1), (2, .int x2), (3, .int x3), (4, .int x4), (5, .int x5), (7, .int x7)] (lt_nl hnl (by decide)) rfl 99 rfl ?_
  refine A_iinc (v := (x7 + 1)) C dX9_askOf_99 7 rfl rfl [(7, .int (x7 + 1)), (6, .int y4), (0, .ref (K.2.1 x0)), (1, .int x1), (2, .int x2), (3, .int x3), (4, .int x4), (5, .int x5)] (lt_nl hnl (by decide)) rfl 102 rfl ?_
  refine A_goto C dX9_askOf_102 41 (by decide) ?_
  refine A_sub [2, 3, 4, 5, 6, 7, 1, 0] (lv' := [(0, .ref (K.2.1 x0)), (1, .int x1), (2, .int x2), (3, .int x3), (4, .int x4), (5, .int x5), (6, .int y4), (7, .int (x7 + 1))]) rfl ?_
  exact Hself41 _ _ _ hf
set_option maxRecDepth 20000 in
theorem wX9_askOf_L24 {K : KX} {G : GX} (C : Ok K G 2 cX9_askOf RX9) (hnl : G.2.2.2.2.2.2.2.2.2.2.2.2.2 = 8) {rv : Int32} {hv : HH} (E : Endd K G (some .int) (some (.int rv)) hv) {x0 : Nat} {x1 : Int32} {x2 : Int32} {x3 : Int32} {k24_127 : Int32 → HH → Option (Int32 × HH)}  (Hk24_127 : ∀ (x4 : Int32) (h : HH), k24_127 x4 h = some (rv, hv) → At K G 127 [(0, .ref (K.2.1 x0)), (1, .int x1), (2, .int x2), (3, .int x3), (4, .int x4)] [] h) (kx0 : isK 9 x0) : ∀ (self24 : Int32 → Int32 → HH → Option (Int32 × HH)), (∀ (x4 : Int32) (x5 : Int32) (h : HH), self24 x4 x5 h = some (rv, hv) → At K G 24 [(0, .ref (K.2.1 x0)), (1, .int x1), (2, .int x2), (3, .int x3), (4, .int x4), (5, .int x5)] [] h) → ∀ (x4 : Int32) (x5 : Int32) (h : HH), fX9_askOf_L24 k24_127 x0 x1 x2 x3 self24 x4 x5 h = some (rv, hv) → At K G 24 [(0, .ref (K.2.1 x0)), (1, .int x1), (2, .int x2), (3, .int x3), (4, .int x4), (5, .int x5)] [] h := by
  intro self24 Hself24 x4 x5 h hf
  unfold fX9_askOf_L24 at hf
  refine A_iload C dX9_askOf_24 5 rfl 26 rfl ?_
  refine A_aload_n C dX9_askOf_26 (i := 0) rfl 0 rfl 27 rfl ?_
  refine gfRX9_20 C kx0 dX9_askOf_27 30 rfl ?_
  refine A_iconst (v := 0) C dX9_askOf_30 (by decide) 31 rfl ?_
  refine A_iald C dX9_askOf_31 (of_9_15 kx0) hf 32 rfl (fun hf => ?_)
  refine A_icmp_gt C dX9_askOf_32 127 (by decide) 35 rfl hf (fun c32 hf => ?_) (fun c32 hf => ?_)
  · refine A_sub [0, 1, 2, 3, 4] (lv' := [(0, .ref (K.2.1 x0)), (1, .int x1), (2, .int x2), (3, .int x3), (4, .int x4)]) rfl ?_
    exact Hk24_127 _ _ hf
  refine A_iconst (v := 0) C dX9_askOf_35 (by decide) 36 rfl ?_
  refine A_istore C dX9_askOf_36 [(6, .int 0), (0, .ref (K.2.1 x0)), (1, .int x1), (2, .int x2), (3, .int x3), (4, .int x4), (5, .int x5)] (lt_nl hnl (by decide)) rfl 38 rfl ?_
  refine A_iconst (v := 0) C dX9_askOf_38 (by decide) 39 rfl ?_
  refine A_istore C dX9_askOf_39 [(7, .int 0), (6, .int 0), (0, .ref (K.2.1 x0)), (1, .int x1), (2, .int x2), (3, .int x3), (4, .int x4), (5, .int x5)] (lt_nl hnl (by decide)) rfl 41 rfl ?_
  refine A_sub [2, 3, 4, 5, 6, 7, 1, 0] (lv' := [(0, .ref (K.2.1 x0)), (1, .int x1), (2, .int x2), (3, .int x3), (4, .int x4), (5, .int x5), (6, .int 0), (7, .int 0)]) rfl ?_
  refine lq2_at (wX9_askOf_L41 C hnl E (fun x6 h hf => ?_) kx0) FU _ _ _ hf
  refine A_iload C dX9_askOf_105 6 rfl 107 rfl ?_
  refine A_iload C dX9_askOf_107 4 rfl 109 rfl ?_
  refine A_icmp_le C dX9_askOf_109 117 (by decide) 112 rfl hf (fun c109 hf => ?_) (fun c109 hf => ?_)
  · refine A_iload C dX9_askOf_117 4 rfl 119 rfl ?_
    refine A_istore C dX9_askOf_119 [(4, .int x4), (0, .ref (K.2.1 x0)), (1, .int x1), (2, .int x2), (3, .int x3), (5, .int x5), (6, .int x6)] (lt_nl hnl (by decide)) rfl 121 rfl ?_
    refine A_iinc (v := (x5 + 1)) C dX9_askOf_121 5 rfl rfl [(5, .int (x5 + 1)), (4, .int x4), (0, .ref (K.2.1 x0)), (1, .int x1), (2, .int x2), (3, .int x3), (6, .int x6)] (lt_nl hnl (by decide)) rfl 124 rfl ?_
    refine A_goto C dX9_askOf_124 24 (by decide) ?_
    refine A_sub [2, 3, 4, 5, 1, 0] (lv' := [(0, .ref (K.2.1 x0)), (1, .int x1), (2, .int x2), (3, .int x3), (4, .int x4), (5, .int (x5 + 1))]) rfl ?_
    exact Hself24 _ _ _ hf
  refine A_iload C dX9_askOf_112 6 rfl 114 rfl ?_
  refine A_goto C dX9_askOf_114 119 (by decide) ?_
  refine A_istore C dX9_askOf_119 [(4, .int x6), (0, .ref (K.2.1 x0)), (1, .int x1), (2, .int x2), (3, .int x3), (5, .int x5), (6, .int x6)] (lt_nl hnl (by decide)) rfl 121 rfl ?_
  refine A_iinc (v := (x5 + 1)) C dX9_askOf_121 5 rfl rfl [(5, .int (x5 + 1)), (4, .int x6), (0, .ref (K.2.1 x0)), (1, .int x1), (2, .int x2), (3, .int x3), (6, .int x6)] (lt_nl hnl (by decide)) rfl 124 rfl ?_
  refine A_goto C dX9_askOf_124 24 (by decide) ?_
  refine A_sub [2, 3, 4, 5, 1, 0] (lv' := [(0, .ref (K.2.1 x0)), (1, .int x1), (2, .int x2), (3, .int x3), (4, .int x6), (5, .int (x5 + 1))]) rfl ?_
  exact Hself24 _ _ _ hf
set_option maxRecDepth 20000 in
theorem wX9_askOf_L11 {K : KX} {G : GX} (C : Ok K G 2 cX9_askOf RX9) (hnl : G.2.2.2.2.2.2.2.2.2.2.2.2.2 = 8) {rv : Int32} {hv : HH} (E : Endd K G (some .int) (some (.int rv)) hv) {x0 : Nat} {x1 : Int32}   (kx0 : isK 9 x0) : ∀ (self11 : Int32 → Int32 → HH → Option (Int32 × HH)), (∀ (x2 : Int32) (x3 : Int32) (h : HH), self11 x2 x3 h = some (rv, hv) → At K G 11 [(0, .ref (K.2.1 x0)), (1, .int x1), (2, .int x2), (3, .int x3)] [] h) → ∀ (x2 : Int32) (x3 : Int32) (h : HH), fX9_askOf_L11 x0 x1 self11 x2 x3 h = some (rv, hv) → At K G 11 [(0, .ref (K.2.1 x0)), (1, .int x1), (2, .int x2), (3, .int x3)] [] h := by
  intro self11 Hself11 x2 x3 h hf
  unfold fX9_askOf_L11 at hf
  refine A_iload_n C dX9_askOf_11 (i := 3) rfl 3 rfl 12 rfl ?_
  refine A_sipush (v := 9999) C dX9_askOf_12 (by decide) 15 rfl ?_
  refine A_icmp_gt C dX9_askOf_15 153 (by decide) 18 rfl hf (fun c15 hf => ?_) (fun c15 hf => ?_)
  · refine A_iload_n C dX9_askOf_153 (i := 2) rfl 2 rfl 154 rfl ?_
    exact A_iret C dX9_askOf_154 E hf
  refine A_iconst (v := 0) C dX9_askOf_18 (by decide) 19 rfl ?_
  refine A_istore C dX9_askOf_19 [(4, .int 0), (0, .ref (K.2.1 x0)), (1, .int x1), (2, .int x2), (3, .int x3)] (lt_nl hnl (by decide)) rfl 21 rfl ?_
  refine A_iconst (v := 0) C dX9_askOf_21 (by decide) 22 rfl ?_
  refine A_istore C dX9_askOf_22 [(5, .int 0), (4, .int 0), (0, .ref (K.2.1 x0)), (1, .int x1), (2, .int x2), (3, .int x3)] (lt_nl hnl (by decide)) rfl 24 rfl ?_
  refine A_sub [2, 3, 4, 5, 1, 0] (lv' := [(0, .ref (K.2.1 x0)), (1, .int x1), (2, .int x2), (3, .int x3), (4, .int 0), (5, .int 0)]) rfl ?_
  refine lq2_at (wX9_askOf_L24 C hnl E (fun x4 h hf => ?_) kx0) FU _ _ _ hf
  refine A_iload C dX9_askOf_127 4 rfl 129 rfl ?_
  refine A_aload_n C dX9_askOf_129 (i := 0) rfl 0 rfl 130 rfl ?_
  refine gfRX9_446 C kx0 dX9_askOf_130 133 rfl ?_
  refine A_icmp_lt C dX9_askOf_133 139 (by decide) 136 rfl hf (fun c133 hf => ?_) (fun c133 hf => ?_)
  · refine A_aload_n C dX9_askOf_139 (i := 0) rfl 0 rfl 140 rfl ?_
    refine A_iload C dX9_askOf_140 4 rfl 142 rfl ?_
    refine pfRX9_446 C kx0 dX9_askOf_142 145 rfl ?_
    refine A_iload_n C dX9_askOf_145 (i := 3) rfl 3 rfl 146 rfl ?_
    refine A_istore_n C dX9_askOf_146 (i := 2) rfl [(2, .int x3), (0, .ref (K.2.1 x0)), (1, .int x1), (3, .int x3), (4, .int x4)] (lt_nl hnl (by decide)) rfl 147 rfl ?_
    refine A_iinc (v := (x3 + 1)) C dX9_askOf_147 3 rfl rfl [(3, .int (x3 + 1)), (2, .int x3), (0, .ref (K.2.1 x0)), (1, .int x1), (4, .int x4)] (lt_nl hnl (by decide)) rfl 150 rfl ?_
    refine A_goto C dX9_askOf_150 11 (by decide) ?_
    refine A_sub [2, 3, 1, 0] (lv' := [(0, .ref (K.2.1 x0)), (1, .int x1), (2, .int x3), (3, .int (x3 + 1))]) rfl ?_
    exact Hself11 _ _ _ hf
  refine A_goto C dX9_askOf_136 147 (by decide) ?_
  refine A_iinc (v := (x3 + 1)) C dX9_askOf_147 3 rfl rfl [(3, .int (x3 + 1)), (0, .ref (K.2.1 x0)), (1, .int x1), (2, .int x2), (4, .int x4)] (lt_nl hnl (by decide)) rfl 150 rfl ?_
  refine A_goto C dX9_askOf_150 11 (by decide) ?_
  refine A_sub [1, 2, 3, 0] (lv' := [(0, .ref (K.2.1 x0)), (1, .int x1), (2, .int x2), (3, .int (x3 + 1))]) rfl ?_
  exact Hself11 _ _ _ hf
set_option maxRecDepth 20000 in
theorem mX9_askOf {K : KX} {x0 : Nat} {x1 : Int32} (k0 : isK 9 x0) {h : HH} {rv : Int32} {hv : HH} (hf : fX9_askOf x0 x1 h = some (rv, hv)) : MR K yX9_askOf cX9_askOf 8 (some .int) 2 [.ref (K.2.1 x0), .int x1] h (some (.int rv)) hv := by
  refine MR_of (by decide) (Nat.le_of_ble_eq_true rfl) (fun G C E hnl => ?_)
  have C : Ok K G 2 cX9_askOf RX9 := C
  refine (show At K G 0 [(0, .ref (K.2.1 x0)), (1, .int x1)] [] h from ?_)
  unfold fX9_askOf at hf
  refine A_iconst (v := (-1)) C dX9_askOf_0 (by decide) 1 rfl ?_
  refine A_istore_n C dX9_askOf_1 (i := 2) rfl [(2, .int (-1)), (0, .ref (K.2.1 x0)), (1, .int x1)] (lt_nl hnl (by decide)) rfl 2 rfl ?_
  refine A_aload_n C dX9_askOf_2 (i := 0) rfl 1 rfl 3 rfl ?_
  refine A_ldcw C dX9_askOf_3 cRX9_445 6 rfl ?_
  refine pfRX9_446 C k0 dX9_askOf_6 9 rfl ?_
  refine A_iconst (v := 1) C dX9_askOf_9 (by decide) 10 rfl ?_
  refine A_istore_n C dX9_askOf_10 (i := 3) rfl [(3, .int 1), (2, .int (-1)), (0, .ref (K.2.1 x0)), (1, .int x1)] (lt_nl hnl (by decide)) rfl 11 rfl ?_
  refine A_sub [2, 3, 1, 0] (lv' := [(0, .ref (K.2.1 x0)), (1, .int x1), (2, .int (-1)), (3, .int 1)]) rfl ?_
  refine lq2_at (wX9_askOf_L11 C hnl E k0) FU _ _ _ hf
set_option maxRecDepth 20000 in
theorem mX9_askWhy {K : KX} {x0 : Nat} (k0 : isK 9 x0) {h : HH} {rv : Int32} {hv : HH} (hf : fX9_askWhy x0 h = some (rv, hv)) : MR K yX9_askWhy cX9_askWhy 1 (some .int) 4 [.ref (K.2.1 x0)] h (some (.int rv)) hv := by
  refine MR_of (by decide) (Nat.le_of_ble_eq_true rfl) (fun G C E hnl => ?_)
  have C : Ok K G 4 cX9_askWhy RX9 := C
  refine (show At K G 0 [(0, .ref (K.2.1 x0))] [] h from ?_)
  unfold fX9_askWhy at hf
  refine A_aload_n C dX9_askWhy_0 (i := 0) rfl 0 rfl 1 rfl ?_
  refine gfRX9_204 C k0 dX9_askWhy_1 4 rfl ?_
  refine A_if_ne C dX9_askWhy_4 11 (by decide) 7 rfl hf (fun c4 hf => ?_) (fun c4 hf => ?_)
  · refine A_aload_n C dX9_askWhy_11 (i := 0) rfl 0 rfl 12 rfl ?_
    refine CVi C dX9_askWhy_12 9 k0 (by decide) (r := (RX9, TX9, 44)) rfl rfl hf (fun _ _ e => mX9_deepOnes k0 e) lkRX9_442 (by decide) (by decide) rfl [] rfl (Nat.le_of_ble_eq_true rfl) 15 rfl (fun r12 h12 hf => ?_)
    refine CSi C dX9_askWhy_15 hf (fun _ _ e => mX9_ones  e) lkRX9_449 (by decide) (by decide) rfl [] rfl (Nat.le_of_ble_eq_true rfl) 18 rfl (fun r15 h15 hf => ?_)
    refine A_iconst (v := 2) C dX9_askWhy_18 (by decide) 19 rfl ?_
    refine A_icmp_ge C dX9_askWhy_19 27 (by decide) 22 rfl hf (fun c19 hf => ?_) (fun c19 hf => ?_)
    · refine A_iconst (v := 0) C dX9_askWhy_27 (by decide) 28 rfl ?_
      exact A_iret C dX9_askWhy_28 E hf
    refine A_bipush (v := 6) C dX9_askWhy_22 (by decide) 24 rfl ?_
    refine A_goto C dX9_askWhy_24 28 (by decide) ?_
    exact A_iret C dX9_askWhy_28 E hf
  refine A_iconst (v := 1) C dX9_askWhy_7 (by decide) 8 rfl ?_
  refine A_goto C dX9_askWhy_8 28 (by decide) ?_
  exact A_iret C dX9_askWhy_28 E hf
set_option maxRecDepth 20000 in
theorem mX9_ask {K : KX} {x0 : Nat} (k0 : isK 9 x0) {h : HH} {rv : Int32} {hv : HH} (hf : fX9_ask x0 h = some (rv, hv)) : MR K yX9_ask cX9_ask 2 (some .int) 5 [.ref (K.2.1 x0)] h (some (.int rv)) hv := by
  refine MR_of (by decide) (Nat.le_of_ble_eq_true rfl) (fun G C E hnl => ?_)
  have C : Ok K G 5 cX9_ask RX9 := C
  refine (show At K G 0 [(0, .ref (K.2.1 x0))] [] h from ?_)
  unfold fX9_ask at hf
  refine A_aload_n C dX9_ask_0 (i := 0) rfl 0 rfl 1 rfl ?_
  refine CVv C dX9_ask_1 9 k0 (by decide) (r := (RX9, TX9, 44)) rfl rfl hf (fun _ e => mX9_good k0 e) lkRX9_191 (by decide) (by decide) rfl [] rfl (Nat.le_of_ble_eq_true rfl) 4 rfl (fun h1 hf => ?_)
  refine A_aload_n C dX9_ask_4 (i := 0) rfl 0 rfl 5 rfl ?_
  refine CVi C dX9_ask_5 9 k0 (by decide) (r := (RX9, TX9, 44)) rfl rfl hf (fun _ _ e => mX9_askWhy k0 e) lkRX9_452 (by decide) (by decide) rfl [] rfl (Nat.le_of_ble_eq_true rfl) 8 rfl (fun r5 h5 hf => ?_)
  refine A_istore_n C dX9_ask_8 (i := 1) rfl [(1, .int r5), (0, .ref (K.2.1 x0))] (lt_nl hnl (by decide)) rfl 9 rfl ?_
  refine A_iload_n C dX9_ask_9 (i := 1) rfl 0 rfl 10 rfl ?_
  refine A_if_eq C dX9_ask_10 21 (by decide) 13 rfl hf (fun c10 hf => ?_) (fun c10 hf => ?_)
  · refine A_aload_n C dX9_ask_21 (i := 0) rfl 1 rfl 22 rfl ?_
    refine A_aload_n C dX9_ask_22 (i := 0) rfl 1 rfl 23 rfl ?_
    refine CVi C dX9_ask_23 9 k0 (by decide) (r := (RX9, TX9, 44)) rfl rfl hf (fun _ _ e => mX9_deepOnes k0 e) lkRX9_442 (by decide) (by decide) rfl [.ref (K.2.1 x0)] rfl (Nat.le_of_ble_eq_true rfl) 26 rfl (fun r23 h23 hf => ?_)
    refine CVi C dX9_ask_26 9 k0 (by decide) (r := (RX9, TX9, 44)) rfl rfl hf (fun _ _ e => mX9_askOf k0 e) lkRX9_455 (by decide) (by decide) rfl [] rfl (Nat.le_of_ble_eq_true rfl) 29 rfl (fun r26 h26 hf => ?_)
    exact A_iret C dX9_ask_29 E hf
  refine A_aload_n C dX9_ask_13 (i := 0) rfl 1 rfl 14 rfl ?_
  refine A_iload_n C dX9_ask_14 (i := 1) rfl 0 rfl 15 rfl ?_
  refine CVi C dX9_ask_15 9 k0 (by decide) (r := (RX9, TX9, 44)) rfl rfl hf (fun _ _ e => mX9_no k0 e) lkRX9_194 (by decide) (by decide) rfl [] rfl (Nat.le_of_ble_eq_true rfl) 18 rfl (fun r15 h15 hf => ?_)
  refine A_goto C dX9_ask_18 29 (by decide) ?_
  exact A_iret C dX9_ask_29 E hf
set_option maxRecDepth 20000 in
theorem mX9_askMost {K : KX} {x0 : Nat} (k0 : isK 9 x0) {h : HH} {rv : Int32} {hv : HH} (hf : fX9_askMost x0 h = some (rv, hv)) : MR K yX9_askMost cX9_askMost 2 (some .int) 5 [.ref (K.2.1 x0)] h (some (.int rv)) hv := by
  refine MR_of (by decide) (Nat.le_of_ble_eq_true rfl) (fun G C E hnl => ?_)
  have C : Ok K G 5 cX9_askMost RX9 := C
  refine (show At K G 0 [(0, .ref (K.2.1 x0))] [] h from ?_)
  unfold fX9_askMost at hf
  refine A_aload_n C dX9_askMost_0 (i := 0) rfl 0 rfl 1 rfl ?_
  refine CVv C dX9_askMost_1 9 k0 (by decide) (r := (RX9, TX9, 44)) rfl rfl hf (fun _ e => mX9_good k0 e) lkRX9_191 (by decide) (by decide) rfl [] rfl (Nat.le_of_ble_eq_true rfl) 4 rfl (fun h1 hf => ?_)
  refine A_aload_n C dX9_askMost_4 (i := 0) rfl 0 rfl 5 rfl ?_
  refine CVi C dX9_askMost_5 9 k0 (by decide) (r := (RX9, TX9, 44)) rfl rfl hf (fun _ _ e => mX9_askWhy k0 e) lkRX9_452 (by decide) (by decide) rfl [] rfl (Nat.le_of_ble_eq_true rfl) 8 rfl (fun r5 h5 hf => ?_)
  refine A_istore_n C dX9_askMost_8 (i := 1) rfl [(1, .int r5), (0, .ref (K.2.1 x0))] (lt_nl hnl (by decide)) rfl 9 rfl ?_
  refine A_iload_n C dX9_askMost_9 (i := 1) rfl 0 rfl 10 rfl ?_
  refine A_if_eq C dX9_askMost_10 19 (by decide) 13 rfl hf (fun c10 hf => ?_) (fun c10 hf => ?_)
  · refine A_aload_n C dX9_askMost_19 (i := 0) rfl 1 rfl 20 rfl ?_
    refine A_aload_n C dX9_askMost_20 (i := 0) rfl 1 rfl 21 rfl ?_
    refine CVi C dX9_askMost_21 9 k0 (by decide) (r := (RX9, TX9, 44)) rfl rfl hf (fun _ _ e => mX9_deepOnes k0 e) lkRX9_442 (by decide) (by decide) rfl [.ref (K.2.1 x0)] rfl (Nat.le_of_ble_eq_true rfl) 24 rfl (fun r21 h21 hf => ?_)
    refine CVi C dX9_askMost_24 9 k0 (by decide) (r := (RX9, TX9, 44)) rfl rfl hf (fun _ _ e => mX9_askOf k0 e) lkRX9_455 (by decide) (by decide) rfl [] rfl (Nat.le_of_ble_eq_true rfl) 27 rfl (fun r24 h24 hf => ?_)
    refine A_pop C dX9_askMost_27 rfl 28 rfl ?_
    refine A_aload_n C dX9_askMost_28 (i := 0) rfl 1 rfl 29 rfl ?_
    refine gfRX9_446 C k0 dX9_askMost_29 32 rfl ?_
    exact A_iret C dX9_askMost_32 E hf
  refine A_aload_n C dX9_askMost_13 (i := 0) rfl 1 rfl 14 rfl ?_
  refine A_iload_n C dX9_askMost_14 (i := 1) rfl 0 rfl 15 rfl ?_
  refine CVi C dX9_askMost_15 9 k0 (by decide) (r := (RX9, TX9, 44)) rfl rfl hf (fun _ _ e => mX9_no k0 e) lkRX9_194 (by decide) (by decide) rfl [] rfl (Nat.le_of_ble_eq_true rfl) 18 rfl (fun r15 h15 hf => ?_)
  exact A_iret C dX9_askMost_18 E hf
set_option maxRecDepth 20000 in
theorem mX9_isUpward {K : KX} {x0 : Nat} {x1 : Int32} {x2 : Int32} (k0 : isK 9 x0) {h : HH} {rv : Bool} {hv : HH} (hf : fX9_isUpward x0 x1 x2 h = some (rv, hv)) : MR K yX9_isUpward cX9_isUpward 3 (some .boolean) 3 [.ref (K.2.1 x0), .int x1, .int x2] h (some (.int (b2i rv))) hv := by
  refine MR_of (by decide) (Nat.le_of_ble_eq_true rfl) (fun G C E hnl => ?_)
  have C : Ok K G 3 cX9_isUpward RX9 := C
  refine (show At K G 0 [(0, .ref (K.2.1 x0)), (1, .int x1), (2, .int x2)] [] h from ?_)
  unfold fX9_isUpward at hf
  refine A_aload_n C dX9_isUpward_0 (i := 0) rfl 0 rfl 1 rfl ?_
  refine A_iload_n C dX9_isUpward_1 (i := 1) rfl 1 rfl 2 rfl ?_
  refine CVz C dX9_isUpward_2 9 k0 (by decide) (r := (RX9, TX9, 44)) rfl rfl hf (fun _ _ e => mX9_isFloor k0 e) lkRX9_350 (by decide) (by decide) rfl [] rfl (Nat.le_of_ble_eq_true rfl) 5 rfl (fun r2 h2 hf => ?_)
  refine A_z_eq C dX9_isUpward_5 25 (by decide) 8 rfl hf (fun c5 hf => ?_) (fun c5 hf => ?_)
  · refine A_iconst (v := 0) C dX9_isUpward_25 (by decide) 26 rfl ?_
    exact A_zret (x := false) C dX9_isUpward_26 E hf
  refine A_aload_n C dX9_isUpward_8 (i := 0) rfl 0 rfl 9 rfl ?_
  refine A_iload_n C dX9_isUpward_9 (i := 2) rfl 2 rfl 10 rfl ?_
  refine CVz C dX9_isUpward_10 9 k0 (by decide) (r := (RX9, TX9, 44)) rfl rfl hf (fun _ _ e => mX9_isFloor k0 e) lkRX9_350 (by decide) (by decide) rfl [] rfl (Nat.le_of_ble_eq_true rfl) 13 rfl (fun r10 h10 hf => ?_)
  refine A_z_eq C dX9_isUpward_13 25 (by decide) 16 rfl hf (fun c13 hf => ?_) (fun c13 hf => ?_)
  · refine A_iconst (v := 0) C dX9_isUpward_25 (by decide) 26 rfl ?_
    exact A_zret (x := false) C dX9_isUpward_26 E hf
  refine A_iload_n C dX9_isUpward_16 (i := 2) rfl 2 rfl 17 rfl ?_
  refine A_iload_n C dX9_isUpward_17 (i := 1) rfl 1 rfl 18 rfl ?_
  refine A_icmp_ge C dX9_isUpward_18 25 (by decide) 21 rfl hf (fun c18 hf => ?_) (fun c18 hf => ?_)
  · refine A_iconst (v := 0) C dX9_isUpward_25 (by decide) 26 rfl ?_
    exact A_zret (x := false) C dX9_isUpward_26 E hf
  refine A_iconst (v := 1) C dX9_isUpward_21 (by decide) 22 rfl ?_
  refine A_goto C dX9_isUpward_22 26 (by decide) ?_
  exact A_zret (x := true) C dX9_isUpward_26 E hf
set_option maxRecDepth 20000 in
theorem mX9_ratio {K : KX} {x0 : Nat} {x1 : Int32} {x2 : Int32} (k0 : isK 9 x0) {h : HH} {rv : Int32} {hv : HH} (hf : fX9_ratio x0 x1 x2 h = some (rv, hv)) : MR K yX9_ratio cX9_ratio 3 (some .int) 2 [.ref (K.2.1 x0), .int x1, .int x2] h (some (.int rv)) hv := by
  refine MR_of (by decide) (Nat.le_of_ble_eq_true rfl) (fun G C E hnl => ?_)
  have C : Ok K G 2 cX9_ratio RX9 := C
  refine (show At K G 0 [(0, .ref (K.2.1 x0)), (1, .int x1), (2, .int x2)] [] h from ?_)
  unfold fX9_ratio at hf
  refine A_aload_n C dX9_ratio_0 (i := 0) rfl 0 rfl 1 rfl ?_
  refine A_iload_n C dX9_ratio_1 (i := 1) rfl 1 rfl 2 rfl ?_
  refine CVi C dX9_ratio_2 9 k0 (by decide) (r := (RX9, TX9, 44)) rfl rfl hf (fun _ _ e => mX9_quickOf k0 e) lkRX9_304 (by decide) (by decide) rfl [] rfl (Nat.le_of_ble_eq_true rfl) 5 rfl (fun r2 h2 hf => ?_)
  refine A_aload_n C dX9_ratio_5 (i := 0) rfl 0 rfl 6 rfl ?_
  refine A_iload_n C dX9_ratio_6 (i := 2) rfl 2 rfl 7 rfl ?_
  refine CVi C dX9_ratio_7 9 k0 (by decide) (r := (RX9, TX9, 44)) rfl rfl hf (fun _ _ e => mX9_quickOf k0 e) lkRX9_304 (by decide) (by decide) rfl [.int r2] rfl (Nat.le_of_ble_eq_true rfl) 10 rfl (fun r7 h7 hf => ?_)
  refine A_idivG C dX9_ratio_10 hf 11 rfl (fun hf => ?_)
  exact A_iret C dX9_ratio_11 E hf
set_option maxRecDepth 20000 in
theorem mX9_letter {K : KX} {x0 : Nat} {x1 : Int32} {x2 : Int32} {x3 : Int32} (k0 : isK 9 x0) {h : HH} {rv : Int32} {hv : HH} (hf : fX9_letter x0 x1 x2 x3 h = some (rv, hv)) : MR K yX9_letter cX9_letter 4 (some .int) 4 [.ref (K.2.1 x0), .int x1, .int x2, .int x3] h (some (.int rv)) hv := by
  refine MR_of (by decide) (Nat.le_of_ble_eq_true rfl) (fun G C E hnl => ?_)
  have C : Ok K G 4 cX9_letter RX9 := C
  refine (show At K G 0 [(0, .ref (K.2.1 x0)), (1, .int x1), (2, .int x2), (3, .int x3)] [] h from ?_)
  unfold fX9_letter at hf
  refine A_aload_n C dX9_letter_0 (i := 0) rfl 0 rfl 1 rfl ?_
  refine CVv C dX9_letter_1 9 k0 (by decide) (r := (RX9, TX9, 44)) rfl rfl hf (fun _ e => mX9_good k0 e) lkRX9_191 (by decide) (by decide) rfl [] rfl (Nat.le_of_ble_eq_true rfl) 4 rfl (fun h1 hf => ?_)
  refine A_aload_n C dX9_letter_4 (i := 0) rfl 0 rfl 5 rfl ?_
  refine A_iload_n C dX9_letter_5 (i := 1) rfl 1 rfl 6 rfl ?_
  refine A_iload_n C dX9_letter_6 (i := 2) rfl 2 rfl 7 rfl ?_
  refine CVz C dX9_letter_7 9 k0 (by decide) (r := (RX9, TX9, 44)) rfl rfl hf (fun _ _ e => mX9_isUpward k0 e) lkRX9_458 (by decide) (by decide) rfl [] rfl (Nat.le_of_ble_eq_true rfl) 10 rfl (fun r7 h7 hf => ?_)
  refine A_z_ne C dX9_letter_10 19 (by decide) 13 rfl hf (fun c10 hf => ?_) (fun c10 hf => ?_)
  · refine A_iload_n C dX9_letter_19 (i := 3) rfl 3 rfl 20 rfl ?_
    refine A_iconst (v := 0) C dX9_letter_20 (by decide) 21 rfl ?_
    refine A_sipush (v := 9999) C dX9_letter_21 (by decide) 24 rfl ?_
    refine CSz C dX9_letter_24 hf (fun _ _ e => mX9_within  e) lkRX9_170 (by decide) (by decide) rfl [] rfl (Nat.le_of_ble_eq_true rfl) 27 rfl (fun r24 h24 hf => ?_)
    refine A_z_eq C dX9_letter_27 41 (by decide) 30 rfl hf (fun c27 hf => ?_) (fun c27 hf => ?_)
    · refine A_aload_n C dX9_letter_41 (i := 0) rfl 0 rfl 42 rfl ?_
      refine A_iconst (v := 2) C dX9_letter_42 (by decide) 43 rfl ?_
      refine CVi C dX9_letter_43 9 k0 (by decide) (r := (RX9, TX9, 44)) rfl rfl hf (fun _ _ e => mX9_no k0 e) lkRX9_194 (by decide) (by decide) rfl [] rfl (Nat.le_of_ble_eq_true rfl) 46 rfl (fun r43 h43 hf => ?_)
      exact A_iret C dX9_letter_46 E hf
    refine A_iload_n C dX9_letter_30 (i := 3) rfl 3 rfl 31 rfl ?_
    refine A_aload_n C dX9_letter_31 (i := 0) rfl 0 rfl 32 rfl ?_
    refine A_iload_n C dX9_letter_32 (i := 1) rfl 1 rfl 33 rfl ?_
    refine A_iload_n C dX9_letter_33 (i := 2) rfl 2 rfl 34 rfl ?_
    refine CVi C dX9_letter_34 9 k0 (by decide) (r := (RX9, TX9, 44)) rfl rfl hf (fun _ _ e => mX9_ratio k0 e) lkRX9_461 (by decide) (by decide) rfl [.int x3] rfl (Nat.le_of_ble_eq_true rfl) 37 rfl (fun r34 h34 hf => ?_)
    refine A_idivG C dX9_letter_37 hf 38 rfl (fun hf => ?_)
    refine A_goto C dX9_letter_38 46 (by decide) ?_
    exact A_iret C dX9_letter_46 E hf
  refine A_aload_n C dX9_letter_13 (i := 0) rfl 0 rfl 14 rfl ?_
  refine A_iconst (v := 1) C dX9_letter_14 (by decide) 15 rfl ?_
  refine CVi C dX9_letter_15 9 k0 (by decide) (r := (RX9, TX9, 44)) rfl rfl hf (fun _ _ e => mX9_no k0 e) lkRX9_194 (by decide) (by decide) rfl [] rfl (Nat.le_of_ble_eq_true rfl) 18 rfl (fun r15 h15 hf => ?_)
  exact A_iret C dX9_letter_18 E hf
set_option maxRecDepth 20000 in
theorem wX9_tells_L60 {K : KX} {G : GX} (C : Ok K G 4 cX9_tells RX9) (hnl : G.2.2.2.2.2.2.2.2.2.2.2.2.2 = 7) {rv : Int32} {hv : HH} (E : Endd K G (some .int) (some (.int rv)) hv) {x4 : Int32}    : ∀ (self60 : Int32 → Int32 → HH → Option (Int32 × HH)), (∀ (x5 : Int32) (x6 : Int32) (h : HH), self60 x5 x6 h = some (rv, hv) → At K G 60 [(4, .int x4), (5, .int x5), (6, .int x6)] [] h) → ∀ (x5 : Int32) (x6 : Int32) (h : HH), fX9_tells_L60 x4 self60 x5 x6 h = some (rv, hv) → At K G 60 [(4, .int x4), (5, .int x5), (6, .int x6)] [] h := by
  intro self60 Hself60 x5 x6 h hf
  unfold fX9_tells_L60 at hf
  refine A_iload C dX9_tells_60 2 rfl 62 rfl ?_
  refine A_if_le C dX9_tells_62 86 (by decide) 65 rfl hf (fun c62 hf => ?_) (fun c62 hf => ?_)
  · refine A_iload C dX9_tells_86 1 rfl 88 rfl ?_
    refine A_ldcw C dX9_tells_88 cRX9_445 91 rfl ?_
    refine A_icmp_le C dX9_tells_91 100 (by decide) 94 rfl hf (fun c91 hf => ?_) (fun c91 hf => ?_)
    · refine A_iload C dX9_tells_100 1 rfl 102 rfl ?_
      exact A_iret C dX9_tells_102 E hf
    refine A_ldcw C dX9_tells_94 cRX9_445 97 rfl ?_
    refine A_goto C dX9_tells_97 102 (by decide) ?_
    exact A_iret C dX9_tells_102 E hf
  refine A_iload C dX9_tells_65 1 rfl 67 rfl ?_
  refine A_ldcw C dX9_tells_67 cRX9_445 70 rfl ?_
  refine A_icmp_ge C dX9_tells_70 86 (by decide) 73 rfl hf (fun c70 hf => ?_) (fun c70 hf => ?_)
  · refine A_iload C dX9_tells_86 1 rfl 88 rfl ?_
    refine A_ldcw C dX9_tells_88 cRX9_445 91 rfl ?_
    refine A_icmp_le C dX9_tells_91 100 (by decide) 94 rfl hf (fun c91 hf => ?_) (fun c91 hf => ?_)
    · refine A_iload C dX9_tells_100 1 rfl 102 rfl ?_
      exact A_iret C dX9_tells_102 E hf
    refine A_ldcw C dX9_tells_94 cRX9_445 97 rfl ?_
    refine A_goto C dX9_tells_97 102 (by decide) ?_
    exact A_iret C dX9_tells_102 E hf
  refine A_iload C dX9_tells_73 1 rfl 75 rfl ?_
  refine A_iload C dX9_tells_75 0 rfl 77 rfl ?_
  refine A_imul C dX9_tells_77 78 rfl ?_
  refine A_namI hf (fun y2 hf => ?_)
  refine A_istore C dX9_tells_78 [(5, .int y2), (4, .int x4), (6, .int x6)] (lt_nl hnl (by decide)) rfl 80 rfl ?_
  refine A_iinc (v := (x6 + (-1))) C dX9_tells_80 2 rfl rfl [(6, .int (x6 + (-1))), (5, .int y2), (4, .int x4)] (lt_nl hnl (by decide)) rfl 83 rfl ?_
  refine A_goto C dX9_tells_83 60 (by decide) ?_
  refine A_sub [2, 1, 0] (lv' := [(4, .int x4), (5, .int y2), (6, .int (x6 + (-1)))]) rfl ?_
  exact Hself60 _ _ _ hf
set_option maxRecDepth 20000 in
theorem mX9_tells {K : KX} {x0 : Nat} {x1 : Int32} {x2 : Int32} {x3 : Int32} {x4 : Int32} (k0 : isK 9 x0) {h : HH} {rv : Int32} {hv : HH} (hf : fX9_tells x0 x1 x2 x3 x4 h = some (rv, hv)) : MR K yX9_tells cX9_tells 7 (some .int) 4 [.ref (K.2.1 x0), .int x1, .int x2, .int x3, .int x4] h (some (.int rv)) hv := by
  refine MR_of (by decide) (Nat.le_of_ble_eq_true rfl) (fun G C E hnl => ?_)
  have C : Ok K G 4 cX9_tells RX9 := C
  refine (show At K G 0 [(0, .ref (K.2.1 x0)), (1, .int x1), (2, .int x2), (3, .int x3), (4, .int x4)] [] h from ?_)
  unfold fX9_tells at hf
  refine A_aload_n C dX9_tells_0 (i := 0) rfl 0 rfl 1 rfl ?_
  refine CVv C dX9_tells_1 9 k0 (by decide) (r := (RX9, TX9, 44)) rfl rfl hf (fun _ e => mX9_good k0 e) lkRX9_191 (by decide) (by decide) rfl [] rfl (Nat.le_of_ble_eq_true rfl) 4 rfl (fun h1 hf => ?_)
  refine A_aload_n C dX9_tells_4 (i := 0) rfl 0 rfl 5 rfl ?_
  refine A_iload_n C dX9_tells_5 (i := 1) rfl 1 rfl 6 rfl ?_
  refine A_iload_n C dX9_tells_6 (i := 2) rfl 2 rfl 7 rfl ?_
  refine CVz C dX9_tells_7 9 k0 (by decide) (r := (RX9, TX9, 44)) rfl rfl hf (fun _ _ e => mX9_isUpward k0 e) lkRX9_458 (by decide) (by decide) rfl [] rfl (Nat.le_of_ble_eq_true rfl) 10 rfl (fun r7 h7 hf => ?_)
  refine A_z_ne C dX9_tells_10 19 (by decide) 13 rfl hf (fun c10 hf => ?_) (fun c10 hf => ?_)
  · refine A_iload_n C dX9_tells_19 (i := 3) rfl 3 rfl 20 rfl ?_
    refine A_iconst (v := 0) C dX9_tells_20 (by decide) 21 rfl ?_
    refine A_sipush (v := 9999) C dX9_tells_21 (by decide) 24 rfl ?_
    refine CSz C dX9_tells_24 hf (fun _ _ e => mX9_within  e) lkRX9_170 (by decide) (by decide) rfl [] rfl (Nat.le_of_ble_eq_true rfl) 27 rfl (fun r24 h24 hf => ?_)
    refine A_z_eq C dX9_tells_27 41 (by decide) 30 rfl hf (fun c27 hf => ?_) (fun c27 hf => ?_)
    · refine A_aload_n C dX9_tells_41 (i := 0) rfl 0 rfl 42 rfl ?_
      refine A_iconst (v := 2) C dX9_tells_42 (by decide) 43 rfl ?_
      refine CVi C dX9_tells_43 9 k0 (by decide) (r := (RX9, TX9, 44)) rfl rfl hf (fun _ _ e => mX9_no k0 e) lkRX9_194 (by decide) (by decide) rfl [] rfl (Nat.le_of_ble_eq_true rfl) 46 rfl (fun r43 h43 hf => ?_)
      exact A_iret C dX9_tells_46 E hf
    refine A_iload C dX9_tells_30 4 rfl 32 rfl ?_
    refine A_iconst (v := 2) C dX9_tells_32 (by decide) 33 rfl ?_
    refine A_bipush (v := 26) C dX9_tells_33 (by decide) 35 rfl ?_
    refine CSz C dX9_tells_35 hf (fun _ _ e => mX9_within  e) lkRX9_170 (by decide) (by decide) rfl [] rfl (Nat.le_of_ble_eq_true rfl) 38 rfl (fun r35 h35 hf => ?_)
    refine A_z_ne C dX9_tells_38 47 (by decide) 41 rfl hf (fun c38 hf => ?_) (fun c38 hf => ?_)
    · refine A_iconst (v := 1) C dX9_tells_47 (by decide) 48 rfl ?_
      refine A_istore C dX9_tells_48 [(5, .int 1), (0, .ref (K.2.1 x0)), (1, .int x1), (2, .int x2), (3, .int x3), (4, .int x4)] (lt_nl hnl (by decide)) rfl 50 rfl ?_
      refine A_iload_n C dX9_tells_50 (i := 3) rfl 4 rfl 51 rfl ?_
      refine A_aload_n C dX9_tells_51 (i := 0) rfl 1 rfl 52 rfl ?_
      refine A_iload_n C dX9_tells_52 (i := 1) rfl 2 rfl 53 rfl ?_
      refine A_iload_n C dX9_tells_53 (i := 2) rfl 3 rfl 54 rfl ?_
      refine CVi C dX9_tells_54 9 k0 (by decide) (r := (RX9, TX9, 44)) rfl rfl hf (fun _ _ e => mX9_ratio k0 e) lkRX9_461 (by decide) (by decide) rfl [.int x3] rfl (Nat.le_of_ble_eq_true rfl) 57 rfl (fun r54 h54 hf => ?_)
      refine A_idivG C dX9_tells_57 hf 58 rfl (fun hf => ?_)
      refine A_namI hf (fun y1 hf => ?_)
      refine A_istore C dX9_tells_58 [(6, .int y1), (5, .int 1), (0, .ref (K.2.1 x0)), (1, .int x1), (2, .int x2), (3, .int x3), (4, .int x4)] (lt_nl hnl (by decide)) rfl 60 rfl ?_
      refine A_sub [6, 1, 0] (lv' := [(4, .int x4), (5, .int 1), (6, .int y1)]) rfl ?_
      refine lq2_at (wX9_tells_L60 C hnl E ) FU _ _ _ hf
    refine A_aload_n C dX9_tells_41 (i := 0) rfl 0 rfl 42 rfl ?_
    refine A_iconst (v := 2) C dX9_tells_42 (by decide) 43 rfl ?_
    refine CVi C dX9_tells_43 9 k0 (by decide) (r := (RX9, TX9, 44)) rfl rfl hf (fun _ _ e => mX9_no k0 e) lkRX9_194 (by decide) (by decide) rfl [] rfl (Nat.le_of_ble_eq_true rfl) 46 rfl (fun r43 h43 hf => ?_)
    exact A_iret C dX9_tells_46 E hf
  refine A_aload_n C dX9_tells_13 (i := 0) rfl 0 rfl 14 rfl ?_
  refine A_iconst (v := 1) C dX9_tells_14 (by decide) 15 rfl ?_
  refine CVi C dX9_tells_15 9 k0 (by decide) (r := (RX9, TX9, 44)) rfl rfl hf (fun _ _ e => mX9_no k0 e) lkRX9_194 (by decide) (by decide) rfl [] rfl (Nat.le_of_ble_eq_true rfl) 18 rfl (fun r15 h15 hf => ?_)
  exact A_iret C dX9_tells_18 E hf
set_option maxRecDepth 20000 in
theorem wX9_words_L55 {K : KX} {G : GX} (C : Ok K G 4 cX9_words RX9) (hnl : G.2.2.2.2.2.2.2.2.2.2.2.2.2 = 9) {rv : Int64} {hv : HH} (E : Endd K G (some .long) (some (.long rv)) hv) {x0 : Nat} {x1 : Int32} {x2 : Int32} {x3 : Int32} {x4 : Int32}   (kx0 : isK 9 x0) : ∀ (self55 : Int64 → Int64 → HH → Option (Int64 × HH)), (∀ (x5 : Int64) (x7 : Int64) (h : HH), self55 x5 x7 h = some (rv, hv) → At K G 55 [(0, .ref (K.2.1 x0)), (1, .int x1), (2, .int x2), (3, .int x3), (4, .int x4), (5, .long x5), (7, .long x7)] [] h) → ∀ (x5 : Int64) (x7 : Int64) (h : HH), fX9_words_L55 x0 x1 x2 x3 x4 self55 x5 x7 h = some (rv, hv) → At K G 55 [(0, .ref (K.2.1 x0)), (1, .int x1), (2, .int x2), (3, .int x3), (4, .int x4), (5, .long x5), (7, .long x7)] [] h := by
  intro self55 Hself55 x5 x7 h hf
  unfold fX9_words_L55 at hf
  refine A_lload C dX9_words_55 6 rfl 57 rfl ?_
  refine A_iload_n C dX9_words_57 (i := 3) rfl 3 rfl 58 rfl ?_
  refine A_i2l C dX9_words_58 59 rfl ?_
  refine A_l_ge C dX9_words_59 dX9_words_60 80 (by decide) 63 rfl hf (fun c59 hf => ?_) (fun c59 hf => ?_)
  · refine A_lload C dX9_words_80 5 rfl 82 rfl ?_
    refine A_aload_n C dX9_words_82 (i := 0) rfl 0 rfl 83 rfl ?_
    refine A_iload_n C dX9_words_83 (i := 1) rfl 1 rfl 84 rfl ?_
    refine A_iload_n C dX9_words_84 (i := 2) rfl 2 rfl 85 rfl ?_
    refine CVi C dX9_words_85 9 kx0 (by decide) (r := (RX9, TX9, 44)) rfl rfl hf (fun _ _ e => mX9_ratio kx0 e) lkRX9_461 (by decide) (by decide) rfl [.long x5] rfl (Nat.le_of_ble_eq_true rfl) 88 rfl (fun r85 h85 hf => ?_)
    refine A_i2l C dX9_words_88 89 rfl ?_
    refine A_lmul C dX9_words_89 90 rfl ?_
    exact A_lret C dX9_words_90 E hf
  refine A_lload C dX9_words_63 5 rfl 65 rfl ?_
  refine A_lconst (v := 1) C dX9_words_65 (by decide) 66 rfl ?_
  refine A_ladd C dX9_words_66 67 rfl ?_
  refine A_namL hf (fun y1 hf => ?_)
  refine A_lstore C dX9_words_67 [(5, .long y1), (0, .ref (K.2.1 x0)), (1, .int x1), (2, .int x2), (3, .int x3), (4, .int x4), (7, .long x7)] (lt_nl hnl (by decide)) rfl 69 rfl ?_
  refine A_lload C dX9_words_69 6 rfl 71 rfl ?_
  refine A_iload C dX9_words_71 5 rfl 73 rfl ?_
  refine A_i2l C dX9_words_73 74 rfl ?_
  refine A_lmul C dX9_words_74 75 rfl ?_
  refine A_namL hf (fun y2 hf => ?_)
  refine A_lstore C dX9_words_75 [(7, .long y2), (5, .long y1), (0, .ref (K.2.1 x0)), (1, .int x1), (2, .int x2), (3, .int x3), (4, .int x4)] (lt_nl hnl (by decide)) rfl 77 rfl ?_
  refine A_goto C dX9_words_77 55 (by decide) ?_
  refine A_sub [2, 3, 4, 5, 6, 1, 0] (lv' := [(0, .ref (K.2.1 x0)), (1, .int x1), (2, .int x2), (3, .int x3), (4, .int x4), (5, .long y1), (7, .long y2)]) rfl ?_
  exact Hself55 _ _ _ hf
set_option maxRecDepth 20000 in
theorem mX9_words {K : KX} {x0 : Nat} {x1 : Int32} {x2 : Int32} {x3 : Int32} {x4 : Int32} (k0 : isK 9 x0) {h : HH} {rv : Int64} {hv : HH} (hf : fX9_words x0 x1 x2 x3 x4 h = some (rv, hv)) : MR K yX9_words cX9_words 9 (some .long) 4 [.ref (K.2.1 x0), .int x1, .int x2, .int x3, .int x4] h (some (.long rv)) hv := by
  refine MR_of (by decide) (Nat.le_of_ble_eq_true rfl) (fun G C E hnl => ?_)
  have C : Ok K G 4 cX9_words RX9 := C
  refine (show At K G 0 [(0, .ref (K.2.1 x0)), (1, .int x1), (2, .int x2), (3, .int x3), (4, .int x4)] [] h from ?_)
  unfold fX9_words at hf
  refine A_aload_n C dX9_words_0 (i := 0) rfl 0 rfl 1 rfl ?_
  refine CVv C dX9_words_1 9 k0 (by decide) (r := (RX9, TX9, 44)) rfl rfl hf (fun _ e => mX9_good k0 e) lkRX9_191 (by decide) (by decide) rfl [] rfl (Nat.le_of_ble_eq_true rfl) 4 rfl (fun h1 hf => ?_)
  refine A_aload_n C dX9_words_4 (i := 0) rfl 0 rfl 5 rfl ?_
  refine A_iload_n C dX9_words_5 (i := 1) rfl 1 rfl 6 rfl ?_
  refine A_iload_n C dX9_words_6 (i := 2) rfl 2 rfl 7 rfl ?_
  refine CVz C dX9_words_7 9 k0 (by decide) (r := (RX9, TX9, 44)) rfl rfl hf (fun _ _ e => mX9_isUpward k0 e) lkRX9_458 (by decide) (by decide) rfl [] rfl (Nat.le_of_ble_eq_true rfl) 10 rfl (fun r7 h7 hf => ?_)
  refine A_z_ne C dX9_words_10 20 (by decide) 13 rfl hf (fun c10 hf => ?_) (fun c10 hf => ?_)
  · refine A_iload_n C dX9_words_20 (i := 3) rfl 3 rfl 21 rfl ?_
    refine A_iconst (v := 1) C dX9_words_21 (by decide) 22 rfl ?_
    refine A_ldcw C dX9_words_22 cRX9_445 25 rfl ?_
    refine CSz C dX9_words_25 hf (fun _ _ e => mX9_within  e) lkRX9_170 (by decide) (by decide) rfl [] rfl (Nat.le_of_ble_eq_true rfl) 28 rfl (fun r25 h25 hf => ?_)
    refine A_z_eq C dX9_words_28 42 (by decide) 31 rfl hf (fun c28 hf => ?_) (fun c28 hf => ?_)
    · refine A_aload_n C dX9_words_42 (i := 0) rfl 0 rfl 43 rfl ?_
      refine A_iconst (v := 2) C dX9_words_43 (by decide) 44 rfl ?_
      refine CVi C dX9_words_44 9 k0 (by decide) (r := (RX9, TX9, 44)) rfl rfl hf (fun _ _ e => mX9_no k0 e) lkRX9_194 (by decide) (by decide) rfl [] rfl (Nat.le_of_ble_eq_true rfl) 47 rfl (fun r44 h44 hf => ?_)
      refine A_i2l C dX9_words_47 48 rfl ?_
      exact A_lret C dX9_words_48 E hf
    refine A_iload C dX9_words_31 4 rfl 33 rfl ?_
    refine A_iconst (v := 2) C dX9_words_33 (by decide) 34 rfl ?_
    refine A_bipush (v := 26) C dX9_words_34 (by decide) 36 rfl ?_
    refine CSz C dX9_words_36 hf (fun _ _ e => mX9_within  e) lkRX9_170 (by decide) (by decide) rfl [] rfl (Nat.le_of_ble_eq_true rfl) 39 rfl (fun r36 h36 hf => ?_)
    refine A_z_ne C dX9_words_39 49 (by decide) 42 rfl hf (fun c39 hf => ?_) (fun c39 hf => ?_)
    · refine A_lconst (v := 0) C dX9_words_49 (by decide) 50 rfl ?_
      refine A_lstore C dX9_words_50 [(5, .long 0), (0, .ref (K.2.1 x0)), (1, .int x1), (2, .int x2), (3, .int x3), (4, .int x4)] (lt_nl hnl (by decide)) rfl 52 rfl ?_
      refine A_lconst (v := 1) C dX9_words_52 (by decide) 53 rfl ?_
      refine A_lstore C dX9_words_53 [(7, .long 1), (5, .long 0), (0, .ref (K.2.1 x0)), (1, .int x1), (2, .int x2), (3, .int x3), (4, .int x4)] (lt_nl hnl (by decide)) rfl 55 rfl ?_
      refine A_sub [2, 3, 4, 5, 6, 1, 0] (lv' := [(0, .ref (K.2.1 x0)), (1, .int x1), (2, .int x2), (3, .int x3), (4, .int x4), (5, .long 0), (7, .long 1)]) rfl ?_
      refine lq2_at (wX9_words_L55 C hnl E k0) FU _ _ _ hf
    refine A_aload_n C dX9_words_42 (i := 0) rfl 0 rfl 43 rfl ?_
    refine A_iconst (v := 2) C dX9_words_43 (by decide) 44 rfl ?_
    refine CVi C dX9_words_44 9 k0 (by decide) (r := (RX9, TX9, 44)) rfl rfl hf (fun _ _ e => mX9_no k0 e) lkRX9_194 (by decide) (by decide) rfl [] rfl (Nat.le_of_ble_eq_true rfl) 47 rfl (fun r44 h44 hf => ?_)
    refine A_i2l C dX9_words_47 48 rfl ?_
    exact A_lret C dX9_words_48 E hf
  refine A_aload_n C dX9_words_13 (i := 0) rfl 0 rfl 14 rfl ?_
  refine A_iconst (v := 1) C dX9_words_14 (by decide) 15 rfl ?_
  refine CVi C dX9_words_15 9 k0 (by decide) (r := (RX9, TX9, 44)) rfl rfl hf (fun _ _ e => mX9_no k0 e) lkRX9_194 (by decide) (by decide) rfl [] rfl (Nat.le_of_ble_eq_true rfl) 18 rfl (fun r15 h15 hf => ?_)
  refine A_i2l C dX9_words_18 19 rfl ?_
  exact A_lret C dX9_words_19 E hf
set_option maxRecDepth 20000 in
theorem mX9_tillThere {K : KX} {x0 : Nat} {x1 : Int32} {x2 : Int32} {x3 : Int32} (k0 : isK 9 x0) {h : HH} {rv : Int64} {hv : HH} (hf : fX9_tillThere x0 x1 x2 x3 h = some (rv, hv)) : MR K yX9_tillThere cX9_tillThere 4 (some .long) 5 [.ref (K.2.1 x0), .int x1, .int x2, .int x3] h (some (.long rv)) hv := by
  refine MR_of (by decide) (Nat.le_of_ble_eq_true rfl) (fun G C E hnl => ?_)
  have C : Ok K G 5 cX9_tillThere RX9 := C
  refine (show At K G 0 [(0, .ref (K.2.1 x0)), (1, .int x1), (2, .int x2), (3, .int x3)] [] h from ?_)
  unfold fX9_tillThere at hf
  refine A_aload_n C dX9_tillThere_0 (i := 0) rfl 0 rfl 1 rfl ?_
  refine A_aload_n C dX9_tillThere_1 (i := 0) rfl 0 rfl 2 rfl ?_
  refine A_iload_n C dX9_tillThere_2 (i := 1) rfl 1 rfl 3 rfl ?_
  refine A_iconst (v := 1) C dX9_tillThere_3 (by decide) 4 rfl ?_
  refine CVi C dX9_tillThere_4 9 k0 (by decide) (r := (RX9, TX9, 44)) rfl rfl hf (fun _ _ e => mX9_its k0 e) lkRX9_310 (by decide) (by decide) rfl [.ref (K.2.1 x0)] rfl (Nat.le_of_ble_eq_true rfl) 7 rfl (fun r4 h4 hf => ?_)
  refine A_iload_n C dX9_tillThere_7 (i := 2) rfl 2 rfl 8 rfl ?_
  refine A_iconst (v := 1) C dX9_tillThere_8 (by decide) 9 rfl ?_
  refine A_iadd C dX9_tillThere_9 10 rfl ?_
  refine A_icmp_ne C dX9_tillThere_10 22 (by decide) 13 rfl hf (fun c10 hf => ?_) (fun c10 hf => ?_)
  · refine A_iconst (v := 0) C dX9_tillThere_22 (by decide) 23 rfl ?_
    refine A_iload_n C dX9_tillThere_23 (i := 3) rfl 3 rfl 24 rfl ?_
    refine CVl C dX9_tillThere_24 9 k0 (by decide) (r := (RX9, TX9, 44)) rfl rfl hf (fun _ _ e => mX9_down k0 e) lkRX9_394 (by decide) (by decide) rfl [] rfl (Nat.le_of_ble_eq_true rfl) 27 rfl (fun r24 h24 hf => ?_)
    exact A_lret C dX9_tillThere_27 E hf
  refine A_aload_n C dX9_tillThere_13 (i := 0) rfl 0 rfl 14 rfl ?_
  refine A_iload_n C dX9_tillThere_14 (i := 1) rfl 1 rfl 15 rfl ?_
  refine A_iconst (v := 0) C dX9_tillThere_15 (by decide) 16 rfl ?_
  refine CVi C dX9_tillThere_16 9 k0 (by decide) (r := (RX9, TX9, 44)) rfl rfl hf (fun _ _ e => mX9_its k0 e) lkRX9_310 (by decide) (by decide) rfl [.ref (K.2.1 x0)] rfl (Nat.le_of_ble_eq_true rfl) 19 rfl (fun r16 h16 hf => ?_)
  refine A_goto C dX9_tillThere_19 23 (by decide) ?_
  refine A_iload_n C dX9_tillThere_23 (i := 3) rfl 3 rfl 24 rfl ?_
  refine CVl C dX9_tillThere_24 9 k0 (by decide) (r := (RX9, TX9, 44)) rfl rfl hf (fun _ _ e => mX9_down k0 e) lkRX9_394 (by decide) (by decide) rfl [] rfl (Nat.le_of_ble_eq_true rfl) 27 rfl (fun r24 h24 hf => ?_)
  exact A_lret C dX9_tillThere_27 E hf
set_option maxRecDepth 20000 in
theorem mX9_meetWhy {K : KX} {x0 : Nat} {x1 : Int32} {x2 : Int32} {x3 : Int32} (k0 : isK 9 x0) {h : HH} {rv : Int32} {hv : HH} (hf : fX9_meetWhy x0 x1 x2 x3 h = some (rv, hv)) : MR K yX9_meetWhy cX9_meetWhy 4 (some .int) 3 [.ref (K.2.1 x0), .int x1, .int x2, .int x3] h (some (.int rv)) hv := by
  refine MR_of (by decide) (Nat.le_of_ble_eq_true rfl) (fun G C E hnl => ?_)
  have C : Ok K G 3 cX9_meetWhy RX9 := C
  refine (show At K G 0 [(0, .ref (K.2.1 x0)), (1, .int x1), (2, .int x2), (3, .int x3)] [] h from ?_)
  unfold fX9_meetWhy at hf
  refine A_aload_n C dX9_meetWhy_0 (i := 0) rfl 0 rfl 1 rfl ?_
  refine A_iload_n C dX9_meetWhy_1 (i := 1) rfl 1 rfl 2 rfl ?_
  refine CVz C dX9_meetWhy_2 9 k0 (by decide) (r := (RX9, TX9, 44)) rfl rfl hf (fun _ _ e => mX9_isSleeper k0 e) lkRX9_353 (by decide) (by decide) rfl [] rfl (Nat.le_of_ble_eq_true rfl) 5 rfl (fun r2 h2 hf => ?_)
  refine A_z_eq C dX9_meetWhy_5 33 (by decide) 8 rfl hf (fun c5 hf => ?_) (fun c5 hf => ?_)
  · refine A_iconst (v := 1) C dX9_meetWhy_33 (by decide) 34 rfl ?_
    refine A_goto C dX9_meetWhy_34 38 (by decide) ?_
    exact A_iret C dX9_meetWhy_38 E hf
  refine A_aload_n C dX9_meetWhy_8 (i := 0) rfl 0 rfl 9 rfl ?_
  refine A_iload_n C dX9_meetWhy_9 (i := 2) rfl 2 rfl 10 rfl ?_
  refine CVz C dX9_meetWhy_10 9 k0 (by decide) (r := (RX9, TX9, 44)) rfl rfl hf (fun _ _ e => mX9_isSleeper k0 e) lkRX9_353 (by decide) (by decide) rfl [] rfl (Nat.le_of_ble_eq_true rfl) 13 rfl (fun r10 h10 hf => ?_)
  refine A_z_eq C dX9_meetWhy_13 33 (by decide) 16 rfl hf (fun c13 hf => ?_) (fun c13 hf => ?_)
  · refine A_iconst (v := 1) C dX9_meetWhy_33 (by decide) 34 rfl ?_
    refine A_goto C dX9_meetWhy_34 38 (by decide) ?_
    exact A_iret C dX9_meetWhy_38 E hf
  refine A_iload_n C dX9_meetWhy_16 (i := 1) rfl 1 rfl 17 rfl ?_
  refine A_iload_n C dX9_meetWhy_17 (i := 2) rfl 2 rfl 18 rfl ?_
  refine A_icmp_eq C dX9_meetWhy_18 33 (by decide) 21 rfl hf (fun c18 hf => ?_) (fun c18 hf => ?_)
  · refine A_iconst (v := 1) C dX9_meetWhy_33 (by decide) 34 rfl ?_
    refine A_goto C dX9_meetWhy_34 38 (by decide) ?_
    exact A_iret C dX9_meetWhy_38 E hf
  refine A_aload_n C dX9_meetWhy_21 (i := 0) rfl 0 rfl 22 rfl ?_
  refine A_iload_n C dX9_meetWhy_22 (i := 3) rfl 3 rfl 23 rfl ?_
  refine CVz C dX9_meetWhy_23 9 k0 (by decide) (r := (RX9, TX9, 44)) rfl rfl hf (fun _ _ e => mX9_isFloor k0 e) lkRX9_350 (by decide) (by decide) rfl [] rfl (Nat.le_of_ble_eq_true rfl) 26 rfl (fun r23 h23 hf => ?_)
  refine A_z_eq C dX9_meetWhy_26 33 (by decide) 29 rfl hf (fun c26 hf => ?_) (fun c26 hf => ?_)
  · refine A_iconst (v := 1) C dX9_meetWhy_33 (by decide) 34 rfl ?_
    refine A_goto C dX9_meetWhy_34 38 (by decide) ?_
    exact A_iret C dX9_meetWhy_38 E hf
  refine A_iload_n C dX9_meetWhy_29 (i := 3) rfl 3 rfl 30 rfl ?_
  refine A_if_ne C dX9_meetWhy_30 37 (by decide) 33 rfl hf (fun c30 hf => ?_) (fun c30 hf => ?_)
  · refine A_iconst (v := 0) C dX9_meetWhy_37 (by decide) 38 rfl ?_
    exact A_iret C dX9_meetWhy_38 E hf
  refine A_iconst (v := 1) C dX9_meetWhy_33 (by decide) 34 rfl ?_
  refine A_goto C dX9_meetWhy_34 38 (by decide) ?_
  exact A_iret C dX9_meetWhy_38 E hf
set_option maxRecDepth 20000 in
theorem wX9_meetHead_L6 {K : KX} {G : GX} (C : Ok K G 6 cX9_meetHead RX9) (hnl : G.2.2.2.2.2.2.2.2.2.2.2.2.2 = 12) {rv : Int32} {hv : HH} (E : Endd K G (some .int) (some (.int rv)) hv) {x0 : Nat} {x1 : Int32} {x2 : Int32} {x3 : Int32}   (kx0 : isK 9 x0) : ∀ (self6 : Int32 → Int32 → HH → Option (Int32 × HH)), (∀ (x4 : Int32) (x5 : Int32) (h : HH), self6 x4 x5 h = some (rv, hv) → At K G 6 [(0, .ref (K.2.1 x0)), (1, .int x1), (2, .int x2), (3, .int x3), (4, .int x4), (5, .int x5)] [] h) → ∀ (x4 : Int32) (x5 : Int32) (h : HH), fX9_meetHead_L6 x0 x1 x2 x3 self6 x4 x5 h = some (rv, hv) → At K G 6 [(0, .ref (K.2.1 x0)), (1, .int x1), (2, .int x2), (3, .int x3), (4, .int x4), (5, .int x5)] [] h := by
  intro self6 Hself6 x4 x5 h hf
  unfold fX9_meetHead_L6 at hf
  refine A_iload C dX9_meetHead_6 5 rfl 8 rfl ?_
  refine A_aload_n C dX9_meetHead_8 (i := 0) rfl 0 rfl 9 rfl ?_
  refine gfRX9_20 C kx0 dX9_meetHead_9 12 rfl ?_
  refine A_iconst (v := 3) C dX9_meetHead_12 (by decide) 13 rfl ?_
  refine A_iald C dX9_meetHead_13 (of_9_15 kx0) hf 14 rfl (fun hf => ?_)
  refine A_icmp_ge C dX9_meetHead_14 88 (by decide) 17 rfl hf (fun c14 hf => ?_) (fun c14 hf => ?_)
  · refine A_iload C dX9_meetHead_88 4 rfl 90 rfl ?_
    exact A_iret C dX9_meetHead_90 E hf
  refine A_aload_n C dX9_meetHead_17 (i := 0) rfl 0 rfl 18 rfl ?_
  refine A_iload_n C dX9_meetHead_18 (i := 1) rfl 1 rfl 19 rfl ?_
  refine A_iload C dX9_meetHead_19 5 rfl 21 rfl ?_
  refine A_iload_n C dX9_meetHead_21 (i := 3) rfl 3 rfl 22 rfl ?_
  refine CVl C dX9_meetHead_22 9 kx0 (by decide) (r := (RX9, TX9, 44)) rfl rfl hf (fun _ _ e => mX9_tillThere kx0 e) lkRX9_464 (by decide) (by decide) rfl [] rfl (Nat.le_of_ble_eq_true rfl) 25 rfl (fun r22 h22 hf => ?_)
  refine A_lstore C dX9_meetHead_25 [(6, .long r22), (0, .ref (K.2.1 x0)), (1, .int x1), (2, .int x2), (3, .int x3), (4, .int x4), (5, .int x5)] (lt_nl hnl (by decide)) rfl 27 rfl ?_
  refine A_aload_n C dX9_meetHead_27 (i := 0) rfl 1 rfl 28 rfl ?_
  refine A_iload_n C dX9_meetHead_28 (i := 2) rfl 3 rfl 29 rfl ?_
  refine A_iload C dX9_meetHead_29 6 rfl 31 rfl ?_
  refine A_iload_n C dX9_meetHead_31 (i := 3) rfl 4 rfl 32 rfl ?_
  refine CVl C dX9_meetHead_32 9 kx0 (by decide) (r := (RX9, TX9, 44)) rfl rfl hf (fun _ _ e => mX9_tillThere kx0 e) lkRX9_464 (by decide) (by decide) rfl [] rfl (Nat.le_of_ble_eq_true rfl) 35 rfl (fun r32 h32 hf => ?_)
  refine A_lstore C dX9_meetHead_35 [(8, .long r32), (6, .long r22), (0, .ref (K.2.1 x0)), (1, .int x1), (2, .int x2), (3, .int x3), (4, .int x4), (5, .int x5)] (lt_nl hnl (by decide)) rfl 37 rfl ?_
  refine A_lload C dX9_meetHead_37 1 rfl 39 rfl ?_
  refine A_lload C dX9_meetHead_39 0 rfl 41 rfl ?_
  refine A_l_le C dX9_meetHead_41 dX9_meetHead_42 50 (by decide) 45 rfl hf (fun c41 hf => ?_) (fun c41 hf => ?_)
  · refine A_lload C dX9_meetHead_50 0 rfl 52 rfl ?_
    refine A_lstore C dX9_meetHead_52 [(10, .long r32), (8, .long r32), (6, .long r22), (0, .ref (K.2.1 x0)), (1, .int x1), (2, .int x2), (3, .int x3), (4, .int x4), (5, .int x5)] (lt_nl hnl (by decide)) rfl 54 rfl ?_
    refine A_iload C dX9_meetHead_54 7 rfl 56 rfl ?_
    refine A_if_lt C dX9_meetHead_56 72 (by decide) 59 rfl hf (fun c56 hf => ?_) (fun c56 hf => ?_)
    · refine A_iload C dX9_meetHead_72 8 rfl 74 rfl ?_
      refine A_istore C dX9_meetHead_74 [(4, .int x5), (10, .long r32), (8, .long r32), (6, .long r22), (0, .ref (K.2.1 x0)), (1, .int x1), (2, .int x2), (3, .int x3), (5, .int x5)] (lt_nl hnl (by decide)) rfl 76 rfl ?_
      refine A_aload_n C dX9_meetHead_76 (i := 0) rfl 4 rfl 77 rfl ?_
      refine A_lload C dX9_meetHead_77 1 rfl 79 rfl ?_
      refine pfRX9_467 C kx0 dX9_meetHead_79 82 rfl ?_
      refine A_iinc (v := (x5 + 1)) C dX9_meetHead_82 8 rfl rfl [(5, .int (x5 + 1)), (4, .int x5), (10, .long r32), (8, .long r32), (6, .long r22), (0, .ref (K.2.1 x0)), (1, .int x1), (2, .int x2), (3, .int x3)] (lt_nl hnl (by decide)) rfl 85 rfl ?_
      refine A_goto C dX9_meetHead_85 6 (by decide) ?_
      refine A_sub [5, 6, 7, 8, 1, 0] (lv' := [(0, .ref (K.2.1 x0)), (1, .int x1), (2, .int x2), (3, .int x3), (4, .int x5), (5, .int (x5 + 1))]) rfl ?_
      exact Hself6 _ _ _ hf
    refine A_lload C dX9_meetHead_59 0 rfl 61 rfl ?_
    refine A_aload_n C dX9_meetHead_61 (i := 0) rfl 3 rfl 62 rfl ?_
    refine gfRX9_467 C kx0 dX9_meetHead_62 65 rfl ?_
    refine A_l_lt C dX9_meetHead_65 dX9_meetHead_66 72 (by decide) 69 rfl hf (fun c65 hf => ?_) (fun c65 hf => ?_)
    · refine A_iload C dX9_meetHead_72 8 rfl 74 rfl ?_
      refine A_istore C dX9_meetHead_74 [(4, .int x5), (10, .long r32), (8, .long r32), (6, .long r22), (0, .ref (K.2.1 x0)), (1, .int x1), (2, .int x2), (3, .int x3), (5, .int x5)] (lt_nl hnl (by decide)) rfl 76 rfl ?_
      refine A_aload_n C dX9_meetHead_76 (i := 0) rfl 4 rfl 77 rfl ?_
      refine A_lload C dX9_meetHead_77 1 rfl 79 rfl ?_
      refine pfRX9_467 C kx0 dX9_meetHead_79 82 rfl ?_
      refine A_iinc (v := (x5 + 1)) C dX9_meetHead_82 8 rfl rfl [(5, .int (x5 + 1)), (4, .int x5), (10, .long r32), (8, .long r32), (6, .long r22), (0, .ref (K.2.1 x0)), (1, .int x1), (2, .int x2), (3, .int x3)] (lt_nl hnl (by decide)) rfl 85 rfl ?_
      refine A_goto C dX9_meetHead_85 6 (by decide) ?_
      refine A_sub [5, 6, 7, 8, 1, 0] (lv' := [(0, .ref (K.2.1 x0)), (1, .int x1), (2, .int x2), (3, .int x3), (4, .int x5), (5, .int (x5 + 1))]) rfl ?_
      exact Hself6 _ _ _ hf
    refine A_goto C dX9_meetHead_69 82 (by decide) ?_
    refine A_iinc (v := (x5 + 1)) C dX9_meetHead_82 8 rfl rfl [(5, .int (x5 + 1)), (10, .long r32), (8, .long r32), (6, .long r22), (0, .ref (K.2.1 x0)), (1, .int x1), (2, .int x2), (3, .int x3), (4, .int x4)] (lt_nl hnl (by decide)) rfl 85 rfl ?_
    refine A_goto C dX9_meetHead_85 6 (by decide) ?_
    refine A_sub [4, 5, 6, 7, 8, 0] (lv' := [(0, .ref (K.2.1 x0)), (1, .int x1), (2, .int x2), (3, .int x3), (4, .int x4), (5, .int (x5 + 1))]) rfl ?_
    exact Hself6 _ _ _ hf
  refine A_lload C dX9_meetHead_45 1 rfl 47 rfl ?_
  refine A_goto C dX9_meetHead_47 52 (by decide) ?_
  refine A_lstore C dX9_meetHead_52 [(10, .long r22), (8, .long r32), (6, .long r22), (0, .ref (K.2.1 x0)), (1, .int x1), (2, .int x2), (3, .int x3), (4, .int x4), (5, .int x5)] (lt_nl hnl (by decide)) rfl 54 rfl ?_
  refine A_iload C dX9_meetHead_54 7 rfl 56 rfl ?_
  refine A_if_lt C dX9_meetHead_56 72 (by decide) 59 rfl hf (fun c56 hf => ?_) (fun c56 hf => ?_)
  · refine A_iload C dX9_meetHead_72 8 rfl 74 rfl ?_
    refine A_istore C dX9_meetHead_74 [(4, .int x5), (10, .long r22), (8, .long r32), (6, .long r22), (0, .ref (K.2.1 x0)), (1, .int x1), (2, .int x2), (3, .int x3), (5, .int x5)] (lt_nl hnl (by decide)) rfl 76 rfl ?_
    refine A_aload_n C dX9_meetHead_76 (i := 0) rfl 4 rfl 77 rfl ?_
    refine A_lload C dX9_meetHead_77 1 rfl 79 rfl ?_
    refine pfRX9_467 C kx0 dX9_meetHead_79 82 rfl ?_
    refine A_iinc (v := (x5 + 1)) C dX9_meetHead_82 8 rfl rfl [(5, .int (x5 + 1)), (4, .int x5), (10, .long r22), (8, .long r32), (6, .long r22), (0, .ref (K.2.1 x0)), (1, .int x1), (2, .int x2), (3, .int x3)] (lt_nl hnl (by decide)) rfl 85 rfl ?_
    refine A_goto C dX9_meetHead_85 6 (by decide) ?_
    refine A_sub [5, 6, 7, 8, 1, 0] (lv' := [(0, .ref (K.2.1 x0)), (1, .int x1), (2, .int x2), (3, .int x3), (4, .int x5), (5, .int (x5 + 1))]) rfl ?_
    exact Hself6 _ _ _ hf
  refine A_lload C dX9_meetHead_59 0 rfl 61 rfl ?_
  refine A_aload_n C dX9_meetHead_61 (i := 0) rfl 3 rfl 62 rfl ?_
  refine gfRX9_467 C kx0 dX9_meetHead_62 65 rfl ?_
  refine A_l_lt C dX9_meetHead_65 dX9_meetHead_66 72 (by decide) 69 rfl hf (fun c65 hf => ?_) (fun c65 hf => ?_)
  · refine A_iload C dX9_meetHead_72 8 rfl 74 rfl ?_
    refine A_istore C dX9_meetHead_74 [(4, .int x5), (10, .long r22), (8, .long r32), (6, .long r22), (0, .ref (K.2.1 x0)), (1, .int x1), (2, .int x2), (3, .int x3), (5, .int x5)] (lt_nl hnl (by decide)) rfl 76 rfl ?_
    refine A_aload_n C dX9_meetHead_76 (i := 0) rfl 4 rfl 77 rfl ?_
    refine A_lload C dX9_meetHead_77 1 rfl 79 rfl ?_
    refine pfRX9_467 C kx0 dX9_meetHead_79 82 rfl ?_
    refine A_iinc (v := (x5 + 1)) C dX9_meetHead_82 8 rfl rfl [(5, .int (x5 + 1)), (4, .int x5), (10, .long r22), (8, .long r32), (6, .long r22), (0, .ref (K.2.1 x0)), (1, .int x1), (2, .int x2), (3, .int x3)] (lt_nl hnl (by decide)) rfl 85 rfl ?_
    refine A_goto C dX9_meetHead_85 6 (by decide) ?_
    refine A_sub [5, 6, 7, 8, 1, 0] (lv' := [(0, .ref (K.2.1 x0)), (1, .int x1), (2, .int x2), (3, .int x3), (4, .int x5), (5, .int (x5 + 1))]) rfl ?_
    exact Hself6 _ _ _ hf
  refine A_goto C dX9_meetHead_69 82 (by decide) ?_
  refine A_iinc (v := (x5 + 1)) C dX9_meetHead_82 8 rfl rfl [(5, .int (x5 + 1)), (10, .long r22), (8, .long r32), (6, .long r22), (0, .ref (K.2.1 x0)), (1, .int x1), (2, .int x2), (3, .int x3), (4, .int x4)] (lt_nl hnl (by decide)) rfl 85 rfl ?_
  refine A_goto C dX9_meetHead_85 6 (by decide) ?_
  refine A_sub [4, 5, 6, 7, 8, 0] (lv' := [(0, .ref (K.2.1 x0)), (1, .int x1), (2, .int x2), (3, .int x3), (4, .int x4), (5, .int (x5 + 1))]) rfl ?_
  exact Hself6 _ _ _ hf
set_option maxRecDepth 20000 in
theorem mX9_meetHead {K : KX} {x0 : Nat} {x1 : Int32} {x2 : Int32} {x3 : Int32} (k0 : isK 9 x0) {h : HH} {rv : Int32} {hv : HH} (hf : fX9_meetHead x0 x1 x2 x3 h = some (rv, hv)) : MR K yX9_meetHead cX9_meetHead 12 (some .int) 6 [.ref (K.2.1 x0), .int x1, .int x2, .int x3] h (some (.int rv)) hv := by
  refine MR_of (by decide) (Nat.le_of_ble_eq_true rfl) (fun G C E hnl => ?_)
  have C : Ok K G 6 cX9_meetHead RX9 := C
  refine (show At K G 0 [(0, .ref (K.2.1 x0)), (1, .int x1), (2, .int x2), (3, .int x3)] [] h from ?_)
  unfold fX9_meetHead at hf
  refine A_iconst (v := (-1)) C dX9_meetHead_0 (by decide) 1 rfl ?_
  refine A_istore C dX9_meetHead_1 [(4, .int (-1)), (0, .ref (K.2.1 x0)), (1, .int x1), (2, .int x2), (3, .int x3)] (lt_nl hnl (by decide)) rfl 3 rfl ?_
  refine A_iconst (v := 0) C dX9_meetHead_3 (by decide) 4 rfl ?_
  refine A_istore C dX9_meetHead_4 [(5, .int 0), (4, .int (-1)), (0, .ref (K.2.1 x0)), (1, .int x1), (2, .int x2), (3, .int x3)] (lt_nl hnl (by decide)) rfl 6 rfl ?_
  refine A_sub [2, 3, 4, 5, 1, 0] (lv' := [(0, .ref (K.2.1 x0)), (1, .int x1), (2, .int x2), (3, .int x3), (4, .int (-1)), (5, .int 0)]) rfl ?_
  refine lq2_at (wX9_meetHead_L6 C hnl E k0) FU _ _ _ hf
set_option maxRecDepth 20000 in
theorem mX9_meeting {K : KX} {x0 : Nat} {x1 : Int32} {x2 : Int32} {x3 : Int32} (k0 : isK 9 x0) {h : HH} {rv : Int64} {hv : HH} (hf : fX9_meeting x0 x1 x2 x3 h = some (rv, hv)) : MR K yX9_meeting cX9_meeting 5 (some .long) 7 [.ref (K.2.1 x0), .int x1, .int x2, .int x3] h (some (.long rv)) hv := by
  refine MR_of (by decide) (Nat.le_of_ble_eq_true rfl) (fun G C E hnl => ?_)
  have C : Ok K G 7 cX9_meeting RX9 := C
  refine (show At K G 0 [(0, .ref (K.2.1 x0)), (1, .int x1), (2, .int x2), (3, .int x3)] [] h from ?_)
  unfold fX9_meeting at hf
  refine A_aload_n C dX9_meeting_0 (i := 0) rfl 0 rfl 1 rfl ?_
  refine CVv C dX9_meeting_1 9 k0 (by decide) (r := (RX9, TX9, 44)) rfl rfl hf (fun _ e => mX9_good k0 e) lkRX9_191 (by decide) (by decide) rfl [] rfl (Nat.le_of_ble_eq_true rfl) 4 rfl (fun h1 hf => ?_)
  refine A_aload_n C dX9_meeting_4 (i := 0) rfl 0 rfl 5 rfl ?_
  refine A_iload_n C dX9_meeting_5 (i := 1) rfl 1 rfl 6 rfl ?_
  refine A_iload_n C dX9_meeting_6 (i := 2) rfl 2 rfl 7 rfl ?_
  refine A_iload_n C dX9_meeting_7 (i := 3) rfl 3 rfl 8 rfl ?_
  refine CVi C dX9_meeting_8 9 k0 (by decide) (r := (RX9, TX9, 44)) rfl rfl hf (fun _ _ e => mX9_meetWhy k0 e) lkRX9_470 (by decide) (by decide) rfl [] rfl (Nat.le_of_ble_eq_true rfl) 11 rfl (fun r8 h8 hf => ?_)
  refine A_istore C dX9_meeting_11 [(4, .int r8), (0, .ref (K.2.1 x0)), (1, .int x1), (2, .int x2), (3, .int x3)] (lt_nl hnl (by decide)) rfl 13 rfl ?_
  refine A_iload C dX9_meeting_13 0 rfl 15 rfl ?_
  refine A_if_eq C dX9_meeting_15 26 (by decide) 18 rfl hf (fun c15 hf => ?_) (fun c15 hf => ?_)
  · refine A_aload_n C dX9_meeting_26 (i := 0) rfl 1 rfl 27 rfl ?_
    refine A_iload_n C dX9_meeting_27 (i := 1) rfl 2 rfl 28 rfl ?_
    refine A_iload_n C dX9_meeting_28 (i := 2) rfl 3 rfl 29 rfl ?_
    refine A_iload_n C dX9_meeting_29 (i := 3) rfl 4 rfl 30 rfl ?_
    refine CVi C dX9_meeting_30 9 k0 (by decide) (r := (RX9, TX9, 44)) rfl rfl hf (fun _ _ e => mX9_meetHead k0 e) lkRX9_473 (by decide) (by decide) rfl [] rfl (Nat.le_of_ble_eq_true rfl) 33 rfl (fun r30 h30 hf => ?_)
    refine A_pop C dX9_meeting_33 rfl 34 rfl ?_
    refine A_aload_n C dX9_meeting_34 (i := 0) rfl 1 rfl 35 rfl ?_
    refine gfRX9_467 C k0 dX9_meeting_35 38 rfl ?_
    exact A_lret C dX9_meeting_38 E hf
  refine A_aload_n C dX9_meeting_18 (i := 0) rfl 1 rfl 19 rfl ?_
  refine A_iload C dX9_meeting_19 0 rfl 21 rfl ?_
  refine CVi C dX9_meeting_21 9 k0 (by decide) (r := (RX9, TX9, 44)) rfl rfl hf (fun _ _ e => mX9_no k0 e) lkRX9_194 (by decide) (by decide) rfl [] rfl (Nat.le_of_ble_eq_true rfl) 24 rfl (fun r21 h21 hf => ?_)
  refine A_i2l C dX9_meeting_24 25 rfl ?_
  exact A_lret C dX9_meeting_25 E hf
set_option maxRecDepth 20000 in
theorem mX9_meetingHead {K : KX} {x0 : Nat} {x1 : Int32} {x2 : Int32} {x3 : Int32} (k0 : isK 9 x0) {h : HH} {rv : Int32} {hv : HH} (hf : fX9_meetingHead x0 x1 x2 x3 h = some (rv, hv)) : MR K yX9_meetingHead cX9_meetingHead 5 (some .int) 7 [.ref (K.2.1 x0), .int x1, .int x2, .int x3] h (some (.int rv)) hv := by
  refine MR_of (by decide) (Nat.le_of_ble_eq_true rfl) (fun G C E hnl => ?_)
  have C : Ok K G 7 cX9_meetingHead RX9 := C
  refine (show At K G 0 [(0, .ref (K.2.1 x0)), (1, .int x1), (2, .int x2), (3, .int x3)] [] h from ?_)
  unfold fX9_meetingHead at hf
  refine A_aload_n C dX9_meetingHead_0 (i := 0) rfl 0 rfl 1 rfl ?_
  refine CVv C dX9_meetingHead_1 9 k0 (by decide) (r := (RX9, TX9, 44)) rfl rfl hf (fun _ e => mX9_good k0 e) lkRX9_191 (by decide) (by decide) rfl [] rfl (Nat.le_of_ble_eq_true rfl) 4 rfl (fun h1 hf => ?_)
  refine A_aload_n C dX9_meetingHead_4 (i := 0) rfl 0 rfl 5 rfl ?_
  refine A_iload_n C dX9_meetingHead_5 (i := 1) rfl 1 rfl 6 rfl ?_
  refine A_iload_n C dX9_meetingHead_6 (i := 2) rfl 2 rfl 7 rfl ?_
  refine A_iload_n C dX9_meetingHead_7 (i := 3) rfl 3 rfl 8 rfl ?_
  refine CVi C dX9_meetingHead_8 9 k0 (by decide) (r := (RX9, TX9, 44)) rfl rfl hf (fun _ _ e => mX9_meetWhy k0 e) lkRX9_470 (by decide) (by decide) rfl [] rfl (Nat.le_of_ble_eq_true rfl) 11 rfl (fun r8 h8 hf => ?_)
  refine A_istore C dX9_meetingHead_11 [(4, .int r8), (0, .ref (K.2.1 x0)), (1, .int x1), (2, .int x2), (3, .int x3)] (lt_nl hnl (by decide)) rfl 13 rfl ?_
  refine A_iload C dX9_meetingHead_13 0 rfl 15 rfl ?_
  refine A_if_eq C dX9_meetingHead_15 27 (by decide) 18 rfl hf (fun c15 hf => ?_) (fun c15 hf => ?_)
  · refine A_aload_n C dX9_meetingHead_27 (i := 0) rfl 1 rfl 28 rfl ?_
    refine A_iload_n C dX9_meetingHead_28 (i := 1) rfl 2 rfl 29 rfl ?_
    refine A_iload_n C dX9_meetingHead_29 (i := 2) rfl 3 rfl 30 rfl ?_
    refine A_iload_n C dX9_meetingHead_30 (i := 3) rfl 4 rfl 31 rfl ?_
    refine CVi C dX9_meetingHead_31 9 k0 (by decide) (r := (RX9, TX9, 44)) rfl rfl hf (fun _ _ e => mX9_meetHead k0 e) lkRX9_473 (by decide) (by decide) rfl [] rfl (Nat.le_of_ble_eq_true rfl) 34 rfl (fun r31 h31 hf => ?_)
    exact A_iret C dX9_meetingHead_34 E hf
  refine A_aload_n C dX9_meetingHead_18 (i := 0) rfl 1 rfl 19 rfl ?_
  refine A_iload C dX9_meetingHead_19 0 rfl 21 rfl ?_
  refine CVi C dX9_meetingHead_21 9 k0 (by decide) (r := (RX9, TX9, 44)) rfl rfl hf (fun _ _ e => mX9_no k0 e) lkRX9_194 (by decide) (by decide) rfl [] rfl (Nat.le_of_ble_eq_true rfl) 24 rfl (fun r21 h21 hf => ?_)
  refine A_goto C dX9_meetingHead_24 34 (by decide) ?_
  exact A_iret C dX9_meetingHead_34 E hf
set_option maxRecDepth 20000 in
theorem mX9_gainOf {K : KX} {x0 : Nat} {x1 : Int32} {x2 : Int32} {x3 : Int64} (k0 : isK 9 x0) {h : HH} {rv : Int64} {hv : HH} (hf : fX9_gainOf x0 x1 x2 x3 h = some (rv, hv)) : MR K yX9_gainOf cX9_gainOf 5 (some .long) 2 [.ref (K.2.1 x0), .int x1, .int x2, .long x3] h (some (.long rv)) hv := by
  refine MR_of (by decide) (Nat.le_of_ble_eq_true rfl) (fun G C E hnl => ?_)
  have C : Ok K G 2 cX9_gainOf RX9 := C
  refine (show At K G 0 [(0, .ref (K.2.1 x0)), (1, .int x1), (2, .int x2), (3, .long x3)] [] h from ?_)
  unfold fX9_gainOf at hf
  refine A_iload_n C dX9_gainOf_0 (i := 2) rfl 2 rfl 1 rfl ?_
  refine A_if_ne C dX9_gainOf_1 8 (by decide) 4 rfl hf (fun c1 hf => ?_) (fun c1 hf => ?_)
  · refine A_lload_n C dX9_gainOf_8 (i := 3) rfl 3 rfl 9 rfl ?_
    refine A_aload_n C dX9_gainOf_9 (i := 0) rfl 0 rfl 10 rfl ?_
    refine A_iload_n C dX9_gainOf_10 (i := 2) rfl 2 rfl 11 rfl ?_
    refine CVi C dX9_gainOf_11 9 k0 (by decide) (r := (RX9, TX9, 44)) rfl rfl hf (fun _ _ e => mX9_quickOf k0 e) lkRX9_304 (by decide) (by decide) rfl [.long x3] rfl (Nat.le_of_ble_eq_true rfl) 14 rfl (fun r11 h11 hf => ?_)
    refine A_i2l C dX9_gainOf_14 15 rfl ?_
    refine A_lmul C dX9_gainOf_15 16 rfl ?_
    refine A_aload_n C dX9_gainOf_16 (i := 0) rfl 0 rfl 17 rfl ?_
    refine A_iload_n C dX9_gainOf_17 (i := 1) rfl 1 rfl 18 rfl ?_
    refine A_iconst (v := 2) C dX9_gainOf_18 (by decide) 19 rfl ?_
    refine CVi C dX9_gainOf_19 9 k0 (by decide) (r := (RX9, TX9, 44)) rfl rfl hf (fun _ _ e => mX9_of k0 e) lkRX9_335 (by decide) (by decide) rfl [.long (x3 * r11.toInt64)] rfl (Nat.le_of_ble_eq_true rfl) 22 rfl (fun r19 h19 hf => ?_)
    refine A_i2l C dX9_gainOf_22 23 rfl ?_
    refine A_iload_n C dX9_gainOf_23 (i := 2) rfl 2 rfl 24 rfl ?_
    refine A_i2l C dX9_gainOf_24 25 rfl ?_
    refine A_lmul C dX9_gainOf_25 26 rfl ?_
    refine A_iload_n C dX9_gainOf_26 (i := 2) rfl 2 rfl 27 rfl ?_
    refine A_i2l C dX9_gainOf_27 28 rfl ?_
    refine A_lmul C dX9_gainOf_28 29 rfl ?_
    refine A_lsub C dX9_gainOf_29 30 rfl ?_
    exact A_lret C dX9_gainOf_30 E hf
  refine A_lconst (v := 0) C dX9_gainOf_4 (by decide) 5 rfl ?_
  refine A_goto C dX9_gainOf_5 30 (by decide) ?_
  exact A_lret C dX9_gainOf_30 E hf
set_option maxRecDepth 20000 in
theorem wX9_takesOf_L4 {K : KX} {G : GX} (C : Ok K G 3 cX9_takesOf RX9) (hnl : G.2.2.2.2.2.2.2.2.2.2.2.2.2 = 4) {rv : Int32} {hv : HH} (E : Endd K G (some .int) (some (.int rv)) hv) {x0 : Nat} {x1 : Int32}   (kx0 : isK 9 x0) : ∀ (self4 : Int32 → Int32 → HH → Option (Int32 × HH)), (∀ (x2 : Int32) (x3 : Int32) (h : HH), self4 x2 x3 h = some (rv, hv) → At K G 4 [(0, .ref (K.2.1 x0)), (1, .int x1), (2, .int x2), (3, .int x3)] [] h) → ∀ (x2 : Int32) (x3 : Int32) (h : HH), fX9_takesOf_L4 x0 x1 self4 x2 x3 h = some (rv, hv) → At K G 4 [(0, .ref (K.2.1 x0)), (1, .int x1), (2, .int x2), (3, .int x3)] [] h := by
  intro self4 Hself4 x2 x3 h hf
  unfold fX9_takesOf_L4 at hf
  refine A_iload_n C dX9_takesOf_4 (i := 3) rfl 3 rfl 5 rfl ?_
  refine A_aload_n C dX9_takesOf_5 (i := 0) rfl 0 rfl 6 rfl ?_
  refine gfRX9_20 C kx0 dX9_takesOf_6 9 rfl ?_
  refine A_iconst (v := 0) C dX9_takesOf_9 (by decide) 10 rfl ?_
  refine A_iald C dX9_takesOf_10 (of_9_15 kx0) hf 11 rfl (fun hf => ?_)
  refine A_icmp_gt C dX9_takesOf_11 72 (by decide) 14 rfl hf (fun c11 hf => ?_) (fun c11 hf => ?_)
  · refine A_iload_n C dX9_takesOf_72 (i := 2) rfl 2 rfl 73 rfl ?_
    exact A_iret C dX9_takesOf_73 E hf
  refine A_aload_n C dX9_takesOf_14 (i := 0) rfl 0 rfl 15 rfl ?_
  refine A_iload_n C dX9_takesOf_15 (i := 1) rfl 1 rfl 16 rfl ?_
  refine A_iload_n C dX9_takesOf_16 (i := 3) rfl 3 rfl 17 rfl ?_
  refine A_aload_n C dX9_takesOf_17 (i := 0) rfl 0 rfl 18 rfl ?_
  refine gfRX9_20 C kx0 dX9_takesOf_18 21 rfl ?_
  refine A_sipush (v := 150) C dX9_takesOf_21 (by decide) 24 rfl ?_
  refine A_iload_n C dX9_takesOf_24 (i := 3) rfl 3 rfl 25 rfl ?_
  refine A_iadd C dX9_takesOf_25 26 rfl ?_
  refine A_iconst (v := 1) C dX9_takesOf_26 (by decide) 27 rfl ?_
  refine A_isub C dX9_takesOf_27 28 rfl ?_
  refine A_iald C dX9_takesOf_28 (of_9_15 kx0) hf 29 rfl (fun hf => ?_)
  refine A_i2l C dX9_takesOf_29 30 rfl ?_
  refine CVl C dX9_takesOf_30 9 kx0 (by decide) (r := (RX9, TX9, 44)) rfl rfl hf (fun _ _ e => mX9_gainOf kx0 e) lkRX9_476 (by decide) (by decide) rfl [] rfl (Nat.le_of_ble_eq_true rfl) 33 rfl (fun r30 h30 hf => ?_)
  refine A_aload_n C dX9_takesOf_33 (i := 0) rfl 0 rfl 34 rfl ?_
  refine A_iload_n C dX9_takesOf_34 (i := 1) rfl 1 rfl 35 rfl ?_
  refine A_iload_n C dX9_takesOf_35 (i := 2) rfl 2 rfl 36 rfl ?_
  refine A_iload_n C dX9_takesOf_36 (i := 2) rfl 2 rfl 37 rfl ?_
  refine A_if_ne C dX9_takesOf_37 44 (by decide) 40 rfl hf (fun c37 hf => ?_) (fun c37 hf => ?_)
  · refine A_aload_n C dX9_takesOf_44 (i := 0) rfl 0 rfl 45 rfl ?_
    refine gfRX9_20 C kx0 dX9_takesOf_45 48 rfl ?_
    refine A_sipush (v := 150) C dX9_takesOf_48 (by decide) 51 rfl ?_
    refine A_iload_n C dX9_takesOf_51 (i := 2) rfl 2 rfl 52 rfl ?_
    refine A_iadd C dX9_takesOf_52 53 rfl ?_
    refine A_iconst (v := 1) C dX9_takesOf_53 (by decide) 54 rfl ?_
    refine A_isub C dX9_takesOf_54 55 rfl ?_
    refine A_iald C dX9_takesOf_55 (of_9_15 kx0) hf 56 rfl (fun hf => ?_)
    refine A_i2l C dX9_takesOf_56 57 rfl ?_
    refine CVl C dX9_takesOf_57 9 kx0 (by decide) (r := (RX9, TX9, 44)) rfl rfl hf (fun _ _ e => mX9_gainOf kx0 e) lkRX9_476 (by decide) (by decide) rfl [.long r30] rfl (Nat.le_of_ble_eq_true rfl) 60 rfl (fun r57 h57 hf => ?_)
    refine A_l_le C dX9_takesOf_60 dX9_takesOf_61 66 (by decide) 64 rfl hf (fun c60 hf => ?_) (fun c60 hf => ?_)
    · refine A_iinc (v := (x3 + 1)) C dX9_takesOf_66 3 rfl rfl [(3, .int (x3 + 1)), (0, .ref (K.2.1 x0)), (1, .int x1), (2, .int x2)] (lt_nl hnl (by decide)) rfl 69 rfl ?_
      refine A_goto C dX9_takesOf_69 4 (by decide) ?_
      refine A_sub [1, 2, 3, 0] (lv' := [(0, .ref (K.2.1 x0)), (1, .int x1), (2, .int x2), (3, .int (x3 + 1))]) rfl ?_
      exact Hself4 _ _ _ hf
    refine A_iload_n C dX9_takesOf_64 (i := 3) rfl 3 rfl 65 rfl ?_
    refine A_istore_n C dX9_takesOf_65 (i := 2) rfl [(2, .int x3), (0, .ref (K.2.1 x0)), (1, .int x1), (3, .int x3)] (lt_nl hnl (by decide)) rfl 66 rfl ?_
    refine A_iinc (v := (x3 + 1)) C dX9_takesOf_66 3 rfl rfl [(3, .int (x3 + 1)), (2, .int x3), (0, .ref (K.2.1 x0)), (1, .int x1)] (lt_nl hnl (by decide)) rfl 69 rfl ?_
    refine A_goto C dX9_takesOf_69 4 (by decide) ?_
    refine A_sub [2, 3, 1, 0] (lv' := [(0, .ref (K.2.1 x0)), (1, .int x1), (2, .int x3), (3, .int (x3 + 1))]) rfl ?_
    exact Hself4 _ _ _ hf
  refine A_lconst (v := 0) C dX9_takesOf_40 (by decide) 41 rfl ?_
  refine A_goto C dX9_takesOf_41 57 (by decide) ?_
  refine CVl C dX9_takesOf_57 9 kx0 (by decide) (r := (RX9, TX9, 44)) rfl rfl hf (fun _ _ e => mX9_gainOf kx0 e) lkRX9_476 (by decide) (by decide) rfl [.long r30] rfl (Nat.le_of_ble_eq_true rfl) 60 rfl (fun r57 h57 hf => ?_)
  refine A_l_le C dX9_takesOf_60 dX9_takesOf_61 66 (by decide) 64 rfl hf (fun c60 hf => ?_) (fun c60 hf => ?_)
  · refine A_iinc (v := (x3 + 1)) C dX9_takesOf_66 3 rfl rfl [(3, .int (x3 + 1)), (0, .ref (K.2.1 x0)), (1, .int x1), (2, .int x2)] (lt_nl hnl (by decide)) rfl 69 rfl ?_
    refine A_goto C dX9_takesOf_69 4 (by decide) ?_
    refine A_sub [1, 2, 3, 0] (lv' := [(0, .ref (K.2.1 x0)), (1, .int x1), (2, .int x2), (3, .int (x3 + 1))]) rfl ?_
    exact Hself4 _ _ _ hf
  refine A_iload_n C dX9_takesOf_64 (i := 3) rfl 3 rfl 65 rfl ?_
  refine A_istore_n C dX9_takesOf_65 (i := 2) rfl [(2, .int x3), (0, .ref (K.2.1 x0)), (1, .int x1), (3, .int x3)] (lt_nl hnl (by decide)) rfl 66 rfl ?_
  refine A_iinc (v := (x3 + 1)) C dX9_takesOf_66 3 rfl rfl [(3, .int (x3 + 1)), (2, .int x3), (0, .ref (K.2.1 x0)), (1, .int x1)] (lt_nl hnl (by decide)) rfl 69 rfl ?_
  refine A_goto C dX9_takesOf_69 4 (by decide) ?_
  refine A_sub [2, 3, 1, 0] (lv' := [(0, .ref (K.2.1 x0)), (1, .int x1), (2, .int x3), (3, .int (x3 + 1))]) rfl ?_
  exact Hself4 _ _ _ hf
set_option maxRecDepth 20000 in
theorem mX9_takesOf {K : KX} {x0 : Nat} {x1 : Int32} (k0 : isK 9 x0) {h : HH} {rv : Int32} {hv : HH} (hf : fX9_takesOf x0 x1 h = some (rv, hv)) : MR K yX9_takesOf cX9_takesOf 4 (some .int) 3 [.ref (K.2.1 x0), .int x1] h (some (.int rv)) hv := by
  refine MR_of (by decide) (Nat.le_of_ble_eq_true rfl) (fun G C E hnl => ?_)
  have C : Ok K G 3 cX9_takesOf RX9 := C
  refine (show At K G 0 [(0, .ref (K.2.1 x0)), (1, .int x1)] [] h from ?_)
  unfold fX9_takesOf at hf
  refine A_iconst (v := 0) C dX9_takesOf_0 (by decide) 1 rfl ?_
  refine A_istore_n C dX9_takesOf_1 (i := 2) rfl [(2, .int 0), (0, .ref (K.2.1 x0)), (1, .int x1)] (lt_nl hnl (by decide)) rfl 2 rfl ?_
  refine A_iconst (v := 1) C dX9_takesOf_2 (by decide) 3 rfl ?_
  refine A_istore_n C dX9_takesOf_3 (i := 3) rfl [(3, .int 1), (2, .int 0), (0, .ref (K.2.1 x0)), (1, .int x1)] (lt_nl hnl (by decide)) rfl 4 rfl ?_
  refine A_sub [2, 3, 1, 0] (lv' := [(0, .ref (K.2.1 x0)), (1, .int x1), (2, .int 0), (3, .int 1)]) rfl ?_
  refine lq2_at (wX9_takesOf_L4 C hnl E k0) FU _ _ _ hf
set_option maxRecDepth 20000 in
theorem mX9_payWhy {K : KX} {x0 : Nat} {x1 : Int32} (k0 : isK 9 x0) {h : HH} {rv : Int32} {hv : HH} (hf : fX9_payWhy x0 x1 h = some (rv, hv)) : MR K yX9_payWhy cX9_payWhy 2 (some .int) 3 [.ref (K.2.1 x0), .int x1] h (some (.int rv)) hv := by
  refine MR_of (by decide) (Nat.le_of_ble_eq_true rfl) (fun G C E hnl => ?_)
  have C : Ok K G 3 cX9_payWhy RX9 := C
  refine (show At K G 0 [(0, .ref (K.2.1 x0)), (1, .int x1)] [] h from ?_)
  unfold fX9_payWhy at hf
  refine A_aload_n C dX9_payWhy_0 (i := 0) rfl 0 rfl 1 rfl ?_
  refine A_iload_n C dX9_payWhy_1 (i := 1) rfl 1 rfl 2 rfl ?_
  refine CVz C dX9_payWhy_2 9 k0 (by decide) (r := (RX9, TX9, 44)) rfl rfl hf (fun _ _ e => mX9_isSleeper k0 e) lkRX9_353 (by decide) (by decide) rfl [] rfl (Nat.le_of_ble_eq_true rfl) 5 rfl (fun r2 h2 hf => ?_)
  refine A_z_ne C dX9_payWhy_5 12 (by decide) 8 rfl hf (fun c5 hf => ?_) (fun c5 hf => ?_)
  · refine A_aload_n C dX9_payWhy_12 (i := 0) rfl 0 rfl 13 rfl ?_
    refine gfRX9_20 C k0 dX9_payWhy_13 16 rfl ?_
    refine A_bipush (v := 10) C dX9_payWhy_16 (by decide) 18 rfl ?_
    refine A_iald C dX9_payWhy_18 (of_9_15 k0) hf 19 rfl (fun hf => ?_)
    refine A_iconst (v := 1) C dX9_payWhy_19 (by decide) 20 rfl ?_
    refine A_icmp_ne C dX9_payWhy_20 27 (by decide) 23 rfl hf (fun c20 hf => ?_) (fun c20 hf => ?_)
    · refine A_bipush (v := 6) C dX9_payWhy_27 (by decide) 29 rfl ?_
      exact A_iret C dX9_payWhy_29 E hf
    refine A_iconst (v := 0) C dX9_payWhy_23 (by decide) 24 rfl ?_
    refine A_goto C dX9_payWhy_24 29 (by decide) ?_
    exact A_iret C dX9_payWhy_29 E hf
  refine A_iconst (v := 1) C dX9_payWhy_8 (by decide) 9 rfl ?_
  refine A_goto C dX9_payWhy_9 29 (by decide) ?_
  exact A_iret C dX9_payWhy_29 E hf
set_option maxRecDepth 20000 in
theorem mX9_takes {K : KX} {x0 : Nat} {x1 : Int32} (k0 : isK 9 x0) {h : HH} {rv : Int32} {hv : HH} (hf : fX9_takes x0 x1 h = some (rv, hv)) : MR K yX9_takes cX9_takes 3 (some .int) 4 [.ref (K.2.1 x0), .int x1] h (some (.int rv)) hv := by
  refine MR_of (by decide) (Nat.le_of_ble_eq_true rfl) (fun G C E hnl => ?_)
  have C : Ok K G 4 cX9_takes RX9 := C
  refine (show At K G 0 [(0, .ref (K.2.1 x0)), (1, .int x1)] [] h from ?_)
  unfold fX9_takes at hf
  refine A_aload_n C dX9_takes_0 (i := 0) rfl 0 rfl 1 rfl ?_
  refine CVv C dX9_takes_1 9 k0 (by decide) (r := (RX9, TX9, 44)) rfl rfl hf (fun _ e => mX9_good k0 e) lkRX9_191 (by decide) (by decide) rfl [] rfl (Nat.le_of_ble_eq_true rfl) 4 rfl (fun h1 hf => ?_)
  refine A_aload_n C dX9_takes_4 (i := 0) rfl 0 rfl 5 rfl ?_
  refine A_iload_n C dX9_takes_5 (i := 1) rfl 1 rfl 6 rfl ?_
  refine CVi C dX9_takes_6 9 k0 (by decide) (r := (RX9, TX9, 44)) rfl rfl hf (fun _ _ e => mX9_payWhy k0 e) lkRX9_480 (by decide) (by decide) rfl [] rfl (Nat.le_of_ble_eq_true rfl) 9 rfl (fun r6 h6 hf => ?_)
  refine A_istore_n C dX9_takes_9 (i := 2) rfl [(2, .int r6), (0, .ref (K.2.1 x0)), (1, .int x1)] (lt_nl hnl (by decide)) rfl 10 rfl ?_
  refine A_iload_n C dX9_takes_10 (i := 2) rfl 0 rfl 11 rfl ?_
  refine A_if_eq C dX9_takes_11 22 (by decide) 14 rfl hf (fun c11 hf => ?_) (fun c11 hf => ?_)
  · refine A_aload_n C dX9_takes_22 (i := 0) rfl 1 rfl 23 rfl ?_
    refine A_iload_n C dX9_takes_23 (i := 1) rfl 2 rfl 24 rfl ?_
    refine CVi C dX9_takes_24 9 k0 (by decide) (r := (RX9, TX9, 44)) rfl rfl hf (fun _ _ e => mX9_takesOf k0 e) lkRX9_483 (by decide) (by decide) rfl [] rfl (Nat.le_of_ble_eq_true rfl) 27 rfl (fun r24 h24 hf => ?_)
    exact A_iret C dX9_takes_27 E hf
  refine A_aload_n C dX9_takes_14 (i := 0) rfl 1 rfl 15 rfl ?_
  refine A_iload_n C dX9_takes_15 (i := 2) rfl 0 rfl 16 rfl ?_
  refine CVi C dX9_takes_16 9 k0 (by decide) (r := (RX9, TX9, 44)) rfl rfl hf (fun _ _ e => mX9_no k0 e) lkRX9_194 (by decide) (by decide) rfl [] rfl (Nat.le_of_ble_eq_true rfl) 19 rfl (fun r16 h16 hf => ?_)
  refine A_goto C dX9_takes_19 27 (by decide) ?_
  exact A_iret C dX9_takes_27 E hf
set_option maxRecDepth 20000 in
theorem mX9_gains {K : KX} {x0 : Nat} {x1 : Int32} (k0 : isK 9 x0) {h : HH} {rv : Int64} {hv : HH} (hf : fX9_gains x0 x1 h = some (rv, hv)) : MR K yX9_gains cX9_gains 4 (some .long) 4 [.ref (K.2.1 x0), .int x1] h (some (.long rv)) hv := by
  refine MR_of (by decide) (Nat.le_of_ble_eq_true rfl) (fun G C E hnl => ?_)
  have C : Ok K G 4 cX9_gains RX9 := C
  refine (show At K G 0 [(0, .ref (K.2.1 x0)), (1, .int x1)] [] h from ?_)
  unfold fX9_gains at hf
  refine A_aload_n C dX9_gains_0 (i := 0) rfl 0 rfl 1 rfl ?_
  refine CVv C dX9_gains_1 9 k0 (by decide) (r := (RX9, TX9, 44)) rfl rfl hf (fun _ e => mX9_good k0 e) lkRX9_191 (by decide) (by decide) rfl [] rfl (Nat.le_of_ble_eq_true rfl) 4 rfl (fun h1 hf => ?_)
  refine A_aload_n C dX9_gains_4 (i := 0) rfl 0 rfl 5 rfl ?_
  refine A_iload_n C dX9_gains_5 (i := 1) rfl 1 rfl 6 rfl ?_
  refine CVi C dX9_gains_6 9 k0 (by decide) (r := (RX9, TX9, 44)) rfl rfl hf (fun _ _ e => mX9_payWhy k0 e) lkRX9_480 (by decide) (by decide) rfl [] rfl (Nat.le_of_ble_eq_true rfl) 9 rfl (fun r6 h6 hf => ?_)
  refine A_istore_n C dX9_gains_9 (i := 2) rfl [(2, .int r6), (0, .ref (K.2.1 x0)), (1, .int x1)] (lt_nl hnl (by decide)) rfl 10 rfl ?_
  refine A_iload_n C dX9_gains_10 (i := 2) rfl 0 rfl 11 rfl ?_
  refine A_if_eq C dX9_gains_11 21 (by decide) 14 rfl hf (fun c11 hf => ?_) (fun c11 hf => ?_)
  · refine A_aload_n C dX9_gains_21 (i := 0) rfl 1 rfl 22 rfl ?_
    refine A_iload_n C dX9_gains_22 (i := 1) rfl 2 rfl 23 rfl ?_
    refine CVi C dX9_gains_23 9 k0 (by decide) (r := (RX9, TX9, 44)) rfl rfl hf (fun _ _ e => mX9_takesOf k0 e) lkRX9_483 (by decide) (by decide) rfl [] rfl (Nat.le_of_ble_eq_true rfl) 26 rfl (fun r23 h23 hf => ?_)
    refine A_istore_n C dX9_gains_26 (i := 3) rfl [(3, .int r23), (2, .int r6), (0, .ref (K.2.1 x0)), (1, .int x1)] (lt_nl hnl (by decide)) rfl 27 rfl ?_
    refine A_aload_n C dX9_gains_27 (i := 0) rfl 2 rfl 28 rfl ?_
    refine A_iload_n C dX9_gains_28 (i := 1) rfl 3 rfl 29 rfl ?_
    refine A_iload_n C dX9_gains_29 (i := 3) rfl 0 rfl 30 rfl ?_
    refine A_iload_n C dX9_gains_30 (i := 3) rfl 0 rfl 31 rfl ?_
    refine A_if_ne C dX9_gains_31 38 (by decide) 34 rfl hf (fun c31 hf => ?_) (fun c31 hf => ?_)
    · refine A_aload_n C dX9_gains_38 (i := 0) rfl 2 rfl 39 rfl ?_
      refine gfRX9_20 C k0 dX9_gains_39 42 rfl ?_
      refine A_sipush (v := 150) C dX9_gains_42 (by decide) 45 rfl ?_
      refine A_iload_n C dX9_gains_45 (i := 3) rfl 0 rfl 46 rfl ?_
      refine A_iadd C dX9_gains_46 47 rfl ?_
      refine A_iconst (v := 1) C dX9_gains_47 (by decide) 48 rfl ?_
      refine A_isub C dX9_gains_48 49 rfl ?_
      refine A_iald C dX9_gains_49 (of_9_15 k0) hf 50 rfl (fun hf => ?_)
      refine A_i2l C dX9_gains_50 51 rfl ?_
      refine CVl C dX9_gains_51 9 k0 (by decide) (r := (RX9, TX9, 44)) rfl rfl hf (fun _ _ e => mX9_gainOf k0 e) lkRX9_476 (by decide) (by decide) rfl [] rfl (Nat.le_of_ble_eq_true rfl) 54 rfl (fun r51 h51 hf => ?_)
      exact A_lret C dX9_gains_54 E hf
    refine A_lconst (v := 0) C dX9_gains_34 (by decide) 35 rfl ?_
    refine A_goto C dX9_gains_35 51 (by decide) ?_
    refine CVl C dX9_gains_51 9 k0 (by decide) (r := (RX9, TX9, 44)) rfl rfl hf (fun _ _ e => mX9_gainOf k0 e) lkRX9_476 (by decide) (by decide) rfl [] rfl (Nat.le_of_ble_eq_true rfl) 54 rfl (fun r51 h51 hf => ?_)
    exact A_lret C dX9_gains_54 E hf
  refine A_aload_n C dX9_gains_14 (i := 0) rfl 1 rfl 15 rfl ?_
  refine A_iload_n C dX9_gains_15 (i := 2) rfl 0 rfl 16 rfl ?_
  refine CVi C dX9_gains_16 9 k0 (by decide) (r := (RX9, TX9, 44)) rfl rfl hf (fun _ _ e => mX9_no k0 e) lkRX9_194 (by decide) (by decide) rfl [] rfl (Nat.le_of_ble_eq_true rfl) 19 rfl (fun r16 h16 hf => ?_)
  refine A_i2l C dX9_gains_19 20 rfl ?_
  exact A_lret C dX9_gains_20 E hf
set_option maxRecDepth 20000 in
theorem wX9_doesTake_b62 {K : KX} {G : GX} (C : Ok K G 3 cX9_doesTake RX9) (hnl : G.2.2.2.2.2.2.2.2.2.2.2.2.2 = 11) {rv : Bool} {hv : HH} (E : Endd K G (some .boolean) (some (.int (b2i rv))) hv) {x0 : Nat} {x1 : Int32} {x2 : Int32} {x5 : Int64} {x7 : Bool} {x8 : Int32} {s0 : Int64} {s1 : Int32} {s2 : Int32} {self15 : Bool → Int32 → HH → Option (Bool × HH)} (Hself15 : ∀ (x7 : Bool) (x8 : Int32) (h : HH), self15 x7 x8 h = some (rv, hv) → At K G 15 [(0, .ref (K.2.1 x0)), (1, .int x1), (2, .int x2), (5, .long x5), (7, .int (b2i x7)), (8, .int x8)] [] h) (kx0 : isK 9 x0) {h : HH} (hf : fX9_doesTake_b62 self15 x0 x1 x2 x5 x7 x8 s0 s1 s2 h = some (rv, hv)) : At K G 62 [(0, .ref (K.2.1 x0)), (1, .int x1), (2, .int x2), (5, .long x5), (7, .int (b2i x7)), (8, .int x8)] [.long s0, .int s1, .int s2, .ref (K.2.1 x0)] h := by
  unfold fX9_doesTake_b62 at hf
  refine CVl C dX9_doesTake_62 9 kx0 (by decide) (r := (RX9, TX9, 44)) rfl rfl hf (fun _ _ e => mX9_gainOf kx0 e) lkRX9_476 (by decide) (by decide) rfl [] rfl (Nat.le_of_ble_eq_true rfl) 65 rfl (fun r62 h62 hf => ?_)
  refine A_lstore C dX9_doesTake_65 [(9, .long r62), (0, .ref (K.2.1 x0)), (1, .int x1), (2, .int x2), (5, .long x5), (7, .int (b2i x7)), (8, .int x8)] (lt_nl hnl (by decide)) rfl 67 rfl ?_
  refine A_iload C dX9_doesTake_67 5 rfl 69 rfl ?_
  refine A_z_eq C dX9_doesTake_69 101 (by decide) 72 rfl hf (fun c69 hf => ?_) (fun c69 hf => ?_)
  · refine A_iconst (v := 0) C dX9_doesTake_101 (by decide) 102 rfl ?_
    refine A_istore C dX9_doesTake_102 [(7, .int 0), (9, .long r62), (0, .ref (K.2.1 x0)), (1, .int x1), (2, .int x2), (5, .long x5), (8, .int x8)] (lt_nl hnl (by decide)) rfl 104 rfl ?_
    refine A_iinc (v := (x8 + 1)) C dX9_doesTake_104 6 rfl rfl [(8, .int (x8 + 1)), (7, .int 0), (9, .long r62), (0, .ref (K.2.1 x0)), (1, .int x1), (2, .int x2), (5, .long x5)] (lt_nl hnl (by decide)) rfl 107 rfl ?_
    refine A_goto C dX9_doesTake_107 15 (by decide) ?_
    refine A_sub [3, 4, 5, 6, 1, 0] (lv' := [(0, .ref (K.2.1 x0)), (1, .int x1), (2, .int x2), (5, .long x5), (7, .int (b2i false)), (8, .int (x8 + 1))]) rfl ?_
    exact Hself15 _ _ _ hf
  refine A_iload C dX9_doesTake_72 6 rfl 74 rfl ?_
  refine A_iload_n C dX9_doesTake_74 (i := 2) rfl 3 rfl 75 rfl ?_
  refine A_icmp_ge C dX9_doesTake_75 89 (by decide) 78 rfl hf (fun c75 hf => ?_) (fun c75 hf => ?_)
  · refine A_lload C dX9_doesTake_89 4 rfl 91 rfl ?_
    refine A_lload C dX9_doesTake_91 0 rfl 93 rfl ?_
    refine A_l_lt C dX9_doesTake_93 dX9_doesTake_94 101 (by decide) 97 rfl hf (fun c93 hf => ?_) (fun c93 hf => ?_)
    · refine A_iconst (v := 0) C dX9_doesTake_101 (by decide) 102 rfl ?_
      refine A_istore C dX9_doesTake_102 [(7, .int 0), (9, .long r62), (0, .ref (K.2.1 x0)), (1, .int x1), (2, .int x2), (5, .long x5), (8, .int x8)] (lt_nl hnl (by decide)) rfl 104 rfl ?_
      refine A_iinc (v := (x8 + 1)) C dX9_doesTake_104 6 rfl rfl [(8, .int (x8 + 1)), (7, .int 0), (9, .long r62), (0, .ref (K.2.1 x0)), (1, .int x1), (2, .int x2), (5, .long x5)] (lt_nl hnl (by decide)) rfl 107 rfl ?_
      refine A_goto C dX9_doesTake_107 15 (by decide) ?_
      refine A_sub [3, 4, 5, 6, 1, 0] (lv' := [(0, .ref (K.2.1 x0)), (1, .int x1), (2, .int x2), (5, .long x5), (7, .int (b2i false)), (8, .int (x8 + 1))]) rfl ?_
      exact Hself15 _ _ _ hf
    refine A_iconst (v := 1) C dX9_doesTake_97 (by decide) 98 rfl ?_
    refine A_goto C dX9_doesTake_98 102 (by decide) ?_
    refine A_istore C dX9_doesTake_102 [(7, .int 1), (9, .long r62), (0, .ref (K.2.1 x0)), (1, .int x1), (2, .int x2), (5, .long x5), (8, .int x8)] (lt_nl hnl (by decide)) rfl 104 rfl ?_
    refine A_iinc (v := (x8 + 1)) C dX9_doesTake_104 6 rfl rfl [(8, .int (x8 + 1)), (7, .int 1), (9, .long r62), (0, .ref (K.2.1 x0)), (1, .int x1), (2, .int x2), (5, .long x5)] (lt_nl hnl (by decide)) rfl 107 rfl ?_
    refine A_goto C dX9_doesTake_107 15 (by decide) ?_
    refine A_sub [3, 4, 5, 6, 1, 0] (lv' := [(0, .ref (K.2.1 x0)), (1, .int x1), (2, .int x2), (5, .long x5), (7, .int (b2i true)), (8, .int (x8 + 1))]) rfl ?_
    exact Hself15 _ _ _ hf
  refine A_lload C dX9_doesTake_78 4 rfl 80 rfl ?_
  refine A_lload C dX9_doesTake_80 0 rfl 82 rfl ?_
  refine A_l_le C dX9_doesTake_82 dX9_doesTake_83 101 (by decide) 86 rfl hf (fun c82 hf => ?_) (fun c82 hf => ?_)
  · refine A_iconst (v := 0) C dX9_doesTake_101 (by decide) 102 rfl ?_
    refine A_istore C dX9_doesTake_102 [(7, .int 0), (9, .long r62), (0, .ref (K.2.1 x0)), (1, .int x1), (2, .int x2), (5, .long x5), (8, .int x8)] (lt_nl hnl (by decide)) rfl 104 rfl ?_
    refine A_iinc (v := (x8 + 1)) C dX9_doesTake_104 6 rfl rfl [(8, .int (x8 + 1)), (7, .int 0), (9, .long r62), (0, .ref (K.2.1 x0)), (1, .int x1), (2, .int x2), (5, .long x5)] (lt_nl hnl (by decide)) rfl 107 rfl ?_
    refine A_goto C dX9_doesTake_107 15 (by decide) ?_
    refine A_sub [3, 4, 5, 6, 1, 0] (lv' := [(0, .ref (K.2.1 x0)), (1, .int x1), (2, .int x2), (5, .long x5), (7, .int (b2i false)), (8, .int (x8 + 1))]) rfl ?_
    exact Hself15 _ _ _ hf
  refine A_goto C dX9_doesTake_86 97 (by decide) ?_
  refine A_iconst (v := 1) C dX9_doesTake_97 (by decide) 98 rfl ?_
  refine A_goto C dX9_doesTake_98 102 (by decide) ?_
  refine A_istore C dX9_doesTake_102 [(7, .int 1), (9, .long r62), (0, .ref (K.2.1 x0)), (1, .int x1), (2, .int x2), (5, .long x5), (8, .int x8)] (lt_nl hnl (by decide)) rfl 104 rfl ?_
  refine A_iinc (v := (x8 + 1)) C dX9_doesTake_104 6 rfl rfl [(8, .int (x8 + 1)), (7, .int 1), (9, .long r62), (0, .ref (K.2.1 x0)), (1, .int x1), (2, .int x2), (5, .long x5)] (lt_nl hnl (by decide)) rfl 107 rfl ?_
  refine A_goto C dX9_doesTake_107 15 (by decide) ?_
  refine A_sub [3, 4, 5, 6, 1, 0] (lv' := [(0, .ref (K.2.1 x0)), (1, .int x1), (2, .int x2), (5, .long x5), (7, .int (b2i true)), (8, .int (x8 + 1))]) rfl ?_
  exact Hself15 _ _ _ hf
set_option maxRecDepth 20000 in
theorem wX9_doesTake_L15 {K : KX} {G : GX} (C : Ok K G 3 cX9_doesTake RX9) (hnl : G.2.2.2.2.2.2.2.2.2.2.2.2.2 = 11) {rv : Bool} {hv : HH} (E : Endd K G (some .boolean) (some (.int (b2i rv))) hv) {x0 : Nat} {x1 : Int32} {x2 : Int32} {x5 : Int64}   (kx0 : isK 9 x0) : ∀ (self15 : Bool → Int32 → HH → Option (Bool × HH)), (∀ (x7 : Bool) (x8 : Int32) (h : HH), self15 x7 x8 h = some (rv, hv) → At K G 15 [(0, .ref (K.2.1 x0)), (1, .int x1), (2, .int x2), (5, .long x5), (7, .int (b2i x7)), (8, .int x8)] [] h) → ∀ (x7 : Bool) (x8 : Int32) (h : HH), fX9_doesTake_L15 x0 x1 x2 x5 self15 x7 x8 h = some (rv, hv) → At K G 15 [(0, .ref (K.2.1 x0)), (1, .int x1), (2, .int x2), (5, .long x5), (7, .int (b2i x7)), (8, .int x8)] [] h := by
  intro self15 Hself15 x7 x8 h hf
  unfold fX9_doesTake_L15 at hf
  refine A_iload C dX9_doesTake_15 5 rfl 17 rfl ?_
  refine A_aload_n C dX9_doesTake_17 (i := 0) rfl 0 rfl 18 rfl ?_
  refine gfRX9_20 C kx0 dX9_doesTake_18 21 rfl ?_
  refine A_iconst (v := 0) C dX9_doesTake_21 (by decide) 22 rfl ?_
  refine A_iald C dX9_doesTake_22 (of_9_15 kx0) hf 23 rfl (fun hf => ?_)
  refine A_icmp_gt C dX9_doesTake_23 110 (by decide) 26 rfl hf (fun c23 hf => ?_) (fun c23 hf => ?_)
  · refine A_iload C dX9_doesTake_110 4 rfl 112 rfl ?_
    exact A_zret (x := x7) C dX9_doesTake_112 E hf
  refine A_iload C dX9_doesTake_26 5 rfl 28 rfl ?_
  refine A_iload_n C dX9_doesTake_28 (i := 2) rfl 2 rfl 29 rfl ?_
  refine A_icmp_ne C dX9_doesTake_29 35 (by decide) 32 rfl hf (fun c29 hf => ?_) (fun c29 hf => ?_)
  · refine A_aload_n C dX9_doesTake_35 (i := 0) rfl 0 rfl 36 rfl ?_
    refine A_iload_n C dX9_doesTake_36 (i := 1) rfl 1 rfl 37 rfl ?_
    refine A_iload C dX9_doesTake_37 5 rfl 39 rfl ?_
    refine A_iload C dX9_doesTake_39 5 rfl 41 rfl ?_
    refine A_if_ne C dX9_doesTake_41 48 (by decide) 44 rfl hf (fun c41 hf => ?_) (fun c41 hf => ?_)
    · refine A_aload_n C dX9_doesTake_48 (i := 0) rfl 0 rfl 49 rfl ?_
      refine gfRX9_20 C kx0 dX9_doesTake_49 52 rfl ?_
      refine A_sipush (v := 150) C dX9_doesTake_52 (by decide) 55 rfl ?_
      refine A_iload C dX9_doesTake_55 5 rfl 57 rfl ?_
      refine A_iadd C dX9_doesTake_57 58 rfl ?_
      refine A_iconst (v := 1) C dX9_doesTake_58 (by decide) 59 rfl ?_
      refine A_isub C dX9_doesTake_59 60 rfl ?_
      refine A_iald C dX9_doesTake_60 (of_9_15 kx0) hf 61 rfl (fun hf => ?_)
      refine A_i2l C dX9_doesTake_61 62 rfl ?_
      exact wX9_doesTake_b62 C hnl E Hself15 kx0 hf
    refine A_lconst (v := 0) C dX9_doesTake_44 (by decide) 45 rfl ?_
    refine A_goto C dX9_doesTake_45 62 (by decide) ?_
    exact wX9_doesTake_b62 C hnl E Hself15 kx0 hf
  refine A_goto C dX9_doesTake_32 104 (by decide) ?_
  refine A_iinc (v := (x8 + 1)) C dX9_doesTake_104 5 rfl rfl [(8, .int (x8 + 1)), (0, .ref (K.2.1 x0)), (1, .int x1), (2, .int x2), (5, .long x5), (7, .int (b2i x7))] (lt_nl hnl (by decide)) rfl 107 rfl ?_
  refine A_goto C dX9_doesTake_107 15 (by decide) ?_
  refine A_sub [1, 2, 3, 4, 5, 0] (lv' := [(0, .ref (K.2.1 x0)), (1, .int x1), (2, .int x2), (5, .long x5), (7, .int (b2i x7)), (8, .int (x8 + 1))]) rfl ?_
  exact Hself15 _ _ _ hf
set_option maxRecDepth 20000 in
theorem mX9_doesTake {K : KX} {x0 : Nat} {x1 : Int32} {x2 : Int32} {x3 : Int64} (k0 : isK 9 x0) {h : HH} {rv : Bool} {hv : HH} (hf : fX9_doesTake x0 x1 x2 x3 h = some (rv, hv)) : MR K yX9_doesTake cX9_doesTake 11 (some .boolean) 3 [.ref (K.2.1 x0), .int x1, .int x2, .long x3] h (some (.int (b2i rv))) hv := by
  refine MR_of (by decide) (Nat.le_of_ble_eq_true rfl) (fun G C E hnl => ?_)
  have C : Ok K G 3 cX9_doesTake RX9 := C
  refine (show At K G 0 [(0, .ref (K.2.1 x0)), (1, .int x1), (2, .int x2), (3, .long x3)] [] h from ?_)
  unfold fX9_doesTake at hf
  refine A_aload_n C dX9_doesTake_0 (i := 0) rfl 0 rfl 1 rfl ?_
  refine A_iload_n C dX9_doesTake_1 (i := 1) rfl 1 rfl 2 rfl ?_
  refine A_iload_n C dX9_doesTake_2 (i := 2) rfl 2 rfl 3 rfl ?_
  refine A_lload_n C dX9_doesTake_3 (i := 3) rfl 3 rfl 4 rfl ?_
  refine CVl C dX9_doesTake_4 9 k0 (by decide) (r := (RX9, TX9, 44)) rfl rfl hf (fun _ _ e => mX9_gainOf k0 e) lkRX9_476 (by decide) (by decide) rfl [] rfl (Nat.le_of_ble_eq_true rfl) 7 rfl (fun r4 h4 hf => ?_)
  refine A_lstore C dX9_doesTake_7 [(5, .long r4), (0, .ref (K.2.1 x0)), (1, .int x1), (2, .int x2), (3, .long x3)] (lt_nl hnl (by decide)) rfl 9 rfl ?_
  refine A_iconst (v := 1) C dX9_doesTake_9 (by decide) 10 rfl ?_
  refine A_istore C dX9_doesTake_10 [(7, .int 1), (5, .long r4), (0, .ref (K.2.1 x0)), (1, .int x1), (2, .int x2), (3, .long x3)] (lt_nl hnl (by decide)) rfl 12 rfl ?_
  refine A_iconst (v := 0) C dX9_doesTake_12 (by decide) 13 rfl ?_
  refine A_istore C dX9_doesTake_13 [(8, .int 0), (7, .int 1), (5, .long r4), (0, .ref (K.2.1 x0)), (1, .int x1), (2, .int x2), (3, .long x3)] (lt_nl hnl (by decide)) rfl 15 rfl ?_
  refine A_sub [3, 4, 5, 2, 1, 0] (lv' := [(0, .ref (K.2.1 x0)), (1, .int x1), (2, .int x2), (5, .long r4), (7, .int (b2i true)), (8, .int 0)]) rfl ?_
  refine lq2_at (wX9_doesTake_L15 C hnl E k0) FU _ _ _ hf
set_option maxRecDepth 20000 in
theorem wX9_price_L69 {K : KX} {G : GX} (C : Ok K G 4 cX9_price RX9) (hnl : G.2.2.2.2.2.2.2.2.2.2.2.2.2 = 7) {rv : Int32} {hv : HH} (E : Endd K G (some .int) (some (.int rv)) hv) {x0 : Nat} {x1 : Int32} {x2 : Int32}   (kx0 : isK 9 x0) : ∀ (self69 : Int32 → Int32 → HH → Option (Int32 × HH)), (∀ (x4 : Int32) (x5 : Int32) (h : HH), self69 x4 x5 h = some (rv, hv) → At K G 69 [(0, .ref (K.2.1 x0)), (1, .int x1), (2, .int x2), (4, .int x4), (5, .int x5)] [] h) → ∀ (x4 : Int32) (x5 : Int32) (h : HH), fX9_price_L69 x0 x1 x2 self69 x4 x5 h = some (rv, hv) → At K G 69 [(0, .ref (K.2.1 x0)), (1, .int x1), (2, .int x2), (4, .int x4), (5, .int x5)] [] h := by
  intro self69 Hself69 x4 x5 h hf
  unfold fX9_price_L69 at hf
  refine A_iload C dX9_price_69 4 rfl 71 rfl ?_
  refine A_iload C dX9_price_71 3 rfl 73 rfl ?_
  refine A_isub C dX9_price_73 74 rfl ?_
  refine A_iconst (v := 1) C dX9_price_74 (by decide) 75 rfl ?_
  refine A_icmp_le C dX9_price_75 116 (by decide) 78 rfl hf (fun c75 hf => ?_) (fun c75 hf => ?_)
  · refine A_iload C dX9_price_116 4 rfl 118 rfl ?_
    exact A_iret C dX9_price_118 E hf
  refine A_iload C dX9_price_78 3 rfl 80 rfl ?_
  refine A_iload C dX9_price_80 4 rfl 82 rfl ?_
  refine A_iload C dX9_price_82 3 rfl 84 rfl ?_
  refine A_isub C dX9_price_84 85 rfl ?_
  refine A_iconst (v := 2) C dX9_price_85 (by decide) 86 rfl ?_
  refine A_idiv C dX9_price_86 (by decide) 87 rfl ?_
  refine A_iadd C dX9_price_87 88 rfl ?_
  refine A_namI hf (fun y1 hf => ?_)
  refine A_istore C dX9_price_88 [(6, .int y1), (0, .ref (K.2.1 x0)), (1, .int x1), (2, .int x2), (4, .int x4), (5, .int x5)] (lt_nl hnl (by decide)) rfl 90 rfl ?_
  refine A_aload_n C dX9_price_90 (i := 0) rfl 1 rfl 91 rfl ?_
  refine A_iload_n C dX9_price_91 (i := 1) rfl 2 rfl 92 rfl ?_
  refine A_iload_n C dX9_price_92 (i := 2) rfl 3 rfl 93 rfl ?_
  refine A_iload C dX9_price_93 0 rfl 95 rfl ?_
  refine A_i2l C dX9_price_95 96 rfl ?_
  refine CVz C dX9_price_96 9 kx0 (by decide) (r := (RX9, TX9, 44)) rfl rfl hf (fun _ _ e => mX9_doesTake kx0 e) lkRX9_488 (by decide) (by decide) rfl [] rfl (Nat.le_of_ble_eq_true rfl) 99 rfl (fun r96 h96 hf => ?_)
  refine A_z_eq C dX9_price_99 109 (by decide) 102 rfl hf (fun c99 hf => ?_) (fun c99 hf => ?_)
  · refine A_iload C dX9_price_109 0 rfl 111 rfl ?_
    refine A_istore C dX9_price_111 [(4, .int y1), (6, .int y1), (0, .ref (K.2.1 x0)), (1, .int x1), (2, .int x2), (5, .int x5)] (lt_nl hnl (by decide)) rfl 113 rfl ?_
    refine A_goto C dX9_price_113 69 (by decide) ?_
    refine A_sub [2, 3, 4, 0, 5] (lv' := [(0, .ref (K.2.1 x0)), (1, .int x1), (2, .int x2), (4, .int y1), (5, .int x5)]) rfl ?_
    exact Hself69 _ _ _ hf
  refine A_iload C dX9_price_102 0 rfl 104 rfl ?_
  refine A_istore C dX9_price_104 [(5, .int y1), (6, .int y1), (0, .ref (K.2.1 x0)), (1, .int x1), (2, .int x2), (4, .int x4)] (lt_nl hnl (by decide)) rfl 106 rfl ?_
  refine A_goto C dX9_price_106 113 (by decide) ?_
  refine A_goto C dX9_price_113 69 (by decide) ?_
  refine A_sub [2, 3, 4, 5, 0] (lv' := [(0, .ref (K.2.1 x0)), (1, .int x1), (2, .int x2), (4, .int x4), (5, .int y1)]) rfl ?_
  exact Hself69 _ _ _ hf
set_option maxRecDepth 20000 in
theorem mX9_price {K : KX} {x0 : Nat} {x1 : Int32} {x2 : Int32} (k0 : isK 9 x0) {h : HH} {rv : Int32} {hv : HH} (hf : fX9_price x0 x1 x2 h = some (rv, hv)) : MR K yX9_price cX9_price 7 (some .int) 4 [.ref (K.2.1 x0), .int x1, .int x2] h (some (.int rv)) hv := by
  refine MR_of (by decide) (Nat.le_of_ble_eq_true rfl) (fun G C E hnl => ?_)
  have C : Ok K G 4 cX9_price RX9 := C
  refine (show At K G 0 [(0, .ref (K.2.1 x0)), (1, .int x1), (2, .int x2)] [] h from ?_)
  unfold fX9_price at hf
  refine A_aload_n C dX9_price_0 (i := 0) rfl 0 rfl 1 rfl ?_
  refine CVv C dX9_price_1 9 k0 (by decide) (r := (RX9, TX9, 44)) rfl rfl hf (fun _ e => mX9_good k0 e) lkRX9_191 (by decide) (by decide) rfl [] rfl (Nat.le_of_ble_eq_true rfl) 4 rfl (fun h1 hf => ?_)
  refine A_aload_n C dX9_price_4 (i := 0) rfl 0 rfl 5 rfl ?_
  refine A_iload_n C dX9_price_5 (i := 1) rfl 1 rfl 6 rfl ?_
  refine CVz C dX9_price_6 9 k0 (by decide) (r := (RX9, TX9, 44)) rfl rfl hf (fun _ _ e => mX9_isSleeper k0 e) lkRX9_353 (by decide) (by decide) rfl [] rfl (Nat.le_of_ble_eq_true rfl) 9 rfl (fun r6 h6 hf => ?_)
  refine A_z_eq C dX9_price_9 24 (by decide) 12 rfl hf (fun c9 hf => ?_) (fun c9 hf => ?_)
  · refine A_aload_n C dX9_price_24 (i := 0) rfl 0 rfl 25 rfl ?_
    refine A_iconst (v := 1) C dX9_price_25 (by decide) 26 rfl ?_
    refine CVi C dX9_price_26 9 k0 (by decide) (r := (RX9, TX9, 44)) rfl rfl hf (fun _ _ e => mX9_no k0 e) lkRX9_194 (by decide) (by decide) rfl [] rfl (Nat.le_of_ble_eq_true rfl) 29 rfl (fun r26 h26 hf => ?_)
    exact A_iret C dX9_price_29 E hf
  refine A_aload_n C dX9_price_12 (i := 0) rfl 0 rfl 13 rfl ?_
  refine A_iload_n C dX9_price_13 (i := 2) rfl 2 rfl 14 rfl ?_
  refine CVz C dX9_price_14 9 k0 (by decide) (r := (RX9, TX9, 44)) rfl rfl hf (fun _ _ e => mX9_isFloor k0 e) lkRX9_350 (by decide) (by decide) rfl [] rfl (Nat.le_of_ble_eq_true rfl) 17 rfl (fun r14 h14 hf => ?_)
  refine A_z_eq C dX9_price_17 24 (by decide) 20 rfl hf (fun c17 hf => ?_) (fun c17 hf => ?_)
  · refine A_aload_n C dX9_price_24 (i := 0) rfl 0 rfl 25 rfl ?_
    refine A_iconst (v := 1) C dX9_price_25 (by decide) 26 rfl ?_
    refine CVi C dX9_price_26 9 k0 (by decide) (r := (RX9, TX9, 44)) rfl rfl hf (fun _ _ e => mX9_no k0 e) lkRX9_194 (by decide) (by decide) rfl [] rfl (Nat.le_of_ble_eq_true rfl) 29 rfl (fun r26 h26 hf => ?_)
    exact A_iret C dX9_price_29 E hf
  refine A_iload_n C dX9_price_20 (i := 2) rfl 2 rfl 21 rfl ?_
  refine A_if_ne C dX9_price_21 30 (by decide) 24 rfl hf (fun c21 hf => ?_) (fun c21 hf => ?_)
  · refine A_aload_n C dX9_price_30 (i := 0) rfl 0 rfl 31 rfl ?_
    refine A_iload_n C dX9_price_31 (i := 1) rfl 1 rfl 32 rfl ?_
    refine CVi C dX9_price_32 9 k0 (by decide) (r := (RX9, TX9, 44)) rfl rfl hf (fun _ _ e => mX9_payWhy k0 e) lkRX9_480 (by decide) (by decide) rfl [] rfl (Nat.le_of_ble_eq_true rfl) 35 rfl (fun r32 h32 hf => ?_)
    refine A_istore_n C dX9_price_35 (i := 3) rfl [(3, .int r32), (0, .ref (K.2.1 x0)), (1, .int x1), (2, .int x2)] (lt_nl hnl (by decide)) rfl 36 rfl ?_
    refine A_iload_n C dX9_price_36 (i := 3) rfl 0 rfl 37 rfl ?_
    refine A_if_eq C dX9_price_37 46 (by decide) 40 rfl hf (fun c37 hf => ?_) (fun c37 hf => ?_)
    · refine A_aload_n C dX9_price_46 (i := 0) rfl 1 rfl 47 rfl ?_
      refine A_iload_n C dX9_price_47 (i := 1) rfl 2 rfl 48 rfl ?_
      refine A_iload_n C dX9_price_48 (i := 2) rfl 3 rfl 49 rfl ?_
      refine A_ldc2 C dX9_price_49 cRX9_486 52 rfl ?_
      refine CVz C dX9_price_52 9 k0 (by decide) (r := (RX9, TX9, 44)) rfl rfl hf (fun _ _ e => mX9_doesTake k0 e) lkRX9_488 (by decide) (by decide) rfl [] rfl (Nat.le_of_ble_eq_true rfl) 55 rfl (fun r52 h52 hf => ?_)
      refine A_z_ne C dX9_price_55 61 (by decide) 58 rfl hf (fun c55 hf => ?_) (fun c55 hf => ?_)
      · refine A_iconst (v := (-1)) C dX9_price_61 (by decide) 62 rfl ?_
        refine A_istore C dX9_price_62 [(4, .int (-1)), (3, .int r32), (0, .ref (K.2.1 x0)), (1, .int x1), (2, .int x2)] (lt_nl hnl (by decide)) rfl 64 rfl ?_
        refine A_ldcw C dX9_price_64 cRX9_492 67 rfl ?_
        refine A_istore C dX9_price_67 [(5, .int 99999), (4, .int (-1)), (3, .int r32), (0, .ref (K.2.1 x0)), (1, .int x1), (2, .int x2)] (lt_nl hnl (by decide)) rfl 69 rfl ?_
        refine A_sub [3, 4, 5, 1, 0] (lv' := [(0, .ref (K.2.1 x0)), (1, .int x1), (2, .int x2), (4, .int (-1)), (5, .int 99999)]) rfl ?_
        refine lq2_at (wX9_price_L69 C hnl E k0) FU _ _ _ hf
      refine A_bipush (v := (-2)) C dX9_price_58 (by decide) 60 rfl ?_
      exact A_iret C dX9_price_60 E hf
    refine A_aload_n C dX9_price_40 (i := 0) rfl 1 rfl 41 rfl ?_
    refine A_iload_n C dX9_price_41 (i := 3) rfl 0 rfl 42 rfl ?_
    refine CVi C dX9_price_42 9 k0 (by decide) (r := (RX9, TX9, 44)) rfl rfl hf (fun _ _ e => mX9_no k0 e) lkRX9_194 (by decide) (by decide) rfl [] rfl (Nat.le_of_ble_eq_true rfl) 45 rfl (fun r42 h42 hf => ?_)
    exact A_iret C dX9_price_45 E hf
  refine A_aload_n C dX9_price_24 (i := 0) rfl 0 rfl 25 rfl ?_
  refine A_iconst (v := 1) C dX9_price_25 (by decide) 26 rfl ?_
  refine CVi C dX9_price_26 9 k0 (by decide) (r := (RX9, TX9, 44)) rfl rfl hf (fun _ _ e => mX9_no k0 e) lkRX9_194 (by decide) (by decide) rfl [] rfl (Nat.le_of_ble_eq_true rfl) 29 rfl (fun r26 h26 hf => ?_)
  exact A_iret C dX9_price_29 E hf
set_option maxRecDepth 20000 in
theorem mX9_enough {K : KX} {x0 : Nat} {x1 : Int32} {x2 : Int32} (k0 : isK 9 x0) {h : HH} {rv : Int32} {hv : HH} (hf : fX9_enough x0 x1 x2 h = some (rv, hv)) : MR K yX9_enough cX9_enough 4 (some .int) 3 [.ref (K.2.1 x0), .int x1, .int x2] h (some (.int rv)) hv := by
  refine MR_of (by decide) (Nat.le_of_ble_eq_true rfl) (fun G C E hnl => ?_)
  have C : Ok K G 3 cX9_enough RX9 := C
  refine (show At K G 0 [(0, .ref (K.2.1 x0)), (1, .int x1), (2, .int x2)] [] h from ?_)
  unfold fX9_enough at hf
  refine A_aload_n C dX9_enough_0 (i := 0) rfl 0 rfl 1 rfl ?_
  refine CVv C dX9_enough_1 9 k0 (by decide) (r := (RX9, TX9, 44)) rfl rfl hf (fun _ e => mX9_good k0 e) lkRX9_191 (by decide) (by decide) rfl [] rfl (Nat.le_of_ble_eq_true rfl) 4 rfl (fun h1 hf => ?_)
  refine A_aload_n C dX9_enough_4 (i := 0) rfl 0 rfl 5 rfl ?_
  refine A_iload_n C dX9_enough_5 (i := 1) rfl 1 rfl 6 rfl ?_
  refine CVz C dX9_enough_6 9 k0 (by decide) (r := (RX9, TX9, 44)) rfl rfl hf (fun _ _ e => mX9_isSleeper k0 e) lkRX9_353 (by decide) (by decide) rfl [] rfl (Nat.le_of_ble_eq_true rfl) 9 rfl (fun r6 h6 hf => ?_)
  refine A_z_eq C dX9_enough_9 24 (by decide) 12 rfl hf (fun c9 hf => ?_) (fun c9 hf => ?_)
  · refine A_aload_n C dX9_enough_24 (i := 0) rfl 0 rfl 25 rfl ?_
    refine A_iconst (v := 1) C dX9_enough_25 (by decide) 26 rfl ?_
    refine CVi C dX9_enough_26 9 k0 (by decide) (r := (RX9, TX9, 44)) rfl rfl hf (fun _ _ e => mX9_no k0 e) lkRX9_194 (by decide) (by decide) rfl [] rfl (Nat.le_of_ble_eq_true rfl) 29 rfl (fun r26 h26 hf => ?_)
    exact A_iret C dX9_enough_29 E hf
  refine A_aload_n C dX9_enough_12 (i := 0) rfl 0 rfl 13 rfl ?_
  refine A_iload_n C dX9_enough_13 (i := 2) rfl 2 rfl 14 rfl ?_
  refine CVz C dX9_enough_14 9 k0 (by decide) (r := (RX9, TX9, 44)) rfl rfl hf (fun _ _ e => mX9_isFloor k0 e) lkRX9_350 (by decide) (by decide) rfl [] rfl (Nat.le_of_ble_eq_true rfl) 17 rfl (fun r14 h14 hf => ?_)
  refine A_z_eq C dX9_enough_17 24 (by decide) 20 rfl hf (fun c17 hf => ?_) (fun c17 hf => ?_)
  · refine A_aload_n C dX9_enough_24 (i := 0) rfl 0 rfl 25 rfl ?_
    refine A_iconst (v := 1) C dX9_enough_25 (by decide) 26 rfl ?_
    refine CVi C dX9_enough_26 9 k0 (by decide) (r := (RX9, TX9, 44)) rfl rfl hf (fun _ _ e => mX9_no k0 e) lkRX9_194 (by decide) (by decide) rfl [] rfl (Nat.le_of_ble_eq_true rfl) 29 rfl (fun r26 h26 hf => ?_)
    exact A_iret C dX9_enough_29 E hf
  refine A_iload_n C dX9_enough_20 (i := 2) rfl 2 rfl 21 rfl ?_
  refine A_if_ne C dX9_enough_21 30 (by decide) 24 rfl hf (fun c21 hf => ?_) (fun c21 hf => ?_)
  · refine A_aload_n C dX9_enough_30 (i := 0) rfl 0 rfl 31 rfl ?_
    refine A_iload_n C dX9_enough_31 (i := 1) rfl 1 rfl 32 rfl ?_
    refine A_iconst (v := 2) C dX9_enough_32 (by decide) 33 rfl ?_
    refine CVi C dX9_enough_33 9 k0 (by decide) (r := (RX9, TX9, 44)) rfl rfl hf (fun _ _ e => mX9_of k0 e) lkRX9_335 (by decide) (by decide) rfl [] rfl (Nat.le_of_ble_eq_true rfl) 36 rfl (fun r33 h33 hf => ?_)
    refine A_iload_n C dX9_enough_36 (i := 2) rfl 2 rfl 37 rfl ?_
    refine A_imul C dX9_enough_37 38 rfl ?_
    refine A_iload_n C dX9_enough_38 (i := 2) rfl 2 rfl 39 rfl ?_
    refine A_imul C dX9_enough_39 40 rfl ?_
    refine A_aload_n C dX9_enough_40 (i := 0) rfl 0 rfl 41 rfl ?_
    refine A_iload_n C dX9_enough_41 (i := 2) rfl 2 rfl 42 rfl ?_
    refine CVi C dX9_enough_42 9 k0 (by decide) (r := (RX9, TX9, 44)) rfl rfl hf (fun _ _ e => mX9_quickOf k0 e) lkRX9_304 (by decide) (by decide) rfl [.int ((r33 * x2) * x2)] rfl (Nat.le_of_ble_eq_true rfl) 45 rfl (fun r42 h42 hf => ?_)
    refine A_idivG C dX9_enough_45 hf 46 rfl (fun hf => ?_)
    refine A_iconst (v := 1) C dX9_enough_46 (by decide) 47 rfl ?_
    refine A_iadd C dX9_enough_47 48 rfl ?_
    refine A_namI hf (fun y1 hf => ?_)
    refine A_istore_n C dX9_enough_48 (i := 3) rfl [(3, .int y1), (0, .ref (K.2.1 x0)), (1, .int x1), (2, .int x2)] (lt_nl hnl (by decide)) rfl 49 rfl ?_
    refine A_iload_n C dX9_enough_49 (i := 3) rfl 0 rfl 50 rfl ?_
    refine A_ldcw C dX9_enough_50 cRX9_492 53 rfl ?_
    refine A_icmp_le C dX9_enough_53 61 (by decide) 56 rfl hf (fun c53 hf => ?_) (fun c53 hf => ?_)
    · refine A_iload_n C dX9_enough_61 (i := 3) rfl 0 rfl 62 rfl ?_
      exact A_iret C dX9_enough_62 E hf
    refine A_bipush (v := (-2)) C dX9_enough_56 (by decide) 58 rfl ?_
    refine A_goto C dX9_enough_58 62 (by decide) ?_
    exact A_iret C dX9_enough_62 E hf
  refine A_aload_n C dX9_enough_24 (i := 0) rfl 0 rfl 25 rfl ?_
  refine A_iconst (v := 1) C dX9_enough_25 (by decide) 26 rfl ?_
  refine CVi C dX9_enough_26 9 k0 (by decide) (r := (RX9, TX9, 44)) rfl rfl hf (fun _ _ e => mX9_no k0 e) lkRX9_194 (by decide) (by decide) rfl [] rfl (Nat.le_of_ble_eq_true rfl) 29 rfl (fun r26 h26 hf => ?_)
  exact A_iret C dX9_enough_29 E hf
set_option maxRecDepth 20000 in
theorem wX9_doRatesFit_L37 {K : KX} {G : GX} (C : Ok K G 1 cX9_doRatesFit RX9) (hnl : G.2.2.2.2.2.2.2.2.2.2.2.2.2 = 7) {rv : Bool} {hv : HH} (E : Endd K G (some .boolean) (some (.int (b2i rv))) hv) {x0 : Nat} {x1 : Bool} {x2 : Int32} {x3 : Int32} {k37_69 : Int64 → HH → Option (Bool × HH)}  (Hk37_69 : ∀ (x4 : Int64) (h : HH), k37_69 x4 h = some (rv, hv) → At K G 69 [(0, .ref (K.2.1 x0)), (1, .int (b2i x1)), (2, .int x2), (3, .int x3), (4, .long x4)] [] h) (kx0 : isK 9 x0) : ∀ (self37 : Int64 → Int32 → HH → Option (Bool × HH)), (∀ (x4 : Int64) (x6 : Int32) (h : HH), self37 x4 x6 h = some (rv, hv) → At K G 37 [(0, .ref (K.2.1 x0)), (1, .int (b2i x1)), (2, .int x2), (3, .int x3), (4, .long x4), (6, .int x6)] [] h) → ∀ (x4 : Int64) (x6 : Int32) (h : HH), fX9_doRatesFit_L37 k37_69 x0 x1 x2 x3 self37 x4 x6 h = some (rv, hv) → At K G 37 [(0, .ref (K.2.1 x0)), (1, .int (b2i x1)), (2, .int x2), (3, .int x3), (4, .long x4), (6, .int x6)] [] h := by
  intro self37 Hself37 x4 x6 h hf
  unfold fX9_doRatesFit_L37 at hf
  refine A_iload C dX9_doRatesFit_37 5 rfl 39 rfl ?_
  refine A_aload_n C dX9_doRatesFit_39 (i := 0) rfl 0 rfl 40 rfl ?_
  refine gfRX9_20 C kx0 dX9_doRatesFit_40 43 rfl ?_
  refine A_iload_n C dX9_doRatesFit_43 (i := 3) rfl 3 rfl 44 rfl ?_
  refine A_iconst (v := 1) C dX9_doRatesFit_44 (by decide) 45 rfl ?_
  refine A_iadd C dX9_doRatesFit_45 46 rfl ?_
  refine A_iald C dX9_doRatesFit_46 (of_9_15 kx0) hf 47 rfl (fun hf => ?_)
  refine A_icmp_ge C dX9_doRatesFit_47 69 (by decide) 50 rfl hf (fun c47 hf => ?_) (fun c47 hf => ?_)
  · refine A_sub [0, 1, 2, 3, 4] (lv' := [(0, .ref (K.2.1 x0)), (1, .int (b2i x1)), (2, .int x2), (3, .int x3), (4, .long x4)]) rfl ?_
    exact Hk37_69 _ _ hf
  refine A_lload C dX9_doRatesFit_50 4 rfl 52 rfl ?_
  refine A_aload_n C dX9_doRatesFit_52 (i := 0) rfl 0 rfl 53 rfl ?_
  refine gfRX9_69 C kx0 dX9_doRatesFit_53 56 rfl ?_
  refine A_iload C dX9_doRatesFit_56 5 rfl 58 rfl ?_
  refine A_iald C dX9_doRatesFit_58 (of_9_43 kx0) hf 59 rfl (fun hf => ?_)
  refine A_i2l C dX9_doRatesFit_59 60 rfl ?_
  refine A_lmul C dX9_doRatesFit_60 61 rfl ?_
  refine A_namL hf (fun y3 hf => ?_)
  refine A_lstore C dX9_doRatesFit_61 [(4, .long y3), (0, .ref (K.2.1 x0)), (1, .int (b2i x1)), (2, .int x2), (3, .int x3), (6, .int x6)] (lt_nl hnl (by decide)) rfl 63 rfl ?_
  refine A_iinc (v := (x6 + 1)) C dX9_doRatesFit_63 5 rfl rfl [(6, .int (x6 + 1)), (4, .long y3), (0, .ref (K.2.1 x0)), (1, .int (b2i x1)), (2, .int x2), (3, .int x3)] (lt_nl hnl (by decide)) rfl 66 rfl ?_
  refine A_goto C dX9_doRatesFit_66 37 (by decide) ?_
  refine A_sub [2, 3, 4, 5, 1, 0] (lv' := [(0, .ref (K.2.1 x0)), (1, .int (b2i x1)), (2, .int x2), (3, .int x3), (4, .long y3), (6, .int (x6 + 1))]) rfl ?_
  exact Hself37 _ _ _ hf
set_option maxRecDepth 20000 in
theorem wX9_doRatesFit_L4 {K : KX} {G : GX} (C : Ok K G 1 cX9_doRatesFit RX9) (hnl : G.2.2.2.2.2.2.2.2.2.2.2.2.2 = 7) {rv : Bool} {hv : HH} (E : Endd K G (some .boolean) (some (.int (b2i rv))) hv) {x0 : Nat}   (kx0 : isK 9 x0) : ∀ (self4 : Bool → Int32 → HH → Option (Bool × HH)), (∀ (x1 : Bool) (x2 : Int32) (h : HH), self4 x1 x2 h = some (rv, hv) → At K G 4 [(0, .ref (K.2.1 x0)), (1, .int (b2i x1)), (2, .int x2)] [] h) → ∀ (x1 : Bool) (x2 : Int32) (h : HH), fX9_doRatesFit_L4 x0 self4 x1 x2 h = some (rv, hv) → At K G 4 [(0, .ref (K.2.1 x0)), (1, .int (b2i x1)), (2, .int x2)] [] h := by
  intro self4 Hself4 x1 x2 h hf
  unfold fX9_doRatesFit_L4 at hf
  refine A_iload_n C dX9_doRatesFit_4 (i := 2) rfl 2 rfl 5 rfl ?_
  refine A_aload_n C dX9_doRatesFit_5 (i := 0) rfl 0 rfl 6 rfl ?_
  refine gfRX9_20 C kx0 dX9_doRatesFit_6 9 rfl ?_
  refine A_bipush (v := 9) C dX9_doRatesFit_9 (by decide) 11 rfl ?_
  refine A_iald C dX9_doRatesFit_11 (of_9_15 kx0) hf 12 rfl (fun hf => ?_)
  refine A_icmp_ge C dX9_doRatesFit_12 98 (by decide) 15 rfl hf (fun c12 hf => ?_) (fun c12 hf => ?_)
  · refine A_iload_n C dX9_doRatesFit_98 (i := 1) rfl 1 rfl 99 rfl ?_
    exact A_zret (x := x1) C dX9_doRatesFit_99 E hf
  refine A_sipush (v := 172) C dX9_doRatesFit_15 (by decide) 18 rfl ?_
  refine A_iconst (v := 3) C dX9_doRatesFit_18 (by decide) 19 rfl ?_
  refine A_iload_n C dX9_doRatesFit_19 (i := 2) rfl 2 rfl 20 rfl ?_
  refine A_imul C dX9_doRatesFit_20 21 rfl ?_
  refine A_iadd C dX9_doRatesFit_21 22 rfl ?_
  refine A_namI hf (fun y1 hf => ?_)
  refine A_istore_n C dX9_doRatesFit_22 (i := 3) rfl [(3, .int y1), (0, .ref (K.2.1 x0)), (1, .int (b2i x1)), (2, .int x2)] (lt_nl hnl (by decide)) rfl 23 rfl ?_
  refine A_aload_n C dX9_doRatesFit_23 (i := 0) rfl 1 rfl 24 rfl ?_
  refine gfRX9_20 C kx0 dX9_doRatesFit_24 27 rfl ?_
  refine A_iload_n C dX9_doRatesFit_27 (i := 3) rfl 0 rfl 28 rfl ?_
  refine A_iconst (v := 2) C dX9_doRatesFit_28 (by decide) 29 rfl ?_
  refine A_iadd C dX9_doRatesFit_29 30 rfl ?_
  refine A_iald C dX9_doRatesFit_30 (of_9_15 kx0) hf 31 rfl (fun hf => ?_)
  refine A_i2l C dX9_doRatesFit_31 32 rfl ?_
  refine A_namL hf (fun y2 hf => ?_)
  refine A_lstore C dX9_doRatesFit_32 [(4, .long y2), (3, .int y1), (0, .ref (K.2.1 x0)), (1, .int (b2i x1)), (2, .int x2)] (lt_nl hnl (by decide)) rfl 34 rfl ?_
  refine A_iconst (v := 0) C dX9_doRatesFit_34 (by decide) 35 rfl ?_
  refine A_istore C dX9_doRatesFit_35 [(6, .int 0), (4, .long y2), (3, .int y1), (0, .ref (K.2.1 x0)), (1, .int (b2i x1)), (2, .int x2)] (lt_nl hnl (by decide)) rfl 37 rfl ?_
  refine A_sub [3, 4, 5, 2, 1, 0] (lv' := [(0, .ref (K.2.1 x0)), (1, .int (b2i x1)), (2, .int x2), (3, .int y1), (4, .long y2), (6, .int 0)]) rfl ?_
  refine lq2_at (wX9_doRatesFit_L37 C hnl E (fun x4 h hf => ?_) kx0) FU _ _ _ hf
  refine A_iload_n C dX9_doRatesFit_69 (i := 1) rfl 1 rfl 70 rfl ?_
  refine A_z_eq C dX9_doRatesFit_70 90 (by decide) 73 rfl hf (fun c70 hf => ?_) (fun c70 hf => ?_)
  · refine A_iconst (v := 0) C dX9_doRatesFit_90 (by decide) 91 rfl ?_
    refine A_istore_n C dX9_doRatesFit_91 (i := 1) rfl [(1, .int 0), (0, .ref (K.2.1 x0)), (2, .int x2), (3, .int y1), (4, .long x4)] (lt_nl hnl (by decide)) rfl 92 rfl ?_
    refine A_iinc (v := (x2 + 1)) C dX9_doRatesFit_92 2 rfl rfl [(2, .int (x2 + 1)), (1, .int 0), (0, .ref (K.2.1 x0)), (3, .int y1), (4, .long x4)] (lt_nl hnl (by decide)) rfl 95 rfl ?_
    refine A_goto C dX9_doRatesFit_95 4 (by decide) ?_
    refine A_sub [2, 1, 0] (lv' := [(0, .ref (K.2.1 x0)), (1, .int (b2i false)), (2, .int (x2 + 1))]) rfl ?_
    exact Hself4 _ _ _ hf
  refine A_lload C dX9_doRatesFit_73 4 rfl 75 rfl ?_
  refine A_aload_n C dX9_doRatesFit_75 (i := 0) rfl 0 rfl 76 rfl ?_
  refine gfRX9_20 C kx0 dX9_doRatesFit_76 79 rfl ?_
  refine A_iload_n C dX9_doRatesFit_79 (i := 3) rfl 3 rfl 80 rfl ?_
  refine A_iald C dX9_doRatesFit_80 (of_9_15 kx0) hf 81 rfl (fun hf => ?_)
  refine A_i2l C dX9_doRatesFit_81 82 rfl ?_
  refine A_l_ne C dX9_doRatesFit_82 dX9_doRatesFit_83 90 (by decide) 86 rfl hf (fun c82 hf => ?_) (fun c82 hf => ?_)
  · refine A_iconst (v := 0) C dX9_doRatesFit_90 (by decide) 91 rfl ?_
    refine A_istore_n C dX9_doRatesFit_91 (i := 1) rfl [(1, .int 0), (0, .ref (K.2.1 x0)), (2, .int x2), (3, .int y1), (4, .long x4)] (lt_nl hnl (by decide)) rfl 92 rfl ?_
    refine A_iinc (v := (x2 + 1)) C dX9_doRatesFit_92 2 rfl rfl [(2, .int (x2 + 1)), (1, .int 0), (0, .ref (K.2.1 x0)), (3, .int y1), (4, .long x4)] (lt_nl hnl (by decide)) rfl 95 rfl ?_
    refine A_goto C dX9_doRatesFit_95 4 (by decide) ?_
    refine A_sub [2, 1, 0] (lv' := [(0, .ref (K.2.1 x0)), (1, .int (b2i false)), (2, .int (x2 + 1))]) rfl ?_
    exact Hself4 _ _ _ hf
  refine A_iconst (v := 1) C dX9_doRatesFit_86 (by decide) 87 rfl ?_
  refine A_goto C dX9_doRatesFit_87 91 (by decide) ?_
  refine A_istore_n C dX9_doRatesFit_91 (i := 1) rfl [(1, .int 1), (0, .ref (K.2.1 x0)), (2, .int x2), (3, .int y1), (4, .long x4)] (lt_nl hnl (by decide)) rfl 92 rfl ?_
  refine A_iinc (v := (x2 + 1)) C dX9_doRatesFit_92 2 rfl rfl [(2, .int (x2 + 1)), (1, .int 1), (0, .ref (K.2.1 x0)), (3, .int y1), (4, .long x4)] (lt_nl hnl (by decide)) rfl 95 rfl ?_
  refine A_goto C dX9_doRatesFit_95 4 (by decide) ?_
  refine A_sub [2, 1, 0] (lv' := [(0, .ref (K.2.1 x0)), (1, .int (b2i true)), (2, .int (x2 + 1))]) rfl ?_
  exact Hself4 _ _ _ hf
set_option maxRecDepth 20000 in
theorem mX9_doRatesFit {K : KX} {x0 : Nat} (k0 : isK 9 x0) {h : HH} {rv : Bool} {hv : HH} (hf : fX9_doRatesFit x0 h = some (rv, hv)) : MR K yX9_doRatesFit cX9_doRatesFit 7 (some .boolean) 1 [.ref (K.2.1 x0)] h (some (.int (b2i rv))) hv := by
  refine MR_of (by decide) (Nat.le_of_ble_eq_true rfl) (fun G C E hnl => ?_)
  have C : Ok K G 1 cX9_doRatesFit RX9 := C
  refine (show At K G 0 [(0, .ref (K.2.1 x0))] [] h from ?_)
  unfold fX9_doRatesFit at hf
  refine A_iconst (v := 1) C dX9_doRatesFit_0 (by decide) 1 rfl ?_
  refine A_istore_n C dX9_doRatesFit_1 (i := 1) rfl [(1, .int 1), (0, .ref (K.2.1 x0))] (lt_nl hnl (by decide)) rfl 2 rfl ?_
  refine A_iconst (v := 0) C dX9_doRatesFit_2 (by decide) 3 rfl ?_
  refine A_istore_n C dX9_doRatesFit_3 (i := 2) rfl [(2, .int 0), (1, .int 1), (0, .ref (K.2.1 x0))] (lt_nl hnl (by decide)) rfl 4 rfl ?_
  refine A_sub [2, 1, 0] (lv' := [(0, .ref (K.2.1 x0)), (1, .int (b2i true)), (2, .int 0)]) rfl ?_
  refine lq2_at (wX9_doRatesFit_L4 C hnl E k0) FU _ _ _ hf
set_option maxRecDepth 20000 in
theorem wX9_seekRates_L7 {K : KX} {G : GX} (C : Ok K G 2 cX9_seekRates RX9) (hnl : G.2.2.2.2.2.2.2.2.2.2.2.2.2 = 5) {rv : HH} (E : Endd K G none none rv) {x0 : Nat} {k7_25 : HH → Option (HH)}  (Hk7_25 : ∀  (h : HH), k7_25  h = some rv → At K G 25 [(0, .ref (K.2.1 x0))] [] h) (kx0 : isK 9 x0) : ∀ (self7 : Int32 → HH → Option (HH)), (∀ (x1 : Int32) (h : HH), self7 x1 h = some rv → At K G 7 [(0, .ref (K.2.1 x0)), (1, .int x1)] [] h) → ∀ (x1 : Int32) (h : HH), fX9_seekRates_L7 k7_25 x0 self7 x1 h = some rv → At K G 7 [(0, .ref (K.2.1 x0)), (1, .int x1)] [] h := by
  intro self7 Hself7 x1 h hf
  unfold fX9_seekRates_L7 at hf
  refine A_iload_n C dX9_seekRates_7 (i := 1) rfl 1 rfl 8 rfl ?_
  refine A_iconst (v := 4) C dX9_seekRates_8 (by decide) 9 rfl ?_
  refine A_icmp_ge C dX9_seekRates_9 25 (by decide) 12 rfl hf (fun c9 hf => ?_) (fun c9 hf => ?_)
  · refine A_sub [0] (lv' := [(0, .ref (K.2.1 x0))]) rfl ?_
    exact Hk7_25 _ hf
  refine A_aload_n C dX9_seekRates_12 (i := 0) rfl 0 rfl 13 rfl ?_
  refine gfRX9_66 C kx0 dX9_seekRates_13 16 rfl ?_
  refine A_iload_n C dX9_seekRates_16 (i := 1) rfl 1 rfl 17 rfl ?_
  refine A_iconst (v := 0) C dX9_seekRates_17 (by decide) 18 rfl ?_
  refine A_iast C dX9_seekRates_18 (of_9_42 kx0) hf 19 rfl (fun hf => ?_)
  refine A_iinc (v := (x1 + 1)) C dX9_seekRates_19 1 rfl rfl [(1, .int (x1 + 1)), (0, .ref (K.2.1 x0))] (lt_nl hnl (by decide)) rfl 22 rfl ?_
  refine A_goto C dX9_seekRates_22 7 (by decide) ?_
  refine A_sub [1, 0] (lv' := [(0, .ref (K.2.1 x0)), (1, .int (x1 + 1))]) rfl ?_
  exact Hself7 _ _ hf
set_option maxRecDepth 20000 in
theorem wX9_seekRates_L29 {K : KX} {G : GX} (C : Ok K G 2 cX9_seekRates RX9) (hnl : G.2.2.2.2.2.2.2.2.2.2.2.2.2 = 5) {rv : HH} (E : Endd K G none none rv) {x0 : Nat} {k29_50 : Int32 → HH → Option (HH)}  (Hk29_50 : ∀ (x1 : Int32) (h : HH), k29_50 x1 h = some rv → At K G 50 [(0, .ref (K.2.1 x0)), (1, .int x1)] [] h) (kx0 : isK 9 x0) : ∀ (self29 : Int32 → Int32 → HH → Option (HH)), (∀ (x1 : Int32) (x2 : Int32) (h : HH), self29 x1 x2 h = some rv → At K G 29 [(0, .ref (K.2.1 x0)), (1, .int x1), (2, .int x2)] [] h) → ∀ (x1 : Int32) (x2 : Int32) (h : HH), fX9_seekRates_L29 k29_50 x0 self29 x1 x2 h = some rv → At K G 29 [(0, .ref (K.2.1 x0)), (1, .int x1), (2, .int x2)] [] h := by
  intro self29 Hself29 x1 x2 h hf
  unfold fX9_seekRates_L29 at hf
  refine A_iload_n C dX9_seekRates_29 (i := 2) rfl 2 rfl 30 rfl ?_
  refine A_aload_n C dX9_seekRates_30 (i := 0) rfl 0 rfl 31 rfl ?_
  refine gfRX9_20 C kx0 dX9_seekRates_31 34 rfl ?_
  refine A_iconst (v := 0) C dX9_seekRates_34 (by decide) 35 rfl ?_
  refine A_iald C dX9_seekRates_35 (of_9_15 kx0) hf 36 rfl (fun hf => ?_)
  refine A_icmp_ge C dX9_seekRates_36 50 (by decide) 39 rfl hf (fun c36 hf => ?_) (fun c36 hf => ?_)
  · refine A_sub [0, 1] (lv' := [(0, .ref (K.2.1 x0)), (1, .int x1)]) rfl ?_
    exact Hk29_50 _ _ hf
  refine A_iload_n C dX9_seekRates_39 (i := 1) rfl 1 rfl 40 rfl ?_
  refine A_bipush (v := 11) C dX9_seekRates_40 (by decide) 42 rfl ?_
  refine A_imul C dX9_seekRates_42 43 rfl ?_
  refine A_namI hf (fun y1 hf => ?_)
  refine A_istore_n C dX9_seekRates_43 (i := 1) rfl [(1, .int y1), (0, .ref (K.2.1 x0)), (2, .int x2)] (lt_nl hnl (by decide)) rfl 44 rfl ?_
  refine A_iinc (v := (x2 + 1)) C dX9_seekRates_44 2 rfl rfl [(2, .int (x2 + 1)), (1, .int y1), (0, .ref (K.2.1 x0))] (lt_nl hnl (by decide)) rfl 47 rfl ?_
  refine A_goto C dX9_seekRates_47 29 (by decide) ?_
  refine A_sub [2, 1, 0] (lv' := [(0, .ref (K.2.1 x0)), (1, .int y1), (2, .int (x2 + 1))]) rfl ?_
  exact Hself29 _ _ _ hf
set_option maxRecDepth 20000 in
theorem wX9_seekRates_L62 {K : KX} {G : GX} (C : Ok K G 2 cX9_seekRates RX9) (hnl : G.2.2.2.2.2.2.2.2.2.2.2.2.2 = 5) {rv : HH} (E : Endd K G none none rv) {x0 : Nat} {x1 : Int32} {x2 : Int32} {k62_97 : HH → Option (HH)}  (Hk62_97 : ∀  (h : HH), k62_97  h = some rv → At K G 97 [(0, .ref (K.2.1 x0)), (1, .int x1), (2, .int x2)] [] h) (kx0 : isK 9 x0) : ∀ (self62 : Int32 → Int32 → HH → Option (HH)), (∀ (x3 : Int32) (x4 : Int32) (h : HH), self62 x3 x4 h = some rv → At K G 62 [(0, .ref (K.2.1 x0)), (1, .int x1), (2, .int x2), (3, .int x3), (4, .int x4)] [] h) → ∀ (x3 : Int32) (x4 : Int32) (h : HH), fX9_seekRates_L62 k62_97 x0 x1 x2 self62 x3 x4 h = some rv → At K G 62 [(0, .ref (K.2.1 x0)), (1, .int x1), (2, .int x2), (3, .int x3), (4, .int x4)] [] h := by
  intro self62 Hself62 x3 x4 h hf
  unfold fX9_seekRates_L62 at hf
  refine A_iload C dX9_seekRates_62 4 rfl 64 rfl ?_
  refine A_aload_n C dX9_seekRates_64 (i := 0) rfl 0 rfl 65 rfl ?_
  refine gfRX9_20 C kx0 dX9_seekRates_65 68 rfl ?_
  refine A_iconst (v := 0) C dX9_seekRates_68 (by decide) 69 rfl ?_
  refine A_iald C dX9_seekRates_69 (of_9_15 kx0) hf 70 rfl (fun hf => ?_)
  refine A_icmp_ge C dX9_seekRates_70 97 (by decide) 73 rfl hf (fun c70 hf => ?_) (fun c70 hf => ?_)
  · refine A_sub [0, 1, 2] (lv' := [(0, .ref (K.2.1 x0)), (1, .int x1), (2, .int x2)]) rfl ?_
    exact Hk62_97 _ hf
  refine A_aload_n C dX9_seekRates_73 (i := 0) rfl 0 rfl 74 rfl ?_
  refine gfRX9_69 C kx0 dX9_seekRates_74 77 rfl ?_
  refine A_iload C dX9_seekRates_77 4 rfl 79 rfl ?_
  refine A_iconst (v := 2) C dX9_seekRates_79 (by decide) 80 rfl ?_
  refine A_iload_n C dX9_seekRates_80 (i := 3) rfl 3 rfl 81 rfl ?_
  refine A_bipush (v := 11) C dX9_seekRates_81 (by decide) 83 rfl ?_
  refine A_irem C dX9_seekRates_83 (by decide) 84 rfl ?_
  refine A_iadd C dX9_seekRates_84 85 rfl ?_
  refine A_iast C dX9_seekRates_85 (of_9_43 kx0) hf 86 rfl (fun hf => ?_)
  refine A_iload_n C dX9_seekRates_86 (i := 3) rfl 3 rfl 87 rfl ?_
  refine A_bipush (v := 11) C dX9_seekRates_87 (by decide) 89 rfl ?_
  refine A_idiv C dX9_seekRates_89 (by decide) 90 rfl ?_
  refine A_namI hf (fun y2 hf => ?_)
  refine A_istore_n C dX9_seekRates_90 (i := 3) rfl [(3, .int y2), (0, .ref (K.2.1 x0)), (1, .int x1), (2, .int x2), (4, .int x4)] (lt_nl hnl (by decide)) rfl 91 rfl ?_
  refine A_iinc (v := (x4 + 1)) C dX9_seekRates_91 4 rfl rfl [(4, .int (x4 + 1)), (3, .int y2), (0, .ref (K.2.1 x0)), (1, .int x1), (2, .int x2)] (lt_nl hnl (by decide)) rfl 94 rfl ?_
  refine A_goto C dX9_seekRates_94 62 (by decide) ?_
  refine A_sub [2, 3, 4, 1, 0] (lv' := [(0, .ref (K.2.1 x0)), (1, .int x1), (2, .int x2), (3, .int y2), (4, .int (x4 + 1))]) rfl ?_
  exact Hself62 _ _ _ hf
set_option maxRecDepth 20000 in
theorem wX9_seekRates_L120 {K : KX} {G : GX} (C : Ok K G 2 cX9_seekRates RX9) (hnl : G.2.2.2.2.2.2.2.2.2.2.2.2.2 = 5) {rv : HH} (E : Endd K G none none rv) {x0 : Nat} {x1 : Int32} {x2 : Int32} {k120_156 : HH → Option (HH)}  (Hk120_156 : ∀  (h : HH), k120_156  h = some rv → At K G 156 [(0, .ref (K.2.1 x0)), (1, .int x1), (2, .int x2)] [] h) (kx0 : isK 9 x0) : ∀ (self120 : Int32 → HH → Option (HH)), (∀ (x4 : Int32) (h : HH), self120 x4 h = some rv → At K G 120 [(0, .ref (K.2.1 x0)), (1, .int x1), (2, .int x2), (4, .int x4)] [] h) → ∀ (x4 : Int32) (h : HH), fX9_seekRates_L120 k120_156 x0 x1 x2 self120 x4 h = some rv → At K G 120 [(0, .ref (K.2.1 x0)), (1, .int x1), (2, .int x2), (4, .int x4)] [] h := by
  intro self120 Hself120 x4 h hf
  unfold fX9_seekRates_L120 at hf
  refine A_iload C dX9_seekRates_120 3 rfl 122 rfl ?_
  refine A_aload_n C dX9_seekRates_122 (i := 0) rfl 0 rfl 123 rfl ?_
  refine gfRX9_20 C kx0 dX9_seekRates_123 126 rfl ?_
  refine A_iconst (v := 0) C dX9_seekRates_126 (by decide) 127 rfl ?_
  refine A_iald C dX9_seekRates_127 (of_9_15 kx0) hf 128 rfl (fun hf => ?_)
  refine A_icmp_ge C dX9_seekRates_128 156 (by decide) 131 rfl hf (fun c128 hf => ?_) (fun c128 hf => ?_)
  · refine A_sub [0, 1, 2] (lv' := [(0, .ref (K.2.1 x0)), (1, .int x1), (2, .int x2)]) rfl ?_
    exact Hk120_156 _ hf
  refine A_aload_n C dX9_seekRates_131 (i := 0) rfl 0 rfl 132 rfl ?_
  refine gfRX9_66 C kx0 dX9_seekRates_132 135 rfl ?_
  refine A_iload C dX9_seekRates_135 3 rfl 137 rfl ?_
  refine A_dup2 C dX9_seekRates_137 rfl rfl 138 rfl ?_
  refine A_iald C dX9_seekRates_138 (of_9_42 kx0) hf 139 rfl (fun hf => ?_)
  refine A_iconst (v := 1) C dX9_seekRates_139 (by decide) 140 rfl ?_
  refine A_aload_n C dX9_seekRates_140 (i := 0) rfl 0 rfl 141 rfl ?_
  refine gfRX9_69 C kx0 dX9_seekRates_141 144 rfl ?_
  refine A_iload C dX9_seekRates_144 3 rfl 146 rfl ?_
  refine A_iald C dX9_seekRates_146 (of_9_43 kx0) hf 147 rfl (fun hf => ?_)
  refine A_ishl C dX9_seekRates_147 148 rfl ?_
  refine A_ior C dX9_seekRates_148 149 rfl ?_
  refine A_iast C dX9_seekRates_149 (of_9_42 kx0) hf 150 rfl (fun hf => ?_)
  refine A_namH hf (fun g3 hf => ?_)
  refine A_iinc (v := (x4 + 1)) C dX9_seekRates_150 3 rfl rfl [(4, .int (x4 + 1)), (0, .ref (K.2.1 x0)), (1, .int x1), (2, .int x2)] (lt_nl hnl (by decide)) rfl 153 rfl ?_
  refine A_goto C dX9_seekRates_153 120 (by decide) ?_
  refine A_sub [1, 2, 3, 0] (lv' := [(0, .ref (K.2.1 x0)), (1, .int x1), (2, .int x2), (4, .int (x4 + 1))]) rfl ?_
  exact Hself120 _ _ hf
set_option maxRecDepth 20000 in
theorem wX9_seekRates_L52 {K : KX} {G : GX} (C : Ok K G 2 cX9_seekRates RX9) (hnl : G.2.2.2.2.2.2.2.2.2.2.2.2.2 = 5) {rv : HH} (E : Endd K G none none rv) {x0 : Nat} {x1 : Int32}   (kx0 : isK 9 x0) : ∀ (self52 : Int32 → HH → Option (HH)), (∀ (x2 : Int32) (h : HH), self52 x2 h = some rv → At K G 52 [(0, .ref (K.2.1 x0)), (1, .int x1), (2, .int x2)] [] h) → ∀ (x2 : Int32) (h : HH), fX9_seekRates_L52 x0 x1 self52 x2 h = some rv → At K G 52 [(0, .ref (K.2.1 x0)), (1, .int x1), (2, .int x2)] [] h := by
  intro self52 Hself52 x2 h hf
  unfold fX9_seekRates_L52 at hf
  refine A_iload_n C dX9_seekRates_52 (i := 2) rfl 2 rfl 53 rfl ?_
  refine A_iload_n C dX9_seekRates_53 (i := 1) rfl 1 rfl 54 rfl ?_
  refine A_icmp_ge C dX9_seekRates_54 162 (by decide) 57 rfl hf (fun c54 hf => ?_) (fun c54 hf => ?_)
  · exact A_vret C dX9_seekRates_162 E hf
  refine A_iload_n C dX9_seekRates_57 (i := 2) rfl 2 rfl 58 rfl ?_
  refine A_istore_n C dX9_seekRates_58 (i := 3) rfl [(3, .int x2), (0, .ref (K.2.1 x0)), (1, .int x1), (2, .int x2)] (lt_nl hnl (by decide)) rfl 59 rfl ?_
  refine A_iconst (v := 0) C dX9_seekRates_59 (by decide) 60 rfl ?_
  refine A_istore C dX9_seekRates_60 [(4, .int 0), (3, .int x2), (0, .ref (K.2.1 x0)), (1, .int x1), (2, .int x2)] (lt_nl hnl (by decide)) rfl 62 rfl ?_
  refine A_sub [2, 3, 4, 1, 0] (lv' := [(0, .ref (K.2.1 x0)), (1, .int x1), (2, .int x2), (3, .int x2), (4, .int 0)]) rfl ?_
  refine lq2_at (wX9_seekRates_L62 C hnl E (fun  h hf => ?_) kx0) FU _ _ _ hf
  refine A_aload_n C dX9_seekRates_97 (i := 0) rfl 0 rfl 98 rfl ?_
  refine CVz C dX9_seekRates_98 9 kx0 (by decide) (r := (RX9, TX9, 44)) rfl rfl hf (fun _ _ e => mX9_doRatesFit kx0 e) lkRX9_496 (by decide) (by decide) rfl [] rfl (Nat.le_of_ble_eq_true rfl) 101 rfl (fun r98 h98 hf => ?_)
  refine A_z_ne C dX9_seekRates_101 107 (by decide) 104 rfl hf (fun c101 hf => ?_) (fun c101 hf => ?_)
  · refine A_aload_n C dX9_seekRates_107 (i := 0) rfl 0 rfl 108 rfl ?_
    refine A_dup C dX9_seekRates_108 rfl 109 rfl ?_
    refine gfRX9_493 C kx0 dX9_seekRates_109 112 rfl ?_
    refine A_iconst (v := 1) C dX9_seekRates_112 (by decide) 113 rfl ?_
    refine A_iadd C dX9_seekRates_113 114 rfl ?_
    refine pfRX9_493 C kx0 dX9_seekRates_114 117 rfl ?_
    refine A_iconst (v := 0) C dX9_seekRates_117 (by decide) 118 rfl ?_
    refine A_istore C dX9_seekRates_118 [(4, .int 0), (0, .ref (K.2.1 x0)), (1, .int x1), (2, .int x2)] (lt_nl hnl (by decide)) rfl 120 rfl ?_
    refine A_sub [1, 2, 3, 0] (lv' := [(0, .ref (K.2.1 x0)), (1, .int x1), (2, .int x2), (4, .int 0)]) rfl ?_
    refine lq1_at (wX9_seekRates_L120 C hnl E (fun  h hf => ?_) kx0) FU _ _ hf
    refine A_iinc (v := (x2 + 1)) C dX9_seekRates_156 2 rfl rfl [(2, .int (x2 + 1)), (0, .ref (K.2.1 x0)), (1, .int x1)] (lt_nl hnl (by decide)) rfl 159 rfl ?_
    refine A_goto C dX9_seekRates_159 52 (by decide) ?_
    refine A_sub [1, 2, 0] (lv' := [(0, .ref (K.2.1 x0)), (1, .int x1), (2, .int (x2 + 1))]) rfl ?_
    exact Hself52 _ _ hf
  refine A_goto C dX9_seekRates_104 156 (by decide) ?_
  refine A_iinc (v := (x2 + 1)) C dX9_seekRates_156 2 rfl rfl [(2, .int (x2 + 1)), (0, .ref (K.2.1 x0)), (1, .int x1)] (lt_nl hnl (by decide)) rfl 159 rfl ?_
  refine A_goto C dX9_seekRates_159 52 (by decide) ?_
  refine A_sub [1, 2, 0] (lv' := [(0, .ref (K.2.1 x0)), (1, .int x1), (2, .int (x2 + 1))]) rfl ?_
  exact Hself52 _ _ hf
set_option maxRecDepth 20000 in
theorem mX9_seekRates {K : KX} {x0 : Nat} (k0 : isK 9 x0) {h : HH} {rv : HH} (hf : fX9_seekRates x0 h = some rv) : MR K yX9_seekRates cX9_seekRates 5 none 2 [.ref (K.2.1 x0)] h none rv := by
  refine MR_of (by decide) (Nat.le_of_ble_eq_true rfl) (fun G C E hnl => ?_)
  have C : Ok K G 2 cX9_seekRates RX9 := C
  refine (show At K G 0 [(0, .ref (K.2.1 x0))] [] h from ?_)
  unfold fX9_seekRates at hf
  refine A_aload_n C dX9_seekRates_0 (i := 0) rfl 0 rfl 1 rfl ?_
  refine A_iconst (v := 0) C dX9_seekRates_1 (by decide) 2 rfl ?_
  refine pfRX9_493 C k0 dX9_seekRates_2 5 rfl ?_
  refine A_iconst (v := 0) C dX9_seekRates_5 (by decide) 6 rfl ?_
  refine A_istore_n C dX9_seekRates_6 (i := 1) rfl [(1, .int 0), (0, .ref (K.2.1 x0))] (lt_nl hnl (by decide)) rfl 7 rfl ?_
  refine A_sub [1, 0] (lv' := [(0, .ref (K.2.1 x0)), (1, .int 0)]) rfl ?_
  refine lq1_at (wX9_seekRates_L7 C hnl E (fun  h hf => ?_) k0) FU _ _ hf
  refine A_iconst (v := 1) C dX9_seekRates_25 (by decide) 26 rfl ?_
  refine A_istore_n C dX9_seekRates_26 (i := 1) rfl [(1, .int 1), (0, .ref (K.2.1 x0))] (lt_nl hnl (by decide)) rfl 27 rfl ?_
  refine A_iconst (v := 0) C dX9_seekRates_27 (by decide) 28 rfl ?_
  refine A_istore_n C dX9_seekRates_28 (i := 2) rfl [(2, .int 0), (1, .int 1), (0, .ref (K.2.1 x0))] (lt_nl hnl (by decide)) rfl 29 rfl ?_
  refine A_sub [2, 1, 0] (lv' := [(0, .ref (K.2.1 x0)), (1, .int 1), (2, .int 0)]) rfl ?_
  refine lq2_at (wX9_seekRates_L29 C hnl E (fun x1 h hf => ?_) k0) FU _ _ _ hf
  refine A_iconst (v := 0) C dX9_seekRates_50 (by decide) 51 rfl ?_
  refine A_istore_n C dX9_seekRates_51 (i := 2) rfl [(2, .int 0), (0, .ref (K.2.1 x0)), (1, .int x1)] (lt_nl hnl (by decide)) rfl 52 rfl ?_
  refine A_sub [1, 2, 0] (lv' := [(0, .ref (K.2.1 x0)), (1, .int x1), (2, .int 0)]) rfl ?_
  refine lq1_at (wX9_seekRates_L52 C hnl E k0) FU _ _ hf
set_option maxRecDepth 20000 in
theorem mX9_rates {K : KX} {x0 : Nat} (k0 : isK 9 x0) {h : HH} {rv : Int32} {hv : HH} (hf : fX9_rates x0 h = some (rv, hv)) : MR K yX9_rates cX9_rates 1 (some .int) 3 [.ref (K.2.1 x0)] h (some (.int rv)) hv := by
  refine MR_of (by decide) (Nat.le_of_ble_eq_true rfl) (fun G C E hnl => ?_)
  have C : Ok K G 3 cX9_rates RX9 := C
  refine (show At K G 0 [(0, .ref (K.2.1 x0))] [] h from ?_)
  unfold fX9_rates at hf
  refine A_aload_n C dX9_rates_0 (i := 0) rfl 0 rfl 1 rfl ?_
  refine CVv C dX9_rates_1 9 k0 (by decide) (r := (RX9, TX9, 44)) rfl rfl hf (fun _ e => mX9_good k0 e) lkRX9_191 (by decide) (by decide) rfl [] rfl (Nat.le_of_ble_eq_true rfl) 4 rfl (fun h1 hf => ?_)
  refine A_aload_n C dX9_rates_4 (i := 0) rfl 0 rfl 5 rfl ?_
  refine gfRX9_204 C k0 dX9_rates_5 8 rfl ?_
  refine A_if_ne C dX9_rates_8 17 (by decide) 11 rfl hf (fun c8 hf => ?_) (fun c8 hf => ?_)
  · refine A_aload_n C dX9_rates_17 (i := 0) rfl 0 rfl 18 rfl ?_
    refine CVv C dX9_rates_18 9 k0 (by decide) (r := (RX9, TX9, 44)) rfl rfl hf (fun _ e => mX9_seekRates k0 e) lkRX9_499 (by decide) (by decide) rfl [] rfl (Nat.le_of_ble_eq_true rfl) 21 rfl (fun h18 hf => ?_)
    refine A_aload_n C dX9_rates_21 (i := 0) rfl 0 rfl 22 rfl ?_
    refine gfRX9_493 C k0 dX9_rates_22 25 rfl ?_
    exact A_iret C dX9_rates_25 E hf
  refine A_aload_n C dX9_rates_11 (i := 0) rfl 0 rfl 12 rfl ?_
  refine A_iconst (v := 1) C dX9_rates_12 (by decide) 13 rfl ?_
  refine CVi C dX9_rates_13 9 k0 (by decide) (r := (RX9, TX9, 44)) rfl rfl hf (fun _ _ e => mX9_no k0 e) lkRX9_194 (by decide) (by decide) rfl [] rfl (Nat.le_of_ble_eq_true rfl) 16 rfl (fun r13 h13 hf => ?_)
  exact A_iret C dX9_rates_16 E hf
set_option maxRecDepth 20000 in
theorem wX9_rate_L28 {K : KX} {G : GX} (C : Ok K G 3 cX9_rate RX9) (hnl : G.2.2.2.2.2.2.2.2.2.2.2.2.2 = 3) {rv : Int32} {hv : HH} (E : Endd K G (some .int) (some (.int rv)) hv) {x0 : Nat} {x1 : Int32}   (kx0 : isK 9 x0) : ∀ (self28 : Int32 → HH → Option (Int32 × HH)), (∀ (x2 : Int32) (h : HH), self28 x2 h = some (rv, hv) → At K G 28 [(0, .ref (K.2.1 x0)), (1, .int x1), (2, .int x2)] [] h) → ∀ (x2 : Int32) (h : HH), fX9_rate_L28 x0 x1 self28 x2 h = some (rv, hv) → At K G 28 [(0, .ref (K.2.1 x0)), (1, .int x1), (2, .int x2)] [] h := by
  intro self28 Hself28 x2 h hf
  unfold fX9_rate_L28 at hf
  refine A_iload_n C dX9_rate_28 (i := 2) rfl 2 rfl 29 rfl ?_
  refine A_bipush (v := 13) C dX9_rate_29 (by decide) 31 rfl ?_
  refine A_icmp_ge C dX9_rate_31 56 (by decide) 34 rfl hf (fun c31 hf => ?_) (fun c31 hf => ?_)
  · refine A_bipush (v := (-2)) C dX9_rate_56 (by decide) 58 rfl ?_
    exact A_iret C dX9_rate_58 E hf
  refine A_aload_n C dX9_rate_34 (i := 0) rfl 0 rfl 35 rfl ?_
  refine gfRX9_66 C kx0 dX9_rate_35 38 rfl ?_
  refine A_iload_n C dX9_rate_38 (i := 1) rfl 1 rfl 39 rfl ?_
  refine A_iconst (v := 1) C dX9_rate_39 (by decide) 40 rfl ?_
  refine A_isub C dX9_rate_40 41 rfl ?_
  refine A_iald C dX9_rate_41 (of_9_42 kx0) hf 42 rfl (fun hf => ?_)
  refine A_iconst (v := 1) C dX9_rate_42 (by decide) 43 rfl ?_
  refine A_iload_n C dX9_rate_43 (i := 2) rfl 2 rfl 44 rfl ?_
  refine A_ishl C dX9_rate_44 45 rfl ?_
  refine A_icmp_ne C dX9_rate_45 50 (by decide) 48 rfl hf (fun c45 hf => ?_) (fun c45 hf => ?_)
  · refine A_iinc (v := (x2 + 1)) C dX9_rate_50 2 rfl rfl [(2, .int (x2 + 1)), (0, .ref (K.2.1 x0)), (1, .int x1)] (lt_nl hnl (by decide)) rfl 53 rfl ?_
    refine A_goto C dX9_rate_53 28 (by decide) ?_
    refine A_sub [1, 2, 0] (lv' := [(0, .ref (K.2.1 x0)), (1, .int x1), (2, .int (x2 + 1))]) rfl ?_
    exact Hself28 _ _ hf
  refine A_iload_n C dX9_rate_48 (i := 2) rfl 2 rfl 49 rfl ?_
  exact A_iret C dX9_rate_49 E hf
set_option maxRecDepth 20000 in
theorem mX9_rate {K : KX} {x0 : Nat} {x1 : Int32} (k0 : isK 9 x0) {h : HH} {rv : Int32} {hv : HH} (hf : fX9_rate x0 x1 h = some (rv, hv)) : MR K yX9_rate cX9_rate 3 (some .int) 3 [.ref (K.2.1 x0), .int x1] h (some (.int rv)) hv := by
  refine MR_of (by decide) (Nat.le_of_ble_eq_true rfl) (fun G C E hnl => ?_)
  have C : Ok K G 3 cX9_rate RX9 := C
  refine (show At K G 0 [(0, .ref (K.2.1 x0)), (1, .int x1)] [] h from ?_)
  unfold fX9_rate at hf
  refine A_aload_n C dX9_rate_0 (i := 0) rfl 0 rfl 1 rfl ?_
  refine CVv C dX9_rate_1 9 k0 (by decide) (r := (RX9, TX9, 44)) rfl rfl hf (fun _ e => mX9_good k0 e) lkRX9_191 (by decide) (by decide) rfl [] rfl (Nat.le_of_ble_eq_true rfl) 4 rfl (fun h1 hf => ?_)
  refine A_aload_n C dX9_rate_4 (i := 0) rfl 0 rfl 5 rfl ?_
  refine A_iload_n C dX9_rate_5 (i := 1) rfl 1 rfl 6 rfl ?_
  refine CVz C dX9_rate_6 9 k0 (by decide) (r := (RX9, TX9, 44)) rfl rfl hf (fun _ _ e => mX9_isFloor k0 e) lkRX9_350 (by decide) (by decide) rfl [] rfl (Nat.le_of_ble_eq_true rfl) 9 rfl (fun r6 h6 hf => ?_)
  refine A_z_eq C dX9_rate_9 16 (by decide) 12 rfl hf (fun c9 hf => ?_) (fun c9 hf => ?_)
  · refine A_aload_n C dX9_rate_16 (i := 0) rfl 0 rfl 17 rfl ?_
    refine A_iconst (v := 1) C dX9_rate_17 (by decide) 18 rfl ?_
    refine CVi C dX9_rate_18 9 k0 (by decide) (r := (RX9, TX9, 44)) rfl rfl hf (fun _ _ e => mX9_no k0 e) lkRX9_194 (by decide) (by decide) rfl [] rfl (Nat.le_of_ble_eq_true rfl) 21 rfl (fun r18 h18 hf => ?_)
    exact A_iret C dX9_rate_21 E hf
  refine A_iload_n C dX9_rate_12 (i := 1) rfl 1 rfl 13 rfl ?_
  refine A_if_ne C dX9_rate_13 22 (by decide) 16 rfl hf (fun c13 hf => ?_) (fun c13 hf => ?_)
  · refine A_aload_n C dX9_rate_22 (i := 0) rfl 0 rfl 23 rfl ?_
    refine CVv C dX9_rate_23 9 k0 (by decide) (r := (RX9, TX9, 44)) rfl rfl hf (fun _ e => mX9_seekRates k0 e) lkRX9_499 (by decide) (by decide) rfl [] rfl (Nat.le_of_ble_eq_true rfl) 26 rfl (fun h23 hf => ?_)
    refine A_iconst (v := 2) C dX9_rate_26 (by decide) 27 rfl ?_
    refine A_istore_n C dX9_rate_27 (i := 2) rfl [(2, .int 2), (0, .ref (K.2.1 x0)), (1, .int x1)] (lt_nl hnl (by decide)) rfl 28 rfl ?_
    refine A_sub [1, 2, 0] (lv' := [(0, .ref (K.2.1 x0)), (1, .int x1), (2, .int 2)]) rfl ?_
    refine lq1_at (wX9_rate_L28 C hnl E k0) FU _ _ hf
  refine A_aload_n C dX9_rate_16 (i := 0) rfl 0 rfl 17 rfl ?_
  refine A_iconst (v := 1) C dX9_rate_17 (by decide) 18 rfl ?_
  refine CVi C dX9_rate_18 9 k0 (by decide) (r := (RX9, TX9, 44)) rfl rfl hf (fun _ _ e => mX9_no k0 e) lkRX9_194 (by decide) (by decide) rfl [] rfl (Nat.le_of_ble_eq_true rfl) 21 rfl (fun r18 h18 hf => ?_)
  exact A_iret C dX9_rate_21 E hf
set_option maxRecDepth 20000 in
theorem wX9_waking_L62 {K : KX} {G : GX} (C : Ok K G 3 cX9_waking RX9) (hnl : G.2.2.2.2.2.2.2.2.2.2.2.2.2 = 15) {rv : Int64} {hv : HH} (E : Endd K G (some .long) (some (.long rv)) hv) {x2 : Int32} {x3 : Int32} {x4 : Bool} {x5 : Int64} {k62_82 : Int64 → HH → Option (Int64 × HH)}  (Hk62_82 : ∀ (x9 : Int64) (h : HH), k62_82 x9 h = some (rv, hv) → At K G 82 [(2, .int x2), (3, .int x3), (4, .int (b2i x4)), (5, .long x5), (7, .long 0), (9, .long x9)] [] h)  : ∀ (self62 : Int64 → Int32 → HH → Option (Int64 × HH)), (∀ (x9 : Int64) (x11 : Int32) (h : HH), self62 x9 x11 h = some (rv, hv) → At K G 62 [(2, .int x2), (3, .int x3), (4, .int (b2i x4)), (5, .long x5), (7, .long 0), (9, .long x9), (11, .int x11)] [] h) → ∀ (x9 : Int64) (x11 : Int32) (h : HH), fX9_waking_L62 k62_82 x2 x3 x4 x5 self62 x9 x11 h = some (rv, hv) → At K G 62 [(2, .int x2), (3, .int x3), (4, .int (b2i x4)), (5, .long x5), (7, .long 0), (9, .long x9), (11, .int x11)] [] h := by
  intro self62 Hself62 x9 x11 h hf
  unfold fX9_waking_L62 at hf
  refine A_iload C dX9_waking_62 6 rfl 64 rfl ?_
  refine A_iload_n C dX9_waking_64 (i := 3) rfl 1 rfl 65 rfl ?_
  refine A_icmp_ge C dX9_waking_65 82 (by decide) 68 rfl hf (fun c65 hf => ?_) (fun c65 hf => ?_)
  · refine A_sub [0, 1, 2, 3, 4, 5] (lv' := [(2, .int x2), (3, .int x3), (4, .int (b2i x4)), (5, .long x5), (7, .long 0), (9, .long x9)]) rfl ?_
    exact Hk62_82 _ _ hf
  refine A_lload C dX9_waking_68 5 rfl 70 rfl ?_
  refine A_ldc2 C dX9_waking_70 cRX9_502 73 rfl ?_
  refine A_lmul C dX9_waking_73 74 rfl ?_
  refine A_namL hf (fun y2 hf => ?_)
  refine A_lstore C dX9_waking_74 [(9, .long y2), (2, .int x2), (3, .int x3), (4, .int (b2i x4)), (5, .long x5), (7, .long 0), (11, .int x11)] (lt_nl hnl (by decide)) rfl 76 rfl ?_
  refine A_iinc (v := (x11 + 1)) C dX9_waking_76 6 rfl rfl [(11, .int (x11 + 1)), (9, .long y2), (2, .int x2), (3, .int x3), (4, .int (b2i x4)), (5, .long x5), (7, .long 0)] (lt_nl hnl (by decide)) rfl 79 rfl ?_
  refine A_goto C dX9_waking_79 62 (by decide) ?_
  refine A_sub [2, 3, 4, 5, 6, 1, 0] (lv' := [(2, .int x2), (3, .int x3), (4, .int (b2i x4)), (5, .long x5), (7, .long 0), (9, .long y2), (11, .int (x11 + 1))]) rfl ?_
  exact Hself62 _ _ _ hf
set_option maxRecDepth 20000 in
theorem wX9_waking_L97 {K : KX} {G : GX} (C : Ok K G 3 cX9_waking RX9) (hnl : G.2.2.2.2.2.2.2.2.2.2.2.2.2 = 15) {rv : Int64} {hv : HH} (E : Endd K G (some .long) (some (.long rv)) hv) {x3 : Int32} {x4 : Bool} {x5 : Int64} {x7 : Int64} {x9 : Int64} {x11 : Int32} {k97_126 : Int64 → HH → Option (Int64 × HH)}  (Hk97_126 : ∀ (x12 : Int64) (h : HH), k97_126 x12 h = some (rv, hv) → At K G 126 [(3, .int x3), (4, .int (b2i x4)), (5, .long x5), (7, .long x7), (9, .long x9), (11, .int x11), (12, .long x12)] [] h)  : ∀ (self97 : Int64 → Int32 → HH → Option (Int64 × HH)), (∀ (x12 : Int64) (x14 : Int32) (h : HH), self97 x12 x14 h = some (rv, hv) → At K G 97 [(3, .int x3), (4, .int (b2i x4)), (5, .long x5), (7, .long x7), (9, .long x9), (11, .int x11), (12, .long x12), (14, .int x14)] [] h) → ∀ (x12 : Int64) (x14 : Int32) (h : HH), fX9_waking_L97 k97_126 x3 x4 x5 x7 x9 x11 self97 x12 x14 h = some (rv, hv) → At K G 97 [(3, .int x3), (4, .int (b2i x4)), (5, .long x5), (7, .long x7), (9, .long x9), (11, .int x11), (12, .long x12), (14, .int x14)] [] h := by
  intro self97 Hself97 x12 x14 h hf
  unfold fX9_waking_L97 at hf
  refine A_iload C dX9_waking_97 7 rfl 99 rfl ?_
  refine A_iload C dX9_waking_99 5 rfl 101 rfl ?_
  refine A_icmp_ge C dX9_waking_101 126 (by decide) 104 rfl hf (fun c101 hf => ?_) (fun c101 hf => ?_)
  · refine A_sub [0, 1, 2, 3, 4, 5, 6] (lv' := [(3, .int x3), (4, .int (b2i x4)), (5, .long x5), (7, .long x7), (9, .long x9), (11, .int x11), (12, .long x12)]) rfl ?_
    exact Hk97_126 _ _ hf
  refine A_lload C dX9_waking_104 6 rfl 106 rfl ?_
  refine A_iload_n C dX9_waking_106 (i := 3) rfl 0 rfl 107 rfl ?_
  refine A_iload C dX9_waking_107 7 rfl 109 rfl ?_
  refine A_isub C dX9_waking_109 110 rfl ?_
  refine A_i2l C dX9_waking_110 111 rfl ?_
  refine A_lmul C dX9_waking_111 112 rfl ?_
  refine A_iload C dX9_waking_112 7 rfl 114 rfl ?_
  refine A_iconst (v := 1) C dX9_waking_114 (by decide) 115 rfl ?_
  refine A_iadd C dX9_waking_115 116 rfl ?_
  refine A_i2l C dX9_waking_116 117 rfl ?_
  refine A_ldivG C dX9_waking_117 hf 118 rfl (fun hf => ?_)
  refine A_namL hf (fun y3 hf => ?_)
  refine A_lstore C dX9_waking_118 [(12, .long y3), (3, .int x3), (4, .int (b2i x4)), (5, .long x5), (7, .long x7), (9, .long x9), (11, .int x11), (14, .int x14)] (lt_nl hnl (by decide)) rfl 120 rfl ?_
  refine A_iinc (v := (x14 + 1)) C dX9_waking_120 7 rfl rfl [(14, .int (x14 + 1)), (12, .long y3), (3, .int x3), (4, .int (b2i x4)), (5, .long x5), (7, .long x7), (9, .long x9), (11, .int x11)] (lt_nl hnl (by decide)) rfl 123 rfl ?_
  refine A_goto C dX9_waking_123 97 (by decide) ?_
  refine A_sub [2, 3, 4, 5, 6, 7, 1, 0] (lv' := [(3, .int x3), (4, .int (b2i x4)), (5, .long x5), (7, .long x7), (9, .long x9), (11, .int x11), (12, .long y3), (14, .int (x14 + 1))]) rfl ?_
  exact Hself97 _ _ _ hf
set_option maxRecDepth 20000 in
theorem wX9_waking_L129 {K : KX} {G : GX} (C : Ok K G 3 cX9_waking RX9) (hnl : G.2.2.2.2.2.2.2.2.2.2.2.2.2 = 15) {rv : Int64} {hv : HH} (E : Endd K G (some .long) (some (.long rv)) hv) {x3 : Int32} {x4 : Bool} {x5 : Int64} {x7 : Int64} {x9 : Int64} {x11 : Int32} {k129_164 : Int64 → HH → Option (Int64 × HH)}  (Hk129_164 : ∀ (x12 : Int64) (h : HH), k129_164 x12 h = some (rv, hv) → At K G 164 [(3, .int x3), (4, .int (b2i x4)), (5, .long x5), (7, .long x7), (9, .long x9), (11, .int x11), (12, .long x12)] [] h)  : ∀ (self129 : Int64 → Int32 → HH → Option (Int64 × HH)), (∀ (x12 : Int64) (x14 : Int32) (h : HH), self129 x12 x14 h = some (rv, hv) → At K G 129 [(3, .int x3), (4, .int (b2i x4)), (5, .long x5), (7, .long x7), (9, .long x9), (11, .int x11), (12, .long x12), (14, .int x14)] [] h) → ∀ (x12 : Int64) (x14 : Int32) (h : HH), fX9_waking_L129 k129_164 x3 x4 x5 x7 x9 x11 self129 x12 x14 h = some (rv, hv) → At K G 129 [(3, .int x3), (4, .int (b2i x4)), (5, .long x5), (7, .long x7), (9, .long x9), (11, .int x11), (12, .long x12), (14, .int x14)] [] h := by
  intro self129 Hself129 x12 x14 h hf
  unfold fX9_waking_L129 at hf
  refine A_iload C dX9_waking_129 7 rfl 131 rfl ?_
  refine A_iload_n C dX9_waking_131 (i := 3) rfl 0 rfl 132 rfl ?_
  refine A_icmp_ge C dX9_waking_132 164 (by decide) 135 rfl hf (fun c132 hf => ?_) (fun c132 hf => ?_)
  · refine A_sub [0, 1, 2, 3, 4, 5, 6] (lv' := [(3, .int x3), (4, .int (b2i x4)), (5, .long x5), (7, .long x7), (9, .long x9), (11, .int x11), (12, .long x12)]) rfl ?_
    exact Hk129_164 _ _ hf
  refine A_lload C dX9_waking_135 6 rfl 137 rfl ?_
  refine A_iload C dX9_waking_137 7 rfl 139 rfl ?_
  refine A_iload C dX9_waking_139 5 rfl 141 rfl ?_
  refine A_icmp_ge C dX9_waking_141 149 (by decide) 144 rfl hf (fun c141 hf => ?_) (fun c141 hf => ?_)
  · refine A_ldc2 C dX9_waking_149 cRX9_502 152 rfl ?_
    refine A_lload C dX9_waking_152 2 rfl 154 rfl ?_
    refine A_lsub C dX9_waking_154 155 rfl ?_
    refine A_lmul C dX9_waking_155 156 rfl ?_
    refine A_namL hf (fun y4 hf => ?_)
    refine A_lstore C dX9_waking_156 [(12, .long y4), (3, .int x3), (4, .int (b2i x4)), (5, .long x5), (7, .long x7), (9, .long x9), (11, .int x11), (14, .int x14)] (lt_nl hnl (by decide)) rfl 158 rfl ?_
    refine A_iinc (v := (x14 + 1)) C dX9_waking_158 7 rfl rfl [(14, .int (x14 + 1)), (12, .long y4), (3, .int x3), (4, .int (b2i x4)), (5, .long x5), (7, .long x7), (9, .long x9), (11, .int x11)] (lt_nl hnl (by decide)) rfl 161 rfl ?_
    refine A_goto C dX9_waking_161 129 (by decide) ?_
    refine A_sub [2, 3, 4, 5, 6, 7, 1, 0] (lv' := [(3, .int x3), (4, .int (b2i x4)), (5, .long x5), (7, .long x7), (9, .long x9), (11, .int x11), (12, .long y4), (14, .int (x14 + 1))]) rfl ?_
    exact Hself129 _ _ _ hf
  refine A_lload C dX9_waking_144 2 rfl 146 rfl ?_
  refine A_goto C dX9_waking_146 155 (by decide) ?_
  refine A_lmul C dX9_waking_155 156 rfl ?_
  refine A_namL hf (fun y5 hf => ?_)
  refine A_lstore C dX9_waking_156 [(12, .long y5), (3, .int x3), (4, .int (b2i x4)), (5, .long x5), (7, .long x7), (9, .long x9), (11, .int x11), (14, .int x14)] (lt_nl hnl (by decide)) rfl 158 rfl ?_
  refine A_iinc (v := (x14 + 1)) C dX9_waking_158 7 rfl rfl [(14, .int (x14 + 1)), (12, .long y5), (3, .int x3), (4, .int (b2i x4)), (5, .long x5), (7, .long x7), (9, .long x9), (11, .int x11)] (lt_nl hnl (by decide)) rfl 161 rfl ?_
  refine A_goto C dX9_waking_161 129 (by decide) ?_
  refine A_sub [2, 3, 4, 5, 6, 7, 1, 0] (lv' := [(3, .int x3), (4, .int (b2i x4)), (5, .long x5), (7, .long x7), (9, .long x9), (11, .int x11), (12, .long y5), (14, .int (x14 + 1))]) rfl ?_
  exact Hself129 _ _ _ hf
set_option maxRecDepth 20000 in
theorem wX9_waking_L85 {K : KX} {G : GX} (C : Ok K G 3 cX9_waking RX9) (hnl : G.2.2.2.2.2.2.2.2.2.2.2.2.2 = 15) {rv : Int64} {hv : HH} (E : Endd K G (some .long) (some (.long rv)) hv) {x3 : Int32} {x4 : Bool} {x5 : Int64} {x9 : Int64}    : ∀ (self85 : Int64 → Int32 → HH → Option (Int64 × HH)), (∀ (x7 : Int64) (x11 : Int32) (h : HH), self85 x7 x11 h = some (rv, hv) → At K G 85 [(3, .int x3), (4, .int (b2i x4)), (5, .long x5), (7, .long x7), (9, .long x9), (11, .int x11)] [] h) → ∀ (x7 : Int64) (x11 : Int32) (h : HH), fX9_waking_L85 x3 x4 x5 x9 self85 x7 x11 h = some (rv, hv) → At K G 85 [(3, .int x3), (4, .int (b2i x4)), (5, .long x5), (7, .long x7), (9, .long x9), (11, .int x11)] [] h := by
  intro self85 Hself85 x7 x11 h hf
  unfold fX9_waking_L85 at hf
  refine A_iload C dX9_waking_85 5 rfl 87 rfl ?_
  refine A_iload_n C dX9_waking_87 (i := 3) rfl 0 rfl 88 rfl ?_
  refine A_icmp_gt C dX9_waking_88 177 (by decide) 91 rfl hf (fun c88 hf => ?_) (fun c88 hf => ?_)
  · refine A_lload C dX9_waking_177 3 rfl 179 rfl ?_
    refine A_lload C dX9_waking_179 4 rfl 181 rfl ?_
    refine A_iload C dX9_waking_181 1 rfl 183 rfl ?_
    refine CSl C dX9_waking_183 hf (fun _ _ e => mX9_lowest  e) lkRX9_356 (by decide) (by decide) rfl [] rfl (Nat.le_of_ble_eq_true rfl) 186 rfl (fun r183 h183 hf => ?_)
    exact A_lret C dX9_waking_186 E hf
  refine A_lconst (v := 1) C dX9_waking_91 (by decide) 92 rfl ?_
  refine A_lstore C dX9_waking_92 [(12, .long 1), (3, .int x3), (4, .int (b2i x4)), (5, .long x5), (7, .long x7), (9, .long x9), (11, .int x11)] (lt_nl hnl (by decide)) rfl 94 rfl ?_
  refine A_iconst (v := 0) C dX9_waking_94 (by decide) 95 rfl ?_
  refine A_istore C dX9_waking_95 [(14, .int 0), (12, .long 1), (3, .int x3), (4, .int (b2i x4)), (5, .long x5), (7, .long x7), (9, .long x9), (11, .int x11)] (lt_nl hnl (by decide)) rfl 97 rfl ?_
  refine A_sub [2, 3, 4, 5, 6, 7, 1, 0] (lv' := [(3, .int x3), (4, .int (b2i x4)), (5, .long x5), (7, .long x7), (9, .long x9), (11, .int x11), (12, .long 1), (14, .int 0)]) rfl ?_
  refine lq2_at (wX9_waking_L97 C hnl E (fun x12 h hf => ?_)) FU _ _ _ hf
  refine A_iconst (v := 0) C dX9_waking_126 (by decide) 127 rfl ?_
  refine A_istore C dX9_waking_127 [(14, .int 0), (3, .int x3), (4, .int (b2i x4)), (5, .long x5), (7, .long x7), (9, .long x9), (11, .int x11), (12, .long x12)] (lt_nl hnl (by decide)) rfl 129 rfl ?_
  refine A_sub [1, 2, 3, 4, 5, 6, 7, 0] (lv' := [(3, .int x3), (4, .int (b2i x4)), (5, .long x5), (7, .long x7), (9, .long x9), (11, .int x11), (12, .long x12), (14, .int 0)]) rfl ?_
  refine lq2_at (wX9_waking_L129 C hnl E (fun x12 h hf => ?_)) FU _ _ _ hf
  refine A_lload C dX9_waking_164 3 rfl 166 rfl ?_
  refine A_lload C dX9_waking_166 6 rfl 168 rfl ?_
  refine A_ladd C dX9_waking_168 169 rfl ?_
  refine A_namL hf (fun y6 hf => ?_)
  refine A_lstore C dX9_waking_169 [(7, .long y6), (3, .int x3), (4, .int (b2i x4)), (5, .long x5), (9, .long x9), (11, .int x11), (12, .long x12)] (lt_nl hnl (by decide)) rfl 171 rfl ?_
  refine A_iinc (v := (x11 + 1)) C dX9_waking_171 5 rfl rfl [(11, .int (x11 + 1)), (7, .long y6), (3, .int x3), (4, .int (b2i x4)), (5, .long x5), (9, .long x9), (12, .long x12)] (lt_nl hnl (by decide)) rfl 174 rfl ?_
  refine A_goto C dX9_waking_174 85 (by decide) ?_
  refine A_sub [2, 3, 4, 1, 5, 0] (lv' := [(3, .int x3), (4, .int (b2i x4)), (5, .long x5), (7, .long y6), (9, .long x9), (11, .int (x11 + 1))]) rfl ?_
  exact Hself85 _ _ _ hf
set_option maxRecDepth 20000 in
theorem mX9_waking {K : KX} {x0 : Nat} {x1 : Int32} {x2 : Int32} {x3 : Int32} {x4 : Bool} (k0 : isK 9 x0) {h : HH} {rv : Int64} {hv : HH} (hf : fX9_waking x0 x1 x2 x3 x4 h = some (rv, hv)) : MR K yX9_waking cX9_waking 15 (some .long) 3 [.ref (K.2.1 x0), .int x1, .int x2, .int x3, .int (b2i x4)] h (some (.long rv)) hv := by
  refine MR_of (by decide) (Nat.le_of_ble_eq_true rfl) (fun G C E hnl => ?_)
  have C : Ok K G 3 cX9_waking RX9 := C
  refine (show At K G 0 [(0, .ref (K.2.1 x0)), (1, .int x1), (2, .int x2), (3, .int x3), (4, .int (b2i x4))] [] h from ?_)
  unfold fX9_waking at hf
  refine A_aload_n C dX9_waking_0 (i := 0) rfl 0 rfl 1 rfl ?_
  refine CVv C dX9_waking_1 9 k0 (by decide) (r := (RX9, TX9, 44)) rfl rfl hf (fun _ e => mX9_good k0 e) lkRX9_191 (by decide) (by decide) rfl [] rfl (Nat.le_of_ble_eq_true rfl) 4 rfl (fun h1 hf => ?_)
  refine A_aload_n C dX9_waking_4 (i := 0) rfl 0 rfl 5 rfl ?_
  refine A_iload_n C dX9_waking_5 (i := 1) rfl 1 rfl 6 rfl ?_
  refine CVz C dX9_waking_6 9 k0 (by decide) (r := (RX9, TX9, 44)) rfl rfl hf (fun _ _ e => mX9_isSleeper k0 e) lkRX9_353 (by decide) (by decide) rfl [] rfl (Nat.le_of_ble_eq_true rfl) 9 rfl (fun r6 h6 hf => ?_)
  refine A_z_eq C dX9_waking_9 20 (by decide) 12 rfl hf (fun c9 hf => ?_) (fun c9 hf => ?_)
  · refine A_aload_n C dX9_waking_20 (i := 0) rfl 0 rfl 21 rfl ?_
    refine A_iconst (v := 1) C dX9_waking_21 (by decide) 22 rfl ?_
    refine CVi C dX9_waking_22 9 k0 (by decide) (r := (RX9, TX9, 44)) rfl rfl hf (fun _ _ e => mX9_no k0 e) lkRX9_194 (by decide) (by decide) rfl [] rfl (Nat.le_of_ble_eq_true rfl) 25 rfl (fun r22 h22 hf => ?_)
    refine A_i2l C dX9_waking_25 26 rfl ?_
    exact A_lret C dX9_waking_26 E hf
  refine A_aload_n C dX9_waking_12 (i := 0) rfl 0 rfl 13 rfl ?_
  refine A_iload_n C dX9_waking_13 (i := 2) rfl 2 rfl 14 rfl ?_
  refine CVz C dX9_waking_14 9 k0 (by decide) (r := (RX9, TX9, 44)) rfl rfl hf (fun _ _ e => mX9_isFloor k0 e) lkRX9_350 (by decide) (by decide) rfl [] rfl (Nat.le_of_ble_eq_true rfl) 17 rfl (fun r14 h14 hf => ?_)
  refine A_z_ne C dX9_waking_17 27 (by decide) 20 rfl hf (fun c17 hf => ?_) (fun c17 hf => ?_)
  · refine A_iload_n C dX9_waking_27 (i := 3) rfl 3 rfl 28 rfl ?_
    refine A_iconst (v := 0) C dX9_waking_28 (by decide) 29 rfl ?_
    refine A_bipush (v := 8) C dX9_waking_29 (by decide) 31 rfl ?_
    refine CSz C dX9_waking_31 hf (fun _ _ e => mX9_within  e) lkRX9_170 (by decide) (by decide) rfl [] rfl (Nat.le_of_ble_eq_true rfl) 34 rfl (fun r31 h31 hf => ?_)
    refine A_z_ne C dX9_waking_34 44 (by decide) 37 rfl hf (fun c34 hf => ?_) (fun c34 hf => ?_)
    · refine A_aload_n C dX9_waking_44 (i := 0) rfl 0 rfl 45 rfl ?_
      refine A_iload_n C dX9_waking_45 (i := 1) rfl 1 rfl 46 rfl ?_
      refine A_iconst (v := 3) C dX9_waking_46 (by decide) 47 rfl ?_
      refine CVi C dX9_waking_47 9 k0 (by decide) (r := (RX9, TX9, 44)) rfl rfl hf (fun _ _ e => mX9_of k0 e) lkRX9_335 (by decide) (by decide) rfl [] rfl (Nat.le_of_ble_eq_true rfl) 50 rfl (fun r47 h47 hf => ?_)
      refine A_i2l C dX9_waking_50 51 rfl ?_
      refine A_namL hf (fun y1 hf => ?_)
      refine A_lstore C dX9_waking_51 [(5, .long y1), (0, .ref (K.2.1 x0)), (1, .int x1), (2, .int x2), (3, .int x3), (4, .int (b2i x4))] (lt_nl hnl (by decide)) rfl 53 rfl ?_
      refine A_lconst (v := 0) C dX9_waking_53 (by decide) 54 rfl ?_
      refine A_lstore C dX9_waking_54 [(7, .long 0), (5, .long y1), (0, .ref (K.2.1 x0)), (1, .int x1), (2, .int x2), (3, .int x3), (4, .int (b2i x4))] (lt_nl hnl (by decide)) rfl 56 rfl ?_
      refine A_lconst (v := 1) C dX9_waking_56 (by decide) 57 rfl ?_
      refine A_lstore C dX9_waking_57 [(9, .long 1), (7, .long 0), (5, .long y1), (0, .ref (K.2.1 x0)), (1, .int x1), (2, .int x2), (3, .int x3), (4, .int (b2i x4))] (lt_nl hnl (by decide)) rfl 59 rfl ?_
      refine A_iconst (v := 0) C dX9_waking_59 (by decide) 60 rfl ?_
      refine A_istore C dX9_waking_60 [(11, .int 0), (9, .long 1), (7, .long 0), (5, .long y1), (0, .ref (K.2.1 x0)), (1, .int x1), (2, .int x2), (3, .int x3), (4, .int (b2i x4))] (lt_nl hnl (by decide)) rfl 62 rfl ?_
      refine A_sub [6, 7, 8, 3, 2, 1, 0] (lv' := [(2, .int x2), (3, .int x3), (4, .int (b2i x4)), (5, .long y1), (7, .long 0), (9, .long 1), (11, .int 0)]) rfl ?_
      refine lq2_at (wX9_waking_L62 C hnl E (fun x9 h hf => ?_)) FU _ _ _ hf
      refine A_iload_n C dX9_waking_82 (i := 2) rfl 0 rfl 83 rfl ?_
      refine A_istore C dX9_waking_83 [(11, .int x2), (2, .int x2), (3, .int x3), (4, .int (b2i x4)), (5, .long y1), (7, .long 0), (9, .long x9)] (lt_nl hnl (by decide)) rfl 85 rfl ?_
      refine A_sub [2, 3, 4, 5, 6, 0] (lv' := [(3, .int x3), (4, .int (b2i x4)), (5, .long y1), (7, .long 0), (9, .long x9), (11, .int x2)]) rfl ?_
      refine lq2_at (wX9_waking_L85 C hnl E ) FU _ _ _ hf
    refine A_aload_n C dX9_waking_37 (i := 0) rfl 0 rfl 38 rfl ?_
    refine A_iconst (v := 2) C dX9_waking_38 (by decide) 39 rfl ?_
    refine CVi C dX9_waking_39 9 k0 (by decide) (r := (RX9, TX9, 44)) rfl rfl hf (fun _ _ e => mX9_no k0 e) lkRX9_194 (by decide) (by decide) rfl [] rfl (Nat.le_of_ble_eq_true rfl) 42 rfl (fun r39 h39 hf => ?_)
    refine A_i2l C dX9_waking_42 43 rfl ?_
    exact A_lret C dX9_waking_43 E hf
  refine A_aload_n C dX9_waking_20 (i := 0) rfl 0 rfl 21 rfl ?_
  refine A_iconst (v := 1) C dX9_waking_21 (by decide) 22 rfl ?_
  refine CVi C dX9_waking_22 9 k0 (by decide) (r := (RX9, TX9, 44)) rfl rfl hf (fun _ _ e => mX9_no k0 e) lkRX9_194 (by decide) (by decide) rfl [] rfl (Nat.le_of_ble_eq_true rfl) 25 rfl (fun r22 h22 hf => ?_)
  refine A_i2l C dX9_waking_25 26 rfl ?_
  exact A_lret C dX9_waking_26 E hf
set_option maxRecDepth 20000 in
theorem mX9_mean {K : KX} {x0 : Nat} {x1 : Int32} {x2 : Int32} {x3 : Bool} (k0 : isK 9 x0) {h : HH} {rv : Int64} {hv : HH} (hf : fX9_mean x0 x1 x2 x3 h = some (rv, hv)) : MR K yX9_mean cX9_mean 5 (some .long) 3 [.ref (K.2.1 x0), .int x1, .int x2, .int (b2i x3)] h (some (.long rv)) hv := by
  refine MR_of (by decide) (Nat.le_of_ble_eq_true rfl) (fun G C E hnl => ?_)
  have C : Ok K G 3 cX9_mean RX9 := C
  refine (show At K G 0 [(0, .ref (K.2.1 x0)), (1, .int x1), (2, .int x2), (3, .int (b2i x3))] [] h from ?_)
  unfold fX9_mean at hf
  refine A_aload_n C dX9_mean_0 (i := 0) rfl 0 rfl 1 rfl ?_
  refine CVv C dX9_mean_1 9 k0 (by decide) (r := (RX9, TX9, 44)) rfl rfl hf (fun _ e => mX9_good k0 e) lkRX9_191 (by decide) (by decide) rfl [] rfl (Nat.le_of_ble_eq_true rfl) 4 rfl (fun h1 hf => ?_)
  refine A_aload_n C dX9_mean_4 (i := 0) rfl 0 rfl 5 rfl ?_
  refine A_iload_n C dX9_mean_5 (i := 1) rfl 1 rfl 6 rfl ?_
  refine CVz C dX9_mean_6 9 k0 (by decide) (r := (RX9, TX9, 44)) rfl rfl hf (fun _ _ e => mX9_isSleeper k0 e) lkRX9_353 (by decide) (by decide) rfl [] rfl (Nat.le_of_ble_eq_true rfl) 9 rfl (fun r6 h6 hf => ?_)
  refine A_z_eq C dX9_mean_9 20 (by decide) 12 rfl hf (fun c9 hf => ?_) (fun c9 hf => ?_)
  · refine A_aload_n C dX9_mean_20 (i := 0) rfl 0 rfl 21 rfl ?_
    refine A_iconst (v := 1) C dX9_mean_21 (by decide) 22 rfl ?_
    refine CVi C dX9_mean_22 9 k0 (by decide) (r := (RX9, TX9, 44)) rfl rfl hf (fun _ _ e => mX9_no k0 e) lkRX9_194 (by decide) (by decide) rfl [] rfl (Nat.le_of_ble_eq_true rfl) 25 rfl (fun r22 h22 hf => ?_)
    refine A_i2l C dX9_mean_25 26 rfl ?_
    exact A_lret C dX9_mean_26 E hf
  refine A_aload_n C dX9_mean_12 (i := 0) rfl 0 rfl 13 rfl ?_
  refine A_iload_n C dX9_mean_13 (i := 2) rfl 2 rfl 14 rfl ?_
  refine CVz C dX9_mean_14 9 k0 (by decide) (r := (RX9, TX9, 44)) rfl rfl hf (fun _ _ e => mX9_isFloor k0 e) lkRX9_350 (by decide) (by decide) rfl [] rfl (Nat.le_of_ble_eq_true rfl) 17 rfl (fun r14 h14 hf => ?_)
  refine A_z_ne C dX9_mean_17 27 (by decide) 20 rfl hf (fun c17 hf => ?_) (fun c17 hf => ?_)
  · refine A_aload_n C dX9_mean_27 (i := 0) rfl 0 rfl 28 rfl ?_
    refine A_iload_n C dX9_mean_28 (i := 1) rfl 1 rfl 29 rfl ?_
    refine A_iconst (v := 3) C dX9_mean_29 (by decide) 30 rfl ?_
    refine CVi C dX9_mean_30 9 k0 (by decide) (r := (RX9, TX9, 44)) rfl rfl hf (fun _ _ e => mX9_of k0 e) lkRX9_335 (by decide) (by decide) rfl [] rfl (Nat.le_of_ble_eq_true rfl) 33 rfl (fun r30 h30 hf => ?_)
    refine A_istore C dX9_mean_33 [(4, .int r30), (0, .ref (K.2.1 x0)), (1, .int x1), (2, .int x2), (3, .int (b2i x3))] (lt_nl hnl (by decide)) rfl 35 rfl ?_
    refine A_iload_n C dX9_mean_35 (i := 2) rfl 3 rfl 36 rfl ?_
    refine A_if_ne C dX9_mean_36 49 (by decide) 39 rfl hf (fun c36 hf => ?_) (fun c36 hf => ?_)
    · refine A_iload C dX9_mean_49 0 rfl 51 rfl ?_
      refine A_if_ne C dX9_mean_51 60 (by decide) 54 rfl hf (fun c51 hf => ?_) (fun c51 hf => ?_)
      · refine A_ldc2 C dX9_mean_60 cRX9_502 63 rfl ?_
        refine A_iload_n C dX9_mean_63 (i := 2) rfl 3 rfl 64 rfl ?_
        refine A_i2l C dX9_mean_64 65 rfl ?_
        refine A_lmul C dX9_mean_65 66 rfl ?_
        refine A_iload C dX9_mean_66 0 rfl 68 rfl ?_
        refine A_i2l C dX9_mean_68 69 rfl ?_
        refine A_iload_n C dX9_mean_69 (i := 3) rfl 4 rfl 70 rfl ?_
        refine CSl C dX9_mean_70 hf (fun _ _ e => mX9_lowest  e) lkRX9_356 (by decide) (by decide) rfl [] rfl (Nat.le_of_ble_eq_true rfl) 73 rfl (fun r70 h70 hf => ?_)
        exact A_lret C dX9_mean_73 E hf
      refine A_ldc2 C dX9_mean_54 cRX9_410 57 rfl ?_
      refine A_goto C dX9_mean_57 73 (by decide) ?_
      exact A_lret C dX9_mean_73 E hf
    refine A_iload_n C dX9_mean_39 (i := 3) rfl 4 rfl 40 rfl ?_
    refine A_z_eq C dX9_mean_40 47 (by decide) 43 rfl hf (fun c40 hf => ?_) (fun c40 hf => ?_)
    · refine A_lconst (v := 0) C dX9_mean_47 (by decide) 48 rfl ?_
      exact A_lret C dX9_mean_48 E hf
    refine A_lconst (v := 1) C dX9_mean_43 (by decide) 44 rfl ?_
    refine A_goto C dX9_mean_44 48 (by decide) ?_
    exact A_lret C dX9_mean_48 E hf
  refine A_aload_n C dX9_mean_20 (i := 0) rfl 0 rfl 21 rfl ?_
  refine A_iconst (v := 1) C dX9_mean_21 (by decide) 22 rfl ?_
  refine CVi C dX9_mean_22 9 k0 (by decide) (r := (RX9, TX9, 44)) rfl rfl hf (fun _ _ e => mX9_no k0 e) lkRX9_194 (by decide) (by decide) rfl [] rfl (Nat.le_of_ble_eq_true rfl) 25 rfl (fun r22 h22 hf => ?_)
  refine A_i2l C dX9_mean_25 26 rfl ?_
  exact A_lret C dX9_mean_26 E hf
set_option maxRecDepth 20000 in
theorem wX9_note_b79 {K : KX} {G : GX} (C : Ok K G 2 cX9_note RX9) (hnl : G.2.2.2.2.2.2.2.2.2.2.2.2.2 = 2) {rv : HH} (E : Endd K G none none rv) {x0 : Nat}   (kx0 : isK 9 x0) {h : HH} (hf : fX9_note_b79 x0 h = some rv) : At K G 79 [(0, .ref (K.2.1 x0))] [] h := by
  unfold fX9_note_b79 at hf
  refine A_aload_n C dX9_note_79 (i := 0) rfl 0 rfl 80 rfl ?_
  refine gfRX9_26 C kx0 dX9_note_80 83 rfl ?_
  refine A_iconst (v := 0) C dX9_note_83 (by decide) 84 rfl ?_
  refine A_aload_n C dX9_note_84 (i := 0) rfl 0 rfl 85 rfl ?_
  refine gfRX9_29 C kx0 dX9_note_85 88 rfl ?_
  refine A_bipush (v := 20) C dX9_note_88 (by decide) 90 rfl ?_
  refine A_aload_n C dX9_note_90 (i := 0) rfl 0 rfl 91 rfl ?_
  refine gfRX9_207 C kx0 dX9_note_91 94 rfl ?_
  refine A_imul C dX9_note_94 95 rfl ?_
  refine A_bipush (v := 20) C dX9_note_95 (by decide) 97 rfl ?_
  refine CSv C dX9_note_97 hf (fun _ e => mX9_copy (isK_ofA (of_9_17 kx0)) (isK_ofA (of_9_18 kx0)) e) lkRX9_200 (by decide) (by decide) rfl [] rfl (Nat.le_of_ble_eq_true rfl) 100 rfl (fun h97 hf => ?_)
  refine A_aload_n C dX9_note_100 (i := 0) rfl 0 rfl 101 rfl ?_
  refine gfRX9_38 C kx0 dX9_note_101 104 rfl ?_
  refine A_iconst (v := 0) C dX9_note_104 (by decide) 105 rfl ?_
  refine A_aload_n C dX9_note_105 (i := 0) rfl 0 rfl 106 rfl ?_
  refine gfRX9_42 C kx0 dX9_note_106 109 rfl ?_
  refine A_bipush (v := 31) C dX9_note_109 (by decide) 111 rfl ?_
  refine A_aload_n C dX9_note_111 (i := 0) rfl 0 rfl 112 rfl ?_
  refine gfRX9_207 C kx0 dX9_note_112 115 rfl ?_
  refine A_imul C dX9_note_115 116 rfl ?_
  refine CSv C dX9_note_116 hf (fun _ e => mX9_copyLongs (isK_ofA (of_9_21 kx0)) (isK_ofA (of_9_22 kx0)) e) lkRX9_346 (by decide) (by decide) rfl [] rfl (Nat.le_of_ble_eq_true rfl) 119 rfl (fun h116 hf => ?_)
  refine A_aload_n C dX9_note_119 (i := 0) rfl 0 rfl 120 rfl ?_
  refine A_dup C dX9_note_120 rfl 121 rfl ?_
  refine gfRX9_207 C kx0 dX9_note_121 124 rfl ?_
  refine A_iconst (v := 1) C dX9_note_124 (by decide) 125 rfl ?_
  refine A_iadd C dX9_note_125 126 rfl ?_
  refine pfRX9_207 C kx0 dX9_note_126 129 rfl ?_
  exact A_vret C dX9_note_129 E hf
set_option maxRecDepth 20000 in
theorem wX9_note_L11 {K : KX} {G : GX} (C : Ok K G 2 cX9_note RX9) (hnl : G.2.2.2.2.2.2.2.2.2.2.2.2.2 = 2) {rv : HH} (E : Endd K G none none rv) {x0 : Nat} {k11_39 : HH → Option (HH)}  (Hk11_39 : ∀  (h : HH), k11_39  h = some rv → At K G 39 [(0, .ref (K.2.1 x0))] [] h) (kx0 : isK 9 x0) : ∀ (self11 : Int32 → HH → Option (HH)), (∀ (x1 : Int32) (h : HH), self11 x1 h = some rv → At K G 11 [(0, .ref (K.2.1 x0)), (1, .int x1)] [] h) → ∀ (x1 : Int32) (h : HH), fX9_note_L11 k11_39 x0 self11 x1 h = some rv → At K G 11 [(0, .ref (K.2.1 x0)), (1, .int x1)] [] h := by
  intro self11 Hself11 x1 h hf
  unfold fX9_note_L11 at hf
  refine A_iload_n C dX9_note_11 (i := 1) rfl 1 rfl 12 rfl ?_
  refine A_sipush (v := 220) C dX9_note_12 (by decide) 15 rfl ?_
  refine A_icmp_ge C dX9_note_15 39 (by decide) 18 rfl hf (fun c15 hf => ?_) (fun c15 hf => ?_)
  · refine A_sub [0] (lv' := [(0, .ref (K.2.1 x0))]) rfl ?_
    exact Hk11_39 _ hf
  refine A_aload_n C dX9_note_18 (i := 0) rfl 0 rfl 19 rfl ?_
  refine gfRX9_29 C kx0 dX9_note_19 22 rfl ?_
  refine A_iload_n C dX9_note_22 (i := 1) rfl 1 rfl 23 rfl ?_
  refine A_aload_n C dX9_note_23 (i := 0) rfl 0 rfl 24 rfl ?_
  refine gfRX9_29 C kx0 dX9_note_24 27 rfl ?_
  refine A_iload_n C dX9_note_27 (i := 1) rfl 1 rfl 28 rfl ?_
  refine A_bipush (v := 20) C dX9_note_28 (by decide) 30 rfl ?_
  refine A_iadd C dX9_note_30 31 rfl ?_
  refine A_iald C dX9_note_31 (of_9_18 kx0) hf 32 rfl (fun hf => ?_)
  refine A_iast C dX9_note_32 (of_9_18 kx0) hf 33 rfl (fun hf => ?_)
  refine A_iinc (v := (x1 + 1)) C dX9_note_33 1 rfl rfl [(1, .int (x1 + 1)), (0, .ref (K.2.1 x0))] (lt_nl hnl (by decide)) rfl 36 rfl ?_
  refine A_goto C dX9_note_36 11 (by decide) ?_
  refine A_sub [1, 0] (lv' := [(0, .ref (K.2.1 x0)), (1, .int (x1 + 1))]) rfl ?_
  exact Hself11 _ _ hf
set_option maxRecDepth 20000 in
theorem wX9_note_L41 {K : KX} {G : GX} (C : Ok K G 2 cX9_note RX9) (hnl : G.2.2.2.2.2.2.2.2.2.2.2.2.2 = 2) {rv : HH} (E : Endd K G none none rv) {x0 : Nat} {k41_69 : HH → Option (HH)}  (Hk41_69 : ∀  (h : HH), k41_69  h = some rv → At K G 69 [(0, .ref (K.2.1 x0))] [] h) (kx0 : isK 9 x0) : ∀ (self41 : Int32 → HH → Option (HH)), (∀ (x1 : Int32) (h : HH), self41 x1 h = some rv → At K G 41 [(0, .ref (K.2.1 x0)), (1, .int x1)] [] h) → ∀ (x1 : Int32) (h : HH), fX9_note_L41 k41_69 x0 self41 x1 h = some rv → At K G 41 [(0, .ref (K.2.1 x0)), (1, .int x1)] [] h := by
  intro self41 Hself41 x1 h hf
  unfold fX9_note_L41 at hf
  refine A_iload_n C dX9_note_41 (i := 1) rfl 1 rfl 42 rfl ?_
  refine A_sipush (v := 341) C dX9_note_42 (by decide) 45 rfl ?_
  refine A_icmp_ge C dX9_note_45 69 (by decide) 48 rfl hf (fun c45 hf => ?_) (fun c45 hf => ?_)
  · refine A_sub [0] (lv' := [(0, .ref (K.2.1 x0))]) rfl ?_
    exact Hk41_69 _ hf
  refine A_aload_n C dX9_note_48 (i := 0) rfl 0 rfl 49 rfl ?_
  refine gfRX9_42 C kx0 dX9_note_49 52 rfl ?_
  refine A_iload_n C dX9_note_52 (i := 1) rfl 1 rfl 53 rfl ?_
  refine A_aload_n C dX9_note_53 (i := 0) rfl 0 rfl 54 rfl ?_
  refine gfRX9_42 C kx0 dX9_note_54 57 rfl ?_
  refine A_iload_n C dX9_note_57 (i := 1) rfl 1 rfl 58 rfl ?_
  refine A_bipush (v := 31) C dX9_note_58 (by decide) 60 rfl ?_
  refine A_iadd C dX9_note_60 61 rfl ?_
  refine A_lald C dX9_note_61 (of_9_22 kx0) hf 62 rfl (fun hf => ?_)
  refine A_last C dX9_note_62 (of_9_22 kx0) hf 63 rfl (fun hf => ?_)
  refine A_iinc (v := (x1 + 1)) C dX9_note_63 1 rfl rfl [(1, .int (x1 + 1)), (0, .ref (K.2.1 x0))] (lt_nl hnl (by decide)) rfl 66 rfl ?_
  refine A_goto C dX9_note_66 41 (by decide) ?_
  refine A_sub [1, 0] (lv' := [(0, .ref (K.2.1 x0)), (1, .int (x1 + 1))]) rfl ?_
  exact Hself41 _ _ hf
set_option maxRecDepth 20000 in
theorem mX9_note {K : KX} {x0 : Nat} (k0 : isK 9 x0) {h : HH} {rv : HH} (hf : fX9_note x0 h = some rv) : MR K yX9_note cX9_note 2 none 2 [.ref (K.2.1 x0)] h none rv := by
  refine MR_of (by decide) (Nat.le_of_ble_eq_true rfl) (fun G C E hnl => ?_)
  have C : Ok K G 2 cX9_note RX9 := C
  refine (show At K G 0 [(0, .ref (K.2.1 x0))] [] h from ?_)
  unfold fX9_note at hf
  refine A_aload_n C dX9_note_0 (i := 0) rfl 0 rfl 1 rfl ?_
  refine gfRX9_207 C k0 dX9_note_1 4 rfl ?_
  refine A_bipush (v := 12) C dX9_note_4 (by decide) 6 rfl ?_
  refine A_icmp_ne C dX9_note_6 79 (by decide) 9 rfl hf (fun c6 hf => ?_) (fun c6 hf => ?_)
  · exact wX9_note_b79 C hnl E k0 hf
  refine A_iconst (v := 0) C dX9_note_9 (by decide) 10 rfl ?_
  refine A_istore_n C dX9_note_10 (i := 1) rfl [(1, .int 0), (0, .ref (K.2.1 x0))] (lt_nl hnl (by decide)) rfl 11 rfl ?_
  refine A_sub [1, 0] (lv' := [(0, .ref (K.2.1 x0)), (1, .int 0)]) rfl ?_
  refine lq1_at (wX9_note_L11 C hnl E (fun  h hf => ?_) k0) FU _ _ hf
  refine A_iconst (v := 0) C dX9_note_39 (by decide) 40 rfl ?_
  refine A_istore_n C dX9_note_40 (i := 1) rfl [(1, .int 0), (0, .ref (K.2.1 x0))] (lt_nl hnl (by decide)) rfl 41 rfl ?_
  refine A_sub [1, 0] (lv' := [(0, .ref (K.2.1 x0)), (1, .int 0)]) rfl ?_
  refine lq1_at (wX9_note_L41 C hnl E (fun  h hf => ?_) k0) FU _ _ hf
  refine A_aload_n C dX9_note_69 (i := 0) rfl 0 rfl 70 rfl ?_
  refine A_dup C dX9_note_70 rfl 71 rfl ?_
  refine gfRX9_207 C k0 dX9_note_71 74 rfl ?_
  refine A_iconst (v := 1) C dX9_note_74 (by decide) 75 rfl ?_
  refine A_isub C dX9_note_75 76 rfl ?_
  refine pfRX9_207 C k0 dX9_note_76 79 rfl ?_
  exact wX9_note_b79 C hnl E k0 hf
set_option maxRecDepth 20000 in
theorem mX9_pass {K : KX} {x0 : Nat} {x1 : Int32} {x2 : Int32} (k0 : isK 9 x0) {h : HH} {rv : Int32} {hv : HH} (hf : fX9_pass x0 x1 x2 h = some (rv, hv)) : MR K yX9_pass cX9_pass 5 (some .int) 7 [.ref (K.2.1 x0), .int x1, .int x2] h (some (.int rv)) hv := by
  refine MR_of (by decide) (Nat.le_of_ble_eq_true rfl) (fun G C E hnl => ?_)
  have C : Ok K G 7 cX9_pass RX9 := C
  refine (show At K G 0 [(0, .ref (K.2.1 x0)), (1, .int x1), (2, .int x2)] [] h from ?_)
  unfold fX9_pass at hf
  refine A_aload_n C dX9_pass_0 (i := 0) rfl 0 rfl 1 rfl ?_
  refine CVv C dX9_pass_1 9 k0 (by decide) (r := (RX9, TX9, 44)) rfl rfl hf (fun _ e => mX9_good k0 e) lkRX9_191 (by decide) (by decide) rfl [] rfl (Nat.le_of_ble_eq_true rfl) 4 rfl (fun h1 hf => ?_)
  refine A_aload_n C dX9_pass_4 (i := 0) rfl 0 rfl 5 rfl ?_
  refine A_iload_n C dX9_pass_5 (i := 1) rfl 1 rfl 6 rfl ?_
  refine CVz C dX9_pass_6 9 k0 (by decide) (r := (RX9, TX9, 44)) rfl rfl hf (fun _ _ e => mX9_isFloor k0 e) lkRX9_350 (by decide) (by decide) rfl [] rfl (Nat.le_of_ble_eq_true rfl) 9 rfl (fun r6 h6 hf => ?_)
  refine A_z_ne C dX9_pass_9 18 (by decide) 12 rfl hf (fun c9 hf => ?_) (fun c9 hf => ?_)
  · refine A_iload_n C dX9_pass_18 (i := 2) rfl 2 rfl 19 rfl ?_
    refine A_iconst (v := 1) C dX9_pass_19 (by decide) 20 rfl ?_
    refine A_sipush (v := 999) C dX9_pass_20 (by decide) 23 rfl ?_
    refine CSz C dX9_pass_23 hf (fun _ _ e => mX9_within  e) lkRX9_170 (by decide) (by decide) rfl [] rfl (Nat.le_of_ble_eq_true rfl) 26 rfl (fun r23 h23 hf => ?_)
    refine A_z_ne C dX9_pass_26 35 (by decide) 29 rfl hf (fun c26 hf => ?_) (fun c26 hf => ?_)
    · refine A_aload_n C dX9_pass_35 (i := 0) rfl 0 rfl 36 rfl ?_
      refine gfRX9_38 C k0 dX9_pass_36 39 rfl ?_
      refine A_iconst (v := 0) C dX9_pass_39 (by decide) 40 rfl ?_
      refine A_lald C dX9_pass_40 (of_9_21 k0) hf 41 rfl (fun hf => ?_)
      refine A_iload_n C dX9_pass_41 (i := 2) rfl 2 rfl 42 rfl ?_
      refine A_i2l C dX9_pass_42 43 rfl ?_
      refine A_aload_n C dX9_pass_43 (i := 0) rfl 0 rfl 44 rfl ?_
      refine A_iload_n C dX9_pass_44 (i := 1) rfl 1 rfl 45 rfl ?_
      refine CVl C dX9_pass_45 9 k0 (by decide) (r := (RX9, TX9, 44)) rfl rfl hf (fun _ _ e => mX9_minute k0 e) lkRX9_318 (by decide) (by decide) rfl [.long x2.toInt64, .long (gL h23 (x0 + 9) (ix 0))] rfl (Nat.le_of_ble_eq_true rfl) 48 rfl (fun r45 h45 hf => ?_)
      refine A_lmul C dX9_pass_48 49 rfl ?_
      refine A_ladd C dX9_pass_49 50 rfl ?_
      refine A_namL hf (fun y1 hf => ?_)
      refine A_lstore_n C dX9_pass_50 (i := 3) rfl [(3, .long y1), (0, .ref (K.2.1 x0)), (1, .int x1), (2, .int x2)] (lt_nl hnl (by decide)) rfl 51 rfl ?_
      refine A_lload_n C dX9_pass_51 (i := 3) rfl 0 rfl 52 rfl ?_
      refine A_ldc2 C dX9_pass_52 cRX9_504 55 rfl ?_
      refine A_aload_n C dX9_pass_55 (i := 0) rfl 1 rfl 56 rfl ?_
      refine CVi C dX9_pass_56 9 k0 (by decide) (r := (RX9, TX9, 44)) rfl rfl hf (fun _ _ e => mX9_bottom k0 e) lkRX9_307 (by decide) (by decide) rfl [.long 1200, .long y1] rfl (Nat.le_of_ble_eq_true rfl) 59 rfl (fun r56 h56 hf => ?_)
      refine A_i2l C dX9_pass_59 60 rfl ?_
      refine A_lmul C dX9_pass_60 61 rfl ?_
      refine A_l_le C dX9_pass_61 dX9_pass_62 71 (by decide) 65 rfl hf (fun c61 hf => ?_) (fun c61 hf => ?_)
      · refine A_aload_n C dX9_pass_71 (i := 0) rfl 1 rfl 72 rfl ?_
        refine CVv C dX9_pass_72 9 k0 (by decide) (r := (RX9, TX9, 44)) rfl rfl hf (fun _ e => mX9_note k0 e) lkRX9_506 (by decide) (by decide) rfl [] rfl (Nat.le_of_ble_eq_true rfl) 75 rfl (fun h72 hf => ?_)
        refine A_aload_n C dX9_pass_75 (i := 0) rfl 1 rfl 76 rfl ?_
        refine A_lload_n C dX9_pass_76 (i := 3) rfl 0 rfl 77 rfl ?_
        refine CVv C dX9_pass_77 9 k0 (by decide) (r := (RX9, TX9, 44)) rfl rfl hf (fun _ e => mX9_goOn k0 e) lkRX9_367 (by decide) (by decide) rfl [] rfl (Nat.le_of_ble_eq_true rfl) 80 rfl (fun h77 hf => ?_)
        refine A_aload_n C dX9_pass_80 (i := 0) rfl 1 rfl 81 rfl ?_
        refine gfRX9_38 C k0 dX9_pass_81 84 rfl ?_
        refine A_iconst (v := 0) C dX9_pass_84 (by decide) 85 rfl ?_
        refine A_lald C dX9_pass_85 (of_9_21 k0) hf 86 rfl (fun hf => ?_)
        refine A_aload_n C dX9_pass_86 (i := 0) rfl 1 rfl 87 rfl ?_
        refine CVi C dX9_pass_87 9 k0 (by decide) (r := (RX9, TX9, 44)) rfl rfl hf (fun _ _ e => mX9_bottom k0 e) lkRX9_307 (by decide) (by decide) rfl [.long (gL h77 (x0 + 9) (ix 0))] rfl (Nat.le_of_ble_eq_true rfl) 90 rfl (fun r87 h87 hf => ?_)
        refine A_i2l C dX9_pass_90 91 rfl ?_
        refine A_ldivG C dX9_pass_91 hf 92 rfl (fun hf => ?_)
        refine A_l2i C dX9_pass_92 93 rfl ?_
        exact A_iret C dX9_pass_93 E hf
      refine A_aload_n C dX9_pass_65 (i := 0) rfl 1 rfl 66 rfl ?_
      refine A_iconst (v := 3) C dX9_pass_66 (by decide) 67 rfl ?_
      refine CVi C dX9_pass_67 9 k0 (by decide) (r := (RX9, TX9, 44)) rfl rfl hf (fun _ _ e => mX9_no k0 e) lkRX9_194 (by decide) (by decide) rfl [] rfl (Nat.le_of_ble_eq_true rfl) 70 rfl (fun r67 h67 hf => ?_)
      exact A_iret C dX9_pass_70 E hf
    refine A_aload_n C dX9_pass_29 (i := 0) rfl 0 rfl 30 rfl ?_
    refine A_iconst (v := 2) C dX9_pass_30 (by decide) 31 rfl ?_
    refine CVi C dX9_pass_31 9 k0 (by decide) (r := (RX9, TX9, 44)) rfl rfl hf (fun _ _ e => mX9_no k0 e) lkRX9_194 (by decide) (by decide) rfl [] rfl (Nat.le_of_ble_eq_true rfl) 34 rfl (fun r31 h31 hf => ?_)
    exact A_iret C dX9_pass_34 E hf
  refine A_aload_n C dX9_pass_12 (i := 0) rfl 0 rfl 13 rfl ?_
  refine A_iconst (v := 1) C dX9_pass_13 (by decide) 14 rfl ?_
  refine CVi C dX9_pass_14 9 k0 (by decide) (r := (RX9, TX9, 44)) rfl rfl hf (fun _ _ e => mX9_no k0 e) lkRX9_194 (by decide) (by decide) rfl [] rfl (Nat.le_of_ble_eq_true rfl) 17 rfl (fun r14 h14 hf => ?_)
  exact A_iret C dX9_pass_17 E hf
set_option maxRecDepth 20000 in
theorem mX9_lie {K : KX} {x0 : Nat} {x1 : Int32} {x2 : Int32} (k0 : isK 9 x0) {h : HH} {rv : Int32} {hv : HH} (hf : fX9_lie x0 x1 x2 h = some (rv, hv)) : MR K yX9_lie cX9_lie 4 (some .int) 6 [.ref (K.2.1 x0), .int x1, .int x2] h (some (.int rv)) hv := by
  refine MR_of (by decide) (Nat.le_of_ble_eq_true rfl) (fun G C E hnl => ?_)
  have C : Ok K G 6 cX9_lie RX9 := C
  refine (show At K G 0 [(0, .ref (K.2.1 x0)), (1, .int x1), (2, .int x2)] [] h from ?_)
  unfold fX9_lie at hf
  refine A_aload_n C dX9_lie_0 (i := 0) rfl 0 rfl 1 rfl ?_
  refine CVv C dX9_lie_1 9 k0 (by decide) (r := (RX9, TX9, 44)) rfl rfl hf (fun _ e => mX9_good k0 e) lkRX9_191 (by decide) (by decide) rfl [] rfl (Nat.le_of_ble_eq_true rfl) 4 rfl (fun h1 hf => ?_)
  refine A_aload_n C dX9_lie_4 (i := 0) rfl 0 rfl 5 rfl ?_
  refine A_iload_n C dX9_lie_5 (i := 1) rfl 1 rfl 6 rfl ?_
  refine CVz C dX9_lie_6 9 k0 (by decide) (r := (RX9, TX9, 44)) rfl rfl hf (fun _ _ e => mX9_isSleeper k0 e) lkRX9_353 (by decide) (by decide) rfl [] rfl (Nat.le_of_ble_eq_true rfl) 9 rfl (fun r6 h6 hf => ?_)
  refine A_z_eq C dX9_lie_9 20 (by decide) 12 rfl hf (fun c9 hf => ?_) (fun c9 hf => ?_)
  · refine A_aload_n C dX9_lie_20 (i := 0) rfl 0 rfl 21 rfl ?_
    refine A_iconst (v := 1) C dX9_lie_21 (by decide) 22 rfl ?_
    refine CVi C dX9_lie_22 9 k0 (by decide) (r := (RX9, TX9, 44)) rfl rfl hf (fun _ _ e => mX9_no k0 e) lkRX9_194 (by decide) (by decide) rfl [] rfl (Nat.le_of_ble_eq_true rfl) 25 rfl (fun r22 h22 hf => ?_)
    exact A_iret C dX9_lie_25 E hf
  refine A_aload_n C dX9_lie_12 (i := 0) rfl 0 rfl 13 rfl ?_
  refine A_iload_n C dX9_lie_13 (i := 2) rfl 2 rfl 14 rfl ?_
  refine CVz C dX9_lie_14 9 k0 (by decide) (r := (RX9, TX9, 44)) rfl rfl hf (fun _ _ e => mX9_isHead k0 e) lkRX9_509 (by decide) (by decide) rfl [] rfl (Nat.le_of_ble_eq_true rfl) 17 rfl (fun r14 h14 hf => ?_)
  refine A_z_ne C dX9_lie_17 26 (by decide) 20 rfl hf (fun c17 hf => ?_) (fun c17 hf => ?_)
  · refine A_aload_n C dX9_lie_26 (i := 0) rfl 0 rfl 27 rfl ?_
    refine A_iload_n C dX9_lie_27 (i := 1) rfl 1 rfl 28 rfl ?_
    refine A_iconst (v := 0) C dX9_lie_28 (by decide) 29 rfl ?_
    refine CVi C dX9_lie_29 9 k0 (by decide) (r := (RX9, TX9, 44)) rfl rfl hf (fun _ _ e => mX9_its k0 e) lkRX9_310 (by decide) (by decide) rfl [] rfl (Nat.le_of_ble_eq_true rfl) 32 rfl (fun r29 h29 hf => ?_)
    refine A_istore_n C dX9_lie_32 (i := 3) rfl [(3, .int r29), (0, .ref (K.2.1 x0)), (1, .int x1), (2, .int x2)] (lt_nl hnl (by decide)) rfl 33 rfl ?_
    refine A_iload_n C dX9_lie_33 (i := 3) rfl 0 rfl 34 rfl ?_
    refine A_aload_n C dX9_lie_34 (i := 0) rfl 1 rfl 35 rfl ?_
    refine gfRX9_20 C k0 dX9_lie_35 38 rfl ?_
    refine A_iconst (v := 0) C dX9_lie_38 (by decide) 39 rfl ?_
    refine A_iald C dX9_lie_39 (of_9_15 k0) hf 40 rfl (fun hf => ?_)
    refine A_icmp_eq C dX9_lie_40 59 (by decide) 43 rfl hf (fun c40 hf => ?_) (fun c40 hf => ?_)
    · refine A_aload_n C dX9_lie_59 (i := 0) rfl 1 rfl 60 rfl ?_
      refine A_iconst (v := 5) C dX9_lie_60 (by decide) 61 rfl ?_
      refine CVi C dX9_lie_61 9 k0 (by decide) (r := (RX9, TX9, 44)) rfl rfl hf (fun _ _ e => mX9_no k0 e) lkRX9_194 (by decide) (by decide) rfl [] rfl (Nat.le_of_ble_eq_true rfl) 64 rfl (fun r61 h61 hf => ?_)
      exact A_iret C dX9_lie_64 E hf
    refine A_iload_n C dX9_lie_43 (i := 3) rfl 0 rfl 44 rfl ?_
    refine A_if_le C dX9_lie_44 65 (by decide) 47 rfl hf (fun c44 hf => ?_) (fun c44 hf => ?_)
    · refine A_aload_n C dX9_lie_65 (i := 0) rfl 1 rfl 66 rfl ?_
      refine CVv C dX9_lie_66 9 k0 (by decide) (r := (RX9, TX9, 44)) rfl rfl hf (fun _ e => mX9_note k0 e) lkRX9_506 (by decide) (by decide) rfl [] rfl (Nat.le_of_ble_eq_true rfl) 69 rfl (fun h66 hf => ?_)
      refine A_aload_n C dX9_lie_69 (i := 0) rfl 1 rfl 70 rfl ?_
      refine gfRX9_26 C k0 dX9_lie_70 73 rfl ?_
      refine A_iconst (v := 4) C dX9_lie_73 (by decide) 74 rfl ?_
      refine A_iload_n C dX9_lie_74 (i := 1) rfl 2 rfl 75 rfl ?_
      refine A_imul C dX9_lie_75 76 rfl ?_
      refine A_iconst (v := 1) C dX9_lie_76 (by decide) 77 rfl ?_
      refine A_iadd C dX9_lie_77 78 rfl ?_
      refine A_iload_n C dX9_lie_78 (i := 2) rfl 3 rfl 79 rfl ?_
      refine A_iconst (v := 1) C dX9_lie_79 (by decide) 80 rfl ?_
      refine A_iadd C dX9_lie_80 81 rfl ?_
      refine A_iast C dX9_lie_81 (of_9_17 k0) hf 82 rfl (fun hf => ?_)
      refine A_aload_n C dX9_lie_82 (i := 0) rfl 1 rfl 83 rfl ?_
      refine A_iload_n C dX9_lie_83 (i := 1) rfl 2 rfl 84 rfl ?_
      refine A_iload_n C dX9_lie_84 (i := 3) rfl 0 rfl 85 rfl ?_
      refine A_iconst (v := 1) C dX9_lie_85 (by decide) 86 rfl ?_
      refine A_iadd C dX9_lie_86 87 rfl ?_
      refine CVv C dX9_lie_87 9 k0 (by decide) (r := (RX9, TX9, 44)) rfl rfl hf (fun _ e => mX9_comes k0 e) lkRX9_322 (by decide) (by decide) rfl [] rfl (Nat.le_of_ble_eq_true rfl) 90 rfl (fun h87 hf => ?_)
      refine A_aload_n C dX9_lie_90 (i := 0) rfl 1 rfl 91 rfl ?_
      refine CVv C dX9_lie_91 9 k0 (by decide) (r := (RX9, TX9, 44)) rfl rfl hf (fun _ e => mX9_stepsNow k0 e) lkRX9_216 (by decide) (by decide) rfl [] rfl (Nat.le_of_ble_eq_true rfl) 94 rfl (fun h91 hf => ?_)
      refine A_aload_n C dX9_lie_94 (i := 0) rfl 1 rfl 95 rfl ?_
      refine A_iload_n C dX9_lie_95 (i := 1) rfl 2 rfl 96 rfl ?_
      refine A_iconst (v := 0) C dX9_lie_96 (by decide) 97 rfl ?_
      refine CVi C dX9_lie_97 9 k0 (by decide) (r := (RX9, TX9, 44)) rfl rfl hf (fun _ _ e => mX9_its k0 e) lkRX9_310 (by decide) (by decide) rfl [] rfl (Nat.le_of_ble_eq_true rfl) 100 rfl (fun r97 h97 hf => ?_)
      exact A_iret C dX9_lie_100 E hf
    refine A_aload_n C dX9_lie_47 (i := 0) rfl 1 rfl 48 rfl ?_
    refine A_iload_n C dX9_lie_48 (i := 1) rfl 2 rfl 49 rfl ?_
    refine A_iconst (v := 1) C dX9_lie_49 (by decide) 50 rfl ?_
    refine CVi C dX9_lie_50 9 k0 (by decide) (r := (RX9, TX9, 44)) rfl rfl hf (fun _ _ e => mX9_its k0 e) lkRX9_310 (by decide) (by decide) rfl [] rfl (Nat.le_of_ble_eq_true rfl) 53 rfl (fun r50 h50 hf => ?_)
    refine A_iload_n C dX9_lie_53 (i := 2) rfl 3 rfl 54 rfl ?_
    refine A_iconst (v := 1) C dX9_lie_54 (by decide) 55 rfl ?_
    refine A_iadd C dX9_lie_55 56 rfl ?_
    refine A_icmp_eq C dX9_lie_56 65 (by decide) 59 rfl hf (fun c56 hf => ?_) (fun c56 hf => ?_)
    · refine A_aload_n C dX9_lie_65 (i := 0) rfl 1 rfl 66 rfl ?_
      refine CVv C dX9_lie_66 9 k0 (by decide) (r := (RX9, TX9, 44)) rfl rfl hf (fun _ e => mX9_note k0 e) lkRX9_506 (by decide) (by decide) rfl [] rfl (Nat.le_of_ble_eq_true rfl) 69 rfl (fun h66 hf => ?_)
      refine A_aload_n C dX9_lie_69 (i := 0) rfl 1 rfl 70 rfl ?_
      refine gfRX9_26 C k0 dX9_lie_70 73 rfl ?_
      refine A_iconst (v := 4) C dX9_lie_73 (by decide) 74 rfl ?_
      refine A_iload_n C dX9_lie_74 (i := 1) rfl 2 rfl 75 rfl ?_
      refine A_imul C dX9_lie_75 76 rfl ?_
      refine A_iconst (v := 1) C dX9_lie_76 (by decide) 77 rfl ?_
      refine A_iadd C dX9_lie_77 78 rfl ?_
      refine A_iload_n C dX9_lie_78 (i := 2) rfl 3 rfl 79 rfl ?_
      refine A_iconst (v := 1) C dX9_lie_79 (by decide) 80 rfl ?_
      refine A_iadd C dX9_lie_80 81 rfl ?_
      refine A_iast C dX9_lie_81 (of_9_17 k0) hf 82 rfl (fun hf => ?_)
      refine A_aload_n C dX9_lie_82 (i := 0) rfl 1 rfl 83 rfl ?_
      refine A_iload_n C dX9_lie_83 (i := 1) rfl 2 rfl 84 rfl ?_
      refine A_iload_n C dX9_lie_84 (i := 3) rfl 0 rfl 85 rfl ?_
      refine A_iconst (v := 1) C dX9_lie_85 (by decide) 86 rfl ?_
      refine A_iadd C dX9_lie_86 87 rfl ?_
      refine CVv C dX9_lie_87 9 k0 (by decide) (r := (RX9, TX9, 44)) rfl rfl hf (fun _ e => mX9_comes k0 e) lkRX9_322 (by decide) (by decide) rfl [] rfl (Nat.le_of_ble_eq_true rfl) 90 rfl (fun h87 hf => ?_)
      refine A_aload_n C dX9_lie_90 (i := 0) rfl 1 rfl 91 rfl ?_
      refine CVv C dX9_lie_91 9 k0 (by decide) (r := (RX9, TX9, 44)) rfl rfl hf (fun _ e => mX9_stepsNow k0 e) lkRX9_216 (by decide) (by decide) rfl [] rfl (Nat.le_of_ble_eq_true rfl) 94 rfl (fun h91 hf => ?_)
      refine A_aload_n C dX9_lie_94 (i := 0) rfl 1 rfl 95 rfl ?_
      refine A_iload_n C dX9_lie_95 (i := 1) rfl 2 rfl 96 rfl ?_
      refine A_iconst (v := 0) C dX9_lie_96 (by decide) 97 rfl ?_
      refine CVi C dX9_lie_97 9 k0 (by decide) (r := (RX9, TX9, 44)) rfl rfl hf (fun _ _ e => mX9_its k0 e) lkRX9_310 (by decide) (by decide) rfl [] rfl (Nat.le_of_ble_eq_true rfl) 100 rfl (fun r97 h97 hf => ?_)
      exact A_iret C dX9_lie_100 E hf
    refine A_aload_n C dX9_lie_59 (i := 0) rfl 1 rfl 60 rfl ?_
    refine A_iconst (v := 5) C dX9_lie_60 (by decide) 61 rfl ?_
    refine CVi C dX9_lie_61 9 k0 (by decide) (r := (RX9, TX9, 44)) rfl rfl hf (fun _ _ e => mX9_no k0 e) lkRX9_194 (by decide) (by decide) rfl [] rfl (Nat.le_of_ble_eq_true rfl) 64 rfl (fun r61 h61 hf => ?_)
    exact A_iret C dX9_lie_64 E hf
  refine A_aload_n C dX9_lie_20 (i := 0) rfl 0 rfl 21 rfl ?_
  refine A_iconst (v := 1) C dX9_lie_21 (by decide) 22 rfl ?_
  refine CVi C dX9_lie_22 9 k0 (by decide) (r := (RX9, TX9, 44)) rfl rfl hf (fun _ _ e => mX9_no k0 e) lkRX9_194 (by decide) (by decide) rfl [] rfl (Nat.le_of_ble_eq_true rfl) 25 rfl (fun r22 h22 hf => ?_)
  exact A_iret C dX9_lie_25 E hf
set_option maxRecDepth 20000 in
theorem mX9_wake {K : KX} {x0 : Nat} {x1 : Int32} (k0 : isK 9 x0) {h : HH} {rv : Int32} {hv : HH} (hf : fX9_wake x0 x1 h = some (rv, hv)) : MR K yX9_wake cX9_wake 2 (some .int) 6 [.ref (K.2.1 x0), .int x1] h (some (.int rv)) hv := by
  refine MR_of (by decide) (Nat.le_of_ble_eq_true rfl) (fun G C E hnl => ?_)
  have C : Ok K G 6 cX9_wake RX9 := C
  refine (show At K G 0 [(0, .ref (K.2.1 x0)), (1, .int x1)] [] h from ?_)
  unfold fX9_wake at hf
  refine A_aload_n C dX9_wake_0 (i := 0) rfl 0 rfl 1 rfl ?_
  refine CVv C dX9_wake_1 9 k0 (by decide) (r := (RX9, TX9, 44)) rfl rfl hf (fun _ e => mX9_good k0 e) lkRX9_191 (by decide) (by decide) rfl [] rfl (Nat.le_of_ble_eq_true rfl) 4 rfl (fun h1 hf => ?_)
  refine A_aload_n C dX9_wake_4 (i := 0) rfl 0 rfl 5 rfl ?_
  refine A_iload_n C dX9_wake_5 (i := 1) rfl 1 rfl 6 rfl ?_
  refine CVz C dX9_wake_6 9 k0 (by decide) (r := (RX9, TX9, 44)) rfl rfl hf (fun _ _ e => mX9_isSleeper k0 e) lkRX9_353 (by decide) (by decide) rfl [] rfl (Nat.le_of_ble_eq_true rfl) 9 rfl (fun r6 h6 hf => ?_)
  refine A_z_ne C dX9_wake_9 18 (by decide) 12 rfl hf (fun c9 hf => ?_) (fun c9 hf => ?_)
  · refine A_aload_n C dX9_wake_18 (i := 0) rfl 0 rfl 19 rfl ?_
    refine A_iload_n C dX9_wake_19 (i := 1) rfl 1 rfl 20 rfl ?_
    refine A_iconst (v := 0) C dX9_wake_20 (by decide) 21 rfl ?_
    refine CVi C dX9_wake_21 9 k0 (by decide) (r := (RX9, TX9, 44)) rfl rfl hf (fun _ _ e => mX9_its k0 e) lkRX9_310 (by decide) (by decide) rfl [] rfl (Nat.le_of_ble_eq_true rfl) 24 rfl (fun r21 h21 hf => ?_)
    refine A_if_ne C dX9_wake_24 33 (by decide) 27 rfl hf (fun c24 hf => ?_) (fun c24 hf => ?_)
    · refine A_aload_n C dX9_wake_33 (i := 0) rfl 0 rfl 34 rfl ?_
      refine CVv C dX9_wake_34 9 k0 (by decide) (r := (RX9, TX9, 44)) rfl rfl hf (fun _ e => mX9_note k0 e) lkRX9_506 (by decide) (by decide) rfl [] rfl (Nat.le_of_ble_eq_true rfl) 37 rfl (fun h34 hf => ?_)
      refine A_aload_n C dX9_wake_37 (i := 0) rfl 0 rfl 38 rfl ?_
      refine A_iload_n C dX9_wake_38 (i := 1) rfl 1 rfl 39 rfl ?_
      refine A_aload_n C dX9_wake_39 (i := 0) rfl 0 rfl 40 rfl ?_
      refine A_iload_n C dX9_wake_40 (i := 1) rfl 1 rfl 41 rfl ?_
      refine A_iconst (v := 0) C dX9_wake_41 (by decide) 42 rfl ?_
      refine CVi C dX9_wake_42 9 k0 (by decide) (r := (RX9, TX9, 44)) rfl rfl hf (fun _ _ e => mX9_its k0 e) lkRX9_310 (by decide) (by decide) rfl [.int x1, .ref (K.2.1 x0)] rfl (Nat.le_of_ble_eq_true rfl) 45 rfl (fun r42 h42 hf => ?_)
      refine A_iconst (v := 1) C dX9_wake_45 (by decide) 46 rfl ?_
      refine A_isub C dX9_wake_46 47 rfl ?_
      refine CVv C dX9_wake_47 9 k0 (by decide) (r := (RX9, TX9, 44)) rfl rfl hf (fun _ e => mX9_comes k0 e) lkRX9_322 (by decide) (by decide) rfl [] rfl (Nat.le_of_ble_eq_true rfl) 50 rfl (fun h47 hf => ?_)
      refine A_aload_n C dX9_wake_50 (i := 0) rfl 0 rfl 51 rfl ?_
      refine CVv C dX9_wake_51 9 k0 (by decide) (r := (RX9, TX9, 44)) rfl rfl hf (fun _ e => mX9_stepsNow k0 e) lkRX9_216 (by decide) (by decide) rfl [] rfl (Nat.le_of_ble_eq_true rfl) 54 rfl (fun h51 hf => ?_)
      refine A_aload_n C dX9_wake_54 (i := 0) rfl 0 rfl 55 rfl ?_
      refine A_iload_n C dX9_wake_55 (i := 1) rfl 1 rfl 56 rfl ?_
      refine A_iconst (v := 0) C dX9_wake_56 (by decide) 57 rfl ?_
      refine CVi C dX9_wake_57 9 k0 (by decide) (r := (RX9, TX9, 44)) rfl rfl hf (fun _ _ e => mX9_its k0 e) lkRX9_310 (by decide) (by decide) rfl [] rfl (Nat.le_of_ble_eq_true rfl) 60 rfl (fun r57 h57 hf => ?_)
      exact A_iret C dX9_wake_60 E hf
    refine A_aload_n C dX9_wake_27 (i := 0) rfl 0 rfl 28 rfl ?_
    refine A_iconst (v := 5) C dX9_wake_28 (by decide) 29 rfl ?_
    refine CVi C dX9_wake_29 9 k0 (by decide) (r := (RX9, TX9, 44)) rfl rfl hf (fun _ _ e => mX9_no k0 e) lkRX9_194 (by decide) (by decide) rfl [] rfl (Nat.le_of_ble_eq_true rfl) 32 rfl (fun r29 h29 hf => ?_)
    exact A_iret C dX9_wake_32 E hf
  refine A_aload_n C dX9_wake_12 (i := 0) rfl 0 rfl 13 rfl ?_
  refine A_iconst (v := 1) C dX9_wake_13 (by decide) 14 rfl ?_
  refine CVi C dX9_wake_14 9 k0 (by decide) (r := (RX9, TX9, 44)) rfl rfl hf (fun _ _ e => mX9_no k0 e) lkRX9_194 (by decide) (by decide) rfl [] rfl (Nat.le_of_ble_eq_true rfl) 17 rfl (fun r14 h14 hf => ?_)
  exact A_iret C dX9_wake_17 E hf
set_option maxRecDepth 20000 in
theorem mX9_knock {K : KX} {x0 : Nat} {x1 : Int32} {x2 : Int32} {x3 : Int32} (k0 : isK 9 x0) {h : HH} {rv : Int32} {hv : HH} (hf : fX9_knock x0 x1 x2 x3 h = some (rv, hv)) : MR K yX9_knock cX9_knock 5 (some .int) 6 [.ref (K.2.1 x0), .int x1, .int x2, .int x3] h (some (.int rv)) hv := by
  refine MR_of (by decide) (Nat.le_of_ble_eq_true rfl) (fun G C E hnl => ?_)
  have C : Ok K G 6 cX9_knock RX9 := C
  refine (show At K G 0 [(0, .ref (K.2.1 x0)), (1, .int x1), (2, .int x2), (3, .int x3)] [] h from ?_)
  unfold fX9_knock at hf
  refine A_aload_n C dX9_knock_0 (i := 0) rfl 0 rfl 1 rfl ?_
  refine CVv C dX9_knock_1 9 k0 (by decide) (r := (RX9, TX9, 44)) rfl rfl hf (fun _ e => mX9_good k0 e) lkRX9_191 (by decide) (by decide) rfl [] rfl (Nat.le_of_ble_eq_true rfl) 4 rfl (fun h1 hf => ?_)
  refine A_aload_n C dX9_knock_4 (i := 0) rfl 0 rfl 5 rfl ?_
  refine A_iload_n C dX9_knock_5 (i := 1) rfl 1 rfl 6 rfl ?_
  refine CVz C dX9_knock_6 9 k0 (by decide) (r := (RX9, TX9, 44)) rfl rfl hf (fun _ _ e => mX9_isHead k0 e) lkRX9_509 (by decide) (by decide) rfl [] rfl (Nat.le_of_ble_eq_true rfl) 9 rfl (fun r6 h6 hf => ?_)
  refine A_z_eq C dX9_knock_9 28 (by decide) 12 rfl hf (fun c9 hf => ?_) (fun c9 hf => ?_)
  · refine A_aload_n C dX9_knock_28 (i := 0) rfl 0 rfl 29 rfl ?_
    refine A_iconst (v := 1) C dX9_knock_29 (by decide) 30 rfl ?_
    refine CVi C dX9_knock_30 9 k0 (by decide) (r := (RX9, TX9, 44)) rfl rfl hf (fun _ _ e => mX9_no k0 e) lkRX9_194 (by decide) (by decide) rfl [] rfl (Nat.le_of_ble_eq_true rfl) 33 rfl (fun r30 h30 hf => ?_)
    exact A_iret C dX9_knock_33 E hf
  refine A_iload_n C dX9_knock_12 (i := 2) rfl 2 rfl 13 rfl ?_
  refine A_iconst (v := 0) C dX9_knock_13 (by decide) 14 rfl ?_
  refine A_aload_n C dX9_knock_14 (i := 0) rfl 0 rfl 15 rfl ?_
  refine gfRX9_20 C k0 dX9_knock_15 18 rfl ?_
  refine A_iconst (v := 0) C dX9_knock_18 (by decide) 19 rfl ?_
  refine A_iald C dX9_knock_19 (of_9_15 k0) hf 20 rfl (fun hf => ?_)
  refine A_iconst (v := 1) C dX9_knock_20 (by decide) 21 rfl ?_
  refine A_isub C dX9_knock_21 22 rfl ?_
  refine CSz C dX9_knock_22 hf (fun _ _ e => mX9_within  e) lkRX9_170 (by decide) (by decide) rfl [] rfl (Nat.le_of_ble_eq_true rfl) 25 rfl (fun r22 h22 hf => ?_)
  refine A_z_ne C dX9_knock_25 34 (by decide) 28 rfl hf (fun c25 hf => ?_) (fun c25 hf => ?_)
  · refine A_iload_n C dX9_knock_34 (i := 3) rfl 3 rfl 35 rfl ?_
    refine A_iconst (v := 1) C dX9_knock_35 (by decide) 36 rfl ?_
    refine A_bipush (v := 99) C dX9_knock_36 (by decide) 38 rfl ?_
    refine CSz C dX9_knock_38 hf (fun _ _ e => mX9_within  e) lkRX9_170 (by decide) (by decide) rfl [] rfl (Nat.le_of_ble_eq_true rfl) 41 rfl (fun r38 h38 hf => ?_)
    refine A_z_ne C dX9_knock_41 50 (by decide) 44 rfl hf (fun c41 hf => ?_) (fun c41 hf => ?_)
    · refine A_aload_n C dX9_knock_50 (i := 0) rfl 0 rfl 51 rfl ?_
      refine CVv C dX9_knock_51 9 k0 (by decide) (r := (RX9, TX9, 44)) rfl rfl hf (fun _ e => mX9_note k0 e) lkRX9_506 (by decide) (by decide) rfl [] rfl (Nat.le_of_ble_eq_true rfl) 54 rfl (fun h51 hf => ?_)
      refine A_aload_n C dX9_knock_54 (i := 0) rfl 0 rfl 55 rfl ?_
      refine A_iload_n C dX9_knock_55 (i := 1) rfl 1 rfl 56 rfl ?_
      refine A_iload_n C dX9_knock_56 (i := 2) rfl 2 rfl 57 rfl ?_
      refine A_iload_n C dX9_knock_57 (i := 3) rfl 3 rfl 58 rfl ?_
      refine CVi C dX9_knock_58 9 k0 (by decide) (r := (RX9, TX9, 44)) rfl rfl hf (fun _ _ e => mX9_knocks k0 e) lkRX9_342 (by decide) (by decide) rfl [] rfl (Nat.le_of_ble_eq_true rfl) 61 rfl (fun r58 h58 hf => ?_)
      refine A_istore C dX9_knock_61 [(4, .int r58), (0, .ref (K.2.1 x0)), (1, .int x1), (2, .int x2), (3, .int x3)] (lt_nl hnl (by decide)) rfl 63 rfl ?_
      refine A_aload_n C dX9_knock_63 (i := 0) rfl 1 rfl 64 rfl ?_
      refine CVv C dX9_knock_64 9 k0 (by decide) (r := (RX9, TX9, 44)) rfl rfl hf (fun _ e => mX9_stepsNow k0 e) lkRX9_216 (by decide) (by decide) rfl [] rfl (Nat.le_of_ble_eq_true rfl) 67 rfl (fun h64 hf => ?_)
      refine A_iload C dX9_knock_67 0 rfl 69 rfl ?_
      exact A_iret C dX9_knock_69 E hf
    refine A_aload_n C dX9_knock_44 (i := 0) rfl 0 rfl 45 rfl ?_
    refine A_iconst (v := 2) C dX9_knock_45 (by decide) 46 rfl ?_
    refine CVi C dX9_knock_46 9 k0 (by decide) (r := (RX9, TX9, 44)) rfl rfl hf (fun _ _ e => mX9_no k0 e) lkRX9_194 (by decide) (by decide) rfl [] rfl (Nat.le_of_ble_eq_true rfl) 49 rfl (fun r46 h46 hf => ?_)
    exact A_iret C dX9_knock_49 E hf
  refine A_aload_n C dX9_knock_28 (i := 0) rfl 0 rfl 29 rfl ?_
  refine A_iconst (v := 1) C dX9_knock_29 (by decide) 30 rfl ?_
  refine CVi C dX9_knock_30 9 k0 (by decide) (r := (RX9, TX9, 44)) rfl rfl hf (fun _ _ e => mX9_no k0 e) lkRX9_194 (by decide) (by decide) rfl [] rfl (Nat.le_of_ble_eq_true rfl) 33 rfl (fun r30 h30 hf => ?_)
  exact A_iret C dX9_knock_33 E hf
set_option maxRecDepth 20000 in
theorem mX9_undo {K : KX} {x0 : Nat} (k0 : isK 9 x0) {h : HH} {rv : Bool} {hv : HH} (hf : fX9_undo x0 h = some (rv, hv)) : MR K yX9_undo cX9_undo 1 (some .boolean) 2 [.ref (K.2.1 x0)] h (some (.int (b2i rv))) hv := by
  refine MR_of (by decide) (Nat.le_of_ble_eq_true rfl) (fun G C E hnl => ?_)
  have C : Ok K G 2 cX9_undo RX9 := C
  refine (show At K G 0 [(0, .ref (K.2.1 x0))] [] h from ?_)
  unfold fX9_undo at hf
  refine A_aload_n C dX9_undo_0 (i := 0) rfl 0 rfl 1 rfl ?_
  refine CVv C dX9_undo_1 9 k0 (by decide) (r := (RX9, TX9, 44)) rfl rfl hf (fun _ e => mX9_good k0 e) lkRX9_191 (by decide) (by decide) rfl [] rfl (Nat.le_of_ble_eq_true rfl) 4 rfl (fun h1 hf => ?_)
  refine A_aload_n C dX9_undo_4 (i := 0) rfl 0 rfl 5 rfl ?_
  refine gfRX9_207 C k0 dX9_undo_5 8 rfl ?_
  refine A_if_ne C dX9_undo_8 18 (by decide) 11 rfl hf (fun c8 hf => ?_) (fun c8 hf => ?_)
  · refine A_aload_n C dX9_undo_18 (i := 0) rfl 0 rfl 19 rfl ?_
    refine A_dup C dX9_undo_19 rfl 20 rfl ?_
    refine gfRX9_207 C k0 dX9_undo_20 23 rfl ?_
    refine A_iconst (v := 1) C dX9_undo_23 (by decide) 24 rfl ?_
    refine A_isub C dX9_undo_24 25 rfl ?_
    refine pfRX9_207 C k0 dX9_undo_25 28 rfl ?_
    refine A_aload_n C dX9_undo_28 (i := 0) rfl 0 rfl 29 rfl ?_
    refine gfRX9_29 C k0 dX9_undo_29 32 rfl ?_
    refine A_bipush (v := 20) C dX9_undo_32 (by decide) 34 rfl ?_
    refine A_aload_n C dX9_undo_34 (i := 0) rfl 0 rfl 35 rfl ?_
    refine gfRX9_207 C k0 dX9_undo_35 38 rfl ?_
    refine A_imul C dX9_undo_38 39 rfl ?_
    refine A_aload_n C dX9_undo_39 (i := 0) rfl 0 rfl 40 rfl ?_
    refine gfRX9_26 C k0 dX9_undo_40 43 rfl ?_
    refine A_iconst (v := 0) C dX9_undo_43 (by decide) 44 rfl ?_
    refine A_bipush (v := 20) C dX9_undo_44 (by decide) 46 rfl ?_
    refine CSv C dX9_undo_46 hf (fun _ e => mX9_copy (isK_ofA (of_9_18 k0)) (isK_ofA (of_9_17 k0)) e) lkRX9_200 (by decide) (by decide) rfl [] rfl (Nat.le_of_ble_eq_true rfl) 49 rfl (fun h46 hf => ?_)
    refine A_aload_n C dX9_undo_49 (i := 0) rfl 0 rfl 50 rfl ?_
    refine gfRX9_42 C k0 dX9_undo_50 53 rfl ?_
    refine A_bipush (v := 31) C dX9_undo_53 (by decide) 55 rfl ?_
    refine A_aload_n C dX9_undo_55 (i := 0) rfl 0 rfl 56 rfl ?_
    refine gfRX9_207 C k0 dX9_undo_56 59 rfl ?_
    refine A_imul C dX9_undo_59 60 rfl ?_
    refine A_aload_n C dX9_undo_60 (i := 0) rfl 0 rfl 61 rfl ?_
    refine gfRX9_38 C k0 dX9_undo_61 64 rfl ?_
    refine A_iconst (v := 0) C dX9_undo_64 (by decide) 65 rfl ?_
    refine CSv C dX9_undo_65 hf (fun _ e => mX9_copyLongs (isK_ofA (of_9_22 k0)) (isK_ofA (of_9_21 k0)) e) lkRX9_346 (by decide) (by decide) rfl [] rfl (Nat.le_of_ble_eq_true rfl) 68 rfl (fun h65 hf => ?_)
    refine A_iconst (v := 1) C dX9_undo_68 (by decide) 69 rfl ?_
    exact A_zret (x := true) C dX9_undo_69 E hf
  refine A_aload_n C dX9_undo_11 (i := 0) rfl 0 rfl 12 rfl ?_
  refine A_bipush (v := 6) C dX9_undo_12 (by decide) 14 rfl ?_
  refine CVz C dX9_undo_14 9 k0 (by decide) (r := (RX9, TX9, 44)) rfl rfl hf (fun _ _ e => mX9_isNot k0 e) lkRX9_512 (by decide) (by decide) rfl [] rfl (Nat.le_of_ble_eq_true rfl) 17 rfl (fun r14 h14 hf => ?_)
  exact A_zret (x := r14) C dX9_undo_17 E hf
set_option maxRecDepth 20000 in
theorem mX9_image {K : KX} {x0 : Nat} (k0 : isK 9 x0) {h : HH} {rv : Int32} {hv : HH} (hf : fX9_image x0 h = some (rv, hv)) : MR K yX9_image cX9_image 1 (some .int) 2 [.ref (K.2.1 x0)] h (some (.int rv)) hv := by
  refine MR_of (by decide) (Nat.le_of_ble_eq_true rfl) (fun G C E hnl => ?_)
  have C : Ok K G 2 cX9_image RX9 := C
  refine (show At K G 0 [(0, .ref (K.2.1 x0))] [] h from ?_)
  unfold fX9_image at hf
  refine A_aload_n C dX9_image_0 (i := 0) rfl 0 rfl 1 rfl ?_
  refine CVv C dX9_image_1 9 k0 (by decide) (r := (RX9, TX9, 44)) rfl rfl hf (fun _ e => mX9_good k0 e) lkRX9_191 (by decide) (by decide) rfl [] rfl (Nat.le_of_ble_eq_true rfl) 4 rfl (fun h1 hf => ?_)
  refine A_aload_n C dX9_image_4 (i := 0) rfl 0 rfl 5 rfl ?_
  refine gfRX9_204 C k0 dX9_image_5 8 rfl ?_
  refine A_if_ne C dX9_image_8 17 (by decide) 11 rfl hf (fun c8 hf => ?_) (fun c8 hf => ?_)
  · refine A_aload_n C dX9_image_17 (i := 0) rfl 0 rfl 18 rfl ?_
    refine gfRX9_210 C k0 dX9_image_18 21 rfl ?_
    refine A_iconst (v := 3) C dX9_image_21 (by decide) 22 rfl ?_
    refine A_icmp_ne C dX9_image_22 31 (by decide) 25 rfl hf (fun c22 hf => ?_) (fun c22 hf => ?_)
    · refine A_aload_n C dX9_image_31 (i := 0) rfl 0 rfl 32 rfl ?_
      refine gfRX9_26 C k0 dX9_image_32 35 rfl ?_
      refine A_iconst (v := 0) C dX9_image_35 (by decide) 36 rfl ?_
      refine A_aload_n C dX9_image_36 (i := 0) rfl 0 rfl 37 rfl ?_
      refine gfRX9_32 C k0 dX9_image_37 40 rfl ?_
      refine A_bipush (v := 20) C dX9_image_40 (by decide) 42 rfl ?_
      refine A_aload_n C dX9_image_42 (i := 0) rfl 0 rfl 43 rfl ?_
      refine gfRX9_210 C k0 dX9_image_43 46 rfl ?_
      refine A_imul C dX9_image_46 47 rfl ?_
      refine A_bipush (v := 20) C dX9_image_47 (by decide) 49 rfl ?_
      refine CSv C dX9_image_49 hf (fun _ e => mX9_copy (isK_ofA (of_9_17 k0)) (isK_ofA (of_9_19 k0)) e) lkRX9_200 (by decide) (by decide) rfl [] rfl (Nat.le_of_ble_eq_true rfl) 52 rfl (fun h49 hf => ?_)
      refine A_aload_n C dX9_image_52 (i := 0) rfl 0 rfl 53 rfl ?_
      refine gfRX9_38 C k0 dX9_image_53 56 rfl ?_
      refine A_iconst (v := 0) C dX9_image_56 (by decide) 57 rfl ?_
      refine A_aload_n C dX9_image_57 (i := 0) rfl 0 rfl 58 rfl ?_
      refine gfRX9_45 C k0 dX9_image_58 61 rfl ?_
      refine A_bipush (v := 31) C dX9_image_61 (by decide) 63 rfl ?_
      refine A_aload_n C dX9_image_63 (i := 0) rfl 0 rfl 64 rfl ?_
      refine gfRX9_210 C k0 dX9_image_64 67 rfl ?_
      refine A_imul C dX9_image_67 68 rfl ?_
      refine CSv C dX9_image_68 hf (fun _ e => mX9_copyLongs (isK_ofA (of_9_21 k0)) (isK_ofA (of_9_23 k0)) e) lkRX9_346 (by decide) (by decide) rfl [] rfl (Nat.le_of_ble_eq_true rfl) 71 rfl (fun h68 hf => ?_)
      refine A_aload_n C dX9_image_71 (i := 0) rfl 0 rfl 72 rfl ?_
      refine A_dup C dX9_image_72 rfl 73 rfl ?_
      refine gfRX9_210 C k0 dX9_image_73 76 rfl ?_
      refine A_iconst (v := 1) C dX9_image_76 (by decide) 77 rfl ?_
      refine A_iadd C dX9_image_77 78 rfl ?_
      refine pfRX9_210 C k0 dX9_image_78 81 rfl ?_
      refine A_aload_n C dX9_image_81 (i := 0) rfl 0 rfl 82 rfl ?_
      refine gfRX9_210 C k0 dX9_image_82 85 rfl ?_
      refine A_iconst (v := 1) C dX9_image_85 (by decide) 86 rfl ?_
      refine A_isub C dX9_image_86 87 rfl ?_
      exact A_iret C dX9_image_87 E hf
    refine A_aload_n C dX9_image_25 (i := 0) rfl 0 rfl 26 rfl ?_
    refine A_iconst (v := 3) C dX9_image_26 (by decide) 27 rfl ?_
    refine CVi C dX9_image_27 9 k0 (by decide) (r := (RX9, TX9, 44)) rfl rfl hf (fun _ _ e => mX9_no k0 e) lkRX9_194 (by decide) (by decide) rfl [] rfl (Nat.le_of_ble_eq_true rfl) 30 rfl (fun r27 h27 hf => ?_)
    exact A_iret C dX9_image_30 E hf
  refine A_aload_n C dX9_image_11 (i := 0) rfl 0 rfl 12 rfl ?_
  refine A_iconst (v := 1) C dX9_image_12 (by decide) 13 rfl ?_
  refine CVi C dX9_image_13 9 k0 (by decide) (r := (RX9, TX9, 44)) rfl rfl hf (fun _ _ e => mX9_no k0 e) lkRX9_194 (by decide) (by decide) rfl [] rfl (Nat.le_of_ble_eq_true rfl) 16 rfl (fun r13 h13 hf => ?_)
  exact A_iret C dX9_image_16 E hf
set_option maxRecDepth 20000 in
theorem mX9_back {K : KX} {x0 : Nat} {x1 : Int32} (k0 : isK 9 x0) {h : HH} {rv : Bool} {hv : HH} (hf : fX9_back x0 x1 h = some (rv, hv)) : MR K yX9_back cX9_back 2 (some .boolean) 2 [.ref (K.2.1 x0), .int x1] h (some (.int (b2i rv))) hv := by
  refine MR_of (by decide) (Nat.le_of_ble_eq_true rfl) (fun G C E hnl => ?_)
  have C : Ok K G 2 cX9_back RX9 := C
  refine (show At K G 0 [(0, .ref (K.2.1 x0)), (1, .int x1)] [] h from ?_)
  unfold fX9_back at hf
  refine A_aload_n C dX9_back_0 (i := 0) rfl 0 rfl 1 rfl ?_
  refine CVv C dX9_back_1 9 k0 (by decide) (r := (RX9, TX9, 44)) rfl rfl hf (fun _ e => mX9_good k0 e) lkRX9_191 (by decide) (by decide) rfl [] rfl (Nat.le_of_ble_eq_true rfl) 4 rfl (fun h1 hf => ?_)
  refine A_iload_n C dX9_back_4 (i := 1) rfl 1 rfl 5 rfl ?_
  refine A_iconst (v := 0) C dX9_back_5 (by decide) 6 rfl ?_
  refine A_aload_n C dX9_back_6 (i := 0) rfl 0 rfl 7 rfl ?_
  refine gfRX9_210 C k0 dX9_back_7 10 rfl ?_
  refine A_iconst (v := 1) C dX9_back_10 (by decide) 11 rfl ?_
  refine A_isub C dX9_back_11 12 rfl ?_
  refine CSz C dX9_back_12 hf (fun _ _ e => mX9_within  e) lkRX9_170 (by decide) (by decide) rfl [] rfl (Nat.le_of_ble_eq_true rfl) 15 rfl (fun r12 h12 hf => ?_)
  refine A_z_ne C dX9_back_15 24 (by decide) 18 rfl hf (fun c15 hf => ?_) (fun c15 hf => ?_)
  · refine A_aload_n C dX9_back_24 (i := 0) rfl 0 rfl 25 rfl ?_
    refine gfRX9_32 C k0 dX9_back_25 28 rfl ?_
    refine A_bipush (v := 20) C dX9_back_28 (by decide) 30 rfl ?_
    refine A_iload_n C dX9_back_30 (i := 1) rfl 1 rfl 31 rfl ?_
    refine A_imul C dX9_back_31 32 rfl ?_
    refine A_aload_n C dX9_back_32 (i := 0) rfl 0 rfl 33 rfl ?_
    refine gfRX9_26 C k0 dX9_back_33 36 rfl ?_
    refine A_iconst (v := 0) C dX9_back_36 (by decide) 37 rfl ?_
    refine A_bipush (v := 20) C dX9_back_37 (by decide) 39 rfl ?_
    refine CSv C dX9_back_39 hf (fun _ e => mX9_copy (isK_ofA (of_9_19 k0)) (isK_ofA (of_9_17 k0)) e) lkRX9_200 (by decide) (by decide) rfl [] rfl (Nat.le_of_ble_eq_true rfl) 42 rfl (fun h39 hf => ?_)
    refine A_aload_n C dX9_back_42 (i := 0) rfl 0 rfl 43 rfl ?_
    refine gfRX9_45 C k0 dX9_back_43 46 rfl ?_
    refine A_bipush (v := 31) C dX9_back_46 (by decide) 48 rfl ?_
    refine A_iload_n C dX9_back_48 (i := 1) rfl 1 rfl 49 rfl ?_
    refine A_imul C dX9_back_49 50 rfl ?_
    refine A_aload_n C dX9_back_50 (i := 0) rfl 0 rfl 51 rfl ?_
    refine gfRX9_38 C k0 dX9_back_51 54 rfl ?_
    refine A_iconst (v := 0) C dX9_back_54 (by decide) 55 rfl ?_
    refine CSv C dX9_back_55 hf (fun _ e => mX9_copyLongs (isK_ofA (of_9_23 k0)) (isK_ofA (of_9_21 k0)) e) lkRX9_346 (by decide) (by decide) rfl [] rfl (Nat.le_of_ble_eq_true rfl) 58 rfl (fun h55 hf => ?_)
    refine A_aload_n C dX9_back_58 (i := 0) rfl 0 rfl 59 rfl ?_
    refine A_iconst (v := 0) C dX9_back_59 (by decide) 60 rfl ?_
    refine pfRX9_207 C k0 dX9_back_60 63 rfl ?_
    refine A_iconst (v := 1) C dX9_back_63 (by decide) 64 rfl ?_
    exact A_zret (x := true) C dX9_back_64 E hf
  refine A_aload_n C dX9_back_18 (i := 0) rfl 0 rfl 19 rfl ?_
  refine A_iconst (v := 1) C dX9_back_19 (by decide) 20 rfl ?_
  refine CVz C dX9_back_20 9 k0 (by decide) (r := (RX9, TX9, 44)) rfl rfl hf (fun _ _ e => mX9_isNot k0 e) lkRX9_512 (by decide) (by decide) rfl [] rfl (Nat.le_of_ble_eq_true rfl) 23 rfl (fun r20 h20 hf => ?_)
  exact A_zret (x := r20) C dX9_back_23 E hf
set_option maxRecDepth 20000 in
theorem wX9_led_L4 {K : KX} {G : GX} (C : Ok K G 2 cX9_led RX9) (hnl : G.2.2.2.2.2.2.2.2.2.2.2.2.2 = 4) {rv : Int32} {hv : HH} (E : Endd K G (some .int) (some (.int rv)) hv) {x0 : Nat} {x1 : Int32}   (kx0 : isK 9 x0) : ∀ (self4 : Int32 → Int32 → HH → Option (Int32 × HH)), (∀ (x2 : Int32) (x3 : Int32) (h : HH), self4 x2 x3 h = some (rv, hv) → At K G 4 [(0, .ref (K.2.1 x0)), (1, .int x1), (2, .int x2), (3, .int x3)] [] h) → ∀ (x2 : Int32) (x3 : Int32) (h : HH), fX9_led_L4 x0 x1 self4 x2 x3 h = some (rv, hv) → At K G 4 [(0, .ref (K.2.1 x0)), (1, .int x1), (2, .int x2), (3, .int x3)] [] h := by
  intro self4 Hself4 x2 x3 h hf
  unfold fX9_led_L4 at hf
  refine A_aload_n C dX9_led_4 (i := 0) rfl 0 rfl 5 rfl ?_
  refine gfRX9_204 C kx0 dX9_led_5 8 rfl ?_
  refine A_if_eq C dX9_led_8 54 (by decide) 11 rfl hf (fun c8 hf => ?_) (fun c8 hf => ?_)
  · refine A_aload_n C dX9_led_54 (i := 0) rfl 0 rfl 55 rfl ?_
    refine A_iconst (v := 1) C dX9_led_55 (by decide) 56 rfl ?_
    refine pfRX9_72 C kx0 dX9_led_56 59 rfl ?_
    refine A_iconst (v := 0) C dX9_led_59 (by decide) 60 rfl ?_
    exact A_iret C dX9_led_60 E hf
  refine A_iload_n C dX9_led_11 (i := 3) rfl 3 rfl 12 rfl ?_
  refine A_aload_n C dX9_led_12 (i := 0) rfl 0 rfl 13 rfl ?_
  refine gfRX9_20 C kx0 dX9_led_13 16 rfl ?_
  refine A_iconst (v := 4) C dX9_led_16 (by decide) 17 rfl ?_
  refine A_iald C dX9_led_17 (of_9_15 kx0) hf 18 rfl (fun hf => ?_)
  refine A_icmp_ge C dX9_led_18 54 (by decide) 21 rfl hf (fun c18 hf => ?_) (fun c18 hf => ?_)
  · refine A_aload_n C dX9_led_54 (i := 0) rfl 0 rfl 55 rfl ?_
    refine A_iconst (v := 1) C dX9_led_55 (by decide) 56 rfl ?_
    refine pfRX9_72 C kx0 dX9_led_56 59 rfl ?_
    refine A_iconst (v := 0) C dX9_led_59 (by decide) 60 rfl ?_
    exact A_iret C dX9_led_60 E hf
  refine A_aload_n C dX9_led_21 (i := 0) rfl 0 rfl 22 rfl ?_
  refine A_iload_n C dX9_led_22 (i := 3) rfl 3 rfl 23 rfl ?_
  refine A_iconst (v := 0) C dX9_led_23 (by decide) 24 rfl ?_
  refine CVi C dX9_led_24 9 kx0 (by decide) (r := (RX9, TX9, 44)) rfl rfl hf (fun _ _ e => mX9_its kx0 e) lkRX9_310 (by decide) (by decide) rfl [] rfl (Nat.le_of_ble_eq_true rfl) 27 rfl (fun r24 h24 hf => ?_)
  refine A_if_ne C dX9_led_27 33 (by decide) 30 rfl hf (fun c27 hf => ?_) (fun c27 hf => ?_)
  · refine A_iload_n C dX9_led_33 (i := 2) rfl 2 rfl 34 rfl ?_
    refine A_iload_n C dX9_led_34 (i := 1) rfl 1 rfl 35 rfl ?_
    refine A_icmp_ne C dX9_led_35 45 (by decide) 38 rfl hf (fun c35 hf => ?_) (fun c35 hf => ?_)
    · refine A_iinc (v := (x2 + 1)) C dX9_led_45 2 rfl rfl [(2, .int (x2 + 1)), (0, .ref (K.2.1 x0)), (1, .int x1), (3, .int x3)] (lt_nl hnl (by decide)) rfl 48 rfl ?_
      refine A_iinc (v := (x3 + 1)) C dX9_led_48 3 rfl rfl [(3, .int (x3 + 1)), (2, .int (x2 + 1)), (0, .ref (K.2.1 x0)), (1, .int x1)] (lt_nl hnl (by decide)) rfl 51 rfl ?_
      refine A_goto C dX9_led_51 4 (by decide) ?_
      refine A_sub [2, 3, 1, 0] (lv' := [(0, .ref (K.2.1 x0)), (1, .int x1), (2, .int (x2 + 1)), (3, .int (x3 + 1))]) rfl ?_
      exact Hself4 _ _ _ hf
    refine A_aload_n C dX9_led_38 (i := 0) rfl 0 rfl 39 rfl ?_
    refine A_iconst (v := 0) C dX9_led_39 (by decide) 40 rfl ?_
    refine pfRX9_72 C kx0 dX9_led_40 43 rfl ?_
    refine A_iload_n C dX9_led_43 (i := 3) rfl 3 rfl 44 rfl ?_
    exact A_iret C dX9_led_44 E hf
  refine A_goto C dX9_led_30 48 (by decide) ?_
  refine A_iinc (v := (x3 + 1)) C dX9_led_48 3 rfl rfl [(3, .int (x3 + 1)), (0, .ref (K.2.1 x0)), (1, .int x1), (2, .int x2)] (lt_nl hnl (by decide)) rfl 51 rfl ?_
  refine A_goto C dX9_led_51 4 (by decide) ?_
  refine A_sub [1, 2, 3, 0] (lv' := [(0, .ref (K.2.1 x0)), (1, .int x1), (2, .int x2), (3, .int (x3 + 1))]) rfl ?_
  exact Hself4 _ _ _ hf
set_option maxRecDepth 20000 in
theorem mX9_led {K : KX} {x0 : Nat} {x1 : Int32} (k0 : isK 9 x0) {h : HH} {rv : Int32} {hv : HH} (hf : fX9_led x0 x1 h = some (rv, hv)) : MR K yX9_led cX9_led 4 (some .int) 2 [.ref (K.2.1 x0), .int x1] h (some (.int rv)) hv := by
  refine MR_of (by decide) (Nat.le_of_ble_eq_true rfl) (fun G C E hnl => ?_)
  have C : Ok K G 2 cX9_led RX9 := C
  refine (show At K G 0 [(0, .ref (K.2.1 x0)), (1, .int x1)] [] h from ?_)
  unfold fX9_led at hf
  refine A_iconst (v := 0) C dX9_led_0 (by decide) 1 rfl ?_
  refine A_istore_n C dX9_led_1 (i := 2) rfl [(2, .int 0), (0, .ref (K.2.1 x0)), (1, .int x1)] (lt_nl hnl (by decide)) rfl 2 rfl ?_
  refine A_iconst (v := 0) C dX9_led_2 (by decide) 3 rfl ?_
  refine A_istore_n C dX9_led_3 (i := 3) rfl [(3, .int 0), (2, .int 0), (0, .ref (K.2.1 x0)), (1, .int x1)] (lt_nl hnl (by decide)) rfl 4 rfl ?_
  refine A_sub [2, 3, 1, 0] (lv' := [(0, .ref (K.2.1 x0)), (1, .int x1), (2, .int 0), (3, .int 0)]) rfl ?_
  refine lq2_at (wX9_led_L4 C hnl E k0) FU _ _ _ hf
set_option maxRecDepth 20000 in
theorem mX9_size {K : KX} {x0 : Nat} {x1 : Int32} (k0 : isK 9 x0) {h : HH} {rv : Int32} {hv : HH} (hf : fX9_size x0 x1 h = some (rv, hv)) : MR K yX9_size cX9_size 2 (some .int) 2 [.ref (K.2.1 x0), .int x1] h (some (.int rv)) hv := by
  refine MR_of (by decide) (Nat.le_of_ble_eq_true rfl) (fun G C E hnl => ?_)
  have C : Ok K G 2 cX9_size RX9 := C
  refine (show At K G 0 [(0, .ref (K.2.1 x0)), (1, .int x1)] [] h from ?_)
  unfold fX9_size at hf
  refine A_aload_n C dX9_size_0 (i := 0) rfl 0 rfl 1 rfl ?_
  refine A_iconst (v := 0) C dX9_size_1 (by decide) 2 rfl ?_
  refine pfRX9_72 C k0 dX9_size_2 5 rfl ?_
  refine A_iload_n C dX9_size_5 (i := 1) rfl 1 rfl 6 rfl ?_
  refine A_bipush (v := 12) C dX9_size_6 (by decide) 8 rfl ?_
  refine A_icmp_ne C dX9_size_8 16 (by decide) 11 rfl hf (fun c8 hf => ?_) (fun c8 hf => ?_)
  · refine A_aload_n C dX9_size_16 (i := 0) rfl 0 rfl 17 rfl ?_
    refine gfRX9_204 C k0 dX9_size_17 20 rfl ?_
    refine A_if_ne C dX9_size_20 39 (by decide) 23 rfl hf (fun c20 hf => ?_) (fun c20 hf => ?_)
    · refine A_iload_n C dX9_size_39 (i := 1) rfl 1 rfl 40 rfl ?_
      by_cases e40_0 : x1 = 0
      · rw [if_pos e40_0] at hf
        refine A_swIn (v := 0) (off := 64) C dX9_size_40 e40_0 (by decide) (by decide) (by decide) 104 (by decide) ?_
        refine A_aload_n C dX9_size_104 (i := 0) rfl 0 rfl 105 rfl ?_
        refine gfRX9_20 C k0 dX9_size_105 108 rfl ?_
        refine A_iconst (v := 0) C dX9_size_108 (by decide) 109 rfl ?_
        refine A_iald C dX9_size_109 (of_9_15 k0) hf 110 rfl (fun hf => ?_)
        exact A_iret C dX9_size_110 E hf
      rw [if_neg e40_0] at hf
      by_cases e40_1 : x1 = 1
      · rw [if_pos e40_1] at hf
        refine A_swIn (v := 1) (off := 71) C dX9_size_40 e40_1 (by decide) (by decide) (by decide) 111 (by decide) ?_
        refine A_aload_n C dX9_size_111 (i := 0) rfl 0 rfl 112 rfl ?_
        refine gfRX9_20 C k0 dX9_size_112 115 rfl ?_
        refine A_iconst (v := 1) C dX9_size_115 (by decide) 116 rfl ?_
        refine A_iald C dX9_size_116 (of_9_15 k0) hf 117 rfl (fun hf => ?_)
        exact A_iret C dX9_size_117 E hf
      rw [if_neg e40_1] at hf
      by_cases e40_2 : x1 = 2
      · rw [if_pos e40_2] at hf
        refine A_swIn (v := 2) (off := 78) C dX9_size_40 e40_2 (by decide) (by decide) (by decide) 118 (by decide) ?_
        refine A_aload_n C dX9_size_118 (i := 0) rfl 0 rfl 119 rfl ?_
        refine gfRX9_20 C k0 dX9_size_119 122 rfl ?_
        refine A_iconst (v := 2) C dX9_size_122 (by decide) 123 rfl ?_
        refine A_iald C dX9_size_123 (of_9_15 k0) hf 124 rfl (fun hf => ?_)
        exact A_iret C dX9_size_124 E hf
      rw [if_neg e40_2] at hf
      by_cases e40_3 : x1 = 3
      · rw [if_pos e40_3] at hf
        refine A_swIn (v := 3) (off := 85) C dX9_size_40 e40_3 (by decide) (by decide) (by decide) 125 (by decide) ?_
        refine A_aload_n C dX9_size_125 (i := 0) rfl 0 rfl 126 rfl ?_
        refine gfRX9_20 C k0 dX9_size_126 129 rfl ?_
        refine A_iconst (v := 3) C dX9_size_129 (by decide) 130 rfl ?_
        refine A_iald C dX9_size_130 (of_9_15 k0) hf 131 rfl (fun hf => ?_)
        exact A_iret C dX9_size_131 E hf
      rw [if_neg e40_3] at hf
      by_cases e40_4 : x1 = 4
      · rw [if_pos e40_4] at hf
        refine A_swIn (v := 4) (off := 92) C dX9_size_40 e40_4 (by decide) (by decide) (by decide) 132 (by decide) ?_
        refine A_aload_n C dX9_size_132 (i := 0) rfl 0 rfl 133 rfl ?_
        refine gfRX9_20 C k0 dX9_size_133 136 rfl ?_
        refine A_iconst (v := 4) C dX9_size_136 (by decide) 137 rfl ?_
        refine A_iald C dX9_size_137 (of_9_15 k0) hf 138 rfl (fun hf => ?_)
        exact A_iret C dX9_size_138 E hf
      rw [if_neg e40_4] at hf
      by_cases e40_5 : x1 = 5
      · rw [if_pos e40_5] at hf
        refine A_swIn (v := 5) (off := 99) C dX9_size_40 e40_5 (by decide) (by decide) (by decide) 139 (by decide) ?_
        refine A_aload_n C dX9_size_139 (i := 0) rfl 0 rfl 140 rfl ?_
        refine gfRX9_20 C k0 dX9_size_140 143 rfl ?_
        refine A_iconst (v := 5) C dX9_size_143 (by decide) 144 rfl ?_
        refine A_iald C dX9_size_144 (of_9_15 k0) hf 145 rfl (fun hf => ?_)
        exact A_iret C dX9_size_145 E hf
      rw [if_neg e40_5] at hf
      by_cases e40_6 : x1 = 6
      · rw [if_pos e40_6] at hf
        refine A_swIn (v := 6) (off := 106) C dX9_size_40 e40_6 (by decide) (by decide) (by decide) 146 (by decide) ?_
        refine A_aload_n C dX9_size_146 (i := 0) rfl 0 rfl 147 rfl ?_
        refine gfRX9_20 C k0 dX9_size_147 150 rfl ?_
        refine A_bipush (v := 6) C dX9_size_150 (by decide) 152 rfl ?_
        refine A_iald C dX9_size_152 (of_9_15 k0) hf 153 rfl (fun hf => ?_)
        exact A_iret C dX9_size_153 E hf
      rw [if_neg e40_6] at hf
      by_cases e40_7 : x1 = 7
      · rw [if_pos e40_7] at hf
        refine A_swIn (v := 7) (off := 114) C dX9_size_40 e40_7 (by decide) (by decide) (by decide) 154 (by decide) ?_
        refine A_aload_n C dX9_size_154 (i := 0) rfl 0 rfl 155 rfl ?_
        refine gfRX9_20 C k0 dX9_size_155 158 rfl ?_
        refine A_bipush (v := 7) C dX9_size_158 (by decide) 160 rfl ?_
        refine A_iald C dX9_size_160 (of_9_15 k0) hf 161 rfl (fun hf => ?_)
        exact A_iret C dX9_size_161 E hf
      rw [if_neg e40_7] at hf
      by_cases e40_8 : x1 = 8
      · rw [if_pos e40_8] at hf
        refine A_swIn (v := 8) (off := 122) C dX9_size_40 e40_8 (by decide) (by decide) (by decide) 162 (by decide) ?_
        refine A_aload_n C dX9_size_162 (i := 0) rfl 0 rfl 163 rfl ?_
        refine gfRX9_20 C k0 dX9_size_163 166 rfl ?_
        refine A_bipush (v := 8) C dX9_size_166 (by decide) 168 rfl ?_
        refine A_iald C dX9_size_168 (of_9_15 k0) hf 169 rfl (fun hf => ?_)
        exact A_iret C dX9_size_169 E hf
      rw [if_neg e40_8] at hf
      by_cases e40_9 : x1 = 9
      · rw [if_pos e40_9] at hf
        refine A_swIn (v := 9) (off := 130) C dX9_size_40 e40_9 (by decide) (by decide) (by decide) 170 (by decide) ?_
        refine A_aload_n C dX9_size_170 (i := 0) rfl 0 rfl 171 rfl ?_
        refine gfRX9_20 C k0 dX9_size_171 174 rfl ?_
        refine A_bipush (v := 9) C dX9_size_174 (by decide) 176 rfl ?_
        refine A_iald C dX9_size_176 (of_9_15 k0) hf 177 rfl (fun hf => ?_)
        exact A_iret C dX9_size_177 E hf
      rw [if_neg e40_9] at hf
      by_cases e40_10 : x1 = 10
      · rw [if_pos e40_10] at hf
        refine A_swIn (v := 10) (off := 138) C dX9_size_40 e40_10 (by decide) (by decide) (by decide) 178 (by decide) ?_
        refine A_aload_n C dX9_size_178 (i := 0) rfl 0 rfl 179 rfl ?_
        refine gfRX9_207 C k0 dX9_size_179 182 rfl ?_
        exact A_iret C dX9_size_182 E hf
      rw [if_neg e40_10] at hf
      by_cases e40_11 : x1 = 11
      · rw [if_pos e40_11] at hf
        refine A_swIn (v := 11) (off := 143) C dX9_size_40 e40_11 (by decide) (by decide) (by decide) 183 (by decide) ?_
        refine A_aload_n C dX9_size_183 (i := 0) rfl 0 rfl 184 rfl ?_
        refine gfRX9_210 C k0 dX9_size_184 187 rfl ?_
        exact A_iret C dX9_size_187 E hf
      rw [if_neg e40_11] at hf
      refine A_swOut C dX9_size_40 (sw_out 0 12 (by decide) (fun j hj => by
        match j, hj with
        | 0, _ => exact e40_0
        | 1, _ => exact e40_1
        | 2, _ => exact e40_2
        | 3, _ => exact e40_3
        | 4, _ => exact e40_4
        | 5, _ => exact e40_5
        | 6, _ => exact e40_6
        | 7, _ => exact e40_7
        | 8, _ => exact e40_8
        | 9, _ => exact e40_9
        | 10, _ => exact e40_10
        | 11, _ => exact e40_11
        | j + 12, hj => exact absurd hj (by omega))) 188 (by decide) ?_
      refine A_iconst (v := (-1)) C dX9_size_188 (by decide) 189 rfl ?_
      exact A_iret C dX9_size_189 E hf
    refine A_iload_n C dX9_size_23 (i := 1) rfl 1 rfl 24 rfl ?_
    refine A_iconst (v := 0) C dX9_size_24 (by decide) 25 rfl ?_
    refine A_bipush (v := 11) C dX9_size_25 (by decide) 27 rfl ?_
    refine CSz C dX9_size_27 hf (fun _ _ e => mX9_within  e) lkRX9_170 (by decide) (by decide) rfl [] rfl (Nat.le_of_ble_eq_true rfl) 30 rfl (fun r27 h27 hf => ?_)
    refine A_z_eq C dX9_size_30 37 (by decide) 33 rfl hf (fun c30 hf => ?_) (fun c30 hf => ?_)
    · refine A_iconst (v := (-1)) C dX9_size_37 (by decide) 38 rfl ?_
      exact A_iret C dX9_size_38 E hf
    refine A_iconst (v := 0) C dX9_size_33 (by decide) 34 rfl ?_
    refine A_goto C dX9_size_34 38 (by decide) ?_
    exact A_iret C dX9_size_38 E hf
  refine A_aload_n C dX9_size_11 (i := 0) rfl 0 rfl 12 rfl ?_
  refine gfRX9_78 C k0 dX9_size_12 15 rfl ?_
  exact A_iret C dX9_size_15 E hf
set_option maxRecDepth 20000 in
theorem mX9_trouble {K : KX} {x0 : Nat} (k0 : isK 9 x0) {h : HH} {rv : Int32} {hv : HH} (hf : fX9_trouble x0 h = some (rv, hv)) : MR K yX9_trouble cX9_trouble 1 (some .int) 1 [.ref (K.2.1 x0)] h (some (.int rv)) hv := by
  refine MR_of (by decide) (Nat.le_of_ble_eq_true rfl) (fun G C E hnl => ?_)
  have C : Ok K G 1 cX9_trouble RX9 := C
  refine (show At K G 0 [(0, .ref (K.2.1 x0))] [] h from ?_)
  unfold fX9_trouble at hf
  refine A_aload_n C dX9_trouble_0 (i := 0) rfl 0 rfl 1 rfl ?_
  refine A_iconst (v := 0) C dX9_trouble_1 (by decide) 2 rfl ?_
  refine pfRX9_72 C k0 dX9_trouble_2 5 rfl ?_
  refine A_aload_n C dX9_trouble_5 (i := 0) rfl 0 rfl 6 rfl ?_
  refine gfRX9_75 C k0 dX9_trouble_6 9 rfl ?_
  exact A_iret C dX9_trouble_9 E hf
