set_option maxRecDepth 20000 in
theorem mX5_byteAt {K : KX} {x0 : Nat} {x1 : Int32} (k0 : isK 5 x0) {h : HH} {rv : Int32} {hv : HH} (hf : fX5_byteAt x0 x1 h = some (rv, hv)) : MR K yX5_byteAt cX5_byteAt 2 (some .int) 1 [.ref (K.2.1 x0), .int x1] h (some (.int rv)) hv := by
  refine MR_of (by decide) (Nat.le_of_ble_eq_true rfl) (fun G C E hnl => ?_)
  have C : Ok K G 1 cX5_byteAt RX5 := C
  refine (show At K G 0 [(0, .ref (K.2.1 x0)), (1, .int x1)] [] h from ?_)
  unfold fX5_byteAt at hf
  refine A_iload_n C dX5_byteAt_0 (i := 1) rfl 1 rfl 1 rfl ?_
  refine A_if_lt C dX5_byteAt_1 28 (by decide) 4 rfl hf (fun c1 hf => ?_) (fun c1 hf => ?_)
  · refine A_iconst (v := (-1)) C dX5_byteAt_28 (by decide) 29 rfl ?_
    refine A_goto C dX5_byteAt_29 42 (by decide) ?_
    exact A_iret C dX5_byteAt_42 E hf
  refine A_iload_n C dX5_byteAt_4 (i := 1) rfl 1 rfl 5 rfl ?_
  refine A_aload_n C dX5_byteAt_5 (i := 0) rfl 0 rfl 6 rfl ?_
  refine gfRX5_32 C k0 dX5_byteAt_6 9 rfl ?_
  refine A_icmp_ge C dX5_byteAt_9 28 (by decide) 12 rfl hf (fun c9 hf => ?_) (fun c9 hf => ?_)
  · refine A_iconst (v := (-1)) C dX5_byteAt_28 (by decide) 29 rfl ?_
    refine A_goto C dX5_byteAt_29 42 (by decide) ?_
    exact A_iret C dX5_byteAt_42 E hf
  refine A_aload_n C dX5_byteAt_12 (i := 0) rfl 0 rfl 13 rfl ?_
  refine gfRX5_22 C k0 dX5_byteAt_13 hf 16 rfl (fun kp1 hf => ?_)
  refine A_ifnull C dX5_byteAt_16 19 rfl ?_
  refine A_iload_n C dX5_byteAt_19 (i := 1) rfl 1 rfl 20 rfl ?_
  refine A_aload_n C dX5_byteAt_20 (i := 0) rfl 0 rfl 21 rfl ?_
  refine gfRX5_22 C k0 dX5_byteAt_21 hf 24 rfl (fun kp2 hf => ?_)
  refine A_alen (v := (Int32.ofNat (ln (gR h x0 4)))) C dX5_byteAt_24 (isA_of kp2) (by decide) rfl 25 rfl ?_
  refine A_icmp_lt C dX5_byteAt_25 32 (by decide) 28 rfl hf (fun c25 hf => ?_) (fun c25 hf => ?_)
  · refine A_aload_n C dX5_byteAt_32 (i := 0) rfl 0 rfl 33 rfl ?_
    refine gfRX5_22 C k0 dX5_byteAt_33 hf 36 rfl (fun kp3 hf => ?_)
    refine A_iload_n C dX5_byteAt_36 (i := 1) rfl 1 rfl 37 rfl ?_
    refine A_bald C dX5_byteAt_37 (isA_of kp3) hf 38 rfl (fun hf => ?_)
    refine A_sipush (v := 255) C dX5_byteAt_38 (by decide) 41 rfl ?_
    refine A_iand C dX5_byteAt_41 42 rfl ?_
    exact A_iret C dX5_byteAt_42 E hf
  refine A_iconst (v := (-1)) C dX5_byteAt_28 (by decide) 29 rfl ?_
  refine A_goto C dX5_byteAt_29 42 (by decide) ?_
  exact A_iret C dX5_byteAt_42 E hf
set_option maxRecDepth 20000 in
theorem mX5_isLetter {K : KX} {x0 : Int32}  {h : HH} {rv : Bool} {hv : HH} (hf : fX5_isLetter x0 h = some (rv, hv)) : MR K yX5_isLetter cX5_isLetter 1 (some .boolean) 1 [.int x0] h (some (.int (b2i rv))) hv := by
  refine MR_of (by decide) (Nat.le_of_ble_eq_true rfl) (fun G C E hnl => ?_)
  have C : Ok K G 1 cX5_isLetter RX5 := C
  refine (show At K G 0 [(0, .int x0)] [] h from ?_)
  unfold fX5_isLetter at hf
  refine A_iload_n C dX5_isLetter_0 (i := 0) rfl 0 rfl 1 rfl ?_
  refine A_bipush (v := 97) C dX5_isLetter_1 (by decide) 3 rfl ?_
  refine A_icmp_lt C dX5_isLetter_3 16 (by decide) 6 rfl hf (fun c3 hf => ?_) (fun c3 hf => ?_)
  · refine A_iconst (v := 0) C dX5_isLetter_16 (by decide) 17 rfl ?_
    exact A_zret (x := false) C dX5_isLetter_17 E hf
  refine A_iload_n C dX5_isLetter_6 (i := 0) rfl 0 rfl 7 rfl ?_
  refine A_bipush (v := 122) C dX5_isLetter_7 (by decide) 9 rfl ?_
  refine A_icmp_gt C dX5_isLetter_9 16 (by decide) 12 rfl hf (fun c9 hf => ?_) (fun c9 hf => ?_)
  · refine A_iconst (v := 0) C dX5_isLetter_16 (by decide) 17 rfl ?_
    exact A_zret (x := false) C dX5_isLetter_17 E hf
  refine A_iconst (v := 1) C dX5_isLetter_12 (by decide) 13 rfl ?_
  refine A_goto C dX5_isLetter_13 17 (by decide) ?_
  exact A_zret (x := true) C dX5_isLetter_17 E hf
set_option maxRecDepth 20000 in
theorem wX5_nextWord_L18 {K : KX} {G : GX} (C : Ok K G 2 cX5_nextWord RX5) (hnl : G.2.2.2.2.2.2.2.2.2.2.2.2.2 = 2) {rv : HH} (E : Endd K G none none rv) {x0 : Nat} {k18_68 : HH → Option (HH)}  (Hk18_68 : ∀  (h : HH), k18_68  h = some rv → At K G 68 [(0, .ref (K.2.1 x0))] [] h) (kx0 : isK 5 x0) : ∀ (self18 : Int32 → HH → Option (HH)), (∀ (x1 : Int32) (h : HH), self18 x1 h = some rv → At K G 18 [(0, .ref (K.2.1 x0)), (1, .int x1)] [] h) → ∀ (x1 : Int32) (h : HH), fX5_nextWord_L18 k18_68 x0 self18 x1 h = some rv → At K G 18 [(0, .ref (K.2.1 x0)), (1, .int x1)] [] h := by
  intro self18 Hself18 x1 h hf
  unfold fX5_nextWord_L18 at hf
  refine A_iload_n C dX5_nextWord_18 (i := 1) rfl 1 rfl 19 rfl ?_
  refine A_aload_n C dX5_nextWord_19 (i := 0) rfl 0 rfl 20 rfl ?_
  refine gfRX5_32 C kx0 dX5_nextWord_20 23 rfl ?_
  refine A_icmp_ge C dX5_nextWord_23 68 (by decide) 26 rfl hf (fun c23 hf => ?_) (fun c23 hf => ?_)
  · refine A_sub [0] (lv' := [(0, .ref (K.2.1 x0))]) rfl ?_
    exact Hk18_68 _ hf
  refine A_aload_n C dX5_nextWord_26 (i := 0) rfl 0 rfl 27 rfl ?_
  refine A_iload_n C dX5_nextWord_27 (i := 1) rfl 1 rfl 28 rfl ?_
  refine CVi C dX5_nextWord_28 5 kx0 (by decide) (r := (RX5, TX5, 13)) rfl rfl hf (fun _ _ e => mX5_byteAt kx0 e) lkRX5_285 (by decide) (by decide) rfl [] rfl (Nat.le_of_ble_eq_true rfl) 31 rfl (fun r28 h28 hf => ?_)
  refine CSz C dX5_nextWord_31 hf (fun _ _ e => mX5_isLetter  e) lkRX5_289 (by decide) (by decide) rfl [] rfl (Nat.le_of_ble_eq_true rfl) 34 rfl (fun r31 h31 hf => ?_)
  refine A_z_eq C dX5_nextWord_34 68 (by decide) 37 rfl hf (fun c34 hf => ?_) (fun c34 hf => ?_)
  · refine A_sub [0] (lv' := [(0, .ref (K.2.1 x0))]) rfl ?_
    exact Hk18_68 _ hf
  refine A_aload_n C dX5_nextWord_37 (i := 0) rfl 0 rfl 38 rfl ?_
  refine A_aload_n C dX5_nextWord_38 (i := 0) rfl 0 rfl 39 rfl ?_
  refine gfRX5_269 C kx0 dX5_nextWord_39 42 rfl ?_
  refine A_bipush (v := 8) C dX5_nextWord_42 (by decide) 44 rfl ?_
  refine A_lshl C dX5_nextWord_44 45 rfl ?_
  refine A_aload_n C dX5_nextWord_45 (i := 0) rfl 0 rfl 46 rfl ?_
  refine A_iload_n C dX5_nextWord_46 (i := 1) rfl 1 rfl 47 rfl ?_
  refine CVi C dX5_nextWord_47 5 kx0 (by decide) (r := (RX5, TX5, 13)) rfl rfl hf (fun _ _ e => mX5_byteAt kx0 e) lkRX5_285 (by decide) (by decide) rfl [.long ((gL h31 x0 12) <<< ((8 : Int32).toInt64 &&& 63)), .ref (K.2.1 x0)] rfl (Nat.le_of_ble_eq_true rfl) 50 rfl (fun r47 h47 hf => ?_)
  refine A_i2l C dX5_nextWord_50 51 rfl ?_
  refine A_lor C dX5_nextWord_51 52 rfl ?_
  refine pfRX5_269 C kx0 dX5_nextWord_52 55 rfl ?_
  refine A_aload_n C dX5_nextWord_55 (i := 0) rfl 0 rfl 56 rfl ?_
  refine A_iload_n C dX5_nextWord_56 (i := 1) rfl 1 rfl 57 rfl ?_
  refine A_iconst (v := 1) C dX5_nextWord_57 (by decide) 58 rfl ?_
  refine A_iadd C dX5_nextWord_58 59 rfl ?_
  refine pfRX5_51 C kx0 dX5_nextWord_59 62 rfl ?_
  refine A_namH hf (fun g3 hf => ?_)
  refine A_iinc (v := (x1 + 1)) C dX5_nextWord_62 1 rfl rfl [(1, .int (x1 + 1)), (0, .ref (K.2.1 x0))] (lt_nl hnl (by decide)) rfl 65 rfl ?_
  refine A_goto C dX5_nextWord_65 18 (by decide) ?_
  refine A_sub [1, 0] (lv' := [(0, .ref (K.2.1 x0)), (1, .int (x1 + 1))]) rfl ?_
  exact Hself18 _ _ hf
set_option maxRecDepth 20000 in
theorem mX5_nextWord {K : KX} {x0 : Nat} (k0 : isK 5 x0) {h : HH} {rv : HH} (hf : fX5_nextWord x0 h = some rv) : MR K yX5_nextWord cX5_nextWord 2 none 2 [.ref (K.2.1 x0)] h none rv := by
  refine MR_of (by decide) (Nat.le_of_ble_eq_true rfl) (fun G C E hnl => ?_)
  have C : Ok K G 2 cX5_nextWord RX5 := C
  refine (show At K G 0 [(0, .ref (K.2.1 x0))] [] h from ?_)
  unfold fX5_nextWord at hf
  refine A_aload_n C dX5_nextWord_0 (i := 0) rfl 0 rfl 1 rfl ?_
  refine A_lconst (v := 0) C dX5_nextWord_1 (by decide) 2 rfl ?_
  refine pfRX5_269 C k0 dX5_nextWord_2 5 rfl ?_
  refine A_aload_n C dX5_nextWord_5 (i := 0) rfl 0 rfl 6 rfl ?_
  refine A_aload_n C dX5_nextWord_6 (i := 0) rfl 0 rfl 7 rfl ?_
  refine gfRX5_282 C k0 dX5_nextWord_7 10 rfl ?_
  refine pfRX5_51 C k0 dX5_nextWord_10 13 rfl ?_
  refine A_namH hf (fun g1 hf => ?_)
  refine A_aload_n C dX5_nextWord_13 (i := 0) rfl 0 rfl 14 rfl ?_
  refine gfRX5_282 C k0 dX5_nextWord_14 17 rfl ?_
  refine A_namI hf (fun y2 hf => ?_)
  refine A_istore_n C dX5_nextWord_17 (i := 1) rfl [(1, .int y2), (0, .ref (K.2.1 x0))] (lt_nl hnl (by decide)) rfl 18 rfl ?_
  refine A_sub [1, 0] (lv' := [(0, .ref (K.2.1 x0)), (1, .int y2)]) rfl ?_
  refine lq1_at (wX5_nextWord_L18 C hnl E (fun  h hf => ?_) k0) FU _ _ hf
  refine A_aload_n C dX5_nextWord_68 (i := 0) rfl 0 rfl 69 rfl ?_
  refine A_aload_n C dX5_nextWord_69 (i := 0) rfl 0 rfl 70 rfl ?_
  refine gfRX5_51 C k0 dX5_nextWord_70 73 rfl ?_
  refine A_aload_n C dX5_nextWord_73 (i := 0) rfl 0 rfl 74 rfl ?_
  refine gfRX5_282 C k0 dX5_nextWord_74 77 rfl ?_
  refine A_isub C dX5_nextWord_77 78 rfl ?_
  refine A_bipush (v := 8) C dX5_nextWord_78 (by decide) 80 rfl ?_
  refine A_icmp_gt C dX5_nextWord_80 87 (by decide) 83 rfl hf (fun c80 hf => ?_) (fun c80 hf => ?_)
  · refine A_iconst (v := 0) C dX5_nextWord_87 (by decide) 88 rfl ?_
    refine pfRX5_61 C k0 dX5_nextWord_88 91 rfl ?_
    exact A_vret C dX5_nextWord_91 E hf
  refine A_iconst (v := 1) C dX5_nextWord_83 (by decide) 84 rfl ?_
  refine A_goto C dX5_nextWord_84 88 (by decide) ?_
  refine pfRX5_61 C k0 dX5_nextWord_88 91 rfl ?_
  exact A_vret C dX5_nextWord_91 E hf
set_option maxRecDepth 20000 in
theorem mX5_isDigit {K : KX} {x0 : Int32}  {h : HH} {rv : Bool} {hv : HH} (hf : fX5_isDigit x0 h = some (rv, hv)) : MR K yX5_isDigit cX5_isDigit 1 (some .boolean) 1 [.int x0] h (some (.int (b2i rv))) hv := by
  refine MR_of (by decide) (Nat.le_of_ble_eq_true rfl) (fun G C E hnl => ?_)
  have C : Ok K G 1 cX5_isDigit RX5 := C
  refine (show At K G 0 [(0, .int x0)] [] h from ?_)
  unfold fX5_isDigit at hf
  refine A_iload_n C dX5_isDigit_0 (i := 0) rfl 0 rfl 1 rfl ?_
  refine A_bipush (v := 48) C dX5_isDigit_1 (by decide) 3 rfl ?_
  refine A_icmp_lt C dX5_isDigit_3 16 (by decide) 6 rfl hf (fun c3 hf => ?_) (fun c3 hf => ?_)
  · refine A_iconst (v := 0) C dX5_isDigit_16 (by decide) 17 rfl ?_
    exact A_zret (x := false) C dX5_isDigit_17 E hf
  refine A_iload_n C dX5_isDigit_6 (i := 0) rfl 0 rfl 7 rfl ?_
  refine A_bipush (v := 57) C dX5_isDigit_7 (by decide) 9 rfl ?_
  refine A_icmp_gt C dX5_isDigit_9 16 (by decide) 12 rfl hf (fun c9 hf => ?_) (fun c9 hf => ?_)
  · refine A_iconst (v := 0) C dX5_isDigit_16 (by decide) 17 rfl ?_
    exact A_zret (x := false) C dX5_isDigit_17 E hf
  refine A_iconst (v := 1) C dX5_isDigit_12 (by decide) 13 rfl ?_
  refine A_goto C dX5_isDigit_13 17 (by decide) ?_
  exact A_zret (x := true) C dX5_isDigit_17 E hf
set_option maxRecDepth 20000 in
theorem wX5_nextWhole_L18 {K : KX} {G : GX} (C : Ok K G 2 cX5_nextWhole RX5) (hnl : G.2.2.2.2.2.2.2.2.2.2.2.2.2 = 2) {rv : HH} (E : Endd K G none none rv) {x0 : Nat} {k18_70 : HH → Option (HH)}  (Hk18_70 : ∀  (h : HH), k18_70  h = some rv → At K G 70 [(0, .ref (K.2.1 x0))] [] h) (kx0 : isK 5 x0) : ∀ (self18 : Int32 → HH → Option (HH)), (∀ (x1 : Int32) (h : HH), self18 x1 h = some rv → At K G 18 [(0, .ref (K.2.1 x0)), (1, .int x1)] [] h) → ∀ (x1 : Int32) (h : HH), fX5_nextWhole_L18 k18_70 x0 self18 x1 h = some rv → At K G 18 [(0, .ref (K.2.1 x0)), (1, .int x1)] [] h := by
  intro self18 Hself18 x1 h hf
  unfold fX5_nextWhole_L18 at hf
  refine A_iload_n C dX5_nextWhole_18 (i := 1) rfl 1 rfl 19 rfl ?_
  refine A_aload_n C dX5_nextWhole_19 (i := 0) rfl 0 rfl 20 rfl ?_
  refine gfRX5_32 C kx0 dX5_nextWhole_20 23 rfl ?_
  refine A_icmp_ge C dX5_nextWhole_23 70 (by decide) 26 rfl hf (fun c23 hf => ?_) (fun c23 hf => ?_)
  · refine A_sub [0] (lv' := [(0, .ref (K.2.1 x0))]) rfl ?_
    exact Hk18_70 _ hf
  refine A_aload_n C dX5_nextWhole_26 (i := 0) rfl 0 rfl 27 rfl ?_
  refine A_iload_n C dX5_nextWhole_27 (i := 1) rfl 1 rfl 28 rfl ?_
  refine CVi C dX5_nextWhole_28 5 kx0 (by decide) (r := (RX5, TX5, 13)) rfl rfl hf (fun _ _ e => mX5_byteAt kx0 e) lkRX5_285 (by decide) (by decide) rfl [] rfl (Nat.le_of_ble_eq_true rfl) 31 rfl (fun r28 h28 hf => ?_)
  refine CSz C dX5_nextWhole_31 hf (fun _ _ e => mX5_isDigit  e) lkRX5_295 (by decide) (by decide) rfl [] rfl (Nat.le_of_ble_eq_true rfl) 34 rfl (fun r31 h31 hf => ?_)
  refine A_z_eq C dX5_nextWhole_34 70 (by decide) 37 rfl hf (fun c34 hf => ?_) (fun c34 hf => ?_)
  · refine A_sub [0] (lv' := [(0, .ref (K.2.1 x0))]) rfl ?_
    exact Hk18_70 _ hf
  refine A_aload_n C dX5_nextWhole_37 (i := 0) rfl 0 rfl 38 rfl ?_
  refine A_aload_n C dX5_nextWhole_38 (i := 0) rfl 0 rfl 39 rfl ?_
  refine gfRX5_191 C kx0 dX5_nextWhole_39 42 rfl ?_
  refine A_bipush (v := 10) C dX5_nextWhole_42 (by decide) 44 rfl ?_
  refine A_imul C dX5_nextWhole_44 45 rfl ?_
  refine A_aload_n C dX5_nextWhole_45 (i := 0) rfl 0 rfl 46 rfl ?_
  refine A_iload_n C dX5_nextWhole_46 (i := 1) rfl 1 rfl 47 rfl ?_
  refine CVi C dX5_nextWhole_47 5 kx0 (by decide) (r := (RX5, TX5, 13)) rfl rfl hf (fun _ _ e => mX5_byteAt kx0 e) lkRX5_285 (by decide) (by decide) rfl [.int ((gI h31 x0 11) * 10), .ref (K.2.1 x0)] rfl (Nat.le_of_ble_eq_true rfl) 50 rfl (fun r47 h47 hf => ?_)
  refine A_iadd C dX5_nextWhole_50 51 rfl ?_
  refine A_bipush (v := 48) C dX5_nextWhole_51 (by decide) 53 rfl ?_
  refine A_isub C dX5_nextWhole_53 54 rfl ?_
  refine pfRX5_191 C kx0 dX5_nextWhole_54 57 rfl ?_
  refine A_aload_n C dX5_nextWhole_57 (i := 0) rfl 0 rfl 58 rfl ?_
  refine A_iload_n C dX5_nextWhole_58 (i := 1) rfl 1 rfl 59 rfl ?_
  refine A_iconst (v := 1) C dX5_nextWhole_59 (by decide) 60 rfl ?_
  refine A_iadd C dX5_nextWhole_60 61 rfl ?_
  refine pfRX5_51 C kx0 dX5_nextWhole_61 64 rfl ?_
  refine A_namH hf (fun g3 hf => ?_)
  refine A_iinc (v := (x1 + 1)) C dX5_nextWhole_64 1 rfl rfl [(1, .int (x1 + 1)), (0, .ref (K.2.1 x0))] (lt_nl hnl (by decide)) rfl 67 rfl ?_
  refine A_goto C dX5_nextWhole_67 18 (by decide) ?_
  refine A_sub [1, 0] (lv' := [(0, .ref (K.2.1 x0)), (1, .int (x1 + 1))]) rfl ?_
  exact Hself18 _ _ hf
set_option maxRecDepth 20000 in
theorem mX5_nextWhole {K : KX} {x0 : Nat} (k0 : isK 5 x0) {h : HH} {rv : HH} (hf : fX5_nextWhole x0 h = some rv) : MR K yX5_nextWhole cX5_nextWhole 2 none 2 [.ref (K.2.1 x0)] h none rv := by
  refine MR_of (by decide) (Nat.le_of_ble_eq_true rfl) (fun G C E hnl => ?_)
  have C : Ok K G 2 cX5_nextWhole RX5 := C
  refine (show At K G 0 [(0, .ref (K.2.1 x0))] [] h from ?_)
  unfold fX5_nextWhole at hf
  refine A_aload_n C dX5_nextWhole_0 (i := 0) rfl 0 rfl 1 rfl ?_
  refine A_iconst (v := 0) C dX5_nextWhole_1 (by decide) 2 rfl ?_
  refine pfRX5_191 C k0 dX5_nextWhole_2 5 rfl ?_
  refine A_aload_n C dX5_nextWhole_5 (i := 0) rfl 0 rfl 6 rfl ?_
  refine A_aload_n C dX5_nextWhole_6 (i := 0) rfl 0 rfl 7 rfl ?_
  refine gfRX5_282 C k0 dX5_nextWhole_7 10 rfl ?_
  refine pfRX5_51 C k0 dX5_nextWhole_10 13 rfl ?_
  refine A_namH hf (fun g1 hf => ?_)
  refine A_aload_n C dX5_nextWhole_13 (i := 0) rfl 0 rfl 14 rfl ?_
  refine gfRX5_282 C k0 dX5_nextWhole_14 17 rfl ?_
  refine A_namI hf (fun y2 hf => ?_)
  refine A_istore_n C dX5_nextWhole_17 (i := 1) rfl [(1, .int y2), (0, .ref (K.2.1 x0))] (lt_nl hnl (by decide)) rfl 18 rfl ?_
  refine A_sub [1, 0] (lv' := [(0, .ref (K.2.1 x0)), (1, .int y2)]) rfl ?_
  refine lq1_at (wX5_nextWhole_L18 C hnl E (fun  h hf => ?_) k0) FU _ _ hf
  refine A_aload_n C dX5_nextWhole_70 (i := 0) rfl 0 rfl 71 rfl ?_
  refine A_aload_n C dX5_nextWhole_71 (i := 0) rfl 0 rfl 72 rfl ?_
  refine gfRX5_51 C k0 dX5_nextWhole_72 75 rfl ?_
  refine A_aload_n C dX5_nextWhole_75 (i := 0) rfl 0 rfl 76 rfl ?_
  refine gfRX5_282 C k0 dX5_nextWhole_76 79 rfl ?_
  refine A_isub C dX5_nextWhole_79 80 rfl ?_
  refine A_iconst (v := 4) C dX5_nextWhole_80 (by decide) 81 rfl ?_
  refine A_icmp_gt C dX5_nextWhole_81 88 (by decide) 84 rfl hf (fun c81 hf => ?_) (fun c81 hf => ?_)
  · refine A_iconst (v := 0) C dX5_nextWhole_88 (by decide) 89 rfl ?_
    refine pfRX5_61 C k0 dX5_nextWhole_89 92 rfl ?_
    exact A_vret C dX5_nextWhole_92 E hf
  refine A_iconst (v := 2) C dX5_nextWhole_84 (by decide) 85 rfl ?_
  refine A_goto C dX5_nextWhole_85 89 (by decide) ?_
  refine pfRX5_61 C k0 dX5_nextWhole_89 92 rfl ?_
  exact A_vret C dX5_nextWhole_92 E hf
set_option maxRecDepth 20000 in
theorem wX5_next_L13 {K : KX} {G : GX} (C : Ok K G 3 cX5_next RX5) (hnl : G.2.2.2.2.2.2.2.2.2.2.2.2.2 = 2) {rv : HH} (E : Endd K G none none rv) {x0 : Nat} {k13_44 : HH → Option (HH)}  (Hk13_44 : ∀  (h : HH), k13_44  h = some rv → At K G 44 [(0, .ref (K.2.1 x0))] [] h) (kx0 : isK 5 x0) : ∀ (self13 : Int32 → HH → Option (HH)), (∀ (x1 : Int32) (h : HH), self13 x1 h = some rv → At K G 13 [(0, .ref (K.2.1 x0)), (1, .int x1)] [] h) → ∀ (x1 : Int32) (h : HH), fX5_next_L13 k13_44 x0 self13 x1 h = some rv → At K G 13 [(0, .ref (K.2.1 x0)), (1, .int x1)] [] h := by
  intro self13 Hself13 x1 h hf
  unfold fX5_next_L13 at hf
  refine A_iload_n C dX5_next_13 (i := 1) rfl 1 rfl 14 rfl ?_
  refine A_aload_n C dX5_next_14 (i := 0) rfl 0 rfl 15 rfl ?_
  refine gfRX5_32 C kx0 dX5_next_15 18 rfl ?_
  refine A_icmp_ge C dX5_next_18 44 (by decide) 21 rfl hf (fun c18 hf => ?_) (fun c18 hf => ?_)
  · refine A_sub [0] (lv' := [(0, .ref (K.2.1 x0))]) rfl ?_
    exact Hk13_44 _ hf
  refine A_aload_n C dX5_next_21 (i := 0) rfl 0 rfl 22 rfl ?_
  refine A_iload_n C dX5_next_22 (i := 1) rfl 1 rfl 23 rfl ?_
  refine CVi C dX5_next_23 5 kx0 (by decide) (r := (RX5, TX5, 13)) rfl rfl hf (fun _ _ e => mX5_byteAt kx0 e) lkRX5_285 (by decide) (by decide) rfl [] rfl (Nat.le_of_ble_eq_true rfl) 26 rfl (fun r23 h23 hf => ?_)
  refine A_bipush (v := 32) C dX5_next_26 (by decide) 28 rfl ?_
  refine A_icmp_ne C dX5_next_28 44 (by decide) 31 rfl hf (fun c28 hf => ?_) (fun c28 hf => ?_)
  · refine A_sub [0] (lv' := [(0, .ref (K.2.1 x0))]) rfl ?_
    exact Hk13_44 _ hf
  refine A_aload_n C dX5_next_31 (i := 0) rfl 0 rfl 32 rfl ?_
  refine A_iload_n C dX5_next_32 (i := 1) rfl 1 rfl 33 rfl ?_
  refine A_iconst (v := 1) C dX5_next_33 (by decide) 34 rfl ?_
  refine A_iadd C dX5_next_34 35 rfl ?_
  refine pfRX5_282 C kx0 dX5_next_35 38 rfl ?_
  refine A_iinc (v := (x1 + 1)) C dX5_next_38 1 rfl rfl [(1, .int (x1 + 1)), (0, .ref (K.2.1 x0))] (lt_nl hnl (by decide)) rfl 41 rfl ?_
  refine A_goto C dX5_next_41 13 (by decide) ?_
  refine A_sub [1, 0] (lv' := [(0, .ref (K.2.1 x0)), (1, .int (x1 + 1))]) rfl ?_
  exact Hself13 _ _ hf
set_option maxRecDepth 20000 in
theorem mX5_next {K : KX} {x0 : Nat} (k0 : isK 5 x0) {h : HH} {rv : HH} (hf : fX5_next x0 h = some rv) : MR K yX5_next cX5_next 2 none 3 [.ref (K.2.1 x0)] h none rv := by
  refine MR_of (by decide) (Nat.le_of_ble_eq_true rfl) (fun G C E hnl => ?_)
  have C : Ok K G 3 cX5_next RX5 := C
  refine (show At K G 0 [(0, .ref (K.2.1 x0))] [] h from ?_)
  unfold fX5_next at hf
  refine A_aload_n C dX5_next_0 (i := 0) rfl 0 rfl 1 rfl ?_
  refine A_aload_n C dX5_next_1 (i := 0) rfl 0 rfl 2 rfl ?_
  refine gfRX5_51 C k0 dX5_next_2 5 rfl ?_
  refine pfRX5_282 C k0 dX5_next_5 8 rfl ?_
  refine A_aload_n C dX5_next_8 (i := 0) rfl 0 rfl 9 rfl ?_
  refine gfRX5_282 C k0 dX5_next_9 12 rfl ?_
  refine A_namI hf (fun y1 hf => ?_)
  refine A_istore_n C dX5_next_12 (i := 1) rfl [(1, .int y1), (0, .ref (K.2.1 x0))] (lt_nl hnl (by decide)) rfl 13 rfl ?_
  refine A_sub [1, 0] (lv' := [(0, .ref (K.2.1 x0)), (1, .int y1)]) rfl ?_
  refine lq1_at (wX5_next_L13 C hnl E (fun  h hf => ?_) k0) FU _ _ hf
  refine A_aload_n C dX5_next_44 (i := 0) rfl 0 rfl 45 rfl ?_
  refine A_aload_n C dX5_next_45 (i := 0) rfl 0 rfl 46 rfl ?_
  refine gfRX5_282 C k0 dX5_next_46 49 rfl ?_
  refine CVi C dX5_next_49 5 k0 (by decide) (r := (RX5, TX5, 13)) rfl rfl hf (fun _ _ e => mX5_byteAt k0 e) lkRX5_285 (by decide) (by decide) rfl [] rfl (Nat.le_of_ble_eq_true rfl) 52 rfl (fun r49 h49 hf => ?_)
  refine A_istore_n C dX5_next_52 (i := 1) rfl [(1, .int r49), (0, .ref (K.2.1 x0))] (lt_nl hnl (by decide)) rfl 53 rfl ?_
  refine A_aload_n C dX5_next_53 (i := 0) rfl 1 rfl 54 rfl ?_
  refine A_aload_n C dX5_next_54 (i := 0) rfl 1 rfl 55 rfl ?_
  refine gfRX5_282 C k0 dX5_next_55 58 rfl ?_
  refine A_iconst (v := 1) C dX5_next_58 (by decide) 59 rfl ?_
  refine A_iadd C dX5_next_59 60 rfl ?_
  refine pfRX5_51 C k0 dX5_next_60 63 rfl ?_
  refine A_iload_n C dX5_next_63 (i := 1) rfl 0 rfl 64 rfl ?_
  refine A_if_ge C dX5_next_64 83 (by decide) 67 rfl hf (fun c64 hf => ?_) (fun c64 hf => ?_)
  · refine A_iload_n C dX5_next_83 (i := 1) rfl 0 rfl 84 rfl ?_
    refine A_bipush (v := 59) C dX5_next_84 (by decide) 86 rfl ?_
    refine A_icmp_ne C dX5_next_86 97 (by decide) 89 rfl hf (fun c86 hf => ?_) (fun c86 hf => ?_)
    · refine A_iload_n C dX5_next_97 (i := 1) rfl 0 rfl 98 rfl ?_
      refine A_bipush (v := 44) C dX5_next_98 (by decide) 100 rfl ?_
      refine A_icmp_ne C dX5_next_100 111 (by decide) 103 rfl hf (fun c100 hf => ?_) (fun c100 hf => ?_)
      · refine A_iload_n C dX5_next_111 (i := 1) rfl 0 rfl 112 rfl ?_
        refine CSz C dX5_next_112 hf (fun _ _ e => mX5_isLetter  e) lkRX5_289 (by decide) (by decide) rfl [] rfl (Nat.le_of_ble_eq_true rfl) 115 rfl (fun r112 h112 hf => ?_)
        refine A_z_eq C dX5_next_115 125 (by decide) 118 rfl hf (fun c115 hf => ?_) (fun c115 hf => ?_)
        · refine A_iload_n C dX5_next_125 (i := 1) rfl 0 rfl 126 rfl ?_
          refine CSz C dX5_next_126 hf (fun _ _ e => mX5_isDigit  e) lkRX5_295 (by decide) (by decide) rfl [] rfl (Nat.le_of_ble_eq_true rfl) 129 rfl (fun r126 h126 hf => ?_)
          refine A_z_eq C dX5_next_129 139 (by decide) 132 rfl hf (fun c129 hf => ?_) (fun c129 hf => ?_)
          · refine A_aload_n C dX5_next_139 (i := 0) rfl 1 rfl 140 rfl ?_
            refine A_iconst (v := 0) C dX5_next_140 (by decide) 141 rfl ?_
            refine pfRX5_61 C k0 dX5_next_141 144 rfl ?_
            exact A_vret C dX5_next_144 E hf
          refine A_aload_n C dX5_next_132 (i := 0) rfl 1 rfl 133 rfl ?_
          refine CVv C dX5_next_133 5 k0 (by decide) (r := (RX5, TX5, 13)) rfl rfl hf (fun _ e => mX5_nextWhole k0 e) lkRX5_298 (by decide) (by decide) rfl [] rfl (Nat.le_of_ble_eq_true rfl) 136 rfl (fun h133 hf => ?_)
          refine A_goto C dX5_next_136 144 (by decide) ?_
          exact A_vret C dX5_next_144 E hf
        refine A_aload_n C dX5_next_118 (i := 0) rfl 1 rfl 119 rfl ?_
        refine CVv C dX5_next_119 5 k0 (by decide) (r := (RX5, TX5, 13)) rfl rfl hf (fun _ e => mX5_nextWord k0 e) lkRX5_292 (by decide) (by decide) rfl [] rfl (Nat.le_of_ble_eq_true rfl) 122 rfl (fun h119 hf => ?_)
        refine A_goto C dX5_next_122 144 (by decide) ?_
        exact A_vret C dX5_next_144 E hf
      refine A_aload_n C dX5_next_103 (i := 0) rfl 1 rfl 104 rfl ?_
      refine A_iconst (v := 4) C dX5_next_104 (by decide) 105 rfl ?_
      refine pfRX5_61 C k0 dX5_next_105 108 rfl ?_
      refine A_namH hf (fun g2 hf => ?_)
      refine A_goto C dX5_next_108 144 (by decide) ?_
      exact A_vret C dX5_next_144 E hf
    refine A_aload_n C dX5_next_89 (i := 0) rfl 1 rfl 90 rfl ?_
    refine A_iconst (v := 3) C dX5_next_90 (by decide) 91 rfl ?_
    refine pfRX5_61 C k0 dX5_next_91 94 rfl ?_
    refine A_namH hf (fun g3 hf => ?_)
    refine A_goto C dX5_next_94 144 (by decide) ?_
    exact A_vret C dX5_next_144 E hf
  refine A_aload_n C dX5_next_67 (i := 0) rfl 1 rfl 68 rfl ?_
  refine A_iconst (v := 5) C dX5_next_68 (by decide) 69 rfl ?_
  refine pfRX5_61 C k0 dX5_next_69 72 rfl ?_
  refine A_namH hf (fun g4 hf => ?_)
  refine A_aload_n C dX5_next_72 (i := 0) rfl 1 rfl 73 rfl ?_
  refine A_aload_n C dX5_next_73 (i := 0) rfl 1 rfl 74 rfl ?_
  refine gfRX5_32 C k0 dX5_next_74 77 rfl ?_
  refine pfRX5_51 C k0 dX5_next_77 80 rfl ?_
  refine A_goto C dX5_next_80 144 (by decide) ?_
  exact A_vret C dX5_next_144 E hf
set_option maxRecDepth 20000 in
theorem wX5_spells_L15 {K : KX} {G : GX} (C : Ok K G 6 cX5_spells RX5) (hnl : G.2.2.2.2.2.2.2.2.2.2.2.2.2 = 5) {rv : Bool} {hv : HH} (E : Endd K G (some .boolean) (some (.int (b2i rv))) hv) {x0 : Nat} {x1 : Nat}   (kx0 : isK 5 x0) (kx1 : x1 < 58) : ∀ (self15 : Int64 → Int32 → HH → Option (Bool × HH)), (∀ (x2 : Int64) (x4 : Int32) (h : HH), self15 x2 x4 h = some (rv, hv) → At K G 15 [(0, .ref (K.2.1 x0)), (1, .ref (K.2.2.2.2.2.1 x1)), (2, .long x2), (4, .int x4)] [] h) → ∀ (x2 : Int64) (x4 : Int32) (h : HH), fX5_spells_L15 x0 x1 self15 x2 x4 h = some (rv, hv) → At K G 15 [(0, .ref (K.2.1 x0)), (1, .ref (K.2.2.2.2.2.1 x1)), (2, .long x2), (4, .int x4)] [] h := by
  intro self15 Hself15 x2 x4 h hf
  unfold fX5_spells_L15 at hf
  refine A_iload C dX5_spells_15 3 rfl 17 rfl ?_
  refine A_aload_n C dX5_spells_17 (i := 1) rfl 1 rfl 18 rfl ?_
  refine CTi C dX5_spells_18 kx1 hf (fun _ _ e => mJ0_length_8abf5 kx1 e) lkRX5_273 (by decide) (by decide) rfl [.int x4] rfl (Nat.le_of_ble_eq_true rfl) 21 rfl (fun r18 h18 hf => ?_)
  refine A_icmp_ge C dX5_spells_21 43 (by decide) 24 rfl hf (fun c21 hf => ?_) (fun c21 hf => ?_)
  · refine A_lload_n C dX5_spells_43 (i := 2) rfl 2 rfl 44 rfl ?_
    refine A_aload_n C dX5_spells_44 (i := 0) rfl 0 rfl 45 rfl ?_
    refine gfRX5_269 C kx0 dX5_spells_45 48 rfl ?_
    refine A_l_ne C dX5_spells_48 dX5_spells_49 56 (by decide) 52 rfl hf (fun c48 hf => ?_) (fun c48 hf => ?_)
    · refine A_iconst (v := 0) C dX5_spells_56 (by decide) 57 rfl ?_
      exact A_zret (x := false) C dX5_spells_57 E hf
    refine A_iconst (v := 1) C dX5_spells_52 (by decide) 53 rfl ?_
    refine A_goto C dX5_spells_53 57 (by decide) ?_
    exact A_zret (x := true) C dX5_spells_57 E hf
  refine A_lload_n C dX5_spells_24 (i := 2) rfl 2 rfl 25 rfl ?_
  refine A_bipush (v := 8) C dX5_spells_25 (by decide) 27 rfl ?_
  refine A_lshl C dX5_spells_27 28 rfl ?_
  refine A_aload_n C dX5_spells_28 (i := 1) rfl 1 rfl 29 rfl ?_
  refine A_iload C dX5_spells_29 3 rfl 31 rfl ?_
  refine CTi C dX5_spells_31 kx1 hf (fun _ _ e => mJ0_charAt_5068e kx1 e) lkRX5_278 (by decide) (by decide) rfl [.long (x2 <<< ((8 : Int32).toInt64 &&& 63))] rfl (Nat.le_of_ble_eq_true rfl) 34 rfl (fun r31 h31 hf => ?_)
  refine A_i2l C dX5_spells_34 35 rfl ?_
  refine A_lor C dX5_spells_35 36 rfl ?_
  refine A_namL hf (fun y1 hf => ?_)
  refine A_lstore_n C dX5_spells_36 (i := 2) rfl [(2, .long y1), (0, .ref (K.2.1 x0)), (1, .ref (K.2.2.2.2.2.1 x1)), (4, .int x4)] (lt_nl hnl (by decide)) rfl 37 rfl ?_
  refine A_iinc (v := (x4 + 1)) C dX5_spells_37 3 rfl rfl [(4, .int (x4 + 1)), (2, .long y1), (0, .ref (K.2.1 x0)), (1, .ref (K.2.2.2.2.2.1 x1))] (lt_nl hnl (by decide)) rfl 40 rfl ?_
  refine A_goto C dX5_spells_40 15 (by decide) ?_
  refine A_sub [2, 3, 1, 0] (lv' := [(0, .ref (K.2.1 x0)), (1, .ref (K.2.2.2.2.2.1 x1)), (2, .long y1), (4, .int (x4 + 1))]) rfl ?_
  exact Hself15 _ _ _ hf
set_option maxRecDepth 20000 in
theorem mX5_spells {K : KX} {x0 : Nat} {x1 : Nat} (k0 : isK 5 x0) (k1 : x1 < 58) {h : HH} {rv : Bool} {hv : HH} (hf : fX5_spells x0 x1 h = some (rv, hv)) : MR K yX5_spells cX5_spells 5 (some .boolean) 6 [.ref (K.2.1 x0), .ref (K.2.2.2.2.2.1 x1)] h (some (.int (b2i rv))) hv := by
  refine MR_of (by decide) (Nat.le_of_ble_eq_true rfl) (fun G C E hnl => ?_)
  have C : Ok K G 6 cX5_spells RX5 := C
  refine (show At K G 0 [(0, .ref (K.2.1 x0)), (1, .ref (K.2.2.2.2.2.1 x1))] [] h from ?_)
  unfold fX5_spells at hf
  refine A_aload_n C dX5_spells_0 (i := 0) rfl 0 rfl 1 rfl ?_
  refine gfRX5_61 C k0 dX5_spells_1 4 rfl ?_
  refine A_iconst (v := 1) C dX5_spells_4 (by decide) 5 rfl ?_
  refine A_icmp_eq C dX5_spells_5 10 (by decide) 8 rfl hf (fun c5 hf => ?_) (fun c5 hf => ?_)
  · refine A_lconst (v := 0) C dX5_spells_10 (by decide) 11 rfl ?_
    refine A_lstore_n C dX5_spells_11 (i := 2) rfl [(2, .long 0), (0, .ref (K.2.1 x0)), (1, .ref (K.2.2.2.2.2.1 x1))] (lt_nl hnl (by decide)) rfl 12 rfl ?_
    refine A_iconst (v := 0) C dX5_spells_12 (by decide) 13 rfl ?_
    refine A_istore C dX5_spells_13 [(4, .int 0), (2, .long 0), (0, .ref (K.2.1 x0)), (1, .ref (K.2.2.2.2.2.1 x1))] (lt_nl hnl (by decide)) rfl 15 rfl ?_
    refine A_sub [2, 3, 1, 0] (lv' := [(0, .ref (K.2.1 x0)), (1, .ref (K.2.2.2.2.2.1 x1)), (2, .long 0), (4, .int 0)]) rfl ?_
    refine lq2_at (wX5_spells_L15 C hnl E k0 k1) FU _ _ _ hf
  refine A_iconst (v := 0) C dX5_spells_8 (by decide) 9 rfl ?_
  exact A_zret (x := false) C dX5_spells_9 E hf
set_option maxRecDepth 20000 in
theorem mX5_isLineWord {K : KX} {x0 : Nat} (k0 : isK 5 x0) {h : HH} {rv : Bool} {hv : HH} (hf : fX5_isLineWord x0 h = some (rv, hv)) : MR K yX5_isLineWord cX5_isLineWord 1 (some .boolean) 7 [.ref (K.2.1 x0)] h (some (.int (b2i rv))) hv := by
  refine MR_of (by decide) (Nat.le_of_ble_eq_true rfl) (fun G C E hnl => ?_)
  have C : Ok K G 7 cX5_isLineWord RX5 := C
  refine (show At K G 0 [(0, .ref (K.2.1 x0))] [] h from ?_)
  unfold fX5_isLineWord at hf
  refine A_aload_n C dX5_isLineWord_0 (i := 0) rfl 0 rfl 1 rfl ?_
  refine A_str C dX5_isLineWord_1 (i := 0) (by decide) rfl 3 rfl ?_
  refine CVz C dX5_isLineWord_3 5 k0 (by decide) (r := (RX5, TX5, 13)) rfl rfl hf (fun _ _ e => mX5_spells k0 (by decide) e) lkRX5_84 (by decide) (by decide) rfl [] rfl (Nat.le_of_ble_eq_true rfl) 6 rfl (fun r3 h3 hf => ?_)
  refine A_z_ne C dX5_isLineWord_6 108 (by decide) 9 rfl hf (fun c6 hf => ?_) (fun c6 hf => ?_)
  · refine A_iconst (v := 1) C dX5_isLineWord_108 (by decide) 109 rfl ?_
    refine A_goto C dX5_isLineWord_109 113 (by decide) ?_
    exact A_zret (x := true) C dX5_isLineWord_113 E hf
  refine A_aload_n C dX5_isLineWord_9 (i := 0) rfl 0 rfl 10 rfl ?_
  refine A_str C dX5_isLineWord_10 (i := 1) (by decide) rfl 12 rfl ?_
  refine CVz C dX5_isLineWord_12 5 k0 (by decide) (r := (RX5, TX5, 13)) rfl rfl hf (fun _ _ e => mX5_spells k0 (by decide) e) lkRX5_84 (by decide) (by decide) rfl [] rfl (Nat.le_of_ble_eq_true rfl) 15 rfl (fun r12 h12 hf => ?_)
  refine A_z_ne C dX5_isLineWord_15 108 (by decide) 18 rfl hf (fun c15 hf => ?_) (fun c15 hf => ?_)
  · refine A_iconst (v := 1) C dX5_isLineWord_108 (by decide) 109 rfl ?_
    refine A_goto C dX5_isLineWord_109 113 (by decide) ?_
    exact A_zret (x := true) C dX5_isLineWord_113 E hf
  refine A_aload_n C dX5_isLineWord_18 (i := 0) rfl 0 rfl 19 rfl ?_
  refine A_str C dX5_isLineWord_19 (i := 2) (by decide) rfl 21 rfl ?_
  refine CVz C dX5_isLineWord_21 5 k0 (by decide) (r := (RX5, TX5, 13)) rfl rfl hf (fun _ _ e => mX5_spells k0 (by decide) e) lkRX5_84 (by decide) (by decide) rfl [] rfl (Nat.le_of_ble_eq_true rfl) 24 rfl (fun r21 h21 hf => ?_)
  refine A_z_ne C dX5_isLineWord_24 108 (by decide) 27 rfl hf (fun c24 hf => ?_) (fun c24 hf => ?_)
  · refine A_iconst (v := 1) C dX5_isLineWord_108 (by decide) 109 rfl ?_
    refine A_goto C dX5_isLineWord_109 113 (by decide) ?_
    exact A_zret (x := true) C dX5_isLineWord_113 E hf
  refine A_aload_n C dX5_isLineWord_27 (i := 0) rfl 0 rfl 28 rfl ?_
  refine A_str C dX5_isLineWord_28 (i := 3) (by decide) rfl 30 rfl ?_
  refine CVz C dX5_isLineWord_30 5 k0 (by decide) (r := (RX5, TX5, 13)) rfl rfl hf (fun _ _ e => mX5_spells k0 (by decide) e) lkRX5_84 (by decide) (by decide) rfl [] rfl (Nat.le_of_ble_eq_true rfl) 33 rfl (fun r30 h30 hf => ?_)
  refine A_z_ne C dX5_isLineWord_33 108 (by decide) 36 rfl hf (fun c33 hf => ?_) (fun c33 hf => ?_)
  · refine A_iconst (v := 1) C dX5_isLineWord_108 (by decide) 109 rfl ?_
    refine A_goto C dX5_isLineWord_109 113 (by decide) ?_
    exact A_zret (x := true) C dX5_isLineWord_113 E hf
  refine A_aload_n C dX5_isLineWord_36 (i := 0) rfl 0 rfl 37 rfl ?_
  refine A_str C dX5_isLineWord_37 (i := 4) (by decide) rfl 39 rfl ?_
  refine CVz C dX5_isLineWord_39 5 k0 (by decide) (r := (RX5, TX5, 13)) rfl rfl hf (fun _ _ e => mX5_spells k0 (by decide) e) lkRX5_84 (by decide) (by decide) rfl [] rfl (Nat.le_of_ble_eq_true rfl) 42 rfl (fun r39 h39 hf => ?_)
  refine A_z_ne C dX5_isLineWord_42 108 (by decide) 45 rfl hf (fun c42 hf => ?_) (fun c42 hf => ?_)
  · refine A_iconst (v := 1) C dX5_isLineWord_108 (by decide) 109 rfl ?_
    refine A_goto C dX5_isLineWord_109 113 (by decide) ?_
    exact A_zret (x := true) C dX5_isLineWord_113 E hf
  refine A_aload_n C dX5_isLineWord_45 (i := 0) rfl 0 rfl 46 rfl ?_
  refine A_str C dX5_isLineWord_46 (i := 5) (by decide) rfl 48 rfl ?_
  refine CVz C dX5_isLineWord_48 5 k0 (by decide) (r := (RX5, TX5, 13)) rfl rfl hf (fun _ _ e => mX5_spells k0 (by decide) e) lkRX5_84 (by decide) (by decide) rfl [] rfl (Nat.le_of_ble_eq_true rfl) 51 rfl (fun r48 h48 hf => ?_)
  refine A_z_ne C dX5_isLineWord_51 108 (by decide) 54 rfl hf (fun c51 hf => ?_) (fun c51 hf => ?_)
  · refine A_iconst (v := 1) C dX5_isLineWord_108 (by decide) 109 rfl ?_
    refine A_goto C dX5_isLineWord_109 113 (by decide) ?_
    exact A_zret (x := true) C dX5_isLineWord_113 E hf
  refine A_aload_n C dX5_isLineWord_54 (i := 0) rfl 0 rfl 55 rfl ?_
  refine A_str C dX5_isLineWord_55 (i := 6) (by decide) rfl 57 rfl ?_
  refine CVz C dX5_isLineWord_57 5 k0 (by decide) (r := (RX5, TX5, 13)) rfl rfl hf (fun _ _ e => mX5_spells k0 (by decide) e) lkRX5_84 (by decide) (by decide) rfl [] rfl (Nat.le_of_ble_eq_true rfl) 60 rfl (fun r57 h57 hf => ?_)
  refine A_z_ne C dX5_isLineWord_60 108 (by decide) 63 rfl hf (fun c60 hf => ?_) (fun c60 hf => ?_)
  · refine A_iconst (v := 1) C dX5_isLineWord_108 (by decide) 109 rfl ?_
    refine A_goto C dX5_isLineWord_109 113 (by decide) ?_
    exact A_zret (x := true) C dX5_isLineWord_113 E hf
  refine A_aload_n C dX5_isLineWord_63 (i := 0) rfl 0 rfl 64 rfl ?_
  refine A_str C dX5_isLineWord_64 (i := 7) (by decide) rfl 66 rfl ?_
  refine CVz C dX5_isLineWord_66 5 k0 (by decide) (r := (RX5, TX5, 13)) rfl rfl hf (fun _ _ e => mX5_spells k0 (by decide) e) lkRX5_84 (by decide) (by decide) rfl [] rfl (Nat.le_of_ble_eq_true rfl) 69 rfl (fun r66 h66 hf => ?_)
  refine A_z_ne C dX5_isLineWord_69 108 (by decide) 72 rfl hf (fun c69 hf => ?_) (fun c69 hf => ?_)
  · refine A_iconst (v := 1) C dX5_isLineWord_108 (by decide) 109 rfl ?_
    refine A_goto C dX5_isLineWord_109 113 (by decide) ?_
    exact A_zret (x := true) C dX5_isLineWord_113 E hf
  refine A_aload_n C dX5_isLineWord_72 (i := 0) rfl 0 rfl 73 rfl ?_
  refine A_str C dX5_isLineWord_73 (i := 8) (by decide) rfl 75 rfl ?_
  refine CVz C dX5_isLineWord_75 5 k0 (by decide) (r := (RX5, TX5, 13)) rfl rfl hf (fun _ _ e => mX5_spells k0 (by decide) e) lkRX5_84 (by decide) (by decide) rfl [] rfl (Nat.le_of_ble_eq_true rfl) 78 rfl (fun r75 h75 hf => ?_)
  refine A_z_ne C dX5_isLineWord_78 108 (by decide) 81 rfl hf (fun c78 hf => ?_) (fun c78 hf => ?_)
  · refine A_iconst (v := 1) C dX5_isLineWord_108 (by decide) 109 rfl ?_
    refine A_goto C dX5_isLineWord_109 113 (by decide) ?_
    exact A_zret (x := true) C dX5_isLineWord_113 E hf
  refine A_aload_n C dX5_isLineWord_81 (i := 0) rfl 0 rfl 82 rfl ?_
  refine A_str C dX5_isLineWord_82 (i := 9) (by decide) rfl 84 rfl ?_
  refine CVz C dX5_isLineWord_84 5 k0 (by decide) (r := (RX5, TX5, 13)) rfl rfl hf (fun _ _ e => mX5_spells k0 (by decide) e) lkRX5_84 (by decide) (by decide) rfl [] rfl (Nat.le_of_ble_eq_true rfl) 87 rfl (fun r84 h84 hf => ?_)
  refine A_z_ne C dX5_isLineWord_87 108 (by decide) 90 rfl hf (fun c87 hf => ?_) (fun c87 hf => ?_)
  · refine A_iconst (v := 1) C dX5_isLineWord_108 (by decide) 109 rfl ?_
    refine A_goto C dX5_isLineWord_109 113 (by decide) ?_
    exact A_zret (x := true) C dX5_isLineWord_113 E hf
  refine A_aload_n C dX5_isLineWord_90 (i := 0) rfl 0 rfl 91 rfl ?_
  refine A_str C dX5_isLineWord_91 (i := 10) (by decide) rfl 93 rfl ?_
  refine CVz C dX5_isLineWord_93 5 k0 (by decide) (r := (RX5, TX5, 13)) rfl rfl hf (fun _ _ e => mX5_spells k0 (by decide) e) lkRX5_84 (by decide) (by decide) rfl [] rfl (Nat.le_of_ble_eq_true rfl) 96 rfl (fun r93 h93 hf => ?_)
  refine A_z_ne C dX5_isLineWord_96 108 (by decide) 99 rfl hf (fun c96 hf => ?_) (fun c96 hf => ?_)
  · refine A_iconst (v := 1) C dX5_isLineWord_108 (by decide) 109 rfl ?_
    refine A_goto C dX5_isLineWord_109 113 (by decide) ?_
    exact A_zret (x := true) C dX5_isLineWord_113 E hf
  refine A_aload_n C dX5_isLineWord_99 (i := 0) rfl 0 rfl 100 rfl ?_
  refine A_str C dX5_isLineWord_100 (i := 11) (by decide) rfl 102 rfl ?_
  refine CVz C dX5_isLineWord_102 5 k0 (by decide) (r := (RX5, TX5, 13)) rfl rfl hf (fun _ _ e => mX5_spells k0 (by decide) e) lkRX5_84 (by decide) (by decide) rfl [] rfl (Nat.le_of_ble_eq_true rfl) 105 rfl (fun r102 h102 hf => ?_)
  refine A_z_eq C dX5_isLineWord_105 112 (by decide) 108 rfl hf (fun c105 hf => ?_) (fun c105 hf => ?_)
  · refine A_iconst (v := 0) C dX5_isLineWord_112 (by decide) 113 rfl ?_
    exact A_zret (x := false) C dX5_isLineWord_113 E hf
  refine A_iconst (v := 1) C dX5_isLineWord_108 (by decide) 109 rfl ?_
  refine A_goto C dX5_isLineWord_109 113 (by decide) ?_
  exact A_zret (x := true) C dX5_isLineWord_113 E hf
set_option maxRecDepth 20000 in
theorem mX5_fail {K : KX} {x0 : Nat} {x1 : Int32} (k0 : isK 5 x0) {h : HH} {rv : Bool} {hv : HH} (hf : fX5_fail x0 x1 h = some (rv, hv)) : MR K yX5_fail cX5_fail 2 (some .boolean) 1 [.ref (K.2.1 x0), .int x1] h (some (.int (b2i rv))) hv := by
  refine MR_of (by decide) (Nat.le_of_ble_eq_true rfl) (fun G C E hnl => ?_)
  have C : Ok K G 1 cX5_fail RX5 := C
  refine (show At K G 0 [(0, .ref (K.2.1 x0)), (1, .int x1)] [] h from ?_)
  unfold fX5_fail at hf
  refine A_aload_n C dX5_fail_0 (i := 0) rfl 0 rfl 1 rfl ?_
  refine A_iload_n C dX5_fail_1 (i := 1) rfl 1 rfl 2 rfl ?_
  refine pfRX5_48 C k0 dX5_fail_2 5 rfl ?_
  refine A_iconst (v := 0) C dX5_fail_5 (by decide) 6 rfl ?_
  exact A_zret (x := false) C dX5_fail_6 E hf
set_option maxRecDepth 20000 in
theorem mX5_word {K : KX} {x0 : Nat} {x1 : Nat} (k0 : isK 5 x0) (k1 : x1 < 58) {h : HH} {rv : Bool} {hv : HH} (hf : fX5_word x0 x1 h = some (rv, hv)) : MR K yX5_word cX5_word 2 (some .boolean) 7 [.ref (K.2.1 x0), .ref (K.2.2.2.2.2.1 x1)] h (some (.int (b2i rv))) hv := by
  refine MR_of (by decide) (Nat.le_of_ble_eq_true rfl) (fun G C E hnl => ?_)
  have C : Ok K G 7 cX5_word RX5 := C
  refine (show At K G 0 [(0, .ref (K.2.1 x0)), (1, .ref (K.2.2.2.2.2.1 x1))] [] h from ?_)
  unfold fX5_word at hf
  refine A_aload_n C dX5_word_0 (i := 0) rfl 0 rfl 1 rfl ?_
  refine A_aload_n C dX5_word_1 (i := 1) rfl 1 rfl 2 rfl ?_
  refine CVz C dX5_word_2 5 k0 (by decide) (r := (RX5, TX5, 13)) rfl rfl hf (fun _ _ e => mX5_spells k0 k1 e) lkRX5_84 (by decide) (by decide) rfl [] rfl (Nat.le_of_ble_eq_true rfl) 5 rfl (fun r2 h2 hf => ?_)
  refine A_z_ne C dX5_word_5 14 (by decide) 8 rfl hf (fun c5 hf => ?_) (fun c5 hf => ?_)
  · refine A_aload_n C dX5_word_14 (i := 0) rfl 0 rfl 15 rfl ?_
    refine CVv C dX5_word_15 5 k0 (by decide) (r := (RX5, TX5, 13)) rfl rfl hf (fun _ e => mX5_next k0 e) lkRX5_54 (by decide) (by decide) rfl [] rfl (Nat.le_of_ble_eq_true rfl) 18 rfl (fun h15 hf => ?_)
    refine A_iconst (v := 1) C dX5_word_18 (by decide) 19 rfl ?_
    exact A_zret (x := true) C dX5_word_19 E hf
  refine A_aload_n C dX5_word_8 (i := 0) rfl 0 rfl 9 rfl ?_
  refine A_iconst (v := 1) C dX5_word_9 (by decide) 10 rfl ?_
  refine CVz C dX5_word_10 5 k0 (by decide) (r := (RX5, TX5, 13)) rfl rfl hf (fun _ _ e => mX5_fail k0 e) lkRX5_79 (by decide) (by decide) rfl [] rfl (Nat.le_of_ble_eq_true rfl) 13 rfl (fun r10 h10 hf => ?_)
  exact A_zret (x := r10) C dX5_word_13 E hf
set_option maxRecDepth 20000 in
theorem mX5_isWhole {K : KX} {x0 : Nat} {x1 : Int32} {x2 : Int32} (k0 : isK 5 x0) {h : HH} {rv : Bool} {hv : HH} (hf : fX5_isWhole x0 x1 x2 h = some (rv, hv)) : MR K yX5_isWhole cX5_isWhole 3 (some .boolean) 2 [.ref (K.2.1 x0), .int x1, .int x2] h (some (.int (b2i rv))) hv := by
  refine MR_of (by decide) (Nat.le_of_ble_eq_true rfl) (fun G C E hnl => ?_)
  have C : Ok K G 2 cX5_isWhole RX5 := C
  refine (show At K G 0 [(0, .ref (K.2.1 x0)), (1, .int x1), (2, .int x2)] [] h from ?_)
  unfold fX5_isWhole at hf
  refine A_aload_n C dX5_isWhole_0 (i := 0) rfl 0 rfl 1 rfl ?_
  refine gfRX5_61 C k0 dX5_isWhole_1 4 rfl ?_
  refine A_iconst (v := 2) C dX5_isWhole_4 (by decide) 5 rfl ?_
  refine A_icmp_eq C dX5_isWhole_5 14 (by decide) 8 rfl hf (fun c5 hf => ?_) (fun c5 hf => ?_)
  · refine A_aload_n C dX5_isWhole_14 (i := 0) rfl 0 rfl 15 rfl ?_
    refine gfRX5_191 C k0 dX5_isWhole_15 18 rfl ?_
    refine A_iload_n C dX5_isWhole_18 (i := 1) rfl 1 rfl 19 rfl ?_
    refine A_icmp_lt C dX5_isWhole_19 30 (by decide) 22 rfl hf (fun c19 hf => ?_) (fun c19 hf => ?_)
    · refine A_aload_n C dX5_isWhole_30 (i := 0) rfl 0 rfl 31 rfl ?_
      refine A_iconst (v := 4) C dX5_isWhole_31 (by decide) 32 rfl ?_
      refine CVz C dX5_isWhole_32 5 k0 (by decide) (r := (RX5, TX5, 13)) rfl rfl hf (fun _ _ e => mX5_fail k0 e) lkRX5_79 (by decide) (by decide) rfl [] rfl (Nat.le_of_ble_eq_true rfl) 35 rfl (fun r32 h32 hf => ?_)
      refine A_z_eq C dX5_isWhole_35 42 (by decide) 38 rfl hf (fun c35 hf => ?_) (fun c35 hf => ?_)
      · refine A_iconst (v := 0) C dX5_isWhole_42 (by decide) 43 rfl ?_
        exact A_zret (x := false) C dX5_isWhole_43 E hf
      refine A_iconst (v := 1) C dX5_isWhole_38 (by decide) 39 rfl ?_
      refine A_goto C dX5_isWhole_39 43 (by decide) ?_
      exact A_zret (x := true) C dX5_isWhole_43 E hf
    refine A_aload_n C dX5_isWhole_22 (i := 0) rfl 0 rfl 23 rfl ?_
    refine gfRX5_191 C k0 dX5_isWhole_23 26 rfl ?_
    refine A_iload_n C dX5_isWhole_26 (i := 2) rfl 2 rfl 27 rfl ?_
    refine A_icmp_le C dX5_isWhole_27 38 (by decide) 30 rfl hf (fun c27 hf => ?_) (fun c27 hf => ?_)
    · refine A_iconst (v := 1) C dX5_isWhole_38 (by decide) 39 rfl ?_
      refine A_goto C dX5_isWhole_39 43 (by decide) ?_
      exact A_zret (x := true) C dX5_isWhole_43 E hf
    refine A_aload_n C dX5_isWhole_30 (i := 0) rfl 0 rfl 31 rfl ?_
    refine A_iconst (v := 4) C dX5_isWhole_31 (by decide) 32 rfl ?_
    refine CVz C dX5_isWhole_32 5 k0 (by decide) (r := (RX5, TX5, 13)) rfl rfl hf (fun _ _ e => mX5_fail k0 e) lkRX5_79 (by decide) (by decide) rfl [] rfl (Nat.le_of_ble_eq_true rfl) 35 rfl (fun r32 h32 hf => ?_)
    refine A_z_eq C dX5_isWhole_35 42 (by decide) 38 rfl hf (fun c35 hf => ?_) (fun c35 hf => ?_)
    · refine A_iconst (v := 0) C dX5_isWhole_42 (by decide) 43 rfl ?_
      exact A_zret (x := false) C dX5_isWhole_43 E hf
    refine A_iconst (v := 1) C dX5_isWhole_38 (by decide) 39 rfl ?_
    refine A_goto C dX5_isWhole_39 43 (by decide) ?_
    exact A_zret (x := true) C dX5_isWhole_43 E hf
  refine A_aload_n C dX5_isWhole_8 (i := 0) rfl 0 rfl 9 rfl ?_
  refine A_iconst (v := 1) C dX5_isWhole_9 (by decide) 10 rfl ?_
  refine CVz C dX5_isWhole_10 5 k0 (by decide) (r := (RX5, TX5, 13)) rfl rfl hf (fun _ _ e => mX5_fail k0 e) lkRX5_79 (by decide) (by decide) rfl [] rfl (Nat.le_of_ble_eq_true rfl) 13 rfl (fun r10 h10 hf => ?_)
  exact A_zret (x := r10) C dX5_isWhole_13 E hf
set_option maxRecDepth 20000 in
theorem wX5_readRates_L2 {K : KX} {G : GX} (C : Ok K G 4 cX5_readRates RX5) (hnl : G.2.2.2.2.2.2.2.2.2.2.2.2.2 = 2) {rv : Bool} {hv : HH} (E : Endd K G (some .boolean) (some (.int (b2i rv))) hv) {x0 : Nat}   (kx0 : isK 5 x0) : ∀ (self2 : Int32 → HH → Option (Bool × HH)), (∀ (x1 : Int32) (h : HH), self2 x1 h = some (rv, hv) → At K G 2 [(0, .ref (K.2.1 x0)), (1, .int x1)] [] h) → ∀ (x1 : Int32) (h : HH), fX5_readRates_L2 x0 self2 x1 h = some (rv, hv) → At K G 2 [(0, .ref (K.2.1 x0)), (1, .int x1)] [] h := by
  intro self2 Hself2 x1 h hf
  unfold fX5_readRates_L2 at hf
  refine A_iload_n C dX5_readRates_2 (i := 1) rfl 1 rfl 3 rfl ?_
  refine A_iconst (v := 4) C dX5_readRates_3 (by decide) 4 rfl ?_
  refine A_icmp_gt C dX5_readRates_4 65 (by decide) 7 rfl hf (fun c4 hf => ?_) (fun c4 hf => ?_)
  · refine A_iconst (v := 1) C dX5_readRates_65 (by decide) 66 rfl ?_
    exact A_zret (x := true) C dX5_readRates_66 E hf
  refine A_aload_n C dX5_readRates_7 (i := 0) rfl 0 rfl 8 rfl ?_
  refine A_iconst (v := 2) C dX5_readRates_8 (by decide) 9 rfl ?_
  refine A_bipush (v := 12) C dX5_readRates_9 (by decide) 11 rfl ?_
  refine CVz C dX5_readRates_11 5 kx0 (by decide) (r := (RX5, TX5, 13)) rfl rfl hf (fun _ _ e => mX5_isWhole kx0 e) lkRX5_187 (by decide) (by decide) rfl [] rfl (Nat.le_of_ble_eq_true rfl) 14 rfl (fun r11 h11 hf => ?_)
  refine A_z_ne C dX5_readRates_14 19 (by decide) 17 rfl hf (fun c14 hf => ?_) (fun c14 hf => ?_)
  · refine A_iload_n C dX5_readRates_19 (i := 1) rfl 1 rfl 20 rfl ?_
    refine A_iconst (v := 4) C dX5_readRates_20 (by decide) 21 rfl ?_
    refine A_icmp_ne C dX5_readRates_21 30 (by decide) 24 rfl hf (fun c21 hf => ?_) (fun c21 hf => ?_)
    · refine A_aload_n C dX5_readRates_30 (i := 0) rfl 0 rfl 31 rfl ?_
      refine gfRX5_36 C kx0 dX5_readRates_31 hf 34 rfl (fun kp1 hf => ?_)
      refine A_aload_n C dX5_readRates_34 (i := 0) rfl 0 rfl 35 rfl ?_
      refine gfRX5_191 C kx0 dX5_readRates_35 38 rfl ?_
      refine CVv C dX5_readRates_38 0 kp1 (by decide) (r := (RX0, TX0, 14)) rfl rfl hf (fun _ e => mX0_addRate kp1 e) lkRX5_200 (by decide) (by decide) rfl [] rfl (Nat.le_of_ble_eq_true rfl) 41 rfl (fun h38 hf => ?_)
      refine A_aload_n C dX5_readRates_41 (i := 0) rfl 0 rfl 42 rfl ?_
      refine CVv C dX5_readRates_42 5 kx0 (by decide) (r := (RX5, TX5, 13)) rfl rfl hf (fun _ e => mX5_next kx0 e) lkRX5_54 (by decide) (by decide) rfl [] rfl (Nat.le_of_ble_eq_true rfl) 45 rfl (fun h42 hf => ?_)
      refine A_aload_n C dX5_readRates_45 (i := 0) rfl 0 rfl 46 rfl ?_
      refine gfRX5_61 C kx0 dX5_readRates_46 49 rfl ?_
      refine A_iconst (v := 4) C dX5_readRates_49 (by decide) 50 rfl ?_
      refine A_icmp_eq C dX5_readRates_50 55 (by decide) 53 rfl hf (fun c50 hf => ?_) (fun c50 hf => ?_)
      · refine A_aload_n C dX5_readRates_55 (i := 0) rfl 0 rfl 56 rfl ?_
        refine CVv C dX5_readRates_56 5 kx0 (by decide) (r := (RX5, TX5, 13)) rfl rfl hf (fun _ e => mX5_next kx0 e) lkRX5_54 (by decide) (by decide) rfl [] rfl (Nat.le_of_ble_eq_true rfl) 59 rfl (fun h56 hf => ?_)
        refine A_iinc (v := (x1 + 1)) C dX5_readRates_59 1 rfl rfl [(1, .int (x1 + 1)), (0, .ref (K.2.1 x0))] (lt_nl hnl (by decide)) rfl 62 rfl ?_
        refine A_goto C dX5_readRates_62 2 (by decide) ?_
        refine A_sub [1, 0] (lv' := [(0, .ref (K.2.1 x0)), (1, .int (x1 + 1))]) rfl ?_
        exact Hself2 _ _ hf
      refine A_iconst (v := 1) C dX5_readRates_53 (by decide) 54 rfl ?_
      exact A_zret (x := true) C dX5_readRates_54 E hf
    refine A_aload_n C dX5_readRates_24 (i := 0) rfl 0 rfl 25 rfl ?_
    refine A_iconst (v := 5) C dX5_readRates_25 (by decide) 26 rfl ?_
    refine CVz C dX5_readRates_26 5 kx0 (by decide) (r := (RX5, TX5, 13)) rfl rfl hf (fun _ _ e => mX5_fail kx0 e) lkRX5_79 (by decide) (by decide) rfl [] rfl (Nat.le_of_ble_eq_true rfl) 29 rfl (fun r26 h26 hf => ?_)
    exact A_zret (x := r26) C dX5_readRates_29 E hf
  refine A_iconst (v := 0) C dX5_readRates_17 (by decide) 18 rfl ?_
  exact A_zret (x := false) C dX5_readRates_18 E hf
set_option maxRecDepth 20000 in
theorem mX5_readRates {K : KX} {x0 : Nat} (k0 : isK 5 x0) {h : HH} {rv : Bool} {hv : HH} (hf : fX5_readRates x0 h = some (rv, hv)) : MR K yX5_readRates cX5_readRates 2 (some .boolean) 4 [.ref (K.2.1 x0)] h (some (.int (b2i rv))) hv := by
  refine MR_of (by decide) (Nat.le_of_ble_eq_true rfl) (fun G C E hnl => ?_)
  have C : Ok K G 4 cX5_readRates RX5 := C
  refine (show At K G 0 [(0, .ref (K.2.1 x0))] [] h from ?_)
  unfold fX5_readRates at hf
  refine A_iconst (v := 0) C dX5_readRates_0 (by decide) 1 rfl ?_
  refine A_istore_n C dX5_readRates_1 (i := 1) rfl [(1, .int 0), (0, .ref (K.2.1 x0))] (lt_nl hnl (by decide)) rfl 2 rfl ?_
  refine A_sub [1, 0] (lv' := [(0, .ref (K.2.1 x0)), (1, .int 0)]) rfl ?_
  refine lq1_at (wX5_readRates_L2 C hnl E k0) FU _ _ hf
set_option maxRecDepth 20000 in
theorem mX5_readDream {K : KX} {x0 : Nat} (k0 : isK 5 x0) {h : HH} {rv : Bool} {hv : HH} (hf : fX5_readDream x0 h = some (rv, hv)) : MR K yX5_readDream cX5_readDream 1 (some .boolean) 8 [.ref (K.2.1 x0)] h (some (.int (b2i rv))) hv := by
  refine MR_of (by decide) (Nat.le_of_ble_eq_true rfl) (fun G C E hnl => ?_)
  have C : Ok K G 8 cX5_readDream RX5 := C
  refine (show At K G 0 [(0, .ref (K.2.1 x0))] [] h from ?_)
  unfold fX5_readDream at hf
  refine A_aload_n C dX5_readDream_0 (i := 0) rfl 0 rfl 1 rfl ?_
  refine gfRX5_36 C k0 dX5_readDream_1 hf 4 rfl (fun kp1 hf => ?_)
  refine gfRX5_91 C kp1 dX5_readDream_4 7 rfl ?_
  refine A_if_le C dX5_readDream_7 16 (by decide) 10 rfl hf (fun c7 hf => ?_) (fun c7 hf => ?_)
  · refine A_aload_n C dX5_readDream_16 (i := 0) rfl 0 rfl 17 rfl ?_
    refine CVv C dX5_readDream_17 5 k0 (by decide) (r := (RX5, TX5, 13)) rfl rfl hf (fun _ e => mX5_next k0 e) lkRX5_54 (by decide) (by decide) rfl [] rfl (Nat.le_of_ble_eq_true rfl) 20 rfl (fun h17 hf => ?_)
    refine A_aload_n C dX5_readDream_20 (i := 0) rfl 0 rfl 21 rfl ?_
    refine A_str C dX5_readDream_21 (i := 12) (by decide) rfl 23 rfl ?_
    refine CVz C dX5_readDream_23 5 k0 (by decide) (r := (RX5, TX5, 13)) rfl rfl hf (fun _ _ e => mX5_word k0 (by decide) e) lkRX5_179 (by decide) (by decide) rfl [] rfl (Nat.le_of_ble_eq_true rfl) 26 rfl (fun r23 h23 hf => ?_)
    refine A_z_eq C dX5_readDream_26 55 (by decide) 29 rfl hf (fun c26 hf => ?_) (fun c26 hf => ?_)
    · refine A_iconst (v := 0) C dX5_readDream_55 (by decide) 56 rfl ?_
      exact A_zret (x := false) C dX5_readDream_56 E hf
    refine A_aload_n C dX5_readDream_29 (i := 0) rfl 0 rfl 30 rfl ?_
    refine CVz C dX5_readDream_30 5 k0 (by decide) (r := (RX5, TX5, 13)) rfl rfl hf (fun _ _ e => mX5_readRates k0 e) lkRX5_182 (by decide) (by decide) rfl [] rfl (Nat.le_of_ble_eq_true rfl) 33 rfl (fun r30 h30 hf => ?_)
    refine A_z_eq C dX5_readDream_33 55 (by decide) 36 rfl hf (fun c33 hf => ?_) (fun c33 hf => ?_)
    · refine A_iconst (v := 0) C dX5_readDream_55 (by decide) 56 rfl ?_
      exact A_zret (x := false) C dX5_readDream_56 E hf
    refine A_aload_n C dX5_readDream_36 (i := 0) rfl 0 rfl 37 rfl ?_
    refine A_str C dX5_readDream_37 (i := 13) (by decide) rfl 39 rfl ?_
    refine CVz C dX5_readDream_39 5 k0 (by decide) (r := (RX5, TX5, 13)) rfl rfl hf (fun _ _ e => mX5_word k0 (by decide) e) lkRX5_179 (by decide) (by decide) rfl [] rfl (Nat.le_of_ble_eq_true rfl) 42 rfl (fun r39 h39 hf => ?_)
    refine A_z_eq C dX5_readDream_42 55 (by decide) 45 rfl hf (fun c42 hf => ?_) (fun c42 hf => ?_)
    · refine A_iconst (v := 0) C dX5_readDream_55 (by decide) 56 rfl ?_
      exact A_zret (x := false) C dX5_readDream_56 E hf
    refine A_aload_n C dX5_readDream_45 (i := 0) rfl 0 rfl 46 rfl ?_
    refine A_iconst (v := 0) C dX5_readDream_46 (by decide) 47 rfl ?_
    refine A_bipush (v := 60) C dX5_readDream_47 (by decide) 49 rfl ?_
    refine CVz C dX5_readDream_49 5 k0 (by decide) (r := (RX5, TX5, 13)) rfl rfl hf (fun _ _ e => mX5_isWhole k0 e) lkRX5_187 (by decide) (by decide) rfl [] rfl (Nat.le_of_ble_eq_true rfl) 52 rfl (fun r49 h49 hf => ?_)
    refine A_z_ne C dX5_readDream_52 57 (by decide) 55 rfl hf (fun c52 hf => ?_) (fun c52 hf => ?_)
    · refine A_aload_n C dX5_readDream_57 (i := 0) rfl 0 rfl 58 rfl ?_
      refine gfRX5_36 C k0 dX5_readDream_58 hf 61 rfl (fun kp2 hf => ?_)
      refine A_aload_n C dX5_readDream_61 (i := 0) rfl 0 rfl 62 rfl ?_
      refine gfRX5_191 C k0 dX5_readDream_62 65 rfl ?_
      refine pfRX5_194 C kp2 dX5_readDream_65 68 rfl ?_
      refine A_aload_n C dX5_readDream_68 (i := 0) rfl 0 rfl 69 rfl ?_
      refine CVv C dX5_readDream_69 5 k0 (by decide) (r := (RX5, TX5, 13)) rfl rfl hf (fun _ e => mX5_next k0 e) lkRX5_54 (by decide) (by decide) rfl [] rfl (Nat.le_of_ble_eq_true rfl) 72 rfl (fun h69 hf => ?_)
      refine A_aload_n C dX5_readDream_72 (i := 0) rfl 0 rfl 73 rfl ?_
      refine A_str C dX5_readDream_73 (i := 14) (by decide) rfl 75 rfl ?_
      refine CVz C dX5_readDream_75 5 k0 (by decide) (r := (RX5, TX5, 13)) rfl rfl hf (fun _ _ e => mX5_word k0 (by decide) e) lkRX5_179 (by decide) (by decide) rfl [] rfl (Nat.le_of_ble_eq_true rfl) 78 rfl (fun r75 h75 hf => ?_)
      refine A_z_eq C dX5_readDream_78 92 (by decide) 81 rfl hf (fun c78 hf => ?_) (fun c78 hf => ?_)
      · refine A_iconst (v := 0) C dX5_readDream_92 (by decide) 93 rfl ?_
        exact A_zret (x := false) C dX5_readDream_93 E hf
      refine A_aload_n C dX5_readDream_81 (i := 0) rfl 0 rfl 82 rfl ?_
      refine A_iconst (v := 1) C dX5_readDream_82 (by decide) 83 rfl ?_
      refine A_sipush (v := 600) C dX5_readDream_83 (by decide) 86 rfl ?_
      refine CVz C dX5_readDream_86 5 k0 (by decide) (r := (RX5, TX5, 13)) rfl rfl hf (fun _ _ e => mX5_isWhole k0 e) lkRX5_187 (by decide) (by decide) rfl [] rfl (Nat.le_of_ble_eq_true rfl) 89 rfl (fun r86 h86 hf => ?_)
      refine A_z_ne C dX5_readDream_89 94 (by decide) 92 rfl hf (fun c89 hf => ?_) (fun c89 hf => ?_)
      · refine A_aload_n C dX5_readDream_94 (i := 0) rfl 0 rfl 95 rfl ?_
        refine gfRX5_36 C k0 dX5_readDream_95 hf 98 rfl (fun kp3 hf => ?_)
        refine A_aload_n C dX5_readDream_98 (i := 0) rfl 0 rfl 99 rfl ?_
        refine gfRX5_191 C k0 dX5_readDream_99 102 rfl ?_
        refine pfRX5_198 C kp3 dX5_readDream_102 105 rfl ?_
        refine A_aload_n C dX5_readDream_105 (i := 0) rfl 0 rfl 106 rfl ?_
        refine CVv C dX5_readDream_106 5 k0 (by decide) (r := (RX5, TX5, 13)) rfl rfl hf (fun _ e => mX5_next k0 e) lkRX5_54 (by decide) (by decide) rfl [] rfl (Nat.le_of_ble_eq_true rfl) 109 rfl (fun h106 hf => ?_)
        refine A_iconst (v := 1) C dX5_readDream_109 (by decide) 110 rfl ?_
        exact A_zret (x := true) C dX5_readDream_110 E hf
      refine A_iconst (v := 0) C dX5_readDream_92 (by decide) 93 rfl ?_
      exact A_zret (x := false) C dX5_readDream_93 E hf
    refine A_iconst (v := 0) C dX5_readDream_55 (by decide) 56 rfl ?_
    exact A_zret (x := false) C dX5_readDream_56 E hf
  refine A_aload_n C dX5_readDream_10 (i := 0) rfl 0 rfl 11 rfl ?_
  refine A_iconst (v := 3) C dX5_readDream_11 (by decide) 12 rfl ?_
  refine CVz C dX5_readDream_12 5 k0 (by decide) (r := (RX5, TX5, 13)) rfl rfl hf (fun _ _ e => mX5_fail k0 e) lkRX5_79 (by decide) (by decide) rfl [] rfl (Nat.le_of_ble_eq_true rfl) 15 rfl (fun r12 h12 hf => ?_)
  exact A_zret (x := r12) C dX5_readDream_15 E hf
set_option maxRecDepth 20000 in
theorem wX5_nameIndex_L2 {K : KX} {G : GX} (C : Ok K G 1 cX5_nameIndex RX5) (hnl : G.2.2.2.2.2.2.2.2.2.2.2.2.2 = 2) {rv : Int32} {hv : HH} (E : Endd K G (some .int) (some (.int rv)) hv) {x0 : Nat}   (kx0 : isK 5 x0) : ∀ (self2 : Int32 → HH → Option (Int32 × HH)), (∀ (x1 : Int32) (h : HH), self2 x1 h = some (rv, hv) → At K G 2 [(0, .ref (K.2.1 x0)), (1, .int x1)] [] h) → ∀ (x1 : Int32) (h : HH), fX5_nameIndex_L2 x0 self2 x1 h = some (rv, hv) → At K G 2 [(0, .ref (K.2.1 x0)), (1, .int x1)] [] h := by
  intro self2 Hself2 x1 h hf
  unfold fX5_nameIndex_L2 at hf
  refine A_iload_n C dX5_nameIndex_2 (i := 1) rfl 1 rfl 3 rfl ?_
  refine A_aload_n C dX5_nameIndex_3 (i := 0) rfl 0 rfl 4 rfl ?_
  refine gfRX5_45 C kx0 dX5_nameIndex_4 7 rfl ?_
  refine A_icmp_ge C dX5_nameIndex_7 38 (by decide) 10 rfl hf (fun c7 hf => ?_) (fun c7 hf => ?_)
  · refine A_iconst (v := (-1)) C dX5_nameIndex_38 (by decide) 39 rfl ?_
    exact A_iret C dX5_nameIndex_39 E hf
  refine A_iload_n C dX5_nameIndex_10 (i := 1) rfl 1 rfl 11 rfl ?_
  refine A_bipush (v := 14) C dX5_nameIndex_11 (by decide) 13 rfl ?_
  refine A_icmp_ge C dX5_nameIndex_13 38 (by decide) 16 rfl hf (fun c13 hf => ?_) (fun c13 hf => ?_)
  · refine A_iconst (v := (-1)) C dX5_nameIndex_38 (by decide) 39 rfl ?_
    exact A_iret C dX5_nameIndex_39 E hf
  refine A_aload_n C dX5_nameIndex_16 (i := 0) rfl 0 rfl 17 rfl ?_
  refine gfRX5_11 C kx0 dX5_nameIndex_17 20 rfl ?_
  refine A_iload_n C dX5_nameIndex_20 (i := 1) rfl 1 rfl 21 rfl ?_
  refine A_lald C dX5_nameIndex_21 (of_5_0 kx0) hf 22 rfl (fun hf => ?_)
  refine A_aload_n C dX5_nameIndex_22 (i := 0) rfl 0 rfl 23 rfl ?_
  refine gfRX5_269 C kx0 dX5_nameIndex_23 26 rfl ?_
  refine A_l_ne C dX5_nameIndex_26 dX5_nameIndex_27 32 (by decide) 30 rfl hf (fun c26 hf => ?_) (fun c26 hf => ?_)
  · refine A_iinc (v := (x1 + 1)) C dX5_nameIndex_32 1 rfl rfl [(1, .int (x1 + 1)), (0, .ref (K.2.1 x0))] (lt_nl hnl (by decide)) rfl 35 rfl ?_
    refine A_goto C dX5_nameIndex_35 2 (by decide) ?_
    refine A_sub [1, 0] (lv' := [(0, .ref (K.2.1 x0)), (1, .int (x1 + 1))]) rfl ?_
    exact Hself2 _ _ hf
  refine A_iload_n C dX5_nameIndex_30 (i := 1) rfl 1 rfl 31 rfl ?_
  exact A_iret C dX5_nameIndex_31 E hf
set_option maxRecDepth 20000 in
theorem mX5_nameIndex {K : KX} {x0 : Nat} (k0 : isK 5 x0) {h : HH} {rv : Int32} {hv : HH} (hf : fX5_nameIndex x0 h = some (rv, hv)) : MR K yX5_nameIndex cX5_nameIndex 2 (some .int) 1 [.ref (K.2.1 x0)] h (some (.int rv)) hv := by
  refine MR_of (by decide) (Nat.le_of_ble_eq_true rfl) (fun G C E hnl => ?_)
  have C : Ok K G 1 cX5_nameIndex RX5 := C
  refine (show At K G 0 [(0, .ref (K.2.1 x0))] [] h from ?_)
  unfold fX5_nameIndex at hf
  refine A_iconst (v := 0) C dX5_nameIndex_0 (by decide) 1 rfl ?_
  refine A_istore_n C dX5_nameIndex_1 (i := 1) rfl [(1, .int 0), (0, .ref (K.2.1 x0))] (lt_nl hnl (by decide)) rfl 2 rfl ?_
  refine A_sub [1, 0] (lv' := [(0, .ref (K.2.1 x0)), (1, .int 0)]) rfl ?_
  refine lq1_at (wX5_nameIndex_L2 C hnl E k0) FU _ _ hf
set_option maxRecDepth 20000 in
theorem mX5_newName {K : KX} {x0 : Nat} {x1 : Int32} {x2 : Int32} (k0 : isK 5 x0) {h : HH} {rv : Bool} {hv : HH} (hf : fX5_newName x0 x1 x2 h = some (rv, hv)) : MR K yX5_newName cX5_newName 3 (some .boolean) 8 [.ref (K.2.1 x0), .int x1, .int x2] h (some (.int (b2i rv))) hv := by
  refine MR_of (by decide) (Nat.le_of_ble_eq_true rfl) (fun G C E hnl => ?_)
  have C : Ok K G 8 cX5_newName RX5 := C
  refine (show At K G 0 [(0, .ref (K.2.1 x0)), (1, .int x1), (2, .int x2)] [] h from ?_)
  unfold fX5_newName at hf
  refine A_aload_n C dX5_newName_0 (i := 0) rfl 0 rfl 1 rfl ?_
  refine gfRX5_61 C k0 dX5_newName_1 4 rfl ?_
  refine A_iconst (v := 1) C dX5_newName_4 (by decide) 5 rfl ?_
  refine A_icmp_ne C dX5_newName_5 15 (by decide) 8 rfl hf (fun c5 hf => ?_) (fun c5 hf => ?_)
  · refine A_aload_n C dX5_newName_15 (i := 0) rfl 0 rfl 16 rfl ?_
    refine A_iconst (v := 1) C dX5_newName_16 (by decide) 17 rfl ?_
    refine CVz C dX5_newName_17 5 k0 (by decide) (r := (RX5, TX5, 13)) rfl rfl hf (fun _ _ e => mX5_fail k0 e) lkRX5_79 (by decide) (by decide) rfl [] rfl (Nat.le_of_ble_eq_true rfl) 20 rfl (fun r17 h17 hf => ?_)
    exact A_zret (x := r17) C dX5_newName_20 E hf
  refine A_aload_n C dX5_newName_8 (i := 0) rfl 0 rfl 9 rfl ?_
  refine CVz C dX5_newName_9 5 k0 (by decide) (r := (RX5, TX5, 13)) rfl rfl hf (fun _ _ e => mX5_isLineWord k0 e) lkRX5_76 (by decide) (by decide) rfl [] rfl (Nat.le_of_ble_eq_true rfl) 12 rfl (fun r9 h9 hf => ?_)
  refine A_z_eq C dX5_newName_12 21 (by decide) 15 rfl hf (fun c12 hf => ?_) (fun c12 hf => ?_)
  · refine A_aload_n C dX5_newName_21 (i := 0) rfl 0 rfl 22 rfl ?_
    refine CVi C dX5_newName_22 5 k0 (by decide) (r := (RX5, TX5, 13)) rfl rfl hf (fun _ _ e => mX5_nameIndex k0 e) lkRX5_265 (by decide) (by decide) rfl [] rfl (Nat.le_of_ble_eq_true rfl) 25 rfl (fun r22 h22 hf => ?_)
    refine A_if_lt C dX5_newName_25 34 (by decide) 28 rfl hf (fun c25 hf => ?_) (fun c25 hf => ?_)
    · refine A_aload_n C dX5_newName_34 (i := 0) rfl 0 rfl 35 rfl ?_
      refine gfRX5_45 C k0 dX5_newName_35 38 rfl ?_
      refine A_bipush (v := 14) C dX5_newName_38 (by decide) 40 rfl ?_
      refine A_icmp_ge C dX5_newName_40 86 (by decide) 43 rfl hf (fun c40 hf => ?_) (fun c40 hf => ?_)
      · refine A_aload_n C dX5_newName_86 (i := 0) rfl 0 rfl 87 rfl ?_
        refine CVv C dX5_newName_87 5 k0 (by decide) (r := (RX5, TX5, 13)) rfl rfl hf (fun _ e => mX5_next k0 e) lkRX5_54 (by decide) (by decide) rfl [] rfl (Nat.le_of_ble_eq_true rfl) 90 rfl (fun h87 hf => ?_)
        refine A_iconst (v := 1) C dX5_newName_90 (by decide) 91 rfl ?_
        exact A_zret (x := true) C dX5_newName_91 E hf
      refine A_aload_n C dX5_newName_43 (i := 0) rfl 0 rfl 44 rfl ?_
      refine gfRX5_11 C k0 dX5_newName_44 47 rfl ?_
      refine A_aload_n C dX5_newName_47 (i := 0) rfl 0 rfl 48 rfl ?_
      refine gfRX5_45 C k0 dX5_newName_48 51 rfl ?_
      refine A_aload_n C dX5_newName_51 (i := 0) rfl 0 rfl 52 rfl ?_
      refine gfRX5_269 C k0 dX5_newName_52 55 rfl ?_
      refine A_last C dX5_newName_55 (of_5_0 k0) hf 56 rfl (fun hf => ?_)
      refine A_aload_n C dX5_newName_56 (i := 0) rfl 0 rfl 57 rfl ?_
      refine gfRX5_15 C k0 dX5_newName_57 60 rfl ?_
      refine A_aload_n C dX5_newName_60 (i := 0) rfl 0 rfl 61 rfl ?_
      refine gfRX5_45 C k0 dX5_newName_61 64 rfl ?_
      refine A_iload_n C dX5_newName_64 (i := 1) rfl 1 rfl 65 rfl ?_
      refine A_iast C dX5_newName_65 (of_5_1 k0) hf 66 rfl (fun hf => ?_)
      refine A_namH hf (fun g1 hf => ?_)
      refine A_aload_n C dX5_newName_66 (i := 0) rfl 0 rfl 67 rfl ?_
      refine gfRX5_19 C k0 dX5_newName_67 70 rfl ?_
      refine A_aload_n C dX5_newName_70 (i := 0) rfl 0 rfl 71 rfl ?_
      refine gfRX5_45 C k0 dX5_newName_71 74 rfl ?_
      refine A_iload_n C dX5_newName_74 (i := 2) rfl 2 rfl 75 rfl ?_
      refine A_iast C dX5_newName_75 (of_5_2 k0) hf 76 rfl (fun hf => ?_)
      refine A_aload_n C dX5_newName_76 (i := 0) rfl 0 rfl 77 rfl ?_
      refine A_dup C dX5_newName_77 rfl 78 rfl ?_
      refine gfRX5_45 C k0 dX5_newName_78 81 rfl ?_
      refine A_iconst (v := 1) C dX5_newName_81 (by decide) 82 rfl ?_
      refine A_iadd C dX5_newName_82 83 rfl ?_
      refine pfRX5_45 C k0 dX5_newName_83 86 rfl ?_
      refine A_namH hf (fun g2 hf => ?_)
      refine A_aload_n C dX5_newName_86 (i := 0) rfl 0 rfl 87 rfl ?_
      refine CVv C dX5_newName_87 5 k0 (by decide) (r := (RX5, TX5, 13)) rfl rfl hf (fun _ e => mX5_next k0 e) lkRX5_54 (by decide) (by decide) rfl [] rfl (Nat.le_of_ble_eq_true rfl) 90 rfl (fun h87 hf => ?_)
      refine A_iconst (v := 1) C dX5_newName_90 (by decide) 91 rfl ?_
      exact A_zret (x := true) C dX5_newName_91 E hf
    refine A_aload_n C dX5_newName_28 (i := 0) rfl 0 rfl 29 rfl ?_
    refine A_iconst (v := 3) C dX5_newName_29 (by decide) 30 rfl ?_
    refine CVz C dX5_newName_30 5 k0 (by decide) (r := (RX5, TX5, 13)) rfl rfl hf (fun _ _ e => mX5_fail k0 e) lkRX5_79 (by decide) (by decide) rfl [] rfl (Nat.le_of_ble_eq_true rfl) 33 rfl (fun r30 h30 hf => ?_)
    exact A_zret (x := r30) C dX5_newName_33 E hf
  refine A_aload_n C dX5_newName_15 (i := 0) rfl 0 rfl 16 rfl ?_
  refine A_iconst (v := 1) C dX5_newName_16 (by decide) 17 rfl ?_
  refine CVz C dX5_newName_17 5 k0 (by decide) (r := (RX5, TX5, 13)) rfl rfl hf (fun _ _ e => mX5_fail k0 e) lkRX5_79 (by decide) (by decide) rfl [] rfl (Nat.le_of_ble_eq_true rfl) 20 rfl (fun r17 h17 hf => ?_)
  exact A_zret (x := r17) C dX5_newName_20 E hf
set_option maxRecDepth 20000 in
theorem mX5_readHead {K : KX} {x0 : Nat} (k0 : isK 5 x0) {h : HH} {rv : Bool} {hv : HH} (hf : fX5_readHead x0 h = some (rv, hv)) : MR K yX5_readHead cX5_readHead 1 (some .boolean) 9 [.ref (K.2.1 x0)] h (some (.int (b2i rv))) hv := by
  refine MR_of (by decide) (Nat.le_of_ble_eq_true rfl) (fun G C E hnl => ?_)
  have C : Ok K G 9 cX5_readHead RX5 := C
  refine (show At K G 0 [(0, .ref (K.2.1 x0))] [] h from ?_)
  unfold fX5_readHead at hf
  refine A_aload_n C dX5_readHead_0 (i := 0) rfl 0 rfl 1 rfl ?_
  refine gfRX5_36 C k0 dX5_readHead_1 hf 4 rfl (fun kp1 hf => ?_)
  refine gfRX5_64 C kp1 dX5_readHead_4 7 rfl ?_
  refine A_iconst (v := 3) C dX5_readHead_7 (by decide) 8 rfl ?_
  refine A_icmp_lt C dX5_readHead_8 17 (by decide) 11 rfl hf (fun c8 hf => ?_) (fun c8 hf => ?_)
  · refine A_aload_n C dX5_readHead_17 (i := 0) rfl 0 rfl 18 rfl ?_
    refine CVv C dX5_readHead_18 5 k0 (by decide) (r := (RX5, TX5, 13)) rfl rfl hf (fun _ e => mX5_next k0 e) lkRX5_54 (by decide) (by decide) rfl [] rfl (Nat.le_of_ble_eq_true rfl) 21 rfl (fun h18 hf => ?_)
    refine A_aload_n C dX5_readHead_21 (i := 0) rfl 0 rfl 22 rfl ?_
    refine gfRX5_36 C k0 dX5_readHead_22 hf 25 rfl (fun kp2 hf => ?_)
    refine A_dup C dX5_readHead_25 rfl 26 rfl ?_
    refine gfRX5_64 C kp2 dX5_readHead_26 29 rfl ?_
    refine A_iconst (v := 1) C dX5_readHead_29 (by decide) 30 rfl ?_
    refine A_iadd C dX5_readHead_30 31 rfl ?_
    refine pfRX5_64 C kp2 dX5_readHead_31 34 rfl ?_
    refine A_aload_n C dX5_readHead_34 (i := 0) rfl 0 rfl 35 rfl ?_
    refine A_iconst (v := 0) C dX5_readHead_35 (by decide) 36 rfl ?_
    refine A_aload_n C dX5_readHead_36 (i := 0) rfl 0 rfl 37 rfl ?_
    refine gfRX5_36 C k0 dX5_readHead_37 hf 40 rfl (fun kp3 hf => ?_)
    refine gfRX5_64 C kp3 dX5_readHead_40 43 rfl ?_
    refine A_iconst (v := 1) C dX5_readHead_43 (by decide) 44 rfl ?_
    refine A_isub C dX5_readHead_44 45 rfl ?_
    refine CVz C dX5_readHead_45 5 k0 (by decide) (r := (RX5, TX5, 13)) rfl rfl hf (fun _ _ e => mX5_newName k0 e) lkRX5_221 (by decide) (by decide) rfl [] rfl (Nat.le_of_ble_eq_true rfl) 48 rfl (fun r45 h45 hf => ?_)
    exact A_zret (x := r45) C dX5_readHead_48 E hf
  refine A_aload_n C dX5_readHead_11 (i := 0) rfl 0 rfl 12 rfl ?_
  refine A_iconst (v := 5) C dX5_readHead_12 (by decide) 13 rfl ?_
  refine CVz C dX5_readHead_13 5 k0 (by decide) (r := (RX5, TX5, 13)) rfl rfl hf (fun _ _ e => mX5_fail k0 e) lkRX5_79 (by decide) (by decide) rfl [] rfl (Nat.le_of_ble_eq_true rfl) 16 rfl (fun r13 h13 hf => ?_)
  exact A_zret (x := r13) C dX5_readHead_16 E hf
set_option maxRecDepth 20000 in
theorem mX5_addRow {K : KX} {x0 : Nat} {x1 : Nat} (k0 : isK 5 x0) (k1 : isK 7 x1) {h : HH} {rv : Bool} {hv : HH} (hf : fX5_addRow x0 x1 h = some (rv, hv)) : MR K yX5_addRow cX5_addRow 2 (some .boolean) 4 [.ref (K.2.1 x0), .ref (K.2.1 x1)] h (some (.int (b2i rv))) hv := by
  refine MR_of (by decide) (Nat.le_of_ble_eq_true rfl) (fun G C E hnl => ?_)
  have C : Ok K G 4 cX5_addRow RX5 := C
  refine (show At K G 0 [(0, .ref (K.2.1 x0)), (1, .ref (K.2.1 x1))] [] h from ?_)
  unfold fX5_addRow at hf
  refine A_aload_n C dX5_addRow_0 (i := 1) rfl 1 rfl 1 rfl ?_
  refine CVz C dX5_addRow_1 7 k1 (by decide) (r := (RX7, TX7, 4)) rfl rfl hf (fun _ _ e => mX7_isFull k1 e) lkRX5_171 (by decide) (by decide) rfl [] rfl (Nat.le_of_ble_eq_true rfl) 4 rfl (fun r1 h1 hf => ?_)
  refine A_z_eq C dX5_addRow_4 13 (by decide) 7 rfl hf (fun c4 hf => ?_) (fun c4 hf => ?_)
  · refine A_aload_n C dX5_addRow_13 (i := 1) rfl 1 rfl 14 rfl ?_
    refine CVv C dX5_addRow_14 7 k1 (by decide) (r := (RX7, TX7, 4)) rfl rfl hf (fun _ e => mX7_add k1 e) lkRX5_174 (by decide) (by decide) rfl [] rfl (Nat.le_of_ble_eq_true rfl) 17 rfl (fun h14 hf => ?_)
    refine A_aload_n C dX5_addRow_17 (i := 0) rfl 0 rfl 18 rfl ?_
    refine CVv C dX5_addRow_18 5 k0 (by decide) (r := (RX5, TX5, 13)) rfl rfl hf (fun _ e => mX5_next k0 e) lkRX5_54 (by decide) (by decide) rfl [] rfl (Nat.le_of_ble_eq_true rfl) 21 rfl (fun h18 hf => ?_)
    refine A_iconst (v := 1) C dX5_addRow_21 (by decide) 22 rfl ?_
    exact A_zret (x := true) C dX5_addRow_22 E hf
  refine A_aload_n C dX5_addRow_7 (i := 0) rfl 0 rfl 8 rfl ?_
  refine A_iconst (v := 5) C dX5_addRow_8 (by decide) 9 rfl ?_
  refine CVz C dX5_addRow_9 5 k0 (by decide) (r := (RX5, TX5, 13)) rfl rfl hf (fun _ _ e => mX5_fail k0 e) lkRX5_79 (by decide) (by decide) rfl [] rfl (Nat.le_of_ble_eq_true rfl) 12 rfl (fun r9 h9 hf => ?_)
  exact A_zret (x := r9) C dX5_addRow_12 E hf
set_option maxRecDepth 20000 in
theorem mX5_readKind {K : KX} {x0 : Nat} {x1 : Nat} (k0 : isK 5 x0) (k1 : isK 7 x1) {h : HH} {rv : Bool} {hv : HH} (hf : fX5_readKind x0 x1 h = some (rv, hv)) : MR K yX5_readKind cX5_readKind 2 (some .boolean) 7 [.ref (K.2.1 x0), .ref (K.2.1 x1)] h (some (.int (b2i rv))) hv := by
  refine MR_of (by decide) (Nat.le_of_ble_eq_true rfl) (fun G C E hnl => ?_)
  have C : Ok K G 7 cX5_readKind RX5 := C
  refine (show At K G 0 [(0, .ref (K.2.1 x0)), (1, .ref (K.2.1 x1))] [] h from ?_)
  unfold fX5_readKind at hf
  refine A_aload_n C dX5_readKind_0 (i := 0) rfl 0 rfl 1 rfl ?_
  refine A_str C dX5_readKind_1 (i := 15) (by decide) rfl 3 rfl ?_
  refine CVz C dX5_readKind_3 5 k0 (by decide) (r := (RX5, TX5, 13)) rfl rfl hf (fun _ _ e => mX5_spells k0 (by decide) e) lkRX5_84 (by decide) (by decide) rfl [] rfl (Nat.le_of_ble_eq_true rfl) 6 rfl (fun r3 h3 hf => ?_)
  refine A_z_eq C dX5_readKind_6 18 (by decide) 9 rfl hf (fun c6 hf => ?_) (fun c6 hf => ?_)
  · refine A_aload_n C dX5_readKind_18 (i := 0) rfl 0 rfl 19 rfl ?_
    refine A_str C dX5_readKind_19 (i := 16) (by decide) rfl 21 rfl ?_
    refine CVz C dX5_readKind_21 5 k0 (by decide) (r := (RX5, TX5, 13)) rfl rfl hf (fun _ _ e => mX5_spells k0 (by decide) e) lkRX5_84 (by decide) (by decide) rfl [] rfl (Nat.le_of_ble_eq_true rfl) 24 rfl (fun r21 h21 hf => ?_)
    refine A_z_eq C dX5_readKind_24 36 (by decide) 27 rfl hf (fun c24 hf => ?_) (fun c24 hf => ?_)
    · refine A_aload_n C dX5_readKind_36 (i := 0) rfl 0 rfl 37 rfl ?_
      refine A_str C dX5_readKind_37 (i := 17) (by decide) rfl 39 rfl ?_
      refine CVz C dX5_readKind_39 5 k0 (by decide) (r := (RX5, TX5, 13)) rfl rfl hf (fun _ _ e => mX5_spells k0 (by decide) e) lkRX5_84 (by decide) (by decide) rfl [] rfl (Nat.le_of_ble_eq_true rfl) 42 rfl (fun r39 h39 hf => ?_)
      refine A_z_eq C dX5_readKind_42 54 (by decide) 45 rfl hf (fun c42 hf => ?_) (fun c42 hf => ?_)
      · refine A_aload_n C dX5_readKind_54 (i := 0) rfl 0 rfl 55 rfl ?_
        refine A_str C dX5_readKind_55 (i := 18) (by decide) rfl 57 rfl ?_
        refine CVz C dX5_readKind_57 5 k0 (by decide) (r := (RX5, TX5, 13)) rfl rfl hf (fun _ _ e => mX5_spells k0 (by decide) e) lkRX5_84 (by decide) (by decide) rfl [] rfl (Nat.le_of_ble_eq_true rfl) 60 rfl (fun r57 h57 hf => ?_)
        refine A_z_eq C dX5_readKind_60 72 (by decide) 63 rfl hf (fun c60 hf => ?_) (fun c60 hf => ?_)
        · refine A_aload_n C dX5_readKind_72 (i := 0) rfl 0 rfl 73 rfl ?_
          refine A_iconst (v := 1) C dX5_readKind_73 (by decide) 74 rfl ?_
          refine CVz C dX5_readKind_74 5 k0 (by decide) (r := (RX5, TX5, 13)) rfl rfl hf (fun _ _ e => mX5_fail k0 e) lkRX5_79 (by decide) (by decide) rfl [] rfl (Nat.le_of_ble_eq_true rfl) 77 rfl (fun r74 h74 hf => ?_)
          exact A_zret (x := r74) C dX5_readKind_77 E hf
        refine A_aload_n C dX5_readKind_63 (i := 1) rfl 1 rfl 64 rfl ?_
        refine A_iconst (v := 0) C dX5_readKind_64 (by decide) 65 rfl ?_
        refine A_iconst (v := 3) C dX5_readKind_65 (by decide) 66 rfl ?_
        refine CVv C dX5_readKind_66 7 k1 (by decide) (r := (RX7, TX7, 4)) rfl rfl hf (fun _ e => mX7_put k1 e) lkRX5_224 (by decide) (by decide) rfl [] rfl (Nat.le_of_ble_eq_true rfl) 69 rfl (fun h66 hf => ?_)
        refine A_goto C dX5_readKind_69 78 (by decide) ?_
        refine A_aload_n C dX5_readKind_78 (i := 0) rfl 0 rfl 79 rfl ?_
        refine CVv C dX5_readKind_79 5 k0 (by decide) (r := (RX5, TX5, 13)) rfl rfl hf (fun _ e => mX5_next k0 e) lkRX5_54 (by decide) (by decide) rfl [] rfl (Nat.le_of_ble_eq_true rfl) 82 rfl (fun h79 hf => ?_)
        refine A_iconst (v := 1) C dX5_readKind_82 (by decide) 83 rfl ?_
        exact A_zret (x := true) C dX5_readKind_83 E hf
      refine A_aload_n C dX5_readKind_45 (i := 1) rfl 1 rfl 46 rfl ?_
      refine A_iconst (v := 0) C dX5_readKind_46 (by decide) 47 rfl ?_
      refine A_iconst (v := 2) C dX5_readKind_47 (by decide) 48 rfl ?_
      refine CVv C dX5_readKind_48 7 k1 (by decide) (r := (RX7, TX7, 4)) rfl rfl hf (fun _ e => mX7_put k1 e) lkRX5_224 (by decide) (by decide) rfl [] rfl (Nat.le_of_ble_eq_true rfl) 51 rfl (fun h48 hf => ?_)
      refine A_goto C dX5_readKind_51 78 (by decide) ?_
      refine A_aload_n C dX5_readKind_78 (i := 0) rfl 0 rfl 79 rfl ?_
      refine CVv C dX5_readKind_79 5 k0 (by decide) (r := (RX5, TX5, 13)) rfl rfl hf (fun _ e => mX5_next k0 e) lkRX5_54 (by decide) (by decide) rfl [] rfl (Nat.le_of_ble_eq_true rfl) 82 rfl (fun h79 hf => ?_)
      refine A_iconst (v := 1) C dX5_readKind_82 (by decide) 83 rfl ?_
      exact A_zret (x := true) C dX5_readKind_83 E hf
    refine A_aload_n C dX5_readKind_27 (i := 1) rfl 1 rfl 28 rfl ?_
    refine A_iconst (v := 0) C dX5_readKind_28 (by decide) 29 rfl ?_
    refine A_iconst (v := 1) C dX5_readKind_29 (by decide) 30 rfl ?_
    refine CVv C dX5_readKind_30 7 k1 (by decide) (r := (RX7, TX7, 4)) rfl rfl hf (fun _ e => mX7_put k1 e) lkRX5_224 (by decide) (by decide) rfl [] rfl (Nat.le_of_ble_eq_true rfl) 33 rfl (fun h30 hf => ?_)
    refine A_goto C dX5_readKind_33 78 (by decide) ?_
    refine A_aload_n C dX5_readKind_78 (i := 0) rfl 0 rfl 79 rfl ?_
    refine CVv C dX5_readKind_79 5 k0 (by decide) (r := (RX5, TX5, 13)) rfl rfl hf (fun _ e => mX5_next k0 e) lkRX5_54 (by decide) (by decide) rfl [] rfl (Nat.le_of_ble_eq_true rfl) 82 rfl (fun h79 hf => ?_)
    refine A_iconst (v := 1) C dX5_readKind_82 (by decide) 83 rfl ?_
    exact A_zret (x := true) C dX5_readKind_83 E hf
  refine A_aload_n C dX5_readKind_9 (i := 1) rfl 1 rfl 10 rfl ?_
  refine A_iconst (v := 0) C dX5_readKind_10 (by decide) 11 rfl ?_
  refine A_iconst (v := 0) C dX5_readKind_11 (by decide) 12 rfl ?_
  refine CVv C dX5_readKind_12 7 k1 (by decide) (r := (RX7, TX7, 4)) rfl rfl hf (fun _ e => mX7_put k1 e) lkRX5_224 (by decide) (by decide) rfl [] rfl (Nat.le_of_ble_eq_true rfl) 15 rfl (fun h12 hf => ?_)
  refine A_goto C dX5_readKind_15 78 (by decide) ?_
  refine A_aload_n C dX5_readKind_78 (i := 0) rfl 0 rfl 79 rfl ?_
  refine CVv C dX5_readKind_79 5 k0 (by decide) (r := (RX5, TX5, 13)) rfl rfl hf (fun _ e => mX5_next k0 e) lkRX5_54 (by decide) (by decide) rfl [] rfl (Nat.le_of_ble_eq_true rfl) 82 rfl (fun h79 hf => ?_)
  refine A_iconst (v := 1) C dX5_readKind_82 (by decide) 83 rfl ?_
  exact A_zret (x := true) C dX5_readKind_83 E hf
set_option maxRecDepth 20000 in
theorem mX5_take {K : KX} {x0 : Nat} {x1 : Nat} {x2 : Int32} (k0 : isK 5 x0) (k1 : isK 7 x1) {h : HH} {rv : Bool} {hv : HH} (hf : fX5_take x0 x1 x2 h = some (rv, hv)) : MR K yX5_take cX5_take 3 (some .boolean) 4 [.ref (K.2.1 x0), .ref (K.2.1 x1), .int x2] h (some (.int (b2i rv))) hv := by
  refine MR_of (by decide) (Nat.le_of_ble_eq_true rfl) (fun G C E hnl => ?_)
  have C : Ok K G 4 cX5_take RX5 := C
  refine (show At K G 0 [(0, .ref (K.2.1 x0)), (1, .ref (K.2.1 x1)), (2, .int x2)] [] h from ?_)
  unfold fX5_take at hf
  refine A_aload_n C dX5_take_0 (i := 1) rfl 1 rfl 1 rfl ?_
  refine A_iload_n C dX5_take_1 (i := 2) rfl 2 rfl 2 rfl ?_
  refine A_aload_n C dX5_take_2 (i := 0) rfl 0 rfl 3 rfl ?_
  refine gfRX5_191 C k0 dX5_take_3 6 rfl ?_
  refine CVv C dX5_take_6 7 k1 (by decide) (r := (RX7, TX7, 4)) rfl rfl hf (fun _ e => mX7_put k1 e) lkRX5_224 (by decide) (by decide) rfl [] rfl (Nat.le_of_ble_eq_true rfl) 9 rfl (fun h6 hf => ?_)
  refine A_aload_n C dX5_take_9 (i := 0) rfl 0 rfl 10 rfl ?_
  refine CVv C dX5_take_10 5 k0 (by decide) (r := (RX5, TX5, 13)) rfl rfl hf (fun _ e => mX5_next k0 e) lkRX5_54 (by decide) (by decide) rfl [] rfl (Nat.le_of_ble_eq_true rfl) 13 rfl (fun h10 hf => ?_)
  refine A_iconst (v := 1) C dX5_take_13 (by decide) 14 rfl ?_
  exact A_zret (x := true) C dX5_take_14 E hf
set_option maxRecDepth 20000 in
theorem mX5_readSleeper {K : KX} {x0 : Nat} (k0 : isK 5 x0) {h : HH} {rv : Bool} {hv : HH} (hf : fX5_readSleeper x0 h = some (rv, hv)) : MR K yX5_readSleeper cX5_readSleeper 2 (some .boolean) 9 [.ref (K.2.1 x0)] h (some (.int (b2i rv))) hv := by
  refine MR_of (by decide) (Nat.le_of_ble_eq_true rfl) (fun G C E hnl => ?_)
  have C : Ok K G 9 cX5_readSleeper RX5 := C
  refine (show At K G 0 [(0, .ref (K.2.1 x0))] [] h from ?_)
  unfold fX5_readSleeper at hf
  refine A_aload_n C dX5_readSleeper_0 (i := 0) rfl 0 rfl 1 rfl ?_
  refine gfRX5_36 C k0 dX5_readSleeper_1 hf 4 rfl (fun kp1 hf => ?_)
  refine gfRX5_67 C kp1 dX5_readSleeper_4 7 rfl ?_
  refine A_namR (of_0_3 kp1) hf (fun y2 kp3 hf => ?_)
  refine A_astore_n C dX5_readSleeper_7 (i := 1) rfl [(1, .ref (K.2.1 y2)), (0, .ref (K.2.1 x0))] (lt_nl hnl (by decide)) rfl 8 rfl ?_
  refine A_aload_n C dX5_readSleeper_8 (i := 1) rfl 0 rfl 9 rfl ?_
  refine A_iconst (v := 4) C dX5_readSleeper_9 (by decide) 10 rfl ?_
  refine A_bipush (v := (-2)) C dX5_readSleeper_10 (by decide) 12 rfl ?_
  refine CVv C dX5_readSleeper_12 7 kp3 (by decide) (r := (RX7, TX7, 4)) rfl rfl hf (fun _ e => mX7_put kp3 e) lkRX5_224 (by decide) (by decide) rfl [] rfl (Nat.le_of_ble_eq_true rfl) 15 rfl (fun h12 hf => ?_)
  refine A_aload_n C dX5_readSleeper_15 (i := 0) rfl 1 rfl 16 rfl ?_
  refine A_iconst (v := 1) C dX5_readSleeper_16 (by decide) 17 rfl ?_
  refine A_aload_n C dX5_readSleeper_17 (i := 1) rfl 0 rfl 18 rfl ?_
  refine gfRX5_71 C kp3 dX5_readSleeper_18 21 rfl ?_
  refine A_iconst (v := 1) C dX5_readSleeper_21 (by decide) 22 rfl ?_
  refine A_isub C dX5_readSleeper_22 23 rfl ?_
  refine CVz C dX5_readSleeper_23 5 k0 (by decide) (r := (RX5, TX5, 13)) rfl rfl hf (fun _ _ e => mX5_newName k0 e) lkRX5_221 (by decide) (by decide) rfl [] rfl (Nat.le_of_ble_eq_true rfl) 26 rfl (fun r23 h23 hf => ?_)
  refine A_z_eq C dX5_readSleeper_26 127 (by decide) 29 rfl hf (fun c26 hf => ?_) (fun c26 hf => ?_)
  · refine A_iconst (v := 0) C dX5_readSleeper_127 (by decide) 128 rfl ?_
    exact A_zret (x := false) C dX5_readSleeper_128 E hf
  refine A_aload_n C dX5_readSleeper_29 (i := 0) rfl 1 rfl 30 rfl ?_
  refine A_aload_n C dX5_readSleeper_30 (i := 1) rfl 0 rfl 31 rfl ?_
  refine CVz C dX5_readSleeper_31 5 k0 (by decide) (r := (RX5, TX5, 13)) rfl rfl hf (fun _ _ e => mX5_readKind k0 kp3 e) lkRX5_228 (by decide) (by decide) rfl [] rfl (Nat.le_of_ble_eq_true rfl) 34 rfl (fun r31 h31 hf => ?_)
  refine A_z_eq C dX5_readSleeper_34 127 (by decide) 37 rfl hf (fun c34 hf => ?_) (fun c34 hf => ?_)
  · refine A_iconst (v := 0) C dX5_readSleeper_127 (by decide) 128 rfl ?_
    exact A_zret (x := false) C dX5_readSleeper_128 E hf
  refine A_aload_n C dX5_readSleeper_37 (i := 0) rfl 1 rfl 38 rfl ?_
  refine A_str C dX5_readSleeper_38 (i := 19) (by decide) rfl 40 rfl ?_
  refine CVz C dX5_readSleeper_40 5 k0 (by decide) (r := (RX5, TX5, 13)) rfl rfl hf (fun _ _ e => mX5_word k0 (by decide) e) lkRX5_179 (by decide) (by decide) rfl [] rfl (Nat.le_of_ble_eq_true rfl) 43 rfl (fun r40 h40 hf => ?_)
  refine A_z_eq C dX5_readSleeper_43 127 (by decide) 46 rfl hf (fun c43 hf => ?_) (fun c43 hf => ?_)
  · refine A_iconst (v := 0) C dX5_readSleeper_127 (by decide) 128 rfl ?_
    exact A_zret (x := false) C dX5_readSleeper_128 E hf
  refine A_aload_n C dX5_readSleeper_46 (i := 0) rfl 1 rfl 47 rfl ?_
  refine A_iconst (v := 1) C dX5_readSleeper_47 (by decide) 48 rfl ?_
  refine A_sipush (v := 9999) C dX5_readSleeper_48 (by decide) 51 rfl ?_
  refine CVz C dX5_readSleeper_51 5 k0 (by decide) (r := (RX5, TX5, 13)) rfl rfl hf (fun _ _ e => mX5_isWhole k0 e) lkRX5_187 (by decide) (by decide) rfl [] rfl (Nat.le_of_ble_eq_true rfl) 54 rfl (fun r51 h51 hf => ?_)
  refine A_z_eq C dX5_readSleeper_54 127 (by decide) 57 rfl hf (fun c54 hf => ?_) (fun c54 hf => ?_)
  · refine A_iconst (v := 0) C dX5_readSleeper_127 (by decide) 128 rfl ?_
    exact A_zret (x := false) C dX5_readSleeper_128 E hf
  refine A_aload_n C dX5_readSleeper_57 (i := 0) rfl 1 rfl 58 rfl ?_
  refine A_aload_n C dX5_readSleeper_58 (i := 1) rfl 0 rfl 59 rfl ?_
  refine A_iconst (v := 1) C dX5_readSleeper_59 (by decide) 60 rfl ?_
  refine CVz C dX5_readSleeper_60 5 k0 (by decide) (r := (RX5, TX5, 13)) rfl rfl hf (fun _ _ e => mX5_take k0 kp3 e) lkRX5_233 (by decide) (by decide) rfl [] rfl (Nat.le_of_ble_eq_true rfl) 63 rfl (fun r60 h60 hf => ?_)
  refine A_z_eq C dX5_readSleeper_63 127 (by decide) 66 rfl hf (fun c63 hf => ?_) (fun c63 hf => ?_)
  · refine A_iconst (v := 0) C dX5_readSleeper_127 (by decide) 128 rfl ?_
    exact A_zret (x := false) C dX5_readSleeper_128 E hf
  refine A_aload_n C dX5_readSleeper_66 (i := 0) rfl 1 rfl 67 rfl ?_
  refine A_str C dX5_readSleeper_67 (i := 20) (by decide) rfl 69 rfl ?_
  refine CVz C dX5_readSleeper_69 5 k0 (by decide) (r := (RX5, TX5, 13)) rfl rfl hf (fun _ _ e => mX5_word k0 (by decide) e) lkRX5_179 (by decide) (by decide) rfl [] rfl (Nat.le_of_ble_eq_true rfl) 72 rfl (fun r69 h69 hf => ?_)
  refine A_z_eq C dX5_readSleeper_72 127 (by decide) 75 rfl hf (fun c72 hf => ?_) (fun c72 hf => ?_)
  · refine A_iconst (v := 0) C dX5_readSleeper_127 (by decide) 128 rfl ?_
    exact A_zret (x := false) C dX5_readSleeper_128 E hf
  refine A_aload_n C dX5_readSleeper_75 (i := 0) rfl 1 rfl 76 rfl ?_
  refine A_iconst (v := 0) C dX5_readSleeper_76 (by decide) 77 rfl ?_
  refine A_sipush (v := 999) C dX5_readSleeper_77 (by decide) 80 rfl ?_
  refine CVz C dX5_readSleeper_80 5 k0 (by decide) (r := (RX5, TX5, 13)) rfl rfl hf (fun _ _ e => mX5_isWhole k0 e) lkRX5_187 (by decide) (by decide) rfl [] rfl (Nat.le_of_ble_eq_true rfl) 83 rfl (fun r80 h80 hf => ?_)
  refine A_z_eq C dX5_readSleeper_83 127 (by decide) 86 rfl hf (fun c83 hf => ?_) (fun c83 hf => ?_)
  · refine A_iconst (v := 0) C dX5_readSleeper_127 (by decide) 128 rfl ?_
    exact A_zret (x := false) C dX5_readSleeper_128 E hf
  refine A_aload_n C dX5_readSleeper_86 (i := 0) rfl 1 rfl 87 rfl ?_
  refine A_aload_n C dX5_readSleeper_87 (i := 1) rfl 0 rfl 88 rfl ?_
  refine A_iconst (v := 2) C dX5_readSleeper_88 (by decide) 89 rfl ?_
  refine CVz C dX5_readSleeper_89 5 k0 (by decide) (r := (RX5, TX5, 13)) rfl rfl hf (fun _ _ e => mX5_take k0 kp3 e) lkRX5_233 (by decide) (by decide) rfl [] rfl (Nat.le_of_ble_eq_true rfl) 92 rfl (fun r89 h89 hf => ?_)
  refine A_z_eq C dX5_readSleeper_92 127 (by decide) 95 rfl hf (fun c92 hf => ?_) (fun c92 hf => ?_)
  · refine A_iconst (v := 0) C dX5_readSleeper_127 (by decide) 128 rfl ?_
    exact A_zret (x := false) C dX5_readSleeper_128 E hf
  refine A_aload_n C dX5_readSleeper_95 (i := 0) rfl 1 rfl 96 rfl ?_
  refine A_str C dX5_readSleeper_96 (i := 21) (by decide) rfl 98 rfl ?_
  refine CVz C dX5_readSleeper_98 5 k0 (by decide) (r := (RX5, TX5, 13)) rfl rfl hf (fun _ _ e => mX5_word k0 (by decide) e) lkRX5_179 (by decide) (by decide) rfl [] rfl (Nat.le_of_ble_eq_true rfl) 101 rfl (fun r98 h98 hf => ?_)
  refine A_z_eq C dX5_readSleeper_101 127 (by decide) 104 rfl hf (fun c101 hf => ?_) (fun c101 hf => ?_)
  · refine A_iconst (v := 0) C dX5_readSleeper_127 (by decide) 128 rfl ?_
    exact A_zret (x := false) C dX5_readSleeper_128 E hf
  refine A_aload_n C dX5_readSleeper_104 (i := 0) rfl 1 rfl 105 rfl ?_
  refine A_iconst (v := 0) C dX5_readSleeper_105 (by decide) 106 rfl ?_
  refine A_bipush (v := 100) C dX5_readSleeper_106 (by decide) 108 rfl ?_
  refine CVz C dX5_readSleeper_108 5 k0 (by decide) (r := (RX5, TX5, 13)) rfl rfl hf (fun _ _ e => mX5_isWhole k0 e) lkRX5_187 (by decide) (by decide) rfl [] rfl (Nat.le_of_ble_eq_true rfl) 111 rfl (fun r108 h108 hf => ?_)
  refine A_z_eq C dX5_readSleeper_111 127 (by decide) 114 rfl hf (fun c111 hf => ?_) (fun c111 hf => ?_)
  · refine A_iconst (v := 0) C dX5_readSleeper_127 (by decide) 128 rfl ?_
    exact A_zret (x := false) C dX5_readSleeper_128 E hf
  refine A_aload_n C dX5_readSleeper_114 (i := 0) rfl 1 rfl 115 rfl ?_
  refine A_aload_n C dX5_readSleeper_115 (i := 1) rfl 0 rfl 116 rfl ?_
  refine A_iconst (v := 3) C dX5_readSleeper_116 (by decide) 117 rfl ?_
  refine CVz C dX5_readSleeper_117 5 k0 (by decide) (r := (RX5, TX5, 13)) rfl rfl hf (fun _ _ e => mX5_take k0 kp3 e) lkRX5_233 (by decide) (by decide) rfl [] rfl (Nat.le_of_ble_eq_true rfl) 120 rfl (fun r117 h117 hf => ?_)
  refine A_z_eq C dX5_readSleeper_120 127 (by decide) 123 rfl hf (fun c120 hf => ?_) (fun c120 hf => ?_)
  · refine A_iconst (v := 0) C dX5_readSleeper_127 (by decide) 128 rfl ?_
    exact A_zret (x := false) C dX5_readSleeper_128 E hf
  refine A_iconst (v := 1) C dX5_readSleeper_123 (by decide) 124 rfl ?_
  refine A_goto C dX5_readSleeper_124 128 (by decide) ?_
  exact A_zret (x := true) C dX5_readSleeper_128 E hf
set_option maxRecDepth 20000 in
theorem mX5_isTold {K : KX} {x0 : Nat} {x1 : Int32} (k0 : isK 5 x0) {h : HH} {rv : Bool} {hv : HH} (hf : fX5_isTold x0 x1 h = some (rv, hv)) : MR K yX5_isTold cX5_isTold 3 (some .boolean) 8 [.ref (K.2.1 x0), .int x1] h (some (.int (b2i rv))) hv := by
  refine MR_of (by decide) (Nat.le_of_ble_eq_true rfl) (fun G C E hnl => ?_)
  have C : Ok K G 8 cX5_isTold RX5 := C
  refine (show At K G 0 [(0, .ref (K.2.1 x0)), (1, .int x1)] [] h from ?_)
  unfold fX5_isTold at hf
  refine A_aload_n C dX5_isTold_0 (i := 0) rfl 0 rfl 1 rfl ?_
  refine gfRX5_61 C k0 dX5_isTold_1 4 rfl ?_
  refine A_iconst (v := 1) C dX5_isTold_4 (by decide) 5 rfl ?_
  refine A_icmp_ne C dX5_isTold_5 15 (by decide) 8 rfl hf (fun c5 hf => ?_) (fun c5 hf => ?_)
  · refine A_aload_n C dX5_isTold_15 (i := 0) rfl 0 rfl 16 rfl ?_
    refine A_iconst (v := 1) C dX5_isTold_16 (by decide) 17 rfl ?_
    refine CVz C dX5_isTold_17 5 k0 (by decide) (r := (RX5, TX5, 13)) rfl rfl hf (fun _ _ e => mX5_fail k0 e) lkRX5_79 (by decide) (by decide) rfl [] rfl (Nat.le_of_ble_eq_true rfl) 20 rfl (fun r17 h17 hf => ?_)
    exact A_zret (x := r17) C dX5_isTold_20 E hf
  refine A_aload_n C dX5_isTold_8 (i := 0) rfl 0 rfl 9 rfl ?_
  refine CVz C dX5_isTold_9 5 k0 (by decide) (r := (RX5, TX5, 13)) rfl rfl hf (fun _ _ e => mX5_isLineWord k0 e) lkRX5_76 (by decide) (by decide) rfl [] rfl (Nat.le_of_ble_eq_true rfl) 12 rfl (fun r9 h9 hf => ?_)
  refine A_z_eq C dX5_isTold_12 21 (by decide) 15 rfl hf (fun c12 hf => ?_) (fun c12 hf => ?_)
  · refine A_aload_n C dX5_isTold_21 (i := 0) rfl 0 rfl 22 rfl ?_
    refine CVi C dX5_isTold_22 5 k0 (by decide) (r := (RX5, TX5, 13)) rfl rfl hf (fun _ _ e => mX5_nameIndex k0 e) lkRX5_265 (by decide) (by decide) rfl [] rfl (Nat.le_of_ble_eq_true rfl) 25 rfl (fun r22 h22 hf => ?_)
    refine A_istore_n C dX5_isTold_25 (i := 2) rfl [(2, .int r22), (0, .ref (K.2.1 x0)), (1, .int x1)] (lt_nl hnl (by decide)) rfl 26 rfl ?_
    refine A_iload_n C dX5_isTold_26 (i := 2) rfl 0 rfl 27 rfl ?_
    refine A_if_lt C dX5_isTold_27 40 (by decide) 30 rfl hf (fun c27 hf => ?_) (fun c27 hf => ?_)
    · refine A_aload_n C dX5_isTold_40 (i := 0) rfl 1 rfl 41 rfl ?_
      refine A_iconst (v := 2) C dX5_isTold_41 (by decide) 42 rfl ?_
      refine CVz C dX5_isTold_42 5 k0 (by decide) (r := (RX5, TX5, 13)) rfl rfl hf (fun _ _ e => mX5_fail k0 e) lkRX5_79 (by decide) (by decide) rfl [] rfl (Nat.le_of_ble_eq_true rfl) 45 rfl (fun r42 h42 hf => ?_)
      exact A_zret (x := r42) C dX5_isTold_45 E hf
    refine A_aload_n C dX5_isTold_30 (i := 0) rfl 1 rfl 31 rfl ?_
    refine gfRX5_15 C k0 dX5_isTold_31 34 rfl ?_
    refine A_iload_n C dX5_isTold_34 (i := 2) rfl 0 rfl 35 rfl ?_
    refine A_iald C dX5_isTold_35 (of_5_1 k0) hf 36 rfl (fun hf => ?_)
    refine A_iload_n C dX5_isTold_36 (i := 1) rfl 2 rfl 37 rfl ?_
    refine A_icmp_eq C dX5_isTold_37 46 (by decide) 40 rfl hf (fun c37 hf => ?_) (fun c37 hf => ?_)
    · refine A_aload_n C dX5_isTold_46 (i := 0) rfl 1 rfl 47 rfl ?_
      refine A_aload_n C dX5_isTold_47 (i := 0) rfl 1 rfl 48 rfl ?_
      refine gfRX5_19 C k0 dX5_isTold_48 51 rfl ?_
      refine A_iload_n C dX5_isTold_51 (i := 2) rfl 0 rfl 52 rfl ?_
      refine A_iald C dX5_isTold_52 (of_5_2 k0) hf 53 rfl (fun hf => ?_)
      refine pfRX5_191 C k0 dX5_isTold_53 56 rfl ?_
      refine A_iconst (v := 1) C dX5_isTold_56 (by decide) 57 rfl ?_
      exact A_zret (x := true) C dX5_isTold_57 E hf
    refine A_aload_n C dX5_isTold_40 (i := 0) rfl 1 rfl 41 rfl ?_
    refine A_iconst (v := 2) C dX5_isTold_41 (by decide) 42 rfl ?_
    refine CVz C dX5_isTold_42 5 k0 (by decide) (r := (RX5, TX5, 13)) rfl rfl hf (fun _ _ e => mX5_fail k0 e) lkRX5_79 (by decide) (by decide) rfl [] rfl (Nat.le_of_ble_eq_true rfl) 45 rfl (fun r42 h42 hf => ?_)
    exact A_zret (x := r42) C dX5_isTold_45 E hf
  refine A_aload_n C dX5_isTold_15 (i := 0) rfl 0 rfl 16 rfl ?_
  refine A_iconst (v := 1) C dX5_isTold_16 (by decide) 17 rfl ?_
  refine CVz C dX5_isTold_17 5 k0 (by decide) (r := (RX5, TX5, 13)) rfl rfl hf (fun _ _ e => mX5_fail k0 e) lkRX5_79 (by decide) (by decide) rfl [] rfl (Nat.le_of_ble_eq_true rfl) 20 rfl (fun r17 h17 hf => ?_)
  exact A_zret (x := r17) C dX5_isTold_20 E hf
set_option maxRecDepth 20000 in
theorem mX5_readDown {K : KX} {x0 : Nat} (k0 : isK 5 x0) {h : HH} {rv : Bool} {hv : HH} (hf : fX5_readDown x0 h = some (rv, hv)) : MR K yX5_readDown cX5_readDown 2 (some .boolean) 9 [.ref (K.2.1 x0)] h (some (.int (b2i rv))) hv := by
  refine MR_of (by decide) (Nat.le_of_ble_eq_true rfl) (fun G C E hnl => ?_)
  have C : Ok K G 9 cX5_readDown RX5 := C
  refine (show At K G 0 [(0, .ref (K.2.1 x0))] [] h from ?_)
  unfold fX5_readDown at hf
  refine A_aload_n C dX5_readDown_0 (i := 0) rfl 0 rfl 1 rfl ?_
  refine gfRX5_36 C k0 dX5_readDown_1 hf 4 rfl (fun kp1 hf => ?_)
  refine gfRX5_110 C kp1 dX5_readDown_4 7 rfl ?_
  refine A_namR (of_0_4 kp1) hf (fun y2 kp3 hf => ?_)
  refine A_astore_n C dX5_readDown_7 (i := 1) rfl [(1, .ref (K.2.1 y2)), (0, .ref (K.2.1 x0))] (lt_nl hnl (by decide)) rfl 8 rfl ?_
  refine A_aload_n C dX5_readDown_8 (i := 0) rfl 1 rfl 9 rfl ?_
  refine A_iconst (v := 1) C dX5_readDown_9 (by decide) 10 rfl ?_
  refine CVz C dX5_readDown_10 5 k0 (by decide) (r := (RX5, TX5, 13)) rfl rfl hf (fun _ _ e => mX5_isTold k0 e) lkRX5_211 (by decide) (by decide) rfl [] rfl (Nat.le_of_ble_eq_true rfl) 13 rfl (fun r10 h10 hf => ?_)
  refine A_z_eq C dX5_readDown_13 46 (by decide) 16 rfl hf (fun c13 hf => ?_) (fun c13 hf => ?_)
  · refine A_iconst (v := 0) C dX5_readDown_46 (by decide) 47 rfl ?_
    exact A_zret (x := false) C dX5_readDown_47 E hf
  refine A_aload_n C dX5_readDown_16 (i := 0) rfl 1 rfl 17 rfl ?_
  refine A_aload_n C dX5_readDown_17 (i := 1) rfl 0 rfl 18 rfl ?_
  refine A_iconst (v := 0) C dX5_readDown_18 (by decide) 19 rfl ?_
  refine CVz C dX5_readDown_19 5 k0 (by decide) (r := (RX5, TX5, 13)) rfl rfl hf (fun _ _ e => mX5_take k0 kp3 e) lkRX5_233 (by decide) (by decide) rfl [] rfl (Nat.le_of_ble_eq_true rfl) 22 rfl (fun r19 h19 hf => ?_)
  refine A_z_eq C dX5_readDown_22 46 (by decide) 25 rfl hf (fun c22 hf => ?_) (fun c22 hf => ?_)
  · refine A_iconst (v := 0) C dX5_readDown_46 (by decide) 47 rfl ?_
    exact A_zret (x := false) C dX5_readDown_47 E hf
  refine A_aload_n C dX5_readDown_25 (i := 0) rfl 1 rfl 26 rfl ?_
  refine A_iconst (v := 0) C dX5_readDown_26 (by decide) 27 rfl ?_
  refine CVz C dX5_readDown_27 5 k0 (by decide) (r := (RX5, TX5, 13)) rfl rfl hf (fun _ _ e => mX5_isTold k0 e) lkRX5_211 (by decide) (by decide) rfl [] rfl (Nat.le_of_ble_eq_true rfl) 30 rfl (fun r27 h27 hf => ?_)
  refine A_z_eq C dX5_readDown_30 46 (by decide) 33 rfl hf (fun c30 hf => ?_) (fun c30 hf => ?_)
  · refine A_iconst (v := 0) C dX5_readDown_46 (by decide) 47 rfl ?_
    exact A_zret (x := false) C dX5_readDown_47 E hf
  refine A_aload_n C dX5_readDown_33 (i := 0) rfl 1 rfl 34 rfl ?_
  refine A_aload_n C dX5_readDown_34 (i := 1) rfl 0 rfl 35 rfl ?_
  refine A_iconst (v := 1) C dX5_readDown_35 (by decide) 36 rfl ?_
  refine CVz C dX5_readDown_36 5 k0 (by decide) (r := (RX5, TX5, 13)) rfl rfl hf (fun _ _ e => mX5_take k0 kp3 e) lkRX5_233 (by decide) (by decide) rfl [] rfl (Nat.le_of_ble_eq_true rfl) 39 rfl (fun r36 h36 hf => ?_)
  refine A_z_eq C dX5_readDown_39 46 (by decide) 42 rfl hf (fun c39 hf => ?_) (fun c39 hf => ?_)
  · refine A_iconst (v := 0) C dX5_readDown_46 (by decide) 47 rfl ?_
    exact A_zret (x := false) C dX5_readDown_47 E hf
  refine A_iconst (v := 1) C dX5_readDown_42 (by decide) 43 rfl ?_
  refine A_goto C dX5_readDown_43 47 (by decide) ?_
  exact A_zret (x := true) C dX5_readDown_47 E hf
set_option maxRecDepth 20000 in
theorem mX5_readAfter {K : KX} {x0 : Nat} (k0 : isK 5 x0) {h : HH} {rv : Bool} {hv : HH} (hf : fX5_readAfter x0 h = some (rv, hv)) : MR K yX5_readAfter cX5_readAfter 1 (some .boolean) 8 [.ref (K.2.1 x0)] h (some (.int (b2i rv))) hv := by
  refine MR_of (by decide) (Nat.le_of_ble_eq_true rfl) (fun G C E hnl => ?_)
  have C : Ok K G 8 cX5_readAfter RX5 := C
  refine (show At K G 0 [(0, .ref (K.2.1 x0))] [] h from ?_)
  unfold fX5_readAfter at hf
  refine A_aload_n C dX5_readAfter_0 (i := 0) rfl 0 rfl 1 rfl ?_
  refine A_str C dX5_readAfter_1 (i := 22) (by decide) rfl 3 rfl ?_
  refine CVz C dX5_readAfter_3 5 k0 (by decide) (r := (RX5, TX5, 13)) rfl rfl hf (fun _ _ e => mX5_word k0 (by decide) e) lkRX5_179 (by decide) (by decide) rfl [] rfl (Nat.le_of_ble_eq_true rfl) 6 rfl (fun r3 h3 hf => ?_)
  refine A_z_eq C dX5_readAfter_6 35 (by decide) 9 rfl hf (fun c6 hf => ?_) (fun c6 hf => ?_)
  · refine A_iconst (v := 0) C dX5_readAfter_35 (by decide) 36 rfl ?_
    exact A_zret (x := false) C dX5_readAfter_36 E hf
  refine A_aload_n C dX5_readAfter_9 (i := 0) rfl 0 rfl 10 rfl ?_
  refine A_iconst (v := 0) C dX5_readAfter_10 (by decide) 11 rfl ?_
  refine A_sipush (v := 999) C dX5_readAfter_11 (by decide) 14 rfl ?_
  refine CVz C dX5_readAfter_14 5 k0 (by decide) (r := (RX5, TX5, 13)) rfl rfl hf (fun _ _ e => mX5_isWhole k0 e) lkRX5_187 (by decide) (by decide) rfl [] rfl (Nat.le_of_ble_eq_true rfl) 17 rfl (fun r14 h14 hf => ?_)
  refine A_z_eq C dX5_readAfter_17 35 (by decide) 20 rfl hf (fun c17 hf => ?_) (fun c17 hf => ?_)
  · refine A_iconst (v := 0) C dX5_readAfter_35 (by decide) 36 rfl ?_
    exact A_zret (x := false) C dX5_readAfter_36 E hf
  refine A_aload_n C dX5_readAfter_20 (i := 0) rfl 0 rfl 21 rfl ?_
  refine A_aload_n C dX5_readAfter_21 (i := 0) rfl 0 rfl 22 rfl ?_
  refine gfRX5_36 C k0 dX5_readAfter_22 hf 25 rfl (fun kp1 hf => ?_)
  refine gfRX5_110 C kp1 dX5_readAfter_25 28 rfl ?_
  refine A_iconst (v := 2) C dX5_readAfter_28 (by decide) 29 rfl ?_
  refine CVz C dX5_readAfter_29 5 k0 (by decide) (r := (RX5, TX5, 13)) rfl rfl hf (fun _ _ e => mX5_take k0 (of_0_4 kp1) e) lkRX5_233 (by decide) (by decide) rfl [] rfl (Nat.le_of_ble_eq_true rfl) 32 rfl (fun r29 h29 hf => ?_)
  refine A_z_ne C dX5_readAfter_32 37 (by decide) 35 rfl hf (fun c32 hf => ?_) (fun c32 hf => ?_)
  · refine A_aload_n C dX5_readAfter_37 (i := 0) rfl 0 rfl 38 rfl ?_
    refine gfRX5_36 C k0 dX5_readAfter_38 hf 41 rfl (fun kp2 hf => ?_)
    refine CVv C dX5_readAfter_41 0 kp2 (by decide) (r := (RX0, TX0, 14)) rfl rfl hf (fun _ e => mX0_orderStep kp2 e) lkRX5_251 (by decide) (by decide) rfl [] rfl (Nat.le_of_ble_eq_true rfl) 44 rfl (fun h41 hf => ?_)
    refine A_iconst (v := 1) C dX5_readAfter_44 (by decide) 45 rfl ?_
    exact A_zret (x := true) C dX5_readAfter_45 E hf
  refine A_iconst (v := 0) C dX5_readAfter_35 (by decide) 36 rfl ?_
  exact A_zret (x := false) C dX5_readAfter_36 E hf
set_option maxRecDepth 20000 in
theorem mX5_readUp {K : KX} {x0 : Nat} (k0 : isK 5 x0) {h : HH} {rv : Bool} {hv : HH} (hf : fX5_readUp x0 h = some (rv, hv)) : MR K yX5_readUp cX5_readUp 1 (some .boolean) 9 [.ref (K.2.1 x0)] h (some (.int (b2i rv))) hv := by
  refine MR_of (by decide) (Nat.le_of_ble_eq_true rfl) (fun G C E hnl => ?_)
  have C : Ok K G 9 cX5_readUp RX5 := C
  refine (show At K G 0 [(0, .ref (K.2.1 x0))] [] h from ?_)
  unfold fX5_readUp at hf
  refine A_aload_n C dX5_readUp_0 (i := 0) rfl 0 rfl 1 rfl ?_
  refine gfRX5_36 C k0 dX5_readUp_1 hf 4 rfl (fun kp1 hf => ?_)
  refine gfRX5_110 C kp1 dX5_readUp_4 7 rfl ?_
  refine A_iconst (v := 1) C dX5_readUp_7 (by decide) 8 rfl ?_
  refine A_iconst (v := (-1)) C dX5_readUp_8 (by decide) 9 rfl ?_
  refine CVv C dX5_readUp_9 7 (of_0_4 kp1) (by decide) (r := (RX7, TX7, 4)) rfl rfl hf (fun _ e => mX7_put (of_0_4 kp1) e) lkRX5_224 (by decide) (by decide) rfl [] rfl (Nat.le_of_ble_eq_true rfl) 12 rfl (fun h9 hf => ?_)
  refine A_aload_n C dX5_readUp_12 (i := 0) rfl 0 rfl 13 rfl ?_
  refine A_iconst (v := 1) C dX5_readUp_13 (by decide) 14 rfl ?_
  refine CVz C dX5_readUp_14 5 k0 (by decide) (r := (RX5, TX5, 13)) rfl rfl hf (fun _ _ e => mX5_isTold k0 e) lkRX5_211 (by decide) (by decide) rfl [] rfl (Nat.le_of_ble_eq_true rfl) 17 rfl (fun r14 h14 hf => ?_)
  refine A_z_eq C dX5_readUp_17 39 (by decide) 20 rfl hf (fun c17 hf => ?_) (fun c17 hf => ?_)
  · refine A_iconst (v := 0) C dX5_readUp_39 (by decide) 40 rfl ?_
    exact A_zret (x := false) C dX5_readUp_40 E hf
  refine A_aload_n C dX5_readUp_20 (i := 0) rfl 0 rfl 21 rfl ?_
  refine A_aload_n C dX5_readUp_21 (i := 0) rfl 0 rfl 22 rfl ?_
  refine gfRX5_36 C k0 dX5_readUp_22 hf 25 rfl (fun kp2 hf => ?_)
  refine gfRX5_110 C kp2 dX5_readUp_25 28 rfl ?_
  refine A_iconst (v := 0) C dX5_readUp_28 (by decide) 29 rfl ?_
  refine CVz C dX5_readUp_29 5 k0 (by decide) (r := (RX5, TX5, 13)) rfl rfl hf (fun _ _ e => mX5_take k0 (of_0_4 kp2) e) lkRX5_233 (by decide) (by decide) rfl [] rfl (Nat.le_of_ble_eq_true rfl) 32 rfl (fun r29 h29 hf => ?_)
  refine A_z_eq C dX5_readUp_32 39 (by decide) 35 rfl hf (fun c32 hf => ?_) (fun c32 hf => ?_)
  · refine A_iconst (v := 0) C dX5_readUp_39 (by decide) 40 rfl ?_
    exact A_zret (x := false) C dX5_readUp_40 E hf
  refine A_iconst (v := 1) C dX5_readUp_35 (by decide) 36 rfl ?_
  refine A_goto C dX5_readUp_36 40 (by decide) ?_
  exact A_zret (x := true) C dX5_readUp_40 E hf
set_option maxRecDepth 20000 in
theorem mX5_readKnock {K : KX} {x0 : Nat} (k0 : isK 5 x0) {h : HH} {rv : Bool} {hv : HH} (hf : fX5_readKnock x0 h = some (rv, hv)) : MR K yX5_readKnock cX5_readKnock 2 (some .boolean) 9 [.ref (K.2.1 x0)] h (some (.int (b2i rv))) hv := by
  refine MR_of (by decide) (Nat.le_of_ble_eq_true rfl) (fun G C E hnl => ?_)
  have C : Ok K G 9 cX5_readKnock RX5 := C
  refine (show At K G 0 [(0, .ref (K.2.1 x0))] [] h from ?_)
  unfold fX5_readKnock at hf
  refine A_aload_n C dX5_readKnock_0 (i := 0) rfl 0 rfl 1 rfl ?_
  refine gfRX5_36 C k0 dX5_readKnock_1 hf 4 rfl (fun kp1 hf => ?_)
  refine gfRX5_126 C kp1 dX5_readKnock_4 7 rfl ?_
  refine A_namR (of_0_5 kp1) hf (fun y2 kp3 hf => ?_)
  refine A_astore_n C dX5_readKnock_7 (i := 1) rfl [(1, .ref (K.2.1 y2)), (0, .ref (K.2.1 x0))] (lt_nl hnl (by decide)) rfl 8 rfl ?_
  refine A_aload_n C dX5_readKnock_8 (i := 0) rfl 1 rfl 9 rfl ?_
  refine A_iconst (v := 0) C dX5_readKnock_9 (by decide) 10 rfl ?_
  refine CVz C dX5_readKnock_10 5 k0 (by decide) (r := (RX5, TX5, 13)) rfl rfl hf (fun _ _ e => mX5_isTold k0 e) lkRX5_211 (by decide) (by decide) rfl [] rfl (Nat.le_of_ble_eq_true rfl) 13 rfl (fun r10 h10 hf => ?_)
  refine A_z_eq C dX5_readKnock_13 127 (by decide) 16 rfl hf (fun c13 hf => ?_) (fun c13 hf => ?_)
  · refine A_iconst (v := 0) C dX5_readKnock_127 (by decide) 128 rfl ?_
    exact A_zret (x := false) C dX5_readKnock_128 E hf
  refine A_aload_n C dX5_readKnock_16 (i := 0) rfl 1 rfl 17 rfl ?_
  refine A_aload_n C dX5_readKnock_17 (i := 1) rfl 0 rfl 18 rfl ?_
  refine A_iconst (v := 0) C dX5_readKnock_18 (by decide) 19 rfl ?_
  refine CVz C dX5_readKnock_19 5 k0 (by decide) (r := (RX5, TX5, 13)) rfl rfl hf (fun _ _ e => mX5_take k0 kp3 e) lkRX5_233 (by decide) (by decide) rfl [] rfl (Nat.le_of_ble_eq_true rfl) 22 rfl (fun r19 h19 hf => ?_)
  refine A_z_eq C dX5_readKnock_22 127 (by decide) 25 rfl hf (fun c22 hf => ?_) (fun c22 hf => ?_)
  · refine A_iconst (v := 0) C dX5_readKnock_127 (by decide) 128 rfl ?_
    exact A_zret (x := false) C dX5_readKnock_128 E hf
  refine A_aload_n C dX5_readKnock_25 (i := 0) rfl 1 rfl 26 rfl ?_
  refine A_str C dX5_readKnock_26 (i := 23) (by decide) rfl 28 rfl ?_
  refine CVz C dX5_readKnock_28 5 k0 (by decide) (r := (RX5, TX5, 13)) rfl rfl hf (fun _ _ e => mX5_word k0 (by decide) e) lkRX5_179 (by decide) (by decide) rfl [] rfl (Nat.le_of_ble_eq_true rfl) 31 rfl (fun r28 h28 hf => ?_)
  refine A_z_eq C dX5_readKnock_31 127 (by decide) 34 rfl hf (fun c31 hf => ?_) (fun c31 hf => ?_)
  · refine A_iconst (v := 0) C dX5_readKnock_127 (by decide) 128 rfl ?_
    exact A_zret (x := false) C dX5_readKnock_128 E hf
  refine A_aload_n C dX5_readKnock_34 (i := 0) rfl 1 rfl 35 rfl ?_
  refine A_iconst (v := 0) C dX5_readKnock_35 (by decide) 36 rfl ?_
  refine A_aload_n C dX5_readKnock_36 (i := 0) rfl 1 rfl 37 rfl ?_
  refine gfRX5_36 C k0 dX5_readKnock_37 hf 40 rfl (fun kp4 hf => ?_)
  refine gfRX5_91 C kp4 dX5_readKnock_40 43 rfl ?_
  refine A_iconst (v := 1) C dX5_readKnock_43 (by decide) 44 rfl ?_
  refine A_isub C dX5_readKnock_44 45 rfl ?_
  refine CVz C dX5_readKnock_45 5 k0 (by decide) (r := (RX5, TX5, 13)) rfl rfl hf (fun _ _ e => mX5_isWhole k0 e) lkRX5_187 (by decide) (by decide) rfl [] rfl (Nat.le_of_ble_eq_true rfl) 48 rfl (fun r45 h45 hf => ?_)
  refine A_z_eq C dX5_readKnock_48 127 (by decide) 51 rfl hf (fun c48 hf => ?_) (fun c48 hf => ?_)
  · refine A_iconst (v := 0) C dX5_readKnock_127 (by decide) 128 rfl ?_
    exact A_zret (x := false) C dX5_readKnock_128 E hf
  refine A_aload_n C dX5_readKnock_51 (i := 0) rfl 1 rfl 52 rfl ?_
  refine A_aload_n C dX5_readKnock_52 (i := 1) rfl 0 rfl 53 rfl ?_
  refine A_iconst (v := 1) C dX5_readKnock_53 (by decide) 54 rfl ?_
  refine CVz C dX5_readKnock_54 5 k0 (by decide) (r := (RX5, TX5, 13)) rfl rfl hf (fun _ _ e => mX5_take k0 kp3 e) lkRX5_233 (by decide) (by decide) rfl [] rfl (Nat.le_of_ble_eq_true rfl) 57 rfl (fun r54 h54 hf => ?_)
  refine A_z_eq C dX5_readKnock_57 127 (by decide) 60 rfl hf (fun c57 hf => ?_) (fun c57 hf => ?_)
  · refine A_iconst (v := 0) C dX5_readKnock_127 (by decide) 128 rfl ?_
    exact A_zret (x := false) C dX5_readKnock_128 E hf
  refine A_aload_n C dX5_readKnock_60 (i := 0) rfl 1 rfl 61 rfl ?_
  refine A_strw C dX5_readKnock_61 (i := 24) (by decide) rfl 64 rfl ?_
  refine CVz C dX5_readKnock_64 5 k0 (by decide) (r := (RX5, TX5, 13)) rfl rfl hf (fun _ _ e => mX5_word k0 (by decide) e) lkRX5_179 (by decide) (by decide) rfl [] rfl (Nat.le_of_ble_eq_true rfl) 67 rfl (fun r64 h64 hf => ?_)
  refine A_z_eq C dX5_readKnock_67 127 (by decide) 70 rfl hf (fun c67 hf => ?_) (fun c67 hf => ?_)
  · refine A_iconst (v := 0) C dX5_readKnock_127 (by decide) 128 rfl ?_
    exact A_zret (x := false) C dX5_readKnock_128 E hf
  refine A_aload_n C dX5_readKnock_70 (i := 0) rfl 1 rfl 71 rfl ?_
  refine A_iconst (v := 0) C dX5_readKnock_71 (by decide) 72 rfl ?_
  refine A_aload_n C dX5_readKnock_72 (i := 0) rfl 1 rfl 73 rfl ?_
  refine gfRX5_36 C k0 dX5_readKnock_73 hf 76 rfl (fun kp5 hf => ?_)
  refine gfRX5_198 C kp5 dX5_readKnock_76 79 rfl ?_
  refine CVz C dX5_readKnock_79 5 k0 (by decide) (r := (RX5, TX5, 13)) rfl rfl hf (fun _ _ e => mX5_isWhole k0 e) lkRX5_187 (by decide) (by decide) rfl [] rfl (Nat.le_of_ble_eq_true rfl) 82 rfl (fun r79 h79 hf => ?_)
  refine A_z_eq C dX5_readKnock_82 127 (by decide) 85 rfl hf (fun c82 hf => ?_) (fun c82 hf => ?_)
  · refine A_iconst (v := 0) C dX5_readKnock_127 (by decide) 128 rfl ?_
    exact A_zret (x := false) C dX5_readKnock_128 E hf
  refine A_aload_n C dX5_readKnock_85 (i := 0) rfl 1 rfl 86 rfl ?_
  refine A_aload_n C dX5_readKnock_86 (i := 1) rfl 0 rfl 87 rfl ?_
  refine A_iconst (v := 2) C dX5_readKnock_87 (by decide) 88 rfl ?_
  refine CVz C dX5_readKnock_88 5 k0 (by decide) (r := (RX5, TX5, 13)) rfl rfl hf (fun _ _ e => mX5_take k0 kp3 e) lkRX5_233 (by decide) (by decide) rfl [] rfl (Nat.le_of_ble_eq_true rfl) 91 rfl (fun r88 h88 hf => ?_)
  refine A_z_eq C dX5_readKnock_91 127 (by decide) 94 rfl hf (fun c91 hf => ?_) (fun c91 hf => ?_)
  · refine A_iconst (v := 0) C dX5_readKnock_127 (by decide) 128 rfl ?_
    exact A_zret (x := false) C dX5_readKnock_128 E hf
  refine A_aload_n C dX5_readKnock_94 (i := 0) rfl 1 rfl 95 rfl ?_
  refine A_strw C dX5_readKnock_95 (i := 25) (by decide) rfl 98 rfl ?_
  refine CVz C dX5_readKnock_98 5 k0 (by decide) (r := (RX5, TX5, 13)) rfl rfl hf (fun _ _ e => mX5_word k0 (by decide) e) lkRX5_179 (by decide) (by decide) rfl [] rfl (Nat.le_of_ble_eq_true rfl) 101 rfl (fun r98 h98 hf => ?_)
  refine A_z_eq C dX5_readKnock_101 127 (by decide) 104 rfl hf (fun c101 hf => ?_) (fun c101 hf => ?_)
  · refine A_iconst (v := 0) C dX5_readKnock_127 (by decide) 128 rfl ?_
    exact A_zret (x := false) C dX5_readKnock_128 E hf
  refine A_aload_n C dX5_readKnock_104 (i := 0) rfl 1 rfl 105 rfl ?_
  refine A_iconst (v := 1) C dX5_readKnock_105 (by decide) 106 rfl ?_
  refine A_bipush (v := 99) C dX5_readKnock_106 (by decide) 108 rfl ?_
  refine CVz C dX5_readKnock_108 5 k0 (by decide) (r := (RX5, TX5, 13)) rfl rfl hf (fun _ _ e => mX5_isWhole k0 e) lkRX5_187 (by decide) (by decide) rfl [] rfl (Nat.le_of_ble_eq_true rfl) 111 rfl (fun r108 h108 hf => ?_)
  refine A_z_eq C dX5_readKnock_111 127 (by decide) 114 rfl hf (fun c111 hf => ?_) (fun c111 hf => ?_)
  · refine A_iconst (v := 0) C dX5_readKnock_127 (by decide) 128 rfl ?_
    exact A_zret (x := false) C dX5_readKnock_128 E hf
  refine A_aload_n C dX5_readKnock_114 (i := 0) rfl 1 rfl 115 rfl ?_
  refine A_aload_n C dX5_readKnock_115 (i := 1) rfl 0 rfl 116 rfl ?_
  refine A_iconst (v := 3) C dX5_readKnock_116 (by decide) 117 rfl ?_
  refine CVz C dX5_readKnock_117 5 k0 (by decide) (r := (RX5, TX5, 13)) rfl rfl hf (fun _ _ e => mX5_take k0 kp3 e) lkRX5_233 (by decide) (by decide) rfl [] rfl (Nat.le_of_ble_eq_true rfl) 120 rfl (fun r117 h117 hf => ?_)
  refine A_z_eq C dX5_readKnock_120 127 (by decide) 123 rfl hf (fun c120 hf => ?_) (fun c120 hf => ?_)
  · refine A_iconst (v := 0) C dX5_readKnock_127 (by decide) 128 rfl ?_
    exact A_zret (x := false) C dX5_readKnock_128 E hf
  refine A_iconst (v := 1) C dX5_readKnock_123 (by decide) 124 rfl ?_
  refine A_goto C dX5_readKnock_124 128 (by decide) ?_
  exact A_zret (x := true) C dX5_readKnock_128 E hf
set_option maxRecDepth 20000 in
theorem mX5_readTask {K : KX} {x0 : Nat} (k0 : isK 5 x0) {h : HH} {rv : Bool} {hv : HH} (hf : fX5_readTask x0 h = some (rv, hv)) : MR K yX5_readTask cX5_readTask 2 (some .boolean) 9 [.ref (K.2.1 x0)] h (some (.int (b2i rv))) hv := by
  refine MR_of (by decide) (Nat.le_of_ble_eq_true rfl) (fun G C E hnl => ?_)
  have C : Ok K G 9 cX5_readTask RX5 := C
  refine (show At K G 0 [(0, .ref (K.2.1 x0))] [] h from ?_)
  unfold fX5_readTask at hf
  refine A_aload_n C dX5_readTask_0 (i := 0) rfl 0 rfl 1 rfl ?_
  refine gfRX5_36 C k0 dX5_readTask_1 hf 4 rfl (fun kp1 hf => ?_)
  refine gfRX5_134 C kp1 dX5_readTask_4 7 rfl ?_
  refine A_namR (of_0_6 kp1) hf (fun y2 kp3 hf => ?_)
  refine A_astore_n C dX5_readTask_7 (i := 1) rfl [(1, .ref (K.2.1 y2)), (0, .ref (K.2.1 x0))] (lt_nl hnl (by decide)) rfl 8 rfl ?_
  refine A_aload_n C dX5_readTask_8 (i := 0) rfl 1 rfl 9 rfl ?_
  refine A_iconst (v := 2) C dX5_readTask_9 (by decide) 10 rfl ?_
  refine A_aload_n C dX5_readTask_10 (i := 1) rfl 0 rfl 11 rfl ?_
  refine gfRX5_71 C kp3 dX5_readTask_11 14 rfl ?_
  refine A_iconst (v := 1) C dX5_readTask_14 (by decide) 15 rfl ?_
  refine A_isub C dX5_readTask_15 16 rfl ?_
  refine CVz C dX5_readTask_16 5 k0 (by decide) (r := (RX5, TX5, 13)) rfl rfl hf (fun _ _ e => mX5_newName k0 e) lkRX5_221 (by decide) (by decide) rfl [] rfl (Nat.le_of_ble_eq_true rfl) 19 rfl (fun r16 h16 hf => ?_)
  refine A_z_eq C dX5_readTask_19 118 (by decide) 22 rfl hf (fun c19 hf => ?_) (fun c19 hf => ?_)
  · refine A_iconst (v := 0) C dX5_readTask_118 (by decide) 119 rfl ?_
    exact A_zret (x := false) C dX5_readTask_119 E hf
  refine A_aload_n C dX5_readTask_22 (i := 0) rfl 1 rfl 23 rfl ?_
  refine A_str C dX5_readTask_23 (i := 23) (by decide) rfl 25 rfl ?_
  refine CVz C dX5_readTask_25 5 k0 (by decide) (r := (RX5, TX5, 13)) rfl rfl hf (fun _ _ e => mX5_word k0 (by decide) e) lkRX5_179 (by decide) (by decide) rfl [] rfl (Nat.le_of_ble_eq_true rfl) 28 rfl (fun r25 h25 hf => ?_)
  refine A_z_eq C dX5_readTask_28 118 (by decide) 31 rfl hf (fun c28 hf => ?_) (fun c28 hf => ?_)
  · refine A_iconst (v := 0) C dX5_readTask_118 (by decide) 119 rfl ?_
    exact A_zret (x := false) C dX5_readTask_119 E hf
  refine A_aload_n C dX5_readTask_31 (i := 0) rfl 1 rfl 32 rfl ?_
  refine A_iconst (v := 0) C dX5_readTask_32 (by decide) 33 rfl ?_
  refine A_aload_n C dX5_readTask_33 (i := 0) rfl 1 rfl 34 rfl ?_
  refine gfRX5_36 C k0 dX5_readTask_34 hf 37 rfl (fun kp4 hf => ?_)
  refine gfRX5_91 C kp4 dX5_readTask_37 40 rfl ?_
  refine CVz C dX5_readTask_40 5 k0 (by decide) (r := (RX5, TX5, 13)) rfl rfl hf (fun _ _ e => mX5_isWhole k0 e) lkRX5_187 (by decide) (by decide) rfl [] rfl (Nat.le_of_ble_eq_true rfl) 43 rfl (fun r40 h40 hf => ?_)
  refine A_z_eq C dX5_readTask_43 118 (by decide) 46 rfl hf (fun c43 hf => ?_) (fun c43 hf => ?_)
  · refine A_iconst (v := 0) C dX5_readTask_118 (by decide) 119 rfl ?_
    exact A_zret (x := false) C dX5_readTask_119 E hf
  refine A_aload_n C dX5_readTask_46 (i := 0) rfl 1 rfl 47 rfl ?_
  refine A_aload_n C dX5_readTask_47 (i := 1) rfl 0 rfl 48 rfl ?_
  refine A_iconst (v := 0) C dX5_readTask_48 (by decide) 49 rfl ?_
  refine CVz C dX5_readTask_49 5 k0 (by decide) (r := (RX5, TX5, 13)) rfl rfl hf (fun _ _ e => mX5_take k0 kp3 e) lkRX5_233 (by decide) (by decide) rfl [] rfl (Nat.le_of_ble_eq_true rfl) 52 rfl (fun r49 h49 hf => ?_)
  refine A_z_eq C dX5_readTask_52 118 (by decide) 55 rfl hf (fun c52 hf => ?_) (fun c52 hf => ?_)
  · refine A_iconst (v := 0) C dX5_readTask_118 (by decide) 119 rfl ?_
    exact A_zret (x := false) C dX5_readTask_119 E hf
  refine A_aload_n C dX5_readTask_55 (i := 0) rfl 1 rfl 56 rfl ?_
  refine A_strw C dX5_readTask_56 (i := 26) (by decide) rfl 59 rfl ?_
  refine CVz C dX5_readTask_59 5 k0 (by decide) (r := (RX5, TX5, 13)) rfl rfl hf (fun _ _ e => mX5_word k0 (by decide) e) lkRX5_179 (by decide) (by decide) rfl [] rfl (Nat.le_of_ble_eq_true rfl) 62 rfl (fun r59 h59 hf => ?_)
  refine A_z_eq C dX5_readTask_62 118 (by decide) 65 rfl hf (fun c62 hf => ?_) (fun c62 hf => ?_)
  · refine A_iconst (v := 0) C dX5_readTask_118 (by decide) 119 rfl ?_
    exact A_zret (x := false) C dX5_readTask_119 E hf
  refine A_aload_n C dX5_readTask_65 (i := 0) rfl 1 rfl 66 rfl ?_
  refine A_iconst (v := 1) C dX5_readTask_66 (by decide) 67 rfl ?_
  refine A_sipush (v := 999) C dX5_readTask_67 (by decide) 70 rfl ?_
  refine CVz C dX5_readTask_70 5 k0 (by decide) (r := (RX5, TX5, 13)) rfl rfl hf (fun _ _ e => mX5_isWhole k0 e) lkRX5_187 (by decide) (by decide) rfl [] rfl (Nat.le_of_ble_eq_true rfl) 73 rfl (fun r70 h70 hf => ?_)
  refine A_z_eq C dX5_readTask_73 118 (by decide) 76 rfl hf (fun c73 hf => ?_) (fun c73 hf => ?_)
  · refine A_iconst (v := 0) C dX5_readTask_118 (by decide) 119 rfl ?_
    exact A_zret (x := false) C dX5_readTask_119 E hf
  refine A_aload_n C dX5_readTask_76 (i := 0) rfl 1 rfl 77 rfl ?_
  refine A_aload_n C dX5_readTask_77 (i := 1) rfl 0 rfl 78 rfl ?_
  refine A_iconst (v := 1) C dX5_readTask_78 (by decide) 79 rfl ?_
  refine CVz C dX5_readTask_79 5 k0 (by decide) (r := (RX5, TX5, 13)) rfl rfl hf (fun _ _ e => mX5_take k0 kp3 e) lkRX5_233 (by decide) (by decide) rfl [] rfl (Nat.le_of_ble_eq_true rfl) 82 rfl (fun r79 h79 hf => ?_)
  refine A_z_eq C dX5_readTask_82 118 (by decide) 85 rfl hf (fun c82 hf => ?_) (fun c82 hf => ?_)
  · refine A_iconst (v := 0) C dX5_readTask_118 (by decide) 119 rfl ?_
    exact A_zret (x := false) C dX5_readTask_119 E hf
  refine A_aload_n C dX5_readTask_85 (i := 0) rfl 1 rfl 86 rfl ?_
  refine A_strw C dX5_readTask_86 (i := 27) (by decide) rfl 89 rfl ?_
  refine CVz C dX5_readTask_89 5 k0 (by decide) (r := (RX5, TX5, 13)) rfl rfl hf (fun _ _ e => mX5_word k0 (by decide) e) lkRX5_179 (by decide) (by decide) rfl [] rfl (Nat.le_of_ble_eq_true rfl) 92 rfl (fun r89 h89 hf => ?_)
  refine A_z_eq C dX5_readTask_92 118 (by decide) 95 rfl hf (fun c92 hf => ?_) (fun c92 hf => ?_)
  · refine A_iconst (v := 0) C dX5_readTask_118 (by decide) 119 rfl ?_
    exact A_zret (x := false) C dX5_readTask_119 E hf
  refine A_aload_n C dX5_readTask_95 (i := 0) rfl 1 rfl 96 rfl ?_
  refine A_iconst (v := 0) C dX5_readTask_96 (by decide) 97 rfl ?_
  refine A_bipush (v := 99) C dX5_readTask_97 (by decide) 99 rfl ?_
  refine CVz C dX5_readTask_99 5 k0 (by decide) (r := (RX5, TX5, 13)) rfl rfl hf (fun _ _ e => mX5_isWhole k0 e) lkRX5_187 (by decide) (by decide) rfl [] rfl (Nat.le_of_ble_eq_true rfl) 102 rfl (fun r99 h99 hf => ?_)
  refine A_z_eq C dX5_readTask_102 118 (by decide) 105 rfl hf (fun c102 hf => ?_) (fun c102 hf => ?_)
  · refine A_iconst (v := 0) C dX5_readTask_118 (by decide) 119 rfl ?_
    exact A_zret (x := false) C dX5_readTask_119 E hf
  refine A_aload_n C dX5_readTask_105 (i := 0) rfl 1 rfl 106 rfl ?_
  refine A_aload_n C dX5_readTask_106 (i := 1) rfl 0 rfl 107 rfl ?_
  refine A_iconst (v := 2) C dX5_readTask_107 (by decide) 108 rfl ?_
  refine CVz C dX5_readTask_108 5 k0 (by decide) (r := (RX5, TX5, 13)) rfl rfl hf (fun _ _ e => mX5_take k0 kp3 e) lkRX5_233 (by decide) (by decide) rfl [] rfl (Nat.le_of_ble_eq_true rfl) 111 rfl (fun r108 h108 hf => ?_)
  refine A_z_eq C dX5_readTask_111 118 (by decide) 114 rfl hf (fun c111 hf => ?_) (fun c111 hf => ?_)
  · refine A_iconst (v := 0) C dX5_readTask_118 (by decide) 119 rfl ?_
    exact A_zret (x := false) C dX5_readTask_119 E hf
  refine A_iconst (v := 1) C dX5_readTask_114 (by decide) 115 rfl ?_
  refine A_goto C dX5_readTask_115 119 (by decide) ?_
  exact A_zret (x := true) C dX5_readTask_119 E hf
set_option maxRecDepth 20000 in
theorem wX5_readPays_L30 {K : KX} {G : GX} (C : Ok K G 4 cX5_readPays RX5) (hnl : G.2.2.2.2.2.2.2.2.2.2.2.2.2 = 3) {rv : Bool} {hv : HH} (E : Endd K G (some .boolean) (some (.int (b2i rv))) hv) {x0 : Nat} {k30_90 : Int32 → HH → Option (Bool × HH)}  (Hk30_90 : ∀ (x1 : Int32) (h : HH), k30_90 x1 h = some (rv, hv) → At K G 90 [(0, .ref (K.2.1 x0)), (1, .int x1)] [] h) (kx0 : isK 5 x0) : ∀ (self30 : Int32 → HH → Option (Bool × HH)), (∀ (x1 : Int32) (h : HH), self30 x1 h = some (rv, hv) → At K G 30 [(0, .ref (K.2.1 x0)), (1, .int x1)] [] h) → ∀ (x1 : Int32) (h : HH), fX5_readPays_L30 k30_90 x0 self30 x1 h = some (rv, hv) → At K G 30 [(0, .ref (K.2.1 x0)), (1, .int x1)] [] h := by
  intro self30 Hself30 x1 h hf
  unfold fX5_readPays_L30 at hf
  refine A_iload_n C dX5_readPays_30 (i := 1) rfl 1 rfl 31 rfl ?_
  refine A_iconst (v := 5) C dX5_readPays_31 (by decide) 32 rfl ?_
  refine A_icmp_gt C dX5_readPays_32 152 (by decide) 35 rfl hf (fun c32 hf => ?_) (fun c32 hf => ?_)
  · refine A_iconst (v := 1) C dX5_readPays_152 (by decide) 153 rfl ?_
    exact A_zret (x := true) C dX5_readPays_153 E hf
  refine A_aload_n C dX5_readPays_35 (i := 0) rfl 0 rfl 36 rfl ?_
  refine A_iconst (v := 0) C dX5_readPays_36 (by decide) 37 rfl ?_
  refine A_sipush (v := 999) C dX5_readPays_37 (by decide) 40 rfl ?_
  refine CVz C dX5_readPays_40 5 kx0 (by decide) (r := (RX5, TX5, 13)) rfl rfl hf (fun _ _ e => mX5_isWhole kx0 e) lkRX5_187 (by decide) (by decide) rfl [] rfl (Nat.le_of_ble_eq_true rfl) 43 rfl (fun r40 h40 hf => ?_)
  refine A_z_ne C dX5_readPays_43 48 (by decide) 46 rfl hf (fun c43 hf => ?_) (fun c43 hf => ?_)
  · refine A_iload_n C dX5_readPays_48 (i := 1) rfl 1 rfl 49 rfl ?_
    refine A_aload_n C dX5_readPays_49 (i := 0) rfl 0 rfl 50 rfl ?_
    refine gfRX5_36 C kx0 dX5_readPays_50 hf 53 rfl (fun kp3 hf => ?_)
    refine gfRX5_91 C kp3 dX5_readPays_53 56 rfl ?_
    refine A_icmp_le C dX5_readPays_56 65 (by decide) 59 rfl hf (fun c56 hf => ?_) (fun c56 hf => ?_)
    · refine A_aload_n C dX5_readPays_65 (i := 0) rfl 0 rfl 66 rfl ?_
      refine gfRX5_36 C kx0 dX5_readPays_66 hf 69 rfl (fun kp4 hf => ?_)
      refine gfRX5_208 C kp4 dX5_readPays_69 72 rfl ?_
      refine A_iload_n C dX5_readPays_72 (i := 1) rfl 1 rfl 73 rfl ?_
      refine A_aload_n C dX5_readPays_73 (i := 0) rfl 0 rfl 74 rfl ?_
      refine gfRX5_191 C kx0 dX5_readPays_74 77 rfl ?_
      refine A_iast C dX5_readPays_77 (of_0_1 kp4) hf 78 rfl (fun hf => ?_)
      refine A_aload_n C dX5_readPays_78 (i := 0) rfl 0 rfl 79 rfl ?_
      refine CVv C dX5_readPays_79 5 kx0 (by decide) (r := (RX5, TX5, 13)) rfl rfl hf (fun _ e => mX5_next kx0 e) lkRX5_54 (by decide) (by decide) rfl [] rfl (Nat.le_of_ble_eq_true rfl) 82 rfl (fun h79 hf => ?_)
      refine A_aload_n C dX5_readPays_82 (i := 0) rfl 0 rfl 83 rfl ?_
      refine gfRX5_61 C kx0 dX5_readPays_83 86 rfl ?_
      refine A_iconst (v := 4) C dX5_readPays_86 (by decide) 87 rfl ?_
      refine A_icmp_eq C dX5_readPays_87 142 (by decide) 90 rfl hf (fun c87 hf => ?_) (fun c87 hf => ?_)
      · refine A_aload_n C dX5_readPays_142 (i := 0) rfl 0 rfl 143 rfl ?_
        refine CVv C dX5_readPays_143 5 kx0 (by decide) (r := (RX5, TX5, 13)) rfl rfl hf (fun _ e => mX5_next kx0 e) lkRX5_54 (by decide) (by decide) rfl [] rfl (Nat.le_of_ble_eq_true rfl) 146 rfl (fun h143 hf => ?_)
        refine A_iinc (v := (x1 + 1)) C dX5_readPays_146 1 rfl rfl [(1, .int (x1 + 1)), (0, .ref (K.2.1 x0))] (lt_nl hnl (by decide)) rfl 149 rfl ?_
        refine A_goto C dX5_readPays_149 30 (by decide) ?_
        refine A_sub [1, 0] (lv' := [(0, .ref (K.2.1 x0)), (1, .int (x1 + 1))]) rfl ?_
        exact Hself30 _ _ hf
      exact Hk30_90 _ _ hf
    refine A_aload_n C dX5_readPays_59 (i := 0) rfl 0 rfl 60 rfl ?_
    refine A_iconst (v := 5) C dX5_readPays_60 (by decide) 61 rfl ?_
    refine CVz C dX5_readPays_61 5 kx0 (by decide) (r := (RX5, TX5, 13)) rfl rfl hf (fun _ _ e => mX5_fail kx0 e) lkRX5_79 (by decide) (by decide) rfl [] rfl (Nat.le_of_ble_eq_true rfl) 64 rfl (fun r61 h61 hf => ?_)
    exact A_zret (x := r61) C dX5_readPays_64 E hf
  refine A_iconst (v := 0) C dX5_readPays_46 (by decide) 47 rfl ?_
  exact A_zret (x := false) C dX5_readPays_47 E hf
set_option maxRecDepth 20000 in
theorem mX5_readPays {K : KX} {x0 : Nat} (k0 : isK 5 x0) {h : HH} {rv : Bool} {hv : HH} (hf : fX5_readPays x0 h = some (rv, hv)) : MR K yX5_readPays cX5_readPays 3 (some .boolean) 4 [.ref (K.2.1 x0)] h (some (.int (b2i rv))) hv := by
  refine MR_of (by decide) (Nat.le_of_ble_eq_true rfl) (fun G C E hnl => ?_)
  have C : Ok K G 4 cX5_readPays RX5 := C
  refine (show At K G 0 [(0, .ref (K.2.1 x0))] [] h from ?_)
  unfold fX5_readPays at hf
  refine A_aload_n C dX5_readPays_0 (i := 0) rfl 0 rfl 1 rfl ?_
  refine gfRX5_36 C k0 dX5_readPays_1 hf 4 rfl (fun kp1 hf => ?_)
  refine gfRX5_204 C kp1 dX5_readPays_4 7 rfl ?_
  refine A_if_eq C dX5_readPays_7 16 (by decide) 10 rfl hf (fun c7 hf => ?_) (fun c7 hf => ?_)
  · refine A_aload_n C dX5_readPays_16 (i := 0) rfl 0 rfl 17 rfl ?_
    refine gfRX5_36 C k0 dX5_readPays_17 hf 20 rfl (fun kp2 hf => ?_)
    refine A_iconst (v := 1) C dX5_readPays_20 (by decide) 21 rfl ?_
    refine pfRX5_204 C kp2 dX5_readPays_21 (Or.inr rfl) 24 rfl ?_
    refine A_aload_n C dX5_readPays_24 (i := 0) rfl 0 rfl 25 rfl ?_
    refine CVv C dX5_readPays_25 5 k0 (by decide) (r := (RX5, TX5, 13)) rfl rfl hf (fun _ e => mX5_next k0 e) lkRX5_54 (by decide) (by decide) rfl [] rfl (Nat.le_of_ble_eq_true rfl) 28 rfl (fun h25 hf => ?_)
    refine A_iconst (v := 1) C dX5_readPays_28 (by decide) 29 rfl ?_
    refine A_istore_n C dX5_readPays_29 (i := 1) rfl [(1, .int 1), (0, .ref (K.2.1 x0))] (lt_nl hnl (by decide)) rfl 30 rfl ?_
    refine A_sub [1, 0] (lv' := [(0, .ref (K.2.1 x0)), (1, .int 1)]) rfl ?_
    refine lq1_at (wX5_readPays_L30 C hnl E (fun x1 h hf => ?_) k0) FU _ _ hf
    refine A_aload_n C dX5_readPays_90 (i := 0) rfl 0 rfl 91 rfl ?_
    refine gfRX5_61 C k0 dX5_readPays_91 94 rfl ?_
    refine A_iconst (v := 3) C dX5_readPays_94 (by decide) 95 rfl ?_
    refine A_icmp_eq C dX5_readPays_95 106 (by decide) 98 rfl hf (fun c95 hf => ?_) (fun c95 hf => ?_)
    · refine A_iconst (v := 1) C dX5_readPays_106 (by decide) 107 rfl ?_
      refine A_goto C dX5_readPays_107 111 (by decide) ?_
      refine A_istore_n C dX5_readPays_111 (i := 2) rfl [(2, .int 1), (0, .ref (K.2.1 x0)), (1, .int x1)] (lt_nl hnl (by decide)) rfl 112 rfl ?_
      refine A_iload_n C dX5_readPays_112 (i := 2) rfl 0 rfl 113 rfl ?_
      refine N_if_eq C dX5_readPays_113 136 (by decide) (by decide) 116 rfl ?_
      refine A_iload_n C dX5_readPays_116 (i := 1) rfl 2 rfl 117 rfl ?_
      refine A_aload_n C dX5_readPays_117 (i := 0) rfl 1 rfl 118 rfl ?_
      refine gfRX5_36 C k0 dX5_readPays_118 hf 121 rfl (fun kp5 hf => ?_)
      refine gfRX5_91 C kp5 dX5_readPays_121 124 rfl ?_
      refine A_icmp_eq C dX5_readPays_124 136 (by decide) 127 rfl hf (fun c124 hf => ?_) (fun c124 hf => ?_)
      · refine A_iconst (v := 1) C dX5_readPays_136 (by decide) 137 rfl ?_
        refine A_goto C dX5_readPays_137 141 (by decide) ?_
        exact A_zret (x := true) C dX5_readPays_141 E hf
      refine A_aload_n C dX5_readPays_127 (i := 0) rfl 1 rfl 128 rfl ?_
      refine A_bipush (v := 6) C dX5_readPays_128 (by decide) 130 rfl ?_
      refine CVz C dX5_readPays_130 5 k0 (by decide) (r := (RX5, TX5, 13)) rfl rfl hf (fun _ _ e => mX5_fail k0 e) lkRX5_79 (by decide) (by decide) rfl [] rfl (Nat.le_of_ble_eq_true rfl) 133 rfl (fun r130 h130 hf => ?_)
      refine A_z_eq C dX5_readPays_133 140 (by decide) 136 rfl hf (fun c133 hf => ?_) (fun c133 hf => ?_)
      · refine A_iconst (v := 0) C dX5_readPays_140 (by decide) 141 rfl ?_
        exact A_zret (x := false) C dX5_readPays_141 E hf
      refine A_iconst (v := 1) C dX5_readPays_136 (by decide) 137 rfl ?_
      refine A_goto C dX5_readPays_137 141 (by decide) ?_
      exact A_zret (x := true) C dX5_readPays_141 E hf
    refine A_aload_n C dX5_readPays_98 (i := 0) rfl 0 rfl 99 rfl ?_
    refine gfRX5_61 C k0 dX5_readPays_99 102 rfl ?_
    refine A_iconst (v := 5) C dX5_readPays_102 (by decide) 103 rfl ?_
    refine A_icmp_ne C dX5_readPays_103 110 (by decide) 106 rfl hf (fun c103 hf => ?_) (fun c103 hf => ?_)
    · refine A_iconst (v := 0) C dX5_readPays_110 (by decide) 111 rfl ?_
      refine A_istore_n C dX5_readPays_111 (i := 2) rfl [(2, .int 0), (0, .ref (K.2.1 x0)), (1, .int x1)] (lt_nl hnl (by decide)) rfl 112 rfl ?_
      refine A_iload_n C dX5_readPays_112 (i := 2) rfl 0 rfl 113 rfl ?_
      refine T_if_eq C dX5_readPays_113 136 (by decide) (by decide) ?_
      refine A_iconst (v := 1) C dX5_readPays_136 (by decide) 137 rfl ?_
      refine A_goto C dX5_readPays_137 141 (by decide) ?_
      exact A_zret (x := true) C dX5_readPays_141 E hf
    refine A_iconst (v := 1) C dX5_readPays_106 (by decide) 107 rfl ?_
    refine A_goto C dX5_readPays_107 111 (by decide) ?_
    refine A_istore_n C dX5_readPays_111 (i := 2) rfl [(2, .int 1), (0, .ref (K.2.1 x0)), (1, .int x1)] (lt_nl hnl (by decide)) rfl 112 rfl ?_
    refine A_iload_n C dX5_readPays_112 (i := 2) rfl 0 rfl 113 rfl ?_
    refine N_if_eq C dX5_readPays_113 136 (by decide) (by decide) 116 rfl ?_
    refine A_iload_n C dX5_readPays_116 (i := 1) rfl 2 rfl 117 rfl ?_
    refine A_aload_n C dX5_readPays_117 (i := 0) rfl 1 rfl 118 rfl ?_
    refine gfRX5_36 C k0 dX5_readPays_118 hf 121 rfl (fun kp6 hf => ?_)
    refine gfRX5_91 C kp6 dX5_readPays_121 124 rfl ?_
    refine A_icmp_eq C dX5_readPays_124 136 (by decide) 127 rfl hf (fun c124 hf => ?_) (fun c124 hf => ?_)
    · refine A_iconst (v := 1) C dX5_readPays_136 (by decide) 137 rfl ?_
      refine A_goto C dX5_readPays_137 141 (by decide) ?_
      exact A_zret (x := true) C dX5_readPays_141 E hf
    refine A_aload_n C dX5_readPays_127 (i := 0) rfl 1 rfl 128 rfl ?_
    refine A_bipush (v := 6) C dX5_readPays_128 (by decide) 130 rfl ?_
    refine CVz C dX5_readPays_130 5 k0 (by decide) (r := (RX5, TX5, 13)) rfl rfl hf (fun _ _ e => mX5_fail k0 e) lkRX5_79 (by decide) (by decide) rfl [] rfl (Nat.le_of_ble_eq_true rfl) 133 rfl (fun r130 h130 hf => ?_)
    refine A_z_eq C dX5_readPays_133 140 (by decide) 136 rfl hf (fun c133 hf => ?_) (fun c133 hf => ?_)
    · refine A_iconst (v := 0) C dX5_readPays_140 (by decide) 141 rfl ?_
      exact A_zret (x := false) C dX5_readPays_141 E hf
    refine A_iconst (v := 1) C dX5_readPays_136 (by decide) 137 rfl ?_
    refine A_goto C dX5_readPays_137 141 (by decide) ?_
    exact A_zret (x := true) C dX5_readPays_141 E hf
  refine A_aload_n C dX5_readPays_10 (i := 0) rfl 0 rfl 11 rfl ?_
  refine A_iconst (v := 3) C dX5_readPays_11 (by decide) 12 rfl ?_
  refine CVz C dX5_readPays_12 5 k0 (by decide) (r := (RX5, TX5, 13)) rfl rfl hf (fun _ _ e => mX5_fail k0 e) lkRX5_79 (by decide) (by decide) rfl [] rfl (Nat.le_of_ble_eq_true rfl) 15 rfl (fun r12 h12 hf => ?_)
  exact A_zret (x := r12) C dX5_readPays_15 E hf
set_option maxRecDepth 20000 in
theorem mX5_readThinks {K : KX} {x0 : Nat} (k0 : isK 5 x0) {h : HH} {rv : Bool} {hv : HH} (hf : fX5_readThinks x0 h = some (rv, hv)) : MR K yX5_readThinks cX5_readThinks 2 (some .boolean) 9 [.ref (K.2.1 x0)] h (some (.int (b2i rv))) hv := by
  refine MR_of (by decide) (Nat.le_of_ble_eq_true rfl) (fun G C E hnl => ?_)
  have C : Ok K G 9 cX5_readThinks RX5 := C
  refine (show At K G 0 [(0, .ref (K.2.1 x0))] [] h from ?_)
  unfold fX5_readThinks at hf
  refine A_aload_n C dX5_readThinks_0 (i := 0) rfl 0 rfl 1 rfl ?_
  refine CVv C dX5_readThinks_1 5 k0 (by decide) (r := (RX5, TX5, 13)) rfl rfl hf (fun _ e => mX5_next k0 e) lkRX5_54 (by decide) (by decide) rfl [] rfl (Nat.le_of_ble_eq_true rfl) 4 rfl (fun h1 hf => ?_)
  refine A_aload_n C dX5_readThinks_4 (i := 0) rfl 0 rfl 5 rfl ?_
  refine A_iconst (v := 1) C dX5_readThinks_5 (by decide) 6 rfl ?_
  refine CVz C dX5_readThinks_6 5 k0 (by decide) (r := (RX5, TX5, 13)) rfl rfl hf (fun _ _ e => mX5_isTold k0 e) lkRX5_211 (by decide) (by decide) rfl [] rfl (Nat.le_of_ble_eq_true rfl) 9 rfl (fun r6 h6 hf => ?_)
  refine A_z_ne C dX5_readThinks_9 14 (by decide) 12 rfl hf (fun c9 hf => ?_) (fun c9 hf => ?_)
  · refine A_aload_n C dX5_readThinks_14 (i := 0) rfl 0 rfl 15 rfl ?_
    refine gfRX5_191 C k0 dX5_readThinks_15 18 rfl ?_
    refine A_namI hf (fun y1 hf => ?_)
    refine A_istore_n C dX5_readThinks_18 (i := 1) rfl [(1, .int y1), (0, .ref (K.2.1 x0))] (lt_nl hnl (by decide)) rfl 19 rfl ?_
    refine A_aload_n C dX5_readThinks_19 (i := 0) rfl 1 rfl 20 rfl ?_
    refine gfRX5_36 C k0 dX5_readThinks_20 hf 23 rfl (fun kp2 hf => ?_)
    refine gfRX5_67 C kp2 dX5_readThinks_23 26 rfl ?_
    refine A_iload_n C dX5_readThinks_26 (i := 1) rfl 0 rfl 27 rfl ?_
    refine A_iconst (v := 4) C dX5_readThinks_27 (by decide) 28 rfl ?_
    refine CVi C dX5_readThinks_28 7 (of_0_3 kp2) (by decide) (r := (RX7, TX7, 4)) rfl rfl hf (fun _ _ e => mX7_at (of_0_3 kp2) e) lkRX5_214 (by decide) (by decide) rfl [] rfl (Nat.le_of_ble_eq_true rfl) 31 rfl (fun r28 h28 hf => ?_)
    refine A_bipush (v := (-2)) C dX5_readThinks_31 (by decide) 33 rfl ?_
    refine A_icmp_eq C dX5_readThinks_33 42 (by decide) 36 rfl hf (fun c33 hf => ?_) (fun c33 hf => ?_)
    · refine A_aload_n C dX5_readThinks_42 (i := 0) rfl 1 rfl 43 rfl ?_
      refine CVv C dX5_readThinks_43 5 k0 (by decide) (r := (RX5, TX5, 13)) rfl rfl hf (fun _ e => mX5_next k0 e) lkRX5_54 (by decide) (by decide) rfl [] rfl (Nat.le_of_ble_eq_true rfl) 46 rfl (fun h43 hf => ?_)
      refine A_aload_n C dX5_readThinks_46 (i := 0) rfl 1 rfl 47 rfl ?_
      refine A_iconst (v := 0) C dX5_readThinks_47 (by decide) 48 rfl ?_
      refine A_iconst (v := 4) C dX5_readThinks_48 (by decide) 49 rfl ?_
      refine CVz C dX5_readThinks_49 5 k0 (by decide) (r := (RX5, TX5, 13)) rfl rfl hf (fun _ _ e => mX5_isWhole k0 e) lkRX5_187 (by decide) (by decide) rfl [] rfl (Nat.le_of_ble_eq_true rfl) 52 rfl (fun r49 h49 hf => ?_)
      refine A_z_ne C dX5_readThinks_52 57 (by decide) 55 rfl hf (fun c52 hf => ?_) (fun c52 hf => ?_)
      · refine A_aload_n C dX5_readThinks_57 (i := 0) rfl 1 rfl 58 rfl ?_
        refine gfRX5_36 C k0 dX5_readThinks_58 hf 61 rfl (fun kp3 hf => ?_)
        refine gfRX5_67 C kp3 dX5_readThinks_61 64 rfl ?_
        refine A_iload_n C dX5_readThinks_64 (i := 1) rfl 0 rfl 65 rfl ?_
        refine A_iconst (v := 4) C dX5_readThinks_65 (by decide) 66 rfl ?_
        refine A_aload_n C dX5_readThinks_66 (i := 0) rfl 1 rfl 67 rfl ?_
        refine gfRX5_191 C k0 dX5_readThinks_67 70 rfl ?_
        refine CVv C dX5_readThinks_70 7 (of_0_3 kp3) (by decide) (r := (RX7, TX7, 4)) rfl rfl hf (fun _ e => mX7_putAt (of_0_3 kp3) e) lkRX5_217 (by decide) (by decide) rfl [] rfl (Nat.le_of_ble_eq_true rfl) 73 rfl (fun h70 hf => ?_)
        refine A_aload_n C dX5_readThinks_73 (i := 0) rfl 1 rfl 74 rfl ?_
        refine CVv C dX5_readThinks_74 5 k0 (by decide) (r := (RX5, TX5, 13)) rfl rfl hf (fun _ e => mX5_next k0 e) lkRX5_54 (by decide) (by decide) rfl [] rfl (Nat.le_of_ble_eq_true rfl) 77 rfl (fun h74 hf => ?_)
        refine A_iconst (v := 1) C dX5_readThinks_77 (by decide) 78 rfl ?_
        exact A_zret (x := true) C dX5_readThinks_78 E hf
      refine A_iconst (v := 0) C dX5_readThinks_55 (by decide) 56 rfl ?_
      exact A_zret (x := false) C dX5_readThinks_56 E hf
    refine A_aload_n C dX5_readThinks_36 (i := 0) rfl 1 rfl 37 rfl ?_
    refine A_iconst (v := 3) C dX5_readThinks_37 (by decide) 38 rfl ?_
    refine CVz C dX5_readThinks_38 5 k0 (by decide) (r := (RX5, TX5, 13)) rfl rfl hf (fun _ _ e => mX5_fail k0 e) lkRX5_79 (by decide) (by decide) rfl [] rfl (Nat.le_of_ble_eq_true rfl) 41 rfl (fun r38 h38 hf => ?_)
    exact A_zret (x := r38) C dX5_readThinks_41 E hf
  refine A_iconst (v := 0) C dX5_readThinks_12 (by decide) 13 rfl ?_
  exact A_zret (x := false) C dX5_readThinks_13 E hf
set_option maxRecDepth 20000 in
theorem mX5_readFelt {K : KX} {x0 : Nat} (k0 : isK 5 x0) {h : HH} {rv : Bool} {hv : HH} (hf : fX5_readFelt x0 h = some (rv, hv)) : MR K yX5_readFelt cX5_readFelt 2 (some .boolean) 5 [.ref (K.2.1 x0)] h (some (.int (b2i rv))) hv := by
  refine MR_of (by decide) (Nat.le_of_ble_eq_true rfl) (fun G C E hnl => ?_)
  have C : Ok K G 5 cX5_readFelt RX5 := C
  refine (show At K G 0 [(0, .ref (K.2.1 x0))] [] h from ?_)
  unfold fX5_readFelt at hf
  refine A_aload_n C dX5_readFelt_0 (i := 0) rfl 0 rfl 1 rfl ?_
  refine gfRX5_36 C k0 dX5_readFelt_1 hf 4 rfl (fun kp1 hf => ?_)
  refine gfRX5_152 C kp1 dX5_readFelt_4 7 rfl ?_
  refine A_namR (of_0_7 kp1) hf (fun y2 kp3 hf => ?_)
  refine A_astore_n C dX5_readFelt_7 (i := 1) rfl [(1, .ref (K.2.1 y2)), (0, .ref (K.2.1 x0))] (lt_nl hnl (by decide)) rfl 8 rfl ?_
  refine A_aload_n C dX5_readFelt_8 (i := 1) rfl 0 rfl 9 rfl ?_
  refine A_iconst (v := 0) C dX5_readFelt_9 (by decide) 10 rfl ?_
  refine A_iconst (v := 0) C dX5_readFelt_10 (by decide) 11 rfl ?_
  refine CVv C dX5_readFelt_11 7 kp3 (by decide) (r := (RX7, TX7, 4)) rfl rfl hf (fun _ e => mX7_put kp3 e) lkRX5_224 (by decide) (by decide) rfl [] rfl (Nat.le_of_ble_eq_true rfl) 14 rfl (fun h11 hf => ?_)
  refine A_aload_n C dX5_readFelt_14 (i := 0) rfl 1 rfl 15 rfl ?_
  refine A_iconst (v := 1) C dX5_readFelt_15 (by decide) 16 rfl ?_
  refine A_bipush (v := 99) C dX5_readFelt_16 (by decide) 18 rfl ?_
  refine CVz C dX5_readFelt_18 5 k0 (by decide) (r := (RX5, TX5, 13)) rfl rfl hf (fun _ _ e => mX5_isWhole k0 e) lkRX5_187 (by decide) (by decide) rfl [] rfl (Nat.le_of_ble_eq_true rfl) 21 rfl (fun r18 h18 hf => ?_)
  refine A_z_eq C dX5_readFelt_21 57 (by decide) 24 rfl hf (fun c21 hf => ?_) (fun c21 hf => ?_)
  · refine A_iconst (v := 0) C dX5_readFelt_57 (by decide) 58 rfl ?_
    exact A_zret (x := false) C dX5_readFelt_58 E hf
  refine A_aload_n C dX5_readFelt_24 (i := 0) rfl 1 rfl 25 rfl ?_
  refine A_aload_n C dX5_readFelt_25 (i := 1) rfl 0 rfl 26 rfl ?_
  refine A_iconst (v := 1) C dX5_readFelt_26 (by decide) 27 rfl ?_
  refine CVz C dX5_readFelt_27 5 k0 (by decide) (r := (RX5, TX5, 13)) rfl rfl hf (fun _ _ e => mX5_take k0 kp3 e) lkRX5_233 (by decide) (by decide) rfl [] rfl (Nat.le_of_ble_eq_true rfl) 30 rfl (fun r27 h27 hf => ?_)
  refine A_z_eq C dX5_readFelt_30 57 (by decide) 33 rfl hf (fun c30 hf => ?_) (fun c30 hf => ?_)
  · refine A_iconst (v := 0) C dX5_readFelt_57 (by decide) 58 rfl ?_
    exact A_zret (x := false) C dX5_readFelt_58 E hf
  refine A_aload_n C dX5_readFelt_33 (i := 0) rfl 1 rfl 34 rfl ?_
  refine A_iconst (v := 1) C dX5_readFelt_34 (by decide) 35 rfl ?_
  refine A_sipush (v := 9999) C dX5_readFelt_35 (by decide) 38 rfl ?_
  refine CVz C dX5_readFelt_38 5 k0 (by decide) (r := (RX5, TX5, 13)) rfl rfl hf (fun _ _ e => mX5_isWhole k0 e) lkRX5_187 (by decide) (by decide) rfl [] rfl (Nat.le_of_ble_eq_true rfl) 41 rfl (fun r38 h38 hf => ?_)
  refine A_z_eq C dX5_readFelt_41 57 (by decide) 44 rfl hf (fun c41 hf => ?_) (fun c41 hf => ?_)
  · refine A_iconst (v := 0) C dX5_readFelt_57 (by decide) 58 rfl ?_
    exact A_zret (x := false) C dX5_readFelt_58 E hf
  refine A_aload_n C dX5_readFelt_44 (i := 0) rfl 1 rfl 45 rfl ?_
  refine A_aload_n C dX5_readFelt_45 (i := 1) rfl 0 rfl 46 rfl ?_
  refine A_iconst (v := 2) C dX5_readFelt_46 (by decide) 47 rfl ?_
  refine CVz C dX5_readFelt_47 5 k0 (by decide) (r := (RX5, TX5, 13)) rfl rfl hf (fun _ _ e => mX5_take k0 kp3 e) lkRX5_233 (by decide) (by decide) rfl [] rfl (Nat.le_of_ble_eq_true rfl) 50 rfl (fun r47 h47 hf => ?_)
  refine A_z_eq C dX5_readFelt_50 57 (by decide) 53 rfl hf (fun c50 hf => ?_) (fun c50 hf => ?_)
  · refine A_iconst (v := 0) C dX5_readFelt_57 (by decide) 58 rfl ?_
    exact A_zret (x := false) C dX5_readFelt_58 E hf
  refine A_iconst (v := 1) C dX5_readFelt_53 (by decide) 54 rfl ?_
  refine A_goto C dX5_readFelt_54 58 (by decide) ?_
  exact A_zret (x := true) C dX5_readFelt_58 E hf
set_option maxRecDepth 20000 in
theorem mX5_readCame {K : KX} {x0 : Nat} (k0 : isK 5 x0) {h : HH} {rv : Bool} {hv : HH} (hf : fX5_readCame x0 h = some (rv, hv)) : MR K yX5_readCame cX5_readCame 2 (some .boolean) 5 [.ref (K.2.1 x0)] h (some (.int (b2i rv))) hv := by
  refine MR_of (by decide) (Nat.le_of_ble_eq_true rfl) (fun G C E hnl => ?_)
  have C : Ok K G 5 cX5_readCame RX5 := C
  refine (show At K G 0 [(0, .ref (K.2.1 x0))] [] h from ?_)
  unfold fX5_readCame at hf
  refine A_aload_n C dX5_readCame_0 (i := 0) rfl 0 rfl 1 rfl ?_
  refine gfRX5_36 C k0 dX5_readCame_1 hf 4 rfl (fun kp1 hf => ?_)
  refine gfRX5_152 C kp1 dX5_readCame_4 7 rfl ?_
  refine A_namR (of_0_7 kp1) hf (fun y2 kp3 hf => ?_)
  refine A_astore_n C dX5_readCame_7 (i := 1) rfl [(1, .ref (K.2.1 y2)), (0, .ref (K.2.1 x0))] (lt_nl hnl (by decide)) rfl 8 rfl ?_
  refine A_aload_n C dX5_readCame_8 (i := 1) rfl 0 rfl 9 rfl ?_
  refine A_iconst (v := 0) C dX5_readCame_9 (by decide) 10 rfl ?_
  refine A_iconst (v := 1) C dX5_readCame_10 (by decide) 11 rfl ?_
  refine CVv C dX5_readCame_11 7 kp3 (by decide) (r := (RX7, TX7, 4)) rfl rfl hf (fun _ e => mX7_put kp3 e) lkRX5_224 (by decide) (by decide) rfl [] rfl (Nat.le_of_ble_eq_true rfl) 14 rfl (fun h11 hf => ?_)
  refine A_aload_n C dX5_readCame_14 (i := 0) rfl 1 rfl 15 rfl ?_
  refine A_iconst (v := 1) C dX5_readCame_15 (by decide) 16 rfl ?_
  refine A_sipush (v := 9999) C dX5_readCame_16 (by decide) 19 rfl ?_
  refine CVz C dX5_readCame_19 5 k0 (by decide) (r := (RX5, TX5, 13)) rfl rfl hf (fun _ _ e => mX5_isWhole k0 e) lkRX5_187 (by decide) (by decide) rfl [] rfl (Nat.le_of_ble_eq_true rfl) 22 rfl (fun r19 h19 hf => ?_)
  refine A_z_eq C dX5_readCame_22 58 (by decide) 25 rfl hf (fun c22 hf => ?_) (fun c22 hf => ?_)
  · refine A_iconst (v := 0) C dX5_readCame_58 (by decide) 59 rfl ?_
    exact A_zret (x := false) C dX5_readCame_59 E hf
  refine A_aload_n C dX5_readCame_25 (i := 0) rfl 1 rfl 26 rfl ?_
  refine A_aload_n C dX5_readCame_26 (i := 1) rfl 0 rfl 27 rfl ?_
  refine A_iconst (v := 1) C dX5_readCame_27 (by decide) 28 rfl ?_
  refine CVz C dX5_readCame_28 5 k0 (by decide) (r := (RX5, TX5, 13)) rfl rfl hf (fun _ _ e => mX5_take k0 kp3 e) lkRX5_233 (by decide) (by decide) rfl [] rfl (Nat.le_of_ble_eq_true rfl) 31 rfl (fun r28 h28 hf => ?_)
  refine A_z_eq C dX5_readCame_31 58 (by decide) 34 rfl hf (fun c31 hf => ?_) (fun c31 hf => ?_)
  · refine A_iconst (v := 0) C dX5_readCame_58 (by decide) 59 rfl ?_
    exact A_zret (x := false) C dX5_readCame_59 E hf
  refine A_aload_n C dX5_readCame_34 (i := 0) rfl 1 rfl 35 rfl ?_
  refine A_iconst (v := 0) C dX5_readCame_35 (by decide) 36 rfl ?_
  refine A_sipush (v := 9999) C dX5_readCame_36 (by decide) 39 rfl ?_
  refine CVz C dX5_readCame_39 5 k0 (by decide) (r := (RX5, TX5, 13)) rfl rfl hf (fun _ _ e => mX5_isWhole k0 e) lkRX5_187 (by decide) (by decide) rfl [] rfl (Nat.le_of_ble_eq_true rfl) 42 rfl (fun r39 h39 hf => ?_)
  refine A_z_eq C dX5_readCame_42 58 (by decide) 45 rfl hf (fun c42 hf => ?_) (fun c42 hf => ?_)
  · refine A_iconst (v := 0) C dX5_readCame_58 (by decide) 59 rfl ?_
    exact A_zret (x := false) C dX5_readCame_59 E hf
  refine A_aload_n C dX5_readCame_45 (i := 0) rfl 1 rfl 46 rfl ?_
  refine A_aload_n C dX5_readCame_46 (i := 1) rfl 0 rfl 47 rfl ?_
  refine A_iconst (v := 2) C dX5_readCame_47 (by decide) 48 rfl ?_
  refine CVz C dX5_readCame_48 5 k0 (by decide) (r := (RX5, TX5, 13)) rfl rfl hf (fun _ _ e => mX5_take k0 kp3 e) lkRX5_233 (by decide) (by decide) rfl [] rfl (Nat.le_of_ble_eq_true rfl) 51 rfl (fun r48 h48 hf => ?_)
  refine A_z_eq C dX5_readCame_51 58 (by decide) 54 rfl hf (fun c51 hf => ?_) (fun c51 hf => ?_)
  · refine A_iconst (v := 0) C dX5_readCame_58 (by decide) 59 rfl ?_
    exact A_zret (x := false) C dX5_readCame_59 E hf
  refine A_iconst (v := 1) C dX5_readCame_54 (by decide) 55 rfl ?_
  refine A_goto C dX5_readCame_55 59 (by decide) ?_
  exact A_zret (x := true) C dX5_readCame_59 E hf
set_option maxRecDepth 20000 in
theorem mX5_readDid {K : KX} {x0 : Nat} (k0 : isK 5 x0) {h : HH} {rv : Bool} {hv : HH} (hf : fX5_readDid x0 h = some (rv, hv)) : MR K yX5_readDid cX5_readDid 2 (some .boolean) 8 [.ref (K.2.1 x0)] h (some (.int (b2i rv))) hv := by
  refine MR_of (by decide) (Nat.le_of_ble_eq_true rfl) (fun G C E hnl => ?_)
  have C : Ok K G 8 cX5_readDid RX5 := C
  refine (show At K G 0 [(0, .ref (K.2.1 x0))] [] h from ?_)
  unfold fX5_readDid at hf
  refine A_aload_n C dX5_readDid_0 (i := 0) rfl 0 rfl 1 rfl ?_
  refine gfRX5_36 C k0 dX5_readDid_1 hf 4 rfl (fun kp1 hf => ?_)
  refine gfRX5_163 C kp1 dX5_readDid_4 7 rfl ?_
  refine A_namR (of_0_8 kp1) hf (fun y2 kp3 hf => ?_)
  refine A_astore_n C dX5_readDid_7 (i := 1) rfl [(1, .ref (K.2.1 y2)), (0, .ref (K.2.1 x0))] (lt_nl hnl (by decide)) rfl 8 rfl ?_
  refine A_aload_n C dX5_readDid_8 (i := 0) rfl 1 rfl 9 rfl ?_
  refine A_iconst (v := 1) C dX5_readDid_9 (by decide) 10 rfl ?_
  refine A_sipush (v := 9999) C dX5_readDid_10 (by decide) 13 rfl ?_
  refine CVz C dX5_readDid_13 5 k0 (by decide) (r := (RX5, TX5, 13)) rfl rfl hf (fun _ _ e => mX5_isWhole k0 e) lkRX5_187 (by decide) (by decide) rfl [] rfl (Nat.le_of_ble_eq_true rfl) 16 rfl (fun r13 h13 hf => ?_)
  refine A_z_eq C dX5_readDid_16 95 (by decide) 19 rfl hf (fun c16 hf => ?_) (fun c16 hf => ?_)
  · refine A_iconst (v := 0) C dX5_readDid_95 (by decide) 96 rfl ?_
    exact A_zret (x := false) C dX5_readDid_96 E hf
  refine A_aload_n C dX5_readDid_19 (i := 0) rfl 1 rfl 20 rfl ?_
  refine A_aload_n C dX5_readDid_20 (i := 1) rfl 0 rfl 21 rfl ?_
  refine A_iconst (v := 0) C dX5_readDid_21 (by decide) 22 rfl ?_
  refine CVz C dX5_readDid_22 5 k0 (by decide) (r := (RX5, TX5, 13)) rfl rfl hf (fun _ _ e => mX5_take k0 kp3 e) lkRX5_233 (by decide) (by decide) rfl [] rfl (Nat.le_of_ble_eq_true rfl) 25 rfl (fun r22 h22 hf => ?_)
  refine A_z_eq C dX5_readDid_25 95 (by decide) 28 rfl hf (fun c25 hf => ?_) (fun c25 hf => ?_)
  · refine A_iconst (v := 0) C dX5_readDid_95 (by decide) 96 rfl ?_
    exact A_zret (x := false) C dX5_readDid_96 E hf
  refine A_aload_n C dX5_readDid_28 (i := 0) rfl 1 rfl 29 rfl ?_
  refine A_str C dX5_readDid_29 (i := 23) (by decide) rfl 31 rfl ?_
  refine CVz C dX5_readDid_31 5 k0 (by decide) (r := (RX5, TX5, 13)) rfl rfl hf (fun _ _ e => mX5_word k0 (by decide) e) lkRX5_179 (by decide) (by decide) rfl [] rfl (Nat.le_of_ble_eq_true rfl) 34 rfl (fun r31 h31 hf => ?_)
  refine A_z_eq C dX5_readDid_34 95 (by decide) 37 rfl hf (fun c34 hf => ?_) (fun c34 hf => ?_)
  · refine A_iconst (v := 0) C dX5_readDid_95 (by decide) 96 rfl ?_
    exact A_zret (x := false) C dX5_readDid_96 E hf
  refine A_aload_n C dX5_readDid_37 (i := 0) rfl 1 rfl 38 rfl ?_
  refine A_iconst (v := 1) C dX5_readDid_38 (by decide) 39 rfl ?_
  refine A_aload_n C dX5_readDid_39 (i := 0) rfl 1 rfl 40 rfl ?_
  refine gfRX5_36 C k0 dX5_readDid_40 hf 43 rfl (fun kp4 hf => ?_)
  refine gfRX5_91 C kp4 dX5_readDid_43 46 rfl ?_
  refine CVz C dX5_readDid_46 5 k0 (by decide) (r := (RX5, TX5, 13)) rfl rfl hf (fun _ _ e => mX5_isWhole k0 e) lkRX5_187 (by decide) (by decide) rfl [] rfl (Nat.le_of_ble_eq_true rfl) 49 rfl (fun r46 h46 hf => ?_)
  refine A_z_eq C dX5_readDid_49 95 (by decide) 52 rfl hf (fun c49 hf => ?_) (fun c49 hf => ?_)
  · refine A_iconst (v := 0) C dX5_readDid_95 (by decide) 96 rfl ?_
    exact A_zret (x := false) C dX5_readDid_96 E hf
  refine A_aload_n C dX5_readDid_52 (i := 0) rfl 1 rfl 53 rfl ?_
  refine A_aload_n C dX5_readDid_53 (i := 1) rfl 0 rfl 54 rfl ?_
  refine A_iconst (v := 1) C dX5_readDid_54 (by decide) 55 rfl ?_
  refine CVz C dX5_readDid_55 5 k0 (by decide) (r := (RX5, TX5, 13)) rfl rfl hf (fun _ _ e => mX5_take k0 kp3 e) lkRX5_233 (by decide) (by decide) rfl [] rfl (Nat.le_of_ble_eq_true rfl) 58 rfl (fun r55 h55 hf => ?_)
  refine A_z_eq C dX5_readDid_58 95 (by decide) 61 rfl hf (fun c58 hf => ?_) (fun c58 hf => ?_)
  · refine A_iconst (v := 0) C dX5_readDid_95 (by decide) 96 rfl ?_
    exact A_zret (x := false) C dX5_readDid_96 E hf
  refine A_aload_n C dX5_readDid_61 (i := 0) rfl 1 rfl 62 rfl ?_
  refine A_strw C dX5_readDid_62 (i := 28) (by decide) rfl 65 rfl ?_
  refine CVz C dX5_readDid_65 5 k0 (by decide) (r := (RX5, TX5, 13)) rfl rfl hf (fun _ _ e => mX5_word k0 (by decide) e) lkRX5_179 (by decide) (by decide) rfl [] rfl (Nat.le_of_ble_eq_true rfl) 68 rfl (fun r65 h65 hf => ?_)
  refine A_z_eq C dX5_readDid_68 95 (by decide) 71 rfl hf (fun c68 hf => ?_) (fun c68 hf => ?_)
  · refine A_iconst (v := 0) C dX5_readDid_95 (by decide) 96 rfl ?_
    exact A_zret (x := false) C dX5_readDid_96 E hf
  refine A_aload_n C dX5_readDid_71 (i := 0) rfl 1 rfl 72 rfl ?_
  refine A_iconst (v := 1) C dX5_readDid_72 (by decide) 73 rfl ?_
  refine A_sipush (v := 999) C dX5_readDid_73 (by decide) 76 rfl ?_
  refine CVz C dX5_readDid_76 5 k0 (by decide) (r := (RX5, TX5, 13)) rfl rfl hf (fun _ _ e => mX5_isWhole k0 e) lkRX5_187 (by decide) (by decide) rfl [] rfl (Nat.le_of_ble_eq_true rfl) 79 rfl (fun r76 h76 hf => ?_)
  refine A_z_eq C dX5_readDid_79 95 (by decide) 82 rfl hf (fun c79 hf => ?_) (fun c79 hf => ?_)
  · refine A_iconst (v := 0) C dX5_readDid_95 (by decide) 96 rfl ?_
    exact A_zret (x := false) C dX5_readDid_96 E hf
  refine A_aload_n C dX5_readDid_82 (i := 0) rfl 1 rfl 83 rfl ?_
  refine A_aload_n C dX5_readDid_83 (i := 1) rfl 0 rfl 84 rfl ?_
  refine A_iconst (v := 2) C dX5_readDid_84 (by decide) 85 rfl ?_
  refine CVz C dX5_readDid_85 5 k0 (by decide) (r := (RX5, TX5, 13)) rfl rfl hf (fun _ _ e => mX5_take k0 kp3 e) lkRX5_233 (by decide) (by decide) rfl [] rfl (Nat.le_of_ble_eq_true rfl) 88 rfl (fun r85 h85 hf => ?_)
  refine A_z_eq C dX5_readDid_88 95 (by decide) 91 rfl hf (fun c88 hf => ?_) (fun c88 hf => ?_)
  · refine A_iconst (v := 0) C dX5_readDid_95 (by decide) 96 rfl ?_
    exact A_zret (x := false) C dX5_readDid_96 E hf
  refine A_iconst (v := 1) C dX5_readDid_91 (by decide) 92 rfl ?_
  refine A_goto C dX5_readDid_92 96 (by decide) ?_
  exact A_zret (x := true) C dX5_readDid_96 E hf
set_option maxRecDepth 20000 in
theorem mX5_readLine {K : KX} {x0 : Nat} (k0 : isK 5 x0) {h : HH} {rv : Bool} {hv : HH} (hf : fX5_readLine x0 h = some (rv, hv)) : MR K yX5_readLine cX5_readLine 1 (some .boolean) 10 [.ref (K.2.1 x0)] h (some (.int (b2i rv))) hv := by
  refine MR_of (by decide) (Nat.le_of_ble_eq_true rfl) (fun G C E hnl => ?_)
  have C : Ok K G 10 cX5_readLine RX5 := C
  refine (show At K G 0 [(0, .ref (K.2.1 x0))] [] h from ?_)
  unfold fX5_readLine at hf
  refine A_aload_n C dX5_readLine_0 (i := 0) rfl 0 rfl 1 rfl ?_
  refine CVz C dX5_readLine_1 5 k0 (by decide) (r := (RX5, TX5, 13)) rfl rfl hf (fun _ _ e => mX5_isLineWord k0 e) lkRX5_76 (by decide) (by decide) rfl [] rfl (Nat.le_of_ble_eq_true rfl) 4 rfl (fun r1 h1 hf => ?_)
  refine A_z_ne C dX5_readLine_4 13 (by decide) 7 rfl hf (fun c4 hf => ?_) (fun c4 hf => ?_)
  · refine A_aload_n C dX5_readLine_13 (i := 0) rfl 0 rfl 14 rfl ?_
    refine A_str C dX5_readLine_14 (i := 0) (by decide) rfl 16 rfl ?_
    refine CVz C dX5_readLine_16 5 k0 (by decide) (r := (RX5, TX5, 13)) rfl rfl hf (fun _ _ e => mX5_spells k0 (by decide) e) lkRX5_84 (by decide) (by decide) rfl [] rfl (Nat.le_of_ble_eq_true rfl) 19 rfl (fun r16 h16 hf => ?_)
    refine A_z_eq C dX5_readLine_19 27 (by decide) 22 rfl hf (fun c19 hf => ?_) (fun c19 hf => ?_)
    · refine A_aload_n C dX5_readLine_27 (i := 0) rfl 0 rfl 28 rfl ?_
      refine gfRX5_36 C k0 dX5_readLine_28 hf 31 rfl (fun kp1 hf => ?_)
      refine gfRX5_91 C kp1 dX5_readLine_31 34 rfl ?_
      refine A_if_ne C dX5_readLine_34 44 (by decide) 37 rfl hf (fun c34 hf => ?_) (fun c34 hf => ?_)
      · refine A_aload_n C dX5_readLine_44 (i := 0) rfl 0 rfl 45 rfl ?_
        refine A_str C dX5_readLine_45 (i := 1) (by decide) rfl 47 rfl ?_
        refine CVz C dX5_readLine_47 5 k0 (by decide) (r := (RX5, TX5, 13)) rfl rfl hf (fun _ _ e => mX5_spells k0 (by decide) e) lkRX5_84 (by decide) (by decide) rfl [] rfl (Nat.le_of_ble_eq_true rfl) 50 rfl (fun r47 h47 hf => ?_)
        refine A_z_eq C dX5_readLine_50 58 (by decide) 53 rfl hf (fun c50 hf => ?_) (fun c50 hf => ?_)
        · refine A_aload_n C dX5_readLine_58 (i := 0) rfl 0 rfl 59 rfl ?_
          refine A_str C dX5_readLine_59 (i := 2) (by decide) rfl 61 rfl ?_
          refine CVz C dX5_readLine_61 5 k0 (by decide) (r := (RX5, TX5, 13)) rfl rfl hf (fun _ _ e => mX5_spells k0 (by decide) e) lkRX5_84 (by decide) (by decide) rfl [] rfl (Nat.le_of_ble_eq_true rfl) 64 rfl (fun r61 h61 hf => ?_)
          refine A_z_eq C dX5_readLine_64 94 (by decide) 67 rfl hf (fun c64 hf => ?_) (fun c64 hf => ?_)
          · refine A_aload_n C dX5_readLine_94 (i := 0) rfl 0 rfl 95 rfl ?_
            refine A_str C dX5_readLine_95 (i := 3) (by decide) rfl 97 rfl ?_
            refine CVz C dX5_readLine_97 5 k0 (by decide) (r := (RX5, TX5, 13)) rfl rfl hf (fun _ _ e => mX5_spells k0 (by decide) e) lkRX5_84 (by decide) (by decide) rfl [] rfl (Nat.le_of_ble_eq_true rfl) 100 rfl (fun r97 h97 hf => ?_)
            refine A_z_eq C dX5_readLine_100 137 (by decide) 103 rfl hf (fun c100 hf => ?_) (fun c100 hf => ?_)
            · refine A_aload_n C dX5_readLine_137 (i := 0) rfl 0 rfl 138 rfl ?_
              refine A_str C dX5_readLine_138 (i := 4) (by decide) rfl 140 rfl ?_
              refine CVz C dX5_readLine_140 5 k0 (by decide) (r := (RX5, TX5, 13)) rfl rfl hf (fun _ _ e => mX5_spells k0 (by decide) e) lkRX5_84 (by decide) (by decide) rfl [] rfl (Nat.le_of_ble_eq_true rfl) 143 rfl (fun r140 h140 hf => ?_)
              refine A_z_eq C dX5_readLine_143 180 (by decide) 146 rfl hf (fun c143 hf => ?_) (fun c143 hf => ?_)
              · refine A_aload_n C dX5_readLine_180 (i := 0) rfl 0 rfl 181 rfl ?_
                refine A_str C dX5_readLine_181 (i := 5) (by decide) rfl 183 rfl ?_
                refine CVz C dX5_readLine_183 5 k0 (by decide) (r := (RX5, TX5, 13)) rfl rfl hf (fun _ _ e => mX5_spells k0 (by decide) e) lkRX5_84 (by decide) (by decide) rfl [] rfl (Nat.le_of_ble_eq_true rfl) 186 rfl (fun r183 h183 hf => ?_)
                refine A_z_eq C dX5_readLine_186 216 (by decide) 189 rfl hf (fun c186 hf => ?_) (fun c186 hf => ?_)
                · refine A_aload_n C dX5_readLine_216 (i := 0) rfl 0 rfl 217 rfl ?_
                  refine A_str C dX5_readLine_217 (i := 6) (by decide) rfl 219 rfl ?_
                  refine CVz C dX5_readLine_219 5 k0 (by decide) (r := (RX5, TX5, 13)) rfl rfl hf (fun _ _ e => mX5_spells k0 (by decide) e) lkRX5_84 (by decide) (by decide) rfl [] rfl (Nat.le_of_ble_eq_true rfl) 222 rfl (fun r219 h219 hf => ?_)
                  refine A_z_eq C dX5_readLine_222 252 (by decide) 225 rfl hf (fun c222 hf => ?_) (fun c222 hf => ?_)
                  · refine A_aload_n C dX5_readLine_252 (i := 0) rfl 0 rfl 253 rfl ?_
                    refine A_str C dX5_readLine_253 (i := 7) (by decide) rfl 255 rfl ?_
                    refine CVz C dX5_readLine_255 5 k0 (by decide) (r := (RX5, TX5, 13)) rfl rfl hf (fun _ _ e => mX5_spells k0 (by decide) e) lkRX5_84 (by decide) (by decide) rfl [] rfl (Nat.le_of_ble_eq_true rfl) 258 rfl (fun r255 h255 hf => ?_)
                    refine A_z_eq C dX5_readLine_258 266 (by decide) 261 rfl hf (fun c258 hf => ?_) (fun c258 hf => ?_)
                    · refine A_aload_n C dX5_readLine_266 (i := 0) rfl 0 rfl 267 rfl ?_
                      refine A_str C dX5_readLine_267 (i := 8) (by decide) rfl 269 rfl ?_
                      refine CVz C dX5_readLine_269 5 k0 (by decide) (r := (RX5, TX5, 13)) rfl rfl hf (fun _ _ e => mX5_spells k0 (by decide) e) lkRX5_84 (by decide) (by decide) rfl [] rfl (Nat.le_of_ble_eq_true rfl) 272 rfl (fun r269 h269 hf => ?_)
                      refine A_z_eq C dX5_readLine_272 280 (by decide) 275 rfl hf (fun c272 hf => ?_) (fun c272 hf => ?_)
                      · refine A_aload_n C dX5_readLine_280 (i := 0) rfl 0 rfl 281 rfl ?_
                        refine A_str C dX5_readLine_281 (i := 9) (by decide) rfl 283 rfl ?_
                        refine CVz C dX5_readLine_283 5 k0 (by decide) (r := (RX5, TX5, 13)) rfl rfl hf (fun _ _ e => mX5_spells k0 (by decide) e) lkRX5_84 (by decide) (by decide) rfl [] rfl (Nat.le_of_ble_eq_true rfl) 286 rfl (fun r283 h283 hf => ?_)
                        refine A_z_eq C dX5_readLine_286 316 (by decide) 289 rfl hf (fun c286 hf => ?_) (fun c286 hf => ?_)
                        · refine A_aload_n C dX5_readLine_316 (i := 0) rfl 0 rfl 317 rfl ?_
                          refine A_str C dX5_readLine_317 (i := 10) (by decide) rfl 319 rfl ?_
                          refine CVz C dX5_readLine_319 5 k0 (by decide) (r := (RX5, TX5, 13)) rfl rfl hf (fun _ _ e => mX5_spells k0 (by decide) e) lkRX5_84 (by decide) (by decide) rfl [] rfl (Nat.le_of_ble_eq_true rfl) 322 rfl (fun r319 h319 hf => ?_)
                          refine A_z_eq C dX5_readLine_322 352 (by decide) 325 rfl hf (fun c322 hf => ?_) (fun c322 hf => ?_)
                          · refine A_aload_n C dX5_readLine_352 (i := 0) rfl 0 rfl 353 rfl ?_
                            refine A_aload_n C dX5_readLine_353 (i := 0) rfl 0 rfl 354 rfl ?_
                            refine gfRX5_36 C k0 dX5_readLine_354 hf 357 rfl (fun kp2 hf => ?_)
                            refine gfRX5_163 C kp2 dX5_readLine_357 360 rfl ?_
                            refine CVz C dX5_readLine_360 5 k0 (by decide) (r := (RX5, TX5, 13)) rfl rfl hf (fun _ _ e => mX5_addRow k0 (of_0_8 kp2) e) lkRX5_101 (by decide) (by decide) rfl [] rfl (Nat.le_of_ble_eq_true rfl) 363 rfl (fun r360 h360 hf => ?_)
                            refine A_z_eq C dX5_readLine_363 377 (by decide) 366 rfl hf (fun c363 hf => ?_) (fun c363 hf => ?_)
                            · refine A_iconst (v := 0) C dX5_readLine_377 (by decide) 378 rfl ?_
                              exact A_zret (x := false) C dX5_readLine_378 E hf
                            refine A_aload_n C dX5_readLine_366 (i := 0) rfl 0 rfl 367 rfl ?_
                            refine CVz C dX5_readLine_367 5 k0 (by decide) (r := (RX5, TX5, 13)) rfl rfl hf (fun _ _ e => mX5_readDid k0 e) lkRX5_166 (by decide) (by decide) rfl [] rfl (Nat.le_of_ble_eq_true rfl) 370 rfl (fun r367 h367 hf => ?_)
                            refine A_z_eq C dX5_readLine_370 377 (by decide) 373 rfl hf (fun c370 hf => ?_) (fun c370 hf => ?_)
                            · refine A_iconst (v := 0) C dX5_readLine_377 (by decide) 378 rfl ?_
                              exact A_zret (x := false) C dX5_readLine_378 E hf
                            refine A_iconst (v := 1) C dX5_readLine_373 (by decide) 374 rfl ?_
                            refine A_goto C dX5_readLine_374 378 (by decide) ?_
                            exact A_zret (x := true) C dX5_readLine_378 E hf
                          refine A_aload_n C dX5_readLine_325 (i := 0) rfl 0 rfl 326 rfl ?_
                          refine A_aload_n C dX5_readLine_326 (i := 0) rfl 0 rfl 327 rfl ?_
                          refine gfRX5_36 C k0 dX5_readLine_327 hf 330 rfl (fun kp3 hf => ?_)
                          refine gfRX5_152 C kp3 dX5_readLine_330 333 rfl ?_
                          refine CVz C dX5_readLine_333 5 k0 (by decide) (r := (RX5, TX5, 13)) rfl rfl hf (fun _ _ e => mX5_addRow k0 (of_0_7 kp3) e) lkRX5_101 (by decide) (by decide) rfl [] rfl (Nat.le_of_ble_eq_true rfl) 336 rfl (fun r333 h333 hf => ?_)
                          refine A_z_eq C dX5_readLine_336 350 (by decide) 339 rfl hf (fun c336 hf => ?_) (fun c336 hf => ?_)
                          · refine A_iconst (v := 0) C dX5_readLine_350 (by decide) 351 rfl ?_
                            exact A_zret (x := false) C dX5_readLine_351 E hf
                          refine A_aload_n C dX5_readLine_339 (i := 0) rfl 0 rfl 340 rfl ?_
                          refine CVz C dX5_readLine_340 5 k0 (by decide) (r := (RX5, TX5, 13)) rfl rfl hf (fun _ _ e => mX5_readCame k0 e) lkRX5_160 (by decide) (by decide) rfl [] rfl (Nat.le_of_ble_eq_true rfl) 343 rfl (fun r340 h340 hf => ?_)
                          refine A_z_eq C dX5_readLine_343 350 (by decide) 346 rfl hf (fun c343 hf => ?_) (fun c343 hf => ?_)
                          · refine A_iconst (v := 0) C dX5_readLine_350 (by decide) 351 rfl ?_
                            exact A_zret (x := false) C dX5_readLine_351 E hf
                          refine A_iconst (v := 1) C dX5_readLine_346 (by decide) 347 rfl ?_
                          refine A_goto C dX5_readLine_347 351 (by decide) ?_
                          exact A_zret (x := true) C dX5_readLine_351 E hf
                        refine A_aload_n C dX5_readLine_289 (i := 0) rfl 0 rfl 290 rfl ?_
                        refine A_aload_n C dX5_readLine_290 (i := 0) rfl 0 rfl 291 rfl ?_
                        refine gfRX5_36 C k0 dX5_readLine_291 hf 294 rfl (fun kp4 hf => ?_)
                        refine gfRX5_152 C kp4 dX5_readLine_294 297 rfl ?_
                        refine CVz C dX5_readLine_297 5 k0 (by decide) (r := (RX5, TX5, 13)) rfl rfl hf (fun _ _ e => mX5_addRow k0 (of_0_7 kp4) e) lkRX5_101 (by decide) (by decide) rfl [] rfl (Nat.le_of_ble_eq_true rfl) 300 rfl (fun r297 h297 hf => ?_)
                        refine A_z_eq C dX5_readLine_300 314 (by decide) 303 rfl hf (fun c300 hf => ?_) (fun c300 hf => ?_)
                        · refine A_iconst (v := 0) C dX5_readLine_314 (by decide) 315 rfl ?_
                          exact A_zret (x := false) C dX5_readLine_315 E hf
                        refine A_aload_n C dX5_readLine_303 (i := 0) rfl 0 rfl 304 rfl ?_
                        refine CVz C dX5_readLine_304 5 k0 (by decide) (r := (RX5, TX5, 13)) rfl rfl hf (fun _ _ e => mX5_readFelt k0 e) lkRX5_155 (by decide) (by decide) rfl [] rfl (Nat.le_of_ble_eq_true rfl) 307 rfl (fun r304 h304 hf => ?_)
                        refine A_z_eq C dX5_readLine_307 314 (by decide) 310 rfl hf (fun c307 hf => ?_) (fun c307 hf => ?_)
                        · refine A_iconst (v := 0) C dX5_readLine_314 (by decide) 315 rfl ?_
                          exact A_zret (x := false) C dX5_readLine_315 E hf
                        refine A_iconst (v := 1) C dX5_readLine_310 (by decide) 311 rfl ?_
                        refine A_goto C dX5_readLine_311 315 (by decide) ?_
                        exact A_zret (x := true) C dX5_readLine_315 E hf
                      refine A_aload_n C dX5_readLine_275 (i := 0) rfl 0 rfl 276 rfl ?_
                      refine CVz C dX5_readLine_276 5 k0 (by decide) (r := (RX5, TX5, 13)) rfl rfl hf (fun _ _ e => mX5_readThinks k0 e) lkRX5_147 (by decide) (by decide) rfl [] rfl (Nat.le_of_ble_eq_true rfl) 279 rfl (fun r276 h276 hf => ?_)
                      exact A_zret (x := r276) C dX5_readLine_279 E hf
                    refine A_aload_n C dX5_readLine_261 (i := 0) rfl 0 rfl 262 rfl ?_
                    refine CVz C dX5_readLine_262 5 k0 (by decide) (r := (RX5, TX5, 13)) rfl rfl hf (fun _ _ e => mX5_readPays k0 e) lkRX5_142 (by decide) (by decide) rfl [] rfl (Nat.le_of_ble_eq_true rfl) 265 rfl (fun r262 h262 hf => ?_)
                    exact A_zret (x := r262) C dX5_readLine_265 E hf
                  refine A_aload_n C dX5_readLine_225 (i := 0) rfl 0 rfl 226 rfl ?_
                  refine A_aload_n C dX5_readLine_226 (i := 0) rfl 0 rfl 227 rfl ?_
                  refine gfRX5_36 C k0 dX5_readLine_227 hf 230 rfl (fun kp5 hf => ?_)
                  refine gfRX5_134 C kp5 dX5_readLine_230 233 rfl ?_
                  refine CVz C dX5_readLine_233 5 k0 (by decide) (r := (RX5, TX5, 13)) rfl rfl hf (fun _ _ e => mX5_addRow k0 (of_0_6 kp5) e) lkRX5_101 (by decide) (by decide) rfl [] rfl (Nat.le_of_ble_eq_true rfl) 236 rfl (fun r233 h233 hf => ?_)
                  refine A_z_eq C dX5_readLine_236 250 (by decide) 239 rfl hf (fun c236 hf => ?_) (fun c236 hf => ?_)
                  · refine A_iconst (v := 0) C dX5_readLine_250 (by decide) 251 rfl ?_
                    exact A_zret (x := false) C dX5_readLine_251 E hf
                  refine A_aload_n C dX5_readLine_239 (i := 0) rfl 0 rfl 240 rfl ?_
                  refine CVz C dX5_readLine_240 5 k0 (by decide) (r := (RX5, TX5, 13)) rfl rfl hf (fun _ _ e => mX5_readTask k0 e) lkRX5_137 (by decide) (by decide) rfl [] rfl (Nat.le_of_ble_eq_true rfl) 243 rfl (fun r240 h240 hf => ?_)
                  refine A_z_eq C dX5_readLine_243 250 (by decide) 246 rfl hf (fun c243 hf => ?_) (fun c243 hf => ?_)
                  · refine A_iconst (v := 0) C dX5_readLine_250 (by decide) 251 rfl ?_
                    exact A_zret (x := false) C dX5_readLine_251 E hf
                  refine A_iconst (v := 1) C dX5_readLine_246 (by decide) 247 rfl ?_
                  refine A_goto C dX5_readLine_247 251 (by decide) ?_
                  exact A_zret (x := true) C dX5_readLine_251 E hf
                refine A_aload_n C dX5_readLine_189 (i := 0) rfl 0 rfl 190 rfl ?_
                refine A_aload_n C dX5_readLine_190 (i := 0) rfl 0 rfl 191 rfl ?_
                refine gfRX5_36 C k0 dX5_readLine_191 hf 194 rfl (fun kp6 hf => ?_)
                refine gfRX5_126 C kp6 dX5_readLine_194 197 rfl ?_
                refine CVz C dX5_readLine_197 5 k0 (by decide) (r := (RX5, TX5, 13)) rfl rfl hf (fun _ _ e => mX5_addRow k0 (of_0_5 kp6) e) lkRX5_101 (by decide) (by decide) rfl [] rfl (Nat.le_of_ble_eq_true rfl) 200 rfl (fun r197 h197 hf => ?_)
                refine A_z_eq C dX5_readLine_200 214 (by decide) 203 rfl hf (fun c200 hf => ?_) (fun c200 hf => ?_)
                · refine A_iconst (v := 0) C dX5_readLine_214 (by decide) 215 rfl ?_
                  exact A_zret (x := false) C dX5_readLine_215 E hf
                refine A_aload_n C dX5_readLine_203 (i := 0) rfl 0 rfl 204 rfl ?_
                refine CVz C dX5_readLine_204 5 k0 (by decide) (r := (RX5, TX5, 13)) rfl rfl hf (fun _ _ e => mX5_readKnock k0 e) lkRX5_129 (by decide) (by decide) rfl [] rfl (Nat.le_of_ble_eq_true rfl) 207 rfl (fun r204 h204 hf => ?_)
                refine A_z_eq C dX5_readLine_207 214 (by decide) 210 rfl hf (fun c207 hf => ?_) (fun c207 hf => ?_)
                · refine A_iconst (v := 0) C dX5_readLine_214 (by decide) 215 rfl ?_
                  exact A_zret (x := false) C dX5_readLine_215 E hf
                refine A_iconst (v := 1) C dX5_readLine_210 (by decide) 211 rfl ?_
                refine A_goto C dX5_readLine_211 215 (by decide) ?_
                exact A_zret (x := true) C dX5_readLine_215 E hf
              refine A_aload_n C dX5_readLine_146 (i := 0) rfl 0 rfl 147 rfl ?_
              refine A_aload_n C dX5_readLine_147 (i := 0) rfl 0 rfl 148 rfl ?_
              refine gfRX5_36 C k0 dX5_readLine_148 hf 151 rfl (fun kp7 hf => ?_)
              refine gfRX5_110 C kp7 dX5_readLine_151 154 rfl ?_
              refine CVz C dX5_readLine_154 5 k0 (by decide) (r := (RX5, TX5, 13)) rfl rfl hf (fun _ _ e => mX5_addRow k0 (of_0_4 kp7) e) lkRX5_101 (by decide) (by decide) rfl [] rfl (Nat.le_of_ble_eq_true rfl) 157 rfl (fun r154 h154 hf => ?_)
              refine A_z_eq C dX5_readLine_157 178 (by decide) 160 rfl hf (fun c157 hf => ?_) (fun c157 hf => ?_)
              · refine A_iconst (v := 0) C dX5_readLine_178 (by decide) 179 rfl ?_
                exact A_zret (x := false) C dX5_readLine_179 E hf
              refine A_aload_n C dX5_readLine_160 (i := 0) rfl 0 rfl 161 rfl ?_
              refine CVz C dX5_readLine_161 5 k0 (by decide) (r := (RX5, TX5, 13)) rfl rfl hf (fun _ _ e => mX5_readUp k0 e) lkRX5_121 (by decide) (by decide) rfl [] rfl (Nat.le_of_ble_eq_true rfl) 164 rfl (fun r161 h161 hf => ?_)
              refine A_z_eq C dX5_readLine_164 178 (by decide) 167 rfl hf (fun c164 hf => ?_) (fun c164 hf => ?_)
              · refine A_iconst (v := 0) C dX5_readLine_178 (by decide) 179 rfl ?_
                exact A_zret (x := false) C dX5_readLine_179 E hf
              refine A_aload_n C dX5_readLine_167 (i := 0) rfl 0 rfl 168 rfl ?_
              refine CVz C dX5_readLine_168 5 k0 (by decide) (r := (RX5, TX5, 13)) rfl rfl hf (fun _ _ e => mX5_readAfter k0 e) lkRX5_116 (by decide) (by decide) rfl [] rfl (Nat.le_of_ble_eq_true rfl) 171 rfl (fun r168 h168 hf => ?_)
              refine A_z_eq C dX5_readLine_171 178 (by decide) 174 rfl hf (fun c171 hf => ?_) (fun c171 hf => ?_)
              · refine A_iconst (v := 0) C dX5_readLine_178 (by decide) 179 rfl ?_
                exact A_zret (x := false) C dX5_readLine_179 E hf
              refine A_iconst (v := 1) C dX5_readLine_174 (by decide) 175 rfl ?_
              refine A_goto C dX5_readLine_175 179 (by decide) ?_
              exact A_zret (x := true) C dX5_readLine_179 E hf
            refine A_aload_n C dX5_readLine_103 (i := 0) rfl 0 rfl 104 rfl ?_
            refine A_aload_n C dX5_readLine_104 (i := 0) rfl 0 rfl 105 rfl ?_
            refine gfRX5_36 C k0 dX5_readLine_105 hf 108 rfl (fun kp8 hf => ?_)
            refine gfRX5_110 C kp8 dX5_readLine_108 111 rfl ?_
            refine CVz C dX5_readLine_111 5 k0 (by decide) (r := (RX5, TX5, 13)) rfl rfl hf (fun _ _ e => mX5_addRow k0 (of_0_4 kp8) e) lkRX5_101 (by decide) (by decide) rfl [] rfl (Nat.le_of_ble_eq_true rfl) 114 rfl (fun r111 h111 hf => ?_)
            refine A_z_eq C dX5_readLine_114 135 (by decide) 117 rfl hf (fun c114 hf => ?_) (fun c114 hf => ?_)
            · refine A_iconst (v := 0) C dX5_readLine_135 (by decide) 136 rfl ?_
              exact A_zret (x := false) C dX5_readLine_136 E hf
            refine A_aload_n C dX5_readLine_117 (i := 0) rfl 0 rfl 118 rfl ?_
            refine CVz C dX5_readLine_118 5 k0 (by decide) (r := (RX5, TX5, 13)) rfl rfl hf (fun _ _ e => mX5_readDown k0 e) lkRX5_113 (by decide) (by decide) rfl [] rfl (Nat.le_of_ble_eq_true rfl) 121 rfl (fun r118 h118 hf => ?_)
            refine A_z_eq C dX5_readLine_121 135 (by decide) 124 rfl hf (fun c121 hf => ?_) (fun c121 hf => ?_)
            · refine A_iconst (v := 0) C dX5_readLine_135 (by decide) 136 rfl ?_
              exact A_zret (x := false) C dX5_readLine_136 E hf
            refine A_aload_n C dX5_readLine_124 (i := 0) rfl 0 rfl 125 rfl ?_
            refine CVz C dX5_readLine_125 5 k0 (by decide) (r := (RX5, TX5, 13)) rfl rfl hf (fun _ _ e => mX5_readAfter k0 e) lkRX5_116 (by decide) (by decide) rfl [] rfl (Nat.le_of_ble_eq_true rfl) 128 rfl (fun r125 h125 hf => ?_)
            refine A_z_eq C dX5_readLine_128 135 (by decide) 131 rfl hf (fun c128 hf => ?_) (fun c128 hf => ?_)
            · refine A_iconst (v := 0) C dX5_readLine_135 (by decide) 136 rfl ?_
              exact A_zret (x := false) C dX5_readLine_136 E hf
            refine A_iconst (v := 1) C dX5_readLine_131 (by decide) 132 rfl ?_
            refine A_goto C dX5_readLine_132 136 (by decide) ?_
            exact A_zret (x := true) C dX5_readLine_136 E hf
          refine A_aload_n C dX5_readLine_67 (i := 0) rfl 0 rfl 68 rfl ?_
          refine A_aload_n C dX5_readLine_68 (i := 0) rfl 0 rfl 69 rfl ?_
          refine gfRX5_36 C k0 dX5_readLine_69 hf 72 rfl (fun kp9 hf => ?_)
          refine gfRX5_67 C kp9 dX5_readLine_72 75 rfl ?_
          refine CVz C dX5_readLine_75 5 k0 (by decide) (r := (RX5, TX5, 13)) rfl rfl hf (fun _ _ e => mX5_addRow k0 (of_0_3 kp9) e) lkRX5_101 (by decide) (by decide) rfl [] rfl (Nat.le_of_ble_eq_true rfl) 78 rfl (fun r75 h75 hf => ?_)
          refine A_z_eq C dX5_readLine_78 92 (by decide) 81 rfl hf (fun c78 hf => ?_) (fun c78 hf => ?_)
          · refine A_iconst (v := 0) C dX5_readLine_92 (by decide) 93 rfl ?_
            exact A_zret (x := false) C dX5_readLine_93 E hf
          refine A_aload_n C dX5_readLine_81 (i := 0) rfl 0 rfl 82 rfl ?_
          refine CVz C dX5_readLine_82 5 k0 (by decide) (r := (RX5, TX5, 13)) rfl rfl hf (fun _ _ e => mX5_readSleeper k0 e) lkRX5_105 (by decide) (by decide) rfl [] rfl (Nat.le_of_ble_eq_true rfl) 85 rfl (fun r82 h82 hf => ?_)
          refine A_z_eq C dX5_readLine_85 92 (by decide) 88 rfl hf (fun c85 hf => ?_) (fun c85 hf => ?_)
          · refine A_iconst (v := 0) C dX5_readLine_92 (by decide) 93 rfl ?_
            exact A_zret (x := false) C dX5_readLine_93 E hf
          refine A_iconst (v := 1) C dX5_readLine_88 (by decide) 89 rfl ?_
          refine A_goto C dX5_readLine_89 93 (by decide) ?_
          exact A_zret (x := true) C dX5_readLine_93 E hf
        refine A_aload_n C dX5_readLine_53 (i := 0) rfl 0 rfl 54 rfl ?_
        refine CVz C dX5_readLine_54 5 k0 (by decide) (r := (RX5, TX5, 13)) rfl rfl hf (fun _ _ e => mX5_readHead k0 e) lkRX5_96 (by decide) (by decide) rfl [] rfl (Nat.le_of_ble_eq_true rfl) 57 rfl (fun r54 h54 hf => ?_)
        exact A_zret (x := r54) C dX5_readLine_57 E hf
      refine A_aload_n C dX5_readLine_37 (i := 0) rfl 0 rfl 38 rfl ?_
      refine A_bipush (v := 6) C dX5_readLine_38 (by decide) 40 rfl ?_
      refine CVz C dX5_readLine_40 5 k0 (by decide) (r := (RX5, TX5, 13)) rfl rfl hf (fun _ _ e => mX5_fail k0 e) lkRX5_79 (by decide) (by decide) rfl [] rfl (Nat.le_of_ble_eq_true rfl) 43 rfl (fun r40 h40 hf => ?_)
      exact A_zret (x := r40) C dX5_readLine_43 E hf
    refine A_aload_n C dX5_readLine_22 (i := 0) rfl 0 rfl 23 rfl ?_
    refine CVz C dX5_readLine_23 5 k0 (by decide) (r := (RX5, TX5, 13)) rfl rfl hf (fun _ _ e => mX5_readDream k0 e) lkRX5_88 (by decide) (by decide) rfl [] rfl (Nat.le_of_ble_eq_true rfl) 26 rfl (fun r23 h23 hf => ?_)
    exact A_zret (x := r23) C dX5_readLine_26 E hf
  refine A_aload_n C dX5_readLine_7 (i := 0) rfl 0 rfl 8 rfl ?_
  refine A_iconst (v := 1) C dX5_readLine_8 (by decide) 9 rfl ?_
  refine CVz C dX5_readLine_9 5 k0 (by decide) (r := (RX5, TX5, 13)) rfl rfl hf (fun _ _ e => mX5_fail k0 e) lkRX5_79 (by decide) (by decide) rfl [] rfl (Nat.le_of_ble_eq_true rfl) 12 rfl (fun r9 h9 hf => ?_)
  exact A_zret (x := r9) C dX5_readLine_12 E hf
set_option maxRecDepth 20000 in
theorem wX5_read_L49 {K : KX} {G : GX} (C : Ok K G 11 cX5_read RX5) (hnl : G.2.2.2.2.2.2.2.2.2.2.2.2.2 = 5) {rv : Int32} {hv : HH} (E : Endd K G (some .int) (some (.int rv)) hv) {x0 : Nat} {k49_73 : HH → Option (Int32 × HH)}  (Hk49_73 : ∀  (h : HH), k49_73  h = some (rv, hv) → At K G 73 [(0, .ref (K.2.1 x0))] [] h) (kx0 : isK 5 x0) : ∀ (self49 : Int32 → HH → Option (Int32 × HH)), (∀ (x4 : Int32) (h : HH), self49 x4 h = some (rv, hv) → At K G 49 [(0, .ref (K.2.1 x0)), (4, .int x4)] [] h) → ∀ (x4 : Int32) (h : HH), fX5_read_L49 k49_73 x0 self49 x4 h = some (rv, hv) → At K G 49 [(0, .ref (K.2.1 x0)), (4, .int x4)] [] h := by
  intro self49 Hself49 x4 h hf
  unfold fX5_read_L49 at hf
  refine A_iload C dX5_read_49 1 rfl 51 rfl ?_
  refine A_aload_n C dX5_read_51 (i := 0) rfl 0 rfl 52 rfl ?_
  refine gfRX5_32 C kx0 dX5_read_52 55 rfl ?_
  refine A_icmp_gt C dX5_read_55 123 (by decide) 58 rfl hf (fun c55 hf => ?_) (fun c55 hf => ?_)
  · refine A_aload_n C dX5_read_123 (i := 0) rfl 0 rfl 124 rfl ?_
    refine gfRX5_48 C kx0 dX5_read_124 127 rfl ?_
    exact A_iret C dX5_read_127 E hf
  refine A_aload_n C dX5_read_58 (i := 0) rfl 0 rfl 59 rfl ?_
  refine CVz C dX5_read_59 5 kx0 (by decide) (r := (RX5, TX5, 13)) rfl rfl hf (fun _ _ e => mX5_readLine kx0 e) lkRX5_57 (by decide) (by decide) rfl [] rfl (Nat.le_of_ble_eq_true rfl) 62 rfl (fun r59 h59 hf => ?_)
  refine A_z_eq C dX5_read_62 123 (by decide) 65 rfl hf (fun c62 hf => ?_) (fun c62 hf => ?_)
  · refine A_aload_n C dX5_read_123 (i := 0) rfl 0 rfl 124 rfl ?_
    refine gfRX5_48 C kx0 dX5_read_124 127 rfl ?_
    exact A_iret C dX5_read_127 E hf
  refine A_aload_n C dX5_read_65 (i := 0) rfl 0 rfl 66 rfl ?_
  refine gfRX5_61 C kx0 dX5_read_66 69 rfl ?_
  refine A_iconst (v := 5) C dX5_read_69 (by decide) 70 rfl ?_
  refine A_icmp_ne C dX5_read_70 103 (by decide) 73 rfl hf (fun c70 hf => ?_) (fun c70 hf => ?_)
  · refine A_aload_n C dX5_read_103 (i := 0) rfl 0 rfl 104 rfl ?_
    refine gfRX5_61 C kx0 dX5_read_104 107 rfl ?_
    refine A_iconst (v := 3) C dX5_read_107 (by decide) 108 rfl ?_
    refine A_icmp_eq C dX5_read_108 113 (by decide) 111 rfl hf (fun c108 hf => ?_) (fun c108 hf => ?_)
    · refine A_aload_n C dX5_read_113 (i := 0) rfl 0 rfl 114 rfl ?_
      refine CVv C dX5_read_114 5 kx0 (by decide) (r := (RX5, TX5, 13)) rfl rfl hf (fun _ e => mX5_next kx0 e) lkRX5_54 (by decide) (by decide) rfl [] rfl (Nat.le_of_ble_eq_true rfl) 117 rfl (fun h114 hf => ?_)
      refine A_iinc (v := (x4 + 1)) C dX5_read_117 1 rfl rfl [(4, .int (x4 + 1)), (0, .ref (K.2.1 x0))] (lt_nl hnl (by decide)) rfl 120 rfl ?_
      refine A_goto C dX5_read_120 49 (by decide) ?_
      refine A_sub [1, 0] (lv' := [(0, .ref (K.2.1 x0)), (4, .int (x4 + 1))]) rfl ?_
      exact Hself49 _ _ hf
    refine A_iconst (v := 1) C dX5_read_111 (by decide) 112 rfl ?_
    exact A_iret C dX5_read_112 E hf
  refine A_sub [0] (lv' := [(0, .ref (K.2.1 x0))]) rfl ?_
  exact Hk49_73 _ hf
set_option maxRecDepth 20000 in
theorem mX5_read {K : KX} {x0 : Nat} {x1 : Nat} {x2 : Int32} {x3 : Nat} (k0 : isK 5 x0) (k1 : isK 10 x1) (k3 : isK 0 x3) {h : HH} {rv : Int32} {hv : HH} (hf : fX5_read x0 x1 x2 x3 h = some (rv, hv)) : MR K yX5_read cX5_read 5 (some .int) 11 [.ref (K.2.1 x0), .ref (K.2.1 x1), .int x2, .ref (K.2.1 x3)] h (some (.int rv)) hv := by
  refine MR_of (by decide) (Nat.le_of_ble_eq_true rfl) (fun G C E hnl => ?_)
  have C : Ok K G 11 cX5_read RX5 := C
  refine (show At K G 0 [(0, .ref (K.2.1 x0)), (1, .ref (K.2.1 x1)), (2, .int x2), (3, .ref (K.2.1 x3))] [] h from ?_)
  unfold fX5_read at hf
  refine A_aload_n C dX5_read_0 (i := 0) rfl 0 rfl 1 rfl ?_
  refine A_aload_n C dX5_read_1 (i := 1) rfl 1 rfl 2 rfl ?_
  refine pfRX5_22 C k0 (isA_of k1).1 dX5_read_2 5 rfl ?_
  refine A_aload_n C dX5_read_5 (i := 0) rfl 0 rfl 6 rfl ?_
  refine A_iload_n C dX5_read_6 (i := 2) rfl 2 rfl 7 rfl ?_
  refine A_aload_n C dX5_read_7 (i := 1) rfl 1 rfl 8 rfl ?_
  refine A_alen (v := (Int32.ofNat (ln x1))) C dX5_read_8 (isA_of k1) (by decide) rfl 9 rfl ?_
  refine A_mmin C dX5_read_9 mlRX5_26 stmmin iniMath commin (by decide) (Nat.le_of_ble_eq_true rfl) 12 rfl ?_
  refine pfRX5_32 C k0 dX5_read_12 15 rfl ?_
  refine A_namH hf (fun g1 hf => ?_)
  refine A_aload_n C dX5_read_15 (i := 0) rfl 0 rfl 16 rfl ?_
  refine A_aload_n C dX5_read_16 (i := 3) rfl 3 rfl 17 rfl ?_
  refine pfRX5_36 C k0 k3.1 dX5_read_17 20 rfl ?_
  refine A_aload_n C dX5_read_20 (i := 0) rfl 0 rfl 21 rfl ?_
  refine gfRX5_36 C k0 dX5_read_21 hf 24 rfl (fun kp2 hf => ?_)
  refine CVv C dX5_read_24 0 kp2 (by decide) (r := (RX0, TX0, 14)) rfl rfl hf (fun _ e => mX0_clear kp2 e) lkRX5_40 (by decide) (by decide) rfl [] rfl (Nat.le_of_ble_eq_true rfl) 27 rfl (fun h24 hf => ?_)
  refine A_aload_n C dX5_read_27 (i := 0) rfl 0 rfl 28 rfl ?_
  refine A_iconst (v := 0) C dX5_read_28 (by decide) 29 rfl ?_
  refine pfRX5_45 C k0 dX5_read_29 32 rfl ?_
  refine A_aload_n C dX5_read_32 (i := 0) rfl 0 rfl 33 rfl ?_
  refine A_iconst (v := 0) C dX5_read_33 (by decide) 34 rfl ?_
  refine pfRX5_48 C k0 dX5_read_34 37 rfl ?_
  refine A_namH hf (fun g3 hf => ?_)
  refine A_aload_n C dX5_read_37 (i := 0) rfl 0 rfl 38 rfl ?_
  refine A_iconst (v := 0) C dX5_read_38 (by decide) 39 rfl ?_
  refine pfRX5_51 C k0 dX5_read_39 42 rfl ?_
  refine A_aload_n C dX5_read_42 (i := 0) rfl 0 rfl 43 rfl ?_
  refine CVv C dX5_read_43 5 k0 (by decide) (r := (RX5, TX5, 13)) rfl rfl hf (fun _ e => mX5_next k0 e) lkRX5_54 (by decide) (by decide) rfl [] rfl (Nat.le_of_ble_eq_true rfl) 46 rfl (fun h43 hf => ?_)
  refine A_iconst (v := 0) C dX5_read_46 (by decide) 47 rfl ?_
  refine A_istore C dX5_read_47 [(4, .int 0), (0, .ref (K.2.1 x0)), (1, .ref (K.2.1 x1)), (2, .int x2), (3, .ref (K.2.1 x3))] (lt_nl hnl (by decide)) rfl 49 rfl ?_
  refine A_sub [1, 0] (lv' := [(0, .ref (K.2.1 x0)), (4, .int 0)]) rfl ?_
  refine lq1_at (wX5_read_L49 C hnl E (fun  h hf => ?_) k0) FU _ _ hf
  refine A_aload_n C dX5_read_73 (i := 0) rfl 0 rfl 74 rfl ?_
  refine gfRX5_36 C k0 dX5_read_74 hf 77 rfl (fun kp4 hf => ?_)
  refine gfRX5_64 C kp4 dX5_read_77 80 rfl ?_
  refine A_if_eq C dX5_read_80 96 (by decide) 83 rfl hf (fun c80 hf => ?_) (fun c80 hf => ?_)
  · refine A_bipush (v := 6) C dX5_read_96 (by decide) 98 rfl ?_
    refine A_goto C dX5_read_98 102 (by decide) ?_
    exact A_iret C dX5_read_102 E hf
  refine A_aload_n C dX5_read_83 (i := 0) rfl 0 rfl 84 rfl ?_
  refine gfRX5_36 C k0 dX5_read_84 hf 87 rfl (fun kp5 hf => ?_)
  refine gfRX5_67 C kp5 dX5_read_87 90 rfl ?_
  refine gfRX5_71 C (of_0_3 kp5) dX5_read_90 93 rfl ?_
  refine A_if_ne C dX5_read_93 101 (by decide) 96 rfl hf (fun c93 hf => ?_) (fun c93 hf => ?_)
  · refine A_iconst (v := 0) C dX5_read_101 (by decide) 102 rfl ?_
    exact A_iret C dX5_read_102 E hf
  refine A_bipush (v := 6) C dX5_read_96 (by decide) 98 rfl ?_
  refine A_goto C dX5_read_98 102 (by decide) ?_
  exact A_iret C dX5_read_102 E hf
