theorem flcRX9_7 : Cond.fieldLink RX9 7 (TX9 1).1 (TX9 1).2.1 (TX9 1).2.2.1 ∈ TB := tb_1 1466 (by decide +kernel) (by decide +kernel)
theorem flcRX9_13 : Cond.fieldLink RX9 13 (TX9 10).1 (TX9 10).2.1 (TX9 10).2.2.1 ∈ TB := tb_1 1475 (by decide +kernel) (by decide +kernel)
theorem flcRX9_17 : Cond.fieldLink RX9 17 (TX9 12).1 (TX9 12).2.1 (TX9 12).2.2.1 ∈ TB := tb_1 1477 (by decide +kernel) (by decide +kernel)
theorem flcRX9_20 : Cond.fieldLink RX9 20 (TX9 15).1 (TX9 15).2.1 (TX9 15).2.2.1 ∈ TB := tb_1 1480 (by decide +kernel) (by decide +kernel)
theorem flcRX9_23 : Cond.fieldLink RX9 23 (TX9 16).1 (TX9 16).2.1 (TX9 16).2.2.1 ∈ TB := tb_1 1481 (by decide +kernel) (by decide +kernel)
theorem flcRX9_26 : Cond.fieldLink RX9 26 (TX9 17).1 (TX9 17).2.1 (TX9 17).2.2.1 ∈ TB := tb_1 1482 (by decide +kernel) (by decide +kernel)
theorem flcRX9_29 : Cond.fieldLink RX9 29 (TX9 18).1 (TX9 18).2.1 (TX9 18).2.2.1 ∈ TB := tb_1 1483 (by decide +kernel) (by decide +kernel)
theorem flcRX9_32 : Cond.fieldLink RX9 32 (TX9 19).1 (TX9 19).2.1 (TX9 19).2.2.1 ∈ TB := tb_1 1484 (by decide +kernel) (by decide +kernel)
theorem flcRX9_35 : Cond.fieldLink RX9 35 (TX9 20).1 (TX9 20).2.1 (TX9 20).2.2.1 ∈ TB := tb_1 1485 (by decide +kernel) (by decide +kernel)
theorem flcRX9_38 : Cond.fieldLink RX9 38 (TX9 21).1 (TX9 21).2.1 (TX9 21).2.2.1 ∈ TB := tb_1 1486 (by decide +kernel) (by decide +kernel)
theorem flcRX9_42 : Cond.fieldLink RX9 42 (TX9 22).1 (TX9 22).2.1 (TX9 22).2.2.1 ∈ TB := tb_1 1487 (by decide +kernel) (by decide +kernel)
theorem flcRX9_45 : Cond.fieldLink RX9 45 (TX9 23).1 (TX9 23).2.1 (TX9 23).2.2.1 ∈ TB := tb_1 1488 (by decide +kernel) (by decide +kernel)
theorem flcRX9_48 : Cond.fieldLink RX9 48 (TX9 24).1 (TX9 24).2.1 (TX9 24).2.2.1 ∈ TB := tb_1 1489 (by decide +kernel) (by decide +kernel)
theorem flcRX9_51 : Cond.fieldLink RX9 51 (TX9 27).1 (TX9 27).2.1 (TX9 27).2.2.1 ∈ TB := tb_1 1492 (by decide +kernel) (by decide +kernel)
theorem flcRX9_54 : Cond.fieldLink RX9 54 (TX9 28).1 (TX9 28).2.1 (TX9 28).2.2.1 ∈ TB := tb_1 1493 (by decide +kernel) (by decide +kernel)
theorem flcRX9_57 : Cond.fieldLink RX9 57 (TX9 33).1 (TX9 33).2.1 (TX9 33).2.2.1 ∈ TB := tb_1 1498 (by decide +kernel) (by decide +kernel)
theorem flcRX9_60 : Cond.fieldLink RX9 60 (TX9 34).1 (TX9 34).2.1 (TX9 34).2.2.1 ∈ TB := tb_1 1499 (by decide +kernel) (by decide +kernel)
theorem flcRX9_63 : Cond.fieldLink RX9 63 (TX9 35).1 (TX9 35).2.1 (TX9 35).2.2.1 ∈ TB := tb_1 1500 (by decide +kernel) (by decide +kernel)
theorem flcRX9_66 : Cond.fieldLink RX9 66 (TX9 42).1 (TX9 42).2.1 (TX9 42).2.2.1 ∈ TB := tb_1 1507 (by decide +kernel) (by decide +kernel)
theorem flcRX9_69 : Cond.fieldLink RX9 69 (TX9 43).1 (TX9 43).2.1 (TX9 43).2.2.1 ∈ TB := tb_1 1508 (by decide +kernel) (by decide +kernel)
set_option maxRecDepth 20000 in
theorem nX9_init {K : KX} (HK : KC K) {a : Nat} (k0 : isK 9 a) {mk : MK} {h : HH} (hm : mk a = 0) (hmz : mz mk (a + 1)) (hz : zr h (a + 1)) : MC K yX9_init cX9_init 1 1 19 11902 [.ref (K.2.1 a)] (a + 1) mk h (a + 20) (mset mk a 44) (sI h a 10 (-1)) := by
  refine MC_of HK (by decide) rfl (Nat.le_of_ble_eq_true rfl) (fun G C E I hnl => ?_)
  have C : OkC K G 1 19 11902 cX9_init RX9 := C
  refine (show AtC K G 0 0 (a + 1) mk h 0 [(0, .ref (K.2.1 a))] [] from ?_)
  refine C_aload_n C dX9_init_0 (i := 0) rfl 0 rfl 1 rfl ?_
  refine C_obj C dX9_init_1 loRX9_1 iobj coobj (by decide) (Nat.le_of_ble_eq_true rfl) 4 rfl ?_
  refine C_aload_n C dX9_init_4 (i := 0) rfl 0 rfl 5 rfl ?_
  refine C_sipush (v := 1000) C dX9_init_5 (by decide) 8 rfl ?_
  refine C_newaI (len := 1000) C dX9_init_8 (of_9_1 k0) ((zr.up hz (by omega)) _ (Nat.le_refl _)).1 (by decide) (by decide) (by decide) acint 1 1000 rfl rfl (by decide) (by decide) (a + 2) rfl 10 rfl ?_
  refine C_putFR (v := (a + 1)) C I dX9_init_10 9 1 (r := (RX9, TX9, 44)) (ty0 := tyX9) (ty := .array .int) k0 (by omega) (by decide) rfl inX9 tokX9 nmX9 (by decide) rfl rfl (by decide +kernel) rfl rfl (Nat.le_of_ble_eq_true rfl) (fc_9_1 (hm)) flcRX9_7 13 rfl ?_
  refine C_aload_n C dX9_init_13 (i := 0) rfl 0 rfl 14 rfl ?_
  refine C_iconst (v := (-1)) C dX9_init_14 (by decide) 15 rfl ?_
  refine C_putI (v := (-1)) C I dX9_init_15 9 10 (r := (RX9, TX9, 44)) (ty0 := tyX9) (ty := .int) k0 (by omega) (by decide) rfl inX9 tokX9 nmX9 (by decide) rfl rfl (by decide +kernel) rfl rfl (Nat.le_of_ble_eq_true rfl) fi_9_10 flcRX9_13 18 rfl ?_
  refine C_aload_n C dX9_init_18 (i := 0) rfl 0 rfl 19 rfl ?_
  refine C_bipush (v := 8) C dX9_init_19 (by decide) 21 rfl ?_
  refine C_newaI (len := 8) C dX9_init_21 (of_9_12 k0) ((zr.up (zr_sI hz (by omega)) (by omega)) _ (Nat.le_refl _)).1 (by decide) (by decide) (by decide) acint 2 1008 rfl rfl (by decide) (by decide) (a + 3) rfl 23 rfl ?_
  refine C_putFR (v := (a + 2)) C I dX9_init_23 9 12 (r := (RX9, TX9, 44)) (ty0 := tyX9) (ty := .array .int) k0 (by omega) (by decide) rfl inX9 tokX9 nmX9 (by decide) rfl rfl (by decide +kernel) rfl rfl (Nat.le_of_ble_eq_true rfl) (fc_9_12 (mset_s)) flcRX9_17 26 rfl ?_
  rw [mset_2]
  refine C_aload_n C dX9_init_26 (i := 0) rfl 0 rfl 27 rfl ?_
  refine C_sipush (v := 316) C dX9_init_27 (by decide) 30 rfl ?_
  refine C_newaI (len := 316) C dX9_init_30 (of_9_15 k0) ((zr.up (zr_sI hz (by omega)) (by omega)) _ (Nat.le_refl _)).1 (by decide) (by decide) (by decide) acint 3 1324 rfl rfl (by decide) (by decide) (a + 4) rfl 32 rfl ?_
  refine C_putFR (v := (a + 3)) C I dX9_init_32 9 15 (r := (RX9, TX9, 44)) (ty0 := tyX9) (ty := .array .int) k0 (by omega) (by decide) rfl inX9 tokX9 nmX9 (by decide) rfl rfl (by decide +kernel) rfl rfl (Nat.le_of_ble_eq_true rfl) (fc_9_15 (mset_s)) flcRX9_20 35 rfl ?_
  rw [mset_2]
  refine C_aload_n C dX9_init_35 (i := 0) rfl 0 rfl 36 rfl ?_
  refine C_sipush (v := 316) C dX9_init_36 (by decide) 39 rfl ?_
  refine C_newaI (len := 316) C dX9_init_39 (of_9_16 k0) ((zr.up (zr_sI hz (by omega)) (by omega)) _ (Nat.le_refl _)).1 (by decide) (by decide) (by decide) acint 4 1640 rfl rfl (by decide) (by decide) (a + 5) rfl 41 rfl ?_
  refine C_putFR (v := (a + 4)) C I dX9_init_41 9 16 (r := (RX9, TX9, 44)) (ty0 := tyX9) (ty := .array .int) k0 (by omega) (by decide) rfl inX9 tokX9 nmX9 (by decide) rfl rfl (by decide +kernel) rfl rfl (Nat.le_of_ble_eq_true rfl) (fc_9_16 (mset_s)) flcRX9_23 44 rfl ?_
  rw [mset_2]
  refine C_aload_n C dX9_init_44 (i := 0) rfl 0 rfl 45 rfl ?_
  refine C_bipush (v := 20) C dX9_init_45 (by decide) 47 rfl ?_
  refine C_newaI (len := 20) C dX9_init_47 (of_9_17 k0) ((zr.up (zr_sI hz (by omega)) (by omega)) _ (Nat.le_refl _)).1 (by decide) (by decide) (by decide) acint 5 1660 rfl rfl (by decide) (by decide) (a + 6) rfl 49 rfl ?_
  refine C_putFR (v := (a + 5)) C I dX9_init_49 9 17 (r := (RX9, TX9, 44)) (ty0 := tyX9) (ty := .array .int) k0 (by omega) (by decide) rfl inX9 tokX9 nmX9 (by decide) rfl rfl (by decide +kernel) rfl rfl (Nat.le_of_ble_eq_true rfl) (fc_9_17 (mset_s)) flcRX9_26 52 rfl ?_
  rw [mset_2]
  refine C_aload_n C dX9_init_52 (i := 0) rfl 0 rfl 53 rfl ?_
  refine C_sipush (v := 240) C dX9_init_53 (by decide) 56 rfl ?_
  refine C_newaI (len := 240) C dX9_init_56 (of_9_18 k0) ((zr.up (zr_sI hz (by omega)) (by omega)) _ (Nat.le_refl _)).1 (by decide) (by decide) (by decide) acint 6 1900 rfl rfl (by decide) (by decide) (a + 7) rfl 58 rfl ?_
  refine C_putFR (v := (a + 6)) C I dX9_init_58 9 18 (r := (RX9, TX9, 44)) (ty0 := tyX9) (ty := .array .int) k0 (by omega) (by decide) rfl inX9 tokX9 nmX9 (by decide) rfl rfl (by decide +kernel) rfl rfl (Nat.le_of_ble_eq_true rfl) (fc_9_18 (mset_s)) flcRX9_29 61 rfl ?_
  rw [mset_2]
  refine C_aload_n C dX9_init_61 (i := 0) rfl 0 rfl 62 rfl ?_
  refine C_bipush (v := 60) C dX9_init_62 (by decide) 64 rfl ?_
  refine C_newaI (len := 60) C dX9_init_64 (of_9_19 k0) ((zr.up (zr_sI hz (by omega)) (by omega)) _ (Nat.le_refl _)).1 (by decide) (by decide) (by decide) acint 7 1960 rfl rfl (by decide) (by decide) (a + 8) rfl 66 rfl ?_
  refine C_putFR (v := (a + 7)) C I dX9_init_66 9 19 (r := (RX9, TX9, 44)) (ty0 := tyX9) (ty := .array .int) k0 (by omega) (by decide) rfl inX9 tokX9 nmX9 (by decide) rfl rfl (by decide +kernel) rfl rfl (Nat.le_of_ble_eq_true rfl) (fc_9_19 (mset_s)) flcRX9_32 69 rfl ?_
  rw [mset_2]
  refine C_aload_n C dX9_init_69 (i := 0) rfl 0 rfl 70 rfl ?_
  refine C_bipush (v := 20) C dX9_init_70 (by decide) 72 rfl ?_
  refine C_newaI (len := 20) C dX9_init_72 (of_9_20 k0) ((zr.up (zr_sI hz (by omega)) (by omega)) _ (Nat.le_refl _)).1 (by decide) (by decide) (by decide) acint 8 1980 rfl rfl (by decide) (by decide) (a + 9) rfl 74 rfl ?_
  refine C_putFR (v := (a + 8)) C I dX9_init_74 9 20 (r := (RX9, TX9, 44)) (ty0 := tyX9) (ty := .array .int) k0 (by omega) (by decide) rfl inX9 tokX9 nmX9 (by decide) rfl rfl (by decide +kernel) rfl rfl (Nat.le_of_ble_eq_true rfl) (fc_9_20 (mset_s)) flcRX9_35 77 rfl ?_
  rw [mset_2]
  refine C_aload_n C dX9_init_77 (i := 0) rfl 0 rfl 78 rfl ?_
  refine C_bipush (v := 31) C dX9_init_78 (by decide) 80 rfl ?_
  refine C_newaJ (len := 31) C dX9_init_80 (of_9_21 k0) ((zr.up (zr_sI hz (by omega)) (by omega)) _ (Nat.le_refl _)).2.1 (by decide) (by decide) (by decide) aclong 9 2011 rfl rfl (by decide) (by decide) (a + 10) rfl 82 rfl ?_
  refine C_putFR (v := (a + 9)) C I dX9_init_82 9 21 (r := (RX9, TX9, 44)) (ty0 := tyX9) (ty := .array .long) k0 (by omega) (by decide) rfl inX9 tokX9 nmX9 (by decide) rfl rfl (by decide +kernel) rfl rfl (Nat.le_of_ble_eq_true rfl) (fc_9_21 (mset_s)) flcRX9_38 85 rfl ?_
  rw [mset_2]
  refine C_aload_n C dX9_init_85 (i := 0) rfl 0 rfl 86 rfl ?_
  refine C_sipush (v := 372) C dX9_init_86 (by decide) 89 rfl ?_
  refine C_newaJ (len := 372) C dX9_init_89 (of_9_22 k0) ((zr.up (zr_sI hz (by omega)) (by omega)) _ (Nat.le_refl _)).2.1 (by decide) (by decide) (by decide) aclong 10 2383 rfl rfl (by decide) (by decide) (a + 11) rfl 91 rfl ?_
  refine C_putFR (v := (a + 10)) C I dX9_init_91 9 22 (r := (RX9, TX9, 44)) (ty0 := tyX9) (ty := .array .long) k0 (by omega) (by decide) rfl inX9 tokX9 nmX9 (by decide) rfl rfl (by decide +kernel) rfl rfl (Nat.le_of_ble_eq_true rfl) (fc_9_22 (mset_s)) flcRX9_42 94 rfl ?_
  rw [mset_2]
  refine C_aload_n C dX9_init_94 (i := 0) rfl 0 rfl 95 rfl ?_
  refine C_bipush (v := 93) C dX9_init_95 (by decide) 97 rfl ?_
  refine C_newaJ (len := 93) C dX9_init_97 (of_9_23 k0) ((zr.up (zr_sI hz (by omega)) (by omega)) _ (Nat.le_refl _)).2.1 (by decide) (by decide) (by decide) aclong 11 2476 rfl rfl (by decide) (by decide) (a + 12) rfl 99 rfl ?_
  refine C_putFR (v := (a + 11)) C I dX9_init_99 9 23 (r := (RX9, TX9, 44)) (ty0 := tyX9) (ty := .array .long) k0 (by omega) (by decide) rfl inX9 tokX9 nmX9 (by decide) rfl rfl (by decide +kernel) rfl rfl (Nat.le_of_ble_eq_true rfl) (fc_9_23 (mset_s)) flcRX9_45 102 rfl ?_
  rw [mset_2]
  refine C_aload_n C dX9_init_102 (i := 0) rfl 0 rfl 103 rfl ?_
  refine C_bipush (v := 31) C dX9_init_103 (by decide) 105 rfl ?_
  refine C_newaJ (len := 31) C dX9_init_105 (of_9_24 k0) ((zr.up (zr_sI hz (by omega)) (by omega)) _ (Nat.le_refl _)).2.1 (by decide) (by decide) (by decide) aclong 12 2507 rfl rfl (by decide) (by decide) (a + 13) rfl 107 rfl ?_
  refine C_putFR (v := (a + 12)) C I dX9_init_107 9 24 (r := (RX9, TX9, 44)) (ty0 := tyX9) (ty := .array .long) k0 (by omega) (by decide) rfl inX9 tokX9 nmX9 (by decide) rfl rfl (by decide +kernel) rfl rfl (Nat.le_of_ble_eq_true rfl) (fc_9_24 (mset_s)) flcRX9_48 110 rfl ?_
  rw [mset_2]
  refine C_aload_n C dX9_init_110 (i := 0) rfl 0 rfl 111 rfl ?_
  refine C_bipush (v := 6) C dX9_init_111 (by decide) 113 rfl ?_
  refine C_newaI (len := 6) C dX9_init_113 (of_9_27 k0) ((zr.up (zr_sI hz (by omega)) (by omega)) _ (Nat.le_refl _)).1 (by decide) (by decide) (by decide) acint 13 2513 rfl rfl (by decide) (by decide) (a + 14) rfl 115 rfl ?_
  refine C_putFR (v := (a + 13)) C I dX9_init_115 9 27 (r := (RX9, TX9, 44)) (ty0 := tyX9) (ty := .array .int) k0 (by omega) (by decide) rfl inX9 tokX9 nmX9 (by decide) rfl rfl (by decide +kernel) rfl rfl (Nat.le_of_ble_eq_true rfl) (fc_9_27 (mset_s)) flcRX9_51 118 rfl ?_
  rw [mset_2]
  refine C_aload_n C dX9_init_118 (i := 0) rfl 0 rfl 119 rfl ?_
  refine C_bipush (v := 6) C dX9_init_119 (by decide) 121 rfl ?_
  refine C_newaI (len := 6) C dX9_init_121 (of_9_28 k0) ((zr.up (zr_sI hz (by omega)) (by omega)) _ (Nat.le_refl _)).1 (by decide) (by decide) (by decide) acint 14 2519 rfl rfl (by decide) (by decide) (a + 15) rfl 123 rfl ?_
  refine C_putFR (v := (a + 14)) C I dX9_init_123 9 28 (r := (RX9, TX9, 44)) (ty0 := tyX9) (ty := .array .int) k0 (by omega) (by decide) rfl inX9 tokX9 nmX9 (by decide) rfl rfl (by decide +kernel) rfl rfl (Nat.le_of_ble_eq_true rfl) (fc_9_28 (mset_s)) flcRX9_54 126 rfl ?_
  rw [mset_2]
  refine C_aload_n C dX9_init_126 (i := 0) rfl 0 rfl 127 rfl ?_
  refine C_sipush (v := 3125) C dX9_init_127 (by decide) 130 rfl ?_
  refine C_newaI (len := 3125) C dX9_init_130 (of_9_33 k0) ((zr.up (zr_sI hz (by omega)) (by omega)) _ (Nat.le_refl _)).1 (by decide) (by decide) (by decide) acint 15 5644 rfl rfl (by decide) (by decide) (a + 16) rfl 132 rfl ?_
  refine C_putFR (v := (a + 15)) C I dX9_init_132 9 33 (r := (RX9, TX9, 44)) (ty0 := tyX9) (ty := .array .int) k0 (by omega) (by decide) rfl inX9 tokX9 nmX9 (by decide) rfl rfl (by decide +kernel) rfl rfl (Nat.le_of_ble_eq_true rfl) (fc_9_33 (mset_s)) flcRX9_57 135 rfl ?_
  rw [mset_2]
  refine C_aload_n C dX9_init_135 (i := 0) rfl 0 rfl 136 rfl ?_
  refine C_sipush (v := 3125) C dX9_init_136 (by decide) 139 rfl ?_
  refine C_newaI (len := 3125) C dX9_init_139 (of_9_34 k0) ((zr.up (zr_sI hz (by omega)) (by omega)) _ (Nat.le_refl _)).1 (by decide) (by decide) (by decide) acint 16 8769 rfl rfl (by decide) (by decide) (a + 17) rfl 141 rfl ?_
  refine C_putFR (v := (a + 16)) C I dX9_init_141 9 34 (r := (RX9, TX9, 44)) (ty0 := tyX9) (ty := .array .int) k0 (by omega) (by decide) rfl inX9 tokX9 nmX9 (by decide) rfl rfl (by decide +kernel) rfl rfl (Nat.le_of_ble_eq_true rfl) (fc_9_34 (mset_s)) flcRX9_60 144 rfl ?_
  rw [mset_2]
  refine C_aload_n C dX9_init_144 (i := 0) rfl 0 rfl 145 rfl ?_
  refine C_sipush (v := 3125) C dX9_init_145 (by decide) 148 rfl ?_
  refine C_newaI (len := 3125) C dX9_init_148 (of_9_35 k0) ((zr.up (zr_sI hz (by omega)) (by omega)) _ (Nat.le_refl _)).1 (by decide) (by decide) (by decide) acint 17 11894 rfl rfl (by decide) (by decide) (a + 18) rfl 150 rfl ?_
  refine C_putFR (v := (a + 17)) C I dX9_init_150 9 35 (r := (RX9, TX9, 44)) (ty0 := tyX9) (ty := .array .int) k0 (by omega) (by decide) rfl inX9 tokX9 nmX9 (by decide) rfl rfl (by decide +kernel) rfl rfl (Nat.le_of_ble_eq_true rfl) (fc_9_35 (mset_s)) flcRX9_63 153 rfl ?_
  rw [mset_2]
  refine C_aload_n C dX9_init_153 (i := 0) rfl 0 rfl 154 rfl ?_
  refine C_iconst (v := 4) C dX9_init_154 (by decide) 155 rfl ?_
  refine C_newaI (len := 4) C dX9_init_155 (of_9_42 k0) ((zr.up (zr_sI hz (by omega)) (by omega)) _ (Nat.le_refl _)).1 (by decide) (by decide) (by decide) acint 18 11898 rfl rfl (by decide) (by decide) (a + 19) rfl 157 rfl ?_
  refine C_putFR (v := (a + 18)) C I dX9_init_157 9 42 (r := (RX9, TX9, 44)) (ty0 := tyX9) (ty := .array .int) k0 (by omega) (by decide) rfl inX9 tokX9 nmX9 (by decide) rfl rfl (by decide +kernel) rfl rfl (Nat.le_of_ble_eq_true rfl) (fc_9_42 (mset_s)) flcRX9_66 160 rfl ?_
  rw [mset_2]
  refine C_aload_n C dX9_init_160 (i := 0) rfl 0 rfl 161 rfl ?_
  refine C_iconst (v := 4) C dX9_init_161 (by decide) 162 rfl ?_
  refine C_newaI (len := 4) C dX9_init_162 (of_9_43 k0) ((zr.up (zr_sI hz (by omega)) (by omega)) _ (Nat.le_refl _)).1 (by decide) (by decide) (by decide) acint 19 11902 rfl rfl (by decide) (by decide) (a + 20) rfl 164 rfl ?_
  refine C_putFR (v := (a + 19)) C I dX9_init_164 9 43 (r := (RX9, TX9, 44)) (ty0 := tyX9) (ty := .array .int) k0 (by omega) (by decide) rfl inX9 tokX9 nmX9 (by decide) rfl rfl (by decide +kernel) rfl rfl (Nat.le_of_ble_eq_true rfl) (fc_9_43 (mset_s)) flcRX9_69 167 rfl ?_
  rw [mset_2]
  exact C_vret C dX9_init_167 E rfl rfl rfl rfl rfl
theorem flcRX8_9 : Cond.fieldLink RX8 9 (TX8 0).1 (TX8 0).2.1 (TX8 0).2.2.1 ∈ TB := tb_1 501 (by decide +kernel) (by decide +kernel)
theorem clcRX8_13 : Cond.classLink RX8 13 RX5 ∈ TB := tb_1 182 (by decide +kernel) (by decide +kernel)
theorem flcRX8_16 : Cond.fieldLink RX8 16 (TX8 1).1 (TX8 1).2.1 (TX8 1).2.2.1 ∈ TB := tb_1 502 (by decide +kernel) (by decide +kernel)
theorem clcRX8_20 : Cond.classLink RX8 20 RX2 ∈ TB := tb_1 232 (by decide +kernel) (by decide +kernel)
theorem flcRX8_23 : Cond.fieldLink RX8 23 (TX8 2).1 (TX8 2).2.1 (TX8 2).2.2.1 ∈ TB := tb_1 503 (by decide +kernel) (by decide +kernel)
theorem flcRX8_27 : Cond.fieldLink RX8 27 (TX8 3).1 (TX8 3).2.1 (TX8 3).2.2.1 ∈ TB := tb_1 504 (by decide +kernel) (by decide +kernel)
theorem clcRX8_30 : Cond.classLink RX8 30 RX3 ∈ TB := tb_1 269 (by decide +kernel) (by decide +kernel)
theorem flcRX8_33 : Cond.fieldLink RX8 33 (TX8 4).1 (TX8 4).2.1 (TX8 4).2.2.1 ∈ TB := tb_1 505 (by decide +kernel) (by decide +kernel)
theorem clcRX8_37 : Cond.classLink RX8 37 RX4 ∈ TB := tb_1 293 (by decide +kernel) (by decide +kernel)
theorem flcRX8_40 : Cond.fieldLink RX8 40 (TX8 5).1 (TX8 5).2.1 (TX8 5).2.2.1 ∈ TB := tb_1 506 (by decide +kernel) (by decide +kernel)
theorem clcRX8_44 : Cond.classLink RX8 44 RX6 ∈ TB := tb_1 330 (by decide +kernel) (by decide +kernel)
theorem flcRX8_47 : Cond.fieldLink RX8 47 (TX8 6).1 (TX8 6).2.1 (TX8 6).2.2.1 ∈ TB := tb_1 507 (by decide +kernel) (by decide +kernel)
theorem clcRX8_51 : Cond.classLink RX8 51 RX1 ∈ TB := tb_1 368 (by decide +kernel) (by decide +kernel)
theorem flcRX8_54 : Cond.fieldLink RX8 54 (TX8 7).1 (TX8 7).2.1 (TX8 7).2.2.1 ∈ TB := tb_1 508 (by decide +kernel) (by decide +kernel)
theorem flcRX8_58 : Cond.fieldLink RX8 58 (TX8 8).1 (TX8 8).2.1 (TX8 8).2.2.1 ∈ TB := tb_1 509 (by decide +kernel) (by decide +kernel)
theorem flcRX8_62 : Cond.fieldLink RX8 62 (TX8 9).1 (TX8 9).2.1 (TX8 9).2.2.1 ∈ TB := tb_1 510 (by decide +kernel) (by decide +kernel)
theorem clcRX8_65 : Cond.classLink RX8 65 RX0 ∈ TB := tb_1 390 (by decide +kernel) (by decide +kernel)
theorem flcRX8_68 : Cond.fieldLink RX8 68 (TX8 10).1 (TX8 10).2.1 (TX8 10).2.2.1 ∈ TB := tb_1 511 (by decide +kernel) (by decide +kernel)
theorem flcRX8_72 : Cond.fieldLink RX8 72 (TX8 11).1 (TX8 11).2.1 (TX8 11).2.2.1 ∈ TB := tb_1 512 (by decide +kernel) (by decide +kernel)
def mA : MK := (mset (mset (mset (mset (mset (mset (mset (mset (mset (mset (mset (mset (mset (mset (mset (drM (drM (mset (mset (mset (mset (mset (mset (mset (mset (mset (mset (mset (mset (mset (mset (mset (mset (mset (mset m0 0 1) 2 3) 0 2) 6 6) 0 3) 13 6) 0 4) 21 6) 20 1) 0 5) 28 2) 0 6) 31 7) 0 7) 39 4) 0 8) 0 9) 0 10) 44) 60) 76 6) 83 6) 90 6) 97 6) 104 6) 111 6) 118 6) 125 6) 132 6) 139 6) 146 6) 153 6) 160 6) 167 6) 174 6)
def hA : HH := (sR (sR (sR (sR (sR (sR (sR (sR (sR (sR (sR (sR (sR (sR (sR (sR (drH (sR (drH h0 44) 0 10 44) 60) 0 11 60) 42 (ix 0) 76) 42 (ix 1) 83) 42 (ix 2) 90) 42 (ix 3) 97) 42 (ix 4) 104) 42 (ix 5) 111) 42 (ix 6) 118) 42 (ix 7) 125) 42 (ix 8) 132) 42 (ix 9) 139) 42 (ix 10) 146) 42 (ix 11) 153) 43 (ix 0) 160) 43 (ix 1) 167) 43 (ix 2) 174)
set_option maxRecDepth 20000 in
set_option maxHeartbeats 4000000 in
theorem nX8_init {K : KX} (HK : KC K) : MC K yX8_init cX8_init 2 3 180 6754 [.ref (K.2.1 0)] 1 m0 h0 181 mA hA := by
  refine MC_of HK (by decide) rfl (Nat.le_of_ble_eq_true rfl) (fun G C E I hnl => ?_)
  have C : OkC K G 3 180 6754 cX8_init RX8 := C
  refine (show AtC K G 0 0 1 m0 h0 0 [(0, .ref (K.2.1 0))] [] from ?_)
  refine C_aload_n C dX8_init_0 (i := 0) rfl 0 rfl 1 rfl ?_
  refine C_obj C dX8_init_1 loRX8_1 iobj coobj (by decide) (Nat.le_of_ble_eq_true rfl) 4 rfl ?_
  refine C_aload_n C dX8_init_4 (i := 0) rfl 0 rfl 5 rfl ?_
  refine C_sipush (v := 1000) C dX8_init_5 (by decide) 8 rfl ?_
  refine C_newaB (len := 1000) C dX8_init_8 (by decide) ((zr.up (zr_h0 1) (by decide)) _ (Nat.le_refl _)).1 (by decide) (by decide) (by decide) acbyte 1 1000 rfl rfl (by decide) (by decide) 2 rfl 10 rfl ?_
  refine C_putFR (v := 1) C I dX8_init_10 8 0 (r := (RX8, TX8, 19)) (ty0 := tyX8) (ty := .array .byte) (by decide) (by decide) (by decide) rfl inX8 tokX8 nmX8 (by decide) rfl rfl (by decide +kernel) rfl rfl (Nat.le_of_ble_eq_true rfl) (fc_8_0 (by decide)) flcRX8_9 13 rfl ?_
  refine C_aload_n C dX8_init_13 (i := 0) rfl 0 rfl 14 rfl ?_
  refine C_new C dX8_init_14 5 (r := (RX5, TX5, 13)) (ty := tyX5) (by decide) (by decide) rfl inX5 tokX5 (df5 (zr.up (zr_h0 1) (by decide)) (by decide)) clcRX8_13 inst5 iniX5 2 1013 rfl rfl (by decide) (by decide) 3 rfl 17 rfl ?_
  refine C_dup C dX8_init_17 rfl 18 rfl ?_
  refine C_callN C dX8_init_18 (fun _ z => z.2.1) (nX5_init HK (by decide) (by decide) ((mz_set (mz.up (n := 0) (fun _ _ => rfl) (by decide) : mz m0 _) (by decide))) (zr.up (zr_h0 1) (by decide))) lkRX8_15 (by decide) (by decide) rfl 5 1055 rfl rfl (by decide) (by decide) [.ref (K.2.1 2), .ref (K.2.1 0)] rfl (Nat.le_of_ble_eq_true rfl) 21 rfl ?_
  refine C_putFR (v := 2) C I dX8_init_21 8 1 (r := (RX8, TX8, 19)) (ty0 := tyX8) (ty := .object "AsleepInside$Reade\x72") (by decide) (by decide) (by decide) rfl inX8 tokX8 nmX8 (by decide) rfl rfl (by decide +kernel) rfl rfl (Nat.le_of_ble_eq_true rfl) (fc_8_1 (by decide)) flcRX8_16 24 rfl ?_
  refine C_aload_n C dX8_init_24 (i := 0) rfl 0 rfl 25 rfl ?_
  refine C_new C dX8_init_25 2 (r := (RX2, TX2, 7)) (ty := tyX2) (by decide) (by decide) rfl inX2 tokX2 (df2 (zr.up (zr_h0 1) (by decide)) (by decide)) clcRX8_20 inst2 iniX2 6 1062 rfl rfl (by decide) (by decide) 7 rfl 28 rfl ?_
  refine C_dup C dX8_init_28 rfl 29 rfl ?_
  refine C_callN C dX8_init_29 (fun _ z => z.2.2.1) (nX2_init HK (by decide) (by decide) ((mz_set (mz_set (mz_set (mz.up (n := 0) (fun _ _ => rfl) (by decide) : mz m0 _) (by decide)) (by decide)) (by decide))) (zr.up (zr_h0 1) (by decide))) lkRX8_22 (by decide) (by decide) rfl 12 1092 rfl rfl (by decide) (by decide) [.ref (K.2.1 6), .ref (K.2.1 0)] rfl (Nat.le_of_ble_eq_true rfl) 32 rfl ?_
  refine C_putFR (v := 6) C I dX8_init_32 8 2 (r := (RX8, TX8, 19)) (ty0 := tyX8) (ty := .object "AsleepInside$Night") (by decide) (by decide) (by decide) rfl inX8 tokX8 nmX8 (by decide) rfl rfl (by decide +kernel) rfl rfl (Nat.le_of_ble_eq_true rfl) (fc_8_2 (by decide)) flcRX8_23 35 rfl ?_
  refine C_aload_n C dX8_init_35 (i := 0) rfl 0 rfl 36 rfl ?_
  refine C_new C dX8_init_36 2 (r := (RX2, TX2, 7)) (ty := tyX2) (by decide) (by decide) rfl inX2 tokX2 (df2 (zr.up (zr_h0 1) (by decide)) (by decide)) clcRX8_20 inst2 iniX2 13 1099 rfl rfl (by decide) (by decide) 14 rfl 39 rfl ?_
  refine C_dup C dX8_init_39 rfl 40 rfl ?_
  refine C_callN C dX8_init_40 (fun _ z => z.2.2.1) (nX2_init HK (by decide) (by decide) ((mz_set (mz_set (mz_set (mz_set (mz_set (mz.up (n := 0) (fun _ _ => rfl) (by decide) : mz m0 _) (by decide)) (by decide)) (by decide)) (by decide)) (by decide))) (zr.up (zr_h0 1) (by decide))) lkRX8_22 (by decide) (by decide) rfl 19 1129 rfl rfl (by decide) (by decide) [.ref (K.2.1 13), .ref (K.2.1 0)] rfl (Nat.le_of_ble_eq_true rfl) 43 rfl ?_
  refine C_putFR (v := 13) C I dX8_init_43 8 3 (r := (RX8, TX8, 19)) (ty0 := tyX8) (ty := .object "AsleepInside$Night") (by decide) (by decide) (by decide) rfl inX8 tokX8 nmX8 (by decide) rfl rfl (by decide +kernel) rfl rfl (Nat.le_of_ble_eq_true rfl) (fc_8_3 (by decide)) flcRX8_27 46 rfl ?_
  refine C_aload_n C dX8_init_46 (i := 0) rfl 0 rfl 47 rfl ?_
  refine C_new C dX8_init_47 3 (r := (RX3, TX3, 5)) (ty := tyX3) (by decide) (by decide) rfl inX3 tokX3 (df3 (zr.up (zr_h0 1) (by decide)) (by decide)) clcRX8_30 inst3 iniX3 20 1134 rfl rfl (by decide) (by decide) 21 rfl 50 rfl ?_
  refine C_dup C dX8_init_50 rfl 51 rfl ?_
  refine C_callN C dX8_init_51 (fun _ z => z.2.2.2.1) (nX3_init HK (by decide) (by decide) ((mz_set (mz_set (mz_set (mz_set (mz_set (mz_set (mz_set (mz.up (n := 0) (fun _ _ => rfl) (by decide) : mz m0 _) (by decide)) (by decide)) (by decide)) (by decide)) (by decide)) (by decide)) (by decide))) (zr.up (zr_h0 1) (by decide))) lkRX8_32 (by decide) (by decide) rfl 27 1171 rfl rfl (by decide) (by decide) [.ref (K.2.1 20), .ref (K.2.1 0)] rfl (Nat.le_of_ble_eq_true rfl) 54 rfl ?_
  refine C_putFR (v := 20) C I dX8_init_54 8 4 (r := (RX8, TX8, 19)) (ty0 := tyX8) (ty := .object "AsleepInside$Outlook") (by decide) (by decide) (by decide) rfl inX8 tokX8 nmX8 (by decide) rfl rfl (by decide +kernel) rfl rfl (Nat.le_of_ble_eq_true rfl) (fc_8_4 (by decide)) flcRX8_33 57 rfl ?_
  refine C_aload_n C dX8_init_57 (i := 0) rfl 0 rfl 58 rfl ?_
  refine C_new C dX8_init_58 4 (r := (RX4, TX4, 8)) (ty := tyX4) (by decide) (by decide) rfl inX4 tokX4 (df4 (zr.up (zr_h0 1) (by decide)) (by decide)) clcRX8_37 inst4 iniX4 28 1179 rfl rfl (by decide) (by decide) 29 rfl 61 rfl ?_
  refine C_dup C dX8_init_61 rfl 62 rfl ?_
  refine C_callN C dX8_init_62 (fun _ z => z.2.2.2.2.2.1) (nX4_init HK (by decide) (by decide) ((mz_set (mz_set (mz_set (mz_set (mz_set (mz_set (mz_set (mz_set (mz_set (mz_set (mz.up (n := 0) (fun _ _ => rfl) (by decide) : mz m0 _) (by decide)) (by decide)) (by decide)) (by decide)) (by decide)) (by decide)) (by decide)) (by decide)) (by decide)) (by decide))) (zr.up (zr_h0 1) (by decide))) lkRX8_39 (by decide) (by decide) rfl 30 1191 rfl rfl (by decide) (by decide) [.ref (K.2.1 28), .ref (K.2.1 0)] rfl (Nat.le_of_ble_eq_true rfl) 65 rfl ?_
  refine C_putFR (v := 28) C I dX8_init_65 8 5 (r := (RX8, TX8, 19)) (ty0 := tyX8) (ty := .object "AsleepInside$Plan") (by decide) (by decide) (by decide) rfl inX8 tokX8 nmX8 (by decide) rfl rfl (by decide +kernel) rfl rfl (Nat.le_of_ble_eq_true rfl) (fc_8_5 (by decide)) flcRX8_40 68 rfl ?_
  refine C_aload_n C dX8_init_68 (i := 0) rfl 0 rfl 69 rfl ?_
  refine C_new C dX8_init_69 6 (r := (RX6, TX6, 10)) (ty := tyX6) (by decide) (by decide) rfl inX6 tokX6 (df6 (zr.up (zr_h0 1) (by decide)) (by decide)) clcRX8_44 inst6 iniX6 31 1201 rfl rfl (by decide) (by decide) 32 rfl 72 rfl ?_
  refine C_dup C dX8_init_72 rfl 73 rfl ?_
  refine C_callN C dX8_init_73 (fun _ z => z.2.2.2.2.2.2.1) (nX6_init HK (by decide) (by decide) ((mz_set (mz_set (mz_set (mz_set (mz_set (mz_set (mz_set (mz_set (mz_set (mz_set (mz_set (mz_set (mz.up (n := 0) (fun _ _ => rfl) (by decide) : mz m0 _) (by decide)) (by decide)) (by decide)) (by decide)) (by decide)) (by decide)) (by decide)) (by decide)) (by decide)) (by decide)) (by decide)) (by decide))) (zr.up (zr_h0 1) (by decide))) lkRX8_46 (by decide) (by decide) rfl 38 5522 rfl rfl (by decide) (by decide) [.ref (K.2.1 31), .ref (K.2.1 0)] rfl (Nat.le_of_ble_eq_true rfl) 76 rfl ?_
  refine C_putFR (v := 31) C I dX8_init_76 8 6 (r := (RX8, TX8, 19)) (ty0 := tyX8) (ty := .object "AsleepInside$Rousing") (by decide) (by decide) (by decide) rfl inX8 tokX8 nmX8 (by decide) rfl rfl (by decide +kernel) rfl rfl (Nat.le_of_ble_eq_true rfl) (fc_8_6 (by decide)) flcRX8_47 79 rfl ?_
  refine C_aload_n C dX8_init_79 (i := 0) rfl 0 rfl 80 rfl ?_
  refine C_new C dX8_init_80 1 (r := (RX1, TX1, 4)) (ty := tyX1) (by decide) (by decide) rfl inX1 tokX1 (df1 (zr.up (zr_h0 1) (by decide)) (by decide)) clcRX8_51 inst1 iniX1 39 5526 rfl rfl (by decide) (by decide) 40 rfl 83 rfl ?_
  refine C_dup C dX8_init_83 rfl 84 rfl ?_
  refine C_callN C dX8_init_84 (fun _ z => z.2.2.2.2.2.2.2.1) (nX1_init HK (by decide) (by decide) ((mz_set (mz_set (mz_set (mz_set (mz_set (mz_set (mz_set (mz_set (mz_set (mz_set (mz_set (mz_set (mz_set (mz_set (mz.up (n := 0) (fun _ _ => rfl) (by decide) : mz m0 _) (by decide)) (by decide)) (by decide)) (by decide)) (by decide)) (by decide)) (by decide)) (by decide)) (by decide)) (by decide)) (by decide)) (by decide)) (by decide)) (by decide))) (zr.up (zr_h0 1) (by decide))) lkRX8_53 (by decide) (by decide) rfl 41 5536 rfl rfl (by decide) (by decide) [.ref (K.2.1 39), .ref (K.2.1 0)] rfl (Nat.le_of_ble_eq_true rfl) 87 rfl ?_
  refine C_putFR (v := 39) C I dX8_init_87 8 7 (r := (RX8, TX8, 19)) (ty0 := tyX8) (ty := .object "AsleepInside$Fitting") (by decide) (by decide) (by decide) rfl inX8 tokX8 nmX8 (by decide) rfl rfl (by decide +kernel) rfl rfl (Nat.le_of_ble_eq_true rfl) (fc_8_7 (by decide)) flcRX8_54 90 rfl ?_
  refine C_aload_n C dX8_init_90 (i := 0) rfl 0 rfl 91 rfl ?_
  refine C_bipush (v := 12) C dX8_init_91 (by decide) 93 rfl ?_
  refine C_newq (len := 12) C dX8_init_93 (by decide) ((zr.up (zr_h0 1) (by decide)) _ (Nat.le_refl _)).2.2 (by decide) (by decide) (by decide) clcRX8_20 42 5548 rfl rfl (by decide) (by decide) 43 rfl 96 rfl ?_
  refine C_putFR (v := 42) C I dX8_init_96 8 8 (r := (RX8, TX8, 19)) (ty0 := tyX8) (ty := .array (.object "AsleepInside$Night")) (by decide) (by decide) (by decide) rfl inX8 tokX8 nmX8 (by decide) rfl rfl (by decide +kernel) rfl rfl (Nat.le_of_ble_eq_true rfl) (fc_8_8 (by decide)) flcRX8_58 99 rfl ?_
  refine C_aload_n C dX8_init_99 (i := 0) rfl 0 rfl 100 rfl ?_
  refine C_iconst (v := 3) C dX8_init_100 (by decide) 101 rfl ?_
  refine C_newq (len := 3) C dX8_init_101 (by decide) ((zr.up (zr_h0 1) (by decide)) _ (Nat.le_refl _)).2.2 (by decide) (by decide) (by decide) clcRX8_20 43 5551 rfl rfl (by decide) (by decide) 44 rfl 104 rfl ?_
  refine C_putFR (v := 43) C I dX8_init_104 8 9 (r := (RX8, TX8, 19)) (ty0 := tyX8) (ty := .array (.object "AsleepInside$Night")) (by decide) (by decide) (by decide) rfl inX8 tokX8 nmX8 (by decide) rfl rfl (by decide +kernel) rfl rfl (Nat.le_of_ble_eq_true rfl) (fc_8_9 (by decide)) flcRX8_62 107 rfl ?_
  refine C_aload_n C dX8_init_107 (i := 0) rfl 0 rfl 108 rfl ?_
  refine C_new C dX8_init_108 0 (r := (RX0, TX0, 14)) (ty := tyX0) (by decide) (by decide) rfl inX0 tokX0 (df0 (zr.up (zr_h0 1) (by decide)) (by decide)) clcRX8_65 inst0 iniX0 44 5565 rfl rfl (by decide) (by decide) 45 rfl 111 rfl ?_
  refine C_dup C dX8_init_111 rfl 112 rfl ?_
  refine C_callN C dX8_init_112 (fun _ z => z.2.2.2.2.2.2.2.2) (nX0_init2 HK (by decide) (by decide) ((mz_set (mz_set (mz_set (mz_set (mz_set (mz_set (mz_set (mz_set (mz_set (mz_set (mz_set (mz_set (mz_set (mz_set (mz_set (mz_set (mz_set (mz_set (mz.up (n := 0) (fun _ _ => rfl) (by decide) : mz m0 _) (by decide)) (by decide)) (by decide)) (by decide)) (by decide)) (by decide)) (by decide)) (by decide)) (by decide)) (by decide)) (by decide)) (by decide)) (by decide)) (by decide)) (by decide)) (by decide)) (by decide)) (by decide))) (zr.up (zr_h0 1) (by decide))) lkRX8_67 (by decide) (by decide) rfl 59 5875 rfl rfl (by decide) (by decide) [.ref (K.2.1 44), .ref (K.2.1 0)] rfl (Nat.le_of_ble_eq_true rfl) 115 rfl ?_
  have hz7 := zr_drm (a := 44)  (zr.up (m := 60) (zr_h0 1) (by decide)) (by decide)
  refine C_putR (v := 44) C I dX8_init_115 8 10 (r := (RX8, TX8, 19)) (ty0 := tyX8) (ty := .object "AsleepInside$Dream") (by decide) (by decide) (by decide) rfl inX8 tokX8 nmX8 (by decide) rfl rfl (by decide +kernel) rfl rfl (Nat.le_of_ble_eq_true rfl) (fr_8_10 (by decide)) flcRX8_68 118 rfl ?_
  have hz8 := zr_sR (a := 0) (k := 10) (v := 44) (zr.up (m := 60) hz7 (by decide)) (by decide)
  refine C_aload_n C dX8_init_118 (i := 0) rfl 0 rfl 119 rfl ?_
  refine C_new C dX8_init_119 0 (r := (RX0, TX0, 14)) (ty := tyX0) (by decide) (by decide) rfl inX0 tokX0 (df0 (zr.up hz8 (by decide)) (by decide)) clcRX8_65 inst0 iniX0 60 5889 rfl rfl (by decide) (by decide) 61 rfl 122 rfl ?_
  refine C_dup C dX8_init_122 rfl 123 rfl ?_
  refine C_callN C dX8_init_123 (fun _ z => z.2.2.2.2.2.2.2.2) (nX0_init2 HK (by decide) (by decide) ((mz_drM (mz_set (mz_set (mz_set (mz_set (mz_set (mz_set (mz_set (mz_set (mz_set (mz_set (mz_set (mz_set (mz_set (mz_set (mz_set (mz_set (mz_set (mz_set (mz.up (n := 0) (fun _ _ => rfl) (by decide) : mz m0 _) (by decide)) (by decide)) (by decide)) (by decide)) (by decide)) (by decide)) (by decide)) (by decide)) (by decide)) (by decide)) (by decide)) (by decide)) (by decide)) (by decide)) (by decide)) (by decide)) (by decide)) (by decide)) (by decide))) (zr.up hz8 (by decide))) lkRX8_67 (by decide) (by decide) rfl 75 6199 rfl rfl (by decide) (by decide) [.ref (K.2.1 60), .ref (K.2.1 0)] rfl (Nat.le_of_ble_eq_true rfl) 126 rfl ?_
  have hz9 := zr_drm (a := 60)  (zr.up (m := 76) hz8 (by decide)) (by decide)
  refine C_putR (v := 60) C I dX8_init_126 8 11 (r := (RX8, TX8, 19)) (ty0 := tyX8) (ty := .object "AsleepInside$Dream") (by decide) (by decide) (by decide) rfl inX8 tokX8 nmX8 (by decide) rfl rfl (by decide +kernel) rfl rfl (Nat.le_of_ble_eq_true rfl) (fr_8_11 (by decide)) flcRX8_72 129 rfl ?_
  have hz10 := zr_sR (a := 0) (k := 11) (v := 60) (zr.up (m := 76) hz9 (by decide)) (by decide)
  refine C_iconst (v := 0) C dX8_init_129 (by decide) 130 rfl ?_
  refine C_istore_n C dX8_init_130 (i := 1) rfl [(1, .int 0), (0, .ref (K.2.1 0))] (lt_nl hnl (by decide)) rfl 131 rfl ?_
  refine C_iload_n C dX8_init_131 (i := 1) rfl 0 rfl 132 rfl ?_
  refine C_bipush (v := 12) C dX8_init_132 (by decide) 134 rfl ?_
  refine C_ge_N C dX8_init_134 156 (by decide) (by decide) 137 rfl ?_
  refine C_aload_n C dX8_init_137 (i := 0) rfl 1 rfl 138 rfl ?_
  refine C_get (v := .ref (K.2.1 42)) C dX8_init_138 8 8 (r := (RX8, TX8, 19)) (by decide) (by decide) (by decide) rfl inX8 (by decide) rfl flcRX8_58 141 rfl ?_
  refine C_iload_n C dX8_init_141 (i := 1) rfl 0 rfl 142 rfl ?_
  refine C_new C dX8_init_142 2 (r := (RX2, TX2, 7)) (ty := tyX2) (by decide) (by decide) rfl inX2 tokX2 (df2 (zr.up hz10 (by decide)) (by decide)) clcRX8_20 inst2 iniX2 76 6206 rfl rfl (by decide) (by decide) 77 rfl 145 rfl ?_
  refine C_dup C dX8_init_145 rfl 146 rfl ?_
  refine C_callN C dX8_init_146 (fun _ z => z.2.2.1) (nX2_init HK (by decide) (by decide) ((mz_drM (mz_drM (mz_set (mz_set (mz_set (mz_set (mz_set (mz_set (mz_set (mz_set (mz_set (mz_set (mz_set (mz_set (mz_set (mz_set (mz_set (mz_set (mz_set (mz_set (mz.up (n := 0) (fun _ _ => rfl) (by decide) : mz m0 _) (by decide)) (by decide)) (by decide)) (by decide)) (by decide)) (by decide)) (by decide)) (by decide)) (by decide)) (by decide)) (by decide)) (by decide)) (by decide)) (by decide)) (by decide)) (by decide)) (by decide)) (by decide)) (by decide)) (by decide))) (zr.up hz10 (by decide))) lkRX8_22 (by decide) (by decide) rfl 82 6236 rfl rfl (by decide) (by decide) [.ref (K.2.1 76), .int 0, .ref (K.2.1 42)] rfl (Nat.le_of_ble_eq_true rfl) 149 rfl ?_
  refine C_aast (len := 12) (v := 76) (i := 0) C dX8_init_149 (by decide) (by decide) (by decide) (by decide) (vp_in_nI (n := 0) (by decide) (by decide)) 150 rfl ?_
  have hz11 := zr_sR (a := 42) (k := ix 0) (v := 76) (zr.up (m := 83) hz10 (by decide)) (by decide)
  refine C_iinc (v := 1) C dX8_init_150 0 rfl (by decide) [(1, .int 1), (0, .ref (K.2.1 0))] (lt_nl hnl (by decide)) rfl 153 rfl ?_
  refine C_goto C dX8_init_153 131 (by decide) ?_
  refine C_iload_n C dX8_init_131 (i := 1) rfl 0 rfl 132 rfl ?_
  refine C_bipush (v := 12) C dX8_init_132 (by decide) 134 rfl ?_
  refine C_ge_N C dX8_init_134 156 (by decide) (by decide) 137 rfl ?_
  refine C_aload_n C dX8_init_137 (i := 0) rfl 1 rfl 138 rfl ?_
  refine C_get (v := .ref (K.2.1 42)) C dX8_init_138 8 8 (r := (RX8, TX8, 19)) (by decide) (by decide) (by decide) rfl inX8 (by decide) rfl flcRX8_58 141 rfl ?_
  refine C_iload_n C dX8_init_141 (i := 1) rfl 0 rfl 142 rfl ?_
  refine C_new C dX8_init_142 2 (r := (RX2, TX2, 7)) (ty := tyX2) (by decide) (by decide) rfl inX2 tokX2 (df2 (zr.up hz11 (by decide)) (by decide)) clcRX8_20 inst2 iniX2 83 6243 rfl rfl (by decide) (by decide) 84 rfl 145 rfl ?_
  refine C_dup C dX8_init_145 rfl 146 rfl ?_
  refine C_callN C dX8_init_146 (fun _ z => z.2.2.1) (nX2_init HK (by decide) (by decide) ((mz_set (mz_drM (mz_drM (mz_set (mz_set (mz_set (mz_set (mz_set (mz_set (mz_set (mz_set (mz_set (mz_set (mz_set (mz_set (mz_set (mz_set (mz_set (mz_set (mz_set (mz_set (mz.up (n := 0) (fun _ _ => rfl) (by decide) : mz m0 _) (by decide)) (by decide)) (by decide)) (by decide)) (by decide)) (by decide)) (by decide)) (by decide)) (by decide)) (by decide)) (by decide)) (by decide)) (by decide)) (by decide)) (by decide)) (by decide)) (by decide)) (by decide)) (by decide)) (by decide)) (by decide))) (zr.up hz11 (by decide))) lkRX8_22 (by decide) (by decide) rfl 89 6273 rfl rfl (by decide) (by decide) [.ref (K.2.1 83), .int 1, .ref (K.2.1 42)] rfl (Nat.le_of_ble_eq_true rfl) 149 rfl ?_
  refine C_aast (len := 12) (v := 83) (i := 1) C dX8_init_149 (by decide) (by decide) (by decide) (by decide) (vp_in_nI (n := 1) (by decide) (by decide)) 150 rfl ?_
  have hz12 := zr_sR (a := 42) (k := ix 1) (v := 83) (zr.up (m := 90) hz11 (by decide)) (by decide)
  refine C_iinc (v := 2) C dX8_init_150 0 rfl (by decide) [(1, .int 2), (0, .ref (K.2.1 0))] (lt_nl hnl (by decide)) rfl 153 rfl ?_
  refine C_goto C dX8_init_153 131 (by decide) ?_
  refine C_iload_n C dX8_init_131 (i := 1) rfl 0 rfl 132 rfl ?_
  refine C_bipush (v := 12) C dX8_init_132 (by decide) 134 rfl ?_
  refine C_ge_N C dX8_init_134 156 (by decide) (by decide) 137 rfl ?_
  refine C_aload_n C dX8_init_137 (i := 0) rfl 1 rfl 138 rfl ?_
  refine C_get (v := .ref (K.2.1 42)) C dX8_init_138 8 8 (r := (RX8, TX8, 19)) (by decide) (by decide) (by decide) rfl inX8 (by decide) rfl flcRX8_58 141 rfl ?_
  refine C_iload_n C dX8_init_141 (i := 1) rfl 0 rfl 142 rfl ?_
  refine C_new C dX8_init_142 2 (r := (RX2, TX2, 7)) (ty := tyX2) (by decide) (by decide) rfl inX2 tokX2 (df2 (zr.up hz12 (by decide)) (by decide)) clcRX8_20 inst2 iniX2 90 6280 rfl rfl (by decide) (by decide) 91 rfl 145 rfl ?_
  refine C_dup C dX8_init_145 rfl 146 rfl ?_
  refine C_callN C dX8_init_146 (fun _ z => z.2.2.1) (nX2_init HK (by decide) (by decide) ((mz_set (mz_set (mz_drM (mz_drM (mz_set (mz_set (mz_set (mz_set (mz_set (mz_set (mz_set (mz_set (mz_set (mz_set (mz_set (mz_set (mz_set (mz_set (mz_set (mz_set (mz_set (mz_set (mz.up (n := 0) (fun _ _ => rfl) (by decide) : mz m0 _) (by decide)) (by decide)) (by decide)) (by decide)) (by decide)) (by decide)) (by decide)) (by decide)) (by decide)) (by decide)) (by decide)) (by decide)) (by decide)) (by decide)) (by decide)) (by decide)) (by decide)) (by decide)) (by decide)) (by decide)) (by decide)) (by decide))) (zr.up hz12 (by decide))) lkRX8_22 (by decide) (by decide) rfl 96 6310 rfl rfl (by decide) (by decide) [.ref (K.2.1 90), .int 2, .ref (K.2.1 42)] rfl (Nat.le_of_ble_eq_true rfl) 149 rfl ?_
  refine C_aast (len := 12) (v := 90) (i := 2) C dX8_init_149 (by decide) (by decide) (by decide) (by decide) (vp_in_nI (n := 2) (by decide) (by decide)) 150 rfl ?_
  have hz13 := zr_sR (a := 42) (k := ix 2) (v := 90) (zr.up (m := 97) hz12 (by decide)) (by decide)
  refine C_iinc (v := 3) C dX8_init_150 0 rfl (by decide) [(1, .int 3), (0, .ref (K.2.1 0))] (lt_nl hnl (by decide)) rfl 153 rfl ?_
  refine C_goto C dX8_init_153 131 (by decide) ?_
  refine C_iload_n C dX8_init_131 (i := 1) rfl 0 rfl 132 rfl ?_
  refine C_bipush (v := 12) C dX8_init_132 (by decide) 134 rfl ?_
  refine C_ge_N C dX8_init_134 156 (by decide) (by decide) 137 rfl ?_
  refine C_aload_n C dX8_init_137 (i := 0) rfl 1 rfl 138 rfl ?_
  refine C_get (v := .ref (K.2.1 42)) C dX8_init_138 8 8 (r := (RX8, TX8, 19)) (by decide) (by decide) (by decide) rfl inX8 (by decide) rfl flcRX8_58 141 rfl ?_
  refine C_iload_n C dX8_init_141 (i := 1) rfl 0 rfl 142 rfl ?_
  refine C_new C dX8_init_142 2 (r := (RX2, TX2, 7)) (ty := tyX2) (by decide) (by decide) rfl inX2 tokX2 (df2 (zr.up hz13 (by decide)) (by decide)) clcRX8_20 inst2 iniX2 97 6317 rfl rfl (by decide) (by decide) 98 rfl 145 rfl ?_
  refine C_dup C dX8_init_145 rfl 146 rfl ?_
  refine C_callN C dX8_init_146 (fun _ z => z.2.2.1) (nX2_init HK (by decide) (by decide) ((mz_set (mz_set (mz_set (mz_drM (mz_drM (mz_set (mz_set (mz_set (mz_set (mz_set (mz_set (mz_set (mz_set (mz_set (mz_set (mz_set (mz_set (mz_set (mz_set (mz_set (mz_set (mz_set (mz_set (mz.up (n := 0) (fun _ _ => rfl) (by decide) : mz m0 _) (by decide)) (by decide)) (by decide)) (by decide)) (by decide)) (by decide)) (by decide)) (by decide)) (by decide)) (by decide)) (by decide)) (by decide)) (by decide)) (by decide)) (by decide)) (by decide)) (by decide)) (by decide)) (by decide)) (by decide)) (by decide)) (by decide)) (by decide))) (zr.up hz13 (by decide))) lkRX8_22 (by decide) (by decide) rfl 103 6347 rfl rfl (by decide) (by decide) [.ref (K.2.1 97), .int 3, .ref (K.2.1 42)] rfl (Nat.le_of_ble_eq_true rfl) 149 rfl ?_
  refine C_aast (len := 12) (v := 97) (i := 3) C dX8_init_149 (by decide) (by decide) (by decide) (by decide) (vp_in_nI (n := 3) (by decide) (by decide)) 150 rfl ?_
  have hz14 := zr_sR (a := 42) (k := ix 3) (v := 97) (zr.up (m := 104) hz13 (by decide)) (by decide)
  refine C_iinc (v := 4) C dX8_init_150 0 rfl (by decide) [(1, .int 4), (0, .ref (K.2.1 0))] (lt_nl hnl (by decide)) rfl 153 rfl ?_
  refine C_goto C dX8_init_153 131 (by decide) ?_
  refine C_iload_n C dX8_init_131 (i := 1) rfl 0 rfl 132 rfl ?_
  refine C_bipush (v := 12) C dX8_init_132 (by decide) 134 rfl ?_
  refine C_ge_N C dX8_init_134 156 (by decide) (by decide) 137 rfl ?_
  refine C_aload_n C dX8_init_137 (i := 0) rfl 1 rfl 138 rfl ?_
  refine C_get (v := .ref (K.2.1 42)) C dX8_init_138 8 8 (r := (RX8, TX8, 19)) (by decide) (by decide) (by decide) rfl inX8 (by decide) rfl flcRX8_58 141 rfl ?_
  refine C_iload_n C dX8_init_141 (i := 1) rfl 0 rfl 142 rfl ?_
  refine C_new C dX8_init_142 2 (r := (RX2, TX2, 7)) (ty := tyX2) (by decide) (by decide) rfl inX2 tokX2 (df2 (zr.up hz14 (by decide)) (by decide)) clcRX8_20 inst2 iniX2 104 6354 rfl rfl (by decide) (by decide) 105 rfl 145 rfl ?_
  refine C_dup C dX8_init_145 rfl 146 rfl ?_
  refine C_callN C dX8_init_146 (fun _ z => z.2.2.1) (nX2_init HK (by decide) (by decide) ((mz_set (mz_set (mz_set (mz_set (mz_drM (mz_drM (mz_set (mz_set (mz_set (mz_set (mz_set (mz_set (mz_set (mz_set (mz_set (mz_set (mz_set (mz_set (mz_set (mz_set (mz_set (mz_set (mz_set (mz_set (mz.up (n := 0) (fun _ _ => rfl) (by decide) : mz m0 _) (by decide)) (by decide)) (by decide)) (by decide)) (by decide)) (by decide)) (by decide)) (by decide)) (by decide)) (by decide)) (by decide)) (by decide)) (by decide)) (by decide)) (by decide)) (by decide)) (by decide)) (by decide)) (by decide)) (by decide)) (by decide)) (by decide)) (by decide)) (by decide))) (zr.up hz14 (by decide))) lkRX8_22 (by decide) (by decide) rfl 110 6384 rfl rfl (by decide) (by decide) [.ref (K.2.1 104), .int 4, .ref (K.2.1 42)] rfl (Nat.le_of_ble_eq_true rfl) 149 rfl ?_
  refine C_aast (len := 12) (v := 104) (i := 4) C dX8_init_149 (by decide) (by decide) (by decide) (by decide) (vp_in_nI (n := 4) (by decide) (by decide)) 150 rfl ?_
  have hz15 := zr_sR (a := 42) (k := ix 4) (v := 104) (zr.up (m := 111) hz14 (by decide)) (by decide)
  refine C_iinc (v := 5) C dX8_init_150 0 rfl (by decide) [(1, .int 5), (0, .ref (K.2.1 0))] (lt_nl hnl (by decide)) rfl 153 rfl ?_
  refine C_goto C dX8_init_153 131 (by decide) ?_
  refine C_iload_n C dX8_init_131 (i := 1) rfl 0 rfl 132 rfl ?_
  refine C_bipush (v := 12) C dX8_init_132 (by decide) 134 rfl ?_
  refine C_ge_N C dX8_init_134 156 (by decide) (by decide) 137 rfl ?_
  refine C_aload_n C dX8_init_137 (i := 0) rfl 1 rfl 138 rfl ?_
  refine C_get (v := .ref (K.2.1 42)) C dX8_init_138 8 8 (r := (RX8, TX8, 19)) (by decide) (by decide) (by decide) rfl inX8 (by decide) rfl flcRX8_58 141 rfl ?_
  refine C_iload_n C dX8_init_141 (i := 1) rfl 0 rfl 142 rfl ?_
  refine C_new C dX8_init_142 2 (r := (RX2, TX2, 7)) (ty := tyX2) (by decide) (by decide) rfl inX2 tokX2 (df2 (zr.up hz15 (by decide)) (by decide)) clcRX8_20 inst2 iniX2 111 6391 rfl rfl (by decide) (by decide) 112 rfl 145 rfl ?_
  refine C_dup C dX8_init_145 rfl 146 rfl ?_
  refine C_callN C dX8_init_146 (fun _ z => z.2.2.1) (nX2_init HK (by decide) (by decide) ((mz_set (mz_set (mz_set (mz_set (mz_set (mz_drM (mz_drM (mz_set (mz_set (mz_set (mz_set (mz_set (mz_set (mz_set (mz_set (mz_set (mz_set (mz_set (mz_set (mz_set (mz_set (mz_set (mz_set (mz_set (mz_set (mz.up (n := 0) (fun _ _ => rfl) (by decide) : mz m0 _) (by decide)) (by decide)) (by decide)) (by decide)) (by decide)) (by decide)) (by decide)) (by decide)) (by decide)) (by decide)) (by decide)) (by decide)) (by decide)) (by decide)) (by decide)) (by decide)) (by decide)) (by decide)) (by decide)) (by decide)) (by decide)) (by decide)) (by decide)) (by decide)) (by decide))) (zr.up hz15 (by decide))) lkRX8_22 (by decide) (by decide) rfl 117 6421 rfl rfl (by decide) (by decide) [.ref (K.2.1 111), .int 5, .ref (K.2.1 42)] rfl (Nat.le_of_ble_eq_true rfl) 149 rfl ?_
  refine C_aast (len := 12) (v := 111) (i := 5) C dX8_init_149 (by decide) (by decide) (by decide) (by decide) (vp_in_nI (n := 5) (by decide) (by decide)) 150 rfl ?_
  have hz16 := zr_sR (a := 42) (k := ix 5) (v := 111) (zr.up (m := 118) hz15 (by decide)) (by decide)
  refine C_iinc (v := 6) C dX8_init_150 0 rfl (by decide) [(1, .int 6), (0, .ref (K.2.1 0))] (lt_nl hnl (by decide)) rfl 153 rfl ?_
  refine C_goto C dX8_init_153 131 (by decide) ?_
  refine C_iload_n C dX8_init_131 (i := 1) rfl 0 rfl 132 rfl ?_
  refine C_bipush (v := 12) C dX8_init_132 (by decide) 134 rfl ?_
  refine C_ge_N C dX8_init_134 156 (by decide) (by decide) 137 rfl ?_
  refine C_aload_n C dX8_init_137 (i := 0) rfl 1 rfl 138 rfl ?_
  refine C_get (v := .ref (K.2.1 42)) C dX8_init_138 8 8 (r := (RX8, TX8, 19)) (by decide) (by decide) (by decide) rfl inX8 (by decide) rfl flcRX8_58 141 rfl ?_
  refine C_iload_n C dX8_init_141 (i := 1) rfl 0 rfl 142 rfl ?_
  refine C_new C dX8_init_142 2 (r := (RX2, TX2, 7)) (ty := tyX2) (by decide) (by decide) rfl inX2 tokX2 (df2 (zr.up hz16 (by decide)) (by decide)) clcRX8_20 inst2 iniX2 118 6428 rfl rfl (by decide) (by decide) 119 rfl 145 rfl ?_
  refine C_dup C dX8_init_145 rfl 146 rfl ?_
  refine C_callN C dX8_init_146 (fun _ z => z.2.2.1) (nX2_init HK (by decide) (by decide) ((mz_set (mz_set (mz_set (mz_set (mz_set (mz_set (mz_drM (mz_drM (mz_set (mz_set (mz_set (mz_set (mz_set (mz_set (mz_set (mz_set (mz_set (mz_set (mz_set (mz_set (mz_set (mz_set (mz_set (mz_set (mz_set (mz_set (mz.up (n := 0) (fun _ _ => rfl) (by decide) : mz m0 _) (by decide)) (by decide)) (by decide)) (by decide)) (by decide)) (by decide)) (by decide)) (by decide)) (by decide)) (by decide)) (by decide)) (by decide)) (by decide)) (by decide)) (by decide)) (by decide)) (by decide)) (by decide)) (by decide)) (by decide)) (by decide)) (by decide)) (by decide)) (by decide)) (by decide)) (by decide))) (zr.up hz16 (by decide))) lkRX8_22 (by decide) (by decide) rfl 124 6458 rfl rfl (by decide) (by decide) [.ref (K.2.1 118), .int 6, .ref (K.2.1 42)] rfl (Nat.le_of_ble_eq_true rfl) 149 rfl ?_
  refine C_aast (len := 12) (v := 118) (i := 6) C dX8_init_149 (by decide) (by decide) (by decide) (by decide) (vp_in_nI (n := 6) (by decide) (by decide)) 150 rfl ?_
  have hz17 := zr_sR (a := 42) (k := ix 6) (v := 118) (zr.up (m := 125) hz16 (by decide)) (by decide)
  refine C_iinc (v := 7) C dX8_init_150 0 rfl (by decide) [(1, .int 7), (0, .ref (K.2.1 0))] (lt_nl hnl (by decide)) rfl 153 rfl ?_
  refine C_goto C dX8_init_153 131 (by decide) ?_
  refine C_iload_n C dX8_init_131 (i := 1) rfl 0 rfl 132 rfl ?_
  refine C_bipush (v := 12) C dX8_init_132 (by decide) 134 rfl ?_
  refine C_ge_N C dX8_init_134 156 (by decide) (by decide) 137 rfl ?_
  refine C_aload_n C dX8_init_137 (i := 0) rfl 1 rfl 138 rfl ?_
  refine C_get (v := .ref (K.2.1 42)) C dX8_init_138 8 8 (r := (RX8, TX8, 19)) (by decide) (by decide) (by decide) rfl inX8 (by decide) rfl flcRX8_58 141 rfl ?_
  refine C_iload_n C dX8_init_141 (i := 1) rfl 0 rfl 142 rfl ?_
  refine C_new C dX8_init_142 2 (r := (RX2, TX2, 7)) (ty := tyX2) (by decide) (by decide) rfl inX2 tokX2 (df2 (zr.up hz17 (by decide)) (by decide)) clcRX8_20 inst2 iniX2 125 6465 rfl rfl (by decide) (by decide) 126 rfl 145 rfl ?_
  refine C_dup C dX8_init_145 rfl 146 rfl ?_
  refine C_callN C dX8_init_146 (fun _ z => z.2.2.1) (nX2_init HK (by decide) (by decide) ((mz_set (mz_set (mz_set (mz_set (mz_set (mz_set (mz_set (mz_drM (mz_drM (mz_set (mz_set (mz_set (mz_set (mz_set (mz_set (mz_set (mz_set (mz_set (mz_set (mz_set (mz_set (mz_set (mz_set (mz_set (mz_set (mz_set (mz_set (mz.up (n := 0) (fun _ _ => rfl) (by decide) : mz m0 _) (by decide)) (by decide)) (by decide)) (by decide)) (by decide)) (by decide)) (by decide)) (by decide)) (by decide)) (by decide)) (by decide)) (by decide)) (by decide)) (by decide)) (by decide)) (by decide)) (by decide)) (by decide)) (by decide)) (by decide)) (by decide)) (by decide)) (by decide)) (by decide)) (by decide)) (by decide)) (by decide))) (zr.up hz17 (by decide))) lkRX8_22 (by decide) (by decide) rfl 131 6495 rfl rfl (by decide) (by decide) [.ref (K.2.1 125), .int 7, .ref (K.2.1 42)] rfl (Nat.le_of_ble_eq_true rfl) 149 rfl ?_
  refine C_aast (len := 12) (v := 125) (i := 7) C dX8_init_149 (by decide) (by decide) (by decide) (by decide) (vp_in_nI (n := 7) (by decide) (by decide)) 150 rfl ?_
  have hz18 := zr_sR (a := 42) (k := ix 7) (v := 125) (zr.up (m := 132) hz17 (by decide)) (by decide)
  refine C_iinc (v := 8) C dX8_init_150 0 rfl (by decide) [(1, .int 8), (0, .ref (K.2.1 0))] (lt_nl hnl (by decide)) rfl 153 rfl ?_
  refine C_goto C dX8_init_153 131 (by decide) ?_
  refine C_iload_n C dX8_init_131 (i := 1) rfl 0 rfl 132 rfl ?_
  refine C_bipush (v := 12) C dX8_init_132 (by decide) 134 rfl ?_
  refine C_ge_N C dX8_init_134 156 (by decide) (by decide) 137 rfl ?_
  refine C_aload_n C dX8_init_137 (i := 0) rfl 1 rfl 138 rfl ?_
  refine C_get (v := .ref (K.2.1 42)) C dX8_init_138 8 8 (r := (RX8, TX8, 19)) (by decide) (by decide) (by decide) rfl inX8 (by decide) rfl flcRX8_58 141 rfl ?_
  refine C_iload_n C dX8_init_141 (i := 1) rfl 0 rfl 142 rfl ?_
  refine C_new C dX8_init_142 2 (r := (RX2, TX2, 7)) (ty := tyX2) (by decide) (by decide) rfl inX2 tokX2 (df2 (zr.up hz18 (by decide)) (by decide)) clcRX8_20 inst2 iniX2 132 6502 rfl rfl (by decide) (by decide) 133 rfl 145 rfl ?_
  refine C_dup C dX8_init_145 rfl 146 rfl ?_
  refine C_callN C dX8_init_146 (fun _ z => z.2.2.1) (nX2_init HK (by decide) (by decide) ((mz_set (mz_set (mz_set (mz_set (mz_set (mz_set (mz_set (mz_set (mz_drM (mz_drM (mz_set (mz_set (mz_set (mz_set (mz_set (mz_set (mz_set (mz_set (mz_set (mz_set (mz_set (mz_set (mz_set (mz_set (mz_set (mz_set (mz_set (mz_set (mz.up (n := 0) (fun _ _ => rfl) (by decide) : mz m0 _) (by decide)) (by decide)) (by decide)) (by decide)) (by decide)) (by decide)) (by decide)) (by decide)) (by decide)) (by decide)) (by decide)) (by decide)) (by decide)) (by decide)) (by decide)) (by decide)) (by decide)) (by decide)) (by decide)) (by decide)) (by decide)) (by decide)) (by decide)) (by decide)) (by decide)) (by decide)) (by decide)) (by decide))) (zr.up hz18 (by decide))) lkRX8_22 (by decide) (by decide) rfl 138 6532 rfl rfl (by decide) (by decide) [.ref (K.2.1 132), .int 8, .ref (K.2.1 42)] rfl (Nat.le_of_ble_eq_true rfl) 149 rfl ?_
  refine C_aast (len := 12) (v := 132) (i := 8) C dX8_init_149 (by decide) (by decide) (by decide) (by decide) (vp_in_nI (n := 8) (by decide) (by decide)) 150 rfl ?_
  have hz19 := zr_sR (a := 42) (k := ix 8) (v := 132) (zr.up (m := 139) hz18 (by decide)) (by decide)
  refine C_iinc (v := 9) C dX8_init_150 0 rfl (by decide) [(1, .int 9), (0, .ref (K.2.1 0))] (lt_nl hnl (by decide)) rfl 153 rfl ?_
  refine C_goto C dX8_init_153 131 (by decide) ?_
  refine C_iload_n C dX8_init_131 (i := 1) rfl 0 rfl 132 rfl ?_
  refine C_bipush (v := 12) C dX8_init_132 (by decide) 134 rfl ?_
  refine C_ge_N C dX8_init_134 156 (by decide) (by decide) 137 rfl ?_
  refine C_aload_n C dX8_init_137 (i := 0) rfl 1 rfl 138 rfl ?_
  refine C_get (v := .ref (K.2.1 42)) C dX8_init_138 8 8 (r := (RX8, TX8, 19)) (by decide) (by decide) (by decide) rfl inX8 (by decide) rfl flcRX8_58 141 rfl ?_
  refine C_iload_n C dX8_init_141 (i := 1) rfl 0 rfl 142 rfl ?_
  refine C_new C dX8_init_142 2 (r := (RX2, TX2, 7)) (ty := tyX2) (by decide) (by decide) rfl inX2 tokX2 (df2 (zr.up hz19 (by decide)) (by decide)) clcRX8_20 inst2 iniX2 139 6539 rfl rfl (by decide) (by decide) 140 rfl 145 rfl ?_
  refine C_dup C dX8_init_145 rfl 146 rfl ?_
  refine C_callN C dX8_init_146 (fun _ z => z.2.2.1) (nX2_init HK (by decide) (by decide) ((mz_set (mz_set (mz_set (mz_set (mz_set (mz_set (mz_set (mz_set (mz_set (mz_drM (mz_drM (mz_set (mz_set (mz_set (mz_set (mz_set (mz_set (mz_set (mz_set (mz_set (mz_set (mz_set (mz_set (mz_set (mz_set (mz_set (mz_set (mz_set (mz_set (mz.up (n := 0) (fun _ _ => rfl) (by decide) : mz m0 _) (by decide)) (by decide)) (by decide)) (by decide)) (by decide)) (by decide)) (by decide)) (by decide)) (by decide)) (by decide)) (by decide)) (by decide)) (by decide)) (by decide)) (by decide)) (by decide)) (by decide)) (by decide)) (by decide)) (by decide)) (by decide)) (by decide)) (by decide)) (by decide)) (by decide)) (by decide)) (by decide)) (by decide)) (by decide))) (zr.up hz19 (by decide))) lkRX8_22 (by decide) (by decide) rfl 145 6569 rfl rfl (by decide) (by decide) [.ref (K.2.1 139), .int 9, .ref (K.2.1 42)] rfl (Nat.le_of_ble_eq_true rfl) 149 rfl ?_
  refine C_aast (len := 12) (v := 139) (i := 9) C dX8_init_149 (by decide) (by decide) (by decide) (by decide) (vp_in_nI (n := 9) (by decide) (by decide)) 150 rfl ?_
  have hz20 := zr_sR (a := 42) (k := ix 9) (v := 139) (zr.up (m := 146) hz19 (by decide)) (by decide)
  refine C_iinc (v := 10) C dX8_init_150 0 rfl (by decide) [(1, .int 10), (0, .ref (K.2.1 0))] (lt_nl hnl (by decide)) rfl 153 rfl ?_
  refine C_goto C dX8_init_153 131 (by decide) ?_
  refine C_iload_n C dX8_init_131 (i := 1) rfl 0 rfl 132 rfl ?_
  refine C_bipush (v := 12) C dX8_init_132 (by decide) 134 rfl ?_
  refine C_ge_N C dX8_init_134 156 (by decide) (by decide) 137 rfl ?_
  refine C_aload_n C dX8_init_137 (i := 0) rfl 1 rfl 138 rfl ?_
  refine C_get (v := .ref (K.2.1 42)) C dX8_init_138 8 8 (r := (RX8, TX8, 19)) (by decide) (by decide) (by decide) rfl inX8 (by decide) rfl flcRX8_58 141 rfl ?_
  refine C_iload_n C dX8_init_141 (i := 1) rfl 0 rfl 142 rfl ?_
  refine C_new C dX8_init_142 2 (r := (RX2, TX2, 7)) (ty := tyX2) (by decide) (by decide) rfl inX2 tokX2 (df2 (zr.up hz20 (by decide)) (by decide)) clcRX8_20 inst2 iniX2 146 6576 rfl rfl (by decide) (by decide) 147 rfl 145 rfl ?_
  refine C_dup C dX8_init_145 rfl 146 rfl ?_
  refine C_callN C dX8_init_146 (fun _ z => z.2.2.1) (nX2_init HK (by decide) (by decide) ((mz_set (mz_set (mz_set (mz_set (mz_set (mz_set (mz_set (mz_set (mz_set (mz_set (mz_drM (mz_drM (mz_set (mz_set (mz_set (mz_set (mz_set (mz_set (mz_set (mz_set (mz_set (mz_set (mz_set (mz_set (mz_set (mz_set (mz_set (mz_set (mz_set (mz_set (mz.up (n := 0) (fun _ _ => rfl) (by decide) : mz m0 _) (by decide)) (by decide)) (by decide)) (by decide)) (by decide)) (by decide)) (by decide)) (by decide)) (by decide)) (by decide)) (by decide)) (by decide)) (by decide)) (by decide)) (by decide)) (by decide)) (by decide)) (by decide)) (by decide)) (by decide)) (by decide)) (by decide)) (by decide)) (by decide)) (by decide)) (by decide)) (by decide)) (by decide)) (by decide)) (by decide))) (zr.up hz20 (by decide))) lkRX8_22 (by decide) (by decide) rfl 152 6606 rfl rfl (by decide) (by decide) [.ref (K.2.1 146), .int 10, .ref (K.2.1 42)] rfl (Nat.le_of_ble_eq_true rfl) 149 rfl ?_
  refine C_aast (len := 12) (v := 146) (i := 10) C dX8_init_149 (by decide) (by decide) (by decide) (by decide) (vp_in_nI (n := 10) (by decide) (by decide)) 150 rfl ?_
  have hz21 := zr_sR (a := 42) (k := ix 10) (v := 146) (zr.up (m := 153) hz20 (by decide)) (by decide)
  refine C_iinc (v := 11) C dX8_init_150 0 rfl (by decide) [(1, .int 11), (0, .ref (K.2.1 0))] (lt_nl hnl (by decide)) rfl 153 rfl ?_
  refine C_goto C dX8_init_153 131 (by decide) ?_
  refine C_iload_n C dX8_init_131 (i := 1) rfl 0 rfl 132 rfl ?_
  refine C_bipush (v := 12) C dX8_init_132 (by decide) 134 rfl ?_
  refine C_ge_N C dX8_init_134 156 (by decide) (by decide) 137 rfl ?_
  refine C_aload_n C dX8_init_137 (i := 0) rfl 1 rfl 138 rfl ?_
  refine C_get (v := .ref (K.2.1 42)) C dX8_init_138 8 8 (r := (RX8, TX8, 19)) (by decide) (by decide) (by decide) rfl inX8 (by decide) rfl flcRX8_58 141 rfl ?_
  refine C_iload_n C dX8_init_141 (i := 1) rfl 0 rfl 142 rfl ?_
  refine C_new C dX8_init_142 2 (r := (RX2, TX2, 7)) (ty := tyX2) (by decide) (by decide) rfl inX2 tokX2 (df2 (zr.up hz21 (by decide)) (by decide)) clcRX8_20 inst2 iniX2 153 6613 rfl rfl (by decide) (by decide) 154 rfl 145 rfl ?_
  refine C_dup C dX8_init_145 rfl 146 rfl ?_
  refine C_callN C dX8_init_146 (fun _ z => z.2.2.1) (nX2_init HK (by decide) (by decide) ((mz_set (mz_set (mz_set (mz_set (mz_set (mz_set (mz_set (mz_set (mz_set (mz_set (mz_set (mz_drM (mz_drM (mz_set (mz_set (mz_set (mz_set (mz_set (mz_set (mz_set (mz_set (mz_set (mz_set (mz_set (mz_set (mz_set (mz_set (mz_set (mz_set (mz_set (mz_set (mz.up (n := 0) (fun _ _ => rfl) (by decide) : mz m0 _) (by decide)) (by decide)) (by decide)) (by decide)) (by decide)) (by decide)) (by decide)) (by decide)) (by decide)) (by decide)) (by decide)) (by decide)) (by decide)) (by decide)) (by decide)) (by decide)) (by decide)) (by decide)) (by decide)) (by decide)) (by decide)) (by decide)) (by decide)) (by decide)) (by decide)) (by decide)) (by decide)) (by decide)) (by decide)) (by decide)) (by decide))) (zr.up hz21 (by decide))) lkRX8_22 (by decide) (by decide) rfl 159 6643 rfl rfl (by decide) (by decide) [.ref (K.2.1 153), .int 11, .ref (K.2.1 42)] rfl (Nat.le_of_ble_eq_true rfl) 149 rfl ?_
  refine C_aast (len := 12) (v := 153) (i := 11) C dX8_init_149 (by decide) (by decide) (by decide) (by decide) (vp_in_nI (n := 11) (by decide) (by decide)) 150 rfl ?_
  have hz22 := zr_sR (a := 42) (k := ix 11) (v := 153) (zr.up (m := 160) hz21 (by decide)) (by decide)
  refine C_iinc (v := 12) C dX8_init_150 0 rfl (by decide) [(1, .int 12), (0, .ref (K.2.1 0))] (lt_nl hnl (by decide)) rfl 153 rfl ?_
  refine C_goto C dX8_init_153 131 (by decide) ?_
  refine C_iload_n C dX8_init_131 (i := 1) rfl 0 rfl 132 rfl ?_
  refine C_bipush (v := 12) C dX8_init_132 (by decide) 134 rfl ?_
  refine C_ge_T C dX8_init_134 156 (by decide) (by decide) ?_
  refine C_iconst (v := 0) C dX8_init_156 (by decide) 157 rfl ?_
  refine C_istore_n C dX8_init_157 (i := 1) rfl [(1, .int 0), (0, .ref (K.2.1 0))] (lt_nl hnl (by decide)) rfl 158 rfl ?_
  refine C_iload_n C dX8_init_158 (i := 1) rfl 0 rfl 159 rfl ?_
  refine C_iconst (v := 3) C dX8_init_159 (by decide) 160 rfl ?_
  refine C_ge_N C dX8_init_160 182 (by decide) (by decide) 163 rfl ?_
  refine C_aload_n C dX8_init_163 (i := 0) rfl 1 rfl 164 rfl ?_
  refine C_get (v := .ref (K.2.1 43)) C dX8_init_164 8 9 (r := (RX8, TX8, 19)) (by decide) (by decide) (by decide) rfl inX8 (by decide) rfl flcRX8_62 167 rfl ?_
  refine C_iload_n C dX8_init_167 (i := 1) rfl 0 rfl 168 rfl ?_
  refine C_new C dX8_init_168 2 (r := (RX2, TX2, 7)) (ty := tyX2) (by decide) (by decide) rfl inX2 tokX2 (df2 (zr.up hz22 (by decide)) (by decide)) clcRX8_20 inst2 iniX2 160 6650 rfl rfl (by decide) (by decide) 161 rfl 171 rfl ?_
  refine C_dup C dX8_init_171 rfl 172 rfl ?_
  refine C_callN C dX8_init_172 (fun _ z => z.2.2.1) (nX2_init HK (by decide) (by decide) ((mz_set (mz_set (mz_set (mz_set (mz_set (mz_set (mz_set (mz_set (mz_set (mz_set (mz_set (mz_set (mz_drM (mz_drM (mz_set (mz_set (mz_set (mz_set (mz_set (mz_set (mz_set (mz_set (mz_set (mz_set (mz_set (mz_set (mz_set (mz_set (mz_set (mz_set (mz_set (mz_set (mz.up (n := 0) (fun _ _ => rfl) (by decide) : mz m0 _) (by decide)) (by decide)) (by decide)) (by decide)) (by decide)) (by decide)) (by decide)) (by decide)) (by decide)) (by decide)) (by decide)) (by decide)) (by decide)) (by decide)) (by decide)) (by decide)) (by decide)) (by decide)) (by decide)) (by decide)) (by decide)) (by decide)) (by decide)) (by decide)) (by decide)) (by decide)) (by decide)) (by decide)) (by decide)) (by decide)) (by decide)) (by decide))) (zr.up hz22 (by decide))) lkRX8_22 (by decide) (by decide) rfl 166 6680 rfl rfl (by decide) (by decide) [.ref (K.2.1 160), .int 0, .ref (K.2.1 43)] rfl (Nat.le_of_ble_eq_true rfl) 175 rfl ?_
  refine C_aast (len := 3) (v := 160) (i := 0) C dX8_init_175 (by decide) (by decide) (by decide) (by decide) (vp_in_nI (n := 0) (by decide) (by decide)) 176 rfl ?_
  have hz23 := zr_sR (a := 43) (k := ix 0) (v := 160) (zr.up (m := 167) hz22 (by decide)) (by decide)
  refine C_iinc (v := 1) C dX8_init_176 0 rfl (by decide) [(1, .int 1), (0, .ref (K.2.1 0))] (lt_nl hnl (by decide)) rfl 179 rfl ?_
  refine C_goto C dX8_init_179 158 (by decide) ?_
  refine C_iload_n C dX8_init_158 (i := 1) rfl 0 rfl 159 rfl ?_
  refine C_iconst (v := 3) C dX8_init_159 (by decide) 160 rfl ?_
  refine C_ge_N C dX8_init_160 182 (by decide) (by decide) 163 rfl ?_
  refine C_aload_n C dX8_init_163 (i := 0) rfl 1 rfl 164 rfl ?_
  refine C_get (v := .ref (K.2.1 43)) C dX8_init_164 8 9 (r := (RX8, TX8, 19)) (by decide) (by decide) (by decide) rfl inX8 (by decide) rfl flcRX8_62 167 rfl ?_
  refine C_iload_n C dX8_init_167 (i := 1) rfl 0 rfl 168 rfl ?_
  refine C_new C dX8_init_168 2 (r := (RX2, TX2, 7)) (ty := tyX2) (by decide) (by decide) rfl inX2 tokX2 (df2 (zr.up hz23 (by decide)) (by decide)) clcRX8_20 inst2 iniX2 167 6687 rfl rfl (by decide) (by decide) 168 rfl 171 rfl ?_
  refine C_dup C dX8_init_171 rfl 172 rfl ?_
  refine C_callN C dX8_init_172 (fun _ z => z.2.2.1) (nX2_init HK (by decide) (by decide) ((mz_set (mz_set (mz_set (mz_set (mz_set (mz_set (mz_set (mz_set (mz_set (mz_set (mz_set (mz_set (mz_set (mz_drM (mz_drM (mz_set (mz_set (mz_set (mz_set (mz_set (mz_set (mz_set (mz_set (mz_set (mz_set (mz_set (mz_set (mz_set (mz_set (mz_set (mz_set (mz_set (mz_set (mz.up (n := 0) (fun _ _ => rfl) (by decide) : mz m0 _) (by decide)) (by decide)) (by decide)) (by decide)) (by decide)) (by decide)) (by decide)) (by decide)) (by decide)) (by decide)) (by decide)) (by decide)) (by decide)) (by decide)) (by decide)) (by decide)) (by decide)) (by decide)) (by decide)) (by decide)) (by decide)) (by decide)) (by decide)) (by decide)) (by decide)) (by decide)) (by decide)) (by decide)) (by decide)) (by decide)) (by decide)) (by decide)) (by decide))) (zr.up hz23 (by decide))) lkRX8_22 (by decide) (by decide) rfl 173 6717 rfl rfl (by decide) (by decide) [.ref (K.2.1 167), .int 1, .ref (K.2.1 43)] rfl (Nat.le_of_ble_eq_true rfl) 175 rfl ?_
  refine C_aast (len := 3) (v := 167) (i := 1) C dX8_init_175 (by decide) (by decide) (by decide) (by decide) (vp_in_nI (n := 1) (by decide) (by decide)) 176 rfl ?_
  have hz24 := zr_sR (a := 43) (k := ix 1) (v := 167) (zr.up (m := 174) hz23 (by decide)) (by decide)
  refine C_iinc (v := 2) C dX8_init_176 0 rfl (by decide) [(1, .int 2), (0, .ref (K.2.1 0))] (lt_nl hnl (by decide)) rfl 179 rfl ?_
  refine C_goto C dX8_init_179 158 (by decide) ?_
  refine C_iload_n C dX8_init_158 (i := 1) rfl 0 rfl 159 rfl ?_
  refine C_iconst (v := 3) C dX8_init_159 (by decide) 160 rfl ?_
  refine C_ge_N C dX8_init_160 182 (by decide) (by decide) 163 rfl ?_
  refine C_aload_n C dX8_init_163 (i := 0) rfl 1 rfl 164 rfl ?_
  refine C_get (v := .ref (K.2.1 43)) C dX8_init_164 8 9 (r := (RX8, TX8, 19)) (by decide) (by decide) (by decide) rfl inX8 (by decide) rfl flcRX8_62 167 rfl ?_
  refine C_iload_n C dX8_init_167 (i := 1) rfl 0 rfl 168 rfl ?_
  refine C_new C dX8_init_168 2 (r := (RX2, TX2, 7)) (ty := tyX2) (by decide) (by decide) rfl inX2 tokX2 (df2 (zr.up hz24 (by decide)) (by decide)) clcRX8_20 inst2 iniX2 174 6724 rfl rfl (by decide) (by decide) 175 rfl 171 rfl ?_
  refine C_dup C dX8_init_171 rfl 172 rfl ?_
  refine C_callN C dX8_init_172 (fun _ z => z.2.2.1) (nX2_init HK (by decide) (by decide) ((mz_set (mz_set (mz_set (mz_set (mz_set (mz_set (mz_set (mz_set (mz_set (mz_set (mz_set (mz_set (mz_set (mz_set (mz_drM (mz_drM (mz_set (mz_set (mz_set (mz_set (mz_set (mz_set (mz_set (mz_set (mz_set (mz_set (mz_set (mz_set (mz_set (mz_set (mz_set (mz_set (mz_set (mz_set (mz.up (n := 0) (fun _ _ => rfl) (by decide) : mz m0 _) (by decide)) (by decide)) (by decide)) (by decide)) (by decide)) (by decide)) (by decide)) (by decide)) (by decide)) (by decide)) (by decide)) (by decide)) (by decide)) (by decide)) (by decide)) (by decide)) (by decide)) (by decide)) (by decide)) (by decide)) (by decide)) (by decide)) (by decide)) (by decide)) (by decide)) (by decide)) (by decide)) (by decide)) (by decide)) (by decide)) (by decide)) (by decide)) (by decide)) (by decide))) (zr.up hz24 (by decide))) lkRX8_22 (by decide) (by decide) rfl 180 6754 rfl rfl (by decide) (by decide) [.ref (K.2.1 174), .int 2, .ref (K.2.1 43)] rfl (Nat.le_of_ble_eq_true rfl) 175 rfl ?_
  refine C_aast (len := 3) (v := 174) (i := 2) C dX8_init_175 (by decide) (by decide) (by decide) (by decide) (vp_in_nI (n := 2) (by decide) (by decide)) 176 rfl ?_
  have hz25 := zr_sR (a := 43) (k := ix 2) (v := 174) (zr.up (m := 181) hz24 (by decide)) (by decide)
  refine C_iinc (v := 3) C dX8_init_176 0 rfl (by decide) [(1, .int 3), (0, .ref (K.2.1 0))] (lt_nl hnl (by decide)) rfl 179 rfl ?_
  refine C_goto C dX8_init_179 158 (by decide) ?_
  refine C_iload_n C dX8_init_158 (i := 1) rfl 0 rfl 159 rfl ?_
  refine C_iconst (v := 3) C dX8_init_159 (by decide) 160 rfl ?_
  refine C_ge_T C dX8_init_160 182 (by decide) (by decide) ?_
  exact C_vret C dX8_init_182 E rfl rfl rfl rfl rfl
