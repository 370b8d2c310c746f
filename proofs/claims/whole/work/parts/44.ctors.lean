def yX7_init : MethodName := ⟨RX7, "<init>", "(II)V"⟩
abbrev cX7_init : ByteArray := prog_9_method_1_code
set_option maxRecDepth 20000 in
theorem coX7_init : Cond.code yX7_init cX7_init 3 none ∈ TB := tb_t2 7 rfl rfl
theorem dX7_init_0 : decode cX7_init 0 = .ok (.aload_n 0, 1) := by decide +kernel
theorem dX7_init_1 : decode cX7_init 1 = .ok (.invokespecial 1, 3) := by decide +kernel
theorem dX7_init_4 : decode cX7_init 4 = .ok (.aload_n 0, 1) := by decide +kernel
theorem dX7_init_5 : decode cX7_init 5 = .ok (.iload_n 1, 1) := by decide +kernel
theorem dX7_init_6 : decode cX7_init 6 = .ok (.iconst 0, 1) := by decide +kernel
theorem dX7_init_7 : decode cX7_init 7 = .ok (.invokestatic 7, 3) := by decide +kernel
theorem dX7_init_10 : decode cX7_init 10 = .ok (.putfield 13, 3) := by decide +kernel
theorem dX7_init_13 : decode cX7_init 13 = .ok (.aload_n 0, 1) := by decide +kernel
theorem dX7_init_14 : decode cX7_init 14 = .ok (.iload_n 2, 1) := by decide +kernel
theorem dX7_init_15 : decode cX7_init 15 = .ok (.iconst 0, 1) := by decide +kernel
theorem dX7_init_16 : decode cX7_init 16 = .ok (.invokestatic 7, 3) := by decide +kernel
theorem dX7_init_19 : decode cX7_init 19 = .ok (.putfield 19, 3) := by decide +kernel
theorem dX7_init_22 : decode cX7_init 22 = .ok (.aload_n 0, 1) := by decide +kernel
theorem dX7_init_23 : decode cX7_init 23 = .ok (.aload_n 0, 1) := by decide +kernel
theorem dX7_init_24 : decode cX7_init 24 = .ok (.getfield 13, 3) := by decide +kernel
theorem dX7_init_27 : decode cX7_init 27 = .ok (.aload_n 0, 1) := by decide +kernel
theorem dX7_init_28 : decode cX7_init 28 = .ok (.getfield 19, 3) := by decide +kernel
theorem dX7_init_31 : decode cX7_init 31 = .ok (.imul, 1) := by decide +kernel
theorem dX7_init_32 : decode cX7_init 32 = .ok (.newarray .int, 2) := by decide +kernel
theorem dX7_init_34 : decode cX7_init 34 = .ok (.putfield 22, 3) := by decide +kernel
theorem dX7_init_37 : decode cX7_init 37 = .ok (.return_, 1) := by decide +kernel
def yX2_init : MethodName := ⟨RX2, "<init>", "()V"⟩
abbrev cX2_init : ByteArray := prog_4_method_1_code
set_option maxRecDepth 20000 in
theorem coX2_init : Cond.code yX2_init cX2_init 1 none ∈ TB := tb_t1 83 rfl rfl
theorem dX2_init_0 : decode cX2_init 0 = .ok (.aload_n 0, 1) := by decide +kernel
theorem dX2_init_1 : decode cX2_init 1 = .ok (.invokespecial 3, 3) := by decide +kernel
theorem dX2_init_4 : decode cX2_init 4 = .ok (.aload_n 0, 1) := by decide +kernel
theorem dX2_init_5 : decode cX2_init 5 = .ok (.iconst 5, 1) := by decide +kernel
theorem dX2_init_6 : decode cX2_init 6 = .ok (.newarray .int, 2) := by decide +kernel
theorem dX2_init_8 : decode cX2_init 8 = .ok (.putfield 9, 3) := by decide +kernel
theorem dX2_init_11 : decode cX2_init 11 = .ok (.aload_n 0, 1) := by decide +kernel
theorem dX2_init_12 : decode cX2_init 12 = .ok (.iconst 5, 1) := by decide +kernel
theorem dX2_init_13 : decode cX2_init 13 = .ok (.newarray .int, 2) := by decide +kernel
theorem dX2_init_15 : decode cX2_init 15 = .ok (.putfield 15, 3) := by decide +kernel
theorem dX2_init_18 : decode cX2_init 18 = .ok (.aload_n 0, 1) := by decide +kernel
theorem dX2_init_19 : decode cX2_init 19 = .ok (.iconst 5, 1) := by decide +kernel
theorem dX2_init_20 : decode cX2_init 20 = .ok (.newarray .int, 2) := by decide +kernel
theorem dX2_init_22 : decode cX2_init 22 = .ok (.putfield 18, 3) := by decide +kernel
theorem dX2_init_25 : decode cX2_init 25 = .ok (.aload_n 0, 1) := by decide +kernel
theorem dX2_init_26 : decode cX2_init 26 = .ok (.iconst 5, 1) := by decide +kernel
theorem dX2_init_27 : decode cX2_init 27 = .ok (.newarray .int, 2) := by decide +kernel
theorem dX2_init_29 : decode cX2_init 29 = .ok (.putfield 21, 3) := by decide +kernel
theorem dX2_init_32 : decode cX2_init 32 = .ok (.aload_n 0, 1) := by decide +kernel
theorem dX2_init_33 : decode cX2_init 33 = .ok (.iconst 5, 1) := by decide +kernel
theorem dX2_init_34 : decode cX2_init 34 = .ok (.newarray .long, 2) := by decide +kernel
theorem dX2_init_36 : decode cX2_init 36 = .ok (.putfield 24, 3) := by decide +kernel
theorem dX2_init_39 : decode cX2_init 39 = .ok (.aload_n 0, 1) := by decide +kernel
theorem dX2_init_40 : decode cX2_init 40 = .ok (.iconst 5, 1) := by decide +kernel
theorem dX2_init_41 : decode cX2_init 41 = .ok (.newarray .long, 2) := by decide +kernel
theorem dX2_init_43 : decode cX2_init 43 = .ok (.putfield 28, 3) := by decide +kernel
theorem dX2_init_46 : decode cX2_init 46 = .ok (.return_, 1) := by decide +kernel
def yX5_init : MethodName := ⟨RX5, "<init>", "()V"⟩
abbrev cX5_init : ByteArray := prog_7_method_1_code
set_option maxRecDepth 20000 in
theorem coX5_init : Cond.code yX5_init cX5_init 1 none ∈ TB := tb_t1 33 rfl rfl
theorem dX5_init_0 : decode cX5_init 0 = .ok (.aload_n 0, 1) := by decide +kernel
theorem dX5_init_1 : decode cX5_init 1 = .ok (.invokespecial 3, 3) := by decide +kernel
theorem dX5_init_4 : decode cX5_init 4 = .ok (.aload_n 0, 1) := by decide +kernel
theorem dX5_init_5 : decode cX5_init 5 = .ok (.bipush 14, 2) := by decide +kernel
theorem dX5_init_7 : decode cX5_init 7 = .ok (.newarray .long, 2) := by decide +kernel
theorem dX5_init_9 : decode cX5_init 9 = .ok (.putfield 11, 3) := by decide +kernel
theorem dX5_init_12 : decode cX5_init 12 = .ok (.aload_n 0, 1) := by decide +kernel
theorem dX5_init_13 : decode cX5_init 13 = .ok (.bipush 14, 2) := by decide +kernel
theorem dX5_init_15 : decode cX5_init 15 = .ok (.newarray .int, 2) := by decide +kernel
theorem dX5_init_17 : decode cX5_init 17 = .ok (.putfield 15, 3) := by decide +kernel
theorem dX5_init_20 : decode cX5_init 20 = .ok (.aload_n 0, 1) := by decide +kernel
theorem dX5_init_21 : decode cX5_init 21 = .ok (.bipush 14, 2) := by decide +kernel
theorem dX5_init_23 : decode cX5_init 23 = .ok (.newarray .int, 2) := by decide +kernel
theorem dX5_init_25 : decode cX5_init 25 = .ok (.putfield 19, 3) := by decide +kernel
theorem dX5_init_28 : decode cX5_init 28 = .ok (.return_, 1) := by decide +kernel
def yX3_init : MethodName := ⟨RX3, "<init>", "()V"⟩
abbrev cX3_init : ByteArray := prog_5_method_1_code
set_option maxRecDepth 20000 in
theorem coX3_init : Cond.code yX3_init cX3_init 1 none ∈ TB := tb_t1 120 rfl rfl
theorem dX3_init_0 : decode cX3_init 0 = .ok (.aload_n 0, 1) := by decide +kernel
theorem dX3_init_1 : decode cX3_init 1 = .ok (.invokespecial 3, 3) := by decide +kernel
theorem dX3_init_4 : decode cX3_init 4 = .ok (.aload_n 0, 1) := by decide +kernel
theorem dX3_init_5 : decode cX3_init 5 = .ok (.new 9, 3) := by decide +kernel
theorem dX3_init_8 : decode cX3_init 8 = .ok (.dup, 1) := by decide +kernel
theorem dX3_init_9 : decode cX3_init 9 = .ok (.invokespecial 11, 3) := by decide +kernel
theorem dX3_init_12 : decode cX3_init 12 = .ok (.putfield 12, 3) := by decide +kernel
theorem dX3_init_15 : decode cX3_init 15 = .ok (.return_, 1) := by decide +kernel
def yX4_init : MethodName := ⟨RX4, "<init>", "()V"⟩
abbrev cX4_init : ByteArray := prog_6_method_1_code
set_option maxRecDepth 20000 in
theorem coX4_init : Cond.code yX4_init cX4_init 1 none ∈ TB := tb_t1 144 rfl rfl
theorem dX4_init_0 : decode cX4_init 0 = .ok (.aload_n 0, 1) := by decide +kernel
theorem dX4_init_1 : decode cX4_init 1 = .ok (.invokespecial 3, 3) := by decide +kernel
theorem dX4_init_4 : decode cX4_init 4 = .ok (.aload_n 0, 1) := by decide +kernel
theorem dX4_init_5 : decode cX4_init 5 = .ok (.bipush 6, 2) := by decide +kernel
theorem dX4_init_7 : decode cX4_init 7 = .ok (.newarray .int, 2) := by decide +kernel
theorem dX4_init_9 : decode cX4_init 9 = .ok (.putfield 9, 3) := by decide +kernel
theorem dX4_init_12 : decode cX4_init 12 = .ok (.aload_n 0, 1) := by decide +kernel
theorem dX4_init_13 : decode cX4_init 13 = .ok (.bipush 6, 2) := by decide +kernel
theorem dX4_init_15 : decode cX4_init 15 = .ok (.newarray .int, 2) := by decide +kernel
theorem dX4_init_17 : decode cX4_init 17 = .ok (.putfield 15, 3) := by decide +kernel
theorem dX4_init_20 : decode cX4_init 20 = .ok (.return_, 1) := by decide +kernel
def yX6_init : MethodName := ⟨RX6, "<init>", "()V"⟩
abbrev cX6_init : ByteArray := prog_8_method_1_code
set_option maxRecDepth 20000 in
theorem coX6_init : Cond.code yX6_init cX6_init 1 none ∈ TB := tb_t1 181 rfl rfl
theorem dX6_init_0 : decode cX6_init 0 = .ok (.aload_n 0, 1) := by decide +kernel
theorem dX6_init_1 : decode cX6_init 1 = .ok (.invokespecial 3, 3) := by decide +kernel
theorem dX6_init_4 : decode cX6_init 4 = .ok (.aload_n 0, 1) := by decide +kernel
theorem dX6_init_5 : decode cX6_init 5 = .ok (.bipush 20, 2) := by decide +kernel
theorem dX6_init_7 : decode cX6_init 7 = .ok (.newarray .int, 2) := by decide +kernel
theorem dX6_init_9 : decode cX6_init 9 = .ok (.putfield 9, 3) := by decide +kernel
theorem dX6_init_12 : decode cX6_init 12 = .ok (.aload_n 0, 1) := by decide +kernel
theorem dX6_init_13 : decode cX6_init 13 = .ok (.iconst 5, 1) := by decide +kernel
theorem dX6_init_14 : decode cX6_init 14 = .ok (.newarray .int, 2) := by decide +kernel
theorem dX6_init_16 : decode cX6_init 16 = .ok (.putfield 15, 3) := by decide +kernel
theorem dX6_init_19 : decode cX6_init 19 = .ok (.aload_n 0, 1) := by decide +kernel
theorem dX6_init_20 : decode cX6_init 20 = .ok (.sipush 200, 3) := by decide +kernel
theorem dX6_init_23 : decode cX6_init 23 = .ok (.newarray .int, 2) := by decide +kernel
theorem dX6_init_25 : decode cX6_init 25 = .ok (.putfield 18, 3) := by decide +kernel
theorem dX6_init_28 : decode cX6_init 28 = .ok (.aload_n 0, 1) := by decide +kernel
theorem dX6_init_29 : decode cX6_init 29 = .ok (.sipush 1024, 3) := by decide +kernel
theorem dX6_init_32 : decode cX6_init 32 = .ok (.newarray .int, 2) := by decide +kernel
theorem dX6_init_34 : decode cX6_init 34 = .ok (.putfield 21, 3) := by decide +kernel
theorem dX6_init_37 : decode cX6_init 37 = .ok (.aload_n 0, 1) := by decide +kernel
theorem dX6_init_38 : decode cX6_init 38 = .ok (.sipush 1024, 3) := by decide +kernel
theorem dX6_init_41 : decode cX6_init 41 = .ok (.newarray .int, 2) := by decide +kernel
theorem dX6_init_43 : decode cX6_init 43 = .ok (.putfield 24, 3) := by decide +kernel
theorem dX6_init_46 : decode cX6_init 46 = .ok (.aload_n 0, 1) := by decide +kernel
theorem dX6_init_47 : decode cX6_init 47 = .ok (.sipush 1024, 3) := by decide +kernel
theorem dX6_init_50 : decode cX6_init 50 = .ok (.newarray .int, 2) := by decide +kernel
theorem dX6_init_52 : decode cX6_init 52 = .ok (.putfield 27, 3) := by decide +kernel
theorem dX6_init_55 : decode cX6_init 55 = .ok (.aload_n 0, 1) := by decide +kernel
theorem dX6_init_56 : decode cX6_init 56 = .ok (.sipush 1024, 3) := by decide +kernel
theorem dX6_init_59 : decode cX6_init 59 = .ok (.newarray .int, 2) := by decide +kernel
theorem dX6_init_61 : decode cX6_init 61 = .ok (.putfield 30, 3) := by decide +kernel
theorem dX6_init_64 : decode cX6_init 64 = .ok (.return_, 1) := by decide +kernel
def yX1_init : MethodName := ⟨RX1, "<init>", "()V"⟩
abbrev cX1_init : ByteArray := prog_3_method_1_code
set_option maxRecDepth 20000 in
theorem coX1_init : Cond.code yX1_init cX1_init 1 none ∈ TB := tb_t1 219 rfl rfl
theorem dX1_init_0 : decode cX1_init 0 = .ok (.aload_n 0, 1) := by decide +kernel
theorem dX1_init_1 : decode cX1_init 1 = .ok (.invokespecial 3, 3) := by decide +kernel
theorem dX1_init_4 : decode cX1_init 4 = .ok (.aload_n 0, 1) := by decide +kernel
theorem dX1_init_5 : decode cX1_init 5 = .ok (.iconst 5, 1) := by decide +kernel
theorem dX1_init_6 : decode cX1_init 6 = .ok (.newarray .int, 2) := by decide +kernel
theorem dX1_init_8 : decode cX1_init 8 = .ok (.putfield 9, 3) := by decide +kernel
theorem dX1_init_11 : decode cX1_init 11 = .ok (.aload_n 0, 1) := by decide +kernel
theorem dX1_init_12 : decode cX1_init 12 = .ok (.iconst 5, 1) := by decide +kernel
theorem dX1_init_13 : decode cX1_init 13 = .ok (.newarray .int, 2) := by decide +kernel
theorem dX1_init_15 : decode cX1_init 15 = .ok (.putfield 15, 3) := by decide +kernel
theorem dX1_init_18 : decode cX1_init 18 = .ok (.return_, 1) := by decide +kernel
def yX0_init : MethodName := ⟨RX0, "<init>", "()V"⟩
abbrev cX0_init : ByteArray := prog_2_method_1_code
set_option maxRecDepth 20000 in
theorem coX0_init : Cond.code yX0_init cX0_init 1 none ∈ TB := tb_t2 1 rfl rfl
theorem dX0_init_0 : decode cX0_init 0 = .ok (.aload_n 0, 1) := by decide +kernel
theorem dX0_init_1 : decode cX0_init 1 = .ok (.invokespecial 3, 3) := by decide +kernel
theorem dX0_init_4 : decode cX0_init 4 = .ok (.aload_n 0, 1) := by decide +kernel
theorem dX0_init_5 : decode cX0_init 5 = .ok (.iconst 5, 1) := by decide +kernel
theorem dX0_init_6 : decode cX0_init 6 = .ok (.newarray .int, 2) := by decide +kernel
theorem dX0_init_8 : decode cX0_init 8 = .ok (.putfield 9, 3) := by decide +kernel
theorem dX0_init_11 : decode cX0_init 11 = .ok (.aload_n 0, 1) := by decide +kernel
theorem dX0_init_12 : decode cX0_init 12 = .ok (.iconst 5, 1) := by decide +kernel
theorem dX0_init_13 : decode cX0_init 13 = .ok (.newarray .int, 2) := by decide +kernel
theorem dX0_init_15 : decode cX0_init 15 = .ok (.putfield 15, 3) := by decide +kernel
theorem dX0_init_18 : decode cX0_init 18 = .ok (.aload_n 0, 1) := by decide +kernel
theorem dX0_init_19 : decode cX0_init 19 = .ok (.bipush 100, 2) := by decide +kernel
theorem dX0_init_21 : decode cX0_init 21 = .ok (.newarray .int, 2) := by decide +kernel
theorem dX0_init_23 : decode cX0_init 23 = .ok (.putfield 18, 3) := by decide +kernel
theorem dX0_init_26 : decode cX0_init 26 = .ok (.aload_n 0, 1) := by decide +kernel
theorem dX0_init_27 : decode cX0_init 27 = .ok (.new 21, 3) := by decide +kernel
theorem dX0_init_30 : decode cX0_init 30 = .ok (.dup, 1) := by decide +kernel
theorem dX0_init_31 : decode cX0_init 31 = .ok (.iconst 5, 1) := by decide +kernel
theorem dX0_init_32 : decode cX0_init 32 = .ok (.bipush 6, 2) := by decide +kernel
theorem dX0_init_34 : decode cX0_init 34 = .ok (.invokespecial 23, 3) := by decide +kernel
theorem dX0_init_37 : decode cX0_init 37 = .ok (.putfield 26, 3) := by decide +kernel
theorem dX0_init_40 : decode cX0_init 40 = .ok (.aload_n 0, 1) := by decide +kernel
theorem dX0_init_41 : decode cX0_init 41 = .ok (.new 21, 3) := by decide +kernel
theorem dX0_init_44 : decode cX0_init 44 = .ok (.dup, 1) := by decide +kernel
theorem dX0_init_45 : decode cX0_init 45 = .ok (.bipush 20, 2) := by decide +kernel
theorem dX0_init_47 : decode cX0_init 47 = .ok (.iconst 3, 1) := by decide +kernel
theorem dX0_init_48 : decode cX0_init 48 = .ok (.invokespecial 23, 3) := by decide +kernel
theorem dX0_init_51 : decode cX0_init 51 = .ok (.putfield 30, 3) := by decide +kernel
theorem dX0_init_54 : decode cX0_init 54 = .ok (.aload_n 0, 1) := by decide +kernel
theorem dX0_init_55 : decode cX0_init 55 = .ok (.new 21, 3) := by decide +kernel
theorem dX0_init_58 : decode cX0_init 58 = .ok (.dup, 1) := by decide +kernel
theorem dX0_init_59 : decode cX0_init 59 = .ok (.bipush 8, 2) := by decide +kernel
theorem dX0_init_61 : decode cX0_init 61 = .ok (.iconst 4, 1) := by decide +kernel
theorem dX0_init_62 : decode cX0_init 62 = .ok (.invokespecial 23, 3) := by decide +kernel
theorem dX0_init_65 : decode cX0_init 65 = .ok (.putfield 33, 3) := by decide +kernel
theorem dX0_init_68 : decode cX0_init 68 = .ok (.aload_n 0, 1) := by decide +kernel
theorem dX0_init_69 : decode cX0_init 69 = .ok (.new 21, 3) := by decide +kernel
theorem dX0_init_72 : decode cX0_init 72 = .ok (.dup, 1) := by decide +kernel
theorem dX0_init_73 : decode cX0_init 73 = .ok (.bipush 6, 2) := by decide +kernel
theorem dX0_init_75 : decode cX0_init 75 = .ok (.iconst 3, 1) := by decide +kernel
theorem dX0_init_76 : decode cX0_init 76 = .ok (.invokespecial 23, 3) := by decide +kernel
theorem dX0_init_79 : decode cX0_init 79 = .ok (.putfield 36, 3) := by decide +kernel
theorem dX0_init_82 : decode cX0_init 82 = .ok (.aload_n 0, 1) := by decide +kernel
theorem dX0_init_83 : decode cX0_init 83 = .ok (.new 21, 3) := by decide +kernel
theorem dX0_init_86 : decode cX0_init 86 = .ok (.dup, 1) := by decide +kernel
theorem dX0_init_87 : decode cX0_init 87 = .ok (.bipush 6, 2) := by decide +kernel
theorem dX0_init_89 : decode cX0_init 89 = .ok (.iconst 3, 1) := by decide +kernel
theorem dX0_init_90 : decode cX0_init 90 = .ok (.invokespecial 23, 3) := by decide +kernel
theorem dX0_init_93 : decode cX0_init 93 = .ok (.putfield 39, 3) := by decide +kernel
theorem dX0_init_96 : decode cX0_init 96 = .ok (.aload_n 0, 1) := by decide +kernel
theorem dX0_init_97 : decode cX0_init 97 = .ok (.new 21, 3) := by decide +kernel
theorem dX0_init_100 : decode cX0_init 100 = .ok (.dup, 1) := by decide +kernel
theorem dX0_init_101 : decode cX0_init 101 = .ok (.bipush 6, 2) := by decide +kernel
theorem dX0_init_103 : decode cX0_init 103 = .ok (.iconst 3, 1) := by decide +kernel
theorem dX0_init_104 : decode cX0_init 104 = .ok (.invokespecial 23, 3) := by decide +kernel
theorem dX0_init_107 : decode cX0_init 107 = .ok (.putfield 42, 3) := by decide +kernel
theorem dX0_init_110 : decode cX0_init 110 = .ok (.return_, 1) := by decide +kernel
def yX8_init : MethodName := ⟨RX8, "<init>", "()V"⟩
abbrev cX8_init : ByteArray := prog_1_method_1_code
set_option maxRecDepth 20000 in
theorem coX8_init : Cond.code yX8_init cX8_init 2 none ∈ TB := tb_t1 25 rfl rfl
theorem dX8_init_0 : decode cX8_init 0 = .ok (.aload_n 0, 1) := by decide +kernel
theorem dX8_init_1 : decode cX8_init 1 = .ok (.invokespecial 1, 3) := by decide +kernel
theorem dX8_init_4 : decode cX8_init 4 = .ok (.aload_n 0, 1) := by decide +kernel
theorem dX8_init_5 : decode cX8_init 5 = .ok (.sipush 1000, 3) := by decide +kernel
theorem dX8_init_8 : decode cX8_init 8 = .ok (.newarray .byte, 2) := by decide +kernel
theorem dX8_init_10 : decode cX8_init 10 = .ok (.putfield 9, 3) := by decide +kernel
theorem dX8_init_13 : decode cX8_init 13 = .ok (.aload_n 0, 1) := by decide +kernel
theorem dX8_init_14 : decode cX8_init 14 = .ok (.new 13, 3) := by decide +kernel
theorem dX8_init_17 : decode cX8_init 17 = .ok (.dup, 1) := by decide +kernel
theorem dX8_init_18 : decode cX8_init 18 = .ok (.invokespecial 15, 3) := by decide +kernel
theorem dX8_init_21 : decode cX8_init 21 = .ok (.putfield 16, 3) := by decide +kernel
theorem dX8_init_24 : decode cX8_init 24 = .ok (.aload_n 0, 1) := by decide +kernel
theorem dX8_init_25 : decode cX8_init 25 = .ok (.new 20, 3) := by decide +kernel
theorem dX8_init_28 : decode cX8_init 28 = .ok (.dup, 1) := by decide +kernel
theorem dX8_init_29 : decode cX8_init 29 = .ok (.invokespecial 22, 3) := by decide +kernel
theorem dX8_init_32 : decode cX8_init 32 = .ok (.putfield 23, 3) := by decide +kernel
theorem dX8_init_35 : decode cX8_init 35 = .ok (.aload_n 0, 1) := by decide +kernel
theorem dX8_init_36 : decode cX8_init 36 = .ok (.new 20, 3) := by decide +kernel
theorem dX8_init_39 : decode cX8_init 39 = .ok (.dup, 1) := by decide +kernel
theorem dX8_init_40 : decode cX8_init 40 = .ok (.invokespecial 22, 3) := by decide +kernel
theorem dX8_init_43 : decode cX8_init 43 = .ok (.putfield 27, 3) := by decide +kernel
theorem dX8_init_46 : decode cX8_init 46 = .ok (.aload_n 0, 1) := by decide +kernel
theorem dX8_init_47 : decode cX8_init 47 = .ok (.new 30, 3) := by decide +kernel
theorem dX8_init_50 : decode cX8_init 50 = .ok (.dup, 1) := by decide +kernel
theorem dX8_init_51 : decode cX8_init 51 = .ok (.invokespecial 32, 3) := by decide +kernel
theorem dX8_init_54 : decode cX8_init 54 = .ok (.putfield 33, 3) := by decide +kernel
theorem dX8_init_57 : decode cX8_init 57 = .ok (.aload_n 0, 1) := by decide +kernel
theorem dX8_init_58 : decode cX8_init 58 = .ok (.new 37, 3) := by decide +kernel
theorem dX8_init_61 : decode cX8_init 61 = .ok (.dup, 1) := by decide +kernel
theorem dX8_init_62 : decode cX8_init 62 = .ok (.invokespecial 39, 3) := by decide +kernel
theorem dX8_init_65 : decode cX8_init 65 = .ok (.putfield 40, 3) := by decide +kernel
theorem dX8_init_68 : decode cX8_init 68 = .ok (.aload_n 0, 1) := by decide +kernel
theorem dX8_init_69 : decode cX8_init 69 = .ok (.new 44, 3) := by decide +kernel
theorem dX8_init_72 : decode cX8_init 72 = .ok (.dup, 1) := by decide +kernel
theorem dX8_init_73 : decode cX8_init 73 = .ok (.invokespecial 46, 3) := by decide +kernel
theorem dX8_init_76 : decode cX8_init 76 = .ok (.putfield 47, 3) := by decide +kernel
theorem dX8_init_79 : decode cX8_init 79 = .ok (.aload_n 0, 1) := by decide +kernel
theorem dX8_init_80 : decode cX8_init 80 = .ok (.new 51, 3) := by decide +kernel
theorem dX8_init_83 : decode cX8_init 83 = .ok (.dup, 1) := by decide +kernel
theorem dX8_init_84 : decode cX8_init 84 = .ok (.invokespecial 53, 3) := by decide +kernel
theorem dX8_init_87 : decode cX8_init 87 = .ok (.putfield 54, 3) := by decide +kernel
theorem dX8_init_90 : decode cX8_init 90 = .ok (.aload_n 0, 1) := by decide +kernel
theorem dX8_init_91 : decode cX8_init 91 = .ok (.bipush 12, 2) := by decide +kernel
theorem dX8_init_93 : decode cX8_init 93 = .ok (.anewarray 20, 3) := by decide +kernel
theorem dX8_init_96 : decode cX8_init 96 = .ok (.putfield 58, 3) := by decide +kernel
theorem dX8_init_99 : decode cX8_init 99 = .ok (.aload_n 0, 1) := by decide +kernel
theorem dX8_init_100 : decode cX8_init 100 = .ok (.iconst 3, 1) := by decide +kernel
theorem dX8_init_101 : decode cX8_init 101 = .ok (.anewarray 20, 3) := by decide +kernel
theorem dX8_init_104 : decode cX8_init 104 = .ok (.putfield 62, 3) := by decide +kernel
theorem dX8_init_107 : decode cX8_init 107 = .ok (.aload_n 0, 1) := by decide +kernel
theorem dX8_init_108 : decode cX8_init 108 = .ok (.new 65, 3) := by decide +kernel
theorem dX8_init_111 : decode cX8_init 111 = .ok (.dup, 1) := by decide +kernel
theorem dX8_init_112 : decode cX8_init 112 = .ok (.invokespecial 67, 3) := by decide +kernel
theorem dX8_init_115 : decode cX8_init 115 = .ok (.putfield 68, 3) := by decide +kernel
theorem dX8_init_118 : decode cX8_init 118 = .ok (.aload_n 0, 1) := by decide +kernel
theorem dX8_init_119 : decode cX8_init 119 = .ok (.new 65, 3) := by decide +kernel
theorem dX8_init_122 : decode cX8_init 122 = .ok (.dup, 1) := by decide +kernel
theorem dX8_init_123 : decode cX8_init 123 = .ok (.invokespecial 67, 3) := by decide +kernel
theorem dX8_init_126 : decode cX8_init 126 = .ok (.putfield 72, 3) := by decide +kernel
theorem dX8_init_129 : decode cX8_init 129 = .ok (.iconst 0, 1) := by decide +kernel
theorem dX8_init_130 : decode cX8_init 130 = .ok (.istore_n 1, 1) := by decide +kernel
theorem dX8_init_131 : decode cX8_init 131 = .ok (.iload_n 1, 1) := by decide +kernel
theorem dX8_init_132 : decode cX8_init 132 = .ok (.bipush 12, 2) := by decide +kernel
theorem dX8_init_134 : decode cX8_init 134 = .ok (.if_icmp .ge 22, 3) := by decide +kernel
theorem dX8_init_137 : decode cX8_init 137 = .ok (.aload_n 0, 1) := by decide +kernel
theorem dX8_init_138 : decode cX8_init 138 = .ok (.getfield 58, 3) := by decide +kernel
theorem dX8_init_141 : decode cX8_init 141 = .ok (.iload_n 1, 1) := by decide +kernel
theorem dX8_init_142 : decode cX8_init 142 = .ok (.new 20, 3) := by decide +kernel
theorem dX8_init_145 : decode cX8_init 145 = .ok (.dup, 1) := by decide +kernel
theorem dX8_init_146 : decode cX8_init 146 = .ok (.invokespecial 22, 3) := by decide +kernel
theorem dX8_init_149 : decode cX8_init 149 = .ok (.aastore, 1) := by decide +kernel
theorem dX8_init_150 : decode cX8_init 150 = .ok (.iinc 1 1, 3) := by decide +kernel
theorem dX8_init_153 : decode cX8_init 153 = .ok (.goto (-22), 3) := by decide +kernel
theorem dX8_init_156 : decode cX8_init 156 = .ok (.iconst 0, 1) := by decide +kernel
theorem dX8_init_157 : decode cX8_init 157 = .ok (.istore_n 1, 1) := by decide +kernel
theorem dX8_init_158 : decode cX8_init 158 = .ok (.iload_n 1, 1) := by decide +kernel
theorem dX8_init_159 : decode cX8_init 159 = .ok (.iconst 3, 1) := by decide +kernel
theorem dX8_init_160 : decode cX8_init 160 = .ok (.if_icmp .ge 22, 3) := by decide +kernel
theorem dX8_init_163 : decode cX8_init 163 = .ok (.aload_n 0, 1) := by decide +kernel
theorem dX8_init_164 : decode cX8_init 164 = .ok (.getfield 62, 3) := by decide +kernel
theorem dX8_init_167 : decode cX8_init 167 = .ok (.iload_n 1, 1) := by decide +kernel
theorem dX8_init_168 : decode cX8_init 168 = .ok (.new 20, 3) := by decide +kernel
theorem dX8_init_171 : decode cX8_init 171 = .ok (.dup, 1) := by decide +kernel
theorem dX8_init_172 : decode cX8_init 172 = .ok (.invokespecial 22, 3) := by decide +kernel
theorem dX8_init_175 : decode cX8_init 175 = .ok (.aastore, 1) := by decide +kernel
theorem dX8_init_176 : decode cX8_init 176 = .ok (.iinc 1 1, 3) := by decide +kernel
theorem dX8_init_179 : decode cX8_init 179 = .ok (.goto (-21), 3) := by decide +kernel
theorem dX8_init_182 : decode cX8_init 182 = .ok (.return_, 1) := by decide +kernel
def yX9_init : MethodName := ⟨RX9, "<init>", "()V"⟩
abbrev cX9_init : ByteArray := prog_11_method_1_code
set_option maxRecDepth 20000 in
theorem coX9_init : Cond.code yX9_init cX9_init 1 none ∈ TB := tb_t6 110 rfl rfl
theorem dX9_init_0 : decode cX9_init 0 = .ok (.aload_n 0, 1) := by decide +kernel
theorem dX9_init_1 : decode cX9_init 1 = .ok (.invokespecial 1, 3) := by decide +kernel
theorem dX9_init_4 : decode cX9_init 4 = .ok (.aload_n 0, 1) := by decide +kernel
theorem dX9_init_5 : decode cX9_init 5 = .ok (.sipush 1000, 3) := by decide +kernel
theorem dX9_init_8 : decode cX9_init 8 = .ok (.newarray .int, 2) := by decide +kernel
theorem dX9_init_10 : decode cX9_init 10 = .ok (.putfield 7, 3) := by decide +kernel
theorem dX9_init_13 : decode cX9_init 13 = .ok (.aload_n 0, 1) := by decide +kernel
theorem dX9_init_14 : decode cX9_init 14 = .ok (.iconst (-1), 1) := by decide +kernel
theorem dX9_init_15 : decode cX9_init 15 = .ok (.putfield 13, 3) := by decide +kernel
theorem dX9_init_18 : decode cX9_init 18 = .ok (.aload_n 0, 1) := by decide +kernel
theorem dX9_init_19 : decode cX9_init 19 = .ok (.bipush 8, 2) := by decide +kernel
theorem dX9_init_21 : decode cX9_init 21 = .ok (.newarray .int, 2) := by decide +kernel
theorem dX9_init_23 : decode cX9_init 23 = .ok (.putfield 17, 3) := by decide +kernel
theorem dX9_init_26 : decode cX9_init 26 = .ok (.aload_n 0, 1) := by decide +kernel
theorem dX9_init_27 : decode cX9_init 27 = .ok (.sipush 316, 3) := by decide +kernel
theorem dX9_init_30 : decode cX9_init 30 = .ok (.newarray .int, 2) := by decide +kernel
theorem dX9_init_32 : decode cX9_init 32 = .ok (.putfield 20, 3) := by decide +kernel
theorem dX9_init_35 : decode cX9_init 35 = .ok (.aload_n 0, 1) := by decide +kernel
theorem dX9_init_36 : decode cX9_init 36 = .ok (.sipush 316, 3) := by decide +kernel
theorem dX9_init_39 : decode cX9_init 39 = .ok (.newarray .int, 2) := by decide +kernel
theorem dX9_init_41 : decode cX9_init 41 = .ok (.putfield 23, 3) := by decide +kernel
theorem dX9_init_44 : decode cX9_init 44 = .ok (.aload_n 0, 1) := by decide +kernel
theorem dX9_init_45 : decode cX9_init 45 = .ok (.bipush 20, 2) := by decide +kernel
theorem dX9_init_47 : decode cX9_init 47 = .ok (.newarray .int, 2) := by decide +kernel
theorem dX9_init_49 : decode cX9_init 49 = .ok (.putfield 26, 3) := by decide +kernel
theorem dX9_init_52 : decode cX9_init 52 = .ok (.aload_n 0, 1) := by decide +kernel
theorem dX9_init_53 : decode cX9_init 53 = .ok (.sipush 240, 3) := by decide +kernel
theorem dX9_init_56 : decode cX9_init 56 = .ok (.newarray .int, 2) := by decide +kernel
theorem dX9_init_58 : decode cX9_init 58 = .ok (.putfield 29, 3) := by decide +kernel
theorem dX9_init_61 : decode cX9_init 61 = .ok (.aload_n 0, 1) := by decide +kernel
theorem dX9_init_62 : decode cX9_init 62 = .ok (.bipush 60, 2) := by decide +kernel
theorem dX9_init_64 : decode cX9_init 64 = .ok (.newarray .int, 2) := by decide +kernel
theorem dX9_init_66 : decode cX9_init 66 = .ok (.putfield 32, 3) := by decide +kernel
theorem dX9_init_69 : decode cX9_init 69 = .ok (.aload_n 0, 1) := by decide +kernel
theorem dX9_init_70 : decode cX9_init 70 = .ok (.bipush 20, 2) := by decide +kernel
theorem dX9_init_72 : decode cX9_init 72 = .ok (.newarray .int, 2) := by decide +kernel
theorem dX9_init_74 : decode cX9_init 74 = .ok (.putfield 35, 3) := by decide +kernel
theorem dX9_init_77 : decode cX9_init 77 = .ok (.aload_n 0, 1) := by decide +kernel
theorem dX9_init_78 : decode cX9_init 78 = .ok (.bipush 31, 2) := by decide +kernel
theorem dX9_init_80 : decode cX9_init 80 = .ok (.newarray .long, 2) := by decide +kernel
theorem dX9_init_82 : decode cX9_init 82 = .ok (.putfield 38, 3) := by decide +kernel
theorem dX9_init_85 : decode cX9_init 85 = .ok (.aload_n 0, 1) := by decide +kernel
theorem dX9_init_86 : decode cX9_init 86 = .ok (.sipush 372, 3) := by decide +kernel
theorem dX9_init_89 : decode cX9_init 89 = .ok (.newarray .long, 2) := by decide +kernel
theorem dX9_init_91 : decode cX9_init 91 = .ok (.putfield 42, 3) := by decide +kernel
theorem dX9_init_94 : decode cX9_init 94 = .ok (.aload_n 0, 1) := by decide +kernel
theorem dX9_init_95 : decode cX9_init 95 = .ok (.bipush 93, 2) := by decide +kernel
theorem dX9_init_97 : decode cX9_init 97 = .ok (.newarray .long, 2) := by decide +kernel
theorem dX9_init_99 : decode cX9_init 99 = .ok (.putfield 45, 3) := by decide +kernel
theorem dX9_init_102 : decode cX9_init 102 = .ok (.aload_n 0, 1) := by decide +kernel
theorem dX9_init_103 : decode cX9_init 103 = .ok (.bipush 31, 2) := by decide +kernel
theorem dX9_init_105 : decode cX9_init 105 = .ok (.newarray .long, 2) := by decide +kernel
theorem dX9_init_107 : decode cX9_init 107 = .ok (.putfield 48, 3) := by decide +kernel
theorem dX9_init_110 : decode cX9_init 110 = .ok (.aload_n 0, 1) := by decide +kernel
theorem dX9_init_111 : decode cX9_init 111 = .ok (.bipush 6, 2) := by decide +kernel
theorem dX9_init_113 : decode cX9_init 113 = .ok (.newarray .int, 2) := by decide +kernel
theorem dX9_init_115 : decode cX9_init 115 = .ok (.putfield 51, 3) := by decide +kernel
theorem dX9_init_118 : decode cX9_init 118 = .ok (.aload_n 0, 1) := by decide +kernel
theorem dX9_init_119 : decode cX9_init 119 = .ok (.bipush 6, 2) := by decide +kernel
theorem dX9_init_121 : decode cX9_init 121 = .ok (.newarray .int, 2) := by decide +kernel
theorem dX9_init_123 : decode cX9_init 123 = .ok (.putfield 54, 3) := by decide +kernel
theorem dX9_init_126 : decode cX9_init 126 = .ok (.aload_n 0, 1) := by decide +kernel
theorem dX9_init_127 : decode cX9_init 127 = .ok (.sipush 3125, 3) := by decide +kernel
theorem dX9_init_130 : decode cX9_init 130 = .ok (.newarray .int, 2) := by decide +kernel
theorem dX9_init_132 : decode cX9_init 132 = .ok (.putfield 57, 3) := by decide +kernel
theorem dX9_init_135 : decode cX9_init 135 = .ok (.aload_n 0, 1) := by decide +kernel
theorem dX9_init_136 : decode cX9_init 136 = .ok (.sipush 3125, 3) := by decide +kernel
theorem dX9_init_139 : decode cX9_init 139 = .ok (.newarray .int, 2) := by decide +kernel
theorem dX9_init_141 : decode cX9_init 141 = .ok (.putfield 60, 3) := by decide +kernel
theorem dX9_init_144 : decode cX9_init 144 = .ok (.aload_n 0, 1) := by decide +kernel
theorem dX9_init_145 : decode cX9_init 145 = .ok (.sipush 3125, 3) := by decide +kernel
theorem dX9_init_148 : decode cX9_init 148 = .ok (.newarray .int, 2) := by decide +kernel
theorem dX9_init_150 : decode cX9_init 150 = .ok (.putfield 63, 3) := by decide +kernel
theorem dX9_init_153 : decode cX9_init 153 = .ok (.aload_n 0, 1) := by decide +kernel
theorem dX9_init_154 : decode cX9_init 154 = .ok (.iconst 4, 1) := by decide +kernel
theorem dX9_init_155 : decode cX9_init 155 = .ok (.newarray .int, 2) := by decide +kernel
theorem dX9_init_157 : decode cX9_init 157 = .ok (.putfield 66, 3) := by decide +kernel
theorem dX9_init_160 : decode cX9_init 160 = .ok (.aload_n 0, 1) := by decide +kernel
theorem dX9_init_161 : decode cX9_init 161 = .ok (.iconst 4, 1) := by decide +kernel
theorem dX9_init_162 : decode cX9_init 162 = .ok (.newarray .int, 2) := by decide +kernel
theorem dX9_init_164 : decode cX9_init 164 = .ok (.putfield 69, 3) := by decide +kernel
theorem dX9_init_167 : decode cX9_init 167 = .ok (.return_, 1) := by decide +kernel
theorem iobj : Cond.instanceMethod Lib.objectInit ∈ TB := tb_1 180 (by decide +kernel) (by decide +kernel)
set_option maxRecDepth 20000 in
theorem coobj : Cond.code Lib.objectInit ⟨#[0xb1]⟩ 1 none ∈ TB := tb_t1 28 rfl rfl
theorem acint : Cond.arrayClass .int ∈ TB := tb_1 231 (by decide +kernel) (by decide +kernel)
theorem acbyte : Cond.arrayClass .byte ∈ TB := tb_1 229 (by decide +kernel) (by decide +kernel)
theorem aclong : Cond.arrayClass .long ∈ TB := tb_1 230 (by decide +kernel) (by decide +kernel)
theorem inst0 : Cond.instantiable RX0 14 ∈ TB := tb_1 391 (by decide +kernel) (by decide +kernel)
theorem iniX0 : Cond.initialized RX0 ∈ TB := tb_1 161 (by decide +kernel) (by decide +kernel)
theorem df0 {ad : Nat → Nat} {mk : MK} {h : HH} {n : Nat} (hz : zr h n) (hm : mk n = 0) : ∀ j, j < 14 → defaultValue (tyX0 j) = vp_V (fldc ad mk h 0 n) j := by
  obtain ⟨h1, h2, h3⟩ := hz n (Nat.le_refl _)
  simp only [fldc, gI, gL, gR, h1, h2, h3, hm, rfv, Nat.lt_irrefl, Nat.not_lt_zero, if_false]
  decide
theorem fc_0_0 {ad : Nat → Nat} {mk : MK} {h : HH} {a : Nat} (hm : mk a = 0) : (fldc ad mk h 0 a).set 0 (.ref (ad (a + 1))) = fldc ad (mset mk a 1) h 0 a := by simp [fldc, mset, hm]
theorem fc_0_1 {ad : Nat → Nat} {mk : MK} {h : HH} {a : Nat} (hm : mk a = 1) : (fldc ad mk h 0 a).set 1 (.ref (ad (a + 2))) = fldc ad (mset mk a 2) h 0 a := by simp [fldc, mset, hm]
theorem fc_0_2 {ad : Nat → Nat} {mk : MK} {h : HH} {a : Nat} (hm : mk a = 2) : (fldc ad mk h 0 a).set 2 (.ref (ad (a + 3))) = fldc ad (mset mk a 3) h 0 a := by simp [fldc, mset, hm]
theorem fc_0_3 {ad : Nat → Nat} {mk : MK} {h : HH} {a : Nat} (hm : mk a = 3) : (fldc ad mk h 0 a).set 3 (.ref (ad (a + 4))) = fldc ad (mset mk a 4) h 0 a := by simp [fldc, mset, hm]
theorem fc_0_4 {ad : Nat → Nat} {mk : MK} {h : HH} {a : Nat} (hm : mk a = 4) : (fldc ad mk h 0 a).set 4 (.ref (ad (a + 6))) = fldc ad (mset mk a 5) h 0 a := by simp [fldc, mset, hm]
theorem fc_0_5 {ad : Nat → Nat} {mk : MK} {h : HH} {a : Nat} (hm : mk a = 5) : (fldc ad mk h 0 a).set 5 (.ref (ad (a + 8))) = fldc ad (mset mk a 6) h 0 a := by simp [fldc, mset, hm]
theorem fc_0_6 {ad : Nat → Nat} {mk : MK} {h : HH} {a : Nat} (hm : mk a = 6) : (fldc ad mk h 0 a).set 6 (.ref (ad (a + 10))) = fldc ad (mset mk a 7) h 0 a := by simp [fldc, mset, hm]
theorem fc_0_7 {ad : Nat → Nat} {mk : MK} {h : HH} {a : Nat} (hm : mk a = 7) : (fldc ad mk h 0 a).set 7 (.ref (ad (a + 12))) = fldc ad (mset mk a 8) h 0 a := by simp [fldc, mset, hm]
theorem fc_0_8 {ad : Nat → Nat} {mk : MK} {h : HH} {a : Nat} (hm : mk a = 8) : (fldc ad mk h 0 a).set 8 (.ref (ad (a + 14))) = fldc ad (mset mk a 9) h 0 a := by simp [fldc, mset, hm]
theorem inst1 : Cond.instantiable RX1 4 ∈ TB := tb_1 369 (by decide +kernel) (by decide +kernel)
theorem iniX1 : Cond.initialized RX1 ∈ TB := tb_1 160 (by decide +kernel) (by decide +kernel)
theorem df1 {ad : Nat → Nat} {mk : MK} {h : HH} {n : Nat} (hz : zr h n) (hm : mk n = 0) : ∀ j, j < 4 → defaultValue (tyX1 j) = vp_V (fldc ad mk h 1 n) j := by
  obtain ⟨h1, h2, h3⟩ := hz n (Nat.le_refl _)
  simp only [fldc, gI, gL, gR, h1, h2, h3, hm, rfv, Nat.lt_irrefl, Nat.not_lt_zero, if_false]
  decide
theorem fc_1_2 {ad : Nat → Nat} {mk : MK} {h : HH} {a : Nat} (hm : mk a = 0) : (fldc ad mk h 1 a).set 2 (.ref (ad (a + 1))) = fldc ad (mset mk a 3) h 1 a := by simp [fldc, mset, hm]
theorem fc_1_3 {ad : Nat → Nat} {mk : MK} {h : HH} {a : Nat} (hm : mk a = 3) : (fldc ad mk h 1 a).set 3 (.ref (ad (a + 2))) = fldc ad (mset mk a 4) h 1 a := by simp [fldc, mset, hm]
theorem inst2 : Cond.instantiable RX2 7 ∈ TB := tb_1 233 (by decide +kernel) (by decide +kernel)
theorem iniX2 : Cond.initialized RX2 ∈ TB := tb_1 156 (by decide +kernel) (by decide +kernel)
theorem df2 {ad : Nat → Nat} {mk : MK} {h : HH} {n : Nat} (hz : zr h n) (hm : mk n = 0) : ∀ j, j < 7 → defaultValue (tyX2 j) = vp_V (fldc ad mk h 2 n) j := by
  obtain ⟨h1, h2, h3⟩ := hz n (Nat.le_refl _)
  simp only [fldc, gI, gL, gR, h1, h2, h3, hm, rfv, Nat.lt_irrefl, Nat.not_lt_zero, if_false]
  decide
theorem fc_2_0 {ad : Nat → Nat} {mk : MK} {h : HH} {a : Nat} (hm : mk a = 0) : (fldc ad mk h 2 a).set 0 (.ref (ad (a + 1))) = fldc ad (mset mk a 1) h 2 a := by simp [fldc, mset, hm]
theorem fc_2_1 {ad : Nat → Nat} {mk : MK} {h : HH} {a : Nat} (hm : mk a = 1) : (fldc ad mk h 2 a).set 1 (.ref (ad (a + 2))) = fldc ad (mset mk a 2) h 2 a := by simp [fldc, mset, hm]
theorem fc_2_2 {ad : Nat → Nat} {mk : MK} {h : HH} {a : Nat} (hm : mk a = 2) : (fldc ad mk h 2 a).set 2 (.ref (ad (a + 3))) = fldc ad (mset mk a 3) h 2 a := by simp [fldc, mset, hm]
theorem fc_2_3 {ad : Nat → Nat} {mk : MK} {h : HH} {a : Nat} (hm : mk a = 3) : (fldc ad mk h 2 a).set 3 (.ref (ad (a + 4))) = fldc ad (mset mk a 4) h 2 a := by simp [fldc, mset, hm]
theorem fc_2_4 {ad : Nat → Nat} {mk : MK} {h : HH} {a : Nat} (hm : mk a = 4) : (fldc ad mk h 2 a).set 4 (.ref (ad (a + 5))) = fldc ad (mset mk a 5) h 2 a := by simp [fldc, mset, hm]
theorem fc_2_5 {ad : Nat → Nat} {mk : MK} {h : HH} {a : Nat} (hm : mk a = 5) : (fldc ad mk h 2 a).set 5 (.ref (ad (a + 6))) = fldc ad (mset mk a 6) h 2 a := by simp [fldc, mset, hm]
theorem inst3 : Cond.instantiable RX3 5 ∈ TB := tb_1 270 (by decide +kernel) (by decide +kernel)
theorem iniX3 : Cond.initialized RX3 ∈ TB := tb_1 157 (by decide +kernel) (by decide +kernel)
theorem df3 {ad : Nat → Nat} {mk : MK} {h : HH} {n : Nat} (hz : zr h n) (hm : mk n = 0) : ∀ j, j < 5 → defaultValue (tyX3 j) = vp_V (fldc ad mk h 3 n) j := by
  obtain ⟨h1, h2, h3⟩ := hz n (Nat.le_refl _)
  simp only [fldc, gI, gL, gR, h1, h2, h3, hm, rfv, Nat.lt_irrefl, Nat.not_lt_zero, if_false]
  decide
theorem fc_3_0 {ad : Nat → Nat} {mk : MK} {h : HH} {a : Nat} (hm : mk a = 0) : (fldc ad mk h 3 a).set 0 (.ref (ad (a + 1))) = fldc ad (mset mk a 1) h 3 a := by simp [fldc, mset, hm]
theorem inst4 : Cond.instantiable RX4 8 ∈ TB := tb_1 294 (by decide +kernel) (by decide +kernel)
theorem iniX4 : Cond.initialized RX4 ∈ TB := tb_1 158 (by decide +kernel) (by decide +kernel)
theorem df4 {ad : Nat → Nat} {mk : MK} {h : HH} {n : Nat} (hz : zr h n) (hm : mk n = 0) : ∀ j, j < 8 → defaultValue (tyX4 j) = vp_V (fldc ad mk h 4 n) j := by
  obtain ⟨h1, h2, h3⟩ := hz n (Nat.le_refl _)
  simp only [fldc, gI, gL, gR, h1, h2, h3, hm, rfv, Nat.lt_irrefl, Nat.not_lt_zero, if_false]
  decide
theorem fc_4_0 {ad : Nat → Nat} {mk : MK} {h : HH} {a : Nat} (hm : mk a = 0) : (fldc ad mk h 4 a).set 0 (.ref (ad (a + 1))) = fldc ad (mset mk a 1) h 4 a := by simp [fldc, mset, hm]
theorem fc_4_1 {ad : Nat → Nat} {mk : MK} {h : HH} {a : Nat} (hm : mk a = 1) : (fldc ad mk h 4 a).set 1 (.ref (ad (a + 2))) = fldc ad (mset mk a 2) h 4 a := by simp [fldc, mset, hm]
theorem inst5 : Cond.instantiable RX5 13 ∈ TB := tb_1 183 (by decide +kernel) (by decide +kernel)
theorem iniX5 : Cond.initialized RX5 ∈ TB := tb_1 155 (by decide +kernel) (by decide +kernel)
theorem df5 {ad : Nat → Nat} {mk : MK} {h : HH} {n : Nat} (hz : zr h n) (hm : mk n = 0) : ∀ j, j < 13 → defaultValue (tyX5 j) = vp_V (fldc ad mk h 5 n) j := by
  obtain ⟨h1, h2, h3⟩ := hz n (Nat.le_refl _)
  simp only [fldc, gI, gL, gR, h1, h2, h3, hm, rfv, Nat.lt_irrefl, Nat.not_lt_zero, if_false]
  decide
theorem fc_5_0 {ad : Nat → Nat} {mk : MK} {h : HH} {a : Nat} (hm : mk a = 0) : (fldc ad mk h 5 a).set 0 (.ref (ad (a + 1))) = fldc ad (mset mk a 1) h 5 a := by simp [fldc, mset, hm]
theorem fc_5_1 {ad : Nat → Nat} {mk : MK} {h : HH} {a : Nat} (hm : mk a = 1) : (fldc ad mk h 5 a).set 1 (.ref (ad (a + 2))) = fldc ad (mset mk a 2) h 5 a := by simp [fldc, mset, hm]
theorem fc_5_2 {ad : Nat → Nat} {mk : MK} {h : HH} {a : Nat} (hm : mk a = 2) : (fldc ad mk h 5 a).set 2 (.ref (ad (a + 3))) = fldc ad (mset mk a 3) h 5 a := by simp [fldc, mset, hm]
theorem inst6 : Cond.instantiable RX6 10 ∈ TB := tb_1 331 (by decide +kernel) (by decide +kernel)
theorem iniX6 : Cond.initialized RX6 ∈ TB := tb_1 159 (by decide +kernel) (by decide +kernel)
theorem df6 {ad : Nat → Nat} {mk : MK} {h : HH} {n : Nat} (hz : zr h n) (hm : mk n = 0) : ∀ j, j < 10 → defaultValue (tyX6 j) = vp_V (fldc ad mk h 6 n) j := by
  obtain ⟨h1, h2, h3⟩ := hz n (Nat.le_refl _)
  simp only [fldc, gI, gL, gR, h1, h2, h3, hm, rfv, Nat.lt_irrefl, Nat.not_lt_zero, if_false]
  decide
theorem fc_6_0 {ad : Nat → Nat} {mk : MK} {h : HH} {a : Nat} (hm : mk a = 0) : (fldc ad mk h 6 a).set 0 (.ref (ad (a + 1))) = fldc ad (mset mk a 1) h 6 a := by simp [fldc, mset, hm]
theorem fc_6_1 {ad : Nat → Nat} {mk : MK} {h : HH} {a : Nat} (hm : mk a = 1) : (fldc ad mk h 6 a).set 1 (.ref (ad (a + 2))) = fldc ad (mset mk a 2) h 6 a := by simp [fldc, mset, hm]
theorem fc_6_2 {ad : Nat → Nat} {mk : MK} {h : HH} {a : Nat} (hm : mk a = 2) : (fldc ad mk h 6 a).set 2 (.ref (ad (a + 3))) = fldc ad (mset mk a 3) h 6 a := by simp [fldc, mset, hm]
theorem fc_6_3 {ad : Nat → Nat} {mk : MK} {h : HH} {a : Nat} (hm : mk a = 3) : (fldc ad mk h 6 a).set 3 (.ref (ad (a + 4))) = fldc ad (mset mk a 4) h 6 a := by simp [fldc, mset, hm]
theorem fc_6_4 {ad : Nat → Nat} {mk : MK} {h : HH} {a : Nat} (hm : mk a = 4) : (fldc ad mk h 6 a).set 4 (.ref (ad (a + 5))) = fldc ad (mset mk a 5) h 6 a := by simp [fldc, mset, hm]
theorem fc_6_5 {ad : Nat → Nat} {mk : MK} {h : HH} {a : Nat} (hm : mk a = 5) : (fldc ad mk h 6 a).set 5 (.ref (ad (a + 6))) = fldc ad (mset mk a 6) h 6 a := by simp [fldc, mset, hm]
theorem fc_6_6 {ad : Nat → Nat} {mk : MK} {h : HH} {a : Nat} (hm : mk a = 6) : (fldc ad mk h 6 a).set 6 (.ref (ad (a + 7))) = fldc ad (mset mk a 7) h 6 a := by simp [fldc, mset, hm]
theorem inst7 : Cond.instantiable RX7 4 ∈ TB := tb_1 397 (by decide +kernel) (by decide +kernel)
theorem iniX7 : Cond.initialized RX7 ∈ TB := tb_1 162 (by decide +kernel) (by decide +kernel)
theorem df7 {ad : Nat → Nat} {mk : MK} {h : HH} {n : Nat} (hz : zr h n) (hm : mk n = 0) : ∀ j, j < 4 → defaultValue (tyX7 j) = vp_V (fldc ad mk h 7 n) j := by
  obtain ⟨h1, h2, h3⟩ := hz n (Nat.le_refl _)
  simp only [fldc, gI, gL, gR, h1, h2, h3, hm, rfv, Nat.lt_irrefl, Nat.not_lt_zero, if_false]
  decide
theorem fi_7_0 {ad : Nat → Nat} {mk : MK} {h : HH} {a : Nat} {v : Int32} : (fldc ad mk h 7 a).set 0 (.int v) = fldc ad mk (sI h a 0 v) 7 a := by simp [fldc, gI, gL, gR, sI]
theorem fi_7_1 {ad : Nat → Nat} {mk : MK} {h : HH} {a : Nat} {v : Int32} : (fldc ad mk h 7 a).set 1 (.int v) = fldc ad mk (sI h a 1 v) 7 a := by simp [fldc, gI, gL, gR, sI]
theorem fc_7_2 {ad : Nat → Nat} {mk : MK} {h : HH} {a : Nat} (hm : mk a = 0) : (fldc ad mk h 7 a).set 2 (.ref (ad (a + 1))) = fldc ad (mset mk a 3) h 7 a := by simp [fldc, mset, hm]
theorem inst8 : Cond.instantiable RX8 19 ∈ TB := tb_1 175 (by decide +kernel) (by decide +kernel)
theorem iniX8 : Cond.initialized RX8 ∈ TB := tb_1 154 (by decide +kernel) (by decide +kernel)
theorem df8 {ad : Nat → Nat} {mk : MK} {h : HH} {n : Nat} (hz : zr h n) (hm : mk n = 0) : ∀ j, j < 19 → defaultValue (tyX8 j) = vp_V (fldc ad mk h 8 n) j := by
  obtain ⟨h1, h2, h3⟩ := hz n (Nat.le_refl _)
  simp only [fldc, gI, gL, gR, h1, h2, h3, hm, rfv, Nat.lt_irrefl, Nat.not_lt_zero, if_false]
  decide
theorem fc_8_0 {ad : Nat → Nat} {mk : MK} {h : HH} {a : Nat} (hm : mk a = 0) : (fldc ad mk h 8 a).set 0 (.ref (ad (a + 1))) = fldc ad (mset mk a 1) h 8 a := by simp [fldc, mset, hm]
theorem fc_8_1 {ad : Nat → Nat} {mk : MK} {h : HH} {a : Nat} (hm : mk a = 1) : (fldc ad mk h 8 a).set 1 (.ref (ad (a + 2))) = fldc ad (mset mk a 2) h 8 a := by simp [fldc, mset, hm]
theorem fc_8_2 {ad : Nat → Nat} {mk : MK} {h : HH} {a : Nat} (hm : mk a = 2) : (fldc ad mk h 8 a).set 2 (.ref (ad (a + 6))) = fldc ad (mset mk a 3) h 8 a := by simp [fldc, mset, hm]
theorem fc_8_3 {ad : Nat → Nat} {mk : MK} {h : HH} {a : Nat} (hm : mk a = 3) : (fldc ad mk h 8 a).set 3 (.ref (ad (a + 13))) = fldc ad (mset mk a 4) h 8 a := by simp [fldc, mset, hm]
theorem fc_8_4 {ad : Nat → Nat} {mk : MK} {h : HH} {a : Nat} (hm : mk a = 4) : (fldc ad mk h 8 a).set 4 (.ref (ad (a + 20))) = fldc ad (mset mk a 5) h 8 a := by simp [fldc, mset, hm]
theorem fc_8_5 {ad : Nat → Nat} {mk : MK} {h : HH} {a : Nat} (hm : mk a = 5) : (fldc ad mk h 8 a).set 5 (.ref (ad (a + 28))) = fldc ad (mset mk a 6) h 8 a := by simp [fldc, mset, hm]
theorem fc_8_6 {ad : Nat → Nat} {mk : MK} {h : HH} {a : Nat} (hm : mk a = 6) : (fldc ad mk h 8 a).set 6 (.ref (ad (a + 31))) = fldc ad (mset mk a 7) h 8 a := by simp [fldc, mset, hm]
theorem fc_8_7 {ad : Nat → Nat} {mk : MK} {h : HH} {a : Nat} (hm : mk a = 7) : (fldc ad mk h 8 a).set 7 (.ref (ad (a + 39))) = fldc ad (mset mk a 8) h 8 a := by simp [fldc, mset, hm]
theorem fc_8_8 {ad : Nat → Nat} {mk : MK} {h : HH} {a : Nat} (hm : mk a = 8) : (fldc ad mk h 8 a).set 8 (.ref (ad (a + 42))) = fldc ad (mset mk a 9) h 8 a := by simp [fldc, mset, hm]
theorem fc_8_9 {ad : Nat → Nat} {mk : MK} {h : HH} {a : Nat} (hm : mk a = 9) : (fldc ad mk h 8 a).set 9 (.ref (ad (a + 43))) = fldc ad (mset mk a 10) h 8 a := by simp [fldc, mset, hm]
theorem fr_8_10 {ad : Nat → Nat} {mk : MK} {h : HH} {a v : Nat} (hv : v < NW) : (fldc ad mk h 8 a).set 10 (.ref (ad v)) = fldc ad mk (sR h a 10 v) 8 a := by
  rw [show Value.ref (ad v) = rfv ad v from (if_pos hv).symm]
  simp [fldc, gI, gL, gR, sR]
theorem fr_8_11 {ad : Nat → Nat} {mk : MK} {h : HH} {a v : Nat} (hv : v < NW) : (fldc ad mk h 8 a).set 11 (.ref (ad v)) = fldc ad mk (sR h a 11 v) 8 a := by
  rw [show Value.ref (ad v) = rfv ad v from (if_pos hv).symm]
  simp [fldc, gI, gL, gR, sR]
theorem inst9 : Cond.instantiable RX9 44 ∈ TB := tb_1 1460 (by decide +kernel) (by decide +kernel)
theorem iniX9 : Cond.initialized RX9 ∈ TB := tb_1 164 (by decide +kernel) (by decide +kernel)
theorem df9 {ad : Nat → Nat} {mk : MK} {h : HH} {n : Nat} (hz : zr h n) (hm : mk n = 0) : ∀ j, j < 44 → defaultValue (tyX9 j) = vp_V (fldc ad mk h 9 n) j := by
  obtain ⟨h1, h2, h3⟩ := hz n (Nat.le_refl _)
  simp only [fldc, gI, gL, gR, h1, h2, h3, hm, rfv, Nat.lt_irrefl, Nat.not_lt_zero, if_false]
  decide
theorem fc_9_1 {ad : Nat → Nat} {mk : MK} {h : HH} {a : Nat} (hm : mk a = 0) : (fldc ad mk h 9 a).set 1 (.ref (ad (a + 1))) = fldc ad (mset mk a 2) h 9 a := by simp [fldc, mset, hm]
theorem fi_9_10 {ad : Nat → Nat} {mk : MK} {h : HH} {a : Nat} {v : Int32} : (fldc ad mk h 9 a).set 10 (.int v) = fldc ad mk (sI h a 10 v) 9 a := by simp [fldc, gI, gL, gR, sI]
theorem fc_9_12 {ad : Nat → Nat} {mk : MK} {h : HH} {a : Nat} (hm : mk a = 2) : (fldc ad mk h 9 a).set 12 (.ref (ad (a + 2))) = fldc ad (mset mk a 13) h 9 a := by simp [fldc, mset, hm]
theorem fc_9_15 {ad : Nat → Nat} {mk : MK} {h : HH} {a : Nat} (hm : mk a = 13) : (fldc ad mk h 9 a).set 15 (.ref (ad (a + 3))) = fldc ad (mset mk a 16) h 9 a := by simp [fldc, mset, hm]
theorem fc_9_16 {ad : Nat → Nat} {mk : MK} {h : HH} {a : Nat} (hm : mk a = 16) : (fldc ad mk h 9 a).set 16 (.ref (ad (a + 4))) = fldc ad (mset mk a 17) h 9 a := by simp [fldc, mset, hm]
theorem fc_9_17 {ad : Nat → Nat} {mk : MK} {h : HH} {a : Nat} (hm : mk a = 17) : (fldc ad mk h 9 a).set 17 (.ref (ad (a + 5))) = fldc ad (mset mk a 18) h 9 a := by simp [fldc, mset, hm]
theorem fc_9_18 {ad : Nat → Nat} {mk : MK} {h : HH} {a : Nat} (hm : mk a = 18) : (fldc ad mk h 9 a).set 18 (.ref (ad (a + 6))) = fldc ad (mset mk a 19) h 9 a := by simp [fldc, mset, hm]
theorem fc_9_19 {ad : Nat → Nat} {mk : MK} {h : HH} {a : Nat} (hm : mk a = 19) : (fldc ad mk h 9 a).set 19 (.ref (ad (a + 7))) = fldc ad (mset mk a 20) h 9 a := by simp [fldc, mset, hm]
theorem fc_9_20 {ad : Nat → Nat} {mk : MK} {h : HH} {a : Nat} (hm : mk a = 20) : (fldc ad mk h 9 a).set 20 (.ref (ad (a + 8))) = fldc ad (mset mk a 21) h 9 a := by simp [fldc, mset, hm]
theorem fc_9_21 {ad : Nat → Nat} {mk : MK} {h : HH} {a : Nat} (hm : mk a = 21) : (fldc ad mk h 9 a).set 21 (.ref (ad (a + 9))) = fldc ad (mset mk a 22) h 9 a := by simp [fldc, mset, hm]
theorem fc_9_22 {ad : Nat → Nat} {mk : MK} {h : HH} {a : Nat} (hm : mk a = 22) : (fldc ad mk h 9 a).set 22 (.ref (ad (a + 10))) = fldc ad (mset mk a 23) h 9 a := by simp [fldc, mset, hm]
theorem fc_9_23 {ad : Nat → Nat} {mk : MK} {h : HH} {a : Nat} (hm : mk a = 23) : (fldc ad mk h 9 a).set 23 (.ref (ad (a + 11))) = fldc ad (mset mk a 24) h 9 a := by simp [fldc, mset, hm]
theorem fc_9_24 {ad : Nat → Nat} {mk : MK} {h : HH} {a : Nat} (hm : mk a = 24) : (fldc ad mk h 9 a).set 24 (.ref (ad (a + 12))) = fldc ad (mset mk a 25) h 9 a := by simp [fldc, mset, hm]
theorem fc_9_27 {ad : Nat → Nat} {mk : MK} {h : HH} {a : Nat} (hm : mk a = 25) : (fldc ad mk h 9 a).set 27 (.ref (ad (a + 13))) = fldc ad (mset mk a 28) h 9 a := by simp [fldc, mset, hm]
theorem fc_9_28 {ad : Nat → Nat} {mk : MK} {h : HH} {a : Nat} (hm : mk a = 28) : (fldc ad mk h 9 a).set 28 (.ref (ad (a + 14))) = fldc ad (mset mk a 29) h 9 a := by simp [fldc, mset, hm]
theorem fc_9_33 {ad : Nat → Nat} {mk : MK} {h : HH} {a : Nat} (hm : mk a = 29) : (fldc ad mk h 9 a).set 33 (.ref (ad (a + 15))) = fldc ad (mset mk a 34) h 9 a := by simp [fldc, mset, hm]
theorem fc_9_34 {ad : Nat → Nat} {mk : MK} {h : HH} {a : Nat} (hm : mk a = 34) : (fldc ad mk h 9 a).set 34 (.ref (ad (a + 16))) = fldc ad (mset mk a 35) h 9 a := by simp [fldc, mset, hm]
theorem fc_9_35 {ad : Nat → Nat} {mk : MK} {h : HH} {a : Nat} (hm : mk a = 35) : (fldc ad mk h 9 a).set 35 (.ref (ad (a + 17))) = fldc ad (mset mk a 36) h 9 a := by simp [fldc, mset, hm]
theorem fc_9_42 {ad : Nat → Nat} {mk : MK} {h : HH} {a : Nat} (hm : mk a = 36) : (fldc ad mk h 9 a).set 42 (.ref (ad (a + 18))) = fldc ad (mset mk a 43) h 9 a := by simp [fldc, mset, hm]
theorem fc_9_43 {ad : Nat → Nat} {mk : MK} {h : HH} {a : Nat} (hm : mk a = 43) : (fldc ad mk h 9 a).set 43 (.ref (ad (a + 19))) = fldc ad (mset mk a 44) h 9 a := by simp [fldc, mset, hm]
theorem mset_s {mk : MK} {a v : Nat} : mset mk a v a = v := if_pos rfl
theorem mset_2 {mk : MK} {a x y : Nat} : mset (mset mk a x) a y = mset mk a y := by
  funext b
  unfold mset
  by_cases e : b = a
  · rw [if_pos e, if_pos e]
  · rw [if_neg e, if_neg e, if_neg e]
theorem mset_n {mk : MK} {a b v : Nat} (h : b ≠ a) : mset mk a v b = mk b := if_neg h
def m0 : MK := fun _ => 0
def h0 : HH := (fun _ _ => 0, fun _ _ => 0, fun _ _ => NW)
theorem zr_h0 (n : Nat) : zr h0 n := fun _ _ => ⟨rfl, rfl, rfl⟩
theorem loRX8_1 : Cond.methodLink RX8 1 Lib.objectInit ∈ TB := tb_1 179 (by decide +kernel) (by decide +kernel)
theorem lkRX8_15 : LkIN yX5_init cX5_init 1 0 := ⟨tb_1 185 (by decide +kernel) (by decide +kernel), iniX5, coX5_init, rfl, ⟨by decide +kernel, by decide +kernel, by decide +kernel⟩⟩
theorem lkRX8_22 : LkIN yX2_init cX2_init 1 0 := ⟨tb_1 235 (by decide +kernel) (by decide +kernel), iniX2, coX2_init, rfl, ⟨by decide +kernel, by decide +kernel, by decide +kernel⟩⟩
theorem lkRX8_32 : LkIN yX3_init cX3_init 1 0 := ⟨tb_1 272 (by decide +kernel) (by decide +kernel), iniX3, coX3_init, rfl, ⟨by decide +kernel, by decide +kernel, by decide +kernel⟩⟩
theorem lkRX8_39 : LkIN yX4_init cX4_init 1 0 := ⟨tb_1 296 (by decide +kernel) (by decide +kernel), iniX4, coX4_init, rfl, ⟨by decide +kernel, by decide +kernel, by decide +kernel⟩⟩
theorem lkRX8_46 : LkIN yX6_init cX6_init 1 0 := ⟨tb_1 333 (by decide +kernel) (by decide +kernel), iniX6, coX6_init, rfl, ⟨by decide +kernel, by decide +kernel, by decide +kernel⟩⟩
theorem lkRX8_53 : LkIN yX1_init cX1_init 1 0 := ⟨tb_1 371 (by decide +kernel) (by decide +kernel), iniX1, coX1_init, rfl, ⟨by decide +kernel, by decide +kernel, by decide +kernel⟩⟩
theorem lkRX8_67 : LkIN yX0_init cX0_init 1 0 := ⟨tb_1 393 (by decide +kernel) (by decide +kernel), iniX0, coX0_init, rfl, ⟨by decide +kernel, by decide +kernel, by decide +kernel⟩⟩
theorem loRX0_3 : Cond.methodLink RX0 3 Lib.objectInit ∈ TB := tb_1 395 (by decide +kernel) (by decide +kernel)
theorem lkRX0_23 : LkI RX0 23 yX7_init cX7_init 3 2 := ⟨tb_1 398 (by decide +kernel) (by decide +kernel), tb_1 399 (by decide +kernel) (by decide +kernel), iniX7, coX7_init, rfl, ⟨by decide +kernel, by decide +kernel, by decide +kernel⟩⟩
theorem loRX1_3 : Cond.methodLink RX1 3 Lib.objectInit ∈ TB := tb_1 373 (by decide +kernel) (by decide +kernel)
theorem loRX2_3 : Cond.methodLink RX2 3 Lib.objectInit ∈ TB := tb_1 237 (by decide +kernel) (by decide +kernel)
theorem loRX3_3 : Cond.methodLink RX3 3 Lib.objectInit ∈ TB := tb_1 274 (by decide +kernel) (by decide +kernel)
theorem lkRX3_11 : LkIN yX2_init cX2_init 1 0 := ⟨tb_1 235 (by decide +kernel) (by decide +kernel), iniX2, coX2_init, rfl, ⟨by decide +kernel, by decide +kernel, by decide +kernel⟩⟩
theorem loRX4_3 : Cond.methodLink RX4 3 Lib.objectInit ∈ TB := tb_1 298 (by decide +kernel) (by decide +kernel)
theorem loRX5_3 : Cond.methodLink RX5 3 Lib.objectInit ∈ TB := tb_1 187 (by decide +kernel) (by decide +kernel)
theorem loRX6_3 : Cond.methodLink RX6 3 Lib.objectInit ∈ TB := tb_1 335 (by decide +kernel) (by decide +kernel)
theorem loRX7_1 : Cond.methodLink RX7 1 Lib.objectInit ∈ TB := tb_1 401 (by decide +kernel) (by decide +kernel)
theorem loRX9_1 : Cond.methodLink RX9 1 Lib.objectInit ∈ TB := tb_1 1464 (by decide +kernel) (by decide +kernel)
theorem mlcRX7_7 : Cond.methodLink RX7 7 Lib.Math.max.name ∈ TB := tb_1 402 (by decide +kernel) (by decide +kernel)
theorem flcRX7_13 : Cond.fieldLink RX7 13 (TX7 0).1 (TX7 0).2.1 (TX7 0).2.2.1 ∈ TB := tb_1 405 (by decide +kernel) (by decide +kernel)
theorem flcRX7_19 : Cond.fieldLink RX7 19 (TX7 1).1 (TX7 1).2.1 (TX7 1).2.2.1 ∈ TB := tb_1 406 (by decide +kernel) (by decide +kernel)
theorem flcRX7_22 : Cond.fieldLink RX7 22 (TX7 2).1 (TX7 2).2.1 (TX7 2).2.2.1 ∈ TB := tb_1 407 (by decide +kernel) (by decide +kernel)
set_option maxRecDepth 20000 in
theorem nX7_init_5_6 {K : KX} (HK : KC K) {a : Nat} (k0 : isK 7 a) (hln : ln (a + 1) = 30) {mk : MK} {h : HH} (hm : mk a = 0) (hmz : mz mk (a + 1)) (hz : zr h (a + 1)) : MC K yX7_init cX7_init 3 1 1 30 [.ref (K.2.1 a), .int 5, .int 6] (a + 1) mk h (a + 2) (mset mk a 3) (sI (sI h a 0 5) a 1 6) := by
  refine MC_of HK (by decide) rfl (Nat.le_of_ble_eq_true rfl) (fun G C E I hnl => ?_)
  have C : OkC K G 1 1 30 cX7_init RX7 := C
  refine (show AtC K G 0 0 (a + 1) mk h 0 [(0, .ref (K.2.1 a)), (1, .int 5), (2, .int 6)] [] from ?_)
  refine C_aload_n C dX7_init_0 (i := 0) rfl 0 rfl 1 rfl ?_
  refine C_obj C dX7_init_1 loRX7_1 iobj coobj (by decide) (Nat.le_of_ble_eq_true rfl) 4 rfl ?_
  refine C_aload_n C dX7_init_4 (i := 0) rfl 0 rfl 5 rfl ?_
  refine C_iload_n C dX7_init_5 (i := 1) rfl 1 rfl 6 rfl ?_
  refine C_iconst (v := 0) C dX7_init_6 (by decide) 7 rfl ?_
  refine C_mmax (v := 5) C dX7_init_7 mlcRX7_7 (by decide) (by decide) ⟨by decide, by decide⟩ (Nat.le_of_ble_eq_true rfl) 10 rfl ?_
  refine C_putFI (v := 5) C I dX7_init_10 7 0 (r := (RX7, TX7, 4)) (ty0 := tyX7) (ty := .int) k0 (by omega) (by decide) rfl inX7 tokX7 nmX7 (by decide) rfl rfl (by decide +kernel) rfl rfl (Nat.le_of_ble_eq_true rfl) fi_7_0 flcRX7_13 13 rfl ?_
  refine C_aload_n C dX7_init_13 (i := 0) rfl 0 rfl 14 rfl ?_
  refine C_iload_n C dX7_init_14 (i := 2) rfl 2 rfl 15 rfl ?_
  refine C_iconst (v := 0) C dX7_init_15 (by decide) 16 rfl ?_
  refine C_mmax (v := 6) C dX7_init_16 mlcRX7_7 (by decide) (by decide) ⟨by decide, by decide⟩ (Nat.le_of_ble_eq_true rfl) 19 rfl ?_
  refine C_putFI (v := 6) C I dX7_init_19 7 1 (r := (RX7, TX7, 4)) (ty0 := tyX7) (ty := .int) k0 (by omega) (by decide) rfl inX7 tokX7 nmX7 (by decide) rfl rfl (by decide +kernel) rfl rfl (Nat.le_of_ble_eq_true rfl) fi_7_1 flcRX7_19 22 rfl ?_
  refine C_aload_n C dX7_init_22 (i := 0) rfl 0 rfl 23 rfl ?_
  refine C_aload_n C dX7_init_23 (i := 0) rfl 0 rfl 24 rfl ?_
  refine C_get (v := .int 5) C dX7_init_24 7 0 (r := (RX7, TX7, 4)) k0 (by omega) (by decide) rfl inX7 (by decide) (by simp [fldc, gI, sI]) flcRX7_13 27 rfl ?_
  refine C_aload_n C dX7_init_27 (i := 0) rfl 0 rfl 28 rfl ?_
  refine C_get (v := .int 6) C dX7_init_28 7 1 (r := (RX7, TX7, 4)) k0 (by omega) (by decide) rfl inX7 (by decide) (by simp [fldc, gI, sI]) flcRX7_19 31 rfl ?_
  refine C_imul (v := 30) C dX7_init_31 (by decide) 32 rfl ?_
  refine C_newaI (len := 30) C dX7_init_32 (⟨(of_7_2 k0).1, (of_7_2 k0).2.1, hln⟩) ((zr.up (zr_sI (zr_sI hz (by omega)) (by omega)) (by omega)) _ (Nat.le_refl _)).1 (by decide) (by decide) (by decide) acint 1 30 rfl rfl (by decide) (by decide) (a + 2) rfl 34 rfl ?_
  refine C_putFR (v := (a + 1)) C I dX7_init_34 7 2 (r := (RX7, TX7, 4)) (ty0 := tyX7) (ty := .array .int) k0 (by omega) (by decide) rfl inX7 tokX7 nmX7 (by decide) rfl rfl (by decide +kernel) rfl rfl (Nat.le_of_ble_eq_true rfl) (fc_7_2 (hm)) flcRX7_22 37 rfl ?_
  exact C_vret C dX7_init_37 E rfl rfl rfl rfl rfl
set_option maxRecDepth 20000 in
theorem nX7_init_20_3 {K : KX} (HK : KC K) {a : Nat} (k0 : isK 7 a) (hln : ln (a + 1) = 60) {mk : MK} {h : HH} (hm : mk a = 0) (hmz : mz mk (a + 1)) (hz : zr h (a + 1)) : MC K yX7_init cX7_init 3 1 1 60 [.ref (K.2.1 a), .int 20, .int 3] (a + 1) mk h (a + 2) (mset mk a 3) (sI (sI h a 0 20) a 1 3) := by
  refine MC_of HK (by decide) rfl (Nat.le_of_ble_eq_true rfl) (fun G C E I hnl => ?_)
  have C : OkC K G 1 1 60 cX7_init RX7 := C
  refine (show AtC K G 0 0 (a + 1) mk h 0 [(0, .ref (K.2.1 a)), (1, .int 20), (2, .int 3)] [] from ?_)
  refine C_aload_n C dX7_init_0 (i := 0) rfl 0 rfl 1 rfl ?_
  refine C_obj C dX7_init_1 loRX7_1 iobj coobj (by decide) (Nat.le_of_ble_eq_true rfl) 4 rfl ?_
  refine C_aload_n C dX7_init_4 (i := 0) rfl 0 rfl 5 rfl ?_
  refine C_iload_n C dX7_init_5 (i := 1) rfl 1 rfl 6 rfl ?_
  refine C_iconst (v := 0) C dX7_init_6 (by decide) 7 rfl ?_
  refine C_mmax (v := 20) C dX7_init_7 mlcRX7_7 (by decide) (by decide) ⟨by decide, by decide⟩ (Nat.le_of_ble_eq_true rfl) 10 rfl ?_
  refine C_putFI (v := 20) C I dX7_init_10 7 0 (r := (RX7, TX7, 4)) (ty0 := tyX7) (ty := .int) k0 (by omega) (by decide) rfl inX7 tokX7 nmX7 (by decide) rfl rfl (by decide +kernel) rfl rfl (Nat.le_of_ble_eq_true rfl) fi_7_0 flcRX7_13 13 rfl ?_
  refine C_aload_n C dX7_init_13 (i := 0) rfl 0 rfl 14 rfl ?_
  refine C_iload_n C dX7_init_14 (i := 2) rfl 2 rfl 15 rfl ?_
  refine C_iconst (v := 0) C dX7_init_15 (by decide) 16 rfl ?_
  refine C_mmax (v := 3) C dX7_init_16 mlcRX7_7 (by decide) (by decide) ⟨by decide, by decide⟩ (Nat.le_of_ble_eq_true rfl) 19 rfl ?_
  refine C_putFI (v := 3) C I dX7_init_19 7 1 (r := (RX7, TX7, 4)) (ty0 := tyX7) (ty := .int) k0 (by omega) (by decide) rfl inX7 tokX7 nmX7 (by decide) rfl rfl (by decide +kernel) rfl rfl (Nat.le_of_ble_eq_true rfl) fi_7_1 flcRX7_19 22 rfl ?_
  refine C_aload_n C dX7_init_22 (i := 0) rfl 0 rfl 23 rfl ?_
  refine C_aload_n C dX7_init_23 (i := 0) rfl 0 rfl 24 rfl ?_
  refine C_get (v := .int 20) C dX7_init_24 7 0 (r := (RX7, TX7, 4)) k0 (by omega) (by decide) rfl inX7 (by decide) (by simp [fldc, gI, sI]) flcRX7_13 27 rfl ?_
  refine C_aload_n C dX7_init_27 (i := 0) rfl 0 rfl 28 rfl ?_
  refine C_get (v := .int 3) C dX7_init_28 7 1 (r := (RX7, TX7, 4)) k0 (by omega) (by decide) rfl inX7 (by decide) (by simp [fldc, gI, sI]) flcRX7_19 31 rfl ?_
  refine C_imul (v := 60) C dX7_init_31 (by decide) 32 rfl ?_
  refine C_newaI (len := 60) C dX7_init_32 (⟨(of_7_2 k0).1, (of_7_2 k0).2.1, hln⟩) ((zr.up (zr_sI (zr_sI hz (by omega)) (by omega)) (by omega)) _ (Nat.le_refl _)).1 (by decide) (by decide) (by decide) acint 1 60 rfl rfl (by decide) (by decide) (a + 2) rfl 34 rfl ?_
  refine C_putFR (v := (a + 1)) C I dX7_init_34 7 2 (r := (RX7, TX7, 4)) (ty0 := tyX7) (ty := .array .int) k0 (by omega) (by decide) rfl inX7 tokX7 nmX7 (by decide) rfl rfl (by decide +kernel) rfl rfl (Nat.le_of_ble_eq_true rfl) (fc_7_2 (hm)) flcRX7_22 37 rfl ?_
  exact C_vret C dX7_init_37 E rfl rfl rfl rfl rfl
set_option maxRecDepth 20000 in
theorem nX7_init_8_4 {K : KX} (HK : KC K) {a : Nat} (k0 : isK 7 a) (hln : ln (a + 1) = 32) {mk : MK} {h : HH} (hm : mk a = 0) (hmz : mz mk (a + 1)) (hz : zr h (a + 1)) : MC K yX7_init cX7_init 3 1 1 32 [.ref (K.2.1 a), .int 8, .int 4] (a + 1) mk h (a + 2) (mset mk a 3) (sI (sI h a 0 8) a 1 4) := by
  refine MC_of HK (by decide) rfl (Nat.le_of_ble_eq_true rfl) (fun G C E I hnl => ?_)
  have C : OkC K G 1 1 32 cX7_init RX7 := C
  refine (show AtC K G 0 0 (a + 1) mk h 0 [(0, .ref (K.2.1 a)), (1, .int 8), (2, .int 4)] [] from ?_)
  refine C_aload_n C dX7_init_0 (i := 0) rfl 0 rfl 1 rfl ?_
  refine C_obj C dX7_init_1 loRX7_1 iobj coobj (by decide) (Nat.le_of_ble_eq_true rfl) 4 rfl ?_
  refine C_aload_n C dX7_init_4 (i := 0) rfl 0 rfl 5 rfl ?_
  refine C_iload_n C dX7_init_5 (i := 1) rfl 1 rfl 6 rfl ?_
  refine C_iconst (v := 0) C dX7_init_6 (by decide) 7 rfl ?_
  refine C_mmax (v := 8) C dX7_init_7 mlcRX7_7 (by decide) (by decide) ⟨by decide, by decide⟩ (Nat.le_of_ble_eq_true rfl) 10 rfl ?_
  refine C_putFI (v := 8) C I dX7_init_10 7 0 (r := (RX7, TX7, 4)) (ty0 := tyX7) (ty := .int) k0 (by omega) (by decide) rfl inX7 tokX7 nmX7 (by decide) rfl rfl (by decide +kernel) rfl rfl (Nat.le_of_ble_eq_true rfl) fi_7_0 flcRX7_13 13 rfl ?_
  refine C_aload_n C dX7_init_13 (i := 0) rfl 0 rfl 14 rfl ?_
  refine C_iload_n C dX7_init_14 (i := 2) rfl 2 rfl 15 rfl ?_
  refine C_iconst (v := 0) C dX7_init_15 (by decide) 16 rfl ?_
  refine C_mmax (v := 4) C dX7_init_16 mlcRX7_7 (by decide) (by decide) ⟨by decide, by decide⟩ (Nat.le_of_ble_eq_true rfl) 19 rfl ?_
  refine C_putFI (v := 4) C I dX7_init_19 7 1 (r := (RX7, TX7, 4)) (ty0 := tyX7) (ty := .int) k0 (by omega) (by decide) rfl inX7 tokX7 nmX7 (by decide) rfl rfl (by decide +kernel) rfl rfl (Nat.le_of_ble_eq_true rfl) fi_7_1 flcRX7_19 22 rfl ?_
  refine C_aload_n C dX7_init_22 (i := 0) rfl 0 rfl 23 rfl ?_
  refine C_aload_n C dX7_init_23 (i := 0) rfl 0 rfl 24 rfl ?_
  refine C_get (v := .int 8) C dX7_init_24 7 0 (r := (RX7, TX7, 4)) k0 (by omega) (by decide) rfl inX7 (by decide) (by simp [fldc, gI, sI]) flcRX7_13 27 rfl ?_
  refine C_aload_n C dX7_init_27 (i := 0) rfl 0 rfl 28 rfl ?_
  refine C_get (v := .int 4) C dX7_init_28 7 1 (r := (RX7, TX7, 4)) k0 (by omega) (by decide) rfl inX7 (by decide) (by simp [fldc, gI, sI]) flcRX7_19 31 rfl ?_
  refine C_imul (v := 32) C dX7_init_31 (by decide) 32 rfl ?_
  refine C_newaI (len := 32) C dX7_init_32 (⟨(of_7_2 k0).1, (of_7_2 k0).2.1, hln⟩) ((zr.up (zr_sI (zr_sI hz (by omega)) (by omega)) (by omega)) _ (Nat.le_refl _)).1 (by decide) (by decide) (by decide) acint 1 32 rfl rfl (by decide) (by decide) (a + 2) rfl 34 rfl ?_
  refine C_putFR (v := (a + 1)) C I dX7_init_34 7 2 (r := (RX7, TX7, 4)) (ty0 := tyX7) (ty := .array .int) k0 (by omega) (by decide) rfl inX7 tokX7 nmX7 (by decide) rfl rfl (by decide +kernel) rfl rfl (Nat.le_of_ble_eq_true rfl) (fc_7_2 (hm)) flcRX7_22 37 rfl ?_
  exact C_vret C dX7_init_37 E rfl rfl rfl rfl rfl
set_option maxRecDepth 20000 in
theorem nX7_init_6_3 {K : KX} (HK : KC K) {a : Nat} (k0 : isK 7 a) (hln : ln (a + 1) = 18) {mk : MK} {h : HH} (hm : mk a = 0) (hmz : mz mk (a + 1)) (hz : zr h (a + 1)) : MC K yX7_init cX7_init 3 1 1 18 [.ref (K.2.1 a), .int 6, .int 3] (a + 1) mk h (a + 2) (mset mk a 3) (sI (sI h a 0 6) a 1 3) := by
  refine MC_of HK (by decide) rfl (Nat.le_of_ble_eq_true rfl) (fun G C E I hnl => ?_)
  have C : OkC K G 1 1 18 cX7_init RX7 := C
  refine (show AtC K G 0 0 (a + 1) mk h 0 [(0, .ref (K.2.1 a)), (1, .int 6), (2, .int 3)] [] from ?_)
  refine C_aload_n C dX7_init_0 (i := 0) rfl 0 rfl 1 rfl ?_
  refine C_obj C dX7_init_1 loRX7_1 iobj coobj (by decide) (Nat.le_of_ble_eq_true rfl) 4 rfl ?_
  refine C_aload_n C dX7_init_4 (i := 0) rfl 0 rfl 5 rfl ?_
  refine C_iload_n C dX7_init_5 (i := 1) rfl 1 rfl 6 rfl ?_
  refine C_iconst (v := 0) C dX7_init_6 (by decide) 7 rfl ?_
  refine C_mmax (v := 6) C dX7_init_7 mlcRX7_7 (by decide) (by decide) ⟨by decide, by decide⟩ (Nat.le_of_ble_eq_true rfl) 10 rfl ?_
  refine C_putFI (v := 6) C I dX7_init_10 7 0 (r := (RX7, TX7, 4)) (ty0 := tyX7) (ty := .int) k0 (by omega) (by decide) rfl inX7 tokX7 nmX7 (by decide) rfl rfl (by decide +kernel) rfl rfl (Nat.le_of_ble_eq_true rfl) fi_7_0 flcRX7_13 13 rfl ?_
  refine C_aload_n C dX7_init_13 (i := 0) rfl 0 rfl 14 rfl ?_
  refine C_iload_n C dX7_init_14 (i := 2) rfl 2 rfl 15 rfl ?_
  refine C_iconst (v := 0) C dX7_init_15 (by decide) 16 rfl ?_
  refine C_mmax (v := 3) C dX7_init_16 mlcRX7_7 (by decide) (by decide) ⟨by decide, by decide⟩ (Nat.le_of_ble_eq_true rfl) 19 rfl ?_
  refine C_putFI (v := 3) C I dX7_init_19 7 1 (r := (RX7, TX7, 4)) (ty0 := tyX7) (ty := .int) k0 (by omega) (by decide) rfl inX7 tokX7 nmX7 (by decide) rfl rfl (by decide +kernel) rfl rfl (Nat.le_of_ble_eq_true rfl) fi_7_1 flcRX7_19 22 rfl ?_
  refine C_aload_n C dX7_init_22 (i := 0) rfl 0 rfl 23 rfl ?_
  refine C_aload_n C dX7_init_23 (i := 0) rfl 0 rfl 24 rfl ?_
  refine C_get (v := .int 6) C dX7_init_24 7 0 (r := (RX7, TX7, 4)) k0 (by omega) (by decide) rfl inX7 (by decide) (by simp [fldc, gI, sI]) flcRX7_13 27 rfl ?_
  refine C_aload_n C dX7_init_27 (i := 0) rfl 0 rfl 28 rfl ?_
  refine C_get (v := .int 3) C dX7_init_28 7 1 (r := (RX7, TX7, 4)) k0 (by omega) (by decide) rfl inX7 (by decide) (by simp [fldc, gI, sI]) flcRX7_19 31 rfl ?_
  refine C_imul (v := 18) C dX7_init_31 (by decide) 32 rfl ?_
  refine C_newaI (len := 18) C dX7_init_32 (⟨(of_7_2 k0).1, (of_7_2 k0).2.1, hln⟩) ((zr.up (zr_sI (zr_sI hz (by omega)) (by omega)) (by omega)) _ (Nat.le_refl _)).1 (by decide) (by decide) (by decide) acint 1 18 rfl rfl (by decide) (by decide) (a + 2) rfl 34 rfl ?_
  refine C_putFR (v := (a + 1)) C I dX7_init_34 7 2 (r := (RX7, TX7, 4)) (ty0 := tyX7) (ty := .array .int) k0 (by omega) (by decide) rfl inX7 tokX7 nmX7 (by decide) rfl rfl (by decide +kernel) rfl rfl (Nat.le_of_ble_eq_true rfl) (fc_7_2 (hm)) flcRX7_22 37 rfl ?_
  exact C_vret C dX7_init_37 E rfl rfl rfl rfl rfl
theorem zr_rows {h : HH} {n a : Nat} {x y : Int32} (hz : zr h n) (ha : a < n) : zr (sI (sI h a 0 x) a 1 y) n := zr_sI (zr_sI hz ha) ha
theorem flcRX2_9 : Cond.fieldLink RX2 9 (TX2 0).1 (TX2 0).2.1 (TX2 0).2.2.1 ∈ TB := tb_1 238 (by decide +kernel) (by decide +kernel)
theorem flcRX2_15 : Cond.fieldLink RX2 15 (TX2 1).1 (TX2 1).2.1 (TX2 1).2.2.1 ∈ TB := tb_1 242 (by decide +kernel) (by decide +kernel)
theorem flcRX2_18 : Cond.fieldLink RX2 18 (TX2 2).1 (TX2 2).2.1 (TX2 2).2.2.1 ∈ TB := tb_1 244 (by decide +kernel) (by decide +kernel)
theorem flcRX2_21 : Cond.fieldLink RX2 21 (TX2 3).1 (TX2 3).2.1 (TX2 3).2.2.1 ∈ TB := tb_1 246 (by decide +kernel) (by decide +kernel)
theorem flcRX2_24 : Cond.fieldLink RX2 24 (TX2 4).1 (TX2 4).2.1 (TX2 4).2.2.1 ∈ TB := tb_1 248 (by decide +kernel) (by decide +kernel)
theorem flcRX2_28 : Cond.fieldLink RX2 28 (TX2 5).1 (TX2 5).2.1 (TX2 5).2.2.1 ∈ TB := tb_1 250 (by decide +kernel) (by decide +kernel)
set_option maxRecDepth 20000 in
theorem nX2_init {K : KX} (HK : KC K) {a : Nat} (k0 : isK 2 a) {mk : MK} {h : HH} (hm : mk a = 0) (hmz : mz mk (a + 1)) (hz : zr h (a + 1)) : MC K yX2_init cX2_init 1 1 6 30 [.ref (K.2.1 a)] (a + 1) mk h (a + 7) (mset mk a 6) h := by
  refine MC_of HK (by decide) rfl (Nat.le_of_ble_eq_true rfl) (fun G C E I hnl => ?_)
  have C : OkC K G 1 6 30 cX2_init RX2 := C
  refine (show AtC K G 0 0 (a + 1) mk h 0 [(0, .ref (K.2.1 a))] [] from ?_)
  refine C_aload_n C dX2_init_0 (i := 0) rfl 0 rfl 1 rfl ?_
  refine C_obj C dX2_init_1 loRX2_3 iobj coobj (by decide) (Nat.le_of_ble_eq_true rfl) 4 rfl ?_
  refine C_aload_n C dX2_init_4 (i := 0) rfl 0 rfl 5 rfl ?_
  refine C_iconst (v := 5) C dX2_init_5 (by decide) 6 rfl ?_
  refine C_newaI (len := 5) C dX2_init_6 (of_2_0 k0) ((zr.up hz (by omega)) _ (Nat.le_refl _)).1 (by decide) (by decide) (by decide) acint 1 5 rfl rfl (by decide) (by decide) (a + 2) rfl 8 rfl ?_
  refine C_putFR (v := (a + 1)) C I dX2_init_8 2 0 (r := (RX2, TX2, 7)) (ty0 := tyX2) (ty := .array .int) k0 (by omega) (by decide) rfl inX2 tokX2 nmX2 (by decide) rfl rfl (by decide +kernel) rfl rfl (Nat.le_of_ble_eq_true rfl) (fc_2_0 (hm)) flcRX2_9 11 rfl ?_
  refine C_aload_n C dX2_init_11 (i := 0) rfl 0 rfl 12 rfl ?_
  refine C_iconst (v := 5) C dX2_init_12 (by decide) 13 rfl ?_
  refine C_newaI (len := 5) C dX2_init_13 (of_2_1 k0) ((zr.up hz (by omega)) _ (Nat.le_refl _)).1 (by decide) (by decide) (by decide) acint 2 10 rfl rfl (by decide) (by decide) (a + 3) rfl 15 rfl ?_
  refine C_putFR (v := (a + 2)) C I dX2_init_15 2 1 (r := (RX2, TX2, 7)) (ty0 := tyX2) (ty := .array .int) k0 (by omega) (by decide) rfl inX2 tokX2 nmX2 (by decide) rfl rfl (by decide +kernel) rfl rfl (Nat.le_of_ble_eq_true rfl) (fc_2_1 (mset_s)) flcRX2_15 18 rfl ?_
  rw [mset_2]
  refine C_aload_n C dX2_init_18 (i := 0) rfl 0 rfl 19 rfl ?_
  refine C_iconst (v := 5) C dX2_init_19 (by decide) 20 rfl ?_
  refine C_newaI (len := 5) C dX2_init_20 (of_2_2 k0) ((zr.up hz (by omega)) _ (Nat.le_refl _)).1 (by decide) (by decide) (by decide) acint 3 15 rfl rfl (by decide) (by decide) (a + 4) rfl 22 rfl ?_
  refine C_putFR (v := (a + 3)) C I dX2_init_22 2 2 (r := (RX2, TX2, 7)) (ty0 := tyX2) (ty := .array .int) k0 (by omega) (by decide) rfl inX2 tokX2 nmX2 (by decide) rfl rfl (by decide +kernel) rfl rfl (Nat.le_of_ble_eq_true rfl) (fc_2_2 (mset_s)) flcRX2_18 25 rfl ?_
  rw [mset_2]
  refine C_aload_n C dX2_init_25 (i := 0) rfl 0 rfl 26 rfl ?_
  refine C_iconst (v := 5) C dX2_init_26 (by decide) 27 rfl ?_
  refine C_newaI (len := 5) C dX2_init_27 (of_2_3 k0) ((zr.up hz (by omega)) _ (Nat.le_refl _)).1 (by decide) (by decide) (by decide) acint 4 20 rfl rfl (by decide) (by decide) (a + 5) rfl 29 rfl ?_
  refine C_putFR (v := (a + 4)) C I dX2_init_29 2 3 (r := (RX2, TX2, 7)) (ty0 := tyX2) (ty := .array .int) k0 (by omega) (by decide) rfl inX2 tokX2 nmX2 (by decide) rfl rfl (by decide +kernel) rfl rfl (Nat.le_of_ble_eq_true rfl) (fc_2_3 (mset_s)) flcRX2_21 32 rfl ?_
  rw [mset_2]
  refine C_aload_n C dX2_init_32 (i := 0) rfl 0 rfl 33 rfl ?_
  refine C_iconst (v := 5) C dX2_init_33 (by decide) 34 rfl ?_
  refine C_newaJ (len := 5) C dX2_init_34 (of_2_4 k0) ((zr.up hz (by omega)) _ (Nat.le_refl _)).2.1 (by decide) (by decide) (by decide) aclong 5 25 rfl rfl (by decide) (by decide) (a + 6) rfl 36 rfl ?_
  refine C_putFR (v := (a + 5)) C I dX2_init_36 2 4 (r := (RX2, TX2, 7)) (ty0 := tyX2) (ty := .array .long) k0 (by omega) (by decide) rfl inX2 tokX2 nmX2 (by decide) rfl rfl (by decide +kernel) rfl rfl (Nat.le_of_ble_eq_true rfl) (fc_2_4 (mset_s)) flcRX2_24 39 rfl ?_
  rw [mset_2]
  refine C_aload_n C dX2_init_39 (i := 0) rfl 0 rfl 40 rfl ?_
  refine C_iconst (v := 5) C dX2_init_40 (by decide) 41 rfl ?_
  refine C_newaJ (len := 5) C dX2_init_41 (of_2_5 k0) ((zr.up hz (by omega)) _ (Nat.le_refl _)).2.1 (by decide) (by decide) (by decide) aclong 6 30 rfl rfl (by decide) (by decide) (a + 7) rfl 43 rfl ?_
  refine C_putFR (v := (a + 6)) C I dX2_init_43 2 5 (r := (RX2, TX2, 7)) (ty0 := tyX2) (ty := .array .long) k0 (by omega) (by decide) rfl inX2 tokX2 nmX2 (by decide) rfl rfl (by decide +kernel) rfl rfl (Nat.le_of_ble_eq_true rfl) (fc_2_5 (mset_s)) flcRX2_28 46 rfl ?_
  rw [mset_2]
  exact C_vret C dX2_init_46 E rfl rfl rfl rfl rfl
theorem flcRX5_11 : Cond.fieldLink RX5 11 (TX5 0).1 (TX5 0).2.1 (TX5 0).2.2.1 ∈ TB := tb_1 188 (by decide +kernel) (by decide +kernel)
theorem flcRX5_15 : Cond.fieldLink RX5 15 (TX5 1).1 (TX5 1).2.1 (TX5 1).2.2.1 ∈ TB := tb_1 189 (by decide +kernel) (by decide +kernel)
theorem flcRX5_19 : Cond.fieldLink RX5 19 (TX5 2).1 (TX5 2).2.1 (TX5 2).2.2.1 ∈ TB := tb_1 190 (by decide +kernel) (by decide +kernel)
set_option maxRecDepth 20000 in
theorem nX5_init {K : KX} (HK : KC K) {a : Nat} (k0 : isK 5 a) {mk : MK} {h : HH} (hm : mk a = 0) (hmz : mz mk (a + 1)) (hz : zr h (a + 1)) : MC K yX5_init cX5_init 1 1 3 42 [.ref (K.2.1 a)] (a + 1) mk h (a + 4) (mset mk a 3) h := by
  refine MC_of HK (by decide) rfl (Nat.le_of_ble_eq_true rfl) (fun G C E I hnl => ?_)
  have C : OkC K G 1 3 42 cX5_init RX5 := C
  refine (show AtC K G 0 0 (a + 1) mk h 0 [(0, .ref (K.2.1 a))] [] from ?_)
  refine C_aload_n C dX5_init_0 (i := 0) rfl 0 rfl 1 rfl ?_
  refine C_obj C dX5_init_1 loRX5_3 iobj coobj (by decide) (Nat.le_of_ble_eq_true rfl) 4 rfl ?_
  refine C_aload_n C dX5_init_4 (i := 0) rfl 0 rfl 5 rfl ?_
  refine C_bipush (v := 14) C dX5_init_5 (by decide) 7 rfl ?_
  refine C_newaJ (len := 14) C dX5_init_7 (of_5_0 k0) ((zr.up hz (by omega)) _ (Nat.le_refl _)).2.1 (by decide) (by decide) (by decide) aclong 1 14 rfl rfl (by decide) (by decide) (a + 2) rfl 9 rfl ?_
  refine C_putFR (v := (a + 1)) C I dX5_init_9 5 0 (r := (RX5, TX5, 13)) (ty0 := tyX5) (ty := .array .long) k0 (by omega) (by decide) rfl inX5 tokX5 nmX5 (by decide) rfl rfl (by decide +kernel) rfl rfl (Nat.le_of_ble_eq_true rfl) (fc_5_0 (hm)) flcRX5_11 12 rfl ?_
  refine C_aload_n C dX5_init_12 (i := 0) rfl 0 rfl 13 rfl ?_
  refine C_bipush (v := 14) C dX5_init_13 (by decide) 15 rfl ?_
  refine C_newaI (len := 14) C dX5_init_15 (of_5_1 k0) ((zr.up hz (by omega)) _ (Nat.le_refl _)).1 (by decide) (by decide) (by decide) acint 2 28 rfl rfl (by decide) (by decide) (a + 3) rfl 17 rfl ?_
  refine C_putFR (v := (a + 2)) C I dX5_init_17 5 1 (r := (RX5, TX5, 13)) (ty0 := tyX5) (ty := .array .int) k0 (by omega) (by decide) rfl inX5 tokX5 nmX5 (by decide) rfl rfl (by decide +kernel) rfl rfl (Nat.le_of_ble_eq_true rfl) (fc_5_1 (mset_s)) flcRX5_15 20 rfl ?_
  rw [mset_2]
  refine C_aload_n C dX5_init_20 (i := 0) rfl 0 rfl 21 rfl ?_
  refine C_bipush (v := 14) C dX5_init_21 (by decide) 23 rfl ?_
  refine C_newaI (len := 14) C dX5_init_23 (of_5_2 k0) ((zr.up hz (by omega)) _ (Nat.le_refl _)).1 (by decide) (by decide) (by decide) acint 3 42 rfl rfl (by decide) (by decide) (a + 4) rfl 25 rfl ?_
  refine C_putFR (v := (a + 3)) C I dX5_init_25 5 2 (r := (RX5, TX5, 13)) (ty0 := tyX5) (ty := .array .int) k0 (by omega) (by decide) rfl inX5 tokX5 nmX5 (by decide) rfl rfl (by decide +kernel) rfl rfl (Nat.le_of_ble_eq_true rfl) (fc_5_2 (mset_s)) flcRX5_19 28 rfl ?_
  rw [mset_2]
  exact C_vret C dX5_init_28 E rfl rfl rfl rfl rfl
theorem flcRX4_9 : Cond.fieldLink RX4 9 (TX4 0).1 (TX4 0).2.1 (TX4 0).2.2.1 ∈ TB := tb_1 299 (by decide +kernel) (by decide +kernel)
theorem flcRX4_15 : Cond.fieldLink RX4 15 (TX4 1).1 (TX4 1).2.1 (TX4 1).2.2.1 ∈ TB := tb_1 301 (by decide +kernel) (by decide +kernel)
set_option maxRecDepth 20000 in
theorem nX4_init {K : KX} (HK : KC K) {a : Nat} (k0 : isK 4 a) {mk : MK} {h : HH} (hm : mk a = 0) (hmz : mz mk (a + 1)) (hz : zr h (a + 1)) : MC K yX4_init cX4_init 1 1 2 12 [.ref (K.2.1 a)] (a + 1) mk h (a + 3) (mset mk a 2) h := by
  refine MC_of HK (by decide) rfl (Nat.le_of_ble_eq_true rfl) (fun G C E I hnl => ?_)
  have C : OkC K G 1 2 12 cX4_init RX4 := C
  refine (show AtC K G 0 0 (a + 1) mk h 0 [(0, .ref (K.2.1 a))] [] from ?_)
  refine C_aload_n C dX4_init_0 (i := 0) rfl 0 rfl 1 rfl ?_
  refine C_obj C dX4_init_1 loRX4_3 iobj coobj (by decide) (Nat.le_of_ble_eq_true rfl) 4 rfl ?_
  refine C_aload_n C dX4_init_4 (i := 0) rfl 0 rfl 5 rfl ?_
  refine C_bipush (v := 6) C dX4_init_5 (by decide) 7 rfl ?_
  refine C_newaI (len := 6) C dX4_init_7 (of_4_0 k0) ((zr.up hz (by omega)) _ (Nat.le_refl _)).1 (by decide) (by decide) (by decide) acint 1 6 rfl rfl (by decide) (by decide) (a + 2) rfl 9 rfl ?_
  refine C_putFR (v := (a + 1)) C I dX4_init_9 4 0 (r := (RX4, TX4, 8)) (ty0 := tyX4) (ty := .array .int) k0 (by omega) (by decide) rfl inX4 tokX4 nmX4 (by decide) rfl rfl (by decide +kernel) rfl rfl (Nat.le_of_ble_eq_true rfl) (fc_4_0 (hm)) flcRX4_9 12 rfl ?_
  refine C_aload_n C dX4_init_12 (i := 0) rfl 0 rfl 13 rfl ?_
  refine C_bipush (v := 6) C dX4_init_13 (by decide) 15 rfl ?_
  refine C_newaI (len := 6) C dX4_init_15 (of_4_1 k0) ((zr.up hz (by omega)) _ (Nat.le_refl _)).1 (by decide) (by decide) (by decide) acint 2 12 rfl rfl (by decide) (by decide) (a + 3) rfl 17 rfl ?_
  refine C_putFR (v := (a + 2)) C I dX4_init_17 4 1 (r := (RX4, TX4, 8)) (ty0 := tyX4) (ty := .array .int) k0 (by omega) (by decide) rfl inX4 tokX4 nmX4 (by decide) rfl rfl (by decide +kernel) rfl rfl (Nat.le_of_ble_eq_true rfl) (fc_4_1 (mset_s)) flcRX4_15 20 rfl ?_
  rw [mset_2]
  exact C_vret C dX4_init_20 E rfl rfl rfl rfl rfl
theorem flcRX6_9 : Cond.fieldLink RX6 9 (TX6 0).1 (TX6 0).2.1 (TX6 0).2.2.1 ∈ TB := tb_1 336 (by decide +kernel) (by decide +kernel)
theorem flcRX6_15 : Cond.fieldLink RX6 15 (TX6 1).1 (TX6 1).2.1 (TX6 1).2.2.1 ∈ TB := tb_1 338 (by decide +kernel) (by decide +kernel)
theorem flcRX6_18 : Cond.fieldLink RX6 18 (TX6 2).1 (TX6 2).2.1 (TX6 2).2.2.1 ∈ TB := tb_1 339 (by decide +kernel) (by decide +kernel)
theorem flcRX6_21 : Cond.fieldLink RX6 21 (TX6 3).1 (TX6 3).2.1 (TX6 3).2.2.1 ∈ TB := tb_1 340 (by decide +kernel) (by decide +kernel)
theorem flcRX6_24 : Cond.fieldLink RX6 24 (TX6 4).1 (TX6 4).2.1 (TX6 4).2.2.1 ∈ TB := tb_1 341 (by decide +kernel) (by decide +kernel)
theorem flcRX6_27 : Cond.fieldLink RX6 27 (TX6 5).1 (TX6 5).2.1 (TX6 5).2.2.1 ∈ TB := tb_1 342 (by decide +kernel) (by decide +kernel)
theorem flcRX6_30 : Cond.fieldLink RX6 30 (TX6 6).1 (TX6 6).2.1 (TX6 6).2.2.1 ∈ TB := tb_1 343 (by decide +kernel) (by decide +kernel)
set_option maxRecDepth 20000 in
theorem nX6_init {K : KX} (HK : KC K) {a : Nat} (k0 : isK 6 a) {mk : MK} {h : HH} (hm : mk a = 0) (hmz : mz mk (a + 1)) (hz : zr h (a + 1)) : MC K yX6_init cX6_init 1 1 7 4321 [.ref (K.2.1 a)] (a + 1) mk h (a + 8) (mset mk a 7) h := by
  refine MC_of HK (by decide) rfl (Nat.le_of_ble_eq_true rfl) (fun G C E I hnl => ?_)
  have C : OkC K G 1 7 4321 cX6_init RX6 := C
  refine (show AtC K G 0 0 (a + 1) mk h 0 [(0, .ref (K.2.1 a))] [] from ?_)
  refine C_aload_n C dX6_init_0 (i := 0) rfl 0 rfl 1 rfl ?_
  refine C_obj C dX6_init_1 loRX6_3 iobj coobj (by decide) (Nat.le_of_ble_eq_true rfl) 4 rfl ?_
  refine C_aload_n C dX6_init_4 (i := 0) rfl 0 rfl 5 rfl ?_
  refine C_bipush (v := 20) C dX6_init_5 (by decide) 7 rfl ?_
  refine C_newaI (len := 20) C dX6_init_7 (of_6_0 k0) ((zr.up hz (by omega)) _ (Nat.le_refl _)).1 (by decide) (by decide) (by decide) acint 1 20 rfl rfl (by decide) (by decide) (a + 2) rfl 9 rfl ?_
  refine C_putFR (v := (a + 1)) C I dX6_init_9 6 0 (r := (RX6, TX6, 10)) (ty0 := tyX6) (ty := .array .int) k0 (by omega) (by decide) rfl inX6 tokX6 nmX6 (by decide) rfl rfl (by decide +kernel) rfl rfl (Nat.le_of_ble_eq_true rfl) (fc_6_0 (hm)) flcRX6_9 12 rfl ?_
  refine C_aload_n C dX6_init_12 (i := 0) rfl 0 rfl 13 rfl ?_
  refine C_iconst (v := 5) C dX6_init_13 (by decide) 14 rfl ?_
  refine C_newaI (len := 5) C dX6_init_14 (of_6_1 k0) ((zr.up hz (by omega)) _ (Nat.le_refl _)).1 (by decide) (by decide) (by decide) acint 2 25 rfl rfl (by decide) (by decide) (a + 3) rfl 16 rfl ?_
  refine C_putFR (v := (a + 2)) C I dX6_init_16 6 1 (r := (RX6, TX6, 10)) (ty0 := tyX6) (ty := .array .int) k0 (by omega) (by decide) rfl inX6 tokX6 nmX6 (by decide) rfl rfl (by decide +kernel) rfl rfl (Nat.le_of_ble_eq_true rfl) (fc_6_1 (mset_s)) flcRX6_15 19 rfl ?_
  rw [mset_2]
  refine C_aload_n C dX6_init_19 (i := 0) rfl 0 rfl 20 rfl ?_
  refine C_sipush (v := 200) C dX6_init_20 (by decide) 23 rfl ?_
  refine C_newaI (len := 200) C dX6_init_23 (of_6_2 k0) ((zr.up hz (by omega)) _ (Nat.le_refl _)).1 (by decide) (by decide) (by decide) acint 3 225 rfl rfl (by decide) (by decide) (a + 4) rfl 25 rfl ?_
  refine C_putFR (v := (a + 3)) C I dX6_init_25 6 2 (r := (RX6, TX6, 10)) (ty0 := tyX6) (ty := .array .int) k0 (by omega) (by decide) rfl inX6 tokX6 nmX6 (by decide) rfl rfl (by decide +kernel) rfl rfl (Nat.le_of_ble_eq_true rfl) (fc_6_2 (mset_s)) flcRX6_18 28 rfl ?_
  rw [mset_2]
  refine C_aload_n C dX6_init_28 (i := 0) rfl 0 rfl 29 rfl ?_
  refine C_sipush (v := 1024) C dX6_init_29 (by decide) 32 rfl ?_
  refine C_newaI (len := 1024) C dX6_init_32 (of_6_3 k0) ((zr.up hz (by omega)) _ (Nat.le_refl _)).1 (by decide) (by decide) (by decide) acint 4 1249 rfl rfl (by decide) (by decide) (a + 5) rfl 34 rfl ?_
  refine C_putFR (v := (a + 4)) C I dX6_init_34 6 3 (r := (RX6, TX6, 10)) (ty0 := tyX6) (ty := .array .int) k0 (by omega) (by decide) rfl inX6 tokX6 nmX6 (by decide) rfl rfl (by decide +kernel) rfl rfl (Nat.le_of_ble_eq_true rfl) (fc_6_3 (mset_s)) flcRX6_21 37 rfl ?_
  rw [mset_2]
  refine C_aload_n C dX6_init_37 (i := 0) rfl 0 rfl 38 rfl ?_
  refine C_sipush (v := 1024) C dX6_init_38 (by decide) 41 rfl ?_
  refine C_newaI (len := 1024) C dX6_init_41 (of_6_4 k0) ((zr.up hz (by omega)) _ (Nat.le_refl _)).1 (by decide) (by decide) (by decide) acint 5 2273 rfl rfl (by decide) (by decide) (a + 6) rfl 43 rfl ?_
  refine C_putFR (v := (a + 5)) C I dX6_init_43 6 4 (r := (RX6, TX6, 10)) (ty0 := tyX6) (ty := .array .int) k0 (by omega) (by decide) rfl inX6 tokX6 nmX6 (by decide) rfl rfl (by decide +kernel) rfl rfl (Nat.le_of_ble_eq_true rfl) (fc_6_4 (mset_s)) flcRX6_24 46 rfl ?_
  rw [mset_2]
  refine C_aload_n C dX6_init_46 (i := 0) rfl 0 rfl 47 rfl ?_
  refine C_sipush (v := 1024) C dX6_init_47 (by decide) 50 rfl ?_
  refine C_newaI (len := 1024) C dX6_init_50 (of_6_5 k0) ((zr.up hz (by omega)) _ (Nat.le_refl _)).1 (by decide) (by decide) (by decide) acint 6 3297 rfl rfl (by decide) (by decide) (a + 7) rfl 52 rfl ?_
  refine C_putFR (v := (a + 6)) C I dX6_init_52 6 5 (r := (RX6, TX6, 10)) (ty0 := tyX6) (ty := .array .int) k0 (by omega) (by decide) rfl inX6 tokX6 nmX6 (by decide) rfl rfl (by decide +kernel) rfl rfl (Nat.le_of_ble_eq_true rfl) (fc_6_5 (mset_s)) flcRX6_27 55 rfl ?_
  rw [mset_2]
  refine C_aload_n C dX6_init_55 (i := 0) rfl 0 rfl 56 rfl ?_
  refine C_sipush (v := 1024) C dX6_init_56 (by decide) 59 rfl ?_
  refine C_newaI (len := 1024) C dX6_init_59 (of_6_6 k0) ((zr.up hz (by omega)) _ (Nat.le_refl _)).1 (by decide) (by decide) (by decide) acint 7 4321 rfl rfl (by decide) (by decide) (a + 8) rfl 61 rfl ?_
  refine C_putFR (v := (a + 7)) C I dX6_init_61 6 6 (r := (RX6, TX6, 10)) (ty0 := tyX6) (ty := .array .int) k0 (by omega) (by decide) rfl inX6 tokX6 nmX6 (by decide) rfl rfl (by decide +kernel) rfl rfl (Nat.le_of_ble_eq_true rfl) (fc_6_6 (mset_s)) flcRX6_30 64 rfl ?_
  rw [mset_2]
  exact C_vret C dX6_init_64 E rfl rfl rfl rfl rfl
theorem flcRX1_9 : Cond.fieldLink RX1 9 (TX1 2).1 (TX1 2).2.1 (TX1 2).2.2.1 ∈ TB := tb_1 378 (by decide +kernel) (by decide +kernel)
theorem flcRX1_15 : Cond.fieldLink RX1 15 (TX1 3).1 (TX1 3).2.1 (TX1 3).2.2.1 ∈ TB := tb_1 379 (by decide +kernel) (by decide +kernel)
set_option maxRecDepth 20000 in
theorem nX1_init {K : KX} (HK : KC K) {a : Nat} (k0 : isK 1 a) {mk : MK} {h : HH} (hm : mk a = 0) (hmz : mz mk (a + 1)) (hz : zr h (a + 1)) : MC K yX1_init cX1_init 1 1 2 10 [.ref (K.2.1 a)] (a + 1) mk h (a + 3) (mset mk a 4) h := by
  refine MC_of HK (by decide) rfl (Nat.le_of_ble_eq_true rfl) (fun G C E I hnl => ?_)
  have C : OkC K G 1 2 10 cX1_init RX1 := C
  refine (show AtC K G 0 0 (a + 1) mk h 0 [(0, .ref (K.2.1 a))] [] from ?_)
  refine C_aload_n C dX1_init_0 (i := 0) rfl 0 rfl 1 rfl ?_
  refine C_obj C dX1_init_1 loRX1_3 iobj coobj (by decide) (Nat.le_of_ble_eq_true rfl) 4 rfl ?_
  refine C_aload_n C dX1_init_4 (i := 0) rfl 0 rfl 5 rfl ?_
  refine C_iconst (v := 5) C dX1_init_5 (by decide) 6 rfl ?_
  refine C_newaI (len := 5) C dX1_init_6 (of_1_2 k0) ((zr.up hz (by omega)) _ (Nat.le_refl _)).1 (by decide) (by decide) (by decide) acint 1 5 rfl rfl (by decide) (by decide) (a + 2) rfl 8 rfl ?_
  refine C_putFR (v := (a + 1)) C I dX1_init_8 1 2 (r := (RX1, TX1, 4)) (ty0 := tyX1) (ty := .array .int) k0 (by omega) (by decide) rfl inX1 tokX1 nmX1 (by decide) rfl rfl (by decide +kernel) rfl rfl (Nat.le_of_ble_eq_true rfl) (fc_1_2 (hm)) flcRX1_9 11 rfl ?_
  refine C_aload_n C dX1_init_11 (i := 0) rfl 0 rfl 12 rfl ?_
  refine C_iconst (v := 5) C dX1_init_12 (by decide) 13 rfl ?_
  refine C_newaI (len := 5) C dX1_init_13 (of_1_3 k0) ((zr.up hz (by omega)) _ (Nat.le_refl _)).1 (by decide) (by decide) (by decide) acint 2 10 rfl rfl (by decide) (by decide) (a + 3) rfl 15 rfl ?_
  refine C_putFR (v := (a + 2)) C I dX1_init_15 1 3 (r := (RX1, TX1, 4)) (ty0 := tyX1) (ty := .array .int) k0 (by omega) (by decide) rfl inX1 tokX1 nmX1 (by decide) rfl rfl (by decide +kernel) rfl rfl (Nat.le_of_ble_eq_true rfl) (fc_1_3 (mset_s)) flcRX1_15 18 rfl ?_
  rw [mset_2]
  exact C_vret C dX1_init_18 E rfl rfl rfl rfl rfl
theorem clcRX3_9 : Cond.classLink RX3 9 RX2 ∈ TB := tb_1 275 (by decide +kernel) (by decide +kernel)
theorem flcRX3_12 : Cond.fieldLink RX3 12 (TX3 0).1 (TX3 0).2.1 (TX3 0).2.2.1 ∈ TB := tb_1 277 (by decide +kernel) (by decide +kernel)
set_option maxRecDepth 20000 in
theorem nX3_init {K : KX} (HK : KC K) {a : Nat} (k0 : isK 3 a) {mk : MK} {h : HH} (hm : mk a = 0) (hmz : mz mk (a + 1)) (hz : zr h (a + 1)) : MC K yX3_init cX3_init 1 2 7 37 [.ref (K.2.1 a)] (a + 1) mk h (a + 8) (mset (mset mk (a + 1) 6) a 1) h := by
  refine MC_of HK (by decide) rfl (Nat.le_of_ble_eq_true rfl) (fun G C E I hnl => ?_)
  have C : OkC K G 2 7 37 cX3_init RX3 := C
  refine (show AtC K G 0 0 (a + 1) mk h 0 [(0, .ref (K.2.1 a))] [] from ?_)
  refine C_aload_n C dX3_init_0 (i := 0) rfl 0 rfl 1 rfl ?_
  refine C_obj C dX3_init_1 loRX3_3 iobj coobj (by decide) (Nat.le_of_ble_eq_true rfl) 4 rfl ?_
  refine C_aload_n C dX3_init_4 (i := 0) rfl 0 rfl 5 rfl ?_
  refine C_new C dX3_init_5 2 (r := (RX2, TX2, 7)) (ty := tyX2) (of_3_0 k0) (by decide) rfl inX2 tokX2 (df2 (zr.up hz (by omega)) ((hmz _ (by omega)))) clcRX3_9 inst2 iniX2 1 7 rfl rfl (by decide) (by decide) (a + 2) rfl 8 rfl ?_
  refine C_dup C dX3_init_8 rfl 9 rfl ?_
  refine C_callN C dX3_init_9 (fun _ z => z.2.2.2.2.1) (nX2_init HK (of_3_0 k0) ((hmz _ (by omega))) ((hmz.up (by omega))) (zr.up hz (by omega))) lkRX3_11 (by decide) (by decide) rfl 7 37 rfl rfl (by decide) (by decide) [.ref (K.2.1 (a + 1)), .ref (K.2.1 a)] rfl (Nat.le_of_ble_eq_true rfl) 12 rfl ?_
  refine C_putFR (v := (a + 1)) C I dX3_init_12 3 0 (r := (RX3, TX3, 5)) (ty0 := tyX3) (ty := .object "AsleepInside$Night") k0 (by omega) (by decide) rfl inX3 tokX3 nmX3 (by decide) rfl rfl (by decide +kernel) rfl rfl (Nat.le_of_ble_eq_true rfl) (fc_3_0 ((mset_n (by omega)).trans (hm))) flcRX3_12 15 rfl ?_
  exact C_vret C dX3_init_15 E rfl rfl rfl rfl rfl
theorem lnD_4 {a : Nat} (h : isK 0 a) : ln (a + 4 + 1) = 30 := (by decide +kernel : ∀ a, a < NW → kd a = 0 → ln (a + 4 + 1) = 30) a h.1 h.2
theorem lnD_6 {a : Nat} (h : isK 0 a) : ln (a + 6 + 1) = 60 := (by decide +kernel : ∀ a, a < NW → kd a = 0 → ln (a + 6 + 1) = 60) a h.1 h.2
theorem lnD_8 {a : Nat} (h : isK 0 a) : ln (a + 8 + 1) = 32 := (by decide +kernel : ∀ a, a < NW → kd a = 0 → ln (a + 8 + 1) = 32) a h.1 h.2
theorem lnD_10 {a : Nat} (h : isK 0 a) : ln (a + 10 + 1) = 18 := (by decide +kernel : ∀ a, a < NW → kd a = 0 → ln (a + 10 + 1) = 18) a h.1 h.2
theorem lnD_12 {a : Nat} (h : isK 0 a) : ln (a + 12 + 1) = 18 := (by decide +kernel : ∀ a, a < NW → kd a = 0 → ln (a + 12 + 1) = 18) a h.1 h.2
theorem lnD_14 {a : Nat} (h : isK 0 a) : ln (a + 14 + 1) = 18 := (by decide +kernel : ∀ a, a < NW → kd a = 0 → ln (a + 14 + 1) = 18) a h.1 h.2
theorem flcRX0_9 : Cond.fieldLink RX0 9 (TX0 0).1 (TX0 0).2.1 (TX0 0).2.2.1 ∈ TB := tb_1 425 (by decide +kernel) (by decide +kernel)
theorem flcRX0_15 : Cond.fieldLink RX0 15 (TX0 1).1 (TX0 1).2.1 (TX0 1).2.2.1 ∈ TB := tb_1 426 (by decide +kernel) (by decide +kernel)
theorem flcRX0_18 : Cond.fieldLink RX0 18 (TX0 2).1 (TX0 2).2.1 (TX0 2).2.2.1 ∈ TB := tb_1 428 (by decide +kernel) (by decide +kernel)
theorem clcRX0_21 : Cond.classLink RX0 21 RX7 ∈ TB := tb_1 396 (by decide +kernel) (by decide +kernel)
theorem flcRX0_26 : Cond.fieldLink RX0 26 (TX0 3).1 (TX0 3).2.1 (TX0 3).2.2.1 ∈ TB := tb_1 429 (by decide +kernel) (by decide +kernel)
theorem flcRX0_30 : Cond.fieldLink RX0 30 (TX0 4).1 (TX0 4).2.1 (TX0 4).2.2.1 ∈ TB := tb_1 434 (by decide +kernel) (by decide +kernel)
theorem flcRX0_33 : Cond.fieldLink RX0 33 (TX0 5).1 (TX0 5).2.1 (TX0 5).2.2.1 ∈ TB := tb_1 438 (by decide +kernel) (by decide +kernel)
theorem flcRX0_36 : Cond.fieldLink RX0 36 (TX0 6).1 (TX0 6).2.1 (TX0 6).2.2.1 ∈ TB := tb_1 442 (by decide +kernel) (by decide +kernel)
theorem flcRX0_39 : Cond.fieldLink RX0 39 (TX0 7).1 (TX0 7).2.1 (TX0 7).2.2.1 ∈ TB := tb_1 446 (by decide +kernel) (by decide +kernel)
theorem flcRX0_42 : Cond.fieldLink RX0 42 (TX0 8).1 (TX0 8).2.1 (TX0 8).2.2.1 ∈ TB := tb_1 449 (by decide +kernel) (by decide +kernel)
set_option maxRecDepth 20000 in
theorem nX0_init {K : KX} (HK : KC K) {a : Nat} (k0 : isK 0 a) {mk : MK} {h : HH} (hm : mk a = 0) (hmz : mz mk (a + 1)) (hz : zr h (a + 1)) : MC K yX0_init cX0_init 1 2 15 310 [.ref (K.2.1 a)] (a + 1) mk h (a + 16) (mset (mset (mset (mset (mset (mset (mset (mset (mset (mset (mset (mset (mset mk a 3) (a + 4) 3) a 4) (a + 6) 3) a 5) (a + 8) 3) a 6) (a + 10) 3) a 7) (a + 12) 3) a 8) (a + 14) 3) a 9) (sI (sI (sI (sI (sI (sI (sI (sI (sI (sI (sI (sI h (a + 4) 0 5) (a + 4) 1 6) (a + 6) 0 20) (a + 6) 1 3) (a + 8) 0 8) (a + 8) 1 4) (a + 10) 0 6) (a + 10) 1 3) (a + 12) 0 6) (a + 12) 1 3) (a + 14) 0 6) (a + 14) 1 3) := by
  refine MC_of HK (by decide) rfl (Nat.le_of_ble_eq_true rfl) (fun G C E I hnl => ?_)
  have C : OkC K G 2 15 310 cX0_init RX0 := C
  refine (show AtC K G 0 0 (a + 1) mk h 0 [(0, .ref (K.2.1 a))] [] from ?_)
  refine C_aload_n C dX0_init_0 (i := 0) rfl 0 rfl 1 rfl ?_
  refine C_obj C dX0_init_1 loRX0_3 iobj coobj (by decide) (Nat.le_of_ble_eq_true rfl) 4 rfl ?_
  refine C_aload_n C dX0_init_4 (i := 0) rfl 0 rfl 5 rfl ?_
  refine C_iconst (v := 5) C dX0_init_5 (by decide) 6 rfl ?_
  refine C_newaI (len := 5) C dX0_init_6 (of_0_0 k0) ((zr.up hz (by omega)) _ (Nat.le_refl _)).1 (by decide) (by decide) (by decide) acint 1 5 rfl rfl (by decide) (by decide) (a + 2) rfl 8 rfl ?_
  refine C_putFR (v := (a + 1)) C I dX0_init_8 0 0 (r := (RX0, TX0, 14)) (ty0 := tyX0) (ty := .array .int) k0 (by omega) (by decide) rfl inX0 tokX0 nmX0 (by decide) rfl rfl (by decide +kernel) rfl rfl (Nat.le_of_ble_eq_true rfl) (fc_0_0 (hm)) flcRX0_9 11 rfl ?_
  refine C_aload_n C dX0_init_11 (i := 0) rfl 0 rfl 12 rfl ?_
  refine C_iconst (v := 5) C dX0_init_12 (by decide) 13 rfl ?_
  refine C_newaI (len := 5) C dX0_init_13 (of_0_1 k0) ((zr.up hz (by omega)) _ (Nat.le_refl _)).1 (by decide) (by decide) (by decide) acint 2 10 rfl rfl (by decide) (by decide) (a + 3) rfl 15 rfl ?_
  refine C_putFR (v := (a + 2)) C I dX0_init_15 0 1 (r := (RX0, TX0, 14)) (ty0 := tyX0) (ty := .array .int) k0 (by omega) (by decide) rfl inX0 tokX0 nmX0 (by decide) rfl rfl (by decide +kernel) rfl rfl (Nat.le_of_ble_eq_true rfl) (fc_0_1 (mset_s)) flcRX0_15 18 rfl ?_
  rw [mset_2]
  refine C_aload_n C dX0_init_18 (i := 0) rfl 0 rfl 19 rfl ?_
  refine C_bipush (v := 100) C dX0_init_19 (by decide) 21 rfl ?_
  refine C_newaI (len := 100) C dX0_init_21 (of_0_2 k0) ((zr.up hz (by omega)) _ (Nat.le_refl _)).1 (by decide) (by decide) (by decide) acint 3 110 rfl rfl (by decide) (by decide) (a + 4) rfl 23 rfl ?_
  refine C_putFR (v := (a + 3)) C I dX0_init_23 0 2 (r := (RX0, TX0, 14)) (ty0 := tyX0) (ty := .array .int) k0 (by omega) (by decide) rfl inX0 tokX0 nmX0 (by decide) rfl rfl (by decide +kernel) rfl rfl (Nat.le_of_ble_eq_true rfl) (fc_0_2 (mset_s)) flcRX0_18 26 rfl ?_
  rw [mset_2]
  refine C_aload_n C dX0_init_26 (i := 0) rfl 0 rfl 27 rfl ?_
  refine C_new C dX0_init_27 7 (r := (RX7, TX7, 4)) (ty := tyX7) (of_0_3 k0) (by decide) rfl inX7 tokX7 (df7 (zr.up hz (by omega)) ((mset_n (by omega)).trans (hmz _ (by omega)))) clcRX0_21 inst7 iniX7 4 114 rfl rfl (by decide) (by decide) (a + 5) rfl 30 rfl ?_
  refine C_dup C dX0_init_30 rfl 31 rfl ?_
  refine C_iconst (v := 5) C dX0_init_31 (by decide) 32 rfl ?_
  refine C_bipush (v := 6) C dX0_init_32 (by decide) 34 rfl ?_
  refine C_call C dX0_init_34 (nX7_init_5_6 HK (of_0_3 k0) (lnD_4 k0) ((mset_n (by omega)).trans (hmz _ (by omega))) ((mz_set (hmz.up (by omega)) (by omega))) (zr.up hz (by omega))) lkRX0_23 (by decide) (by decide) rfl 5 144 rfl rfl (by decide) (by decide) [.ref (K.2.1 (a + 4)), .ref (K.2.1 a)] rfl (Nat.le_of_ble_eq_true rfl) 37 rfl ?_
  have hz1 := zr_rows (a := (a + 4)) (x := 5) (y := 6) (zr.up (m := (a + 6)) hz (by omega)) (by omega)
  refine C_putFR (v := (a + 4)) C I dX0_init_37 0 3 (r := (RX0, TX0, 14)) (ty0 := tyX0) (ty := .object "AsleepInside$Rows") k0 (by omega) (by decide) rfl inX0 tokX0 nmX0 (by decide) rfl rfl (by decide +kernel) rfl rfl (Nat.le_of_ble_eq_true rfl) (fc_0_3 ((mset_n (by omega)).trans (mset_s))) flcRX0_26 40 rfl ?_
  refine C_aload_n C dX0_init_40 (i := 0) rfl 0 rfl 41 rfl ?_
  refine C_new C dX0_init_41 7 (r := (RX7, TX7, 4)) (ty := tyX7) (of_0_4 k0) (by decide) rfl inX7 tokX7 (df7 (zr.up hz1 (by omega)) ((mset_n (by omega)).trans ((mset_n (by omega)).trans ((mset_n (by omega)).trans (hmz _ (by omega)))))) clcRX0_21 inst7 iniX7 6 148 rfl rfl (by decide) (by decide) (a + 7) rfl 44 rfl ?_
  refine C_dup C dX0_init_44 rfl 45 rfl ?_
  refine C_bipush (v := 20) C dX0_init_45 (by decide) 47 rfl ?_
  refine C_iconst (v := 3) C dX0_init_47 (by decide) 48 rfl ?_
  refine C_call C dX0_init_48 (nX7_init_20_3 HK (of_0_4 k0) (lnD_6 k0) ((mset_n (by omega)).trans ((mset_n (by omega)).trans ((mset_n (by omega)).trans (hmz _ (by omega))))) ((mz_set (mz_set (mz_set (hmz.up (by omega)) (by omega)) (by omega)) (by omega))) (zr.up hz1 (by omega))) lkRX0_23 (by decide) (by decide) rfl 7 208 rfl rfl (by decide) (by decide) [.ref (K.2.1 (a + 6)), .ref (K.2.1 a)] rfl (Nat.le_of_ble_eq_true rfl) 51 rfl ?_
  have hz2 := zr_rows (a := (a + 6)) (x := 20) (y := 3) (zr.up (m := (a + 8)) hz1 (by omega)) (by omega)
  refine C_putFR (v := (a + 6)) C I dX0_init_51 0 4 (r := (RX0, TX0, 14)) (ty0 := tyX0) (ty := .object "AsleepInside$Rows") k0 (by omega) (by decide) rfl inX0 tokX0 nmX0 (by decide) rfl rfl (by decide +kernel) rfl rfl (Nat.le_of_ble_eq_true rfl) (fc_0_4 ((mset_n (by omega)).trans (mset_s))) flcRX0_30 54 rfl ?_
  refine C_aload_n C dX0_init_54 (i := 0) rfl 0 rfl 55 rfl ?_
  refine C_new C dX0_init_55 7 (r := (RX7, TX7, 4)) (ty := tyX7) (of_0_5 k0) (by decide) rfl inX7 tokX7 (df7 (zr.up hz2 (by omega)) ((mset_n (by omega)).trans ((mset_n (by omega)).trans ((mset_n (by omega)).trans ((mset_n (by omega)).trans ((mset_n (by omega)).trans (hmz _ (by omega)))))))) clcRX0_21 inst7 iniX7 8 212 rfl rfl (by decide) (by decide) (a + 9) rfl 58 rfl ?_
  refine C_dup C dX0_init_58 rfl 59 rfl ?_
  refine C_bipush (v := 8) C dX0_init_59 (by decide) 61 rfl ?_
  refine C_iconst (v := 4) C dX0_init_61 (by decide) 62 rfl ?_
  refine C_call C dX0_init_62 (nX7_init_8_4 HK (of_0_5 k0) (lnD_8 k0) ((mset_n (by omega)).trans ((mset_n (by omega)).trans ((mset_n (by omega)).trans ((mset_n (by omega)).trans ((mset_n (by omega)).trans (hmz _ (by omega))))))) ((mz_set (mz_set (mz_set (mz_set (mz_set (hmz.up (by omega)) (by omega)) (by omega)) (by omega)) (by omega)) (by omega))) (zr.up hz2 (by omega))) lkRX0_23 (by decide) (by decide) rfl 9 244 rfl rfl (by decide) (by decide) [.ref (K.2.1 (a + 8)), .ref (K.2.1 a)] rfl (Nat.le_of_ble_eq_true rfl) 65 rfl ?_
  have hz3 := zr_rows (a := (a + 8)) (x := 8) (y := 4) (zr.up (m := (a + 10)) hz2 (by omega)) (by omega)
  refine C_putFR (v := (a + 8)) C I dX0_init_65 0 5 (r := (RX0, TX0, 14)) (ty0 := tyX0) (ty := .object "AsleepInside$Rows") k0 (by omega) (by decide) rfl inX0 tokX0 nmX0 (by decide) rfl rfl (by decide +kernel) rfl rfl (Nat.le_of_ble_eq_true rfl) (fc_0_5 ((mset_n (by omega)).trans (mset_s))) flcRX0_33 68 rfl ?_
  refine C_aload_n C dX0_init_68 (i := 0) rfl 0 rfl 69 rfl ?_
  refine C_new C dX0_init_69 7 (r := (RX7, TX7, 4)) (ty := tyX7) (of_0_6 k0) (by decide) rfl inX7 tokX7 (df7 (zr.up hz3 (by omega)) ((mset_n (by omega)).trans ((mset_n (by omega)).trans ((mset_n (by omega)).trans ((mset_n (by omega)).trans ((mset_n (by omega)).trans ((mset_n (by omega)).trans ((mset_n (by omega)).trans (hmz _ (by omega)))))))))) clcRX0_21 inst7 iniX7 10 248 rfl rfl (by decide) (by decide) (a + 11) rfl 72 rfl ?_
  refine C_dup C dX0_init_72 rfl 73 rfl ?_
  refine C_bipush (v := 6) C dX0_init_73 (by decide) 75 rfl ?_
  refine C_iconst (v := 3) C dX0_init_75 (by decide) 76 rfl ?_
  refine C_call C dX0_init_76 (nX7_init_6_3 HK (of_0_6 k0) (lnD_10 k0) ((mset_n (by omega)).trans ((mset_n (by omega)).trans ((mset_n (by omega)).trans ((mset_n (by omega)).trans ((mset_n (by omega)).trans ((mset_n (by omega)).trans ((mset_n (by omega)).trans (hmz _ (by omega))))))))) ((mz_set (mz_set (mz_set (mz_set (mz_set (mz_set (mz_set (hmz.up (by omega)) (by omega)) (by omega)) (by omega)) (by omega)) (by omega)) (by omega)) (by omega))) (zr.up hz3 (by omega))) lkRX0_23 (by decide) (by decide) rfl 11 266 rfl rfl (by decide) (by decide) [.ref (K.2.1 (a + 10)), .ref (K.2.1 a)] rfl (Nat.le_of_ble_eq_true rfl) 79 rfl ?_
  have hz4 := zr_rows (a := (a + 10)) (x := 6) (y := 3) (zr.up (m := (a + 12)) hz3 (by omega)) (by omega)
  refine C_putFR (v := (a + 10)) C I dX0_init_79 0 6 (r := (RX0, TX0, 14)) (ty0 := tyX0) (ty := .object "AsleepInside$Rows") k0 (by omega) (by decide) rfl inX0 tokX0 nmX0 (by decide) rfl rfl (by decide +kernel) rfl rfl (Nat.le_of_ble_eq_true rfl) (fc_0_6 ((mset_n (by omega)).trans (mset_s))) flcRX0_36 82 rfl ?_
  refine C_aload_n C dX0_init_82 (i := 0) rfl 0 rfl 83 rfl ?_
  refine C_new C dX0_init_83 7 (r := (RX7, TX7, 4)) (ty := tyX7) (of_0_7 k0) (by decide) rfl inX7 tokX7 (df7 (zr.up hz4 (by omega)) ((mset_n (by omega)).trans ((mset_n (by omega)).trans ((mset_n (by omega)).trans ((mset_n (by omega)).trans ((mset_n (by omega)).trans ((mset_n (by omega)).trans ((mset_n (by omega)).trans ((mset_n (by omega)).trans ((mset_n (by omega)).trans (hmz _ (by omega)))))))))))) clcRX0_21 inst7 iniX7 12 270 rfl rfl (by decide) (by decide) (a + 13) rfl 86 rfl ?_
  refine C_dup C dX0_init_86 rfl 87 rfl ?_
  refine C_bipush (v := 6) C dX0_init_87 (by decide) 89 rfl ?_
  refine C_iconst (v := 3) C dX0_init_89 (by decide) 90 rfl ?_
  refine C_call C dX0_init_90 (nX7_init_6_3 HK (of_0_7 k0) (lnD_12 k0) ((mset_n (by omega)).trans ((mset_n (by omega)).trans ((mset_n (by omega)).trans ((mset_n (by omega)).trans ((mset_n (by omega)).trans ((mset_n (by omega)).trans ((mset_n (by omega)).trans ((mset_n (by omega)).trans ((mset_n (by omega)).trans (hmz _ (by omega))))))))))) ((mz_set (mz_set (mz_set (mz_set (mz_set (mz_set (mz_set (mz_set (mz_set (hmz.up (by omega)) (by omega)) (by omega)) (by omega)) (by omega)) (by omega)) (by omega)) (by omega)) (by omega)) (by omega))) (zr.up hz4 (by omega))) lkRX0_23 (by decide) (by decide) rfl 13 288 rfl rfl (by decide) (by decide) [.ref (K.2.1 (a + 12)), .ref (K.2.1 a)] rfl (Nat.le_of_ble_eq_true rfl) 93 rfl ?_
  have hz5 := zr_rows (a := (a + 12)) (x := 6) (y := 3) (zr.up (m := (a + 14)) hz4 (by omega)) (by omega)
  refine C_putFR (v := (a + 12)) C I dX0_init_93 0 7 (r := (RX0, TX0, 14)) (ty0 := tyX0) (ty := .object "AsleepInside$Rows") k0 (by omega) (by decide) rfl inX0 tokX0 nmX0 (by decide) rfl rfl (by decide +kernel) rfl rfl (Nat.le_of_ble_eq_true rfl) (fc_0_7 ((mset_n (by omega)).trans (mset_s))) flcRX0_39 96 rfl ?_
  refine C_aload_n C dX0_init_96 (i := 0) rfl 0 rfl 97 rfl ?_
  refine C_new C dX0_init_97 7 (r := (RX7, TX7, 4)) (ty := tyX7) (of_0_8 k0) (by decide) rfl inX7 tokX7 (df7 (zr.up hz5 (by omega)) ((mset_n (by omega)).trans ((mset_n (by omega)).trans ((mset_n (by omega)).trans ((mset_n (by omega)).trans ((mset_n (by omega)).trans ((mset_n (by omega)).trans ((mset_n (by omega)).trans ((mset_n (by omega)).trans ((mset_n (by omega)).trans ((mset_n (by omega)).trans ((mset_n (by omega)).trans (hmz _ (by omega)))))))))))))) clcRX0_21 inst7 iniX7 14 292 rfl rfl (by decide) (by decide) (a + 15) rfl 100 rfl ?_
  refine C_dup C dX0_init_100 rfl 101 rfl ?_
  refine C_bipush (v := 6) C dX0_init_101 (by decide) 103 rfl ?_
  refine C_iconst (v := 3) C dX0_init_103 (by decide) 104 rfl ?_
  refine C_call C dX0_init_104 (nX7_init_6_3 HK (of_0_8 k0) (lnD_14 k0) ((mset_n (by omega)).trans ((mset_n (by omega)).trans ((mset_n (by omega)).trans ((mset_n (by omega)).trans ((mset_n (by omega)).trans ((mset_n (by omega)).trans ((mset_n (by omega)).trans ((mset_n (by omega)).trans ((mset_n (by omega)).trans ((mset_n (by omega)).trans ((mset_n (by omega)).trans (hmz _ (by omega))))))))))))) ((mz_set (mz_set (mz_set (mz_set (mz_set (mz_set (mz_set (mz_set (mz_set (mz_set (mz_set (hmz.up (by omega)) (by omega)) (by omega)) (by omega)) (by omega)) (by omega)) (by omega)) (by omega)) (by omega)) (by omega)) (by omega)) (by omega))) (zr.up hz5 (by omega))) lkRX0_23 (by decide) (by decide) rfl 15 310 rfl rfl (by decide) (by decide) [.ref (K.2.1 (a + 14)), .ref (K.2.1 a)] rfl (Nat.le_of_ble_eq_true rfl) 107 rfl ?_
  have hz6 := zr_rows (a := (a + 14)) (x := 6) (y := 3) (zr.up (m := (a + 16)) hz5 (by omega)) (by omega)
  refine C_putFR (v := (a + 14)) C I dX0_init_107 0 8 (r := (RX0, TX0, 14)) (ty0 := tyX0) (ty := .object "AsleepInside$Rows") k0 (by omega) (by decide) rfl inX0 tokX0 nmX0 (by decide) rfl rfl (by decide +kernel) rfl rfl (Nat.le_of_ble_eq_true rfl) (fc_0_8 ((mset_n (by omega)).trans (mset_s))) flcRX0_42 110 rfl ?_
  exact C_vret C dX0_init_110 E rfl rfl rfl rfl rfl
def drM (mk : MK) (a : Nat) : MK := (mset (mset (mset (mset (mset (mset (mset (mset (mset (mset (mset (mset (mset mk a 3) (a + 4) 3) a 4) (a + 6) 3) a 5) (a + 8) 3) a 6) (a + 10) 3) a 7) (a + 12) 3) a 8) (a + 14) 3) a 9)
def drH (h : HH) (a : Nat) : HH := (sI (sI (sI (sI (sI (sI (sI (sI (sI (sI (sI (sI h (a + 4) 0 5) (a + 4) 1 6) (a + 6) 0 20) (a + 6) 1 3) (a + 8) 0 8) (a + 8) 1 4) (a + 10) 0 6) (a + 10) 1 3) (a + 12) 0 6) (a + 12) 1 3) (a + 14) 0 6) (a + 14) 1 3)
theorem zr_drm {h : HH} {n a : Nat} (hz : zr h n) (ha : a + 15 < n) : zr (drH h a) n := (zr_rows (zr_rows (zr_rows (zr_rows (zr_rows (zr_rows hz (by omega)) (by omega)) (by omega)) (by omega)) (by omega)) (by omega))
theorem nX0_init2 {K : KX} (HK : KC K) {a : Nat} (k0 : isK 0 a) {mk : MK} {h : HH} (hm : mk a = 0) (hmz : mz mk (a + 1)) (hz : zr h (a + 1)) : MC K yX0_init cX0_init 1 2 15 310 [.ref (K.2.1 a)] (a + 1) mk h (a + 16) (drM mk a) (drH h a) := nX0_init HK k0 hm hmz hz
theorem mz_drM {mk : MK} {n a : Nat} (hz : mz mk n) (ha : a + 15 < n) : mz (drM mk a) n := (mz_set (mz_set (mz_set (mz_set (mz_set (mz_set (mz_set (mz_set (mz_set (mz_set (mz_set (mz_set (mz_set hz (by omega)) (by omega)) (by omega)) (by omega)) (by omega)) (by omega)) (by omega)) (by omega)) (by omega)) (by omega)) (by omega)) (by omega)) (by omega))
