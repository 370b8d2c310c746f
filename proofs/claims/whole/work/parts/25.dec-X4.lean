theorem dX4_allMinutes_0 : decode cX4_allMinutes 0 = .ok (.lconst 0, 1) := by decide +kernel
theorem dX4_allMinutes_1 : decode cX4_allMinutes 1 = .ok (.lstore_n 1, 1) := by decide +kernel
theorem dX4_allMinutes_2 : decode cX4_allMinutes 2 = .ok (.iconst 0, 1) := by decide +kernel
theorem dX4_allMinutes_3 : decode cX4_allMinutes 3 = .ok (.istore_n 3, 1) := by decide +kernel
theorem dX4_allMinutes_4 : decode cX4_allMinutes 4 = .ok (.iload_n 3, 1) := by decide +kernel
theorem dX4_allMinutes_5 : decode cX4_allMinutes 5 = .ok (.aload_n 0, 1) := by decide +kernel
theorem dX4_allMinutes_6 : decode cX4_allMinutes 6 = .ok (.getfield 46, 3) := by decide +kernel
theorem dX4_allMinutes_9 : decode cX4_allMinutes 9 = .ok (.getfield 50, 3) := by decide +kernel
theorem dX4_allMinutes_12 : decode cX4_allMinutes 12 = .ok (.if_icmp .ge 22, 3) := by decide +kernel
theorem dX4_allMinutes_15 : decode cX4_allMinutes 15 = .ok (.lload_n 1, 1) := by decide +kernel
theorem dX4_allMinutes_16 : decode cX4_allMinutes 16 = .ok (.aload_n 0, 1) := by decide +kernel
theorem dX4_allMinutes_17 : decode cX4_allMinutes 17 = .ok (.getfield 46, 3) := by decide +kernel
theorem dX4_allMinutes_20 : decode cX4_allMinutes 20 = .ok (.iload_n 3, 1) := by decide +kernel
theorem dX4_allMinutes_21 : decode cX4_allMinutes 21 = .ok (.iconst 1, 1) := by decide +kernel
theorem dX4_allMinutes_22 : decode cX4_allMinutes 22 = .ok (.invokevirtual 64, 3) := by decide +kernel
theorem dX4_allMinutes_25 : decode cX4_allMinutes 25 = .ok (.i2l, 1) := by decide +kernel
theorem dX4_allMinutes_26 : decode cX4_allMinutes 26 = .ok (.ladd, 1) := by decide +kernel
theorem dX4_allMinutes_27 : decode cX4_allMinutes 27 = .ok (.lstore_n 1, 1) := by decide +kernel
theorem dX4_allMinutes_28 : decode cX4_allMinutes 28 = .ok (.iinc 3 1, 3) := by decide +kernel
theorem dX4_allMinutes_31 : decode cX4_allMinutes 31 = .ok (.goto (-27), 3) := by decide +kernel
theorem dX4_allMinutes_34 : decode cX4_allMinutes 34 = .ok (.lload_n 1, 1) := by decide +kernel
theorem dX4_allMinutes_35 : decode cX4_allMinutes 35 = .ok (.lreturn, 1) := by decide +kernel
theorem dX4_weigh_0 : decode cX4_weigh 0 = .ok (.aload_n 1, 1) := by decide +kernel
theorem dX4_weigh_1 : decode cX4_weigh 1 = .ok (.getfield 80, 3) := by decide +kernel
theorem dX4_weigh_4 : decode cX4_weigh 4 = .ok (.i2l, 1) := by decide +kernel
theorem dX4_weigh_5 : decode cX4_weigh 5 = .ok (.iload_n 2, 1) := by decide +kernel
theorem dX4_weigh_6 : decode cX4_weigh 6 = .ok (.i2l, 1) := by decide +kernel
theorem dX4_weigh_7 : decode cX4_weigh 7 = .ok (.lmul, 1) := by decide +kernel
theorem dX4_weigh_8 : decode cX4_weigh 8 = .ok (.aload_n 0, 1) := by decide +kernel
theorem dX4_weigh_9 : decode cX4_weigh 9 = .ok (.getfield 29, 3) := by decide +kernel
theorem dX4_weigh_12 : decode cX4_weigh 12 = .ok (.ladd, 1) := by decide +kernel
theorem dX4_weigh_13 : decode cX4_weigh 13 = .ok (.lstore 7, 2) := by decide +kernel
theorem dX4_weigh_15 : decode cX4_weigh 15 = .ok (.aload_n 0, 1) := by decide +kernel
theorem dX4_weigh_16 : decode cX4_weigh 16 = .ok (.getfield 22, 3) := by decide +kernel
theorem dX4_weigh_19 : decode cX4_weigh 19 = .ok (.ifCond .eq 31, 3) := by decide +kernel
theorem dX4_weigh_22 : decode cX4_weigh 22 = .ok (.lload_n 3, 1) := by decide +kernel
theorem dX4_weigh_23 : decode cX4_weigh 23 = .ok (.aload_n 0, 1) := by decide +kernel
theorem dX4_weigh_24 : decode cX4_weigh 24 = .ok (.getfield 43, 3) := by decide +kernel
theorem dX4_weigh_27 : decode cX4_weigh 27 = .ok (.lcmp, 1) := by decide +kernel
theorem dX4_weigh_28 : decode cX4_weigh 28 = .ok (.ifCond .lt 22, 3) := by decide +kernel
theorem dX4_weigh_31 : decode cX4_weigh 31 = .ok (.lload_n 3, 1) := by decide +kernel
theorem dX4_weigh_32 : decode cX4_weigh 32 = .ok (.aload_n 0, 1) := by decide +kernel
theorem dX4_weigh_33 : decode cX4_weigh 33 = .ok (.getfield 43, 3) := by decide +kernel
theorem dX4_weigh_36 : decode cX4_weigh 36 = .ok (.lcmp, 1) := by decide +kernel
theorem dX4_weigh_37 : decode cX4_weigh 37 = .ok (.ifCond .ne 17, 3) := by decide +kernel
theorem dX4_weigh_40 : decode cX4_weigh 40 = .ok (.lload 7, 2) := by decide +kernel
theorem dX4_weigh_42 : decode cX4_weigh 42 = .ok (.aload_n 0, 1) := by decide +kernel
theorem dX4_weigh_43 : decode cX4_weigh 43 = .ok (.getfield 83, 3) := by decide +kernel
theorem dX4_weigh_46 : decode cX4_weigh 46 = .ok (.lcmp, 1) := by decide +kernel
theorem dX4_weigh_47 : decode cX4_weigh 47 = .ok (.ifCond .ge 7, 3) := by decide +kernel
theorem dX4_weigh_50 : decode cX4_weigh 50 = .ok (.iconst 1, 1) := by decide +kernel
theorem dX4_weigh_51 : decode cX4_weigh 51 = .ok (.goto 4, 3) := by decide +kernel
theorem dX4_weigh_54 : decode cX4_weigh 54 = .ok (.iconst 0, 1) := by decide +kernel
theorem dX4_weigh_55 : decode cX4_weigh 55 = .ok (.istore 9, 2) := by decide +kernel
theorem dX4_weigh_57 : decode cX4_weigh 57 = .ok (.lload 5, 2) := by decide +kernel
theorem dX4_weigh_59 : decode cX4_weigh 59 = .ok (.aload_n 1, 1) := by decide +kernel
theorem dX4_weigh_60 : decode cX4_weigh 60 = .ok (.invokevirtual 37, 3) := by decide +kernel
theorem dX4_weigh_63 : decode cX4_weigh 63 = .ok (.lcmp, 1) := by decide +kernel
theorem dX4_weigh_64 : decode cX4_weigh 64 = .ok (.ifCond .gt 8, 3) := by decide +kernel
theorem dX4_weigh_67 : decode cX4_weigh 67 = .ok (.iload 9, 2) := by decide +kernel
theorem dX4_weigh_69 : decode cX4_weigh 69 = .ok (.ifCond .ne 4, 3) := by decide +kernel
theorem dX4_weigh_72 : decode cX4_weigh 72 = .ok (.return_, 1) := by decide +kernel
theorem dX4_weigh_73 : decode cX4_weigh 73 = .ok (.aload_n 0, 1) := by decide +kernel
theorem dX4_weigh_74 : decode cX4_weigh 74 = .ok (.iconst 1, 1) := by decide +kernel
theorem dX4_weigh_75 : decode cX4_weigh 75 = .ok (.putfield 22, 3) := by decide +kernel
theorem dX4_weigh_78 : decode cX4_weigh 78 = .ok (.aload_n 0, 1) := by decide +kernel
theorem dX4_weigh_79 : decode cX4_weigh 79 = .ok (.lload_n 3, 1) := by decide +kernel
theorem dX4_weigh_80 : decode cX4_weigh 80 = .ok (.putfield 43, 3) := by decide +kernel
theorem dX4_weigh_83 : decode cX4_weigh 83 = .ok (.aload_n 0, 1) := by decide +kernel
theorem dX4_weigh_84 : decode cX4_weigh 84 = .ok (.lload 5, 2) := by decide +kernel
theorem dX4_weigh_86 : decode cX4_weigh 86 = .ok (.putfield 86, 3) := by decide +kernel
theorem dX4_weigh_89 : decode cX4_weigh 89 = .ok (.aload_n 0, 1) := by decide +kernel
theorem dX4_weigh_90 : decode cX4_weigh 90 = .ok (.lload 7, 2) := by decide +kernel
theorem dX4_weigh_92 : decode cX4_weigh 92 = .ok (.putfield 83, 3) := by decide +kernel
theorem dX4_weigh_95 : decode cX4_weigh 95 = .ok (.iconst 0, 1) := by decide +kernel
theorem dX4_weigh_96 : decode cX4_weigh 96 = .ok (.istore 10, 2) := by decide +kernel
theorem dX4_weigh_98 : decode cX4_weigh 98 = .ok (.iload 10, 2) := by decide +kernel
theorem dX4_weigh_100 : decode cX4_weigh 100 = .ok (.bipush 6, 2) := by decide +kernel
theorem dX4_weigh_102 : decode cX4_weigh 102 = .ok (.if_icmp .ge 23, 3) := by decide +kernel
theorem dX4_weigh_105 : decode cX4_weigh 105 = .ok (.aload_n 0, 1) := by decide +kernel
theorem dX4_weigh_106 : decode cX4_weigh 106 = .ok (.getfield 9, 3) := by decide +kernel
theorem dX4_weigh_109 : decode cX4_weigh 109 = .ok (.iload 10, 2) := by decide +kernel
theorem dX4_weigh_111 : decode cX4_weigh 111 = .ok (.aload_n 0, 1) := by decide +kernel
theorem dX4_weigh_112 : decode cX4_weigh 112 = .ok (.getfield 15, 3) := by decide +kernel
theorem dX4_weigh_115 : decode cX4_weigh 115 = .ok (.iload 10, 2) := by decide +kernel
theorem dX4_weigh_117 : decode cX4_weigh 117 = .ok (.iaload, 1) := by decide +kernel
theorem dX4_weigh_118 : decode cX4_weigh 118 = .ok (.iastore, 1) := by decide +kernel
theorem dX4_weigh_119 : decode cX4_weigh 119 = .ok (.iinc 10 1, 3) := by decide +kernel
theorem dX4_weigh_122 : decode cX4_weigh 122 = .ok (.goto (-24), 3) := by decide +kernel
theorem dX4_weigh_125 : decode cX4_weigh 125 = .ok (.return_, 1) := by decide +kernel
theorem dX4_choose_0 : decode cX4_choose 0 = .ok (.lload 6, 2) := by decide +kernel
theorem dX4_choose_2 : decode cX4_choose 2 = .ok (.aload_n 1, 1) := by decide +kernel
theorem dX4_choose_3 : decode cX4_choose 3 = .ok (.invokevirtual 37, 3) := by decide +kernel
theorem dX4_choose_6 : decode cX4_choose 6 = .ok (.lcmp, 1) := by decide +kernel
theorem dX4_choose_7 : decode cX4_choose 7 = .ok (.ifCond .gt 20, 3) := by decide +kernel
theorem dX4_choose_10 : decode cX4_choose 10 = .ok (.aload_n 0, 1) := by decide +kernel
theorem dX4_choose_11 : decode cX4_choose 11 = .ok (.getfield 22, 3) := by decide +kernel
theorem dX4_choose_14 : decode cX4_choose 14 = .ok (.ifCond .eq 14, 3) := by decide +kernel
theorem dX4_choose_17 : decode cX4_choose 17 = .ok (.lload 4, 2) := by decide +kernel
theorem dX4_choose_19 : decode cX4_choose 19 = .ok (.aload_n 0, 1) := by decide +kernel
theorem dX4_choose_20 : decode cX4_choose 20 = .ok (.getfield 43, 3) := by decide +kernel
theorem dX4_choose_23 : decode cX4_choose 23 = .ok (.lcmp, 1) := by decide +kernel
theorem dX4_choose_24 : decode cX4_choose 24 = .ok (.ifCond .le 4, 3) := by decide +kernel
theorem dX4_choose_27 : decode cX4_choose 27 = .ok (.return_, 1) := by decide +kernel
theorem dX4_choose_28 : decode cX4_choose 28 = .ok (.iload_n 2, 1) := by decide +kernel
theorem dX4_choose_29 : decode cX4_choose 29 = .ok (.aload_n 1, 1) := by decide +kernel
theorem dX4_choose_30 : decode cX4_choose 30 = .ok (.getfield 46, 3) := by decide +kernel
theorem dX4_choose_33 : decode cX4_choose 33 = .ok (.getfield 50, 3) := by decide +kernel
theorem dX4_choose_36 : decode cX4_choose 36 = .ok (.if_icmp .ge 9, 3) := by decide +kernel
theorem dX4_choose_39 : decode cX4_choose 39 = .ok (.iload_n 2, 1) := by decide +kernel
theorem dX4_choose_40 : decode cX4_choose 40 = .ok (.bipush 6, 2) := by decide +kernel
theorem dX4_choose_42 : decode cX4_choose 42 = .ok (.if_icmp .lt 21, 3) := by decide +kernel
theorem dX4_choose_45 : decode cX4_choose 45 = .ok (.aload_n 0, 1) := by decide +kernel
theorem dX4_choose_46 : decode cX4_choose 46 = .ok (.aload_n 1, 1) := by decide +kernel
theorem dX4_choose_47 : decode cX4_choose 47 = .ok (.iload_n 3, 1) := by decide +kernel
theorem dX4_choose_48 : decode cX4_choose 48 = .ok (.lload 4, 2) := by decide +kernel
theorem dX4_choose_50 : decode cX4_choose 50 = .ok (.lload 6, 2) := by decide +kernel
theorem dX4_choose_52 : decode cX4_choose 52 = .ok (.aload_n 1, 1) := by decide +kernel
theorem dX4_choose_53 : decode cX4_choose 53 = .ok (.iconst 0, 1) := by decide +kernel
theorem dX4_choose_54 : decode cX4_choose 54 = .ok (.iload_n 3, 1) := by decide +kernel
theorem dX4_choose_55 : decode cX4_choose 55 = .ok (.invokevirtual 56, 3) := by decide +kernel
theorem dX4_choose_58 : decode cX4_choose 58 = .ok (.ladd, 1) := by decide +kernel
theorem dX4_choose_59 : decode cX4_choose 59 = .ok (.invokevirtual 60, 3) := by decide +kernel
theorem dX4_choose_62 : decode cX4_choose 62 = .ok (.return_, 1) := by decide +kernel
theorem dX4_choose_63 : decode cX4_choose 63 = .ok (.aload_n 1, 1) := by decide +kernel
theorem dX4_choose_64 : decode cX4_choose 64 = .ok (.getfield 46, 3) := by decide +kernel
theorem dX4_choose_67 : decode cX4_choose 67 = .ok (.iload_n 2, 1) := by decide +kernel
theorem dX4_choose_68 : decode cX4_choose 68 = .ok (.iconst 1, 1) := by decide +kernel
theorem dX4_choose_69 : decode cX4_choose 69 = .ok (.invokevirtual 64, 3) := by decide +kernel
theorem dX4_choose_72 : decode cX4_choose 72 = .ok (.istore 8, 2) := by decide +kernel
theorem dX4_choose_74 : decode cX4_choose 74 = .ok (.aload_n 1, 1) := by decide +kernel
theorem dX4_choose_75 : decode cX4_choose 75 = .ok (.getfield 46, 3) := by decide +kernel
theorem dX4_choose_78 : decode cX4_choose 78 = .ok (.iload_n 2, 1) := by decide +kernel
theorem dX4_choose_79 : decode cX4_choose 79 = .ok (.iconst 2, 1) := by decide +kernel
theorem dX4_choose_80 : decode cX4_choose 80 = .ok (.invokevirtual 64, 3) := by decide +kernel
theorem dX4_choose_83 : decode cX4_choose 83 = .ok (.istore 9, 2) := by decide +kernel
theorem dX4_choose_85 : decode cX4_choose 85 = .ok (.aload_n 1, 1) := by decide +kernel
theorem dX4_choose_86 : decode cX4_choose 86 = .ok (.getfield 46, 3) := by decide +kernel
theorem dX4_choose_89 : decode cX4_choose 89 = .ok (.iload_n 2, 1) := by decide +kernel
theorem dX4_choose_90 : decode cX4_choose 90 = .ok (.iconst 0, 1) := by decide +kernel
theorem dX4_choose_91 : decode cX4_choose 91 = .ok (.invokevirtual 64, 3) := by decide +kernel
theorem dX4_choose_94 : decode cX4_choose 94 = .ok (.istore 10, 2) := by decide +kernel
theorem dX4_choose_96 : decode cX4_choose 96 = .ok (.iload 10, 2) := by decide +kernel
theorem dX4_choose_98 : decode cX4_choose 98 = .ok (.aload_n 1, 1) := by decide +kernel
theorem dX4_choose_99 : decode cX4_choose 99 = .ok (.getfield 68, 3) := by decide +kernel
theorem dX4_choose_102 : decode cX4_choose 102 = .ok (.if_icmp .gt 59, 3) := by decide +kernel
theorem dX4_choose_105 : decode cX4_choose 105 = .ok (.aload_n 0, 1) := by decide +kernel
theorem dX4_choose_106 : decode cX4_choose 106 = .ok (.getfield 15, 3) := by decide +kernel
theorem dX4_choose_109 : decode cX4_choose 109 = .ok (.iload_n 2, 1) := by decide +kernel
theorem dX4_choose_110 : decode cX4_choose 110 = .ok (.iload 10, 2) := by decide +kernel
theorem dX4_choose_112 : decode cX4_choose 112 = .ok (.iastore, 1) := by decide +kernel
theorem dX4_choose_113 : decode cX4_choose 113 = .ok (.lload 6, 2) := by decide +kernel
theorem dX4_choose_115 : decode cX4_choose 115 = .ok (.iload 8, 2) := by decide +kernel
theorem dX4_choose_117 : decode cX4_choose 117 = .ok (.i2l, 1) := by decide +kernel
theorem dX4_choose_118 : decode cX4_choose 118 = .ok (.aload_n 1, 1) := by decide +kernel
theorem dX4_choose_119 : decode cX4_choose 119 = .ok (.iload 10, 2) := by decide +kernel
theorem dX4_choose_121 : decode cX4_choose 121 = .ok (.invokevirtual 71, 3) := by decide +kernel
theorem dX4_choose_124 : decode cX4_choose 124 = .ok (.i2l, 1) := by decide +kernel
theorem dX4_choose_125 : decode cX4_choose 125 = .ok (.lmul, 1) := by decide +kernel
theorem dX4_choose_126 : decode cX4_choose 126 = .ok (.ladd, 1) := by decide +kernel
theorem dX4_choose_127 : decode cX4_choose 127 = .ok (.lstore 11, 2) := by decide +kernel
theorem dX4_choose_129 : decode cX4_choose 129 = .ok (.aload_n 0, 1) := by decide +kernel
theorem dX4_choose_130 : decode cX4_choose 130 = .ok (.aload_n 1, 1) := by decide +kernel
theorem dX4_choose_131 : decode cX4_choose 131 = .ok (.iload_n 2, 1) := by decide +kernel
theorem dX4_choose_132 : decode cX4_choose 132 = .ok (.iconst 1, 1) := by decide +kernel
theorem dX4_choose_133 : decode cX4_choose 133 = .ok (.iadd, 1) := by decide +kernel
theorem dX4_choose_134 : decode cX4_choose 134 = .ok (.iload_n 3, 1) := by decide +kernel
theorem dX4_choose_135 : decode cX4_choose 135 = .ok (.iload 10, 2) := by decide +kernel
theorem dX4_choose_137 : decode cX4_choose 137 = .ok (.invokestatic 75, 3) := by decide +kernel
theorem dX4_choose_140 : decode cX4_choose 140 = .ok (.lload 4, 2) := by decide +kernel
theorem dX4_choose_142 : decode cX4_choose 142 = .ok (.iload 9, 2) := by decide +kernel
theorem dX4_choose_144 : decode cX4_choose 144 = .ok (.i2l, 1) := by decide +kernel
theorem dX4_choose_145 : decode cX4_choose 145 = .ok (.iload 10, 2) := by decide +kernel
theorem dX4_choose_147 : decode cX4_choose 147 = .ok (.i2l, 1) := by decide +kernel
theorem dX4_choose_148 : decode cX4_choose 148 = .ok (.lmul, 1) := by decide +kernel
theorem dX4_choose_149 : decode cX4_choose 149 = .ok (.ladd, 1) := by decide +kernel
theorem dX4_choose_150 : decode cX4_choose 150 = .ok (.lload 11, 2) := by decide +kernel
theorem dX4_choose_152 : decode cX4_choose 152 = .ok (.invokevirtual 33, 3) := by decide +kernel
theorem dX4_choose_155 : decode cX4_choose 155 = .ok (.iinc 10 1, 3) := by decide +kernel
theorem dX4_choose_158 : decode cX4_choose 158 = .ok (.goto (-62), 3) := by decide +kernel
theorem dX4_choose_161 : decode cX4_choose 161 = .ok (.return_, 1) := by decide +kernel
theorem dX4_make_0 : decode cX4_make 0 = .ok (.aload_n 0, 1) := by decide +kernel
theorem dX4_make_1 : decode cX4_make 1 = .ok (.getfield 18, 3) := by decide +kernel
theorem dX4_make_4 : decode cX4_make 4 = .ok (.ifCond .ne 30, 3) := by decide +kernel
theorem dX4_make_7 : decode cX4_make 7 = .ok (.aload_n 0, 1) := by decide +kernel
theorem dX4_make_8 : decode cX4_make 8 = .ok (.iconst 1, 1) := by decide +kernel
theorem dX4_make_9 : decode cX4_make 9 = .ok (.putfield 18, 3) := by decide +kernel
theorem dX4_make_12 : decode cX4_make 12 = .ok (.aload_n 0, 1) := by decide +kernel
theorem dX4_make_13 : decode cX4_make 13 = .ok (.iconst 0, 1) := by decide +kernel
theorem dX4_make_14 : decode cX4_make 14 = .ok (.putfield 22, 3) := by decide +kernel
theorem dX4_make_17 : decode cX4_make 17 = .ok (.aload_n 0, 1) := by decide +kernel
theorem dX4_make_18 : decode cX4_make 18 = .ok (.aload_n 1, 1) := by decide +kernel
theorem dX4_make_19 : decode cX4_make 19 = .ok (.invokestatic 25, 3) := by decide +kernel
theorem dX4_make_22 : decode cX4_make 22 = .ok (.putfield 29, 3) := by decide +kernel
theorem dX4_make_25 : decode cX4_make 25 = .ok (.aload_n 0, 1) := by decide +kernel
theorem dX4_make_26 : decode cX4_make 26 = .ok (.aload_n 1, 1) := by decide +kernel
theorem dX4_make_27 : decode cX4_make 27 = .ok (.iconst 0, 1) := by decide +kernel
theorem dX4_make_28 : decode cX4_make 28 = .ok (.iconst 0, 1) := by decide +kernel
theorem dX4_make_29 : decode cX4_make 29 = .ok (.lconst 0, 1) := by decide +kernel
theorem dX4_make_30 : decode cX4_make 30 = .ok (.lconst 0, 1) := by decide +kernel
theorem dX4_make_31 : decode cX4_make 31 = .ok (.invokevirtual 33, 3) := by decide +kernel
theorem dX4_make_34 : decode cX4_make 34 = .ok (.return_, 1) := by decide +kernel
theorem dX4_leastTicks_0 : decode cX4_leastTicks 0 = .ok (.iconst 0, 1) := by decide +kernel
theorem dX4_leastTicks_1 : decode cX4_leastTicks 1 = .ok (.istore_n 1, 1) := by decide +kernel
theorem dX4_leastTicks_2 : decode cX4_leastTicks 2 = .ok (.iconst 0, 1) := by decide +kernel
theorem dX4_leastTicks_3 : decode cX4_leastTicks 3 = .ok (.istore_n 2, 1) := by decide +kernel
theorem dX4_leastTicks_4 : decode cX4_leastTicks 4 = .ok (.iload_n 2, 1) := by decide +kernel
theorem dX4_leastTicks_5 : decode cX4_leastTicks 5 = .ok (.aload_n 0, 1) := by decide +kernel
theorem dX4_leastTicks_6 : decode cX4_leastTicks 6 = .ok (.getfield 46, 3) := by decide +kernel
theorem dX4_leastTicks_9 : decode cX4_leastTicks 9 = .ok (.getfield 50, 3) := by decide +kernel
theorem dX4_leastTicks_12 : decode cX4_leastTicks 12 = .ok (.if_icmp .ge 23, 3) := by decide +kernel
theorem dX4_leastTicks_15 : decode cX4_leastTicks 15 = .ok (.iload_n 1, 1) := by decide +kernel
theorem dX4_leastTicks_16 : decode cX4_leastTicks 16 = .ok (.aload_n 0, 1) := by decide +kernel
theorem dX4_leastTicks_17 : decode cX4_leastTicks 17 = .ok (.getfield 46, 3) := by decide +kernel
theorem dX4_leastTicks_20 : decode cX4_leastTicks 20 = .ok (.iload_n 2, 1) := by decide +kernel
theorem dX4_leastTicks_21 : decode cX4_leastTicks 21 = .ok (.iconst 0, 1) := by decide +kernel
theorem dX4_leastTicks_22 : decode cX4_leastTicks 22 = .ok (.invokevirtual 64, 3) := by decide +kernel
theorem dX4_leastTicks_25 : decode cX4_leastTicks 25 = .ok (.invokestatic 75, 3) := by decide +kernel
theorem dX4_leastTicks_28 : decode cX4_leastTicks 28 = .ok (.istore_n 1, 1) := by decide +kernel
theorem dX4_leastTicks_29 : decode cX4_leastTicks 29 = .ok (.iinc 2 1, 3) := by decide +kernel
theorem dX4_leastTicks_32 : decode cX4_leastTicks 32 = .ok (.goto (-28), 3) := by decide +kernel
theorem dX4_leastTicks_35 : decode cX4_leastTicks 35 = .ok (.ldc2_w 89, 3) := by decide +kernel
theorem dX4_leastTicks_38 : decode cX4_leastTicks 38 = .ok (.lstore_n 2, 1) := by decide +kernel
theorem dX4_leastTicks_39 : decode cX4_leastTicks 39 = .ok (.iload_n 1, 1) := by decide +kernel
theorem dX4_leastTicks_40 : decode cX4_leastTicks 40 = .ok (.istore 4, 2) := by decide +kernel
theorem dX4_leastTicks_42 : decode cX4_leastTicks 42 = .ok (.iload 4, 2) := by decide +kernel
theorem dX4_leastTicks_44 : decode cX4_leastTicks 44 = .ok (.aload_n 0, 1) := by decide +kernel
theorem dX4_leastTicks_45 : decode cX4_leastTicks 45 = .ok (.getfield 68, 3) := by decide +kernel
theorem dX4_leastTicks_48 : decode cX4_leastTicks 48 = .ok (.if_icmp .gt 34, 3) := by decide +kernel
theorem dX4_leastTicks_51 : decode cX4_leastTicks 51 = .ok (.lload_n 2, 1) := by decide +kernel
theorem dX4_leastTicks_52 : decode cX4_leastTicks 52 = .ok (.aload_n 0, 1) := by decide +kernel
theorem dX4_leastTicks_53 : decode cX4_leastTicks 53 = .ok (.iconst 0, 1) := by decide +kernel
theorem dX4_leastTicks_54 : decode cX4_leastTicks 54 = .ok (.iload 4, 2) := by decide +kernel
theorem dX4_leastTicks_56 : decode cX4_leastTicks 56 = .ok (.invokevirtual 56, 3) := by decide +kernel
theorem dX4_leastTicks_59 : decode cX4_leastTicks 59 = .ok (.aload_n 0, 1) := by decide +kernel
theorem dX4_leastTicks_60 : decode cX4_leastTicks 60 = .ok (.invokestatic 25, 3) := by decide +kernel
theorem dX4_leastTicks_63 : decode cX4_leastTicks 63 = .ok (.aload_n 0, 1) := by decide +kernel
theorem dX4_leastTicks_64 : decode cX4_leastTicks 64 = .ok (.iload 4, 2) := by decide +kernel
theorem dX4_leastTicks_66 : decode cX4_leastTicks 66 = .ok (.invokevirtual 71, 3) := by decide +kernel
theorem dX4_leastTicks_69 : decode cX4_leastTicks 69 = .ok (.i2l, 1) := by decide +kernel
theorem dX4_leastTicks_70 : decode cX4_leastTicks 70 = .ok (.lmul, 1) := by decide +kernel
theorem dX4_leastTicks_71 : decode cX4_leastTicks 71 = .ok (.ladd, 1) := by decide +kernel
theorem dX4_leastTicks_72 : decode cX4_leastTicks 72 = .ok (.invokestatic 91, 3) := by decide +kernel
theorem dX4_leastTicks_75 : decode cX4_leastTicks 75 = .ok (.lstore_n 2, 1) := by decide +kernel
theorem dX4_leastTicks_76 : decode cX4_leastTicks 76 = .ok (.iinc 4 1, 3) := by decide +kernel
theorem dX4_leastTicks_79 : decode cX4_leastTicks 79 = .ok (.goto (-37), 3) := by decide +kernel
theorem dX4_leastTicks_82 : decode cX4_leastTicks 82 = .ok (.lload_n 2, 1) := by decide +kernel
theorem dX4_leastTicks_83 : decode cX4_leastTicks 83 = .ok (.lreturn, 1) := by decide +kernel
