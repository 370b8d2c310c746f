theorem dX0_clear_0 : decode cX0_clear 0 = .ok (.aload_n 0, 1) := by decide +kernel
theorem dX0_clear_1 : decode cX0_clear 1 = .ok (.getfield 26, 3) := by decide +kernel
theorem dX0_clear_4 : decode cX0_clear 4 = .ok (.iconst 0, 1) := by decide +kernel
theorem dX0_clear_5 : decode cX0_clear 5 = .ok (.putfield 45, 3) := by decide +kernel
theorem dX0_clear_8 : decode cX0_clear 8 = .ok (.aload_n 0, 1) := by decide +kernel
theorem dX0_clear_9 : decode cX0_clear 9 = .ok (.getfield 30, 3) := by decide +kernel
theorem dX0_clear_12 : decode cX0_clear 12 = .ok (.iconst 0, 1) := by decide +kernel
theorem dX0_clear_13 : decode cX0_clear 13 = .ok (.putfield 45, 3) := by decide +kernel
theorem dX0_clear_16 : decode cX0_clear 16 = .ok (.aload_n 0, 1) := by decide +kernel
theorem dX0_clear_17 : decode cX0_clear 17 = .ok (.getfield 33, 3) := by decide +kernel
theorem dX0_clear_20 : decode cX0_clear 20 = .ok (.iconst 0, 1) := by decide +kernel
theorem dX0_clear_21 : decode cX0_clear 21 = .ok (.putfield 45, 3) := by decide +kernel
theorem dX0_clear_24 : decode cX0_clear 24 = .ok (.aload_n 0, 1) := by decide +kernel
theorem dX0_clear_25 : decode cX0_clear 25 = .ok (.getfield 36, 3) := by decide +kernel
theorem dX0_clear_28 : decode cX0_clear 28 = .ok (.iconst 0, 1) := by decide +kernel
theorem dX0_clear_29 : decode cX0_clear 29 = .ok (.putfield 45, 3) := by decide +kernel
theorem dX0_clear_32 : decode cX0_clear 32 = .ok (.aload_n 0, 1) := by decide +kernel
theorem dX0_clear_33 : decode cX0_clear 33 = .ok (.getfield 39, 3) := by decide +kernel
theorem dX0_clear_36 : decode cX0_clear 36 = .ok (.iconst 0, 1) := by decide +kernel
theorem dX0_clear_37 : decode cX0_clear 37 = .ok (.putfield 45, 3) := by decide +kernel
theorem dX0_clear_40 : decode cX0_clear 40 = .ok (.aload_n 0, 1) := by decide +kernel
theorem dX0_clear_41 : decode cX0_clear 41 = .ok (.getfield 42, 3) := by decide +kernel
theorem dX0_clear_44 : decode cX0_clear 44 = .ok (.iconst 0, 1) := by decide +kernel
theorem dX0_clear_45 : decode cX0_clear 45 = .ok (.putfield 45, 3) := by decide +kernel
theorem dX0_clear_48 : decode cX0_clear 48 = .ok (.aload_n 0, 1) := by decide +kernel
theorem dX0_clear_49 : decode cX0_clear 49 = .ok (.getfield 9, 3) := by decide +kernel
theorem dX0_clear_52 : decode cX0_clear 52 = .ok (.iconst 0, 1) := by decide +kernel
theorem dX0_clear_53 : decode cX0_clear 53 = .ok (.iconst 1, 1) := by decide +kernel
theorem dX0_clear_54 : decode cX0_clear 54 = .ok (.iastore, 1) := by decide +kernel
theorem dX0_clear_55 : decode cX0_clear 55 = .ok (.aload_n 0, 1) := by decide +kernel
theorem dX0_clear_56 : decode cX0_clear 56 = .ok (.iconst 0, 1) := by decide +kernel
theorem dX0_clear_57 : decode cX0_clear 57 = .ok (.putfield 49, 3) := by decide +kernel
theorem dX0_clear_60 : decode cX0_clear 60 = .ok (.aload_n 0, 1) := by decide +kernel
theorem dX0_clear_61 : decode cX0_clear 61 = .ok (.iconst 0, 1) := by decide +kernel
theorem dX0_clear_62 : decode cX0_clear 62 = .ok (.putfield 52, 3) := by decide +kernel
theorem dX0_clear_65 : decode cX0_clear 65 = .ok (.aload_n 0, 1) := by decide +kernel
theorem dX0_clear_66 : decode cX0_clear 66 = .ok (.iconst 0, 1) := by decide +kernel
theorem dX0_clear_67 : decode cX0_clear 67 = .ok (.putfield 55, 3) := by decide +kernel
theorem dX0_clear_70 : decode cX0_clear 70 = .ok (.aload_n 0, 1) := by decide +kernel
theorem dX0_clear_71 : decode cX0_clear 71 = .ok (.iconst 0, 1) := by decide +kernel
theorem dX0_clear_72 : decode cX0_clear 72 = .ok (.putfield 58, 3) := by decide +kernel
theorem dX0_clear_75 : decode cX0_clear 75 = .ok (.aload_n 0, 1) := by decide +kernel
theorem dX0_clear_76 : decode cX0_clear 76 = .ok (.iconst 0, 1) := by decide +kernel
theorem dX0_clear_77 : decode cX0_clear 77 = .ok (.putfield 61, 3) := by decide +kernel
theorem dX0_clear_80 : decode cX0_clear 80 = .ok (.return_, 1) := by decide +kernel
theorem dX0_addRate_0 : decode cX0_addRate 0 = .ok (.aload_n 0, 1) := by decide +kernel
theorem dX0_addRate_1 : decode cX0_addRate 1 = .ok (.getfield 49, 3) := by decide +kernel
theorem dX0_addRate_4 : decode cX0_addRate 4 = .ok (.iconst 4, 1) := by decide +kernel
theorem dX0_addRate_5 : decode cX0_addRate 5 = .ok (.if_icmp .ge 35, 3) := by decide +kernel
theorem dX0_addRate_8 : decode cX0_addRate 8 = .ok (.aload_n 0, 1) := by decide +kernel
theorem dX0_addRate_9 : decode cX0_addRate 9 = .ok (.dup, 1) := by decide +kernel
theorem dX0_addRate_10 : decode cX0_addRate 10 = .ok (.getfield 49, 3) := by decide +kernel
theorem dX0_addRate_13 : decode cX0_addRate 13 = .ok (.iconst 1, 1) := by decide +kernel
theorem dX0_addRate_14 : decode cX0_addRate 14 = .ok (.iadd, 1) := by decide +kernel
theorem dX0_addRate_15 : decode cX0_addRate 15 = .ok (.putfield 49, 3) := by decide +kernel
theorem dX0_addRate_18 : decode cX0_addRate 18 = .ok (.aload_n 0, 1) := by decide +kernel
theorem dX0_addRate_19 : decode cX0_addRate 19 = .ok (.getfield 9, 3) := by decide +kernel
theorem dX0_addRate_22 : decode cX0_addRate 22 = .ok (.aload_n 0, 1) := by decide +kernel
theorem dX0_addRate_23 : decode cX0_addRate 23 = .ok (.getfield 49, 3) := by decide +kernel
theorem dX0_addRate_26 : decode cX0_addRate 26 = .ok (.aload_n 0, 1) := by decide +kernel
theorem dX0_addRate_27 : decode cX0_addRate 27 = .ok (.getfield 9, 3) := by decide +kernel
theorem dX0_addRate_30 : decode cX0_addRate 30 = .ok (.aload_n 0, 1) := by decide +kernel
theorem dX0_addRate_31 : decode cX0_addRate 31 = .ok (.getfield 49, 3) := by decide +kernel
theorem dX0_addRate_34 : decode cX0_addRate 34 = .ok (.iconst 1, 1) := by decide +kernel
theorem dX0_addRate_35 : decode cX0_addRate 35 = .ok (.isub, 1) := by decide +kernel
theorem dX0_addRate_36 : decode cX0_addRate 36 = .ok (.iaload, 1) := by decide +kernel
theorem dX0_addRate_37 : decode cX0_addRate 37 = .ok (.iload_n 1, 1) := by decide +kernel
theorem dX0_addRate_38 : decode cX0_addRate 38 = .ok (.imul, 1) := by decide +kernel
theorem dX0_addRate_39 : decode cX0_addRate 39 = .ok (.iastore, 1) := by decide +kernel
theorem dX0_addRate_40 : decode cX0_addRate 40 = .ok (.return_, 1) := by decide +kernel
theorem dX0_orderStep_0 : decode cX0_orderStep 0 = .ok (.aload_n 0, 1) := by decide +kernel
theorem dX0_orderStep_1 : decode cX0_orderStep 1 = .ok (.getfield 30, 3) := by decide +kernel
theorem dX0_orderStep_4 : decode cX0_orderStep 4 = .ok (.aload_n 0, 1) := by decide +kernel
theorem dX0_orderStep_5 : decode cX0_orderStep 5 = .ok (.getfield 30, 3) := by decide +kernel
theorem dX0_orderStep_8 : decode cX0_orderStep 8 = .ok (.getfield 45, 3) := by decide +kernel
theorem dX0_orderStep_11 : decode cX0_orderStep 11 = .ok (.iconst 1, 1) := by decide +kernel
theorem dX0_orderStep_12 : decode cX0_orderStep 12 = .ok (.isub, 1) := by decide +kernel
theorem dX0_orderStep_13 : decode cX0_orderStep 13 = .ok (.iconst 0, 1) := by decide +kernel
theorem dX0_orderStep_14 : decode cX0_orderStep 14 = .ok (.invokevirtual 65, 3) := by decide +kernel
theorem dX0_orderStep_17 : decode cX0_orderStep 17 = .ok (.istore_n 1, 1) := by decide +kernel
theorem dX0_orderStep_18 : decode cX0_orderStep 18 = .ok (.aload_n 0, 1) := by decide +kernel
theorem dX0_orderStep_19 : decode cX0_orderStep 19 = .ok (.getfield 26, 3) := by decide +kernel
theorem dX0_orderStep_22 : decode cX0_orderStep 22 = .ok (.iload_n 1, 1) := by decide +kernel
theorem dX0_orderStep_23 : decode cX0_orderStep 23 = .ok (.iconst 5, 1) := by decide +kernel
theorem dX0_orderStep_24 : decode cX0_orderStep 24 = .ok (.invokevirtual 65, 3) := by decide +kernel
theorem dX0_orderStep_27 : decode cX0_orderStep 27 = .ok (.istore_n 2, 1) := by decide +kernel
theorem dX0_orderStep_28 : decode cX0_orderStep 28 = .ok (.iload_n 1, 1) := by decide +kernel
theorem dX0_orderStep_29 : decode cX0_orderStep 29 = .ok (.ifCond .lt 50, 3) := by decide +kernel
theorem dX0_orderStep_32 : decode cX0_orderStep 32 = .ok (.iload_n 1, 1) := by decide +kernel
theorem dX0_orderStep_33 : decode cX0_orderStep 33 = .ok (.iconst 5, 1) := by decide +kernel
theorem dX0_orderStep_34 : decode cX0_orderStep 34 = .ok (.if_icmp .ge 45, 3) := by decide +kernel
theorem dX0_orderStep_37 : decode cX0_orderStep 37 = .ok (.iload_n 2, 1) := by decide +kernel
theorem dX0_orderStep_38 : decode cX0_orderStep 38 = .ok (.ifCond .lt 41, 3) := by decide +kernel
theorem dX0_orderStep_41 : decode cX0_orderStep 41 = .ok (.iload_n 2, 1) := by decide +kernel
theorem dX0_orderStep_42 : decode cX0_orderStep 42 = .ok (.bipush 20, 2) := by decide +kernel
theorem dX0_orderStep_44 : decode cX0_orderStep 44 = .ok (.if_icmp .ge 35, 3) := by decide +kernel
theorem dX0_orderStep_47 : decode cX0_orderStep 47 = .ok (.aload_n 0, 1) := by decide +kernel
theorem dX0_orderStep_48 : decode cX0_orderStep 48 = .ok (.getfield 18, 3) := by decide +kernel
theorem dX0_orderStep_51 : decode cX0_orderStep 51 = .ok (.iload_n 1, 1) := by decide +kernel
theorem dX0_orderStep_52 : decode cX0_orderStep 52 = .ok (.bipush 20, 2) := by decide +kernel
theorem dX0_orderStep_54 : decode cX0_orderStep 54 = .ok (.imul, 1) := by decide +kernel
theorem dX0_orderStep_55 : decode cX0_orderStep 55 = .ok (.iload_n 2, 1) := by decide +kernel
theorem dX0_orderStep_56 : decode cX0_orderStep 56 = .ok (.iadd, 1) := by decide +kernel
theorem dX0_orderStep_57 : decode cX0_orderStep 57 = .ok (.aload_n 0, 1) := by decide +kernel
theorem dX0_orderStep_58 : decode cX0_orderStep 58 = .ok (.getfield 30, 3) := by decide +kernel
theorem dX0_orderStep_61 : decode cX0_orderStep 61 = .ok (.getfield 45, 3) := by decide +kernel
theorem dX0_orderStep_64 : decode cX0_orderStep 64 = .ok (.iconst 1, 1) := by decide +kernel
theorem dX0_orderStep_65 : decode cX0_orderStep 65 = .ok (.isub, 1) := by decide +kernel
theorem dX0_orderStep_66 : decode cX0_orderStep 66 = .ok (.iastore, 1) := by decide +kernel
theorem dX0_orderStep_67 : decode cX0_orderStep 67 = .ok (.aload_n 0, 1) := by decide +kernel
theorem dX0_orderStep_68 : decode cX0_orderStep 68 = .ok (.getfield 26, 3) := by decide +kernel
theorem dX0_orderStep_71 : decode cX0_orderStep 71 = .ok (.iload_n 1, 1) := by decide +kernel
theorem dX0_orderStep_72 : decode cX0_orderStep 72 = .ok (.iconst 5, 1) := by decide +kernel
theorem dX0_orderStep_73 : decode cX0_orderStep 73 = .ok (.iload_n 2, 1) := by decide +kernel
theorem dX0_orderStep_74 : decode cX0_orderStep 74 = .ok (.iconst 1, 1) := by decide +kernel
theorem dX0_orderStep_75 : decode cX0_orderStep 75 = .ok (.iadd, 1) := by decide +kernel
theorem dX0_orderStep_76 : decode cX0_orderStep 76 = .ok (.invokevirtual 69, 3) := by decide +kernel
theorem dX0_orderStep_79 : decode cX0_orderStep 79 = .ok (.return_, 1) := by decide +kernel
theorem dX0_stepOf_0 : decode cX0_stepOf 0 = .ok (.iload_n 1, 1) := by decide +kernel
theorem dX0_stepOf_1 : decode cX0_stepOf 1 = .ok (.ifCond .lt 29, 3) := by decide +kernel
theorem dX0_stepOf_4 : decode cX0_stepOf 4 = .ok (.iload_n 1, 1) := by decide +kernel
theorem dX0_stepOf_5 : decode cX0_stepOf 5 = .ok (.iconst 5, 1) := by decide +kernel
theorem dX0_stepOf_6 : decode cX0_stepOf 6 = .ok (.if_icmp .ge 24, 3) := by decide +kernel
theorem dX0_stepOf_9 : decode cX0_stepOf 9 = .ok (.iload_n 2, 1) := by decide +kernel
theorem dX0_stepOf_10 : decode cX0_stepOf 10 = .ok (.ifCond .lt 20, 3) := by decide +kernel
theorem dX0_stepOf_13 : decode cX0_stepOf 13 = .ok (.iload_n 2, 1) := by decide +kernel
theorem dX0_stepOf_14 : decode cX0_stepOf 14 = .ok (.aload_n 0, 1) := by decide +kernel
theorem dX0_stepOf_15 : decode cX0_stepOf 15 = .ok (.getfield 26, 3) := by decide +kernel
theorem dX0_stepOf_18 : decode cX0_stepOf 18 = .ok (.iload_n 1, 1) := by decide +kernel
theorem dX0_stepOf_19 : decode cX0_stepOf 19 = .ok (.iconst 5, 1) := by decide +kernel
theorem dX0_stepOf_20 : decode cX0_stepOf 20 = .ok (.invokevirtual 65, 3) := by decide +kernel
theorem dX0_stepOf_23 : decode cX0_stepOf 23 = .ok (.if_icmp .ge 7, 3) := by decide +kernel
theorem dX0_stepOf_26 : decode cX0_stepOf 26 = .ok (.iconst 1, 1) := by decide +kernel
theorem dX0_stepOf_27 : decode cX0_stepOf 27 = .ok (.goto 4, 3) := by decide +kernel
theorem dX0_stepOf_30 : decode cX0_stepOf 30 = .ok (.iconst 0, 1) := by decide +kernel
theorem dX0_stepOf_31 : decode cX0_stepOf 31 = .ok (.istore_n 3, 1) := by decide +kernel
theorem dX0_stepOf_32 : decode cX0_stepOf 32 = .ok (.iload_n 3, 1) := by decide +kernel
theorem dX0_stepOf_33 : decode cX0_stepOf 33 = .ok (.ifCond .eq 23, 3) := by decide +kernel
theorem dX0_stepOf_36 : decode cX0_stepOf 36 = .ok (.iload_n 2, 1) := by decide +kernel
theorem dX0_stepOf_37 : decode cX0_stepOf 37 = .ok (.bipush 20, 2) := by decide +kernel
theorem dX0_stepOf_39 : decode cX0_stepOf 39 = .ok (.if_icmp .ge 17, 3) := by decide +kernel
theorem dX0_stepOf_42 : decode cX0_stepOf 42 = .ok (.aload_n 0, 1) := by decide +kernel
theorem dX0_stepOf_43 : decode cX0_stepOf 43 = .ok (.getfield 18, 3) := by decide +kernel
theorem dX0_stepOf_46 : decode cX0_stepOf 46 = .ok (.iload_n 1, 1) := by decide +kernel
theorem dX0_stepOf_47 : decode cX0_stepOf 47 = .ok (.bipush 20, 2) := by decide +kernel
theorem dX0_stepOf_49 : decode cX0_stepOf 49 = .ok (.imul, 1) := by decide +kernel
theorem dX0_stepOf_50 : decode cX0_stepOf 50 = .ok (.iload_n 2, 1) := by decide +kernel
theorem dX0_stepOf_51 : decode cX0_stepOf 51 = .ok (.iadd, 1) := by decide +kernel
theorem dX0_stepOf_52 : decode cX0_stepOf 52 = .ok (.iaload, 1) := by decide +kernel
theorem dX0_stepOf_53 : decode cX0_stepOf 53 = .ok (.goto 4, 3) := by decide +kernel
theorem dX0_stepOf_56 : decode cX0_stepOf 56 = .ok (.iconst (-1), 1) := by decide +kernel
theorem dX0_stepOf_57 : decode cX0_stepOf 57 = .ok (.ireturn, 1) := by decide +kernel
theorem dX0_quickOf_0 : decode cX0_quickOf 0 = .ok (.iload_n 1, 1) := by decide +kernel
theorem dX0_quickOf_1 : decode cX0_quickOf 1 = .ok (.ifCond .lt 11, 3) := by decide +kernel
theorem dX0_quickOf_4 : decode cX0_quickOf 4 = .ok (.iload_n 1, 1) := by decide +kernel
theorem dX0_quickOf_5 : decode cX0_quickOf 5 = .ok (.aload_n 0, 1) := by decide +kernel
theorem dX0_quickOf_6 : decode cX0_quickOf 6 = .ok (.getfield 49, 3) := by decide +kernel
theorem dX0_quickOf_9 : decode cX0_quickOf 9 = .ok (.if_icmp .le 7, 3) := by decide +kernel
theorem dX0_quickOf_12 : decode cX0_quickOf 12 = .ok (.iconst 1, 1) := by decide +kernel
theorem dX0_quickOf_13 : decode cX0_quickOf 13 = .ok (.goto 9, 3) := by decide +kernel
theorem dX0_quickOf_16 : decode cX0_quickOf 16 = .ok (.aload_n 0, 1) := by decide +kernel
theorem dX0_quickOf_17 : decode cX0_quickOf 17 = .ok (.getfield 9, 3) := by decide +kernel
theorem dX0_quickOf_20 : decode cX0_quickOf 20 = .ok (.iload_n 1, 1) := by decide +kernel
theorem dX0_quickOf_21 : decode cX0_quickOf 21 = .ok (.iaload, 1) := by decide +kernel
theorem dX0_quickOf_22 : decode cX0_quickOf 22 = .ok (.ireturn, 1) := by decide +kernel
theorem dX0_bottom_0 : decode cX0_bottom 0 = .ok (.aload_n 0, 1) := by decide +kernel
theorem dX0_bottom_1 : decode cX0_bottom 1 = .ok (.aload_n 0, 1) := by decide +kernel
theorem dX0_bottom_2 : decode cX0_bottom 2 = .ok (.getfield 49, 3) := by decide +kernel
theorem dX0_bottom_5 : decode cX0_bottom 5 = .ok (.invokevirtual 73, 3) := by decide +kernel
theorem dX0_bottom_8 : decode cX0_bottom 8 = .ok (.ireturn, 1) := by decide +kernel
theorem dX0_ratio_0 : decode cX0_ratio 0 = .ok (.iload_n 1, 1) := by decide +kernel
theorem dX0_ratio_1 : decode cX0_ratio 1 = .ok (.ifCond .lt 27, 3) := by decide +kernel
theorem dX0_ratio_4 : decode cX0_ratio 4 = .ok (.iload_n 1, 1) := by decide +kernel
theorem dX0_ratio_5 : decode cX0_ratio 5 = .ok (.aload_n 0, 1) := by decide +kernel
theorem dX0_ratio_6 : decode cX0_ratio 6 = .ok (.getfield 49, 3) := by decide +kernel
theorem dX0_ratio_9 : decode cX0_ratio 9 = .ok (.if_icmp .gt 19, 3) := by decide +kernel
theorem dX0_ratio_12 : decode cX0_ratio 12 = .ok (.iload_n 2, 1) := by decide +kernel
theorem dX0_ratio_13 : decode cX0_ratio 13 = .ok (.ifCond .lt 15, 3) := by decide +kernel
theorem dX0_ratio_16 : decode cX0_ratio 16 = .ok (.iload_n 2, 1) := by decide +kernel
theorem dX0_ratio_17 : decode cX0_ratio 17 = .ok (.aload_n 0, 1) := by decide +kernel
theorem dX0_ratio_18 : decode cX0_ratio 18 = .ok (.getfield 49, 3) := by decide +kernel
theorem dX0_ratio_21 : decode cX0_ratio 21 = .ok (.if_icmp .gt 7, 3) := by decide +kernel
theorem dX0_ratio_24 : decode cX0_ratio 24 = .ok (.iconst 1, 1) := by decide +kernel
theorem dX0_ratio_25 : decode cX0_ratio 25 = .ok (.goto 4, 3) := by decide +kernel
theorem dX0_ratio_28 : decode cX0_ratio 28 = .ok (.iconst 0, 1) := by decide +kernel
theorem dX0_ratio_29 : decode cX0_ratio 29 = .ok (.istore_n 3, 1) := by decide +kernel
theorem dX0_ratio_30 : decode cX0_ratio 30 = .ok (.iload_n 3, 1) := by decide +kernel
theorem dX0_ratio_31 : decode cX0_ratio 31 = .ok (.ifCond .eq 28, 3) := by decide +kernel
theorem dX0_ratio_34 : decode cX0_ratio 34 = .ok (.aload_n 0, 1) := by decide +kernel
theorem dX0_ratio_35 : decode cX0_ratio 35 = .ok (.getfield 9, 3) := by decide +kernel
theorem dX0_ratio_38 : decode cX0_ratio 38 = .ok (.iload_n 1, 1) := by decide +kernel
theorem dX0_ratio_39 : decode cX0_ratio 39 = .ok (.iaload, 1) := by decide +kernel
theorem dX0_ratio_40 : decode cX0_ratio 40 = .ok (.ifCond .le 19, 3) := by decide +kernel
theorem dX0_ratio_43 : decode cX0_ratio 43 = .ok (.aload_n 0, 1) := by decide +kernel
theorem dX0_ratio_44 : decode cX0_ratio 44 = .ok (.getfield 9, 3) := by decide +kernel
theorem dX0_ratio_47 : decode cX0_ratio 47 = .ok (.iload_n 2, 1) := by decide +kernel
theorem dX0_ratio_48 : decode cX0_ratio 48 = .ok (.iaload, 1) := by decide +kernel
theorem dX0_ratio_49 : decode cX0_ratio 49 = .ok (.aload_n 0, 1) := by decide +kernel
theorem dX0_ratio_50 : decode cX0_ratio 50 = .ok (.getfield 9, 3) := by decide +kernel
theorem dX0_ratio_53 : decode cX0_ratio 53 = .ok (.iload_n 1, 1) := by decide +kernel
theorem dX0_ratio_54 : decode cX0_ratio 54 = .ok (.iaload, 1) := by decide +kernel
theorem dX0_ratio_55 : decode cX0_ratio 55 = .ok (.idiv, 1) := by decide +kernel
theorem dX0_ratio_56 : decode cX0_ratio 56 = .ok (.goto 4, 3) := by decide +kernel
theorem dX0_ratio_59 : decode cX0_ratio 59 = .ok (.iconst 1, 1) := by decide +kernel
theorem dX0_ratio_60 : decode cX0_ratio 60 = .ok (.ireturn, 1) := by decide +kernel
theorem dX0_minuteOf_0 : decode cX0_minuteOf 0 = .ok (.aload_n 0, 1) := by decide +kernel
theorem dX0_minuteOf_1 : decode cX0_minuteOf 1 = .ok (.iload_n 1, 1) := by decide +kernel
theorem dX0_minuteOf_2 : decode cX0_minuteOf 2 = .ok (.aload_n 0, 1) := by decide +kernel
theorem dX0_minuteOf_3 : decode cX0_minuteOf 3 = .ok (.getfield 49, 3) := by decide +kernel
theorem dX0_minuteOf_6 : decode cX0_minuteOf 6 = .ok (.invokevirtual 77, 3) := by decide +kernel
theorem dX0_minuteOf_9 : decode cX0_minuteOf 9 = .ok (.ireturn, 1) := by decide +kernel
theorem dX0_morningTick_0 : decode cX0_morningTick 0 = .ok (.aload_n 0, 1) := by decide +kernel
theorem dX0_morningTick_1 : decode cX0_morningTick 1 = .ok (.getfield 55, 3) := by decide +kernel
theorem dX0_morningTick_4 : decode cX0_morningTick 4 = .ok (.i2l, 1) := by decide +kernel
theorem dX0_morningTick_5 : decode cX0_morningTick 5 = .ok (.aload_n 0, 1) := by decide +kernel
theorem dX0_morningTick_6 : decode cX0_morningTick 6 = .ok (.invokevirtual 80, 3) := by decide +kernel
theorem dX0_morningTick_9 : decode cX0_morningTick 9 = .ok (.i2l, 1) := by decide +kernel
theorem dX0_morningTick_10 : decode cX0_morningTick 10 = .ok (.lmul, 1) := by decide +kernel
theorem dX0_morningTick_11 : decode cX0_morningTick 11 = .ok (.lreturn, 1) := by decide +kernel
theorem dX0_knockTick_0 : decode cX0_knockTick 0 = .ok (.aload_n 0, 1) := by decide +kernel
theorem dX0_knockTick_1 : decode cX0_knockTick 1 = .ok (.getfield 33, 3) := by decide +kernel
theorem dX0_knockTick_4 : decode cX0_knockTick 4 = .ok (.iload_n 1, 1) := by decide +kernel
theorem dX0_knockTick_5 : decode cX0_knockTick 5 = .ok (.iconst 2, 1) := by decide +kernel
theorem dX0_knockTick_6 : decode cX0_knockTick 6 = .ok (.invokevirtual 65, 3) := by decide +kernel
theorem dX0_knockTick_9 : decode cX0_knockTick 9 = .ok (.i2l, 1) := by decide +kernel
theorem dX0_knockTick_10 : decode cX0_knockTick 10 = .ok (.aload_n 0, 1) := by decide +kernel
theorem dX0_knockTick_11 : decode cX0_knockTick 11 = .ok (.invokevirtual 80, 3) := by decide +kernel
theorem dX0_knockTick_14 : decode cX0_knockTick 14 = .ok (.i2l, 1) := by decide +kernel
theorem dX0_knockTick_15 : decode cX0_knockTick 15 = .ok (.lmul, 1) := by decide +kernel
theorem dX0_knockTick_16 : decode cX0_knockTick 16 = .ok (.lreturn, 1) := by decide +kernel
theorem dX0_feltOn_0 : decode cX0_feltOn 0 = .ok (.iload_n 1, 1) := by decide +kernel
theorem dX0_feltOn_1 : decode cX0_feltOn 1 = .ok (.i2l, 1) := by decide +kernel
theorem dX0_feltOn_2 : decode cX0_feltOn 2 = .ok (.aload_n 0, 1) := by decide +kernel
theorem dX0_feltOn_3 : decode cX0_feltOn 3 = .ok (.iload_n 2, 1) := by decide +kernel
theorem dX0_feltOn_4 : decode cX0_feltOn 4 = .ok (.iload_n 3, 1) := by decide +kernel
theorem dX0_feltOn_5 : decode cX0_feltOn 5 = .ok (.invokevirtual 77, 3) := by decide +kernel
theorem dX0_feltOn_8 : decode cX0_feltOn 8 = .ok (.i2l, 1) := by decide +kernel
theorem dX0_feltOn_9 : decode cX0_feltOn 9 = .ok (.lmul, 1) := by decide +kernel
theorem dX0_feltOn_10 : decode cX0_feltOn 10 = .ok (.lreturn, 1) := by decide +kernel
theorem dX0_shrunk_0 : decode cX0_shrunk 0 = .ok (.iload_n 1, 1) := by decide +kernel
theorem dX0_shrunk_1 : decode cX0_shrunk 1 = .ok (.i2l, 1) := by decide +kernel
theorem dX0_shrunk_2 : decode cX0_shrunk 2 = .ok (.aload_n 0, 1) := by decide +kernel
theorem dX0_shrunk_3 : decode cX0_shrunk 3 = .ok (.iload_n 3, 1) := by decide +kernel
theorem dX0_shrunk_4 : decode cX0_shrunk 4 = .ok (.iload_n 2, 1) := by decide +kernel
theorem dX0_shrunk_5 : decode cX0_shrunk 5 = .ok (.invokevirtual 77, 3) := by decide +kernel
theorem dX0_shrunk_8 : decode cX0_shrunk 8 = .ok (.i2l, 1) := by decide +kernel
theorem dX0_shrunk_9 : decode cX0_shrunk 9 = .ok (.invokestatic 84, 3) := by decide +kernel
theorem dX0_shrunk_12 : decode cX0_shrunk 12 = .ok (.l2i, 1) := by decide +kernel
theorem dX0_shrunk_13 : decode cX0_shrunk 13 = .ok (.ireturn, 1) := by decide +kernel
theorem dX0_falling_0 : decode cX0_falling 0 = .ok (.lconst 0, 1) := by decide +kernel
theorem dX0_falling_1 : decode cX0_falling 1 = .ok (.lstore_n 3, 1) := by decide +kernel
theorem dX0_falling_2 : decode cX0_falling 2 = .ok (.iload_n 1, 1) := by decide +kernel
theorem dX0_falling_3 : decode cX0_falling 3 = .ok (.istore 5, 2) := by decide +kernel
theorem dX0_falling_5 : decode cX0_falling 5 = .ok (.iload 5, 2) := by decide +kernel
theorem dX0_falling_7 : decode cX0_falling 7 = .ok (.iload_n 2, 1) := by decide +kernel
theorem dX0_falling_8 : decode cX0_falling 8 = .ok (.if_icmp .ge 25, 3) := by decide +kernel
theorem dX0_falling_11 : decode cX0_falling 11 = .ok (.lload_n 3, 1) := by decide +kernel
theorem dX0_falling_12 : decode cX0_falling 12 = .ok (.aload_n 0, 1) := by decide +kernel
theorem dX0_falling_13 : decode cX0_falling 13 = .ok (.getfield 52, 3) := by decide +kernel
theorem dX0_falling_16 : decode cX0_falling 16 = .ok (.i2l, 1) := by decide +kernel
theorem dX0_falling_17 : decode cX0_falling 17 = .ok (.aload_n 0, 1) := by decide +kernel
theorem dX0_falling_18 : decode cX0_falling 18 = .ok (.iload 5, 2) := by decide +kernel
theorem dX0_falling_20 : decode cX0_falling 20 = .ok (.invokevirtual 88, 3) := by decide +kernel
theorem dX0_falling_23 : decode cX0_falling 23 = .ok (.i2l, 1) := by decide +kernel
theorem dX0_falling_24 : decode cX0_falling 24 = .ok (.lmul, 1) := by decide +kernel
theorem dX0_falling_25 : decode cX0_falling 25 = .ok (.ladd, 1) := by decide +kernel
theorem dX0_falling_26 : decode cX0_falling 26 = .ok (.lstore_n 3, 1) := by decide +kernel
theorem dX0_falling_27 : decode cX0_falling 27 = .ok (.iinc 5 1, 3) := by decide +kernel
theorem dX0_falling_30 : decode cX0_falling 30 = .ok (.goto (-25), 3) := by decide +kernel
theorem dX0_falling_33 : decode cX0_falling 33 = .ok (.lload_n 3, 1) := by decide +kernel
theorem dX0_falling_34 : decode cX0_falling 34 = .ok (.lreturn, 1) := by decide +kernel
theorem dX0_floorBehind_0 : decode cX0_floorBehind 0 = .ok (.iload_n 2, 1) := by decide +kernel
theorem dX0_floorBehind_1 : decode cX0_floorBehind 1 = .ok (.iload_n 3, 1) := by decide +kernel
theorem dX0_floorBehind_2 : decode cX0_floorBehind 2 = .ok (.if_icmp .gt 5, 3) := by decide +kernel
theorem dX0_floorBehind_5 : decode cX0_floorBehind 5 = .ok (.iload_n 2, 1) := by decide +kernel
theorem dX0_floorBehind_6 : decode cX0_floorBehind 6 = .ok (.ireturn, 1) := by decide +kernel
theorem dX0_floorBehind_7 : decode cX0_floorBehind 7 = .ok (.aload_n 0, 1) := by decide +kernel
theorem dX0_floorBehind_8 : decode cX0_floorBehind 8 = .ok (.getfield 26, 3) := by decide +kernel
theorem dX0_floorBehind_11 : decode cX0_floorBehind 11 = .ok (.iload_n 1, 1) := by decide +kernel
theorem dX0_floorBehind_12 : decode cX0_floorBehind 12 = .ok (.iconst 0, 1) := by decide +kernel
theorem dX0_floorBehind_13 : decode cX0_floorBehind 13 = .ok (.invokevirtual 65, 3) := by decide +kernel
theorem dX0_floorBehind_16 : decode cX0_floorBehind 16 = .ok (.istore 5, 2) := by decide +kernel
theorem dX0_floorBehind_18 : decode cX0_floorBehind 18 = .ok (.aload_n 0, 1) := by decide +kernel
theorem dX0_floorBehind_19 : decode cX0_floorBehind 19 = .ok (.getfield 26, 3) := by decide +kernel
theorem dX0_floorBehind_22 : decode cX0_floorBehind 22 = .ok (.iload_n 1, 1) := by decide +kernel
theorem dX0_floorBehind_23 : decode cX0_floorBehind 23 = .ok (.iconst 1, 1) := by decide +kernel
theorem dX0_floorBehind_24 : decode cX0_floorBehind 24 = .ok (.invokevirtual 65, 3) := by decide +kernel
theorem dX0_floorBehind_27 : decode cX0_floorBehind 27 = .ok (.iload 5, 2) := by decide +kernel
theorem dX0_floorBehind_29 : decode cX0_floorBehind 29 = .ok (.iconst 2, 1) := by decide +kernel
theorem dX0_floorBehind_30 : decode cX0_floorBehind 30 = .ok (.if_icmp .ne 7, 3) := by decide +kernel
theorem dX0_floorBehind_33 : decode cX0_floorBehind 33 = .ok (.iconst 2, 1) := by decide +kernel
theorem dX0_floorBehind_34 : decode cX0_floorBehind 34 = .ok (.goto 4, 3) := by decide +kernel
theorem dX0_floorBehind_37 : decode cX0_floorBehind 37 = .ok (.iconst 1, 1) := by decide +kernel
theorem dX0_floorBehind_38 : decode cX0_floorBehind 38 = .ok (.imul, 1) := by decide +kernel
theorem dX0_floorBehind_39 : decode cX0_floorBehind 39 = .ok (.istore 6, 2) := by decide +kernel
theorem dX0_floorBehind_41 : decode cX0_floorBehind 41 = .ok (.iload 5, 2) := by decide +kernel
theorem dX0_floorBehind_43 : decode cX0_floorBehind 43 = .ok (.iconst 3, 1) := by decide +kernel
theorem dX0_floorBehind_44 : decode cX0_floorBehind 44 = .ok (.if_icmp .ne 15, 3) := by decide +kernel
theorem dX0_floorBehind_47 : decode cX0_floorBehind 47 = .ok (.iload_n 2, 1) := by decide +kernel
theorem dX0_floorBehind_48 : decode cX0_floorBehind 48 = .ok (.aload_n 0, 1) := by decide +kernel
theorem dX0_floorBehind_49 : decode cX0_floorBehind 49 = .ok (.getfield 49, 3) := by decide +kernel
theorem dX0_floorBehind_52 : decode cX0_floorBehind 52 = .ok (.if_icmp .lt 7, 3) := by decide +kernel
theorem dX0_floorBehind_55 : decode cX0_floorBehind 55 = .ok (.iconst 1, 1) := by decide +kernel
theorem dX0_floorBehind_56 : decode cX0_floorBehind 56 = .ok (.goto 4, 3) := by decide +kernel
theorem dX0_floorBehind_59 : decode cX0_floorBehind 59 = .ok (.iconst 0, 1) := by decide +kernel
theorem dX0_floorBehind_60 : decode cX0_floorBehind 60 = .ok (.istore 7, 2) := by decide +kernel
theorem dX0_floorBehind_62 : decode cX0_floorBehind 62 = .ok (.iload 7, 2) := by decide +kernel
theorem dX0_floorBehind_64 : decode cX0_floorBehind 64 = .ok (.ifCond .ne 17, 3) := by decide +kernel
theorem dX0_floorBehind_67 : decode cX0_floorBehind 67 = .ok (.iload 4, 2) := by decide +kernel
theorem dX0_floorBehind_69 : decode cX0_floorBehind 69 = .ok (.aload_n 0, 1) := by decide +kernel
theorem dX0_floorBehind_70 : decode cX0_floorBehind 70 = .ok (.iload_n 3, 1) := by decide +kernel
theorem dX0_floorBehind_71 : decode cX0_floorBehind 71 = .ok (.iload_n 2, 1) := by decide +kernel
theorem dX0_floorBehind_72 : decode cX0_floorBehind 72 = .ok (.invokevirtual 77, 3) := by decide +kernel
theorem dX0_floorBehind_75 : decode cX0_floorBehind 75 = .ok (.imul, 1) := by decide +kernel
theorem dX0_floorBehind_76 : decode cX0_floorBehind 76 = .ok (.iload 6, 2) := by decide +kernel
theorem dX0_floorBehind_78 : decode cX0_floorBehind 78 = .ok (.if_icmp .ge 5, 3) := by decide +kernel
theorem dX0_floorBehind_81 : decode cX0_floorBehind 81 = .ok (.iload_n 2, 1) := by decide +kernel
theorem dX0_floorBehind_82 : decode cX0_floorBehind 82 = .ok (.ireturn, 1) := by decide +kernel
theorem dX0_floorBehind_83 : decode cX0_floorBehind 83 = .ok (.iload_n 3, 1) := by decide +kernel
theorem dX0_floorBehind_84 : decode cX0_floorBehind 84 = .ok (.iload_n 2, 1) := by decide +kernel
theorem dX0_floorBehind_85 : decode cX0_floorBehind 85 = .ok (.iload 5, 2) := by decide +kernel
theorem dX0_floorBehind_87 : decode cX0_floorBehind 87 = .ok (.iconst 1, 1) := by decide +kernel
theorem dX0_floorBehind_88 : decode cX0_floorBehind 88 = .ok (.if_icmp .ne 7, 3) := by decide +kernel
theorem dX0_floorBehind_91 : decode cX0_floorBehind 91 = .ok (.iconst 2, 1) := by decide +kernel
theorem dX0_floorBehind_92 : decode cX0_floorBehind 92 = .ok (.goto 4, 3) := by decide +kernel
theorem dX0_floorBehind_95 : decode cX0_floorBehind 95 = .ok (.iconst 1, 1) := by decide +kernel
theorem dX0_floorBehind_96 : decode cX0_floorBehind 96 = .ok (.isub, 1) := by decide +kernel
theorem dX0_floorBehind_97 : decode cX0_floorBehind 97 = .ok (.invokestatic 91, 3) := by decide +kernel
theorem dX0_floorBehind_100 : decode cX0_floorBehind 100 = .ok (.ireturn, 1) := by decide +kernel
theorem dX0_fitsSigns_0 : decode cX0_fitsSigns 0 = .ok (.iconst 0, 1) := by decide +kernel
theorem dX0_fitsSigns_1 : decode cX0_fitsSigns 1 = .ok (.istore_n 2, 1) := by decide +kernel
theorem dX0_fitsSigns_2 : decode cX0_fitsSigns 2 = .ok (.iload_n 2, 1) := by decide +kernel
theorem dX0_fitsSigns_3 : decode cX0_fitsSigns 3 = .ok (.aload_n 0, 1) := by decide +kernel
theorem dX0_fitsSigns_4 : decode cX0_fitsSigns 4 = .ok (.getfield 39, 3) := by decide +kernel
theorem dX0_fitsSigns_7 : decode cX0_fitsSigns 7 = .ok (.getfield 45, 3) := by decide +kernel
theorem dX0_fitsSigns_10 : decode cX0_fitsSigns 10 = .ok (.if_icmp .ge 70, 3) := by decide +kernel
theorem dX0_fitsSigns_13 : decode cX0_fitsSigns 13 = .ok (.aload_n 0, 1) := by decide +kernel
theorem dX0_fitsSigns_14 : decode cX0_fitsSigns 14 = .ok (.getfield 39, 3) := by decide +kernel
theorem dX0_fitsSigns_17 : decode cX0_fitsSigns 17 = .ok (.iload_n 2, 1) := by decide +kernel
theorem dX0_fitsSigns_18 : decode cX0_fitsSigns 18 = .ok (.iconst 1, 1) := by decide +kernel
theorem dX0_fitsSigns_19 : decode cX0_fitsSigns 19 = .ok (.invokevirtual 65, 3) := by decide +kernel
theorem dX0_fitsSigns_22 : decode cX0_fitsSigns 22 = .ok (.istore_n 3, 1) := by decide +kernel
theorem dX0_fitsSigns_23 : decode cX0_fitsSigns 23 = .ok (.aload_n 0, 1) := by decide +kernel
theorem dX0_fitsSigns_24 : decode cX0_fitsSigns 24 = .ok (.getfield 39, 3) := by decide +kernel
theorem dX0_fitsSigns_27 : decode cX0_fitsSigns 27 = .ok (.iload_n 2, 1) := by decide +kernel
theorem dX0_fitsSigns_28 : decode cX0_fitsSigns 28 = .ok (.iconst 0, 1) := by decide +kernel
theorem dX0_fitsSigns_29 : decode cX0_fitsSigns 29 = .ok (.invokevirtual 65, 3) := by decide +kernel
theorem dX0_fitsSigns_32 : decode cX0_fitsSigns 32 = .ok (.iconst 1, 1) := by decide +kernel
theorem dX0_fitsSigns_33 : decode cX0_fitsSigns 33 = .ok (.if_icmp .ne 14, 3) := by decide +kernel
theorem dX0_fitsSigns_36 : decode cX0_fitsSigns 36 = .ok (.aload_n 0, 1) := by decide +kernel
theorem dX0_fitsSigns_37 : decode cX0_fitsSigns 37 = .ok (.iload_n 3, 1) := by decide +kernel
theorem dX0_fitsSigns_38 : decode cX0_fitsSigns 38 = .ok (.iload_n 1, 1) := by decide +kernel
theorem dX0_fitsSigns_39 : decode cX0_fitsSigns 39 = .ok (.iconst 0, 1) := by decide +kernel
theorem dX0_fitsSigns_40 : decode cX0_fitsSigns 40 = .ok (.invokevirtual 100, 3) := by decide +kernel
theorem dX0_fitsSigns_43 : decode cX0_fitsSigns 43 = .ok (.i2l, 1) := by decide +kernel
theorem dX0_fitsSigns_44 : decode cX0_fitsSigns 44 = .ok (.goto 10, 3) := by decide +kernel
theorem dX0_fitsSigns_47 : decode cX0_fitsSigns 47 = .ok (.aload_n 0, 1) := by decide +kernel
theorem dX0_fitsSigns_48 : decode cX0_fitsSigns 48 = .ok (.iload_n 3, 1) := by decide +kernel
theorem dX0_fitsSigns_49 : decode cX0_fitsSigns 49 = .ok (.iconst 0, 1) := by decide +kernel
theorem dX0_fitsSigns_50 : decode cX0_fitsSigns 50 = .ok (.iload_n 1, 1) := by decide +kernel
theorem dX0_fitsSigns_51 : decode cX0_fitsSigns 51 = .ok (.invokevirtual 104, 3) := by decide +kernel
theorem dX0_fitsSigns_54 : decode cX0_fitsSigns 54 = .ok (.lstore 4, 2) := by decide +kernel
theorem dX0_fitsSigns_56 : decode cX0_fitsSigns 56 = .ok (.lload 4, 2) := by decide +kernel
theorem dX0_fitsSigns_58 : decode cX0_fitsSigns 58 = .ok (.aload_n 0, 1) := by decide +kernel
theorem dX0_fitsSigns_59 : decode cX0_fitsSigns 59 = .ok (.getfield 39, 3) := by decide +kernel
theorem dX0_fitsSigns_62 : decode cX0_fitsSigns 62 = .ok (.iload_n 2, 1) := by decide +kernel
theorem dX0_fitsSigns_63 : decode cX0_fitsSigns 63 = .ok (.iconst 2, 1) := by decide +kernel
theorem dX0_fitsSigns_64 : decode cX0_fitsSigns 64 = .ok (.invokevirtual 65, 3) := by decide +kernel
theorem dX0_fitsSigns_67 : decode cX0_fitsSigns 67 = .ok (.i2l, 1) := by decide +kernel
theorem dX0_fitsSigns_68 : decode cX0_fitsSigns 68 = .ok (.lcmp, 1) := by decide +kernel
theorem dX0_fitsSigns_69 : decode cX0_fitsSigns 69 = .ok (.ifCond .eq 5, 3) := by decide +kernel
theorem dX0_fitsSigns_72 : decode cX0_fitsSigns 72 = .ok (.iconst 0, 1) := by decide +kernel
theorem dX0_fitsSigns_73 : decode cX0_fitsSigns 73 = .ok (.ireturn, 1) := by decide +kernel
theorem dX0_fitsSigns_74 : decode cX0_fitsSigns 74 = .ok (.iinc 2 1, 3) := by decide +kernel
theorem dX0_fitsSigns_77 : decode cX0_fitsSigns 77 = .ok (.goto (-75), 3) := by decide +kernel
theorem dX0_fitsSigns_80 : decode cX0_fitsSigns 80 = .ok (.iconst 1, 1) := by decide +kernel
theorem dX0_fitsSigns_81 : decode cX0_fitsSigns 81 = .ok (.ireturn, 1) := by decide +kernel
theorem dX0_deepOnes_0 : decode cX0_deepOnes 0 = .ok (.iconst 0, 1) := by decide +kernel
theorem dX0_deepOnes_1 : decode cX0_deepOnes 1 = .ok (.istore_n 1, 1) := by decide +kernel
theorem dX0_deepOnes_2 : decode cX0_deepOnes 2 = .ok (.iconst 0, 1) := by decide +kernel
theorem dX0_deepOnes_3 : decode cX0_deepOnes 3 = .ok (.istore_n 2, 1) := by decide +kernel
theorem dX0_deepOnes_4 : decode cX0_deepOnes 4 = .ok (.iload_n 2, 1) := by decide +kernel
theorem dX0_deepOnes_5 : decode cX0_deepOnes 5 = .ok (.aload_n 0, 1) := by decide +kernel
theorem dX0_deepOnes_6 : decode cX0_deepOnes 6 = .ok (.getfield 49, 3) := by decide +kernel
theorem dX0_deepOnes_9 : decode cX0_deepOnes 9 = .ok (.if_icmp .gt 23, 3) := by decide +kernel
theorem dX0_deepOnes_12 : decode cX0_deepOnes 12 = .ok (.aload_n 0, 1) := by decide +kernel
theorem dX0_deepOnes_13 : decode cX0_deepOnes 13 = .ok (.iload_n 2, 1) := by decide +kernel
theorem dX0_deepOnes_14 : decode cX0_deepOnes 14 = .ok (.invokevirtual 96, 3) := by decide +kernel
theorem dX0_deepOnes_17 : decode cX0_deepOnes 17 = .ok (.ifCond .eq 9, 3) := by decide +kernel
theorem dX0_deepOnes_20 : decode cX0_deepOnes 20 = .ok (.iload_n 1, 1) := by decide +kernel
theorem dX0_deepOnes_21 : decode cX0_deepOnes 21 = .ok (.iconst 1, 1) := by decide +kernel
theorem dX0_deepOnes_22 : decode cX0_deepOnes 22 = .ok (.iload_n 2, 1) := by decide +kernel
theorem dX0_deepOnes_23 : decode cX0_deepOnes 23 = .ok (.ishl, 1) := by decide +kernel
theorem dX0_deepOnes_24 : decode cX0_deepOnes 24 = .ok (.ior, 1) := by decide +kernel
theorem dX0_deepOnes_25 : decode cX0_deepOnes 25 = .ok (.istore_n 1, 1) := by decide +kernel
theorem dX0_deepOnes_26 : decode cX0_deepOnes 26 = .ok (.iinc 2 1, 3) := by decide +kernel
theorem dX0_deepOnes_29 : decode cX0_deepOnes 29 = .ok (.goto (-25), 3) := by decide +kernel
theorem dX0_deepOnes_32 : decode cX0_deepOnes 32 = .ok (.iload_n 1, 1) := by decide +kernel
theorem dX0_deepOnes_33 : decode cX0_deepOnes 33 = .ok (.ireturn, 1) := by decide +kernel
theorem dX0_dreadOn_0 : decode cX0_dreadOn 0 = .ok (.aload_n 0, 1) := by decide +kernel
theorem dX0_dreadOn_1 : decode cX0_dreadOn 1 = .ok (.getfield 26, 3) := by decide +kernel
theorem dX0_dreadOn_4 : decode cX0_dreadOn 4 = .ok (.iload_n 1, 1) := by decide +kernel
theorem dX0_dreadOn_5 : decode cX0_dreadOn 5 = .ok (.iconst 2, 1) := by decide +kernel
theorem dX0_dreadOn_6 : decode cX0_dreadOn 6 = .ok (.invokevirtual 65, 3) := by decide +kernel
theorem dX0_dreadOn_9 : decode cX0_dreadOn 9 = .ok (.i2l, 1) := by decide +kernel
theorem dX0_dreadOn_10 : decode cX0_dreadOn 10 = .ok (.iload_n 2, 1) := by decide +kernel
theorem dX0_dreadOn_11 : decode cX0_dreadOn 11 = .ok (.i2l, 1) := by decide +kernel
theorem dX0_dreadOn_12 : decode cX0_dreadOn 12 = .ok (.lmul, 1) := by decide +kernel
theorem dX0_dreadOn_13 : decode cX0_dreadOn 13 = .ok (.iload_n 2, 1) := by decide +kernel
theorem dX0_dreadOn_14 : decode cX0_dreadOn 14 = .ok (.i2l, 1) := by decide +kernel
theorem dX0_dreadOn_15 : decode cX0_dreadOn 15 = .ok (.lmul, 1) := by decide +kernel
theorem dX0_dreadOn_16 : decode cX0_dreadOn 16 = .ok (.lreturn, 1) := by decide +kernel
theorem dX0_gainOn_0 : decode cX0_gainOn 0 = .ok (.iload_n 2, 1) := by decide +kernel
theorem dX0_gainOn_1 : decode cX0_gainOn 1 = .ok (.iconst 1, 1) := by decide +kernel
theorem dX0_gainOn_2 : decode cX0_gainOn 2 = .ok (.if_icmp .lt 11, 3) := by decide +kernel
theorem dX0_gainOn_5 : decode cX0_gainOn 5 = .ok (.iload_n 2, 1) := by decide +kernel
theorem dX0_gainOn_6 : decode cX0_gainOn 6 = .ok (.aload_n 0, 1) := by decide +kernel
theorem dX0_gainOn_7 : decode cX0_gainOn 7 = .ok (.getfield 49, 3) := by decide +kernel
theorem dX0_gainOn_10 : decode cX0_gainOn 10 = .ok (.if_icmp .le 7, 3) := by decide +kernel
theorem dX0_gainOn_13 : decode cX0_gainOn 13 = .ok (.lconst 0, 1) := by decide +kernel
theorem dX0_gainOn_14 : decode cX0_gainOn 14 = .ok (.goto 24, 3) := by decide +kernel
theorem dX0_gainOn_17 : decode cX0_gainOn 17 = .ok (.aload_n 0, 1) := by decide +kernel
theorem dX0_gainOn_18 : decode cX0_gainOn 18 = .ok (.getfield 15, 3) := by decide +kernel
theorem dX0_gainOn_21 : decode cX0_gainOn 21 = .ok (.iload_n 2, 1) := by decide +kernel
theorem dX0_gainOn_22 : decode cX0_gainOn 22 = .ok (.iaload, 1) := by decide +kernel
theorem dX0_gainOn_23 : decode cX0_gainOn 23 = .ok (.i2l, 1) := by decide +kernel
theorem dX0_gainOn_24 : decode cX0_gainOn 24 = .ok (.aload_n 0, 1) := by decide +kernel
theorem dX0_gainOn_25 : decode cX0_gainOn 25 = .ok (.iload_n 2, 1) := by decide +kernel
theorem dX0_gainOn_26 : decode cX0_gainOn 26 = .ok (.invokevirtual 73, 3) := by decide +kernel
theorem dX0_gainOn_29 : decode cX0_gainOn 29 = .ok (.i2l, 1) := by decide +kernel
theorem dX0_gainOn_30 : decode cX0_gainOn 30 = .ok (.lmul, 1) := by decide +kernel
theorem dX0_gainOn_31 : decode cX0_gainOn 31 = .ok (.aload_n 0, 1) := by decide +kernel
theorem dX0_gainOn_32 : decode cX0_gainOn 32 = .ok (.iload_n 1, 1) := by decide +kernel
theorem dX0_gainOn_33 : decode cX0_gainOn 33 = .ok (.iload_n 2, 1) := by decide +kernel
theorem dX0_gainOn_34 : decode cX0_gainOn 34 = .ok (.invokevirtual 108, 3) := by decide +kernel
theorem dX0_gainOn_37 : decode cX0_gainOn 37 = .ok (.lsub, 1) := by decide +kernel
theorem dX0_gainOn_38 : decode cX0_gainOn 38 = .ok (.lreturn, 1) := by decide +kernel
