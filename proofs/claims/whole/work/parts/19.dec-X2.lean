theorem dX2_dueTick_0 : decode cX2_dueTick 0 = .ok (.aload_n 1, 1) := by decide +kernel
theorem dX2_dueTick_1 : decode cX2_dueTick 1 = .ok (.iload_n 2, 1) := by decide +kernel
theorem dX2_dueTick_2 : decode cX2_dueTick 2 = .ok (.aload_n 0, 1) := by decide +kernel
theorem dX2_dueTick_3 : decode cX2_dueTick 3 = .ok (.getfield 18, 3) := by decide +kernel
theorem dX2_dueTick_6 : decode cX2_dueTick 6 = .ok (.iload_n 2, 1) := by decide +kernel
theorem dX2_dueTick_7 : decode cX2_dueTick 7 = .ok (.iaload, 1) := by decide +kernel
theorem dX2_dueTick_8 : decode cX2_dueTick 8 = .ok (.invokevirtual 77, 3) := by decide +kernel
theorem dX2_dueTick_11 : decode cX2_dueTick 11 = .ok (.istore_n 3, 1) := by decide +kernel
theorem dX2_dueTick_12 : decode cX2_dueTick 12 = .ok (.iload_n 3, 1) := by decide +kernel
theorem dX2_dueTick_13 : decode cX2_dueTick 13 = .ok (.ifCond .ge 9, 3) := by decide +kernel
theorem dX2_dueTick_16 : decode cX2_dueTick 16 = .ok (.ldc2_w 46, 3) := by decide +kernel
theorem dX2_dueTick_19 : decode cX2_dueTick 19 = .ok (.goto 32, 3) := by decide +kernel
theorem dX2_dueTick_22 : decode cX2_dueTick 22 = .ok (.aload_n 0, 1) := by decide +kernel
theorem dX2_dueTick_23 : decode cX2_dueTick 23 = .ok (.getfield 24, 3) := by decide +kernel
theorem dX2_dueTick_26 : decode cX2_dueTick 26 = .ok (.iload_n 2, 1) := by decide +kernel
theorem dX2_dueTick_27 : decode cX2_dueTick 27 = .ok (.laload, 1) := by decide +kernel
theorem dX2_dueTick_28 : decode cX2_dueTick 28 = .ok (.aload_n 1, 1) := by decide +kernel
theorem dX2_dueTick_29 : decode cX2_dueTick 29 = .ok (.getfield 81, 3) := by decide +kernel
theorem dX2_dueTick_32 : decode cX2_dueTick 32 = .ok (.iload_n 3, 1) := by decide +kernel
theorem dX2_dueTick_33 : decode cX2_dueTick 33 = .ok (.iconst 2, 1) := by decide +kernel
theorem dX2_dueTick_34 : decode cX2_dueTick 34 = .ok (.invokevirtual 84, 3) := by decide +kernel
theorem dX2_dueTick_37 : decode cX2_dueTick 37 = .ok (.i2l, 1) := by decide +kernel
theorem dX2_dueTick_38 : decode cX2_dueTick 38 = .ok (.aload_n 1, 1) := by decide +kernel
theorem dX2_dueTick_39 : decode cX2_dueTick 39 = .ok (.aload_n 0, 1) := by decide +kernel
theorem dX2_dueTick_40 : decode cX2_dueTick 40 = .ok (.getfield 9, 3) := by decide +kernel
theorem dX2_dueTick_43 : decode cX2_dueTick 43 = .ok (.iload_n 2, 1) := by decide +kernel
theorem dX2_dueTick_44 : decode cX2_dueTick 44 = .ok (.iaload, 1) := by decide +kernel
theorem dX2_dueTick_45 : decode cX2_dueTick 45 = .ok (.invokevirtual 87, 3) := by decide +kernel
theorem dX2_dueTick_48 : decode cX2_dueTick 48 = .ok (.i2l, 1) := by decide +kernel
theorem dX2_dueTick_49 : decode cX2_dueTick 49 = .ok (.lmul, 1) := by decide +kernel
theorem dX2_dueTick_50 : decode cX2_dueTick 50 = .ok (.ladd, 1) := by decide +kernel
theorem dX2_dueTick_51 : decode cX2_dueTick 51 = .ok (.lreturn, 1) := by decide +kernel
theorem dX2_comeTo_0 : decode cX2_comeTo 0 = .ok (.aload_n 0, 1) := by decide +kernel
theorem dX2_comeTo_1 : decode cX2_comeTo 1 = .ok (.getfield 28, 3) := by decide +kernel
theorem dX2_comeTo_4 : decode cX2_comeTo 4 = .ok (.iload_n 2, 1) := by decide +kernel
theorem dX2_comeTo_5 : decode cX2_comeTo 5 = .ok (.dup2, 1) := by decide +kernel
theorem dX2_comeTo_6 : decode cX2_comeTo 6 = .ok (.laload, 1) := by decide +kernel
theorem dX2_comeTo_7 : decode cX2_comeTo 7 = .ok (.aload_n 0, 1) := by decide +kernel
theorem dX2_comeTo_8 : decode cX2_comeTo 8 = .ok (.getfield 31, 3) := by decide +kernel
theorem dX2_comeTo_11 : decode cX2_comeTo 11 = .ok (.aload_n 0, 1) := by decide +kernel
theorem dX2_comeTo_12 : decode cX2_comeTo 12 = .ok (.getfield 24, 3) := by decide +kernel
theorem dX2_comeTo_15 : decode cX2_comeTo 15 = .ok (.iload_n 2, 1) := by decide +kernel
theorem dX2_comeTo_16 : decode cX2_comeTo 16 = .ok (.laload, 1) := by decide +kernel
theorem dX2_comeTo_17 : decode cX2_comeTo 17 = .ok (.lsub, 1) := by decide +kernel
theorem dX2_comeTo_18 : decode cX2_comeTo 18 = .ok (.aload_n 1, 1) := by decide +kernel
theorem dX2_comeTo_19 : decode cX2_comeTo 19 = .ok (.aload_n 0, 1) := by decide +kernel
theorem dX2_comeTo_20 : decode cX2_comeTo 20 = .ok (.getfield 9, 3) := by decide +kernel
theorem dX2_comeTo_23 : decode cX2_comeTo 23 = .ok (.iload_n 2, 1) := by decide +kernel
theorem dX2_comeTo_24 : decode cX2_comeTo 24 = .ok (.iaload, 1) := by decide +kernel
theorem dX2_comeTo_25 : decode cX2_comeTo 25 = .ok (.invokevirtual 107, 3) := by decide +kernel
theorem dX2_comeTo_28 : decode cX2_comeTo 28 = .ok (.i2l, 1) := by decide +kernel
theorem dX2_comeTo_29 : decode cX2_comeTo 29 = .ok (.lmul, 1) := by decide +kernel
theorem dX2_comeTo_30 : decode cX2_comeTo 30 = .ok (.ladd, 1) := by decide +kernel
theorem dX2_comeTo_31 : decode cX2_comeTo 31 = .ok (.lastore, 1) := by decide +kernel
theorem dX2_comeTo_32 : decode cX2_comeTo 32 = .ok (.aload_n 0, 1) := by decide +kernel
theorem dX2_comeTo_33 : decode cX2_comeTo 33 = .ok (.getfield 24, 3) := by decide +kernel
theorem dX2_comeTo_36 : decode cX2_comeTo 36 = .ok (.iload_n 2, 1) := by decide +kernel
theorem dX2_comeTo_37 : decode cX2_comeTo 37 = .ok (.aload_n 0, 1) := by decide +kernel
theorem dX2_comeTo_38 : decode cX2_comeTo 38 = .ok (.getfield 31, 3) := by decide +kernel
theorem dX2_comeTo_41 : decode cX2_comeTo 41 = .ok (.lastore, 1) := by decide +kernel
theorem dX2_comeTo_42 : decode cX2_comeTo 42 = .ok (.aload_n 0, 1) := by decide +kernel
theorem dX2_comeTo_43 : decode cX2_comeTo 43 = .ok (.getfield 9, 3) := by decide +kernel
theorem dX2_comeTo_46 : decode cX2_comeTo 46 = .ok (.iload_n 2, 1) := by decide +kernel
theorem dX2_comeTo_47 : decode cX2_comeTo 47 = .ok (.iaload, 1) := by decide +kernel
theorem dX2_comeTo_48 : decode cX2_comeTo 48 = .ok (.ifCond .ne 11, 3) := by decide +kernel
theorem dX2_comeTo_51 : decode cX2_comeTo 51 = .ok (.aload_n 0, 1) := by decide +kernel
theorem dX2_comeTo_52 : decode cX2_comeTo 52 = .ok (.getfield 15, 3) := by decide +kernel
theorem dX2_comeTo_55 : decode cX2_comeTo 55 = .ok (.iload_n 2, 1) := by decide +kernel
theorem dX2_comeTo_56 : decode cX2_comeTo 56 = .ok (.iload 4, 2) := by decide +kernel
theorem dX2_comeTo_58 : decode cX2_comeTo 58 = .ok (.iastore, 1) := by decide +kernel
theorem dX2_comeTo_59 : decode cX2_comeTo 59 = .ok (.aload_n 0, 1) := by decide +kernel
theorem dX2_comeTo_60 : decode cX2_comeTo 60 = .ok (.getfield 9, 3) := by decide +kernel
theorem dX2_comeTo_63 : decode cX2_comeTo 63 = .ok (.iload_n 2, 1) := by decide +kernel
theorem dX2_comeTo_64 : decode cX2_comeTo 64 = .ok (.iconst 0, 1) := by decide +kernel
theorem dX2_comeTo_65 : decode cX2_comeTo 65 = .ok (.iload_n 3, 1) := by decide +kernel
theorem dX2_comeTo_66 : decode cX2_comeTo 66 = .ok (.aload_n 1, 1) := by decide +kernel
theorem dX2_comeTo_67 : decode cX2_comeTo 67 = .ok (.getfield 110, 3) := by decide +kernel
theorem dX2_comeTo_70 : decode cX2_comeTo 70 = .ok (.invokestatic 112, 3) := by decide +kernel
theorem dX2_comeTo_73 : decode cX2_comeTo 73 = .ok (.invokestatic 114, 3) := by decide +kernel
theorem dX2_comeTo_76 : decode cX2_comeTo 76 = .ok (.iastore, 1) := by decide +kernel
theorem dX2_comeTo_77 : decode cX2_comeTo 77 = .ok (.aload_n 0, 1) := by decide +kernel
theorem dX2_comeTo_78 : decode cX2_comeTo 78 = .ok (.getfield 9, 3) := by decide +kernel
theorem dX2_comeTo_81 : decode cX2_comeTo 81 = .ok (.iload_n 2, 1) := by decide +kernel
theorem dX2_comeTo_82 : decode cX2_comeTo 82 = .ok (.iaload, 1) := by decide +kernel
theorem dX2_comeTo_83 : decode cX2_comeTo 83 = .ok (.ifCond .ne 11, 3) := by decide +kernel
theorem dX2_comeTo_86 : decode cX2_comeTo 86 = .ok (.aload_n 0, 1) := by decide +kernel
theorem dX2_comeTo_87 : decode cX2_comeTo 87 = .ok (.getfield 15, 3) := by decide +kernel
theorem dX2_comeTo_90 : decode cX2_comeTo 90 = .ok (.iload_n 2, 1) := by decide +kernel
theorem dX2_comeTo_91 : decode cX2_comeTo 91 = .ok (.bipush (-2), 2) := by decide +kernel
theorem dX2_comeTo_93 : decode cX2_comeTo 93 = .ok (.iastore, 1) := by decide +kernel
theorem dX2_comeTo_94 : decode cX2_comeTo 94 = .ok (.return_, 1) := by decide +kernel
theorem dX2_takeStep_0 : decode cX2_takeStep 0 = .ok (.aload_n 1, 1) := by decide +kernel
theorem dX2_takeStep_1 : decode cX2_takeStep 1 = .ok (.getfield 81, 3) := by decide +kernel
theorem dX2_takeStep_4 : decode cX2_takeStep 4 = .ok (.aload_n 1, 1) := by decide +kernel
theorem dX2_takeStep_5 : decode cX2_takeStep 5 = .ok (.iload_n 2, 1) := by decide +kernel
theorem dX2_takeStep_6 : decode cX2_takeStep 6 = .ok (.aload_n 0, 1) := by decide +kernel
theorem dX2_takeStep_7 : decode cX2_takeStep 7 = .ok (.getfield 18, 3) := by decide +kernel
theorem dX2_takeStep_10 : decode cX2_takeStep 10 = .ok (.iload_n 2, 1) := by decide +kernel
theorem dX2_takeStep_11 : decode cX2_takeStep 11 = .ok (.iaload, 1) := by decide +kernel
theorem dX2_takeStep_12 : decode cX2_takeStep 12 = .ok (.invokevirtual 77, 3) := by decide +kernel
theorem dX2_takeStep_15 : decode cX2_takeStep 15 = .ok (.iconst 1, 1) := by decide +kernel
theorem dX2_takeStep_16 : decode cX2_takeStep 16 = .ok (.invokevirtual 84, 3) := by decide +kernel
theorem dX2_takeStep_19 : decode cX2_takeStep 19 = .ok (.istore_n 3, 1) := by decide +kernel
theorem dX2_takeStep_20 : decode cX2_takeStep 20 = .ok (.aload_n 0, 1) := by decide +kernel
theorem dX2_takeStep_21 : decode cX2_takeStep 21 = .ok (.getfield 18, 3) := by decide +kernel
theorem dX2_takeStep_24 : decode cX2_takeStep 24 = .ok (.iload_n 2, 1) := by decide +kernel
theorem dX2_takeStep_25 : decode cX2_takeStep 25 = .ok (.dup2, 1) := by decide +kernel
theorem dX2_takeStep_26 : decode cX2_takeStep 26 = .ok (.iaload, 1) := by decide +kernel
theorem dX2_takeStep_27 : decode cX2_takeStep 27 = .ok (.iconst 1, 1) := by decide +kernel
theorem dX2_takeStep_28 : decode cX2_takeStep 28 = .ok (.iadd, 1) := by decide +kernel
theorem dX2_takeStep_29 : decode cX2_takeStep 29 = .ok (.iastore, 1) := by decide +kernel
theorem dX2_takeStep_30 : decode cX2_takeStep 30 = .ok (.aload_n 0, 1) := by decide +kernel
theorem dX2_takeStep_31 : decode cX2_takeStep 31 = .ok (.aload_n 1, 1) := by decide +kernel
theorem dX2_takeStep_32 : decode cX2_takeStep 32 = .ok (.iload_n 2, 1) := by decide +kernel
theorem dX2_takeStep_33 : decode cX2_takeStep 33 = .ok (.iload_n 3, 1) := by decide +kernel
theorem dX2_takeStep_34 : decode cX2_takeStep 34 = .ok (.iconst (-1), 1) := by decide +kernel
theorem dX2_takeStep_35 : decode cX2_takeStep 35 = .ok (.if_icmp .ne 14, 3) := by decide +kernel
theorem dX2_takeStep_38 : decode cX2_takeStep 38 = .ok (.aload_n 0, 1) := by decide +kernel
theorem dX2_takeStep_39 : decode cX2_takeStep 39 = .ok (.getfield 9, 3) := by decide +kernel
theorem dX2_takeStep_42 : decode cX2_takeStep 42 = .ok (.iload_n 2, 1) := by decide +kernel
theorem dX2_takeStep_43 : decode cX2_takeStep 43 = .ok (.iaload, 1) := by decide +kernel
theorem dX2_takeStep_44 : decode cX2_takeStep 44 = .ok (.iconst 1, 1) := by decide +kernel
theorem dX2_takeStep_45 : decode cX2_takeStep 45 = .ok (.isub, 1) := by decide +kernel
theorem dX2_takeStep_46 : decode cX2_takeStep 46 = .ok (.goto 11, 3) := by decide +kernel
theorem dX2_takeStep_49 : decode cX2_takeStep 49 = .ok (.aload_n 0, 1) := by decide +kernel
theorem dX2_takeStep_50 : decode cX2_takeStep 50 = .ok (.getfield 9, 3) := by decide +kernel
theorem dX2_takeStep_53 : decode cX2_takeStep 53 = .ok (.iload_n 2, 1) := by decide +kernel
theorem dX2_takeStep_54 : decode cX2_takeStep 54 = .ok (.iaload, 1) := by decide +kernel
theorem dX2_takeStep_55 : decode cX2_takeStep 55 = .ok (.iconst 1, 1) := by decide +kernel
theorem dX2_takeStep_56 : decode cX2_takeStep 56 = .ok (.iadd, 1) := by decide +kernel
theorem dX2_takeStep_57 : decode cX2_takeStep 57 = .ok (.iload_n 3, 1) := by decide +kernel
theorem dX2_takeStep_58 : decode cX2_takeStep 58 = .ok (.invokevirtual 99, 3) := by decide +kernel
theorem dX2_takeStep_61 : decode cX2_takeStep 61 = .ok (.return_, 1) := by decide +kernel
theorem dX2_takeDueSteps_0 : decode cX2_takeDueSteps 0 = .ok (.iconst 0, 1) := by decide +kernel
theorem dX2_takeDueSteps_1 : decode cX2_takeDueSteps 1 = .ok (.istore_n 2, 1) := by decide +kernel
theorem dX2_takeDueSteps_2 : decode cX2_takeDueSteps 2 = .ok (.iload_n 2, 1) := by decide +kernel
theorem dX2_takeDueSteps_3 : decode cX2_takeDueSteps 3 = .ok (.aload_n 1, 1) := by decide +kernel
theorem dX2_takeDueSteps_4 : decode cX2_takeDueSteps 4 = .ok (.getfield 48, 3) := by decide +kernel
theorem dX2_takeDueSteps_7 : decode cX2_takeDueSteps 7 = .ok (.getfield 54, 3) := by decide +kernel
theorem dX2_takeDueSteps_10 : decode cX2_takeDueSteps 10 = .ok (.if_icmp .ge 43, 3) := by decide +kernel
theorem dX2_takeDueSteps_13 : decode cX2_takeDueSteps 13 = .ok (.iconst 0, 1) := by decide +kernel
theorem dX2_takeDueSteps_14 : decode cX2_takeDueSteps 14 = .ok (.istore_n 3, 1) := by decide +kernel
theorem dX2_takeDueSteps_15 : decode cX2_takeDueSteps 15 = .ok (.iload_n 3, 1) := by decide +kernel
theorem dX2_takeDueSteps_16 : decode cX2_takeDueSteps 16 = .ok (.bipush 20, 2) := by decide +kernel
theorem dX2_takeDueSteps_18 : decode cX2_takeDueSteps 18 = .ok (.if_icmp .ge 29, 3) := by decide +kernel
theorem dX2_takeDueSteps_21 : decode cX2_takeDueSteps 21 = .ok (.aload_n 0, 1) := by decide +kernel
theorem dX2_takeDueSteps_22 : decode cX2_takeDueSteps 22 = .ok (.aload_n 1, 1) := by decide +kernel
theorem dX2_takeDueSteps_23 : decode cX2_takeDueSteps 23 = .ok (.iload_n 2, 1) := by decide +kernel
theorem dX2_takeDueSteps_24 : decode cX2_takeDueSteps 24 = .ok (.invokevirtual 60, 3) := by decide +kernel
theorem dX2_takeDueSteps_27 : decode cX2_takeDueSteps 27 = .ok (.aload_n 0, 1) := by decide +kernel
theorem dX2_takeDueSteps_28 : decode cX2_takeDueSteps 28 = .ok (.getfield 31, 3) := by decide +kernel
theorem dX2_takeDueSteps_31 : decode cX2_takeDueSteps 31 = .ok (.lcmp, 1) := by decide +kernel
theorem dX2_takeDueSteps_32 : decode cX2_takeDueSteps 32 = .ok (.ifCond .gt 15, 3) := by decide +kernel
theorem dX2_takeDueSteps_35 : decode cX2_takeDueSteps 35 = .ok (.aload_n 0, 1) := by decide +kernel
theorem dX2_takeDueSteps_36 : decode cX2_takeDueSteps 36 = .ok (.aload_n 1, 1) := by decide +kernel
theorem dX2_takeDueSteps_37 : decode cX2_takeDueSteps 37 = .ok (.iload_n 2, 1) := by decide +kernel
theorem dX2_takeDueSteps_38 : decode cX2_takeDueSteps 38 = .ok (.invokevirtual 103, 3) := by decide +kernel
theorem dX2_takeDueSteps_41 : decode cX2_takeDueSteps 41 = .ok (.iinc 3 1, 3) := by decide +kernel
theorem dX2_takeDueSteps_44 : decode cX2_takeDueSteps 44 = .ok (.goto (-29), 3) := by decide +kernel
theorem dX2_takeDueSteps_47 : decode cX2_takeDueSteps 47 = .ok (.iinc 2 1, 3) := by decide +kernel
theorem dX2_takeDueSteps_50 : decode cX2_takeDueSteps 50 = .ok (.goto (-48), 3) := by decide +kernel
theorem dX2_takeDueSteps_53 : decode cX2_takeDueSteps 53 = .ok (.return_, 1) := by decide +kernel
theorem dX2_begin_0 : decode cX2_begin 0 = .ok (.aload_n 0, 1) := by decide +kernel
theorem dX2_begin_1 : decode cX2_begin 1 = .ok (.lconst 0, 1) := by decide +kernel
theorem dX2_begin_2 : decode cX2_begin 2 = .ok (.putfield 31, 3) := by decide +kernel
theorem dX2_begin_5 : decode cX2_begin 5 = .ok (.iconst 0, 1) := by decide +kernel
theorem dX2_begin_6 : decode cX2_begin 6 = .ok (.istore_n 2, 1) := by decide +kernel
theorem dX2_begin_7 : decode cX2_begin 7 = .ok (.iload_n 2, 1) := by decide +kernel
theorem dX2_begin_8 : decode cX2_begin 8 = .ok (.iconst 5, 1) := by decide +kernel
theorem dX2_begin_9 : decode cX2_begin 9 = .ok (.if_icmp .ge 52, 3) := by decide +kernel
theorem dX2_begin_12 : decode cX2_begin 12 = .ok (.aload_n 0, 1) := by decide +kernel
theorem dX2_begin_13 : decode cX2_begin 13 = .ok (.getfield 9, 3) := by decide +kernel
theorem dX2_begin_16 : decode cX2_begin 16 = .ok (.iload_n 2, 1) := by decide +kernel
theorem dX2_begin_17 : decode cX2_begin 17 = .ok (.iconst 0, 1) := by decide +kernel
theorem dX2_begin_18 : decode cX2_begin 18 = .ok (.iastore, 1) := by decide +kernel
theorem dX2_begin_19 : decode cX2_begin 19 = .ok (.aload_n 0, 1) := by decide +kernel
theorem dX2_begin_20 : decode cX2_begin 20 = .ok (.getfield 15, 3) := by decide +kernel
theorem dX2_begin_23 : decode cX2_begin 23 = .ok (.iload_n 2, 1) := by decide +kernel
theorem dX2_begin_24 : decode cX2_begin 24 = .ok (.bipush (-2), 2) := by decide +kernel
theorem dX2_begin_26 : decode cX2_begin 26 = .ok (.iastore, 1) := by decide +kernel
theorem dX2_begin_27 : decode cX2_begin 27 = .ok (.aload_n 0, 1) := by decide +kernel
theorem dX2_begin_28 : decode cX2_begin 28 = .ok (.getfield 18, 3) := by decide +kernel
theorem dX2_begin_31 : decode cX2_begin 31 = .ok (.iload_n 2, 1) := by decide +kernel
theorem dX2_begin_32 : decode cX2_begin 32 = .ok (.iconst 0, 1) := by decide +kernel
theorem dX2_begin_33 : decode cX2_begin 33 = .ok (.iastore, 1) := by decide +kernel
theorem dX2_begin_34 : decode cX2_begin 34 = .ok (.aload_n 0, 1) := by decide +kernel
theorem dX2_begin_35 : decode cX2_begin 35 = .ok (.getfield 21, 3) := by decide +kernel
theorem dX2_begin_38 : decode cX2_begin 38 = .ok (.iload_n 2, 1) := by decide +kernel
theorem dX2_begin_39 : decode cX2_begin 39 = .ok (.iconst 0, 1) := by decide +kernel
theorem dX2_begin_40 : decode cX2_begin 40 = .ok (.iastore, 1) := by decide +kernel
theorem dX2_begin_41 : decode cX2_begin 41 = .ok (.aload_n 0, 1) := by decide +kernel
theorem dX2_begin_42 : decode cX2_begin 42 = .ok (.getfield 24, 3) := by decide +kernel
theorem dX2_begin_45 : decode cX2_begin 45 = .ok (.iload_n 2, 1) := by decide +kernel
theorem dX2_begin_46 : decode cX2_begin 46 = .ok (.lconst 0, 1) := by decide +kernel
theorem dX2_begin_47 : decode cX2_begin 47 = .ok (.lastore, 1) := by decide +kernel
theorem dX2_begin_48 : decode cX2_begin 48 = .ok (.aload_n 0, 1) := by decide +kernel
theorem dX2_begin_49 : decode cX2_begin 49 = .ok (.getfield 28, 3) := by decide +kernel
theorem dX2_begin_52 : decode cX2_begin 52 = .ok (.iload_n 2, 1) := by decide +kernel
theorem dX2_begin_53 : decode cX2_begin 53 = .ok (.lconst 0, 1) := by decide +kernel
theorem dX2_begin_54 : decode cX2_begin 54 = .ok (.lastore, 1) := by decide +kernel
theorem dX2_begin_55 : decode cX2_begin 55 = .ok (.iinc 2 1, 3) := by decide +kernel
theorem dX2_begin_58 : decode cX2_begin 58 = .ok (.goto (-51), 3) := by decide +kernel
theorem dX2_begin_61 : decode cX2_begin 61 = .ok (.aload_n 0, 1) := by decide +kernel
theorem dX2_begin_62 : decode cX2_begin 62 = .ok (.aload_n 1, 1) := by decide +kernel
theorem dX2_begin_63 : decode cX2_begin 63 = .ok (.invokevirtual 35, 3) := by decide +kernel
theorem dX2_begin_66 : decode cX2_begin 66 = .ok (.return_, 1) := by decide +kernel
theorem dX2_copyFrom_0 : decode cX2_copyFrom 0 = .ok (.aload_n 0, 1) := by decide +kernel
theorem dX2_copyFrom_1 : decode cX2_copyFrom 1 = .ok (.aload_n 1, 1) := by decide +kernel
theorem dX2_copyFrom_2 : decode cX2_copyFrom 2 = .ok (.getfield 31, 3) := by decide +kernel
theorem dX2_copyFrom_5 : decode cX2_copyFrom 5 = .ok (.putfield 31, 3) := by decide +kernel
theorem dX2_copyFrom_8 : decode cX2_copyFrom 8 = .ok (.iconst 0, 1) := by decide +kernel
theorem dX2_copyFrom_9 : decode cX2_copyFrom 9 = .ok (.istore_n 2, 1) := by decide +kernel
theorem dX2_copyFrom_10 : decode cX2_copyFrom 10 = .ok (.iload_n 2, 1) := by decide +kernel
theorem dX2_copyFrom_11 : decode cX2_copyFrom 11 = .ok (.iconst 5, 1) := by decide +kernel
theorem dX2_copyFrom_12 : decode cX2_copyFrom 12 = .ok (.if_icmp .ge 81, 3) := by decide +kernel
theorem dX2_copyFrom_15 : decode cX2_copyFrom 15 = .ok (.aload_n 0, 1) := by decide +kernel
theorem dX2_copyFrom_16 : decode cX2_copyFrom 16 = .ok (.getfield 9, 3) := by decide +kernel
theorem dX2_copyFrom_19 : decode cX2_copyFrom 19 = .ok (.iload_n 2, 1) := by decide +kernel
theorem dX2_copyFrom_20 : decode cX2_copyFrom 20 = .ok (.aload_n 1, 1) := by decide +kernel
theorem dX2_copyFrom_21 : decode cX2_copyFrom 21 = .ok (.getfield 9, 3) := by decide +kernel
theorem dX2_copyFrom_24 : decode cX2_copyFrom 24 = .ok (.iload_n 2, 1) := by decide +kernel
theorem dX2_copyFrom_25 : decode cX2_copyFrom 25 = .ok (.iaload, 1) := by decide +kernel
theorem dX2_copyFrom_26 : decode cX2_copyFrom 26 = .ok (.iastore, 1) := by decide +kernel
theorem dX2_copyFrom_27 : decode cX2_copyFrom 27 = .ok (.aload_n 0, 1) := by decide +kernel
theorem dX2_copyFrom_28 : decode cX2_copyFrom 28 = .ok (.getfield 15, 3) := by decide +kernel
theorem dX2_copyFrom_31 : decode cX2_copyFrom 31 = .ok (.iload_n 2, 1) := by decide +kernel
theorem dX2_copyFrom_32 : decode cX2_copyFrom 32 = .ok (.aload_n 1, 1) := by decide +kernel
theorem dX2_copyFrom_33 : decode cX2_copyFrom 33 = .ok (.getfield 15, 3) := by decide +kernel
theorem dX2_copyFrom_36 : decode cX2_copyFrom 36 = .ok (.iload_n 2, 1) := by decide +kernel
theorem dX2_copyFrom_37 : decode cX2_copyFrom 37 = .ok (.iaload, 1) := by decide +kernel
theorem dX2_copyFrom_38 : decode cX2_copyFrom 38 = .ok (.iastore, 1) := by decide +kernel
theorem dX2_copyFrom_39 : decode cX2_copyFrom 39 = .ok (.aload_n 0, 1) := by decide +kernel
theorem dX2_copyFrom_40 : decode cX2_copyFrom 40 = .ok (.getfield 18, 3) := by decide +kernel
theorem dX2_copyFrom_43 : decode cX2_copyFrom 43 = .ok (.iload_n 2, 1) := by decide +kernel
theorem dX2_copyFrom_44 : decode cX2_copyFrom 44 = .ok (.aload_n 1, 1) := by decide +kernel
theorem dX2_copyFrom_45 : decode cX2_copyFrom 45 = .ok (.getfield 18, 3) := by decide +kernel
theorem dX2_copyFrom_48 : decode cX2_copyFrom 48 = .ok (.iload_n 2, 1) := by decide +kernel
theorem dX2_copyFrom_49 : decode cX2_copyFrom 49 = .ok (.iaload, 1) := by decide +kernel
theorem dX2_copyFrom_50 : decode cX2_copyFrom 50 = .ok (.iastore, 1) := by decide +kernel
theorem dX2_copyFrom_51 : decode cX2_copyFrom 51 = .ok (.aload_n 0, 1) := by decide +kernel
theorem dX2_copyFrom_52 : decode cX2_copyFrom 52 = .ok (.getfield 21, 3) := by decide +kernel
theorem dX2_copyFrom_55 : decode cX2_copyFrom 55 = .ok (.iload_n 2, 1) := by decide +kernel
theorem dX2_copyFrom_56 : decode cX2_copyFrom 56 = .ok (.aload_n 1, 1) := by decide +kernel
theorem dX2_copyFrom_57 : decode cX2_copyFrom 57 = .ok (.getfield 21, 3) := by decide +kernel
theorem dX2_copyFrom_60 : decode cX2_copyFrom 60 = .ok (.iload_n 2, 1) := by decide +kernel
theorem dX2_copyFrom_61 : decode cX2_copyFrom 61 = .ok (.iaload, 1) := by decide +kernel
theorem dX2_copyFrom_62 : decode cX2_copyFrom 62 = .ok (.iastore, 1) := by decide +kernel
theorem dX2_copyFrom_63 : decode cX2_copyFrom 63 = .ok (.aload_n 0, 1) := by decide +kernel
theorem dX2_copyFrom_64 : decode cX2_copyFrom 64 = .ok (.getfield 24, 3) := by decide +kernel
theorem dX2_copyFrom_67 : decode cX2_copyFrom 67 = .ok (.iload_n 2, 1) := by decide +kernel
theorem dX2_copyFrom_68 : decode cX2_copyFrom 68 = .ok (.aload_n 1, 1) := by decide +kernel
theorem dX2_copyFrom_69 : decode cX2_copyFrom 69 = .ok (.getfield 24, 3) := by decide +kernel
theorem dX2_copyFrom_72 : decode cX2_copyFrom 72 = .ok (.iload_n 2, 1) := by decide +kernel
theorem dX2_copyFrom_73 : decode cX2_copyFrom 73 = .ok (.laload, 1) := by decide +kernel
theorem dX2_copyFrom_74 : decode cX2_copyFrom 74 = .ok (.lastore, 1) := by decide +kernel
theorem dX2_copyFrom_75 : decode cX2_copyFrom 75 = .ok (.aload_n 0, 1) := by decide +kernel
theorem dX2_copyFrom_76 : decode cX2_copyFrom 76 = .ok (.getfield 28, 3) := by decide +kernel
theorem dX2_copyFrom_79 : decode cX2_copyFrom 79 = .ok (.iload_n 2, 1) := by decide +kernel
theorem dX2_copyFrom_80 : decode cX2_copyFrom 80 = .ok (.aload_n 1, 1) := by decide +kernel
theorem dX2_copyFrom_81 : decode cX2_copyFrom 81 = .ok (.getfield 28, 3) := by decide +kernel
theorem dX2_copyFrom_84 : decode cX2_copyFrom 84 = .ok (.iload_n 2, 1) := by decide +kernel
theorem dX2_copyFrom_85 : decode cX2_copyFrom 85 = .ok (.laload, 1) := by decide +kernel
theorem dX2_copyFrom_86 : decode cX2_copyFrom 86 = .ok (.lastore, 1) := by decide +kernel
theorem dX2_copyFrom_87 : decode cX2_copyFrom 87 = .ok (.iinc 2 1, 3) := by decide +kernel
theorem dX2_copyFrom_90 : decode cX2_copyFrom 90 = .ok (.goto (-80), 3) := by decide +kernel
theorem dX2_copyFrom_93 : decode cX2_copyFrom 93 = .ok (.return_, 1) := by decide +kernel
theorem dX2_nextChange_0 : decode cX2_nextChange 0 = .ok (.ldc2_w 46, 3) := by decide +kernel
theorem dX2_nextChange_3 : decode cX2_nextChange 3 = .ok (.lstore_n 2, 1) := by decide +kernel
theorem dX2_nextChange_4 : decode cX2_nextChange 4 = .ok (.iconst 0, 1) := by decide +kernel
theorem dX2_nextChange_5 : decode cX2_nextChange 5 = .ok (.istore 4, 2) := by decide +kernel
theorem dX2_nextChange_7 : decode cX2_nextChange 7 = .ok (.iload 4, 2) := by decide +kernel
theorem dX2_nextChange_9 : decode cX2_nextChange 9 = .ok (.aload_n 1, 1) := by decide +kernel
theorem dX2_nextChange_10 : decode cX2_nextChange 10 = .ok (.getfield 48, 3) := by decide +kernel
theorem dX2_nextChange_13 : decode cX2_nextChange 13 = .ok (.getfield 54, 3) := by decide +kernel
theorem dX2_nextChange_16 : decode cX2_nextChange 16 = .ok (.if_icmp .ge 21, 3) := by decide +kernel
theorem dX2_nextChange_19 : decode cX2_nextChange 19 = .ok (.lload_n 2, 1) := by decide +kernel
theorem dX2_nextChange_20 : decode cX2_nextChange 20 = .ok (.aload_n 0, 1) := by decide +kernel
theorem dX2_nextChange_21 : decode cX2_nextChange 21 = .ok (.aload_n 1, 1) := by decide +kernel
theorem dX2_nextChange_22 : decode cX2_nextChange 22 = .ok (.iload 4, 2) := by decide +kernel
theorem dX2_nextChange_24 : decode cX2_nextChange 24 = .ok (.invokevirtual 60, 3) := by decide +kernel
theorem dX2_nextChange_27 : decode cX2_nextChange 27 = .ok (.invokestatic 64, 3) := by decide +kernel
theorem dX2_nextChange_30 : decode cX2_nextChange 30 = .ok (.lstore_n 2, 1) := by decide +kernel
theorem dX2_nextChange_31 : decode cX2_nextChange 31 = .ok (.iinc 4 1, 3) := by decide +kernel
theorem dX2_nextChange_34 : decode cX2_nextChange 34 = .ok (.goto (-27), 3) := by decide +kernel
theorem dX2_nextChange_37 : decode cX2_nextChange 37 = .ok (.iconst 0, 1) := by decide +kernel
theorem dX2_nextChange_38 : decode cX2_nextChange 38 = .ok (.istore 4, 2) := by decide +kernel
theorem dX2_nextChange_40 : decode cX2_nextChange 40 = .ok (.iload 4, 2) := by decide +kernel
theorem dX2_nextChange_42 : decode cX2_nextChange 42 = .ok (.aload_n 1, 1) := by decide +kernel
theorem dX2_nextChange_43 : decode cX2_nextChange 43 = .ok (.getfield 70, 3) := by decide +kernel
theorem dX2_nextChange_46 : decode cX2_nextChange 46 = .ok (.getfield 54, 3) := by decide +kernel
theorem dX2_nextChange_49 : decode cX2_nextChange 49 = .ok (.if_icmp .ge 34, 3) := by decide +kernel
theorem dX2_nextChange_52 : decode cX2_nextChange 52 = .ok (.aload_n 1, 1) := by decide +kernel
theorem dX2_nextChange_53 : decode cX2_nextChange 53 = .ok (.iload 4, 2) := by decide +kernel
theorem dX2_nextChange_55 : decode cX2_nextChange 55 = .ok (.invokevirtual 73, 3) := by decide +kernel
theorem dX2_nextChange_58 : decode cX2_nextChange 58 = .ok (.lstore 5, 2) := by decide +kernel
theorem dX2_nextChange_60 : decode cX2_nextChange 60 = .ok (.lload 5, 2) := by decide +kernel
theorem dX2_nextChange_62 : decode cX2_nextChange 62 = .ok (.aload_n 0, 1) := by decide +kernel
theorem dX2_nextChange_63 : decode cX2_nextChange 63 = .ok (.getfield 31, 3) := by decide +kernel
theorem dX2_nextChange_66 : decode cX2_nextChange 66 = .ok (.lcmp, 1) := by decide +kernel
theorem dX2_nextChange_67 : decode cX2_nextChange 67 = .ok (.ifCond .le 10, 3) := by decide +kernel
theorem dX2_nextChange_70 : decode cX2_nextChange 70 = .ok (.lload_n 2, 1) := by decide +kernel
theorem dX2_nextChange_71 : decode cX2_nextChange 71 = .ok (.lload 5, 2) := by decide +kernel
theorem dX2_nextChange_73 : decode cX2_nextChange 73 = .ok (.invokestatic 64, 3) := by decide +kernel
theorem dX2_nextChange_76 : decode cX2_nextChange 76 = .ok (.lstore_n 2, 1) := by decide +kernel
theorem dX2_nextChange_77 : decode cX2_nextChange 77 = .ok (.iinc 4 1, 3) := by decide +kernel
theorem dX2_nextChange_80 : decode cX2_nextChange 80 = .ok (.goto (-40), 3) := by decide +kernel
theorem dX2_nextChange_83 : decode cX2_nextChange 83 = .ok (.lload_n 2, 1) := by decide +kernel
theorem dX2_nextChange_84 : decode cX2_nextChange 84 = .ok (.lreturn, 1) := by decide +kernel
theorem dX2_hearKnock_0 : decode cX2_hearKnock 0 = .ok (.iconst 0, 1) := by decide +kernel
theorem dX2_hearKnock_1 : decode cX2_hearKnock 1 = .ok (.istore 5, 2) := by decide +kernel
theorem dX2_hearKnock_3 : decode cX2_hearKnock 3 = .ok (.iconst 0, 1) := by decide +kernel
theorem dX2_hearKnock_4 : decode cX2_hearKnock 4 = .ok (.istore 6, 2) := by decide +kernel
theorem dX2_hearKnock_6 : decode cX2_hearKnock 6 = .ok (.iload 6, 2) := by decide +kernel
theorem dX2_hearKnock_8 : decode cX2_hearKnock 8 = .ok (.aload_n 1, 1) := by decide +kernel
theorem dX2_hearKnock_9 : decode cX2_hearKnock 9 = .ok (.getfield 48, 3) := by decide +kernel
theorem dX2_hearKnock_12 : decode cX2_hearKnock 12 = .ok (.getfield 54, 3) := by decide +kernel
theorem dX2_hearKnock_15 : decode cX2_hearKnock 15 = .ok (.if_icmp .ge 90, 3) := by decide +kernel
theorem dX2_hearKnock_18 : decode cX2_hearKnock 18 = .ok (.aload_n 0, 1) := by decide +kernel
theorem dX2_hearKnock_19 : decode cX2_hearKnock 19 = .ok (.getfield 15, 3) := by decide +kernel
theorem dX2_hearKnock_22 : decode cX2_hearKnock 22 = .ok (.iload 6, 2) := by decide +kernel
theorem dX2_hearKnock_24 : decode cX2_hearKnock 24 = .ok (.iaload, 1) := by decide +kernel
theorem dX2_hearKnock_25 : decode cX2_hearKnock 25 = .ok (.iload_n 2, 1) := by decide +kernel
theorem dX2_hearKnock_26 : decode cX2_hearKnock 26 = .ok (.if_icmp .ne 22, 3) := by decide +kernel
theorem dX2_hearKnock_29 : decode cX2_hearKnock 29 = .ok (.aload_n 1, 1) := by decide +kernel
theorem dX2_hearKnock_30 : decode cX2_hearKnock 30 = .ok (.iload 6, 2) := by decide +kernel
theorem dX2_hearKnock_32 : decode cX2_hearKnock 32 = .ok (.aload_n 0, 1) := by decide +kernel
theorem dX2_hearKnock_33 : decode cX2_hearKnock 33 = .ok (.getfield 9, 3) := by decide +kernel
theorem dX2_hearKnock_36 : decode cX2_hearKnock 36 = .ok (.iload 6, 2) := by decide +kernel
theorem dX2_hearKnock_38 : decode cX2_hearKnock 38 = .ok (.iaload, 1) := by decide +kernel
theorem dX2_hearKnock_39 : decode cX2_hearKnock 39 = .ok (.iload_n 3, 1) := by decide +kernel
theorem dX2_hearKnock_40 : decode cX2_hearKnock 40 = .ok (.iload 4, 2) := by decide +kernel
theorem dX2_hearKnock_42 : decode cX2_hearKnock 42 = .ok (.invokevirtual 95, 3) := by decide +kernel
theorem dX2_hearKnock_45 : decode cX2_hearKnock 45 = .ok (.goto 10, 3) := by decide +kernel
theorem dX2_hearKnock_48 : decode cX2_hearKnock 48 = .ok (.aload_n 0, 1) := by decide +kernel
theorem dX2_hearKnock_49 : decode cX2_hearKnock 49 = .ok (.getfield 9, 3) := by decide +kernel
theorem dX2_hearKnock_52 : decode cX2_hearKnock 52 = .ok (.iload 6, 2) := by decide +kernel
theorem dX2_hearKnock_54 : decode cX2_hearKnock 54 = .ok (.iaload, 1) := by decide +kernel
theorem dX2_hearKnock_55 : decode cX2_hearKnock 55 = .ok (.istore 7, 2) := by decide +kernel
theorem dX2_hearKnock_57 : decode cX2_hearKnock 57 = .ok (.iload 7, 2) := by decide +kernel
theorem dX2_hearKnock_59 : decode cX2_hearKnock 59 = .ok (.aload_n 0, 1) := by decide +kernel
theorem dX2_hearKnock_60 : decode cX2_hearKnock 60 = .ok (.getfield 9, 3) := by decide +kernel
theorem dX2_hearKnock_63 : decode cX2_hearKnock 63 = .ok (.iload 6, 2) := by decide +kernel
theorem dX2_hearKnock_65 : decode cX2_hearKnock 65 = .ok (.iaload, 1) := by decide +kernel
theorem dX2_hearKnock_66 : decode cX2_hearKnock 66 = .ok (.if_icmp .eq 33, 3) := by decide +kernel
theorem dX2_hearKnock_69 : decode cX2_hearKnock 69 = .ok (.aload_n 0, 1) := by decide +kernel
theorem dX2_hearKnock_70 : decode cX2_hearKnock 70 = .ok (.aload_n 1, 1) := by decide +kernel
theorem dX2_hearKnock_71 : decode cX2_hearKnock 71 = .ok (.iload 6, 2) := by decide +kernel
theorem dX2_hearKnock_73 : decode cX2_hearKnock 73 = .ok (.iload 7, 2) := by decide +kernel
theorem dX2_hearKnock_75 : decode cX2_hearKnock 75 = .ok (.iload_n 2, 1) := by decide +kernel
theorem dX2_hearKnock_76 : decode cX2_hearKnock 76 = .ok (.invokevirtual 99, 3) := by decide +kernel
theorem dX2_hearKnock_79 : decode cX2_hearKnock 79 = .ok (.aload_n 0, 1) := by decide +kernel
theorem dX2_hearKnock_80 : decode cX2_hearKnock 80 = .ok (.getfield 21, 3) := by decide +kernel
theorem dX2_hearKnock_83 : decode cX2_hearKnock 83 = .ok (.iload 6, 2) := by decide +kernel
theorem dX2_hearKnock_85 : decode cX2_hearKnock 85 = .ok (.dup2, 1) := by decide +kernel
theorem dX2_hearKnock_86 : decode cX2_hearKnock 86 = .ok (.iaload, 1) := by decide +kernel
theorem dX2_hearKnock_87 : decode cX2_hearKnock 87 = .ok (.iconst 1, 1) := by decide +kernel
theorem dX2_hearKnock_88 : decode cX2_hearKnock 88 = .ok (.iadd, 1) := by decide +kernel
theorem dX2_hearKnock_89 : decode cX2_hearKnock 89 = .ok (.iastore, 1) := by decide +kernel
theorem dX2_hearKnock_90 : decode cX2_hearKnock 90 = .ok (.iload 5, 2) := by decide +kernel
theorem dX2_hearKnock_92 : decode cX2_hearKnock 92 = .ok (.iconst 1, 1) := by decide +kernel
theorem dX2_hearKnock_93 : decode cX2_hearKnock 93 = .ok (.iload 6, 2) := by decide +kernel
theorem dX2_hearKnock_95 : decode cX2_hearKnock 95 = .ok (.ishl, 1) := by decide +kernel
theorem dX2_hearKnock_96 : decode cX2_hearKnock 96 = .ok (.ior, 1) := by decide +kernel
theorem dX2_hearKnock_97 : decode cX2_hearKnock 97 = .ok (.istore 5, 2) := by decide +kernel
theorem dX2_hearKnock_99 : decode cX2_hearKnock 99 = .ok (.iinc 6 1, 3) := by decide +kernel
theorem dX2_hearKnock_102 : decode cX2_hearKnock 102 = .ok (.goto (-96), 3) := by decide +kernel
theorem dX2_hearKnock_105 : decode cX2_hearKnock 105 = .ok (.iload 5, 2) := by decide +kernel
theorem dX2_hearKnock_107 : decode cX2_hearKnock 107 = .ok (.ireturn, 1) := by decide +kernel
theorem dX2_hearToldKnocks_0 : decode cX2_hearToldKnocks 0 = .ok (.aload_n 1, 1) := by decide +kernel
theorem dX2_hearToldKnocks_1 : decode cX2_hearToldKnocks 1 = .ok (.getfield 70, 3) := by decide +kernel
theorem dX2_hearToldKnocks_4 : decode cX2_hearToldKnocks 4 = .ok (.astore_n 2, 1) := by decide +kernel
theorem dX2_hearToldKnocks_5 : decode cX2_hearToldKnocks 5 = .ok (.iconst 0, 1) := by decide +kernel
theorem dX2_hearToldKnocks_6 : decode cX2_hearToldKnocks 6 = .ok (.istore_n 3, 1) := by decide +kernel
theorem dX2_hearToldKnocks_7 : decode cX2_hearToldKnocks 7 = .ok (.iload_n 3, 1) := by decide +kernel
theorem dX2_hearToldKnocks_8 : decode cX2_hearToldKnocks 8 = .ok (.aload_n 2, 1) := by decide +kernel
theorem dX2_hearToldKnocks_9 : decode cX2_hearToldKnocks 9 = .ok (.getfield 54, 3) := by decide +kernel
theorem dX2_hearToldKnocks_12 : decode cX2_hearToldKnocks 12 = .ok (.if_icmp .ge 46, 3) := by decide +kernel
theorem dX2_hearToldKnocks_15 : decode cX2_hearToldKnocks 15 = .ok (.aload_n 1, 1) := by decide +kernel
theorem dX2_hearToldKnocks_16 : decode cX2_hearToldKnocks 16 = .ok (.iload_n 3, 1) := by decide +kernel
theorem dX2_hearToldKnocks_17 : decode cX2_hearToldKnocks 17 = .ok (.invokevirtual 73, 3) := by decide +kernel
theorem dX2_hearToldKnocks_20 : decode cX2_hearToldKnocks 20 = .ok (.aload_n 0, 1) := by decide +kernel
theorem dX2_hearToldKnocks_21 : decode cX2_hearToldKnocks 21 = .ok (.getfield 31, 3) := by decide +kernel
theorem dX2_hearToldKnocks_24 : decode cX2_hearToldKnocks 24 = .ok (.lcmp, 1) := by decide +kernel
theorem dX2_hearToldKnocks_25 : decode cX2_hearToldKnocks 25 = .ok (.ifCond .ne 27, 3) := by decide +kernel
theorem dX2_hearToldKnocks_28 : decode cX2_hearToldKnocks 28 = .ok (.aload_n 0, 1) := by decide +kernel
theorem dX2_hearToldKnocks_29 : decode cX2_hearToldKnocks 29 = .ok (.aload_n 1, 1) := by decide +kernel
theorem dX2_hearToldKnocks_30 : decode cX2_hearToldKnocks 30 = .ok (.aload_n 2, 1) := by decide +kernel
theorem dX2_hearToldKnocks_31 : decode cX2_hearToldKnocks 31 = .ok (.iload_n 3, 1) := by decide +kernel
theorem dX2_hearToldKnocks_32 : decode cX2_hearToldKnocks 32 = .ok (.iconst 0, 1) := by decide +kernel
theorem dX2_hearToldKnocks_33 : decode cX2_hearToldKnocks 33 = .ok (.invokevirtual 84, 3) := by decide +kernel
theorem dX2_hearToldKnocks_36 : decode cX2_hearToldKnocks 36 = .ok (.aload_n 2, 1) := by decide +kernel
theorem dX2_hearToldKnocks_37 : decode cX2_hearToldKnocks 37 = .ok (.iload_n 3, 1) := by decide +kernel
theorem dX2_hearToldKnocks_38 : decode cX2_hearToldKnocks 38 = .ok (.iconst 1, 1) := by decide +kernel
theorem dX2_hearToldKnocks_39 : decode cX2_hearToldKnocks 39 = .ok (.invokevirtual 84, 3) := by decide +kernel
theorem dX2_hearToldKnocks_42 : decode cX2_hearToldKnocks 42 = .ok (.aload_n 2, 1) := by decide +kernel
theorem dX2_hearToldKnocks_43 : decode cX2_hearToldKnocks 43 = .ok (.iload_n 3, 1) := by decide +kernel
theorem dX2_hearToldKnocks_44 : decode cX2_hearToldKnocks 44 = .ok (.iconst 3, 1) := by decide +kernel
theorem dX2_hearToldKnocks_45 : decode cX2_hearToldKnocks 45 = .ok (.invokevirtual 84, 3) := by decide +kernel
theorem dX2_hearToldKnocks_48 : decode cX2_hearToldKnocks 48 = .ok (.invokevirtual 91, 3) := by decide +kernel
theorem dX2_hearToldKnocks_51 : decode cX2_hearToldKnocks 51 = .ok (.pop, 1) := by decide +kernel
theorem dX2_hearToldKnocks_52 : decode cX2_hearToldKnocks 52 = .ok (.iinc 3 1, 3) := by decide +kernel
theorem dX2_hearToldKnocks_55 : decode cX2_hearToldKnocks 55 = .ok (.goto (-48), 3) := by decide +kernel
theorem dX2_hearToldKnocks_58 : decode cX2_hearToldKnocks 58 = .ok (.return_, 1) := by decide +kernel
theorem dX2_runTo_0 : decode cX2_runTo 0 = .ok (.iconst 0, 1) := by decide +kernel
theorem dX2_runTo_1 : decode cX2_runTo 1 = .ok (.istore 4, 2) := by decide +kernel
theorem dX2_runTo_3 : decode cX2_runTo 3 = .ok (.iload 4, 2) := by decide +kernel
theorem dX2_runTo_5 : decode cX2_runTo 5 = .ok (.bipush 28, 2) := by decide +kernel
theorem dX2_runTo_7 : decode cX2_runTo 7 = .ok (.if_icmp .gt 42, 3) := by decide +kernel
theorem dX2_runTo_10 : decode cX2_runTo 10 = .ok (.aload_n 0, 1) := by decide +kernel
theorem dX2_runTo_11 : decode cX2_runTo 11 = .ok (.aload_n 1, 1) := by decide +kernel
theorem dX2_runTo_12 : decode cX2_runTo 12 = .ok (.invokevirtual 39, 3) := by decide +kernel
theorem dX2_runTo_15 : decode cX2_runTo 15 = .ok (.lstore 5, 2) := by decide +kernel
theorem dX2_runTo_17 : decode cX2_runTo 17 = .ok (.lload 5, 2) := by decide +kernel
theorem dX2_runTo_19 : decode cX2_runTo 19 = .ok (.lload_n 2, 1) := by decide +kernel
theorem dX2_runTo_20 : decode cX2_runTo 20 = .ok (.lcmp, 1) := by decide +kernel
theorem dX2_runTo_21 : decode cX2_runTo 21 = .ok (.ifCond .le 6, 3) := by decide +kernel
theorem dX2_runTo_24 : decode cX2_runTo 24 = .ok (.goto 25, 3) := by decide +kernel
theorem dX2_runTo_27 : decode cX2_runTo 27 = .ok (.aload_n 0, 1) := by decide +kernel
theorem dX2_runTo_28 : decode cX2_runTo 28 = .ok (.lload 5, 2) := by decide +kernel
theorem dX2_runTo_30 : decode cX2_runTo 30 = .ok (.putfield 31, 3) := by decide +kernel
theorem dX2_runTo_33 : decode cX2_runTo 33 = .ok (.aload_n 0, 1) := by decide +kernel
theorem dX2_runTo_34 : decode cX2_runTo 34 = .ok (.aload_n 1, 1) := by decide +kernel
theorem dX2_runTo_35 : decode cX2_runTo 35 = .ok (.invokevirtual 43, 3) := by decide +kernel
theorem dX2_runTo_38 : decode cX2_runTo 38 = .ok (.aload_n 0, 1) := by decide +kernel
theorem dX2_runTo_39 : decode cX2_runTo 39 = .ok (.aload_n 1, 1) := by decide +kernel
theorem dX2_runTo_40 : decode cX2_runTo 40 = .ok (.invokevirtual 35, 3) := by decide +kernel
theorem dX2_runTo_43 : decode cX2_runTo 43 = .ok (.iinc 4 1, 3) := by decide +kernel
theorem dX2_runTo_46 : decode cX2_runTo 46 = .ok (.goto (-43), 3) := by decide +kernel
theorem dX2_runTo_49 : decode cX2_runTo 49 = .ok (.aload_n 0, 1) := by decide +kernel
theorem dX2_runTo_50 : decode cX2_runTo 50 = .ok (.lload_n 2, 1) := by decide +kernel
theorem dX2_runTo_51 : decode cX2_runTo 51 = .ok (.putfield 31, 3) := by decide +kernel
theorem dX2_runTo_54 : decode cX2_runTo 54 = .ok (.return_, 1) := by decide +kernel
theorem dX2_livedBy_0 : decode cX2_livedBy 0 = .ok (.aload_n 0, 1) := by decide +kernel
theorem dX2_livedBy_1 : decode cX2_livedBy 1 = .ok (.getfield 28, 3) := by decide +kernel
theorem dX2_livedBy_4 : decode cX2_livedBy 4 = .ok (.iload_n 2, 1) := by decide +kernel
theorem dX2_livedBy_5 : decode cX2_livedBy 5 = .ok (.laload, 1) := by decide +kernel
theorem dX2_livedBy_6 : decode cX2_livedBy 6 = .ok (.aload_n 0, 1) := by decide +kernel
theorem dX2_livedBy_7 : decode cX2_livedBy 7 = .ok (.getfield 31, 3) := by decide +kernel
theorem dX2_livedBy_10 : decode cX2_livedBy 10 = .ok (.aload_n 0, 1) := by decide +kernel
theorem dX2_livedBy_11 : decode cX2_livedBy 11 = .ok (.getfield 24, 3) := by decide +kernel
theorem dX2_livedBy_14 : decode cX2_livedBy 14 = .ok (.iload_n 2, 1) := by decide +kernel
theorem dX2_livedBy_15 : decode cX2_livedBy 15 = .ok (.laload, 1) := by decide +kernel
theorem dX2_livedBy_16 : decode cX2_livedBy 16 = .ok (.lsub, 1) := by decide +kernel
theorem dX2_livedBy_17 : decode cX2_livedBy 17 = .ok (.aload_n 1, 1) := by decide +kernel
theorem dX2_livedBy_18 : decode cX2_livedBy 18 = .ok (.aload_n 0, 1) := by decide +kernel
theorem dX2_livedBy_19 : decode cX2_livedBy 19 = .ok (.getfield 9, 3) := by decide +kernel
theorem dX2_livedBy_22 : decode cX2_livedBy 22 = .ok (.iload_n 2, 1) := by decide +kernel
theorem dX2_livedBy_23 : decode cX2_livedBy 23 = .ok (.iaload, 1) := by decide +kernel
theorem dX2_livedBy_24 : decode cX2_livedBy 24 = .ok (.invokevirtual 107, 3) := by decide +kernel
theorem dX2_livedBy_27 : decode cX2_livedBy 27 = .ok (.i2l, 1) := by decide +kernel
theorem dX2_livedBy_28 : decode cX2_livedBy 28 = .ok (.lmul, 1) := by decide +kernel
theorem dX2_livedBy_29 : decode cX2_livedBy 29 = .ok (.ladd, 1) := by decide +kernel
theorem dX2_livedBy_30 : decode cX2_livedBy 30 = .ok (.lreturn, 1) := by decide +kernel
theorem dX2_haveMet_0 : decode cX2_haveMet 0 = .ok (.aload_n 0, 1) := by decide +kernel
theorem dX2_haveMet_1 : decode cX2_haveMet 1 = .ok (.getfield 9, 3) := by decide +kernel
theorem dX2_haveMet_4 : decode cX2_haveMet 4 = .ok (.iload_n 1, 1) := by decide +kernel
theorem dX2_haveMet_5 : decode cX2_haveMet 5 = .ok (.iaload, 1) := by decide +kernel
theorem dX2_haveMet_6 : decode cX2_haveMet 6 = .ok (.ifCond .le 37, 3) := by decide +kernel
theorem dX2_haveMet_9 : decode cX2_haveMet 9 = .ok (.aload_n 0, 1) := by decide +kernel
theorem dX2_haveMet_10 : decode cX2_haveMet 10 = .ok (.getfield 9, 3) := by decide +kernel
theorem dX2_haveMet_13 : decode cX2_haveMet 13 = .ok (.iload_n 1, 1) := by decide +kernel
theorem dX2_haveMet_14 : decode cX2_haveMet 14 = .ok (.iaload, 1) := by decide +kernel
theorem dX2_haveMet_15 : decode cX2_haveMet 15 = .ok (.aload_n 0, 1) := by decide +kernel
theorem dX2_haveMet_16 : decode cX2_haveMet 16 = .ok (.getfield 9, 3) := by decide +kernel
theorem dX2_haveMet_19 : decode cX2_haveMet 19 = .ok (.iload_n 2, 1) := by decide +kernel
theorem dX2_haveMet_20 : decode cX2_haveMet 20 = .ok (.iaload, 1) := by decide +kernel
theorem dX2_haveMet_21 : decode cX2_haveMet 21 = .ok (.if_icmp .ne 22, 3) := by decide +kernel
theorem dX2_haveMet_24 : decode cX2_haveMet 24 = .ok (.aload_n 0, 1) := by decide +kernel
theorem dX2_haveMet_25 : decode cX2_haveMet 25 = .ok (.getfield 15, 3) := by decide +kernel
theorem dX2_haveMet_28 : decode cX2_haveMet 28 = .ok (.iload_n 1, 1) := by decide +kernel
theorem dX2_haveMet_29 : decode cX2_haveMet 29 = .ok (.iaload, 1) := by decide +kernel
theorem dX2_haveMet_30 : decode cX2_haveMet 30 = .ok (.aload_n 0, 1) := by decide +kernel
theorem dX2_haveMet_31 : decode cX2_haveMet 31 = .ok (.getfield 15, 3) := by decide +kernel
theorem dX2_haveMet_34 : decode cX2_haveMet 34 = .ok (.iload_n 2, 1) := by decide +kernel
theorem dX2_haveMet_35 : decode cX2_haveMet 35 = .ok (.iaload, 1) := by decide +kernel
theorem dX2_haveMet_36 : decode cX2_haveMet 36 = .ok (.if_icmp .ne 7, 3) := by decide +kernel
theorem dX2_haveMet_39 : decode cX2_haveMet 39 = .ok (.iconst 1, 1) := by decide +kernel
theorem dX2_haveMet_40 : decode cX2_haveMet 40 = .ok (.goto 4, 3) := by decide +kernel
theorem dX2_haveMet_43 : decode cX2_haveMet 43 = .ok (.iconst 0, 1) := by decide +kernel
theorem dX2_haveMet_44 : decode cX2_haveMet 44 = .ok (.ireturn, 1) := by decide +kernel
theorem dX2_companyOf_0 : decode cX2_companyOf 0 = .ok (.iconst 0, 1) := by decide +kernel
theorem dX2_companyOf_1 : decode cX2_companyOf 1 = .ok (.istore_n 3, 1) := by decide +kernel
theorem dX2_companyOf_2 : decode cX2_companyOf 2 = .ok (.iconst 0, 1) := by decide +kernel
theorem dX2_companyOf_3 : decode cX2_companyOf 3 = .ok (.istore 4, 2) := by decide +kernel
theorem dX2_companyOf_5 : decode cX2_companyOf 5 = .ok (.iload 4, 2) := by decide +kernel
theorem dX2_companyOf_7 : decode cX2_companyOf 7 = .ok (.aload_n 1, 1) := by decide +kernel
theorem dX2_companyOf_8 : decode cX2_companyOf 8 = .ok (.getfield 48, 3) := by decide +kernel
theorem dX2_companyOf_11 : decode cX2_companyOf 11 = .ok (.getfield 54, 3) := by decide +kernel
theorem dX2_companyOf_14 : decode cX2_companyOf 14 = .ok (.if_icmp .ge 22, 3) := by decide +kernel
theorem dX2_companyOf_17 : decode cX2_companyOf 17 = .ok (.aload_n 0, 1) := by decide +kernel
theorem dX2_companyOf_18 : decode cX2_companyOf 18 = .ok (.iload_n 2, 1) := by decide +kernel
theorem dX2_companyOf_19 : decode cX2_companyOf 19 = .ok (.iload 4, 2) := by decide +kernel
theorem dX2_companyOf_21 : decode cX2_companyOf 21 = .ok (.invokevirtual 117, 3) := by decide +kernel
theorem dX2_companyOf_24 : decode cX2_companyOf 24 = .ok (.ifCond .eq 6, 3) := by decide +kernel
theorem dX2_companyOf_27 : decode cX2_companyOf 27 = .ok (.iinc 3 1, 3) := by decide +kernel
theorem dX2_companyOf_30 : decode cX2_companyOf 30 = .ok (.iinc 4 1, 3) := by decide +kernel
theorem dX2_companyOf_33 : decode cX2_companyOf 33 = .ok (.goto (-28), 3) := by decide +kernel
theorem dX2_companyOf_36 : decode cX2_companyOf 36 = .ok (.iload_n 3, 1) := by decide +kernel
theorem dX2_companyOf_37 : decode cX2_companyOf 37 = .ok (.ireturn, 1) := by decide +kernel
