theorem dX1_need_0 : decode cX1_need 0 = .ok (.iload_n 1, 1) := by decide +kernel
theorem dX1_need_1 : decode cX1_need 1 = .ok (.iconst 1, 1) := by decide +kernel
theorem dX1_need_2 : decode cX1_need 2 = .ok (.if_icmp .lt 8, 3) := by decide +kernel
theorem dX1_need_5 : decode cX1_need 5 = .ok (.iload_n 1, 1) := by decide +kernel
theorem dX1_need_6 : decode cX1_need 6 = .ok (.iconst 4, 1) := by decide +kernel
theorem dX1_need_7 : decode cX1_need 7 = .ok (.if_icmp .le 4, 3) := by decide +kernel
theorem dX1_need_10 : decode cX1_need 10 = .ok (.return_, 1) := by decide +kernel
theorem dX1_need_11 : decode cX1_need 11 = .ok (.iload_n 2, 1) := by decide +kernel
theorem dX1_need_12 : decode cX1_need 12 = .ok (.i2l, 1) := by decide +kernel
theorem dX1_need_13 : decode cX1_need 13 = .ok (.iload_n 3, 1) := by decide +kernel
theorem dX1_need_14 : decode cX1_need 14 = .ok (.i2l, 1) := by decide +kernel
theorem dX1_need_15 : decode cX1_need 15 = .ok (.invokestatic 49, 3) := by decide +kernel
theorem dX1_need_18 : decode cX1_need 18 = .ok (.l2i, 1) := by decide +kernel
theorem dX1_need_19 : decode cX1_need 19 = .ok (.istore 4, 2) := by decide +kernel
theorem dX1_need_21 : decode cX1_need 21 = .ok (.iload 4, 2) := by decide +kernel
theorem dX1_need_23 : decode cX1_need 23 = .ok (.iload_n 3, 1) := by decide +kernel
theorem dX1_need_24 : decode cX1_need 24 = .ok (.imul, 1) := by decide +kernel
theorem dX1_need_25 : decode cX1_need 25 = .ok (.iload_n 2, 1) := by decide +kernel
theorem dX1_need_26 : decode cX1_need 26 = .ok (.if_icmp .ne 7, 3) := by decide +kernel
theorem dX1_need_29 : decode cX1_need 29 = .ok (.iconst 1, 1) := by decide +kernel
theorem dX1_need_30 : decode cX1_need 30 = .ok (.goto 4, 3) := by decide +kernel
theorem dX1_need_33 : decode cX1_need 33 = .ok (.iconst 0, 1) := by decide +kernel
theorem dX1_need_34 : decode cX1_need 34 = .ok (.istore 5, 2) := by decide +kernel
theorem dX1_need_36 : decode cX1_need 36 = .ok (.aload_n 0, 1) := by decide +kernel
theorem dX1_need_37 : decode cX1_need 37 = .ok (.getfield 15, 3) := by decide +kernel
theorem dX1_need_40 : decode cX1_need 40 = .ok (.iload_n 1, 1) := by decide +kernel
theorem dX1_need_41 : decode cX1_need 41 = .ok (.iaload, 1) := by decide +kernel
theorem dX1_need_42 : decode cX1_need 42 = .ok (.ifCond .eq 14, 3) := by decide +kernel
theorem dX1_need_45 : decode cX1_need 45 = .ok (.aload_n 0, 1) := by decide +kernel
theorem dX1_need_46 : decode cX1_need 46 = .ok (.getfield 15, 3) := by decide +kernel
theorem dX1_need_49 : decode cX1_need 49 = .ok (.iload_n 1, 1) := by decide +kernel
theorem dX1_need_50 : decode cX1_need 50 = .ok (.iaload, 1) := by decide +kernel
theorem dX1_need_51 : decode cX1_need 51 = .ok (.iload 4, 2) := by decide +kernel
theorem dX1_need_53 : decode cX1_need 53 = .ok (.if_icmp .ne 7, 3) := by decide +kernel
theorem dX1_need_56 : decode cX1_need 56 = .ok (.iconst 1, 1) := by decide +kernel
theorem dX1_need_57 : decode cX1_need 57 = .ok (.goto 4, 3) := by decide +kernel
theorem dX1_need_60 : decode cX1_need 60 = .ok (.iconst 0, 1) := by decide +kernel
theorem dX1_need_61 : decode cX1_need 61 = .ok (.istore 6, 2) := by decide +kernel
theorem dX1_need_63 : decode cX1_need 63 = .ok (.aload_n 0, 1) := by decide +kernel
theorem dX1_need_64 : decode cX1_need 64 = .ok (.getfield 15, 3) := by decide +kernel
theorem dX1_need_67 : decode cX1_need 67 = .ok (.iload_n 1, 1) := by decide +kernel
theorem dX1_need_68 : decode cX1_need 68 = .ok (.iload 5, 2) := by decide +kernel
theorem dX1_need_70 : decode cX1_need 70 = .ok (.ifCond .eq 13, 3) := by decide +kernel
theorem dX1_need_73 : decode cX1_need 73 = .ok (.iload 6, 2) := by decide +kernel
theorem dX1_need_75 : decode cX1_need 75 = .ok (.ifCond .eq 8, 3) := by decide +kernel
theorem dX1_need_78 : decode cX1_need 78 = .ok (.iload 4, 2) := by decide +kernel
theorem dX1_need_80 : decode cX1_need 80 = .ok (.goto 4, 3) := by decide +kernel
theorem dX1_need_83 : decode cX1_need 83 = .ok (.iconst (-1), 1) := by decide +kernel
theorem dX1_need_84 : decode cX1_need 84 = .ok (.iastore, 1) := by decide +kernel
theorem dX1_need_85 : decode cX1_need 85 = .ok (.return_, 1) := by decide +kernel
theorem dX1_countFrom_0 : decode cX1_countFrom 0 = .ok (.iload_n 2, 1) := by decide +kernel
theorem dX1_countFrom_1 : decode cX1_countFrom 1 = .ok (.aload_n 1, 1) := by decide +kernel
theorem dX1_countFrom_2 : decode cX1_countFrom 2 = .ok (.getfield 53, 3) := by decide +kernel
theorem dX1_countFrom_5 : decode cX1_countFrom 5 = .ok (.if_icmp .gt 8, 3) := by decide +kernel
theorem dX1_countFrom_8 : decode cX1_countFrom 8 = .ok (.iload_n 2, 1) := by decide +kernel
theorem dX1_countFrom_9 : decode cX1_countFrom 9 = .ok (.iconst 4, 1) := by decide +kernel
theorem dX1_countFrom_10 : decode cX1_countFrom 10 = .ok (.if_icmp .le 5, 3) := by decide +kernel
theorem dX1_countFrom_13 : decode cX1_countFrom 13 = .ok (.iconst 1, 1) := by decide +kernel
theorem dX1_countFrom_14 : decode cX1_countFrom 14 = .ok (.ireturn, 1) := by decide +kernel
theorem dX1_countFrom_15 : decode cX1_countFrom 15 = .ok (.iconst 0, 1) := by decide +kernel
theorem dX1_countFrom_16 : decode cX1_countFrom 16 = .ok (.istore 4, 2) := by decide +kernel
theorem dX1_countFrom_18 : decode cX1_countFrom 18 = .ok (.iconst 2, 1) := by decide +kernel
theorem dX1_countFrom_19 : decode cX1_countFrom 19 = .ok (.istore 5, 2) := by decide +kernel
theorem dX1_countFrom_21 : decode cX1_countFrom 21 = .ok (.iload 5, 2) := by decide +kernel
theorem dX1_countFrom_23 : decode cX1_countFrom 23 = .ok (.bipush 12, 2) := by decide +kernel
theorem dX1_countFrom_25 : decode cX1_countFrom 25 = .ok (.if_icmp .gt 88, 3) := by decide +kernel
theorem dX1_countFrom_28 : decode cX1_countFrom 28 = .ok (.iload_n 3, 1) := by decide +kernel
theorem dX1_countFrom_29 : decode cX1_countFrom 29 = .ok (.iload 5, 2) := by decide +kernel
theorem dX1_countFrom_31 : decode cX1_countFrom 31 = .ok (.imul, 1) := by decide +kernel
theorem dX1_countFrom_32 : decode cX1_countFrom 32 = .ok (.istore 6, 2) := by decide +kernel
theorem dX1_countFrom_34 : decode cX1_countFrom 34 = .ok (.aload_n 0, 1) := by decide +kernel
theorem dX1_countFrom_35 : decode cX1_countFrom 35 = .ok (.getfield 15, 3) := by decide +kernel
theorem dX1_countFrom_38 : decode cX1_countFrom 38 = .ok (.iload_n 2, 1) := by decide +kernel
theorem dX1_countFrom_39 : decode cX1_countFrom 39 = .ok (.iaload, 1) := by decide +kernel
theorem dX1_countFrom_40 : decode cX1_countFrom 40 = .ok (.ifCond .eq 14, 3) := by decide +kernel
theorem dX1_countFrom_43 : decode cX1_countFrom 43 = .ok (.aload_n 0, 1) := by decide +kernel
theorem dX1_countFrom_44 : decode cX1_countFrom 44 = .ok (.getfield 15, 3) := by decide +kernel
theorem dX1_countFrom_47 : decode cX1_countFrom 47 = .ok (.iload_n 2, 1) := by decide +kernel
theorem dX1_countFrom_48 : decode cX1_countFrom 48 = .ok (.iaload, 1) := by decide +kernel
theorem dX1_countFrom_49 : decode cX1_countFrom 49 = .ok (.iload 6, 2) := by decide +kernel
theorem dX1_countFrom_51 : decode cX1_countFrom 51 = .ok (.if_icmp .ne 7, 3) := by decide +kernel
theorem dX1_countFrom_54 : decode cX1_countFrom 54 = .ok (.iconst 1, 1) := by decide +kernel
theorem dX1_countFrom_55 : decode cX1_countFrom 55 = .ok (.goto 4, 3) := by decide +kernel
theorem dX1_countFrom_58 : decode cX1_countFrom 58 = .ok (.iconst 0, 1) := by decide +kernel
theorem dX1_countFrom_59 : decode cX1_countFrom 59 = .ok (.istore 7, 2) := by decide +kernel
theorem dX1_countFrom_61 : decode cX1_countFrom 61 = .ok (.iload 7, 2) := by decide +kernel
theorem dX1_countFrom_63 : decode cX1_countFrom 63 = .ok (.ifCond .eq 16, 3) := by decide +kernel
theorem dX1_countFrom_66 : decode cX1_countFrom 66 = .ok (.aload_n 0, 1) := by decide +kernel
theorem dX1_countFrom_67 : decode cX1_countFrom 67 = .ok (.aload_n 1, 1) := by decide +kernel
theorem dX1_countFrom_68 : decode cX1_countFrom 68 = .ok (.iload_n 2, 1) := by decide +kernel
theorem dX1_countFrom_69 : decode cX1_countFrom 69 = .ok (.iconst 1, 1) := by decide +kernel
theorem dX1_countFrom_70 : decode cX1_countFrom 70 = .ok (.iadd, 1) := by decide +kernel
theorem dX1_countFrom_71 : decode cX1_countFrom 71 = .ok (.iload 6, 2) := by decide +kernel
theorem dX1_countFrom_73 : decode cX1_countFrom 73 = .ok (.invokevirtual 42, 3) := by decide +kernel
theorem dX1_countFrom_76 : decode cX1_countFrom 76 = .ok (.goto 4, 3) := by decide +kernel
theorem dX1_countFrom_79 : decode cX1_countFrom 79 = .ok (.iconst 0, 1) := by decide +kernel
theorem dX1_countFrom_80 : decode cX1_countFrom 80 = .ok (.istore 8, 2) := by decide +kernel
theorem dX1_countFrom_82 : decode cX1_countFrom 82 = .ok (.iload 8, 2) := by decide +kernel
theorem dX1_countFrom_84 : decode cX1_countFrom 84 = .ok (.ifCond .le 23, 3) := by decide +kernel
theorem dX1_countFrom_87 : decode cX1_countFrom 87 = .ok (.aload_n 0, 1) := by decide +kernel
theorem dX1_countFrom_88 : decode cX1_countFrom 88 = .ok (.getfield 9, 3) := by decide +kernel
theorem dX1_countFrom_91 : decode cX1_countFrom 91 = .ok (.iload_n 2, 1) := by decide +kernel
theorem dX1_countFrom_92 : decode cX1_countFrom 92 = .ok (.dup2, 1) := by decide +kernel
theorem dX1_countFrom_93 : decode cX1_countFrom 93 = .ok (.iaload, 1) := by decide +kernel
theorem dX1_countFrom_94 : decode cX1_countFrom 94 = .ok (.iconst 1, 1) := by decide +kernel
theorem dX1_countFrom_95 : decode cX1_countFrom 95 = .ok (.iload 5, 2) := by decide +kernel
theorem dX1_countFrom_97 : decode cX1_countFrom 97 = .ok (.ishl, 1) := by decide +kernel
theorem dX1_countFrom_98 : decode cX1_countFrom 98 = .ok (.ior, 1) := by decide +kernel
theorem dX1_countFrom_99 : decode cX1_countFrom 99 = .ok (.iastore, 1) := by decide +kernel
theorem dX1_countFrom_100 : decode cX1_countFrom 100 = .ok (.iload 4, 2) := by decide +kernel
theorem dX1_countFrom_102 : decode cX1_countFrom 102 = .ok (.iload 8, 2) := by decide +kernel
theorem dX1_countFrom_104 : decode cX1_countFrom 104 = .ok (.iadd, 1) := by decide +kernel
theorem dX1_countFrom_105 : decode cX1_countFrom 105 = .ok (.istore 4, 2) := by decide +kernel
theorem dX1_countFrom_107 : decode cX1_countFrom 107 = .ok (.iinc 5 1, 3) := by decide +kernel
theorem dX1_countFrom_110 : decode cX1_countFrom 110 = .ok (.goto (-89), 3) := by decide +kernel
theorem dX1_countFrom_113 : decode cX1_countFrom 113 = .ok (.iload 4, 2) := by decide +kernel
theorem dX1_countFrom_115 : decode cX1_countFrom 115 = .ok (.ireturn, 1) := by decide +kernel
theorem dX1_make_0 : decode cX1_make 0 = .ok (.aload_n 0, 1) := by decide +kernel
theorem dX1_make_1 : decode cX1_make 1 = .ok (.getfield 18, 3) := by decide +kernel
theorem dX1_make_4 : decode cX1_make 4 = .ok (.ifCond .eq 4, 3) := by decide +kernel
theorem dX1_make_7 : decode cX1_make 7 = .ok (.return_, 1) := by decide +kernel
theorem dX1_make_8 : decode cX1_make 8 = .ok (.aload_n 0, 1) := by decide +kernel
theorem dX1_make_9 : decode cX1_make 9 = .ok (.iconst 1, 1) := by decide +kernel
theorem dX1_make_10 : decode cX1_make 10 = .ok (.putfield 18, 3) := by decide +kernel
theorem dX1_make_13 : decode cX1_make 13 = .ok (.iconst 0, 1) := by decide +kernel
theorem dX1_make_14 : decode cX1_make 14 = .ok (.istore_n 2, 1) := by decide +kernel
theorem dX1_make_15 : decode cX1_make 15 = .ok (.iload_n 2, 1) := by decide +kernel
theorem dX1_make_16 : decode cX1_make 16 = .ok (.iconst 4, 1) := by decide +kernel
theorem dX1_make_17 : decode cX1_make 17 = .ok (.if_icmp .gt 23, 3) := by decide +kernel
theorem dX1_make_20 : decode cX1_make 20 = .ok (.aload_n 0, 1) := by decide +kernel
theorem dX1_make_21 : decode cX1_make 21 = .ok (.getfield 9, 3) := by decide +kernel
theorem dX1_make_24 : decode cX1_make 24 = .ok (.iload_n 2, 1) := by decide +kernel
theorem dX1_make_25 : decode cX1_make 25 = .ok (.iconst 0, 1) := by decide +kernel
theorem dX1_make_26 : decode cX1_make 26 = .ok (.iastore, 1) := by decide +kernel
theorem dX1_make_27 : decode cX1_make 27 = .ok (.aload_n 0, 1) := by decide +kernel
theorem dX1_make_28 : decode cX1_make 28 = .ok (.getfield 15, 3) := by decide +kernel
theorem dX1_make_31 : decode cX1_make 31 = .ok (.iload_n 2, 1) := by decide +kernel
theorem dX1_make_32 : decode cX1_make 32 = .ok (.iconst 0, 1) := by decide +kernel
theorem dX1_make_33 : decode cX1_make 33 = .ok (.iastore, 1) := by decide +kernel
theorem dX1_make_34 : decode cX1_make 34 = .ok (.iinc 2 1, 3) := by decide +kernel
theorem dX1_make_37 : decode cX1_make 37 = .ok (.goto (-22), 3) := by decide +kernel
theorem dX1_make_40 : decode cX1_make 40 = .ok (.iconst 0, 1) := by decide +kernel
theorem dX1_make_41 : decode cX1_make 41 = .ok (.istore_n 2, 1) := by decide +kernel
theorem dX1_make_42 : decode cX1_make 42 = .ok (.iload_n 2, 1) := by decide +kernel
theorem dX1_make_43 : decode cX1_make 43 = .ok (.aload_n 1, 1) := by decide +kernel
theorem dX1_make_44 : decode cX1_make 44 = .ok (.getfield 22, 3) := by decide +kernel
theorem dX1_make_47 : decode cX1_make 47 = .ok (.getfield 28, 3) := by decide +kernel
theorem dX1_make_50 : decode cX1_make 50 = .ok (.if_icmp .ge 40, 3) := by decide +kernel
theorem dX1_make_53 : decode cX1_make 53 = .ok (.aload_n 0, 1) := by decide +kernel
theorem dX1_make_54 : decode cX1_make 54 = .ok (.aload_n 1, 1) := by decide +kernel
theorem dX1_make_55 : decode cX1_make 55 = .ok (.getfield 22, 3) := by decide +kernel
theorem dX1_make_58 : decode cX1_make 58 = .ok (.iload_n 2, 1) := by decide +kernel
theorem dX1_make_59 : decode cX1_make 59 = .ok (.iconst 1, 1) := by decide +kernel
theorem dX1_make_60 : decode cX1_make 60 = .ok (.invokevirtual 34, 3) := by decide +kernel
theorem dX1_make_63 : decode cX1_make 63 = .ok (.aload_n 1, 1) := by decide +kernel
theorem dX1_make_64 : decode cX1_make 64 = .ok (.getfield 22, 3) := by decide +kernel
theorem dX1_make_67 : decode cX1_make 67 = .ok (.iload_n 2, 1) := by decide +kernel
theorem dX1_make_68 : decode cX1_make 68 = .ok (.iconst 0, 1) := by decide +kernel
theorem dX1_make_69 : decode cX1_make 69 = .ok (.invokevirtual 34, 3) := by decide +kernel
theorem dX1_make_72 : decode cX1_make 72 = .ok (.aload_n 1, 1) := by decide +kernel
theorem dX1_make_73 : decode cX1_make 73 = .ok (.getfield 22, 3) := by decide +kernel
theorem dX1_make_76 : decode cX1_make 76 = .ok (.iload_n 2, 1) := by decide +kernel
theorem dX1_make_77 : decode cX1_make 77 = .ok (.iconst 2, 1) := by decide +kernel
theorem dX1_make_78 : decode cX1_make 78 = .ok (.invokevirtual 34, 3) := by decide +kernel
theorem dX1_make_81 : decode cX1_make 81 = .ok (.invokevirtual 38, 3) := by decide +kernel
theorem dX1_make_84 : decode cX1_make 84 = .ok (.iinc 2 1, 3) := by decide +kernel
theorem dX1_make_87 : decode cX1_make 87 = .ok (.goto (-45), 3) := by decide +kernel
theorem dX1_make_90 : decode cX1_make 90 = .ok (.aload_n 0, 1) := by decide +kernel
theorem dX1_make_91 : decode cX1_make 91 = .ok (.aload_n 0, 1) := by decide +kernel
theorem dX1_make_92 : decode cX1_make 92 = .ok (.aload_n 1, 1) := by decide +kernel
theorem dX1_make_93 : decode cX1_make 93 = .ok (.iconst 1, 1) := by decide +kernel
theorem dX1_make_94 : decode cX1_make 94 = .ok (.iconst 1, 1) := by decide +kernel
theorem dX1_make_95 : decode cX1_make 95 = .ok (.invokevirtual 42, 3) := by decide +kernel
theorem dX1_make_98 : decode cX1_make 98 = .ok (.putfield 46, 3) := by decide +kernel
theorem dX1_make_101 : decode cX1_make 101 = .ok (.return_, 1) := by decide +kernel
theorem dX1_onlyRate_0 : decode cX1_onlyRate 0 = .ok (.iload_n 1, 1) := by decide +kernel
theorem dX1_onlyRate_1 : decode cX1_onlyRate 1 = .ok (.iconst 1, 1) := by decide +kernel
theorem dX1_onlyRate_2 : decode cX1_onlyRate 2 = .ok (.if_icmp .lt 8, 3) := by decide +kernel
theorem dX1_onlyRate_5 : decode cX1_onlyRate 5 = .ok (.iload_n 1, 1) := by decide +kernel
theorem dX1_onlyRate_6 : decode cX1_onlyRate 6 = .ok (.iconst 4, 1) := by decide +kernel
theorem dX1_onlyRate_7 : decode cX1_onlyRate 7 = .ok (.if_icmp .le 6, 3) := by decide +kernel
theorem dX1_onlyRate_10 : decode cX1_onlyRate 10 = .ok (.bipush (-2), 2) := by decide +kernel
theorem dX1_onlyRate_12 : decode cX1_onlyRate 12 = .ok (.ireturn, 1) := by decide +kernel
theorem dX1_onlyRate_13 : decode cX1_onlyRate 13 = .ok (.iconst 2, 1) := by decide +kernel
theorem dX1_onlyRate_14 : decode cX1_onlyRate 14 = .ok (.istore_n 2, 1) := by decide +kernel
theorem dX1_onlyRate_15 : decode cX1_onlyRate 15 = .ok (.iload_n 2, 1) := by decide +kernel
theorem dX1_onlyRate_16 : decode cX1_onlyRate 16 = .ok (.bipush 12, 2) := by decide +kernel
theorem dX1_onlyRate_18 : decode cX1_onlyRate 18 = .ok (.if_icmp .gt 23, 3) := by decide +kernel
theorem dX1_onlyRate_21 : decode cX1_onlyRate 21 = .ok (.aload_n 0, 1) := by decide +kernel
theorem dX1_onlyRate_22 : decode cX1_onlyRate 22 = .ok (.getfield 9, 3) := by decide +kernel
theorem dX1_onlyRate_25 : decode cX1_onlyRate 25 = .ok (.iload_n 1, 1) := by decide +kernel
theorem dX1_onlyRate_26 : decode cX1_onlyRate 26 = .ok (.iaload, 1) := by decide +kernel
theorem dX1_onlyRate_27 : decode cX1_onlyRate 27 = .ok (.iconst 1, 1) := by decide +kernel
theorem dX1_onlyRate_28 : decode cX1_onlyRate 28 = .ok (.iload_n 2, 1) := by decide +kernel
theorem dX1_onlyRate_29 : decode cX1_onlyRate 29 = .ok (.ishl, 1) := by decide +kernel
theorem dX1_onlyRate_30 : decode cX1_onlyRate 30 = .ok (.if_icmp .ne 5, 3) := by decide +kernel
theorem dX1_onlyRate_33 : decode cX1_onlyRate 33 = .ok (.iload_n 2, 1) := by decide +kernel
theorem dX1_onlyRate_34 : decode cX1_onlyRate 34 = .ok (.ireturn, 1) := by decide +kernel
theorem dX1_onlyRate_35 : decode cX1_onlyRate 35 = .ok (.iinc 2 1, 3) := by decide +kernel
theorem dX1_onlyRate_38 : decode cX1_onlyRate 38 = .ok (.goto (-23), 3) := by decide +kernel
theorem dX1_onlyRate_41 : decode cX1_onlyRate 41 = .ok (.bipush (-2), 2) := by decide +kernel
theorem dX1_onlyRate_43 : decode cX1_onlyRate 43 = .ok (.ireturn, 1) := by decide +kernel
