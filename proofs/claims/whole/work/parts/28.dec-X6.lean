theorem dX6_gather_0 : decode cX6_gather 0 = .ok (.iconst 0, 1) := by decide +kernel
theorem dX6_gather_1 : decode cX6_gather 1 = .ok (.istore_n 3, 1) := by decide +kernel
theorem dX6_gather_2 : decode cX6_gather 2 = .ok (.aload_n 0, 1) := by decide +kernel
theorem dX6_gather_3 : decode cX6_gather 3 = .ok (.iconst 0, 1) := by decide +kernel
theorem dX6_gather_4 : decode cX6_gather 4 = .ok (.putfield 59, 3) := by decide +kernel
theorem dX6_gather_7 : decode cX6_gather 7 = .ok (.iconst 0, 1) := by decide +kernel
theorem dX6_gather_8 : decode cX6_gather 8 = .ok (.istore 4, 2) := by decide +kernel
theorem dX6_gather_10 : decode cX6_gather 10 = .ok (.iload 4, 2) := by decide +kernel
theorem dX6_gather_12 : decode cX6_gather 12 = .ok (.iconst 5, 1) := by decide +kernel
theorem dX6_gather_13 : decode cX6_gather 13 = .ok (.if_icmp .ge 61, 3) := by decide +kernel
theorem dX6_gather_16 : decode cX6_gather 16 = .ok (.iload_n 2, 1) := by decide +kernel
theorem dX6_gather_17 : decode cX6_gather 17 = .ok (.iload 4, 2) := by decide +kernel
theorem dX6_gather_19 : decode cX6_gather 19 = .ok (.ishr, 1) := by decide +kernel
theorem dX6_gather_20 : decode cX6_gather 20 = .ok (.iconst 1, 1) := by decide +kernel
theorem dX6_gather_21 : decode cX6_gather 21 = .ok (.iand, 1) := by decide +kernel
theorem dX6_gather_22 : decode cX6_gather 22 = .ok (.iconst 1, 1) := by decide +kernel
theorem dX6_gather_23 : decode cX6_gather 23 = .ok (.if_icmp .ne 45, 3) := by decide +kernel
theorem dX6_gather_26 : decode cX6_gather 26 = .ok (.aload_n 0, 1) := by decide +kernel
theorem dX6_gather_27 : decode cX6_gather 27 = .ok (.getfield 15, 3) := by decide +kernel
theorem dX6_gather_30 : decode cX6_gather 30 = .ok (.aload_n 0, 1) := by decide +kernel
theorem dX6_gather_31 : decode cX6_gather 31 = .ok (.getfield 59, 3) := by decide +kernel
theorem dX6_gather_34 : decode cX6_gather 34 = .ok (.iload 4, 2) := by decide +kernel
theorem dX6_gather_36 : decode cX6_gather 36 = .ok (.iastore, 1) := by decide +kernel
theorem dX6_gather_37 : decode cX6_gather 37 = .ok (.iload_n 3, 1) := by decide +kernel
theorem dX6_gather_38 : decode cX6_gather 38 = .ok (.aload_n 1, 1) := by decide +kernel
theorem dX6_gather_39 : decode cX6_gather 39 = .ok (.getfield 62, 3) := by decide +kernel
theorem dX6_gather_42 : decode cX6_gather 42 = .ok (.iload 4, 2) := by decide +kernel
theorem dX6_gather_44 : decode cX6_gather 44 = .ok (.iaload, 1) := by decide +kernel
theorem dX6_gather_45 : decode cX6_gather 45 = .ok (.iconst 1, 1) := by decide +kernel
theorem dX6_gather_46 : decode cX6_gather 46 = .ok (.isub, 1) := by decide +kernel
theorem dX6_gather_47 : decode cX6_gather 47 = .ok (.iconst 3, 1) := by decide +kernel
theorem dX6_gather_48 : decode cX6_gather 48 = .ok (.iand, 1) := by decide +kernel
theorem dX6_gather_49 : decode cX6_gather 49 = .ok (.iconst 2, 1) := by decide +kernel
theorem dX6_gather_50 : decode cX6_gather 50 = .ok (.aload_n 0, 1) := by decide +kernel
theorem dX6_gather_51 : decode cX6_gather 51 = .ok (.getfield 59, 3) := by decide +kernel
theorem dX6_gather_54 : decode cX6_gather 54 = .ok (.imul, 1) := by decide +kernel
theorem dX6_gather_55 : decode cX6_gather 55 = .ok (.ishl, 1) := by decide +kernel
theorem dX6_gather_56 : decode cX6_gather 56 = .ok (.ior, 1) := by decide +kernel
theorem dX6_gather_57 : decode cX6_gather 57 = .ok (.istore_n 3, 1) := by decide +kernel
theorem dX6_gather_58 : decode cX6_gather 58 = .ok (.aload_n 0, 1) := by decide +kernel
theorem dX6_gather_59 : decode cX6_gather 59 = .ok (.dup, 1) := by decide +kernel
theorem dX6_gather_60 : decode cX6_gather 60 = .ok (.getfield 59, 3) := by decide +kernel
theorem dX6_gather_63 : decode cX6_gather 63 = .ok (.iconst 1, 1) := by decide +kernel
theorem dX6_gather_64 : decode cX6_gather 64 = .ok (.iadd, 1) := by decide +kernel
theorem dX6_gather_65 : decode cX6_gather 65 = .ok (.putfield 59, 3) := by decide +kernel
theorem dX6_gather_68 : decode cX6_gather 68 = .ok (.iinc 4 1, 3) := by decide +kernel
theorem dX6_gather_71 : decode cX6_gather 71 = .ok (.goto (-61), 3) := by decide +kernel
theorem dX6_gather_74 : decode cX6_gather 74 = .ok (.iload_n 3, 1) := by decide +kernel
theorem dX6_gather_75 : decode cX6_gather 75 = .ok (.ireturn, 1) := by decide +kernel
theorem dX6_enqueue_0 : decode cX6_enqueue 0 = .ok (.iload_n 1, 1) := by decide +kernel
theorem dX6_enqueue_1 : decode cX6_enqueue 1 = .ok (.ifCond .lt 33, 3) := by decide +kernel
theorem dX6_enqueue_4 : decode cX6_enqueue 4 = .ok (.iload_n 1, 1) := by decide +kernel
theorem dX6_enqueue_5 : decode cX6_enqueue 5 = .ok (.sipush 1024, 3) := by decide +kernel
theorem dX6_enqueue_8 : decode cX6_enqueue 8 = .ok (.if_icmp .ge 26, 3) := by decide +kernel
theorem dX6_enqueue_11 : decode cX6_enqueue 11 = .ok (.aload_n 0, 1) := by decide +kernel
theorem dX6_enqueue_12 : decode cX6_enqueue 12 = .ok (.getfield 37, 3) := by decide +kernel
theorem dX6_enqueue_15 : decode cX6_enqueue 15 = .ok (.sipush 1024, 3) := by decide +kernel
theorem dX6_enqueue_18 : decode cX6_enqueue 18 = .ok (.if_icmp .ge 16, 3) := by decide +kernel
theorem dX6_enqueue_21 : decode cX6_enqueue 21 = .ok (.aload_n 0, 1) := by decide +kernel
theorem dX6_enqueue_22 : decode cX6_enqueue 22 = .ok (.getfield 30, 3) := by decide +kernel
theorem dX6_enqueue_25 : decode cX6_enqueue 25 = .ok (.iload_n 1, 1) := by decide +kernel
theorem dX6_enqueue_26 : decode cX6_enqueue 26 = .ok (.iaload, 1) := by decide +kernel
theorem dX6_enqueue_27 : decode cX6_enqueue 27 = .ok (.aload_n 0, 1) := by decide +kernel
theorem dX6_enqueue_28 : decode cX6_enqueue 28 = .ok (.getfield 33, 3) := by decide +kernel
theorem dX6_enqueue_31 : decode cX6_enqueue 31 = .ok (.if_icmp .ne 4, 3) := by decide +kernel
theorem dX6_enqueue_34 : decode cX6_enqueue 34 = .ok (.return_, 1) := by decide +kernel
theorem dX6_enqueue_35 : decode cX6_enqueue 35 = .ok (.aload_n 0, 1) := by decide +kernel
theorem dX6_enqueue_36 : decode cX6_enqueue 36 = .ok (.getfield 30, 3) := by decide +kernel
theorem dX6_enqueue_39 : decode cX6_enqueue 39 = .ok (.iload_n 1, 1) := by decide +kernel
theorem dX6_enqueue_40 : decode cX6_enqueue 40 = .ok (.aload_n 0, 1) := by decide +kernel
theorem dX6_enqueue_41 : decode cX6_enqueue 41 = .ok (.getfield 33, 3) := by decide +kernel
theorem dX6_enqueue_44 : decode cX6_enqueue 44 = .ok (.iastore, 1) := by decide +kernel
theorem dX6_enqueue_45 : decode cX6_enqueue 45 = .ok (.aload_n 0, 1) := by decide +kernel
theorem dX6_enqueue_46 : decode cX6_enqueue 46 = .ok (.getfield 21, 3) := by decide +kernel
theorem dX6_enqueue_49 : decode cX6_enqueue 49 = .ok (.aload_n 0, 1) := by decide +kernel
theorem dX6_enqueue_50 : decode cX6_enqueue 50 = .ok (.getfield 37, 3) := by decide +kernel
theorem dX6_enqueue_53 : decode cX6_enqueue 53 = .ok (.iload_n 1, 1) := by decide +kernel
theorem dX6_enqueue_54 : decode cX6_enqueue 54 = .ok (.iastore, 1) := by decide +kernel
theorem dX6_enqueue_55 : decode cX6_enqueue 55 = .ok (.aload_n 0, 1) := by decide +kernel
theorem dX6_enqueue_56 : decode cX6_enqueue 56 = .ok (.getfield 24, 3) := by decide +kernel
theorem dX6_enqueue_59 : decode cX6_enqueue 59 = .ok (.aload_n 0, 1) := by decide +kernel
theorem dX6_enqueue_60 : decode cX6_enqueue 60 = .ok (.getfield 37, 3) := by decide +kernel
theorem dX6_enqueue_63 : decode cX6_enqueue 63 = .ok (.iload_n 2, 1) := by decide +kernel
theorem dX6_enqueue_64 : decode cX6_enqueue 64 = .ok (.iastore, 1) := by decide +kernel
theorem dX6_enqueue_65 : decode cX6_enqueue 65 = .ok (.aload_n 0, 1) := by decide +kernel
theorem dX6_enqueue_66 : decode cX6_enqueue 66 = .ok (.getfield 27, 3) := by decide +kernel
theorem dX6_enqueue_69 : decode cX6_enqueue 69 = .ok (.aload_n 0, 1) := by decide +kernel
theorem dX6_enqueue_70 : decode cX6_enqueue 70 = .ok (.getfield 37, 3) := by decide +kernel
theorem dX6_enqueue_73 : decode cX6_enqueue 73 = .ok (.iload_n 3, 1) := by decide +kernel
theorem dX6_enqueue_74 : decode cX6_enqueue 74 = .ok (.iastore, 1) := by decide +kernel
theorem dX6_enqueue_75 : decode cX6_enqueue 75 = .ok (.aload_n 0, 1) := by decide +kernel
theorem dX6_enqueue_76 : decode cX6_enqueue 76 = .ok (.dup, 1) := by decide +kernel
theorem dX6_enqueue_77 : decode cX6_enqueue 77 = .ok (.getfield 37, 3) := by decide +kernel
theorem dX6_enqueue_80 : decode cX6_enqueue 80 = .ok (.iconst 1, 1) := by decide +kernel
theorem dX6_enqueue_81 : decode cX6_enqueue 81 = .ok (.iadd, 1) := by decide +kernel
theorem dX6_enqueue_82 : decode cX6_enqueue 82 = .ok (.putfield 37, 3) := by decide +kernel
theorem dX6_enqueue_85 : decode cX6_enqueue 85 = .ok (.return_, 1) := by decide +kernel
theorem dX6_place_0 : decode cX6_place 0 = .ok (.iload_n 0, 1) := by decide +kernel
theorem dX6_place_1 : decode cX6_place 1 = .ok (.iconst 4, 1) := by decide +kernel
theorem dX6_place_2 : decode cX6_place 2 = .ok (.imul, 1) := by decide +kernel
theorem dX6_place_3 : decode cX6_place 3 = .ok (.iload_n 1, 1) := by decide +kernel
theorem dX6_place_4 : decode cX6_place 4 = .ok (.iadd, 1) := by decide +kernel
theorem dX6_place_5 : decode cX6_place 5 = .ok (.iconst 1, 1) := by decide +kernel
theorem dX6_place_6 : decode cX6_place 6 = .ok (.isub, 1) := by decide +kernel
theorem dX6_place_7 : decode cX6_place 7 = .ok (.bipush 10, 2) := by decide +kernel
theorem dX6_place_9 : decode cX6_place 9 = .ok (.imul, 1) := by decide +kernel
theorem dX6_place_10 : decode cX6_place 10 = .ok (.iload_n 2, 1) := by decide +kernel
theorem dX6_place_11 : decode cX6_place 11 = .ok (.iadd, 1) := by decide +kernel
theorem dX6_place_12 : decode cX6_place 12 = .ok (.ireturn, 1) := by decide +kernel
theorem dX6_tryKnocks_0 : decode cX6_tryKnocks 0 = .ok (.iconst 0, 1) := by decide +kernel
theorem dX6_tryKnocks_1 : decode cX6_tryKnocks 1 = .ok (.istore_n 2, 1) := by decide +kernel
theorem dX6_tryKnocks_2 : decode cX6_tryKnocks 2 = .ok (.iload_n 2, 1) := by decide +kernel
theorem dX6_tryKnocks_3 : decode cX6_tryKnocks 3 = .ok (.aload_n 0, 1) := by decide +kernel
theorem dX6_tryKnocks_4 : decode cX6_tryKnocks 4 = .ok (.getfield 59, 3) := by decide +kernel
theorem dX6_tryKnocks_7 : decode cX6_tryKnocks 7 = .ok (.if_icmp .ge 64, 3) := by decide +kernel
theorem dX6_tryKnocks_10 : decode cX6_tryKnocks 10 = .ok (.iconst 1, 1) := by decide +kernel
theorem dX6_tryKnocks_11 : decode cX6_tryKnocks 11 = .ok (.istore_n 3, 1) := by decide +kernel
theorem dX6_tryKnocks_12 : decode cX6_tryKnocks 12 = .ok (.iload_n 3, 1) := by decide +kernel
theorem dX6_tryKnocks_13 : decode cX6_tryKnocks 13 = .ok (.iconst 4, 1) := by decide +kernel
theorem dX6_tryKnocks_14 : decode cX6_tryKnocks 14 = .ok (.if_icmp .gt 51, 3) := by decide +kernel
theorem dX6_tryKnocks_17 : decode cX6_tryKnocks 17 = .ok (.iconst 1, 1) := by decide +kernel
theorem dX6_tryKnocks_18 : decode cX6_tryKnocks 18 = .ok (.istore 4, 2) := by decide +kernel
theorem dX6_tryKnocks_20 : decode cX6_tryKnocks 20 = .ok (.iload 4, 2) := by decide +kernel
theorem dX6_tryKnocks_22 : decode cX6_tryKnocks 22 = .ok (.bipush 9, 2) := by decide +kernel
theorem dX6_tryKnocks_24 : decode cX6_tryKnocks 24 = .ok (.if_icmp .gt 35, 3) := by decide +kernel
theorem dX6_tryKnocks_27 : decode cX6_tryKnocks 27 = .ok (.aload_n 0, 1) := by decide +kernel
theorem dX6_tryKnocks_28 : decode cX6_tryKnocks 28 = .ok (.getfield 18, 3) := by decide +kernel
theorem dX6_tryKnocks_31 : decode cX6_tryKnocks 31 = .ok (.iload_n 2, 1) := by decide +kernel
theorem dX6_tryKnocks_32 : decode cX6_tryKnocks 32 = .ok (.iload_n 3, 1) := by decide +kernel
theorem dX6_tryKnocks_33 : decode cX6_tryKnocks 33 = .ok (.iload 4, 2) := by decide +kernel
theorem dX6_tryKnocks_35 : decode cX6_tryKnocks 35 = .ok (.invokestatic 67, 3) := by decide +kernel
theorem dX6_tryKnocks_38 : decode cX6_tryKnocks 38 = .ok (.aload_n 1, 1) := by decide +kernel
theorem dX6_tryKnocks_39 : decode cX6_tryKnocks 39 = .ok (.aload_n 0, 1) := by decide +kernel
theorem dX6_tryKnocks_40 : decode cX6_tryKnocks 40 = .ok (.getfield 15, 3) := by decide +kernel
theorem dX6_tryKnocks_43 : decode cX6_tryKnocks 43 = .ok (.iload_n 2, 1) := by decide +kernel
theorem dX6_tryKnocks_44 : decode cX6_tryKnocks 44 = .ok (.iaload, 1) := by decide +kernel
theorem dX6_tryKnocks_45 : decode cX6_tryKnocks 45 = .ok (.iload_n 3, 1) := by decide +kernel
theorem dX6_tryKnocks_46 : decode cX6_tryKnocks 46 = .ok (.iconst 0, 1) := by decide +kernel
theorem dX6_tryKnocks_47 : decode cX6_tryKnocks 47 = .ok (.iload 4, 2) := by decide +kernel
theorem dX6_tryKnocks_49 : decode cX6_tryKnocks 49 = .ok (.invokevirtual 71, 3) := by decide +kernel
theorem dX6_tryKnocks_52 : decode cX6_tryKnocks 52 = .ok (.iastore, 1) := by decide +kernel
theorem dX6_tryKnocks_53 : decode cX6_tryKnocks 53 = .ok (.iinc 4 1, 3) := by decide +kernel
theorem dX6_tryKnocks_56 : decode cX6_tryKnocks 56 = .ok (.goto (-36), 3) := by decide +kernel
theorem dX6_tryKnocks_59 : decode cX6_tryKnocks 59 = .ok (.iinc 3 1, 3) := by decide +kernel
theorem dX6_tryKnocks_62 : decode cX6_tryKnocks 62 = .ok (.goto (-50), 3) := by decide +kernel
theorem dX6_tryKnocks_65 : decode cX6_tryKnocks 65 = .ok (.iinc 2 1, 3) := by decide +kernel
theorem dX6_tryKnocks_68 : decode cX6_tryKnocks 68 = .ok (.goto (-66), 3) := by decide +kernel
theorem dX6_tryKnocks_71 : decode cX6_tryKnocks 71 = .ok (.return_, 1) := by decide +kernel
theorem dX6_behindKnock_0 : decode cX6_behindKnock 0 = .ok (.iconst 0, 1) := by decide +kernel
theorem dX6_behindKnock_1 : decode cX6_behindKnock 1 = .ok (.istore_n 3, 1) := by decide +kernel
theorem dX6_behindKnock_2 : decode cX6_behindKnock 2 = .ok (.iconst 0, 1) := by decide +kernel
theorem dX6_behindKnock_3 : decode cX6_behindKnock 3 = .ok (.istore 4, 2) := by decide +kernel
theorem dX6_behindKnock_5 : decode cX6_behindKnock 5 = .ok (.iconst 0, 1) := by decide +kernel
theorem dX6_behindKnock_6 : decode cX6_behindKnock 6 = .ok (.istore 5, 2) := by decide +kernel
theorem dX6_behindKnock_8 : decode cX6_behindKnock 8 = .ok (.iload 5, 2) := by decide +kernel
theorem dX6_behindKnock_10 : decode cX6_behindKnock 10 = .ok (.aload_n 0, 1) := by decide +kernel
theorem dX6_behindKnock_11 : decode cX6_behindKnock 11 = .ok (.getfield 59, 3) := by decide +kernel
theorem dX6_behindKnock_14 : decode cX6_behindKnock 14 = .ok (.if_icmp .ge 55, 3) := by decide +kernel
theorem dX6_behindKnock_17 : decode cX6_behindKnock 17 = .ok (.aload_n 0, 1) := by decide +kernel
theorem dX6_behindKnock_18 : decode cX6_behindKnock 18 = .ok (.getfield 18, 3) := by decide +kernel
theorem dX6_behindKnock_21 : decode cX6_behindKnock 21 = .ok (.iload 5, 2) := by decide +kernel
theorem dX6_behindKnock_23 : decode cX6_behindKnock 23 = .ok (.iload_n 1, 1) := by decide +kernel
theorem dX6_behindKnock_24 : decode cX6_behindKnock 24 = .ok (.iconst 2, 1) := by decide +kernel
theorem dX6_behindKnock_25 : decode cX6_behindKnock 25 = .ok (.iload 5, 2) := by decide +kernel
theorem dX6_behindKnock_27 : decode cX6_behindKnock 27 = .ok (.imul, 1) := by decide +kernel
theorem dX6_behindKnock_28 : decode cX6_behindKnock 28 = .ok (.ishr, 1) := by decide +kernel
theorem dX6_behindKnock_29 : decode cX6_behindKnock 29 = .ok (.iconst 3, 1) := by decide +kernel
theorem dX6_behindKnock_30 : decode cX6_behindKnock 30 = .ok (.iand, 1) := by decide +kernel
theorem dX6_behindKnock_31 : decode cX6_behindKnock 31 = .ok (.iconst 1, 1) := by decide +kernel
theorem dX6_behindKnock_32 : decode cX6_behindKnock 32 = .ok (.iadd, 1) := by decide +kernel
theorem dX6_behindKnock_33 : decode cX6_behindKnock 33 = .ok (.iload_n 2, 1) := by decide +kernel
theorem dX6_behindKnock_34 : decode cX6_behindKnock 34 = .ok (.invokestatic 67, 3) := by decide +kernel
theorem dX6_behindKnock_37 : decode cX6_behindKnock 37 = .ok (.iaload, 1) := by decide +kernel
theorem dX6_behindKnock_38 : decode cX6_behindKnock 38 = .ok (.istore 6, 2) := by decide +kernel
theorem dX6_behindKnock_40 : decode cX6_behindKnock 40 = .ok (.iload 6, 2) := by decide +kernel
theorem dX6_behindKnock_42 : decode cX6_behindKnock 42 = .ok (.ifCond .ne 9, 3) := by decide +kernel
theorem dX6_behindKnock_45 : decode cX6_behindKnock 45 = .ok (.iinc 4 1, 3) := by decide +kernel
theorem dX6_behindKnock_48 : decode cX6_behindKnock 48 = .ok (.goto 15, 3) := by decide +kernel
theorem dX6_behindKnock_51 : decode cX6_behindKnock 51 = .ok (.iload_n 3, 1) := by decide +kernel
theorem dX6_behindKnock_52 : decode cX6_behindKnock 52 = .ok (.iload 6, 2) := by decide +kernel
theorem dX6_behindKnock_54 : decode cX6_behindKnock 54 = .ok (.iconst 1, 1) := by decide +kernel
theorem dX6_behindKnock_55 : decode cX6_behindKnock 55 = .ok (.isub, 1) := by decide +kernel
theorem dX6_behindKnock_56 : decode cX6_behindKnock 56 = .ok (.iconst 2, 1) := by decide +kernel
theorem dX6_behindKnock_57 : decode cX6_behindKnock 57 = .ok (.iload 5, 2) := by decide +kernel
theorem dX6_behindKnock_59 : decode cX6_behindKnock 59 = .ok (.imul, 1) := by decide +kernel
theorem dX6_behindKnock_60 : decode cX6_behindKnock 60 = .ok (.ishl, 1) := by decide +kernel
theorem dX6_behindKnock_61 : decode cX6_behindKnock 61 = .ok (.ior, 1) := by decide +kernel
theorem dX6_behindKnock_62 : decode cX6_behindKnock 62 = .ok (.istore_n 3, 1) := by decide +kernel
theorem dX6_behindKnock_63 : decode cX6_behindKnock 63 = .ok (.iinc 5 1, 3) := by decide +kernel
theorem dX6_behindKnock_66 : decode cX6_behindKnock 66 = .ok (.goto (-58), 3) := by decide +kernel
theorem dX6_behindKnock_69 : decode cX6_behindKnock 69 = .ok (.iload 4, 2) := by decide +kernel
theorem dX6_behindKnock_71 : decode cX6_behindKnock 71 = .ok (.aload_n 0, 1) := by decide +kernel
theorem dX6_behindKnock_72 : decode cX6_behindKnock 72 = .ok (.getfield 59, 3) := by decide +kernel
theorem dX6_behindKnock_75 : decode cX6_behindKnock 75 = .ok (.if_icmp .ne 5, 3) := by decide +kernel
theorem dX6_behindKnock_78 : decode cX6_behindKnock 78 = .ok (.iconst (-1), 1) := by decide +kernel
theorem dX6_behindKnock_79 : decode cX6_behindKnock 79 = .ok (.ireturn, 1) := by decide +kernel
theorem dX6_behindKnock_80 : decode cX6_behindKnock 80 = .ok (.iload 4, 2) := by decide +kernel
theorem dX6_behindKnock_82 : decode cX6_behindKnock 82 = .ok (.ifCond .le 8, 3) := by decide +kernel
theorem dX6_behindKnock_85 : decode cX6_behindKnock 85 = .ok (.bipush (-2), 2) := by decide +kernel
theorem dX6_behindKnock_87 : decode cX6_behindKnock 87 = .ok (.goto 4, 3) := by decide +kernel
theorem dX6_behindKnock_90 : decode cX6_behindKnock 90 = .ok (.iload_n 3, 1) := by decide +kernel
theorem dX6_behindKnock_91 : decode cX6_behindKnock 91 = .ok (.ireturn, 1) := by decide +kernel
theorem dX6_trace_0 : decode cX6_trace 0 = .ok (.iconst 1, 1) := by decide +kernel
theorem dX6_trace_1 : decode cX6_trace 1 = .ok (.istore_n 3, 1) := by decide +kernel
theorem dX6_trace_2 : decode cX6_trace 2 = .ok (.iload_n 1, 1) := by decide +kernel
theorem dX6_trace_3 : decode cX6_trace 3 = .ok (.istore 4, 2) := by decide +kernel
theorem dX6_trace_5 : decode cX6_trace 5 = .ok (.iload 4, 2) := by decide +kernel
theorem dX6_trace_7 : decode cX6_trace 7 = .ok (.ifCond .le 27, 3) := by decide +kernel
theorem dX6_trace_10 : decode cX6_trace 10 = .ok (.iload_n 3, 1) := by decide +kernel
theorem dX6_trace_11 : decode cX6_trace 11 = .ok (.aload_n 0, 1) := by decide +kernel
theorem dX6_trace_12 : decode cX6_trace 12 = .ok (.getfield 9, 3) := by decide +kernel
theorem dX6_trace_15 : decode cX6_trace 15 = .ok (.arraylength, 1) := by decide +kernel
theorem dX6_trace_16 : decode cX6_trace 16 = .ok (.if_icmp .ge 18, 3) := by decide +kernel
theorem dX6_trace_19 : decode cX6_trace 19 = .ok (.iinc 3 1, 3) := by decide +kernel
theorem dX6_trace_22 : decode cX6_trace 22 = .ok (.aload_n 0, 1) := by decide +kernel
theorem dX6_trace_23 : decode cX6_trace 23 = .ok (.getfield 24, 3) := by decide +kernel
theorem dX6_trace_26 : decode cX6_trace 26 = .ok (.iload 4, 2) := by decide +kernel
theorem dX6_trace_28 : decode cX6_trace 28 = .ok (.iaload, 1) := by decide +kernel
theorem dX6_trace_29 : decode cX6_trace 29 = .ok (.istore 4, 2) := by decide +kernel
theorem dX6_trace_31 : decode cX6_trace 31 = .ok (.goto (-26), 3) := by decide +kernel
theorem dX6_trace_34 : decode cX6_trace 34 = .ok (.aload_n 0, 1) := by decide +kernel
theorem dX6_trace_35 : decode cX6_trace 35 = .ok (.getfield 9, 3) := by decide +kernel
theorem dX6_trace_38 : decode cX6_trace 38 = .ok (.iload_n 3, 1) := by decide +kernel
theorem dX6_trace_39 : decode cX6_trace 39 = .ok (.iconst 1, 1) := by decide +kernel
theorem dX6_trace_40 : decode cX6_trace 40 = .ok (.isub, 1) := by decide +kernel
theorem dX6_trace_41 : decode cX6_trace 41 = .ok (.iload_n 2, 1) := by decide +kernel
theorem dX6_trace_42 : decode cX6_trace 42 = .ok (.iastore, 1) := by decide +kernel
theorem dX6_trace_43 : decode cX6_trace 43 = .ok (.iload_n 1, 1) := by decide +kernel
theorem dX6_trace_44 : decode cX6_trace 44 = .ok (.istore 4, 2) := by decide +kernel
theorem dX6_trace_46 : decode cX6_trace 46 = .ok (.iload_n 3, 1) := by decide +kernel
theorem dX6_trace_47 : decode cX6_trace 47 = .ok (.iconst 2, 1) := by decide +kernel
theorem dX6_trace_48 : decode cX6_trace 48 = .ok (.isub, 1) := by decide +kernel
theorem dX6_trace_49 : decode cX6_trace 49 = .ok (.istore 5, 2) := by decide +kernel
theorem dX6_trace_51 : decode cX6_trace 51 = .ok (.iload 5, 2) := by decide +kernel
theorem dX6_trace_53 : decode cX6_trace 53 = .ok (.ifCond .lt 37, 3) := by decide +kernel
theorem dX6_trace_56 : decode cX6_trace 56 = .ok (.iload 4, 2) := by decide +kernel
theorem dX6_trace_58 : decode cX6_trace 58 = .ok (.ifCond .le 32, 3) := by decide +kernel
theorem dX6_trace_61 : decode cX6_trace 61 = .ok (.aload_n 0, 1) := by decide +kernel
theorem dX6_trace_62 : decode cX6_trace 62 = .ok (.getfield 9, 3) := by decide +kernel
theorem dX6_trace_65 : decode cX6_trace 65 = .ok (.iload 5, 2) := by decide +kernel
theorem dX6_trace_67 : decode cX6_trace 67 = .ok (.aload_n 0, 1) := by decide +kernel
theorem dX6_trace_68 : decode cX6_trace 68 = .ok (.getfield 27, 3) := by decide +kernel
theorem dX6_trace_71 : decode cX6_trace 71 = .ok (.iload 4, 2) := by decide +kernel
theorem dX6_trace_73 : decode cX6_trace 73 = .ok (.iaload, 1) := by decide +kernel
theorem dX6_trace_74 : decode cX6_trace 74 = .ok (.iastore, 1) := by decide +kernel
theorem dX6_trace_75 : decode cX6_trace 75 = .ok (.aload_n 0, 1) := by decide +kernel
theorem dX6_trace_76 : decode cX6_trace 76 = .ok (.getfield 24, 3) := by decide +kernel
theorem dX6_trace_79 : decode cX6_trace 79 = .ok (.iload 4, 2) := by decide +kernel
theorem dX6_trace_81 : decode cX6_trace 81 = .ok (.iaload, 1) := by decide +kernel
theorem dX6_trace_82 : decode cX6_trace 82 = .ok (.istore 4, 2) := by decide +kernel
theorem dX6_trace_84 : decode cX6_trace 84 = .ok (.iinc 5 (-1), 3) := by decide +kernel
theorem dX6_trace_87 : decode cX6_trace 87 = .ok (.goto (-36), 3) := by decide +kernel
theorem dX6_trace_90 : decode cX6_trace 90 = .ok (.iload_n 3, 1) := by decide +kernel
theorem dX6_trace_91 : decode cX6_trace 91 = .ok (.ireturn, 1) := by decide +kernel
theorem dX6_seek_0 : decode cX6_seek 0 = .ok (.aload_n 0, 1) := by decide +kernel
theorem dX6_seek_1 : decode cX6_seek 1 = .ok (.dup, 1) := by decide +kernel
theorem dX6_seek_2 : decode cX6_seek 2 = .ok (.getfield 33, 3) := by decide +kernel
theorem dX6_seek_5 : decode cX6_seek 5 = .ok (.iconst 1, 1) := by decide +kernel
theorem dX6_seek_6 : decode cX6_seek 6 = .ok (.iadd, 1) := by decide +kernel
theorem dX6_seek_7 : decode cX6_seek 7 = .ok (.putfield 33, 3) := by decide +kernel
theorem dX6_seek_10 : decode cX6_seek 10 = .ok (.aload_n 0, 1) := by decide +kernel
theorem dX6_seek_11 : decode cX6_seek 11 = .ok (.iconst 0, 1) := by decide +kernel
theorem dX6_seek_12 : decode cX6_seek 12 = .ok (.putfield 37, 3) := by decide +kernel
theorem dX6_seek_15 : decode cX6_seek 15 = .ok (.aload_n 0, 1) := by decide +kernel
theorem dX6_seek_16 : decode cX6_seek 16 = .ok (.aload_n 0, 1) := by decide +kernel
theorem dX6_seek_17 : decode cX6_seek 17 = .ok (.aload_n 2, 1) := by decide +kernel
theorem dX6_seek_18 : decode cX6_seek 18 = .ok (.iload_n 3, 1) := by decide +kernel
theorem dX6_seek_19 : decode cX6_seek 19 = .ok (.invokevirtual 40, 3) := by decide +kernel
theorem dX6_seek_22 : decode cX6_seek 22 = .ok (.iconst (-1), 1) := by decide +kernel
theorem dX6_seek_23 : decode cX6_seek 23 = .ok (.iconst 0, 1) := by decide +kernel
theorem dX6_seek_24 : decode cX6_seek 24 = .ok (.invokevirtual 44, 3) := by decide +kernel
theorem dX6_seek_27 : decode cX6_seek 27 = .ok (.aload_n 0, 1) := by decide +kernel
theorem dX6_seek_28 : decode cX6_seek 28 = .ok (.aload_n 1, 1) := by decide +kernel
theorem dX6_seek_29 : decode cX6_seek 29 = .ok (.invokevirtual 48, 3) := by decide +kernel
theorem dX6_seek_32 : decode cX6_seek 32 = .ok (.iconst 0, 1) := by decide +kernel
theorem dX6_seek_33 : decode cX6_seek 33 = .ok (.istore 4, 2) := by decide +kernel
theorem dX6_seek_35 : decode cX6_seek 35 = .ok (.iload 4, 2) := by decide +kernel
theorem dX6_seek_37 : decode cX6_seek 37 = .ok (.aload_n 0, 1) := by decide +kernel
theorem dX6_seek_38 : decode cX6_seek 38 = .ok (.getfield 37, 3) := by decide +kernel
theorem dX6_seek_41 : decode cX6_seek 41 = .ok (.if_icmp .ge 80, 3) := by decide +kernel
theorem dX6_seek_44 : decode cX6_seek 44 = .ok (.iload 4, 2) := by decide +kernel
theorem dX6_seek_46 : decode cX6_seek 46 = .ok (.sipush 1024, 3) := by decide +kernel
theorem dX6_seek_49 : decode cX6_seek 49 = .ok (.if_icmp .ge 72, 3) := by decide +kernel
theorem dX6_seek_52 : decode cX6_seek 52 = .ok (.iconst 1, 1) := by decide +kernel
theorem dX6_seek_53 : decode cX6_seek 53 = .ok (.istore 5, 2) := by decide +kernel
theorem dX6_seek_55 : decode cX6_seek 55 = .ok (.iload 5, 2) := by decide +kernel
theorem dX6_seek_57 : decode cX6_seek 57 = .ok (.bipush 9, 2) := by decide +kernel
theorem dX6_seek_59 : decode cX6_seek 59 = .ok (.if_icmp .gt 56, 3) := by decide +kernel
theorem dX6_seek_62 : decode cX6_seek 62 = .ok (.aload_n 0, 1) := by decide +kernel
theorem dX6_seek_63 : decode cX6_seek 63 = .ok (.aload_n 0, 1) := by decide +kernel
theorem dX6_seek_64 : decode cX6_seek 64 = .ok (.getfield 21, 3) := by decide +kernel
theorem dX6_seek_67 : decode cX6_seek 67 = .ok (.iload 4, 2) := by decide +kernel
theorem dX6_seek_69 : decode cX6_seek 69 = .ok (.iaload, 1) := by decide +kernel
theorem dX6_seek_70 : decode cX6_seek 70 = .ok (.iload 5, 2) := by decide +kernel
theorem dX6_seek_72 : decode cX6_seek 72 = .ok (.invokevirtual 52, 3) := by decide +kernel
theorem dX6_seek_75 : decode cX6_seek 75 = .ok (.istore 6, 2) := by decide +kernel
theorem dX6_seek_77 : decode cX6_seek 77 = .ok (.iload 6, 2) := by decide +kernel
theorem dX6_seek_79 : decode cX6_seek 79 = .ok (.iconst (-1), 1) := by decide +kernel
theorem dX6_seek_80 : decode cX6_seek 80 = .ok (.if_icmp .ne 12, 3) := by decide +kernel
theorem dX6_seek_83 : decode cX6_seek 83 = .ok (.aload_n 0, 1) := by decide +kernel
theorem dX6_seek_84 : decode cX6_seek 84 = .ok (.iload 4, 2) := by decide +kernel
theorem dX6_seek_86 : decode cX6_seek 86 = .ok (.iload 5, 2) := by decide +kernel
theorem dX6_seek_88 : decode cX6_seek 88 = .ok (.invokevirtual 56, 3) := by decide +kernel
theorem dX6_seek_91 : decode cX6_seek 91 = .ok (.ireturn, 1) := by decide +kernel
theorem dX6_seek_92 : decode cX6_seek 92 = .ok (.iload 6, 2) := by decide +kernel
theorem dX6_seek_94 : decode cX6_seek 94 = .ok (.bipush (-2), 2) := by decide +kernel
theorem dX6_seek_96 : decode cX6_seek 96 = .ok (.if_icmp .eq 13, 3) := by decide +kernel
theorem dX6_seek_99 : decode cX6_seek 99 = .ok (.aload_n 0, 1) := by decide +kernel
theorem dX6_seek_100 : decode cX6_seek 100 = .ok (.iload 6, 2) := by decide +kernel
theorem dX6_seek_102 : decode cX6_seek 102 = .ok (.iload 4, 2) := by decide +kernel
theorem dX6_seek_104 : decode cX6_seek 104 = .ok (.iload 5, 2) := by decide +kernel
theorem dX6_seek_106 : decode cX6_seek 106 = .ok (.invokevirtual 44, 3) := by decide +kernel
theorem dX6_seek_109 : decode cX6_seek 109 = .ok (.iinc 5 1, 3) := by decide +kernel
theorem dX6_seek_112 : decode cX6_seek 112 = .ok (.goto (-57), 3) := by decide +kernel
theorem dX6_seek_115 : decode cX6_seek 115 = .ok (.iinc 4 1, 3) := by decide +kernel
theorem dX6_seek_118 : decode cX6_seek 118 = .ok (.goto (-83), 3) := by decide +kernel
theorem dX6_seek_121 : decode cX6_seek 121 = .ok (.bipush (-2), 2) := by decide +kernel
theorem dX6_seek_123 : decode cX6_seek 123 = .ok (.ireturn, 1) := by decide +kernel
