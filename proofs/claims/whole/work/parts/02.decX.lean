theorem dX0_init_0 : decode cX0_init 0 = .ok (.aload_n 0, 1) := by decide +kernel
theorem dX0_init_1 : decode cX0_init 1 = .ok (.invokespecial 3, 3) := by decide +kernel
theorem dX0_init_4 : decode cX0_init 4 = .ok (.aload_n 0, 1) := by decide +kernel
theorem dX0_init_5 : decode cX0_init 5 = .ok (.bipush 10, 2) := by decide +kernel
theorem dX0_init_7 : decode cX0_init 7 = .ok (.newarray .int, 2) := by decide +kernel
theorem dX0_init_9 : decode cX0_init 9 = .ok (.putfield 9, 3) := by decide +kernel
theorem dX0_init_12 : decode cX0_init 12 = .ok (.aload_n 0, 1) := by decide +kernel
theorem dX0_init_13 : decode cX0_init 13 = .ok (.bipush 10, 2) := by decide +kernel
theorem dX0_init_15 : decode cX0_init 15 = .ok (.newarray .int, 2) := by decide +kernel
theorem dX0_init_17 : decode cX0_init 17 = .ok (.putfield 15, 3) := by decide +kernel
theorem dX0_init_20 : decode cX0_init 20 = .ok (.aload_n 0, 1) := by decide +kernel
theorem dX0_init_21 : decode cX0_init 21 = .ok (.sipush 160, 3) := by decide +kernel
theorem dX0_init_24 : decode cX0_init 24 = .ok (.newarray .int, 2) := by decide +kernel
theorem dX0_init_26 : decode cX0_init 26 = .ok (.putfield 18, 3) := by decide +kernel
theorem dX0_init_29 : decode cX0_init 29 = .ok (.aload_n 0, 1) := by decide +kernel
theorem dX0_init_30 : decode cX0_init 30 = .ok (.sipush 160, 3) := by decide +kernel
theorem dX0_init_33 : decode cX0_init 33 = .ok (.newarray .int, 2) := by decide +kernel
theorem dX0_init_35 : decode cX0_init 35 = .ok (.putfield 21, 3) := by decide +kernel
theorem dX0_init_38 : decode cX0_init 38 = .ok (.return_, 1) := by decide +kernel
theorem dX0_wantPlace_0 : decode cX0_wantPlace 0 = .ok (.iload_n 0, 1) := by decide +kernel
theorem dX0_wantPlace_1 : decode cX0_wantPlace 1 = .ok (.iconst 4, 1) := by decide +kernel
theorem dX0_wantPlace_2 : decode cX0_wantPlace 2 = .ok (.imul, 1) := by decide +kernel
theorem dX0_wantPlace_3 : decode cX0_wantPlace 3 = .ok (.iload_n 1, 1) := by decide +kernel
theorem dX0_wantPlace_4 : decode cX0_wantPlace 4 = .ok (.iadd, 1) := by decide +kernel
theorem dX0_wantPlace_5 : decode cX0_wantPlace 5 = .ok (.iconst 4, 1) := by decide +kernel
theorem dX0_wantPlace_6 : decode cX0_wantPlace 6 = .ok (.imul, 1) := by decide +kernel
theorem dX0_wantPlace_7 : decode cX0_wantPlace 7 = .ok (.iload_n 2, 1) := by decide +kernel
theorem dX0_wantPlace_8 : decode cX0_wantPlace 8 = .ok (.iadd, 1) := by decide +kernel
theorem dX0_wantPlace_9 : decode cX0_wantPlace 9 = .ok (.ireturn, 1) := by decide +kernel
theorem dX0_bidOf_0 : decode cX0_bidOf 0 = .ok (.iload_n 1, 1) := by decide +kernel
theorem dX0_bidOf_1 : decode cX0_bidOf 1 = .ok (.iload_n 2, 1) := by decide +kernel
theorem dX0_bidOf_2 : decode cX0_bidOf 2 = .ok (.iload_n 3, 1) := by decide +kernel
theorem dX0_bidOf_3 : decode cX0_bidOf 3 = .ok (.invokestatic 24, 3) := by decide +kernel
theorem dX0_bidOf_6 : decode cX0_bidOf 6 = .ok (.istore 6, 2) := by decide +kernel
theorem dX0_bidOf_8 : decode cX0_bidOf 8 = .ok (.aload_n 0, 1) := by decide +kernel
theorem dX0_bidOf_9 : decode cX0_bidOf 9 = .ok (.getfield 21, 3) := by decide +kernel
theorem dX0_bidOf_12 : decode cX0_bidOf 12 = .ok (.iload 6, 2) := by decide +kernel
theorem dX0_bidOf_14 : decode cX0_bidOf 14 = .ok (.iaload, 1) := by decide +kernel
theorem dX0_bidOf_15 : decode cX0_bidOf 15 = .ok (.istore 7, 2) := by decide +kernel
theorem dX0_bidOf_17 : decode cX0_bidOf 17 = .ok (.aload_n 0, 1) := by decide +kernel
theorem dX0_bidOf_18 : decode cX0_bidOf 18 = .ok (.getfield 18, 3) := by decide +kernel
theorem dX0_bidOf_21 : decode cX0_bidOf 21 = .ok (.iload 6, 2) := by decide +kernel
theorem dX0_bidOf_23 : decode cX0_bidOf 23 = .ok (.iaload, 1) := by decide +kernel
theorem dX0_bidOf_24 : decode cX0_bidOf 24 = .ok (.iload 4, 2) := by decide +kernel
theorem dX0_bidOf_26 : decode cX0_bidOf 26 = .ok (.if_icmp .lt 34, 3) := by decide +kernel
theorem dX0_bidOf_29 : decode cX0_bidOf 29 = .ok (.iload 7, 2) := by decide +kernel
theorem dX0_bidOf_31 : decode cX0_bidOf 31 = .ok (.iconst 1, 1) := by decide +kernel
theorem dX0_bidOf_32 : decode cX0_bidOf 32 = .ok (.if_icmp .lt 28, 3) := by decide +kernel
theorem dX0_bidOf_35 : decode cX0_bidOf 35 = .ok (.iload 7, 2) := by decide +kernel
theorem dX0_bidOf_37 : decode cX0_bidOf 37 = .ok (.iload 5, 2) := by decide +kernel
theorem dX0_bidOf_39 : decode cX0_bidOf 39 = .ok (.if_icmp .lt 21, 3) := by decide +kernel
theorem dX0_bidOf_42 : decode cX0_bidOf 42 = .ok (.iload 7, 2) := by decide +kernel
theorem dX0_bidOf_44 : decode cX0_bidOf 44 = .ok (.iload 4, 2) := by decide +kernel
theorem dX0_bidOf_46 : decode cX0_bidOf 46 = .ok (.imul, 1) := by decide +kernel
theorem dX0_bidOf_47 : decode cX0_bidOf 47 = .ok (.aload_n 0, 1) := by decide +kernel
theorem dX0_bidOf_48 : decode cX0_bidOf 48 = .ok (.getfield 15, 3) := by decide +kernel
theorem dX0_bidOf_51 : decode cX0_bidOf 51 = .ok (.iload_n 1, 1) := by decide +kernel
theorem dX0_bidOf_52 : decode cX0_bidOf 52 = .ok (.iaload, 1) := by decide +kernel
theorem dX0_bidOf_53 : decode cX0_bidOf 53 = .ok (.if_icmp .gt 7, 3) := by decide +kernel
theorem dX0_bidOf_56 : decode cX0_bidOf 56 = .ok (.iconst 1, 1) := by decide +kernel
theorem dX0_bidOf_57 : decode cX0_bidOf 57 = .ok (.goto 4, 3) := by decide +kernel
theorem dX0_bidOf_60 : decode cX0_bidOf 60 = .ok (.iconst 0, 1) := by decide +kernel
theorem dX0_bidOf_61 : decode cX0_bidOf 61 = .ok (.istore 8, 2) := by decide +kernel
theorem dX0_bidOf_63 : decode cX0_bidOf 63 = .ok (.iload 8, 2) := by decide +kernel
theorem dX0_bidOf_65 : decode cX0_bidOf 65 = .ok (.ifCond .eq 8, 3) := by decide +kernel
theorem dX0_bidOf_68 : decode cX0_bidOf 68 = .ok (.iload 7, 2) := by decide +kernel
theorem dX0_bidOf_70 : decode cX0_bidOf 70 = .ok (.goto 4, 3) := by decide +kernel
theorem dX0_bidOf_73 : decode cX0_bidOf 73 = .ok (.iconst 0, 1) := by decide +kernel
theorem dX0_bidOf_74 : decode cX0_bidOf 74 = .ok (.ireturn, 1) := by decide +kernel
theorem dX0_take_0 : decode cX0_take 0 = .ok (.aload_n 0, 1) := by decide +kernel
theorem dX0_take_1 : decode cX0_take 1 = .ok (.getfield 18, 3) := by decide +kernel
theorem dX0_take_4 : decode cX0_take 4 = .ok (.iload_n 2, 1) := by decide +kernel
theorem dX0_take_5 : decode cX0_take 5 = .ok (.dup2, 1) := by decide +kernel
theorem dX0_take_6 : decode cX0_take 6 = .ok (.iaload, 1) := by decide +kernel
theorem dX0_take_7 : decode cX0_take 7 = .ok (.iload_n 3, 1) := by decide +kernel
theorem dX0_take_8 : decode cX0_take 8 = .ok (.isub, 1) := by decide +kernel
theorem dX0_take_9 : decode cX0_take 9 = .ok (.iastore, 1) := by decide +kernel
theorem dX0_take_10 : decode cX0_take 10 = .ok (.aload_n 0, 1) := by decide +kernel
theorem dX0_take_11 : decode cX0_take 11 = .ok (.getfield 15, 3) := by decide +kernel
theorem dX0_take_14 : decode cX0_take 14 = .ok (.iload_n 1, 1) := by decide +kernel
theorem dX0_take_15 : decode cX0_take 15 = .ok (.dup2, 1) := by decide +kernel
theorem dX0_take_16 : decode cX0_take 16 = .ok (.iaload, 1) := by decide +kernel
theorem dX0_take_17 : decode cX0_take 17 = .ok (.iload_n 3, 1) := by decide +kernel
theorem dX0_take_18 : decode cX0_take 18 = .ok (.iload 4, 2) := by decide +kernel
theorem dX0_take_20 : decode cX0_take 20 = .ok (.imul, 1) := by decide +kernel
theorem dX0_take_21 : decode cX0_take 21 = .ok (.isub, 1) := by decide +kernel
theorem dX0_take_22 : decode cX0_take 22 = .ok (.iastore, 1) := by decide +kernel
theorem dX0_take_23 : decode cX0_take 23 = .ok (.return_, 1) := by decide +kernel
theorem dX0_restoreMoney_0 : decode cX0_restoreMoney 0 = .ok (.iconst 0, 1) := by decide +kernel
theorem dX0_restoreMoney_1 : decode cX0_restoreMoney 1 = .ok (.istore_n 1, 1) := by decide +kernel
theorem dX0_restoreMoney_2 : decode cX0_restoreMoney 2 = .ok (.iload_n 1, 1) := by decide +kernel
theorem dX0_restoreMoney_3 : decode cX0_restoreMoney 3 = .ok (.bipush 10, 2) := by decide +kernel
theorem dX0_restoreMoney_5 : decode cX0_restoreMoney 5 = .ok (.if_icmp .ge 21, 3) := by decide +kernel
theorem dX0_restoreMoney_8 : decode cX0_restoreMoney 8 = .ok (.aload_n 0, 1) := by decide +kernel
theorem dX0_restoreMoney_9 : decode cX0_restoreMoney 9 = .ok (.getfield 15, 3) := by decide +kernel
theorem dX0_restoreMoney_12 : decode cX0_restoreMoney 12 = .ok (.iload_n 1, 1) := by decide +kernel
theorem dX0_restoreMoney_13 : decode cX0_restoreMoney 13 = .ok (.aload_n 0, 1) := by decide +kernel
theorem dX0_restoreMoney_14 : decode cX0_restoreMoney 14 = .ok (.getfield 9, 3) := by decide +kernel
theorem dX0_restoreMoney_17 : decode cX0_restoreMoney 17 = .ok (.iload_n 1, 1) := by decide +kernel
theorem dX0_restoreMoney_18 : decode cX0_restoreMoney 18 = .ok (.iaload, 1) := by decide +kernel
theorem dX0_restoreMoney_19 : decode cX0_restoreMoney 19 = .ok (.iastore, 1) := by decide +kernel
theorem dX0_restoreMoney_20 : decode cX0_restoreMoney 20 = .ok (.iinc 1 1, 3) := by decide +kernel
theorem dX0_restoreMoney_23 : decode cX0_restoreMoney 23 = .ok (.goto (-21), 3) := by decide +kernel
theorem dX0_restoreMoney_26 : decode cX0_restoreMoney 26 = .ok (.return_, 1) := by decide +kernel
theorem dX1_init_0 : decode cX1_init 0 = .ok (.aload_n 0, 1) := by decide +kernel
theorem dX1_init_1 : decode cX1_init 1 = .ok (.invokespecial 3, 3) := by decide +kernel
theorem dX1_init_4 : decode cX1_init 4 = .ok (.aload_n 0, 1) := by decide +kernel
theorem dX1_init_5 : decode cX1_init 5 = .ok (.iconst 4, 1) := by decide +kernel
theorem dX1_init_6 : decode cX1_init 6 = .ok (.newarray .int, 2) := by decide +kernel
theorem dX1_init_8 : decode cX1_init 8 = .ok (.putfield 9, 3) := by decide +kernel
theorem dX1_init_11 : decode cX1_init 11 = .ok (.aload_n 0, 1) := by decide +kernel
theorem dX1_init_12 : decode cX1_init 12 = .ok (.iconst 4, 1) := by decide +kernel
theorem dX1_init_13 : decode cX1_init 13 = .ok (.newarray .int, 2) := by decide +kernel
theorem dX1_init_15 : decode cX1_init 15 = .ok (.putfield 15, 3) := by decide +kernel
theorem dX1_init_18 : decode cX1_init 18 = .ok (.aload_n 0, 1) := by decide +kernel
theorem dX1_init_19 : decode cX1_init 19 = .ok (.iconst 4, 1) := by decide +kernel
theorem dX1_init_20 : decode cX1_init 20 = .ok (.newarray .int, 2) := by decide +kernel
theorem dX1_init_22 : decode cX1_init 22 = .ok (.putfield 18, 3) := by decide +kernel
theorem dX1_init_25 : decode cX1_init 25 = .ok (.aload_n 0, 1) := by decide +kernel
theorem dX1_init_26 : decode cX1_init 26 = .ok (.iconst 0, 1) := by decide +kernel
theorem dX1_init_27 : decode cX1_init 27 = .ok (.putfield 21, 3) := by decide +kernel
theorem dX1_init_30 : decode cX1_init 30 = .ok (.return_, 1) := by decide +kernel
theorem dX1_dispatch_0 : decode cX1_dispatch 0 = .ok (.iconst 0, 1) := by decide +kernel
theorem dX1_dispatch_1 : decode cX1_dispatch 1 = .ok (.istore_n 3, 1) := by decide +kernel
theorem dX1_dispatch_2 : decode cX1_dispatch 2 = .ok (.iload_n 3, 1) := by decide +kernel
theorem dX1_dispatch_3 : decode cX1_dispatch 3 = .ok (.iconst 4, 1) := by decide +kernel
theorem dX1_dispatch_4 : decode cX1_dispatch 4 = .ok (.if_icmp .ge 44, 3) := by decide +kernel
theorem dX1_dispatch_7 : decode cX1_dispatch 7 = .ok (.aload_n 0, 1) := by decide +kernel
theorem dX1_dispatch_8 : decode cX1_dispatch 8 = .ok (.getfield 9, 3) := by decide +kernel
theorem dX1_dispatch_11 : decode cX1_dispatch 11 = .ok (.iload_n 3, 1) := by decide +kernel
theorem dX1_dispatch_12 : decode cX1_dispatch 12 = .ok (.aload_n 1, 1) := by decide +kernel
theorem dX1_dispatch_13 : decode cX1_dispatch 13 = .ok (.iconst 4, 1) := by decide +kernel
theorem dX1_dispatch_14 : decode cX1_dispatch 14 = .ok (.iload_n 3, 1) := by decide +kernel
theorem dX1_dispatch_15 : decode cX1_dispatch 15 = .ok (.imul, 1) := by decide +kernel
theorem dX1_dispatch_16 : decode cX1_dispatch 16 = .ok (.invokevirtual 25, 3) := by decide +kernel
theorem dX1_dispatch_19 : decode cX1_dispatch 19 = .ok (.iastore, 1) := by decide +kernel
theorem dX1_dispatch_20 : decode cX1_dispatch 20 = .ok (.aload_n 0, 1) := by decide +kernel
theorem dX1_dispatch_21 : decode cX1_dispatch 21 = .ok (.getfield 15, 3) := by decide +kernel
theorem dX1_dispatch_24 : decode cX1_dispatch 24 = .ok (.iload_n 3, 1) := by decide +kernel
theorem dX1_dispatch_25 : decode cX1_dispatch 25 = .ok (.aload_n 1, 1) := by decide +kernel
theorem dX1_dispatch_26 : decode cX1_dispatch 26 = .ok (.iconst 4, 1) := by decide +kernel
theorem dX1_dispatch_27 : decode cX1_dispatch 27 = .ok (.iload_n 3, 1) := by decide +kernel
theorem dX1_dispatch_28 : decode cX1_dispatch 28 = .ok (.imul, 1) := by decide +kernel
theorem dX1_dispatch_29 : decode cX1_dispatch 29 = .ok (.iconst 2, 1) := by decide +kernel
theorem dX1_dispatch_30 : decode cX1_dispatch 30 = .ok (.iadd, 1) := by decide +kernel
theorem dX1_dispatch_31 : decode cX1_dispatch 31 = .ok (.invokevirtual 25, 3) := by decide +kernel
theorem dX1_dispatch_34 : decode cX1_dispatch 34 = .ok (.iastore, 1) := by decide +kernel
theorem dX1_dispatch_35 : decode cX1_dispatch 35 = .ok (.aload_n 0, 1) := by decide +kernel
theorem dX1_dispatch_36 : decode cX1_dispatch 36 = .ok (.getfield 18, 3) := by decide +kernel
theorem dX1_dispatch_39 : decode cX1_dispatch 39 = .ok (.iload_n 3, 1) := by decide +kernel
theorem dX1_dispatch_40 : decode cX1_dispatch 40 = .ok (.iconst 0, 1) := by decide +kernel
theorem dX1_dispatch_41 : decode cX1_dispatch 41 = .ok (.iastore, 1) := by decide +kernel
theorem dX1_dispatch_42 : decode cX1_dispatch 42 = .ok (.iinc 3 1, 3) := by decide +kernel
theorem dX1_dispatch_45 : decode cX1_dispatch 45 = .ok (.goto (-43), 3) := by decide +kernel
theorem dX1_dispatch_48 : decode cX1_dispatch 48 = .ok (.iconst 0, 1) := by decide +kernel
theorem dX1_dispatch_49 : decode cX1_dispatch 49 = .ok (.istore_n 3, 1) := by decide +kernel
theorem dX1_dispatch_50 : decode cX1_dispatch 50 = .ok (.iconst 0, 1) := by decide +kernel
theorem dX1_dispatch_51 : decode cX1_dispatch 51 = .ok (.istore 4, 2) := by decide +kernel
theorem dX1_dispatch_53 : decode cX1_dispatch 53 = .ok (.iload 4, 2) := by decide +kernel
theorem dX1_dispatch_55 : decode cX1_dispatch 55 = .ok (.iload_n 2, 1) := by decide +kernel
theorem dX1_dispatch_56 : decode cX1_dispatch 56 = .ok (.if_icmp .ge 62, 3) := by decide +kernel
theorem dX1_dispatch_59 : decode cX1_dispatch 59 = .ok (.aload_n 0, 1) := by decide +kernel
theorem dX1_dispatch_60 : decode cX1_dispatch 60 = .ok (.invokevirtual 31, 3) := by decide +kernel
theorem dX1_dispatch_63 : decode cX1_dispatch 63 = .ok (.istore 5, 2) := by decide +kernel
theorem dX1_dispatch_65 : decode cX1_dispatch 65 = .ok (.iload_n 3, 1) := by decide +kernel
theorem dX1_dispatch_66 : decode cX1_dispatch 66 = .ok (.aload_n 0, 1) := by decide +kernel
theorem dX1_dispatch_67 : decode cX1_dispatch 67 = .ok (.getfield 9, 3) := by decide +kernel
theorem dX1_dispatch_70 : decode cX1_dispatch 70 = .ok (.iload 5, 2) := by decide +kernel
theorem dX1_dispatch_72 : decode cX1_dispatch 72 = .ok (.iaload, 1) := by decide +kernel
theorem dX1_dispatch_73 : decode cX1_dispatch 73 = .ok (.iadd, 1) := by decide +kernel
theorem dX1_dispatch_74 : decode cX1_dispatch 74 = .ok (.istore_n 3, 1) := by decide +kernel
theorem dX1_dispatch_75 : decode cX1_dispatch 75 = .ok (.aload_n 0, 1) := by decide +kernel
theorem dX1_dispatch_76 : decode cX1_dispatch 76 = .ok (.getfield 9, 3) := by decide +kernel
theorem dX1_dispatch_79 : decode cX1_dispatch 79 = .ok (.iload 5, 2) := by decide +kernel
theorem dX1_dispatch_81 : decode cX1_dispatch 81 = .ok (.aload_n 0, 1) := by decide +kernel
theorem dX1_dispatch_82 : decode cX1_dispatch 82 = .ok (.getfield 9, 3) := by decide +kernel
theorem dX1_dispatch_85 : decode cX1_dispatch 85 = .ok (.iload 5, 2) := by decide +kernel
theorem dX1_dispatch_87 : decode cX1_dispatch 87 = .ok (.iaload, 1) := by decide +kernel
theorem dX1_dispatch_88 : decode cX1_dispatch 88 = .ok (.aload_n 0, 1) := by decide +kernel
theorem dX1_dispatch_89 : decode cX1_dispatch 89 = .ok (.getfield 15, 3) := by decide +kernel
theorem dX1_dispatch_92 : decode cX1_dispatch 92 = .ok (.iload 5, 2) := by decide +kernel
theorem dX1_dispatch_94 : decode cX1_dispatch 94 = .ok (.iaload, 1) := by decide +kernel
theorem dX1_dispatch_95 : decode cX1_dispatch 95 = .ok (.isub, 1) := by decide +kernel
theorem dX1_dispatch_96 : decode cX1_dispatch 96 = .ok (.iconst 0, 1) := by decide +kernel
theorem dX1_dispatch_97 : decode cX1_dispatch 97 = .ok (.invokestatic 35, 3) := by decide +kernel
theorem dX1_dispatch_100 : decode cX1_dispatch 100 = .ok (.iastore, 1) := by decide +kernel
theorem dX1_dispatch_101 : decode cX1_dispatch 101 = .ok (.aload_n 0, 1) := by decide +kernel
theorem dX1_dispatch_102 : decode cX1_dispatch 102 = .ok (.getfield 18, 3) := by decide +kernel
theorem dX1_dispatch_105 : decode cX1_dispatch 105 = .ok (.iload 5, 2) := by decide +kernel
theorem dX1_dispatch_107 : decode cX1_dispatch 107 = .ok (.dup2, 1) := by decide +kernel
theorem dX1_dispatch_108 : decode cX1_dispatch 108 = .ok (.iaload, 1) := by decide +kernel
theorem dX1_dispatch_109 : decode cX1_dispatch 109 = .ok (.iconst 1, 1) := by decide +kernel
theorem dX1_dispatch_110 : decode cX1_dispatch 110 = .ok (.iadd, 1) := by decide +kernel
theorem dX1_dispatch_111 : decode cX1_dispatch 111 = .ok (.iastore, 1) := by decide +kernel
theorem dX1_dispatch_112 : decode cX1_dispatch 112 = .ok (.iinc 4 1, 3) := by decide +kernel
theorem dX1_dispatch_115 : decode cX1_dispatch 115 = .ok (.goto (-62), 3) := by decide +kernel
theorem dX1_dispatch_118 : decode cX1_dispatch 118 = .ok (.aload_n 0, 1) := by decide +kernel
theorem dX1_dispatch_119 : decode cX1_dispatch 119 = .ok (.iconst 1, 1) := by decide +kernel
theorem dX1_dispatch_120 : decode cX1_dispatch 120 = .ok (.putfield 21, 3) := by decide +kernel
theorem dX1_dispatch_123 : decode cX1_dispatch 123 = .ok (.iload_n 3, 1) := by decide +kernel
theorem dX1_dispatch_124 : decode cX1_dispatch 124 = .ok (.ireturn, 1) := by decide +kernel
theorem dX1_bestHall_0 : decode cX1_bestHall 0 = .ok (.iconst 0, 1) := by decide +kernel
theorem dX1_bestHall_1 : decode cX1_bestHall 1 = .ok (.istore_n 1, 1) := by decide +kernel
theorem dX1_bestHall_2 : decode cX1_bestHall 2 = .ok (.iconst 1, 1) := by decide +kernel
theorem dX1_bestHall_3 : decode cX1_bestHall 3 = .ok (.istore_n 2, 1) := by decide +kernel
theorem dX1_bestHall_4 : decode cX1_bestHall 4 = .ok (.iload_n 2, 1) := by decide +kernel
theorem dX1_bestHall_5 : decode cX1_bestHall 5 = .ok (.iconst 4, 1) := by decide +kernel
theorem dX1_bestHall_6 : decode cX1_bestHall 6 = .ok (.if_icmp .ge 26, 3) := by decide +kernel
theorem dX1_bestHall_9 : decode cX1_bestHall 9 = .ok (.aload_n 0, 1) := by decide +kernel
theorem dX1_bestHall_10 : decode cX1_bestHall 10 = .ok (.getfield 9, 3) := by decide +kernel
theorem dX1_bestHall_13 : decode cX1_bestHall 13 = .ok (.iload_n 2, 1) := by decide +kernel
theorem dX1_bestHall_14 : decode cX1_bestHall 14 = .ok (.iaload, 1) := by decide +kernel
theorem dX1_bestHall_15 : decode cX1_bestHall 15 = .ok (.aload_n 0, 1) := by decide +kernel
theorem dX1_bestHall_16 : decode cX1_bestHall 16 = .ok (.getfield 9, 3) := by decide +kernel
theorem dX1_bestHall_19 : decode cX1_bestHall 19 = .ok (.iload_n 1, 1) := by decide +kernel
theorem dX1_bestHall_20 : decode cX1_bestHall 20 = .ok (.iaload, 1) := by decide +kernel
theorem dX1_bestHall_21 : decode cX1_bestHall 21 = .ok (.if_icmp .le 5, 3) := by decide +kernel
theorem dX1_bestHall_24 : decode cX1_bestHall 24 = .ok (.iload_n 2, 1) := by decide +kernel
theorem dX1_bestHall_25 : decode cX1_bestHall 25 = .ok (.istore_n 1, 1) := by decide +kernel
theorem dX1_bestHall_26 : decode cX1_bestHall 26 = .ok (.iinc 2 1, 3) := by decide +kernel
theorem dX1_bestHall_29 : decode cX1_bestHall 29 = .ok (.goto (-25), 3) := by decide +kernel
theorem dX1_bestHall_32 : decode cX1_bestHall 32 = .ok (.iload_n 1, 1) := by decide +kernel
theorem dX1_bestHall_33 : decode cX1_bestHall 33 = .ok (.ireturn, 1) := by decide +kernel
theorem dX2_init_0 : decode cX2_init 0 = .ok (.aload_n 0, 1) := by decide +kernel
theorem dX2_init_1 : decode cX2_init 1 = .ok (.invokespecial 3, 3) := by decide +kernel
theorem dX2_init_4 : decode cX2_init 4 = .ok (.aload_n 0, 1) := by decide +kernel
theorem dX2_init_5 : decode cX2_init 5 = .ok (.bipush 100, 2) := by decide +kernel
theorem dX2_init_7 : decode cX2_init 7 = .ok (.newarray .int, 2) := by decide +kernel
theorem dX2_init_9 : decode cX2_init 9 = .ok (.putfield 9, 3) := by decide +kernel
theorem dX2_init_12 : decode cX2_init 12 = .ok (.aload_n 0, 1) := by decide +kernel
theorem dX2_init_13 : decode cX2_init 13 = .ok (.bipush 100, 2) := by decide +kernel
theorem dX2_init_15 : decode cX2_init 15 = .ok (.newarray .int, 2) := by decide +kernel
theorem dX2_init_17 : decode cX2_init 17 = .ok (.putfield 15, 3) := by decide +kernel
theorem dX2_init_20 : decode cX2_init 20 = .ok (.aload_n 0, 1) := by decide +kernel
theorem dX2_init_21 : decode cX2_init 21 = .ok (.bipush 100, 2) := by decide +kernel
theorem dX2_init_23 : decode cX2_init 23 = .ok (.newarray .int, 2) := by decide +kernel
theorem dX2_init_25 : decode cX2_init 25 = .ok (.putfield 18, 3) := by decide +kernel
theorem dX2_init_28 : decode cX2_init 28 = .ok (.aload_n 0, 1) := by decide +kernel
theorem dX2_init_29 : decode cX2_init 29 = .ok (.bipush 100, 2) := by decide +kernel
theorem dX2_init_31 : decode cX2_init 31 = .ok (.newarray .int, 2) := by decide +kernel
theorem dX2_init_33 : decode cX2_init 33 = .ok (.putfield 21, 3) := by decide +kernel
theorem dX2_init_36 : decode cX2_init 36 = .ok (.aload_n 0, 1) := by decide +kernel
theorem dX2_init_37 : decode cX2_init 37 = .ok (.bipush 100, 2) := by decide +kernel
theorem dX2_init_39 : decode cX2_init 39 = .ok (.newarray .int, 2) := by decide +kernel
theorem dX2_init_41 : decode cX2_init 41 = .ok (.putfield 24, 3) := by decide +kernel
theorem dX2_init_44 : decode cX2_init 44 = .ok (.aload_n 0, 1) := by decide +kernel
theorem dX2_init_45 : decode cX2_init 45 = .ok (.bipush 100, 2) := by decide +kernel
theorem dX2_init_47 : decode cX2_init 47 = .ok (.newarray .boolean, 2) := by decide +kernel
theorem dX2_init_49 : decode cX2_init 49 = .ok (.putfield 27, 3) := by decide +kernel
theorem dX2_init_52 : decode cX2_init 52 = .ok (.aload_n 0, 1) := by decide +kernel
theorem dX2_init_53 : decode cX2_init 53 = .ok (.bipush 100, 2) := by decide +kernel
theorem dX2_init_55 : decode cX2_init 55 = .ok (.newarray .int, 2) := by decide +kernel
theorem dX2_init_57 : decode cX2_init 57 = .ok (.putfield 31, 3) := by decide +kernel
theorem dX2_init_60 : decode cX2_init 60 = .ok (.aload_n 0, 1) := by decide +kernel
theorem dX2_init_61 : decode cX2_init 61 = .ok (.iconst 0, 1) := by decide +kernel
theorem dX2_init_62 : decode cX2_init 62 = .ok (.putfield 34, 3) := by decide +kernel
theorem dX2_init_65 : decode cX2_init 65 = .ok (.return_, 1) := by decide +kernel
theorem dX2_add_0 : decode cX2_add 0 = .ok (.aload_n 0, 1) := by decide +kernel
theorem dX2_add_1 : decode cX2_add 1 = .ok (.getfield 34, 3) := by decide +kernel
theorem dX2_add_4 : decode cX2_add 4 = .ok (.bipush 100, 2) := by decide +kernel
theorem dX2_add_6 : decode cX2_add 6 = .ok (.if_icmp .lt 5, 3) := by decide +kernel
theorem dX2_add_9 : decode cX2_add 9 = .ok (.iconst (-1), 1) := by decide +kernel
theorem dX2_add_10 : decode cX2_add 10 = .ok (.ireturn, 1) := by decide +kernel
theorem dX2_add_11 : decode cX2_add 11 = .ok (.aload_n 0, 1) := by decide +kernel
theorem dX2_add_12 : decode cX2_add 12 = .ok (.getfield 9, 3) := by decide +kernel
theorem dX2_add_15 : decode cX2_add 15 = .ok (.aload_n 0, 1) := by decide +kernel
theorem dX2_add_16 : decode cX2_add 16 = .ok (.getfield 34, 3) := by decide +kernel
theorem dX2_add_19 : decode cX2_add 19 = .ok (.iload_n 1, 1) := by decide +kernel
theorem dX2_add_20 : decode cX2_add 20 = .ok (.iastore, 1) := by decide +kernel
theorem dX2_add_21 : decode cX2_add 21 = .ok (.aload_n 0, 1) := by decide +kernel
theorem dX2_add_22 : decode cX2_add 22 = .ok (.getfield 15, 3) := by decide +kernel
theorem dX2_add_25 : decode cX2_add 25 = .ok (.aload_n 0, 1) := by decide +kernel
theorem dX2_add_26 : decode cX2_add 26 = .ok (.getfield 34, 3) := by decide +kernel
theorem dX2_add_29 : decode cX2_add 29 = .ok (.iload_n 2, 1) := by decide +kernel
theorem dX2_add_30 : decode cX2_add 30 = .ok (.iastore, 1) := by decide +kernel
theorem dX2_add_31 : decode cX2_add 31 = .ok (.aload_n 0, 1) := by decide +kernel
theorem dX2_add_32 : decode cX2_add 32 = .ok (.getfield 18, 3) := by decide +kernel
theorem dX2_add_35 : decode cX2_add 35 = .ok (.aload_n 0, 1) := by decide +kernel
theorem dX2_add_36 : decode cX2_add 36 = .ok (.getfield 34, 3) := by decide +kernel
theorem dX2_add_39 : decode cX2_add 39 = .ok (.iload_n 3, 1) := by decide +kernel
theorem dX2_add_40 : decode cX2_add 40 = .ok (.iastore, 1) := by decide +kernel
theorem dX2_add_41 : decode cX2_add 41 = .ok (.aload_n 0, 1) := by decide +kernel
theorem dX2_add_42 : decode cX2_add 42 = .ok (.getfield 21, 3) := by decide +kernel
theorem dX2_add_45 : decode cX2_add 45 = .ok (.aload_n 0, 1) := by decide +kernel
theorem dX2_add_46 : decode cX2_add 46 = .ok (.getfield 34, 3) := by decide +kernel
theorem dX2_add_49 : decode cX2_add 49 = .ok (.iload 4, 2) := by decide +kernel
theorem dX2_add_51 : decode cX2_add 51 = .ok (.iastore, 1) := by decide +kernel
theorem dX2_add_52 : decode cX2_add 52 = .ok (.aload_n 0, 1) := by decide +kernel
theorem dX2_add_53 : decode cX2_add 53 = .ok (.getfield 24, 3) := by decide +kernel
theorem dX2_add_56 : decode cX2_add 56 = .ok (.aload_n 0, 1) := by decide +kernel
theorem dX2_add_57 : decode cX2_add 57 = .ok (.getfield 34, 3) := by decide +kernel
theorem dX2_add_60 : decode cX2_add 60 = .ok (.iload 5, 2) := by decide +kernel
theorem dX2_add_62 : decode cX2_add 62 = .ok (.iastore, 1) := by decide +kernel
theorem dX2_add_63 : decode cX2_add 63 = .ok (.aload_n 0, 1) := by decide +kernel
theorem dX2_add_64 : decode cX2_add 64 = .ok (.getfield 27, 3) := by decide +kernel
theorem dX2_add_67 : decode cX2_add 67 = .ok (.aload_n 0, 1) := by decide +kernel
theorem dX2_add_68 : decode cX2_add 68 = .ok (.getfield 34, 3) := by decide +kernel
theorem dX2_add_71 : decode cX2_add 71 = .ok (.iconst 0, 1) := by decide +kernel
theorem dX2_add_72 : decode cX2_add 72 = .ok (.bastore, 1) := by decide +kernel
theorem dX2_add_73 : decode cX2_add 73 = .ok (.aload_n 0, 1) := by decide +kernel
theorem dX2_add_74 : decode cX2_add 74 = .ok (.getfield 31, 3) := by decide +kernel
theorem dX2_add_77 : decode cX2_add 77 = .ok (.aload_n 0, 1) := by decide +kernel
theorem dX2_add_78 : decode cX2_add 78 = .ok (.getfield 34, 3) := by decide +kernel
theorem dX2_add_81 : decode cX2_add 81 = .ok (.iconst (-1), 1) := by decide +kernel
theorem dX2_add_82 : decode cX2_add 82 = .ok (.iastore, 1) := by decide +kernel
theorem dX2_add_83 : decode cX2_add 83 = .ok (.aload_n 0, 1) := by decide +kernel
theorem dX2_add_84 : decode cX2_add 84 = .ok (.dup, 1) := by decide +kernel
theorem dX2_add_85 : decode cX2_add 85 = .ok (.getfield 34, 3) := by decide +kernel
theorem dX2_add_88 : decode cX2_add 88 = .ok (.iconst 1, 1) := by decide +kernel
theorem dX2_add_89 : decode cX2_add 89 = .ok (.iadd, 1) := by decide +kernel
theorem dX2_add_90 : decode cX2_add 90 = .ok (.putfield 34, 3) := by decide +kernel
theorem dX2_add_93 : decode cX2_add 93 = .ok (.aload_n 0, 1) := by decide +kernel
theorem dX2_add_94 : decode cX2_add 94 = .ok (.getfield 34, 3) := by decide +kernel
theorem dX2_add_97 : decode cX2_add 97 = .ok (.iconst 1, 1) := by decide +kernel
theorem dX2_add_98 : decode cX2_add 98 = .ok (.isub, 1) := by decide +kernel
theorem dX2_add_99 : decode cX2_add 99 = .ok (.ireturn, 1) := by decide +kernel
theorem dX2_rotWaiting_0 : decode cX2_rotWaiting 0 = .ok (.iconst 0, 1) := by decide +kernel
theorem dX2_rotWaiting_1 : decode cX2_rotWaiting 1 = .ok (.istore_n 2, 1) := by decide +kernel
theorem dX2_rotWaiting_2 : decode cX2_rotWaiting 2 = .ok (.iload_n 2, 1) := by decide +kernel
theorem dX2_rotWaiting_3 : decode cX2_rotWaiting 3 = .ok (.aload_n 0, 1) := by decide +kernel
theorem dX2_rotWaiting_4 : decode cX2_rotWaiting 4 = .ok (.getfield 34, 3) := by decide +kernel
theorem dX2_rotWaiting_7 : decode cX2_rotWaiting 7 = .ok (.if_icmp .ge 38, 3) := by decide +kernel
theorem dX2_rotWaiting_10 : decode cX2_rotWaiting 10 = .ok (.aload_n 0, 1) := by decide +kernel
theorem dX2_rotWaiting_11 : decode cX2_rotWaiting 11 = .ok (.getfield 27, 3) := by decide +kernel
theorem dX2_rotWaiting_14 : decode cX2_rotWaiting 14 = .ok (.iload_n 2, 1) := by decide +kernel
theorem dX2_rotWaiting_15 : decode cX2_rotWaiting 15 = .ok (.baload, 1) := by decide +kernel
theorem dX2_rotWaiting_16 : decode cX2_rotWaiting 16 = .ok (.ifCond .ne 23, 3) := by decide +kernel
theorem dX2_rotWaiting_19 : decode cX2_rotWaiting 19 = .ok (.aload_n 0, 1) := by decide +kernel
theorem dX2_rotWaiting_20 : decode cX2_rotWaiting 20 = .ok (.getfield 21, 3) := by decide +kernel
theorem dX2_rotWaiting_23 : decode cX2_rotWaiting 23 = .ok (.iload_n 2, 1) := by decide +kernel
theorem dX2_rotWaiting_24 : decode cX2_rotWaiting 24 = .ok (.dup2, 1) := by decide +kernel
theorem dX2_rotWaiting_25 : decode cX2_rotWaiting 25 = .ok (.iaload, 1) := by decide +kernel
theorem dX2_rotWaiting_26 : decode cX2_rotWaiting 26 = .ok (.aload_n 0, 1) := by decide +kernel
theorem dX2_rotWaiting_27 : decode cX2_rotWaiting 27 = .ok (.getfield 21, 3) := by decide +kernel
theorem dX2_rotWaiting_30 : decode cX2_rotWaiting 30 = .ok (.iload_n 2, 1) := by decide +kernel
theorem dX2_rotWaiting_31 : decode cX2_rotWaiting 31 = .ok (.iaload, 1) := by decide +kernel
theorem dX2_rotWaiting_32 : decode cX2_rotWaiting 32 = .ok (.iload_n 1, 1) := by decide +kernel
theorem dX2_rotWaiting_33 : decode cX2_rotWaiting 33 = .ok (.imul, 1) := by decide +kernel
theorem dX2_rotWaiting_34 : decode cX2_rotWaiting 34 = .ok (.bipush 100, 2) := by decide +kernel
theorem dX2_rotWaiting_36 : decode cX2_rotWaiting 36 = .ok (.idiv, 1) := by decide +kernel
theorem dX2_rotWaiting_37 : decode cX2_rotWaiting 37 = .ok (.isub, 1) := by decide +kernel
theorem dX2_rotWaiting_38 : decode cX2_rotWaiting 38 = .ok (.iastore, 1) := by decide +kernel
theorem dX2_rotWaiting_39 : decode cX2_rotWaiting 39 = .ok (.iinc 2 1, 3) := by decide +kernel
theorem dX2_rotWaiting_42 : decode cX2_rotWaiting 42 = .ok (.goto (-40), 3) := by decide +kernel
theorem dX2_rotWaiting_45 : decode cX2_rotWaiting 45 = .ok (.return_, 1) := by decide +kernel
theorem dX2_nextOffered_0 : decode cX2_nextOffered 0 = .ok (.iload_n 3, 1) := by decide +kernel
theorem dX2_nextOffered_1 : decode cX2_nextOffered 1 = .ok (.iconst 0, 1) := by decide +kernel
theorem dX2_nextOffered_2 : decode cX2_nextOffered 2 = .ok (.invokestatic 38, 3) := by decide +kernel
theorem dX2_nextOffered_5 : decode cX2_nextOffered 5 = .ok (.istore 4, 2) := by decide +kernel
theorem dX2_nextOffered_7 : decode cX2_nextOffered 7 = .ok (.iload 4, 2) := by decide +kernel
theorem dX2_nextOffered_9 : decode cX2_nextOffered 9 = .ok (.aload_n 0, 1) := by decide +kernel
theorem dX2_nextOffered_10 : decode cX2_nextOffered 10 = .ok (.getfield 34, 3) := by decide +kernel
theorem dX2_nextOffered_13 : decode cX2_nextOffered 13 = .ok (.if_icmp .ge 51, 3) := by decide +kernel
theorem dX2_nextOffered_16 : decode cX2_nextOffered 16 = .ok (.aload_n 0, 1) := by decide +kernel
theorem dX2_nextOffered_17 : decode cX2_nextOffered 17 = .ok (.getfield 9, 3) := by decide +kernel
theorem dX2_nextOffered_20 : decode cX2_nextOffered 20 = .ok (.iload 4, 2) := by decide +kernel
theorem dX2_nextOffered_22 : decode cX2_nextOffered 22 = .ok (.iaload, 1) := by decide +kernel
theorem dX2_nextOffered_23 : decode cX2_nextOffered 23 = .ok (.iload_n 1, 1) := by decide +kernel
theorem dX2_nextOffered_24 : decode cX2_nextOffered 24 = .ok (.if_icmp .ne 34, 3) := by decide +kernel
theorem dX2_nextOffered_27 : decode cX2_nextOffered 27 = .ok (.aload_n 0, 1) := by decide +kernel
theorem dX2_nextOffered_28 : decode cX2_nextOffered 28 = .ok (.getfield 24, 3) := by decide +kernel
theorem dX2_nextOffered_31 : decode cX2_nextOffered 31 = .ok (.iload 4, 2) := by decide +kernel
theorem dX2_nextOffered_33 : decode cX2_nextOffered 33 = .ok (.iaload, 1) := by decide +kernel
theorem dX2_nextOffered_34 : decode cX2_nextOffered 34 = .ok (.iload_n 2, 1) := by decide +kernel
theorem dX2_nextOffered_35 : decode cX2_nextOffered 35 = .ok (.if_icmp .ne 23, 3) := by decide +kernel
theorem dX2_nextOffered_38 : decode cX2_nextOffered 38 = .ok (.aload_n 0, 1) := by decide +kernel
theorem dX2_nextOffered_39 : decode cX2_nextOffered 39 = .ok (.getfield 27, 3) := by decide +kernel
theorem dX2_nextOffered_42 : decode cX2_nextOffered 42 = .ok (.iload 4, 2) := by decide +kernel
theorem dX2_nextOffered_44 : decode cX2_nextOffered 44 = .ok (.baload, 1) := by decide +kernel
theorem dX2_nextOffered_45 : decode cX2_nextOffered 45 = .ok (.ifCond .ne 13, 3) := by decide +kernel
theorem dX2_nextOffered_48 : decode cX2_nextOffered 48 = .ok (.aload_n 0, 1) := by decide +kernel
theorem dX2_nextOffered_49 : decode cX2_nextOffered 49 = .ok (.getfield 21, 3) := by decide +kernel
theorem dX2_nextOffered_52 : decode cX2_nextOffered 52 = .ok (.iload 4, 2) := by decide +kernel
theorem dX2_nextOffered_54 : decode cX2_nextOffered 54 = .ok (.iaload, 1) := by decide +kernel
theorem dX2_nextOffered_55 : decode cX2_nextOffered 55 = .ok (.ifCond .gt 9, 3) := by decide +kernel
theorem dX2_nextOffered_58 : decode cX2_nextOffered 58 = .ok (.iinc 4 1, 3) := by decide +kernel
theorem dX2_nextOffered_61 : decode cX2_nextOffered 61 = .ok (.goto (-54), 3) := by decide +kernel
theorem dX2_nextOffered_64 : decode cX2_nextOffered 64 = .ok (.iload 4, 2) := by decide +kernel
theorem dX2_nextOffered_66 : decode cX2_nextOffered 66 = .ok (.aload_n 0, 1) := by decide +kernel
theorem dX2_nextOffered_67 : decode cX2_nextOffered 67 = .ok (.getfield 34, 3) := by decide +kernel
theorem dX2_nextOffered_70 : decode cX2_nextOffered 70 = .ok (.invokestatic 44, 3) := by decide +kernel
theorem dX2_nextOffered_73 : decode cX2_nextOffered 73 = .ok (.ireturn, 1) := by decide +kernel
theorem dX3_init_0 : decode cX3_init 0 = .ok (.aload_n 0, 1) := by decide +kernel
theorem dX3_init_1 : decode cX3_init 1 = .ok (.invokespecial 3, 3) := by decide +kernel
theorem dX3_init_4 : decode cX3_init 4 = .ok (.aload_n 0, 1) := by decide +kernel
theorem dX3_init_5 : decode cX3_init 5 = .ok (.bipush 8, 2) := by decide +kernel
theorem dX3_init_7 : decode cX3_init 7 = .ok (.newarray .long, 2) := by decide +kernel
theorem dX3_init_9 : decode cX3_init 9 = .ok (.putfield 9, 3) := by decide +kernel
theorem dX3_init_12 : decode cX3_init 12 = .ok (.aload_n 0, 1) := by decide +kernel
theorem dX3_init_13 : decode cX3_init 13 = .ok (.bipush 8, 2) := by decide +kernel
theorem dX3_init_15 : decode cX3_init 15 = .ok (.newarray .long, 2) := by decide +kernel
theorem dX3_init_17 : decode cX3_init 17 = .ok (.putfield 15, 3) := by decide +kernel
theorem dX3_init_20 : decode cX3_init 20 = .ok (.aload_n 0, 1) := by decide +kernel
theorem dX3_init_21 : decode cX3_init 21 = .ok (.aload_n 1, 1) := by decide +kernel
theorem dX3_init_22 : decode cX3_init 22 = .ok (.putfield 18, 3) := by decide +kernel
theorem dX3_init_25 : decode cX3_init 25 = .ok (.aload_n 0, 1) := by decide +kernel
theorem dX3_init_26 : decode cX3_init 26 = .ok (.aload_n 2, 1) := by decide +kernel
theorem dX3_init_27 : decode cX3_init 27 = .ok (.putfield 22, 3) := by decide +kernel
theorem dX3_init_30 : decode cX3_init 30 = .ok (.aload_n 0, 1) := by decide +kernel
theorem dX3_init_31 : decode cX3_init 31 = .ok (.aload_n 3, 1) := by decide +kernel
theorem dX3_init_32 : decode cX3_init 32 = .ok (.putfield 26, 3) := by decide +kernel
theorem dX3_init_35 : decode cX3_init 35 = .ok (.return_, 1) := by decide +kernel
theorem dX3_claimOf_0 : decode cX3_claimOf 0 = .ok (.aload_n 0, 1) := by decide +kernel
theorem dX3_claimOf_1 : decode cX3_claimOf 1 = .ok (.getfield 22, 3) := by decide +kernel
theorem dX3_claimOf_4 : decode cX3_claimOf 4 = .ok (.getfield 30, 3) := by decide +kernel
theorem dX3_claimOf_7 : decode cX3_claimOf 7 = .ok (.iload_n 1, 1) := by decide +kernel
theorem dX3_claimOf_8 : decode cX3_claimOf 8 = .ok (.iaload, 1) := by decide +kernel
theorem dX3_claimOf_9 : decode cX3_claimOf 9 = .ok (.istore_n 2, 1) := by decide +kernel
theorem dX3_claimOf_10 : decode cX3_claimOf 10 = .ok (.iload_n 2, 1) := by decide +kernel
theorem dX3_claimOf_11 : decode cX3_claimOf 11 = .ok (.iconst (-1), 1) := by decide +kernel
theorem dX3_claimOf_12 : decode cX3_claimOf 12 = .ok (.if_icmp .eq 13, 3) := by decide +kernel
theorem dX3_claimOf_15 : decode cX3_claimOf 15 = .ok (.aload_n 0, 1) := by decide +kernel
theorem dX3_claimOf_16 : decode cX3_claimOf 16 = .ok (.getfield 26, 3) := by decide +kernel
theorem dX3_claimOf_19 : decode cX3_claimOf 19 = .ok (.getfield 36, 3) := by decide +kernel
theorem dX3_claimOf_22 : decode cX3_claimOf 22 = .ok (.ifCond .ne 5, 3) := by decide +kernel
theorem dX3_claimOf_25 : decode cX3_claimOf 25 = .ok (.iconst 0, 1) := by decide +kernel
theorem dX3_claimOf_26 : decode cX3_claimOf 26 = .ok (.ireturn, 1) := by decide +kernel
theorem dX3_claimOf_27 : decode cX3_claimOf 27 = .ok (.aload_n 0, 1) := by decide +kernel
theorem dX3_claimOf_28 : decode cX3_claimOf 28 = .ok (.getfield 22, 3) := by decide +kernel
theorem dX3_claimOf_31 : decode cX3_claimOf 31 = .ok (.getfield 42, 3) := by decide +kernel
theorem dX3_claimOf_34 : decode cX3_claimOf 34 = .ok (.iload_n 1, 1) := by decide +kernel
theorem dX3_claimOf_35 : decode cX3_claimOf 35 = .ok (.iaload, 1) := by decide +kernel
theorem dX3_claimOf_36 : decode cX3_claimOf 36 = .ok (.aload_n 0, 1) := by decide +kernel
theorem dX3_claimOf_37 : decode cX3_claimOf 37 = .ok (.getfield 22, 3) := by decide +kernel
theorem dX3_claimOf_40 : decode cX3_claimOf 40 = .ok (.getfield 42, 3) := by decide +kernel
theorem dX3_claimOf_43 : decode cX3_claimOf 43 = .ok (.iload_n 2, 1) := by decide +kernel
theorem dX3_claimOf_44 : decode cX3_claimOf 44 = .ok (.iaload, 1) := by decide +kernel
theorem dX3_claimOf_45 : decode cX3_claimOf 45 = .ok (.isub, 1) := by decide +kernel
theorem dX3_claimOf_46 : decode cX3_claimOf 46 = .ok (.iconst 0, 1) := by decide +kernel
theorem dX3_claimOf_47 : decode cX3_claimOf 47 = .ok (.invokestatic 45, 3) := by decide +kernel
theorem dX3_claimOf_50 : decode cX3_claimOf 50 = .ok (.aload_n 0, 1) := by decide +kernel
theorem dX3_claimOf_51 : decode cX3_claimOf 51 = .ok (.getfield 22, 3) := by decide +kernel
theorem dX3_claimOf_54 : decode cX3_claimOf 54 = .ok (.getfield 51, 3) := by decide +kernel
theorem dX3_claimOf_57 : decode cX3_claimOf 57 = .ok (.iload_n 2, 1) := by decide +kernel
theorem dX3_claimOf_58 : decode cX3_claimOf 58 = .ok (.iaload, 1) := by decide +kernel
theorem dX3_claimOf_59 : decode cX3_claimOf 59 = .ok (.imul, 1) := by decide +kernel
theorem dX3_claimOf_60 : decode cX3_claimOf 60 = .ok (.ireturn, 1) := by decide +kernel
theorem dX3_poolAsOf_0 : decode cX3_poolAsOf 0 = .ok (.lconst 0, 1) := by decide +kernel
theorem dX3_poolAsOf_1 : decode cX3_poolAsOf 1 = .ok (.lstore_n 2, 1) := by decide +kernel
theorem dX3_poolAsOf_2 : decode cX3_poolAsOf 2 = .ok (.iconst 0, 1) := by decide +kernel
theorem dX3_poolAsOf_3 : decode cX3_poolAsOf 3 = .ok (.istore 4, 2) := by decide +kernel
theorem dX3_poolAsOf_5 : decode cX3_poolAsOf 5 = .ok (.iload 4, 2) := by decide +kernel
theorem dX3_poolAsOf_7 : decode cX3_poolAsOf 7 = .ok (.aload_n 0, 1) := by decide +kernel
theorem dX3_poolAsOf_8 : decode cX3_poolAsOf 8 = .ok (.getfield 22, 3) := by decide +kernel
theorem dX3_poolAsOf_11 : decode cX3_poolAsOf 11 = .ok (.getfield 54, 3) := by decide +kernel
theorem dX3_poolAsOf_14 : decode cX3_poolAsOf 14 = .ok (.if_icmp .ge 93, 3) := by decide +kernel
theorem dX3_poolAsOf_17 : decode cX3_poolAsOf 17 = .ok (.aload_n 0, 1) := by decide +kernel
theorem dX3_poolAsOf_18 : decode cX3_poolAsOf 18 = .ok (.getfield 22, 3) := by decide +kernel
theorem dX3_poolAsOf_21 : decode cX3_poolAsOf 21 = .ok (.getfield 30, 3) := by decide +kernel
theorem dX3_poolAsOf_24 : decode cX3_poolAsOf 24 = .ok (.iload 4, 2) := by decide +kernel
theorem dX3_poolAsOf_26 : decode cX3_poolAsOf 26 = .ok (.iaload, 1) := by decide +kernel
theorem dX3_poolAsOf_27 : decode cX3_poolAsOf 27 = .ok (.istore 5, 2) := by decide +kernel
theorem dX3_poolAsOf_29 : decode cX3_poolAsOf 29 = .ok (.aload_n 0, 1) := by decide +kernel
theorem dX3_poolAsOf_30 : decode cX3_poolAsOf 30 = .ok (.getfield 22, 3) := by decide +kernel
theorem dX3_poolAsOf_33 : decode cX3_poolAsOf 33 = .ok (.iload 4, 2) := by decide +kernel
theorem dX3_poolAsOf_35 : decode cX3_poolAsOf 35 = .ok (.iload_n 1, 1) := by decide +kernel
theorem dX3_poolAsOf_36 : decode cX3_poolAsOf 36 = .ok (.invokevirtual 58, 3) := by decide +kernel
theorem dX3_poolAsOf_39 : decode cX3_poolAsOf 39 = .ok (.ifCond .eq 32, 3) := by decide +kernel
theorem dX3_poolAsOf_42 : decode cX3_poolAsOf 42 = .ok (.lload_n 2, 1) := by decide +kernel
theorem dX3_poolAsOf_43 : decode cX3_poolAsOf 43 = .ok (.aload_n 0, 1) := by decide +kernel
theorem dX3_poolAsOf_44 : decode cX3_poolAsOf 44 = .ok (.getfield 22, 3) := by decide +kernel
theorem dX3_poolAsOf_47 : decode cX3_poolAsOf 47 = .ok (.getfield 51, 3) := by decide +kernel
theorem dX3_poolAsOf_50 : decode cX3_poolAsOf 50 = .ok (.iload 4, 2) := by decide +kernel
theorem dX3_poolAsOf_52 : decode cX3_poolAsOf 52 = .ok (.iaload, 1) := by decide +kernel
theorem dX3_poolAsOf_53 : decode cX3_poolAsOf 53 = .ok (.i2l, 1) := by decide +kernel
theorem dX3_poolAsOf_54 : decode cX3_poolAsOf 54 = .ok (.aload_n 0, 1) := by decide +kernel
theorem dX3_poolAsOf_55 : decode cX3_poolAsOf 55 = .ok (.getfield 22, 3) := by decide +kernel
theorem dX3_poolAsOf_58 : decode cX3_poolAsOf 58 = .ok (.getfield 42, 3) := by decide +kernel
theorem dX3_poolAsOf_61 : decode cX3_poolAsOf 61 = .ok (.iload 4, 2) := by decide +kernel
theorem dX3_poolAsOf_63 : decode cX3_poolAsOf 63 = .ok (.iaload, 1) := by decide +kernel
theorem dX3_poolAsOf_64 : decode cX3_poolAsOf 64 = .ok (.i2l, 1) := by decide +kernel
theorem dX3_poolAsOf_65 : decode cX3_poolAsOf 65 = .ok (.lmul, 1) := by decide +kernel
theorem dX3_poolAsOf_66 : decode cX3_poolAsOf 66 = .ok (.ladd, 1) := by decide +kernel
theorem dX3_poolAsOf_67 : decode cX3_poolAsOf 67 = .ok (.lstore_n 2, 1) := by decide +kernel
theorem dX3_poolAsOf_68 : decode cX3_poolAsOf 68 = .ok (.goto 33, 3) := by decide +kernel
theorem dX3_poolAsOf_71 : decode cX3_poolAsOf 71 = .ok (.iload 5, 2) := by decide +kernel
theorem dX3_poolAsOf_73 : decode cX3_poolAsOf 73 = .ok (.iconst (-1), 1) := by decide +kernel
theorem dX3_poolAsOf_74 : decode cX3_poolAsOf 74 = .ok (.if_icmp .eq 27, 3) := by decide +kernel
theorem dX3_poolAsOf_77 : decode cX3_poolAsOf 77 = .ok (.aload_n 0, 1) := by decide +kernel
theorem dX3_poolAsOf_78 : decode cX3_poolAsOf 78 = .ok (.getfield 22, 3) := by decide +kernel
theorem dX3_poolAsOf_81 : decode cX3_poolAsOf 81 = .ok (.getfield 62, 3) := by decide +kernel
theorem dX3_poolAsOf_84 : decode cX3_poolAsOf 84 = .ok (.iload 5, 2) := by decide +kernel
theorem dX3_poolAsOf_86 : decode cX3_poolAsOf 86 = .ok (.iaload, 1) := by decide +kernel
theorem dX3_poolAsOf_87 : decode cX3_poolAsOf 87 = .ok (.iload_n 1, 1) := by decide +kernel
theorem dX3_poolAsOf_88 : decode cX3_poolAsOf 88 = .ok (.if_icmp .gt 13, 3) := by decide +kernel
theorem dX3_poolAsOf_91 : decode cX3_poolAsOf 91 = .ok (.lload_n 2, 1) := by decide +kernel
theorem dX3_poolAsOf_92 : decode cX3_poolAsOf 92 = .ok (.aload_n 0, 1) := by decide +kernel
theorem dX3_poolAsOf_93 : decode cX3_poolAsOf 93 = .ok (.iload 4, 2) := by decide +kernel
theorem dX3_poolAsOf_95 : decode cX3_poolAsOf 95 = .ok (.invokevirtual 65, 3) := by decide +kernel
theorem dX3_poolAsOf_98 : decode cX3_poolAsOf 98 = .ok (.i2l, 1) := by decide +kernel
theorem dX3_poolAsOf_99 : decode cX3_poolAsOf 99 = .ok (.ladd, 1) := by decide +kernel
theorem dX3_poolAsOf_100 : decode cX3_poolAsOf 100 = .ok (.lstore_n 2, 1) := by decide +kernel
theorem dX3_poolAsOf_101 : decode cX3_poolAsOf 101 = .ok (.iinc 4 1, 3) := by decide +kernel
theorem dX3_poolAsOf_104 : decode cX3_poolAsOf 104 = .ok (.goto (-99), 3) := by decide +kernel
theorem dX3_poolAsOf_107 : decode cX3_poolAsOf 107 = .ok (.lload_n 2, 1) := by decide +kernel
theorem dX3_poolAsOf_108 : decode cX3_poolAsOf 108 = .ok (.lreturn, 1) := by decide +kernel
theorem dX3_shareOf_0 : decode cX3_shareOf 0 = .ok (.aload_n 0, 1) := by decide +kernel
theorem dX3_shareOf_1 : decode cX3_shareOf 1 = .ok (.iload_n 2, 1) := by decide +kernel
theorem dX3_shareOf_2 : decode cX3_shareOf 2 = .ok (.invokevirtual 69, 3) := by decide +kernel
theorem dX3_shareOf_5 : decode cX3_shareOf 5 = .ok (.lstore_n 3, 1) := by decide +kernel
theorem dX3_shareOf_6 : decode cX3_shareOf 6 = .ok (.lload_n 3, 1) := by decide +kernel
theorem dX3_shareOf_7 : decode cX3_shareOf 7 = .ok (.lconst 1, 1) := by decide +kernel
theorem dX3_shareOf_8 : decode cX3_shareOf 8 = .ok (.lcmp, 1) := by decide +kernel
theorem dX3_shareOf_9 : decode cX3_shareOf 9 = .ok (.ifCond .ge 5, 3) := by decide +kernel
theorem dX3_shareOf_12 : decode cX3_shareOf 12 = .ok (.lconst 0, 1) := by decide +kernel
theorem dX3_shareOf_13 : decode cX3_shareOf 13 = .ok (.lreturn, 1) := by decide +kernel
theorem dX3_shareOf_14 : decode cX3_shareOf 14 = .ok (.aload_n 0, 1) := by decide +kernel
theorem dX3_shareOf_15 : decode cX3_shareOf 15 = .ok (.iload_n 2, 1) := by decide +kernel
theorem dX3_shareOf_16 : decode cX3_shareOf 16 = .ok (.invokevirtual 73, 3) := by decide +kernel
theorem dX3_shareOf_19 : decode cX3_shareOf 19 = .ok (.lstore 5, 2) := by decide +kernel
theorem dX3_shareOf_21 : decode cX3_shareOf 21 = .ok (.lload 5, 2) := by decide +kernel
theorem dX3_shareOf_23 : decode cX3_shareOf 23 = .ok (.lstore 7, 2) := by decide +kernel
theorem dX3_shareOf_25 : decode cX3_shareOf 25 = .ok (.iconst 0, 1) := by decide +kernel
theorem dX3_shareOf_26 : decode cX3_shareOf 26 = .ok (.istore 9, 2) := by decide +kernel
theorem dX3_shareOf_28 : decode cX3_shareOf 28 = .ok (.iload 9, 2) := by decide +kernel
theorem dX3_shareOf_30 : decode cX3_shareOf 30 = .ok (.bipush 8, 2) := by decide +kernel
theorem dX3_shareOf_32 : decode cX3_shareOf 32 = .ok (.if_icmp .ge 45, 3) := by decide +kernel
theorem dX3_shareOf_35 : decode cX3_shareOf 35 = .ok (.lload 7, 2) := by decide +kernel
theorem dX3_shareOf_37 : decode cX3_shareOf 37 = .ok (.lload 5, 2) := by decide +kernel
theorem dX3_shareOf_39 : decode cX3_shareOf 39 = .ok (.aload_n 0, 1) := by decide +kernel
theorem dX3_shareOf_40 : decode cX3_shareOf 40 = .ok (.getfield 9, 3) := by decide +kernel
theorem dX3_shareOf_43 : decode cX3_shareOf 43 = .ok (.iload 9, 2) := by decide +kernel
theorem dX3_shareOf_45 : decode cX3_shareOf 45 = .ok (.laload, 1) := by decide +kernel
theorem dX3_shareOf_46 : decode cX3_shareOf 46 = .ok (.lmul, 1) := by decide +kernel
theorem dX3_shareOf_47 : decode cX3_shareOf 47 = .ok (.lload_n 3, 1) := by decide +kernel
theorem dX3_shareOf_48 : decode cX3_shareOf 48 = .ok (.ldiv, 1) := by decide +kernel
theorem dX3_shareOf_49 : decode cX3_shareOf 49 = .ok (.lsub, 1) := by decide +kernel
theorem dX3_shareOf_50 : decode cX3_shareOf 50 = .ok (.lstore 7, 2) := by decide +kernel
theorem dX3_shareOf_52 : decode cX3_shareOf 52 = .ok (.aload_n 0, 1) := by decide +kernel
theorem dX3_shareOf_53 : decode cX3_shareOf 53 = .ok (.getfield 15, 3) := by decide +kernel
theorem dX3_shareOf_56 : decode cX3_shareOf 56 = .ok (.iload 9, 2) := by decide +kernel
theorem dX3_shareOf_58 : decode cX3_shareOf 58 = .ok (.lload 5, 2) := by decide +kernel
theorem dX3_shareOf_60 : decode cX3_shareOf 60 = .ok (.aload_n 0, 1) := by decide +kernel
theorem dX3_shareOf_61 : decode cX3_shareOf 61 = .ok (.getfield 9, 3) := by decide +kernel
theorem dX3_shareOf_64 : decode cX3_shareOf 64 = .ok (.iload 9, 2) := by decide +kernel
theorem dX3_shareOf_66 : decode cX3_shareOf 66 = .ok (.laload, 1) := by decide +kernel
theorem dX3_shareOf_67 : decode cX3_shareOf 67 = .ok (.lmul, 1) := by decide +kernel
theorem dX3_shareOf_68 : decode cX3_shareOf 68 = .ok (.lload_n 3, 1) := by decide +kernel
theorem dX3_shareOf_69 : decode cX3_shareOf 69 = .ok (.lrem, 1) := by decide +kernel
theorem dX3_shareOf_70 : decode cX3_shareOf 70 = .ok (.lastore, 1) := by decide +kernel
theorem dX3_shareOf_71 : decode cX3_shareOf 71 = .ok (.iinc 9 1, 3) := by decide +kernel
theorem dX3_shareOf_74 : decode cX3_shareOf 74 = .ok (.goto (-46), 3) := by decide +kernel
theorem dX3_shareOf_77 : decode cX3_shareOf 77 = .ok (.lload 5, 2) := by decide +kernel
theorem dX3_shareOf_79 : decode cX3_shareOf 79 = .ok (.aload_n 0, 1) := by decide +kernel
theorem dX3_shareOf_80 : decode cX3_shareOf 80 = .ok (.getfield 9, 3) := by decide +kernel
theorem dX3_shareOf_83 : decode cX3_shareOf 83 = .ok (.iload_n 1, 1) := by decide +kernel
theorem dX3_shareOf_84 : decode cX3_shareOf 84 = .ok (.laload, 1) := by decide +kernel
theorem dX3_shareOf_85 : decode cX3_shareOf 85 = .ok (.lmul, 1) := by decide +kernel
theorem dX3_shareOf_86 : decode cX3_shareOf 86 = .ok (.lload_n 3, 1) := by decide +kernel
theorem dX3_shareOf_87 : decode cX3_shareOf 87 = .ok (.ldiv, 1) := by decide +kernel
theorem dX3_shareOf_88 : decode cX3_shareOf 88 = .ok (.lstore 9, 2) := by decide +kernel
theorem dX3_shareOf_90 : decode cX3_shareOf 90 = .ok (.aload_n 0, 1) := by decide +kernel
theorem dX3_shareOf_91 : decode cX3_shareOf 91 = .ok (.iload_n 1, 1) := by decide +kernel
theorem dX3_shareOf_92 : decode cX3_shareOf 92 = .ok (.invokevirtual 76, 3) := by decide +kernel
theorem dX3_shareOf_95 : decode cX3_shareOf 95 = .ok (.i2l, 1) := by decide +kernel
theorem dX3_shareOf_96 : decode cX3_shareOf 96 = .ok (.lload 7, 2) := by decide +kernel
theorem dX3_shareOf_98 : decode cX3_shareOf 98 = .ok (.lcmp, 1) := by decide +kernel
theorem dX3_shareOf_99 : decode cX3_shareOf 99 = .ok (.ifCond .ge 10, 3) := by decide +kernel
theorem dX3_shareOf_102 : decode cX3_shareOf 102 = .ok (.lload 9, 2) := by decide +kernel
theorem dX3_shareOf_104 : decode cX3_shareOf 104 = .ok (.lconst 1, 1) := by decide +kernel
theorem dX3_shareOf_105 : decode cX3_shareOf 105 = .ok (.ladd, 1) := by decide +kernel
theorem dX3_shareOf_106 : decode cX3_shareOf 106 = .ok (.goto 5, 3) := by decide +kernel
theorem dX3_shareOf_109 : decode cX3_shareOf 109 = .ok (.lload 9, 2) := by decide +kernel
theorem dX3_shareOf_111 : decode cX3_shareOf 111 = .ok (.lreturn, 1) := by decide +kernel
theorem dX3_weigh_0 : decode cX3_weigh 0 = .ok (.iconst 0, 1) := by decide +kernel
theorem dX3_weigh_1 : decode cX3_weigh 1 = .ok (.istore_n 2, 1) := by decide +kernel
theorem dX3_weigh_2 : decode cX3_weigh 2 = .ok (.iload_n 2, 1) := by decide +kernel
theorem dX3_weigh_3 : decode cX3_weigh 3 = .ok (.bipush 8, 2) := by decide +kernel
theorem dX3_weigh_5 : decode cX3_weigh 5 = .ok (.if_icmp .ge 16, 3) := by decide +kernel
theorem dX3_weigh_8 : decode cX3_weigh 8 = .ok (.aload_n 0, 1) := by decide +kernel
theorem dX3_weigh_9 : decode cX3_weigh 9 = .ok (.getfield 9, 3) := by decide +kernel
theorem dX3_weigh_12 : decode cX3_weigh 12 = .ok (.iload_n 2, 1) := by decide +kernel
theorem dX3_weigh_13 : decode cX3_weigh 13 = .ok (.lconst 0, 1) := by decide +kernel
theorem dX3_weigh_14 : decode cX3_weigh 14 = .ok (.lastore, 1) := by decide +kernel
theorem dX3_weigh_15 : decode cX3_weigh 15 = .ok (.iinc 2 1, 3) := by decide +kernel
theorem dX3_weigh_18 : decode cX3_weigh 18 = .ok (.goto (-16), 3) := by decide +kernel
theorem dX3_weigh_21 : decode cX3_weigh 21 = .ok (.lconst 0, 1) := by decide +kernel
theorem dX3_weigh_22 : decode cX3_weigh 22 = .ok (.lstore_n 2, 1) := by decide +kernel
theorem dX3_weigh_23 : decode cX3_weigh 23 = .ok (.iconst 0, 1) := by decide +kernel
theorem dX3_weigh_24 : decode cX3_weigh 24 = .ok (.istore 4, 2) := by decide +kernel
theorem dX3_weigh_26 : decode cX3_weigh 26 = .ok (.iload 4, 2) := by decide +kernel
theorem dX3_weigh_28 : decode cX3_weigh 28 = .ok (.aload_n 0, 1) := by decide +kernel
theorem dX3_weigh_29 : decode cX3_weigh 29 = .ok (.getfield 22, 3) := by decide +kernel
theorem dX3_weigh_32 : decode cX3_weigh 32 = .ok (.getfield 54, 3) := by decide +kernel
theorem dX3_weigh_35 : decode cX3_weigh 35 = .ok (.if_icmp .ge 92, 3) := by decide +kernel
theorem dX3_weigh_38 : decode cX3_weigh 38 = .ok (.aload_n 0, 1) := by decide +kernel
theorem dX3_weigh_39 : decode cX3_weigh 39 = .ok (.getfield 22, 3) := by decide +kernel
theorem dX3_weigh_42 : decode cX3_weigh 42 = .ok (.iload 4, 2) := by decide +kernel
theorem dX3_weigh_44 : decode cX3_weigh 44 = .ok (.iload_n 1, 1) := by decide +kernel
theorem dX3_weigh_45 : decode cX3_weigh 45 = .ok (.invokevirtual 58, 3) := by decide +kernel
theorem dX3_weigh_48 : decode cX3_weigh 48 = .ok (.ifCond .eq 73, 3) := by decide +kernel
theorem dX3_weigh_51 : decode cX3_weigh 51 = .ok (.aload_n 0, 1) := by decide +kernel
theorem dX3_weigh_52 : decode cX3_weigh 52 = .ok (.getfield 22, 3) := by decide +kernel
theorem dX3_weigh_55 : decode cX3_weigh 55 = .ok (.getfield 79, 3) := by decide +kernel
theorem dX3_weigh_58 : decode cX3_weigh 58 = .ok (.iload 4, 2) := by decide +kernel
theorem dX3_weigh_60 : decode cX3_weigh 60 = .ok (.iaload, 1) := by decide +kernel
theorem dX3_weigh_61 : decode cX3_weigh 61 = .ok (.istore 5, 2) := by decide +kernel
theorem dX3_weigh_63 : decode cX3_weigh 63 = .ok (.aload_n 0, 1) := by decide +kernel
theorem dX3_weigh_64 : decode cX3_weigh 64 = .ok (.getfield 22, 3) := by decide +kernel
theorem dX3_weigh_67 : decode cX3_weigh 67 = .ok (.getfield 51, 3) := by decide +kernel
theorem dX3_weigh_70 : decode cX3_weigh 70 = .ok (.iload 4, 2) := by decide +kernel
theorem dX3_weigh_72 : decode cX3_weigh 72 = .ok (.iaload, 1) := by decide +kernel
theorem dX3_weigh_73 : decode cX3_weigh 73 = .ok (.i2l, 1) := by decide +kernel
theorem dX3_weigh_74 : decode cX3_weigh 74 = .ok (.aload_n 0, 1) := by decide +kernel
theorem dX3_weigh_75 : decode cX3_weigh 75 = .ok (.getfield 26, 3) := by decide +kernel
theorem dX3_weigh_78 : decode cX3_weigh 78 = .ok (.getfield 82, 3) := by decide +kernel
theorem dX3_weigh_81 : decode cX3_weigh 81 = .ok (.aload_n 0, 1) := by decide +kernel
theorem dX3_weigh_82 : decode cX3_weigh 82 = .ok (.getfield 18, 3) := by decide +kernel
theorem dX3_weigh_85 : decode cX3_weigh 85 = .ok (.getfield 85, 3) := by decide +kernel
theorem dX3_weigh_88 : decode cX3_weigh 88 = .ok (.iload 5, 2) := by decide +kernel
theorem dX3_weigh_90 : decode cX3_weigh 90 = .ok (.iaload, 1) := by decide +kernel
theorem dX3_weigh_91 : decode cX3_weigh 91 = .ok (.iaload, 1) := by decide +kernel
theorem dX3_weigh_92 : decode cX3_weigh 92 = .ok (.i2l, 1) := by decide +kernel
theorem dX3_weigh_93 : decode cX3_weigh 93 = .ok (.lmul, 1) := by decide +kernel
theorem dX3_weigh_94 : decode cX3_weigh 94 = .ok (.lstore 6, 2) := by decide +kernel
theorem dX3_weigh_96 : decode cX3_weigh 96 = .ok (.aload_n 0, 1) := by decide +kernel
theorem dX3_weigh_97 : decode cX3_weigh 97 = .ok (.getfield 9, 3) := by decide +kernel
theorem dX3_weigh_100 : decode cX3_weigh 100 = .ok (.aload_n 0, 1) := by decide +kernel
theorem dX3_weigh_101 : decode cX3_weigh 101 = .ok (.getfield 18, 3) := by decide +kernel
theorem dX3_weigh_104 : decode cX3_weigh 104 = .ok (.getfield 90, 3) := by decide +kernel
theorem dX3_weigh_107 : decode cX3_weigh 107 = .ok (.iload 5, 2) := by decide +kernel
theorem dX3_weigh_109 : decode cX3_weigh 109 = .ok (.iaload, 1) := by decide +kernel
theorem dX3_weigh_110 : decode cX3_weigh 110 = .ok (.dup2, 1) := by decide +kernel
theorem dX3_weigh_111 : decode cX3_weigh 111 = .ok (.laload, 1) := by decide +kernel
theorem dX3_weigh_112 : decode cX3_weigh 112 = .ok (.lload 6, 2) := by decide +kernel
theorem dX3_weigh_114 : decode cX3_weigh 114 = .ok (.ladd, 1) := by decide +kernel
theorem dX3_weigh_115 : decode cX3_weigh 115 = .ok (.lastore, 1) := by decide +kernel
theorem dX3_weigh_116 : decode cX3_weigh 116 = .ok (.lload_n 2, 1) := by decide +kernel
theorem dX3_weigh_117 : decode cX3_weigh 117 = .ok (.lload 6, 2) := by decide +kernel
theorem dX3_weigh_119 : decode cX3_weigh 119 = .ok (.ladd, 1) := by decide +kernel
theorem dX3_weigh_120 : decode cX3_weigh 120 = .ok (.lstore_n 2, 1) := by decide +kernel
theorem dX3_weigh_121 : decode cX3_weigh 121 = .ok (.iinc 4 1, 3) := by decide +kernel
theorem dX3_weigh_124 : decode cX3_weigh 124 = .ok (.goto (-98), 3) := by decide +kernel
theorem dX3_weigh_127 : decode cX3_weigh 127 = .ok (.lload_n 2, 1) := by decide +kernel
theorem dX3_weigh_128 : decode cX3_weigh 128 = .ok (.lreturn, 1) := by decide +kernel
theorem dX3_placeByRest_0 : decode cX3_placeByRest 0 = .ok (.iconst 0, 1) := by decide +kernel
theorem dX3_placeByRest_1 : decode cX3_placeByRest 1 = .ok (.istore_n 2, 1) := by decide +kernel
theorem dX3_placeByRest_2 : decode cX3_placeByRest 2 = .ok (.iconst 0, 1) := by decide +kernel
theorem dX3_placeByRest_3 : decode cX3_placeByRest 3 = .ok (.istore_n 3, 1) := by decide +kernel
theorem dX3_placeByRest_4 : decode cX3_placeByRest 4 = .ok (.iload_n 3, 1) := by decide +kernel
theorem dX3_placeByRest_5 : decode cX3_placeByRest 5 = .ok (.bipush 8, 2) := by decide +kernel
theorem dX3_placeByRest_7 : decode cX3_placeByRest 7 = .ok (.if_icmp .ge 49, 3) := by decide +kernel
theorem dX3_placeByRest_10 : decode cX3_placeByRest 10 = .ok (.aload_n 0, 1) := by decide +kernel
theorem dX3_placeByRest_11 : decode cX3_placeByRest 11 = .ok (.getfield 15, 3) := by decide +kernel
theorem dX3_placeByRest_14 : decode cX3_placeByRest 14 = .ok (.iload_n 3, 1) := by decide +kernel
theorem dX3_placeByRest_15 : decode cX3_placeByRest 15 = .ok (.laload, 1) := by decide +kernel
theorem dX3_placeByRest_16 : decode cX3_placeByRest 16 = .ok (.aload_n 0, 1) := by decide +kernel
theorem dX3_placeByRest_17 : decode cX3_placeByRest 17 = .ok (.getfield 15, 3) := by decide +kernel
theorem dX3_placeByRest_20 : decode cX3_placeByRest 20 = .ok (.iload_n 1, 1) := by decide +kernel
theorem dX3_placeByRest_21 : decode cX3_placeByRest 21 = .ok (.laload, 1) := by decide +kernel
theorem dX3_placeByRest_22 : decode cX3_placeByRest 22 = .ok (.lcmp, 1) := by decide +kernel
theorem dX3_placeByRest_23 : decode cX3_placeByRest 23 = .ok (.ifCond .gt 24, 3) := by decide +kernel
theorem dX3_placeByRest_26 : decode cX3_placeByRest 26 = .ok (.aload_n 0, 1) := by decide +kernel
theorem dX3_placeByRest_27 : decode cX3_placeByRest 27 = .ok (.getfield 15, 3) := by decide +kernel
theorem dX3_placeByRest_30 : decode cX3_placeByRest 30 = .ok (.iload_n 3, 1) := by decide +kernel
theorem dX3_placeByRest_31 : decode cX3_placeByRest 31 = .ok (.laload, 1) := by decide +kernel
theorem dX3_placeByRest_32 : decode cX3_placeByRest 32 = .ok (.aload_n 0, 1) := by decide +kernel
theorem dX3_placeByRest_33 : decode cX3_placeByRest 33 = .ok (.getfield 15, 3) := by decide +kernel
theorem dX3_placeByRest_36 : decode cX3_placeByRest 36 = .ok (.iload_n 1, 1) := by decide +kernel
theorem dX3_placeByRest_37 : decode cX3_placeByRest 37 = .ok (.laload, 1) := by decide +kernel
theorem dX3_placeByRest_38 : decode cX3_placeByRest 38 = .ok (.lcmp, 1) := by decide +kernel
theorem dX3_placeByRest_39 : decode cX3_placeByRest 39 = .ok (.ifCond .ne 11, 3) := by decide +kernel
theorem dX3_placeByRest_42 : decode cX3_placeByRest 42 = .ok (.iload_n 3, 1) := by decide +kernel
theorem dX3_placeByRest_43 : decode cX3_placeByRest 43 = .ok (.iload_n 1, 1) := by decide +kernel
theorem dX3_placeByRest_44 : decode cX3_placeByRest 44 = .ok (.if_icmp .ge 6, 3) := by decide +kernel
theorem dX3_placeByRest_47 : decode cX3_placeByRest 47 = .ok (.iinc 2 1, 3) := by decide +kernel
theorem dX3_placeByRest_50 : decode cX3_placeByRest 50 = .ok (.iinc 3 1, 3) := by decide +kernel
theorem dX3_placeByRest_53 : decode cX3_placeByRest 53 = .ok (.goto (-49), 3) := by decide +kernel
theorem dX3_placeByRest_56 : decode cX3_placeByRest 56 = .ok (.iload_n 2, 1) := by decide +kernel
theorem dX3_placeByRest_57 : decode cX3_placeByRest 57 = .ok (.ireturn, 1) := by decide +kernel
theorem dX4_init_0 : decode cX4_init 0 = .ok (.aload_n 0, 1) := by decide +kernel
theorem dX4_init_1 : decode cX4_init 1 = .ok (.invokespecial 3, 3) := by decide +kernel
theorem dX4_init_4 : decode cX4_init 4 = .ok (.aload_n 0, 1) := by decide +kernel
theorem dX4_init_5 : decode cX4_init 5 = .ok (.iconst 4, 1) := by decide +kernel
theorem dX4_init_6 : decode cX4_init 6 = .ok (.newarray .long, 2) := by decide +kernel
theorem dX4_init_8 : decode cX4_init 8 = .ok (.putfield 9, 3) := by decide +kernel
theorem dX4_init_11 : decode cX4_init 11 = .ok (.aload_n 0, 1) := by decide +kernel
theorem dX4_init_12 : decode cX4_init 12 = .ok (.iconst 4, 1) := by decide +kernel
theorem dX4_init_13 : decode cX4_init 13 = .ok (.newarray .long, 2) := by decide +kernel
theorem dX4_init_15 : decode cX4_init 15 = .ok (.putfield 15, 3) := by decide +kernel
theorem dX4_init_18 : decode cX4_init 18 = .ok (.aload_n 0, 1) := by decide +kernel
theorem dX4_init_19 : decode cX4_init 19 = .ok (.iconst 4, 1) := by decide +kernel
theorem dX4_init_20 : decode cX4_init 20 = .ok (.newarray .long, 2) := by decide +kernel
theorem dX4_init_22 : decode cX4_init 22 = .ok (.putfield 18, 3) := by decide +kernel
theorem dX4_init_25 : decode cX4_init 25 = .ok (.aload_n 0, 1) := by decide +kernel
theorem dX4_init_26 : decode cX4_init 26 = .ok (.aload_n 1, 1) := by decide +kernel
theorem dX4_init_27 : decode cX4_init 27 = .ok (.putfield 21, 3) := by decide +kernel
theorem dX4_init_30 : decode cX4_init 30 = .ok (.aload_n 0, 1) := by decide +kernel
theorem dX4_init_31 : decode cX4_init 31 = .ok (.aload_n 2, 1) := by decide +kernel
theorem dX4_init_32 : decode cX4_init 32 = .ok (.putfield 25, 3) := by decide +kernel
theorem dX4_init_35 : decode cX4_init 35 = .ok (.return_, 1) := by decide +kernel
theorem dX4_reckon_0 : decode cX4_reckon 0 = .ok (.lconst 0, 1) := by decide +kernel
theorem dX4_reckon_1 : decode cX4_reckon 1 = .ok (.lstore_n 3, 1) := by decide +kernel
theorem dX4_reckon_2 : decode cX4_reckon 2 = .ok (.aload_n 0, 1) := by decide +kernel
theorem dX4_reckon_3 : decode cX4_reckon 3 = .ok (.iload_n 1, 1) := by decide +kernel
theorem dX4_reckon_4 : decode cX4_reckon 4 = .ok (.iload_n 2, 1) := by decide +kernel
theorem dX4_reckon_5 : decode cX4_reckon 5 = .ok (.invokevirtual 29, 3) := by decide +kernel
theorem dX4_reckon_8 : decode cX4_reckon 8 = .ok (.lstore 5, 2) := by decide +kernel
theorem dX4_reckon_10 : decode cX4_reckon 10 = .ok (.lconst 1, 1) := by decide +kernel
theorem dX4_reckon_11 : decode cX4_reckon 11 = .ok (.lstore 7, 2) := by decide +kernel
theorem dX4_reckon_13 : decode cX4_reckon 13 = .ok (.iconst 0, 1) := by decide +kernel
theorem dX4_reckon_14 : decode cX4_reckon 14 = .ok (.istore 9, 2) := by decide +kernel
theorem dX4_reckon_16 : decode cX4_reckon 16 = .ok (.iload 9, 2) := by decide +kernel
theorem dX4_reckon_18 : decode cX4_reckon 18 = .ok (.iconst 4, 1) := by decide +kernel
theorem dX4_reckon_19 : decode cX4_reckon 19 = .ok (.if_icmp .ge 35, 3) := by decide +kernel
theorem dX4_reckon_22 : decode cX4_reckon 22 = .ok (.lload_n 3, 1) := by decide +kernel
theorem dX4_reckon_23 : decode cX4_reckon 23 = .ok (.aload_n 0, 1) := by decide +kernel
theorem dX4_reckon_24 : decode cX4_reckon 24 = .ok (.getfield 18, 3) := by decide +kernel
theorem dX4_reckon_27 : decode cX4_reckon 27 = .ok (.iload 9, 2) := by decide +kernel
theorem dX4_reckon_29 : decode cX4_reckon 29 = .ok (.laload, 1) := by decide +kernel
theorem dX4_reckon_30 : decode cX4_reckon 30 = .ok (.ladd, 1) := by decide +kernel
theorem dX4_reckon_31 : decode cX4_reckon 31 = .ok (.lstore_n 3, 1) := by decide +kernel
theorem dX4_reckon_32 : decode cX4_reckon 32 = .ok (.lload 7, 2) := by decide +kernel
theorem dX4_reckon_34 : decode cX4_reckon 34 = .ok (.aload_n 0, 1) := by decide +kernel
theorem dX4_reckon_35 : decode cX4_reckon 35 = .ok (.getfield 9, 3) := by decide +kernel
theorem dX4_reckon_38 : decode cX4_reckon 38 = .ok (.iload 9, 2) := by decide +kernel
theorem dX4_reckon_40 : decode cX4_reckon 40 = .ok (.laload, 1) := by decide +kernel
theorem dX4_reckon_41 : decode cX4_reckon 41 = .ok (.lconst 1, 1) := by decide +kernel
theorem dX4_reckon_42 : decode cX4_reckon 42 = .ok (.invokestatic 33, 3) := by decide +kernel
theorem dX4_reckon_45 : decode cX4_reckon 45 = .ok (.lmul, 1) := by decide +kernel
theorem dX4_reckon_46 : decode cX4_reckon 46 = .ok (.lstore 7, 2) := by decide +kernel
theorem dX4_reckon_48 : decode cX4_reckon 48 = .ok (.iinc 9 1, 3) := by decide +kernel
theorem dX4_reckon_51 : decode cX4_reckon 51 = .ok (.goto (-35), 3) := by decide +kernel
theorem dX4_reckon_54 : decode cX4_reckon 54 = .ok (.lload_n 3, 1) := by decide +kernel
theorem dX4_reckon_55 : decode cX4_reckon 55 = .ok (.lconst 1, 1) := by decide +kernel
theorem dX4_reckon_56 : decode cX4_reckon 56 = .ok (.lcmp, 1) := by decide +kernel
theorem dX4_reckon_57 : decode cX4_reckon 57 = .ok (.ifCond .ge 5, 3) := by decide +kernel
theorem dX4_reckon_60 : decode cX4_reckon 60 = .ok (.iconst 0, 1) := by decide +kernel
theorem dX4_reckon_61 : decode cX4_reckon 61 = .ok (.ireturn, 1) := by decide +kernel
theorem dX4_reckon_62 : decode cX4_reckon 62 = .ok (.aload_n 0, 1) := by decide +kernel
theorem dX4_reckon_63 : decode cX4_reckon 63 = .ok (.lload 5, 2) := by decide +kernel
theorem dX4_reckon_65 : decode cX4_reckon 65 = .ok (.lload 7, 2) := by decide +kernel
theorem dX4_reckon_67 : decode cX4_reckon 67 = .ok (.lmul, 1) := by decide +kernel
theorem dX4_reckon_68 : decode cX4_reckon 68 = .ok (.putfield 39, 3) := by decide +kernel
theorem dX4_reckon_71 : decode cX4_reckon 71 = .ok (.iconst 0, 1) := by decide +kernel
theorem dX4_reckon_72 : decode cX4_reckon 72 = .ok (.istore 9, 2) := by decide +kernel
theorem dX4_reckon_74 : decode cX4_reckon 74 = .ok (.iload 9, 2) := by decide +kernel
theorem dX4_reckon_76 : decode cX4_reckon 76 = .ok (.iconst 4, 1) := by decide +kernel
theorem dX4_reckon_77 : decode cX4_reckon 77 = .ok (.if_icmp .ge 48, 3) := by decide +kernel
theorem dX4_reckon_80 : decode cX4_reckon 80 = .ok (.aload_n 0, 1) := by decide +kernel
theorem dX4_reckon_81 : decode cX4_reckon 81 = .ok (.dup, 1) := by decide +kernel
theorem dX4_reckon_82 : decode cX4_reckon 82 = .ok (.getfield 39, 3) := by decide +kernel
theorem dX4_reckon_85 : decode cX4_reckon 85 = .ok (.aload_n 0, 1) := by decide +kernel
theorem dX4_reckon_86 : decode cX4_reckon 86 = .ok (.getfield 18, 3) := by decide +kernel
theorem dX4_reckon_89 : decode cX4_reckon 89 = .ok (.iload 9, 2) := by decide +kernel
theorem dX4_reckon_91 : decode cX4_reckon 91 = .ok (.laload, 1) := by decide +kernel
theorem dX4_reckon_92 : decode cX4_reckon 92 = .ok (.aload_n 0, 1) := by decide +kernel
theorem dX4_reckon_93 : decode cX4_reckon 93 = .ok (.getfield 15, 3) := by decide +kernel
theorem dX4_reckon_96 : decode cX4_reckon 96 = .ok (.iload 9, 2) := by decide +kernel
theorem dX4_reckon_98 : decode cX4_reckon 98 = .ok (.laload, 1) := by decide +kernel
theorem dX4_reckon_99 : decode cX4_reckon 99 = .ok (.lmul, 1) := by decide +kernel
theorem dX4_reckon_100 : decode cX4_reckon 100 = .ok (.lload 7, 2) := by decide +kernel
theorem dX4_reckon_102 : decode cX4_reckon 102 = .ok (.aload_n 0, 1) := by decide +kernel
theorem dX4_reckon_103 : decode cX4_reckon 103 = .ok (.getfield 9, 3) := by decide +kernel
theorem dX4_reckon_106 : decode cX4_reckon 106 = .ok (.iload 9, 2) := by decide +kernel
theorem dX4_reckon_108 : decode cX4_reckon 108 = .ok (.laload, 1) := by decide +kernel
theorem dX4_reckon_109 : decode cX4_reckon 109 = .ok (.lconst 1, 1) := by decide +kernel
theorem dX4_reckon_110 : decode cX4_reckon 110 = .ok (.invokestatic 33, 3) := by decide +kernel
theorem dX4_reckon_113 : decode cX4_reckon 113 = .ok (.ldiv, 1) := by decide +kernel
theorem dX4_reckon_114 : decode cX4_reckon 114 = .ok (.lmul, 1) := by decide +kernel
theorem dX4_reckon_115 : decode cX4_reckon 115 = .ok (.lsub, 1) := by decide +kernel
theorem dX4_reckon_116 : decode cX4_reckon 116 = .ok (.putfield 39, 3) := by decide +kernel
theorem dX4_reckon_119 : decode cX4_reckon 119 = .ok (.iinc 9 1, 3) := by decide +kernel
theorem dX4_reckon_122 : decode cX4_reckon 122 = .ok (.goto (-48), 3) := by decide +kernel
theorem dX4_reckon_125 : decode cX4_reckon 125 = .ok (.aload_n 0, 1) := by decide +kernel
theorem dX4_reckon_126 : decode cX4_reckon 126 = .ok (.lload_n 3, 1) := by decide +kernel
theorem dX4_reckon_127 : decode cX4_reckon 127 = .ok (.lload 7, 2) := by decide +kernel
theorem dX4_reckon_129 : decode cX4_reckon 129 = .ok (.lmul, 1) := by decide +kernel
theorem dX4_reckon_130 : decode cX4_reckon 130 = .ok (.putfield 43, 3) := by decide +kernel
theorem dX4_reckon_133 : decode cX4_reckon 133 = .ok (.aload_n 0, 1) := by decide +kernel
theorem dX4_reckon_134 : decode cX4_reckon 134 = .ok (.invokevirtual 46, 3) := by decide +kernel
theorem dX4_reckon_137 : decode cX4_reckon 137 = .ok (.iconst 1, 1) := by decide +kernel
theorem dX4_reckon_138 : decode cX4_reckon 138 = .ok (.ireturn, 1) := by decide +kernel
theorem dX4_gather_0 : decode cX4_gather 0 = .ok (.iconst 0, 1) := by decide +kernel
theorem dX4_gather_1 : decode cX4_gather 1 = .ok (.istore_n 3, 1) := by decide +kernel
theorem dX4_gather_2 : decode cX4_gather 2 = .ok (.iload_n 3, 1) := by decide +kernel
theorem dX4_gather_3 : decode cX4_gather 3 = .ok (.iconst 4, 1) := by decide +kernel
theorem dX4_gather_4 : decode cX4_gather 4 = .ok (.if_icmp .ge 30, 3) := by decide +kernel
theorem dX4_gather_7 : decode cX4_gather 7 = .ok (.aload_n 0, 1) := by decide +kernel
theorem dX4_gather_8 : decode cX4_gather 8 = .ok (.getfield 9, 3) := by decide +kernel
theorem dX4_gather_11 : decode cX4_gather 11 = .ok (.iload_n 3, 1) := by decide +kernel
theorem dX4_gather_12 : decode cX4_gather 12 = .ok (.lconst 0, 1) := by decide +kernel
theorem dX4_gather_13 : decode cX4_gather 13 = .ok (.lastore, 1) := by decide +kernel
theorem dX4_gather_14 : decode cX4_gather 14 = .ok (.aload_n 0, 1) := by decide +kernel
theorem dX4_gather_15 : decode cX4_gather 15 = .ok (.getfield 15, 3) := by decide +kernel
theorem dX4_gather_18 : decode cX4_gather 18 = .ok (.iload_n 3, 1) := by decide +kernel
theorem dX4_gather_19 : decode cX4_gather 19 = .ok (.lconst 0, 1) := by decide +kernel
theorem dX4_gather_20 : decode cX4_gather 20 = .ok (.lastore, 1) := by decide +kernel
theorem dX4_gather_21 : decode cX4_gather 21 = .ok (.aload_n 0, 1) := by decide +kernel
theorem dX4_gather_22 : decode cX4_gather 22 = .ok (.getfield 18, 3) := by decide +kernel
theorem dX4_gather_25 : decode cX4_gather 25 = .ok (.iload_n 3, 1) := by decide +kernel
theorem dX4_gather_26 : decode cX4_gather 26 = .ok (.lconst 0, 1) := by decide +kernel
theorem dX4_gather_27 : decode cX4_gather 27 = .ok (.lastore, 1) := by decide +kernel
theorem dX4_gather_28 : decode cX4_gather 28 = .ok (.iinc 3 1, 3) := by decide +kernel
theorem dX4_gather_31 : decode cX4_gather 31 = .ok (.goto (-29), 3) := by decide +kernel
theorem dX4_gather_34 : decode cX4_gather 34 = .ok (.lconst 0, 1) := by decide +kernel
theorem dX4_gather_35 : decode cX4_gather 35 = .ok (.lstore_n 3, 1) := by decide +kernel
theorem dX4_gather_36 : decode cX4_gather 36 = .ok (.iconst 0, 1) := by decide +kernel
theorem dX4_gather_37 : decode cX4_gather 37 = .ok (.istore 5, 2) := by decide +kernel
theorem dX4_gather_39 : decode cX4_gather 39 = .ok (.iload 5, 2) := by decide +kernel
theorem dX4_gather_41 : decode cX4_gather 41 = .ok (.aload_n 0, 1) := by decide +kernel
theorem dX4_gather_42 : decode cX4_gather 42 = .ok (.getfield 25, 3) := by decide +kernel
theorem dX4_gather_45 : decode cX4_gather 45 = .ok (.getfield 49, 3) := by decide +kernel
theorem dX4_gather_48 : decode cX4_gather 48 = .ok (.if_icmp .ge 117, 3) := by decide +kernel
theorem dX4_gather_51 : decode cX4_gather 51 = .ok (.aload_n 0, 1) := by decide +kernel
theorem dX4_gather_52 : decode cX4_gather 52 = .ok (.getfield 25, 3) := by decide +kernel
theorem dX4_gather_55 : decode cX4_gather 55 = .ok (.iload 5, 2) := by decide +kernel
theorem dX4_gather_57 : decode cX4_gather 57 = .ok (.iload_n 2, 1) := by decide +kernel
theorem dX4_gather_58 : decode cX4_gather 58 = .ok (.invokevirtual 55, 3) := by decide +kernel
theorem dX4_gather_61 : decode cX4_gather 61 = .ok (.ifCond .eq 98, 3) := by decide +kernel
theorem dX4_gather_64 : decode cX4_gather 64 = .ok (.aload_n 0, 1) := by decide +kernel
theorem dX4_gather_65 : decode cX4_gather 65 = .ok (.getfield 25, 3) := by decide +kernel
theorem dX4_gather_68 : decode cX4_gather 68 = .ok (.getfield 59, 3) := by decide +kernel
theorem dX4_gather_71 : decode cX4_gather 71 = .ok (.iload 5, 2) := by decide +kernel
theorem dX4_gather_73 : decode cX4_gather 73 = .ok (.iaload, 1) := by decide +kernel
theorem dX4_gather_74 : decode cX4_gather 74 = .ok (.istore 6, 2) := by decide +kernel
theorem dX4_gather_76 : decode cX4_gather 76 = .ok (.aload_n 0, 1) := by decide +kernel
theorem dX4_gather_77 : decode cX4_gather 77 = .ok (.getfield 21, 3) := by decide +kernel
theorem dX4_gather_80 : decode cX4_gather 80 = .ok (.getfield 63, 3) := by decide +kernel
theorem dX4_gather_83 : decode cX4_gather 83 = .ok (.iload 6, 2) := by decide +kernel
theorem dX4_gather_85 : decode cX4_gather 85 = .ok (.iaload, 1) := by decide +kernel
theorem dX4_gather_86 : decode cX4_gather 86 = .ok (.istore 7, 2) := by decide +kernel
theorem dX4_gather_88 : decode cX4_gather 88 = .ok (.aload_n 0, 1) := by decide +kernel
theorem dX4_gather_89 : decode cX4_gather 89 = .ok (.getfield 9, 3) := by decide +kernel
theorem dX4_gather_92 : decode cX4_gather 92 = .ok (.iload 7, 2) := by decide +kernel
theorem dX4_gather_94 : decode cX4_gather 94 = .ok (.dup2, 1) := by decide +kernel
theorem dX4_gather_95 : decode cX4_gather 95 = .ok (.laload, 1) := by decide +kernel
theorem dX4_gather_96 : decode cX4_gather 96 = .ok (.lconst 1, 1) := by decide +kernel
theorem dX4_gather_97 : decode cX4_gather 97 = .ok (.ladd, 1) := by decide +kernel
theorem dX4_gather_98 : decode cX4_gather 98 = .ok (.lastore, 1) := by decide +kernel
theorem dX4_gather_99 : decode cX4_gather 99 = .ok (.aload_n 0, 1) := by decide +kernel
theorem dX4_gather_100 : decode cX4_gather 100 = .ok (.getfield 15, 3) := by decide +kernel
theorem dX4_gather_103 : decode cX4_gather 103 = .ok (.iload 7, 2) := by decide +kernel
theorem dX4_gather_105 : decode cX4_gather 105 = .ok (.dup2, 1) := by decide +kernel
theorem dX4_gather_106 : decode cX4_gather 106 = .ok (.laload, 1) := by decide +kernel
theorem dX4_gather_107 : decode cX4_gather 107 = .ok (.aload_n 0, 1) := by decide +kernel
theorem dX4_gather_108 : decode cX4_gather 108 = .ok (.getfield 25, 3) := by decide +kernel
theorem dX4_gather_111 : decode cX4_gather 111 = .ok (.getfield 68, 3) := by decide +kernel
theorem dX4_gather_114 : decode cX4_gather 114 = .ok (.iload 5, 2) := by decide +kernel
theorem dX4_gather_116 : decode cX4_gather 116 = .ok (.iaload, 1) := by decide +kernel
theorem dX4_gather_117 : decode cX4_gather 117 = .ok (.i2l, 1) := by decide +kernel
theorem dX4_gather_118 : decode cX4_gather 118 = .ok (.ladd, 1) := by decide +kernel
theorem dX4_gather_119 : decode cX4_gather 119 = .ok (.lastore, 1) := by decide +kernel
theorem dX4_gather_120 : decode cX4_gather 120 = .ok (.aload_n 0, 1) := by decide +kernel
theorem dX4_gather_121 : decode cX4_gather 121 = .ok (.getfield 21, 3) := by decide +kernel
theorem dX4_gather_124 : decode cX4_gather 124 = .ok (.getfield 71, 3) := by decide +kernel
theorem dX4_gather_127 : decode cX4_gather 127 = .ok (.iload 6, 2) := by decide +kernel
theorem dX4_gather_129 : decode cX4_gather 129 = .ok (.iaload, 1) := by decide +kernel
theorem dX4_gather_130 : decode cX4_gather 130 = .ok (.iload_n 1, 1) := by decide +kernel
theorem dX4_gather_131 : decode cX4_gather 131 = .ok (.if_icmp .ne 28, 3) := by decide +kernel
theorem dX4_gather_134 : decode cX4_gather 134 = .ok (.aload_n 0, 1) := by decide +kernel
theorem dX4_gather_135 : decode cX4_gather 135 = .ok (.getfield 18, 3) := by decide +kernel
theorem dX4_gather_138 : decode cX4_gather 138 = .ok (.iload 7, 2) := by decide +kernel
theorem dX4_gather_140 : decode cX4_gather 140 = .ok (.dup2, 1) := by decide +kernel
theorem dX4_gather_141 : decode cX4_gather 141 = .ok (.laload, 1) := by decide +kernel
theorem dX4_gather_142 : decode cX4_gather 142 = .ok (.lconst 1, 1) := by decide +kernel
theorem dX4_gather_143 : decode cX4_gather 143 = .ok (.ladd, 1) := by decide +kernel
theorem dX4_gather_144 : decode cX4_gather 144 = .ok (.lastore, 1) := by decide +kernel
theorem dX4_gather_145 : decode cX4_gather 145 = .ok (.lload_n 3, 1) := by decide +kernel
theorem dX4_gather_146 : decode cX4_gather 146 = .ok (.aload_n 0, 1) := by decide +kernel
theorem dX4_gather_147 : decode cX4_gather 147 = .ok (.getfield 25, 3) := by decide +kernel
theorem dX4_gather_150 : decode cX4_gather 150 = .ok (.getfield 68, 3) := by decide +kernel
theorem dX4_gather_153 : decode cX4_gather 153 = .ok (.iload 5, 2) := by decide +kernel
theorem dX4_gather_155 : decode cX4_gather 155 = .ok (.iaload, 1) := by decide +kernel
theorem dX4_gather_156 : decode cX4_gather 156 = .ok (.i2l, 1) := by decide +kernel
theorem dX4_gather_157 : decode cX4_gather 157 = .ok (.ladd, 1) := by decide +kernel
theorem dX4_gather_158 : decode cX4_gather 158 = .ok (.lstore_n 3, 1) := by decide +kernel
theorem dX4_gather_159 : decode cX4_gather 159 = .ok (.iinc 5 1, 3) := by decide +kernel
theorem dX4_gather_162 : decode cX4_gather 162 = .ok (.goto (-123), 3) := by decide +kernel
theorem dX4_gather_165 : decode cX4_gather 165 = .ok (.lload_n 3, 1) := by decide +kernel
theorem dX4_gather_166 : decode cX4_gather 166 = .ok (.lreturn, 1) := by decide +kernel
theorem dX4_reduce_0 : decode cX4_reduce 0 = .ok (.aload_n 0, 1) := by decide +kernel
theorem dX4_reduce_1 : decode cX4_reduce 1 = .ok (.getfield 43, 3) := by decide +kernel
theorem dX4_reduce_4 : decode cX4_reduce 4 = .ok (.lstore_n 1, 1) := by decide +kernel
theorem dX4_reduce_5 : decode cX4_reduce 5 = .ok (.aload_n 0, 1) := by decide +kernel
theorem dX4_reduce_6 : decode cX4_reduce 6 = .ok (.getfield 39, 3) := by decide +kernel
theorem dX4_reduce_9 : decode cX4_reduce 9 = .ok (.invokestatic 74, 3) := by decide +kernel
theorem dX4_reduce_12 : decode cX4_reduce 12 = .ok (.lstore_n 3, 1) := by decide +kernel
theorem dX4_reduce_13 : decode cX4_reduce 13 = .ok (.iconst 0, 1) := by decide +kernel
theorem dX4_reduce_14 : decode cX4_reduce 14 = .ok (.istore 5, 2) := by decide +kernel
theorem dX4_reduce_16 : decode cX4_reduce 16 = .ok (.iload 5, 2) := by decide +kernel
theorem dX4_reduce_18 : decode cX4_reduce 18 = .ok (.sipush 200, 3) := by decide +kernel
theorem dX4_reduce_21 : decode cX4_reduce 21 = .ok (.if_icmp .ge 25, 3) := by decide +kernel
theorem dX4_reduce_24 : decode cX4_reduce 24 = .ok (.lload_n 3, 1) := by decide +kernel
theorem dX4_reduce_25 : decode cX4_reduce 25 = .ok (.lconst 0, 1) := by decide +kernel
theorem dX4_reduce_26 : decode cX4_reduce 26 = .ok (.lcmp, 1) := by decide +kernel
theorem dX4_reduce_27 : decode cX4_reduce 27 = .ok (.ifCond .eq 19, 3) := by decide +kernel
theorem dX4_reduce_30 : decode cX4_reduce 30 = .ok (.lload_n 1, 1) := by decide +kernel
theorem dX4_reduce_31 : decode cX4_reduce 31 = .ok (.lload_n 3, 1) := by decide +kernel
theorem dX4_reduce_32 : decode cX4_reduce 32 = .ok (.lrem, 1) := by decide +kernel
theorem dX4_reduce_33 : decode cX4_reduce 33 = .ok (.lstore 6, 2) := by decide +kernel
theorem dX4_reduce_35 : decode cX4_reduce 35 = .ok (.lload_n 3, 1) := by decide +kernel
theorem dX4_reduce_36 : decode cX4_reduce 36 = .ok (.lstore_n 1, 1) := by decide +kernel
theorem dX4_reduce_37 : decode cX4_reduce 37 = .ok (.lload 6, 2) := by decide +kernel
theorem dX4_reduce_39 : decode cX4_reduce 39 = .ok (.lstore_n 3, 1) := by decide +kernel
theorem dX4_reduce_40 : decode cX4_reduce 40 = .ok (.iinc 5 1, 3) := by decide +kernel
theorem dX4_reduce_43 : decode cX4_reduce 43 = .ok (.goto (-27), 3) := by decide +kernel
theorem dX4_reduce_46 : decode cX4_reduce 46 = .ok (.lload_n 1, 1) := by decide +kernel
theorem dX4_reduce_47 : decode cX4_reduce 47 = .ok (.lconst 1, 1) := by decide +kernel
theorem dX4_reduce_48 : decode cX4_reduce 48 = .ok (.lcmp, 1) := by decide +kernel
theorem dX4_reduce_49 : decode cX4_reduce 49 = .ok (.ifCond .le 23, 3) := by decide +kernel
theorem dX4_reduce_52 : decode cX4_reduce 52 = .ok (.aload_n 0, 1) := by decide +kernel
theorem dX4_reduce_53 : decode cX4_reduce 53 = .ok (.dup, 1) := by decide +kernel
theorem dX4_reduce_54 : decode cX4_reduce 54 = .ok (.getfield 39, 3) := by decide +kernel
theorem dX4_reduce_57 : decode cX4_reduce 57 = .ok (.lload_n 1, 1) := by decide +kernel
theorem dX4_reduce_58 : decode cX4_reduce 58 = .ok (.ldiv, 1) := by decide +kernel
theorem dX4_reduce_59 : decode cX4_reduce 59 = .ok (.putfield 39, 3) := by decide +kernel
theorem dX4_reduce_62 : decode cX4_reduce 62 = .ok (.aload_n 0, 1) := by decide +kernel
theorem dX4_reduce_63 : decode cX4_reduce 63 = .ok (.dup, 1) := by decide +kernel
theorem dX4_reduce_64 : decode cX4_reduce 64 = .ok (.getfield 43, 3) := by decide +kernel
theorem dX4_reduce_67 : decode cX4_reduce 67 = .ok (.lload_n 1, 1) := by decide +kernel
theorem dX4_reduce_68 : decode cX4_reduce 68 = .ok (.ldiv, 1) := by decide +kernel
theorem dX4_reduce_69 : decode cX4_reduce 69 = .ok (.putfield 43, 3) := by decide +kernel
theorem dX4_reduce_72 : decode cX4_reduce 72 = .ok (.return_, 1) := by decide +kernel
theorem dX5_init_0 : decode cX5_init 0 = .ok (.aload_n 0, 1) := by decide +kernel
theorem dX5_init_1 : decode cX5_init 1 = .ok (.invokespecial 3, 3) := by decide +kernel
theorem dX5_init_4 : decode cX5_init 4 = .ok (.aload_n 0, 1) := by decide +kernel
theorem dX5_init_5 : decode cX5_init 5 = .ok (.new 9, 3) := by decide +kernel
theorem dX5_init_8 : decode cX5_init 8 = .ok (.dup, 1) := by decide +kernel
theorem dX5_init_9 : decode cX5_init 9 = .ok (.invokespecial 11, 3) := by decide +kernel
theorem dX5_init_12 : decode cX5_init 12 = .ok (.putfield 12, 3) := by decide +kernel
theorem dX5_init_15 : decode cX5_init 15 = .ok (.aload_n 0, 1) := by decide +kernel
theorem dX5_init_16 : decode cX5_init 16 = .ok (.iconst 4, 1) := by decide +kernel
theorem dX5_init_17 : decode cX5_init 17 = .ok (.newarray .boolean, 2) := by decide +kernel
theorem dX5_init_19 : decode cX5_init 19 = .ok (.putfield 18, 3) := by decide +kernel
theorem dX5_init_22 : decode cX5_init 22 = .ok (.aload_n 0, 1) := by decide +kernel
theorem dX5_init_23 : decode cX5_init 23 = .ok (.iconst 4, 1) := by decide +kernel
theorem dX5_init_24 : decode cX5_init 24 = .ok (.newarray .boolean, 2) := by decide +kernel
theorem dX5_init_26 : decode cX5_init 26 = .ok (.putfield 22, 3) := by decide +kernel
theorem dX5_init_29 : decode cX5_init 29 = .ok (.aload_n 0, 1) := by decide +kernel
theorem dX5_init_30 : decode cX5_init 30 = .ok (.aload_n 1, 1) := by decide +kernel
theorem dX5_init_31 : decode cX5_init 31 = .ok (.putfield 25, 3) := by decide +kernel
theorem dX5_init_34 : decode cX5_init 34 = .ok (.return_, 1) := by decide +kernel
theorem dX5_read_0 : decode cX5_read 0 = .ok (.aload_n 0, 1) := by decide +kernel
theorem dX5_read_1 : decode cX5_read 1 = .ok (.invokevirtual 29, 3) := by decide +kernel
theorem dX5_read_4 : decode cX5_read 4 = .ok (.aload_n 0, 1) := by decide +kernel
theorem dX5_read_5 : decode cX5_read 5 = .ok (.invokevirtual 32, 3) := by decide +kernel
theorem dX5_read_8 : decode cX5_read 8 = .ok (.iconst 0, 1) := by decide +kernel
theorem dX5_read_9 : decode cX5_read 9 = .ok (.istore_n 1, 1) := by decide +kernel
theorem dX5_read_10 : decode cX5_read 10 = .ok (.iload_n 1, 1) := by decide +kernel
theorem dX5_read_11 : decode cX5_read 11 = .ok (.sipush 200, 3) := by decide +kernel
theorem dX5_read_14 : decode cX5_read 14 = .ok (.if_icmp .ge 31, 3) := by decide +kernel
theorem dX5_read_17 : decode cX5_read 17 = .ok (.aload_n 0, 1) := by decide +kernel
theorem dX5_read_18 : decode cX5_read 18 = .ok (.getfield 35, 3) := by decide +kernel
theorem dX5_read_21 : decode cX5_read 21 = .ok (.ifCond .eq 24, 3) := by decide +kernel
theorem dX5_read_24 : decode cX5_read 24 = .ok (.aload_n 0, 1) := by decide +kernel
theorem dX5_read_25 : decode cX5_read 25 = .ok (.getfield 39, 3) := by decide +kernel
theorem dX5_read_28 : decode cX5_read 28 = .ok (.ifCond .ne 17, 3) := by decide +kernel
theorem dX5_read_31 : decode cX5_read 31 = .ok (.aload_n 0, 1) := by decide +kernel
theorem dX5_read_32 : decode cX5_read 32 = .ok (.invokevirtual 42, 3) := by decide +kernel
theorem dX5_read_35 : decode cX5_read 35 = .ok (.aload_n 0, 1) := by decide +kernel
theorem dX5_read_36 : decode cX5_read 36 = .ok (.invokevirtual 32, 3) := by decide +kernel
theorem dX5_read_39 : decode cX5_read 39 = .ok (.iinc 1 1, 3) := by decide +kernel
theorem dX5_read_42 : decode cX5_read 42 = .ok (.goto (-32), 3) := by decide +kernel
theorem dX5_read_45 : decode cX5_read 45 = .ok (.return_, 1) := by decide +kernel
theorem dX5_forget_0 : decode cX5_forget 0 = .ok (.aload_n 0, 1) := by decide +kernel
theorem dX5_forget_1 : decode cX5_forget 1 = .ok (.getfield 12, 3) := by decide +kernel
theorem dX5_forget_4 : decode cX5_forget 4 = .ok (.invokevirtual 45, 3) := by decide +kernel
theorem dX5_forget_7 : decode cX5_forget 7 = .ok (.iconst 0, 1) := by decide +kernel
theorem dX5_forget_8 : decode cX5_forget 8 = .ok (.istore_n 1, 1) := by decide +kernel
theorem dX5_forget_9 : decode cX5_forget 9 = .ok (.iload_n 1, 1) := by decide +kernel
theorem dX5_forget_10 : decode cX5_forget 10 = .ok (.iconst 4, 1) := by decide +kernel
theorem dX5_forget_11 : decode cX5_forget 11 = .ok (.if_icmp .ge 23, 3) := by decide +kernel
theorem dX5_forget_14 : decode cX5_forget 14 = .ok (.aload_n 0, 1) := by decide +kernel
theorem dX5_forget_15 : decode cX5_forget 15 = .ok (.getfield 18, 3) := by decide +kernel
theorem dX5_forget_18 : decode cX5_forget 18 = .ok (.iload_n 1, 1) := by decide +kernel
theorem dX5_forget_19 : decode cX5_forget 19 = .ok (.iconst 0, 1) := by decide +kernel
theorem dX5_forget_20 : decode cX5_forget 20 = .ok (.bastore, 1) := by decide +kernel
theorem dX5_forget_21 : decode cX5_forget 21 = .ok (.aload_n 0, 1) := by decide +kernel
theorem dX5_forget_22 : decode cX5_forget 22 = .ok (.getfield 22, 3) := by decide +kernel
theorem dX5_forget_25 : decode cX5_forget 25 = .ok (.iload_n 1, 1) := by decide +kernel
theorem dX5_forget_26 : decode cX5_forget 26 = .ok (.iconst 0, 1) := by decide +kernel
theorem dX5_forget_27 : decode cX5_forget 27 = .ok (.bastore, 1) := by decide +kernel
theorem dX5_forget_28 : decode cX5_forget 28 = .ok (.iinc 1 1, 3) := by decide +kernel
theorem dX5_forget_31 : decode cX5_forget 31 = .ok (.goto (-22), 3) := by decide +kernel
theorem dX5_forget_34 : decode cX5_forget 34 = .ok (.aload_n 0, 1) := by decide +kernel
theorem dX5_forget_35 : decode cX5_forget 35 = .ok (.iconst 0, 1) := by decide +kernel
theorem dX5_forget_36 : decode cX5_forget 36 = .ok (.putfield 48, 3) := by decide +kernel
theorem dX5_forget_39 : decode cX5_forget 39 = .ok (.aload_n 0, 1) := by decide +kernel
theorem dX5_forget_40 : decode cX5_forget 40 = .ok (.iconst 0, 1) := by decide +kernel
theorem dX5_forget_41 : decode cX5_forget 41 = .ok (.putfield 52, 3) := by decide +kernel
theorem dX5_forget_44 : decode cX5_forget 44 = .ok (.aload_n 0, 1) := by decide +kernel
theorem dX5_forget_45 : decode cX5_forget 45 = .ok (.iconst 0, 1) := by decide +kernel
theorem dX5_forget_46 : decode cX5_forget 46 = .ok (.putfield 55, 3) := by decide +kernel
theorem dX5_forget_49 : decode cX5_forget 49 = .ok (.aload_n 0, 1) := by decide +kernel
theorem dX5_forget_50 : decode cX5_forget 50 = .ok (.iconst 0, 1) := by decide +kernel
theorem dX5_forget_51 : decode cX5_forget 51 = .ok (.putfield 39, 3) := by decide +kernel
theorem dX5_forget_54 : decode cX5_forget 54 = .ok (.aload_n 0, 1) := by decide +kernel
theorem dX5_forget_55 : decode cX5_forget 55 = .ok (.iconst 0, 1) := by decide +kernel
theorem dX5_forget_56 : decode cX5_forget 56 = .ok (.putfield 58, 3) := by decide +kernel
theorem dX5_forget_59 : decode cX5_forget 59 = .ok (.return_, 1) := by decide +kernel
theorem dX5_readRule_0 : decode cX5_readRule 0 = .ok (.aload_n 0, 1) := by decide +kernel
theorem dX5_readRule_1 : decode cX5_readRule 1 = .ok (.ldc 61, 2) := by decide +kernel
theorem dX5_readRule_3 : decode cX5_readRule 3 = .ok (.invokevirtual 63, 3) := by decide +kernel
theorem dX5_readRule_6 : decode cX5_readRule 6 = .ok (.ifCond .eq 24, 3) := by decide +kernel
theorem dX5_readRule_9 : decode cX5_readRule 9 = .ok (.aload_n 0, 1) := by decide +kernel
theorem dX5_readRule_10 : decode cX5_readRule 10 = .ok (.aload_n 0, 1) := by decide +kernel
theorem dX5_readRule_11 : decode cX5_readRule 11 = .ok (.getfield 12, 3) := by decide +kernel
theorem dX5_readRule_14 : decode cX5_readRule 14 = .ok (.getfield 67, 3) := by decide +kernel
theorem dX5_readRule_17 : decode cX5_readRule 17 = .ok (.aload_n 0, 1) := by decide +kernel
theorem dX5_readRule_18 : decode cX5_readRule 18 = .ok (.getfield 18, 3) := by decide +kernel
theorem dX5_readRule_21 : decode cX5_readRule 21 = .ok (.sipush 9999, 3) := by decide +kernel
theorem dX5_readRule_24 : decode cX5_readRule 24 = .ok (.invokevirtual 70, 3) := by decide +kernel
theorem dX5_readRule_27 : decode cX5_readRule 27 = .ok (.goto 68, 3) := by decide +kernel
theorem dX5_readRule_30 : decode cX5_readRule 30 = .ok (.aload_n 0, 1) := by decide +kernel
theorem dX5_readRule_31 : decode cX5_readRule 31 = .ok (.ldc 74, 2) := by decide +kernel
theorem dX5_readRule_33 : decode cX5_readRule 33 = .ok (.invokevirtual 63, 3) := by decide +kernel
theorem dX5_readRule_36 : decode cX5_readRule 36 = .ok (.ifCond .eq 23, 3) := by decide +kernel
theorem dX5_readRule_39 : decode cX5_readRule 39 = .ok (.aload_n 0, 1) := by decide +kernel
theorem dX5_readRule_40 : decode cX5_readRule 40 = .ok (.aload_n 0, 1) := by decide +kernel
theorem dX5_readRule_41 : decode cX5_readRule 41 = .ok (.getfield 12, 3) := by decide +kernel
theorem dX5_readRule_44 : decode cX5_readRule 44 = .ok (.getfield 76, 3) := by decide +kernel
theorem dX5_readRule_47 : decode cX5_readRule 47 = .ok (.aload_n 0, 1) := by decide +kernel
theorem dX5_readRule_48 : decode cX5_readRule 48 = .ok (.getfield 22, 3) := by decide +kernel
theorem dX5_readRule_51 : decode cX5_readRule 51 = .ok (.bipush 100, 2) := by decide +kernel
theorem dX5_readRule_53 : decode cX5_readRule 53 = .ok (.invokevirtual 70, 3) := by decide +kernel
theorem dX5_readRule_56 : decode cX5_readRule 56 = .ok (.goto 39, 3) := by decide +kernel
theorem dX5_readRule_59 : decode cX5_readRule 59 = .ok (.aload_n 0, 1) := by decide +kernel
theorem dX5_readRule_60 : decode cX5_readRule 60 = .ok (.ldc 78, 2) := by decide +kernel
theorem dX5_readRule_62 : decode cX5_readRule 62 = .ok (.invokevirtual 63, 3) := by decide +kernel
theorem dX5_readRule_65 : decode cX5_readRule 65 = .ok (.ifCond .eq 10, 3) := by decide +kernel
theorem dX5_readRule_68 : decode cX5_readRule 68 = .ok (.aload_n 0, 1) := by decide +kernel
theorem dX5_readRule_69 : decode cX5_readRule 69 = .ok (.invokevirtual 80, 3) := by decide +kernel
theorem dX5_readRule_72 : decode cX5_readRule 72 = .ok (.goto 23, 3) := by decide +kernel
theorem dX5_readRule_75 : decode cX5_readRule 75 = .ok (.aload_n 0, 1) := by decide +kernel
theorem dX5_readRule_76 : decode cX5_readRule 76 = .ok (.ldc 83, 2) := by decide +kernel
theorem dX5_readRule_78 : decode cX5_readRule 78 = .ok (.invokevirtual 63, 3) := by decide +kernel
theorem dX5_readRule_81 : decode cX5_readRule 81 = .ok (.ifCond .eq 10, 3) := by decide +kernel
theorem dX5_readRule_84 : decode cX5_readRule 84 = .ok (.aload_n 0, 1) := by decide +kernel
theorem dX5_readRule_85 : decode cX5_readRule 85 = .ok (.invokevirtual 85, 3) := by decide +kernel
theorem dX5_readRule_88 : decode cX5_readRule 88 = .ok (.goto 7, 3) := by decide +kernel
theorem dX5_readRule_91 : decode cX5_readRule 91 = .ok (.aload_n 0, 1) := by decide +kernel
theorem dX5_readRule_92 : decode cX5_readRule 92 = .ok (.invokevirtual 88, 3) := by decide +kernel
theorem dX5_readRule_95 : decode cX5_readRule 95 = .ok (.return_, 1) := by decide +kernel
theorem dX5_readByGrade_0 : decode cX5_readByGrade 0 = .ok (.aload_n 0, 1) := by decide +kernel
theorem dX5_readByGrade_1 : decode cX5_readByGrade 1 = .ok (.iconst 3, 1) := by decide +kernel
theorem dX5_readByGrade_2 : decode cX5_readByGrade 2 = .ok (.invokevirtual 91, 3) := by decide +kernel
theorem dX5_readByGrade_5 : decode cX5_readByGrade 5 = .ok (.istore 4, 2) := by decide +kernel
theorem dX5_readByGrade_7 : decode cX5_readByGrade 7 = .ok (.iload 4, 2) := by decide +kernel
theorem dX5_readByGrade_9 : decode cX5_readByGrade 9 = .ok (.iconst (-1), 1) := by decide +kernel
theorem dX5_readByGrade_10 : decode cX5_readByGrade 10 = .ok (.if_icmp .ne 4, 3) := by decide +kernel
theorem dX5_readByGrade_13 : decode cX5_readByGrade 13 = .ok (.return_, 1) := by decide +kernel
theorem dX5_readByGrade_14 : decode cX5_readByGrade 14 = .ok (.aload_n 2, 1) := by decide +kernel
theorem dX5_readByGrade_15 : decode cX5_readByGrade 15 = .ok (.iload 4, 2) := by decide +kernel
theorem dX5_readByGrade_17 : decode cX5_readByGrade 17 = .ok (.baload, 1) := by decide +kernel
theorem dX5_readByGrade_18 : decode cX5_readByGrade 18 = .ok (.ifCond .eq 9, 3) := by decide +kernel
theorem dX5_readByGrade_21 : decode cX5_readByGrade 21 = .ok (.aload_n 0, 1) := by decide +kernel
theorem dX5_readByGrade_22 : decode cX5_readByGrade 22 = .ok (.iconst 4, 1) := by decide +kernel
theorem dX5_readByGrade_23 : decode cX5_readByGrade 23 = .ok (.invokevirtual 95, 3) := by decide +kernel
theorem dX5_readByGrade_26 : decode cX5_readByGrade 26 = .ok (.return_, 1) := by decide +kernel
theorem dX5_readByGrade_27 : decode cX5_readByGrade 27 = .ok (.aload_n 2, 1) := by decide +kernel
theorem dX5_readByGrade_28 : decode cX5_readByGrade 28 = .ok (.iload 4, 2) := by decide +kernel
theorem dX5_readByGrade_30 : decode cX5_readByGrade 30 = .ok (.iconst 1, 1) := by decide +kernel
theorem dX5_readByGrade_31 : decode cX5_readByGrade 31 = .ok (.bastore, 1) := by decide +kernel
theorem dX5_readByGrade_32 : decode cX5_readByGrade 32 = .ok (.aload_n 0, 1) := by decide +kernel
theorem dX5_readByGrade_33 : decode cX5_readByGrade 33 = .ok (.iload_n 3, 1) := by decide +kernel
theorem dX5_readByGrade_34 : decode cX5_readByGrade 34 = .ok (.invokevirtual 91, 3) := by decide +kernel
theorem dX5_readByGrade_37 : decode cX5_readByGrade 37 = .ok (.istore 5, 2) := by decide +kernel
theorem dX5_readByGrade_39 : decode cX5_readByGrade 39 = .ok (.iload 5, 2) := by decide +kernel
theorem dX5_readByGrade_41 : decode cX5_readByGrade 41 = .ok (.iconst (-1), 1) := by decide +kernel
theorem dX5_readByGrade_42 : decode cX5_readByGrade 42 = .ok (.if_icmp .ne 4, 3) := by decide +kernel
theorem dX5_readByGrade_45 : decode cX5_readByGrade 45 = .ok (.return_, 1) := by decide +kernel
theorem dX5_readByGrade_46 : decode cX5_readByGrade 46 = .ok (.aload_n 1, 1) := by decide +kernel
theorem dX5_readByGrade_47 : decode cX5_readByGrade 47 = .ok (.iload 4, 2) := by decide +kernel
theorem dX5_readByGrade_49 : decode cX5_readByGrade 49 = .ok (.iload 5, 2) := by decide +kernel
theorem dX5_readByGrade_51 : decode cX5_readByGrade 51 = .ok (.iastore, 1) := by decide +kernel
theorem dX5_readByGrade_52 : decode cX5_readByGrade 52 = .ok (.aload_n 0, 1) := by decide +kernel
theorem dX5_readByGrade_53 : decode cX5_readByGrade 53 = .ok (.invokevirtual 99, 3) := by decide +kernel
theorem dX5_readByGrade_56 : decode cX5_readByGrade 56 = .ok (.return_, 1) := by decide +kernel
theorem dX5_readRot_0 : decode cX5_readRot 0 = .ok (.aload_n 0, 1) := by decide +kernel
theorem dX5_readRot_1 : decode cX5_readRot 1 = .ok (.getfield 48, 3) := by decide +kernel
theorem dX5_readRot_4 : decode cX5_readRot 4 = .ok (.ifCond .eq 9, 3) := by decide +kernel
theorem dX5_readRot_7 : decode cX5_readRot 7 = .ok (.aload_n 0, 1) := by decide +kernel
theorem dX5_readRot_8 : decode cX5_readRot 8 = .ok (.iconst 4, 1) := by decide +kernel
theorem dX5_readRot_9 : decode cX5_readRot 9 = .ok (.invokevirtual 95, 3) := by decide +kernel
theorem dX5_readRot_12 : decode cX5_readRot 12 = .ok (.return_, 1) := by decide +kernel
theorem dX5_readRot_13 : decode cX5_readRot 13 = .ok (.aload_n 0, 1) := by decide +kernel
theorem dX5_readRot_14 : decode cX5_readRot 14 = .ok (.iconst 1, 1) := by decide +kernel
theorem dX5_readRot_15 : decode cX5_readRot 15 = .ok (.putfield 48, 3) := by decide +kernel
theorem dX5_readRot_18 : decode cX5_readRot 18 = .ok (.aload_n 0, 1) := by decide +kernel
theorem dX5_readRot_19 : decode cX5_readRot 19 = .ok (.bipush 50, 2) := by decide +kernel
theorem dX5_readRot_21 : decode cX5_readRot 21 = .ok (.invokevirtual 91, 3) := by decide +kernel
theorem dX5_readRot_24 : decode cX5_readRot 24 = .ok (.istore_n 1, 1) := by decide +kernel
theorem dX5_readRot_25 : decode cX5_readRot 25 = .ok (.iload_n 1, 1) := by decide +kernel
theorem dX5_readRot_26 : decode cX5_readRot 26 = .ok (.iconst (-1), 1) := by decide +kernel
theorem dX5_readRot_27 : decode cX5_readRot 27 = .ok (.if_icmp .ne 4, 3) := by decide +kernel
theorem dX5_readRot_30 : decode cX5_readRot 30 = .ok (.return_, 1) := by decide +kernel
theorem dX5_readRot_31 : decode cX5_readRot 31 = .ok (.aload_n 0, 1) := by decide +kernel
theorem dX5_readRot_32 : decode cX5_readRot 32 = .ok (.getfield 12, 3) := by decide +kernel
theorem dX5_readRot_35 : decode cX5_readRot 35 = .ok (.iload_n 1, 1) := by decide +kernel
theorem dX5_readRot_36 : decode cX5_readRot 36 = .ok (.putfield 102, 3) := by decide +kernel
theorem dX5_readRot_39 : decode cX5_readRot 39 = .ok (.aload_n 0, 1) := by decide +kernel
theorem dX5_readRot_40 : decode cX5_readRot 40 = .ok (.invokevirtual 99, 3) := by decide +kernel
theorem dX5_readRot_43 : decode cX5_readRot 43 = .ok (.return_, 1) := by decide +kernel
theorem dX5_readLoss_0 : decode cX5_readLoss 0 = .ok (.aload_n 0, 1) := by decide +kernel
theorem dX5_readLoss_1 : decode cX5_readLoss 1 = .ok (.getfield 52, 3) := by decide +kernel
theorem dX5_readLoss_4 : decode cX5_readLoss 4 = .ok (.ifCond .eq 9, 3) := by decide +kernel
theorem dX5_readLoss_7 : decode cX5_readLoss 7 = .ok (.aload_n 0, 1) := by decide +kernel
theorem dX5_readLoss_8 : decode cX5_readLoss 8 = .ok (.iconst 4, 1) := by decide +kernel
theorem dX5_readLoss_9 : decode cX5_readLoss 9 = .ok (.invokevirtual 95, 3) := by decide +kernel
theorem dX5_readLoss_12 : decode cX5_readLoss 12 = .ok (.return_, 1) := by decide +kernel
theorem dX5_readLoss_13 : decode cX5_readLoss 13 = .ok (.aload_n 0, 1) := by decide +kernel
theorem dX5_readLoss_14 : decode cX5_readLoss 14 = .ok (.iconst 1, 1) := by decide +kernel
theorem dX5_readLoss_15 : decode cX5_readLoss 15 = .ok (.putfield 52, 3) := by decide +kernel
theorem dX5_readLoss_18 : decode cX5_readLoss 18 = .ok (.aload_n 0, 1) := by decide +kernel
theorem dX5_readLoss_19 : decode cX5_readLoss 19 = .ok (.invokevirtual 32, 3) := by decide +kernel
theorem dX5_readLoss_22 : decode cX5_readLoss 22 = .ok (.aload_n 0, 1) := by decide +kernel
theorem dX5_readLoss_23 : decode cX5_readLoss 23 = .ok (.ldc 104, 2) := by decide +kernel
theorem dX5_readLoss_25 : decode cX5_readLoss 25 = .ok (.invokevirtual 63, 3) := by decide +kernel
theorem dX5_readLoss_28 : decode cX5_readLoss 28 = .ok (.istore_n 1, 1) := by decide +kernel
theorem dX5_readLoss_29 : decode cX5_readLoss 29 = .ok (.iload_n 1, 1) := by decide +kernel
theorem dX5_readLoss_30 : decode cX5_readLoss 30 = .ok (.ifCond .ne 17, 3) := by decide +kernel
theorem dX5_readLoss_33 : decode cX5_readLoss 33 = .ok (.aload_n 0, 1) := by decide +kernel
theorem dX5_readLoss_34 : decode cX5_readLoss 34 = .ok (.ldc 106, 2) := by decide +kernel
theorem dX5_readLoss_36 : decode cX5_readLoss 36 = .ok (.invokevirtual 63, 3) := by decide +kernel
theorem dX5_readLoss_39 : decode cX5_readLoss 39 = .ok (.ifCond .ne 8, 3) := by decide +kernel
theorem dX5_readLoss_42 : decode cX5_readLoss 42 = .ok (.aload_n 0, 1) := by decide +kernel
theorem dX5_readLoss_43 : decode cX5_readLoss 43 = .ok (.invokevirtual 88, 3) := by decide +kernel
theorem dX5_readLoss_46 : decode cX5_readLoss 46 = .ok (.return_, 1) := by decide +kernel
theorem dX5_readLoss_47 : decode cX5_readLoss 47 = .ok (.aload_n 0, 1) := by decide +kernel
theorem dX5_readLoss_48 : decode cX5_readLoss 48 = .ok (.getfield 12, 3) := by decide +kernel
theorem dX5_readLoss_51 : decode cX5_readLoss 51 = .ok (.iload_n 1, 1) := by decide +kernel
theorem dX5_readLoss_52 : decode cX5_readLoss 52 = .ok (.putfield 108, 3) := by decide +kernel
theorem dX5_readLoss_55 : decode cX5_readLoss 55 = .ok (.aload_n 0, 1) := by decide +kernel
theorem dX5_readLoss_56 : decode cX5_readLoss 56 = .ok (.invokevirtual 99, 3) := by decide +kernel
theorem dX5_readLoss_59 : decode cX5_readLoss 59 = .ok (.return_, 1) := by decide +kernel
theorem dX5_finishRule_0 : decode cX5_finishRule 0 = .ok (.aload_n 0, 1) := by decide +kernel
theorem dX5_finishRule_1 : decode cX5_finishRule 1 = .ok (.invokevirtual 32, 3) := by decide +kernel
theorem dX5_finishRule_4 : decode cX5_finishRule 4 = .ok (.aload_n 0, 1) := by decide +kernel
theorem dX5_finishRule_5 : decode cX5_finishRule 5 = .ok (.getfield 35, 3) := by decide +kernel
theorem dX5_finishRule_8 : decode cX5_finishRule 8 = .ok (.iconst 3, 1) := by decide +kernel
theorem dX5_finishRule_9 : decode cX5_finishRule 9 = .ok (.if_icmp .ne 19, 3) := by decide +kernel
theorem dX5_finishRule_12 : decode cX5_finishRule 12 = .ok (.aload_n 0, 1) := by decide +kernel
theorem dX5_finishRule_13 : decode cX5_finishRule 13 = .ok (.getfield 12, 3) := by decide +kernel
theorem dX5_finishRule_16 : decode cX5_finishRule 16 = .ok (.dup, 1) := by decide +kernel
theorem dX5_finishRule_17 : decode cX5_finishRule 17 = .ok (.getfield 111, 3) := by decide +kernel
theorem dX5_finishRule_20 : decode cX5_finishRule 20 = .ok (.iconst 1, 1) := by decide +kernel
theorem dX5_finishRule_21 : decode cX5_finishRule 21 = .ok (.iadd, 1) := by decide +kernel
theorem dX5_finishRule_22 : decode cX5_finishRule 22 = .ok (.putfield 111, 3) := by decide +kernel
theorem dX5_finishRule_25 : decode cX5_finishRule 25 = .ok (.goto 7, 3) := by decide +kernel
theorem dX5_finishRule_28 : decode cX5_finishRule 28 = .ok (.aload_n 0, 1) := by decide +kernel
theorem dX5_finishRule_29 : decode cX5_finishRule 29 = .ok (.invokevirtual 88, 3) := by decide +kernel
theorem dX5_finishRule_32 : decode cX5_finishRule 32 = .ok (.return_, 1) := by decide +kernel
theorem dX5_takeNumber_0 : decode cX5_takeNumber 0 = .ok (.aload_n 0, 1) := by decide +kernel
theorem dX5_takeNumber_1 : decode cX5_takeNumber 1 = .ok (.invokevirtual 32, 3) := by decide +kernel
theorem dX5_takeNumber_4 : decode cX5_takeNumber 4 = .ok (.aload_n 0, 1) := by decide +kernel
theorem dX5_takeNumber_5 : decode cX5_takeNumber 5 = .ok (.getfield 35, 3) := by decide +kernel
theorem dX5_takeNumber_8 : decode cX5_takeNumber 8 = .ok (.iconst 2, 1) := by decide +kernel
theorem dX5_takeNumber_9 : decode cX5_takeNumber 9 = .ok (.if_icmp .eq 9, 3) := by decide +kernel
theorem dX5_takeNumber_12 : decode cX5_takeNumber 12 = .ok (.aload_n 0, 1) := by decide +kernel
theorem dX5_takeNumber_13 : decode cX5_takeNumber 13 = .ok (.invokevirtual 88, 3) := by decide +kernel
theorem dX5_takeNumber_16 : decode cX5_takeNumber 16 = .ok (.iconst (-1), 1) := by decide +kernel
theorem dX5_takeNumber_17 : decode cX5_takeNumber 17 = .ok (.ireturn, 1) := by decide +kernel
theorem dX5_takeNumber_18 : decode cX5_takeNumber 18 = .ok (.iconst 0, 1) := by decide +kernel
theorem dX5_takeNumber_19 : decode cX5_takeNumber 19 = .ok (.istore_n 2, 1) := by decide +kernel
theorem dX5_takeNumber_20 : decode cX5_takeNumber 20 = .ok (.aload_n 0, 1) := by decide +kernel
theorem dX5_takeNumber_21 : decode cX5_takeNumber 21 = .ok (.getfield 114, 3) := by decide +kernel
theorem dX5_takeNumber_24 : decode cX5_takeNumber 24 = .ok (.istore_n 3, 1) := by decide +kernel
theorem dX5_takeNumber_25 : decode cX5_takeNumber 25 = .ok (.iload_n 3, 1) := by decide +kernel
theorem dX5_takeNumber_26 : decode cX5_takeNumber 26 = .ok (.aload_n 0, 1) := by decide +kernel
theorem dX5_takeNumber_27 : decode cX5_takeNumber 27 = .ok (.getfield 55, 3) := by decide +kernel
theorem dX5_takeNumber_30 : decode cX5_takeNumber 30 = .ok (.if_icmp .ge 26, 3) := by decide +kernel
theorem dX5_takeNumber_33 : decode cX5_takeNumber 33 = .ok (.iload_n 2, 1) := by decide +kernel
theorem dX5_takeNumber_34 : decode cX5_takeNumber 34 = .ok (.bipush 10, 2) := by decide +kernel
theorem dX5_takeNumber_36 : decode cX5_takeNumber 36 = .ok (.imul, 1) := by decide +kernel
theorem dX5_takeNumber_37 : decode cX5_takeNumber 37 = .ok (.aload_n 0, 1) := by decide +kernel
theorem dX5_takeNumber_38 : decode cX5_takeNumber 38 = .ok (.getfield 25, 3) := by decide +kernel
theorem dX5_takeNumber_41 : decode cX5_takeNumber 41 = .ok (.iload_n 3, 1) := by decide +kernel
theorem dX5_takeNumber_42 : decode cX5_takeNumber 42 = .ok (.invokevirtual 117, 3) := by decide +kernel
theorem dX5_takeNumber_45 : decode cX5_takeNumber 45 = .ok (.iadd, 1) := by decide +kernel
theorem dX5_takeNumber_46 : decode cX5_takeNumber 46 = .ok (.bipush 48, 2) := by decide +kernel
theorem dX5_takeNumber_48 : decode cX5_takeNumber 48 = .ok (.isub, 1) := by decide +kernel
theorem dX5_takeNumber_49 : decode cX5_takeNumber 49 = .ok (.istore_n 2, 1) := by decide +kernel
theorem dX5_takeNumber_50 : decode cX5_takeNumber 50 = .ok (.iinc 3 1, 3) := by decide +kernel
theorem dX5_takeNumber_53 : decode cX5_takeNumber 53 = .ok (.goto (-28), 3) := by decide +kernel
theorem dX5_takeNumber_56 : decode cX5_takeNumber 56 = .ok (.iload_n 2, 1) := by decide +kernel
theorem dX5_takeNumber_57 : decode cX5_takeNumber 57 = .ok (.iload_n 1, 1) := by decide +kernel
theorem dX5_takeNumber_58 : decode cX5_takeNumber 58 = .ok (.if_icmp .le 10, 3) := by decide +kernel
theorem dX5_takeNumber_61 : decode cX5_takeNumber 61 = .ok (.aload_n 0, 1) := by decide +kernel
theorem dX5_takeNumber_62 : decode cX5_takeNumber 62 = .ok (.iconst 3, 1) := by decide +kernel
theorem dX5_takeNumber_63 : decode cX5_takeNumber 63 = .ok (.invokevirtual 95, 3) := by decide +kernel
theorem dX5_takeNumber_66 : decode cX5_takeNumber 66 = .ok (.iconst (-1), 1) := by decide +kernel
theorem dX5_takeNumber_67 : decode cX5_takeNumber 67 = .ok (.ireturn, 1) := by decide +kernel
theorem dX5_takeNumber_68 : decode cX5_takeNumber 68 = .ok (.iload_n 2, 1) := by decide +kernel
theorem dX5_takeNumber_69 : decode cX5_takeNumber 69 = .ok (.ireturn, 1) := by decide +kernel
theorem dX5_refuseToken_0 : decode cX5_refuseToken 0 = .ok (.aload_n 0, 1) := by decide +kernel
theorem dX5_refuseToken_1 : decode cX5_refuseToken 1 = .ok (.aload_n 0, 1) := by decide +kernel
theorem dX5_refuseToken_2 : decode cX5_refuseToken 2 = .ok (.getfield 35, 3) := by decide +kernel
theorem dX5_refuseToken_5 : decode cX5_refuseToken 5 = .ok (.iconst 4, 1) := by decide +kernel
theorem dX5_refuseToken_6 : decode cX5_refuseToken 6 = .ok (.if_icmp .ne 7, 3) := by decide +kernel
theorem dX5_refuseToken_9 : decode cX5_refuseToken 9 = .ok (.iconst 1, 1) := by decide +kernel
theorem dX5_refuseToken_10 : decode cX5_refuseToken 10 = .ok (.goto 4, 3) := by decide +kernel
theorem dX5_refuseToken_13 : decode cX5_refuseToken 13 = .ok (.iconst 2, 1) := by decide +kernel
theorem dX5_refuseToken_14 : decode cX5_refuseToken 14 = .ok (.invokevirtual 95, 3) := by decide +kernel
theorem dX5_refuseToken_17 : decode cX5_refuseToken 17 = .ok (.return_, 1) := by decide +kernel
theorem dX5_refuse_0 : decode cX5_refuse 0 = .ok (.aload_n 0, 1) := by decide +kernel
theorem dX5_refuse_1 : decode cX5_refuse 1 = .ok (.iload_n 1, 1) := by decide +kernel
theorem dX5_refuse_2 : decode cX5_refuse 2 = .ok (.putfield 39, 3) := by decide +kernel
theorem dX5_refuse_5 : decode cX5_refuse 5 = .ok (.aload_n 0, 1) := by decide +kernel
theorem dX5_refuse_6 : decode cX5_refuse 6 = .ok (.aload_n 0, 1) := by decide +kernel
theorem dX5_refuse_7 : decode cX5_refuse 7 = .ok (.getfield 114, 3) := by decide +kernel
theorem dX5_refuse_10 : decode cX5_refuse 10 = .ok (.putfield 58, 3) := by decide +kernel
theorem dX5_refuse_13 : decode cX5_refuse 13 = .ok (.return_, 1) := by decide +kernel
theorem dX5_step_0 : decode cX5_step 0 = .ok (.aload_n 0, 1) := by decide +kernel
theorem dX5_step_1 : decode cX5_step 1 = .ok (.aload_n 0, 1) := by decide +kernel
theorem dX5_step_2 : decode cX5_step 2 = .ok (.getfield 55, 3) := by decide +kernel
theorem dX5_step_5 : decode cX5_step 5 = .ok (.putfield 114, 3) := by decide +kernel
theorem dX5_step_8 : decode cX5_step 8 = .ok (.aload_n 0, 1) := by decide +kernel
theorem dX5_step_9 : decode cX5_step 9 = .ok (.getfield 114, 3) := by decide +kernel
theorem dX5_step_12 : decode cX5_step 12 = .ok (.aload_n 0, 1) := by decide +kernel
theorem dX5_step_13 : decode cX5_step 13 = .ok (.getfield 25, 3) := by decide +kernel
theorem dX5_step_16 : decode cX5_step 16 = .ok (.getfield 122, 3) := by decide +kernel
theorem dX5_step_19 : decode cX5_step 19 = .ok (.if_icmp .ge 33, 3) := by decide +kernel
theorem dX5_step_22 : decode cX5_step 22 = .ok (.aload_n 0, 1) := by decide +kernel
theorem dX5_step_23 : decode cX5_step 23 = .ok (.getfield 25, 3) := by decide +kernel
theorem dX5_step_26 : decode cX5_step 26 = .ok (.aload_n 0, 1) := by decide +kernel
theorem dX5_step_27 : decode cX5_step 27 = .ok (.getfield 114, 3) := by decide +kernel
theorem dX5_step_30 : decode cX5_step 30 = .ok (.invokevirtual 117, 3) := by decide +kernel
theorem dX5_step_33 : decode cX5_step 33 = .ok (.invokestatic 125, 3) := by decide +kernel
theorem dX5_step_36 : decode cX5_step 36 = .ok (.ifCond .eq 16, 3) := by decide +kernel
theorem dX5_step_39 : decode cX5_step 39 = .ok (.aload_n 0, 1) := by decide +kernel
theorem dX5_step_40 : decode cX5_step 40 = .ok (.dup, 1) := by decide +kernel
theorem dX5_step_41 : decode cX5_step 41 = .ok (.getfield 114, 3) := by decide +kernel
theorem dX5_step_44 : decode cX5_step 44 = .ok (.iconst 1, 1) := by decide +kernel
theorem dX5_step_45 : decode cX5_step 45 = .ok (.iadd, 1) := by decide +kernel
theorem dX5_step_46 : decode cX5_step 46 = .ok (.putfield 114, 3) := by decide +kernel
theorem dX5_step_49 : decode cX5_step 49 = .ok (.goto (-41), 3) := by decide +kernel
theorem dX5_step_52 : decode cX5_step 52 = .ok (.aload_n 0, 1) := by decide +kernel
theorem dX5_step_53 : decode cX5_step 53 = .ok (.getfield 25, 3) := by decide +kernel
theorem dX5_step_56 : decode cX5_step 56 = .ok (.aload_n 0, 1) := by decide +kernel
theorem dX5_step_57 : decode cX5_step 57 = .ok (.getfield 114, 3) := by decide +kernel
theorem dX5_step_60 : decode cX5_step 60 = .ok (.invokevirtual 117, 3) := by decide +kernel
theorem dX5_step_63 : decode cX5_step 63 = .ok (.istore_n 1, 1) := by decide +kernel
theorem dX5_step_64 : decode cX5_step 64 = .ok (.aload_n 0, 1) := by decide +kernel
theorem dX5_step_65 : decode cX5_step 65 = .ok (.getfield 114, 3) := by decide +kernel
theorem dX5_step_68 : decode cX5_step 68 = .ok (.aload_n 0, 1) := by decide +kernel
theorem dX5_step_69 : decode cX5_step 69 = .ok (.getfield 25, 3) := by decide +kernel
theorem dX5_step_72 : decode cX5_step 72 = .ok (.getfield 122, 3) := by decide +kernel
theorem dX5_step_75 : decode cX5_step 75 = .ok (.if_icmp .lt 19, 3) := by decide +kernel
theorem dX5_step_78 : decode cX5_step 78 = .ok (.aload_n 0, 1) := by decide +kernel
theorem dX5_step_79 : decode cX5_step 79 = .ok (.iconst 0, 1) := by decide +kernel
theorem dX5_step_80 : decode cX5_step 80 = .ok (.putfield 35, 3) := by decide +kernel
theorem dX5_step_83 : decode cX5_step 83 = .ok (.aload_n 0, 1) := by decide +kernel
theorem dX5_step_84 : decode cX5_step 84 = .ok (.aload_n 0, 1) := by decide +kernel
theorem dX5_step_85 : decode cX5_step 85 = .ok (.getfield 114, 3) := by decide +kernel
theorem dX5_step_88 : decode cX5_step 88 = .ok (.putfield 55, 3) := by decide +kernel
theorem dX5_step_91 : decode cX5_step 91 = .ok (.goto 49, 3) := by decide +kernel
theorem dX5_step_94 : decode cX5_step 94 = .ok (.iload_n 1, 1) := by decide +kernel
theorem dX5_step_95 : decode cX5_step 95 = .ok (.invokestatic 129, 3) := by decide +kernel
theorem dX5_step_98 : decode cX5_step 98 = .ok (.ifCond .ne 10, 3) := by decide +kernel
theorem dX5_step_101 : decode cX5_step 101 = .ok (.iload_n 1, 1) := by decide +kernel
theorem dX5_step_102 : decode cX5_step 102 = .ok (.invokestatic 132, 3) := by decide +kernel
theorem dX5_step_105 : decode cX5_step 105 = .ok (.ifCond .eq 10, 3) := by decide +kernel
theorem dX5_step_108 : decode cX5_step 108 = .ok (.aload_n 0, 1) := by decide +kernel
theorem dX5_step_109 : decode cX5_step 109 = .ok (.invokevirtual 135, 3) := by decide +kernel
theorem dX5_step_112 : decode cX5_step 112 = .ok (.goto 28, 3) := by decide +kernel
theorem dX5_step_115 : decode cX5_step 115 = .ok (.aload_n 0, 1) := by decide +kernel
theorem dX5_step_116 : decode cX5_step 116 = .ok (.iload_n 1, 1) := by decide +kernel
theorem dX5_step_117 : decode cX5_step 117 = .ok (.bipush 59, 2) := by decide +kernel
theorem dX5_step_119 : decode cX5_step 119 = .ok (.if_icmp .ne 7, 3) := by decide +kernel
theorem dX5_step_122 : decode cX5_step 122 = .ok (.iconst 3, 1) := by decide +kernel
theorem dX5_step_123 : decode cX5_step 123 = .ok (.goto 4, 3) := by decide +kernel
theorem dX5_step_126 : decode cX5_step 126 = .ok (.iconst 4, 1) := by decide +kernel
theorem dX5_step_127 : decode cX5_step 127 = .ok (.putfield 35, 3) := by decide +kernel
theorem dX5_step_130 : decode cX5_step 130 = .ok (.aload_n 0, 1) := by decide +kernel
theorem dX5_step_131 : decode cX5_step 131 = .ok (.aload_n 0, 1) := by decide +kernel
theorem dX5_step_132 : decode cX5_step 132 = .ok (.getfield 114, 3) := by decide +kernel
theorem dX5_step_135 : decode cX5_step 135 = .ok (.iconst 1, 1) := by decide +kernel
theorem dX5_step_136 : decode cX5_step 136 = .ok (.iadd, 1) := by decide +kernel
theorem dX5_step_137 : decode cX5_step 137 = .ok (.putfield 55, 3) := by decide +kernel
theorem dX5_step_140 : decode cX5_step 140 = .ok (.return_, 1) := by decide +kernel
theorem dX5_stepOverRun_0 : decode cX5_stepOverRun 0 = .ok (.iconst 0, 1) := by decide +kernel
theorem dX5_stepOverRun_1 : decode cX5_stepOverRun 1 = .ok (.istore_n 1, 1) := by decide +kernel
theorem dX5_stepOverRun_2 : decode cX5_stepOverRun 2 = .ok (.iconst 0, 1) := by decide +kernel
theorem dX5_stepOverRun_3 : decode cX5_stepOverRun 3 = .ok (.istore_n 2, 1) := by decide +kernel
theorem dX5_stepOverRun_4 : decode cX5_stepOverRun 4 = .ok (.aload_n 0, 1) := by decide +kernel
theorem dX5_stepOverRun_5 : decode cX5_stepOverRun 5 = .ok (.aload_n 0, 1) := by decide +kernel
theorem dX5_stepOverRun_6 : decode cX5_stepOverRun 6 = .ok (.getfield 114, 3) := by decide +kernel
theorem dX5_stepOverRun_9 : decode cX5_stepOverRun 9 = .ok (.putfield 55, 3) := by decide +kernel
theorem dX5_stepOverRun_12 : decode cX5_stepOverRun 12 = .ok (.aload_n 0, 1) := by decide +kernel
theorem dX5_stepOverRun_13 : decode cX5_stepOverRun 13 = .ok (.getfield 55, 3) := by decide +kernel
theorem dX5_stepOverRun_16 : decode cX5_stepOverRun 16 = .ok (.aload_n 0, 1) := by decide +kernel
theorem dX5_stepOverRun_17 : decode cX5_stepOverRun 17 = .ok (.getfield 25, 3) := by decide +kernel
theorem dX5_stepOverRun_20 : decode cX5_stepOverRun 20 = .ok (.getfield 122, 3) := by decide +kernel
theorem dX5_stepOverRun_23 : decode cX5_stepOverRun 23 = .ok (.if_icmp .ge 76, 3) := by decide +kernel
theorem dX5_stepOverRun_26 : decode cX5_stepOverRun 26 = .ok (.aload_n 0, 1) := by decide +kernel
theorem dX5_stepOverRun_27 : decode cX5_stepOverRun 27 = .ok (.getfield 25, 3) := by decide +kernel
theorem dX5_stepOverRun_30 : decode cX5_stepOverRun 30 = .ok (.aload_n 0, 1) := by decide +kernel
theorem dX5_stepOverRun_31 : decode cX5_stepOverRun 31 = .ok (.getfield 55, 3) := by decide +kernel
theorem dX5_stepOverRun_34 : decode cX5_stepOverRun 34 = .ok (.invokevirtual 117, 3) := by decide +kernel
theorem dX5_stepOverRun_37 : decode cX5_stepOverRun 37 = .ok (.invokestatic 129, 3) := by decide +kernel
theorem dX5_stepOverRun_40 : decode cX5_stepOverRun 40 = .ok (.ifCond .ne 20, 3) := by decide +kernel
theorem dX5_stepOverRun_43 : decode cX5_stepOverRun 43 = .ok (.aload_n 0, 1) := by decide +kernel
theorem dX5_stepOverRun_44 : decode cX5_stepOverRun 44 = .ok (.getfield 25, 3) := by decide +kernel
theorem dX5_stepOverRun_47 : decode cX5_stepOverRun 47 = .ok (.aload_n 0, 1) := by decide +kernel
theorem dX5_stepOverRun_48 : decode cX5_stepOverRun 48 = .ok (.getfield 55, 3) := by decide +kernel
theorem dX5_stepOverRun_51 : decode cX5_stepOverRun 51 = .ok (.invokevirtual 117, 3) := by decide +kernel
theorem dX5_stepOverRun_54 : decode cX5_stepOverRun 54 = .ok (.invokestatic 132, 3) := by decide +kernel
theorem dX5_stepOverRun_57 : decode cX5_stepOverRun 57 = .ok (.ifCond .eq 42, 3) := by decide +kernel
theorem dX5_stepOverRun_60 : decode cX5_stepOverRun 60 = .ok (.aload_n 0, 1) := by decide +kernel
theorem dX5_stepOverRun_61 : decode cX5_stepOverRun 61 = .ok (.getfield 25, 3) := by decide +kernel
theorem dX5_stepOverRun_64 : decode cX5_stepOverRun 64 = .ok (.aload_n 0, 1) := by decide +kernel
theorem dX5_stepOverRun_65 : decode cX5_stepOverRun 65 = .ok (.getfield 55, 3) := by decide +kernel
theorem dX5_stepOverRun_68 : decode cX5_stepOverRun 68 = .ok (.invokevirtual 117, 3) := by decide +kernel
theorem dX5_stepOverRun_71 : decode cX5_stepOverRun 71 = .ok (.invokestatic 129, 3) := by decide +kernel
theorem dX5_stepOverRun_74 : decode cX5_stepOverRun 74 = .ok (.ifCond .eq 9, 3) := by decide +kernel
theorem dX5_stepOverRun_77 : decode cX5_stepOverRun 77 = .ok (.iinc 1 1, 3) := by decide +kernel
theorem dX5_stepOverRun_80 : decode cX5_stepOverRun 80 = .ok (.goto 6, 3) := by decide +kernel
theorem dX5_stepOverRun_83 : decode cX5_stepOverRun 83 = .ok (.iinc 2 1, 3) := by decide +kernel
theorem dX5_stepOverRun_86 : decode cX5_stepOverRun 86 = .ok (.aload_n 0, 1) := by decide +kernel
theorem dX5_stepOverRun_87 : decode cX5_stepOverRun 87 = .ok (.dup, 1) := by decide +kernel
theorem dX5_stepOverRun_88 : decode cX5_stepOverRun 88 = .ok (.getfield 55, 3) := by decide +kernel
theorem dX5_stepOverRun_91 : decode cX5_stepOverRun 91 = .ok (.iconst 1, 1) := by decide +kernel
theorem dX5_stepOverRun_92 : decode cX5_stepOverRun 92 = .ok (.iadd, 1) := by decide +kernel
theorem dX5_stepOverRun_93 : decode cX5_stepOverRun 93 = .ok (.putfield 55, 3) := by decide +kernel
theorem dX5_stepOverRun_96 : decode cX5_stepOverRun 96 = .ok (.goto (-84), 3) := by decide +kernel
theorem dX5_stepOverRun_99 : decode cX5_stepOverRun 99 = .ok (.iload_n 2, 1) := by decide +kernel
theorem dX5_stepOverRun_100 : decode cX5_stepOverRun 100 = .ok (.ifCond .ne 11, 3) := by decide +kernel
theorem dX5_stepOverRun_103 : decode cX5_stepOverRun 103 = .ok (.aload_n 0, 1) := by decide +kernel
theorem dX5_stepOverRun_104 : decode cX5_stepOverRun 104 = .ok (.iconst 1, 1) := by decide +kernel
theorem dX5_stepOverRun_105 : decode cX5_stepOverRun 105 = .ok (.putfield 35, 3) := by decide +kernel
theorem dX5_stepOverRun_108 : decode cX5_stepOverRun 108 = .ok (.goto 21, 3) := by decide +kernel
theorem dX5_stepOverRun_111 : decode cX5_stepOverRun 111 = .ok (.aload_n 0, 1) := by decide +kernel
theorem dX5_stepOverRun_112 : decode cX5_stepOverRun 112 = .ok (.iload_n 1, 1) := by decide +kernel
theorem dX5_stepOverRun_113 : decode cX5_stepOverRun 113 = .ok (.ifCond .ne 12, 3) := by decide +kernel
theorem dX5_stepOverRun_116 : decode cX5_stepOverRun 116 = .ok (.iload_n 2, 1) := by decide +kernel
theorem dX5_stepOverRun_117 : decode cX5_stepOverRun 117 = .ok (.iconst 4, 1) := by decide +kernel
theorem dX5_stepOverRun_118 : decode cX5_stepOverRun 118 = .ok (.if_icmp .gt 7, 3) := by decide +kernel
theorem dX5_stepOverRun_121 : decode cX5_stepOverRun 121 = .ok (.iconst 2, 1) := by decide +kernel
theorem dX5_stepOverRun_122 : decode cX5_stepOverRun 122 = .ok (.goto 4, 3) := by decide +kernel
theorem dX5_stepOverRun_125 : decode cX5_stepOverRun 125 = .ok (.iconst 4, 1) := by decide +kernel
theorem dX5_stepOverRun_126 : decode cX5_stepOverRun 126 = .ok (.putfield 35, 3) := by decide +kernel
theorem dX5_stepOverRun_129 : decode cX5_stepOverRun 129 = .ok (.return_, 1) := by decide +kernel
theorem dX5_isWord_0 : decode cX5_isWord 0 = .ok (.aload_n 0, 1) := by decide +kernel
theorem dX5_isWord_1 : decode cX5_isWord 1 = .ok (.getfield 35, 3) := by decide +kernel
theorem dX5_isWord_4 : decode cX5_isWord 4 = .ok (.iconst 1, 1) := by decide +kernel
theorem dX5_isWord_5 : decode cX5_isWord 5 = .ok (.if_icmp .ne 19, 3) := by decide +kernel
theorem dX5_isWord_8 : decode cX5_isWord 8 = .ok (.aload_n 0, 1) := by decide +kernel
theorem dX5_isWord_9 : decode cX5_isWord 9 = .ok (.getfield 55, 3) := by decide +kernel
theorem dX5_isWord_12 : decode cX5_isWord 12 = .ok (.aload_n 0, 1) := by decide +kernel
theorem dX5_isWord_13 : decode cX5_isWord 13 = .ok (.getfield 114, 3) := by decide +kernel
theorem dX5_isWord_16 : decode cX5_isWord 16 = .ok (.isub, 1) := by decide +kernel
theorem dX5_isWord_17 : decode cX5_isWord 17 = .ok (.aload_n 1, 1) := by decide +kernel
theorem dX5_isWord_18 : decode cX5_isWord 18 = .ok (.invokevirtual 138, 3) := by decide +kernel
theorem dX5_isWord_21 : decode cX5_isWord 21 = .ok (.if_icmp .eq 5, 3) := by decide +kernel
theorem dX5_isWord_24 : decode cX5_isWord 24 = .ok (.iconst 0, 1) := by decide +kernel
theorem dX5_isWord_25 : decode cX5_isWord 25 = .ok (.ireturn, 1) := by decide +kernel
theorem dX5_isWord_26 : decode cX5_isWord 26 = .ok (.iconst 0, 1) := by decide +kernel
theorem dX5_isWord_27 : decode cX5_isWord 27 = .ok (.istore_n 2, 1) := by decide +kernel
theorem dX5_isWord_28 : decode cX5_isWord 28 = .ok (.iload_n 2, 1) := by decide +kernel
theorem dX5_isWord_29 : decode cX5_isWord 29 = .ok (.aload_n 1, 1) := by decide +kernel
theorem dX5_isWord_30 : decode cX5_isWord 30 = .ok (.invokevirtual 138, 3) := by decide +kernel
theorem dX5_isWord_33 : decode cX5_isWord 33 = .ok (.if_icmp .ge 32, 3) := by decide +kernel
theorem dX5_isWord_36 : decode cX5_isWord 36 = .ok (.aload_n 0, 1) := by decide +kernel
theorem dX5_isWord_37 : decode cX5_isWord 37 = .ok (.getfield 25, 3) := by decide +kernel
theorem dX5_isWord_40 : decode cX5_isWord 40 = .ok (.aload_n 0, 1) := by decide +kernel
theorem dX5_isWord_41 : decode cX5_isWord 41 = .ok (.getfield 114, 3) := by decide +kernel
theorem dX5_isWord_44 : decode cX5_isWord 44 = .ok (.iload_n 2, 1) := by decide +kernel
theorem dX5_isWord_45 : decode cX5_isWord 45 = .ok (.iadd, 1) := by decide +kernel
theorem dX5_isWord_46 : decode cX5_isWord 46 = .ok (.invokevirtual 117, 3) := by decide +kernel
theorem dX5_isWord_49 : decode cX5_isWord 49 = .ok (.aload_n 1, 1) := by decide +kernel
theorem dX5_isWord_50 : decode cX5_isWord 50 = .ok (.iload_n 2, 1) := by decide +kernel
theorem dX5_isWord_51 : decode cX5_isWord 51 = .ok (.invokevirtual 144, 3) := by decide +kernel
theorem dX5_isWord_54 : decode cX5_isWord 54 = .ok (.if_icmp .eq 5, 3) := by decide +kernel
theorem dX5_isWord_57 : decode cX5_isWord 57 = .ok (.iconst 0, 1) := by decide +kernel
theorem dX5_isWord_58 : decode cX5_isWord 58 = .ok (.ireturn, 1) := by decide +kernel
theorem dX5_isWord_59 : decode cX5_isWord 59 = .ok (.iinc 2 1, 3) := by decide +kernel
theorem dX5_isWord_62 : decode cX5_isWord 62 = .ok (.goto (-34), 3) := by decide +kernel
theorem dX5_isWord_65 : decode cX5_isWord 65 = .ok (.iconst 1, 1) := by decide +kernel
theorem dX5_isWord_66 : decode cX5_isWord 66 = .ok (.ireturn, 1) := by decide +kernel
theorem dX5_isBlank_0 : decode cX5_isBlank 0 = .ok (.iload_n 0, 1) := by decide +kernel
theorem dX5_isBlank_1 : decode cX5_isBlank 1 = .ok (.bipush 32, 2) := by decide +kernel
theorem dX5_isBlank_3 : decode cX5_isBlank 3 = .ok (.if_icmp .eq 9, 3) := by decide +kernel
theorem dX5_isBlank_6 : decode cX5_isBlank 6 = .ok (.iload_n 0, 1) := by decide +kernel
theorem dX5_isBlank_7 : decode cX5_isBlank 7 = .ok (.bipush 10, 2) := by decide +kernel
theorem dX5_isBlank_9 : decode cX5_isBlank 9 = .ok (.if_icmp .ne 7, 3) := by decide +kernel
theorem dX5_isBlank_12 : decode cX5_isBlank 12 = .ok (.iconst 1, 1) := by decide +kernel
theorem dX5_isBlank_13 : decode cX5_isBlank 13 = .ok (.goto 4, 3) := by decide +kernel
theorem dX5_isBlank_16 : decode cX5_isBlank 16 = .ok (.iconst 0, 1) := by decide +kernel
theorem dX5_isBlank_17 : decode cX5_isBlank 17 = .ok (.ireturn, 1) := by decide +kernel
theorem dX5_isLetter_0 : decode cX5_isLetter 0 = .ok (.iload_n 0, 1) := by decide +kernel
theorem dX5_isLetter_1 : decode cX5_isLetter 1 = .ok (.bipush 97, 2) := by decide +kernel
theorem dX5_isLetter_3 : decode cX5_isLetter 3 = .ok (.if_icmp .lt 13, 3) := by decide +kernel
theorem dX5_isLetter_6 : decode cX5_isLetter 6 = .ok (.iload_n 0, 1) := by decide +kernel
theorem dX5_isLetter_7 : decode cX5_isLetter 7 = .ok (.bipush 122, 2) := by decide +kernel
theorem dX5_isLetter_9 : decode cX5_isLetter 9 = .ok (.if_icmp .gt 7, 3) := by decide +kernel
theorem dX5_isLetter_12 : decode cX5_isLetter 12 = .ok (.iconst 1, 1) := by decide +kernel
theorem dX5_isLetter_13 : decode cX5_isLetter 13 = .ok (.goto 4, 3) := by decide +kernel
theorem dX5_isLetter_16 : decode cX5_isLetter 16 = .ok (.iconst 0, 1) := by decide +kernel
theorem dX5_isLetter_17 : decode cX5_isLetter 17 = .ok (.ireturn, 1) := by decide +kernel
theorem dX5_isDigit_0 : decode cX5_isDigit 0 = .ok (.iload_n 0, 1) := by decide +kernel
theorem dX5_isDigit_1 : decode cX5_isDigit 1 = .ok (.bipush 48, 2) := by decide +kernel
theorem dX5_isDigit_3 : decode cX5_isDigit 3 = .ok (.if_icmp .lt 13, 3) := by decide +kernel
theorem dX5_isDigit_6 : decode cX5_isDigit 6 = .ok (.iload_n 0, 1) := by decide +kernel
theorem dX5_isDigit_7 : decode cX5_isDigit 7 = .ok (.bipush 57, 2) := by decide +kernel
theorem dX5_isDigit_9 : decode cX5_isDigit 9 = .ok (.if_icmp .gt 7, 3) := by decide +kernel
theorem dX5_isDigit_12 : decode cX5_isDigit 12 = .ok (.iconst 1, 1) := by decide +kernel
theorem dX5_isDigit_13 : decode cX5_isDigit 13 = .ok (.goto 4, 3) := by decide +kernel
theorem dX5_isDigit_16 : decode cX5_isDigit 16 = .ok (.iconst 0, 1) := by decide +kernel
theorem dX5_isDigit_17 : decode cX5_isDigit 17 = .ok (.ireturn, 1) := by decide +kernel
theorem dX6_init_0 : decode cX6_init 0 = .ok (.aload_n 0, 1) := by decide +kernel
theorem dX6_init_1 : decode cX6_init 1 = .ok (.invokespecial 3, 3) := by decide +kernel
theorem dX6_init_4 : decode cX6_init 4 = .ok (.aload_n 0, 1) := by decide +kernel
theorem dX6_init_5 : decode cX6_init 5 = .ok (.iconst 4, 1) := by decide +kernel
theorem dX6_init_6 : decode cX6_init 6 = .ok (.newarray .int, 2) := by decide +kernel
theorem dX6_init_8 : decode cX6_init 8 = .ok (.putfield 9, 3) := by decide +kernel
theorem dX6_init_11 : decode cX6_init 11 = .ok (.aload_n 0, 1) := by decide +kernel
theorem dX6_init_12 : decode cX6_init 12 = .ok (.iconst 4, 1) := by decide +kernel
theorem dX6_init_13 : decode cX6_init 13 = .ok (.newarray .int, 2) := by decide +kernel
theorem dX6_init_15 : decode cX6_init 15 = .ok (.putfield 15, 3) := by decide +kernel
theorem dX6_init_18 : decode cX6_init 18 = .ok (.aload_n 0, 1) := by decide +kernel
theorem dX6_init_19 : decode cX6_init 19 = .ok (.invokevirtual 18, 3) := by decide +kernel
theorem dX6_init_22 : decode cX6_init 22 = .ok (.return_, 1) := by decide +kernel
theorem dX6_clear_0 : decode cX6_clear 0 = .ok (.iconst 0, 1) := by decide +kernel
theorem dX6_clear_1 : decode cX6_clear 1 = .ok (.istore_n 1, 1) := by decide +kernel
theorem dX6_clear_2 : decode cX6_clear 2 = .ok (.iload_n 1, 1) := by decide +kernel
theorem dX6_clear_3 : decode cX6_clear 3 = .ok (.iconst 4, 1) := by decide +kernel
theorem dX6_clear_4 : decode cX6_clear 4 = .ok (.if_icmp .ge 23, 3) := by decide +kernel
theorem dX6_clear_7 : decode cX6_clear 7 = .ok (.aload_n 0, 1) := by decide +kernel
theorem dX6_clear_8 : decode cX6_clear 8 = .ok (.getfield 9, 3) := by decide +kernel
theorem dX6_clear_11 : decode cX6_clear 11 = .ok (.iload_n 1, 1) := by decide +kernel
theorem dX6_clear_12 : decode cX6_clear 12 = .ok (.iconst 0, 1) := by decide +kernel
theorem dX6_clear_13 : decode cX6_clear 13 = .ok (.iastore, 1) := by decide +kernel
theorem dX6_clear_14 : decode cX6_clear 14 = .ok (.aload_n 0, 1) := by decide +kernel
theorem dX6_clear_15 : decode cX6_clear 15 = .ok (.getfield 15, 3) := by decide +kernel
theorem dX6_clear_18 : decode cX6_clear 18 = .ok (.iload_n 1, 1) := by decide +kernel
theorem dX6_clear_19 : decode cX6_clear 19 = .ok (.iconst 1, 1) := by decide +kernel
theorem dX6_clear_20 : decode cX6_clear 20 = .ok (.iastore, 1) := by decide +kernel
theorem dX6_clear_21 : decode cX6_clear 21 = .ok (.iinc 1 1, 3) := by decide +kernel
theorem dX6_clear_24 : decode cX6_clear 24 = .ok (.goto (-22), 3) := by decide +kernel
theorem dX6_clear_27 : decode cX6_clear 27 = .ok (.aload_n 0, 1) := by decide +kernel
theorem dX6_clear_28 : decode cX6_clear 28 = .ok (.iconst 0, 1) := by decide +kernel
theorem dX6_clear_29 : decode cX6_clear 29 = .ok (.putfield 21, 3) := by decide +kernel
theorem dX6_clear_32 : decode cX6_clear 32 = .ok (.aload_n 0, 1) := by decide +kernel
theorem dX6_clear_33 : decode cX6_clear 33 = .ok (.iconst 0, 1) := by decide +kernel
theorem dX6_clear_34 : decode cX6_clear 34 = .ok (.putfield 25, 3) := by decide +kernel
theorem dX6_clear_37 : decode cX6_clear 37 = .ok (.aload_n 0, 1) := by decide +kernel
theorem dX6_clear_38 : decode cX6_clear 38 = .ok (.iconst 0, 1) := by decide +kernel
theorem dX6_clear_39 : decode cX6_clear 39 = .ok (.putfield 29, 3) := by decide +kernel
theorem dX6_clear_42 : decode cX6_clear 42 = .ok (.return_, 1) := by decide +kernel
theorem dX6_copy_0 : decode cX6_copy 0 = .ok (.iconst 0, 1) := by decide +kernel
theorem dX6_copy_1 : decode cX6_copy 1 = .ok (.istore_n 2, 1) := by decide +kernel
theorem dX6_copy_2 : decode cX6_copy 2 = .ok (.iload_n 2, 1) := by decide +kernel
theorem dX6_copy_3 : decode cX6_copy 3 = .ok (.iconst 4, 1) := by decide +kernel
theorem dX6_copy_4 : decode cX6_copy 4 = .ok (.if_icmp .ge 33, 3) := by decide +kernel
theorem dX6_copy_7 : decode cX6_copy 7 = .ok (.aload_n 0, 1) := by decide +kernel
theorem dX6_copy_8 : decode cX6_copy 8 = .ok (.getfield 9, 3) := by decide +kernel
theorem dX6_copy_11 : decode cX6_copy 11 = .ok (.iload_n 2, 1) := by decide +kernel
theorem dX6_copy_12 : decode cX6_copy 12 = .ok (.aload_n 1, 1) := by decide +kernel
theorem dX6_copy_13 : decode cX6_copy 13 = .ok (.getfield 9, 3) := by decide +kernel
theorem dX6_copy_16 : decode cX6_copy 16 = .ok (.iload_n 2, 1) := by decide +kernel
theorem dX6_copy_17 : decode cX6_copy 17 = .ok (.iaload, 1) := by decide +kernel
theorem dX6_copy_18 : decode cX6_copy 18 = .ok (.iastore, 1) := by decide +kernel
theorem dX6_copy_19 : decode cX6_copy 19 = .ok (.aload_n 0, 1) := by decide +kernel
theorem dX6_copy_20 : decode cX6_copy 20 = .ok (.getfield 15, 3) := by decide +kernel
theorem dX6_copy_23 : decode cX6_copy 23 = .ok (.iload_n 2, 1) := by decide +kernel
theorem dX6_copy_24 : decode cX6_copy 24 = .ok (.aload_n 1, 1) := by decide +kernel
theorem dX6_copy_25 : decode cX6_copy 25 = .ok (.getfield 15, 3) := by decide +kernel
theorem dX6_copy_28 : decode cX6_copy 28 = .ok (.iload_n 2, 1) := by decide +kernel
theorem dX6_copy_29 : decode cX6_copy 29 = .ok (.iaload, 1) := by decide +kernel
theorem dX6_copy_30 : decode cX6_copy 30 = .ok (.iastore, 1) := by decide +kernel
theorem dX6_copy_31 : decode cX6_copy 31 = .ok (.iinc 2 1, 3) := by decide +kernel
theorem dX6_copy_34 : decode cX6_copy 34 = .ok (.goto (-32), 3) := by decide +kernel
theorem dX6_copy_37 : decode cX6_copy 37 = .ok (.aload_n 0, 1) := by decide +kernel
theorem dX6_copy_38 : decode cX6_copy 38 = .ok (.aload_n 1, 1) := by decide +kernel
theorem dX6_copy_39 : decode cX6_copy 39 = .ok (.getfield 21, 3) := by decide +kernel
theorem dX6_copy_42 : decode cX6_copy 42 = .ok (.putfield 21, 3) := by decide +kernel
theorem dX6_copy_45 : decode cX6_copy 45 = .ok (.aload_n 0, 1) := by decide +kernel
theorem dX6_copy_46 : decode cX6_copy 46 = .ok (.aload_n 1, 1) := by decide +kernel
theorem dX6_copy_47 : decode cX6_copy 47 = .ok (.getfield 25, 3) := by decide +kernel
theorem dX6_copy_50 : decode cX6_copy 50 = .ok (.putfield 25, 3) := by decide +kernel
theorem dX6_copy_53 : decode cX6_copy 53 = .ok (.aload_n 0, 1) := by decide +kernel
theorem dX6_copy_54 : decode cX6_copy 54 = .ok (.aload_n 1, 1) := by decide +kernel
theorem dX6_copy_55 : decode cX6_copy 55 = .ok (.getfield 29, 3) := by decide +kernel
theorem dX6_copy_58 : decode cX6_copy 58 = .ok (.putfield 29, 3) := by decide +kernel
theorem dX6_copy_61 : decode cX6_copy 61 = .ok (.return_, 1) := by decide +kernel
theorem dX7_init_0 : decode cX7_init 0 = .ok (.aload_n 0, 1) := by decide +kernel
theorem dX7_init_1 : decode cX7_init 1 = .ok (.invokespecial 3, 3) := by decide +kernel
theorem dX7_init_4 : decode cX7_init 4 = .ok (.aload_n 0, 1) := by decide +kernel
theorem dX7_init_5 : decode cX7_init 5 = .ok (.sipush 400, 3) := by decide +kernel
theorem dX7_init_8 : decode cX7_init 8 = .ok (.newarray .int, 2) := by decide +kernel
theorem dX7_init_10 : decode cX7_init 10 = .ok (.putfield 9, 3) := by decide +kernel
theorem dX7_init_13 : decode cX7_init 13 = .ok (.aload_n 0, 1) := by decide +kernel
theorem dX7_init_14 : decode cX7_init 14 = .ok (.sipush 400, 3) := by decide +kernel
theorem dX7_init_17 : decode cX7_init 17 = .ok (.newarray .int, 2) := by decide +kernel
theorem dX7_init_19 : decode cX7_init 19 = .ok (.putfield 15, 3) := by decide +kernel
theorem dX7_init_22 : decode cX7_init 22 = .ok (.aload_n 0, 1) := by decide +kernel
theorem dX7_init_23 : decode cX7_init 23 = .ok (.sipush 400, 3) := by decide +kernel
theorem dX7_init_26 : decode cX7_init 26 = .ok (.newarray .int, 2) := by decide +kernel
theorem dX7_init_28 : decode cX7_init 28 = .ok (.putfield 18, 3) := by decide +kernel
theorem dX7_init_31 : decode cX7_init 31 = .ok (.aload_n 0, 1) := by decide +kernel
theorem dX7_init_32 : decode cX7_init 32 = .ok (.sipush 400, 3) := by decide +kernel
theorem dX7_init_35 : decode cX7_init 35 = .ok (.newarray .int, 2) := by decide +kernel
theorem dX7_init_37 : decode cX7_init 37 = .ok (.putfield 21, 3) := by decide +kernel
theorem dX7_init_40 : decode cX7_init 40 = .ok (.aload_n 0, 1) := by decide +kernel
theorem dX7_init_41 : decode cX7_init 41 = .ok (.sipush 400, 3) := by decide +kernel
theorem dX7_init_44 : decode cX7_init 44 = .ok (.newarray .int, 2) := by decide +kernel
theorem dX7_init_46 : decode cX7_init 46 = .ok (.putfield 24, 3) := by decide +kernel
theorem dX7_init_49 : decode cX7_init 49 = .ok (.aload_n 0, 1) := by decide +kernel
theorem dX7_init_50 : decode cX7_init 50 = .ok (.sipush 400, 3) := by decide +kernel
theorem dX7_init_53 : decode cX7_init 53 = .ok (.newarray .int, 2) := by decide +kernel
theorem dX7_init_55 : decode cX7_init 55 = .ok (.putfield 27, 3) := by decide +kernel
theorem dX7_init_58 : decode cX7_init 58 = .ok (.aload_n 0, 1) := by decide +kernel
theorem dX7_init_59 : decode cX7_init 59 = .ok (.sipush 400, 3) := by decide +kernel
theorem dX7_init_62 : decode cX7_init 62 = .ok (.newarray .int, 2) := by decide +kernel
theorem dX7_init_64 : decode cX7_init 64 = .ok (.putfield 30, 3) := by decide +kernel
theorem dX7_init_67 : decode cX7_init 67 = .ok (.aload_n 0, 1) := by decide +kernel
theorem dX7_init_68 : decode cX7_init 68 = .ok (.iconst 0, 1) := by decide +kernel
theorem dX7_init_69 : decode cX7_init 69 = .ok (.putfield 33, 3) := by decide +kernel
theorem dX7_init_72 : decode cX7_init 72 = .ok (.return_, 1) := by decide +kernel
theorem dX7_add_0 : decode cX7_add 0 = .ok (.aload_n 0, 1) := by decide +kernel
theorem dX7_add_1 : decode cX7_add 1 = .ok (.getfield 33, 3) := by decide +kernel
theorem dX7_add_4 : decode cX7_add 4 = .ok (.sipush 400, 3) := by decide +kernel
theorem dX7_add_7 : decode cX7_add 7 = .ok (.if_icmp .lt 5, 3) := by decide +kernel
theorem dX7_add_10 : decode cX7_add 10 = .ok (.iconst (-1), 1) := by decide +kernel
theorem dX7_add_11 : decode cX7_add 11 = .ok (.ireturn, 1) := by decide +kernel
theorem dX7_add_12 : decode cX7_add 12 = .ok (.aload_n 0, 1) := by decide +kernel
theorem dX7_add_13 : decode cX7_add 13 = .ok (.getfield 9, 3) := by decide +kernel
theorem dX7_add_16 : decode cX7_add 16 = .ok (.aload_n 0, 1) := by decide +kernel
theorem dX7_add_17 : decode cX7_add 17 = .ok (.getfield 33, 3) := by decide +kernel
theorem dX7_add_20 : decode cX7_add 20 = .ok (.iload_n 1, 1) := by decide +kernel
theorem dX7_add_21 : decode cX7_add 21 = .ok (.iastore, 1) := by decide +kernel
theorem dX7_add_22 : decode cX7_add 22 = .ok (.aload_n 0, 1) := by decide +kernel
theorem dX7_add_23 : decode cX7_add 23 = .ok (.getfield 15, 3) := by decide +kernel
theorem dX7_add_26 : decode cX7_add 26 = .ok (.aload_n 0, 1) := by decide +kernel
theorem dX7_add_27 : decode cX7_add 27 = .ok (.getfield 33, 3) := by decide +kernel
theorem dX7_add_30 : decode cX7_add 30 = .ok (.iload_n 2, 1) := by decide +kernel
theorem dX7_add_31 : decode cX7_add 31 = .ok (.iastore, 1) := by decide +kernel
theorem dX7_add_32 : decode cX7_add 32 = .ok (.aload_n 0, 1) := by decide +kernel
theorem dX7_add_33 : decode cX7_add 33 = .ok (.getfield 18, 3) := by decide +kernel
theorem dX7_add_36 : decode cX7_add 36 = .ok (.aload_n 0, 1) := by decide +kernel
theorem dX7_add_37 : decode cX7_add 37 = .ok (.getfield 33, 3) := by decide +kernel
theorem dX7_add_40 : decode cX7_add 40 = .ok (.iload_n 3, 1) := by decide +kernel
theorem dX7_add_41 : decode cX7_add 41 = .ok (.iastore, 1) := by decide +kernel
theorem dX7_add_42 : decode cX7_add 42 = .ok (.aload_n 0, 1) := by decide +kernel
theorem dX7_add_43 : decode cX7_add 43 = .ok (.getfield 21, 3) := by decide +kernel
theorem dX7_add_46 : decode cX7_add 46 = .ok (.aload_n 0, 1) := by decide +kernel
theorem dX7_add_47 : decode cX7_add 47 = .ok (.getfield 33, 3) := by decide +kernel
theorem dX7_add_50 : decode cX7_add 50 = .ok (.iload 4, 2) := by decide +kernel
theorem dX7_add_52 : decode cX7_add 52 = .ok (.iastore, 1) := by decide +kernel
theorem dX7_add_53 : decode cX7_add 53 = .ok (.aload_n 0, 1) := by decide +kernel
theorem dX7_add_54 : decode cX7_add 54 = .ok (.getfield 24, 3) := by decide +kernel
theorem dX7_add_57 : decode cX7_add 57 = .ok (.aload_n 0, 1) := by decide +kernel
theorem dX7_add_58 : decode cX7_add 58 = .ok (.getfield 33, 3) := by decide +kernel
theorem dX7_add_61 : decode cX7_add 61 = .ok (.iload 5, 2) := by decide +kernel
theorem dX7_add_63 : decode cX7_add 63 = .ok (.iastore, 1) := by decide +kernel
theorem dX7_add_64 : decode cX7_add 64 = .ok (.aload_n 0, 1) := by decide +kernel
theorem dX7_add_65 : decode cX7_add 65 = .ok (.getfield 27, 3) := by decide +kernel
theorem dX7_add_68 : decode cX7_add 68 = .ok (.aload_n 0, 1) := by decide +kernel
theorem dX7_add_69 : decode cX7_add 69 = .ok (.getfield 33, 3) := by decide +kernel
theorem dX7_add_72 : decode cX7_add 72 = .ok (.iconst (-1), 1) := by decide +kernel
theorem dX7_add_73 : decode cX7_add 73 = .ok (.iastore, 1) := by decide +kernel
theorem dX7_add_74 : decode cX7_add 74 = .ok (.aload_n 0, 1) := by decide +kernel
theorem dX7_add_75 : decode cX7_add 75 = .ok (.getfield 30, 3) := by decide +kernel
theorem dX7_add_78 : decode cX7_add 78 = .ok (.aload_n 0, 1) := by decide +kernel
theorem dX7_add_79 : decode cX7_add 79 = .ok (.getfield 33, 3) := by decide +kernel
theorem dX7_add_82 : decode cX7_add 82 = .ok (.iconst (-1), 1) := by decide +kernel
theorem dX7_add_83 : decode cX7_add 83 = .ok (.iastore, 1) := by decide +kernel
theorem dX7_add_84 : decode cX7_add 84 = .ok (.aload_n 0, 1) := by decide +kernel
theorem dX7_add_85 : decode cX7_add 85 = .ok (.dup, 1) := by decide +kernel
theorem dX7_add_86 : decode cX7_add 86 = .ok (.getfield 33, 3) := by decide +kernel
theorem dX7_add_89 : decode cX7_add 89 = .ok (.iconst 1, 1) := by decide +kernel
theorem dX7_add_90 : decode cX7_add 90 = .ok (.iadd, 1) := by decide +kernel
theorem dX7_add_91 : decode cX7_add 91 = .ok (.putfield 33, 3) := by decide +kernel
theorem dX7_add_94 : decode cX7_add 94 = .ok (.aload_n 0, 1) := by decide +kernel
theorem dX7_add_95 : decode cX7_add 95 = .ok (.getfield 33, 3) := by decide +kernel
theorem dX7_add_98 : decode cX7_add 98 = .ok (.iconst 1, 1) := by decide +kernel
theorem dX7_add_99 : decode cX7_add 99 = .ok (.isub, 1) := by decide +kernel
theorem dX7_add_100 : decode cX7_add 100 = .ok (.ireturn, 1) := by decide +kernel
theorem dX7_countsAsOf_0 : decode cX7_countsAsOf 0 = .ok (.aload_n 0, 1) := by decide +kernel
theorem dX7_countsAsOf_1 : decode cX7_countsAsOf 1 = .ok (.getfield 18, 3) := by decide +kernel
theorem dX7_countsAsOf_4 : decode cX7_countsAsOf 4 = .ok (.iload_n 1, 1) := by decide +kernel
theorem dX7_countsAsOf_5 : decode cX7_countsAsOf 5 = .ok (.iaload, 1) := by decide +kernel
theorem dX7_countsAsOf_6 : decode cX7_countsAsOf 6 = .ok (.iload_n 2, 1) := by decide +kernel
theorem dX7_countsAsOf_7 : decode cX7_countsAsOf 7 = .ok (.if_icmp .gt 27, 3) := by decide +kernel
theorem dX7_countsAsOf_10 : decode cX7_countsAsOf 10 = .ok (.aload_n 0, 1) := by decide +kernel
theorem dX7_countsAsOf_11 : decode cX7_countsAsOf 11 = .ok (.getfield 27, 3) := by decide +kernel
theorem dX7_countsAsOf_14 : decode cX7_countsAsOf 14 = .ok (.iload_n 1, 1) := by decide +kernel
theorem dX7_countsAsOf_15 : decode cX7_countsAsOf 15 = .ok (.iaload, 1) := by decide +kernel
theorem dX7_countsAsOf_16 : decode cX7_countsAsOf 16 = .ok (.iconst (-1), 1) := by decide +kernel
theorem dX7_countsAsOf_17 : decode cX7_countsAsOf 17 = .ok (.if_icmp .eq 13, 3) := by decide +kernel
theorem dX7_countsAsOf_20 : decode cX7_countsAsOf 20 = .ok (.aload_n 0, 1) := by decide +kernel
theorem dX7_countsAsOf_21 : decode cX7_countsAsOf 21 = .ok (.getfield 27, 3) := by decide +kernel
theorem dX7_countsAsOf_24 : decode cX7_countsAsOf 24 = .ok (.iload_n 1, 1) := by decide +kernel
theorem dX7_countsAsOf_25 : decode cX7_countsAsOf 25 = .ok (.iaload, 1) := by decide +kernel
theorem dX7_countsAsOf_26 : decode cX7_countsAsOf 26 = .ok (.iload_n 2, 1) := by decide +kernel
theorem dX7_countsAsOf_27 : decode cX7_countsAsOf 27 = .ok (.if_icmp .le 7, 3) := by decide +kernel
theorem dX7_countsAsOf_30 : decode cX7_countsAsOf 30 = .ok (.iconst 1, 1) := by decide +kernel
theorem dX7_countsAsOf_31 : decode cX7_countsAsOf 31 = .ok (.goto 4, 3) := by decide +kernel
theorem dX7_countsAsOf_34 : decode cX7_countsAsOf 34 = .ok (.iconst 0, 1) := by decide +kernel
theorem dX7_countsAsOf_35 : decode cX7_countsAsOf 35 = .ok (.ireturn, 1) := by decide +kernel
theorem dX8_init_0 : decode cX8_init 0 = .ok (.aload_n 0, 1) := by decide +kernel
theorem dX8_init_1 : decode cX8_init 1 = .ok (.invokespecial 3, 3) := by decide +kernel
theorem dX8_init_4 : decode cX8_init 4 = .ok (.aload_n 0, 1) := by decide +kernel
theorem dX8_init_5 : decode cX8_init 5 = .ok (.sipush 200, 3) := by decide +kernel
theorem dX8_init_8 : decode cX8_init 8 = .ok (.newarray .int, 2) := by decide +kernel
theorem dX8_init_10 : decode cX8_init 10 = .ok (.putfield 9, 3) := by decide +kernel
theorem dX8_init_13 : decode cX8_init 13 = .ok (.aload_n 0, 1) := by decide +kernel
theorem dX8_init_14 : decode cX8_init 14 = .ok (.iconst 0, 1) := by decide +kernel
theorem dX8_init_15 : decode cX8_init 15 = .ok (.putfield 15, 3) := by decide +kernel
theorem dX8_init_18 : decode cX8_init 18 = .ok (.return_, 1) := by decide +kernel
theorem dX8_append_0 : decode cX8_append 0 = .ok (.aload_n 0, 1) := by decide +kernel
theorem dX8_append_1 : decode cX8_append 1 = .ok (.getfield 15, 3) := by decide +kernel
theorem dX8_append_4 : decode cX8_append 4 = .ok (.iconst 4, 1) := by decide +kernel
theorem dX8_append_5 : decode cX8_append 5 = .ok (.iadd, 1) := by decide +kernel
theorem dX8_append_6 : decode cX8_append 6 = .ok (.sipush 200, 3) := by decide +kernel
theorem dX8_append_9 : decode cX8_append 9 = .ok (.if_icmp .le 4, 3) := by decide +kernel
theorem dX8_append_12 : decode cX8_append 12 = .ok (.return_, 1) := by decide +kernel
theorem dX8_append_13 : decode cX8_append 13 = .ok (.aload_n 0, 1) := by decide +kernel
theorem dX8_append_14 : decode cX8_append 14 = .ok (.getfield 9, 3) := by decide +kernel
theorem dX8_append_17 : decode cX8_append 17 = .ok (.aload_n 0, 1) := by decide +kernel
theorem dX8_append_18 : decode cX8_append 18 = .ok (.getfield 15, 3) := by decide +kernel
theorem dX8_append_21 : decode cX8_append 21 = .ok (.iload_n 1, 1) := by decide +kernel
theorem dX8_append_22 : decode cX8_append 22 = .ok (.bipush 24, 2) := by decide +kernel
theorem dX8_append_24 : decode cX8_append 24 = .ok (.iushr, 1) := by decide +kernel
theorem dX8_append_25 : decode cX8_append 25 = .ok (.iastore, 1) := by decide +kernel
theorem dX8_append_26 : decode cX8_append 26 = .ok (.aload_n 0, 1) := by decide +kernel
theorem dX8_append_27 : decode cX8_append 27 = .ok (.getfield 9, 3) := by decide +kernel
theorem dX8_append_30 : decode cX8_append 30 = .ok (.aload_n 0, 1) := by decide +kernel
theorem dX8_append_31 : decode cX8_append 31 = .ok (.getfield 15, 3) := by decide +kernel
theorem dX8_append_34 : decode cX8_append 34 = .ok (.iconst 1, 1) := by decide +kernel
theorem dX8_append_35 : decode cX8_append 35 = .ok (.iadd, 1) := by decide +kernel
theorem dX8_append_36 : decode cX8_append 36 = .ok (.iload_n 1, 1) := by decide +kernel
theorem dX8_append_37 : decode cX8_append 37 = .ok (.bipush 16, 2) := by decide +kernel
theorem dX8_append_39 : decode cX8_append 39 = .ok (.iushr, 1) := by decide +kernel
theorem dX8_append_40 : decode cX8_append 40 = .ok (.sipush 255, 3) := by decide +kernel
theorem dX8_append_43 : decode cX8_append 43 = .ok (.iand, 1) := by decide +kernel
theorem dX8_append_44 : decode cX8_append 44 = .ok (.iastore, 1) := by decide +kernel
theorem dX8_append_45 : decode cX8_append 45 = .ok (.aload_n 0, 1) := by decide +kernel
theorem dX8_append_46 : decode cX8_append 46 = .ok (.getfield 9, 3) := by decide +kernel
theorem dX8_append_49 : decode cX8_append 49 = .ok (.aload_n 0, 1) := by decide +kernel
theorem dX8_append_50 : decode cX8_append 50 = .ok (.getfield 15, 3) := by decide +kernel
theorem dX8_append_53 : decode cX8_append 53 = .ok (.iconst 2, 1) := by decide +kernel
theorem dX8_append_54 : decode cX8_append 54 = .ok (.iadd, 1) := by decide +kernel
theorem dX8_append_55 : decode cX8_append 55 = .ok (.iload_n 1, 1) := by decide +kernel
theorem dX8_append_56 : decode cX8_append 56 = .ok (.bipush 8, 2) := by decide +kernel
theorem dX8_append_58 : decode cX8_append 58 = .ok (.iushr, 1) := by decide +kernel
theorem dX8_append_59 : decode cX8_append 59 = .ok (.sipush 255, 3) := by decide +kernel
theorem dX8_append_62 : decode cX8_append 62 = .ok (.iand, 1) := by decide +kernel
theorem dX8_append_63 : decode cX8_append 63 = .ok (.iastore, 1) := by decide +kernel
theorem dX8_append_64 : decode cX8_append 64 = .ok (.aload_n 0, 1) := by decide +kernel
theorem dX8_append_65 : decode cX8_append 65 = .ok (.getfield 9, 3) := by decide +kernel
theorem dX8_append_68 : decode cX8_append 68 = .ok (.aload_n 0, 1) := by decide +kernel
theorem dX8_append_69 : decode cX8_append 69 = .ok (.getfield 15, 3) := by decide +kernel
theorem dX8_append_72 : decode cX8_append 72 = .ok (.iconst 3, 1) := by decide +kernel
theorem dX8_append_73 : decode cX8_append 73 = .ok (.iadd, 1) := by decide +kernel
theorem dX8_append_74 : decode cX8_append 74 = .ok (.iload_n 1, 1) := by decide +kernel
theorem dX8_append_75 : decode cX8_append 75 = .ok (.sipush 255, 3) := by decide +kernel
theorem dX8_append_78 : decode cX8_append 78 = .ok (.iand, 1) := by decide +kernel
theorem dX8_append_79 : decode cX8_append 79 = .ok (.iastore, 1) := by decide +kernel
theorem dX8_append_80 : decode cX8_append 80 = .ok (.aload_n 0, 1) := by decide +kernel
theorem dX8_append_81 : decode cX8_append 81 = .ok (.dup, 1) := by decide +kernel
theorem dX8_append_82 : decode cX8_append 82 = .ok (.getfield 15, 3) := by decide +kernel
theorem dX8_append_85 : decode cX8_append 85 = .ok (.iconst 4, 1) := by decide +kernel
theorem dX8_append_86 : decode cX8_append 86 = .ok (.iadd, 1) := by decide +kernel
theorem dX8_append_87 : decode cX8_append 87 = .ok (.putfield 15, 3) := by decide +kernel
theorem dX8_append_90 : decode cX8_append 90 = .ok (.return_, 1) := by decide +kernel
theorem dX8_byteAt_0 : decode cX8_byteAt 0 = .ok (.iload_n 1, 1) := by decide +kernel
theorem dX8_byteAt_1 : decode cX8_byteAt 1 = .ok (.ifCond .lt 20, 3) := by decide +kernel
theorem dX8_byteAt_4 : decode cX8_byteAt 4 = .ok (.iload_n 1, 1) := by decide +kernel
theorem dX8_byteAt_5 : decode cX8_byteAt 5 = .ok (.aload_n 0, 1) := by decide +kernel
theorem dX8_byteAt_6 : decode cX8_byteAt 6 = .ok (.getfield 15, 3) := by decide +kernel
theorem dX8_byteAt_9 : decode cX8_byteAt 9 = .ok (.if_icmp .ge 12, 3) := by decide +kernel
theorem dX8_byteAt_12 : decode cX8_byteAt 12 = .ok (.aload_n 0, 1) := by decide +kernel
theorem dX8_byteAt_13 : decode cX8_byteAt 13 = .ok (.getfield 9, 3) := by decide +kernel
theorem dX8_byteAt_16 : decode cX8_byteAt 16 = .ok (.iload_n 1, 1) := by decide +kernel
theorem dX8_byteAt_17 : decode cX8_byteAt 17 = .ok (.iaload, 1) := by decide +kernel
theorem dX8_byteAt_18 : decode cX8_byteAt 18 = .ok (.goto 4, 3) := by decide +kernel
theorem dX8_byteAt_21 : decode cX8_byteAt 21 = .ok (.iconst 0, 1) := by decide +kernel
theorem dX8_byteAt_22 : decode cX8_byteAt 22 = .ok (.ireturn, 1) := by decide +kernel
theorem dX8_pairAt_0 : decode cX8_pairAt 0 = .ok (.aload_n 0, 1) := by decide +kernel
theorem dX8_pairAt_1 : decode cX8_pairAt 1 = .ok (.iload_n 1, 1) := by decide +kernel
theorem dX8_pairAt_2 : decode cX8_pairAt 2 = .ok (.invokevirtual 19, 3) := by decide +kernel
theorem dX8_pairAt_5 : decode cX8_pairAt 5 = .ok (.sipush 256, 3) := by decide +kernel
theorem dX8_pairAt_8 : decode cX8_pairAt 8 = .ok (.imul, 1) := by decide +kernel
theorem dX8_pairAt_9 : decode cX8_pairAt 9 = .ok (.aload_n 0, 1) := by decide +kernel
theorem dX8_pairAt_10 : decode cX8_pairAt 10 = .ok (.iload_n 1, 1) := by decide +kernel
theorem dX8_pairAt_11 : decode cX8_pairAt 11 = .ok (.iconst 1, 1) := by decide +kernel
theorem dX8_pairAt_12 : decode cX8_pairAt 12 = .ok (.iadd, 1) := by decide +kernel
theorem dX8_pairAt_13 : decode cX8_pairAt 13 = .ok (.invokevirtual 19, 3) := by decide +kernel
theorem dX8_pairAt_16 : decode cX8_pairAt 16 = .ok (.iadd, 1) := by decide +kernel
theorem dX8_pairAt_17 : decode cX8_pairAt 17 = .ok (.ireturn, 1) := by decide +kernel
theorem dX9_init_0 : decode cX9_init 0 = .ok (.aload_n 0, 1) := by decide +kernel
theorem dX9_init_1 : decode cX9_init 1 = .ok (.invokespecial 1, 3) := by decide +kernel
theorem dX9_init_4 : decode cX9_init 4 = .ok (.aload_n 0, 1) := by decide +kernel
theorem dX9_init_5 : decode cX9_init 5 = .ok (.new 7, 3) := by decide +kernel
theorem dX9_init_8 : decode cX9_init 8 = .ok (.dup, 1) := by decide +kernel
theorem dX9_init_9 : decode cX9_init 9 = .ok (.invokespecial 9, 3) := by decide +kernel
theorem dX9_init_12 : decode cX9_init 12 = .ok (.putfield 10, 3) := by decide +kernel
theorem dX9_init_15 : decode cX9_init 15 = .ok (.aload_n 0, 1) := by decide +kernel
theorem dX9_init_16 : decode cX9_init 16 = .ok (.new 16, 3) := by decide +kernel
theorem dX9_init_19 : decode cX9_init 19 = .ok (.dup, 1) := by decide +kernel
theorem dX9_init_20 : decode cX9_init 20 = .ok (.invokespecial 18, 3) := by decide +kernel
theorem dX9_init_23 : decode cX9_init 23 = .ok (.putfield 19, 3) := by decide +kernel
theorem dX9_init_26 : decode cX9_init 26 = .ok (.aload_n 0, 1) := by decide +kernel
theorem dX9_init_27 : decode cX9_init 27 = .ok (.new 23, 3) := by decide +kernel
theorem dX9_init_30 : decode cX9_init 30 = .ok (.dup, 1) := by decide +kernel
theorem dX9_init_31 : decode cX9_init 31 = .ok (.aload_n 0, 1) := by decide +kernel
theorem dX9_init_32 : decode cX9_init 32 = .ok (.getfield 10, 3) := by decide +kernel
theorem dX9_init_35 : decode cX9_init 35 = .ok (.invokespecial 25, 3) := by decide +kernel
theorem dX9_init_38 : decode cX9_init 38 = .ok (.putfield 28, 3) := by decide +kernel
theorem dX9_init_41 : decode cX9_init 41 = .ok (.aload_n 0, 1) := by decide +kernel
theorem dX9_init_42 : decode cX9_init 42 = .ok (.new 32, 3) := by decide +kernel
theorem dX9_init_45 : decode cX9_init 45 = .ok (.dup, 1) := by decide +kernel
theorem dX9_init_46 : decode cX9_init 46 = .ok (.invokespecial 34, 3) := by decide +kernel
theorem dX9_init_49 : decode cX9_init 49 = .ok (.putfield 35, 3) := by decide +kernel
theorem dX9_init_52 : decode cX9_init 52 = .ok (.aload_n 0, 1) := by decide +kernel
theorem dX9_init_53 : decode cX9_init 53 = .ok (.new 39, 3) := by decide +kernel
theorem dX9_init_56 : decode cX9_init 56 = .ok (.dup, 1) := by decide +kernel
theorem dX9_init_57 : decode cX9_init 57 = .ok (.invokespecial 41, 3) := by decide +kernel
theorem dX9_init_60 : decode cX9_init 60 = .ok (.putfield 42, 3) := by decide +kernel
theorem dX9_init_63 : decode cX9_init 63 = .ok (.aload_n 0, 1) := by decide +kernel
theorem dX9_init_64 : decode cX9_init 64 = .ok (.new 46, 3) := by decide +kernel
theorem dX9_init_67 : decode cX9_init 67 = .ok (.dup, 1) := by decide +kernel
theorem dX9_init_68 : decode cX9_init 68 = .ok (.invokespecial 48, 3) := by decide +kernel
theorem dX9_init_71 : decode cX9_init 71 = .ok (.putfield 49, 3) := by decide +kernel
theorem dX9_init_74 : decode cX9_init 74 = .ok (.aload_n 0, 1) := by decide +kernel
theorem dX9_init_75 : decode cX9_init 75 = .ok (.new 53, 3) := by decide +kernel
theorem dX9_init_78 : decode cX9_init 78 = .ok (.dup, 1) := by decide +kernel
theorem dX9_init_79 : decode cX9_init 79 = .ok (.aload_n 0, 1) := by decide +kernel
theorem dX9_init_80 : decode cX9_init 80 = .ok (.getfield 35, 3) := by decide +kernel
theorem dX9_init_83 : decode cX9_init 83 = .ok (.aload_n 0, 1) := by decide +kernel
theorem dX9_init_84 : decode cX9_init 84 = .ok (.getfield 42, 3) := by decide +kernel
theorem dX9_init_87 : decode cX9_init 87 = .ok (.aload_n 0, 1) := by decide +kernel
theorem dX9_init_88 : decode cX9_init 88 = .ok (.getfield 19, 3) := by decide +kernel
theorem dX9_init_91 : decode cX9_init 91 = .ok (.invokespecial 55, 3) := by decide +kernel
theorem dX9_init_94 : decode cX9_init 94 = .ok (.putfield 58, 3) := by decide +kernel
theorem dX9_init_97 : decode cX9_init 97 = .ok (.aload_n 0, 1) := by decide +kernel
theorem dX9_init_98 : decode cX9_init 98 = .ok (.new 62, 3) := by decide +kernel
theorem dX9_init_101 : decode cX9_init 101 = .ok (.dup, 1) := by decide +kernel
theorem dX9_init_102 : decode cX9_init 102 = .ok (.aload_n 0, 1) := by decide +kernel
theorem dX9_init_103 : decode cX9_init 103 = .ok (.getfield 35, 3) := by decide +kernel
theorem dX9_init_106 : decode cX9_init 106 = .ok (.aload_n 0, 1) := by decide +kernel
theorem dX9_init_107 : decode cX9_init 107 = .ok (.getfield 42, 3) := by decide +kernel
theorem dX9_init_110 : decode cX9_init 110 = .ok (.invokespecial 64, 3) := by decide +kernel
theorem dX9_init_113 : decode cX9_init 113 = .ok (.putfield 67, 3) := by decide +kernel
theorem dX9_init_116 : decode cX9_init 116 = .ok (.aload_n 0, 1) := by decide +kernel
theorem dX9_init_117 : decode cX9_init 117 = .ok (.new 71, 3) := by decide +kernel
theorem dX9_init_120 : decode cX9_init 120 = .ok (.dup, 1) := by decide +kernel
theorem dX9_init_121 : decode cX9_init 121 = .ok (.invokespecial 73, 3) := by decide +kernel
theorem dX9_init_124 : decode cX9_init 124 = .ok (.putfield 74, 3) := by decide +kernel
theorem dX9_init_127 : decode cX9_init 127 = .ok (.aload_n 0, 1) := by decide +kernel
theorem dX9_init_128 : decode cX9_init 128 = .ok (.bipush 8, 2) := by decide +kernel
theorem dX9_init_130 : decode cX9_init 130 = .ok (.newarray .int, 2) := by decide +kernel
theorem dX9_init_132 : decode cX9_init 132 = .ok (.putfield 78, 3) := by decide +kernel
theorem dX9_init_135 : decode cX9_init 135 = .ok (.aload_n 0, 1) := by decide +kernel
theorem dX9_init_136 : decode cX9_init 136 = .ok (.iconst 0, 1) := by decide +kernel
theorem dX9_init_137 : decode cX9_init 137 = .ok (.putfield 82, 3) := by decide +kernel
theorem dX9_init_140 : decode cX9_init 140 = .ok (.aload_n 0, 1) := by decide +kernel
theorem dX9_init_141 : decode cX9_init 141 = .ok (.iconst 0, 1) := by decide +kernel
theorem dX9_init_142 : decode cX9_init 142 = .ok (.putfield 86, 3) := by decide +kernel
theorem dX9_init_145 : decode cX9_init 145 = .ok (.return_, 1) := by decide +kernel
theorem dX9_feed_0 : decode cX9_feed 0 = .ok (.aload_n 0, 1) := by decide +kernel
theorem dX9_feed_1 : decode cX9_feed 1 = .ok (.getfield 10, 3) := by decide +kernel
theorem dX9_feed_4 : decode cX9_feed 4 = .ok (.getfield 89, 3) := by decide +kernel
theorem dX9_feed_7 : decode cX9_feed 7 = .ok (.bipush 20, 2) := by decide +kernel
theorem dX9_feed_9 : decode cX9_feed 9 = .ok (.iadd, 1) := by decide +kernel
theorem dX9_feed_10 : decode cX9_feed 10 = .ok (.sipush 200, 3) := by decide +kernel
theorem dX9_feed_13 : decode cX9_feed 13 = .ok (.if_icmp .le 5, 3) := by decide +kernel
theorem dX9_feed_16 : decode cX9_feed 16 = .ok (.iconst (-1), 1) := by decide +kernel
theorem dX9_feed_17 : decode cX9_feed 17 = .ok (.ireturn, 1) := by decide +kernel
theorem dX9_feed_18 : decode cX9_feed 18 = .ok (.aload_n 0, 1) := by decide +kernel
theorem dX9_feed_19 : decode cX9_feed 19 = .ok (.getfield 10, 3) := by decide +kernel
theorem dX9_feed_22 : decode cX9_feed 22 = .ok (.iload_n 1, 1) := by decide +kernel
theorem dX9_feed_23 : decode cX9_feed 23 = .ok (.invokevirtual 92, 3) := by decide +kernel
theorem dX9_feed_26 : decode cX9_feed 26 = .ok (.aload_n 0, 1) := by decide +kernel
theorem dX9_feed_27 : decode cX9_feed 27 = .ok (.getfield 10, 3) := by decide +kernel
theorem dX9_feed_30 : decode cX9_feed 30 = .ok (.iload_n 2, 1) := by decide +kernel
theorem dX9_feed_31 : decode cX9_feed 31 = .ok (.invokevirtual 92, 3) := by decide +kernel
theorem dX9_feed_34 : decode cX9_feed 34 = .ok (.aload_n 0, 1) := by decide +kernel
theorem dX9_feed_35 : decode cX9_feed 35 = .ok (.getfield 10, 3) := by decide +kernel
theorem dX9_feed_38 : decode cX9_feed 38 = .ok (.iload_n 3, 1) := by decide +kernel
theorem dX9_feed_39 : decode cX9_feed 39 = .ok (.invokevirtual 92, 3) := by decide +kernel
theorem dX9_feed_42 : decode cX9_feed 42 = .ok (.aload_n 0, 1) := by decide +kernel
theorem dX9_feed_43 : decode cX9_feed 43 = .ok (.getfield 10, 3) := by decide +kernel
theorem dX9_feed_46 : decode cX9_feed 46 = .ok (.iload 4, 2) := by decide +kernel
theorem dX9_feed_48 : decode cX9_feed 48 = .ok (.invokevirtual 92, 3) := by decide +kernel
theorem dX9_feed_51 : decode cX9_feed 51 = .ok (.aload_n 0, 1) := by decide +kernel
theorem dX9_feed_52 : decode cX9_feed 52 = .ok (.getfield 10, 3) := by decide +kernel
theorem dX9_feed_55 : decode cX9_feed 55 = .ok (.iload 5, 2) := by decide +kernel
theorem dX9_feed_57 : decode cX9_feed 57 = .ok (.invokevirtual 92, 3) := by decide +kernel
theorem dX9_feed_60 : decode cX9_feed 60 = .ok (.aload_n 0, 1) := by decide +kernel
theorem dX9_feed_61 : decode cX9_feed 61 = .ok (.getfield 10, 3) := by decide +kernel
theorem dX9_feed_64 : decode cX9_feed 64 = .ok (.getfield 89, 3) := by decide +kernel
theorem dX9_feed_67 : decode cX9_feed 67 = .ok (.ireturn, 1) := by decide +kernel
theorem dX9_end_0 : decode cX9_end 0 = .ok (.iload_n 1, 1) := by decide +kernel
theorem dX9_end_1 : decode cX9_end 1 = .ok (.ifCond .lt 14, 3) := by decide +kernel
theorem dX9_end_4 : decode cX9_end 4 = .ok (.iload_n 1, 1) := by decide +kernel
theorem dX9_end_5 : decode cX9_end 5 = .ok (.aload_n 0, 1) := by decide +kernel
theorem dX9_end_6 : decode cX9_end 6 = .ok (.getfield 10, 3) := by decide +kernel
theorem dX9_end_9 : decode cX9_end 9 = .ok (.getfield 89, 3) := by decide +kernel
theorem dX9_end_12 : decode cX9_end 12 = .ok (.if_icmp .le 5, 3) := by decide +kernel
theorem dX9_end_15 : decode cX9_end 15 = .ok (.iconst 0, 1) := by decide +kernel
theorem dX9_end_16 : decode cX9_end 16 = .ok (.ireturn, 1) := by decide +kernel
theorem dX9_end_17 : decode cX9_end 17 = .ok (.aload_n 0, 1) := by decide +kernel
theorem dX9_end_18 : decode cX9_end 18 = .ok (.getfield 10, 3) := by decide +kernel
theorem dX9_end_21 : decode cX9_end 21 = .ok (.iload_n 1, 1) := by decide +kernel
theorem dX9_end_22 : decode cX9_end 22 = .ok (.putfield 89, 3) := by decide +kernel
theorem dX9_end_25 : decode cX9_end 25 = .ok (.iconst 1, 1) := by decide +kernel
theorem dX9_end_26 : decode cX9_end 26 = .ok (.ireturn, 1) := by decide +kernel
theorem dX9_rules_0 : decode cX9_rules 0 = .ok (.aload_n 0, 1) := by decide +kernel
theorem dX9_rules_1 : decode cX9_rules 1 = .ok (.getfield 28, 3) := by decide +kernel
theorem dX9_rules_4 : decode cX9_rules 4 = .ok (.invokevirtual 96, 3) := by decide +kernel
theorem dX9_rules_7 : decode cX9_rules 7 = .ok (.aload_n 0, 1) := by decide +kernel
theorem dX9_rules_8 : decode cX9_rules 8 = .ok (.getfield 10, 3) := by decide +kernel
theorem dX9_rules_11 : decode cX9_rules 11 = .ok (.iconst 0, 1) := by decide +kernel
theorem dX9_rules_12 : decode cX9_rules 12 = .ok (.putfield 89, 3) := by decide +kernel
theorem dX9_rules_15 : decode cX9_rules 15 = .ok (.aload_n 0, 1) := by decide +kernel
theorem dX9_rules_16 : decode cX9_rules 16 = .ok (.aload_n 0, 1) := by decide +kernel
theorem dX9_rules_17 : decode cX9_rules 17 = .ok (.getfield 28, 3) := by decide +kernel
theorem dX9_rules_20 : decode cX9_rules 20 = .ok (.getfield 99, 3) := by decide +kernel
theorem dX9_rules_23 : decode cX9_rules 23 = .ok (.putfield 86, 3) := by decide +kernel
theorem dX9_rules_26 : decode cX9_rules 26 = .ok (.aload_n 0, 1) := by decide +kernel
theorem dX9_rules_27 : decode cX9_rules 27 = .ok (.getfield 86, 3) := by decide +kernel
theorem dX9_rules_30 : decode cX9_rules 30 = .ok (.ifCond .eq 13, 3) := by decide +kernel
theorem dX9_rules_33 : decode cX9_rules 33 = .ok (.iconst (-1), 1) := by decide +kernel
theorem dX9_rules_34 : decode cX9_rules 34 = .ok (.aload_n 0, 1) := by decide +kernel
theorem dX9_rules_35 : decode cX9_rules 35 = .ok (.getfield 28, 3) := by decide +kernel
theorem dX9_rules_38 : decode cX9_rules 38 = .ok (.getfield 102, 3) := by decide +kernel
theorem dX9_rules_41 : decode cX9_rules 41 = .ok (.isub, 1) := by decide +kernel
theorem dX9_rules_42 : decode cX9_rules 42 = .ok (.ireturn, 1) := by decide +kernel
theorem dX9_rules_43 : decode cX9_rules 43 = .ok (.aload_n 0, 1) := by decide +kernel
theorem dX9_rules_44 : decode cX9_rules 44 = .ok (.getfield 19, 3) := by decide +kernel
theorem dX9_rules_47 : decode cX9_rules 47 = .ok (.aload_n 0, 1) := by decide +kernel
theorem dX9_rules_48 : decode cX9_rules 48 = .ok (.getfield 28, 3) := by decide +kernel
theorem dX9_rules_51 : decode cX9_rules 51 = .ok (.getfield 105, 3) := by decide +kernel
theorem dX9_rules_54 : decode cX9_rules 54 = .ok (.invokevirtual 108, 3) := by decide +kernel
theorem dX9_rules_57 : decode cX9_rules 57 = .ok (.aload_n 0, 1) := by decide +kernel
theorem dX9_rules_58 : decode cX9_rules 58 = .ok (.getfield 19, 3) := by decide +kernel
theorem dX9_rules_61 : decode cX9_rules 61 = .ok (.getfield 112, 3) := by decide +kernel
theorem dX9_rules_64 : decode cX9_rules 64 = .ok (.ireturn, 1) := by decide +kernel
theorem dX9_fault_0 : decode cX9_fault 0 = .ok (.aload_n 0, 1) := by decide +kernel
theorem dX9_fault_1 : decode cX9_fault 1 = .ok (.getfield 86, 3) := by decide +kernel
theorem dX9_fault_4 : decode cX9_fault 4 = .ok (.ireturn, 1) := by decide +kernel
theorem dX9_lot_0 : decode cX9_lot 0 = .ok (.iload_n 1, 1) := by decide +kernel
theorem dX9_lot_1 : decode cX9_lot 1 = .ok (.bipush 8, 2) := by decide +kernel
theorem dX9_lot_3 : decode cX9_lot 3 = .ok (.invokestatic 115, 3) := by decide +kernel
theorem dX9_lot_6 : decode cX9_lot 6 = .ok (.ifCond .eq 47, 3) := by decide +kernel
theorem dX9_lot_9 : decode cX9_lot 9 = .ok (.iload_n 2, 1) := by decide +kernel
theorem dX9_lot_10 : decode cX9_lot 10 = .ok (.bipush 6, 2) := by decide +kernel
theorem dX9_lot_12 : decode cX9_lot 12 = .ok (.invokestatic 115, 3) := by decide +kernel
theorem dX9_lot_15 : decode cX9_lot 15 = .ok (.ifCond .eq 38, 3) := by decide +kernel
theorem dX9_lot_18 : decode cX9_lot 18 = .ok (.iload_n 3, 1) := by decide +kernel
theorem dX9_lot_19 : decode cX9_lot 19 = .ok (.iconst 4, 1) := by decide +kernel
theorem dX9_lot_20 : decode cX9_lot 20 = .ok (.invokestatic 115, 3) := by decide +kernel
theorem dX9_lot_23 : decode cX9_lot 23 = .ok (.ifCond .eq 30, 3) := by decide +kernel
theorem dX9_lot_26 : decode cX9_lot 26 = .ok (.iload 4, 2) := by decide +kernel
theorem dX9_lot_28 : decode cX9_lot 28 = .ok (.iconst 1, 1) := by decide +kernel
theorem dX9_lot_29 : decode cX9_lot 29 = .ok (.if_icmp .lt 24, 3) := by decide +kernel
theorem dX9_lot_32 : decode cX9_lot 32 = .ok (.iload 4, 2) := by decide +kernel
theorem dX9_lot_34 : decode cX9_lot 34 = .ok (.sipush 500, 3) := by decide +kernel
theorem dX9_lot_37 : decode cX9_lot 37 = .ok (.if_icmp .gt 16, 3) := by decide +kernel
theorem dX9_lot_40 : decode cX9_lot 40 = .ok (.iload 5, 2) := by decide +kernel
theorem dX9_lot_42 : decode cX9_lot 42 = .ok (.iconst 4, 1) := by decide +kernel
theorem dX9_lot_43 : decode cX9_lot 43 = .ok (.invokestatic 115, 3) := by decide +kernel
theorem dX9_lot_46 : decode cX9_lot 46 = .ok (.ifCond .eq 7, 3) := by decide +kernel
theorem dX9_lot_49 : decode cX9_lot 49 = .ok (.iconst 1, 1) := by decide +kernel
theorem dX9_lot_50 : decode cX9_lot 50 = .ok (.goto 4, 3) := by decide +kernel
theorem dX9_lot_53 : decode cX9_lot 53 = .ok (.iconst 0, 1) := by decide +kernel
theorem dX9_lot_54 : decode cX9_lot 54 = .ok (.istore 6, 2) := by decide +kernel
theorem dX9_lot_56 : decode cX9_lot 56 = .ok (.iload 6, 2) := by decide +kernel
theorem dX9_lot_58 : decode cX9_lot 58 = .ok (.ifCond .eq 15, 3) := by decide +kernel
theorem dX9_lot_61 : decode cX9_lot 61 = .ok (.aload_n 0, 1) := by decide +kernel
theorem dX9_lot_62 : decode cX9_lot 62 = .ok (.getfield 35, 3) := by decide +kernel
theorem dX9_lot_65 : decode cX9_lot 65 = .ok (.getfield 119, 3) := by decide +kernel
theorem dX9_lot_68 : decode cX9_lot 68 = .ok (.bipush 100, 2) := by decide +kernel
theorem dX9_lot_70 : decode cX9_lot 70 = .ok (.if_icmp .lt 5, 3) := by decide +kernel
theorem dX9_lot_73 : decode cX9_lot 73 = .ok (.iconst (-1), 1) := by decide +kernel
theorem dX9_lot_74 : decode cX9_lot 74 = .ok (.ireturn, 1) := by decide +kernel
theorem dX9_lot_75 : decode cX9_lot 75 = .ok (.aload_n 0, 1) := by decide +kernel
theorem dX9_lot_76 : decode cX9_lot 76 = .ok (.getfield 35, 3) := by decide +kernel
theorem dX9_lot_79 : decode cX9_lot 79 = .ok (.iload_n 1, 1) := by decide +kernel
theorem dX9_lot_80 : decode cX9_lot 80 = .ok (.iload_n 2, 1) := by decide +kernel
theorem dX9_lot_81 : decode cX9_lot 81 = .ok (.iload_n 3, 1) := by decide +kernel
theorem dX9_lot_82 : decode cX9_lot 82 = .ok (.iload 4, 2) := by decide +kernel
theorem dX9_lot_84 : decode cX9_lot 84 = .ok (.iload 5, 2) := by decide +kernel
theorem dX9_lot_86 : decode cX9_lot 86 = .ok (.invokevirtual 120, 3) := by decide +kernel
theorem dX9_lot_89 : decode cX9_lot 89 = .ok (.ireturn, 1) := by decide +kernel
theorem dX9_money_0 : decode cX9_money 0 = .ok (.iload_n 1, 1) := by decide +kernel
theorem dX9_money_1 : decode cX9_money 1 = .ok (.bipush 10, 2) := by decide +kernel
theorem dX9_money_3 : decode cX9_money 3 = .ok (.invokestatic 115, 3) := by decide +kernel
theorem dX9_money_6 : decode cX9_money 6 = .ok (.ifCond .eq 13, 3) := by decide +kernel
theorem dX9_money_9 : decode cX9_money 9 = .ok (.iload_n 2, 1) := by decide +kernel
theorem dX9_money_10 : decode cX9_money 10 = .ok (.ifCond .lt 9, 3) := by decide +kernel
theorem dX9_money_13 : decode cX9_money 13 = .ok (.iload_n 2, 1) := by decide +kernel
theorem dX9_money_14 : decode cX9_money 14 = .ok (.ldc 124, 2) := by decide +kernel
theorem dX9_money_16 : decode cX9_money 16 = .ok (.if_icmp .le 5, 3) := by decide +kernel
theorem dX9_money_19 : decode cX9_money 19 = .ok (.iconst 0, 1) := by decide +kernel
theorem dX9_money_20 : decode cX9_money 20 = .ok (.ireturn, 1) := by decide +kernel
theorem dX9_money_21 : decode cX9_money 21 = .ok (.aload_n 0, 1) := by decide +kernel
theorem dX9_money_22 : decode cX9_money 22 = .ok (.getfield 49, 3) := by decide +kernel
theorem dX9_money_25 : decode cX9_money 25 = .ok (.getfield 125, 3) := by decide +kernel
theorem dX9_money_28 : decode cX9_money 28 = .ok (.iload_n 1, 1) := by decide +kernel
theorem dX9_money_29 : decode cX9_money 29 = .ok (.iload_n 2, 1) := by decide +kernel
theorem dX9_money_30 : decode cX9_money 30 = .ok (.iastore, 1) := by decide +kernel
theorem dX9_money_31 : decode cX9_money 31 = .ok (.aload_n 0, 1) := by decide +kernel
theorem dX9_money_32 : decode cX9_money 32 = .ok (.getfield 49, 3) := by decide +kernel
theorem dX9_money_35 : decode cX9_money 35 = .ok (.getfield 128, 3) := by decide +kernel
theorem dX9_money_38 : decode cX9_money 38 = .ok (.iload_n 1, 1) := by decide +kernel
theorem dX9_money_39 : decode cX9_money 39 = .ok (.iload_n 2, 1) := by decide +kernel
theorem dX9_money_40 : decode cX9_money 40 = .ok (.iastore, 1) := by decide +kernel
theorem dX9_money_41 : decode cX9_money 41 = .ok (.iconst 1, 1) := by decide +kernel
theorem dX9_money_42 : decode cX9_money 42 = .ok (.ireturn, 1) := by decide +kernel
theorem dX9_want_0 : decode cX9_want 0 = .ok (.iload_n 1, 1) := by decide +kernel
theorem dX9_want_1 : decode cX9_want 1 = .ok (.iload_n 2, 1) := by decide +kernel
theorem dX9_want_2 : decode cX9_want 2 = .ok (.iload_n 3, 1) := by decide +kernel
theorem dX9_want_3 : decode cX9_want 3 = .ok (.invokestatic 131, 3) := by decide +kernel
theorem dX9_want_6 : decode cX9_want 6 = .ok (.ifCond .eq 33, 3) := by decide +kernel
theorem dX9_want_9 : decode cX9_want 9 = .ok (.iload 4, 2) := by decide +kernel
theorem dX9_want_11 : decode cX9_want 11 = .ok (.ifCond .lt 28, 3) := by decide +kernel
theorem dX9_want_14 : decode cX9_want 14 = .ok (.iload 4, 2) := by decide +kernel
theorem dX9_want_16 : decode cX9_want 16 = .ok (.sipush 5000, 3) := by decide +kernel
theorem dX9_want_19 : decode cX9_want 19 = .ok (.if_icmp .gt 20, 3) := by decide +kernel
theorem dX9_want_22 : decode cX9_want 22 = .ok (.iload 5, 2) := by decide +kernel
theorem dX9_want_24 : decode cX9_want 24 = .ok (.ifCond .lt 15, 3) := by decide +kernel
theorem dX9_want_27 : decode cX9_want 27 = .ok (.iload 5, 2) := by decide +kernel
theorem dX9_want_29 : decode cX9_want 29 = .ok (.sipush 9999, 3) := by decide +kernel
theorem dX9_want_32 : decode cX9_want 32 = .ok (.if_icmp .gt 7, 3) := by decide +kernel
theorem dX9_want_35 : decode cX9_want 35 = .ok (.iconst 1, 1) := by decide +kernel
theorem dX9_want_36 : decode cX9_want 36 = .ok (.goto 4, 3) := by decide +kernel
theorem dX9_want_39 : decode cX9_want 39 = .ok (.iconst 0, 1) := by decide +kernel
theorem dX9_want_40 : decode cX9_want 40 = .ok (.istore 6, 2) := by decide +kernel
theorem dX9_want_42 : decode cX9_want 42 = .ok (.iload 6, 2) := by decide +kernel
theorem dX9_want_44 : decode cX9_want 44 = .ok (.ifCond .ne 5, 3) := by decide +kernel
theorem dX9_want_47 : decode cX9_want 47 = .ok (.iconst 0, 1) := by decide +kernel
theorem dX9_want_48 : decode cX9_want 48 = .ok (.ireturn, 1) := by decide +kernel
theorem dX9_want_49 : decode cX9_want 49 = .ok (.iload_n 1, 1) := by decide +kernel
theorem dX9_want_50 : decode cX9_want 50 = .ok (.iload_n 2, 1) := by decide +kernel
theorem dX9_want_51 : decode cX9_want 51 = .ok (.iload_n 3, 1) := by decide +kernel
theorem dX9_want_52 : decode cX9_want 52 = .ok (.invokestatic 135, 3) := by decide +kernel
theorem dX9_want_55 : decode cX9_want 55 = .ok (.istore 7, 2) := by decide +kernel
theorem dX9_want_57 : decode cX9_want 57 = .ok (.aload_n 0, 1) := by decide +kernel
theorem dX9_want_58 : decode cX9_want 58 = .ok (.getfield 49, 3) := by decide +kernel
theorem dX9_want_61 : decode cX9_want 61 = .ok (.getfield 139, 3) := by decide +kernel
theorem dX9_want_64 : decode cX9_want 64 = .ok (.iload 7, 2) := by decide +kernel
theorem dX9_want_66 : decode cX9_want 66 = .ok (.iload 4, 2) := by decide +kernel
theorem dX9_want_68 : decode cX9_want 68 = .ok (.iastore, 1) := by decide +kernel
theorem dX9_want_69 : decode cX9_want 69 = .ok (.aload_n 0, 1) := by decide +kernel
theorem dX9_want_70 : decode cX9_want 70 = .ok (.getfield 49, 3) := by decide +kernel
theorem dX9_want_73 : decode cX9_want 73 = .ok (.getfield 142, 3) := by decide +kernel
theorem dX9_want_76 : decode cX9_want 76 = .ok (.iload 7, 2) := by decide +kernel
theorem dX9_want_78 : decode cX9_want 78 = .ok (.iload 5, 2) := by decide +kernel
theorem dX9_want_80 : decode cX9_want 80 = .ok (.iastore, 1) := by decide +kernel
theorem dX9_want_81 : decode cX9_want 81 = .ok (.iconst 1, 1) := by decide +kernel
theorem dX9_want_82 : decode cX9_want 82 = .ok (.ireturn, 1) := by decide +kernel
theorem dX9_auction_0 : decode cX9_auction 0 = .ok (.iload_n 1, 1) := by decide +kernel
theorem dX9_auction_1 : decode cX9_auction 1 = .ok (.iconst 4, 1) := by decide +kernel
theorem dX9_auction_2 : decode cX9_auction 2 = .ok (.invokestatic 115, 3) := by decide +kernel
theorem dX9_auction_5 : decode cX9_auction 5 = .ok (.ifCond .ne 5, 3) := by decide +kernel
theorem dX9_auction_8 : decode cX9_auction 8 = .ok (.iconst (-1), 1) := by decide +kernel
theorem dX9_auction_9 : decode cX9_auction 9 = .ok (.ireturn, 1) := by decide +kernel
theorem dX9_auction_10 : decode cX9_auction 10 = .ok (.iconst 0, 1) := by decide +kernel
theorem dX9_auction_11 : decode cX9_auction 11 = .ok (.istore_n 2, 1) := by decide +kernel
theorem dX9_auction_12 : decode cX9_auction 12 = .ok (.iload_n 2, 1) := by decide +kernel
theorem dX9_auction_13 : decode cX9_auction 13 = .ok (.bipush 8, 2) := by decide +kernel
theorem dX9_auction_15 : decode cX9_auction 15 = .ok (.if_icmp .ge 16, 3) := by decide +kernel
theorem dX9_auction_18 : decode cX9_auction 18 = .ok (.aload_n 0, 1) := by decide +kernel
theorem dX9_auction_19 : decode cX9_auction 19 = .ok (.getfield 78, 3) := by decide +kernel
theorem dX9_auction_22 : decode cX9_auction 22 = .ok (.iload_n 2, 1) := by decide +kernel
theorem dX9_auction_23 : decode cX9_auction 23 = .ok (.iconst 0, 1) := by decide +kernel
theorem dX9_auction_24 : decode cX9_auction 24 = .ok (.iastore, 1) := by decide +kernel
theorem dX9_auction_25 : decode cX9_auction 25 = .ok (.iinc 2 1, 3) := by decide +kernel
theorem dX9_auction_28 : decode cX9_auction 28 = .ok (.goto (-16), 3) := by decide +kernel
theorem dX9_auction_31 : decode cX9_auction 31 = .ok (.aload_n 0, 1) := by decide +kernel
theorem dX9_auction_32 : decode cX9_auction 32 = .ok (.getfield 42, 3) := by decide +kernel
theorem dX9_auction_35 : decode cX9_auction 35 = .ok (.getfield 145, 3) := by decide +kernel
theorem dX9_auction_38 : decode cX9_auction 38 = .ok (.istore_n 2, 1) := by decide +kernel
theorem dX9_auction_39 : decode cX9_auction 39 = .ok (.iconst 1, 1) := by decide +kernel
theorem dX9_auction_40 : decode cX9_auction 40 = .ok (.istore_n 3, 1) := by decide +kernel
theorem dX9_auction_41 : decode cX9_auction 41 = .ok (.iconst 0, 1) := by decide +kernel
theorem dX9_auction_42 : decode cX9_auction 42 = .ok (.istore 4, 2) := by decide +kernel
theorem dX9_auction_44 : decode cX9_auction 44 = .ok (.iload 4, 2) := by decide +kernel
theorem dX9_auction_46 : decode cX9_auction 46 = .ok (.bipush 100, 2) := by decide +kernel
theorem dX9_auction_48 : decode cX9_auction 48 = .ok (.if_icmp .ge 19, 3) := by decide +kernel
theorem dX9_auction_51 : decode cX9_auction 51 = .ok (.iload_n 3, 1) := by decide +kernel
theorem dX9_auction_52 : decode cX9_auction 52 = .ok (.ifCond .eq 15, 3) := by decide +kernel
theorem dX9_auction_55 : decode cX9_auction 55 = .ok (.aload_n 0, 1) := by decide +kernel
theorem dX9_auction_56 : decode cX9_auction 56 = .ok (.iload_n 1, 1) := by decide +kernel
theorem dX9_auction_57 : decode cX9_auction 57 = .ok (.invokevirtual 146, 3) := by decide +kernel
theorem dX9_auction_60 : decode cX9_auction 60 = .ok (.istore_n 3, 1) := by decide +kernel
theorem dX9_auction_61 : decode cX9_auction 61 = .ok (.iinc 4 1, 3) := by decide +kernel
theorem dX9_auction_64 : decode cX9_auction 64 = .ok (.goto (-20), 3) := by decide +kernel
theorem dX9_auction_67 : decode cX9_auction 67 = .ok (.aload_n 0, 1) := by decide +kernel
theorem dX9_auction_68 : decode cX9_auction 68 = .ok (.getfield 42, 3) := by decide +kernel
theorem dX9_auction_71 : decode cX9_auction 71 = .ok (.getfield 145, 3) := by decide +kernel
theorem dX9_auction_74 : decode cX9_auction 74 = .ok (.iload_n 2, 1) := by decide +kernel
theorem dX9_auction_75 : decode cX9_auction 75 = .ok (.isub, 1) := by decide +kernel
theorem dX9_auction_76 : decode cX9_auction 76 = .ok (.ireturn, 1) := by decide +kernel
theorem dX9_reject_0 : decode cX9_reject 0 = .ok (.iload_n 1, 1) := by decide +kernel
theorem dX9_reject_1 : decode cX9_reject 1 = .ok (.aload_n 0, 1) := by decide +kernel
theorem dX9_reject_2 : decode cX9_reject 2 = .ok (.getfield 42, 3) := by decide +kernel
theorem dX9_reject_5 : decode cX9_reject 5 = .ok (.getfield 145, 3) := by decide +kernel
theorem dX9_reject_8 : decode cX9_reject 8 = .ok (.invokestatic 115, 3) := by decide +kernel
theorem dX9_reject_11 : decode cX9_reject 11 = .ok (.ifCond .eq 16, 3) := by decide +kernel
theorem dX9_reject_14 : decode cX9_reject 14 = .ok (.aload_n 0, 1) := by decide +kernel
theorem dX9_reject_15 : decode cX9_reject 15 = .ok (.getfield 42, 3) := by decide +kernel
theorem dX9_reject_18 : decode cX9_reject 18 = .ok (.getfield 150, 3) := by decide +kernel
theorem dX9_reject_21 : decode cX9_reject 21 = .ok (.iload_n 1, 1) := by decide +kernel
theorem dX9_reject_22 : decode cX9_reject 22 = .ok (.iaload, 1) := by decide +kernel
theorem dX9_reject_23 : decode cX9_reject 23 = .ok (.iconst (-1), 1) := by decide +kernel
theorem dX9_reject_24 : decode cX9_reject 24 = .ok (.if_icmp .eq 5, 3) := by decide +kernel
theorem dX9_reject_27 : decode cX9_reject 27 = .ok (.iconst 0, 1) := by decide +kernel
theorem dX9_reject_28 : decode cX9_reject 28 = .ok (.ireturn, 1) := by decide +kernel
theorem dX9_reject_29 : decode cX9_reject 29 = .ok (.aload_n 0, 1) := by decide +kernel
theorem dX9_reject_30 : decode cX9_reject 30 = .ok (.getfield 42, 3) := by decide +kernel
theorem dX9_reject_33 : decode cX9_reject 33 = .ok (.getfield 153, 3) := by decide +kernel
theorem dX9_reject_36 : decode cX9_reject 36 = .ok (.iload_n 1, 1) := by decide +kernel
theorem dX9_reject_37 : decode cX9_reject 37 = .ok (.iaload, 1) := by decide +kernel
theorem dX9_reject_38 : decode cX9_reject 38 = .ok (.istore_n 2, 1) := by decide +kernel
theorem dX9_reject_39 : decode cX9_reject 39 = .ok (.aload_n 0, 1) := by decide +kernel
theorem dX9_reject_40 : decode cX9_reject 40 = .ok (.getfield 35, 3) := by decide +kernel
theorem dX9_reject_43 : decode cX9_reject 43 = .ok (.getfield 156, 3) := by decide +kernel
theorem dX9_reject_46 : decode cX9_reject 46 = .ok (.iload_n 2, 1) := by decide +kernel
theorem dX9_reject_47 : decode cX9_reject 47 = .ok (.iaload, 1) := by decide +kernel
theorem dX9_reject_48 : decode cX9_reject 48 = .ok (.iload_n 1, 1) := by decide +kernel
theorem dX9_reject_49 : decode cX9_reject 49 = .ok (.if_icmp .eq 5, 3) := by decide +kernel
theorem dX9_reject_52 : decode cX9_reject 52 = .ok (.iconst 0, 1) := by decide +kernel
theorem dX9_reject_53 : decode cX9_reject 53 = .ok (.ireturn, 1) := by decide +kernel
theorem dX9_reject_54 : decode cX9_reject 54 = .ok (.aload_n 0, 1) := by decide +kernel
theorem dX9_reject_55 : decode cX9_reject 55 = .ok (.getfield 42, 3) := by decide +kernel
theorem dX9_reject_58 : decode cX9_reject 58 = .ok (.getfield 150, 3) := by decide +kernel
theorem dX9_reject_61 : decode cX9_reject 61 = .ok (.iload_n 1, 1) := by decide +kernel
theorem dX9_reject_62 : decode cX9_reject 62 = .ok (.aload_n 0, 1) := by decide +kernel
theorem dX9_reject_63 : decode cX9_reject 63 = .ok (.getfield 82, 3) := by decide +kernel
theorem dX9_reject_66 : decode cX9_reject 66 = .ok (.iastore, 1) := by decide +kernel
theorem dX9_reject_67 : decode cX9_reject 67 = .ok (.aload_n 0, 1) := by decide +kernel
theorem dX9_reject_68 : decode cX9_reject 68 = .ok (.getfield 35, 3) := by decide +kernel
theorem dX9_reject_71 : decode cX9_reject 71 = .ok (.getfield 159, 3) := by decide +kernel
theorem dX9_reject_74 : decode cX9_reject 74 = .ok (.iload_n 2, 1) := by decide +kernel
theorem dX9_reject_75 : decode cX9_reject 75 = .ok (.iconst 0, 1) := by decide +kernel
theorem dX9_reject_76 : decode cX9_reject 76 = .ok (.bastore, 1) := by decide +kernel
theorem dX9_reject_77 : decode cX9_reject 77 = .ok (.iconst 1, 1) := by decide +kernel
theorem dX9_reject_78 : decode cX9_reject 78 = .ok (.ireturn, 1) := by decide +kernel
theorem dX9_next_0 : decode cX9_next 0 = .ok (.aload_n 0, 1) := by decide +kernel
theorem dX9_next_1 : decode cX9_next 1 = .ok (.getfield 82, 3) := by decide +kernel
theorem dX9_next_4 : decode cX9_next 4 = .ok (.sipush 999, 3) := by decide +kernel
theorem dX9_next_7 : decode cX9_next 7 = .ok (.if_icmp .lt 5, 3) := by decide +kernel
theorem dX9_next_10 : decode cX9_next 10 = .ok (.iconst (-1), 1) := by decide +kernel
theorem dX9_next_11 : decode cX9_next 11 = .ok (.ireturn, 1) := by decide +kernel
theorem dX9_next_12 : decode cX9_next 12 = .ok (.aload_n 0, 1) := by decide +kernel
theorem dX9_next_13 : decode cX9_next 13 = .ok (.getfield 35, 3) := by decide +kernel
theorem dX9_next_16 : decode cX9_next 16 = .ok (.aload_n 0, 1) := by decide +kernel
theorem dX9_next_17 : decode cX9_next 17 = .ok (.getfield 19, 3) := by decide +kernel
theorem dX9_next_20 : decode cX9_next 20 = .ok (.getfield 163, 3) := by decide +kernel
theorem dX9_next_23 : decode cX9_next 23 = .ok (.invokevirtual 166, 3) := by decide +kernel
theorem dX9_next_26 : decode cX9_next 26 = .ok (.aload_n 0, 1) := by decide +kernel
theorem dX9_next_27 : decode cX9_next 27 = .ok (.getfield 49, 3) := by decide +kernel
theorem dX9_next_30 : decode cX9_next 30 = .ok (.invokevirtual 169, 3) := by decide +kernel
theorem dX9_next_33 : decode cX9_next 33 = .ok (.aload_n 0, 1) := by decide +kernel
theorem dX9_next_34 : decode cX9_next 34 = .ok (.dup, 1) := by decide +kernel
theorem dX9_next_35 : decode cX9_next 35 = .ok (.getfield 82, 3) := by decide +kernel
theorem dX9_next_38 : decode cX9_next 38 = .ok (.iconst 1, 1) := by decide +kernel
theorem dX9_next_39 : decode cX9_next 39 = .ok (.iadd, 1) := by decide +kernel
theorem dX9_next_40 : decode cX9_next 40 = .ok (.putfield 82, 3) := by decide +kernel
theorem dX9_next_43 : decode cX9_next 43 = .ok (.aload_n 0, 1) := by decide +kernel
theorem dX9_next_44 : decode cX9_next 44 = .ok (.getfield 82, 3) := by decide +kernel
theorem dX9_next_47 : decode cX9_next 47 = .ok (.ireturn, 1) := by decide +kernel
theorem dX9_about_0 : decode cX9_about 0 = .ok (.iload_n 1, 1) := by decide +kernel
theorem dX9_about_1 : decode cX9_about 1 = .ok (.aload_n 0, 1) := by decide +kernel
theorem dX9_about_2 : decode cX9_about 2 = .ok (.getfield 35, 3) := by decide +kernel
theorem dX9_about_5 : decode cX9_about 5 = .ok (.getfield 119, 3) := by decide +kernel
theorem dX9_about_8 : decode cX9_about 8 = .ok (.invokestatic 115, 3) := by decide +kernel
theorem dX9_about_11 : decode cX9_about 11 = .ok (.ifCond .ne 13, 3) := by decide +kernel
theorem dX9_about_14 : decode cX9_about 14 = .ok (.new 172, 3) := by decide +kernel
theorem dX9_about_17 : decode cX9_about 17 = .ok (.dup, 1) := by decide +kernel
theorem dX9_about_18 : decode cX9_about 18 = .ok (.ldc 174, 2) := by decide +kernel
theorem dX9_about_20 : decode cX9_about 20 = .ok (.invokespecial 176, 3) := by decide +kernel
theorem dX9_about_23 : decode cX9_about 23 = .ok (.athrow, 1) := by decide +kernel
theorem dX9_about_24 : decode cX9_about 24 = .ok (.iload_n 2, 1) := by decide +kernel
theorem dX9_about_25 : decode cX9_about 25 = .ok (.tableswitch 121 0 6 #[43, 53, 63, 73, 83, 93, 111], 43) := by decide +kernel
theorem dX9_about_68 : decode cX9_about 68 = .ok (.aload_n 0, 1) := by decide +kernel
theorem dX9_about_69 : decode cX9_about 69 = .ok (.getfield 35, 3) := by decide +kernel
theorem dX9_about_72 : decode cX9_about 72 = .ok (.getfield 179, 3) := by decide +kernel
theorem dX9_about_75 : decode cX9_about 75 = .ok (.iload_n 1, 1) := by decide +kernel
theorem dX9_about_76 : decode cX9_about 76 = .ok (.iaload, 1) := by decide +kernel
theorem dX9_about_77 : decode cX9_about 77 = .ok (.ireturn, 1) := by decide +kernel
theorem dX9_about_78 : decode cX9_about 78 = .ok (.aload_n 0, 1) := by decide +kernel
theorem dX9_about_79 : decode cX9_about 79 = .ok (.getfield 35, 3) := by decide +kernel
theorem dX9_about_82 : decode cX9_about 82 = .ok (.getfield 182, 3) := by decide +kernel
theorem dX9_about_85 : decode cX9_about 85 = .ok (.iload_n 1, 1) := by decide +kernel
theorem dX9_about_86 : decode cX9_about 86 = .ok (.iaload, 1) := by decide +kernel
theorem dX9_about_87 : decode cX9_about 87 = .ok (.ireturn, 1) := by decide +kernel
theorem dX9_about_88 : decode cX9_about 88 = .ok (.aload_n 0, 1) := by decide +kernel
theorem dX9_about_89 : decode cX9_about 89 = .ok (.getfield 35, 3) := by decide +kernel
theorem dX9_about_92 : decode cX9_about 92 = .ok (.getfield 185, 3) := by decide +kernel
theorem dX9_about_95 : decode cX9_about 95 = .ok (.iload_n 1, 1) := by decide +kernel
theorem dX9_about_96 : decode cX9_about 96 = .ok (.iaload, 1) := by decide +kernel
theorem dX9_about_97 : decode cX9_about 97 = .ok (.ireturn, 1) := by decide +kernel
theorem dX9_about_98 : decode cX9_about 98 = .ok (.aload_n 0, 1) := by decide +kernel
theorem dX9_about_99 : decode cX9_about 99 = .ok (.getfield 35, 3) := by decide +kernel
theorem dX9_about_102 : decode cX9_about 102 = .ok (.getfield 188, 3) := by decide +kernel
theorem dX9_about_105 : decode cX9_about 105 = .ok (.iload_n 1, 1) := by decide +kernel
theorem dX9_about_106 : decode cX9_about 106 = .ok (.iaload, 1) := by decide +kernel
theorem dX9_about_107 : decode cX9_about 107 = .ok (.ireturn, 1) := by decide +kernel
theorem dX9_about_108 : decode cX9_about 108 = .ok (.aload_n 0, 1) := by decide +kernel
theorem dX9_about_109 : decode cX9_about 109 = .ok (.getfield 35, 3) := by decide +kernel
theorem dX9_about_112 : decode cX9_about 112 = .ok (.getfield 191, 3) := by decide +kernel
theorem dX9_about_115 : decode cX9_about 115 = .ok (.iload_n 1, 1) := by decide +kernel
theorem dX9_about_116 : decode cX9_about 116 = .ok (.iaload, 1) := by decide +kernel
theorem dX9_about_117 : decode cX9_about 117 = .ok (.ireturn, 1) := by decide +kernel
theorem dX9_about_118 : decode cX9_about 118 = .ok (.aload_n 0, 1) := by decide +kernel
theorem dX9_about_119 : decode cX9_about 119 = .ok (.getfield 35, 3) := by decide +kernel
theorem dX9_about_122 : decode cX9_about 122 = .ok (.getfield 159, 3) := by decide +kernel
theorem dX9_about_125 : decode cX9_about 125 = .ok (.iload_n 1, 1) := by decide +kernel
theorem dX9_about_126 : decode cX9_about 126 = .ok (.baload, 1) := by decide +kernel
theorem dX9_about_127 : decode cX9_about 127 = .ok (.ifCond .eq 7, 3) := by decide +kernel
theorem dX9_about_130 : decode cX9_about 130 = .ok (.iconst 1, 1) := by decide +kernel
theorem dX9_about_131 : decode cX9_about 131 = .ok (.goto 4, 3) := by decide +kernel
theorem dX9_about_134 : decode cX9_about 134 = .ok (.iconst 0, 1) := by decide +kernel
theorem dX9_about_135 : decode cX9_about 135 = .ok (.ireturn, 1) := by decide +kernel
theorem dX9_about_136 : decode cX9_about 136 = .ok (.aload_n 0, 1) := by decide +kernel
theorem dX9_about_137 : decode cX9_about 137 = .ok (.getfield 35, 3) := by decide +kernel
theorem dX9_about_140 : decode cX9_about 140 = .ok (.getfield 156, 3) := by decide +kernel
theorem dX9_about_143 : decode cX9_about 143 = .ok (.iload_n 1, 1) := by decide +kernel
theorem dX9_about_144 : decode cX9_about 144 = .ok (.iaload, 1) := by decide +kernel
theorem dX9_about_145 : decode cX9_about 145 = .ok (.ireturn, 1) := by decide +kernel
theorem dX9_about_146 : decode cX9_about 146 = .ok (.new 172, 3) := by decide +kernel
theorem dX9_about_149 : decode cX9_about 149 = .ok (.dup, 1) := by decide +kernel
theorem dX9_about_150 : decode cX9_about 150 = .ok (.ldc 194, 2) := by decide +kernel
theorem dX9_about_152 : decode cX9_about 152 = .ok (.invokespecial 176, 3) := by decide +kernel
theorem dX9_about_155 : decode cX9_about 155 = .ok (.athrow, 1) := by decide +kernel
theorem dX9_sale_0 : decode cX9_sale 0 = .ok (.iload_n 1, 1) := by decide +kernel
theorem dX9_sale_1 : decode cX9_sale 1 = .ok (.aload_n 0, 1) := by decide +kernel
theorem dX9_sale_2 : decode cX9_sale 2 = .ok (.getfield 42, 3) := by decide +kernel
theorem dX9_sale_5 : decode cX9_sale 5 = .ok (.getfield 145, 3) := by decide +kernel
theorem dX9_sale_8 : decode cX9_sale 8 = .ok (.invokestatic 115, 3) := by decide +kernel
theorem dX9_sale_11 : decode cX9_sale 11 = .ok (.ifCond .ne 13, 3) := by decide +kernel
theorem dX9_sale_14 : decode cX9_sale 14 = .ok (.new 172, 3) := by decide +kernel
theorem dX9_sale_17 : decode cX9_sale 17 = .ok (.dup, 1) := by decide +kernel
theorem dX9_sale_18 : decode cX9_sale 18 = .ok (.ldc 196, 2) := by decide +kernel
theorem dX9_sale_20 : decode cX9_sale 20 = .ok (.invokespecial 176, 3) := by decide +kernel
theorem dX9_sale_23 : decode cX9_sale 23 = .ok (.athrow, 1) := by decide +kernel
theorem dX9_sale_24 : decode cX9_sale 24 = .ok (.iload_n 2, 1) := by decide +kernel
theorem dX9_sale_25 : decode cX9_sale 25 = .ok (.tableswitch 112 0 6 #[43, 53, 63, 73, 83, 93, 103], 43) := by decide +kernel
theorem dX9_sale_68 : decode cX9_sale 68 = .ok (.aload_n 0, 1) := by decide +kernel
theorem dX9_sale_69 : decode cX9_sale 69 = .ok (.getfield 42, 3) := by decide +kernel
theorem dX9_sale_72 : decode cX9_sale 72 = .ok (.getfield 153, 3) := by decide +kernel
theorem dX9_sale_75 : decode cX9_sale 75 = .ok (.iload_n 1, 1) := by decide +kernel
theorem dX9_sale_76 : decode cX9_sale 76 = .ok (.iaload, 1) := by decide +kernel
theorem dX9_sale_77 : decode cX9_sale 77 = .ok (.ireturn, 1) := by decide +kernel
theorem dX9_sale_78 : decode cX9_sale 78 = .ok (.aload_n 0, 1) := by decide +kernel
theorem dX9_sale_79 : decode cX9_sale 79 = .ok (.getfield 42, 3) := by decide +kernel
theorem dX9_sale_82 : decode cX9_sale 82 = .ok (.getfield 198, 3) := by decide +kernel
theorem dX9_sale_85 : decode cX9_sale 85 = .ok (.iload_n 1, 1) := by decide +kernel
theorem dX9_sale_86 : decode cX9_sale 86 = .ok (.iaload, 1) := by decide +kernel
theorem dX9_sale_87 : decode cX9_sale 87 = .ok (.ireturn, 1) := by decide +kernel
theorem dX9_sale_88 : decode cX9_sale 88 = .ok (.aload_n 0, 1) := by decide +kernel
theorem dX9_sale_89 : decode cX9_sale 89 = .ok (.getfield 42, 3) := by decide +kernel
theorem dX9_sale_92 : decode cX9_sale 92 = .ok (.getfield 201, 3) := by decide +kernel
theorem dX9_sale_95 : decode cX9_sale 95 = .ok (.iload_n 1, 1) := by decide +kernel
theorem dX9_sale_96 : decode cX9_sale 96 = .ok (.iaload, 1) := by decide +kernel
theorem dX9_sale_97 : decode cX9_sale 97 = .ok (.ireturn, 1) := by decide +kernel
theorem dX9_sale_98 : decode cX9_sale 98 = .ok (.aload_n 0, 1) := by decide +kernel
theorem dX9_sale_99 : decode cX9_sale 99 = .ok (.getfield 42, 3) := by decide +kernel
theorem dX9_sale_102 : decode cX9_sale 102 = .ok (.getfield 204, 3) := by decide +kernel
theorem dX9_sale_105 : decode cX9_sale 105 = .ok (.iload_n 1, 1) := by decide +kernel
theorem dX9_sale_106 : decode cX9_sale 106 = .ok (.iaload, 1) := by decide +kernel
theorem dX9_sale_107 : decode cX9_sale 107 = .ok (.ireturn, 1) := by decide +kernel
theorem dX9_sale_108 : decode cX9_sale 108 = .ok (.aload_n 0, 1) := by decide +kernel
theorem dX9_sale_109 : decode cX9_sale 109 = .ok (.getfield 42, 3) := by decide +kernel
theorem dX9_sale_112 : decode cX9_sale 112 = .ok (.getfield 205, 3) := by decide +kernel
theorem dX9_sale_115 : decode cX9_sale 115 = .ok (.iload_n 1, 1) := by decide +kernel
theorem dX9_sale_116 : decode cX9_sale 116 = .ok (.iaload, 1) := by decide +kernel
theorem dX9_sale_117 : decode cX9_sale 117 = .ok (.ireturn, 1) := by decide +kernel
theorem dX9_sale_118 : decode cX9_sale 118 = .ok (.aload_n 0, 1) := by decide +kernel
theorem dX9_sale_119 : decode cX9_sale 119 = .ok (.getfield 42, 3) := by decide +kernel
theorem dX9_sale_122 : decode cX9_sale 122 = .ok (.getfield 150, 3) := by decide +kernel
theorem dX9_sale_125 : decode cX9_sale 125 = .ok (.iload_n 1, 1) := by decide +kernel
theorem dX9_sale_126 : decode cX9_sale 126 = .ok (.iaload, 1) := by decide +kernel
theorem dX9_sale_127 : decode cX9_sale 127 = .ok (.ireturn, 1) := by decide +kernel
theorem dX9_sale_128 : decode cX9_sale 128 = .ok (.aload_n 0, 1) := by decide +kernel
theorem dX9_sale_129 : decode cX9_sale 129 = .ok (.getfield 58, 3) := by decide +kernel
theorem dX9_sale_132 : decode cX9_sale 132 = .ok (.iload_n 1, 1) := by decide +kernel
theorem dX9_sale_133 : decode cX9_sale 133 = .ok (.invokevirtual 208, 3) := by decide +kernel
theorem dX9_sale_136 : decode cX9_sale 136 = .ok (.ireturn, 1) := by decide +kernel
theorem dX9_sale_137 : decode cX9_sale 137 = .ok (.new 172, 3) := by decide +kernel
theorem dX9_sale_140 : decode cX9_sale 140 = .ok (.dup, 1) := by decide +kernel
theorem dX9_sale_141 : decode cX9_sale 141 = .ok (.ldc 212, 2) := by decide +kernel
theorem dX9_sale_143 : decode cX9_sale 143 = .ok (.invokespecial 176, 3) := by decide +kernel
theorem dX9_sale_146 : decode cX9_sale 146 = .ok (.athrow, 1) := by decide +kernel
theorem dX9_left_0 : decode cX9_left 0 = .ok (.iload_n 1, 1) := by decide +kernel
theorem dX9_left_1 : decode cX9_left 1 = .ok (.bipush 10, 2) := by decide +kernel
theorem dX9_left_3 : decode cX9_left 3 = .ok (.invokestatic 115, 3) := by decide +kernel
theorem dX9_left_6 : decode cX9_left 6 = .ok (.ifCond .eq 15, 3) := by decide +kernel
theorem dX9_left_9 : decode cX9_left 9 = .ok (.aload_n 0, 1) := by decide +kernel
theorem dX9_left_10 : decode cX9_left 10 = .ok (.getfield 49, 3) := by decide +kernel
theorem dX9_left_13 : decode cX9_left 13 = .ok (.getfield 128, 3) := by decide +kernel
theorem dX9_left_16 : decode cX9_left 16 = .ok (.iload_n 1, 1) := by decide +kernel
theorem dX9_left_17 : decode cX9_left 17 = .ok (.iaload, 1) := by decide +kernel
theorem dX9_left_18 : decode cX9_left 18 = .ok (.goto 4, 3) := by decide +kernel
theorem dX9_left_21 : decode cX9_left 21 = .ok (.iconst (-1), 1) := by decide +kernel
theorem dX9_left_22 : decode cX9_left 22 = .ok (.ireturn, 1) := by decide +kernel
theorem dX9_wanted_0 : decode cX9_wanted 0 = .ok (.iload_n 1, 1) := by decide +kernel
theorem dX9_wanted_1 : decode cX9_wanted 1 = .ok (.iload_n 2, 1) := by decide +kernel
theorem dX9_wanted_2 : decode cX9_wanted 2 = .ok (.iload_n 3, 1) := by decide +kernel
theorem dX9_wanted_3 : decode cX9_wanted 3 = .ok (.invokestatic 131, 3) := by decide +kernel
theorem dX9_wanted_6 : decode cX9_wanted 6 = .ok (.ifCond .ne 5, 3) := by decide +kernel
theorem dX9_wanted_9 : decode cX9_wanted 9 = .ok (.iconst (-1), 1) := by decide +kernel
theorem dX9_wanted_10 : decode cX9_wanted 10 = .ok (.ireturn, 1) := by decide +kernel
theorem dX9_wanted_11 : decode cX9_wanted 11 = .ok (.aload_n 0, 1) := by decide +kernel
theorem dX9_wanted_12 : decode cX9_wanted 12 = .ok (.getfield 49, 3) := by decide +kernel
theorem dX9_wanted_15 : decode cX9_wanted 15 = .ok (.getfield 139, 3) := by decide +kernel
theorem dX9_wanted_18 : decode cX9_wanted 18 = .ok (.iload_n 1, 1) := by decide +kernel
theorem dX9_wanted_19 : decode cX9_wanted 19 = .ok (.iload_n 2, 1) := by decide +kernel
theorem dX9_wanted_20 : decode cX9_wanted 20 = .ok (.iload_n 3, 1) := by decide +kernel
theorem dX9_wanted_21 : decode cX9_wanted 21 = .ok (.invokestatic 135, 3) := by decide +kernel
theorem dX9_wanted_24 : decode cX9_wanted 24 = .ok (.iaload, 1) := by decide +kernel
theorem dX9_wanted_25 : decode cX9_wanted 25 = .ok (.ireturn, 1) := by decide +kernel
theorem dX9_pool_0 : decode cX9_pool 0 = .ok (.aload_n 0, 1) := by decide +kernel
theorem dX9_pool_1 : decode cX9_pool 1 = .ok (.getfield 58, 3) := by decide +kernel
theorem dX9_pool_4 : decode cX9_pool 4 = .ok (.iload_n 1, 1) := by decide +kernel
theorem dX9_pool_5 : decode cX9_pool 5 = .ok (.invokevirtual 214, 3) := by decide +kernel
theorem dX9_pool_8 : decode cX9_pool 8 = .ok (.l2i, 1) := by decide +kernel
theorem dX9_pool_9 : decode cX9_pool 9 = .ok (.ireturn, 1) := by decide +kernel
theorem dX9_pay_0 : decode cX9_pay 0 = .ok (.iload_n 1, 1) := by decide +kernel
theorem dX9_pay_1 : decode cX9_pay 1 = .ok (.bipush 8, 2) := by decide +kernel
theorem dX9_pay_3 : decode cX9_pay 3 = .ok (.invokestatic 115, 3) := by decide +kernel
theorem dX9_pay_6 : decode cX9_pay 6 = .ok (.ifCond .eq 16, 3) := by decide +kernel
theorem dX9_pay_9 : decode cX9_pay 9 = .ok (.aload_n 0, 1) := by decide +kernel
theorem dX9_pay_10 : decode cX9_pay 10 = .ok (.getfield 58, 3) := by decide +kernel
theorem dX9_pay_13 : decode cX9_pay 13 = .ok (.iload_n 1, 1) := by decide +kernel
theorem dX9_pay_14 : decode cX9_pay 14 = .ok (.iload_n 2, 1) := by decide +kernel
theorem dX9_pay_15 : decode cX9_pay 15 = .ok (.invokevirtual 218, 3) := by decide +kernel
theorem dX9_pay_18 : decode cX9_pay 18 = .ok (.l2i, 1) := by decide +kernel
theorem dX9_pay_19 : decode cX9_pay 19 = .ok (.goto 4, 3) := by decide +kernel
theorem dX9_pay_22 : decode cX9_pay 22 = .ok (.iconst (-1), 1) := by decide +kernel
theorem dX9_pay_23 : decode cX9_pay 23 = .ok (.ireturn, 1) := by decide +kernel
theorem dX9_worth_0 : decode cX9_worth 0 = .ok (.iload_n 1, 1) := by decide +kernel
theorem dX9_worth_1 : decode cX9_worth 1 = .ok (.bipush 6, 2) := by decide +kernel
theorem dX9_worth_3 : decode cX9_worth 3 = .ok (.invokestatic 115, 3) := by decide +kernel
theorem dX9_worth_6 : decode cX9_worth 6 = .ok (.ifCond .ne 13, 3) := by decide +kernel
theorem dX9_worth_9 : decode cX9_worth 9 = .ok (.new 172, 3) := by decide +kernel
theorem dX9_worth_12 : decode cX9_worth 12 = .ok (.dup, 1) := by decide +kernel
theorem dX9_worth_13 : decode cX9_worth 13 = .ok (.ldc 222, 2) := by decide +kernel
theorem dX9_worth_15 : decode cX9_worth 15 = .ok (.invokespecial 176, 3) := by decide +kernel
theorem dX9_worth_18 : decode cX9_worth 18 = .ok (.athrow, 1) := by decide +kernel
theorem dX9_worth_19 : decode cX9_worth 19 = .ok (.iload_n 3, 1) := by decide +kernel
theorem dX9_worth_20 : decode cX9_worth 20 = .ok (.ifCond .eq 18, 3) := by decide +kernel
theorem dX9_worth_23 : decode cX9_worth 23 = .ok (.iload_n 3, 1) := by decide +kernel
theorem dX9_worth_24 : decode cX9_worth 24 = .ok (.iconst 1, 1) := by decide +kernel
theorem dX9_worth_25 : decode cX9_worth 25 = .ok (.if_icmp .eq 13, 3) := by decide +kernel
theorem dX9_worth_28 : decode cX9_worth 28 = .ok (.new 172, 3) := by decide +kernel
theorem dX9_worth_31 : decode cX9_worth 31 = .ok (.dup, 1) := by decide +kernel
theorem dX9_worth_32 : decode cX9_worth 32 = .ok (.ldc 224, 2) := by decide +kernel
theorem dX9_worth_34 : decode cX9_worth 34 = .ok (.invokespecial 176, 3) := by decide +kernel
theorem dX9_worth_37 : decode cX9_worth 37 = .ok (.athrow, 1) := by decide +kernel
theorem dX9_worth_38 : decode cX9_worth 38 = .ok (.aload_n 0, 1) := by decide +kernel
theorem dX9_worth_39 : decode cX9_worth 39 = .ok (.getfield 67, 3) := by decide +kernel
theorem dX9_worth_42 : decode cX9_worth 42 = .ok (.iload_n 1, 1) := by decide +kernel
theorem dX9_worth_43 : decode cX9_worth 43 = .ok (.iload_n 2, 1) := by decide +kernel
theorem dX9_worth_44 : decode cX9_worth 44 = .ok (.invokevirtual 226, 3) := by decide +kernel
theorem dX9_worth_47 : decode cX9_worth 47 = .ok (.ifCond .ne 13, 3) := by decide +kernel
theorem dX9_worth_50 : decode cX9_worth 50 = .ok (.new 172, 3) := by decide +kernel
theorem dX9_worth_53 : decode cX9_worth 53 = .ok (.dup, 1) := by decide +kernel
theorem dX9_worth_54 : decode cX9_worth 54 = .ok (.ldc 229, 2) := by decide +kernel
theorem dX9_worth_56 : decode cX9_worth 56 = .ok (.invokespecial 176, 3) := by decide +kernel
theorem dX9_worth_59 : decode cX9_worth 59 = .ok (.athrow, 1) := by decide +kernel
theorem dX9_worth_60 : decode cX9_worth 60 = .ok (.iload_n 3, 1) := by decide +kernel
theorem dX9_worth_61 : decode cX9_worth 61 = .ok (.ifCond .ne 13, 3) := by decide +kernel
theorem dX9_worth_64 : decode cX9_worth 64 = .ok (.aload_n 0, 1) := by decide +kernel
theorem dX9_worth_65 : decode cX9_worth 65 = .ok (.getfield 67, 3) := by decide +kernel
theorem dX9_worth_68 : decode cX9_worth 68 = .ok (.getfield 231, 3) := by decide +kernel
theorem dX9_worth_71 : decode cX9_worth 71 = .ok (.goto 10, 3) := by decide +kernel
theorem dX9_worth_74 : decode cX9_worth 74 = .ok (.aload_n 0, 1) := by decide +kernel
theorem dX9_worth_75 : decode cX9_worth 75 = .ok (.getfield 67, 3) := by decide +kernel
theorem dX9_worth_78 : decode cX9_worth 78 = .ok (.getfield 235, 3) := by decide +kernel
theorem dX9_worth_81 : decode cX9_worth 81 = .ok (.lreturn, 1) := by decide +kernel
theorem dX9_wire_0 : decode cX9_wire 0 = .ok (.iload_n 1, 1) := by decide +kernel
theorem dX9_wire_1 : decode cX9_wire 1 = .ok (.iconst 4, 1) := by decide +kernel
theorem dX9_wire_2 : decode cX9_wire 2 = .ok (.invokestatic 115, 3) := by decide +kernel
theorem dX9_wire_5 : decode cX9_wire 5 = .ok (.ifCond .eq 37, 3) := by decide +kernel
theorem dX9_wire_8 : decode cX9_wire 8 = .ok (.iload_n 2, 1) := by decide +kernel
theorem dX9_wire_9 : decode cX9_wire 9 = .ok (.iconst 4, 1) := by decide +kernel
theorem dX9_wire_10 : decode cX9_wire 10 = .ok (.invokestatic 115, 3) := by decide +kernel
theorem dX9_wire_13 : decode cX9_wire 13 = .ok (.ifCond .eq 29, 3) := by decide +kernel
theorem dX9_wire_16 : decode cX9_wire 16 = .ok (.iload_n 3, 1) := by decide +kernel
theorem dX9_wire_17 : decode cX9_wire 17 = .ok (.ifCond .lt 25, 3) := by decide +kernel
theorem dX9_wire_20 : decode cX9_wire 20 = .ok (.iload_n 3, 1) := by decide +kernel
theorem dX9_wire_21 : decode cX9_wire 21 = .ok (.sipush 999, 3) := by decide +kernel
theorem dX9_wire_24 : decode cX9_wire 24 = .ok (.if_icmp .gt 18, 3) := by decide +kernel
theorem dX9_wire_27 : decode cX9_wire 27 = .ok (.iload 4, 2) := by decide +kernel
theorem dX9_wire_29 : decode cX9_wire 29 = .ok (.ifCond .lt 13, 3) := by decide +kernel
theorem dX9_wire_32 : decode cX9_wire 32 = .ok (.iload 4, 2) := by decide +kernel
theorem dX9_wire_34 : decode cX9_wire 34 = .ok (.iconst 3, 1) := by decide +kernel
theorem dX9_wire_35 : decode cX9_wire 35 = .ok (.if_icmp .gt 7, 3) := by decide +kernel
theorem dX9_wire_38 : decode cX9_wire 38 = .ok (.iconst 1, 1) := by decide +kernel
theorem dX9_wire_39 : decode cX9_wire 39 = .ok (.goto 4, 3) := by decide +kernel
theorem dX9_wire_42 : decode cX9_wire 42 = .ok (.iconst 0, 1) := by decide +kernel
theorem dX9_wire_43 : decode cX9_wire 43 = .ok (.istore 5, 2) := by decide +kernel
theorem dX9_wire_45 : decode cX9_wire 45 = .ok (.iload 5, 2) := by decide +kernel
theorem dX9_wire_47 : decode cX9_wire 47 = .ok (.ifCond .ne 5, 3) := by decide +kernel
theorem dX9_wire_50 : decode cX9_wire 50 = .ok (.iconst (-1), 1) := by decide +kernel
theorem dX9_wire_51 : decode cX9_wire 51 = .ok (.ireturn, 1) := by decide +kernel
theorem dX9_wire_52 : decode cX9_wire 52 = .ok (.iconst 0, 1) := by decide +kernel
theorem dX9_wire_53 : decode cX9_wire 53 = .ok (.istore 6, 2) := by decide +kernel
theorem dX9_wire_55 : decode cX9_wire 55 = .ok (.iconst 0, 1) := by decide +kernel
theorem dX9_wire_56 : decode cX9_wire 56 = .ok (.istore 7, 2) := by decide +kernel
theorem dX9_wire_58 : decode cX9_wire 58 = .ok (.iconst 0, 1) := by decide +kernel
theorem dX9_wire_59 : decode cX9_wire 59 = .ok (.istore 8, 2) := by decide +kernel
theorem dX9_wire_61 : decode cX9_wire 61 = .ok (.iconst 0, 1) := by decide +kernel
theorem dX9_wire_62 : decode cX9_wire 62 = .ok (.istore 9, 2) := by decide +kernel
theorem dX9_wire_64 : decode cX9_wire 64 = .ok (.iconst 0, 1) := by decide +kernel
theorem dX9_wire_65 : decode cX9_wire 65 = .ok (.istore 10, 2) := by decide +kernel
theorem dX9_wire_67 : decode cX9_wire 67 = .ok (.iload 10, 2) := by decide +kernel
theorem dX9_wire_69 : decode cX9_wire 69 = .ok (.aload_n 0, 1) := by decide +kernel
theorem dX9_wire_70 : decode cX9_wire 70 = .ok (.getfield 42, 3) := by decide +kernel
theorem dX9_wire_73 : decode cX9_wire 73 = .ok (.getfield 145, 3) := by decide +kernel
theorem dX9_wire_76 : decode cX9_wire 76 = .ok (.if_icmp .ge 79, 3) := by decide +kernel
theorem dX9_wire_79 : decode cX9_wire 79 = .ok (.aload_n 0, 1) := by decide +kernel
theorem dX9_wire_80 : decode cX9_wire 80 = .ok (.iload 10, 2) := by decide +kernel
theorem dX9_wire_82 : decode cX9_wire 82 = .ok (.iload_n 1, 1) := by decide +kernel
theorem dX9_wire_83 : decode cX9_wire 83 = .ok (.iload_n 2, 1) := by decide +kernel
theorem dX9_wire_84 : decode cX9_wire 84 = .ok (.iload_n 3, 1) := by decide +kernel
theorem dX9_wire_85 : decode cX9_wire 85 = .ok (.invokevirtual 238, 3) := by decide +kernel
theorem dX9_wire_88 : decode cX9_wire 88 = .ok (.ifCond .eq 61, 3) := by decide +kernel
theorem dX9_wire_91 : decode cX9_wire 91 = .ok (.aload_n 0, 1) := by decide +kernel
theorem dX9_wire_92 : decode cX9_wire 92 = .ok (.getfield 42, 3) := by decide +kernel
theorem dX9_wire_95 : decode cX9_wire 95 = .ok (.getfield 205, 3) := by decide +kernel
theorem dX9_wire_98 : decode cX9_wire 98 = .ok (.iload 10, 2) := by decide +kernel
theorem dX9_wire_100 : decode cX9_wire 100 = .ok (.iaload, 1) := by decide +kernel
theorem dX9_wire_101 : decode cX9_wire 101 = .ok (.istore 11, 2) := by decide +kernel
theorem dX9_wire_103 : decode cX9_wire 103 = .ok (.iload 6, 2) := by decide +kernel
theorem dX9_wire_105 : decode cX9_wire 105 = .ok (.ifCond .ne 8, 3) := by decide +kernel
theorem dX9_wire_108 : decode cX9_wire 108 = .ok (.iload 11, 2) := by decide +kernel
theorem dX9_wire_110 : decode cX9_wire 110 = .ok (.goto 10, 3) := by decide +kernel
theorem dX9_wire_113 : decode cX9_wire 113 = .ok (.iload 8, 2) := by decide +kernel
theorem dX9_wire_115 : decode cX9_wire 115 = .ok (.iload 11, 2) := by decide +kernel
theorem dX9_wire_117 : decode cX9_wire 117 = .ok (.invokestatic 242, 3) := by decide +kernel
theorem dX9_wire_120 : decode cX9_wire 120 = .ok (.istore 8, 2) := by decide +kernel
theorem dX9_wire_122 : decode cX9_wire 122 = .ok (.iload 9, 2) := by decide +kernel
theorem dX9_wire_124 : decode cX9_wire 124 = .ok (.iload 11, 2) := by decide +kernel
theorem dX9_wire_126 : decode cX9_wire 126 = .ok (.invokestatic 248, 3) := by decide +kernel
theorem dX9_wire_129 : decode cX9_wire 129 = .ok (.istore 9, 2) := by decide +kernel
theorem dX9_wire_131 : decode cX9_wire 131 = .ok (.iload 7, 2) := by decide +kernel
theorem dX9_wire_133 : decode cX9_wire 133 = .ok (.aload_n 0, 1) := by decide +kernel
theorem dX9_wire_134 : decode cX9_wire 134 = .ok (.getfield 42, 3) := by decide +kernel
theorem dX9_wire_137 : decode cX9_wire 137 = .ok (.getfield 204, 3) := by decide +kernel
theorem dX9_wire_140 : decode cX9_wire 140 = .ok (.iload 10, 2) := by decide +kernel
theorem dX9_wire_142 : decode cX9_wire 142 = .ok (.iaload, 1) := by decide +kernel
theorem dX9_wire_143 : decode cX9_wire 143 = .ok (.iadd, 1) := by decide +kernel
theorem dX9_wire_144 : decode cX9_wire 144 = .ok (.istore 7, 2) := by decide +kernel
theorem dX9_wire_146 : decode cX9_wire 146 = .ok (.iinc 6 1, 3) := by decide +kernel
theorem dX9_wire_149 : decode cX9_wire 149 = .ok (.iinc 10 1, 3) := by decide +kernel
theorem dX9_wire_152 : decode cX9_wire 152 = .ok (.goto (-85), 3) := by decide +kernel
theorem dX9_wire_155 : decode cX9_wire 155 = .ok (.iload 4, 2) := by decide +kernel
theorem dX9_wire_157 : decode cX9_wire 157 = .ok (.tableswitch 36 0 2 #[27, 30, 33], 27) := by decide +kernel
theorem dX9_wire_184 : decode cX9_wire 184 = .ok (.iload 6, 2) := by decide +kernel
theorem dX9_wire_186 : decode cX9_wire 186 = .ok (.ireturn, 1) := by decide +kernel
theorem dX9_wire_187 : decode cX9_wire 187 = .ok (.iload 7, 2) := by decide +kernel
theorem dX9_wire_189 : decode cX9_wire 189 = .ok (.ireturn, 1) := by decide +kernel
theorem dX9_wire_190 : decode cX9_wire 190 = .ok (.iload 8, 2) := by decide +kernel
theorem dX9_wire_192 : decode cX9_wire 192 = .ok (.ireturn, 1) := by decide +kernel
theorem dX9_wire_193 : decode cX9_wire 193 = .ok (.iload 9, 2) := by decide +kernel
theorem dX9_wire_195 : decode cX9_wire 195 = .ok (.ireturn, 1) := by decide +kernel
theorem dX9_cars_0 : decode cX9_cars 0 = .ok (.aload_n 0, 1) := by decide +kernel
theorem dX9_cars_1 : decode cX9_cars 1 = .ok (.getfield 10, 3) := by decide +kernel
theorem dX9_cars_4 : decode cX9_cars 4 = .ok (.getfield 89, 3) := by decide +kernel
theorem dX9_cars_7 : decode cX9_cars 7 = .ok (.bipush 16, 2) := by decide +kernel
theorem dX9_cars_9 : decode cX9_cars 9 = .ok (.if_icmp .ne 18, 3) := by decide +kernel
theorem dX9_cars_12 : decode cX9_cars 12 = .ok (.iload_n 1, 1) := by decide +kernel
theorem dX9_cars_13 : decode cX9_cars 13 = .ok (.iconst 1, 1) := by decide +kernel
theorem dX9_cars_14 : decode cX9_cars 14 = .ok (.if_icmp .lt 13, 3) := by decide +kernel
theorem dX9_cars_17 : decode cX9_cars 17 = .ok (.iload_n 1, 1) := by decide +kernel
theorem dX9_cars_18 : decode cX9_cars 18 = .ok (.bipush 40, 2) := by decide +kernel
theorem dX9_cars_20 : decode cX9_cars 20 = .ok (.if_icmp .gt 7, 3) := by decide +kernel
theorem dX9_cars_23 : decode cX9_cars 23 = .ok (.iconst 1, 1) := by decide +kernel
theorem dX9_cars_24 : decode cX9_cars 24 = .ok (.goto 4, 3) := by decide +kernel
theorem dX9_cars_27 : decode cX9_cars 27 = .ok (.iconst 0, 1) := by decide +kernel
theorem dX9_cars_28 : decode cX9_cars 28 = .ok (.istore_n 2, 1) := by decide +kernel
theorem dX9_cars_29 : decode cX9_cars 29 = .ok (.iload_n 2, 1) := by decide +kernel
theorem dX9_cars_30 : decode cX9_cars 30 = .ok (.ifCond .eq 18, 3) := by decide +kernel
theorem dX9_cars_33 : decode cX9_cars 33 = .ok (.aload_n 0, 1) := by decide +kernel
theorem dX9_cars_34 : decode cX9_cars 34 = .ok (.getfield 74, 3) := by decide +kernel
theorem dX9_cars_37 : decode cX9_cars 37 = .ok (.aload_n 0, 1) := by decide +kernel
theorem dX9_cars_38 : decode cX9_cars 38 = .ok (.getfield 10, 3) := by decide +kernel
theorem dX9_cars_41 : decode cX9_cars 41 = .ok (.iload_n 1, 1) := by decide +kernel
theorem dX9_cars_42 : decode cX9_cars 42 = .ok (.invokevirtual 251, 3) := by decide +kernel
theorem dX9_cars_45 : decode cX9_cars 45 = .ok (.goto 4, 3) := by decide +kernel
theorem dX9_cars_48 : decode cX9_cars 48 = .ok (.iconst (-1), 1) := by decide +kernel
theorem dX9_cars_49 : decode cX9_cars 49 = .ok (.istore_n 3, 1) := by decide +kernel
theorem dX9_cars_50 : decode cX9_cars 50 = .ok (.aload_n 0, 1) := by decide +kernel
theorem dX9_cars_51 : decode cX9_cars 51 = .ok (.getfield 10, 3) := by decide +kernel
theorem dX9_cars_54 : decode cX9_cars 54 = .ok (.iconst 0, 1) := by decide +kernel
theorem dX9_cars_55 : decode cX9_cars 55 = .ok (.putfield 89, 3) := by decide +kernel
theorem dX9_cars_58 : decode cX9_cars 58 = .ok (.iload_n 3, 1) := by decide +kernel
theorem dX9_cars_59 : decode cX9_cars 59 = .ok (.ireturn, 1) := by decide +kernel
theorem dX9_sent_0 : decode cX9_sent 0 = .ok (.aload_n 0, 1) := by decide +kernel
theorem dX9_sent_1 : decode cX9_sent 1 = .ok (.getfield 74, 3) := by decide +kernel
theorem dX9_sent_4 : decode cX9_sent 4 = .ok (.getfield 255, 3) := by decide +kernel
theorem dX9_sent_7 : decode cX9_sent 7 = .ok (.ifCond .eq 23, 3) := by decide +kernel
theorem dX9_sent_10 : decode cX9_sent 10 = .ok (.iload_n 1, 1) := by decide +kernel
theorem dX9_sent_11 : decode cX9_sent 11 = .ok (.iconst 4, 1) := by decide +kernel
theorem dX9_sent_12 : decode cX9_sent 12 = .ok (.invokestatic 115, 3) := by decide +kernel
theorem dX9_sent_15 : decode cX9_sent 15 = .ok (.ifCond .eq 15, 3) := by decide +kernel
theorem dX9_sent_18 : decode cX9_sent 18 = .ok (.aload_n 0, 1) := by decide +kernel
theorem dX9_sent_19 : decode cX9_sent 19 = .ok (.getfield 74, 3) := by decide +kernel
theorem dX9_sent_22 : decode cX9_sent 22 = .ok (.getfield 259, 3) := by decide +kernel
theorem dX9_sent_25 : decode cX9_sent 25 = .ok (.iload_n 1, 1) := by decide +kernel
theorem dX9_sent_26 : decode cX9_sent 26 = .ok (.iaload, 1) := by decide +kernel
theorem dX9_sent_27 : decode cX9_sent 27 = .ok (.goto 4, 3) := by decide +kernel
theorem dX9_sent_30 : decode cX9_sent 30 = .ok (.iconst (-1), 1) := by decide +kernel
theorem dX9_sent_31 : decode cX9_sent 31 = .ok (.ireturn, 1) := by decide +kernel
theorem dX9_count_0 : decode cX9_count 0 = .ok (.iload_n 1, 1) := by decide +kernel
theorem dX9_count_1 : decode cX9_count 1 = .ok (.tableswitch 72 0 4 #[35, 40, 48, 56, 64], 35) := by decide +kernel
theorem dX9_count_36 : decode cX9_count 36 = .ok (.aload_n 0, 1) := by decide +kernel
theorem dX9_count_37 : decode cX9_count 37 = .ok (.getfield 82, 3) := by decide +kernel
theorem dX9_count_40 : decode cX9_count 40 = .ok (.ireturn, 1) := by decide +kernel
theorem dX9_count_41 : decode cX9_count 41 = .ok (.aload_n 0, 1) := by decide +kernel
theorem dX9_count_42 : decode cX9_count 42 = .ok (.getfield 35, 3) := by decide +kernel
theorem dX9_count_45 : decode cX9_count 45 = .ok (.getfield 119, 3) := by decide +kernel
theorem dX9_count_48 : decode cX9_count 48 = .ok (.ireturn, 1) := by decide +kernel
theorem dX9_count_49 : decode cX9_count 49 = .ok (.aload_n 0, 1) := by decide +kernel
theorem dX9_count_50 : decode cX9_count 50 = .ok (.getfield 42, 3) := by decide +kernel
theorem dX9_count_53 : decode cX9_count 53 = .ok (.getfield 145, 3) := by decide +kernel
theorem dX9_count_56 : decode cX9_count 56 = .ok (.ireturn, 1) := by decide +kernel
theorem dX9_count_57 : decode cX9_count 57 = .ok (.aload_n 0, 1) := by decide +kernel
theorem dX9_count_58 : decode cX9_count 58 = .ok (.getfield 19, 3) := by decide +kernel
theorem dX9_count_61 : decode cX9_count 61 = .ok (.getfield 112, 3) := by decide +kernel
theorem dX9_count_64 : decode cX9_count 64 = .ok (.ireturn, 1) := by decide +kernel
theorem dX9_count_65 : decode cX9_count 65 = .ok (.aload_n 0, 1) := by decide +kernel
theorem dX9_count_66 : decode cX9_count 66 = .ok (.getfield 10, 3) := by decide +kernel
theorem dX9_count_69 : decode cX9_count 69 = .ok (.getfield 89, 3) := by decide +kernel
theorem dX9_count_72 : decode cX9_count 72 = .ok (.ireturn, 1) := by decide +kernel
theorem dX9_count_73 : decode cX9_count 73 = .ok (.iconst (-1), 1) := by decide +kernel
theorem dX9_count_74 : decode cX9_count 74 = .ok (.ireturn, 1) := by decide +kernel
theorem dX9_isBelow_0 : decode cX9_isBelow 0 = .ok (.iload_n 0, 1) := by decide +kernel
theorem dX9_isBelow_1 : decode cX9_isBelow 1 = .ok (.ifCond .lt 12, 3) := by decide +kernel
theorem dX9_isBelow_4 : decode cX9_isBelow 4 = .ok (.iload_n 0, 1) := by decide +kernel
theorem dX9_isBelow_5 : decode cX9_isBelow 5 = .ok (.iload_n 1, 1) := by decide +kernel
theorem dX9_isBelow_6 : decode cX9_isBelow 6 = .ok (.if_icmp .ge 7, 3) := by decide +kernel
theorem dX9_isBelow_9 : decode cX9_isBelow 9 = .ok (.iconst 1, 1) := by decide +kernel
theorem dX9_isBelow_10 : decode cX9_isBelow 10 = .ok (.goto 4, 3) := by decide +kernel
theorem dX9_isBelow_13 : decode cX9_isBelow 13 = .ok (.iconst 0, 1) := by decide +kernel
theorem dX9_isBelow_14 : decode cX9_isBelow 14 = .ok (.ireturn, 1) := by decide +kernel
theorem dX9_isWantPlace_0 : decode cX9_isWantPlace 0 = .ok (.iload_n 0, 1) := by decide +kernel
theorem dX9_isWantPlace_1 : decode cX9_isWantPlace 1 = .ok (.bipush 10, 2) := by decide +kernel
theorem dX9_isWantPlace_3 : decode cX9_isWantPlace 3 = .ok (.invokestatic 115, 3) := by decide +kernel
theorem dX9_isWantPlace_6 : decode cX9_isWantPlace 6 = .ok (.ifCond .eq 23, 3) := by decide +kernel
theorem dX9_isWantPlace_9 : decode cX9_isWantPlace 9 = .ok (.iload_n 1, 1) := by decide +kernel
theorem dX9_isWantPlace_10 : decode cX9_isWantPlace 10 = .ok (.iconst 4, 1) := by decide +kernel
theorem dX9_isWantPlace_11 : decode cX9_isWantPlace 11 = .ok (.invokestatic 115, 3) := by decide +kernel
theorem dX9_isWantPlace_14 : decode cX9_isWantPlace 14 = .ok (.ifCond .eq 15, 3) := by decide +kernel
theorem dX9_isWantPlace_17 : decode cX9_isWantPlace 17 = .ok (.iload_n 2, 1) := by decide +kernel
theorem dX9_isWantPlace_18 : decode cX9_isWantPlace 18 = .ok (.iconst 4, 1) := by decide +kernel
theorem dX9_isWantPlace_19 : decode cX9_isWantPlace 19 = .ok (.invokestatic 115, 3) := by decide +kernel
theorem dX9_isWantPlace_22 : decode cX9_isWantPlace 22 = .ok (.ifCond .eq 7, 3) := by decide +kernel
theorem dX9_isWantPlace_25 : decode cX9_isWantPlace 25 = .ok (.iconst 1, 1) := by decide +kernel
theorem dX9_isWantPlace_26 : decode cX9_isWantPlace 26 = .ok (.goto 4, 3) := by decide +kernel
theorem dX9_isWantPlace_29 : decode cX9_isWantPlace 29 = .ok (.iconst 0, 1) := by decide +kernel
theorem dX9_isWantPlace_30 : decode cX9_isWantPlace 30 = .ok (.ireturn, 1) := by decide +kernel
theorem dX9_offerRound_0 : decode cX9_offerRound 0 = .ok (.iconst 0, 1) := by decide +kernel
theorem dX9_offerRound_1 : decode cX9_offerRound 1 = .ok (.istore_n 2, 1) := by decide +kernel
theorem dX9_offerRound_2 : decode cX9_offerRound 2 = .ok (.iconst 0, 1) := by decide +kernel
theorem dX9_offerRound_3 : decode cX9_offerRound 3 = .ok (.istore_n 3, 1) := by decide +kernel
theorem dX9_offerRound_4 : decode cX9_offerRound 4 = .ok (.iload_n 3, 1) := by decide +kernel
theorem dX9_offerRound_5 : decode cX9_offerRound 5 = .ok (.bipush 8, 2) := by decide +kernel
theorem dX9_offerRound_7 : decode cX9_offerRound 7 = .ok (.if_icmp .ge 70, 3) := by decide +kernel
theorem dX9_offerRound_10 : decode cX9_offerRound 10 = .ok (.aload_n 0, 1) := by decide +kernel
theorem dX9_offerRound_11 : decode cX9_offerRound 11 = .ok (.getfield 82, 3) := by decide +kernel
theorem dX9_offerRound_14 : decode cX9_offerRound 14 = .ok (.iload_n 3, 1) := by decide +kernel
theorem dX9_offerRound_15 : decode cX9_offerRound 15 = .ok (.iadd, 1) := by decide +kernel
theorem dX9_offerRound_16 : decode cX9_offerRound 16 = .ok (.bipush 8, 2) := by decide +kernel
theorem dX9_offerRound_18 : decode cX9_offerRound 18 = .ok (.irem, 1) := by decide +kernel
theorem dX9_offerRound_19 : decode cX9_offerRound 19 = .ok (.istore 4, 2) := by decide +kernel
theorem dX9_offerRound_21 : decode cX9_offerRound 21 = .ok (.aload_n 0, 1) := by decide +kernel
theorem dX9_offerRound_22 : decode cX9_offerRound 22 = .ok (.getfield 35, 3) := by decide +kernel
theorem dX9_offerRound_25 : decode cX9_offerRound 25 = .ok (.iload 4, 2) := by decide +kernel
theorem dX9_offerRound_27 : decode cX9_offerRound 27 = .ok (.iload_n 1, 1) := by decide +kernel
theorem dX9_offerRound_28 : decode cX9_offerRound 28 = .ok (.aload_n 0, 1) := by decide +kernel
theorem dX9_offerRound_29 : decode cX9_offerRound 29 = .ok (.getfield 78, 3) := by decide +kernel
theorem dX9_offerRound_32 : decode cX9_offerRound 32 = .ok (.iload 4, 2) := by decide +kernel
theorem dX9_offerRound_34 : decode cX9_offerRound 34 = .ok (.iaload, 1) := by decide +kernel
theorem dX9_offerRound_35 : decode cX9_offerRound 35 = .ok (.invokevirtual 262, 3) := by decide +kernel
theorem dX9_offerRound_38 : decode cX9_offerRound 38 = .ok (.istore 5, 2) := by decide +kernel
theorem dX9_offerRound_40 : decode cX9_offerRound 40 = .ok (.aload_n 0, 1) := by decide +kernel
theorem dX9_offerRound_41 : decode cX9_offerRound 41 = .ok (.getfield 78, 3) := by decide +kernel
theorem dX9_offerRound_44 : decode cX9_offerRound 44 = .ok (.iload 4, 2) := by decide +kernel
theorem dX9_offerRound_46 : decode cX9_offerRound 46 = .ok (.iload 5, 2) := by decide +kernel
theorem dX9_offerRound_48 : decode cX9_offerRound 48 = .ok (.iconst 1, 1) := by decide +kernel
theorem dX9_offerRound_49 : decode cX9_offerRound 49 = .ok (.iadd, 1) := by decide +kernel
theorem dX9_offerRound_50 : decode cX9_offerRound 50 = .ok (.iastore, 1) := by decide +kernel
theorem dX9_offerRound_51 : decode cX9_offerRound 51 = .ok (.iload 5, 2) := by decide +kernel
theorem dX9_offerRound_53 : decode cX9_offerRound 53 = .ok (.aload_n 0, 1) := by decide +kernel
theorem dX9_offerRound_54 : decode cX9_offerRound 54 = .ok (.getfield 35, 3) := by decide +kernel
theorem dX9_offerRound_57 : decode cX9_offerRound 57 = .ok (.getfield 119, 3) := by decide +kernel
theorem dX9_offerRound_60 : decode cX9_offerRound 60 = .ok (.if_icmp .ge 11, 3) := by decide +kernel
theorem dX9_offerRound_63 : decode cX9_offerRound 63 = .ok (.aload_n 0, 1) := by decide +kernel
theorem dX9_offerRound_64 : decode cX9_offerRound 64 = .ok (.iload 5, 2) := by decide +kernel
theorem dX9_offerRound_66 : decode cX9_offerRound 66 = .ok (.invokevirtual 265, 3) := by decide +kernel
theorem dX9_offerRound_69 : decode cX9_offerRound 69 = .ok (.iconst 1, 1) := by decide +kernel
theorem dX9_offerRound_70 : decode cX9_offerRound 70 = .ok (.istore_n 2, 1) := by decide +kernel
theorem dX9_offerRound_71 : decode cX9_offerRound 71 = .ok (.iinc 3 1, 3) := by decide +kernel
theorem dX9_offerRound_74 : decode cX9_offerRound 74 = .ok (.goto (-70), 3) := by decide +kernel
theorem dX9_offerRound_77 : decode cX9_offerRound 77 = .ok (.iload_n 2, 1) := by decide +kernel
theorem dX9_offerRound_78 : decode cX9_offerRound 78 = .ok (.ireturn, 1) := by decide +kernel
theorem dX9_offerLot_0 : decode cX9_offerLot 0 = .ok (.aload_n 0, 1) := by decide +kernel
theorem dX9_offerLot_1 : decode cX9_offerLot 1 = .ok (.getfield 42, 3) := by decide +kernel
theorem dX9_offerLot_4 : decode cX9_offerLot 4 = .ok (.getfield 145, 3) := by decide +kernel
theorem dX9_offerLot_7 : decode cX9_offerLot 7 = .ok (.sipush 400, 3) := by decide +kernel
theorem dX9_offerLot_10 : decode cX9_offerLot 10 = .ok (.if_icmp .lt 4, 3) := by decide +kernel
theorem dX9_offerLot_13 : decode cX9_offerLot 13 = .ok (.return_, 1) := by decide +kernel
theorem dX9_offerLot_14 : decode cX9_offerLot 14 = .ok (.aload_n 0, 1) := by decide +kernel
theorem dX9_offerLot_15 : decode cX9_offerLot 15 = .ok (.getfield 35, 3) := by decide +kernel
theorem dX9_offerLot_18 : decode cX9_offerLot 18 = .ok (.getfield 188, 3) := by decide +kernel
theorem dX9_offerLot_21 : decode cX9_offerLot 21 = .ok (.iload_n 1, 1) := by decide +kernel
theorem dX9_offerLot_22 : decode cX9_offerLot 22 = .ok (.iaload, 1) := by decide +kernel
theorem dX9_offerLot_23 : decode cX9_offerLot 23 = .ok (.istore_n 2, 1) := by decide +kernel
theorem dX9_offerLot_24 : decode cX9_offerLot 24 = .ok (.aload_n 0, 1) := by decide +kernel
theorem dX9_offerLot_25 : decode cX9_offerLot 25 = .ok (.getfield 19, 3) := by decide +kernel
theorem dX9_offerLot_28 : decode cX9_offerLot 28 = .ok (.getfield 268, 3) := by decide +kernel
theorem dX9_offerLot_31 : decode cX9_offerLot 31 = .ok (.aload_n 0, 1) := by decide +kernel
theorem dX9_offerLot_32 : decode cX9_offerLot 32 = .ok (.getfield 35, 3) := by decide +kernel
theorem dX9_offerLot_35 : decode cX9_offerLot 35 = .ok (.getfield 185, 3) := by decide +kernel
theorem dX9_offerLot_38 : decode cX9_offerLot 38 = .ok (.iload_n 1, 1) := by decide +kernel
theorem dX9_offerLot_39 : decode cX9_offerLot 39 = .ok (.iaload, 1) := by decide +kernel
theorem dX9_offerLot_40 : decode cX9_offerLot 40 = .ok (.iaload, 1) := by decide +kernel
theorem dX9_offerLot_41 : decode cX9_offerLot 41 = .ok (.istore_n 3, 1) := by decide +kernel
theorem dX9_offerLot_42 : decode cX9_offerLot 42 = .ok (.iconst (-1), 1) := by decide +kernel
theorem dX9_offerLot_43 : decode cX9_offerLot 43 = .ok (.istore 4, 2) := by decide +kernel
theorem dX9_offerLot_45 : decode cX9_offerLot 45 = .ok (.iconst 0, 1) := by decide +kernel
theorem dX9_offerLot_46 : decode cX9_offerLot 46 = .ok (.istore 5, 2) := by decide +kernel
theorem dX9_offerLot_48 : decode cX9_offerLot 48 = .ok (.iconst 0, 1) := by decide +kernel
theorem dX9_offerLot_49 : decode cX9_offerLot 49 = .ok (.istore 6, 2) := by decide +kernel
theorem dX9_offerLot_51 : decode cX9_offerLot 51 = .ok (.iconst 0, 1) := by decide +kernel
theorem dX9_offerLot_52 : decode cX9_offerLot 52 = .ok (.istore 7, 2) := by decide +kernel
theorem dX9_offerLot_54 : decode cX9_offerLot 54 = .ok (.iload 7, 2) := by decide +kernel
theorem dX9_offerLot_56 : decode cX9_offerLot 56 = .ok (.bipush 10, 2) := by decide +kernel
theorem dX9_offerLot_58 : decode cX9_offerLot 58 = .ok (.if_icmp .ge 71, 3) := by decide +kernel
theorem dX9_offerLot_61 : decode cX9_offerLot 61 = .ok (.aload_n 0, 1) := by decide +kernel
theorem dX9_offerLot_62 : decode cX9_offerLot 62 = .ok (.getfield 49, 3) := by decide +kernel
theorem dX9_offerLot_65 : decode cX9_offerLot 65 = .ok (.iload 7, 2) := by decide +kernel
theorem dX9_offerLot_67 : decode cX9_offerLot 67 = .ok (.aload_n 0, 1) := by decide +kernel
theorem dX9_offerLot_68 : decode cX9_offerLot 68 = .ok (.getfield 35, 3) := by decide +kernel
theorem dX9_offerLot_71 : decode cX9_offerLot 71 = .ok (.getfield 191, 3) := by decide +kernel
theorem dX9_offerLot_74 : decode cX9_offerLot 74 = .ok (.iload_n 1, 1) := by decide +kernel
theorem dX9_offerLot_75 : decode cX9_offerLot 75 = .ok (.iaload, 1) := by decide +kernel
theorem dX9_offerLot_76 : decode cX9_offerLot 76 = .ok (.aload_n 0, 1) := by decide +kernel
theorem dX9_offerLot_77 : decode cX9_offerLot 77 = .ok (.getfield 35, 3) := by decide +kernel
theorem dX9_offerLot_80 : decode cX9_offerLot 80 = .ok (.getfield 185, 3) := by decide +kernel
theorem dX9_offerLot_83 : decode cX9_offerLot 83 = .ok (.iload_n 1, 1) := by decide +kernel
theorem dX9_offerLot_84 : decode cX9_offerLot 84 = .ok (.iaload, 1) := by decide +kernel
theorem dX9_offerLot_85 : decode cX9_offerLot 85 = .ok (.iload_n 2, 1) := by decide +kernel
theorem dX9_offerLot_86 : decode cX9_offerLot 86 = .ok (.iload_n 3, 1) := by decide +kernel
theorem dX9_offerLot_87 : decode cX9_offerLot 87 = .ok (.invokevirtual 271, 3) := by decide +kernel
theorem dX9_offerLot_90 : decode cX9_offerLot 90 = .ok (.istore 8, 2) := by decide +kernel
theorem dX9_offerLot_92 : decode cX9_offerLot 92 = .ok (.iload 8, 2) := by decide +kernel
theorem dX9_offerLot_94 : decode cX9_offerLot 94 = .ok (.iload 5, 2) := by decide +kernel
theorem dX9_offerLot_96 : decode cX9_offerLot 96 = .ok (.if_icmp .le 18, 3) := by decide +kernel
theorem dX9_offerLot_99 : decode cX9_offerLot 99 = .ok (.iload 5, 2) := by decide +kernel
theorem dX9_offerLot_101 : decode cX9_offerLot 101 = .ok (.istore 6, 2) := by decide +kernel
theorem dX9_offerLot_103 : decode cX9_offerLot 103 = .ok (.iload 8, 2) := by decide +kernel
theorem dX9_offerLot_105 : decode cX9_offerLot 105 = .ok (.istore 5, 2) := by decide +kernel
theorem dX9_offerLot_107 : decode cX9_offerLot 107 = .ok (.iload 7, 2) := by decide +kernel
theorem dX9_offerLot_109 : decode cX9_offerLot 109 = .ok (.istore 4, 2) := by decide +kernel
theorem dX9_offerLot_111 : decode cX9_offerLot 111 = .ok (.goto 12, 3) := by decide +kernel
theorem dX9_offerLot_114 : decode cX9_offerLot 114 = .ok (.iload 6, 2) := by decide +kernel
theorem dX9_offerLot_116 : decode cX9_offerLot 116 = .ok (.iload 8, 2) := by decide +kernel
theorem dX9_offerLot_118 : decode cX9_offerLot 118 = .ok (.invokestatic 248, 3) := by decide +kernel
theorem dX9_offerLot_121 : decode cX9_offerLot 121 = .ok (.istore 6, 2) := by decide +kernel
theorem dX9_offerLot_123 : decode cX9_offerLot 123 = .ok (.iinc 7 1, 3) := by decide +kernel
theorem dX9_offerLot_126 : decode cX9_offerLot 126 = .ok (.goto (-72), 3) := by decide +kernel
theorem dX9_offerLot_129 : decode cX9_offerLot 129 = .ok (.iload 4, 2) := by decide +kernel
theorem dX9_offerLot_131 : decode cX9_offerLot 131 = .ok (.iconst (-1), 1) := by decide +kernel
theorem dX9_offerLot_132 : decode cX9_offerLot 132 = .ok (.if_icmp .eq 20, 3) := by decide +kernel
theorem dX9_offerLot_135 : decode cX9_offerLot 135 = .ok (.aload_n 0, 1) := by decide +kernel
theorem dX9_offerLot_136 : decode cX9_offerLot 136 = .ok (.iload_n 1, 1) := by decide +kernel
theorem dX9_offerLot_137 : decode cX9_offerLot 137 = .ok (.iload 4, 2) := by decide +kernel
theorem dX9_offerLot_139 : decode cX9_offerLot 139 = .ok (.iload 6, 2) := by decide +kernel
theorem dX9_offerLot_141 : decode cX9_offerLot 141 = .ok (.iload_n 3, 1) := by decide +kernel
theorem dX9_offerLot_142 : decode cX9_offerLot 142 = .ok (.invokestatic 248, 3) := by decide +kernel
theorem dX9_offerLot_145 : decode cX9_offerLot 145 = .ok (.iconst 1, 1) := by decide +kernel
theorem dX9_offerLot_146 : decode cX9_offerLot 146 = .ok (.invokestatic 248, 3) := by decide +kernel
theorem dX9_offerLot_149 : decode cX9_offerLot 149 = .ok (.invokevirtual 274, 3) := by decide +kernel
theorem dX9_offerLot_152 : decode cX9_offerLot 152 = .ok (.return_, 1) := by decide +kernel
theorem dX9_sell_0 : decode cX9_sell 0 = .ok (.aload_n 0, 1) := by decide +kernel
theorem dX9_sell_1 : decode cX9_sell 1 = .ok (.getfield 35, 3) := by decide +kernel
theorem dX9_sell_4 : decode cX9_sell 4 = .ok (.getfield 188, 3) := by decide +kernel
theorem dX9_sell_7 : decode cX9_sell 7 = .ok (.iload_n 1, 1) := by decide +kernel
theorem dX9_sell_8 : decode cX9_sell 8 = .ok (.iaload, 1) := by decide +kernel
theorem dX9_sell_9 : decode cX9_sell 9 = .ok (.istore 4, 2) := by decide +kernel
theorem dX9_sell_11 : decode cX9_sell 11 = .ok (.aload_n 0, 1) := by decide +kernel
theorem dX9_sell_12 : decode cX9_sell 12 = .ok (.getfield 49, 3) := by decide +kernel
theorem dX9_sell_15 : decode cX9_sell 15 = .ok (.iload_n 2, 1) := by decide +kernel
theorem dX9_sell_16 : decode cX9_sell 16 = .ok (.iload_n 2, 1) := by decide +kernel
theorem dX9_sell_17 : decode cX9_sell 17 = .ok (.aload_n 0, 1) := by decide +kernel
theorem dX9_sell_18 : decode cX9_sell 18 = .ok (.getfield 35, 3) := by decide +kernel
theorem dX9_sell_21 : decode cX9_sell 21 = .ok (.getfield 191, 3) := by decide +kernel
theorem dX9_sell_24 : decode cX9_sell 24 = .ok (.iload_n 1, 1) := by decide +kernel
theorem dX9_sell_25 : decode cX9_sell 25 = .ok (.iaload, 1) := by decide +kernel
theorem dX9_sell_26 : decode cX9_sell 26 = .ok (.aload_n 0, 1) := by decide +kernel
theorem dX9_sell_27 : decode cX9_sell 27 = .ok (.getfield 35, 3) := by decide +kernel
theorem dX9_sell_30 : decode cX9_sell 30 = .ok (.getfield 185, 3) := by decide +kernel
theorem dX9_sell_33 : decode cX9_sell 33 = .ok (.iload_n 1, 1) := by decide +kernel
theorem dX9_sell_34 : decode cX9_sell 34 = .ok (.iaload, 1) := by decide +kernel
theorem dX9_sell_35 : decode cX9_sell 35 = .ok (.invokestatic 135, 3) := by decide +kernel
theorem dX9_sell_38 : decode cX9_sell 38 = .ok (.iload 4, 2) := by decide +kernel
theorem dX9_sell_40 : decode cX9_sell 40 = .ok (.iload_n 3, 1) := by decide +kernel
theorem dX9_sell_41 : decode cX9_sell 41 = .ok (.invokevirtual 278, 3) := by decide +kernel
theorem dX9_sell_44 : decode cX9_sell 44 = .ok (.aload_n 0, 1) := by decide +kernel
theorem dX9_sell_45 : decode cX9_sell 45 = .ok (.getfield 42, 3) := by decide +kernel
theorem dX9_sell_48 : decode cX9_sell 48 = .ok (.iload_n 1, 1) := by decide +kernel
theorem dX9_sell_49 : decode cX9_sell 49 = .ok (.iload_n 2, 1) := by decide +kernel
theorem dX9_sell_50 : decode cX9_sell 50 = .ok (.aload_n 0, 1) := by decide +kernel
theorem dX9_sell_51 : decode cX9_sell 51 = .ok (.getfield 82, 3) := by decide +kernel
theorem dX9_sell_54 : decode cX9_sell 54 = .ok (.iload 4, 2) := by decide +kernel
theorem dX9_sell_56 : decode cX9_sell 56 = .ok (.iload_n 3, 1) := by decide +kernel
theorem dX9_sell_57 : decode cX9_sell 57 = .ok (.invokevirtual 282, 3) := by decide +kernel
theorem dX9_sell_60 : decode cX9_sell 60 = .ok (.istore 5, 2) := by decide +kernel
theorem dX9_sell_62 : decode cX9_sell 62 = .ok (.aload_n 0, 1) := by decide +kernel
theorem dX9_sell_63 : decode cX9_sell 63 = .ok (.getfield 35, 3) := by decide +kernel
theorem dX9_sell_66 : decode cX9_sell 66 = .ok (.getfield 156, 3) := by decide +kernel
theorem dX9_sell_69 : decode cX9_sell 69 = .ok (.iload_n 1, 1) := by decide +kernel
theorem dX9_sell_70 : decode cX9_sell 70 = .ok (.iaload, 1) := by decide +kernel
theorem dX9_sell_71 : decode cX9_sell 71 = .ok (.istore 6, 2) := by decide +kernel
theorem dX9_sell_73 : decode cX9_sell 73 = .ok (.iload 6, 2) := by decide +kernel
theorem dX9_sell_75 : decode cX9_sell 75 = .ok (.iconst (-1), 1) := by decide +kernel
theorem dX9_sell_76 : decode cX9_sell 76 = .ok (.if_icmp .eq 15, 3) := by decide +kernel
theorem dX9_sell_79 : decode cX9_sell 79 = .ok (.aload_n 0, 1) := by decide +kernel
theorem dX9_sell_80 : decode cX9_sell 80 = .ok (.getfield 42, 3) := by decide +kernel
theorem dX9_sell_83 : decode cX9_sell 83 = .ok (.getfield 283, 3) := by decide +kernel
theorem dX9_sell_86 : decode cX9_sell 86 = .ok (.iload 6, 2) := by decide +kernel
theorem dX9_sell_88 : decode cX9_sell 88 = .ok (.iload 5, 2) := by decide +kernel
theorem dX9_sell_90 : decode cX9_sell 90 = .ok (.iastore, 1) := by decide +kernel
theorem dX9_sell_91 : decode cX9_sell 91 = .ok (.aload_n 0, 1) := by decide +kernel
theorem dX9_sell_92 : decode cX9_sell 92 = .ok (.getfield 35, 3) := by decide +kernel
theorem dX9_sell_95 : decode cX9_sell 95 = .ok (.getfield 156, 3) := by decide +kernel
theorem dX9_sell_98 : decode cX9_sell 98 = .ok (.iload_n 1, 1) := by decide +kernel
theorem dX9_sell_99 : decode cX9_sell 99 = .ok (.iload 5, 2) := by decide +kernel
theorem dX9_sell_101 : decode cX9_sell 101 = .ok (.iastore, 1) := by decide +kernel
theorem dX9_sell_102 : decode cX9_sell 102 = .ok (.aload_n 0, 1) := by decide +kernel
theorem dX9_sell_103 : decode cX9_sell 103 = .ok (.getfield 35, 3) := by decide +kernel
theorem dX9_sell_106 : decode cX9_sell 106 = .ok (.getfield 159, 3) := by decide +kernel
theorem dX9_sell_109 : decode cX9_sell 109 = .ok (.iload_n 1, 1) := by decide +kernel
theorem dX9_sell_110 : decode cX9_sell 110 = .ok (.iconst 1, 1) := by decide +kernel
theorem dX9_sell_111 : decode cX9_sell 111 = .ok (.bastore, 1) := by decide +kernel
theorem dX9_sell_112 : decode cX9_sell 112 = .ok (.return_, 1) := by decide +kernel
theorem dX9_isWired_0 : decode cX9_isWired 0 = .ok (.aload_n 0, 1) := by decide +kernel
theorem dX9_isWired_1 : decode cX9_isWired 1 = .ok (.getfield 42, 3) := by decide +kernel
theorem dX9_isWired_4 : decode cX9_isWired 4 = .ok (.getfield 153, 3) := by decide +kernel
theorem dX9_isWired_7 : decode cX9_isWired 7 = .ok (.iload_n 1, 1) := by decide +kernel
theorem dX9_isWired_8 : decode cX9_isWired 8 = .ok (.iaload, 1) := by decide +kernel
theorem dX9_isWired_9 : decode cX9_isWired 9 = .ok (.istore 5, 2) := by decide +kernel
theorem dX9_isWired_11 : decode cX9_isWired 11 = .ok (.aload_n 0, 1) := by decide +kernel
theorem dX9_isWired_12 : decode cX9_isWired 12 = .ok (.getfield 42, 3) := by decide +kernel
theorem dX9_isWired_15 : decode cX9_isWired 15 = .ok (.getfield 201, 3) := by decide +kernel
theorem dX9_isWired_18 : decode cX9_isWired 18 = .ok (.iload_n 1, 1) := by decide +kernel
theorem dX9_isWired_19 : decode cX9_isWired 19 = .ok (.iaload, 1) := by decide +kernel
theorem dX9_isWired_20 : decode cX9_isWired 20 = .ok (.iload 4, 2) := by decide +kernel
theorem dX9_isWired_22 : decode cX9_isWired 22 = .ok (.if_icmp .ne 48, 3) := by decide +kernel
theorem dX9_isWired_25 : decode cX9_isWired 25 = .ok (.aload_n 0, 1) := by decide +kernel
theorem dX9_isWired_26 : decode cX9_isWired 26 = .ok (.getfield 35, 3) := by decide +kernel
theorem dX9_isWired_29 : decode cX9_isWired 29 = .ok (.getfield 191, 3) := by decide +kernel
theorem dX9_isWired_32 : decode cX9_isWired 32 = .ok (.iload 5, 2) := by decide +kernel
theorem dX9_isWired_34 : decode cX9_isWired 34 = .ok (.iaload, 1) := by decide +kernel
theorem dX9_isWired_35 : decode cX9_isWired 35 = .ok (.iload_n 2, 1) := by decide +kernel
theorem dX9_isWired_36 : decode cX9_isWired 36 = .ok (.if_icmp .ne 34, 3) := by decide +kernel
theorem dX9_isWired_39 : decode cX9_isWired 39 = .ok (.aload_n 0, 1) := by decide +kernel
theorem dX9_isWired_40 : decode cX9_isWired 40 = .ok (.getfield 35, 3) := by decide +kernel
theorem dX9_isWired_43 : decode cX9_isWired 43 = .ok (.getfield 185, 3) := by decide +kernel
theorem dX9_isWired_46 : decode cX9_isWired 46 = .ok (.iload 5, 2) := by decide +kernel
theorem dX9_isWired_48 : decode cX9_isWired 48 = .ok (.iaload, 1) := by decide +kernel
theorem dX9_isWired_49 : decode cX9_isWired 49 = .ok (.iload_n 3, 1) := by decide +kernel
theorem dX9_isWired_50 : decode cX9_isWired 50 = .ok (.if_icmp .ne 20, 3) := by decide +kernel
theorem dX9_isWired_53 : decode cX9_isWired 53 = .ok (.aload_n 0, 1) := by decide +kernel
theorem dX9_isWired_54 : decode cX9_isWired 54 = .ok (.getfield 42, 3) := by decide +kernel
theorem dX9_isWired_57 : decode cX9_isWired 57 = .ok (.iload_n 1, 1) := by decide +kernel
theorem dX9_isWired_58 : decode cX9_isWired 58 = .ok (.iload 4, 2) := by decide +kernel
theorem dX9_isWired_60 : decode cX9_isWired 60 = .ok (.invokevirtual 286, 3) := by decide +kernel
theorem dX9_isWired_63 : decode cX9_isWired 63 = .ok (.ifCond .eq 7, 3) := by decide +kernel
theorem dX9_isWired_66 : decode cX9_isWired 66 = .ok (.iconst 1, 1) := by decide +kernel
theorem dX9_isWired_67 : decode cX9_isWired 67 = .ok (.goto 4, 3) := by decide +kernel
theorem dX9_isWired_70 : decode cX9_isWired 70 = .ok (.iconst 0, 1) := by decide +kernel
theorem dX9_isWired_71 : decode cX9_isWired 71 = .ok (.ireturn, 1) := by decide +kernel
theorem dJ9_abs_067f4_0 : decode cJ9_abs_067f4 0 = .ok (.lload_n 0, 1) := by decide +kernel
theorem dJ9_abs_067f4_1 : decode cJ9_abs_067f4 1 = .ok (.lconst 0, 1) := by decide +kernel
theorem dJ9_abs_067f4_2 : decode cJ9_abs_067f4 2 = .ok (.lcmp, 1) := by decide +kernel
theorem dJ9_abs_067f4_3 : decode cJ9_abs_067f4 3 = .ok (.ifCond .ge 8, 3) := by decide +kernel
theorem dJ9_abs_067f4_6 : decode cJ9_abs_067f4 6 = .ok (.lload_n 0, 1) := by decide +kernel
theorem dJ9_abs_067f4_7 : decode cJ9_abs_067f4 7 = .ok (.lneg, 1) := by decide +kernel
theorem dJ9_abs_067f4_8 : decode cJ9_abs_067f4 8 = .ok (.goto 4, 3) := by decide +kernel
theorem dJ9_abs_067f4_11 : decode cJ9_abs_067f4 11 = .ok (.lload_n 0, 1) := by decide +kernel
theorem dJ9_abs_067f4_12 : decode cJ9_abs_067f4 12 = .ok (.lreturn, 1) := by decide +kernel
theorem dJ9_max_7cf53_0 : decode cJ9_max_7cf53 0 = .ok (.iload_n 0, 1) := by decide +kernel
theorem dJ9_max_7cf53_1 : decode cJ9_max_7cf53 1 = .ok (.iload_n 1, 1) := by decide +kernel
theorem dJ9_max_7cf53_2 : decode cJ9_max_7cf53 2 = .ok (.if_icmp .lt 7, 3) := by decide +kernel
theorem dJ9_max_7cf53_5 : decode cJ9_max_7cf53 5 = .ok (.iload_n 0, 1) := by decide +kernel
theorem dJ9_max_7cf53_6 : decode cJ9_max_7cf53 6 = .ok (.goto 4, 3) := by decide +kernel
theorem dJ9_max_7cf53_9 : decode cJ9_max_7cf53 9 = .ok (.iload_n 1, 1) := by decide +kernel
theorem dJ9_max_7cf53_10 : decode cJ9_max_7cf53 10 = .ok (.ireturn, 1) := by decide +kernel
theorem dJ9_max_f86c9_0 : decode cJ9_max_f86c9 0 = .ok (.lload_n 0, 1) := by decide +kernel
theorem dJ9_max_f86c9_1 : decode cJ9_max_f86c9 1 = .ok (.lload_n 2, 1) := by decide +kernel
theorem dJ9_max_f86c9_2 : decode cJ9_max_f86c9 2 = .ok (.lcmp, 1) := by decide +kernel
theorem dJ9_max_f86c9_3 : decode cJ9_max_f86c9 3 = .ok (.ifCond .lt 7, 3) := by decide +kernel
theorem dJ9_max_f86c9_6 : decode cJ9_max_f86c9 6 = .ok (.lload_n 0, 1) := by decide +kernel
theorem dJ9_max_f86c9_7 : decode cJ9_max_f86c9 7 = .ok (.goto 4, 3) := by decide +kernel
theorem dJ9_max_f86c9_10 : decode cJ9_max_f86c9 10 = .ok (.lload_n 2, 1) := by decide +kernel
theorem dJ9_max_f86c9_11 : decode cJ9_max_f86c9 11 = .ok (.lreturn, 1) := by decide +kernel
theorem dJ9_min_7cf53_0 : decode cJ9_min_7cf53 0 = .ok (.iload_n 0, 1) := by decide +kernel
theorem dJ9_min_7cf53_1 : decode cJ9_min_7cf53 1 = .ok (.iload_n 1, 1) := by decide +kernel
theorem dJ9_min_7cf53_2 : decode cJ9_min_7cf53 2 = .ok (.if_icmp .gt 7, 3) := by decide +kernel
theorem dJ9_min_7cf53_5 : decode cJ9_min_7cf53 5 = .ok (.iload_n 0, 1) := by decide +kernel
theorem dJ9_min_7cf53_6 : decode cJ9_min_7cf53 6 = .ok (.goto 4, 3) := by decide +kernel
theorem dJ9_min_7cf53_9 : decode cJ9_min_7cf53 9 = .ok (.iload_n 1, 1) := by decide +kernel
theorem dJ9_min_7cf53_10 : decode cJ9_min_7cf53 10 = .ok (.ireturn, 1) := by decide +kernel
theorem dJ0_length_8abf5_0 : decode cJ0_length_8abf5 0 = .ok (.aload_n 0, 1) := by decide +kernel
theorem dJ0_length_8abf5_1 : decode cJ0_length_8abf5 1 = .ok (.getfield 9, 3) := by decide +kernel
theorem dJ0_length_8abf5_4 : decode cJ0_length_8abf5 4 = .ok (.arraylength, 1) := by decide +kernel
theorem dJ0_length_8abf5_5 : decode cJ0_length_8abf5 5 = .ok (.aload_n 0, 1) := by decide +kernel
theorem dJ0_length_8abf5_6 : decode cJ0_length_8abf5 6 = .ok (.invokevirtual 335, 3) := by decide +kernel
theorem dJ0_length_8abf5_9 : decode cJ0_length_8abf5 9 = .ok (.ishr, 1) := by decide +kernel
theorem dJ0_length_8abf5_10 : decode cJ0_length_8abf5 10 = .ok (.ireturn, 1) := by decide +kernel
theorem dJ0_charAt_5068e_0 : decode cJ0_charAt_5068e 0 = .ok (.aload_n 0, 1) := by decide +kernel
theorem dJ0_charAt_5068e_1 : decode cJ0_charAt_5068e 1 = .ok (.invokevirtual 492, 3) := by decide +kernel
theorem dJ0_charAt_5068e_4 : decode cJ0_charAt_5068e 4 = .ok (.ifCond .eq 12, 3) := by decide +kernel
theorem dJ0_charAt_5068e_7 : decode cJ0_charAt_5068e 7 = .ok (.aload_n 0, 1) := by decide +kernel
theorem dJ0_charAt_5068e_8 : decode cJ0_charAt_5068e 8 = .ok (.getfield 9, 3) := by decide +kernel
theorem dJ0_charAt_5068e_11 : decode cJ0_charAt_5068e 11 = .ok (.iload_n 1, 1) := by decide +kernel
theorem dJ0_charAt_5068e_12 : decode cJ0_charAt_5068e 12 = .ok (.invokestatic 495, 3) := by decide +kernel
theorem dJ0_charAt_5068e_15 : decode cJ0_charAt_5068e 15 = .ok (.ireturn, 1) := by decide +kernel
theorem dJ0_charAt_5068e_16 : decode cJ0_charAt_5068e 16 = .ok (.aload_n 0, 1) := by decide +kernel
theorem dJ0_charAt_5068e_17 : decode cJ0_charAt_5068e 17 = .ok (.getfield 9, 3) := by decide +kernel
theorem dJ0_charAt_5068e_20 : decode cJ0_charAt_5068e 20 = .ok (.iload_n 1, 1) := by decide +kernel
theorem dJ0_charAt_5068e_21 : decode cJ0_charAt_5068e 21 = .ok (.invokestatic 498, 3) := by decide +kernel
theorem dJ0_charAt_5068e_24 : decode cJ0_charAt_5068e 24 = .ok (.ireturn, 1) := by decide +kernel
theorem dJ0_coder_7d493_0 : decode cJ0_coder_7d493 0 = .ok (.getstatic 38, 3) := by decide +kernel
theorem dJ0_coder_7d493_3 : decode cJ0_coder_7d493 3 = .ok (.ifCond .eq 10, 3) := by decide +kernel
theorem dJ0_coder_7d493_6 : decode cJ0_coder_7d493 6 = .ok (.aload_n 0, 1) := by decide +kernel
theorem dJ0_coder_7d493_7 : decode cJ0_coder_7d493 7 = .ok (.getfield 15, 3) := by decide +kernel
theorem dJ0_coder_7d493_10 : decode cJ0_coder_7d493 10 = .ok (.goto 4, 3) := by decide +kernel
theorem dJ0_coder_7d493_13 : decode cJ0_coder_7d493 13 = .ok (.iconst 1, 1) := by decide +kernel
theorem dJ0_coder_7d493_14 : decode cJ0_coder_7d493 14 = .ok (.ireturn, 1) := by decide +kernel
theorem dJ0_isLatin1_aae02_0 : decode cJ0_isLatin1_aae02 0 = .ok (.getstatic 38, 3) := by decide +kernel
theorem dJ0_isLatin1_aae02_3 : decode cJ0_isLatin1_aae02 3 = .ok (.ifCond .eq 14, 3) := by decide +kernel
theorem dJ0_isLatin1_aae02_6 : decode cJ0_isLatin1_aae02 6 = .ok (.aload_n 0, 1) := by decide +kernel
theorem dJ0_isLatin1_aae02_7 : decode cJ0_isLatin1_aae02 7 = .ok (.getfield 15, 3) := by decide +kernel
theorem dJ0_isLatin1_aae02_10 : decode cJ0_isLatin1_aae02 10 = .ok (.ifCond .ne 7, 3) := by decide +kernel
theorem dJ0_isLatin1_aae02_13 : decode cJ0_isLatin1_aae02 13 = .ok (.iconst 1, 1) := by decide +kernel
theorem dJ0_isLatin1_aae02_14 : decode cJ0_isLatin1_aae02 14 = .ok (.goto 4, 3) := by decide +kernel
theorem dJ0_isLatin1_aae02_17 : decode cJ0_isLatin1_aae02 17 = .ok (.iconst 0, 1) := by decide +kernel
theorem dJ0_isLatin1_aae02_18 : decode cJ0_isLatin1_aae02 18 = .ok (.ireturn, 1) := by decide +kernel
theorem dJ0_checkIndex_df160_0 : decode cJ0_checkIndex_df160 0 = .ok (.iload_n 0, 1) := by decide +kernel
theorem dJ0_checkIndex_df160_1 : decode cJ0_checkIndex_df160 1 = .ok (.iload_n 1, 1) := by decide +kernel
theorem dJ0_checkIndex_df160_2 : decode cJ0_checkIndex_df160 2 = .ok (.getstatic 1053, 3) := by decide +kernel
theorem dJ0_checkIndex_df160_5 : decode cJ0_checkIndex_df160 5 = .ok (.invokestatic 1059, 3) := by decide +kernel
theorem dJ0_checkIndex_df160_8 : decode cJ0_checkIndex_df160 8 = .ok (.pop, 1) := by decide +kernel
theorem dJ0_checkIndex_df160_9 : decode cJ0_checkIndex_df160 9 = .ok (.return_, 1) := by decide +kernel
theorem dJ1_charAt_3b067_0 : decode cJ1_charAt_3b067 0 = .ok (.iload_n 1, 1) := by decide +kernel
theorem dJ1_charAt_3b067_1 : decode cJ1_charAt_3b067 1 = .ok (.aload_n 0, 1) := by decide +kernel
theorem dJ1_charAt_3b067_2 : decode cJ1_charAt_3b067 2 = .ok (.arraylength, 1) := by decide +kernel
theorem dJ1_charAt_3b067_3 : decode cJ1_charAt_3b067 3 = .ok (.invokestatic 9, 3) := by decide +kernel
theorem dJ1_charAt_3b067_6 : decode cJ1_charAt_3b067 6 = .ok (.aload_n 0, 1) := by decide +kernel
theorem dJ1_charAt_3b067_7 : decode cJ1_charAt_3b067 7 = .ok (.iload_n 1, 1) := by decide +kernel
theorem dJ1_charAt_3b067_8 : decode cJ1_charAt_3b067 8 = .ok (.baload, 1) := by decide +kernel
theorem dJ1_charAt_3b067_9 : decode cJ1_charAt_3b067 9 = .ok (.sipush 255, 3) := by decide +kernel
theorem dJ1_charAt_3b067_12 : decode cJ1_charAt_3b067 12 = .ok (.iand, 1) := by decide +kernel
theorem dJ1_charAt_3b067_13 : decode cJ1_charAt_3b067 13 = .ok (.i2c, 1) := by decide +kernel
theorem dJ1_charAt_3b067_14 : decode cJ1_charAt_3b067 14 = .ok (.ireturn, 1) := by decide +kernel
theorem dJ2_getChar_3b067_0 : decode cJ2_getChar_3b067 0 = .ok (.getstatic 44, 3) := by decide +kernel
theorem dJ2_getChar_3b067_3 : decode cJ2_getChar_3b067 3 = .ok (.ifCond .ne 25, 3) := by decide +kernel
theorem dJ2_getChar_3b067_6 : decode cJ2_getChar_3b067 6 = .ok (.iload_n 1, 1) := by decide +kernel
theorem dJ2_getChar_3b067_7 : decode cJ2_getChar_3b067 7 = .ok (.ifCond .lt 11, 3) := by decide +kernel
theorem dJ2_getChar_3b067_10 : decode cJ2_getChar_3b067 10 = .ok (.iload_n 1, 1) := by decide +kernel
theorem dJ2_getChar_3b067_11 : decode cJ2_getChar_3b067 11 = .ok (.aload_n 0, 1) := by decide +kernel
theorem dJ2_getChar_3b067_12 : decode cJ2_getChar_3b067 12 = .ok (.invokestatic 48, 3) := by decide +kernel
theorem dJ2_getChar_3b067_15 : decode cJ2_getChar_3b067 15 = .ok (.if_icmp .lt 13, 3) := by decide +kernel
theorem dJ2_getChar_3b067_18 : decode cJ2_getChar_3b067 18 = .ok (.new 52, 3) := by decide +kernel
theorem dJ2_getChar_3b067_21 : decode cJ2_getChar_3b067 21 = .ok (.dup, 1) := by decide +kernel
theorem dJ2_getChar_3b067_22 : decode cJ2_getChar_3b067 22 = .ok (.ldc 54, 2) := by decide +kernel
theorem dJ2_getChar_3b067_24 : decode cJ2_getChar_3b067 24 = .ok (.invokespecial 56, 3) := by decide +kernel
theorem dJ2_getChar_3b067_27 : decode cJ2_getChar_3b067 27 = .ok (.athrow, 1) := by decide +kernel
theorem dJ2_getChar_3b067_28 : decode cJ2_getChar_3b067 28 = .ok (.iload_n 1, 1) := by decide +kernel
theorem dJ2_getChar_3b067_29 : decode cJ2_getChar_3b067 29 = .ok (.iconst 1, 1) := by decide +kernel
theorem dJ2_getChar_3b067_30 : decode cJ2_getChar_3b067 30 = .ok (.ishl, 1) := by decide +kernel
theorem dJ2_getChar_3b067_31 : decode cJ2_getChar_3b067 31 = .ok (.istore_n 1, 1) := by decide +kernel
theorem dJ2_getChar_3b067_32 : decode cJ2_getChar_3b067 32 = .ok (.aload_n 0, 1) := by decide +kernel
theorem dJ2_getChar_3b067_33 : decode cJ2_getChar_3b067 33 = .ok (.iload_n 1, 1) := by decide +kernel
theorem dJ2_getChar_3b067_34 : decode cJ2_getChar_3b067 34 = .ok (.iinc 1 1, 3) := by decide +kernel
theorem dJ2_getChar_3b067_37 : decode cJ2_getChar_3b067 37 = .ok (.baload, 1) := by decide +kernel
theorem dJ2_getChar_3b067_38 : decode cJ2_getChar_3b067 38 = .ok (.sipush 255, 3) := by decide +kernel
theorem dJ2_getChar_3b067_41 : decode cJ2_getChar_3b067 41 = .ok (.iand, 1) := by decide +kernel
theorem dJ2_getChar_3b067_42 : decode cJ2_getChar_3b067 42 = .ok (.getstatic 59, 3) := by decide +kernel
theorem dJ2_getChar_3b067_45 : decode cJ2_getChar_3b067 45 = .ok (.ishl, 1) := by decide +kernel
theorem dJ2_getChar_3b067_46 : decode cJ2_getChar_3b067 46 = .ok (.aload_n 0, 1) := by decide +kernel
theorem dJ2_getChar_3b067_47 : decode cJ2_getChar_3b067 47 = .ok (.iload_n 1, 1) := by decide +kernel
theorem dJ2_getChar_3b067_48 : decode cJ2_getChar_3b067 48 = .ok (.baload, 1) := by decide +kernel
theorem dJ2_getChar_3b067_49 : decode cJ2_getChar_3b067 49 = .ok (.sipush 255, 3) := by decide +kernel
theorem dJ2_getChar_3b067_52 : decode cJ2_getChar_3b067 52 = .ok (.iand, 1) := by decide +kernel
theorem dJ2_getChar_3b067_53 : decode cJ2_getChar_3b067 53 = .ok (.getstatic 63, 3) := by decide +kernel
theorem dJ2_getChar_3b067_56 : decode cJ2_getChar_3b067 56 = .ok (.ishl, 1) := by decide +kernel
theorem dJ2_getChar_3b067_57 : decode cJ2_getChar_3b067 57 = .ok (.ior, 1) := by decide +kernel
theorem dJ2_getChar_3b067_58 : decode cJ2_getChar_3b067 58 = .ok (.i2c, 1) := by decide +kernel
theorem dJ2_getChar_3b067_59 : decode cJ2_getChar_3b067 59 = .ok (.ireturn, 1) := by decide +kernel
theorem dJ2_length_9d52b_0 : decode cJ2_length_9d52b 0 = .ok (.aload_n 0, 1) := by decide +kernel
theorem dJ2_length_9d52b_1 : decode cJ2_length_9d52b 1 = .ok (.arraylength, 1) := by decide +kernel
theorem dJ2_length_9d52b_2 : decode cJ2_length_9d52b 2 = .ok (.iconst 1, 1) := by decide +kernel
theorem dJ2_length_9d52b_3 : decode cJ2_length_9d52b 3 = .ok (.ishr, 1) := by decide +kernel
theorem dJ2_length_9d52b_4 : decode cJ2_length_9d52b 4 = .ok (.ireturn, 1) := by decide +kernel
theorem dJ2_charAt_3b067_0 : decode cJ2_charAt_3b067 0 = .ok (.iload_n 1, 1) := by decide +kernel
theorem dJ2_charAt_3b067_1 : decode cJ2_charAt_3b067 1 = .ok (.aload_n 0, 1) := by decide +kernel
theorem dJ2_charAt_3b067_2 : decode cJ2_charAt_3b067 2 = .ok (.invokestatic 67, 3) := by decide +kernel
theorem dJ2_charAt_3b067_5 : decode cJ2_charAt_3b067 5 = .ok (.aload_n 0, 1) := by decide +kernel
theorem dJ2_charAt_3b067_6 : decode cJ2_charAt_3b067 6 = .ok (.iload_n 1, 1) := by decide +kernel
theorem dJ2_charAt_3b067_7 : decode cJ2_charAt_3b067 7 = .ok (.invokestatic 71, 3) := by decide +kernel
theorem dJ2_charAt_3b067_10 : decode cJ2_charAt_3b067 10 = .ok (.ireturn, 1) := by decide +kernel
theorem dJ2_checkIndex_2214a_0 : decode cJ2_checkIndex_2214a 0 = .ok (.iload_n 0, 1) := by decide +kernel
theorem dJ2_checkIndex_2214a_1 : decode cJ2_checkIndex_2214a 1 = .ok (.aload_n 1, 1) := by decide +kernel
theorem dJ2_checkIndex_2214a_2 : decode cJ2_checkIndex_2214a 2 = .ok (.invokestatic 48, 3) := by decide +kernel
theorem dJ2_checkIndex_2214a_5 : decode cJ2_checkIndex_2214a 5 = .ok (.invokestatic 414, 3) := by decide +kernel
theorem dJ2_checkIndex_2214a_8 : decode cJ2_checkIndex_2214a 8 = .ok (.return_, 1) := by decide +kernel
theorem dJ3_checkIndex_8e157_0 : decode cJ3_checkIndex_8e157 0 = .ok (.iload_n 0, 1) := by decide +kernel
theorem dJ3_checkIndex_8e157_1 : decode cJ3_checkIndex_8e157 1 = .ok (.ifCond .lt 8, 3) := by decide +kernel
theorem dJ3_checkIndex_8e157_4 : decode cJ3_checkIndex_8e157 4 = .ok (.iload_n 0, 1) := by decide +kernel
theorem dJ3_checkIndex_8e157_5 : decode cJ3_checkIndex_8e157 5 = .ok (.iload_n 1, 1) := by decide +kernel
theorem dJ3_checkIndex_8e157_6 : decode cJ3_checkIndex_8e157 6 = .ok (.if_icmp .lt 10, 3) := by decide +kernel
theorem dJ3_checkIndex_8e157_9 : decode cJ3_checkIndex_8e157 9 = .ok (.aload_n 2, 1) := by decide +kernel
theorem dJ3_checkIndex_8e157_10 : decode cJ3_checkIndex_8e157 10 = .ok (.iload_n 0, 1) := by decide +kernel
theorem dJ3_checkIndex_8e157_11 : decode cJ3_checkIndex_8e157 11 = .ok (.iload_n 1, 1) := by decide +kernel
theorem dJ3_checkIndex_8e157_12 : decode cJ3_checkIndex_8e157 12 = .ok (.invokestatic 95, 3) := by decide +kernel
theorem dJ3_checkIndex_8e157_15 : decode cJ3_checkIndex_8e157 15 = .ok (.athrow, 1) := by decide +kernel
theorem dJ3_checkIndex_8e157_16 : decode cJ3_checkIndex_8e157 16 = .ok (.iload_n 0, 1) := by decide +kernel
theorem dJ3_checkIndex_8e157_17 : decode cJ3_checkIndex_8e157 17 = .ok (.ireturn, 1) := by decide +kernel
