theorem dX0_init_0 : decode cX0_init 0 = .ok (.aload_n 0, 1) := by decide +kernel
theorem dX0_init_1 : decode cX0_init 1 = .ok (.invokespecial 3, 3) := by decide +kernel
theorem dX0_init_4 : decode cX0_init 4 = .ok (.aload_n 0, 1) := by decide +kernel
theorem dX0_init_5 : decode cX0_init 5 = .ok (.bipush 6, 2) := by decide +kernel
theorem dX0_init_7 : decode cX0_init 7 = .ok (.newarray .int, 2) := by decide +kernel
theorem dX0_init_9 : decode cX0_init 9 = .ok (.putfield 9, 3) := by decide +kernel
theorem dX0_init_12 : decode cX0_init 12 = .ok (.aload_n 0, 1) := by decide +kernel
theorem dX0_init_13 : decode cX0_init 13 = .ok (.bipush 6, 2) := by decide +kernel
theorem dX0_init_15 : decode cX0_init 15 = .ok (.newarray .int, 2) := by decide +kernel
theorem dX0_init_17 : decode cX0_init 17 = .ok (.putfield 15, 3) := by decide +kernel
theorem dX0_init_20 : decode cX0_init 20 = .ok (.return_, 1) := by decide +kernel
theorem dX0_start_0 : decode cX0_start 0 = .ok (.aload_n 0, 1) := by decide +kernel
theorem dX0_start_1 : decode cX0_start 1 = .ok (.getfield 9, 3) := by decide +kernel
theorem dX0_start_4 : decode cX0_start 4 = .ok (.iload_n 1, 1) := by decide +kernel
theorem dX0_start_5 : decode cX0_start 5 = .ok (.invokestatic 18, 3) := by decide +kernel
theorem dX0_start_8 : decode cX0_start 8 = .ok (.aload_n 0, 1) := by decide +kernel
theorem dX0_start_9 : decode cX0_start 9 = .ok (.getfield 15, 3) := by decide +kernel
theorem dX0_start_12 : decode cX0_start 12 = .ok (.iload_n 1, 1) := by decide +kernel
theorem dX0_start_13 : decode cX0_start 13 = .ok (.invokestatic 18, 3) := by decide +kernel
theorem dX0_start_16 : decode cX0_start 16 = .ok (.return_, 1) := by decide +kernel
theorem dX0_setAs_0 : decode cX0_setAs 0 = .ok (.iconst 0, 1) := by decide +kernel
theorem dX0_setAs_1 : decode cX0_setAs 1 = .ok (.istore_n 2, 1) := by decide +kernel
theorem dX0_setAs_2 : decode cX0_setAs 2 = .ok (.iload_n 2, 1) := by decide +kernel
theorem dX0_setAs_3 : decode cX0_setAs 3 = .ok (.bipush 6, 2) := by decide +kernel
theorem dX0_setAs_5 : decode cX0_setAs 5 = .ok (.if_icmp .ge 33, 3) := by decide +kernel
theorem dX0_setAs_8 : decode cX0_setAs 8 = .ok (.aload_n 0, 1) := by decide +kernel
theorem dX0_setAs_9 : decode cX0_setAs 9 = .ok (.getfield 9, 3) := by decide +kernel
theorem dX0_setAs_12 : decode cX0_setAs 12 = .ok (.iload_n 2, 1) := by decide +kernel
theorem dX0_setAs_13 : decode cX0_setAs 13 = .ok (.aload_n 1, 1) := by decide +kernel
theorem dX0_setAs_14 : decode cX0_setAs 14 = .ok (.getfield 9, 3) := by decide +kernel
theorem dX0_setAs_17 : decode cX0_setAs 17 = .ok (.iload_n 2, 1) := by decide +kernel
theorem dX0_setAs_18 : decode cX0_setAs 18 = .ok (.iaload, 1) := by decide +kernel
theorem dX0_setAs_19 : decode cX0_setAs 19 = .ok (.iastore, 1) := by decide +kernel
theorem dX0_setAs_20 : decode cX0_setAs 20 = .ok (.aload_n 0, 1) := by decide +kernel
theorem dX0_setAs_21 : decode cX0_setAs 21 = .ok (.getfield 15, 3) := by decide +kernel
theorem dX0_setAs_24 : decode cX0_setAs 24 = .ok (.iload_n 2, 1) := by decide +kernel
theorem dX0_setAs_25 : decode cX0_setAs 25 = .ok (.aload_n 1, 1) := by decide +kernel
theorem dX0_setAs_26 : decode cX0_setAs 26 = .ok (.getfield 15, 3) := by decide +kernel
theorem dX0_setAs_29 : decode cX0_setAs 29 = .ok (.iload_n 2, 1) := by decide +kernel
theorem dX0_setAs_30 : decode cX0_setAs 30 = .ok (.iaload, 1) := by decide +kernel
theorem dX0_setAs_31 : decode cX0_setAs 31 = .ok (.iastore, 1) := by decide +kernel
theorem dX0_setAs_32 : decode cX0_setAs 32 = .ok (.iinc 2 1, 3) := by decide +kernel
theorem dX0_setAs_35 : decode cX0_setAs 35 = .ok (.goto (-33), 3) := by decide +kernel
theorem dX0_setAs_38 : decode cX0_setAs 38 = .ok (.return_, 1) := by decide +kernel
theorem dX0_lookAt_0 : decode cX0_lookAt 0 = .ok (.iload_n 1, 1) := by decide +kernel
theorem dX0_lookAt_1 : decode cX0_lookAt 1 = .ok (.invokestatic 24, 3) := by decide +kernel
theorem dX0_lookAt_4 : decode cX0_lookAt 4 = .ok (.ifCond .ne 4, 3) := by decide +kernel
theorem dX0_lookAt_7 : decode cX0_lookAt 7 = .ok (.return_, 1) := by decide +kernel
theorem dX0_lookAt_8 : decode cX0_lookAt 8 = .ok (.aload_n 0, 1) := by decide +kernel
theorem dX0_lookAt_9 : decode cX0_lookAt 9 = .ok (.getfield 9, 3) := by decide +kernel
theorem dX0_lookAt_12 : decode cX0_lookAt 12 = .ok (.iload_n 1, 1) := by decide +kernel
theorem dX0_lookAt_13 : decode cX0_lookAt 13 = .ok (.iaload, 1) := by decide +kernel
theorem dX0_lookAt_14 : decode cX0_lookAt 14 = .ok (.istore_n 3, 1) := by decide +kernel
theorem dX0_lookAt_15 : decode cX0_lookAt 15 = .ok (.aload_n 0, 1) := by decide +kernel
theorem dX0_lookAt_16 : decode cX0_lookAt 16 = .ok (.getfield 15, 3) := by decide +kernel
theorem dX0_lookAt_19 : decode cX0_lookAt 19 = .ok (.iload_n 1, 1) := by decide +kernel
theorem dX0_lookAt_20 : decode cX0_lookAt 20 = .ok (.iaload, 1) := by decide +kernel
theorem dX0_lookAt_21 : decode cX0_lookAt 21 = .ok (.istore 4, 2) := by decide +kernel
theorem dX0_lookAt_23 : decode cX0_lookAt 23 = .ok (.iconst 0, 1) := by decide +kernel
theorem dX0_lookAt_24 : decode cX0_lookAt 24 = .ok (.istore 5, 2) := by decide +kernel
theorem dX0_lookAt_26 : decode cX0_lookAt 26 = .ok (.iload 5, 2) := by decide +kernel
theorem dX0_lookAt_28 : decode cX0_lookAt 28 = .ok (.bipush 6, 2) := by decide +kernel
theorem dX0_lookAt_30 : decode cX0_lookAt 30 = .ok (.if_icmp .ge 63, 3) := by decide +kernel
theorem dX0_lookAt_33 : decode cX0_lookAt 33 = .ok (.aload_n 0, 1) := by decide +kernel
theorem dX0_lookAt_34 : decode cX0_lookAt 34 = .ok (.getfield 9, 3) := by decide +kernel
theorem dX0_lookAt_37 : decode cX0_lookAt 37 = .ok (.iload 5, 2) := by decide +kernel
theorem dX0_lookAt_39 : decode cX0_lookAt 39 = .ok (.iaload, 1) := by decide +kernel
theorem dX0_lookAt_40 : decode cX0_lookAt 40 = .ok (.iload_n 3, 1) := by decide +kernel
theorem dX0_lookAt_41 : decode cX0_lookAt 41 = .ok (.if_icmp .ge 14, 3) := by decide +kernel
theorem dX0_lookAt_44 : decode cX0_lookAt 44 = .ok (.aload_n 0, 1) := by decide +kernel
theorem dX0_lookAt_45 : decode cX0_lookAt 45 = .ok (.getfield 9, 3) := by decide +kernel
theorem dX0_lookAt_48 : decode cX0_lookAt 48 = .ok (.iload 5, 2) := by decide +kernel
theorem dX0_lookAt_50 : decode cX0_lookAt 50 = .ok (.dup2, 1) := by decide +kernel
theorem dX0_lookAt_51 : decode cX0_lookAt 51 = .ok (.iaload, 1) := by decide +kernel
theorem dX0_lookAt_52 : decode cX0_lookAt 52 = .ok (.iconst 1, 1) := by decide +kernel
theorem dX0_lookAt_53 : decode cX0_lookAt 53 = .ok (.iadd, 1) := by decide +kernel
theorem dX0_lookAt_54 : decode cX0_lookAt 54 = .ok (.iastore, 1) := by decide +kernel
theorem dX0_lookAt_55 : decode cX0_lookAt 55 = .ok (.aload_n 0, 1) := by decide +kernel
theorem dX0_lookAt_56 : decode cX0_lookAt 56 = .ok (.getfield 15, 3) := by decide +kernel
theorem dX0_lookAt_59 : decode cX0_lookAt 59 = .ok (.iload 5, 2) := by decide +kernel
theorem dX0_lookAt_61 : decode cX0_lookAt 61 = .ok (.iaload, 1) := by decide +kernel
theorem dX0_lookAt_62 : decode cX0_lookAt 62 = .ok (.iload 4, 2) := by decide +kernel
theorem dX0_lookAt_64 : decode cX0_lookAt 64 = .ok (.if_icmp .gt 23, 3) := by decide +kernel
theorem dX0_lookAt_67 : decode cX0_lookAt 67 = .ok (.aload_n 0, 1) := by decide +kernel
theorem dX0_lookAt_68 : decode cX0_lookAt 68 = .ok (.getfield 15, 3) := by decide +kernel
theorem dX0_lookAt_71 : decode cX0_lookAt 71 = .ok (.iload 5, 2) := by decide +kernel
theorem dX0_lookAt_73 : decode cX0_lookAt 73 = .ok (.aload_n 0, 1) := by decide +kernel
theorem dX0_lookAt_74 : decode cX0_lookAt 74 = .ok (.getfield 15, 3) := by decide +kernel
theorem dX0_lookAt_77 : decode cX0_lookAt 77 = .ok (.iload 5, 2) := by decide +kernel
theorem dX0_lookAt_79 : decode cX0_lookAt 79 = .ok (.iaload, 1) := by decide +kernel
theorem dX0_lookAt_80 : decode cX0_lookAt 80 = .ok (.iconst 1, 1) := by decide +kernel
theorem dX0_lookAt_81 : decode cX0_lookAt 81 = .ok (.iadd, 1) := by decide +kernel
theorem dX0_lookAt_82 : decode cX0_lookAt 82 = .ok (.iload_n 2, 1) := by decide +kernel
theorem dX0_lookAt_83 : decode cX0_lookAt 83 = .ok (.invokestatic 28, 3) := by decide +kernel
theorem dX0_lookAt_86 : decode cX0_lookAt 86 = .ok (.iastore, 1) := by decide +kernel
theorem dX0_lookAt_87 : decode cX0_lookAt 87 = .ok (.iinc 5 1, 3) := by decide +kernel
theorem dX0_lookAt_90 : decode cX0_lookAt 90 = .ok (.goto (-64), 3) := by decide +kernel
theorem dX0_lookAt_93 : decode cX0_lookAt 93 = .ok (.aload_n 0, 1) := by decide +kernel
theorem dX0_lookAt_94 : decode cX0_lookAt 94 = .ok (.getfield 9, 3) := by decide +kernel
theorem dX0_lookAt_97 : decode cX0_lookAt 97 = .ok (.iload_n 1, 1) := by decide +kernel
theorem dX0_lookAt_98 : decode cX0_lookAt 98 = .ok (.iconst 0, 1) := by decide +kernel
theorem dX0_lookAt_99 : decode cX0_lookAt 99 = .ok (.iastore, 1) := by decide +kernel
theorem dX0_lookAt_100 : decode cX0_lookAt 100 = .ok (.aload_n 0, 1) := by decide +kernel
theorem dX0_lookAt_101 : decode cX0_lookAt 101 = .ok (.getfield 15, 3) := by decide +kernel
theorem dX0_lookAt_104 : decode cX0_lookAt 104 = .ok (.iload_n 1, 1) := by decide +kernel
theorem dX0_lookAt_105 : decode cX0_lookAt 105 = .ok (.iconst 0, 1) := by decide +kernel
theorem dX0_lookAt_106 : decode cX0_lookAt 106 = .ok (.iastore, 1) := by decide +kernel
theorem dX0_lookAt_107 : decode cX0_lookAt 107 = .ok (.return_, 1) := by decide +kernel
theorem dX0_joinWith_0 : decode cX0_joinWith 0 = .ok (.iconst 0, 1) := by decide +kernel
theorem dX0_joinWith_1 : decode cX0_joinWith 1 = .ok (.istore_n 2, 1) := by decide +kernel
theorem dX0_joinWith_2 : decode cX0_joinWith 2 = .ok (.iconst 0, 1) := by decide +kernel
theorem dX0_joinWith_3 : decode cX0_joinWith 3 = .ok (.istore_n 3, 1) := by decide +kernel
theorem dX0_joinWith_4 : decode cX0_joinWith 4 = .ok (.iload_n 3, 1) := by decide +kernel
theorem dX0_joinWith_5 : decode cX0_joinWith 5 = .ok (.bipush 6, 2) := by decide +kernel
theorem dX0_joinWith_7 : decode cX0_joinWith 7 = .ok (.if_icmp .ge 67, 3) := by decide +kernel
theorem dX0_joinWith_10 : decode cX0_joinWith 10 = .ok (.aload_n 1, 1) := by decide +kernel
theorem dX0_joinWith_11 : decode cX0_joinWith 11 = .ok (.getfield 9, 3) := by decide +kernel
theorem dX0_joinWith_14 : decode cX0_joinWith 14 = .ok (.iload_n 3, 1) := by decide +kernel
theorem dX0_joinWith_15 : decode cX0_joinWith 15 = .ok (.iaload, 1) := by decide +kernel
theorem dX0_joinWith_16 : decode cX0_joinWith 16 = .ok (.aload_n 0, 1) := by decide +kernel
theorem dX0_joinWith_17 : decode cX0_joinWith 17 = .ok (.getfield 9, 3) := by decide +kernel
theorem dX0_joinWith_20 : decode cX0_joinWith 20 = .ok (.iload_n 3, 1) := by decide +kernel
theorem dX0_joinWith_21 : decode cX0_joinWith 21 = .ok (.iaload, 1) := by decide +kernel
theorem dX0_joinWith_22 : decode cX0_joinWith 22 = .ok (.if_icmp .le 17, 3) := by decide +kernel
theorem dX0_joinWith_25 : decode cX0_joinWith 25 = .ok (.aload_n 0, 1) := by decide +kernel
theorem dX0_joinWith_26 : decode cX0_joinWith 26 = .ok (.getfield 9, 3) := by decide +kernel
theorem dX0_joinWith_29 : decode cX0_joinWith 29 = .ok (.iload_n 3, 1) := by decide +kernel
theorem dX0_joinWith_30 : decode cX0_joinWith 30 = .ok (.aload_n 1, 1) := by decide +kernel
theorem dX0_joinWith_31 : decode cX0_joinWith 31 = .ok (.getfield 9, 3) := by decide +kernel
theorem dX0_joinWith_34 : decode cX0_joinWith 34 = .ok (.iload_n 3, 1) := by decide +kernel
theorem dX0_joinWith_35 : decode cX0_joinWith 35 = .ok (.iaload, 1) := by decide +kernel
theorem dX0_joinWith_36 : decode cX0_joinWith 36 = .ok (.iastore, 1) := by decide +kernel
theorem dX0_joinWith_37 : decode cX0_joinWith 37 = .ok (.iconst 1, 1) := by decide +kernel
theorem dX0_joinWith_38 : decode cX0_joinWith 38 = .ok (.istore_n 2, 1) := by decide +kernel
theorem dX0_joinWith_39 : decode cX0_joinWith 39 = .ok (.aload_n 1, 1) := by decide +kernel
theorem dX0_joinWith_40 : decode cX0_joinWith 40 = .ok (.getfield 15, 3) := by decide +kernel
theorem dX0_joinWith_43 : decode cX0_joinWith 43 = .ok (.iload_n 3, 1) := by decide +kernel
theorem dX0_joinWith_44 : decode cX0_joinWith 44 = .ok (.iaload, 1) := by decide +kernel
theorem dX0_joinWith_45 : decode cX0_joinWith 45 = .ok (.aload_n 0, 1) := by decide +kernel
theorem dX0_joinWith_46 : decode cX0_joinWith 46 = .ok (.getfield 15, 3) := by decide +kernel
theorem dX0_joinWith_49 : decode cX0_joinWith 49 = .ok (.iload_n 3, 1) := by decide +kernel
theorem dX0_joinWith_50 : decode cX0_joinWith 50 = .ok (.iaload, 1) := by decide +kernel
theorem dX0_joinWith_51 : decode cX0_joinWith 51 = .ok (.if_icmp .ge 17, 3) := by decide +kernel
theorem dX0_joinWith_54 : decode cX0_joinWith 54 = .ok (.aload_n 0, 1) := by decide +kernel
theorem dX0_joinWith_55 : decode cX0_joinWith 55 = .ok (.getfield 15, 3) := by decide +kernel
theorem dX0_joinWith_58 : decode cX0_joinWith 58 = .ok (.iload_n 3, 1) := by decide +kernel
theorem dX0_joinWith_59 : decode cX0_joinWith 59 = .ok (.aload_n 1, 1) := by decide +kernel
theorem dX0_joinWith_60 : decode cX0_joinWith 60 = .ok (.getfield 15, 3) := by decide +kernel
theorem dX0_joinWith_63 : decode cX0_joinWith 63 = .ok (.iload_n 3, 1) := by decide +kernel
theorem dX0_joinWith_64 : decode cX0_joinWith 64 = .ok (.iaload, 1) := by decide +kernel
theorem dX0_joinWith_65 : decode cX0_joinWith 65 = .ok (.iastore, 1) := by decide +kernel
theorem dX0_joinWith_66 : decode cX0_joinWith 66 = .ok (.iconst 1, 1) := by decide +kernel
theorem dX0_joinWith_67 : decode cX0_joinWith 67 = .ok (.istore_n 2, 1) := by decide +kernel
theorem dX0_joinWith_68 : decode cX0_joinWith 68 = .ok (.iinc 3 1, 3) := by decide +kernel
theorem dX0_joinWith_71 : decode cX0_joinWith 71 = .ok (.goto (-67), 3) := by decide +kernel
theorem dX0_joinWith_74 : decode cX0_joinWith 74 = .ok (.iload_n 2, 1) := by decide +kernel
theorem dX0_joinWith_75 : decode cX0_joinWith 75 = .ok (.ireturn, 1) := by decide +kernel
theorem dX1_init_0 : decode cX1_init 0 = .ok (.aload_n 0, 1) := by decide +kernel
theorem dX1_init_1 : decode cX1_init 1 = .ok (.invokespecial 3, 3) := by decide +kernel
theorem dX1_init_4 : decode cX1_init 4 = .ok (.aload_n 0, 1) := by decide +kernel
theorem dX1_init_5 : decode cX1_init 5 = .ok (.iconst 0, 1) := by decide +kernel
theorem dX1_init_6 : decode cX1_init 6 = .ok (.putfield 11, 3) := by decide +kernel
theorem dX1_init_9 : decode cX1_init 9 = .ok (.aload_n 0, 1) := by decide +kernel
theorem dX1_init_10 : decode cX1_init 10 = .ok (.iconst 2, 1) := by decide +kernel
theorem dX1_init_11 : decode cX1_init 11 = .ok (.putfield 17, 3) := by decide +kernel
theorem dX1_init_14 : decode cX1_init 14 = .ok (.aload_n 0, 1) := by decide +kernel
theorem dX1_init_15 : decode cX1_init 15 = .ok (.iconst 0, 1) := by decide +kernel
theorem dX1_init_16 : decode cX1_init 16 = .ok (.putfield 20, 3) := by decide +kernel
theorem dX1_init_19 : decode cX1_init 19 = .ok (.aload_n 0, 1) := by decide +kernel
theorem dX1_init_20 : decode cX1_init 20 = .ok (.bipush 10, 2) := by decide +kernel
theorem dX1_init_22 : decode cX1_init 22 = .ok (.putfield 23, 3) := by decide +kernel
theorem dX1_init_25 : decode cX1_init 25 = .ok (.return_, 1) := by decide +kernel
theorem dX1_setAs_0 : decode cX1_setAs 0 = .ok (.aload_n 0, 1) := by decide +kernel
theorem dX1_setAs_1 : decode cX1_setAs 1 = .ok (.aload_n 1, 1) := by decide +kernel
theorem dX1_setAs_2 : decode cX1_setAs 2 = .ok (.getfield 11, 3) := by decide +kernel
theorem dX1_setAs_5 : decode cX1_setAs 5 = .ok (.putfield 11, 3) := by decide +kernel
theorem dX1_setAs_8 : decode cX1_setAs 8 = .ok (.aload_n 0, 1) := by decide +kernel
theorem dX1_setAs_9 : decode cX1_setAs 9 = .ok (.aload_n 1, 1) := by decide +kernel
theorem dX1_setAs_10 : decode cX1_setAs 10 = .ok (.getfield 17, 3) := by decide +kernel
theorem dX1_setAs_13 : decode cX1_setAs 13 = .ok (.putfield 17, 3) := by decide +kernel
theorem dX1_setAs_16 : decode cX1_setAs 16 = .ok (.aload_n 0, 1) := by decide +kernel
theorem dX1_setAs_17 : decode cX1_setAs 17 = .ok (.aload_n 1, 1) := by decide +kernel
theorem dX1_setAs_18 : decode cX1_setAs 18 = .ok (.getfield 20, 3) := by decide +kernel
theorem dX1_setAs_21 : decode cX1_setAs 21 = .ok (.putfield 20, 3) := by decide +kernel
theorem dX1_setAs_24 : decode cX1_setAs 24 = .ok (.aload_n 0, 1) := by decide +kernel
theorem dX1_setAs_25 : decode cX1_setAs 25 = .ok (.aload_n 1, 1) := by decide +kernel
theorem dX1_setAs_26 : decode cX1_setAs 26 = .ok (.getfield 23, 3) := by decide +kernel
theorem dX1_setAs_29 : decode cX1_setAs 29 = .ok (.putfield 23, 3) := by decide +kernel
theorem dX1_setAs_32 : decode cX1_setAs 32 = .ok (.return_, 1) := by decide +kernel
theorem dX1_isAs_0 : decode cX1_isAs 0 = .ok (.aload_n 0, 1) := by decide +kernel
theorem dX1_isAs_1 : decode cX1_isAs 1 = .ok (.getfield 11, 3) := by decide +kernel
theorem dX1_isAs_4 : decode cX1_isAs 4 = .ok (.aload_n 1, 1) := by decide +kernel
theorem dX1_isAs_5 : decode cX1_isAs 5 = .ok (.getfield 11, 3) := by decide +kernel
theorem dX1_isAs_8 : decode cX1_isAs 8 = .ok (.if_icmp .ne 40, 3) := by decide +kernel
theorem dX1_isAs_11 : decode cX1_isAs 11 = .ok (.aload_n 0, 1) := by decide +kernel
theorem dX1_isAs_12 : decode cX1_isAs 12 = .ok (.getfield 17, 3) := by decide +kernel
theorem dX1_isAs_15 : decode cX1_isAs 15 = .ok (.aload_n 1, 1) := by decide +kernel
theorem dX1_isAs_16 : decode cX1_isAs 16 = .ok (.getfield 17, 3) := by decide +kernel
theorem dX1_isAs_19 : decode cX1_isAs 19 = .ok (.if_icmp .ne 29, 3) := by decide +kernel
theorem dX1_isAs_22 : decode cX1_isAs 22 = .ok (.aload_n 0, 1) := by decide +kernel
theorem dX1_isAs_23 : decode cX1_isAs 23 = .ok (.getfield 20, 3) := by decide +kernel
theorem dX1_isAs_26 : decode cX1_isAs 26 = .ok (.aload_n 1, 1) := by decide +kernel
theorem dX1_isAs_27 : decode cX1_isAs 27 = .ok (.getfield 20, 3) := by decide +kernel
theorem dX1_isAs_30 : decode cX1_isAs 30 = .ok (.if_icmp .ne 18, 3) := by decide +kernel
theorem dX1_isAs_33 : decode cX1_isAs 33 = .ok (.aload_n 0, 1) := by decide +kernel
theorem dX1_isAs_34 : decode cX1_isAs 34 = .ok (.getfield 23, 3) := by decide +kernel
theorem dX1_isAs_37 : decode cX1_isAs 37 = .ok (.aload_n 1, 1) := by decide +kernel
theorem dX1_isAs_38 : decode cX1_isAs 38 = .ok (.getfield 23, 3) := by decide +kernel
theorem dX1_isAs_41 : decode cX1_isAs 41 = .ok (.if_icmp .ne 7, 3) := by decide +kernel
theorem dX1_isAs_44 : decode cX1_isAs 44 = .ok (.iconst 1, 1) := by decide +kernel
theorem dX1_isAs_45 : decode cX1_isAs 45 = .ok (.goto 4, 3) := by decide +kernel
theorem dX1_isAs_48 : decode cX1_isAs 48 = .ok (.iconst 0, 1) := by decide +kernel
theorem dX1_isAs_49 : decode cX1_isAs 49 = .ok (.ireturn, 1) := by decide +kernel
theorem dX1_lookAt_0 : decode cX1_lookAt 0 = .ok (.aload_n 0, 1) := by decide +kernel
theorem dX1_lookAt_1 : decode cX1_lookAt 1 = .ok (.getfield 11, 3) := by decide +kernel
theorem dX1_lookAt_4 : decode cX1_lookAt 4 = .ok (.iload_n 1, 1) := by decide +kernel
theorem dX1_lookAt_5 : decode cX1_lookAt 5 = .ok (.invokestatic 26, 3) := by decide +kernel
theorem dX1_lookAt_8 : decode cX1_lookAt 8 = .ok (.istore_n 2, 1) := by decide +kernel
theorem dX1_lookAt_9 : decode cX1_lookAt 9 = .ok (.iload_n 2, 1) := by decide +kernel
theorem dX1_lookAt_10 : decode cX1_lookAt 10 = .ok (.iconst (-1), 1) := by decide +kernel
theorem dX1_lookAt_11 : decode cX1_lookAt 11 = .ok (.if_icmp .ne 24, 3) := by decide +kernel
theorem dX1_lookAt_14 : decode cX1_lookAt 14 = .ok (.aload_n 0, 1) := by decide +kernel
theorem dX1_lookAt_15 : decode cX1_lookAt 15 = .ok (.aload_n 0, 1) := by decide +kernel
theorem dX1_lookAt_16 : decode cX1_lookAt 16 = .ok (.getfield 11, 3) := by decide +kernel
theorem dX1_lookAt_19 : decode cX1_lookAt 19 = .ok (.iload_n 1, 1) := by decide +kernel
theorem dX1_lookAt_20 : decode cX1_lookAt 20 = .ok (.aload_n 0, 1) := by decide +kernel
theorem dX1_lookAt_21 : decode cX1_lookAt 21 = .ok (.getfield 17, 3) := by decide +kernel
theorem dX1_lookAt_24 : decode cX1_lookAt 24 = .ok (.invokestatic 30, 3) := by decide +kernel
theorem dX1_lookAt_27 : decode cX1_lookAt 27 = .ok (.putfield 11, 3) := by decide +kernel
theorem dX1_lookAt_30 : decode cX1_lookAt 30 = .ok (.aload_n 0, 1) := by decide +kernel
theorem dX1_lookAt_31 : decode cX1_lookAt 31 = .ok (.getfield 23, 3) := by decide +kernel
theorem dX1_lookAt_34 : decode cX1_lookAt 34 = .ok (.ireturn, 1) := by decide +kernel
theorem dX1_lookAt_35 : decode cX1_lookAt 35 = .ok (.aload_n 0, 1) := by decide +kernel
theorem dX1_lookAt_36 : decode cX1_lookAt 36 = .ok (.aload_n 0, 1) := by decide +kernel
theorem dX1_lookAt_37 : decode cX1_lookAt 37 = .ok (.getfield 11, 3) := by decide +kernel
theorem dX1_lookAt_40 : decode cX1_lookAt 40 = .ok (.iload_n 2, 1) := by decide +kernel
theorem dX1_lookAt_41 : decode cX1_lookAt 41 = .ok (.aload_n 0, 1) := by decide +kernel
theorem dX1_lookAt_42 : decode cX1_lookAt 42 = .ok (.getfield 17, 3) := by decide +kernel
theorem dX1_lookAt_45 : decode cX1_lookAt 45 = .ok (.aload_n 0, 1) := by decide +kernel
theorem dX1_lookAt_46 : decode cX1_lookAt 46 = .ok (.getfield 20, 3) := by decide +kernel
theorem dX1_lookAt_49 : decode cX1_lookAt 49 = .ok (.invokestatic 34, 3) := by decide +kernel
theorem dX1_lookAt_52 : decode cX1_lookAt 52 = .ok (.putfield 11, 3) := by decide +kernel
theorem dX1_lookAt_55 : decode cX1_lookAt 55 = .ok (.iconst 1, 1) := by decide +kernel
theorem dX1_lookAt_56 : decode cX1_lookAt 56 = .ok (.ireturn, 1) := by decide +kernel
theorem dX2_init_0 : decode cX2_init 0 = .ok (.aload_n 0, 1) := by decide +kernel
theorem dX2_init_1 : decode cX2_init 1 = .ok (.invokespecial 3, 3) := by decide +kernel
theorem dX2_init_4 : decode cX2_init 4 = .ok (.aload_n 0, 1) := by decide +kernel
theorem dX2_init_5 : decode cX2_init 5 = .ok (.iconst 4, 1) := by decide +kernel
theorem dX2_init_6 : decode cX2_init 6 = .ok (.anewarray 9, 3) := by decide +kernel
theorem dX2_init_9 : decode cX2_init 9 = .ok (.putfield 11, 3) := by decide +kernel
theorem dX2_init_12 : decode cX2_init 12 = .ok (.aload_n 0, 1) := by decide +kernel
theorem dX2_init_13 : decode cX2_init 13 = .ok (.iconst 3, 1) := by decide +kernel
theorem dX2_init_14 : decode cX2_init 14 = .ok (.anewarray 9, 3) := by decide +kernel
theorem dX2_init_17 : decode cX2_init 17 = .ok (.putfield 17, 3) := by decide +kernel
theorem dX2_init_20 : decode cX2_init 20 = .ok (.aload_n 0, 1) := by decide +kernel
theorem dX2_init_21 : decode cX2_init 21 = .ok (.new 9, 3) := by decide +kernel
theorem dX2_init_24 : decode cX2_init 24 = .ok (.dup, 1) := by decide +kernel
theorem dX2_init_25 : decode cX2_init 25 = .ok (.invokespecial 20, 3) := by decide +kernel
theorem dX2_init_28 : decode cX2_init 28 = .ok (.putfield 21, 3) := by decide +kernel
theorem dX2_init_31 : decode cX2_init 31 = .ok (.aload_n 0, 1) := by decide +kernel
theorem dX2_init_32 : decode cX2_init 32 = .ok (.new 25, 3) := by decide +kernel
theorem dX2_init_35 : decode cX2_init 35 = .ok (.dup, 1) := by decide +kernel
theorem dX2_init_36 : decode cX2_init 36 = .ok (.invokespecial 27, 3) := by decide +kernel
theorem dX2_init_39 : decode cX2_init 39 = .ok (.putfield 28, 3) := by decide +kernel
theorem dX2_init_42 : decode cX2_init 42 = .ok (.aload_n 0, 1) := by decide +kernel
theorem dX2_init_43 : decode cX2_init 43 = .ok (.iconst 0, 1) := by decide +kernel
theorem dX2_init_44 : decode cX2_init 44 = .ok (.putfield 32, 3) := by decide +kernel
theorem dX2_init_47 : decode cX2_init 47 = .ok (.iconst 0, 1) := by decide +kernel
theorem dX2_init_48 : decode cX2_init 48 = .ok (.istore_n 1, 1) := by decide +kernel
theorem dX2_init_49 : decode cX2_init 49 = .ok (.iload_n 1, 1) := by decide +kernel
theorem dX2_init_50 : decode cX2_init 50 = .ok (.iconst 3, 1) := by decide +kernel
theorem dX2_init_51 : decode cX2_init 51 = .ok (.if_icmp .gt 22, 3) := by decide +kernel
theorem dX2_init_54 : decode cX2_init 54 = .ok (.aload_n 0, 1) := by decide +kernel
theorem dX2_init_55 : decode cX2_init 55 = .ok (.getfield 11, 3) := by decide +kernel
theorem dX2_init_58 : decode cX2_init 58 = .ok (.iload_n 1, 1) := by decide +kernel
theorem dX2_init_59 : decode cX2_init 59 = .ok (.new 9, 3) := by decide +kernel
theorem dX2_init_62 : decode cX2_init 62 = .ok (.dup, 1) := by decide +kernel
theorem dX2_init_63 : decode cX2_init 63 = .ok (.invokespecial 20, 3) := by decide +kernel
theorem dX2_init_66 : decode cX2_init 66 = .ok (.aastore, 1) := by decide +kernel
theorem dX2_init_67 : decode cX2_init 67 = .ok (.iinc 1 1, 3) := by decide +kernel
theorem dX2_init_70 : decode cX2_init 70 = .ok (.goto (-21), 3) := by decide +kernel
theorem dX2_init_73 : decode cX2_init 73 = .ok (.iconst 0, 1) := by decide +kernel
theorem dX2_init_74 : decode cX2_init 74 = .ok (.istore_n 1, 1) := by decide +kernel
theorem dX2_init_75 : decode cX2_init 75 = .ok (.iload_n 1, 1) := by decide +kernel
theorem dX2_init_76 : decode cX2_init 76 = .ok (.iconst 3, 1) := by decide +kernel
theorem dX2_init_77 : decode cX2_init 77 = .ok (.if_icmp .ge 22, 3) := by decide +kernel
theorem dX2_init_80 : decode cX2_init 80 = .ok (.aload_n 0, 1) := by decide +kernel
theorem dX2_init_81 : decode cX2_init 81 = .ok (.getfield 17, 3) := by decide +kernel
theorem dX2_init_84 : decode cX2_init 84 = .ok (.iload_n 1, 1) := by decide +kernel
theorem dX2_init_85 : decode cX2_init 85 = .ok (.new 9, 3) := by decide +kernel
theorem dX2_init_88 : decode cX2_init 88 = .ok (.dup, 1) := by decide +kernel
theorem dX2_init_89 : decode cX2_init 89 = .ok (.invokespecial 20, 3) := by decide +kernel
theorem dX2_init_92 : decode cX2_init 92 = .ok (.aastore, 1) := by decide +kernel
theorem dX2_init_93 : decode cX2_init 93 = .ok (.iinc 1 1, 3) := by decide +kernel
theorem dX2_init_96 : decode cX2_init 96 = .ok (.goto (-21), 3) := by decide +kernel
theorem dX2_init_99 : decode cX2_init 99 = .ok (.return_, 1) := by decide +kernel
theorem dX2_forget_0 : decode cX2_forget 0 = .ok (.aload_n 0, 1) := by decide +kernel
theorem dX2_forget_1 : decode cX2_forget 1 = .ok (.iconst 0, 1) := by decide +kernel
theorem dX2_forget_2 : decode cX2_forget 2 = .ok (.putfield 32, 3) := by decide +kernel
theorem dX2_forget_5 : decode cX2_forget 5 = .ok (.return_, 1) := by decide +kernel
theorem dX2_explore_0 : decode cX2_explore 0 = .ok (.aload_n 0, 1) := by decide +kernel
theorem dX2_explore_1 : decode cX2_explore 1 = .ok (.getfield 32, 3) := by decide +kernel
theorem dX2_explore_4 : decode cX2_explore 4 = .ok (.ifCond .eq 15, 3) := by decide +kernel
theorem dX2_explore_7 : decode cX2_explore 7 = .ok (.aload_n 0, 1) := by decide +kernel
theorem dX2_explore_8 : decode cX2_explore 8 = .ok (.getfield 28, 3) := by decide +kernel
theorem dX2_explore_11 : decode cX2_explore 11 = .ok (.aload_n 2, 1) := by decide +kernel
theorem dX2_explore_12 : decode cX2_explore 12 = .ok (.invokevirtual 36, 3) := by decide +kernel
theorem dX2_explore_15 : decode cX2_explore 15 = .ok (.ifCond .eq 4, 3) := by decide +kernel
theorem dX2_explore_18 : decode cX2_explore 18 = .ok (.return_, 1) := by decide +kernel
theorem dX2_explore_19 : decode cX2_explore 19 = .ok (.aload_n 0, 1) := by decide +kernel
theorem dX2_explore_20 : decode cX2_explore 20 = .ok (.getfield 28, 3) := by decide +kernel
theorem dX2_explore_23 : decode cX2_explore 23 = .ok (.aload_n 2, 1) := by decide +kernel
theorem dX2_explore_24 : decode cX2_explore 24 = .ok (.invokevirtual 40, 3) := by decide +kernel
theorem dX2_explore_27 : decode cX2_explore 27 = .ok (.aload_n 0, 1) := by decide +kernel
theorem dX2_explore_28 : decode cX2_explore 28 = .ok (.getfield 11, 3) := by decide +kernel
theorem dX2_explore_31 : decode cX2_explore 31 = .ok (.iconst 0, 1) := by decide +kernel
theorem dX2_explore_32 : decode cX2_explore 32 = .ok (.aaload, 1) := by decide +kernel
theorem dX2_explore_33 : decode cX2_explore 33 = .ok (.invokevirtual 44, 3) := by decide +kernel
theorem dX2_explore_36 : decode cX2_explore 36 = .ok (.aload_n 0, 1) := by decide +kernel
theorem dX2_explore_37 : decode cX2_explore 37 = .ok (.getfield 11, 3) := by decide +kernel
theorem dX2_explore_40 : decode cX2_explore 40 = .ok (.iconst 0, 1) := by decide +kernel
theorem dX2_explore_41 : decode cX2_explore 41 = .ok (.aaload, 1) := by decide +kernel
theorem dX2_explore_42 : decode cX2_explore 42 = .ok (.aload_n 0, 1) := by decide +kernel
theorem dX2_explore_43 : decode cX2_explore 43 = .ok (.getfield 28, 3) := by decide +kernel
theorem dX2_explore_46 : decode cX2_explore 46 = .ok (.getfield 47, 3) := by decide +kernel
theorem dX2_explore_49 : decode cX2_explore 49 = .ok (.iconst 0, 1) := by decide +kernel
theorem dX2_explore_50 : decode cX2_explore 50 = .ok (.iconst 0, 1) := by decide +kernel
theorem dX2_explore_51 : decode cX2_explore 51 = .ok (.invokevirtual 51, 3) := by decide +kernel
theorem dX2_explore_54 : decode cX2_explore 54 = .ok (.aload_n 0, 1) := by decide +kernel
theorem dX2_explore_55 : decode cX2_explore 55 = .ok (.aload_n 1, 1) := by decide +kernel
theorem dX2_explore_56 : decode cX2_explore 56 = .ok (.iconst 0, 1) := by decide +kernel
theorem dX2_explore_57 : decode cX2_explore 57 = .ok (.aload_n 1, 1) := by decide +kernel
theorem dX2_explore_58 : decode cX2_explore 58 = .ok (.getfield 55, 3) := by decide +kernel
theorem dX2_explore_61 : decode cX2_explore 61 = .ok (.iconst 0, 1) := by decide +kernel
theorem dX2_explore_62 : decode cX2_explore 62 = .ok (.invokevirtual 60, 3) := by decide +kernel
theorem dX2_explore_65 : decode cX2_explore 65 = .ok (.aload_n 0, 1) := by decide +kernel
theorem dX2_explore_66 : decode cX2_explore 66 = .ok (.iconst 1, 1) := by decide +kernel
theorem dX2_explore_67 : decode cX2_explore 67 = .ok (.putfield 32, 3) := by decide +kernel
theorem dX2_explore_70 : decode cX2_explore 70 = .ok (.return_, 1) := by decide +kernel
theorem dX2_mostTaken_0 : decode cX2_mostTaken 0 = .ok (.aload_n 0, 1) := by decide +kernel
theorem dX2_mostTaken_1 : decode cX2_mostTaken 1 = .ok (.getfield 11, 3) := by decide +kernel
theorem dX2_mostTaken_4 : decode cX2_mostTaken 4 = .ok (.iconst 0, 1) := by decide +kernel
theorem dX2_mostTaken_5 : decode cX2_mostTaken 5 = .ok (.aaload, 1) := by decide +kernel
theorem dX2_mostTaken_6 : decode cX2_mostTaken 6 = .ok (.invokevirtual 64, 3) := by decide +kernel
theorem dX2_mostTaken_9 : decode cX2_mostTaken 9 = .ok (.ireturn, 1) := by decide +kernel
theorem dX2_leastTaken_0 : decode cX2_leastTaken 0 = .ok (.aload_n 0, 1) := by decide +kernel
theorem dX2_leastTaken_1 : decode cX2_leastTaken 1 = .ok (.getfield 11, 3) := by decide +kernel
theorem dX2_leastTaken_4 : decode cX2_leastTaken 4 = .ok (.iconst 0, 1) := by decide +kernel
theorem dX2_leastTaken_5 : decode cX2_leastTaken 5 = .ok (.aaload, 1) := by decide +kernel
theorem dX2_leastTaken_6 : decode cX2_leastTaken 6 = .ok (.invokevirtual 68, 3) := by decide +kernel
theorem dX2_leastTaken_9 : decode cX2_leastTaken 9 = .ok (.ireturn, 1) := by decide +kernel
theorem dX2_rowsAtEnd_0 : decode cX2_rowsAtEnd 0 = .ok (.aload_n 0, 1) := by decide +kernel
theorem dX2_rowsAtEnd_1 : decode cX2_rowsAtEnd 1 = .ok (.getfield 11, 3) := by decide +kernel
theorem dX2_rowsAtEnd_4 : decode cX2_rowsAtEnd 4 = .ok (.iconst 0, 1) := by decide +kernel
theorem dX2_rowsAtEnd_5 : decode cX2_rowsAtEnd 5 = .ok (.aaload, 1) := by decide +kernel
theorem dX2_rowsAtEnd_6 : decode cX2_rowsAtEnd 6 = .ok (.getfield 71, 3) := by decide +kernel
theorem dX2_rowsAtEnd_9 : decode cX2_rowsAtEnd 9 = .ok (.ireturn, 1) := by decide +kernel
theorem dX2_exploreRow_0 : decode cX2_exploreRow 0 = .ok (.iload 4, 2) := by decide +kernel
theorem dX2_exploreRow_2 : decode cX2_exploreRow 2 = .ok (.iconst 0, 1) := by decide +kernel
theorem dX2_exploreRow_3 : decode cX2_exploreRow 3 = .ok (.iconst 3, 1) := by decide +kernel
theorem dX2_exploreRow_4 : decode cX2_exploreRow 4 = .ok (.invokestatic 72, 3) := by decide +kernel
theorem dX2_exploreRow_7 : decode cX2_exploreRow 7 = .ok (.ifCond .ne 4, 3) := by decide +kernel
theorem dX2_exploreRow_10 : decode cX2_exploreRow 10 = .ok (.return_, 1) := by decide +kernel
theorem dX2_exploreRow_11 : decode cX2_exploreRow 11 = .ok (.iload_n 2, 1) := by decide +kernel
theorem dX2_exploreRow_12 : decode cX2_exploreRow 12 = .ok (.istore 5, 2) := by decide +kernel
theorem dX2_exploreRow_14 : decode cX2_exploreRow 14 = .ok (.iload 5, 2) := by decide +kernel
theorem dX2_exploreRow_16 : decode cX2_exploreRow 16 = .ok (.iload_n 3, 1) := by decide +kernel
theorem dX2_exploreRow_17 : decode cX2_exploreRow 17 = .ok (.if_icmp .ge 130, 3) := by decide +kernel
theorem dX2_exploreRow_20 : decode cX2_exploreRow 20 = .ok (.aload_n 1, 1) := by decide +kernel
theorem dX2_exploreRow_21 : decode cX2_exploreRow 21 = .ok (.iload 5, 2) := by decide +kernel
theorem dX2_exploreRow_23 : decode cX2_exploreRow 23 = .ok (.invokevirtual 76, 3) := by decide +kernel
theorem dX2_exploreRow_26 : decode cX2_exploreRow 26 = .ok (.istore 6, 2) := by decide +kernel
theorem dX2_exploreRow_28 : decode cX2_exploreRow 28 = .ok (.iload 6, 2) := by decide +kernel
theorem dX2_exploreRow_30 : decode cX2_exploreRow 30 = .ok (.ifCond .ne 55, 3) := by decide +kernel
theorem dX2_exploreRow_33 : decode cX2_exploreRow 33 = .ok (.aload_n 0, 1) := by decide +kernel
theorem dX2_exploreRow_34 : decode cX2_exploreRow 34 = .ok (.getfield 11, 3) := by decide +kernel
theorem dX2_exploreRow_37 : decode cX2_exploreRow 37 = .ok (.iload 4, 2) := by decide +kernel
theorem dX2_exploreRow_39 : decode cX2_exploreRow 39 = .ok (.aaload, 1) := by decide +kernel
theorem dX2_exploreRow_40 : decode cX2_exploreRow 40 = .ok (.astore 7, 2) := by decide +kernel
theorem dX2_exploreRow_42 : decode cX2_exploreRow 42 = .ok (.aload_n 0, 1) := by decide +kernel
theorem dX2_exploreRow_43 : decode cX2_exploreRow 43 = .ok (.getfield 21, 3) := by decide +kernel
theorem dX2_exploreRow_46 : decode cX2_exploreRow 46 = .ok (.aload 7, 2) := by decide +kernel
theorem dX2_exploreRow_48 : decode cX2_exploreRow 48 = .ok (.aload_n 1, 1) := by decide +kernel
theorem dX2_exploreRow_49 : decode cX2_exploreRow 49 = .ok (.aload_n 1, 1) := by decide +kernel
theorem dX2_exploreRow_50 : decode cX2_exploreRow 50 = .ok (.iload 5, 2) := by decide +kernel
theorem dX2_exploreRow_52 : decode cX2_exploreRow 52 = .ok (.invokevirtual 80, 3) := by decide +kernel
theorem dX2_exploreRow_55 : decode cX2_exploreRow 55 = .ok (.invokevirtual 83, 3) := by decide +kernel
theorem dX2_exploreRow_58 : decode cX2_exploreRow 58 = .ok (.aload_n 0, 1) := by decide +kernel
theorem dX2_exploreRow_59 : decode cX2_exploreRow 59 = .ok (.getfield 28, 3) := by decide +kernel
theorem dX2_exploreRow_62 : decode cX2_exploreRow 62 = .ok (.invokevirtual 86, 3) := by decide +kernel
theorem dX2_exploreRow_65 : decode cX2_exploreRow 65 = .ok (.aload_n 0, 1) := by decide +kernel
theorem dX2_exploreRow_66 : decode cX2_exploreRow 66 = .ok (.getfield 11, 3) := by decide +kernel
theorem dX2_exploreRow_69 : decode cX2_exploreRow 69 = .ok (.iload 4, 2) := by decide +kernel
theorem dX2_exploreRow_71 : decode cX2_exploreRow 71 = .ok (.aload_n 0, 1) := by decide +kernel
theorem dX2_exploreRow_72 : decode cX2_exploreRow 72 = .ok (.getfield 21, 3) := by decide +kernel
theorem dX2_exploreRow_75 : decode cX2_exploreRow 75 = .ok (.aastore, 1) := by decide +kernel
theorem dX2_exploreRow_76 : decode cX2_exploreRow 76 = .ok (.aload_n 0, 1) := by decide +kernel
theorem dX2_exploreRow_77 : decode cX2_exploreRow 77 = .ok (.aload 7, 2) := by decide +kernel
theorem dX2_exploreRow_79 : decode cX2_exploreRow 79 = .ok (.putfield 21, 3) := by decide +kernel
theorem dX2_exploreRow_82 : decode cX2_exploreRow 82 = .ok (.goto 59, 3) := by decide +kernel
theorem dX2_exploreRow_85 : decode cX2_exploreRow 85 = .ok (.iload 6, 2) := by decide +kernel
theorem dX2_exploreRow_87 : decode cX2_exploreRow 87 = .ok (.iconst 1, 1) := by decide +kernel
theorem dX2_exploreRow_88 : decode cX2_exploreRow 88 = .ok (.if_icmp .ne 16, 3) := by decide +kernel
theorem dX2_exploreRow_91 : decode cX2_exploreRow 91 = .ok (.aload_n 0, 1) := by decide +kernel
theorem dX2_exploreRow_92 : decode cX2_exploreRow 92 = .ok (.getfield 11, 3) := by decide +kernel
theorem dX2_exploreRow_95 : decode cX2_exploreRow 95 = .ok (.iload 4, 2) := by decide +kernel
theorem dX2_exploreRow_97 : decode cX2_exploreRow 97 = .ok (.aaload, 1) := by decide +kernel
theorem dX2_exploreRow_98 : decode cX2_exploreRow 98 = .ok (.invokevirtual 90, 3) := by decide +kernel
theorem dX2_exploreRow_101 : decode cX2_exploreRow 101 = .ok (.goto 40, 3) := by decide +kernel
theorem dX2_exploreRow_104 : decode cX2_exploreRow 104 = .ok (.iload 6, 2) := by decide +kernel
theorem dX2_exploreRow_106 : decode cX2_exploreRow 106 = .ok (.iconst 2, 1) := by decide +kernel
theorem dX2_exploreRow_107 : decode cX2_exploreRow 107 = .ok (.if_icmp .ne 17, 3) := by decide +kernel
theorem dX2_exploreRow_110 : decode cX2_exploreRow 110 = .ok (.aload_n 0, 1) := by decide +kernel
theorem dX2_exploreRow_111 : decode cX2_exploreRow 111 = .ok (.aload_n 1, 1) := by decide +kernel
theorem dX2_exploreRow_112 : decode cX2_exploreRow 112 = .ok (.iload 5, 2) := by decide +kernel
theorem dX2_exploreRow_114 : decode cX2_exploreRow 114 = .ok (.iload 4, 2) := by decide +kernel
theorem dX2_exploreRow_116 : decode cX2_exploreRow 116 = .ok (.invokevirtual 93, 3) := by decide +kernel
theorem dX2_exploreRow_119 : decode cX2_exploreRow 119 = .ok (.istore 5, 2) := by decide +kernel
theorem dX2_exploreRow_121 : decode cX2_exploreRow 121 = .ok (.goto 20, 3) := by decide +kernel
theorem dX2_exploreRow_124 : decode cX2_exploreRow 124 = .ok (.iload 6, 2) := by decide +kernel
theorem dX2_exploreRow_126 : decode cX2_exploreRow 126 = .ok (.iconst 5, 1) := by decide +kernel
theorem dX2_exploreRow_127 : decode cX2_exploreRow 127 = .ok (.if_icmp .ne 14, 3) := by decide +kernel
theorem dX2_exploreRow_130 : decode cX2_exploreRow 130 = .ok (.aload_n 0, 1) := by decide +kernel
theorem dX2_exploreRow_131 : decode cX2_exploreRow 131 = .ok (.aload_n 1, 1) := by decide +kernel
theorem dX2_exploreRow_132 : decode cX2_exploreRow 132 = .ok (.iload 5, 2) := by decide +kernel
theorem dX2_exploreRow_134 : decode cX2_exploreRow 134 = .ok (.iload 4, 2) := by decide +kernel
theorem dX2_exploreRow_136 : decode cX2_exploreRow 136 = .ok (.invokevirtual 97, 3) := by decide +kernel
theorem dX2_exploreRow_139 : decode cX2_exploreRow 139 = .ok (.istore 5, 2) := by decide +kernel
theorem dX2_exploreRow_141 : decode cX2_exploreRow 141 = .ok (.iinc 5 1, 3) := by decide +kernel
theorem dX2_exploreRow_144 : decode cX2_exploreRow 144 = .ok (.goto (-130), 3) := by decide +kernel
theorem dX2_exploreRow_147 : decode cX2_exploreRow 147 = .ok (.return_, 1) := by decide +kernel
theorem dX2_exploreChoice_0 : decode cX2_exploreChoice 0 = .ok (.aload_n 1, 1) := by decide +kernel
theorem dX2_exploreChoice_1 : decode cX2_exploreChoice 1 = .ok (.iload_n 2, 1) := by decide +kernel
theorem dX2_exploreChoice_2 : decode cX2_exploreChoice 2 = .ok (.invokevirtual 100, 3) := by decide +kernel
theorem dX2_exploreChoice_5 : decode cX2_exploreChoice 5 = .ok (.istore 4, 2) := by decide +kernel
theorem dX2_exploreChoice_7 : decode cX2_exploreChoice 7 = .ok (.aload_n 1, 1) := by decide +kernel
theorem dX2_exploreChoice_8 : decode cX2_exploreChoice 8 = .ok (.iload 4, 2) := by decide +kernel
theorem dX2_exploreChoice_10 : decode cX2_exploreChoice 10 = .ok (.invokevirtual 100, 3) := by decide +kernel
theorem dX2_exploreChoice_13 : decode cX2_exploreChoice 13 = .ok (.istore 5, 2) := by decide +kernel
theorem dX2_exploreChoice_15 : decode cX2_exploreChoice 15 = .ok (.iload_n 3, 1) := by decide +kernel
theorem dX2_exploreChoice_16 : decode cX2_exploreChoice 16 = .ok (.iconst 0, 1) := by decide +kernel
theorem dX2_exploreChoice_17 : decode cX2_exploreChoice 17 = .ok (.iconst 2, 1) := by decide +kernel
theorem dX2_exploreChoice_18 : decode cX2_exploreChoice 18 = .ok (.invokestatic 72, 3) := by decide +kernel
theorem dX2_exploreChoice_21 : decode cX2_exploreChoice 21 = .ok (.ifCond .eq 113, 3) := by decide +kernel
theorem dX2_exploreChoice_24 : decode cX2_exploreChoice 24 = .ok (.aload_n 0, 1) := by decide +kernel
theorem dX2_exploreChoice_25 : decode cX2_exploreChoice 25 = .ok (.getfield 17, 3) := by decide +kernel
theorem dX2_exploreChoice_28 : decode cX2_exploreChoice 28 = .ok (.iload_n 3, 1) := by decide +kernel
theorem dX2_exploreChoice_29 : decode cX2_exploreChoice 29 = .ok (.aaload, 1) := by decide +kernel
theorem dX2_exploreChoice_30 : decode cX2_exploreChoice 30 = .ok (.aload_n 0, 1) := by decide +kernel
theorem dX2_exploreChoice_31 : decode cX2_exploreChoice 31 = .ok (.getfield 11, 3) := by decide +kernel
theorem dX2_exploreChoice_34 : decode cX2_exploreChoice 34 = .ok (.iload_n 3, 1) := by decide +kernel
theorem dX2_exploreChoice_35 : decode cX2_exploreChoice 35 = .ok (.aaload, 1) := by decide +kernel
theorem dX2_exploreChoice_36 : decode cX2_exploreChoice 36 = .ok (.invokevirtual 103, 3) := by decide +kernel
theorem dX2_exploreChoice_39 : decode cX2_exploreChoice 39 = .ok (.aload_n 0, 1) := by decide +kernel
theorem dX2_exploreChoice_40 : decode cX2_exploreChoice 40 = .ok (.getfield 11, 3) := by decide +kernel
theorem dX2_exploreChoice_43 : decode cX2_exploreChoice 43 = .ok (.iload_n 3, 1) := by decide +kernel
theorem dX2_exploreChoice_44 : decode cX2_exploreChoice 44 = .ok (.iconst 1, 1) := by decide +kernel
theorem dX2_exploreChoice_45 : decode cX2_exploreChoice 45 = .ok (.iadd, 1) := by decide +kernel
theorem dX2_exploreChoice_46 : decode cX2_exploreChoice 46 = .ok (.aaload, 1) := by decide +kernel
theorem dX2_exploreChoice_47 : decode cX2_exploreChoice 47 = .ok (.aload_n 0, 1) := by decide +kernel
theorem dX2_exploreChoice_48 : decode cX2_exploreChoice 48 = .ok (.getfield 17, 3) := by decide +kernel
theorem dX2_exploreChoice_51 : decode cX2_exploreChoice 51 = .ok (.iload_n 3, 1) := by decide +kernel
theorem dX2_exploreChoice_52 : decode cX2_exploreChoice 52 = .ok (.aaload, 1) := by decide +kernel
theorem dX2_exploreChoice_53 : decode cX2_exploreChoice 53 = .ok (.invokevirtual 103, 3) := by decide +kernel
theorem dX2_exploreChoice_56 : decode cX2_exploreChoice 56 = .ok (.aload_n 0, 1) := by decide +kernel
theorem dX2_exploreChoice_57 : decode cX2_exploreChoice 57 = .ok (.aload_n 1, 1) := by decide +kernel
theorem dX2_exploreChoice_58 : decode cX2_exploreChoice 58 = .ok (.iload_n 2, 1) := by decide +kernel
theorem dX2_exploreChoice_59 : decode cX2_exploreChoice 59 = .ok (.iconst 1, 1) := by decide +kernel
theorem dX2_exploreChoice_60 : decode cX2_exploreChoice 60 = .ok (.iadd, 1) := by decide +kernel
theorem dX2_exploreChoice_61 : decode cX2_exploreChoice 61 = .ok (.iload 4, 2) := by decide +kernel
theorem dX2_exploreChoice_63 : decode cX2_exploreChoice 63 = .ok (.iload_n 3, 1) := by decide +kernel
theorem dX2_exploreChoice_64 : decode cX2_exploreChoice 64 = .ok (.iconst 1, 1) := by decide +kernel
theorem dX2_exploreChoice_65 : decode cX2_exploreChoice 65 = .ok (.iadd, 1) := by decide +kernel
theorem dX2_exploreChoice_66 : decode cX2_exploreChoice 66 = .ok (.invokevirtual 60, 3) := by decide +kernel
theorem dX2_exploreChoice_69 : decode cX2_exploreChoice 69 = .ok (.aload_n 0, 1) := by decide +kernel
theorem dX2_exploreChoice_70 : decode cX2_exploreChoice 70 = .ok (.getfield 11, 3) := by decide +kernel
theorem dX2_exploreChoice_73 : decode cX2_exploreChoice 73 = .ok (.iload_n 3, 1) := by decide +kernel
theorem dX2_exploreChoice_74 : decode cX2_exploreChoice 74 = .ok (.aaload, 1) := by decide +kernel
theorem dX2_exploreChoice_75 : decode cX2_exploreChoice 75 = .ok (.aload_n 0, 1) := by decide +kernel
theorem dX2_exploreChoice_76 : decode cX2_exploreChoice 76 = .ok (.getfield 11, 3) := by decide +kernel
theorem dX2_exploreChoice_79 : decode cX2_exploreChoice 79 = .ok (.iload_n 3, 1) := by decide +kernel
theorem dX2_exploreChoice_80 : decode cX2_exploreChoice 80 = .ok (.iconst 1, 1) := by decide +kernel
theorem dX2_exploreChoice_81 : decode cX2_exploreChoice 81 = .ok (.iadd, 1) := by decide +kernel
theorem dX2_exploreChoice_82 : decode cX2_exploreChoice 82 = .ok (.aaload, 1) := by decide +kernel
theorem dX2_exploreChoice_83 : decode cX2_exploreChoice 83 = .ok (.invokevirtual 103, 3) := by decide +kernel
theorem dX2_exploreChoice_86 : decode cX2_exploreChoice 86 = .ok (.aload_n 0, 1) := by decide +kernel
theorem dX2_exploreChoice_87 : decode cX2_exploreChoice 87 = .ok (.getfield 11, 3) := by decide +kernel
theorem dX2_exploreChoice_90 : decode cX2_exploreChoice 90 = .ok (.iload_n 3, 1) := by decide +kernel
theorem dX2_exploreChoice_91 : decode cX2_exploreChoice 91 = .ok (.iconst 1, 1) := by decide +kernel
theorem dX2_exploreChoice_92 : decode cX2_exploreChoice 92 = .ok (.iadd, 1) := by decide +kernel
theorem dX2_exploreChoice_93 : decode cX2_exploreChoice 93 = .ok (.aaload, 1) := by decide +kernel
theorem dX2_exploreChoice_94 : decode cX2_exploreChoice 94 = .ok (.aload_n 0, 1) := by decide +kernel
theorem dX2_exploreChoice_95 : decode cX2_exploreChoice 95 = .ok (.getfield 17, 3) := by decide +kernel
theorem dX2_exploreChoice_98 : decode cX2_exploreChoice 98 = .ok (.iload_n 3, 1) := by decide +kernel
theorem dX2_exploreChoice_99 : decode cX2_exploreChoice 99 = .ok (.aaload, 1) := by decide +kernel
theorem dX2_exploreChoice_100 : decode cX2_exploreChoice 100 = .ok (.invokevirtual 103, 3) := by decide +kernel
theorem dX2_exploreChoice_103 : decode cX2_exploreChoice 103 = .ok (.aload_n 0, 1) := by decide +kernel
theorem dX2_exploreChoice_104 : decode cX2_exploreChoice 104 = .ok (.aload_n 1, 1) := by decide +kernel
theorem dX2_exploreChoice_105 : decode cX2_exploreChoice 105 = .ok (.iload 4, 2) := by decide +kernel
theorem dX2_exploreChoice_107 : decode cX2_exploreChoice 107 = .ok (.iconst 1, 1) := by decide +kernel
theorem dX2_exploreChoice_108 : decode cX2_exploreChoice 108 = .ok (.iadd, 1) := by decide +kernel
theorem dX2_exploreChoice_109 : decode cX2_exploreChoice 109 = .ok (.iload 5, 2) := by decide +kernel
theorem dX2_exploreChoice_111 : decode cX2_exploreChoice 111 = .ok (.iload_n 3, 1) := by decide +kernel
theorem dX2_exploreChoice_112 : decode cX2_exploreChoice 112 = .ok (.iconst 1, 1) := by decide +kernel
theorem dX2_exploreChoice_113 : decode cX2_exploreChoice 113 = .ok (.iadd, 1) := by decide +kernel
theorem dX2_exploreChoice_114 : decode cX2_exploreChoice 114 = .ok (.invokevirtual 60, 3) := by decide +kernel
theorem dX2_exploreChoice_117 : decode cX2_exploreChoice 117 = .ok (.aload_n 0, 1) := by decide +kernel
theorem dX2_exploreChoice_118 : decode cX2_exploreChoice 118 = .ok (.getfield 11, 3) := by decide +kernel
theorem dX2_exploreChoice_121 : decode cX2_exploreChoice 121 = .ok (.iload_n 3, 1) := by decide +kernel
theorem dX2_exploreChoice_122 : decode cX2_exploreChoice 122 = .ok (.aaload, 1) := by decide +kernel
theorem dX2_exploreChoice_123 : decode cX2_exploreChoice 123 = .ok (.aload_n 0, 1) := by decide +kernel
theorem dX2_exploreChoice_124 : decode cX2_exploreChoice 124 = .ok (.getfield 11, 3) := by decide +kernel
theorem dX2_exploreChoice_127 : decode cX2_exploreChoice 127 = .ok (.iload_n 3, 1) := by decide +kernel
theorem dX2_exploreChoice_128 : decode cX2_exploreChoice 128 = .ok (.iconst 1, 1) := by decide +kernel
theorem dX2_exploreChoice_129 : decode cX2_exploreChoice 129 = .ok (.iadd, 1) := by decide +kernel
theorem dX2_exploreChoice_130 : decode cX2_exploreChoice 130 = .ok (.aaload, 1) := by decide +kernel
theorem dX2_exploreChoice_131 : decode cX2_exploreChoice 131 = .ok (.invokevirtual 106, 3) := by decide +kernel
theorem dX2_exploreChoice_134 : decode cX2_exploreChoice 134 = .ok (.iload 5, 2) := by decide +kernel
theorem dX2_exploreChoice_136 : decode cX2_exploreChoice 136 = .ok (.ireturn, 1) := by decide +kernel
theorem dX2_exploreLoop_0 : decode cX2_exploreLoop 0 = .ok (.aload_n 1, 1) := by decide +kernel
theorem dX2_exploreLoop_1 : decode cX2_exploreLoop 1 = .ok (.iload_n 2, 1) := by decide +kernel
theorem dX2_exploreLoop_2 : decode cX2_exploreLoop 2 = .ok (.invokevirtual 100, 3) := by decide +kernel
theorem dX2_exploreLoop_5 : decode cX2_exploreLoop 5 = .ok (.istore 4, 2) := by decide +kernel
theorem dX2_exploreLoop_7 : decode cX2_exploreLoop 7 = .ok (.iload_n 3, 1) := by decide +kernel
theorem dX2_exploreLoop_8 : decode cX2_exploreLoop 8 = .ok (.iconst 0, 1) := by decide +kernel
theorem dX2_exploreLoop_9 : decode cX2_exploreLoop 9 = .ok (.iconst 2, 1) := by decide +kernel
theorem dX2_exploreLoop_10 : decode cX2_exploreLoop 10 = .ok (.invokestatic 72, 3) := by decide +kernel
theorem dX2_exploreLoop_13 : decode cX2_exploreLoop 13 = .ok (.ifCond .eq 73, 3) := by decide +kernel
theorem dX2_exploreLoop_16 : decode cX2_exploreLoop 16 = .ok (.aload_n 1, 1) := by decide +kernel
theorem dX2_exploreLoop_17 : decode cX2_exploreLoop 17 = .ok (.iload_n 2, 1) := by decide +kernel
theorem dX2_exploreLoop_18 : decode cX2_exploreLoop 18 = .ok (.invokevirtual 80, 3) := by decide +kernel
theorem dX2_exploreLoop_21 : decode cX2_exploreLoop 21 = .ok (.istore 5, 2) := by decide +kernel
theorem dX2_exploreLoop_23 : decode cX2_exploreLoop 23 = .ok (.aload_n 0, 1) := by decide +kernel
theorem dX2_exploreLoop_24 : decode cX2_exploreLoop 24 = .ok (.getfield 11, 3) := by decide +kernel
theorem dX2_exploreLoop_27 : decode cX2_exploreLoop 27 = .ok (.iload_n 3, 1) := by decide +kernel
theorem dX2_exploreLoop_28 : decode cX2_exploreLoop 28 = .ok (.iconst 1, 1) := by decide +kernel
theorem dX2_exploreLoop_29 : decode cX2_exploreLoop 29 = .ok (.iadd, 1) := by decide +kernel
theorem dX2_exploreLoop_30 : decode cX2_exploreLoop 30 = .ok (.aaload, 1) := by decide +kernel
theorem dX2_exploreLoop_31 : decode cX2_exploreLoop 31 = .ok (.aload_n 0, 1) := by decide +kernel
theorem dX2_exploreLoop_32 : decode cX2_exploreLoop 32 = .ok (.getfield 11, 3) := by decide +kernel
theorem dX2_exploreLoop_35 : decode cX2_exploreLoop 35 = .ok (.iload_n 3, 1) := by decide +kernel
theorem dX2_exploreLoop_36 : decode cX2_exploreLoop 36 = .ok (.aaload, 1) := by decide +kernel
theorem dX2_exploreLoop_37 : decode cX2_exploreLoop 37 = .ok (.invokevirtual 103, 3) := by decide +kernel
theorem dX2_exploreLoop_40 : decode cX2_exploreLoop 40 = .ok (.iconst 0, 1) := by decide +kernel
theorem dX2_exploreLoop_41 : decode cX2_exploreLoop 41 = .ok (.istore 6, 2) := by decide +kernel
theorem dX2_exploreLoop_43 : decode cX2_exploreLoop 43 = .ok (.iload 6, 2) := by decide +kernel
theorem dX2_exploreLoop_45 : decode cX2_exploreLoop 45 = .ok (.iload 5, 2) := by decide +kernel
theorem dX2_exploreLoop_47 : decode cX2_exploreLoop 47 = .ok (.if_icmp .ge 39, 3) := by decide +kernel
theorem dX2_exploreLoop_50 : decode cX2_exploreLoop 50 = .ok (.aload_n 0, 1) := by decide +kernel
theorem dX2_exploreLoop_51 : decode cX2_exploreLoop 51 = .ok (.aload_n 1, 1) := by decide +kernel
theorem dX2_exploreLoop_52 : decode cX2_exploreLoop 52 = .ok (.iload_n 2, 1) := by decide +kernel
theorem dX2_exploreLoop_53 : decode cX2_exploreLoop 53 = .ok (.iconst 1, 1) := by decide +kernel
theorem dX2_exploreLoop_54 : decode cX2_exploreLoop 54 = .ok (.iadd, 1) := by decide +kernel
theorem dX2_exploreLoop_55 : decode cX2_exploreLoop 55 = .ok (.iload 4, 2) := by decide +kernel
theorem dX2_exploreLoop_57 : decode cX2_exploreLoop 57 = .ok (.iload_n 3, 1) := by decide +kernel
theorem dX2_exploreLoop_58 : decode cX2_exploreLoop 58 = .ok (.iconst 1, 1) := by decide +kernel
theorem dX2_exploreLoop_59 : decode cX2_exploreLoop 59 = .ok (.iadd, 1) := by decide +kernel
theorem dX2_exploreLoop_60 : decode cX2_exploreLoop 60 = .ok (.invokevirtual 60, 3) := by decide +kernel
theorem dX2_exploreLoop_63 : decode cX2_exploreLoop 63 = .ok (.aload_n 0, 1) := by decide +kernel
theorem dX2_exploreLoop_64 : decode cX2_exploreLoop 64 = .ok (.getfield 11, 3) := by decide +kernel
theorem dX2_exploreLoop_67 : decode cX2_exploreLoop 67 = .ok (.iload_n 3, 1) := by decide +kernel
theorem dX2_exploreLoop_68 : decode cX2_exploreLoop 68 = .ok (.aaload, 1) := by decide +kernel
theorem dX2_exploreLoop_69 : decode cX2_exploreLoop 69 = .ok (.aload_n 0, 1) := by decide +kernel
theorem dX2_exploreLoop_70 : decode cX2_exploreLoop 70 = .ok (.getfield 11, 3) := by decide +kernel
theorem dX2_exploreLoop_73 : decode cX2_exploreLoop 73 = .ok (.iload_n 3, 1) := by decide +kernel
theorem dX2_exploreLoop_74 : decode cX2_exploreLoop 74 = .ok (.iconst 1, 1) := by decide +kernel
theorem dX2_exploreLoop_75 : decode cX2_exploreLoop 75 = .ok (.iadd, 1) := by decide +kernel
theorem dX2_exploreLoop_76 : decode cX2_exploreLoop 76 = .ok (.aaload, 1) := by decide +kernel
theorem dX2_exploreLoop_77 : decode cX2_exploreLoop 77 = .ok (.invokevirtual 106, 3) := by decide +kernel
theorem dX2_exploreLoop_80 : decode cX2_exploreLoop 80 = .ok (.iinc 6 1, 3) := by decide +kernel
theorem dX2_exploreLoop_83 : decode cX2_exploreLoop 83 = .ok (.goto (-40), 3) := by decide +kernel
theorem dX2_exploreLoop_86 : decode cX2_exploreLoop 86 = .ok (.iload 4, 2) := by decide +kernel
theorem dX2_exploreLoop_88 : decode cX2_exploreLoop 88 = .ok (.ireturn, 1) := by decide +kernel
theorem dX3_init_0 : decode cX3_init 0 = .ok (.aload_n 0, 1) := by decide +kernel
theorem dX3_init_1 : decode cX3_init 1 = .ok (.invokespecial 3, 3) := by decide +kernel
theorem dX3_init_4 : decode cX3_init 4 = .ok (.aload_n 0, 1) := by decide +kernel
theorem dX3_init_5 : decode cX3_init 5 = .ok (.bipush 24, 2) := by decide +kernel
theorem dX3_init_7 : decode cX3_init 7 = .ok (.newarray .int, 2) := by decide +kernel
theorem dX3_init_9 : decode cX3_init 9 = .ok (.putfield 9, 3) := by decide +kernel
theorem dX3_init_12 : decode cX3_init 12 = .ok (.aload_n 0, 1) := by decide +kernel
theorem dX3_init_13 : decode cX3_init 13 = .ok (.bipush 24, 2) := by decide +kernel
theorem dX3_init_15 : decode cX3_init 15 = .ok (.newarray .int, 2) := by decide +kernel
theorem dX3_init_17 : decode cX3_init 17 = .ok (.putfield 15, 3) := by decide +kernel
theorem dX3_init_20 : decode cX3_init 20 = .ok (.aload_n 0, 1) := by decide +kernel
theorem dX3_init_21 : decode cX3_init 21 = .ok (.iconst 4, 1) := by decide +kernel
theorem dX3_init_22 : decode cX3_init 22 = .ok (.anewarray 18, 3) := by decide +kernel
theorem dX3_init_25 : decode cX3_init 25 = .ok (.putfield 20, 3) := by decide +kernel
theorem dX3_init_28 : decode cX3_init 28 = .ok (.aload_n 0, 1) := by decide +kernel
theorem dX3_init_29 : decode cX3_init 29 = .ok (.iconst 3, 1) := by decide +kernel
theorem dX3_init_30 : decode cX3_init 30 = .ok (.anewarray 18, 3) := by decide +kernel
theorem dX3_init_33 : decode cX3_init 33 = .ok (.putfield 24, 3) := by decide +kernel
theorem dX3_init_36 : decode cX3_init 36 = .ok (.aload_n 0, 1) := by decide +kernel
theorem dX3_init_37 : decode cX3_init 37 = .ok (.iconst 0, 1) := by decide +kernel
theorem dX3_init_38 : decode cX3_init 38 = .ok (.putfield 27, 3) := by decide +kernel
theorem dX3_init_41 : decode cX3_init 41 = .ok (.aload_n 0, 1) := by decide +kernel
theorem dX3_init_42 : decode cX3_init 42 = .ok (.iconst 0, 1) := by decide +kernel
theorem dX3_init_43 : decode cX3_init 43 = .ok (.putfield 31, 3) := by decide +kernel
theorem dX3_init_46 : decode cX3_init 46 = .ok (.iconst 0, 1) := by decide +kernel
theorem dX3_init_47 : decode cX3_init 47 = .ok (.istore_n 1, 1) := by decide +kernel
theorem dX3_init_48 : decode cX3_init 48 = .ok (.iload_n 1, 1) := by decide +kernel
theorem dX3_init_49 : decode cX3_init 49 = .ok (.iconst 3, 1) := by decide +kernel
theorem dX3_init_50 : decode cX3_init 50 = .ok (.if_icmp .gt 22, 3) := by decide +kernel
theorem dX3_init_53 : decode cX3_init 53 = .ok (.aload_n 0, 1) := by decide +kernel
theorem dX3_init_54 : decode cX3_init 54 = .ok (.getfield 20, 3) := by decide +kernel
theorem dX3_init_57 : decode cX3_init 57 = .ok (.iload_n 1, 1) := by decide +kernel
theorem dX3_init_58 : decode cX3_init 58 = .ok (.new 18, 3) := by decide +kernel
theorem dX3_init_61 : decode cX3_init 61 = .ok (.dup, 1) := by decide +kernel
theorem dX3_init_62 : decode cX3_init 62 = .ok (.invokespecial 35, 3) := by decide +kernel
theorem dX3_init_65 : decode cX3_init 65 = .ok (.aastore, 1) := by decide +kernel
theorem dX3_init_66 : decode cX3_init 66 = .ok (.iinc 1 1, 3) := by decide +kernel
theorem dX3_init_69 : decode cX3_init 69 = .ok (.goto (-21), 3) := by decide +kernel
theorem dX3_init_72 : decode cX3_init 72 = .ok (.iconst 0, 1) := by decide +kernel
theorem dX3_init_73 : decode cX3_init 73 = .ok (.istore_n 1, 1) := by decide +kernel
theorem dX3_init_74 : decode cX3_init 74 = .ok (.iload_n 1, 1) := by decide +kernel
theorem dX3_init_75 : decode cX3_init 75 = .ok (.iconst 3, 1) := by decide +kernel
theorem dX3_init_76 : decode cX3_init 76 = .ok (.if_icmp .ge 22, 3) := by decide +kernel
theorem dX3_init_79 : decode cX3_init 79 = .ok (.aload_n 0, 1) := by decide +kernel
theorem dX3_init_80 : decode cX3_init 80 = .ok (.getfield 24, 3) := by decide +kernel
theorem dX3_init_83 : decode cX3_init 83 = .ok (.iload_n 1, 1) := by decide +kernel
theorem dX3_init_84 : decode cX3_init 84 = .ok (.new 18, 3) := by decide +kernel
theorem dX3_init_87 : decode cX3_init 87 = .ok (.dup, 1) := by decide +kernel
theorem dX3_init_88 : decode cX3_init 88 = .ok (.invokespecial 35, 3) := by decide +kernel
theorem dX3_init_91 : decode cX3_init 91 = .ok (.aastore, 1) := by decide +kernel
theorem dX3_init_92 : decode cX3_init 92 = .ok (.iinc 1 1, 3) := by decide +kernel
theorem dX3_init_95 : decode cX3_init 95 = .ok (.goto (-21), 3) := by decide +kernel
theorem dX3_init_98 : decode cX3_init 98 = .ok (.return_, 1) := by decide +kernel
theorem dX3_forget_0 : decode cX3_forget 0 = .ok (.aload_n 0, 1) := by decide +kernel
theorem dX3_forget_1 : decode cX3_forget 1 = .ok (.iconst 0, 1) := by decide +kernel
theorem dX3_forget_2 : decode cX3_forget 2 = .ok (.putfield 31, 3) := by decide +kernel
theorem dX3_forget_5 : decode cX3_forget 5 = .ok (.return_, 1) := by decide +kernel
theorem dX3_follow_0 : decode cX3_follow 0 = .ok (.aload_n 0, 1) := by decide +kernel
theorem dX3_follow_1 : decode cX3_follow 1 = .ok (.getfield 31, 3) := by decide +kernel
theorem dX3_follow_4 : decode cX3_follow 4 = .ok (.ifCond .eq 12, 3) := by decide +kernel
theorem dX3_follow_7 : decode cX3_follow 7 = .ok (.aload_n 0, 1) := by decide +kernel
theorem dX3_follow_8 : decode cX3_follow 8 = .ok (.getfield 27, 3) := by decide +kernel
theorem dX3_follow_11 : decode cX3_follow 11 = .ok (.iload_n 2, 1) := by decide +kernel
theorem dX3_follow_12 : decode cX3_follow 12 = .ok (.if_icmp .ne 4, 3) := by decide +kernel
theorem dX3_follow_15 : decode cX3_follow 15 = .ok (.return_, 1) := by decide +kernel
theorem dX3_follow_16 : decode cX3_follow 16 = .ok (.aload_n 0, 1) := by decide +kernel
theorem dX3_follow_17 : decode cX3_follow 17 = .ok (.iload_n 2, 1) := by decide +kernel
theorem dX3_follow_18 : decode cX3_follow 18 = .ok (.putfield 27, 3) := by decide +kernel
theorem dX3_follow_21 : decode cX3_follow 21 = .ok (.aload_n 0, 1) := by decide +kernel
theorem dX3_follow_22 : decode cX3_follow 22 = .ok (.getfield 20, 3) := by decide +kernel
theorem dX3_follow_25 : decode cX3_follow 25 = .ok (.iconst 0, 1) := by decide +kernel
theorem dX3_follow_26 : decode cX3_follow 26 = .ok (.aaload, 1) := by decide +kernel
theorem dX3_follow_27 : decode cX3_follow 27 = .ok (.aload_n 0, 1) := by decide +kernel
theorem dX3_follow_28 : decode cX3_follow 28 = .ok (.getfield 27, 3) := by decide +kernel
theorem dX3_follow_31 : decode cX3_follow 31 = .ok (.invokevirtual 36, 3) := by decide +kernel
theorem dX3_follow_34 : decode cX3_follow 34 = .ok (.aload_n 0, 1) := by decide +kernel
theorem dX3_follow_35 : decode cX3_follow 35 = .ok (.aload_n 1, 1) := by decide +kernel
theorem dX3_follow_36 : decode cX3_follow 36 = .ok (.iconst 0, 1) := by decide +kernel
theorem dX3_follow_37 : decode cX3_follow 37 = .ok (.aload_n 1, 1) := by decide +kernel
theorem dX3_follow_38 : decode cX3_follow 38 = .ok (.getfield 40, 3) := by decide +kernel
theorem dX3_follow_41 : decode cX3_follow 41 = .ok (.iconst 0, 1) := by decide +kernel
theorem dX3_follow_42 : decode cX3_follow 42 = .ok (.invokevirtual 45, 3) := by decide +kernel
theorem dX3_follow_45 : decode cX3_follow 45 = .ok (.aload_n 0, 1) := by decide +kernel
theorem dX3_follow_46 : decode cX3_follow 46 = .ok (.iconst 1, 1) := by decide +kernel
theorem dX3_follow_47 : decode cX3_follow 47 = .ok (.putfield 31, 3) := by decide +kernel
theorem dX3_follow_50 : decode cX3_follow 50 = .ok (.return_, 1) := by decide +kernel
theorem dX3_mustAt_0 : decode cX3_mustAt 0 = .ok (.iload_n 1, 1) := by decide +kernel
theorem dX3_mustAt_1 : decode cX3_mustAt 1 = .ok (.ifCond .lt 18, 3) := by decide +kernel
theorem dX3_mustAt_4 : decode cX3_mustAt 4 = .ok (.iload_n 1, 1) := by decide +kernel
theorem dX3_mustAt_5 : decode cX3_mustAt 5 = .ok (.bipush 24, 2) := by decide +kernel
theorem dX3_mustAt_7 : decode cX3_mustAt 7 = .ok (.if_icmp .ge 12, 3) := by decide +kernel
theorem dX3_mustAt_10 : decode cX3_mustAt 10 = .ok (.aload_n 0, 1) := by decide +kernel
theorem dX3_mustAt_11 : decode cX3_mustAt 11 = .ok (.getfield 9, 3) := by decide +kernel
theorem dX3_mustAt_14 : decode cX3_mustAt 14 = .ok (.iload_n 1, 1) := by decide +kernel
theorem dX3_mustAt_15 : decode cX3_mustAt 15 = .ok (.iaload, 1) := by decide +kernel
theorem dX3_mustAt_16 : decode cX3_mustAt 16 = .ok (.goto 7, 3) := by decide +kernel
theorem dX3_mustAt_19 : decode cX3_mustAt 19 = .ok (.aload_n 0, 1) := by decide +kernel
theorem dX3_mustAt_20 : decode cX3_mustAt 20 = .ok (.getfield 27, 3) := by decide +kernel
theorem dX3_mustAt_23 : decode cX3_mustAt 23 = .ok (.ireturn, 1) := by decide +kernel
theorem dX3_mayAt_0 : decode cX3_mayAt 0 = .ok (.iload_n 1, 1) := by decide +kernel
theorem dX3_mayAt_1 : decode cX3_mayAt 1 = .ok (.ifCond .lt 18, 3) := by decide +kernel
theorem dX3_mayAt_4 : decode cX3_mayAt 4 = .ok (.iload_n 1, 1) := by decide +kernel
theorem dX3_mayAt_5 : decode cX3_mayAt 5 = .ok (.bipush 24, 2) := by decide +kernel
theorem dX3_mayAt_7 : decode cX3_mayAt 7 = .ok (.if_icmp .ge 12, 3) := by decide +kernel
theorem dX3_mayAt_10 : decode cX3_mayAt 10 = .ok (.aload_n 0, 1) := by decide +kernel
theorem dX3_mayAt_11 : decode cX3_mayAt 11 = .ok (.getfield 15, 3) := by decide +kernel
theorem dX3_mayAt_14 : decode cX3_mayAt 14 = .ok (.iload_n 1, 1) := by decide +kernel
theorem dX3_mayAt_15 : decode cX3_mayAt 15 = .ok (.iaload, 1) := by decide +kernel
theorem dX3_mayAt_16 : decode cX3_mayAt 16 = .ok (.goto 7, 3) := by decide +kernel
theorem dX3_mayAt_19 : decode cX3_mayAt 19 = .ok (.aload_n 0, 1) := by decide +kernel
theorem dX3_mayAt_20 : decode cX3_mayAt 20 = .ok (.getfield 27, 3) := by decide +kernel
theorem dX3_mayAt_23 : decode cX3_mayAt 23 = .ok (.ireturn, 1) := by decide +kernel
theorem dX3_mustBehind_0 : decode cX3_mustBehind 0 = .ok (.iload_n 1, 1) := by decide +kernel
theorem dX3_mustBehind_1 : decode cX3_mustBehind 1 = .ok (.invokestatic 49, 3) := by decide +kernel
theorem dX3_mustBehind_4 : decode cX3_mustBehind 4 = .ok (.ifCond .eq 17, 3) := by decide +kernel
theorem dX3_mustBehind_7 : decode cX3_mustBehind 7 = .ok (.aload_n 0, 1) := by decide +kernel
theorem dX3_mustBehind_8 : decode cX3_mustBehind 8 = .ok (.getfield 20, 3) := by decide +kernel
theorem dX3_mustBehind_11 : decode cX3_mustBehind 11 = .ok (.iconst 0, 1) := by decide +kernel
theorem dX3_mustBehind_12 : decode cX3_mustBehind 12 = .ok (.aaload, 1) := by decide +kernel
theorem dX3_mustBehind_13 : decode cX3_mustBehind 13 = .ok (.getfield 53, 3) := by decide +kernel
theorem dX3_mustBehind_16 : decode cX3_mustBehind 16 = .ok (.iload_n 1, 1) := by decide +kernel
theorem dX3_mustBehind_17 : decode cX3_mustBehind 17 = .ok (.iaload, 1) := by decide +kernel
theorem dX3_mustBehind_18 : decode cX3_mustBehind 18 = .ok (.goto 7, 3) := by decide +kernel
theorem dX3_mustBehind_21 : decode cX3_mustBehind 21 = .ok (.aload_n 0, 1) := by decide +kernel
theorem dX3_mustBehind_22 : decode cX3_mustBehind 22 = .ok (.getfield 27, 3) := by decide +kernel
theorem dX3_mustBehind_25 : decode cX3_mustBehind 25 = .ok (.ireturn, 1) := by decide +kernel
theorem dX3_mayBehind_0 : decode cX3_mayBehind 0 = .ok (.iload_n 1, 1) := by decide +kernel
theorem dX3_mayBehind_1 : decode cX3_mayBehind 1 = .ok (.invokestatic 49, 3) := by decide +kernel
theorem dX3_mayBehind_4 : decode cX3_mayBehind 4 = .ok (.ifCond .eq 17, 3) := by decide +kernel
theorem dX3_mayBehind_7 : decode cX3_mayBehind 7 = .ok (.aload_n 0, 1) := by decide +kernel
theorem dX3_mayBehind_8 : decode cX3_mayBehind 8 = .ok (.getfield 20, 3) := by decide +kernel
theorem dX3_mayBehind_11 : decode cX3_mayBehind 11 = .ok (.iconst 0, 1) := by decide +kernel
theorem dX3_mayBehind_12 : decode cX3_mayBehind 12 = .ok (.aaload, 1) := by decide +kernel
theorem dX3_mayBehind_13 : decode cX3_mayBehind 13 = .ok (.getfield 54, 3) := by decide +kernel
theorem dX3_mayBehind_16 : decode cX3_mayBehind 16 = .ok (.iload_n 1, 1) := by decide +kernel
theorem dX3_mayBehind_17 : decode cX3_mayBehind 17 = .ok (.iaload, 1) := by decide +kernel
theorem dX3_mayBehind_18 : decode cX3_mayBehind 18 = .ok (.goto 7, 3) := by decide +kernel
theorem dX3_mayBehind_21 : decode cX3_mayBehind 21 = .ok (.aload_n 0, 1) := by decide +kernel
theorem dX3_mayBehind_22 : decode cX3_mayBehind 22 = .ok (.getfield 27, 3) := by decide +kernel
theorem dX3_mayBehind_25 : decode cX3_mayBehind 25 = .ok (.ireturn, 1) := by decide +kernel
theorem dX3_sortOf_0 : decode cX3_sortOf 0 = .ok (.aload_n 0, 1) := by decide +kernel
theorem dX3_sortOf_1 : decode cX3_sortOf 1 = .ok (.iload_n 1, 1) := by decide +kernel
theorem dX3_sortOf_2 : decode cX3_sortOf 2 = .ok (.invokevirtual 55, 3) := by decide +kernel
theorem dX3_sortOf_5 : decode cX3_sortOf 5 = .ok (.aload_n 0, 1) := by decide +kernel
theorem dX3_sortOf_6 : decode cX3_sortOf 6 = .ok (.getfield 27, 3) := by decide +kernel
theorem dX3_sortOf_9 : decode cX3_sortOf 9 = .ok (.if_icmp .ge 5, 3) := by decide +kernel
theorem dX3_sortOf_12 : decode cX3_sortOf 12 = .ok (.iconst 1, 1) := by decide +kernel
theorem dX3_sortOf_13 : decode cX3_sortOf 13 = .ok (.ireturn, 1) := by decide +kernel
theorem dX3_sortOf_14 : decode cX3_sortOf 14 = .ok (.aload_n 0, 1) := by decide +kernel
theorem dX3_sortOf_15 : decode cX3_sortOf 15 = .ok (.iload_n 1, 1) := by decide +kernel
theorem dX3_sortOf_16 : decode cX3_sortOf 16 = .ok (.invokevirtual 59, 3) := by decide +kernel
theorem dX3_sortOf_19 : decode cX3_sortOf 19 = .ok (.aload_n 0, 1) := by decide +kernel
theorem dX3_sortOf_20 : decode cX3_sortOf 20 = .ok (.getfield 27, 3) := by decide +kernel
theorem dX3_sortOf_23 : decode cX3_sortOf 23 = .ok (.if_icmp .lt 7, 3) := by decide +kernel
theorem dX3_sortOf_26 : decode cX3_sortOf 26 = .ok (.iconst 2, 1) := by decide +kernel
theorem dX3_sortOf_27 : decode cX3_sortOf 27 = .ok (.goto 4, 3) := by decide +kernel
theorem dX3_sortOf_30 : decode cX3_sortOf 30 = .ok (.iconst 0, 1) := by decide +kernel
theorem dX3_sortOf_31 : decode cX3_sortOf 31 = .ok (.ireturn, 1) := by decide +kernel
theorem dX3_isKept_0 : decode cX3_isKept 0 = .ok (.aload_n 0, 1) := by decide +kernel
theorem dX3_isKept_1 : decode cX3_isKept 1 = .ok (.iload_n 2, 1) := by decide +kernel
theorem dX3_isKept_2 : decode cX3_isKept 2 = .ok (.invokevirtual 62, 3) := by decide +kernel
theorem dX3_isKept_5 : decode cX3_isKept 5 = .ok (.iconst 1, 1) := by decide +kernel
theorem dX3_isKept_6 : decode cX3_isKept 6 = .ok (.if_icmp .eq 27, 3) := by decide +kernel
theorem dX3_isKept_9 : decode cX3_isKept 9 = .ok (.aload_n 1, 1) := by decide +kernel
theorem dX3_isKept_10 : decode cX3_isKept 10 = .ok (.iload_n 2, 1) := by decide +kernel
theorem dX3_isKept_11 : decode cX3_isKept 11 = .ok (.invokevirtual 65, 3) := by decide +kernel
theorem dX3_isKept_14 : decode cX3_isKept 14 = .ok (.ifCond .eq 19, 3) := by decide +kernel
theorem dX3_isKept_17 : decode cX3_isKept 17 = .ok (.aload_n 1, 1) := by decide +kernel
theorem dX3_isKept_18 : decode cX3_isKept 18 = .ok (.iload_n 2, 1) := by decide +kernel
theorem dX3_isKept_19 : decode cX3_isKept 19 = .ok (.invokevirtual 68, 3) := by decide +kernel
theorem dX3_isKept_22 : decode cX3_isKept 22 = .ok (.aload_n 0, 1) := by decide +kernel
theorem dX3_isKept_23 : decode cX3_isKept 23 = .ok (.getfield 27, 3) := by decide +kernel
theorem dX3_isKept_26 : decode cX3_isKept 26 = .ok (.if_icmp .gt 7, 3) := by decide +kernel
theorem dX3_isKept_29 : decode cX3_isKept 29 = .ok (.iconst 1, 1) := by decide +kernel
theorem dX3_isKept_30 : decode cX3_isKept 30 = .ok (.goto 4, 3) := by decide +kernel
theorem dX3_isKept_33 : decode cX3_isKept 33 = .ok (.iconst 0, 1) := by decide +kernel
theorem dX3_isKept_34 : decode cX3_isKept 34 = .ok (.ireturn, 1) := by decide +kernel
theorem dX3_mostOf_0 : decode cX3_mostOf 0 = .ok (.aload_n 0, 1) := by decide +kernel
theorem dX3_mostOf_1 : decode cX3_mostOf 1 = .ok (.aload_n 1, 1) := by decide +kernel
theorem dX3_mostOf_2 : decode cX3_mostOf 2 = .ok (.iload_n 2, 1) := by decide +kernel
theorem dX3_mostOf_3 : decode cX3_mostOf 3 = .ok (.iconst 0, 1) := by decide +kernel
theorem dX3_mostOf_4 : decode cX3_mostOf 4 = .ok (.aload_n 1, 1) := by decide +kernel
theorem dX3_mostOf_5 : decode cX3_mostOf 5 = .ok (.getfield 40, 3) := by decide +kernel
theorem dX3_mostOf_8 : decode cX3_mostOf 8 = .ok (.iconst 0, 1) := by decide +kernel
theorem dX3_mostOf_9 : decode cX3_mostOf 9 = .ok (.invokevirtual 71, 3) := by decide +kernel
theorem dX3_mostOf_12 : decode cX3_mostOf 12 = .ok (.ireturn, 1) := by decide +kernel
theorem dX3_leastOf_0 : decode cX3_leastOf 0 = .ok (.aload_n 0, 1) := by decide +kernel
theorem dX3_leastOf_1 : decode cX3_leastOf 1 = .ok (.aload_n 1, 1) := by decide +kernel
theorem dX3_leastOf_2 : decode cX3_leastOf 2 = .ok (.iload_n 2, 1) := by decide +kernel
theorem dX3_leastOf_3 : decode cX3_leastOf 3 = .ok (.iconst 0, 1) := by decide +kernel
theorem dX3_leastOf_4 : decode cX3_leastOf 4 = .ok (.aload_n 1, 1) := by decide +kernel
theorem dX3_leastOf_5 : decode cX3_leastOf 5 = .ok (.getfield 40, 3) := by decide +kernel
theorem dX3_leastOf_8 : decode cX3_leastOf 8 = .ok (.iconst 0, 1) := by decide +kernel
theorem dX3_leastOf_9 : decode cX3_leastOf 9 = .ok (.invokevirtual 75, 3) := by decide +kernel
theorem dX3_leastOf_12 : decode cX3_leastOf 12 = .ok (.ireturn, 1) := by decide +kernel
theorem dX3_mostOfRow_0 : decode cX3_mostOfRow 0 = .ok (.iconst 0, 1) := by decide +kernel
theorem dX3_mostOfRow_1 : decode cX3_mostOfRow 1 = .ok (.istore 6, 2) := by decide +kernel
theorem dX3_mostOfRow_3 : decode cX3_mostOfRow 3 = .ok (.iload_n 3, 1) := by decide +kernel
theorem dX3_mostOfRow_4 : decode cX3_mostOfRow 4 = .ok (.istore 7, 2) := by decide +kernel
theorem dX3_mostOfRow_6 : decode cX3_mostOfRow 6 = .ok (.iload 7, 2) := by decide +kernel
theorem dX3_mostOfRow_8 : decode cX3_mostOfRow 8 = .ok (.iload 4, 2) := by decide +kernel
theorem dX3_mostOfRow_10 : decode cX3_mostOfRow 10 = .ok (.if_icmp .ge 174, 3) := by decide +kernel
theorem dX3_mostOfRow_13 : decode cX3_mostOfRow 13 = .ok (.iload 5, 2) := by decide +kernel
theorem dX3_mostOfRow_15 : decode cX3_mostOfRow 15 = .ok (.iconst 3, 1) := by decide +kernel
theorem dX3_mostOfRow_16 : decode cX3_mostOfRow 16 = .ok (.if_icmp .gt 168, 3) := by decide +kernel
theorem dX3_mostOfRow_19 : decode cX3_mostOfRow 19 = .ok (.aload_n 1, 1) := by decide +kernel
theorem dX3_mostOfRow_20 : decode cX3_mostOfRow 20 = .ok (.iload 7, 2) := by decide +kernel
theorem dX3_mostOfRow_22 : decode cX3_mostOfRow 22 = .ok (.invokevirtual 78, 3) := by decide +kernel
theorem dX3_mostOfRow_25 : decode cX3_mostOfRow 25 = .ok (.istore 8, 2) := by decide +kernel
theorem dX3_mostOfRow_27 : decode cX3_mostOfRow 27 = .ok (.aload_n 1, 1) := by decide +kernel
theorem dX3_mostOfRow_28 : decode cX3_mostOfRow 28 = .ok (.iload 7, 2) := by decide +kernel
theorem dX3_mostOfRow_30 : decode cX3_mostOfRow 30 = .ok (.invokevirtual 81, 3) := by decide +kernel
theorem dX3_mostOfRow_33 : decode cX3_mostOfRow 33 = .ok (.istore 9, 2) := by decide +kernel
theorem dX3_mostOfRow_35 : decode cX3_mostOfRow 35 = .ok (.iload 8, 2) := by decide +kernel
theorem dX3_mostOfRow_37 : decode cX3_mostOfRow 37 = .ok (.ifCond .ne 30, 3) := by decide +kernel
theorem dX3_mostOfRow_40 : decode cX3_mostOfRow 40 = .ok (.iload 6, 2) := by decide +kernel
theorem dX3_mostOfRow_42 : decode cX3_mostOfRow 42 = .ok (.aload_n 0, 1) := by decide +kernel
theorem dX3_mostOfRow_43 : decode cX3_mostOfRow 43 = .ok (.aload_n 1, 1) := by decide +kernel
theorem dX3_mostOfRow_44 : decode cX3_mostOfRow 44 = .ok (.iload 7, 2) := by decide +kernel
theorem dX3_mostOfRow_46 : decode cX3_mostOfRow 46 = .ok (.invokevirtual 84, 3) := by decide +kernel
theorem dX3_mostOfRow_49 : decode cX3_mostOfRow 49 = .ok (.invokevirtual 62, 3) := by decide +kernel
theorem dX3_mostOfRow_52 : decode cX3_mostOfRow 52 = .ok (.iconst 1, 1) := by decide +kernel
theorem dX3_mostOfRow_53 : decode cX3_mostOfRow 53 = .ok (.if_icmp .ne 7, 3) := by decide +kernel
theorem dX3_mostOfRow_56 : decode cX3_mostOfRow 56 = .ok (.iconst 1, 1) := by decide +kernel
theorem dX3_mostOfRow_57 : decode cX3_mostOfRow 57 = .ok (.goto 4, 3) := by decide +kernel
theorem dX3_mostOfRow_60 : decode cX3_mostOfRow 60 = .ok (.iload_n 2, 1) := by decide +kernel
theorem dX3_mostOfRow_61 : decode cX3_mostOfRow 61 = .ok (.iadd, 1) := by decide +kernel
theorem dX3_mostOfRow_62 : decode cX3_mostOfRow 62 = .ok (.istore 6, 2) := by decide +kernel
theorem dX3_mostOfRow_64 : decode cX3_mostOfRow 64 = .ok (.goto 114, 3) := by decide +kernel
theorem dX3_mostOfRow_67 : decode cX3_mostOfRow 67 = .ok (.iload 8, 2) := by decide +kernel
theorem dX3_mostOfRow_69 : decode cX3_mostOfRow 69 = .ok (.iconst 1, 1) := by decide +kernel
theorem dX3_mostOfRow_70 : decode cX3_mostOfRow 70 = .ok (.if_icmp .ne 9, 3) := by decide +kernel
theorem dX3_mostOfRow_73 : decode cX3_mostOfRow 73 = .ok (.iinc 6 1, 3) := by decide +kernel
theorem dX3_mostOfRow_76 : decode cX3_mostOfRow 76 = .ok (.goto 102, 3) := by decide +kernel
theorem dX3_mostOfRow_79 : decode cX3_mostOfRow 79 = .ok (.iload 8, 2) := by decide +kernel
theorem dX3_mostOfRow_81 : decode cX3_mostOfRow 81 = .ok (.iconst 2, 1) := by decide +kernel
theorem dX3_mostOfRow_82 : decode cX3_mostOfRow 82 = .ok (.if_icmp .ne 58, 3) := by decide +kernel
theorem dX3_mostOfRow_85 : decode cX3_mostOfRow 85 = .ok (.aload_n 1, 1) := by decide +kernel
theorem dX3_mostOfRow_86 : decode cX3_mostOfRow 86 = .ok (.iload 9, 2) := by decide +kernel
theorem dX3_mostOfRow_88 : decode cX3_mostOfRow 88 = .ok (.invokevirtual 81, 3) := by decide +kernel
theorem dX3_mostOfRow_91 : decode cX3_mostOfRow 91 = .ok (.istore 10, 2) := by decide +kernel
theorem dX3_mostOfRow_93 : decode cX3_mostOfRow 93 = .ok (.iload 6, 2) := by decide +kernel
theorem dX3_mostOfRow_95 : decode cX3_mostOfRow 95 = .ok (.aload_n 0, 1) := by decide +kernel
theorem dX3_mostOfRow_96 : decode cX3_mostOfRow 96 = .ok (.aload_n 1, 1) := by decide +kernel
theorem dX3_mostOfRow_97 : decode cX3_mostOfRow 97 = .ok (.iload_n 2, 1) := by decide +kernel
theorem dX3_mostOfRow_98 : decode cX3_mostOfRow 98 = .ok (.iload 7, 2) := by decide +kernel
theorem dX3_mostOfRow_100 : decode cX3_mostOfRow 100 = .ok (.iconst 1, 1) := by decide +kernel
theorem dX3_mostOfRow_101 : decode cX3_mostOfRow 101 = .ok (.iadd, 1) := by decide +kernel
theorem dX3_mostOfRow_102 : decode cX3_mostOfRow 102 = .ok (.iload 9, 2) := by decide +kernel
theorem dX3_mostOfRow_104 : decode cX3_mostOfRow 104 = .ok (.iload 5, 2) := by decide +kernel
theorem dX3_mostOfRow_106 : decode cX3_mostOfRow 106 = .ok (.iconst 1, 1) := by decide +kernel
theorem dX3_mostOfRow_107 : decode cX3_mostOfRow 107 = .ok (.iadd, 1) := by decide +kernel
theorem dX3_mostOfRow_108 : decode cX3_mostOfRow 108 = .ok (.invokevirtual 71, 3) := by decide +kernel
theorem dX3_mostOfRow_111 : decode cX3_mostOfRow 111 = .ok (.aload_n 0, 1) := by decide +kernel
theorem dX3_mostOfRow_112 : decode cX3_mostOfRow 112 = .ok (.aload_n 1, 1) := by decide +kernel
theorem dX3_mostOfRow_113 : decode cX3_mostOfRow 113 = .ok (.iload_n 2, 1) := by decide +kernel
theorem dX3_mostOfRow_114 : decode cX3_mostOfRow 114 = .ok (.iload 9, 2) := by decide +kernel
theorem dX3_mostOfRow_116 : decode cX3_mostOfRow 116 = .ok (.iconst 1, 1) := by decide +kernel
theorem dX3_mostOfRow_117 : decode cX3_mostOfRow 117 = .ok (.iadd, 1) := by decide +kernel
theorem dX3_mostOfRow_118 : decode cX3_mostOfRow 118 = .ok (.iload 10, 2) := by decide +kernel
theorem dX3_mostOfRow_120 : decode cX3_mostOfRow 120 = .ok (.iload 5, 2) := by decide +kernel
theorem dX3_mostOfRow_122 : decode cX3_mostOfRow 122 = .ok (.iconst 1, 1) := by decide +kernel
theorem dX3_mostOfRow_123 : decode cX3_mostOfRow 123 = .ok (.iadd, 1) := by decide +kernel
theorem dX3_mostOfRow_124 : decode cX3_mostOfRow 124 = .ok (.invokevirtual 71, 3) := by decide +kernel
theorem dX3_mostOfRow_127 : decode cX3_mostOfRow 127 = .ok (.invokestatic 87, 3) := by decide +kernel
theorem dX3_mostOfRow_130 : decode cX3_mostOfRow 130 = .ok (.iadd, 1) := by decide +kernel
theorem dX3_mostOfRow_131 : decode cX3_mostOfRow 131 = .ok (.istore 6, 2) := by decide +kernel
theorem dX3_mostOfRow_133 : decode cX3_mostOfRow 133 = .ok (.iload 10, 2) := by decide +kernel
theorem dX3_mostOfRow_135 : decode cX3_mostOfRow 135 = .ok (.istore 7, 2) := by decide +kernel
theorem dX3_mostOfRow_137 : decode cX3_mostOfRow 137 = .ok (.goto 41, 3) := by decide +kernel
theorem dX3_mostOfRow_140 : decode cX3_mostOfRow 140 = .ok (.iload 8, 2) := by decide +kernel
theorem dX3_mostOfRow_142 : decode cX3_mostOfRow 142 = .ok (.iconst 5, 1) := by decide +kernel
theorem dX3_mostOfRow_143 : decode cX3_mostOfRow 143 = .ok (.if_icmp .ne 35, 3) := by decide +kernel
theorem dX3_mostOfRow_146 : decode cX3_mostOfRow 146 = .ok (.iload 6, 2) := by decide +kernel
theorem dX3_mostOfRow_148 : decode cX3_mostOfRow 148 = .ok (.aload_n 1, 1) := by decide +kernel
theorem dX3_mostOfRow_149 : decode cX3_mostOfRow 149 = .ok (.iload 7, 2) := by decide +kernel
theorem dX3_mostOfRow_151 : decode cX3_mostOfRow 151 = .ok (.invokevirtual 84, 3) := by decide +kernel
theorem dX3_mostOfRow_154 : decode cX3_mostOfRow 154 = .ok (.aload_n 0, 1) := by decide +kernel
theorem dX3_mostOfRow_155 : decode cX3_mostOfRow 155 = .ok (.aload_n 1, 1) := by decide +kernel
theorem dX3_mostOfRow_156 : decode cX3_mostOfRow 156 = .ok (.iload_n 2, 1) := by decide +kernel
theorem dX3_mostOfRow_157 : decode cX3_mostOfRow 157 = .ok (.iload 7, 2) := by decide +kernel
theorem dX3_mostOfRow_159 : decode cX3_mostOfRow 159 = .ok (.iconst 1, 1) := by decide +kernel
theorem dX3_mostOfRow_160 : decode cX3_mostOfRow 160 = .ok (.iadd, 1) := by decide +kernel
theorem dX3_mostOfRow_161 : decode cX3_mostOfRow 161 = .ok (.iload 9, 2) := by decide +kernel
theorem dX3_mostOfRow_163 : decode cX3_mostOfRow 163 = .ok (.iload 5, 2) := by decide +kernel
theorem dX3_mostOfRow_165 : decode cX3_mostOfRow 165 = .ok (.iconst 1, 1) := by decide +kernel
theorem dX3_mostOfRow_166 : decode cX3_mostOfRow 166 = .ok (.iadd, 1) := by decide +kernel
theorem dX3_mostOfRow_167 : decode cX3_mostOfRow 167 = .ok (.invokevirtual 71, 3) := by decide +kernel
theorem dX3_mostOfRow_170 : decode cX3_mostOfRow 170 = .ok (.imul, 1) := by decide +kernel
theorem dX3_mostOfRow_171 : decode cX3_mostOfRow 171 = .ok (.iadd, 1) := by decide +kernel
theorem dX3_mostOfRow_172 : decode cX3_mostOfRow 172 = .ok (.istore 6, 2) := by decide +kernel
theorem dX3_mostOfRow_174 : decode cX3_mostOfRow 174 = .ok (.iload 9, 2) := by decide +kernel
theorem dX3_mostOfRow_176 : decode cX3_mostOfRow 176 = .ok (.istore 7, 2) := by decide +kernel
theorem dX3_mostOfRow_178 : decode cX3_mostOfRow 178 = .ok (.iinc 7 1, 3) := by decide +kernel
theorem dX3_mostOfRow_181 : decode cX3_mostOfRow 181 = .ok (.goto (-175), 3) := by decide +kernel
theorem dX3_mostOfRow_184 : decode cX3_mostOfRow 184 = .ok (.iload 6, 2) := by decide +kernel
theorem dX3_mostOfRow_186 : decode cX3_mostOfRow 186 = .ok (.ireturn, 1) := by decide +kernel
theorem dX3_leastOfRow_0 : decode cX3_leastOfRow 0 = .ok (.iconst 0, 1) := by decide +kernel
theorem dX3_leastOfRow_1 : decode cX3_leastOfRow 1 = .ok (.istore 6, 2) := by decide +kernel
theorem dX3_leastOfRow_3 : decode cX3_leastOfRow 3 = .ok (.iload_n 3, 1) := by decide +kernel
theorem dX3_leastOfRow_4 : decode cX3_leastOfRow 4 = .ok (.istore 7, 2) := by decide +kernel
theorem dX3_leastOfRow_6 : decode cX3_leastOfRow 6 = .ok (.iload 7, 2) := by decide +kernel
theorem dX3_leastOfRow_8 : decode cX3_leastOfRow 8 = .ok (.iload 4, 2) := by decide +kernel
theorem dX3_leastOfRow_10 : decode cX3_leastOfRow 10 = .ok (.if_icmp .ge 146, 3) := by decide +kernel
theorem dX3_leastOfRow_13 : decode cX3_leastOfRow 13 = .ok (.iload 5, 2) := by decide +kernel
theorem dX3_leastOfRow_15 : decode cX3_leastOfRow 15 = .ok (.iconst 3, 1) := by decide +kernel
theorem dX3_leastOfRow_16 : decode cX3_leastOfRow 16 = .ok (.if_icmp .gt 140, 3) := by decide +kernel
theorem dX3_leastOfRow_19 : decode cX3_leastOfRow 19 = .ok (.aload_n 1, 1) := by decide +kernel
theorem dX3_leastOfRow_20 : decode cX3_leastOfRow 20 = .ok (.iload 7, 2) := by decide +kernel
theorem dX3_leastOfRow_22 : decode cX3_leastOfRow 22 = .ok (.invokevirtual 78, 3) := by decide +kernel
theorem dX3_leastOfRow_25 : decode cX3_leastOfRow 25 = .ok (.istore 8, 2) := by decide +kernel
theorem dX3_leastOfRow_27 : decode cX3_leastOfRow 27 = .ok (.aload_n 1, 1) := by decide +kernel
theorem dX3_leastOfRow_28 : decode cX3_leastOfRow 28 = .ok (.iload 7, 2) := by decide +kernel
theorem dX3_leastOfRow_30 : decode cX3_leastOfRow 30 = .ok (.invokevirtual 81, 3) := by decide +kernel
theorem dX3_leastOfRow_33 : decode cX3_leastOfRow 33 = .ok (.istore 9, 2) := by decide +kernel
theorem dX3_leastOfRow_35 : decode cX3_leastOfRow 35 = .ok (.iload 8, 2) := by decide +kernel
theorem dX3_leastOfRow_37 : decode cX3_leastOfRow 37 = .ok (.ifCond .ne 30, 3) := by decide +kernel
theorem dX3_leastOfRow_40 : decode cX3_leastOfRow 40 = .ok (.iload 6, 2) := by decide +kernel
theorem dX3_leastOfRow_42 : decode cX3_leastOfRow 42 = .ok (.aload_n 0, 1) := by decide +kernel
theorem dX3_leastOfRow_43 : decode cX3_leastOfRow 43 = .ok (.aload_n 1, 1) := by decide +kernel
theorem dX3_leastOfRow_44 : decode cX3_leastOfRow 44 = .ok (.iload 7, 2) := by decide +kernel
theorem dX3_leastOfRow_46 : decode cX3_leastOfRow 46 = .ok (.invokevirtual 84, 3) := by decide +kernel
theorem dX3_leastOfRow_49 : decode cX3_leastOfRow 49 = .ok (.invokevirtual 62, 3) := by decide +kernel
theorem dX3_leastOfRow_52 : decode cX3_leastOfRow 52 = .ok (.iconst 2, 1) := by decide +kernel
theorem dX3_leastOfRow_53 : decode cX3_leastOfRow 53 = .ok (.if_icmp .ne 7, 3) := by decide +kernel
theorem dX3_leastOfRow_56 : decode cX3_leastOfRow 56 = .ok (.iload_n 2, 1) := by decide +kernel
theorem dX3_leastOfRow_57 : decode cX3_leastOfRow 57 = .ok (.goto 4, 3) := by decide +kernel
theorem dX3_leastOfRow_60 : decode cX3_leastOfRow 60 = .ok (.iconst 1, 1) := by decide +kernel
theorem dX3_leastOfRow_61 : decode cX3_leastOfRow 61 = .ok (.iadd, 1) := by decide +kernel
theorem dX3_leastOfRow_62 : decode cX3_leastOfRow 62 = .ok (.istore 6, 2) := by decide +kernel
theorem dX3_leastOfRow_64 : decode cX3_leastOfRow 64 = .ok (.goto 86, 3) := by decide +kernel
theorem dX3_leastOfRow_67 : decode cX3_leastOfRow 67 = .ok (.iload 8, 2) := by decide +kernel
theorem dX3_leastOfRow_69 : decode cX3_leastOfRow 69 = .ok (.iconst 1, 1) := by decide +kernel
theorem dX3_leastOfRow_70 : decode cX3_leastOfRow 70 = .ok (.if_icmp .ne 9, 3) := by decide +kernel
theorem dX3_leastOfRow_73 : decode cX3_leastOfRow 73 = .ok (.iinc 6 1, 3) := by decide +kernel
theorem dX3_leastOfRow_76 : decode cX3_leastOfRow 76 = .ok (.goto 74, 3) := by decide +kernel
theorem dX3_leastOfRow_79 : decode cX3_leastOfRow 79 = .ok (.iload 8, 2) := by decide +kernel
theorem dX3_leastOfRow_81 : decode cX3_leastOfRow 81 = .ok (.iconst 2, 1) := by decide +kernel
theorem dX3_leastOfRow_82 : decode cX3_leastOfRow 82 = .ok (.if_icmp .ne 58, 3) := by decide +kernel
theorem dX3_leastOfRow_85 : decode cX3_leastOfRow 85 = .ok (.aload_n 1, 1) := by decide +kernel
theorem dX3_leastOfRow_86 : decode cX3_leastOfRow 86 = .ok (.iload 9, 2) := by decide +kernel
theorem dX3_leastOfRow_88 : decode cX3_leastOfRow 88 = .ok (.invokevirtual 81, 3) := by decide +kernel
theorem dX3_leastOfRow_91 : decode cX3_leastOfRow 91 = .ok (.istore 10, 2) := by decide +kernel
theorem dX3_leastOfRow_93 : decode cX3_leastOfRow 93 = .ok (.iload 6, 2) := by decide +kernel
theorem dX3_leastOfRow_95 : decode cX3_leastOfRow 95 = .ok (.aload_n 0, 1) := by decide +kernel
theorem dX3_leastOfRow_96 : decode cX3_leastOfRow 96 = .ok (.aload_n 1, 1) := by decide +kernel
theorem dX3_leastOfRow_97 : decode cX3_leastOfRow 97 = .ok (.iload_n 2, 1) := by decide +kernel
theorem dX3_leastOfRow_98 : decode cX3_leastOfRow 98 = .ok (.iload 7, 2) := by decide +kernel
theorem dX3_leastOfRow_100 : decode cX3_leastOfRow 100 = .ok (.iconst 1, 1) := by decide +kernel
theorem dX3_leastOfRow_101 : decode cX3_leastOfRow 101 = .ok (.iadd, 1) := by decide +kernel
theorem dX3_leastOfRow_102 : decode cX3_leastOfRow 102 = .ok (.iload 9, 2) := by decide +kernel
theorem dX3_leastOfRow_104 : decode cX3_leastOfRow 104 = .ok (.iload 5, 2) := by decide +kernel
theorem dX3_leastOfRow_106 : decode cX3_leastOfRow 106 = .ok (.iconst 1, 1) := by decide +kernel
theorem dX3_leastOfRow_107 : decode cX3_leastOfRow 107 = .ok (.iadd, 1) := by decide +kernel
theorem dX3_leastOfRow_108 : decode cX3_leastOfRow 108 = .ok (.invokevirtual 75, 3) := by decide +kernel
theorem dX3_leastOfRow_111 : decode cX3_leastOfRow 111 = .ok (.aload_n 0, 1) := by decide +kernel
theorem dX3_leastOfRow_112 : decode cX3_leastOfRow 112 = .ok (.aload_n 1, 1) := by decide +kernel
theorem dX3_leastOfRow_113 : decode cX3_leastOfRow 113 = .ok (.iload_n 2, 1) := by decide +kernel
theorem dX3_leastOfRow_114 : decode cX3_leastOfRow 114 = .ok (.iload 9, 2) := by decide +kernel
theorem dX3_leastOfRow_116 : decode cX3_leastOfRow 116 = .ok (.iconst 1, 1) := by decide +kernel
theorem dX3_leastOfRow_117 : decode cX3_leastOfRow 117 = .ok (.iadd, 1) := by decide +kernel
theorem dX3_leastOfRow_118 : decode cX3_leastOfRow 118 = .ok (.iload 10, 2) := by decide +kernel
theorem dX3_leastOfRow_120 : decode cX3_leastOfRow 120 = .ok (.iload 5, 2) := by decide +kernel
theorem dX3_leastOfRow_122 : decode cX3_leastOfRow 122 = .ok (.iconst 1, 1) := by decide +kernel
theorem dX3_leastOfRow_123 : decode cX3_leastOfRow 123 = .ok (.iadd, 1) := by decide +kernel
theorem dX3_leastOfRow_124 : decode cX3_leastOfRow 124 = .ok (.invokevirtual 75, 3) := by decide +kernel
theorem dX3_leastOfRow_127 : decode cX3_leastOfRow 127 = .ok (.invokestatic 93, 3) := by decide +kernel
theorem dX3_leastOfRow_130 : decode cX3_leastOfRow 130 = .ok (.iadd, 1) := by decide +kernel
theorem dX3_leastOfRow_131 : decode cX3_leastOfRow 131 = .ok (.istore 6, 2) := by decide +kernel
theorem dX3_leastOfRow_133 : decode cX3_leastOfRow 133 = .ok (.iload 10, 2) := by decide +kernel
theorem dX3_leastOfRow_135 : decode cX3_leastOfRow 135 = .ok (.istore 7, 2) := by decide +kernel
theorem dX3_leastOfRow_137 : decode cX3_leastOfRow 137 = .ok (.goto 13, 3) := by decide +kernel
theorem dX3_leastOfRow_140 : decode cX3_leastOfRow 140 = .ok (.iload 8, 2) := by decide +kernel
theorem dX3_leastOfRow_142 : decode cX3_leastOfRow 142 = .ok (.iconst 5, 1) := by decide +kernel
theorem dX3_leastOfRow_143 : decode cX3_leastOfRow 143 = .ok (.if_icmp .ne 7, 3) := by decide +kernel
theorem dX3_leastOfRow_146 : decode cX3_leastOfRow 146 = .ok (.iload 9, 2) := by decide +kernel
theorem dX3_leastOfRow_148 : decode cX3_leastOfRow 148 = .ok (.istore 7, 2) := by decide +kernel
theorem dX3_leastOfRow_150 : decode cX3_leastOfRow 150 = .ok (.iinc 7 1, 3) := by decide +kernel
theorem dX3_leastOfRow_153 : decode cX3_leastOfRow 153 = .ok (.goto (-147), 3) := by decide +kernel
theorem dX3_leastOfRow_156 : decode cX3_leastOfRow 156 = .ok (.iload 6, 2) := by decide +kernel
theorem dX3_leastOfRow_158 : decode cX3_leastOfRow 158 = .ok (.ireturn, 1) := by decide +kernel
theorem dX3_followRow_0 : decode cX3_followRow 0 = .ok (.iload 4, 2) := by decide +kernel
theorem dX3_followRow_2 : decode cX3_followRow 2 = .ok (.iconst 0, 1) := by decide +kernel
theorem dX3_followRow_3 : decode cX3_followRow 3 = .ok (.iconst 3, 1) := by decide +kernel
theorem dX3_followRow_4 : decode cX3_followRow 4 = .ok (.invokestatic 96, 3) := by decide +kernel
theorem dX3_followRow_7 : decode cX3_followRow 7 = .ok (.ifCond .ne 4, 3) := by decide +kernel
theorem dX3_followRow_10 : decode cX3_followRow 10 = .ok (.return_, 1) := by decide +kernel
theorem dX3_followRow_11 : decode cX3_followRow 11 = .ok (.iload_n 2, 1) := by decide +kernel
theorem dX3_followRow_12 : decode cX3_followRow 12 = .ok (.istore 5, 2) := by decide +kernel
theorem dX3_followRow_14 : decode cX3_followRow 14 = .ok (.iload 5, 2) := by decide +kernel
theorem dX3_followRow_16 : decode cX3_followRow 16 = .ok (.iload_n 3, 1) := by decide +kernel
theorem dX3_followRow_17 : decode cX3_followRow 17 = .ok (.if_icmp .ge 89, 3) := by decide +kernel
theorem dX3_followRow_20 : decode cX3_followRow 20 = .ok (.aload_n 1, 1) := by decide +kernel
theorem dX3_followRow_21 : decode cX3_followRow 21 = .ok (.iload 5, 2) := by decide +kernel
theorem dX3_followRow_23 : decode cX3_followRow 23 = .ok (.invokevirtual 78, 3) := by decide +kernel
theorem dX3_followRow_26 : decode cX3_followRow 26 = .ok (.istore 6, 2) := by decide +kernel
theorem dX3_followRow_28 : decode cX3_followRow 28 = .ok (.iload 6, 2) := by decide +kernel
theorem dX3_followRow_30 : decode cX3_followRow 30 = .ok (.ifCond .ne 33, 3) := by decide +kernel
theorem dX3_followRow_33 : decode cX3_followRow 33 = .ok (.aload_n 1, 1) := by decide +kernel
theorem dX3_followRow_34 : decode cX3_followRow 34 = .ok (.iload 5, 2) := by decide +kernel
theorem dX3_followRow_36 : decode cX3_followRow 36 = .ok (.invokevirtual 84, 3) := by decide +kernel
theorem dX3_followRow_39 : decode cX3_followRow 39 = .ok (.istore 7, 2) := by decide +kernel
theorem dX3_followRow_41 : decode cX3_followRow 41 = .ok (.aload_n 0, 1) := by decide +kernel
theorem dX3_followRow_42 : decode cX3_followRow 42 = .ok (.iload 7, 2) := by decide +kernel
theorem dX3_followRow_44 : decode cX3_followRow 44 = .ok (.aload_n 1, 1) := by decide +kernel
theorem dX3_followRow_45 : decode cX3_followRow 45 = .ok (.iload 7, 2) := by decide +kernel
theorem dX3_followRow_47 : decode cX3_followRow 47 = .ok (.invokevirtual 100, 3) := by decide +kernel
theorem dX3_followRow_50 : decode cX3_followRow 50 = .ok (.aload_n 0, 1) := by decide +kernel
theorem dX3_followRow_51 : decode cX3_followRow 51 = .ok (.getfield 20, 3) := by decide +kernel
theorem dX3_followRow_54 : decode cX3_followRow 54 = .ok (.iload 4, 2) := by decide +kernel
theorem dX3_followRow_56 : decode cX3_followRow 56 = .ok (.aaload, 1) := by decide +kernel
theorem dX3_followRow_57 : decode cX3_followRow 57 = .ok (.invokevirtual 103, 3) := by decide +kernel
theorem dX3_followRow_60 : decode cX3_followRow 60 = .ok (.goto 40, 3) := by decide +kernel
theorem dX3_followRow_63 : decode cX3_followRow 63 = .ok (.iload 6, 2) := by decide +kernel
theorem dX3_followRow_65 : decode cX3_followRow 65 = .ok (.iconst 2, 1) := by decide +kernel
theorem dX3_followRow_66 : decode cX3_followRow 66 = .ok (.if_icmp .ne 17, 3) := by decide +kernel
theorem dX3_followRow_69 : decode cX3_followRow 69 = .ok (.aload_n 0, 1) := by decide +kernel
theorem dX3_followRow_70 : decode cX3_followRow 70 = .ok (.aload_n 1, 1) := by decide +kernel
theorem dX3_followRow_71 : decode cX3_followRow 71 = .ok (.iload 5, 2) := by decide +kernel
theorem dX3_followRow_73 : decode cX3_followRow 73 = .ok (.iload 4, 2) := by decide +kernel
theorem dX3_followRow_75 : decode cX3_followRow 75 = .ok (.invokevirtual 107, 3) := by decide +kernel
theorem dX3_followRow_78 : decode cX3_followRow 78 = .ok (.istore 5, 2) := by decide +kernel
theorem dX3_followRow_80 : decode cX3_followRow 80 = .ok (.goto 20, 3) := by decide +kernel
theorem dX3_followRow_83 : decode cX3_followRow 83 = .ok (.iload 6, 2) := by decide +kernel
theorem dX3_followRow_85 : decode cX3_followRow 85 = .ok (.iconst 5, 1) := by decide +kernel
theorem dX3_followRow_86 : decode cX3_followRow 86 = .ok (.if_icmp .ne 14, 3) := by decide +kernel
theorem dX3_followRow_89 : decode cX3_followRow 89 = .ok (.aload_n 0, 1) := by decide +kernel
theorem dX3_followRow_90 : decode cX3_followRow 90 = .ok (.aload_n 1, 1) := by decide +kernel
theorem dX3_followRow_91 : decode cX3_followRow 91 = .ok (.iload 5, 2) := by decide +kernel
theorem dX3_followRow_93 : decode cX3_followRow 93 = .ok (.iload 4, 2) := by decide +kernel
theorem dX3_followRow_95 : decode cX3_followRow 95 = .ok (.invokevirtual 111, 3) := by decide +kernel
theorem dX3_followRow_98 : decode cX3_followRow 98 = .ok (.istore 5, 2) := by decide +kernel
theorem dX3_followRow_100 : decode cX3_followRow 100 = .ok (.iinc 5 1, 3) := by decide +kernel
theorem dX3_followRow_103 : decode cX3_followRow 103 = .ok (.goto (-89), 3) := by decide +kernel
theorem dX3_followRow_106 : decode cX3_followRow 106 = .ok (.return_, 1) := by decide +kernel
theorem dX3_followLook_0 : decode cX3_followLook 0 = .ok (.iload_n 1, 1) := by decide +kernel
theorem dX3_followLook_1 : decode cX3_followLook 1 = .ok (.iconst 0, 1) := by decide +kernel
theorem dX3_followLook_2 : decode cX3_followLook 2 = .ok (.bipush 23, 2) := by decide +kernel
theorem dX3_followLook_4 : decode cX3_followLook 4 = .ok (.invokestatic 96, 3) := by decide +kernel
theorem dX3_followLook_7 : decode cX3_followLook 7 = .ok (.ifCond .eq 10, 3) := by decide +kernel
theorem dX3_followLook_10 : decode cX3_followLook 10 = .ok (.iload_n 2, 1) := by decide +kernel
theorem dX3_followLook_11 : decode cX3_followLook 11 = .ok (.invokestatic 49, 3) := by decide +kernel
theorem dX3_followLook_14 : decode cX3_followLook 14 = .ok (.ifCond .ne 4, 3) := by decide +kernel
theorem dX3_followLook_17 : decode cX3_followLook 17 = .ok (.return_, 1) := by decide +kernel
theorem dX3_followLook_18 : decode cX3_followLook 18 = .ok (.aload_n 0, 1) := by decide +kernel
theorem dX3_followLook_19 : decode cX3_followLook 19 = .ok (.getfield 9, 3) := by decide +kernel
theorem dX3_followLook_22 : decode cX3_followLook 22 = .ok (.iload_n 1, 1) := by decide +kernel
theorem dX3_followLook_23 : decode cX3_followLook 23 = .ok (.aload_n 3, 1) := by decide +kernel
theorem dX3_followLook_24 : decode cX3_followLook 24 = .ok (.getfield 53, 3) := by decide +kernel
theorem dX3_followLook_27 : decode cX3_followLook 27 = .ok (.iload_n 2, 1) := by decide +kernel
theorem dX3_followLook_28 : decode cX3_followLook 28 = .ok (.iaload, 1) := by decide +kernel
theorem dX3_followLook_29 : decode cX3_followLook 29 = .ok (.iastore, 1) := by decide +kernel
theorem dX3_followLook_30 : decode cX3_followLook 30 = .ok (.aload_n 0, 1) := by decide +kernel
theorem dX3_followLook_31 : decode cX3_followLook 31 = .ok (.getfield 15, 3) := by decide +kernel
theorem dX3_followLook_34 : decode cX3_followLook 34 = .ok (.iload_n 1, 1) := by decide +kernel
theorem dX3_followLook_35 : decode cX3_followLook 35 = .ok (.aload_n 3, 1) := by decide +kernel
theorem dX3_followLook_36 : decode cX3_followLook 36 = .ok (.getfield 54, 3) := by decide +kernel
theorem dX3_followLook_39 : decode cX3_followLook 39 = .ok (.iload_n 2, 1) := by decide +kernel
theorem dX3_followLook_40 : decode cX3_followLook 40 = .ok (.iaload, 1) := by decide +kernel
theorem dX3_followLook_41 : decode cX3_followLook 41 = .ok (.iastore, 1) := by decide +kernel
theorem dX3_followLook_42 : decode cX3_followLook 42 = .ok (.aload_n 3, 1) := by decide +kernel
theorem dX3_followLook_43 : decode cX3_followLook 43 = .ok (.iload_n 2, 1) := by decide +kernel
theorem dX3_followLook_44 : decode cX3_followLook 44 = .ok (.aload_n 0, 1) := by decide +kernel
theorem dX3_followLook_45 : decode cX3_followLook 45 = .ok (.getfield 27, 3) := by decide +kernel
theorem dX3_followLook_48 : decode cX3_followLook 48 = .ok (.invokevirtual 114, 3) := by decide +kernel
theorem dX3_followLook_51 : decode cX3_followLook 51 = .ok (.return_, 1) := by decide +kernel
theorem dX3_followChoice_0 : decode cX3_followChoice 0 = .ok (.aload_n 1, 1) := by decide +kernel
theorem dX3_followChoice_1 : decode cX3_followChoice 1 = .ok (.iload_n 2, 1) := by decide +kernel
theorem dX3_followChoice_2 : decode cX3_followChoice 2 = .ok (.invokevirtual 81, 3) := by decide +kernel
theorem dX3_followChoice_5 : decode cX3_followChoice 5 = .ok (.istore 4, 2) := by decide +kernel
theorem dX3_followChoice_7 : decode cX3_followChoice 7 = .ok (.aload_n 1, 1) := by decide +kernel
theorem dX3_followChoice_8 : decode cX3_followChoice 8 = .ok (.iload 4, 2) := by decide +kernel
theorem dX3_followChoice_10 : decode cX3_followChoice 10 = .ok (.invokevirtual 81, 3) := by decide +kernel
theorem dX3_followChoice_13 : decode cX3_followChoice 13 = .ok (.istore 5, 2) := by decide +kernel
theorem dX3_followChoice_15 : decode cX3_followChoice 15 = .ok (.iload_n 3, 1) := by decide +kernel
theorem dX3_followChoice_16 : decode cX3_followChoice 16 = .ok (.iconst 0, 1) := by decide +kernel
theorem dX3_followChoice_17 : decode cX3_followChoice 17 = .ok (.iconst 2, 1) := by decide +kernel
theorem dX3_followChoice_18 : decode cX3_followChoice 18 = .ok (.invokestatic 96, 3) := by decide +kernel
theorem dX3_followChoice_21 : decode cX3_followChoice 21 = .ok (.ifCond .eq 114, 3) := by decide +kernel
theorem dX3_followChoice_24 : decode cX3_followChoice 24 = .ok (.aload_n 0, 1) := by decide +kernel
theorem dX3_followChoice_25 : decode cX3_followChoice 25 = .ok (.getfield 24, 3) := by decide +kernel
theorem dX3_followChoice_28 : decode cX3_followChoice 28 = .ok (.iload_n 3, 1) := by decide +kernel
theorem dX3_followChoice_29 : decode cX3_followChoice 29 = .ok (.aaload, 1) := by decide +kernel
theorem dX3_followChoice_30 : decode cX3_followChoice 30 = .ok (.aload_n 0, 1) := by decide +kernel
theorem dX3_followChoice_31 : decode cX3_followChoice 31 = .ok (.getfield 20, 3) := by decide +kernel
theorem dX3_followChoice_34 : decode cX3_followChoice 34 = .ok (.iload_n 3, 1) := by decide +kernel
theorem dX3_followChoice_35 : decode cX3_followChoice 35 = .ok (.aaload, 1) := by decide +kernel
theorem dX3_followChoice_36 : decode cX3_followChoice 36 = .ok (.invokevirtual 118, 3) := by decide +kernel
theorem dX3_followChoice_39 : decode cX3_followChoice 39 = .ok (.aload_n 0, 1) := by decide +kernel
theorem dX3_followChoice_40 : decode cX3_followChoice 40 = .ok (.getfield 20, 3) := by decide +kernel
theorem dX3_followChoice_43 : decode cX3_followChoice 43 = .ok (.iload_n 3, 1) := by decide +kernel
theorem dX3_followChoice_44 : decode cX3_followChoice 44 = .ok (.iconst 1, 1) := by decide +kernel
theorem dX3_followChoice_45 : decode cX3_followChoice 45 = .ok (.iadd, 1) := by decide +kernel
theorem dX3_followChoice_46 : decode cX3_followChoice 46 = .ok (.aaload, 1) := by decide +kernel
theorem dX3_followChoice_47 : decode cX3_followChoice 47 = .ok (.aload_n 0, 1) := by decide +kernel
theorem dX3_followChoice_48 : decode cX3_followChoice 48 = .ok (.getfield 24, 3) := by decide +kernel
theorem dX3_followChoice_51 : decode cX3_followChoice 51 = .ok (.iload_n 3, 1) := by decide +kernel
theorem dX3_followChoice_52 : decode cX3_followChoice 52 = .ok (.aaload, 1) := by decide +kernel
theorem dX3_followChoice_53 : decode cX3_followChoice 53 = .ok (.invokevirtual 118, 3) := by decide +kernel
theorem dX3_followChoice_56 : decode cX3_followChoice 56 = .ok (.aload_n 0, 1) := by decide +kernel
theorem dX3_followChoice_57 : decode cX3_followChoice 57 = .ok (.aload_n 1, 1) := by decide +kernel
theorem dX3_followChoice_58 : decode cX3_followChoice 58 = .ok (.iload_n 2, 1) := by decide +kernel
theorem dX3_followChoice_59 : decode cX3_followChoice 59 = .ok (.iconst 1, 1) := by decide +kernel
theorem dX3_followChoice_60 : decode cX3_followChoice 60 = .ok (.iadd, 1) := by decide +kernel
theorem dX3_followChoice_61 : decode cX3_followChoice 61 = .ok (.iload 4, 2) := by decide +kernel
theorem dX3_followChoice_63 : decode cX3_followChoice 63 = .ok (.iload_n 3, 1) := by decide +kernel
theorem dX3_followChoice_64 : decode cX3_followChoice 64 = .ok (.iconst 1, 1) := by decide +kernel
theorem dX3_followChoice_65 : decode cX3_followChoice 65 = .ok (.iadd, 1) := by decide +kernel
theorem dX3_followChoice_66 : decode cX3_followChoice 66 = .ok (.invokevirtual 45, 3) := by decide +kernel
theorem dX3_followChoice_69 : decode cX3_followChoice 69 = .ok (.aload_n 0, 1) := by decide +kernel
theorem dX3_followChoice_70 : decode cX3_followChoice 70 = .ok (.getfield 20, 3) := by decide +kernel
theorem dX3_followChoice_73 : decode cX3_followChoice 73 = .ok (.iload_n 3, 1) := by decide +kernel
theorem dX3_followChoice_74 : decode cX3_followChoice 74 = .ok (.aaload, 1) := by decide +kernel
theorem dX3_followChoice_75 : decode cX3_followChoice 75 = .ok (.aload_n 0, 1) := by decide +kernel
theorem dX3_followChoice_76 : decode cX3_followChoice 76 = .ok (.getfield 20, 3) := by decide +kernel
theorem dX3_followChoice_79 : decode cX3_followChoice 79 = .ok (.iload_n 3, 1) := by decide +kernel
theorem dX3_followChoice_80 : decode cX3_followChoice 80 = .ok (.iconst 1, 1) := by decide +kernel
theorem dX3_followChoice_81 : decode cX3_followChoice 81 = .ok (.iadd, 1) := by decide +kernel
theorem dX3_followChoice_82 : decode cX3_followChoice 82 = .ok (.aaload, 1) := by decide +kernel
theorem dX3_followChoice_83 : decode cX3_followChoice 83 = .ok (.invokevirtual 118, 3) := by decide +kernel
theorem dX3_followChoice_86 : decode cX3_followChoice 86 = .ok (.aload_n 0, 1) := by decide +kernel
theorem dX3_followChoice_87 : decode cX3_followChoice 87 = .ok (.getfield 20, 3) := by decide +kernel
theorem dX3_followChoice_90 : decode cX3_followChoice 90 = .ok (.iload_n 3, 1) := by decide +kernel
theorem dX3_followChoice_91 : decode cX3_followChoice 91 = .ok (.iconst 1, 1) := by decide +kernel
theorem dX3_followChoice_92 : decode cX3_followChoice 92 = .ok (.iadd, 1) := by decide +kernel
theorem dX3_followChoice_93 : decode cX3_followChoice 93 = .ok (.aaload, 1) := by decide +kernel
theorem dX3_followChoice_94 : decode cX3_followChoice 94 = .ok (.aload_n 0, 1) := by decide +kernel
theorem dX3_followChoice_95 : decode cX3_followChoice 95 = .ok (.getfield 24, 3) := by decide +kernel
theorem dX3_followChoice_98 : decode cX3_followChoice 98 = .ok (.iload_n 3, 1) := by decide +kernel
theorem dX3_followChoice_99 : decode cX3_followChoice 99 = .ok (.aaload, 1) := by decide +kernel
theorem dX3_followChoice_100 : decode cX3_followChoice 100 = .ok (.invokevirtual 118, 3) := by decide +kernel
theorem dX3_followChoice_103 : decode cX3_followChoice 103 = .ok (.aload_n 0, 1) := by decide +kernel
theorem dX3_followChoice_104 : decode cX3_followChoice 104 = .ok (.aload_n 1, 1) := by decide +kernel
theorem dX3_followChoice_105 : decode cX3_followChoice 105 = .ok (.iload 4, 2) := by decide +kernel
theorem dX3_followChoice_107 : decode cX3_followChoice 107 = .ok (.iconst 1, 1) := by decide +kernel
theorem dX3_followChoice_108 : decode cX3_followChoice 108 = .ok (.iadd, 1) := by decide +kernel
theorem dX3_followChoice_109 : decode cX3_followChoice 109 = .ok (.iload 5, 2) := by decide +kernel
theorem dX3_followChoice_111 : decode cX3_followChoice 111 = .ok (.iload_n 3, 1) := by decide +kernel
theorem dX3_followChoice_112 : decode cX3_followChoice 112 = .ok (.iconst 1, 1) := by decide +kernel
theorem dX3_followChoice_113 : decode cX3_followChoice 113 = .ok (.iadd, 1) := by decide +kernel
theorem dX3_followChoice_114 : decode cX3_followChoice 114 = .ok (.invokevirtual 45, 3) := by decide +kernel
theorem dX3_followChoice_117 : decode cX3_followChoice 117 = .ok (.aload_n 0, 1) := by decide +kernel
theorem dX3_followChoice_118 : decode cX3_followChoice 118 = .ok (.getfield 20, 3) := by decide +kernel
theorem dX3_followChoice_121 : decode cX3_followChoice 121 = .ok (.iload_n 3, 1) := by decide +kernel
theorem dX3_followChoice_122 : decode cX3_followChoice 122 = .ok (.aaload, 1) := by decide +kernel
theorem dX3_followChoice_123 : decode cX3_followChoice 123 = .ok (.aload_n 0, 1) := by decide +kernel
theorem dX3_followChoice_124 : decode cX3_followChoice 124 = .ok (.getfield 20, 3) := by decide +kernel
theorem dX3_followChoice_127 : decode cX3_followChoice 127 = .ok (.iload_n 3, 1) := by decide +kernel
theorem dX3_followChoice_128 : decode cX3_followChoice 128 = .ok (.iconst 1, 1) := by decide +kernel
theorem dX3_followChoice_129 : decode cX3_followChoice 129 = .ok (.iadd, 1) := by decide +kernel
theorem dX3_followChoice_130 : decode cX3_followChoice 130 = .ok (.aaload, 1) := by decide +kernel
theorem dX3_followChoice_131 : decode cX3_followChoice 131 = .ok (.invokevirtual 122, 3) := by decide +kernel
theorem dX3_followChoice_134 : decode cX3_followChoice 134 = .ok (.pop, 1) := by decide +kernel
theorem dX3_followChoice_135 : decode cX3_followChoice 135 = .ok (.iload 5, 2) := by decide +kernel
theorem dX3_followChoice_137 : decode cX3_followChoice 137 = .ok (.ireturn, 1) := by decide +kernel
theorem dX3_followLoop_0 : decode cX3_followLoop 0 = .ok (.aload_n 1, 1) := by decide +kernel
theorem dX3_followLoop_1 : decode cX3_followLoop 1 = .ok (.iload_n 2, 1) := by decide +kernel
theorem dX3_followLoop_2 : decode cX3_followLoop 2 = .ok (.invokevirtual 81, 3) := by decide +kernel
theorem dX3_followLoop_5 : decode cX3_followLoop 5 = .ok (.istore 4, 2) := by decide +kernel
theorem dX3_followLoop_7 : decode cX3_followLoop 7 = .ok (.iload_n 3, 1) := by decide +kernel
theorem dX3_followLoop_8 : decode cX3_followLoop 8 = .ok (.iconst 0, 1) := by decide +kernel
theorem dX3_followLoop_9 : decode cX3_followLoop 9 = .ok (.iconst 2, 1) := by decide +kernel
theorem dX3_followLoop_10 : decode cX3_followLoop 10 = .ok (.invokestatic 96, 3) := by decide +kernel
theorem dX3_followLoop_13 : decode cX3_followLoop 13 = .ok (.istore 5, 2) := by decide +kernel
theorem dX3_followLoop_15 : decode cX3_followLoop 15 = .ok (.iconst 0, 1) := by decide +kernel
theorem dX3_followLoop_16 : decode cX3_followLoop 16 = .ok (.istore 6, 2) := by decide +kernel
theorem dX3_followLoop_18 : decode cX3_followLoop 18 = .ok (.iload 5, 2) := by decide +kernel
theorem dX3_followLoop_20 : decode cX3_followLoop 20 = .ok (.ifCond .eq 65, 3) := by decide +kernel
theorem dX3_followLoop_23 : decode cX3_followLoop 23 = .ok (.iload 6, 2) := by decide +kernel
theorem dX3_followLoop_25 : decode cX3_followLoop 25 = .ok (.bipush 37, 2) := by decide +kernel
theorem dX3_followLoop_27 : decode cX3_followLoop 27 = .ok (.if_icmp .ge 58, 3) := by decide +kernel
theorem dX3_followLoop_30 : decode cX3_followLoop 30 = .ok (.aload_n 0, 1) := by decide +kernel
theorem dX3_followLoop_31 : decode cX3_followLoop 31 = .ok (.getfield 20, 3) := by decide +kernel
theorem dX3_followLoop_34 : decode cX3_followLoop 34 = .ok (.iload_n 3, 1) := by decide +kernel
theorem dX3_followLoop_35 : decode cX3_followLoop 35 = .ok (.iconst 1, 1) := by decide +kernel
theorem dX3_followLoop_36 : decode cX3_followLoop 36 = .ok (.iadd, 1) := by decide +kernel
theorem dX3_followLoop_37 : decode cX3_followLoop 37 = .ok (.aaload, 1) := by decide +kernel
theorem dX3_followLoop_38 : decode cX3_followLoop 38 = .ok (.aload_n 0, 1) := by decide +kernel
theorem dX3_followLoop_39 : decode cX3_followLoop 39 = .ok (.getfield 20, 3) := by decide +kernel
theorem dX3_followLoop_42 : decode cX3_followLoop 42 = .ok (.iload_n 3, 1) := by decide +kernel
theorem dX3_followLoop_43 : decode cX3_followLoop 43 = .ok (.aaload, 1) := by decide +kernel
theorem dX3_followLoop_44 : decode cX3_followLoop 44 = .ok (.invokevirtual 118, 3) := by decide +kernel
theorem dX3_followLoop_47 : decode cX3_followLoop 47 = .ok (.aload_n 0, 1) := by decide +kernel
theorem dX3_followLoop_48 : decode cX3_followLoop 48 = .ok (.aload_n 1, 1) := by decide +kernel
theorem dX3_followLoop_49 : decode cX3_followLoop 49 = .ok (.iload_n 2, 1) := by decide +kernel
theorem dX3_followLoop_50 : decode cX3_followLoop 50 = .ok (.iconst 1, 1) := by decide +kernel
theorem dX3_followLoop_51 : decode cX3_followLoop 51 = .ok (.iadd, 1) := by decide +kernel
theorem dX3_followLoop_52 : decode cX3_followLoop 52 = .ok (.iload 4, 2) := by decide +kernel
theorem dX3_followLoop_54 : decode cX3_followLoop 54 = .ok (.iload_n 3, 1) := by decide +kernel
theorem dX3_followLoop_55 : decode cX3_followLoop 55 = .ok (.iconst 1, 1) := by decide +kernel
theorem dX3_followLoop_56 : decode cX3_followLoop 56 = .ok (.iadd, 1) := by decide +kernel
theorem dX3_followLoop_57 : decode cX3_followLoop 57 = .ok (.invokevirtual 45, 3) := by decide +kernel
theorem dX3_followLoop_60 : decode cX3_followLoop 60 = .ok (.aload_n 0, 1) := by decide +kernel
theorem dX3_followLoop_61 : decode cX3_followLoop 61 = .ok (.getfield 20, 3) := by decide +kernel
theorem dX3_followLoop_64 : decode cX3_followLoop 64 = .ok (.iload_n 3, 1) := by decide +kernel
theorem dX3_followLoop_65 : decode cX3_followLoop 65 = .ok (.aaload, 1) := by decide +kernel
theorem dX3_followLoop_66 : decode cX3_followLoop 66 = .ok (.aload_n 0, 1) := by decide +kernel
theorem dX3_followLoop_67 : decode cX3_followLoop 67 = .ok (.getfield 20, 3) := by decide +kernel
theorem dX3_followLoop_70 : decode cX3_followLoop 70 = .ok (.iload_n 3, 1) := by decide +kernel
theorem dX3_followLoop_71 : decode cX3_followLoop 71 = .ok (.iconst 1, 1) := by decide +kernel
theorem dX3_followLoop_72 : decode cX3_followLoop 72 = .ok (.iadd, 1) := by decide +kernel
theorem dX3_followLoop_73 : decode cX3_followLoop 73 = .ok (.aaload, 1) := by decide +kernel
theorem dX3_followLoop_74 : decode cX3_followLoop 74 = .ok (.invokevirtual 122, 3) := by decide +kernel
theorem dX3_followLoop_77 : decode cX3_followLoop 77 = .ok (.istore 5, 2) := by decide +kernel
theorem dX3_followLoop_79 : decode cX3_followLoop 79 = .ok (.iinc 6 1, 3) := by decide +kernel
theorem dX3_followLoop_82 : decode cX3_followLoop 82 = .ok (.goto (-64), 3) := by decide +kernel
theorem dX3_followLoop_85 : decode cX3_followLoop 85 = .ok (.iload 4, 2) := by decide +kernel
theorem dX3_followLoop_87 : decode cX3_followLoop 87 = .ok (.ireturn, 1) := by decide +kernel
theorem dX4_init_0 : decode cX4_init 0 = .ok (.aload_n 0, 1) := by decide +kernel
theorem dX4_init_1 : decode cX4_init 1 = .ok (.invokespecial 3, 3) := by decide +kernel
theorem dX4_init_4 : decode cX4_init 4 = .ok (.aload_n 0, 1) := by decide +kernel
theorem dX4_init_5 : decode cX4_init 5 = .ok (.sipush 157, 3) := by decide +kernel
theorem dX4_init_8 : decode cX4_init 8 = .ok (.newarray .int, 2) := by decide +kernel
theorem dX4_init_10 : decode cX4_init 10 = .ok (.putfield 11, 3) := by decide +kernel
theorem dX4_init_13 : decode cX4_init 13 = .ok (.aload_n 0, 1) := by decide +kernel
theorem dX4_init_14 : decode cX4_init 14 = .ok (.sipush 512, 3) := by decide +kernel
theorem dX4_init_17 : decode cX4_init 17 = .ok (.newarray .int, 2) := by decide +kernel
theorem dX4_init_19 : decode cX4_init 19 = .ok (.putfield 17, 3) := by decide +kernel
theorem dX4_init_22 : decode cX4_init 22 = .ok (.aload_n 0, 1) := by decide +kernel
theorem dX4_init_23 : decode cX4_init 23 = .ok (.sipush 512, 3) := by decide +kernel
theorem dX4_init_26 : decode cX4_init 26 = .ok (.newarray .int, 2) := by decide +kernel
theorem dX4_init_28 : decode cX4_init 28 = .ok (.putfield 20, 3) := by decide +kernel
theorem dX4_init_31 : decode cX4_init 31 = .ok (.aload_n 0, 1) := by decide +kernel
theorem dX4_init_32 : decode cX4_init 32 = .ok (.iconst 0, 1) := by decide +kernel
theorem dX4_init_33 : decode cX4_init 33 = .ok (.putfield 23, 3) := by decide +kernel
theorem dX4_init_36 : decode cX4_init 36 = .ok (.aload_n 0, 1) := by decide +kernel
theorem dX4_init_37 : decode cX4_init 37 = .ok (.getfield 17, 3) := by decide +kernel
theorem dX4_init_40 : decode cX4_init 40 = .ok (.iconst (-1), 1) := by decide +kernel
theorem dX4_init_41 : decode cX4_init 41 = .ok (.invokestatic 27, 3) := by decide +kernel
theorem dX4_init_44 : decode cX4_init 44 = .ok (.return_, 1) := by decide +kernel
theorem dX4_wipe_0 : decode cX4_wipe 0 = .ok (.iconst 0, 1) := by decide +kernel
theorem dX4_wipe_1 : decode cX4_wipe 1 = .ok (.istore_n 1, 1) := by decide +kernel
theorem dX4_wipe_2 : decode cX4_wipe 2 = .ok (.iload_n 1, 1) := by decide +kernel
theorem dX4_wipe_3 : decode cX4_wipe 3 = .ok (.aload_n 0, 1) := by decide +kernel
theorem dX4_wipe_4 : decode cX4_wipe 4 = .ok (.getfield 23, 3) := by decide +kernel
theorem dX4_wipe_7 : decode cX4_wipe 7 = .ok (.if_icmp .ge 27, 3) := by decide +kernel
theorem dX4_wipe_10 : decode cX4_wipe 10 = .ok (.iload_n 1, 1) := by decide +kernel
theorem dX4_wipe_11 : decode cX4_wipe 11 = .ok (.sipush 157, 3) := by decide +kernel
theorem dX4_wipe_14 : decode cX4_wipe 14 = .ok (.if_icmp .ge 20, 3) := by decide +kernel
theorem dX4_wipe_17 : decode cX4_wipe 17 = .ok (.aload_n 0, 1) := by decide +kernel
theorem dX4_wipe_18 : decode cX4_wipe 18 = .ok (.getfield 17, 3) := by decide +kernel
theorem dX4_wipe_21 : decode cX4_wipe 21 = .ok (.aload_n 0, 1) := by decide +kernel
theorem dX4_wipe_22 : decode cX4_wipe 22 = .ok (.iload_n 1, 1) := by decide +kernel
theorem dX4_wipe_23 : decode cX4_wipe 23 = .ok (.invokevirtual 33, 3) := by decide +kernel
theorem dX4_wipe_26 : decode cX4_wipe 26 = .ok (.iconst (-1), 1) := by decide +kernel
theorem dX4_wipe_27 : decode cX4_wipe 27 = .ok (.iastore, 1) := by decide +kernel
theorem dX4_wipe_28 : decode cX4_wipe 28 = .ok (.iinc 1 1, 3) := by decide +kernel
theorem dX4_wipe_31 : decode cX4_wipe 31 = .ok (.goto (-29), 3) := by decide +kernel
theorem dX4_wipe_34 : decode cX4_wipe 34 = .ok (.aload_n 0, 1) := by decide +kernel
theorem dX4_wipe_35 : decode cX4_wipe 35 = .ok (.iconst 0, 1) := by decide +kernel
theorem dX4_wipe_36 : decode cX4_wipe 36 = .ok (.putfield 23, 3) := by decide +kernel
theorem dX4_wipe_39 : decode cX4_wipe 39 = .ok (.return_, 1) := by decide +kernel
theorem dX4_put_0 : decode cX4_put 0 = .ok (.iload_n 1, 1) := by decide +kernel
theorem dX4_put_1 : decode cX4_put 1 = .ok (.ifCond .lt 10, 3) := by decide +kernel
theorem dX4_put_4 : decode cX4_put 4 = .ok (.iload_n 1, 1) := by decide +kernel
theorem dX4_put_5 : decode cX4_put 5 = .ok (.sipush 512, 3) := by decide +kernel
theorem dX4_put_8 : decode cX4_put 8 = .ok (.if_icmp .lt 4, 3) := by decide +kernel
theorem dX4_put_11 : decode cX4_put 11 = .ok (.return_, 1) := by decide +kernel
theorem dX4_put_12 : decode cX4_put 12 = .ok (.aload_n 0, 1) := by decide +kernel
theorem dX4_put_13 : decode cX4_put 13 = .ok (.getfield 17, 3) := by decide +kernel
theorem dX4_put_16 : decode cX4_put 16 = .ok (.iload_n 1, 1) := by decide +kernel
theorem dX4_put_17 : decode cX4_put 17 = .ok (.iaload, 1) := by decide +kernel
theorem dX4_put_18 : decode cX4_put 18 = .ok (.iconst (-1), 1) := by decide +kernel
theorem dX4_put_19 : decode cX4_put 19 = .ok (.if_icmp .eq 38, 3) := by decide +kernel
theorem dX4_put_22 : decode cX4_put 22 = .ok (.aload_n 0, 1) := by decide +kernel
theorem dX4_put_23 : decode cX4_put 23 = .ok (.getfield 17, 3) := by decide +kernel
theorem dX4_put_26 : decode cX4_put 26 = .ok (.iload_n 1, 1) := by decide +kernel
theorem dX4_put_27 : decode cX4_put 27 = .ok (.aload_n 0, 1) := by decide +kernel
theorem dX4_put_28 : decode cX4_put 28 = .ok (.getfield 17, 3) := by decide +kernel
theorem dX4_put_31 : decode cX4_put 31 = .ok (.iload_n 1, 1) := by decide +kernel
theorem dX4_put_32 : decode cX4_put 32 = .ok (.iaload, 1) := by decide +kernel
theorem dX4_put_33 : decode cX4_put 33 = .ok (.iload_n 2, 1) := by decide +kernel
theorem dX4_put_34 : decode cX4_put 34 = .ok (.invokestatic 37, 3) := by decide +kernel
theorem dX4_put_37 : decode cX4_put 37 = .ok (.iastore, 1) := by decide +kernel
theorem dX4_put_38 : decode cX4_put 38 = .ok (.aload_n 0, 1) := by decide +kernel
theorem dX4_put_39 : decode cX4_put 39 = .ok (.getfield 20, 3) := by decide +kernel
theorem dX4_put_42 : decode cX4_put 42 = .ok (.iload_n 1, 1) := by decide +kernel
theorem dX4_put_43 : decode cX4_put 43 = .ok (.aload_n 0, 1) := by decide +kernel
theorem dX4_put_44 : decode cX4_put 44 = .ok (.getfield 20, 3) := by decide +kernel
theorem dX4_put_47 : decode cX4_put 47 = .ok (.iload_n 1, 1) := by decide +kernel
theorem dX4_put_48 : decode cX4_put 48 = .ok (.iaload, 1) := by decide +kernel
theorem dX4_put_49 : decode cX4_put 49 = .ok (.iload_n 3, 1) := by decide +kernel
theorem dX4_put_50 : decode cX4_put 50 = .ok (.invokestatic 43, 3) := by decide +kernel
theorem dX4_put_53 : decode cX4_put 53 = .ok (.iastore, 1) := by decide +kernel
theorem dX4_put_54 : decode cX4_put 54 = .ok (.goto 54, 3) := by decide +kernel
theorem dX4_put_57 : decode cX4_put 57 = .ok (.aload_n 0, 1) := by decide +kernel
theorem dX4_put_58 : decode cX4_put 58 = .ok (.getfield 23, 3) := by decide +kernel
theorem dX4_put_61 : decode cX4_put 61 = .ok (.ifCond .lt 47, 3) := by decide +kernel
theorem dX4_put_64 : decode cX4_put 64 = .ok (.aload_n 0, 1) := by decide +kernel
theorem dX4_put_65 : decode cX4_put 65 = .ok (.getfield 23, 3) := by decide +kernel
theorem dX4_put_68 : decode cX4_put 68 = .ok (.sipush 157, 3) := by decide +kernel
theorem dX4_put_71 : decode cX4_put 71 = .ok (.if_icmp .ge 37, 3) := by decide +kernel
theorem dX4_put_74 : decode cX4_put 74 = .ok (.aload_n 0, 1) := by decide +kernel
theorem dX4_put_75 : decode cX4_put 75 = .ok (.getfield 11, 3) := by decide +kernel
theorem dX4_put_78 : decode cX4_put 78 = .ok (.aload_n 0, 1) := by decide +kernel
theorem dX4_put_79 : decode cX4_put 79 = .ok (.getfield 23, 3) := by decide +kernel
theorem dX4_put_82 : decode cX4_put 82 = .ok (.iload_n 1, 1) := by decide +kernel
theorem dX4_put_83 : decode cX4_put 83 = .ok (.iastore, 1) := by decide +kernel
theorem dX4_put_84 : decode cX4_put 84 = .ok (.aload_n 0, 1) := by decide +kernel
theorem dX4_put_85 : decode cX4_put 85 = .ok (.dup, 1) := by decide +kernel
theorem dX4_put_86 : decode cX4_put 86 = .ok (.getfield 23, 3) := by decide +kernel
theorem dX4_put_89 : decode cX4_put 89 = .ok (.iconst 1, 1) := by decide +kernel
theorem dX4_put_90 : decode cX4_put 90 = .ok (.iadd, 1) := by decide +kernel
theorem dX4_put_91 : decode cX4_put 91 = .ok (.putfield 23, 3) := by decide +kernel
theorem dX4_put_94 : decode cX4_put 94 = .ok (.aload_n 0, 1) := by decide +kernel
theorem dX4_put_95 : decode cX4_put 95 = .ok (.getfield 17, 3) := by decide +kernel
theorem dX4_put_98 : decode cX4_put 98 = .ok (.iload_n 1, 1) := by decide +kernel
theorem dX4_put_99 : decode cX4_put 99 = .ok (.iload_n 2, 1) := by decide +kernel
theorem dX4_put_100 : decode cX4_put 100 = .ok (.iastore, 1) := by decide +kernel
theorem dX4_put_101 : decode cX4_put 101 = .ok (.aload_n 0, 1) := by decide +kernel
theorem dX4_put_102 : decode cX4_put 102 = .ok (.getfield 20, 3) := by decide +kernel
theorem dX4_put_105 : decode cX4_put 105 = .ok (.iload_n 1, 1) := by decide +kernel
theorem dX4_put_106 : decode cX4_put 106 = .ok (.iload_n 3, 1) := by decide +kernel
theorem dX4_put_107 : decode cX4_put 107 = .ok (.iastore, 1) := by decide +kernel
theorem dX4_put_108 : decode cX4_put 108 = .ok (.return_, 1) := by decide +kernel
theorem dX4_putAll_0 : decode cX4_putAll 0 = .ok (.iconst 0, 1) := by decide +kernel
theorem dX4_putAll_1 : decode cX4_putAll 1 = .ok (.istore_n 2, 1) := by decide +kernel
theorem dX4_putAll_2 : decode cX4_putAll 2 = .ok (.iload_n 2, 1) := by decide +kernel
theorem dX4_putAll_3 : decode cX4_putAll 3 = .ok (.aload_n 1, 1) := by decide +kernel
theorem dX4_putAll_4 : decode cX4_putAll 4 = .ok (.getfield 23, 3) := by decide +kernel
theorem dX4_putAll_7 : decode cX4_putAll 7 = .ok (.if_icmp .ge 32, 3) := by decide +kernel
theorem dX4_putAll_10 : decode cX4_putAll 10 = .ok (.aload_n 1, 1) := by decide +kernel
theorem dX4_putAll_11 : decode cX4_putAll 11 = .ok (.iload_n 2, 1) := by decide +kernel
theorem dX4_putAll_12 : decode cX4_putAll 12 = .ok (.invokevirtual 33, 3) := by decide +kernel
theorem dX4_putAll_15 : decode cX4_putAll 15 = .ok (.istore_n 3, 1) := by decide +kernel
theorem dX4_putAll_16 : decode cX4_putAll 16 = .ok (.aload_n 0, 1) := by decide +kernel
theorem dX4_putAll_17 : decode cX4_putAll 17 = .ok (.iload_n 3, 1) := by decide +kernel
theorem dX4_putAll_18 : decode cX4_putAll 18 = .ok (.aload_n 1, 1) := by decide +kernel
theorem dX4_putAll_19 : decode cX4_putAll 19 = .ok (.getfield 17, 3) := by decide +kernel
theorem dX4_putAll_22 : decode cX4_putAll 22 = .ok (.iload_n 3, 1) := by decide +kernel
theorem dX4_putAll_23 : decode cX4_putAll 23 = .ok (.iaload, 1) := by decide +kernel
theorem dX4_putAll_24 : decode cX4_putAll 24 = .ok (.aload_n 1, 1) := by decide +kernel
theorem dX4_putAll_25 : decode cX4_putAll 25 = .ok (.getfield 20, 3) := by decide +kernel
theorem dX4_putAll_28 : decode cX4_putAll 28 = .ok (.iload_n 3, 1) := by decide +kernel
theorem dX4_putAll_29 : decode cX4_putAll 29 = .ok (.iaload, 1) := by decide +kernel
theorem dX4_putAll_30 : decode cX4_putAll 30 = .ok (.invokevirtual 46, 3) := by decide +kernel
theorem dX4_putAll_33 : decode cX4_putAll 33 = .ok (.iinc 2 1, 3) := by decide +kernel
theorem dX4_putAll_36 : decode cX4_putAll 36 = .ok (.goto (-34), 3) := by decide +kernel
theorem dX4_putAll_39 : decode cX4_putAll 39 = .ok (.return_, 1) := by decide +kernel
theorem dX4_setAs_0 : decode cX4_setAs 0 = .ok (.aload_n 0, 1) := by decide +kernel
theorem dX4_setAs_1 : decode cX4_setAs 1 = .ok (.invokevirtual 50, 3) := by decide +kernel
theorem dX4_setAs_4 : decode cX4_setAs 4 = .ok (.aload_n 0, 1) := by decide +kernel
theorem dX4_setAs_5 : decode cX4_setAs 5 = .ok (.aload_n 1, 1) := by decide +kernel
theorem dX4_setAs_6 : decode cX4_setAs 6 = .ok (.invokevirtual 53, 3) := by decide +kernel
theorem dX4_setAs_9 : decode cX4_setAs 9 = .ok (.return_, 1) := by decide +kernel
theorem dX4_setAfterLook_0 : decode cX4_setAfterLook 0 = .ok (.aload_n 0, 1) := by decide +kernel
theorem dX4_setAfterLook_1 : decode cX4_setAfterLook 1 = .ok (.invokevirtual 50, 3) := by decide +kernel
theorem dX4_setAfterLook_4 : decode cX4_setAfterLook 4 = .ok (.iconst 0, 1) := by decide +kernel
theorem dX4_setAfterLook_5 : decode cX4_setAfterLook 5 = .ok (.istore 4, 2) := by decide +kernel
theorem dX4_setAfterLook_7 : decode cX4_setAfterLook 7 = .ok (.iload 4, 2) := by decide +kernel
theorem dX4_setAfterLook_9 : decode cX4_setAfterLook 9 = .ok (.aload_n 1, 1) := by decide +kernel
theorem dX4_setAfterLook_10 : decode cX4_setAfterLook 10 = .ok (.getfield 23, 3) := by decide +kernel
theorem dX4_setAfterLook_13 : decode cX4_setAfterLook 13 = .ok (.if_icmp .ge 109, 3) := by decide +kernel
theorem dX4_setAfterLook_16 : decode cX4_setAfterLook 16 = .ok (.aload_n 1, 1) := by decide +kernel
theorem dX4_setAfterLook_17 : decode cX4_setAfterLook 17 = .ok (.iload 4, 2) := by decide +kernel
theorem dX4_setAfterLook_19 : decode cX4_setAfterLook 19 = .ok (.invokevirtual 33, 3) := by decide +kernel
theorem dX4_setAfterLook_22 : decode cX4_setAfterLook 22 = .ok (.istore 5, 2) := by decide +kernel
theorem dX4_setAfterLook_24 : decode cX4_setAfterLook 24 = .ok (.iload 5, 2) := by decide +kernel
theorem dX4_setAfterLook_26 : decode cX4_setAfterLook 26 = .ok (.iload_n 2, 1) := by decide +kernel
theorem dX4_setAfterLook_27 : decode cX4_setAfterLook 27 = .ok (.invokestatic 57, 3) := by decide +kernel
theorem dX4_setAfterLook_30 : decode cX4_setAfterLook 30 = .ok (.istore 6, 2) := by decide +kernel
theorem dX4_setAfterLook_32 : decode cX4_setAfterLook 32 = .ok (.iload 6, 2) := by decide +kernel
theorem dX4_setAfterLook_34 : decode cX4_setAfterLook 34 = .ok (.iconst (-1), 1) := by decide +kernel
theorem dX4_setAfterLook_35 : decode cX4_setAfterLook 35 = .ok (.if_icmp .ne 44, 3) := by decide +kernel
theorem dX4_setAfterLook_38 : decode cX4_setAfterLook 38 = .ok (.aload_n 0, 1) := by decide +kernel
theorem dX4_setAfterLook_39 : decode cX4_setAfterLook 39 = .ok (.iload 5, 2) := by decide +kernel
theorem dX4_setAfterLook_41 : decode cX4_setAfterLook 41 = .ok (.iload_n 2, 1) := by decide +kernel
theorem dX4_setAfterLook_42 : decode cX4_setAfterLook 42 = .ok (.aload_n 3, 1) := by decide +kernel
theorem dX4_setAfterLook_43 : decode cX4_setAfterLook 43 = .ok (.getfield 60, 3) := by decide +kernel
theorem dX4_setAfterLook_46 : decode cX4_setAfterLook 46 = .ok (.invokestatic 65, 3) := by decide +kernel
theorem dX4_setAfterLook_49 : decode cX4_setAfterLook 49 = .ok (.aload_n 1, 1) := by decide +kernel
theorem dX4_setAfterLook_50 : decode cX4_setAfterLook 50 = .ok (.getfield 17, 3) := by decide +kernel
theorem dX4_setAfterLook_53 : decode cX4_setAfterLook 53 = .ok (.iload 5, 2) := by decide +kernel
theorem dX4_setAfterLook_55 : decode cX4_setAfterLook 55 = .ok (.iaload, 1) := by decide +kernel
theorem dX4_setAfterLook_56 : decode cX4_setAfterLook 56 = .ok (.aload_n 3, 1) := by decide +kernel
theorem dX4_setAfterLook_57 : decode cX4_setAfterLook 57 = .ok (.getfield 69, 3) := by decide +kernel
theorem dX4_setAfterLook_60 : decode cX4_setAfterLook 60 = .ok (.iadd, 1) := by decide +kernel
theorem dX4_setAfterLook_61 : decode cX4_setAfterLook 61 = .ok (.aload_n 1, 1) := by decide +kernel
theorem dX4_setAfterLook_62 : decode cX4_setAfterLook 62 = .ok (.getfield 20, 3) := by decide +kernel
theorem dX4_setAfterLook_65 : decode cX4_setAfterLook 65 = .ok (.iload 5, 2) := by decide +kernel
theorem dX4_setAfterLook_67 : decode cX4_setAfterLook 67 = .ok (.iaload, 1) := by decide +kernel
theorem dX4_setAfterLook_68 : decode cX4_setAfterLook 68 = .ok (.aload_n 3, 1) := by decide +kernel
theorem dX4_setAfterLook_69 : decode cX4_setAfterLook 69 = .ok (.getfield 69, 3) := by decide +kernel
theorem dX4_setAfterLook_72 : decode cX4_setAfterLook 72 = .ok (.iadd, 1) := by decide +kernel
theorem dX4_setAfterLook_73 : decode cX4_setAfterLook 73 = .ok (.invokevirtual 46, 3) := by decide +kernel
theorem dX4_setAfterLook_76 : decode cX4_setAfterLook 76 = .ok (.goto 40, 3) := by decide +kernel
theorem dX4_setAfterLook_79 : decode cX4_setAfterLook 79 = .ok (.aload_n 0, 1) := by decide +kernel
theorem dX4_setAfterLook_80 : decode cX4_setAfterLook 80 = .ok (.iload 5, 2) := by decide +kernel
theorem dX4_setAfterLook_82 : decode cX4_setAfterLook 82 = .ok (.iload 6, 2) := by decide +kernel
theorem dX4_setAfterLook_84 : decode cX4_setAfterLook 84 = .ok (.aload_n 3, 1) := by decide +kernel
theorem dX4_setAfterLook_85 : decode cX4_setAfterLook 85 = .ok (.getfield 60, 3) := by decide +kernel
theorem dX4_setAfterLook_88 : decode cX4_setAfterLook 88 = .ok (.aload_n 3, 1) := by decide +kernel
theorem dX4_setAfterLook_89 : decode cX4_setAfterLook 89 = .ok (.getfield 72, 3) := by decide +kernel
theorem dX4_setAfterLook_92 : decode cX4_setAfterLook 92 = .ok (.invokestatic 75, 3) := by decide +kernel
theorem dX4_setAfterLook_95 : decode cX4_setAfterLook 95 = .ok (.aload_n 1, 1) := by decide +kernel
theorem dX4_setAfterLook_96 : decode cX4_setAfterLook 96 = .ok (.getfield 17, 3) := by decide +kernel
theorem dX4_setAfterLook_99 : decode cX4_setAfterLook 99 = .ok (.iload 5, 2) := by decide +kernel
theorem dX4_setAfterLook_101 : decode cX4_setAfterLook 101 = .ok (.iaload, 1) := by decide +kernel
theorem dX4_setAfterLook_102 : decode cX4_setAfterLook 102 = .ok (.iconst 1, 1) := by decide +kernel
theorem dX4_setAfterLook_103 : decode cX4_setAfterLook 103 = .ok (.iadd, 1) := by decide +kernel
theorem dX4_setAfterLook_104 : decode cX4_setAfterLook 104 = .ok (.aload_n 1, 1) := by decide +kernel
theorem dX4_setAfterLook_105 : decode cX4_setAfterLook 105 = .ok (.getfield 20, 3) := by decide +kernel
theorem dX4_setAfterLook_108 : decode cX4_setAfterLook 108 = .ok (.iload 5, 2) := by decide +kernel
theorem dX4_setAfterLook_110 : decode cX4_setAfterLook 110 = .ok (.iaload, 1) := by decide +kernel
theorem dX4_setAfterLook_111 : decode cX4_setAfterLook 111 = .ok (.iconst 1, 1) := by decide +kernel
theorem dX4_setAfterLook_112 : decode cX4_setAfterLook 112 = .ok (.iadd, 1) := by decide +kernel
theorem dX4_setAfterLook_113 : decode cX4_setAfterLook 113 = .ok (.invokevirtual 46, 3) := by decide +kernel
theorem dX4_setAfterLook_116 : decode cX4_setAfterLook 116 = .ok (.iinc 4 1, 3) := by decide +kernel
theorem dX4_setAfterLook_119 : decode cX4_setAfterLook 119 = .ok (.goto (-112), 3) := by decide +kernel
theorem dX4_setAfterLook_122 : decode cX4_setAfterLook 122 = .ok (.return_, 1) := by decide +kernel
theorem dX4_work_0 : decode cX4_work 0 = .ok (.iconst 0, 1) := by decide +kernel
theorem dX4_work_1 : decode cX4_work 1 = .ok (.istore_n 1, 1) := by decide +kernel
theorem dX4_work_2 : decode cX4_work 2 = .ok (.iload_n 1, 1) := by decide +kernel
theorem dX4_work_3 : decode cX4_work 3 = .ok (.aload_n 0, 1) := by decide +kernel
theorem dX4_work_4 : decode cX4_work 4 = .ok (.getfield 23, 3) := by decide +kernel
theorem dX4_work_7 : decode cX4_work 7 = .ok (.if_icmp .ge 35, 3) := by decide +kernel
theorem dX4_work_10 : decode cX4_work 10 = .ok (.aload_n 0, 1) := by decide +kernel
theorem dX4_work_11 : decode cX4_work 11 = .ok (.iload_n 1, 1) := by decide +kernel
theorem dX4_work_12 : decode cX4_work 12 = .ok (.invokevirtual 33, 3) := by decide +kernel
theorem dX4_work_15 : decode cX4_work 15 = .ok (.istore_n 2, 1) := by decide +kernel
theorem dX4_work_16 : decode cX4_work 16 = .ok (.aload_n 0, 1) := by decide +kernel
theorem dX4_work_17 : decode cX4_work 17 = .ok (.getfield 17, 3) := by decide +kernel
theorem dX4_work_20 : decode cX4_work 20 = .ok (.iload_n 2, 1) := by decide +kernel
theorem dX4_work_21 : decode cX4_work 21 = .ok (.dup2, 1) := by decide +kernel
theorem dX4_work_22 : decode cX4_work 22 = .ok (.iaload, 1) := by decide +kernel
theorem dX4_work_23 : decode cX4_work 23 = .ok (.iconst 1, 1) := by decide +kernel
theorem dX4_work_24 : decode cX4_work 24 = .ok (.iadd, 1) := by decide +kernel
theorem dX4_work_25 : decode cX4_work 25 = .ok (.iastore, 1) := by decide +kernel
theorem dX4_work_26 : decode cX4_work 26 = .ok (.aload_n 0, 1) := by decide +kernel
theorem dX4_work_27 : decode cX4_work 27 = .ok (.getfield 20, 3) := by decide +kernel
theorem dX4_work_30 : decode cX4_work 30 = .ok (.iload_n 2, 1) := by decide +kernel
theorem dX4_work_31 : decode cX4_work 31 = .ok (.dup2, 1) := by decide +kernel
theorem dX4_work_32 : decode cX4_work 32 = .ok (.iaload, 1) := by decide +kernel
theorem dX4_work_33 : decode cX4_work 33 = .ok (.iconst 1, 1) := by decide +kernel
theorem dX4_work_34 : decode cX4_work 34 = .ok (.iadd, 1) := by decide +kernel
theorem dX4_work_35 : decode cX4_work 35 = .ok (.iastore, 1) := by decide +kernel
theorem dX4_work_36 : decode cX4_work 36 = .ok (.iinc 1 1, 3) := by decide +kernel
theorem dX4_work_39 : decode cX4_work 39 = .ok (.goto (-37), 3) := by decide +kernel
theorem dX4_work_42 : decode cX4_work 42 = .ok (.return_, 1) := by decide +kernel
theorem dX4_mostOfAll_0 : decode cX4_mostOfAll 0 = .ok (.iconst 0, 1) := by decide +kernel
theorem dX4_mostOfAll_1 : decode cX4_mostOfAll 1 = .ok (.istore_n 1, 1) := by decide +kernel
theorem dX4_mostOfAll_2 : decode cX4_mostOfAll 2 = .ok (.iconst 0, 1) := by decide +kernel
theorem dX4_mostOfAll_3 : decode cX4_mostOfAll 3 = .ok (.istore_n 2, 1) := by decide +kernel
theorem dX4_mostOfAll_4 : decode cX4_mostOfAll 4 = .ok (.iload_n 2, 1) := by decide +kernel
theorem dX4_mostOfAll_5 : decode cX4_mostOfAll 5 = .ok (.aload_n 0, 1) := by decide +kernel
theorem dX4_mostOfAll_6 : decode cX4_mostOfAll 6 = .ok (.getfield 23, 3) := by decide +kernel
theorem dX4_mostOfAll_9 : decode cX4_mostOfAll 9 = .ok (.if_icmp .ge 24, 3) := by decide +kernel
theorem dX4_mostOfAll_12 : decode cX4_mostOfAll 12 = .ok (.iload_n 1, 1) := by decide +kernel
theorem dX4_mostOfAll_13 : decode cX4_mostOfAll 13 = .ok (.aload_n 0, 1) := by decide +kernel
theorem dX4_mostOfAll_14 : decode cX4_mostOfAll 14 = .ok (.getfield 17, 3) := by decide +kernel
theorem dX4_mostOfAll_17 : decode cX4_mostOfAll 17 = .ok (.aload_n 0, 1) := by decide +kernel
theorem dX4_mostOfAll_18 : decode cX4_mostOfAll 18 = .ok (.iload_n 2, 1) := by decide +kernel
theorem dX4_mostOfAll_19 : decode cX4_mostOfAll 19 = .ok (.invokevirtual 33, 3) := by decide +kernel
theorem dX4_mostOfAll_22 : decode cX4_mostOfAll 22 = .ok (.iaload, 1) := by decide +kernel
theorem dX4_mostOfAll_23 : decode cX4_mostOfAll 23 = .ok (.invokestatic 37, 3) := by decide +kernel
theorem dX4_mostOfAll_26 : decode cX4_mostOfAll 26 = .ok (.istore_n 1, 1) := by decide +kernel
theorem dX4_mostOfAll_27 : decode cX4_mostOfAll 27 = .ok (.iinc 2 1, 3) := by decide +kernel
theorem dX4_mostOfAll_30 : decode cX4_mostOfAll 30 = .ok (.goto (-26), 3) := by decide +kernel
theorem dX4_mostOfAll_33 : decode cX4_mostOfAll 33 = .ok (.iload_n 1, 1) := by decide +kernel
theorem dX4_mostOfAll_34 : decode cX4_mostOfAll 34 = .ok (.ireturn, 1) := by decide +kernel
theorem dX4_leastOfAll_0 : decode cX4_leastOfAll 0 = .ok (.aload_n 0, 1) := by decide +kernel
theorem dX4_leastOfAll_1 : decode cX4_leastOfAll 1 = .ok (.getfield 23, 3) := by decide +kernel
theorem dX4_leastOfAll_4 : decode cX4_leastOfAll 4 = .ok (.ifCond .ne 7, 3) := by decide +kernel
theorem dX4_leastOfAll_7 : decode cX4_leastOfAll 7 = .ok (.iconst 0, 1) := by decide +kernel
theorem dX4_leastOfAll_8 : decode cX4_leastOfAll 8 = .ok (.goto 13, 3) := by decide +kernel
theorem dX4_leastOfAll_11 : decode cX4_leastOfAll 11 = .ok (.aload_n 0, 1) := by decide +kernel
theorem dX4_leastOfAll_12 : decode cX4_leastOfAll 12 = .ok (.getfield 20, 3) := by decide +kernel
theorem dX4_leastOfAll_15 : decode cX4_leastOfAll 15 = .ok (.aload_n 0, 1) := by decide +kernel
theorem dX4_leastOfAll_16 : decode cX4_leastOfAll 16 = .ok (.iconst 0, 1) := by decide +kernel
theorem dX4_leastOfAll_17 : decode cX4_leastOfAll 17 = .ok (.invokevirtual 33, 3) := by decide +kernel
theorem dX4_leastOfAll_20 : decode cX4_leastOfAll 20 = .ok (.iaload, 1) := by decide +kernel
theorem dX4_leastOfAll_21 : decode cX4_leastOfAll 21 = .ok (.istore_n 1, 1) := by decide +kernel
theorem dX4_leastOfAll_22 : decode cX4_leastOfAll 22 = .ok (.iconst 1, 1) := by decide +kernel
theorem dX4_leastOfAll_23 : decode cX4_leastOfAll 23 = .ok (.istore_n 2, 1) := by decide +kernel
theorem dX4_leastOfAll_24 : decode cX4_leastOfAll 24 = .ok (.iload_n 2, 1) := by decide +kernel
theorem dX4_leastOfAll_25 : decode cX4_leastOfAll 25 = .ok (.aload_n 0, 1) := by decide +kernel
theorem dX4_leastOfAll_26 : decode cX4_leastOfAll 26 = .ok (.getfield 23, 3) := by decide +kernel
theorem dX4_leastOfAll_29 : decode cX4_leastOfAll 29 = .ok (.if_icmp .ge 24, 3) := by decide +kernel
theorem dX4_leastOfAll_32 : decode cX4_leastOfAll 32 = .ok (.iload_n 1, 1) := by decide +kernel
theorem dX4_leastOfAll_33 : decode cX4_leastOfAll 33 = .ok (.aload_n 0, 1) := by decide +kernel
theorem dX4_leastOfAll_34 : decode cX4_leastOfAll 34 = .ok (.getfield 20, 3) := by decide +kernel
theorem dX4_leastOfAll_37 : decode cX4_leastOfAll 37 = .ok (.aload_n 0, 1) := by decide +kernel
theorem dX4_leastOfAll_38 : decode cX4_leastOfAll 38 = .ok (.iload_n 2, 1) := by decide +kernel
theorem dX4_leastOfAll_39 : decode cX4_leastOfAll 39 = .ok (.invokevirtual 33, 3) := by decide +kernel
theorem dX4_leastOfAll_42 : decode cX4_leastOfAll 42 = .ok (.iaload, 1) := by decide +kernel
theorem dX4_leastOfAll_43 : decode cX4_leastOfAll 43 = .ok (.invokestatic 43, 3) := by decide +kernel
theorem dX4_leastOfAll_46 : decode cX4_leastOfAll 46 = .ok (.istore_n 1, 1) := by decide +kernel
theorem dX4_leastOfAll_47 : decode cX4_leastOfAll 47 = .ok (.iinc 2 1, 3) := by decide +kernel
theorem dX4_leastOfAll_50 : decode cX4_leastOfAll 50 = .ok (.goto (-26), 3) := by decide +kernel
theorem dX4_leastOfAll_53 : decode cX4_leastOfAll 53 = .ok (.iload_n 1, 1) := by decide +kernel
theorem dX4_leastOfAll_54 : decode cX4_leastOfAll 54 = .ok (.ireturn, 1) := by decide +kernel
theorem dX4_rowAt_0 : decode cX4_rowAt 0 = .ok (.iload_n 1, 1) := by decide +kernel
theorem dX4_rowAt_1 : decode cX4_rowAt 1 = .ok (.ifCond .lt 23, 3) := by decide +kernel
theorem dX4_rowAt_4 : decode cX4_rowAt 4 = .ok (.iload_n 1, 1) := by decide +kernel
theorem dX4_rowAt_5 : decode cX4_rowAt 5 = .ok (.sipush 157, 3) := by decide +kernel
theorem dX4_rowAt_8 : decode cX4_rowAt 8 = .ok (.if_icmp .ge 16, 3) := by decide +kernel
theorem dX4_rowAt_11 : decode cX4_rowAt 11 = .ok (.aload_n 0, 1) := by decide +kernel
theorem dX4_rowAt_12 : decode cX4_rowAt 12 = .ok (.getfield 11, 3) := by decide +kernel
theorem dX4_rowAt_15 : decode cX4_rowAt 15 = .ok (.iload_n 1, 1) := by decide +kernel
theorem dX4_rowAt_16 : decode cX4_rowAt 16 = .ok (.iaload, 1) := by decide +kernel
theorem dX4_rowAt_17 : decode cX4_rowAt 17 = .ok (.sipush 511, 3) := by decide +kernel
theorem dX4_rowAt_20 : decode cX4_rowAt 20 = .ok (.iand, 1) := by decide +kernel
theorem dX4_rowAt_21 : decode cX4_rowAt 21 = .ok (.goto 4, 3) := by decide +kernel
theorem dX4_rowAt_24 : decode cX4_rowAt 24 = .ok (.iconst 0, 1) := by decide +kernel
theorem dX4_rowAt_25 : decode cX4_rowAt 25 = .ok (.ireturn, 1) := by decide +kernel
theorem dX5_init_0 : decode cX5_init 0 = .ok (.aload_n 0, 1) := by decide +kernel
theorem dX5_init_1 : decode cX5_init 1 = .ok (.invokespecial 3, 3) := by decide +kernel
theorem dX5_init_4 : decode cX5_init 4 = .ok (.aload_n 0, 1) := by decide +kernel
theorem dX5_init_5 : decode cX5_init 5 = .ok (.bipush 8, 2) := by decide +kernel
theorem dX5_init_7 : decode cX5_init 7 = .ok (.anewarray 9, 3) := by decide +kernel
theorem dX5_init_10 : decode cX5_init 10 = .ok (.putfield 11, 3) := by decide +kernel
theorem dX5_init_13 : decode cX5_init 13 = .ok (.aload_n 0, 1) := by decide +kernel
theorem dX5_init_14 : decode cX5_init 14 = .ok (.iconst 0, 1) := by decide +kernel
theorem dX5_init_15 : decode cX5_init 15 = .ok (.putfield 15, 3) := by decide +kernel
theorem dX5_init_18 : decode cX5_init 18 = .ok (.aload_n 0, 1) := by decide +kernel
theorem dX5_init_19 : decode cX5_init 19 = .ok (.iconst 0, 1) := by decide +kernel
theorem dX5_init_20 : decode cX5_init 20 = .ok (.putfield 19, 3) := by decide +kernel
theorem dX5_init_23 : decode cX5_init 23 = .ok (.iconst 0, 1) := by decide +kernel
theorem dX5_init_24 : decode cX5_init 24 = .ok (.istore_n 1, 1) := by decide +kernel
theorem dX5_init_25 : decode cX5_init 25 = .ok (.iload_n 1, 1) := by decide +kernel
theorem dX5_init_26 : decode cX5_init 26 = .ok (.bipush 8, 2) := by decide +kernel
theorem dX5_init_28 : decode cX5_init 28 = .ok (.if_icmp .ge 22, 3) := by decide +kernel
theorem dX5_init_31 : decode cX5_init 31 = .ok (.aload_n 0, 1) := by decide +kernel
theorem dX5_init_32 : decode cX5_init 32 = .ok (.getfield 11, 3) := by decide +kernel
theorem dX5_init_35 : decode cX5_init 35 = .ok (.iload_n 1, 1) := by decide +kernel
theorem dX5_init_36 : decode cX5_init 36 = .ok (.new 9, 3) := by decide +kernel
theorem dX5_init_39 : decode cX5_init 39 = .ok (.dup, 1) := by decide +kernel
theorem dX5_init_40 : decode cX5_init 40 = .ok (.invokespecial 22, 3) := by decide +kernel
theorem dX5_init_43 : decode cX5_init 43 = .ok (.aastore, 1) := by decide +kernel
theorem dX5_init_44 : decode cX5_init 44 = .ok (.iinc 1 1, 3) := by decide +kernel
theorem dX5_init_47 : decode cX5_init 47 = .ok (.goto (-22), 3) := by decide +kernel
theorem dX5_init_50 : decode cX5_init 50 = .ok (.return_, 1) := by decide +kernel
theorem dX5_remember_0 : decode cX5_remember 0 = .ok (.aload_n 0, 1) := by decide +kernel
theorem dX5_remember_1 : decode cX5_remember 1 = .ok (.getfield 11, 3) := by decide +kernel
theorem dX5_remember_4 : decode cX5_remember 4 = .ok (.aload_n 0, 1) := by decide +kernel
theorem dX5_remember_5 : decode cX5_remember 5 = .ok (.getfield 15, 3) := by decide +kernel
theorem dX5_remember_8 : decode cX5_remember 8 = .ok (.bipush 7, 2) := by decide +kernel
theorem dX5_remember_10 : decode cX5_remember 10 = .ok (.iand, 1) := by decide +kernel
theorem dX5_remember_11 : decode cX5_remember 11 = .ok (.aaload, 1) := by decide +kernel
theorem dX5_remember_12 : decode cX5_remember 12 = .ok (.aload_n 1, 1) := by decide +kernel
theorem dX5_remember_13 : decode cX5_remember 13 = .ok (.invokevirtual 23, 3) := by decide +kernel
theorem dX5_remember_16 : decode cX5_remember 16 = .ok (.aload_n 0, 1) := by decide +kernel
theorem dX5_remember_17 : decode cX5_remember 17 = .ok (.aload_n 0, 1) := by decide +kernel
theorem dX5_remember_18 : decode cX5_remember 18 = .ok (.getfield 15, 3) := by decide +kernel
theorem dX5_remember_21 : decode cX5_remember 21 = .ok (.iconst 1, 1) := by decide +kernel
theorem dX5_remember_22 : decode cX5_remember 22 = .ok (.iadd, 1) := by decide +kernel
theorem dX5_remember_23 : decode cX5_remember 23 = .ok (.bipush 7, 2) := by decide +kernel
theorem dX5_remember_25 : decode cX5_remember 25 = .ok (.iand, 1) := by decide +kernel
theorem dX5_remember_26 : decode cX5_remember 26 = .ok (.putfield 15, 3) := by decide +kernel
theorem dX5_remember_29 : decode cX5_remember 29 = .ok (.aload_n 0, 1) := by decide +kernel
theorem dX5_remember_30 : decode cX5_remember 30 = .ok (.aload_n 0, 1) := by decide +kernel
theorem dX5_remember_31 : decode cX5_remember 31 = .ok (.getfield 19, 3) := by decide +kernel
theorem dX5_remember_34 : decode cX5_remember 34 = .ok (.iconst 1, 1) := by decide +kernel
theorem dX5_remember_35 : decode cX5_remember 35 = .ok (.iadd, 1) := by decide +kernel
theorem dX5_remember_36 : decode cX5_remember 36 = .ok (.bipush 8, 2) := by decide +kernel
theorem dX5_remember_38 : decode cX5_remember 38 = .ok (.invokestatic 27, 3) := by decide +kernel
theorem dX5_remember_41 : decode cX5_remember 41 = .ok (.putfield 19, 3) := by decide +kernel
theorem dX5_remember_44 : decode cX5_remember 44 = .ok (.return_, 1) := by decide +kernel
theorem dX5_bringBack_0 : decode cX5_bringBack 0 = .ok (.aload_n 0, 1) := by decide +kernel
theorem dX5_bringBack_1 : decode cX5_bringBack 1 = .ok (.getfield 19, 3) := by decide +kernel
theorem dX5_bringBack_4 : decode cX5_bringBack 4 = .ok (.ifCond .ne 4, 3) := by decide +kernel
theorem dX5_bringBack_7 : decode cX5_bringBack 7 = .ok (.return_, 1) := by decide +kernel
theorem dX5_bringBack_8 : decode cX5_bringBack 8 = .ok (.aload_n 0, 1) := by decide +kernel
theorem dX5_bringBack_9 : decode cX5_bringBack 9 = .ok (.aload_n 0, 1) := by decide +kernel
theorem dX5_bringBack_10 : decode cX5_bringBack 10 = .ok (.getfield 15, 3) := by decide +kernel
theorem dX5_bringBack_13 : decode cX5_bringBack 13 = .ok (.iconst 1, 1) := by decide +kernel
theorem dX5_bringBack_14 : decode cX5_bringBack 14 = .ok (.isub, 1) := by decide +kernel
theorem dX5_bringBack_15 : decode cX5_bringBack 15 = .ok (.bipush 7, 2) := by decide +kernel
theorem dX5_bringBack_17 : decode cX5_bringBack 17 = .ok (.iand, 1) := by decide +kernel
theorem dX5_bringBack_18 : decode cX5_bringBack 18 = .ok (.putfield 15, 3) := by decide +kernel
theorem dX5_bringBack_21 : decode cX5_bringBack 21 = .ok (.aload_n 1, 1) := by decide +kernel
theorem dX5_bringBack_22 : decode cX5_bringBack 22 = .ok (.aload_n 0, 1) := by decide +kernel
theorem dX5_bringBack_23 : decode cX5_bringBack 23 = .ok (.getfield 11, 3) := by decide +kernel
theorem dX5_bringBack_26 : decode cX5_bringBack 26 = .ok (.aload_n 0, 1) := by decide +kernel
theorem dX5_bringBack_27 : decode cX5_bringBack 27 = .ok (.getfield 15, 3) := by decide +kernel
theorem dX5_bringBack_30 : decode cX5_bringBack 30 = .ok (.bipush 7, 2) := by decide +kernel
theorem dX5_bringBack_32 : decode cX5_bringBack 32 = .ok (.iand, 1) := by decide +kernel
theorem dX5_bringBack_33 : decode cX5_bringBack 33 = .ok (.aaload, 1) := by decide +kernel
theorem dX5_bringBack_34 : decode cX5_bringBack 34 = .ok (.invokevirtual 23, 3) := by decide +kernel
theorem dX5_bringBack_37 : decode cX5_bringBack 37 = .ok (.aload_n 0, 1) := by decide +kernel
theorem dX5_bringBack_38 : decode cX5_bringBack 38 = .ok (.dup, 1) := by decide +kernel
theorem dX5_bringBack_39 : decode cX5_bringBack 39 = .ok (.getfield 19, 3) := by decide +kernel
theorem dX5_bringBack_42 : decode cX5_bringBack 42 = .ok (.iconst 1, 1) := by decide +kernel
theorem dX5_bringBack_43 : decode cX5_bringBack 43 = .ok (.isub, 1) := by decide +kernel
theorem dX5_bringBack_44 : decode cX5_bringBack 44 = .ok (.putfield 19, 3) := by decide +kernel
theorem dX5_bringBack_47 : decode cX5_bringBack 47 = .ok (.return_, 1) := by decide +kernel
