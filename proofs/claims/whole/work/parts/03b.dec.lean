theorem dX6_init_0 : decode cX6_init 0 = .ok (.aload_n 0, 1) := by decide +kernel
theorem dX6_init_1 : decode cX6_init 1 = .ok (.invokespecial 3, 3) := by decide +kernel
theorem dX6_init_4 : decode cX6_init 4 = .ok (.aload_n 0, 1) := by decide +kernel
theorem dX6_init_5 : decode cX6_init 5 = .ok (.bipush 80, 2) := by decide +kernel
theorem dX6_init_7 : decode cX6_init 7 = .ok (.newarray .int, 2) := by decide +kernel
theorem dX6_init_9 : decode cX6_init 9 = .ok (.putfield 9, 3) := by decide +kernel
theorem dX6_init_12 : decode cX6_init 12 = .ok (.aload_n 0, 1) := by decide +kernel
theorem dX6_init_13 : decode cX6_init 13 = .ok (.bipush 80, 2) := by decide +kernel
theorem dX6_init_15 : decode cX6_init 15 = .ok (.newarray .int, 2) := by decide +kernel
theorem dX6_init_17 : decode cX6_init 17 = .ok (.putfield 15, 3) := by decide +kernel
theorem dX6_init_20 : decode cX6_init 20 = .ok (.aload_n 0, 1) := by decide +kernel
theorem dX6_init_21 : decode cX6_init 21 = .ok (.bipush 80, 2) := by decide +kernel
theorem dX6_init_23 : decode cX6_init 23 = .ok (.newarray .int, 2) := by decide +kernel
theorem dX6_init_25 : decode cX6_init 25 = .ok (.putfield 18, 3) := by decide +kernel
theorem dX6_init_28 : decode cX6_init 28 = .ok (.aload_n 0, 1) := by decide +kernel
theorem dX6_init_29 : decode cX6_init 29 = .ok (.bipush 80, 2) := by decide +kernel
theorem dX6_init_31 : decode cX6_init 31 = .ok (.newarray .int, 2) := by decide +kernel
theorem dX6_init_33 : decode cX6_init 33 = .ok (.putfield 21, 3) := by decide +kernel
theorem dX6_init_36 : decode cX6_init 36 = .ok (.aload_n 0, 1) := by decide +kernel
theorem dX6_init_37 : decode cX6_init 37 = .ok (.bipush 24, 2) := by decide +kernel
theorem dX6_init_39 : decode cX6_init 39 = .ok (.newarray .int, 2) := by decide +kernel
theorem dX6_init_41 : decode cX6_init 41 = .ok (.putfield 24, 3) := by decide +kernel
theorem dX6_init_44 : decode cX6_init 44 = .ok (.aload_n 0, 1) := by decide +kernel
theorem dX6_init_45 : decode cX6_init 45 = .ok (.bipush 24, 2) := by decide +kernel
theorem dX6_init_47 : decode cX6_init 47 = .ok (.newarray .int, 2) := by decide +kernel
theorem dX6_init_49 : decode cX6_init 49 = .ok (.putfield 27, 3) := by decide +kernel
theorem dX6_init_52 : decode cX6_init 52 = .ok (.aload_n 0, 1) := by decide +kernel
theorem dX6_init_53 : decode cX6_init 53 = .ok (.iconst 0, 1) := by decide +kernel
theorem dX6_init_54 : decode cX6_init 54 = .ok (.putfield 30, 3) := by decide +kernel
theorem dX6_init_57 : decode cX6_init 57 = .ok (.aload_n 0, 1) := by decide +kernel
theorem dX6_init_58 : decode cX6_init 58 = .ok (.iconst 0, 1) := by decide +kernel
theorem dX6_init_59 : decode cX6_init 59 = .ok (.putfield 34, 3) := by decide +kernel
theorem dX6_init_62 : decode cX6_init 62 = .ok (.aload_n 0, 1) := by decide +kernel
theorem dX6_init_63 : decode cX6_init 63 = .ok (.iconst 0, 1) := by decide +kernel
theorem dX6_init_64 : decode cX6_init 64 = .ok (.putfield 37, 3) := by decide +kernel
theorem dX6_init_67 : decode cX6_init 67 = .ok (.aload_n 0, 1) := by decide +kernel
theorem dX6_init_68 : decode cX6_init 68 = .ok (.iconst 0, 1) := by decide +kernel
theorem dX6_init_69 : decode cX6_init 69 = .ok (.putfield 40, 3) := by decide +kernel
theorem dX6_init_72 : decode cX6_init 72 = .ok (.aload_n 0, 1) := by decide +kernel
theorem dX6_init_73 : decode cX6_init 73 = .ok (.iconst 0, 1) := by decide +kernel
theorem dX6_init_74 : decode cX6_init 74 = .ok (.putfield 43, 3) := by decide +kernel
theorem dX6_init_77 : decode cX6_init 77 = .ok (.aload_n 0, 1) := by decide +kernel
theorem dX6_init_78 : decode cX6_init 78 = .ok (.iconst 0, 1) := by decide +kernel
theorem dX6_init_79 : decode cX6_init 79 = .ok (.putfield 46, 3) := by decide +kernel
theorem dX6_init_82 : decode cX6_init 82 = .ok (.return_, 1) := by decide +kernel
theorem dX6_wipe_0 : decode cX6_wipe 0 = .ok (.aload_n 0, 1) := by decide +kernel
theorem dX6_wipe_1 : decode cX6_wipe 1 = .ok (.iconst 0, 1) := by decide +kernel
theorem dX6_wipe_2 : decode cX6_wipe 2 = .ok (.putfield 30, 3) := by decide +kernel
theorem dX6_wipe_5 : decode cX6_wipe 5 = .ok (.aload_n 0, 1) := by decide +kernel
theorem dX6_wipe_6 : decode cX6_wipe 6 = .ok (.iconst 0, 1) := by decide +kernel
theorem dX6_wipe_7 : decode cX6_wipe 7 = .ok (.putfield 34, 3) := by decide +kernel
theorem dX6_wipe_10 : decode cX6_wipe 10 = .ok (.aload_n 0, 1) := by decide +kernel
theorem dX6_wipe_11 : decode cX6_wipe 11 = .ok (.iconst 0, 1) := by decide +kernel
theorem dX6_wipe_12 : decode cX6_wipe 12 = .ok (.putfield 37, 3) := by decide +kernel
theorem dX6_wipe_15 : decode cX6_wipe 15 = .ok (.aload_n 0, 1) := by decide +kernel
theorem dX6_wipe_16 : decode cX6_wipe 16 = .ok (.iconst 0, 1) := by decide +kernel
theorem dX6_wipe_17 : decode cX6_wipe 17 = .ok (.putfield 40, 3) := by decide +kernel
theorem dX6_wipe_20 : decode cX6_wipe 20 = .ok (.aload_n 0, 1) := by decide +kernel
theorem dX6_wipe_21 : decode cX6_wipe 21 = .ok (.iconst 0, 1) := by decide +kernel
theorem dX6_wipe_22 : decode cX6_wipe 22 = .ok (.putfield 43, 3) := by decide +kernel
theorem dX6_wipe_25 : decode cX6_wipe 25 = .ok (.aload_n 0, 1) := by decide +kernel
theorem dX6_wipe_26 : decode cX6_wipe 26 = .ok (.iconst 0, 1) := by decide +kernel
theorem dX6_wipe_27 : decode cX6_wipe 27 = .ok (.putfield 46, 3) := by decide +kernel
theorem dX6_wipe_30 : decode cX6_wipe 30 = .ok (.return_, 1) := by decide +kernel
theorem dX6_setAs_0 : decode cX6_setAs 0 = .ok (.aload_n 1, 1) := by decide +kernel
theorem dX6_setAs_1 : decode cX6_setAs 1 = .ok (.getfield 9, 3) := by decide +kernel
theorem dX6_setAs_4 : decode cX6_setAs 4 = .ok (.iconst 0, 1) := by decide +kernel
theorem dX6_setAs_5 : decode cX6_setAs 5 = .ok (.aload_n 0, 1) := by decide +kernel
theorem dX6_setAs_6 : decode cX6_setAs 6 = .ok (.getfield 9, 3) := by decide +kernel
theorem dX6_setAs_9 : decode cX6_setAs 9 = .ok (.iconst 0, 1) := by decide +kernel
theorem dX6_setAs_10 : decode cX6_setAs 10 = .ok (.bipush 80, 2) := by decide +kernel
theorem dX6_setAs_12 : decode cX6_setAs 12 = .ok (.invokestatic 49, 3) := by decide +kernel
theorem dX6_setAs_15 : decode cX6_setAs 15 = .ok (.aload_n 1, 1) := by decide +kernel
theorem dX6_setAs_16 : decode cX6_setAs 16 = .ok (.getfield 15, 3) := by decide +kernel
theorem dX6_setAs_19 : decode cX6_setAs 19 = .ok (.iconst 0, 1) := by decide +kernel
theorem dX6_setAs_20 : decode cX6_setAs 20 = .ok (.aload_n 0, 1) := by decide +kernel
theorem dX6_setAs_21 : decode cX6_setAs 21 = .ok (.getfield 15, 3) := by decide +kernel
theorem dX6_setAs_24 : decode cX6_setAs 24 = .ok (.iconst 0, 1) := by decide +kernel
theorem dX6_setAs_25 : decode cX6_setAs 25 = .ok (.bipush 80, 2) := by decide +kernel
theorem dX6_setAs_27 : decode cX6_setAs 27 = .ok (.invokestatic 49, 3) := by decide +kernel
theorem dX6_setAs_30 : decode cX6_setAs 30 = .ok (.aload_n 1, 1) := by decide +kernel
theorem dX6_setAs_31 : decode cX6_setAs 31 = .ok (.getfield 18, 3) := by decide +kernel
theorem dX6_setAs_34 : decode cX6_setAs 34 = .ok (.iconst 0, 1) := by decide +kernel
theorem dX6_setAs_35 : decode cX6_setAs 35 = .ok (.aload_n 0, 1) := by decide +kernel
theorem dX6_setAs_36 : decode cX6_setAs 36 = .ok (.getfield 18, 3) := by decide +kernel
theorem dX6_setAs_39 : decode cX6_setAs 39 = .ok (.iconst 0, 1) := by decide +kernel
theorem dX6_setAs_40 : decode cX6_setAs 40 = .ok (.bipush 80, 2) := by decide +kernel
theorem dX6_setAs_42 : decode cX6_setAs 42 = .ok (.invokestatic 49, 3) := by decide +kernel
theorem dX6_setAs_45 : decode cX6_setAs 45 = .ok (.aload_n 1, 1) := by decide +kernel
theorem dX6_setAs_46 : decode cX6_setAs 46 = .ok (.getfield 21, 3) := by decide +kernel
theorem dX6_setAs_49 : decode cX6_setAs 49 = .ok (.iconst 0, 1) := by decide +kernel
theorem dX6_setAs_50 : decode cX6_setAs 50 = .ok (.aload_n 0, 1) := by decide +kernel
theorem dX6_setAs_51 : decode cX6_setAs 51 = .ok (.getfield 21, 3) := by decide +kernel
theorem dX6_setAs_54 : decode cX6_setAs 54 = .ok (.iconst 0, 1) := by decide +kernel
theorem dX6_setAs_55 : decode cX6_setAs 55 = .ok (.bipush 80, 2) := by decide +kernel
theorem dX6_setAs_57 : decode cX6_setAs 57 = .ok (.invokestatic 49, 3) := by decide +kernel
theorem dX6_setAs_60 : decode cX6_setAs 60 = .ok (.aload_n 1, 1) := by decide +kernel
theorem dX6_setAs_61 : decode cX6_setAs 61 = .ok (.getfield 24, 3) := by decide +kernel
theorem dX6_setAs_64 : decode cX6_setAs 64 = .ok (.iconst 0, 1) := by decide +kernel
theorem dX6_setAs_65 : decode cX6_setAs 65 = .ok (.aload_n 0, 1) := by decide +kernel
theorem dX6_setAs_66 : decode cX6_setAs 66 = .ok (.getfield 24, 3) := by decide +kernel
theorem dX6_setAs_69 : decode cX6_setAs 69 = .ok (.iconst 0, 1) := by decide +kernel
theorem dX6_setAs_70 : decode cX6_setAs 70 = .ok (.bipush 24, 2) := by decide +kernel
theorem dX6_setAs_72 : decode cX6_setAs 72 = .ok (.invokestatic 49, 3) := by decide +kernel
theorem dX6_setAs_75 : decode cX6_setAs 75 = .ok (.aload_n 1, 1) := by decide +kernel
theorem dX6_setAs_76 : decode cX6_setAs 76 = .ok (.getfield 27, 3) := by decide +kernel
theorem dX6_setAs_79 : decode cX6_setAs 79 = .ok (.iconst 0, 1) := by decide +kernel
theorem dX6_setAs_80 : decode cX6_setAs 80 = .ok (.aload_n 0, 1) := by decide +kernel
theorem dX6_setAs_81 : decode cX6_setAs 81 = .ok (.getfield 27, 3) := by decide +kernel
theorem dX6_setAs_84 : decode cX6_setAs 84 = .ok (.iconst 0, 1) := by decide +kernel
theorem dX6_setAs_85 : decode cX6_setAs 85 = .ok (.bipush 24, 2) := by decide +kernel
theorem dX6_setAs_87 : decode cX6_setAs 87 = .ok (.invokestatic 49, 3) := by decide +kernel
theorem dX6_setAs_90 : decode cX6_setAs 90 = .ok (.aload_n 0, 1) := by decide +kernel
theorem dX6_setAs_91 : decode cX6_setAs 91 = .ok (.aload_n 1, 1) := by decide +kernel
theorem dX6_setAs_92 : decode cX6_setAs 92 = .ok (.getfield 30, 3) := by decide +kernel
theorem dX6_setAs_95 : decode cX6_setAs 95 = .ok (.putfield 30, 3) := by decide +kernel
theorem dX6_setAs_98 : decode cX6_setAs 98 = .ok (.aload_n 0, 1) := by decide +kernel
theorem dX6_setAs_99 : decode cX6_setAs 99 = .ok (.aload_n 1, 1) := by decide +kernel
theorem dX6_setAs_100 : decode cX6_setAs 100 = .ok (.getfield 34, 3) := by decide +kernel
theorem dX6_setAs_103 : decode cX6_setAs 103 = .ok (.putfield 34, 3) := by decide +kernel
theorem dX6_setAs_106 : decode cX6_setAs 106 = .ok (.aload_n 0, 1) := by decide +kernel
theorem dX6_setAs_107 : decode cX6_setAs 107 = .ok (.aload_n 1, 1) := by decide +kernel
theorem dX6_setAs_108 : decode cX6_setAs 108 = .ok (.getfield 37, 3) := by decide +kernel
theorem dX6_setAs_111 : decode cX6_setAs 111 = .ok (.putfield 37, 3) := by decide +kernel
theorem dX6_setAs_114 : decode cX6_setAs 114 = .ok (.aload_n 0, 1) := by decide +kernel
theorem dX6_setAs_115 : decode cX6_setAs 115 = .ok (.aload_n 1, 1) := by decide +kernel
theorem dX6_setAs_116 : decode cX6_setAs 116 = .ok (.getfield 40, 3) := by decide +kernel
theorem dX6_setAs_119 : decode cX6_setAs 119 = .ok (.putfield 40, 3) := by decide +kernel
theorem dX6_setAs_122 : decode cX6_setAs 122 = .ok (.aload_n 0, 1) := by decide +kernel
theorem dX6_setAs_123 : decode cX6_setAs 123 = .ok (.aload_n 1, 1) := by decide +kernel
theorem dX6_setAs_124 : decode cX6_setAs 124 = .ok (.getfield 43, 3) := by decide +kernel
theorem dX6_setAs_127 : decode cX6_setAs 127 = .ok (.putfield 43, 3) := by decide +kernel
theorem dX6_setAs_130 : decode cX6_setAs 130 = .ok (.aload_n 0, 1) := by decide +kernel
theorem dX6_setAs_131 : decode cX6_setAs 131 = .ok (.aload_n 1, 1) := by decide +kernel
theorem dX6_setAs_132 : decode cX6_setAs 132 = .ok (.getfield 46, 3) := by decide +kernel
theorem dX6_setAs_135 : decode cX6_setAs 135 = .ok (.putfield 46, 3) := by decide +kernel
theorem dX6_setAs_138 : decode cX6_setAs 138 = .ok (.return_, 1) := by decide +kernel
theorem dX6_tell_0 : decode cX6_tell 0 = .ok (.iload_n 1, 1) := by decide +kernel
theorem dX6_tell_1 : decode cX6_tell 1 = .ok (.tableswitch 51 0 3 #[31, 36, 41, 46], 31) := by decide +kernel
theorem dX6_tell_32 : decode cX6_tell 32 = .ok (.aload_n 0, 1) := by decide +kernel
theorem dX6_tell_33 : decode cX6_tell 33 = .ok (.getfield 34, 3) := by decide +kernel
theorem dX6_tell_36 : decode cX6_tell 36 = .ok (.ireturn, 1) := by decide +kernel
theorem dX6_tell_37 : decode cX6_tell 37 = .ok (.aload_n 0, 1) := by decide +kernel
theorem dX6_tell_38 : decode cX6_tell 38 = .ok (.getfield 37, 3) := by decide +kernel
theorem dX6_tell_41 : decode cX6_tell 41 = .ok (.ireturn, 1) := by decide +kernel
theorem dX6_tell_42 : decode cX6_tell 42 = .ok (.aload_n 0, 1) := by decide +kernel
theorem dX6_tell_43 : decode cX6_tell 43 = .ok (.getfield 40, 3) := by decide +kernel
theorem dX6_tell_46 : decode cX6_tell 46 = .ok (.ireturn, 1) := by decide +kernel
theorem dX6_tell_47 : decode cX6_tell 47 = .ok (.aload_n 0, 1) := by decide +kernel
theorem dX6_tell_48 : decode cX6_tell 48 = .ok (.getfield 43, 3) := by decide +kernel
theorem dX6_tell_51 : decode cX6_tell 51 = .ok (.ireturn, 1) := by decide +kernel
theorem dX6_tell_52 : decode cX6_tell 52 = .ok (.aload_n 0, 1) := by decide +kernel
theorem dX6_tell_53 : decode cX6_tell 53 = .ok (.getfield 46, 3) := by decide +kernel
theorem dX6_tell_56 : decode cX6_tell 56 = .ok (.ireturn, 1) := by decide +kernel
theorem dX6_add_0 : decode cX6_add 0 = .ok (.aload_n 0, 1) := by decide +kernel
theorem dX6_add_1 : decode cX6_add 1 = .ok (.getfield 30, 3) := by decide +kernel
theorem dX6_add_4 : decode cX6_add 4 = .ok (.ifCond .lt 12, 3) := by decide +kernel
theorem dX6_add_7 : decode cX6_add 7 = .ok (.aload_n 0, 1) := by decide +kernel
theorem dX6_add_8 : decode cX6_add 8 = .ok (.getfield 30, 3) := by decide +kernel
theorem dX6_add_11 : decode cX6_add 11 = .ok (.bipush 80, 2) := by decide +kernel
theorem dX6_add_13 : decode cX6_add 13 = .ok (.if_icmp .lt 5, 3) := by decide +kernel
theorem dX6_add_16 : decode cX6_add 16 = .ok (.iconst 0, 1) := by decide +kernel
theorem dX6_add_17 : decode cX6_add 17 = .ok (.ireturn, 1) := by decide +kernel
theorem dX6_add_18 : decode cX6_add 18 = .ok (.aload_n 0, 1) := by decide +kernel
theorem dX6_add_19 : decode cX6_add 19 = .ok (.getfield 9, 3) := by decide +kernel
theorem dX6_add_22 : decode cX6_add 22 = .ok (.aload_n 0, 1) := by decide +kernel
theorem dX6_add_23 : decode cX6_add 23 = .ok (.getfield 30, 3) := by decide +kernel
theorem dX6_add_26 : decode cX6_add 26 = .ok (.iload_n 1, 1) := by decide +kernel
theorem dX6_add_27 : decode cX6_add 27 = .ok (.iastore, 1) := by decide +kernel
theorem dX6_add_28 : decode cX6_add 28 = .ok (.aload_n 0, 1) := by decide +kernel
theorem dX6_add_29 : decode cX6_add 29 = .ok (.getfield 15, 3) := by decide +kernel
theorem dX6_add_32 : decode cX6_add 32 = .ok (.aload_n 0, 1) := by decide +kernel
theorem dX6_add_33 : decode cX6_add 33 = .ok (.getfield 30, 3) := by decide +kernel
theorem dX6_add_36 : decode cX6_add 36 = .ok (.iload_n 2, 1) := by decide +kernel
theorem dX6_add_37 : decode cX6_add 37 = .ok (.iastore, 1) := by decide +kernel
theorem dX6_add_38 : decode cX6_add 38 = .ok (.aload_n 0, 1) := by decide +kernel
theorem dX6_add_39 : decode cX6_add 39 = .ok (.getfield 18, 3) := by decide +kernel
theorem dX6_add_42 : decode cX6_add 42 = .ok (.aload_n 0, 1) := by decide +kernel
theorem dX6_add_43 : decode cX6_add 43 = .ok (.getfield 30, 3) := by decide +kernel
theorem dX6_add_46 : decode cX6_add 46 = .ok (.aload_n 0, 1) := by decide +kernel
theorem dX6_add_47 : decode cX6_add 47 = .ok (.getfield 30, 3) := by decide +kernel
theorem dX6_add_50 : decode cX6_add 50 = .ok (.iastore, 1) := by decide +kernel
theorem dX6_add_51 : decode cX6_add 51 = .ok (.aload_n 0, 1) := by decide +kernel
theorem dX6_add_52 : decode cX6_add 52 = .ok (.getfield 21, 3) := by decide +kernel
theorem dX6_add_55 : decode cX6_add 55 = .ok (.aload_n 0, 1) := by decide +kernel
theorem dX6_add_56 : decode cX6_add 56 = .ok (.getfield 30, 3) := by decide +kernel
theorem dX6_add_59 : decode cX6_add 59 = .ok (.iconst 0, 1) := by decide +kernel
theorem dX6_add_60 : decode cX6_add 60 = .ok (.iastore, 1) := by decide +kernel
theorem dX6_add_61 : decode cX6_add 61 = .ok (.aload_n 0, 1) := by decide +kernel
theorem dX6_add_62 : decode cX6_add 62 = .ok (.dup, 1) := by decide +kernel
theorem dX6_add_63 : decode cX6_add 63 = .ok (.getfield 30, 3) := by decide +kernel
theorem dX6_add_66 : decode cX6_add 66 = .ok (.iconst 1, 1) := by decide +kernel
theorem dX6_add_67 : decode cX6_add 67 = .ok (.iadd, 1) := by decide +kernel
theorem dX6_add_68 : decode cX6_add 68 = .ok (.putfield 30, 3) := by decide +kernel
theorem dX6_add_71 : decode cX6_add 71 = .ok (.iconst 1, 1) := by decide +kernel
theorem dX6_add_72 : decode cX6_add 72 = .ok (.ireturn, 1) := by decide +kernel
theorem dX6_addLook_0 : decode cX6_addLook 0 = .ok (.aload_n 0, 1) := by decide +kernel
theorem dX6_addLook_1 : decode cX6_addLook 1 = .ok (.getfield 34, 3) := by decide +kernel
theorem dX6_addLook_4 : decode cX6_addLook 4 = .ok (.ifCond .lt 24, 3) := by decide +kernel
theorem dX6_addLook_7 : decode cX6_addLook 7 = .ok (.aload_n 0, 1) := by decide +kernel
theorem dX6_addLook_8 : decode cX6_addLook 8 = .ok (.getfield 34, 3) := by decide +kernel
theorem dX6_addLook_11 : decode cX6_addLook 11 = .ok (.bipush 24, 2) := by decide +kernel
theorem dX6_addLook_13 : decode cX6_addLook 13 = .ok (.if_icmp .ge 15, 3) := by decide +kernel
theorem dX6_addLook_16 : decode cX6_addLook 16 = .ok (.aload_n 0, 1) := by decide +kernel
theorem dX6_addLook_17 : decode cX6_addLook 17 = .ok (.iconst 0, 1) := by decide +kernel
theorem dX6_addLook_18 : decode cX6_addLook 18 = .ok (.aload_n 0, 1) := by decide +kernel
theorem dX6_addLook_19 : decode cX6_addLook 19 = .ok (.getfield 34, 3) := by decide +kernel
theorem dX6_addLook_22 : decode cX6_addLook 22 = .ok (.invokevirtual 55, 3) := by decide +kernel
theorem dX6_addLook_25 : decode cX6_addLook 25 = .ok (.ifCond .ne 5, 3) := by decide +kernel
theorem dX6_addLook_28 : decode cX6_addLook 28 = .ok (.iconst 0, 1) := by decide +kernel
theorem dX6_addLook_29 : decode cX6_addLook 29 = .ok (.ireturn, 1) := by decide +kernel
theorem dX6_addLook_30 : decode cX6_addLook 30 = .ok (.aload_n 0, 1) := by decide +kernel
theorem dX6_addLook_31 : decode cX6_addLook 31 = .ok (.getfield 24, 3) := by decide +kernel
theorem dX6_addLook_34 : decode cX6_addLook 34 = .ok (.aload_n 0, 1) := by decide +kernel
theorem dX6_addLook_35 : decode cX6_addLook 35 = .ok (.getfield 34, 3) := by decide +kernel
theorem dX6_addLook_38 : decode cX6_addLook 38 = .ok (.iload_n 1, 1) := by decide +kernel
theorem dX6_addLook_39 : decode cX6_addLook 39 = .ok (.iastore, 1) := by decide +kernel
theorem dX6_addLook_40 : decode cX6_addLook 40 = .ok (.aload_n 0, 1) := by decide +kernel
theorem dX6_addLook_41 : decode cX6_addLook 41 = .ok (.getfield 27, 3) := by decide +kernel
theorem dX6_addLook_44 : decode cX6_addLook 44 = .ok (.aload_n 0, 1) := by decide +kernel
theorem dX6_addLook_45 : decode cX6_addLook 45 = .ok (.getfield 34, 3) := by decide +kernel
theorem dX6_addLook_48 : decode cX6_addLook 48 = .ok (.iload_n 2, 1) := by decide +kernel
theorem dX6_addLook_49 : decode cX6_addLook 49 = .ok (.iastore, 1) := by decide +kernel
theorem dX6_addLook_50 : decode cX6_addLook 50 = .ok (.aload_n 0, 1) := by decide +kernel
theorem dX6_addLook_51 : decode cX6_addLook 51 = .ok (.dup, 1) := by decide +kernel
theorem dX6_addLook_52 : decode cX6_addLook 52 = .ok (.getfield 34, 3) := by decide +kernel
theorem dX6_addLook_55 : decode cX6_addLook 55 = .ok (.iconst 1, 1) := by decide +kernel
theorem dX6_addLook_56 : decode cX6_addLook 56 = .ok (.iadd, 1) := by decide +kernel
theorem dX6_addLook_57 : decode cX6_addLook 57 = .ok (.putfield 34, 3) := by decide +kernel
theorem dX6_addLook_60 : decode cX6_addLook 60 = .ok (.aload_n 0, 1) := by decide +kernel
theorem dX6_addLook_61 : decode cX6_addLook 61 = .ok (.dup, 1) := by decide +kernel
theorem dX6_addLook_62 : decode cX6_addLook 62 = .ok (.getfield 46, 3) := by decide +kernel
theorem dX6_addLook_65 : decode cX6_addLook 65 = .ok (.iconst 1, 1) := by decide +kernel
theorem dX6_addLook_66 : decode cX6_addLook 66 = .ok (.iload_n 1, 1) := by decide +kernel
theorem dX6_addLook_67 : decode cX6_addLook 67 = .ok (.ishl, 1) := by decide +kernel
theorem dX6_addLook_68 : decode cX6_addLook 68 = .ok (.ior, 1) := by decide +kernel
theorem dX6_addLook_69 : decode cX6_addLook 69 = .ok (.putfield 46, 3) := by decide +kernel
theorem dX6_addLook_72 : decode cX6_addLook 72 = .ok (.iconst 1, 1) := by decide +kernel
theorem dX6_addLook_73 : decode cX6_addLook 73 = .ok (.ireturn, 1) := by decide +kernel
theorem dX6_setMate_0 : decode cX6_setMate 0 = .ok (.aload_n 0, 1) := by decide +kernel
theorem dX6_setMate_1 : decode cX6_setMate 1 = .ok (.iload_n 1, 1) := by decide +kernel
theorem dX6_setMate_2 : decode cX6_setMate 2 = .ok (.invokevirtual 59, 3) := by decide +kernel
theorem dX6_setMate_5 : decode cX6_setMate 5 = .ok (.ifCond .eq 10, 3) := by decide +kernel
theorem dX6_setMate_8 : decode cX6_setMate 8 = .ok (.aload_n 0, 1) := by decide +kernel
theorem dX6_setMate_9 : decode cX6_setMate 9 = .ok (.getfield 18, 3) := by decide +kernel
theorem dX6_setMate_12 : decode cX6_setMate 12 = .ok (.iload_n 1, 1) := by decide +kernel
theorem dX6_setMate_13 : decode cX6_setMate 13 = .ok (.iload_n 2, 1) := by decide +kernel
theorem dX6_setMate_14 : decode cX6_setMate 14 = .ok (.iastore, 1) := by decide +kernel
theorem dX6_setMate_15 : decode cX6_setMate 15 = .ok (.return_, 1) := by decide +kernel
theorem dX6_addLineWithin_0 : decode cX6_addLineWithin 0 = .ok (.aload_n 0, 1) := by decide +kernel
theorem dX6_addLineWithin_1 : decode cX6_addLineWithin 1 = .ok (.iload_n 1, 1) := by decide +kernel
theorem dX6_addLineWithin_2 : decode cX6_addLineWithin 2 = .ok (.invokevirtual 59, 3) := by decide +kernel
theorem dX6_addLineWithin_5 : decode cX6_addLineWithin 5 = .ok (.ifCond .eq 15, 3) := by decide +kernel
theorem dX6_addLineWithin_8 : decode cX6_addLineWithin 8 = .ok (.aload_n 0, 1) := by decide +kernel
theorem dX6_addLineWithin_9 : decode cX6_addLineWithin 9 = .ok (.getfield 21, 3) := by decide +kernel
theorem dX6_addLineWithin_12 : decode cX6_addLineWithin 12 = .ok (.iload_n 1, 1) := by decide +kernel
theorem dX6_addLineWithin_13 : decode cX6_addLineWithin 13 = .ok (.dup2, 1) := by decide +kernel
theorem dX6_addLineWithin_14 : decode cX6_addLineWithin 14 = .ok (.iaload, 1) := by decide +kernel
theorem dX6_addLineWithin_15 : decode cX6_addLineWithin 15 = .ok (.iconst 1, 1) := by decide +kernel
theorem dX6_addLineWithin_16 : decode cX6_addLineWithin 16 = .ok (.iload_n 2, 1) := by decide +kernel
theorem dX6_addLineWithin_17 : decode cX6_addLineWithin 17 = .ok (.ishl, 1) := by decide +kernel
theorem dX6_addLineWithin_18 : decode cX6_addLineWithin 18 = .ok (.ior, 1) := by decide +kernel
theorem dX6_addLineWithin_19 : decode cX6_addLineWithin 19 = .ok (.iastore, 1) := by decide +kernel
theorem dX6_addLineWithin_20 : decode cX6_addLineWithin 20 = .ok (.return_, 1) := by decide +kernel
theorem dX6_signAt_0 : decode cX6_signAt 0 = .ok (.aload_n 0, 1) := by decide +kernel
theorem dX6_signAt_1 : decode cX6_signAt 1 = .ok (.iload_n 1, 1) := by decide +kernel
theorem dX6_signAt_2 : decode cX6_signAt 2 = .ok (.invokevirtual 59, 3) := by decide +kernel
theorem dX6_signAt_5 : decode cX6_signAt 5 = .ok (.ifCond .eq 12, 3) := by decide +kernel
theorem dX6_signAt_8 : decode cX6_signAt 8 = .ok (.aload_n 0, 1) := by decide +kernel
theorem dX6_signAt_9 : decode cX6_signAt 9 = .ok (.getfield 9, 3) := by decide +kernel
theorem dX6_signAt_12 : decode cX6_signAt 12 = .ok (.iload_n 1, 1) := by decide +kernel
theorem dX6_signAt_13 : decode cX6_signAt 13 = .ok (.iaload, 1) := by decide +kernel
theorem dX6_signAt_14 : decode cX6_signAt 14 = .ok (.goto 4, 3) := by decide +kernel
theorem dX6_signAt_17 : decode cX6_signAt 17 = .ok (.iconst (-1), 1) := by decide +kernel
theorem dX6_signAt_18 : decode cX6_signAt 18 = .ok (.ireturn, 1) := by decide +kernel
theorem dX6_valueAt_0 : decode cX6_valueAt 0 = .ok (.aload_n 0, 1) := by decide +kernel
theorem dX6_valueAt_1 : decode cX6_valueAt 1 = .ok (.iload_n 1, 1) := by decide +kernel
theorem dX6_valueAt_2 : decode cX6_valueAt 2 = .ok (.invokevirtual 59, 3) := by decide +kernel
theorem dX6_valueAt_5 : decode cX6_valueAt 5 = .ok (.ifCond .eq 12, 3) := by decide +kernel
theorem dX6_valueAt_8 : decode cX6_valueAt 8 = .ok (.aload_n 0, 1) := by decide +kernel
theorem dX6_valueAt_9 : decode cX6_valueAt 9 = .ok (.getfield 15, 3) := by decide +kernel
theorem dX6_valueAt_12 : decode cX6_valueAt 12 = .ok (.iload_n 1, 1) := by decide +kernel
theorem dX6_valueAt_13 : decode cX6_valueAt 13 = .ok (.iaload, 1) := by decide +kernel
theorem dX6_valueAt_14 : decode cX6_valueAt 14 = .ok (.goto 4, 3) := by decide +kernel
theorem dX6_valueAt_17 : decode cX6_valueAt 17 = .ok (.iconst 0, 1) := by decide +kernel
theorem dX6_valueAt_18 : decode cX6_valueAt 18 = .ok (.ireturn, 1) := by decide +kernel
theorem dX6_mateOf_0 : decode cX6_mateOf 0 = .ok (.aload_n 0, 1) := by decide +kernel
theorem dX6_mateOf_1 : decode cX6_mateOf 1 = .ok (.iload_n 1, 1) := by decide +kernel
theorem dX6_mateOf_2 : decode cX6_mateOf 2 = .ok (.invokevirtual 59, 3) := by decide +kernel
theorem dX6_mateOf_5 : decode cX6_mateOf 5 = .ok (.ifCond .eq 16, 3) := by decide +kernel
theorem dX6_mateOf_8 : decode cX6_mateOf 8 = .ok (.iload_n 1, 1) := by decide +kernel
theorem dX6_mateOf_9 : decode cX6_mateOf 9 = .ok (.aload_n 0, 1) := by decide +kernel
theorem dX6_mateOf_10 : decode cX6_mateOf 10 = .ok (.getfield 18, 3) := by decide +kernel
theorem dX6_mateOf_13 : decode cX6_mateOf 13 = .ok (.iload_n 1, 1) := by decide +kernel
theorem dX6_mateOf_14 : decode cX6_mateOf 14 = .ok (.iaload, 1) := by decide +kernel
theorem dX6_mateOf_15 : decode cX6_mateOf 15 = .ok (.invokestatic 63, 3) := by decide +kernel
theorem dX6_mateOf_18 : decode cX6_mateOf 18 = .ok (.goto 4, 3) := by decide +kernel
theorem dX6_mateOf_21 : decode cX6_mateOf 21 = .ok (.iload_n 1, 1) := by decide +kernel
theorem dX6_mateOf_22 : decode cX6_mateOf 22 = .ok (.ireturn, 1) := by decide +kernel
theorem dX6_lineOfLook_0 : decode cX6_lineOfLook 0 = .ok (.aload_n 0, 1) := by decide +kernel
theorem dX6_lineOfLook_1 : decode cX6_lineOfLook 1 = .ok (.iload_n 1, 1) := by decide +kernel
theorem dX6_lineOfLook_2 : decode cX6_lineOfLook 2 = .ok (.invokevirtual 69, 3) := by decide +kernel
theorem dX6_lineOfLook_5 : decode cX6_lineOfLook 5 = .ok (.ifCond .eq 12, 3) := by decide +kernel
theorem dX6_lineOfLook_8 : decode cX6_lineOfLook 8 = .ok (.aload_n 0, 1) := by decide +kernel
theorem dX6_lineOfLook_9 : decode cX6_lineOfLook 9 = .ok (.getfield 24, 3) := by decide +kernel
theorem dX6_lineOfLook_12 : decode cX6_lineOfLook 12 = .ok (.iload_n 1, 1) := by decide +kernel
theorem dX6_lineOfLook_13 : decode cX6_lineOfLook 13 = .ok (.iaload, 1) := by decide +kernel
theorem dX6_lineOfLook_14 : decode cX6_lineOfLook 14 = .ok (.goto 4, 3) := by decide +kernel
theorem dX6_lineOfLook_17 : decode cX6_lineOfLook 17 = .ok (.iconst 0, 1) := by decide +kernel
theorem dX6_lineOfLook_18 : decode cX6_lineOfLook 18 = .ok (.ireturn, 1) := by decide +kernel
theorem dX6_figureAround_0 : decode cX6_figureAround 0 = .ok (.aload_n 0, 1) := by decide +kernel
theorem dX6_figureAround_1 : decode cX6_figureAround 1 = .ok (.iload_n 1, 1) := by decide +kernel
theorem dX6_figureAround_2 : decode cX6_figureAround 2 = .ok (.invokevirtual 69, 3) := by decide +kernel
theorem dX6_figureAround_5 : decode cX6_figureAround 5 = .ok (.ifCond .eq 16, 3) := by decide +kernel
theorem dX6_figureAround_8 : decode cX6_figureAround 8 = .ok (.aload_n 0, 1) := by decide +kernel
theorem dX6_figureAround_9 : decode cX6_figureAround 9 = .ok (.aload_n 0, 1) := by decide +kernel
theorem dX6_figureAround_10 : decode cX6_figureAround 10 = .ok (.getfield 27, 3) := by decide +kernel
theorem dX6_figureAround_13 : decode cX6_figureAround 13 = .ok (.iload_n 1, 1) := by decide +kernel
theorem dX6_figureAround_14 : decode cX6_figureAround 14 = .ok (.iaload, 1) := by decide +kernel
theorem dX6_figureAround_15 : decode cX6_figureAround 15 = .ok (.invokevirtual 72, 3) := by decide +kernel
theorem dX6_figureAround_18 : decode cX6_figureAround 18 = .ok (.goto 4, 3) := by decide +kernel
theorem dX6_figureAround_21 : decode cX6_figureAround 21 = .ok (.iconst 0, 1) := by decide +kernel
theorem dX6_figureAround_22 : decode cX6_figureAround 22 = .ok (.ireturn, 1) := by decide +kernel
theorem dX6_isInLoop_0 : decode cX6_isInLoop 0 = .ok (.aload_n 0, 1) := by decide +kernel
theorem dX6_isInLoop_1 : decode cX6_isInLoop 1 = .ok (.iload_n 1, 1) := by decide +kernel
theorem dX6_isInLoop_2 : decode cX6_isInLoop 2 = .ok (.invokevirtual 69, 3) := by decide +kernel
theorem dX6_isInLoop_5 : decode cX6_isInLoop 5 = .ok (.ifCond .eq 17, 3) := by decide +kernel
theorem dX6_isInLoop_8 : decode cX6_isInLoop 8 = .ok (.aload_n 0, 1) := by decide +kernel
theorem dX6_isInLoop_9 : decode cX6_isInLoop 9 = .ok (.getfield 27, 3) := by decide +kernel
theorem dX6_isInLoop_12 : decode cX6_isInLoop 12 = .ok (.iload_n 1, 1) := by decide +kernel
theorem dX6_isInLoop_13 : decode cX6_isInLoop 13 = .ok (.iaload, 1) := by decide +kernel
theorem dX6_isInLoop_14 : decode cX6_isInLoop 14 = .ok (.iconst (-1), 1) := by decide +kernel
theorem dX6_isInLoop_15 : decode cX6_isInLoop 15 = .ok (.if_icmp .eq 7, 3) := by decide +kernel
theorem dX6_isInLoop_18 : decode cX6_isInLoop 18 = .ok (.iconst 1, 1) := by decide +kernel
theorem dX6_isInLoop_19 : decode cX6_isInLoop 19 = .ok (.goto 4, 3) := by decide +kernel
theorem dX6_isInLoop_22 : decode cX6_isInLoop 22 = .ok (.iconst 0, 1) := by decide +kernel
theorem dX6_isInLoop_23 : decode cX6_isInLoop 23 = .ok (.ireturn, 1) := by decide +kernel
theorem dX6_howManyLinesAround_0 : decode cX6_howManyLinesAround 0 = .ok (.aload_n 0, 1) := by decide +kernel
theorem dX6_howManyLinesAround_1 : decode cX6_howManyLinesAround 1 = .ok (.iload_n 1, 1) := by decide +kernel
theorem dX6_howManyLinesAround_2 : decode cX6_howManyLinesAround 2 = .ok (.invokevirtual 69, 3) := by decide +kernel
theorem dX6_howManyLinesAround_5 : decode cX6_howManyLinesAround 5 = .ok (.ifCond .eq 12, 3) := by decide +kernel
theorem dX6_howManyLinesAround_8 : decode cX6_howManyLinesAround 8 = .ok (.aload_n 0, 1) := by decide +kernel
theorem dX6_howManyLinesAround_9 : decode cX6_howManyLinesAround 9 = .ok (.getfield 27, 3) := by decide +kernel
theorem dX6_howManyLinesAround_12 : decode cX6_howManyLinesAround 12 = .ok (.iload_n 1, 1) := by decide +kernel
theorem dX6_howManyLinesAround_13 : decode cX6_howManyLinesAround 13 = .ok (.iaload, 1) := by decide +kernel
theorem dX6_howManyLinesAround_14 : decode cX6_howManyLinesAround 14 = .ok (.goto 4, 3) := by decide +kernel
theorem dX6_howManyLinesAround_17 : decode cX6_howManyLinesAround 17 = .ok (.iconst (-1), 1) := by decide +kernel
theorem dX6_howManyLinesAround_18 : decode cX6_howManyLinesAround 18 = .ok (.istore_n 2, 1) := by decide +kernel
theorem dX6_howManyLinesAround_19 : decode cX6_howManyLinesAround 19 = .ok (.aload_n 0, 1) := by decide +kernel
theorem dX6_howManyLinesAround_20 : decode cX6_howManyLinesAround 20 = .ok (.iload_n 2, 1) := by decide +kernel
theorem dX6_howManyLinesAround_21 : decode cX6_howManyLinesAround 21 = .ok (.invokevirtual 59, 3) := by decide +kernel
theorem dX6_howManyLinesAround_24 : decode cX6_howManyLinesAround 24 = .ok (.ifCond .eq 15, 3) := by decide +kernel
theorem dX6_howManyLinesAround_27 : decode cX6_howManyLinesAround 27 = .ok (.aload_n 0, 1) := by decide +kernel
theorem dX6_howManyLinesAround_28 : decode cX6_howManyLinesAround 28 = .ok (.getfield 21, 3) := by decide +kernel
theorem dX6_howManyLinesAround_31 : decode cX6_howManyLinesAround 31 = .ok (.iload_n 2, 1) := by decide +kernel
theorem dX6_howManyLinesAround_32 : decode cX6_howManyLinesAround 32 = .ok (.iaload, 1) := by decide +kernel
theorem dX6_howManyLinesAround_33 : decode cX6_howManyLinesAround 33 = .ok (.invokestatic 76, 3) := by decide +kernel
theorem dX6_howManyLinesAround_36 : decode cX6_howManyLinesAround 36 = .ok (.goto 4, 3) := by decide +kernel
theorem dX6_howManyLinesAround_39 : decode cX6_howManyLinesAround 39 = .ok (.iconst 0, 1) := by decide +kernel
theorem dX6_howManyLinesAround_40 : decode cX6_howManyLinesAround 40 = .ok (.ireturn, 1) := by decide +kernel
theorem dX6_waysThrough_0 : decode cX6_waysThrough 0 = .ok (.aload_n 0, 1) := by decide +kernel
theorem dX6_waysThrough_1 : decode cX6_waysThrough 1 = .ok (.iconst 0, 1) := by decide +kernel
theorem dX6_waysThrough_2 : decode cX6_waysThrough 2 = .ok (.aload_n 0, 1) := by decide +kernel
theorem dX6_waysThrough_3 : decode cX6_waysThrough 3 = .ok (.getfield 30, 3) := by decide +kernel
theorem dX6_waysThrough_6 : decode cX6_waysThrough 6 = .ok (.iconst 0, 1) := by decide +kernel
theorem dX6_waysThrough_7 : decode cX6_waysThrough 7 = .ok (.invokevirtual 81, 3) := by decide +kernel
theorem dX6_waysThrough_10 : decode cX6_waysThrough 10 = .ok (.l2i, 1) := by decide +kernel
theorem dX6_waysThrough_11 : decode cX6_waysThrough 11 = .ok (.ireturn, 1) := by decide +kernel
theorem dX6_waysThroughRow_0 : decode cX6_waysThroughRow 0 = .ok (.lconst 1, 1) := by decide +kernel
theorem dX6_waysThroughRow_1 : decode cX6_waysThroughRow 1 = .ok (.lstore 4, 2) := by decide +kernel
theorem dX6_waysThroughRow_3 : decode cX6_waysThroughRow 3 = .ok (.iload_n 1, 1) := by decide +kernel
theorem dX6_waysThroughRow_4 : decode cX6_waysThroughRow 4 = .ok (.istore 6, 2) := by decide +kernel
theorem dX6_waysThroughRow_6 : decode cX6_waysThroughRow 6 = .ok (.iload 6, 2) := by decide +kernel
theorem dX6_waysThroughRow_8 : decode cX6_waysThroughRow 8 = .ok (.iload_n 2, 1) := by decide +kernel
theorem dX6_waysThroughRow_9 : decode cX6_waysThroughRow 9 = .ok (.if_icmp .ge 126, 3) := by decide +kernel
theorem dX6_waysThroughRow_12 : decode cX6_waysThroughRow 12 = .ok (.iload_n 3, 1) := by decide +kernel
theorem dX6_waysThroughRow_13 : decode cX6_waysThroughRow 13 = .ok (.iconst 3, 1) := by decide +kernel
theorem dX6_waysThroughRow_14 : decode cX6_waysThroughRow 14 = .ok (.if_icmp .gt 121, 3) := by decide +kernel
theorem dX6_waysThroughRow_17 : decode cX6_waysThroughRow 17 = .ok (.aload_n 0, 1) := by decide +kernel
theorem dX6_waysThroughRow_18 : decode cX6_waysThroughRow 18 = .ok (.iload 6, 2) := by decide +kernel
theorem dX6_waysThroughRow_20 : decode cX6_waysThroughRow 20 = .ok (.invokevirtual 85, 3) := by decide +kernel
theorem dX6_waysThroughRow_23 : decode cX6_waysThroughRow 23 = .ok (.istore 7, 2) := by decide +kernel
theorem dX6_waysThroughRow_25 : decode cX6_waysThroughRow 25 = .ok (.aload_n 0, 1) := by decide +kernel
theorem dX6_waysThroughRow_26 : decode cX6_waysThroughRow 26 = .ok (.iload 6, 2) := by decide +kernel
theorem dX6_waysThroughRow_28 : decode cX6_waysThroughRow 28 = .ok (.invokevirtual 88, 3) := by decide +kernel
theorem dX6_waysThroughRow_31 : decode cX6_waysThroughRow 31 = .ok (.iconst 2, 1) := by decide +kernel
theorem dX6_waysThroughRow_32 : decode cX6_waysThroughRow 32 = .ok (.if_icmp .ne 53, 3) := by decide +kernel
theorem dX6_waysThroughRow_35 : decode cX6_waysThroughRow 35 = .ok (.aload_n 0, 1) := by decide +kernel
theorem dX6_waysThroughRow_36 : decode cX6_waysThroughRow 36 = .ok (.iload 7, 2) := by decide +kernel
theorem dX6_waysThroughRow_38 : decode cX6_waysThroughRow 38 = .ok (.invokevirtual 85, 3) := by decide +kernel
theorem dX6_waysThroughRow_41 : decode cX6_waysThroughRow 41 = .ok (.istore 8, 2) := by decide +kernel
theorem dX6_waysThroughRow_43 : decode cX6_waysThroughRow 43 = .ok (.lload 4, 2) := by decide +kernel
theorem dX6_waysThroughRow_45 : decode cX6_waysThroughRow 45 = .ok (.aload_n 0, 1) := by decide +kernel
theorem dX6_waysThroughRow_46 : decode cX6_waysThroughRow 46 = .ok (.iload 6, 2) := by decide +kernel
theorem dX6_waysThroughRow_48 : decode cX6_waysThroughRow 48 = .ok (.iconst 1, 1) := by decide +kernel
theorem dX6_waysThroughRow_49 : decode cX6_waysThroughRow 49 = .ok (.iadd, 1) := by decide +kernel
theorem dX6_waysThroughRow_50 : decode cX6_waysThroughRow 50 = .ok (.iload 7, 2) := by decide +kernel
theorem dX6_waysThroughRow_52 : decode cX6_waysThroughRow 52 = .ok (.iload_n 3, 1) := by decide +kernel
theorem dX6_waysThroughRow_53 : decode cX6_waysThroughRow 53 = .ok (.iconst 1, 1) := by decide +kernel
theorem dX6_waysThroughRow_54 : decode cX6_waysThroughRow 54 = .ok (.iadd, 1) := by decide +kernel
theorem dX6_waysThroughRow_55 : decode cX6_waysThroughRow 55 = .ok (.invokevirtual 81, 3) := by decide +kernel
theorem dX6_waysThroughRow_58 : decode cX6_waysThroughRow 58 = .ok (.aload_n 0, 1) := by decide +kernel
theorem dX6_waysThroughRow_59 : decode cX6_waysThroughRow 59 = .ok (.iload 7, 2) := by decide +kernel
theorem dX6_waysThroughRow_61 : decode cX6_waysThroughRow 61 = .ok (.iconst 1, 1) := by decide +kernel
theorem dX6_waysThroughRow_62 : decode cX6_waysThroughRow 62 = .ok (.iadd, 1) := by decide +kernel
theorem dX6_waysThroughRow_63 : decode cX6_waysThroughRow 63 = .ok (.iload 8, 2) := by decide +kernel
theorem dX6_waysThroughRow_65 : decode cX6_waysThroughRow 65 = .ok (.iload_n 3, 1) := by decide +kernel
theorem dX6_waysThroughRow_66 : decode cX6_waysThroughRow 66 = .ok (.iconst 1, 1) := by decide +kernel
theorem dX6_waysThroughRow_67 : decode cX6_waysThroughRow 67 = .ok (.iadd, 1) := by decide +kernel
theorem dX6_waysThroughRow_68 : decode cX6_waysThroughRow 68 = .ok (.invokevirtual 81, 3) := by decide +kernel
theorem dX6_waysThroughRow_71 : decode cX6_waysThroughRow 71 = .ok (.ladd, 1) := by decide +kernel
theorem dX6_waysThroughRow_72 : decode cX6_waysThroughRow 72 = .ok (.lmul, 1) := by decide +kernel
theorem dX6_waysThroughRow_73 : decode cX6_waysThroughRow 73 = .ok (.invokestatic 91, 3) := by decide +kernel
theorem dX6_waysThroughRow_76 : decode cX6_waysThroughRow 76 = .ok (.lstore 4, 2) := by decide +kernel
theorem dX6_waysThroughRow_78 : decode cX6_waysThroughRow 78 = .ok (.iload 8, 2) := by decide +kernel
theorem dX6_waysThroughRow_80 : decode cX6_waysThroughRow 80 = .ok (.istore 6, 2) := by decide +kernel
theorem dX6_waysThroughRow_82 : decode cX6_waysThroughRow 82 = .ok (.goto 47, 3) := by decide +kernel
theorem dX6_waysThroughRow_85 : decode cX6_waysThroughRow 85 = .ok (.aload_n 0, 1) := by decide +kernel
theorem dX6_waysThroughRow_86 : decode cX6_waysThroughRow 86 = .ok (.iload 6, 2) := by decide +kernel
theorem dX6_waysThroughRow_88 : decode cX6_waysThroughRow 88 = .ok (.invokevirtual 88, 3) := by decide +kernel
theorem dX6_waysThroughRow_91 : decode cX6_waysThroughRow 91 = .ok (.iconst 5, 1) := by decide +kernel
theorem dX6_waysThroughRow_92 : decode cX6_waysThroughRow 92 = .ok (.if_icmp .ne 37, 3) := by decide +kernel
theorem dX6_waysThroughRow_95 : decode cX6_waysThroughRow 95 = .ok (.lload 4, 2) := by decide +kernel
theorem dX6_waysThroughRow_97 : decode cX6_waysThroughRow 97 = .ok (.aload_n 0, 1) := by decide +kernel
theorem dX6_waysThroughRow_98 : decode cX6_waysThroughRow 98 = .ok (.iload 6, 2) := by decide +kernel
theorem dX6_waysThroughRow_100 : decode cX6_waysThroughRow 100 = .ok (.iconst 1, 1) := by decide +kernel
theorem dX6_waysThroughRow_101 : decode cX6_waysThroughRow 101 = .ok (.iadd, 1) := by decide +kernel
theorem dX6_waysThroughRow_102 : decode cX6_waysThroughRow 102 = .ok (.iload 7, 2) := by decide +kernel
theorem dX6_waysThroughRow_104 : decode cX6_waysThroughRow 104 = .ok (.iload_n 3, 1) := by decide +kernel
theorem dX6_waysThroughRow_105 : decode cX6_waysThroughRow 105 = .ok (.iconst 1, 1) := by decide +kernel
theorem dX6_waysThroughRow_106 : decode cX6_waysThroughRow 106 = .ok (.iadd, 1) := by decide +kernel
theorem dX6_waysThroughRow_107 : decode cX6_waysThroughRow 107 = .ok (.invokevirtual 81, 3) := by decide +kernel
theorem dX6_waysThroughRow_110 : decode cX6_waysThroughRow 110 = .ok (.aload_n 0, 1) := by decide +kernel
theorem dX6_waysThroughRow_111 : decode cX6_waysThroughRow 111 = .ok (.iload 6, 2) := by decide +kernel
theorem dX6_waysThroughRow_113 : decode cX6_waysThroughRow 113 = .ok (.invokevirtual 72, 3) := by decide +kernel
theorem dX6_waysThroughRow_116 : decode cX6_waysThroughRow 116 = .ok (.invokestatic 95, 3) := by decide +kernel
theorem dX6_waysThroughRow_119 : decode cX6_waysThroughRow 119 = .ok (.lmul, 1) := by decide +kernel
theorem dX6_waysThroughRow_120 : decode cX6_waysThroughRow 120 = .ok (.invokestatic 91, 3) := by decide +kernel
theorem dX6_waysThroughRow_123 : decode cX6_waysThroughRow 123 = .ok (.lstore 4, 2) := by decide +kernel
theorem dX6_waysThroughRow_125 : decode cX6_waysThroughRow 125 = .ok (.iload 7, 2) := by decide +kernel
theorem dX6_waysThroughRow_127 : decode cX6_waysThroughRow 127 = .ok (.istore 6, 2) := by decide +kernel
theorem dX6_waysThroughRow_129 : decode cX6_waysThroughRow 129 = .ok (.iinc 6 1, 3) := by decide +kernel
theorem dX6_waysThroughRow_132 : decode cX6_waysThroughRow 132 = .ok (.goto (-126), 3) := by decide +kernel
theorem dX6_waysThroughRow_135 : decode cX6_waysThroughRow 135 = .ok (.lload 4, 2) := by decide +kernel
theorem dX6_waysThroughRow_137 : decode cX6_waysThroughRow 137 = .ok (.lreturn, 1) := by decide +kernel
theorem dX6_waysRound_0 : decode cX6_waysRound 0 = .ok (.lconst 1, 1) := by decide +kernel
theorem dX6_waysRound_1 : decode cX6_waysRound 1 = .ok (.lstore_n 3, 1) := by decide +kernel
theorem dX6_waysRound_2 : decode cX6_waysRound 2 = .ok (.lconst 1, 1) := by decide +kernel
theorem dX6_waysRound_3 : decode cX6_waysRound 3 = .ok (.lstore 5, 2) := by decide +kernel
theorem dX6_waysRound_5 : decode cX6_waysRound 5 = .ok (.iconst 0, 1) := by decide +kernel
theorem dX6_waysRound_6 : decode cX6_waysRound 6 = .ok (.istore 7, 2) := by decide +kernel
theorem dX6_waysRound_8 : decode cX6_waysRound 8 = .ok (.iload 7, 2) := by decide +kernel
theorem dX6_waysRound_10 : decode cX6_waysRound 10 = .ok (.iload_n 2, 1) := by decide +kernel
theorem dX6_waysRound_11 : decode cX6_waysRound 11 = .ok (.if_icmp .ge 26, 3) := by decide +kernel
theorem dX6_waysRound_14 : decode cX6_waysRound 14 = .ok (.lload 5, 2) := by decide +kernel
theorem dX6_waysRound_16 : decode cX6_waysRound 16 = .ok (.lload_n 0, 1) := by decide +kernel
theorem dX6_waysRound_17 : decode cX6_waysRound 17 = .ok (.lmul, 1) := by decide +kernel
theorem dX6_waysRound_18 : decode cX6_waysRound 18 = .ok (.invokestatic 91, 3) := by decide +kernel
theorem dX6_waysRound_21 : decode cX6_waysRound 21 = .ok (.lstore 5, 2) := by decide +kernel
theorem dX6_waysRound_23 : decode cX6_waysRound 23 = .ok (.lload_n 3, 1) := by decide +kernel
theorem dX6_waysRound_24 : decode cX6_waysRound 24 = .ok (.lload 5, 2) := by decide +kernel
theorem dX6_waysRound_26 : decode cX6_waysRound 26 = .ok (.ladd, 1) := by decide +kernel
theorem dX6_waysRound_27 : decode cX6_waysRound 27 = .ok (.invokestatic 91, 3) := by decide +kernel
theorem dX6_waysRound_30 : decode cX6_waysRound 30 = .ok (.lstore_n 3, 1) := by decide +kernel
theorem dX6_waysRound_31 : decode cX6_waysRound 31 = .ok (.iinc 7 1, 3) := by decide +kernel
theorem dX6_waysRound_34 : decode cX6_waysRound 34 = .ok (.goto (-26), 3) := by decide +kernel
theorem dX6_waysRound_37 : decode cX6_waysRound 37 = .ok (.lload_n 3, 1) := by decide +kernel
theorem dX6_waysRound_38 : decode cX6_waysRound 38 = .ok (.lreturn, 1) := by decide +kernel
theorem dX6_cut_0 : decode cX6_cut 0 = .ok (.lload_n 0, 1) := by decide +kernel
theorem dX6_cut_1 : decode cX6_cut 1 = .ok (.ldc2_w 99, 3) := by decide +kernel
theorem dX6_cut_4 : decode cX6_cut 4 = .ok (.invokestatic 101, 3) := by decide +kernel
theorem dX6_cut_7 : decode cX6_cut 7 = .ok (.lreturn, 1) := by decide +kernel
theorem dX6_isSign_0 : decode cX6_isSign 0 = .ok (.iload_n 1, 1) := by decide +kernel
theorem dX6_isSign_1 : decode cX6_isSign 1 = .ok (.ifCond .lt 21, 3) := by decide +kernel
theorem dX6_isSign_4 : decode cX6_isSign 4 = .ok (.iload_n 1, 1) := by decide +kernel
theorem dX6_isSign_5 : decode cX6_isSign 5 = .ok (.aload_n 0, 1) := by decide +kernel
theorem dX6_isSign_6 : decode cX6_isSign 6 = .ok (.getfield 30, 3) := by decide +kernel
theorem dX6_isSign_9 : decode cX6_isSign 9 = .ok (.if_icmp .ge 13, 3) := by decide +kernel
theorem dX6_isSign_12 : decode cX6_isSign 12 = .ok (.iload_n 1, 1) := by decide +kernel
theorem dX6_isSign_13 : decode cX6_isSign 13 = .ok (.bipush 80, 2) := by decide +kernel
theorem dX6_isSign_15 : decode cX6_isSign 15 = .ok (.if_icmp .ge 7, 3) := by decide +kernel
theorem dX6_isSign_18 : decode cX6_isSign 18 = .ok (.iconst 1, 1) := by decide +kernel
theorem dX6_isSign_19 : decode cX6_isSign 19 = .ok (.goto 4, 3) := by decide +kernel
theorem dX6_isSign_22 : decode cX6_isSign 22 = .ok (.iconst 0, 1) := by decide +kernel
theorem dX6_isSign_23 : decode cX6_isSign 23 = .ok (.ireturn, 1) := by decide +kernel
theorem dX6_isLook_0 : decode cX6_isLook 0 = .ok (.iload_n 1, 1) := by decide +kernel
theorem dX6_isLook_1 : decode cX6_isLook 1 = .ok (.ifCond .lt 21, 3) := by decide +kernel
theorem dX6_isLook_4 : decode cX6_isLook 4 = .ok (.iload_n 1, 1) := by decide +kernel
theorem dX6_isLook_5 : decode cX6_isLook 5 = .ok (.aload_n 0, 1) := by decide +kernel
theorem dX6_isLook_6 : decode cX6_isLook 6 = .ok (.getfield 34, 3) := by decide +kernel
theorem dX6_isLook_9 : decode cX6_isLook 9 = .ok (.if_icmp .ge 13, 3) := by decide +kernel
theorem dX6_isLook_12 : decode cX6_isLook 12 = .ok (.iload_n 1, 1) := by decide +kernel
theorem dX6_isLook_13 : decode cX6_isLook 13 = .ok (.bipush 24, 2) := by decide +kernel
theorem dX6_isLook_15 : decode cX6_isLook 15 = .ok (.if_icmp .ge 7, 3) := by decide +kernel
theorem dX6_isLook_18 : decode cX6_isLook 18 = .ok (.iconst 1, 1) := by decide +kernel
theorem dX6_isLook_19 : decode cX6_isLook 19 = .ok (.goto 4, 3) := by decide +kernel
theorem dX6_isLook_22 : decode cX6_isLook 22 = .ok (.iconst 0, 1) := by decide +kernel
theorem dX6_isLook_23 : decode cX6_isLook 23 = .ok (.ireturn, 1) := by decide +kernel
theorem dX7_init_0 : decode cX7_init 0 = .ok (.aload_n 0, 1) := by decide +kernel
theorem dX7_init_1 : decode cX7_init 1 = .ok (.invokespecial 3, 3) := by decide +kernel
theorem dX7_init_4 : decode cX7_init 4 = .ok (.aload_n 0, 1) := by decide +kernel
theorem dX7_init_5 : decode cX7_init 5 = .ok (.iconst 3, 1) := by decide +kernel
theorem dX7_init_6 : decode cX7_init 6 = .ok (.newarray .int, 2) := by decide +kernel
theorem dX7_init_8 : decode cX7_init 8 = .ok (.putfield 9, 3) := by decide +kernel
theorem dX7_init_11 : decode cX7_init 11 = .ok (.aload_n 0, 1) := by decide +kernel
theorem dX7_init_12 : decode cX7_init 12 = .ok (.iconst 0, 1) := by decide +kernel
theorem dX7_init_13 : decode cX7_init 13 = .ok (.putfield 15, 3) := by decide +kernel
theorem dX7_init_16 : decode cX7_init 16 = .ok (.aload_n 0, 1) := by decide +kernel
theorem dX7_init_17 : decode cX7_init 17 = .ok (.iconst 0, 1) := by decide +kernel
theorem dX7_init_18 : decode cX7_init 18 = .ok (.putfield 19, 3) := by decide +kernel
theorem dX7_init_21 : decode cX7_init 21 = .ok (.aload_n 0, 1) := by decide +kernel
theorem dX7_init_22 : decode cX7_init 22 = .ok (.new 22, 3) := by decide +kernel
theorem dX7_init_25 : decode cX7_init 25 = .ok (.dup, 1) := by decide +kernel
theorem dX7_init_26 : decode cX7_init 26 = .ok (.invokespecial 24, 3) := by decide +kernel
theorem dX7_init_29 : decode cX7_init 29 = .ok (.putfield 25, 3) := by decide +kernel
theorem dX7_init_32 : decode cX7_init 32 = .ok (.return_, 1) := by decide +kernel
theorem dX7_read_0 : decode cX7_read 0 = .ok (.aload_n 0, 1) := by decide +kernel
theorem dX7_read_1 : decode cX7_read 1 = .ok (.getfield 25, 3) := by decide +kernel
theorem dX7_read_4 : decode cX7_read 4 = .ok (.invokevirtual 29, 3) := by decide +kernel
theorem dX7_read_7 : decode cX7_read 7 = .ok (.aload_n 0, 1) := by decide +kernel
theorem dX7_read_8 : decode cX7_read 8 = .ok (.iconst 0, 1) := by decide +kernel
theorem dX7_read_9 : decode cX7_read 9 = .ok (.putfield 15, 3) := by decide +kernel
theorem dX7_read_12 : decode cX7_read 12 = .ok (.aload_n 0, 1) := by decide +kernel
theorem dX7_read_13 : decode cX7_read 13 = .ok (.iconst 0, 1) := by decide +kernel
theorem dX7_read_14 : decode cX7_read 14 = .ok (.putfield 19, 3) := by decide +kernel
theorem dX7_read_17 : decode cX7_read 17 = .ok (.iconst 0, 1) := by decide +kernel
theorem dX7_read_18 : decode cX7_read 18 = .ok (.istore_n 3, 1) := by decide +kernel
theorem dX7_read_19 : decode cX7_read 19 = .ok (.iload_n 3, 1) := by decide +kernel
theorem dX7_read_20 : decode cX7_read 20 = .ok (.iload_n 2, 1) := by decide +kernel
theorem dX7_read_21 : decode cX7_read 21 = .ok (.if_icmp .ge 35, 3) := by decide +kernel
theorem dX7_read_24 : decode cX7_read 24 = .ok (.iload_n 3, 1) := by decide +kernel
theorem dX7_read_25 : decode cX7_read 25 = .ok (.aload_n 1, 1) := by decide +kernel
theorem dX7_read_26 : decode cX7_read 26 = .ok (.arraylength, 1) := by decide +kernel
theorem dX7_read_27 : decode cX7_read 27 = .ok (.if_icmp .ge 29, 3) := by decide +kernel
theorem dX7_read_30 : decode cX7_read 30 = .ok (.aload_n 1, 1) := by decide +kernel
theorem dX7_read_31 : decode cX7_read 31 = .ok (.iload_n 3, 1) := by decide +kernel
theorem dX7_read_32 : decode cX7_read 32 = .ok (.iaload, 1) := by decide +kernel
theorem dX7_read_33 : decode cX7_read 33 = .ok (.bipush 32, 2) := by decide +kernel
theorem dX7_read_35 : decode cX7_read 35 = .ok (.if_icmp .eq 15, 3) := by decide +kernel
theorem dX7_read_38 : decode cX7_read 38 = .ok (.aload_n 0, 1) := by decide +kernel
theorem dX7_read_39 : decode cX7_read 39 = .ok (.aload_n 1, 1) := by decide +kernel
theorem dX7_read_40 : decode cX7_read 40 = .ok (.iload_n 3, 1) := by decide +kernel
theorem dX7_read_41 : decode cX7_read 41 = .ok (.iaload, 1) := by decide +kernel
theorem dX7_read_42 : decode cX7_read 42 = .ok (.invokevirtual 32, 3) := by decide +kernel
theorem dX7_read_45 : decode cX7_read 45 = .ok (.ifCond .ne 5, 3) := by decide +kernel
theorem dX7_read_48 : decode cX7_read 48 = .ok (.iload_n 3, 1) := by decide +kernel
theorem dX7_read_49 : decode cX7_read 49 = .ok (.ireturn, 1) := by decide +kernel
theorem dX7_read_50 : decode cX7_read 50 = .ok (.iinc 3 1, 3) := by decide +kernel
theorem dX7_read_53 : decode cX7_read 53 = .ok (.goto (-34), 3) := by decide +kernel
theorem dX7_read_56 : decode cX7_read 56 = .ok (.aload_n 0, 1) := by decide +kernel
theorem dX7_read_57 : decode cX7_read 57 = .ok (.getfield 15, 3) := by decide +kernel
theorem dX7_read_60 : decode cX7_read 60 = .ok (.ifCond .ne 14, 3) := by decide +kernel
theorem dX7_read_63 : decode cX7_read 63 = .ok (.aload_n 0, 1) := by decide +kernel
theorem dX7_read_64 : decode cX7_read 64 = .ok (.getfield 19, 3) := by decide +kernel
theorem dX7_read_67 : decode cX7_read 67 = .ok (.ifCond .ne 7, 3) := by decide +kernel
theorem dX7_read_70 : decode cX7_read 70 = .ok (.iconst (-1), 1) := by decide +kernel
theorem dX7_read_71 : decode cX7_read 71 = .ok (.goto 4, 3) := by decide +kernel
theorem dX7_read_74 : decode cX7_read 74 = .ok (.iload_n 2, 1) := by decide +kernel
theorem dX7_read_75 : decode cX7_read 75 = .ok (.ireturn, 1) := by decide +kernel
theorem dX7_takes_0 : decode cX7_takes 0 = .ok (.aload_n 0, 1) := by decide +kernel
theorem dX7_takes_1 : decode cX7_takes 1 = .ok (.getfield 19, 3) := by decide +kernel
theorem dX7_takes_4 : decode cX7_takes 4 = .ok (.ifCond .eq 22, 3) := by decide +kernel
theorem dX7_takes_7 : decode cX7_takes 7 = .ok (.iload_n 1, 1) := by decide +kernel
theorem dX7_takes_8 : decode cX7_takes 8 = .ok (.bipush 91, 2) := by decide +kernel
theorem dX7_takes_10 : decode cX7_takes 10 = .ok (.if_icmp .ne 14, 3) := by decide +kernel
theorem dX7_takes_13 : decode cX7_takes 13 = .ok (.aload_n 0, 1) := by decide +kernel
theorem dX7_takes_14 : decode cX7_takes 14 = .ok (.invokevirtual 36, 3) := by decide +kernel
theorem dX7_takes_17 : decode cX7_takes 17 = .ok (.ifCond .eq 7, 3) := by decide +kernel
theorem dX7_takes_20 : decode cX7_takes 20 = .ok (.iconst 1, 1) := by decide +kernel
theorem dX7_takes_21 : decode cX7_takes 21 = .ok (.goto 4, 3) := by decide +kernel
theorem dX7_takes_24 : decode cX7_takes 24 = .ok (.iconst 0, 1) := by decide +kernel
theorem dX7_takes_25 : decode cX7_takes 25 = .ok (.ireturn, 1) := by decide +kernel
theorem dX7_takes_26 : decode cX7_takes 26 = .ok (.iload_n 1, 1) := by decide +kernel
theorem dX7_takes_27 : decode cX7_takes 27 = .ok (.bipush 97, 2) := by decide +kernel
theorem dX7_takes_29 : decode cX7_takes 29 = .ok (.if_icmp .lt 18, 3) := by decide +kernel
theorem dX7_takes_32 : decode cX7_takes 32 = .ok (.iload_n 1, 1) := by decide +kernel
theorem dX7_takes_33 : decode cX7_takes 33 = .ok (.bipush 103, 2) := by decide +kernel
theorem dX7_takes_35 : decode cX7_takes 35 = .ok (.if_icmp .ge 12, 3) := by decide +kernel
theorem dX7_takes_38 : decode cX7_takes 38 = .ok (.aload_n 0, 1) := by decide +kernel
theorem dX7_takes_39 : decode cX7_takes 39 = .ok (.iload_n 1, 1) := by decide +kernel
theorem dX7_takes_40 : decode cX7_takes 40 = .ok (.bipush 97, 2) := by decide +kernel
theorem dX7_takes_42 : decode cX7_takes 42 = .ok (.isub, 1) := by decide +kernel
theorem dX7_takes_43 : decode cX7_takes 43 = .ok (.invokevirtual 40, 3) := by decide +kernel
theorem dX7_takes_46 : decode cX7_takes 46 = .ok (.ireturn, 1) := by decide +kernel
theorem dX7_takes_47 : decode cX7_takes 47 = .ok (.iload_n 1, 1) := by decide +kernel
theorem dX7_takes_48 : decode cX7_takes 48 = .ok (.bipush 49, 2) := by decide +kernel
theorem dX7_takes_50 : decode cX7_takes 50 = .ok (.if_icmp .lt 18, 3) := by decide +kernel
theorem dX7_takes_53 : decode cX7_takes 53 = .ok (.iload_n 1, 1) := by decide +kernel
theorem dX7_takes_54 : decode cX7_takes 54 = .ok (.bipush 57, 2) := by decide +kernel
theorem dX7_takes_56 : decode cX7_takes 56 = .ok (.if_icmp .gt 12, 3) := by decide +kernel
theorem dX7_takes_59 : decode cX7_takes 59 = .ok (.aload_n 0, 1) := by decide +kernel
theorem dX7_takes_60 : decode cX7_takes 60 = .ok (.iload_n 1, 1) := by decide +kernel
theorem dX7_takes_61 : decode cX7_takes 61 = .ok (.bipush 48, 2) := by decide +kernel
theorem dX7_takes_63 : decode cX7_takes 63 = .ok (.isub, 1) := by decide +kernel
theorem dX7_takes_64 : decode cX7_takes 64 = .ok (.invokevirtual 43, 3) := by decide +kernel
theorem dX7_takes_67 : decode cX7_takes 67 = .ok (.ireturn, 1) := by decide +kernel
theorem dX7_takes_68 : decode cX7_takes 68 = .ok (.iload_n 1, 1) := by decide +kernel
theorem dX7_takes_69 : decode cX7_takes 69 = .ok (.lookupswitch 88 #[(40, 61), (41, 73), (46, 51), (93, 80), (124, 66)], 51) := by decide +kernel
theorem dX7_takes_120 : decode cX7_takes 120 = .ok (.aload_n 0, 1) := by decide +kernel
theorem dX7_takes_121 : decode cX7_takes 121 = .ok (.getfield 25, 3) := by decide +kernel
theorem dX7_takes_124 : decode cX7_takes 124 = .ok (.iconst 1, 1) := by decide +kernel
theorem dX7_takes_125 : decode cX7_takes 125 = .ok (.iconst 0, 1) := by decide +kernel
theorem dX7_takes_126 : decode cX7_takes 126 = .ok (.invokevirtual 46, 3) := by decide +kernel
theorem dX7_takes_129 : decode cX7_takes 129 = .ok (.ireturn, 1) := by decide +kernel
theorem dX7_takes_130 : decode cX7_takes 130 = .ok (.aload_n 0, 1) := by decide +kernel
theorem dX7_takes_131 : decode cX7_takes 131 = .ok (.invokevirtual 50, 3) := by decide +kernel
theorem dX7_takes_134 : decode cX7_takes 134 = .ok (.ireturn, 1) := by decide +kernel
theorem dX7_takes_135 : decode cX7_takes 135 = .ok (.aload_n 0, 1) := by decide +kernel
theorem dX7_takes_136 : decode cX7_takes 136 = .ok (.iconst 2, 1) := by decide +kernel
theorem dX7_takes_137 : decode cX7_takes 137 = .ok (.iconst 3, 1) := by decide +kernel
theorem dX7_takes_138 : decode cX7_takes 138 = .ok (.invokevirtual 53, 3) := by decide +kernel
theorem dX7_takes_141 : decode cX7_takes 141 = .ok (.ireturn, 1) := by decide +kernel
theorem dX7_takes_142 : decode cX7_takes 142 = .ok (.aload_n 0, 1) := by decide +kernel
theorem dX7_takes_143 : decode cX7_takes 143 = .ok (.iconst 3, 1) := by decide +kernel
theorem dX7_takes_144 : decode cX7_takes 144 = .ok (.iconst 4, 1) := by decide +kernel
theorem dX7_takes_145 : decode cX7_takes 145 = .ok (.invokevirtual 56, 3) := by decide +kernel
theorem dX7_takes_148 : decode cX7_takes 148 = .ok (.ireturn, 1) := by decide +kernel
theorem dX7_takes_149 : decode cX7_takes 149 = .ok (.aload_n 0, 1) := by decide +kernel
theorem dX7_takes_150 : decode cX7_takes 150 = .ok (.iconst 5, 1) := by decide +kernel
theorem dX7_takes_151 : decode cX7_takes 151 = .ok (.bipush 6, 2) := by decide +kernel
theorem dX7_takes_153 : decode cX7_takes 153 = .ok (.invokevirtual 56, 3) := by decide +kernel
theorem dX7_takes_156 : decode cX7_takes 156 = .ok (.ireturn, 1) := by decide +kernel
theorem dX7_takes_157 : decode cX7_takes 157 = .ok (.iconst 0, 1) := by decide +kernel
theorem dX7_takes_158 : decode cX7_takes 158 = .ok (.ireturn, 1) := by decide +kernel
theorem dX7_takesLook_0 : decode cX7_takesLook 0 = .ok (.iconst (-1), 1) := by decide +kernel
theorem dX7_takesLook_1 : decode cX7_takesLook 1 = .ok (.istore_n 2, 1) := by decide +kernel
theorem dX7_takesLook_2 : decode cX7_takesLook 2 = .ok (.iconst 0, 1) := by decide +kernel
theorem dX7_takesLook_3 : decode cX7_takesLook 3 = .ok (.istore_n 3, 1) := by decide +kernel
theorem dX7_takesLook_4 : decode cX7_takesLook 4 = .ok (.iload_n 3, 1) := by decide +kernel
theorem dX7_takesLook_5 : decode cX7_takesLook 5 = .ok (.aload_n 0, 1) := by decide +kernel
theorem dX7_takesLook_6 : decode cX7_takesLook 6 = .ok (.getfield 15, 3) := by decide +kernel
theorem dX7_takesLook_9 : decode cX7_takesLook 9 = .ok (.if_icmp .ge 38, 3) := by decide +kernel
theorem dX7_takesLook_12 : decode cX7_takesLook 12 = .ok (.iload_n 3, 1) := by decide +kernel
theorem dX7_takesLook_13 : decode cX7_takesLook 13 = .ok (.iconst 3, 1) := by decide +kernel
theorem dX7_takesLook_14 : decode cX7_takesLook 14 = .ok (.if_icmp .ge 33, 3) := by decide +kernel
theorem dX7_takesLook_17 : decode cX7_takesLook 17 = .ok (.aload_n 0, 1) := by decide +kernel
theorem dX7_takesLook_18 : decode cX7_takesLook 18 = .ok (.getfield 25, 3) := by decide +kernel
theorem dX7_takesLook_21 : decode cX7_takesLook 21 = .ok (.aload_n 0, 1) := by decide +kernel
theorem dX7_takesLook_22 : decode cX7_takesLook 22 = .ok (.getfield 9, 3) := by decide +kernel
theorem dX7_takesLook_25 : decode cX7_takesLook 25 = .ok (.iload_n 3, 1) := by decide +kernel
theorem dX7_takesLook_26 : decode cX7_takesLook 26 = .ok (.iaload, 1) := by decide +kernel
theorem dX7_takesLook_27 : decode cX7_takesLook 27 = .ok (.invokevirtual 59, 3) := by decide +kernel
theorem dX7_takesLook_30 : decode cX7_takesLook 30 = .ok (.iconst 5, 1) := by decide +kernel
theorem dX7_takesLook_31 : decode cX7_takesLook 31 = .ok (.if_icmp .ne 10, 3) := by decide +kernel
theorem dX7_takesLook_34 : decode cX7_takesLook 34 = .ok (.aload_n 0, 1) := by decide +kernel
theorem dX7_takesLook_35 : decode cX7_takesLook 35 = .ok (.getfield 9, 3) := by decide +kernel
theorem dX7_takesLook_38 : decode cX7_takesLook 38 = .ok (.iload_n 3, 1) := by decide +kernel
theorem dX7_takesLook_39 : decode cX7_takesLook 39 = .ok (.iaload, 1) := by decide +kernel
theorem dX7_takesLook_40 : decode cX7_takesLook 40 = .ok (.istore_n 2, 1) := by decide +kernel
theorem dX7_takesLook_41 : decode cX7_takesLook 41 = .ok (.iinc 3 1, 3) := by decide +kernel
theorem dX7_takesLook_44 : decode cX7_takesLook 44 = .ok (.goto (-40), 3) := by decide +kernel
theorem dX7_takesLook_47 : decode cX7_takesLook 47 = .ok (.aload_n 0, 1) := by decide +kernel
theorem dX7_takesLook_48 : decode cX7_takesLook 48 = .ok (.getfield 25, 3) := by decide +kernel
theorem dX7_takesLook_51 : decode cX7_takesLook 51 = .ok (.iload_n 1, 1) := by decide +kernel
theorem dX7_takesLook_52 : decode cX7_takesLook 52 = .ok (.iload_n 2, 1) := by decide +kernel
theorem dX7_takesLook_53 : decode cX7_takesLook 53 = .ok (.invokevirtual 63, 3) := by decide +kernel
theorem dX7_takesLook_56 : decode cX7_takesLook 56 = .ok (.ifCond .ne 5, 3) := by decide +kernel
theorem dX7_takesLook_59 : decode cX7_takesLook 59 = .ok (.iconst 0, 1) := by decide +kernel
theorem dX7_takesLook_60 : decode cX7_takesLook 60 = .ok (.ireturn, 1) := by decide +kernel
theorem dX7_takesLook_61 : decode cX7_takesLook 61 = .ok (.iconst 0, 1) := by decide +kernel
theorem dX7_takesLook_62 : decode cX7_takesLook 62 = .ok (.istore_n 3, 1) := by decide +kernel
theorem dX7_takesLook_63 : decode cX7_takesLook 63 = .ok (.iload_n 3, 1) := by decide +kernel
theorem dX7_takesLook_64 : decode cX7_takesLook 64 = .ok (.aload_n 0, 1) := by decide +kernel
theorem dX7_takesLook_65 : decode cX7_takesLook 65 = .ok (.getfield 15, 3) := by decide +kernel
theorem dX7_takesLook_68 : decode cX7_takesLook 68 = .ok (.if_icmp .ge 28, 3) := by decide +kernel
theorem dX7_takesLook_71 : decode cX7_takesLook 71 = .ok (.iload_n 3, 1) := by decide +kernel
theorem dX7_takesLook_72 : decode cX7_takesLook 72 = .ok (.iconst 3, 1) := by decide +kernel
theorem dX7_takesLook_73 : decode cX7_takesLook 73 = .ok (.if_icmp .ge 23, 3) := by decide +kernel
theorem dX7_takesLook_76 : decode cX7_takesLook 76 = .ok (.aload_n 0, 1) := by decide +kernel
theorem dX7_takesLook_77 : decode cX7_takesLook 77 = .ok (.getfield 25, 3) := by decide +kernel
theorem dX7_takesLook_80 : decode cX7_takesLook 80 = .ok (.aload_n 0, 1) := by decide +kernel
theorem dX7_takesLook_81 : decode cX7_takesLook 81 = .ok (.getfield 9, 3) := by decide +kernel
theorem dX7_takesLook_84 : decode cX7_takesLook 84 = .ok (.iload_n 3, 1) := by decide +kernel
theorem dX7_takesLook_85 : decode cX7_takesLook 85 = .ok (.iaload, 1) := by decide +kernel
theorem dX7_takesLook_86 : decode cX7_takesLook 86 = .ok (.iload_n 1, 1) := by decide +kernel
theorem dX7_takesLook_87 : decode cX7_takesLook 87 = .ok (.invokevirtual 66, 3) := by decide +kernel
theorem dX7_takesLook_90 : decode cX7_takesLook 90 = .ok (.iinc 3 1, 3) := by decide +kernel
theorem dX7_takesLook_93 : decode cX7_takesLook 93 = .ok (.goto (-30), 3) := by decide +kernel
theorem dX7_takesLook_96 : decode cX7_takesLook 96 = .ok (.iconst 1, 1) := by decide +kernel
theorem dX7_takesLook_97 : decode cX7_takesLook 97 = .ok (.ireturn, 1) := by decide +kernel
theorem dX7_takesFigure_0 : decode cX7_takesFigure 0 = .ok (.aload_n 0, 1) := by decide +kernel
theorem dX7_takesFigure_1 : decode cX7_takesFigure 1 = .ok (.getfield 15, 3) := by decide +kernel
theorem dX7_takesFigure_4 : decode cX7_takesFigure 4 = .ok (.iconst 3, 1) := by decide +kernel
theorem dX7_takesFigure_5 : decode cX7_takesFigure 5 = .ok (.if_icmp .lt 5, 3) := by decide +kernel
theorem dX7_takesFigure_8 : decode cX7_takesFigure 8 = .ok (.iconst 0, 1) := by decide +kernel
theorem dX7_takesFigure_9 : decode cX7_takesFigure 9 = .ok (.ireturn, 1) := by decide +kernel
theorem dX7_takesFigure_10 : decode cX7_takesFigure 10 = .ok (.aload_n 0, 1) := by decide +kernel
theorem dX7_takesFigure_11 : decode cX7_takesFigure 11 = .ok (.iload_n 1, 1) := by decide +kernel
theorem dX7_takesFigure_12 : decode cX7_takesFigure 12 = .ok (.putfield 19, 3) := by decide +kernel
theorem dX7_takesFigure_15 : decode cX7_takesFigure 15 = .ok (.iconst 1, 1) := by decide +kernel
theorem dX7_takesFigure_16 : decode cX7_takesFigure 16 = .ok (.ireturn, 1) := by decide +kernel
theorem dX7_opensLoop_0 : decode cX7_opensLoop 0 = .ok (.aload_n 0, 1) := by decide +kernel
theorem dX7_opensLoop_1 : decode cX7_opensLoop 1 = .ok (.getfield 19, 3) := by decide +kernel
theorem dX7_opensLoop_4 : decode cX7_opensLoop 4 = .ok (.istore_n 1, 1) := by decide +kernel
theorem dX7_opensLoop_5 : decode cX7_opensLoop 5 = .ok (.aload_n 0, 1) := by decide +kernel
theorem dX7_opensLoop_6 : decode cX7_opensLoop 6 = .ok (.iconst 0, 1) := by decide +kernel
theorem dX7_opensLoop_7 : decode cX7_opensLoop 7 = .ok (.putfield 19, 3) := by decide +kernel
theorem dX7_opensLoop_10 : decode cX7_opensLoop 10 = .ok (.aload_n 0, 1) := by decide +kernel
theorem dX7_opensLoop_11 : decode cX7_opensLoop 11 = .ok (.getfield 25, 3) := by decide +kernel
theorem dX7_opensLoop_14 : decode cX7_opensLoop 14 = .ok (.dup, 1) := by decide +kernel
theorem dX7_opensLoop_15 : decode cX7_opensLoop 15 = .ok (.getfield 70, 3) := by decide +kernel
theorem dX7_opensLoop_18 : decode cX7_opensLoop 18 = .ok (.iconst 1, 1) := by decide +kernel
theorem dX7_opensLoop_19 : decode cX7_opensLoop 19 = .ok (.iadd, 1) := by decide +kernel
theorem dX7_opensLoop_20 : decode cX7_opensLoop 20 = .ok (.putfield 70, 3) := by decide +kernel
theorem dX7_opensLoop_23 : decode cX7_opensLoop 23 = .ok (.aload_n 0, 1) := by decide +kernel
theorem dX7_opensLoop_24 : decode cX7_opensLoop 24 = .ok (.iconst 5, 1) := by decide +kernel
theorem dX7_opensLoop_25 : decode cX7_opensLoop 25 = .ok (.iload_n 1, 1) := by decide +kernel
theorem dX7_opensLoop_26 : decode cX7_opensLoop 26 = .ok (.invokevirtual 73, 3) := by decide +kernel
theorem dX7_opensLoop_29 : decode cX7_opensLoop 29 = .ok (.ireturn, 1) := by decide +kernel
theorem dX7_opensChoice_0 : decode cX7_opensChoice 0 = .ok (.aload_n 0, 1) := by decide +kernel
theorem dX7_opensChoice_1 : decode cX7_opensChoice 1 = .ok (.iconst 2, 1) := by decide +kernel
theorem dX7_opensChoice_2 : decode cX7_opensChoice 2 = .ok (.iconst 0, 1) := by decide +kernel
theorem dX7_opensChoice_3 : decode cX7_opensChoice 3 = .ok (.invokevirtual 73, 3) := by decide +kernel
theorem dX7_opensChoice_6 : decode cX7_opensChoice 6 = .ok (.ifCond .ne 5, 3) := by decide +kernel
theorem dX7_opensChoice_9 : decode cX7_opensChoice 9 = .ok (.iconst 0, 1) := by decide +kernel
theorem dX7_opensChoice_10 : decode cX7_opensChoice 10 = .ok (.ireturn, 1) := by decide +kernel
theorem dX7_opensChoice_11 : decode cX7_opensChoice 11 = .ok (.aload_n 0, 1) := by decide +kernel
theorem dX7_opensChoice_12 : decode cX7_opensChoice 12 = .ok (.getfield 25, 3) := by decide +kernel
theorem dX7_opensChoice_15 : decode cX7_opensChoice 15 = .ok (.dup, 1) := by decide +kernel
theorem dX7_opensChoice_16 : decode cX7_opensChoice 16 = .ok (.getfield 76, 3) := by decide +kernel
theorem dX7_opensChoice_19 : decode cX7_opensChoice 19 = .ok (.iconst 1, 1) := by decide +kernel
theorem dX7_opensChoice_20 : decode cX7_opensChoice 20 = .ok (.iadd, 1) := by decide +kernel
theorem dX7_opensChoice_21 : decode cX7_opensChoice 21 = .ok (.putfield 76, 3) := by decide +kernel
theorem dX7_opensChoice_24 : decode cX7_opensChoice 24 = .ok (.iconst 1, 1) := by decide +kernel
theorem dX7_opensChoice_25 : decode cX7_opensChoice 25 = .ok (.ireturn, 1) := by decide +kernel
theorem dX7_opens_0 : decode cX7_opens 0 = .ok (.aload_n 0, 1) := by decide +kernel
theorem dX7_opens_1 : decode cX7_opens 1 = .ok (.getfield 15, 3) := by decide +kernel
theorem dX7_opens_4 : decode cX7_opens 4 = .ok (.ifCond .lt 23, 3) := by decide +kernel
theorem dX7_opens_7 : decode cX7_opens 7 = .ok (.aload_n 0, 1) := by decide +kernel
theorem dX7_opens_8 : decode cX7_opens 8 = .ok (.getfield 15, 3) := by decide +kernel
theorem dX7_opens_11 : decode cX7_opens 11 = .ok (.iconst 3, 1) := by decide +kernel
theorem dX7_opens_12 : decode cX7_opens 12 = .ok (.if_icmp .ge 15, 3) := by decide +kernel
theorem dX7_opens_15 : decode cX7_opens 15 = .ok (.aload_n 0, 1) := by decide +kernel
theorem dX7_opens_16 : decode cX7_opens 16 = .ok (.getfield 25, 3) := by decide +kernel
theorem dX7_opens_19 : decode cX7_opens 19 = .ok (.iload_n 1, 1) := by decide +kernel
theorem dX7_opens_20 : decode cX7_opens 20 = .ok (.iload_n 2, 1) := by decide +kernel
theorem dX7_opens_21 : decode cX7_opens 21 = .ok (.invokevirtual 46, 3) := by decide +kernel
theorem dX7_opens_24 : decode cX7_opens 24 = .ok (.ifCond .ne 5, 3) := by decide +kernel
theorem dX7_opens_27 : decode cX7_opens 27 = .ok (.iconst 0, 1) := by decide +kernel
theorem dX7_opens_28 : decode cX7_opens 28 = .ok (.ireturn, 1) := by decide +kernel
theorem dX7_opens_29 : decode cX7_opens 29 = .ok (.aload_n 0, 1) := by decide +kernel
theorem dX7_opens_30 : decode cX7_opens 30 = .ok (.getfield 9, 3) := by decide +kernel
theorem dX7_opens_33 : decode cX7_opens 33 = .ok (.aload_n 0, 1) := by decide +kernel
theorem dX7_opens_34 : decode cX7_opens 34 = .ok (.getfield 15, 3) := by decide +kernel
theorem dX7_opens_37 : decode cX7_opens 37 = .ok (.aload_n 0, 1) := by decide +kernel
theorem dX7_opens_38 : decode cX7_opens 38 = .ok (.getfield 25, 3) := by decide +kernel
theorem dX7_opens_41 : decode cX7_opens 41 = .ok (.getfield 79, 3) := by decide +kernel
theorem dX7_opens_44 : decode cX7_opens 44 = .ok (.iconst 1, 1) := by decide +kernel
theorem dX7_opens_45 : decode cX7_opens 45 = .ok (.isub, 1) := by decide +kernel
theorem dX7_opens_46 : decode cX7_opens 46 = .ok (.iastore, 1) := by decide +kernel
theorem dX7_opens_47 : decode cX7_opens 47 = .ok (.aload_n 0, 1) := by decide +kernel
theorem dX7_opens_48 : decode cX7_opens 48 = .ok (.dup, 1) := by decide +kernel
theorem dX7_opens_49 : decode cX7_opens 49 = .ok (.getfield 15, 3) := by decide +kernel
theorem dX7_opens_52 : decode cX7_opens 52 = .ok (.iconst 1, 1) := by decide +kernel
theorem dX7_opens_53 : decode cX7_opens 53 = .ok (.iadd, 1) := by decide +kernel
theorem dX7_opens_54 : decode cX7_opens 54 = .ok (.putfield 15, 3) := by decide +kernel
theorem dX7_opens_57 : decode cX7_opens 57 = .ok (.aload_n 0, 1) := by decide +kernel
theorem dX7_opens_58 : decode cX7_opens 58 = .ok (.getfield 25, 3) := by decide +kernel
theorem dX7_opens_61 : decode cX7_opens 61 = .ok (.aload_n 0, 1) := by decide +kernel
theorem dX7_opens_62 : decode cX7_opens 62 = .ok (.getfield 25, 3) := by decide +kernel
theorem dX7_opens_65 : decode cX7_opens 65 = .ok (.getfield 82, 3) := by decide +kernel
theorem dX7_opens_68 : decode cX7_opens 68 = .ok (.aload_n 0, 1) := by decide +kernel
theorem dX7_opens_69 : decode cX7_opens 69 = .ok (.getfield 15, 3) := by decide +kernel
theorem dX7_opens_72 : decode cX7_opens 72 = .ok (.invokestatic 83, 3) := by decide +kernel
theorem dX7_opens_75 : decode cX7_opens 75 = .ok (.putfield 82, 3) := by decide +kernel
theorem dX7_opens_78 : decode cX7_opens 78 = .ok (.iconst 1, 1) := by decide +kernel
theorem dX7_opens_79 : decode cX7_opens 79 = .ok (.ireturn, 1) := by decide +kernel
theorem dX7_turns_0 : decode cX7_turns 0 = .ok (.aload_n 0, 1) := by decide +kernel
theorem dX7_turns_1 : decode cX7_turns 1 = .ok (.iload_n 1, 1) := by decide +kernel
theorem dX7_turns_2 : decode cX7_turns 2 = .ok (.invokevirtual 89, 3) := by decide +kernel
theorem dX7_turns_5 : decode cX7_turns 5 = .ok (.ifCond .eq 15, 3) := by decide +kernel
theorem dX7_turns_8 : decode cX7_turns 8 = .ok (.aload_n 0, 1) := by decide +kernel
theorem dX7_turns_9 : decode cX7_turns 9 = .ok (.getfield 25, 3) := by decide +kernel
theorem dX7_turns_12 : decode cX7_turns 12 = .ok (.iload_n 2, 1) := by decide +kernel
theorem dX7_turns_13 : decode cX7_turns 13 = .ok (.iconst 0, 1) := by decide +kernel
theorem dX7_turns_14 : decode cX7_turns 14 = .ok (.invokevirtual 46, 3) := by decide +kernel
theorem dX7_turns_17 : decode cX7_turns 17 = .ok (.ifCond .ne 5, 3) := by decide +kernel
theorem dX7_turns_20 : decode cX7_turns 20 = .ok (.iconst 0, 1) := by decide +kernel
theorem dX7_turns_21 : decode cX7_turns 21 = .ok (.ireturn, 1) := by decide +kernel
theorem dX7_turns_22 : decode cX7_turns 22 = .ok (.aload_n 0, 1) := by decide +kernel
theorem dX7_turns_23 : decode cX7_turns 23 = .ok (.getfield 25, 3) := by decide +kernel
theorem dX7_turns_26 : decode cX7_turns 26 = .ok (.getfield 79, 3) := by decide +kernel
theorem dX7_turns_29 : decode cX7_turns 29 = .ok (.iconst 1, 1) := by decide +kernel
theorem dX7_turns_30 : decode cX7_turns 30 = .ok (.isub, 1) := by decide +kernel
theorem dX7_turns_31 : decode cX7_turns 31 = .ok (.istore_n 3, 1) := by decide +kernel
theorem dX7_turns_32 : decode cX7_turns 32 = .ok (.aload_n 0, 1) := by decide +kernel
theorem dX7_turns_33 : decode cX7_turns 33 = .ok (.getfield 25, 3) := by decide +kernel
theorem dX7_turns_36 : decode cX7_turns 36 = .ok (.aload_n 0, 1) := by decide +kernel
theorem dX7_turns_37 : decode cX7_turns 37 = .ok (.getfield 9, 3) := by decide +kernel
theorem dX7_turns_40 : decode cX7_turns 40 = .ok (.aload_n 0, 1) := by decide +kernel
theorem dX7_turns_41 : decode cX7_turns 41 = .ok (.getfield 15, 3) := by decide +kernel
theorem dX7_turns_44 : decode cX7_turns 44 = .ok (.iconst 1, 1) := by decide +kernel
theorem dX7_turns_45 : decode cX7_turns 45 = .ok (.isub, 1) := by decide +kernel
theorem dX7_turns_46 : decode cX7_turns 46 = .ok (.iaload, 1) := by decide +kernel
theorem dX7_turns_47 : decode cX7_turns 47 = .ok (.iload_n 3, 1) := by decide +kernel
theorem dX7_turns_48 : decode cX7_turns 48 = .ok (.invokevirtual 92, 3) := by decide +kernel
theorem dX7_turns_51 : decode cX7_turns 51 = .ok (.aload_n 0, 1) := by decide +kernel
theorem dX7_turns_52 : decode cX7_turns 52 = .ok (.getfield 9, 3) := by decide +kernel
theorem dX7_turns_55 : decode cX7_turns 55 = .ok (.aload_n 0, 1) := by decide +kernel
theorem dX7_turns_56 : decode cX7_turns 56 = .ok (.getfield 15, 3) := by decide +kernel
theorem dX7_turns_59 : decode cX7_turns 59 = .ok (.iconst 1, 1) := by decide +kernel
theorem dX7_turns_60 : decode cX7_turns 60 = .ok (.isub, 1) := by decide +kernel
theorem dX7_turns_61 : decode cX7_turns 61 = .ok (.iload_n 3, 1) := by decide +kernel
theorem dX7_turns_62 : decode cX7_turns 62 = .ok (.iastore, 1) := by decide +kernel
theorem dX7_turns_63 : decode cX7_turns 63 = .ok (.iconst 1, 1) := by decide +kernel
theorem dX7_turns_64 : decode cX7_turns 64 = .ok (.ireturn, 1) := by decide +kernel
theorem dX7_closes_0 : decode cX7_closes 0 = .ok (.aload_n 0, 1) := by decide +kernel
theorem dX7_closes_1 : decode cX7_closes 1 = .ok (.iload_n 1, 1) := by decide +kernel
theorem dX7_closes_2 : decode cX7_closes 2 = .ok (.iload_n 2, 1) := by decide +kernel
theorem dX7_closes_3 : decode cX7_closes 3 = .ok (.invokevirtual 53, 3) := by decide +kernel
theorem dX7_closes_6 : decode cX7_closes 6 = .ok (.ifCond .ne 5, 3) := by decide +kernel
theorem dX7_closes_9 : decode cX7_closes 9 = .ok (.iconst 0, 1) := by decide +kernel
theorem dX7_closes_10 : decode cX7_closes 10 = .ok (.ireturn, 1) := by decide +kernel
theorem dX7_closes_11 : decode cX7_closes 11 = .ok (.aload_n 0, 1) := by decide +kernel
theorem dX7_closes_12 : decode cX7_closes 12 = .ok (.dup, 1) := by decide +kernel
theorem dX7_closes_13 : decode cX7_closes 13 = .ok (.getfield 15, 3) := by decide +kernel
theorem dX7_closes_16 : decode cX7_closes 16 = .ok (.iconst 1, 1) := by decide +kernel
theorem dX7_closes_17 : decode cX7_closes 17 = .ok (.isub, 1) := by decide +kernel
theorem dX7_closes_18 : decode cX7_closes 18 = .ok (.putfield 15, 3) := by decide +kernel
theorem dX7_closes_21 : decode cX7_closes 21 = .ok (.iconst 1, 1) := by decide +kernel
theorem dX7_closes_22 : decode cX7_closes 22 = .ok (.ireturn, 1) := by decide +kernel
theorem dX7_isOpen_0 : decode cX7_isOpen 0 = .ok (.aload_n 0, 1) := by decide +kernel
theorem dX7_isOpen_1 : decode cX7_isOpen 1 = .ok (.getfield 15, 3) := by decide +kernel
theorem dX7_isOpen_4 : decode cX7_isOpen 4 = .ok (.ifCond .le 37, 3) := by decide +kernel
theorem dX7_isOpen_7 : decode cX7_isOpen 7 = .ok (.aload_n 0, 1) := by decide +kernel
theorem dX7_isOpen_8 : decode cX7_isOpen 8 = .ok (.getfield 15, 3) := by decide +kernel
theorem dX7_isOpen_11 : decode cX7_isOpen 11 = .ok (.iconst 3, 1) := by decide +kernel
theorem dX7_isOpen_12 : decode cX7_isOpen 12 = .ok (.if_icmp .gt 29, 3) := by decide +kernel
theorem dX7_isOpen_15 : decode cX7_isOpen 15 = .ok (.aload_n 0, 1) := by decide +kernel
theorem dX7_isOpen_16 : decode cX7_isOpen 16 = .ok (.getfield 25, 3) := by decide +kernel
theorem dX7_isOpen_19 : decode cX7_isOpen 19 = .ok (.aload_n 0, 1) := by decide +kernel
theorem dX7_isOpen_20 : decode cX7_isOpen 20 = .ok (.getfield 9, 3) := by decide +kernel
theorem dX7_isOpen_23 : decode cX7_isOpen 23 = .ok (.aload_n 0, 1) := by decide +kernel
theorem dX7_isOpen_24 : decode cX7_isOpen 24 = .ok (.getfield 15, 3) := by decide +kernel
theorem dX7_isOpen_27 : decode cX7_isOpen 27 = .ok (.iconst 1, 1) := by decide +kernel
theorem dX7_isOpen_28 : decode cX7_isOpen 28 = .ok (.isub, 1) := by decide +kernel
theorem dX7_isOpen_29 : decode cX7_isOpen 29 = .ok (.iaload, 1) := by decide +kernel
theorem dX7_isOpen_30 : decode cX7_isOpen 30 = .ok (.invokevirtual 59, 3) := by decide +kernel
theorem dX7_isOpen_33 : decode cX7_isOpen 33 = .ok (.iload_n 1, 1) := by decide +kernel
theorem dX7_isOpen_34 : decode cX7_isOpen 34 = .ok (.if_icmp .ne 7, 3) := by decide +kernel
theorem dX7_isOpen_37 : decode cX7_isOpen 37 = .ok (.iconst 1, 1) := by decide +kernel
theorem dX7_isOpen_38 : decode cX7_isOpen 38 = .ok (.goto 4, 3) := by decide +kernel
theorem dX7_isOpen_41 : decode cX7_isOpen 41 = .ok (.iconst 0, 1) := by decide +kernel
theorem dX7_isOpen_42 : decode cX7_isOpen 42 = .ok (.ireturn, 1) := by decide +kernel
theorem dX8_sizeOf_0 : decode cX8_sizeOf 0 = .ok (.iconst 0, 1) := by decide +kernel
theorem dX8_sizeOf_1 : decode cX8_sizeOf 1 = .ok (.istore_n 1, 1) := by decide +kernel
theorem dX8_sizeOf_2 : decode cX8_sizeOf 2 = .ok (.iconst 0, 1) := by decide +kernel
theorem dX8_sizeOf_3 : decode cX8_sizeOf 3 = .ok (.istore_n 2, 1) := by decide +kernel
theorem dX8_sizeOf_4 : decode cX8_sizeOf 4 = .ok (.iload_n 2, 1) := by decide +kernel
theorem dX8_sizeOf_5 : decode cX8_sizeOf 5 = .ok (.iconst 3, 1) := by decide +kernel
theorem dX8_sizeOf_6 : decode cX8_sizeOf 6 = .ok (.if_icmp .ge 26, 3) := by decide +kernel
theorem dX8_sizeOf_9 : decode cX8_sizeOf 9 = .ok (.iload_n 1, 1) := by decide +kernel
theorem dX8_sizeOf_10 : decode cX8_sizeOf 10 = .ok (.iload_n 0, 1) := by decide +kernel
theorem dX8_sizeOf_11 : decode cX8_sizeOf 11 = .ok (.iload_n 2, 1) := by decide +kernel
theorem dX8_sizeOf_12 : decode cX8_sizeOf 12 = .ok (.invokestatic 9, 3) := by decide +kernel
theorem dX8_sizeOf_15 : decode cX8_sizeOf 15 = .ok (.iconst (-1), 1) := by decide +kernel
theorem dX8_sizeOf_16 : decode cX8_sizeOf 16 = .ok (.if_icmp .eq 7, 3) := by decide +kernel
theorem dX8_sizeOf_19 : decode cX8_sizeOf 19 = .ok (.iconst 1, 1) := by decide +kernel
theorem dX8_sizeOf_20 : decode cX8_sizeOf 20 = .ok (.goto 4, 3) := by decide +kernel
theorem dX8_sizeOf_23 : decode cX8_sizeOf 23 = .ok (.iconst 0, 1) := by decide +kernel
theorem dX8_sizeOf_24 : decode cX8_sizeOf 24 = .ok (.iadd, 1) := by decide +kernel
theorem dX8_sizeOf_25 : decode cX8_sizeOf 25 = .ok (.istore_n 1, 1) := by decide +kernel
theorem dX8_sizeOf_26 : decode cX8_sizeOf 26 = .ok (.iinc 2 1, 3) := by decide +kernel
theorem dX8_sizeOf_29 : decode cX8_sizeOf 29 = .ok (.goto (-25), 3) := by decide +kernel
theorem dX8_sizeOf_32 : decode cX8_sizeOf 32 = .ok (.iload_n 1, 1) := by decide +kernel
theorem dX8_sizeOf_33 : decode cX8_sizeOf 33 = .ok (.ireturn, 1) := by decide +kernel
theorem dX8_lineAt_0 : decode cX8_lineAt 0 = .ok (.iload_n 1, 1) := by decide +kernel
theorem dX8_lineAt_1 : decode cX8_lineAt 1 = .ok (.ifCond .lt 8, 3) := by decide +kernel
theorem dX8_lineAt_4 : decode cX8_lineAt 4 = .ok (.iload_n 1, 1) := by decide +kernel
theorem dX8_lineAt_5 : decode cX8_lineAt 5 = .ok (.iconst 3, 1) := by decide +kernel
theorem dX8_lineAt_6 : decode cX8_lineAt 6 = .ok (.if_icmp .lt 5, 3) := by decide +kernel
theorem dX8_lineAt_9 : decode cX8_lineAt 9 = .ok (.iconst (-1), 1) := by decide +kernel
theorem dX8_lineAt_10 : decode cX8_lineAt 10 = .ok (.ireturn, 1) := by decide +kernel
theorem dX8_lineAt_11 : decode cX8_lineAt 11 = .ok (.iload_n 0, 1) := by decide +kernel
theorem dX8_lineAt_12 : decode cX8_lineAt 12 = .ok (.iconst 3, 1) := by decide +kernel
theorem dX8_lineAt_13 : decode cX8_lineAt 13 = .ok (.iload_n 1, 1) := by decide +kernel
theorem dX8_lineAt_14 : decode cX8_lineAt 14 = .ok (.imul, 1) := by decide +kernel
theorem dX8_lineAt_15 : decode cX8_lineAt 15 = .ok (.ishr, 1) := by decide +kernel
theorem dX8_lineAt_16 : decode cX8_lineAt 16 = .ok (.bipush 7, 2) := by decide +kernel
theorem dX8_lineAt_18 : decode cX8_lineAt 18 = .ok (.iand, 1) := by decide +kernel
theorem dX8_lineAt_19 : decode cX8_lineAt 19 = .ok (.iconst 1, 1) := by decide +kernel
theorem dX8_lineAt_20 : decode cX8_lineAt 20 = .ok (.isub, 1) := by decide +kernel
theorem dX8_lineAt_21 : decode cX8_lineAt 21 = .ok (.ireturn, 1) := by decide +kernel
theorem dX8_placeOf_0 : decode cX8_placeOf 0 = .ok (.iconst 0, 1) := by decide +kernel
theorem dX8_placeOf_1 : decode cX8_placeOf 1 = .ok (.istore_n 2, 1) := by decide +kernel
theorem dX8_placeOf_2 : decode cX8_placeOf 2 = .ok (.iload_n 2, 1) := by decide +kernel
theorem dX8_placeOf_3 : decode cX8_placeOf 3 = .ok (.iconst 3, 1) := by decide +kernel
theorem dX8_placeOf_4 : decode cX8_placeOf 4 = .ok (.if_icmp .ge 25, 3) := by decide +kernel
theorem dX8_placeOf_7 : decode cX8_placeOf 7 = .ok (.iload_n 0, 1) := by decide +kernel
theorem dX8_placeOf_8 : decode cX8_placeOf 8 = .ok (.iconst 3, 1) := by decide +kernel
theorem dX8_placeOf_9 : decode cX8_placeOf 9 = .ok (.iload_n 2, 1) := by decide +kernel
theorem dX8_placeOf_10 : decode cX8_placeOf 10 = .ok (.imul, 1) := by decide +kernel
theorem dX8_placeOf_11 : decode cX8_placeOf 11 = .ok (.ishr, 1) := by decide +kernel
theorem dX8_placeOf_12 : decode cX8_placeOf 12 = .ok (.bipush 7, 2) := by decide +kernel
theorem dX8_placeOf_14 : decode cX8_placeOf 14 = .ok (.iand, 1) := by decide +kernel
theorem dX8_placeOf_15 : decode cX8_placeOf 15 = .ok (.iload_n 1, 1) := by decide +kernel
theorem dX8_placeOf_16 : decode cX8_placeOf 16 = .ok (.iconst 1, 1) := by decide +kernel
theorem dX8_placeOf_17 : decode cX8_placeOf 17 = .ok (.iadd, 1) := by decide +kernel
theorem dX8_placeOf_18 : decode cX8_placeOf 18 = .ok (.if_icmp .ne 5, 3) := by decide +kernel
theorem dX8_placeOf_21 : decode cX8_placeOf 21 = .ok (.iload_n 2, 1) := by decide +kernel
theorem dX8_placeOf_22 : decode cX8_placeOf 22 = .ok (.ireturn, 1) := by decide +kernel
theorem dX8_placeOf_23 : decode cX8_placeOf 23 = .ok (.iinc 2 1, 3) := by decide +kernel
theorem dX8_placeOf_26 : decode cX8_placeOf 26 = .ok (.goto (-24), 3) := by decide +kernel
theorem dX8_placeOf_29 : decode cX8_placeOf 29 = .ok (.iconst (-1), 1) := by decide +kernel
theorem dX8_placeOf_30 : decode cX8_placeOf 30 = .ok (.ireturn, 1) := by decide +kernel
theorem dX8_cutTo_0 : decode cX8_cutTo 0 = .ok (.iload_n 0, 1) := by decide +kernel
theorem dX8_cutTo_1 : decode cX8_cutTo 1 = .ok (.iconst 1, 1) := by decide +kernel
theorem dX8_cutTo_2 : decode cX8_cutTo 2 = .ok (.iconst 3, 1) := by decide +kernel
theorem dX8_cutTo_3 : decode cX8_cutTo 3 = .ok (.iload_n 1, 1) := by decide +kernel
theorem dX8_cutTo_4 : decode cX8_cutTo 4 = .ok (.imul, 1) := by decide +kernel
theorem dX8_cutTo_5 : decode cX8_cutTo 5 = .ok (.ishl, 1) := by decide +kernel
theorem dX8_cutTo_6 : decode cX8_cutTo 6 = .ok (.iconst 1, 1) := by decide +kernel
theorem dX8_cutTo_7 : decode cX8_cutTo 7 = .ok (.isub, 1) := by decide +kernel
theorem dX8_cutTo_8 : decode cX8_cutTo 8 = .ok (.iand, 1) := by decide +kernel
theorem dX8_cutTo_9 : decode cX8_cutTo 9 = .ok (.ireturn, 1) := by decide +kernel
theorem dX8_afterMiss_0 : decode cX8_afterMiss 0 = .ok (.iload_n 0, 1) := by decide +kernel
theorem dX8_afterMiss_1 : decode cX8_afterMiss 1 = .ok (.iconst 3, 1) := by decide +kernel
theorem dX8_afterMiss_2 : decode cX8_afterMiss 2 = .ok (.ishl, 1) := by decide +kernel
theorem dX8_afterMiss_3 : decode cX8_afterMiss 3 = .ok (.iload_n 1, 1) := by decide +kernel
theorem dX8_afterMiss_4 : decode cX8_afterMiss 4 = .ok (.iconst 1, 1) := by decide +kernel
theorem dX8_afterMiss_5 : decode cX8_afterMiss 5 = .ok (.iadd, 1) := by decide +kernel
theorem dX8_afterMiss_6 : decode cX8_afterMiss 6 = .ok (.ior, 1) := by decide +kernel
theorem dX8_afterMiss_7 : decode cX8_afterMiss 7 = .ok (.iload_n 2, 1) := by decide +kernel
theorem dX8_afterMiss_8 : decode cX8_afterMiss 8 = .ok (.invokestatic 15, 3) := by decide +kernel
theorem dX8_afterMiss_11 : decode cX8_afterMiss 11 = .ok (.ireturn, 1) := by decide +kernel
theorem dX8_afterHit_0 : decode cX8_afterHit 0 = .ok (.iload_n 3, 1) := by decide +kernel
theorem dX8_afterHit_1 : decode cX8_afterHit 1 = .ok (.tableswitch 53 0 2 #[27, 34, 36], 27) := by decide +kernel
theorem dX8_afterHit_28 : decode cX8_afterHit 28 = .ok (.iload_n 0, 1) := by decide +kernel
theorem dX8_afterHit_29 : decode cX8_afterHit 29 = .ok (.iload_n 1, 1) := by decide +kernel
theorem dX8_afterHit_30 : decode cX8_afterHit 30 = .ok (.iconst 0, 1) := by decide +kernel
theorem dX8_afterHit_31 : decode cX8_afterHit 31 = .ok (.invokestatic 18, 3) := by decide +kernel
theorem dX8_afterHit_34 : decode cX8_afterHit 34 = .ok (.ireturn, 1) := by decide +kernel
theorem dX8_afterHit_35 : decode cX8_afterHit 35 = .ok (.iload_n 0, 1) := by decide +kernel
theorem dX8_afterHit_36 : decode cX8_afterHit 36 = .ok (.ireturn, 1) := by decide +kernel
theorem dX8_afterHit_37 : decode cX8_afterHit 37 = .ok (.iload_n 1, 1) := by decide +kernel
theorem dX8_afterHit_38 : decode cX8_afterHit 38 = .ok (.ifCond .ne 7, 3) := by decide +kernel
theorem dX8_afterHit_41 : decode cX8_afterHit 41 = .ok (.iload_n 0, 1) := by decide +kernel
theorem dX8_afterHit_42 : decode cX8_afterHit 42 = .ok (.goto 11, 3) := by decide +kernel
theorem dX8_afterHit_45 : decode cX8_afterHit 45 = .ok (.iload_n 0, 1) := by decide +kernel
theorem dX8_afterHit_46 : decode cX8_afterHit 46 = .ok (.iload_n 1, 1) := by decide +kernel
theorem dX8_afterHit_47 : decode cX8_afterHit 47 = .ok (.iload_n 1, 1) := by decide +kernel
theorem dX8_afterHit_48 : decode cX8_afterHit 48 = .ok (.iconst 1, 1) := by decide +kernel
theorem dX8_afterHit_49 : decode cX8_afterHit 49 = .ok (.isub, 1) := by decide +kernel
theorem dX8_afterHit_50 : decode cX8_afterHit 50 = .ok (.invokestatic 18, 3) := by decide +kernel
theorem dX8_afterHit_53 : decode cX8_afterHit 53 = .ok (.ireturn, 1) := by decide +kernel
theorem dX8_afterHit_54 : decode cX8_afterHit 54 = .ok (.iload_n 1, 1) := by decide +kernel
theorem dX8_afterHit_55 : decode cX8_afterHit 55 = .ok (.iload_n 2, 1) := by decide +kernel
theorem dX8_afterHit_56 : decode cX8_afterHit 56 = .ok (.iconst 1, 1) := by decide +kernel
theorem dX8_afterHit_57 : decode cX8_afterHit 57 = .ok (.isub, 1) := by decide +kernel
theorem dX8_afterHit_58 : decode cX8_afterHit 58 = .ok (.if_icmp .ne 7, 3) := by decide +kernel
theorem dX8_afterHit_61 : decode cX8_afterHit 61 = .ok (.iload_n 0, 1) := by decide +kernel
theorem dX8_afterHit_62 : decode cX8_afterHit 62 = .ok (.goto 9, 3) := by decide +kernel
theorem dX8_afterHit_65 : decode cX8_afterHit 65 = .ok (.iload_n 0, 1) := by decide +kernel
theorem dX8_afterHit_66 : decode cX8_afterHit 66 = .ok (.iload_n 1, 1) := by decide +kernel
theorem dX8_afterHit_67 : decode cX8_afterHit 67 = .ok (.iconst 0, 1) := by decide +kernel
theorem dX8_afterHit_68 : decode cX8_afterHit 68 = .ok (.invokestatic 18, 3) := by decide +kernel
theorem dX8_afterHit_71 : decode cX8_afterHit 71 = .ok (.ireturn, 1) := by decide +kernel
theorem dX8_moved_0 : decode cX8_moved 0 = .ok (.iload_n 0, 1) := by decide +kernel
theorem dX8_moved_1 : decode cX8_moved 1 = .ok (.iconst 1, 1) := by decide +kernel
theorem dX8_moved_2 : decode cX8_moved 2 = .ok (.iconst 3, 1) := by decide +kernel
theorem dX8_moved_3 : decode cX8_moved 3 = .ok (.iload_n 1, 1) := by decide +kernel
theorem dX8_moved_4 : decode cX8_moved 4 = .ok (.imul, 1) := by decide +kernel
theorem dX8_moved_5 : decode cX8_moved 5 = .ok (.ishl, 1) := by decide +kernel
theorem dX8_moved_6 : decode cX8_moved 6 = .ok (.iconst 1, 1) := by decide +kernel
theorem dX8_moved_7 : decode cX8_moved 7 = .ok (.isub, 1) := by decide +kernel
theorem dX8_moved_8 : decode cX8_moved 8 = .ok (.iand, 1) := by decide +kernel
theorem dX8_moved_9 : decode cX8_moved 9 = .ok (.istore_n 3, 1) := by decide +kernel
theorem dX8_moved_10 : decode cX8_moved 10 = .ok (.iload_n 0, 1) := by decide +kernel
theorem dX8_moved_11 : decode cX8_moved 11 = .ok (.iconst 1, 1) := by decide +kernel
theorem dX8_moved_12 : decode cX8_moved 12 = .ok (.iconst 3, 1) := by decide +kernel
theorem dX8_moved_13 : decode cX8_moved 13 = .ok (.iload_n 2, 1) := by decide +kernel
theorem dX8_moved_14 : decode cX8_moved 14 = .ok (.imul, 1) := by decide +kernel
theorem dX8_moved_15 : decode cX8_moved 15 = .ok (.ishl, 1) := by decide +kernel
theorem dX8_moved_16 : decode cX8_moved 16 = .ok (.iconst 1, 1) := by decide +kernel
theorem dX8_moved_17 : decode cX8_moved 17 = .ok (.isub, 1) := by decide +kernel
theorem dX8_moved_18 : decode cX8_moved 18 = .ok (.iand, 1) := by decide +kernel
theorem dX8_moved_19 : decode cX8_moved 19 = .ok (.istore 4, 2) := by decide +kernel
theorem dX8_moved_21 : decode cX8_moved 21 = .ok (.iload_n 0, 1) := by decide +kernel
theorem dX8_moved_22 : decode cX8_moved 22 = .ok (.iconst 3, 1) := by decide +kernel
theorem dX8_moved_23 : decode cX8_moved 23 = .ok (.iload_n 1, 1) := by decide +kernel
theorem dX8_moved_24 : decode cX8_moved 24 = .ok (.imul, 1) := by decide +kernel
theorem dX8_moved_25 : decode cX8_moved 25 = .ok (.ishr, 1) := by decide +kernel
theorem dX8_moved_26 : decode cX8_moved 26 = .ok (.bipush 7, 2) := by decide +kernel
theorem dX8_moved_28 : decode cX8_moved 28 = .ok (.iand, 1) := by decide +kernel
theorem dX8_moved_29 : decode cX8_moved 29 = .ok (.istore 5, 2) := by decide +kernel
theorem dX8_moved_31 : decode cX8_moved 31 = .ok (.iload_n 0, 1) := by decide +kernel
theorem dX8_moved_32 : decode cX8_moved 32 = .ok (.iload_n 3, 1) := by decide +kernel
theorem dX8_moved_33 : decode cX8_moved 33 = .ok (.isub, 1) := by decide +kernel
theorem dX8_moved_34 : decode cX8_moved 34 = .ok (.iload 5, 2) := by decide +kernel
theorem dX8_moved_36 : decode cX8_moved 36 = .ok (.iconst 3, 1) := by decide +kernel
theorem dX8_moved_37 : decode cX8_moved 37 = .ok (.iload_n 1, 1) := by decide +kernel
theorem dX8_moved_38 : decode cX8_moved 38 = .ok (.imul, 1) := by decide +kernel
theorem dX8_moved_39 : decode cX8_moved 39 = .ok (.ishl, 1) := by decide +kernel
theorem dX8_moved_40 : decode cX8_moved 40 = .ok (.isub, 1) := by decide +kernel
theorem dX8_moved_41 : decode cX8_moved 41 = .ok (.istore 6, 2) := by decide +kernel
theorem dX8_moved_43 : decode cX8_moved 43 = .ok (.iload 4, 2) := by decide +kernel
theorem dX8_moved_45 : decode cX8_moved 45 = .ok (.iload 5, 2) := by decide +kernel
theorem dX8_moved_47 : decode cX8_moved 47 = .ok (.iconst 3, 1) := by decide +kernel
theorem dX8_moved_48 : decode cX8_moved 48 = .ok (.iload_n 2, 1) := by decide +kernel
theorem dX8_moved_49 : decode cX8_moved 49 = .ok (.imul, 1) := by decide +kernel
theorem dX8_moved_50 : decode cX8_moved 50 = .ok (.ishl, 1) := by decide +kernel
theorem dX8_moved_51 : decode cX8_moved 51 = .ok (.ior, 1) := by decide +kernel
theorem dX8_moved_52 : decode cX8_moved 52 = .ok (.iload_n 3, 1) := by decide +kernel
theorem dX8_moved_53 : decode cX8_moved 53 = .ok (.iload 4, 2) := by decide +kernel
theorem dX8_moved_55 : decode cX8_moved 55 = .ok (.isub, 1) := by decide +kernel
theorem dX8_moved_56 : decode cX8_moved 56 = .ok (.iconst 3, 1) := by decide +kernel
theorem dX8_moved_57 : decode cX8_moved 57 = .ok (.ishl, 1) := by decide +kernel
theorem dX8_moved_58 : decode cX8_moved 58 = .ok (.ior, 1) := by decide +kernel
theorem dX8_moved_59 : decode cX8_moved 59 = .ok (.iload 6, 2) := by decide +kernel
theorem dX8_moved_61 : decode cX8_moved 61 = .ok (.ior, 1) := by decide +kernel
theorem dX8_moved_62 : decode cX8_moved 62 = .ok (.ireturn, 1) := by decide +kernel
theorem dX9_init_0 : decode cX9_init 0 = .ok (.aload_n 0, 1) := by decide +kernel
theorem dX9_init_1 : decode cX9_init 1 = .ok (.invokespecial 3, 3) := by decide +kernel
theorem dX9_init_4 : decode cX9_init 4 = .ok (.aload_n 0, 1) := by decide +kernel
theorem dX9_init_5 : decode cX9_init 5 = .ok (.iconst 0, 1) := by decide +kernel
theorem dX9_init_6 : decode cX9_init 6 = .ok (.putfield 9, 3) := by decide +kernel
theorem dX9_init_9 : decode cX9_init 9 = .ok (.aload_n 0, 1) := by decide +kernel
theorem dX9_init_10 : decode cX9_init 10 = .ok (.iconst 0, 1) := by decide +kernel
theorem dX9_init_11 : decode cX9_init 11 = .ok (.putfield 15, 3) := by decide +kernel
theorem dX9_init_14 : decode cX9_init 14 = .ok (.aload_n 0, 1) := by decide +kernel
theorem dX9_init_15 : decode cX9_init 15 = .ok (.iconst 0, 1) := by decide +kernel
theorem dX9_init_16 : decode cX9_init 16 = .ok (.putfield 18, 3) := by decide +kernel
theorem dX9_init_19 : decode cX9_init 19 = .ok (.aload_n 0, 1) := by decide +kernel
theorem dX9_init_20 : decode cX9_init 20 = .ok (.iconst 0, 1) := by decide +kernel
theorem dX9_init_21 : decode cX9_init 21 = .ok (.putfield 21, 3) := by decide +kernel
theorem dX9_init_24 : decode cX9_init 24 = .ok (.aload_n 0, 1) := by decide +kernel
theorem dX9_init_25 : decode cX9_init 25 = .ok (.iconst 0, 1) := by decide +kernel
theorem dX9_init_26 : decode cX9_init 26 = .ok (.putfield 24, 3) := by decide +kernel
theorem dX9_init_29 : decode cX9_init 29 = .ok (.return_, 1) := by decide +kernel
theorem dX9_run_0 : decode cX9_run 0 = .ok (.aload_n 0, 1) := by decide +kernel
theorem dX9_run_1 : decode cX9_run 1 = .ok (.iload_n 3, 1) := by decide +kernel
theorem dX9_run_2 : decode cX9_run 2 = .ok (.putfield 9, 3) := by decide +kernel
theorem dX9_run_5 : decode cX9_run 5 = .ok (.aload_n 0, 1) := by decide +kernel
theorem dX9_run_6 : decode cX9_run 6 = .ok (.iconst 0, 1) := by decide +kernel
theorem dX9_run_7 : decode cX9_run 7 = .ok (.putfield 15, 3) := by decide +kernel
theorem dX9_run_10 : decode cX9_run 10 = .ok (.aload_n 0, 1) := by decide +kernel
theorem dX9_run_11 : decode cX9_run 11 = .ok (.iconst 0, 1) := by decide +kernel
theorem dX9_run_12 : decode cX9_run 12 = .ok (.putfield 18, 3) := by decide +kernel
theorem dX9_run_15 : decode cX9_run 15 = .ok (.aload_n 0, 1) := by decide +kernel
theorem dX9_run_16 : decode cX9_run 16 = .ok (.iconst 0, 1) := by decide +kernel
theorem dX9_run_17 : decode cX9_run 17 = .ok (.putfield 21, 3) := by decide +kernel
theorem dX9_run_20 : decode cX9_run 20 = .ok (.aload_n 0, 1) := by decide +kernel
theorem dX9_run_21 : decode cX9_run 21 = .ok (.iconst 0, 1) := by decide +kernel
theorem dX9_run_22 : decode cX9_run 22 = .ok (.putfield 24, 3) := by decide +kernel
theorem dX9_run_25 : decode cX9_run 25 = .ok (.aload_n 0, 1) := by decide +kernel
theorem dX9_run_26 : decode cX9_run 26 = .ok (.aload_n 1, 1) := by decide +kernel
theorem dX9_run_27 : decode cX9_run 27 = .ok (.aload_n 2, 1) := by decide +kernel
theorem dX9_run_28 : decode cX9_run 28 = .ok (.iconst 0, 1) := by decide +kernel
theorem dX9_run_29 : decode cX9_run 29 = .ok (.aload_n 1, 1) := by decide +kernel
theorem dX9_run_30 : decode cX9_run 30 = .ok (.getfield 27, 3) := by decide +kernel
theorem dX9_run_33 : decode cX9_run 33 = .ok (.iconst 0, 1) := by decide +kernel
theorem dX9_run_34 : decode cX9_run 34 = .ok (.invokevirtual 32, 3) := by decide +kernel
theorem dX9_run_37 : decode cX9_run 37 = .ok (.aload_n 0, 1) := by decide +kernel
theorem dX9_run_38 : decode cX9_run 38 = .ok (.getfield 15, 3) := by decide +kernel
theorem dX9_run_41 : decode cX9_run 41 = .ok (.ireturn, 1) := by decide +kernel
theorem dX9_tell_0 : decode cX9_tell 0 = .ok (.iload_n 1, 1) := by decide +kernel
theorem dX9_tell_1 : decode cX9_tell 1 = .ok (.lookupswitch 37 #[(0, 27), (1, 32)], 27) := by decide +kernel
theorem dX9_tell_28 : decode cX9_tell 28 = .ok (.aload_n 0, 1) := by decide +kernel
theorem dX9_tell_29 : decode cX9_tell 29 = .ok (.getfield 18, 3) := by decide +kernel
theorem dX9_tell_32 : decode cX9_tell 32 = .ok (.ireturn, 1) := by decide +kernel
theorem dX9_tell_33 : decode cX9_tell 33 = .ok (.aload_n 0, 1) := by decide +kernel
theorem dX9_tell_34 : decode cX9_tell 34 = .ok (.getfield 21, 3) := by decide +kernel
theorem dX9_tell_37 : decode cX9_tell 37 = .ok (.ireturn, 1) := by decide +kernel
theorem dX9_tell_38 : decode cX9_tell 38 = .ok (.aload_n 0, 1) := by decide +kernel
theorem dX9_tell_39 : decode cX9_tell 39 = .ok (.getfield 24, 3) := by decide +kernel
theorem dX9_tell_42 : decode cX9_tell 42 = .ok (.ireturn, 1) := by decide +kernel
theorem dX9_runRow_0 : decode cX9_runRow 0 = .ok (.iload_n 3, 1) := by decide +kernel
theorem dX9_runRow_1 : decode cX9_runRow 1 = .ok (.istore 6, 2) := by decide +kernel
theorem dX9_runRow_3 : decode cX9_runRow 3 = .ok (.iload 6, 2) := by decide +kernel
theorem dX9_runRow_5 : decode cX9_runRow 5 = .ok (.iload 4, 2) := by decide +kernel
theorem dX9_runRow_7 : decode cX9_runRow 7 = .ok (.if_icmp .ge 104, 3) := by decide +kernel
theorem dX9_runRow_10 : decode cX9_runRow 10 = .ok (.iload 5, 2) := by decide +kernel
theorem dX9_runRow_12 : decode cX9_runRow 12 = .ok (.iconst 3, 1) := by decide +kernel
theorem dX9_runRow_13 : decode cX9_runRow 13 = .ok (.if_icmp .gt 98, 3) := by decide +kernel
theorem dX9_runRow_16 : decode cX9_runRow 16 = .ok (.aload_n 1, 1) := by decide +kernel
theorem dX9_runRow_17 : decode cX9_runRow 17 = .ok (.iload 6, 2) := by decide +kernel
theorem dX9_runRow_19 : decode cX9_runRow 19 = .ok (.invokevirtual 36, 3) := by decide +kernel
theorem dX9_runRow_22 : decode cX9_runRow 22 = .ok (.istore 7, 2) := by decide +kernel
theorem dX9_runRow_24 : decode cX9_runRow 24 = .ok (.iload 7, 2) := by decide +kernel
theorem dX9_runRow_26 : decode cX9_runRow 26 = .ok (.ifCond .ne 21, 3) := by decide +kernel
theorem dX9_runRow_29 : decode cX9_runRow 29 = .ok (.aload_n 0, 1) := by decide +kernel
theorem dX9_runRow_30 : decode cX9_runRow 30 = .ok (.aload_n 2, 1) := by decide +kernel
theorem dX9_runRow_31 : decode cX9_runRow 31 = .ok (.aload_n 1, 1) := by decide +kernel
theorem dX9_runRow_32 : decode cX9_runRow 32 = .ok (.aload_n 1, 1) := by decide +kernel
theorem dX9_runRow_33 : decode cX9_runRow 33 = .ok (.iload 6, 2) := by decide +kernel
theorem dX9_runRow_35 : decode cX9_runRow 35 = .ok (.invokevirtual 40, 3) := by decide +kernel
theorem dX9_runRow_38 : decode cX9_runRow 38 = .ok (.invokevirtual 43, 3) := by decide +kernel
theorem dX9_runRow_41 : decode cX9_runRow 41 = .ok (.invokevirtual 46, 3) := by decide +kernel
theorem dX9_runRow_44 : decode cX9_runRow 44 = .ok (.goto 61, 3) := by decide +kernel
theorem dX9_runRow_47 : decode cX9_runRow 47 = .ok (.iload 7, 2) := by decide +kernel
theorem dX9_runRow_49 : decode cX9_runRow 49 = .ok (.iconst 1, 1) := by decide +kernel
theorem dX9_runRow_50 : decode cX9_runRow 50 = .ok (.if_icmp .ne 16, 3) := by decide +kernel
theorem dX9_runRow_53 : decode cX9_runRow 53 = .ok (.aload_n 0, 1) := by decide +kernel
theorem dX9_runRow_54 : decode cX9_runRow 54 = .ok (.dup, 1) := by decide +kernel
theorem dX9_runRow_55 : decode cX9_runRow 55 = .ok (.getfield 15, 3) := by decide +kernel
theorem dX9_runRow_58 : decode cX9_runRow 58 = .ok (.iconst 1, 1) := by decide +kernel
theorem dX9_runRow_59 : decode cX9_runRow 59 = .ok (.iadd, 1) := by decide +kernel
theorem dX9_runRow_60 : decode cX9_runRow 60 = .ok (.putfield 15, 3) := by decide +kernel
theorem dX9_runRow_63 : decode cX9_runRow 63 = .ok (.goto 42, 3) := by decide +kernel
theorem dX9_runRow_66 : decode cX9_runRow 66 = .ok (.iload 7, 2) := by decide +kernel
theorem dX9_runRow_68 : decode cX9_runRow 68 = .ok (.iconst 2, 1) := by decide +kernel
theorem dX9_runRow_69 : decode cX9_runRow 69 = .ok (.if_icmp .ne 18, 3) := by decide +kernel
theorem dX9_runRow_72 : decode cX9_runRow 72 = .ok (.aload_n 0, 1) := by decide +kernel
theorem dX9_runRow_73 : decode cX9_runRow 73 = .ok (.aload_n 1, 1) := by decide +kernel
theorem dX9_runRow_74 : decode cX9_runRow 74 = .ok (.aload_n 2, 1) := by decide +kernel
theorem dX9_runRow_75 : decode cX9_runRow 75 = .ok (.iload 6, 2) := by decide +kernel
theorem dX9_runRow_77 : decode cX9_runRow 77 = .ok (.iload 5, 2) := by decide +kernel
theorem dX9_runRow_79 : decode cX9_runRow 79 = .ok (.invokevirtual 50, 3) := by decide +kernel
theorem dX9_runRow_82 : decode cX9_runRow 82 = .ok (.istore 6, 2) := by decide +kernel
theorem dX9_runRow_84 : decode cX9_runRow 84 = .ok (.goto 21, 3) := by decide +kernel
theorem dX9_runRow_87 : decode cX9_runRow 87 = .ok (.iload 7, 2) := by decide +kernel
theorem dX9_runRow_89 : decode cX9_runRow 89 = .ok (.iconst 5, 1) := by decide +kernel
theorem dX9_runRow_90 : decode cX9_runRow 90 = .ok (.if_icmp .ne 15, 3) := by decide +kernel
theorem dX9_runRow_93 : decode cX9_runRow 93 = .ok (.aload_n 0, 1) := by decide +kernel
theorem dX9_runRow_94 : decode cX9_runRow 94 = .ok (.aload_n 1, 1) := by decide +kernel
theorem dX9_runRow_95 : decode cX9_runRow 95 = .ok (.aload_n 2, 1) := by decide +kernel
theorem dX9_runRow_96 : decode cX9_runRow 96 = .ok (.iload 6, 2) := by decide +kernel
theorem dX9_runRow_98 : decode cX9_runRow 98 = .ok (.iload 5, 2) := by decide +kernel
theorem dX9_runRow_100 : decode cX9_runRow 100 = .ok (.invokevirtual 54, 3) := by decide +kernel
theorem dX9_runRow_103 : decode cX9_runRow 103 = .ok (.istore 6, 2) := by decide +kernel
theorem dX9_runRow_105 : decode cX9_runRow 105 = .ok (.iinc 6 1, 3) := by decide +kernel
theorem dX9_runRow_108 : decode cX9_runRow 108 = .ok (.goto (-105), 3) := by decide +kernel
theorem dX9_runRow_111 : decode cX9_runRow 111 = .ok (.return_, 1) := by decide +kernel
theorem dX9_runLook_0 : decode cX9_runLook 0 = .ok (.aload_n 1, 1) := by decide +kernel
theorem dX9_runLook_1 : decode cX9_runLook 1 = .ok (.getfield 57, 3) := by decide +kernel
theorem dX9_runLook_4 : decode cX9_runLook 4 = .ok (.iload_n 2, 1) := by decide +kernel
theorem dX9_runLook_5 : decode cX9_runLook 5 = .ok (.invokestatic 62, 3) := by decide +kernel
theorem dX9_runLook_8 : decode cX9_runLook 8 = .ok (.iconst (-1), 1) := by decide +kernel
theorem dX9_runLook_9 : decode cX9_runLook 9 = .ok (.if_icmp .ne 16, 3) := by decide +kernel
theorem dX9_runLook_12 : decode cX9_runLook 12 = .ok (.aload_n 0, 1) := by decide +kernel
theorem dX9_runLook_13 : decode cX9_runLook 13 = .ok (.dup, 1) := by decide +kernel
theorem dX9_runLook_14 : decode cX9_runLook 14 = .ok (.getfield 21, 3) := by decide +kernel
theorem dX9_runLook_17 : decode cX9_runLook 17 = .ok (.iconst 1, 1) := by decide +kernel
theorem dX9_runLook_18 : decode cX9_runLook 18 = .ok (.iadd, 1) := by decide +kernel
theorem dX9_runLook_19 : decode cX9_runLook 19 = .ok (.putfield 21, 3) := by decide +kernel
theorem dX9_runLook_22 : decode cX9_runLook 22 = .ok (.goto 13, 3) := by decide +kernel
theorem dX9_runLook_25 : decode cX9_runLook 25 = .ok (.aload_n 0, 1) := by decide +kernel
theorem dX9_runLook_26 : decode cX9_runLook 26 = .ok (.dup, 1) := by decide +kernel
theorem dX9_runLook_27 : decode cX9_runLook 27 = .ok (.getfield 18, 3) := by decide +kernel
theorem dX9_runLook_30 : decode cX9_runLook 30 = .ok (.iconst 1, 1) := by decide +kernel
theorem dX9_runLook_31 : decode cX9_runLook 31 = .ok (.iadd, 1) := by decide +kernel
theorem dX9_runLook_32 : decode cX9_runLook 32 = .ok (.putfield 18, 3) := by decide +kernel
theorem dX9_runLook_35 : decode cX9_runLook 35 = .ok (.aload_n 0, 1) := by decide +kernel
theorem dX9_runLook_36 : decode cX9_runLook 36 = .ok (.dup, 1) := by decide +kernel
theorem dX9_runLook_37 : decode cX9_runLook 37 = .ok (.getfield 15, 3) := by decide +kernel
theorem dX9_runLook_40 : decode cX9_runLook 40 = .ok (.aload_n 1, 1) := by decide +kernel
theorem dX9_runLook_41 : decode cX9_runLook 41 = .ok (.iload_n 2, 1) := by decide +kernel
theorem dX9_runLook_42 : decode cX9_runLook 42 = .ok (.invokevirtual 68, 3) := by decide +kernel
theorem dX9_runLook_45 : decode cX9_runLook 45 = .ok (.iadd, 1) := by decide +kernel
theorem dX9_runLook_46 : decode cX9_runLook 46 = .ok (.putfield 15, 3) := by decide +kernel
theorem dX9_runLook_49 : decode cX9_runLook 49 = .ok (.return_, 1) := by decide +kernel
theorem dX9_runChoice_0 : decode cX9_runChoice 0 = .ok (.aload_n 1, 1) := by decide +kernel
theorem dX9_runChoice_1 : decode cX9_runChoice 1 = .ok (.iload_n 3, 1) := by decide +kernel
theorem dX9_runChoice_2 : decode cX9_runChoice 2 = .ok (.invokevirtual 71, 3) := by decide +kernel
theorem dX9_runChoice_5 : decode cX9_runChoice 5 = .ok (.istore 5, 2) := by decide +kernel
theorem dX9_runChoice_7 : decode cX9_runChoice 7 = .ok (.aload_n 1, 1) := by decide +kernel
theorem dX9_runChoice_8 : decode cX9_runChoice 8 = .ok (.iload 5, 2) := by decide +kernel
theorem dX9_runChoice_10 : decode cX9_runChoice 10 = .ok (.invokevirtual 71, 3) := by decide +kernel
theorem dX9_runChoice_13 : decode cX9_runChoice 13 = .ok (.istore 6, 2) := by decide +kernel
theorem dX9_runChoice_15 : decode cX9_runChoice 15 = .ok (.aload_n 0, 1) := by decide +kernel
theorem dX9_runChoice_16 : decode cX9_runChoice 16 = .ok (.invokevirtual 74, 3) := by decide +kernel
theorem dX9_runChoice_19 : decode cX9_runChoice 19 = .ok (.ifCond .eq 22, 3) := by decide +kernel
theorem dX9_runChoice_22 : decode cX9_runChoice 22 = .ok (.aload_n 0, 1) := by decide +kernel
theorem dX9_runChoice_23 : decode cX9_runChoice 23 = .ok (.aload_n 1, 1) := by decide +kernel
theorem dX9_runChoice_24 : decode cX9_runChoice 24 = .ok (.aload_n 2, 1) := by decide +kernel
theorem dX9_runChoice_25 : decode cX9_runChoice 25 = .ok (.iload 5, 2) := by decide +kernel
theorem dX9_runChoice_27 : decode cX9_runChoice 27 = .ok (.iconst 1, 1) := by decide +kernel
theorem dX9_runChoice_28 : decode cX9_runChoice 28 = .ok (.iadd, 1) := by decide +kernel
theorem dX9_runChoice_29 : decode cX9_runChoice 29 = .ok (.iload 6, 2) := by decide +kernel
theorem dX9_runChoice_31 : decode cX9_runChoice 31 = .ok (.iload 4, 2) := by decide +kernel
theorem dX9_runChoice_33 : decode cX9_runChoice 33 = .ok (.iconst 1, 1) := by decide +kernel
theorem dX9_runChoice_34 : decode cX9_runChoice 34 = .ok (.iadd, 1) := by decide +kernel
theorem dX9_runChoice_35 : decode cX9_runChoice 35 = .ok (.invokevirtual 32, 3) := by decide +kernel
theorem dX9_runChoice_38 : decode cX9_runChoice 38 = .ok (.goto 18, 3) := by decide +kernel
theorem dX9_runChoice_41 : decode cX9_runChoice 41 = .ok (.aload_n 0, 1) := by decide +kernel
theorem dX9_runChoice_42 : decode cX9_runChoice 42 = .ok (.aload_n 1, 1) := by decide +kernel
theorem dX9_runChoice_43 : decode cX9_runChoice 43 = .ok (.aload_n 2, 1) := by decide +kernel
theorem dX9_runChoice_44 : decode cX9_runChoice 44 = .ok (.iload_n 3, 1) := by decide +kernel
theorem dX9_runChoice_45 : decode cX9_runChoice 45 = .ok (.iconst 1, 1) := by decide +kernel
theorem dX9_runChoice_46 : decode cX9_runChoice 46 = .ok (.iadd, 1) := by decide +kernel
theorem dX9_runChoice_47 : decode cX9_runChoice 47 = .ok (.iload 5, 2) := by decide +kernel
theorem dX9_runChoice_49 : decode cX9_runChoice 49 = .ok (.iload 4, 2) := by decide +kernel
theorem dX9_runChoice_51 : decode cX9_runChoice 51 = .ok (.iconst 1, 1) := by decide +kernel
theorem dX9_runChoice_52 : decode cX9_runChoice 52 = .ok (.iadd, 1) := by decide +kernel
theorem dX9_runChoice_53 : decode cX9_runChoice 53 = .ok (.invokevirtual 32, 3) := by decide +kernel
theorem dX9_runChoice_56 : decode cX9_runChoice 56 = .ok (.iload 6, 2) := by decide +kernel
theorem dX9_runChoice_58 : decode cX9_runChoice 58 = .ok (.ireturn, 1) := by decide +kernel
theorem dX9_runLoop_0 : decode cX9_runLoop 0 = .ok (.aload_n 1, 1) := by decide +kernel
theorem dX9_runLoop_1 : decode cX9_runLoop 1 = .ok (.iload_n 3, 1) := by decide +kernel
theorem dX9_runLoop_2 : decode cX9_runLoop 2 = .ok (.invokevirtual 71, 3) := by decide +kernel
theorem dX9_runLoop_5 : decode cX9_runLoop 5 = .ok (.istore 5, 2) := by decide +kernel
theorem dX9_runLoop_7 : decode cX9_runLoop 7 = .ok (.aload_n 1, 1) := by decide +kernel
theorem dX9_runLoop_8 : decode cX9_runLoop 8 = .ok (.iload_n 3, 1) := by decide +kernel
theorem dX9_runLoop_9 : decode cX9_runLoop 9 = .ok (.invokevirtual 40, 3) := by decide +kernel
theorem dX9_runLoop_12 : decode cX9_runLoop 12 = .ok (.istore 6, 2) := by decide +kernel
theorem dX9_runLoop_14 : decode cX9_runLoop 14 = .ok (.iconst 0, 1) := by decide +kernel
theorem dX9_runLoop_15 : decode cX9_runLoop 15 = .ok (.istore 7, 2) := by decide +kernel
theorem dX9_runLoop_17 : decode cX9_runLoop 17 = .ok (.iload 7, 2) := by decide +kernel
theorem dX9_runLoop_19 : decode cX9_runLoop 19 = .ok (.iload 6, 2) := by decide +kernel
theorem dX9_runLoop_21 : decode cX9_runLoop 21 = .ok (.if_icmp .ge 31, 3) := by decide +kernel
theorem dX9_runLoop_24 : decode cX9_runLoop 24 = .ok (.aload_n 0, 1) := by decide +kernel
theorem dX9_runLoop_25 : decode cX9_runLoop 25 = .ok (.invokevirtual 74, 3) := by decide +kernel
theorem dX9_runLoop_28 : decode cX9_runLoop 28 = .ok (.ifCond .eq 24, 3) := by decide +kernel
theorem dX9_runLoop_31 : decode cX9_runLoop 31 = .ok (.aload_n 0, 1) := by decide +kernel
theorem dX9_runLoop_32 : decode cX9_runLoop 32 = .ok (.aload_n 1, 1) := by decide +kernel
theorem dX9_runLoop_33 : decode cX9_runLoop 33 = .ok (.aload_n 2, 1) := by decide +kernel
theorem dX9_runLoop_34 : decode cX9_runLoop 34 = .ok (.iload_n 3, 1) := by decide +kernel
theorem dX9_runLoop_35 : decode cX9_runLoop 35 = .ok (.iconst 1, 1) := by decide +kernel
theorem dX9_runLoop_36 : decode cX9_runLoop 36 = .ok (.iadd, 1) := by decide +kernel
theorem dX9_runLoop_37 : decode cX9_runLoop 37 = .ok (.iload 5, 2) := by decide +kernel
theorem dX9_runLoop_39 : decode cX9_runLoop 39 = .ok (.iload 4, 2) := by decide +kernel
theorem dX9_runLoop_41 : decode cX9_runLoop 41 = .ok (.iconst 1, 1) := by decide +kernel
theorem dX9_runLoop_42 : decode cX9_runLoop 42 = .ok (.iadd, 1) := by decide +kernel
theorem dX9_runLoop_43 : decode cX9_runLoop 43 = .ok (.invokevirtual 32, 3) := by decide +kernel
theorem dX9_runLoop_46 : decode cX9_runLoop 46 = .ok (.iinc 7 1, 3) := by decide +kernel
theorem dX9_runLoop_49 : decode cX9_runLoop 49 = .ok (.goto (-32), 3) := by decide +kernel
theorem dX9_runLoop_52 : decode cX9_runLoop 52 = .ok (.iload 5, 2) := by decide +kernel
theorem dX9_runLoop_54 : decode cX9_runLoop 54 = .ok (.ireturn, 1) := by decide +kernel
theorem dX9_answersOne_0 : decode cX9_answersOne 0 = .ok (.aload_n 0, 1) := by decide +kernel
theorem dX9_answersOne_1 : decode cX9_answersOne 1 = .ok (.getfield 24, 3) := by decide +kernel
theorem dX9_answersOne_4 : decode cX9_answersOne 4 = .ok (.bipush 20, 2) := by decide +kernel
theorem dX9_answersOne_6 : decode cX9_answersOne 6 = .ok (.if_icmp .ge 22, 3) := by decide +kernel
theorem dX9_answersOne_9 : decode cX9_answersOne 9 = .ok (.aload_n 0, 1) := by decide +kernel
theorem dX9_answersOne_10 : decode cX9_answersOne 10 = .ok (.getfield 9, 3) := by decide +kernel
theorem dX9_answersOne_13 : decode cX9_answersOne 13 = .ok (.aload_n 0, 1) := by decide +kernel
theorem dX9_answersOne_14 : decode cX9_answersOne 14 = .ok (.getfield 24, 3) := by decide +kernel
theorem dX9_answersOne_17 : decode cX9_answersOne 17 = .ok (.ishr, 1) := by decide +kernel
theorem dX9_answersOne_18 : decode cX9_answersOne 18 = .ok (.iconst 1, 1) := by decide +kernel
theorem dX9_answersOne_19 : decode cX9_answersOne 19 = .ok (.iand, 1) := by decide +kernel
theorem dX9_answersOne_20 : decode cX9_answersOne 20 = .ok (.iconst 1, 1) := by decide +kernel
theorem dX9_answersOne_21 : decode cX9_answersOne 21 = .ok (.if_icmp .ne 7, 3) := by decide +kernel
theorem dX9_answersOne_24 : decode cX9_answersOne 24 = .ok (.iconst 1, 1) := by decide +kernel
theorem dX9_answersOne_25 : decode cX9_answersOne 25 = .ok (.goto 4, 3) := by decide +kernel
theorem dX9_answersOne_28 : decode cX9_answersOne 28 = .ok (.iconst 0, 1) := by decide +kernel
theorem dX9_answersOne_29 : decode cX9_answersOne 29 = .ok (.istore_n 1, 1) := by decide +kernel
theorem dX9_answersOne_30 : decode cX9_answersOne 30 = .ok (.aload_n 0, 1) := by decide +kernel
theorem dX9_answersOne_31 : decode cX9_answersOne 31 = .ok (.dup, 1) := by decide +kernel
theorem dX9_answersOne_32 : decode cX9_answersOne 32 = .ok (.getfield 24, 3) := by decide +kernel
theorem dX9_answersOne_35 : decode cX9_answersOne 35 = .ok (.iconst 1, 1) := by decide +kernel
theorem dX9_answersOne_36 : decode cX9_answersOne 36 = .ok (.iadd, 1) := by decide +kernel
theorem dX9_answersOne_37 : decode cX9_answersOne 37 = .ok (.putfield 24, 3) := by decide +kernel
theorem dX9_answersOne_40 : decode cX9_answersOne 40 = .ok (.iload_n 1, 1) := by decide +kernel
theorem dX9_answersOne_41 : decode cX9_answersOne 41 = .ok (.ireturn, 1) := by decide +kernel
theorem dJ6_bitCount_0f7a4_0 : decode cJ6_bitCount_0f7a4 0 = .ok (.iload_n 0, 1) := by decide +kernel
theorem dJ6_bitCount_0f7a4_1 : decode cJ6_bitCount_0f7a4 1 = .ok (.iload_n 0, 1) := by decide +kernel
theorem dJ6_bitCount_0f7a4_2 : decode cJ6_bitCount_0f7a4 2 = .ok (.iconst 1, 1) := by decide +kernel
theorem dJ6_bitCount_0f7a4_3 : decode cJ6_bitCount_0f7a4 3 = .ok (.iushr, 1) := by decide +kernel
theorem dJ6_bitCount_0f7a4_4 : decode cJ6_bitCount_0f7a4 4 = .ok (.ldc_w 265, 3) := by decide +kernel
theorem dJ6_bitCount_0f7a4_7 : decode cJ6_bitCount_0f7a4 7 = .ok (.iand, 1) := by decide +kernel
theorem dJ6_bitCount_0f7a4_8 : decode cJ6_bitCount_0f7a4 8 = .ok (.isub, 1) := by decide +kernel
theorem dJ6_bitCount_0f7a4_9 : decode cJ6_bitCount_0f7a4 9 = .ok (.istore_n 0, 1) := by decide +kernel
theorem dJ6_bitCount_0f7a4_10 : decode cJ6_bitCount_0f7a4 10 = .ok (.iload_n 0, 1) := by decide +kernel
theorem dJ6_bitCount_0f7a4_11 : decode cJ6_bitCount_0f7a4 11 = .ok (.ldc_w 266, 3) := by decide +kernel
theorem dJ6_bitCount_0f7a4_14 : decode cJ6_bitCount_0f7a4 14 = .ok (.iand, 1) := by decide +kernel
theorem dJ6_bitCount_0f7a4_15 : decode cJ6_bitCount_0f7a4 15 = .ok (.iload_n 0, 1) := by decide +kernel
theorem dJ6_bitCount_0f7a4_16 : decode cJ6_bitCount_0f7a4 16 = .ok (.iconst 2, 1) := by decide +kernel
theorem dJ6_bitCount_0f7a4_17 : decode cJ6_bitCount_0f7a4 17 = .ok (.iushr, 1) := by decide +kernel
theorem dJ6_bitCount_0f7a4_18 : decode cJ6_bitCount_0f7a4 18 = .ok (.ldc_w 266, 3) := by decide +kernel
theorem dJ6_bitCount_0f7a4_21 : decode cJ6_bitCount_0f7a4 21 = .ok (.iand, 1) := by decide +kernel
theorem dJ6_bitCount_0f7a4_22 : decode cJ6_bitCount_0f7a4 22 = .ok (.iadd, 1) := by decide +kernel
theorem dJ6_bitCount_0f7a4_23 : decode cJ6_bitCount_0f7a4 23 = .ok (.istore_n 0, 1) := by decide +kernel
theorem dJ6_bitCount_0f7a4_24 : decode cJ6_bitCount_0f7a4 24 = .ok (.iload_n 0, 1) := by decide +kernel
theorem dJ6_bitCount_0f7a4_25 : decode cJ6_bitCount_0f7a4 25 = .ok (.iload_n 0, 1) := by decide +kernel
theorem dJ6_bitCount_0f7a4_26 : decode cJ6_bitCount_0f7a4 26 = .ok (.iconst 4, 1) := by decide +kernel
theorem dJ6_bitCount_0f7a4_27 : decode cJ6_bitCount_0f7a4 27 = .ok (.iushr, 1) := by decide +kernel
theorem dJ6_bitCount_0f7a4_28 : decode cJ6_bitCount_0f7a4 28 = .ok (.iadd, 1) := by decide +kernel
theorem dJ6_bitCount_0f7a4_29 : decode cJ6_bitCount_0f7a4 29 = .ok (.ldc_w 267, 3) := by decide +kernel
theorem dJ6_bitCount_0f7a4_32 : decode cJ6_bitCount_0f7a4 32 = .ok (.iand, 1) := by decide +kernel
theorem dJ6_bitCount_0f7a4_33 : decode cJ6_bitCount_0f7a4 33 = .ok (.istore_n 0, 1) := by decide +kernel
theorem dJ6_bitCount_0f7a4_34 : decode cJ6_bitCount_0f7a4 34 = .ok (.iload_n 0, 1) := by decide +kernel
theorem dJ6_bitCount_0f7a4_35 : decode cJ6_bitCount_0f7a4 35 = .ok (.iload_n 0, 1) := by decide +kernel
theorem dJ6_bitCount_0f7a4_36 : decode cJ6_bitCount_0f7a4 36 = .ok (.bipush 8, 2) := by decide +kernel
theorem dJ6_bitCount_0f7a4_38 : decode cJ6_bitCount_0f7a4 38 = .ok (.iushr, 1) := by decide +kernel
theorem dJ6_bitCount_0f7a4_39 : decode cJ6_bitCount_0f7a4 39 = .ok (.iadd, 1) := by decide +kernel
theorem dJ6_bitCount_0f7a4_40 : decode cJ6_bitCount_0f7a4 40 = .ok (.istore_n 0, 1) := by decide +kernel
theorem dJ6_bitCount_0f7a4_41 : decode cJ6_bitCount_0f7a4 41 = .ok (.iload_n 0, 1) := by decide +kernel
theorem dJ6_bitCount_0f7a4_42 : decode cJ6_bitCount_0f7a4 42 = .ok (.iload_n 0, 1) := by decide +kernel
theorem dJ6_bitCount_0f7a4_43 : decode cJ6_bitCount_0f7a4 43 = .ok (.bipush 16, 2) := by decide +kernel
theorem dJ6_bitCount_0f7a4_45 : decode cJ6_bitCount_0f7a4 45 = .ok (.iushr, 1) := by decide +kernel
theorem dJ6_bitCount_0f7a4_46 : decode cJ6_bitCount_0f7a4 46 = .ok (.iadd, 1) := by decide +kernel
theorem dJ6_bitCount_0f7a4_47 : decode cJ6_bitCount_0f7a4 47 = .ok (.istore_n 0, 1) := by decide +kernel
theorem dJ6_bitCount_0f7a4_48 : decode cJ6_bitCount_0f7a4 48 = .ok (.iload_n 0, 1) := by decide +kernel
theorem dJ6_bitCount_0f7a4_49 : decode cJ6_bitCount_0f7a4 49 = .ok (.bipush 63, 2) := by decide +kernel
theorem dJ6_bitCount_0f7a4_51 : decode cJ6_bitCount_0f7a4 51 = .ok (.iand, 1) := by decide +kernel
theorem dJ6_bitCount_0f7a4_52 : decode cJ6_bitCount_0f7a4 52 = .ok (.ireturn, 1) := by decide +kernel
theorem dJ9_max_7cf53_0 : decode cJ9_max_7cf53 0 = .ok (.iload_n 0, 1) := by decide +kernel
theorem dJ9_max_7cf53_1 : decode cJ9_max_7cf53 1 = .ok (.iload_n 1, 1) := by decide +kernel
theorem dJ9_max_7cf53_2 : decode cJ9_max_7cf53 2 = .ok (.if_icmp .lt 7, 3) := by decide +kernel
theorem dJ9_max_7cf53_5 : decode cJ9_max_7cf53 5 = .ok (.iload_n 0, 1) := by decide +kernel
theorem dJ9_max_7cf53_6 : decode cJ9_max_7cf53 6 = .ok (.goto 4, 3) := by decide +kernel
theorem dJ9_max_7cf53_9 : decode cJ9_max_7cf53 9 = .ok (.iload_n 1, 1) := by decide +kernel
theorem dJ9_max_7cf53_10 : decode cJ9_max_7cf53 10 = .ok (.ireturn, 1) := by decide +kernel
theorem dJ9_min_7cf53_0 : decode cJ9_min_7cf53 0 = .ok (.iload_n 0, 1) := by decide +kernel
theorem dJ9_min_7cf53_1 : decode cJ9_min_7cf53 1 = .ok (.iload_n 1, 1) := by decide +kernel
theorem dJ9_min_7cf53_2 : decode cJ9_min_7cf53 2 = .ok (.if_icmp .gt 7, 3) := by decide +kernel
theorem dJ9_min_7cf53_5 : decode cJ9_min_7cf53 5 = .ok (.iload_n 0, 1) := by decide +kernel
theorem dJ9_min_7cf53_6 : decode cJ9_min_7cf53 6 = .ok (.goto 4, 3) := by decide +kernel
theorem dJ9_min_7cf53_9 : decode cJ9_min_7cf53 9 = .ok (.iload_n 1, 1) := by decide +kernel
theorem dJ9_min_7cf53_10 : decode cJ9_min_7cf53 10 = .ok (.ireturn, 1) := by decide +kernel
theorem dJ9_min_f86c9_0 : decode cJ9_min_f86c9 0 = .ok (.lload_n 0, 1) := by decide +kernel
theorem dJ9_min_f86c9_1 : decode cJ9_min_f86c9 1 = .ok (.lload_n 2, 1) := by decide +kernel
theorem dJ9_min_f86c9_2 : decode cJ9_min_f86c9 2 = .ok (.lcmp, 1) := by decide +kernel
theorem dJ9_min_f86c9_3 : decode cJ9_min_f86c9 3 = .ok (.ifCond .gt 7, 3) := by decide +kernel
theorem dJ9_min_f86c9_6 : decode cJ9_min_f86c9 6 = .ok (.lload_n 0, 1) := by decide +kernel
theorem dJ9_min_f86c9_7 : decode cJ9_min_f86c9 7 = .ok (.goto 4, 3) := by decide +kernel
theorem dJ9_min_f86c9_10 : decode cJ9_min_f86c9 10 = .ok (.lload_n 2, 1) := by decide +kernel
theorem dJ9_min_f86c9_11 : decode cJ9_min_f86c9 11 = .ok (.lreturn, 1) := by decide +kernel
theorem dJ7_fill_53178_0 : decode cJ7_fill_53178 0 = .ok (.iconst 0, 1) := by decide +kernel
theorem dJ7_fill_53178_1 : decode cJ7_fill_53178 1 = .ok (.istore_n 2, 1) := by decide +kernel
theorem dJ7_fill_53178_2 : decode cJ7_fill_53178 2 = .ok (.aload_n 0, 1) := by decide +kernel
theorem dJ7_fill_53178_3 : decode cJ7_fill_53178 3 = .ok (.arraylength, 1) := by decide +kernel
theorem dJ7_fill_53178_4 : decode cJ7_fill_53178 4 = .ok (.istore_n 3, 1) := by decide +kernel
theorem dJ7_fill_53178_5 : decode cJ7_fill_53178 5 = .ok (.iload_n 2, 1) := by decide +kernel
theorem dJ7_fill_53178_6 : decode cJ7_fill_53178 6 = .ok (.iload_n 3, 1) := by decide +kernel
theorem dJ7_fill_53178_7 : decode cJ7_fill_53178 7 = .ok (.if_icmp .ge 13, 3) := by decide +kernel
theorem dJ7_fill_53178_10 : decode cJ7_fill_53178 10 = .ok (.aload_n 0, 1) := by decide +kernel
theorem dJ7_fill_53178_11 : decode cJ7_fill_53178 11 = .ok (.iload_n 2, 1) := by decide +kernel
theorem dJ7_fill_53178_12 : decode cJ7_fill_53178 12 = .ok (.iload_n 1, 1) := by decide +kernel
theorem dJ7_fill_53178_13 : decode cJ7_fill_53178 13 = .ok (.iastore, 1) := by decide +kernel
theorem dJ7_fill_53178_14 : decode cJ7_fill_53178 14 = .ok (.iinc 2 1, 3) := by decide +kernel
theorem dJ7_fill_53178_17 : decode cJ7_fill_53178 17 = .ok (.goto (-12), 3) := by decide +kernel
theorem dJ7_fill_53178_20 : decode cJ7_fill_53178 20 = .ok (.return_, 1) := by decide +kernel
