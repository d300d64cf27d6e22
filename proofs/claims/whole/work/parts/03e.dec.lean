theorem dX11_of_33 : decode cX11_of 33 = .ok (.ireturn, 1) := by decide +kernel
theorem dX11_of_34 : decode cX11_of 34 = .ok (.aload_n 0, 1) := by decide +kernel
theorem dX11_of_35 : decode cX11_of 35 = .ok (.invokevirtual 216, 3) := by decide +kernel
theorem dX11_of_38 : decode cX11_of 38 = .ok (.aload_n 0, 1) := by decide +kernel
theorem dX11_of_39 : decode cX11_of 39 = .ok (.iload_n 1, 1) := by decide +kernel
theorem dX11_of_40 : decode cX11_of 40 = .ok (.invokevirtual 219, 3) := by decide +kernel
theorem dX11_of_43 : decode cX11_of 43 = .ok (.istore_n 3, 1) := by decide +kernel
theorem dX11_of_44 : decode cX11_of 44 = .ok (.aload_n 0, 1) := by decide +kernel
theorem dX11_of_45 : decode cX11_of 45 = .ok (.iload_n 3, 1) := by decide +kernel
theorem dX11_of_46 : decode cX11_of 46 = .ok (.invokevirtual 207, 3) := by decide +kernel
theorem dX11_of_49 : decode cX11_of 49 = .ok (.istore 4, 2) := by decide +kernel
theorem dX11_of_51 : decode cX11_of 51 = .ok (.iload_n 2, 1) := by decide +kernel
theorem dX11_of_52 : decode cX11_of 52 = .ok (.tableswitch 80 0 4 #[36, 46, 52, 59, 66], 36) := by decide +kernel
theorem dX11_of_88 : decode cX11_of 88 = .ok (.aload_n 0, 1) := by decide +kernel
theorem dX11_of_89 : decode cX11_of 89 = .ok (.getfield 19, 3) := by decide +kernel
theorem dX11_of_92 : decode cX11_of 92 = .ok (.iload_n 3, 1) := by decide +kernel
theorem dX11_of_93 : decode cX11_of 93 = .ok (.iaload, 1) := by decide +kernel
theorem dX11_of_94 : decode cX11_of 94 = .ok (.bipush 97, 2) := by decide +kernel
theorem dX11_of_96 : decode cX11_of 96 = .ok (.isub, 1) := by decide +kernel
theorem dX11_of_97 : decode cX11_of 97 = .ok (.ireturn, 1) := by decide +kernel
theorem dX11_of_98 : decode cX11_of 98 = .ok (.aload_n 0, 1) := by decide +kernel
theorem dX11_of_99 : decode cX11_of 99 = .ok (.iload_n 3, 1) := by decide +kernel
theorem dX11_of_100 : decode cX11_of 100 = .ok (.invokevirtual 210, 3) := by decide +kernel
theorem dX11_of_103 : decode cX11_of 103 = .ok (.ireturn, 1) := by decide +kernel
theorem dX11_of_104 : decode cX11_of 104 = .ok (.aload_n 0, 1) := by decide +kernel
theorem dX11_of_105 : decode cX11_of 105 = .ok (.getfield 50, 3) := by decide +kernel
theorem dX11_of_108 : decode cX11_of 108 = .ok (.iload_n 3, 1) := by decide +kernel
theorem dX11_of_109 : decode cX11_of 109 = .ok (.iaload, 1) := by decide +kernel
theorem dX11_of_110 : decode cX11_of 110 = .ok (.ireturn, 1) := by decide +kernel
theorem dX11_of_111 : decode cX11_of 111 = .ok (.aload_n 0, 1) := by decide +kernel
theorem dX11_of_112 : decode cX11_of 112 = .ok (.getfield 53, 3) := by decide +kernel
theorem dX11_of_115 : decode cX11_of 115 = .ok (.iload_n 3, 1) := by decide +kernel
theorem dX11_of_116 : decode cX11_of 116 = .ok (.iaload, 1) := by decide +kernel
theorem dX11_of_117 : decode cX11_of 117 = .ok (.ireturn, 1) := by decide +kernel
theorem dX11_of_118 : decode cX11_of 118 = .ok (.aload_n 0, 1) := by decide +kernel
theorem dX11_of_119 : decode cX11_of 119 = .ok (.iload_n 3, 1) := by decide +kernel
theorem dX11_of_120 : decode cX11_of 120 = .ok (.invokevirtual 222, 3) := by decide +kernel
theorem dX11_of_123 : decode cX11_of 123 = .ok (.ifCond .eq 7, 3) := by decide +kernel
theorem dX11_of_126 : decode cX11_of 126 = .ok (.iconst 1, 1) := by decide +kernel
theorem dX11_of_127 : decode cX11_of 127 = .ok (.goto 4, 3) := by decide +kernel
theorem dX11_of_130 : decode cX11_of 130 = .ok (.iconst 0, 1) := by decide +kernel
theorem dX11_of_131 : decode cX11_of 131 = .ok (.ireturn, 1) := by decide +kernel
theorem dX11_of_132 : decode cX11_of 132 = .ok (.iload 4, 2) := by decide +kernel
theorem dX11_of_134 : decode cX11_of 134 = .ok (.iconst (-1), 1) := by decide +kernel
theorem dX11_of_135 : decode cX11_of 135 = .ok (.if_icmp .ne 7, 3) := by decide +kernel
theorem dX11_of_138 : decode cX11_of 138 = .ok (.iconst 0, 1) := by decide +kernel
theorem dX11_of_139 : decode cX11_of 139 = .ok (.goto 13, 3) := by decide +kernel
theorem dX11_of_142 : decode cX11_of 142 = .ok (.aload_n 0, 1) := by decide +kernel
theorem dX11_of_143 : decode cX11_of 143 = .ok (.getfield 19, 3) := by decide +kernel
theorem dX11_of_146 : decode cX11_of 146 = .ok (.iload 4, 2) := by decide +kernel
theorem dX11_of_148 : decode cX11_of 148 = .ok (.iaload, 1) := by decide +kernel
theorem dX11_of_149 : decode cX11_of 149 = .ok (.bipush 48, 2) := by decide +kernel
theorem dX11_of_151 : decode cX11_of 151 = .ok (.isub, 1) := by decide +kernel
theorem dX11_of_152 : decode cX11_of 152 = .ok (.ireturn, 1) := by decide +kernel
theorem dX11_sure_0 : decode cX11_sure 0 = .ok (.iload_n 1, 1) := by decide +kernel
theorem dX11_sure_1 : decode cX11_sure 1 = .ok (.i2l, 1) := by decide +kernel
theorem dX11_sure_2 : decode cX11_sure 2 = .ok (.lconst 0, 1) := by decide +kernel
theorem dX11_sure_3 : decode cX11_sure 3 = .ok (.ldc2_w 118, 3) := by decide +kernel
theorem dX11_sure_6 : decode cX11_sure 6 = .ok (.invokestatic 89, 3) := by decide +kernel
theorem dX11_sure_9 : decode cX11_sure 9 = .ok (.ifCond .ne 8, 3) := by decide +kernel
theorem dX11_sure_12 : decode cX11_sure 12 = .ok (.aload_n 0, 1) := by decide +kernel
theorem dX11_sure_13 : decode cX11_sure 13 = .ok (.invokevirtual 120, 3) := by decide +kernel
theorem dX11_sure_16 : decode cX11_sure 16 = .ok (.ireturn, 1) := by decide +kernel
theorem dX11_sure_17 : decode cX11_sure 17 = .ok (.iconst 0, 1) := by decide +kernel
theorem dX11_sure_18 : decode cX11_sure 18 = .ok (.istore_n 2, 1) := by decide +kernel
theorem dX11_sure_19 : decode cX11_sure 19 = .ok (.aload_n 0, 1) := by decide +kernel
theorem dX11_sure_20 : decode cX11_sure 20 = .ok (.invokevirtual 216, 3) := by decide +kernel
theorem dX11_sure_23 : decode cX11_sure 23 = .ok (.iconst 0, 1) := by decide +kernel
theorem dX11_sure_24 : decode cX11_sure 24 = .ok (.istore_n 3, 1) := by decide +kernel
theorem dX11_sure_25 : decode cX11_sure 25 = .ok (.iload_n 3, 1) := by decide +kernel
theorem dX11_sure_26 : decode cX11_sure 26 = .ok (.aload_n 0, 1) := by decide +kernel
theorem dX11_sure_27 : decode cX11_sure 27 = .ok (.getfield 177, 3) := by decide +kernel
theorem dX11_sure_30 : decode cX11_sure 30 = .ok (.if_icmp .ge 54, 3) := by decide +kernel
theorem dX11_sure_33 : decode cX11_sure 33 = .ok (.iload_n 2, 1) := by decide +kernel
theorem dX11_sure_34 : decode cX11_sure 34 = .ok (.aload_n 0, 1) := by decide +kernel
theorem dX11_sure_35 : decode cX11_sure 35 = .ok (.getfield 19, 3) := by decide +kernel
theorem dX11_sure_38 : decode cX11_sure 38 = .ok (.iload_n 3, 1) := by decide +kernel
theorem dX11_sure_39 : decode cX11_sure 39 = .ok (.iaload, 1) := by decide +kernel
theorem dX11_sure_40 : decode cX11_sure 40 = .ok (.invokestatic 168, 3) := by decide +kernel
theorem dX11_sure_43 : decode cX11_sure 43 = .ok (.ifCond .eq 32, 3) := by decide +kernel
theorem dX11_sure_46 : decode cX11_sure 46 = .ok (.iload_n 1, 1) := by decide +kernel
theorem dX11_sure_47 : decode cX11_sure 47 = .ok (.iconst 3, 1) := by decide +kernel
theorem dX11_sure_48 : decode cX11_sure 48 = .ok (.if_icmp .ne 14, 3) := by decide +kernel
theorem dX11_sure_51 : decode cX11_sure 51 = .ok (.aload_n 0, 1) := by decide +kernel
theorem dX11_sure_52 : decode cX11_sure 52 = .ok (.iload_n 3, 1) := by decide +kernel
theorem dX11_sure_53 : decode cX11_sure 53 = .ok (.invokevirtual 222, 3) := by decide +kernel
theorem dX11_sure_56 : decode cX11_sure 56 = .ok (.ifCond .eq 19, 3) := by decide +kernel
theorem dX11_sure_59 : decode cX11_sure 59 = .ok (.goto 12, 3) := by decide +kernel
theorem dX11_sure_62 : decode cX11_sure 62 = .ok (.aload_n 0, 1) := by decide +kernel
theorem dX11_sure_63 : decode cX11_sure 63 = .ok (.iload_n 3, 1) := by decide +kernel
theorem dX11_sure_64 : decode cX11_sure 64 = .ok (.invokevirtual 210, 3) := by decide +kernel
theorem dX11_sure_67 : decode cX11_sure 67 = .ok (.iload_n 1, 1) := by decide +kernel
theorem dX11_sure_68 : decode cX11_sure 68 = .ok (.if_icmp .ne 7, 3) := by decide +kernel
theorem dX11_sure_71 : decode cX11_sure 71 = .ok (.iconst 1, 1) := by decide +kernel
theorem dX11_sure_72 : decode cX11_sure 72 = .ok (.goto 4, 3) := by decide +kernel
theorem dX11_sure_75 : decode cX11_sure 75 = .ok (.iconst 0, 1) := by decide +kernel
theorem dX11_sure_76 : decode cX11_sure 76 = .ok (.iadd, 1) := by decide +kernel
theorem dX11_sure_77 : decode cX11_sure 77 = .ok (.istore_n 2, 1) := by decide +kernel
theorem dX11_sure_78 : decode cX11_sure 78 = .ok (.iinc 3 1, 3) := by decide +kernel
theorem dX11_sure_81 : decode cX11_sure 81 = .ok (.goto (-56), 3) := by decide +kernel
theorem dX11_sure_84 : decode cX11_sure 84 = .ok (.iload_n 2, 1) := by decide +kernel
theorem dX11_sure_85 : decode cX11_sure 85 = .ok (.ireturn, 1) := by decide +kernel
theorem dX11_behind_0 : decode cX11_behind 0 = .ok (.iload_n 1, 1) := by decide +kernel
theorem dX11_behind_1 : decode cX11_behind 1 = .ok (.i2l, 1) := by decide +kernel
theorem dX11_behind_2 : decode cX11_behind 2 = .ok (.lconst 0, 1) := by decide +kernel
theorem dX11_behind_3 : decode cX11_behind 3 = .ok (.lconst 1, 1) := by decide +kernel
theorem dX11_behind_4 : decode cX11_behind 4 = .ok (.invokestatic 89, 3) := by decide +kernel
theorem dX11_behind_7 : decode cX11_behind 7 = .ok (.ifCond .eq 10, 3) := by decide +kernel
theorem dX11_behind_10 : decode cX11_behind 10 = .ok (.iload_n 2, 1) := by decide +kernel
theorem dX11_behind_11 : decode cX11_behind 11 = .ok (.invokestatic 138, 3) := by decide +kernel
theorem dX11_behind_14 : decode cX11_behind 14 = .ok (.ifCond .ne 8, 3) := by decide +kernel
theorem dX11_behind_17 : decode cX11_behind 17 = .ok (.aload_n 0, 1) := by decide +kernel
theorem dX11_behind_18 : decode cX11_behind 18 = .ok (.invokevirtual 120, 3) := by decide +kernel
theorem dX11_behind_21 : decode cX11_behind 21 = .ok (.ireturn, 1) := by decide +kernel
theorem dX11_behind_22 : decode cX11_behind 22 = .ok (.aload_n 0, 1) := by decide +kernel
theorem dX11_behind_23 : decode cX11_behind 23 = .ok (.invokevirtual 216, 3) := by decide +kernel
theorem dX11_behind_26 : decode cX11_behind 26 = .ok (.aload_n 0, 1) := by decide +kernel
theorem dX11_behind_27 : decode cX11_behind 27 = .ok (.getfield 41, 3) := by decide +kernel
theorem dX11_behind_30 : decode cX11_behind 30 = .ok (.bipush 6, 2) := by decide +kernel
theorem dX11_behind_32 : decode cX11_behind 32 = .ok (.iload_n 1, 1) := by decide +kernel
theorem dX11_behind_33 : decode cX11_behind 33 = .ok (.imul, 1) := by decide +kernel
theorem dX11_behind_34 : decode cX11_behind 34 = .ok (.iload_n 2, 1) := by decide +kernel
theorem dX11_behind_35 : decode cX11_behind 35 = .ok (.iadd, 1) := by decide +kernel
theorem dX11_behind_36 : decode cX11_behind 36 = .ok (.iaload, 1) := by decide +kernel
theorem dX11_behind_37 : decode cX11_behind 37 = .ok (.ireturn, 1) := by decide +kernel
theorem dX11_boundOf_0 : decode cX11_boundOf 0 = .ok (.iconst 0, 1) := by decide +kernel
theorem dX11_boundOf_1 : decode cX11_boundOf 1 = .ok (.istore_n 2, 1) := by decide +kernel
theorem dX11_boundOf_2 : decode cX11_boundOf 2 = .ok (.aload_n 0, 1) := by decide +kernel
theorem dX11_boundOf_3 : decode cX11_boundOf 3 = .ok (.invokevirtual 216, 3) := by decide +kernel
theorem dX11_boundOf_6 : decode cX11_boundOf 6 = .ok (.aload_n 0, 1) := by decide +kernel
theorem dX11_boundOf_7 : decode cX11_boundOf 7 = .ok (.getfield 56, 3) := by decide +kernel
theorem dX11_boundOf_10 : decode cX11_boundOf 10 = .ok (.iconst 0, 1) := by decide +kernel
theorem dX11_boundOf_11 : decode cX11_boundOf 11 = .ok (.iconst 0, 1) := by decide +kernel
theorem dX11_boundOf_12 : decode cX11_boundOf 12 = .ok (.iastore, 1) := by decide +kernel
theorem dX11_boundOf_13 : decode cX11_boundOf 13 = .ok (.iconst 0, 1) := by decide +kernel
theorem dX11_boundOf_14 : decode cX11_boundOf 14 = .ok (.istore_n 3, 1) := by decide +kernel
theorem dX11_boundOf_15 : decode cX11_boundOf 15 = .ok (.iload_n 3, 1) := by decide +kernel
theorem dX11_boundOf_16 : decode cX11_boundOf 16 = .ok (.aload_n 0, 1) := by decide +kernel
theorem dX11_boundOf_17 : decode cX11_boundOf 17 = .ok (.getfield 177, 3) := by decide +kernel
theorem dX11_boundOf_20 : decode cX11_boundOf 20 = .ok (.if_icmp .ge 281, 3) := by decide +kernel
theorem dX11_boundOf_23 : decode cX11_boundOf 23 = .ok (.aload_n 0, 1) := by decide +kernel
theorem dX11_boundOf_24 : decode cX11_boundOf 24 = .ok (.getfield 19, 3) := by decide +kernel
theorem dX11_boundOf_27 : decode cX11_boundOf 27 = .ok (.iload_n 3, 1) := by decide +kernel
theorem dX11_boundOf_28 : decode cX11_boundOf 28 = .ok (.iaload, 1) := by decide +kernel
theorem dX11_boundOf_29 : decode cX11_boundOf 29 = .ok (.istore 4, 2) := by decide +kernel
theorem dX11_boundOf_31 : decode cX11_boundOf 31 = .ok (.iload 4, 2) := by decide +kernel
theorem dX11_boundOf_33 : decode cX11_boundOf 33 = .ok (.invokestatic 168, 3) := by decide +kernel
theorem dX11_boundOf_36 : decode cX11_boundOf 36 = .ok (.ifCond .eq 68, 3) := by decide +kernel
theorem dX11_boundOf_39 : decode cX11_boundOf 39 = .ok (.iload_n 1, 1) := by decide +kernel
theorem dX11_boundOf_40 : decode cX11_boundOf 40 = .ok (.ifCond .eq 20, 3) := by decide +kernel
theorem dX11_boundOf_43 : decode cX11_boundOf 43 = .ok (.aload_n 0, 1) := by decide +kernel
theorem dX11_boundOf_44 : decode cX11_boundOf 44 = .ok (.iload_n 3, 1) := by decide +kernel
theorem dX11_boundOf_45 : decode cX11_boundOf 45 = .ok (.invokevirtual 210, 3) := by decide +kernel
theorem dX11_boundOf_48 : decode cX11_boundOf 48 = .ok (.iconst 1, 1) := by decide +kernel
theorem dX11_boundOf_49 : decode cX11_boundOf 49 = .ok (.if_icmp .eq 7, 3) := by decide +kernel
theorem dX11_boundOf_52 : decode cX11_boundOf 52 = .ok (.iconst 1, 1) := by decide +kernel
theorem dX11_boundOf_53 : decode cX11_boundOf 53 = .ok (.goto 21, 3) := by decide +kernel
theorem dX11_boundOf_56 : decode cX11_boundOf 56 = .ok (.iconst 0, 1) := by decide +kernel
theorem dX11_boundOf_57 : decode cX11_boundOf 57 = .ok (.goto 17, 3) := by decide +kernel
theorem dX11_boundOf_60 : decode cX11_boundOf 60 = .ok (.aload_n 0, 1) := by decide +kernel
theorem dX11_boundOf_61 : decode cX11_boundOf 61 = .ok (.iload_n 3, 1) := by decide +kernel
theorem dX11_boundOf_62 : decode cX11_boundOf 62 = .ok (.invokevirtual 210, 3) := by decide +kernel
theorem dX11_boundOf_65 : decode cX11_boundOf 65 = .ok (.iconst 2, 1) := by decide +kernel
theorem dX11_boundOf_66 : decode cX11_boundOf 66 = .ok (.if_icmp .ne 7, 3) := by decide +kernel
theorem dX11_boundOf_69 : decode cX11_boundOf 69 = .ok (.iconst 1, 1) := by decide +kernel
theorem dX11_boundOf_70 : decode cX11_boundOf 70 = .ok (.goto 4, 3) := by decide +kernel
theorem dX11_boundOf_73 : decode cX11_boundOf 73 = .ok (.iconst 0, 1) := by decide +kernel
theorem dX11_boundOf_74 : decode cX11_boundOf 74 = .ok (.istore 5, 2) := by decide +kernel
theorem dX11_boundOf_76 : decode cX11_boundOf 76 = .ok (.aload_n 0, 1) := by decide +kernel
theorem dX11_boundOf_77 : decode cX11_boundOf 77 = .ok (.getfield 56, 3) := by decide +kernel
theorem dX11_boundOf_80 : decode cX11_boundOf 80 = .ok (.iload_n 2, 1) := by decide +kernel
theorem dX11_boundOf_81 : decode cX11_boundOf 81 = .ok (.dup2, 1) := by decide +kernel
theorem dX11_boundOf_82 : decode cX11_boundOf 82 = .ok (.iaload, 1) := by decide +kernel
theorem dX11_boundOf_83 : decode cX11_boundOf 83 = .ok (.iload 5, 2) := by decide +kernel
theorem dX11_boundOf_85 : decode cX11_boundOf 85 = .ok (.ifCond .eq 13, 3) := by decide +kernel
theorem dX11_boundOf_88 : decode cX11_boundOf 88 = .ok (.aload_n 0, 1) := by decide +kernel
theorem dX11_boundOf_89 : decode cX11_boundOf 89 = .ok (.getfield 7, 3) := by decide +kernel
theorem dX11_boundOf_92 : decode cX11_boundOf 92 = .ok (.bipush 6, 2) := by decide +kernel
theorem dX11_boundOf_94 : decode cX11_boundOf 94 = .ok (.iaload, 1) := by decide +kernel
theorem dX11_boundOf_95 : decode cX11_boundOf 95 = .ok (.goto 4, 3) := by decide +kernel
theorem dX11_boundOf_98 : decode cX11_boundOf 98 = .ok (.iconst 1, 1) := by decide +kernel
theorem dX11_boundOf_99 : decode cX11_boundOf 99 = .ok (.iadd, 1) := by decide +kernel
theorem dX11_boundOf_100 : decode cX11_boundOf 100 = .ok (.iastore, 1) := by decide +kernel
theorem dX11_boundOf_101 : decode cX11_boundOf 101 = .ok (.goto 194, 3) := by decide +kernel
theorem dX11_boundOf_104 : decode cX11_boundOf 104 = .ok (.iload 4, 2) := by decide +kernel
theorem dX11_boundOf_106 : decode cX11_boundOf 106 = .ok (.bipush 46, 2) := by decide +kernel
theorem dX11_boundOf_108 : decode cX11_boundOf 108 = .ok (.if_icmp .ne 16, 3) := by decide +kernel
theorem dX11_boundOf_111 : decode cX11_boundOf 111 = .ok (.aload_n 0, 1) := by decide +kernel
theorem dX11_boundOf_112 : decode cX11_boundOf 112 = .ok (.getfield 56, 3) := by decide +kernel
theorem dX11_boundOf_115 : decode cX11_boundOf 115 = .ok (.iload_n 2, 1) := by decide +kernel
theorem dX11_boundOf_116 : decode cX11_boundOf 116 = .ok (.dup2, 1) := by decide +kernel
theorem dX11_boundOf_117 : decode cX11_boundOf 117 = .ok (.iaload, 1) := by decide +kernel
theorem dX11_boundOf_118 : decode cX11_boundOf 118 = .ok (.iconst 1, 1) := by decide +kernel
theorem dX11_boundOf_119 : decode cX11_boundOf 119 = .ok (.iadd, 1) := by decide +kernel
theorem dX11_boundOf_120 : decode cX11_boundOf 120 = .ok (.iastore, 1) := by decide +kernel
theorem dX11_boundOf_121 : decode cX11_boundOf 121 = .ok (.goto 174, 3) := by decide +kernel
theorem dX11_boundOf_124 : decode cX11_boundOf 124 = .ok (.iload 4, 2) := by decide +kernel
theorem dX11_boundOf_126 : decode cX11_boundOf 126 = .ok (.bipush 40, 2) := by decide +kernel
theorem dX11_boundOf_128 : decode cX11_boundOf 128 = .ok (.if_icmp .eq 11, 3) := by decide +kernel
theorem dX11_boundOf_131 : decode cX11_boundOf 131 = .ok (.iload 4, 2) := by decide +kernel
theorem dX11_boundOf_133 : decode cX11_boundOf 133 = .ok (.invokestatic 171, 3) := by decide +kernel
theorem dX11_boundOf_136 : decode cX11_boundOf 136 = .ok (.ifCond .eq 16, 3) := by decide +kernel
theorem dX11_boundOf_139 : decode cX11_boundOf 139 = .ok (.iinc 2 1, 3) := by decide +kernel
theorem dX11_boundOf_142 : decode cX11_boundOf 142 = .ok (.aload_n 0, 1) := by decide +kernel
theorem dX11_boundOf_143 : decode cX11_boundOf 143 = .ok (.getfield 56, 3) := by decide +kernel
theorem dX11_boundOf_146 : decode cX11_boundOf 146 = .ok (.iload_n 2, 1) := by decide +kernel
theorem dX11_boundOf_147 : decode cX11_boundOf 147 = .ok (.iconst 0, 1) := by decide +kernel
theorem dX11_boundOf_148 : decode cX11_boundOf 148 = .ok (.iastore, 1) := by decide +kernel
theorem dX11_boundOf_149 : decode cX11_boundOf 149 = .ok (.goto 146, 3) := by decide +kernel
theorem dX11_boundOf_152 : decode cX11_boundOf 152 = .ok (.iload 4, 2) := by decide +kernel
theorem dX11_boundOf_154 : decode cX11_boundOf 154 = .ok (.bipush 124, 2) := by decide +kernel
theorem dX11_boundOf_156 : decode cX11_boundOf 156 = .ok (.if_icmp .ne 25, 3) := by decide +kernel
theorem dX11_boundOf_159 : decode cX11_boundOf 159 = .ok (.aload_n 0, 1) := by decide +kernel
theorem dX11_boundOf_160 : decode cX11_boundOf 160 = .ok (.getfield 59, 3) := by decide +kernel
theorem dX11_boundOf_163 : decode cX11_boundOf 163 = .ok (.iload_n 2, 1) := by decide +kernel
theorem dX11_boundOf_164 : decode cX11_boundOf 164 = .ok (.aload_n 0, 1) := by decide +kernel
theorem dX11_boundOf_165 : decode cX11_boundOf 165 = .ok (.getfield 56, 3) := by decide +kernel
theorem dX11_boundOf_168 : decode cX11_boundOf 168 = .ok (.iload_n 2, 1) := by decide +kernel
theorem dX11_boundOf_169 : decode cX11_boundOf 169 = .ok (.iaload, 1) := by decide +kernel
theorem dX11_boundOf_170 : decode cX11_boundOf 170 = .ok (.iastore, 1) := by decide +kernel
theorem dX11_boundOf_171 : decode cX11_boundOf 171 = .ok (.aload_n 0, 1) := by decide +kernel
theorem dX11_boundOf_172 : decode cX11_boundOf 172 = .ok (.getfield 56, 3) := by decide +kernel
theorem dX11_boundOf_175 : decode cX11_boundOf 175 = .ok (.iload_n 2, 1) := by decide +kernel
theorem dX11_boundOf_176 : decode cX11_boundOf 176 = .ok (.iconst 0, 1) := by decide +kernel
theorem dX11_boundOf_177 : decode cX11_boundOf 177 = .ok (.iastore, 1) := by decide +kernel
theorem dX11_boundOf_178 : decode cX11_boundOf 178 = .ok (.goto 117, 3) := by decide +kernel
theorem dX11_boundOf_181 : decode cX11_boundOf 181 = .ok (.iload 4, 2) := by decide +kernel
theorem dX11_boundOf_183 : decode cX11_boundOf 183 = .ok (.bipush 41, 2) := by decide +kernel
theorem dX11_boundOf_185 : decode cX11_boundOf 185 = .ok (.if_icmp .ne 65, 3) := by decide +kernel
theorem dX11_boundOf_188 : decode cX11_boundOf 188 = .ok (.aload_n 0, 1) := by decide +kernel
theorem dX11_boundOf_189 : decode cX11_boundOf 189 = .ok (.getfield 56, 3) := by decide +kernel
theorem dX11_boundOf_192 : decode cX11_boundOf 192 = .ok (.iload_n 2, 1) := by decide +kernel
theorem dX11_boundOf_193 : decode cX11_boundOf 193 = .ok (.iaload, 1) := by decide +kernel
theorem dX11_boundOf_194 : decode cX11_boundOf 194 = .ok (.aload_n 0, 1) := by decide +kernel
theorem dX11_boundOf_195 : decode cX11_boundOf 195 = .ok (.getfield 59, 3) := by decide +kernel
theorem dX11_boundOf_198 : decode cX11_boundOf 198 = .ok (.iload_n 2, 1) := by decide +kernel
theorem dX11_boundOf_199 : decode cX11_boundOf 199 = .ok (.iaload, 1) := by decide +kernel
theorem dX11_boundOf_200 : decode cX11_boundOf 200 = .ok (.if_icmp .le 7, 3) := by decide +kernel
theorem dX11_boundOf_203 : decode cX11_boundOf 203 = .ok (.iconst 1, 1) := by decide +kernel
theorem dX11_boundOf_204 : decode cX11_boundOf 204 = .ok (.goto 4, 3) := by decide +kernel
theorem dX11_boundOf_207 : decode cX11_boundOf 207 = .ok (.iconst 0, 1) := by decide +kernel
theorem dX11_boundOf_208 : decode cX11_boundOf 208 = .ok (.istore 5, 2) := by decide +kernel
theorem dX11_boundOf_210 : decode cX11_boundOf 210 = .ok (.iload 5, 2) := by decide +kernel
theorem dX11_boundOf_212 : decode cX11_boundOf 212 = .ok (.iload_n 1, 1) := by decide +kernel
theorem dX11_boundOf_213 : decode cX11_boundOf 213 = .ok (.if_icmp .ne 12, 3) := by decide +kernel
theorem dX11_boundOf_216 : decode cX11_boundOf 216 = .ok (.aload_n 0, 1) := by decide +kernel
theorem dX11_boundOf_217 : decode cX11_boundOf 217 = .ok (.getfield 56, 3) := by decide +kernel
theorem dX11_boundOf_220 : decode cX11_boundOf 220 = .ok (.iload_n 2, 1) := by decide +kernel
theorem dX11_boundOf_221 : decode cX11_boundOf 221 = .ok (.iaload, 1) := by decide +kernel
theorem dX11_boundOf_222 : decode cX11_boundOf 222 = .ok (.goto 9, 3) := by decide +kernel
theorem dX11_boundOf_225 : decode cX11_boundOf 225 = .ok (.aload_n 0, 1) := by decide +kernel
theorem dX11_boundOf_226 : decode cX11_boundOf 226 = .ok (.getfield 59, 3) := by decide +kernel
theorem dX11_boundOf_229 : decode cX11_boundOf 229 = .ok (.iload_n 2, 1) := by decide +kernel
theorem dX11_boundOf_230 : decode cX11_boundOf 230 = .ok (.iaload, 1) := by decide +kernel
theorem dX11_boundOf_231 : decode cX11_boundOf 231 = .ok (.istore 6, 2) := by decide +kernel
theorem dX11_boundOf_233 : decode cX11_boundOf 233 = .ok (.iinc 2 (-1), 3) := by decide +kernel
theorem dX11_boundOf_236 : decode cX11_boundOf 236 = .ok (.aload_n 0, 1) := by decide +kernel
theorem dX11_boundOf_237 : decode cX11_boundOf 237 = .ok (.getfield 56, 3) := by decide +kernel
theorem dX11_boundOf_240 : decode cX11_boundOf 240 = .ok (.iload_n 2, 1) := by decide +kernel
theorem dX11_boundOf_241 : decode cX11_boundOf 241 = .ok (.dup2, 1) := by decide +kernel
theorem dX11_boundOf_242 : decode cX11_boundOf 242 = .ok (.iaload, 1) := by decide +kernel
theorem dX11_boundOf_243 : decode cX11_boundOf 243 = .ok (.iload 6, 2) := by decide +kernel
theorem dX11_boundOf_245 : decode cX11_boundOf 245 = .ok (.iadd, 1) := by decide +kernel
theorem dX11_boundOf_246 : decode cX11_boundOf 246 = .ok (.iastore, 1) := by decide +kernel
theorem dX11_boundOf_247 : decode cX11_boundOf 247 = .ok (.goto 48, 3) := by decide +kernel
theorem dX11_boundOf_250 : decode cX11_boundOf 250 = .ok (.iload_n 1, 1) := by decide +kernel
theorem dX11_boundOf_251 : decode cX11_boundOf 251 = .ok (.ifCond .eq 27, 3) := by decide +kernel
theorem dX11_boundOf_254 : decode cX11_boundOf 254 = .ok (.aload_n 0, 1) := by decide +kernel
theorem dX11_boundOf_255 : decode cX11_boundOf 255 = .ok (.getfield 56, 3) := by decide +kernel
theorem dX11_boundOf_258 : decode cX11_boundOf 258 = .ok (.iload_n 2, 1) := by decide +kernel
theorem dX11_boundOf_259 : decode cX11_boundOf 259 = .ok (.iaload, 1) := by decide +kernel
theorem dX11_boundOf_260 : decode cX11_boundOf 260 = .ok (.aload_n 0, 1) := by decide +kernel
theorem dX11_boundOf_261 : decode cX11_boundOf 261 = .ok (.getfield 19, 3) := by decide +kernel
theorem dX11_boundOf_264 : decode cX11_boundOf 264 = .ok (.aload_n 0, 1) := by decide +kernel
theorem dX11_boundOf_265 : decode cX11_boundOf 265 = .ok (.getfield 22, 3) := by decide +kernel
theorem dX11_boundOf_268 : decode cX11_boundOf 268 = .ok (.iload_n 3, 1) := by decide +kernel
theorem dX11_boundOf_269 : decode cX11_boundOf 269 = .ok (.iaload, 1) := by decide +kernel
theorem dX11_boundOf_270 : decode cX11_boundOf 270 = .ok (.iaload, 1) := by decide +kernel
theorem dX11_boundOf_271 : decode cX11_boundOf 271 = .ok (.bipush 48, 2) := by decide +kernel
theorem dX11_boundOf_273 : decode cX11_boundOf 273 = .ok (.isub, 1) := by decide +kernel
theorem dX11_boundOf_274 : decode cX11_boundOf 274 = .ok (.imul, 1) := by decide +kernel
theorem dX11_boundOf_275 : decode cX11_boundOf 275 = .ok (.goto 4, 3) := by decide +kernel
theorem dX11_boundOf_278 : decode cX11_boundOf 278 = .ok (.iconst 0, 1) := by decide +kernel
theorem dX11_boundOf_279 : decode cX11_boundOf 279 = .ok (.istore 5, 2) := by decide +kernel
theorem dX11_boundOf_281 : decode cX11_boundOf 281 = .ok (.iinc 2 (-1), 3) := by decide +kernel
theorem dX11_boundOf_284 : decode cX11_boundOf 284 = .ok (.aload_n 0, 1) := by decide +kernel
theorem dX11_boundOf_285 : decode cX11_boundOf 285 = .ok (.getfield 56, 3) := by decide +kernel
theorem dX11_boundOf_288 : decode cX11_boundOf 288 = .ok (.iload_n 2, 1) := by decide +kernel
theorem dX11_boundOf_289 : decode cX11_boundOf 289 = .ok (.dup2, 1) := by decide +kernel
theorem dX11_boundOf_290 : decode cX11_boundOf 290 = .ok (.iaload, 1) := by decide +kernel
theorem dX11_boundOf_291 : decode cX11_boundOf 291 = .ok (.iload 5, 2) := by decide +kernel
theorem dX11_boundOf_293 : decode cX11_boundOf 293 = .ok (.iadd, 1) := by decide +kernel
theorem dX11_boundOf_294 : decode cX11_boundOf 294 = .ok (.iastore, 1) := by decide +kernel
theorem dX11_boundOf_295 : decode cX11_boundOf 295 = .ok (.iinc 3 1, 3) := by decide +kernel
theorem dX11_boundOf_298 : decode cX11_boundOf 298 = .ok (.goto (-283), 3) := by decide +kernel
theorem dX11_boundOf_301 : decode cX11_boundOf 301 = .ok (.aload_n 0, 1) := by decide +kernel
theorem dX11_boundOf_302 : decode cX11_boundOf 302 = .ok (.getfield 56, 3) := by decide +kernel
theorem dX11_boundOf_305 : decode cX11_boundOf 305 = .ok (.iconst 0, 1) := by decide +kernel
theorem dX11_boundOf_306 : decode cX11_boundOf 306 = .ok (.iaload, 1) := by decide +kernel
theorem dX11_boundOf_307 : decode cX11_boundOf 307 = .ok (.ireturn, 1) := by decide +kernel
theorem dX11_upper_0 : decode cX11_upper 0 = .ok (.aload_n 0, 1) := by decide +kernel
theorem dX11_upper_1 : decode cX11_upper 1 = .ok (.iconst 1, 1) := by decide +kernel
theorem dX11_upper_2 : decode cX11_upper 2 = .ok (.invokevirtual 225, 3) := by decide +kernel
theorem dX11_upper_5 : decode cX11_upper 5 = .ok (.ireturn, 1) := by decide +kernel
theorem dX11_lower_0 : decode cX11_lower 0 = .ok (.aload_n 0, 1) := by decide +kernel
theorem dX11_lower_1 : decode cX11_lower 1 = .ok (.iconst 0, 1) := by decide +kernel
theorem dX11_lower_2 : decode cX11_lower 2 = .ok (.invokevirtual 225, 3) := by decide +kernel
theorem dX11_lower_5 : decode cX11_lower 5 = .ok (.ireturn, 1) := by decide +kernel
theorem dX11_comes_0 : decode cX11_comes 0 = .ok (.aload_n 0, 1) := by decide +kernel
theorem dX11_comes_1 : decode cX11_comes 1 = .ok (.iload_n 1, 1) := by decide +kernel
theorem dX11_comes_2 : decode cX11_comes 2 = .ok (.iload_n 2, 1) := by decide +kernel
theorem dX11_comes_3 : decode cX11_comes 3 = .ok (.iadd, 1) := by decide +kernel
theorem dX11_comes_4 : decode cX11_comes 4 = .ok (.iaload, 1) := by decide +kernel
theorem dX11_comes_5 : decode cX11_comes 5 = .ok (.ifCond .lt 7, 3) := by decide +kernel
theorem dX11_comes_8 : decode cX11_comes 8 = .ok (.iconst 1, 1) := by decide +kernel
theorem dX11_comes_9 : decode cX11_comes 9 = .ok (.goto 4, 3) := by decide +kernel
theorem dX11_comes_12 : decode cX11_comes 12 = .ok (.iconst 0, 1) := by decide +kernel
theorem dX11_comes_13 : decode cX11_comes 13 = .ok (.istore 5, 2) := by decide +kernel
theorem dX11_comes_15 : decode cX11_comes 15 = .ok (.aload_n 0, 1) := by decide +kernel
theorem dX11_comes_16 : decode cX11_comes 16 = .ok (.iload_n 1, 1) := by decide +kernel
theorem dX11_comes_17 : decode cX11_comes 17 = .ok (.iload_n 2, 1) := by decide +kernel
theorem dX11_comes_18 : decode cX11_comes 18 = .ok (.iadd, 1) := by decide +kernel
theorem dX11_comes_19 : decode cX11_comes 19 = .ok (.iload 5, 2) := by decide +kernel
theorem dX11_comes_21 : decode cX11_comes 21 = .ok (.ifCond .eq 20, 3) := by decide +kernel
theorem dX11_comes_24 : decode cX11_comes 24 = .ok (.aload_n 0, 1) := by decide +kernel
theorem dX11_comes_25 : decode cX11_comes 25 = .ok (.iload_n 1, 1) := by decide +kernel
theorem dX11_comes_26 : decode cX11_comes 26 = .ok (.iload_n 2, 1) := by decide +kernel
theorem dX11_comes_27 : decode cX11_comes 27 = .ok (.iadd, 1) := by decide +kernel
theorem dX11_comes_28 : decode cX11_comes 28 = .ok (.iaload, 1) := by decide +kernel
theorem dX11_comes_29 : decode cX11_comes 29 = .ok (.iload_n 3, 1) := by decide +kernel
theorem dX11_comes_30 : decode cX11_comes 30 = .ok (.if_icmp .le 11, 3) := by decide +kernel
theorem dX11_comes_33 : decode cX11_comes 33 = .ok (.aload_n 0, 1) := by decide +kernel
theorem dX11_comes_34 : decode cX11_comes 34 = .ok (.iload_n 1, 1) := by decide +kernel
theorem dX11_comes_35 : decode cX11_comes 35 = .ok (.iload_n 2, 1) := by decide +kernel
theorem dX11_comes_36 : decode cX11_comes 36 = .ok (.iadd, 1) := by decide +kernel
theorem dX11_comes_37 : decode cX11_comes 37 = .ok (.iaload, 1) := by decide +kernel
theorem dX11_comes_38 : decode cX11_comes 38 = .ok (.goto 4, 3) := by decide +kernel
theorem dX11_comes_41 : decode cX11_comes 41 = .ok (.iload_n 3, 1) := by decide +kernel
theorem dX11_comes_42 : decode cX11_comes 42 = .ok (.iastore, 1) := by decide +kernel
theorem dX11_comes_43 : decode cX11_comes 43 = .ok (.iload_n 1, 1) := by decide +kernel
theorem dX11_comes_44 : decode cX11_comes 44 = .ok (.sipush 343, 3) := by decide +kernel
theorem dX11_comes_47 : decode cX11_comes 47 = .ok (.iadd, 1) := by decide +kernel
theorem dX11_comes_48 : decode cX11_comes 48 = .ok (.iload_n 2, 1) := by decide +kernel
theorem dX11_comes_49 : decode cX11_comes 49 = .ok (.iadd, 1) := by decide +kernel
theorem dX11_comes_50 : decode cX11_comes 50 = .ok (.istore 6, 2) := by decide +kernel
theorem dX11_comes_52 : decode cX11_comes 52 = .ok (.aload_n 0, 1) := by decide +kernel
theorem dX11_comes_53 : decode cX11_comes 53 = .ok (.iload 6, 2) := by decide +kernel
theorem dX11_comes_55 : decode cX11_comes 55 = .ok (.iload 5, 2) := by decide +kernel
theorem dX11_comes_57 : decode cX11_comes 57 = .ok (.ifCond .eq 19, 3) := by decide +kernel
theorem dX11_comes_60 : decode cX11_comes 60 = .ok (.aload_n 0, 1) := by decide +kernel
theorem dX11_comes_61 : decode cX11_comes 61 = .ok (.iload 6, 2) := by decide +kernel
theorem dX11_comes_63 : decode cX11_comes 63 = .ok (.iaload, 1) := by decide +kernel
theorem dX11_comes_64 : decode cX11_comes 64 = .ok (.iload 4, 2) := by decide +kernel
theorem dX11_comes_66 : decode cX11_comes 66 = .ok (.if_icmp .ge 10, 3) := by decide +kernel
theorem dX11_comes_69 : decode cX11_comes 69 = .ok (.aload_n 0, 1) := by decide +kernel
theorem dX11_comes_70 : decode cX11_comes 70 = .ok (.iload 6, 2) := by decide +kernel
theorem dX11_comes_72 : decode cX11_comes 72 = .ok (.iaload, 1) := by decide +kernel
theorem dX11_comes_73 : decode cX11_comes 73 = .ok (.goto 5, 3) := by decide +kernel
theorem dX11_comes_76 : decode cX11_comes 76 = .ok (.iload 4, 2) := by decide +kernel
theorem dX11_comes_78 : decode cX11_comes 78 = .ok (.iastore, 1) := by decide +kernel
theorem dX11_comes_79 : decode cX11_comes 79 = .ok (.return_, 1) := by decide +kernel
theorem dX11_clears_0 : decode cX11_clears 0 = .ok (.iconst 0, 1) := by decide +kernel
theorem dX11_clears_1 : decode cX11_clears 1 = .ok (.istore_n 1, 1) := by decide +kernel
theorem dX11_clears_2 : decode cX11_clears 2 = .ok (.iload_n 1, 1) := by decide +kernel
theorem dX11_clears_3 : decode cX11_clears 3 = .ok (.sipush 686, 3) := by decide +kernel
theorem dX11_clears_6 : decode cX11_clears 6 = .ok (.if_icmp .ge 16, 3) := by decide +kernel
theorem dX11_clears_9 : decode cX11_clears 9 = .ok (.aload_n 0, 1) := by decide +kernel
theorem dX11_clears_10 : decode cX11_clears 10 = .ok (.getfield 65, 3) := by decide +kernel
theorem dX11_clears_13 : decode cX11_clears 13 = .ok (.iload_n 1, 1) := by decide +kernel
theorem dX11_clears_14 : decode cX11_clears 14 = .ok (.iconst (-1), 1) := by decide +kernel
theorem dX11_clears_15 : decode cX11_clears 15 = .ok (.iastore, 1) := by decide +kernel
theorem dX11_clears_16 : decode cX11_clears 16 = .ok (.iinc 1 1, 3) := by decide +kernel
theorem dX11_clears_19 : decode cX11_clears 19 = .ok (.goto (-17), 3) := by decide +kernel
theorem dX11_clears_22 : decode cX11_clears 22 = .ok (.return_, 1) := by decide +kernel
theorem dX11_nextIsNow_0 : decode cX11_nextIsNow 0 = .ok (.iconst 0, 1) := by decide +kernel
theorem dX11_nextIsNow_1 : decode cX11_nextIsNow 1 = .ok (.istore_n 1, 1) := by decide +kernel
theorem dX11_nextIsNow_2 : decode cX11_nextIsNow 2 = .ok (.iload_n 1, 1) := by decide +kernel
theorem dX11_nextIsNow_3 : decode cX11_nextIsNow 3 = .ok (.sipush 686, 3) := by decide +kernel
theorem dX11_nextIsNow_6 : decode cX11_nextIsNow 6 = .ok (.if_icmp .ge 21, 3) := by decide +kernel
theorem dX11_nextIsNow_9 : decode cX11_nextIsNow 9 = .ok (.aload_n 0, 1) := by decide +kernel
theorem dX11_nextIsNow_10 : decode cX11_nextIsNow 10 = .ok (.getfield 62, 3) := by decide +kernel
theorem dX11_nextIsNow_13 : decode cX11_nextIsNow 13 = .ok (.iload_n 1, 1) := by decide +kernel
theorem dX11_nextIsNow_14 : decode cX11_nextIsNow 14 = .ok (.aload_n 0, 1) := by decide +kernel
theorem dX11_nextIsNow_15 : decode cX11_nextIsNow 15 = .ok (.getfield 65, 3) := by decide +kernel
theorem dX11_nextIsNow_18 : decode cX11_nextIsNow 18 = .ok (.iload_n 1, 1) := by decide +kernel
theorem dX11_nextIsNow_19 : decode cX11_nextIsNow 19 = .ok (.iaload, 1) := by decide +kernel
theorem dX11_nextIsNow_20 : decode cX11_nextIsNow 20 = .ok (.iastore, 1) := by decide +kernel
theorem dX11_nextIsNow_21 : decode cX11_nextIsNow 21 = .ok (.iinc 1 1, 3) := by decide +kernel
theorem dX11_nextIsNow_24 : decode cX11_nextIsNow 24 = .ok (.goto (-22), 3) := by decide +kernel
theorem dX11_nextIsNow_27 : decode cX11_nextIsNow 27 = .ok (.return_, 1) := by decide +kernel
theorem dX11_savesTook_0 : decode cX11_savesTook 0 = .ok (.iconst 0, 1) := by decide +kernel
theorem dX11_savesTook_1 : decode cX11_savesTook 1 = .ok (.istore_n 3, 1) := by decide +kernel
theorem dX11_savesTook_2 : decode cX11_savesTook 2 = .ok (.iload_n 3, 1) := by decide +kernel
theorem dX11_savesTook_3 : decode cX11_savesTook 3 = .ok (.sipush 686, 3) := by decide +kernel
theorem dX11_savesTook_6 : decode cX11_savesTook 6 = .ok (.if_icmp .ge 24, 3) := by decide +kernel
theorem dX11_savesTook_9 : decode cX11_savesTook 9 = .ok (.aload_n 1, 1) := by decide +kernel
theorem dX11_savesTook_10 : decode cX11_savesTook 10 = .ok (.sipush 686, 3) := by decide +kernel
theorem dX11_savesTook_13 : decode cX11_savesTook 13 = .ok (.iload_n 2, 1) := by decide +kernel
theorem dX11_savesTook_14 : decode cX11_savesTook 14 = .ok (.imul, 1) := by decide +kernel
theorem dX11_savesTook_15 : decode cX11_savesTook 15 = .ok (.iload_n 3, 1) := by decide +kernel
theorem dX11_savesTook_16 : decode cX11_savesTook 16 = .ok (.iadd, 1) := by decide +kernel
theorem dX11_savesTook_17 : decode cX11_savesTook 17 = .ok (.aload_n 0, 1) := by decide +kernel
theorem dX11_savesTook_18 : decode cX11_savesTook 18 = .ok (.getfield 62, 3) := by decide +kernel
theorem dX11_savesTook_21 : decode cX11_savesTook 21 = .ok (.iload_n 3, 1) := by decide +kernel
theorem dX11_savesTook_22 : decode cX11_savesTook 22 = .ok (.iaload, 1) := by decide +kernel
theorem dX11_savesTook_23 : decode cX11_savesTook 23 = .ok (.iastore, 1) := by decide +kernel
theorem dX11_savesTook_24 : decode cX11_savesTook 24 = .ok (.iinc 3 1, 3) := by decide +kernel
theorem dX11_savesTook_27 : decode cX11_savesTook 27 = .ok (.goto (-25), 3) := by decide +kernel
theorem dX11_savesTook_30 : decode cX11_savesTook 30 = .ok (.return_, 1) := by decide +kernel
theorem dX11_bringsTook_0 : decode cX11_bringsTook 0 = .ok (.iconst 0, 1) := by decide +kernel
theorem dX11_bringsTook_1 : decode cX11_bringsTook 1 = .ok (.istore_n 3, 1) := by decide +kernel
theorem dX11_bringsTook_2 : decode cX11_bringsTook 2 = .ok (.iload_n 3, 1) := by decide +kernel
theorem dX11_bringsTook_3 : decode cX11_bringsTook 3 = .ok (.sipush 686, 3) := by decide +kernel
theorem dX11_bringsTook_6 : decode cX11_bringsTook 6 = .ok (.if_icmp .ge 24, 3) := by decide +kernel
theorem dX11_bringsTook_9 : decode cX11_bringsTook 9 = .ok (.aload_n 0, 1) := by decide +kernel
theorem dX11_bringsTook_10 : decode cX11_bringsTook 10 = .ok (.getfield 62, 3) := by decide +kernel
theorem dX11_bringsTook_13 : decode cX11_bringsTook 13 = .ok (.iload_n 3, 1) := by decide +kernel
theorem dX11_bringsTook_14 : decode cX11_bringsTook 14 = .ok (.aload_n 1, 1) := by decide +kernel
theorem dX11_bringsTook_15 : decode cX11_bringsTook 15 = .ok (.sipush 686, 3) := by decide +kernel
theorem dX11_bringsTook_18 : decode cX11_bringsTook 18 = .ok (.iload_n 2, 1) := by decide +kernel
theorem dX11_bringsTook_19 : decode cX11_bringsTook 19 = .ok (.imul, 1) := by decide +kernel
theorem dX11_bringsTook_20 : decode cX11_bringsTook 20 = .ok (.iload_n 3, 1) := by decide +kernel
theorem dX11_bringsTook_21 : decode cX11_bringsTook 21 = .ok (.iadd, 1) := by decide +kernel
theorem dX11_bringsTook_22 : decode cX11_bringsTook 22 = .ok (.iaload, 1) := by decide +kernel
theorem dX11_bringsTook_23 : decode cX11_bringsTook 23 = .ok (.iastore, 1) := by decide +kernel
theorem dX11_bringsTook_24 : decode cX11_bringsTook 24 = .ok (.iinc 3 1, 3) := by decide +kernel
theorem dX11_bringsTook_27 : decode cX11_bringsTook 27 = .ok (.goto (-25), 3) := by decide +kernel
theorem dX11_bringsTook_30 : decode cX11_bringsTook 30 = .ok (.return_, 1) := by decide +kernel
theorem dX11_joins_0 : decode cX11_joins 0 = .ok (.iconst 0, 1) := by decide +kernel
theorem dX11_joins_1 : decode cX11_joins 1 = .ok (.istore_n 3, 1) := by decide +kernel
theorem dX11_joins_2 : decode cX11_joins 2 = .ok (.iload_n 3, 1) := by decide +kernel
theorem dX11_joins_3 : decode cX11_joins 3 = .ok (.sipush 343, 3) := by decide +kernel
theorem dX11_joins_6 : decode cX11_joins 6 = .ok (.if_icmp .ge 44, 3) := by decide +kernel
theorem dX11_joins_9 : decode cX11_joins 9 = .ok (.aload_n 0, 1) := by decide +kernel
theorem dX11_joins_10 : decode cX11_joins 10 = .ok (.getfield 62, 3) := by decide +kernel
theorem dX11_joins_13 : decode cX11_joins 13 = .ok (.iload_n 3, 1) := by decide +kernel
theorem dX11_joins_14 : decode cX11_joins 14 = .ok (.iaload, 1) := by decide +kernel
theorem dX11_joins_15 : decode cX11_joins 15 = .ok (.ifCond .lt 29, 3) := by decide +kernel
theorem dX11_joins_18 : decode cX11_joins 18 = .ok (.aload_n 1, 1) := by decide +kernel
theorem dX11_joins_19 : decode cX11_joins 19 = .ok (.sipush 686, 3) := by decide +kernel
theorem dX11_joins_22 : decode cX11_joins 22 = .ok (.iload_n 2, 1) := by decide +kernel
theorem dX11_joins_23 : decode cX11_joins 23 = .ok (.imul, 1) := by decide +kernel
theorem dX11_joins_24 : decode cX11_joins 24 = .ok (.iload_n 3, 1) := by decide +kernel
theorem dX11_joins_25 : decode cX11_joins 25 = .ok (.aload_n 0, 1) := by decide +kernel
theorem dX11_joins_26 : decode cX11_joins 26 = .ok (.getfield 62, 3) := by decide +kernel
theorem dX11_joins_29 : decode cX11_joins 29 = .ok (.iload_n 3, 1) := by decide +kernel
theorem dX11_joins_30 : decode cX11_joins 30 = .ok (.iaload, 1) := by decide +kernel
theorem dX11_joins_31 : decode cX11_joins 31 = .ok (.aload_n 0, 1) := by decide +kernel
theorem dX11_joins_32 : decode cX11_joins 32 = .ok (.getfield 62, 3) := by decide +kernel
theorem dX11_joins_35 : decode cX11_joins 35 = .ok (.sipush 343, 3) := by decide +kernel
theorem dX11_joins_38 : decode cX11_joins 38 = .ok (.iload_n 3, 1) := by decide +kernel
theorem dX11_joins_39 : decode cX11_joins 39 = .ok (.iadd, 1) := by decide +kernel
theorem dX11_joins_40 : decode cX11_joins 40 = .ok (.iaload, 1) := by decide +kernel
theorem dX11_joins_41 : decode cX11_joins 41 = .ok (.invokestatic 229, 3) := by decide +kernel
theorem dX11_joins_44 : decode cX11_joins 44 = .ok (.iinc 3 1, 3) := by decide +kernel
theorem dX11_joins_47 : decode cX11_joins 47 = .ok (.goto (-45), 3) := by decide +kernel
theorem dX11_joins_50 : decode cX11_joins 50 = .ok (.return_, 1) := by decide +kernel
theorem dX11_does_0 : decode cX11_does 0 = .ok (.aload_n 0, 1) := by decide +kernel
theorem dX11_does_1 : decode cX11_does 1 = .ok (.invokevirtual 233, 3) := by decide +kernel
theorem dX11_does_4 : decode cX11_does 4 = .ok (.aload_n 0, 1) := by decide +kernel
theorem dX11_does_5 : decode cX11_does 5 = .ok (.getfield 19, 3) := by decide +kernel
theorem dX11_does_8 : decode cX11_does 8 = .ok (.iload_n 1, 1) := by decide +kernel
theorem dX11_does_9 : decode cX11_does 9 = .ok (.iaload, 1) := by decide +kernel
theorem dX11_does_10 : decode cX11_does 10 = .ok (.bipush 97, 2) := by decide +kernel
theorem dX11_does_12 : decode cX11_does 12 = .ok (.isub, 1) := by decide +kernel
theorem dX11_does_13 : decode cX11_does 13 = .ok (.istore_n 3, 1) := by decide +kernel
theorem dX11_does_14 : decode cX11_does 14 = .ok (.aload_n 0, 1) := by decide +kernel
theorem dX11_does_15 : decode cX11_does 15 = .ok (.getfield 19, 3) := by decide +kernel
theorem dX11_does_18 : decode cX11_does 18 = .ok (.iload_n 1, 1) := by decide +kernel
theorem dX11_does_19 : decode cX11_does 19 = .ok (.iaload, 1) := by decide +kernel
theorem dX11_does_20 : decode cX11_does 20 = .ok (.invokestatic 168, 3) := by decide +kernel
theorem dX11_does_23 : decode cX11_does 23 = .ok (.istore 4, 2) := by decide +kernel
theorem dX11_does_25 : decode cX11_does 25 = .ok (.iconst 0, 1) := by decide +kernel
theorem dX11_does_26 : decode cX11_does 26 = .ok (.istore 5, 2) := by decide +kernel
theorem dX11_does_28 : decode cX11_does 28 = .ok (.iload 5, 2) := by decide +kernel
theorem dX11_does_30 : decode cX11_does 30 = .ok (.sipush 343, 3) := by decide +kernel
theorem dX11_does_33 : decode cX11_does 33 = .ok (.if_icmp .ge 96, 3) := by decide +kernel
theorem dX11_does_36 : decode cX11_does 36 = .ok (.aload_n 0, 1) := by decide +kernel
theorem dX11_does_37 : decode cX11_does 37 = .ok (.getfield 62, 3) := by decide +kernel
theorem dX11_does_40 : decode cX11_does 40 = .ok (.iload 5, 2) := by decide +kernel
theorem dX11_does_42 : decode cX11_does 42 = .ok (.iaload, 1) := by decide +kernel
theorem dX11_does_43 : decode cX11_does 43 = .ok (.ifCond .lt 80, 3) := by decide +kernel
theorem dX11_does_46 : decode cX11_does 46 = .ok (.iload 4, 2) := by decide +kernel
theorem dX11_does_48 : decode cX11_does 48 = .ok (.ifCond .eq 13, 3) := by decide +kernel
theorem dX11_does_51 : decode cX11_does 51 = .ok (.aload_n 0, 1) := by decide +kernel
theorem dX11_does_52 : decode cX11_does 52 = .ok (.iload 5, 2) := by decide +kernel
theorem dX11_does_54 : decode cX11_does 54 = .ok (.iload_n 3, 1) := by decide +kernel
theorem dX11_does_55 : decode cX11_does 55 = .ok (.invokevirtual 146, 3) := by decide +kernel
theorem dX11_does_58 : decode cX11_does 58 = .ok (.goto 4, 3) := by decide +kernel
theorem dX11_does_61 : decode cX11_does 61 = .ok (.iconst 1, 1) := by decide +kernel
theorem dX11_does_62 : decode cX11_does 62 = .ok (.istore 6, 2) := by decide +kernel
theorem dX11_does_64 : decode cX11_does 64 = .ok (.iload 4, 2) := by decide +kernel
theorem dX11_does_66 : decode cX11_does 66 = .ok (.ifCond .eq 19, 3) := by decide +kernel
theorem dX11_does_69 : decode cX11_does 69 = .ok (.iload 5, 2) := by decide +kernel
theorem dX11_does_71 : decode cX11_does 71 = .ok (.iload_n 3, 1) := by decide +kernel
theorem dX11_does_72 : decode cX11_does 72 = .ok (.iload_n 2, 1) := by decide +kernel
theorem dX11_does_73 : decode cX11_does 73 = .ok (.aload_n 0, 1) := by decide +kernel
theorem dX11_does_74 : decode cX11_does 74 = .ok (.getfield 7, 3) := by decide +kernel
theorem dX11_does_77 : decode cX11_does 77 = .ok (.iconst 5, 1) := by decide +kernel
theorem dX11_does_78 : decode cX11_does 78 = .ok (.iaload, 1) := by decide +kernel
theorem dX11_does_79 : decode cX11_does 79 = .ok (.invokestatic 142, 3) := by decide +kernel
theorem dX11_does_82 : decode cX11_does 82 = .ok (.goto 5, 3) := by decide +kernel
theorem dX11_does_85 : decode cX11_does 85 = .ok (.iload 5, 2) := by decide +kernel
theorem dX11_does_87 : decode cX11_does 87 = .ok (.istore 7, 2) := by decide +kernel
theorem dX11_does_89 : decode cX11_does 89 = .ok (.aload_n 0, 1) := by decide +kernel
theorem dX11_does_90 : decode cX11_does 90 = .ok (.getfield 65, 3) := by decide +kernel
theorem dX11_does_93 : decode cX11_does 93 = .ok (.iconst 0, 1) := by decide +kernel
theorem dX11_does_94 : decode cX11_does 94 = .ok (.iload 7, 2) := by decide +kernel
theorem dX11_does_96 : decode cX11_does 96 = .ok (.aload_n 0, 1) := by decide +kernel
theorem dX11_does_97 : decode cX11_does 97 = .ok (.getfield 62, 3) := by decide +kernel
theorem dX11_does_100 : decode cX11_does 100 = .ok (.iload 5, 2) := by decide +kernel
theorem dX11_does_102 : decode cX11_does 102 = .ok (.iaload, 1) := by decide +kernel
theorem dX11_does_103 : decode cX11_does 103 = .ok (.iload 6, 2) := by decide +kernel
theorem dX11_does_105 : decode cX11_does 105 = .ok (.iadd, 1) := by decide +kernel
theorem dX11_does_106 : decode cX11_does 106 = .ok (.aload_n 0, 1) := by decide +kernel
theorem dX11_does_107 : decode cX11_does 107 = .ok (.getfield 62, 3) := by decide +kernel
theorem dX11_does_110 : decode cX11_does 110 = .ok (.sipush 343, 3) := by decide +kernel
theorem dX11_does_113 : decode cX11_does 113 = .ok (.iload 5, 2) := by decide +kernel
theorem dX11_does_115 : decode cX11_does 115 = .ok (.iadd, 1) := by decide +kernel
theorem dX11_does_116 : decode cX11_does 116 = .ok (.iaload, 1) := by decide +kernel
theorem dX11_does_117 : decode cX11_does 117 = .ok (.iload 6, 2) := by decide +kernel
theorem dX11_does_119 : decode cX11_does 119 = .ok (.iadd, 1) := by decide +kernel
theorem dX11_does_120 : decode cX11_does 120 = .ok (.invokestatic 229, 3) := by decide +kernel
theorem dX11_does_123 : decode cX11_does 123 = .ok (.iinc 5 1, 3) := by decide +kernel
theorem dX11_does_126 : decode cX11_does 126 = .ok (.goto (-98), 3) := by decide +kernel
theorem dX11_does_129 : decode cX11_does 129 = .ok (.aload_n 0, 1) := by decide +kernel
theorem dX11_does_130 : decode cX11_does 130 = .ok (.invokevirtual 236, 3) := by decide +kernel
theorem dX11_does_133 : decode cX11_does 133 = .ok (.return_, 1) := by decide +kernel
theorem dX11_goes_0 : decode cX11_goes 0 = .ok (.iconst 0, 1) := by decide +kernel
theorem dX11_goes_1 : decode cX11_goes 1 = .ok (.istore_n 3, 1) := by decide +kernel
theorem dX11_goes_2 : decode cX11_goes 2 = .ok (.aload_n 0, 1) := by decide +kernel
theorem dX11_goes_3 : decode cX11_goes 3 = .ok (.invokevirtual 233, 3) := by decide +kernel
theorem dX11_goes_6 : decode cX11_goes 6 = .ok (.aload_n 0, 1) := by decide +kernel
theorem dX11_goes_7 : decode cX11_goes 7 = .ok (.invokevirtual 236, 3) := by decide +kernel
theorem dX11_goes_10 : decode cX11_goes 10 = .ok (.aload_n 0, 1) := by decide +kernel
theorem dX11_goes_11 : decode cX11_goes 11 = .ok (.getfield 62, 3) := by decide +kernel
theorem dX11_goes_14 : decode cX11_goes 14 = .ok (.iconst 0, 1) := by decide +kernel
theorem dX11_goes_15 : decode cX11_goes 15 = .ok (.iload_n 1, 1) := by decide +kernel
theorem dX11_goes_16 : decode cX11_goes 16 = .ok (.iconst 0, 1) := by decide +kernel
theorem dX11_goes_17 : decode cX11_goes 17 = .ok (.iconst 0, 1) := by decide +kernel
theorem dX11_goes_18 : decode cX11_goes 18 = .ok (.invokestatic 229, 3) := by decide +kernel
theorem dX11_goes_21 : decode cX11_goes 21 = .ok (.iconst 0, 1) := by decide +kernel
theorem dX11_goes_22 : decode cX11_goes 22 = .ok (.istore 4, 2) := by decide +kernel
theorem dX11_goes_24 : decode cX11_goes 24 = .ok (.iload 4, 2) := by decide +kernel
theorem dX11_goes_26 : decode cX11_goes 26 = .ok (.aload_n 0, 1) := by decide +kernel
theorem dX11_goes_27 : decode cX11_goes 27 = .ok (.getfield 177, 3) := by decide +kernel
theorem dX11_goes_30 : decode cX11_goes 30 = .ok (.if_icmp .ge 225, 3) := by decide +kernel
theorem dX11_goes_33 : decode cX11_goes 33 = .ok (.aload_n 0, 1) := by decide +kernel
theorem dX11_goes_34 : decode cX11_goes 34 = .ok (.getfield 19, 3) := by decide +kernel
theorem dX11_goes_37 : decode cX11_goes 37 = .ok (.iload 4, 2) := by decide +kernel
theorem dX11_goes_39 : decode cX11_goes 39 = .ok (.iaload, 1) := by decide +kernel
theorem dX11_goes_40 : decode cX11_goes 40 = .ok (.istore 5, 2) := by decide +kernel
theorem dX11_goes_42 : decode cX11_goes 42 = .ok (.iload 4, 2) := by decide +kernel
theorem dX11_goes_44 : decode cX11_goes 44 = .ok (.iconst 1, 1) := by decide +kernel
theorem dX11_goes_45 : decode cX11_goes 45 = .ok (.iadd, 1) := by decide +kernel
theorem dX11_goes_46 : decode cX11_goes 46 = .ok (.istore 6, 2) := by decide +kernel
theorem dX11_goes_48 : decode cX11_goes 48 = .ok (.iload 5, 2) := by decide +kernel
theorem dX11_goes_50 : decode cX11_goes 50 = .ok (.invokestatic 168, 3) := by decide +kernel
theorem dX11_goes_53 : decode cX11_goes 53 = .ok (.ifCond .ne 10, 3) := by decide +kernel
theorem dX11_goes_56 : decode cX11_goes 56 = .ok (.iload 5, 2) := by decide +kernel
theorem dX11_goes_58 : decode cX11_goes 58 = .ok (.bipush 46, 2) := by decide +kernel
theorem dX11_goes_60 : decode cX11_goes 60 = .ok (.if_icmp .ne 13, 3) := by decide +kernel
theorem dX11_goes_63 : decode cX11_goes 63 = .ok (.aload_n 0, 1) := by decide +kernel
theorem dX11_goes_64 : decode cX11_goes 64 = .ok (.iload 4, 2) := by decide +kernel
theorem dX11_goes_66 : decode cX11_goes 66 = .ok (.iload_n 2, 1) := by decide +kernel
theorem dX11_goes_67 : decode cX11_goes 67 = .ok (.invokevirtual 239, 3) := by decide +kernel
theorem dX11_goes_70 : decode cX11_goes 70 = .ok (.goto 178, 3) := by decide +kernel
theorem dX11_goes_73 : decode cX11_goes 73 = .ok (.iload 5, 2) := by decide +kernel
theorem dX11_goes_75 : decode cX11_goes 75 = .ok (.bipush 40, 2) := by decide +kernel
theorem dX11_goes_77 : decode cX11_goes 77 = .ok (.if_icmp .eq 11, 3) := by decide +kernel
theorem dX11_goes_80 : decode cX11_goes 80 = .ok (.iload 5, 2) := by decide +kernel
theorem dX11_goes_82 : decode cX11_goes 82 = .ok (.invokestatic 171, 3) := by decide +kernel
theorem dX11_goes_85 : decode cX11_goes 85 = .ok (.ifCond .eq 25, 3) := by decide +kernel
theorem dX11_goes_88 : decode cX11_goes 88 = .ok (.aload_n 0, 1) := by decide +kernel
theorem dX11_goes_89 : decode cX11_goes 89 = .ok (.aload_n 0, 1) := by decide +kernel
theorem dX11_goes_90 : decode cX11_goes 90 = .ok (.getfield 68, 3) := by decide +kernel
theorem dX11_goes_93 : decode cX11_goes 93 = .ok (.iload_n 3, 1) := by decide +kernel
theorem dX11_goes_94 : decode cX11_goes 94 = .ok (.invokevirtual 243, 3) := by decide +kernel
theorem dX11_goes_97 : decode cX11_goes 97 = .ok (.aload_n 0, 1) := by decide +kernel
theorem dX11_goes_98 : decode cX11_goes 98 = .ok (.getfield 74, 3) := by decide +kernel
theorem dX11_goes_101 : decode cX11_goes 101 = .ok (.iload_n 3, 1) := by decide +kernel
theorem dX11_goes_102 : decode cX11_goes 102 = .ok (.iconst 0, 1) := by decide +kernel
theorem dX11_goes_103 : decode cX11_goes 103 = .ok (.iastore, 1) := by decide +kernel
theorem dX11_goes_104 : decode cX11_goes 104 = .ok (.iinc 3 1, 3) := by decide +kernel
theorem dX11_goes_107 : decode cX11_goes 107 = .ok (.goto 141, 3) := by decide +kernel
theorem dX11_goes_110 : decode cX11_goes 110 = .ok (.iload 5, 2) := by decide +kernel
theorem dX11_goes_112 : decode cX11_goes 112 = .ok (.bipush 124, 2) := by decide +kernel
theorem dX11_goes_114 : decode cX11_goes 114 = .ok (.if_icmp .ne 28, 3) := by decide +kernel
theorem dX11_goes_117 : decode cX11_goes 117 = .ok (.aload_n 0, 1) := by decide +kernel
theorem dX11_goes_118 : decode cX11_goes 118 = .ok (.aload_n 0, 1) := by decide +kernel
theorem dX11_goes_119 : decode cX11_goes 119 = .ok (.getfield 71, 3) := by decide +kernel
theorem dX11_goes_122 : decode cX11_goes 122 = .ok (.iload_n 3, 1) := by decide +kernel
theorem dX11_goes_123 : decode cX11_goes 123 = .ok (.iconst 1, 1) := by decide +kernel
theorem dX11_goes_124 : decode cX11_goes 124 = .ok (.isub, 1) := by decide +kernel
theorem dX11_goes_125 : decode cX11_goes 125 = .ok (.invokevirtual 243, 3) := by decide +kernel
theorem dX11_goes_128 : decode cX11_goes 128 = .ok (.aload_n 0, 1) := by decide +kernel
theorem dX11_goes_129 : decode cX11_goes 129 = .ok (.aload_n 0, 1) := by decide +kernel
theorem dX11_goes_130 : decode cX11_goes 130 = .ok (.getfield 68, 3) := by decide +kernel
theorem dX11_goes_133 : decode cX11_goes 133 = .ok (.iload_n 3, 1) := by decide +kernel
theorem dX11_goes_134 : decode cX11_goes 134 = .ok (.iconst 1, 1) := by decide +kernel
theorem dX11_goes_135 : decode cX11_goes 135 = .ok (.isub, 1) := by decide +kernel
theorem dX11_goes_136 : decode cX11_goes 136 = .ok (.invokevirtual 246, 3) := by decide +kernel
theorem dX11_goes_139 : decode cX11_goes 139 = .ok (.goto 109, 3) := by decide +kernel
theorem dX11_goes_142 : decode cX11_goes 142 = .ok (.iload 5, 2) := by decide +kernel
theorem dX11_goes_144 : decode cX11_goes 144 = .ok (.bipush 41, 2) := by decide +kernel
theorem dX11_goes_146 : decode cX11_goes 146 = .ok (.if_icmp .ne 27, 3) := by decide +kernel
theorem dX11_goes_149 : decode cX11_goes 149 = .ok (.iinc 3 (-1), 3) := by decide +kernel
theorem dX11_goes_152 : decode cX11_goes 152 = .ok (.aload_n 0, 1) := by decide +kernel
theorem dX11_goes_153 : decode cX11_goes 153 = .ok (.aload_n 0, 1) := by decide +kernel
theorem dX11_goes_154 : decode cX11_goes 154 = .ok (.getfield 71, 3) := by decide +kernel
theorem dX11_goes_157 : decode cX11_goes 157 = .ok (.iload_n 3, 1) := by decide +kernel
theorem dX11_goes_158 : decode cX11_goes 158 = .ok (.invokevirtual 249, 3) := by decide +kernel
theorem dX11_goes_161 : decode cX11_goes 161 = .ok (.aload_n 0, 1) := by decide +kernel
theorem dX11_goes_162 : decode cX11_goes 162 = .ok (.aload_n 0, 1) := by decide +kernel
theorem dX11_goes_163 : decode cX11_goes 163 = .ok (.getfield 71, 3) := by decide +kernel
theorem dX11_goes_166 : decode cX11_goes 166 = .ok (.iload_n 3, 1) := by decide +kernel
theorem dX11_goes_167 : decode cX11_goes 167 = .ok (.invokevirtual 246, 3) := by decide +kernel
theorem dX11_goes_170 : decode cX11_goes 170 = .ok (.goto 78, 3) := by decide +kernel
theorem dX11_goes_173 : decode cX11_goes 173 = .ok (.aload_n 0, 1) := by decide +kernel
theorem dX11_goes_174 : decode cX11_goes 174 = .ok (.aload_n 0, 1) := by decide +kernel
theorem dX11_goes_175 : decode cX11_goes 175 = .ok (.getfield 68, 3) := by decide +kernel
theorem dX11_goes_178 : decode cX11_goes 178 = .ok (.iload_n 3, 1) := by decide +kernel
theorem dX11_goes_179 : decode cX11_goes 179 = .ok (.iconst 1, 1) := by decide +kernel
theorem dX11_goes_180 : decode cX11_goes 180 = .ok (.isub, 1) := by decide +kernel
theorem dX11_goes_181 : decode cX11_goes 181 = .ok (.invokevirtual 249, 3) := by decide +kernel
theorem dX11_goes_184 : decode cX11_goes 184 = .ok (.aload_n 0, 1) := by decide +kernel
theorem dX11_goes_185 : decode cX11_goes 185 = .ok (.getfield 74, 3) := by decide +kernel
theorem dX11_goes_188 : decode cX11_goes 188 = .ok (.iload_n 3, 1) := by decide +kernel
theorem dX11_goes_189 : decode cX11_goes 189 = .ok (.iconst 1, 1) := by decide +kernel
theorem dX11_goes_190 : decode cX11_goes 190 = .ok (.isub, 1) := by decide +kernel
theorem dX11_goes_191 : decode cX11_goes 191 = .ok (.dup2, 1) := by decide +kernel
theorem dX11_goes_192 : decode cX11_goes 192 = .ok (.iaload, 1) := by decide +kernel
theorem dX11_goes_193 : decode cX11_goes 193 = .ok (.iconst 1, 1) := by decide +kernel
theorem dX11_goes_194 : decode cX11_goes 194 = .ok (.iadd, 1) := by decide +kernel
theorem dX11_goes_195 : decode cX11_goes 195 = .ok (.iastore, 1) := by decide +kernel
theorem dX11_goes_196 : decode cX11_goes 196 = .ok (.aload_n 0, 1) := by decide +kernel
theorem dX11_goes_197 : decode cX11_goes 197 = .ok (.getfield 74, 3) := by decide +kernel
theorem dX11_goes_200 : decode cX11_goes 200 = .ok (.iload_n 3, 1) := by decide +kernel
theorem dX11_goes_201 : decode cX11_goes 201 = .ok (.iconst 1, 1) := by decide +kernel
theorem dX11_goes_202 : decode cX11_goes 202 = .ok (.isub, 1) := by decide +kernel
theorem dX11_goes_203 : decode cX11_goes 203 = .ok (.iaload, 1) := by decide +kernel
theorem dX11_goes_204 : decode cX11_goes 204 = .ok (.aload_n 0, 1) := by decide +kernel
theorem dX11_goes_205 : decode cX11_goes 205 = .ok (.getfield 19, 3) := by decide +kernel
theorem dX11_goes_208 : decode cX11_goes 208 = .ok (.aload_n 0, 1) := by decide +kernel
theorem dX11_goes_209 : decode cX11_goes 209 = .ok (.getfield 22, 3) := by decide +kernel
theorem dX11_goes_212 : decode cX11_goes 212 = .ok (.iload 4, 2) := by decide +kernel
theorem dX11_goes_214 : decode cX11_goes 214 = .ok (.iaload, 1) := by decide +kernel
theorem dX11_goes_215 : decode cX11_goes 215 = .ok (.iaload, 1) := by decide +kernel
theorem dX11_goes_216 : decode cX11_goes 216 = .ok (.bipush 48, 2) := by decide +kernel
theorem dX11_goes_218 : decode cX11_goes 218 = .ok (.isub, 1) := by decide +kernel
theorem dX11_goes_219 : decode cX11_goes 219 = .ok (.if_icmp .ge 17, 3) := by decide +kernel
theorem dX11_goes_222 : decode cX11_goes 222 = .ok (.aload_n 0, 1) := by decide +kernel
theorem dX11_goes_223 : decode cX11_goes 223 = .ok (.getfield 22, 3) := by decide +kernel
theorem dX11_goes_226 : decode cX11_goes 226 = .ok (.iload 4, 2) := by decide +kernel
theorem dX11_goes_228 : decode cX11_goes 228 = .ok (.iaload, 1) := by decide +kernel
theorem dX11_goes_229 : decode cX11_goes 229 = .ok (.iconst 1, 1) := by decide +kernel
theorem dX11_goes_230 : decode cX11_goes 230 = .ok (.iadd, 1) := by decide +kernel
theorem dX11_goes_231 : decode cX11_goes 231 = .ok (.istore 6, 2) := by decide +kernel
theorem dX11_goes_233 : decode cX11_goes 233 = .ok (.goto 15, 3) := by decide +kernel
theorem dX11_goes_236 : decode cX11_goes 236 = .ok (.iinc 3 (-1), 3) := by decide +kernel
theorem dX11_goes_239 : decode cX11_goes 239 = .ok (.aload_n 0, 1) := by decide +kernel
theorem dX11_goes_240 : decode cX11_goes 240 = .ok (.aload_n 0, 1) := by decide +kernel
theorem dX11_goes_241 : decode cX11_goes 241 = .ok (.getfield 68, 3) := by decide +kernel
theorem dX11_goes_244 : decode cX11_goes 244 = .ok (.iload_n 3, 1) := by decide +kernel
theorem dX11_goes_245 : decode cX11_goes 245 = .ok (.invokevirtual 246, 3) := by decide +kernel
theorem dX11_goes_248 : decode cX11_goes 248 = .ok (.iload 6, 2) := by decide +kernel
theorem dX11_goes_250 : decode cX11_goes 250 = .ok (.istore 4, 2) := by decide +kernel
theorem dX11_goes_252 : decode cX11_goes 252 = .ok (.goto (-228), 3) := by decide +kernel
theorem dX11_goes_255 : decode cX11_goes 255 = .ok (.return_, 1) := by decide +kernel
theorem dX11_mostTaken_0 : decode cX11_mostTaken 0 = .ok (.iconst 0, 1) := by decide +kernel
theorem dX11_mostTaken_1 : decode cX11_mostTaken 1 = .ok (.istore_n 1, 1) := by decide +kernel
theorem dX11_mostTaken_2 : decode cX11_mostTaken 2 = .ok (.iconst 0, 1) := by decide +kernel
theorem dX11_mostTaken_3 : decode cX11_mostTaken 3 = .ok (.istore_n 2, 1) := by decide +kernel
theorem dX11_mostTaken_4 : decode cX11_mostTaken 4 = .ok (.iload_n 2, 1) := by decide +kernel
theorem dX11_mostTaken_5 : decode cX11_mostTaken 5 = .ok (.sipush 343, 3) := by decide +kernel
theorem dX11_mostTaken_8 : decode cX11_mostTaken 8 = .ok (.if_icmp .ge 30, 3) := by decide +kernel
theorem dX11_mostTaken_11 : decode cX11_mostTaken 11 = .ok (.aload_n 0, 1) := by decide +kernel
theorem dX11_mostTaken_12 : decode cX11_mostTaken 12 = .ok (.getfield 62, 3) := by decide +kernel
theorem dX11_mostTaken_15 : decode cX11_mostTaken 15 = .ok (.iload_n 2, 1) := by decide +kernel
theorem dX11_mostTaken_16 : decode cX11_mostTaken 16 = .ok (.iaload, 1) := by decide +kernel
theorem dX11_mostTaken_17 : decode cX11_mostTaken 17 = .ok (.iload_n 1, 1) := by decide +kernel
theorem dX11_mostTaken_18 : decode cX11_mostTaken 18 = .ok (.if_icmp .le 12, 3) := by decide +kernel
theorem dX11_mostTaken_21 : decode cX11_mostTaken 21 = .ok (.aload_n 0, 1) := by decide +kernel
theorem dX11_mostTaken_22 : decode cX11_mostTaken 22 = .ok (.getfield 62, 3) := by decide +kernel
theorem dX11_mostTaken_25 : decode cX11_mostTaken 25 = .ok (.iload_n 2, 1) := by decide +kernel
theorem dX11_mostTaken_26 : decode cX11_mostTaken 26 = .ok (.iaload, 1) := by decide +kernel
theorem dX11_mostTaken_27 : decode cX11_mostTaken 27 = .ok (.goto 4, 3) := by decide +kernel
theorem dX11_mostTaken_30 : decode cX11_mostTaken 30 = .ok (.iload_n 1, 1) := by decide +kernel
theorem dX11_mostTaken_31 : decode cX11_mostTaken 31 = .ok (.istore_n 1, 1) := by decide +kernel
theorem dX11_mostTaken_32 : decode cX11_mostTaken 32 = .ok (.iinc 2 1, 3) := by decide +kernel
theorem dX11_mostTaken_35 : decode cX11_mostTaken 35 = .ok (.goto (-31), 3) := by decide +kernel
theorem dX11_mostTaken_38 : decode cX11_mostTaken 38 = .ok (.iload_n 1, 1) := by decide +kernel
theorem dX11_mostTaken_39 : decode cX11_mostTaken 39 = .ok (.ireturn, 1) := by decide +kernel
theorem dX11_worst_0 : decode cX11_worst 0 = .ok (.aload_n 0, 1) := by decide +kernel
theorem dX11_worst_1 : decode cX11_worst 1 = .ok (.aload_n 0, 1) := by decide +kernel
theorem dX11_worst_2 : decode cX11_worst 2 = .ok (.invokevirtual 127, 3) := by decide +kernel
theorem dX11_worst_5 : decode cX11_worst 5 = .ok (.aload_n 0, 1) := by decide +kernel
theorem dX11_worst_6 : decode cX11_worst 6 = .ok (.getfield 7, 3) := by decide +kernel
theorem dX11_worst_9 : decode cX11_worst 9 = .ok (.iconst 4, 1) := by decide +kernel
theorem dX11_worst_10 : decode cX11_worst 10 = .ok (.iaload, 1) := by decide +kernel
theorem dX11_worst_11 : decode cX11_worst 11 = .ok (.invokevirtual 252, 3) := by decide +kernel
theorem dX11_worst_14 : decode cX11_worst 14 = .ok (.aload_n 0, 1) := by decide +kernel
theorem dX11_worst_15 : decode cX11_worst 15 = .ok (.invokevirtual 255, 3) := by decide +kernel
theorem dX11_worst_18 : decode cX11_worst 18 = .ok (.ireturn, 1) := by decide +kernel
theorem dX11_best_0 : decode cX11_best 0 = .ok (.aload_n 0, 1) := by decide +kernel
theorem dX11_best_1 : decode cX11_best 1 = .ok (.aload_n 0, 1) := by decide +kernel
theorem dX11_best_2 : decode cX11_best 2 = .ok (.invokevirtual 127, 3) := by decide +kernel
theorem dX11_best_5 : decode cX11_best 5 = .ok (.aload_n 0, 1) := by decide +kernel
theorem dX11_best_6 : decode cX11_best 6 = .ok (.getfield 7, 3) := by decide +kernel
theorem dX11_best_9 : decode cX11_best 9 = .ok (.iconst 4, 1) := by decide +kernel
theorem dX11_best_10 : decode cX11_best 10 = .ok (.iaload, 1) := by decide +kernel
theorem dX11_best_11 : decode cX11_best 11 = .ok (.invokevirtual 252, 3) := by decide +kernel
theorem dX11_best_14 : decode cX11_best 14 = .ok (.iconst (-1), 1) := by decide +kernel
theorem dX11_best_15 : decode cX11_best 15 = .ok (.istore_n 1, 1) := by decide +kernel
theorem dX11_best_16 : decode cX11_best 16 = .ok (.iconst 0, 1) := by decide +kernel
theorem dX11_best_17 : decode cX11_best 17 = .ok (.istore_n 2, 1) := by decide +kernel
theorem dX11_best_18 : decode cX11_best 18 = .ok (.iload_n 2, 1) := by decide +kernel
theorem dX11_best_19 : decode cX11_best 19 = .ok (.sipush 343, 3) := by decide +kernel
theorem dX11_best_22 : decode cX11_best 22 = .ok (.if_icmp .ge 62, 3) := by decide +kernel
theorem dX11_best_25 : decode cX11_best 25 = .ok (.aload_n 0, 1) := by decide +kernel
theorem dX11_best_26 : decode cX11_best 26 = .ok (.getfield 62, 3) := by decide +kernel
theorem dX11_best_29 : decode cX11_best 29 = .ok (.iload_n 2, 1) := by decide +kernel
theorem dX11_best_30 : decode cX11_best 30 = .ok (.iaload, 1) := by decide +kernel
theorem dX11_best_31 : decode cX11_best 31 = .ok (.ifCond .lt 26, 3) := by decide +kernel
theorem dX11_best_34 : decode cX11_best 34 = .ok (.iload_n 1, 1) := by decide +kernel
theorem dX11_best_35 : decode cX11_best 35 = .ok (.iconst (-1), 1) := by decide +kernel
theorem dX11_best_36 : decode cX11_best 36 = .ok (.if_icmp .eq 17, 3) := by decide +kernel
theorem dX11_best_39 : decode cX11_best 39 = .ok (.aload_n 0, 1) := by decide +kernel
theorem dX11_best_40 : decode cX11_best 40 = .ok (.getfield 62, 3) := by decide +kernel
theorem dX11_best_43 : decode cX11_best 43 = .ok (.sipush 343, 3) := by decide +kernel
theorem dX11_best_46 : decode cX11_best 46 = .ok (.iload_n 2, 1) := by decide +kernel
theorem dX11_best_47 : decode cX11_best 47 = .ok (.iadd, 1) := by decide +kernel
theorem dX11_best_48 : decode cX11_best 48 = .ok (.iaload, 1) := by decide +kernel
theorem dX11_best_49 : decode cX11_best 49 = .ok (.iload_n 1, 1) := by decide +kernel
theorem dX11_best_50 : decode cX11_best 50 = .ok (.if_icmp .ge 7, 3) := by decide +kernel
theorem dX11_best_53 : decode cX11_best 53 = .ok (.iconst 1, 1) := by decide +kernel
theorem dX11_best_54 : decode cX11_best 54 = .ok (.goto 4, 3) := by decide +kernel
theorem dX11_best_57 : decode cX11_best 57 = .ok (.iconst 0, 1) := by decide +kernel
theorem dX11_best_58 : decode cX11_best 58 = .ok (.istore_n 3, 1) := by decide +kernel
theorem dX11_best_59 : decode cX11_best 59 = .ok (.iload_n 3, 1) := by decide +kernel
theorem dX11_best_60 : decode cX11_best 60 = .ok (.ifCond .eq 16, 3) := by decide +kernel
theorem dX11_best_63 : decode cX11_best 63 = .ok (.aload_n 0, 1) := by decide +kernel
theorem dX11_best_64 : decode cX11_best 64 = .ok (.getfield 62, 3) := by decide +kernel
theorem dX11_best_67 : decode cX11_best 67 = .ok (.sipush 343, 3) := by decide +kernel
theorem dX11_best_70 : decode cX11_best 70 = .ok (.iload_n 2, 1) := by decide +kernel
theorem dX11_best_71 : decode cX11_best 71 = .ok (.iadd, 1) := by decide +kernel
theorem dX11_best_72 : decode cX11_best 72 = .ok (.iaload, 1) := by decide +kernel
theorem dX11_best_73 : decode cX11_best 73 = .ok (.goto 4, 3) := by decide +kernel
theorem dX11_best_76 : decode cX11_best 76 = .ok (.iload_n 1, 1) := by decide +kernel
theorem dX11_best_77 : decode cX11_best 77 = .ok (.istore_n 1, 1) := by decide +kernel
theorem dX11_best_78 : decode cX11_best 78 = .ok (.iinc 2 1, 3) := by decide +kernel
theorem dX11_best_81 : decode cX11_best 81 = .ok (.goto (-63), 3) := by decide +kernel
theorem dX11_best_84 : decode cX11_best 84 = .ok (.iload_n 1, 1) := by decide +kernel
theorem dX11_best_85 : decode cX11_best 85 = .ok (.ireturn, 1) := by decide +kernel
theorem dX11_ends_0 : decode cX11_ends 0 = .ok (.aload_n 0, 1) := by decide +kernel
theorem dX11_ends_1 : decode cX11_ends 1 = .ok (.aload_n 0, 1) := by decide +kernel
theorem dX11_ends_2 : decode cX11_ends 2 = .ok (.invokevirtual 127, 3) := by decide +kernel
theorem dX11_ends_5 : decode cX11_ends 5 = .ok (.aload_n 0, 1) := by decide +kernel
theorem dX11_ends_6 : decode cX11_ends 6 = .ok (.getfield 7, 3) := by decide +kernel
theorem dX11_ends_9 : decode cX11_ends 9 = .ok (.iconst 4, 1) := by decide +kernel
theorem dX11_ends_10 : decode cX11_ends 10 = .ok (.iaload, 1) := by decide +kernel
theorem dX11_ends_11 : decode cX11_ends 11 = .ok (.invokevirtual 252, 3) := by decide +kernel
theorem dX11_ends_14 : decode cX11_ends 14 = .ok (.iconst 0, 1) := by decide +kernel
theorem dX11_ends_15 : decode cX11_ends 15 = .ok (.istore_n 1, 1) := by decide +kernel
theorem dX11_ends_16 : decode cX11_ends 16 = .ok (.iconst 0, 1) := by decide +kernel
theorem dX11_ends_17 : decode cX11_ends 17 = .ok (.istore_n 2, 1) := by decide +kernel
theorem dX11_ends_18 : decode cX11_ends 18 = .ok (.iload_n 2, 1) := by decide +kernel
theorem dX11_ends_19 : decode cX11_ends 19 = .ok (.sipush 343, 3) := by decide +kernel
theorem dX11_ends_22 : decode cX11_ends 22 = .ok (.if_icmp .ge 26, 3) := by decide +kernel
theorem dX11_ends_25 : decode cX11_ends 25 = .ok (.iload_n 1, 1) := by decide +kernel
theorem dX11_ends_26 : decode cX11_ends 26 = .ok (.aload_n 0, 1) := by decide +kernel
theorem dX11_ends_27 : decode cX11_ends 27 = .ok (.getfield 62, 3) := by decide +kernel
theorem dX11_ends_30 : decode cX11_ends 30 = .ok (.iload_n 2, 1) := by decide +kernel
theorem dX11_ends_31 : decode cX11_ends 31 = .ok (.iaload, 1) := by decide +kernel
theorem dX11_ends_32 : decode cX11_ends 32 = .ok (.ifCond .lt 7, 3) := by decide +kernel
theorem dX11_ends_35 : decode cX11_ends 35 = .ok (.iconst 1, 1) := by decide +kernel
theorem dX11_ends_36 : decode cX11_ends 36 = .ok (.goto 4, 3) := by decide +kernel
theorem dX11_ends_39 : decode cX11_ends 39 = .ok (.iconst 0, 1) := by decide +kernel
theorem dX11_ends_40 : decode cX11_ends 40 = .ok (.iadd, 1) := by decide +kernel
theorem dX11_ends_41 : decode cX11_ends 41 = .ok (.istore_n 1, 1) := by decide +kernel
theorem dX11_ends_42 : decode cX11_ends 42 = .ok (.iinc 2 1, 3) := by decide +kernel
theorem dX11_ends_45 : decode cX11_ends 45 = .ok (.goto (-27), 3) := by decide +kernel
theorem dX11_ends_48 : decode cX11_ends 48 = .ok (.iload_n 1, 1) := by decide +kernel
theorem dX11_ends_49 : decode cX11_ends 49 = .ok (.ireturn, 1) := by decide +kernel
theorem dX11_capped_0 : decode cX11_capped 0 = .ok (.lload_n 0, 1) := by decide +kernel
theorem dX11_capped_1 : decode cX11_capped 1 = .ok (.ldc2_w 258, 3) := by decide +kernel
theorem dX11_capped_4 : decode cX11_capped 4 = .ok (.lcmp, 1) := by decide +kernel
theorem dX11_capped_5 : decode cX11_capped 5 = .ok (.ifCond .le 9, 3) := by decide +kernel
theorem dX11_capped_8 : decode cX11_capped 8 = .ok (.ldc2_w 258, 3) := by decide +kernel
theorem dX11_capped_11 : decode cX11_capped 11 = .ok (.goto 4, 3) := by decide +kernel
theorem dX11_capped_14 : decode cX11_capped 14 = .ok (.lload_n 0, 1) := by decide +kernel
theorem dX11_capped_15 : decode cX11_capped 15 = .ok (.lreturn, 1) := by decide +kernel
theorem dX11_many_0 : decode cX11_many 0 = .ok (.iconst 0, 1) := by decide +kernel
theorem dX11_many_1 : decode cX11_many 1 = .ok (.istore_n 1, 1) := by decide +kernel
theorem dX11_many_2 : decode cX11_many 2 = .ok (.aload_n 0, 1) := by decide +kernel
theorem dX11_many_3 : decode cX11_many 3 = .ok (.getfield 77, 3) := by decide +kernel
theorem dX11_many_6 : decode cX11_many 6 = .ok (.iconst 0, 1) := by decide +kernel
theorem dX11_many_7 : decode cX11_many 7 = .ok (.lconst 1, 1) := by decide +kernel
theorem dX11_many_8 : decode cX11_many 8 = .ok (.lastore, 1) := by decide +kernel
theorem dX11_many_9 : decode cX11_many 9 = .ok (.iconst 0, 1) := by decide +kernel
theorem dX11_many_10 : decode cX11_many 10 = .ok (.istore_n 2, 1) := by decide +kernel
theorem dX11_many_11 : decode cX11_many 11 = .ok (.iload_n 2, 1) := by decide +kernel
theorem dX11_many_12 : decode cX11_many 12 = .ok (.aload_n 0, 1) := by decide +kernel
theorem dX11_many_13 : decode cX11_many 13 = .ok (.getfield 177, 3) := by decide +kernel
theorem dX11_many_16 : decode cX11_many 16 = .ok (.if_icmp .ge 153, 3) := by decide +kernel
theorem dX11_many_19 : decode cX11_many 19 = .ok (.aload_n 0, 1) := by decide +kernel
theorem dX11_many_20 : decode cX11_many 20 = .ok (.getfield 19, 3) := by decide +kernel
theorem dX11_many_23 : decode cX11_many 23 = .ok (.iload_n 2, 1) := by decide +kernel
theorem dX11_many_24 : decode cX11_many 24 = .ok (.iaload, 1) := by decide +kernel
theorem dX11_many_25 : decode cX11_many 25 = .ok (.istore_n 3, 1) := by decide +kernel
theorem dX11_many_26 : decode cX11_many 26 = .ok (.iload_n 3, 1) := by decide +kernel
theorem dX11_many_27 : decode cX11_many 27 = .ok (.bipush 40, 2) := by decide +kernel
theorem dX11_many_29 : decode cX11_many 29 = .ok (.if_icmp .eq 10, 3) := by decide +kernel
theorem dX11_many_32 : decode cX11_many 32 = .ok (.iload_n 3, 1) := by decide +kernel
theorem dX11_many_33 : decode cX11_many 33 = .ok (.invokestatic 171, 3) := by decide +kernel
theorem dX11_many_36 : decode cX11_many 36 = .ok (.ifCond .eq 16, 3) := by decide +kernel
theorem dX11_many_39 : decode cX11_many 39 = .ok (.iinc 1 1, 3) := by decide +kernel
theorem dX11_many_42 : decode cX11_many 42 = .ok (.aload_n 0, 1) := by decide +kernel
theorem dX11_many_43 : decode cX11_many 43 = .ok (.getfield 77, 3) := by decide +kernel
theorem dX11_many_46 : decode cX11_many 46 = .ok (.iload_n 1, 1) := by decide +kernel
theorem dX11_many_47 : decode cX11_many 47 = .ok (.lconst 1, 1) := by decide +kernel
theorem dX11_many_48 : decode cX11_many 48 = .ok (.lastore, 1) := by decide +kernel
theorem dX11_many_49 : decode cX11_many 49 = .ok (.goto 114, 3) := by decide +kernel
theorem dX11_many_52 : decode cX11_many 52 = .ok (.iload_n 3, 1) := by decide +kernel
theorem dX11_many_53 : decode cX11_many 53 = .ok (.bipush 124, 2) := by decide +kernel
theorem dX11_many_55 : decode cX11_many 55 = .ok (.if_icmp .ne 25, 3) := by decide +kernel
theorem dX11_many_58 : decode cX11_many 58 = .ok (.aload_n 0, 1) := by decide +kernel
theorem dX11_many_59 : decode cX11_many 59 = .ok (.getfield 81, 3) := by decide +kernel
theorem dX11_many_62 : decode cX11_many 62 = .ok (.iload_n 1, 1) := by decide +kernel
theorem dX11_many_63 : decode cX11_many 63 = .ok (.aload_n 0, 1) := by decide +kernel
theorem dX11_many_64 : decode cX11_many 64 = .ok (.getfield 77, 3) := by decide +kernel
theorem dX11_many_67 : decode cX11_many 67 = .ok (.iload_n 1, 1) := by decide +kernel
theorem dX11_many_68 : decode cX11_many 68 = .ok (.laload, 1) := by decide +kernel
theorem dX11_many_69 : decode cX11_many 69 = .ok (.lastore, 1) := by decide +kernel
theorem dX11_many_70 : decode cX11_many 70 = .ok (.aload_n 0, 1) := by decide +kernel
theorem dX11_many_71 : decode cX11_many 71 = .ok (.getfield 77, 3) := by decide +kernel
theorem dX11_many_74 : decode cX11_many 74 = .ok (.iload_n 1, 1) := by decide +kernel
theorem dX11_many_75 : decode cX11_many 75 = .ok (.lconst 1, 1) := by decide +kernel
theorem dX11_many_76 : decode cX11_many 76 = .ok (.lastore, 1) := by decide +kernel
theorem dX11_many_77 : decode cX11_many 77 = .ok (.goto 86, 3) := by decide +kernel
theorem dX11_many_80 : decode cX11_many 80 = .ok (.iload_n 3, 1) := by decide +kernel
theorem dX11_many_81 : decode cX11_many 81 = .ok (.bipush 41, 2) := by decide +kernel
theorem dX11_many_83 : decode cX11_many 83 = .ok (.if_icmp .eq 9, 3) := by decide +kernel
theorem dX11_many_86 : decode cX11_many 86 = .ok (.iload_n 3, 1) := by decide +kernel
theorem dX11_many_87 : decode cX11_many 87 = .ok (.bipush 93, 2) := by decide +kernel
theorem dX11_many_89 : decode cX11_many 89 = .ok (.if_icmp .ne 74, 3) := by decide +kernel
theorem dX11_many_92 : decode cX11_many 92 = .ok (.iload_n 3, 1) := by decide +kernel
theorem dX11_many_93 : decode cX11_many 93 = .ok (.bipush 41, 2) := by decide +kernel
theorem dX11_many_95 : decode cX11_many 95 = .ok (.if_icmp .ne 19, 3) := by decide +kernel
theorem dX11_many_98 : decode cX11_many 98 = .ok (.aload_n 0, 1) := by decide +kernel
theorem dX11_many_99 : decode cX11_many 99 = .ok (.getfield 81, 3) := by decide +kernel
theorem dX11_many_102 : decode cX11_many 102 = .ok (.iload_n 1, 1) := by decide +kernel
theorem dX11_many_103 : decode cX11_many 103 = .ok (.laload, 1) := by decide +kernel
theorem dX11_many_104 : decode cX11_many 104 = .ok (.aload_n 0, 1) := by decide +kernel
theorem dX11_many_105 : decode cX11_many 105 = .ok (.getfield 77, 3) := by decide +kernel
theorem dX11_many_108 : decode cX11_many 108 = .ok (.iload_n 1, 1) := by decide +kernel
theorem dX11_many_109 : decode cX11_many 109 = .ok (.laload, 1) := by decide +kernel
theorem dX11_many_110 : decode cX11_many 110 = .ok (.ladd, 1) := by decide +kernel
theorem dX11_many_111 : decode cX11_many 111 = .ok (.goto 26, 3) := by decide +kernel
theorem dX11_many_114 : decode cX11_many 114 = .ok (.aload_n 0, 1) := by decide +kernel
theorem dX11_many_115 : decode cX11_many 115 = .ok (.getfield 77, 3) := by decide +kernel
theorem dX11_many_118 : decode cX11_many 118 = .ok (.iload_n 1, 1) := by decide +kernel
theorem dX11_many_119 : decode cX11_many 119 = .ok (.laload, 1) := by decide +kernel
theorem dX11_many_120 : decode cX11_many 120 = .ok (.aload_n 0, 1) := by decide +kernel
theorem dX11_many_121 : decode cX11_many 121 = .ok (.getfield 19, 3) := by decide +kernel
theorem dX11_many_124 : decode cX11_many 124 = .ok (.aload_n 0, 1) := by decide +kernel
theorem dX11_many_125 : decode cX11_many 125 = .ok (.getfield 22, 3) := by decide +kernel
theorem dX11_many_128 : decode cX11_many 128 = .ok (.iload_n 2, 1) := by decide +kernel
theorem dX11_many_129 : decode cX11_many 129 = .ok (.iaload, 1) := by decide +kernel
theorem dX11_many_130 : decode cX11_many 130 = .ok (.iaload, 1) := by decide +kernel
theorem dX11_many_131 : decode cX11_many 131 = .ok (.bipush 48, 2) := by decide +kernel
theorem dX11_many_133 : decode cX11_many 133 = .ok (.isub, 1) := by decide +kernel
theorem dX11_many_134 : decode cX11_many 134 = .ok (.invokestatic 260, 3) := by decide +kernel
theorem dX11_many_137 : decode cX11_many 137 = .ok (.lstore 4, 2) := by decide +kernel
theorem dX11_many_139 : decode cX11_many 139 = .ok (.iinc 1 (-1), 3) := by decide +kernel
theorem dX11_many_142 : decode cX11_many 142 = .ok (.aload_n 0, 1) := by decide +kernel
theorem dX11_many_143 : decode cX11_many 143 = .ok (.getfield 77, 3) := by decide +kernel
theorem dX11_many_146 : decode cX11_many 146 = .ok (.iload_n 1, 1) := by decide +kernel
theorem dX11_many_147 : decode cX11_many 147 = .ok (.aload_n 0, 1) := by decide +kernel
theorem dX11_many_148 : decode cX11_many 148 = .ok (.getfield 77, 3) := by decide +kernel
theorem dX11_many_151 : decode cX11_many 151 = .ok (.iload_n 1, 1) := by decide +kernel
theorem dX11_many_152 : decode cX11_many 152 = .ok (.laload, 1) := by decide +kernel
theorem dX11_many_153 : decode cX11_many 153 = .ok (.lload 4, 2) := by decide +kernel
theorem dX11_many_155 : decode cX11_many 155 = .ok (.invokestatic 264, 3) := by decide +kernel
theorem dX11_many_158 : decode cX11_many 158 = .ok (.lmul, 1) := by decide +kernel
theorem dX11_many_159 : decode cX11_many 159 = .ok (.invokestatic 264, 3) := by decide +kernel
theorem dX11_many_162 : decode cX11_many 162 = .ok (.lastore, 1) := by decide +kernel
theorem dX11_many_163 : decode cX11_many 163 = .ok (.iinc 2 1, 3) := by decide +kernel
theorem dX11_many_166 : decode cX11_many 166 = .ok (.goto (-155), 3) := by decide +kernel
theorem dX11_many_169 : decode cX11_many 169 = .ok (.aload_n 0, 1) := by decide +kernel
theorem dX11_many_170 : decode cX11_many 170 = .ok (.getfield 77, 3) := by decide +kernel
theorem dX11_many_173 : decode cX11_many 173 = .ok (.iconst 0, 1) := by decide +kernel
theorem dX11_many_174 : decode cX11_many 174 = .ok (.laload, 1) := by decide +kernel
theorem dX11_many_175 : decode cX11_many 175 = .ok (.l2i, 1) := by decide +kernel
theorem dX11_many_176 : decode cX11_many 176 = .ok (.ireturn, 1) := by decide +kernel
theorem dX11_powers_0 : decode cX11_powers 0 = .ok (.lconst 1, 1) := by decide +kernel
theorem dX11_powers_1 : decode cX11_powers 1 = .ok (.lstore_n 3, 1) := by decide +kernel
theorem dX11_powers_2 : decode cX11_powers 2 = .ok (.lconst 1, 1) := by decide +kernel
theorem dX11_powers_3 : decode cX11_powers 3 = .ok (.lstore 5, 2) := by decide +kernel
theorem dX11_powers_5 : decode cX11_powers 5 = .ok (.iconst 0, 1) := by decide +kernel
theorem dX11_powers_6 : decode cX11_powers 6 = .ok (.istore 7, 2) := by decide +kernel
theorem dX11_powers_8 : decode cX11_powers 8 = .ok (.iload 7, 2) := by decide +kernel
theorem dX11_powers_10 : decode cX11_powers 10 = .ok (.iload_n 2, 1) := by decide +kernel
theorem dX11_powers_11 : decode cX11_powers 11 = .ok (.if_icmp .ge 26, 3) := by decide +kernel
theorem dX11_powers_14 : decode cX11_powers 14 = .ok (.lload 5, 2) := by decide +kernel
theorem dX11_powers_16 : decode cX11_powers 16 = .ok (.lload_n 0, 1) := by decide +kernel
theorem dX11_powers_17 : decode cX11_powers 17 = .ok (.lmul, 1) := by decide +kernel
theorem dX11_powers_18 : decode cX11_powers 18 = .ok (.invokestatic 264, 3) := by decide +kernel
theorem dX11_powers_21 : decode cX11_powers 21 = .ok (.lstore 5, 2) := by decide +kernel
theorem dX11_powers_23 : decode cX11_powers 23 = .ok (.lload_n 3, 1) := by decide +kernel
theorem dX11_powers_24 : decode cX11_powers 24 = .ok (.lload 5, 2) := by decide +kernel
theorem dX11_powers_26 : decode cX11_powers 26 = .ok (.ladd, 1) := by decide +kernel
theorem dX11_powers_27 : decode cX11_powers 27 = .ok (.invokestatic 264, 3) := by decide +kernel
theorem dX11_powers_30 : decode cX11_powers 30 = .ok (.lstore_n 3, 1) := by decide +kernel
theorem dX11_powers_31 : decode cX11_powers 31 = .ok (.iinc 7 1, 3) := by decide +kernel
theorem dX11_powers_34 : decode cX11_powers 34 = .ok (.goto (-26), 3) := by decide +kernel
theorem dX11_powers_37 : decode cX11_powers 37 = .ok (.lload_n 3, 1) := by decide +kernel
theorem dX11_powers_38 : decode cX11_powers 38 = .ok (.lreturn, 1) := by decide +kernel
theorem dX11_worstWith_0 : decode cX11_worstWith 0 = .ok (.aload_n 0, 1) := by decide +kernel
theorem dX11_worstWith_1 : decode cX11_worstWith 1 = .ok (.iconst 0, 1) := by decide +kernel
theorem dX11_worstWith_2 : decode cX11_worstWith 2 = .ok (.iload_n 1, 1) := by decide +kernel
theorem dX11_worstWith_3 : decode cX11_worstWith 3 = .ok (.invokevirtual 252, 3) := by decide +kernel
theorem dX11_worstWith_6 : decode cX11_worstWith 6 = .ok (.aload_n 0, 1) := by decide +kernel
theorem dX11_worstWith_7 : decode cX11_worstWith 7 = .ok (.invokevirtual 255, 3) := by decide +kernel
theorem dX11_worstWith_10 : decode cX11_worstWith 10 = .ok (.ireturn, 1) := by decide +kernel
theorem dX11_worstBy_0 : decode cX11_worstBy 0 = .ok (.iload_n 1, 1) := by decide +kernel
theorem dX11_worstBy_1 : decode cX11_worstBy 1 = .ok (.i2l, 1) := by decide +kernel
theorem dX11_worstBy_2 : decode cX11_worstBy 2 = .ok (.lconst 0, 1) := by decide +kernel
theorem dX11_worstBy_3 : decode cX11_worstBy 3 = .ok (.lconst 1, 1) := by decide +kernel
theorem dX11_worstBy_4 : decode cX11_worstBy 4 = .ok (.invokestatic 89, 3) := by decide +kernel
theorem dX11_worstBy_7 : decode cX11_worstBy 7 = .ok (.ifCond .eq 19, 3) := by decide +kernel
theorem dX11_worstBy_10 : decode cX11_worstBy 10 = .ok (.iload_n 1, 1) := by decide +kernel
theorem dX11_worstBy_11 : decode cX11_worstBy 11 = .ok (.ifCond .ne 20, 3) := by decide +kernel
theorem dX11_worstBy_14 : decode cX11_worstBy 14 = .ok (.iload_n 2, 1) := by decide +kernel
theorem dX11_worstBy_15 : decode cX11_worstBy 15 = .ok (.i2l, 1) := by decide +kernel
theorem dX11_worstBy_16 : decode cX11_worstBy 16 = .ok (.lconst 1, 1) := by decide +kernel
theorem dX11_worstBy_17 : decode cX11_worstBy 17 = .ok (.ldc2_w 118, 3) := by decide +kernel
theorem dX11_worstBy_20 : decode cX11_worstBy 20 = .ok (.invokestatic 89, 3) := by decide +kernel
theorem dX11_worstBy_23 : decode cX11_worstBy 23 = .ok (.ifCond .ne 8, 3) := by decide +kernel
theorem dX11_worstBy_26 : decode cX11_worstBy 26 = .ok (.aload_n 0, 1) := by decide +kernel
theorem dX11_worstBy_27 : decode cX11_worstBy 27 = .ok (.invokevirtual 120, 3) := by decide +kernel
theorem dX11_worstBy_30 : decode cX11_worstBy 30 = .ok (.ireturn, 1) := by decide +kernel
theorem dX11_worstBy_31 : decode cX11_worstBy 31 = .ok (.iload_n 1, 1) := by decide +kernel
theorem dX11_worstBy_32 : decode cX11_worstBy 32 = .ok (.ifCond .ne 9, 3) := by decide +kernel
theorem dX11_worstBy_35 : decode cX11_worstBy 35 = .ok (.aload_n 0, 1) := by decide +kernel
theorem dX11_worstBy_36 : decode cX11_worstBy 36 = .ok (.iload_n 2, 1) := by decide +kernel
theorem dX11_worstBy_37 : decode cX11_worstBy 37 = .ok (.invokevirtual 268, 3) := by decide +kernel
theorem dX11_worstBy_40 : decode cX11_worstBy 40 = .ok (.ireturn, 1) := by decide +kernel
theorem dX11_worstBy_41 : decode cX11_worstBy 41 = .ok (.iconst 1, 1) := by decide +kernel
theorem dX11_worstBy_42 : decode cX11_worstBy 42 = .ok (.istore_n 3, 1) := by decide +kernel
theorem dX11_worstBy_43 : decode cX11_worstBy 43 = .ok (.aload_n 0, 1) := by decide +kernel
theorem dX11_worstBy_44 : decode cX11_worstBy 44 = .ok (.iconst 1, 1) := by decide +kernel
theorem dX11_worstBy_45 : decode cX11_worstBy 45 = .ok (.invokevirtual 268, 3) := by decide +kernel
theorem dX11_worstBy_48 : decode cX11_worstBy 48 = .ok (.istore 4, 2) := by decide +kernel
theorem dX11_worstBy_50 : decode cX11_worstBy 50 = .ok (.iconst 2, 1) := by decide +kernel
theorem dX11_worstBy_51 : decode cX11_worstBy 51 = .ok (.istore 5, 2) := by decide +kernel
theorem dX11_worstBy_53 : decode cX11_worstBy 53 = .ok (.iload 5, 2) := by decide +kernel
theorem dX11_worstBy_55 : decode cX11_worstBy 55 = .ok (.iconst 3, 1) := by decide +kernel
theorem dX11_worstBy_56 : decode cX11_worstBy 56 = .ok (.if_icmp .gt 47, 3) := by decide +kernel
theorem dX11_worstBy_59 : decode cX11_worstBy 59 = .ok (.aload_n 0, 1) := by decide +kernel
theorem dX11_worstBy_60 : decode cX11_worstBy 60 = .ok (.iload 5, 2) := by decide +kernel
theorem dX11_worstBy_62 : decode cX11_worstBy 62 = .ok (.invokevirtual 268, 3) := by decide +kernel
theorem dX11_worstBy_65 : decode cX11_worstBy 65 = .ok (.istore 6, 2) := by decide +kernel
theorem dX11_worstBy_67 : decode cX11_worstBy 67 = .ok (.iload 6, 2) := by decide +kernel
theorem dX11_worstBy_69 : decode cX11_worstBy 69 = .ok (.iload 4, 2) := by decide +kernel
theorem dX11_worstBy_71 : decode cX11_worstBy 71 = .ok (.if_icmp .ge 8, 3) := by decide +kernel
theorem dX11_worstBy_74 : decode cX11_worstBy 74 = .ok (.iload 5, 2) := by decide +kernel
theorem dX11_worstBy_76 : decode cX11_worstBy 76 = .ok (.goto 4, 3) := by decide +kernel
theorem dX11_worstBy_79 : decode cX11_worstBy 79 = .ok (.iload_n 3, 1) := by decide +kernel
theorem dX11_worstBy_80 : decode cX11_worstBy 80 = .ok (.istore_n 3, 1) := by decide +kernel
theorem dX11_worstBy_81 : decode cX11_worstBy 81 = .ok (.iload 6, 2) := by decide +kernel
theorem dX11_worstBy_83 : decode cX11_worstBy 83 = .ok (.iload 4, 2) := by decide +kernel
theorem dX11_worstBy_85 : decode cX11_worstBy 85 = .ok (.if_icmp .ge 8, 3) := by decide +kernel
theorem dX11_worstBy_88 : decode cX11_worstBy 88 = .ok (.iload 6, 2) := by decide +kernel
theorem dX11_worstBy_90 : decode cX11_worstBy 90 = .ok (.goto 5, 3) := by decide +kernel
theorem dX11_worstBy_93 : decode cX11_worstBy 93 = .ok (.iload 4, 2) := by decide +kernel
theorem dX11_worstBy_95 : decode cX11_worstBy 95 = .ok (.istore 4, 2) := by decide +kernel
theorem dX11_worstBy_97 : decode cX11_worstBy 97 = .ok (.iinc 5 1, 3) := by decide +kernel
theorem dX11_worstBy_100 : decode cX11_worstBy 100 = .ok (.goto (-47), 3) := by decide +kernel
theorem dX11_worstBy_103 : decode cX11_worstBy 103 = .ok (.iload_n 3, 1) := by decide +kernel
theorem dX11_worstBy_104 : decode cX11_worstBy 104 = .ok (.ireturn, 1) := by decide +kernel
theorem dX11_asks_0 : decode cX11_asks 0 = .ok (.aload_n 0, 1) := by decide +kernel
theorem dX11_asks_1 : decode cX11_asks 1 = .ok (.getfield 271, 3) := by decide +kernel
theorem dX11_asks_4 : decode cX11_asks 4 = .ok (.bipush 20, 2) := by decide +kernel
theorem dX11_asks_6 : decode cX11_asks 6 = .ok (.if_icmp .ge 22, 3) := by decide +kernel
theorem dX11_asks_9 : decode cX11_asks 9 = .ok (.aload_n 0, 1) := by decide +kernel
theorem dX11_asks_10 : decode cX11_asks 10 = .ok (.getfield 274, 3) := by decide +kernel
theorem dX11_asks_13 : decode cX11_asks 13 = .ok (.aload_n 0, 1) := by decide +kernel
theorem dX11_asks_14 : decode cX11_asks 14 = .ok (.getfield 271, 3) := by decide +kernel
theorem dX11_asks_17 : decode cX11_asks 17 = .ok (.ishr, 1) := by decide +kernel
theorem dX11_asks_18 : decode cX11_asks 18 = .ok (.iconst 1, 1) := by decide +kernel
theorem dX11_asks_19 : decode cX11_asks 19 = .ok (.iand, 1) := by decide +kernel
theorem dX11_asks_20 : decode cX11_asks 20 = .ok (.iconst 1, 1) := by decide +kernel
theorem dX11_asks_21 : decode cX11_asks 21 = .ok (.if_icmp .ne 7, 3) := by decide +kernel
theorem dX11_asks_24 : decode cX11_asks 24 = .ok (.iconst 1, 1) := by decide +kernel
theorem dX11_asks_25 : decode cX11_asks 25 = .ok (.goto 4, 3) := by decide +kernel
theorem dX11_asks_28 : decode cX11_asks 28 = .ok (.iconst 0, 1) := by decide +kernel
theorem dX11_asks_29 : decode cX11_asks 29 = .ok (.istore_n 1, 1) := by decide +kernel
theorem dX11_asks_30 : decode cX11_asks 30 = .ok (.aload_n 0, 1) := by decide +kernel
theorem dX11_asks_31 : decode cX11_asks 31 = .ok (.dup, 1) := by decide +kernel
theorem dX11_asks_32 : decode cX11_asks 32 = .ok (.getfield 271, 3) := by decide +kernel
theorem dX11_asks_35 : decode cX11_asks 35 = .ok (.iconst 1, 1) := by decide +kernel
theorem dX11_asks_36 : decode cX11_asks 36 = .ok (.iadd, 1) := by decide +kernel
theorem dX11_asks_37 : decode cX11_asks 37 = .ok (.putfield 271, 3) := by decide +kernel
theorem dX11_asks_40 : decode cX11_asks 40 = .ok (.iload_n 1, 1) := by decide +kernel
theorem dX11_asks_41 : decode cX11_asks 41 = .ok (.ireturn, 1) := by decide +kernel
theorem dX11_run_0 : decode cX11_run 0 = .ok (.iconst 0, 1) := by decide +kernel
theorem dX11_run_1 : decode cX11_run 1 = .ok (.istore_n 3, 1) := by decide +kernel
theorem dX11_run_2 : decode cX11_run 2 = .ok (.iconst 0, 1) := by decide +kernel
theorem dX11_run_3 : decode cX11_run 3 = .ok (.istore 4, 2) := by decide +kernel
theorem dX11_run_5 : decode cX11_run 5 = .ok (.aload_n 0, 1) := by decide +kernel
theorem dX11_run_6 : decode cX11_run 6 = .ok (.iconst 0, 1) := by decide +kernel
theorem dX11_run_7 : decode cX11_run 7 = .ok (.putfield 277, 3) := by decide +kernel
theorem dX11_run_10 : decode cX11_run 10 = .ok (.aload_n 0, 1) := by decide +kernel
theorem dX11_run_11 : decode cX11_run 11 = .ok (.iconst 0, 1) := by decide +kernel
theorem dX11_run_12 : decode cX11_run 12 = .ok (.putfield 280, 3) := by decide +kernel
theorem dX11_run_15 : decode cX11_run 15 = .ok (.aload_n 0, 1) := by decide +kernel
theorem dX11_run_16 : decode cX11_run 16 = .ok (.iconst 0, 1) := by decide +kernel
theorem dX11_run_17 : decode cX11_run 17 = .ok (.putfield 271, 3) := by decide +kernel
theorem dX11_run_20 : decode cX11_run 20 = .ok (.aload_n 0, 1) := by decide +kernel
theorem dX11_run_21 : decode cX11_run 21 = .ok (.iload_n 1, 1) := by decide +kernel
theorem dX11_run_22 : decode cX11_run 22 = .ok (.putfield 283, 3) := by decide +kernel
theorem dX11_run_25 : decode cX11_run 25 = .ok (.aload_n 0, 1) := by decide +kernel
theorem dX11_run_26 : decode cX11_run 26 = .ok (.iload_n 2, 1) := by decide +kernel
theorem dX11_run_27 : decode cX11_run 27 = .ok (.putfield 274, 3) := by decide +kernel
theorem dX11_run_30 : decode cX11_run 30 = .ok (.iconst 0, 1) := by decide +kernel
theorem dX11_run_31 : decode cX11_run 31 = .ok (.istore 5, 2) := by decide +kernel
theorem dX11_run_33 : decode cX11_run 33 = .ok (.iload 5, 2) := by decide +kernel
theorem dX11_run_35 : decode cX11_run 35 = .ok (.aload_n 0, 1) := by decide +kernel
theorem dX11_run_36 : decode cX11_run 36 = .ok (.getfield 177, 3) := by decide +kernel
theorem dX11_run_39 : decode cX11_run 39 = .ok (.if_icmp .ge 354, 3) := by decide +kernel
theorem dX11_run_42 : decode cX11_run 42 = .ok (.aload_n 0, 1) := by decide +kernel
theorem dX11_run_43 : decode cX11_run 43 = .ok (.getfield 19, 3) := by decide +kernel
theorem dX11_run_46 : decode cX11_run 46 = .ok (.iload 5, 2) := by decide +kernel
theorem dX11_run_48 : decode cX11_run 48 = .ok (.iaload, 1) := by decide +kernel
theorem dX11_run_49 : decode cX11_run 49 = .ok (.istore 6, 2) := by decide +kernel
theorem dX11_run_51 : decode cX11_run 51 = .ok (.iload 5, 2) := by decide +kernel
theorem dX11_run_53 : decode cX11_run 53 = .ok (.iconst 1, 1) := by decide +kernel
theorem dX11_run_54 : decode cX11_run 54 = .ok (.iadd, 1) := by decide +kernel
theorem dX11_run_55 : decode cX11_run 55 = .ok (.istore 7, 2) := by decide +kernel
theorem dX11_run_57 : decode cX11_run 57 = .ok (.iload 6, 2) := by decide +kernel
theorem dX11_run_59 : decode cX11_run 59 = .ok (.invokestatic 168, 3) := by decide +kernel
theorem dX11_run_62 : decode cX11_run 62 = .ok (.ifCond .eq 94, 3) := by decide +kernel
theorem dX11_run_65 : decode cX11_run 65 = .ok (.aload_n 0, 1) := by decide +kernel
theorem dX11_run_66 : decode cX11_run 66 = .ok (.aload_n 0, 1) := by decide +kernel
theorem dX11_run_67 : decode cX11_run 67 = .ok (.getfield 283, 3) := by decide +kernel
theorem dX11_run_70 : decode cX11_run 70 = .ok (.iload 6, 2) := by decide +kernel
theorem dX11_run_72 : decode cX11_run 72 = .ok (.bipush 97, 2) := by decide +kernel
theorem dX11_run_74 : decode cX11_run 74 = .ok (.isub, 1) := by decide +kernel
theorem dX11_run_75 : decode cX11_run 75 = .ok (.invokevirtual 146, 3) := by decide +kernel
theorem dX11_run_78 : decode cX11_run 78 = .ok (.istore 8, 2) := by decide +kernel
theorem dX11_run_80 : decode cX11_run 80 = .ok (.iload_n 3, 1) := by decide +kernel
theorem dX11_run_81 : decode cX11_run 81 = .ok (.iload 8, 2) := by decide +kernel
theorem dX11_run_83 : decode cX11_run 83 = .ok (.iadd, 1) := by decide +kernel
theorem dX11_run_84 : decode cX11_run 84 = .ok (.istore_n 3, 1) := by decide +kernel
theorem dX11_run_85 : decode cX11_run 85 = .ok (.aload_n 0, 1) := by decide +kernel
theorem dX11_run_86 : decode cX11_run 86 = .ok (.dup, 1) := by decide +kernel
theorem dX11_run_87 : decode cX11_run 87 = .ok (.getfield 277, 3) := by decide +kernel
theorem dX11_run_90 : decode cX11_run 90 = .ok (.iload 8, 2) := by decide +kernel
theorem dX11_run_92 : decode cX11_run 92 = .ok (.iconst 1, 1) := by decide +kernel
theorem dX11_run_93 : decode cX11_run 93 = .ok (.if_icmp .ne 7, 3) := by decide +kernel
theorem dX11_run_96 : decode cX11_run 96 = .ok (.iconst 1, 1) := by decide +kernel
theorem dX11_run_97 : decode cX11_run 97 = .ok (.goto 4, 3) := by decide +kernel
theorem dX11_run_100 : decode cX11_run 100 = .ok (.iconst 0, 1) := by decide +kernel
theorem dX11_run_101 : decode cX11_run 101 = .ok (.iadd, 1) := by decide +kernel
theorem dX11_run_102 : decode cX11_run 102 = .ok (.putfield 277, 3) := by decide +kernel
theorem dX11_run_105 : decode cX11_run 105 = .ok (.aload_n 0, 1) := by decide +kernel
theorem dX11_run_106 : decode cX11_run 106 = .ok (.dup, 1) := by decide +kernel
theorem dX11_run_107 : decode cX11_run 107 = .ok (.getfield 280, 3) := by decide +kernel
theorem dX11_run_110 : decode cX11_run 110 = .ok (.iload 8, 2) := by decide +kernel
theorem dX11_run_112 : decode cX11_run 112 = .ok (.iconst 1, 1) := by decide +kernel
theorem dX11_run_113 : decode cX11_run 113 = .ok (.if_icmp .ne 7, 3) := by decide +kernel
theorem dX11_run_116 : decode cX11_run 116 = .ok (.iconst 0, 1) := by decide +kernel
theorem dX11_run_117 : decode cX11_run 117 = .ok (.goto 4, 3) := by decide +kernel
theorem dX11_run_120 : decode cX11_run 120 = .ok (.iconst 1, 1) := by decide +kernel
theorem dX11_run_121 : decode cX11_run 121 = .ok (.iadd, 1) := by decide +kernel
theorem dX11_run_122 : decode cX11_run 122 = .ok (.putfield 280, 3) := by decide +kernel
theorem dX11_run_125 : decode cX11_run 125 = .ok (.aload_n 0, 1) := by decide +kernel
theorem dX11_run_126 : decode cX11_run 126 = .ok (.aload_n 0, 1) := by decide +kernel
theorem dX11_run_127 : decode cX11_run 127 = .ok (.getfield 283, 3) := by decide +kernel
theorem dX11_run_130 : decode cX11_run 130 = .ok (.iload 6, 2) := by decide +kernel
theorem dX11_run_132 : decode cX11_run 132 = .ok (.bipush 97, 2) := by decide +kernel
theorem dX11_run_134 : decode cX11_run 134 = .ok (.isub, 1) := by decide +kernel
theorem dX11_run_135 : decode cX11_run 135 = .ok (.aload_n 0, 1) := by decide +kernel
theorem dX11_run_136 : decode cX11_run 136 = .ok (.getfield 7, 3) := by decide +kernel
theorem dX11_run_139 : decode cX11_run 139 = .ok (.iconst 4, 1) := by decide +kernel
theorem dX11_run_140 : decode cX11_run 140 = .ok (.iaload, 1) := by decide +kernel
theorem dX11_run_141 : decode cX11_run 141 = .ok (.aload_n 0, 1) := by decide +kernel
theorem dX11_run_142 : decode cX11_run 142 = .ok (.getfield 7, 3) := by decide +kernel
theorem dX11_run_145 : decode cX11_run 145 = .ok (.iconst 5, 1) := by decide +kernel
theorem dX11_run_146 : decode cX11_run 146 = .ok (.iaload, 1) := by decide +kernel
theorem dX11_run_147 : decode cX11_run 147 = .ok (.invokestatic 142, 3) := by decide +kernel
theorem dX11_run_150 : decode cX11_run 150 = .ok (.putfield 283, 3) := by decide +kernel
theorem dX11_run_153 : decode cX11_run 153 = .ok (.goto 233, 3) := by decide +kernel
theorem dX11_run_156 : decode cX11_run 156 = .ok (.iload 6, 2) := by decide +kernel
theorem dX11_run_158 : decode cX11_run 158 = .ok (.bipush 46, 2) := by decide +kernel
theorem dX11_run_160 : decode cX11_run 160 = .ok (.if_icmp .ne 9, 3) := by decide +kernel
theorem dX11_run_163 : decode cX11_run 163 = .ok (.iinc 3 1, 3) := by decide +kernel
theorem dX11_run_166 : decode cX11_run 166 = .ok (.goto 220, 3) := by decide +kernel
theorem dX11_run_169 : decode cX11_run 169 = .ok (.iload 6, 2) := by decide +kernel
theorem dX11_run_171 : decode cX11_run 171 = .ok (.bipush 40, 2) := by decide +kernel
theorem dX11_run_173 : decode cX11_run 173 = .ok (.if_icmp .ne 31, 3) := by decide +kernel
theorem dX11_run_176 : decode cX11_run 176 = .ok (.aload_n 0, 1) := by decide +kernel
theorem dX11_run_177 : decode cX11_run 177 = .ok (.invokevirtual 286, 3) := by decide +kernel
theorem dX11_run_180 : decode cX11_run 180 = .ok (.ifCond .eq 15, 3) := by decide +kernel
theorem dX11_run_183 : decode cX11_run 183 = .ok (.aload_n 0, 1) := by decide +kernel
theorem dX11_run_184 : decode cX11_run 184 = .ok (.getfield 25, 3) := by decide +kernel
theorem dX11_run_187 : decode cX11_run 187 = .ok (.iload 5, 2) := by decide +kernel
theorem dX11_run_189 : decode cX11_run 189 = .ok (.iaload, 1) := by decide +kernel
theorem dX11_run_190 : decode cX11_run 190 = .ok (.iconst 1, 1) := by decide +kernel
theorem dX11_run_191 : decode cX11_run 191 = .ok (.iadd, 1) := by decide +kernel
theorem dX11_run_192 : decode cX11_run 192 = .ok (.goto 7, 3) := by decide +kernel
theorem dX11_run_195 : decode cX11_run 195 = .ok (.iload 5, 2) := by decide +kernel
theorem dX11_run_197 : decode cX11_run 197 = .ok (.iconst 1, 1) := by decide +kernel
theorem dX11_run_198 : decode cX11_run 198 = .ok (.iadd, 1) := by decide +kernel
theorem dX11_run_199 : decode cX11_run 199 = .ok (.istore 7, 2) := by decide +kernel
theorem dX11_run_201 : decode cX11_run 201 = .ok (.goto 185, 3) := by decide +kernel
theorem dX11_run_204 : decode cX11_run 204 = .ok (.iload 6, 2) := by decide +kernel
theorem dX11_run_206 : decode cX11_run 206 = .ok (.bipush 124, 2) := by decide +kernel
theorem dX11_run_208 : decode cX11_run 208 = .ok (.if_icmp .ne 16, 3) := by decide +kernel
theorem dX11_run_211 : decode cX11_run 211 = .ok (.aload_n 0, 1) := by decide +kernel
theorem dX11_run_212 : decode cX11_run 212 = .ok (.iload 5, 2) := by decide +kernel
theorem dX11_run_214 : decode cX11_run 214 = .ok (.invokevirtual 290, 3) := by decide +kernel
theorem dX11_run_217 : decode cX11_run 217 = .ok (.iconst 1, 1) := by decide +kernel
theorem dX11_run_218 : decode cX11_run 218 = .ok (.iadd, 1) := by decide +kernel
theorem dX11_run_219 : decode cX11_run 219 = .ok (.istore 7, 2) := by decide +kernel
theorem dX11_run_221 : decode cX11_run 221 = .ok (.goto 165, 3) := by decide +kernel
theorem dX11_run_224 : decode cX11_run 224 = .ok (.iload 6, 2) := by decide +kernel
theorem dX11_run_226 : decode cX11_run 226 = .ok (.invokestatic 171, 3) := by decide +kernel
theorem dX11_run_229 : decode cX11_run 229 = .ok (.ifCond .eq 58, 3) := by decide +kernel
theorem dX11_run_232 : decode cX11_run 232 = .ok (.aload_n 0, 1) := by decide +kernel
theorem dX11_run_233 : decode cX11_run 233 = .ok (.getfield 74, 3) := by decide +kernel
theorem dX11_run_236 : decode cX11_run 236 = .ok (.iload 4, 2) := by decide +kernel
theorem dX11_run_238 : decode cX11_run 238 = .ok (.iconst 0, 1) := by decide +kernel
theorem dX11_run_239 : decode cX11_run 239 = .ok (.iastore, 1) := by decide +kernel
theorem dX11_run_240 : decode cX11_run 240 = .ok (.aload_n 0, 1) := by decide +kernel
theorem dX11_run_241 : decode cX11_run 241 = .ok (.invokevirtual 286, 3) := by decide +kernel
theorem dX11_run_244 : decode cX11_run 244 = .ok (.istore 8, 2) := by decide +kernel
theorem dX11_run_246 : decode cX11_run 246 = .ok (.iload 8, 2) := by decide +kernel
theorem dX11_run_248 : decode cX11_run 248 = .ok (.ifCond .eq 10, 3) := by decide +kernel
theorem dX11_run_251 : decode cX11_run 251 = .ok (.iload 5, 2) := by decide +kernel
theorem dX11_run_253 : decode cX11_run 253 = .ok (.iconst 1, 1) := by decide +kernel
theorem dX11_run_254 : decode cX11_run 254 = .ok (.iadd, 1) := by decide +kernel
theorem dX11_run_255 : decode cX11_run 255 = .ok (.goto 12, 3) := by decide +kernel
theorem dX11_run_258 : decode cX11_run 258 = .ok (.aload_n 0, 1) := by decide +kernel
theorem dX11_run_259 : decode cX11_run 259 = .ok (.getfield 22, 3) := by decide +kernel
theorem dX11_run_262 : decode cX11_run 262 = .ok (.iload 5, 2) := by decide +kernel
theorem dX11_run_264 : decode cX11_run 264 = .ok (.iaload, 1) := by decide +kernel
theorem dX11_run_265 : decode cX11_run 265 = .ok (.iconst 1, 1) := by decide +kernel
theorem dX11_run_266 : decode cX11_run 266 = .ok (.iadd, 1) := by decide +kernel
theorem dX11_run_267 : decode cX11_run 267 = .ok (.istore 7, 2) := by decide +kernel
theorem dX11_run_269 : decode cX11_run 269 = .ok (.iload 4, 2) := by decide +kernel
theorem dX11_run_271 : decode cX11_run 271 = .ok (.iload 8, 2) := by decide +kernel
theorem dX11_run_273 : decode cX11_run 273 = .ok (.ifCond .eq 7, 3) := by decide +kernel
theorem dX11_run_276 : decode cX11_run 276 = .ok (.iconst 1, 1) := by decide +kernel
theorem dX11_run_277 : decode cX11_run 277 = .ok (.goto 4, 3) := by decide +kernel
theorem dX11_run_280 : decode cX11_run 280 = .ok (.iconst 0, 1) := by decide +kernel
theorem dX11_run_281 : decode cX11_run 281 = .ok (.iadd, 1) := by decide +kernel
theorem dX11_run_282 : decode cX11_run 282 = .ok (.istore 4, 2) := by decide +kernel
theorem dX11_run_284 : decode cX11_run 284 = .ok (.goto 102, 3) := by decide +kernel
theorem dX11_run_287 : decode cX11_run 287 = .ok (.iload 6, 2) := by decide +kernel
theorem dX11_run_289 : decode cX11_run 289 = .ok (.bipush 93, 2) := by decide +kernel
theorem dX11_run_291 : decode cX11_run 291 = .ok (.if_icmp .ne 95, 3) := by decide +kernel
theorem dX11_run_294 : decode cX11_run 294 = .ok (.aload_n 0, 1) := by decide +kernel
theorem dX11_run_295 : decode cX11_run 295 = .ok (.getfield 74, 3) := by decide +kernel
theorem dX11_run_298 : decode cX11_run 298 = .ok (.iload 4, 2) := by decide +kernel
theorem dX11_run_300 : decode cX11_run 300 = .ok (.iconst 1, 1) := by decide +kernel
theorem dX11_run_301 : decode cX11_run 301 = .ok (.isub, 1) := by decide +kernel
theorem dX11_run_302 : decode cX11_run 302 = .ok (.dup2, 1) := by decide +kernel
theorem dX11_run_303 : decode cX11_run 303 = .ok (.iaload, 1) := by decide +kernel
theorem dX11_run_304 : decode cX11_run 304 = .ok (.iconst 1, 1) := by decide +kernel
theorem dX11_run_305 : decode cX11_run 305 = .ok (.iadd, 1) := by decide +kernel
theorem dX11_run_306 : decode cX11_run 306 = .ok (.iastore, 1) := by decide +kernel
theorem dX11_run_307 : decode cX11_run 307 = .ok (.aload_n 0, 1) := by decide +kernel
theorem dX11_run_308 : decode cX11_run 308 = .ok (.getfield 74, 3) := by decide +kernel
theorem dX11_run_311 : decode cX11_run 311 = .ok (.iload 4, 2) := by decide +kernel
theorem dX11_run_313 : decode cX11_run 313 = .ok (.iconst 1, 1) := by decide +kernel
theorem dX11_run_314 : decode cX11_run 314 = .ok (.isub, 1) := by decide +kernel
theorem dX11_run_315 : decode cX11_run 315 = .ok (.iaload, 1) := by decide +kernel
theorem dX11_run_316 : decode cX11_run 316 = .ok (.aload_n 0, 1) := by decide +kernel
theorem dX11_run_317 : decode cX11_run 317 = .ok (.getfield 19, 3) := by decide +kernel
theorem dX11_run_320 : decode cX11_run 320 = .ok (.aload_n 0, 1) := by decide +kernel
theorem dX11_run_321 : decode cX11_run 321 = .ok (.getfield 22, 3) := by decide +kernel
theorem dX11_run_324 : decode cX11_run 324 = .ok (.iload 5, 2) := by decide +kernel
theorem dX11_run_326 : decode cX11_run 326 = .ok (.iaload, 1) := by decide +kernel
theorem dX11_run_327 : decode cX11_run 327 = .ok (.iaload, 1) := by decide +kernel
theorem dX11_run_328 : decode cX11_run 328 = .ok (.bipush 48, 2) := by decide +kernel
theorem dX11_run_330 : decode cX11_run 330 = .ok (.isub, 1) := by decide +kernel
theorem dX11_run_331 : decode cX11_run 331 = .ok (.if_icmp .ge 14, 3) := by decide +kernel
theorem dX11_run_334 : decode cX11_run 334 = .ok (.aload_n 0, 1) := by decide +kernel
theorem dX11_run_335 : decode cX11_run 335 = .ok (.invokevirtual 286, 3) := by decide +kernel
theorem dX11_run_338 : decode cX11_run 338 = .ok (.ifCond .eq 7, 3) := by decide +kernel
theorem dX11_run_341 : decode cX11_run 341 = .ok (.iconst 1, 1) := by decide +kernel
theorem dX11_run_342 : decode cX11_run 342 = .ok (.goto 4, 3) := by decide +kernel
theorem dX11_run_345 : decode cX11_run 345 = .ok (.iconst 0, 1) := by decide +kernel
theorem dX11_run_346 : decode cX11_run 346 = .ok (.istore 8, 2) := by decide +kernel
theorem dX11_run_348 : decode cX11_run 348 = .ok (.iload 8, 2) := by decide +kernel
theorem dX11_run_350 : decode cX11_run 350 = .ok (.ifCond .eq 15, 3) := by decide +kernel
theorem dX11_run_353 : decode cX11_run 353 = .ok (.aload_n 0, 1) := by decide +kernel
theorem dX11_run_354 : decode cX11_run 354 = .ok (.getfield 22, 3) := by decide +kernel
theorem dX11_run_357 : decode cX11_run 357 = .ok (.iload 5, 2) := by decide +kernel
theorem dX11_run_359 : decode cX11_run 359 = .ok (.iaload, 1) := by decide +kernel
theorem dX11_run_360 : decode cX11_run 360 = .ok (.iconst 1, 1) := by decide +kernel
theorem dX11_run_361 : decode cX11_run 361 = .ok (.iadd, 1) := by decide +kernel
theorem dX11_run_362 : decode cX11_run 362 = .ok (.goto 7, 3) := by decide +kernel
theorem dX11_run_365 : decode cX11_run 365 = .ok (.iload 5, 2) := by decide +kernel
theorem dX11_run_367 : decode cX11_run 367 = .ok (.iconst 1, 1) := by decide +kernel
theorem dX11_run_368 : decode cX11_run 368 = .ok (.iadd, 1) := by decide +kernel
theorem dX11_run_369 : decode cX11_run 369 = .ok (.istore 7, 2) := by decide +kernel
theorem dX11_run_371 : decode cX11_run 371 = .ok (.iload 4, 2) := by decide +kernel
theorem dX11_run_373 : decode cX11_run 373 = .ok (.iload 8, 2) := by decide +kernel
theorem dX11_run_375 : decode cX11_run 375 = .ok (.ifCond .eq 7, 3) := by decide +kernel
theorem dX11_run_378 : decode cX11_run 378 = .ok (.iconst 0, 1) := by decide +kernel
theorem dX11_run_379 : decode cX11_run 379 = .ok (.goto 4, 3) := by decide +kernel
theorem dX11_run_382 : decode cX11_run 382 = .ok (.iconst 1, 1) := by decide +kernel
theorem dX11_run_383 : decode cX11_run 383 = .ok (.isub, 1) := by decide +kernel
theorem dX11_run_384 : decode cX11_run 384 = .ok (.istore 4, 2) := by decide +kernel
theorem dX11_run_386 : decode cX11_run 386 = .ok (.iload 7, 2) := by decide +kernel
theorem dX11_run_388 : decode cX11_run 388 = .ok (.istore 5, 2) := by decide +kernel
theorem dX11_run_390 : decode cX11_run 390 = .ok (.goto (-357), 3) := by decide +kernel
theorem dX11_run_393 : decode cX11_run 393 = .ok (.iload_n 3, 1) := by decide +kernel
theorem dX11_run_394 : decode cX11_run 394 = .ok (.ireturn, 1) := by decide +kernel
theorem dX11_endBehind_0 : decode cX11_endBehind 0 = .ok (.iload_n 1, 1) := by decide +kernel
theorem dX11_endBehind_1 : decode cX11_endBehind 1 = .ok (.istore_n 2, 1) := by decide +kernel
theorem dX11_endBehind_2 : decode cX11_endBehind 2 = .ok (.aload_n 0, 1) := by decide +kernel
theorem dX11_endBehind_3 : decode cX11_endBehind 3 = .ok (.getfield 25, 3) := by decide +kernel
theorem dX11_endBehind_6 : decode cX11_endBehind 6 = .ok (.iload_n 2, 1) := by decide +kernel
theorem dX11_endBehind_7 : decode cX11_endBehind 7 = .ok (.iaload, 1) := by decide +kernel
theorem dX11_endBehind_8 : decode cX11_endBehind 8 = .ok (.iload_n 1, 1) := by decide +kernel
theorem dX11_endBehind_9 : decode cX11_endBehind 9 = .ok (.if_icmp .ne 24, 3) := by decide +kernel
theorem dX11_endBehind_12 : decode cX11_endBehind 12 = .ok (.aload_n 0, 1) := by decide +kernel
theorem dX11_endBehind_13 : decode cX11_endBehind 13 = .ok (.getfield 19, 3) := by decide +kernel
theorem dX11_endBehind_16 : decode cX11_endBehind 16 = .ok (.iload_n 2, 1) := by decide +kernel
theorem dX11_endBehind_17 : decode cX11_endBehind 17 = .ok (.iaload, 1) := by decide +kernel
theorem dX11_endBehind_18 : decode cX11_endBehind 18 = .ok (.bipush 40, 2) := by decide +kernel
theorem dX11_endBehind_20 : decode cX11_endBehind 20 = .ok (.if_icmp .ne 13, 3) := by decide +kernel
theorem dX11_endBehind_23 : decode cX11_endBehind 23 = .ok (.aload_n 0, 1) := by decide +kernel
theorem dX11_endBehind_24 : decode cX11_endBehind 24 = .ok (.getfield 22, 3) := by decide +kernel
theorem dX11_endBehind_27 : decode cX11_endBehind 27 = .ok (.iload_n 2, 1) := by decide +kernel
theorem dX11_endBehind_28 : decode cX11_endBehind 28 = .ok (.iaload, 1) := by decide +kernel
theorem dX11_endBehind_29 : decode cX11_endBehind 29 = .ok (.iload_n 1, 1) := by decide +kernel
theorem dX11_endBehind_30 : decode cX11_endBehind 30 = .ok (.if_icmp .ge 9, 3) := by decide +kernel
theorem dX11_endBehind_33 : decode cX11_endBehind 33 = .ok (.iinc 2 (-1), 3) := by decide +kernel
theorem dX11_endBehind_36 : decode cX11_endBehind 36 = .ok (.goto (-34), 3) := by decide +kernel
theorem dX11_endBehind_39 : decode cX11_endBehind 39 = .ok (.aload_n 0, 1) := by decide +kernel
theorem dX11_endBehind_40 : decode cX11_endBehind 40 = .ok (.getfield 22, 3) := by decide +kernel
theorem dX11_endBehind_43 : decode cX11_endBehind 43 = .ok (.iload_n 2, 1) := by decide +kernel
theorem dX11_endBehind_44 : decode cX11_endBehind 44 = .ok (.iaload, 1) := by decide +kernel
theorem dX11_endBehind_45 : decode cX11_endBehind 45 = .ok (.ireturn, 1) := by decide +kernel
theorem dX11_runs_0 : decode cX11_runs 0 = .ok (.iload_n 1, 1) := by decide +kernel
theorem dX11_runs_1 : decode cX11_runs 1 = .ok (.i2l, 1) := by decide +kernel
theorem dX11_runs_2 : decode cX11_runs 2 = .ok (.lconst 0, 1) := by decide +kernel
theorem dX11_runs_3 : decode cX11_runs 3 = .ok (.ldc2_w 293, 3) := by decide +kernel
theorem dX11_runs_6 : decode cX11_runs 6 = .ok (.invokestatic 89, 3) := by decide +kernel
theorem dX11_runs_9 : decode cX11_runs 9 = .ok (.ifCond .ne 8, 3) := by decide +kernel
theorem dX11_runs_12 : decode cX11_runs 12 = .ok (.aload_n 0, 1) := by decide +kernel
theorem dX11_runs_13 : decode cX11_runs 13 = .ok (.invokevirtual 120, 3) := by decide +kernel
theorem dX11_runs_16 : decode cX11_runs 16 = .ok (.ireturn, 1) := by decide +kernel
theorem dX11_runs_17 : decode cX11_runs 17 = .ok (.aload_n 0, 1) := by decide +kernel
theorem dX11_runs_18 : decode cX11_runs 18 = .ok (.invokevirtual 124, 3) := by decide +kernel
theorem dX11_runs_21 : decode cX11_runs 21 = .ok (.aload_n 0, 1) := by decide +kernel
theorem dX11_runs_22 : decode cX11_runs 22 = .ok (.aload_n 0, 1) := by decide +kernel
theorem dX11_runs_23 : decode cX11_runs 23 = .ok (.invokevirtual 127, 3) := by decide +kernel
theorem dX11_runs_26 : decode cX11_runs 26 = .ok (.iload_n 1, 1) := by decide +kernel
theorem dX11_runs_27 : decode cX11_runs 27 = .ok (.invokevirtual 295, 3) := by decide +kernel
theorem dX11_runs_30 : decode cX11_runs 30 = .ok (.istore_n 2, 1) := by decide +kernel
theorem dX11_runs_31 : decode cX11_runs 31 = .ok (.aload_n 0, 1) := by decide +kernel
theorem dX11_runs_32 : decode cX11_runs 32 = .ok (.aload_n 0, 1) := by decide +kernel
theorem dX11_runs_33 : decode cX11_runs 33 = .ok (.getfield 283, 3) := by decide +kernel
theorem dX11_runs_36 : decode cX11_runs 36 = .ok (.invokevirtual 130, 3) := by decide +kernel
theorem dX11_runs_39 : decode cX11_runs 39 = .ok (.aload_n 0, 1) := by decide +kernel
theorem dX11_runs_40 : decode cX11_runs 40 = .ok (.getfield 84, 3) := by decide +kernel
theorem dX11_runs_43 : decode cX11_runs 43 = .ok (.iconst 0, 1) := by decide +kernel
theorem dX11_runs_44 : decode cX11_runs 44 = .ok (.aload_n 0, 1) := by decide +kernel
theorem dX11_runs_45 : decode cX11_runs 45 = .ok (.getfield 277, 3) := by decide +kernel
theorem dX11_runs_48 : decode cX11_runs 48 = .ok (.iastore, 1) := by decide +kernel
theorem dX11_runs_49 : decode cX11_runs 49 = .ok (.aload_n 0, 1) := by decide +kernel
theorem dX11_runs_50 : decode cX11_runs 50 = .ok (.getfield 84, 3) := by decide +kernel
theorem dX11_runs_53 : decode cX11_runs 53 = .ok (.iconst 1, 1) := by decide +kernel
theorem dX11_runs_54 : decode cX11_runs 54 = .ok (.aload_n 0, 1) := by decide +kernel
theorem dX11_runs_55 : decode cX11_runs 55 = .ok (.getfield 280, 3) := by decide +kernel
theorem dX11_runs_58 : decode cX11_runs 58 = .ok (.iastore, 1) := by decide +kernel
theorem dX11_runs_59 : decode cX11_runs 59 = .ok (.aload_n 0, 1) := by decide +kernel
theorem dX11_runs_60 : decode cX11_runs 60 = .ok (.getfield 84, 3) := by decide +kernel
theorem dX11_runs_63 : decode cX11_runs 63 = .ok (.iconst 2, 1) := by decide +kernel
theorem dX11_runs_64 : decode cX11_runs 64 = .ok (.aload_n 0, 1) := by decide +kernel
theorem dX11_runs_65 : decode cX11_runs 65 = .ok (.getfield 271, 3) := by decide +kernel
theorem dX11_runs_68 : decode cX11_runs 68 = .ok (.iastore, 1) := by decide +kernel
theorem dX11_runs_69 : decode cX11_runs 69 = .ok (.iload_n 2, 1) := by decide +kernel
theorem dX11_runs_70 : decode cX11_runs 70 = .ok (.ireturn, 1) := by decide +kernel
theorem dX11_ran_0 : decode cX11_ran 0 = .ok (.iload_n 1, 1) := by decide +kernel
theorem dX11_ran_1 : decode cX11_ran 1 = .ok (.i2l, 1) := by decide +kernel
theorem dX11_ran_2 : decode cX11_ran 2 = .ok (.lconst 0, 1) := by decide +kernel
theorem dX11_ran_3 : decode cX11_ran 3 = .ok (.ldc2_w 134, 3) := by decide +kernel
theorem dX11_ran_6 : decode cX11_ran 6 = .ok (.invokestatic 89, 3) := by decide +kernel
theorem dX11_ran_9 : decode cX11_ran 9 = .ok (.ifCond .eq 12, 3) := by decide +kernel
theorem dX11_ran_12 : decode cX11_ran 12 = .ok (.aload_n 0, 1) := by decide +kernel
theorem dX11_ran_13 : decode cX11_ran 13 = .ok (.getfield 84, 3) := by decide +kernel
theorem dX11_ran_16 : decode cX11_ran 16 = .ok (.iload_n 1, 1) := by decide +kernel
theorem dX11_ran_17 : decode cX11_ran 17 = .ok (.iaload, 1) := by decide +kernel
theorem dX11_ran_18 : decode cX11_ran 18 = .ok (.goto 7, 3) := by decide +kernel
theorem dX11_ran_21 : decode cX11_ran 21 = .ok (.aload_n 0, 1) := by decide +kernel
theorem dX11_ran_22 : decode cX11_ran 22 = .ok (.invokevirtual 120, 3) := by decide +kernel
theorem dX11_ran_25 : decode cX11_ran 25 = .ok (.ireturn, 1) := by decide +kernel
theorem dX11_undo_0 : decode cX11_undo 0 = .ok (.aload_n 0, 1) := by decide +kernel
theorem dX11_undo_1 : decode cX11_undo 1 = .ok (.getfield 114, 3) := by decide +kernel
theorem dX11_undo_4 : decode cX11_undo 4 = .ok (.ifCond .ne 8, 3) := by decide +kernel
theorem dX11_undo_7 : decode cX11_undo 7 = .ok (.aload_n 0, 1) := by decide +kernel
theorem dX11_undo_8 : decode cX11_undo 8 = .ok (.invokevirtual 298, 3) := by decide +kernel
theorem dX11_undo_11 : decode cX11_undo 11 = .ok (.ireturn, 1) := by decide +kernel
theorem dX11_undo_12 : decode cX11_undo 12 = .ok (.aload_n 0, 1) := by decide +kernel
theorem dX11_undo_13 : decode cX11_undo 13 = .ok (.dup, 1) := by decide +kernel
theorem dX11_undo_14 : decode cX11_undo 14 = .ok (.getfield 114, 3) := by decide +kernel
theorem dX11_undo_17 : decode cX11_undo 17 = .ok (.iconst 1, 1) := by decide +kernel
theorem dX11_undo_18 : decode cX11_undo 18 = .ok (.isub, 1) := by decide +kernel
theorem dX11_undo_19 : decode cX11_undo 19 = .ok (.putfield 114, 3) := by decide +kernel
theorem dX11_undo_22 : decode cX11_undo 22 = .ok (.iconst 0, 1) := by decide +kernel
theorem dX11_undo_23 : decode cX11_undo 23 = .ok (.istore_n 1, 1) := by decide +kernel
theorem dX11_undo_24 : decode cX11_undo 24 = .ok (.iload_n 1, 1) := by decide +kernel
theorem dX11_undo_25 : decode cX11_undo 25 = .ok (.bipush 7, 2) := by decide +kernel
theorem dX11_undo_27 : decode cX11_undo 27 = .ok (.if_icmp .ge 29, 3) := by decide +kernel
theorem dX11_undo_30 : decode cX11_undo 30 = .ok (.aload_n 0, 1) := by decide +kernel
theorem dX11_undo_31 : decode cX11_undo 31 = .ok (.getfield 7, 3) := by decide +kernel
theorem dX11_undo_34 : decode cX11_undo 34 = .ok (.iload_n 1, 1) := by decide +kernel
theorem dX11_undo_35 : decode cX11_undo 35 = .ok (.aload_n 0, 1) := by decide +kernel
theorem dX11_undo_36 : decode cX11_undo 36 = .ok (.getfield 13, 3) := by decide +kernel
theorem dX11_undo_39 : decode cX11_undo 39 = .ok (.bipush 7, 2) := by decide +kernel
theorem dX11_undo_41 : decode cX11_undo 41 = .ok (.aload_n 0, 1) := by decide +kernel
theorem dX11_undo_42 : decode cX11_undo 42 = .ok (.getfield 114, 3) := by decide +kernel
theorem dX11_undo_45 : decode cX11_undo 45 = .ok (.imul, 1) := by decide +kernel
theorem dX11_undo_46 : decode cX11_undo 46 = .ok (.iload_n 1, 1) := by decide +kernel
theorem dX11_undo_47 : decode cX11_undo 47 = .ok (.iadd, 1) := by decide +kernel
theorem dX11_undo_48 : decode cX11_undo 48 = .ok (.iaload, 1) := by decide +kernel
theorem dX11_undo_49 : decode cX11_undo 49 = .ok (.iastore, 1) := by decide +kernel
theorem dX11_undo_50 : decode cX11_undo 50 = .ok (.iinc 1 1, 3) := by decide +kernel
theorem dX11_undo_53 : decode cX11_undo 53 = .ok (.goto (-29), 3) := by decide +kernel
theorem dX11_undo_56 : decode cX11_undo 56 = .ok (.aload_n 0, 1) := by decide +kernel
theorem dX11_undo_57 : decode cX11_undo 57 = .ok (.getfield 114, 3) := by decide +kernel
theorem dX11_undo_60 : decode cX11_undo 60 = .ok (.ireturn, 1) := by decide +kernel
theorem dX11_draws_0 : decode cX11_draws 0 = .ok (.iload_n 1, 1) := by decide +kernel
theorem dX11_draws_1 : decode cX11_draws 1 = .ok (.i2l, 1) := by decide +kernel
theorem dX11_draws_2 : decode cX11_draws 2 = .ok (.lconst 0, 1) := by decide +kernel
theorem dX11_draws_3 : decode cX11_draws 3 = .ok (.ldc2_w 301, 3) := by decide +kernel
theorem dX11_draws_6 : decode cX11_draws 6 = .ok (.invokestatic 89, 3) := by decide +kernel
theorem dX11_draws_9 : decode cX11_draws 9 = .ok (.ifCond .eq 15, 3) := by decide +kernel
theorem dX11_draws_12 : decode cX11_draws 12 = .ok (.iload_n 2, 1) := by decide +kernel
theorem dX11_draws_13 : decode cX11_draws 13 = .ok (.i2l, 1) := by decide +kernel
theorem dX11_draws_14 : decode cX11_draws 14 = .ok (.lconst 0, 1) := by decide +kernel
theorem dX11_draws_15 : decode cX11_draws 15 = .ok (.ldc2_w 303, 3) := by decide +kernel
theorem dX11_draws_18 : decode cX11_draws 18 = .ok (.invokestatic 89, 3) := by decide +kernel
theorem dX11_draws_21 : decode cX11_draws 21 = .ok (.ifCond .ne 8, 3) := by decide +kernel
theorem dX11_draws_24 : decode cX11_draws 24 = .ok (.aload_n 0, 1) := by decide +kernel
theorem dX11_draws_25 : decode cX11_draws 25 = .ok (.invokevirtual 120, 3) := by decide +kernel
theorem dX11_draws_28 : decode cX11_draws 28 = .ok (.ireturn, 1) := by decide +kernel
theorem dX11_draws_29 : decode cX11_draws 29 = .ok (.iload_n 1, 1) := by decide +kernel
theorem dX11_draws_30 : decode cX11_draws 30 = .ok (.i2l, 1) := by decide +kernel
theorem dX11_draws_31 : decode cX11_draws 31 = .ok (.lstore_n 3, 1) := by decide +kernel
theorem dX11_draws_32 : decode cX11_draws 32 = .ok (.iconst 0, 1) := by decide +kernel
theorem dX11_draws_33 : decode cX11_draws 33 = .ok (.istore 5, 2) := by decide +kernel
theorem dX11_draws_35 : decode cX11_draws 35 = .ok (.iconst 0, 1) := by decide +kernel
theorem dX11_draws_36 : decode cX11_draws 36 = .ok (.istore 6, 2) := by decide +kernel
theorem dX11_draws_38 : decode cX11_draws 38 = .ok (.iload 6, 2) := by decide +kernel
theorem dX11_draws_40 : decode cX11_draws 40 = .ok (.iload_n 2, 1) := by decide +kernel
theorem dX11_draws_41 : decode cX11_draws 41 = .ok (.if_icmp .ge 59, 3) := by decide +kernel
theorem dX11_draws_44 : decode cX11_draws 44 = .ok (.lload_n 3, 1) := by decide +kernel
theorem dX11_draws_45 : decode cX11_draws 45 = .ok (.ldc2_w 305, 3) := by decide +kernel
theorem dX11_draws_48 : decode cX11_draws 48 = .ok (.lmul, 1) := by decide +kernel
theorem dX11_draws_49 : decode cX11_draws 49 = .ok (.ldc2_w 307, 3) := by decide +kernel
theorem dX11_draws_52 : decode cX11_draws 52 = .ok (.ladd, 1) := by decide +kernel
theorem dX11_draws_53 : decode cX11_draws 53 = .ok (.ldc2_w 309, 3) := by decide +kernel
theorem dX11_draws_56 : decode cX11_draws 56 = .ok (.lrem, 1) := by decide +kernel
theorem dX11_draws_57 : decode cX11_draws 57 = .ok (.lstore_n 3, 1) := by decide +kernel
theorem dX11_draws_58 : decode cX11_draws 58 = .ok (.aload_n 0, 1) := by decide +kernel
theorem dX11_draws_59 : decode cX11_draws 59 = .ok (.aload_n 0, 1) := by decide +kernel
theorem dX11_draws_60 : decode cX11_draws 60 = .ok (.invokevirtual 127, 3) := by decide +kernel
theorem dX11_draws_63 : decode cX11_draws 63 = .ok (.lload_n 3, 1) := by decide +kernel
theorem dX11_draws_64 : decode cX11_draws 64 = .ok (.ldc2_w 311, 3) := by decide +kernel
theorem dX11_draws_67 : decode cX11_draws 67 = .ok (.ldiv, 1) := by decide +kernel
theorem dX11_draws_68 : decode cX11_draws 68 = .ok (.ldc2_w 313, 3) := by decide +kernel
theorem dX11_draws_71 : decode cX11_draws 71 = .ok (.lrem, 1) := by decide +kernel
theorem dX11_draws_72 : decode cX11_draws 72 = .ok (.l2i, 1) := by decide +kernel
theorem dX11_draws_73 : decode cX11_draws 73 = .ok (.invokevirtual 295, 3) := by decide +kernel
theorem dX11_draws_76 : decode cX11_draws 76 = .ok (.istore 7, 2) := by decide +kernel
theorem dX11_draws_78 : decode cX11_draws 78 = .ok (.iload 7, 2) := by decide +kernel
theorem dX11_draws_80 : decode cX11_draws 80 = .ok (.iload 5, 2) := by decide +kernel
theorem dX11_draws_82 : decode cX11_draws 82 = .ok (.if_icmp .le 8, 3) := by decide +kernel
theorem dX11_draws_85 : decode cX11_draws 85 = .ok (.iload 7, 2) := by decide +kernel
theorem dX11_draws_87 : decode cX11_draws 87 = .ok (.goto 5, 3) := by decide +kernel
theorem dX11_draws_90 : decode cX11_draws 90 = .ok (.iload 5, 2) := by decide +kernel
theorem dX11_draws_92 : decode cX11_draws 92 = .ok (.istore 5, 2) := by decide +kernel
theorem dX11_draws_94 : decode cX11_draws 94 = .ok (.iinc 6 1, 3) := by decide +kernel
theorem dX11_draws_97 : decode cX11_draws 97 = .ok (.goto (-59), 3) := by decide +kernel
theorem dX11_draws_100 : decode cX11_draws 100 = .ok (.iload 5, 2) := by decide +kernel
theorem dX11_draws_102 : decode cX11_draws 102 = .ok (.ireturn, 1) := by decide +kernel
theorem dX11_counted_0 : decode cX11_counted 0 = .ok (.iload_n 1, 1) := by decide +kernel
theorem dX11_counted_1 : decode cX11_counted 1 = .ok (.tableswitch 78 3 8 #[39, 44, 51, 58, 66, 73], 39) := by decide +kernel
theorem dX11_counted_40 : decode cX11_counted 40 = .ok (.aload_n 0, 1) := by decide +kernel
theorem dX11_counted_41 : decode cX11_counted 41 = .ok (.getfield 151, 3) := by decide +kernel
theorem dX11_counted_44 : decode cX11_counted 44 = .ok (.ireturn, 1) := by decide +kernel
theorem dX11_counted_45 : decode cX11_counted 45 = .ok (.aload_n 0, 1) := by decide +kernel
theorem dX11_counted_46 : decode cX11_counted 46 = .ok (.getfield 7, 3) := by decide +kernel
theorem dX11_counted_49 : decode cX11_counted 49 = .ok (.iconst 4, 1) := by decide +kernel
theorem dX11_counted_50 : decode cX11_counted 50 = .ok (.iaload, 1) := by decide +kernel
theorem dX11_counted_51 : decode cX11_counted 51 = .ok (.ireturn, 1) := by decide +kernel
theorem dX11_counted_52 : decode cX11_counted 52 = .ok (.aload_n 0, 1) := by decide +kernel
theorem dX11_counted_53 : decode cX11_counted 53 = .ok (.getfield 7, 3) := by decide +kernel
theorem dX11_counted_56 : decode cX11_counted 56 = .ok (.iconst 5, 1) := by decide +kernel
theorem dX11_counted_57 : decode cX11_counted 57 = .ok (.iaload, 1) := by decide +kernel
theorem dX11_counted_58 : decode cX11_counted 58 = .ok (.ireturn, 1) := by decide +kernel
theorem dX11_counted_59 : decode cX11_counted 59 = .ok (.aload_n 0, 1) := by decide +kernel
theorem dX11_counted_60 : decode cX11_counted 60 = .ok (.getfield 7, 3) := by decide +kernel
theorem dX11_counted_63 : decode cX11_counted 63 = .ok (.bipush 6, 2) := by decide +kernel
theorem dX11_counted_65 : decode cX11_counted 65 = .ok (.iaload, 1) := by decide +kernel
theorem dX11_counted_66 : decode cX11_counted 66 = .ok (.ireturn, 1) := by decide +kernel
theorem dX11_counted_67 : decode cX11_counted 67 = .ok (.aload_n 0, 1) := by decide +kernel
theorem dX11_counted_68 : decode cX11_counted 68 = .ok (.getfield 7, 3) := by decide +kernel
theorem dX11_counted_71 : decode cX11_counted 71 = .ok (.iconst 0, 1) := by decide +kernel
theorem dX11_counted_72 : decode cX11_counted 72 = .ok (.iaload, 1) := by decide +kernel
theorem dX11_counted_73 : decode cX11_counted 73 = .ok (.ireturn, 1) := by decide +kernel
theorem dX11_counted_74 : decode cX11_counted 74 = .ok (.aload_n 0, 1) := by decide +kernel
theorem dX11_counted_75 : decode cX11_counted 75 = .ok (.getfield 114, 3) := by decide +kernel
theorem dX11_counted_78 : decode cX11_counted 78 = .ok (.ireturn, 1) := by decide +kernel
theorem dX11_counted_79 : decode cX11_counted 79 = .ok (.aload_n 0, 1) := by decide +kernel
theorem dX11_counted_80 : decode cX11_counted 80 = .ok (.getfield 16, 3) := by decide +kernel
theorem dX11_counted_83 : decode cX11_counted 83 = .ok (.iload_n 1, 1) := by decide +kernel
theorem dX11_counted_84 : decode cX11_counted 84 = .ok (.iaload, 1) := by decide +kernel
theorem dX11_counted_85 : decode cX11_counted 85 = .ok (.ireturn, 1) := by decide +kernel
theorem dX11_count_0 : decode cX11_count 0 = .ok (.iload_n 1, 1) := by decide +kernel
theorem dX11_count_1 : decode cX11_count 1 = .ok (.i2l, 1) := by decide +kernel
theorem dX11_count_2 : decode cX11_count 2 = .ok (.lconst 0, 1) := by decide +kernel
theorem dX11_count_3 : decode cX11_count 3 = .ok (.ldc2_w 315, 3) := by decide +kernel
theorem dX11_count_6 : decode cX11_count 6 = .ok (.invokestatic 89, 3) := by decide +kernel
theorem dX11_count_9 : decode cX11_count 9 = .ok (.ifCond .eq 11, 3) := by decide +kernel
theorem dX11_count_12 : decode cX11_count 12 = .ok (.aload_n 0, 1) := by decide +kernel
theorem dX11_count_13 : decode cX11_count 13 = .ok (.iload_n 1, 1) := by decide +kernel
theorem dX11_count_14 : decode cX11_count 14 = .ok (.invokevirtual 317, 3) := by decide +kernel
theorem dX11_count_17 : decode cX11_count 17 = .ok (.goto 7, 3) := by decide +kernel
theorem dX11_count_20 : decode cX11_count 20 = .ok (.aload_n 0, 1) := by decide +kernel
theorem dX11_count_21 : decode cX11_count 21 = .ok (.invokevirtual 120, 3) := by decide +kernel
theorem dX11_count_24 : decode cX11_count 24 = .ok (.ireturn, 1) := by decide +kernel
theorem dX11_digest_0 : decode cX11_digest 0 = .ok (.ldc2_w 320, 3) := by decide +kernel
theorem dX11_digest_3 : decode cX11_digest 3 = .ok (.lstore_n 1, 1) := by decide +kernel
theorem dX11_digest_4 : decode cX11_digest 4 = .ok (.iconst 0, 1) := by decide +kernel
theorem dX11_digest_5 : decode cX11_digest 5 = .ok (.istore_n 3, 1) := by decide +kernel
theorem dX11_digest_6 : decode cX11_digest 6 = .ok (.iload_n 3, 1) := by decide +kernel
theorem dX11_digest_7 : decode cX11_digest 7 = .ok (.bipush 9, 2) := by decide +kernel
theorem dX11_digest_9 : decode cX11_digest 9 = .ok (.if_icmp .ge 22, 3) := by decide +kernel
theorem dX11_digest_12 : decode cX11_digest 12 = .ok (.ldc2_w 322, 3) := by decide +kernel
theorem dX11_digest_15 : decode cX11_digest 15 = .ok (.lload_n 1, 1) := by decide +kernel
theorem dX11_digest_16 : decode cX11_digest 16 = .ok (.lmul, 1) := by decide +kernel
theorem dX11_digest_17 : decode cX11_digest 17 = .ok (.aload_n 0, 1) := by decide +kernel
theorem dX11_digest_18 : decode cX11_digest 18 = .ok (.iload_n 3, 1) := by decide +kernel
theorem dX11_digest_19 : decode cX11_digest 19 = .ok (.invokevirtual 317, 3) := by decide +kernel
theorem dX11_digest_22 : decode cX11_digest 22 = .ok (.i2l, 1) := by decide +kernel
theorem dX11_digest_23 : decode cX11_digest 23 = .ok (.ladd, 1) := by decide +kernel
theorem dX11_digest_24 : decode cX11_digest 24 = .ok (.lstore_n 1, 1) := by decide +kernel
theorem dX11_digest_25 : decode cX11_digest 25 = .ok (.iinc 3 1, 3) := by decide +kernel
theorem dX11_digest_28 : decode cX11_digest 28 = .ok (.goto (-22), 3) := by decide +kernel
theorem dX11_digest_31 : decode cX11_digest 31 = .ok (.iconst 0, 1) := by decide +kernel
theorem dX11_digest_32 : decode cX11_digest 32 = .ok (.istore_n 3, 1) := by decide +kernel
theorem dX11_digest_33 : decode cX11_digest 33 = .ok (.iload_n 3, 1) := by decide +kernel
theorem dX11_digest_34 : decode cX11_digest 34 = .ok (.aload_n 0, 1) := by decide +kernel
theorem dX11_digest_35 : decode cX11_digest 35 = .ok (.getfield 7, 3) := by decide +kernel
theorem dX11_digest_38 : decode cX11_digest 38 = .ok (.iconst 0, 1) := by decide +kernel
theorem dX11_digest_39 : decode cX11_digest 39 = .ok (.iaload, 1) := by decide +kernel
theorem dX11_digest_40 : decode cX11_digest 40 = .ok (.if_icmp .ge 25, 3) := by decide +kernel
theorem dX11_digest_43 : decode cX11_digest 43 = .ok (.ldc2_w 322, 3) := by decide +kernel
theorem dX11_digest_46 : decode cX11_digest 46 = .ok (.lload_n 1, 1) := by decide +kernel
theorem dX11_digest_47 : decode cX11_digest 47 = .ok (.lmul, 1) := by decide +kernel
theorem dX11_digest_48 : decode cX11_digest 48 = .ok (.aload_n 0, 1) := by decide +kernel
theorem dX11_digest_49 : decode cX11_digest 49 = .ok (.getfield 7, 3) := by decide +kernel
theorem dX11_digest_52 : decode cX11_digest 52 = .ok (.iconst 1, 1) := by decide +kernel
theorem dX11_digest_53 : decode cX11_digest 53 = .ok (.iload_n 3, 1) := by decide +kernel
theorem dX11_digest_54 : decode cX11_digest 54 = .ok (.iadd, 1) := by decide +kernel
theorem dX11_digest_55 : decode cX11_digest 55 = .ok (.iaload, 1) := by decide +kernel
theorem dX11_digest_56 : decode cX11_digest 56 = .ok (.i2l, 1) := by decide +kernel
theorem dX11_digest_57 : decode cX11_digest 57 = .ok (.ladd, 1) := by decide +kernel
theorem dX11_digest_58 : decode cX11_digest 58 = .ok (.lstore_n 1, 1) := by decide +kernel
theorem dX11_digest_59 : decode cX11_digest 59 = .ok (.iinc 3 1, 3) := by decide +kernel
theorem dX11_digest_62 : decode cX11_digest 62 = .ok (.goto (-29), 3) := by decide +kernel
theorem dX11_digest_65 : decode cX11_digest 65 = .ok (.iconst 0, 1) := by decide +kernel
theorem dX11_digest_66 : decode cX11_digest 66 = .ok (.istore_n 3, 1) := by decide +kernel
theorem dX11_digest_67 : decode cX11_digest 67 = .ok (.iload_n 3, 1) := by decide +kernel
theorem dX11_digest_68 : decode cX11_digest 68 = .ok (.iconst 5, 1) := by decide +kernel
theorem dX11_digest_69 : decode cX11_digest 69 = .ok (.if_icmp .ge 22, 3) := by decide +kernel
theorem dX11_digest_72 : decode cX11_digest 72 = .ok (.ldc2_w 322, 3) := by decide +kernel
theorem dX11_digest_75 : decode cX11_digest 75 = .ok (.lload_n 1, 1) := by decide +kernel
theorem dX11_digest_76 : decode cX11_digest 76 = .ok (.lmul, 1) := by decide +kernel
theorem dX11_digest_77 : decode cX11_digest 77 = .ok (.aload_n 0, 1) := by decide +kernel
theorem dX11_digest_78 : decode cX11_digest 78 = .ok (.iload_n 3, 1) := by decide +kernel
theorem dX11_digest_79 : decode cX11_digest 79 = .ok (.invokevirtual 191, 3) := by decide +kernel
theorem dX11_digest_82 : decode cX11_digest 82 = .ok (.i2l, 1) := by decide +kernel
theorem dX11_digest_83 : decode cX11_digest 83 = .ok (.ladd, 1) := by decide +kernel
theorem dX11_digest_84 : decode cX11_digest 84 = .ok (.lstore_n 1, 1) := by decide +kernel
theorem dX11_digest_85 : decode cX11_digest 85 = .ok (.iinc 3 1, 3) := by decide +kernel
theorem dX11_digest_88 : decode cX11_digest 88 = .ok (.goto (-21), 3) := by decide +kernel
theorem dX11_digest_91 : decode cX11_digest 91 = .ok (.iconst 0, 1) := by decide +kernel
theorem dX11_digest_92 : decode cX11_digest 92 = .ok (.istore_n 3, 1) := by decide +kernel
theorem dX11_digest_93 : decode cX11_digest 93 = .ok (.iload_n 3, 1) := by decide +kernel
theorem dX11_digest_94 : decode cX11_digest 94 = .ok (.iconst 3, 1) := by decide +kernel
theorem dX11_digest_95 : decode cX11_digest 95 = .ok (.if_icmp .ge 23, 3) := by decide +kernel
theorem dX11_digest_98 : decode cX11_digest 98 = .ok (.ldc2_w 322, 3) := by decide +kernel
theorem dX11_digest_101 : decode cX11_digest 101 = .ok (.lload_n 1, 1) := by decide +kernel
theorem dX11_digest_102 : decode cX11_digest 102 = .ok (.lmul, 1) := by decide +kernel
theorem dX11_digest_103 : decode cX11_digest 103 = .ok (.aload_n 0, 1) := by decide +kernel
theorem dX11_digest_104 : decode cX11_digest 104 = .ok (.getfield 84, 3) := by decide +kernel
theorem dX11_digest_107 : decode cX11_digest 107 = .ok (.iload_n 3, 1) := by decide +kernel
theorem dX11_digest_108 : decode cX11_digest 108 = .ok (.iaload, 1) := by decide +kernel
theorem dX11_digest_109 : decode cX11_digest 109 = .ok (.i2l, 1) := by decide +kernel
theorem dX11_digest_110 : decode cX11_digest 110 = .ok (.ladd, 1) := by decide +kernel
theorem dX11_digest_111 : decode cX11_digest 111 = .ok (.lstore_n 1, 1) := by decide +kernel
theorem dX11_digest_112 : decode cX11_digest 112 = .ok (.iinc 3 1, 3) := by decide +kernel
theorem dX11_digest_115 : decode cX11_digest 115 = .ok (.goto (-22), 3) := by decide +kernel
theorem dX11_digest_118 : decode cX11_digest 118 = .ok (.lload_n 1, 1) := by decide +kernel
theorem dX11_digest_119 : decode cX11_digest 119 = .ok (.lreturn, 1) := by decide +kernel
