theorem dX0_init_0 : decode cX0_init 0 = .ok (.aload_n 0, 1) := by decide +kernel
theorem dX0_init_1 : decode cX0_init 1 = .ok (.invokespecial 1, 3) := by decide +kernel
theorem dX0_init_4 : decode cX0_init 4 = .ok (.aload_n 0, 1) := by decide +kernel
theorem dX0_init_5 : decode cX0_init 5 = .ok (.aload_n 1, 1) := by decide +kernel
theorem dX0_init_6 : decode cX0_init 6 = .ok (.putfield 7, 3) := by decide +kernel
theorem dX0_init_9 : decode cX0_init 9 = .ok (.aload_n 0, 1) := by decide +kernel
theorem dX0_init_10 : decode cX0_init 10 = .ok (.iload_n 2, 1) := by decide +kernel
theorem dX0_init_11 : decode cX0_init 11 = .ok (.putfield 13, 3) := by decide +kernel
theorem dX0_init_14 : decode cX0_init 14 = .ok (.aload_n 0, 1) := by decide +kernel
theorem dX0_init_15 : decode cX0_init 15 = .ok (.lload_n 3, 1) := by decide +kernel
theorem dX0_init_16 : decode cX0_init 16 = .ok (.putfield 17, 3) := by decide +kernel
theorem dX0_init_19 : decode cX0_init 19 = .ok (.aload_n 0, 1) := by decide +kernel
theorem dX0_init_20 : decode cX0_init 20 = .ok (.iload 5, 2) := by decide +kernel
theorem dX0_init_22 : decode cX0_init 22 = .ok (.putfield 21, 3) := by decide +kernel
theorem dX0_init_25 : decode cX0_init 25 = .ok (.return_, 1) := by decide +kernel
theorem dX0_stuffOf_0 : decode cX0_stuffOf 0 = .ok (.aload_n 0, 1) := by decide +kernel
theorem dX0_stuffOf_1 : decode cX0_stuffOf 1 = .ok (.getfield 13, 3) := by decide +kernel
theorem dX0_stuffOf_4 : decode cX0_stuffOf 4 = .ok (.i2l, 1) := by decide +kernel
theorem dX0_stuffOf_5 : decode cX0_stuffOf 5 = .ok (.aload_n 0, 1) := by decide +kernel
theorem dX0_stuffOf_6 : decode cX0_stuffOf 6 = .ok (.getfield 13, 3) := by decide +kernel
theorem dX0_stuffOf_9 : decode cX0_stuffOf 9 = .ok (.i2l, 1) := by decide +kernel
theorem dX0_stuffOf_10 : decode cX0_stuffOf 10 = .ok (.lmul, 1) := by decide +kernel
theorem dX0_stuffOf_11 : decode cX0_stuffOf 11 = .ok (.iload_n 1, 1) := by decide +kernel
theorem dX0_stuffOf_12 : decode cX0_stuffOf 12 = .ok (.i2l, 1) := by decide +kernel
theorem dX0_stuffOf_13 : decode cX0_stuffOf 13 = .ok (.lmul, 1) := by decide +kernel
theorem dX0_stuffOf_14 : decode cX0_stuffOf 14 = .ok (.lreturn, 1) := by decide +kernel
theorem dX0_feet_0 : decode cX0_feet 0 = .ok (.aload_n 0, 1) := by decide +kernel
theorem dX0_feet_1 : decode cX0_feet 1 = .ok (.getfield 17, 3) := by decide +kernel
theorem dX0_feet_4 : decode cX0_feet 4 = .ok (.aload_n 0, 1) := by decide +kernel
theorem dX0_feet_5 : decode cX0_feet 5 = .ok (.iconst 1, 1) := by decide +kernel
theorem dX0_feet_6 : decode cX0_feet 6 = .ok (.invokevirtual 25, 3) := by decide +kernel
theorem dX0_feet_9 : decode cX0_feet 9 = .ok (.invokestatic 29, 3) := by decide +kernel
theorem dX0_feet_12 : decode cX0_feet 12 = .ok (.l2i, 1) := by decide +kernel
theorem dX0_feet_13 : decode cX0_feet 13 = .ok (.ireturn, 1) := by decide +kernel
theorem dX0_isGone_0 : decode cX0_isGone 0 = .ok (.aload_n 0, 1) := by decide +kernel
theorem dX0_isGone_1 : decode cX0_isGone 1 = .ok (.invokevirtual 35, 3) := by decide +kernel
theorem dX0_isGone_4 : decode cX0_isGone 4 = .ok (.ifCond .ne 7, 3) := by decide +kernel
theorem dX0_isGone_7 : decode cX0_isGone 7 = .ok (.iconst 1, 1) := by decide +kernel
theorem dX0_isGone_8 : decode cX0_isGone 8 = .ok (.goto 4, 3) := by decide +kernel
theorem dX0_isGone_11 : decode cX0_isGone 11 = .ok (.iconst 0, 1) := by decide +kernel
theorem dX0_isGone_12 : decode cX0_isGone 12 = .ok (.ireturn, 1) := by decide +kernel
theorem dX1_init_0 : decode cX1_init 0 = .ok (.aload_n 0, 1) := by decide +kernel
theorem dX1_init_1 : decode cX1_init 1 = .ok (.invokespecial 3, 3) := by decide +kernel
theorem dX1_init_4 : decode cX1_init 4 = .ok (.aload_n 0, 1) := by decide +kernel
theorem dX1_init_5 : decode cX1_init 5 = .ok (.bipush 64, 2) := by decide +kernel
theorem dX1_init_7 : decode cX1_init 7 = .ok (.newarray .int, 2) := by decide +kernel
theorem dX1_init_9 : decode cX1_init 9 = .ok (.putfield 11, 3) := by decide +kernel
theorem dX1_init_12 : decode cX1_init 12 = .ok (.aload_n 0, 1) := by decide +kernel
theorem dX1_init_13 : decode cX1_init 13 = .ok (.bipush 64, 2) := by decide +kernel
theorem dX1_init_15 : decode cX1_init 15 = .ok (.newarray .int, 2) := by decide +kernel
theorem dX1_init_17 : decode cX1_init 17 = .ok (.putfield 15, 3) := by decide +kernel
theorem dX1_init_20 : decode cX1_init 20 = .ok (.aload_n 0, 1) := by decide +kernel
theorem dX1_init_21 : decode cX1_init 21 = .ok (.bipush 64, 2) := by decide +kernel
theorem dX1_init_23 : decode cX1_init 23 = .ok (.newarray .int, 2) := by decide +kernel
theorem dX1_init_25 : decode cX1_init 25 = .ok (.putfield 18, 3) := by decide +kernel
theorem dX1_init_28 : decode cX1_init 28 = .ok (.aload_n 0, 1) := by decide +kernel
theorem dX1_init_29 : decode cX1_init 29 = .ok (.bipush 64, 2) := by decide +kernel
theorem dX1_init_31 : decode cX1_init 31 = .ok (.newarray .int, 2) := by decide +kernel
theorem dX1_init_33 : decode cX1_init 33 = .ok (.putfield 21, 3) := by decide +kernel
theorem dX1_init_36 : decode cX1_init 36 = .ok (.aload_n 0, 1) := by decide +kernel
theorem dX1_init_37 : decode cX1_init 37 = .ok (.ldc 24, 2) := by decide +kernel
theorem dX1_init_39 : decode cX1_init 39 = .ok (.putfield 25, 3) := by decide +kernel
theorem dX1_init_42 : decode cX1_init 42 = .ok (.return_, 1) := by decide +kernel
theorem dX1_seek_0 : decode cX1_seek 0 = .ok (.aload_n 0, 1) := by decide +kernel
theorem dX1_seek_1 : decode cX1_seek 1 = .ok (.aload_n 2, 1) := by decide +kernel
theorem dX1_seek_2 : decode cX1_seek 2 = .ok (.invokevirtual 29, 3) := by decide +kernel
theorem dX1_seek_5 : decode cX1_seek 5 = .ok (.iconst 0, 1) := by decide +kernel
theorem dX1_seek_6 : decode cX1_seek 6 = .ok (.istore_n 3, 1) := by decide +kernel
theorem dX1_seek_7 : decode cX1_seek 7 = .ok (.iload_n 3, 1) := by decide +kernel
theorem dX1_seek_8 : decode cX1_seek 8 = .ok (.bipush 64, 2) := by decide +kernel
theorem dX1_seek_10 : decode cX1_seek 10 = .ok (.if_icmp .ge 26, 3) := by decide +kernel
theorem dX1_seek_13 : decode cX1_seek 13 = .ok (.aload_n 0, 1) := by decide +kernel
theorem dX1_seek_14 : decode cX1_seek 14 = .ok (.getfield 18, 3) := by decide +kernel
theorem dX1_seek_17 : decode cX1_seek 17 = .ok (.iload_n 3, 1) := by decide +kernel
theorem dX1_seek_18 : decode cX1_seek 18 = .ok (.iload_n 3, 1) := by decide +kernel
theorem dX1_seek_19 : decode cX1_seek 19 = .ok (.ifCond .ne 8, 3) := by decide +kernel
theorem dX1_seek_22 : decode cX1_seek 22 = .ok (.ldc 24, 2) := by decide +kernel
theorem dX1_seek_24 : decode cX1_seek 24 = .ok (.goto 5, 3) := by decide +kernel
theorem dX1_seek_27 : decode cX1_seek 27 = .ok (.ldc 33, 2) := by decide +kernel
theorem dX1_seek_29 : decode cX1_seek 29 = .ok (.iastore, 1) := by decide +kernel
theorem dX1_seek_30 : decode cX1_seek 30 = .ok (.iinc 3 1, 3) := by decide +kernel
theorem dX1_seek_33 : decode cX1_seek 33 = .ok (.goto (-26), 3) := by decide +kernel
theorem dX1_seek_36 : decode cX1_seek 36 = .ok (.iconst 0, 1) := by decide +kernel
theorem dX1_seek_37 : decode cX1_seek 37 = .ok (.istore_n 3, 1) := by decide +kernel
theorem dX1_seek_38 : decode cX1_seek 38 = .ok (.iload_n 3, 1) := by decide +kernel
theorem dX1_seek_39 : decode cX1_seek 39 = .ok (.aload_n 1, 1) := by decide +kernel
theorem dX1_seek_40 : decode cX1_seek 40 = .ok (.arraylength, 1) := by decide +kernel
theorem dX1_seek_41 : decode cX1_seek 41 = .ok (.if_icmp .ge 33, 3) := by decide +kernel
theorem dX1_seek_44 : decode cX1_seek 44 = .ok (.aload_n 1, 1) := by decide +kernel
theorem dX1_seek_45 : decode cX1_seek 45 = .ok (.iload_n 3, 1) := by decide +kernel
theorem dX1_seek_46 : decode cX1_seek 46 = .ok (.aaload, 1) := by decide +kernel
theorem dX1_seek_47 : decode cX1_seek 47 = .ok (.ifnull 21, 3) := by decide +kernel
theorem dX1_seek_50 : decode cX1_seek 50 = .ok (.aload_n 1, 1) := by decide +kernel
theorem dX1_seek_51 : decode cX1_seek 51 = .ok (.iload_n 3, 1) := by decide +kernel
theorem dX1_seek_52 : decode cX1_seek 52 = .ok (.aaload, 1) := by decide +kernel
theorem dX1_seek_53 : decode cX1_seek 53 = .ok (.invokevirtual 34, 3) := by decide +kernel
theorem dX1_seek_56 : decode cX1_seek 56 = .ok (.ifCond .ne 12, 3) := by decide +kernel
theorem dX1_seek_59 : decode cX1_seek 59 = .ok (.aload_n 0, 1) := by decide +kernel
theorem dX1_seek_60 : decode cX1_seek 60 = .ok (.aload_n 1, 1) := by decide +kernel
theorem dX1_seek_61 : decode cX1_seek 61 = .ok (.iload_n 3, 1) := by decide +kernel
theorem dX1_seek_62 : decode cX1_seek 62 = .ok (.aaload, 1) := by decide +kernel
theorem dX1_seek_63 : decode cX1_seek 63 = .ok (.iload_n 3, 1) := by decide +kernel
theorem dX1_seek_64 : decode cX1_seek 64 = .ok (.aload_n 2, 1) := by decide +kernel
theorem dX1_seek_65 : decode cX1_seek 65 = .ok (.invokevirtual 40, 3) := by decide +kernel
theorem dX1_seek_68 : decode cX1_seek 68 = .ok (.iinc 3 1, 3) := by decide +kernel
theorem dX1_seek_71 : decode cX1_seek 71 = .ok (.goto (-33), 3) := by decide +kernel
theorem dX1_seek_74 : decode cX1_seek 74 = .ok (.aload_n 0, 1) := by decide +kernel
theorem dX1_seek_75 : decode cX1_seek 75 = .ok (.iconst 0, 1) := by decide +kernel
theorem dX1_seek_76 : decode cX1_seek 76 = .ok (.putfield 44, 3) := by decide +kernel
theorem dX1_seek_79 : decode cX1_seek 79 = .ok (.aload_n 0, 1) := by decide +kernel
theorem dX1_seek_80 : decode cX1_seek 80 = .ok (.ldc 24, 2) := by decide +kernel
theorem dX1_seek_82 : decode cX1_seek 82 = .ok (.putfield 25, 3) := by decide +kernel
theorem dX1_seek_85 : decode cX1_seek 85 = .ok (.iconst 1, 1) := by decide +kernel
theorem dX1_seek_86 : decode cX1_seek 86 = .ok (.istore_n 3, 1) := by decide +kernel
theorem dX1_seek_87 : decode cX1_seek 87 = .ok (.iload_n 3, 1) := by decide +kernel
theorem dX1_seek_88 : decode cX1_seek 88 = .ok (.bipush 64, 2) := by decide +kernel
theorem dX1_seek_90 : decode cX1_seek 90 = .ok (.if_icmp .ge 82, 3) := by decide +kernel
theorem dX1_seek_93 : decode cX1_seek 93 = .ok (.aload_n 0, 1) := by decide +kernel
theorem dX1_seek_94 : decode cX1_seek 94 = .ok (.getfield 18, 3) := by decide +kernel
theorem dX1_seek_97 : decode cX1_seek 97 = .ok (.iload_n 3, 1) := by decide +kernel
theorem dX1_seek_98 : decode cX1_seek 98 = .ok (.iaload, 1) := by decide +kernel
theorem dX1_seek_99 : decode cX1_seek 99 = .ok (.ldc 33, 2) := by decide +kernel
theorem dX1_seek_101 : decode cX1_seek 101 = .ok (.if_icmp .eq 65, 3) := by decide +kernel
theorem dX1_seek_104 : decode cX1_seek 104 = .ok (.aload_n 0, 1) := by decide +kernel
theorem dX1_seek_105 : decode cX1_seek 105 = .ok (.getfield 11, 3) := by decide +kernel
theorem dX1_seek_108 : decode cX1_seek 108 = .ok (.iload_n 3, 1) := by decide +kernel
theorem dX1_seek_109 : decode cX1_seek 109 = .ok (.iaload, 1) := by decide +kernel
theorem dX1_seek_110 : decode cX1_seek 110 = .ok (.aload_n 0, 1) := by decide +kernel
theorem dX1_seek_111 : decode cX1_seek 111 = .ok (.getfield 44, 3) := by decide +kernel
theorem dX1_seek_114 : decode cX1_seek 114 = .ok (.if_icmp .ge 6, 3) := by decide +kernel
theorem dX1_seek_117 : decode cX1_seek 117 = .ok (.goto 49, 3) := by decide +kernel
theorem dX1_seek_120 : decode cX1_seek 120 = .ok (.aload_n 0, 1) := by decide +kernel
theorem dX1_seek_121 : decode cX1_seek 121 = .ok (.getfield 11, 3) := by decide +kernel
theorem dX1_seek_124 : decode cX1_seek 124 = .ok (.iload_n 3, 1) := by decide +kernel
theorem dX1_seek_125 : decode cX1_seek 125 = .ok (.iaload, 1) := by decide +kernel
theorem dX1_seek_126 : decode cX1_seek 126 = .ok (.aload_n 0, 1) := by decide +kernel
theorem dX1_seek_127 : decode cX1_seek 127 = .ok (.getfield 44, 3) := by decide +kernel
theorem dX1_seek_130 : decode cX1_seek 130 = .ok (.if_icmp .gt 16, 3) := by decide +kernel
theorem dX1_seek_133 : decode cX1_seek 133 = .ok (.aload_n 0, 1) := by decide +kernel
theorem dX1_seek_134 : decode cX1_seek 134 = .ok (.getfield 18, 3) := by decide +kernel
theorem dX1_seek_137 : decode cX1_seek 137 = .ok (.iload_n 3, 1) := by decide +kernel
theorem dX1_seek_138 : decode cX1_seek 138 = .ok (.iaload, 1) := by decide +kernel
theorem dX1_seek_139 : decode cX1_seek 139 = .ok (.aload_n 0, 1) := by decide +kernel
theorem dX1_seek_140 : decode cX1_seek 140 = .ok (.getfield 25, 3) := by decide +kernel
theorem dX1_seek_143 : decode cX1_seek 143 = .ok (.if_icmp .ge 23, 3) := by decide +kernel
theorem dX1_seek_146 : decode cX1_seek 146 = .ok (.aload_n 0, 1) := by decide +kernel
theorem dX1_seek_147 : decode cX1_seek 147 = .ok (.aload_n 0, 1) := by decide +kernel
theorem dX1_seek_148 : decode cX1_seek 148 = .ok (.getfield 11, 3) := by decide +kernel
theorem dX1_seek_151 : decode cX1_seek 151 = .ok (.iload_n 3, 1) := by decide +kernel
theorem dX1_seek_152 : decode cX1_seek 152 = .ok (.iaload, 1) := by decide +kernel
theorem dX1_seek_153 : decode cX1_seek 153 = .ok (.putfield 44, 3) := by decide +kernel
theorem dX1_seek_156 : decode cX1_seek 156 = .ok (.aload_n 0, 1) := by decide +kernel
theorem dX1_seek_157 : decode cX1_seek 157 = .ok (.aload_n 0, 1) := by decide +kernel
theorem dX1_seek_158 : decode cX1_seek 158 = .ok (.getfield 18, 3) := by decide +kernel
theorem dX1_seek_161 : decode cX1_seek 161 = .ok (.iload_n 3, 1) := by decide +kernel
theorem dX1_seek_162 : decode cX1_seek 162 = .ok (.iaload, 1) := by decide +kernel
theorem dX1_seek_163 : decode cX1_seek 163 = .ok (.putfield 25, 3) := by decide +kernel
theorem dX1_seek_166 : decode cX1_seek 166 = .ok (.iinc 3 1, 3) := by decide +kernel
theorem dX1_seek_169 : decode cX1_seek 169 = .ok (.goto (-82), 3) := by decide +kernel
theorem dX1_seek_172 : decode cX1_seek 172 = .ok (.return_, 1) := by decide +kernel
theorem dX1_coilOf_0 : decode cX1_coilOf 0 = .ok (.iload_n 1, 1) := by decide +kernel
theorem dX1_coilOf_1 : decode cX1_coilOf 1 = .ok (.ifCond .lt 11, 3) := by decide +kernel
theorem dX1_coilOf_4 : decode cX1_coilOf 4 = .ok (.iload_n 1, 1) := by decide +kernel
theorem dX1_coilOf_5 : decode cX1_coilOf 5 = .ok (.getstatic 47, 3) := by decide +kernel
theorem dX1_coilOf_8 : decode cX1_coilOf 8 = .ok (.arraylength, 1) := by decide +kernel
theorem dX1_coilOf_9 : decode cX1_coilOf 9 = .ok (.if_icmp .lt 5, 3) := by decide +kernel
theorem dX1_coilOf_12 : decode cX1_coilOf 12 = .ok (.iconst (-1), 1) := by decide +kernel
theorem dX1_coilOf_13 : decode cX1_coilOf 13 = .ok (.ireturn, 1) := by decide +kernel
theorem dX1_coilOf_14 : decode cX1_coilOf 14 = .ok (.aload_n 0, 1) := by decide +kernel
theorem dX1_coilOf_15 : decode cX1_coilOf 15 = .ok (.getfield 25, 3) := by decide +kernel
theorem dX1_coilOf_18 : decode cX1_coilOf 18 = .ok (.i2l, 1) := by decide +kernel
theorem dX1_coilOf_19 : decode cX1_coilOf 19 = .ok (.getstatic 47, 3) := by decide +kernel
theorem dX1_coilOf_22 : decode cX1_coilOf 22 = .ok (.iload_n 1, 1) := by decide +kernel
theorem dX1_coilOf_23 : decode cX1_coilOf 23 = .ok (.iaload, 1) := by decide +kernel
theorem dX1_coilOf_24 : decode cX1_coilOf 24 = .ok (.i2l, 1) := by decide +kernel
theorem dX1_coilOf_25 : decode cX1_coilOf 25 = .ok (.invokestatic 50, 3) := by decide +kernel
theorem dX1_coilOf_28 : decode cX1_coilOf 28 = .ok (.l2i, 1) := by decide +kernel
theorem dX1_coilOf_29 : decode cX1_coilOf 29 = .ok (.bipush 17, 2) := by decide +kernel
theorem dX1_coilOf_31 : decode cX1_coilOf 31 = .ok (.irem, 1) := by decide +kernel
theorem dX1_coilOf_32 : decode cX1_coilOf 32 = .ok (.istore_n 2, 1) := by decide +kernel
theorem dX1_coilOf_33 : decode cX1_coilOf 33 = .ok (.iload_n 2, 1) := by decide +kernel
theorem dX1_coilOf_34 : decode cX1_coilOf 34 = .ok (.bipush 16, 2) := by decide +kernel
theorem dX1_coilOf_36 : decode cX1_coilOf 36 = .ok (.if_icmp .ne 7, 3) := by decide +kernel
theorem dX1_coilOf_39 : decode cX1_coilOf 39 = .ok (.iconst (-1), 1) := by decide +kernel
theorem dX1_coilOf_40 : decode cX1_coilOf 40 = .ok (.goto 4, 3) := by decide +kernel
theorem dX1_coilOf_43 : decode cX1_coilOf 43 = .ok (.iload_n 2, 1) := by decide +kernel
theorem dX1_coilOf_44 : decode cX1_coilOf 44 = .ok (.ireturn, 1) := by decide +kernel
theorem dX1_uses_0 : decode cX1_uses 0 = .ok (.iconst 0, 1) := by decide +kernel
theorem dX1_uses_1 : decode cX1_uses 1 = .ok (.istore_n 2, 1) := by decide +kernel
theorem dX1_uses_2 : decode cX1_uses 2 = .ok (.iload_n 2, 1) := by decide +kernel
theorem dX1_uses_3 : decode cX1_uses 3 = .ok (.getstatic 47, 3) := by decide +kernel
theorem dX1_uses_6 : decode cX1_uses 6 = .ok (.arraylength, 1) := by decide +kernel
theorem dX1_uses_7 : decode cX1_uses 7 = .ok (.if_icmp .ge 20, 3) := by decide +kernel
theorem dX1_uses_10 : decode cX1_uses 10 = .ok (.aload_n 0, 1) := by decide +kernel
theorem dX1_uses_11 : decode cX1_uses 11 = .ok (.iload_n 2, 1) := by decide +kernel
theorem dX1_uses_12 : decode cX1_uses 12 = .ok (.invokevirtual 54, 3) := by decide +kernel
theorem dX1_uses_15 : decode cX1_uses 15 = .ok (.iload_n 1, 1) := by decide +kernel
theorem dX1_uses_16 : decode cX1_uses 16 = .ok (.if_icmp .ne 5, 3) := by decide +kernel
theorem dX1_uses_19 : decode cX1_uses 19 = .ok (.iconst 1, 1) := by decide +kernel
theorem dX1_uses_20 : decode cX1_uses 20 = .ok (.ireturn, 1) := by decide +kernel
theorem dX1_uses_21 : decode cX1_uses 21 = .ok (.iinc 2 1, 3) := by decide +kernel
theorem dX1_uses_24 : decode cX1_uses 24 = .ok (.goto (-22), 3) := by decide +kernel
theorem dX1_uses_27 : decode cX1_uses 27 = .ok (.iconst 0, 1) := by decide +kernel
theorem dX1_uses_28 : decode cX1_uses 28 = .ok (.ireturn, 1) := by decide +kernel
theorem dX1_measureSets_0 : decode cX1_measureSets 0 = .ok (.iconst 0, 1) := by decide +kernel
theorem dX1_measureSets_1 : decode cX1_measureSets 1 = .ok (.istore_n 2, 1) := by decide +kernel
theorem dX1_measureSets_2 : decode cX1_measureSets 2 = .ok (.iload_n 2, 1) := by decide +kernel
theorem dX1_measureSets_3 : decode cX1_measureSets 3 = .ok (.bipush 64, 2) := by decide +kernel
theorem dX1_measureSets_5 : decode cX1_measureSets 5 = .ok (.if_icmp .ge 91, 3) := by decide +kernel
theorem dX1_measureSets_8 : decode cX1_measureSets 8 = .ok (.aload_n 0, 1) := by decide +kernel
theorem dX1_measureSets_9 : decode cX1_measureSets 9 = .ok (.getfield 11, 3) := by decide +kernel
theorem dX1_measureSets_12 : decode cX1_measureSets 12 = .ok (.iload_n 2, 1) := by decide +kernel
theorem dX1_measureSets_13 : decode cX1_measureSets 13 = .ok (.iconst 0, 1) := by decide +kernel
theorem dX1_measureSets_14 : decode cX1_measureSets 14 = .ok (.iastore, 1) := by decide +kernel
theorem dX1_measureSets_15 : decode cX1_measureSets 15 = .ok (.aload_n 0, 1) := by decide +kernel
theorem dX1_measureSets_16 : decode cX1_measureSets 16 = .ok (.getfield 15, 3) := by decide +kernel
theorem dX1_measureSets_19 : decode cX1_measureSets 19 = .ok (.iload_n 2, 1) := by decide +kernel
theorem dX1_measureSets_20 : decode cX1_measureSets 20 = .ok (.iconst 0, 1) := by decide +kernel
theorem dX1_measureSets_21 : decode cX1_measureSets 21 = .ok (.iastore, 1) := by decide +kernel
theorem dX1_measureSets_22 : decode cX1_measureSets 22 = .ok (.iconst 0, 1) := by decide +kernel
theorem dX1_measureSets_23 : decode cX1_measureSets 23 = .ok (.istore_n 3, 1) := by decide +kernel
theorem dX1_measureSets_24 : decode cX1_measureSets 24 = .ok (.iload_n 3, 1) := by decide +kernel
theorem dX1_measureSets_25 : decode cX1_measureSets 25 = .ok (.aload_n 1, 1) := by decide +kernel
theorem dX1_measureSets_26 : decode cX1_measureSets 26 = .ok (.arraylength, 1) := by decide +kernel
theorem dX1_measureSets_27 : decode cX1_measureSets 27 = .ok (.if_icmp .ge 63, 3) := by decide +kernel
theorem dX1_measureSets_30 : decode cX1_measureSets 30 = .ok (.iload_n 3, 1) := by decide +kernel
theorem dX1_measureSets_31 : decode cX1_measureSets 31 = .ok (.getstatic 47, 3) := by decide +kernel
theorem dX1_measureSets_34 : decode cX1_measureSets 34 = .ok (.arraylength, 1) := by decide +kernel
theorem dX1_measureSets_35 : decode cX1_measureSets 35 = .ok (.if_icmp .ge 55, 3) := by decide +kernel
theorem dX1_measureSets_38 : decode cX1_measureSets 38 = .ok (.iload_n 2, 1) := by decide +kernel
theorem dX1_measureSets_39 : decode cX1_measureSets 39 = .ok (.iload_n 3, 1) := by decide +kernel
theorem dX1_measureSets_40 : decode cX1_measureSets 40 = .ok (.ishr, 1) := by decide +kernel
theorem dX1_measureSets_41 : decode cX1_measureSets 41 = .ok (.iconst 1, 1) := by decide +kernel
theorem dX1_measureSets_42 : decode cX1_measureSets 42 = .ok (.iand, 1) := by decide +kernel
theorem dX1_measureSets_43 : decode cX1_measureSets 43 = .ok (.ifCond .ne 6, 3) := by decide +kernel
theorem dX1_measureSets_46 : decode cX1_measureSets 46 = .ok (.goto 38, 3) := by decide +kernel
theorem dX1_measureSets_49 : decode cX1_measureSets 49 = .ok (.aload_n 0, 1) := by decide +kernel
theorem dX1_measureSets_50 : decode cX1_measureSets 50 = .ok (.getfield 15, 3) := by decide +kernel
theorem dX1_measureSets_53 : decode cX1_measureSets 53 = .ok (.iload_n 2, 1) := by decide +kernel
theorem dX1_measureSets_54 : decode cX1_measureSets 54 = .ok (.dup2, 1) := by decide +kernel
theorem dX1_measureSets_55 : decode cX1_measureSets 55 = .ok (.iaload, 1) := by decide +kernel
theorem dX1_measureSets_56 : decode cX1_measureSets 56 = .ok (.getstatic 47, 3) := by decide +kernel
theorem dX1_measureSets_59 : decode cX1_measureSets 59 = .ok (.iload_n 3, 1) := by decide +kernel
theorem dX1_measureSets_60 : decode cX1_measureSets 60 = .ok (.iaload, 1) := by decide +kernel
theorem dX1_measureSets_61 : decode cX1_measureSets 61 = .ok (.iadd, 1) := by decide +kernel
theorem dX1_measureSets_62 : decode cX1_measureSets 62 = .ok (.iastore, 1) := by decide +kernel
theorem dX1_measureSets_63 : decode cX1_measureSets 63 = .ok (.aload_n 1, 1) := by decide +kernel
theorem dX1_measureSets_64 : decode cX1_measureSets 64 = .ok (.iload_n 3, 1) := by decide +kernel
theorem dX1_measureSets_65 : decode cX1_measureSets 65 = .ok (.aaload, 1) := by decide +kernel
theorem dX1_measureSets_66 : decode cX1_measureSets 66 = .ok (.ifnull 18, 3) := by decide +kernel
theorem dX1_measureSets_69 : decode cX1_measureSets 69 = .ok (.aload_n 0, 1) := by decide +kernel
theorem dX1_measureSets_70 : decode cX1_measureSets 70 = .ok (.getfield 11, 3) := by decide +kernel
theorem dX1_measureSets_73 : decode cX1_measureSets 73 = .ok (.iload_n 2, 1) := by decide +kernel
theorem dX1_measureSets_74 : decode cX1_measureSets 74 = .ok (.dup2, 1) := by decide +kernel
theorem dX1_measureSets_75 : decode cX1_measureSets 75 = .ok (.iaload, 1) := by decide +kernel
theorem dX1_measureSets_76 : decode cX1_measureSets 76 = .ok (.aload_n 1, 1) := by decide +kernel
theorem dX1_measureSets_77 : decode cX1_measureSets 77 = .ok (.iload_n 3, 1) := by decide +kernel
theorem dX1_measureSets_78 : decode cX1_measureSets 78 = .ok (.aaload, 1) := by decide +kernel
theorem dX1_measureSets_79 : decode cX1_measureSets 79 = .ok (.getfield 58, 3) := by decide +kernel
theorem dX1_measureSets_82 : decode cX1_measureSets 82 = .ok (.iadd, 1) := by decide +kernel
theorem dX1_measureSets_83 : decode cX1_measureSets 83 = .ok (.iastore, 1) := by decide +kernel
theorem dX1_measureSets_84 : decode cX1_measureSets 84 = .ok (.iinc 3 1, 3) := by decide +kernel
theorem dX1_measureSets_87 : decode cX1_measureSets 87 = .ok (.goto (-63), 3) := by decide +kernel
theorem dX1_measureSets_90 : decode cX1_measureSets 90 = .ok (.iinc 2 1, 3) := by decide +kernel
theorem dX1_measureSets_93 : decode cX1_measureSets 93 = .ok (.goto (-91), 3) := by decide +kernel
theorem dX1_measureSets_96 : decode cX1_measureSets 96 = .ok (.return_, 1) := by decide +kernel
theorem dX1_offer_0 : decode cX1_offer 0 = .ok (.aload_n 1, 1) := by decide +kernel
theorem dX1_offer_1 : decode cX1_offer 1 = .ok (.aload_n 3, 1) := by decide +kernel
theorem dX1_offer_2 : decode cX1_offer 2 = .ok (.invokestatic 61, 3) := by decide +kernel
theorem dX1_offer_5 : decode cX1_offer 5 = .ok (.istore 4, 2) := by decide +kernel
theorem dX1_offer_7 : decode cX1_offer 7 = .ok (.iload 4, 2) := by decide +kernel
theorem dX1_offer_9 : decode cX1_offer 9 = .ok (.ifCond .ne 4, 3) := by decide +kernel
theorem dX1_offer_12 : decode cX1_offer 12 = .ok (.return_, 1) := by decide +kernel
theorem dX1_offer_13 : decode cX1_offer 13 = .ok (.aload_n 1, 1) := by decide +kernel
theorem dX1_offer_14 : decode cX1_offer 14 = .ok (.invokevirtual 65, 3) := by decide +kernel
theorem dX1_offer_17 : decode cX1_offer 17 = .ok (.istore 5, 2) := by decide +kernel
theorem dX1_offer_19 : decode cX1_offer 19 = .ok (.iconst 0, 1) := by decide +kernel
theorem dX1_offer_20 : decode cX1_offer 20 = .ok (.istore 6, 2) := by decide +kernel
theorem dX1_offer_22 : decode cX1_offer 22 = .ok (.iload 6, 2) := by decide +kernel
theorem dX1_offer_24 : decode cX1_offer 24 = .ok (.bipush 64, 2) := by decide +kernel
theorem dX1_offer_26 : decode cX1_offer 26 = .ok (.if_icmp .ge 23, 3) := by decide +kernel
theorem dX1_offer_29 : decode cX1_offer 29 = .ok (.aload_n 0, 1) := by decide +kernel
theorem dX1_offer_30 : decode cX1_offer 30 = .ok (.getfield 21, 3) := by decide +kernel
theorem dX1_offer_33 : decode cX1_offer 33 = .ok (.iload 6, 2) := by decide +kernel
theorem dX1_offer_35 : decode cX1_offer 35 = .ok (.aload_n 0, 1) := by decide +kernel
theorem dX1_offer_36 : decode cX1_offer 36 = .ok (.getfield 18, 3) := by decide +kernel
theorem dX1_offer_39 : decode cX1_offer 39 = .ok (.iload 6, 2) := by decide +kernel
theorem dX1_offer_41 : decode cX1_offer 41 = .ok (.iaload, 1) := by decide +kernel
theorem dX1_offer_42 : decode cX1_offer 42 = .ok (.iastore, 1) := by decide +kernel
theorem dX1_offer_43 : decode cX1_offer 43 = .ok (.iinc 6 1, 3) := by decide +kernel
theorem dX1_offer_46 : decode cX1_offer 46 = .ok (.goto (-24), 3) := by decide +kernel
theorem dX1_offer_49 : decode cX1_offer 49 = .ok (.iconst 1, 1) := by decide +kernel
theorem dX1_offer_50 : decode cX1_offer 50 = .ok (.istore 6, 2) := by decide +kernel
theorem dX1_offer_52 : decode cX1_offer 52 = .ok (.iload 6, 2) := by decide +kernel
theorem dX1_offer_54 : decode cX1_offer 54 = .ok (.bipush 64, 2) := by decide +kernel
theorem dX1_offer_56 : decode cX1_offer 56 = .ok (.if_icmp .ge 55, 3) := by decide +kernel
theorem dX1_offer_59 : decode cX1_offer 59 = .ok (.iload 6, 2) := by decide +kernel
theorem dX1_offer_61 : decode cX1_offer 61 = .ok (.iload 4, 2) := by decide +kernel
theorem dX1_offer_63 : decode cX1_offer 63 = .ok (.iconst (-1), 1) := by decide +kernel
theorem dX1_offer_64 : decode cX1_offer 64 = .ok (.ixor, 1) := by decide +kernel
theorem dX1_offer_65 : decode cX1_offer 65 = .ok (.iand, 1) := by decide +kernel
theorem dX1_offer_66 : decode cX1_offer 66 = .ok (.ifCond .ne 39, 3) := by decide +kernel
theorem dX1_offer_69 : decode cX1_offer 69 = .ok (.aload_n 0, 1) := by decide +kernel
theorem dX1_offer_70 : decode cX1_offer 70 = .ok (.getfield 11, 3) := by decide +kernel
theorem dX1_offer_73 : decode cX1_offer 73 = .ok (.iload 6, 2) := by decide +kernel
theorem dX1_offer_75 : decode cX1_offer 75 = .ok (.iaload, 1) := by decide +kernel
theorem dX1_offer_76 : decode cX1_offer 76 = .ok (.iload 5, 2) := by decide +kernel
theorem dX1_offer_78 : decode cX1_offer 78 = .ok (.if_icmp .le 6, 3) := by decide +kernel
theorem dX1_offer_81 : decode cX1_offer 81 = .ok (.goto 24, 3) := by decide +kernel
theorem dX1_offer_84 : decode cX1_offer 84 = .ok (.aload_n 0, 1) := by decide +kernel
theorem dX1_offer_85 : decode cX1_offer 85 = .ok (.iload 6, 2) := by decide +kernel
theorem dX1_offer_87 : decode cX1_offer 87 = .ok (.ldc 68, 2) := by decide +kernel
theorem dX1_offer_89 : decode cX1_offer 89 = .ok (.bipush 16, 2) := by decide +kernel
theorem dX1_offer_91 : decode cX1_offer 91 = .ok (.iload_n 2, 1) := by decide +kernel
theorem dX1_offer_92 : decode cX1_offer 92 = .ok (.isub, 1) := by decide +kernel
theorem dX1_offer_93 : decode cX1_offer 93 = .ok (.aload_n 0, 1) := by decide +kernel
theorem dX1_offer_94 : decode cX1_offer 94 = .ok (.getfield 15, 3) := by decide +kernel
theorem dX1_offer_97 : decode cX1_offer 97 = .ok (.iload 6, 2) := by decide +kernel
theorem dX1_offer_99 : decode cX1_offer 99 = .ok (.iaload, 1) := by decide +kernel
theorem dX1_offer_100 : decode cX1_offer 100 = .ok (.imul, 1) := by decide +kernel
theorem dX1_offer_101 : decode cX1_offer 101 = .ok (.isub, 1) := by decide +kernel
theorem dX1_offer_102 : decode cX1_offer 102 = .ok (.invokevirtual 69, 3) := by decide +kernel
theorem dX1_offer_105 : decode cX1_offer 105 = .ok (.iinc 6 1, 3) := by decide +kernel
theorem dX1_offer_108 : decode cX1_offer 108 = .ok (.goto (-56), 3) := by decide +kernel
theorem dX1_offer_111 : decode cX1_offer 111 = .ok (.iconst 0, 1) := by decide +kernel
theorem dX1_offer_112 : decode cX1_offer 112 = .ok (.istore 6, 2) := by decide +kernel
theorem dX1_offer_114 : decode cX1_offer 114 = .ok (.iload 6, 2) := by decide +kernel
theorem dX1_offer_116 : decode cX1_offer 116 = .ok (.bipush 64, 2) := by decide +kernel
theorem dX1_offer_118 : decode cX1_offer 118 = .ok (.if_icmp .ge 23, 3) := by decide +kernel
theorem dX1_offer_121 : decode cX1_offer 121 = .ok (.aload_n 0, 1) := by decide +kernel
theorem dX1_offer_122 : decode cX1_offer 122 = .ok (.getfield 18, 3) := by decide +kernel
theorem dX1_offer_125 : decode cX1_offer 125 = .ok (.iload 6, 2) := by decide +kernel
theorem dX1_offer_127 : decode cX1_offer 127 = .ok (.aload_n 0, 1) := by decide +kernel
theorem dX1_offer_128 : decode cX1_offer 128 = .ok (.getfield 21, 3) := by decide +kernel
theorem dX1_offer_131 : decode cX1_offer 131 = .ok (.iload 6, 2) := by decide +kernel
theorem dX1_offer_133 : decode cX1_offer 133 = .ok (.iaload, 1) := by decide +kernel
theorem dX1_offer_134 : decode cX1_offer 134 = .ok (.iastore, 1) := by decide +kernel
theorem dX1_offer_135 : decode cX1_offer 135 = .ok (.iinc 6 1, 3) := by decide +kernel
theorem dX1_offer_138 : decode cX1_offer 138 = .ok (.goto (-24), 3) := by decide +kernel
theorem dX1_offer_141 : decode cX1_offer 141 = .ok (.return_, 1) := by decide +kernel
theorem dX1_giveTo_0 : decode cX1_giveTo 0 = .ok (.iload_n 1, 1) := by decide +kernel
theorem dX1_giveTo_1 : decode cX1_giveTo 1 = .ok (.istore_n 3, 1) := by decide +kernel
theorem dX1_giveTo_2 : decode cX1_giveTo 2 = .ok (.iload_n 3, 1) := by decide +kernel
theorem dX1_giveTo_3 : decode cX1_giveTo 3 = .ok (.bipush 64, 2) := by decide +kernel
theorem dX1_giveTo_5 : decode cX1_giveTo 5 = .ok (.if_icmp .ge 72, 3) := by decide +kernel
theorem dX1_giveTo_8 : decode cX1_giveTo 8 = .ok (.iload_n 3, 1) := by decide +kernel
theorem dX1_giveTo_9 : decode cX1_giveTo 9 = .ok (.iload_n 1, 1) := by decide +kernel
theorem dX1_giveTo_10 : decode cX1_giveTo 10 = .ok (.ixor, 1) := by decide +kernel
theorem dX1_giveTo_11 : decode cX1_giveTo 11 = .ok (.istore 4, 2) := by decide +kernel
theorem dX1_giveTo_13 : decode cX1_giveTo 13 = .ok (.iload_n 3, 1) := by decide +kernel
theorem dX1_giveTo_14 : decode cX1_giveTo 14 = .ok (.iload_n 1, 1) := by decide +kernel
theorem dX1_giveTo_15 : decode cX1_giveTo 15 = .ok (.iand, 1) := by decide +kernel
theorem dX1_giveTo_16 : decode cX1_giveTo 16 = .ok (.iload_n 1, 1) := by decide +kernel
theorem dX1_giveTo_17 : decode cX1_giveTo 17 = .ok (.if_icmp .ne 54, 3) := by decide +kernel
theorem dX1_giveTo_20 : decode cX1_giveTo 20 = .ok (.iload 4, 2) := by decide +kernel
theorem dX1_giveTo_22 : decode cX1_giveTo 22 = .ok (.ifCond .lt 49, 3) := by decide +kernel
theorem dX1_giveTo_25 : decode cX1_giveTo 25 = .ok (.iload 4, 2) := by decide +kernel
theorem dX1_giveTo_27 : decode cX1_giveTo 27 = .ok (.bipush 64, 2) := by decide +kernel
theorem dX1_giveTo_29 : decode cX1_giveTo 29 = .ok (.if_icmp .ge 42, 3) := by decide +kernel
theorem dX1_giveTo_32 : decode cX1_giveTo 32 = .ok (.aload_n 0, 1) := by decide +kernel
theorem dX1_giveTo_33 : decode cX1_giveTo 33 = .ok (.getfield 18, 3) := by decide +kernel
theorem dX1_giveTo_36 : decode cX1_giveTo 36 = .ok (.iload 4, 2) := by decide +kernel
theorem dX1_giveTo_38 : decode cX1_giveTo 38 = .ok (.iaload, 1) := by decide +kernel
theorem dX1_giveTo_39 : decode cX1_giveTo 39 = .ok (.ldc 33, 2) := by decide +kernel
theorem dX1_giveTo_41 : decode cX1_giveTo 41 = .ok (.if_icmp .ne 6, 3) := by decide +kernel
theorem dX1_giveTo_44 : decode cX1_giveTo 44 = .ok (.goto 27, 3) := by decide +kernel
theorem dX1_giveTo_47 : decode cX1_giveTo 47 = .ok (.aload_n 0, 1) := by decide +kernel
theorem dX1_giveTo_48 : decode cX1_giveTo 48 = .ok (.getfield 21, 3) := by decide +kernel
theorem dX1_giveTo_51 : decode cX1_giveTo 51 = .ok (.iload_n 3, 1) := by decide +kernel
theorem dX1_giveTo_52 : decode cX1_giveTo 52 = .ok (.aload_n 0, 1) := by decide +kernel
theorem dX1_giveTo_53 : decode cX1_giveTo 53 = .ok (.getfield 21, 3) := by decide +kernel
theorem dX1_giveTo_56 : decode cX1_giveTo 56 = .ok (.iload_n 3, 1) := by decide +kernel
theorem dX1_giveTo_57 : decode cX1_giveTo 57 = .ok (.iaload, 1) := by decide +kernel
theorem dX1_giveTo_58 : decode cX1_giveTo 58 = .ok (.aload_n 0, 1) := by decide +kernel
theorem dX1_giveTo_59 : decode cX1_giveTo 59 = .ok (.getfield 18, 3) := by decide +kernel
theorem dX1_giveTo_62 : decode cX1_giveTo 62 = .ok (.iload 4, 2) := by decide +kernel
theorem dX1_giveTo_64 : decode cX1_giveTo 64 = .ok (.iaload, 1) := by decide +kernel
theorem dX1_giveTo_65 : decode cX1_giveTo 65 = .ok (.iload_n 2, 1) := by decide +kernel
theorem dX1_giveTo_66 : decode cX1_giveTo 66 = .ok (.iadd, 1) := by decide +kernel
theorem dX1_giveTo_67 : decode cX1_giveTo 67 = .ok (.invokestatic 73, 3) := by decide +kernel
theorem dX1_giveTo_70 : decode cX1_giveTo 70 = .ok (.iastore, 1) := by decide +kernel
theorem dX1_giveTo_71 : decode cX1_giveTo 71 = .ok (.iinc 3 1, 3) := by decide +kernel
theorem dX1_giveTo_74 : decode cX1_giveTo 74 = .ok (.goto (-72), 3) := by decide +kernel
theorem dX1_giveTo_77 : decode cX1_giveTo 77 = .ok (.return_, 1) := by decide +kernel
theorem dX1_openTo_0 : decode cX1_openTo 0 = .ok (.iconst 0, 1) := by decide +kernel
theorem dX1_openTo_1 : decode cX1_openTo 1 = .ok (.istore_n 2, 1) := by decide +kernel
theorem dX1_openTo_2 : decode cX1_openTo 2 = .ok (.iconst 0, 1) := by decide +kernel
theorem dX1_openTo_3 : decode cX1_openTo 3 = .ok (.istore_n 3, 1) := by decide +kernel
theorem dX1_openTo_4 : decode cX1_openTo 4 = .ok (.iload_n 3, 1) := by decide +kernel
theorem dX1_openTo_5 : decode cX1_openTo 5 = .ok (.aload_n 1, 1) := by decide +kernel
theorem dX1_openTo_6 : decode cX1_openTo 6 = .ok (.arraylength, 1) := by decide +kernel
theorem dX1_openTo_7 : decode cX1_openTo 7 = .ok (.if_icmp .ge 42, 3) := by decide +kernel
theorem dX1_openTo_10 : decode cX1_openTo 10 = .ok (.aload_n 1, 1) := by decide +kernel
theorem dX1_openTo_11 : decode cX1_openTo 11 = .ok (.iload_n 3, 1) := by decide +kernel
theorem dX1_openTo_12 : decode cX1_openTo 12 = .ok (.aaload, 1) := by decide +kernel
theorem dX1_openTo_13 : decode cX1_openTo 13 = .ok (.astore 4, 2) := by decide +kernel
theorem dX1_openTo_15 : decode cX1_openTo 15 = .ok (.aload 4, 2) := by decide +kernel
theorem dX1_openTo_17 : decode cX1_openTo 17 = .ok (.ifnull 26, 3) := by decide +kernel
theorem dX1_openTo_20 : decode cX1_openTo 20 = .ok (.aload 4, 2) := by decide +kernel
theorem dX1_openTo_22 : decode cX1_openTo 22 = .ok (.getfield 79, 3) := by decide +kernel
theorem dX1_openTo_25 : decode cX1_openTo 25 = .ok (.ifCond .ne 18, 3) := by decide +kernel
theorem dX1_openTo_28 : decode cX1_openTo 28 = .ok (.aload 4, 2) := by decide +kernel
theorem dX1_openTo_30 : decode cX1_openTo 30 = .ok (.aload_n 0, 1) := by decide +kernel
theorem dX1_openTo_31 : decode cX1_openTo 31 = .ok (.invokevirtual 83, 3) := by decide +kernel
theorem dX1_openTo_34 : decode cX1_openTo 34 = .ok (.ifCond .eq 9, 3) := by decide +kernel
theorem dX1_openTo_37 : decode cX1_openTo 37 = .ok (.iload_n 2, 1) := by decide +kernel
theorem dX1_openTo_38 : decode cX1_openTo 38 = .ok (.iconst 1, 1) := by decide +kernel
theorem dX1_openTo_39 : decode cX1_openTo 39 = .ok (.iload_n 3, 1) := by decide +kernel
theorem dX1_openTo_40 : decode cX1_openTo 40 = .ok (.ishl, 1) := by decide +kernel
theorem dX1_openTo_41 : decode cX1_openTo 41 = .ok (.ior, 1) := by decide +kernel
theorem dX1_openTo_42 : decode cX1_openTo 42 = .ok (.istore_n 2, 1) := by decide +kernel
theorem dX1_openTo_43 : decode cX1_openTo 43 = .ok (.iinc 3 1, 3) := by decide +kernel
theorem dX1_openTo_46 : decode cX1_openTo 46 = .ok (.goto (-42), 3) := by decide +kernel
theorem dX1_openTo_49 : decode cX1_openTo 49 = .ok (.iload_n 2, 1) := by decide +kernel
theorem dX1_openTo_50 : decode cX1_openTo 50 = .ok (.ireturn, 1) := by decide +kernel
theorem dX2_init_0 : decode cX2_init 0 = .ok (.aload_n 0, 1) := by decide +kernel
theorem dX2_init_1 : decode cX2_init 1 = .ok (.invokespecial 3, 3) := by decide +kernel
theorem dX2_init_4 : decode cX2_init 4 = .ok (.aload_n 0, 1) := by decide +kernel
theorem dX2_init_5 : decode cX2_init 5 = .ok (.aload_n 1, 1) := by decide +kernel
theorem dX2_init_6 : decode cX2_init 6 = .ok (.putfield 9, 3) := by decide +kernel
theorem dX2_init_9 : decode cX2_init 9 = .ok (.return_, 1) := by decide +kernel
theorem dX2_reckon_0 : decode cX2_reckon 0 = .ok (.aload_n 1, 1) := by decide +kernel
theorem dX2_reckon_1 : decode cX2_reckon 1 = .ok (.getfield 15, 3) := by decide +kernel
theorem dX2_reckon_4 : decode cX2_reckon 4 = .ok (.astore 5, 2) := by decide +kernel
theorem dX2_reckon_6 : decode cX2_reckon 6 = .ok (.iload_n 2, 1) := by decide +kernel
theorem dX2_reckon_7 : decode cX2_reckon 7 = .ok (.i2l, 1) := by decide +kernel
theorem dX2_reckon_8 : decode cX2_reckon 8 = .ok (.iload_n 2, 1) := by decide +kernel
theorem dX2_reckon_9 : decode cX2_reckon 9 = .ok (.i2l, 1) := by decide +kernel
theorem dX2_reckon_10 : decode cX2_reckon 10 = .ok (.lmul, 1) := by decide +kernel
theorem dX2_reckon_11 : decode cX2_reckon 11 = .ok (.lstore 6, 2) := by decide +kernel
theorem dX2_reckon_13 : decode cX2_reckon 13 = .ok (.iload 4, 2) := by decide +kernel
theorem dX2_reckon_15 : decode cX2_reckon 15 = .ok (.i2l, 1) := by decide +kernel
theorem dX2_reckon_16 : decode cX2_reckon 16 = .ok (.iload 4, 2) := by decide +kernel
theorem dX2_reckon_18 : decode cX2_reckon 18 = .ok (.i2l, 1) := by decide +kernel
theorem dX2_reckon_19 : decode cX2_reckon 19 = .ok (.lmul, 1) := by decide +kernel
theorem dX2_reckon_20 : decode cX2_reckon 20 = .ok (.lstore 8, 2) := by decide +kernel
theorem dX2_reckon_22 : decode cX2_reckon 22 = .ok (.aload_n 0, 1) := by decide +kernel
theorem dX2_reckon_23 : decode cX2_reckon 23 = .ok (.sipush 1000, 3) := by decide +kernel
theorem dX2_reckon_26 : decode cX2_reckon 26 = .ok (.ldc2_w 21, 3) := by decide +kernel
theorem dX2_reckon_29 : decode cX2_reckon 29 = .ok (.lload 8, 2) := by decide +kernel
theorem dX2_reckon_31 : decode cX2_reckon 31 = .ok (.lmul, 1) := by decide +kernel
theorem dX2_reckon_32 : decode cX2_reckon 32 = .ok (.lload 6, 2) := by decide +kernel
theorem dX2_reckon_34 : decode cX2_reckon 34 = .ok (.invokestatic 23, 3) := by decide +kernel
theorem dX2_reckon_37 : decode cX2_reckon 37 = .ok (.l2i, 1) := by decide +kernel
theorem dX2_reckon_38 : decode cX2_reckon 38 = .ok (.isub, 1) := by decide +kernel
theorem dX2_reckon_39 : decode cX2_reckon 39 = .ok (.putfield 27, 3) := by decide +kernel
theorem dX2_reckon_42 : decode cX2_reckon 42 = .ok (.aload_n 0, 1) := by decide +kernel
theorem dX2_reckon_43 : decode cX2_reckon 43 = .ok (.iload_n 3, 1) := by decide +kernel
theorem dX2_reckon_44 : decode cX2_reckon 44 = .ok (.aload 5, 2) := by decide +kernel
theorem dX2_reckon_46 : decode cX2_reckon 46 = .ok (.getfield 31, 3) := by decide +kernel
theorem dX2_reckon_49 : decode cX2_reckon 49 = .ok (.aload_n 0, 1) := by decide +kernel
theorem dX2_reckon_50 : decode cX2_reckon 50 = .ok (.getfield 27, 3) := by decide +kernel
theorem dX2_reckon_53 : decode cX2_reckon 53 = .ok (.imul, 1) := by decide +kernel
theorem dX2_reckon_54 : decode cX2_reckon 54 = .ok (.sipush 1000, 3) := by decide +kernel
theorem dX2_reckon_57 : decode cX2_reckon 57 = .ok (.idiv, 1) := by decide +kernel
theorem dX2_reckon_58 : decode cX2_reckon 58 = .ok (.iadd, 1) := by decide +kernel
theorem dX2_reckon_59 : decode cX2_reckon 59 = .ok (.putfield 36, 3) := by decide +kernel
theorem dX2_reckon_62 : decode cX2_reckon 62 = .ok (.lload 6, 2) := by decide +kernel
theorem dX2_reckon_64 : decode cX2_reckon 64 = .ok (.lload 8, 2) := by decide +kernel
theorem dX2_reckon_66 : decode cX2_reckon 66 = .ok (.lsub, 1) := by decide +kernel
theorem dX2_reckon_67 : decode cX2_reckon 67 = .ok (.aload 5, 2) := by decide +kernel
theorem dX2_reckon_69 : decode cX2_reckon 69 = .ok (.iload_n 3, 1) := by decide +kernel
theorem dX2_reckon_70 : decode cX2_reckon 70 = .ok (.invokevirtual 39, 3) := by decide +kernel
theorem dX2_reckon_73 : decode cX2_reckon 73 = .ok (.lmul, 1) := by decide +kernel
theorem dX2_reckon_74 : decode cX2_reckon 74 = .ok (.ldc2_w 43, 3) := by decide +kernel
theorem dX2_reckon_77 : decode cX2_reckon 77 = .ok (.ldiv, 1) := by decide +kernel
theorem dX2_reckon_78 : decode cX2_reckon 78 = .ok (.lstore 10, 2) := by decide +kernel
theorem dX2_reckon_80 : decode cX2_reckon 80 = .ok (.aload_n 0, 1) := by decide +kernel
theorem dX2_reckon_81 : decode cX2_reckon 81 = .ok (.lload 10, 2) := by decide +kernel
theorem dX2_reckon_83 : decode cX2_reckon 83 = .ok (.lload 10, 2) := by decide +kernel
theorem dX2_reckon_85 : decode cX2_reckon 85 = .ok (.aload_n 0, 1) := by decide +kernel
theorem dX2_reckon_86 : decode cX2_reckon 86 = .ok (.getfield 9, 3) := by decide +kernel
theorem dX2_reckon_89 : decode cX2_reckon 89 = .ok (.getfield 45, 3) := by decide +kernel
theorem dX2_reckon_92 : decode cX2_reckon 92 = .ok (.i2l, 1) := by decide +kernel
theorem dX2_reckon_93 : decode cX2_reckon 93 = .ok (.lmul, 1) := by decide +kernel
theorem dX2_reckon_94 : decode cX2_reckon 94 = .ok (.ldc2_w 43, 3) := by decide +kernel
theorem dX2_reckon_97 : decode cX2_reckon 97 = .ok (.ldiv, 1) := by decide +kernel
theorem dX2_reckon_98 : decode cX2_reckon 98 = .ok (.ladd, 1) := by decide +kernel
theorem dX2_reckon_99 : decode cX2_reckon 99 = .ok (.l2i, 1) := by decide +kernel
theorem dX2_reckon_100 : decode cX2_reckon 100 = .ok (.putfield 50, 3) := by decide +kernel
theorem dX2_reckon_103 : decode cX2_reckon 103 = .ok (.lload 8, 2) := by decide +kernel
theorem dX2_reckon_105 : decode cX2_reckon 105 = .ok (.aload 5, 2) := by decide +kernel
theorem dX2_reckon_107 : decode cX2_reckon 107 = .ok (.aload_n 0, 1) := by decide +kernel
theorem dX2_reckon_108 : decode cX2_reckon 108 = .ok (.getfield 36, 3) := by decide +kernel
theorem dX2_reckon_111 : decode cX2_reckon 111 = .ok (.invokevirtual 39, 3) := by decide +kernel
theorem dX2_reckon_114 : decode cX2_reckon 114 = .ok (.lmul, 1) := by decide +kernel
theorem dX2_reckon_115 : decode cX2_reckon 115 = .ok (.ldc2_w 43, 3) := by decide +kernel
theorem dX2_reckon_118 : decode cX2_reckon 118 = .ok (.ldiv, 1) := by decide +kernel
theorem dX2_reckon_119 : decode cX2_reckon 119 = .ok (.lstore 12, 2) := by decide +kernel
theorem dX2_reckon_121 : decode cX2_reckon 121 = .ok (.aload_n 1, 1) := by decide +kernel
theorem dX2_reckon_122 : decode cX2_reckon 122 = .ok (.getfield 53, 3) := by decide +kernel
theorem dX2_reckon_125 : decode cX2_reckon 125 = .ok (.ifCond .le 15, 3) := by decide +kernel
theorem dX2_reckon_128 : decode cX2_reckon 128 = .ok (.lload 12, 2) := by decide +kernel
theorem dX2_reckon_130 : decode cX2_reckon 130 = .ok (.ldc2_w 56, 3) := by decide +kernel
theorem dX2_reckon_133 : decode cX2_reckon 133 = .ok (.lmul, 1) := by decide +kernel
theorem dX2_reckon_134 : decode cX2_reckon 134 = .ok (.ldc2_w 58, 3) := by decide +kernel
theorem dX2_reckon_137 : decode cX2_reckon 137 = .ok (.ldiv, 1) := by decide +kernel
theorem dX2_reckon_138 : decode cX2_reckon 138 = .ok (.lstore 12, 2) := by decide +kernel
theorem dX2_reckon_140 : decode cX2_reckon 140 = .ok (.aload_n 0, 1) := by decide +kernel
theorem dX2_reckon_141 : decode cX2_reckon 141 = .ok (.lload 12, 2) := by decide +kernel
theorem dX2_reckon_143 : decode cX2_reckon 143 = .ok (.aload_n 0, 1) := by decide +kernel
theorem dX2_reckon_144 : decode cX2_reckon 144 = .ok (.getfield 9, 3) := by decide +kernel
theorem dX2_reckon_147 : decode cX2_reckon 147 = .ok (.getfield 60, 3) := by decide +kernel
theorem dX2_reckon_150 : decode cX2_reckon 150 = .ok (.i2l, 1) := by decide +kernel
theorem dX2_reckon_151 : decode cX2_reckon 151 = .ok (.lmul, 1) := by decide +kernel
theorem dX2_reckon_152 : decode cX2_reckon 152 = .ok (.ldc2_w 43, 3) := by decide +kernel
theorem dX2_reckon_155 : decode cX2_reckon 155 = .ok (.ldiv, 1) := by decide +kernel
theorem dX2_reckon_156 : decode cX2_reckon 156 = .ok (.l2i, 1) := by decide +kernel
theorem dX2_reckon_157 : decode cX2_reckon 157 = .ok (.putfield 63, 3) := by decide +kernel
theorem dX2_reckon_160 : decode cX2_reckon 160 = .ok (.return_, 1) := by decide +kernel
theorem dX2_refusal_0 : decode cX2_refusal 0 = .ok (.aload 4, 2) := by decide +kernel
theorem dX2_refusal_2 : decode cX2_refusal 2 = .ok (.invokevirtual 66, 3) := by decide +kernel
theorem dX2_refusal_5 : decode cX2_refusal 5 = .ok (.istore 6, 2) := by decide +kernel
theorem dX2_refusal_7 : decode cX2_refusal 7 = .ok (.aload 4, 2) := by decide +kernel
theorem dX2_refusal_9 : decode cX2_refusal 9 = .ok (.invokevirtual 72, 3) := by decide +kernel
theorem dX2_refusal_12 : decode cX2_refusal 12 = .ok (.ifCond .ne 9, 3) := by decide +kernel
theorem dX2_refusal_15 : decode cX2_refusal 15 = .ok (.iload 6, 2) := by decide +kernel
theorem dX2_refusal_17 : decode cX2_refusal 17 = .ok (.iload_n 2, 1) := by decide +kernel
theorem dX2_refusal_18 : decode cX2_refusal 18 = .ok (.if_icmp .lt 6, 3) := by decide +kernel
theorem dX2_refusal_21 : decode cX2_refusal 21 = .ok (.bipush (-4), 2) := by decide +kernel
theorem dX2_refusal_23 : decode cX2_refusal 23 = .ok (.ireturn, 1) := by decide +kernel
theorem dX2_refusal_24 : decode cX2_refusal 24 = .ok (.aload_n 0, 1) := by decide +kernel
theorem dX2_refusal_25 : decode cX2_refusal 25 = .ok (.aload_n 1, 1) := by decide +kernel
theorem dX2_refusal_26 : decode cX2_refusal 26 = .ok (.iload_n 2, 1) := by decide +kernel
theorem dX2_refusal_27 : decode cX2_refusal 27 = .ok (.iload_n 3, 1) := by decide +kernel
theorem dX2_refusal_28 : decode cX2_refusal 28 = .ok (.iload 6, 2) := by decide +kernel
theorem dX2_refusal_30 : decode cX2_refusal 30 = .ok (.invokevirtual 76, 3) := by decide +kernel
theorem dX2_refusal_33 : decode cX2_refusal 33 = .ok (.aload_n 0, 1) := by decide +kernel
theorem dX2_refusal_34 : decode cX2_refusal 34 = .ok (.getfield 36, 3) := by decide +kernel
theorem dX2_refusal_37 : decode cX2_refusal 37 = .ok (.aload_n 1, 1) := by decide +kernel
theorem dX2_refusal_38 : decode cX2_refusal 38 = .ok (.getfield 15, 3) := by decide +kernel
theorem dX2_refusal_41 : decode cX2_refusal 41 = .ok (.getfield 80, 3) := by decide +kernel
theorem dX2_refusal_44 : decode cX2_refusal 44 = .ok (.if_icmp .le 6, 3) := by decide +kernel
theorem dX2_refusal_47 : decode cX2_refusal 47 = .ok (.bipush (-5), 2) := by decide +kernel
theorem dX2_refusal_49 : decode cX2_refusal 49 = .ok (.ireturn, 1) := by decide +kernel
theorem dX2_refusal_50 : decode cX2_refusal 50 = .ok (.aload_n 0, 1) := by decide +kernel
theorem dX2_refusal_51 : decode cX2_refusal 51 = .ok (.getfield 50, 3) := by decide +kernel
theorem dX2_refusal_54 : decode cX2_refusal 54 = .ok (.aload_n 0, 1) := by decide +kernel
theorem dX2_refusal_55 : decode cX2_refusal 55 = .ok (.getfield 63, 3) := by decide +kernel
theorem dX2_refusal_58 : decode cX2_refusal 58 = .ok (.if_icmp .le 6, 3) := by decide +kernel
theorem dX2_refusal_61 : decode cX2_refusal 61 = .ok (.bipush (-6), 2) := by decide +kernel
theorem dX2_refusal_63 : decode cX2_refusal 63 = .ok (.ireturn, 1) := by decide +kernel
theorem dX2_refusal_64 : decode cX2_refusal 64 = .ok (.aload_n 0, 1) := by decide +kernel
theorem dX2_refusal_65 : decode cX2_refusal 65 = .ok (.getfield 50, 3) := by decide +kernel
theorem dX2_refusal_68 : decode cX2_refusal 68 = .ok (.iload 5, 2) := by decide +kernel
theorem dX2_refusal_70 : decode cX2_refusal 70 = .ok (.if_icmp .le 8, 3) := by decide +kernel
theorem dX2_refusal_73 : decode cX2_refusal 73 = .ok (.bipush (-7), 2) := by decide +kernel
theorem dX2_refusal_75 : decode cX2_refusal 75 = .ok (.goto 4, 3) := by decide +kernel
theorem dX2_refusal_78 : decode cX2_refusal 78 = .ok (.iconst 0, 1) := by decide +kernel
theorem dX2_refusal_79 : decode cX2_refusal 79 = .ok (.ireturn, 1) := by decide +kernel
theorem dX3_init_0 : decode cX3_init 0 = .ok (.aload_n 0, 1) := by decide +kernel
theorem dX3_init_1 : decode cX3_init 1 = .ok (.invokespecial 1, 3) := by decide +kernel
theorem dX3_init_4 : decode cX3_init 4 = .ok (.aload_n 0, 1) := by decide +kernel
theorem dX3_init_5 : decode cX3_init 5 = .ok (.iload_n 1, 1) := by decide +kernel
theorem dX3_init_6 : decode cX3_init 6 = .ok (.putfield 7, 3) := by decide +kernel
theorem dX3_init_9 : decode cX3_init 9 = .ok (.return_, 1) := by decide +kernel
theorem dX3_wide_0 : decode cX3_wide 0 = .ok (.aload_n 0, 1) := by decide +kernel
theorem dX3_wide_1 : decode cX3_wide 1 = .ok (.getfield 7, 3) := by decide +kernel
theorem dX3_wide_4 : decode cX3_wide 4 = .ok (.aload_n 0, 1) := by decide +kernel
theorem dX3_wide_5 : decode cX3_wide 5 = .ok (.getfield 13, 3) := by decide +kernel
theorem dX3_wide_8 : decode cX3_wide 8 = .ok (.sipush 1000, 3) := by decide +kernel
theorem dX3_wide_11 : decode cX3_wide 11 = .ok (.idiv, 1) := by decide +kernel
theorem dX3_wide_12 : decode cX3_wide 12 = .ok (.iadd, 1) := by decide +kernel
theorem dX3_wide_13 : decode cX3_wide 13 = .ok (.ireturn, 1) := by decide +kernel
theorem dX3_isSpent_0 : decode cX3_isSpent 0 = .ok (.aload_n 0, 1) := by decide +kernel
theorem dX3_isSpent_1 : decode cX3_isSpent 1 = .ok (.invokevirtual 16, 3) := by decide +kernel
theorem dX3_isSpent_4 : decode cX3_isSpent 4 = .ok (.aload_n 0, 1) := by decide +kernel
theorem dX3_isSpent_5 : decode cX3_isSpent 5 = .ok (.getfield 7, 3) := by decide +kernel
theorem dX3_isSpent_8 : decode cX3_isSpent 8 = .ok (.bipush 50, 2) := by decide +kernel
theorem dX3_isSpent_10 : decode cX3_isSpent 10 = .ok (.iadd, 1) := by decide +kernel
theorem dX3_isSpent_11 : decode cX3_isSpent 11 = .ok (.if_icmp .le 7, 3) := by decide +kernel
theorem dX3_isSpent_14 : decode cX3_isSpent 14 = .ok (.iconst 1, 1) := by decide +kernel
theorem dX3_isSpent_15 : decode cX3_isSpent 15 = .ok (.goto 4, 3) := by decide +kernel
theorem dX3_isSpent_18 : decode cX3_isSpent 18 = .ok (.iconst 0, 1) := by decide +kernel
theorem dX3_isSpent_19 : decode cX3_isSpent 19 = .ok (.ireturn, 1) := by decide +kernel
theorem dX4_init_0 : decode cX4_init 0 = .ok (.aload_n 0, 1) := by decide +kernel
theorem dX4_init_1 : decode cX4_init 1 = .ok (.invokespecial 1, 3) := by decide +kernel
theorem dX4_init_4 : decode cX4_init 4 = .ok (.aload_n 0, 1) := by decide +kernel
theorem dX4_init_5 : decode cX4_init 5 = .ok (.bipush 100, 2) := by decide +kernel
theorem dX4_init_7 : decode cX4_init 7 = .ok (.putfield 7, 3) := by decide +kernel
theorem dX4_init_10 : decode cX4_init 10 = .ok (.aload_n 0, 1) := by decide +kernel
theorem dX4_init_11 : decode cX4_init 11 = .ok (.bipush 100, 2) := by decide +kernel
theorem dX4_init_13 : decode cX4_init 13 = .ok (.putfield 13, 3) := by decide +kernel
theorem dX4_init_16 : decode cX4_init 16 = .ok (.aload_n 0, 1) := by decide +kernel
theorem dX4_init_17 : decode cX4_init 17 = .ok (.bipush 60, 2) := by decide +kernel
theorem dX4_init_19 : decode cX4_init 19 = .ok (.putfield 16, 3) := by decide +kernel
theorem dX4_init_22 : decode cX4_init 22 = .ok (.aload_n 0, 1) := by decide +kernel
theorem dX4_init_23 : decode cX4_init 23 = .ok (.bipush 10, 2) := by decide +kernel
theorem dX4_init_25 : decode cX4_init 25 = .ok (.putfield 19, 3) := by decide +kernel
theorem dX4_init_28 : decode cX4_init 28 = .ok (.aload_n 0, 1) := by decide +kernel
theorem dX4_init_29 : decode cX4_init 29 = .ok (.iconst 5, 1) := by decide +kernel
theorem dX4_init_30 : decode cX4_init 30 = .ok (.putfield 22, 3) := by decide +kernel
theorem dX4_init_33 : decode cX4_init 33 = .ok (.aload_n 0, 1) := by decide +kernel
theorem dX4_init_34 : decode cX4_init 34 = .ok (.iload_n 1, 1) := by decide +kernel
theorem dX4_init_35 : decode cX4_init 35 = .ok (.putfield 25, 3) := by decide +kernel
theorem dX4_init_38 : decode cX4_init 38 = .ok (.return_, 1) := by decide +kernel
theorem dX4_strength_0 : decode cX4_strength 0 = .ok (.aload_n 0, 1) := by decide +kernel
theorem dX4_strength_1 : decode cX4_strength 1 = .ok (.getfield 7, 3) := by decide +kernel
theorem dX4_strength_4 : decode cX4_strength 4 = .ok (.i2l, 1) := by decide +kernel
theorem dX4_strength_5 : decode cX4_strength 5 = .ok (.bipush 100, 2) := by decide +kernel
theorem dX4_strength_7 : decode cX4_strength 7 = .ok (.iload_n 1, 1) := by decide +kernel
theorem dX4_strength_8 : decode cX4_strength 8 = .ok (.iadd, 1) := by decide +kernel
theorem dX4_strength_9 : decode cX4_strength 9 = .ok (.i2l, 1) := by decide +kernel
theorem dX4_strength_10 : decode cX4_strength 10 = .ok (.lmul, 1) := by decide +kernel
theorem dX4_strength_11 : decode cX4_strength 11 = .ok (.lreturn, 1) := by decide +kernel
theorem dX5_init_0 : decode cX5_init 0 = .ok (.aload_n 0, 1) := by decide +kernel
theorem dX5_init_1 : decode cX5_init 1 = .ok (.invokespecial 3, 3) := by decide +kernel
theorem dX5_init_4 : decode cX5_init 4 = .ok (.aload_n 0, 1) := by decide +kernel
theorem dX5_init_5 : decode cX5_init 5 = .ok (.bipush 8, 2) := by decide +kernel
theorem dX5_init_7 : decode cX5_init 7 = .ok (.newarray .int, 2) := by decide +kernel
theorem dX5_init_9 : decode cX5_init 9 = .ok (.putfield 11, 3) := by decide +kernel
theorem dX5_init_12 : decode cX5_init 12 = .ok (.aload_n 0, 1) := by decide +kernel
theorem dX5_init_13 : decode cX5_init 13 = .ok (.bipush 8, 2) := by decide +kernel
theorem dX5_init_15 : decode cX5_init 15 = .ok (.newarray .int, 2) := by decide +kernel
theorem dX5_init_17 : decode cX5_init 17 = .ok (.putfield 15, 3) := by decide +kernel
theorem dX5_init_20 : decode cX5_init 20 = .ok (.return_, 1) := by decide +kernel
theorem dX5_add_0 : decode cX5_add 0 = .ok (.aload_n 0, 1) := by decide +kernel
theorem dX5_add_1 : decode cX5_add 1 = .ok (.getfield 18, 3) := by decide +kernel
theorem dX5_add_4 : decode cX5_add 4 = .ok (.bipush 60, 2) := by decide +kernel
theorem dX5_add_6 : decode cX5_add 6 = .ok (.if_icmp .lt 6, 3) := by decide +kernel
theorem dX5_add_9 : decode cX5_add 9 = .ok (.bipush (-8), 2) := by decide +kernel
theorem dX5_add_11 : decode cX5_add 11 = .ok (.ireturn, 1) := by decide +kernel
theorem dX5_add_12 : decode cX5_add 12 = .ok (.iload_n 1, 1) := by decide +kernel
theorem dX5_add_13 : decode cX5_add 13 = .ok (.ifCond .lt 9, 3) := by decide +kernel
theorem dX5_add_16 : decode cX5_add 16 = .ok (.iload_n 1, 1) := by decide +kernel
theorem dX5_add_17 : decode cX5_add 17 = .ok (.bipush 8, 2) := by decide +kernel
theorem dX5_add_19 : decode cX5_add 19 = .ok (.if_icmp .lt 6, 3) := by decide +kernel
theorem dX5_add_22 : decode cX5_add 22 = .ok (.bipush (-3), 2) := by decide +kernel
theorem dX5_add_24 : decode cX5_add 24 = .ok (.ireturn, 1) := by decide +kernel
theorem dX5_add_25 : decode cX5_add 25 = .ok (.iload_n 2, 1) := by decide +kernel
theorem dX5_add_26 : decode cX5_add 26 = .ok (.ifCond .eq 16, 3) := by decide +kernel
theorem dX5_add_29 : decode cX5_add 29 = .ok (.aload_n 0, 1) := by decide +kernel
theorem dX5_add_30 : decode cX5_add 30 = .ok (.getfield 11, 3) := by decide +kernel
theorem dX5_add_33 : decode cX5_add 33 = .ok (.iload_n 1, 1) := by decide +kernel
theorem dX5_add_34 : decode cX5_add 34 = .ok (.dup2, 1) := by decide +kernel
theorem dX5_add_35 : decode cX5_add 35 = .ok (.iaload, 1) := by decide +kernel
theorem dX5_add_36 : decode cX5_add 36 = .ok (.iconst 1, 1) := by decide +kernel
theorem dX5_add_37 : decode cX5_add 37 = .ok (.iadd, 1) := by decide +kernel
theorem dX5_add_38 : decode cX5_add 38 = .ok (.iastore, 1) := by decide +kernel
theorem dX5_add_39 : decode cX5_add 39 = .ok (.goto 13, 3) := by decide +kernel
theorem dX5_add_42 : decode cX5_add 42 = .ok (.aload_n 0, 1) := by decide +kernel
theorem dX5_add_43 : decode cX5_add 43 = .ok (.getfield 15, 3) := by decide +kernel
theorem dX5_add_46 : decode cX5_add 46 = .ok (.iload_n 1, 1) := by decide +kernel
theorem dX5_add_47 : decode cX5_add 47 = .ok (.dup2, 1) := by decide +kernel
theorem dX5_add_48 : decode cX5_add 48 = .ok (.iaload, 1) := by decide +kernel
theorem dX5_add_49 : decode cX5_add 49 = .ok (.iconst 1, 1) := by decide +kernel
theorem dX5_add_50 : decode cX5_add 50 = .ok (.iadd, 1) := by decide +kernel
theorem dX5_add_51 : decode cX5_add 51 = .ok (.iastore, 1) := by decide +kernel
theorem dX5_add_52 : decode cX5_add 52 = .ok (.aload_n 0, 1) := by decide +kernel
theorem dX5_add_53 : decode cX5_add 53 = .ok (.dup, 1) := by decide +kernel
theorem dX5_add_54 : decode cX5_add 54 = .ok (.getfield 18, 3) := by decide +kernel
theorem dX5_add_57 : decode cX5_add 57 = .ok (.iconst 1, 1) := by decide +kernel
theorem dX5_add_58 : decode cX5_add 58 = .ok (.iadd, 1) := by decide +kernel
theorem dX5_add_59 : decode cX5_add 59 = .ok (.dup_x1, 1) := by decide +kernel
theorem dX5_add_60 : decode cX5_add 60 = .ok (.putfield 18, 3) := by decide +kernel
theorem dX5_add_63 : decode cX5_add 63 = .ok (.ireturn, 1) := by decide +kernel
theorem dX5_share_0 : decode cX5_share 0 = .ok (.iconst 0, 1) := by decide +kernel
theorem dX5_share_1 : decode cX5_share 1 = .ok (.istore_n 3, 1) := by decide +kernel
theorem dX5_share_2 : decode cX5_share 2 = .ok (.iload_n 2, 1) := by decide +kernel
theorem dX5_share_3 : decode cX5_share 3 = .ok (.iconst 2, 1) := by decide +kernel
theorem dX5_share_4 : decode cX5_share 4 = .ok (.if_icmp .ge 7, 3) := by decide +kernel
theorem dX5_share_7 : decode cX5_share 7 = .ok (.iconst 1, 1) := by decide +kernel
theorem dX5_share_8 : decode cX5_share 8 = .ok (.goto 4, 3) := by decide +kernel
theorem dX5_share_11 : decode cX5_share 11 = .ok (.iconst 0, 1) := by decide +kernel
theorem dX5_share_12 : decode cX5_share 12 = .ok (.istore 4, 2) := by decide +kernel
theorem dX5_share_14 : decode cX5_share 14 = .ok (.iconst 0, 1) := by decide +kernel
theorem dX5_share_15 : decode cX5_share 15 = .ok (.istore 5, 2) := by decide +kernel
theorem dX5_share_17 : decode cX5_share 17 = .ok (.iload 5, 2) := by decide +kernel
theorem dX5_share_19 : decode cX5_share 19 = .ok (.bipush 8, 2) := by decide +kernel
theorem dX5_share_21 : decode cX5_share 21 = .ok (.if_icmp .ge 46, 3) := by decide +kernel
theorem dX5_share_24 : decode cX5_share 24 = .ok (.iload 5, 2) := by decide +kernel
theorem dX5_share_26 : decode cX5_share 26 = .ok (.iload_n 1, 1) := by decide +kernel
theorem dX5_share_27 : decode cX5_share 27 = .ok (.ishr, 1) := by decide +kernel
theorem dX5_share_28 : decode cX5_share 28 = .ok (.iconst 1, 1) := by decide +kernel
theorem dX5_share_29 : decode cX5_share 29 = .ok (.iand, 1) := by decide +kernel
theorem dX5_share_30 : decode cX5_share 30 = .ok (.iload 4, 2) := by decide +kernel
theorem dX5_share_32 : decode cX5_share 32 = .ok (.if_icmp .ne 29, 3) := by decide +kernel
theorem dX5_share_35 : decode cX5_share 35 = .ok (.iload_n 3, 1) := by decide +kernel
theorem dX5_share_36 : decode cX5_share 36 = .ok (.iload_n 2, 1) := by decide +kernel
theorem dX5_share_37 : decode cX5_share 37 = .ok (.iconst 2, 1) := by decide +kernel
theorem dX5_share_38 : decode cX5_share 38 = .ok (.irem, 1) := by decide +kernel
theorem dX5_share_39 : decode cX5_share 39 = .ok (.ifCond .ne 13, 3) := by decide +kernel
theorem dX5_share_42 : decode cX5_share 42 = .ok (.aload_n 0, 1) := by decide +kernel
theorem dX5_share_43 : decode cX5_share 43 = .ok (.getfield 11, 3) := by decide +kernel
theorem dX5_share_46 : decode cX5_share 46 = .ok (.iload 5, 2) := by decide +kernel
theorem dX5_share_48 : decode cX5_share 48 = .ok (.iaload, 1) := by decide +kernel
theorem dX5_share_49 : decode cX5_share 49 = .ok (.goto 10, 3) := by decide +kernel
theorem dX5_share_52 : decode cX5_share 52 = .ok (.aload_n 0, 1) := by decide +kernel
theorem dX5_share_53 : decode cX5_share 53 = .ok (.getfield 15, 3) := by decide +kernel
theorem dX5_share_56 : decode cX5_share 56 = .ok (.iload 5, 2) := by decide +kernel
theorem dX5_share_58 : decode cX5_share 58 = .ok (.iaload, 1) := by decide +kernel
theorem dX5_share_59 : decode cX5_share 59 = .ok (.iadd, 1) := by decide +kernel
theorem dX5_share_60 : decode cX5_share 60 = .ok (.istore_n 3, 1) := by decide +kernel
theorem dX5_share_61 : decode cX5_share 61 = .ok (.iinc 5 1, 3) := by decide +kernel
theorem dX5_share_64 : decode cX5_share 64 = .ok (.goto (-47), 3) := by decide +kernel
theorem dX5_share_67 : decode cX5_share 67 = .ok (.iload_n 3, 1) := by decide +kernel
theorem dX5_share_68 : decode cX5_share 68 = .ok (.ireturn, 1) := by decide +kernel
theorem dX5_above_0 : decode cX5_above 0 = .ok (.aload_n 0, 1) := by decide +kernel
theorem dX5_above_1 : decode cX5_above 1 = .ok (.iload_n 1, 1) := by decide +kernel
theorem dX5_above_2 : decode cX5_above 2 = .ok (.iconst 0, 1) := by decide +kernel
theorem dX5_above_3 : decode cX5_above 3 = .ok (.invokevirtual 22, 3) := by decide +kernel
theorem dX5_above_6 : decode cX5_above 6 = .ok (.aload_n 0, 1) := by decide +kernel
theorem dX5_above_7 : decode cX5_above 7 = .ok (.iload_n 1, 1) := by decide +kernel
theorem dX5_above_8 : decode cX5_above 8 = .ok (.iconst 3, 1) := by decide +kernel
theorem dX5_above_9 : decode cX5_above 9 = .ok (.invokevirtual 22, 3) := by decide +kernel
theorem dX5_above_12 : decode cX5_above 12 = .ok (.imul, 1) := by decide +kernel
theorem dX5_above_13 : decode cX5_above 13 = .ok (.aload_n 0, 1) := by decide +kernel
theorem dX5_above_14 : decode cX5_above 14 = .ok (.iload_n 1, 1) := by decide +kernel
theorem dX5_above_15 : decode cX5_above 15 = .ok (.iconst 1, 1) := by decide +kernel
theorem dX5_above_16 : decode cX5_above 16 = .ok (.invokevirtual 22, 3) := by decide +kernel
theorem dX5_above_19 : decode cX5_above 19 = .ok (.aload_n 0, 1) := by decide +kernel
theorem dX5_above_20 : decode cX5_above 20 = .ok (.iload_n 1, 1) := by decide +kernel
theorem dX5_above_21 : decode cX5_above 21 = .ok (.iconst 2, 1) := by decide +kernel
theorem dX5_above_22 : decode cX5_above 22 = .ok (.invokevirtual 22, 3) := by decide +kernel
theorem dX5_above_25 : decode cX5_above 25 = .ok (.imul, 1) := by decide +kernel
theorem dX5_above_26 : decode cX5_above 26 = .ok (.isub, 1) := by decide +kernel
theorem dX5_above_27 : decode cX5_above 27 = .ok (.ireturn, 1) := by decide +kernel
theorem dX5_below_0 : decode cX5_below 0 = .ok (.aload_n 0, 1) := by decide +kernel
theorem dX5_below_1 : decode cX5_below 1 = .ok (.iload_n 1, 1) := by decide +kernel
theorem dX5_below_2 : decode cX5_below 2 = .ok (.iconst 0, 1) := by decide +kernel
theorem dX5_below_3 : decode cX5_below 3 = .ok (.invokevirtual 22, 3) := by decide +kernel
theorem dX5_below_6 : decode cX5_below 6 = .ok (.aload_n 0, 1) := by decide +kernel
theorem dX5_below_7 : decode cX5_below 7 = .ok (.iload_n 1, 1) := by decide +kernel
theorem dX5_below_8 : decode cX5_below 8 = .ok (.iconst 1, 1) := by decide +kernel
theorem dX5_below_9 : decode cX5_below 9 = .ok (.invokevirtual 22, 3) := by decide +kernel
theorem dX5_below_12 : decode cX5_below 12 = .ok (.iadd, 1) := by decide +kernel
theorem dX5_below_13 : decode cX5_below 13 = .ok (.aload_n 0, 1) := by decide +kernel
theorem dX5_below_14 : decode cX5_below 14 = .ok (.iload_n 1, 1) := by decide +kernel
theorem dX5_below_15 : decode cX5_below 15 = .ok (.iconst 2, 1) := by decide +kernel
theorem dX5_below_16 : decode cX5_below 16 = .ok (.invokevirtual 22, 3) := by decide +kernel
theorem dX5_below_19 : decode cX5_below 19 = .ok (.aload_n 0, 1) := by decide +kernel
theorem dX5_below_20 : decode cX5_below 20 = .ok (.iload_n 1, 1) := by decide +kernel
theorem dX5_below_21 : decode cX5_below 21 = .ok (.iconst 3, 1) := by decide +kernel
theorem dX5_below_22 : decode cX5_below 22 = .ok (.invokevirtual 22, 3) := by decide +kernel
theorem dX5_below_25 : decode cX5_below 25 = .ok (.iadd, 1) := by decide +kernel
theorem dX5_below_26 : decode cX5_below 26 = .ok (.imul, 1) := by decide +kernel
theorem dX5_below_27 : decode cX5_below 27 = .ok (.ireturn, 1) := by decide +kernel
theorem dX5_isGreater_0 : decode cX5_isGreater 0 = .ok (.aload_n 0, 1) := by decide +kernel
theorem dX5_isGreater_1 : decode cX5_isGreater 1 = .ok (.iload_n 1, 1) := by decide +kernel
theorem dX5_isGreater_2 : decode cX5_isGreater 2 = .ok (.invokevirtual 26, 3) := by decide +kernel
theorem dX5_isGreater_5 : decode cX5_isGreater 5 = .ok (.i2l, 1) := by decide +kernel
theorem dX5_isGreater_6 : decode cX5_isGreater 6 = .ok (.aload_n 0, 1) := by decide +kernel
theorem dX5_isGreater_7 : decode cX5_isGreater 7 = .ok (.iload_n 2, 1) := by decide +kernel
theorem dX5_isGreater_8 : decode cX5_isGreater 8 = .ok (.invokevirtual 30, 3) := by decide +kernel
theorem dX5_isGreater_11 : decode cX5_isGreater 11 = .ok (.i2l, 1) := by decide +kernel
theorem dX5_isGreater_12 : decode cX5_isGreater 12 = .ok (.lmul, 1) := by decide +kernel
theorem dX5_isGreater_13 : decode cX5_isGreater 13 = .ok (.aload_n 0, 1) := by decide +kernel
theorem dX5_isGreater_14 : decode cX5_isGreater 14 = .ok (.iload_n 2, 1) := by decide +kernel
theorem dX5_isGreater_15 : decode cX5_isGreater 15 = .ok (.invokevirtual 26, 3) := by decide +kernel
theorem dX5_isGreater_18 : decode cX5_isGreater 18 = .ok (.i2l, 1) := by decide +kernel
theorem dX5_isGreater_19 : decode cX5_isGreater 19 = .ok (.aload_n 0, 1) := by decide +kernel
theorem dX5_isGreater_20 : decode cX5_isGreater 20 = .ok (.iload_n 1, 1) := by decide +kernel
theorem dX5_isGreater_21 : decode cX5_isGreater 21 = .ok (.invokevirtual 30, 3) := by decide +kernel
theorem dX5_isGreater_24 : decode cX5_isGreater 24 = .ok (.i2l, 1) := by decide +kernel
theorem dX5_isGreater_25 : decode cX5_isGreater 25 = .ok (.lmul, 1) := by decide +kernel
theorem dX5_isGreater_26 : decode cX5_isGreater 26 = .ok (.lcmp, 1) := by decide +kernel
theorem dX5_isGreater_27 : decode cX5_isGreater 27 = .ok (.ifCond .le 7, 3) := by decide +kernel
theorem dX5_isGreater_30 : decode cX5_isGreater 30 = .ok (.iconst 1, 1) := by decide +kernel
theorem dX5_isGreater_31 : decode cX5_isGreater 31 = .ok (.goto 4, 3) := by decide +kernel
theorem dX5_isGreater_34 : decode cX5_isGreater 34 = .ok (.iconst 0, 1) := by decide +kernel
theorem dX5_isGreater_35 : decode cX5_isGreater 35 = .ok (.ireturn, 1) := by decide +kernel
theorem dX5_isMoreThanChance_0 : decode cX5_isMoreThanChance 0 = .ok (.aload_n 0, 1) := by decide +kernel
theorem dX5_isMoreThanChance_1 : decode cX5_isMoreThanChance 1 = .ok (.iload_n 1, 1) := by decide +kernel
theorem dX5_isMoreThanChance_2 : decode cX5_isMoreThanChance 2 = .ok (.iconst 0, 1) := by decide +kernel
theorem dX5_isMoreThanChance_3 : decode cX5_isMoreThanChance 3 = .ok (.invokevirtual 22, 3) := by decide +kernel
theorem dX5_isMoreThanChance_6 : decode cX5_isMoreThanChance 6 = .ok (.aload_n 0, 1) := by decide +kernel
theorem dX5_isMoreThanChance_7 : decode cX5_isMoreThanChance 7 = .ok (.iload_n 1, 1) := by decide +kernel
theorem dX5_isMoreThanChance_8 : decode cX5_isMoreThanChance 8 = .ok (.iconst 2, 1) := by decide +kernel
theorem dX5_isMoreThanChance_9 : decode cX5_isMoreThanChance 9 = .ok (.invokevirtual 22, 3) := by decide +kernel
theorem dX5_isMoreThanChance_12 : decode cX5_isMoreThanChance 12 = .ok (.iadd, 1) := by decide +kernel
theorem dX5_isMoreThanChance_13 : decode cX5_isMoreThanChance 13 = .ok (.istore_n 2, 1) := by decide +kernel
theorem dX5_isMoreThanChance_14 : decode cX5_isMoreThanChance 14 = .ok (.aload_n 0, 1) := by decide +kernel
theorem dX5_isMoreThanChance_15 : decode cX5_isMoreThanChance 15 = .ok (.iload_n 1, 1) := by decide +kernel
theorem dX5_isMoreThanChance_16 : decode cX5_isMoreThanChance 16 = .ok (.iconst 0, 1) := by decide +kernel
theorem dX5_isMoreThanChance_17 : decode cX5_isMoreThanChance 17 = .ok (.invokevirtual 22, 3) := by decide +kernel
theorem dX5_isMoreThanChance_20 : decode cX5_isMoreThanChance 20 = .ok (.aload_n 0, 1) := by decide +kernel
theorem dX5_isMoreThanChance_21 : decode cX5_isMoreThanChance 21 = .ok (.iload_n 1, 1) := by decide +kernel
theorem dX5_isMoreThanChance_22 : decode cX5_isMoreThanChance 22 = .ok (.iconst 1, 1) := by decide +kernel
theorem dX5_isMoreThanChance_23 : decode cX5_isMoreThanChance 23 = .ok (.invokevirtual 22, 3) := by decide +kernel
theorem dX5_isMoreThanChance_26 : decode cX5_isMoreThanChance 26 = .ok (.iadd, 1) := by decide +kernel
theorem dX5_isMoreThanChance_27 : decode cX5_isMoreThanChance 27 = .ok (.istore_n 3, 1) := by decide +kernel
theorem dX5_isMoreThanChance_28 : decode cX5_isMoreThanChance 28 = .ok (.aload_n 0, 1) := by decide +kernel
theorem dX5_isMoreThanChance_29 : decode cX5_isMoreThanChance 29 = .ok (.getfield 18, 3) := by decide +kernel
theorem dX5_isMoreThanChance_32 : decode cX5_isMoreThanChance 32 = .ok (.iload_n 3, 1) := by decide +kernel
theorem dX5_isMoreThanChance_33 : decode cX5_isMoreThanChance 33 = .ok (.isub, 1) := by decide +kernel
theorem dX5_isMoreThanChance_34 : decode cX5_isMoreThanChance 34 = .ok (.istore 4, 2) := by decide +kernel
theorem dX5_isMoreThanChance_36 : decode cX5_isMoreThanChance 36 = .ok (.lconst 0, 1) := by decide +kernel
theorem dX5_isMoreThanChance_37 : decode cX5_isMoreThanChance 37 = .ok (.lstore 5, 2) := by decide +kernel
theorem dX5_isMoreThanChance_39 : decode cX5_isMoreThanChance 39 = .ok (.aload_n 0, 1) := by decide +kernel
theorem dX5_isMoreThanChance_40 : decode cX5_isMoreThanChance 40 = .ok (.iload_n 1, 1) := by decide +kernel
theorem dX5_isMoreThanChance_41 : decode cX5_isMoreThanChance 41 = .ok (.iconst 0, 1) := by decide +kernel
theorem dX5_isMoreThanChance_42 : decode cX5_isMoreThanChance 42 = .ok (.invokevirtual 22, 3) := by decide +kernel
theorem dX5_isMoreThanChance_45 : decode cX5_isMoreThanChance 45 = .ok (.istore 7, 2) := by decide +kernel
theorem dX5_isMoreThanChance_47 : decode cX5_isMoreThanChance 47 = .ok (.iload 7, 2) := by decide +kernel
theorem dX5_isMoreThanChance_49 : decode cX5_isMoreThanChance 49 = .ok (.iload_n 3, 1) := by decide +kernel
theorem dX5_isMoreThanChance_50 : decode cX5_isMoreThanChance 50 = .ok (.if_icmp .gt 30, 3) := by decide +kernel
theorem dX5_isMoreThanChance_53 : decode cX5_isMoreThanChance 53 = .ok (.lload 5, 2) := by decide +kernel
theorem dX5_isMoreThanChance_55 : decode cX5_isMoreThanChance 55 = .ok (.iload_n 3, 1) := by decide +kernel
theorem dX5_isMoreThanChance_56 : decode cX5_isMoreThanChance 56 = .ok (.iload 7, 2) := by decide +kernel
theorem dX5_isMoreThanChance_58 : decode cX5_isMoreThanChance 58 = .ok (.invokestatic 33, 3) := by decide +kernel
theorem dX5_isMoreThanChance_61 : decode cX5_isMoreThanChance 61 = .ok (.iload 4, 2) := by decide +kernel
theorem dX5_isMoreThanChance_63 : decode cX5_isMoreThanChance 63 = .ok (.iload_n 2, 1) := by decide +kernel
theorem dX5_isMoreThanChance_64 : decode cX5_isMoreThanChance 64 = .ok (.iload 7, 2) := by decide +kernel
theorem dX5_isMoreThanChance_66 : decode cX5_isMoreThanChance 66 = .ok (.isub, 1) := by decide +kernel
theorem dX5_isMoreThanChance_67 : decode cX5_isMoreThanChance 67 = .ok (.invokestatic 33, 3) := by decide +kernel
theorem dX5_isMoreThanChance_70 : decode cX5_isMoreThanChance 70 = .ok (.lmul, 1) := by decide +kernel
theorem dX5_isMoreThanChance_71 : decode cX5_isMoreThanChance 71 = .ok (.ladd, 1) := by decide +kernel
theorem dX5_isMoreThanChance_72 : decode cX5_isMoreThanChance 72 = .ok (.lstore 5, 2) := by decide +kernel
theorem dX5_isMoreThanChance_74 : decode cX5_isMoreThanChance 74 = .ok (.iinc 7 1, 3) := by decide +kernel
theorem dX5_isMoreThanChance_77 : decode cX5_isMoreThanChance 77 = .ok (.goto (-30), 3) := by decide +kernel
theorem dX5_isMoreThanChance_80 : decode cX5_isMoreThanChance 80 = .ok (.ldc2_w 37, 3) := by decide +kernel
theorem dX5_isMoreThanChance_83 : decode cX5_isMoreThanChance 83 = .ok (.lload 5, 2) := by decide +kernel
theorem dX5_isMoreThanChance_85 : decode cX5_isMoreThanChance 85 = .ok (.lmul, 1) := by decide +kernel
theorem dX5_isMoreThanChance_86 : decode cX5_isMoreThanChance 86 = .ok (.aload_n 0, 1) := by decide +kernel
theorem dX5_isMoreThanChance_87 : decode cX5_isMoreThanChance 87 = .ok (.getfield 18, 3) := by decide +kernel
theorem dX5_isMoreThanChance_90 : decode cX5_isMoreThanChance 90 = .ok (.iload_n 2, 1) := by decide +kernel
theorem dX5_isMoreThanChance_91 : decode cX5_isMoreThanChance 91 = .ok (.invokestatic 33, 3) := by decide +kernel
theorem dX5_isMoreThanChance_94 : decode cX5_isMoreThanChance 94 = .ok (.lcmp, 1) := by decide +kernel
theorem dX5_isMoreThanChance_95 : decode cX5_isMoreThanChance 95 = .ok (.ifCond .gt 7, 3) := by decide +kernel
theorem dX5_isMoreThanChance_98 : decode cX5_isMoreThanChance 98 = .ok (.iconst 1, 1) := by decide +kernel
theorem dX5_isMoreThanChance_99 : decode cX5_isMoreThanChance 99 = .ok (.goto 4, 3) := by decide +kernel
theorem dX5_isMoreThanChance_102 : decode cX5_isMoreThanChance 102 = .ok (.iconst 0, 1) := by decide +kernel
theorem dX5_isMoreThanChance_103 : decode cX5_isMoreThanChance 103 = .ok (.ireturn, 1) := by decide +kernel
theorem dX6_init_0 : decode cX6_init 0 = .ok (.aload_n 0, 1) := by decide +kernel
theorem dX6_init_1 : decode cX6_init 1 = .ok (.invokespecial 1, 3) := by decide +kernel
theorem dX6_init_4 : decode cX6_init 4 = .ok (.aload_n 0, 1) := by decide +kernel
theorem dX6_init_5 : decode cX6_init 5 = .ok (.aload_n 1, 1) := by decide +kernel
theorem dX6_init_6 : decode cX6_init 6 = .ok (.putfield 7, 3) := by decide +kernel
theorem dX6_init_9 : decode cX6_init 9 = .ok (.aload_n 0, 1) := by decide +kernel
theorem dX6_init_10 : decode cX6_init 10 = .ok (.iload_n 2, 1) := by decide +kernel
theorem dX6_init_11 : decode cX6_init 11 = .ok (.putfield 13, 3) := by decide +kernel
theorem dX6_init_14 : decode cX6_init 14 = .ok (.aload_n 0, 1) := by decide +kernel
theorem dX6_init_15 : decode cX6_init 15 = .ok (.iload_n 3, 1) := by decide +kernel
theorem dX6_init_16 : decode cX6_init 16 = .ok (.putfield 17, 3) := by decide +kernel
theorem dX6_init_19 : decode cX6_init 19 = .ok (.aload_n 0, 1) := by decide +kernel
theorem dX6_init_20 : decode cX6_init 20 = .ok (.iload 4, 2) := by decide +kernel
theorem dX6_init_22 : decode cX6_init 22 = .ok (.putfield 20, 3) := by decide +kernel
theorem dX6_init_25 : decode cX6_init 25 = .ok (.return_, 1) := by decide +kernel
theorem dX6_canBeCutFrom_0 : decode cX6_canBeCutFrom 0 = .ok (.aload_n 1, 1) := by decide +kernel
theorem dX6_canBeCutFrom_1 : decode cX6_canBeCutFrom 1 = .ok (.getfield 23, 3) := by decide +kernel
theorem dX6_canBeCutFrom_4 : decode cX6_canBeCutFrom 4 = .ok (.aload_n 0, 1) := by decide +kernel
theorem dX6_canBeCutFrom_5 : decode cX6_canBeCutFrom 5 = .ok (.getfield 7, 3) := by decide +kernel
theorem dX6_canBeCutFrom_8 : decode cX6_canBeCutFrom 8 = .ok (.if_acmp .ne 36, 3) := by decide +kernel
theorem dX6_canBeCutFrom_11 : decode cX6_canBeCutFrom 11 = .ok (.aload_n 1, 1) := by decide +kernel
theorem dX6_canBeCutFrom_12 : decode cX6_canBeCutFrom 12 = .ok (.getfield 26, 3) := by decide +kernel
theorem dX6_canBeCutFrom_15 : decode cX6_canBeCutFrom 15 = .ok (.aload_n 0, 1) := by decide +kernel
theorem dX6_canBeCutFrom_16 : decode cX6_canBeCutFrom 16 = .ok (.getfield 13, 3) := by decide +kernel
theorem dX6_canBeCutFrom_19 : decode cX6_canBeCutFrom 19 = .ok (.aload_n 0, 1) := by decide +kernel
theorem dX6_canBeCutFrom_20 : decode cX6_canBeCutFrom 20 = .ok (.getfield 17, 3) := by decide +kernel
theorem dX6_canBeCutFrom_23 : decode cX6_canBeCutFrom 23 = .ok (.invokestatic 29, 3) := by decide +kernel
theorem dX6_canBeCutFrom_26 : decode cX6_canBeCutFrom 26 = .ok (.ifCond .eq 18, 3) := by decide +kernel
theorem dX6_canBeCutFrom_29 : decode cX6_canBeCutFrom 29 = .ok (.aload_n 1, 1) := by decide +kernel
theorem dX6_canBeCutFrom_30 : decode cX6_canBeCutFrom 30 = .ok (.invokevirtual 35, 3) := by decide +kernel
theorem dX6_canBeCutFrom_33 : decode cX6_canBeCutFrom 33 = .ok (.aload_n 0, 1) := by decide +kernel
theorem dX6_canBeCutFrom_34 : decode cX6_canBeCutFrom 34 = .ok (.getfield 20, 3) := by decide +kernel
theorem dX6_canBeCutFrom_37 : decode cX6_canBeCutFrom 37 = .ok (.if_icmp .lt 7, 3) := by decide +kernel
theorem dX6_canBeCutFrom_40 : decode cX6_canBeCutFrom 40 = .ok (.iconst 1, 1) := by decide +kernel
theorem dX6_canBeCutFrom_41 : decode cX6_canBeCutFrom 41 = .ok (.goto 4, 3) := by decide +kernel
theorem dX6_canBeCutFrom_44 : decode cX6_canBeCutFrom 44 = .ok (.iconst 0, 1) := by decide +kernel
theorem dX6_canBeCutFrom_45 : decode cX6_canBeCutFrom 45 = .ok (.ireturn, 1) := by decide +kernel
theorem dX7_init_0 : decode cX7_init 0 = .ok (.aload_n 0, 1) := by decide +kernel
theorem dX7_init_1 : decode cX7_init 1 = .ok (.invokespecial 3, 3) := by decide +kernel
theorem dX7_init_4 : decode cX7_init 4 = .ok (.aload_n 0, 1) := by decide +kernel
theorem dX7_init_5 : decode cX7_init 5 = .ok (.bipush 8, 2) := by decide +kernel
theorem dX7_init_7 : decode cX7_init 7 = .ok (.anewarray 9, 3) := by decide +kernel
theorem dX7_init_10 : decode cX7_init 10 = .ok (.putfield 11, 3) := by decide +kernel
theorem dX7_init_13 : decode cX7_init 13 = .ok (.return_, 1) := by decide +kernel
theorem dX7_bore_0 : decode cX7_bore 0 = .ok (.aload_n 0, 1) := by decide +kernel
theorem dX7_bore_1 : decode cX7_bore 1 = .ok (.getfield 17, 3) := by decide +kernel
theorem dX7_bore_4 : decode cX7_bore 4 = .ok (.ifCond .lt 15, 3) := by decide +kernel
theorem dX7_bore_7 : decode cX7_bore 7 = .ok (.aload_n 0, 1) := by decide +kernel
theorem dX7_bore_8 : decode cX7_bore 8 = .ok (.getfield 17, 3) := by decide +kernel
theorem dX7_bore_11 : decode cX7_bore 11 = .ok (.aload_n 0, 1) := by decide +kernel
theorem dX7_bore_12 : decode cX7_bore 12 = .ok (.getfield 11, 3) := by decide +kernel
theorem dX7_bore_15 : decode cX7_bore 15 = .ok (.arraylength, 1) := by decide +kernel
theorem dX7_bore_16 : decode cX7_bore 16 = .ok (.if_icmp .lt 6, 3) := by decide +kernel
theorem dX7_bore_19 : decode cX7_bore 19 = .ok (.bipush (-8), 2) := by decide +kernel
theorem dX7_bore_21 : decode cX7_bore 21 = .ok (.ireturn, 1) := by decide +kernel
theorem dX7_bore_22 : decode cX7_bore 22 = .ok (.aload_n 0, 1) := by decide +kernel
theorem dX7_bore_23 : decode cX7_bore 23 = .ok (.getfield 11, 3) := by decide +kernel
theorem dX7_bore_26 : decode cX7_bore 26 = .ok (.aload_n 0, 1) := by decide +kernel
theorem dX7_bore_27 : decode cX7_bore 27 = .ok (.getfield 17, 3) := by decide +kernel
theorem dX7_bore_30 : decode cX7_bore 30 = .ok (.new 9, 3) := by decide +kernel
theorem dX7_bore_33 : decode cX7_bore 33 = .ok (.dup, 1) := by decide +kernel
theorem dX7_bore_34 : decode cX7_bore 34 = .ok (.iload_n 1, 1) := by decide +kernel
theorem dX7_bore_35 : decode cX7_bore 35 = .ok (.invokespecial 21, 3) := by decide +kernel
theorem dX7_bore_38 : decode cX7_bore 38 = .ok (.aastore, 1) := by decide +kernel
theorem dX7_bore_39 : decode cX7_bore 39 = .ok (.aload_n 0, 1) := by decide +kernel
theorem dX7_bore_40 : decode cX7_bore 40 = .ok (.dup, 1) := by decide +kernel
theorem dX7_bore_41 : decode cX7_bore 41 = .ok (.getfield 17, 3) := by decide +kernel
theorem dX7_bore_44 : decode cX7_bore 44 = .ok (.dup_x1, 1) := by decide +kernel
theorem dX7_bore_45 : decode cX7_bore 45 = .ok (.iconst 1, 1) := by decide +kernel
theorem dX7_bore_46 : decode cX7_bore 46 = .ok (.iadd, 1) := by decide +kernel
theorem dX7_bore_47 : decode cX7_bore 47 = .ok (.putfield 17, 3) := by decide +kernel
theorem dX7_bore_50 : decode cX7_bore 50 = .ok (.ireturn, 1) := by decide +kernel
theorem dX7_holeAt_0 : decode cX7_holeAt 0 = .ok (.iload_n 1, 1) := by decide +kernel
theorem dX7_holeAt_1 : decode cX7_holeAt 1 = .ok (.ifCond .lt 12, 3) := by decide +kernel
theorem dX7_holeAt_4 : decode cX7_holeAt 4 = .ok (.iload_n 1, 1) := by decide +kernel
theorem dX7_holeAt_5 : decode cX7_holeAt 5 = .ok (.aload_n 0, 1) := by decide +kernel
theorem dX7_holeAt_6 : decode cX7_holeAt 6 = .ok (.getfield 11, 3) := by decide +kernel
theorem dX7_holeAt_9 : decode cX7_holeAt 9 = .ok (.arraylength, 1) := by decide +kernel
theorem dX7_holeAt_10 : decode cX7_holeAt 10 = .ok (.if_icmp .lt 7, 3) := by decide +kernel
theorem dX7_holeAt_13 : decode cX7_holeAt 13 = .ok (.aconst_null, 1) := by decide +kernel
theorem dX7_holeAt_14 : decode cX7_holeAt 14 = .ok (.goto 9, 3) := by decide +kernel
theorem dX7_holeAt_17 : decode cX7_holeAt 17 = .ok (.aload_n 0, 1) := by decide +kernel
theorem dX7_holeAt_18 : decode cX7_holeAt 18 = .ok (.getfield 11, 3) := by decide +kernel
theorem dX7_holeAt_21 : decode cX7_holeAt 21 = .ok (.iload_n 1, 1) := by decide +kernel
theorem dX7_holeAt_22 : decode cX7_holeAt 22 = .ok (.aaload, 1) := by decide +kernel
theorem dX7_holeAt_23 : decode cX7_holeAt 23 = .ok (.areturn, 1) := by decide +kernel
theorem dX8_init_0 : decode cX8_init 0 = .ok (.aload_n 0, 1) := by decide +kernel
theorem dX8_init_1 : decode cX8_init 1 = .ok (.invokespecial 1, 3) := by decide +kernel
theorem dX8_init_4 : decode cX8_init 4 = .ok (.aload_n 0, 1) := by decide +kernel
theorem dX8_init_5 : decode cX8_init 5 = .ok (.bipush 10, 2) := by decide +kernel
theorem dX8_init_7 : decode cX8_init 7 = .ok (.putfield 7, 3) := by decide +kernel
theorem dX8_init_10 : decode cX8_init 10 = .ok (.aload_n 0, 1) := by decide +kernel
theorem dX8_init_11 : decode cX8_init 11 = .ok (.iload_n 1, 1) := by decide +kernel
theorem dX8_init_12 : decode cX8_init 12 = .ok (.putfield 13, 3) := by decide +kernel
theorem dX8_init_15 : decode cX8_init 15 = .ok (.return_, 1) := by decide +kernel
theorem dX8_minutesFor_0 : decode cX8_minutesFor 0 = .ok (.iload_n 1, 1) := by decide +kernel
theorem dX8_minutesFor_1 : decode cX8_minutesFor 1 = .ok (.i2l, 1) := by decide +kernel
theorem dX8_minutesFor_2 : decode cX8_minutesFor 2 = .ok (.aload_n 0, 1) := by decide +kernel
theorem dX8_minutesFor_3 : decode cX8_minutesFor 3 = .ok (.getfield 7, 3) := by decide +kernel
theorem dX8_minutesFor_6 : decode cX8_minutesFor 6 = .ok (.i2l, 1) := by decide +kernel
theorem dX8_minutesFor_7 : decode cX8_minutesFor 7 = .ok (.ladd, 1) := by decide +kernel
theorem dX8_minutesFor_8 : decode cX8_minutesFor 8 = .ok (.lconst 1, 1) := by decide +kernel
theorem dX8_minutesFor_9 : decode cX8_minutesFor 9 = .ok (.lsub, 1) := by decide +kernel
theorem dX8_minutesFor_10 : decode cX8_minutesFor 10 = .ok (.aload_n 0, 1) := by decide +kernel
theorem dX8_minutesFor_11 : decode cX8_minutesFor 11 = .ok (.getfield 7, 3) := by decide +kernel
theorem dX8_minutesFor_14 : decode cX8_minutesFor 14 = .ok (.i2l, 1) := by decide +kernel
theorem dX8_minutesFor_15 : decode cX8_minutesFor 15 = .ok (.invokestatic 17, 3) := by decide +kernel
theorem dX8_minutesFor_18 : decode cX8_minutesFor 18 = .ok (.l2i, 1) := by decide +kernel
theorem dX8_minutesFor_19 : decode cX8_minutesFor 19 = .ok (.iconst 1, 1) := by decide +kernel
theorem dX8_minutesFor_20 : decode cX8_minutesFor 20 = .ok (.iadd, 1) := by decide +kernel
theorem dX8_minutesFor_21 : decode cX8_minutesFor 21 = .ok (.ireturn, 1) := by decide +kernel
theorem dX9_init_0 : decode cX9_init 0 = .ok (.aload_n 0, 1) := by decide +kernel
theorem dX9_init_1 : decode cX9_init 1 = .ok (.invokespecial 3, 3) := by decide +kernel
theorem dX9_init_4 : decode cX9_init 4 = .ok (.aload_n 0, 1) := by decide +kernel
theorem dX9_init_5 : decode cX9_init 5 = .ok (.sipush 909, 3) := by decide +kernel
theorem dX9_init_8 : decode cX9_init 8 = .ok (.newarray .int, 2) := by decide +kernel
theorem dX9_init_10 : decode cX9_init 10 = .ok (.putfield 11, 3) := by decide +kernel
theorem dX9_init_13 : decode cX9_init 13 = .ok (.aload_n 0, 1) := by decide +kernel
theorem dX9_init_14 : decode cX9_init 14 = .ok (.bipush 17, 2) := by decide +kernel
theorem dX9_init_16 : decode cX9_init 16 = .ok (.newarray .int, 2) := by decide +kernel
theorem dX9_init_18 : decode cX9_init 18 = .ok (.putfield 15, 3) := by decide +kernel
theorem dX9_init_21 : decode cX9_init 21 = .ok (.aload_n 0, 1) := by decide +kernel
theorem dX9_init_22 : decode cX9_init 22 = .ok (.aload_n 1, 1) := by decide +kernel
theorem dX9_init_23 : decode cX9_init 23 = .ok (.putfield 18, 3) := by decide +kernel
theorem dX9_init_26 : decode cX9_init 26 = .ok (.return_, 1) := by decide +kernel
theorem dX9_stepAt_0 : decode cX9_stepAt 0 = .ok (.iload_n 1, 1) := by decide +kernel
theorem dX9_stepAt_1 : decode cX9_stepAt 1 = .ok (.ifCond .lt 20, 3) := by decide +kernel
theorem dX9_stepAt_4 : decode cX9_stepAt 4 = .ok (.iload_n 1, 1) := by decide +kernel
theorem dX9_stepAt_5 : decode cX9_stepAt 5 = .ok (.aload_n 0, 1) := by decide +kernel
theorem dX9_stepAt_6 : decode cX9_stepAt 6 = .ok (.getfield 22, 3) := by decide +kernel
theorem dX9_stepAt_9 : decode cX9_stepAt 9 = .ok (.if_icmp .ge 12, 3) := by decide +kernel
theorem dX9_stepAt_12 : decode cX9_stepAt 12 = .ok (.iload_n 1, 1) := by decide +kernel
theorem dX9_stepAt_13 : decode cX9_stepAt 13 = .ok (.aload_n 0, 1) := by decide +kernel
theorem dX9_stepAt_14 : decode cX9_stepAt 14 = .ok (.getfield 15, 3) := by decide +kernel
theorem dX9_stepAt_17 : decode cX9_stepAt 17 = .ok (.arraylength, 1) := by decide +kernel
theorem dX9_stepAt_18 : decode cX9_stepAt 18 = .ok (.if_icmp .lt 7, 3) := by decide +kernel
theorem dX9_stepAt_21 : decode cX9_stepAt 21 = .ok (.iconst (-1), 1) := by decide +kernel
theorem dX9_stepAt_22 : decode cX9_stepAt 22 = .ok (.goto 9, 3) := by decide +kernel
theorem dX9_stepAt_25 : decode cX9_stepAt 25 = .ok (.aload_n 0, 1) := by decide +kernel
theorem dX9_stepAt_26 : decode cX9_stepAt 26 = .ok (.getfield 15, 3) := by decide +kernel
theorem dX9_stepAt_29 : decode cX9_stepAt 29 = .ok (.iload_n 1, 1) := by decide +kernel
theorem dX9_stepAt_30 : decode cX9_stepAt 30 = .ok (.iaload, 1) := by decide +kernel
theorem dX9_stepAt_31 : decode cX9_stepAt 31 = .ok (.ireturn, 1) := by decide +kernel
theorem dX9_seek_0 : decode cX9_seek 0 = .ok (.aload_n 0, 1) := by decide +kernel
theorem dX9_seek_1 : decode cX9_seek 1 = .ok (.aload_n 1, 1) := by decide +kernel
theorem dX9_seek_2 : decode cX9_seek 2 = .ok (.putfield 26, 3) := by decide +kernel
theorem dX9_seek_5 : decode cX9_seek 5 = .ok (.aload_n 0, 1) := by decide +kernel
theorem dX9_seek_6 : decode cX9_seek 6 = .ok (.aload_n 2, 1) := by decide +kernel
theorem dX9_seek_7 : decode cX9_seek 7 = .ok (.putfield 30, 3) := by decide +kernel
theorem dX9_seek_10 : decode cX9_seek 10 = .ok (.aload_n 0, 1) := by decide +kernel
theorem dX9_seek_11 : decode cX9_seek 11 = .ok (.iload_n 3, 1) := by decide +kernel
theorem dX9_seek_12 : decode cX9_seek 12 = .ok (.putfield 34, 3) := by decide +kernel
theorem dX9_seek_15 : decode cX9_seek 15 = .ok (.aload_n 0, 1) := by decide +kernel
theorem dX9_seek_16 : decode cX9_seek 16 = .ok (.iload 4, 2) := by decide +kernel
theorem dX9_seek_18 : decode cX9_seek 18 = .ok (.putfield 37, 3) := by decide +kernel
theorem dX9_seek_21 : decode cX9_seek 21 = .ok (.aload_n 0, 1) := by decide +kernel
theorem dX9_seek_22 : decode cX9_seek 22 = .ok (.iload 5, 2) := by decide +kernel
theorem dX9_seek_24 : decode cX9_seek 24 = .ok (.putfield 40, 3) := by decide +kernel
theorem dX9_seek_27 : decode cX9_seek 27 = .ok (.aload_n 0, 1) := by decide +kernel
theorem dX9_seek_28 : decode cX9_seek 28 = .ok (.iconst 0, 1) := by decide +kernel
theorem dX9_seek_29 : decode cX9_seek 29 = .ok (.putfield 22, 3) := by decide +kernel
theorem dX9_seek_32 : decode cX9_seek 32 = .ok (.iconst 0, 1) := by decide +kernel
theorem dX9_seek_33 : decode cX9_seek 33 = .ok (.istore 6, 2) := by decide +kernel
theorem dX9_seek_35 : decode cX9_seek 35 = .ok (.iload 6, 2) := by decide +kernel
theorem dX9_seek_37 : decode cX9_seek 37 = .ok (.aload_n 0, 1) := by decide +kernel
theorem dX9_seek_38 : decode cX9_seek 38 = .ok (.getfield 11, 3) := by decide +kernel
theorem dX9_seek_41 : decode cX9_seek 41 = .ok (.arraylength, 1) := by decide +kernel
theorem dX9_seek_42 : decode cX9_seek 42 = .ok (.if_icmp .ge 17, 3) := by decide +kernel
theorem dX9_seek_45 : decode cX9_seek 45 = .ok (.aload_n 0, 1) := by decide +kernel
theorem dX9_seek_46 : decode cX9_seek 46 = .ok (.getfield 11, 3) := by decide +kernel
theorem dX9_seek_49 : decode cX9_seek 49 = .ok (.iload 6, 2) := by decide +kernel
theorem dX9_seek_51 : decode cX9_seek 51 = .ok (.iconst (-1), 1) := by decide +kernel
theorem dX9_seek_52 : decode cX9_seek 52 = .ok (.iastore, 1) := by decide +kernel
theorem dX9_seek_53 : decode cX9_seek 53 = .ok (.iinc 6 1, 3) := by decide +kernel
theorem dX9_seek_56 : decode cX9_seek 56 = .ok (.goto (-21), 3) := by decide +kernel
theorem dX9_seek_59 : decode cX9_seek 59 = .ok (.aload_n 0, 1) := by decide +kernel
theorem dX9_seek_60 : decode cX9_seek 60 = .ok (.iconst 0, 1) := by decide +kernel
theorem dX9_seek_61 : decode cX9_seek 61 = .ok (.aload_n 1, 1) := by decide +kernel
theorem dX9_seek_62 : decode cX9_seek 62 = .ok (.getfield 43, 3) := by decide +kernel
theorem dX9_seek_65 : decode cX9_seek 65 = .ok (.iconst 0, 1) := by decide +kernel
theorem dX9_seek_66 : decode cX9_seek 66 = .ok (.invokevirtual 48, 3) := by decide +kernel
theorem dX9_seek_69 : decode cX9_seek 69 = .ok (.istore 6, 2) := by decide +kernel
theorem dX9_seek_71 : decode cX9_seek 71 = .ok (.iload 6, 2) := by decide +kernel
theorem dX9_seek_73 : decode cX9_seek 73 = .ok (.ldc 52, 2) := by decide +kernel
theorem dX9_seek_75 : decode cX9_seek 75 = .ok (.if_icmp .lt 5, 3) := by decide +kernel
theorem dX9_seek_78 : decode cX9_seek 78 = .ok (.iconst (-1), 1) := by decide +kernel
theorem dX9_seek_79 : decode cX9_seek 79 = .ok (.ireturn, 1) := by decide +kernel
theorem dX9_seek_80 : decode cX9_seek 80 = .ok (.aload_n 0, 1) := by decide +kernel
theorem dX9_seek_81 : decode cX9_seek 81 = .ok (.aload_n 1, 1) := by decide +kernel
theorem dX9_seek_82 : decode cX9_seek 82 = .ok (.getfield 43, 3) := by decide +kernel
theorem dX9_seek_85 : decode cX9_seek 85 = .ok (.iload 6, 2) := by decide +kernel
theorem dX9_seek_87 : decode cX9_seek 87 = .ok (.bipush 100, 2) := by decide +kernel
theorem dX9_seek_89 : decode cX9_seek 89 = .ok (.idiv, 1) := by decide +kernel
theorem dX9_seek_90 : decode cX9_seek 90 = .ok (.iload 6, 2) := by decide +kernel
theorem dX9_seek_92 : decode cX9_seek 92 = .ok (.bipush 100, 2) := by decide +kernel
theorem dX9_seek_94 : decode cX9_seek 94 = .ok (.irem, 1) := by decide +kernel
theorem dX9_seek_95 : decode cX9_seek 95 = .ok (.iadd, 1) := by decide +kernel
theorem dX9_seek_96 : decode cX9_seek 96 = .ok (.invokevirtual 53, 3) := by decide +kernel
theorem dX9_seek_99 : decode cX9_seek 99 = .ok (.iload 6, 2) := by decide +kernel
theorem dX9_seek_101 : decode cX9_seek 101 = .ok (.ireturn, 1) := by decide +kernel
theorem dX9_laySteps_0 : decode cX9_laySteps 0 = .ok (.iconst 0, 1) := by decide +kernel
theorem dX9_laySteps_1 : decode cX9_laySteps 1 = .ok (.istore_n 3, 1) := by decide +kernel
theorem dX9_laySteps_2 : decode cX9_laySteps 2 = .ok (.iload_n 1, 1) := by decide +kernel
theorem dX9_laySteps_3 : decode cX9_laySteps 3 = .ok (.istore 4, 2) := by decide +kernel
theorem dX9_laySteps_5 : decode cX9_laySteps 5 = .ok (.iconst 0, 1) := by decide +kernel
theorem dX9_laySteps_6 : decode cX9_laySteps 6 = .ok (.istore 5, 2) := by decide +kernel
theorem dX9_laySteps_8 : decode cX9_laySteps 8 = .ok (.iload 5, 2) := by decide +kernel
theorem dX9_laySteps_10 : decode cX9_laySteps 10 = .ok (.iload_n 2, 1) := by decide +kernel
theorem dX9_laySteps_11 : decode cX9_laySteps 11 = .ok (.if_icmp .ge 111, 3) := by decide +kernel
theorem dX9_laySteps_14 : decode cX9_laySteps 14 = .ok (.iload 5, 2) := by decide +kernel
theorem dX9_laySteps_16 : decode cX9_laySteps 16 = .ok (.aload_n 0, 1) := by decide +kernel
theorem dX9_laySteps_17 : decode cX9_laySteps 17 = .ok (.getfield 15, 3) := by decide +kernel
theorem dX9_laySteps_20 : decode cX9_laySteps 20 = .ok (.arraylength, 1) := by decide +kernel
theorem dX9_laySteps_21 : decode cX9_laySteps 21 = .ok (.if_icmp .ge 101, 3) := by decide +kernel
theorem dX9_laySteps_24 : decode cX9_laySteps 24 = .ok (.iload_n 3, 1) := by decide +kernel
theorem dX9_laySteps_25 : decode cX9_laySteps 25 = .ok (.bipush 101, 2) := by decide +kernel
theorem dX9_laySteps_27 : decode cX9_laySteps 27 = .ok (.imul, 1) := by decide +kernel
theorem dX9_laySteps_28 : decode cX9_laySteps 28 = .ok (.iload 4, 2) := by decide +kernel
theorem dX9_laySteps_30 : decode cX9_laySteps 30 = .ok (.iadd, 1) := by decide +kernel
theorem dX9_laySteps_31 : decode cX9_laySteps 31 = .ok (.istore 6, 2) := by decide +kernel
theorem dX9_laySteps_33 : decode cX9_laySteps 33 = .ok (.iload 6, 2) := by decide +kernel
theorem dX9_laySteps_35 : decode cX9_laySteps 35 = .ok (.ifCond .lt 13, 3) := by decide +kernel
theorem dX9_laySteps_38 : decode cX9_laySteps 38 = .ok (.iload 6, 2) := by decide +kernel
theorem dX9_laySteps_40 : decode cX9_laySteps 40 = .ok (.aload_n 0, 1) := by decide +kernel
theorem dX9_laySteps_41 : decode cX9_laySteps 41 = .ok (.getfield 11, 3) := by decide +kernel
theorem dX9_laySteps_44 : decode cX9_laySteps 44 = .ok (.arraylength, 1) := by decide +kernel
theorem dX9_laySteps_45 : decode cX9_laySteps 45 = .ok (.if_icmp .lt 4, 3) := by decide +kernel
theorem dX9_laySteps_48 : decode cX9_laySteps 48 = .ok (.return_, 1) := by decide +kernel
theorem dX9_laySteps_49 : decode cX9_laySteps 49 = .ok (.aload_n 0, 1) := by decide +kernel
theorem dX9_laySteps_50 : decode cX9_laySteps 50 = .ok (.getfield 11, 3) := by decide +kernel
theorem dX9_laySteps_53 : decode cX9_laySteps 53 = .ok (.iload 6, 2) := by decide +kernel
theorem dX9_laySteps_55 : decode cX9_laySteps 55 = .ok (.iaload, 1) := by decide +kernel
theorem dX9_laySteps_56 : decode cX9_laySteps 56 = .ok (.bipush 9, 2) := by decide +kernel
theorem dX9_laySteps_58 : decode cX9_laySteps 58 = .ok (.irem, 1) := by decide +kernel
theorem dX9_laySteps_59 : decode cX9_laySteps 59 = .ok (.istore 7, 2) := by decide +kernel
theorem dX9_laySteps_61 : decode cX9_laySteps 61 = .ok (.aload_n 0, 1) := by decide +kernel
theorem dX9_laySteps_62 : decode cX9_laySteps 62 = .ok (.getfield 15, 3) := by decide +kernel
theorem dX9_laySteps_65 : decode cX9_laySteps 65 = .ok (.iload 5, 2) := by decide +kernel
theorem dX9_laySteps_67 : decode cX9_laySteps 67 = .ok (.iload 7, 2) := by decide +kernel
theorem dX9_laySteps_69 : decode cX9_laySteps 69 = .ok (.iastore, 1) := by decide +kernel
theorem dX9_laySteps_70 : decode cX9_laySteps 70 = .ok (.aload_n 0, 1) := by decide +kernel
theorem dX9_laySteps_71 : decode cX9_laySteps 71 = .ok (.iload 5, 2) := by decide +kernel
theorem dX9_laySteps_73 : decode cX9_laySteps 73 = .ok (.iconst 1, 1) := by decide +kernel
theorem dX9_laySteps_74 : decode cX9_laySteps 74 = .ok (.iadd, 1) := by decide +kernel
theorem dX9_laySteps_75 : decode cX9_laySteps 75 = .ok (.putfield 22, 3) := by decide +kernel
theorem dX9_laySteps_78 : decode cX9_laySteps 78 = .ok (.iload 7, 2) := by decide +kernel
theorem dX9_laySteps_80 : decode cX9_laySteps 80 = .ok (.bipush 8, 2) := by decide +kernel
theorem dX9_laySteps_82 : decode cX9_laySteps 82 = .ok (.if_icmp .ne 7, 3) := by decide +kernel
theorem dX9_laySteps_85 : decode cX9_laySteps 85 = .ok (.iconst 0, 1) := by decide +kernel
theorem dX9_laySteps_86 : decode cX9_laySteps 86 = .ok (.goto 12, 3) := by decide +kernel
theorem dX9_laySteps_89 : decode cX9_laySteps 89 = .ok (.aload_n 0, 1) := by decide +kernel
theorem dX9_laySteps_90 : decode cX9_laySteps 90 = .ok (.iload_n 3, 1) := by decide +kernel
theorem dX9_laySteps_91 : decode cX9_laySteps 91 = .ok (.iload 4, 2) := by decide +kernel
theorem dX9_laySteps_93 : decode cX9_laySteps 93 = .ok (.iload 7, 2) := by decide +kernel
theorem dX9_laySteps_95 : decode cX9_laySteps 95 = .ok (.invokevirtual 57, 3) := by decide +kernel
theorem dX9_laySteps_98 : decode cX9_laySteps 98 = .ok (.istore 4, 2) := by decide +kernel
theorem dX9_laySteps_100 : decode cX9_laySteps 100 = .ok (.iload 7, 2) := by decide +kernel
theorem dX9_laySteps_102 : decode cX9_laySteps 102 = .ok (.bipush 8, 2) := by decide +kernel
theorem dX9_laySteps_104 : decode cX9_laySteps 104 = .ok (.if_icmp .ne 7, 3) := by decide +kernel
theorem dX9_laySteps_107 : decode cX9_laySteps 107 = .ok (.iload_n 3, 1) := by decide +kernel
theorem dX9_laySteps_108 : decode cX9_laySteps 108 = .ok (.goto 7, 3) := by decide +kernel
theorem dX9_laySteps_111 : decode cX9_laySteps 111 = .ok (.iload 7, 2) := by decide +kernel
theorem dX9_laySteps_113 : decode cX9_laySteps 113 = .ok (.iconst 1, 1) := by decide +kernel
theorem dX9_laySteps_114 : decode cX9_laySteps 114 = .ok (.iadd, 1) := by decide +kernel
theorem dX9_laySteps_115 : decode cX9_laySteps 115 = .ok (.istore_n 3, 1) := by decide +kernel
theorem dX9_laySteps_116 : decode cX9_laySteps 116 = .ok (.iinc 5 1, 3) := by decide +kernel
theorem dX9_laySteps_119 : decode cX9_laySteps 119 = .ok (.goto (-111), 3) := by decide +kernel
theorem dX9_laySteps_122 : decode cX9_laySteps 122 = .ok (.return_, 1) := by decide +kernel
theorem dX9_priceFrom_0 : decode cX9_priceFrom 0 = .ok (.iload_n 1, 1) := by decide +kernel
theorem dX9_priceFrom_1 : decode cX9_priceFrom 1 = .ok (.bipush 101, 2) := by decide +kernel
theorem dX9_priceFrom_3 : decode cX9_priceFrom 3 = .ok (.imul, 1) := by decide +kernel
theorem dX9_priceFrom_4 : decode cX9_priceFrom 4 = .ok (.iload_n 2, 1) := by decide +kernel
theorem dX9_priceFrom_5 : decode cX9_priceFrom 5 = .ok (.iadd, 1) := by decide +kernel
theorem dX9_priceFrom_6 : decode cX9_priceFrom 6 = .ok (.istore 4, 2) := by decide +kernel
theorem dX9_priceFrom_8 : decode cX9_priceFrom 8 = .ok (.iload_n 3, 1) := by decide +kernel
theorem dX9_priceFrom_9 : decode cX9_priceFrom 9 = .ok (.bipush 17, 2) := by decide +kernel
theorem dX9_priceFrom_11 : decode cX9_priceFrom 11 = .ok (.if_icmp .gt 18, 3) := by decide +kernel
theorem dX9_priceFrom_14 : decode cX9_priceFrom 14 = .ok (.iload 4, 2) := by decide +kernel
theorem dX9_priceFrom_16 : decode cX9_priceFrom 16 = .ok (.ifCond .lt 13, 3) := by decide +kernel
theorem dX9_priceFrom_19 : decode cX9_priceFrom 19 = .ok (.iload 4, 2) := by decide +kernel
theorem dX9_priceFrom_21 : decode cX9_priceFrom 21 = .ok (.aload_n 0, 1) := by decide +kernel
theorem dX9_priceFrom_22 : decode cX9_priceFrom 22 = .ok (.getfield 11, 3) := by decide +kernel
theorem dX9_priceFrom_25 : decode cX9_priceFrom 25 = .ok (.arraylength, 1) := by decide +kernel
theorem dX9_priceFrom_26 : decode cX9_priceFrom 26 = .ok (.if_icmp .lt 6, 3) := by decide +kernel
theorem dX9_priceFrom_29 : decode cX9_priceFrom 29 = .ok (.ldc 52, 2) := by decide +kernel
theorem dX9_priceFrom_31 : decode cX9_priceFrom 31 = .ok (.ireturn, 1) := by decide +kernel
theorem dX9_priceFrom_32 : decode cX9_priceFrom 32 = .ok (.aload_n 0, 1) := by decide +kernel
theorem dX9_priceFrom_33 : decode cX9_priceFrom 33 = .ok (.iload_n 1, 1) := by decide +kernel
theorem dX9_priceFrom_34 : decode cX9_priceFrom 34 = .ok (.invokevirtual 60, 3) := by decide +kernel
theorem dX9_priceFrom_37 : decode cX9_priceFrom 37 = .ok (.aload_n 0, 1) := by decide +kernel
theorem dX9_priceFrom_38 : decode cX9_priceFrom 38 = .ok (.getfield 37, 3) := by decide +kernel
theorem dX9_priceFrom_41 : decode cX9_priceFrom 41 = .ok (.aload_n 0, 1) := by decide +kernel
theorem dX9_priceFrom_42 : decode cX9_priceFrom 42 = .ok (.getfield 40, 3) := by decide +kernel
theorem dX9_priceFrom_45 : decode cX9_priceFrom 45 = .ok (.invokestatic 64, 3) := by decide +kernel
theorem dX9_priceFrom_48 : decode cX9_priceFrom 48 = .ok (.ifCond .eq 5, 3) := by decide +kernel
theorem dX9_priceFrom_51 : decode cX9_priceFrom 51 = .ok (.iconst 0, 1) := by decide +kernel
theorem dX9_priceFrom_52 : decode cX9_priceFrom 52 = .ok (.ireturn, 1) := by decide +kernel
theorem dX9_priceFrom_53 : decode cX9_priceFrom 53 = .ok (.aload_n 0, 1) := by decide +kernel
theorem dX9_priceFrom_54 : decode cX9_priceFrom 54 = .ok (.getfield 11, 3) := by decide +kernel
theorem dX9_priceFrom_57 : decode cX9_priceFrom 57 = .ok (.iload 4, 2) := by decide +kernel
theorem dX9_priceFrom_59 : decode cX9_priceFrom 59 = .ok (.iaload, 1) := by decide +kernel
theorem dX9_priceFrom_60 : decode cX9_priceFrom 60 = .ok (.iconst (-1), 1) := by decide +kernel
theorem dX9_priceFrom_61 : decode cX9_priceFrom 61 = .ok (.if_icmp .eq 14, 3) := by decide +kernel
theorem dX9_priceFrom_64 : decode cX9_priceFrom 64 = .ok (.aload_n 0, 1) := by decide +kernel
theorem dX9_priceFrom_65 : decode cX9_priceFrom 65 = .ok (.getfield 11, 3) := by decide +kernel
theorem dX9_priceFrom_68 : decode cX9_priceFrom 68 = .ok (.iload 4, 2) := by decide +kernel
theorem dX9_priceFrom_70 : decode cX9_priceFrom 70 = .ok (.iaload, 1) := by decide +kernel
theorem dX9_priceFrom_71 : decode cX9_priceFrom 71 = .ok (.bipush 9, 2) := by decide +kernel
theorem dX9_priceFrom_73 : decode cX9_priceFrom 73 = .ok (.idiv, 1) := by decide +kernel
theorem dX9_priceFrom_74 : decode cX9_priceFrom 74 = .ok (.ireturn, 1) := by decide +kernel
theorem dX9_priceFrom_75 : decode cX9_priceFrom 75 = .ok (.ldc 68, 2) := by decide +kernel
theorem dX9_priceFrom_77 : decode cX9_priceFrom 77 = .ok (.istore 5, 2) := by decide +kernel
theorem dX9_priceFrom_79 : decode cX9_priceFrom 79 = .ok (.iconst 0, 1) := by decide +kernel
theorem dX9_priceFrom_80 : decode cX9_priceFrom 80 = .ok (.istore 6, 2) := by decide +kernel
theorem dX9_priceFrom_82 : decode cX9_priceFrom 82 = .ok (.iload 6, 2) := by decide +kernel
theorem dX9_priceFrom_84 : decode cX9_priceFrom 84 = .ok (.bipush 8, 2) := by decide +kernel
theorem dX9_priceFrom_86 : decode cX9_priceFrom 86 = .ok (.if_icmp .ge 60, 3) := by decide +kernel
theorem dX9_priceFrom_89 : decode cX9_priceFrom 89 = .ok (.aload_n 0, 1) := by decide +kernel
theorem dX9_priceFrom_90 : decode cX9_priceFrom 90 = .ok (.iload_n 1, 1) := by decide +kernel
theorem dX9_priceFrom_91 : decode cX9_priceFrom 91 = .ok (.iload_n 2, 1) := by decide +kernel
theorem dX9_priceFrom_92 : decode cX9_priceFrom 92 = .ok (.iload 6, 2) := by decide +kernel
theorem dX9_priceFrom_94 : decode cX9_priceFrom 94 = .ok (.invokevirtual 57, 3) := by decide +kernel
theorem dX9_priceFrom_97 : decode cX9_priceFrom 97 = .ok (.istore 7, 2) := by decide +kernel
theorem dX9_priceFrom_99 : decode cX9_priceFrom 99 = .ok (.iload 7, 2) := by decide +kernel
theorem dX9_priceFrom_101 : decode cX9_priceFrom 101 = .ok (.iconst (-1), 1) := by decide +kernel
theorem dX9_priceFrom_102 : decode cX9_priceFrom 102 = .ok (.if_icmp .ne 6, 3) := by decide +kernel
theorem dX9_priceFrom_105 : decode cX9_priceFrom 105 = .ok (.goto 35, 3) := by decide +kernel
theorem dX9_priceFrom_108 : decode cX9_priceFrom 108 = .ok (.aload_n 0, 1) := by decide +kernel
theorem dX9_priceFrom_109 : decode cX9_priceFrom 109 = .ok (.iload 6, 2) := by decide +kernel
theorem dX9_priceFrom_111 : decode cX9_priceFrom 111 = .ok (.iconst 1, 1) := by decide +kernel
theorem dX9_priceFrom_112 : decode cX9_priceFrom 112 = .ok (.iadd, 1) := by decide +kernel
theorem dX9_priceFrom_113 : decode cX9_priceFrom 113 = .ok (.iload 7, 2) := by decide +kernel
theorem dX9_priceFrom_115 : decode cX9_priceFrom 115 = .ok (.iload_n 3, 1) := by decide +kernel
theorem dX9_priceFrom_116 : decode cX9_priceFrom 116 = .ok (.iconst 1, 1) := by decide +kernel
theorem dX9_priceFrom_117 : decode cX9_priceFrom 117 = .ok (.iadd, 1) := by decide +kernel
theorem dX9_priceFrom_118 : decode cX9_priceFrom 118 = .ok (.invokevirtual 48, 3) := by decide +kernel
theorem dX9_priceFrom_121 : decode cX9_priceFrom 121 = .ok (.iconst 1, 1) := by decide +kernel
theorem dX9_priceFrom_122 : decode cX9_priceFrom 122 = .ok (.iadd, 1) := by decide +kernel
theorem dX9_priceFrom_123 : decode cX9_priceFrom 123 = .ok (.istore 8, 2) := by decide +kernel
theorem dX9_priceFrom_125 : decode cX9_priceFrom 125 = .ok (.iload 5, 2) := by decide +kernel
theorem dX9_priceFrom_127 : decode cX9_priceFrom 127 = .ok (.iload 8, 2) := by decide +kernel
theorem dX9_priceFrom_129 : decode cX9_priceFrom 129 = .ok (.bipush 9, 2) := by decide +kernel
theorem dX9_priceFrom_131 : decode cX9_priceFrom 131 = .ok (.imul, 1) := by decide +kernel
theorem dX9_priceFrom_132 : decode cX9_priceFrom 132 = .ok (.iload 6, 2) := by decide +kernel
theorem dX9_priceFrom_134 : decode cX9_priceFrom 134 = .ok (.iadd, 1) := by decide +kernel
theorem dX9_priceFrom_135 : decode cX9_priceFrom 135 = .ok (.invokestatic 69, 3) := by decide +kernel
theorem dX9_priceFrom_138 : decode cX9_priceFrom 138 = .ok (.istore 5, 2) := by decide +kernel
theorem dX9_priceFrom_140 : decode cX9_priceFrom 140 = .ok (.iinc 6 1, 3) := by decide +kernel
theorem dX9_priceFrom_143 : decode cX9_priceFrom 143 = .ok (.goto (-61), 3) := by decide +kernel
theorem dX9_priceFrom_146 : decode cX9_priceFrom 146 = .ok (.iload_n 2, 1) := by decide +kernel
theorem dX9_priceFrom_147 : decode cX9_priceFrom 147 = .ok (.ifCond .le 32, 3) := by decide +kernel
theorem dX9_priceFrom_150 : decode cX9_priceFrom 150 = .ok (.aload_n 0, 1) := by decide +kernel
theorem dX9_priceFrom_151 : decode cX9_priceFrom 151 = .ok (.iload_n 1, 1) := by decide +kernel
theorem dX9_priceFrom_152 : decode cX9_priceFrom 152 = .ok (.iconst 0, 1) := by decide +kernel
theorem dX9_priceFrom_153 : decode cX9_priceFrom 153 = .ok (.iload_n 3, 1) := by decide +kernel
theorem dX9_priceFrom_154 : decode cX9_priceFrom 154 = .ok (.iconst 1, 1) := by decide +kernel
theorem dX9_priceFrom_155 : decode cX9_priceFrom 155 = .ok (.iadd, 1) := by decide +kernel
theorem dX9_priceFrom_156 : decode cX9_priceFrom 156 = .ok (.invokevirtual 48, 3) := by decide +kernel
theorem dX9_priceFrom_159 : decode cX9_priceFrom 159 = .ok (.bipush 100, 2) := by decide +kernel
theorem dX9_priceFrom_161 : decode cX9_priceFrom 161 = .ok (.iadd, 1) := by decide +kernel
theorem dX9_priceFrom_162 : decode cX9_priceFrom 162 = .ok (.istore 6, 2) := by decide +kernel
theorem dX9_priceFrom_164 : decode cX9_priceFrom 164 = .ok (.iload 5, 2) := by decide +kernel
theorem dX9_priceFrom_166 : decode cX9_priceFrom 166 = .ok (.iload 6, 2) := by decide +kernel
theorem dX9_priceFrom_168 : decode cX9_priceFrom 168 = .ok (.bipush 9, 2) := by decide +kernel
theorem dX9_priceFrom_170 : decode cX9_priceFrom 170 = .ok (.imul, 1) := by decide +kernel
theorem dX9_priceFrom_171 : decode cX9_priceFrom 171 = .ok (.bipush 8, 2) := by decide +kernel
theorem dX9_priceFrom_173 : decode cX9_priceFrom 173 = .ok (.iadd, 1) := by decide +kernel
theorem dX9_priceFrom_174 : decode cX9_priceFrom 174 = .ok (.invokestatic 69, 3) := by decide +kernel
theorem dX9_priceFrom_177 : decode cX9_priceFrom 177 = .ok (.istore 5, 2) := by decide +kernel
theorem dX9_priceFrom_179 : decode cX9_priceFrom 179 = .ok (.aload_n 0, 1) := by decide +kernel
theorem dX9_priceFrom_180 : decode cX9_priceFrom 180 = .ok (.getfield 11, 3) := by decide +kernel
theorem dX9_priceFrom_183 : decode cX9_priceFrom 183 = .ok (.iload 4, 2) := by decide +kernel
theorem dX9_priceFrom_185 : decode cX9_priceFrom 185 = .ok (.iload 5, 2) := by decide +kernel
theorem dX9_priceFrom_187 : decode cX9_priceFrom 187 = .ok (.iastore, 1) := by decide +kernel
theorem dX9_priceFrom_188 : decode cX9_priceFrom 188 = .ok (.iload 5, 2) := by decide +kernel
theorem dX9_priceFrom_190 : decode cX9_priceFrom 190 = .ok (.bipush 9, 2) := by decide +kernel
theorem dX9_priceFrom_192 : decode cX9_priceFrom 192 = .ok (.idiv, 1) := by decide +kernel
theorem dX9_priceFrom_193 : decode cX9_priceFrom 193 = .ok (.ireturn, 1) := by decide +kernel
theorem dX9_sizeAt_0 : decode cX9_sizeAt 0 = .ok (.aload_n 0, 1) := by decide +kernel
theorem dX9_sizeAt_1 : decode cX9_sizeAt 1 = .ok (.getfield 26, 3) := by decide +kernel
theorem dX9_sizeAt_4 : decode cX9_sizeAt 4 = .ok (.ifnull 10, 3) := by decide +kernel
theorem dX9_sizeAt_7 : decode cX9_sizeAt 7 = .ok (.aload_n 0, 1) := by decide +kernel
theorem dX9_sizeAt_8 : decode cX9_sizeAt 8 = .ok (.getfield 30, 3) := by decide +kernel
theorem dX9_sizeAt_11 : decode cX9_sizeAt 11 = .ok (.ifnonnull 5, 3) := by decide +kernel
theorem dX9_sizeAt_14 : decode cX9_sizeAt 14 = .ok (.iconst 0, 1) := by decide +kernel
theorem dX9_sizeAt_15 : decode cX9_sizeAt 15 = .ok (.ireturn, 1) := by decide +kernel
theorem dX9_sizeAt_16 : decode cX9_sizeAt 16 = .ok (.iload_n 1, 1) := by decide +kernel
theorem dX9_sizeAt_17 : decode cX9_sizeAt 17 = .ok (.ifCond .ne 11, 3) := by decide +kernel
theorem dX9_sizeAt_20 : decode cX9_sizeAt 20 = .ok (.aload_n 0, 1) := by decide +kernel
theorem dX9_sizeAt_21 : decode cX9_sizeAt 21 = .ok (.getfield 26, 3) := by decide +kernel
theorem dX9_sizeAt_24 : decode cX9_sizeAt 24 = .ok (.getfield 75, 3) := by decide +kernel
theorem dX9_sizeAt_27 : decode cX9_sizeAt 27 = .ok (.ireturn, 1) := by decide +kernel
theorem dX9_sizeAt_28 : decode cX9_sizeAt 28 = .ok (.aload_n 0, 1) := by decide +kernel
theorem dX9_sizeAt_29 : decode cX9_sizeAt 29 = .ok (.getfield 30, 3) := by decide +kernel
theorem dX9_sizeAt_32 : decode cX9_sizeAt 32 = .ok (.iload_n 1, 1) := by decide +kernel
theorem dX9_sizeAt_33 : decode cX9_sizeAt 33 = .ok (.iconst 1, 1) := by decide +kernel
theorem dX9_sizeAt_34 : decode cX9_sizeAt 34 = .ok (.isub, 1) := by decide +kernel
theorem dX9_sizeAt_35 : decode cX9_sizeAt 35 = .ok (.invokevirtual 78, 3) := by decide +kernel
theorem dX9_sizeAt_38 : decode cX9_sizeAt 38 = .ok (.astore_n 2, 1) := by decide +kernel
theorem dX9_sizeAt_39 : decode cX9_sizeAt 39 = .ok (.aload_n 2, 1) := by decide +kernel
theorem dX9_sizeAt_40 : decode cX9_sizeAt 40 = .ok (.ifnonnull 7, 3) := by decide +kernel
theorem dX9_sizeAt_43 : decode cX9_sizeAt 43 = .ok (.iconst 0, 1) := by decide +kernel
theorem dX9_sizeAt_44 : decode cX9_sizeAt 44 = .ok (.goto 7, 3) := by decide +kernel
theorem dX9_sizeAt_47 : decode cX9_sizeAt 47 = .ok (.aload_n 2, 1) := by decide +kernel
theorem dX9_sizeAt_48 : decode cX9_sizeAt 48 = .ok (.invokevirtual 84, 3) := by decide +kernel
theorem dX9_sizeAt_51 : decode cX9_sizeAt 51 = .ok (.ireturn, 1) := by decide +kernel
theorem dX9_hardnessBehind_0 : decode cX9_hardnessBehind 0 = .ok (.aload_n 0, 1) := by decide +kernel
theorem dX9_hardnessBehind_1 : decode cX9_hardnessBehind 1 = .ok (.getfield 26, 3) := by decide +kernel
theorem dX9_hardnessBehind_4 : decode cX9_hardnessBehind 4 = .ok (.ifnull 10, 3) := by decide +kernel
theorem dX9_hardnessBehind_7 : decode cX9_hardnessBehind 7 = .ok (.aload_n 0, 1) := by decide +kernel
theorem dX9_hardnessBehind_8 : decode cX9_hardnessBehind 8 = .ok (.getfield 30, 3) := by decide +kernel
theorem dX9_hardnessBehind_11 : decode cX9_hardnessBehind 11 = .ok (.ifnonnull 5, 3) := by decide +kernel
theorem dX9_hardnessBehind_14 : decode cX9_hardnessBehind 14 = .ok (.iconst (-1), 1) := by decide +kernel
theorem dX9_hardnessBehind_15 : decode cX9_hardnessBehind 15 = .ok (.ireturn, 1) := by decide +kernel
theorem dX9_hardnessBehind_16 : decode cX9_hardnessBehind 16 = .ok (.aload_n 0, 1) := by decide +kernel
theorem dX9_hardnessBehind_17 : decode cX9_hardnessBehind 17 = .ok (.getfield 30, 3) := by decide +kernel
theorem dX9_hardnessBehind_20 : decode cX9_hardnessBehind 20 = .ok (.iload_n 3, 1) := by decide +kernel
theorem dX9_hardnessBehind_21 : decode cX9_hardnessBehind 21 = .ok (.invokevirtual 78, 3) := by decide +kernel
theorem dX9_hardnessBehind_24 : decode cX9_hardnessBehind 24 = .ok (.astore 4, 2) := by decide +kernel
theorem dX9_hardnessBehind_26 : decode cX9_hardnessBehind 26 = .ok (.aload 4, 2) := by decide +kernel
theorem dX9_hardnessBehind_28 : decode cX9_hardnessBehind 28 = .ok (.ifnull 29, 3) := by decide +kernel
theorem dX9_hardnessBehind_31 : decode cX9_hardnessBehind 31 = .ok (.aload_n 0, 1) := by decide +kernel
theorem dX9_hardnessBehind_32 : decode cX9_hardnessBehind 32 = .ok (.getfield 18, 3) := by decide +kernel
theorem dX9_hardnessBehind_35 : decode cX9_hardnessBehind 35 = .ok (.aload_n 0, 1) := by decide +kernel
theorem dX9_hardnessBehind_36 : decode cX9_hardnessBehind 36 = .ok (.getfield 26, 3) := by decide +kernel
theorem dX9_hardnessBehind_39 : decode cX9_hardnessBehind 39 = .ok (.aload_n 0, 1) := by decide +kernel
theorem dX9_hardnessBehind_40 : decode cX9_hardnessBehind 40 = .ok (.iload_n 1, 1) := by decide +kernel
theorem dX9_hardnessBehind_41 : decode cX9_hardnessBehind 41 = .ok (.invokevirtual 60, 3) := by decide +kernel
theorem dX9_hardnessBehind_44 : decode cX9_hardnessBehind 44 = .ok (.iload_n 2, 1) := by decide +kernel
theorem dX9_hardnessBehind_45 : decode cX9_hardnessBehind 45 = .ok (.aload 4, 2) := by decide +kernel
theorem dX9_hardnessBehind_47 : decode cX9_hardnessBehind 47 = .ok (.aload_n 0, 1) := by decide +kernel
theorem dX9_hardnessBehind_48 : decode cX9_hardnessBehind 48 = .ok (.getfield 34, 3) := by decide +kernel
theorem dX9_hardnessBehind_51 : decode cX9_hardnessBehind 51 = .ok (.invokevirtual 90, 3) := by decide +kernel
theorem dX9_hardnessBehind_54 : decode cX9_hardnessBehind 54 = .ok (.ifCond .ge 5, 3) := by decide +kernel
theorem dX9_hardnessBehind_57 : decode cX9_hardnessBehind 57 = .ok (.iconst (-1), 1) := by decide +kernel
theorem dX9_hardnessBehind_58 : decode cX9_hardnessBehind 58 = .ok (.ireturn, 1) := by decide +kernel
theorem dX9_hardnessBehind_59 : decode cX9_hardnessBehind 59 = .ok (.aload_n 0, 1) := by decide +kernel
theorem dX9_hardnessBehind_60 : decode cX9_hardnessBehind 60 = .ok (.getfield 18, 3) := by decide +kernel
theorem dX9_hardnessBehind_63 : decode cX9_hardnessBehind 63 = .ok (.getfield 96, 3) := by decide +kernel
theorem dX9_hardnessBehind_66 : decode cX9_hardnessBehind 66 = .ok (.ireturn, 1) := by decide +kernel
theorem dX10_init_0 : decode cX10_init 0 = .ok (.aload_n 0, 1) := by decide +kernel
theorem dX10_init_1 : decode cX10_init 1 = .ok (.invokespecial 1, 3) := by decide +kernel
theorem dX10_init_4 : decode cX10_init 4 = .ok (.aload_n 0, 1) := by decide +kernel
theorem dX10_init_5 : decode cX10_init 5 = .ok (.bipush 20, 2) := by decide +kernel
theorem dX10_init_7 : decode cX10_init 7 = .ok (.putfield 7, 3) := by decide +kernel
theorem dX10_init_10 : decode cX10_init 10 = .ok (.aload_n 0, 1) := by decide +kernel
theorem dX10_init_11 : decode cX10_init 11 = .ok (.bipush 80, 2) := by decide +kernel
theorem dX10_init_13 : decode cX10_init 13 = .ok (.putfield 13, 3) := by decide +kernel
theorem dX10_init_16 : decode cX10_init 16 = .ok (.aload_n 0, 1) := by decide +kernel
theorem dX10_init_17 : decode cX10_init 17 = .ok (.bipush 10, 2) := by decide +kernel
theorem dX10_init_19 : decode cX10_init 19 = .ok (.putfield 16, 3) := by decide +kernel
theorem dX10_init_22 : decode cX10_init 22 = .ok (.aload_n 0, 1) := by decide +kernel
theorem dX10_init_23 : decode cX10_init 23 = .ok (.bipush 60, 2) := by decide +kernel
theorem dX10_init_25 : decode cX10_init 25 = .ok (.putfield 19, 3) := by decide +kernel
theorem dX10_init_28 : decode cX10_init 28 = .ok (.aload_n 0, 1) := by decide +kernel
theorem dX10_init_29 : decode cX10_init 29 = .ok (.iconst 2, 1) := by decide +kernel
theorem dX10_init_30 : decode cX10_init 30 = .ok (.putfield 22, 3) := by decide +kernel
theorem dX10_init_33 : decode cX10_init 33 = .ok (.aload_n 0, 1) := by decide +kernel
theorem dX10_init_34 : decode cX10_init 34 = .ok (.iconst 5, 1) := by decide +kernel
theorem dX10_init_35 : decode cX10_init 35 = .ok (.putfield 25, 3) := by decide +kernel
theorem dX10_init_38 : decode cX10_init 38 = .ok (.return_, 1) := by decide +kernel
theorem dX10_admits_0 : decode cX10_admits 0 = .ok (.iload_n 1, 1) := by decide +kernel
theorem dX10_admits_1 : decode cX10_admits 1 = .ok (.ifCond .lt 19, 3) := by decide +kernel
theorem dX10_admits_4 : decode cX10_admits 4 = .ok (.iload_n 1, 1) := by decide +kernel
theorem dX10_admits_5 : decode cX10_admits 5 = .ok (.getstatic 28, 3) := by decide +kernel
theorem dX10_admits_8 : decode cX10_admits 8 = .ok (.arraylength, 1) := by decide +kernel
theorem dX10_admits_9 : decode cX10_admits 9 = .ok (.if_icmp .ge 11, 3) := by decide +kernel
theorem dX10_admits_12 : decode cX10_admits 12 = .ok (.iload_n 1, 1) := by decide +kernel
theorem dX10_admits_13 : decode cX10_admits 13 = .ok (.getstatic 32, 3) := by decide +kernel
theorem dX10_admits_16 : decode cX10_admits 16 = .ok (.arraylength, 1) := by decide +kernel
theorem dX10_admits_17 : decode cX10_admits 17 = .ok (.if_icmp .lt 5, 3) := by decide +kernel
theorem dX10_admits_20 : decode cX10_admits 20 = .ok (.iconst 0, 1) := by decide +kernel
theorem dX10_admits_21 : decode cX10_admits 21 = .ok (.ireturn, 1) := by decide +kernel
theorem dX10_admits_22 : decode cX10_admits 22 = .ok (.iload_n 2, 1) := by decide +kernel
theorem dX10_admits_23 : decode cX10_admits 23 = .ok (.getstatic 28, 3) := by decide +kernel
theorem dX10_admits_26 : decode cX10_admits 26 = .ok (.iload_n 1, 1) := by decide +kernel
theorem dX10_admits_27 : decode cX10_admits 27 = .ok (.iaload, 1) := by decide +kernel
theorem dX10_admits_28 : decode cX10_admits 28 = .ok (.getstatic 32, 3) := by decide +kernel
theorem dX10_admits_31 : decode cX10_admits 31 = .ok (.iload_n 1, 1) := by decide +kernel
theorem dX10_admits_32 : decode cX10_admits 32 = .ok (.iaload, 1) := by decide +kernel
theorem dX10_admits_33 : decode cX10_admits 33 = .ok (.invokestatic 35, 3) := by decide +kernel
theorem dX10_admits_36 : decode cX10_admits 36 = .ok (.ireturn, 1) := by decide +kernel
theorem dX10_value_0 : decode cX10_value 0 = .ok (.iload_n 1, 1) := by decide +kernel
theorem dX10_value_1 : decode cX10_value 1 = .ok (.tableswitch 60 0 4 #[35, 40, 45, 50, 55], 35) := by decide +kernel
theorem dX10_value_36 : decode cX10_value 36 = .ok (.aload_n 0, 1) := by decide +kernel
theorem dX10_value_37 : decode cX10_value 37 = .ok (.getfield 7, 3) := by decide +kernel
theorem dX10_value_40 : decode cX10_value 40 = .ok (.ireturn, 1) := by decide +kernel
theorem dX10_value_41 : decode cX10_value 41 = .ok (.aload_n 0, 1) := by decide +kernel
theorem dX10_value_42 : decode cX10_value 42 = .ok (.getfield 13, 3) := by decide +kernel
theorem dX10_value_45 : decode cX10_value 45 = .ok (.ireturn, 1) := by decide +kernel
theorem dX10_value_46 : decode cX10_value 46 = .ok (.aload_n 0, 1) := by decide +kernel
theorem dX10_value_47 : decode cX10_value 47 = .ok (.getfield 16, 3) := by decide +kernel
theorem dX10_value_50 : decode cX10_value 50 = .ok (.ireturn, 1) := by decide +kernel
theorem dX10_value_51 : decode cX10_value 51 = .ok (.aload_n 0, 1) := by decide +kernel
theorem dX10_value_52 : decode cX10_value 52 = .ok (.getfield 19, 3) := by decide +kernel
theorem dX10_value_55 : decode cX10_value 55 = .ok (.ireturn, 1) := by decide +kernel
theorem dX10_value_56 : decode cX10_value 56 = .ok (.aload_n 0, 1) := by decide +kernel
theorem dX10_value_57 : decode cX10_value 57 = .ok (.getfield 22, 3) := by decide +kernel
theorem dX10_value_60 : decode cX10_value 60 = .ok (.ireturn, 1) := by decide +kernel
theorem dX10_value_61 : decode cX10_value 61 = .ok (.aload_n 0, 1) := by decide +kernel
theorem dX10_value_62 : decode cX10_value 62 = .ok (.getfield 25, 3) := by decide +kernel
theorem dX10_value_65 : decode cX10_value 65 = .ok (.ireturn, 1) := by decide +kernel
theorem dX10_change_0 : decode cX10_change 0 = .ok (.iload_n 1, 1) := by decide +kernel
theorem dX10_change_1 : decode cX10_change 1 = .ok (.tableswitch 75 0 4 #[35, 43, 51, 59, 67], 35) := by decide +kernel
theorem dX10_change_36 : decode cX10_change 36 = .ok (.aload_n 0, 1) := by decide +kernel
theorem dX10_change_37 : decode cX10_change 37 = .ok (.iload_n 2, 1) := by decide +kernel
theorem dX10_change_38 : decode cX10_change 38 = .ok (.putfield 7, 3) := by decide +kernel
theorem dX10_change_41 : decode cX10_change 41 = .ok (.goto 40, 3) := by decide +kernel
theorem dX10_change_44 : decode cX10_change 44 = .ok (.aload_n 0, 1) := by decide +kernel
theorem dX10_change_45 : decode cX10_change 45 = .ok (.iload_n 2, 1) := by decide +kernel
theorem dX10_change_46 : decode cX10_change 46 = .ok (.putfield 13, 3) := by decide +kernel
theorem dX10_change_49 : decode cX10_change 49 = .ok (.goto 32, 3) := by decide +kernel
theorem dX10_change_52 : decode cX10_change 52 = .ok (.aload_n 0, 1) := by decide +kernel
theorem dX10_change_53 : decode cX10_change 53 = .ok (.iload_n 2, 1) := by decide +kernel
theorem dX10_change_54 : decode cX10_change 54 = .ok (.putfield 16, 3) := by decide +kernel
theorem dX10_change_57 : decode cX10_change 57 = .ok (.goto 24, 3) := by decide +kernel
theorem dX10_change_60 : decode cX10_change 60 = .ok (.aload_n 0, 1) := by decide +kernel
theorem dX10_change_61 : decode cX10_change 61 = .ok (.iload_n 2, 1) := by decide +kernel
theorem dX10_change_62 : decode cX10_change 62 = .ok (.putfield 19, 3) := by decide +kernel
theorem dX10_change_65 : decode cX10_change 65 = .ok (.goto 16, 3) := by decide +kernel
theorem dX10_change_68 : decode cX10_change 68 = .ok (.aload_n 0, 1) := by decide +kernel
theorem dX10_change_69 : decode cX10_change 69 = .ok (.iload_n 2, 1) := by decide +kernel
theorem dX10_change_70 : decode cX10_change 70 = .ok (.putfield 22, 3) := by decide +kernel
theorem dX10_change_73 : decode cX10_change 73 = .ok (.goto 8, 3) := by decide +kernel
theorem dX10_change_76 : decode cX10_change 76 = .ok (.aload_n 0, 1) := by decide +kernel
theorem dX10_change_77 : decode cX10_change 77 = .ok (.iload_n 2, 1) := by decide +kernel
theorem dX10_change_78 : decode cX10_change 78 = .ok (.putfield 25, 3) := by decide +kernel
theorem dX10_change_81 : decode cX10_change 81 = .ok (.return_, 1) := by decide +kernel
theorem dX11_init_0 : decode cX11_init 0 = .ok (.aload_n 0, 1) := by decide +kernel
theorem dX11_init_1 : decode cX11_init 1 = .ok (.invokespecial 1, 3) := by decide +kernel
theorem dX11_init_4 : decode cX11_init 4 = .ok (.aload_n 0, 1) := by decide +kernel
theorem dX11_init_5 : decode cX11_init 5 = .ok (.new 7, 3) := by decide +kernel
theorem dX11_init_8 : decode cX11_init 8 = .ok (.dup, 1) := by decide +kernel
theorem dX11_init_9 : decode cX11_init 9 = .ok (.invokespecial 9, 3) := by decide +kernel
theorem dX11_init_12 : decode cX11_init 12 = .ok (.putfield 10, 3) := by decide +kernel
theorem dX11_init_15 : decode cX11_init 15 = .ok (.aload_n 0, 1) := by decide +kernel
theorem dX11_init_16 : decode cX11_init 16 = .ok (.iconst 4, 1) := by decide +kernel
theorem dX11_init_17 : decode cX11_init 17 = .ok (.anewarray 16, 3) := by decide +kernel
theorem dX11_init_20 : decode cX11_init 20 = .ok (.putfield 18, 3) := by decide +kernel
theorem dX11_init_23 : decode cX11_init 23 = .ok (.aload_n 0, 1) := by decide +kernel
theorem dX11_init_24 : decode cX11_init 24 = .ok (.iconst 3, 1) := by decide +kernel
theorem dX11_init_25 : decode cX11_init 25 = .ok (.anewarray 22, 3) := by decide +kernel
theorem dX11_init_28 : decode cX11_init 28 = .ok (.putfield 24, 3) := by decide +kernel
theorem dX11_init_31 : decode cX11_init 31 = .ok (.aload_n 0, 1) := by decide +kernel
theorem dX11_init_32 : decode cX11_init 32 = .ok (.iconst 4, 1) := by decide +kernel
theorem dX11_init_33 : decode cX11_init 33 = .ok (.anewarray 28, 3) := by decide +kernel
theorem dX11_init_36 : decode cX11_init 36 = .ok (.putfield 30, 3) := by decide +kernel
theorem dX11_init_39 : decode cX11_init 39 = .ok (.aload_n 0, 1) := by decide +kernel
theorem dX11_init_40 : decode cX11_init 40 = .ok (.bipush 16, 2) := by decide +kernel
theorem dX11_init_42 : decode cX11_init 42 = .ok (.anewarray 34, 3) := by decide +kernel
theorem dX11_init_45 : decode cX11_init 45 = .ok (.putfield 36, 3) := by decide +kernel
theorem dX11_init_48 : decode cX11_init 48 = .ok (.aload_n 0, 1) := by decide +kernel
theorem dX11_init_49 : decode cX11_init 49 = .ok (.bipush 6, 2) := by decide +kernel
theorem dX11_init_51 : decode cX11_init 51 = .ok (.anewarray 40, 3) := by decide +kernel
theorem dX11_init_54 : decode cX11_init 54 = .ok (.putfield 42, 3) := by decide +kernel
theorem dX11_init_57 : decode cX11_init 57 = .ok (.aload_n 0, 1) := by decide +kernel
theorem dX11_init_58 : decode cX11_init 58 = .ok (.new 46, 3) := by decide +kernel
theorem dX11_init_61 : decode cX11_init 61 = .ok (.dup, 1) := by decide +kernel
theorem dX11_init_62 : decode cX11_init 62 = .ok (.invokespecial 48, 3) := by decide +kernel
theorem dX11_init_65 : decode cX11_init 65 = .ok (.putfield 49, 3) := by decide +kernel
theorem dX11_init_68 : decode cX11_init 68 = .ok (.aload_n 0, 1) := by decide +kernel
theorem dX11_init_69 : decode cX11_init 69 = .ok (.new 53, 3) := by decide +kernel
theorem dX11_init_72 : decode cX11_init 72 = .ok (.dup, 1) := by decide +kernel
theorem dX11_init_73 : decode cX11_init 73 = .ok (.aload_n 0, 1) := by decide +kernel
theorem dX11_init_74 : decode cX11_init 74 = .ok (.getfield 10, 3) := by decide +kernel
theorem dX11_init_77 : decode cX11_init 77 = .ok (.invokespecial 55, 3) := by decide +kernel
theorem dX11_init_80 : decode cX11_init 80 = .ok (.putfield 58, 3) := by decide +kernel
theorem dX11_init_83 : decode cX11_init 83 = .ok (.aload_n 0, 1) := by decide +kernel
theorem dX11_init_84 : decode cX11_init 84 = .ok (.new 62, 3) := by decide +kernel
theorem dX11_init_87 : decode cX11_init 87 = .ok (.dup, 1) := by decide +kernel
theorem dX11_init_88 : decode cX11_init 88 = .ok (.aload_n 0, 1) := by decide +kernel
theorem dX11_init_89 : decode cX11_init 89 = .ok (.getfield 58, 3) := by decide +kernel
theorem dX11_init_92 : decode cX11_init 92 = .ok (.invokespecial 64, 3) := by decide +kernel
theorem dX11_init_95 : decode cX11_init 95 = .ok (.putfield 67, 3) := by decide +kernel
theorem dX11_init_98 : decode cX11_init 98 = .ok (.aload_n 0, 1) := by decide +kernel
theorem dX11_init_99 : decode cX11_init 99 = .ok (.new 71, 3) := by decide +kernel
theorem dX11_init_102 : decode cX11_init 102 = .ok (.dup, 1) := by decide +kernel
theorem dX11_init_103 : decode cX11_init 103 = .ok (.invokespecial 73, 3) := by decide +kernel
theorem dX11_init_106 : decode cX11_init 106 = .ok (.putfield 74, 3) := by decide +kernel
theorem dX11_init_109 : decode cX11_init 109 = .ok (.iconst 0, 1) := by decide +kernel
theorem dX11_init_110 : decode cX11_init 110 = .ok (.istore_n 1, 1) := by decide +kernel
theorem dX11_init_111 : decode cX11_init 111 = .ok (.iload_n 1, 1) := by decide +kernel
theorem dX11_init_112 : decode cX11_init 112 = .ok (.aload_n 0, 1) := by decide +kernel
theorem dX11_init_113 : decode cX11_init 113 = .ok (.getfield 18, 3) := by decide +kernel
theorem dX11_init_116 : decode cX11_init 116 = .ok (.arraylength, 1) := by decide +kernel
theorem dX11_init_117 : decode cX11_init 117 = .ok (.if_icmp .ge 23, 3) := by decide +kernel
theorem dX11_init_120 : decode cX11_init 120 = .ok (.aload_n 0, 1) := by decide +kernel
theorem dX11_init_121 : decode cX11_init 121 = .ok (.getfield 18, 3) := by decide +kernel
theorem dX11_init_124 : decode cX11_init 124 = .ok (.iload_n 1, 1) := by decide +kernel
theorem dX11_init_125 : decode cX11_init 125 = .ok (.new 16, 3) := by decide +kernel
theorem dX11_init_128 : decode cX11_init 128 = .ok (.dup, 1) := by decide +kernel
theorem dX11_init_129 : decode cX11_init 129 = .ok (.iload_n 1, 1) := by decide +kernel
theorem dX11_init_130 : decode cX11_init 130 = .ok (.invokespecial 78, 3) := by decide +kernel
theorem dX11_init_133 : decode cX11_init 133 = .ok (.aastore, 1) := by decide +kernel
theorem dX11_init_134 : decode cX11_init 134 = .ok (.iinc 1 1, 3) := by decide +kernel
theorem dX11_init_137 : decode cX11_init 137 = .ok (.goto (-26), 3) := by decide +kernel
theorem dX11_init_140 : decode cX11_init 140 = .ok (.iconst 0, 1) := by decide +kernel
theorem dX11_init_141 : decode cX11_init 141 = .ok (.istore_n 1, 1) := by decide +kernel
theorem dX11_init_142 : decode cX11_init 142 = .ok (.iload_n 1, 1) := by decide +kernel
theorem dX11_init_143 : decode cX11_init 143 = .ok (.aload_n 0, 1) := by decide +kernel
theorem dX11_init_144 : decode cX11_init 144 = .ok (.getfield 24, 3) := by decide +kernel
theorem dX11_init_147 : decode cX11_init 147 = .ok (.arraylength, 1) := by decide +kernel
theorem dX11_init_148 : decode cX11_init 148 = .ok (.if_icmp .ge 31, 3) := by decide +kernel
theorem dX11_init_151 : decode cX11_init 151 = .ok (.aload_n 0, 1) := by decide +kernel
theorem dX11_init_152 : decode cX11_init 152 = .ok (.getfield 24, 3) := by decide +kernel
theorem dX11_init_155 : decode cX11_init 155 = .ok (.iload_n 1, 1) := by decide +kernel
theorem dX11_init_156 : decode cX11_init 156 = .ok (.new 22, 3) := by decide +kernel
theorem dX11_init_159 : decode cX11_init 159 = .ok (.dup, 1) := by decide +kernel
theorem dX11_init_160 : decode cX11_init 160 = .ok (.iload_n 1, 1) := by decide +kernel
theorem dX11_init_161 : decode cX11_init 161 = .ok (.ifCond .ne 7, 3) := by decide +kernel
theorem dX11_init_164 : decode cX11_init 164 = .ok (.iconst 1, 1) := by decide +kernel
theorem dX11_init_165 : decode cX11_init 165 = .ok (.goto 4, 3) := by decide +kernel
theorem dX11_init_168 : decode cX11_init 168 = .ok (.iconst 0, 1) := by decide +kernel
theorem dX11_init_169 : decode cX11_init 169 = .ok (.invokespecial 81, 3) := by decide +kernel
theorem dX11_init_172 : decode cX11_init 172 = .ok (.aastore, 1) := by decide +kernel
theorem dX11_init_173 : decode cX11_init 173 = .ok (.iinc 1 1, 3) := by decide +kernel
theorem dX11_init_176 : decode cX11_init 176 = .ok (.goto (-34), 3) := by decide +kernel
theorem dX11_init_179 : decode cX11_init 179 = .ok (.iconst 0, 1) := by decide +kernel
theorem dX11_init_180 : decode cX11_init 180 = .ok (.istore_n 1, 1) := by decide +kernel
theorem dX11_init_181 : decode cX11_init 181 = .ok (.iload_n 1, 1) := by decide +kernel
theorem dX11_init_182 : decode cX11_init 182 = .ok (.aload_n 0, 1) := by decide +kernel
theorem dX11_init_183 : decode cX11_init 183 = .ok (.getfield 30, 3) := by decide +kernel
theorem dX11_init_186 : decode cX11_init 186 = .ok (.arraylength, 1) := by decide +kernel
theorem dX11_init_187 : decode cX11_init 187 = .ok (.if_icmp .ge 22, 3) := by decide +kernel
theorem dX11_init_190 : decode cX11_init 190 = .ok (.aload_n 0, 1) := by decide +kernel
theorem dX11_init_191 : decode cX11_init 191 = .ok (.getfield 30, 3) := by decide +kernel
theorem dX11_init_194 : decode cX11_init 194 = .ok (.iload_n 1, 1) := by decide +kernel
theorem dX11_init_195 : decode cX11_init 195 = .ok (.new 28, 3) := by decide +kernel
theorem dX11_init_198 : decode cX11_init 198 = .ok (.dup, 1) := by decide +kernel
theorem dX11_init_199 : decode cX11_init 199 = .ok (.invokespecial 84, 3) := by decide +kernel
theorem dX11_init_202 : decode cX11_init 202 = .ok (.aastore, 1) := by decide +kernel
theorem dX11_init_203 : decode cX11_init 203 = .ok (.iinc 1 1, 3) := by decide +kernel
theorem dX11_init_206 : decode cX11_init 206 = .ok (.goto (-25), 3) := by decide +kernel
theorem dX11_init_209 : decode cX11_init 209 = .ok (.return_, 1) := by decide +kernel
theorem dX11_metal_0 : decode cX11_metal 0 = .ok (.aload_n 0, 1) := by decide +kernel
theorem dX11_metal_1 : decode cX11_metal 1 = .ok (.iload_n 1, 1) := by decide +kernel
theorem dX11_metal_2 : decode cX11_metal 2 = .ok (.invokevirtual 85, 3) := by decide +kernel
theorem dX11_metal_5 : decode cX11_metal 5 = .ok (.astore 7, 2) := by decide +kernel
theorem dX11_metal_7 : decode cX11_metal 7 = .ok (.aload 7, 2) := by decide +kernel
theorem dX11_metal_9 : decode cX11_metal 9 = .ok (.ifnonnull 6, 3) := by decide +kernel
theorem dX11_metal_12 : decode cX11_metal 12 = .ok (.bipush (-2), 2) := by decide +kernel
theorem dX11_metal_14 : decode cX11_metal 14 = .ok (.ireturn, 1) := by decide +kernel
theorem dX11_metal_15 : decode cX11_metal 15 = .ok (.iload_n 2, 1) := by decide +kernel
theorem dX11_metal_16 : decode cX11_metal 16 = .ok (.iconst 1, 1) := by decide +kernel
theorem dX11_metal_17 : decode cX11_metal 17 = .ok (.sipush 200, 3) := by decide +kernel
theorem dX11_metal_20 : decode cX11_metal 20 = .ok (.invokestatic 89, 3) := by decide +kernel
theorem dX11_metal_23 : decode cX11_metal 23 = .ok (.ifCond .eq 25, 3) := by decide +kernel
theorem dX11_metal_26 : decode cX11_metal 26 = .ok (.iload_n 3, 1) := by decide +kernel
theorem dX11_metal_27 : decode cX11_metal 27 = .ok (.iconst 0, 1) := by decide +kernel
theorem dX11_metal_28 : decode cX11_metal 28 = .ok (.sipush 300, 3) := by decide +kernel
theorem dX11_metal_31 : decode cX11_metal 31 = .ok (.invokestatic 89, 3) := by decide +kernel
theorem dX11_metal_34 : decode cX11_metal 34 = .ok (.ifCond .eq 14, 3) := by decide +kernel
theorem dX11_metal_37 : decode cX11_metal 37 = .ok (.iload 4, 2) := by decide +kernel
theorem dX11_metal_39 : decode cX11_metal 39 = .ok (.iconst 1, 1) := by decide +kernel
theorem dX11_metal_40 : decode cX11_metal 40 = .ok (.bipush 100, 2) := by decide +kernel
theorem dX11_metal_42 : decode cX11_metal 42 = .ok (.invokestatic 89, 3) := by decide +kernel
theorem dX11_metal_45 : decode cX11_metal 45 = .ok (.ifCond .ne 6, 3) := by decide +kernel
theorem dX11_metal_48 : decode cX11_metal 48 = .ok (.bipush (-3), 2) := by decide +kernel
theorem dX11_metal_50 : decode cX11_metal 50 = .ok (.ireturn, 1) := by decide +kernel
theorem dX11_metal_51 : decode cX11_metal 51 = .ok (.iload 5, 2) := by decide +kernel
theorem dX11_metal_53 : decode cX11_metal 53 = .ok (.iconst 0, 1) := by decide +kernel
theorem dX11_metal_54 : decode cX11_metal 54 = .ok (.bipush 50, 2) := by decide +kernel
theorem dX11_metal_56 : decode cX11_metal 56 = .ok (.invokestatic 89, 3) := by decide +kernel
theorem dX11_metal_59 : decode cX11_metal 59 = .ok (.ifCond .eq 14, 3) := by decide +kernel
theorem dX11_metal_62 : decode cX11_metal 62 = .ok (.iload 6, 2) := by decide +kernel
theorem dX11_metal_64 : decode cX11_metal 64 = .ok (.iconst 0, 1) := by decide +kernel
theorem dX11_metal_65 : decode cX11_metal 65 = .ok (.bipush 50, 2) := by decide +kernel
theorem dX11_metal_67 : decode cX11_metal 67 = .ok (.invokestatic 89, 3) := by decide +kernel
theorem dX11_metal_70 : decode cX11_metal 70 = .ok (.ifCond .ne 6, 3) := by decide +kernel
theorem dX11_metal_73 : decode cX11_metal 73 = .ok (.bipush (-3), 2) := by decide +kernel
theorem dX11_metal_75 : decode cX11_metal 75 = .ok (.ireturn, 1) := by decide +kernel
theorem dX11_metal_76 : decode cX11_metal 76 = .ok (.aload 7, 2) := by decide +kernel
theorem dX11_metal_78 : decode cX11_metal 78 = .ok (.iload_n 2, 1) := by decide +kernel
theorem dX11_metal_79 : decode cX11_metal 79 = .ok (.putfield 93, 3) := by decide +kernel
theorem dX11_metal_82 : decode cX11_metal 82 = .ok (.aload 7, 2) := by decide +kernel
theorem dX11_metal_84 : decode cX11_metal 84 = .ok (.iload_n 3, 1) := by decide +kernel
theorem dX11_metal_85 : decode cX11_metal 85 = .ok (.putfield 97, 3) := by decide +kernel
