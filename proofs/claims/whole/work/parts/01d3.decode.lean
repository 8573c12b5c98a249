theorem dX12_join_16 : decode cX12_join 16 = .ok (.bipush (-2), 2) := by decide +kernel
theorem dX12_join_18 : decode cX12_join 18 = .ok (.ireturn, 1) := by decide +kernel
theorem dX12_join_19 : decode cX12_join 19 = .ok (.iload_n 1, 1) := by decide +kernel
theorem dX12_join_20 : decode cX12_join 20 = .ok (.iload_n 2, 1) := by decide +kernel
theorem dX12_join_21 : decode cX12_join 21 = .ok (.if_icmp .ne 6, 3) := by decide +kernel
theorem dX12_join_24 : decode cX12_join 24 = .ok (.bipush (-3), 2) := by decide +kernel
theorem dX12_join_26 : decode cX12_join 26 = .ok (.ireturn, 1) := by decide +kernel
theorem dX12_join_27 : decode cX12_join 27 = .ok (.aload_n 0, 1) := by decide +kernel
theorem dX12_join_28 : decode cX12_join 28 = .ok (.getfield 49, 3) := by decide +kernel
theorem dX12_join_31 : decode cX12_join 31 = .ok (.iload_n 1, 1) := by decide +kernel
theorem dX12_join_32 : decode cX12_join 32 = .ok (.iaload, 1) := by decide +kernel
theorem dX12_join_33 : decode cX12_join 33 = .ok (.aload_n 0, 1) := by decide +kernel
theorem dX12_join_34 : decode cX12_join 34 = .ok (.getfield 49, 3) := by decide +kernel
theorem dX12_join_37 : decode cX12_join 37 = .ok (.iload_n 2, 1) := by decide +kernel
theorem dX12_join_38 : decode cX12_join 38 = .ok (.iaload, 1) := by decide +kernel
theorem dX12_join_39 : decode cX12_join 39 = .ok (.if_icmp .ne 34, 3) := by decide +kernel
theorem dX12_join_42 : decode cX12_join 42 = .ok (.aload_n 0, 1) := by decide +kernel
theorem dX12_join_43 : decode cX12_join 43 = .ok (.getfield 52, 3) := by decide +kernel
theorem dX12_join_46 : decode cX12_join 46 = .ok (.iload_n 1, 1) := by decide +kernel
theorem dX12_join_47 : decode cX12_join 47 = .ok (.iaload, 1) := by decide +kernel
theorem dX12_join_48 : decode cX12_join 48 = .ok (.aload_n 0, 1) := by decide +kernel
theorem dX12_join_49 : decode cX12_join 49 = .ok (.getfield 52, 3) := by decide +kernel
theorem dX12_join_52 : decode cX12_join 52 = .ok (.iload_n 2, 1) := by decide +kernel
theorem dX12_join_53 : decode cX12_join 53 = .ok (.iaload, 1) := by decide +kernel
theorem dX12_join_54 : decode cX12_join 54 = .ok (.if_icmp .ne 19, 3) := by decide +kernel
theorem dX12_join_57 : decode cX12_join 57 = .ok (.aload_n 0, 1) := by decide +kernel
theorem dX12_join_58 : decode cX12_join 58 = .ok (.iload_n 2, 1) := by decide +kernel
theorem dX12_join_59 : decode cX12_join 59 = .ok (.invokevirtual 167, 3) := by decide +kernel
theorem dX12_join_62 : decode cX12_join 62 = .ok (.aload_n 0, 1) := by decide +kernel
theorem dX12_join_63 : decode cX12_join 63 = .ok (.getfield 25, 3) := by decide +kernel
theorem dX12_join_66 : decode cX12_join 66 = .ok (.iconst 4, 1) := by decide +kernel
theorem dX12_join_67 : decode cX12_join 67 = .ok (.iaload, 1) := by decide +kernel
theorem dX12_join_68 : decode cX12_join 68 = .ok (.iconst 1, 1) := by decide +kernel
theorem dX12_join_69 : decode cX12_join 69 = .ok (.iadd, 1) := by decide +kernel
theorem dX12_join_70 : decode cX12_join 70 = .ok (.if_icmp .ge 6, 3) := by decide +kernel
theorem dX12_join_73 : decode cX12_join 73 = .ok (.bipush (-4), 2) := by decide +kernel
theorem dX12_join_75 : decode cX12_join 75 = .ok (.ireturn, 1) := by decide +kernel
theorem dX12_join_76 : decode cX12_join 76 = .ok (.aload_n 0, 1) := by decide +kernel
theorem dX12_join_77 : decode cX12_join 77 = .ok (.getfield 52, 3) := by decide +kernel
theorem dX12_join_80 : decode cX12_join 80 = .ok (.iload_n 2, 1) := by decide +kernel
theorem dX12_join_81 : decode cX12_join 81 = .ok (.iaload, 1) := by decide +kernel
theorem dX12_join_82 : decode cX12_join 82 = .ok (.i2l, 1) := by decide +kernel
theorem dX12_join_83 : decode cX12_join 83 = .ok (.aload_n 0, 1) := by decide +kernel
theorem dX12_join_84 : decode cX12_join 84 = .ok (.getfield 52, 3) := by decide +kernel
theorem dX12_join_87 : decode cX12_join 87 = .ok (.iload_n 2, 1) := by decide +kernel
theorem dX12_join_88 : decode cX12_join 88 = .ok (.iaload, 1) := by decide +kernel
theorem dX12_join_89 : decode cX12_join 89 = .ok (.i2l, 1) := by decide +kernel
theorem dX12_join_90 : decode cX12_join 90 = .ok (.lmul, 1) := by decide +kernel
theorem dX12_join_91 : decode cX12_join 91 = .ok (.aload_n 0, 1) := by decide +kernel
theorem dX12_join_92 : decode cX12_join 92 = .ok (.getfield 25, 3) := by decide +kernel
theorem dX12_join_95 : decode cX12_join 95 = .ok (.iconst 4, 1) := by decide +kernel
theorem dX12_join_96 : decode cX12_join 96 = .ok (.iaload, 1) := by decide +kernel
theorem dX12_join_97 : decode cX12_join 97 = .ok (.i2l, 1) := by decide +kernel
theorem dX12_join_98 : decode cX12_join 98 = .ok (.lmul, 1) := by decide +kernel
theorem dX12_join_99 : decode cX12_join 99 = .ok (.lstore_n 3, 1) := by decide +kernel
theorem dX12_join_100 : decode cX12_join 100 = .ok (.aload_n 0, 1) := by decide +kernel
theorem dX12_join_101 : decode cX12_join 101 = .ok (.dup, 1) := by decide +kernel
theorem dX12_join_102 : decode cX12_join 102 = .ok (.getfield 170, 3) := by decide +kernel
theorem dX12_join_105 : decode cX12_join 105 = .ok (.lload_n 3, 1) := by decide +kernel
theorem dX12_join_106 : decode cX12_join 106 = .ok (.ladd, 1) := by decide +kernel
theorem dX12_join_107 : decode cX12_join 107 = .ok (.putfield 170, 3) := by decide +kernel
theorem dX12_join_110 : decode cX12_join 110 = .ok (.aload_n 0, 1) := by decide +kernel
theorem dX12_join_111 : decode cX12_join 111 = .ok (.getfield 58, 3) := by decide +kernel
theorem dX12_join_114 : decode cX12_join 114 = .ok (.iload_n 1, 1) := by decide +kernel
theorem dX12_join_115 : decode cX12_join 115 = .ok (.dup2, 1) := by decide +kernel
theorem dX12_join_116 : decode cX12_join 116 = .ok (.laload, 1) := by decide +kernel
theorem dX12_join_117 : decode cX12_join 117 = .ok (.aload_n 0, 1) := by decide +kernel
theorem dX12_join_118 : decode cX12_join 118 = .ok (.getfield 58, 3) := by decide +kernel
theorem dX12_join_121 : decode cX12_join 121 = .ok (.iload_n 2, 1) := by decide +kernel
theorem dX12_join_122 : decode cX12_join 122 = .ok (.laload, 1) := by decide +kernel
theorem dX12_join_123 : decode cX12_join 123 = .ok (.lload_n 3, 1) := by decide +kernel
theorem dX12_join_124 : decode cX12_join 124 = .ok (.lsub, 1) := by decide +kernel
theorem dX12_join_125 : decode cX12_join 125 = .ok (.ladd, 1) := by decide +kernel
theorem dX12_join_126 : decode cX12_join 126 = .ok (.lastore, 1) := by decide +kernel
theorem dX12_join_127 : decode cX12_join 127 = .ok (.aload_n 0, 1) := by decide +kernel
theorem dX12_join_128 : decode cX12_join 128 = .ok (.getfield 58, 3) := by decide +kernel
theorem dX12_join_131 : decode cX12_join 131 = .ok (.iload_n 2, 1) := by decide +kernel
theorem dX12_join_132 : decode cX12_join 132 = .ok (.lconst 0, 1) := by decide +kernel
theorem dX12_join_133 : decode cX12_join 133 = .ok (.lastore, 1) := by decide +kernel
theorem dX12_join_134 : decode cX12_join 134 = .ok (.aload_n 0, 1) := by decide +kernel
theorem dX12_join_135 : decode cX12_join 135 = .ok (.getfield 55, 3) := by decide +kernel
theorem dX12_join_138 : decode cX12_join 138 = .ok (.iload_n 1, 1) := by decide +kernel
theorem dX12_join_139 : decode cX12_join 139 = .ok (.aload_n 0, 1) := by decide +kernel
theorem dX12_join_140 : decode cX12_join 140 = .ok (.getfield 55, 3) := by decide +kernel
theorem dX12_join_143 : decode cX12_join 143 = .ok (.iload_n 2, 1) := by decide +kernel
theorem dX12_join_144 : decode cX12_join 144 = .ok (.iaload, 1) := by decide +kernel
theorem dX12_join_145 : decode cX12_join 145 = .ok (.aload_n 0, 1) := by decide +kernel
theorem dX12_join_146 : decode cX12_join 146 = .ok (.getfield 55, 3) := by decide +kernel
theorem dX12_join_149 : decode cX12_join 149 = .ok (.iload_n 1, 1) := by decide +kernel
theorem dX12_join_150 : decode cX12_join 150 = .ok (.iaload, 1) := by decide +kernel
theorem dX12_join_151 : decode cX12_join 151 = .ok (.if_icmp .le 12, 3) := by decide +kernel
theorem dX12_join_154 : decode cX12_join 154 = .ok (.aload_n 0, 1) := by decide +kernel
theorem dX12_join_155 : decode cX12_join 155 = .ok (.getfield 55, 3) := by decide +kernel
theorem dX12_join_158 : decode cX12_join 158 = .ok (.iload_n 2, 1) := by decide +kernel
theorem dX12_join_159 : decode cX12_join 159 = .ok (.iaload, 1) := by decide +kernel
theorem dX12_join_160 : decode cX12_join 160 = .ok (.goto 9, 3) := by decide +kernel
theorem dX12_join_163 : decode cX12_join 163 = .ok (.aload_n 0, 1) := by decide +kernel
theorem dX12_join_164 : decode cX12_join 164 = .ok (.getfield 55, 3) := by decide +kernel
theorem dX12_join_167 : decode cX12_join 167 = .ok (.iload_n 1, 1) := by decide +kernel
theorem dX12_join_168 : decode cX12_join 168 = .ok (.iaload, 1) := by decide +kernel
theorem dX12_join_169 : decode cX12_join 169 = .ok (.iastore, 1) := by decide +kernel
theorem dX12_join_170 : decode cX12_join 170 = .ok (.aload_n 0, 1) := by decide +kernel
theorem dX12_join_171 : decode cX12_join 171 = .ok (.getfield 62, 3) := by decide +kernel
theorem dX12_join_174 : decode cX12_join 174 = .ok (.iload_n 1, 1) := by decide +kernel
theorem dX12_join_175 : decode cX12_join 175 = .ok (.dup2, 1) := by decide +kernel
theorem dX12_join_176 : decode cX12_join 176 = .ok (.iaload, 1) := by decide +kernel
theorem dX12_join_177 : decode cX12_join 177 = .ok (.aload_n 0, 1) := by decide +kernel
theorem dX12_join_178 : decode cX12_join 178 = .ok (.getfield 62, 3) := by decide +kernel
theorem dX12_join_181 : decode cX12_join 181 = .ok (.iload_n 2, 1) := by decide +kernel
theorem dX12_join_182 : decode cX12_join 182 = .ok (.iaload, 1) := by decide +kernel
theorem dX12_join_183 : decode cX12_join 183 = .ok (.iconst 1, 1) := by decide +kernel
theorem dX12_join_184 : decode cX12_join 184 = .ok (.iadd, 1) := by decide +kernel
theorem dX12_join_185 : decode cX12_join 185 = .ok (.iadd, 1) := by decide +kernel
theorem dX12_join_186 : decode cX12_join 186 = .ok (.iastore, 1) := by decide +kernel
theorem dX12_join_187 : decode cX12_join 187 = .ok (.aload_n 0, 1) := by decide +kernel
theorem dX12_join_188 : decode cX12_join 188 = .ok (.getfield 65, 3) := by decide +kernel
theorem dX12_join_191 : decode cX12_join 191 = .ok (.iload_n 1, 1) := by decide +kernel
theorem dX12_join_192 : decode cX12_join 192 = .ok (.aload_n 0, 1) := by decide +kernel
theorem dX12_join_193 : decode cX12_join 193 = .ok (.getfield 65, 3) := by decide +kernel
theorem dX12_join_196 : decode cX12_join 196 = .ok (.iload_n 2, 1) := by decide +kernel
theorem dX12_join_197 : decode cX12_join 197 = .ok (.iaload, 1) := by decide +kernel
theorem dX12_join_198 : decode cX12_join 198 = .ok (.aload_n 0, 1) := by decide +kernel
theorem dX12_join_199 : decode cX12_join 199 = .ok (.getfield 65, 3) := by decide +kernel
theorem dX12_join_202 : decode cX12_join 202 = .ok (.iload_n 1, 1) := by decide +kernel
theorem dX12_join_203 : decode cX12_join 203 = .ok (.iaload, 1) := by decide +kernel
theorem dX12_join_204 : decode cX12_join 204 = .ok (.if_icmp .le 12, 3) := by decide +kernel
theorem dX12_join_207 : decode cX12_join 207 = .ok (.aload_n 0, 1) := by decide +kernel
theorem dX12_join_208 : decode cX12_join 208 = .ok (.getfield 65, 3) := by decide +kernel
theorem dX12_join_211 : decode cX12_join 211 = .ok (.iload_n 2, 1) := by decide +kernel
theorem dX12_join_212 : decode cX12_join 212 = .ok (.iaload, 1) := by decide +kernel
theorem dX12_join_213 : decode cX12_join 213 = .ok (.goto 9, 3) := by decide +kernel
theorem dX12_join_216 : decode cX12_join 216 = .ok (.aload_n 0, 1) := by decide +kernel
theorem dX12_join_217 : decode cX12_join 217 = .ok (.getfield 65, 3) := by decide +kernel
theorem dX12_join_220 : decode cX12_join 220 = .ok (.iload_n 1, 1) := by decide +kernel
theorem dX12_join_221 : decode cX12_join 221 = .ok (.iaload, 1) := by decide +kernel
theorem dX12_join_222 : decode cX12_join 222 = .ok (.iastore, 1) := by decide +kernel
theorem dX12_join_223 : decode cX12_join 223 = .ok (.aload_n 0, 1) := by decide +kernel
theorem dX12_join_224 : decode cX12_join 224 = .ok (.getfield 68, 3) := by decide +kernel
theorem dX12_join_227 : decode cX12_join 227 = .ok (.iload_n 1, 1) := by decide +kernel
theorem dX12_join_228 : decode cX12_join 228 = .ok (.aload_n 0, 1) := by decide +kernel
theorem dX12_join_229 : decode cX12_join 229 = .ok (.getfield 68, 3) := by decide +kernel
theorem dX12_join_232 : decode cX12_join 232 = .ok (.iload_n 1, 1) := by decide +kernel
theorem dX12_join_233 : decode cX12_join 233 = .ok (.baload, 1) := by decide +kernel
theorem dX12_join_234 : decode cX12_join 234 = .ok (.ifCond .ne 12, 3) := by decide +kernel
theorem dX12_join_237 : decode cX12_join 237 = .ok (.aload_n 0, 1) := by decide +kernel
theorem dX12_join_238 : decode cX12_join 238 = .ok (.getfield 68, 3) := by decide +kernel
theorem dX12_join_241 : decode cX12_join 241 = .ok (.iload_n 2, 1) := by decide +kernel
theorem dX12_join_242 : decode cX12_join 242 = .ok (.baload, 1) := by decide +kernel
theorem dX12_join_243 : decode cX12_join 243 = .ok (.ifCond .eq 7, 3) := by decide +kernel
theorem dX12_join_246 : decode cX12_join 246 = .ok (.iconst 1, 1) := by decide +kernel
theorem dX12_join_247 : decode cX12_join 247 = .ok (.goto 4, 3) := by decide +kernel
theorem dX12_join_250 : decode cX12_join 250 = .ok (.iconst 0, 1) := by decide +kernel
theorem dX12_join_251 : decode cX12_join 251 = .ok (.bastore, 1) := by decide +kernel
theorem dX12_join_252 : decode cX12_join 252 = .ok (.aload_n 0, 1) := by decide +kernel
theorem dX12_join_253 : decode cX12_join 253 = .ok (.iload_n 1, 1) := by decide +kernel
theorem dX12_join_254 : decode cX12_join 254 = .ok (.invokevirtual 167, 3) := by decide +kernel
theorem dX12_join_257 : decode cX12_join 257 = .ok (.ireturn, 1) := by decide +kernel
theorem dX12_scrap_0 : decode cX12_scrap 0 = .ok (.aload_n 0, 1) := by decide +kernel
theorem dX12_scrap_1 : decode cX12_scrap 1 = .ok (.iload_n 1, 1) := by decide +kernel
theorem dX12_scrap_2 : decode cX12_scrap 2 = .ok (.invokevirtual 173, 3) := by decide +kernel
theorem dX12_scrap_5 : decode cX12_scrap 5 = .ok (.ifCond .ne 6, 3) := by decide +kernel
theorem dX12_scrap_8 : decode cX12_scrap 8 = .ok (.bipush (-2), 2) := by decide +kernel
theorem dX12_scrap_10 : decode cX12_scrap 10 = .ok (.ireturn, 1) := by decide +kernel
theorem dX12_scrap_11 : decode cX12_scrap 11 = .ok (.aload_n 0, 1) := by decide +kernel
theorem dX12_scrap_12 : decode cX12_scrap 12 = .ok (.dup, 1) := by decide +kernel
theorem dX12_scrap_13 : decode cX12_scrap 13 = .ok (.getfield 170, 3) := by decide +kernel
theorem dX12_scrap_16 : decode cX12_scrap 16 = .ok (.aload_n 0, 1) := by decide +kernel
theorem dX12_scrap_17 : decode cX12_scrap 17 = .ok (.getfield 58, 3) := by decide +kernel
theorem dX12_scrap_20 : decode cX12_scrap 20 = .ok (.iload_n 1, 1) := by decide +kernel
theorem dX12_scrap_21 : decode cX12_scrap 21 = .ok (.laload, 1) := by decide +kernel
theorem dX12_scrap_22 : decode cX12_scrap 22 = .ok (.ladd, 1) := by decide +kernel
theorem dX12_scrap_23 : decode cX12_scrap 23 = .ok (.putfield 170, 3) := by decide +kernel
theorem dX12_scrap_26 : decode cX12_scrap 26 = .ok (.aload_n 0, 1) := by decide +kernel
theorem dX12_scrap_27 : decode cX12_scrap 27 = .ok (.getfield 58, 3) := by decide +kernel
theorem dX12_scrap_30 : decode cX12_scrap 30 = .ok (.iload_n 1, 1) := by decide +kernel
theorem dX12_scrap_31 : decode cX12_scrap 31 = .ok (.lconst 0, 1) := by decide +kernel
theorem dX12_scrap_32 : decode cX12_scrap 32 = .ok (.lastore, 1) := by decide +kernel
theorem dX12_scrap_33 : decode cX12_scrap 33 = .ok (.iconst 1, 1) := by decide +kernel
theorem dX12_scrap_34 : decode cX12_scrap 34 = .ok (.ireturn, 1) := by decide +kernel
theorem dX12_ready_0 : decode cX12_ready 0 = .ok (.iload_n 1, 1) := by decide +kernel
theorem dX12_ready_1 : decode cX12_ready 1 = .ok (.iconst 0, 1) := by decide +kernel
theorem dX12_ready_2 : decode cX12_ready 2 = .ok (.iconst 3, 1) := by decide +kernel
theorem dX12_ready_3 : decode cX12_ready 3 = .ok (.invokestatic 123, 3) := by decide +kernel
theorem dX12_ready_6 : decode cX12_ready 6 = .ok (.ifCond .eq 12, 3) := by decide +kernel
theorem dX12_ready_9 : decode cX12_ready 9 = .ok (.aload_n 0, 1) := by decide +kernel
theorem dX12_ready_10 : decode cX12_ready 10 = .ok (.getfield 34, 3) := by decide +kernel
theorem dX12_ready_13 : decode cX12_ready 13 = .ok (.iload_n 1, 1) := by decide +kernel
theorem dX12_ready_14 : decode cX12_ready 14 = .ok (.iaload, 1) := by decide +kernel
theorem dX12_ready_15 : decode cX12_ready 15 = .ok (.goto 5, 3) := by decide +kernel
theorem dX12_ready_18 : decode cX12_ready 18 = .ok (.bipush (-2), 2) := by decide +kernel
theorem dX12_ready_20 : decode cX12_ready 20 = .ok (.ireturn, 1) := by decide +kernel
theorem dX12_findCost_0 : decode cX12_findCost 0 = .ok (.aload_n 0, 1) := by decide +kernel
theorem dX12_findCost_1 : decode cX12_findCost 1 = .ok (.getfield 99, 3) := by decide +kernel
theorem dX12_findCost_4 : decode cX12_findCost 4 = .ok (.iload 4, 2) := by decide +kernel
theorem dX12_findCost_6 : decode cX12_findCost 6 = .ok (.iaload, 1) := by decide +kernel
theorem dX12_findCost_7 : decode cX12_findCost 7 = .ok (.iload 5, 2) := by decide +kernel
theorem dX12_findCost_9 : decode cX12_findCost 9 = .ok (.if_icmp .lt 19, 3) := by decide +kernel
theorem dX12_findCost_12 : decode cX12_findCost 12 = .ok (.aload_n 0, 1) := by decide +kernel
theorem dX12_findCost_13 : decode cX12_findCost 13 = .ok (.getfield 99, 3) := by decide +kernel
theorem dX12_findCost_16 : decode cX12_findCost 16 = .ok (.iload 4, 2) := by decide +kernel
theorem dX12_findCost_18 : decode cX12_findCost 18 = .ok (.iaload, 1) := by decide +kernel
theorem dX12_findCost_19 : decode cX12_findCost 19 = .ok (.iload 6, 2) := by decide +kernel
theorem dX12_findCost_21 : decode cX12_findCost 21 = .ok (.if_icmp .gt 7, 3) := by decide +kernel
theorem dX12_findCost_24 : decode cX12_findCost 24 = .ok (.iconst 1, 1) := by decide +kernel
theorem dX12_findCost_25 : decode cX12_findCost 25 = .ok (.goto 4, 3) := by decide +kernel
theorem dX12_findCost_28 : decode cX12_findCost 28 = .ok (.iconst 0, 1) := by decide +kernel
theorem dX12_findCost_29 : decode cX12_findCost 29 = .ok (.istore 7, 2) := by decide +kernel
theorem dX12_findCost_31 : decode cX12_findCost 31 = .ok (.iconst 0, 1) := by decide +kernel
theorem dX12_findCost_32 : decode cX12_findCost 32 = .ok (.istore 8, 2) := by decide +kernel
theorem dX12_findCost_34 : decode cX12_findCost 34 = .ok (.iload 8, 2) := by decide +kernel
theorem dX12_findCost_36 : decode cX12_findCost 36 = .ok (.bipush 100, 2) := by decide +kernel
theorem dX12_findCost_38 : decode cX12_findCost 38 = .ok (.if_icmp .gt 232, 3) := by decide +kernel
theorem dX12_findCost_41 : decode cX12_findCost 41 = .ok (.iload 7, 2) := by decide +kernel
theorem dX12_findCost_43 : decode cX12_findCost 43 = .ok (.ifCond .eq 7, 3) := by decide +kernel
theorem dX12_findCost_46 : decode cX12_findCost 46 = .ok (.iconst 0, 1) := by decide +kernel
theorem dX12_findCost_47 : decode cX12_findCost 47 = .ok (.goto 5, 3) := by decide +kernel
theorem dX12_findCost_50 : decode cX12_findCost 50 = .ok (.ldc 225, 2) := by decide +kernel
theorem dX12_findCost_52 : decode cX12_findCost 52 = .ok (.istore 9, 2) := by decide +kernel
theorem dX12_findCost_54 : decode cX12_findCost 54 = .ok (.iconst (-1), 1) := by decide +kernel
theorem dX12_findCost_55 : decode cX12_findCost 55 = .ok (.istore 10, 2) := by decide +kernel
theorem dX12_findCost_57 : decode cX12_findCost 57 = .ok (.iconst 0, 1) := by decide +kernel
theorem dX12_findCost_58 : decode cX12_findCost 58 = .ok (.istore 11, 2) := by decide +kernel
theorem dX12_findCost_60 : decode cX12_findCost 60 = .ok (.iload 11, 2) := by decide +kernel
theorem dX12_findCost_62 : decode cX12_findCost 62 = .ok (.aload_n 0, 1) := by decide +kernel
theorem dX12_findCost_63 : decode cX12_findCost 63 = .ok (.getfield 37, 3) := by decide +kernel
theorem dX12_findCost_66 : decode cX12_findCost 66 = .ok (.iload_n 2, 1) := by decide +kernel
theorem dX12_findCost_67 : decode cX12_findCost 67 = .ok (.iaload, 1) := by decide +kernel
theorem dX12_findCost_68 : decode cX12_findCost 68 = .ok (.if_icmp .ge 117, 3) := by decide +kernel
theorem dX12_findCost_71 : decode cX12_findCost 71 = .ok (.iload 7, 2) := by decide +kernel
theorem dX12_findCost_73 : decode cX12_findCost 73 = .ok (.ifCond .ne 112, 3) := by decide +kernel
theorem dX12_findCost_76 : decode cX12_findCost 76 = .ok (.bipush 8, 2) := by decide +kernel
theorem dX12_findCost_78 : decode cX12_findCost 78 = .ok (.iload_n 2, 1) := by decide +kernel
theorem dX12_findCost_79 : decode cX12_findCost 79 = .ok (.imul, 1) := by decide +kernel
theorem dX12_findCost_80 : decode cX12_findCost 80 = .ok (.iload 11, 2) := by decide +kernel
theorem dX12_findCost_82 : decode cX12_findCost 82 = .ok (.iadd, 1) := by decide +kernel
theorem dX12_findCost_83 : decode cX12_findCost 83 = .ok (.istore 12, 2) := by decide +kernel
theorem dX12_findCost_85 : decode cX12_findCost 85 = .ok (.aload_n 0, 1) := by decide +kernel
theorem dX12_findCost_86 : decode cX12_findCost 86 = .ok (.iload_n 1, 1) := by decide +kernel
theorem dX12_findCost_87 : decode cX12_findCost 87 = .ok (.aload_n 0, 1) := by decide +kernel
theorem dX12_findCost_88 : decode cX12_findCost 88 = .ok (.getfield 99, 3) := by decide +kernel
theorem dX12_findCost_91 : decode cX12_findCost 91 = .ok (.iload 4, 2) := by decide +kernel
theorem dX12_findCost_93 : decode cX12_findCost 93 = .ok (.iaload, 1) := by decide +kernel
theorem dX12_findCost_94 : decode cX12_findCost 94 = .ok (.iload 8, 2) := by decide +kernel
theorem dX12_findCost_96 : decode cX12_findCost 96 = .ok (.iload 12, 2) := by decide +kernel
theorem dX12_findCost_98 : decode cX12_findCost 98 = .ok (.iload_n 3, 1) := by decide +kernel
theorem dX12_findCost_99 : decode cX12_findCost 99 = .ok (.invokevirtual 206, 3) := by decide +kernel
theorem dX12_findCost_102 : decode cX12_findCost 102 = .ok (.iconst 1, 1) := by decide +kernel
theorem dX12_findCost_103 : decode cX12_findCost 103 = .ok (.if_icmp .ne 76, 3) := by decide +kernel
theorem dX12_findCost_106 : decode cX12_findCost 106 = .ok (.iconst 1, 1) := by decide +kernel
theorem dX12_findCost_107 : decode cX12_findCost 107 = .ok (.aload_n 0, 1) := by decide +kernel
theorem dX12_findCost_108 : decode cX12_findCost 108 = .ok (.getfield 93, 3) := by decide +kernel
theorem dX12_findCost_111 : decode cX12_findCost 111 = .ok (.bipush 101, 2) := by decide +kernel
theorem dX12_findCost_113 : decode cX12_findCost 113 = .ok (.iload 11, 2) := by decide +kernel
theorem dX12_findCost_115 : decode cX12_findCost 115 = .ok (.imul, 1) := by decide +kernel
theorem dX12_findCost_116 : decode cX12_findCost 116 = .ok (.aload_n 0, 1) := by decide +kernel
theorem dX12_findCost_117 : decode cX12_findCost 117 = .ok (.aload_n 0, 1) := by decide +kernel
theorem dX12_findCost_118 : decode cX12_findCost 118 = .ok (.getfield 49, 3) := by decide +kernel
theorem dX12_findCost_121 : decode cX12_findCost 121 = .ok (.iload_n 1, 1) := by decide +kernel
theorem dX12_findCost_122 : decode cX12_findCost 122 = .ok (.iaload, 1) := by decide +kernel
theorem dX12_findCost_123 : decode cX12_findCost 123 = .ok (.aload_n 0, 1) := by decide +kernel
theorem dX12_findCost_124 : decode cX12_findCost 124 = .ok (.getfield 99, 3) := by decide +kernel
theorem dX12_findCost_127 : decode cX12_findCost 127 = .ok (.iload 4, 2) := by decide +kernel
theorem dX12_findCost_129 : decode cX12_findCost 129 = .ok (.iaload, 1) := by decide +kernel
theorem dX12_findCost_130 : decode cX12_findCost 130 = .ok (.iload 8, 2) := by decide +kernel
theorem dX12_findCost_132 : decode cX12_findCost 132 = .ok (.aload_n 0, 1) := by decide +kernel
theorem dX12_findCost_133 : decode cX12_findCost 133 = .ok (.getfield 99, 3) := by decide +kernel
theorem dX12_findCost_136 : decode cX12_findCost 136 = .ok (.iload 11, 2) := by decide +kernel
theorem dX12_findCost_138 : decode cX12_findCost 138 = .ok (.iaload, 1) := by decide +kernel
theorem dX12_findCost_139 : decode cX12_findCost 139 = .ok (.invokevirtual 186, 3) := by decide +kernel
theorem dX12_findCost_142 : decode cX12_findCost 142 = .ok (.iadd, 1) := by decide +kernel
theorem dX12_findCost_143 : decode cX12_findCost 143 = .ok (.iaload, 1) := by decide +kernel
theorem dX12_findCost_144 : decode cX12_findCost 144 = .ok (.iadd, 1) := by decide +kernel
theorem dX12_findCost_145 : decode cX12_findCost 145 = .ok (.istore 13, 2) := by decide +kernel
theorem dX12_findCost_147 : decode cX12_findCost 147 = .ok (.iload 13, 2) := by decide +kernel
theorem dX12_findCost_149 : decode cX12_findCost 149 = .ok (.iload 9, 2) := by decide +kernel
theorem dX12_findCost_151 : decode cX12_findCost 151 = .ok (.if_icmp .ge 8, 3) := by decide +kernel
theorem dX12_findCost_154 : decode cX12_findCost 154 = .ok (.iload 11, 2) := by decide +kernel
theorem dX12_findCost_156 : decode cX12_findCost 156 = .ok (.goto 5, 3) := by decide +kernel
theorem dX12_findCost_159 : decode cX12_findCost 159 = .ok (.iload 10, 2) := by decide +kernel
theorem dX12_findCost_161 : decode cX12_findCost 161 = .ok (.istore 10, 2) := by decide +kernel
theorem dX12_findCost_163 : decode cX12_findCost 163 = .ok (.iload 13, 2) := by decide +kernel
theorem dX12_findCost_165 : decode cX12_findCost 165 = .ok (.iload 9, 2) := by decide +kernel
theorem dX12_findCost_167 : decode cX12_findCost 167 = .ok (.if_icmp .ge 8, 3) := by decide +kernel
theorem dX12_findCost_170 : decode cX12_findCost 170 = .ok (.iload 13, 2) := by decide +kernel
theorem dX12_findCost_172 : decode cX12_findCost 172 = .ok (.goto 5, 3) := by decide +kernel
theorem dX12_findCost_175 : decode cX12_findCost 175 = .ok (.iload 9, 2) := by decide +kernel
theorem dX12_findCost_177 : decode cX12_findCost 177 = .ok (.istore 9, 2) := by decide +kernel
theorem dX12_findCost_179 : decode cX12_findCost 179 = .ok (.iinc 11 1, 3) := by decide +kernel
theorem dX12_findCost_182 : decode cX12_findCost 182 = .ok (.goto (-122), 3) := by decide +kernel
theorem dX12_findCost_185 : decode cX12_findCost 185 = .ok (.iload 8, 2) := by decide +kernel
theorem dX12_findCost_187 : decode cX12_findCost 187 = .ok (.ifCond .le 47, 3) := by decide +kernel
theorem dX12_findCost_190 : decode cX12_findCost 190 = .ok (.iload 7, 2) := by decide +kernel
theorem dX12_findCost_192 : decode cX12_findCost 192 = .ok (.ifCond .ne 42, 3) := by decide +kernel
theorem dX12_findCost_195 : decode cX12_findCost 195 = .ok (.sipush 1000, 3) := by decide +kernel
theorem dX12_findCost_198 : decode cX12_findCost 198 = .ok (.aload_n 0, 1) := by decide +kernel
theorem dX12_findCost_199 : decode cX12_findCost 199 = .ok (.getfield 93, 3) := by decide +kernel
theorem dX12_findCost_202 : decode cX12_findCost 202 = .ok (.bipush 101, 2) := by decide +kernel
theorem dX12_findCost_204 : decode cX12_findCost 204 = .ok (.iload 4, 2) := by decide +kernel
theorem dX12_findCost_206 : decode cX12_findCost 206 = .ok (.imul, 1) := by decide +kernel
theorem dX12_findCost_207 : decode cX12_findCost 207 = .ok (.iaload, 1) := by decide +kernel
theorem dX12_findCost_208 : decode cX12_findCost 208 = .ok (.iadd, 1) := by decide +kernel
theorem dX12_findCost_209 : decode cX12_findCost 209 = .ok (.iload 9, 2) := by decide +kernel
theorem dX12_findCost_211 : decode cX12_findCost 211 = .ok (.if_icmp .ge 23, 3) := by decide +kernel
theorem dX12_findCost_214 : decode cX12_findCost 214 = .ok (.sipush 1000, 3) := by decide +kernel
theorem dX12_findCost_217 : decode cX12_findCost 217 = .ok (.aload_n 0, 1) := by decide +kernel
theorem dX12_findCost_218 : decode cX12_findCost 218 = .ok (.getfield 93, 3) := by decide +kernel
theorem dX12_findCost_221 : decode cX12_findCost 221 = .ok (.bipush 101, 2) := by decide +kernel
theorem dX12_findCost_223 : decode cX12_findCost 223 = .ok (.iload 4, 2) := by decide +kernel
theorem dX12_findCost_225 : decode cX12_findCost 225 = .ok (.imul, 1) := by decide +kernel
theorem dX12_findCost_226 : decode cX12_findCost 226 = .ok (.iaload, 1) := by decide +kernel
theorem dX12_findCost_227 : decode cX12_findCost 227 = .ok (.iadd, 1) := by decide +kernel
theorem dX12_findCost_228 : decode cX12_findCost 228 = .ok (.istore 9, 2) := by decide +kernel
theorem dX12_findCost_230 : decode cX12_findCost 230 = .ok (.bipush 8, 2) := by decide +kernel
theorem dX12_findCost_232 : decode cX12_findCost 232 = .ok (.istore 10, 2) := by decide +kernel
theorem dX12_findCost_234 : decode cX12_findCost 234 = .ok (.aload_n 0, 1) := by decide +kernel
theorem dX12_findCost_235 : decode cX12_findCost 235 = .ok (.getfield 93, 3) := by decide +kernel
theorem dX12_findCost_238 : decode cX12_findCost 238 = .ok (.bipush 101, 2) := by decide +kernel
theorem dX12_findCost_240 : decode cX12_findCost 240 = .ok (.iload 4, 2) := by decide +kernel
theorem dX12_findCost_242 : decode cX12_findCost 242 = .ok (.imul, 1) := by decide +kernel
theorem dX12_findCost_243 : decode cX12_findCost 243 = .ok (.iload 8, 2) := by decide +kernel
theorem dX12_findCost_245 : decode cX12_findCost 245 = .ok (.iadd, 1) := by decide +kernel
theorem dX12_findCost_246 : decode cX12_findCost 246 = .ok (.iload 9, 2) := by decide +kernel
theorem dX12_findCost_248 : decode cX12_findCost 248 = .ok (.iastore, 1) := by decide +kernel
theorem dX12_findCost_249 : decode cX12_findCost 249 = .ok (.aload_n 0, 1) := by decide +kernel
theorem dX12_findCost_250 : decode cX12_findCost 250 = .ok (.getfield 96, 3) := by decide +kernel
theorem dX12_findCost_253 : decode cX12_findCost 253 = .ok (.bipush 101, 2) := by decide +kernel
theorem dX12_findCost_255 : decode cX12_findCost 255 = .ok (.iload 4, 2) := by decide +kernel
theorem dX12_findCost_257 : decode cX12_findCost 257 = .ok (.imul, 1) := by decide +kernel
theorem dX12_findCost_258 : decode cX12_findCost 258 = .ok (.iload 8, 2) := by decide +kernel
theorem dX12_findCost_260 : decode cX12_findCost 260 = .ok (.iadd, 1) := by decide +kernel
theorem dX12_findCost_261 : decode cX12_findCost 261 = .ok (.iload 10, 2) := by decide +kernel
theorem dX12_findCost_263 : decode cX12_findCost 263 = .ok (.iastore, 1) := by decide +kernel
theorem dX12_findCost_264 : decode cX12_findCost 264 = .ok (.iinc 8 1, 3) := by decide +kernel
theorem dX12_findCost_267 : decode cX12_findCost 267 = .ok (.goto (-233), 3) := by decide +kernel
theorem dX12_findCost_270 : decode cX12_findCost 270 = .ok (.return_, 1) := by decide +kernel
theorem dX12_findWay_0 : decode cX12_findWay 0 = .ok (.aload_n 0, 1) := by decide +kernel
theorem dX12_findWay_1 : decode cX12_findWay 1 = .ok (.getfield 37, 3) := by decide +kernel
theorem dX12_findWay_4 : decode cX12_findWay 4 = .ok (.iload_n 2, 1) := by decide +kernel
theorem dX12_findWay_5 : decode cX12_findWay 5 = .ok (.iaload, 1) := by decide +kernel
theorem dX12_findWay_6 : decode cX12_findWay 6 = .ok (.istore 6, 2) := by decide +kernel
theorem dX12_findWay_8 : decode cX12_findWay 8 = .ok (.iconst 0, 1) := by decide +kernel
theorem dX12_findWay_9 : decode cX12_findWay 9 = .ok (.istore 7, 2) := by decide +kernel
theorem dX12_findWay_11 : decode cX12_findWay 11 = .ok (.iload 7, 2) := by decide +kernel
theorem dX12_findWay_13 : decode cX12_findWay 13 = .ok (.iload 6, 2) := by decide +kernel
theorem dX12_findWay_15 : decode cX12_findWay 15 = .ok (.if_icmp .ge 35, 3) := by decide +kernel
theorem dX12_findWay_18 : decode cX12_findWay 18 = .ok (.aload_n 0, 1) := by decide +kernel
theorem dX12_findWay_19 : decode cX12_findWay 19 = .ok (.getfield 99, 3) := by decide +kernel
theorem dX12_findWay_22 : decode cX12_findWay 22 = .ok (.iload 7, 2) := by decide +kernel
theorem dX12_findWay_24 : decode cX12_findWay 24 = .ok (.aload_n 0, 1) := by decide +kernel
theorem dX12_findWay_25 : decode cX12_findWay 25 = .ok (.bipush 8, 2) := by decide +kernel
theorem dX12_findWay_27 : decode cX12_findWay 27 = .ok (.iload_n 2, 1) := by decide +kernel
theorem dX12_findWay_28 : decode cX12_findWay 28 = .ok (.imul, 1) := by decide +kernel
theorem dX12_findWay_29 : decode cX12_findWay 29 = .ok (.iload 7, 2) := by decide +kernel
theorem dX12_findWay_31 : decode cX12_findWay 31 = .ok (.iadd, 1) := by decide +kernel
theorem dX12_findWay_32 : decode cX12_findWay 32 = .ok (.invokevirtual 149, 3) := by decide +kernel
theorem dX12_findWay_35 : decode cX12_findWay 35 = .ok (.iastore, 1) := by decide +kernel
theorem dX12_findWay_36 : decode cX12_findWay 36 = .ok (.aload_n 0, 1) := by decide +kernel
theorem dX12_findWay_37 : decode cX12_findWay 37 = .ok (.getfield 102, 3) := by decide +kernel
theorem dX12_findWay_40 : decode cX12_findWay 40 = .ok (.iload 7, 2) := by decide +kernel
theorem dX12_findWay_42 : decode cX12_findWay 42 = .ok (.iconst 0, 1) := by decide +kernel
theorem dX12_findWay_43 : decode cX12_findWay 43 = .ok (.bastore, 1) := by decide +kernel
theorem dX12_findWay_44 : decode cX12_findWay 44 = .ok (.iinc 7 1, 3) := by decide +kernel
theorem dX12_findWay_47 : decode cX12_findWay 47 = .ok (.goto (-36), 3) := by decide +kernel
theorem dX12_findWay_50 : decode cX12_findWay 50 = .ok (.iconst 0, 1) := by decide +kernel
theorem dX12_findWay_51 : decode cX12_findWay 51 = .ok (.istore 7, 2) := by decide +kernel
theorem dX12_findWay_53 : decode cX12_findWay 53 = .ok (.iload 7, 2) := by decide +kernel
theorem dX12_findWay_55 : decode cX12_findWay 55 = .ok (.iload 6, 2) := by decide +kernel
theorem dX12_findWay_57 : decode cX12_findWay 57 = .ok (.if_icmp .ge 91, 3) := by decide +kernel
theorem dX12_findWay_60 : decode cX12_findWay 60 = .ok (.iconst (-1), 1) := by decide +kernel
theorem dX12_findWay_61 : decode cX12_findWay 61 = .ok (.istore 8, 2) := by decide +kernel
theorem dX12_findWay_63 : decode cX12_findWay 63 = .ok (.iconst 0, 1) := by decide +kernel
theorem dX12_findWay_64 : decode cX12_findWay 64 = .ok (.istore 9, 2) := by decide +kernel
theorem dX12_findWay_66 : decode cX12_findWay 66 = .ok (.iload 9, 2) := by decide +kernel
theorem dX12_findWay_68 : decode cX12_findWay 68 = .ok (.iload 6, 2) := by decide +kernel
theorem dX12_findWay_70 : decode cX12_findWay 70 = .ok (.if_icmp .ge 51, 3) := by decide +kernel
theorem dX12_findWay_73 : decode cX12_findWay 73 = .ok (.aload_n 0, 1) := by decide +kernel
theorem dX12_findWay_74 : decode cX12_findWay 74 = .ok (.getfield 102, 3) := by decide +kernel
theorem dX12_findWay_77 : decode cX12_findWay 77 = .ok (.iload 9, 2) := by decide +kernel
theorem dX12_findWay_79 : decode cX12_findWay 79 = .ok (.baload, 1) := by decide +kernel
theorem dX12_findWay_80 : decode cX12_findWay 80 = .ok (.ifCond .ne 31, 3) := by decide +kernel
theorem dX12_findWay_83 : decode cX12_findWay 83 = .ok (.iload 8, 2) := by decide +kernel
theorem dX12_findWay_85 : decode cX12_findWay 85 = .ok (.iconst (-1), 1) := by decide +kernel
theorem dX12_findWay_86 : decode cX12_findWay 86 = .ok (.if_icmp .eq 20, 3) := by decide +kernel
theorem dX12_findWay_89 : decode cX12_findWay 89 = .ok (.aload_n 0, 1) := by decide +kernel
theorem dX12_findWay_90 : decode cX12_findWay 90 = .ok (.getfield 99, 3) := by decide +kernel
theorem dX12_findWay_93 : decode cX12_findWay 93 = .ok (.iload 9, 2) := by decide +kernel
theorem dX12_findWay_95 : decode cX12_findWay 95 = .ok (.iaload, 1) := by decide +kernel
theorem dX12_findWay_96 : decode cX12_findWay 96 = .ok (.aload_n 0, 1) := by decide +kernel
theorem dX12_findWay_97 : decode cX12_findWay 97 = .ok (.getfield 99, 3) := by decide +kernel
theorem dX12_findWay_100 : decode cX12_findWay 100 = .ok (.iload 8, 2) := by decide +kernel
theorem dX12_findWay_102 : decode cX12_findWay 102 = .ok (.iaload, 1) := by decide +kernel
theorem dX12_findWay_103 : decode cX12_findWay 103 = .ok (.if_icmp .ge 8, 3) := by decide +kernel
theorem dX12_findWay_106 : decode cX12_findWay 106 = .ok (.iload 9, 2) := by decide +kernel
theorem dX12_findWay_108 : decode cX12_findWay 108 = .ok (.goto 5, 3) := by decide +kernel
theorem dX12_findWay_111 : decode cX12_findWay 111 = .ok (.iload 8, 2) := by decide +kernel
theorem dX12_findWay_113 : decode cX12_findWay 113 = .ok (.istore 8, 2) := by decide +kernel
theorem dX12_findWay_115 : decode cX12_findWay 115 = .ok (.iinc 9 1, 3) := by decide +kernel
theorem dX12_findWay_118 : decode cX12_findWay 118 = .ok (.goto (-52), 3) := by decide +kernel
theorem dX12_findWay_121 : decode cX12_findWay 121 = .ok (.aload_n 0, 1) := by decide +kernel
theorem dX12_findWay_122 : decode cX12_findWay 122 = .ok (.iload_n 1, 1) := by decide +kernel
theorem dX12_findWay_123 : decode cX12_findWay 123 = .ok (.iload_n 2, 1) := by decide +kernel
theorem dX12_findWay_124 : decode cX12_findWay 124 = .ok (.iload_n 3, 1) := by decide +kernel
theorem dX12_findWay_125 : decode cX12_findWay 125 = .ok (.iload 8, 2) := by decide +kernel
theorem dX12_findWay_127 : decode cX12_findWay 127 = .ok (.iload 4, 2) := by decide +kernel
theorem dX12_findWay_129 : decode cX12_findWay 129 = .ok (.iload 5, 2) := by decide +kernel
theorem dX12_findWay_131 : decode cX12_findWay 131 = .ok (.invokevirtual 226, 3) := by decide +kernel
theorem dX12_findWay_134 : decode cX12_findWay 134 = .ok (.aload_n 0, 1) := by decide +kernel
theorem dX12_findWay_135 : decode cX12_findWay 135 = .ok (.getfield 102, 3) := by decide +kernel
theorem dX12_findWay_138 : decode cX12_findWay 138 = .ok (.iload 8, 2) := by decide +kernel
theorem dX12_findWay_140 : decode cX12_findWay 140 = .ok (.iconst 1, 1) := by decide +kernel
theorem dX12_findWay_141 : decode cX12_findWay 141 = .ok (.bastore, 1) := by decide +kernel
theorem dX12_findWay_142 : decode cX12_findWay 142 = .ok (.iinc 7 1, 3) := by decide +kernel
theorem dX12_findWay_145 : decode cX12_findWay 145 = .ok (.goto (-92), 3) := by decide +kernel
theorem dX12_findWay_148 : decode cX12_findWay 148 = .ok (.aload_n 0, 1) := by decide +kernel
theorem dX12_findWay_149 : decode cX12_findWay 149 = .ok (.getfield 99, 3) := by decide +kernel
theorem dX12_findWay_152 : decode cX12_findWay 152 = .ok (.bipush 8, 2) := by decide +kernel
theorem dX12_findWay_154 : decode cX12_findWay 154 = .ok (.aload_n 0, 1) := by decide +kernel
theorem dX12_findWay_155 : decode cX12_findWay 155 = .ok (.getfield 52, 3) := by decide +kernel
theorem dX12_findWay_158 : decode cX12_findWay 158 = .ok (.iload_n 1, 1) := by decide +kernel
theorem dX12_findWay_159 : decode cX12_findWay 159 = .ok (.iaload, 1) := by decide +kernel
theorem dX12_findWay_160 : decode cX12_findWay 160 = .ok (.iastore, 1) := by decide +kernel
theorem dX12_findWay_161 : decode cX12_findWay 161 = .ok (.aload_n 0, 1) := by decide +kernel
theorem dX12_findWay_162 : decode cX12_findWay 162 = .ok (.iload_n 1, 1) := by decide +kernel
theorem dX12_findWay_163 : decode cX12_findWay 163 = .ok (.iload_n 2, 1) := by decide +kernel
theorem dX12_findWay_164 : decode cX12_findWay 164 = .ok (.iload_n 3, 1) := by decide +kernel
theorem dX12_findWay_165 : decode cX12_findWay 165 = .ok (.bipush 8, 2) := by decide +kernel
theorem dX12_findWay_167 : decode cX12_findWay 167 = .ok (.iload 4, 2) := by decide +kernel
theorem dX12_findWay_169 : decode cX12_findWay 169 = .ok (.iload 5, 2) := by decide +kernel
theorem dX12_findWay_171 : decode cX12_findWay 171 = .ok (.invokevirtual 226, 3) := by decide +kernel
theorem dX12_findWay_174 : decode cX12_findWay 174 = .ok (.bipush 8, 2) := by decide +kernel
theorem dX12_findWay_176 : decode cX12_findWay 176 = .ok (.istore 7, 2) := by decide +kernel
theorem dX12_findWay_178 : decode cX12_findWay 178 = .ok (.aload_n 0, 1) := by decide +kernel
theorem dX12_findWay_179 : decode cX12_findWay 179 = .ok (.getfield 55, 3) := by decide +kernel
theorem dX12_findWay_182 : decode cX12_findWay 182 = .ok (.iload_n 1, 1) := by decide +kernel
theorem dX12_findWay_183 : decode cX12_findWay 183 = .ok (.iaload, 1) := by decide +kernel
theorem dX12_findWay_184 : decode cX12_findWay 184 = .ok (.istore 8, 2) := by decide +kernel
theorem dX12_findWay_186 : decode cX12_findWay 186 = .ok (.aload_n 0, 1) := by decide +kernel
theorem dX12_findWay_187 : decode cX12_findWay 187 = .ok (.iconst 0, 1) := by decide +kernel
theorem dX12_findWay_188 : decode cX12_findWay 188 = .ok (.putfield 230, 3) := by decide +kernel
theorem dX12_findWay_191 : decode cX12_findWay 191 = .ok (.aload_n 0, 1) := by decide +kernel
theorem dX12_findWay_192 : decode cX12_findWay 192 = .ok (.getfield 93, 3) := by decide +kernel
theorem dX12_findWay_195 : decode cX12_findWay 195 = .ok (.sipush 808, 3) := by decide +kernel
theorem dX12_findWay_198 : decode cX12_findWay 198 = .ok (.iload 8, 2) := by decide +kernel
theorem dX12_findWay_200 : decode cX12_findWay 200 = .ok (.iadd, 1) := by decide +kernel
theorem dX12_findWay_201 : decode cX12_findWay 201 = .ok (.iaload, 1) := by decide +kernel
theorem dX12_findWay_202 : decode cX12_findWay 202 = .ok (.ldc 225, 2) := by decide +kernel
theorem dX12_findWay_204 : decode cX12_findWay 204 = .ok (.if_icmp .lt 5, 3) := by decide +kernel
theorem dX12_findWay_207 : decode cX12_findWay 207 = .ok (.iconst 0, 1) := by decide +kernel
theorem dX12_findWay_208 : decode cX12_findWay 208 = .ok (.ireturn, 1) := by decide +kernel
theorem dX12_findWay_209 : decode cX12_findWay 209 = .ok (.aload_n 0, 1) := by decide +kernel
theorem dX12_findWay_210 : decode cX12_findWay 210 = .ok (.getfield 96, 3) := by decide +kernel
theorem dX12_findWay_213 : decode cX12_findWay 213 = .ok (.bipush 101, 2) := by decide +kernel
theorem dX12_findWay_215 : decode cX12_findWay 215 = .ok (.iload 7, 2) := by decide +kernel
theorem dX12_findWay_217 : decode cX12_findWay 217 = .ok (.imul, 1) := by decide +kernel
theorem dX12_findWay_218 : decode cX12_findWay 218 = .ok (.iload 8, 2) := by decide +kernel
theorem dX12_findWay_220 : decode cX12_findWay 220 = .ok (.iadd, 1) := by decide +kernel
theorem dX12_findWay_221 : decode cX12_findWay 221 = .ok (.iaload, 1) := by decide +kernel
theorem dX12_findWay_222 : decode cX12_findWay 222 = .ok (.iconst (-1), 1) := by decide +kernel
theorem dX12_findWay_223 : decode cX12_findWay 223 = .ok (.if_icmp .eq 97, 3) := by decide +kernel
theorem dX12_findWay_226 : decode cX12_findWay 226 = .ok (.aload_n 0, 1) := by decide +kernel
theorem dX12_findWay_227 : decode cX12_findWay 227 = .ok (.getfield 96, 3) := by decide +kernel
theorem dX12_findWay_230 : decode cX12_findWay 230 = .ok (.bipush 101, 2) := by decide +kernel
theorem dX12_findWay_232 : decode cX12_findWay 232 = .ok (.iload 7, 2) := by decide +kernel
theorem dX12_findWay_234 : decode cX12_findWay 234 = .ok (.imul, 1) := by decide +kernel
theorem dX12_findWay_235 : decode cX12_findWay 235 = .ok (.iload 8, 2) := by decide +kernel
theorem dX12_findWay_237 : decode cX12_findWay 237 = .ok (.iadd, 1) := by decide +kernel
theorem dX12_findWay_238 : decode cX12_findWay 238 = .ok (.iaload, 1) := by decide +kernel
theorem dX12_findWay_239 : decode cX12_findWay 239 = .ok (.istore 9, 2) := by decide +kernel
theorem dX12_findWay_241 : decode cX12_findWay 241 = .ok (.aload_n 0, 1) := by decide +kernel
theorem dX12_findWay_242 : decode cX12_findWay 242 = .ok (.getfield 105, 3) := by decide +kernel
theorem dX12_findWay_245 : decode cX12_findWay 245 = .ok (.aload_n 0, 1) := by decide +kernel
theorem dX12_findWay_246 : decode cX12_findWay 246 = .ok (.getfield 230, 3) := by decide +kernel
theorem dX12_findWay_249 : decode cX12_findWay 249 = .ok (.iload 9, 2) := by decide +kernel
theorem dX12_findWay_251 : decode cX12_findWay 251 = .ok (.iastore, 1) := by decide +kernel
theorem dX12_findWay_252 : decode cX12_findWay 252 = .ok (.aload_n 0, 1) := by decide +kernel
theorem dX12_findWay_253 : decode cX12_findWay 253 = .ok (.dup, 1) := by decide +kernel
theorem dX12_findWay_254 : decode cX12_findWay 254 = .ok (.getfield 230, 3) := by decide +kernel
theorem dX12_findWay_257 : decode cX12_findWay 257 = .ok (.iconst 1, 1) := by decide +kernel
theorem dX12_findWay_258 : decode cX12_findWay 258 = .ok (.iadd, 1) := by decide +kernel
theorem dX12_findWay_259 : decode cX12_findWay 259 = .ok (.putfield 230, 3) := by decide +kernel
theorem dX12_findWay_262 : decode cX12_findWay 262 = .ok (.iload 9, 2) := by decide +kernel
theorem dX12_findWay_264 : decode cX12_findWay 264 = .ok (.bipush 8, 2) := by decide +kernel
theorem dX12_findWay_266 : decode cX12_findWay 266 = .ok (.if_icmp .ne 7, 3) := by decide +kernel
theorem dX12_findWay_269 : decode cX12_findWay 269 = .ok (.iconst 0, 1) := by decide +kernel
theorem dX12_findWay_270 : decode cX12_findWay 270 = .ok (.goto 29, 3) := by decide +kernel
theorem dX12_findWay_273 : decode cX12_findWay 273 = .ok (.aload_n 0, 1) := by decide +kernel
theorem dX12_findWay_274 : decode cX12_findWay 274 = .ok (.aload_n 0, 1) := by decide +kernel
theorem dX12_findWay_275 : decode cX12_findWay 275 = .ok (.getfield 49, 3) := by decide +kernel
theorem dX12_findWay_278 : decode cX12_findWay 278 = .ok (.iload_n 1, 1) := by decide +kernel
theorem dX12_findWay_279 : decode cX12_findWay 279 = .ok (.iaload, 1) := by decide +kernel
theorem dX12_findWay_280 : decode cX12_findWay 280 = .ok (.aload_n 0, 1) := by decide +kernel
theorem dX12_findWay_281 : decode cX12_findWay 281 = .ok (.getfield 99, 3) := by decide +kernel
theorem dX12_findWay_284 : decode cX12_findWay 284 = .ok (.iload 7, 2) := by decide +kernel
theorem dX12_findWay_286 : decode cX12_findWay 286 = .ok (.iaload, 1) := by decide +kernel
theorem dX12_findWay_287 : decode cX12_findWay 287 = .ok (.iload 8, 2) := by decide +kernel
theorem dX12_findWay_289 : decode cX12_findWay 289 = .ok (.aload_n 0, 1) := by decide +kernel
theorem dX12_findWay_290 : decode cX12_findWay 290 = .ok (.getfield 99, 3) := by decide +kernel
theorem dX12_findWay_293 : decode cX12_findWay 293 = .ok (.iload 9, 2) := by decide +kernel
theorem dX12_findWay_295 : decode cX12_findWay 295 = .ok (.iaload, 1) := by decide +kernel
theorem dX12_findWay_296 : decode cX12_findWay 296 = .ok (.invokevirtual 186, 3) := by decide +kernel
theorem dX12_findWay_299 : decode cX12_findWay 299 = .ok (.istore 8, 2) := by decide +kernel
theorem dX12_findWay_301 : decode cX12_findWay 301 = .ok (.iload 9, 2) := by decide +kernel
theorem dX12_findWay_303 : decode cX12_findWay 303 = .ok (.bipush 8, 2) := by decide +kernel
theorem dX12_findWay_305 : decode cX12_findWay 305 = .ok (.if_icmp .ne 8, 3) := by decide +kernel
theorem dX12_findWay_308 : decode cX12_findWay 308 = .ok (.iload 7, 2) := by decide +kernel
theorem dX12_findWay_310 : decode cX12_findWay 310 = .ok (.goto 5, 3) := by decide +kernel
theorem dX12_findWay_313 : decode cX12_findWay 313 = .ok (.iload 9, 2) := by decide +kernel
theorem dX12_findWay_315 : decode cX12_findWay 315 = .ok (.istore 7, 2) := by decide +kernel
theorem dX12_findWay_317 : decode cX12_findWay 317 = .ok (.goto (-108), 3) := by decide +kernel
theorem dX12_findWay_320 : decode cX12_findWay 320 = .ok (.iconst 1, 1) := by decide +kernel
theorem dX12_findWay_321 : decode cX12_findWay 321 = .ok (.ireturn, 1) := by decide +kernel
theorem dX12_wrong_0 : decode cX12_wrong 0 = .ok (.aload_n 0, 1) := by decide +kernel
theorem dX12_wrong_1 : decode cX12_wrong 1 = .ok (.iload_n 1, 1) := by decide +kernel
theorem dX12_wrong_2 : decode cX12_wrong 2 = .ok (.invokevirtual 173, 3) := by decide +kernel
theorem dX12_wrong_5 : decode cX12_wrong 5 = .ok (.ifCond .eq 19, 3) := by decide +kernel
theorem dX12_wrong_8 : decode cX12_wrong 8 = .ok (.iload_n 2, 1) := by decide +kernel
theorem dX12_wrong_9 : decode cX12_wrong 9 = .ok (.iconst 0, 1) := by decide +kernel
theorem dX12_wrong_10 : decode cX12_wrong 10 = .ok (.iconst 3, 1) := by decide +kernel
theorem dX12_wrong_11 : decode cX12_wrong 11 = .ok (.invokestatic 123, 3) := by decide +kernel
theorem dX12_wrong_14 : decode cX12_wrong 14 = .ok (.ifCond .eq 10, 3) := by decide +kernel
theorem dX12_wrong_17 : decode cX12_wrong 17 = .ok (.iload_n 3, 1) := by decide +kernel
theorem dX12_wrong_18 : decode cX12_wrong 18 = .ok (.invokestatic 142, 3) := by decide +kernel
theorem dX12_wrong_21 : decode cX12_wrong 21 = .ok (.ifCond .ne 6, 3) := by decide +kernel
theorem dX12_wrong_24 : decode cX12_wrong 24 = .ok (.bipush (-2), 2) := by decide +kernel
theorem dX12_wrong_26 : decode cX12_wrong 26 = .ok (.ireturn, 1) := by decide +kernel
theorem dX12_wrong_27 : decode cX12_wrong 27 = .ok (.iload 4, 2) := by decide +kernel
theorem dX12_wrong_29 : decode cX12_wrong 29 = .ok (.invokestatic 146, 3) := by decide +kernel
theorem dX12_wrong_32 : decode cX12_wrong 32 = .ok (.ifCond .eq 22, 3) := by decide +kernel
theorem dX12_wrong_35 : decode cX12_wrong 35 = .ok (.iload 5, 2) := by decide +kernel
theorem dX12_wrong_37 : decode cX12_wrong 37 = .ok (.invokestatic 146, 3) := by decide +kernel
theorem dX12_wrong_40 : decode cX12_wrong 40 = .ok (.ifCond .eq 14, 3) := by decide +kernel
theorem dX12_wrong_43 : decode cX12_wrong 43 = .ok (.iload 4, 2) := by decide +kernel
theorem dX12_wrong_45 : decode cX12_wrong 45 = .ok (.iload 5, 2) := by decide +kernel
theorem dX12_wrong_47 : decode cX12_wrong 47 = .ok (.if_icmp .gt 7, 3) := by decide +kernel
theorem dX12_wrong_50 : decode cX12_wrong 50 = .ok (.iconst 1, 1) := by decide +kernel
theorem dX12_wrong_51 : decode cX12_wrong 51 = .ok (.goto 5, 3) := by decide +kernel
theorem dX12_wrong_54 : decode cX12_wrong 54 = .ok (.bipush (-3), 2) := by decide +kernel
theorem dX12_wrong_56 : decode cX12_wrong 56 = .ok (.ireturn, 1) := by decide +kernel
theorem dX12_way_0 : decode cX12_way 0 = .ok (.aload_n 0, 1) := by decide +kernel
theorem dX12_way_1 : decode cX12_way 1 = .ok (.iload_n 1, 1) := by decide +kernel
theorem dX12_way_2 : decode cX12_way 2 = .ok (.iload_n 2, 1) := by decide +kernel
theorem dX12_way_3 : decode cX12_way 3 = .ok (.iload_n 3, 1) := by decide +kernel
theorem dX12_way_4 : decode cX12_way 4 = .ok (.iload 4, 2) := by decide +kernel
theorem dX12_way_6 : decode cX12_way 6 = .ok (.iload 5, 2) := by decide +kernel
theorem dX12_way_8 : decode cX12_way 8 = .ok (.invokevirtual 233, 3) := by decide +kernel
theorem dX12_way_11 : decode cX12_way 11 = .ok (.istore 6, 2) := by decide +kernel
theorem dX12_way_13 : decode cX12_way 13 = .ok (.iload 6, 2) := by decide +kernel
theorem dX12_way_15 : decode cX12_way 15 = .ok (.iconst 1, 1) := by decide +kernel
theorem dX12_way_16 : decode cX12_way 16 = .ok (.if_icmp .eq 6, 3) := by decide +kernel
theorem dX12_way_19 : decode cX12_way 19 = .ok (.iload 6, 2) := by decide +kernel
theorem dX12_way_21 : decode cX12_way 21 = .ok (.ireturn, 1) := by decide +kernel
theorem dX12_way_22 : decode cX12_way 22 = .ok (.aload_n 0, 1) := by decide +kernel
theorem dX12_way_23 : decode cX12_way 23 = .ok (.iload_n 1, 1) := by decide +kernel
theorem dX12_way_24 : decode cX12_way 24 = .ok (.iload_n 2, 1) := by decide +kernel
theorem dX12_way_25 : decode cX12_way 25 = .ok (.iload_n 3, 1) := by decide +kernel
theorem dX12_way_26 : decode cX12_way 26 = .ok (.iload 4, 2) := by decide +kernel
theorem dX12_way_28 : decode cX12_way 28 = .ok (.iload 5, 2) := by decide +kernel
theorem dX12_way_30 : decode cX12_way 30 = .ok (.invokevirtual 236, 3) := by decide +kernel
theorem dX12_way_33 : decode cX12_way 33 = .ok (.ifCond .ne 5, 3) := by decide +kernel
theorem dX12_way_36 : decode cX12_way 36 = .ok (.iconst (-1), 1) := by decide +kernel
theorem dX12_way_37 : decode cX12_way 37 = .ok (.ireturn, 1) := by decide +kernel
theorem dX12_way_38 : decode cX12_way 38 = .ok (.aload_n 0, 1) := by decide +kernel
theorem dX12_way_39 : decode cX12_way 39 = .ok (.getfield 93, 3) := by decide +kernel
theorem dX12_way_42 : decode cX12_way 42 = .ok (.sipush 808, 3) := by decide +kernel
theorem dX12_way_45 : decode cX12_way 45 = .ok (.aload_n 0, 1) := by decide +kernel
theorem dX12_way_46 : decode cX12_way 46 = .ok (.getfield 55, 3) := by decide +kernel
theorem dX12_way_49 : decode cX12_way 49 = .ok (.iload_n 1, 1) := by decide +kernel
theorem dX12_way_50 : decode cX12_way 50 = .ok (.iaload, 1) := by decide +kernel
theorem dX12_way_51 : decode cX12_way 51 = .ok (.iadd, 1) := by decide +kernel
theorem dX12_way_52 : decode cX12_way 52 = .ok (.iaload, 1) := by decide +kernel
theorem dX12_way_53 : decode cX12_way 53 = .ok (.istore 7, 2) := by decide +kernel
theorem dX12_way_55 : decode cX12_way 55 = .ok (.iload 7, 2) := by decide +kernel
theorem dX12_way_57 : decode cX12_way 57 = .ok (.sipush 1000, 3) := by decide +kernel
theorem dX12_way_60 : decode cX12_way 60 = .ok (.idiv, 1) := by decide +kernel
theorem dX12_way_61 : decode cX12_way 61 = .ok (.bipush 100, 2) := by decide +kernel
theorem dX12_way_63 : decode cX12_way 63 = .ok (.imul, 1) := by decide +kernel
theorem dX12_way_64 : decode cX12_way 64 = .ok (.iload 7, 2) := by decide +kernel
theorem dX12_way_66 : decode cX12_way 66 = .ok (.sipush 1000, 3) := by decide +kernel
theorem dX12_way_69 : decode cX12_way 69 = .ok (.irem, 1) := by decide +kernel
theorem dX12_way_70 : decode cX12_way 70 = .ok (.iadd, 1) := by decide +kernel
theorem dX12_way_71 : decode cX12_way 71 = .ok (.ireturn, 1) := by decide +kernel
theorem dX12_step_0 : decode cX12_step 0 = .ok (.aload_n 0, 1) := by decide +kernel
theorem dX12_step_1 : decode cX12_step 1 = .ok (.iload_n 1, 1) := by decide +kernel
theorem dX12_step_2 : decode cX12_step 2 = .ok (.iload_n 2, 1) := by decide +kernel
theorem dX12_step_3 : decode cX12_step 3 = .ok (.iload_n 3, 1) := by decide +kernel
theorem dX12_step_4 : decode cX12_step 4 = .ok (.iload 4, 2) := by decide +kernel
theorem dX12_step_6 : decode cX12_step 6 = .ok (.iload 5, 2) := by decide +kernel
theorem dX12_step_8 : decode cX12_step 8 = .ok (.invokevirtual 233, 3) := by decide +kernel
theorem dX12_step_11 : decode cX12_step 11 = .ok (.istore 7, 2) := by decide +kernel
theorem dX12_step_13 : decode cX12_step 13 = .ok (.iload 7, 2) := by decide +kernel
theorem dX12_step_15 : decode cX12_step 15 = .ok (.iconst 1, 1) := by decide +kernel
theorem dX12_step_16 : decode cX12_step 16 = .ok (.if_icmp .eq 6, 3) := by decide +kernel
theorem dX12_step_19 : decode cX12_step 19 = .ok (.iload 7, 2) := by decide +kernel
theorem dX12_step_21 : decode cX12_step 21 = .ok (.ireturn, 1) := by decide +kernel
theorem dX12_step_22 : decode cX12_step 22 = .ok (.iload 6, 2) := by decide +kernel
theorem dX12_step_24 : decode cX12_step 24 = .ok (.ifCond .ge 6, 3) := by decide +kernel
theorem dX12_step_27 : decode cX12_step 27 = .ok (.bipush (-3), 2) := by decide +kernel
theorem dX12_step_29 : decode cX12_step 29 = .ok (.ireturn, 1) := by decide +kernel
theorem dX12_step_30 : decode cX12_step 30 = .ok (.aload_n 0, 1) := by decide +kernel
theorem dX12_step_31 : decode cX12_step 31 = .ok (.iload_n 1, 1) := by decide +kernel
theorem dX12_step_32 : decode cX12_step 32 = .ok (.iload_n 2, 1) := by decide +kernel
theorem dX12_step_33 : decode cX12_step 33 = .ok (.iload_n 3, 1) := by decide +kernel
theorem dX12_step_34 : decode cX12_step 34 = .ok (.iload 4, 2) := by decide +kernel
theorem dX12_step_36 : decode cX12_step 36 = .ok (.iload 5, 2) := by decide +kernel
theorem dX12_step_38 : decode cX12_step 38 = .ok (.invokevirtual 236, 3) := by decide +kernel
theorem dX12_step_41 : decode cX12_step 41 = .ok (.ifCond .eq 22, 3) := by decide +kernel
theorem dX12_step_44 : decode cX12_step 44 = .ok (.iload 6, 2) := by decide +kernel
theorem dX12_step_46 : decode cX12_step 46 = .ok (.aload_n 0, 1) := by decide +kernel
theorem dX12_step_47 : decode cX12_step 47 = .ok (.getfield 230, 3) := by decide +kernel
theorem dX12_step_50 : decode cX12_step 50 = .ok (.if_icmp .ge 13, 3) := by decide +kernel
theorem dX12_step_53 : decode cX12_step 53 = .ok (.aload_n 0, 1) := by decide +kernel
theorem dX12_step_54 : decode cX12_step 54 = .ok (.getfield 105, 3) := by decide +kernel
theorem dX12_step_57 : decode cX12_step 57 = .ok (.iload 6, 2) := by decide +kernel
theorem dX12_step_59 : decode cX12_step 59 = .ok (.iaload, 1) := by decide +kernel
theorem dX12_step_60 : decode cX12_step 60 = .ok (.goto 4, 3) := by decide +kernel
theorem dX12_step_63 : decode cX12_step 63 = .ok (.iconst (-1), 1) := by decide +kernel
theorem dX12_step_64 : decode cX12_step 64 = .ok (.ireturn, 1) := by decide +kernel
theorem dX12_go_0 : decode cX12_go 0 = .ok (.aload_n 0, 1) := by decide +kernel
theorem dX12_go_1 : decode cX12_go 1 = .ok (.iload_n 1, 1) := by decide +kernel
theorem dX12_go_2 : decode cX12_go 2 = .ok (.iload_n 2, 1) := by decide +kernel
theorem dX12_go_3 : decode cX12_go 3 = .ok (.iload_n 3, 1) := by decide +kernel
theorem dX12_go_4 : decode cX12_go 4 = .ok (.iload 4, 2) := by decide +kernel
theorem dX12_go_6 : decode cX12_go 6 = .ok (.iload 5, 2) := by decide +kernel
theorem dX12_go_8 : decode cX12_go 8 = .ok (.invokevirtual 233, 3) := by decide +kernel
theorem dX12_go_11 : decode cX12_go 11 = .ok (.istore 6, 2) := by decide +kernel
theorem dX12_go_13 : decode cX12_go 13 = .ok (.iload 6, 2) := by decide +kernel
theorem dX12_go_15 : decode cX12_go 15 = .ok (.iconst 1, 1) := by decide +kernel
theorem dX12_go_16 : decode cX12_go 16 = .ok (.if_icmp .eq 6, 3) := by decide +kernel
theorem dX12_go_19 : decode cX12_go 19 = .ok (.iload 6, 2) := by decide +kernel
theorem dX12_go_21 : decode cX12_go 21 = .ok (.ireturn, 1) := by decide +kernel
theorem dX12_go_22 : decode cX12_go 22 = .ok (.aload_n 0, 1) := by decide +kernel
theorem dX12_go_23 : decode cX12_go 23 = .ok (.iload_n 1, 1) := by decide +kernel
theorem dX12_go_24 : decode cX12_go 24 = .ok (.iload_n 2, 1) := by decide +kernel
theorem dX12_go_25 : decode cX12_go 25 = .ok (.iload_n 3, 1) := by decide +kernel
theorem dX12_go_26 : decode cX12_go 26 = .ok (.iload 4, 2) := by decide +kernel
theorem dX12_go_28 : decode cX12_go 28 = .ok (.iload 5, 2) := by decide +kernel
theorem dX12_go_30 : decode cX12_go 30 = .ok (.invokevirtual 236, 3) := by decide +kernel
theorem dX12_go_33 : decode cX12_go 33 = .ok (.ifCond .ne 6, 3) := by decide +kernel
theorem dX12_go_36 : decode cX12_go 36 = .ok (.bipush (-4), 2) := by decide +kernel
theorem dX12_go_38 : decode cX12_go 38 = .ok (.ireturn, 1) := by decide +kernel
theorem dX12_go_39 : decode cX12_go 39 = .ok (.iconst 0, 1) := by decide +kernel
theorem dX12_go_40 : decode cX12_go 40 = .ok (.istore 7, 2) := by decide +kernel
theorem dX12_go_42 : decode cX12_go 42 = .ok (.iconst 1, 1) := by decide +kernel
theorem dX12_go_43 : decode cX12_go 43 = .ok (.istore 8, 2) := by decide +kernel
theorem dX12_go_45 : decode cX12_go 45 = .ok (.iconst 0, 1) := by decide +kernel
theorem dX12_go_46 : decode cX12_go 46 = .ok (.istore 9, 2) := by decide +kernel
theorem dX12_go_48 : decode cX12_go 48 = .ok (.iload 9, 2) := by decide +kernel
theorem dX12_go_50 : decode cX12_go 50 = .ok (.aload_n 0, 1) := by decide +kernel
theorem dX12_go_51 : decode cX12_go 51 = .ok (.getfield 230, 3) := by decide +kernel
theorem dX12_go_54 : decode cX12_go 54 = .ok (.if_icmp .ge 81, 3) := by decide +kernel
theorem dX12_go_57 : decode cX12_go 57 = .ok (.iload 8, 2) := by decide +kernel
theorem dX12_go_59 : decode cX12_go 59 = .ok (.ifCond .eq 76, 3) := by decide +kernel
theorem dX12_go_62 : decode cX12_go 62 = .ok (.aload_n 0, 1) := by decide +kernel
theorem dX12_go_63 : decode cX12_go 63 = .ok (.getfield 105, 3) := by decide +kernel
theorem dX12_go_66 : decode cX12_go 66 = .ok (.iload 9, 2) := by decide +kernel
theorem dX12_go_68 : decode cX12_go 68 = .ok (.iaload, 1) := by decide +kernel
theorem dX12_go_69 : decode cX12_go 69 = .ok (.bipush 8, 2) := by decide +kernel
theorem dX12_go_71 : decode cX12_go 71 = .ok (.if_icmp .ne 19, 3) := by decide +kernel
theorem dX12_go_74 : decode cX12_go 74 = .ok (.aload_n 0, 1) := by decide +kernel
theorem dX12_go_75 : decode cX12_go 75 = .ok (.iload_n 1, 1) := by decide +kernel
theorem dX12_go_76 : decode cX12_go 76 = .ok (.invokevirtual 240, 3) := by decide +kernel
theorem dX12_go_79 : decode cX12_go 79 = .ok (.ifCond .lt 7, 3) := by decide +kernel
theorem dX12_go_82 : decode cX12_go 82 = .ok (.iconst 1, 1) := by decide +kernel
theorem dX12_go_83 : decode cX12_go 83 = .ok (.goto 29, 3) := by decide +kernel
theorem dX12_go_86 : decode cX12_go 86 = .ok (.iconst 0, 1) := by decide +kernel
theorem dX12_go_87 : decode cX12_go 87 = .ok (.goto 25, 3) := by decide +kernel
theorem dX12_go_90 : decode cX12_go 90 = .ok (.aload_n 0, 1) := by decide +kernel
theorem dX12_go_91 : decode cX12_go 91 = .ok (.iload_n 1, 1) := by decide +kernel
theorem dX12_go_92 : decode cX12_go 92 = .ok (.iload_n 2, 1) := by decide +kernel
theorem dX12_go_93 : decode cX12_go 93 = .ok (.aload_n 0, 1) := by decide +kernel
theorem dX12_go_94 : decode cX12_go 94 = .ok (.getfield 105, 3) := by decide +kernel
theorem dX12_go_97 : decode cX12_go 97 = .ok (.iload 9, 2) := by decide +kernel
theorem dX12_go_99 : decode cX12_go 99 = .ok (.iaload, 1) := by decide +kernel
theorem dX12_go_100 : decode cX12_go 100 = .ok (.iload_n 3, 1) := by decide +kernel
theorem dX12_go_101 : decode cX12_go 101 = .ok (.invokevirtual 243, 3) := by decide +kernel
theorem dX12_go_104 : decode cX12_go 104 = .ok (.ifCond .lt 7, 3) := by decide +kernel
theorem dX12_go_107 : decode cX12_go 107 = .ok (.iconst 1, 1) := by decide +kernel
theorem dX12_go_108 : decode cX12_go 108 = .ok (.goto 4, 3) := by decide +kernel
theorem dX12_go_111 : decode cX12_go 111 = .ok (.iconst 0, 1) := by decide +kernel
theorem dX12_go_112 : decode cX12_go 112 = .ok (.istore 8, 2) := by decide +kernel
theorem dX12_go_114 : decode cX12_go 114 = .ok (.iload 7, 2) := by decide +kernel
theorem dX12_go_116 : decode cX12_go 116 = .ok (.iload 8, 2) := by decide +kernel
theorem dX12_go_118 : decode cX12_go 118 = .ok (.ifCond .eq 7, 3) := by decide +kernel
theorem dX12_go_121 : decode cX12_go 121 = .ok (.iconst 1, 1) := by decide +kernel
theorem dX12_go_122 : decode cX12_go 122 = .ok (.goto 4, 3) := by decide +kernel
theorem dX12_go_125 : decode cX12_go 125 = .ok (.iconst 0, 1) := by decide +kernel
theorem dX12_go_126 : decode cX12_go 126 = .ok (.iadd, 1) := by decide +kernel
theorem dX12_go_127 : decode cX12_go 127 = .ok (.istore 7, 2) := by decide +kernel
theorem dX12_go_129 : decode cX12_go 129 = .ok (.iinc 9 1, 3) := by decide +kernel
theorem dX12_go_132 : decode cX12_go 132 = .ok (.goto (-84), 3) := by decide +kernel
theorem dX12_go_135 : decode cX12_go 135 = .ok (.iload 7, 2) := by decide +kernel
theorem dX12_go_137 : decode cX12_go 137 = .ok (.ireturn, 1) := by decide +kernel
theorem dX12_order_0 : decode cX12_order 0 = .ok (.iload_n 1, 1) := by decide +kernel
theorem dX12_order_1 : decode cX12_order 1 = .ok (.invokestatic 131, 3) := by decide +kernel
theorem dX12_order_4 : decode cX12_order 4 = .ok (.ifCond .ne 6, 3) := by decide +kernel
theorem dX12_order_7 : decode cX12_order 7 = .ok (.bipush (-2), 2) := by decide +kernel
theorem dX12_order_9 : decode cX12_order 9 = .ok (.ireturn, 1) := by decide +kernel
theorem dX12_order_10 : decode cX12_order 10 = .ok (.iload_n 2, 1) := by decide +kernel
theorem dX12_order_11 : decode cX12_order 11 = .ok (.invokestatic 146, 3) := by decide +kernel
theorem dX12_order_14 : decode cX12_order 14 = .ok (.ifCond .eq 27, 3) := by decide +kernel
theorem dX12_order_17 : decode cX12_order 17 = .ok (.iload_n 3, 1) := by decide +kernel
theorem dX12_order_18 : decode cX12_order 18 = .ok (.invokestatic 146, 3) := by decide +kernel
theorem dX12_order_21 : decode cX12_order 21 = .ok (.ifCond .eq 20, 3) := by decide +kernel
theorem dX12_order_24 : decode cX12_order 24 = .ok (.iload_n 2, 1) := by decide +kernel
theorem dX12_order_25 : decode cX12_order 25 = .ok (.iload_n 3, 1) := by decide +kernel
theorem dX12_order_26 : decode cX12_order 26 = .ok (.if_icmp .gt 15, 3) := by decide +kernel
theorem dX12_order_29 : decode cX12_order 29 = .ok (.iload 4, 2) := by decide +kernel
theorem dX12_order_31 : decode cX12_order 31 = .ok (.iconst 1, 1) := by decide +kernel
theorem dX12_order_32 : decode cX12_order 32 = .ok (.sipush 10000, 3) := by decide +kernel
theorem dX12_order_35 : decode cX12_order 35 = .ok (.invokestatic 123, 3) := by decide +kernel
theorem dX12_order_38 : decode cX12_order 38 = .ok (.ifCond .ne 6, 3) := by decide +kernel
theorem dX12_order_41 : decode cX12_order 41 = .ok (.bipush (-3), 2) := by decide +kernel
theorem dX12_order_43 : decode cX12_order 43 = .ok (.ireturn, 1) := by decide +kernel
theorem dX12_order_44 : decode cX12_order 44 = .ok (.aload_n 0, 1) := by decide +kernel
theorem dX12_order_45 : decode cX12_order 45 = .ok (.getfield 246, 3) := by decide +kernel
theorem dX12_order_48 : decode cX12_order 48 = .ok (.bipush 6, 2) := by decide +kernel
theorem dX12_order_50 : decode cX12_order 50 = .ok (.if_icmp .ne 6, 3) := by decide +kernel
theorem dX12_order_53 : decode cX12_order 53 = .ok (.bipush (-8), 2) := by decide +kernel
theorem dX12_order_55 : decode cX12_order 55 = .ok (.ireturn, 1) := by decide +kernel
theorem dX12_order_56 : decode cX12_order 56 = .ok (.aload_n 0, 1) := by decide +kernel
theorem dX12_order_57 : decode cX12_order 57 = .ok (.getfield 72, 3) := by decide +kernel
theorem dX12_order_60 : decode cX12_order 60 = .ok (.aload_n 0, 1) := by decide +kernel
theorem dX12_order_61 : decode cX12_order 61 = .ok (.getfield 246, 3) := by decide +kernel
theorem dX12_order_64 : decode cX12_order 64 = .ok (.iload_n 1, 1) := by decide +kernel
theorem dX12_order_65 : decode cX12_order 65 = .ok (.iastore, 1) := by decide +kernel
theorem dX12_order_66 : decode cX12_order 66 = .ok (.aload_n 0, 1) := by decide +kernel
theorem dX12_order_67 : decode cX12_order 67 = .ok (.getfield 75, 3) := by decide +kernel
theorem dX12_order_70 : decode cX12_order 70 = .ok (.aload_n 0, 1) := by decide +kernel
theorem dX12_order_71 : decode cX12_order 71 = .ok (.getfield 246, 3) := by decide +kernel
theorem dX12_order_74 : decode cX12_order 74 = .ok (.iload_n 2, 1) := by decide +kernel
theorem dX12_order_75 : decode cX12_order 75 = .ok (.iastore, 1) := by decide +kernel
theorem dX12_order_76 : decode cX12_order 76 = .ok (.aload_n 0, 1) := by decide +kernel
theorem dX12_order_77 : decode cX12_order 77 = .ok (.getfield 78, 3) := by decide +kernel
theorem dX12_order_80 : decode cX12_order 80 = .ok (.aload_n 0, 1) := by decide +kernel
theorem dX12_order_81 : decode cX12_order 81 = .ok (.getfield 246, 3) := by decide +kernel
theorem dX12_order_84 : decode cX12_order 84 = .ok (.iload_n 3, 1) := by decide +kernel
theorem dX12_order_85 : decode cX12_order 85 = .ok (.iastore, 1) := by decide +kernel
theorem dX12_order_86 : decode cX12_order 86 = .ok (.aload_n 0, 1) := by decide +kernel
theorem dX12_order_87 : decode cX12_order 87 = .ok (.getfield 81, 3) := by decide +kernel
theorem dX12_order_90 : decode cX12_order 90 = .ok (.aload_n 0, 1) := by decide +kernel
theorem dX12_order_91 : decode cX12_order 91 = .ok (.getfield 246, 3) := by decide +kernel
theorem dX12_order_94 : decode cX12_order 94 = .ok (.iload 4, 2) := by decide +kernel
theorem dX12_order_96 : decode cX12_order 96 = .ok (.iastore, 1) := by decide +kernel
theorem dX12_order_97 : decode cX12_order 97 = .ok (.aload_n 0, 1) := by decide +kernel
theorem dX12_order_98 : decode cX12_order 98 = .ok (.getfield 84, 3) := by decide +kernel
theorem dX12_order_101 : decode cX12_order 101 = .ok (.aload_n 0, 1) := by decide +kernel
theorem dX12_order_102 : decode cX12_order 102 = .ok (.getfield 246, 3) := by decide +kernel
theorem dX12_order_105 : decode cX12_order 105 = .ok (.iconst 0, 1) := by decide +kernel
theorem dX12_order_106 : decode cX12_order 106 = .ok (.bastore, 1) := by decide +kernel
theorem dX12_order_107 : decode cX12_order 107 = .ok (.aload_n 0, 1) := by decide +kernel
theorem dX12_order_108 : decode cX12_order 108 = .ok (.dup, 1) := by decide +kernel
theorem dX12_order_109 : decode cX12_order 109 = .ok (.getfield 246, 3) := by decide +kernel
theorem dX12_order_112 : decode cX12_order 112 = .ok (.iconst 1, 1) := by decide +kernel
theorem dX12_order_113 : decode cX12_order 113 = .ok (.iadd, 1) := by decide +kernel
theorem dX12_order_114 : decode cX12_order 114 = .ok (.putfield 246, 3) := by decide +kernel
theorem dX12_order_117 : decode cX12_order 117 = .ok (.aload_n 0, 1) := by decide +kernel
theorem dX12_order_118 : decode cX12_order 118 = .ok (.getfield 246, 3) := by decide +kernel
theorem dX12_order_121 : decode cX12_order 121 = .ok (.iconst 1, 1) := by decide +kernel
theorem dX12_order_122 : decode cX12_order 122 = .ok (.isub, 1) := by decide +kernel
theorem dX12_order_123 : decode cX12_order 123 = .ok (.ireturn, 1) := by decide +kernel
theorem dX12_mayCut_0 : decode cX12_mayCut 0 = .ok (.aload_n 0, 1) := by decide +kernel
theorem dX12_mayCut_1 : decode cX12_mayCut 1 = .ok (.iload_n 2, 1) := by decide +kernel
theorem dX12_mayCut_2 : decode cX12_mayCut 2 = .ok (.invokevirtual 173, 3) := by decide +kernel
theorem dX12_mayCut_5 : decode cX12_mayCut 5 = .ok (.ifCond .eq 76, 3) := by decide +kernel
theorem dX12_mayCut_8 : decode cX12_mayCut 8 = .ok (.aload_n 0, 1) := by decide +kernel
theorem dX12_mayCut_9 : decode cX12_mayCut 9 = .ok (.getfield 84, 3) := by decide +kernel
theorem dX12_mayCut_12 : decode cX12_mayCut 12 = .ok (.iload_n 1, 1) := by decide +kernel
theorem dX12_mayCut_13 : decode cX12_mayCut 13 = .ok (.baload, 1) := by decide +kernel
theorem dX12_mayCut_14 : decode cX12_mayCut 14 = .ok (.ifCond .ne 67, 3) := by decide +kernel
theorem dX12_mayCut_17 : decode cX12_mayCut 17 = .ok (.aload_n 0, 1) := by decide +kernel
theorem dX12_mayCut_18 : decode cX12_mayCut 18 = .ok (.getfield 49, 3) := by decide +kernel
theorem dX12_mayCut_21 : decode cX12_mayCut 21 = .ok (.iload_n 2, 1) := by decide +kernel
theorem dX12_mayCut_22 : decode cX12_mayCut 22 = .ok (.iaload, 1) := by decide +kernel
theorem dX12_mayCut_23 : decode cX12_mayCut 23 = .ok (.aload_n 0, 1) := by decide +kernel
theorem dX12_mayCut_24 : decode cX12_mayCut 24 = .ok (.getfield 72, 3) := by decide +kernel
theorem dX12_mayCut_27 : decode cX12_mayCut 27 = .ok (.iload_n 1, 1) := by decide +kernel
theorem dX12_mayCut_28 : decode cX12_mayCut 28 = .ok (.iaload, 1) := by decide +kernel
theorem dX12_mayCut_29 : decode cX12_mayCut 29 = .ok (.if_icmp .ne 52, 3) := by decide +kernel
theorem dX12_mayCut_32 : decode cX12_mayCut 32 = .ok (.aload_n 0, 1) := by decide +kernel
theorem dX12_mayCut_33 : decode cX12_mayCut 33 = .ok (.getfield 52, 3) := by decide +kernel
theorem dX12_mayCut_36 : decode cX12_mayCut 36 = .ok (.iload_n 2, 1) := by decide +kernel
theorem dX12_mayCut_37 : decode cX12_mayCut 37 = .ok (.iaload, 1) := by decide +kernel
theorem dX12_mayCut_38 : decode cX12_mayCut 38 = .ok (.aload_n 0, 1) := by decide +kernel
theorem dX12_mayCut_39 : decode cX12_mayCut 39 = .ok (.getfield 75, 3) := by decide +kernel
theorem dX12_mayCut_42 : decode cX12_mayCut 42 = .ok (.iload_n 1, 1) := by decide +kernel
theorem dX12_mayCut_43 : decode cX12_mayCut 43 = .ok (.iaload, 1) := by decide +kernel
theorem dX12_mayCut_44 : decode cX12_mayCut 44 = .ok (.if_icmp .lt 37, 3) := by decide +kernel
theorem dX12_mayCut_47 : decode cX12_mayCut 47 = .ok (.aload_n 0, 1) := by decide +kernel
theorem dX12_mayCut_48 : decode cX12_mayCut 48 = .ok (.getfield 52, 3) := by decide +kernel
theorem dX12_mayCut_51 : decode cX12_mayCut 51 = .ok (.iload_n 2, 1) := by decide +kernel
theorem dX12_mayCut_52 : decode cX12_mayCut 52 = .ok (.iaload, 1) := by decide +kernel
theorem dX12_mayCut_53 : decode cX12_mayCut 53 = .ok (.aload_n 0, 1) := by decide +kernel
theorem dX12_mayCut_54 : decode cX12_mayCut 54 = .ok (.getfield 78, 3) := by decide +kernel
theorem dX12_mayCut_57 : decode cX12_mayCut 57 = .ok (.iload_n 1, 1) := by decide +kernel
theorem dX12_mayCut_58 : decode cX12_mayCut 58 = .ok (.iaload, 1) := by decide +kernel
theorem dX12_mayCut_59 : decode cX12_mayCut 59 = .ok (.if_icmp .gt 22, 3) := by decide +kernel
theorem dX12_mayCut_62 : decode cX12_mayCut 62 = .ok (.aload_n 0, 1) := by decide +kernel
theorem dX12_mayCut_63 : decode cX12_mayCut 63 = .ok (.getfield 114, 3) := by decide +kernel
theorem dX12_mayCut_66 : decode cX12_mayCut 66 = .ok (.iload_n 2, 1) := by decide +kernel
theorem dX12_mayCut_67 : decode cX12_mayCut 67 = .ok (.iaload, 1) := by decide +kernel
theorem dX12_mayCut_68 : decode cX12_mayCut 68 = .ok (.aload_n 0, 1) := by decide +kernel
theorem dX12_mayCut_69 : decode cX12_mayCut 69 = .ok (.getfield 81, 3) := by decide +kernel
theorem dX12_mayCut_72 : decode cX12_mayCut 72 = .ok (.iload_n 1, 1) := by decide +kernel
theorem dX12_mayCut_73 : decode cX12_mayCut 73 = .ok (.iaload, 1) := by decide +kernel
theorem dX12_mayCut_74 : decode cX12_mayCut 74 = .ok (.if_icmp .lt 7, 3) := by decide +kernel
theorem dX12_mayCut_77 : decode cX12_mayCut 77 = .ok (.iconst 1, 1) := by decide +kernel
theorem dX12_mayCut_78 : decode cX12_mayCut 78 = .ok (.goto 4, 3) := by decide +kernel
theorem dX12_mayCut_81 : decode cX12_mayCut 81 = .ok (.iconst 0, 1) := by decide +kernel
theorem dX12_mayCut_82 : decode cX12_mayCut 82 = .ok (.ireturn, 1) := by decide +kernel
theorem dX12_findCutting_0 : decode cX12_findCutting 0 = .ok (.iconst 0, 1) := by decide +kernel
theorem dX12_findCutting_1 : decode cX12_findCutting 1 = .ok (.istore_n 1, 1) := by decide +kernel
theorem dX12_findCutting_2 : decode cX12_findCutting 2 = .ok (.iconst 0, 1) := by decide +kernel
theorem dX12_findCutting_3 : decode cX12_findCutting 3 = .ok (.istore_n 2, 1) := by decide +kernel
theorem dX12_findCutting_4 : decode cX12_findCutting 4 = .ok (.iload_n 2, 1) := by decide +kernel
theorem dX12_findCutting_5 : decode cX12_findCutting 5 = .ok (.aload_n 0, 1) := by decide +kernel
theorem dX12_findCutting_6 : decode cX12_findCutting 6 = .ok (.getfield 246, 3) := by decide +kernel
theorem dX12_findCutting_9 : decode cX12_findCutting 9 = .ok (.if_icmp .ge 45, 3) := by decide +kernel
theorem dX12_findCutting_12 : decode cX12_findCutting 12 = .ok (.aload_n 0, 1) := by decide +kernel
theorem dX12_findCutting_13 : decode cX12_findCutting 13 = .ok (.getfield 111, 3) := by decide +kernel
theorem dX12_findCutting_16 : decode cX12_findCutting 16 = .ok (.iload_n 2, 1) := by decide +kernel
theorem dX12_findCutting_17 : decode cX12_findCutting 17 = .ok (.iconst (-1), 1) := by decide +kernel
theorem dX12_findCutting_18 : decode cX12_findCutting 18 = .ok (.iastore, 1) := by decide +kernel
theorem dX12_findCutting_19 : decode cX12_findCutting 19 = .ok (.iload_n 1, 1) := by decide +kernel
theorem dX12_findCutting_20 : decode cX12_findCutting 20 = .ok (.aload_n 0, 1) := by decide +kernel
theorem dX12_findCutting_21 : decode cX12_findCutting 21 = .ok (.getfield 84, 3) := by decide +kernel
theorem dX12_findCutting_24 : decode cX12_findCutting 24 = .ok (.iload_n 2, 1) := by decide +kernel
theorem dX12_findCutting_25 : decode cX12_findCutting 25 = .ok (.baload, 1) := by decide +kernel
theorem dX12_findCutting_26 : decode cX12_findCutting 26 = .ok (.ifCond .eq 7, 3) := by decide +kernel
theorem dX12_findCutting_29 : decode cX12_findCutting 29 = .ok (.iconst 0, 1) := by decide +kernel
theorem dX12_findCutting_30 : decode cX12_findCutting 30 = .ok (.goto 9, 3) := by decide +kernel
theorem dX12_findCutting_33 : decode cX12_findCutting 33 = .ok (.aload_n 0, 1) := by decide +kernel
theorem dX12_findCutting_34 : decode cX12_findCutting 34 = .ok (.getfield 81, 3) := by decide +kernel
theorem dX12_findCutting_37 : decode cX12_findCutting 37 = .ok (.iload_n 2, 1) := by decide +kernel
theorem dX12_findCutting_38 : decode cX12_findCutting 38 = .ok (.iaload, 1) := by decide +kernel
theorem dX12_findCutting_39 : decode cX12_findCutting 39 = .ok (.iadd, 1) := by decide +kernel
theorem dX12_findCutting_40 : decode cX12_findCutting 40 = .ok (.istore_n 1, 1) := by decide +kernel
theorem dX12_findCutting_41 : decode cX12_findCutting 41 = .ok (.aload_n 0, 1) := by decide +kernel
theorem dX12_findCutting_42 : decode cX12_findCutting 42 = .ok (.getfield 108, 3) := by decide +kernel
theorem dX12_findCutting_45 : decode cX12_findCutting 45 = .ok (.iload_n 2, 1) := by decide +kernel
theorem dX12_findCutting_46 : decode cX12_findCutting 46 = .ok (.iconst (-1), 1) := by decide +kernel
theorem dX12_findCutting_47 : decode cX12_findCutting 47 = .ok (.iastore, 1) := by decide +kernel
theorem dX12_findCutting_48 : decode cX12_findCutting 48 = .ok (.iinc 2 1, 3) := by decide +kernel
theorem dX12_findCutting_51 : decode cX12_findCutting 51 = .ok (.goto (-47), 3) := by decide +kernel
theorem dX12_findCutting_54 : decode cX12_findCutting 54 = .ok (.iconst 0, 1) := by decide +kernel
theorem dX12_findCutting_55 : decode cX12_findCutting 55 = .ok (.istore_n 2, 1) := by decide +kernel
theorem dX12_findCutting_56 : decode cX12_findCutting 56 = .ok (.iload_n 2, 1) := by decide +kernel
theorem dX12_findCutting_57 : decode cX12_findCutting 57 = .ok (.bipush 16, 2) := by decide +kernel
theorem dX12_findCutting_59 : decode cX12_findCutting 59 = .ok (.if_icmp .ge 50, 3) := by decide +kernel
theorem dX12_findCutting_62 : decode cX12_findCutting 62 = .ok (.aload_n 0, 1) := by decide +kernel
theorem dX12_findCutting_63 : decode cX12_findCutting 63 = .ok (.getfield 114, 3) := by decide +kernel
theorem dX12_findCutting_66 : decode cX12_findCutting 66 = .ok (.iload_n 2, 1) := by decide +kernel
theorem dX12_findCutting_67 : decode cX12_findCutting 67 = .ok (.iload_n 2, 1) := by decide +kernel
theorem dX12_findCutting_68 : decode cX12_findCutting 68 = .ok (.aload_n 0, 1) := by decide +kernel
theorem dX12_findCutting_69 : decode cX12_findCutting 69 = .ok (.getfield 127, 3) := by decide +kernel
theorem dX12_findCutting_72 : decode cX12_findCutting 72 = .ok (.if_icmp .ge 22, 3) := by decide +kernel
theorem dX12_findCutting_75 : decode cX12_findCutting 75 = .ok (.aload_n 0, 1) := by decide +kernel
theorem dX12_findCutting_76 : decode cX12_findCutting 76 = .ok (.getfield 58, 3) := by decide +kernel
theorem dX12_findCutting_79 : decode cX12_findCutting 79 = .ok (.iload_n 2, 1) := by decide +kernel
theorem dX12_findCutting_80 : decode cX12_findCutting 80 = .ok (.laload, 1) := by decide +kernel
theorem dX12_findCutting_81 : decode cX12_findCutting 81 = .ok (.lconst 0, 1) := by decide +kernel
theorem dX12_findCutting_82 : decode cX12_findCutting 82 = .ok (.lcmp, 1) := by decide +kernel
theorem dX12_findCutting_83 : decode cX12_findCutting 83 = .ok (.ifCond .le 11, 3) := by decide +kernel
theorem dX12_findCutting_86 : decode cX12_findCutting 86 = .ok (.aload_n 0, 1) := by decide +kernel
theorem dX12_findCutting_87 : decode cX12_findCutting 87 = .ok (.iload_n 2, 1) := by decide +kernel
theorem dX12_findCutting_88 : decode cX12_findCutting 88 = .ok (.invokevirtual 167, 3) := by decide +kernel
theorem dX12_findCutting_91 : decode cX12_findCutting 91 = .ok (.goto 4, 3) := by decide +kernel
theorem dX12_findCutting_94 : decode cX12_findCutting 94 = .ok (.iconst 0, 1) := by decide +kernel
theorem dX12_findCutting_95 : decode cX12_findCutting 95 = .ok (.iastore, 1) := by decide +kernel
theorem dX12_findCutting_96 : decode cX12_findCutting 96 = .ok (.aload_n 0, 1) := by decide +kernel
theorem dX12_findCutting_97 : decode cX12_findCutting 97 = .ok (.getfield 117, 3) := by decide +kernel
theorem dX12_findCutting_100 : decode cX12_findCutting 100 = .ok (.iload_n 2, 1) := by decide +kernel
theorem dX12_findCutting_101 : decode cX12_findCutting 101 = .ok (.iconst 0, 1) := by decide +kernel
theorem dX12_findCutting_102 : decode cX12_findCutting 102 = .ok (.iastore, 1) := by decide +kernel
theorem dX12_findCutting_103 : decode cX12_findCutting 103 = .ok (.iinc 2 1, 3) := by decide +kernel
theorem dX12_findCutting_106 : decode cX12_findCutting 106 = .ok (.goto (-50), 3) := by decide +kernel
theorem dX12_findCutting_109 : decode cX12_findCutting 109 = .ok (.aload_n 0, 1) := by decide +kernel
theorem dX12_findCutting_110 : decode cX12_findCutting 110 = .ok (.iconst (-1), 1) := by decide +kernel
theorem dX12_findCutting_111 : decode cX12_findCutting 111 = .ok (.putfield 249, 3) := by decide +kernel
theorem dX12_findCutting_114 : decode cX12_findCutting 114 = .ok (.aload_n 0, 1) := by decide +kernel
theorem dX12_findCutting_115 : decode cX12_findCutting 115 = .ok (.iconst 0, 1) := by decide +kernel
theorem dX12_findCutting_116 : decode cX12_findCutting 116 = .ok (.putfield 252, 3) := by decide +kernel
theorem dX12_findCutting_119 : decode cX12_findCutting 119 = .ok (.iconst 0, 1) := by decide +kernel
theorem dX12_findCutting_120 : decode cX12_findCutting 120 = .ok (.istore_n 2, 1) := by decide +kernel
theorem dX12_findCutting_121 : decode cX12_findCutting 121 = .ok (.iconst 0, 1) := by decide +kernel
theorem dX12_findCutting_122 : decode cX12_findCutting 122 = .ok (.istore_n 3, 1) := by decide +kernel
theorem dX12_findCutting_123 : decode cX12_findCutting 123 = .ok (.iconst 0, 1) := by decide +kernel
theorem dX12_findCutting_124 : decode cX12_findCutting 124 = .ok (.istore 4, 2) := by decide +kernel
theorem dX12_findCutting_126 : decode cX12_findCutting 126 = .ok (.iload 4, 2) := by decide +kernel
theorem dX12_findCutting_128 : decode cX12_findCutting 128 = .ok (.ifCond .lt 449, 3) := by decide +kernel
theorem dX12_findCutting_131 : decode cX12_findCutting 131 = .ok (.iload 4, 2) := by decide +kernel
theorem dX12_findCutting_133 : decode cX12_findCutting 133 = .ok (.aload_n 0, 1) := by decide +kernel
theorem dX12_findCutting_134 : decode cX12_findCutting 134 = .ok (.getfield 246, 3) := by decide +kernel
theorem dX12_findCutting_137 : decode cX12_findCutting 137 = .ok (.if_icmp .ne 7, 3) := by decide +kernel
theorem dX12_findCutting_140 : decode cX12_findCutting 140 = .ok (.iconst 1, 1) := by decide +kernel
theorem dX12_findCutting_141 : decode cX12_findCutting 141 = .ok (.goto 4, 3) := by decide +kernel
theorem dX12_findCutting_144 : decode cX12_findCutting 144 = .ok (.iconst 0, 1) := by decide +kernel
theorem dX12_findCutting_145 : decode cX12_findCutting 145 = .ok (.istore 5, 2) := by decide +kernel
theorem dX12_findCutting_147 : decode cX12_findCutting 147 = .ok (.iload 5, 2) := by decide +kernel
theorem dX12_findCutting_149 : decode cX12_findCutting 149 = .ok (.ifCond .eq 88, 3) := by decide +kernel
theorem dX12_findCutting_152 : decode cX12_findCutting 152 = .ok (.iload_n 2, 1) := by decide +kernel
theorem dX12_findCutting_153 : decode cX12_findCutting 153 = .ok (.aload_n 0, 1) := by decide +kernel
theorem dX12_findCutting_154 : decode cX12_findCutting 154 = .ok (.getfield 249, 3) := by decide +kernel
theorem dX12_findCutting_157 : decode cX12_findCutting 157 = .ok (.if_icmp .gt 19, 3) := by decide +kernel
theorem dX12_findCutting_160 : decode cX12_findCutting 160 = .ok (.iload_n 2, 1) := by decide +kernel
theorem dX12_findCutting_161 : decode cX12_findCutting 161 = .ok (.aload_n 0, 1) := by decide +kernel
theorem dX12_findCutting_162 : decode cX12_findCutting 162 = .ok (.getfield 249, 3) := by decide +kernel
theorem dX12_findCutting_165 : decode cX12_findCutting 165 = .ok (.if_icmp .ne 394, 3) := by decide +kernel
theorem dX12_findCutting_168 : decode cX12_findCutting 168 = .ok (.iload_n 3, 1) := by decide +kernel
theorem dX12_findCutting_169 : decode cX12_findCutting 169 = .ok (.aload_n 0, 1) := by decide +kernel
theorem dX12_findCutting_170 : decode cX12_findCutting 170 = .ok (.getfield 252, 3) := by decide +kernel
theorem dX12_findCutting_173 : decode cX12_findCutting 173 = .ok (.if_icmp .ge 386, 3) := by decide +kernel
theorem dX12_findCutting_176 : decode cX12_findCutting 176 = .ok (.aload_n 0, 1) := by decide +kernel
theorem dX12_findCutting_177 : decode cX12_findCutting 177 = .ok (.iload_n 2, 1) := by decide +kernel
theorem dX12_findCutting_178 : decode cX12_findCutting 178 = .ok (.putfield 249, 3) := by decide +kernel
theorem dX12_findCutting_181 : decode cX12_findCutting 181 = .ok (.aload_n 0, 1) := by decide +kernel
theorem dX12_findCutting_182 : decode cX12_findCutting 182 = .ok (.iload_n 3, 1) := by decide +kernel
theorem dX12_findCutting_183 : decode cX12_findCutting 183 = .ok (.putfield 252, 3) := by decide +kernel
theorem dX12_findCutting_186 : decode cX12_findCutting 186 = .ok (.iconst 0, 1) := by decide +kernel
theorem dX12_findCutting_187 : decode cX12_findCutting 187 = .ok (.istore 6, 2) := by decide +kernel
theorem dX12_findCutting_189 : decode cX12_findCutting 189 = .ok (.iload 6, 2) := by decide +kernel
theorem dX12_findCutting_191 : decode cX12_findCutting 191 = .ok (.aload_n 0, 1) := by decide +kernel
theorem dX12_findCutting_192 : decode cX12_findCutting 192 = .ok (.getfield 246, 3) := by decide +kernel
theorem dX12_findCutting_195 : decode cX12_findCutting 195 = .ok (.if_icmp .ge 39, 3) := by decide +kernel
theorem dX12_findCutting_198 : decode cX12_findCutting 198 = .ok (.aload_n 0, 1) := by decide +kernel
theorem dX12_findCutting_199 : decode cX12_findCutting 199 = .ok (.getfield 111, 3) := by decide +kernel
theorem dX12_findCutting_202 : decode cX12_findCutting 202 = .ok (.iload 6, 2) := by decide +kernel
theorem dX12_findCutting_204 : decode cX12_findCutting 204 = .ok (.aload_n 0, 1) := by decide +kernel
theorem dX12_findCutting_205 : decode cX12_findCutting 205 = .ok (.getfield 108, 3) := by decide +kernel
theorem dX12_findCutting_208 : decode cX12_findCutting 208 = .ok (.iload 6, 2) := by decide +kernel
theorem dX12_findCutting_210 : decode cX12_findCutting 210 = .ok (.iaload, 1) := by decide +kernel
theorem dX12_findCutting_211 : decode cX12_findCutting 211 = .ok (.bipush 16, 2) := by decide +kernel
theorem dX12_findCutting_213 : decode cX12_findCutting 213 = .ok (.if_icmp .ne 7, 3) := by decide +kernel
theorem dX12_findCutting_216 : decode cX12_findCutting 216 = .ok (.iconst (-1), 1) := by decide +kernel
theorem dX12_findCutting_217 : decode cX12_findCutting 217 = .ok (.goto 10, 3) := by decide +kernel
theorem dX12_findCutting_220 : decode cX12_findCutting 220 = .ok (.aload_n 0, 1) := by decide +kernel
theorem dX12_findCutting_221 : decode cX12_findCutting 221 = .ok (.getfield 108, 3) := by decide +kernel
theorem dX12_findCutting_224 : decode cX12_findCutting 224 = .ok (.iload 6, 2) := by decide +kernel
theorem dX12_findCutting_226 : decode cX12_findCutting 226 = .ok (.iaload, 1) := by decide +kernel
theorem dX12_findCutting_227 : decode cX12_findCutting 227 = .ok (.iastore, 1) := by decide +kernel
theorem dX12_findCutting_228 : decode cX12_findCutting 228 = .ok (.iinc 6 1, 3) := by decide +kernel
theorem dX12_findCutting_231 : decode cX12_findCutting 231 = .ok (.goto (-42), 3) := by decide +kernel
theorem dX12_findCutting_234 : decode cX12_findCutting 234 = .ok (.goto 325, 3) := by decide +kernel
theorem dX12_findCutting_237 : decode cX12_findCutting 237 = .ok (.aload_n 0, 1) := by decide +kernel
theorem dX12_findCutting_238 : decode cX12_findCutting 238 = .ok (.getfield 108, 3) := by decide +kernel
theorem dX12_findCutting_241 : decode cX12_findCutting 241 = .ok (.iload 4, 2) := by decide +kernel
theorem dX12_findCutting_243 : decode cX12_findCutting 243 = .ok (.iaload, 1) := by decide +kernel
theorem dX12_findCutting_244 : decode cX12_findCutting 244 = .ok (.istore 6, 2) := by decide +kernel
theorem dX12_findCutting_246 : decode cX12_findCutting 246 = .ok (.iload 6, 2) := by decide +kernel
theorem dX12_findCutting_248 : decode cX12_findCutting 248 = .ok (.ifCond .lt 76, 3) := by decide +kernel
theorem dX12_findCutting_251 : decode cX12_findCutting 251 = .ok (.iload 6, 2) := by decide +kernel
theorem dX12_findCutting_253 : decode cX12_findCutting 253 = .ok (.bipush 16, 2) := by decide +kernel
theorem dX12_findCutting_255 : decode cX12_findCutting 255 = .ok (.if_icmp .ge 69, 3) := by decide +kernel
theorem dX12_findCutting_258 : decode cX12_findCutting 258 = .ok (.aload_n 0, 1) := by decide +kernel
theorem dX12_findCutting_259 : decode cX12_findCutting 259 = .ok (.getfield 114, 3) := by decide +kernel
theorem dX12_findCutting_262 : decode cX12_findCutting 262 = .ok (.iload 6, 2) := by decide +kernel
theorem dX12_findCutting_264 : decode cX12_findCutting 264 = .ok (.dup2, 1) := by decide +kernel
theorem dX12_findCutting_265 : decode cX12_findCutting 265 = .ok (.iaload, 1) := by decide +kernel
theorem dX12_findCutting_266 : decode cX12_findCutting 266 = .ok (.aload_n 0, 1) := by decide +kernel
theorem dX12_findCutting_267 : decode cX12_findCutting 267 = .ok (.getfield 81, 3) := by decide +kernel
theorem dX12_findCutting_270 : decode cX12_findCutting 270 = .ok (.iload 4, 2) := by decide +kernel
theorem dX12_findCutting_272 : decode cX12_findCutting 272 = .ok (.iaload, 1) := by decide +kernel
theorem dX12_findCutting_273 : decode cX12_findCutting 273 = .ok (.iadd, 1) := by decide +kernel
theorem dX12_findCutting_274 : decode cX12_findCutting 274 = .ok (.iastore, 1) := by decide +kernel
theorem dX12_findCutting_275 : decode cX12_findCutting 275 = .ok (.aload_n 0, 1) := by decide +kernel
theorem dX12_findCutting_276 : decode cX12_findCutting 276 = .ok (.getfield 117, 3) := by decide +kernel
theorem dX12_findCutting_279 : decode cX12_findCutting 279 = .ok (.iload 6, 2) := by decide +kernel
theorem dX12_findCutting_281 : decode cX12_findCutting 281 = .ok (.dup2, 1) := by decide +kernel
theorem dX12_findCutting_282 : decode cX12_findCutting 282 = .ok (.iaload, 1) := by decide +kernel
theorem dX12_findCutting_283 : decode cX12_findCutting 283 = .ok (.iconst 1, 1) := by decide +kernel
theorem dX12_findCutting_284 : decode cX12_findCutting 284 = .ok (.isub, 1) := by decide +kernel
theorem dX12_findCutting_285 : decode cX12_findCutting 285 = .ok (.iastore, 1) := by decide +kernel
theorem dX12_findCutting_286 : decode cX12_findCutting 286 = .ok (.iload_n 3, 1) := by decide +kernel
theorem dX12_findCutting_287 : decode cX12_findCutting 287 = .ok (.aload_n 0, 1) := by decide +kernel
theorem dX12_findCutting_288 : decode cX12_findCutting 288 = .ok (.getfield 117, 3) := by decide +kernel
theorem dX12_findCutting_291 : decode cX12_findCutting 291 = .ok (.iload 6, 2) := by decide +kernel
theorem dX12_findCutting_293 : decode cX12_findCutting 293 = .ok (.iaload, 1) := by decide +kernel
theorem dX12_findCutting_294 : decode cX12_findCutting 294 = .ok (.ifCond .ne 7, 3) := by decide +kernel
theorem dX12_findCutting_297 : decode cX12_findCutting 297 = .ok (.iconst 1, 1) := by decide +kernel
theorem dX12_findCutting_298 : decode cX12_findCutting 298 = .ok (.goto 4, 3) := by decide +kernel
theorem dX12_findCutting_301 : decode cX12_findCutting 301 = .ok (.iconst 0, 1) := by decide +kernel
theorem dX12_findCutting_302 : decode cX12_findCutting 302 = .ok (.isub, 1) := by decide +kernel
theorem dX12_findCutting_303 : decode cX12_findCutting 303 = .ok (.istore_n 3, 1) := by decide +kernel
theorem dX12_findCutting_304 : decode cX12_findCutting 304 = .ok (.iload_n 2, 1) := by decide +kernel
theorem dX12_findCutting_305 : decode cX12_findCutting 305 = .ok (.aload_n 0, 1) := by decide +kernel
theorem dX12_findCutting_306 : decode cX12_findCutting 306 = .ok (.getfield 81, 3) := by decide +kernel
theorem dX12_findCutting_309 : decode cX12_findCutting 309 = .ok (.iload 4, 2) := by decide +kernel
theorem dX12_findCutting_311 : decode cX12_findCutting 311 = .ok (.iaload, 1) := by decide +kernel
theorem dX12_findCutting_312 : decode cX12_findCutting 312 = .ok (.isub, 1) := by decide +kernel
theorem dX12_findCutting_313 : decode cX12_findCutting 313 = .ok (.istore_n 2, 1) := by decide +kernel
theorem dX12_findCutting_314 : decode cX12_findCutting 314 = .ok (.iload_n 1, 1) := by decide +kernel
theorem dX12_findCutting_315 : decode cX12_findCutting 315 = .ok (.aload_n 0, 1) := by decide +kernel
theorem dX12_findCutting_316 : decode cX12_findCutting 316 = .ok (.getfield 81, 3) := by decide +kernel
theorem dX12_findCutting_319 : decode cX12_findCutting 319 = .ok (.iload 4, 2) := by decide +kernel
theorem dX12_findCutting_321 : decode cX12_findCutting 321 = .ok (.iaload, 1) := by decide +kernel
theorem dX12_findCutting_322 : decode cX12_findCutting 322 = .ok (.iadd, 1) := by decide +kernel
theorem dX12_findCutting_323 : decode cX12_findCutting 323 = .ok (.istore_n 1, 1) := by decide +kernel
theorem dX12_findCutting_324 : decode cX12_findCutting 324 = .ok (.iload 6, 2) := by decide +kernel
theorem dX12_findCutting_326 : decode cX12_findCutting 326 = .ok (.bipush 16, 2) := by decide +kernel
theorem dX12_findCutting_328 : decode cX12_findCutting 328 = .ok (.if_icmp .ne 27, 3) := by decide +kernel
theorem dX12_findCutting_331 : decode cX12_findCutting 331 = .ok (.iload_n 1, 1) := by decide +kernel
theorem dX12_findCutting_332 : decode cX12_findCutting 332 = .ok (.aload_n 0, 1) := by decide +kernel
theorem dX12_findCutting_333 : decode cX12_findCutting 333 = .ok (.getfield 84, 3) := by decide +kernel
theorem dX12_findCutting_336 : decode cX12_findCutting 336 = .ok (.iload 4, 2) := by decide +kernel
theorem dX12_findCutting_338 : decode cX12_findCutting 338 = .ok (.baload, 1) := by decide +kernel
theorem dX12_findCutting_339 : decode cX12_findCutting 339 = .ok (.ifCond .eq 7, 3) := by decide +kernel
theorem dX12_findCutting_342 : decode cX12_findCutting 342 = .ok (.iconst 0, 1) := by decide +kernel
theorem dX12_findCutting_343 : decode cX12_findCutting 343 = .ok (.goto 10, 3) := by decide +kernel
theorem dX12_findCutting_346 : decode cX12_findCutting 346 = .ok (.aload_n 0, 1) := by decide +kernel
theorem dX12_findCutting_347 : decode cX12_findCutting 347 = .ok (.getfield 81, 3) := by decide +kernel
theorem dX12_findCutting_350 : decode cX12_findCutting 350 = .ok (.iload 4, 2) := by decide +kernel
theorem dX12_findCutting_352 : decode cX12_findCutting 352 = .ok (.iaload, 1) := by decide +kernel
theorem dX12_findCutting_353 : decode cX12_findCutting 353 = .ok (.iadd, 1) := by decide +kernel
theorem dX12_findCutting_354 : decode cX12_findCutting 354 = .ok (.istore_n 1, 1) := by decide +kernel
theorem dX12_findCutting_355 : decode cX12_findCutting 355 = .ok (.iload 6, 2) := by decide +kernel
theorem dX12_findCutting_357 : decode cX12_findCutting 357 = .ok (.iconst 1, 1) := by decide +kernel
theorem dX12_findCutting_358 : decode cX12_findCutting 358 = .ok (.iadd, 1) := by decide +kernel
theorem dX12_findCutting_359 : decode cX12_findCutting 359 = .ok (.istore 7, 2) := by decide +kernel
theorem dX12_findCutting_361 : decode cX12_findCutting 361 = .ok (.iload 7, 2) := by decide +kernel
theorem dX12_findCutting_363 : decode cX12_findCutting 363 = .ok (.bipush 16, 2) := by decide +kernel
theorem dX12_findCutting_365 : decode cX12_findCutting 365 = .ok (.if_icmp .ge 20, 3) := by decide +kernel
theorem dX12_findCutting_368 : decode cX12_findCutting 368 = .ok (.aload_n 0, 1) := by decide +kernel
theorem dX12_findCutting_369 : decode cX12_findCutting 369 = .ok (.iload 4, 2) := by decide +kernel
theorem dX12_findCutting_371 : decode cX12_findCutting 371 = .ok (.iload 7, 2) := by decide +kernel
theorem dX12_findCutting_373 : decode cX12_findCutting 373 = .ok (.invokevirtual 255, 3) := by decide +kernel
theorem dX12_findCutting_376 : decode cX12_findCutting 376 = .ok (.ifCond .ne 9, 3) := by decide +kernel
theorem dX12_findCutting_379 : decode cX12_findCutting 379 = .ok (.iinc 7 1, 3) := by decide +kernel
theorem dX12_findCutting_382 : decode cX12_findCutting 382 = .ok (.goto (-21), 3) := by decide +kernel
theorem dX12_findCutting_385 : decode cX12_findCutting 385 = .ok (.iload_n 2, 1) := by decide +kernel
theorem dX12_findCutting_386 : decode cX12_findCutting 386 = .ok (.iload_n 1, 1) := by decide +kernel
theorem dX12_findCutting_387 : decode cX12_findCutting 387 = .ok (.iadd, 1) := by decide +kernel
theorem dX12_findCutting_388 : decode cX12_findCutting 388 = .ok (.aload_n 0, 1) := by decide +kernel
theorem dX12_findCutting_389 : decode cX12_findCutting 389 = .ok (.getfield 249, 3) := by decide +kernel
theorem dX12_findCutting_392 : decode cX12_findCutting 392 = .ok (.if_icmp .lt 28, 3) := by decide +kernel
theorem dX12_findCutting_395 : decode cX12_findCutting 395 = .ok (.iload_n 2, 1) := by decide +kernel
theorem dX12_findCutting_396 : decode cX12_findCutting 396 = .ok (.iload_n 1, 1) := by decide +kernel
theorem dX12_findCutting_397 : decode cX12_findCutting 397 = .ok (.iadd, 1) := by decide +kernel
theorem dX12_findCutting_398 : decode cX12_findCutting 398 = .ok (.aload_n 0, 1) := by decide +kernel
theorem dX12_findCutting_399 : decode cX12_findCutting 399 = .ok (.getfield 249, 3) := by decide +kernel
theorem dX12_findCutting_402 : decode cX12_findCutting 402 = .ok (.if_icmp .ne 22, 3) := by decide +kernel
theorem dX12_findCutting_405 : decode cX12_findCutting 405 = .ok (.iload_n 3, 1) := by decide +kernel
theorem dX12_findCutting_406 : decode cX12_findCutting 406 = .ok (.aload_n 0, 1) := by decide +kernel
theorem dX12_findCutting_407 : decode cX12_findCutting 407 = .ok (.getfield 252, 3) := by decide +kernel
theorem dX12_findCutting_410 : decode cX12_findCutting 410 = .ok (.if_icmp .lt 14, 3) := by decide +kernel
theorem dX12_findCutting_413 : decode cX12_findCutting 413 = .ok (.aload_n 0, 1) := by decide +kernel
theorem dX12_findCutting_414 : decode cX12_findCutting 414 = .ok (.getfield 249, 3) := by decide +kernel
theorem dX12_findCutting_417 : decode cX12_findCutting 417 = .ok (.ifCond .lt 7, 3) := by decide +kernel
theorem dX12_findCutting_420 : decode cX12_findCutting 420 = .ok (.iconst 1, 1) := by decide +kernel
theorem dX12_findCutting_421 : decode cX12_findCutting 421 = .ok (.goto 4, 3) := by decide +kernel
theorem dX12_findCutting_424 : decode cX12_findCutting 424 = .ok (.iconst 0, 1) := by decide +kernel
theorem dX12_findCutting_425 : decode cX12_findCutting 425 = .ok (.istore 8, 2) := by decide +kernel
theorem dX12_findCutting_427 : decode cX12_findCutting 427 = .ok (.iload 7, 2) := by decide +kernel
theorem dX12_findCutting_429 : decode cX12_findCutting 429 = .ok (.bipush 16, 2) := by decide +kernel
theorem dX12_findCutting_431 : decode cX12_findCutting 431 = .ok (.if_icmp .gt 8, 3) := by decide +kernel
theorem dX12_findCutting_434 : decode cX12_findCutting 434 = .ok (.iload 8, 2) := by decide +kernel
theorem dX12_findCutting_436 : decode cX12_findCutting 436 = .ok (.ifCond .eq 7, 3) := by decide +kernel
theorem dX12_findCutting_439 : decode cX12_findCutting 439 = .ok (.iconst 1, 1) := by decide +kernel
theorem dX12_findCutting_440 : decode cX12_findCutting 440 = .ok (.goto 4, 3) := by decide +kernel
theorem dX12_findCutting_443 : decode cX12_findCutting 443 = .ok (.iconst 0, 1) := by decide +kernel
theorem dX12_findCutting_444 : decode cX12_findCutting 444 = .ok (.istore 5, 2) := by decide +kernel
theorem dX12_findCutting_446 : decode cX12_findCutting 446 = .ok (.aload_n 0, 1) := by decide +kernel
theorem dX12_findCutting_447 : decode cX12_findCutting 447 = .ok (.getfield 108, 3) := by decide +kernel
theorem dX12_findCutting_450 : decode cX12_findCutting 450 = .ok (.iload 4, 2) := by decide +kernel
theorem dX12_findCutting_452 : decode cX12_findCutting 452 = .ok (.iload 5, 2) := by decide +kernel
theorem dX12_findCutting_454 : decode cX12_findCutting 454 = .ok (.ifCond .eq 7, 3) := by decide +kernel
theorem dX12_findCutting_457 : decode cX12_findCutting 457 = .ok (.iconst (-1), 1) := by decide +kernel
theorem dX12_findCutting_458 : decode cX12_findCutting 458 = .ok (.goto 5, 3) := by decide +kernel
theorem dX12_findCutting_461 : decode cX12_findCutting 461 = .ok (.iload 7, 2) := by decide +kernel
theorem dX12_findCutting_463 : decode cX12_findCutting 463 = .ok (.iastore, 1) := by decide +kernel
theorem dX12_findCutting_464 : decode cX12_findCutting 464 = .ok (.iload 5, 2) := by decide +kernel
theorem dX12_findCutting_466 : decode cX12_findCutting 466 = .ok (.ifCond .ne 93, 3) := by decide +kernel
theorem dX12_findCutting_469 : decode cX12_findCutting 469 = .ok (.iload_n 1, 1) := by decide +kernel
theorem dX12_findCutting_470 : decode cX12_findCutting 470 = .ok (.aload_n 0, 1) := by decide +kernel
theorem dX12_findCutting_471 : decode cX12_findCutting 471 = .ok (.getfield 84, 3) := by decide +kernel
theorem dX12_findCutting_474 : decode cX12_findCutting 474 = .ok (.iload 4, 2) := by decide +kernel
theorem dX12_findCutting_476 : decode cX12_findCutting 476 = .ok (.baload, 1) := by decide +kernel
theorem dX12_findCutting_477 : decode cX12_findCutting 477 = .ok (.ifCond .eq 7, 3) := by decide +kernel
theorem dX12_findCutting_480 : decode cX12_findCutting 480 = .ok (.iconst 0, 1) := by decide +kernel
theorem dX12_findCutting_481 : decode cX12_findCutting 481 = .ok (.goto 10, 3) := by decide +kernel
theorem dX12_findCutting_484 : decode cX12_findCutting 484 = .ok (.aload_n 0, 1) := by decide +kernel
theorem dX12_findCutting_485 : decode cX12_findCutting 485 = .ok (.getfield 81, 3) := by decide +kernel
theorem dX12_findCutting_488 : decode cX12_findCutting 488 = .ok (.iload 4, 2) := by decide +kernel
theorem dX12_findCutting_490 : decode cX12_findCutting 490 = .ok (.iaload, 1) := by decide +kernel
theorem dX12_findCutting_491 : decode cX12_findCutting 491 = .ok (.isub, 1) := by decide +kernel
theorem dX12_findCutting_492 : decode cX12_findCutting 492 = .ok (.istore_n 1, 1) := by decide +kernel
theorem dX12_findCutting_493 : decode cX12_findCutting 493 = .ok (.iload 7, 2) := by decide +kernel
theorem dX12_findCutting_495 : decode cX12_findCutting 495 = .ok (.bipush 16, 2) := by decide +kernel
theorem dX12_findCutting_497 : decode cX12_findCutting 497 = .ok (.if_icmp .ge 59, 3) := by decide +kernel
theorem dX12_findCutting_500 : decode cX12_findCutting 500 = .ok (.aload_n 0, 1) := by decide +kernel
theorem dX12_findCutting_501 : decode cX12_findCutting 501 = .ok (.getfield 114, 3) := by decide +kernel
theorem dX12_findCutting_504 : decode cX12_findCutting 504 = .ok (.iload 7, 2) := by decide +kernel
theorem dX12_findCutting_506 : decode cX12_findCutting 506 = .ok (.dup2, 1) := by decide +kernel
theorem dX12_findCutting_507 : decode cX12_findCutting 507 = .ok (.iaload, 1) := by decide +kernel
theorem dX12_findCutting_508 : decode cX12_findCutting 508 = .ok (.aload_n 0, 1) := by decide +kernel
theorem dX12_findCutting_509 : decode cX12_findCutting 509 = .ok (.getfield 81, 3) := by decide +kernel
theorem dX12_findCutting_512 : decode cX12_findCutting 512 = .ok (.iload 4, 2) := by decide +kernel
theorem dX12_findCutting_514 : decode cX12_findCutting 514 = .ok (.iaload, 1) := by decide +kernel
theorem dX12_findCutting_515 : decode cX12_findCutting 515 = .ok (.isub, 1) := by decide +kernel
theorem dX12_findCutting_516 : decode cX12_findCutting 516 = .ok (.iastore, 1) := by decide +kernel
theorem dX12_findCutting_517 : decode cX12_findCutting 517 = .ok (.iload_n 3, 1) := by decide +kernel
theorem dX12_findCutting_518 : decode cX12_findCutting 518 = .ok (.aload_n 0, 1) := by decide +kernel
theorem dX12_findCutting_519 : decode cX12_findCutting 519 = .ok (.getfield 117, 3) := by decide +kernel
theorem dX12_findCutting_522 : decode cX12_findCutting 522 = .ok (.iload 7, 2) := by decide +kernel
theorem dX12_findCutting_524 : decode cX12_findCutting 524 = .ok (.iaload, 1) := by decide +kernel
theorem dX12_findCutting_525 : decode cX12_findCutting 525 = .ok (.ifCond .ne 7, 3) := by decide +kernel
theorem dX12_findCutting_528 : decode cX12_findCutting 528 = .ok (.iconst 1, 1) := by decide +kernel
theorem dX12_findCutting_529 : decode cX12_findCutting 529 = .ok (.goto 4, 3) := by decide +kernel
theorem dX12_findCutting_532 : decode cX12_findCutting 532 = .ok (.iconst 0, 1) := by decide +kernel
theorem dX12_findCutting_533 : decode cX12_findCutting 533 = .ok (.iadd, 1) := by decide +kernel
theorem dX12_findCutting_534 : decode cX12_findCutting 534 = .ok (.istore_n 3, 1) := by decide +kernel
theorem dX12_findCutting_535 : decode cX12_findCutting 535 = .ok (.aload_n 0, 1) := by decide +kernel
theorem dX12_findCutting_536 : decode cX12_findCutting 536 = .ok (.getfield 117, 3) := by decide +kernel
theorem dX12_findCutting_539 : decode cX12_findCutting 539 = .ok (.iload 7, 2) := by decide +kernel
theorem dX12_findCutting_541 : decode cX12_findCutting 541 = .ok (.dup2, 1) := by decide +kernel
theorem dX12_findCutting_542 : decode cX12_findCutting 542 = .ok (.iaload, 1) := by decide +kernel
theorem dX12_findCutting_543 : decode cX12_findCutting 543 = .ok (.iconst 1, 1) := by decide +kernel
theorem dX12_findCutting_544 : decode cX12_findCutting 544 = .ok (.iadd, 1) := by decide +kernel
theorem dX12_findCutting_545 : decode cX12_findCutting 545 = .ok (.iastore, 1) := by decide +kernel
theorem dX12_findCutting_546 : decode cX12_findCutting 546 = .ok (.iload_n 2, 1) := by decide +kernel
theorem dX12_findCutting_547 : decode cX12_findCutting 547 = .ok (.aload_n 0, 1) := by decide +kernel
theorem dX12_findCutting_548 : decode cX12_findCutting 548 = .ok (.getfield 81, 3) := by decide +kernel
theorem dX12_findCutting_551 : decode cX12_findCutting 551 = .ok (.iload 4, 2) := by decide +kernel
theorem dX12_findCutting_553 : decode cX12_findCutting 553 = .ok (.iaload, 1) := by decide +kernel
theorem dX12_findCutting_554 : decode cX12_findCutting 554 = .ok (.iadd, 1) := by decide +kernel
theorem dX12_findCutting_555 : decode cX12_findCutting 555 = .ok (.istore_n 2, 1) := by decide +kernel
theorem dX12_findCutting_556 : decode cX12_findCutting 556 = .ok (.iinc 4 1, 3) := by decide +kernel
theorem dX12_findCutting_559 : decode cX12_findCutting 559 = .ok (.iload 4, 2) := by decide +kernel
theorem dX12_findCutting_561 : decode cX12_findCutting 561 = .ok (.iload 5, 2) := by decide +kernel
theorem dX12_findCutting_563 : decode cX12_findCutting 563 = .ok (.ifCond .eq 7, 3) := by decide +kernel
theorem dX12_findCutting_566 : decode cX12_findCutting 566 = .ok (.iconst 1, 1) := by decide +kernel
theorem dX12_findCutting_567 : decode cX12_findCutting 567 = .ok (.goto 4, 3) := by decide +kernel
theorem dX12_findCutting_570 : decode cX12_findCutting 570 = .ok (.iconst 0, 1) := by decide +kernel
theorem dX12_findCutting_571 : decode cX12_findCutting 571 = .ok (.isub, 1) := by decide +kernel
theorem dX12_findCutting_572 : decode cX12_findCutting 572 = .ok (.istore 4, 2) := by decide +kernel
theorem dX12_findCutting_574 : decode cX12_findCutting 574 = .ok (.goto (-448), 3) := by decide +kernel
theorem dX12_findCutting_577 : decode cX12_findCutting 577 = .ok (.return_, 1) := by decide +kernel
theorem dX12_cutting_0 : decode cX12_cutting 0 = .ok (.aload_n 0, 1) := by decide +kernel
theorem dX12_cutting_1 : decode cX12_cutting 1 = .ok (.invokevirtual 258, 3) := by decide +kernel
theorem dX12_cutting_4 : decode cX12_cutting 4 = .ok (.aload_n 0, 1) := by decide +kernel
theorem dX12_cutting_5 : decode cX12_cutting 5 = .ok (.getfield 249, 3) := by decide +kernel
theorem dX12_cutting_8 : decode cX12_cutting 8 = .ok (.ireturn, 1) := by decide +kernel
theorem dX12_from_0 : decode cX12_from 0 = .ok (.iload_n 1, 1) := by decide +kernel
theorem dX12_from_1 : decode cX12_from 1 = .ok (.iconst 0, 1) := by decide +kernel
theorem dX12_from_2 : decode cX12_from 2 = .ok (.aload_n 0, 1) := by decide +kernel
theorem dX12_from_3 : decode cX12_from 3 = .ok (.getfield 246, 3) := by decide +kernel
theorem dX12_from_6 : decode cX12_from 6 = .ok (.iconst 1, 1) := by decide +kernel
theorem dX12_from_7 : decode cX12_from 7 = .ok (.isub, 1) := by decide +kernel
theorem dX12_from_8 : decode cX12_from 8 = .ok (.invokestatic 123, 3) := by decide +kernel
theorem dX12_from_11 : decode cX12_from 11 = .ok (.ifCond .ne 6, 3) := by decide +kernel
theorem dX12_from_14 : decode cX12_from 14 = .ok (.bipush (-2), 2) := by decide +kernel
theorem dX12_from_16 : decode cX12_from 16 = .ok (.ireturn, 1) := by decide +kernel
theorem dX12_from_17 : decode cX12_from 17 = .ok (.aload_n 0, 1) := by decide +kernel
theorem dX12_from_18 : decode cX12_from 18 = .ok (.invokevirtual 258, 3) := by decide +kernel
theorem dX12_from_21 : decode cX12_from 21 = .ok (.aload_n 0, 1) := by decide +kernel
theorem dX12_from_22 : decode cX12_from 22 = .ok (.getfield 111, 3) := by decide +kernel
theorem dX12_from_25 : decode cX12_from 25 = .ok (.iload_n 1, 1) := by decide +kernel
theorem dX12_from_26 : decode cX12_from 26 = .ok (.iaload, 1) := by decide +kernel
theorem dX12_from_27 : decode cX12_from 27 = .ok (.ireturn, 1) := by decide +kernel
theorem dX12_cut_0 : decode cX12_cut 0 = .ok (.aload_n 0, 1) := by decide +kernel
theorem dX12_cut_1 : decode cX12_cut 1 = .ok (.invokevirtual 258, 3) := by decide +kernel
theorem dX12_cut_4 : decode cX12_cut 4 = .ok (.iconst 0, 1) := by decide +kernel
theorem dX12_cut_5 : decode cX12_cut 5 = .ok (.istore_n 1, 1) := by decide +kernel
theorem dX12_cut_6 : decode cX12_cut 6 = .ok (.iconst 0, 1) := by decide +kernel
theorem dX12_cut_7 : decode cX12_cut 7 = .ok (.istore_n 2, 1) := by decide +kernel
theorem dX12_cut_8 : decode cX12_cut 8 = .ok (.iload_n 2, 1) := by decide +kernel
theorem dX12_cut_9 : decode cX12_cut 9 = .ok (.aload_n 0, 1) := by decide +kernel
theorem dX12_cut_10 : decode cX12_cut 10 = .ok (.getfield 246, 3) := by decide +kernel
theorem dX12_cut_13 : decode cX12_cut 13 = .ok (.if_icmp .ge 78, 3) := by decide +kernel
theorem dX12_cut_16 : decode cX12_cut 16 = .ok (.aload_n 0, 1) := by decide +kernel
theorem dX12_cut_17 : decode cX12_cut 17 = .ok (.getfield 111, 3) := by decide +kernel
theorem dX12_cut_20 : decode cX12_cut 20 = .ok (.iload_n 2, 1) := by decide +kernel
theorem dX12_cut_21 : decode cX12_cut 21 = .ok (.iaload, 1) := by decide +kernel
theorem dX12_cut_22 : decode cX12_cut 22 = .ok (.istore_n 3, 1) := by decide +kernel
theorem dX12_cut_23 : decode cX12_cut 23 = .ok (.iload_n 3, 1) := by decide +kernel
theorem dX12_cut_24 : decode cX12_cut 24 = .ok (.iconst (-1), 1) := by decide +kernel
theorem dX12_cut_25 : decode cX12_cut 25 = .ok (.if_icmp .eq 60, 3) := by decide +kernel
theorem dX12_cut_28 : decode cX12_cut 28 = .ok (.aload_n 0, 1) := by decide +kernel
theorem dX12_cut_29 : decode cX12_cut 29 = .ok (.getfield 52, 3) := by decide +kernel
theorem dX12_cut_32 : decode cX12_cut 32 = .ok (.iload_n 3, 1) := by decide +kernel
theorem dX12_cut_33 : decode cX12_cut 33 = .ok (.iaload, 1) := by decide +kernel
theorem dX12_cut_34 : decode cX12_cut 34 = .ok (.i2l, 1) := by decide +kernel
theorem dX12_cut_35 : decode cX12_cut 35 = .ok (.aload_n 0, 1) := by decide +kernel
theorem dX12_cut_36 : decode cX12_cut 36 = .ok (.getfield 52, 3) := by decide +kernel
theorem dX12_cut_39 : decode cX12_cut 39 = .ok (.iload_n 3, 1) := by decide +kernel
theorem dX12_cut_40 : decode cX12_cut 40 = .ok (.iaload, 1) := by decide +kernel
theorem dX12_cut_41 : decode cX12_cut 41 = .ok (.i2l, 1) := by decide +kernel
theorem dX12_cut_42 : decode cX12_cut 42 = .ok (.lmul, 1) := by decide +kernel
theorem dX12_cut_43 : decode cX12_cut 43 = .ok (.aload_n 0, 1) := by decide +kernel
theorem dX12_cut_44 : decode cX12_cut 44 = .ok (.getfield 81, 3) := by decide +kernel
theorem dX12_cut_47 : decode cX12_cut 47 = .ok (.iload_n 2, 1) := by decide +kernel
theorem dX12_cut_48 : decode cX12_cut 48 = .ok (.iaload, 1) := by decide +kernel
theorem dX12_cut_49 : decode cX12_cut 49 = .ok (.i2l, 1) := by decide +kernel
theorem dX12_cut_50 : decode cX12_cut 50 = .ok (.lmul, 1) := by decide +kernel
theorem dX12_cut_51 : decode cX12_cut 51 = .ok (.lstore 4, 2) := by decide +kernel
theorem dX12_cut_53 : decode cX12_cut 53 = .ok (.aload_n 0, 1) := by decide +kernel
theorem dX12_cut_54 : decode cX12_cut 54 = .ok (.getfield 58, 3) := by decide +kernel
theorem dX12_cut_57 : decode cX12_cut 57 = .ok (.iload_n 3, 1) := by decide +kernel
theorem dX12_cut_58 : decode cX12_cut 58 = .ok (.dup2, 1) := by decide +kernel
theorem dX12_cut_59 : decode cX12_cut 59 = .ok (.laload, 1) := by decide +kernel
theorem dX12_cut_60 : decode cX12_cut 60 = .ok (.lload 4, 2) := by decide +kernel
theorem dX12_cut_62 : decode cX12_cut 62 = .ok (.lsub, 1) := by decide +kernel
theorem dX12_cut_63 : decode cX12_cut 63 = .ok (.lastore, 1) := by decide +kernel
theorem dX12_cut_64 : decode cX12_cut 64 = .ok (.aload_n 0, 1) := by decide +kernel
theorem dX12_cut_65 : decode cX12_cut 65 = .ok (.dup, 1) := by decide +kernel
theorem dX12_cut_66 : decode cX12_cut 66 = .ok (.getfield 261, 3) := by decide +kernel
theorem dX12_cut_69 : decode cX12_cut 69 = .ok (.lload 4, 2) := by decide +kernel
theorem dX12_cut_71 : decode cX12_cut 71 = .ok (.ladd, 1) := by decide +kernel
theorem dX12_cut_72 : decode cX12_cut 72 = .ok (.putfield 261, 3) := by decide +kernel
theorem dX12_cut_75 : decode cX12_cut 75 = .ok (.aload_n 0, 1) := by decide +kernel
theorem dX12_cut_76 : decode cX12_cut 76 = .ok (.getfield 84, 3) := by decide +kernel
theorem dX12_cut_79 : decode cX12_cut 79 = .ok (.iload_n 2, 1) := by decide +kernel
theorem dX12_cut_80 : decode cX12_cut 80 = .ok (.iconst 1, 1) := by decide +kernel
theorem dX12_cut_81 : decode cX12_cut 81 = .ok (.bastore, 1) := by decide +kernel
theorem dX12_cut_82 : decode cX12_cut 82 = .ok (.iinc 1 1, 3) := by decide +kernel
theorem dX12_cut_85 : decode cX12_cut 85 = .ok (.iinc 2 1, 3) := by decide +kernel
theorem dX12_cut_88 : decode cX12_cut 88 = .ok (.goto (-80), 3) := by decide +kernel
theorem dX12_cut_91 : decode cX12_cut 91 = .ok (.iconst 0, 1) := by decide +kernel
theorem dX12_cut_92 : decode cX12_cut 92 = .ok (.istore_n 2, 1) := by decide +kernel
theorem dX12_cut_93 : decode cX12_cut 93 = .ok (.iload_n 2, 1) := by decide +kernel
theorem dX12_cut_94 : decode cX12_cut 94 = .ok (.aload_n 0, 1) := by decide +kernel
theorem dX12_cut_95 : decode cX12_cut 95 = .ok (.getfield 246, 3) := by decide +kernel
theorem dX12_cut_98 : decode cX12_cut 98 = .ok (.if_icmp .ge 68, 3) := by decide +kernel
theorem dX12_cut_101 : decode cX12_cut 101 = .ok (.aload_n 0, 1) := by decide +kernel
theorem dX12_cut_102 : decode cX12_cut 102 = .ok (.getfield 111, 3) := by decide +kernel
theorem dX12_cut_105 : decode cX12_cut 105 = .ok (.iload_n 2, 1) := by decide +kernel
theorem dX12_cut_106 : decode cX12_cut 106 = .ok (.iaload, 1) := by decide +kernel
theorem dX12_cut_107 : decode cX12_cut 107 = .ok (.istore_n 3, 1) := by decide +kernel
theorem dX12_cut_108 : decode cX12_cut 108 = .ok (.iload_n 3, 1) := by decide +kernel
theorem dX12_cut_109 : decode cX12_cut 109 = .ok (.iconst (-1), 1) := by decide +kernel
theorem dX12_cut_110 : decode cX12_cut 110 = .ok (.if_icmp .eq 50, 3) := by decide +kernel
theorem dX12_cut_113 : decode cX12_cut 113 = .ok (.aload_n 0, 1) := by decide +kernel
theorem dX12_cut_114 : decode cX12_cut 114 = .ok (.getfield 58, 3) := by decide +kernel
theorem dX12_cut_117 : decode cX12_cut 117 = .ok (.iload_n 3, 1) := by decide +kernel
theorem dX12_cut_118 : decode cX12_cut 118 = .ok (.laload, 1) := by decide +kernel
theorem dX12_cut_119 : decode cX12_cut 119 = .ok (.lconst 0, 1) := by decide +kernel
theorem dX12_cut_120 : decode cX12_cut 120 = .ok (.lcmp, 1) := by decide +kernel
theorem dX12_cut_121 : decode cX12_cut 121 = .ok (.ifCond .le 39, 3) := by decide +kernel
theorem dX12_cut_124 : decode cX12_cut 124 = .ok (.aload_n 0, 1) := by decide +kernel
theorem dX12_cut_125 : decode cX12_cut 125 = .ok (.iload_n 3, 1) := by decide +kernel
theorem dX12_cut_126 : decode cX12_cut 126 = .ok (.invokevirtual 167, 3) := by decide +kernel
theorem dX12_cut_129 : decode cX12_cut 129 = .ok (.aload_n 0, 1) := by decide +kernel
theorem dX12_cut_130 : decode cX12_cut 130 = .ok (.getfield 25, 3) := by decide +kernel
theorem dX12_cut_133 : decode cX12_cut 133 = .ok (.iconst 5, 1) := by decide +kernel
theorem dX12_cut_134 : decode cX12_cut 134 = .ok (.iaload, 1) := by decide +kernel
theorem dX12_cut_135 : decode cX12_cut 135 = .ok (.if_icmp .ge 25, 3) := by decide +kernel
theorem dX12_cut_138 : decode cX12_cut 138 = .ok (.aload_n 0, 1) := by decide +kernel
theorem dX12_cut_139 : decode cX12_cut 139 = .ok (.dup, 1) := by decide +kernel
theorem dX12_cut_140 : decode cX12_cut 140 = .ok (.getfield 170, 3) := by decide +kernel
theorem dX12_cut_143 : decode cX12_cut 143 = .ok (.aload_n 0, 1) := by decide +kernel
theorem dX12_cut_144 : decode cX12_cut 144 = .ok (.getfield 58, 3) := by decide +kernel
theorem dX12_cut_147 : decode cX12_cut 147 = .ok (.iload_n 3, 1) := by decide +kernel
theorem dX12_cut_148 : decode cX12_cut 148 = .ok (.laload, 1) := by decide +kernel
theorem dX12_cut_149 : decode cX12_cut 149 = .ok (.ladd, 1) := by decide +kernel
theorem dX12_cut_150 : decode cX12_cut 150 = .ok (.putfield 170, 3) := by decide +kernel
theorem dX12_cut_153 : decode cX12_cut 153 = .ok (.aload_n 0, 1) := by decide +kernel
theorem dX12_cut_154 : decode cX12_cut 154 = .ok (.getfield 58, 3) := by decide +kernel
theorem dX12_cut_157 : decode cX12_cut 157 = .ok (.iload_n 3, 1) := by decide +kernel
theorem dX12_cut_158 : decode cX12_cut 158 = .ok (.lconst 0, 1) := by decide +kernel
theorem dX12_cut_159 : decode cX12_cut 159 = .ok (.lastore, 1) := by decide +kernel
theorem dX12_cut_160 : decode cX12_cut 160 = .ok (.iinc 2 1, 3) := by decide +kernel
theorem dX12_cut_163 : decode cX12_cut 163 = .ok (.goto (-70), 3) := by decide +kernel
theorem dX12_cut_166 : decode cX12_cut 166 = .ok (.iload_n 1, 1) := by decide +kernel
theorem dX12_cut_167 : decode cX12_cut 167 = .ok (.ireturn, 1) := by decide +kernel
theorem dX12_filled_0 : decode cX12_filled 0 = .ok (.iload_n 1, 1) := by decide +kernel
theorem dX12_filled_1 : decode cX12_filled 1 = .ok (.iconst 0, 1) := by decide +kernel
theorem dX12_filled_2 : decode cX12_filled 2 = .ok (.aload_n 0, 1) := by decide +kernel
theorem dX12_filled_3 : decode cX12_filled 3 = .ok (.getfield 246, 3) := by decide +kernel
theorem dX12_filled_6 : decode cX12_filled 6 = .ok (.iconst 1, 1) := by decide +kernel
theorem dX12_filled_7 : decode cX12_filled 7 = .ok (.isub, 1) := by decide +kernel
theorem dX12_filled_8 : decode cX12_filled 8 = .ok (.invokestatic 123, 3) := by decide +kernel
theorem dX12_filled_11 : decode cX12_filled 11 = .ok (.ifCond .ne 8, 3) := by decide +kernel
theorem dX12_filled_14 : decode cX12_filled 14 = .ok (.bipush (-2), 2) := by decide +kernel
theorem dX12_filled_16 : decode cX12_filled 16 = .ok (.goto 17, 3) := by decide +kernel
theorem dX12_filled_19 : decode cX12_filled 19 = .ok (.aload_n 0, 1) := by decide +kernel
theorem dX12_filled_20 : decode cX12_filled 20 = .ok (.getfield 84, 3) := by decide +kernel
theorem dX12_filled_23 : decode cX12_filled 23 = .ok (.iload_n 1, 1) := by decide +kernel
theorem dX12_filled_24 : decode cX12_filled 24 = .ok (.baload, 1) := by decide +kernel
theorem dX12_filled_25 : decode cX12_filled 25 = .ok (.ifCond .eq 7, 3) := by decide +kernel
theorem dX12_filled_28 : decode cX12_filled 28 = .ok (.iconst 1, 1) := by decide +kernel
theorem dX12_filled_29 : decode cX12_filled 29 = .ok (.goto 4, 3) := by decide +kernel
theorem dX12_filled_32 : decode cX12_filled 32 = .ok (.iconst 0, 1) := by decide +kernel
theorem dX12_filled_33 : decode cX12_filled 33 = .ok (.ireturn, 1) := by decide +kernel
theorem dX12_note_0 : decode cX12_note 0 = .ok (.iload_n 1, 1) := by decide +kernel
theorem dX12_note_1 : decode cX12_note 1 = .ok (.iconst 0, 1) := by decide +kernel
theorem dX12_note_2 : decode cX12_note 2 = .ok (.bipush 7, 2) := by decide +kernel
theorem dX12_note_4 : decode cX12_note 4 = .ok (.invokestatic 123, 3) := by decide +kernel
theorem dX12_note_7 : decode cX12_note 7 = .ok (.ifCond .ne 6, 3) := by decide +kernel
theorem dX12_note_10 : decode cX12_note 10 = .ok (.bipush (-3), 2) := by decide +kernel
theorem dX12_note_12 : decode cX12_note 12 = .ok (.ireturn, 1) := by decide +kernel
theorem dX12_note_13 : decode cX12_note 13 = .ok (.aload_n 0, 1) := by decide +kernel
theorem dX12_note_14 : decode cX12_note 14 = .ok (.getfield 264, 3) := by decide +kernel
theorem dX12_note_17 : decode cX12_note 17 = .ok (.bipush 60, 2) := by decide +kernel
theorem dX12_note_19 : decode cX12_note 19 = .ok (.if_icmp .ne 6, 3) := by decide +kernel
theorem dX12_note_22 : decode cX12_note 22 = .ok (.bipush (-8), 2) := by decide +kernel
theorem dX12_note_24 : decode cX12_note 24 = .ok (.ireturn, 1) := by decide +kernel
theorem dX12_note_25 : decode cX12_note 25 = .ok (.aload_n 0, 1) := by decide +kernel
theorem dX12_note_26 : decode cX12_note 26 = .ok (.getfield 87, 3) := by decide +kernel
theorem dX12_note_29 : decode cX12_note 29 = .ok (.aload_n 0, 1) := by decide +kernel
theorem dX12_note_30 : decode cX12_note 30 = .ok (.getfield 264, 3) := by decide +kernel
theorem dX12_note_33 : decode cX12_note 33 = .ok (.iload_n 1, 1) := by decide +kernel
theorem dX12_note_34 : decode cX12_note 34 = .ok (.iastore, 1) := by decide +kernel
theorem dX12_note_35 : decode cX12_note 35 = .ok (.aload_n 0, 1) := by decide +kernel
theorem dX12_note_36 : decode cX12_note 36 = .ok (.getfield 90, 3) := by decide +kernel
theorem dX12_note_39 : decode cX12_note 39 = .ok (.aload_n 0, 1) := by decide +kernel
theorem dX12_note_40 : decode cX12_note 40 = .ok (.getfield 264, 3) := by decide +kernel
theorem dX12_note_43 : decode cX12_note 43 = .ok (.iload_n 2, 1) := by decide +kernel
theorem dX12_note_44 : decode cX12_note 44 = .ok (.bastore, 1) := by decide +kernel
theorem dX12_note_45 : decode cX12_note 45 = .ok (.aload_n 0, 1) := by decide +kernel
theorem dX12_note_46 : decode cX12_note 46 = .ok (.dup, 1) := by decide +kernel
theorem dX12_note_47 : decode cX12_note 47 = .ok (.getfield 264, 3) := by decide +kernel
theorem dX12_note_50 : decode cX12_note 50 = .ok (.iconst 1, 1) := by decide +kernel
theorem dX12_note_51 : decode cX12_note 51 = .ok (.iadd, 1) := by decide +kernel
theorem dX12_note_52 : decode cX12_note 52 = .ok (.putfield 264, 3) := by decide +kernel
theorem dX12_note_55 : decode cX12_note 55 = .ok (.aload_n 0, 1) := by decide +kernel
theorem dX12_note_56 : decode cX12_note 56 = .ok (.getfield 264, 3) := by decide +kernel
theorem dX12_note_59 : decode cX12_note 59 = .ok (.ireturn, 1) := by decide +kernel
theorem dX12_tallyOf_0 : decode cX12_tallyOf 0 = .ok (.iconst 0, 1) := by decide +kernel
theorem dX12_tallyOf_1 : decode cX12_tallyOf 1 = .ok (.istore_n 3, 1) := by decide +kernel
theorem dX12_tallyOf_2 : decode cX12_tallyOf 2 = .ok (.iconst 0, 1) := by decide +kernel
theorem dX12_tallyOf_3 : decode cX12_tallyOf 3 = .ok (.istore 4, 2) := by decide +kernel
theorem dX12_tallyOf_5 : decode cX12_tallyOf 5 = .ok (.iload 4, 2) := by decide +kernel
theorem dX12_tallyOf_7 : decode cX12_tallyOf 7 = .ok (.aload_n 0, 1) := by decide +kernel
theorem dX12_tallyOf_8 : decode cX12_tallyOf 8 = .ok (.getfield 264, 3) := by decide +kernel
theorem dX12_tallyOf_11 : decode cX12_tallyOf 11 = .ok (.if_icmp .ge 69, 3) := by decide +kernel
theorem dX12_tallyOf_14 : decode cX12_tallyOf 14 = .ok (.aload_n 0, 1) := by decide +kernel
theorem dX12_tallyOf_15 : decode cX12_tallyOf 15 = .ok (.getfield 87, 3) := by decide +kernel
theorem dX12_tallyOf_18 : decode cX12_tallyOf 18 = .ok (.iload 4, 2) := by decide +kernel
theorem dX12_tallyOf_20 : decode cX12_tallyOf 20 = .ok (.iaload, 1) := by decide +kernel
theorem dX12_tallyOf_21 : decode cX12_tallyOf 21 = .ok (.iload_n 1, 1) := by decide +kernel
theorem dX12_tallyOf_22 : decode cX12_tallyOf 22 = .ok (.ishr, 1) := by decide +kernel
theorem dX12_tallyOf_23 : decode cX12_tallyOf 23 = .ok (.iconst 1, 1) := by decide +kernel
theorem dX12_tallyOf_24 : decode cX12_tallyOf 24 = .ok (.iand, 1) := by decide +kernel
theorem dX12_tallyOf_25 : decode cX12_tallyOf 25 = .ok (.iconst 1, 1) := by decide +kernel
theorem dX12_tallyOf_26 : decode cX12_tallyOf 26 = .ok (.if_icmp .ne 7, 3) := by decide +kernel
theorem dX12_tallyOf_29 : decode cX12_tallyOf 29 = .ok (.iconst 1, 1) := by decide +kernel
theorem dX12_tallyOf_30 : decode cX12_tallyOf 30 = .ok (.goto 4, 3) := by decide +kernel
theorem dX12_tallyOf_33 : decode cX12_tallyOf 33 = .ok (.iconst 0, 1) := by decide +kernel
theorem dX12_tallyOf_34 : decode cX12_tallyOf 34 = .ok (.istore 5, 2) := by decide +kernel
theorem dX12_tallyOf_36 : decode cX12_tallyOf 36 = .ok (.iload_n 3, 1) := by decide +kernel
theorem dX12_tallyOf_37 : decode cX12_tallyOf 37 = .ok (.aload_n 0, 1) := by decide +kernel
theorem dX12_tallyOf_38 : decode cX12_tallyOf 38 = .ok (.getfield 90, 3) := by decide +kernel
theorem dX12_tallyOf_41 : decode cX12_tallyOf 41 = .ok (.iload 4, 2) := by decide +kernel
theorem dX12_tallyOf_43 : decode cX12_tallyOf 43 = .ok (.baload, 1) := by decide +kernel
theorem dX12_tallyOf_44 : decode cX12_tallyOf 44 = .ok (.ifCond .eq 7, 3) := by decide +kernel
theorem dX12_tallyOf_47 : decode cX12_tallyOf 47 = .ok (.iconst 0, 1) := by decide +kernel
theorem dX12_tallyOf_48 : decode cX12_tallyOf 48 = .ok (.goto 4, 3) := by decide +kernel
theorem dX12_tallyOf_51 : decode cX12_tallyOf 51 = .ok (.iconst 1, 1) := by decide +kernel
theorem dX12_tallyOf_52 : decode cX12_tallyOf 52 = .ok (.iload 5, 2) := by decide +kernel
theorem dX12_tallyOf_54 : decode cX12_tallyOf 54 = .ok (.ifCond .eq 7, 3) := by decide +kernel
theorem dX12_tallyOf_57 : decode cX12_tallyOf 57 = .ok (.iconst 0, 1) := by decide +kernel
theorem dX12_tallyOf_58 : decode cX12_tallyOf 58 = .ok (.goto 4, 3) := by decide +kernel
theorem dX12_tallyOf_61 : decode cX12_tallyOf 61 = .ok (.iconst 2, 1) := by decide +kernel
theorem dX12_tallyOf_62 : decode cX12_tallyOf 62 = .ok (.iadd, 1) := by decide +kernel
theorem dX12_tallyOf_63 : decode cX12_tallyOf 63 = .ok (.iload_n 2, 1) := by decide +kernel
theorem dX12_tallyOf_64 : decode cX12_tallyOf 64 = .ok (.if_icmp .ne 7, 3) := by decide +kernel
theorem dX12_tallyOf_67 : decode cX12_tallyOf 67 = .ok (.iconst 1, 1) := by decide +kernel
theorem dX12_tallyOf_68 : decode cX12_tallyOf 68 = .ok (.goto 4, 3) := by decide +kernel
theorem dX12_tallyOf_71 : decode cX12_tallyOf 71 = .ok (.iconst 0, 1) := by decide +kernel
theorem dX12_tallyOf_72 : decode cX12_tallyOf 72 = .ok (.iadd, 1) := by decide +kernel
theorem dX12_tallyOf_73 : decode cX12_tallyOf 73 = .ok (.istore_n 3, 1) := by decide +kernel
theorem dX12_tallyOf_74 : decode cX12_tallyOf 74 = .ok (.iinc 4 1, 3) := by decide +kernel
theorem dX12_tallyOf_77 : decode cX12_tallyOf 77 = .ok (.goto (-72), 3) := by decide +kernel
theorem dX12_tallyOf_80 : decode cX12_tallyOf 80 = .ok (.iload_n 3, 1) := by decide +kernel
theorem dX12_tallyOf_81 : decode cX12_tallyOf 81 = .ok (.ireturn, 1) := by decide +kernel
theorem dX12_tally_0 : decode cX12_tally 0 = .ok (.iload_n 1, 1) := by decide +kernel
theorem dX12_tally_1 : decode cX12_tally 1 = .ok (.iconst 0, 1) := by decide +kernel
theorem dX12_tally_2 : decode cX12_tally 2 = .ok (.iconst 2, 1) := by decide +kernel
theorem dX12_tally_3 : decode cX12_tally 3 = .ok (.invokestatic 123, 3) := by decide +kernel
theorem dX12_tally_6 : decode cX12_tally 6 = .ok (.ifCond .ne 6, 3) := by decide +kernel
theorem dX12_tally_9 : decode cX12_tally 9 = .ok (.bipush (-2), 2) := by decide +kernel
theorem dX12_tally_11 : decode cX12_tally 11 = .ok (.ireturn, 1) := by decide +kernel
theorem dX12_tally_12 : decode cX12_tally 12 = .ok (.iload_n 2, 1) := by decide +kernel
theorem dX12_tally_13 : decode cX12_tally 13 = .ok (.iconst 0, 1) := by decide +kernel
theorem dX12_tally_14 : decode cX12_tally 14 = .ok (.iconst 3, 1) := by decide +kernel
theorem dX12_tally_15 : decode cX12_tally 15 = .ok (.invokestatic 123, 3) := by decide +kernel
theorem dX12_tally_18 : decode cX12_tally 18 = .ok (.ifCond .eq 12, 3) := by decide +kernel
theorem dX12_tally_21 : decode cX12_tally 21 = .ok (.aload_n 0, 1) := by decide +kernel
theorem dX12_tally_22 : decode cX12_tally 22 = .ok (.iload_n 1, 1) := by decide +kernel
theorem dX12_tally_23 : decode cX12_tally 23 = .ok (.iload_n 2, 1) := by decide +kernel
theorem dX12_tally_24 : decode cX12_tally 24 = .ok (.invokevirtual 267, 3) := by decide +kernel
theorem dX12_tally_27 : decode cX12_tally 27 = .ok (.goto 5, 3) := by decide +kernel
theorem dX12_tally_30 : decode cX12_tally 30 = .ok (.bipush (-3), 2) := by decide +kernel
theorem dX12_tally_32 : decode cX12_tally 32 = .ok (.ireturn, 1) := by decide +kernel
theorem dX12_common_0 : decode cX12_common 0 = .ok (.iload_n 0, 1) := by decide +kernel
theorem dX12_common_1 : decode cX12_common 1 = .ok (.ifCond .ge 8, 3) := by decide +kernel
theorem dX12_common_4 : decode cX12_common 4 = .ok (.iload_n 0, 1) := by decide +kernel
theorem dX12_common_5 : decode cX12_common 5 = .ok (.ineg, 1) := by decide +kernel
theorem dX12_common_6 : decode cX12_common 6 = .ok (.goto 4, 3) := by decide +kernel
theorem dX12_common_9 : decode cX12_common 9 = .ok (.iload_n 0, 1) := by decide +kernel
theorem dX12_common_10 : decode cX12_common 10 = .ok (.istore_n 2, 1) := by decide +kernel
theorem dX12_common_11 : decode cX12_common 11 = .ok (.iload_n 1, 1) := by decide +kernel
theorem dX12_common_12 : decode cX12_common 12 = .ok (.istore_n 3, 1) := by decide +kernel
theorem dX12_common_13 : decode cX12_common 13 = .ok (.iload_n 3, 1) := by decide +kernel
theorem dX12_common_14 : decode cX12_common 14 = .ok (.ifCond .eq 16, 3) := by decide +kernel
theorem dX12_common_17 : decode cX12_common 17 = .ok (.iload_n 2, 1) := by decide +kernel
theorem dX12_common_18 : decode cX12_common 18 = .ok (.iload_n 3, 1) := by decide +kernel
theorem dX12_common_19 : decode cX12_common 19 = .ok (.irem, 1) := by decide +kernel
theorem dX12_common_20 : decode cX12_common 20 = .ok (.istore 4, 2) := by decide +kernel
theorem dX12_common_22 : decode cX12_common 22 = .ok (.iload_n 3, 1) := by decide +kernel
theorem dX12_common_23 : decode cX12_common 23 = .ok (.istore_n 2, 1) := by decide +kernel
theorem dX12_common_24 : decode cX12_common 24 = .ok (.iload 4, 2) := by decide +kernel
theorem dX12_common_26 : decode cX12_common 26 = .ok (.istore_n 3, 1) := by decide +kernel
theorem dX12_common_27 : decode cX12_common 27 = .ok (.goto (-14), 3) := by decide +kernel
theorem dX12_common_30 : decode cX12_common 30 = .ok (.iload_n 2, 1) := by decide +kernel
theorem dX12_common_31 : decode cX12_common 31 = .ok (.ireturn, 1) := by decide +kernel
theorem dX12_aboveOf_0 : decode cX12_aboveOf 0 = .ok (.aload_n 0, 1) := by decide +kernel
theorem dX12_aboveOf_1 : decode cX12_aboveOf 1 = .ok (.iload_n 1, 1) := by decide +kernel
theorem dX12_aboveOf_2 : decode cX12_aboveOf 2 = .ok (.iconst 0, 1) := by decide +kernel
theorem dX12_aboveOf_3 : decode cX12_aboveOf 3 = .ok (.invokevirtual 267, 3) := by decide +kernel
theorem dX12_aboveOf_6 : decode cX12_aboveOf 6 = .ok (.aload_n 0, 1) := by decide +kernel
theorem dX12_aboveOf_7 : decode cX12_aboveOf 7 = .ok (.iload_n 1, 1) := by decide +kernel
theorem dX12_aboveOf_8 : decode cX12_aboveOf 8 = .ok (.iconst 1, 1) := by decide +kernel
theorem dX12_aboveOf_9 : decode cX12_aboveOf 9 = .ok (.invokevirtual 267, 3) := by decide +kernel
theorem dX12_aboveOf_12 : decode cX12_aboveOf 12 = .ok (.iadd, 1) := by decide +kernel
theorem dX12_aboveOf_13 : decode cX12_aboveOf 13 = .ok (.istore_n 2, 1) := by decide +kernel
theorem dX12_aboveOf_14 : decode cX12_aboveOf 14 = .ok (.aload_n 0, 1) := by decide +kernel
theorem dX12_aboveOf_15 : decode cX12_aboveOf 15 = .ok (.iload_n 1, 1) := by decide +kernel
theorem dX12_aboveOf_16 : decode cX12_aboveOf 16 = .ok (.iconst 2, 1) := by decide +kernel
theorem dX12_aboveOf_17 : decode cX12_aboveOf 17 = .ok (.invokevirtual 267, 3) := by decide +kernel
theorem dX12_aboveOf_20 : decode cX12_aboveOf 20 = .ok (.aload_n 0, 1) := by decide +kernel
theorem dX12_aboveOf_21 : decode cX12_aboveOf 21 = .ok (.iload_n 1, 1) := by decide +kernel
theorem dX12_aboveOf_22 : decode cX12_aboveOf 22 = .ok (.iconst 3, 1) := by decide +kernel
theorem dX12_aboveOf_23 : decode cX12_aboveOf 23 = .ok (.invokevirtual 267, 3) := by decide +kernel
theorem dX12_aboveOf_26 : decode cX12_aboveOf 26 = .ok (.iadd, 1) := by decide +kernel
theorem dX12_aboveOf_27 : decode cX12_aboveOf 27 = .ok (.istore_n 3, 1) := by decide +kernel
theorem dX12_aboveOf_28 : decode cX12_aboveOf 28 = .ok (.aload_n 0, 1) := by decide +kernel
theorem dX12_aboveOf_29 : decode cX12_aboveOf 29 = .ok (.iload_n 1, 1) := by decide +kernel
theorem dX12_aboveOf_30 : decode cX12_aboveOf 30 = .ok (.iconst 0, 1) := by decide +kernel
theorem dX12_aboveOf_31 : decode cX12_aboveOf 31 = .ok (.invokevirtual 267, 3) := by decide +kernel
theorem dX12_aboveOf_34 : decode cX12_aboveOf 34 = .ok (.iload_n 3, 1) := by decide +kernel
theorem dX12_aboveOf_35 : decode cX12_aboveOf 35 = .ok (.imul, 1) := by decide +kernel
theorem dX12_aboveOf_36 : decode cX12_aboveOf 36 = .ok (.aload_n 0, 1) := by decide +kernel
theorem dX12_aboveOf_37 : decode cX12_aboveOf 37 = .ok (.iload_n 1, 1) := by decide +kernel
theorem dX12_aboveOf_38 : decode cX12_aboveOf 38 = .ok (.iconst 2, 1) := by decide +kernel
theorem dX12_aboveOf_39 : decode cX12_aboveOf 39 = .ok (.invokevirtual 267, 3) := by decide +kernel
theorem dX12_aboveOf_42 : decode cX12_aboveOf 42 = .ok (.iload_n 2, 1) := by decide +kernel
theorem dX12_aboveOf_43 : decode cX12_aboveOf 43 = .ok (.imul, 1) := by decide +kernel
theorem dX12_aboveOf_44 : decode cX12_aboveOf 44 = .ok (.isub, 1) := by decide +kernel
theorem dX12_aboveOf_45 : decode cX12_aboveOf 45 = .ok (.ireturn, 1) := by decide +kernel
theorem dX12_belowOf_0 : decode cX12_belowOf 0 = .ok (.aload_n 0, 1) := by decide +kernel
theorem dX12_belowOf_1 : decode cX12_belowOf 1 = .ok (.iload_n 1, 1) := by decide +kernel
theorem dX12_belowOf_2 : decode cX12_belowOf 2 = .ok (.iconst 0, 1) := by decide +kernel
theorem dX12_belowOf_3 : decode cX12_belowOf 3 = .ok (.invokevirtual 267, 3) := by decide +kernel
theorem dX12_belowOf_6 : decode cX12_belowOf 6 = .ok (.aload_n 0, 1) := by decide +kernel
theorem dX12_belowOf_7 : decode cX12_belowOf 7 = .ok (.iload_n 1, 1) := by decide +kernel
theorem dX12_belowOf_8 : decode cX12_belowOf 8 = .ok (.iconst 1, 1) := by decide +kernel
theorem dX12_belowOf_9 : decode cX12_belowOf 9 = .ok (.invokevirtual 267, 3) := by decide +kernel
theorem dX12_belowOf_12 : decode cX12_belowOf 12 = .ok (.iadd, 1) := by decide +kernel
theorem dX12_belowOf_13 : decode cX12_belowOf 13 = .ok (.aload_n 0, 1) := by decide +kernel
theorem dX12_belowOf_14 : decode cX12_belowOf 14 = .ok (.iload_n 1, 1) := by decide +kernel
theorem dX12_belowOf_15 : decode cX12_belowOf 15 = .ok (.iconst 2, 1) := by decide +kernel
theorem dX12_belowOf_16 : decode cX12_belowOf 16 = .ok (.invokevirtual 267, 3) := by decide +kernel
theorem dX12_belowOf_19 : decode cX12_belowOf 19 = .ok (.aload_n 0, 1) := by decide +kernel
theorem dX12_belowOf_20 : decode cX12_belowOf 20 = .ok (.iload_n 1, 1) := by decide +kernel
theorem dX12_belowOf_21 : decode cX12_belowOf 21 = .ok (.iconst 3, 1) := by decide +kernel
theorem dX12_belowOf_22 : decode cX12_belowOf 22 = .ok (.invokevirtual 267, 3) := by decide +kernel
theorem dX12_belowOf_25 : decode cX12_belowOf 25 = .ok (.iadd, 1) := by decide +kernel
theorem dX12_belowOf_26 : decode cX12_belowOf 26 = .ok (.imul, 1) := by decide +kernel
theorem dX12_belowOf_27 : decode cX12_belowOf 27 = .ok (.ireturn, 1) := by decide +kernel
theorem dX12_by_0 : decode cX12_by 0 = .ok (.iload_n 1, 1) := by decide +kernel
theorem dX12_by_1 : decode cX12_by 1 = .ok (.iconst 0, 1) := by decide +kernel
theorem dX12_by_2 : decode cX12_by 2 = .ok (.iconst 2, 1) := by decide +kernel
theorem dX12_by_3 : decode cX12_by 3 = .ok (.invokestatic 123, 3) := by decide +kernel
theorem dX12_by_6 : decode cX12_by 6 = .ok (.ifCond .eq 20, 3) := by decide +kernel
theorem dX12_by_9 : decode cX12_by 9 = .ok (.iload_n 2, 1) := by decide +kernel
theorem dX12_by_10 : decode cX12_by 10 = .ok (.iconst 0, 1) := by decide +kernel
theorem dX12_by_11 : decode cX12_by 11 = .ok (.iconst 1, 1) := by decide +kernel
theorem dX12_by_12 : decode cX12_by 12 = .ok (.invokestatic 123, 3) := by decide +kernel
theorem dX12_by_15 : decode cX12_by 15 = .ok (.ifCond .eq 11, 3) := by decide +kernel
theorem dX12_by_18 : decode cX12_by 18 = .ok (.aload_n 0, 1) := by decide +kernel
theorem dX12_by_19 : decode cX12_by 19 = .ok (.iload_n 1, 1) := by decide +kernel
theorem dX12_by_20 : decode cX12_by 20 = .ok (.invokevirtual 270, 3) := by decide +kernel
theorem dX12_by_23 : decode cX12_by 23 = .ok (.ifCond .ne 7, 3) := by decide +kernel
theorem dX12_by_26 : decode cX12_by 26 = .ok (.ldc_w 273, 3) := by decide +kernel
theorem dX12_by_29 : decode cX12_by 29 = .ok (.ireturn, 1) := by decide +kernel
theorem dX12_by_30 : decode cX12_by 30 = .ok (.aload_n 0, 1) := by decide +kernel
theorem dX12_by_31 : decode cX12_by 31 = .ok (.iload_n 1, 1) := by decide +kernel
theorem dX12_by_32 : decode cX12_by 32 = .ok (.invokevirtual 274, 3) := by decide +kernel
theorem dX12_by_35 : decode cX12_by 35 = .ok (.aload_n 0, 1) := by decide +kernel
theorem dX12_by_36 : decode cX12_by 36 = .ok (.iload_n 1, 1) := by decide +kernel
theorem dX12_by_37 : decode cX12_by 37 = .ok (.invokevirtual 270, 3) := by decide +kernel
theorem dX12_by_40 : decode cX12_by 40 = .ok (.invokestatic 277, 3) := by decide +kernel
theorem dX12_by_43 : decode cX12_by 43 = .ok (.istore_n 3, 1) := by decide +kernel
theorem dX12_by_44 : decode cX12_by 44 = .ok (.iload_n 2, 1) := by decide +kernel
theorem dX12_by_45 : decode cX12_by 45 = .ok (.ifCond .ne 13, 3) := by decide +kernel
theorem dX12_by_48 : decode cX12_by 48 = .ok (.aload_n 0, 1) := by decide +kernel
theorem dX12_by_49 : decode cX12_by 49 = .ok (.iload_n 1, 1) := by decide +kernel
theorem dX12_by_50 : decode cX12_by 50 = .ok (.invokevirtual 274, 3) := by decide +kernel
theorem dX12_by_53 : decode cX12_by 53 = .ok (.iload_n 3, 1) := by decide +kernel
theorem dX12_by_54 : decode cX12_by 54 = .ok (.idiv, 1) := by decide +kernel
theorem dX12_by_55 : decode cX12_by 55 = .ok (.goto 10, 3) := by decide +kernel
theorem dX12_by_58 : decode cX12_by 58 = .ok (.aload_n 0, 1) := by decide +kernel
theorem dX12_by_59 : decode cX12_by 59 = .ok (.iload_n 1, 1) := by decide +kernel
theorem dX12_by_60 : decode cX12_by 60 = .ok (.invokevirtual 270, 3) := by decide +kernel
theorem dX12_by_63 : decode cX12_by 63 = .ok (.iload_n 3, 1) := by decide +kernel
theorem dX12_by_64 : decode cX12_by 64 = .ok (.idiv, 1) := by decide +kernel
theorem dX12_by_65 : decode cX12_by 65 = .ok (.ireturn, 1) := by decide +kernel
theorem dX12_choose_0 : decode cX12_choose 0 = .ok (.iload_n 2, 1) := by decide +kernel
theorem dX12_choose_1 : decode cX12_choose 1 = .ok (.ifCond .lt 8, 3) := by decide +kernel
theorem dX12_choose_4 : decode cX12_choose 4 = .ok (.iload_n 2, 1) := by decide +kernel
theorem dX12_choose_5 : decode cX12_choose 5 = .ok (.iload_n 1, 1) := by decide +kernel
