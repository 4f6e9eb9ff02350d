theorem dX11_common_4 : decode cX11_common 4 = .ok (.lstore 6, 2) := by decide +kernel
theorem dX11_common_6 : decode cX11_common 6 = .ok (.lload 6, 2) := by decide +kernel
theorem dX11_common_8 : decode cX11_common 8 = .ok (.lconst 0, 1) := by decide +kernel
theorem dX11_common_9 : decode cX11_common 9 = .ok (.lcmp, 1) := by decide +kernel
theorem dX11_common_10 : decode cX11_common 10 = .ok (.ifCond .eq 21, 3) := by decide +kernel
theorem dX11_common_13 : decode cX11_common 13 = .ok (.lload 4, 2) := by decide +kernel
theorem dX11_common_15 : decode cX11_common 15 = .ok (.lload 6, 2) := by decide +kernel
theorem dX11_common_17 : decode cX11_common 17 = .ok (.lrem, 1) := by decide +kernel
theorem dX11_common_18 : decode cX11_common 18 = .ok (.lstore 8, 2) := by decide +kernel
theorem dX11_common_20 : decode cX11_common 20 = .ok (.lload 6, 2) := by decide +kernel
theorem dX11_common_22 : decode cX11_common 22 = .ok (.lstore 4, 2) := by decide +kernel
theorem dX11_common_24 : decode cX11_common 24 = .ok (.lload 8, 2) := by decide +kernel
theorem dX11_common_26 : decode cX11_common 26 = .ok (.lstore 6, 2) := by decide +kernel
theorem dX11_common_28 : decode cX11_common 28 = .ok (.goto (-22), 3) := by decide +kernel
theorem dX11_common_31 : decode cX11_common 31 = .ok (.lload 4, 2) := by decide +kernel
theorem dX11_common_33 : decode cX11_common 33 = .ok (.lreturn, 1) := by decide +kernel
theorem dX11_told_0 : decode cX11_told 0 = .ok (.lload_n 2, 1) := by decide +kernel
theorem dX11_told_1 : decode cX11_told 1 = .ok (.lload_n 0, 1) := by decide +kernel
theorem dX11_told_2 : decode cX11_told 2 = .ok (.invokestatic 255, 3) := by decide +kernel
theorem dX11_told_5 : decode cX11_told 5 = .ok (.lstore 5, 2) := by decide +kernel
theorem dX11_told_7 : decode cX11_told 7 = .ok (.iload 4, 2) := by decide +kernel
theorem dX11_told_9 : decode cX11_told 9 = .ok (.ifCond .ne 10, 3) := by decide +kernel
theorem dX11_told_12 : decode cX11_told 12 = .ok (.lload_n 0, 1) := by decide +kernel
theorem dX11_told_13 : decode cX11_told 13 = .ok (.lload 5, 2) := by decide +kernel
theorem dX11_told_15 : decode cX11_told 15 = .ok (.ldiv, 1) := by decide +kernel
theorem dX11_told_16 : decode cX11_told 16 = .ok (.goto 7, 3) := by decide +kernel
theorem dX11_told_19 : decode cX11_told 19 = .ok (.lload_n 2, 1) := by decide +kernel
theorem dX11_told_20 : decode cX11_told 20 = .ok (.lload 5, 2) := by decide +kernel
theorem dX11_told_22 : decode cX11_told 22 = .ok (.ldiv, 1) := by decide +kernel
theorem dX11_told_23 : decode cX11_told 23 = .ok (.lreturn, 1) := by decide +kernel
theorem dX11_findOdds_0 : decode cX11_findOdds 0 = .ok (.aload_n 0, 1) := by decide +kernel
theorem dX11_findOdds_1 : decode cX11_findOdds 1 = .ok (.invokevirtual 192, 3) := by decide +kernel
theorem dX11_findOdds_4 : decode cX11_findOdds 4 = .ok (.aload_n 0, 1) := by decide +kernel
theorem dX11_findOdds_5 : decode cX11_findOdds 5 = .ok (.invokevirtual 183, 3) := by decide +kernel
theorem dX11_findOdds_8 : decode cX11_findOdds 8 = .ok (.istore_n 3, 1) := by decide +kernel
theorem dX11_findOdds_9 : decode cX11_findOdds 9 = .ok (.aload_n 0, 1) := by decide +kernel
theorem dX11_findOdds_10 : decode cX11_findOdds 10 = .ok (.lconst 0, 1) := by decide +kernel
theorem dX11_findOdds_11 : decode cX11_findOdds 11 = .ok (.putfield 259, 3) := by decide +kernel
theorem dX11_findOdds_14 : decode cX11_findOdds 14 = .ok (.aload_n 0, 1) := by decide +kernel
theorem dX11_findOdds_15 : decode cX11_findOdds 15 = .ok (.lconst 0, 1) := by decide +kernel
theorem dX11_findOdds_16 : decode cX11_findOdds 16 = .ok (.putfield 263, 3) := by decide +kernel
theorem dX11_findOdds_19 : decode cX11_findOdds 19 = .ok (.aload_n 0, 1) := by decide +kernel
theorem dX11_findOdds_20 : decode cX11_findOdds 20 = .ok (.lconst 1, 1) := by decide +kernel
theorem dX11_findOdds_21 : decode cX11_findOdds 21 = .ok (.putfield 266, 3) := by decide +kernel
theorem dX11_findOdds_24 : decode cX11_findOdds 24 = .ok (.iconst 0, 1) := by decide +kernel
theorem dX11_findOdds_25 : decode cX11_findOdds 25 = .ok (.istore 4, 2) := by decide +kernel
theorem dX11_findOdds_27 : decode cX11_findOdds 27 = .ok (.iload 4, 2) := by decide +kernel
theorem dX11_findOdds_29 : decode cX11_findOdds 29 = .ok (.aload_n 0, 1) := by decide +kernel
theorem dX11_findOdds_30 : decode cX11_findOdds 30 = .ok (.getfield 61, 3) := by decide +kernel
theorem dX11_findOdds_33 : decode cX11_findOdds 33 = .ok (.if_icmp .ge 35, 3) := by decide +kernel
theorem dX11_findOdds_36 : decode cX11_findOdds 36 = .ok (.aload_n 0, 1) := by decide +kernel
theorem dX11_findOdds_37 : decode cX11_findOdds 37 = .ok (.dup, 1) := by decide +kernel
theorem dX11_findOdds_38 : decode cX11_findOdds 38 = .ok (.getfield 266, 3) := by decide +kernel
theorem dX11_findOdds_41 : decode cX11_findOdds 41 = .ok (.iload_n 3, 1) := by decide +kernel
theorem dX11_findOdds_42 : decode cX11_findOdds 42 = .ok (.iload 4, 2) := by decide +kernel
theorem dX11_findOdds_44 : decode cX11_findOdds 44 = .ok (.ishr, 1) := by decide +kernel
theorem dX11_findOdds_45 : decode cX11_findOdds 45 = .ok (.iconst 1, 1) := by decide +kernel
theorem dX11_findOdds_46 : decode cX11_findOdds 46 = .ok (.iand, 1) := by decide +kernel
theorem dX11_findOdds_47 : decode cX11_findOdds 47 = .ok (.iconst 1, 1) := by decide +kernel
theorem dX11_findOdds_48 : decode cX11_findOdds 48 = .ok (.if_icmp .ne 9, 3) := by decide +kernel
theorem dX11_findOdds_51 : decode cX11_findOdds 51 = .ok (.ldc2_w 269, 3) := by decide +kernel
theorem dX11_findOdds_54 : decode cX11_findOdds 54 = .ok (.goto 4, 3) := by decide +kernel
theorem dX11_findOdds_57 : decode cX11_findOdds 57 = .ok (.lconst 1, 1) := by decide +kernel
theorem dX11_findOdds_58 : decode cX11_findOdds 58 = .ok (.lmul, 1) := by decide +kernel
theorem dX11_findOdds_59 : decode cX11_findOdds 59 = .ok (.putfield 266, 3) := by decide +kernel
theorem dX11_findOdds_62 : decode cX11_findOdds 62 = .ok (.iinc 4 1, 3) := by decide +kernel
theorem dX11_findOdds_65 : decode cX11_findOdds 65 = .ok (.goto (-38), 3) := by decide +kernel
theorem dX11_findOdds_68 : decode cX11_findOdds 68 = .ok (.iconst 0, 1) := by decide +kernel
theorem dX11_findOdds_69 : decode cX11_findOdds 69 = .ok (.istore 4, 2) := by decide +kernel
theorem dX11_findOdds_71 : decode cX11_findOdds 71 = .ok (.iload 4, 2) := by decide +kernel
theorem dX11_findOdds_73 : decode cX11_findOdds 73 = .ok (.iconst 1, 1) := by decide +kernel
theorem dX11_findOdds_74 : decode cX11_findOdds 74 = .ok (.aload_n 0, 1) := by decide +kernel
theorem dX11_findOdds_75 : decode cX11_findOdds 75 = .ok (.getfield 61, 3) := by decide +kernel
theorem dX11_findOdds_78 : decode cX11_findOdds 78 = .ok (.ishl, 1) := by decide +kernel
theorem dX11_findOdds_79 : decode cX11_findOdds 79 = .ok (.if_icmp .ge 169, 3) := by decide +kernel
theorem dX11_findOdds_82 : decode cX11_findOdds 82 = .ok (.iload 4, 2) := by decide +kernel
theorem dX11_findOdds_84 : decode cX11_findOdds 84 = .ok (.iload_n 3, 1) := by decide +kernel
theorem dX11_findOdds_85 : decode cX11_findOdds 85 = .ok (.iconst (-1), 1) := by decide +kernel
theorem dX11_findOdds_86 : decode cX11_findOdds 86 = .ok (.ixor, 1) := by decide +kernel
theorem dX11_findOdds_87 : decode cX11_findOdds 87 = .ok (.iand, 1) := by decide +kernel
theorem dX11_findOdds_88 : decode cX11_findOdds 88 = .ok (.ifCond .ne 7, 3) := by decide +kernel
theorem dX11_findOdds_91 : decode cX11_findOdds 91 = .ok (.lconst 1, 1) := by decide +kernel
theorem dX11_findOdds_92 : decode cX11_findOdds 92 = .ok (.goto 4, 3) := by decide +kernel
theorem dX11_findOdds_95 : decode cX11_findOdds 95 = .ok (.lconst 0, 1) := by decide +kernel
theorem dX11_findOdds_96 : decode cX11_findOdds 96 = .ok (.lstore 5, 2) := by decide +kernel
theorem dX11_findOdds_98 : decode cX11_findOdds 98 = .ok (.aload_n 0, 1) := by decide +kernel
theorem dX11_findOdds_99 : decode cX11_findOdds 99 = .ok (.invokevirtual 192, 3) := by decide +kernel
theorem dX11_findOdds_102 : decode cX11_findOdds 102 = .ok (.iconst 0, 1) := by decide +kernel
theorem dX11_findOdds_103 : decode cX11_findOdds 103 = .ok (.istore 7, 2) := by decide +kernel
theorem dX11_findOdds_105 : decode cX11_findOdds 105 = .ok (.iload 7, 2) := by decide +kernel
theorem dX11_findOdds_107 : decode cX11_findOdds 107 = .ok (.aload_n 0, 1) := by decide +kernel
theorem dX11_findOdds_108 : decode cX11_findOdds 108 = .ok (.getfield 61, 3) := by decide +kernel
theorem dX11_findOdds_111 : decode cX11_findOdds 111 = .ok (.if_icmp .ge 85, 3) := by decide +kernel
theorem dX11_findOdds_114 : decode cX11_findOdds 114 = .ok (.lload 5, 2) := by decide +kernel
theorem dX11_findOdds_116 : decode cX11_findOdds 116 = .ok (.lconst 0, 1) := by decide +kernel
theorem dX11_findOdds_117 : decode cX11_findOdds 117 = .ok (.lcmp, 1) := by decide +kernel
theorem dX11_findOdds_118 : decode cX11_findOdds 118 = .ok (.ifCond .le 78, 3) := by decide +kernel
theorem dX11_findOdds_121 : decode cX11_findOdds 121 = .ok (.iload 4, 2) := by decide +kernel
theorem dX11_findOdds_123 : decode cX11_findOdds 123 = .ok (.iload 7, 2) := by decide +kernel
theorem dX11_findOdds_125 : decode cX11_findOdds 125 = .ok (.ishr, 1) := by decide +kernel
theorem dX11_findOdds_126 : decode cX11_findOdds 126 = .ok (.iconst 1, 1) := by decide +kernel
theorem dX11_findOdds_127 : decode cX11_findOdds 127 = .ok (.iand, 1) := by decide +kernel
theorem dX11_findOdds_128 : decode cX11_findOdds 128 = .ok (.iconst 1, 1) := by decide +kernel
theorem dX11_findOdds_129 : decode cX11_findOdds 129 = .ok (.if_icmp .ne 7, 3) := by decide +kernel
theorem dX11_findOdds_132 : decode cX11_findOdds 132 = .ok (.iconst 1, 1) := by decide +kernel
theorem dX11_findOdds_133 : decode cX11_findOdds 133 = .ok (.goto 4, 3) := by decide +kernel
theorem dX11_findOdds_136 : decode cX11_findOdds 136 = .ok (.iconst 0, 1) := by decide +kernel
theorem dX11_findOdds_137 : decode cX11_findOdds 137 = .ok (.istore 8, 2) := by decide +kernel
theorem dX11_findOdds_139 : decode cX11_findOdds 139 = .ok (.lload 5, 2) := by decide +kernel
theorem dX11_findOdds_141 : decode cX11_findOdds 141 = .ok (.iload_n 3, 1) := by decide +kernel
theorem dX11_findOdds_142 : decode cX11_findOdds 142 = .ok (.iload 7, 2) := by decide +kernel
theorem dX11_findOdds_144 : decode cX11_findOdds 144 = .ok (.ishr, 1) := by decide +kernel
theorem dX11_findOdds_145 : decode cX11_findOdds 145 = .ok (.iconst 1, 1) := by decide +kernel
theorem dX11_findOdds_146 : decode cX11_findOdds 146 = .ok (.iand, 1) := by decide +kernel
theorem dX11_findOdds_147 : decode cX11_findOdds 147 = .ok (.ifCond .ne 7, 3) := by decide +kernel
theorem dX11_findOdds_150 : decode cX11_findOdds 150 = .ok (.lconst 1, 1) := by decide +kernel
theorem dX11_findOdds_151 : decode cX11_findOdds 151 = .ok (.goto 18, 3) := by decide +kernel
theorem dX11_findOdds_154 : decode cX11_findOdds 154 = .ok (.iload 8, 2) := by decide +kernel
theorem dX11_findOdds_156 : decode cX11_findOdds 156 = .ok (.ifCond .eq 8, 3) := by decide +kernel
theorem dX11_findOdds_159 : decode cX11_findOdds 159 = .ok (.iload_n 1, 1) := by decide +kernel
theorem dX11_findOdds_160 : decode cX11_findOdds 160 = .ok (.i2l, 1) := by decide +kernel
theorem dX11_findOdds_161 : decode cX11_findOdds 161 = .ok (.goto 8, 3) := by decide +kernel
theorem dX11_findOdds_164 : decode cX11_findOdds 164 = .ok (.bipush 10, 2) := by decide +kernel
theorem dX11_findOdds_166 : decode cX11_findOdds 166 = .ok (.iload_n 1, 1) := by decide +kernel
theorem dX11_findOdds_167 : decode cX11_findOdds 167 = .ok (.isub, 1) := by decide +kernel
theorem dX11_findOdds_168 : decode cX11_findOdds 168 = .ok (.i2l, 1) := by decide +kernel
theorem dX11_findOdds_169 : decode cX11_findOdds 169 = .ok (.lmul, 1) := by decide +kernel
theorem dX11_findOdds_170 : decode cX11_findOdds 170 = .ok (.lstore 5, 2) := by decide +kernel
theorem dX11_findOdds_172 : decode cX11_findOdds 172 = .ok (.iload 8, 2) := by decide +kernel
theorem dX11_findOdds_174 : decode cX11_findOdds 174 = .ok (.ifCond .eq 16, 3) := by decide +kernel
theorem dX11_findOdds_177 : decode cX11_findOdds 177 = .ok (.lload 5, 2) := by decide +kernel
theorem dX11_findOdds_179 : decode cX11_findOdds 179 = .ok (.lconst 0, 1) := by decide +kernel
theorem dX11_findOdds_180 : decode cX11_findOdds 180 = .ok (.lcmp, 1) := by decide +kernel
theorem dX11_findOdds_181 : decode cX11_findOdds 181 = .ok (.ifCond .le 9, 3) := by decide +kernel
theorem dX11_findOdds_184 : decode cX11_findOdds 184 = .ok (.aload_n 0, 1) := by decide +kernel
theorem dX11_findOdds_185 : decode cX11_findOdds 185 = .ok (.iload 7, 2) := by decide +kernel
theorem dX11_findOdds_187 : decode cX11_findOdds 187 = .ok (.invokevirtual 228, 3) := by decide +kernel
theorem dX11_findOdds_190 : decode cX11_findOdds 190 = .ok (.iinc 7 1, 3) := by decide +kernel
theorem dX11_findOdds_193 : decode cX11_findOdds 193 = .ok (.goto (-88), 3) := by decide +kernel
theorem dX11_findOdds_196 : decode cX11_findOdds 196 = .ok (.aload_n 0, 1) := by decide +kernel
theorem dX11_findOdds_197 : decode cX11_findOdds 197 = .ok (.dup, 1) := by decide +kernel
theorem dX11_findOdds_198 : decode cX11_findOdds 198 = .ok (.getfield 259, 3) := by decide +kernel
theorem dX11_findOdds_201 : decode cX11_findOdds 201 = .ok (.lload 5, 2) := by decide +kernel
theorem dX11_findOdds_203 : decode cX11_findOdds 203 = .ok (.aload_n 0, 1) := by decide +kernel
theorem dX11_findOdds_204 : decode cX11_findOdds 204 = .ok (.getfield 13, 3) := by decide +kernel
theorem dX11_findOdds_207 : decode cX11_findOdds 207 = .ok (.bipush 56, 2) := by decide +kernel
theorem dX11_findOdds_209 : decode cX11_findOdds 209 = .ok (.iaload, 1) := by decide +kernel
theorem dX11_findOdds_210 : decode cX11_findOdds 210 = .ok (.i2l, 1) := by decide +kernel
theorem dX11_findOdds_211 : decode cX11_findOdds 211 = .ok (.lmul, 1) := by decide +kernel
theorem dX11_findOdds_212 : decode cX11_findOdds 212 = .ok (.ladd, 1) := by decide +kernel
theorem dX11_findOdds_213 : decode cX11_findOdds 213 = .ok (.putfield 259, 3) := by decide +kernel
theorem dX11_findOdds_216 : decode cX11_findOdds 216 = .ok (.aload_n 0, 1) := by decide +kernel
theorem dX11_findOdds_217 : decode cX11_findOdds 217 = .ok (.dup, 1) := by decide +kernel
theorem dX11_findOdds_218 : decode cX11_findOdds 218 = .ok (.getfield 263, 3) := by decide +kernel
theorem dX11_findOdds_221 : decode cX11_findOdds 221 = .ok (.aload_n 0, 1) := by decide +kernel
theorem dX11_findOdds_222 : decode cX11_findOdds 222 = .ok (.getfield 13, 3) := by decide +kernel
theorem dX11_findOdds_225 : decode cX11_findOdds 225 = .ok (.bipush 56, 2) := by decide +kernel
theorem dX11_findOdds_227 : decode cX11_findOdds 227 = .ok (.iaload, 1) := by decide +kernel
theorem dX11_findOdds_228 : decode cX11_findOdds 228 = .ok (.iload_n 2, 1) := by decide +kernel
theorem dX11_findOdds_229 : decode cX11_findOdds 229 = .ok (.if_icmp .gt 8, 3) := by decide +kernel
theorem dX11_findOdds_232 : decode cX11_findOdds 232 = .ok (.lload 5, 2) := by decide +kernel
theorem dX11_findOdds_234 : decode cX11_findOdds 234 = .ok (.goto 4, 3) := by decide +kernel
theorem dX11_findOdds_237 : decode cX11_findOdds 237 = .ok (.lconst 0, 1) := by decide +kernel
theorem dX11_findOdds_238 : decode cX11_findOdds 238 = .ok (.ladd, 1) := by decide +kernel
theorem dX11_findOdds_239 : decode cX11_findOdds 239 = .ok (.putfield 263, 3) := by decide +kernel
theorem dX11_findOdds_242 : decode cX11_findOdds 242 = .ok (.iinc 4 1, 3) := by decide +kernel
theorem dX11_findOdds_245 : decode cX11_findOdds 245 = .ok (.goto (-174), 3) := by decide +kernel
theorem dX11_findOdds_248 : decode cX11_findOdds 248 = .ok (.return_, 1) := by decide +kernel
theorem dX11_mean_0 : decode cX11_mean 0 = .ok (.iload_n 1, 1) := by decide +kernel
theorem dX11_mean_1 : decode cX11_mean 1 = .ok (.i2l, 1) := by decide +kernel
theorem dX11_mean_2 : decode cX11_mean 2 = .ok (.lconst 0, 1) := by decide +kernel
theorem dX11_mean_3 : decode cX11_mean 3 = .ok (.ldc2_w 269, 3) := by decide +kernel
theorem dX11_mean_6 : decode cX11_mean 6 = .ok (.invokestatic 66, 3) := by decide +kernel
theorem dX11_mean_9 : decode cX11_mean 9 = .ok (.ifCond .eq 10, 3) := by decide +kernel
theorem dX11_mean_12 : decode cX11_mean 12 = .ok (.iload_n 2, 1) := by decide +kernel
theorem dX11_mean_13 : decode cX11_mean 13 = .ok (.invokestatic 245, 3) := by decide +kernel
theorem dX11_mean_16 : decode cX11_mean 16 = .ok (.ifCond .ne 7, 3) := by decide +kernel
theorem dX11_mean_19 : decode cX11_mean 19 = .ok (.ldc2_w 271, 3) := by decide +kernel
theorem dX11_mean_22 : decode cX11_mean 22 = .ok (.lreturn, 1) := by decide +kernel
theorem dX11_mean_23 : decode cX11_mean 23 = .ok (.aload_n 0, 1) := by decide +kernel
theorem dX11_mean_24 : decode cX11_mean 24 = .ok (.iload_n 1, 1) := by decide +kernel
theorem dX11_mean_25 : decode cX11_mean 25 = .ok (.iconst 0, 1) := by decide +kernel
theorem dX11_mean_26 : decode cX11_mean 26 = .ok (.invokevirtual 273, 3) := by decide +kernel
theorem dX11_mean_29 : decode cX11_mean 29 = .ok (.aload_n 0, 1) := by decide +kernel
theorem dX11_mean_30 : decode cX11_mean 30 = .ok (.getfield 259, 3) := by decide +kernel
theorem dX11_mean_33 : decode cX11_mean 33 = .ok (.aload_n 0, 1) := by decide +kernel
theorem dX11_mean_34 : decode cX11_mean 34 = .ok (.getfield 266, 3) := by decide +kernel
theorem dX11_mean_37 : decode cX11_mean 37 = .ok (.iload_n 2, 1) := by decide +kernel
theorem dX11_mean_38 : decode cX11_mean 38 = .ok (.invokestatic 277, 3) := by decide +kernel
theorem dX11_mean_41 : decode cX11_mean 41 = .ok (.lreturn, 1) := by decide +kernel
theorem dX11_luck_0 : decode cX11_luck 0 = .ok (.iload_n 1, 1) := by decide +kernel
theorem dX11_luck_1 : decode cX11_luck 1 = .ok (.i2l, 1) := by decide +kernel
theorem dX11_luck_2 : decode cX11_luck 2 = .ok (.lconst 0, 1) := by decide +kernel
theorem dX11_luck_3 : decode cX11_luck 3 = .ok (.ldc2_w 269, 3) := by decide +kernel
theorem dX11_luck_6 : decode cX11_luck 6 = .ok (.invokestatic 66, 3) := by decide +kernel
theorem dX11_luck_9 : decode cX11_luck 9 = .ok (.ifCond .eq 22, 3) := by decide +kernel
theorem dX11_luck_12 : decode cX11_luck 12 = .ok (.iload_n 2, 1) := by decide +kernel
theorem dX11_luck_13 : decode cX11_luck 13 = .ok (.i2l, 1) := by decide +kernel
theorem dX11_luck_14 : decode cX11_luck 14 = .ok (.lconst 0, 1) := by decide +kernel
theorem dX11_luck_15 : decode cX11_luck 15 = .ok (.ldc2_w 213, 3) := by decide +kernel
theorem dX11_luck_18 : decode cX11_luck 18 = .ok (.invokestatic 66, 3) := by decide +kernel
theorem dX11_luck_21 : decode cX11_luck 21 = .ok (.ifCond .eq 10, 3) := by decide +kernel
theorem dX11_luck_24 : decode cX11_luck 24 = .ok (.iload_n 3, 1) := by decide +kernel
theorem dX11_luck_25 : decode cX11_luck 25 = .ok (.invokestatic 245, 3) := by decide +kernel
theorem dX11_luck_28 : decode cX11_luck 28 = .ok (.ifCond .ne 7, 3) := by decide +kernel
theorem dX11_luck_31 : decode cX11_luck 31 = .ok (.ldc2_w 271, 3) := by decide +kernel
theorem dX11_luck_34 : decode cX11_luck 34 = .ok (.lreturn, 1) := by decide +kernel
theorem dX11_luck_35 : decode cX11_luck 35 = .ok (.aload_n 0, 1) := by decide +kernel
theorem dX11_luck_36 : decode cX11_luck 36 = .ok (.iload_n 1, 1) := by decide +kernel
theorem dX11_luck_37 : decode cX11_luck 37 = .ok (.iload_n 2, 1) := by decide +kernel
theorem dX11_luck_38 : decode cX11_luck 38 = .ok (.invokevirtual 273, 3) := by decide +kernel
theorem dX11_luck_41 : decode cX11_luck 41 = .ok (.aload_n 0, 1) := by decide +kernel
theorem dX11_luck_42 : decode cX11_luck 42 = .ok (.getfield 263, 3) := by decide +kernel
theorem dX11_luck_45 : decode cX11_luck 45 = .ok (.aload_n 0, 1) := by decide +kernel
theorem dX11_luck_46 : decode cX11_luck 46 = .ok (.getfield 266, 3) := by decide +kernel
theorem dX11_luck_49 : decode cX11_luck 49 = .ok (.iload_n 3, 1) := by decide +kernel
theorem dX11_luck_50 : decode cX11_luck 50 = .ok (.invokestatic 277, 3) := by decide +kernel
theorem dX11_luck_53 : decode cX11_luck 53 = .ok (.lreturn, 1) := by decide +kernel
theorem dX11_see_0 : decode cX11_see 0 = .ok (.aload_n 0, 1) := by decide +kernel
theorem dX11_see_1 : decode cX11_see 1 = .ok (.iload_n 1, 1) := by decide +kernel
theorem dX11_see_2 : decode cX11_see 2 = .ok (.invokevirtual 198, 3) := by decide +kernel
theorem dX11_see_5 : decode cX11_see 5 = .ok (.ifCond .eq 23, 3) := by decide +kernel
theorem dX11_see_8 : decode cX11_see 8 = .ok (.aload_n 0, 1) := by decide +kernel
theorem dX11_see_9 : decode cX11_see 9 = .ok (.iload_n 2, 1) := by decide +kernel
theorem dX11_see_10 : decode cX11_see 10 = .ok (.invokevirtual 204, 3) := by decide +kernel
theorem dX11_see_13 : decode cX11_see 13 = .ok (.ifCond .eq 15, 3) := by decide +kernel
theorem dX11_see_16 : decode cX11_see 16 = .ok (.iload_n 3, 1) := by decide +kernel
theorem dX11_see_17 : decode cX11_see 17 = .ok (.i2l, 1) := by decide +kernel
theorem dX11_see_18 : decode cX11_see 18 = .ok (.lconst 0, 1) := by decide +kernel
theorem dX11_see_19 : decode cX11_see 19 = .ok (.ldc2_w 207, 3) := by decide +kernel
theorem dX11_see_22 : decode cX11_see 22 = .ok (.invokestatic 66, 3) := by decide +kernel
theorem dX11_see_25 : decode cX11_see 25 = .ok (.ifCond .ne 5, 3) := by decide +kernel
theorem dX11_see_28 : decode cX11_see 28 = .ok (.iconst (-1), 1) := by decide +kernel
theorem dX11_see_29 : decode cX11_see 29 = .ok (.ireturn, 1) := by decide +kernel
theorem dX11_see_30 : decode cX11_see 30 = .ok (.aload_n 0, 1) := by decide +kernel
theorem dX11_see_31 : decode cX11_see 31 = .ok (.getfield 7, 3) := by decide +kernel
theorem dX11_see_34 : decode cX11_see 34 = .ok (.bipush 57, 2) := by decide +kernel
theorem dX11_see_36 : decode cX11_see 36 = .ok (.iaload, 1) := by decide +kernel
theorem dX11_see_37 : decode cX11_see 37 = .ok (.bipush 6, 2) := by decide +kernel
theorem dX11_see_39 : decode cX11_see 39 = .ok (.if_icmp .ne 6, 3) := by decide +kernel
theorem dX11_see_42 : decode cX11_see 42 = .ok (.bipush (-3), 2) := by decide +kernel
theorem dX11_see_44 : decode cX11_see 44 = .ok (.ireturn, 1) := by decide +kernel
theorem dX11_see_45 : decode cX11_see 45 = .ok (.bipush 58, 2) := by decide +kernel
theorem dX11_see_47 : decode cX11_see 47 = .ok (.iconst 3, 1) := by decide +kernel
theorem dX11_see_48 : decode cX11_see 48 = .ok (.aload_n 0, 1) := by decide +kernel
theorem dX11_see_49 : decode cX11_see 49 = .ok (.getfield 7, 3) := by decide +kernel
theorem dX11_see_52 : decode cX11_see 52 = .ok (.bipush 57, 2) := by decide +kernel
theorem dX11_see_54 : decode cX11_see 54 = .ok (.iaload, 1) := by decide +kernel
theorem dX11_see_55 : decode cX11_see 55 = .ok (.imul, 1) := by decide +kernel
theorem dX11_see_56 : decode cX11_see 56 = .ok (.iadd, 1) := by decide +kernel
theorem dX11_see_57 : decode cX11_see 57 = .ok (.istore 4, 2) := by decide +kernel
theorem dX11_see_59 : decode cX11_see 59 = .ok (.aload_n 0, 1) := by decide +kernel
theorem dX11_see_60 : decode cX11_see 60 = .ok (.getfield 7, 3) := by decide +kernel
theorem dX11_see_63 : decode cX11_see 63 = .ok (.iload 4, 2) := by decide +kernel
theorem dX11_see_65 : decode cX11_see 65 = .ok (.iload_n 1, 1) := by decide +kernel
theorem dX11_see_66 : decode cX11_see 66 = .ok (.iastore, 1) := by decide +kernel
theorem dX11_see_67 : decode cX11_see 67 = .ok (.aload_n 0, 1) := by decide +kernel
theorem dX11_see_68 : decode cX11_see 68 = .ok (.getfield 7, 3) := by decide +kernel
theorem dX11_see_71 : decode cX11_see 71 = .ok (.iload 4, 2) := by decide +kernel
theorem dX11_see_73 : decode cX11_see 73 = .ok (.iconst 1, 1) := by decide +kernel
theorem dX11_see_74 : decode cX11_see 74 = .ok (.iadd, 1) := by decide +kernel
theorem dX11_see_75 : decode cX11_see 75 = .ok (.iload_n 2, 1) := by decide +kernel
theorem dX11_see_76 : decode cX11_see 76 = .ok (.iastore, 1) := by decide +kernel
theorem dX11_see_77 : decode cX11_see 77 = .ok (.aload_n 0, 1) := by decide +kernel
theorem dX11_see_78 : decode cX11_see 78 = .ok (.getfield 7, 3) := by decide +kernel
theorem dX11_see_81 : decode cX11_see 81 = .ok (.iload 4, 2) := by decide +kernel
theorem dX11_see_83 : decode cX11_see 83 = .ok (.iconst 2, 1) := by decide +kernel
theorem dX11_see_84 : decode cX11_see 84 = .ok (.iadd, 1) := by decide +kernel
theorem dX11_see_85 : decode cX11_see 85 = .ok (.iload_n 3, 1) := by decide +kernel
theorem dX11_see_86 : decode cX11_see 86 = .ok (.iastore, 1) := by decide +kernel
theorem dX11_see_87 : decode cX11_see 87 = .ok (.aload_n 0, 1) := by decide +kernel
theorem dX11_see_88 : decode cX11_see 88 = .ok (.getfield 7, 3) := by decide +kernel
theorem dX11_see_91 : decode cX11_see 91 = .ok (.bipush 57, 2) := by decide +kernel
theorem dX11_see_93 : decode cX11_see 93 = .ok (.dup2, 1) := by decide +kernel
theorem dX11_see_94 : decode cX11_see 94 = .ok (.iaload, 1) := by decide +kernel
theorem dX11_see_95 : decode cX11_see 95 = .ok (.iconst 1, 1) := by decide +kernel
theorem dX11_see_96 : decode cX11_see 96 = .ok (.iadd, 1) := by decide +kernel
theorem dX11_see_97 : decode cX11_see 97 = .ok (.iastore, 1) := by decide +kernel
theorem dX11_see_98 : decode cX11_see 98 = .ok (.aload_n 0, 1) := by decide +kernel
theorem dX11_see_99 : decode cX11_see 99 = .ok (.getfield 7, 3) := by decide +kernel
theorem dX11_see_102 : decode cX11_see 102 = .ok (.bipush 57, 2) := by decide +kernel
theorem dX11_see_104 : decode cX11_see 104 = .ok (.iaload, 1) := by decide +kernel
theorem dX11_see_105 : decode cX11_see 105 = .ok (.ireturn, 1) := by decide +kernel
theorem dX11_forget_0 : decode cX11_forget 0 = .ok (.iload_n 1, 1) := by decide +kernel
theorem dX11_forget_1 : decode cX11_forget 1 = .ok (.i2l, 1) := by decide +kernel
theorem dX11_forget_2 : decode cX11_forget 2 = .ok (.lconst 0, 1) := by decide +kernel
theorem dX11_forget_3 : decode cX11_forget 3 = .ok (.aload_n 0, 1) := by decide +kernel
theorem dX11_forget_4 : decode cX11_forget 4 = .ok (.getfield 7, 3) := by decide +kernel
theorem dX11_forget_7 : decode cX11_forget 7 = .ok (.bipush 57, 2) := by decide +kernel
theorem dX11_forget_9 : decode cX11_forget 9 = .ok (.iaload, 1) := by decide +kernel
theorem dX11_forget_10 : decode cX11_forget 10 = .ok (.i2l, 1) := by decide +kernel
theorem dX11_forget_11 : decode cX11_forget 11 = .ok (.invokestatic 66, 3) := by decide +kernel
theorem dX11_forget_14 : decode cX11_forget 14 = .ok (.ifCond .eq 13, 3) := by decide +kernel
theorem dX11_forget_17 : decode cX11_forget 17 = .ok (.aload_n 0, 1) := by decide +kernel
theorem dX11_forget_18 : decode cX11_forget 18 = .ok (.bipush 57, 2) := by decide +kernel
theorem dX11_forget_20 : decode cX11_forget 20 = .ok (.iload_n 1, 1) := by decide +kernel
theorem dX11_forget_21 : decode cX11_forget 21 = .ok (.invokevirtual 215, 3) := by decide +kernel
theorem dX11_forget_24 : decode cX11_forget 24 = .ok (.goto 4, 3) := by decide +kernel
theorem dX11_forget_27 : decode cX11_forget 27 = .ok (.iconst (-1), 1) := by decide +kernel
theorem dX11_forget_28 : decode cX11_forget 28 = .ok (.ireturn, 1) := by decide +kernel
theorem dX11_couldBe_0 : decode cX11_couldBe 0 = .ok (.iconst 0, 1) := by decide +kernel
theorem dX11_couldBe_1 : decode cX11_couldBe 1 = .ok (.istore 4, 2) := by decide +kernel
theorem dX11_couldBe_3 : decode cX11_couldBe 3 = .ok (.aload_n 0, 1) := by decide +kernel
theorem dX11_couldBe_4 : decode cX11_couldBe 4 = .ok (.getfield 7, 3) := by decide +kernel
theorem dX11_couldBe_7 : decode cX11_couldBe 7 = .ok (.bipush 20, 2) := by decide +kernel
theorem dX11_couldBe_9 : decode cX11_couldBe 9 = .ok (.bipush 7, 2) := by decide +kernel
theorem dX11_couldBe_11 : decode cX11_couldBe 11 = .ok (.iload_n 2, 1) := by decide +kernel
theorem dX11_couldBe_12 : decode cX11_couldBe 12 = .ok (.imul, 1) := by decide +kernel
theorem dX11_couldBe_13 : decode cX11_couldBe 13 = .ok (.iadd, 1) := by decide +kernel
theorem dX11_couldBe_14 : decode cX11_couldBe 14 = .ok (.iconst 1, 1) := by decide +kernel
theorem dX11_couldBe_15 : decode cX11_couldBe 15 = .ok (.iadd, 1) := by decide +kernel
theorem dX11_couldBe_16 : decode cX11_couldBe 16 = .ok (.iaload, 1) := by decide +kernel
theorem dX11_couldBe_17 : decode cX11_couldBe 17 = .ok (.istore 5, 2) := by decide +kernel
theorem dX11_couldBe_19 : decode cX11_couldBe 19 = .ok (.iload 5, 2) := by decide +kernel
theorem dX11_couldBe_21 : decode cX11_couldBe 21 = .ok (.aload_n 0, 1) := by decide +kernel
theorem dX11_couldBe_22 : decode cX11_couldBe 22 = .ok (.getfield 7, 3) := by decide +kernel
theorem dX11_couldBe_25 : decode cX11_couldBe 25 = .ok (.bipush 20, 2) := by decide +kernel
theorem dX11_couldBe_27 : decode cX11_couldBe 27 = .ok (.bipush 7, 2) := by decide +kernel
theorem dX11_couldBe_29 : decode cX11_couldBe 29 = .ok (.iload_n 2, 1) := by decide +kernel
theorem dX11_couldBe_30 : decode cX11_couldBe 30 = .ok (.imul, 1) := by decide +kernel
theorem dX11_couldBe_31 : decode cX11_couldBe 31 = .ok (.iadd, 1) := by decide +kernel
theorem dX11_couldBe_32 : decode cX11_couldBe 32 = .ok (.iconst 2, 1) := by decide +kernel
theorem dX11_couldBe_33 : decode cX11_couldBe 33 = .ok (.iadd, 1) := by decide +kernel
theorem dX11_couldBe_34 : decode cX11_couldBe 34 = .ok (.iaload, 1) := by decide +kernel
theorem dX11_couldBe_35 : decode cX11_couldBe 35 = .ok (.if_icmp .gt 31, 3) := by decide +kernel
theorem dX11_couldBe_38 : decode cX11_couldBe 38 = .ok (.iload 4, 2) := by decide +kernel
theorem dX11_couldBe_40 : decode cX11_couldBe 40 = .ok (.ifCond .ne 13, 3) := by decide +kernel
theorem dX11_couldBe_43 : decode cX11_couldBe 43 = .ok (.iload_n 1, 1) := by decide +kernel
theorem dX11_couldBe_44 : decode cX11_couldBe 44 = .ok (.iload 5, 2) := by decide +kernel
theorem dX11_couldBe_46 : decode cX11_couldBe 46 = .ok (.invokestatic 142, 3) := by decide +kernel
theorem dX11_couldBe_49 : decode cX11_couldBe 49 = .ok (.iload_n 3, 1) := by decide +kernel
theorem dX11_couldBe_50 : decode cX11_couldBe 50 = .ok (.if_icmp .ne 7, 3) := by decide +kernel
theorem dX11_couldBe_53 : decode cX11_couldBe 53 = .ok (.iconst 1, 1) := by decide +kernel
theorem dX11_couldBe_54 : decode cX11_couldBe 54 = .ok (.goto 4, 3) := by decide +kernel
theorem dX11_couldBe_57 : decode cX11_couldBe 57 = .ok (.iconst 0, 1) := by decide +kernel
theorem dX11_couldBe_58 : decode cX11_couldBe 58 = .ok (.istore 4, 2) := by decide +kernel
theorem dX11_couldBe_60 : decode cX11_couldBe 60 = .ok (.iinc 5 1, 3) := by decide +kernel
theorem dX11_couldBe_63 : decode cX11_couldBe 63 = .ok (.goto (-44), 3) := by decide +kernel
theorem dX11_couldBe_66 : decode cX11_couldBe 66 = .ok (.iload 4, 2) := by decide +kernel
theorem dX11_couldBe_68 : decode cX11_couldBe 68 = .ok (.ireturn, 1) := by decide +kernel
theorem dX11_kindsOf_0 : decode cX11_kindsOf 0 = .ok (.iconst 0, 1) := by decide +kernel
theorem dX11_kindsOf_1 : decode cX11_kindsOf 1 = .ok (.istore_n 2, 1) := by decide +kernel
theorem dX11_kindsOf_2 : decode cX11_kindsOf 2 = .ok (.iconst 0, 1) := by decide +kernel
theorem dX11_kindsOf_3 : decode cX11_kindsOf 3 = .ok (.istore_n 3, 1) := by decide +kernel
theorem dX11_kindsOf_4 : decode cX11_kindsOf 4 = .ok (.iload_n 3, 1) := by decide +kernel
theorem dX11_kindsOf_5 : decode cX11_kindsOf 5 = .ok (.iconst 4, 1) := by decide +kernel
theorem dX11_kindsOf_6 : decode cX11_kindsOf 6 = .ok (.if_icmp .ge 101, 3) := by decide +kernel
theorem dX11_kindsOf_9 : decode cX11_kindsOf 9 = .ok (.iconst 1, 1) := by decide +kernel
theorem dX11_kindsOf_10 : decode cX11_kindsOf 10 = .ok (.istore 4, 2) := by decide +kernel
theorem dX11_kindsOf_12 : decode cX11_kindsOf 12 = .ok (.iconst 0, 1) := by decide +kernel
theorem dX11_kindsOf_13 : decode cX11_kindsOf 13 = .ok (.istore 5, 2) := by decide +kernel
theorem dX11_kindsOf_15 : decode cX11_kindsOf 15 = .ok (.iload 5, 2) := by decide +kernel
theorem dX11_kindsOf_17 : decode cX11_kindsOf 17 = .ok (.aload_n 0, 1) := by decide +kernel
theorem dX11_kindsOf_18 : decode cX11_kindsOf 18 = .ok (.getfield 7, 3) := by decide +kernel
theorem dX11_kindsOf_21 : decode cX11_kindsOf 21 = .ok (.bipush 57, 2) := by decide +kernel
theorem dX11_kindsOf_23 : decode cX11_kindsOf 23 = .ok (.iaload, 1) := by decide +kernel
theorem dX11_kindsOf_24 : decode cX11_kindsOf 24 = .ok (.if_icmp .ge 67, 3) := by decide +kernel
theorem dX11_kindsOf_27 : decode cX11_kindsOf 27 = .ok (.bipush 58, 2) := by decide +kernel
theorem dX11_kindsOf_29 : decode cX11_kindsOf 29 = .ok (.iconst 3, 1) := by decide +kernel
theorem dX11_kindsOf_30 : decode cX11_kindsOf 30 = .ok (.iload 5, 2) := by decide +kernel
theorem dX11_kindsOf_32 : decode cX11_kindsOf 32 = .ok (.imul, 1) := by decide +kernel
theorem dX11_kindsOf_33 : decode cX11_kindsOf 33 = .ok (.iadd, 1) := by decide +kernel
theorem dX11_kindsOf_34 : decode cX11_kindsOf 34 = .ok (.istore 6, 2) := by decide +kernel
theorem dX11_kindsOf_36 : decode cX11_kindsOf 36 = .ok (.iload 4, 2) := by decide +kernel
theorem dX11_kindsOf_38 : decode cX11_kindsOf 38 = .ok (.ifCond .eq 44, 3) := by decide +kernel
theorem dX11_kindsOf_41 : decode cX11_kindsOf 41 = .ok (.aload_n 0, 1) := by decide +kernel
theorem dX11_kindsOf_42 : decode cX11_kindsOf 42 = .ok (.getfield 7, 3) := by decide +kernel
theorem dX11_kindsOf_45 : decode cX11_kindsOf 45 = .ok (.iload 6, 2) := by decide +kernel
theorem dX11_kindsOf_47 : decode cX11_kindsOf 47 = .ok (.iaload, 1) := by decide +kernel
theorem dX11_kindsOf_48 : decode cX11_kindsOf 48 = .ok (.iload_n 1, 1) := by decide +kernel
theorem dX11_kindsOf_49 : decode cX11_kindsOf 49 = .ok (.if_icmp .ne 29, 3) := by decide +kernel
theorem dX11_kindsOf_52 : decode cX11_kindsOf 52 = .ok (.aload_n 0, 1) := by decide +kernel
theorem dX11_kindsOf_53 : decode cX11_kindsOf 53 = .ok (.iload_n 3, 1) := by decide +kernel
theorem dX11_kindsOf_54 : decode cX11_kindsOf 54 = .ok (.aload_n 0, 1) := by decide +kernel
theorem dX11_kindsOf_55 : decode cX11_kindsOf 55 = .ok (.getfield 7, 3) := by decide +kernel
theorem dX11_kindsOf_58 : decode cX11_kindsOf 58 = .ok (.iload 6, 2) := by decide +kernel
theorem dX11_kindsOf_60 : decode cX11_kindsOf 60 = .ok (.iconst 1, 1) := by decide +kernel
theorem dX11_kindsOf_61 : decode cX11_kindsOf 61 = .ok (.iadd, 1) := by decide +kernel
theorem dX11_kindsOf_62 : decode cX11_kindsOf 62 = .ok (.iaload, 1) := by decide +kernel
theorem dX11_kindsOf_63 : decode cX11_kindsOf 63 = .ok (.aload_n 0, 1) := by decide +kernel
theorem dX11_kindsOf_64 : decode cX11_kindsOf 64 = .ok (.getfield 7, 3) := by decide +kernel
theorem dX11_kindsOf_67 : decode cX11_kindsOf 67 = .ok (.iload 6, 2) := by decide +kernel
theorem dX11_kindsOf_69 : decode cX11_kindsOf 69 = .ok (.iconst 2, 1) := by decide +kernel
theorem dX11_kindsOf_70 : decode cX11_kindsOf 70 = .ok (.iadd, 1) := by decide +kernel
theorem dX11_kindsOf_71 : decode cX11_kindsOf 71 = .ok (.iaload, 1) := by decide +kernel
theorem dX11_kindsOf_72 : decode cX11_kindsOf 72 = .ok (.invokevirtual 281, 3) := by decide +kernel
theorem dX11_kindsOf_75 : decode cX11_kindsOf 75 = .ok (.ifCond .eq 7, 3) := by decide +kernel
theorem dX11_kindsOf_78 : decode cX11_kindsOf 78 = .ok (.iconst 1, 1) := by decide +kernel
theorem dX11_kindsOf_79 : decode cX11_kindsOf 79 = .ok (.goto 4, 3) := by decide +kernel
theorem dX11_kindsOf_82 : decode cX11_kindsOf 82 = .ok (.iconst 0, 1) := by decide +kernel
theorem dX11_kindsOf_83 : decode cX11_kindsOf 83 = .ok (.istore 4, 2) := by decide +kernel
theorem dX11_kindsOf_85 : decode cX11_kindsOf 85 = .ok (.iinc 5 1, 3) := by decide +kernel
theorem dX11_kindsOf_88 : decode cX11_kindsOf 88 = .ok (.goto (-73), 3) := by decide +kernel
theorem dX11_kindsOf_91 : decode cX11_kindsOf 91 = .ok (.iload_n 2, 1) := by decide +kernel
theorem dX11_kindsOf_92 : decode cX11_kindsOf 92 = .ok (.iload 4, 2) := by decide +kernel
theorem dX11_kindsOf_94 : decode cX11_kindsOf 94 = .ok (.invokestatic 161, 3) := by decide +kernel
theorem dX11_kindsOf_97 : decode cX11_kindsOf 97 = .ok (.iload_n 3, 1) := by decide +kernel
theorem dX11_kindsOf_98 : decode cX11_kindsOf 98 = .ok (.ishl, 1) := by decide +kernel
theorem dX11_kindsOf_99 : decode cX11_kindsOf 99 = .ok (.ior, 1) := by decide +kernel
theorem dX11_kindsOf_100 : decode cX11_kindsOf 100 = .ok (.istore_n 2, 1) := by decide +kernel
theorem dX11_kindsOf_101 : decode cX11_kindsOf 101 = .ok (.iinc 3 1, 3) := by decide +kernel
theorem dX11_kindsOf_104 : decode cX11_kindsOf 104 = .ok (.goto (-100), 3) := by decide +kernel
theorem dX11_kindsOf_107 : decode cX11_kindsOf 107 = .ok (.iload_n 2, 1) := by decide +kernel
theorem dX11_kindsOf_108 : decode cX11_kindsOf 108 = .ok (.ireturn, 1) := by decide +kernel
theorem dX11_kinds_0 : decode cX11_kinds 0 = .ok (.aload_n 0, 1) := by decide +kernel
theorem dX11_kinds_1 : decode cX11_kinds 1 = .ok (.iload_n 1, 1) := by decide +kernel
theorem dX11_kinds_2 : decode cX11_kinds 2 = .ok (.invokevirtual 198, 3) := by decide +kernel
theorem dX11_kinds_5 : decode cX11_kinds 5 = .ok (.ifCond .eq 11, 3) := by decide +kernel
theorem dX11_kinds_8 : decode cX11_kinds 8 = .ok (.aload_n 0, 1) := by decide +kernel
theorem dX11_kinds_9 : decode cX11_kinds 9 = .ok (.iload_n 1, 1) := by decide +kernel
theorem dX11_kinds_10 : decode cX11_kinds 10 = .ok (.invokevirtual 284, 3) := by decide +kernel
theorem dX11_kinds_13 : decode cX11_kinds 13 = .ok (.goto 4, 3) := by decide +kernel
theorem dX11_kinds_16 : decode cX11_kinds 16 = .ok (.iconst (-1), 1) := by decide +kernel
theorem dX11_kinds_17 : decode cX11_kinds 17 = .ok (.ireturn, 1) := by decide +kernel
theorem dX11_isSo_0 : decode cX11_isSo 0 = .ok (.iconst 1, 1) := by decide +kernel
theorem dX11_isSo_1 : decode cX11_isSo 1 = .ok (.istore 5, 2) := by decide +kernel
theorem dX11_isSo_3 : decode cX11_isSo 3 = .ok (.iconst 0, 1) := by decide +kernel
theorem dX11_isSo_4 : decode cX11_isSo 4 = .ok (.istore 6, 2) := by decide +kernel
theorem dX11_isSo_6 : decode cX11_isSo 6 = .ok (.iload 6, 2) := by decide +kernel
theorem dX11_isSo_8 : decode cX11_isSo 8 = .ok (.aload_n 0, 1) := by decide +kernel
theorem dX11_isSo_9 : decode cX11_isSo 9 = .ok (.getfield 7, 3) := by decide +kernel
theorem dX11_isSo_12 : decode cX11_isSo 12 = .ok (.bipush 57, 2) := by decide +kernel
theorem dX11_isSo_14 : decode cX11_isSo 14 = .ok (.iaload, 1) := by decide +kernel
theorem dX11_isSo_15 : decode cX11_isSo 15 = .ok (.if_icmp .ge 72, 3) := by decide +kernel
theorem dX11_isSo_18 : decode cX11_isSo 18 = .ok (.bipush 58, 2) := by decide +kernel
theorem dX11_isSo_20 : decode cX11_isSo 20 = .ok (.iconst 3, 1) := by decide +kernel
theorem dX11_isSo_21 : decode cX11_isSo 21 = .ok (.iload 6, 2) := by decide +kernel
theorem dX11_isSo_23 : decode cX11_isSo 23 = .ok (.imul, 1) := by decide +kernel
theorem dX11_isSo_24 : decode cX11_isSo 24 = .ok (.iadd, 1) := by decide +kernel
theorem dX11_isSo_25 : decode cX11_isSo 25 = .ok (.istore 7, 2) := by decide +kernel
theorem dX11_isSo_27 : decode cX11_isSo 27 = .ok (.iload 5, 2) := by decide +kernel
theorem dX11_isSo_29 : decode cX11_isSo 29 = .ok (.ifCond .eq 49, 3) := by decide +kernel
theorem dX11_isSo_32 : decode cX11_isSo 32 = .ok (.aload_n 0, 1) := by decide +kernel
theorem dX11_isSo_33 : decode cX11_isSo 33 = .ok (.getfield 7, 3) := by decide +kernel
theorem dX11_isSo_36 : decode cX11_isSo 36 = .ok (.iload 7, 2) := by decide +kernel
theorem dX11_isSo_38 : decode cX11_isSo 38 = .ok (.iaload, 1) := by decide +kernel
theorem dX11_isSo_39 : decode cX11_isSo 39 = .ok (.iload_n 1, 1) := by decide +kernel
theorem dX11_isSo_40 : decode cX11_isSo 40 = .ok (.if_icmp .ne 34, 3) := by decide +kernel
theorem dX11_isSo_43 : decode cX11_isSo 43 = .ok (.aload_n 0, 1) := by decide +kernel
theorem dX11_isSo_44 : decode cX11_isSo 44 = .ok (.getfield 7, 3) := by decide +kernel
theorem dX11_isSo_47 : decode cX11_isSo 47 = .ok (.iload 7, 2) := by decide +kernel
theorem dX11_isSo_49 : decode cX11_isSo 49 = .ok (.iconst 1, 1) := by decide +kernel
theorem dX11_isSo_50 : decode cX11_isSo 50 = .ok (.iadd, 1) := by decide +kernel
theorem dX11_isSo_51 : decode cX11_isSo 51 = .ok (.iaload, 1) := by decide +kernel
theorem dX11_isSo_52 : decode cX11_isSo 52 = .ok (.iload_n 2, 1) := by decide +kernel
theorem dX11_isSo_53 : decode cX11_isSo 53 = .ok (.if_icmp .ne 21, 3) := by decide +kernel
theorem dX11_isSo_56 : decode cX11_isSo 56 = .ok (.iload_n 3, 1) := by decide +kernel
theorem dX11_isSo_57 : decode cX11_isSo 57 = .ok (.iload 4, 2) := by decide +kernel
theorem dX11_isSo_59 : decode cX11_isSo 59 = .ok (.invokestatic 142, 3) := by decide +kernel
theorem dX11_isSo_62 : decode cX11_isSo 62 = .ok (.aload_n 0, 1) := by decide +kernel
theorem dX11_isSo_63 : decode cX11_isSo 63 = .ok (.getfield 7, 3) := by decide +kernel
theorem dX11_isSo_66 : decode cX11_isSo 66 = .ok (.iload 7, 2) := by decide +kernel
theorem dX11_isSo_68 : decode cX11_isSo 68 = .ok (.iconst 2, 1) := by decide +kernel
theorem dX11_isSo_69 : decode cX11_isSo 69 = .ok (.iadd, 1) := by decide +kernel
theorem dX11_isSo_70 : decode cX11_isSo 70 = .ok (.iaload, 1) := by decide +kernel
theorem dX11_isSo_71 : decode cX11_isSo 71 = .ok (.if_icmp .ne 7, 3) := by decide +kernel
theorem dX11_isSo_74 : decode cX11_isSo 74 = .ok (.iconst 1, 1) := by decide +kernel
theorem dX11_isSo_75 : decode cX11_isSo 75 = .ok (.goto 4, 3) := by decide +kernel
theorem dX11_isSo_78 : decode cX11_isSo 78 = .ok (.iconst 0, 1) := by decide +kernel
theorem dX11_isSo_79 : decode cX11_isSo 79 = .ok (.istore 5, 2) := by decide +kernel
theorem dX11_isSo_81 : decode cX11_isSo 81 = .ok (.iinc 6 1, 3) := by decide +kernel
theorem dX11_isSo_84 : decode cX11_isSo 84 = .ok (.goto (-78), 3) := by decide +kernel
theorem dX11_isSo_87 : decode cX11_isSo 87 = .ok (.iload 5, 2) := by decide +kernel
theorem dX11_isSo_89 : decode cX11_isSo 89 = .ok (.ireturn, 1) := by decide +kernel
theorem dX11_isTermSo_0 : decode cX11_isTermSo 0 = .ok (.iconst 1, 1) := by decide +kernel
theorem dX11_isTermSo_1 : decode cX11_isTermSo 1 = .ok (.istore_n 3, 1) := by decide +kernel
theorem dX11_isTermSo_2 : decode cX11_isTermSo 2 = .ok (.iconst 0, 1) := by decide +kernel
theorem dX11_isTermSo_3 : decode cX11_isTermSo 3 = .ok (.istore 4, 2) := by decide +kernel
theorem dX11_isTermSo_5 : decode cX11_isTermSo 5 = .ok (.iload 4, 2) := by decide +kernel
theorem dX11_isTermSo_7 : decode cX11_isTermSo 7 = .ok (.aload_n 0, 1) := by decide +kernel
theorem dX11_isTermSo_8 : decode cX11_isTermSo 8 = .ok (.getfield 58, 3) := by decide +kernel
theorem dX11_isTermSo_11 : decode cX11_isTermSo 11 = .ok (.if_icmp .ge 96, 3) := by decide +kernel
theorem dX11_isTermSo_14 : decode cX11_isTermSo 14 = .ok (.iconst 0, 1) := by decide +kernel
theorem dX11_isTermSo_15 : decode cX11_isTermSo 15 = .ok (.istore 5, 2) := by decide +kernel
theorem dX11_isTermSo_17 : decode cX11_isTermSo 17 = .ok (.aload_n 0, 1) := by decide +kernel
theorem dX11_isTermSo_18 : decode cX11_isTermSo 18 = .ok (.iload 4, 2) := by decide +kernel
theorem dX11_isTermSo_20 : decode cX11_isTermSo 20 = .ok (.invokevirtual 284, 3) := by decide +kernel
theorem dX11_isTermSo_23 : decode cX11_isTermSo 23 = .ok (.istore 6, 2) := by decide +kernel
theorem dX11_isTermSo_25 : decode cX11_isTermSo 25 = .ok (.iconst 0, 1) := by decide +kernel
theorem dX11_isTermSo_26 : decode cX11_isTermSo 26 = .ok (.istore 7, 2) := by decide +kernel
theorem dX11_isTermSo_28 : decode cX11_isTermSo 28 = .ok (.iload 7, 2) := by decide +kernel
theorem dX11_isTermSo_30 : decode cX11_isTermSo 30 = .ok (.iconst 4, 1) := by decide +kernel
theorem dX11_isTermSo_31 : decode cX11_isTermSo 31 = .ok (.if_icmp .ge 45, 3) := by decide +kernel
theorem dX11_isTermSo_34 : decode cX11_isTermSo 34 = .ok (.iload 5, 2) := by decide +kernel
theorem dX11_isTermSo_36 : decode cX11_isTermSo 36 = .ok (.ifCond .ne 27, 3) := by decide +kernel
theorem dX11_isTermSo_39 : decode cX11_isTermSo 39 = .ok (.iload 6, 2) := by decide +kernel
theorem dX11_isTermSo_41 : decode cX11_isTermSo 41 = .ok (.iload 7, 2) := by decide +kernel
theorem dX11_isTermSo_43 : decode cX11_isTermSo 43 = .ok (.ishr, 1) := by decide +kernel
theorem dX11_isTermSo_44 : decode cX11_isTermSo 44 = .ok (.iconst 1, 1) := by decide +kernel
theorem dX11_isTermSo_45 : decode cX11_isTermSo 45 = .ok (.iand, 1) := by decide +kernel
theorem dX11_isTermSo_46 : decode cX11_isTermSo 46 = .ok (.iconst 1, 1) := by decide +kernel
theorem dX11_isTermSo_47 : decode cX11_isTermSo 47 = .ok (.if_icmp .ne 20, 3) := by decide +kernel
theorem dX11_isTermSo_50 : decode cX11_isTermSo 50 = .ok (.aload_n 0, 1) := by decide +kernel
theorem dX11_isTermSo_51 : decode cX11_isTermSo 51 = .ok (.iload 4, 2) := by decide +kernel
theorem dX11_isTermSo_53 : decode cX11_isTermSo 53 = .ok (.iload_n 1, 1) := by decide +kernel
theorem dX11_isTermSo_54 : decode cX11_isTermSo 54 = .ok (.iload 7, 2) := by decide +kernel
theorem dX11_isTermSo_56 : decode cX11_isTermSo 56 = .ok (.iload_n 2, 1) := by decide +kernel
theorem dX11_isTermSo_57 : decode cX11_isTermSo 57 = .ok (.invokevirtual 287, 3) := by decide +kernel
theorem dX11_isTermSo_60 : decode cX11_isTermSo 60 = .ok (.ifCond .eq 7, 3) := by decide +kernel
theorem dX11_isTermSo_63 : decode cX11_isTermSo 63 = .ok (.iconst 1, 1) := by decide +kernel
theorem dX11_isTermSo_64 : decode cX11_isTermSo 64 = .ok (.goto 4, 3) := by decide +kernel
theorem dX11_isTermSo_67 : decode cX11_isTermSo 67 = .ok (.iconst 0, 1) := by decide +kernel
theorem dX11_isTermSo_68 : decode cX11_isTermSo 68 = .ok (.istore 5, 2) := by decide +kernel
theorem dX11_isTermSo_70 : decode cX11_isTermSo 70 = .ok (.iinc 7 1, 3) := by decide +kernel
theorem dX11_isTermSo_73 : decode cX11_isTermSo 73 = .ok (.goto (-45), 3) := by decide +kernel
theorem dX11_isTermSo_76 : decode cX11_isTermSo 76 = .ok (.iload_n 3, 1) := by decide +kernel
theorem dX11_isTermSo_77 : decode cX11_isTermSo 77 = .ok (.ifCond .eq 22, 3) := by decide +kernel
theorem dX11_isTermSo_80 : decode cX11_isTermSo 80 = .ok (.iload 5, 2) := by decide +kernel
theorem dX11_isTermSo_82 : decode cX11_isTermSo 82 = .ok (.ifCond .ne 13, 3) := by decide +kernel
theorem dX11_isTermSo_85 : decode cX11_isTermSo 85 = .ok (.aload_n 0, 1) := by decide +kernel
theorem dX11_isTermSo_86 : decode cX11_isTermSo 86 = .ok (.iload 4, 2) := by decide +kernel
theorem dX11_isTermSo_88 : decode cX11_isTermSo 88 = .ok (.iload_n 1, 1) := by decide +kernel
theorem dX11_isTermSo_89 : decode cX11_isTermSo 89 = .ok (.invokevirtual 290, 3) := by decide +kernel
theorem dX11_isTermSo_92 : decode cX11_isTermSo 92 = .ok (.ifCond .ne 7, 3) := by decide +kernel
theorem dX11_isTermSo_95 : decode cX11_isTermSo 95 = .ok (.iconst 1, 1) := by decide +kernel
theorem dX11_isTermSo_96 : decode cX11_isTermSo 96 = .ok (.goto 4, 3) := by decide +kernel
theorem dX11_isTermSo_99 : decode cX11_isTermSo 99 = .ok (.iconst 0, 1) := by decide +kernel
theorem dX11_isTermSo_100 : decode cX11_isTermSo 100 = .ok (.istore_n 3, 1) := by decide +kernel
theorem dX11_isTermSo_101 : decode cX11_isTermSo 101 = .ok (.iinc 4 1, 3) := by decide +kernel
theorem dX11_isTermSo_104 : decode cX11_isTermSo 104 = .ok (.goto (-99), 3) := by decide +kernel
theorem dX11_isTermSo_107 : decode cX11_isTermSo 107 = .ok (.iload_n 3, 1) := by decide +kernel
theorem dX11_isTermSo_108 : decode cX11_isTermSo 108 = .ok (.ireturn, 1) := by decide +kernel
theorem dX11_isSeenIn_0 : decode cX11_isSeenIn 0 = .ok (.iconst 0, 1) := by decide +kernel
theorem dX11_isSeenIn_1 : decode cX11_isSeenIn 1 = .ok (.istore_n 3, 1) := by decide +kernel
theorem dX11_isSeenIn_2 : decode cX11_isSeenIn 2 = .ok (.iconst 0, 1) := by decide +kernel
theorem dX11_isSeenIn_3 : decode cX11_isSeenIn 3 = .ok (.istore 4, 2) := by decide +kernel
theorem dX11_isSeenIn_5 : decode cX11_isSeenIn 5 = .ok (.iload 4, 2) := by decide +kernel
theorem dX11_isSeenIn_7 : decode cX11_isSeenIn 7 = .ok (.aload_n 0, 1) := by decide +kernel
theorem dX11_isSeenIn_8 : decode cX11_isSeenIn 8 = .ok (.getfield 7, 3) := by decide +kernel
theorem dX11_isSeenIn_11 : decode cX11_isSeenIn 11 = .ok (.bipush 57, 2) := by decide +kernel
theorem dX11_isSeenIn_13 : decode cX11_isSeenIn 13 = .ok (.iaload, 1) := by decide +kernel
theorem dX11_isSeenIn_14 : decode cX11_isSeenIn 14 = .ok (.if_icmp .ge 53, 3) := by decide +kernel
theorem dX11_isSeenIn_17 : decode cX11_isSeenIn 17 = .ok (.iload_n 3, 1) := by decide +kernel
theorem dX11_isSeenIn_18 : decode cX11_isSeenIn 18 = .ok (.ifCond .ne 37, 3) := by decide +kernel
theorem dX11_isSeenIn_21 : decode cX11_isSeenIn 21 = .ok (.aload_n 0, 1) := by decide +kernel
theorem dX11_isSeenIn_22 : decode cX11_isSeenIn 22 = .ok (.getfield 7, 3) := by decide +kernel
theorem dX11_isSeenIn_25 : decode cX11_isSeenIn 25 = .ok (.bipush 58, 2) := by decide +kernel
theorem dX11_isSeenIn_27 : decode cX11_isSeenIn 27 = .ok (.iconst 3, 1) := by decide +kernel
theorem dX11_isSeenIn_28 : decode cX11_isSeenIn 28 = .ok (.iload 4, 2) := by decide +kernel
theorem dX11_isSeenIn_30 : decode cX11_isSeenIn 30 = .ok (.imul, 1) := by decide +kernel
theorem dX11_isSeenIn_31 : decode cX11_isSeenIn 31 = .ok (.iadd, 1) := by decide +kernel
theorem dX11_isSeenIn_32 : decode cX11_isSeenIn 32 = .ok (.iaload, 1) := by decide +kernel
theorem dX11_isSeenIn_33 : decode cX11_isSeenIn 33 = .ok (.iload_n 1, 1) := by decide +kernel
theorem dX11_isSeenIn_34 : decode cX11_isSeenIn 34 = .ok (.if_icmp .ne 25, 3) := by decide +kernel
theorem dX11_isSeenIn_37 : decode cX11_isSeenIn 37 = .ok (.aload_n 0, 1) := by decide +kernel
theorem dX11_isSeenIn_38 : decode cX11_isSeenIn 38 = .ok (.getfield 7, 3) := by decide +kernel
theorem dX11_isSeenIn_41 : decode cX11_isSeenIn 41 = .ok (.bipush 58, 2) := by decide +kernel
theorem dX11_isSeenIn_43 : decode cX11_isSeenIn 43 = .ok (.iconst 3, 1) := by decide +kernel
theorem dX11_isSeenIn_44 : decode cX11_isSeenIn 44 = .ok (.iload 4, 2) := by decide +kernel
theorem dX11_isSeenIn_46 : decode cX11_isSeenIn 46 = .ok (.imul, 1) := by decide +kernel
theorem dX11_isSeenIn_47 : decode cX11_isSeenIn 47 = .ok (.iadd, 1) := by decide +kernel
theorem dX11_isSeenIn_48 : decode cX11_isSeenIn 48 = .ok (.iconst 1, 1) := by decide +kernel
theorem dX11_isSeenIn_49 : decode cX11_isSeenIn 49 = .ok (.iadd, 1) := by decide +kernel
theorem dX11_isSeenIn_50 : decode cX11_isSeenIn 50 = .ok (.iaload, 1) := by decide +kernel
theorem dX11_isSeenIn_51 : decode cX11_isSeenIn 51 = .ok (.iload_n 2, 1) := by decide +kernel
theorem dX11_isSeenIn_52 : decode cX11_isSeenIn 52 = .ok (.if_icmp .ne 7, 3) := by decide +kernel
theorem dX11_isSeenIn_55 : decode cX11_isSeenIn 55 = .ok (.iconst 1, 1) := by decide +kernel
theorem dX11_isSeenIn_56 : decode cX11_isSeenIn 56 = .ok (.goto 4, 3) := by decide +kernel
theorem dX11_isSeenIn_59 : decode cX11_isSeenIn 59 = .ok (.iconst 0, 1) := by decide +kernel
theorem dX11_isSeenIn_60 : decode cX11_isSeenIn 60 = .ok (.istore_n 3, 1) := by decide +kernel
theorem dX11_isSeenIn_61 : decode cX11_isSeenIn 61 = .ok (.iinc 4 1, 3) := by decide +kernel
theorem dX11_isSeenIn_64 : decode cX11_isSeenIn 64 = .ok (.goto (-59), 3) := by decide +kernel
theorem dX11_isSeenIn_67 : decode cX11_isSeenIn 67 = .ok (.iload_n 3, 1) := by decide +kernel
theorem dX11_isSeenIn_68 : decode cX11_isSeenIn 68 = .ok (.ireturn, 1) := by decide +kernel
theorem dX11_terms_0 : decode cX11_terms 0 = .ok (.aload_n 0, 1) := by decide +kernel
theorem dX11_terms_1 : decode cX11_terms 1 = .ok (.iload_n 1, 1) := by decide +kernel
theorem dX11_terms_2 : decode cX11_terms 2 = .ok (.invokevirtual 204, 3) := by decide +kernel
theorem dX11_terms_5 : decode cX11_terms 5 = .ok (.ifCond .eq 15, 3) := by decide +kernel
theorem dX11_terms_8 : decode cX11_terms 8 = .ok (.iload_n 2, 1) := by decide +kernel
theorem dX11_terms_9 : decode cX11_terms 9 = .ok (.i2l, 1) := by decide +kernel
theorem dX11_terms_10 : decode cX11_terms 10 = .ok (.lconst 0, 1) := by decide +kernel
theorem dX11_terms_11 : decode cX11_terms 11 = .ok (.ldc2_w 293, 3) := by decide +kernel
theorem dX11_terms_14 : decode cX11_terms 14 = .ok (.invokestatic 66, 3) := by decide +kernel
theorem dX11_terms_17 : decode cX11_terms 17 = .ok (.ifCond .ne 5, 3) := by decide +kernel
theorem dX11_terms_20 : decode cX11_terms 20 = .ok (.iconst (-1), 1) := by decide +kernel
theorem dX11_terms_21 : decode cX11_terms 21 = .ok (.ireturn, 1) := by decide +kernel
theorem dX11_terms_22 : decode cX11_terms 22 = .ok (.iconst 0, 1) := by decide +kernel
theorem dX11_terms_23 : decode cX11_terms 23 = .ok (.istore_n 3, 1) := by decide +kernel
theorem dX11_terms_24 : decode cX11_terms 24 = .ok (.bipush (-4), 2) := by decide +kernel
theorem dX11_terms_26 : decode cX11_terms 26 = .ok (.istore 4, 2) := by decide +kernel
theorem dX11_terms_28 : decode cX11_terms 28 = .ok (.bipush (-4), 2) := by decide +kernel
theorem dX11_terms_30 : decode cX11_terms 30 = .ok (.istore 5, 2) := by decide +kernel
theorem dX11_terms_32 : decode cX11_terms 32 = .ok (.aload_n 0, 1) := by decide +kernel
theorem dX11_terms_33 : decode cX11_terms 33 = .ok (.getfield 7, 3) := by decide +kernel
theorem dX11_terms_36 : decode cX11_terms 36 = .ok (.bipush 20, 2) := by decide +kernel
theorem dX11_terms_38 : decode cX11_terms 38 = .ok (.bipush 7, 2) := by decide +kernel
theorem dX11_terms_40 : decode cX11_terms 40 = .ok (.iload_n 1, 1) := by decide +kernel
theorem dX11_terms_41 : decode cX11_terms 41 = .ok (.imul, 1) := by decide +kernel
theorem dX11_terms_42 : decode cX11_terms 42 = .ok (.iadd, 1) := by decide +kernel
theorem dX11_terms_43 : decode cX11_terms 43 = .ok (.iconst 1, 1) := by decide +kernel
theorem dX11_terms_44 : decode cX11_terms 44 = .ok (.iadd, 1) := by decide +kernel
theorem dX11_terms_45 : decode cX11_terms 45 = .ok (.iaload, 1) := by decide +kernel
theorem dX11_terms_46 : decode cX11_terms 46 = .ok (.istore 6, 2) := by decide +kernel
theorem dX11_terms_48 : decode cX11_terms 48 = .ok (.iload 6, 2) := by decide +kernel
theorem dX11_terms_50 : decode cX11_terms 50 = .ok (.aload_n 0, 1) := by decide +kernel
theorem dX11_terms_51 : decode cX11_terms 51 = .ok (.getfield 7, 3) := by decide +kernel
theorem dX11_terms_54 : decode cX11_terms 54 = .ok (.bipush 20, 2) := by decide +kernel
theorem dX11_terms_56 : decode cX11_terms 56 = .ok (.bipush 7, 2) := by decide +kernel
theorem dX11_terms_58 : decode cX11_terms 58 = .ok (.iload_n 1, 1) := by decide +kernel
theorem dX11_terms_59 : decode cX11_terms 59 = .ok (.imul, 1) := by decide +kernel
theorem dX11_terms_60 : decode cX11_terms 60 = .ok (.iadd, 1) := by decide +kernel
theorem dX11_terms_61 : decode cX11_terms 61 = .ok (.iconst 2, 1) := by decide +kernel
theorem dX11_terms_62 : decode cX11_terms 62 = .ok (.iadd, 1) := by decide +kernel
theorem dX11_terms_63 : decode cX11_terms 63 = .ok (.iaload, 1) := by decide +kernel
theorem dX11_terms_64 : decode cX11_terms 64 = .ok (.if_icmp .gt 39, 3) := by decide +kernel
theorem dX11_terms_67 : decode cX11_terms 67 = .ok (.aload_n 0, 1) := by decide +kernel
theorem dX11_terms_68 : decode cX11_terms 68 = .ok (.iload_n 1, 1) := by decide +kernel
theorem dX11_terms_69 : decode cX11_terms 69 = .ok (.iload 6, 2) := by decide +kernel
theorem dX11_terms_71 : decode cX11_terms 71 = .ok (.invokevirtual 295, 3) := by decide +kernel
theorem dX11_terms_74 : decode cX11_terms 74 = .ok (.ifCond .eq 23, 3) := by decide +kernel
theorem dX11_terms_77 : decode cX11_terms 77 = .ok (.iload_n 3, 1) := by decide +kernel
theorem dX11_terms_78 : decode cX11_terms 78 = .ok (.ifCond .ne 8, 3) := by decide +kernel
theorem dX11_terms_81 : decode cX11_terms 81 = .ok (.iload 6, 2) := by decide +kernel
theorem dX11_terms_83 : decode cX11_terms 83 = .ok (.goto 5, 3) := by decide +kernel
theorem dX11_terms_86 : decode cX11_terms 86 = .ok (.iload 4, 2) := by decide +kernel
theorem dX11_terms_88 : decode cX11_terms 88 = .ok (.istore 4, 2) := by decide +kernel
theorem dX11_terms_90 : decode cX11_terms 90 = .ok (.iload 6, 2) := by decide +kernel
theorem dX11_terms_92 : decode cX11_terms 92 = .ok (.istore 5, 2) := by decide +kernel
theorem dX11_terms_94 : decode cX11_terms 94 = .ok (.iinc 3 1, 3) := by decide +kernel
theorem dX11_terms_97 : decode cX11_terms 97 = .ok (.iinc 6 1, 3) := by decide +kernel
theorem dX11_terms_100 : decode cX11_terms 100 = .ok (.goto (-52), 3) := by decide +kernel
theorem dX11_terms_103 : decode cX11_terms 103 = .ok (.iload_n 2, 1) := by decide +kernel
theorem dX11_terms_104 : decode cX11_terms 104 = .ok (.ifCond .ne 7, 3) := by decide +kernel
theorem dX11_terms_107 : decode cX11_terms 107 = .ok (.iload_n 3, 1) := by decide +kernel
theorem dX11_terms_108 : decode cX11_terms 108 = .ok (.goto 15, 3) := by decide +kernel
theorem dX11_terms_111 : decode cX11_terms 111 = .ok (.iload_n 2, 1) := by decide +kernel
theorem dX11_terms_112 : decode cX11_terms 112 = .ok (.iconst 1, 1) := by decide +kernel
theorem dX11_terms_113 : decode cX11_terms 113 = .ok (.if_icmp .ne 8, 3) := by decide +kernel
theorem dX11_terms_116 : decode cX11_terms 116 = .ok (.iload 4, 2) := by decide +kernel
theorem dX11_terms_118 : decode cX11_terms 118 = .ok (.goto 5, 3) := by decide +kernel
theorem dX11_terms_121 : decode cX11_terms 121 = .ok (.iload 5, 2) := by decide +kernel
theorem dX11_terms_123 : decode cX11_terms 123 = .ok (.ireturn, 1) := by decide +kernel
theorem dX11_ask_0 : decode cX11_ask 0 = .ok (.aload_n 0, 1) := by decide +kernel
theorem dX11_ask_1 : decode cX11_ask 1 = .ok (.iload_n 1, 1) := by decide +kernel
theorem dX11_ask_2 : decode cX11_ask 2 = .ok (.invokevirtual 198, 3) := by decide +kernel
theorem dX11_ask_5 : decode cX11_ask 5 = .ok (.ifCond .eq 10, 3) := by decide +kernel
theorem dX11_ask_8 : decode cX11_ask 8 = .ok (.iload_n 2, 1) := by decide +kernel
theorem dX11_ask_9 : decode cX11_ask 9 = .ok (.invokestatic 245, 3) := by decide +kernel
theorem dX11_ask_12 : decode cX11_ask 12 = .ok (.ifCond .ne 5, 3) := by decide +kernel
theorem dX11_ask_15 : decode cX11_ask 15 = .ok (.iconst (-1), 1) := by decide +kernel
theorem dX11_ask_16 : decode cX11_ask 16 = .ok (.ireturn, 1) := by decide +kernel
theorem dX11_ask_17 : decode cX11_ask 17 = .ok (.aload_n 0, 1) := by decide +kernel
theorem dX11_ask_18 : decode cX11_ask 18 = .ok (.iload_n 1, 1) := by decide +kernel
theorem dX11_ask_19 : decode cX11_ask 19 = .ok (.invokevirtual 284, 3) := by decide +kernel
theorem dX11_ask_22 : decode cX11_ask 22 = .ok (.istore_n 3, 1) := by decide +kernel
theorem dX11_ask_23 : decode cX11_ask 23 = .ok (.iload_n 3, 1) := by decide +kernel
theorem dX11_ask_24 : decode cX11_ask 24 = .ok (.invokestatic 186, 3) := by decide +kernel
theorem dX11_ask_27 : decode cX11_ask 27 = .ok (.istore 4, 2) := by decide +kernel
theorem dX11_ask_29 : decode cX11_ask 29 = .ok (.bipush (-4), 2) := by decide +kernel
theorem dX11_ask_31 : decode cX11_ask 31 = .ok (.istore 5, 2) := by decide +kernel
theorem dX11_ask_33 : decode cX11_ask 33 = .ok (.iconst 1, 1) := by decide +kernel
theorem dX11_ask_34 : decode cX11_ask 34 = .ok (.istore 6, 2) := by decide +kernel
theorem dX11_ask_36 : decode cX11_ask 36 = .ok (.iload 6, 2) := by decide +kernel
theorem dX11_ask_38 : decode cX11_ask 38 = .ok (.bipush 60, 2) := by decide +kernel
theorem dX11_ask_40 : decode cX11_ask 40 = .ok (.if_icmp .gt 126, 3) := by decide +kernel
theorem dX11_ask_43 : decode cX11_ask 43 = .ok (.iconst 0, 1) := by decide +kernel
theorem dX11_ask_44 : decode cX11_ask 44 = .ok (.istore 7, 2) := by decide +kernel
theorem dX11_ask_46 : decode cX11_ask 46 = .ok (.iconst 0, 1) := by decide +kernel
theorem dX11_ask_47 : decode cX11_ask 47 = .ok (.istore 8, 2) := by decide +kernel
theorem dX11_ask_49 : decode cX11_ask 49 = .ok (.iload 8, 2) := by decide +kernel
theorem dX11_ask_51 : decode cX11_ask 51 = .ok (.iconst 4, 1) := by decide +kernel
theorem dX11_ask_52 : decode cX11_ask 52 = .ok (.if_icmp .ge 83, 3) := by decide +kernel
theorem dX11_ask_55 : decode cX11_ask 55 = .ok (.iconst 0, 1) := by decide +kernel
theorem dX11_ask_56 : decode cX11_ask 56 = .ok (.istore 9, 2) := by decide +kernel
theorem dX11_ask_58 : decode cX11_ask 58 = .ok (.iconst 0, 1) := by decide +kernel
theorem dX11_ask_59 : decode cX11_ask 59 = .ok (.istore 10, 2) := by decide +kernel
theorem dX11_ask_61 : decode cX11_ask 61 = .ok (.iload 10, 2) := by decide +kernel
theorem dX11_ask_63 : decode cX11_ask 63 = .ok (.iconst 4, 1) := by decide +kernel
theorem dX11_ask_64 : decode cX11_ask 64 = .ok (.if_icmp .ge 49, 3) := by decide +kernel
theorem dX11_ask_67 : decode cX11_ask 67 = .ok (.iload 9, 2) := by decide +kernel
theorem dX11_ask_69 : decode cX11_ask 69 = .ok (.iload_n 3, 1) := by decide +kernel
theorem dX11_ask_70 : decode cX11_ask 70 = .ok (.iload 10, 2) := by decide +kernel
theorem dX11_ask_72 : decode cX11_ask 72 = .ok (.ishr, 1) := by decide +kernel
theorem dX11_ask_73 : decode cX11_ask 73 = .ok (.iconst 1, 1) := by decide +kernel
theorem dX11_ask_74 : decode cX11_ask 74 = .ok (.iand, 1) := by decide +kernel
theorem dX11_ask_75 : decode cX11_ask 75 = .ok (.iconst 1, 1) := by decide +kernel
theorem dX11_ask_76 : decode cX11_ask 76 = .ok (.if_icmp .ne 24, 3) := by decide +kernel
theorem dX11_ask_79 : decode cX11_ask 79 = .ok (.iload 10, 2) := by decide +kernel
theorem dX11_ask_81 : decode cX11_ask 81 = .ok (.iload 6, 2) := by decide +kernel
theorem dX11_ask_83 : decode cX11_ask 83 = .ok (.invokestatic 142, 3) := by decide +kernel
theorem dX11_ask_86 : decode cX11_ask 86 = .ok (.iload 8, 2) := by decide +kernel
theorem dX11_ask_88 : decode cX11_ask 88 = .ok (.iload 6, 2) := by decide +kernel
theorem dX11_ask_90 : decode cX11_ask 90 = .ok (.invokestatic 142, 3) := by decide +kernel
theorem dX11_ask_93 : decode cX11_ask 93 = .ok (.if_icmp .ne 7, 3) := by decide +kernel
theorem dX11_ask_96 : decode cX11_ask 96 = .ok (.iconst 1, 1) := by decide +kernel
theorem dX11_ask_97 : decode cX11_ask 97 = .ok (.goto 4, 3) := by decide +kernel
theorem dX11_ask_100 : decode cX11_ask 100 = .ok (.iconst 0, 1) := by decide +kernel
theorem dX11_ask_101 : decode cX11_ask 101 = .ok (.invokestatic 161, 3) := by decide +kernel
theorem dX11_ask_104 : decode cX11_ask 104 = .ok (.iadd, 1) := by decide +kernel
theorem dX11_ask_105 : decode cX11_ask 105 = .ok (.istore 9, 2) := by decide +kernel
theorem dX11_ask_107 : decode cX11_ask 107 = .ok (.iinc 10 1, 3) := by decide +kernel
theorem dX11_ask_110 : decode cX11_ask 110 = .ok (.goto (-49), 3) := by decide +kernel
theorem dX11_ask_113 : decode cX11_ask 113 = .ok (.iload 9, 2) := by decide +kernel
theorem dX11_ask_115 : decode cX11_ask 115 = .ok (.iload 7, 2) := by decide +kernel
theorem dX11_ask_117 : decode cX11_ask 117 = .ok (.if_icmp .le 8, 3) := by decide +kernel
theorem dX11_ask_120 : decode cX11_ask 120 = .ok (.iload 9, 2) := by decide +kernel
theorem dX11_ask_122 : decode cX11_ask 122 = .ok (.goto 5, 3) := by decide +kernel
theorem dX11_ask_125 : decode cX11_ask 125 = .ok (.iload 7, 2) := by decide +kernel
theorem dX11_ask_127 : decode cX11_ask 127 = .ok (.istore 7, 2) := by decide +kernel
theorem dX11_ask_129 : decode cX11_ask 129 = .ok (.iinc 8 1, 3) := by decide +kernel
theorem dX11_ask_132 : decode cX11_ask 132 = .ok (.goto (-83), 3) := by decide +kernel
theorem dX11_ask_135 : decode cX11_ask 135 = .ok (.iload 7, 2) := by decide +kernel
theorem dX11_ask_137 : decode cX11_ask 137 = .ok (.iload 4, 2) := by decide +kernel
theorem dX11_ask_139 : decode cX11_ask 139 = .ok (.if_icmp .ge 8, 3) := by decide +kernel
theorem dX11_ask_142 : decode cX11_ask 142 = .ok (.iload 6, 2) := by decide +kernel
theorem dX11_ask_144 : decode cX11_ask 144 = .ok (.goto 5, 3) := by decide +kernel
theorem dX11_ask_147 : decode cX11_ask 147 = .ok (.iload 5, 2) := by decide +kernel
theorem dX11_ask_149 : decode cX11_ask 149 = .ok (.istore 5, 2) := by decide +kernel
theorem dX11_ask_151 : decode cX11_ask 151 = .ok (.iload 7, 2) := by decide +kernel
theorem dX11_ask_153 : decode cX11_ask 153 = .ok (.iload 4, 2) := by decide +kernel
theorem dX11_ask_155 : decode cX11_ask 155 = .ok (.invokestatic 158, 3) := by decide +kernel
theorem dX11_ask_158 : decode cX11_ask 158 = .ok (.istore 4, 2) := by decide +kernel
theorem dX11_ask_160 : decode cX11_ask 160 = .ok (.iinc 6 1, 3) := by decide +kernel
theorem dX11_ask_163 : decode cX11_ask 163 = .ok (.goto (-127), 3) := by decide +kernel
theorem dX11_ask_166 : decode cX11_ask 166 = .ok (.iload 5, 2) := by decide +kernel
theorem dX11_ask_168 : decode cX11_ask 168 = .ok (.bipush (-4), 2) := by decide +kernel
theorem dX11_ask_170 : decode cX11_ask 170 = .ok (.if_icmp .ne 8, 3) := by decide +kernel
theorem dX11_ask_173 : decode cX11_ask 173 = .ok (.bipush (-4), 2) := by decide +kernel
theorem dX11_ask_175 : decode cX11_ask 175 = .ok (.goto 14, 3) := by decide +kernel
theorem dX11_ask_178 : decode cX11_ask 178 = .ok (.iload_n 2, 1) := by decide +kernel
theorem dX11_ask_179 : decode cX11_ask 179 = .ok (.ifCond .ne 8, 3) := by decide +kernel
theorem dX11_ask_182 : decode cX11_ask 182 = .ok (.iload 5, 2) := by decide +kernel
theorem dX11_ask_184 : decode cX11_ask 184 = .ok (.goto 5, 3) := by decide +kernel
theorem dX11_ask_187 : decode cX11_ask 187 = .ok (.iload 4, 2) := by decide +kernel
theorem dX11_ask_189 : decode cX11_ask 189 = .ok (.ireturn, 1) := by decide +kernel
theorem dX11_drift_0 : decode cX11_drift 0 = .ok (.iload_n 2, 1) := by decide +kernel
theorem dX11_drift_1 : decode cX11_drift 1 = .ok (.i2l, 1) := by decide +kernel
theorem dX11_drift_2 : decode cX11_drift 2 = .ok (.lconst 1, 1) := by decide +kernel
theorem dX11_drift_3 : decode cX11_drift 3 = .ok (.ldc2_w 207, 3) := by decide +kernel
theorem dX11_drift_6 : decode cX11_drift 6 = .ok (.invokestatic 66, 3) := by decide +kernel
theorem dX11_drift_9 : decode cX11_drift 9 = .ok (.ifCond .eq 10, 3) := by decide +kernel
theorem dX11_drift_12 : decode cX11_drift 12 = .ok (.iload_n 3, 1) := by decide +kernel
theorem dX11_drift_13 : decode cX11_drift 13 = .ok (.invokestatic 245, 3) := by decide +kernel
theorem dX11_drift_16 : decode cX11_drift 16 = .ok (.ifCond .ne 5, 3) := by decide +kernel
theorem dX11_drift_19 : decode cX11_drift 19 = .ok (.iconst (-1), 1) := by decide +kernel
theorem dX11_drift_20 : decode cX11_drift 20 = .ok (.ireturn, 1) := by decide +kernel
theorem dX11_drift_21 : decode cX11_drift 21 = .ok (.aload_n 0, 1) := by decide +kernel
theorem dX11_drift_22 : decode cX11_drift 22 = .ok (.getfield 58, 3) := by decide +kernel
theorem dX11_drift_25 : decode cX11_drift 25 = .ok (.ifCond .eq 10, 3) := by decide +kernel
theorem dX11_drift_28 : decode cX11_drift 28 = .ok (.aload_n 0, 1) := by decide +kernel
theorem dX11_drift_29 : decode cX11_drift 29 = .ok (.getfield 61, 3) := by decide +kernel
theorem dX11_drift_32 : decode cX11_drift 32 = .ok (.ifCond .ne 6, 3) := by decide +kernel
theorem dX11_drift_35 : decode cX11_drift 35 = .ok (.bipush (-2), 2) := by decide +kernel
theorem dX11_drift_37 : decode cX11_drift 37 = .ok (.ireturn, 1) := by decide +kernel
theorem dX11_drift_38 : decode cX11_drift 38 = .ok (.iload_n 1, 1) := by decide +kernel
theorem dX11_drift_39 : decode cX11_drift 39 = .ok (.istore 4, 2) := by decide +kernel
theorem dX11_drift_41 : decode cX11_drift 41 = .ok (.aload_n 0, 1) := by decide +kernel
theorem dX11_drift_42 : decode cX11_drift 42 = .ok (.invokevirtual 192, 3) := by decide +kernel
theorem dX11_drift_45 : decode cX11_drift 45 = .ok (.iconst 0, 1) := by decide +kernel
theorem dX11_drift_46 : decode cX11_drift 46 = .ok (.istore 5, 2) := by decide +kernel
theorem dX11_drift_48 : decode cX11_drift 48 = .ok (.iload 5, 2) := by decide +kernel
theorem dX11_drift_50 : decode cX11_drift 50 = .ok (.iload_n 2, 1) := by decide +kernel
theorem dX11_drift_51 : decode cX11_drift 51 = .ok (.if_icmp .ge 90, 3) := by decide +kernel
theorem dX11_drift_54 : decode cX11_drift 54 = .ok (.iload 4, 2) := by decide +kernel
theorem dX11_drift_56 : decode cX11_drift 56 = .ok (.ldc_w 298, 3) := by decide +kernel
theorem dX11_drift_59 : decode cX11_drift 59 = .ok (.imul, 1) := by decide +kernel
theorem dX11_drift_60 : decode cX11_drift 60 = .ok (.sipush 12345, 3) := by decide +kernel
theorem dX11_drift_63 : decode cX11_drift 63 = .ok (.iadd, 1) := by decide +kernel
theorem dX11_drift_64 : decode cX11_drift 64 = .ok (.istore 4, 2) := by decide +kernel
theorem dX11_drift_66 : decode cX11_drift 66 = .ok (.iload 4, 2) := by decide +kernel
theorem dX11_drift_68 : decode cX11_drift 68 = .ok (.bipush 16, 2) := by decide +kernel
theorem dX11_drift_70 : decode cX11_drift 70 = .ok (.ishr, 1) := by decide +kernel
theorem dX11_drift_71 : decode cX11_drift 71 = .ok (.sipush 32767, 3) := by decide +kernel
theorem dX11_drift_74 : decode cX11_drift 74 = .ok (.iand, 1) := by decide +kernel
theorem dX11_drift_75 : decode cX11_drift 75 = .ok (.istore 6, 2) := by decide +kernel
theorem dX11_drift_77 : decode cX11_drift 77 = .ok (.iload 6, 2) := by decide +kernel
theorem dX11_drift_79 : decode cX11_drift 79 = .ok (.aload_n 0, 1) := by decide +kernel
theorem dX11_drift_80 : decode cX11_drift 80 = .ok (.getfield 61, 3) := by decide +kernel
theorem dX11_drift_83 : decode cX11_drift 83 = .ok (.irem, 1) := by decide +kernel
theorem dX11_drift_84 : decode cX11_drift 84 = .ok (.istore 7, 2) := by decide +kernel
theorem dX11_drift_86 : decode cX11_drift 86 = .ok (.iload 6, 2) := by decide +kernel
theorem dX11_drift_88 : decode cX11_drift 88 = .ok (.bipush 8, 2) := by decide +kernel
theorem dX11_drift_90 : decode cX11_drift 90 = .ok (.idiv, 1) := by decide +kernel
theorem dX11_drift_91 : decode cX11_drift 91 = .ok (.aload_n 0, 1) := by decide +kernel
theorem dX11_drift_92 : decode cX11_drift 92 = .ok (.getfield 58, 3) := by decide +kernel
theorem dX11_drift_95 : decode cX11_drift 95 = .ok (.irem, 1) := by decide +kernel
theorem dX11_drift_96 : decode cX11_drift 96 = .ok (.istore 8, 2) := by decide +kernel
theorem dX11_drift_98 : decode cX11_drift 98 = .ok (.aload_n 0, 1) := by decide +kernel
theorem dX11_drift_99 : decode cX11_drift 99 = .ok (.iload 8, 2) := by decide +kernel
theorem dX11_drift_101 : decode cX11_drift 101 = .ok (.iload 7, 2) := by decide +kernel
theorem dX11_drift_103 : decode cX11_drift 103 = .ok (.aload_n 0, 1) := by decide +kernel
theorem dX11_drift_104 : decode cX11_drift 104 = .ok (.iload 7, 2) := by decide +kernel
theorem dX11_drift_106 : decode cX11_drift 106 = .ok (.iconst 1, 1) := by decide +kernel
theorem dX11_drift_107 : decode cX11_drift 107 = .ok (.invokevirtual 145, 3) := by decide +kernel
theorem dX11_drift_110 : decode cX11_drift 110 = .ok (.invokevirtual 165, 3) := by decide +kernel
theorem dX11_drift_113 : decode cX11_drift 113 = .ok (.ifCond .eq 18, 3) := by decide +kernel
theorem dX11_drift_116 : decode cX11_drift 116 = .ok (.aload_n 0, 1) := by decide +kernel
theorem dX11_drift_117 : decode cX11_drift 117 = .ok (.iload 8, 2) := by decide +kernel
theorem dX11_drift_119 : decode cX11_drift 119 = .ok (.iload 7, 2) := by decide +kernel
theorem dX11_drift_121 : decode cX11_drift 121 = .ok (.aload_n 0, 1) := by decide +kernel
theorem dX11_drift_122 : decode cX11_drift 122 = .ok (.iload 7, 2) := by decide +kernel
theorem dX11_drift_124 : decode cX11_drift 124 = .ok (.iconst 1, 1) := by decide +kernel
theorem dX11_drift_125 : decode cX11_drift 125 = .ok (.invokevirtual 145, 3) := by decide +kernel
theorem dX11_drift_128 : decode cX11_drift 128 = .ok (.invokevirtual 174, 3) := by decide +kernel
theorem dX11_drift_131 : decode cX11_drift 131 = .ok (.aload_n 0, 1) := by decide +kernel
theorem dX11_drift_132 : decode cX11_drift 132 = .ok (.invokevirtual 180, 3) := by decide +kernel
theorem dX11_drift_135 : decode cX11_drift 135 = .ok (.iinc 5 1, 3) := by decide +kernel
theorem dX11_drift_138 : decode cX11_drift 138 = .ok (.goto (-90), 3) := by decide +kernel
theorem dX11_drift_141 : decode cX11_drift 141 = .ok (.iload_n 3, 1) := by decide +kernel
theorem dX11_drift_142 : decode cX11_drift 142 = .ok (.ifCond .ne 13, 3) := by decide +kernel
theorem dX11_drift_145 : decode cX11_drift 145 = .ok (.aload_n 0, 1) := by decide +kernel
theorem dX11_drift_146 : decode cX11_drift 146 = .ok (.getfield 13, 3) := by decide +kernel
theorem dX11_drift_149 : decode cX11_drift 149 = .ok (.bipush 56, 2) := by decide +kernel
theorem dX11_drift_151 : decode cX11_drift 151 = .ok (.iaload, 1) := by decide +kernel
theorem dX11_drift_152 : decode cX11_drift 152 = .ok (.goto 7, 3) := by decide +kernel
theorem dX11_drift_155 : decode cX11_drift 155 = .ok (.aload_n 0, 1) := by decide +kernel
theorem dX11_drift_156 : decode cX11_drift 156 = .ok (.invokevirtual 183, 3) := by decide +kernel
theorem dX11_drift_159 : decode cX11_drift 159 = .ok (.ireturn, 1) := by decide +kernel
theorem dX11_copies_0 : decode cX11_copies 0 = .ok (.iconst 0, 1) := by decide +kernel
theorem dX11_copies_1 : decode cX11_copies 1 = .ok (.istore_n 3, 1) := by decide +kernel
theorem dX11_copies_2 : decode cX11_copies 2 = .ok (.iload_n 3, 1) := by decide +kernel
theorem dX11_copies_3 : decode cX11_copies 3 = .ok (.bipush 76, 2) := by decide +kernel
theorem dX11_copies_5 : decode cX11_copies 5 = .ok (.if_icmp .ge 25, 3) := by decide +kernel
theorem dX11_copies_8 : decode cX11_copies 8 = .ok (.aload_n 0, 1) := by decide +kernel
theorem dX11_copies_9 : decode cX11_copies 9 = .ok (.getfield 7, 3) := by decide +kernel
theorem dX11_copies_12 : decode cX11_copies 12 = .ok (.iload_n 1, 1) := by decide +kernel
theorem dX11_copies_13 : decode cX11_copies 13 = .ok (.iload_n 3, 1) := by decide +kernel
theorem dX11_copies_14 : decode cX11_copies 14 = .ok (.iadd, 1) := by decide +kernel
theorem dX11_copies_15 : decode cX11_copies 15 = .ok (.aload_n 0, 1) := by decide +kernel
theorem dX11_copies_16 : decode cX11_copies 16 = .ok (.getfield 7, 3) := by decide +kernel
theorem dX11_copies_19 : decode cX11_copies 19 = .ok (.iload_n 2, 1) := by decide +kernel
theorem dX11_copies_20 : decode cX11_copies 20 = .ok (.iload_n 3, 1) := by decide +kernel
theorem dX11_copies_21 : decode cX11_copies 21 = .ok (.iadd, 1) := by decide +kernel
theorem dX11_copies_22 : decode cX11_copies 22 = .ok (.iaload, 1) := by decide +kernel
theorem dX11_copies_23 : decode cX11_copies 23 = .ok (.iastore, 1) := by decide +kernel
theorem dX11_copies_24 : decode cX11_copies 24 = .ok (.iinc 3 1, 3) := by decide +kernel
theorem dX11_copies_27 : decode cX11_copies 27 = .ok (.goto (-25), 3) := by decide +kernel
theorem dX11_copies_30 : decode cX11_copies 30 = .ok (.return_, 1) := by decide +kernel
theorem dX11_keep_0 : decode cX11_keep 0 = .ok (.iload_n 1, 1) := by decide +kernel
theorem dX11_keep_1 : decode cX11_keep 1 = .ok (.i2l, 1) := by decide +kernel
theorem dX11_keep_2 : decode cX11_keep 2 = .ok (.lconst 0, 1) := by decide +kernel
theorem dX11_keep_3 : decode cX11_keep 3 = .ok (.lconst 1, 1) := by decide +kernel
theorem dX11_keep_4 : decode cX11_keep 4 = .ok (.invokestatic 66, 3) := by decide +kernel
theorem dX11_keep_7 : decode cX11_keep 7 = .ok (.ifCond .ne 5, 3) := by decide +kernel
theorem dX11_keep_10 : decode cX11_keep 10 = .ok (.iconst (-1), 1) := by decide +kernel
theorem dX11_keep_11 : decode cX11_keep 11 = .ok (.ireturn, 1) := by decide +kernel
theorem dX11_keep_12 : decode cX11_keep 12 = .ok (.aload_n 0, 1) := by decide +kernel
theorem dX11_keep_13 : decode cX11_keep 13 = .ok (.getfield 16, 3) := by decide +kernel
theorem dX11_keep_16 : decode cX11_keep 16 = .ok (.iload_n 1, 1) := by decide +kernel
theorem dX11_keep_17 : decode cX11_keep 17 = .ok (.baload, 1) := by decide +kernel
theorem dX11_keep_18 : decode cX11_keep 18 = .ok (.invokestatic 161, 3) := by decide +kernel
theorem dX11_keep_21 : decode cX11_keep 21 = .ok (.istore_n 2, 1) := by decide +kernel
theorem dX11_keep_22 : decode cX11_keep 22 = .ok (.aload_n 0, 1) := by decide +kernel
theorem dX11_keep_23 : decode cX11_keep 23 = .ok (.getfield 16, 3) := by decide +kernel
theorem dX11_keep_26 : decode cX11_keep 26 = .ok (.iload_n 1, 1) := by decide +kernel
theorem dX11_keep_27 : decode cX11_keep 27 = .ok (.iconst 1, 1) := by decide +kernel
theorem dX11_keep_28 : decode cX11_keep 28 = .ok (.bastore, 1) := by decide +kernel
theorem dX11_keep_29 : decode cX11_keep 29 = .ok (.aload_n 0, 1) := by decide +kernel
theorem dX11_keep_30 : decode cX11_keep 30 = .ok (.bipush 76, 2) := by decide +kernel
theorem dX11_keep_32 : decode cX11_keep 32 = .ok (.iload_n 1, 1) := by decide +kernel
theorem dX11_keep_33 : decode cX11_keep 33 = .ok (.iconst 1, 1) := by decide +kernel
theorem dX11_keep_34 : decode cX11_keep 34 = .ok (.iadd, 1) := by decide +kernel
theorem dX11_keep_35 : decode cX11_keep 35 = .ok (.imul, 1) := by decide +kernel
theorem dX11_keep_36 : decode cX11_keep 36 = .ok (.iconst 0, 1) := by decide +kernel
theorem dX11_keep_37 : decode cX11_keep 37 = .ok (.invokevirtual 299, 3) := by decide +kernel
theorem dX11_keep_40 : decode cX11_keep 40 = .ok (.iload_n 2, 1) := by decide +kernel
theorem dX11_keep_41 : decode cX11_keep 41 = .ok (.ireturn, 1) := by decide +kernel
theorem dX11_back_0 : decode cX11_back 0 = .ok (.iload_n 1, 1) := by decide +kernel
theorem dX11_back_1 : decode cX11_back 1 = .ok (.i2l, 1) := by decide +kernel
theorem dX11_back_2 : decode cX11_back 2 = .ok (.lconst 0, 1) := by decide +kernel
theorem dX11_back_3 : decode cX11_back 3 = .ok (.lconst 1, 1) := by decide +kernel
theorem dX11_back_4 : decode cX11_back 4 = .ok (.invokestatic 66, 3) := by decide +kernel
theorem dX11_back_7 : decode cX11_back 7 = .ok (.ifCond .ne 5, 3) := by decide +kernel
theorem dX11_back_10 : decode cX11_back 10 = .ok (.iconst (-1), 1) := by decide +kernel
theorem dX11_back_11 : decode cX11_back 11 = .ok (.ireturn, 1) := by decide +kernel
theorem dX11_back_12 : decode cX11_back 12 = .ok (.aload_n 0, 1) := by decide +kernel
theorem dX11_back_13 : decode cX11_back 13 = .ok (.getfield 16, 3) := by decide +kernel
theorem dX11_back_16 : decode cX11_back 16 = .ok (.iload_n 1, 1) := by decide +kernel
theorem dX11_back_17 : decode cX11_back 17 = .ok (.baload, 1) := by decide +kernel
theorem dX11_back_18 : decode cX11_back 18 = .ok (.ifCond .ne 6, 3) := by decide +kernel
theorem dX11_back_21 : decode cX11_back 21 = .ok (.bipush (-2), 2) := by decide +kernel
theorem dX11_back_23 : decode cX11_back 23 = .ok (.ireturn, 1) := by decide +kernel
theorem dX11_back_24 : decode cX11_back 24 = .ok (.aload_n 0, 1) := by decide +kernel
theorem dX11_back_25 : decode cX11_back 25 = .ok (.iconst 0, 1) := by decide +kernel
theorem dX11_back_26 : decode cX11_back 26 = .ok (.bipush 76, 2) := by decide +kernel
theorem dX11_back_28 : decode cX11_back 28 = .ok (.iload_n 1, 1) := by decide +kernel
theorem dX11_back_29 : decode cX11_back 29 = .ok (.iconst 1, 1) := by decide +kernel
theorem dX11_back_30 : decode cX11_back 30 = .ok (.iadd, 1) := by decide +kernel
theorem dX11_back_31 : decode cX11_back 31 = .ok (.imul, 1) := by decide +kernel
theorem dX11_back_32 : decode cX11_back 32 = .ok (.invokevirtual 299, 3) := by decide +kernel
theorem dX11_back_35 : decode cX11_back 35 = .ok (.aload_n 0, 1) := by decide +kernel
theorem dX11_back_36 : decode cX11_back 36 = .ok (.getfield 7, 3) := by decide +kernel
theorem dX11_back_39 : decode cX11_back 39 = .ok (.bipush 55, 2) := by decide +kernel
theorem dX11_back_41 : decode cX11_back 41 = .ok (.iaload, 1) := by decide +kernel
theorem dX11_back_42 : decode cX11_back 42 = .ok (.ireturn, 1) := by decide +kernel
theorem dX11_isSheet_0 : decode cX11_isSheet 0 = .ok (.iload_n 0, 1) := by decide +kernel
theorem dX11_isSheet_1 : decode cX11_isSheet 1 = .ok (.i2l, 1) := by decide +kernel
theorem dX11_isSheet_2 : decode cX11_isSheet 2 = .ok (.lconst 0, 1) := by decide +kernel
theorem dX11_isSheet_3 : decode cX11_isSheet 3 = .ok (.ldc2_w 209, 3) := by decide +kernel
theorem dX11_isSheet_6 : decode cX11_isSheet 6 = .ok (.invokestatic 66, 3) := by decide +kernel
theorem dX11_isSheet_9 : decode cX11_isSheet 9 = .ok (.ifCond .eq 19, 3) := by decide +kernel
theorem dX11_isSheet_12 : decode cX11_isSheet 12 = .ok (.iload_n 1, 1) := by decide +kernel
theorem dX11_isSheet_13 : decode cX11_isSheet 13 = .ok (.i2l, 1) := by decide +kernel
theorem dX11_isSheet_14 : decode cX11_isSheet 14 = .ok (.lconst 0, 1) := by decide +kernel
theorem dX11_isSheet_15 : decode cX11_isSheet 15 = .ok (.ldc2_w 293, 3) := by decide +kernel
theorem dX11_isSheet_18 : decode cX11_isSheet 18 = .ok (.invokestatic 66, 3) := by decide +kernel
theorem dX11_isSheet_21 : decode cX11_isSheet 21 = .ok (.ifCond .eq 7, 3) := by decide +kernel
theorem dX11_isSheet_24 : decode cX11_isSheet 24 = .ok (.iconst 1, 1) := by decide +kernel
theorem dX11_isSheet_25 : decode cX11_isSheet 25 = .ok (.goto 4, 3) := by decide +kernel
theorem dX11_isSheet_28 : decode cX11_isSheet 28 = .ok (.iconst 0, 1) := by decide +kernel
theorem dX11_isSheet_29 : decode cX11_isSheet 29 = .ok (.ireturn, 1) := by decide +kernel
theorem dX11_sheet_0 : decode cX11_sheet 0 = .ok (.iload_n 1, 1) := by decide +kernel
theorem dX11_sheet_1 : decode cX11_sheet 1 = .ok (.iload_n 2, 1) := by decide +kernel
theorem dX11_sheet_2 : decode cX11_sheet 2 = .ok (.invokestatic 302, 3) := by decide +kernel
theorem dX11_sheet_5 : decode cX11_sheet 5 = .ok (.ifCond .eq 9, 3) := by decide +kernel
theorem dX11_sheet_8 : decode cX11_sheet 8 = .ok (.iload_n 3, 1) := by decide +kernel
theorem dX11_sheet_9 : decode cX11_sheet 9 = .ok (.bipush 40, 2) := by decide +kernel
theorem dX11_sheet_11 : decode cX11_sheet 11 = .ok (.if_icmp .le 5, 3) := by decide +kernel
theorem dX11_sheet_14 : decode cX11_sheet 14 = .ok (.iconst (-1), 1) := by decide +kernel
theorem dX11_sheet_15 : decode cX11_sheet 15 = .ok (.ireturn, 1) := by decide +kernel
theorem dX11_sheet_16 : decode cX11_sheet 16 = .ok (.iload_n 3, 1) := by decide +kernel
theorem dX11_sheet_17 : decode cX11_sheet 17 = .ok (.ifCond .ge 6, 3) := by decide +kernel
theorem dX11_sheet_20 : decode cX11_sheet 20 = .ok (.bipush (-14), 2) := by decide +kernel
theorem dX11_sheet_22 : decode cX11_sheet 22 = .ok (.ireturn, 1) := by decide +kernel
theorem dX11_sheet_23 : decode cX11_sheet 23 = .ok (.aload_n 0, 1) := by decide +kernel
theorem dX11_sheet_24 : decode cX11_sheet 24 = .ok (.getfield 29, 3) := by decide +kernel
theorem dX11_sheet_27 : decode cX11_sheet 27 = .ok (.iload_n 1, 1) := by decide +kernel
theorem dX11_sheet_28 : decode cX11_sheet 28 = .ok (.iload_n 2, 1) := by decide +kernel
theorem dX11_sheet_29 : decode cX11_sheet 29 = .ok (.iastore, 1) := by decide +kernel
theorem dX11_sheet_30 : decode cX11_sheet 30 = .ok (.aload_n 0, 1) := by decide +kernel
theorem dX11_sheet_31 : decode cX11_sheet 31 = .ok (.getfield 32, 3) := by decide +kernel
theorem dX11_sheet_34 : decode cX11_sheet 34 = .ok (.iload_n 1, 1) := by decide +kernel
theorem dX11_sheet_35 : decode cX11_sheet 35 = .ok (.iload_n 3, 1) := by decide +kernel
theorem dX11_sheet_36 : decode cX11_sheet 36 = .ok (.iastore, 1) := by decide +kernel
theorem dX11_sheet_37 : decode cX11_sheet 37 = .ok (.iconst 0, 1) := by decide +kernel
theorem dX11_sheet_38 : decode cX11_sheet 38 = .ok (.istore 4, 2) := by decide +kernel
theorem dX11_sheet_40 : decode cX11_sheet 40 = .ok (.iload 4, 2) := by decide +kernel
theorem dX11_sheet_42 : decode cX11_sheet 42 = .ok (.bipush 40, 2) := by decide +kernel
theorem dX11_sheet_44 : decode cX11_sheet 44 = .ok (.if_icmp .ge 22, 3) := by decide +kernel
theorem dX11_sheet_47 : decode cX11_sheet 47 = .ok (.aload_n 0, 1) := by decide +kernel
theorem dX11_sheet_48 : decode cX11_sheet 48 = .ok (.getfield 35, 3) := by decide +kernel
theorem dX11_sheet_51 : decode cX11_sheet 51 = .ok (.bipush 40, 2) := by decide +kernel
theorem dX11_sheet_53 : decode cX11_sheet 53 = .ok (.iload_n 1, 1) := by decide +kernel
theorem dX11_sheet_54 : decode cX11_sheet 54 = .ok (.imul, 1) := by decide +kernel
theorem dX11_sheet_55 : decode cX11_sheet 55 = .ok (.iload 4, 2) := by decide +kernel
theorem dX11_sheet_57 : decode cX11_sheet 57 = .ok (.iadd, 1) := by decide +kernel
theorem dX11_sheet_58 : decode cX11_sheet 58 = .ok (.iconst 0, 1) := by decide +kernel
theorem dX11_sheet_59 : decode cX11_sheet 59 = .ok (.iastore, 1) := by decide +kernel
theorem dX11_sheet_60 : decode cX11_sheet 60 = .ok (.iinc 4 1, 3) := by decide +kernel
theorem dX11_sheet_63 : decode cX11_sheet 63 = .ok (.goto (-23), 3) := by decide +kernel
theorem dX11_sheet_66 : decode cX11_sheet 66 = .ok (.iconst 1, 1) := by decide +kernel
theorem dX11_sheet_67 : decode cX11_sheet 67 = .ok (.ireturn, 1) := by decide +kernel
theorem dX11_lay_0 : decode cX11_lay 0 = .ok (.iload_n 1, 1) := by decide +kernel
theorem dX11_lay_1 : decode cX11_lay 1 = .ok (.iconst 0, 1) := by decide +kernel
theorem dX11_lay_2 : decode cX11_lay 2 = .ok (.invokestatic 302, 3) := by decide +kernel
theorem dX11_lay_5 : decode cX11_lay 5 = .ok (.ifCond .ne 5, 3) := by decide +kernel
theorem dX11_lay_8 : decode cX11_lay 8 = .ok (.iconst (-1), 1) := by decide +kernel
theorem dX11_lay_9 : decode cX11_lay 9 = .ok (.ireturn, 1) := by decide +kernel
theorem dX11_lay_10 : decode cX11_lay 10 = .ok (.aload_n 0, 1) := by decide +kernel
theorem dX11_lay_11 : decode cX11_lay 11 = .ok (.getfield 29, 3) := by decide +kernel
theorem dX11_lay_14 : decode cX11_lay 14 = .ok (.iload_n 1, 1) := by decide +kernel
theorem dX11_lay_15 : decode cX11_lay 15 = .ok (.iaload, 1) := by decide +kernel
theorem dX11_lay_16 : decode cX11_lay 16 = .ok (.bipush (-4), 2) := by decide +kernel
theorem dX11_lay_18 : decode cX11_lay 18 = .ok (.if_icmp .ne 6, 3) := by decide +kernel
theorem dX11_lay_21 : decode cX11_lay 21 = .ok (.bipush (-11), 2) := by decide +kernel
theorem dX11_lay_23 : decode cX11_lay 23 = .ok (.ireturn, 1) := by decide +kernel
theorem dX11_lay_24 : decode cX11_lay 24 = .ok (.iload_n 2, 1) := by decide +kernel
theorem dX11_lay_25 : decode cX11_lay 25 = .ok (.i2l, 1) := by decide +kernel
theorem dX11_lay_26 : decode cX11_lay 26 = .ok (.lconst 0, 1) := by decide +kernel
theorem dX11_lay_27 : decode cX11_lay 27 = .ok (.aload_n 0, 1) := by decide +kernel
theorem dX11_lay_28 : decode cX11_lay 28 = .ok (.getfield 32, 3) := by decide +kernel
theorem dX11_lay_31 : decode cX11_lay 31 = .ok (.iload_n 1, 1) := by decide +kernel
theorem dX11_lay_32 : decode cX11_lay 32 = .ok (.iaload, 1) := by decide +kernel
theorem dX11_lay_33 : decode cX11_lay 33 = .ok (.iconst 1, 1) := by decide +kernel
theorem dX11_lay_34 : decode cX11_lay 34 = .ok (.isub, 1) := by decide +kernel
theorem dX11_lay_35 : decode cX11_lay 35 = .ok (.i2l, 1) := by decide +kernel
theorem dX11_lay_36 : decode cX11_lay 36 = .ok (.invokestatic 66, 3) := by decide +kernel
theorem dX11_lay_39 : decode cX11_lay 39 = .ok (.ifCond .ne 6, 3) := by decide +kernel
theorem dX11_lay_42 : decode cX11_lay 42 = .ok (.bipush (-12), 2) := by decide +kernel
theorem dX11_lay_44 : decode cX11_lay 44 = .ok (.ireturn, 1) := by decide +kernel
theorem dX11_lay_45 : decode cX11_lay 45 = .ok (.aload_n 0, 1) := by decide +kernel
theorem dX11_lay_46 : decode cX11_lay 46 = .ok (.getfield 35, 3) := by decide +kernel
theorem dX11_lay_49 : decode cX11_lay 49 = .ok (.bipush 40, 2) := by decide +kernel
theorem dX11_lay_51 : decode cX11_lay 51 = .ok (.iload_n 1, 1) := by decide +kernel
theorem dX11_lay_52 : decode cX11_lay 52 = .ok (.imul, 1) := by decide +kernel
theorem dX11_lay_53 : decode cX11_lay 53 = .ok (.iload_n 2, 1) := by decide +kernel
theorem dX11_lay_54 : decode cX11_lay 54 = .ok (.iadd, 1) := by decide +kernel
theorem dX11_lay_55 : decode cX11_lay 55 = .ok (.aload_n 0, 1) := by decide +kernel
theorem dX11_lay_56 : decode cX11_lay 56 = .ok (.getfield 29, 3) := by decide +kernel
theorem dX11_lay_59 : decode cX11_lay 59 = .ok (.iload_n 1, 1) := by decide +kernel
theorem dX11_lay_60 : decode cX11_lay 60 = .ok (.iaload, 1) := by decide +kernel
theorem dX11_lay_61 : decode cX11_lay 61 = .ok (.ifCond .ne 8, 3) := by decide +kernel
theorem dX11_lay_64 : decode cX11_lay 64 = .ok (.iload_n 3, 1) := by decide +kernel
theorem dX11_lay_65 : decode cX11_lay 65 = .ok (.i2b, 1) := by decide +kernel
theorem dX11_lay_66 : decode cX11_lay 66 = .ok (.goto 19, 3) := by decide +kernel
theorem dX11_lay_69 : decode cX11_lay 69 = .ok (.aload_n 0, 1) := by decide +kernel
theorem dX11_lay_70 : decode cX11_lay 70 = .ok (.getfield 29, 3) := by decide +kernel
theorem dX11_lay_73 : decode cX11_lay 73 = .ok (.iload_n 1, 1) := by decide +kernel
theorem dX11_lay_74 : decode cX11_lay 74 = .ok (.iaload, 1) := by decide +kernel
theorem dX11_lay_75 : decode cX11_lay 75 = .ok (.iconst 1, 1) := by decide +kernel
theorem dX11_lay_76 : decode cX11_lay 76 = .ok (.if_icmp .ne 8, 3) := by decide +kernel
theorem dX11_lay_79 : decode cX11_lay 79 = .ok (.iload_n 3, 1) := by decide +kernel
theorem dX11_lay_80 : decode cX11_lay 80 = .ok (.i2s, 1) := by decide +kernel
theorem dX11_lay_81 : decode cX11_lay 81 = .ok (.goto 4, 3) := by decide +kernel
theorem dX11_lay_84 : decode cX11_lay 84 = .ok (.iload_n 3, 1) := by decide +kernel
theorem dX11_lay_85 : decode cX11_lay 85 = .ok (.iastore, 1) := by decide +kernel
theorem dX11_lay_86 : decode cX11_lay 86 = .ok (.iconst 1, 1) := by decide +kernel
theorem dX11_lay_87 : decode cX11_lay 87 = .ok (.ireturn, 1) := by decide +kernel
theorem dX11_read_0 : decode cX11_read 0 = .ok (.iload_n 1, 1) := by decide +kernel
theorem dX11_read_1 : decode cX11_read 1 = .ok (.iload_n 2, 1) := by decide +kernel
theorem dX11_read_2 : decode cX11_read 2 = .ok (.invokestatic 302, 3) := by decide +kernel
theorem dX11_read_5 : decode cX11_read 5 = .ok (.ifCond .eq 16, 3) := by decide +kernel
theorem dX11_read_8 : decode cX11_read 8 = .ok (.iload 4, 2) := by decide +kernel
theorem dX11_read_10 : decode cX11_read 10 = .ok (.i2l, 1) := by decide +kernel
theorem dX11_read_11 : decode cX11_read 11 = .ok (.lconst 0, 1) := by decide +kernel
theorem dX11_read_12 : decode cX11_read 12 = .ok (.ldc2_w 305, 3) := by decide +kernel
theorem dX11_read_15 : decode cX11_read 15 = .ok (.invokestatic 66, 3) := by decide +kernel
theorem dX11_read_18 : decode cX11_read 18 = .ok (.ifCond .ne 5, 3) := by decide +kernel
theorem dX11_read_21 : decode cX11_read 21 = .ok (.iconst (-1), 1) := by decide +kernel
theorem dX11_read_22 : decode cX11_read 22 = .ok (.ireturn, 1) := by decide +kernel
theorem dX11_read_23 : decode cX11_read 23 = .ok (.iconst 0, 1) := by decide +kernel
theorem dX11_read_24 : decode cX11_read 24 = .ok (.istore 5, 2) := by decide +kernel
theorem dX11_read_26 : decode cX11_read 26 = .ok (.iload 5, 2) := by decide +kernel
theorem dX11_read_28 : decode cX11_read 28 = .ok (.bipush 76, 2) := by decide +kernel
theorem dX11_read_30 : decode cX11_read 30 = .ok (.if_icmp .ge 23, 3) := by decide +kernel
theorem dX11_read_33 : decode cX11_read 33 = .ok (.aload_n 0, 1) := by decide +kernel
theorem dX11_read_34 : decode cX11_read 34 = .ok (.getfield 38, 3) := by decide +kernel
theorem dX11_read_37 : decode cX11_read 37 = .ok (.iload 5, 2) := by decide +kernel
theorem dX11_read_39 : decode cX11_read 39 = .ok (.aload_n 0, 1) := by decide +kernel
theorem dX11_read_40 : decode cX11_read 40 = .ok (.getfield 7, 3) := by decide +kernel
theorem dX11_read_43 : decode cX11_read 43 = .ok (.iload 5, 2) := by decide +kernel
theorem dX11_read_45 : decode cX11_read 45 = .ok (.iaload, 1) := by decide +kernel
theorem dX11_read_46 : decode cX11_read 46 = .ok (.iastore, 1) := by decide +kernel
theorem dX11_read_47 : decode cX11_read 47 = .ok (.iinc 5 1, 3) := by decide +kernel
theorem dX11_read_50 : decode cX11_read 50 = .ok (.goto (-24), 3) := by decide +kernel
theorem dX11_read_53 : decode cX11_read 53 = .ok (.iconst 0, 1) := by decide +kernel
theorem dX11_read_54 : decode cX11_read 54 = .ok (.istore 5, 2) := by decide +kernel
theorem dX11_read_56 : decode cX11_read 56 = .ok (.iconst 0, 1) := by decide +kernel
theorem dX11_read_57 : decode cX11_read 57 = .ok (.istore 6, 2) := by decide +kernel
theorem dX11_read_59 : decode cX11_read 59 = .ok (.iconst 0, 1) := by decide +kernel
theorem dX11_read_60 : decode cX11_read 60 = .ok (.istore 7, 2) := by decide +kernel
theorem dX11_read_62 : decode cX11_read 62 = .ok (.iload 7, 2) := by decide +kernel
theorem dX11_read_64 : decode cX11_read 64 = .ok (.iload 4, 2) := by decide +kernel
theorem dX11_read_66 : decode cX11_read 66 = .ok (.if_icmp .ge 193, 3) := by decide +kernel
theorem dX11_read_69 : decode cX11_read 69 = .ok (.iload 5, 2) := by decide +kernel
theorem dX11_read_71 : decode cX11_read 71 = .ok (.ifCond .ne 188, 3) := by decide +kernel
theorem dX11_read_74 : decode cX11_read 74 = .ok (.iconst 0, 1) := by decide +kernel
theorem dX11_read_75 : decode cX11_read 75 = .ok (.istore 8, 2) := by decide +kernel
theorem dX11_read_77 : decode cX11_read 77 = .ok (.iload 8, 2) := by decide +kernel
theorem dX11_read_79 : decode cX11_read 79 = .ok (.iconst 3, 1) := by decide +kernel
theorem dX11_read_80 : decode cX11_read 80 = .ok (.if_icmp .ge 84, 3) := by decide +kernel
theorem dX11_read_83 : decode cX11_read 83 = .ok (.iload 5, 2) := by decide +kernel
theorem dX11_read_85 : decode cX11_read 85 = .ok (.ifCond .ne 79, 3) := by decide +kernel
theorem dX11_read_88 : decode cX11_read 88 = .ok (.iload_n 3, 1) := by decide +kernel
theorem dX11_read_89 : decode cX11_read 89 = .ok (.i2l, 1) := by decide +kernel
theorem dX11_read_90 : decode cX11_read 90 = .ok (.iconst 3, 1) := by decide +kernel
theorem dX11_read_91 : decode cX11_read 91 = .ok (.iload 7, 2) := by decide +kernel
theorem dX11_read_93 : decode cX11_read 93 = .ok (.imul, 1) := by decide +kernel
theorem dX11_read_94 : decode cX11_read 94 = .ok (.i2l, 1) := by decide +kernel
theorem dX11_read_95 : decode cX11_read 95 = .ok (.ladd, 1) := by decide +kernel
theorem dX11_read_96 : decode cX11_read 96 = .ok (.iload 8, 2) := by decide +kernel
theorem dX11_read_98 : decode cX11_read 98 = .ok (.i2l, 1) := by decide +kernel
theorem dX11_read_99 : decode cX11_read 99 = .ok (.ladd, 1) := by decide +kernel
theorem dX11_read_100 : decode cX11_read 100 = .ok (.lstore 9, 2) := by decide +kernel
theorem dX11_read_102 : decode cX11_read 102 = .ok (.aload_n 0, 1) := by decide +kernel
theorem dX11_read_103 : decode cX11_read 103 = .ok (.getfield 29, 3) := by decide +kernel
theorem dX11_read_106 : decode cX11_read 106 = .ok (.iload_n 1, 1) := by decide +kernel
theorem dX11_read_107 : decode cX11_read 107 = .ok (.iaload, 1) := by decide +kernel
theorem dX11_read_108 : decode cX11_read 108 = .ok (.bipush (-4), 2) := by decide +kernel
theorem dX11_read_110 : decode cX11_read 110 = .ok (.if_icmp .ne 7, 3) := by decide +kernel
theorem dX11_read_113 : decode cX11_read 113 = .ok (.iconst 1, 1) := by decide +kernel
theorem dX11_read_114 : decode cX11_read 114 = .ok (.goto 42, 3) := by decide +kernel
theorem dX11_read_117 : decode cX11_read 117 = .ok (.aload_n 0, 1) := by decide +kernel
theorem dX11_read_118 : decode cX11_read 118 = .ok (.getfield 29, 3) := by decide +kernel
theorem dX11_read_121 : decode cX11_read 121 = .ok (.iload_n 1, 1) := by decide +kernel
theorem dX11_read_122 : decode cX11_read 122 = .ok (.iaload, 1) := by decide +kernel
theorem dX11_read_123 : decode cX11_read 123 = .ok (.iload_n 2, 1) := by decide +kernel
theorem dX11_read_124 : decode cX11_read 124 = .ok (.if_icmp .eq 7, 3) := by decide +kernel
theorem dX11_read_127 : decode cX11_read 127 = .ok (.iconst 3, 1) := by decide +kernel
theorem dX11_read_128 : decode cX11_read 128 = .ok (.goto 28, 3) := by decide +kernel
theorem dX11_read_131 : decode cX11_read 131 = .ok (.lload 9, 2) := by decide +kernel
theorem dX11_read_133 : decode cX11_read 133 = .ok (.lconst 0, 1) := by decide +kernel
theorem dX11_read_134 : decode cX11_read 134 = .ok (.lcmp, 1) := by decide +kernel
theorem dX11_read_135 : decode cX11_read 135 = .ok (.ifCond .lt 16, 3) := by decide +kernel
theorem dX11_read_138 : decode cX11_read 138 = .ok (.lload 9, 2) := by decide +kernel
theorem dX11_read_140 : decode cX11_read 140 = .ok (.aload_n 0, 1) := by decide +kernel
theorem dX11_read_141 : decode cX11_read 141 = .ok (.getfield 32, 3) := by decide +kernel
theorem dX11_read_144 : decode cX11_read 144 = .ok (.iload_n 1, 1) := by decide +kernel
theorem dX11_read_145 : decode cX11_read 145 = .ok (.iaload, 1) := by decide +kernel
theorem dX11_read_146 : decode cX11_read 146 = .ok (.i2l, 1) := by decide +kernel
theorem dX11_read_147 : decode cX11_read 147 = .ok (.lcmp, 1) := by decide +kernel
theorem dX11_read_148 : decode cX11_read 148 = .ok (.ifCond .lt 7, 3) := by decide +kernel
theorem dX11_read_151 : decode cX11_read 151 = .ok (.iconst 2, 1) := by decide +kernel
theorem dX11_read_152 : decode cX11_read 152 = .ok (.goto 4, 3) := by decide +kernel
theorem dX11_read_155 : decode cX11_read 155 = .ok (.iconst 0, 1) := by decide +kernel
theorem dX11_read_156 : decode cX11_read 156 = .ok (.istore 5, 2) := by decide +kernel
theorem dX11_read_158 : decode cX11_read 158 = .ok (.iinc 8 1, 3) := by decide +kernel
theorem dX11_read_161 : decode cX11_read 161 = .ok (.goto (-84), 3) := by decide +kernel
theorem dX11_read_164 : decode cX11_read 164 = .ok (.iload 5, 2) := by decide +kernel
theorem dX11_read_166 : decode cX11_read 166 = .ok (.ifCond .ne 87, 3) := by decide +kernel
theorem dX11_read_169 : decode cX11_read 169 = .ok (.bipush 40, 2) := by decide +kernel
theorem dX11_read_171 : decode cX11_read 171 = .ok (.iload_n 1, 1) := by decide +kernel
theorem dX11_read_172 : decode cX11_read 172 = .ok (.imul, 1) := by decide +kernel
theorem dX11_read_173 : decode cX11_read 173 = .ok (.iload_n 3, 1) := by decide +kernel
theorem dX11_read_174 : decode cX11_read 174 = .ok (.iadd, 1) := by decide +kernel
theorem dX11_read_175 : decode cX11_read 175 = .ok (.iconst 3, 1) := by decide +kernel
theorem dX11_read_176 : decode cX11_read 176 = .ok (.iload 7, 2) := by decide +kernel
theorem dX11_read_178 : decode cX11_read 178 = .ok (.imul, 1) := by decide +kernel
theorem dX11_read_179 : decode cX11_read 179 = .ok (.iadd, 1) := by decide +kernel
theorem dX11_read_180 : decode cX11_read 180 = .ok (.istore 8, 2) := by decide +kernel
theorem dX11_read_182 : decode cX11_read 182 = .ok (.aload_n 0, 1) := by decide +kernel
theorem dX11_read_183 : decode cX11_read 183 = .ok (.aload_n 0, 1) := by decide +kernel
theorem dX11_read_184 : decode cX11_read 184 = .ok (.getfield 35, 3) := by decide +kernel
theorem dX11_read_187 : decode cX11_read 187 = .ok (.iload 8, 2) := by decide +kernel
theorem dX11_read_189 : decode cX11_read 189 = .ok (.iaload, 1) := by decide +kernel
theorem dX11_read_190 : decode cX11_read 190 = .ok (.aload_n 0, 1) := by decide +kernel
theorem dX11_read_191 : decode cX11_read 191 = .ok (.getfield 35, 3) := by decide +kernel
theorem dX11_read_194 : decode cX11_read 194 = .ok (.iload 8, 2) := by decide +kernel
theorem dX11_read_196 : decode cX11_read 196 = .ok (.iconst 1, 1) := by decide +kernel
theorem dX11_read_197 : decode cX11_read 197 = .ok (.iadd, 1) := by decide +kernel
theorem dX11_read_198 : decode cX11_read 198 = .ok (.iaload, 1) := by decide +kernel
theorem dX11_read_199 : decode cX11_read 199 = .ok (.aload_n 0, 1) := by decide +kernel
theorem dX11_read_200 : decode cX11_read 200 = .ok (.getfield 35, 3) := by decide +kernel
theorem dX11_read_203 : decode cX11_read 203 = .ok (.iload 8, 2) := by decide +kernel
theorem dX11_read_205 : decode cX11_read 205 = .ok (.iconst 2, 1) := by decide +kernel
theorem dX11_read_206 : decode cX11_read 206 = .ok (.iadd, 1) := by decide +kernel
theorem dX11_read_207 : decode cX11_read 207 = .ok (.iaload, 1) := by decide +kernel
theorem dX11_read_208 : decode cX11_read 208 = .ok (.invokevirtual 307, 3) := by decide +kernel
theorem dX11_read_211 : decode cX11_read 211 = .ok (.ifCond .ge 39, 3) := by decide +kernel
theorem dX11_read_214 : decode cX11_read 214 = .ok (.iconst 0, 1) := by decide +kernel
theorem dX11_read_215 : decode cX11_read 215 = .ok (.istore 9, 2) := by decide +kernel
theorem dX11_read_217 : decode cX11_read 217 = .ok (.iload 9, 2) := by decide +kernel
theorem dX11_read_219 : decode cX11_read 219 = .ok (.bipush 76, 2) := by decide +kernel
theorem dX11_read_221 : decode cX11_read 221 = .ok (.if_icmp .ge 23, 3) := by decide +kernel
theorem dX11_read_224 : decode cX11_read 224 = .ok (.aload_n 0, 1) := by decide +kernel
theorem dX11_read_225 : decode cX11_read 225 = .ok (.getfield 7, 3) := by decide +kernel
theorem dX11_read_228 : decode cX11_read 228 = .ok (.iload 9, 2) := by decide +kernel
theorem dX11_read_230 : decode cX11_read 230 = .ok (.aload_n 0, 1) := by decide +kernel
theorem dX11_read_231 : decode cX11_read 231 = .ok (.getfield 38, 3) := by decide +kernel
theorem dX11_read_234 : decode cX11_read 234 = .ok (.iload 9, 2) := by decide +kernel
theorem dX11_read_236 : decode cX11_read 236 = .ok (.iaload, 1) := by decide +kernel
theorem dX11_read_237 : decode cX11_read 237 = .ok (.iastore, 1) := by decide +kernel
theorem dX11_read_238 : decode cX11_read 238 = .ok (.iinc 9 1, 3) := by decide +kernel
theorem dX11_read_241 : decode cX11_read 241 = .ok (.goto (-24), 3) := by decide +kernel
theorem dX11_read_244 : decode cX11_read 244 = .ok (.bipush (-20), 2) := by decide +kernel
theorem dX11_read_246 : decode cX11_read 246 = .ok (.iload 7, 2) := by decide +kernel
theorem dX11_read_248 : decode cX11_read 248 = .ok (.isub, 1) := by decide +kernel
theorem dX11_read_249 : decode cX11_read 249 = .ok (.ireturn, 1) := by decide +kernel
theorem dX11_read_250 : decode cX11_read 250 = .ok (.iinc 6 1, 3) := by decide +kernel
theorem dX11_read_253 : decode cX11_read 253 = .ok (.iinc 7 1, 3) := by decide +kernel
theorem dX11_read_256 : decode cX11_read 256 = .ok (.goto (-194), 3) := by decide +kernel
theorem dX11_read_259 : decode cX11_read 259 = .ok (.aload_n 0, 1) := by decide +kernel
theorem dX11_read_260 : decode cX11_read 260 = .ok (.iload 5, 2) := by decide +kernel
theorem dX11_read_262 : decode cX11_read 262 = .ok (.putfield 311, 3) := by decide +kernel
theorem dX11_read_265 : decode cX11_read 265 = .ok (.iload 6, 2) := by decide +kernel
theorem dX11_read_267 : decode cX11_read 267 = .ok (.ireturn, 1) := by decide +kernel
theorem dX11_torn_0 : decode cX11_torn 0 = .ok (.aload_n 0, 1) := by decide +kernel
theorem dX11_torn_1 : decode cX11_torn 1 = .ok (.getfield 311, 3) := by decide +kernel
theorem dX11_torn_4 : decode cX11_torn 4 = .ok (.ireturn, 1) := by decide +kernel
theorem dX11_count_0 : decode cX11_count 0 = .ok (.aload_n 0, 1) := by decide +kernel
theorem dX11_count_1 : decode cX11_count 1 = .ok (.invokevirtual 192, 3) := by decide +kernel
theorem dX11_count_4 : decode cX11_count 4 = .ok (.iload_n 1, 1) := by decide +kernel
theorem dX11_count_5 : decode cX11_count 5 = .ok (.tableswitch 107 0 5 #[39, 47, 67, 72, 95, 101], 39) := by decide +kernel
theorem dX11_count_44 : decode cX11_count 44 = .ok (.aload_n 0, 1) := by decide +kernel
theorem dX11_count_45 : decode cX11_count 45 = .ok (.getfield 7, 3) := by decide +kernel
theorem dX11_count_48 : decode cX11_count 48 = .ok (.bipush 57, 2) := by decide +kernel
theorem dX11_count_50 : decode cX11_count 50 = .ok (.iaload, 1) := by decide +kernel
theorem dX11_count_51 : decode cX11_count 51 = .ok (.ireturn, 1) := by decide +kernel
theorem dX11_count_52 : decode cX11_count 52 = .ok (.aload_n 0, 1) := by decide +kernel
theorem dX11_count_53 : decode cX11_count 53 = .ok (.getfield 16, 3) := by decide +kernel
theorem dX11_count_56 : decode cX11_count 56 = .ok (.iconst 0, 1) := by decide +kernel
theorem dX11_count_57 : decode cX11_count 57 = .ok (.baload, 1) := by decide +kernel
theorem dX11_count_58 : decode cX11_count 58 = .ok (.invokestatic 161, 3) := by decide +kernel
theorem dX11_count_61 : decode cX11_count 61 = .ok (.aload_n 0, 1) := by decide +kernel
theorem dX11_count_62 : decode cX11_count 62 = .ok (.getfield 16, 3) := by decide +kernel
theorem dX11_count_65 : decode cX11_count 65 = .ok (.iconst 1, 1) := by decide +kernel
theorem dX11_count_66 : decode cX11_count 66 = .ok (.baload, 1) := by decide +kernel
theorem dX11_count_67 : decode cX11_count 67 = .ok (.invokestatic 161, 3) := by decide +kernel
theorem dX11_count_70 : decode cX11_count 70 = .ok (.iadd, 1) := by decide +kernel
theorem dX11_count_71 : decode cX11_count 71 = .ok (.ireturn, 1) := by decide +kernel
theorem dX11_count_72 : decode cX11_count 72 = .ok (.aload_n 0, 1) := by decide +kernel
theorem dX11_count_73 : decode cX11_count 73 = .ok (.getfield 70, 3) := by decide +kernel
theorem dX11_count_76 : decode cX11_count 76 = .ok (.ireturn, 1) := by decide +kernel
theorem dX11_count_77 : decode cX11_count 77 = .ok (.aload_n 0, 1) := by decide +kernel
theorem dX11_count_78 : decode cX11_count 78 = .ok (.getfield 29, 3) := by decide +kernel
theorem dX11_count_81 : decode cX11_count 81 = .ok (.iconst 0, 1) := by decide +kernel
theorem dX11_count_82 : decode cX11_count 82 = .ok (.iaload, 1) := by decide +kernel
theorem dX11_count_83 : decode cX11_count 83 = .ok (.bipush (-4), 2) := by decide +kernel
theorem dX11_count_85 : decode cX11_count 85 = .ok (.if_icmp .ne 8, 3) := by decide +kernel
theorem dX11_count_88 : decode cX11_count 88 = .ok (.bipush (-4), 2) := by decide +kernel
theorem dX11_count_90 : decode cX11_count 90 = .ok (.goto 9, 3) := by decide +kernel
theorem dX11_count_93 : decode cX11_count 93 = .ok (.aload_n 0, 1) := by decide +kernel
theorem dX11_count_94 : decode cX11_count 94 = .ok (.getfield 32, 3) := by decide +kernel
theorem dX11_count_97 : decode cX11_count 97 = .ok (.iconst 0, 1) := by decide +kernel
theorem dX11_count_98 : decode cX11_count 98 = .ok (.iaload, 1) := by decide +kernel
theorem dX11_count_99 : decode cX11_count 99 = .ok (.ireturn, 1) := by decide +kernel
theorem dX11_count_100 : decode cX11_count 100 = .ok (.aload_n 0, 1) := by decide +kernel
theorem dX11_count_101 : decode cX11_count 101 = .ok (.iconst 2, 1) := by decide +kernel
theorem dX11_count_102 : decode cX11_count 102 = .ok (.invokevirtual 233, 3) := by decide +kernel
theorem dX11_count_105 : decode cX11_count 105 = .ok (.ireturn, 1) := by decide +kernel
theorem dX11_count_106 : decode cX11_count 106 = .ok (.aload_n 0, 1) := by decide +kernel
theorem dX11_count_107 : decode cX11_count 107 = .ok (.iconst 4, 1) := by decide +kernel
theorem dX11_count_108 : decode cX11_count 108 = .ok (.invokevirtual 233, 3) := by decide +kernel
theorem dX11_count_111 : decode cX11_count 111 = .ok (.ireturn, 1) := by decide +kernel
theorem dX11_count_112 : decode cX11_count 112 = .ok (.iconst (-1), 1) := by decide +kernel
theorem dX11_count_113 : decode cX11_count 113 = .ok (.ireturn, 1) := by decide +kernel
theorem dL_law_0 : decode cL_law 0 = .ok (.new 7, 3) := by decide +kernel
theorem dL_law_3 : decode cL_law 3 = .ok (.dup, 1) := by decide +kernel
theorem dL_law_4 : decode cL_law 4 = .ok (.invokespecial 9, 3) := by decide +kernel
theorem dL_law_7 : decode cL_law 7 = .ok (.astore_n 1, 1) := by decide +kernel
theorem dL_law_8 : decode cL_law 8 = .ok (.new 10, 3) := by decide +kernel
theorem dL_law_11 : decode cL_law 11 = .ok (.dup, 1) := by decide +kernel
theorem dL_law_12 : decode cL_law 12 = .ok (.invokespecial 12, 3) := by decide +kernel
theorem dL_law_15 : decode cL_law 15 = .ok (.astore_n 2, 1) := by decide +kernel
theorem dL_law_16 : decode cL_law 16 = .ok (.iconst 0, 1) := by decide +kernel
theorem dL_law_17 : decode cL_law 17 = .ok (.istore_n 3, 1) := by decide +kernel
theorem dL_law_18 : decode cL_law 18 = .ok (.iload_n 3, 1) := by decide +kernel
theorem dL_law_19 : decode cL_law 19 = .ok (.aload_n 0, 1) := by decide +kernel
theorem dL_law_20 : decode cL_law 20 = .ok (.arraylength, 1) := by decide +kernel
theorem dL_law_21 : decode cL_law 21 = .ok (.iconst 5, 1) := by decide +kernel
theorem dL_law_22 : decode cL_law 22 = .ok (.isub, 1) := by decide +kernel
theorem dL_law_23 : decode cL_law 23 = .ok (.if_icmp .gt 1292, 3) := by decide +kernel
theorem dL_law_26 : decode cL_law 26 = .ok (.aload_n 0, 1) := by decide +kernel
theorem dL_law_27 : decode cL_law 27 = .ok (.iload_n 3, 1) := by decide +kernel
theorem dL_law_28 : decode cL_law 28 = .ok (.iaload, 1) := by decide +kernel
theorem dL_law_29 : decode cL_law 29 = .ok (.bipush 63, 2) := by decide +kernel
theorem dL_law_31 : decode cL_law 31 = .ok (.iand, 1) := by decide +kernel
theorem dL_law_32 : decode cL_law 32 = .ok (.tableswitch 1277 0 36 #[164, 187, 210, 223, 236, 259, 292, 325, 358, 401, 444, 467, 500, 543, 566, 589, 622, 655, 678, 711, 744, 767, 780, 814, 858, 901, 924, 947, 980, 1013, 1056, 1079, 1102, 1145, 1188, 1241, 1254], 164) := by decide +kernel
theorem dL_law_196 : decode cL_law 196 = .ok (.aload_n 1, 1) := by decide +kernel
theorem dL_law_197 : decode cL_law 197 = .ok (.aload_n 0, 1) := by decide +kernel
theorem dL_law_198 : decode cL_law 198 = .ok (.iload_n 3, 1) := by decide +kernel
theorem dL_law_199 : decode cL_law 199 = .ok (.iconst 1, 1) := by decide +kernel
theorem dL_law_200 : decode cL_law 200 = .ok (.iadd, 1) := by decide +kernel
theorem dL_law_201 : decode cL_law 201 = .ok (.iaload, 1) := by decide +kernel
theorem dL_law_202 : decode cL_law 202 = .ok (.invokevirtual 13, 3) := by decide +kernel
theorem dL_law_205 : decode cL_law 205 = .ok (.aload_n 2, 1) := by decide +kernel
theorem dL_law_206 : decode cL_law 206 = .ok (.aload_n 0, 1) := by decide +kernel
theorem dL_law_207 : decode cL_law 207 = .ok (.iload_n 3, 1) := by decide +kernel
theorem dL_law_208 : decode cL_law 208 = .ok (.iconst 1, 1) := by decide +kernel
theorem dL_law_209 : decode cL_law 209 = .ok (.iadd, 1) := by decide +kernel
theorem dL_law_210 : decode cL_law 210 = .ok (.iaload, 1) := by decide +kernel
theorem dL_law_211 : decode cL_law 211 = .ok (.invokevirtual 17, 3) := by decide +kernel
theorem dL_law_214 : decode cL_law 214 = .ok (.if_icmp .eq 1095, 3) := by decide +kernel
theorem dL_law_217 : decode cL_law 217 = .ok (.iconst 0, 1) := by decide +kernel
theorem dL_law_218 : decode cL_law 218 = .ok (.ireturn, 1) := by decide +kernel
theorem dL_law_219 : decode cL_law 219 = .ok (.aload_n 1, 1) := by decide +kernel
theorem dL_law_220 : decode cL_law 220 = .ok (.aload_n 0, 1) := by decide +kernel
theorem dL_law_221 : decode cL_law 221 = .ok (.iload_n 3, 1) := by decide +kernel
theorem dL_law_222 : decode cL_law 222 = .ok (.iconst 1, 1) := by decide +kernel
theorem dL_law_223 : decode cL_law 223 = .ok (.iadd, 1) := by decide +kernel
theorem dL_law_224 : decode cL_law 224 = .ok (.iaload, 1) := by decide +kernel
theorem dL_law_225 : decode cL_law 225 = .ok (.invokevirtual 18, 3) := by decide +kernel
theorem dL_law_228 : decode cL_law 228 = .ok (.aload_n 2, 1) := by decide +kernel
theorem dL_law_229 : decode cL_law 229 = .ok (.aload_n 0, 1) := by decide +kernel
theorem dL_law_230 : decode cL_law 230 = .ok (.iload_n 3, 1) := by decide +kernel
theorem dL_law_231 : decode cL_law 231 = .ok (.iconst 1, 1) := by decide +kernel
theorem dL_law_232 : decode cL_law 232 = .ok (.iadd, 1) := by decide +kernel
theorem dL_law_233 : decode cL_law 233 = .ok (.iaload, 1) := by decide +kernel
theorem dL_law_234 : decode cL_law 234 = .ok (.invokevirtual 21, 3) := by decide +kernel
theorem dL_law_237 : decode cL_law 237 = .ok (.if_icmp .eq 1072, 3) := by decide +kernel
theorem dL_law_240 : decode cL_law 240 = .ok (.iconst 0, 1) := by decide +kernel
theorem dL_law_241 : decode cL_law 241 = .ok (.ireturn, 1) := by decide +kernel
theorem dL_law_242 : decode cL_law 242 = .ok (.aload_n 1, 1) := by decide +kernel
theorem dL_law_243 : decode cL_law 243 = .ok (.invokevirtual 22, 3) := by decide +kernel
theorem dL_law_246 : decode cL_law 246 = .ok (.aload_n 2, 1) := by decide +kernel
theorem dL_law_247 : decode cL_law 247 = .ok (.invokevirtual 26, 3) := by decide +kernel
theorem dL_law_250 : decode cL_law 250 = .ok (.if_icmp .eq 1059, 3) := by decide +kernel
theorem dL_law_253 : decode cL_law 253 = .ok (.iconst 0, 1) := by decide +kernel
theorem dL_law_254 : decode cL_law 254 = .ok (.ireturn, 1) := by decide +kernel
theorem dL_law_255 : decode cL_law 255 = .ok (.aload_n 1, 1) := by decide +kernel
theorem dL_law_256 : decode cL_law 256 = .ok (.invokevirtual 27, 3) := by decide +kernel
theorem dL_law_259 : decode cL_law 259 = .ok (.aload_n 2, 1) := by decide +kernel
theorem dL_law_260 : decode cL_law 260 = .ok (.invokevirtual 30, 3) := by decide +kernel
theorem dL_law_263 : decode cL_law 263 = .ok (.if_icmp .eq 1046, 3) := by decide +kernel
theorem dL_law_266 : decode cL_law 266 = .ok (.iconst 0, 1) := by decide +kernel
theorem dL_law_267 : decode cL_law 267 = .ok (.ireturn, 1) := by decide +kernel
theorem dL_law_268 : decode cL_law 268 = .ok (.aload_n 1, 1) := by decide +kernel
theorem dL_law_269 : decode cL_law 269 = .ok (.aload_n 0, 1) := by decide +kernel
theorem dL_law_270 : decode cL_law 270 = .ok (.iload_n 3, 1) := by decide +kernel
theorem dL_law_271 : decode cL_law 271 = .ok (.iconst 1, 1) := by decide +kernel
theorem dL_law_272 : decode cL_law 272 = .ok (.iadd, 1) := by decide +kernel
theorem dL_law_273 : decode cL_law 273 = .ok (.iaload, 1) := by decide +kernel
theorem dL_law_274 : decode cL_law 274 = .ok (.invokevirtual 31, 3) := by decide +kernel
theorem dL_law_277 : decode cL_law 277 = .ok (.aload_n 2, 1) := by decide +kernel
theorem dL_law_278 : decode cL_law 278 = .ok (.aload_n 0, 1) := by decide +kernel
theorem dL_law_279 : decode cL_law 279 = .ok (.iload_n 3, 1) := by decide +kernel
theorem dL_law_280 : decode cL_law 280 = .ok (.iconst 1, 1) := by decide +kernel
theorem dL_law_281 : decode cL_law 281 = .ok (.iadd, 1) := by decide +kernel
theorem dL_law_282 : decode cL_law 282 = .ok (.iaload, 1) := by decide +kernel
theorem dL_law_283 : decode cL_law 283 = .ok (.invokevirtual 34, 3) := by decide +kernel
theorem dL_law_286 : decode cL_law 286 = .ok (.if_icmp .eq 1023, 3) := by decide +kernel
theorem dL_law_289 : decode cL_law 289 = .ok (.iconst 0, 1) := by decide +kernel
theorem dL_law_290 : decode cL_law 290 = .ok (.ireturn, 1) := by decide +kernel
theorem dL_law_291 : decode cL_law 291 = .ok (.aload_n 1, 1) := by decide +kernel
theorem dL_law_292 : decode cL_law 292 = .ok (.aload_n 0, 1) := by decide +kernel
theorem dL_law_293 : decode cL_law 293 = .ok (.iload_n 3, 1) := by decide +kernel
theorem dL_law_294 : decode cL_law 294 = .ok (.iconst 1, 1) := by decide +kernel
theorem dL_law_295 : decode cL_law 295 = .ok (.iadd, 1) := by decide +kernel
theorem dL_law_296 : decode cL_law 296 = .ok (.iaload, 1) := by decide +kernel
theorem dL_law_297 : decode cL_law 297 = .ok (.aload_n 0, 1) := by decide +kernel
theorem dL_law_298 : decode cL_law 298 = .ok (.iload_n 3, 1) := by decide +kernel
theorem dL_law_299 : decode cL_law 299 = .ok (.iconst 2, 1) := by decide +kernel
theorem dL_law_300 : decode cL_law 300 = .ok (.iadd, 1) := by decide +kernel
theorem dL_law_301 : decode cL_law 301 = .ok (.iaload, 1) := by decide +kernel
theorem dL_law_302 : decode cL_law 302 = .ok (.invokevirtual 35, 3) := by decide +kernel
theorem dL_law_305 : decode cL_law 305 = .ok (.aload_n 2, 1) := by decide +kernel
theorem dL_law_306 : decode cL_law 306 = .ok (.aload_n 0, 1) := by decide +kernel
theorem dL_law_307 : decode cL_law 307 = .ok (.iload_n 3, 1) := by decide +kernel
theorem dL_law_308 : decode cL_law 308 = .ok (.iconst 1, 1) := by decide +kernel
theorem dL_law_309 : decode cL_law 309 = .ok (.iadd, 1) := by decide +kernel
theorem dL_law_310 : decode cL_law 310 = .ok (.iaload, 1) := by decide +kernel
theorem dL_law_311 : decode cL_law 311 = .ok (.aload_n 0, 1) := by decide +kernel
theorem dL_law_312 : decode cL_law 312 = .ok (.iload_n 3, 1) := by decide +kernel
theorem dL_law_313 : decode cL_law 313 = .ok (.iconst 2, 1) := by decide +kernel
theorem dL_law_314 : decode cL_law 314 = .ok (.iadd, 1) := by decide +kernel
theorem dL_law_315 : decode cL_law 315 = .ok (.iaload, 1) := by decide +kernel
theorem dL_law_316 : decode cL_law 316 = .ok (.invokevirtual 39, 3) := by decide +kernel
theorem dL_law_319 : decode cL_law 319 = .ok (.if_icmp .eq 990, 3) := by decide +kernel
theorem dL_law_322 : decode cL_law 322 = .ok (.iconst 0, 1) := by decide +kernel
theorem dL_law_323 : decode cL_law 323 = .ok (.ireturn, 1) := by decide +kernel
theorem dL_law_324 : decode cL_law 324 = .ok (.aload_n 1, 1) := by decide +kernel
theorem dL_law_325 : decode cL_law 325 = .ok (.aload_n 0, 1) := by decide +kernel
theorem dL_law_326 : decode cL_law 326 = .ok (.iload_n 3, 1) := by decide +kernel
theorem dL_law_327 : decode cL_law 327 = .ok (.iconst 1, 1) := by decide +kernel
theorem dL_law_328 : decode cL_law 328 = .ok (.iadd, 1) := by decide +kernel
theorem dL_law_329 : decode cL_law 329 = .ok (.iaload, 1) := by decide +kernel
theorem dL_law_330 : decode cL_law 330 = .ok (.aload_n 0, 1) := by decide +kernel
theorem dL_law_331 : decode cL_law 331 = .ok (.iload_n 3, 1) := by decide +kernel
theorem dL_law_332 : decode cL_law 332 = .ok (.iconst 2, 1) := by decide +kernel
theorem dL_law_333 : decode cL_law 333 = .ok (.iadd, 1) := by decide +kernel
theorem dL_law_334 : decode cL_law 334 = .ok (.iaload, 1) := by decide +kernel
theorem dL_law_335 : decode cL_law 335 = .ok (.invokevirtual 40, 3) := by decide +kernel
theorem dL_law_338 : decode cL_law 338 = .ok (.aload_n 2, 1) := by decide +kernel
theorem dL_law_339 : decode cL_law 339 = .ok (.aload_n 0, 1) := by decide +kernel
theorem dL_law_340 : decode cL_law 340 = .ok (.iload_n 3, 1) := by decide +kernel
theorem dL_law_341 : decode cL_law 341 = .ok (.iconst 1, 1) := by decide +kernel
theorem dL_law_342 : decode cL_law 342 = .ok (.iadd, 1) := by decide +kernel
theorem dL_law_343 : decode cL_law 343 = .ok (.iaload, 1) := by decide +kernel
theorem dL_law_344 : decode cL_law 344 = .ok (.aload_n 0, 1) := by decide +kernel
theorem dL_law_345 : decode cL_law 345 = .ok (.iload_n 3, 1) := by decide +kernel
theorem dL_law_346 : decode cL_law 346 = .ok (.iconst 2, 1) := by decide +kernel
theorem dL_law_347 : decode cL_law 347 = .ok (.iadd, 1) := by decide +kernel
theorem dL_law_348 : decode cL_law 348 = .ok (.iaload, 1) := by decide +kernel
theorem dL_law_349 : decode cL_law 349 = .ok (.invokevirtual 43, 3) := by decide +kernel
theorem dL_law_352 : decode cL_law 352 = .ok (.if_icmp .eq 957, 3) := by decide +kernel
theorem dL_law_355 : decode cL_law 355 = .ok (.iconst 0, 1) := by decide +kernel
theorem dL_law_356 : decode cL_law 356 = .ok (.ireturn, 1) := by decide +kernel
theorem dL_law_357 : decode cL_law 357 = .ok (.aload_n 1, 1) := by decide +kernel
theorem dL_law_358 : decode cL_law 358 = .ok (.aload_n 0, 1) := by decide +kernel
theorem dL_law_359 : decode cL_law 359 = .ok (.iload_n 3, 1) := by decide +kernel
theorem dL_law_360 : decode cL_law 360 = .ok (.iconst 1, 1) := by decide +kernel
theorem dL_law_361 : decode cL_law 361 = .ok (.iadd, 1) := by decide +kernel
theorem dL_law_362 : decode cL_law 362 = .ok (.iaload, 1) := by decide +kernel
theorem dL_law_363 : decode cL_law 363 = .ok (.aload_n 0, 1) := by decide +kernel
theorem dL_law_364 : decode cL_law 364 = .ok (.iload_n 3, 1) := by decide +kernel
theorem dL_law_365 : decode cL_law 365 = .ok (.iconst 2, 1) := by decide +kernel
theorem dL_law_366 : decode cL_law 366 = .ok (.iadd, 1) := by decide +kernel
theorem dL_law_367 : decode cL_law 367 = .ok (.iaload, 1) := by decide +kernel
theorem dL_law_368 : decode cL_law 368 = .ok (.invokevirtual 44, 3) := by decide +kernel
theorem dL_law_371 : decode cL_law 371 = .ok (.aload_n 2, 1) := by decide +kernel
theorem dL_law_372 : decode cL_law 372 = .ok (.aload_n 0, 1) := by decide +kernel
theorem dL_law_373 : decode cL_law 373 = .ok (.iload_n 3, 1) := by decide +kernel
theorem dL_law_374 : decode cL_law 374 = .ok (.iconst 1, 1) := by decide +kernel
theorem dL_law_375 : decode cL_law 375 = .ok (.iadd, 1) := by decide +kernel
theorem dL_law_376 : decode cL_law 376 = .ok (.iaload, 1) := by decide +kernel
theorem dL_law_377 : decode cL_law 377 = .ok (.aload_n 0, 1) := by decide +kernel
theorem dL_law_378 : decode cL_law 378 = .ok (.iload_n 3, 1) := by decide +kernel
theorem dL_law_379 : decode cL_law 379 = .ok (.iconst 2, 1) := by decide +kernel
theorem dL_law_380 : decode cL_law 380 = .ok (.iadd, 1) := by decide +kernel
theorem dL_law_381 : decode cL_law 381 = .ok (.iaload, 1) := by decide +kernel
theorem dL_law_382 : decode cL_law 382 = .ok (.invokevirtual 47, 3) := by decide +kernel
theorem dL_law_385 : decode cL_law 385 = .ok (.if_icmp .eq 924, 3) := by decide +kernel
theorem dL_law_388 : decode cL_law 388 = .ok (.iconst 0, 1) := by decide +kernel
theorem dL_law_389 : decode cL_law 389 = .ok (.ireturn, 1) := by decide +kernel
theorem dL_law_390 : decode cL_law 390 = .ok (.aload_n 1, 1) := by decide +kernel
theorem dL_law_391 : decode cL_law 391 = .ok (.aload_n 0, 1) := by decide +kernel
theorem dL_law_392 : decode cL_law 392 = .ok (.iload_n 3, 1) := by decide +kernel
theorem dL_law_393 : decode cL_law 393 = .ok (.iconst 1, 1) := by decide +kernel
theorem dL_law_394 : decode cL_law 394 = .ok (.iadd, 1) := by decide +kernel
theorem dL_law_395 : decode cL_law 395 = .ok (.iaload, 1) := by decide +kernel
theorem dL_law_396 : decode cL_law 396 = .ok (.aload_n 0, 1) := by decide +kernel
theorem dL_law_397 : decode cL_law 397 = .ok (.iload_n 3, 1) := by decide +kernel
theorem dL_law_398 : decode cL_law 398 = .ok (.iconst 2, 1) := by decide +kernel
theorem dL_law_399 : decode cL_law 399 = .ok (.iadd, 1) := by decide +kernel
theorem dL_law_400 : decode cL_law 400 = .ok (.iaload, 1) := by decide +kernel
theorem dL_law_401 : decode cL_law 401 = .ok (.aload_n 0, 1) := by decide +kernel
theorem dL_law_402 : decode cL_law 402 = .ok (.iload_n 3, 1) := by decide +kernel
theorem dL_law_403 : decode cL_law 403 = .ok (.iconst 3, 1) := by decide +kernel
theorem dL_law_404 : decode cL_law 404 = .ok (.iadd, 1) := by decide +kernel
theorem dL_law_405 : decode cL_law 405 = .ok (.iaload, 1) := by decide +kernel
theorem dL_law_406 : decode cL_law 406 = .ok (.invokevirtual 48, 3) := by decide +kernel
theorem dL_law_409 : decode cL_law 409 = .ok (.aload_n 2, 1) := by decide +kernel
theorem dL_law_410 : decode cL_law 410 = .ok (.aload_n 0, 1) := by decide +kernel
theorem dL_law_411 : decode cL_law 411 = .ok (.iload_n 3, 1) := by decide +kernel
theorem dL_law_412 : decode cL_law 412 = .ok (.iconst 1, 1) := by decide +kernel
theorem dL_law_413 : decode cL_law 413 = .ok (.iadd, 1) := by decide +kernel
theorem dL_law_414 : decode cL_law 414 = .ok (.iaload, 1) := by decide +kernel
theorem dL_law_415 : decode cL_law 415 = .ok (.aload_n 0, 1) := by decide +kernel
theorem dL_law_416 : decode cL_law 416 = .ok (.iload_n 3, 1) := by decide +kernel
theorem dL_law_417 : decode cL_law 417 = .ok (.iconst 2, 1) := by decide +kernel
theorem dL_law_418 : decode cL_law 418 = .ok (.iadd, 1) := by decide +kernel
theorem dL_law_419 : decode cL_law 419 = .ok (.iaload, 1) := by decide +kernel
theorem dL_law_420 : decode cL_law 420 = .ok (.aload_n 0, 1) := by decide +kernel
theorem dL_law_421 : decode cL_law 421 = .ok (.iload_n 3, 1) := by decide +kernel
theorem dL_law_422 : decode cL_law 422 = .ok (.iconst 3, 1) := by decide +kernel
theorem dL_law_423 : decode cL_law 423 = .ok (.iadd, 1) := by decide +kernel
theorem dL_law_424 : decode cL_law 424 = .ok (.iaload, 1) := by decide +kernel
theorem dL_law_425 : decode cL_law 425 = .ok (.invokevirtual 52, 3) := by decide +kernel
theorem dL_law_428 : decode cL_law 428 = .ok (.if_icmp .eq 881, 3) := by decide +kernel
theorem dL_law_431 : decode cL_law 431 = .ok (.iconst 0, 1) := by decide +kernel
theorem dL_law_432 : decode cL_law 432 = .ok (.ireturn, 1) := by decide +kernel
theorem dL_law_433 : decode cL_law 433 = .ok (.aload_n 1, 1) := by decide +kernel
theorem dL_law_434 : decode cL_law 434 = .ok (.aload_n 0, 1) := by decide +kernel
theorem dL_law_435 : decode cL_law 435 = .ok (.iload_n 3, 1) := by decide +kernel
theorem dL_law_436 : decode cL_law 436 = .ok (.iconst 1, 1) := by decide +kernel
theorem dL_law_437 : decode cL_law 437 = .ok (.iadd, 1) := by decide +kernel
theorem dL_law_438 : decode cL_law 438 = .ok (.iaload, 1) := by decide +kernel
theorem dL_law_439 : decode cL_law 439 = .ok (.aload_n 0, 1) := by decide +kernel
theorem dL_law_440 : decode cL_law 440 = .ok (.iload_n 3, 1) := by decide +kernel
theorem dL_law_441 : decode cL_law 441 = .ok (.iconst 2, 1) := by decide +kernel
theorem dL_law_442 : decode cL_law 442 = .ok (.iadd, 1) := by decide +kernel
theorem dL_law_443 : decode cL_law 443 = .ok (.iaload, 1) := by decide +kernel
theorem dL_law_444 : decode cL_law 444 = .ok (.aload_n 0, 1) := by decide +kernel
theorem dL_law_445 : decode cL_law 445 = .ok (.iload_n 3, 1) := by decide +kernel
theorem dL_law_446 : decode cL_law 446 = .ok (.iconst 3, 1) := by decide +kernel
theorem dL_law_447 : decode cL_law 447 = .ok (.iadd, 1) := by decide +kernel
theorem dL_law_448 : decode cL_law 448 = .ok (.iaload, 1) := by decide +kernel
theorem dL_law_449 : decode cL_law 449 = .ok (.invokevirtual 53, 3) := by decide +kernel
theorem dL_law_452 : decode cL_law 452 = .ok (.aload_n 2, 1) := by decide +kernel
theorem dL_law_453 : decode cL_law 453 = .ok (.aload_n 0, 1) := by decide +kernel
theorem dL_law_454 : decode cL_law 454 = .ok (.iload_n 3, 1) := by decide +kernel
theorem dL_law_455 : decode cL_law 455 = .ok (.iconst 1, 1) := by decide +kernel
theorem dL_law_456 : decode cL_law 456 = .ok (.iadd, 1) := by decide +kernel
theorem dL_law_457 : decode cL_law 457 = .ok (.iaload, 1) := by decide +kernel
theorem dL_law_458 : decode cL_law 458 = .ok (.aload_n 0, 1) := by decide +kernel
theorem dL_law_459 : decode cL_law 459 = .ok (.iload_n 3, 1) := by decide +kernel
theorem dL_law_460 : decode cL_law 460 = .ok (.iconst 2, 1) := by decide +kernel
theorem dL_law_461 : decode cL_law 461 = .ok (.iadd, 1) := by decide +kernel
theorem dL_law_462 : decode cL_law 462 = .ok (.iaload, 1) := by decide +kernel
theorem dL_law_463 : decode cL_law 463 = .ok (.aload_n 0, 1) := by decide +kernel
theorem dL_law_464 : decode cL_law 464 = .ok (.iload_n 3, 1) := by decide +kernel
theorem dL_law_465 : decode cL_law 465 = .ok (.iconst 3, 1) := by decide +kernel
theorem dL_law_466 : decode cL_law 466 = .ok (.iadd, 1) := by decide +kernel
theorem dL_law_467 : decode cL_law 467 = .ok (.iaload, 1) := by decide +kernel
theorem dL_law_468 : decode cL_law 468 = .ok (.invokevirtual 56, 3) := by decide +kernel
theorem dL_law_471 : decode cL_law 471 = .ok (.if_icmp .eq 838, 3) := by decide +kernel
theorem dL_law_474 : decode cL_law 474 = .ok (.iconst 0, 1) := by decide +kernel
theorem dL_law_475 : decode cL_law 475 = .ok (.ireturn, 1) := by decide +kernel
theorem dL_law_476 : decode cL_law 476 = .ok (.aload_n 1, 1) := by decide +kernel
theorem dL_law_477 : decode cL_law 477 = .ok (.aload_n 0, 1) := by decide +kernel
theorem dL_law_478 : decode cL_law 478 = .ok (.iload_n 3, 1) := by decide +kernel
theorem dL_law_479 : decode cL_law 479 = .ok (.iconst 1, 1) := by decide +kernel
theorem dL_law_480 : decode cL_law 480 = .ok (.iadd, 1) := by decide +kernel
theorem dL_law_481 : decode cL_law 481 = .ok (.iaload, 1) := by decide +kernel
theorem dL_law_482 : decode cL_law 482 = .ok (.invokevirtual 57, 3) := by decide +kernel
theorem dL_law_485 : decode cL_law 485 = .ok (.aload_n 2, 1) := by decide +kernel
theorem dL_law_486 : decode cL_law 486 = .ok (.aload_n 0, 1) := by decide +kernel
theorem dL_law_487 : decode cL_law 487 = .ok (.iload_n 3, 1) := by decide +kernel
theorem dL_law_488 : decode cL_law 488 = .ok (.iconst 1, 1) := by decide +kernel
theorem dL_law_489 : decode cL_law 489 = .ok (.iadd, 1) := by decide +kernel
theorem dL_law_490 : decode cL_law 490 = .ok (.iaload, 1) := by decide +kernel
theorem dL_law_491 : decode cL_law 491 = .ok (.invokevirtual 60, 3) := by decide +kernel
theorem dL_law_494 : decode cL_law 494 = .ok (.if_icmp .eq 815, 3) := by decide +kernel
theorem dL_law_497 : decode cL_law 497 = .ok (.iconst 0, 1) := by decide +kernel
theorem dL_law_498 : decode cL_law 498 = .ok (.ireturn, 1) := by decide +kernel
theorem dL_law_499 : decode cL_law 499 = .ok (.aload_n 1, 1) := by decide +kernel
theorem dL_law_500 : decode cL_law 500 = .ok (.aload_n 0, 1) := by decide +kernel
theorem dL_law_501 : decode cL_law 501 = .ok (.iload_n 3, 1) := by decide +kernel
theorem dL_law_502 : decode cL_law 502 = .ok (.iconst 1, 1) := by decide +kernel
theorem dL_law_503 : decode cL_law 503 = .ok (.iadd, 1) := by decide +kernel
theorem dL_law_504 : decode cL_law 504 = .ok (.iaload, 1) := by decide +kernel
theorem dL_law_505 : decode cL_law 505 = .ok (.aload_n 0, 1) := by decide +kernel
theorem dL_law_506 : decode cL_law 506 = .ok (.iload_n 3, 1) := by decide +kernel
theorem dL_law_507 : decode cL_law 507 = .ok (.iconst 2, 1) := by decide +kernel
theorem dL_law_508 : decode cL_law 508 = .ok (.iadd, 1) := by decide +kernel
theorem dL_law_509 : decode cL_law 509 = .ok (.iaload, 1) := by decide +kernel
theorem dL_law_510 : decode cL_law 510 = .ok (.invokevirtual 61, 3) := by decide +kernel
theorem dL_law_513 : decode cL_law 513 = .ok (.aload_n 2, 1) := by decide +kernel
theorem dL_law_514 : decode cL_law 514 = .ok (.aload_n 0, 1) := by decide +kernel
theorem dL_law_515 : decode cL_law 515 = .ok (.iload_n 3, 1) := by decide +kernel
theorem dL_law_516 : decode cL_law 516 = .ok (.iconst 1, 1) := by decide +kernel
theorem dL_law_517 : decode cL_law 517 = .ok (.iadd, 1) := by decide +kernel
theorem dL_law_518 : decode cL_law 518 = .ok (.iaload, 1) := by decide +kernel
theorem dL_law_519 : decode cL_law 519 = .ok (.aload_n 0, 1) := by decide +kernel
theorem dL_law_520 : decode cL_law 520 = .ok (.iload_n 3, 1) := by decide +kernel
theorem dL_law_521 : decode cL_law 521 = .ok (.iconst 2, 1) := by decide +kernel
theorem dL_law_522 : decode cL_law 522 = .ok (.iadd, 1) := by decide +kernel
theorem dL_law_523 : decode cL_law 523 = .ok (.iaload, 1) := by decide +kernel
theorem dL_law_524 : decode cL_law 524 = .ok (.invokevirtual 64, 3) := by decide +kernel
theorem dL_law_527 : decode cL_law 527 = .ok (.if_icmp .eq 782, 3) := by decide +kernel
theorem dL_law_530 : decode cL_law 530 = .ok (.iconst 0, 1) := by decide +kernel
theorem dL_law_531 : decode cL_law 531 = .ok (.ireturn, 1) := by decide +kernel
theorem dL_law_532 : decode cL_law 532 = .ok (.aload_n 1, 1) := by decide +kernel
theorem dL_law_533 : decode cL_law 533 = .ok (.aload_n 0, 1) := by decide +kernel
theorem dL_law_534 : decode cL_law 534 = .ok (.iload_n 3, 1) := by decide +kernel
theorem dL_law_535 : decode cL_law 535 = .ok (.iconst 1, 1) := by decide +kernel
theorem dL_law_536 : decode cL_law 536 = .ok (.iadd, 1) := by decide +kernel
theorem dL_law_537 : decode cL_law 537 = .ok (.iaload, 1) := by decide +kernel
theorem dL_law_538 : decode cL_law 538 = .ok (.aload_n 0, 1) := by decide +kernel
theorem dL_law_539 : decode cL_law 539 = .ok (.iload_n 3, 1) := by decide +kernel
theorem dL_law_540 : decode cL_law 540 = .ok (.iconst 2, 1) := by decide +kernel
theorem dL_law_541 : decode cL_law 541 = .ok (.iadd, 1) := by decide +kernel
theorem dL_law_542 : decode cL_law 542 = .ok (.iaload, 1) := by decide +kernel
theorem dL_law_543 : decode cL_law 543 = .ok (.aload_n 0, 1) := by decide +kernel
theorem dL_law_544 : decode cL_law 544 = .ok (.iload_n 3, 1) := by decide +kernel
theorem dL_law_545 : decode cL_law 545 = .ok (.iconst 3, 1) := by decide +kernel
theorem dL_law_546 : decode cL_law 546 = .ok (.iadd, 1) := by decide +kernel
theorem dL_law_547 : decode cL_law 547 = .ok (.iaload, 1) := by decide +kernel
theorem dL_law_548 : decode cL_law 548 = .ok (.invokevirtual 65, 3) := by decide +kernel
theorem dL_law_551 : decode cL_law 551 = .ok (.aload_n 2, 1) := by decide +kernel
theorem dL_law_552 : decode cL_law 552 = .ok (.aload_n 0, 1) := by decide +kernel
theorem dL_law_553 : decode cL_law 553 = .ok (.iload_n 3, 1) := by decide +kernel
theorem dL_law_554 : decode cL_law 554 = .ok (.iconst 1, 1) := by decide +kernel
theorem dL_law_555 : decode cL_law 555 = .ok (.iadd, 1) := by decide +kernel
theorem dL_law_556 : decode cL_law 556 = .ok (.iaload, 1) := by decide +kernel
theorem dL_law_557 : decode cL_law 557 = .ok (.aload_n 0, 1) := by decide +kernel
theorem dL_law_558 : decode cL_law 558 = .ok (.iload_n 3, 1) := by decide +kernel
theorem dL_law_559 : decode cL_law 559 = .ok (.iconst 2, 1) := by decide +kernel
theorem dL_law_560 : decode cL_law 560 = .ok (.iadd, 1) := by decide +kernel
theorem dL_law_561 : decode cL_law 561 = .ok (.iaload, 1) := by decide +kernel
theorem dL_law_562 : decode cL_law 562 = .ok (.aload_n 0, 1) := by decide +kernel
theorem dL_law_563 : decode cL_law 563 = .ok (.iload_n 3, 1) := by decide +kernel
theorem dL_law_564 : decode cL_law 564 = .ok (.iconst 3, 1) := by decide +kernel
theorem dL_law_565 : decode cL_law 565 = .ok (.iadd, 1) := by decide +kernel
theorem dL_law_566 : decode cL_law 566 = .ok (.iaload, 1) := by decide +kernel
theorem dL_law_567 : decode cL_law 567 = .ok (.invokevirtual 68, 3) := by decide +kernel
theorem dL_law_570 : decode cL_law 570 = .ok (.if_icmp .eq 739, 3) := by decide +kernel
theorem dL_law_573 : decode cL_law 573 = .ok (.iconst 0, 1) := by decide +kernel
theorem dL_law_574 : decode cL_law 574 = .ok (.ireturn, 1) := by decide +kernel
theorem dL_law_575 : decode cL_law 575 = .ok (.aload_n 1, 1) := by decide +kernel
theorem dL_law_576 : decode cL_law 576 = .ok (.aload_n 0, 1) := by decide +kernel
theorem dL_law_577 : decode cL_law 577 = .ok (.iload_n 3, 1) := by decide +kernel
theorem dL_law_578 : decode cL_law 578 = .ok (.iconst 1, 1) := by decide +kernel
theorem dL_law_579 : decode cL_law 579 = .ok (.iadd, 1) := by decide +kernel
theorem dL_law_580 : decode cL_law 580 = .ok (.iaload, 1) := by decide +kernel
theorem dL_law_581 : decode cL_law 581 = .ok (.invokevirtual 69, 3) := by decide +kernel
theorem dL_law_584 : decode cL_law 584 = .ok (.aload_n 2, 1) := by decide +kernel
theorem dL_law_585 : decode cL_law 585 = .ok (.aload_n 0, 1) := by decide +kernel
theorem dL_law_586 : decode cL_law 586 = .ok (.iload_n 3, 1) := by decide +kernel
theorem dL_law_587 : decode cL_law 587 = .ok (.iconst 1, 1) := by decide +kernel
theorem dL_law_588 : decode cL_law 588 = .ok (.iadd, 1) := by decide +kernel
theorem dL_law_589 : decode cL_law 589 = .ok (.iaload, 1) := by decide +kernel
theorem dL_law_590 : decode cL_law 590 = .ok (.invokevirtual 72, 3) := by decide +kernel
theorem dL_law_593 : decode cL_law 593 = .ok (.if_icmp .eq 716, 3) := by decide +kernel
theorem dL_law_596 : decode cL_law 596 = .ok (.iconst 0, 1) := by decide +kernel
theorem dL_law_597 : decode cL_law 597 = .ok (.ireturn, 1) := by decide +kernel
theorem dL_law_598 : decode cL_law 598 = .ok (.aload_n 1, 1) := by decide +kernel
theorem dL_law_599 : decode cL_law 599 = .ok (.aload_n 0, 1) := by decide +kernel
theorem dL_law_600 : decode cL_law 600 = .ok (.iload_n 3, 1) := by decide +kernel
theorem dL_law_601 : decode cL_law 601 = .ok (.iconst 1, 1) := by decide +kernel
theorem dL_law_602 : decode cL_law 602 = .ok (.iadd, 1) := by decide +kernel
theorem dL_law_603 : decode cL_law 603 = .ok (.iaload, 1) := by decide +kernel
theorem dL_law_604 : decode cL_law 604 = .ok (.invokevirtual 73, 3) := by decide +kernel
theorem dL_law_607 : decode cL_law 607 = .ok (.aload_n 2, 1) := by decide +kernel
theorem dL_law_608 : decode cL_law 608 = .ok (.aload_n 0, 1) := by decide +kernel
theorem dL_law_609 : decode cL_law 609 = .ok (.iload_n 3, 1) := by decide +kernel
theorem dL_law_610 : decode cL_law 610 = .ok (.iconst 1, 1) := by decide +kernel
theorem dL_law_611 : decode cL_law 611 = .ok (.iadd, 1) := by decide +kernel
theorem dL_law_612 : decode cL_law 612 = .ok (.iaload, 1) := by decide +kernel
theorem dL_law_613 : decode cL_law 613 = .ok (.invokevirtual 76, 3) := by decide +kernel
theorem dL_law_616 : decode cL_law 616 = .ok (.if_icmp .eq 693, 3) := by decide +kernel
theorem dL_law_619 : decode cL_law 619 = .ok (.iconst 0, 1) := by decide +kernel
theorem dL_law_620 : decode cL_law 620 = .ok (.ireturn, 1) := by decide +kernel
theorem dL_law_621 : decode cL_law 621 = .ok (.aload_n 1, 1) := by decide +kernel
theorem dL_law_622 : decode cL_law 622 = .ok (.aload_n 0, 1) := by decide +kernel
theorem dL_law_623 : decode cL_law 623 = .ok (.iload_n 3, 1) := by decide +kernel
theorem dL_law_624 : decode cL_law 624 = .ok (.iconst 1, 1) := by decide +kernel
theorem dL_law_625 : decode cL_law 625 = .ok (.iadd, 1) := by decide +kernel
theorem dL_law_626 : decode cL_law 626 = .ok (.iaload, 1) := by decide +kernel
theorem dL_law_627 : decode cL_law 627 = .ok (.aload_n 0, 1) := by decide +kernel
theorem dL_law_628 : decode cL_law 628 = .ok (.iload_n 3, 1) := by decide +kernel
theorem dL_law_629 : decode cL_law 629 = .ok (.iconst 2, 1) := by decide +kernel
theorem dL_law_630 : decode cL_law 630 = .ok (.iadd, 1) := by decide +kernel
theorem dL_law_631 : decode cL_law 631 = .ok (.iaload, 1) := by decide +kernel
theorem dL_law_632 : decode cL_law 632 = .ok (.invokevirtual 77, 3) := by decide +kernel
theorem dL_law_635 : decode cL_law 635 = .ok (.aload_n 2, 1) := by decide +kernel
theorem dL_law_636 : decode cL_law 636 = .ok (.aload_n 0, 1) := by decide +kernel
theorem dL_law_637 : decode cL_law 637 = .ok (.iload_n 3, 1) := by decide +kernel
theorem dL_law_638 : decode cL_law 638 = .ok (.iconst 1, 1) := by decide +kernel
theorem dL_law_639 : decode cL_law 639 = .ok (.iadd, 1) := by decide +kernel
theorem dL_law_640 : decode cL_law 640 = .ok (.iaload, 1) := by decide +kernel
theorem dL_law_641 : decode cL_law 641 = .ok (.aload_n 0, 1) := by decide +kernel
theorem dL_law_642 : decode cL_law 642 = .ok (.iload_n 3, 1) := by decide +kernel
theorem dL_law_643 : decode cL_law 643 = .ok (.iconst 2, 1) := by decide +kernel
theorem dL_law_644 : decode cL_law 644 = .ok (.iadd, 1) := by decide +kernel
theorem dL_law_645 : decode cL_law 645 = .ok (.iaload, 1) := by decide +kernel
theorem dL_law_646 : decode cL_law 646 = .ok (.invokevirtual 80, 3) := by decide +kernel
theorem dL_law_649 : decode cL_law 649 = .ok (.if_icmp .eq 660, 3) := by decide +kernel
theorem dL_law_652 : decode cL_law 652 = .ok (.iconst 0, 1) := by decide +kernel
theorem dL_law_653 : decode cL_law 653 = .ok (.ireturn, 1) := by decide +kernel
theorem dL_law_654 : decode cL_law 654 = .ok (.aload_n 1, 1) := by decide +kernel
theorem dL_law_655 : decode cL_law 655 = .ok (.aload_n 0, 1) := by decide +kernel
theorem dL_law_656 : decode cL_law 656 = .ok (.iload_n 3, 1) := by decide +kernel
theorem dL_law_657 : decode cL_law 657 = .ok (.iconst 1, 1) := by decide +kernel
theorem dL_law_658 : decode cL_law 658 = .ok (.iadd, 1) := by decide +kernel
theorem dL_law_659 : decode cL_law 659 = .ok (.iaload, 1) := by decide +kernel
theorem dL_law_660 : decode cL_law 660 = .ok (.aload_n 0, 1) := by decide +kernel
theorem dL_law_661 : decode cL_law 661 = .ok (.iload_n 3, 1) := by decide +kernel
theorem dL_law_662 : decode cL_law 662 = .ok (.iconst 2, 1) := by decide +kernel
theorem dL_law_663 : decode cL_law 663 = .ok (.iadd, 1) := by decide +kernel
theorem dL_law_664 : decode cL_law 664 = .ok (.iaload, 1) := by decide +kernel
theorem dL_law_665 : decode cL_law 665 = .ok (.invokevirtual 81, 3) := by decide +kernel
theorem dL_law_668 : decode cL_law 668 = .ok (.aload_n 2, 1) := by decide +kernel
theorem dL_law_669 : decode cL_law 669 = .ok (.aload_n 0, 1) := by decide +kernel
theorem dL_law_670 : decode cL_law 670 = .ok (.iload_n 3, 1) := by decide +kernel
theorem dL_law_671 : decode cL_law 671 = .ok (.iconst 1, 1) := by decide +kernel
theorem dL_law_672 : decode cL_law 672 = .ok (.iadd, 1) := by decide +kernel
theorem dL_law_673 : decode cL_law 673 = .ok (.iaload, 1) := by decide +kernel
theorem dL_law_674 : decode cL_law 674 = .ok (.aload_n 0, 1) := by decide +kernel
theorem dL_law_675 : decode cL_law 675 = .ok (.iload_n 3, 1) := by decide +kernel
theorem dL_law_676 : decode cL_law 676 = .ok (.iconst 2, 1) := by decide +kernel
theorem dL_law_677 : decode cL_law 677 = .ok (.iadd, 1) := by decide +kernel
theorem dL_law_678 : decode cL_law 678 = .ok (.iaload, 1) := by decide +kernel
theorem dL_law_679 : decode cL_law 679 = .ok (.invokevirtual 84, 3) := by decide +kernel
theorem dL_law_682 : decode cL_law 682 = .ok (.if_icmp .eq 627, 3) := by decide +kernel
theorem dL_law_685 : decode cL_law 685 = .ok (.iconst 0, 1) := by decide +kernel
theorem dL_law_686 : decode cL_law 686 = .ok (.ireturn, 1) := by decide +kernel
theorem dL_law_687 : decode cL_law 687 = .ok (.aload_n 1, 1) := by decide +kernel
theorem dL_law_688 : decode cL_law 688 = .ok (.aload_n 0, 1) := by decide +kernel
theorem dL_law_689 : decode cL_law 689 = .ok (.iload_n 3, 1) := by decide +kernel
theorem dL_law_690 : decode cL_law 690 = .ok (.iconst 1, 1) := by decide +kernel
theorem dL_law_691 : decode cL_law 691 = .ok (.iadd, 1) := by decide +kernel
theorem dL_law_692 : decode cL_law 692 = .ok (.iaload, 1) := by decide +kernel
theorem dL_law_693 : decode cL_law 693 = .ok (.invokevirtual 85, 3) := by decide +kernel
theorem dL_law_696 : decode cL_law 696 = .ok (.aload_n 2, 1) := by decide +kernel
theorem dL_law_697 : decode cL_law 697 = .ok (.aload_n 0, 1) := by decide +kernel
theorem dL_law_698 : decode cL_law 698 = .ok (.iload_n 3, 1) := by decide +kernel
theorem dL_law_699 : decode cL_law 699 = .ok (.iconst 1, 1) := by decide +kernel
theorem dL_law_700 : decode cL_law 700 = .ok (.iadd, 1) := by decide +kernel
theorem dL_law_701 : decode cL_law 701 = .ok (.iaload, 1) := by decide +kernel
theorem dL_law_702 : decode cL_law 702 = .ok (.invokevirtual 88, 3) := by decide +kernel
theorem dL_law_705 : decode cL_law 705 = .ok (.if_icmp .eq 604, 3) := by decide +kernel
theorem dL_law_708 : decode cL_law 708 = .ok (.iconst 0, 1) := by decide +kernel
theorem dL_law_709 : decode cL_law 709 = .ok (.ireturn, 1) := by decide +kernel
theorem dL_law_710 : decode cL_law 710 = .ok (.aload_n 1, 1) := by decide +kernel
theorem dL_law_711 : decode cL_law 711 = .ok (.aload_n 0, 1) := by decide +kernel
theorem dL_law_712 : decode cL_law 712 = .ok (.iload_n 3, 1) := by decide +kernel
theorem dL_law_713 : decode cL_law 713 = .ok (.iconst 1, 1) := by decide +kernel
theorem dL_law_714 : decode cL_law 714 = .ok (.iadd, 1) := by decide +kernel
theorem dL_law_715 : decode cL_law 715 = .ok (.iaload, 1) := by decide +kernel
theorem dL_law_716 : decode cL_law 716 = .ok (.aload_n 0, 1) := by decide +kernel
theorem dL_law_717 : decode cL_law 717 = .ok (.iload_n 3, 1) := by decide +kernel
theorem dL_law_718 : decode cL_law 718 = .ok (.iconst 2, 1) := by decide +kernel
theorem dL_law_719 : decode cL_law 719 = .ok (.iadd, 1) := by decide +kernel
theorem dL_law_720 : decode cL_law 720 = .ok (.iaload, 1) := by decide +kernel
theorem dL_law_721 : decode cL_law 721 = .ok (.invokevirtual 89, 3) := by decide +kernel
theorem dL_law_724 : decode cL_law 724 = .ok (.aload_n 2, 1) := by decide +kernel
theorem dL_law_725 : decode cL_law 725 = .ok (.aload_n 0, 1) := by decide +kernel
theorem dL_law_726 : decode cL_law 726 = .ok (.iload_n 3, 1) := by decide +kernel
theorem dL_law_727 : decode cL_law 727 = .ok (.iconst 1, 1) := by decide +kernel
theorem dL_law_728 : decode cL_law 728 = .ok (.iadd, 1) := by decide +kernel
theorem dL_law_729 : decode cL_law 729 = .ok (.iaload, 1) := by decide +kernel
theorem dL_law_730 : decode cL_law 730 = .ok (.aload_n 0, 1) := by decide +kernel
theorem dL_law_731 : decode cL_law 731 = .ok (.iload_n 3, 1) := by decide +kernel
theorem dL_law_732 : decode cL_law 732 = .ok (.iconst 2, 1) := by decide +kernel
theorem dL_law_733 : decode cL_law 733 = .ok (.iadd, 1) := by decide +kernel
theorem dL_law_734 : decode cL_law 734 = .ok (.iaload, 1) := by decide +kernel
theorem dL_law_735 : decode cL_law 735 = .ok (.invokevirtual 92, 3) := by decide +kernel
theorem dL_law_738 : decode cL_law 738 = .ok (.if_icmp .eq 571, 3) := by decide +kernel
theorem dL_law_741 : decode cL_law 741 = .ok (.iconst 0, 1) := by decide +kernel
theorem dL_law_742 : decode cL_law 742 = .ok (.ireturn, 1) := by decide +kernel
theorem dL_law_743 : decode cL_law 743 = .ok (.aload_n 1, 1) := by decide +kernel
theorem dL_law_744 : decode cL_law 744 = .ok (.aload_n 0, 1) := by decide +kernel
theorem dL_law_745 : decode cL_law 745 = .ok (.iload_n 3, 1) := by decide +kernel
theorem dL_law_746 : decode cL_law 746 = .ok (.iconst 1, 1) := by decide +kernel
theorem dL_law_747 : decode cL_law 747 = .ok (.iadd, 1) := by decide +kernel
theorem dL_law_748 : decode cL_law 748 = .ok (.iaload, 1) := by decide +kernel
theorem dL_law_749 : decode cL_law 749 = .ok (.aload_n 0, 1) := by decide +kernel
theorem dL_law_750 : decode cL_law 750 = .ok (.iload_n 3, 1) := by decide +kernel
theorem dL_law_751 : decode cL_law 751 = .ok (.iconst 2, 1) := by decide +kernel
theorem dL_law_752 : decode cL_law 752 = .ok (.iadd, 1) := by decide +kernel
theorem dL_law_753 : decode cL_law 753 = .ok (.iaload, 1) := by decide +kernel
theorem dL_law_754 : decode cL_law 754 = .ok (.invokevirtual 93, 3) := by decide +kernel
theorem dL_law_757 : decode cL_law 757 = .ok (.aload_n 2, 1) := by decide +kernel
theorem dL_law_758 : decode cL_law 758 = .ok (.aload_n 0, 1) := by decide +kernel
theorem dL_law_759 : decode cL_law 759 = .ok (.iload_n 3, 1) := by decide +kernel
theorem dL_law_760 : decode cL_law 760 = .ok (.iconst 1, 1) := by decide +kernel
theorem dL_law_761 : decode cL_law 761 = .ok (.iadd, 1) := by decide +kernel
theorem dL_law_762 : decode cL_law 762 = .ok (.iaload, 1) := by decide +kernel
theorem dL_law_763 : decode cL_law 763 = .ok (.aload_n 0, 1) := by decide +kernel
theorem dL_law_764 : decode cL_law 764 = .ok (.iload_n 3, 1) := by decide +kernel
theorem dL_law_765 : decode cL_law 765 = .ok (.iconst 2, 1) := by decide +kernel
theorem dL_law_766 : decode cL_law 766 = .ok (.iadd, 1) := by decide +kernel
theorem dL_law_767 : decode cL_law 767 = .ok (.iaload, 1) := by decide +kernel
theorem dL_law_768 : decode cL_law 768 = .ok (.invokevirtual 96, 3) := by decide +kernel
theorem dL_law_771 : decode cL_law 771 = .ok (.if_icmp .eq 538, 3) := by decide +kernel
theorem dL_law_774 : decode cL_law 774 = .ok (.iconst 0, 1) := by decide +kernel
theorem dL_law_775 : decode cL_law 775 = .ok (.ireturn, 1) := by decide +kernel
theorem dL_law_776 : decode cL_law 776 = .ok (.aload_n 1, 1) := by decide +kernel
theorem dL_law_777 : decode cL_law 777 = .ok (.aload_n 0, 1) := by decide +kernel
theorem dL_law_778 : decode cL_law 778 = .ok (.iload_n 3, 1) := by decide +kernel
theorem dL_law_779 : decode cL_law 779 = .ok (.iconst 1, 1) := by decide +kernel
theorem dL_law_780 : decode cL_law 780 = .ok (.iadd, 1) := by decide +kernel
theorem dL_law_781 : decode cL_law 781 = .ok (.iaload, 1) := by decide +kernel
theorem dL_law_782 : decode cL_law 782 = .ok (.invokevirtual 97, 3) := by decide +kernel
theorem dL_law_785 : decode cL_law 785 = .ok (.aload_n 2, 1) := by decide +kernel
theorem dL_law_786 : decode cL_law 786 = .ok (.aload_n 0, 1) := by decide +kernel
theorem dL_law_787 : decode cL_law 787 = .ok (.iload_n 3, 1) := by decide +kernel
theorem dL_law_788 : decode cL_law 788 = .ok (.iconst 1, 1) := by decide +kernel
theorem dL_law_789 : decode cL_law 789 = .ok (.iadd, 1) := by decide +kernel
theorem dL_law_790 : decode cL_law 790 = .ok (.iaload, 1) := by decide +kernel
theorem dL_law_791 : decode cL_law 791 = .ok (.invokevirtual 100, 3) := by decide +kernel
theorem dL_law_794 : decode cL_law 794 = .ok (.if_icmp .eq 515, 3) := by decide +kernel
theorem dL_law_797 : decode cL_law 797 = .ok (.iconst 0, 1) := by decide +kernel
theorem dL_law_798 : decode cL_law 798 = .ok (.ireturn, 1) := by decide +kernel
theorem dL_law_799 : decode cL_law 799 = .ok (.aload_n 1, 1) := by decide +kernel
theorem dL_law_800 : decode cL_law 800 = .ok (.invokevirtual 101, 3) := by decide +kernel
theorem dL_law_803 : decode cL_law 803 = .ok (.aload_n 2, 1) := by decide +kernel
theorem dL_law_804 : decode cL_law 804 = .ok (.invokevirtual 104, 3) := by decide +kernel
theorem dL_law_807 : decode cL_law 807 = .ok (.if_icmp .eq 502, 3) := by decide +kernel
theorem dL_law_810 : decode cL_law 810 = .ok (.iconst 0, 1) := by decide +kernel
theorem dL_law_811 : decode cL_law 811 = .ok (.ireturn, 1) := by decide +kernel
theorem dL_law_812 : decode cL_law 812 = .ok (.aload_n 1, 1) := by decide +kernel
theorem dL_law_813 : decode cL_law 813 = .ok (.aload_n 0, 1) := by decide +kernel
theorem dL_law_814 : decode cL_law 814 = .ok (.iload_n 3, 1) := by decide +kernel
theorem dL_law_815 : decode cL_law 815 = .ok (.iconst 1, 1) := by decide +kernel
theorem dL_law_816 : decode cL_law 816 = .ok (.iadd, 1) := by decide +kernel
theorem dL_law_817 : decode cL_law 817 = .ok (.iaload, 1) := by decide +kernel
theorem dL_law_818 : decode cL_law 818 = .ok (.aload_n 0, 1) := by decide +kernel
theorem dL_law_819 : decode cL_law 819 = .ok (.iload_n 3, 1) := by decide +kernel
theorem dL_law_820 : decode cL_law 820 = .ok (.iconst 2, 1) := by decide +kernel
theorem dL_law_821 : decode cL_law 821 = .ok (.iadd, 1) := by decide +kernel
theorem dL_law_822 : decode cL_law 822 = .ok (.iaload, 1) := by decide +kernel
theorem dL_law_823 : decode cL_law 823 = .ok (.invokevirtual 105, 3) := by decide +kernel
theorem dL_law_826 : decode cL_law 826 = .ok (.aload_n 2, 1) := by decide +kernel
theorem dL_law_827 : decode cL_law 827 = .ok (.aload_n 0, 1) := by decide +kernel
theorem dL_law_828 : decode cL_law 828 = .ok (.iload_n 3, 1) := by decide +kernel
theorem dL_law_829 : decode cL_law 829 = .ok (.iconst 1, 1) := by decide +kernel
theorem dL_law_830 : decode cL_law 830 = .ok (.iadd, 1) := by decide +kernel
theorem dL_law_831 : decode cL_law 831 = .ok (.iaload, 1) := by decide +kernel
theorem dL_law_832 : decode cL_law 832 = .ok (.aload_n 0, 1) := by decide +kernel
theorem dL_law_833 : decode cL_law 833 = .ok (.iload_n 3, 1) := by decide +kernel
theorem dL_law_834 : decode cL_law 834 = .ok (.iconst 2, 1) := by decide +kernel
theorem dL_law_835 : decode cL_law 835 = .ok (.iadd, 1) := by decide +kernel
theorem dL_law_836 : decode cL_law 836 = .ok (.iaload, 1) := by decide +kernel
theorem dL_law_837 : decode cL_law 837 = .ok (.invokevirtual 109, 3) := by decide +kernel
theorem dL_law_840 : decode cL_law 840 = .ok (.lcmp, 1) := by decide +kernel
theorem dL_law_841 : decode cL_law 841 = .ok (.ifCond .eq 468, 3) := by decide +kernel
theorem dL_law_844 : decode cL_law 844 = .ok (.iconst 0, 1) := by decide +kernel
theorem dL_law_845 : decode cL_law 845 = .ok (.ireturn, 1) := by decide +kernel
theorem dL_law_846 : decode cL_law 846 = .ok (.aload_n 1, 1) := by decide +kernel
theorem dL_law_847 : decode cL_law 847 = .ok (.aload_n 0, 1) := by decide +kernel
theorem dL_law_848 : decode cL_law 848 = .ok (.iload_n 3, 1) := by decide +kernel
theorem dL_law_849 : decode cL_law 849 = .ok (.iconst 1, 1) := by decide +kernel
theorem dL_law_850 : decode cL_law 850 = .ok (.iadd, 1) := by decide +kernel
theorem dL_law_851 : decode cL_law 851 = .ok (.iaload, 1) := by decide +kernel
theorem dL_law_852 : decode cL_law 852 = .ok (.aload_n 0, 1) := by decide +kernel
theorem dL_law_853 : decode cL_law 853 = .ok (.iload_n 3, 1) := by decide +kernel
theorem dL_law_854 : decode cL_law 854 = .ok (.iconst 2, 1) := by decide +kernel
theorem dL_law_855 : decode cL_law 855 = .ok (.iadd, 1) := by decide +kernel
theorem dL_law_856 : decode cL_law 856 = .ok (.iaload, 1) := by decide +kernel
theorem dL_law_857 : decode cL_law 857 = .ok (.aload_n 0, 1) := by decide +kernel
theorem dL_law_858 : decode cL_law 858 = .ok (.iload_n 3, 1) := by decide +kernel
theorem dL_law_859 : decode cL_law 859 = .ok (.iconst 3, 1) := by decide +kernel
theorem dL_law_860 : decode cL_law 860 = .ok (.iadd, 1) := by decide +kernel
theorem dL_law_861 : decode cL_law 861 = .ok (.iaload, 1) := by decide +kernel
theorem dL_law_862 : decode cL_law 862 = .ok (.invokevirtual 110, 3) := by decide +kernel
theorem dL_law_865 : decode cL_law 865 = .ok (.aload_n 2, 1) := by decide +kernel
theorem dL_law_866 : decode cL_law 866 = .ok (.aload_n 0, 1) := by decide +kernel
theorem dL_law_867 : decode cL_law 867 = .ok (.iload_n 3, 1) := by decide +kernel
theorem dL_law_868 : decode cL_law 868 = .ok (.iconst 1, 1) := by decide +kernel
theorem dL_law_869 : decode cL_law 869 = .ok (.iadd, 1) := by decide +kernel
theorem dL_law_870 : decode cL_law 870 = .ok (.iaload, 1) := by decide +kernel
theorem dL_law_871 : decode cL_law 871 = .ok (.aload_n 0, 1) := by decide +kernel
theorem dL_law_872 : decode cL_law 872 = .ok (.iload_n 3, 1) := by decide +kernel
theorem dL_law_873 : decode cL_law 873 = .ok (.iconst 2, 1) := by decide +kernel
theorem dL_law_874 : decode cL_law 874 = .ok (.iadd, 1) := by decide +kernel
theorem dL_law_875 : decode cL_law 875 = .ok (.iaload, 1) := by decide +kernel
theorem dL_law_876 : decode cL_law 876 = .ok (.aload_n 0, 1) := by decide +kernel
theorem dL_law_877 : decode cL_law 877 = .ok (.iload_n 3, 1) := by decide +kernel
theorem dL_law_878 : decode cL_law 878 = .ok (.iconst 3, 1) := by decide +kernel
theorem dL_law_879 : decode cL_law 879 = .ok (.iadd, 1) := by decide +kernel
theorem dL_law_880 : decode cL_law 880 = .ok (.iaload, 1) := by decide +kernel
theorem dL_law_881 : decode cL_law 881 = .ok (.invokevirtual 114, 3) := by decide +kernel
theorem dL_law_884 : decode cL_law 884 = .ok (.lcmp, 1) := by decide +kernel
theorem dL_law_885 : decode cL_law 885 = .ok (.ifCond .eq 424, 3) := by decide +kernel
theorem dL_law_888 : decode cL_law 888 = .ok (.iconst 0, 1) := by decide +kernel
theorem dL_law_889 : decode cL_law 889 = .ok (.ireturn, 1) := by decide +kernel
theorem dL_law_890 : decode cL_law 890 = .ok (.aload_n 1, 1) := by decide +kernel
theorem dL_law_891 : decode cL_law 891 = .ok (.aload_n 0, 1) := by decide +kernel
theorem dL_law_892 : decode cL_law 892 = .ok (.iload_n 3, 1) := by decide +kernel
theorem dL_law_893 : decode cL_law 893 = .ok (.iconst 1, 1) := by decide +kernel
theorem dL_law_894 : decode cL_law 894 = .ok (.iadd, 1) := by decide +kernel
theorem dL_law_895 : decode cL_law 895 = .ok (.iaload, 1) := by decide +kernel
theorem dL_law_896 : decode cL_law 896 = .ok (.aload_n 0, 1) := by decide +kernel
theorem dL_law_897 : decode cL_law 897 = .ok (.iload_n 3, 1) := by decide +kernel
theorem dL_law_898 : decode cL_law 898 = .ok (.iconst 2, 1) := by decide +kernel
theorem dL_law_899 : decode cL_law 899 = .ok (.iadd, 1) := by decide +kernel
theorem dL_law_900 : decode cL_law 900 = .ok (.iaload, 1) := by decide +kernel
theorem dL_law_901 : decode cL_law 901 = .ok (.aload_n 0, 1) := by decide +kernel
theorem dL_law_902 : decode cL_law 902 = .ok (.iload_n 3, 1) := by decide +kernel
theorem dL_law_903 : decode cL_law 903 = .ok (.iconst 3, 1) := by decide +kernel
theorem dL_law_904 : decode cL_law 904 = .ok (.iadd, 1) := by decide +kernel
theorem dL_law_905 : decode cL_law 905 = .ok (.iaload, 1) := by decide +kernel
theorem dL_law_906 : decode cL_law 906 = .ok (.invokevirtual 115, 3) := by decide +kernel
theorem dL_law_909 : decode cL_law 909 = .ok (.aload_n 2, 1) := by decide +kernel
theorem dL_law_910 : decode cL_law 910 = .ok (.aload_n 0, 1) := by decide +kernel
theorem dL_law_911 : decode cL_law 911 = .ok (.iload_n 3, 1) := by decide +kernel
theorem dL_law_912 : decode cL_law 912 = .ok (.iconst 1, 1) := by decide +kernel
theorem dL_law_913 : decode cL_law 913 = .ok (.iadd, 1) := by decide +kernel
theorem dL_law_914 : decode cL_law 914 = .ok (.iaload, 1) := by decide +kernel
theorem dL_law_915 : decode cL_law 915 = .ok (.aload_n 0, 1) := by decide +kernel
theorem dL_law_916 : decode cL_law 916 = .ok (.iload_n 3, 1) := by decide +kernel
theorem dL_law_917 : decode cL_law 917 = .ok (.iconst 2, 1) := by decide +kernel
theorem dL_law_918 : decode cL_law 918 = .ok (.iadd, 1) := by decide +kernel
theorem dL_law_919 : decode cL_law 919 = .ok (.iaload, 1) := by decide +kernel
theorem dL_law_920 : decode cL_law 920 = .ok (.aload_n 0, 1) := by decide +kernel
theorem dL_law_921 : decode cL_law 921 = .ok (.iload_n 3, 1) := by decide +kernel
theorem dL_law_922 : decode cL_law 922 = .ok (.iconst 3, 1) := by decide +kernel
theorem dL_law_923 : decode cL_law 923 = .ok (.iadd, 1) := by decide +kernel
theorem dL_law_924 : decode cL_law 924 = .ok (.iaload, 1) := by decide +kernel
theorem dL_law_925 : decode cL_law 925 = .ok (.invokevirtual 118, 3) := by decide +kernel
theorem dL_law_928 : decode cL_law 928 = .ok (.if_icmp .eq 381, 3) := by decide +kernel
theorem dL_law_931 : decode cL_law 931 = .ok (.iconst 0, 1) := by decide +kernel
theorem dL_law_932 : decode cL_law 932 = .ok (.ireturn, 1) := by decide +kernel
theorem dL_law_933 : decode cL_law 933 = .ok (.aload_n 1, 1) := by decide +kernel
theorem dL_law_934 : decode cL_law 934 = .ok (.aload_n 0, 1) := by decide +kernel
theorem dL_law_935 : decode cL_law 935 = .ok (.iload_n 3, 1) := by decide +kernel
theorem dL_law_936 : decode cL_law 936 = .ok (.iconst 1, 1) := by decide +kernel
theorem dL_law_937 : decode cL_law 937 = .ok (.iadd, 1) := by decide +kernel
theorem dL_law_938 : decode cL_law 938 = .ok (.iaload, 1) := by decide +kernel
theorem dL_law_939 : decode cL_law 939 = .ok (.invokevirtual 119, 3) := by decide +kernel
theorem dL_law_942 : decode cL_law 942 = .ok (.aload_n 2, 1) := by decide +kernel
theorem dL_law_943 : decode cL_law 943 = .ok (.aload_n 0, 1) := by decide +kernel
theorem dL_law_944 : decode cL_law 944 = .ok (.iload_n 3, 1) := by decide +kernel
theorem dL_law_945 : decode cL_law 945 = .ok (.iconst 1, 1) := by decide +kernel
theorem dL_law_946 : decode cL_law 946 = .ok (.iadd, 1) := by decide +kernel
theorem dL_law_947 : decode cL_law 947 = .ok (.iaload, 1) := by decide +kernel
theorem dL_law_948 : decode cL_law 948 = .ok (.invokevirtual 122, 3) := by decide +kernel
theorem dL_law_951 : decode cL_law 951 = .ok (.if_icmp .eq 358, 3) := by decide +kernel
theorem dL_law_954 : decode cL_law 954 = .ok (.iconst 0, 1) := by decide +kernel
theorem dL_law_955 : decode cL_law 955 = .ok (.ireturn, 1) := by decide +kernel
theorem dL_law_956 : decode cL_law 956 = .ok (.aload_n 1, 1) := by decide +kernel
theorem dL_law_957 : decode cL_law 957 = .ok (.aload_n 0, 1) := by decide +kernel
theorem dL_law_958 : decode cL_law 958 = .ok (.iload_n 3, 1) := by decide +kernel
theorem dL_law_959 : decode cL_law 959 = .ok (.iconst 1, 1) := by decide +kernel
theorem dL_law_960 : decode cL_law 960 = .ok (.iadd, 1) := by decide +kernel
theorem dL_law_961 : decode cL_law 961 = .ok (.iaload, 1) := by decide +kernel
theorem dL_law_962 : decode cL_law 962 = .ok (.invokevirtual 123, 3) := by decide +kernel
theorem dL_law_965 : decode cL_law 965 = .ok (.aload_n 2, 1) := by decide +kernel
theorem dL_law_966 : decode cL_law 966 = .ok (.aload_n 0, 1) := by decide +kernel
theorem dL_law_967 : decode cL_law 967 = .ok (.iload_n 3, 1) := by decide +kernel
theorem dL_law_968 : decode cL_law 968 = .ok (.iconst 1, 1) := by decide +kernel
theorem dL_law_969 : decode cL_law 969 = .ok (.iadd, 1) := by decide +kernel
theorem dL_law_970 : decode cL_law 970 = .ok (.iaload, 1) := by decide +kernel
theorem dL_law_971 : decode cL_law 971 = .ok (.invokevirtual 126, 3) := by decide +kernel
theorem dL_law_974 : decode cL_law 974 = .ok (.if_icmp .eq 335, 3) := by decide +kernel
theorem dL_law_977 : decode cL_law 977 = .ok (.iconst 0, 1) := by decide +kernel
theorem dL_law_978 : decode cL_law 978 = .ok (.ireturn, 1) := by decide +kernel
theorem dL_law_979 : decode cL_law 979 = .ok (.aload_n 1, 1) := by decide +kernel
theorem dL_law_980 : decode cL_law 980 = .ok (.aload_n 0, 1) := by decide +kernel
theorem dL_law_981 : decode cL_law 981 = .ok (.iload_n 3, 1) := by decide +kernel
theorem dL_law_982 : decode cL_law 982 = .ok (.iconst 1, 1) := by decide +kernel
theorem dL_law_983 : decode cL_law 983 = .ok (.iadd, 1) := by decide +kernel
theorem dL_law_984 : decode cL_law 984 = .ok (.iaload, 1) := by decide +kernel
theorem dL_law_985 : decode cL_law 985 = .ok (.aload_n 0, 1) := by decide +kernel
theorem dL_law_986 : decode cL_law 986 = .ok (.iload_n 3, 1) := by decide +kernel
theorem dL_law_987 : decode cL_law 987 = .ok (.iconst 2, 1) := by decide +kernel
theorem dL_law_988 : decode cL_law 988 = .ok (.iadd, 1) := by decide +kernel
theorem dL_law_989 : decode cL_law 989 = .ok (.iaload, 1) := by decide +kernel
theorem dL_law_990 : decode cL_law 990 = .ok (.invokevirtual 127, 3) := by decide +kernel
theorem dL_law_993 : decode cL_law 993 = .ok (.aload_n 2, 1) := by decide +kernel
theorem dL_law_994 : decode cL_law 994 = .ok (.aload_n 0, 1) := by decide +kernel
theorem dL_law_995 : decode cL_law 995 = .ok (.iload_n 3, 1) := by decide +kernel
theorem dL_law_996 : decode cL_law 996 = .ok (.iconst 1, 1) := by decide +kernel
theorem dL_law_997 : decode cL_law 997 = .ok (.iadd, 1) := by decide +kernel
theorem dL_law_998 : decode cL_law 998 = .ok (.iaload, 1) := by decide +kernel
theorem dL_law_999 : decode cL_law 999 = .ok (.aload_n 0, 1) := by decide +kernel
theorem dL_law_1000 : decode cL_law 1000 = .ok (.iload_n 3, 1) := by decide +kernel
theorem dL_law_1001 : decode cL_law 1001 = .ok (.iconst 2, 1) := by decide +kernel
theorem dL_law_1002 : decode cL_law 1002 = .ok (.iadd, 1) := by decide +kernel
theorem dL_law_1003 : decode cL_law 1003 = .ok (.iaload, 1) := by decide +kernel
theorem dL_law_1004 : decode cL_law 1004 = .ok (.invokevirtual 130, 3) := by decide +kernel
theorem dL_law_1007 : decode cL_law 1007 = .ok (.if_icmp .eq 302, 3) := by decide +kernel
theorem dL_law_1010 : decode cL_law 1010 = .ok (.iconst 0, 1) := by decide +kernel
theorem dL_law_1011 : decode cL_law 1011 = .ok (.ireturn, 1) := by decide +kernel
theorem dL_law_1012 : decode cL_law 1012 = .ok (.aload_n 1, 1) := by decide +kernel
theorem dL_law_1013 : decode cL_law 1013 = .ok (.aload_n 0, 1) := by decide +kernel
theorem dL_law_1014 : decode cL_law 1014 = .ok (.iload_n 3, 1) := by decide +kernel
theorem dL_law_1015 : decode cL_law 1015 = .ok (.iconst 1, 1) := by decide +kernel
theorem dL_law_1016 : decode cL_law 1016 = .ok (.iadd, 1) := by decide +kernel
theorem dL_law_1017 : decode cL_law 1017 = .ok (.iaload, 1) := by decide +kernel
theorem dL_law_1018 : decode cL_law 1018 = .ok (.aload_n 0, 1) := by decide +kernel
theorem dL_law_1019 : decode cL_law 1019 = .ok (.iload_n 3, 1) := by decide +kernel
theorem dL_law_1020 : decode cL_law 1020 = .ok (.iconst 2, 1) := by decide +kernel
theorem dL_law_1021 : decode cL_law 1021 = .ok (.iadd, 1) := by decide +kernel
theorem dL_law_1022 : decode cL_law 1022 = .ok (.iaload, 1) := by decide +kernel
theorem dL_law_1023 : decode cL_law 1023 = .ok (.invokevirtual 131, 3) := by decide +kernel
theorem dL_law_1026 : decode cL_law 1026 = .ok (.aload_n 2, 1) := by decide +kernel
theorem dL_law_1027 : decode cL_law 1027 = .ok (.aload_n 0, 1) := by decide +kernel
theorem dL_law_1028 : decode cL_law 1028 = .ok (.iload_n 3, 1) := by decide +kernel
theorem dL_law_1029 : decode cL_law 1029 = .ok (.iconst 1, 1) := by decide +kernel
theorem dL_law_1030 : decode cL_law 1030 = .ok (.iadd, 1) := by decide +kernel
theorem dL_law_1031 : decode cL_law 1031 = .ok (.iaload, 1) := by decide +kernel
theorem dL_law_1032 : decode cL_law 1032 = .ok (.aload_n 0, 1) := by decide +kernel
theorem dL_law_1033 : decode cL_law 1033 = .ok (.iload_n 3, 1) := by decide +kernel
theorem dL_law_1034 : decode cL_law 1034 = .ok (.iconst 2, 1) := by decide +kernel
theorem dL_law_1035 : decode cL_law 1035 = .ok (.iadd, 1) := by decide +kernel
theorem dL_law_1036 : decode cL_law 1036 = .ok (.iaload, 1) := by decide +kernel
theorem dL_law_1037 : decode cL_law 1037 = .ok (.invokevirtual 134, 3) := by decide +kernel
theorem dL_law_1040 : decode cL_law 1040 = .ok (.if_icmp .eq 269, 3) := by decide +kernel
theorem dL_law_1043 : decode cL_law 1043 = .ok (.iconst 0, 1) := by decide +kernel
theorem dL_law_1044 : decode cL_law 1044 = .ok (.ireturn, 1) := by decide +kernel
theorem dL_law_1045 : decode cL_law 1045 = .ok (.aload_n 1, 1) := by decide +kernel
theorem dL_law_1046 : decode cL_law 1046 = .ok (.aload_n 0, 1) := by decide +kernel
theorem dL_law_1047 : decode cL_law 1047 = .ok (.iload_n 3, 1) := by decide +kernel
theorem dL_law_1048 : decode cL_law 1048 = .ok (.iconst 1, 1) := by decide +kernel
theorem dL_law_1049 : decode cL_law 1049 = .ok (.iadd, 1) := by decide +kernel
theorem dL_law_1050 : decode cL_law 1050 = .ok (.iaload, 1) := by decide +kernel
theorem dL_law_1051 : decode cL_law 1051 = .ok (.aload_n 0, 1) := by decide +kernel
theorem dL_law_1052 : decode cL_law 1052 = .ok (.iload_n 3, 1) := by decide +kernel
theorem dL_law_1053 : decode cL_law 1053 = .ok (.iconst 2, 1) := by decide +kernel
theorem dL_law_1054 : decode cL_law 1054 = .ok (.iadd, 1) := by decide +kernel
theorem dL_law_1055 : decode cL_law 1055 = .ok (.iaload, 1) := by decide +kernel
theorem dL_law_1056 : decode cL_law 1056 = .ok (.aload_n 0, 1) := by decide +kernel
theorem dL_law_1057 : decode cL_law 1057 = .ok (.iload_n 3, 1) := by decide +kernel
theorem dL_law_1058 : decode cL_law 1058 = .ok (.iconst 3, 1) := by decide +kernel
theorem dL_law_1059 : decode cL_law 1059 = .ok (.iadd, 1) := by decide +kernel
theorem dL_law_1060 : decode cL_law 1060 = .ok (.iaload, 1) := by decide +kernel
theorem dL_law_1061 : decode cL_law 1061 = .ok (.invokevirtual 135, 3) := by decide +kernel
theorem dL_law_1064 : decode cL_law 1064 = .ok (.aload_n 2, 1) := by decide +kernel
theorem dL_law_1065 : decode cL_law 1065 = .ok (.aload_n 0, 1) := by decide +kernel
theorem dL_law_1066 : decode cL_law 1066 = .ok (.iload_n 3, 1) := by decide +kernel
theorem dL_law_1067 : decode cL_law 1067 = .ok (.iconst 1, 1) := by decide +kernel
theorem dL_law_1068 : decode cL_law 1068 = .ok (.iadd, 1) := by decide +kernel
theorem dL_law_1069 : decode cL_law 1069 = .ok (.iaload, 1) := by decide +kernel
theorem dL_law_1070 : decode cL_law 1070 = .ok (.aload_n 0, 1) := by decide +kernel
theorem dL_law_1071 : decode cL_law 1071 = .ok (.iload_n 3, 1) := by decide +kernel
theorem dL_law_1072 : decode cL_law 1072 = .ok (.iconst 2, 1) := by decide +kernel
theorem dL_law_1073 : decode cL_law 1073 = .ok (.iadd, 1) := by decide +kernel
theorem dL_law_1074 : decode cL_law 1074 = .ok (.iaload, 1) := by decide +kernel
theorem dL_law_1075 : decode cL_law 1075 = .ok (.aload_n 0, 1) := by decide +kernel
theorem dL_law_1076 : decode cL_law 1076 = .ok (.iload_n 3, 1) := by decide +kernel
theorem dL_law_1077 : decode cL_law 1077 = .ok (.iconst 3, 1) := by decide +kernel
theorem dL_law_1078 : decode cL_law 1078 = .ok (.iadd, 1) := by decide +kernel
theorem dL_law_1079 : decode cL_law 1079 = .ok (.iaload, 1) := by decide +kernel
theorem dL_law_1080 : decode cL_law 1080 = .ok (.invokevirtual 138, 3) := by decide +kernel
theorem dL_law_1083 : decode cL_law 1083 = .ok (.if_icmp .eq 226, 3) := by decide +kernel
theorem dL_law_1086 : decode cL_law 1086 = .ok (.iconst 0, 1) := by decide +kernel
theorem dL_law_1087 : decode cL_law 1087 = .ok (.ireturn, 1) := by decide +kernel
theorem dL_law_1088 : decode cL_law 1088 = .ok (.aload_n 1, 1) := by decide +kernel
theorem dL_law_1089 : decode cL_law 1089 = .ok (.aload_n 0, 1) := by decide +kernel
theorem dL_law_1090 : decode cL_law 1090 = .ok (.iload_n 3, 1) := by decide +kernel
theorem dL_law_1091 : decode cL_law 1091 = .ok (.iconst 1, 1) := by decide +kernel
theorem dL_law_1092 : decode cL_law 1092 = .ok (.iadd, 1) := by decide +kernel
theorem dL_law_1093 : decode cL_law 1093 = .ok (.iaload, 1) := by decide +kernel
theorem dL_law_1094 : decode cL_law 1094 = .ok (.invokevirtual 139, 3) := by decide +kernel
theorem dL_law_1097 : decode cL_law 1097 = .ok (.aload_n 2, 1) := by decide +kernel
theorem dL_law_1098 : decode cL_law 1098 = .ok (.aload_n 0, 1) := by decide +kernel
theorem dL_law_1099 : decode cL_law 1099 = .ok (.iload_n 3, 1) := by decide +kernel
theorem dL_law_1100 : decode cL_law 1100 = .ok (.iconst 1, 1) := by decide +kernel
theorem dL_law_1101 : decode cL_law 1101 = .ok (.iadd, 1) := by decide +kernel
theorem dL_law_1102 : decode cL_law 1102 = .ok (.iaload, 1) := by decide +kernel
theorem dL_law_1103 : decode cL_law 1103 = .ok (.invokevirtual 142, 3) := by decide +kernel
theorem dL_law_1106 : decode cL_law 1106 = .ok (.if_icmp .eq 203, 3) := by decide +kernel
theorem dL_law_1109 : decode cL_law 1109 = .ok (.iconst 0, 1) := by decide +kernel
theorem dL_law_1110 : decode cL_law 1110 = .ok (.ireturn, 1) := by decide +kernel
theorem dL_law_1111 : decode cL_law 1111 = .ok (.aload_n 1, 1) := by decide +kernel
theorem dL_law_1112 : decode cL_law 1112 = .ok (.aload_n 0, 1) := by decide +kernel
theorem dL_law_1113 : decode cL_law 1113 = .ok (.iload_n 3, 1) := by decide +kernel
theorem dL_law_1114 : decode cL_law 1114 = .ok (.iconst 1, 1) := by decide +kernel
theorem dL_law_1115 : decode cL_law 1115 = .ok (.iadd, 1) := by decide +kernel
theorem dL_law_1116 : decode cL_law 1116 = .ok (.iaload, 1) := by decide +kernel
theorem dL_law_1117 : decode cL_law 1117 = .ok (.invokevirtual 143, 3) := by decide +kernel
theorem dL_law_1120 : decode cL_law 1120 = .ok (.aload_n 2, 1) := by decide +kernel
theorem dL_law_1121 : decode cL_law 1121 = .ok (.aload_n 0, 1) := by decide +kernel
theorem dL_law_1122 : decode cL_law 1122 = .ok (.iload_n 3, 1) := by decide +kernel
theorem dL_law_1123 : decode cL_law 1123 = .ok (.iconst 1, 1) := by decide +kernel
theorem dL_law_1124 : decode cL_law 1124 = .ok (.iadd, 1) := by decide +kernel
theorem dL_law_1125 : decode cL_law 1125 = .ok (.iaload, 1) := by decide +kernel
theorem dL_law_1126 : decode cL_law 1126 = .ok (.invokevirtual 146, 3) := by decide +kernel
theorem dL_law_1129 : decode cL_law 1129 = .ok (.if_icmp .eq 180, 3) := by decide +kernel
theorem dL_law_1132 : decode cL_law 1132 = .ok (.iconst 0, 1) := by decide +kernel
theorem dL_law_1133 : decode cL_law 1133 = .ok (.ireturn, 1) := by decide +kernel
theorem dL_law_1134 : decode cL_law 1134 = .ok (.aload_n 1, 1) := by decide +kernel
theorem dL_law_1135 : decode cL_law 1135 = .ok (.aload_n 0, 1) := by decide +kernel
theorem dL_law_1136 : decode cL_law 1136 = .ok (.iload_n 3, 1) := by decide +kernel
theorem dL_law_1137 : decode cL_law 1137 = .ok (.iconst 1, 1) := by decide +kernel
theorem dL_law_1138 : decode cL_law 1138 = .ok (.iadd, 1) := by decide +kernel
theorem dL_law_1139 : decode cL_law 1139 = .ok (.iaload, 1) := by decide +kernel
theorem dL_law_1140 : decode cL_law 1140 = .ok (.aload_n 0, 1) := by decide +kernel
theorem dL_law_1141 : decode cL_law 1141 = .ok (.iload_n 3, 1) := by decide +kernel
theorem dL_law_1142 : decode cL_law 1142 = .ok (.iconst 2, 1) := by decide +kernel
theorem dL_law_1143 : decode cL_law 1143 = .ok (.iadd, 1) := by decide +kernel
theorem dL_law_1144 : decode cL_law 1144 = .ok (.iaload, 1) := by decide +kernel
theorem dL_law_1145 : decode cL_law 1145 = .ok (.aload_n 0, 1) := by decide +kernel
theorem dL_law_1146 : decode cL_law 1146 = .ok (.iload_n 3, 1) := by decide +kernel
theorem dL_law_1147 : decode cL_law 1147 = .ok (.iconst 3, 1) := by decide +kernel
theorem dL_law_1148 : decode cL_law 1148 = .ok (.iadd, 1) := by decide +kernel
theorem dL_law_1149 : decode cL_law 1149 = .ok (.iaload, 1) := by decide +kernel
theorem dL_law_1150 : decode cL_law 1150 = .ok (.invokevirtual 147, 3) := by decide +kernel
theorem dL_law_1153 : decode cL_law 1153 = .ok (.aload_n 2, 1) := by decide +kernel
theorem dL_law_1154 : decode cL_law 1154 = .ok (.aload_n 0, 1) := by decide +kernel
theorem dL_law_1155 : decode cL_law 1155 = .ok (.iload_n 3, 1) := by decide +kernel
theorem dL_law_1156 : decode cL_law 1156 = .ok (.iconst 1, 1) := by decide +kernel
theorem dL_law_1157 : decode cL_law 1157 = .ok (.iadd, 1) := by decide +kernel
theorem dL_law_1158 : decode cL_law 1158 = .ok (.iaload, 1) := by decide +kernel
theorem dL_law_1159 : decode cL_law 1159 = .ok (.aload_n 0, 1) := by decide +kernel
theorem dL_law_1160 : decode cL_law 1160 = .ok (.iload_n 3, 1) := by decide +kernel
theorem dL_law_1161 : decode cL_law 1161 = .ok (.iconst 2, 1) := by decide +kernel
theorem dL_law_1162 : decode cL_law 1162 = .ok (.iadd, 1) := by decide +kernel
theorem dL_law_1163 : decode cL_law 1163 = .ok (.iaload, 1) := by decide +kernel
theorem dL_law_1164 : decode cL_law 1164 = .ok (.aload_n 0, 1) := by decide +kernel
theorem dL_law_1165 : decode cL_law 1165 = .ok (.iload_n 3, 1) := by decide +kernel
theorem dL_law_1166 : decode cL_law 1166 = .ok (.iconst 3, 1) := by decide +kernel
theorem dL_law_1167 : decode cL_law 1167 = .ok (.iadd, 1) := by decide +kernel
theorem dL_law_1168 : decode cL_law 1168 = .ok (.iaload, 1) := by decide +kernel
theorem dL_law_1169 : decode cL_law 1169 = .ok (.invokevirtual 150, 3) := by decide +kernel
theorem dL_law_1172 : decode cL_law 1172 = .ok (.if_icmp .eq 137, 3) := by decide +kernel
theorem dL_law_1175 : decode cL_law 1175 = .ok (.iconst 0, 1) := by decide +kernel
theorem dL_law_1176 : decode cL_law 1176 = .ok (.ireturn, 1) := by decide +kernel
theorem dL_law_1177 : decode cL_law 1177 = .ok (.aload_n 1, 1) := by decide +kernel
theorem dL_law_1178 : decode cL_law 1178 = .ok (.aload_n 0, 1) := by decide +kernel
theorem dL_law_1179 : decode cL_law 1179 = .ok (.iload_n 3, 1) := by decide +kernel
theorem dL_law_1180 : decode cL_law 1180 = .ok (.iconst 1, 1) := by decide +kernel
theorem dL_law_1181 : decode cL_law 1181 = .ok (.iadd, 1) := by decide +kernel
theorem dL_law_1182 : decode cL_law 1182 = .ok (.iaload, 1) := by decide +kernel
theorem dL_law_1183 : decode cL_law 1183 = .ok (.aload_n 0, 1) := by decide +kernel
theorem dL_law_1184 : decode cL_law 1184 = .ok (.iload_n 3, 1) := by decide +kernel
theorem dL_law_1185 : decode cL_law 1185 = .ok (.iconst 2, 1) := by decide +kernel
theorem dL_law_1186 : decode cL_law 1186 = .ok (.iadd, 1) := by decide +kernel
theorem dL_law_1187 : decode cL_law 1187 = .ok (.iaload, 1) := by decide +kernel
theorem dL_law_1188 : decode cL_law 1188 = .ok (.aload_n 0, 1) := by decide +kernel
theorem dL_law_1189 : decode cL_law 1189 = .ok (.iload_n 3, 1) := by decide +kernel
theorem dL_law_1190 : decode cL_law 1190 = .ok (.iconst 3, 1) := by decide +kernel
theorem dL_law_1191 : decode cL_law 1191 = .ok (.iadd, 1) := by decide +kernel
theorem dL_law_1192 : decode cL_law 1192 = .ok (.iaload, 1) := by decide +kernel
theorem dL_law_1193 : decode cL_law 1193 = .ok (.invokevirtual 151, 3) := by decide +kernel
theorem dL_law_1196 : decode cL_law 1196 = .ok (.aload_n 2, 1) := by decide +kernel
theorem dL_law_1197 : decode cL_law 1197 = .ok (.aload_n 0, 1) := by decide +kernel
theorem dL_law_1198 : decode cL_law 1198 = .ok (.iload_n 3, 1) := by decide +kernel
theorem dL_law_1199 : decode cL_law 1199 = .ok (.iconst 1, 1) := by decide +kernel
theorem dL_law_1200 : decode cL_law 1200 = .ok (.iadd, 1) := by decide +kernel
theorem dL_law_1201 : decode cL_law 1201 = .ok (.iaload, 1) := by decide +kernel
theorem dL_law_1202 : decode cL_law 1202 = .ok (.aload_n 0, 1) := by decide +kernel
theorem dL_law_1203 : decode cL_law 1203 = .ok (.iload_n 3, 1) := by decide +kernel
theorem dL_law_1204 : decode cL_law 1204 = .ok (.iconst 2, 1) := by decide +kernel
theorem dL_law_1205 : decode cL_law 1205 = .ok (.iadd, 1) := by decide +kernel
theorem dL_law_1206 : decode cL_law 1206 = .ok (.iaload, 1) := by decide +kernel
theorem dL_law_1207 : decode cL_law 1207 = .ok (.aload_n 0, 1) := by decide +kernel
theorem dL_law_1208 : decode cL_law 1208 = .ok (.iload_n 3, 1) := by decide +kernel
theorem dL_law_1209 : decode cL_law 1209 = .ok (.iconst 3, 1) := by decide +kernel
theorem dL_law_1210 : decode cL_law 1210 = .ok (.iadd, 1) := by decide +kernel
theorem dL_law_1211 : decode cL_law 1211 = .ok (.iaload, 1) := by decide +kernel
theorem dL_law_1212 : decode cL_law 1212 = .ok (.invokevirtual 154, 3) := by decide +kernel
theorem dL_law_1215 : decode cL_law 1215 = .ok (.if_icmp .eq 94, 3) := by decide +kernel
theorem dL_law_1218 : decode cL_law 1218 = .ok (.iconst 0, 1) := by decide +kernel
theorem dL_law_1219 : decode cL_law 1219 = .ok (.ireturn, 1) := by decide +kernel
theorem dL_law_1220 : decode cL_law 1220 = .ok (.aload_n 1, 1) := by decide +kernel
theorem dL_law_1221 : decode cL_law 1221 = .ok (.aload_n 0, 1) := by decide +kernel
theorem dL_law_1222 : decode cL_law 1222 = .ok (.iload_n 3, 1) := by decide +kernel
theorem dL_law_1223 : decode cL_law 1223 = .ok (.iconst 1, 1) := by decide +kernel
theorem dL_law_1224 : decode cL_law 1224 = .ok (.iadd, 1) := by decide +kernel
theorem dL_law_1225 : decode cL_law 1225 = .ok (.iaload, 1) := by decide +kernel
theorem dL_law_1226 : decode cL_law 1226 = .ok (.aload_n 0, 1) := by decide +kernel
theorem dL_law_1227 : decode cL_law 1227 = .ok (.iload_n 3, 1) := by decide +kernel
theorem dL_law_1228 : decode cL_law 1228 = .ok (.iconst 2, 1) := by decide +kernel
theorem dL_law_1229 : decode cL_law 1229 = .ok (.iadd, 1) := by decide +kernel
theorem dL_law_1230 : decode cL_law 1230 = .ok (.iaload, 1) := by decide +kernel
theorem dL_law_1231 : decode cL_law 1231 = .ok (.aload_n 0, 1) := by decide +kernel
theorem dL_law_1232 : decode cL_law 1232 = .ok (.iload_n 3, 1) := by decide +kernel
theorem dL_law_1233 : decode cL_law 1233 = .ok (.iconst 3, 1) := by decide +kernel
theorem dL_law_1234 : decode cL_law 1234 = .ok (.iadd, 1) := by decide +kernel
theorem dL_law_1235 : decode cL_law 1235 = .ok (.iaload, 1) := by decide +kernel
theorem dL_law_1236 : decode cL_law 1236 = .ok (.aload_n 0, 1) := by decide +kernel
theorem dL_law_1237 : decode cL_law 1237 = .ok (.iload_n 3, 1) := by decide +kernel
theorem dL_law_1238 : decode cL_law 1238 = .ok (.iconst 4, 1) := by decide +kernel
theorem dL_law_1239 : decode cL_law 1239 = .ok (.iadd, 1) := by decide +kernel
theorem dL_law_1240 : decode cL_law 1240 = .ok (.iaload, 1) := by decide +kernel
theorem dL_law_1241 : decode cL_law 1241 = .ok (.invokevirtual 155, 3) := by decide +kernel
theorem dL_law_1244 : decode cL_law 1244 = .ok (.aload_n 2, 1) := by decide +kernel
theorem dL_law_1245 : decode cL_law 1245 = .ok (.aload_n 0, 1) := by decide +kernel
theorem dL_law_1246 : decode cL_law 1246 = .ok (.iload_n 3, 1) := by decide +kernel
theorem dL_law_1247 : decode cL_law 1247 = .ok (.iconst 1, 1) := by decide +kernel
theorem dL_law_1248 : decode cL_law 1248 = .ok (.iadd, 1) := by decide +kernel
theorem dL_law_1249 : decode cL_law 1249 = .ok (.iaload, 1) := by decide +kernel
theorem dL_law_1250 : decode cL_law 1250 = .ok (.aload_n 0, 1) := by decide +kernel
theorem dL_law_1251 : decode cL_law 1251 = .ok (.iload_n 3, 1) := by decide +kernel
theorem dL_law_1252 : decode cL_law 1252 = .ok (.iconst 2, 1) := by decide +kernel
theorem dL_law_1253 : decode cL_law 1253 = .ok (.iadd, 1) := by decide +kernel
theorem dL_law_1254 : decode cL_law 1254 = .ok (.iaload, 1) := by decide +kernel
theorem dL_law_1255 : decode cL_law 1255 = .ok (.aload_n 0, 1) := by decide +kernel
theorem dL_law_1256 : decode cL_law 1256 = .ok (.iload_n 3, 1) := by decide +kernel
theorem dL_law_1257 : decode cL_law 1257 = .ok (.iconst 3, 1) := by decide +kernel
theorem dL_law_1258 : decode cL_law 1258 = .ok (.iadd, 1) := by decide +kernel
theorem dL_law_1259 : decode cL_law 1259 = .ok (.iaload, 1) := by decide +kernel
theorem dL_law_1260 : decode cL_law 1260 = .ok (.aload_n 0, 1) := by decide +kernel
theorem dL_law_1261 : decode cL_law 1261 = .ok (.iload_n 3, 1) := by decide +kernel
theorem dL_law_1262 : decode cL_law 1262 = .ok (.iconst 4, 1) := by decide +kernel
theorem dL_law_1263 : decode cL_law 1263 = .ok (.iadd, 1) := by decide +kernel
theorem dL_law_1264 : decode cL_law 1264 = .ok (.iaload, 1) := by decide +kernel
theorem dL_law_1265 : decode cL_law 1265 = .ok (.invokevirtual 159, 3) := by decide +kernel
theorem dL_law_1268 : decode cL_law 1268 = .ok (.if_icmp .eq 41, 3) := by decide +kernel
theorem dL_law_1271 : decode cL_law 1271 = .ok (.iconst 0, 1) := by decide +kernel
theorem dL_law_1272 : decode cL_law 1272 = .ok (.ireturn, 1) := by decide +kernel
theorem dL_law_1273 : decode cL_law 1273 = .ok (.aload_n 1, 1) := by decide +kernel
theorem dL_law_1274 : decode cL_law 1274 = .ok (.invokevirtual 160, 3) := by decide +kernel
theorem dL_law_1277 : decode cL_law 1277 = .ok (.aload_n 2, 1) := by decide +kernel
theorem dL_law_1278 : decode cL_law 1278 = .ok (.invokevirtual 163, 3) := by decide +kernel
theorem dL_law_1281 : decode cL_law 1281 = .ok (.if_icmp .eq 28, 3) := by decide +kernel
theorem dL_law_1284 : decode cL_law 1284 = .ok (.iconst 0, 1) := by decide +kernel
theorem dL_law_1285 : decode cL_law 1285 = .ok (.ireturn, 1) := by decide +kernel
theorem dL_law_1286 : decode cL_law 1286 = .ok (.aload_n 1, 1) := by decide +kernel
theorem dL_law_1287 : decode cL_law 1287 = .ok (.aload_n 0, 1) := by decide +kernel
theorem dL_law_1288 : decode cL_law 1288 = .ok (.iload_n 3, 1) := by decide +kernel
theorem dL_law_1289 : decode cL_law 1289 = .ok (.iconst 1, 1) := by decide +kernel
theorem dL_law_1290 : decode cL_law 1290 = .ok (.iadd, 1) := by decide +kernel
theorem dL_law_1291 : decode cL_law 1291 = .ok (.iaload, 1) := by decide +kernel
theorem dL_law_1292 : decode cL_law 1292 = .ok (.invokevirtual 164, 3) := by decide +kernel
theorem dL_law_1295 : decode cL_law 1295 = .ok (.aload_n 2, 1) := by decide +kernel
theorem dL_law_1296 : decode cL_law 1296 = .ok (.aload_n 0, 1) := by decide +kernel
theorem dL_law_1297 : decode cL_law 1297 = .ok (.iload_n 3, 1) := by decide +kernel
theorem dL_law_1298 : decode cL_law 1298 = .ok (.iconst 1, 1) := by decide +kernel
theorem dL_law_1299 : decode cL_law 1299 = .ok (.iadd, 1) := by decide +kernel
theorem dL_law_1300 : decode cL_law 1300 = .ok (.iaload, 1) := by decide +kernel
theorem dL_law_1301 : decode cL_law 1301 = .ok (.invokevirtual 167, 3) := by decide +kernel
theorem dL_law_1304 : decode cL_law 1304 = .ok (.if_icmp .eq 5, 3) := by decide +kernel
theorem dL_law_1307 : decode cL_law 1307 = .ok (.iconst 0, 1) := by decide +kernel
theorem dL_law_1308 : decode cL_law 1308 = .ok (.ireturn, 1) := by decide +kernel
theorem dL_law_1309 : decode cL_law 1309 = .ok (.iinc 3 5, 3) := by decide +kernel
theorem dL_law_1312 : decode cL_law 1312 = .ok (.goto (-1294), 3) := by decide +kernel
theorem dL_law_1315 : decode cL_law 1315 = .ok (.iconst 1, 1) := by decide +kernel
theorem dL_law_1316 : decode cL_law 1316 = .ok (.ireturn, 1) := by decide +kernel
theorem dJ6_bitCount_0f7a4_0 : decode cJ6_bitCount_0f7a4 0 = .ok (.iload_n 0, 1) := by decide +kernel
theorem dJ6_bitCount_0f7a4_1 : decode cJ6_bitCount_0f7a4 1 = .ok (.iload_n 0, 1) := by decide +kernel
theorem dJ6_bitCount_0f7a4_2 : decode cJ6_bitCount_0f7a4 2 = .ok (.iconst 1, 1) := by decide +kernel
theorem dJ6_bitCount_0f7a4_3 : decode cJ6_bitCount_0f7a4 3 = .ok (.iushr, 1) := by decide +kernel
theorem dJ6_bitCount_0f7a4_4 : decode cJ6_bitCount_0f7a4 4 = .ok (.ldc_w 265, 3) := by decide +kernel
theorem dJ6_bitCount_0f7a4_7 : decode cJ6_bitCount_0f7a4 7 = .ok (.iand, 1) := by decide +kernel
theorem dJ6_bitCount_0f7a4_8 : decode cJ6_bitCount_0f7a4 8 = .ok (.isub, 1) := by decide +kernel
theorem dJ6_bitCount_0f7a4_9 : decode cJ6_bitCount_0f7a4 9 = .ok (.istore_n 0, 1) := by decide +kernel
theorem dJ6_bitCount_0f7a4_10 : decode cJ6_bitCount_0f7a4 10 = .ok (.iload_n 0, 1) := by decide +kernel
theorem dJ6_bitCount_0f7a4_11 : decode cJ6_bitCount_0f7a4 11 = .ok (.ldc_w 266, 3) := by decide +kernel
theorem dJ6_bitCount_0f7a4_14 : decode cJ6_bitCount_0f7a4 14 = .ok (.iand, 1) := by decide +kernel
theorem dJ6_bitCount_0f7a4_15 : decode cJ6_bitCount_0f7a4 15 = .ok (.iload_n 0, 1) := by decide +kernel
theorem dJ6_bitCount_0f7a4_16 : decode cJ6_bitCount_0f7a4 16 = .ok (.iconst 2, 1) := by decide +kernel
theorem dJ6_bitCount_0f7a4_17 : decode cJ6_bitCount_0f7a4 17 = .ok (.iushr, 1) := by decide +kernel
theorem dJ6_bitCount_0f7a4_18 : decode cJ6_bitCount_0f7a4 18 = .ok (.ldc_w 266, 3) := by decide +kernel
theorem dJ6_bitCount_0f7a4_21 : decode cJ6_bitCount_0f7a4 21 = .ok (.iand, 1) := by decide +kernel
theorem dJ6_bitCount_0f7a4_22 : decode cJ6_bitCount_0f7a4 22 = .ok (.iadd, 1) := by decide +kernel
theorem dJ6_bitCount_0f7a4_23 : decode cJ6_bitCount_0f7a4 23 = .ok (.istore_n 0, 1) := by decide +kernel
theorem dJ6_bitCount_0f7a4_24 : decode cJ6_bitCount_0f7a4 24 = .ok (.iload_n 0, 1) := by decide +kernel
theorem dJ6_bitCount_0f7a4_25 : decode cJ6_bitCount_0f7a4 25 = .ok (.iload_n 0, 1) := by decide +kernel
theorem dJ6_bitCount_0f7a4_26 : decode cJ6_bitCount_0f7a4 26 = .ok (.iconst 4, 1) := by decide +kernel
theorem dJ6_bitCount_0f7a4_27 : decode cJ6_bitCount_0f7a4 27 = .ok (.iushr, 1) := by decide +kernel
theorem dJ6_bitCount_0f7a4_28 : decode cJ6_bitCount_0f7a4 28 = .ok (.iadd, 1) := by decide +kernel
theorem dJ6_bitCount_0f7a4_29 : decode cJ6_bitCount_0f7a4 29 = .ok (.ldc_w 267, 3) := by decide +kernel
theorem dJ6_bitCount_0f7a4_32 : decode cJ6_bitCount_0f7a4 32 = .ok (.iand, 1) := by decide +kernel
theorem dJ6_bitCount_0f7a4_33 : decode cJ6_bitCount_0f7a4 33 = .ok (.istore_n 0, 1) := by decide +kernel
theorem dJ6_bitCount_0f7a4_34 : decode cJ6_bitCount_0f7a4 34 = .ok (.iload_n 0, 1) := by decide +kernel
theorem dJ6_bitCount_0f7a4_35 : decode cJ6_bitCount_0f7a4 35 = .ok (.iload_n 0, 1) := by decide +kernel
theorem dJ6_bitCount_0f7a4_36 : decode cJ6_bitCount_0f7a4 36 = .ok (.bipush 8, 2) := by decide +kernel
theorem dJ6_bitCount_0f7a4_38 : decode cJ6_bitCount_0f7a4 38 = .ok (.iushr, 1) := by decide +kernel
theorem dJ6_bitCount_0f7a4_39 : decode cJ6_bitCount_0f7a4 39 = .ok (.iadd, 1) := by decide +kernel
theorem dJ6_bitCount_0f7a4_40 : decode cJ6_bitCount_0f7a4 40 = .ok (.istore_n 0, 1) := by decide +kernel
theorem dJ6_bitCount_0f7a4_41 : decode cJ6_bitCount_0f7a4 41 = .ok (.iload_n 0, 1) := by decide +kernel
theorem dJ6_bitCount_0f7a4_42 : decode cJ6_bitCount_0f7a4 42 = .ok (.iload_n 0, 1) := by decide +kernel
theorem dJ6_bitCount_0f7a4_43 : decode cJ6_bitCount_0f7a4 43 = .ok (.bipush 16, 2) := by decide +kernel
theorem dJ6_bitCount_0f7a4_45 : decode cJ6_bitCount_0f7a4 45 = .ok (.iushr, 1) := by decide +kernel
theorem dJ6_bitCount_0f7a4_46 : decode cJ6_bitCount_0f7a4 46 = .ok (.iadd, 1) := by decide +kernel
theorem dJ6_bitCount_0f7a4_47 : decode cJ6_bitCount_0f7a4 47 = .ok (.istore_n 0, 1) := by decide +kernel
theorem dJ6_bitCount_0f7a4_48 : decode cJ6_bitCount_0f7a4 48 = .ok (.iload_n 0, 1) := by decide +kernel
theorem dJ6_bitCount_0f7a4_49 : decode cJ6_bitCount_0f7a4 49 = .ok (.bipush 63, 2) := by decide +kernel
theorem dJ6_bitCount_0f7a4_51 : decode cJ6_bitCount_0f7a4 51 = .ok (.iand, 1) := by decide +kernel
theorem dJ6_bitCount_0f7a4_52 : decode cJ6_bitCount_0f7a4 52 = .ok (.ireturn, 1) := by decide +kernel
