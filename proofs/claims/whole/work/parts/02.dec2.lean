theorem dX11_takes_39 : decode cX11_takes 39 = .ok (.putfield 76, 3) := by decide +kernel
theorem dX11_takes_42 : decode cX11_takes 42 = .ok (.aload_n 0, 1) := by decide +kernel
theorem dX11_takes_43 : decode cX11_takes 43 = .ok (.aload_n 0, 1) := by decide +kernel
theorem dX11_takes_44 : decode cX11_takes 44 = .ok (.getfield 82, 3) := by decide +kernel
theorem dX11_takes_47 : decode cX11_takes 47 = .ok (.invokevirtual 85, 3) := by decide +kernel
theorem dX11_takes_50 : decode cX11_takes 50 = .ok (.istore_n 1, 1) := by decide +kernel
theorem dX11_takes_51 : decode cX11_takes 51 = .ok (.iload_n 1, 1) := by decide +kernel
theorem dX11_takes_52 : decode cX11_takes 52 = .ok (.ifCond .ge 11, 3) := by decide +kernel
theorem dX11_takes_55 : decode cX11_takes 55 = .ok (.aload_n 0, 1) := by decide +kernel
theorem dX11_takes_56 : decode cX11_takes 56 = .ok (.iconst 0, 1) := by decide +kernel
theorem dX11_takes_57 : decode cX11_takes 57 = .ok (.putfield 101, 3) := by decide +kernel
theorem dX11_takes_60 : decode cX11_takes 60 = .ok (.goto 214, 3) := by decide +kernel
theorem dX11_takes_63 : decode cX11_takes 63 = .ok (.iload_n 1, 1) := by decide +kernel
theorem dX11_takes_64 : decode cX11_takes 64 = .ok (.i2l, 1) := by decide +kernel
theorem dX11_takes_65 : decode cX11_takes 65 = .ok (.ldc2_w 104, 3) := by decide +kernel
theorem dX11_takes_68 : decode cX11_takes 68 = .ok (.ldc2_w 106, 3) := by decide +kernel
theorem dX11_takes_71 : decode cX11_takes 71 = .ok (.invokestatic 66, 3) := by decide +kernel
theorem dX11_takes_74 : decode cX11_takes 74 = .ok (.ifCond .eq 42, 3) := by decide +kernel
theorem dX11_takes_77 : decode cX11_takes 77 = .ok (.aload_n 0, 1) := by decide +kernel
theorem dX11_takes_78 : decode cX11_takes 78 = .ok (.iconst 1, 1) := by decide +kernel
theorem dX11_takes_79 : decode cX11_takes 79 = .ok (.putfield 101, 3) := by decide +kernel
theorem dX11_takes_82 : decode cX11_takes 82 = .ok (.aload_n 0, 1) := by decide +kernel
theorem dX11_takes_83 : decode cX11_takes 83 = .ok (.aload_n 0, 1) := by decide +kernel
theorem dX11_takes_84 : decode cX11_takes 84 = .ok (.getfield 82, 3) := by decide +kernel
theorem dX11_takes_87 : decode cX11_takes 87 = .ok (.invokevirtual 85, 3) := by decide +kernel
theorem dX11_takes_90 : decode cX11_takes 90 = .ok (.i2l, 1) := by decide +kernel
theorem dX11_takes_91 : decode cX11_takes 91 = .ok (.ldc2_w 104, 3) := by decide +kernel
theorem dX11_takes_94 : decode cX11_takes 94 = .ok (.ldc2_w 106, 3) := by decide +kernel
theorem dX11_takes_97 : decode cX11_takes 97 = .ok (.invokestatic 66, 3) := by decide +kernel
theorem dX11_takes_100 : decode cX11_takes 100 = .ok (.ifCond .eq 174, 3) := by decide +kernel
theorem dX11_takes_103 : decode cX11_takes 103 = .ok (.aload_n 0, 1) := by decide +kernel
theorem dX11_takes_104 : decode cX11_takes 104 = .ok (.dup, 1) := by decide +kernel
theorem dX11_takes_105 : decode cX11_takes 105 = .ok (.getfield 82, 3) := by decide +kernel
theorem dX11_takes_108 : decode cX11_takes 108 = .ok (.iconst 1, 1) := by decide +kernel
theorem dX11_takes_109 : decode cX11_takes 109 = .ok (.iadd, 1) := by decide +kernel
theorem dX11_takes_110 : decode cX11_takes 110 = .ok (.putfield 82, 3) := by decide +kernel
theorem dX11_takes_113 : decode cX11_takes 113 = .ok (.goto (-31), 3) := by decide +kernel
theorem dX11_takes_116 : decode cX11_takes 116 = .ok (.iload_n 1, 1) := by decide +kernel
theorem dX11_takes_117 : decode cX11_takes 117 = .ok (.i2l, 1) := by decide +kernel
theorem dX11_takes_118 : decode cX11_takes 118 = .ok (.ldc2_w 108, 3) := by decide +kernel
theorem dX11_takes_121 : decode cX11_takes 121 = .ok (.ldc2_w 110, 3) := by decide +kernel
theorem dX11_takes_124 : decode cX11_takes 124 = .ok (.invokestatic 66, 3) := by decide +kernel
theorem dX11_takes_127 : decode cX11_takes 127 = .ok (.ifCond .eq 116, 3) := by decide +kernel
theorem dX11_takes_130 : decode cX11_takes 130 = .ok (.aload_n 0, 1) := by decide +kernel
theorem dX11_takes_131 : decode cX11_takes 131 = .ok (.iconst 2, 1) := by decide +kernel
theorem dX11_takes_132 : decode cX11_takes 132 = .ok (.putfield 101, 3) := by decide +kernel
theorem dX11_takes_135 : decode cX11_takes 135 = .ok (.aload_n 0, 1) := by decide +kernel
theorem dX11_takes_136 : decode cX11_takes 136 = .ok (.iconst 0, 1) := by decide +kernel
theorem dX11_takes_137 : decode cX11_takes 137 = .ok (.putfield 112, 3) := by decide +kernel
theorem dX11_takes_140 : decode cX11_takes 140 = .ok (.aload_n 0, 1) := by decide +kernel
theorem dX11_takes_141 : decode cX11_takes 141 = .ok (.aload_n 0, 1) := by decide +kernel
theorem dX11_takes_142 : decode cX11_takes 142 = .ok (.getfield 82, 3) := by decide +kernel
theorem dX11_takes_145 : decode cX11_takes 145 = .ok (.invokevirtual 85, 3) := by decide +kernel
theorem dX11_takes_148 : decode cX11_takes 148 = .ok (.i2l, 1) := by decide +kernel
theorem dX11_takes_149 : decode cX11_takes 149 = .ok (.ldc2_w 108, 3) := by decide +kernel
theorem dX11_takes_152 : decode cX11_takes 152 = .ok (.ldc2_w 110, 3) := by decide +kernel
theorem dX11_takes_155 : decode cX11_takes 155 = .ok (.invokestatic 66, 3) := by decide +kernel
theorem dX11_takes_158 : decode cX11_takes 158 = .ok (.ifCond .eq 59, 3) := by decide +kernel
theorem dX11_takes_161 : decode cX11_takes 161 = .ok (.aload_n 0, 1) := by decide +kernel
theorem dX11_takes_162 : decode cX11_takes 162 = .ok (.aload_n 0, 1) := by decide +kernel
theorem dX11_takes_163 : decode cX11_takes 163 = .ok (.getfield 82, 3) := by decide +kernel
theorem dX11_takes_166 : decode cX11_takes 166 = .ok (.aload_n 0, 1) := by decide +kernel
theorem dX11_takes_167 : decode cX11_takes 167 = .ok (.getfield 76, 3) := by decide +kernel
theorem dX11_takes_170 : decode cX11_takes 170 = .ok (.isub, 1) := by decide +kernel
theorem dX11_takes_171 : decode cX11_takes 171 = .ok (.iconst 2, 1) := by decide +kernel
theorem dX11_takes_172 : decode cX11_takes 172 = .ok (.if_icmp .ge 25, 3) := by decide +kernel
theorem dX11_takes_175 : decode cX11_takes 175 = .ok (.bipush 10, 2) := by decide +kernel
theorem dX11_takes_177 : decode cX11_takes 177 = .ok (.aload_n 0, 1) := by decide +kernel
theorem dX11_takes_178 : decode cX11_takes 178 = .ok (.getfield 112, 3) := by decide +kernel
theorem dX11_takes_181 : decode cX11_takes 181 = .ok (.imul, 1) := by decide +kernel
theorem dX11_takes_182 : decode cX11_takes 182 = .ok (.aload_n 0, 1) := by decide +kernel
theorem dX11_takes_183 : decode cX11_takes 183 = .ok (.aload_n 0, 1) := by decide +kernel
theorem dX11_takes_184 : decode cX11_takes 184 = .ok (.getfield 82, 3) := by decide +kernel
theorem dX11_takes_187 : decode cX11_takes 187 = .ok (.invokevirtual 85, 3) := by decide +kernel
theorem dX11_takes_190 : decode cX11_takes 190 = .ok (.iadd, 1) := by decide +kernel
theorem dX11_takes_191 : decode cX11_takes 191 = .ok (.bipush 48, 2) := by decide +kernel
theorem dX11_takes_193 : decode cX11_takes 193 = .ok (.isub, 1) := by decide +kernel
theorem dX11_takes_194 : decode cX11_takes 194 = .ok (.goto 7, 3) := by decide +kernel
theorem dX11_takes_197 : decode cX11_takes 197 = .ok (.aload_n 0, 1) := by decide +kernel
theorem dX11_takes_198 : decode cX11_takes 198 = .ok (.getfield 112, 3) := by decide +kernel
theorem dX11_takes_201 : decode cX11_takes 201 = .ok (.putfield 112, 3) := by decide +kernel
theorem dX11_takes_204 : decode cX11_takes 204 = .ok (.aload_n 0, 1) := by decide +kernel
theorem dX11_takes_205 : decode cX11_takes 205 = .ok (.dup, 1) := by decide +kernel
theorem dX11_takes_206 : decode cX11_takes 206 = .ok (.getfield 82, 3) := by decide +kernel
theorem dX11_takes_209 : decode cX11_takes 209 = .ok (.iconst 1, 1) := by decide +kernel
theorem dX11_takes_210 : decode cX11_takes 210 = .ok (.iadd, 1) := by decide +kernel
theorem dX11_takes_211 : decode cX11_takes 211 = .ok (.putfield 82, 3) := by decide +kernel
theorem dX11_takes_214 : decode cX11_takes 214 = .ok (.goto (-74), 3) := by decide +kernel
theorem dX11_takes_217 : decode cX11_takes 217 = .ok (.aload_n 0, 1) := by decide +kernel
theorem dX11_takes_218 : decode cX11_takes 218 = .ok (.aload_n 0, 1) := by decide +kernel
theorem dX11_takes_219 : decode cX11_takes 219 = .ok (.getfield 82, 3) := by decide +kernel
theorem dX11_takes_222 : decode cX11_takes 222 = .ok (.aload_n 0, 1) := by decide +kernel
theorem dX11_takes_223 : decode cX11_takes 223 = .ok (.getfield 76, 3) := by decide +kernel
theorem dX11_takes_226 : decode cX11_takes 226 = .ok (.isub, 1) := by decide +kernel
theorem dX11_takes_227 : decode cX11_takes 227 = .ok (.iconst 2, 1) := by decide +kernel
theorem dX11_takes_228 : decode cX11_takes 228 = .ok (.if_icmp .gt 7, 3) := by decide +kernel
theorem dX11_takes_231 : decode cX11_takes 231 = .ok (.iconst 1, 1) := by decide +kernel
theorem dX11_takes_232 : decode cX11_takes 232 = .ok (.goto 4, 3) := by decide +kernel
theorem dX11_takes_235 : decode cX11_takes 235 = .ok (.iconst 0, 1) := by decide +kernel
theorem dX11_takes_236 : decode cX11_takes 236 = .ok (.iconst 1, 1) := by decide +kernel
theorem dX11_takes_237 : decode cX11_takes 237 = .ok (.invokevirtual 115, 3) := by decide +kernel
theorem dX11_takes_240 : decode cX11_takes 240 = .ok (.goto 34, 3) := by decide +kernel
theorem dX11_takes_243 : decode cX11_takes 243 = .ok (.aload_n 0, 1) := by decide +kernel
theorem dX11_takes_244 : decode cX11_takes 244 = .ok (.iconst 3, 1) := by decide +kernel
theorem dX11_takes_245 : decode cX11_takes 245 = .ok (.putfield 101, 3) := by decide +kernel
theorem dX11_takes_248 : decode cX11_takes 248 = .ok (.aload_n 0, 1) := by decide +kernel
theorem dX11_takes_249 : decode cX11_takes 249 = .ok (.iload_n 1, 1) := by decide +kernel
theorem dX11_takes_250 : decode cX11_takes 250 = .ok (.bipush 59, 2) := by decide +kernel
theorem dX11_takes_252 : decode cX11_takes 252 = .ok (.if_icmp .ne 7, 3) := by decide +kernel
theorem dX11_takes_255 : decode cX11_takes 255 = .ok (.iconst 1, 1) := by decide +kernel
theorem dX11_takes_256 : decode cX11_takes 256 = .ok (.goto 4, 3) := by decide +kernel
theorem dX11_takes_259 : decode cX11_takes 259 = .ok (.iconst 0, 1) := by decide +kernel
theorem dX11_takes_260 : decode cX11_takes 260 = .ok (.iconst 1, 1) := by decide +kernel
theorem dX11_takes_261 : decode cX11_takes 261 = .ok (.invokevirtual 115, 3) := by decide +kernel
theorem dX11_takes_264 : decode cX11_takes 264 = .ok (.aload_n 0, 1) := by decide +kernel
theorem dX11_takes_265 : decode cX11_takes 265 = .ok (.dup, 1) := by decide +kernel
theorem dX11_takes_266 : decode cX11_takes 266 = .ok (.getfield 82, 3) := by decide +kernel
theorem dX11_takes_269 : decode cX11_takes 269 = .ok (.iconst 1, 1) := by decide +kernel
theorem dX11_takes_270 : decode cX11_takes 270 = .ok (.iadd, 1) := by decide +kernel
theorem dX11_takes_271 : decode cX11_takes 271 = .ok (.putfield 82, 3) := by decide +kernel
theorem dX11_takes_274 : decode cX11_takes 274 = .ok (.return_, 1) := by decide +kernel
theorem dX11_readNumber_0 : decode cX11_readNumber 0 = .ok (.aload_n 0, 1) := by decide +kernel
theorem dX11_readNumber_1 : decode cX11_readNumber 1 = .ok (.getfield 73, 3) := by decide +kernel
theorem dX11_readNumber_4 : decode cX11_readNumber 4 = .ok (.ifCond .ne 21, 3) := by decide +kernel
theorem dX11_readNumber_7 : decode cX11_readNumber 7 = .ok (.aload_n 0, 1) := by decide +kernel
theorem dX11_readNumber_8 : decode cX11_readNumber 8 = .ok (.aload_n 0, 1) := by decide +kernel
theorem dX11_readNumber_9 : decode cX11_readNumber 9 = .ok (.getfield 101, 3) := by decide +kernel
theorem dX11_readNumber_12 : decode cX11_readNumber 12 = .ok (.iconst 2, 1) := by decide +kernel
theorem dX11_readNumber_13 : decode cX11_readNumber 13 = .ok (.if_icmp .ne 7, 3) := by decide +kernel
theorem dX11_readNumber_16 : decode cX11_readNumber 16 = .ok (.iconst 1, 1) := by decide +kernel
theorem dX11_readNumber_17 : decode cX11_readNumber 17 = .ok (.goto 4, 3) := by decide +kernel
theorem dX11_readNumber_20 : decode cX11_readNumber 20 = .ok (.iconst 0, 1) := by decide +kernel
theorem dX11_readNumber_21 : decode cX11_readNumber 21 = .ok (.iconst 2, 1) := by decide +kernel
theorem dX11_readNumber_22 : decode cX11_readNumber 22 = .ok (.invokevirtual 115, 3) := by decide +kernel
theorem dX11_readNumber_25 : decode cX11_readNumber 25 = .ok (.aload_n 0, 1) := by decide +kernel
theorem dX11_readNumber_26 : decode cX11_readNumber 26 = .ok (.getfield 73, 3) := by decide +kernel
theorem dX11_readNumber_29 : decode cX11_readNumber 29 = .ok (.ifCond .ne 20, 3) := by decide +kernel
theorem dX11_readNumber_32 : decode cX11_readNumber 32 = .ok (.aload_n 0, 1) := by decide +kernel
theorem dX11_readNumber_33 : decode cX11_readNumber 33 = .ok (.aload_n 0, 1) := by decide +kernel
theorem dX11_readNumber_34 : decode cX11_readNumber 34 = .ok (.getfield 112, 3) := by decide +kernel
theorem dX11_readNumber_37 : decode cX11_readNumber 37 = .ok (.i2l, 1) := by decide +kernel
theorem dX11_readNumber_38 : decode cX11_readNumber 38 = .ok (.iload_n 1, 1) := by decide +kernel
theorem dX11_readNumber_39 : decode cX11_readNumber 39 = .ok (.i2l, 1) := by decide +kernel
theorem dX11_readNumber_40 : decode cX11_readNumber 40 = .ok (.iload_n 2, 1) := by decide +kernel
theorem dX11_readNumber_41 : decode cX11_readNumber 41 = .ok (.i2l, 1) := by decide +kernel
theorem dX11_readNumber_42 : decode cX11_readNumber 42 = .ok (.invokestatic 66, 3) := by decide +kernel
theorem dX11_readNumber_45 : decode cX11_readNumber 45 = .ok (.iconst 3, 1) := by decide +kernel
theorem dX11_readNumber_46 : decode cX11_readNumber 46 = .ok (.invokevirtual 115, 3) := by decide +kernel
theorem dX11_readNumber_49 : decode cX11_readNumber 49 = .ok (.aload_n 0, 1) := by decide +kernel
theorem dX11_readNumber_50 : decode cX11_readNumber 50 = .ok (.getfield 73, 3) := by decide +kernel
theorem dX11_readNumber_53 : decode cX11_readNumber 53 = .ok (.ifCond .ne 10, 3) := by decide +kernel
theorem dX11_readNumber_56 : decode cX11_readNumber 56 = .ok (.aload_n 0, 1) := by decide +kernel
theorem dX11_readNumber_57 : decode cX11_readNumber 57 = .ok (.getfield 112, 3) := by decide +kernel
theorem dX11_readNumber_60 : decode cX11_readNumber 60 = .ok (.goto 4, 3) := by decide +kernel
theorem dX11_readNumber_63 : decode cX11_readNumber 63 = .ok (.iconst 0, 1) := by decide +kernel
theorem dX11_readNumber_64 : decode cX11_readNumber 64 = .ok (.istore_n 3, 1) := by decide +kernel
theorem dX11_readNumber_65 : decode cX11_readNumber 65 = .ok (.aload_n 0, 1) := by decide +kernel
theorem dX11_readNumber_66 : decode cX11_readNumber 66 = .ok (.invokevirtual 119, 3) := by decide +kernel
theorem dX11_readNumber_69 : decode cX11_readNumber 69 = .ok (.iload_n 3, 1) := by decide +kernel
theorem dX11_readNumber_70 : decode cX11_readNumber 70 = .ok (.ireturn, 1) := by decide +kernel
theorem dX11_readCase_0 : decode cX11_readCase 0 = .ok (.bipush 20, 2) := by decide +kernel
theorem dX11_readCase_2 : decode cX11_readCase 2 = .ok (.bipush 7, 2) := by decide +kernel
theorem dX11_readCase_4 : decode cX11_readCase 4 = .ok (.aload_n 0, 1) := by decide +kernel
theorem dX11_readCase_5 : decode cX11_readCase 5 = .ok (.getfield 51, 3) := by decide +kernel
theorem dX11_readCase_8 : decode cX11_readCase 8 = .ok (.imul, 1) := by decide +kernel
theorem dX11_readCase_9 : decode cX11_readCase 9 = .ok (.iadd, 1) := by decide +kernel
theorem dX11_readCase_10 : decode cX11_readCase 10 = .ok (.istore_n 2, 1) := by decide +kernel
theorem dX11_readCase_11 : decode cX11_readCase 11 = .ok (.aload_n 0, 1) := by decide +kernel
theorem dX11_readCase_12 : decode cX11_readCase 12 = .ok (.getfield 20, 3) := by decide +kernel
theorem dX11_readCase_15 : decode cX11_readCase 15 = .ok (.iload_n 2, 1) := by decide +kernel
theorem dX11_readCase_16 : decode cX11_readCase 16 = .ok (.iconst 0, 1) := by decide +kernel
theorem dX11_readCase_17 : decode cX11_readCase 17 = .ok (.iadd, 1) := by decide +kernel
theorem dX11_readCase_18 : decode cX11_readCase 18 = .ok (.iload_n 1, 1) := by decide +kernel
theorem dX11_readCase_19 : decode cX11_readCase 19 = .ok (.iastore, 1) := by decide +kernel
theorem dX11_readCase_20 : decode cX11_readCase 20 = .ok (.aload_n 0, 1) := by decide +kernel
theorem dX11_readCase_21 : decode cX11_readCase 21 = .ok (.getfield 20, 3) := by decide +kernel
theorem dX11_readCase_24 : decode cX11_readCase 24 = .ok (.iload_n 2, 1) := by decide +kernel
theorem dX11_readCase_25 : decode cX11_readCase 25 = .ok (.iconst 1, 1) := by decide +kernel
theorem dX11_readCase_26 : decode cX11_readCase 26 = .ok (.iadd, 1) := by decide +kernel
theorem dX11_readCase_27 : decode cX11_readCase 27 = .ok (.aload_n 0, 1) := by decide +kernel
theorem dX11_readCase_28 : decode cX11_readCase 28 = .ok (.iconst 1, 1) := by decide +kernel
theorem dX11_readCase_29 : decode cX11_readCase 29 = .ok (.bipush 60, 2) := by decide +kernel
theorem dX11_readCase_31 : decode cX11_readCase 31 = .ok (.invokevirtual 122, 3) := by decide +kernel
theorem dX11_readCase_34 : decode cX11_readCase 34 = .ok (.iastore, 1) := by decide +kernel
theorem dX11_readCase_35 : decode cX11_readCase 35 = .ok (.aload_n 0, 1) := by decide +kernel
theorem dX11_readCase_36 : decode cX11_readCase 36 = .ok (.getfield 20, 3) := by decide +kernel
theorem dX11_readCase_39 : decode cX11_readCase 39 = .ok (.iload_n 2, 1) := by decide +kernel
theorem dX11_readCase_40 : decode cX11_readCase 40 = .ok (.iconst 2, 1) := by decide +kernel
theorem dX11_readCase_41 : decode cX11_readCase 41 = .ok (.iadd, 1) := by decide +kernel
theorem dX11_readCase_42 : decode cX11_readCase 42 = .ok (.aload_n 0, 1) := by decide +kernel
theorem dX11_readCase_43 : decode cX11_readCase 43 = .ok (.aload_n 0, 1) := by decide +kernel
theorem dX11_readCase_44 : decode cX11_readCase 44 = .ok (.getfield 20, 3) := by decide +kernel
theorem dX11_readCase_47 : decode cX11_readCase 47 = .ok (.iload_n 2, 1) := by decide +kernel
theorem dX11_readCase_48 : decode cX11_readCase 48 = .ok (.iconst 1, 1) := by decide +kernel
theorem dX11_readCase_49 : decode cX11_readCase 49 = .ok (.iadd, 1) := by decide +kernel
theorem dX11_readCase_50 : decode cX11_readCase 50 = .ok (.iaload, 1) := by decide +kernel
theorem dX11_readCase_51 : decode cX11_readCase 51 = .ok (.bipush 60, 2) := by decide +kernel
theorem dX11_readCase_53 : decode cX11_readCase 53 = .ok (.invokevirtual 122, 3) := by decide +kernel
theorem dX11_readCase_56 : decode cX11_readCase 56 = .ok (.iastore, 1) := by decide +kernel
theorem dX11_readCase_57 : decode cX11_readCase 57 = .ok (.aload_n 0, 1) := by decide +kernel
theorem dX11_readCase_58 : decode cX11_readCase 58 = .ok (.getfield 20, 3) := by decide +kernel
theorem dX11_readCase_61 : decode cX11_readCase 61 = .ok (.iload_n 2, 1) := by decide +kernel
theorem dX11_readCase_62 : decode cX11_readCase 62 = .ok (.iconst 3, 1) := by decide +kernel
theorem dX11_readCase_63 : decode cX11_readCase 63 = .ok (.iadd, 1) := by decide +kernel
theorem dX11_readCase_64 : decode cX11_readCase 64 = .ok (.aload_n 0, 1) := by decide +kernel
theorem dX11_readCase_65 : decode cX11_readCase 65 = .ok (.iconst 0, 1) := by decide +kernel
theorem dX11_readCase_66 : decode cX11_readCase 66 = .ok (.bipush 20, 2) := by decide +kernel
theorem dX11_readCase_68 : decode cX11_readCase 68 = .ok (.invokevirtual 122, 3) := by decide +kernel
theorem dX11_readCase_71 : decode cX11_readCase 71 = .ok (.iastore, 1) := by decide +kernel
theorem dX11_readCase_72 : decode cX11_readCase 72 = .ok (.aload_n 0, 1) := by decide +kernel
theorem dX11_readCase_73 : decode cX11_readCase 73 = .ok (.dup, 1) := by decide +kernel
theorem dX11_readCase_74 : decode cX11_readCase 74 = .ok (.getfield 51, 3) := by decide +kernel
theorem dX11_readCase_77 : decode cX11_readCase 77 = .ok (.iconst 1, 1) := by decide +kernel
theorem dX11_readCase_78 : decode cX11_readCase 78 = .ok (.iadd, 1) := by decide +kernel
theorem dX11_readCase_79 : decode cX11_readCase 79 = .ok (.putfield 51, 3) := by decide +kernel
theorem dX11_readCase_82 : decode cX11_readCase 82 = .ok (.return_, 1) := by decide +kernel
theorem dX11_readLineOf_0 : decode cX11_readLineOf 0 = .ok (.iload_n 1, 1) := by decide +kernel
theorem dX11_readLineOf_1 : decode cX11_readLineOf 1 = .ok (.bipush 8, 2) := by decide +kernel
theorem dX11_readLineOf_3 : decode cX11_readLineOf 3 = .ok (.if_icmp .ne 20, 3) := by decide +kernel
theorem dX11_readLineOf_6 : decode cX11_readLineOf 6 = .ok (.aload_n 0, 1) := by decide +kernel
theorem dX11_readLineOf_7 : decode cX11_readLineOf 7 = .ok (.getfield 20, 3) := by decide +kernel
theorem dX11_readLineOf_10 : decode cX11_readLineOf 10 = .ok (.bipush 56, 2) := by decide +kernel
theorem dX11_readLineOf_12 : decode cX11_readLineOf 12 = .ok (.aload_n 0, 1) := by decide +kernel
theorem dX11_readLineOf_13 : decode cX11_readLineOf 13 = .ok (.iconst 0, 1) := by decide +kernel
theorem dX11_readLineOf_14 : decode cX11_readLineOf 14 = .ok (.bipush 99, 2) := by decide +kernel
theorem dX11_readLineOf_16 : decode cX11_readLineOf 16 = .ok (.invokevirtual 122, 3) := by decide +kernel
theorem dX11_readLineOf_19 : decode cX11_readLineOf 19 = .ok (.iastore, 1) := by decide +kernel
theorem dX11_readLineOf_20 : decode cX11_readLineOf 20 = .ok (.goto 82, 3) := by decide +kernel
theorem dX11_readLineOf_23 : decode cX11_readLineOf 23 = .ok (.iload_n 1, 1) := by decide +kernel
theorem dX11_readLineOf_24 : decode cX11_readLineOf 24 = .ok (.iconst 4, 1) := by decide +kernel
theorem dX11_readLineOf_25 : decode cX11_readLineOf 25 = .ok (.if_icmp .lt 13, 3) := by decide +kernel
theorem dX11_readLineOf_28 : decode cX11_readLineOf 28 = .ok (.aload_n 0, 1) := by decide +kernel
theorem dX11_readLineOf_29 : decode cX11_readLineOf 29 = .ok (.iload_n 1, 1) := by decide +kernel
theorem dX11_readLineOf_30 : decode cX11_readLineOf 30 = .ok (.iconst 4, 1) := by decide +kernel
theorem dX11_readLineOf_31 : decode cX11_readLineOf 31 = .ok (.isub, 1) := by decide +kernel
theorem dX11_readLineOf_32 : decode cX11_readLineOf 32 = .ok (.invokevirtual 126, 3) := by decide +kernel
theorem dX11_readLineOf_35 : decode cX11_readLineOf 35 = .ok (.goto 67, 3) := by decide +kernel
theorem dX11_readLineOf_38 : decode cX11_readLineOf 38 = .ok (.aload_n 0, 1) := by decide +kernel
theorem dX11_readLineOf_39 : decode cX11_readLineOf 39 = .ok (.getfield 20, 3) := by decide +kernel
theorem dX11_readLineOf_42 : decode cX11_readLineOf 42 = .ok (.iconst 5, 1) := by decide +kernel
theorem dX11_readLineOf_43 : decode cX11_readLineOf 43 = .ok (.aload_n 0, 1) := by decide +kernel
theorem dX11_readLineOf_44 : decode cX11_readLineOf 44 = .ok (.getfield 47, 3) := by decide +kernel
theorem dX11_readLineOf_47 : decode cX11_readLineOf 47 = .ok (.imul, 1) := by decide +kernel
theorem dX11_readLineOf_48 : decode cX11_readLineOf 48 = .ok (.iconst 0, 1) := by decide +kernel
theorem dX11_readLineOf_49 : decode cX11_readLineOf 49 = .ok (.iadd, 1) := by decide +kernel
theorem dX11_readLineOf_50 : decode cX11_readLineOf 50 = .ok (.iload_n 1, 1) := by decide +kernel
theorem dX11_readLineOf_51 : decode cX11_readLineOf 51 = .ok (.iastore, 1) := by decide +kernel
theorem dX11_readLineOf_52 : decode cX11_readLineOf 52 = .ok (.aload_n 0, 1) := by decide +kernel
theorem dX11_readLineOf_53 : decode cX11_readLineOf 53 = .ok (.getfield 20, 3) := by decide +kernel
theorem dX11_readLineOf_56 : decode cX11_readLineOf 56 = .ok (.iconst 5, 1) := by decide +kernel
theorem dX11_readLineOf_57 : decode cX11_readLineOf 57 = .ok (.aload_n 0, 1) := by decide +kernel
theorem dX11_readLineOf_58 : decode cX11_readLineOf 58 = .ok (.getfield 47, 3) := by decide +kernel
theorem dX11_readLineOf_61 : decode cX11_readLineOf 61 = .ok (.imul, 1) := by decide +kernel
theorem dX11_readLineOf_62 : decode cX11_readLineOf 62 = .ok (.iconst 1, 1) := by decide +kernel
theorem dX11_readLineOf_63 : decode cX11_readLineOf 63 = .ok (.iadd, 1) := by decide +kernel
theorem dX11_readLineOf_64 : decode cX11_readLineOf 64 = .ok (.aload_n 0, 1) := by decide +kernel
theorem dX11_readLineOf_65 : decode cX11_readLineOf 65 = .ok (.iconst 1, 1) := by decide +kernel
theorem dX11_readLineOf_66 : decode cX11_readLineOf 66 = .ok (.bipush 20, 2) := by decide +kernel
theorem dX11_readLineOf_68 : decode cX11_readLineOf 68 = .ok (.invokevirtual 122, 3) := by decide +kernel
theorem dX11_readLineOf_71 : decode cX11_readLineOf 71 = .ok (.iastore, 1) := by decide +kernel
theorem dX11_readLineOf_72 : decode cX11_readLineOf 72 = .ok (.aload_n 0, 1) := by decide +kernel
theorem dX11_readLineOf_73 : decode cX11_readLineOf 73 = .ok (.getfield 20, 3) := by decide +kernel
theorem dX11_readLineOf_76 : decode cX11_readLineOf 76 = .ok (.iconst 5, 1) := by decide +kernel
theorem dX11_readLineOf_77 : decode cX11_readLineOf 77 = .ok (.aload_n 0, 1) := by decide +kernel
theorem dX11_readLineOf_78 : decode cX11_readLineOf 78 = .ok (.getfield 47, 3) := by decide +kernel
theorem dX11_readLineOf_81 : decode cX11_readLineOf 81 = .ok (.imul, 1) := by decide +kernel
theorem dX11_readLineOf_82 : decode cX11_readLineOf 82 = .ok (.iconst 2, 1) := by decide +kernel
theorem dX11_readLineOf_83 : decode cX11_readLineOf 83 = .ok (.iadd, 1) := by decide +kernel
theorem dX11_readLineOf_84 : decode cX11_readLineOf 84 = .ok (.aload_n 0, 1) := by decide +kernel
theorem dX11_readLineOf_85 : decode cX11_readLineOf 85 = .ok (.iconst 0, 1) := by decide +kernel
theorem dX11_readLineOf_86 : decode cX11_readLineOf 86 = .ok (.bipush 99, 2) := by decide +kernel
theorem dX11_readLineOf_88 : decode cX11_readLineOf 88 = .ok (.invokevirtual 122, 3) := by decide +kernel
theorem dX11_readLineOf_91 : decode cX11_readLineOf 91 = .ok (.iastore, 1) := by decide +kernel
theorem dX11_readLineOf_92 : decode cX11_readLineOf 92 = .ok (.aload_n 0, 1) := by decide +kernel
theorem dX11_readLineOf_93 : decode cX11_readLineOf 93 = .ok (.dup, 1) := by decide +kernel
theorem dX11_readLineOf_94 : decode cX11_readLineOf 94 = .ok (.getfield 47, 3) := by decide +kernel
theorem dX11_readLineOf_97 : decode cX11_readLineOf 97 = .ok (.iconst 1, 1) := by decide +kernel
theorem dX11_readLineOf_98 : decode cX11_readLineOf 98 = .ok (.iadd, 1) := by decide +kernel
theorem dX11_readLineOf_99 : decode cX11_readLineOf 99 = .ok (.putfield 47, 3) := by decide +kernel
theorem dX11_readLineOf_102 : decode cX11_readLineOf 102 = .ok (.return_, 1) := by decide +kernel
theorem dX11_readLine_0 : decode cX11_readLine 0 = .ok (.aload_n 0, 1) := by decide +kernel
theorem dX11_readLine_1 : decode cX11_readLine 1 = .ok (.getfield 101, 3) := by decide +kernel
theorem dX11_readLine_4 : decode cX11_readLine 4 = .ok (.iconst 1, 1) := by decide +kernel
theorem dX11_readLine_5 : decode cX11_readLine 5 = .ok (.if_icmp .ne 10, 3) := by decide +kernel
theorem dX11_readLine_8 : decode cX11_readLine 8 = .ok (.aload_n 0, 1) := by decide +kernel
theorem dX11_readLine_9 : decode cX11_readLine 9 = .ok (.invokevirtual 130, 3) := by decide +kernel
theorem dX11_readLine_12 : decode cX11_readLine 12 = .ok (.goto 5, 3) := by decide +kernel
theorem dX11_readLine_15 : decode cX11_readLine 15 = .ok (.bipush (-4), 2) := by decide +kernel
theorem dX11_readLine_17 : decode cX11_readLine 17 = .ok (.istore_n 1, 1) := by decide +kernel
theorem dX11_readLine_18 : decode cX11_readLine 18 = .ok (.aload_n 0, 1) := by decide +kernel
theorem dX11_readLine_19 : decode cX11_readLine 19 = .ok (.iload_n 1, 1) := by decide +kernel
theorem dX11_readLine_20 : decode cX11_readLine 20 = .ok (.bipush (-4), 2) := by decide +kernel
theorem dX11_readLine_22 : decode cX11_readLine 22 = .ok (.if_icmp .eq 7, 3) := by decide +kernel
theorem dX11_readLine_25 : decode cX11_readLine 25 = .ok (.iconst 1, 1) := by decide +kernel
theorem dX11_readLine_26 : decode cX11_readLine 26 = .ok (.goto 4, 3) := by decide +kernel
theorem dX11_readLine_29 : decode cX11_readLine 29 = .ok (.iconst 0, 1) := by decide +kernel
theorem dX11_readLine_30 : decode cX11_readLine 30 = .ok (.iconst 2, 1) := by decide +kernel
theorem dX11_readLine_31 : decode cX11_readLine 31 = .ok (.invokevirtual 115, 3) := by decide +kernel
theorem dX11_readLine_34 : decode cX11_readLine 34 = .ok (.aload_n 0, 1) := by decide +kernel
theorem dX11_readLine_35 : decode cX11_readLine 35 = .ok (.iload_n 1, 1) := by decide +kernel
theorem dX11_readLine_36 : decode cX11_readLine 36 = .ok (.bipush 8, 2) := by decide +kernel
theorem dX11_readLine_38 : decode cX11_readLine 38 = .ok (.if_icmp .eq 27, 3) := by decide +kernel
theorem dX11_readLine_41 : decode cX11_readLine 41 = .ok (.iload_n 1, 1) := by decide +kernel
theorem dX11_readLine_42 : decode cX11_readLine 42 = .ok (.iconst 4, 1) := by decide +kernel
theorem dX11_readLine_43 : decode cX11_readLine 43 = .ok (.if_icmp .lt 14, 3) := by decide +kernel
theorem dX11_readLine_46 : decode cX11_readLine 46 = .ok (.aload_n 0, 1) := by decide +kernel
theorem dX11_readLine_47 : decode cX11_readLine 47 = .ok (.getfield 51, 3) := by decide +kernel
theorem dX11_readLine_50 : decode cX11_readLine 50 = .ok (.iconst 5, 1) := by decide +kernel
theorem dX11_readLine_51 : decode cX11_readLine 51 = .ok (.if_icmp .ge 18, 3) := by decide +kernel
theorem dX11_readLine_54 : decode cX11_readLine 54 = .ok (.goto 11, 3) := by decide +kernel
theorem dX11_readLine_57 : decode cX11_readLine 57 = .ok (.aload_n 0, 1) := by decide +kernel
theorem dX11_readLine_58 : decode cX11_readLine 58 = .ok (.getfield 47, 3) := by decide +kernel
theorem dX11_readLine_61 : decode cX11_readLine 61 = .ok (.iconst 4, 1) := by decide +kernel
theorem dX11_readLine_62 : decode cX11_readLine 62 = .ok (.if_icmp .ge 7, 3) := by decide +kernel
theorem dX11_readLine_65 : decode cX11_readLine 65 = .ok (.iconst 1, 1) := by decide +kernel
theorem dX11_readLine_66 : decode cX11_readLine 66 = .ok (.goto 4, 3) := by decide +kernel
theorem dX11_readLine_69 : decode cX11_readLine 69 = .ok (.iconst 0, 1) := by decide +kernel
theorem dX11_readLine_70 : decode cX11_readLine 70 = .ok (.iconst 5, 1) := by decide +kernel
theorem dX11_readLine_71 : decode cX11_readLine 71 = .ok (.invokevirtual 115, 3) := by decide +kernel
theorem dX11_readLine_74 : decode cX11_readLine 74 = .ok (.aload_n 0, 1) := by decide +kernel
theorem dX11_readLine_75 : decode cX11_readLine 75 = .ok (.iload_n 1, 1) := by decide +kernel
theorem dX11_readLine_76 : decode cX11_readLine 76 = .ok (.bipush 8, 2) := by decide +kernel
theorem dX11_readLine_78 : decode cX11_readLine 78 = .ok (.if_icmp .ne 10, 3) := by decide +kernel
theorem dX11_readLine_81 : decode cX11_readLine 81 = .ok (.aload_n 0, 1) := by decide +kernel
theorem dX11_readLine_82 : decode cX11_readLine 82 = .ok (.getfield 54, 3) := by decide +kernel
theorem dX11_readLine_85 : decode cX11_readLine 85 = .ok (.ifCond .ne 7, 3) := by decide +kernel
theorem dX11_readLine_88 : decode cX11_readLine 88 = .ok (.iconst 1, 1) := by decide +kernel
theorem dX11_readLine_89 : decode cX11_readLine 89 = .ok (.goto 4, 3) := by decide +kernel
theorem dX11_readLine_92 : decode cX11_readLine 92 = .ok (.iconst 0, 1) := by decide +kernel
theorem dX11_readLine_93 : decode cX11_readLine 93 = .ok (.iconst 4, 1) := by decide +kernel
theorem dX11_readLine_94 : decode cX11_readLine 94 = .ok (.invokevirtual 115, 3) := by decide +kernel
theorem dX11_readLine_97 : decode cX11_readLine 97 = .ok (.aload_n 0, 1) := by decide +kernel
theorem dX11_readLine_98 : decode cX11_readLine 98 = .ok (.aload_n 0, 1) := by decide +kernel
theorem dX11_readLine_99 : decode cX11_readLine 99 = .ok (.getfield 54, 3) := by decide +kernel
theorem dX11_readLine_102 : decode cX11_readLine 102 = .ok (.ifCond .ne 9, 3) := by decide +kernel
theorem dX11_readLine_105 : decode cX11_readLine 105 = .ok (.iload_n 1, 1) := by decide +kernel
theorem dX11_readLine_106 : decode cX11_readLine 106 = .ok (.bipush 8, 2) := by decide +kernel
theorem dX11_readLine_108 : decode cX11_readLine 108 = .ok (.if_icmp .ne 7, 3) := by decide +kernel
theorem dX11_readLine_111 : decode cX11_readLine 111 = .ok (.iconst 1, 1) := by decide +kernel
theorem dX11_readLine_112 : decode cX11_readLine 112 = .ok (.goto 4, 3) := by decide +kernel
theorem dX11_readLine_115 : decode cX11_readLine 115 = .ok (.iconst 0, 1) := by decide +kernel
theorem dX11_readLine_116 : decode cX11_readLine 116 = .ok (.putfield 54, 3) := by decide +kernel
theorem dX11_readLine_119 : decode cX11_readLine 119 = .ok (.aload_n 0, 1) := by decide +kernel
theorem dX11_readLine_120 : decode cX11_readLine 120 = .ok (.invokevirtual 119, 3) := by decide +kernel
theorem dX11_readLine_123 : decode cX11_readLine 123 = .ok (.aload_n 0, 1) := by decide +kernel
theorem dX11_readLine_124 : decode cX11_readLine 124 = .ok (.getfield 73, 3) := by decide +kernel
theorem dX11_readLine_127 : decode cX11_readLine 127 = .ok (.ifCond .le 4, 3) := by decide +kernel
theorem dX11_readLine_130 : decode cX11_readLine 130 = .ok (.return_, 1) := by decide +kernel
theorem dX11_readLine_131 : decode cX11_readLine 131 = .ok (.aload_n 0, 1) := by decide +kernel
theorem dX11_readLine_132 : decode cX11_readLine 132 = .ok (.iload_n 1, 1) := by decide +kernel
theorem dX11_readLine_133 : decode cX11_readLine 133 = .ok (.invokevirtual 133, 3) := by decide +kernel
theorem dX11_readLine_136 : decode cX11_readLine 136 = .ok (.aload_n 0, 1) := by decide +kernel
theorem dX11_readLine_137 : decode cX11_readLine 137 = .ok (.getfield 73, 3) := by decide +kernel
theorem dX11_readLine_140 : decode cX11_readLine 140 = .ok (.ifCond .ne 21, 3) := by decide +kernel
theorem dX11_readLine_143 : decode cX11_readLine 143 = .ok (.aload_n 0, 1) := by decide +kernel
theorem dX11_readLine_144 : decode cX11_readLine 144 = .ok (.aload_n 0, 1) := by decide +kernel
theorem dX11_readLine_145 : decode cX11_readLine 145 = .ok (.getfield 101, 3) := by decide +kernel
theorem dX11_readLine_148 : decode cX11_readLine 148 = .ok (.iconst 3, 1) := by decide +kernel
theorem dX11_readLine_149 : decode cX11_readLine 149 = .ok (.if_icmp .ne 7, 3) := by decide +kernel
theorem dX11_readLine_152 : decode cX11_readLine 152 = .ok (.iconst 1, 1) := by decide +kernel
theorem dX11_readLine_153 : decode cX11_readLine 153 = .ok (.goto 4, 3) := by decide +kernel
theorem dX11_readLine_156 : decode cX11_readLine 156 = .ok (.iconst 0, 1) := by decide +kernel
theorem dX11_readLine_157 : decode cX11_readLine 157 = .ok (.iconst 2, 1) := by decide +kernel
theorem dX11_readLine_158 : decode cX11_readLine 158 = .ok (.invokevirtual 115, 3) := by decide +kernel
theorem dX11_readLine_161 : decode cX11_readLine 161 = .ok (.aload_n 0, 1) := by decide +kernel
theorem dX11_readLine_162 : decode cX11_readLine 162 = .ok (.invokevirtual 119, 3) := by decide +kernel
theorem dX11_readLine_165 : decode cX11_readLine 165 = .ok (.return_, 1) := by decide +kernel
theorem dX11_text_0 : decode cX11_text 0 = .ok (.iconst 0, 1) := by decide +kernel
theorem dX11_text_1 : decode cX11_text 1 = .ok (.istore_n 1, 1) := by decide +kernel
theorem dX11_text_2 : decode cX11_text 2 = .ok (.aload_n 0, 1) := by decide +kernel
theorem dX11_text_3 : decode cX11_text 3 = .ok (.iconst 0, 1) := by decide +kernel
theorem dX11_text_4 : decode cX11_text 4 = .ok (.putfield 73, 3) := by decide +kernel
theorem dX11_text_7 : decode cX11_text 7 = .ok (.aload_n 0, 1) := by decide +kernel
theorem dX11_text_8 : decode cX11_text 8 = .ok (.iconst 0, 1) := by decide +kernel
theorem dX11_text_9 : decode cX11_text 9 = .ok (.putfield 82, 3) := by decide +kernel
theorem dX11_text_12 : decode cX11_text 12 = .ok (.aload_n 0, 1) := by decide +kernel
theorem dX11_text_13 : decode cX11_text 13 = .ok (.invokevirtual 41, 3) := by decide +kernel
theorem dX11_text_16 : decode cX11_text 16 = .ok (.aload_n 0, 1) := by decide +kernel
theorem dX11_text_17 : decode cX11_text 17 = .ok (.invokevirtual 119, 3) := by decide +kernel
theorem dX11_text_20 : decode cX11_text 20 = .ok (.aload_n 0, 1) := by decide +kernel
theorem dX11_text_21 : decode cX11_text 21 = .ok (.getfield 73, 3) := by decide +kernel
theorem dX11_text_24 : decode cX11_text 24 = .ok (.ifCond .ne 20, 3) := by decide +kernel
theorem dX11_text_27 : decode cX11_text 27 = .ok (.aload_n 0, 1) := by decide +kernel
theorem dX11_text_28 : decode cX11_text 28 = .ok (.getfield 101, 3) := by decide +kernel
theorem dX11_text_31 : decode cX11_text 31 = .ok (.ifCond .eq 13, 3) := by decide +kernel
theorem dX11_text_34 : decode cX11_text 34 = .ok (.aload_n 0, 1) := by decide +kernel
theorem dX11_text_35 : decode cX11_text 35 = .ok (.invokevirtual 136, 3) := by decide +kernel
theorem dX11_text_38 : decode cX11_text 38 = .ok (.iinc 1 1, 3) := by decide +kernel
theorem dX11_text_41 : decode cX11_text 41 = .ok (.goto (-21), 3) := by decide +kernel
theorem dX11_text_44 : decode cX11_text 44 = .ok (.aload_n 0, 1) := by decide +kernel
theorem dX11_text_45 : decode cX11_text 45 = .ok (.iconst 0, 1) := by decide +kernel
theorem dX11_text_46 : decode cX11_text 46 = .ok (.putfield 70, 3) := by decide +kernel
theorem dX11_text_49 : decode cX11_text 49 = .ok (.aload_n 0, 1) := by decide +kernel
theorem dX11_text_50 : decode cX11_text 50 = .ok (.getfield 73, 3) := by decide +kernel
theorem dX11_text_53 : decode cX11_text 53 = .ok (.ifCond .le 11, 3) := by decide +kernel
theorem dX11_text_56 : decode cX11_text 56 = .ok (.bipush (-10), 2) := by decide +kernel
theorem dX11_text_58 : decode cX11_text 58 = .ok (.aload_n 0, 1) := by decide +kernel
theorem dX11_text_59 : decode cX11_text 59 = .ok (.getfield 79, 3) := by decide +kernel
theorem dX11_text_62 : decode cX11_text 62 = .ok (.isub, 1) := by decide +kernel
theorem dX11_text_63 : decode cX11_text 63 = .ok (.ireturn, 1) := by decide +kernel
theorem dX11_text_64 : decode cX11_text 64 = .ok (.aload_n 0, 1) := by decide +kernel
theorem dX11_text_65 : decode cX11_text 65 = .ok (.invokevirtual 44, 3) := by decide +kernel
theorem dX11_text_68 : decode cX11_text 68 = .ok (.iload_n 1, 1) := by decide +kernel
theorem dX11_text_69 : decode cX11_text 69 = .ok (.ireturn, 1) := by decide +kernel
theorem dX11_fault_0 : decode cX11_fault 0 = .ok (.aload_n 0, 1) := by decide +kernel
theorem dX11_fault_1 : decode cX11_fault 1 = .ok (.getfield 73, 3) := by decide +kernel
theorem dX11_fault_4 : decode cX11_fault 4 = .ok (.ireturn, 1) := by decide +kernel
theorem dX11_isJudge_0 : decode cX11_isJudge 0 = .ok (.iload_n 1, 1) := by decide +kernel
theorem dX11_isJudge_1 : decode cX11_isJudge 1 = .ok (.i2l, 1) := by decide +kernel
theorem dX11_isJudge_2 : decode cX11_isJudge 2 = .ok (.lconst 0, 1) := by decide +kernel
theorem dX11_isJudge_3 : decode cX11_isJudge 3 = .ok (.aload_n 0, 1) := by decide +kernel
theorem dX11_isJudge_4 : decode cX11_isJudge 4 = .ok (.getfield 58, 3) := by decide +kernel
theorem dX11_isJudge_7 : decode cX11_isJudge 7 = .ok (.iconst 1, 1) := by decide +kernel
theorem dX11_isJudge_8 : decode cX11_isJudge 8 = .ok (.isub, 1) := by decide +kernel
theorem dX11_isJudge_9 : decode cX11_isJudge 9 = .ok (.i2l, 1) := by decide +kernel
theorem dX11_isJudge_10 : decode cX11_isJudge 10 = .ok (.invokestatic 66, 3) := by decide +kernel
theorem dX11_isJudge_13 : decode cX11_isJudge 13 = .ok (.ireturn, 1) := by decide +kernel
theorem dX11_isCase_0 : decode cX11_isCase 0 = .ok (.iload_n 1, 1) := by decide +kernel
theorem dX11_isCase_1 : decode cX11_isCase 1 = .ok (.i2l, 1) := by decide +kernel
theorem dX11_isCase_2 : decode cX11_isCase 2 = .ok (.lconst 0, 1) := by decide +kernel
theorem dX11_isCase_3 : decode cX11_isCase 3 = .ok (.aload_n 0, 1) := by decide +kernel
theorem dX11_isCase_4 : decode cX11_isCase 4 = .ok (.getfield 61, 3) := by decide +kernel
theorem dX11_isCase_7 : decode cX11_isCase 7 = .ok (.iconst 1, 1) := by decide +kernel
theorem dX11_isCase_8 : decode cX11_isCase 8 = .ok (.isub, 1) := by decide +kernel
theorem dX11_isCase_9 : decode cX11_isCase 9 = .ok (.i2l, 1) := by decide +kernel
theorem dX11_isCase_10 : decode cX11_isCase 10 = .ok (.invokestatic 66, 3) := by decide +kernel
theorem dX11_isCase_13 : decode cX11_isCase 13 = .ok (.ireturn, 1) := by decide +kernel
theorem dX11_isPart_0 : decode cX11_isPart 0 = .ok (.iload_n 0, 1) := by decide +kernel
theorem dX11_isPart_1 : decode cX11_isPart 1 = .ok (.i2l, 1) := by decide +kernel
theorem dX11_isPart_2 : decode cX11_isPart 2 = .ok (.lconst 0, 1) := by decide +kernel
theorem dX11_isPart_3 : decode cX11_isPart 3 = .ok (.lconst 1, 1) := by decide +kernel
theorem dX11_isPart_4 : decode cX11_isPart 4 = .ok (.invokestatic 66, 3) := by decide +kernel
theorem dX11_isPart_7 : decode cX11_isPart 7 = .ok (.ireturn, 1) := by decide +kernel
theorem dX11_starts_0 : decode cX11_starts 0 = .ok (.iconst 0, 1) := by decide +kernel
theorem dX11_starts_1 : decode cX11_starts 1 = .ok (.istore_n 1, 1) := by decide +kernel
theorem dX11_starts_2 : decode cX11_starts 2 = .ok (.iload_n 1, 1) := by decide +kernel
theorem dX11_starts_3 : decode cX11_starts 3 = .ok (.bipush 76, 2) := by decide +kernel
theorem dX11_starts_5 : decode cX11_starts 5 = .ok (.if_icmp .ge 21, 3) := by decide +kernel
theorem dX11_starts_8 : decode cX11_starts 8 = .ok (.aload_n 0, 1) := by decide +kernel
theorem dX11_starts_9 : decode cX11_starts 9 = .ok (.getfield 13, 3) := by decide +kernel
theorem dX11_starts_12 : decode cX11_starts 12 = .ok (.iload_n 1, 1) := by decide +kernel
theorem dX11_starts_13 : decode cX11_starts 13 = .ok (.aload_n 0, 1) := by decide +kernel
theorem dX11_starts_14 : decode cX11_starts 14 = .ok (.getfield 7, 3) := by decide +kernel
theorem dX11_starts_17 : decode cX11_starts 17 = .ok (.iload_n 1, 1) := by decide +kernel
theorem dX11_starts_18 : decode cX11_starts 18 = .ok (.iaload, 1) := by decide +kernel
theorem dX11_starts_19 : decode cX11_starts 19 = .ok (.iastore, 1) := by decide +kernel
theorem dX11_starts_20 : decode cX11_starts 20 = .ok (.iinc 1 1, 3) := by decide +kernel
theorem dX11_starts_23 : decode cX11_starts 23 = .ok (.goto (-21), 3) := by decide +kernel
theorem dX11_starts_26 : decode cX11_starts 26 = .ok (.iconst 0, 1) := by decide +kernel
theorem dX11_starts_27 : decode cX11_starts 27 = .ok (.istore_n 1, 1) := by decide +kernel
theorem dX11_starts_28 : decode cX11_starts 28 = .ok (.iload_n 1, 1) := by decide +kernel
theorem dX11_starts_29 : decode cX11_starts 29 = .ok (.iconst 4, 1) := by decide +kernel
theorem dX11_starts_30 : decode cX11_starts 30 = .ok (.if_icmp .ge 16, 3) := by decide +kernel
theorem dX11_starts_33 : decode cX11_starts 33 = .ok (.aload_n 0, 1) := by decide +kernel
theorem dX11_starts_34 : decode cX11_starts 34 = .ok (.getfield 26, 3) := by decide +kernel
theorem dX11_starts_37 : decode cX11_starts 37 = .ok (.iload_n 1, 1) := by decide +kernel
theorem dX11_starts_38 : decode cX11_starts 38 = .ok (.iload_n 1, 1) := by decide +kernel
theorem dX11_starts_39 : decode cX11_starts 39 = .ok (.iastore, 1) := by decide +kernel
theorem dX11_starts_40 : decode cX11_starts 40 = .ok (.iinc 1 1, 3) := by decide +kernel
theorem dX11_starts_43 : decode cX11_starts 43 = .ok (.goto (-15), 3) := by decide +kernel
theorem dX11_starts_46 : decode cX11_starts 46 = .ok (.return_, 1) := by decide +kernel
theorem dX11_settles_0 : decode cX11_settles 0 = .ok (.iconst 0, 1) := by decide +kernel
theorem dX11_settles_1 : decode cX11_settles 1 = .ok (.istore_n 1, 1) := by decide +kernel
theorem dX11_settles_2 : decode cX11_settles 2 = .ok (.iload_n 1, 1) := by decide +kernel
theorem dX11_settles_3 : decode cX11_settles 3 = .ok (.bipush 76, 2) := by decide +kernel
theorem dX11_settles_5 : decode cX11_settles 5 = .ok (.if_icmp .ge 21, 3) := by decide +kernel
theorem dX11_settles_8 : decode cX11_settles 8 = .ok (.aload_n 0, 1) := by decide +kernel
theorem dX11_settles_9 : decode cX11_settles 9 = .ok (.getfield 7, 3) := by decide +kernel
theorem dX11_settles_12 : decode cX11_settles 12 = .ok (.iload_n 1, 1) := by decide +kernel
theorem dX11_settles_13 : decode cX11_settles 13 = .ok (.aload_n 0, 1) := by decide +kernel
theorem dX11_settles_14 : decode cX11_settles 14 = .ok (.getfield 13, 3) := by decide +kernel
theorem dX11_settles_17 : decode cX11_settles 17 = .ok (.iload_n 1, 1) := by decide +kernel
theorem dX11_settles_18 : decode cX11_settles 18 = .ok (.iaload, 1) := by decide +kernel
theorem dX11_settles_19 : decode cX11_settles 19 = .ok (.iastore, 1) := by decide +kernel
theorem dX11_settles_20 : decode cX11_settles 20 = .ok (.iinc 1 1, 3) := by decide +kernel
theorem dX11_settles_23 : decode cX11_settles 23 = .ok (.goto (-21), 3) := by decide +kernel
theorem dX11_settles_26 : decode cX11_settles 26 = .ok (.return_, 1) := by decide +kernel
theorem dX11_of_0 : decode cX11_of 0 = .ok (.aload_n 0, 1) := by decide +kernel
theorem dX11_of_1 : decode cX11_of 1 = .ok (.getfield 13, 3) := by decide +kernel
theorem dX11_of_4 : decode cX11_of 4 = .ok (.iconst 5, 1) := by decide +kernel
theorem dX11_of_5 : decode cX11_of 5 = .ok (.iload_n 1, 1) := by decide +kernel
theorem dX11_of_6 : decode cX11_of 6 = .ok (.imul, 1) := by decide +kernel
theorem dX11_of_7 : decode cX11_of 7 = .ok (.iload_n 2, 1) := by decide +kernel
theorem dX11_of_8 : decode cX11_of 8 = .ok (.iadd, 1) := by decide +kernel
theorem dX11_of_9 : decode cX11_of 9 = .ok (.iaload, 1) := by decide +kernel
theorem dX11_of_10 : decode cX11_of 10 = .ok (.ireturn, 1) := by decide +kernel
theorem dX11_becomesOf_0 : decode cX11_becomesOf 0 = .ok (.aload_n 0, 1) := by decide +kernel
theorem dX11_becomesOf_1 : decode cX11_becomesOf 1 = .ok (.getfield 13, 3) := by decide +kernel
theorem dX11_becomesOf_4 : decode cX11_becomesOf 4 = .ok (.iconst 5, 1) := by decide +kernel
theorem dX11_becomesOf_5 : decode cX11_becomesOf 5 = .ok (.iload_n 1, 1) := by decide +kernel
theorem dX11_becomesOf_6 : decode cX11_becomesOf 6 = .ok (.imul, 1) := by decide +kernel
theorem dX11_becomesOf_7 : decode cX11_becomesOf 7 = .ok (.iload_n 2, 1) := by decide +kernel
theorem dX11_becomesOf_8 : decode cX11_becomesOf 8 = .ok (.iadd, 1) := by decide +kernel
theorem dX11_becomesOf_9 : decode cX11_becomesOf 9 = .ok (.iload_n 3, 1) := by decide +kernel
theorem dX11_becomesOf_10 : decode cX11_becomesOf 10 = .ok (.iastore, 1) := by decide +kernel
theorem dX11_becomesOf_11 : decode cX11_becomesOf 11 = .ok (.return_, 1) := by decide +kernel
theorem dX11_ofCase_0 : decode cX11_ofCase 0 = .ok (.aload_n 0, 1) := by decide +kernel
theorem dX11_ofCase_1 : decode cX11_ofCase 1 = .ok (.getfield 13, 3) := by decide +kernel
theorem dX11_ofCase_4 : decode cX11_ofCase 4 = .ok (.bipush 20, 2) := by decide +kernel
theorem dX11_ofCase_6 : decode cX11_ofCase 6 = .ok (.bipush 7, 2) := by decide +kernel
theorem dX11_ofCase_8 : decode cX11_ofCase 8 = .ok (.iload_n 1, 1) := by decide +kernel
theorem dX11_ofCase_9 : decode cX11_ofCase 9 = .ok (.imul, 1) := by decide +kernel
theorem dX11_ofCase_10 : decode cX11_ofCase 10 = .ok (.iadd, 1) := by decide +kernel
theorem dX11_ofCase_11 : decode cX11_ofCase 11 = .ok (.iload_n 2, 1) := by decide +kernel
theorem dX11_ofCase_12 : decode cX11_ofCase 12 = .ok (.iadd, 1) := by decide +kernel
theorem dX11_ofCase_13 : decode cX11_ofCase 13 = .ok (.iaload, 1) := by decide +kernel
theorem dX11_ofCase_14 : decode cX11_ofCase 14 = .ok (.ireturn, 1) := by decide +kernel
theorem dX11_becomesCase_0 : decode cX11_becomesCase 0 = .ok (.aload_n 0, 1) := by decide +kernel
theorem dX11_becomesCase_1 : decode cX11_becomesCase 1 = .ok (.getfield 13, 3) := by decide +kernel
theorem dX11_becomesCase_4 : decode cX11_becomesCase 4 = .ok (.bipush 20, 2) := by decide +kernel
theorem dX11_becomesCase_6 : decode cX11_becomesCase 6 = .ok (.bipush 7, 2) := by decide +kernel
theorem dX11_becomesCase_8 : decode cX11_becomesCase 8 = .ok (.iload_n 1, 1) := by decide +kernel
theorem dX11_becomesCase_9 : decode cX11_becomesCase 9 = .ok (.imul, 1) := by decide +kernel
theorem dX11_becomesCase_10 : decode cX11_becomesCase 10 = .ok (.iadd, 1) := by decide +kernel
theorem dX11_becomesCase_11 : decode cX11_becomesCase 11 = .ok (.iload_n 2, 1) := by decide +kernel
theorem dX11_becomesCase_12 : decode cX11_becomesCase 12 = .ok (.iadd, 1) := by decide +kernel
theorem dX11_becomesCase_13 : decode cX11_becomesCase 13 = .ok (.iload_n 3, 1) := by decide +kernel
theorem dX11_becomesCase_14 : decode cX11_becomesCase 14 = .ok (.iastore, 1) := by decide +kernel
theorem dX11_becomesCase_15 : decode cX11_becomesCase 15 = .ok (.return_, 1) := by decide +kernel
theorem dX11_lesser_0 : decode cX11_lesser 0 = .ok (.iload_n 0, 1) := by decide +kernel
theorem dX11_lesser_1 : decode cX11_lesser 1 = .ok (.iload_n 1, 1) := by decide +kernel
theorem dX11_lesser_2 : decode cX11_lesser 2 = .ok (.if_icmp .ge 7, 3) := by decide +kernel
theorem dX11_lesser_5 : decode cX11_lesser 5 = .ok (.iload_n 0, 1) := by decide +kernel
theorem dX11_lesser_6 : decode cX11_lesser 6 = .ok (.goto 4, 3) := by decide +kernel
theorem dX11_lesser_9 : decode cX11_lesser 9 = .ok (.iload_n 1, 1) := by decide +kernel
theorem dX11_lesser_10 : decode cX11_lesser 10 = .ok (.ireturn, 1) := by decide +kernel
theorem dX11_tenthBy_0 : decode cX11_tenthBy 0 = .ok (.iload_n 1, 1) := by decide +kernel
theorem dX11_tenthBy_1 : decode cX11_tenthBy 1 = .ok (.bipush 9, 2) := by decide +kernel
theorem dX11_tenthBy_3 : decode cX11_tenthBy 3 = .ok (.iadd, 1) := by decide +kernel
theorem dX11_tenthBy_4 : decode cX11_tenthBy 4 = .ok (.bipush 10, 2) := by decide +kernel
theorem dX11_tenthBy_6 : decode cX11_tenthBy 6 = .ok (.idiv, 1) := by decide +kernel
theorem dX11_tenthBy_7 : decode cX11_tenthBy 7 = .ok (.istore_n 2, 1) := by decide +kernel
theorem dX11_tenthBy_8 : decode cX11_tenthBy 8 = .ok (.iload_n 2, 1) := by decide +kernel
theorem dX11_tenthBy_9 : decode cX11_tenthBy 9 = .ok (.iconst 1, 1) := by decide +kernel
theorem dX11_tenthBy_10 : decode cX11_tenthBy 10 = .ok (.iadd, 1) := by decide +kernel
theorem dX11_tenthBy_11 : decode cX11_tenthBy 11 = .ok (.iconst 2, 1) := by decide +kernel
theorem dX11_tenthBy_12 : decode cX11_tenthBy 12 = .ok (.idiv, 1) := by decide +kernel
theorem dX11_tenthBy_13 : decode cX11_tenthBy 13 = .ok (.istore_n 3, 1) := by decide +kernel
theorem dX11_tenthBy_14 : decode cX11_tenthBy 14 = .ok (.iload_n 0, 1) := by decide +kernel
theorem dX11_tenthBy_15 : decode cX11_tenthBy 15 = .ok (.iconst 1, 1) := by decide +kernel
theorem dX11_tenthBy_16 : decode cX11_tenthBy 16 = .ok (.if_icmp .ne 16, 3) := by decide +kernel
theorem dX11_tenthBy_19 : decode cX11_tenthBy 19 = .ok (.iload_n 2, 1) := by decide +kernel
theorem dX11_tenthBy_20 : decode cX11_tenthBy 20 = .ok (.iconst 1, 1) := by decide +kernel
theorem dX11_tenthBy_21 : decode cX11_tenthBy 21 = .ok (.if_icmp .le 9, 3) := by decide +kernel
theorem dX11_tenthBy_24 : decode cX11_tenthBy 24 = .ok (.iload_n 2, 1) := by decide +kernel
theorem dX11_tenthBy_25 : decode cX11_tenthBy 25 = .ok (.iconst 1, 1) := by decide +kernel
theorem dX11_tenthBy_26 : decode cX11_tenthBy 26 = .ok (.isub, 1) := by decide +kernel
theorem dX11_tenthBy_27 : decode cX11_tenthBy 27 = .ok (.goto 4, 3) := by decide +kernel
theorem dX11_tenthBy_30 : decode cX11_tenthBy 30 = .ok (.iconst 1, 1) := by decide +kernel
theorem dX11_tenthBy_31 : decode cX11_tenthBy 31 = .ok (.ireturn, 1) := by decide +kernel
theorem dX11_tenthBy_32 : decode cX11_tenthBy 32 = .ok (.iload_n 0, 1) := by decide +kernel
theorem dX11_tenthBy_33 : decode cX11_tenthBy 33 = .ok (.iconst 2, 1) := by decide +kernel
theorem dX11_tenthBy_34 : decode cX11_tenthBy 34 = .ok (.if_icmp .ne 7, 3) := by decide +kernel
theorem dX11_tenthBy_37 : decode cX11_tenthBy 37 = .ok (.iload_n 3, 1) := by decide +kernel
theorem dX11_tenthBy_38 : decode cX11_tenthBy 38 = .ok (.goto 15, 3) := by decide +kernel
theorem dX11_tenthBy_41 : decode cX11_tenthBy 41 = .ok (.iload_n 0, 1) := by decide +kernel
theorem dX11_tenthBy_42 : decode cX11_tenthBy 42 = .ok (.iconst 3, 1) := by decide +kernel
theorem dX11_tenthBy_43 : decode cX11_tenthBy 43 = .ok (.if_icmp .ne 9, 3) := by decide +kernel
theorem dX11_tenthBy_46 : decode cX11_tenthBy 46 = .ok (.iconst 2, 1) := by decide +kernel
theorem dX11_tenthBy_47 : decode cX11_tenthBy 47 = .ok (.iload_n 3, 1) := by decide +kernel
theorem dX11_tenthBy_48 : decode cX11_tenthBy 48 = .ok (.imul, 1) := by decide +kernel
theorem dX11_tenthBy_49 : decode cX11_tenthBy 49 = .ok (.goto 4, 3) := by decide +kernel
theorem dX11_tenthBy_52 : decode cX11_tenthBy 52 = .ok (.iload_n 2, 1) := by decide +kernel
theorem dX11_tenthBy_53 : decode cX11_tenthBy 53 = .ok (.ireturn, 1) := by decide +kernel
theorem dX11_canBear_0 : decode cX11_canBear 0 = .ok (.aload_n 0, 1) := by decide +kernel
theorem dX11_canBear_1 : decode cX11_canBear 1 = .ok (.iload_n 1, 1) := by decide +kernel
theorem dX11_canBear_2 : decode cX11_canBear 2 = .ok (.iconst 0, 1) := by decide +kernel
theorem dX11_canBear_3 : decode cX11_canBear 3 = .ok (.invokevirtual 139, 3) := by decide +kernel
theorem dX11_canBear_6 : decode cX11_canBear 6 = .ok (.iload_n 3, 1) := by decide +kernel
theorem dX11_canBear_7 : decode cX11_canBear 7 = .ok (.invokestatic 142, 3) := by decide +kernel
theorem dX11_canBear_10 : decode cX11_canBear 10 = .ok (.istore 4, 2) := by decide +kernel
theorem dX11_canBear_12 : decode cX11_canBear 12 = .ok (.aload_n 0, 1) := by decide +kernel
theorem dX11_canBear_13 : decode cX11_canBear 13 = .ok (.iload_n 2, 1) := by decide +kernel
theorem dX11_canBear_14 : decode cX11_canBear 14 = .ok (.iconst 0, 1) := by decide +kernel
theorem dX11_canBear_15 : decode cX11_canBear 15 = .ok (.invokevirtual 145, 3) := by decide +kernel
theorem dX11_canBear_18 : decode cX11_canBear 18 = .ok (.istore 5, 2) := by decide +kernel
theorem dX11_canBear_20 : decode cX11_canBear 20 = .ok (.iload 5, 2) := by decide +kernel
theorem dX11_canBear_22 : decode cX11_canBear 22 = .ok (.iconst 1, 1) := by decide +kernel
theorem dX11_canBear_23 : decode cX11_canBear 23 = .ok (.if_icmp .ne 22, 3) := by decide +kernel
theorem dX11_canBear_26 : decode cX11_canBear 26 = .ok (.aload_n 0, 1) := by decide +kernel
theorem dX11_canBear_27 : decode cX11_canBear 27 = .ok (.iload_n 1, 1) := by decide +kernel
theorem dX11_canBear_28 : decode cX11_canBear 28 = .ok (.iconst 2, 1) := by decide +kernel
theorem dX11_canBear_29 : decode cX11_canBear 29 = .ok (.invokevirtual 139, 3) := by decide +kernel
theorem dX11_canBear_32 : decode cX11_canBear 32 = .ok (.iload 4, 2) := by decide +kernel
theorem dX11_canBear_34 : decode cX11_canBear 34 = .ok (.if_icmp .lt 7, 3) := by decide +kernel
theorem dX11_canBear_37 : decode cX11_canBear 37 = .ok (.iconst 1, 1) := by decide +kernel
theorem dX11_canBear_38 : decode cX11_canBear 38 = .ok (.goto 29, 3) := by decide +kernel
theorem dX11_canBear_41 : decode cX11_canBear 41 = .ok (.iconst 0, 1) := by decide +kernel
theorem dX11_canBear_42 : decode cX11_canBear 42 = .ok (.goto 25, 3) := by decide +kernel
theorem dX11_canBear_45 : decode cX11_canBear 45 = .ok (.iload 5, 2) := by decide +kernel
theorem dX11_canBear_47 : decode cX11_canBear 47 = .ok (.iconst 2, 1) := by decide +kernel
theorem dX11_canBear_48 : decode cX11_canBear 48 = .ok (.if_icmp .ne 14, 3) := by decide +kernel
theorem dX11_canBear_51 : decode cX11_canBear 51 = .ok (.aload_n 0, 1) := by decide +kernel
theorem dX11_canBear_52 : decode cX11_canBear 52 = .ok (.iload_n 1, 1) := by decide +kernel
theorem dX11_canBear_53 : decode cX11_canBear 53 = .ok (.iconst 1, 1) := by decide +kernel
theorem dX11_canBear_54 : decode cX11_canBear 54 = .ok (.invokevirtual 139, 3) := by decide +kernel
theorem dX11_canBear_57 : decode cX11_canBear 57 = .ok (.iload 4, 2) := by decide +kernel
theorem dX11_canBear_59 : decode cX11_canBear 59 = .ok (.if_icmp .le 7, 3) := by decide +kernel
theorem dX11_canBear_62 : decode cX11_canBear 62 = .ok (.iconst 1, 1) := by decide +kernel
theorem dX11_canBear_63 : decode cX11_canBear 63 = .ok (.goto 4, 3) := by decide +kernel
theorem dX11_canBear_66 : decode cX11_canBear 66 = .ok (.iconst 0, 1) := by decide +kernel
theorem dX11_canBear_67 : decode cX11_canBear 67 = .ok (.ireturn, 1) := by decide +kernel
theorem dX11_canHear_0 : decode cX11_canHear 0 = .ok (.aload_n 0, 1) := by decide +kernel
theorem dX11_canHear_1 : decode cX11_canHear 1 = .ok (.iload_n 2, 1) := by decide +kernel
theorem dX11_canHear_2 : decode cX11_canHear 2 = .ok (.iconst 4, 1) := by decide +kernel
theorem dX11_canHear_3 : decode cX11_canHear 3 = .ok (.invokevirtual 145, 3) := by decide +kernel
theorem dX11_canHear_6 : decode cX11_canHear 6 = .ok (.ifCond .ne 49, 3) := by decide +kernel
theorem dX11_canHear_9 : decode cX11_canHear 9 = .ok (.aload_n 0, 1) := by decide +kernel
theorem dX11_canHear_10 : decode cX11_canHear 10 = .ok (.iload_n 2, 1) := by decide +kernel
theorem dX11_canHear_11 : decode cX11_canHear 11 = .ok (.iconst 3, 1) := by decide +kernel
theorem dX11_canHear_12 : decode cX11_canHear 12 = .ok (.invokevirtual 145, 3) := by decide +kernel
theorem dX11_canHear_15 : decode cX11_canHear 15 = .ok (.aload_n 0, 1) := by decide +kernel
theorem dX11_canHear_16 : decode cX11_canHear 16 = .ok (.getfield 13, 3) := by decide +kernel
theorem dX11_canHear_19 : decode cX11_canHear 19 = .ok (.bipush 55, 2) := by decide +kernel
theorem dX11_canHear_21 : decode cX11_canHear 21 = .ok (.iaload, 1) := by decide +kernel
theorem dX11_canHear_22 : decode cX11_canHear 22 = .ok (.if_icmp .gt 33, 3) := by decide +kernel
theorem dX11_canHear_25 : decode cX11_canHear 25 = .ok (.aload_n 0, 1) := by decide +kernel
theorem dX11_canHear_26 : decode cX11_canHear 26 = .ok (.iload_n 1, 1) := by decide +kernel
theorem dX11_canHear_27 : decode cX11_canHear 27 = .ok (.iconst 3, 1) := by decide +kernel
theorem dX11_canHear_28 : decode cX11_canHear 28 = .ok (.invokevirtual 139, 3) := by decide +kernel
theorem dX11_canHear_31 : decode cX11_canHear 31 = .ok (.aload_n 0, 1) := by decide +kernel
theorem dX11_canHear_32 : decode cX11_canHear 32 = .ok (.getfield 13, 3) := by decide +kernel
theorem dX11_canHear_35 : decode cX11_canHear 35 = .ok (.bipush 55, 2) := by decide +kernel
theorem dX11_canHear_37 : decode cX11_canHear 37 = .ok (.iaload, 1) := by decide +kernel
theorem dX11_canHear_38 : decode cX11_canHear 38 = .ok (.if_icmp .gt 17, 3) := by decide +kernel
theorem dX11_canHear_41 : decode cX11_canHear 41 = .ok (.aload_n 0, 1) := by decide +kernel
theorem dX11_canHear_42 : decode cX11_canHear 42 = .ok (.iload_n 1, 1) := by decide +kernel
theorem dX11_canHear_43 : decode cX11_canHear 43 = .ok (.iload_n 2, 1) := by decide +kernel
theorem dX11_canHear_44 : decode cX11_canHear 44 = .ok (.iload_n 3, 1) := by decide +kernel
theorem dX11_canHear_45 : decode cX11_canHear 45 = .ok (.invokevirtual 148, 3) := by decide +kernel
theorem dX11_canHear_48 : decode cX11_canHear 48 = .ok (.ifCond .eq 7, 3) := by decide +kernel
theorem dX11_canHear_51 : decode cX11_canHear 51 = .ok (.iconst 1, 1) := by decide +kernel
theorem dX11_canHear_52 : decode cX11_canHear 52 = .ok (.goto 4, 3) := by decide +kernel
theorem dX11_canHear_55 : decode cX11_canHear 55 = .ok (.iconst 0, 1) := by decide +kernel
theorem dX11_canHear_56 : decode cX11_canHear 56 = .ok (.ireturn, 1) := by decide +kernel
theorem dX11_sentences_0 : decode cX11_sentences 0 = .ok (.aload_n 0, 1) := by decide +kernel
theorem dX11_sentences_1 : decode cX11_sentences 1 = .ok (.iload_n 1, 1) := by decide +kernel
theorem dX11_sentences_2 : decode cX11_sentences 2 = .ok (.iconst 0, 1) := by decide +kernel
theorem dX11_sentences_3 : decode cX11_sentences 3 = .ok (.invokevirtual 139, 3) := by decide +kernel
theorem dX11_sentences_6 : decode cX11_sentences 6 = .ok (.iload_n 3, 1) := by decide +kernel
theorem dX11_sentences_7 : decode cX11_sentences 7 = .ok (.invokestatic 142, 3) := by decide +kernel
theorem dX11_sentences_10 : decode cX11_sentences 10 = .ok (.istore 4, 2) := by decide +kernel
theorem dX11_sentences_12 : decode cX11_sentences 12 = .ok (.aload_n 0, 1) := by decide +kernel
theorem dX11_sentences_13 : decode cX11_sentences 13 = .ok (.iload_n 2, 1) := by decide +kernel
theorem dX11_sentences_14 : decode cX11_sentences 14 = .ok (.iconst 0, 1) := by decide +kernel
theorem dX11_sentences_15 : decode cX11_sentences 15 = .ok (.invokevirtual 145, 3) := by decide +kernel
theorem dX11_sentences_18 : decode cX11_sentences 18 = .ok (.tableswitch 96 0 2 #[26, 45, 63], 26) := by decide +kernel
theorem dX11_sentences_44 : decode cX11_sentences 44 = .ok (.aload_n 0, 1) := by decide +kernel
theorem dX11_sentences_45 : decode cX11_sentences 45 = .ok (.iload_n 1, 1) := by decide +kernel
theorem dX11_sentences_46 : decode cX11_sentences 46 = .ok (.iconst 3, 1) := by decide +kernel
theorem dX11_sentences_47 : decode cX11_sentences 47 = .ok (.aload_n 0, 1) := by decide +kernel
theorem dX11_sentences_48 : decode cX11_sentences 48 = .ok (.getfield 13, 3) := by decide +kernel
theorem dX11_sentences_51 : decode cX11_sentences 51 = .ok (.bipush 55, 2) := by decide +kernel
theorem dX11_sentences_53 : decode cX11_sentences 53 = .ok (.iaload, 1) := by decide +kernel
theorem dX11_sentences_54 : decode cX11_sentences 54 = .ok (.iload 4, 2) := by decide +kernel
theorem dX11_sentences_56 : decode cX11_sentences 56 = .ok (.iadd, 1) := by decide +kernel
theorem dX11_sentences_57 : decode cX11_sentences 57 = .ok (.invokevirtual 151, 3) := by decide +kernel
theorem dX11_sentences_60 : decode cX11_sentences 60 = .ok (.goto 83, 3) := by decide +kernel
theorem dX11_sentences_63 : decode cX11_sentences 63 = .ok (.aload_n 0, 1) := by decide +kernel
theorem dX11_sentences_64 : decode cX11_sentences 64 = .ok (.iload_n 1, 1) := by decide +kernel
theorem dX11_sentences_65 : decode cX11_sentences 65 = .ok (.iconst 2, 1) := by decide +kernel
theorem dX11_sentences_66 : decode cX11_sentences 66 = .ok (.aload_n 0, 1) := by decide +kernel
theorem dX11_sentences_67 : decode cX11_sentences 67 = .ok (.iload_n 1, 1) := by decide +kernel
theorem dX11_sentences_68 : decode cX11_sentences 68 = .ok (.iconst 2, 1) := by decide +kernel
theorem dX11_sentences_69 : decode cX11_sentences 69 = .ok (.invokevirtual 139, 3) := by decide +kernel
theorem dX11_sentences_72 : decode cX11_sentences 72 = .ok (.iload 4, 2) := by decide +kernel
theorem dX11_sentences_74 : decode cX11_sentences 74 = .ok (.isub, 1) := by decide +kernel
theorem dX11_sentences_75 : decode cX11_sentences 75 = .ok (.invokevirtual 151, 3) := by decide +kernel
theorem dX11_sentences_78 : decode cX11_sentences 78 = .ok (.goto 65, 3) := by decide +kernel
theorem dX11_sentences_81 : decode cX11_sentences 81 = .ok (.aload_n 0, 1) := by decide +kernel
theorem dX11_sentences_82 : decode cX11_sentences 82 = .ok (.iload_n 1, 1) := by decide +kernel
theorem dX11_sentences_83 : decode cX11_sentences 83 = .ok (.iconst 1, 1) := by decide +kernel
theorem dX11_sentences_84 : decode cX11_sentences 84 = .ok (.aload_n 0, 1) := by decide +kernel
theorem dX11_sentences_85 : decode cX11_sentences 85 = .ok (.iload_n 1, 1) := by decide +kernel
theorem dX11_sentences_86 : decode cX11_sentences 86 = .ok (.iconst 1, 1) := by decide +kernel
theorem dX11_sentences_87 : decode cX11_sentences 87 = .ok (.invokevirtual 139, 3) := by decide +kernel
theorem dX11_sentences_90 : decode cX11_sentences 90 = .ok (.iload 4, 2) := by decide +kernel
theorem dX11_sentences_92 : decode cX11_sentences 92 = .ok (.isub, 1) := by decide +kernel
theorem dX11_sentences_93 : decode cX11_sentences 93 = .ok (.invokevirtual 151, 3) := by decide +kernel
theorem dX11_sentences_96 : decode cX11_sentences 96 = .ok (.aload_n 0, 1) := by decide +kernel
theorem dX11_sentences_97 : decode cX11_sentences 97 = .ok (.iload_n 1, 1) := by decide +kernel
theorem dX11_sentences_98 : decode cX11_sentences 98 = .ok (.iconst 4, 1) := by decide +kernel
theorem dX11_sentences_99 : decode cX11_sentences 99 = .ok (.aload_n 0, 1) := by decide +kernel
theorem dX11_sentences_100 : decode cX11_sentences 100 = .ok (.iload_n 1, 1) := by decide +kernel
theorem dX11_sentences_101 : decode cX11_sentences 101 = .ok (.iconst 4, 1) := by decide +kernel
theorem dX11_sentences_102 : decode cX11_sentences 102 = .ok (.invokevirtual 139, 3) := by decide +kernel
theorem dX11_sentences_105 : decode cX11_sentences 105 = .ok (.iload 4, 2) := by decide +kernel
theorem dX11_sentences_107 : decode cX11_sentences 107 = .ok (.iadd, 1) := by decide +kernel
theorem dX11_sentences_108 : decode cX11_sentences 108 = .ok (.invokevirtual 151, 3) := by decide +kernel
theorem dX11_sentences_111 : decode cX11_sentences 111 = .ok (.goto 32, 3) := by decide +kernel
theorem dX11_sentences_114 : decode cX11_sentences 114 = .ok (.aload_n 0, 1) := by decide +kernel
theorem dX11_sentences_115 : decode cX11_sentences 115 = .ok (.iload_n 1, 1) := by decide +kernel
theorem dX11_sentences_116 : decode cX11_sentences 116 = .ok (.iconst 3, 1) := by decide +kernel
theorem dX11_sentences_117 : decode cX11_sentences 117 = .ok (.aload_n 0, 1) := by decide +kernel
theorem dX11_sentences_118 : decode cX11_sentences 118 = .ok (.getfield 13, 3) := by decide +kernel
theorem dX11_sentences_121 : decode cX11_sentences 121 = .ok (.bipush 55, 2) := by decide +kernel
theorem dX11_sentences_123 : decode cX11_sentences 123 = .ok (.iaload, 1) := by decide +kernel
theorem dX11_sentences_124 : decode cX11_sentences 124 = .ok (.iconst 1, 1) := by decide +kernel
theorem dX11_sentences_125 : decode cX11_sentences 125 = .ok (.iadd, 1) := by decide +kernel
theorem dX11_sentences_126 : decode cX11_sentences 126 = .ok (.invokevirtual 151, 3) := by decide +kernel
theorem dX11_sentences_129 : decode cX11_sentences 129 = .ok (.aload_n 0, 1) := by decide +kernel
theorem dX11_sentences_130 : decode cX11_sentences 130 = .ok (.iload_n 1, 1) := by decide +kernel
theorem dX11_sentences_131 : decode cX11_sentences 131 = .ok (.iconst 4, 1) := by decide +kernel
theorem dX11_sentences_132 : decode cX11_sentences 132 = .ok (.aload_n 0, 1) := by decide +kernel
theorem dX11_sentences_133 : decode cX11_sentences 133 = .ok (.iload_n 1, 1) := by decide +kernel
theorem dX11_sentences_134 : decode cX11_sentences 134 = .ok (.iconst 4, 1) := by decide +kernel
theorem dX11_sentences_135 : decode cX11_sentences 135 = .ok (.invokevirtual 139, 3) := by decide +kernel
theorem dX11_sentences_138 : decode cX11_sentences 138 = .ok (.iconst 1, 1) := by decide +kernel
theorem dX11_sentences_139 : decode cX11_sentences 139 = .ok (.iadd, 1) := by decide +kernel
theorem dX11_sentences_140 : decode cX11_sentences 140 = .ok (.invokevirtual 151, 3) := by decide +kernel
theorem dX11_sentences_143 : decode cX11_sentences 143 = .ok (.aload_n 0, 1) := by decide +kernel
theorem dX11_sentences_144 : decode cX11_sentences 144 = .ok (.getfield 13, 3) := by decide +kernel
theorem dX11_sentences_147 : decode cX11_sentences 147 = .ok (.bipush 56, 2) := by decide +kernel
theorem dX11_sentences_149 : decode cX11_sentences 149 = .ok (.aload_n 0, 1) := by decide +kernel
theorem dX11_sentences_150 : decode cX11_sentences 150 = .ok (.getfield 13, 3) := by decide +kernel
theorem dX11_sentences_153 : decode cX11_sentences 153 = .ok (.bipush 56, 2) := by decide +kernel
theorem dX11_sentences_155 : decode cX11_sentences 155 = .ok (.iaload, 1) := by decide +kernel
theorem dX11_sentences_156 : decode cX11_sentences 156 = .ok (.iload_n 3, 1) := by decide +kernel
theorem dX11_sentences_157 : decode cX11_sentences 157 = .ok (.iconst 5, 1) := by decide +kernel
theorem dX11_sentences_158 : decode cX11_sentences 158 = .ok (.idiv, 1) := by decide +kernel
theorem dX11_sentences_159 : decode cX11_sentences 159 = .ok (.if_icmp .le 17, 3) := by decide +kernel
theorem dX11_sentences_162 : decode cX11_sentences 162 = .ok (.aload_n 0, 1) := by decide +kernel
theorem dX11_sentences_163 : decode cX11_sentences 163 = .ok (.getfield 13, 3) := by decide +kernel
theorem dX11_sentences_166 : decode cX11_sentences 166 = .ok (.bipush 56, 2) := by decide +kernel
theorem dX11_sentences_168 : decode cX11_sentences 168 = .ok (.iaload, 1) := by decide +kernel
theorem dX11_sentences_169 : decode cX11_sentences 169 = .ok (.iload_n 3, 1) := by decide +kernel
theorem dX11_sentences_170 : decode cX11_sentences 170 = .ok (.iconst 5, 1) := by decide +kernel
theorem dX11_sentences_171 : decode cX11_sentences 171 = .ok (.idiv, 1) := by decide +kernel
theorem dX11_sentences_172 : decode cX11_sentences 172 = .ok (.isub, 1) := by decide +kernel
theorem dX11_sentences_173 : decode cX11_sentences 173 = .ok (.goto 4, 3) := by decide +kernel
theorem dX11_sentences_176 : decode cX11_sentences 176 = .ok (.iconst 0, 1) := by decide +kernel
theorem dX11_sentences_177 : decode cX11_sentences 177 = .ok (.iastore, 1) := by decide +kernel
theorem dX11_sentences_178 : decode cX11_sentences 178 = .ok (.aload_n 0, 1) := by decide +kernel
theorem dX11_sentences_179 : decode cX11_sentences 179 = .ok (.iload_n 2, 1) := by decide +kernel
theorem dX11_sentences_180 : decode cX11_sentences 180 = .ok (.iconst 4, 1) := by decide +kernel
theorem dX11_sentences_181 : decode cX11_sentences 181 = .ok (.iload_n 3, 1) := by decide +kernel
theorem dX11_sentences_182 : decode cX11_sentences 182 = .ok (.invokevirtual 155, 3) := by decide +kernel
theorem dX11_sentences_185 : decode cX11_sentences 185 = .ok (.aload_n 0, 1) := by decide +kernel
theorem dX11_sentences_186 : decode cX11_sentences 186 = .ok (.iload_n 2, 1) := by decide +kernel
theorem dX11_sentences_187 : decode cX11_sentences 187 = .ok (.iconst 5, 1) := by decide +kernel
theorem dX11_sentences_188 : decode cX11_sentences 188 = .ok (.iload_n 1, 1) := by decide +kernel
theorem dX11_sentences_189 : decode cX11_sentences 189 = .ok (.invokevirtual 155, 3) := by decide +kernel
theorem dX11_sentences_192 : decode cX11_sentences 192 = .ok (.aload_n 0, 1) := by decide +kernel
theorem dX11_sentences_193 : decode cX11_sentences 193 = .ok (.iload_n 2, 1) := by decide +kernel
theorem dX11_sentences_194 : decode cX11_sentences 194 = .ok (.bipush 6, 2) := by decide +kernel
theorem dX11_sentences_196 : decode cX11_sentences 196 = .ok (.iload 4, 2) := by decide +kernel
theorem dX11_sentences_198 : decode cX11_sentences 198 = .ok (.invokevirtual 155, 3) := by decide +kernel
theorem dX11_sentences_201 : decode cX11_sentences 201 = .ok (.return_, 1) := by decide +kernel
theorem dX11_appeals_0 : decode cX11_appeals 0 = .ok (.aload_n 0, 1) := by decide +kernel
theorem dX11_appeals_1 : decode cX11_appeals 1 = .ok (.iload_n 1, 1) := by decide +kernel
theorem dX11_appeals_2 : decode cX11_appeals 2 = .ok (.iconst 5, 1) := by decide +kernel
theorem dX11_appeals_3 : decode cX11_appeals 3 = .ok (.invokevirtual 145, 3) := by decide +kernel
theorem dX11_appeals_6 : decode cX11_appeals 6 = .ok (.istore_n 2, 1) := by decide +kernel
theorem dX11_appeals_7 : decode cX11_appeals 7 = .ok (.aload_n 0, 1) := by decide +kernel
theorem dX11_appeals_8 : decode cX11_appeals 8 = .ok (.iload_n 1, 1) := by decide +kernel
theorem dX11_appeals_9 : decode cX11_appeals 9 = .ok (.bipush 6, 2) := by decide +kernel
theorem dX11_appeals_11 : decode cX11_appeals 11 = .ok (.invokevirtual 145, 3) := by decide +kernel
theorem dX11_appeals_14 : decode cX11_appeals 14 = .ok (.istore_n 3, 1) := by decide +kernel
theorem dX11_appeals_15 : decode cX11_appeals 15 = .ok (.aload_n 0, 1) := by decide +kernel
theorem dX11_appeals_16 : decode cX11_appeals 16 = .ok (.iload_n 1, 1) := by decide +kernel
theorem dX11_appeals_17 : decode cX11_appeals 17 = .ok (.iconst 0, 1) := by decide +kernel
theorem dX11_appeals_18 : decode cX11_appeals 18 = .ok (.invokevirtual 145, 3) := by decide +kernel
theorem dX11_appeals_21 : decode cX11_appeals 21 = .ok (.istore 4, 2) := by decide +kernel
theorem dX11_appeals_23 : decode cX11_appeals 23 = .ok (.iload 4, 2) := by decide +kernel
theorem dX11_appeals_25 : decode cX11_appeals 25 = .ok (.ifCond .eq 9, 3) := by decide +kernel
theorem dX11_appeals_28 : decode cX11_appeals 28 = .ok (.iload 4, 2) := by decide +kernel
theorem dX11_appeals_30 : decode cX11_appeals 30 = .ok (.iconst 3, 1) := by decide +kernel
theorem dX11_appeals_31 : decode cX11_appeals 31 = .ok (.if_icmp .ne 25, 3) := by decide +kernel
theorem dX11_appeals_34 : decode cX11_appeals 34 = .ok (.aload_n 0, 1) := by decide +kernel
theorem dX11_appeals_35 : decode cX11_appeals 35 = .ok (.iload_n 2, 1) := by decide +kernel
theorem dX11_appeals_36 : decode cX11_appeals 36 = .ok (.iconst 3, 1) := by decide +kernel
theorem dX11_appeals_37 : decode cX11_appeals 37 = .ok (.aload_n 0, 1) := by decide +kernel
theorem dX11_appeals_38 : decode cX11_appeals 38 = .ok (.iload_n 2, 1) := by decide +kernel
theorem dX11_appeals_39 : decode cX11_appeals 39 = .ok (.iconst 3, 1) := by decide +kernel
theorem dX11_appeals_40 : decode cX11_appeals 40 = .ok (.invokevirtual 139, 3) := by decide +kernel
theorem dX11_appeals_43 : decode cX11_appeals 43 = .ok (.aload_n 0, 1) := by decide +kernel
theorem dX11_appeals_44 : decode cX11_appeals 44 = .ok (.getfield 13, 3) := by decide +kernel
theorem dX11_appeals_47 : decode cX11_appeals 47 = .ok (.bipush 55, 2) := by decide +kernel
theorem dX11_appeals_49 : decode cX11_appeals 49 = .ok (.iaload, 1) := by decide +kernel
theorem dX11_appeals_50 : decode cX11_appeals 50 = .ok (.invokestatic 158, 3) := by decide +kernel
theorem dX11_appeals_53 : decode cX11_appeals 53 = .ok (.invokevirtual 151, 3) := by decide +kernel
theorem dX11_appeals_56 : decode cX11_appeals 56 = .ok (.iload 4, 2) := by decide +kernel
theorem dX11_appeals_58 : decode cX11_appeals 58 = .ok (.iconst 1, 1) := by decide +kernel
theorem dX11_appeals_59 : decode cX11_appeals 59 = .ok (.if_icmp .ne 22, 3) := by decide +kernel
theorem dX11_appeals_62 : decode cX11_appeals 62 = .ok (.aload_n 0, 1) := by decide +kernel
theorem dX11_appeals_63 : decode cX11_appeals 63 = .ok (.iload_n 2, 1) := by decide +kernel
theorem dX11_appeals_64 : decode cX11_appeals 64 = .ok (.iconst 2, 1) := by decide +kernel
theorem dX11_appeals_65 : decode cX11_appeals 65 = .ok (.bipush 99, 2) := by decide +kernel
theorem dX11_appeals_67 : decode cX11_appeals 67 = .ok (.aload_n 0, 1) := by decide +kernel
theorem dX11_appeals_68 : decode cX11_appeals 68 = .ok (.iload_n 2, 1) := by decide +kernel
theorem dX11_appeals_69 : decode cX11_appeals 69 = .ok (.iconst 2, 1) := by decide +kernel
theorem dX11_appeals_70 : decode cX11_appeals 70 = .ok (.invokevirtual 139, 3) := by decide +kernel
theorem dX11_appeals_73 : decode cX11_appeals 73 = .ok (.iload_n 3, 1) := by decide +kernel
theorem dX11_appeals_74 : decode cX11_appeals 74 = .ok (.iadd, 1) := by decide +kernel
theorem dX11_appeals_75 : decode cX11_appeals 75 = .ok (.invokestatic 158, 3) := by decide +kernel
theorem dX11_appeals_78 : decode cX11_appeals 78 = .ok (.invokevirtual 151, 3) := by decide +kernel
theorem dX11_appeals_81 : decode cX11_appeals 81 = .ok (.iload 4, 2) := by decide +kernel
theorem dX11_appeals_83 : decode cX11_appeals 83 = .ok (.iconst 2, 1) := by decide +kernel
theorem dX11_appeals_84 : decode cX11_appeals 84 = .ok (.if_icmp .ne 22, 3) := by decide +kernel
theorem dX11_appeals_87 : decode cX11_appeals 87 = .ok (.aload_n 0, 1) := by decide +kernel
theorem dX11_appeals_88 : decode cX11_appeals 88 = .ok (.iload_n 2, 1) := by decide +kernel
theorem dX11_appeals_89 : decode cX11_appeals 89 = .ok (.iconst 1, 1) := by decide +kernel
theorem dX11_appeals_90 : decode cX11_appeals 90 = .ok (.bipush 20, 2) := by decide +kernel
theorem dX11_appeals_92 : decode cX11_appeals 92 = .ok (.aload_n 0, 1) := by decide +kernel
theorem dX11_appeals_93 : decode cX11_appeals 93 = .ok (.iload_n 2, 1) := by decide +kernel
theorem dX11_appeals_94 : decode cX11_appeals 94 = .ok (.iconst 1, 1) := by decide +kernel
theorem dX11_appeals_95 : decode cX11_appeals 95 = .ok (.invokevirtual 139, 3) := by decide +kernel
theorem dX11_appeals_98 : decode cX11_appeals 98 = .ok (.iload_n 3, 1) := by decide +kernel
theorem dX11_appeals_99 : decode cX11_appeals 99 = .ok (.iadd, 1) := by decide +kernel
theorem dX11_appeals_100 : decode cX11_appeals 100 = .ok (.invokestatic 158, 3) := by decide +kernel
theorem dX11_appeals_103 : decode cX11_appeals 103 = .ok (.invokevirtual 151, 3) := by decide +kernel
theorem dX11_appeals_106 : decode cX11_appeals 106 = .ok (.aload_n 0, 1) := by decide +kernel
theorem dX11_appeals_107 : decode cX11_appeals 107 = .ok (.iload_n 2, 1) := by decide +kernel
theorem dX11_appeals_108 : decode cX11_appeals 108 = .ok (.iconst 4, 1) := by decide +kernel
theorem dX11_appeals_109 : decode cX11_appeals 109 = .ok (.aload_n 0, 1) := by decide +kernel
theorem dX11_appeals_110 : decode cX11_appeals 110 = .ok (.iload_n 2, 1) := by decide +kernel
theorem dX11_appeals_111 : decode cX11_appeals 111 = .ok (.iconst 4, 1) := by decide +kernel
theorem dX11_appeals_112 : decode cX11_appeals 112 = .ok (.invokevirtual 139, 3) := by decide +kernel
theorem dX11_appeals_115 : decode cX11_appeals 115 = .ok (.iload 4, 2) := by decide +kernel
theorem dX11_appeals_117 : decode cX11_appeals 117 = .ok (.iconst 2, 1) := by decide +kernel
theorem dX11_appeals_118 : decode cX11_appeals 118 = .ok (.if_icmp .ne 7, 3) := by decide +kernel
theorem dX11_appeals_121 : decode cX11_appeals 121 = .ok (.iload_n 3, 1) := by decide +kernel
theorem dX11_appeals_122 : decode cX11_appeals 122 = .ok (.goto 14, 3) := by decide +kernel
theorem dX11_appeals_125 : decode cX11_appeals 125 = .ok (.iload 4, 2) := by decide +kernel
theorem dX11_appeals_127 : decode cX11_appeals 127 = .ok (.iconst 3, 1) := by decide +kernel
theorem dX11_appeals_128 : decode cX11_appeals 128 = .ok (.if_icmp .ne 7, 3) := by decide +kernel
theorem dX11_appeals_131 : decode cX11_appeals 131 = .ok (.iconst 1, 1) := by decide +kernel
theorem dX11_appeals_132 : decode cX11_appeals 132 = .ok (.goto 4, 3) := by decide +kernel
theorem dX11_appeals_135 : decode cX11_appeals 135 = .ok (.iconst 0, 1) := by decide +kernel
theorem dX11_appeals_136 : decode cX11_appeals 136 = .ok (.isub, 1) := by decide +kernel
theorem dX11_appeals_137 : decode cX11_appeals 137 = .ok (.invokevirtual 151, 3) := by decide +kernel
theorem dX11_appeals_140 : decode cX11_appeals 140 = .ok (.aload_n 0, 1) := by decide +kernel
theorem dX11_appeals_141 : decode cX11_appeals 141 = .ok (.getfield 13, 3) := by decide +kernel
theorem dX11_appeals_144 : decode cX11_appeals 144 = .ok (.bipush 56, 2) := by decide +kernel
theorem dX11_appeals_146 : decode cX11_appeals 146 = .ok (.bipush 99, 2) := by decide +kernel
theorem dX11_appeals_148 : decode cX11_appeals 148 = .ok (.aload_n 0, 1) := by decide +kernel
theorem dX11_appeals_149 : decode cX11_appeals 149 = .ok (.getfield 13, 3) := by decide +kernel
theorem dX11_appeals_152 : decode cX11_appeals 152 = .ok (.bipush 56, 2) := by decide +kernel
theorem dX11_appeals_154 : decode cX11_appeals 154 = .ok (.iaload, 1) := by decide +kernel
theorem dX11_appeals_155 : decode cX11_appeals 155 = .ok (.aload_n 0, 1) := by decide +kernel
theorem dX11_appeals_156 : decode cX11_appeals 156 = .ok (.iload_n 1, 1) := by decide +kernel
theorem dX11_appeals_157 : decode cX11_appeals 157 = .ok (.iconst 4, 1) := by decide +kernel
theorem dX11_appeals_158 : decode cX11_appeals 158 = .ok (.invokevirtual 145, 3) := by decide +kernel
theorem dX11_appeals_161 : decode cX11_appeals 161 = .ok (.iconst 5, 1) := by decide +kernel
theorem dX11_appeals_162 : decode cX11_appeals 162 = .ok (.idiv, 1) := by decide +kernel
theorem dX11_appeals_163 : decode cX11_appeals 163 = .ok (.iadd, 1) := by decide +kernel
theorem dX11_appeals_164 : decode cX11_appeals 164 = .ok (.invokestatic 158, 3) := by decide +kernel
theorem dX11_appeals_167 : decode cX11_appeals 167 = .ok (.iastore, 1) := by decide +kernel
theorem dX11_appeals_168 : decode cX11_appeals 168 = .ok (.aload_n 0, 1) := by decide +kernel
theorem dX11_appeals_169 : decode cX11_appeals 169 = .ok (.iload_n 1, 1) := by decide +kernel
theorem dX11_appeals_170 : decode cX11_appeals 170 = .ok (.iconst 4, 1) := by decide +kernel
theorem dX11_appeals_171 : decode cX11_appeals 171 = .ok (.iconst 0, 1) := by decide +kernel
theorem dX11_appeals_172 : decode cX11_appeals 172 = .ok (.invokevirtual 155, 3) := by decide +kernel
theorem dX11_appeals_175 : decode cX11_appeals 175 = .ok (.aload_n 0, 1) := by decide +kernel
theorem dX11_appeals_176 : decode cX11_appeals 176 = .ok (.iload_n 1, 1) := by decide +kernel
theorem dX11_appeals_177 : decode cX11_appeals 177 = .ok (.iconst 5, 1) := by decide +kernel
theorem dX11_appeals_178 : decode cX11_appeals 178 = .ok (.bipush (-4), 2) := by decide +kernel
theorem dX11_appeals_180 : decode cX11_appeals 180 = .ok (.invokevirtual 155, 3) := by decide +kernel
theorem dX11_appeals_183 : decode cX11_appeals 183 = .ok (.aload_n 0, 1) := by decide +kernel
theorem dX11_appeals_184 : decode cX11_appeals 184 = .ok (.iload_n 1, 1) := by decide +kernel
theorem dX11_appeals_185 : decode cX11_appeals 185 = .ok (.bipush 6, 2) := by decide +kernel
theorem dX11_appeals_187 : decode cX11_appeals 187 = .ok (.iconst 0, 1) := by decide +kernel
theorem dX11_appeals_188 : decode cX11_appeals 188 = .ok (.invokevirtual 155, 3) := by decide +kernel
theorem dX11_appeals_191 : decode cX11_appeals 191 = .ok (.return_, 1) := by decide +kernel
theorem dX11_dayGoes_0 : decode cX11_dayGoes 0 = .ok (.aload_n 0, 1) := by decide +kernel
theorem dX11_dayGoes_1 : decode cX11_dayGoes 1 = .ok (.getfield 13, 3) := by decide +kernel
theorem dX11_dayGoes_4 : decode cX11_dayGoes 4 = .ok (.bipush 55, 2) := by decide +kernel
theorem dX11_dayGoes_6 : decode cX11_dayGoes 6 = .ok (.dup2, 1) := by decide +kernel
theorem dX11_dayGoes_7 : decode cX11_dayGoes 7 = .ok (.iaload, 1) := by decide +kernel
theorem dX11_dayGoes_8 : decode cX11_dayGoes 8 = .ok (.iconst 1, 1) := by decide +kernel
theorem dX11_dayGoes_9 : decode cX11_dayGoes 9 = .ok (.iadd, 1) := by decide +kernel
theorem dX11_dayGoes_10 : decode cX11_dayGoes 10 = .ok (.iastore, 1) := by decide +kernel
theorem dX11_dayGoes_11 : decode cX11_dayGoes 11 = .ok (.iconst 0, 1) := by decide +kernel
theorem dX11_dayGoes_12 : decode cX11_dayGoes 12 = .ok (.istore_n 1, 1) := by decide +kernel
theorem dX11_dayGoes_13 : decode cX11_dayGoes 13 = .ok (.iload_n 1, 1) := by decide +kernel
theorem dX11_dayGoes_14 : decode cX11_dayGoes 14 = .ok (.aload_n 0, 1) := by decide +kernel
theorem dX11_dayGoes_15 : decode cX11_dayGoes 15 = .ok (.getfield 61, 3) := by decide +kernel
theorem dX11_dayGoes_18 : decode cX11_dayGoes 18 = .ok (.if_icmp .ge 64, 3) := by decide +kernel
theorem dX11_dayGoes_21 : decode cX11_dayGoes 21 = .ok (.aload_n 0, 1) := by decide +kernel
theorem dX11_dayGoes_22 : decode cX11_dayGoes 22 = .ok (.iload_n 1, 1) := by decide +kernel
theorem dX11_dayGoes_23 : decode cX11_dayGoes 23 = .ok (.iconst 3, 1) := by decide +kernel
theorem dX11_dayGoes_24 : decode cX11_dayGoes 24 = .ok (.invokevirtual 145, 3) := by decide +kernel
theorem dX11_dayGoes_27 : decode cX11_dayGoes 27 = .ok (.aload_n 0, 1) := by decide +kernel
theorem dX11_dayGoes_28 : decode cX11_dayGoes 28 = .ok (.getfield 13, 3) := by decide +kernel
theorem dX11_dayGoes_31 : decode cX11_dayGoes 31 = .ok (.bipush 55, 2) := by decide +kernel
theorem dX11_dayGoes_33 : decode cX11_dayGoes 33 = .ok (.iaload, 1) := by decide +kernel
theorem dX11_dayGoes_34 : decode cX11_dayGoes 34 = .ok (.if_icmp .gt 16, 3) := by decide +kernel
theorem dX11_dayGoes_37 : decode cX11_dayGoes 37 = .ok (.aload_n 0, 1) := by decide +kernel
theorem dX11_dayGoes_38 : decode cX11_dayGoes 38 = .ok (.iload_n 1, 1) := by decide +kernel
theorem dX11_dayGoes_39 : decode cX11_dayGoes 39 = .ok (.iconst 4, 1) := by decide +kernel
theorem dX11_dayGoes_40 : decode cX11_dayGoes 40 = .ok (.invokevirtual 145, 3) := by decide +kernel
theorem dX11_dayGoes_43 : decode cX11_dayGoes 43 = .ok (.ifCond .ne 7, 3) := by decide +kernel
theorem dX11_dayGoes_46 : decode cX11_dayGoes 46 = .ok (.iconst 1, 1) := by decide +kernel
theorem dX11_dayGoes_47 : decode cX11_dayGoes 47 = .ok (.goto 4, 3) := by decide +kernel
theorem dX11_dayGoes_50 : decode cX11_dayGoes 50 = .ok (.iconst 0, 1) := by decide +kernel
theorem dX11_dayGoes_51 : decode cX11_dayGoes 51 = .ok (.istore_n 2, 1) := by decide +kernel
theorem dX11_dayGoes_52 : decode cX11_dayGoes 52 = .ok (.aload_n 0, 1) := by decide +kernel
theorem dX11_dayGoes_53 : decode cX11_dayGoes 53 = .ok (.getfield 13, 3) := by decide +kernel
theorem dX11_dayGoes_56 : decode cX11_dayGoes 56 = .ok (.bipush 56, 2) := by decide +kernel
theorem dX11_dayGoes_58 : decode cX11_dayGoes 58 = .ok (.bipush 99, 2) := by decide +kernel
theorem dX11_dayGoes_60 : decode cX11_dayGoes 60 = .ok (.aload_n 0, 1) := by decide +kernel
theorem dX11_dayGoes_61 : decode cX11_dayGoes 61 = .ok (.getfield 13, 3) := by decide +kernel
theorem dX11_dayGoes_64 : decode cX11_dayGoes 64 = .ok (.bipush 56, 2) := by decide +kernel
theorem dX11_dayGoes_66 : decode cX11_dayGoes 66 = .ok (.iaload, 1) := by decide +kernel
theorem dX11_dayGoes_67 : decode cX11_dayGoes 67 = .ok (.iload_n 2, 1) := by decide +kernel
theorem dX11_dayGoes_68 : decode cX11_dayGoes 68 = .ok (.invokestatic 161, 3) := by decide +kernel
theorem dX11_dayGoes_71 : decode cX11_dayGoes 71 = .ok (.iadd, 1) := by decide +kernel
theorem dX11_dayGoes_72 : decode cX11_dayGoes 72 = .ok (.invokestatic 158, 3) := by decide +kernel
theorem dX11_dayGoes_75 : decode cX11_dayGoes 75 = .ok (.iastore, 1) := by decide +kernel
theorem dX11_dayGoes_76 : decode cX11_dayGoes 76 = .ok (.iinc 1 1, 3) := by decide +kernel
theorem dX11_dayGoes_79 : decode cX11_dayGoes 79 = .ok (.goto (-66), 3) := by decide +kernel
theorem dX11_dayGoes_82 : decode cX11_dayGoes 82 = .ok (.return_, 1) := by decide +kernel
theorem dX11_heard_0 : decode cX11_heard 0 = .ok (.iconst 0, 1) := by decide +kernel
theorem dX11_heard_1 : decode cX11_heard 1 = .ok (.istore_n 1, 1) := by decide +kernel
theorem dX11_heard_2 : decode cX11_heard 2 = .ok (.iconst 0, 1) := by decide +kernel
theorem dX11_heard_3 : decode cX11_heard 3 = .ok (.istore_n 2, 1) := by decide +kernel
theorem dX11_heard_4 : decode cX11_heard 4 = .ok (.iload_n 2, 1) := by decide +kernel
theorem dX11_heard_5 : decode cX11_heard 5 = .ok (.aload_n 0, 1) := by decide +kernel
theorem dX11_heard_6 : decode cX11_heard 6 = .ok (.getfield 61, 3) := by decide +kernel
theorem dX11_heard_9 : decode cX11_heard 9 = .ok (.if_icmp .ge 31, 3) := by decide +kernel
theorem dX11_heard_12 : decode cX11_heard 12 = .ok (.iload_n 1, 1) := by decide +kernel
theorem dX11_heard_13 : decode cX11_heard 13 = .ok (.aload_n 0, 1) := by decide +kernel
theorem dX11_heard_14 : decode cX11_heard 14 = .ok (.iload_n 2, 1) := by decide +kernel
theorem dX11_heard_15 : decode cX11_heard 15 = .ok (.iconst 4, 1) := by decide +kernel
theorem dX11_heard_16 : decode cX11_heard 16 = .ok (.invokevirtual 145, 3) := by decide +kernel
theorem dX11_heard_19 : decode cX11_heard 19 = .ok (.ifCond .le 7, 3) := by decide +kernel
theorem dX11_heard_22 : decode cX11_heard 22 = .ok (.iconst 1, 1) := by decide +kernel
theorem dX11_heard_23 : decode cX11_heard 23 = .ok (.goto 4, 3) := by decide +kernel
theorem dX11_heard_26 : decode cX11_heard 26 = .ok (.iconst 0, 1) := by decide +kernel
theorem dX11_heard_27 : decode cX11_heard 27 = .ok (.invokestatic 161, 3) := by decide +kernel
theorem dX11_heard_30 : decode cX11_heard 30 = .ok (.iload_n 2, 1) := by decide +kernel
theorem dX11_heard_31 : decode cX11_heard 31 = .ok (.ishl, 1) := by decide +kernel
theorem dX11_heard_32 : decode cX11_heard 32 = .ok (.ior, 1) := by decide +kernel
theorem dX11_heard_33 : decode cX11_heard 33 = .ok (.istore_n 1, 1) := by decide +kernel
theorem dX11_heard_34 : decode cX11_heard 34 = .ok (.iinc 2 1, 3) := by decide +kernel
theorem dX11_heard_37 : decode cX11_heard 37 = .ok (.goto (-33), 3) := by decide +kernel
theorem dX11_heard_40 : decode cX11_heard 40 = .ok (.iload_n 1, 1) := by decide +kernel
theorem dX11_heard_41 : decode cX11_heard 41 = .ok (.ireturn, 1) := by decide +kernel
theorem dX11_away_0 : decode cX11_away 0 = .ok (.iconst 0, 1) := by decide +kernel
theorem dX11_away_1 : decode cX11_away 1 = .ok (.istore_n 1, 1) := by decide +kernel
theorem dX11_away_2 : decode cX11_away 2 = .ok (.iconst 0, 1) := by decide +kernel
theorem dX11_away_3 : decode cX11_away 3 = .ok (.istore_n 2, 1) := by decide +kernel
theorem dX11_away_4 : decode cX11_away 4 = .ok (.iload_n 2, 1) := by decide +kernel
theorem dX11_away_5 : decode cX11_away 5 = .ok (.aload_n 0, 1) := by decide +kernel
theorem dX11_away_6 : decode cX11_away 6 = .ok (.getfield 58, 3) := by decide +kernel
theorem dX11_away_9 : decode cX11_away 9 = .ok (.if_icmp .ge 38, 3) := by decide +kernel
theorem dX11_away_12 : decode cX11_away 12 = .ok (.iload_n 1, 1) := by decide +kernel
theorem dX11_away_13 : decode cX11_away 13 = .ok (.aload_n 0, 1) := by decide +kernel
theorem dX11_away_14 : decode cX11_away 14 = .ok (.iload_n 2, 1) := by decide +kernel
theorem dX11_away_15 : decode cX11_away 15 = .ok (.iconst 3, 1) := by decide +kernel
theorem dX11_away_16 : decode cX11_away 16 = .ok (.invokevirtual 139, 3) := by decide +kernel
theorem dX11_away_19 : decode cX11_away 19 = .ok (.aload_n 0, 1) := by decide +kernel
theorem dX11_away_20 : decode cX11_away 20 = .ok (.getfield 13, 3) := by decide +kernel
theorem dX11_away_23 : decode cX11_away 23 = .ok (.bipush 55, 2) := by decide +kernel
theorem dX11_away_25 : decode cX11_away 25 = .ok (.iaload, 1) := by decide +kernel
theorem dX11_away_26 : decode cX11_away 26 = .ok (.if_icmp .le 7, 3) := by decide +kernel
theorem dX11_away_29 : decode cX11_away 29 = .ok (.iconst 1, 1) := by decide +kernel
theorem dX11_away_30 : decode cX11_away 30 = .ok (.goto 4, 3) := by decide +kernel
theorem dX11_away_33 : decode cX11_away 33 = .ok (.iconst 0, 1) := by decide +kernel
theorem dX11_away_34 : decode cX11_away 34 = .ok (.invokestatic 161, 3) := by decide +kernel
theorem dX11_away_37 : decode cX11_away 37 = .ok (.iload_n 2, 1) := by decide +kernel
theorem dX11_away_38 : decode cX11_away 38 = .ok (.ishl, 1) := by decide +kernel
theorem dX11_away_39 : decode cX11_away 39 = .ok (.ior, 1) := by decide +kernel
theorem dX11_away_40 : decode cX11_away 40 = .ok (.istore_n 1, 1) := by decide +kernel
theorem dX11_away_41 : decode cX11_away 41 = .ok (.iinc 2 1, 3) := by decide +kernel
theorem dX11_away_44 : decode cX11_away 44 = .ok (.goto (-40), 3) := by decide +kernel
theorem dX11_away_47 : decode cX11_away 47 = .ok (.iload_n 1, 1) := by decide +kernel
theorem dX11_away_48 : decode cX11_away 48 = .ok (.ireturn, 1) := by decide +kernel
theorem dX11_firstFor_0 : decode cX11_firstFor 0 = .ok (.iconst 0, 1) := by decide +kernel
theorem dX11_firstFor_1 : decode cX11_firstFor 1 = .ok (.istore_n 2, 1) := by decide +kernel
theorem dX11_firstFor_2 : decode cX11_firstFor 2 = .ok (.iload_n 2, 1) := by decide +kernel
theorem dX11_firstFor_3 : decode cX11_firstFor 3 = .ok (.aload_n 0, 1) := by decide +kernel
theorem dX11_firstFor_4 : decode cX11_firstFor 4 = .ok (.getfield 61, 3) := by decide +kernel
theorem dX11_firstFor_7 : decode cX11_firstFor 7 = .ok (.if_icmp .ge 26, 3) := by decide +kernel
theorem dX11_firstFor_10 : decode cX11_firstFor 10 = .ok (.aload_n 0, 1) := by decide +kernel
theorem dX11_firstFor_11 : decode cX11_firstFor 11 = .ok (.iload_n 1, 1) := by decide +kernel
theorem dX11_firstFor_12 : decode cX11_firstFor 12 = .ok (.iload_n 2, 1) := by decide +kernel
theorem dX11_firstFor_13 : decode cX11_firstFor 13 = .ok (.aload_n 0, 1) := by decide +kernel
theorem dX11_firstFor_14 : decode cX11_firstFor 14 = .ok (.iload_n 2, 1) := by decide +kernel
theorem dX11_firstFor_15 : decode cX11_firstFor 15 = .ok (.iconst 1, 1) := by decide +kernel
theorem dX11_firstFor_16 : decode cX11_firstFor 16 = .ok (.invokevirtual 145, 3) := by decide +kernel
theorem dX11_firstFor_19 : decode cX11_firstFor 19 = .ok (.invokevirtual 165, 3) := by decide +kernel
theorem dX11_firstFor_22 : decode cX11_firstFor 22 = .ok (.ifCond .eq 5, 3) := by decide +kernel
theorem dX11_firstFor_25 : decode cX11_firstFor 25 = .ok (.iload_n 2, 1) := by decide +kernel
theorem dX11_firstFor_26 : decode cX11_firstFor 26 = .ok (.ireturn, 1) := by decide +kernel
theorem dX11_firstFor_27 : decode cX11_firstFor 27 = .ok (.iinc 2 1, 3) := by decide +kernel
theorem dX11_firstFor_30 : decode cX11_firstFor 30 = .ok (.goto (-28), 3) := by decide +kernel
theorem dX11_firstFor_33 : decode cX11_firstFor 33 = .ok (.bipush (-4), 2) := by decide +kernel
theorem dX11_firstFor_35 : decode cX11_firstFor 35 = .ok (.ireturn, 1) := by decide +kernel
theorem dX11_docketGoes_0 : decode cX11_docketGoes 0 = .ok (.iconst 0, 1) := by decide +kernel
theorem dX11_docketGoes_1 : decode cX11_docketGoes 1 = .ok (.istore_n 1, 1) := by decide +kernel
theorem dX11_docketGoes_2 : decode cX11_docketGoes 2 = .ok (.iload_n 1, 1) := by decide +kernel
theorem dX11_docketGoes_3 : decode cX11_docketGoes 3 = .ok (.aload_n 0, 1) := by decide +kernel
theorem dX11_docketGoes_4 : decode cX11_docketGoes 4 = .ok (.getfield 58, 3) := by decide +kernel
theorem dX11_docketGoes_7 : decode cX11_docketGoes 7 = .ok (.if_icmp .ge 80, 3) := by decide +kernel
theorem dX11_docketGoes_10 : decode cX11_docketGoes 10 = .ok (.aload_n 0, 1) := by decide +kernel
theorem dX11_docketGoes_11 : decode cX11_docketGoes 11 = .ok (.getfield 26, 3) := by decide +kernel
theorem dX11_docketGoes_14 : decode cX11_docketGoes 14 = .ok (.iload_n 1, 1) := by decide +kernel
theorem dX11_docketGoes_15 : decode cX11_docketGoes 15 = .ok (.iaload, 1) := by decide +kernel
theorem dX11_docketGoes_16 : decode cX11_docketGoes 16 = .ok (.istore_n 2, 1) := by decide +kernel
theorem dX11_docketGoes_17 : decode cX11_docketGoes 17 = .ok (.aload_n 0, 1) := by decide +kernel
theorem dX11_docketGoes_18 : decode cX11_docketGoes 18 = .ok (.getfield 168, 3) := by decide +kernel
theorem dX11_docketGoes_21 : decode cX11_docketGoes 21 = .ok (.iload_n 2, 1) := by decide +kernel
theorem dX11_docketGoes_22 : decode cX11_docketGoes 22 = .ok (.ishr, 1) := by decide +kernel
theorem dX11_docketGoes_23 : decode cX11_docketGoes 23 = .ok (.iconst 1, 1) := by decide +kernel
theorem dX11_docketGoes_24 : decode cX11_docketGoes 24 = .ok (.iand, 1) := by decide +kernel
theorem dX11_docketGoes_25 : decode cX11_docketGoes 25 = .ok (.iconst 1, 1) := by decide +kernel
theorem dX11_docketGoes_26 : decode cX11_docketGoes 26 = .ok (.if_icmp .ne 8, 3) := by decide +kernel
theorem dX11_docketGoes_29 : decode cX11_docketGoes 29 = .ok (.bipush (-4), 2) := by decide +kernel
theorem dX11_docketGoes_31 : decode cX11_docketGoes 31 = .ok (.goto 8, 3) := by decide +kernel
theorem dX11_docketGoes_34 : decode cX11_docketGoes 34 = .ok (.aload_n 0, 1) := by decide +kernel
theorem dX11_docketGoes_35 : decode cX11_docketGoes 35 = .ok (.iload_n 2, 1) := by decide +kernel
theorem dX11_docketGoes_36 : decode cX11_docketGoes 36 = .ok (.invokevirtual 171, 3) := by decide +kernel
theorem dX11_docketGoes_39 : decode cX11_docketGoes 39 = .ok (.istore_n 3, 1) := by decide +kernel
theorem dX11_docketGoes_40 : decode cX11_docketGoes 40 = .ok (.iload_n 3, 1) := by decide +kernel
theorem dX11_docketGoes_41 : decode cX11_docketGoes 41 = .ok (.bipush (-4), 2) := by decide +kernel
theorem dX11_docketGoes_43 : decode cX11_docketGoes 43 = .ok (.if_icmp .eq 15, 3) := by decide +kernel
theorem dX11_docketGoes_46 : decode cX11_docketGoes 46 = .ok (.aload_n 0, 1) := by decide +kernel
theorem dX11_docketGoes_47 : decode cX11_docketGoes 47 = .ok (.iload_n 2, 1) := by decide +kernel
theorem dX11_docketGoes_48 : decode cX11_docketGoes 48 = .ok (.iload_n 3, 1) := by decide +kernel
theorem dX11_docketGoes_49 : decode cX11_docketGoes 49 = .ok (.aload_n 0, 1) := by decide +kernel
theorem dX11_docketGoes_50 : decode cX11_docketGoes 50 = .ok (.iload_n 3, 1) := by decide +kernel
theorem dX11_docketGoes_51 : decode cX11_docketGoes 51 = .ok (.iconst 1, 1) := by decide +kernel
theorem dX11_docketGoes_52 : decode cX11_docketGoes 52 = .ok (.invokevirtual 145, 3) := by decide +kernel
theorem dX11_docketGoes_55 : decode cX11_docketGoes 55 = .ok (.invokevirtual 174, 3) := by decide +kernel
theorem dX11_docketGoes_58 : decode cX11_docketGoes 58 = .ok (.aload_n 0, 1) := by decide +kernel
theorem dX11_docketGoes_59 : decode cX11_docketGoes 59 = .ok (.dup, 1) := by decide +kernel
theorem dX11_docketGoes_60 : decode cX11_docketGoes 60 = .ok (.getfield 177, 3) := by decide +kernel
theorem dX11_docketGoes_63 : decode cX11_docketGoes 63 = .ok (.iload_n 3, 1) := by decide +kernel
theorem dX11_docketGoes_64 : decode cX11_docketGoes 64 = .ok (.bipush (-4), 2) := by decide +kernel
theorem dX11_docketGoes_66 : decode cX11_docketGoes 66 = .ok (.if_icmp .ne 7, 3) := by decide +kernel
theorem dX11_docketGoes_69 : decode cX11_docketGoes 69 = .ok (.iconst 1, 1) := by decide +kernel
theorem dX11_docketGoes_70 : decode cX11_docketGoes 70 = .ok (.goto 4, 3) := by decide +kernel
theorem dX11_docketGoes_73 : decode cX11_docketGoes 73 = .ok (.iconst 0, 1) := by decide +kernel
theorem dX11_docketGoes_74 : decode cX11_docketGoes 74 = .ok (.invokestatic 161, 3) := by decide +kernel
theorem dX11_docketGoes_77 : decode cX11_docketGoes 77 = .ok (.iadd, 1) := by decide +kernel
theorem dX11_docketGoes_78 : decode cX11_docketGoes 78 = .ok (.putfield 177, 3) := by decide +kernel
theorem dX11_docketGoes_81 : decode cX11_docketGoes 81 = .ok (.iinc 1 1, 3) := by decide +kernel
theorem dX11_docketGoes_84 : decode cX11_docketGoes 84 = .ok (.goto (-82), 3) := by decide +kernel
theorem dX11_docketGoes_87 : decode cX11_docketGoes 87 = .ok (.aload_n 0, 1) := by decide +kernel
theorem dX11_docketGoes_88 : decode cX11_docketGoes 88 = .ok (.invokevirtual 180, 3) := by decide +kernel
theorem dX11_docketGoes_91 : decode cX11_docketGoes 91 = .ok (.return_, 1) := by decide +kernel
theorem dX11_bitsOf_0 : decode cX11_bitsOf 0 = .ok (.iconst 0, 1) := by decide +kernel
theorem dX11_bitsOf_1 : decode cX11_bitsOf 1 = .ok (.istore_n 1, 1) := by decide +kernel
theorem dX11_bitsOf_2 : decode cX11_bitsOf 2 = .ok (.iconst 0, 1) := by decide +kernel
theorem dX11_bitsOf_3 : decode cX11_bitsOf 3 = .ok (.istore_n 2, 1) := by decide +kernel
theorem dX11_bitsOf_4 : decode cX11_bitsOf 4 = .ok (.iload_n 2, 1) := by decide +kernel
theorem dX11_bitsOf_5 : decode cX11_bitsOf 5 = .ok (.bipush 8, 2) := by decide +kernel
theorem dX11_bitsOf_7 : decode cX11_bitsOf 7 = .ok (.if_icmp .ge 17, 3) := by decide +kernel
theorem dX11_bitsOf_10 : decode cX11_bitsOf 10 = .ok (.iload_n 1, 1) := by decide +kernel
theorem dX11_bitsOf_11 : decode cX11_bitsOf 11 = .ok (.iload_n 0, 1) := by decide +kernel
theorem dX11_bitsOf_12 : decode cX11_bitsOf 12 = .ok (.iload_n 2, 1) := by decide +kernel
theorem dX11_bitsOf_13 : decode cX11_bitsOf 13 = .ok (.ishr, 1) := by decide +kernel
theorem dX11_bitsOf_14 : decode cX11_bitsOf 14 = .ok (.iconst 1, 1) := by decide +kernel
theorem dX11_bitsOf_15 : decode cX11_bitsOf 15 = .ok (.iand, 1) := by decide +kernel
theorem dX11_bitsOf_16 : decode cX11_bitsOf 16 = .ok (.iadd, 1) := by decide +kernel
theorem dX11_bitsOf_17 : decode cX11_bitsOf 17 = .ok (.istore_n 1, 1) := by decide +kernel
theorem dX11_bitsOf_18 : decode cX11_bitsOf 18 = .ok (.iinc 2 1, 3) := by decide +kernel
theorem dX11_bitsOf_21 : decode cX11_bitsOf 21 = .ok (.goto (-17), 3) := by decide +kernel
theorem dX11_bitsOf_24 : decode cX11_bitsOf 24 = .ok (.iload_n 1, 1) := by decide +kernel
theorem dX11_bitsOf_25 : decode cX11_bitsOf 25 = .ok (.ireturn, 1) := by decide +kernel
theorem dX11_docketHears_0 : decode cX11_docketHears 0 = .ok (.aload_n 0, 1) := by decide +kernel
theorem dX11_docketHears_1 : decode cX11_docketHears 1 = .ok (.invokevirtual 183, 3) := by decide +kernel
theorem dX11_docketHears_4 : decode cX11_docketHears 4 = .ok (.invokestatic 186, 3) := by decide +kernel
theorem dX11_docketHears_7 : decode cX11_docketHears 7 = .ok (.istore_n 2, 1) := by decide +kernel
theorem dX11_docketHears_8 : decode cX11_docketHears 8 = .ok (.iconst 0, 1) := by decide +kernel
theorem dX11_docketHears_9 : decode cX11_docketHears 9 = .ok (.istore_n 3, 1) := by decide +kernel
theorem dX11_docketHears_10 : decode cX11_docketHears 10 = .ok (.iload_n 3, 1) := by decide +kernel
theorem dX11_docketHears_11 : decode cX11_docketHears 11 = .ok (.iload_n 1, 1) := by decide +kernel
theorem dX11_docketHears_12 : decode cX11_docketHears 12 = .ok (.if_icmp .ge 13, 3) := by decide +kernel
theorem dX11_docketHears_15 : decode cX11_docketHears 15 = .ok (.aload_n 0, 1) := by decide +kernel
theorem dX11_docketHears_16 : decode cX11_docketHears 16 = .ok (.invokevirtual 189, 3) := by decide +kernel
theorem dX11_docketHears_19 : decode cX11_docketHears 19 = .ok (.iinc 3 1, 3) := by decide +kernel
theorem dX11_docketHears_22 : decode cX11_docketHears 22 = .ok (.goto (-12), 3) := by decide +kernel
theorem dX11_docketHears_25 : decode cX11_docketHears 25 = .ok (.aload_n 0, 1) := by decide +kernel
theorem dX11_docketHears_26 : decode cX11_docketHears 26 = .ok (.invokevirtual 183, 3) := by decide +kernel
theorem dX11_docketHears_29 : decode cX11_docketHears 29 = .ok (.invokestatic 186, 3) := by decide +kernel
theorem dX11_docketHears_32 : decode cX11_docketHears 32 = .ok (.iload_n 2, 1) := by decide +kernel
theorem dX11_docketHears_33 : decode cX11_docketHears 33 = .ok (.isub, 1) := by decide +kernel
theorem dX11_docketHears_34 : decode cX11_docketHears 34 = .ok (.ireturn, 1) := by decide +kernel
theorem dX11_allOf_0 : decode cX11_allOf 0 = .ok (.iconst 0, 1) := by decide +kernel
theorem dX11_allOf_1 : decode cX11_allOf 1 = .ok (.istore_n 2, 1) := by decide +kernel
theorem dX11_allOf_2 : decode cX11_allOf 2 = .ok (.iconst 0, 1) := by decide +kernel
theorem dX11_allOf_3 : decode cX11_allOf 3 = .ok (.istore_n 3, 1) := by decide +kernel
theorem dX11_allOf_4 : decode cX11_allOf 4 = .ok (.iload_n 3, 1) := by decide +kernel
theorem dX11_allOf_5 : decode cX11_allOf 5 = .ok (.aload_n 0, 1) := by decide +kernel
theorem dX11_allOf_6 : decode cX11_allOf 6 = .ok (.getfield 58, 3) := by decide +kernel
theorem dX11_allOf_9 : decode cX11_allOf 9 = .ok (.if_icmp .ge 18, 3) := by decide +kernel
theorem dX11_allOf_12 : decode cX11_allOf 12 = .ok (.iload_n 2, 1) := by decide +kernel
theorem dX11_allOf_13 : decode cX11_allOf 13 = .ok (.aload_n 0, 1) := by decide +kernel
theorem dX11_allOf_14 : decode cX11_allOf 14 = .ok (.iload_n 3, 1) := by decide +kernel
theorem dX11_allOf_15 : decode cX11_allOf 15 = .ok (.iload_n 1, 1) := by decide +kernel
theorem dX11_allOf_16 : decode cX11_allOf 16 = .ok (.invokevirtual 139, 3) := by decide +kernel
theorem dX11_allOf_19 : decode cX11_allOf 19 = .ok (.iadd, 1) := by decide +kernel
theorem dX11_allOf_20 : decode cX11_allOf 20 = .ok (.istore_n 2, 1) := by decide +kernel
theorem dX11_allOf_21 : decode cX11_allOf 21 = .ok (.iinc 3 1, 3) := by decide +kernel
theorem dX11_allOf_24 : decode cX11_allOf 24 = .ok (.goto (-20), 3) := by decide +kernel
theorem dX11_allOf_27 : decode cX11_allOf 27 = .ok (.iload_n 2, 1) := by decide +kernel
theorem dX11_allOf_28 : decode cX11_allOf 28 = .ok (.ireturn, 1) := by decide +kernel
theorem dX11_rule_0 : decode cX11_rule 0 = .ok (.aload_n 0, 1) := by decide +kernel
theorem dX11_rule_1 : decode cX11_rule 1 = .ok (.invokevirtual 192, 3) := by decide +kernel
theorem dX11_rule_4 : decode cX11_rule 4 = .ok (.iconst 0, 1) := by decide +kernel
theorem dX11_rule_5 : decode cX11_rule 5 = .ok (.istore_n 2, 1) := by decide +kernel
theorem dX11_rule_6 : decode cX11_rule 6 = .ok (.iconst 0, 1) := by decide +kernel
theorem dX11_rule_7 : decode cX11_rule 7 = .ok (.istore_n 3, 1) := by decide +kernel
theorem dX11_rule_8 : decode cX11_rule 8 = .ok (.iload_n 3, 1) := by decide +kernel
theorem dX11_rule_9 : decode cX11_rule 9 = .ok (.aload_n 0, 1) := by decide +kernel
theorem dX11_rule_10 : decode cX11_rule 10 = .ok (.getfield 61, 3) := by decide +kernel
theorem dX11_rule_13 : decode cX11_rule 13 = .ok (.if_icmp .ge 18, 3) := by decide +kernel
theorem dX11_rule_16 : decode cX11_rule 16 = .ok (.iload_n 2, 1) := by decide +kernel
theorem dX11_rule_17 : decode cX11_rule 17 = .ok (.aload_n 0, 1) := by decide +kernel
theorem dX11_rule_18 : decode cX11_rule 18 = .ok (.iload_n 3, 1) := by decide +kernel
theorem dX11_rule_19 : decode cX11_rule 19 = .ok (.iconst 4, 1) := by decide +kernel
theorem dX11_rule_20 : decode cX11_rule 20 = .ok (.invokevirtual 145, 3) := by decide +kernel
theorem dX11_rule_23 : decode cX11_rule 23 = .ok (.iadd, 1) := by decide +kernel
theorem dX11_rule_24 : decode cX11_rule 24 = .ok (.istore_n 2, 1) := by decide +kernel
theorem dX11_rule_25 : decode cX11_rule 25 = .ok (.iinc 3 1, 3) := by decide +kernel
theorem dX11_rule_28 : decode cX11_rule 28 = .ok (.goto (-20), 3) := by decide +kernel
theorem dX11_rule_31 : decode cX11_rule 31 = .ok (.iload_n 1, 1) := by decide +kernel
theorem dX11_rule_32 : decode cX11_rule 32 = .ok (.tableswitch 78 0 6 #[44, 49, 54, 54, 66, 71, 76], 44) := by decide +kernel
theorem dX11_rule_76 : decode cX11_rule 76 = .ok (.aload_n 0, 1) := by decide +kernel
theorem dX11_rule_77 : decode cX11_rule 77 = .ok (.getfield 58, 3) := by decide +kernel
theorem dX11_rule_80 : decode cX11_rule 80 = .ok (.ireturn, 1) := by decide +kernel
theorem dX11_rule_81 : decode cX11_rule 81 = .ok (.aload_n 0, 1) := by decide +kernel
theorem dX11_rule_82 : decode cX11_rule 82 = .ok (.getfield 61, 3) := by decide +kernel
theorem dX11_rule_85 : decode cX11_rule 85 = .ok (.ireturn, 1) := by decide +kernel
theorem dX11_rule_86 : decode cX11_rule 86 = .ok (.aload_n 0, 1) := by decide +kernel
theorem dX11_rule_87 : decode cX11_rule 87 = .ok (.getfield 7, 3) := by decide +kernel
theorem dX11_rule_90 : decode cX11_rule 90 = .ok (.bipush 55, 2) := by decide +kernel
theorem dX11_rule_92 : decode cX11_rule 92 = .ok (.iload_n 1, 1) := by decide +kernel
theorem dX11_rule_93 : decode cX11_rule 93 = .ok (.iadd, 1) := by decide +kernel
theorem dX11_rule_94 : decode cX11_rule 94 = .ok (.iconst 2, 1) := by decide +kernel
theorem dX11_rule_95 : decode cX11_rule 95 = .ok (.isub, 1) := by decide +kernel
theorem dX11_rule_96 : decode cX11_rule 96 = .ok (.iaload, 1) := by decide +kernel
theorem dX11_rule_97 : decode cX11_rule 97 = .ok (.ireturn, 1) := by decide +kernel
theorem dX11_rule_98 : decode cX11_rule 98 = .ok (.aload_n 0, 1) := by decide +kernel
theorem dX11_rule_99 : decode cX11_rule 99 = .ok (.invokevirtual 183, 3) := by decide +kernel
theorem dX11_rule_102 : decode cX11_rule 102 = .ok (.ireturn, 1) := by decide +kernel
theorem dX11_rule_103 : decode cX11_rule 103 = .ok (.aload_n 0, 1) := by decide +kernel
theorem dX11_rule_104 : decode cX11_rule 104 = .ok (.invokevirtual 195, 3) := by decide +kernel
theorem dX11_rule_107 : decode cX11_rule 107 = .ok (.ireturn, 1) := by decide +kernel
theorem dX11_rule_108 : decode cX11_rule 108 = .ok (.iload_n 2, 1) := by decide +kernel
theorem dX11_rule_109 : decode cX11_rule 109 = .ok (.ireturn, 1) := by decide +kernel
theorem dX11_rule_110 : decode cX11_rule 110 = .ok (.iconst (-1), 1) := by decide +kernel
theorem dX11_rule_111 : decode cX11_rule 111 = .ok (.ireturn, 1) := by decide +kernel
theorem dX11_judge_0 : decode cX11_judge 0 = .ok (.aload_n 0, 1) := by decide +kernel
theorem dX11_judge_1 : decode cX11_judge 1 = .ok (.iload_n 1, 1) := by decide +kernel
theorem dX11_judge_2 : decode cX11_judge 2 = .ok (.invokevirtual 198, 3) := by decide +kernel
theorem dX11_judge_5 : decode cX11_judge 5 = .ok (.ifCond .eq 15, 3) := by decide +kernel
theorem dX11_judge_8 : decode cX11_judge 8 = .ok (.iload_n 2, 1) := by decide +kernel
theorem dX11_judge_9 : decode cX11_judge 9 = .ok (.i2l, 1) := by decide +kernel
theorem dX11_judge_10 : decode cX11_judge 10 = .ok (.lconst 0, 1) := by decide +kernel
theorem dX11_judge_11 : decode cX11_judge 11 = .ok (.ldc2_w 202, 3) := by decide +kernel
theorem dX11_judge_14 : decode cX11_judge 14 = .ok (.invokestatic 66, 3) := by decide +kernel
theorem dX11_judge_17 : decode cX11_judge 17 = .ok (.ifCond .ne 5, 3) := by decide +kernel
theorem dX11_judge_20 : decode cX11_judge 20 = .ok (.iconst (-1), 1) := by decide +kernel
theorem dX11_judge_21 : decode cX11_judge 21 = .ok (.ireturn, 1) := by decide +kernel
theorem dX11_judge_22 : decode cX11_judge 22 = .ok (.aload_n 0, 1) := by decide +kernel
theorem dX11_judge_23 : decode cX11_judge 23 = .ok (.invokevirtual 192, 3) := by decide +kernel
theorem dX11_judge_26 : decode cX11_judge 26 = .ok (.iconst 0, 1) := by decide +kernel
theorem dX11_judge_27 : decode cX11_judge 27 = .ok (.istore_n 3, 1) := by decide +kernel
theorem dX11_judge_28 : decode cX11_judge 28 = .ok (.iconst 0, 1) := by decide +kernel
theorem dX11_judge_29 : decode cX11_judge 29 = .ok (.istore 4, 2) := by decide +kernel
theorem dX11_judge_31 : decode cX11_judge 31 = .ok (.iload 4, 2) := by decide +kernel
theorem dX11_judge_33 : decode cX11_judge 33 = .ok (.aload_n 0, 1) := by decide +kernel
theorem dX11_judge_34 : decode cX11_judge 34 = .ok (.getfield 61, 3) := by decide +kernel
theorem dX11_judge_37 : decode cX11_judge 37 = .ok (.if_icmp .ge 34, 3) := by decide +kernel
theorem dX11_judge_40 : decode cX11_judge 40 = .ok (.iload_n 3, 1) := by decide +kernel
theorem dX11_judge_41 : decode cX11_judge 41 = .ok (.aload_n 0, 1) := by decide +kernel
theorem dX11_judge_42 : decode cX11_judge 42 = .ok (.iload 4, 2) := by decide +kernel
theorem dX11_judge_44 : decode cX11_judge 44 = .ok (.iconst 5, 1) := by decide +kernel
theorem dX11_judge_45 : decode cX11_judge 45 = .ok (.invokevirtual 145, 3) := by decide +kernel
theorem dX11_judge_48 : decode cX11_judge 48 = .ok (.iload_n 1, 1) := by decide +kernel
theorem dX11_judge_49 : decode cX11_judge 49 = .ok (.if_icmp .ne 7, 3) := by decide +kernel
theorem dX11_judge_52 : decode cX11_judge 52 = .ok (.iconst 1, 1) := by decide +kernel
theorem dX11_judge_53 : decode cX11_judge 53 = .ok (.goto 4, 3) := by decide +kernel
theorem dX11_judge_56 : decode cX11_judge 56 = .ok (.iconst 0, 1) := by decide +kernel
theorem dX11_judge_57 : decode cX11_judge 57 = .ok (.invokestatic 161, 3) := by decide +kernel
theorem dX11_judge_60 : decode cX11_judge 60 = .ok (.iload 4, 2) := by decide +kernel
theorem dX11_judge_62 : decode cX11_judge 62 = .ok (.ishl, 1) := by decide +kernel
theorem dX11_judge_63 : decode cX11_judge 63 = .ok (.ior, 1) := by decide +kernel
theorem dX11_judge_64 : decode cX11_judge 64 = .ok (.istore_n 3, 1) := by decide +kernel
theorem dX11_judge_65 : decode cX11_judge 65 = .ok (.iinc 4 1, 3) := by decide +kernel
theorem dX11_judge_68 : decode cX11_judge 68 = .ok (.goto (-37), 3) := by decide +kernel
theorem dX11_judge_71 : decode cX11_judge 71 = .ok (.iload_n 2, 1) := by decide +kernel
theorem dX11_judge_72 : decode cX11_judge 72 = .ok (.iconst 5, 1) := by decide +kernel
theorem dX11_judge_73 : decode cX11_judge 73 = .ok (.if_icmp .ge 12, 3) := by decide +kernel
theorem dX11_judge_76 : decode cX11_judge 76 = .ok (.aload_n 0, 1) := by decide +kernel
theorem dX11_judge_77 : decode cX11_judge 77 = .ok (.iload_n 1, 1) := by decide +kernel
theorem dX11_judge_78 : decode cX11_judge 78 = .ok (.iload_n 2, 1) := by decide +kernel
theorem dX11_judge_79 : decode cX11_judge 79 = .ok (.invokevirtual 139, 3) := by decide +kernel
theorem dX11_judge_82 : decode cX11_judge 82 = .ok (.goto 4, 3) := by decide +kernel
theorem dX11_judge_85 : decode cX11_judge 85 = .ok (.iload_n 3, 1) := by decide +kernel
theorem dX11_judge_86 : decode cX11_judge 86 = .ok (.ireturn, 1) := by decide +kernel
theorem dX11_suit_0 : decode cX11_suit 0 = .ok (.aload_n 0, 1) := by decide +kernel
theorem dX11_suit_1 : decode cX11_suit 1 = .ok (.iload_n 1, 1) := by decide +kernel
theorem dX11_suit_2 : decode cX11_suit 2 = .ok (.invokevirtual 204, 3) := by decide +kernel
theorem dX11_suit_5 : decode cX11_suit 5 = .ok (.ifCond .eq 32, 3) := by decide +kernel
theorem dX11_suit_8 : decode cX11_suit 8 = .ok (.iload_n 2, 1) := by decide +kernel
theorem dX11_suit_9 : decode cX11_suit 9 = .ok (.i2l, 1) := by decide +kernel
theorem dX11_suit_10 : decode cX11_suit 10 = .ok (.lconst 0, 1) := by decide +kernel
theorem dX11_suit_11 : decode cX11_suit 11 = .ok (.ldc2_w 202, 3) := by decide +kernel
theorem dX11_suit_14 : decode cX11_suit 14 = .ok (.invokestatic 66, 3) := by decide +kernel
theorem dX11_suit_17 : decode cX11_suit 17 = .ok (.ifCond .eq 20, 3) := by decide +kernel
theorem dX11_suit_20 : decode cX11_suit 20 = .ok (.aload_n 0, 1) := by decide +kernel
theorem dX11_suit_21 : decode cX11_suit 21 = .ok (.getfield 7, 3) := by decide +kernel
theorem dX11_suit_24 : decode cX11_suit 24 = .ok (.bipush 20, 2) := by decide +kernel
theorem dX11_suit_26 : decode cX11_suit 26 = .ok (.bipush 7, 2) := by decide +kernel
theorem dX11_suit_28 : decode cX11_suit 28 = .ok (.iload_n 1, 1) := by decide +kernel
theorem dX11_suit_29 : decode cX11_suit 29 = .ok (.imul, 1) := by decide +kernel
theorem dX11_suit_30 : decode cX11_suit 30 = .ok (.iadd, 1) := by decide +kernel
theorem dX11_suit_31 : decode cX11_suit 31 = .ok (.iload_n 2, 1) := by decide +kernel
theorem dX11_suit_32 : decode cX11_suit 32 = .ok (.iadd, 1) := by decide +kernel
theorem dX11_suit_33 : decode cX11_suit 33 = .ok (.iaload, 1) := by decide +kernel
theorem dX11_suit_34 : decode cX11_suit 34 = .ok (.goto 4, 3) := by decide +kernel
theorem dX11_suit_37 : decode cX11_suit 37 = .ok (.iconst (-1), 1) := by decide +kernel
theorem dX11_suit_38 : decode cX11_suit 38 = .ok (.ireturn, 1) := by decide +kernel
theorem dX11_tenth_0 : decode cX11_tenth 0 = .ok (.aload_n 0, 1) := by decide +kernel
theorem dX11_tenth_1 : decode cX11_tenth 1 = .ok (.iload_n 1, 1) := by decide +kernel
theorem dX11_tenth_2 : decode cX11_tenth 2 = .ok (.invokevirtual 198, 3) := by decide +kernel
theorem dX11_tenth_5 : decode cX11_tenth 5 = .ok (.ifCond .eq 32, 3) := by decide +kernel
theorem dX11_tenth_8 : decode cX11_tenth 8 = .ok (.iload_n 2, 1) := by decide +kernel
theorem dX11_tenth_9 : decode cX11_tenth 9 = .ok (.i2l, 1) := by decide +kernel
theorem dX11_tenth_10 : decode cX11_tenth 10 = .ok (.lconst 1, 1) := by decide +kernel
theorem dX11_tenth_11 : decode cX11_tenth 11 = .ok (.ldc2_w 207, 3) := by decide +kernel
theorem dX11_tenth_14 : decode cX11_tenth 14 = .ok (.invokestatic 66, 3) := by decide +kernel
theorem dX11_tenth_17 : decode cX11_tenth 17 = .ok (.ifCond .eq 20, 3) := by decide +kernel
theorem dX11_tenth_20 : decode cX11_tenth 20 = .ok (.aload_n 0, 1) := by decide +kernel
theorem dX11_tenth_21 : decode cX11_tenth 21 = .ok (.getfield 7, 3) := by decide +kernel
theorem dX11_tenth_24 : decode cX11_tenth 24 = .ok (.iconst 5, 1) := by decide +kernel
theorem dX11_tenth_25 : decode cX11_tenth 25 = .ok (.iload_n 1, 1) := by decide +kernel
theorem dX11_tenth_26 : decode cX11_tenth 26 = .ok (.imul, 1) := by decide +kernel
theorem dX11_tenth_27 : decode cX11_tenth 27 = .ok (.iconst 0, 1) := by decide +kernel
theorem dX11_tenth_28 : decode cX11_tenth 28 = .ok (.iadd, 1) := by decide +kernel
theorem dX11_tenth_29 : decode cX11_tenth 29 = .ok (.iaload, 1) := by decide +kernel
theorem dX11_tenth_30 : decode cX11_tenth 30 = .ok (.iload_n 2, 1) := by decide +kernel
theorem dX11_tenth_31 : decode cX11_tenth 31 = .ok (.invokestatic 142, 3) := by decide +kernel
theorem dX11_tenth_34 : decode cX11_tenth 34 = .ok (.goto 4, 3) := by decide +kernel
theorem dX11_tenth_37 : decode cX11_tenth 37 = .ok (.iconst (-1), 1) := by decide +kernel
theorem dX11_tenth_38 : decode cX11_tenth 38 = .ok (.ireturn, 1) := by decide +kernel
theorem dX11_becomes_0 : decode cX11_becomes 0 = .ok (.aload_n 0, 1) := by decide +kernel
theorem dX11_becomes_1 : decode cX11_becomes 1 = .ok (.getfield 7, 3) := by decide +kernel
theorem dX11_becomes_4 : decode cX11_becomes 4 = .ok (.iload_n 1, 1) := by decide +kernel
theorem dX11_becomes_5 : decode cX11_becomes 5 = .ok (.iaload, 1) := by decide +kernel
theorem dX11_becomes_6 : decode cX11_becomes 6 = .ok (.istore_n 3, 1) := by decide +kernel
theorem dX11_becomes_7 : decode cX11_becomes 7 = .ok (.aload_n 0, 1) := by decide +kernel
theorem dX11_becomes_8 : decode cX11_becomes 8 = .ok (.getfield 7, 3) := by decide +kernel
theorem dX11_becomes_11 : decode cX11_becomes 11 = .ok (.iload_n 1, 1) := by decide +kernel
theorem dX11_becomes_12 : decode cX11_becomes 12 = .ok (.iload_n 2, 1) := by decide +kernel
theorem dX11_becomes_13 : decode cX11_becomes 13 = .ok (.iastore, 1) := by decide +kernel
theorem dX11_becomes_14 : decode cX11_becomes 14 = .ok (.iload_n 3, 1) := by decide +kernel
theorem dX11_becomes_15 : decode cX11_becomes 15 = .ok (.ireturn, 1) := by decide +kernel
theorem dX11_alter_0 : decode cX11_alter 0 = .ok (.iload_n 2, 1) := by decide +kernel
theorem dX11_alter_1 : decode cX11_alter 1 = .ok (.ifCond .ne 15, 3) := by decide +kernel
theorem dX11_alter_4 : decode cX11_alter 4 = .ok (.iload_n 3, 1) := by decide +kernel
theorem dX11_alter_5 : decode cX11_alter 5 = .ok (.i2l, 1) := by decide +kernel
theorem dX11_alter_6 : decode cX11_alter 6 = .ok (.lconst 0, 1) := by decide +kernel
theorem dX11_alter_7 : decode cX11_alter 7 = .ok (.ldc2_w 209, 3) := by decide +kernel
theorem dX11_alter_10 : decode cX11_alter 10 = .ok (.invokestatic 66, 3) := by decide +kernel
theorem dX11_alter_13 : decode cX11_alter 13 = .ok (.goto 42, 3) := by decide +kernel
theorem dX11_alter_16 : decode cX11_alter 16 = .ok (.iload_n 2, 1) := by decide +kernel
theorem dX11_alter_17 : decode cX11_alter 17 = .ok (.iconst 1, 1) := by decide +kernel
theorem dX11_alter_18 : decode cX11_alter 18 = .ok (.if_icmp .ne 15, 3) := by decide +kernel
theorem dX11_alter_21 : decode cX11_alter 21 = .ok (.iload_n 3, 1) := by decide +kernel
theorem dX11_alter_22 : decode cX11_alter 22 = .ok (.i2l, 1) := by decide +kernel
theorem dX11_alter_23 : decode cX11_alter 23 = .ok (.lconst 1, 1) := by decide +kernel
theorem dX11_alter_24 : decode cX11_alter 24 = .ok (.ldc2_w 211, 3) := by decide +kernel
theorem dX11_alter_27 : decode cX11_alter 27 = .ok (.invokestatic 66, 3) := by decide +kernel
theorem dX11_alter_30 : decode cX11_alter 30 = .ok (.goto 25, 3) := by decide +kernel
theorem dX11_alter_33 : decode cX11_alter 33 = .ok (.iload_n 2, 1) := by decide +kernel
theorem dX11_alter_34 : decode cX11_alter 34 = .ok (.iconst 2, 1) := by decide +kernel
theorem dX11_alter_35 : decode cX11_alter 35 = .ok (.if_icmp .ne 19, 3) := by decide +kernel
theorem dX11_alter_38 : decode cX11_alter 38 = .ok (.iload_n 3, 1) := by decide +kernel
theorem dX11_alter_39 : decode cX11_alter 39 = .ok (.i2l, 1) := by decide +kernel
theorem dX11_alter_40 : decode cX11_alter 40 = .ok (.lconst 0, 1) := by decide +kernel
theorem dX11_alter_41 : decode cX11_alter 41 = .ok (.ldc2_w 213, 3) := by decide +kernel
theorem dX11_alter_44 : decode cX11_alter 44 = .ok (.invokestatic 66, 3) := by decide +kernel
theorem dX11_alter_47 : decode cX11_alter 47 = .ok (.ifCond .eq 7, 3) := by decide +kernel
theorem dX11_alter_50 : decode cX11_alter 50 = .ok (.iconst 1, 1) := by decide +kernel
theorem dX11_alter_51 : decode cX11_alter 51 = .ok (.goto 4, 3) := by decide +kernel
theorem dX11_alter_54 : decode cX11_alter 54 = .ok (.iconst 0, 1) := by decide +kernel
theorem dX11_alter_55 : decode cX11_alter 55 = .ok (.istore 4, 2) := by decide +kernel
theorem dX11_alter_57 : decode cX11_alter 57 = .ok (.aload_n 0, 1) := by decide +kernel
theorem dX11_alter_58 : decode cX11_alter 58 = .ok (.iload_n 1, 1) := by decide +kernel
theorem dX11_alter_59 : decode cX11_alter 59 = .ok (.invokevirtual 198, 3) := by decide +kernel
theorem dX11_alter_62 : decode cX11_alter 62 = .ok (.ifCond .eq 21, 3) := by decide +kernel
theorem dX11_alter_65 : decode cX11_alter 65 = .ok (.iload 4, 2) := by decide +kernel
theorem dX11_alter_67 : decode cX11_alter 67 = .ok (.ifCond .eq 16, 3) := by decide +kernel
theorem dX11_alter_70 : decode cX11_alter 70 = .ok (.aload_n 0, 1) := by decide +kernel
theorem dX11_alter_71 : decode cX11_alter 71 = .ok (.iconst 5, 1) := by decide +kernel
theorem dX11_alter_72 : decode cX11_alter 72 = .ok (.iload_n 1, 1) := by decide +kernel
theorem dX11_alter_73 : decode cX11_alter 73 = .ok (.imul, 1) := by decide +kernel
theorem dX11_alter_74 : decode cX11_alter 74 = .ok (.iload_n 2, 1) := by decide +kernel
theorem dX11_alter_75 : decode cX11_alter 75 = .ok (.iadd, 1) := by decide +kernel
theorem dX11_alter_76 : decode cX11_alter 76 = .ok (.iload_n 3, 1) := by decide +kernel
theorem dX11_alter_77 : decode cX11_alter 77 = .ok (.invokevirtual 215, 3) := by decide +kernel
theorem dX11_alter_80 : decode cX11_alter 80 = .ok (.goto 4, 3) := by decide +kernel
theorem dX11_alter_83 : decode cX11_alter 83 = .ok (.iconst (-1), 1) := by decide +kernel
theorem dX11_alter_84 : decode cX11_alter 84 = .ok (.ireturn, 1) := by decide +kernel
theorem dX11_isHeard_0 : decode cX11_isHeard 0 = .ok (.aload_n 0, 1) := by decide +kernel
theorem dX11_isHeard_1 : decode cX11_isHeard 1 = .ok (.getfield 7, 3) := by decide +kernel
theorem dX11_isHeard_4 : decode cX11_isHeard 4 = .ok (.bipush 20, 2) := by decide +kernel
theorem dX11_isHeard_6 : decode cX11_isHeard 6 = .ok (.bipush 7, 2) := by decide +kernel
theorem dX11_isHeard_8 : decode cX11_isHeard 8 = .ok (.iload_n 1, 1) := by decide +kernel
theorem dX11_isHeard_9 : decode cX11_isHeard 9 = .ok (.imul, 1) := by decide +kernel
theorem dX11_isHeard_10 : decode cX11_isHeard 10 = .ok (.iadd, 1) := by decide +kernel
theorem dX11_isHeard_11 : decode cX11_isHeard 11 = .ok (.iconst 4, 1) := by decide +kernel
theorem dX11_isHeard_12 : decode cX11_isHeard 12 = .ok (.iadd, 1) := by decide +kernel
theorem dX11_isHeard_13 : decode cX11_isHeard 13 = .ok (.iaload, 1) := by decide +kernel
theorem dX11_isHeard_14 : decode cX11_isHeard 14 = .ok (.ifCond .le 7, 3) := by decide +kernel
theorem dX11_isHeard_17 : decode cX11_isHeard 17 = .ok (.iconst 1, 1) := by decide +kernel
theorem dX11_isHeard_18 : decode cX11_isHeard 18 = .ok (.goto 4, 3) := by decide +kernel
theorem dX11_isHeard_21 : decode cX11_isHeard 21 = .ok (.iconst 0, 1) := by decide +kernel
theorem dX11_isHeard_22 : decode cX11_isHeard 22 = .ok (.ireturn, 1) := by decide +kernel
theorem dX11_amend_0 : decode cX11_amend 0 = .ok (.aload_n 0, 1) := by decide +kernel
theorem dX11_amend_1 : decode cX11_amend 1 = .ok (.iload_n 1, 1) := by decide +kernel
theorem dX11_amend_2 : decode cX11_amend 2 = .ok (.invokevirtual 204, 3) := by decide +kernel
theorem dX11_amend_5 : decode cX11_amend 5 = .ok (.ifCond .ne 5, 3) := by decide +kernel
theorem dX11_amend_8 : decode cX11_amend 8 = .ok (.iconst (-1), 1) := by decide +kernel
theorem dX11_amend_9 : decode cX11_amend 9 = .ok (.ireturn, 1) := by decide +kernel
theorem dX11_amend_10 : decode cX11_amend 10 = .ok (.bipush 20, 2) := by decide +kernel
theorem dX11_amend_12 : decode cX11_amend 12 = .ok (.bipush 7, 2) := by decide +kernel
theorem dX11_amend_14 : decode cX11_amend 14 = .ok (.iload_n 1, 1) := by decide +kernel
theorem dX11_amend_15 : decode cX11_amend 15 = .ok (.imul, 1) := by decide +kernel
theorem dX11_amend_16 : decode cX11_amend 16 = .ok (.iadd, 1) := by decide +kernel
theorem dX11_amend_17 : decode cX11_amend 17 = .ok (.istore 4, 2) := by decide +kernel
theorem dX11_amend_19 : decode cX11_amend 19 = .ok (.iload_n 2, 1) := by decide +kernel
theorem dX11_amend_20 : decode cX11_amend 20 = .ok (.ifCond .ne 15, 3) := by decide +kernel
theorem dX11_amend_23 : decode cX11_amend 23 = .ok (.iload_n 3, 1) := by decide +kernel
theorem dX11_amend_24 : decode cX11_amend 24 = .ok (.i2l, 1) := by decide +kernel
theorem dX11_amend_25 : decode cX11_amend 25 = .ok (.lconst 0, 1) := by decide +kernel
theorem dX11_amend_26 : decode cX11_amend 26 = .ok (.ldc2_w 209, 3) := by decide +kernel
theorem dX11_amend_29 : decode cX11_amend 29 = .ok (.invokestatic 66, 3) := by decide +kernel
theorem dX11_amend_32 : decode cX11_amend 32 = .ok (.goto 75, 3) := by decide +kernel
theorem dX11_amend_35 : decode cX11_amend 35 = .ok (.iload_n 2, 1) := by decide +kernel
theorem dX11_amend_36 : decode cX11_amend 36 = .ok (.iconst 1, 1) := by decide +kernel
theorem dX11_amend_37 : decode cX11_amend 37 = .ok (.if_icmp .ne 22, 3) := by decide +kernel
theorem dX11_amend_40 : decode cX11_amend 40 = .ok (.iload_n 3, 1) := by decide +kernel
theorem dX11_amend_41 : decode cX11_amend 41 = .ok (.i2l, 1) := by decide +kernel
theorem dX11_amend_42 : decode cX11_amend 42 = .ok (.lconst 1, 1) := by decide +kernel
theorem dX11_amend_43 : decode cX11_amend 43 = .ok (.aload_n 0, 1) := by decide +kernel
theorem dX11_amend_44 : decode cX11_amend 44 = .ok (.getfield 7, 3) := by decide +kernel
theorem dX11_amend_47 : decode cX11_amend 47 = .ok (.iload 4, 2) := by decide +kernel
theorem dX11_amend_49 : decode cX11_amend 49 = .ok (.iconst 2, 1) := by decide +kernel
theorem dX11_amend_50 : decode cX11_amend 50 = .ok (.iadd, 1) := by decide +kernel
theorem dX11_amend_51 : decode cX11_amend 51 = .ok (.iaload, 1) := by decide +kernel
theorem dX11_amend_52 : decode cX11_amend 52 = .ok (.i2l, 1) := by decide +kernel
theorem dX11_amend_53 : decode cX11_amend 53 = .ok (.invokestatic 66, 3) := by decide +kernel
theorem dX11_amend_56 : decode cX11_amend 56 = .ok (.goto 51, 3) := by decide +kernel
theorem dX11_amend_59 : decode cX11_amend 59 = .ok (.iload_n 2, 1) := by decide +kernel
theorem dX11_amend_60 : decode cX11_amend 60 = .ok (.iconst 2, 1) := by decide +kernel
theorem dX11_amend_61 : decode cX11_amend 61 = .ok (.if_icmp .ne 24, 3) := by decide +kernel
theorem dX11_amend_64 : decode cX11_amend 64 = .ok (.iload_n 3, 1) := by decide +kernel
theorem dX11_amend_65 : decode cX11_amend 65 = .ok (.i2l, 1) := by decide +kernel
theorem dX11_amend_66 : decode cX11_amend 66 = .ok (.aload_n 0, 1) := by decide +kernel
theorem dX11_amend_67 : decode cX11_amend 67 = .ok (.getfield 7, 3) := by decide +kernel
theorem dX11_amend_70 : decode cX11_amend 70 = .ok (.iload 4, 2) := by decide +kernel
theorem dX11_amend_72 : decode cX11_amend 72 = .ok (.iconst 1, 1) := by decide +kernel
theorem dX11_amend_73 : decode cX11_amend 73 = .ok (.iadd, 1) := by decide +kernel
theorem dX11_amend_74 : decode cX11_amend 74 = .ok (.iaload, 1) := by decide +kernel
theorem dX11_amend_75 : decode cX11_amend 75 = .ok (.i2l, 1) := by decide +kernel
theorem dX11_amend_76 : decode cX11_amend 76 = .ok (.ldc2_w 207, 3) := by decide +kernel
theorem dX11_amend_79 : decode cX11_amend 79 = .ok (.invokestatic 66, 3) := by decide +kernel
theorem dX11_amend_82 : decode cX11_amend 82 = .ok (.goto 25, 3) := by decide +kernel
theorem dX11_amend_85 : decode cX11_amend 85 = .ok (.iload_n 2, 1) := by decide +kernel
theorem dX11_amend_86 : decode cX11_amend 86 = .ok (.iconst 3, 1) := by decide +kernel
theorem dX11_amend_87 : decode cX11_amend 87 = .ok (.if_icmp .ne 19, 3) := by decide +kernel
theorem dX11_amend_90 : decode cX11_amend 90 = .ok (.iload_n 3, 1) := by decide +kernel
theorem dX11_amend_91 : decode cX11_amend 91 = .ok (.i2l, 1) := by decide +kernel
theorem dX11_amend_92 : decode cX11_amend 92 = .ok (.lconst 0, 1) := by decide +kernel
theorem dX11_amend_93 : decode cX11_amend 93 = .ok (.ldc2_w 211, 3) := by decide +kernel
theorem dX11_amend_96 : decode cX11_amend 96 = .ok (.invokestatic 66, 3) := by decide +kernel
theorem dX11_amend_99 : decode cX11_amend 99 = .ok (.ifCond .eq 7, 3) := by decide +kernel
theorem dX11_amend_102 : decode cX11_amend 102 = .ok (.iconst 1, 1) := by decide +kernel
theorem dX11_amend_103 : decode cX11_amend 103 = .ok (.goto 4, 3) := by decide +kernel
theorem dX11_amend_106 : decode cX11_amend 106 = .ok (.iconst 0, 1) := by decide +kernel
theorem dX11_amend_107 : decode cX11_amend 107 = .ok (.istore 5, 2) := by decide +kernel
theorem dX11_amend_109 : decode cX11_amend 109 = .ok (.iload 5, 2) := by decide +kernel
theorem dX11_amend_111 : decode cX11_amend 111 = .ok (.ifCond .ne 5, 3) := by decide +kernel
theorem dX11_amend_114 : decode cX11_amend 114 = .ok (.iconst (-1), 1) := by decide +kernel
theorem dX11_amend_115 : decode cX11_amend 115 = .ok (.ireturn, 1) := by decide +kernel
theorem dX11_amend_116 : decode cX11_amend 116 = .ok (.aload_n 0, 1) := by decide +kernel
theorem dX11_amend_117 : decode cX11_amend 117 = .ok (.iload_n 1, 1) := by decide +kernel
theorem dX11_amend_118 : decode cX11_amend 118 = .ok (.invokevirtual 218, 3) := by decide +kernel
theorem dX11_amend_121 : decode cX11_amend 121 = .ok (.ifCond .eq 8, 3) := by decide +kernel
theorem dX11_amend_124 : decode cX11_amend 124 = .ok (.bipush (-2), 2) := by decide +kernel
theorem dX11_amend_126 : decode cX11_amend 126 = .ok (.goto 12, 3) := by decide +kernel
theorem dX11_amend_129 : decode cX11_amend 129 = .ok (.aload_n 0, 1) := by decide +kernel
theorem dX11_amend_130 : decode cX11_amend 130 = .ok (.iload 4, 2) := by decide +kernel
theorem dX11_amend_132 : decode cX11_amend 132 = .ok (.iload_n 2, 1) := by decide +kernel
theorem dX11_amend_133 : decode cX11_amend 133 = .ok (.iadd, 1) := by decide +kernel
theorem dX11_amend_134 : decode cX11_amend 134 = .ok (.iload_n 3, 1) := by decide +kernel
theorem dX11_amend_135 : decode cX11_amend 135 = .ok (.invokevirtual 215, 3) := by decide +kernel
theorem dX11_amend_138 : decode cX11_amend 138 = .ok (.ireturn, 1) := by decide +kernel
theorem dX11_crime_0 : decode cX11_crime 0 = .ok (.iload_n 1, 1) := by decide +kernel
theorem dX11_crime_1 : decode cX11_crime 1 = .ok (.i2l, 1) := by decide +kernel
theorem dX11_crime_2 : decode cX11_crime 2 = .ok (.lconst 0, 1) := by decide +kernel
theorem dX11_crime_3 : decode cX11_crime 3 = .ok (.ldc2_w 213, 3) := by decide +kernel
theorem dX11_crime_6 : decode cX11_crime 6 = .ok (.invokestatic 66, 3) := by decide +kernel
theorem dX11_crime_9 : decode cX11_crime 9 = .ok (.ifCond .eq 13, 3) := by decide +kernel
theorem dX11_crime_12 : decode cX11_crime 12 = .ok (.aload_n 0, 1) := by decide +kernel
theorem dX11_crime_13 : decode cX11_crime 13 = .ok (.bipush 56, 2) := by decide +kernel
theorem dX11_crime_15 : decode cX11_crime 15 = .ok (.iload_n 1, 1) := by decide +kernel
theorem dX11_crime_16 : decode cX11_crime 16 = .ok (.invokevirtual 215, 3) := by decide +kernel
theorem dX11_crime_19 : decode cX11_crime 19 = .ok (.goto 4, 3) := by decide +kernel
theorem dX11_crime_22 : decode cX11_crime 22 = .ok (.iconst (-1), 1) := by decide +kernel
theorem dX11_crime_23 : decode cX11_crime 23 = .ok (.ireturn, 1) := by decide +kernel
theorem dX11_isTerm_0 : decode cX11_isTerm 0 = .ok (.aload_n 0, 1) := by decide +kernel
theorem dX11_isTerm_1 : decode cX11_isTerm 1 = .ok (.iload_n 1, 1) := by decide +kernel
theorem dX11_isTerm_2 : decode cX11_isTerm 2 = .ok (.invokevirtual 204, 3) := by decide +kernel
theorem dX11_isTerm_5 : decode cX11_isTerm 5 = .ok (.ifCond .eq 45, 3) := by decide +kernel
theorem dX11_isTerm_8 : decode cX11_isTerm 8 = .ok (.iload_n 2, 1) := by decide +kernel
theorem dX11_isTerm_9 : decode cX11_isTerm 9 = .ok (.i2l, 1) := by decide +kernel
theorem dX11_isTerm_10 : decode cX11_isTerm 10 = .ok (.aload_n 0, 1) := by decide +kernel
theorem dX11_isTerm_11 : decode cX11_isTerm 11 = .ok (.getfield 7, 3) := by decide +kernel
theorem dX11_isTerm_14 : decode cX11_isTerm 14 = .ok (.bipush 20, 2) := by decide +kernel
theorem dX11_isTerm_16 : decode cX11_isTerm 16 = .ok (.bipush 7, 2) := by decide +kernel
theorem dX11_isTerm_18 : decode cX11_isTerm 18 = .ok (.iload_n 1, 1) := by decide +kernel
theorem dX11_isTerm_19 : decode cX11_isTerm 19 = .ok (.imul, 1) := by decide +kernel
theorem dX11_isTerm_20 : decode cX11_isTerm 20 = .ok (.iadd, 1) := by decide +kernel
theorem dX11_isTerm_21 : decode cX11_isTerm 21 = .ok (.iconst 1, 1) := by decide +kernel
theorem dX11_isTerm_22 : decode cX11_isTerm 22 = .ok (.iadd, 1) := by decide +kernel
theorem dX11_isTerm_23 : decode cX11_isTerm 23 = .ok (.iaload, 1) := by decide +kernel
theorem dX11_isTerm_24 : decode cX11_isTerm 24 = .ok (.i2l, 1) := by decide +kernel
theorem dX11_isTerm_25 : decode cX11_isTerm 25 = .ok (.aload_n 0, 1) := by decide +kernel
theorem dX11_isTerm_26 : decode cX11_isTerm 26 = .ok (.getfield 7, 3) := by decide +kernel
theorem dX11_isTerm_29 : decode cX11_isTerm 29 = .ok (.bipush 20, 2) := by decide +kernel
theorem dX11_isTerm_31 : decode cX11_isTerm 31 = .ok (.bipush 7, 2) := by decide +kernel
theorem dX11_isTerm_33 : decode cX11_isTerm 33 = .ok (.iload_n 1, 1) := by decide +kernel
theorem dX11_isTerm_34 : decode cX11_isTerm 34 = .ok (.imul, 1) := by decide +kernel
theorem dX11_isTerm_35 : decode cX11_isTerm 35 = .ok (.iadd, 1) := by decide +kernel
theorem dX11_isTerm_36 : decode cX11_isTerm 36 = .ok (.iconst 2, 1) := by decide +kernel
theorem dX11_isTerm_37 : decode cX11_isTerm 37 = .ok (.iadd, 1) := by decide +kernel
theorem dX11_isTerm_38 : decode cX11_isTerm 38 = .ok (.iaload, 1) := by decide +kernel
theorem dX11_isTerm_39 : decode cX11_isTerm 39 = .ok (.i2l, 1) := by decide +kernel
theorem dX11_isTerm_40 : decode cX11_isTerm 40 = .ok (.invokestatic 66, 3) := by decide +kernel
theorem dX11_isTerm_43 : decode cX11_isTerm 43 = .ok (.ifCond .eq 7, 3) := by decide +kernel
theorem dX11_isTerm_46 : decode cX11_isTerm 46 = .ok (.iconst 1, 1) := by decide +kernel
theorem dX11_isTerm_47 : decode cX11_isTerm 47 = .ok (.goto 4, 3) := by decide +kernel
theorem dX11_isTerm_50 : decode cX11_isTerm 50 = .ok (.iconst 0, 1) := by decide +kernel
theorem dX11_isTerm_51 : decode cX11_isTerm 51 = .ok (.ireturn, 1) := by decide +kernel
theorem dX11_can_0 : decode cX11_can 0 = .ok (.aload_n 0, 1) := by decide +kernel
theorem dX11_can_1 : decode cX11_can 1 = .ok (.iload_n 1, 1) := by decide +kernel
theorem dX11_can_2 : decode cX11_can 2 = .ok (.iload_n 2, 1) := by decide +kernel
theorem dX11_can_3 : decode cX11_can 3 = .ok (.invokevirtual 221, 3) := by decide +kernel
theorem dX11_can_6 : decode cX11_can 6 = .ok (.ifCond .ne 5, 3) := by decide +kernel
theorem dX11_can_9 : decode cX11_can 9 = .ok (.iconst (-1), 1) := by decide +kernel
theorem dX11_can_10 : decode cX11_can 10 = .ok (.ireturn, 1) := by decide +kernel
theorem dX11_can_11 : decode cX11_can 11 = .ok (.iconst 0, 1) := by decide +kernel
theorem dX11_can_12 : decode cX11_can 12 = .ok (.istore_n 3, 1) := by decide +kernel
theorem dX11_can_13 : decode cX11_can 13 = .ok (.aload_n 0, 1) := by decide +kernel
theorem dX11_can_14 : decode cX11_can 14 = .ok (.invokevirtual 192, 3) := by decide +kernel
theorem dX11_can_17 : decode cX11_can 17 = .ok (.iconst 0, 1) := by decide +kernel
theorem dX11_can_18 : decode cX11_can 18 = .ok (.istore 4, 2) := by decide +kernel
theorem dX11_can_20 : decode cX11_can 20 = .ok (.iload 4, 2) := by decide +kernel
theorem dX11_can_22 : decode cX11_can 22 = .ok (.aload_n 0, 1) := by decide +kernel
theorem dX11_can_23 : decode cX11_can 23 = .ok (.getfield 58, 3) := by decide +kernel
theorem dX11_can_26 : decode cX11_can 26 = .ok (.if_icmp .ge 26, 3) := by decide +kernel
theorem dX11_can_29 : decode cX11_can 29 = .ok (.iload_n 3, 1) := by decide +kernel
theorem dX11_can_30 : decode cX11_can 30 = .ok (.aload_n 0, 1) := by decide +kernel
theorem dX11_can_31 : decode cX11_can 31 = .ok (.iload 4, 2) := by decide +kernel
theorem dX11_can_33 : decode cX11_can 33 = .ok (.iload_n 1, 1) := by decide +kernel
theorem dX11_can_34 : decode cX11_can 34 = .ok (.iload_n 2, 1) := by decide +kernel
theorem dX11_can_35 : decode cX11_can 35 = .ok (.invokevirtual 165, 3) := by decide +kernel
theorem dX11_can_38 : decode cX11_can 38 = .ok (.invokestatic 161, 3) := by decide +kernel
theorem dX11_can_41 : decode cX11_can 41 = .ok (.iload 4, 2) := by decide +kernel
theorem dX11_can_43 : decode cX11_can 43 = .ok (.ishl, 1) := by decide +kernel
theorem dX11_can_44 : decode cX11_can 44 = .ok (.ior, 1) := by decide +kernel
theorem dX11_can_45 : decode cX11_can 45 = .ok (.istore_n 3, 1) := by decide +kernel
theorem dX11_can_46 : decode cX11_can 46 = .ok (.iinc 4 1, 3) := by decide +kernel
theorem dX11_can_49 : decode cX11_can 49 = .ok (.goto (-29), 3) := by decide +kernel
theorem dX11_can_52 : decode cX11_can 52 = .ok (.iload_n 3, 1) := by decide +kernel
theorem dX11_can_53 : decode cX11_can 53 = .ok (.ireturn, 1) := by decide +kernel
theorem dX11_give_0 : decode cX11_give 0 = .ok (.aload_n 0, 1) := by decide +kernel
theorem dX11_give_1 : decode cX11_give 1 = .ok (.iload_n 1, 1) := by decide +kernel
theorem dX11_give_2 : decode cX11_give 2 = .ok (.iload_n 3, 1) := by decide +kernel
theorem dX11_give_3 : decode cX11_give 3 = .ok (.invokevirtual 221, 3) := by decide +kernel
theorem dX11_give_6 : decode cX11_give 6 = .ok (.ifCond .eq 11, 3) := by decide +kernel
theorem dX11_give_9 : decode cX11_give 9 = .ok (.aload_n 0, 1) := by decide +kernel
theorem dX11_give_10 : decode cX11_give 10 = .ok (.iload_n 2, 1) := by decide +kernel
theorem dX11_give_11 : decode cX11_give 11 = .ok (.invokevirtual 198, 3) := by decide +kernel
theorem dX11_give_14 : decode cX11_give 14 = .ok (.ifCond .ne 5, 3) := by decide +kernel
theorem dX11_give_17 : decode cX11_give 17 = .ok (.iconst (-1), 1) := by decide +kernel
theorem dX11_give_18 : decode cX11_give 18 = .ok (.ireturn, 1) := by decide +kernel
theorem dX11_give_19 : decode cX11_give 19 = .ok (.aload_n 0, 1) := by decide +kernel
theorem dX11_give_20 : decode cX11_give 20 = .ok (.invokevirtual 192, 3) := by decide +kernel
theorem dX11_give_23 : decode cX11_give 23 = .ok (.aload_n 0, 1) := by decide +kernel
theorem dX11_give_24 : decode cX11_give 24 = .ok (.iload_n 2, 1) := by decide +kernel
theorem dX11_give_25 : decode cX11_give 25 = .ok (.iload_n 1, 1) := by decide +kernel
theorem dX11_give_26 : decode cX11_give 26 = .ok (.iload_n 3, 1) := by decide +kernel
theorem dX11_give_27 : decode cX11_give 27 = .ok (.invokevirtual 165, 3) := by decide +kernel
theorem dX11_give_30 : decode cX11_give 30 = .ok (.ifCond .ne 6, 3) := by decide +kernel
theorem dX11_give_33 : decode cX11_give 33 = .ok (.bipush (-2), 2) := by decide +kernel
theorem dX11_give_35 : decode cX11_give 35 = .ok (.ireturn, 1) := by decide +kernel
theorem dX11_give_36 : decode cX11_give 36 = .ok (.aload_n 0, 1) := by decide +kernel
theorem dX11_give_37 : decode cX11_give 37 = .ok (.iload_n 2, 1) := by decide +kernel
theorem dX11_give_38 : decode cX11_give 38 = .ok (.iload_n 1, 1) := by decide +kernel
theorem dX11_give_39 : decode cX11_give 39 = .ok (.iload_n 3, 1) := by decide +kernel
theorem dX11_give_40 : decode cX11_give 40 = .ok (.invokevirtual 174, 3) := by decide +kernel
theorem dX11_give_43 : decode cX11_give 43 = .ok (.aload_n 0, 1) := by decide +kernel
theorem dX11_give_44 : decode cX11_give 44 = .ok (.invokevirtual 225, 3) := by decide +kernel
theorem dX11_give_47 : decode cX11_give 47 = .ok (.aload_n 0, 1) := by decide +kernel
theorem dX11_give_48 : decode cX11_give 48 = .ok (.getfield 7, 3) := by decide +kernel
theorem dX11_give_51 : decode cX11_give 51 = .ok (.bipush 56, 2) := by decide +kernel
theorem dX11_give_53 : decode cX11_give 53 = .ok (.iaload, 1) := by decide +kernel
theorem dX11_give_54 : decode cX11_give 54 = .ok (.ireturn, 1) := by decide +kernel
theorem dX11_appeal_0 : decode cX11_appeal 0 = .ok (.aload_n 0, 1) := by decide +kernel
theorem dX11_appeal_1 : decode cX11_appeal 1 = .ok (.iload_n 1, 1) := by decide +kernel
theorem dX11_appeal_2 : decode cX11_appeal 2 = .ok (.invokevirtual 204, 3) := by decide +kernel
theorem dX11_appeal_5 : decode cX11_appeal 5 = .ok (.ifCond .ne 5, 3) := by decide +kernel
theorem dX11_appeal_8 : decode cX11_appeal 8 = .ok (.iconst (-1), 1) := by decide +kernel
theorem dX11_appeal_9 : decode cX11_appeal 9 = .ok (.ireturn, 1) := by decide +kernel
theorem dX11_appeal_10 : decode cX11_appeal 10 = .ok (.aload_n 0, 1) := by decide +kernel
theorem dX11_appeal_11 : decode cX11_appeal 11 = .ok (.iload_n 1, 1) := by decide +kernel
theorem dX11_appeal_12 : decode cX11_appeal 12 = .ok (.invokevirtual 218, 3) := by decide +kernel
theorem dX11_appeal_15 : decode cX11_appeal 15 = .ok (.ifCond .ne 6, 3) := by decide +kernel
theorem dX11_appeal_18 : decode cX11_appeal 18 = .ok (.bipush (-2), 2) := by decide +kernel
theorem dX11_appeal_20 : decode cX11_appeal 20 = .ok (.ireturn, 1) := by decide +kernel
theorem dX11_appeal_21 : decode cX11_appeal 21 = .ok (.aload_n 0, 1) := by decide +kernel
theorem dX11_appeal_22 : decode cX11_appeal 22 = .ok (.invokevirtual 192, 3) := by decide +kernel
theorem dX11_appeal_25 : decode cX11_appeal 25 = .ok (.aload_n 0, 1) := by decide +kernel
theorem dX11_appeal_26 : decode cX11_appeal 26 = .ok (.iload_n 1, 1) := by decide +kernel
theorem dX11_appeal_27 : decode cX11_appeal 27 = .ok (.invokevirtual 228, 3) := by decide +kernel
theorem dX11_appeal_30 : decode cX11_appeal 30 = .ok (.aload_n 0, 1) := by decide +kernel
theorem dX11_appeal_31 : decode cX11_appeal 31 = .ok (.invokevirtual 225, 3) := by decide +kernel
theorem dX11_appeal_34 : decode cX11_appeal 34 = .ok (.aload_n 0, 1) := by decide +kernel
theorem dX11_appeal_35 : decode cX11_appeal 35 = .ok (.getfield 7, 3) := by decide +kernel
theorem dX11_appeal_38 : decode cX11_appeal 38 = .ok (.bipush 56, 2) := by decide +kernel
theorem dX11_appeal_40 : decode cX11_appeal 40 = .ok (.iaload, 1) := by decide +kernel
theorem dX11_appeal_41 : decode cX11_appeal 41 = .ok (.ireturn, 1) := by decide +kernel
theorem dX11_days_0 : decode cX11_days 0 = .ok (.iload_n 1, 1) := by decide +kernel
theorem dX11_days_1 : decode cX11_days 1 = .ok (.i2l, 1) := by decide +kernel
theorem dX11_days_2 : decode cX11_days 2 = .ok (.lconst 0, 1) := by decide +kernel
theorem dX11_days_3 : decode cX11_days 3 = .ok (.ldc2_w 231, 3) := by decide +kernel
theorem dX11_days_6 : decode cX11_days 6 = .ok (.invokestatic 66, 3) := by decide +kernel
theorem dX11_days_9 : decode cX11_days 9 = .ok (.ifCond .ne 5, 3) := by decide +kernel
theorem dX11_days_12 : decode cX11_days 12 = .ok (.iconst (-1), 1) := by decide +kernel
theorem dX11_days_13 : decode cX11_days 13 = .ok (.ireturn, 1) := by decide +kernel
theorem dX11_days_14 : decode cX11_days 14 = .ok (.aload_n 0, 1) := by decide +kernel
theorem dX11_days_15 : decode cX11_days 15 = .ok (.getfield 7, 3) := by decide +kernel
theorem dX11_days_18 : decode cX11_days 18 = .ok (.bipush 55, 2) := by decide +kernel
theorem dX11_days_20 : decode cX11_days 20 = .ok (.iaload, 1) := by decide +kernel
theorem dX11_days_21 : decode cX11_days 21 = .ok (.iload_n 1, 1) := by decide +kernel
theorem dX11_days_22 : decode cX11_days 22 = .ok (.iadd, 1) := by decide +kernel
theorem dX11_days_23 : decode cX11_days 23 = .ok (.sipush 999, 3) := by decide +kernel
theorem dX11_days_26 : decode cX11_days 26 = .ok (.if_icmp .le 6, 3) := by decide +kernel
theorem dX11_days_29 : decode cX11_days 29 = .ok (.bipush (-3), 2) := by decide +kernel
theorem dX11_days_31 : decode cX11_days 31 = .ok (.ireturn, 1) := by decide +kernel
theorem dX11_days_32 : decode cX11_days 32 = .ok (.aload_n 0, 1) := by decide +kernel
theorem dX11_days_33 : decode cX11_days 33 = .ok (.invokevirtual 192, 3) := by decide +kernel
theorem dX11_days_36 : decode cX11_days 36 = .ok (.iconst 0, 1) := by decide +kernel
theorem dX11_days_37 : decode cX11_days 37 = .ok (.istore_n 2, 1) := by decide +kernel
theorem dX11_days_38 : decode cX11_days 38 = .ok (.iload_n 2, 1) := by decide +kernel
theorem dX11_days_39 : decode cX11_days 39 = .ok (.iload_n 1, 1) := by decide +kernel
theorem dX11_days_40 : decode cX11_days 40 = .ok (.if_icmp .ge 13, 3) := by decide +kernel
theorem dX11_days_43 : decode cX11_days 43 = .ok (.aload_n 0, 1) := by decide +kernel
theorem dX11_days_44 : decode cX11_days 44 = .ok (.invokevirtual 180, 3) := by decide +kernel
theorem dX11_days_47 : decode cX11_days 47 = .ok (.iinc 2 1, 3) := by decide +kernel
theorem dX11_days_50 : decode cX11_days 50 = .ok (.goto (-12), 3) := by decide +kernel
theorem dX11_days_53 : decode cX11_days 53 = .ok (.aload_n 0, 1) := by decide +kernel
theorem dX11_days_54 : decode cX11_days 54 = .ok (.invokevirtual 225, 3) := by decide +kernel
theorem dX11_days_57 : decode cX11_days 57 = .ok (.aload_n 0, 1) := by decide +kernel
theorem dX11_days_58 : decode cX11_days 58 = .ok (.getfield 7, 3) := by decide +kernel
theorem dX11_days_61 : decode cX11_days 61 = .ok (.bipush 56, 2) := by decide +kernel
theorem dX11_days_63 : decode cX11_days 63 = .ok (.iaload, 1) := by decide +kernel
theorem dX11_days_64 : decode cX11_days 64 = .ok (.ireturn, 1) := by decide +kernel
theorem dX11_docket_0 : decode cX11_docket 0 = .ok (.iload_n 1, 1) := by decide +kernel
theorem dX11_docket_1 : decode cX11_docket 1 = .ok (.i2l, 1) := by decide +kernel
theorem dX11_docket_2 : decode cX11_docket 2 = .ok (.lconst 0, 1) := by decide +kernel
theorem dX11_docket_3 : decode cX11_docket 3 = .ok (.ldc2_w 231, 3) := by decide +kernel
theorem dX11_docket_6 : decode cX11_docket 6 = .ok (.invokestatic 66, 3) := by decide +kernel
theorem dX11_docket_9 : decode cX11_docket 9 = .ok (.ifCond .eq 15, 3) := by decide +kernel
theorem dX11_docket_12 : decode cX11_docket 12 = .ok (.iload_n 2, 1) := by decide +kernel
theorem dX11_docket_13 : decode cX11_docket 13 = .ok (.i2l, 1) := by decide +kernel
theorem dX11_docket_14 : decode cX11_docket 14 = .ok (.lconst 0, 1) := by decide +kernel
theorem dX11_docket_15 : decode cX11_docket 15 = .ok (.ldc2_w 202, 3) := by decide +kernel
theorem dX11_docket_18 : decode cX11_docket 18 = .ok (.invokestatic 66, 3) := by decide +kernel
theorem dX11_docket_21 : decode cX11_docket 21 = .ok (.ifCond .ne 5, 3) := by decide +kernel
theorem dX11_docket_24 : decode cX11_docket 24 = .ok (.iconst (-1), 1) := by decide +kernel
theorem dX11_docket_25 : decode cX11_docket 25 = .ok (.ireturn, 1) := by decide +kernel
theorem dX11_docket_26 : decode cX11_docket 26 = .ok (.bipush (-4), 2) := by decide +kernel
theorem dX11_docket_28 : decode cX11_docket 28 = .ok (.istore_n 3, 1) := by decide +kernel
theorem dX11_docket_29 : decode cX11_docket 29 = .ok (.aload_n 0, 1) := by decide +kernel
theorem dX11_docket_30 : decode cX11_docket 30 = .ok (.invokevirtual 192, 3) := by decide +kernel
theorem dX11_docket_33 : decode cX11_docket 33 = .ok (.aload_n 0, 1) := by decide +kernel
theorem dX11_docket_34 : decode cX11_docket 34 = .ok (.iconst 0, 1) := by decide +kernel
theorem dX11_docket_35 : decode cX11_docket 35 = .ok (.putfield 168, 3) := by decide +kernel
theorem dX11_docket_38 : decode cX11_docket 38 = .ok (.aload_n 0, 1) := by decide +kernel
theorem dX11_docket_39 : decode cX11_docket 39 = .ok (.iconst 0, 1) := by decide +kernel
theorem dX11_docket_40 : decode cX11_docket 40 = .ok (.putfield 177, 3) := by decide +kernel
theorem dX11_docket_43 : decode cX11_docket 43 = .ok (.aload_n 0, 1) := by decide +kernel
theorem dX11_docket_44 : decode cX11_docket 44 = .ok (.invokevirtual 183, 3) := by decide +kernel
theorem dX11_docket_47 : decode cX11_docket 47 = .ok (.istore 4, 2) := by decide +kernel
theorem dX11_docket_49 : decode cX11_docket 49 = .ok (.iconst 0, 1) := by decide +kernel
theorem dX11_docket_50 : decode cX11_docket 50 = .ok (.istore 5, 2) := by decide +kernel
theorem dX11_docket_52 : decode cX11_docket 52 = .ok (.iload 5, 2) := by decide +kernel
theorem dX11_docket_54 : decode cX11_docket 54 = .ok (.iload_n 1, 1) := by decide +kernel
theorem dX11_docket_55 : decode cX11_docket 55 = .ok (.if_icmp .gt 66, 3) := by decide +kernel
theorem dX11_docket_58 : decode cX11_docket 58 = .ok (.aload_n 0, 1) := by decide +kernel
theorem dX11_docket_59 : decode cX11_docket 59 = .ok (.invokevirtual 195, 3) := by decide +kernel
theorem dX11_docket_62 : decode cX11_docket 62 = .ok (.ifCond .ne 22, 3) := by decide +kernel
theorem dX11_docket_65 : decode cX11_docket 65 = .ok (.aload_n 0, 1) := by decide +kernel
theorem dX11_docket_66 : decode cX11_docket 66 = .ok (.invokevirtual 183, 3) := by decide +kernel
theorem dX11_docket_69 : decode cX11_docket 69 = .ok (.iconst 1, 1) := by decide +kernel
theorem dX11_docket_70 : decode cX11_docket 70 = .ok (.aload_n 0, 1) := by decide +kernel
theorem dX11_docket_71 : decode cX11_docket 71 = .ok (.getfield 61, 3) := by decide +kernel
theorem dX11_docket_74 : decode cX11_docket 74 = .ok (.ishl, 1) := by decide +kernel
theorem dX11_docket_75 : decode cX11_docket 75 = .ok (.iconst 1, 1) := by decide +kernel
theorem dX11_docket_76 : decode cX11_docket 76 = .ok (.isub, 1) := by decide +kernel
theorem dX11_docket_77 : decode cX11_docket 77 = .ok (.if_icmp .ne 7, 3) := by decide +kernel
theorem dX11_docket_80 : decode cX11_docket 80 = .ok (.iconst 1, 1) := by decide +kernel
theorem dX11_docket_81 : decode cX11_docket 81 = .ok (.goto 4, 3) := by decide +kernel
theorem dX11_docket_84 : decode cX11_docket 84 = .ok (.iconst 0, 1) := by decide +kernel
theorem dX11_docket_85 : decode cX11_docket 85 = .ok (.istore 6, 2) := by decide +kernel
theorem dX11_docket_87 : decode cX11_docket 87 = .ok (.iload 6, 2) := by decide +kernel
theorem dX11_docket_89 : decode cX11_docket 89 = .ok (.ifCond .eq 14, 3) := by decide +kernel
theorem dX11_docket_92 : decode cX11_docket 92 = .ok (.iload_n 3, 1) := by decide +kernel
theorem dX11_docket_93 : decode cX11_docket 93 = .ok (.bipush (-4), 2) := by decide +kernel
theorem dX11_docket_95 : decode cX11_docket 95 = .ok (.if_icmp .ne 8, 3) := by decide +kernel
theorem dX11_docket_98 : decode cX11_docket 98 = .ok (.iload 5, 2) := by decide +kernel
theorem dX11_docket_100 : decode cX11_docket 100 = .ok (.goto 4, 3) := by decide +kernel
theorem dX11_docket_103 : decode cX11_docket 103 = .ok (.iload_n 3, 1) := by decide +kernel
theorem dX11_docket_104 : decode cX11_docket 104 = .ok (.istore_n 3, 1) := by decide +kernel
theorem dX11_docket_105 : decode cX11_docket 105 = .ok (.iload 5, 2) := by decide +kernel
theorem dX11_docket_107 : decode cX11_docket 107 = .ok (.iload_n 1, 1) := by decide +kernel
theorem dX11_docket_108 : decode cX11_docket 108 = .ok (.if_icmp .ge 7, 3) := by decide +kernel
theorem dX11_docket_111 : decode cX11_docket 111 = .ok (.aload_n 0, 1) := by decide +kernel
theorem dX11_docket_112 : decode cX11_docket 112 = .ok (.invokevirtual 189, 3) := by decide +kernel
theorem dX11_docket_115 : decode cX11_docket 115 = .ok (.iinc 5 1, 3) := by decide +kernel
theorem dX11_docket_118 : decode cX11_docket 118 = .ok (.goto (-66), 3) := by decide +kernel
theorem dX11_docket_121 : decode cX11_docket 121 = .ok (.iload_n 2, 1) := by decide +kernel
theorem dX11_docket_122 : decode cX11_docket 122 = .ok (.tableswitch 69 0 4 #[34, 44, 52, 58, 64], 34) := by decide +kernel
theorem dX11_docket_156 : decode cX11_docket 156 = .ok (.aload_n 0, 1) := by decide +kernel
theorem dX11_docket_157 : decode cX11_docket 157 = .ok (.invokevirtual 183, 3) := by decide +kernel
theorem dX11_docket_160 : decode cX11_docket 160 = .ok (.iload 4, 2) := by decide +kernel
theorem dX11_docket_162 : decode cX11_docket 162 = .ok (.iconst (-1), 1) := by decide +kernel
theorem dX11_docket_163 : decode cX11_docket 163 = .ok (.ixor, 1) := by decide +kernel
theorem dX11_docket_164 : decode cX11_docket 164 = .ok (.iand, 1) := by decide +kernel
theorem dX11_docket_165 : decode cX11_docket 165 = .ok (.ireturn, 1) := by decide +kernel
theorem dX11_docket_166 : decode cX11_docket 166 = .ok (.aload_n 0, 1) := by decide +kernel
theorem dX11_docket_167 : decode cX11_docket 167 = .ok (.getfield 13, 3) := by decide +kernel
theorem dX11_docket_170 : decode cX11_docket 170 = .ok (.bipush 56, 2) := by decide +kernel
theorem dX11_docket_172 : decode cX11_docket 172 = .ok (.iaload, 1) := by decide +kernel
theorem dX11_docket_173 : decode cX11_docket 173 = .ok (.ireturn, 1) := by decide +kernel
theorem dX11_docket_174 : decode cX11_docket 174 = .ok (.aload_n 0, 1) := by decide +kernel
theorem dX11_docket_175 : decode cX11_docket 175 = .ok (.iconst 2, 1) := by decide +kernel
theorem dX11_docket_176 : decode cX11_docket 176 = .ok (.invokevirtual 233, 3) := by decide +kernel
theorem dX11_docket_179 : decode cX11_docket 179 = .ok (.ireturn, 1) := by decide +kernel
theorem dX11_docket_180 : decode cX11_docket 180 = .ok (.aload_n 0, 1) := by decide +kernel
theorem dX11_docket_181 : decode cX11_docket 181 = .ok (.iconst 1, 1) := by decide +kernel
theorem dX11_docket_182 : decode cX11_docket 182 = .ok (.invokevirtual 233, 3) := by decide +kernel
theorem dX11_docket_185 : decode cX11_docket 185 = .ok (.ireturn, 1) := by decide +kernel
theorem dX11_docket_186 : decode cX11_docket 186 = .ok (.aload_n 0, 1) := by decide +kernel
theorem dX11_docket_187 : decode cX11_docket 187 = .ok (.getfield 177, 3) := by decide +kernel
theorem dX11_docket_190 : decode cX11_docket 190 = .ok (.ireturn, 1) := by decide +kernel
theorem dX11_docket_191 : decode cX11_docket 191 = .ok (.iload_n 3, 1) := by decide +kernel
theorem dX11_docket_192 : decode cX11_docket 192 = .ok (.ireturn, 1) := by decide +kernel
theorem dX11_hears_0 : decode cX11_hears 0 = .ok (.aload_n 0, 1) := by decide +kernel
theorem dX11_hears_1 : decode cX11_hears 1 = .ok (.iload_n 1, 1) := by decide +kernel
theorem dX11_hears_2 : decode cX11_hears 2 = .ok (.invokevirtual 204, 3) := by decide +kernel
theorem dX11_hears_5 : decode cX11_hears 5 = .ok (.ifCond .eq 15, 3) := by decide +kernel
theorem dX11_hears_8 : decode cX11_hears 8 = .ok (.iload_n 2, 1) := by decide +kernel
theorem dX11_hears_9 : decode cX11_hears 9 = .ok (.i2l, 1) := by decide +kernel
theorem dX11_hears_10 : decode cX11_hears 10 = .ok (.lconst 0, 1) := by decide +kernel
theorem dX11_hears_11 : decode cX11_hears 11 = .ok (.ldc2_w 231, 3) := by decide +kernel
theorem dX11_hears_14 : decode cX11_hears 14 = .ok (.invokestatic 66, 3) := by decide +kernel
theorem dX11_hears_17 : decode cX11_hears 17 = .ok (.ifCond .ne 5, 3) := by decide +kernel
theorem dX11_hears_20 : decode cX11_hears 20 = .ok (.iconst (-1), 1) := by decide +kernel
theorem dX11_hears_21 : decode cX11_hears 21 = .ok (.ireturn, 1) := by decide +kernel
theorem dX11_hears_22 : decode cX11_hears 22 = .ok (.aload_n 0, 1) := by decide +kernel
theorem dX11_hears_23 : decode cX11_hears 23 = .ok (.iload_n 1, 1) := by decide +kernel
theorem dX11_hears_24 : decode cX11_hears 24 = .ok (.invokevirtual 218, 3) := by decide +kernel
theorem dX11_hears_27 : decode cX11_hears 27 = .ok (.ifCond .eq 6, 3) := by decide +kernel
theorem dX11_hears_30 : decode cX11_hears 30 = .ok (.bipush (-4), 2) := by decide +kernel
theorem dX11_hears_32 : decode cX11_hears 32 = .ok (.ireturn, 1) := by decide +kernel
theorem dX11_hears_33 : decode cX11_hears 33 = .ok (.aload_n 0, 1) := by decide +kernel
theorem dX11_hears_34 : decode cX11_hears 34 = .ok (.invokevirtual 192, 3) := by decide +kernel
theorem dX11_hears_37 : decode cX11_hears 37 = .ok (.aload_n 0, 1) := by decide +kernel
theorem dX11_hears_38 : decode cX11_hears 38 = .ok (.iconst 0, 1) := by decide +kernel
theorem dX11_hears_39 : decode cX11_hears 39 = .ok (.putfield 168, 3) := by decide +kernel
theorem dX11_hears_42 : decode cX11_hears 42 = .ok (.aload_n 0, 1) := by decide +kernel
theorem dX11_hears_43 : decode cX11_hears 43 = .ok (.iload_n 2, 1) := by decide +kernel
theorem dX11_hears_44 : decode cX11_hears 44 = .ok (.invokevirtual 236, 3) := by decide +kernel
theorem dX11_hears_47 : decode cX11_hears 47 = .ok (.pop, 1) := by decide +kernel
theorem dX11_hears_48 : decode cX11_hears 48 = .ok (.aload_n 0, 1) := by decide +kernel
theorem dX11_hears_49 : decode cX11_hears 49 = .ok (.iload_n 1, 1) := by decide +kernel
theorem dX11_hears_50 : decode cX11_hears 50 = .ok (.iconst 5, 1) := by decide +kernel
theorem dX11_hears_51 : decode cX11_hears 51 = .ok (.invokevirtual 145, 3) := by decide +kernel
theorem dX11_hears_54 : decode cX11_hears 54 = .ok (.ireturn, 1) := by decide +kernel
theorem dX11_powerOf_0 : decode cX11_powerOf 0 = .ok (.iconst 1, 1) := by decide +kernel
theorem dX11_powerOf_1 : decode cX11_powerOf 1 = .ok (.istore_n 3, 1) := by decide +kernel
theorem dX11_powerOf_2 : decode cX11_powerOf 2 = .ok (.iconst 0, 1) := by decide +kernel
theorem dX11_powerOf_3 : decode cX11_powerOf 3 = .ok (.istore 4, 2) := by decide +kernel
theorem dX11_powerOf_5 : decode cX11_powerOf 5 = .ok (.iload 4, 2) := by decide +kernel
theorem dX11_powerOf_7 : decode cX11_powerOf 7 = .ok (.iload_n 2, 1) := by decide +kernel
theorem dX11_powerOf_8 : decode cX11_powerOf 8 = .ok (.if_icmp .ge 13, 3) := by decide +kernel
theorem dX11_powerOf_11 : decode cX11_powerOf 11 = .ok (.iload_n 3, 1) := by decide +kernel
theorem dX11_powerOf_12 : decode cX11_powerOf 12 = .ok (.iload_n 1, 1) := by decide +kernel
theorem dX11_powerOf_13 : decode cX11_powerOf 13 = .ok (.imul, 1) := by decide +kernel
theorem dX11_powerOf_14 : decode cX11_powerOf 14 = .ok (.istore_n 3, 1) := by decide +kernel
theorem dX11_powerOf_15 : decode cX11_powerOf 15 = .ok (.iinc 4 1, 3) := by decide +kernel
theorem dX11_powerOf_18 : decode cX11_powerOf 18 = .ok (.goto (-13), 3) := by decide +kernel
theorem dX11_powerOf_21 : decode cX11_powerOf 21 = .ok (.iload_n 3, 1) := by decide +kernel
theorem dX11_powerOf_22 : decode cX11_powerOf 22 = .ok (.ireturn, 1) := by decide +kernel
theorem dX11_caseIn_0 : decode cX11_caseIn 0 = .ok (.iload_n 1, 1) := by decide +kernel
theorem dX11_caseIn_1 : decode cX11_caseIn 1 = .ok (.aload_n 0, 1) := by decide +kernel
theorem dX11_caseIn_2 : decode cX11_caseIn 2 = .ok (.aload_n 0, 1) := by decide +kernel
theorem dX11_caseIn_3 : decode cX11_caseIn 3 = .ok (.getfield 61, 3) := by decide +kernel
theorem dX11_caseIn_6 : decode cX11_caseIn 6 = .ok (.iconst 1, 1) := by decide +kernel
theorem dX11_caseIn_7 : decode cX11_caseIn 7 = .ok (.iadd, 1) := by decide +kernel
theorem dX11_caseIn_8 : decode cX11_caseIn 8 = .ok (.aload_n 0, 1) := by decide +kernel
theorem dX11_caseIn_9 : decode cX11_caseIn 9 = .ok (.getfield 58, 3) := by decide +kernel
theorem dX11_caseIn_12 : decode cX11_caseIn 12 = .ok (.iconst 1, 1) := by decide +kernel
theorem dX11_caseIn_13 : decode cX11_caseIn 13 = .ok (.isub, 1) := by decide +kernel
theorem dX11_caseIn_14 : decode cX11_caseIn 14 = .ok (.iload_n 2, 1) := by decide +kernel
theorem dX11_caseIn_15 : decode cX11_caseIn 15 = .ok (.isub, 1) := by decide +kernel
theorem dX11_caseIn_16 : decode cX11_caseIn 16 = .ok (.invokevirtual 239, 3) := by decide +kernel
theorem dX11_caseIn_19 : decode cX11_caseIn 19 = .ok (.idiv, 1) := by decide +kernel
theorem dX11_caseIn_20 : decode cX11_caseIn 20 = .ok (.aload_n 0, 1) := by decide +kernel
theorem dX11_caseIn_21 : decode cX11_caseIn 21 = .ok (.getfield 61, 3) := by decide +kernel
theorem dX11_caseIn_24 : decode cX11_caseIn 24 = .ok (.iconst 1, 1) := by decide +kernel
theorem dX11_caseIn_25 : decode cX11_caseIn 25 = .ok (.iadd, 1) := by decide +kernel
theorem dX11_caseIn_26 : decode cX11_caseIn 26 = .ok (.irem, 1) := by decide +kernel
theorem dX11_caseIn_27 : decode cX11_caseIn 27 = .ok (.ireturn, 1) := by decide +kernel
theorem dX11_hearsBy_0 : decode cX11_hearsBy 0 = .ok (.iconst 0, 1) := by decide +kernel
theorem dX11_hearsBy_1 : decode cX11_hearsBy 1 = .ok (.istore_n 2, 1) := by decide +kernel
theorem dX11_hearsBy_2 : decode cX11_hearsBy 2 = .ok (.aload_n 0, 1) := by decide +kernel
theorem dX11_hearsBy_3 : decode cX11_hearsBy 3 = .ok (.invokevirtual 192, 3) := by decide +kernel
theorem dX11_hearsBy_6 : decode cX11_hearsBy 6 = .ok (.iconst 0, 1) := by decide +kernel
theorem dX11_hearsBy_7 : decode cX11_hearsBy 7 = .ok (.istore_n 3, 1) := by decide +kernel
theorem dX11_hearsBy_8 : decode cX11_hearsBy 8 = .ok (.iload_n 3, 1) := by decide +kernel
theorem dX11_hearsBy_9 : decode cX11_hearsBy 9 = .ok (.aload_n 0, 1) := by decide +kernel
theorem dX11_hearsBy_10 : decode cX11_hearsBy 10 = .ok (.getfield 58, 3) := by decide +kernel
theorem dX11_hearsBy_13 : decode cX11_hearsBy 13 = .ok (.if_icmp .ge 63, 3) := by decide +kernel
theorem dX11_hearsBy_16 : decode cX11_hearsBy 16 = .ok (.aload_n 0, 1) := by decide +kernel
theorem dX11_hearsBy_17 : decode cX11_hearsBy 17 = .ok (.iload_n 1, 1) := by decide +kernel
theorem dX11_hearsBy_18 : decode cX11_hearsBy 18 = .ok (.iload_n 3, 1) := by decide +kernel
theorem dX11_hearsBy_19 : decode cX11_hearsBy 19 = .ok (.invokevirtual 242, 3) := by decide +kernel
theorem dX11_hearsBy_22 : decode cX11_hearsBy 22 = .ok (.istore 4, 2) := by decide +kernel
theorem dX11_hearsBy_24 : decode cX11_hearsBy 24 = .ok (.iload 4, 2) := by decide +kernel
theorem dX11_hearsBy_26 : decode cX11_hearsBy 26 = .ok (.aload_n 0, 1) := by decide +kernel
theorem dX11_hearsBy_27 : decode cX11_hearsBy 27 = .ok (.getfield 61, 3) := by decide +kernel
theorem dX11_hearsBy_30 : decode cX11_hearsBy 30 = .ok (.if_icmp .ge 40, 3) := by decide +kernel
theorem dX11_hearsBy_33 : decode cX11_hearsBy 33 = .ok (.aload_n 0, 1) := by decide +kernel
theorem dX11_hearsBy_34 : decode cX11_hearsBy 34 = .ok (.iload_n 3, 1) := by decide +kernel
theorem dX11_hearsBy_35 : decode cX11_hearsBy 35 = .ok (.iload 4, 2) := by decide +kernel
theorem dX11_hearsBy_37 : decode cX11_hearsBy 37 = .ok (.aload_n 0, 1) := by decide +kernel
theorem dX11_hearsBy_38 : decode cX11_hearsBy 38 = .ok (.iload 4, 2) := by decide +kernel
theorem dX11_hearsBy_40 : decode cX11_hearsBy 40 = .ok (.iconst 1, 1) := by decide +kernel
theorem dX11_hearsBy_41 : decode cX11_hearsBy 41 = .ok (.invokevirtual 145, 3) := by decide +kernel
theorem dX11_hearsBy_44 : decode cX11_hearsBy 44 = .ok (.invokevirtual 165, 3) := by decide +kernel
theorem dX11_hearsBy_47 : decode cX11_hearsBy 47 = .ok (.ifCond .ne 6, 3) := by decide +kernel
theorem dX11_hearsBy_50 : decode cX11_hearsBy 50 = .ok (.bipush (-4), 2) := by decide +kernel
theorem dX11_hearsBy_52 : decode cX11_hearsBy 52 = .ok (.ireturn, 1) := by decide +kernel
theorem dX11_hearsBy_53 : decode cX11_hearsBy 53 = .ok (.aload_n 0, 1) := by decide +kernel
theorem dX11_hearsBy_54 : decode cX11_hearsBy 54 = .ok (.iload_n 3, 1) := by decide +kernel
theorem dX11_hearsBy_55 : decode cX11_hearsBy 55 = .ok (.iload 4, 2) := by decide +kernel
theorem dX11_hearsBy_57 : decode cX11_hearsBy 57 = .ok (.aload_n 0, 1) := by decide +kernel
theorem dX11_hearsBy_58 : decode cX11_hearsBy 58 = .ok (.iload 4, 2) := by decide +kernel
theorem dX11_hearsBy_60 : decode cX11_hearsBy 60 = .ok (.iconst 1, 1) := by decide +kernel
theorem dX11_hearsBy_61 : decode cX11_hearsBy 61 = .ok (.invokevirtual 145, 3) := by decide +kernel
theorem dX11_hearsBy_64 : decode cX11_hearsBy 64 = .ok (.invokevirtual 174, 3) := by decide +kernel
theorem dX11_hearsBy_67 : decode cX11_hearsBy 67 = .ok (.iinc 2 1, 3) := by decide +kernel
theorem dX11_hearsBy_70 : decode cX11_hearsBy 70 = .ok (.iinc 3 1, 3) := by decide +kernel
theorem dX11_hearsBy_73 : decode cX11_hearsBy 73 = .ok (.goto (-65), 3) := by decide +kernel
theorem dX11_hearsBy_76 : decode cX11_hearsBy 76 = .ok (.iload_n 2, 1) := by decide +kernel
theorem dX11_hearsBy_77 : decode cX11_hearsBy 77 = .ok (.ireturn, 1) := by decide +kernel
theorem dX11_best_0 : decode cX11_best 0 = .ok (.iload_n 1, 1) := by decide +kernel
theorem dX11_best_1 : decode cX11_best 1 = .ok (.invokestatic 245, 3) := by decide +kernel
theorem dX11_best_4 : decode cX11_best 4 = .ok (.ifCond .ne 16, 3) := by decide +kernel
theorem dX11_best_7 : decode cX11_best 7 = .ok (.aload_n 0, 1) := by decide +kernel
theorem dX11_best_8 : decode cX11_best 8 = .ok (.iload_n 1, 1) := by decide +kernel
theorem dX11_best_9 : decode cX11_best 9 = .ok (.bipush 10, 2) := by decide +kernel
theorem dX11_best_11 : decode cX11_best 11 = .ok (.isub, 1) := by decide +kernel
theorem dX11_best_12 : decode cX11_best 12 = .ok (.invokevirtual 198, 3) := by decide +kernel
theorem dX11_best_15 : decode cX11_best 15 = .ok (.ifCond .ne 5, 3) := by decide +kernel
theorem dX11_best_18 : decode cX11_best 18 = .ok (.iconst (-1), 1) := by decide +kernel
theorem dX11_best_19 : decode cX11_best 19 = .ok (.ireturn, 1) := by decide +kernel
theorem dX11_best_20 : decode cX11_best 20 = .ok (.iconst (-1), 1) := by decide +kernel
theorem dX11_best_21 : decode cX11_best 21 = .ok (.istore_n 2, 1) := by decide +kernel
theorem dX11_best_22 : decode cX11_best 22 = .ok (.ldc 248, 2) := by decide +kernel
theorem dX11_best_24 : decode cX11_best 24 = .ok (.istore_n 3, 1) := by decide +kernel
theorem dX11_best_25 : decode cX11_best 25 = .ok (.iconst 0, 1) := by decide +kernel
theorem dX11_best_26 : decode cX11_best 26 = .ok (.istore 4, 2) := by decide +kernel
theorem dX11_best_28 : decode cX11_best 28 = .ok (.iconst 0, 1) := by decide +kernel
theorem dX11_best_29 : decode cX11_best 29 = .ok (.istore 5, 2) := by decide +kernel
theorem dX11_best_31 : decode cX11_best 31 = .ok (.iload 5, 2) := by decide +kernel
theorem dX11_best_33 : decode cX11_best 33 = .ok (.aload_n 0, 1) := by decide +kernel
theorem dX11_best_34 : decode cX11_best 34 = .ok (.aload_n 0, 1) := by decide +kernel
theorem dX11_best_35 : decode cX11_best 35 = .ok (.getfield 61, 3) := by decide +kernel
theorem dX11_best_38 : decode cX11_best 38 = .ok (.iconst 1, 1) := by decide +kernel
theorem dX11_best_39 : decode cX11_best 39 = .ok (.iadd, 1) := by decide +kernel
theorem dX11_best_40 : decode cX11_best 40 = .ok (.aload_n 0, 1) := by decide +kernel
theorem dX11_best_41 : decode cX11_best 41 = .ok (.getfield 58, 3) := by decide +kernel
theorem dX11_best_44 : decode cX11_best 44 = .ok (.invokevirtual 239, 3) := by decide +kernel
theorem dX11_best_47 : decode cX11_best 47 = .ok (.if_icmp .ge 90, 3) := by decide +kernel
theorem dX11_best_50 : decode cX11_best 50 = .ok (.aload_n 0, 1) := by decide +kernel
theorem dX11_best_51 : decode cX11_best 51 = .ok (.iload 5, 2) := by decide +kernel
theorem dX11_best_53 : decode cX11_best 53 = .ok (.invokevirtual 249, 3) := by decide +kernel
theorem dX11_best_56 : decode cX11_best 56 = .ok (.istore 6, 2) := by decide +kernel
theorem dX11_best_58 : decode cX11_best 58 = .ok (.iload 6, 2) := by decide +kernel
theorem dX11_best_60 : decode cX11_best 60 = .ok (.iload_n 2, 1) := by decide +kernel
theorem dX11_best_61 : decode cX11_best 61 = .ok (.if_icmp .gt 20, 3) := by decide +kernel
theorem dX11_best_64 : decode cX11_best 64 = .ok (.iload 6, 2) := by decide +kernel
theorem dX11_best_66 : decode cX11_best 66 = .ok (.iload_n 2, 1) := by decide +kernel
theorem dX11_best_67 : decode cX11_best 67 = .ok (.if_icmp .ne 18, 3) := by decide +kernel
theorem dX11_best_70 : decode cX11_best 70 = .ok (.aload_n 0, 1) := by decide +kernel
theorem dX11_best_71 : decode cX11_best 71 = .ok (.getfield 13, 3) := by decide +kernel
theorem dX11_best_74 : decode cX11_best 74 = .ok (.bipush 56, 2) := by decide +kernel
theorem dX11_best_76 : decode cX11_best 76 = .ok (.iaload, 1) := by decide +kernel
theorem dX11_best_77 : decode cX11_best 77 = .ok (.iload_n 3, 1) := by decide +kernel
theorem dX11_best_78 : decode cX11_best 78 = .ok (.if_icmp .ge 7, 3) := by decide +kernel
theorem dX11_best_81 : decode cX11_best 81 = .ok (.iconst 1, 1) := by decide +kernel
theorem dX11_best_82 : decode cX11_best 82 = .ok (.goto 4, 3) := by decide +kernel
theorem dX11_best_85 : decode cX11_best 85 = .ok (.iconst 0, 1) := by decide +kernel
theorem dX11_best_86 : decode cX11_best 86 = .ok (.istore 7, 2) := by decide +kernel
theorem dX11_best_88 : decode cX11_best 88 = .ok (.iload 7, 2) := by decide +kernel
theorem dX11_best_90 : decode cX11_best 90 = .ok (.ifCond .eq 8, 3) := by decide +kernel
theorem dX11_best_93 : decode cX11_best 93 = .ok (.iload 5, 2) := by decide +kernel
theorem dX11_best_95 : decode cX11_best 95 = .ok (.goto 5, 3) := by decide +kernel
theorem dX11_best_98 : decode cX11_best 98 = .ok (.iload 4, 2) := by decide +kernel
theorem dX11_best_100 : decode cX11_best 100 = .ok (.istore 4, 2) := by decide +kernel
theorem dX11_best_102 : decode cX11_best 102 = .ok (.iload 7, 2) := by decide +kernel
theorem dX11_best_104 : decode cX11_best 104 = .ok (.ifCond .eq 13, 3) := by decide +kernel
theorem dX11_best_107 : decode cX11_best 107 = .ok (.aload_n 0, 1) := by decide +kernel
theorem dX11_best_108 : decode cX11_best 108 = .ok (.getfield 13, 3) := by decide +kernel
theorem dX11_best_111 : decode cX11_best 111 = .ok (.bipush 56, 2) := by decide +kernel
theorem dX11_best_113 : decode cX11_best 113 = .ok (.iaload, 1) := by decide +kernel
theorem dX11_best_114 : decode cX11_best 114 = .ok (.goto 4, 3) := by decide +kernel
theorem dX11_best_117 : decode cX11_best 117 = .ok (.iload_n 3, 1) := by decide +kernel
theorem dX11_best_118 : decode cX11_best 118 = .ok (.istore_n 3, 1) := by decide +kernel
theorem dX11_best_119 : decode cX11_best 119 = .ok (.iload 7, 2) := by decide +kernel
theorem dX11_best_121 : decode cX11_best 121 = .ok (.ifCond .eq 8, 3) := by decide +kernel
theorem dX11_best_124 : decode cX11_best 124 = .ok (.iload 6, 2) := by decide +kernel
theorem dX11_best_126 : decode cX11_best 126 = .ok (.goto 4, 3) := by decide +kernel
theorem dX11_best_129 : decode cX11_best 129 = .ok (.iload_n 2, 1) := by decide +kernel
theorem dX11_best_130 : decode cX11_best 130 = .ok (.istore_n 2, 1) := by decide +kernel
theorem dX11_best_131 : decode cX11_best 131 = .ok (.iinc 5 1, 3) := by decide +kernel
theorem dX11_best_134 : decode cX11_best 134 = .ok (.goto (-103), 3) := by decide +kernel
theorem dX11_best_137 : decode cX11_best 137 = .ok (.iload_n 1, 1) := by decide +kernel
theorem dX11_best_138 : decode cX11_best 138 = .ok (.invokestatic 245, 3) := by decide +kernel
theorem dX11_best_141 : decode cX11_best 141 = .ok (.ifCond .eq 13, 3) := by decide +kernel
theorem dX11_best_144 : decode cX11_best 144 = .ok (.iload_n 1, 1) := by decide +kernel
theorem dX11_best_145 : decode cX11_best 145 = .ok (.ifCond .ne 7, 3) := by decide +kernel
theorem dX11_best_148 : decode cX11_best 148 = .ok (.iload_n 2, 1) := by decide +kernel
theorem dX11_best_149 : decode cX11_best 149 = .ok (.goto 4, 3) := by decide +kernel
theorem dX11_best_152 : decode cX11_best 152 = .ok (.iload_n 3, 1) := by decide +kernel
theorem dX11_best_153 : decode cX11_best 153 = .ok (.ireturn, 1) := by decide +kernel
theorem dX11_best_154 : decode cX11_best 154 = .ok (.aload_n 0, 1) := by decide +kernel
theorem dX11_best_155 : decode cX11_best 155 = .ok (.iload 4, 2) := by decide +kernel
theorem dX11_best_157 : decode cX11_best 157 = .ok (.iload_n 1, 1) := by decide +kernel
theorem dX11_best_158 : decode cX11_best 158 = .ok (.bipush 10, 2) := by decide +kernel
theorem dX11_best_160 : decode cX11_best 160 = .ok (.isub, 1) := by decide +kernel
theorem dX11_best_161 : decode cX11_best 161 = .ok (.invokevirtual 242, 3) := by decide +kernel
theorem dX11_best_164 : decode cX11_best 164 = .ok (.istore 5, 2) := by decide +kernel
theorem dX11_best_166 : decode cX11_best 166 = .ok (.iload 5, 2) := by decide +kernel
theorem dX11_best_168 : decode cX11_best 168 = .ok (.aload_n 0, 1) := by decide +kernel
theorem dX11_best_169 : decode cX11_best 169 = .ok (.getfield 61, 3) := by decide +kernel
theorem dX11_best_172 : decode cX11_best 172 = .ok (.if_icmp .ge 8, 3) := by decide +kernel
theorem dX11_best_175 : decode cX11_best 175 = .ok (.iload 5, 2) := by decide +kernel
theorem dX11_best_177 : decode cX11_best 177 = .ok (.goto 5, 3) := by decide +kernel
theorem dX11_best_180 : decode cX11_best 180 = .ok (.bipush (-4), 2) := by decide +kernel
theorem dX11_best_182 : decode cX11_best 182 = .ok (.ireturn, 1) := by decide +kernel
theorem dX11_deter_0 : decode cX11_deter 0 = .ok (.aload_n 0, 1) := by decide +kernel
theorem dX11_deter_1 : decode cX11_deter 1 = .ok (.iload_n 1, 1) := by decide +kernel
theorem dX11_deter_2 : decode cX11_deter 2 = .ok (.invokevirtual 204, 3) := by decide +kernel
theorem dX11_deter_5 : decode cX11_deter 5 = .ok (.ifCond .eq 15, 3) := by decide +kernel
theorem dX11_deter_8 : decode cX11_deter 8 = .ok (.iload_n 2, 1) := by decide +kernel
theorem dX11_deter_9 : decode cX11_deter 9 = .ok (.i2l, 1) := by decide +kernel
theorem dX11_deter_10 : decode cX11_deter 10 = .ok (.lconst 0, 1) := by decide +kernel
theorem dX11_deter_11 : decode cX11_deter 11 = .ok (.ldc2_w 213, 3) := by decide +kernel
theorem dX11_deter_14 : decode cX11_deter 14 = .ok (.invokestatic 66, 3) := by decide +kernel
theorem dX11_deter_17 : decode cX11_deter 17 = .ok (.ifCond .ne 5, 3) := by decide +kernel
theorem dX11_deter_20 : decode cX11_deter 20 = .ok (.iconst (-1), 1) := by decide +kernel
theorem dX11_deter_21 : decode cX11_deter 21 = .ok (.ireturn, 1) := by decide +kernel
theorem dX11_deter_22 : decode cX11_deter 22 = .ok (.aload_n 0, 1) := by decide +kernel
theorem dX11_deter_23 : decode cX11_deter 23 = .ok (.iload_n 1, 1) := by decide +kernel
theorem dX11_deter_24 : decode cX11_deter 24 = .ok (.invokevirtual 218, 3) := by decide +kernel
theorem dX11_deter_27 : decode cX11_deter 27 = .ok (.ifCond .eq 6, 3) := by decide +kernel
theorem dX11_deter_30 : decode cX11_deter 30 = .ok (.bipush (-2), 2) := by decide +kernel
theorem dX11_deter_32 : decode cX11_deter 32 = .ok (.ireturn, 1) := by decide +kernel
theorem dX11_deter_33 : decode cX11_deter 33 = .ok (.aload_n 0, 1) := by decide +kernel
theorem dX11_deter_34 : decode cX11_deter 34 = .ok (.getfield 7, 3) := by decide +kernel
theorem dX11_deter_37 : decode cX11_deter 37 = .ok (.bipush 20, 2) := by decide +kernel
theorem dX11_deter_39 : decode cX11_deter 39 = .ok (.bipush 7, 2) := by decide +kernel
theorem dX11_deter_41 : decode cX11_deter 41 = .ok (.iload_n 1, 1) := by decide +kernel
theorem dX11_deter_42 : decode cX11_deter 42 = .ok (.imul, 1) := by decide +kernel
theorem dX11_deter_43 : decode cX11_deter 43 = .ok (.iadd, 1) := by decide +kernel
theorem dX11_deter_44 : decode cX11_deter 44 = .ok (.iconst 1, 1) := by decide +kernel
theorem dX11_deter_45 : decode cX11_deter 45 = .ok (.iadd, 1) := by decide +kernel
theorem dX11_deter_46 : decode cX11_deter 46 = .ok (.iaload, 1) := by decide +kernel
theorem dX11_deter_47 : decode cX11_deter 47 = .ok (.istore_n 3, 1) := by decide +kernel
theorem dX11_deter_48 : decode cX11_deter 48 = .ok (.iload_n 3, 1) := by decide +kernel
theorem dX11_deter_49 : decode cX11_deter 49 = .ok (.aload_n 0, 1) := by decide +kernel
theorem dX11_deter_50 : decode cX11_deter 50 = .ok (.getfield 7, 3) := by decide +kernel
theorem dX11_deter_53 : decode cX11_deter 53 = .ok (.bipush 20, 2) := by decide +kernel
theorem dX11_deter_55 : decode cX11_deter 55 = .ok (.bipush 7, 2) := by decide +kernel
theorem dX11_deter_57 : decode cX11_deter 57 = .ok (.iload_n 1, 1) := by decide +kernel
theorem dX11_deter_58 : decode cX11_deter 58 = .ok (.imul, 1) := by decide +kernel
theorem dX11_deter_59 : decode cX11_deter 59 = .ok (.iadd, 1) := by decide +kernel
theorem dX11_deter_60 : decode cX11_deter 60 = .ok (.iconst 2, 1) := by decide +kernel
theorem dX11_deter_61 : decode cX11_deter 61 = .ok (.iadd, 1) := by decide +kernel
theorem dX11_deter_62 : decode cX11_deter 62 = .ok (.iaload, 1) := by decide +kernel
theorem dX11_deter_63 : decode cX11_deter 63 = .ok (.if_icmp .gt 26, 3) := by decide +kernel
theorem dX11_deter_66 : decode cX11_deter 66 = .ok (.aload_n 0, 1) := by decide +kernel
theorem dX11_deter_67 : decode cX11_deter 67 = .ok (.getfield 7, 3) := by decide +kernel
theorem dX11_deter_70 : decode cX11_deter 70 = .ok (.bipush 56, 2) := by decide +kernel
theorem dX11_deter_72 : decode cX11_deter 72 = .ok (.iaload, 1) := by decide +kernel
theorem dX11_deter_73 : decode cX11_deter 73 = .ok (.iload_n 3, 1) := by decide +kernel
theorem dX11_deter_74 : decode cX11_deter 74 = .ok (.iconst 5, 1) := by decide +kernel
theorem dX11_deter_75 : decode cX11_deter 75 = .ok (.idiv, 1) := by decide +kernel
theorem dX11_deter_76 : decode cX11_deter 76 = .ok (.isub, 1) := by decide +kernel
theorem dX11_deter_77 : decode cX11_deter 77 = .ok (.iload_n 2, 1) := by decide +kernel
theorem dX11_deter_78 : decode cX11_deter 78 = .ok (.if_icmp .gt 5, 3) := by decide +kernel
theorem dX11_deter_81 : decode cX11_deter 81 = .ok (.iload_n 3, 1) := by decide +kernel
theorem dX11_deter_82 : decode cX11_deter 82 = .ok (.ireturn, 1) := by decide +kernel
theorem dX11_deter_83 : decode cX11_deter 83 = .ok (.iinc 3 1, 3) := by decide +kernel
theorem dX11_deter_86 : decode cX11_deter 86 = .ok (.goto (-38), 3) := by decide +kernel
theorem dX11_deter_89 : decode cX11_deter 89 = .ok (.bipush (-4), 2) := by decide +kernel
theorem dX11_deter_91 : decode cX11_deter 91 = .ok (.ireturn, 1) := by decide +kernel
theorem dX11_isOrder_0 : decode cX11_isOrder 0 = .ok (.iload_n 1, 1) := by decide +kernel
theorem dX11_isOrder_1 : decode cX11_isOrder 1 = .ok (.istore_n 2, 1) := by decide +kernel
theorem dX11_isOrder_2 : decode cX11_isOrder 2 = .ok (.iconst 0, 1) := by decide +kernel
theorem dX11_isOrder_3 : decode cX11_isOrder 3 = .ok (.istore_n 3, 1) := by decide +kernel
theorem dX11_isOrder_4 : decode cX11_isOrder 4 = .ok (.aload_n 0, 1) := by decide +kernel
theorem dX11_isOrder_5 : decode cX11_isOrder 5 = .ok (.getfield 58, 3) := by decide +kernel
theorem dX11_isOrder_8 : decode cX11_isOrder 8 = .ok (.iconst 1, 1) := by decide +kernel
theorem dX11_isOrder_9 : decode cX11_isOrder 9 = .ok (.isub, 1) := by decide +kernel
theorem dX11_isOrder_10 : decode cX11_isOrder 10 = .ok (.istore 4, 2) := by decide +kernel
theorem dX11_isOrder_12 : decode cX11_isOrder 12 = .ok (.iload 4, 2) := by decide +kernel
theorem dX11_isOrder_14 : decode cX11_isOrder 14 = .ok (.ifCond .lt 41, 3) := by decide +kernel
theorem dX11_isOrder_17 : decode cX11_isOrder 17 = .ok (.aload_n 0, 1) := by decide +kernel
theorem dX11_isOrder_18 : decode cX11_isOrder 18 = .ok (.getfield 26, 3) := by decide +kernel
theorem dX11_isOrder_21 : decode cX11_isOrder 21 = .ok (.iload 4, 2) := by decide +kernel
theorem dX11_isOrder_23 : decode cX11_isOrder 23 = .ok (.iload_n 2, 1) := by decide +kernel
theorem dX11_isOrder_24 : decode cX11_isOrder 24 = .ok (.aload_n 0, 1) := by decide +kernel
theorem dX11_isOrder_25 : decode cX11_isOrder 25 = .ok (.getfield 58, 3) := by decide +kernel
theorem dX11_isOrder_28 : decode cX11_isOrder 28 = .ok (.irem, 1) := by decide +kernel
theorem dX11_isOrder_29 : decode cX11_isOrder 29 = .ok (.iastore, 1) := by decide +kernel
theorem dX11_isOrder_30 : decode cX11_isOrder 30 = .ok (.iload_n 2, 1) := by decide +kernel
theorem dX11_isOrder_31 : decode cX11_isOrder 31 = .ok (.aload_n 0, 1) := by decide +kernel
theorem dX11_isOrder_32 : decode cX11_isOrder 32 = .ok (.getfield 58, 3) := by decide +kernel
theorem dX11_isOrder_35 : decode cX11_isOrder 35 = .ok (.idiv, 1) := by decide +kernel
theorem dX11_isOrder_36 : decode cX11_isOrder 36 = .ok (.istore_n 2, 1) := by decide +kernel
theorem dX11_isOrder_37 : decode cX11_isOrder 37 = .ok (.iload_n 3, 1) := by decide +kernel
theorem dX11_isOrder_38 : decode cX11_isOrder 38 = .ok (.iconst 1, 1) := by decide +kernel
theorem dX11_isOrder_39 : decode cX11_isOrder 39 = .ok (.aload_n 0, 1) := by decide +kernel
theorem dX11_isOrder_40 : decode cX11_isOrder 40 = .ok (.getfield 26, 3) := by decide +kernel
theorem dX11_isOrder_43 : decode cX11_isOrder 43 = .ok (.iload 4, 2) := by decide +kernel
theorem dX11_isOrder_45 : decode cX11_isOrder 45 = .ok (.iaload, 1) := by decide +kernel
theorem dX11_isOrder_46 : decode cX11_isOrder 46 = .ok (.ishl, 1) := by decide +kernel
theorem dX11_isOrder_47 : decode cX11_isOrder 47 = .ok (.ior, 1) := by decide +kernel
theorem dX11_isOrder_48 : decode cX11_isOrder 48 = .ok (.istore_n 3, 1) := by decide +kernel
theorem dX11_isOrder_49 : decode cX11_isOrder 49 = .ok (.iinc 4 (-1), 3) := by decide +kernel
theorem dX11_isOrder_52 : decode cX11_isOrder 52 = .ok (.goto (-40), 3) := by decide +kernel
theorem dX11_isOrder_55 : decode cX11_isOrder 55 = .ok (.iload_n 3, 1) := by decide +kernel
theorem dX11_isOrder_56 : decode cX11_isOrder 56 = .ok (.iconst 1, 1) := by decide +kernel
theorem dX11_isOrder_57 : decode cX11_isOrder 57 = .ok (.aload_n 0, 1) := by decide +kernel
theorem dX11_isOrder_58 : decode cX11_isOrder 58 = .ok (.getfield 58, 3) := by decide +kernel
theorem dX11_isOrder_61 : decode cX11_isOrder 61 = .ok (.ishl, 1) := by decide +kernel
theorem dX11_isOrder_62 : decode cX11_isOrder 62 = .ok (.iconst 1, 1) := by decide +kernel
theorem dX11_isOrder_63 : decode cX11_isOrder 63 = .ok (.isub, 1) := by decide +kernel
theorem dX11_isOrder_64 : decode cX11_isOrder 64 = .ok (.if_icmp .ne 7, 3) := by decide +kernel
theorem dX11_isOrder_67 : decode cX11_isOrder 67 = .ok (.iconst 1, 1) := by decide +kernel
theorem dX11_isOrder_68 : decode cX11_isOrder 68 = .ok (.goto 4, 3) := by decide +kernel
theorem dX11_isOrder_71 : decode cX11_isOrder 71 = .ok (.iconst 0, 1) := by decide +kernel
theorem dX11_isOrder_72 : decode cX11_isOrder 72 = .ok (.ireturn, 1) := by decide +kernel
theorem dX11_order_0 : decode cX11_order 0 = .ok (.iload_n 1, 1) := by decide +kernel
theorem dX11_order_1 : decode cX11_order 1 = .ok (.i2l, 1) := by decide +kernel
theorem dX11_order_2 : decode cX11_order 2 = .ok (.lconst 0, 1) := by decide +kernel
theorem dX11_order_3 : decode cX11_order 3 = .ok (.ldc2_w 231, 3) := by decide +kernel
theorem dX11_order_6 : decode cX11_order 6 = .ok (.invokestatic 66, 3) := by decide +kernel
theorem dX11_order_9 : decode cX11_order 9 = .ok (.ifCond .eq 22, 3) := by decide +kernel
theorem dX11_order_12 : decode cX11_order 12 = .ok (.iload_n 2, 1) := by decide +kernel
theorem dX11_order_13 : decode cX11_order 13 = .ok (.ifCond .eq 20, 3) := by decide +kernel
theorem dX11_order_16 : decode cX11_order 16 = .ok (.iload_n 2, 1) := by decide +kernel
theorem dX11_order_17 : decode cX11_order 17 = .ok (.bipush 10, 2) := by decide +kernel
theorem dX11_order_19 : decode cX11_order 19 = .ok (.isub, 1) := by decide +kernel
theorem dX11_order_20 : decode cX11_order 20 = .ok (.i2l, 1) := by decide +kernel
theorem dX11_order_21 : decode cX11_order 21 = .ok (.lconst 0, 1) := by decide +kernel
theorem dX11_order_22 : decode cX11_order 22 = .ok (.ldc2_w 209, 3) := by decide +kernel
theorem dX11_order_25 : decode cX11_order 25 = .ok (.invokestatic 66, 3) := by decide +kernel
theorem dX11_order_28 : decode cX11_order 28 = .ok (.ifCond .ne 5, 3) := by decide +kernel
theorem dX11_order_31 : decode cX11_order 31 = .ok (.iconst (-1), 1) := by decide +kernel
theorem dX11_order_32 : decode cX11_order 32 = .ok (.ireturn, 1) := by decide +kernel
theorem dX11_order_33 : decode cX11_order 33 = .ok (.iconst (-1), 1) := by decide +kernel
theorem dX11_order_34 : decode cX11_order 34 = .ok (.istore_n 3, 1) := by decide +kernel
theorem dX11_order_35 : decode cX11_order 35 = .ok (.iconst 0, 1) := by decide +kernel
theorem dX11_order_36 : decode cX11_order 36 = .ok (.istore 4, 2) := by decide +kernel
theorem dX11_order_38 : decode cX11_order 38 = .ok (.aload_n 0, 1) := by decide +kernel
theorem dX11_order_39 : decode cX11_order 39 = .ok (.iconst 0, 1) := by decide +kernel
theorem dX11_order_40 : decode cX11_order 40 = .ok (.putfield 168, 3) := by decide +kernel
theorem dX11_order_43 : decode cX11_order 43 = .ok (.iconst 0, 1) := by decide +kernel
theorem dX11_order_44 : decode cX11_order 44 = .ok (.istore 5, 2) := by decide +kernel
theorem dX11_order_46 : decode cX11_order 46 = .ok (.iload 5, 2) := by decide +kernel
theorem dX11_order_48 : decode cX11_order 48 = .ok (.aload_n 0, 1) := by decide +kernel
theorem dX11_order_49 : decode cX11_order 49 = .ok (.aload_n 0, 1) := by decide +kernel
theorem dX11_order_50 : decode cX11_order 50 = .ok (.getfield 58, 3) := by decide +kernel
theorem dX11_order_53 : decode cX11_order 53 = .ok (.aload_n 0, 1) := by decide +kernel
theorem dX11_order_54 : decode cX11_order 54 = .ok (.getfield 58, 3) := by decide +kernel
theorem dX11_order_57 : decode cX11_order 57 = .ok (.invokevirtual 239, 3) := by decide +kernel
theorem dX11_order_60 : decode cX11_order 60 = .ok (.if_icmp .ge 57, 3) := by decide +kernel
theorem dX11_order_63 : decode cX11_order 63 = .ok (.aload_n 0, 1) := by decide +kernel
theorem dX11_order_64 : decode cX11_order 64 = .ok (.invokevirtual 192, 3) := by decide +kernel
theorem dX11_order_67 : decode cX11_order 67 = .ok (.aload_n 0, 1) := by decide +kernel
theorem dX11_order_68 : decode cX11_order 68 = .ok (.iload 5, 2) := by decide +kernel
theorem dX11_order_70 : decode cX11_order 70 = .ok (.invokevirtual 252, 3) := by decide +kernel
theorem dX11_order_73 : decode cX11_order 73 = .ok (.ifCond .eq 38, 3) := by decide +kernel
theorem dX11_order_76 : decode cX11_order 76 = .ok (.aload_n 0, 1) := by decide +kernel
theorem dX11_order_77 : decode cX11_order 77 = .ok (.iload_n 1, 1) := by decide +kernel
theorem dX11_order_78 : decode cX11_order 78 = .ok (.invokevirtual 236, 3) := by decide +kernel
theorem dX11_order_81 : decode cX11_order 81 = .ok (.istore 6, 2) := by decide +kernel
theorem dX11_order_83 : decode cX11_order 83 = .ok (.iload 6, 2) := by decide +kernel
theorem dX11_order_85 : decode cX11_order 85 = .ok (.iload_n 3, 1) := by decide +kernel
theorem dX11_order_86 : decode cX11_order 86 = .ok (.if_icmp .le 8, 3) := by decide +kernel
theorem dX11_order_89 : decode cX11_order 89 = .ok (.iload 5, 2) := by decide +kernel
theorem dX11_order_91 : decode cX11_order 91 = .ok (.goto 5, 3) := by decide +kernel
theorem dX11_order_94 : decode cX11_order 94 = .ok (.iload 4, 2) := by decide +kernel
theorem dX11_order_96 : decode cX11_order 96 = .ok (.istore 4, 2) := by decide +kernel
theorem dX11_order_98 : decode cX11_order 98 = .ok (.iload 6, 2) := by decide +kernel
theorem dX11_order_100 : decode cX11_order 100 = .ok (.iload_n 3, 1) := by decide +kernel
theorem dX11_order_101 : decode cX11_order 101 = .ok (.if_icmp .le 8, 3) := by decide +kernel
theorem dX11_order_104 : decode cX11_order 104 = .ok (.iload 6, 2) := by decide +kernel
theorem dX11_order_106 : decode cX11_order 106 = .ok (.goto 4, 3) := by decide +kernel
theorem dX11_order_109 : decode cX11_order 109 = .ok (.iload_n 3, 1) := by decide +kernel
theorem dX11_order_110 : decode cX11_order 110 = .ok (.istore_n 3, 1) := by decide +kernel
theorem dX11_order_111 : decode cX11_order 111 = .ok (.iinc 5 1, 3) := by decide +kernel
theorem dX11_order_114 : decode cX11_order 114 = .ok (.goto (-68), 3) := by decide +kernel
theorem dX11_order_117 : decode cX11_order 117 = .ok (.aload_n 0, 1) := by decide +kernel
theorem dX11_order_118 : decode cX11_order 118 = .ok (.iload 4, 2) := by decide +kernel
theorem dX11_order_120 : decode cX11_order 120 = .ok (.invokevirtual 252, 3) := by decide +kernel
theorem dX11_order_123 : decode cX11_order 123 = .ok (.pop, 1) := by decide +kernel
theorem dX11_order_124 : decode cX11_order 124 = .ok (.iload_n 2, 1) := by decide +kernel
theorem dX11_order_125 : decode cX11_order 125 = .ok (.ifCond .ne 7, 3) := by decide +kernel
theorem dX11_order_128 : decode cX11_order 128 = .ok (.iload_n 3, 1) := by decide +kernel
theorem dX11_order_129 : decode cX11_order 129 = .ok (.goto 28, 3) := by decide +kernel
theorem dX11_order_132 : decode cX11_order 132 = .ok (.iload_n 2, 1) := by decide +kernel
theorem dX11_order_133 : decode cX11_order 133 = .ok (.bipush 10, 2) := by decide +kernel
theorem dX11_order_135 : decode cX11_order 135 = .ok (.isub, 1) := by decide +kernel
theorem dX11_order_136 : decode cX11_order 136 = .ok (.aload_n 0, 1) := by decide +kernel
theorem dX11_order_137 : decode cX11_order 137 = .ok (.getfield 58, 3) := by decide +kernel
theorem dX11_order_140 : decode cX11_order 140 = .ok (.if_icmp .ge 15, 3) := by decide +kernel
theorem dX11_order_143 : decode cX11_order 143 = .ok (.aload_n 0, 1) := by decide +kernel
theorem dX11_order_144 : decode cX11_order 144 = .ok (.getfield 26, 3) := by decide +kernel
theorem dX11_order_147 : decode cX11_order 147 = .ok (.iload_n 2, 1) := by decide +kernel
theorem dX11_order_148 : decode cX11_order 148 = .ok (.bipush 10, 2) := by decide +kernel
theorem dX11_order_150 : decode cX11_order 150 = .ok (.isub, 1) := by decide +kernel
theorem dX11_order_151 : decode cX11_order 151 = .ok (.iaload, 1) := by decide +kernel
theorem dX11_order_152 : decode cX11_order 152 = .ok (.goto 5, 3) := by decide +kernel
theorem dX11_order_155 : decode cX11_order 155 = .ok (.bipush (-4), 2) := by decide +kernel
theorem dX11_order_157 : decode cX11_order 157 = .ok (.ireturn, 1) := by decide +kernel
theorem dX11_spare_0 : decode cX11_spare 0 = .ok (.iload_n 1, 1) := by decide +kernel
theorem dX11_spare_1 : decode cX11_spare 1 = .ok (.i2l, 1) := by decide +kernel
theorem dX11_spare_2 : decode cX11_spare 2 = .ok (.lconst 0, 1) := by decide +kernel
theorem dX11_spare_3 : decode cX11_spare 3 = .ok (.ldc2_w 231, 3) := by decide +kernel
theorem dX11_spare_6 : decode cX11_spare 6 = .ok (.invokestatic 66, 3) := by decide +kernel
theorem dX11_spare_9 : decode cX11_spare 9 = .ok (.ifCond .ne 5, 3) := by decide +kernel
theorem dX11_spare_12 : decode cX11_spare 12 = .ok (.iconst (-1), 1) := by decide +kernel
theorem dX11_spare_13 : decode cX11_spare 13 = .ok (.ireturn, 1) := by decide +kernel
theorem dX11_spare_14 : decode cX11_spare 14 = .ok (.aload_n 0, 1) := by decide +kernel
theorem dX11_spare_15 : decode cX11_spare 15 = .ok (.invokevirtual 192, 3) := by decide +kernel
theorem dX11_spare_18 : decode cX11_spare 18 = .ok (.aload_n 0, 1) := by decide +kernel
theorem dX11_spare_19 : decode cX11_spare 19 = .ok (.iconst 0, 1) := by decide +kernel
theorem dX11_spare_20 : decode cX11_spare 20 = .ok (.putfield 168, 3) := by decide +kernel
theorem dX11_spare_23 : decode cX11_spare 23 = .ok (.aload_n 0, 1) := by decide +kernel
theorem dX11_spare_24 : decode cX11_spare 24 = .ok (.iload_n 1, 1) := by decide +kernel
theorem dX11_spare_25 : decode cX11_spare 25 = .ok (.invokevirtual 236, 3) := by decide +kernel
theorem dX11_spare_28 : decode cX11_spare 28 = .ok (.istore_n 2, 1) := by decide +kernel
theorem dX11_spare_29 : decode cX11_spare 29 = .ok (.bipush (-4), 2) := by decide +kernel
theorem dX11_spare_31 : decode cX11_spare 31 = .ok (.istore_n 3, 1) := by decide +kernel
theorem dX11_spare_32 : decode cX11_spare 32 = .ok (.iconst 0, 1) := by decide +kernel
theorem dX11_spare_33 : decode cX11_spare 33 = .ok (.istore 4, 2) := by decide +kernel
theorem dX11_spare_35 : decode cX11_spare 35 = .ok (.iload 4, 2) := by decide +kernel
theorem dX11_spare_37 : decode cX11_spare 37 = .ok (.aload_n 0, 1) := by decide +kernel
theorem dX11_spare_38 : decode cX11_spare 38 = .ok (.getfield 58, 3) := by decide +kernel
theorem dX11_spare_41 : decode cX11_spare 41 = .ok (.if_icmp .ge 37, 3) := by decide +kernel
theorem dX11_spare_44 : decode cX11_spare 44 = .ok (.aload_n 0, 1) := by decide +kernel
theorem dX11_spare_45 : decode cX11_spare 45 = .ok (.invokevirtual 192, 3) := by decide +kernel
theorem dX11_spare_48 : decode cX11_spare 48 = .ok (.aload_n 0, 1) := by decide +kernel
theorem dX11_spare_49 : decode cX11_spare 49 = .ok (.iconst 1, 1) := by decide +kernel
theorem dX11_spare_50 : decode cX11_spare 50 = .ok (.iload 4, 2) := by decide +kernel
theorem dX11_spare_52 : decode cX11_spare 52 = .ok (.ishl, 1) := by decide +kernel
theorem dX11_spare_53 : decode cX11_spare 53 = .ok (.putfield 168, 3) := by decide +kernel
theorem dX11_spare_56 : decode cX11_spare 56 = .ok (.aload_n 0, 1) := by decide +kernel
theorem dX11_spare_57 : decode cX11_spare 57 = .ok (.iload_n 1, 1) := by decide +kernel
theorem dX11_spare_58 : decode cX11_spare 58 = .ok (.invokevirtual 236, 3) := by decide +kernel
theorem dX11_spare_61 : decode cX11_spare 61 = .ok (.iload_n 2, 1) := by decide +kernel
theorem dX11_spare_62 : decode cX11_spare 62 = .ok (.if_icmp .ne 8, 3) := by decide +kernel
theorem dX11_spare_65 : decode cX11_spare 65 = .ok (.iload 4, 2) := by decide +kernel
theorem dX11_spare_67 : decode cX11_spare 67 = .ok (.goto 4, 3) := by decide +kernel
theorem dX11_spare_70 : decode cX11_spare 70 = .ok (.iload_n 3, 1) := by decide +kernel
theorem dX11_spare_71 : decode cX11_spare 71 = .ok (.istore_n 3, 1) := by decide +kernel
theorem dX11_spare_72 : decode cX11_spare 72 = .ok (.iinc 4 1, 3) := by decide +kernel
theorem dX11_spare_75 : decode cX11_spare 75 = .ok (.goto (-40), 3) := by decide +kernel
theorem dX11_spare_78 : decode cX11_spare 78 = .ok (.aload_n 0, 1) := by decide +kernel
theorem dX11_spare_79 : decode cX11_spare 79 = .ok (.iconst 0, 1) := by decide +kernel
theorem dX11_spare_80 : decode cX11_spare 80 = .ok (.putfield 168, 3) := by decide +kernel
theorem dX11_spare_83 : decode cX11_spare 83 = .ok (.iload_n 3, 1) := by decide +kernel
theorem dX11_spare_84 : decode cX11_spare 84 = .ok (.ireturn, 1) := by decide +kernel
theorem dX11_hopeless_0 : decode cX11_hopeless 0 = .ok (.iconst 0, 1) := by decide +kernel
theorem dX11_hopeless_1 : decode cX11_hopeless 1 = .ok (.istore_n 1, 1) := by decide +kernel
theorem dX11_hopeless_2 : decode cX11_hopeless 2 = .ok (.aload_n 0, 1) := by decide +kernel
theorem dX11_hopeless_3 : decode cX11_hopeless 3 = .ok (.invokevirtual 192, 3) := by decide +kernel
theorem dX11_hopeless_6 : decode cX11_hopeless 6 = .ok (.iconst 0, 1) := by decide +kernel
theorem dX11_hopeless_7 : decode cX11_hopeless 7 = .ok (.istore_n 2, 1) := by decide +kernel
theorem dX11_hopeless_8 : decode cX11_hopeless 8 = .ok (.iload_n 2, 1) := by decide +kernel
theorem dX11_hopeless_9 : decode cX11_hopeless 9 = .ok (.aload_n 0, 1) := by decide +kernel
theorem dX11_hopeless_10 : decode cX11_hopeless 10 = .ok (.getfield 61, 3) := by decide +kernel
theorem dX11_hopeless_13 : decode cX11_hopeless 13 = .ok (.if_icmp .ge 77, 3) := by decide +kernel
theorem dX11_hopeless_16 : decode cX11_hopeless 16 = .ok (.aload_n 0, 1) := by decide +kernel
theorem dX11_hopeless_17 : decode cX11_hopeless 17 = .ok (.iload_n 2, 1) := by decide +kernel
theorem dX11_hopeless_18 : decode cX11_hopeless 18 = .ok (.iconst 4, 1) := by decide +kernel
theorem dX11_hopeless_19 : decode cX11_hopeless 19 = .ok (.invokevirtual 145, 3) := by decide +kernel
theorem dX11_hopeless_22 : decode cX11_hopeless 22 = .ok (.ifCond .ne 7, 3) := by decide +kernel
theorem dX11_hopeless_25 : decode cX11_hopeless 25 = .ok (.iconst 1, 1) := by decide +kernel
theorem dX11_hopeless_26 : decode cX11_hopeless 26 = .ok (.goto 4, 3) := by decide +kernel
theorem dX11_hopeless_29 : decode cX11_hopeless 29 = .ok (.iconst 0, 1) := by decide +kernel
theorem dX11_hopeless_30 : decode cX11_hopeless 30 = .ok (.istore_n 3, 1) := by decide +kernel
theorem dX11_hopeless_31 : decode cX11_hopeless 31 = .ok (.iconst 0, 1) := by decide +kernel
theorem dX11_hopeless_32 : decode cX11_hopeless 32 = .ok (.istore 4, 2) := by decide +kernel
theorem dX11_hopeless_34 : decode cX11_hopeless 34 = .ok (.iload 4, 2) := by decide +kernel
theorem dX11_hopeless_36 : decode cX11_hopeless 36 = .ok (.aload_n 0, 1) := by decide +kernel
theorem dX11_hopeless_37 : decode cX11_hopeless 37 = .ok (.getfield 58, 3) := by decide +kernel
theorem dX11_hopeless_40 : decode cX11_hopeless 40 = .ok (.if_icmp .ge 35, 3) := by decide +kernel
theorem dX11_hopeless_43 : decode cX11_hopeless 43 = .ok (.iload_n 3, 1) := by decide +kernel
theorem dX11_hopeless_44 : decode cX11_hopeless 44 = .ok (.ifCond .eq 23, 3) := by decide +kernel
theorem dX11_hopeless_47 : decode cX11_hopeless 47 = .ok (.aload_n 0, 1) := by decide +kernel
theorem dX11_hopeless_48 : decode cX11_hopeless 48 = .ok (.iload 4, 2) := by decide +kernel
theorem dX11_hopeless_50 : decode cX11_hopeless 50 = .ok (.iload_n 2, 1) := by decide +kernel
theorem dX11_hopeless_51 : decode cX11_hopeless 51 = .ok (.aload_n 0, 1) := by decide +kernel
theorem dX11_hopeless_52 : decode cX11_hopeless 52 = .ok (.iload_n 2, 1) := by decide +kernel
theorem dX11_hopeless_53 : decode cX11_hopeless 53 = .ok (.iconst 1, 1) := by decide +kernel
theorem dX11_hopeless_54 : decode cX11_hopeless 54 = .ok (.invokevirtual 145, 3) := by decide +kernel
theorem dX11_hopeless_57 : decode cX11_hopeless 57 = .ok (.invokevirtual 148, 3) := by decide +kernel
theorem dX11_hopeless_60 : decode cX11_hopeless 60 = .ok (.ifCond .ne 7, 3) := by decide +kernel
theorem dX11_hopeless_63 : decode cX11_hopeless 63 = .ok (.iconst 1, 1) := by decide +kernel
theorem dX11_hopeless_64 : decode cX11_hopeless 64 = .ok (.goto 4, 3) := by decide +kernel
theorem dX11_hopeless_67 : decode cX11_hopeless 67 = .ok (.iconst 0, 1) := by decide +kernel
theorem dX11_hopeless_68 : decode cX11_hopeless 68 = .ok (.istore_n 3, 1) := by decide +kernel
theorem dX11_hopeless_69 : decode cX11_hopeless 69 = .ok (.iinc 4 1, 3) := by decide +kernel
theorem dX11_hopeless_72 : decode cX11_hopeless 72 = .ok (.goto (-38), 3) := by decide +kernel
theorem dX11_hopeless_75 : decode cX11_hopeless 75 = .ok (.iload_n 1, 1) := by decide +kernel
theorem dX11_hopeless_76 : decode cX11_hopeless 76 = .ok (.iload_n 3, 1) := by decide +kernel
theorem dX11_hopeless_77 : decode cX11_hopeless 77 = .ok (.invokestatic 161, 3) := by decide +kernel
theorem dX11_hopeless_80 : decode cX11_hopeless 80 = .ok (.iload_n 2, 1) := by decide +kernel
theorem dX11_hopeless_81 : decode cX11_hopeless 81 = .ok (.ishl, 1) := by decide +kernel
theorem dX11_hopeless_82 : decode cX11_hopeless 82 = .ok (.ior, 1) := by decide +kernel
theorem dX11_hopeless_83 : decode cX11_hopeless 83 = .ok (.istore_n 1, 1) := by decide +kernel
theorem dX11_hopeless_84 : decode cX11_hopeless 84 = .ok (.iinc 2 1, 3) := by decide +kernel
theorem dX11_hopeless_87 : decode cX11_hopeless 87 = .ok (.goto (-79), 3) := by decide +kernel
theorem dX11_hopeless_90 : decode cX11_hopeless 90 = .ok (.iload_n 1, 1) := by decide +kernel
theorem dX11_hopeless_91 : decode cX11_hopeless 91 = .ok (.ireturn, 1) := by decide +kernel
theorem dX11_common_0 : decode cX11_common 0 = .ok (.lload_n 0, 1) := by decide +kernel
theorem dX11_common_1 : decode cX11_common 1 = .ok (.lstore 4, 2) := by decide +kernel
theorem dX11_common_3 : decode cX11_common 3 = .ok (.lload_n 2, 1) := by decide +kernel
