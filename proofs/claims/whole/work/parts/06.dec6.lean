theorem dX11_init_0 : decode cX11_init 0 = .ok (.aload_n 0, 1) := by decide +kernel
theorem dX11_init_1 : decode cX11_init 1 = .ok (.invokespecial 1, 3) := by decide +kernel
theorem dX11_init_4 : decode cX11_init 4 = .ok (.aload_n 0, 1) := by decide +kernel
theorem dX11_init_5 : decode cX11_init 5 = .ok (.bipush 6, 2) := by decide +kernel
theorem dX11_init_7 : decode cX11_init 7 = .ok (.anewarray 7, 3) := by decide +kernel
theorem dX11_init_10 : decode cX11_init 10 = .ok (.dup, 1) := by decide +kernel
theorem dX11_init_11 : decode cX11_init 11 = .ok (.iconst 0, 1) := by decide +kernel
theorem dX11_init_12 : decode cX11_init 12 = .ok (.new 7, 3) := by decide +kernel
theorem dX11_init_15 : decode cX11_init 15 = .ok (.dup, 1) := by decide +kernel
theorem dX11_init_16 : decode cX11_init 16 = .ok (.invokespecial 9, 3) := by decide +kernel
theorem dX11_init_19 : decode cX11_init 19 = .ok (.aastore, 1) := by decide +kernel
theorem dX11_init_20 : decode cX11_init 20 = .ok (.dup, 1) := by decide +kernel
theorem dX11_init_21 : decode cX11_init 21 = .ok (.iconst 1, 1) := by decide +kernel
theorem dX11_init_22 : decode cX11_init 22 = .ok (.new 10, 3) := by decide +kernel
theorem dX11_init_25 : decode cX11_init 25 = .ok (.dup, 1) := by decide +kernel
theorem dX11_init_26 : decode cX11_init 26 = .ok (.invokespecial 12, 3) := by decide +kernel
theorem dX11_init_29 : decode cX11_init 29 = .ok (.aastore, 1) := by decide +kernel
theorem dX11_init_30 : decode cX11_init 30 = .ok (.dup, 1) := by decide +kernel
theorem dX11_init_31 : decode cX11_init 31 = .ok (.iconst 2, 1) := by decide +kernel
theorem dX11_init_32 : decode cX11_init 32 = .ok (.new 13, 3) := by decide +kernel
theorem dX11_init_35 : decode cX11_init 35 = .ok (.dup, 1) := by decide +kernel
theorem dX11_init_36 : decode cX11_init 36 = .ok (.invokespecial 15, 3) := by decide +kernel
theorem dX11_init_39 : decode cX11_init 39 = .ok (.aastore, 1) := by decide +kernel
theorem dX11_init_40 : decode cX11_init 40 = .ok (.dup, 1) := by decide +kernel
theorem dX11_init_41 : decode cX11_init 41 = .ok (.iconst 3, 1) := by decide +kernel
theorem dX11_init_42 : decode cX11_init 42 = .ok (.new 16, 3) := by decide +kernel
theorem dX11_init_45 : decode cX11_init 45 = .ok (.dup, 1) := by decide +kernel
theorem dX11_init_46 : decode cX11_init 46 = .ok (.invokespecial 18, 3) := by decide +kernel
theorem dX11_init_49 : decode cX11_init 49 = .ok (.aastore, 1) := by decide +kernel
theorem dX11_init_50 : decode cX11_init 50 = .ok (.dup, 1) := by decide +kernel
theorem dX11_init_51 : decode cX11_init 51 = .ok (.iconst 4, 1) := by decide +kernel
theorem dX11_init_52 : decode cX11_init 52 = .ok (.new 19, 3) := by decide +kernel
theorem dX11_init_55 : decode cX11_init 55 = .ok (.dup, 1) := by decide +kernel
theorem dX11_init_56 : decode cX11_init 56 = .ok (.invokespecial 21, 3) := by decide +kernel
theorem dX11_init_59 : decode cX11_init 59 = .ok (.aastore, 1) := by decide +kernel
theorem dX11_init_60 : decode cX11_init 60 = .ok (.dup, 1) := by decide +kernel
theorem dX11_init_61 : decode cX11_init 61 = .ok (.iconst 5, 1) := by decide +kernel
theorem dX11_init_62 : decode cX11_init 62 = .ok (.new 22, 3) := by decide +kernel
theorem dX11_init_65 : decode cX11_init 65 = .ok (.dup, 1) := by decide +kernel
theorem dX11_init_66 : decode cX11_init 66 = .ok (.invokespecial 24, 3) := by decide +kernel
theorem dX11_init_69 : decode cX11_init 69 = .ok (.aastore, 1) := by decide +kernel
theorem dX11_init_70 : decode cX11_init 70 = .ok (.putfield 25, 3) := by decide +kernel
theorem dX11_init_73 : decode cX11_init 73 = .ok (.aload_n 0, 1) := by decide +kernel
theorem dX11_init_74 : decode cX11_init 74 = .ok (.new 31, 3) := by decide +kernel
theorem dX11_init_77 : decode cX11_init 77 = .ok (.dup, 1) := by decide +kernel
theorem dX11_init_78 : decode cX11_init 78 = .ok (.aload_n 0, 1) := by decide +kernel
theorem dX11_init_79 : decode cX11_init 79 = .ok (.getfield 25, 3) := by decide +kernel
theorem dX11_init_82 : decode cX11_init 82 = .ok (.invokespecial 33, 3) := by decide +kernel
theorem dX11_init_85 : decode cX11_init 85 = .ok (.putfield 36, 3) := by decide +kernel
theorem dX11_init_88 : decode cX11_init 88 = .ok (.aload_n 0, 1) := by decide +kernel
theorem dX11_init_89 : decode cX11_init 89 = .ok (.new 31, 3) := by decide +kernel
theorem dX11_init_92 : decode cX11_init 92 = .ok (.dup, 1) := by decide +kernel
theorem dX11_init_93 : decode cX11_init 93 = .ok (.aload_n 0, 1) := by decide +kernel
theorem dX11_init_94 : decode cX11_init 94 = .ok (.getfield 25, 3) := by decide +kernel
theorem dX11_init_97 : decode cX11_init 97 = .ok (.invokespecial 33, 3) := by decide +kernel
theorem dX11_init_100 : decode cX11_init 100 = .ok (.putfield 40, 3) := by decide +kernel
theorem dX11_init_103 : decode cX11_init 103 = .ok (.aload_n 0, 1) := by decide +kernel
theorem dX11_init_104 : decode cX11_init 104 = .ok (.new 31, 3) := by decide +kernel
theorem dX11_init_107 : decode cX11_init 107 = .ok (.dup, 1) := by decide +kernel
theorem dX11_init_108 : decode cX11_init 108 = .ok (.aload_n 0, 1) := by decide +kernel
theorem dX11_init_109 : decode cX11_init 109 = .ok (.getfield 25, 3) := by decide +kernel
theorem dX11_init_112 : decode cX11_init 112 = .ok (.invokespecial 33, 3) := by decide +kernel
theorem dX11_init_115 : decode cX11_init 115 = .ok (.putfield 43, 3) := by decide +kernel
theorem dX11_init_118 : decode cX11_init 118 = .ok (.aload_n 0, 1) := by decide +kernel
theorem dX11_init_119 : decode cX11_init 119 = .ok (.iconst 0, 1) := by decide +kernel
theorem dX11_init_120 : decode cX11_init 120 = .ok (.putfield 46, 3) := by decide +kernel
theorem dX11_init_123 : decode cX11_init 123 = .ok (.aload_n 0, 1) := by decide +kernel
theorem dX11_init_124 : decode cX11_init 124 = .ok (.new 50, 3) := by decide +kernel
theorem dX11_init_127 : decode cX11_init 127 = .ok (.dup, 1) := by decide +kernel
theorem dX11_init_128 : decode cX11_init 128 = .ok (.aload_n 0, 1) := by decide +kernel
theorem dX11_init_129 : decode cX11_init 129 = .ok (.getfield 36, 3) := by decide +kernel
theorem dX11_init_132 : decode cX11_init 132 = .ok (.invokespecial 52, 3) := by decide +kernel
theorem dX11_init_135 : decode cX11_init 135 = .ok (.putfield 55, 3) := by decide +kernel
theorem dX11_init_138 : decode cX11_init 138 = .ok (.aload_n 0, 1) := by decide +kernel
theorem dX11_init_139 : decode cX11_init 139 = .ok (.new 59, 3) := by decide +kernel
theorem dX11_init_142 : decode cX11_init 142 = .ok (.dup, 1) := by decide +kernel
theorem dX11_init_143 : decode cX11_init 143 = .ok (.invokespecial 61, 3) := by decide +kernel
theorem dX11_init_146 : decode cX11_init 146 = .ok (.putfield 62, 3) := by decide +kernel
theorem dX11_init_149 : decode cX11_init 149 = .ok (.aload_n 0, 1) := by decide +kernel
theorem dX11_init_150 : decode cX11_init 150 = .ok (.iconst 4, 1) := by decide +kernel
theorem dX11_init_151 : decode cX11_init 151 = .ok (.anewarray 66, 3) := by decide +kernel
theorem dX11_init_154 : decode cX11_init 154 = .ok (.dup, 1) := by decide +kernel
theorem dX11_init_155 : decode cX11_init 155 = .ok (.iconst 0, 1) := by decide +kernel
theorem dX11_init_156 : decode cX11_init 156 = .ok (.new 66, 3) := by decide +kernel
theorem dX11_init_159 : decode cX11_init 159 = .ok (.dup, 1) := by decide +kernel
theorem dX11_init_160 : decode cX11_init 160 = .ok (.invokespecial 68, 3) := by decide +kernel
theorem dX11_init_163 : decode cX11_init 163 = .ok (.aastore, 1) := by decide +kernel
theorem dX11_init_164 : decode cX11_init 164 = .ok (.dup, 1) := by decide +kernel
theorem dX11_init_165 : decode cX11_init 165 = .ok (.iconst 1, 1) := by decide +kernel
theorem dX11_init_166 : decode cX11_init 166 = .ok (.new 66, 3) := by decide +kernel
theorem dX11_init_169 : decode cX11_init 169 = .ok (.dup, 1) := by decide +kernel
theorem dX11_init_170 : decode cX11_init 170 = .ok (.invokespecial 68, 3) := by decide +kernel
theorem dX11_init_173 : decode cX11_init 173 = .ok (.aastore, 1) := by decide +kernel
theorem dX11_init_174 : decode cX11_init 174 = .ok (.dup, 1) := by decide +kernel
theorem dX11_init_175 : decode cX11_init 175 = .ok (.iconst 2, 1) := by decide +kernel
theorem dX11_init_176 : decode cX11_init 176 = .ok (.new 66, 3) := by decide +kernel
theorem dX11_init_179 : decode cX11_init 179 = .ok (.dup, 1) := by decide +kernel
theorem dX11_init_180 : decode cX11_init 180 = .ok (.invokespecial 68, 3) := by decide +kernel
theorem dX11_init_183 : decode cX11_init 183 = .ok (.aastore, 1) := by decide +kernel
theorem dX11_init_184 : decode cX11_init 184 = .ok (.dup, 1) := by decide +kernel
theorem dX11_init_185 : decode cX11_init 185 = .ok (.iconst 3, 1) := by decide +kernel
theorem dX11_init_186 : decode cX11_init 186 = .ok (.new 66, 3) := by decide +kernel
theorem dX11_init_189 : decode cX11_init 189 = .ok (.dup, 1) := by decide +kernel
theorem dX11_init_190 : decode cX11_init 190 = .ok (.invokespecial 68, 3) := by decide +kernel
theorem dX11_init_193 : decode cX11_init 193 = .ok (.aastore, 1) := by decide +kernel
theorem dX11_init_194 : decode cX11_init 194 = .ok (.putfield 69, 3) := by decide +kernel
theorem dX11_init_197 : decode cX11_init 197 = .ok (.aload_n 0, 1) := by decide +kernel
theorem dX11_init_198 : decode cX11_init 198 = .ok (.iconst 5, 1) := by decide +kernel
theorem dX11_init_199 : decode cX11_init 199 = .ok (.newarray .int, 2) := by decide +kernel
theorem dX11_init_201 : decode cX11_init 201 = .ok (.putfield 73, 3) := by decide +kernel
theorem dX11_init_204 : decode cX11_init 204 = .ok (.aload_n 0, 1) := by decide +kernel
theorem dX11_init_205 : decode cX11_init 205 = .ok (.iconst 5, 1) := by decide +kernel
theorem dX11_init_206 : decode cX11_init 206 = .ok (.newarray .int, 2) := by decide +kernel
theorem dX11_init_208 : decode cX11_init 208 = .ok (.putfield 77, 3) := by decide +kernel
theorem dX11_init_211 : decode cX11_init 211 = .ok (.aload_n 0, 1) := by decide +kernel
theorem dX11_init_212 : decode cX11_init 212 = .ok (.iconst 5, 1) := by decide +kernel
theorem dX11_init_213 : decode cX11_init 213 = .ok (.newarray .int, 2) := by decide +kernel
theorem dX11_init_215 : decode cX11_init 215 = .ok (.putfield 80, 3) := by decide +kernel
theorem dX11_init_218 : decode cX11_init 218 = .ok (.aload_n 0, 1) := by decide +kernel
theorem dX11_init_219 : decode cX11_init 219 = .ok (.iconst 5, 1) := by decide +kernel
theorem dX11_init_220 : decode cX11_init 220 = .ok (.anewarray 66, 3) := by decide +kernel
theorem dX11_init_223 : decode cX11_init 223 = .ok (.dup, 1) := by decide +kernel
theorem dX11_init_224 : decode cX11_init 224 = .ok (.iconst 0, 1) := by decide +kernel
theorem dX11_init_225 : decode cX11_init 225 = .ok (.new 66, 3) := by decide +kernel
theorem dX11_init_228 : decode cX11_init 228 = .ok (.dup, 1) := by decide +kernel
theorem dX11_init_229 : decode cX11_init 229 = .ok (.invokespecial 68, 3) := by decide +kernel
theorem dX11_init_232 : decode cX11_init 232 = .ok (.aastore, 1) := by decide +kernel
theorem dX11_init_233 : decode cX11_init 233 = .ok (.dup, 1) := by decide +kernel
theorem dX11_init_234 : decode cX11_init 234 = .ok (.iconst 1, 1) := by decide +kernel
theorem dX11_init_235 : decode cX11_init 235 = .ok (.new 66, 3) := by decide +kernel
theorem dX11_init_238 : decode cX11_init 238 = .ok (.dup, 1) := by decide +kernel
theorem dX11_init_239 : decode cX11_init 239 = .ok (.invokespecial 68, 3) := by decide +kernel
theorem dX11_init_242 : decode cX11_init 242 = .ok (.aastore, 1) := by decide +kernel
theorem dX11_init_243 : decode cX11_init 243 = .ok (.dup, 1) := by decide +kernel
theorem dX11_init_244 : decode cX11_init 244 = .ok (.iconst 2, 1) := by decide +kernel
theorem dX11_init_245 : decode cX11_init 245 = .ok (.new 66, 3) := by decide +kernel
theorem dX11_init_248 : decode cX11_init 248 = .ok (.dup, 1) := by decide +kernel
theorem dX11_init_249 : decode cX11_init 249 = .ok (.invokespecial 68, 3) := by decide +kernel
theorem dX11_init_252 : decode cX11_init 252 = .ok (.aastore, 1) := by decide +kernel
theorem dX11_init_253 : decode cX11_init 253 = .ok (.dup, 1) := by decide +kernel
theorem dX11_init_254 : decode cX11_init 254 = .ok (.iconst 3, 1) := by decide +kernel
theorem dX11_init_255 : decode cX11_init 255 = .ok (.new 66, 3) := by decide +kernel
theorem dX11_init_258 : decode cX11_init 258 = .ok (.dup, 1) := by decide +kernel
theorem dX11_init_259 : decode cX11_init 259 = .ok (.invokespecial 68, 3) := by decide +kernel
theorem dX11_init_262 : decode cX11_init 262 = .ok (.aastore, 1) := by decide +kernel
theorem dX11_init_263 : decode cX11_init 263 = .ok (.dup, 1) := by decide +kernel
theorem dX11_init_264 : decode cX11_init 264 = .ok (.iconst 4, 1) := by decide +kernel
theorem dX11_init_265 : decode cX11_init 265 = .ok (.new 66, 3) := by decide +kernel
theorem dX11_init_268 : decode cX11_init 268 = .ok (.dup, 1) := by decide +kernel
theorem dX11_init_269 : decode cX11_init 269 = .ok (.invokespecial 68, 3) := by decide +kernel
theorem dX11_init_272 : decode cX11_init 272 = .ok (.aastore, 1) := by decide +kernel
theorem dX11_init_273 : decode cX11_init 273 = .ok (.putfield 83, 3) := by decide +kernel
theorem dX11_init_276 : decode cX11_init 276 = .ok (.aload_n 0, 1) := by decide +kernel
theorem dX11_init_277 : decode cX11_init 277 = .ok (.bipush 60, 2) := by decide +kernel
theorem dX11_init_279 : decode cX11_init 279 = .ok (.newarray .int, 2) := by decide +kernel
theorem dX11_init_281 : decode cX11_init 281 = .ok (.putfield 86, 3) := by decide +kernel
theorem dX11_init_284 : decode cX11_init 284 = .ok (.aload_n 0, 1) := by decide +kernel
theorem dX11_init_285 : decode cX11_init 285 = .ok (.iconst 0, 1) := by decide +kernel
theorem dX11_init_286 : decode cX11_init 286 = .ok (.putfield 89, 3) := by decide +kernel
theorem dX11_init_289 : decode cX11_init 289 = .ok (.return_, 1) := by decide +kernel
theorem dX11_ledge_0 : decode cX11_ledge 0 = .ok (.iload_n 1, 1) := by decide +kernel
theorem dX11_ledge_1 : decode cX11_ledge 1 = .ok (.bipush 100, 2) := by decide +kernel
theorem dX11_ledge_3 : decode cX11_ledge 3 = .ok (.invokestatic 93, 3) := by decide +kernel
theorem dX11_ledge_6 : decode cX11_ledge 6 = .ok (.ifCond .eq 12, 3) := by decide +kernel
theorem dX11_ledge_9 : decode cX11_ledge 9 = .ok (.iload_n 2, 1) := by decide +kernel
theorem dX11_ledge_10 : decode cX11_ledge 10 = .ok (.bipush 30, 2) := by decide +kernel
theorem dX11_ledge_12 : decode cX11_ledge 12 = .ok (.invokestatic 93, 3) := by decide +kernel
theorem dX11_ledge_15 : decode cX11_ledge 15 = .ok (.ifCond .ne 6, 3) := by decide +kernel
theorem dX11_ledge_18 : decode cX11_ledge 18 = .ok (.ldc 97, 2) := by decide +kernel
theorem dX11_ledge_20 : decode cX11_ledge 20 = .ok (.ireturn, 1) := by decide +kernel
theorem dX11_ledge_21 : decode cX11_ledge 21 = .ok (.aload_n 0, 1) := by decide +kernel
theorem dX11_ledge_22 : decode cX11_ledge 22 = .ok (.getfield 36, 3) := by decide +kernel
theorem dX11_ledge_25 : decode cX11_ledge 25 = .ok (.getfield 98, 3) := by decide +kernel
theorem dX11_ledge_28 : decode cX11_ledge 28 = .ok (.bipush 10, 2) := by decide +kernel
theorem dX11_ledge_30 : decode cX11_ledge 30 = .ok (.if_icmp .lt 6, 3) := by decide +kernel
theorem dX11_ledge_33 : decode cX11_ledge 33 = .ok (.ldc 101, 2) := by decide +kernel
theorem dX11_ledge_35 : decode cX11_ledge 35 = .ok (.ireturn, 1) := by decide +kernel
theorem dX11_ledge_36 : decode cX11_ledge 36 = .ok (.aload_n 0, 1) := by decide +kernel
theorem dX11_ledge_37 : decode cX11_ledge 37 = .ok (.getfield 36, 3) := by decide +kernel
theorem dX11_ledge_40 : decode cX11_ledge 40 = .ok (.iload_n 1, 1) := by decide +kernel
theorem dX11_ledge_41 : decode cX11_ledge 41 = .ok (.iload_n 2, 1) := by decide +kernel
theorem dX11_ledge_42 : decode cX11_ledge 42 = .ok (.invokevirtual 102, 3) := by decide +kernel
theorem dX11_ledge_45 : decode cX11_ledge 45 = .ok (.ireturn, 1) := by decide +kernel
theorem dX11_ledgeTold_0 : decode cX11_ledgeTold 0 = .ok (.iload_n 1, 1) := by decide +kernel
theorem dX11_ledgeTold_1 : decode cX11_ledgeTold 1 = .ok (.aload_n 0, 1) := by decide +kernel
theorem dX11_ledgeTold_2 : decode cX11_ledgeTold 2 = .ok (.getfield 36, 3) := by decide +kernel
theorem dX11_ledgeTold_5 : decode cX11_ledgeTold 5 = .ok (.getfield 98, 3) := by decide +kernel
theorem dX11_ledgeTold_8 : decode cX11_ledgeTold 8 = .ok (.invokestatic 93, 3) := by decide +kernel
theorem dX11_ledgeTold_11 : decode cX11_ledgeTold 11 = .ok (.ifCond .ne 6, 3) := by decide +kernel
theorem dX11_ledgeTold_14 : decode cX11_ledgeTold 14 = .ok (.ldc 97, 2) := by decide +kernel
theorem dX11_ledgeTold_16 : decode cX11_ledgeTold 16 = .ok (.ireturn, 1) := by decide +kernel
theorem dX11_ledgeTold_17 : decode cX11_ledgeTold 17 = .ok (.iload_n 2, 1) := by decide +kernel
theorem dX11_ledgeTold_18 : decode cX11_ledgeTold 18 = .ok (.tableswitch 68 0 3 #[30, 40, 50, 59], 30) := by decide +kernel
theorem dX11_ledgeTold_48 : decode cX11_ledgeTold 48 = .ok (.aload_n 0, 1) := by decide +kernel
theorem dX11_ledgeTold_49 : decode cX11_ledgeTold 49 = .ok (.getfield 36, 3) := by decide +kernel
theorem dX11_ledgeTold_52 : decode cX11_ledgeTold 52 = .ok (.getfield 106, 3) := by decide +kernel
theorem dX11_ledgeTold_55 : decode cX11_ledgeTold 55 = .ok (.iload_n 1, 1) := by decide +kernel
theorem dX11_ledgeTold_56 : decode cX11_ledgeTold 56 = .ok (.iaload, 1) := by decide +kernel
theorem dX11_ledgeTold_57 : decode cX11_ledgeTold 57 = .ok (.ireturn, 1) := by decide +kernel
theorem dX11_ledgeTold_58 : decode cX11_ledgeTold 58 = .ok (.aload_n 0, 1) := by decide +kernel
theorem dX11_ledgeTold_59 : decode cX11_ledgeTold 59 = .ok (.getfield 36, 3) := by decide +kernel
theorem dX11_ledgeTold_62 : decode cX11_ledgeTold 62 = .ok (.getfield 109, 3) := by decide +kernel
theorem dX11_ledgeTold_65 : decode cX11_ledgeTold 65 = .ok (.iload_n 1, 1) := by decide +kernel
theorem dX11_ledgeTold_66 : decode cX11_ledgeTold 66 = .ok (.iaload, 1) := by decide +kernel
theorem dX11_ledgeTold_67 : decode cX11_ledgeTold 67 = .ok (.ireturn, 1) := by decide +kernel
theorem dX11_ledgeTold_68 : decode cX11_ledgeTold 68 = .ok (.aload_n 0, 1) := by decide +kernel
theorem dX11_ledgeTold_69 : decode cX11_ledgeTold 69 = .ok (.getfield 36, 3) := by decide +kernel
theorem dX11_ledgeTold_72 : decode cX11_ledgeTold 72 = .ok (.iload_n 1, 1) := by decide +kernel
theorem dX11_ledgeTold_73 : decode cX11_ledgeTold 73 = .ok (.invokevirtual 112, 3) := by decide +kernel
theorem dX11_ledgeTold_76 : decode cX11_ledgeTold 76 = .ok (.ireturn, 1) := by decide +kernel
theorem dX11_ledgeTold_77 : decode cX11_ledgeTold 77 = .ok (.aload_n 0, 1) := by decide +kernel
theorem dX11_ledgeTold_78 : decode cX11_ledgeTold 78 = .ok (.getfield 36, 3) := by decide +kernel
theorem dX11_ledgeTold_81 : decode cX11_ledgeTold 81 = .ok (.iload_n 1, 1) := by decide +kernel
theorem dX11_ledgeTold_82 : decode cX11_ledgeTold 82 = .ok (.invokevirtual 116, 3) := by decide +kernel
theorem dX11_ledgeTold_85 : decode cX11_ledgeTold 85 = .ok (.ireturn, 1) := by decide +kernel
theorem dX11_ledgeTold_86 : decode cX11_ledgeTold 86 = .ok (.ldc 97, 2) := by decide +kernel
theorem dX11_ledgeTold_88 : decode cX11_ledgeTold 88 = .ok (.ireturn, 1) := by decide +kernel
theorem dX11_change_0 : decode cX11_change 0 = .ok (.iload_n 1, 1) := by decide +kernel
theorem dX11_change_1 : decode cX11_change 1 = .ok (.aload_n 0, 1) := by decide +kernel
theorem dX11_change_2 : decode cX11_change 2 = .ok (.getfield 36, 3) := by decide +kernel
theorem dX11_change_5 : decode cX11_change 5 = .ok (.getfield 98, 3) := by decide +kernel
theorem dX11_change_8 : decode cX11_change 8 = .ok (.invokestatic 93, 3) := by decide +kernel
theorem dX11_change_11 : decode cX11_change 11 = .ok (.ifCond .eq 11, 3) := by decide +kernel
theorem dX11_change_14 : decode cX11_change 14 = .ok (.iload_n 2, 1) := by decide +kernel
theorem dX11_change_15 : decode cX11_change 15 = .ok (.iconst 2, 1) := by decide +kernel
theorem dX11_change_16 : decode cX11_change 16 = .ok (.invokestatic 93, 3) := by decide +kernel
theorem dX11_change_19 : decode cX11_change 19 = .ok (.ifCond .ne 6, 3) := by decide +kernel
theorem dX11_change_22 : decode cX11_change 22 = .ok (.ldc 97, 2) := by decide +kernel
theorem dX11_change_24 : decode cX11_change 24 = .ok (.ireturn, 1) := by decide +kernel
theorem dX11_change_25 : decode cX11_change 25 = .ok (.iload_n 3, 1) := by decide +kernel
theorem dX11_change_26 : decode cX11_change 26 = .ok (.iload_n 2, 1) := by decide +kernel
theorem dX11_change_27 : decode cX11_change 27 = .ok (.ifCond .ne 8, 3) := by decide +kernel
theorem dX11_change_30 : decode cX11_change 30 = .ok (.bipush 100, 2) := by decide +kernel
theorem dX11_change_32 : decode cX11_change 32 = .ok (.goto 5, 3) := by decide +kernel
theorem dX11_change_35 : decode cX11_change 35 = .ok (.bipush 30, 2) := by decide +kernel
theorem dX11_change_37 : decode cX11_change 37 = .ok (.invokestatic 93, 3) := by decide +kernel
theorem dX11_change_40 : decode cX11_change 40 = .ok (.ifCond .ne 6, 3) := by decide +kernel
theorem dX11_change_43 : decode cX11_change 43 = .ok (.ldc 97, 2) := by decide +kernel
theorem dX11_change_45 : decode cX11_change 45 = .ok (.ireturn, 1) := by decide +kernel
theorem dX11_change_46 : decode cX11_change 46 = .ok (.iload_n 2, 1) := by decide +kernel
theorem dX11_change_47 : decode cX11_change 47 = .ok (.ifCond .ne 13, 3) := by decide +kernel
theorem dX11_change_50 : decode cX11_change 50 = .ok (.aload_n 0, 1) := by decide +kernel
theorem dX11_change_51 : decode cX11_change 51 = .ok (.getfield 36, 3) := by decide +kernel
theorem dX11_change_54 : decode cX11_change 54 = .ok (.getfield 106, 3) := by decide +kernel
theorem dX11_change_57 : decode cX11_change 57 = .ok (.goto 10, 3) := by decide +kernel
theorem dX11_change_60 : decode cX11_change 60 = .ok (.aload_n 0, 1) := by decide +kernel
theorem dX11_change_61 : decode cX11_change 61 = .ok (.getfield 36, 3) := by decide +kernel
theorem dX11_change_64 : decode cX11_change 64 = .ok (.getfield 109, 3) := by decide +kernel
theorem dX11_change_67 : decode cX11_change 67 = .ok (.iload_n 1, 1) := by decide +kernel
theorem dX11_change_68 : decode cX11_change 68 = .ok (.iload_n 3, 1) := by decide +kernel
theorem dX11_change_69 : decode cX11_change 69 = .ok (.invokestatic 119, 3) := by decide +kernel
theorem dX11_change_72 : decode cX11_change 72 = .ok (.ireturn, 1) := by decide +kernel
theorem dX11_deal_0 : decode cX11_deal 0 = .ok (.iload_n 1, 1) := by decide +kernel
theorem dX11_deal_1 : decode cX11_deal 1 = .ok (.iconst 1, 1) := by decide +kernel
theorem dX11_deal_2 : decode cX11_deal 2 = .ok (.if_icmp .lt 9, 3) := by decide +kernel
theorem dX11_deal_5 : decode cX11_deal 5 = .ok (.iload_n 1, 1) := by decide +kernel
theorem dX11_deal_6 : decode cX11_deal 6 = .ok (.bipush 10, 2) := by decide +kernel
theorem dX11_deal_8 : decode cX11_deal 8 = .ok (.if_icmp .le 6, 3) := by decide +kernel
theorem dX11_deal_11 : decode cX11_deal 11 = .ok (.ldc 97, 2) := by decide +kernel
theorem dX11_deal_13 : decode cX11_deal 13 = .ok (.ireturn, 1) := by decide +kernel
theorem dX11_deal_14 : decode cX11_deal 14 = .ok (.iload_n 1, 1) := by decide +kernel
theorem dX11_deal_15 : decode cX11_deal 15 = .ok (.bipush 10, 2) := by decide +kernel
theorem dX11_deal_17 : decode cX11_deal 17 = .ok (.aload_n 0, 1) := by decide +kernel
theorem dX11_deal_18 : decode cX11_deal 18 = .ok (.getfield 36, 3) := by decide +kernel
theorem dX11_deal_21 : decode cX11_deal 21 = .ok (.getfield 98, 3) := by decide +kernel
theorem dX11_deal_24 : decode cX11_deal 24 = .ok (.isub, 1) := by decide +kernel
theorem dX11_deal_25 : decode cX11_deal 25 = .ok (.invokestatic 123, 3) := by decide +kernel
theorem dX11_deal_28 : decode cX11_deal 28 = .ok (.istore_n 2, 1) := by decide +kernel
theorem dX11_deal_29 : decode cX11_deal 29 = .ok (.iconst 0, 1) := by decide +kernel
theorem dX11_deal_30 : decode cX11_deal 30 = .ok (.istore_n 3, 1) := by decide +kernel
theorem dX11_deal_31 : decode cX11_deal 31 = .ok (.iload_n 3, 1) := by decide +kernel
theorem dX11_deal_32 : decode cX11_deal 32 = .ok (.iload_n 2, 1) := by decide +kernel
theorem dX11_deal_33 : decode cX11_deal 33 = .ok (.if_icmp .ge 45, 3) := by decide +kernel
theorem dX11_deal_36 : decode cX11_deal 36 = .ok (.aload_n 0, 1) := by decide +kernel
theorem dX11_deal_37 : decode cX11_deal 37 = .ok (.getfield 36, 3) := by decide +kernel
theorem dX11_deal_40 : decode cX11_deal 40 = .ok (.invokevirtual 128, 3) := by decide +kernel
theorem dX11_deal_43 : decode cX11_deal 43 = .ok (.bipush 100, 2) := by decide +kernel
theorem dX11_deal_45 : decode cX11_deal 45 = .ok (.irem, 1) := by decide +kernel
theorem dX11_deal_46 : decode cX11_deal 46 = .ok (.istore 4, 2) := by decide +kernel
theorem dX11_deal_48 : decode cX11_deal 48 = .ok (.aload_n 0, 1) := by decide +kernel
theorem dX11_deal_49 : decode cX11_deal 49 = .ok (.getfield 36, 3) := by decide +kernel
theorem dX11_deal_52 : decode cX11_deal 52 = .ok (.invokevirtual 128, 3) := by decide +kernel
theorem dX11_deal_55 : decode cX11_deal 55 = .ok (.bipush 30, 2) := by decide +kernel
theorem dX11_deal_57 : decode cX11_deal 57 = .ok (.irem, 1) := by decide +kernel
theorem dX11_deal_58 : decode cX11_deal 58 = .ok (.istore 5, 2) := by decide +kernel
theorem dX11_deal_60 : decode cX11_deal 60 = .ok (.aload_n 0, 1) := by decide +kernel
theorem dX11_deal_61 : decode cX11_deal 61 = .ok (.getfield 36, 3) := by decide +kernel
theorem dX11_deal_64 : decode cX11_deal 64 = .ok (.iload 4, 2) := by decide +kernel
theorem dX11_deal_66 : decode cX11_deal 66 = .ok (.iload 5, 2) := by decide +kernel
theorem dX11_deal_68 : decode cX11_deal 68 = .ok (.invokevirtual 102, 3) := by decide +kernel
theorem dX11_deal_71 : decode cX11_deal 71 = .ok (.pop, 1) := by decide +kernel
theorem dX11_deal_72 : decode cX11_deal 72 = .ok (.iinc 3 1, 3) := by decide +kernel
theorem dX11_deal_75 : decode cX11_deal 75 = .ok (.goto (-44), 3) := by decide +kernel
theorem dX11_deal_78 : decode cX11_deal 78 = .ok (.iload_n 2, 1) := by decide +kernel
theorem dX11_deal_79 : decode cX11_deal 79 = .ok (.ireturn, 1) := by decide +kernel
theorem dX11_seed_0 : decode cX11_seed 0 = .ok (.aload_n 0, 1) := by decide +kernel
theorem dX11_seed_1 : decode cX11_seed 1 = .ok (.getfield 36, 3) := by decide +kernel
theorem dX11_seed_4 : decode cX11_seed 4 = .ok (.getfield 132, 3) := by decide +kernel
theorem dX11_seed_7 : decode cX11_seed 7 = .ok (.istore_n 2, 1) := by decide +kernel
theorem dX11_seed_8 : decode cX11_seed 8 = .ok (.aload_n 0, 1) := by decide +kernel
theorem dX11_seed_9 : decode cX11_seed 9 = .ok (.getfield 36, 3) := by decide +kernel
theorem dX11_seed_12 : decode cX11_seed 12 = .ok (.iload_n 1, 1) := by decide +kernel
theorem dX11_seed_13 : decode cX11_seed 13 = .ok (.putfield 132, 3) := by decide +kernel
theorem dX11_seed_16 : decode cX11_seed 16 = .ok (.iload_n 2, 1) := by decide +kernel
theorem dX11_seed_17 : decode cX11_seed 17 = .ok (.ireturn, 1) := by decide +kernel
theorem dX11_ladder_0 : decode cX11_ladder 0 = .ok (.iload_n 1, 1) := by decide +kernel
theorem dX11_ladder_1 : decode cX11_ladder 1 = .ok (.bipush 6, 2) := by decide +kernel
theorem dX11_ladder_3 : decode cX11_ladder 3 = .ok (.invokestatic 93, 3) := by decide +kernel
theorem dX11_ladder_6 : decode cX11_ladder 6 = .ok (.ifCond .eq 10, 3) := by decide +kernel
theorem dX11_ladder_9 : decode cX11_ladder 9 = .ok (.iload_n 2, 1) := by decide +kernel
theorem dX11_ladder_10 : decode cX11_ladder 10 = .ok (.invokestatic 135, 3) := by decide +kernel
theorem dX11_ladder_13 : decode cX11_ladder 13 = .ok (.ifCond .ne 6, 3) := by decide +kernel
theorem dX11_ladder_16 : decode cX11_ladder 16 = .ok (.ldc 97, 2) := by decide +kernel
theorem dX11_ladder_18 : decode cX11_ladder 18 = .ok (.ireturn, 1) := by decide +kernel
theorem dX11_ladder_19 : decode cX11_ladder 19 = .ok (.iload_n 3, 1) := by decide +kernel
theorem dX11_ladder_20 : decode cX11_ladder 20 = .ok (.aload_n 0, 1) := by decide +kernel
theorem dX11_ladder_21 : decode cX11_ladder 21 = .ok (.getfield 36, 3) := by decide +kernel
theorem dX11_ladder_24 : decode cX11_ladder 24 = .ok (.getfield 98, 3) := by decide +kernel
theorem dX11_ladder_27 : decode cX11_ladder 27 = .ok (.invokestatic 93, 3) := by decide +kernel
theorem dX11_ladder_30 : decode cX11_ladder 30 = .ok (.ifCond .eq 24, 3) := by decide +kernel
theorem dX11_ladder_33 : decode cX11_ladder 33 = .ok (.iload 4, 2) := by decide +kernel
theorem dX11_ladder_35 : decode cX11_ladder 35 = .ok (.aload_n 0, 1) := by decide +kernel
theorem dX11_ladder_36 : decode cX11_ladder 36 = .ok (.getfield 36, 3) := by decide +kernel
theorem dX11_ladder_39 : decode cX11_ladder 39 = .ok (.getfield 98, 3) := by decide +kernel
theorem dX11_ladder_42 : decode cX11_ladder 42 = .ok (.invokestatic 93, 3) := by decide +kernel
theorem dX11_ladder_45 : decode cX11_ladder 45 = .ok (.ifCond .eq 9, 3) := by decide +kernel
theorem dX11_ladder_48 : decode cX11_ladder 48 = .ok (.iload_n 3, 1) := by decide +kernel
theorem dX11_ladder_49 : decode cX11_ladder 49 = .ok (.iload 4, 2) := by decide +kernel
theorem dX11_ladder_51 : decode cX11_ladder 51 = .ok (.if_icmp .ne 6, 3) := by decide +kernel
theorem dX11_ladder_54 : decode cX11_ladder 54 = .ok (.ldc 97, 2) := by decide +kernel
theorem dX11_ladder_56 : decode cX11_ladder 56 = .ok (.ireturn, 1) := by decide +kernel
theorem dX11_ladder_57 : decode cX11_ladder 57 = .ok (.aload_n 0, 1) := by decide +kernel
theorem dX11_ladder_58 : decode cX11_ladder 58 = .ok (.getfield 36, 3) := by decide +kernel
theorem dX11_ladder_61 : decode cX11_ladder 61 = .ok (.getfield 139, 3) := by decide +kernel
theorem dX11_ladder_64 : decode cX11_ladder 64 = .ok (.bipush 8, 2) := by decide +kernel
theorem dX11_ladder_66 : decode cX11_ladder 66 = .ok (.if_icmp .lt 6, 3) := by decide +kernel
theorem dX11_ladder_69 : decode cX11_ladder 69 = .ok (.ldc 101, 2) := by decide +kernel
theorem dX11_ladder_71 : decode cX11_ladder 71 = .ok (.ireturn, 1) := by decide +kernel
theorem dX11_ladder_72 : decode cX11_ladder 72 = .ok (.aload_n 0, 1) := by decide +kernel
theorem dX11_ladder_73 : decode cX11_ladder 73 = .ok (.getfield 36, 3) := by decide +kernel
theorem dX11_ladder_76 : decode cX11_ladder 76 = .ok (.iload_n 1, 1) := by decide +kernel
theorem dX11_ladder_77 : decode cX11_ladder 77 = .ok (.iload_n 2, 1) := by decide +kernel
theorem dX11_ladder_78 : decode cX11_ladder 78 = .ok (.iload_n 3, 1) := by decide +kernel
theorem dX11_ladder_79 : decode cX11_ladder 79 = .ok (.iload 4, 2) := by decide +kernel
theorem dX11_ladder_81 : decode cX11_ladder 81 = .ok (.invokevirtual 142, 3) := by decide +kernel
theorem dX11_ladder_84 : decode cX11_ladder 84 = .ok (.ireturn, 1) := by decide +kernel
theorem dX11_told_0 : decode cX11_told 0 = .ok (.iload_n 1, 1) := by decide +kernel
theorem dX11_told_1 : decode cX11_told 1 = .ok (.aload_n 0, 1) := by decide +kernel
theorem dX11_told_2 : decode cX11_told 2 = .ok (.getfield 36, 3) := by decide +kernel
theorem dX11_told_5 : decode cX11_told 5 = .ok (.getfield 139, 3) := by decide +kernel
theorem dX11_told_8 : decode cX11_told 8 = .ok (.invokestatic 93, 3) := by decide +kernel
theorem dX11_told_11 : decode cX11_told 11 = .ok (.ifCond .ne 6, 3) := by decide +kernel
theorem dX11_told_14 : decode cX11_told 14 = .ok (.ldc 97, 2) := by decide +kernel
theorem dX11_told_16 : decode cX11_told 16 = .ok (.ireturn, 1) := by decide +kernel
theorem dX11_told_17 : decode cX11_told 17 = .ok (.iload_n 2, 1) := by decide +kernel
theorem dX11_told_18 : decode cX11_told 18 = .ok (.tableswitch 185 0 9 #[54, 64, 74, 84, 94, 103, 112, 129, 149, 176], 54) := by decide +kernel
theorem dX11_told_72 : decode cX11_told 72 = .ok (.aload_n 0, 1) := by decide +kernel
theorem dX11_told_73 : decode cX11_told 73 = .ok (.getfield 36, 3) := by decide +kernel
theorem dX11_told_76 : decode cX11_told 76 = .ok (.getfield 146, 3) := by decide +kernel
theorem dX11_told_79 : decode cX11_told 79 = .ok (.iload_n 1, 1) := by decide +kernel
theorem dX11_told_80 : decode cX11_told 80 = .ok (.iaload, 1) := by decide +kernel
theorem dX11_told_81 : decode cX11_told 81 = .ok (.ireturn, 1) := by decide +kernel
theorem dX11_told_82 : decode cX11_told 82 = .ok (.aload_n 0, 1) := by decide +kernel
theorem dX11_told_83 : decode cX11_told 83 = .ok (.getfield 36, 3) := by decide +kernel
theorem dX11_told_86 : decode cX11_told 86 = .ok (.getfield 149, 3) := by decide +kernel
theorem dX11_told_89 : decode cX11_told 89 = .ok (.iload_n 1, 1) := by decide +kernel
theorem dX11_told_90 : decode cX11_told 90 = .ok (.iaload, 1) := by decide +kernel
theorem dX11_told_91 : decode cX11_told 91 = .ok (.ireturn, 1) := by decide +kernel
theorem dX11_told_92 : decode cX11_told 92 = .ok (.aload_n 0, 1) := by decide +kernel
theorem dX11_told_93 : decode cX11_told 93 = .ok (.getfield 36, 3) := by decide +kernel
theorem dX11_told_96 : decode cX11_told 96 = .ok (.getfield 152, 3) := by decide +kernel
theorem dX11_told_99 : decode cX11_told 99 = .ok (.iload_n 1, 1) := by decide +kernel
theorem dX11_told_100 : decode cX11_told 100 = .ok (.iaload, 1) := by decide +kernel
theorem dX11_told_101 : decode cX11_told 101 = .ok (.ireturn, 1) := by decide +kernel
theorem dX11_told_102 : decode cX11_told 102 = .ok (.aload_n 0, 1) := by decide +kernel
theorem dX11_told_103 : decode cX11_told 103 = .ok (.getfield 36, 3) := by decide +kernel
theorem dX11_told_106 : decode cX11_told 106 = .ok (.getfield 155, 3) := by decide +kernel
theorem dX11_told_109 : decode cX11_told 109 = .ok (.iload_n 1, 1) := by decide +kernel
theorem dX11_told_110 : decode cX11_told 110 = .ok (.iaload, 1) := by decide +kernel
theorem dX11_told_111 : decode cX11_told 111 = .ok (.ireturn, 1) := by decide +kernel
theorem dX11_told_112 : decode cX11_told 112 = .ok (.aload_n 0, 1) := by decide +kernel
theorem dX11_told_113 : decode cX11_told 113 = .ok (.getfield 36, 3) := by decide +kernel
theorem dX11_told_116 : decode cX11_told 116 = .ok (.iload_n 1, 1) := by decide +kernel
theorem dX11_told_117 : decode cX11_told 117 = .ok (.invokevirtual 158, 3) := by decide +kernel
theorem dX11_told_120 : decode cX11_told 120 = .ok (.ireturn, 1) := by decide +kernel
theorem dX11_told_121 : decode cX11_told 121 = .ok (.aload_n 0, 1) := by decide +kernel
theorem dX11_told_122 : decode cX11_told 122 = .ok (.getfield 36, 3) := by decide +kernel
theorem dX11_told_125 : decode cX11_told 125 = .ok (.iload_n 1, 1) := by decide +kernel
theorem dX11_told_126 : decode cX11_told 126 = .ok (.invokevirtual 161, 3) := by decide +kernel
theorem dX11_told_129 : decode cX11_told 129 = .ok (.ireturn, 1) := by decide +kernel
theorem dX11_told_130 : decode cX11_told 130 = .ok (.aload_n 0, 1) := by decide +kernel
theorem dX11_told_131 : decode cX11_told 131 = .ok (.getfield 36, 3) := by decide +kernel
theorem dX11_told_134 : decode cX11_told 134 = .ok (.iload_n 1, 1) := by decide +kernel
theorem dX11_told_135 : decode cX11_told 135 = .ok (.invokevirtual 164, 3) := by decide +kernel
theorem dX11_told_138 : decode cX11_told 138 = .ok (.ifCond .eq 7, 3) := by decide +kernel
theorem dX11_told_141 : decode cX11_told 141 = .ok (.iconst 1, 1) := by decide +kernel
theorem dX11_told_142 : decode cX11_told 142 = .ok (.goto 4, 3) := by decide +kernel
theorem dX11_told_145 : decode cX11_told 145 = .ok (.iconst 0, 1) := by decide +kernel
theorem dX11_told_146 : decode cX11_told 146 = .ok (.ireturn, 1) := by decide +kernel
theorem dX11_told_147 : decode cX11_told 147 = .ok (.aload_n 0, 1) := by decide +kernel
theorem dX11_told_148 : decode cX11_told 148 = .ok (.getfield 36, 3) := by decide +kernel
theorem dX11_told_151 : decode cX11_told 151 = .ok (.getfield 167, 3) := by decide +kernel
theorem dX11_told_154 : decode cX11_told 154 = .ok (.iload_n 1, 1) := by decide +kernel
theorem dX11_told_155 : decode cX11_told 155 = .ok (.invokestatic 170, 3) := by decide +kernel
theorem dX11_told_158 : decode cX11_told 158 = .ok (.ifCond .eq 7, 3) := by decide +kernel
theorem dX11_told_161 : decode cX11_told 161 = .ok (.iconst 1, 1) := by decide +kernel
theorem dX11_told_162 : decode cX11_told 162 = .ok (.goto 4, 3) := by decide +kernel
theorem dX11_told_165 : decode cX11_told 165 = .ok (.iconst 0, 1) := by decide +kernel
theorem dX11_told_166 : decode cX11_told 166 = .ok (.ireturn, 1) := by decide +kernel
theorem dX11_told_167 : decode cX11_told 167 = .ok (.aload_n 0, 1) := by decide +kernel
theorem dX11_told_168 : decode cX11_told 168 = .ok (.getfield 25, 3) := by decide +kernel
theorem dX11_told_171 : decode cX11_told 171 = .ok (.aload_n 0, 1) := by decide +kernel
theorem dX11_told_172 : decode cX11_told 172 = .ok (.getfield 36, 3) := by decide +kernel
theorem dX11_told_175 : decode cX11_told 175 = .ok (.getfield 146, 3) := by decide +kernel
theorem dX11_told_178 : decode cX11_told 178 = .ok (.iload_n 1, 1) := by decide +kernel
theorem dX11_told_179 : decode cX11_told 179 = .ok (.iaload, 1) := by decide +kernel
theorem dX11_told_180 : decode cX11_told 180 = .ok (.aaload, 1) := by decide +kernel
theorem dX11_told_181 : decode cX11_told 181 = .ok (.aload_n 0, 1) := by decide +kernel
theorem dX11_told_182 : decode cX11_told 182 = .ok (.getfield 36, 3) := by decide +kernel
theorem dX11_told_185 : decode cX11_told 185 = .ok (.getfield 149, 3) := by decide +kernel
theorem dX11_told_188 : decode cX11_told 188 = .ok (.iload_n 1, 1) := by decide +kernel
theorem dX11_told_189 : decode cX11_told 189 = .ok (.iaload, 1) := by decide +kernel
theorem dX11_told_190 : decode cX11_told 190 = .ok (.invokevirtual 173, 3) := by decide +kernel
theorem dX11_told_193 : decode cX11_told 193 = .ok (.ireturn, 1) := by decide +kernel
theorem dX11_told_194 : decode cX11_told 194 = .ok (.aload_n 0, 1) := by decide +kernel
theorem dX11_told_195 : decode cX11_told 195 = .ok (.getfield 36, 3) := by decide +kernel
theorem dX11_told_198 : decode cX11_told 198 = .ok (.iload_n 1, 1) := by decide +kernel
theorem dX11_told_199 : decode cX11_told 199 = .ok (.invokevirtual 176, 3) := by decide +kernel
theorem dX11_told_202 : decode cX11_told 202 = .ok (.ireturn, 1) := by decide +kernel
theorem dX11_told_203 : decode cX11_told 203 = .ok (.ldc 97, 2) := by decide +kernel
theorem dX11_told_205 : decode cX11_told 205 = .ok (.ireturn, 1) := by decide +kernel
theorem dX11_as_0 : decode cX11_as 0 = .ok (.iload_n 1, 1) := by decide +kernel
theorem dX11_as_1 : decode cX11_as 1 = .ok (.aload_n 0, 1) := by decide +kernel
theorem dX11_as_2 : decode cX11_as 2 = .ok (.getfield 36, 3) := by decide +kernel
theorem dX11_as_5 : decode cX11_as 5 = .ok (.getfield 139, 3) := by decide +kernel
theorem dX11_as_8 : decode cX11_as 8 = .ok (.invokestatic 93, 3) := by decide +kernel
theorem dX11_as_11 : decode cX11_as 11 = .ok (.ifCond .eq 12, 3) := by decide +kernel
theorem dX11_as_14 : decode cX11_as 14 = .ok (.iload_n 2, 1) := by decide +kernel
theorem dX11_as_15 : decode cX11_as 15 = .ok (.bipush 6, 2) := by decide +kernel
theorem dX11_as_17 : decode cX11_as 17 = .ok (.invokestatic 93, 3) := by decide +kernel
theorem dX11_as_20 : decode cX11_as 20 = .ok (.ifCond .ne 6, 3) := by decide +kernel
theorem dX11_as_23 : decode cX11_as 23 = .ok (.ldc 97, 2) := by decide +kernel
theorem dX11_as_25 : decode cX11_as 25 = .ok (.ireturn, 1) := by decide +kernel
theorem dX11_as_26 : decode cX11_as 26 = .ok (.aload_n 0, 1) := by decide +kernel
theorem dX11_as_27 : decode cX11_as 27 = .ok (.getfield 25, 3) := by decide +kernel
theorem dX11_as_30 : decode cX11_as 30 = .ok (.aload_n 0, 1) := by decide +kernel
theorem dX11_as_31 : decode cX11_as 31 = .ok (.getfield 36, 3) := by decide +kernel
theorem dX11_as_34 : decode cX11_as 34 = .ok (.getfield 146, 3) := by decide +kernel
theorem dX11_as_37 : decode cX11_as 37 = .ok (.iload_n 1, 1) := by decide +kernel
theorem dX11_as_38 : decode cX11_as 38 = .ok (.iaload, 1) := by decide +kernel
theorem dX11_as_39 : decode cX11_as 39 = .ok (.aaload, 1) := by decide +kernel
theorem dX11_as_40 : decode cX11_as 40 = .ok (.iload_n 2, 1) := by decide +kernel
theorem dX11_as_41 : decode cX11_as 41 = .ok (.invokevirtual 179, 3) := by decide +kernel
theorem dX11_as_44 : decode cX11_as 44 = .ok (.ifCond .eq 15, 3) := by decide +kernel
theorem dX11_as_47 : decode cX11_as 47 = .ok (.aload_n 0, 1) := by decide +kernel
theorem dX11_as_48 : decode cX11_as 48 = .ok (.getfield 36, 3) := by decide +kernel
theorem dX11_as_51 : decode cX11_as 51 = .ok (.getfield 149, 3) := by decide +kernel
theorem dX11_as_54 : decode cX11_as 54 = .ok (.iload_n 1, 1) := by decide +kernel
theorem dX11_as_55 : decode cX11_as 55 = .ok (.iaload, 1) := by decide +kernel
theorem dX11_as_56 : decode cX11_as 56 = .ok (.goto 5, 3) := by decide +kernel
theorem dX11_as_59 : decode cX11_as 59 = .ok (.ldc 182, 2) := by decide +kernel
theorem dX11_as_61 : decode cX11_as 61 = .ok (.ireturn, 1) := by decide +kernel
theorem dX11_turns_0 : decode cX11_turns 0 = .ok (.iload_n 1, 1) := by decide +kernel
theorem dX11_turns_1 : decode cX11_turns 1 = .ok (.aload_n 0, 1) := by decide +kernel
theorem dX11_turns_2 : decode cX11_turns 2 = .ok (.getfield 36, 3) := by decide +kernel
theorem dX11_turns_5 : decode cX11_turns 5 = .ok (.getfield 139, 3) := by decide +kernel
theorem dX11_turns_8 : decode cX11_turns 8 = .ok (.invokestatic 93, 3) := by decide +kernel
theorem dX11_turns_11 : decode cX11_turns 11 = .ok (.ifCond .eq 12, 3) := by decide +kernel
theorem dX11_turns_14 : decode cX11_turns 14 = .ok (.iload_n 2, 1) := by decide +kernel
theorem dX11_turns_15 : decode cX11_turns 15 = .ok (.bipush 6, 2) := by decide +kernel
theorem dX11_turns_17 : decode cX11_turns 17 = .ok (.invokestatic 93, 3) := by decide +kernel
theorem dX11_turns_20 : decode cX11_turns 20 = .ok (.ifCond .ne 6, 3) := by decide +kernel
theorem dX11_turns_23 : decode cX11_turns 23 = .ok (.ldc 97, 2) := by decide +kernel
theorem dX11_turns_25 : decode cX11_turns 25 = .ok (.ireturn, 1) := by decide +kernel
theorem dX11_turns_26 : decode cX11_turns 26 = .ok (.aload_n 0, 1) := by decide +kernel
theorem dX11_turns_27 : decode cX11_turns 27 = .ok (.getfield 36, 3) := by decide +kernel
theorem dX11_turns_30 : decode cX11_turns 30 = .ok (.getfield 146, 3) := by decide +kernel
theorem dX11_turns_33 : decode cX11_turns 33 = .ok (.iload_n 1, 1) := by decide +kernel
theorem dX11_turns_34 : decode cX11_turns 34 = .ok (.iload_n 2, 1) := by decide +kernel
theorem dX11_turns_35 : decode cX11_turns 35 = .ok (.invokestatic 119, 3) := by decide +kernel
theorem dX11_turns_38 : decode cX11_turns 38 = .ok (.ireturn, 1) := by decide +kernel
theorem dX11_cut_0 : decode cX11_cut 0 = .ok (.iload_n 1, 1) := by decide +kernel
theorem dX11_cut_1 : decode cX11_cut 1 = .ok (.aload_n 0, 1) := by decide +kernel
theorem dX11_cut_2 : decode cX11_cut 2 = .ok (.getfield 36, 3) := by decide +kernel
theorem dX11_cut_5 : decode cX11_cut 5 = .ok (.getfield 139, 3) := by decide +kernel
theorem dX11_cut_8 : decode cX11_cut 8 = .ok (.invokestatic 93, 3) := by decide +kernel
theorem dX11_cut_11 : decode cX11_cut 11 = .ok (.ifCond .eq 10, 3) := by decide +kernel
theorem dX11_cut_14 : decode cX11_cut 14 = .ok (.iload_n 2, 1) := by decide +kernel
theorem dX11_cut_15 : decode cX11_cut 15 = .ok (.invokestatic 135, 3) := by decide +kernel
theorem dX11_cut_18 : decode cX11_cut 18 = .ok (.ifCond .ne 6, 3) := by decide +kernel
theorem dX11_cut_21 : decode cX11_cut 21 = .ok (.ldc 97, 2) := by decide +kernel
theorem dX11_cut_23 : decode cX11_cut 23 = .ok (.ireturn, 1) := by decide +kernel
theorem dX11_cut_24 : decode cX11_cut 24 = .ok (.aload_n 0, 1) := by decide +kernel
theorem dX11_cut_25 : decode cX11_cut 25 = .ok (.getfield 36, 3) := by decide +kernel
theorem dX11_cut_28 : decode cX11_cut 28 = .ok (.getfield 149, 3) := by decide +kernel
theorem dX11_cut_31 : decode cX11_cut 31 = .ok (.iload_n 1, 1) := by decide +kernel
theorem dX11_cut_32 : decode cX11_cut 32 = .ok (.iload_n 2, 1) := by decide +kernel
theorem dX11_cut_33 : decode cX11_cut 33 = .ok (.invokestatic 119, 3) := by decide +kernel
theorem dX11_cut_36 : decode cX11_cut 36 = .ok (.ireturn, 1) := by decide +kernel
theorem dX11_needs_0 : decode cX11_needs 0 = .ok (.iload_n 1, 1) := by decide +kernel
theorem dX11_needs_1 : decode cX11_needs 1 = .ok (.aload_n 0, 1) := by decide +kernel
theorem dX11_needs_2 : decode cX11_needs 2 = .ok (.getfield 36, 3) := by decide +kernel
theorem dX11_needs_5 : decode cX11_needs 5 = .ok (.getfield 98, 3) := by decide +kernel
theorem dX11_needs_8 : decode cX11_needs 8 = .ok (.invokestatic 93, 3) := by decide +kernel
theorem dX11_needs_11 : decode cX11_needs 11 = .ok (.ifCond .eq 22, 3) := by decide +kernel
theorem dX11_needs_14 : decode cX11_needs 14 = .ok (.iload_n 2, 1) := by decide +kernel
theorem dX11_needs_15 : decode cX11_needs 15 = .ok (.aload_n 0, 1) := by decide +kernel
theorem dX11_needs_16 : decode cX11_needs 16 = .ok (.getfield 36, 3) := by decide +kernel
theorem dX11_needs_19 : decode cX11_needs 19 = .ok (.getfield 98, 3) := by decide +kernel
theorem dX11_needs_22 : decode cX11_needs 22 = .ok (.invokestatic 93, 3) := by decide +kernel
theorem dX11_needs_25 : decode cX11_needs 25 = .ok (.ifCond .eq 8, 3) := by decide +kernel
theorem dX11_needs_28 : decode cX11_needs 28 = .ok (.iload_n 1, 1) := by decide +kernel
theorem dX11_needs_29 : decode cX11_needs 29 = .ok (.iload_n 2, 1) := by decide +kernel
theorem dX11_needs_30 : decode cX11_needs 30 = .ok (.if_icmp .ne 6, 3) := by decide +kernel
theorem dX11_needs_33 : decode cX11_needs 33 = .ok (.ldc 97, 2) := by decide +kernel
theorem dX11_needs_35 : decode cX11_needs 35 = .ok (.ireturn, 1) := by decide +kernel
theorem dX11_needs_36 : decode cX11_needs 36 = .ok (.aload_n 0, 1) := by decide +kernel
theorem dX11_needs_37 : decode cX11_needs 37 = .ok (.getfield 36, 3) := by decide +kernel
theorem dX11_needs_40 : decode cX11_needs 40 = .ok (.iload_n 1, 1) := by decide +kernel
theorem dX11_needs_41 : decode cX11_needs 41 = .ok (.iload_n 2, 1) := by decide +kernel
theorem dX11_needs_42 : decode cX11_needs 42 = .ok (.invokevirtual 183, 3) := by decide +kernel
theorem dX11_needs_45 : decode cX11_needs 45 = .ok (.ireturn, 1) := by decide +kernel
theorem dX11_person_0 : decode cX11_person 0 = .ok (.iload_n 1, 1) := by decide +kernel
theorem dX11_person_1 : decode cX11_person 1 = .ok (.aload_n 0, 1) := by decide +kernel
theorem dX11_person_2 : decode cX11_person 2 = .ok (.getfield 36, 3) := by decide +kernel
theorem dX11_person_5 : decode cX11_person 5 = .ok (.getfield 98, 3) := by decide +kernel
theorem dX11_person_8 : decode cX11_person 8 = .ok (.invokestatic 93, 3) := by decide +kernel
theorem dX11_person_11 : decode cX11_person 11 = .ok (.ifCond .eq 12, 3) := by decide +kernel
theorem dX11_person_14 : decode cX11_person 14 = .ok (.iload_n 2, 1) := by decide +kernel
theorem dX11_person_15 : decode cX11_person 15 = .ok (.bipush 100, 2) := by decide +kernel
theorem dX11_person_17 : decode cX11_person 17 = .ok (.invokestatic 93, 3) := by decide +kernel
theorem dX11_person_20 : decode cX11_person 20 = .ok (.ifCond .ne 6, 3) := by decide +kernel
theorem dX11_person_23 : decode cX11_person 23 = .ok (.ldc 97, 2) := by decide +kernel
theorem dX11_person_25 : decode cX11_person 25 = .ok (.ireturn, 1) := by decide +kernel
theorem dX11_person_26 : decode cX11_person 26 = .ok (.aload_n 0, 1) := by decide +kernel
theorem dX11_person_27 : decode cX11_person 27 = .ok (.getfield 36, 3) := by decide +kernel
theorem dX11_person_30 : decode cX11_person 30 = .ok (.getfield 186, 3) := by decide +kernel
theorem dX11_person_33 : decode cX11_person 33 = .ok (.bipush 6, 2) := by decide +kernel
theorem dX11_person_35 : decode cX11_person 35 = .ok (.if_icmp .lt 6, 3) := by decide +kernel
theorem dX11_person_38 : decode cX11_person 38 = .ok (.ldc 101, 2) := by decide +kernel
theorem dX11_person_40 : decode cX11_person 40 = .ok (.ireturn, 1) := by decide +kernel
theorem dX11_person_41 : decode cX11_person 41 = .ok (.aload_n 0, 1) := by decide +kernel
theorem dX11_person_42 : decode cX11_person 42 = .ok (.getfield 36, 3) := by decide +kernel
theorem dX11_person_45 : decode cX11_person 45 = .ok (.iload_n 1, 1) := by decide +kernel
theorem dX11_person_46 : decode cX11_person 46 = .ok (.iload_n 2, 1) := by decide +kernel
theorem dX11_person_47 : decode cX11_person 47 = .ok (.invokevirtual 189, 3) := by decide +kernel
theorem dX11_person_50 : decode cX11_person 50 = .ok (.ireturn, 1) := by decide +kernel
theorem dX11_personTold_0 : decode cX11_personTold 0 = .ok (.iload_n 1, 1) := by decide +kernel
theorem dX11_personTold_1 : decode cX11_personTold 1 = .ok (.aload_n 0, 1) := by decide +kernel
theorem dX11_personTold_2 : decode cX11_personTold 2 = .ok (.getfield 36, 3) := by decide +kernel
theorem dX11_personTold_5 : decode cX11_personTold 5 = .ok (.getfield 186, 3) := by decide +kernel
theorem dX11_personTold_8 : decode cX11_personTold 8 = .ok (.invokestatic 93, 3) := by decide +kernel
theorem dX11_personTold_11 : decode cX11_personTold 11 = .ok (.ifCond .ne 6, 3) := by decide +kernel
theorem dX11_personTold_14 : decode cX11_personTold 14 = .ok (.ldc 97, 2) := by decide +kernel
theorem dX11_personTold_16 : decode cX11_personTold 16 = .ok (.ireturn, 1) := by decide +kernel
theorem dX11_personTold_17 : decode cX11_personTold 17 = .ok (.iload_n 2, 1) := by decide +kernel
theorem dX11_personTold_18 : decode cX11_personTold 18 = .ok (.lookupswitch 46 #[(0, 26), (1, 36)], 26) := by decide +kernel
theorem dX11_personTold_44 : decode cX11_personTold 44 = .ok (.aload_n 0, 1) := by decide +kernel
theorem dX11_personTold_45 : decode cX11_personTold 45 = .ok (.getfield 36, 3) := by decide +kernel
theorem dX11_personTold_48 : decode cX11_personTold 48 = .ok (.getfield 192, 3) := by decide +kernel
theorem dX11_personTold_51 : decode cX11_personTold 51 = .ok (.iload_n 1, 1) := by decide +kernel
theorem dX11_personTold_52 : decode cX11_personTold 52 = .ok (.iaload, 1) := by decide +kernel
theorem dX11_personTold_53 : decode cX11_personTold 53 = .ok (.ireturn, 1) := by decide +kernel
theorem dX11_personTold_54 : decode cX11_personTold 54 = .ok (.aload_n 0, 1) := by decide +kernel
theorem dX11_personTold_55 : decode cX11_personTold 55 = .ok (.getfield 36, 3) := by decide +kernel
theorem dX11_personTold_58 : decode cX11_personTold 58 = .ok (.getfield 195, 3) := by decide +kernel
theorem dX11_personTold_61 : decode cX11_personTold 61 = .ok (.iload_n 1, 1) := by decide +kernel
theorem dX11_personTold_62 : decode cX11_personTold 62 = .ok (.iaload, 1) := by decide +kernel
theorem dX11_personTold_63 : decode cX11_personTold 63 = .ok (.ireturn, 1) := by decide +kernel
theorem dX11_personTold_64 : decode cX11_personTold 64 = .ok (.ldc 97, 2) := by decide +kernel
theorem dX11_personTold_66 : decode cX11_personTold 66 = .ok (.ireturn, 1) := by decide +kernel
theorem dX11_set_0 : decode cX11_set 0 = .ok (.iload_n 1, 1) := by decide +kernel
theorem dX11_set_1 : decode cX11_set 1 = .ok (.aload_n 0, 1) := by decide +kernel
theorem dX11_set_2 : decode cX11_set 2 = .ok (.getfield 36, 3) := by decide +kernel
theorem dX11_set_5 : decode cX11_set 5 = .ok (.getfield 186, 3) := by decide +kernel
theorem dX11_set_8 : decode cX11_set 8 = .ok (.invokestatic 93, 3) := by decide +kernel
theorem dX11_set_11 : decode cX11_set 11 = .ok (.ifCond .eq 11, 3) := by decide +kernel
theorem dX11_set_14 : decode cX11_set 14 = .ok (.iload_n 2, 1) := by decide +kernel
theorem dX11_set_15 : decode cX11_set 15 = .ok (.iconst 2, 1) := by decide +kernel
theorem dX11_set_16 : decode cX11_set 16 = .ok (.invokestatic 93, 3) := by decide +kernel
theorem dX11_set_19 : decode cX11_set 19 = .ok (.ifCond .ne 6, 3) := by decide +kernel
theorem dX11_set_22 : decode cX11_set 22 = .ok (.ldc 97, 2) := by decide +kernel
theorem dX11_set_24 : decode cX11_set 24 = .ok (.ireturn, 1) := by decide +kernel
theorem dX11_set_25 : decode cX11_set 25 = .ok (.iload_n 3, 1) := by decide +kernel
theorem dX11_set_26 : decode cX11_set 26 = .ok (.iload_n 2, 1) := by decide +kernel
theorem dX11_set_27 : decode cX11_set 27 = .ok (.ifCond .ne 13, 3) := by decide +kernel
theorem dX11_set_30 : decode cX11_set 30 = .ok (.aload_n 0, 1) := by decide +kernel
theorem dX11_set_31 : decode cX11_set 31 = .ok (.getfield 36, 3) := by decide +kernel
theorem dX11_set_34 : decode cX11_set 34 = .ok (.getfield 98, 3) := by decide +kernel
theorem dX11_set_37 : decode cX11_set 37 = .ok (.goto 5, 3) := by decide +kernel
theorem dX11_set_40 : decode cX11_set 40 = .ok (.bipush 100, 2) := by decide +kernel
theorem dX11_set_42 : decode cX11_set 42 = .ok (.invokestatic 93, 3) := by decide +kernel
theorem dX11_set_45 : decode cX11_set 45 = .ok (.ifCond .ne 6, 3) := by decide +kernel
theorem dX11_set_48 : decode cX11_set 48 = .ok (.ldc 97, 2) := by decide +kernel
theorem dX11_set_50 : decode cX11_set 50 = .ok (.ireturn, 1) := by decide +kernel
theorem dX11_set_51 : decode cX11_set 51 = .ok (.iload_n 2, 1) := by decide +kernel
theorem dX11_set_52 : decode cX11_set 52 = .ok (.ifCond .ne 13, 3) := by decide +kernel
theorem dX11_set_55 : decode cX11_set 55 = .ok (.aload_n 0, 1) := by decide +kernel
theorem dX11_set_56 : decode cX11_set 56 = .ok (.getfield 36, 3) := by decide +kernel
theorem dX11_set_59 : decode cX11_set 59 = .ok (.getfield 192, 3) := by decide +kernel
theorem dX11_set_62 : decode cX11_set 62 = .ok (.goto 10, 3) := by decide +kernel
theorem dX11_set_65 : decode cX11_set 65 = .ok (.aload_n 0, 1) := by decide +kernel
theorem dX11_set_66 : decode cX11_set 66 = .ok (.getfield 36, 3) := by decide +kernel
theorem dX11_set_69 : decode cX11_set 69 = .ok (.getfield 195, 3) := by decide +kernel
theorem dX11_set_72 : decode cX11_set 72 = .ok (.iload_n 1, 1) := by decide +kernel
theorem dX11_set_73 : decode cX11_set 73 = .ok (.iload_n 3, 1) := by decide +kernel
theorem dX11_set_74 : decode cX11_set 74 = .ok (.invokestatic 119, 3) := by decide +kernel
theorem dX11_set_77 : decode cX11_set 77 = .ok (.ireturn, 1) := by decide +kernel
theorem dX11_may_0 : decode cX11_may 0 = .ok (.iload_n 1, 1) := by decide +kernel
theorem dX11_may_1 : decode cX11_may 1 = .ok (.aload_n 0, 1) := by decide +kernel
theorem dX11_may_2 : decode cX11_may 2 = .ok (.getfield 36, 3) := by decide +kernel
theorem dX11_may_5 : decode cX11_may 5 = .ok (.getfield 186, 3) := by decide +kernel
theorem dX11_may_8 : decode cX11_may 8 = .ok (.invokestatic 93, 3) := by decide +kernel
theorem dX11_may_11 : decode cX11_may 11 = .ok (.ifCond .eq 17, 3) := by decide +kernel
theorem dX11_may_14 : decode cX11_may 14 = .ok (.iload_n 2, 1) := by decide +kernel
theorem dX11_may_15 : decode cX11_may 15 = .ok (.aload_n 0, 1) := by decide +kernel
theorem dX11_may_16 : decode cX11_may 16 = .ok (.getfield 36, 3) := by decide +kernel
theorem dX11_may_19 : decode cX11_may 19 = .ok (.getfield 139, 3) := by decide +kernel
theorem dX11_may_22 : decode cX11_may 22 = .ok (.invokestatic 93, 3) := by decide +kernel
theorem dX11_may_25 : decode cX11_may 25 = .ok (.ifCond .ne 6, 3) := by decide +kernel
theorem dX11_may_28 : decode cX11_may 28 = .ok (.ldc 97, 2) := by decide +kernel
theorem dX11_may_30 : decode cX11_may 30 = .ok (.ireturn, 1) := by decide +kernel
theorem dX11_may_31 : decode cX11_may 31 = .ok (.aload_n 0, 1) := by decide +kernel
theorem dX11_may_32 : decode cX11_may 32 = .ok (.getfield 36, 3) := by decide +kernel
theorem dX11_may_35 : decode cX11_may 35 = .ok (.iload_n 1, 1) := by decide +kernel
theorem dX11_may_36 : decode cX11_may 36 = .ok (.iload_n 2, 1) := by decide +kernel
theorem dX11_may_37 : decode cX11_may 37 = .ok (.invokevirtual 198, 3) := by decide +kernel
theorem dX11_may_40 : decode cX11_may 40 = .ok (.ifCond .eq 7, 3) := by decide +kernel
theorem dX11_may_43 : decode cX11_may 43 = .ok (.iconst 1, 1) := by decide +kernel
theorem dX11_may_44 : decode cX11_may 44 = .ok (.goto 4, 3) := by decide +kernel
theorem dX11_may_47 : decode cX11_may 47 = .ok (.iconst 0, 1) := by decide +kernel
theorem dX11_may_48 : decode cX11_may 48 = .ok (.ireturn, 1) := by decide +kernel
theorem dX11_move_0 : decode cX11_move 0 = .ok (.iload_n 1, 1) := by decide +kernel
theorem dX11_move_1 : decode cX11_move 1 = .ok (.aload_n 0, 1) := by decide +kernel
theorem dX11_move_2 : decode cX11_move 2 = .ok (.getfield 36, 3) := by decide +kernel
theorem dX11_move_5 : decode cX11_move 5 = .ok (.getfield 186, 3) := by decide +kernel
theorem dX11_move_8 : decode cX11_move 8 = .ok (.invokestatic 93, 3) := by decide +kernel
theorem dX11_move_11 : decode cX11_move 11 = .ok (.ifCond .eq 31, 3) := by decide +kernel
theorem dX11_move_14 : decode cX11_move 14 = .ok (.iload_n 2, 1) := by decide +kernel
theorem dX11_move_15 : decode cX11_move 15 = .ok (.aload_n 0, 1) := by decide +kernel
theorem dX11_move_16 : decode cX11_move 16 = .ok (.getfield 36, 3) := by decide +kernel
theorem dX11_move_19 : decode cX11_move 19 = .ok (.getfield 139, 3) := by decide +kernel
theorem dX11_move_22 : decode cX11_move 22 = .ok (.invokestatic 93, 3) := by decide +kernel
theorem dX11_move_25 : decode cX11_move 25 = .ok (.ifCond .eq 17, 3) := by decide +kernel
theorem dX11_move_28 : decode cX11_move 28 = .ok (.iload_n 3, 1) := by decide +kernel
theorem dX11_move_29 : decode cX11_move 29 = .ok (.aload_n 0, 1) := by decide +kernel
theorem dX11_move_30 : decode cX11_move 30 = .ok (.getfield 36, 3) := by decide +kernel
theorem dX11_move_33 : decode cX11_move 33 = .ok (.getfield 98, 3) := by decide +kernel
theorem dX11_move_36 : decode cX11_move 36 = .ok (.invokestatic 93, 3) := by decide +kernel
theorem dX11_move_39 : decode cX11_move 39 = .ok (.ifCond .ne 6, 3) := by decide +kernel
theorem dX11_move_42 : decode cX11_move 42 = .ok (.ldc 97, 2) := by decide +kernel
theorem dX11_move_44 : decode cX11_move 44 = .ok (.ireturn, 1) := by decide +kernel
theorem dX11_move_45 : decode cX11_move 45 = .ok (.aload_n 0, 1) := by decide +kernel
theorem dX11_move_46 : decode cX11_move 46 = .ok (.getfield 36, 3) := by decide +kernel
theorem dX11_move_49 : decode cX11_move 49 = .ok (.iload_n 1, 1) := by decide +kernel
theorem dX11_move_50 : decode cX11_move 50 = .ok (.iload_n 2, 1) := by decide +kernel
theorem dX11_move_51 : decode cX11_move 51 = .ok (.invokevirtual 198, 3) := by decide +kernel
theorem dX11_move_54 : decode cX11_move 54 = .ok (.ifCond .eq 28, 3) := by decide +kernel
theorem dX11_move_57 : decode cX11_move 57 = .ok (.aload_n 0, 1) := by decide +kernel
theorem dX11_move_58 : decode cX11_move 58 = .ok (.getfield 36, 3) := by decide +kernel
theorem dX11_move_61 : decode cX11_move 61 = .ok (.getfield 155, 3) := by decide +kernel
theorem dX11_move_64 : decode cX11_move 64 = .ok (.iload_n 2, 1) := by decide +kernel
theorem dX11_move_65 : decode cX11_move 65 = .ok (.iaload, 1) := by decide +kernel
theorem dX11_move_66 : decode cX11_move 66 = .ok (.iload_n 3, 1) := by decide +kernel
theorem dX11_move_67 : decode cX11_move 67 = .ok (.if_icmp .eq 15, 3) := by decide +kernel
theorem dX11_move_70 : decode cX11_move 70 = .ok (.aload_n 0, 1) := by decide +kernel
theorem dX11_move_71 : decode cX11_move 71 = .ok (.getfield 36, 3) := by decide +kernel
theorem dX11_move_74 : decode cX11_move 74 = .ok (.iload_n 2, 1) := by decide +kernel
theorem dX11_move_75 : decode cX11_move 75 = .ok (.iload_n 3, 1) := by decide +kernel
theorem dX11_move_76 : decode cX11_move 76 = .ok (.invokevirtual 201, 3) := by decide +kernel
theorem dX11_move_79 : decode cX11_move 79 = .ok (.ifCond .ne 6, 3) := by decide +kernel
theorem dX11_move_82 : decode cX11_move 82 = .ok (.ldc 204, 2) := by decide +kernel
theorem dX11_move_84 : decode cX11_move 84 = .ok (.ireturn, 1) := by decide +kernel
theorem dX11_move_85 : decode cX11_move 85 = .ok (.aload_n 0, 1) := by decide +kernel
theorem dX11_move_86 : decode cX11_move 86 = .ok (.getfield 36, 3) := by decide +kernel
theorem dX11_move_89 : decode cX11_move 89 = .ok (.dup, 1) := by decide +kernel
theorem dX11_move_90 : decode cX11_move 90 = .ok (.getfield 167, 3) := by decide +kernel
theorem dX11_move_93 : decode cX11_move 93 = .ok (.iconst 1, 1) := by decide +kernel
theorem dX11_move_94 : decode cX11_move 94 = .ok (.iload_n 2, 1) := by decide +kernel
theorem dX11_move_95 : decode cX11_move 95 = .ok (.ishl, 1) := by decide +kernel
theorem dX11_move_96 : decode cX11_move 96 = .ok (.ior, 1) := by decide +kernel
theorem dX11_move_97 : decode cX11_move 97 = .ok (.putfield 167, 3) := by decide +kernel
theorem dX11_move_100 : decode cX11_move 100 = .ok (.aload_n 0, 1) := by decide +kernel
theorem dX11_move_101 : decode cX11_move 101 = .ok (.getfield 36, 3) := by decide +kernel
theorem dX11_move_104 : decode cX11_move 104 = .ok (.getfield 155, 3) := by decide +kernel
theorem dX11_move_107 : decode cX11_move 107 = .ok (.iload_n 2, 1) := by decide +kernel
theorem dX11_move_108 : decode cX11_move 108 = .ok (.iload_n 3, 1) := by decide +kernel
theorem dX11_move_109 : decode cX11_move 109 = .ok (.invokestatic 119, 3) := by decide +kernel
theorem dX11_move_112 : decode cX11_move 112 = .ok (.ireturn, 1) := by decide +kernel
theorem dX11_climb_0 : decode cX11_climb 0 = .ok (.iload_n 1, 1) := by decide +kernel
theorem dX11_climb_1 : decode cX11_climb 1 = .ok (.aload_n 0, 1) := by decide +kernel
theorem dX11_climb_2 : decode cX11_climb 2 = .ok (.getfield 36, 3) := by decide +kernel
theorem dX11_climb_5 : decode cX11_climb 5 = .ok (.getfield 186, 3) := by decide +kernel
theorem dX11_climb_8 : decode cX11_climb 8 = .ok (.invokestatic 93, 3) := by decide +kernel
theorem dX11_climb_11 : decode cX11_climb 11 = .ok (.ifCond .eq 17, 3) := by decide +kernel
theorem dX11_climb_14 : decode cX11_climb 14 = .ok (.iload_n 2, 1) := by decide +kernel
theorem dX11_climb_15 : decode cX11_climb 15 = .ok (.aload_n 0, 1) := by decide +kernel
theorem dX11_climb_16 : decode cX11_climb 16 = .ok (.getfield 36, 3) := by decide +kernel
theorem dX11_climb_19 : decode cX11_climb 19 = .ok (.getfield 139, 3) := by decide +kernel
theorem dX11_climb_22 : decode cX11_climb 22 = .ok (.invokestatic 93, 3) := by decide +kernel
theorem dX11_climb_25 : decode cX11_climb 25 = .ok (.ifCond .ne 6, 3) := by decide +kernel
theorem dX11_climb_28 : decode cX11_climb 28 = .ok (.ldc 97, 2) := by decide +kernel
theorem dX11_climb_30 : decode cX11_climb 30 = .ok (.ireturn, 1) := by decide +kernel
theorem dX11_climb_31 : decode cX11_climb 31 = .ok (.aload_n 0, 1) := by decide +kernel
theorem dX11_climb_32 : decode cX11_climb 32 = .ok (.getfield 36, 3) := by decide +kernel
theorem dX11_climb_35 : decode cX11_climb 35 = .ok (.iload_n 2, 1) := by decide +kernel
theorem dX11_climb_36 : decode cX11_climb 36 = .ok (.invokevirtual 164, 3) := by decide +kernel
theorem dX11_climb_39 : decode cX11_climb 39 = .ok (.ifCond .ne 6, 3) := by decide +kernel
theorem dX11_climb_42 : decode cX11_climb 42 = .ok (.ldc 204, 2) := by decide +kernel
theorem dX11_climb_44 : decode cX11_climb 44 = .ok (.ireturn, 1) := by decide +kernel
theorem dX11_climb_45 : decode cX11_climb 45 = .ok (.aload_n 0, 1) := by decide +kernel
theorem dX11_climb_46 : decode cX11_climb 46 = .ok (.getfield 36, 3) := by decide +kernel
theorem dX11_climb_49 : decode cX11_climb 49 = .ok (.getfield 192, 3) := by decide +kernel
theorem dX11_climb_52 : decode cX11_climb 52 = .ok (.iload_n 1, 1) := by decide +kernel
theorem dX11_climb_53 : decode cX11_climb 53 = .ok (.iaload, 1) := by decide +kernel
theorem dX11_climb_54 : decode cX11_climb 54 = .ok (.aload_n 0, 1) := by decide +kernel
theorem dX11_climb_55 : decode cX11_climb 55 = .ok (.getfield 36, 3) := by decide +kernel
theorem dX11_climb_58 : decode cX11_climb 58 = .ok (.getfield 152, 3) := by decide +kernel
theorem dX11_climb_61 : decode cX11_climb 61 = .ok (.iload_n 2, 1) := by decide +kernel
theorem dX11_climb_62 : decode cX11_climb 62 = .ok (.iaload, 1) := by decide +kernel
theorem dX11_climb_63 : decode cX11_climb 63 = .ok (.if_icmp .ne 24, 3) := by decide +kernel
theorem dX11_climb_66 : decode cX11_climb 66 = .ok (.aload_n 0, 1) := by decide +kernel
theorem dX11_climb_67 : decode cX11_climb 67 = .ok (.getfield 36, 3) := by decide +kernel
theorem dX11_climb_70 : decode cX11_climb 70 = .ok (.getfield 192, 3) := by decide +kernel
theorem dX11_climb_73 : decode cX11_climb 73 = .ok (.iload_n 1, 1) := by decide +kernel
theorem dX11_climb_74 : decode cX11_climb 74 = .ok (.aload_n 0, 1) := by decide +kernel
theorem dX11_climb_75 : decode cX11_climb 75 = .ok (.getfield 36, 3) := by decide +kernel
theorem dX11_climb_78 : decode cX11_climb 78 = .ok (.getfield 155, 3) := by decide +kernel
theorem dX11_climb_81 : decode cX11_climb 81 = .ok (.iload_n 2, 1) := by decide +kernel
theorem dX11_climb_82 : decode cX11_climb 82 = .ok (.iaload, 1) := by decide +kernel
theorem dX11_climb_83 : decode cX11_climb 83 = .ok (.iastore, 1) := by decide +kernel
theorem dX11_climb_84 : decode cX11_climb 84 = .ok (.goto 48, 3) := by decide +kernel
theorem dX11_climb_87 : decode cX11_climb 87 = .ok (.aload_n 0, 1) := by decide +kernel
theorem dX11_climb_88 : decode cX11_climb 88 = .ok (.getfield 36, 3) := by decide +kernel
theorem dX11_climb_91 : decode cX11_climb 91 = .ok (.getfield 192, 3) := by decide +kernel
theorem dX11_climb_94 : decode cX11_climb 94 = .ok (.iload_n 1, 1) := by decide +kernel
theorem dX11_climb_95 : decode cX11_climb 95 = .ok (.iaload, 1) := by decide +kernel
theorem dX11_climb_96 : decode cX11_climb 96 = .ok (.aload_n 0, 1) := by decide +kernel
theorem dX11_climb_97 : decode cX11_climb 97 = .ok (.getfield 36, 3) := by decide +kernel
theorem dX11_climb_100 : decode cX11_climb 100 = .ok (.getfield 155, 3) := by decide +kernel
theorem dX11_climb_103 : decode cX11_climb 103 = .ok (.iload_n 2, 1) := by decide +kernel
theorem dX11_climb_104 : decode cX11_climb 104 = .ok (.iaload, 1) := by decide +kernel
theorem dX11_climb_105 : decode cX11_climb 105 = .ok (.if_icmp .ne 24, 3) := by decide +kernel
theorem dX11_climb_108 : decode cX11_climb 108 = .ok (.aload_n 0, 1) := by decide +kernel
theorem dX11_climb_109 : decode cX11_climb 109 = .ok (.getfield 36, 3) := by decide +kernel
theorem dX11_climb_112 : decode cX11_climb 112 = .ok (.getfield 192, 3) := by decide +kernel
theorem dX11_climb_115 : decode cX11_climb 115 = .ok (.iload_n 1, 1) := by decide +kernel
theorem dX11_climb_116 : decode cX11_climb 116 = .ok (.aload_n 0, 1) := by decide +kernel
theorem dX11_climb_117 : decode cX11_climb 117 = .ok (.getfield 36, 3) := by decide +kernel
theorem dX11_climb_120 : decode cX11_climb 120 = .ok (.getfield 152, 3) := by decide +kernel
theorem dX11_climb_123 : decode cX11_climb 123 = .ok (.iload_n 2, 1) := by decide +kernel
theorem dX11_climb_124 : decode cX11_climb 124 = .ok (.iaload, 1) := by decide +kernel
theorem dX11_climb_125 : decode cX11_climb 125 = .ok (.iastore, 1) := by decide +kernel
theorem dX11_climb_126 : decode cX11_climb 126 = .ok (.goto 6, 3) := by decide +kernel
theorem dX11_climb_129 : decode cX11_climb 129 = .ok (.ldc 204, 2) := by decide +kernel
theorem dX11_climb_131 : decode cX11_climb 131 = .ok (.ireturn, 1) := by decide +kernel
theorem dX11_climb_132 : decode cX11_climb 132 = .ok (.aload_n 0, 1) := by decide +kernel
theorem dX11_climb_133 : decode cX11_climb 133 = .ok (.getfield 36, 3) := by decide +kernel
theorem dX11_climb_136 : decode cX11_climb 136 = .ok (.iload_n 2, 1) := by decide +kernel
theorem dX11_climb_137 : decode cX11_climb 137 = .ok (.invokevirtual 161, 3) := by decide +kernel
theorem dX11_climb_140 : decode cX11_climb 140 = .ok (.ireturn, 1) := by decide +kernel
theorem dX11_thieves_0 : decode cX11_thieves 0 = .ok (.iload_n 1, 1) := by decide +kernel
theorem dX11_thieves_1 : decode cX11_thieves 1 = .ok (.ifCond .lt 9, 3) := by decide +kernel
theorem dX11_thieves_4 : decode cX11_thieves 4 = .ok (.iload_n 1, 1) := by decide +kernel
theorem dX11_thieves_5 : decode cX11_thieves 5 = .ok (.bipush 100, 2) := by decide +kernel
theorem dX11_thieves_7 : decode cX11_thieves 7 = .ok (.if_icmp .le 6, 3) := by decide +kernel
theorem dX11_thieves_10 : decode cX11_thieves 10 = .ok (.ldc 97, 2) := by decide +kernel
theorem dX11_thieves_12 : decode cX11_thieves 12 = .ok (.ireturn, 1) := by decide +kernel
theorem dX11_thieves_13 : decode cX11_thieves 13 = .ok (.aload_n 0, 1) := by decide +kernel
theorem dX11_thieves_14 : decode cX11_thieves 14 = .ok (.getfield 36, 3) := by decide +kernel
theorem dX11_thieves_17 : decode cX11_thieves 17 = .ok (.getfield 205, 3) := by decide +kernel
theorem dX11_thieves_20 : decode cX11_thieves 20 = .ok (.istore_n 2, 1) := by decide +kernel
theorem dX11_thieves_21 : decode cX11_thieves 21 = .ok (.aload_n 0, 1) := by decide +kernel
theorem dX11_thieves_22 : decode cX11_thieves 22 = .ok (.getfield 36, 3) := by decide +kernel
theorem dX11_thieves_25 : decode cX11_thieves 25 = .ok (.iload_n 1, 1) := by decide +kernel
theorem dX11_thieves_26 : decode cX11_thieves 26 = .ok (.putfield 205, 3) := by decide +kernel
theorem dX11_thieves_29 : decode cX11_thieves 29 = .ok (.iload_n 2, 1) := by decide +kernel
theorem dX11_thieves_30 : decode cX11_thieves 30 = .ok (.ireturn, 1) := by decide +kernel
theorem dX11_nights_0 : decode cX11_nights 0 = .ok (.iload_n 1, 1) := by decide +kernel
theorem dX11_nights_1 : decode cX11_nights 1 = .ok (.iconst 1, 1) := by decide +kernel
theorem dX11_nights_2 : decode cX11_nights 2 = .ok (.if_icmp .lt 9, 3) := by decide +kernel
theorem dX11_nights_5 : decode cX11_nights 5 = .ok (.iload_n 1, 1) := by decide +kernel
theorem dX11_nights_6 : decode cX11_nights 6 = .ok (.bipush 30, 2) := by decide +kernel
theorem dX11_nights_8 : decode cX11_nights 8 = .ok (.if_icmp .le 6, 3) := by decide +kernel
theorem dX11_nights_11 : decode cX11_nights 11 = .ok (.ldc 97, 2) := by decide +kernel
theorem dX11_nights_13 : decode cX11_nights 13 = .ok (.ireturn, 1) := by decide +kernel
theorem dX11_nights_14 : decode cX11_nights 14 = .ok (.aload_n 0, 1) := by decide +kernel
theorem dX11_nights_15 : decode cX11_nights 15 = .ok (.getfield 55, 3) := by decide +kernel
theorem dX11_nights_18 : decode cX11_nights 18 = .ok (.aload_n 0, 1) := by decide +kernel
theorem dX11_nights_19 : decode cX11_nights 19 = .ok (.getfield 36, 3) := by decide +kernel
theorem dX11_nights_22 : decode cX11_nights 22 = .ok (.invokevirtual 208, 3) := by decide +kernel
theorem dX11_nights_25 : decode cX11_nights 25 = .ok (.iconst 0, 1) := by decide +kernel
theorem dX11_nights_26 : decode cX11_nights 26 = .ok (.istore_n 2, 1) := by decide +kernel
theorem dX11_nights_27 : decode cX11_nights 27 = .ok (.iconst 0, 1) := by decide +kernel
theorem dX11_nights_28 : decode cX11_nights 28 = .ok (.istore_n 3, 1) := by decide +kernel
theorem dX11_nights_29 : decode cX11_nights 29 = .ok (.iload_n 3, 1) := by decide +kernel
theorem dX11_nights_30 : decode cX11_nights 30 = .ok (.iload_n 1, 1) := by decide +kernel
theorem dX11_nights_31 : decode cX11_nights 31 = .ok (.if_icmp .ge 26, 3) := by decide +kernel
theorem dX11_nights_34 : decode cX11_nights 34 = .ok (.iload_n 2, 1) := by decide +kernel
theorem dX11_nights_35 : decode cX11_nights 35 = .ok (.aload_n 0, 1) := by decide +kernel
theorem dX11_nights_36 : decode cX11_nights 36 = .ok (.getfield 36, 3) := by decide +kernel
theorem dX11_nights_39 : decode cX11_nights 39 = .ok (.aload_n 0, 1) := by decide +kernel
theorem dX11_nights_40 : decode cX11_nights 40 = .ok (.getfield 55, 3) := by decide +kernel
theorem dX11_nights_43 : decode cX11_nights 43 = .ok (.getfield 211, 3) := by decide +kernel
theorem dX11_nights_46 : decode cX11_nights 46 = .ok (.invokevirtual 214, 3) := by decide +kernel
theorem dX11_nights_49 : decode cX11_nights 49 = .ok (.iadd, 1) := by decide +kernel
theorem dX11_nights_50 : decode cX11_nights 50 = .ok (.istore_n 2, 1) := by decide +kernel
theorem dX11_nights_51 : decode cX11_nights 51 = .ok (.iinc 3 1, 3) := by decide +kernel
theorem dX11_nights_54 : decode cX11_nights 54 = .ok (.goto (-25), 3) := by decide +kernel
theorem dX11_nights_57 : decode cX11_nights 57 = .ok (.iload_n 2, 1) := by decide +kernel
theorem dX11_nights_58 : decode cX11_nights 58 = .ok (.ireturn, 1) := by decide +kernel
theorem dX11_way_0 : decode cX11_way 0 = .ok (.iload_n 1, 1) := by decide +kernel
theorem dX11_way_1 : decode cX11_way 1 = .ok (.aload_n 0, 1) := by decide +kernel
theorem dX11_way_2 : decode cX11_way 2 = .ok (.getfield 36, 3) := by decide +kernel
theorem dX11_way_5 : decode cX11_way 5 = .ok (.getfield 98, 3) := by decide +kernel
theorem dX11_way_8 : decode cX11_way 8 = .ok (.invokestatic 93, 3) := by decide +kernel
theorem dX11_way_11 : decode cX11_way 11 = .ok (.ifCond .eq 25, 3) := by decide +kernel
theorem dX11_way_14 : decode cX11_way 14 = .ok (.iload_n 2, 1) := by decide +kernel
theorem dX11_way_15 : decode cX11_way 15 = .ok (.aload_n 0, 1) := by decide +kernel
theorem dX11_way_16 : decode cX11_way 16 = .ok (.getfield 36, 3) := by decide +kernel
theorem dX11_way_19 : decode cX11_way 19 = .ok (.getfield 98, 3) := by decide +kernel
theorem dX11_way_22 : decode cX11_way 22 = .ok (.invokestatic 93, 3) := by decide +kernel
theorem dX11_way_25 : decode cX11_way 25 = .ok (.ifCond .eq 11, 3) := by decide +kernel
theorem dX11_way_28 : decode cX11_way 28 = .ok (.iload_n 3, 1) := by decide +kernel
theorem dX11_way_29 : decode cX11_way 29 = .ok (.iconst 3, 1) := by decide +kernel
theorem dX11_way_30 : decode cX11_way 30 = .ok (.invokestatic 93, 3) := by decide +kernel
theorem dX11_way_33 : decode cX11_way 33 = .ok (.ifCond .ne 6, 3) := by decide +kernel
theorem dX11_way_36 : decode cX11_way 36 = .ok (.ldc 97, 2) := by decide +kernel
theorem dX11_way_38 : decode cX11_way 38 = .ok (.ireturn, 1) := by decide +kernel
theorem dX11_way_39 : decode cX11_way 39 = .ok (.aload_n 0, 1) := by decide +kernel
theorem dX11_way_40 : decode cX11_way 40 = .ok (.getfield 55, 3) := by decide +kernel
theorem dX11_way_43 : decode cX11_way 43 = .ok (.aload_n 0, 1) := by decide +kernel
theorem dX11_way_44 : decode cX11_way 44 = .ok (.getfield 36, 3) := by decide +kernel
theorem dX11_way_47 : decode cX11_way 47 = .ok (.invokevirtual 208, 3) := by decide +kernel
theorem dX11_way_50 : decode cX11_way 50 = .ok (.aload_n 0, 1) := by decide +kernel
theorem dX11_way_51 : decode cX11_way 51 = .ok (.getfield 55, 3) := by decide +kernel
theorem dX11_way_54 : decode cX11_way 54 = .ok (.iload_n 1, 1) := by decide +kernel
theorem dX11_way_55 : decode cX11_way 55 = .ok (.invokevirtual 218, 3) := by decide +kernel
theorem dX11_way_58 : decode cX11_way 58 = .ok (.aload_n 0, 1) := by decide +kernel
theorem dX11_way_59 : decode cX11_way 59 = .ok (.getfield 55, 3) := by decide +kernel
theorem dX11_way_62 : decode cX11_way 62 = .ok (.iload_n 2, 1) := by decide +kernel
theorem dX11_way_63 : decode cX11_way 63 = .ok (.invokevirtual 222, 3) := by decide +kernel
theorem dX11_way_66 : decode cX11_way 66 = .ok (.ifCond .ne 6, 3) := by decide +kernel
theorem dX11_way_69 : decode cX11_way 69 = .ok (.ldc 225, 2) := by decide +kernel
theorem dX11_way_71 : decode cX11_way 71 = .ok (.ireturn, 1) := by decide +kernel
theorem dX11_way_72 : decode cX11_way 72 = .ok (.iload_n 3, 1) := by decide +kernel
theorem dX11_way_73 : decode cX11_way 73 = .ok (.lookupswitch 45 #[(0, 27), (1, 36)], 27) := by decide +kernel
theorem dX11_way_100 : decode cX11_way 100 = .ok (.aload_n 0, 1) := by decide +kernel
theorem dX11_way_101 : decode cX11_way 101 = .ok (.getfield 55, 3) := by decide +kernel
theorem dX11_way_104 : decode cX11_way 104 = .ok (.iload_n 2, 1) := by decide +kernel
theorem dX11_way_105 : decode cX11_way 105 = .ok (.invokevirtual 226, 3) := by decide +kernel
theorem dX11_way_108 : decode cX11_way 108 = .ok (.ireturn, 1) := by decide +kernel
theorem dX11_way_109 : decode cX11_way 109 = .ok (.aload_n 0, 1) := by decide +kernel
theorem dX11_way_110 : decode cX11_way 110 = .ok (.getfield 55, 3) := by decide +kernel
theorem dX11_way_113 : decode cX11_way 113 = .ok (.iload_n 2, 1) := by decide +kernel
theorem dX11_way_114 : decode cX11_way 114 = .ok (.invokevirtual 229, 3) := by decide +kernel
theorem dX11_way_117 : decode cX11_way 117 = .ok (.ireturn, 1) := by decide +kernel
theorem dX11_way_118 : decode cX11_way 118 = .ok (.aload_n 0, 1) := by decide +kernel
theorem dX11_way_119 : decode cX11_way 119 = .ok (.getfield 36, 3) := by decide +kernel
theorem dX11_way_122 : decode cX11_way 122 = .ok (.aload_n 0, 1) := by decide +kernel
theorem dX11_way_123 : decode cX11_way 123 = .ok (.getfield 55, 3) := by decide +kernel
theorem dX11_way_126 : decode cX11_way 126 = .ok (.iload_n 2, 1) := by decide +kernel
theorem dX11_way_127 : decode cX11_way 127 = .ok (.invokevirtual 226, 3) := by decide +kernel
theorem dX11_way_130 : decode cX11_way 130 = .ok (.aload_n 0, 1) := by decide +kernel
theorem dX11_way_131 : decode cX11_way 131 = .ok (.getfield 55, 3) := by decide +kernel
theorem dX11_way_134 : decode cX11_way 134 = .ok (.iload_n 2, 1) := by decide +kernel
theorem dX11_way_135 : decode cX11_way 135 = .ok (.invokevirtual 229, 3) := by decide +kernel
theorem dX11_way_138 : decode cX11_way 138 = .ok (.invokevirtual 232, 3) := by decide +kernel
theorem dX11_way_141 : decode cX11_way 141 = .ok (.ireturn, 1) := by decide +kernel
theorem dX11_reached_0 : decode cX11_reached 0 = .ok (.iload_n 1, 1) := by decide +kernel
theorem dX11_reached_1 : decode cX11_reached 1 = .ok (.aload_n 0, 1) := by decide +kernel
theorem dX11_reached_2 : decode cX11_reached 2 = .ok (.getfield 36, 3) := by decide +kernel
theorem dX11_reached_5 : decode cX11_reached 5 = .ok (.getfield 98, 3) := by decide +kernel
theorem dX11_reached_8 : decode cX11_reached 8 = .ok (.invokestatic 93, 3) := by decide +kernel
theorem dX11_reached_11 : decode cX11_reached 11 = .ok (.ifCond .ne 6, 3) := by decide +kernel
theorem dX11_reached_14 : decode cX11_reached 14 = .ok (.ldc 97, 2) := by decide +kernel
theorem dX11_reached_16 : decode cX11_reached 16 = .ok (.ireturn, 1) := by decide +kernel
theorem dX11_reached_17 : decode cX11_reached 17 = .ok (.aload_n 0, 1) := by decide +kernel
theorem dX11_reached_18 : decode cX11_reached 18 = .ok (.getfield 55, 3) := by decide +kernel
theorem dX11_reached_21 : decode cX11_reached 21 = .ok (.aload_n 0, 1) := by decide +kernel
theorem dX11_reached_22 : decode cX11_reached 22 = .ok (.getfield 36, 3) := by decide +kernel
theorem dX11_reached_25 : decode cX11_reached 25 = .ok (.invokevirtual 208, 3) := by decide +kernel
theorem dX11_reached_28 : decode cX11_reached 28 = .ok (.aload_n 0, 1) := by decide +kernel
theorem dX11_reached_29 : decode cX11_reached 29 = .ok (.getfield 55, 3) := by decide +kernel
theorem dX11_reached_32 : decode cX11_reached 32 = .ok (.iload_n 1, 1) := by decide +kernel
theorem dX11_reached_33 : decode cX11_reached 33 = .ok (.invokevirtual 235, 3) := by decide +kernel
theorem dX11_reached_36 : decode cX11_reached 36 = .ok (.ireturn, 1) := by decide +kernel
theorem dX11_needed_0 : decode cX11_needed 0 = .ok (.iload_n 1, 1) := by decide +kernel
theorem dX11_needed_1 : decode cX11_needed 1 = .ok (.aload_n 0, 1) := by decide +kernel
theorem dX11_needed_2 : decode cX11_needed 2 = .ok (.getfield 36, 3) := by decide +kernel
theorem dX11_needed_5 : decode cX11_needed 5 = .ok (.getfield 98, 3) := by decide +kernel
theorem dX11_needed_8 : decode cX11_needed 8 = .ok (.invokestatic 93, 3) := by decide +kernel
theorem dX11_needed_11 : decode cX11_needed 11 = .ok (.ifCond .eq 17, 3) := by decide +kernel
theorem dX11_needed_14 : decode cX11_needed 14 = .ok (.iload_n 2, 1) := by decide +kernel
theorem dX11_needed_15 : decode cX11_needed 15 = .ok (.aload_n 0, 1) := by decide +kernel
theorem dX11_needed_16 : decode cX11_needed 16 = .ok (.getfield 36, 3) := by decide +kernel
theorem dX11_needed_19 : decode cX11_needed 19 = .ok (.getfield 98, 3) := by decide +kernel
theorem dX11_needed_22 : decode cX11_needed 22 = .ok (.invokestatic 93, 3) := by decide +kernel
theorem dX11_needed_25 : decode cX11_needed 25 = .ok (.ifCond .ne 6, 3) := by decide +kernel
theorem dX11_needed_28 : decode cX11_needed 28 = .ok (.ldc 97, 2) := by decide +kernel
theorem dX11_needed_30 : decode cX11_needed 30 = .ok (.ireturn, 1) := by decide +kernel
theorem dX11_needed_31 : decode cX11_needed 31 = .ok (.aload_n 0, 1) := by decide +kernel
theorem dX11_needed_32 : decode cX11_needed 32 = .ok (.getfield 55, 3) := by decide +kernel
theorem dX11_needed_35 : decode cX11_needed 35 = .ok (.aload_n 0, 1) := by decide +kernel
theorem dX11_needed_36 : decode cX11_needed 36 = .ok (.getfield 36, 3) := by decide +kernel
theorem dX11_needed_39 : decode cX11_needed 39 = .ok (.invokevirtual 208, 3) := by decide +kernel
theorem dX11_needed_42 : decode cX11_needed 42 = .ok (.aload_n 0, 1) := by decide +kernel
theorem dX11_needed_43 : decode cX11_needed 43 = .ok (.getfield 55, 3) := by decide +kernel
theorem dX11_needed_46 : decode cX11_needed 46 = .ok (.iload_n 1, 1) := by decide +kernel
theorem dX11_needed_47 : decode cX11_needed 47 = .ok (.invokevirtual 235, 3) := by decide +kernel
theorem dX11_needed_50 : decode cX11_needed 50 = .ok (.iload_n 2, 1) := by decide +kernel
theorem dX11_needed_51 : decode cX11_needed 51 = .ok (.invokestatic 170, 3) := by decide +kernel
theorem dX11_needed_54 : decode cX11_needed 54 = .ok (.ifCond .ne 6, 3) := by decide +kernel
theorem dX11_needed_57 : decode cX11_needed 57 = .ok (.ldc 225, 2) := by decide +kernel
theorem dX11_needed_59 : decode cX11_needed 59 = .ok (.ireturn, 1) := by decide +kernel
theorem dX11_needed_60 : decode cX11_needed 60 = .ok (.iconst 0, 1) := by decide +kernel
theorem dX11_needed_61 : decode cX11_needed 61 = .ok (.istore_n 3, 1) := by decide +kernel
theorem dX11_needed_62 : decode cX11_needed 62 = .ok (.iconst 0, 1) := by decide +kernel
theorem dX11_needed_63 : decode cX11_needed 63 = .ok (.istore 4, 2) := by decide +kernel
theorem dX11_needed_65 : decode cX11_needed 65 = .ok (.iload 4, 2) := by decide +kernel
theorem dX11_needed_67 : decode cX11_needed 67 = .ok (.aload_n 0, 1) := by decide +kernel
theorem dX11_needed_68 : decode cX11_needed 68 = .ok (.getfield 36, 3) := by decide +kernel
theorem dX11_needed_71 : decode cX11_needed 71 = .ok (.getfield 139, 3) := by decide +kernel
theorem dX11_needed_74 : decode cX11_needed 74 = .ok (.if_icmp .ge 33, 3) := by decide +kernel
theorem dX11_needed_77 : decode cX11_needed 77 = .ok (.aload_n 0, 1) := by decide +kernel
theorem dX11_needed_78 : decode cX11_needed 78 = .ok (.getfield 55, 3) := by decide +kernel
theorem dX11_needed_81 : decode cX11_needed 81 = .ok (.iload 4, 2) := by decide +kernel
theorem dX11_needed_83 : decode cX11_needed 83 = .ok (.iload_n 1, 1) := by decide +kernel
theorem dX11_needed_84 : decode cX11_needed 84 = .ok (.invokevirtual 238, 3) := by decide +kernel
theorem dX11_needed_87 : decode cX11_needed 87 = .ok (.iload_n 2, 1) := by decide +kernel
theorem dX11_needed_88 : decode cX11_needed 88 = .ok (.invokestatic 170, 3) := by decide +kernel
theorem dX11_needed_91 : decode cX11_needed 91 = .ok (.ifCond .ne 10, 3) := by decide +kernel
theorem dX11_needed_94 : decode cX11_needed 94 = .ok (.iload_n 3, 1) := by decide +kernel
theorem dX11_needed_95 : decode cX11_needed 95 = .ok (.iconst 1, 1) := by decide +kernel
theorem dX11_needed_96 : decode cX11_needed 96 = .ok (.iload 4, 2) := by decide +kernel
theorem dX11_needed_98 : decode cX11_needed 98 = .ok (.ishl, 1) := by decide +kernel
theorem dX11_needed_99 : decode cX11_needed 99 = .ok (.ior, 1) := by decide +kernel
theorem dX11_needed_100 : decode cX11_needed 100 = .ok (.istore_n 3, 1) := by decide +kernel
theorem dX11_needed_101 : decode cX11_needed 101 = .ok (.iinc 4 1, 3) := by decide +kernel
theorem dX11_needed_104 : decode cX11_needed 104 = .ok (.goto (-39), 3) := by decide +kernel
theorem dX11_needed_107 : decode cX11_needed 107 = .ok (.iload_n 3, 1) := by decide +kernel
theorem dX11_needed_108 : decode cX11_needed 108 = .ok (.ireturn, 1) := by decide +kernel
theorem dX11_meeting_0 : decode cX11_meeting 0 = .ok (.aload_n 0, 1) := by decide +kernel
theorem dX11_meeting_1 : decode cX11_meeting 1 = .ok (.getfield 36, 3) := by decide +kernel
theorem dX11_meeting_4 : decode cX11_meeting 4 = .ok (.getfield 186, 3) := by decide +kernel
theorem dX11_meeting_7 : decode cX11_meeting 7 = .ok (.ifCond .ne 6, 3) := by decide +kernel
theorem dX11_meeting_10 : decode cX11_meeting 10 = .ok (.ldc 225, 2) := by decide +kernel
theorem dX11_meeting_12 : decode cX11_meeting 12 = .ok (.ireturn, 1) := by decide +kernel
theorem dX11_meeting_13 : decode cX11_meeting 13 = .ok (.aload_n 0, 1) := by decide +kernel
theorem dX11_meeting_14 : decode cX11_meeting 14 = .ok (.getfield 55, 3) := by decide +kernel
theorem dX11_meeting_17 : decode cX11_meeting 17 = .ok (.aload_n 0, 1) := by decide +kernel
theorem dX11_meeting_18 : decode cX11_meeting 18 = .ok (.getfield 36, 3) := by decide +kernel
theorem dX11_meeting_21 : decode cX11_meeting 21 = .ok (.invokevirtual 208, 3) := by decide +kernel
theorem dX11_meeting_24 : decode cX11_meeting 24 = .ok (.ldc 225, 2) := by decide +kernel
theorem dX11_meeting_26 : decode cX11_meeting 26 = .ok (.istore_n 1, 1) := by decide +kernel
theorem dX11_meeting_27 : decode cX11_meeting 27 = .ok (.iconst 0, 1) := by decide +kernel
theorem dX11_meeting_28 : decode cX11_meeting 28 = .ok (.istore_n 2, 1) := by decide +kernel
theorem dX11_meeting_29 : decode cX11_meeting 29 = .ok (.iconst 0, 1) := by decide +kernel
theorem dX11_meeting_30 : decode cX11_meeting 30 = .ok (.istore_n 3, 1) := by decide +kernel
theorem dX11_meeting_31 : decode cX11_meeting 31 = .ok (.iload_n 3, 1) := by decide +kernel
theorem dX11_meeting_32 : decode cX11_meeting 32 = .ok (.aload_n 0, 1) := by decide +kernel
theorem dX11_meeting_33 : decode cX11_meeting 33 = .ok (.getfield 36, 3) := by decide +kernel
theorem dX11_meeting_36 : decode cX11_meeting 36 = .ok (.getfield 98, 3) := by decide +kernel
theorem dX11_meeting_39 : decode cX11_meeting 39 = .ok (.if_icmp .ge 41, 3) := by decide +kernel
theorem dX11_meeting_42 : decode cX11_meeting 42 = .ok (.aload_n 0, 1) := by decide +kernel
theorem dX11_meeting_43 : decode cX11_meeting 43 = .ok (.getfield 55, 3) := by decide +kernel
theorem dX11_meeting_46 : decode cX11_meeting 46 = .ok (.iload_n 3, 1) := by decide +kernel
theorem dX11_meeting_47 : decode cX11_meeting 47 = .ok (.invokevirtual 241, 3) := by decide +kernel
theorem dX11_meeting_50 : decode cX11_meeting 50 = .ok (.istore 4, 2) := by decide +kernel
theorem dX11_meeting_52 : decode cX11_meeting 52 = .ok (.iload 4, 2) := by decide +kernel
theorem dX11_meeting_54 : decode cX11_meeting 54 = .ok (.ifCond .lt 20, 3) := by decide +kernel
theorem dX11_meeting_57 : decode cX11_meeting 57 = .ok (.iload_n 1, 1) := by decide +kernel
theorem dX11_meeting_58 : decode cX11_meeting 58 = .ok (.ldc 225, 2) := by decide +kernel
theorem dX11_meeting_60 : decode cX11_meeting 60 = .ok (.if_icmp .eq 9, 3) := by decide +kernel
theorem dX11_meeting_63 : decode cX11_meeting 63 = .ok (.iload 4, 2) := by decide +kernel
theorem dX11_meeting_65 : decode cX11_meeting 65 = .ok (.iload_n 2, 1) := by decide +kernel
theorem dX11_meeting_66 : decode cX11_meeting 66 = .ok (.if_icmp .ge 8, 3) := by decide +kernel
theorem dX11_meeting_69 : decode cX11_meeting 69 = .ok (.iload_n 3, 1) := by decide +kernel
theorem dX11_meeting_70 : decode cX11_meeting 70 = .ok (.istore_n 1, 1) := by decide +kernel
theorem dX11_meeting_71 : decode cX11_meeting 71 = .ok (.iload 4, 2) := by decide +kernel
theorem dX11_meeting_73 : decode cX11_meeting 73 = .ok (.istore_n 2, 1) := by decide +kernel
theorem dX11_meeting_74 : decode cX11_meeting 74 = .ok (.iinc 3 1, 3) := by decide +kernel
theorem dX11_meeting_77 : decode cX11_meeting 77 = .ok (.goto (-46), 3) := by decide +kernel
theorem dX11_meeting_80 : decode cX11_meeting 80 = .ok (.iload_n 1, 1) := by decide +kernel
theorem dX11_meeting_81 : decode cX11_meeting 81 = .ok (.ireturn, 1) := by decide +kernel
theorem dX11_above_0 : decode cX11_above 0 = .ok (.aload_n 0, 1) := by decide +kernel
theorem dX11_above_1 : decode cX11_above 1 = .ok (.getfield 36, 3) := by decide +kernel
theorem dX11_above_4 : decode cX11_above 4 = .ok (.getfield 186, 3) := by decide +kernel
theorem dX11_above_7 : decode cX11_above 7 = .ok (.ifCond .ne 5, 3) := by decide +kernel
theorem dX11_above_10 : decode cX11_above 10 = .ok (.iconst 0, 1) := by decide +kernel
theorem dX11_above_11 : decode cX11_above 11 = .ok (.ireturn, 1) := by decide +kernel
theorem dX11_above_12 : decode cX11_above 12 = .ok (.aload_n 0, 1) := by decide +kernel
theorem dX11_above_13 : decode cX11_above 13 = .ok (.getfield 55, 3) := by decide +kernel
theorem dX11_above_16 : decode cX11_above 16 = .ok (.aload_n 0, 1) := by decide +kernel
theorem dX11_above_17 : decode cX11_above 17 = .ok (.getfield 36, 3) := by decide +kernel
theorem dX11_above_20 : decode cX11_above 20 = .ok (.invokevirtual 208, 3) := by decide +kernel
theorem dX11_above_23 : decode cX11_above 23 = .ok (.aload_n 0, 1) := by decide +kernel
theorem dX11_above_24 : decode cX11_above 24 = .ok (.getfield 55, 3) := by decide +kernel
theorem dX11_above_27 : decode cX11_above 27 = .ok (.iconst 0, 1) := by decide +kernel
theorem dX11_above_28 : decode cX11_above 28 = .ok (.invokevirtual 235, 3) := by decide +kernel
theorem dX11_above_31 : decode cX11_above 31 = .ok (.istore_n 1, 1) := by decide +kernel
theorem dX11_above_32 : decode cX11_above 32 = .ok (.iconst 0, 1) := by decide +kernel
theorem dX11_above_33 : decode cX11_above 33 = .ok (.istore_n 2, 1) := by decide +kernel
theorem dX11_above_34 : decode cX11_above 34 = .ok (.iconst 0, 1) := by decide +kernel
theorem dX11_above_35 : decode cX11_above 35 = .ok (.istore_n 3, 1) := by decide +kernel
theorem dX11_above_36 : decode cX11_above 36 = .ok (.iload_n 3, 1) := by decide +kernel
theorem dX11_above_37 : decode cX11_above 37 = .ok (.aload_n 0, 1) := by decide +kernel
theorem dX11_above_38 : decode cX11_above 38 = .ok (.getfield 36, 3) := by decide +kernel
theorem dX11_above_41 : decode cX11_above 41 = .ok (.getfield 186, 3) := by decide +kernel
theorem dX11_above_44 : decode cX11_above 44 = .ok (.if_icmp .ge 31, 3) := by decide +kernel
theorem dX11_above_47 : decode cX11_above 47 = .ok (.iload_n 1, 1) := by decide +kernel
theorem dX11_above_48 : decode cX11_above 48 = .ok (.aload_n 0, 1) := by decide +kernel
theorem dX11_above_49 : decode cX11_above 49 = .ok (.getfield 36, 3) := by decide +kernel
theorem dX11_above_52 : decode cX11_above 52 = .ok (.getfield 192, 3) := by decide +kernel
theorem dX11_above_55 : decode cX11_above 55 = .ok (.iload_n 3, 1) := by decide +kernel
theorem dX11_above_56 : decode cX11_above 56 = .ok (.iaload, 1) := by decide +kernel
theorem dX11_above_57 : decode cX11_above 57 = .ok (.invokestatic 170, 3) := by decide +kernel
theorem dX11_above_60 : decode cX11_above 60 = .ok (.ifCond .ne 9, 3) := by decide +kernel
theorem dX11_above_63 : decode cX11_above 63 = .ok (.iload_n 2, 1) := by decide +kernel
theorem dX11_above_64 : decode cX11_above 64 = .ok (.iconst 1, 1) := by decide +kernel
theorem dX11_above_65 : decode cX11_above 65 = .ok (.iload_n 3, 1) := by decide +kernel
theorem dX11_above_66 : decode cX11_above 66 = .ok (.ishl, 1) := by decide +kernel
theorem dX11_above_67 : decode cX11_above 67 = .ok (.ior, 1) := by decide +kernel
theorem dX11_above_68 : decode cX11_above 68 = .ok (.istore_n 2, 1) := by decide +kernel
theorem dX11_above_69 : decode cX11_above 69 = .ok (.iinc 3 1, 3) := by decide +kernel
theorem dX11_above_72 : decode cX11_above 72 = .ok (.goto (-36), 3) := by decide +kernel
theorem dX11_above_75 : decode cX11_above 75 = .ok (.iload_n 2, 1) := by decide +kernel
theorem dX11_above_76 : decode cX11_above 76 = .ok (.ireturn, 1) := by decide +kernel
theorem dX11_fewest_0 : decode cX11_fewest 0 = .ok (.iload_n 1, 1) := by decide +kernel
theorem dX11_fewest_1 : decode cX11_fewest 1 = .ok (.aload_n 0, 1) := by decide +kernel
theorem dX11_fewest_2 : decode cX11_fewest 2 = .ok (.getfield 36, 3) := by decide +kernel
theorem dX11_fewest_5 : decode cX11_fewest 5 = .ok (.getfield 186, 3) := by decide +kernel
theorem dX11_fewest_8 : decode cX11_fewest 8 = .ok (.invokestatic 93, 3) := by decide +kernel
theorem dX11_fewest_11 : decode cX11_fewest 11 = .ok (.ifCond .eq 17, 3) := by decide +kernel
theorem dX11_fewest_14 : decode cX11_fewest 14 = .ok (.iload_n 2, 1) := by decide +kernel
theorem dX11_fewest_15 : decode cX11_fewest 15 = .ok (.aload_n 0, 1) := by decide +kernel
theorem dX11_fewest_16 : decode cX11_fewest 16 = .ok (.getfield 36, 3) := by decide +kernel
theorem dX11_fewest_19 : decode cX11_fewest 19 = .ok (.getfield 98, 3) := by decide +kernel
theorem dX11_fewest_22 : decode cX11_fewest 22 = .ok (.invokestatic 93, 3) := by decide +kernel
theorem dX11_fewest_25 : decode cX11_fewest 25 = .ok (.ifCond .ne 6, 3) := by decide +kernel
theorem dX11_fewest_28 : decode cX11_fewest 28 = .ok (.ldc 97, 2) := by decide +kernel
theorem dX11_fewest_30 : decode cX11_fewest 30 = .ok (.ireturn, 1) := by decide +kernel
theorem dX11_fewest_31 : decode cX11_fewest 31 = .ok (.aload_n 0, 1) := by decide +kernel
theorem dX11_fewest_32 : decode cX11_fewest 32 = .ok (.getfield 55, 3) := by decide +kernel
theorem dX11_fewest_35 : decode cX11_fewest 35 = .ok (.aload_n 0, 1) := by decide +kernel
theorem dX11_fewest_36 : decode cX11_fewest 36 = .ok (.getfield 36, 3) := by decide +kernel
theorem dX11_fewest_39 : decode cX11_fewest 39 = .ok (.invokevirtual 208, 3) := by decide +kernel
theorem dX11_fewest_42 : decode cX11_fewest 42 = .ok (.aload_n 0, 1) := by decide +kernel
theorem dX11_fewest_43 : decode cX11_fewest 43 = .ok (.getfield 55, 3) := by decide +kernel
theorem dX11_fewest_46 : decode cX11_fewest 46 = .ok (.aload_n 0, 1) := by decide +kernel
theorem dX11_fewest_47 : decode cX11_fewest 47 = .ok (.getfield 36, 3) := by decide +kernel
theorem dX11_fewest_50 : decode cX11_fewest 50 = .ok (.getfield 192, 3) := by decide +kernel
theorem dX11_fewest_53 : decode cX11_fewest 53 = .ok (.iload_n 1, 1) := by decide +kernel
theorem dX11_fewest_54 : decode cX11_fewest 54 = .ok (.iaload, 1) := by decide +kernel
theorem dX11_fewest_55 : decode cX11_fewest 55 = .ok (.iload_n 2, 1) := by decide +kernel
theorem dX11_fewest_56 : decode cX11_fewest 56 = .ok (.aload_n 0, 1) := by decide +kernel
theorem dX11_fewest_57 : decode cX11_fewest 57 = .ok (.getfield 36, 3) := by decide +kernel
theorem dX11_fewest_60 : decode cX11_fewest 60 = .ok (.iload_n 1, 1) := by decide +kernel
theorem dX11_fewest_61 : decode cX11_fewest 61 = .ok (.invokevirtual 244, 3) := by decide +kernel
theorem dX11_fewest_64 : decode cX11_fewest 64 = .ok (.invokevirtual 247, 3) := by decide +kernel
theorem dX11_fewest_67 : decode cX11_fewest 67 = .ok (.ireturn, 1) := by decide +kernel
theorem dX11_help_0 : decode cX11_help 0 = .ok (.iload_n 1, 1) := by decide +kernel
theorem dX11_help_1 : decode cX11_help 1 = .ok (.iconst 3, 1) := by decide +kernel
theorem dX11_help_2 : decode cX11_help 2 = .ok (.invokestatic 93, 3) := by decide +kernel
theorem dX11_help_5 : decode cX11_help 5 = .ok (.ifCond .ne 6, 3) := by decide +kernel
theorem dX11_help_8 : decode cX11_help 8 = .ok (.ldc 97, 2) := by decide +kernel
theorem dX11_help_10 : decode cX11_help 10 = .ok (.ireturn, 1) := by decide +kernel
theorem dX11_help_11 : decode cX11_help 11 = .ok (.aload_n 0, 1) := by decide +kernel
theorem dX11_help_12 : decode cX11_help 12 = .ok (.getfield 36, 3) := by decide +kernel
theorem dX11_help_15 : decode cX11_help 15 = .ok (.getfield 98, 3) := by decide +kernel
theorem dX11_help_18 : decode cX11_help 18 = .ok (.ifCond .ne 6, 3) := by decide +kernel
theorem dX11_help_21 : decode cX11_help 21 = .ok (.ldc 225, 2) := by decide +kernel
theorem dX11_help_23 : decode cX11_help 23 = .ok (.ireturn, 1) := by decide +kernel
theorem dX11_help_24 : decode cX11_help 24 = .ok (.aload_n 0, 1) := by decide +kernel
theorem dX11_help_25 : decode cX11_help 25 = .ok (.getfield 55, 3) := by decide +kernel
theorem dX11_help_28 : decode cX11_help 28 = .ok (.aload_n 0, 1) := by decide +kernel
theorem dX11_help_29 : decode cX11_help 29 = .ok (.getfield 36, 3) := by decide +kernel
theorem dX11_help_32 : decode cX11_help 32 = .ok (.invokevirtual 208, 3) := by decide +kernel
theorem dX11_help_35 : decode cX11_help 35 = .ok (.aload_n 0, 1) := by decide +kernel
theorem dX11_help_36 : decode cX11_help 36 = .ok (.getfield 55, 3) := by decide +kernel
theorem dX11_help_39 : decode cX11_help 39 = .ok (.iconst 0, 1) := by decide +kernel
theorem dX11_help_40 : decode cX11_help 40 = .ok (.invokevirtual 235, 3) := by decide +kernel
theorem dX11_help_43 : decode cX11_help 43 = .ok (.invokestatic 251, 3) := by decide +kernel
theorem dX11_help_46 : decode cX11_help 46 = .ok (.istore_n 2, 1) := by decide +kernel
theorem dX11_help_47 : decode cX11_help 47 = .ok (.ldc 225, 2) := by decide +kernel
theorem dX11_help_49 : decode cX11_help 49 = .ok (.istore_n 3, 1) := by decide +kernel
theorem dX11_help_50 : decode cX11_help 50 = .ok (.ldc 225, 2) := by decide +kernel
theorem dX11_help_52 : decode cX11_help 52 = .ok (.istore 4, 2) := by decide +kernel
theorem dX11_help_54 : decode cX11_help 54 = .ok (.iconst 0, 1) := by decide +kernel
theorem dX11_help_55 : decode cX11_help 55 = .ok (.istore 5, 2) := by decide +kernel
theorem dX11_help_57 : decode cX11_help 57 = .ok (.iload 5, 2) := by decide +kernel
theorem dX11_help_59 : decode cX11_help 59 = .ok (.aload_n 0, 1) := by decide +kernel
theorem dX11_help_60 : decode cX11_help 60 = .ok (.getfield 36, 3) := by decide +kernel
theorem dX11_help_63 : decode cX11_help 63 = .ok (.getfield 139, 3) := by decide +kernel
theorem dX11_help_66 : decode cX11_help 66 = .ok (.if_icmp .ge 81, 3) := by decide +kernel
theorem dX11_help_69 : decode cX11_help 69 = .ok (.iconst 0, 1) := by decide +kernel
theorem dX11_help_70 : decode cX11_help 70 = .ok (.istore 6, 2) := by decide +kernel
theorem dX11_help_72 : decode cX11_help 72 = .ok (.iload 6, 2) := by decide +kernel
theorem dX11_help_74 : decode cX11_help 74 = .ok (.aload_n 0, 1) := by decide +kernel
theorem dX11_help_75 : decode cX11_help 75 = .ok (.getfield 36, 3) := by decide +kernel
theorem dX11_help_78 : decode cX11_help 78 = .ok (.getfield 98, 3) := by decide +kernel
theorem dX11_help_81 : decode cX11_help 81 = .ok (.if_icmp .ge 60, 3) := by decide +kernel
theorem dX11_help_84 : decode cX11_help 84 = .ok (.aload_n 0, 1) := by decide +kernel
theorem dX11_help_85 : decode cX11_help 85 = .ok (.getfield 55, 3) := by decide +kernel
theorem dX11_help_88 : decode cX11_help 88 = .ok (.getfield 211, 3) := by decide +kernel
theorem dX11_help_91 : decode cX11_help 91 = .ok (.iload 5, 2) := by decide +kernel
theorem dX11_help_93 : decode cX11_help 93 = .ok (.iaload, 1) := by decide +kernel
theorem dX11_help_94 : decode cX11_help 94 = .ok (.iload 6, 2) := by decide +kernel
theorem dX11_help_96 : decode cX11_help 96 = .ok (.invokestatic 170, 3) := by decide +kernel
theorem dX11_help_99 : decode cX11_help 99 = .ok (.ifCond .eq 17, 3) := by decide +kernel
theorem dX11_help_102 : decode cX11_help 102 = .ok (.aload_n 0, 1) := by decide +kernel
theorem dX11_help_103 : decode cX11_help 103 = .ok (.getfield 55, 3) := by decide +kernel
theorem dX11_help_106 : decode cX11_help 106 = .ok (.iload 5, 2) := by decide +kernel
theorem dX11_help_108 : decode cX11_help 108 = .ok (.iload 6, 2) := by decide +kernel
theorem dX11_help_110 : decode cX11_help 110 = .ok (.invokevirtual 256, 3) := by decide +kernel
theorem dX11_help_113 : decode cX11_help 113 = .ok (.goto 4, 3) := by decide +kernel
theorem dX11_help_116 : decode cX11_help 116 = .ok (.iconst 0, 1) := by decide +kernel
theorem dX11_help_117 : decode cX11_help 117 = .ok (.istore 7, 2) := by decide +kernel
theorem dX11_help_119 : decode cX11_help 119 = .ok (.iload 7, 2) := by decide +kernel
theorem dX11_help_121 : decode cX11_help 121 = .ok (.iload_n 2, 1) := by decide +kernel
theorem dX11_help_122 : decode cX11_help 122 = .ok (.if_icmp .le 13, 3) := by decide +kernel
theorem dX11_help_125 : decode cX11_help 125 = .ok (.iload 7, 2) := by decide +kernel
theorem dX11_help_127 : decode cX11_help 127 = .ok (.istore_n 2, 1) := by decide +kernel
theorem dX11_help_128 : decode cX11_help 128 = .ok (.iload 5, 2) := by decide +kernel
theorem dX11_help_130 : decode cX11_help 130 = .ok (.istore_n 3, 1) := by decide +kernel
theorem dX11_help_131 : decode cX11_help 131 = .ok (.iload 6, 2) := by decide +kernel
theorem dX11_help_133 : decode cX11_help 133 = .ok (.istore 4, 2) := by decide +kernel
theorem dX11_help_135 : decode cX11_help 135 = .ok (.iinc 6 1, 3) := by decide +kernel
theorem dX11_help_138 : decode cX11_help 138 = .ok (.goto (-66), 3) := by decide +kernel
theorem dX11_help_141 : decode cX11_help 141 = .ok (.iinc 5 1, 3) := by decide +kernel
theorem dX11_help_144 : decode cX11_help 144 = .ok (.goto (-87), 3) := by decide +kernel
theorem dX11_help_147 : decode cX11_help 147 = .ok (.iload_n 3, 1) := by decide +kernel
theorem dX11_help_148 : decode cX11_help 148 = .ok (.ldc 225, 2) := by decide +kernel
theorem dX11_help_150 : decode cX11_help 150 = .ok (.if_icmp .ne 6, 3) := by decide +kernel
theorem dX11_help_153 : decode cX11_help 153 = .ok (.ldc 225, 2) := by decide +kernel
theorem dX11_help_155 : decode cX11_help 155 = .ok (.ireturn, 1) := by decide +kernel
theorem dX11_help_156 : decode cX11_help 156 = .ok (.iload_n 1, 1) := by decide +kernel
theorem dX11_help_157 : decode cX11_help 157 = .ok (.ifCond .ne 7, 3) := by decide +kernel
theorem dX11_help_160 : decode cX11_help 160 = .ok (.iload_n 3, 1) := by decide +kernel
theorem dX11_help_161 : decode cX11_help 161 = .ok (.goto 14, 3) := by decide +kernel
theorem dX11_help_164 : decode cX11_help 164 = .ok (.iload_n 1, 1) := by decide +kernel
theorem dX11_help_165 : decode cX11_help 165 = .ok (.iconst 1, 1) := by decide +kernel
theorem dX11_help_166 : decode cX11_help 166 = .ok (.if_icmp .ne 8, 3) := by decide +kernel
theorem dX11_help_169 : decode cX11_help 169 = .ok (.iload 4, 2) := by decide +kernel
theorem dX11_help_171 : decode cX11_help 171 = .ok (.goto 4, 3) := by decide +kernel
theorem dX11_help_174 : decode cX11_help 174 = .ok (.iload_n 2, 1) := by decide +kernel
theorem dX11_help_175 : decode cX11_help 175 = .ok (.ireturn, 1) := by decide +kernel
theorem dX11_feed_0 : decode cX11_feed 0 = .ok (.aload_n 0, 1) := by decide +kernel
theorem dX11_feed_1 : decode cX11_feed 1 = .ok (.getfield 62, 3) := by decide +kernel
theorem dX11_feed_4 : decode cX11_feed 4 = .ok (.getfield 259, 3) := by decide +kernel
theorem dX11_feed_7 : decode cX11_feed 7 = .ok (.bipush 12, 2) := by decide +kernel
theorem dX11_feed_9 : decode cX11_feed 9 = .ok (.iadd, 1) := by decide +kernel
theorem dX11_feed_10 : decode cX11_feed 10 = .ok (.bipush 96, 2) := by decide +kernel
theorem dX11_feed_12 : decode cX11_feed 12 = .ok (.if_icmp .le 6, 3) := by decide +kernel
theorem dX11_feed_15 : decode cX11_feed 15 = .ok (.ldc 101, 2) := by decide +kernel
theorem dX11_feed_17 : decode cX11_feed 17 = .ok (.ireturn, 1) := by decide +kernel
theorem dX11_feed_18 : decode cX11_feed 18 = .ok (.aload_n 0, 1) := by decide +kernel
theorem dX11_feed_19 : decode cX11_feed 19 = .ok (.getfield 62, 3) := by decide +kernel
theorem dX11_feed_22 : decode cX11_feed 22 = .ok (.iload_n 1, 1) := by decide +kernel
theorem dX11_feed_23 : decode cX11_feed 23 = .ok (.invokevirtual 262, 3) := by decide +kernel
theorem dX11_feed_26 : decode cX11_feed 26 = .ok (.aload_n 0, 1) := by decide +kernel
theorem dX11_feed_27 : decode cX11_feed 27 = .ok (.getfield 62, 3) := by decide +kernel
theorem dX11_feed_30 : decode cX11_feed 30 = .ok (.iload_n 2, 1) := by decide +kernel
theorem dX11_feed_31 : decode cX11_feed 31 = .ok (.invokevirtual 262, 3) := by decide +kernel
theorem dX11_feed_34 : decode cX11_feed 34 = .ok (.aload_n 0, 1) := by decide +kernel
theorem dX11_feed_35 : decode cX11_feed 35 = .ok (.getfield 62, 3) := by decide +kernel
theorem dX11_feed_38 : decode cX11_feed 38 = .ok (.iload_n 3, 1) := by decide +kernel
theorem dX11_feed_39 : decode cX11_feed 39 = .ok (.invokevirtual 262, 3) := by decide +kernel
theorem dX11_feed_42 : decode cX11_feed 42 = .ok (.aload_n 0, 1) := by decide +kernel
theorem dX11_feed_43 : decode cX11_feed 43 = .ok (.getfield 62, 3) := by decide +kernel
theorem dX11_feed_46 : decode cX11_feed 46 = .ok (.getfield 259, 3) := by decide +kernel
theorem dX11_feed_49 : decode cX11_feed 49 = .ok (.ireturn, 1) := by decide +kernel
theorem dX11_trim_0 : decode cX11_trim 0 = .ok (.iload_n 1, 1) := by decide +kernel
theorem dX11_trim_1 : decode cX11_trim 1 = .ok (.ifCond .lt 14, 3) := by decide +kernel
theorem dX11_trim_4 : decode cX11_trim 4 = .ok (.iload_n 1, 1) := by decide +kernel
theorem dX11_trim_5 : decode cX11_trim 5 = .ok (.aload_n 0, 1) := by decide +kernel
theorem dX11_trim_6 : decode cX11_trim 6 = .ok (.getfield 62, 3) := by decide +kernel
theorem dX11_trim_9 : decode cX11_trim 9 = .ok (.getfield 259, 3) := by decide +kernel
theorem dX11_trim_12 : decode cX11_trim 12 = .ok (.if_icmp .le 6, 3) := by decide +kernel
theorem dX11_trim_15 : decode cX11_trim 15 = .ok (.ldc 97, 2) := by decide +kernel
theorem dX11_trim_17 : decode cX11_trim 17 = .ok (.ireturn, 1) := by decide +kernel
theorem dX11_trim_18 : decode cX11_trim 18 = .ok (.aload_n 0, 1) := by decide +kernel
theorem dX11_trim_19 : decode cX11_trim 19 = .ok (.getfield 62, 3) := by decide +kernel
theorem dX11_trim_22 : decode cX11_trim 22 = .ok (.iload_n 1, 1) := by decide +kernel
theorem dX11_trim_23 : decode cX11_trim 23 = .ok (.putfield 259, 3) := by decide +kernel
theorem dX11_trim_26 : decode cX11_trim 26 = .ok (.iload_n 1, 1) := by decide +kernel
theorem dX11_trim_27 : decode cX11_trim 27 = .ok (.ireturn, 1) := by decide +kernel
theorem dX11_text_0 : decode cX11_text 0 = .ok (.aload_n 0, 1) := by decide +kernel
theorem dX11_text_1 : decode cX11_text 1 = .ok (.getfield 62, 3) := by decide +kernel
theorem dX11_text_4 : decode cX11_text 4 = .ok (.invokevirtual 265, 3) := by decide +kernel
theorem dX11_text_7 : decode cX11_text 7 = .ok (.astore_n 1, 1) := by decide +kernel
theorem dX11_text_8 : decode cX11_text 8 = .ok (.aload_n 1, 1) := by decide +kernel
theorem dX11_text_9 : decode cX11_text 9 = .ok (.ifnonnull 14, 3) := by decide +kernel
theorem dX11_text_12 : decode cX11_text 12 = .ok (.bipush (-100), 2) := by decide +kernel
theorem dX11_text_14 : decode cX11_text 14 = .ok (.aload_n 0, 1) := by decide +kernel
theorem dX11_text_15 : decode cX11_text 15 = .ok (.getfield 62, 3) := by decide +kernel
theorem dX11_text_18 : decode cX11_text 18 = .ok (.getfield 269, 3) := by decide +kernel
theorem dX11_text_21 : decode cX11_text 21 = .ok (.isub, 1) := by decide +kernel
theorem dX11_text_22 : decode cX11_text 22 = .ok (.ireturn, 1) := by decide +kernel
theorem dX11_text_23 : decode cX11_text 23 = .ok (.aload_n 0, 1) := by decide +kernel
theorem dX11_text_24 : decode cX11_text 24 = .ok (.getfield 36, 3) := by decide +kernel
theorem dX11_text_27 : decode cX11_text 27 = .ok (.getfield 272, 3) := by decide +kernel
theorem dX11_text_30 : decode cX11_text 30 = .ok (.bipush 14, 2) := by decide +kernel
theorem dX11_text_32 : decode cX11_text 32 = .ok (.if_icmp .lt 6, 3) := by decide +kernel
theorem dX11_text_35 : decode cX11_text 35 = .ok (.ldc 101, 2) := by decide +kernel
theorem dX11_text_37 : decode cX11_text 37 = .ok (.ireturn, 1) := by decide +kernel
theorem dX11_text_38 : decode cX11_text 38 = .ok (.aload_n 0, 1) := by decide +kernel
theorem dX11_text_39 : decode cX11_text 39 = .ok (.getfield 36, 3) := by decide +kernel
theorem dX11_text_42 : decode cX11_text 42 = .ok (.aload_n 1, 1) := by decide +kernel
theorem dX11_text_43 : decode cX11_text 43 = .ok (.invokevirtual 275, 3) := by decide +kernel
theorem dX11_text_46 : decode cX11_text 46 = .ok (.ireturn, 1) := by decide +kernel
theorem dX11_textTold_0 : decode cX11_textTold 0 = .ok (.iload_n 1, 1) := by decide +kernel
theorem dX11_textTold_1 : decode cX11_textTold 1 = .ok (.aload_n 0, 1) := by decide +kernel
theorem dX11_textTold_2 : decode cX11_textTold 2 = .ok (.getfield 36, 3) := by decide +kernel
theorem dX11_textTold_5 : decode cX11_textTold 5 = .ok (.getfield 272, 3) := by decide +kernel
theorem dX11_textTold_8 : decode cX11_textTold 8 = .ok (.invokestatic 93, 3) := by decide +kernel
theorem dX11_textTold_11 : decode cX11_textTold 11 = .ok (.ifCond .eq 11, 3) := by decide +kernel
theorem dX11_textTold_14 : decode cX11_textTold 14 = .ok (.iload_n 2, 1) := by decide +kernel
theorem dX11_textTold_15 : decode cX11_textTold 15 = .ok (.iconst 2, 1) := by decide +kernel
theorem dX11_textTold_16 : decode cX11_textTold 16 = .ok (.invokestatic 93, 3) := by decide +kernel
theorem dX11_textTold_19 : decode cX11_textTold 19 = .ok (.ifCond .ne 6, 3) := by decide +kernel
theorem dX11_textTold_22 : decode cX11_textTold 22 = .ok (.ldc 97, 2) := by decide +kernel
theorem dX11_textTold_24 : decode cX11_textTold 24 = .ok (.ireturn, 1) := by decide +kernel
theorem dX11_textTold_25 : decode cX11_textTold 25 = .ok (.aload_n 0, 1) := by decide +kernel
theorem dX11_textTold_26 : decode cX11_textTold 26 = .ok (.getfield 36, 3) := by decide +kernel
theorem dX11_textTold_29 : decode cX11_textTold 29 = .ok (.getfield 279, 3) := by decide +kernel
theorem dX11_textTold_32 : decode cX11_textTold 32 = .ok (.iload_n 1, 1) := by decide +kernel
theorem dX11_textTold_33 : decode cX11_textTold 33 = .ok (.aaload, 1) := by decide +kernel
theorem dX11_textTold_34 : decode cX11_textTold 34 = .ok (.astore_n 3, 1) := by decide +kernel
theorem dX11_textTold_35 : decode cX11_textTold 35 = .ok (.aload_n 3, 1) := by decide +kernel
theorem dX11_textTold_36 : decode cX11_textTold 36 = .ok (.ifnonnull 6, 3) := by decide +kernel
theorem dX11_textTold_39 : decode cX11_textTold 39 = .ok (.ldc 97, 2) := by decide +kernel
theorem dX11_textTold_41 : decode cX11_textTold 41 = .ok (.ireturn, 1) := by decide +kernel
theorem dX11_textTold_42 : decode cX11_textTold 42 = .ok (.iload_n 2, 1) := by decide +kernel
theorem dX11_textTold_43 : decode cX11_textTold 43 = .ok (.ifCond .ne 10, 3) := by decide +kernel
theorem dX11_textTold_46 : decode cX11_textTold 46 = .ok (.aload_n 3, 1) := by decide +kernel
theorem dX11_textTold_47 : decode cX11_textTold 47 = .ok (.getfield 283, 3) := by decide +kernel
theorem dX11_textTold_50 : decode cX11_textTold 50 = .ok (.goto 7, 3) := by decide +kernel
theorem dX11_textTold_53 : decode cX11_textTold 53 = .ok (.aload_n 3, 1) := by decide +kernel
theorem dX11_textTold_54 : decode cX11_textTold 54 = .ok (.getfield 288, 3) := by decide +kernel
theorem dX11_textTold_57 : decode cX11_textTold 57 = .ok (.ireturn, 1) := by decide +kernel
theorem dX11_why_0 : decode cX11_why 0 = .ok (.iload_n 1, 1) := by decide +kernel
theorem dX11_why_1 : decode cX11_why 1 = .ok (.iconst 3, 1) := by decide +kernel
theorem dX11_why_2 : decode cX11_why 2 = .ok (.invokestatic 93, 3) := by decide +kernel
theorem dX11_why_5 : decode cX11_why 5 = .ok (.ifCond .ne 6, 3) := by decide +kernel
theorem dX11_why_8 : decode cX11_why 8 = .ok (.ldc 97, 2) := by decide +kernel
theorem dX11_why_10 : decode cX11_why 10 = .ok (.ireturn, 1) := by decide +kernel
theorem dX11_why_11 : decode cX11_why 11 = .ok (.aload_n 0, 1) := by decide +kernel
theorem dX11_why_12 : decode cX11_why 12 = .ok (.getfield 36, 3) := by decide +kernel
theorem dX11_why_15 : decode cX11_why 15 = .ok (.getfield 291, 3) := by decide +kernel
theorem dX11_why_18 : decode cX11_why 18 = .ok (.iload_n 1, 1) := by decide +kernel
theorem dX11_why_19 : decode cX11_why 19 = .ok (.iaload, 1) := by decide +kernel
theorem dX11_why_20 : decode cX11_why 20 = .ok (.ifCond .ge 8, 3) := by decide +kernel
theorem dX11_why_23 : decode cX11_why 23 = .ok (.ldc 225, 2) := by decide +kernel
theorem dX11_why_25 : decode cX11_why 25 = .ok (.goto 12, 3) := by decide +kernel
theorem dX11_why_28 : decode cX11_why 28 = .ok (.aload_n 0, 1) := by decide +kernel
theorem dX11_why_29 : decode cX11_why 29 = .ok (.getfield 36, 3) := by decide +kernel
theorem dX11_why_32 : decode cX11_why 32 = .ok (.getfield 291, 3) := by decide +kernel
theorem dX11_why_35 : decode cX11_why 35 = .ok (.iload_n 1, 1) := by decide +kernel
theorem dX11_why_36 : decode cX11_why 36 = .ok (.iaload, 1) := by decide +kernel
theorem dX11_why_37 : decode cX11_why 37 = .ok (.ireturn, 1) := by decide +kernel
theorem dX11_sheet_0 : decode cX11_sheet 0 = .ok (.iload_n 1, 1) := by decide +kernel
theorem dX11_sheet_1 : decode cX11_sheet 1 = .ok (.iconst 4, 1) := by decide +kernel
theorem dX11_sheet_2 : decode cX11_sheet 2 = .ok (.invokestatic 93, 3) := by decide +kernel
theorem dX11_sheet_5 : decode cX11_sheet 5 = .ok (.ifCond .eq 13, 3) := by decide +kernel
theorem dX11_sheet_8 : decode cX11_sheet 8 = .ok (.iload_n 2, 1) := by decide +kernel
theorem dX11_sheet_9 : decode cX11_sheet 9 = .ok (.iconst (-1), 1) := by decide +kernel
theorem dX11_sheet_10 : decode cX11_sheet 10 = .ok (.if_icmp .lt 8, 3) := by decide +kernel
theorem dX11_sheet_13 : decode cX11_sheet 13 = .ok (.iload_n 2, 1) := by decide +kernel
theorem dX11_sheet_14 : decode cX11_sheet 14 = .ok (.iconst 1, 1) := by decide +kernel
theorem dX11_sheet_15 : decode cX11_sheet 15 = .ok (.if_icmp .le 6, 3) := by decide +kernel
theorem dX11_sheet_18 : decode cX11_sheet 18 = .ok (.ldc 97, 2) := by decide +kernel
theorem dX11_sheet_20 : decode cX11_sheet 20 = .ok (.ireturn, 1) := by decide +kernel
theorem dX11_sheet_21 : decode cX11_sheet 21 = .ok (.iload_n 2, 1) := by decide +kernel
theorem dX11_sheet_22 : decode cX11_sheet 22 = .ok (.iconst (-1), 1) := by decide +kernel
theorem dX11_sheet_23 : decode cX11_sheet 23 = .ok (.if_icmp .eq 12, 3) := by decide +kernel
theorem dX11_sheet_26 : decode cX11_sheet 26 = .ok (.iload_n 3, 1) := by decide +kernel
theorem dX11_sheet_27 : decode cX11_sheet 27 = .ok (.bipush 24, 2) := by decide +kernel
theorem dX11_sheet_29 : decode cX11_sheet 29 = .ok (.if_icmp .le 6, 3) := by decide +kernel
theorem dX11_sheet_32 : decode cX11_sheet 32 = .ok (.ldc 97, 2) := by decide +kernel
theorem dX11_sheet_34 : decode cX11_sheet 34 = .ok (.ireturn, 1) := by decide +kernel
theorem dX11_sheet_35 : decode cX11_sheet 35 = .ok (.iload_n 2, 1) := by decide +kernel
theorem dX11_sheet_36 : decode cX11_sheet 36 = .ok (.iconst (-1), 1) := by decide +kernel
theorem dX11_sheet_37 : decode cX11_sheet 37 = .ok (.if_icmp .eq 11, 3) := by decide +kernel
theorem dX11_sheet_40 : decode cX11_sheet 40 = .ok (.iload_n 3, 1) := by decide +kernel
theorem dX11_sheet_41 : decode cX11_sheet 41 = .ok (.ifCond .ge 7, 3) := by decide +kernel
theorem dX11_sheet_44 : decode cX11_sheet 44 = .ok (.ldc_w 294, 3) := by decide +kernel
theorem dX11_sheet_47 : decode cX11_sheet 47 = .ok (.ireturn, 1) := by decide +kernel
theorem dX11_sheet_48 : decode cX11_sheet 48 = .ok (.iload_n 2, 1) := by decide +kernel
theorem dX11_sheet_49 : decode cX11_sheet 49 = .ok (.iconst (-1), 1) := by decide +kernel
theorem dX11_sheet_50 : decode cX11_sheet 50 = .ok (.if_icmp .ne 7, 3) := by decide +kernel
theorem dX11_sheet_53 : decode cX11_sheet 53 = .ok (.iconst 0, 1) := by decide +kernel
theorem dX11_sheet_54 : decode cX11_sheet 54 = .ok (.goto 4, 3) := by decide +kernel
theorem dX11_sheet_57 : decode cX11_sheet 57 = .ok (.iload_n 3, 1) := by decide +kernel
theorem dX11_sheet_58 : decode cX11_sheet 58 = .ok (.istore 4, 2) := by decide +kernel
theorem dX11_sheet_60 : decode cX11_sheet 60 = .ok (.aload_n 0, 1) := by decide +kernel
theorem dX11_sheet_61 : decode cX11_sheet 61 = .ok (.getfield 69, 3) := by decide +kernel
theorem dX11_sheet_64 : decode cX11_sheet 64 = .ok (.iload_n 1, 1) := by decide +kernel
theorem dX11_sheet_65 : decode cX11_sheet 65 = .ok (.aaload, 1) := by decide +kernel
theorem dX11_sheet_66 : decode cX11_sheet 66 = .ok (.iload_n 2, 1) := by decide +kernel
theorem dX11_sheet_67 : decode cX11_sheet 67 = .ok (.iload 4, 2) := by decide +kernel
theorem dX11_sheet_69 : decode cX11_sheet 69 = .ok (.invokevirtual 295, 3) := by decide +kernel
theorem dX11_sheet_72 : decode cX11_sheet 72 = .ok (.iload 4, 2) := by decide +kernel
theorem dX11_sheet_74 : decode cX11_sheet 74 = .ok (.ireturn, 1) := by decide +kernel
theorem dX11_mark_0 : decode cX11_mark 0 = .ok (.iload_n 1, 1) := by decide +kernel
theorem dX11_mark_1 : decode cX11_mark 1 = .ok (.iconst 4, 1) := by decide +kernel
theorem dX11_mark_2 : decode cX11_mark 2 = .ok (.invokestatic 93, 3) := by decide +kernel
theorem dX11_mark_5 : decode cX11_mark 5 = .ok (.ifCond .ne 6, 3) := by decide +kernel
theorem dX11_mark_8 : decode cX11_mark 8 = .ok (.ldc 97, 2) := by decide +kernel
theorem dX11_mark_10 : decode cX11_mark 10 = .ok (.ireturn, 1) := by decide +kernel
theorem dX11_mark_11 : decode cX11_mark 11 = .ok (.aload_n 0, 1) := by decide +kernel
theorem dX11_mark_12 : decode cX11_mark 12 = .ok (.getfield 69, 3) := by decide +kernel
theorem dX11_mark_15 : decode cX11_mark 15 = .ok (.iload_n 1, 1) := by decide +kernel
theorem dX11_mark_16 : decode cX11_mark 16 = .ok (.aaload, 1) := by decide +kernel
theorem dX11_mark_17 : decode cX11_mark 17 = .ok (.astore 4, 2) := by decide +kernel
theorem dX11_mark_19 : decode cX11_mark 19 = .ok (.aload 4, 2) := by decide +kernel
theorem dX11_mark_21 : decode cX11_mark 21 = .ok (.getfield 299, 3) := by decide +kernel
theorem dX11_mark_24 : decode cX11_mark 24 = .ok (.iconst (-1), 1) := by decide +kernel
theorem dX11_mark_25 : decode cX11_mark 25 = .ok (.if_icmp .ne 7, 3) := by decide +kernel
theorem dX11_mark_28 : decode cX11_mark 28 = .ok (.ldc_w 302, 3) := by decide +kernel
theorem dX11_mark_31 : decode cX11_mark 31 = .ok (.ireturn, 1) := by decide +kernel
theorem dX11_mark_32 : decode cX11_mark 32 = .ok (.iload_n 2, 1) := by decide +kernel
theorem dX11_mark_33 : decode cX11_mark 33 = .ok (.aload 4, 2) := by decide +kernel
theorem dX11_mark_35 : decode cX11_mark 35 = .ok (.getfield 303, 3) := by decide +kernel
theorem dX11_mark_38 : decode cX11_mark 38 = .ok (.invokestatic 93, 3) := by decide +kernel
theorem dX11_mark_41 : decode cX11_mark 41 = .ok (.ifCond .ne 7, 3) := by decide +kernel
theorem dX11_mark_44 : decode cX11_mark 44 = .ok (.ldc_w 306, 3) := by decide +kernel
theorem dX11_mark_47 : decode cX11_mark 47 = .ok (.ireturn, 1) := by decide +kernel
theorem dX11_mark_48 : decode cX11_mark 48 = .ok (.aload 4, 2) := by decide +kernel
theorem dX11_mark_50 : decode cX11_mark 50 = .ok (.getfield 299, 3) := by decide +kernel
theorem dX11_mark_53 : decode cX11_mark 53 = .ok (.ifCond .ne 23, 3) := by decide +kernel
theorem dX11_mark_56 : decode cX11_mark 56 = .ok (.iload_n 3, 1) := by decide +kernel
theorem dX11_mark_57 : decode cX11_mark 57 = .ok (.ldc 225, 2) := by decide +kernel
theorem dX11_mark_59 : decode cX11_mark 59 = .ok (.if_icmp .ne 6, 3) := by decide +kernel
theorem dX11_mark_62 : decode cX11_mark 62 = .ok (.ldc 182, 2) := by decide +kernel
theorem dX11_mark_64 : decode cX11_mark 64 = .ok (.ireturn, 1) := by decide +kernel
theorem dX11_mark_65 : decode cX11_mark 65 = .ok (.aload 4, 2) := by decide +kernel
theorem dX11_mark_67 : decode cX11_mark 67 = .ok (.getfield 307, 3) := by decide +kernel
theorem dX11_mark_70 : decode cX11_mark 70 = .ok (.iload_n 2, 1) := by decide +kernel
theorem dX11_mark_71 : decode cX11_mark 71 = .ok (.iload_n 3, 1) := by decide +kernel
theorem dX11_mark_72 : decode cX11_mark 72 = .ok (.i2s, 1) := by decide +kernel
theorem dX11_mark_73 : decode cX11_mark 73 = .ok (.iastore, 1) := by decide +kernel
theorem dX11_mark_74 : decode cX11_mark 74 = .ok (.iconst 1, 1) := by decide +kernel
theorem dX11_mark_75 : decode cX11_mark 75 = .ok (.ireturn, 1) := by decide +kernel
theorem dX11_mark_76 : decode cX11_mark 76 = .ok (.iload_n 3, 1) := by decide +kernel
theorem dX11_mark_77 : decode cX11_mark 77 = .ok (.ldc 225, 2) := by decide +kernel
theorem dX11_mark_79 : decode cX11_mark 79 = .ok (.if_icmp .eq 20, 3) := by decide +kernel
theorem dX11_mark_82 : decode cX11_mark 82 = .ok (.iload_n 3, 1) := by decide +kernel
theorem dX11_mark_83 : decode cX11_mark 83 = .ok (.ldc_w 310, 3) := by decide +kernel
theorem dX11_mark_86 : decode cX11_mark 86 = .ok (.if_icmp .lt 10, 3) := by decide +kernel
theorem dX11_mark_89 : decode cX11_mark 89 = .ok (.iload_n 3, 1) := by decide +kernel
theorem dX11_mark_90 : decode cX11_mark 90 = .ok (.ldc_w 311, 3) := by decide +kernel
theorem dX11_mark_93 : decode cX11_mark 93 = .ok (.if_icmp .le 6, 3) := by decide +kernel
theorem dX11_mark_96 : decode cX11_mark 96 = .ok (.ldc 97, 2) := by decide +kernel
theorem dX11_mark_98 : decode cX11_mark 98 = .ok (.ireturn, 1) := by decide +kernel
theorem dX11_mark_99 : decode cX11_mark 99 = .ok (.aload 4, 2) := by decide +kernel
theorem dX11_mark_101 : decode cX11_mark 101 = .ok (.getfield 307, 3) := by decide +kernel
theorem dX11_mark_104 : decode cX11_mark 104 = .ok (.iload_n 2, 1) := by decide +kernel
theorem dX11_mark_105 : decode cX11_mark 105 = .ok (.iload_n 3, 1) := by decide +kernel
theorem dX11_mark_106 : decode cX11_mark 106 = .ok (.iastore, 1) := by decide +kernel
theorem dX11_mark_107 : decode cX11_mark 107 = .ok (.iconst 1, 1) := by decide +kernel
theorem dX11_mark_108 : decode cX11_mark 108 = .ok (.ireturn, 1) := by decide +kernel
theorem dX11_pour_0 : decode cX11_pour 0 = .ok (.iload_n 1, 1) := by decide +kernel
theorem dX11_pour_1 : decode cX11_pour 1 = .ok (.iconst 4, 1) := by decide +kernel
theorem dX11_pour_2 : decode cX11_pour 2 = .ok (.invokestatic 93, 3) := by decide +kernel
theorem dX11_pour_5 : decode cX11_pour 5 = .ok (.ifCond .ne 6, 3) := by decide +kernel
theorem dX11_pour_8 : decode cX11_pour 8 = .ok (.ldc 97, 2) := by decide +kernel
theorem dX11_pour_10 : decode cX11_pour 10 = .ok (.ireturn, 1) := by decide +kernel
theorem dX11_pour_11 : decode cX11_pour 11 = .ok (.aload_n 0, 1) := by decide +kernel
theorem dX11_pour_12 : decode cX11_pour 12 = .ok (.getfield 69, 3) := by decide +kernel
theorem dX11_pour_15 : decode cX11_pour 15 = .ok (.iload_n 1, 1) := by decide +kernel
theorem dX11_pour_16 : decode cX11_pour 16 = .ok (.aaload, 1) := by decide +kernel
theorem dX11_pour_17 : decode cX11_pour 17 = .ok (.astore_n 2, 1) := by decide +kernel
theorem dX11_pour_18 : decode cX11_pour 18 = .ok (.aload_n 2, 1) := by decide +kernel
theorem dX11_pour_19 : decode cX11_pour 19 = .ok (.getfield 299, 3) := by decide +kernel
theorem dX11_pour_22 : decode cX11_pour 22 = .ok (.iconst (-1), 1) := by decide +kernel
theorem dX11_pour_23 : decode cX11_pour 23 = .ok (.if_icmp .ne 7, 3) := by decide +kernel
theorem dX11_pour_26 : decode cX11_pour 26 = .ok (.ldc_w 302, 3) := by decide +kernel
theorem dX11_pour_29 : decode cX11_pour 29 = .ok (.ireturn, 1) := by decide +kernel
theorem dX11_pour_30 : decode cX11_pour 30 = .ok (.iconst 0, 1) := by decide +kernel
theorem dX11_pour_31 : decode cX11_pour 31 = .ok (.istore_n 3, 1) := by decide +kernel
theorem dX11_pour_32 : decode cX11_pour 32 = .ok (.iconst 0, 1) := by decide +kernel
theorem dX11_pour_33 : decode cX11_pour 33 = .ok (.istore 4, 2) := by decide +kernel
theorem dX11_pour_35 : decode cX11_pour 35 = .ok (.iload 4, 2) := by decide +kernel
theorem dX11_pour_37 : decode cX11_pour 37 = .ok (.aload_n 0, 1) := by decide +kernel
theorem dX11_pour_38 : decode cX11_pour 38 = .ok (.getfield 36, 3) := by decide +kernel
theorem dX11_pour_41 : decode cX11_pour 41 = .ok (.getfield 98, 3) := by decide +kernel
theorem dX11_pour_44 : decode cX11_pour 44 = .ok (.if_icmp .ge 73, 3) := by decide +kernel
theorem dX11_pour_47 : decode cX11_pour 47 = .ok (.iload 4, 2) := by decide +kernel
theorem dX11_pour_49 : decode cX11_pour 49 = .ok (.aload_n 2, 1) := by decide +kernel
theorem dX11_pour_50 : decode cX11_pour 50 = .ok (.getfield 303, 3) := by decide +kernel
theorem dX11_pour_53 : decode cX11_pour 53 = .ok (.if_icmp .ge 64, 3) := by decide +kernel
theorem dX11_pour_56 : decode cX11_pour 56 = .ok (.aload_n 2, 1) := by decide +kernel
theorem dX11_pour_57 : decode cX11_pour 57 = .ok (.getfield 307, 3) := by decide +kernel
theorem dX11_pour_60 : decode cX11_pour 60 = .ok (.iload 4, 2) := by decide +kernel
theorem dX11_pour_62 : decode cX11_pour 62 = .ok (.iaload, 1) := by decide +kernel
theorem dX11_pour_63 : decode cX11_pour 63 = .ok (.ldc 225, 2) := by decide +kernel
theorem dX11_pour_65 : decode cX11_pour 65 = .ok (.if_icmp .ne 6, 3) := by decide +kernel
theorem dX11_pour_68 : decode cX11_pour 68 = .ok (.goto 43, 3) := by decide +kernel
theorem dX11_pour_71 : decode cX11_pour 71 = .ok (.iconst 0, 1) := by decide +kernel
