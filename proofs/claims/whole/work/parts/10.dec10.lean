theorem dX12_term_56 : decode cX12_term 56 = .ok (.iconst 1, 1) := by decide +kernel
theorem dX12_term_57 : decode cX12_term 57 = .ok (.ireturn, 1) := by decide +kernel
theorem dX12_part0_0 : decode cX12_part0 0 = .ok (.aload_n 0, 1) := by decide +kernel
theorem dX12_part0_1 : decode cX12_part0 1 = .ok (.getfield 229, 3) := by decide +kernel
theorem dX12_part0_4 : decode cX12_part0 4 = .ok (.iconst 2, 1) := by decide +kernel
theorem dX12_part0_5 : decode cX12_part0 5 = .ok (.if_icmp .ne 28, 3) := by decide +kernel
theorem dX12_part0_8 : decode cX12_part0 8 = .ok (.aload_n 0, 1) := by decide +kernel
theorem dX12_part0_9 : decode cX12_part0 9 = .ok (.iconst 0, 1) := by decide +kernel
theorem dX12_part0_10 : decode cX12_part0 10 = .ok (.aload_n 0, 1) := by decide +kernel
theorem dX12_part0_11 : decode cX12_part0 11 = .ok (.getfield 244, 3) := by decide +kernel
theorem dX12_part0_14 : decode cX12_part0 14 = .ok (.invokevirtual 266, 3) := by decide +kernel
theorem dX12_part0_17 : decode cX12_part0 17 = .ok (.aload_n 0, 1) := by decide +kernel
theorem dX12_part0_18 : decode cX12_part0 18 = .ok (.dup, 1) := by decide +kernel
theorem dX12_part0_19 : decode cX12_part0 19 = .ok (.getfield 281, 3) := by decide +kernel
theorem dX12_part0_22 : decode cX12_part0 22 = .ok (.iconst 1, 1) := by decide +kernel
theorem dX12_part0_23 : decode cX12_part0 23 = .ok (.iadd, 1) := by decide +kernel
theorem dX12_part0_24 : decode cX12_part0 24 = .ok (.putfield 281, 3) := by decide +kernel
theorem dX12_part0_27 : decode cX12_part0 27 = .ok (.aload_n 0, 1) := by decide +kernel
theorem dX12_part0_28 : decode cX12_part0 28 = .ok (.invokevirtual 263, 3) := by decide +kernel
theorem dX12_part0_31 : decode cX12_part0 31 = .ok (.iconst 1, 1) := by decide +kernel
theorem dX12_part0_32 : decode cX12_part0 32 = .ok (.ireturn, 1) := by decide +kernel
theorem dX12_part0_33 : decode cX12_part0 33 = .ok (.aload_n 0, 1) := by decide +kernel
theorem dX12_part0_34 : decode cX12_part0 34 = .ok (.getfield 229, 3) := by decide +kernel
theorem dX12_part0_37 : decode cX12_part0 37 = .ok (.iconst 1, 1) := by decide +kernel
theorem dX12_part0_38 : decode cX12_part0 38 = .ok (.if_icmp .ne 46, 3) := by decide +kernel
theorem dX12_part0_41 : decode cX12_part0 41 = .ok (.aload_n 0, 1) := by decide +kernel
theorem dX12_part0_42 : decode cX12_part0 42 = .ok (.getfield 238, 3) := by decide +kernel
theorem dX12_part0_45 : decode cX12_part0 45 = .ok (.ifCond .eq 39, 3) := by decide +kernel
theorem dX12_part0_48 : decode cX12_part0 48 = .ok (.iload_n 1, 1) := by decide +kernel
theorem dX12_part0_49 : decode cX12_part0 49 = .ok (.aload_n 0, 1) := by decide +kernel
theorem dX12_part0_50 : decode cX12_part0 50 = .ok (.getfield 238, 3) := by decide +kernel
theorem dX12_part0_53 : decode cX12_part0 53 = .ok (.invokestatic 284, 3) := by decide +kernel
theorem dX12_part0_56 : decode cX12_part0 56 = .ok (.ifCond .eq 28, 3) := by decide +kernel
theorem dX12_part0_59 : decode cX12_part0 59 = .ok (.aload_n 0, 1) := by decide +kernel
theorem dX12_part0_60 : decode cX12_part0 60 = .ok (.iconst 1, 1) := by decide +kernel
theorem dX12_part0_61 : decode cX12_part0 61 = .ok (.aload_n 0, 1) := by decide +kernel
theorem dX12_part0_62 : decode cX12_part0 62 = .ok (.getfield 238, 3) := by decide +kernel
theorem dX12_part0_65 : decode cX12_part0 65 = .ok (.invokevirtual 266, 3) := by decide +kernel
theorem dX12_part0_68 : decode cX12_part0 68 = .ok (.aload_n 0, 1) := by decide +kernel
theorem dX12_part0_69 : decode cX12_part0 69 = .ok (.dup, 1) := by decide +kernel
theorem dX12_part0_70 : decode cX12_part0 70 = .ok (.getfield 281, 3) := by decide +kernel
theorem dX12_part0_73 : decode cX12_part0 73 = .ok (.iconst 1, 1) := by decide +kernel
theorem dX12_part0_74 : decode cX12_part0 74 = .ok (.iadd, 1) := by decide +kernel
theorem dX12_part0_75 : decode cX12_part0 75 = .ok (.putfield 281, 3) := by decide +kernel
theorem dX12_part0_78 : decode cX12_part0 78 = .ok (.aload_n 0, 1) := by decide +kernel
theorem dX12_part0_79 : decode cX12_part0 79 = .ok (.invokevirtual 263, 3) := by decide +kernel
theorem dX12_part0_82 : decode cX12_part0 82 = .ok (.iconst 1, 1) := by decide +kernel
theorem dX12_part0_83 : decode cX12_part0 83 = .ok (.ireturn, 1) := by decide +kernel
theorem dX12_part0_84 : decode cX12_part0 84 = .ok (.aload_n 0, 1) := by decide +kernel
theorem dX12_part0_85 : decode cX12_part0 85 = .ok (.bipush 33, 2) := by decide +kernel
theorem dX12_part0_87 : decode cX12_part0 87 = .ok (.invokevirtual 260, 3) := by decide +kernel
theorem dX12_part0_90 : decode cX12_part0 90 = .ok (.ifCond .eq 55, 3) := by decide +kernel
theorem dX12_part0_93 : decode cX12_part0 93 = .ok (.aload_n 0, 1) := by decide +kernel
theorem dX12_part0_94 : decode cX12_part0 94 = .ok (.getfield 287, 3) := by decide +kernel
theorem dX12_part0_97 : decode cX12_part0 97 = .ok (.bipush 8, 2) := by decide +kernel
theorem dX12_part0_99 : decode cX12_part0 99 = .ok (.if_icmp .ge 46, 3) := by decide +kernel
theorem dX12_part0_102 : decode cX12_part0 102 = .ok (.aload_n 0, 1) := by decide +kernel
theorem dX12_part0_103 : decode cX12_part0 103 = .ok (.dup, 1) := by decide +kernel
theorem dX12_part0_104 : decode cX12_part0 104 = .ok (.getfield 287, 3) := by decide +kernel
theorem dX12_part0_107 : decode cX12_part0 107 = .ok (.iconst 1, 1) := by decide +kernel
theorem dX12_part0_108 : decode cX12_part0 108 = .ok (.iadd, 1) := by decide +kernel
theorem dX12_part0_109 : decode cX12_part0 109 = .ok (.putfield 287, 3) := by decide +kernel
theorem dX12_part0_112 : decode cX12_part0 112 = .ok (.aload_n 0, 1) := by decide +kernel
theorem dX12_part0_113 : decode cX12_part0 113 = .ok (.invokevirtual 263, 3) := by decide +kernel
theorem dX12_part0_116 : decode cX12_part0 116 = .ok (.aload_n 0, 1) := by decide +kernel
theorem dX12_part0_117 : decode cX12_part0 117 = .ok (.iload_n 1, 1) := by decide +kernel
theorem dX12_part0_118 : decode cX12_part0 118 = .ok (.invokevirtual 278, 3) := by decide +kernel
theorem dX12_part0_121 : decode cX12_part0 121 = .ok (.ifCond .ne 5, 3) := by decide +kernel
theorem dX12_part0_124 : decode cX12_part0 124 = .ok (.iconst 0, 1) := by decide +kernel
theorem dX12_part0_125 : decode cX12_part0 125 = .ok (.ireturn, 1) := by decide +kernel
theorem dX12_part0_126 : decode cX12_part0 126 = .ok (.aload_n 0, 1) := by decide +kernel
theorem dX12_part0_127 : decode cX12_part0 127 = .ok (.dup, 1) := by decide +kernel
theorem dX12_part0_128 : decode cX12_part0 128 = .ok (.getfield 287, 3) := by decide +kernel
theorem dX12_part0_131 : decode cX12_part0 131 = .ok (.iconst 1, 1) := by decide +kernel
theorem dX12_part0_132 : decode cX12_part0 132 = .ok (.isub, 1) := by decide +kernel
theorem dX12_part0_133 : decode cX12_part0 133 = .ok (.putfield 287, 3) := by decide +kernel
theorem dX12_part0_136 : decode cX12_part0 136 = .ok (.aload_n 0, 1) := by decide +kernel
theorem dX12_part0_137 : decode cX12_part0 137 = .ok (.iconst 2, 1) := by decide +kernel
theorem dX12_part0_138 : decode cX12_part0 138 = .ok (.bipush 33, 2) := by decide +kernel
theorem dX12_part0_140 : decode cX12_part0 140 = .ok (.invokevirtual 266, 3) := by decide +kernel
theorem dX12_part0_143 : decode cX12_part0 143 = .ok (.iconst 1, 1) := by decide +kernel
theorem dX12_part0_144 : decode cX12_part0 144 = .ok (.ireturn, 1) := by decide +kernel
theorem dX12_part0_145 : decode cX12_part0 145 = .ok (.aload_n 0, 1) := by decide +kernel
theorem dX12_part0_146 : decode cX12_part0 146 = .ok (.bipush 40, 2) := by decide +kernel
theorem dX12_part0_148 : decode cX12_part0 148 = .ok (.invokevirtual 260, 3) := by decide +kernel
theorem dX12_part0_151 : decode cX12_part0 151 = .ok (.ifCond .eq 12, 3) := by decide +kernel
theorem dX12_part0_154 : decode cX12_part0 154 = .ok (.aload_n 0, 1) := by decide +kernel
theorem dX12_part0_155 : decode cX12_part0 155 = .ok (.getfield 290, 3) := by decide +kernel
theorem dX12_part0_158 : decode cX12_part0 158 = .ok (.bipush 8, 2) := by decide +kernel
theorem dX12_part0_160 : decode cX12_part0 160 = .ok (.if_icmp .ne 5, 3) := by decide +kernel
theorem dX12_part0_163 : decode cX12_part0 163 = .ok (.iconst 0, 1) := by decide +kernel
theorem dX12_part0_164 : decode cX12_part0 164 = .ok (.ireturn, 1) := by decide +kernel
theorem dX12_part0_165 : decode cX12_part0 165 = .ok (.aload_n 0, 1) := by decide +kernel
theorem dX12_part0_166 : decode cX12_part0 166 = .ok (.dup, 1) := by decide +kernel
theorem dX12_part0_167 : decode cX12_part0 167 = .ok (.getfield 290, 3) := by decide +kernel
theorem dX12_part0_170 : decode cX12_part0 170 = .ok (.iconst 1, 1) := by decide +kernel
theorem dX12_part0_171 : decode cX12_part0 171 = .ok (.iadd, 1) := by decide +kernel
theorem dX12_part0_172 : decode cX12_part0 172 = .ok (.putfield 290, 3) := by decide +kernel
theorem dX12_part0_175 : decode cX12_part0 175 = .ok (.aload_n 0, 1) := by decide +kernel
theorem dX12_part0_176 : decode cX12_part0 176 = .ok (.invokevirtual 263, 3) := by decide +kernel
theorem dX12_part0_179 : decode cX12_part0 179 = .ok (.aload_n 0, 1) := by decide +kernel
theorem dX12_part0_180 : decode cX12_part0 180 = .ok (.iload_n 1, 1) := by decide +kernel
theorem dX12_part0_181 : decode cX12_part0 181 = .ok (.invokevirtual 293, 3) := by decide +kernel
theorem dX12_part0_184 : decode cX12_part0 184 = .ok (.ifCond .eq 12, 3) := by decide +kernel
theorem dX12_part0_187 : decode cX12_part0 187 = .ok (.aload_n 0, 1) := by decide +kernel
theorem dX12_part0_188 : decode cX12_part0 188 = .ok (.bipush 41, 2) := by decide +kernel
theorem dX12_part0_190 : decode cX12_part0 190 = .ok (.invokevirtual 260, 3) := by decide +kernel
theorem dX12_part0_193 : decode cX12_part0 193 = .ok (.ifCond .ne 5, 3) := by decide +kernel
theorem dX12_part0_196 : decode cX12_part0 196 = .ok (.iconst 0, 1) := by decide +kernel
theorem dX12_part0_197 : decode cX12_part0 197 = .ok (.ireturn, 1) := by decide +kernel
theorem dX12_part0_198 : decode cX12_part0 198 = .ok (.aload_n 0, 1) := by decide +kernel
theorem dX12_part0_199 : decode cX12_part0 199 = .ok (.dup, 1) := by decide +kernel
theorem dX12_part0_200 : decode cX12_part0 200 = .ok (.getfield 290, 3) := by decide +kernel
theorem dX12_part0_203 : decode cX12_part0 203 = .ok (.iconst 1, 1) := by decide +kernel
theorem dX12_part0_204 : decode cX12_part0 204 = .ok (.isub, 1) := by decide +kernel
theorem dX12_part0_205 : decode cX12_part0 205 = .ok (.putfield 290, 3) := by decide +kernel
theorem dX12_part0_208 : decode cX12_part0 208 = .ok (.aload_n 0, 1) := by decide +kernel
theorem dX12_part0_209 : decode cX12_part0 209 = .ok (.invokevirtual 263, 3) := by decide +kernel
theorem dX12_part0_212 : decode cX12_part0 212 = .ok (.iconst 1, 1) := by decide +kernel
theorem dX12_part0_213 : decode cX12_part0 213 = .ok (.ireturn, 1) := by decide +kernel
theorem dX12_parse_0 : decode cX12_parse 0 = .ok (.aload_n 0, 1) := by decide +kernel
theorem dX12_parse_1 : decode cX12_parse 1 = .ok (.iconst 0, 1) := by decide +kernel
theorem dX12_parse_2 : decode cX12_parse 2 = .ok (.putfield 226, 3) := by decide +kernel
theorem dX12_parse_5 : decode cX12_parse 5 = .ok (.aload_n 0, 1) := by decide +kernel
theorem dX12_parse_6 : decode cX12_parse 6 = .ok (.iconst 3, 1) := by decide +kernel
theorem dX12_parse_7 : decode cX12_parse 7 = .ok (.putfield 229, 3) := by decide +kernel
theorem dX12_parse_10 : decode cX12_parse 10 = .ok (.aload_n 0, 1) := by decide +kernel
theorem dX12_parse_11 : decode cX12_parse 11 = .ok (.iconst 0, 1) := by decide +kernel
theorem dX12_parse_12 : decode cX12_parse 12 = .ok (.putfield 290, 3) := by decide +kernel
theorem dX12_parse_15 : decode cX12_parse 15 = .ok (.aload_n 0, 1) := by decide +kernel
theorem dX12_parse_16 : decode cX12_parse 16 = .ok (.iconst 0, 1) := by decide +kernel
theorem dX12_parse_17 : decode cX12_parse 17 = .ok (.putfield 287, 3) := by decide +kernel
theorem dX12_parse_20 : decode cX12_parse 20 = .ok (.aload_n 0, 1) := by decide +kernel
theorem dX12_parse_21 : decode cX12_parse 21 = .ok (.iconst 0, 1) := by decide +kernel
theorem dX12_parse_22 : decode cX12_parse 22 = .ok (.putfield 254, 3) := by decide +kernel
theorem dX12_parse_25 : decode cX12_parse 25 = .ok (.aload_n 0, 1) := by decide +kernel
theorem dX12_parse_26 : decode cX12_parse 26 = .ok (.iconst 0, 1) := by decide +kernel
theorem dX12_parse_27 : decode cX12_parse 27 = .ok (.putfield 281, 3) := by decide +kernel
theorem dX12_parse_30 : decode cX12_parse 30 = .ok (.aload_n 0, 1) := by decide +kernel
theorem dX12_parse_31 : decode cX12_parse 31 = .ok (.aload_n 0, 1) := by decide +kernel
theorem dX12_parse_32 : decode cX12_parse 32 = .ok (.getfield 7, 3) := by decide +kernel
theorem dX12_parse_35 : decode cX12_parse 35 = .ok (.iconst 3, 1) := by decide +kernel
theorem dX12_parse_36 : decode cX12_parse 36 = .ok (.iaload, 1) := by decide +kernel
theorem dX12_parse_37 : decode cX12_parse 37 = .ok (.bipush 14, 2) := by decide +kernel
theorem dX12_parse_39 : decode cX12_parse 39 = .ok (.if_icmp .ge 18, 3) := by decide +kernel
theorem dX12_parse_42 : decode cX12_parse 42 = .ok (.aload_n 0, 1) := by decide +kernel
theorem dX12_parse_43 : decode cX12_parse 43 = .ok (.aload_n 0, 1) := by decide +kernel
theorem dX12_parse_44 : decode cX12_parse 44 = .ok (.getfield 7, 3) := by decide +kernel
theorem dX12_parse_47 : decode cX12_parse 47 = .ok (.iconst 3, 1) := by decide +kernel
theorem dX12_parse_48 : decode cX12_parse 48 = .ok (.iaload, 1) := by decide +kernel
theorem dX12_parse_49 : decode cX12_parse 49 = .ok (.invokevirtual 296, 3) := by decide +kernel
theorem dX12_parse_52 : decode cX12_parse 52 = .ok (.iconst 4, 1) := by decide +kernel
theorem dX12_parse_53 : decode cX12_parse 53 = .ok (.iadd, 1) := by decide +kernel
theorem dX12_parse_54 : decode cX12_parse 54 = .ok (.goto 6, 3) := by decide +kernel
theorem dX12_parse_57 : decode cX12_parse 57 = .ok (.sipush 2880, 3) := by decide +kernel
theorem dX12_parse_60 : decode cX12_parse 60 = .ok (.putfield 251, 3) := by decide +kernel
theorem dX12_parse_63 : decode cX12_parse 63 = .ok (.aload_n 0, 1) := by decide +kernel
theorem dX12_parse_64 : decode cX12_parse 64 = .ok (.invokevirtual 263, 3) := by decide +kernel
theorem dX12_parse_67 : decode cX12_parse 67 = .ok (.aload_n 0, 1) := by decide +kernel
theorem dX12_parse_68 : decode cX12_parse 68 = .ok (.invokevirtual 299, 3) := by decide +kernel
theorem dX12_parse_71 : decode cX12_parse 71 = .ok (.istore_n 1, 1) := by decide +kernel
theorem dX12_parse_72 : decode cX12_parse 72 = .ok (.iload_n 1, 1) := by decide +kernel
theorem dX12_parse_73 : decode cX12_parse 73 = .ok (.ifCond .lt 7, 3) := by decide +kernel
theorem dX12_parse_76 : decode cX12_parse 76 = .ok (.iconst 1, 1) := by decide +kernel
theorem dX12_parse_77 : decode cX12_parse 77 = .ok (.goto 4, 3) := by decide +kernel
theorem dX12_parse_80 : decode cX12_parse 80 = .ok (.iconst 0, 1) := by decide +kernel
theorem dX12_parse_81 : decode cX12_parse 81 = .ok (.istore_n 2, 1) := by decide +kernel
theorem dX12_parse_82 : decode cX12_parse 82 = .ok (.iload_n 2, 1) := by decide +kernel
theorem dX12_parse_83 : decode cX12_parse 83 = .ok (.ifCond .eq 28, 3) := by decide +kernel
theorem dX12_parse_86 : decode cX12_parse 86 = .ok (.aload_n 0, 1) := by decide +kernel
theorem dX12_parse_87 : decode cX12_parse 87 = .ok (.invokevirtual 263, 3) := by decide +kernel
theorem dX12_parse_90 : decode cX12_parse 90 = .ok (.aload_n 0, 1) := by decide +kernel
theorem dX12_parse_91 : decode cX12_parse 91 = .ok (.iload_n 1, 1) := by decide +kernel
theorem dX12_parse_92 : decode cX12_parse 92 = .ok (.invokevirtual 293, 3) := by decide +kernel
theorem dX12_parse_95 : decode cX12_parse 95 = .ok (.ifCond .eq 14, 3) := by decide +kernel
theorem dX12_parse_98 : decode cX12_parse 98 = .ok (.aload_n 0, 1) := by decide +kernel
theorem dX12_parse_99 : decode cX12_parse 99 = .ok (.getfield 229, 3) := by decide +kernel
theorem dX12_parse_102 : decode cX12_parse 102 = .ok (.ifCond .ne 7, 3) := by decide +kernel
theorem dX12_parse_105 : decode cX12_parse 105 = .ok (.iconst 1, 1) := by decide +kernel
theorem dX12_parse_106 : decode cX12_parse 106 = .ok (.goto 4, 3) := by decide +kernel
theorem dX12_parse_109 : decode cX12_parse 109 = .ok (.iconst 0, 1) := by decide +kernel
theorem dX12_parse_110 : decode cX12_parse 110 = .ok (.istore_n 2, 1) := by decide +kernel
theorem dX12_parse_111 : decode cX12_parse 111 = .ok (.aload_n 0, 1) := by decide +kernel
theorem dX12_parse_112 : decode cX12_parse 112 = .ok (.iconst 0, 1) := by decide +kernel
theorem dX12_parse_113 : decode cX12_parse 113 = .ok (.putfield 215, 3) := by decide +kernel
theorem dX12_parse_116 : decode cX12_parse 116 = .ok (.iload_n 2, 1) := by decide +kernel
theorem dX12_parse_117 : decode cX12_parse 117 = .ok (.ifCond .eq 7, 3) := by decide +kernel
theorem dX12_parse_120 : decode cX12_parse 120 = .ok (.iload_n 1, 1) := by decide +kernel
theorem dX12_parse_121 : decode cX12_parse 121 = .ok (.goto 4, 3) := by decide +kernel
theorem dX12_parse_124 : decode cX12_parse 124 = .ok (.iconst (-1), 1) := by decide +kernel
theorem dX12_parse_125 : decode cX12_parse 125 = .ok (.ireturn, 1) := by decide +kernel
theorem dX12_text_0 : decode cX12_text 0 = .ok (.aload_n 0, 1) := by decide +kernel
theorem dX12_text_1 : decode cX12_text 1 = .ok (.invokevirtual 302, 3) := by decide +kernel
theorem dX12_text_4 : decode cX12_text 4 = .ok (.istore_n 1, 1) := by decide +kernel
theorem dX12_text_5 : decode cX12_text 5 = .ok (.iload_n 1, 1) := by decide +kernel
theorem dX12_text_6 : decode cX12_text 6 = .ok (.ifCond .ge 11, 3) := by decide +kernel
theorem dX12_text_9 : decode cX12_text 9 = .ok (.bipush (-100), 2) := by decide +kernel
theorem dX12_text_11 : decode cX12_text 11 = .ok (.aload_n 0, 1) := by decide +kernel
theorem dX12_text_12 : decode cX12_text 12 = .ok (.getfield 232, 3) := by decide +kernel
theorem dX12_text_15 : decode cX12_text 15 = .ok (.isub, 1) := by decide +kernel
theorem dX12_text_16 : decode cX12_text 16 = .ok (.ireturn, 1) := by decide +kernel
theorem dX12_text_17 : decode cX12_text 17 = .ok (.aload_n 0, 1) := by decide +kernel
theorem dX12_text_18 : decode cX12_text 18 = .ok (.getfield 7, 3) := by decide +kernel
theorem dX12_text_21 : decode cX12_text 21 = .ok (.iconst 3, 1) := by decide +kernel
theorem dX12_text_22 : decode cX12_text 22 = .ok (.iaload, 1) := by decide +kernel
theorem dX12_text_23 : decode cX12_text 23 = .ok (.bipush 14, 2) := by decide +kernel
theorem dX12_text_25 : decode cX12_text 25 = .ok (.if_icmp .ne 6, 3) := by decide +kernel
theorem dX12_text_28 : decode cX12_text 28 = .ok (.ldc 79, 2) := by decide +kernel
theorem dX12_text_30 : decode cX12_text 30 = .ok (.ireturn, 1) := by decide +kernel
theorem dX12_text_31 : decode cX12_text 31 = .ok (.aload_n 0, 1) := by decide +kernel
theorem dX12_text_32 : decode cX12_text 32 = .ok (.aload_n 0, 1) := by decide +kernel
theorem dX12_text_33 : decode cX12_text 33 = .ok (.getfield 7, 3) := by decide +kernel
theorem dX12_text_36 : decode cX12_text 36 = .ok (.iconst 3, 1) := by decide +kernel
theorem dX12_text_37 : decode cX12_text 37 = .ok (.iaload, 1) := by decide +kernel
theorem dX12_text_38 : decode cX12_text 38 = .ok (.invokevirtual 296, 3) := by decide +kernel
theorem dX12_text_41 : decode cX12_text 41 = .ok (.istore_n 2, 1) := by decide +kernel
theorem dX12_text_42 : decode cX12_text 42 = .ok (.aload_n 0, 1) := by decide +kernel
theorem dX12_text_43 : decode cX12_text 43 = .ok (.getfield 7, 3) := by decide +kernel
theorem dX12_text_46 : decode cX12_text 46 = .ok (.iload_n 2, 1) := by decide +kernel
theorem dX12_text_47 : decode cX12_text 47 = .ok (.iconst 0, 1) := by decide +kernel
theorem dX12_text_48 : decode cX12_text 48 = .ok (.iadd, 1) := by decide +kernel
theorem dX12_text_49 : decode cX12_text 49 = .ok (.iload_n 1, 1) := by decide +kernel
theorem dX12_text_50 : decode cX12_text 50 = .ok (.iastore, 1) := by decide +kernel
theorem dX12_text_51 : decode cX12_text 51 = .ok (.aload_n 0, 1) := by decide +kernel
theorem dX12_text_52 : decode cX12_text 52 = .ok (.getfield 7, 3) := by decide +kernel
theorem dX12_text_55 : decode cX12_text 55 = .ok (.iload_n 2, 1) := by decide +kernel
theorem dX12_text_56 : decode cX12_text 56 = .ok (.iconst 1, 1) := by decide +kernel
theorem dX12_text_57 : decode cX12_text 57 = .ok (.iadd, 1) := by decide +kernel
theorem dX12_text_58 : decode cX12_text 58 = .ok (.aload_n 0, 1) := by decide +kernel
theorem dX12_text_59 : decode cX12_text 59 = .ok (.getfield 281, 3) := by decide +kernel
theorem dX12_text_62 : decode cX12_text 62 = .ok (.iastore, 1) := by decide +kernel
theorem dX12_text_63 : decode cX12_text 63 = .ok (.aload_n 0, 1) := by decide +kernel
theorem dX12_text_64 : decode cX12_text 64 = .ok (.getfield 7, 3) := by decide +kernel
theorem dX12_text_67 : decode cX12_text 67 = .ok (.iload_n 2, 1) := by decide +kernel
theorem dX12_text_68 : decode cX12_text 68 = .ok (.iconst 2, 1) := by decide +kernel
theorem dX12_text_69 : decode cX12_text 69 = .ok (.iadd, 1) := by decide +kernel
theorem dX12_text_70 : decode cX12_text 70 = .ok (.aload_n 0, 1) := by decide +kernel
theorem dX12_text_71 : decode cX12_text 71 = .ok (.getfield 254, 3) := by decide +kernel
theorem dX12_text_74 : decode cX12_text 74 = .ok (.iastore, 1) := by decide +kernel
theorem dX12_text_75 : decode cX12_text 75 = .ok (.aload_n 0, 1) := by decide +kernel
theorem dX12_text_76 : decode cX12_text 76 = .ok (.getfield 7, 3) := by decide +kernel
theorem dX12_text_79 : decode cX12_text 79 = .ok (.iconst 3, 1) := by decide +kernel
theorem dX12_text_80 : decode cX12_text 80 = .ok (.dup2, 1) := by decide +kernel
theorem dX12_text_81 : decode cX12_text 81 = .ok (.iaload, 1) := by decide +kernel
theorem dX12_text_82 : decode cX12_text 82 = .ok (.iconst 1, 1) := by decide +kernel
theorem dX12_text_83 : decode cX12_text 83 = .ok (.iadd, 1) := by decide +kernel
theorem dX12_text_84 : decode cX12_text 84 = .ok (.iastore, 1) := by decide +kernel
theorem dX12_text_85 : decode cX12_text 85 = .ok (.aload_n 0, 1) := by decide +kernel
theorem dX12_text_86 : decode cX12_text 86 = .ok (.getfield 7, 3) := by decide +kernel
theorem dX12_text_89 : decode cX12_text 89 = .ok (.iconst 3, 1) := by decide +kernel
theorem dX12_text_90 : decode cX12_text 90 = .ok (.iaload, 1) := by decide +kernel
theorem dX12_text_91 : decode cX12_text 91 = .ok (.iconst 1, 1) := by decide +kernel
theorem dX12_text_92 : decode cX12_text 92 = .ok (.isub, 1) := by decide +kernel
theorem dX12_text_93 : decode cX12_text 93 = .ok (.ireturn, 1) := by decide +kernel
theorem dX12_textTold_0 : decode cX12_textTold 0 = .ok (.aload_n 0, 1) := by decide +kernel
theorem dX12_textTold_1 : decode cX12_textTold 1 = .ok (.iload_n 1, 1) := by decide +kernel
theorem dX12_textTold_2 : decode cX12_textTold 2 = .ok (.invokevirtual 305, 3) := by decide +kernel
theorem dX12_textTold_5 : decode cX12_textTold 5 = .ok (.ifCond .eq 13, 3) := by decide +kernel
theorem dX12_textTold_8 : decode cX12_textTold 8 = .ok (.iload_n 2, 1) := by decide +kernel
theorem dX12_textTold_9 : decode cX12_textTold 9 = .ok (.i2l, 1) := by decide +kernel
theorem dX12_textTold_10 : decode cX12_textTold 10 = .ok (.lconst 0, 1) := by decide +kernel
theorem dX12_textTold_11 : decode cX12_textTold 11 = .ok (.lconst 1, 1) := by decide +kernel
theorem dX12_textTold_12 : decode cX12_textTold 12 = .ok (.invokestatic 65, 3) := by decide +kernel
theorem dX12_textTold_15 : decode cX12_textTold 15 = .ok (.ifCond .ne 6, 3) := by decide +kernel
theorem dX12_textTold_18 : decode cX12_textTold 18 = .ok (.ldc 78, 2) := by decide +kernel
theorem dX12_textTold_20 : decode cX12_textTold 20 = .ok (.ireturn, 1) := by decide +kernel
theorem dX12_textTold_21 : decode cX12_textTold 21 = .ok (.aload_n 0, 1) := by decide +kernel
theorem dX12_textTold_22 : decode cX12_textTold 22 = .ok (.getfield 7, 3) := by decide +kernel
theorem dX12_textTold_25 : decode cX12_textTold 25 = .ok (.aload_n 0, 1) := by decide +kernel
theorem dX12_textTold_26 : decode cX12_textTold 26 = .ok (.iload_n 1, 1) := by decide +kernel
theorem dX12_textTold_27 : decode cX12_textTold 27 = .ok (.invokevirtual 296, 3) := by decide +kernel
theorem dX12_textTold_30 : decode cX12_textTold 30 = .ok (.iload_n 2, 1) := by decide +kernel
theorem dX12_textTold_31 : decode cX12_textTold 31 = .ok (.iadd, 1) := by decide +kernel
theorem dX12_textTold_32 : decode cX12_textTold 32 = .ok (.iaload, 1) := by decide +kernel
theorem dX12_textTold_33 : decode cX12_textTold 33 = .ok (.ireturn, 1) := by decide +kernel
theorem dX12_counts_0 : decode cX12_counts 0 = .ok (.iconst (-1), 1) := by decide +kernel
theorem dX12_counts_1 : decode cX12_counts 1 = .ok (.istore_n 2, 1) := by decide +kernel
theorem dX12_counts_2 : decode cX12_counts 2 = .ok (.iconst 0, 1) := by decide +kernel
theorem dX12_counts_3 : decode cX12_counts 3 = .ok (.istore_n 3, 1) := by decide +kernel
theorem dX12_counts_4 : decode cX12_counts 4 = .ok (.iload_n 3, 1) := by decide +kernel
theorem dX12_counts_5 : decode cX12_counts 5 = .ok (.aload_n 0, 1) := by decide +kernel
theorem dX12_counts_6 : decode cX12_counts 6 = .ok (.getfield 7, 3) := by decide +kernel
theorem dX12_counts_9 : decode cX12_counts 9 = .ok (.iconst 3, 1) := by decide +kernel
theorem dX12_counts_10 : decode cX12_counts 10 = .ok (.iaload, 1) := by decide +kernel
theorem dX12_counts_11 : decode cX12_counts 11 = .ok (.if_icmp .ge 29, 3) := by decide +kernel
theorem dX12_counts_14 : decode cX12_counts 14 = .ok (.aload_n 0, 1) := by decide +kernel
theorem dX12_counts_15 : decode cX12_counts 15 = .ok (.getfield 7, 3) := by decide +kernel
theorem dX12_counts_18 : decode cX12_counts 18 = .ok (.aload_n 0, 1) := by decide +kernel
theorem dX12_counts_19 : decode cX12_counts 19 = .ok (.iload_n 3, 1) := by decide +kernel
theorem dX12_counts_20 : decode cX12_counts 20 = .ok (.invokevirtual 296, 3) := by decide +kernel
theorem dX12_counts_23 : decode cX12_counts 23 = .ok (.iaload, 1) := by decide +kernel
theorem dX12_counts_24 : decode cX12_counts 24 = .ok (.iload_n 1, 1) := by decide +kernel
theorem dX12_counts_25 : decode cX12_counts 25 = .ok (.if_icmp .ne 7, 3) := by decide +kernel
theorem dX12_counts_28 : decode cX12_counts 28 = .ok (.iload_n 3, 1) := by decide +kernel
theorem dX12_counts_29 : decode cX12_counts 29 = .ok (.goto 4, 3) := by decide +kernel
theorem dX12_counts_32 : decode cX12_counts 32 = .ok (.iload_n 2, 1) := by decide +kernel
theorem dX12_counts_33 : decode cX12_counts 33 = .ok (.istore_n 2, 1) := by decide +kernel
theorem dX12_counts_34 : decode cX12_counts 34 = .ok (.iinc 3 1, 3) := by decide +kernel
theorem dX12_counts_37 : decode cX12_counts 37 = .ok (.goto (-33), 3) := by decide +kernel
theorem dX12_counts_40 : decode cX12_counts 40 = .ok (.iload_n 2, 1) := by decide +kernel
theorem dX12_counts_41 : decode cX12_counts 41 = .ok (.ireturn, 1) := by decide +kernel
theorem dX12_why_0 : decode cX12_why 0 = .ok (.iload_n 1, 1) := by decide +kernel
theorem dX12_why_1 : decode cX12_why 1 = .ok (.i2l, 1) := by decide +kernel
theorem dX12_why_2 : decode cX12_why 2 = .ok (.lconst 0, 1) := by decide +kernel
theorem dX12_why_3 : decode cX12_why 3 = .ok (.ldc2_w 177, 3) := by decide +kernel
theorem dX12_why_6 : decode cX12_why 6 = .ok (.invokestatic 65, 3) := by decide +kernel
theorem dX12_why_9 : decode cX12_why 9 = .ok (.ifCond .eq 14, 3) := by decide +kernel
theorem dX12_why_12 : decode cX12_why 12 = .ok (.aload_n 0, 1) := by decide +kernel
theorem dX12_why_13 : decode cX12_why 13 = .ok (.iload_n 1, 1) := by decide +kernel
theorem dX12_why_14 : decode cX12_why 14 = .ok (.invokevirtual 118, 3) := by decide +kernel
theorem dX12_why_17 : decode cX12_why 17 = .ok (.invokestatic 189, 3) := by decide +kernel
theorem dX12_why_20 : decode cX12_why 20 = .ok (.goto 5, 3) := by decide +kernel
theorem dX12_why_23 : decode cX12_why 23 = .ok (.ldc 78, 2) := by decide +kernel
theorem dX12_why_25 : decode cX12_why 25 = .ok (.ireturn, 1) := by decide +kernel
theorem dX12_joined_0 : decode cX12_joined 0 = .ok (.iload_n 0, 1) := by decide +kernel
theorem dX12_joined_1 : decode cX12_joined 1 = .ok (.tableswitch 196 38 62 #[182, 196, 196, 196, 123, 115, 196, 119, 196, 127, 196, 196, 196, 196, 196, 196, 196, 196, 196, 196, 196, 196, 149, 171, 160], 115) := by decide +kernel
theorem dX12_joined_116 : decode cX12_joined 116 = .ok (.iload_n 1, 1) := by decide +kernel
theorem dX12_joined_117 : decode cX12_joined 117 = .ok (.iload_n 2, 1) := by decide +kernel
theorem dX12_joined_118 : decode cX12_joined 118 = .ok (.iadd, 1) := by decide +kernel
theorem dX12_joined_119 : decode cX12_joined 119 = .ok (.ireturn, 1) := by decide +kernel
theorem dX12_joined_120 : decode cX12_joined 120 = .ok (.iload_n 1, 1) := by decide +kernel
theorem dX12_joined_121 : decode cX12_joined 121 = .ok (.iload_n 2, 1) := by decide +kernel
theorem dX12_joined_122 : decode cX12_joined 122 = .ok (.isub, 1) := by decide +kernel
theorem dX12_joined_123 : decode cX12_joined 123 = .ok (.ireturn, 1) := by decide +kernel
theorem dX12_joined_124 : decode cX12_joined 124 = .ok (.iload_n 1, 1) := by decide +kernel
theorem dX12_joined_125 : decode cX12_joined 125 = .ok (.iload_n 2, 1) := by decide +kernel
theorem dX12_joined_126 : decode cX12_joined 126 = .ok (.imul, 1) := by decide +kernel
theorem dX12_joined_127 : decode cX12_joined 127 = .ok (.ireturn, 1) := by decide +kernel
theorem dX12_joined_128 : decode cX12_joined 128 = .ok (.iload_n 2, 1) := by decide +kernel
theorem dX12_joined_129 : decode cX12_joined 129 = .ok (.ifCond .ne 7, 3) := by decide +kernel
theorem dX12_joined_132 : decode cX12_joined 132 = .ok (.iconst 0, 1) := by decide +kernel
theorem dX12_joined_133 : decode cX12_joined 133 = .ok (.goto 16, 3) := by decide +kernel
theorem dX12_joined_136 : decode cX12_joined 136 = .ok (.iload_n 2, 1) := by decide +kernel
theorem dX12_joined_137 : decode cX12_joined 137 = .ok (.iconst (-1), 1) := by decide +kernel
theorem dX12_joined_138 : decode cX12_joined 138 = .ok (.if_icmp .ne 8, 3) := by decide +kernel
theorem dX12_joined_141 : decode cX12_joined 141 = .ok (.iload_n 1, 1) := by decide +kernel
theorem dX12_joined_142 : decode cX12_joined 142 = .ok (.ineg, 1) := by decide +kernel
theorem dX12_joined_143 : decode cX12_joined 143 = .ok (.goto 6, 3) := by decide +kernel
theorem dX12_joined_146 : decode cX12_joined 146 = .ok (.iload_n 1, 1) := by decide +kernel
theorem dX12_joined_147 : decode cX12_joined 147 = .ok (.iload_n 2, 1) := by decide +kernel
theorem dX12_joined_148 : decode cX12_joined 148 = .ok (.idiv, 1) := by decide +kernel
theorem dX12_joined_149 : decode cX12_joined 149 = .ok (.ireturn, 1) := by decide +kernel
theorem dX12_joined_150 : decode cX12_joined 150 = .ok (.iload_n 1, 1) := by decide +kernel
theorem dX12_joined_151 : decode cX12_joined 151 = .ok (.iload_n 2, 1) := by decide +kernel
theorem dX12_joined_152 : decode cX12_joined 152 = .ok (.if_icmp .ge 7, 3) := by decide +kernel
theorem dX12_joined_155 : decode cX12_joined 155 = .ok (.iconst 1, 1) := by decide +kernel
theorem dX12_joined_156 : decode cX12_joined 156 = .ok (.goto 4, 3) := by decide +kernel
theorem dX12_joined_159 : decode cX12_joined 159 = .ok (.iconst 0, 1) := by decide +kernel
theorem dX12_joined_160 : decode cX12_joined 160 = .ok (.ireturn, 1) := by decide +kernel
theorem dX12_joined_161 : decode cX12_joined 161 = .ok (.iload_n 1, 1) := by decide +kernel
theorem dX12_joined_162 : decode cX12_joined 162 = .ok (.iload_n 2, 1) := by decide +kernel
theorem dX12_joined_163 : decode cX12_joined 163 = .ok (.if_icmp .le 7, 3) := by decide +kernel
theorem dX12_joined_166 : decode cX12_joined 166 = .ok (.iconst 1, 1) := by decide +kernel
theorem dX12_joined_167 : decode cX12_joined 167 = .ok (.goto 4, 3) := by decide +kernel
theorem dX12_joined_170 : decode cX12_joined 170 = .ok (.iconst 0, 1) := by decide +kernel
theorem dX12_joined_171 : decode cX12_joined 171 = .ok (.ireturn, 1) := by decide +kernel
theorem dX12_joined_172 : decode cX12_joined 172 = .ok (.iload_n 1, 1) := by decide +kernel
theorem dX12_joined_173 : decode cX12_joined 173 = .ok (.iload_n 2, 1) := by decide +kernel
theorem dX12_joined_174 : decode cX12_joined 174 = .ok (.if_icmp .ne 7, 3) := by decide +kernel
theorem dX12_joined_177 : decode cX12_joined 177 = .ok (.iconst 1, 1) := by decide +kernel
theorem dX12_joined_178 : decode cX12_joined 178 = .ok (.goto 4, 3) := by decide +kernel
theorem dX12_joined_181 : decode cX12_joined 181 = .ok (.iconst 0, 1) := by decide +kernel
theorem dX12_joined_182 : decode cX12_joined 182 = .ok (.ireturn, 1) := by decide +kernel
theorem dX12_joined_183 : decode cX12_joined 183 = .ok (.iload_n 1, 1) := by decide +kernel
theorem dX12_joined_184 : decode cX12_joined 184 = .ok (.ifCond .eq 11, 3) := by decide +kernel
theorem dX12_joined_187 : decode cX12_joined 187 = .ok (.iload_n 2, 1) := by decide +kernel
theorem dX12_joined_188 : decode cX12_joined 188 = .ok (.ifCond .eq 7, 3) := by decide +kernel
theorem dX12_joined_191 : decode cX12_joined 191 = .ok (.iconst 1, 1) := by decide +kernel
theorem dX12_joined_192 : decode cX12_joined 192 = .ok (.goto 4, 3) := by decide +kernel
theorem dX12_joined_195 : decode cX12_joined 195 = .ok (.iconst 0, 1) := by decide +kernel
theorem dX12_joined_196 : decode cX12_joined 196 = .ok (.ireturn, 1) := by decide +kernel
theorem dX12_joined_197 : decode cX12_joined 197 = .ok (.iload_n 1, 1) := by decide +kernel
theorem dX12_joined_198 : decode cX12_joined 198 = .ok (.ifCond .ne 7, 3) := by decide +kernel
theorem dX12_joined_201 : decode cX12_joined 201 = .ok (.iload_n 2, 1) := by decide +kernel
theorem dX12_joined_202 : decode cX12_joined 202 = .ok (.ifCond .eq 7, 3) := by decide +kernel
theorem dX12_joined_205 : decode cX12_joined 205 = .ok (.iconst 1, 1) := by decide +kernel
theorem dX12_joined_206 : decode cX12_joined 206 = .ok (.goto 4, 3) := by decide +kernel
theorem dX12_joined_209 : decode cX12_joined 209 = .ok (.iconst 0, 1) := by decide +kernel
theorem dX12_joined_210 : decode cX12_joined 210 = .ok (.ireturn, 1) := by decide +kernel
theorem dX12_worked_0 : decode cX12_worked 0 = .ok (.iconst 0, 1) := by decide +kernel
theorem dX12_worked_1 : decode cX12_worked 1 = .ok (.istore_n 2, 1) := by decide +kernel
theorem dX12_worked_2 : decode cX12_worked 2 = .ok (.iconst 0, 1) := by decide +kernel
theorem dX12_worked_3 : decode cX12_worked 3 = .ok (.istore_n 3, 1) := by decide +kernel
theorem dX12_worked_4 : decode cX12_worked 4 = .ok (.iload_n 3, 1) := by decide +kernel
theorem dX12_worked_5 : decode cX12_worked 5 = .ok (.aload_n 0, 1) := by decide +kernel
theorem dX12_worked_6 : decode cX12_worked 6 = .ok (.getfield 7, 3) := by decide +kernel
theorem dX12_worked_9 : decode cX12_worked 9 = .ok (.aload_n 0, 1) := by decide +kernel
theorem dX12_worked_10 : decode cX12_worked 10 = .ok (.iload_n 1, 1) := by decide +kernel
theorem dX12_worked_11 : decode cX12_worked 11 = .ok (.invokevirtual 296, 3) := by decide +kernel
theorem dX12_worked_14 : decode cX12_worked 14 = .ok (.iconst 2, 1) := by decide +kernel
theorem dX12_worked_15 : decode cX12_worked 15 = .ok (.iadd, 1) := by decide +kernel
theorem dX12_worked_16 : decode cX12_worked 16 = .ok (.iaload, 1) := by decide +kernel
theorem dX12_worked_17 : decode cX12_worked 17 = .ok (.if_icmp .ge 146, 3) := by decide +kernel
theorem dX12_worked_20 : decode cX12_worked 20 = .ok (.aload_n 0, 1) := by decide +kernel
theorem dX12_worked_21 : decode cX12_worked 21 = .ok (.getfield 7, 3) := by decide +kernel
theorem dX12_worked_24 : decode cX12_worked 24 = .ok (.aload_n 0, 1) := by decide +kernel
theorem dX12_worked_25 : decode cX12_worked 25 = .ok (.iload_n 1, 1) := by decide +kernel
theorem dX12_worked_26 : decode cX12_worked 26 = .ok (.invokevirtual 296, 3) := by decide +kernel
theorem dX12_worked_29 : decode cX12_worked 29 = .ok (.iconst 4, 1) := by decide +kernel
theorem dX12_worked_30 : decode cX12_worked 30 = .ok (.iadd, 1) := by decide +kernel
theorem dX12_worked_31 : decode cX12_worked 31 = .ok (.iconst 2, 1) := by decide +kernel
theorem dX12_worked_32 : decode cX12_worked 32 = .ok (.iload_n 3, 1) := by decide +kernel
theorem dX12_worked_33 : decode cX12_worked 33 = .ok (.imul, 1) := by decide +kernel
theorem dX12_worked_34 : decode cX12_worked 34 = .ok (.iadd, 1) := by decide +kernel
theorem dX12_worked_35 : decode cX12_worked 35 = .ok (.iaload, 1) := by decide +kernel
theorem dX12_worked_36 : decode cX12_worked 36 = .ok (.istore 4, 2) := by decide +kernel
theorem dX12_worked_38 : decode cX12_worked 38 = .ok (.aload_n 0, 1) := by decide +kernel
theorem dX12_worked_39 : decode cX12_worked 39 = .ok (.getfield 7, 3) := by decide +kernel
theorem dX12_worked_42 : decode cX12_worked 42 = .ok (.aload_n 0, 1) := by decide +kernel
theorem dX12_worked_43 : decode cX12_worked 43 = .ok (.iload_n 1, 1) := by decide +kernel
theorem dX12_worked_44 : decode cX12_worked 44 = .ok (.invokevirtual 296, 3) := by decide +kernel
theorem dX12_worked_47 : decode cX12_worked 47 = .ok (.iconst 4, 1) := by decide +kernel
theorem dX12_worked_48 : decode cX12_worked 48 = .ok (.iadd, 1) := by decide +kernel
theorem dX12_worked_49 : decode cX12_worked 49 = .ok (.iconst 2, 1) := by decide +kernel
theorem dX12_worked_50 : decode cX12_worked 50 = .ok (.iload_n 3, 1) := by decide +kernel
theorem dX12_worked_51 : decode cX12_worked 51 = .ok (.imul, 1) := by decide +kernel
theorem dX12_worked_52 : decode cX12_worked 52 = .ok (.iadd, 1) := by decide +kernel
theorem dX12_worked_53 : decode cX12_worked 53 = .ok (.iconst 1, 1) := by decide +kernel
theorem dX12_worked_54 : decode cX12_worked 54 = .ok (.iadd, 1) := by decide +kernel
theorem dX12_worked_55 : decode cX12_worked 55 = .ok (.iaload, 1) := by decide +kernel
theorem dX12_worked_56 : decode cX12_worked 56 = .ok (.istore 5, 2) := by decide +kernel
theorem dX12_worked_58 : decode cX12_worked 58 = .ok (.iload 4, 2) := by decide +kernel
theorem dX12_worked_60 : decode cX12_worked 60 = .ok (.iconst 2, 1) := by decide +kernel
theorem dX12_worked_61 : decode cX12_worked 61 = .ok (.if_icmp .eq 32, 3) := by decide +kernel
theorem dX12_worked_64 : decode cX12_worked 64 = .ok (.aload_n 0, 1) := by decide +kernel
theorem dX12_worked_65 : decode cX12_worked 65 = .ok (.getfield 52, 3) := by decide +kernel
theorem dX12_worked_68 : decode cX12_worked 68 = .ok (.iload_n 2, 1) := by decide +kernel
theorem dX12_worked_69 : decode cX12_worked 69 = .ok (.iload 4, 2) := by decide +kernel
theorem dX12_worked_71 : decode cX12_worked 71 = .ok (.ifCond .ne 8, 3) := by decide +kernel
theorem dX12_worked_74 : decode cX12_worked 74 = .ok (.iload 5, 2) := by decide +kernel
theorem dX12_worked_76 : decode cX12_worked 76 = .ok (.goto 10, 3) := by decide +kernel
theorem dX12_worked_79 : decode cX12_worked 79 = .ok (.aload_n 0, 1) := by decide +kernel
theorem dX12_worked_80 : decode cX12_worked 80 = .ok (.getfield 49, 3) := by decide +kernel
theorem dX12_worked_83 : decode cX12_worked 83 = .ok (.iload 5, 2) := by decide +kernel
theorem dX12_worked_85 : decode cX12_worked 85 = .ok (.iaload, 1) := by decide +kernel
theorem dX12_worked_86 : decode cX12_worked 86 = .ok (.iastore, 1) := by decide +kernel
theorem dX12_worked_87 : decode cX12_worked 87 = .ok (.iinc 2 1, 3) := by decide +kernel
theorem dX12_worked_90 : decode cX12_worked 90 = .ok (.goto 67, 3) := by decide +kernel
theorem dX12_worked_93 : decode cX12_worked 93 = .ok (.iload 5, 2) := by decide +kernel
theorem dX12_worked_95 : decode cX12_worked 95 = .ok (.bipush 33, 2) := by decide +kernel
theorem dX12_worked_97 : decode cX12_worked 97 = .ok (.if_icmp .ne 30, 3) := by decide +kernel
theorem dX12_worked_100 : decode cX12_worked 100 = .ok (.aload_n 0, 1) := by decide +kernel
theorem dX12_worked_101 : decode cX12_worked 101 = .ok (.getfield 52, 3) := by decide +kernel
theorem dX12_worked_104 : decode cX12_worked 104 = .ok (.iload_n 2, 1) := by decide +kernel
theorem dX12_worked_105 : decode cX12_worked 105 = .ok (.iconst 1, 1) := by decide +kernel
theorem dX12_worked_106 : decode cX12_worked 106 = .ok (.isub, 1) := by decide +kernel
theorem dX12_worked_107 : decode cX12_worked 107 = .ok (.aload_n 0, 1) := by decide +kernel
theorem dX12_worked_108 : decode cX12_worked 108 = .ok (.getfield 52, 3) := by decide +kernel
theorem dX12_worked_111 : decode cX12_worked 111 = .ok (.iload_n 2, 1) := by decide +kernel
theorem dX12_worked_112 : decode cX12_worked 112 = .ok (.iconst 1, 1) := by decide +kernel
theorem dX12_worked_113 : decode cX12_worked 113 = .ok (.isub, 1) := by decide +kernel
theorem dX12_worked_114 : decode cX12_worked 114 = .ok (.iaload, 1) := by decide +kernel
theorem dX12_worked_115 : decode cX12_worked 115 = .ok (.ifCond .ne 7, 3) := by decide +kernel
theorem dX12_worked_118 : decode cX12_worked 118 = .ok (.iconst 1, 1) := by decide +kernel
theorem dX12_worked_119 : decode cX12_worked 119 = .ok (.goto 4, 3) := by decide +kernel
theorem dX12_worked_122 : decode cX12_worked 122 = .ok (.iconst 0, 1) := by decide +kernel
theorem dX12_worked_123 : decode cX12_worked 123 = .ok (.iastore, 1) := by decide +kernel
theorem dX12_worked_124 : decode cX12_worked 124 = .ok (.goto 33, 3) := by decide +kernel
theorem dX12_worked_127 : decode cX12_worked 127 = .ok (.iinc 2 (-1), 3) := by decide +kernel
theorem dX12_worked_130 : decode cX12_worked 130 = .ok (.aload_n 0, 1) := by decide +kernel
theorem dX12_worked_131 : decode cX12_worked 131 = .ok (.getfield 52, 3) := by decide +kernel
theorem dX12_worked_134 : decode cX12_worked 134 = .ok (.iload_n 2, 1) := by decide +kernel
theorem dX12_worked_135 : decode cX12_worked 135 = .ok (.iconst 1, 1) := by decide +kernel
theorem dX12_worked_136 : decode cX12_worked 136 = .ok (.isub, 1) := by decide +kernel
theorem dX12_worked_137 : decode cX12_worked 137 = .ok (.iload 5, 2) := by decide +kernel
theorem dX12_worked_139 : decode cX12_worked 139 = .ok (.aload_n 0, 1) := by decide +kernel
theorem dX12_worked_140 : decode cX12_worked 140 = .ok (.getfield 52, 3) := by decide +kernel
theorem dX12_worked_143 : decode cX12_worked 143 = .ok (.iload_n 2, 1) := by decide +kernel
theorem dX12_worked_144 : decode cX12_worked 144 = .ok (.iconst 1, 1) := by decide +kernel
theorem dX12_worked_145 : decode cX12_worked 145 = .ok (.isub, 1) := by decide +kernel
theorem dX12_worked_146 : decode cX12_worked 146 = .ok (.iaload, 1) := by decide +kernel
theorem dX12_worked_147 : decode cX12_worked 147 = .ok (.aload_n 0, 1) := by decide +kernel
theorem dX12_worked_148 : decode cX12_worked 148 = .ok (.getfield 52, 3) := by decide +kernel
theorem dX12_worked_151 : decode cX12_worked 151 = .ok (.iload_n 2, 1) := by decide +kernel
theorem dX12_worked_152 : decode cX12_worked 152 = .ok (.iaload, 1) := by decide +kernel
theorem dX12_worked_153 : decode cX12_worked 153 = .ok (.invokestatic 308, 3) := by decide +kernel
theorem dX12_worked_156 : decode cX12_worked 156 = .ok (.iastore, 1) := by decide +kernel
theorem dX12_worked_157 : decode cX12_worked 157 = .ok (.iinc 3 1, 3) := by decide +kernel
theorem dX12_worked_160 : decode cX12_worked 160 = .ok (.goto (-156), 3) := by decide +kernel
theorem dX12_worked_163 : decode cX12_worked 163 = .ok (.aload_n 0, 1) := by decide +kernel
theorem dX12_worked_164 : decode cX12_worked 164 = .ok (.getfield 52, 3) := by decide +kernel
theorem dX12_worked_167 : decode cX12_worked 167 = .ok (.iconst 0, 1) := by decide +kernel
theorem dX12_worked_168 : decode cX12_worked 168 = .ok (.iaload, 1) := by decide +kernel
theorem dX12_worked_169 : decode cX12_worked 169 = .ok (.ireturn, 1) := by decide +kernel
theorem dX12_isSheet_0 : decode cX12_isSheet 0 = .ok (.iload_n 0, 1) := by decide +kernel
theorem dX12_isSheet_1 : decode cX12_isSheet 1 = .ok (.i2l, 1) := by decide +kernel
theorem dX12_isSheet_2 : decode cX12_isSheet 2 = .ok (.lconst 0, 1) := by decide +kernel
theorem dX12_isSheet_3 : decode cX12_isSheet 3 = .ok (.ldc2_w 88, 3) := by decide +kernel
theorem dX12_isSheet_6 : decode cX12_isSheet 6 = .ok (.invokestatic 65, 3) := by decide +kernel
theorem dX12_isSheet_9 : decode cX12_isSheet 9 = .ok (.ireturn, 1) := by decide +kernel
theorem dX12_sheet_0 : decode cX12_sheet 0 = .ok (.iload_n 1, 1) := by decide +kernel
theorem dX12_sheet_1 : decode cX12_sheet 1 = .ok (.invokestatic 312, 3) := by decide +kernel
theorem dX12_sheet_4 : decode cX12_sheet 4 = .ok (.ifCond .eq 25, 3) := by decide +kernel
theorem dX12_sheet_7 : decode cX12_sheet 7 = .ok (.iload_n 2, 1) := by decide +kernel
theorem dX12_sheet_8 : decode cX12_sheet 8 = .ok (.i2l, 1) := by decide +kernel
theorem dX12_sheet_9 : decode cX12_sheet 9 = .ok (.ldc2_w 315, 3) := by decide +kernel
theorem dX12_sheet_12 : decode cX12_sheet 12 = .ok (.lconst 1, 1) := by decide +kernel
theorem dX12_sheet_13 : decode cX12_sheet 13 = .ok (.invokestatic 65, 3) := by decide +kernel
theorem dX12_sheet_16 : decode cX12_sheet 16 = .ok (.ifCond .eq 13, 3) := by decide +kernel
theorem dX12_sheet_19 : decode cX12_sheet 19 = .ok (.iload_n 2, 1) := by decide +kernel
theorem dX12_sheet_20 : decode cX12_sheet 20 = .ok (.ifCond .lt 12, 3) := by decide +kernel
theorem dX12_sheet_23 : decode cX12_sheet 23 = .ok (.iload_n 3, 1) := by decide +kernel
theorem dX12_sheet_24 : decode cX12_sheet 24 = .ok (.bipush 24, 2) := by decide +kernel
theorem dX12_sheet_26 : decode cX12_sheet 26 = .ok (.if_icmp .le 6, 3) := by decide +kernel
theorem dX12_sheet_29 : decode cX12_sheet 29 = .ok (.ldc 78, 2) := by decide +kernel
theorem dX12_sheet_31 : decode cX12_sheet 31 = .ok (.ireturn, 1) := by decide +kernel
theorem dX12_sheet_32 : decode cX12_sheet 32 = .ok (.iload_n 2, 1) := by decide +kernel
theorem dX12_sheet_33 : decode cX12_sheet 33 = .ok (.ifCond .lt 11, 3) := by decide +kernel
theorem dX12_sheet_36 : decode cX12_sheet 36 = .ok (.iload_n 3, 1) := by decide +kernel
theorem dX12_sheet_37 : decode cX12_sheet 37 = .ok (.ifCond .ge 7, 3) := by decide +kernel
theorem dX12_sheet_40 : decode cX12_sheet 40 = .ok (.ldc_w 317, 3) := by decide +kernel
theorem dX12_sheet_43 : decode cX12_sheet 43 = .ok (.ireturn, 1) := by decide +kernel
theorem dX12_sheet_44 : decode cX12_sheet 44 = .ok (.aload_n 0, 1) := by decide +kernel
theorem dX12_sheet_45 : decode cX12_sheet 45 = .ok (.getfield 19, 3) := by decide +kernel
theorem dX12_sheet_48 : decode cX12_sheet 48 = .ok (.iload_n 1, 1) := by decide +kernel
theorem dX12_sheet_49 : decode cX12_sheet 49 = .ok (.iload_n 2, 1) := by decide +kernel
theorem dX12_sheet_50 : decode cX12_sheet 50 = .ok (.iastore, 1) := by decide +kernel
theorem dX12_sheet_51 : decode cX12_sheet 51 = .ok (.aload_n 0, 1) := by decide +kernel
theorem dX12_sheet_52 : decode cX12_sheet 52 = .ok (.getfield 22, 3) := by decide +kernel
theorem dX12_sheet_55 : decode cX12_sheet 55 = .ok (.iload_n 1, 1) := by decide +kernel
theorem dX12_sheet_56 : decode cX12_sheet 56 = .ok (.iload_n 2, 1) := by decide +kernel
theorem dX12_sheet_57 : decode cX12_sheet 57 = .ok (.ifCond .ge 7, 3) := by decide +kernel
theorem dX12_sheet_60 : decode cX12_sheet 60 = .ok (.iconst 0, 1) := by decide +kernel
theorem dX12_sheet_61 : decode cX12_sheet 61 = .ok (.goto 4, 3) := by decide +kernel
theorem dX12_sheet_64 : decode cX12_sheet 64 = .ok (.iload_n 3, 1) := by decide +kernel
theorem dX12_sheet_65 : decode cX12_sheet 65 = .ok (.iastore, 1) := by decide +kernel
theorem dX12_sheet_66 : decode cX12_sheet 66 = .ok (.iconst 0, 1) := by decide +kernel
theorem dX12_sheet_67 : decode cX12_sheet 67 = .ok (.istore 4, 2) := by decide +kernel
theorem dX12_sheet_69 : decode cX12_sheet 69 = .ok (.iload 4, 2) := by decide +kernel
theorem dX12_sheet_71 : decode cX12_sheet 71 = .ok (.bipush 24, 2) := by decide +kernel
theorem dX12_sheet_73 : decode cX12_sheet 73 = .ok (.if_icmp .ge 22, 3) := by decide +kernel
theorem dX12_sheet_76 : decode cX12_sheet 76 = .ok (.aload_n 0, 1) := by decide +kernel
theorem dX12_sheet_77 : decode cX12_sheet 77 = .ok (.getfield 25, 3) := by decide +kernel
theorem dX12_sheet_80 : decode cX12_sheet 80 = .ok (.bipush 24, 2) := by decide +kernel
theorem dX12_sheet_82 : decode cX12_sheet 82 = .ok (.iload_n 1, 1) := by decide +kernel
theorem dX12_sheet_83 : decode cX12_sheet 83 = .ok (.imul, 1) := by decide +kernel
theorem dX12_sheet_84 : decode cX12_sheet 84 = .ok (.iload 4, 2) := by decide +kernel
theorem dX12_sheet_86 : decode cX12_sheet 86 = .ok (.iadd, 1) := by decide +kernel
theorem dX12_sheet_87 : decode cX12_sheet 87 = .ok (.iconst 0, 1) := by decide +kernel
theorem dX12_sheet_88 : decode cX12_sheet 88 = .ok (.iastore, 1) := by decide +kernel
theorem dX12_sheet_89 : decode cX12_sheet 89 = .ok (.iinc 4 1, 3) := by decide +kernel
theorem dX12_sheet_92 : decode cX12_sheet 92 = .ok (.goto (-23), 3) := by decide +kernel
theorem dX12_sheet_95 : decode cX12_sheet 95 = .ok (.aload_n 0, 1) := by decide +kernel
theorem dX12_sheet_96 : decode cX12_sheet 96 = .ok (.getfield 22, 3) := by decide +kernel
theorem dX12_sheet_99 : decode cX12_sheet 99 = .ok (.iload_n 1, 1) := by decide +kernel
theorem dX12_sheet_100 : decode cX12_sheet 100 = .ok (.iaload, 1) := by decide +kernel
theorem dX12_sheet_101 : decode cX12_sheet 101 = .ok (.ireturn, 1) := by decide +kernel
theorem dX12_mark_0 : decode cX12_mark 0 = .ok (.iload_n 1, 1) := by decide +kernel
theorem dX12_mark_1 : decode cX12_mark 1 = .ok (.invokestatic 312, 3) := by decide +kernel
theorem dX12_mark_4 : decode cX12_mark 4 = .ok (.ifCond .ne 6, 3) := by decide +kernel
theorem dX12_mark_7 : decode cX12_mark 7 = .ok (.ldc 78, 2) := by decide +kernel
theorem dX12_mark_9 : decode cX12_mark 9 = .ok (.ireturn, 1) := by decide +kernel
theorem dX12_mark_10 : decode cX12_mark 10 = .ok (.aload_n 0, 1) := by decide +kernel
theorem dX12_mark_11 : decode cX12_mark 11 = .ok (.getfield 19, 3) := by decide +kernel
theorem dX12_mark_14 : decode cX12_mark 14 = .ok (.iload_n 1, 1) := by decide +kernel
theorem dX12_mark_15 : decode cX12_mark 15 = .ok (.iaload, 1) := by decide +kernel
theorem dX12_mark_16 : decode cX12_mark 16 = .ok (.ifCond .ge 7, 3) := by decide +kernel
theorem dX12_mark_19 : decode cX12_mark 19 = .ok (.ldc_w 318, 3) := by decide +kernel
theorem dX12_mark_22 : decode cX12_mark 22 = .ok (.ireturn, 1) := by decide +kernel
theorem dX12_mark_23 : decode cX12_mark 23 = .ok (.iload_n 2, 1) := by decide +kernel
theorem dX12_mark_24 : decode cX12_mark 24 = .ok (.i2l, 1) := by decide +kernel
theorem dX12_mark_25 : decode cX12_mark 25 = .ok (.lconst 0, 1) := by decide +kernel
theorem dX12_mark_26 : decode cX12_mark 26 = .ok (.aload_n 0, 1) := by decide +kernel
theorem dX12_mark_27 : decode cX12_mark 27 = .ok (.getfield 22, 3) := by decide +kernel
theorem dX12_mark_30 : decode cX12_mark 30 = .ok (.iload_n 1, 1) := by decide +kernel
theorem dX12_mark_31 : decode cX12_mark 31 = .ok (.iaload, 1) := by decide +kernel
theorem dX12_mark_32 : decode cX12_mark 32 = .ok (.iconst 1, 1) := by decide +kernel
theorem dX12_mark_33 : decode cX12_mark 33 = .ok (.isub, 1) := by decide +kernel
theorem dX12_mark_34 : decode cX12_mark 34 = .ok (.i2l, 1) := by decide +kernel
theorem dX12_mark_35 : decode cX12_mark 35 = .ok (.invokestatic 65, 3) := by decide +kernel
theorem dX12_mark_38 : decode cX12_mark 38 = .ok (.ifCond .ne 7, 3) := by decide +kernel
theorem dX12_mark_41 : decode cX12_mark 41 = .ok (.ldc_w 319, 3) := by decide +kernel
theorem dX12_mark_44 : decode cX12_mark 44 = .ok (.ireturn, 1) := by decide +kernel
theorem dX12_mark_45 : decode cX12_mark 45 = .ok (.aload_n 0, 1) := by decide +kernel
theorem dX12_mark_46 : decode cX12_mark 46 = .ok (.getfield 19, 3) := by decide +kernel
theorem dX12_mark_49 : decode cX12_mark 49 = .ok (.iload_n 1, 1) := by decide +kernel
theorem dX12_mark_50 : decode cX12_mark 50 = .ok (.iaload, 1) := by decide +kernel
theorem dX12_mark_51 : decode cX12_mark 51 = .ok (.ifCond .ne 12, 3) := by decide +kernel
theorem dX12_mark_54 : decode cX12_mark 54 = .ok (.iload_n 3, 1) := by decide +kernel
theorem dX12_mark_55 : decode cX12_mark 55 = .ok (.ldc 64, 2) := by decide +kernel
theorem dX12_mark_57 : decode cX12_mark 57 = .ok (.if_icmp .ne 6, 3) := by decide +kernel
theorem dX12_mark_60 : decode cX12_mark 60 = .ok (.ldc 155, 2) := by decide +kernel
theorem dX12_mark_62 : decode cX12_mark 62 = .ok (.ireturn, 1) := by decide +kernel
theorem dX12_mark_63 : decode cX12_mark 63 = .ok (.aload_n 0, 1) := by decide +kernel
theorem dX12_mark_64 : decode cX12_mark 64 = .ok (.getfield 19, 3) := by decide +kernel
theorem dX12_mark_67 : decode cX12_mark 67 = .ok (.iload_n 1, 1) := by decide +kernel
theorem dX12_mark_68 : decode cX12_mark 68 = .ok (.iaload, 1) := by decide +kernel
theorem dX12_mark_69 : decode cX12_mark 69 = .ok (.iconst 1, 1) := by decide +kernel
theorem dX12_mark_70 : decode cX12_mark 70 = .ok (.if_icmp .ne 26, 3) := by decide +kernel
theorem dX12_mark_73 : decode cX12_mark 73 = .ok (.iload_n 3, 1) := by decide +kernel
theorem dX12_mark_74 : decode cX12_mark 74 = .ok (.ldc 64, 2) := by decide +kernel
theorem dX12_mark_76 : decode cX12_mark 76 = .ok (.if_icmp .eq 20, 3) := by decide +kernel
theorem dX12_mark_79 : decode cX12_mark 79 = .ok (.iload_n 3, 1) := by decide +kernel
theorem dX12_mark_80 : decode cX12_mark 80 = .ok (.i2l, 1) := by decide +kernel
theorem dX12_mark_81 : decode cX12_mark 81 = .ok (.ldc2_w 320, 3) := by decide +kernel
theorem dX12_mark_84 : decode cX12_mark 84 = .ok (.ldc2_w 322, 3) := by decide +kernel
theorem dX12_mark_87 : decode cX12_mark 87 = .ok (.invokestatic 65, 3) := by decide +kernel
theorem dX12_mark_90 : decode cX12_mark 90 = .ok (.ifCond .ne 6, 3) := by decide +kernel
theorem dX12_mark_93 : decode cX12_mark 93 = .ok (.ldc 78, 2) := by decide +kernel
theorem dX12_mark_95 : decode cX12_mark 95 = .ok (.ireturn, 1) := by decide +kernel
theorem dX12_mark_96 : decode cX12_mark 96 = .ok (.aload_n 0, 1) := by decide +kernel
theorem dX12_mark_97 : decode cX12_mark 97 = .ok (.getfield 25, 3) := by decide +kernel
theorem dX12_mark_100 : decode cX12_mark 100 = .ok (.bipush 24, 2) := by decide +kernel
theorem dX12_mark_102 : decode cX12_mark 102 = .ok (.iload_n 1, 1) := by decide +kernel
theorem dX12_mark_103 : decode cX12_mark 103 = .ok (.imul, 1) := by decide +kernel
theorem dX12_mark_104 : decode cX12_mark 104 = .ok (.iload_n 2, 1) := by decide +kernel
theorem dX12_mark_105 : decode cX12_mark 105 = .ok (.iadd, 1) := by decide +kernel
theorem dX12_mark_106 : decode cX12_mark 106 = .ok (.aload_n 0, 1) := by decide +kernel
theorem dX12_mark_107 : decode cX12_mark 107 = .ok (.getfield 19, 3) := by decide +kernel
theorem dX12_mark_110 : decode cX12_mark 110 = .ok (.iload_n 1, 1) := by decide +kernel
theorem dX12_mark_111 : decode cX12_mark 111 = .ok (.iaload, 1) := by decide +kernel
theorem dX12_mark_112 : decode cX12_mark 112 = .ok (.ifCond .ne 13, 3) := by decide +kernel
theorem dX12_mark_115 : decode cX12_mark 115 = .ok (.iload_n 3, 1) := by decide +kernel
theorem dX12_mark_116 : decode cX12_mark 116 = .ok (.bipush 16, 2) := by decide +kernel
theorem dX12_mark_118 : decode cX12_mark 118 = .ok (.ishl, 1) := by decide +kernel
theorem dX12_mark_119 : decode cX12_mark 119 = .ok (.bipush 16, 2) := by decide +kernel
theorem dX12_mark_121 : decode cX12_mark 121 = .ok (.ishr, 1) := by decide +kernel
theorem dX12_mark_122 : decode cX12_mark 122 = .ok (.goto 4, 3) := by decide +kernel
theorem dX12_mark_125 : decode cX12_mark 125 = .ok (.iload_n 3, 1) := by decide +kernel
theorem dX12_mark_126 : decode cX12_mark 126 = .ok (.iastore, 1) := by decide +kernel
theorem dX12_mark_127 : decode cX12_mark 127 = .ok (.iconst 1, 1) := by decide +kernel
theorem dX12_mark_128 : decode cX12_mark 128 = .ok (.ireturn, 1) := by decide +kernel
theorem dX12_pour_0 : decode cX12_pour 0 = .ok (.iload_n 1, 1) := by decide +kernel
theorem dX12_pour_1 : decode cX12_pour 1 = .ok (.invokestatic 312, 3) := by decide +kernel
theorem dX12_pour_4 : decode cX12_pour 4 = .ok (.ifCond .ne 6, 3) := by decide +kernel
theorem dX12_pour_7 : decode cX12_pour 7 = .ok (.ldc 78, 2) := by decide +kernel
theorem dX12_pour_9 : decode cX12_pour 9 = .ok (.ireturn, 1) := by decide +kernel
theorem dX12_pour_10 : decode cX12_pour 10 = .ok (.aload_n 0, 1) := by decide +kernel
theorem dX12_pour_11 : decode cX12_pour 11 = .ok (.getfield 19, 3) := by decide +kernel
theorem dX12_pour_14 : decode cX12_pour 14 = .ok (.iload_n 1, 1) := by decide +kernel
theorem dX12_pour_15 : decode cX12_pour 15 = .ok (.iaload, 1) := by decide +kernel
theorem dX12_pour_16 : decode cX12_pour 16 = .ok (.ifCond .ge 7, 3) := by decide +kernel
theorem dX12_pour_19 : decode cX12_pour 19 = .ok (.ldc_w 318, 3) := by decide +kernel
theorem dX12_pour_22 : decode cX12_pour 22 = .ok (.ireturn, 1) := by decide +kernel
theorem dX12_pour_23 : decode cX12_pour 23 = .ok (.iconst 0, 1) := by decide +kernel
theorem dX12_pour_24 : decode cX12_pour 24 = .ok (.istore_n 2, 1) := by decide +kernel
theorem dX12_pour_25 : decode cX12_pour 25 = .ok (.iconst 0, 1) := by decide +kernel
theorem dX12_pour_26 : decode cX12_pour 26 = .ok (.istore_n 3, 1) := by decide +kernel
theorem dX12_pour_27 : decode cX12_pour 27 = .ok (.iload_n 3, 1) := by decide +kernel
theorem dX12_pour_28 : decode cX12_pour 28 = .ok (.aload_n 0, 1) := by decide +kernel
theorem dX12_pour_29 : decode cX12_pour 29 = .ok (.getfield 22, 3) := by decide +kernel
theorem dX12_pour_32 : decode cX12_pour 32 = .ok (.iload_n 1, 1) := by decide +kernel
theorem dX12_pour_33 : decode cX12_pour 33 = .ok (.iaload, 1) := by decide +kernel
theorem dX12_pour_34 : decode cX12_pour 34 = .ok (.if_icmp .ge 81, 3) := by decide +kernel
theorem dX12_pour_37 : decode cX12_pour 37 = .ok (.iload_n 3, 1) := by decide +kernel
theorem dX12_pour_38 : decode cX12_pour 38 = .ok (.aload_n 0, 1) := by decide +kernel
theorem dX12_pour_39 : decode cX12_pour 39 = .ok (.getfield 7, 3) := by decide +kernel
theorem dX12_pour_42 : decode cX12_pour 42 = .ok (.iconst 0, 1) := by decide +kernel
theorem dX12_pour_43 : decode cX12_pour 43 = .ok (.iaload, 1) := by decide +kernel
theorem dX12_pour_44 : decode cX12_pour 44 = .ok (.if_icmp .ge 71, 3) := by decide +kernel
theorem dX12_pour_47 : decode cX12_pour 47 = .ok (.aload_n 0, 1) := by decide +kernel
theorem dX12_pour_48 : decode cX12_pour 48 = .ok (.getfield 25, 3) := by decide +kernel
theorem dX12_pour_51 : decode cX12_pour 51 = .ok (.bipush 24, 2) := by decide +kernel
theorem dX12_pour_53 : decode cX12_pour 53 = .ok (.iload_n 1, 1) := by decide +kernel
theorem dX12_pour_54 : decode cX12_pour 54 = .ok (.imul, 1) := by decide +kernel
theorem dX12_pour_55 : decode cX12_pour 55 = .ok (.iload_n 3, 1) := by decide +kernel
theorem dX12_pour_56 : decode cX12_pour 56 = .ok (.iadd, 1) := by decide +kernel
theorem dX12_pour_57 : decode cX12_pour 57 = .ok (.iaload, 1) := by decide +kernel
theorem dX12_pour_58 : decode cX12_pour 58 = .ok (.istore 4, 2) := by decide +kernel
theorem dX12_pour_60 : decode cX12_pour 60 = .ok (.iload 4, 2) := by decide +kernel
theorem dX12_pour_62 : decode cX12_pour 62 = .ok (.ldc 64, 2) := by decide +kernel
theorem dX12_pour_64 : decode cX12_pour 64 = .ok (.if_icmp .ne 11, 3) := by decide +kernel
theorem dX12_pour_67 : decode cX12_pour 67 = .ok (.aload_n 0, 1) := by decide +kernel
theorem dX12_pour_68 : decode cX12_pour 68 = .ok (.iload_n 3, 1) := by decide +kernel
theorem dX12_pour_69 : decode cX12_pour 69 = .ok (.invokevirtual 112, 3) := by decide +kernel
theorem dX12_pour_72 : decode cX12_pour 72 = .ok (.goto 10, 3) := by decide +kernel
theorem dX12_pour_75 : decode cX12_pour 75 = .ok (.iload 4, 2) := by decide +kernel
theorem dX12_pour_77 : decode cX12_pour 77 = .ok (.bipush 99, 2) := by decide +kernel
theorem dX12_pour_79 : decode cX12_pour 79 = .ok (.invokestatic 124, 3) := by decide +kernel
theorem dX12_pour_82 : decode cX12_pour 82 = .ok (.istore 5, 2) := by decide +kernel
theorem dX12_pour_84 : decode cX12_pour 84 = .ok (.iload_n 2, 1) := by decide +kernel
theorem dX12_pour_85 : decode cX12_pour 85 = .ok (.iload 5, 2) := by decide +kernel
theorem dX12_pour_87 : decode cX12_pour 87 = .ok (.aload_n 0, 1) := by decide +kernel
theorem dX12_pour_88 : decode cX12_pour 88 = .ok (.bipush 8, 2) := by decide +kernel
theorem dX12_pour_90 : decode cX12_pour 90 = .ok (.iconst 2, 1) := by decide +kernel
theorem dX12_pour_91 : decode cX12_pour 91 = .ok (.iload_n 3, 1) := by decide +kernel
theorem dX12_pour_92 : decode cX12_pour 92 = .ok (.imul, 1) := by decide +kernel
theorem dX12_pour_93 : decode cX12_pour 93 = .ok (.iadd, 1) := by decide +kernel
theorem dX12_pour_94 : decode cX12_pour 94 = .ok (.iload 5, 2) := by decide +kernel
theorem dX12_pour_96 : decode cX12_pour 96 = .ok (.invokevirtual 97, 3) := by decide +kernel
theorem dX12_pour_99 : decode cX12_pour 99 = .ok (.if_icmp .ne 7, 3) := by decide +kernel
theorem dX12_pour_102 : decode cX12_pour 102 = .ok (.iconst 0, 1) := by decide +kernel
theorem dX12_pour_103 : decode cX12_pour 103 = .ok (.goto 4, 3) := by decide +kernel
theorem dX12_pour_106 : decode cX12_pour 106 = .ok (.iconst 1, 1) := by decide +kernel
theorem dX12_pour_107 : decode cX12_pour 107 = .ok (.iadd, 1) := by decide +kernel
theorem dX12_pour_108 : decode cX12_pour 108 = .ok (.istore_n 2, 1) := by decide +kernel
theorem dX12_pour_109 : decode cX12_pour 109 = .ok (.iinc 3 1, 3) := by decide +kernel
theorem dX12_pour_112 : decode cX12_pour 112 = .ok (.goto (-85), 3) := by decide +kernel
theorem dX12_pour_115 : decode cX12_pour 115 = .ok (.iload_n 2, 1) := by decide +kernel
theorem dX12_pour_116 : decode cX12_pour 116 = .ok (.ireturn, 1) := by decide +kernel
theorem dX12_nearest_0 : decode cX12_nearest 0 = .ok (.iload_n 1, 1) := by decide +kernel
theorem dX12_nearest_1 : decode cX12_nearest 1 = .ok (.invokestatic 312, 3) := by decide +kernel
theorem dX12_nearest_4 : decode cX12_nearest 4 = .ok (.ifCond .eq 13, 3) := by decide +kernel
theorem dX12_nearest_7 : decode cX12_nearest 7 = .ok (.iload_n 2, 1) := by decide +kernel
theorem dX12_nearest_8 : decode cX12_nearest 8 = .ok (.i2l, 1) := by decide +kernel
theorem dX12_nearest_9 : decode cX12_nearest 9 = .ok (.lconst 0, 1) := by decide +kernel
theorem dX12_nearest_10 : decode cX12_nearest 10 = .ok (.lconst 1, 1) := by decide +kernel
theorem dX12_nearest_11 : decode cX12_nearest 11 = .ok (.invokestatic 65, 3) := by decide +kernel
theorem dX12_nearest_14 : decode cX12_nearest 14 = .ok (.ifCond .ne 6, 3) := by decide +kernel
theorem dX12_nearest_17 : decode cX12_nearest 17 = .ok (.ldc 78, 2) := by decide +kernel
theorem dX12_nearest_19 : decode cX12_nearest 19 = .ok (.ireturn, 1) := by decide +kernel
theorem dX12_nearest_20 : decode cX12_nearest 20 = .ok (.aload_n 0, 1) := by decide +kernel
theorem dX12_nearest_21 : decode cX12_nearest 21 = .ok (.getfield 19, 3) := by decide +kernel
theorem dX12_nearest_24 : decode cX12_nearest 24 = .ok (.iload_n 1, 1) := by decide +kernel
theorem dX12_nearest_25 : decode cX12_nearest 25 = .ok (.iaload, 1) := by decide +kernel
theorem dX12_nearest_26 : decode cX12_nearest 26 = .ok (.ifCond .ge 7, 3) := by decide +kernel
theorem dX12_nearest_29 : decode cX12_nearest 29 = .ok (.ldc_w 318, 3) := by decide +kernel
theorem dX12_nearest_32 : decode cX12_nearest 32 = .ok (.ireturn, 1) := by decide +kernel
theorem dX12_nearest_33 : decode cX12_nearest 33 = .ok (.iconst (-1), 1) := by decide +kernel
theorem dX12_nearest_34 : decode cX12_nearest 34 = .ok (.istore_n 3, 1) := by decide +kernel
theorem dX12_nearest_35 : decode cX12_nearest 35 = .ok (.iconst 0, 1) := by decide +kernel
theorem dX12_nearest_36 : decode cX12_nearest 36 = .ok (.istore 4, 2) := by decide +kernel
theorem dX12_nearest_38 : decode cX12_nearest 38 = .ok (.iconst 0, 1) := by decide +kernel
theorem dX12_nearest_39 : decode cX12_nearest 39 = .ok (.istore 5, 2) := by decide +kernel
theorem dX12_nearest_41 : decode cX12_nearest 41 = .ok (.iload 5, 2) := by decide +kernel
theorem dX12_nearest_43 : decode cX12_nearest 43 = .ok (.aload_n 0, 1) := by decide +kernel
theorem dX12_nearest_44 : decode cX12_nearest 44 = .ok (.getfield 7, 3) := by decide +kernel
theorem dX12_nearest_47 : decode cX12_nearest 47 = .ok (.iconst 0, 1) := by decide +kernel
theorem dX12_nearest_48 : decode cX12_nearest 48 = .ok (.iaload, 1) := by decide +kernel
theorem dX12_nearest_49 : decode cX12_nearest 49 = .ok (.if_icmp .ge 132, 3) := by decide +kernel
theorem dX12_nearest_52 : decode cX12_nearest 52 = .ok (.aload_n 0, 1) := by decide +kernel
theorem dX12_nearest_53 : decode cX12_nearest 53 = .ok (.iload 5, 2) := by decide +kernel
theorem dX12_nearest_55 : decode cX12_nearest 55 = .ok (.invokevirtual 179, 3) := by decide +kernel
theorem dX12_nearest_58 : decode cX12_nearest 58 = .ok (.iconst 0, 1) := by decide +kernel
theorem dX12_nearest_59 : decode cX12_nearest 59 = .ok (.istore 6, 2) := by decide +kernel
theorem dX12_nearest_61 : decode cX12_nearest 61 = .ok (.iconst 0, 1) := by decide +kernel
theorem dX12_nearest_62 : decode cX12_nearest 62 = .ok (.istore 7, 2) := by decide +kernel
theorem dX12_nearest_64 : decode cX12_nearest 64 = .ok (.iload 7, 2) := by decide +kernel
theorem dX12_nearest_66 : decode cX12_nearest 66 = .ok (.aload_n 0, 1) := by decide +kernel
theorem dX12_nearest_67 : decode cX12_nearest 67 = .ok (.getfield 22, 3) := by decide +kernel
theorem dX12_nearest_70 : decode cX12_nearest 70 = .ok (.iload_n 1, 1) := by decide +kernel
theorem dX12_nearest_71 : decode cX12_nearest 71 = .ok (.iaload, 1) := by decide +kernel
theorem dX12_nearest_72 : decode cX12_nearest 72 = .ok (.if_icmp .ge 85, 3) := by decide +kernel
theorem dX12_nearest_75 : decode cX12_nearest 75 = .ok (.aload_n 0, 1) := by decide +kernel
theorem dX12_nearest_76 : decode cX12_nearest 76 = .ok (.getfield 25, 3) := by decide +kernel
theorem dX12_nearest_79 : decode cX12_nearest 79 = .ok (.bipush 24, 2) := by decide +kernel
theorem dX12_nearest_81 : decode cX12_nearest 81 = .ok (.iload_n 1, 1) := by decide +kernel
theorem dX12_nearest_82 : decode cX12_nearest 82 = .ok (.imul, 1) := by decide +kernel
theorem dX12_nearest_83 : decode cX12_nearest 83 = .ok (.iload 7, 2) := by decide +kernel
theorem dX12_nearest_85 : decode cX12_nearest 85 = .ok (.iadd, 1) := by decide +kernel
theorem dX12_nearest_86 : decode cX12_nearest 86 = .ok (.iaload, 1) := by decide +kernel
theorem dX12_nearest_87 : decode cX12_nearest 87 = .ok (.istore 8, 2) := by decide +kernel
theorem dX12_nearest_89 : decode cX12_nearest 89 = .ok (.aload_n 0, 1) := by decide +kernel
theorem dX12_nearest_90 : decode cX12_nearest 90 = .ok (.iload 7, 2) := by decide +kernel
theorem dX12_nearest_92 : decode cX12_nearest 92 = .ok (.invokevirtual 84, 3) := by decide +kernel
theorem dX12_nearest_95 : decode cX12_nearest 95 = .ok (.ifCond .eq 28, 3) := by decide +kernel
theorem dX12_nearest_98 : decode cX12_nearest 98 = .ok (.aload_n 0, 1) := by decide +kernel
theorem dX12_nearest_99 : decode cX12_nearest 99 = .ok (.getfield 43, 3) := by decide +kernel
theorem dX12_nearest_102 : decode cX12_nearest 102 = .ok (.iload 7, 2) := by decide +kernel
theorem dX12_nearest_104 : decode cX12_nearest 104 = .ok (.iaload, 1) := by decide +kernel
theorem dX12_nearest_105 : decode cX12_nearest 105 = .ok (.ldc 176, 2) := by decide +kernel
theorem dX12_nearest_107 : decode cX12_nearest 107 = .ok (.if_icmp .ge 16, 3) := by decide +kernel
theorem dX12_nearest_110 : decode cX12_nearest 110 = .ok (.aload_n 0, 1) := by decide +kernel
theorem dX12_nearest_111 : decode cX12_nearest 111 = .ok (.getfield 43, 3) := by decide +kernel
theorem dX12_nearest_114 : decode cX12_nearest 114 = .ok (.iload 7, 2) := by decide +kernel
theorem dX12_nearest_116 : decode cX12_nearest 116 = .ok (.iaload, 1) := by decide +kernel
theorem dX12_nearest_117 : decode cX12_nearest 117 = .ok (.bipush 100, 2) := by decide +kernel
theorem dX12_nearest_119 : decode cX12_nearest 119 = .ok (.idiv, 1) := by decide +kernel
theorem dX12_nearest_120 : decode cX12_nearest 120 = .ok (.goto 6, 3) := by decide +kernel
theorem dX12_nearest_123 : decode cX12_nearest 123 = .ok (.sipush 999, 3) := by decide +kernel
theorem dX12_nearest_126 : decode cX12_nearest 126 = .ok (.istore 9, 2) := by decide +kernel
theorem dX12_nearest_128 : decode cX12_nearest 128 = .ok (.iload 6, 2) := by decide +kernel
theorem dX12_nearest_130 : decode cX12_nearest 130 = .ok (.iload 8, 2) := by decide +kernel
theorem dX12_nearest_132 : decode cX12_nearest 132 = .ok (.ldc 64, 2) := by decide +kernel
theorem dX12_nearest_134 : decode cX12_nearest 134 = .ok (.if_icmp .ne 7, 3) := by decide +kernel
theorem dX12_nearest_137 : decode cX12_nearest 137 = .ok (.iconst 0, 1) := by decide +kernel
theorem dX12_nearest_138 : decode cX12_nearest 138 = .ok (.goto 10, 3) := by decide +kernel
theorem dX12_nearest_141 : decode cX12_nearest 141 = .ok (.iload 8, 2) := by decide +kernel
theorem dX12_nearest_143 : decode cX12_nearest 143 = .ok (.iload 9, 2) := by decide +kernel
theorem dX12_nearest_145 : decode cX12_nearest 145 = .ok (.invokestatic 115, 3) := by decide +kernel
theorem dX12_nearest_148 : decode cX12_nearest 148 = .ok (.iadd, 1) := by decide +kernel
theorem dX12_nearest_149 : decode cX12_nearest 149 = .ok (.istore 6, 2) := by decide +kernel
theorem dX12_nearest_151 : decode cX12_nearest 151 = .ok (.iinc 7 1, 3) := by decide +kernel
theorem dX12_nearest_154 : decode cX12_nearest 154 = .ok (.goto (-90), 3) := by decide +kernel
theorem dX12_nearest_157 : decode cX12_nearest 157 = .ok (.iload_n 3, 1) := by decide +kernel
theorem dX12_nearest_158 : decode cX12_nearest 158 = .ok (.ifCond .lt 10, 3) := by decide +kernel
theorem dX12_nearest_161 : decode cX12_nearest 161 = .ok (.iload 6, 2) := by decide +kernel
theorem dX12_nearest_163 : decode cX12_nearest 163 = .ok (.iload 4, 2) := by decide +kernel
theorem dX12_nearest_165 : decode cX12_nearest 165 = .ok (.if_icmp .ge 10, 3) := by decide +kernel
theorem dX12_nearest_168 : decode cX12_nearest 168 = .ok (.iload 5, 2) := by decide +kernel
theorem dX12_nearest_170 : decode cX12_nearest 170 = .ok (.istore_n 3, 1) := by decide +kernel
theorem dX12_nearest_171 : decode cX12_nearest 171 = .ok (.iload 6, 2) := by decide +kernel
theorem dX12_nearest_173 : decode cX12_nearest 173 = .ok (.istore 4, 2) := by decide +kernel
theorem dX12_nearest_175 : decode cX12_nearest 175 = .ok (.iinc 5 1, 3) := by decide +kernel
theorem dX12_nearest_178 : decode cX12_nearest 178 = .ok (.goto (-137), 3) := by decide +kernel
theorem dX12_nearest_181 : decode cX12_nearest 181 = .ok (.iload_n 3, 1) := by decide +kernel
theorem dX12_nearest_182 : decode cX12_nearest 182 = .ok (.ifCond .ge 8, 3) := by decide +kernel
theorem dX12_nearest_185 : decode cX12_nearest 185 = .ok (.ldc 64, 2) := by decide +kernel
theorem dX12_nearest_187 : decode cX12_nearest 187 = .ok (.goto 13, 3) := by decide +kernel
theorem dX12_nearest_190 : decode cX12_nearest 190 = .ok (.iload_n 2, 1) := by decide +kernel
theorem dX12_nearest_191 : decode cX12_nearest 191 = .ok (.ifCond .ne 7, 3) := by decide +kernel
theorem dX12_nearest_194 : decode cX12_nearest 194 = .ok (.iload_n 3, 1) := by decide +kernel
theorem dX12_nearest_195 : decode cX12_nearest 195 = .ok (.goto 5, 3) := by decide +kernel
theorem dX12_nearest_198 : decode cX12_nearest 198 = .ok (.iload 4, 2) := by decide +kernel
theorem dX12_nearest_200 : decode cX12_nearest 200 = .ok (.ireturn, 1) := by decide +kernel
theorem dX12_copy_0 : decode cX12_copy 0 = .ok (.iload_n 1, 1) := by decide +kernel
theorem dX12_copy_1 : decode cX12_copy 1 = .ok (.invokestatic 312, 3) := by decide +kernel
theorem dX12_copy_4 : decode cX12_copy 4 = .ok (.ifCond .eq 10, 3) := by decide +kernel
theorem dX12_copy_7 : decode cX12_copy 7 = .ok (.iload_n 3, 1) := by decide +kernel
theorem dX12_copy_8 : decode cX12_copy 8 = .ok (.invokestatic 312, 3) := by decide +kernel
theorem dX12_copy_11 : decode cX12_copy 11 = .ok (.ifCond .ne 6, 3) := by decide +kernel
theorem dX12_copy_14 : decode cX12_copy 14 = .ok (.ldc 78, 2) := by decide +kernel
theorem dX12_copy_16 : decode cX12_copy 16 = .ok (.ireturn, 1) := by decide +kernel
theorem dX12_copy_17 : decode cX12_copy 17 = .ok (.aload_n 0, 1) := by decide +kernel
theorem dX12_copy_18 : decode cX12_copy 18 = .ok (.getfield 19, 3) := by decide +kernel
theorem dX12_copy_21 : decode cX12_copy 21 = .ok (.iload_n 1, 1) := by decide +kernel
theorem dX12_copy_22 : decode cX12_copy 22 = .ok (.iaload, 1) := by decide +kernel
theorem dX12_copy_23 : decode cX12_copy 23 = .ok (.ifCond .lt 12, 3) := by decide +kernel
theorem dX12_copy_26 : decode cX12_copy 26 = .ok (.aload_n 0, 1) := by decide +kernel
theorem dX12_copy_27 : decode cX12_copy 27 = .ok (.getfield 19, 3) := by decide +kernel
theorem dX12_copy_30 : decode cX12_copy 30 = .ok (.iload_n 3, 1) := by decide +kernel
theorem dX12_copy_31 : decode cX12_copy 31 = .ok (.iaload, 1) := by decide +kernel
theorem dX12_copy_32 : decode cX12_copy 32 = .ok (.ifCond .ge 7, 3) := by decide +kernel
theorem dX12_copy_35 : decode cX12_copy 35 = .ok (.ldc_w 318, 3) := by decide +kernel
theorem dX12_copy_38 : decode cX12_copy 38 = .ok (.ireturn, 1) := by decide +kernel
theorem dX12_copy_39 : decode cX12_copy 39 = .ok (.aload_n 0, 1) := by decide +kernel
theorem dX12_copy_40 : decode cX12_copy 40 = .ok (.getfield 19, 3) := by decide +kernel
theorem dX12_copy_43 : decode cX12_copy 43 = .ok (.iload_n 1, 1) := by decide +kernel
theorem dX12_copy_44 : decode cX12_copy 44 = .ok (.iaload, 1) := by decide +kernel
theorem dX12_copy_45 : decode cX12_copy 45 = .ok (.aload_n 0, 1) := by decide +kernel
theorem dX12_copy_46 : decode cX12_copy 46 = .ok (.getfield 19, 3) := by decide +kernel
theorem dX12_copy_49 : decode cX12_copy 49 = .ok (.iload_n 3, 1) := by decide +kernel
theorem dX12_copy_50 : decode cX12_copy 50 = .ok (.iaload, 1) := by decide +kernel
theorem dX12_copy_51 : decode cX12_copy 51 = .ok (.if_icmp .eq 6, 3) := by decide +kernel
theorem dX12_copy_54 : decode cX12_copy 54 = .ok (.ldc 155, 2) := by decide +kernel
theorem dX12_copy_56 : decode cX12_copy 56 = .ok (.ireturn, 1) := by decide +kernel
theorem dX12_copy_57 : decode cX12_copy 57 = .ok (.iload_n 2, 1) := by decide +kernel
theorem dX12_copy_58 : decode cX12_copy 58 = .ok (.ifCond .lt 48, 3) := by decide +kernel
theorem dX12_copy_61 : decode cX12_copy 61 = .ok (.iload 4, 2) := by decide +kernel
theorem dX12_copy_63 : decode cX12_copy 63 = .ok (.ifCond .lt 43, 3) := by decide +kernel
theorem dX12_copy_66 : decode cX12_copy 66 = .ok (.iload 5, 2) := by decide +kernel
theorem dX12_copy_68 : decode cX12_copy 68 = .ok (.ifCond .lt 38, 3) := by decide +kernel
theorem dX12_copy_71 : decode cX12_copy 71 = .ok (.iload_n 2, 1) := by decide +kernel
theorem dX12_copy_72 : decode cX12_copy 72 = .ok (.i2l, 1) := by decide +kernel
theorem dX12_copy_73 : decode cX12_copy 73 = .ok (.iload 5, 2) := by decide +kernel
theorem dX12_copy_75 : decode cX12_copy 75 = .ok (.i2l, 1) := by decide +kernel
theorem dX12_copy_76 : decode cX12_copy 76 = .ok (.ladd, 1) := by decide +kernel
theorem dX12_copy_77 : decode cX12_copy 77 = .ok (.aload_n 0, 1) := by decide +kernel
theorem dX12_copy_78 : decode cX12_copy 78 = .ok (.getfield 22, 3) := by decide +kernel
theorem dX12_copy_81 : decode cX12_copy 81 = .ok (.iload_n 1, 1) := by decide +kernel
theorem dX12_copy_82 : decode cX12_copy 82 = .ok (.iaload, 1) := by decide +kernel
theorem dX12_copy_83 : decode cX12_copy 83 = .ok (.i2l, 1) := by decide +kernel
theorem dX12_copy_84 : decode cX12_copy 84 = .ok (.lcmp, 1) := by decide +kernel
theorem dX12_copy_85 : decode cX12_copy 85 = .ok (.ifCond .gt 21, 3) := by decide +kernel
theorem dX12_copy_88 : decode cX12_copy 88 = .ok (.iload 4, 2) := by decide +kernel
theorem dX12_copy_90 : decode cX12_copy 90 = .ok (.i2l, 1) := by decide +kernel
theorem dX12_copy_91 : decode cX12_copy 91 = .ok (.iload 5, 2) := by decide +kernel
theorem dX12_copy_93 : decode cX12_copy 93 = .ok (.i2l, 1) := by decide +kernel
theorem dX12_copy_94 : decode cX12_copy 94 = .ok (.ladd, 1) := by decide +kernel
theorem dX12_copy_95 : decode cX12_copy 95 = .ok (.aload_n 0, 1) := by decide +kernel
theorem dX12_copy_96 : decode cX12_copy 96 = .ok (.getfield 22, 3) := by decide +kernel
theorem dX12_copy_99 : decode cX12_copy 99 = .ok (.iload_n 3, 1) := by decide +kernel
theorem dX12_copy_100 : decode cX12_copy 100 = .ok (.iaload, 1) := by decide +kernel
theorem dX12_copy_101 : decode cX12_copy 101 = .ok (.i2l, 1) := by decide +kernel
theorem dX12_copy_102 : decode cX12_copy 102 = .ok (.lcmp, 1) := by decide +kernel
theorem dX12_copy_103 : decode cX12_copy 103 = .ok (.ifCond .le 7, 3) := by decide +kernel
theorem dX12_copy_106 : decode cX12_copy 106 = .ok (.ldc_w 319, 3) := by decide +kernel
theorem dX12_copy_109 : decode cX12_copy 109 = .ok (.ireturn, 1) := by decide +kernel
theorem dX12_copy_110 : decode cX12_copy 110 = .ok (.iconst 0, 1) := by decide +kernel
theorem dX12_copy_111 : decode cX12_copy 111 = .ok (.istore 6, 2) := by decide +kernel
theorem dX12_copy_113 : decode cX12_copy 113 = .ok (.iload 6, 2) := by decide +kernel
theorem dX12_copy_115 : decode cX12_copy 115 = .ok (.iload 5, 2) := by decide +kernel
theorem dX12_copy_117 : decode cX12_copy 117 = .ok (.if_icmp .ge 30, 3) := by decide +kernel
theorem dX12_copy_120 : decode cX12_copy 120 = .ok (.aload_n 0, 1) := by decide +kernel
theorem dX12_copy_121 : decode cX12_copy 121 = .ok (.getfield 55, 3) := by decide +kernel
theorem dX12_copy_124 : decode cX12_copy 124 = .ok (.iload 6, 2) := by decide +kernel
theorem dX12_copy_126 : decode cX12_copy 126 = .ok (.aload_n 0, 1) := by decide +kernel
theorem dX12_copy_127 : decode cX12_copy 127 = .ok (.getfield 25, 3) := by decide +kernel
theorem dX12_copy_130 : decode cX12_copy 130 = .ok (.bipush 24, 2) := by decide +kernel
theorem dX12_copy_132 : decode cX12_copy 132 = .ok (.iload_n 1, 1) := by decide +kernel
theorem dX12_copy_133 : decode cX12_copy 133 = .ok (.imul, 1) := by decide +kernel
theorem dX12_copy_134 : decode cX12_copy 134 = .ok (.iload_n 2, 1) := by decide +kernel
theorem dX12_copy_135 : decode cX12_copy 135 = .ok (.iadd, 1) := by decide +kernel
theorem dX12_copy_136 : decode cX12_copy 136 = .ok (.iload 6, 2) := by decide +kernel
theorem dX12_copy_138 : decode cX12_copy 138 = .ok (.iadd, 1) := by decide +kernel
theorem dX12_copy_139 : decode cX12_copy 139 = .ok (.iaload, 1) := by decide +kernel
theorem dX12_copy_140 : decode cX12_copy 140 = .ok (.iastore, 1) := by decide +kernel
theorem dX12_copy_141 : decode cX12_copy 141 = .ok (.iinc 6 1, 3) := by decide +kernel
theorem dX12_copy_144 : decode cX12_copy 144 = .ok (.goto (-31), 3) := by decide +kernel
theorem dX12_copy_147 : decode cX12_copy 147 = .ok (.iconst 0, 1) := by decide +kernel
theorem dX12_copy_148 : decode cX12_copy 148 = .ok (.istore 6, 2) := by decide +kernel
theorem dX12_copy_150 : decode cX12_copy 150 = .ok (.iload 6, 2) := by decide +kernel
theorem dX12_copy_152 : decode cX12_copy 152 = .ok (.iload 5, 2) := by decide +kernel
theorem dX12_copy_154 : decode cX12_copy 154 = .ok (.if_icmp .ge 31, 3) := by decide +kernel
theorem dX12_copy_157 : decode cX12_copy 157 = .ok (.aload_n 0, 1) := by decide +kernel
theorem dX12_copy_158 : decode cX12_copy 158 = .ok (.getfield 25, 3) := by decide +kernel
theorem dX12_copy_161 : decode cX12_copy 161 = .ok (.bipush 24, 2) := by decide +kernel
theorem dX12_copy_163 : decode cX12_copy 163 = .ok (.iload_n 3, 1) := by decide +kernel
theorem dX12_copy_164 : decode cX12_copy 164 = .ok (.imul, 1) := by decide +kernel
theorem dX12_copy_165 : decode cX12_copy 165 = .ok (.iload 4, 2) := by decide +kernel
theorem dX12_copy_167 : decode cX12_copy 167 = .ok (.iadd, 1) := by decide +kernel
theorem dX12_copy_168 : decode cX12_copy 168 = .ok (.iload 6, 2) := by decide +kernel
theorem dX12_copy_170 : decode cX12_copy 170 = .ok (.iadd, 1) := by decide +kernel
theorem dX12_copy_171 : decode cX12_copy 171 = .ok (.aload_n 0, 1) := by decide +kernel
theorem dX12_copy_172 : decode cX12_copy 172 = .ok (.getfield 55, 3) := by decide +kernel
theorem dX12_copy_175 : decode cX12_copy 175 = .ok (.iload 6, 2) := by decide +kernel
theorem dX12_copy_177 : decode cX12_copy 177 = .ok (.iaload, 1) := by decide +kernel
theorem dX12_copy_178 : decode cX12_copy 178 = .ok (.iastore, 1) := by decide +kernel
theorem dX12_copy_179 : decode cX12_copy 179 = .ok (.iinc 6 1, 3) := by decide +kernel
theorem dX12_copy_182 : decode cX12_copy 182 = .ok (.goto (-32), 3) := by decide +kernel
theorem dX12_copy_185 : decode cX12_copy 185 = .ok (.iload 5, 2) := by decide +kernel
theorem dX12_copy_187 : decode cX12_copy 187 = .ok (.ireturn, 1) := by decide +kernel
theorem dX12_isSlot_0 : decode cX12_isSlot 0 = .ok (.iload_n 0, 1) := by decide +kernel
theorem dX12_isSlot_1 : decode cX12_isSlot 1 = .ok (.i2l, 1) := by decide +kernel
theorem dX12_isSlot_2 : decode cX12_isSlot 2 = .ok (.lconst 0, 1) := by decide +kernel
theorem dX12_isSlot_3 : decode cX12_isSlot 3 = .ok (.ldc2_w 324, 3) := by decide +kernel
theorem dX12_isSlot_6 : decode cX12_isSlot 6 = .ok (.invokestatic 65, 3) := by decide +kernel
theorem dX12_isSlot_9 : decode cX12_isSlot 9 = .ok (.ireturn, 1) := by decide +kernel
theorem dX12_lay_0 : decode cX12_lay 0 = .ok (.iload_n 2, 1) := by decide +kernel
theorem dX12_lay_1 : decode cX12_lay 1 = .ok (.ifCond .eq 33, 3) := by decide +kernel
theorem dX12_lay_4 : decode cX12_lay 4 = .ok (.iload_n 2, 1) := by decide +kernel
theorem dX12_lay_5 : decode cX12_lay 5 = .ok (.iconst 3, 1) := by decide +kernel
theorem dX12_lay_6 : decode cX12_lay 6 = .ok (.if_icmp .eq 28, 3) := by decide +kernel
theorem dX12_lay_9 : decode cX12_lay 9 = .ok (.iload_n 2, 1) := by decide +kernel
theorem dX12_lay_10 : decode cX12_lay 10 = .ok (.iconst 1, 1) := by decide +kernel
theorem dX12_lay_11 : decode cX12_lay 11 = .ok (.if_icmp .ne 11, 3) := by decide +kernel
theorem dX12_lay_14 : decode cX12_lay 14 = .ok (.aload_n 0, 1) := by decide +kernel
theorem dX12_lay_15 : decode cX12_lay 15 = .ok (.iload_n 3, 1) := by decide +kernel
theorem dX12_lay_16 : decode cX12_lay 16 = .ok (.invokevirtual 137, 3) := by decide +kernel
theorem dX12_lay_19 : decode cX12_lay 19 = .ok (.ifCond .ne 15, 3) := by decide +kernel
theorem dX12_lay_22 : decode cX12_lay 22 = .ok (.iload_n 2, 1) := by decide +kernel
theorem dX12_lay_23 : decode cX12_lay 23 = .ok (.iconst 2, 1) := by decide +kernel
theorem dX12_lay_24 : decode cX12_lay 24 = .ok (.if_icmp .ne 14, 3) := by decide +kernel
theorem dX12_lay_27 : decode cX12_lay 27 = .ok (.iload_n 3, 1) := by decide +kernel
theorem dX12_lay_28 : decode cX12_lay 28 = .ok (.invokestatic 312, 3) := by decide +kernel
theorem dX12_lay_31 : decode cX12_lay 31 = .ok (.ifCond .eq 7, 3) := by decide +kernel
theorem dX12_lay_34 : decode cX12_lay 34 = .ok (.iconst 1, 1) := by decide +kernel
theorem dX12_lay_35 : decode cX12_lay 35 = .ok (.goto 4, 3) := by decide +kernel
theorem dX12_lay_38 : decode cX12_lay 38 = .ok (.iconst 0, 1) := by decide +kernel
theorem dX12_lay_39 : decode cX12_lay 39 = .ok (.istore 4, 2) := by decide +kernel
theorem dX12_lay_41 : decode cX12_lay 41 = .ok (.iload_n 1, 1) := by decide +kernel
theorem dX12_lay_42 : decode cX12_lay 42 = .ok (.invokestatic 326, 3) := by decide +kernel
theorem dX12_lay_45 : decode cX12_lay 45 = .ok (.ifCond .eq 8, 3) := by decide +kernel
theorem dX12_lay_48 : decode cX12_lay 48 = .ok (.iload 4, 2) := by decide +kernel
theorem dX12_lay_50 : decode cX12_lay 50 = .ok (.ifCond .ne 6, 3) := by decide +kernel
theorem dX12_lay_53 : decode cX12_lay 53 = .ok (.ldc 78, 2) := by decide +kernel
theorem dX12_lay_55 : decode cX12_lay 55 = .ok (.ireturn, 1) := by decide +kernel
theorem dX12_lay_56 : decode cX12_lay 56 = .ok (.iload_n 2, 1) := by decide +kernel
theorem dX12_lay_57 : decode cX12_lay 57 = .ok (.iconst 2, 1) := by decide +kernel
theorem dX12_lay_58 : decode cX12_lay 58 = .ok (.if_icmp .ne 16, 3) := by decide +kernel
theorem dX12_lay_61 : decode cX12_lay 61 = .ok (.aload_n 0, 1) := by decide +kernel
theorem dX12_lay_62 : decode cX12_lay 62 = .ok (.getfield 19, 3) := by decide +kernel
theorem dX12_lay_65 : decode cX12_lay 65 = .ok (.iload_n 3, 1) := by decide +kernel
theorem dX12_lay_66 : decode cX12_lay 66 = .ok (.iaload, 1) := by decide +kernel
theorem dX12_lay_67 : decode cX12_lay 67 = .ok (.ifCond .ge 7, 3) := by decide +kernel
theorem dX12_lay_70 : decode cX12_lay 70 = .ok (.ldc_w 318, 3) := by decide +kernel
theorem dX12_lay_73 : decode cX12_lay 73 = .ok (.ireturn, 1) := by decide +kernel
theorem dX12_lay_74 : decode cX12_lay 74 = .ok (.aload_n 0, 1) := by decide +kernel
theorem dX12_lay_75 : decode cX12_lay 75 = .ok (.getfield 28, 3) := by decide +kernel
theorem dX12_lay_78 : decode cX12_lay 78 = .ok (.iload_n 1, 1) := by decide +kernel
theorem dX12_lay_79 : decode cX12_lay 79 = .ok (.iaload, 1) := by decide +kernel
theorem dX12_lay_80 : decode cX12_lay 80 = .ok (.istore 5, 2) := by decide +kernel
theorem dX12_lay_82 : decode cX12_lay 82 = .ok (.aload_n 0, 1) := by decide +kernel
theorem dX12_lay_83 : decode cX12_lay 83 = .ok (.getfield 28, 3) := by decide +kernel
theorem dX12_lay_86 : decode cX12_lay 86 = .ok (.iload_n 1, 1) := by decide +kernel
theorem dX12_lay_87 : decode cX12_lay 87 = .ok (.iload_n 2, 1) := by decide +kernel
theorem dX12_lay_88 : decode cX12_lay 88 = .ok (.iastore, 1) := by decide +kernel
theorem dX12_lay_89 : decode cX12_lay 89 = .ok (.aload_n 0, 1) := by decide +kernel
theorem dX12_lay_90 : decode cX12_lay 90 = .ok (.getfield 31, 3) := by decide +kernel
theorem dX12_lay_93 : decode cX12_lay 93 = .ok (.iload_n 1, 1) := by decide +kernel
theorem dX12_lay_94 : decode cX12_lay 94 = .ok (.iload_n 2, 1) := by decide +kernel
theorem dX12_lay_95 : decode cX12_lay 95 = .ok (.iconst 1, 1) := by decide +kernel
theorem dX12_lay_96 : decode cX12_lay 96 = .ok (.if_icmp .ne 12, 3) := by decide +kernel
theorem dX12_lay_99 : decode cX12_lay 99 = .ok (.aload_n 0, 1) := by decide +kernel
theorem dX12_lay_100 : decode cX12_lay 100 = .ok (.iload_n 3, 1) := by decide +kernel
theorem dX12_lay_101 : decode cX12_lay 101 = .ok (.iconst 0, 1) := by decide +kernel
theorem dX12_lay_102 : decode cX12_lay 102 = .ok (.invokevirtual 90, 3) := by decide +kernel
theorem dX12_lay_105 : decode cX12_lay 105 = .ok (.goto 4, 3) := by decide +kernel
theorem dX12_lay_108 : decode cX12_lay 108 = .ok (.iload_n 3, 1) := by decide +kernel
theorem dX12_lay_109 : decode cX12_lay 109 = .ok (.iastore, 1) := by decide +kernel
theorem dX12_lay_110 : decode cX12_lay 110 = .ok (.aload_n 0, 1) := by decide +kernel
theorem dX12_lay_111 : decode cX12_lay 111 = .ok (.getfield 34, 3) := by decide +kernel
theorem dX12_lay_114 : decode cX12_lay 114 = .ok (.iload_n 1, 1) := by decide +kernel
theorem dX12_lay_115 : decode cX12_lay 115 = .ok (.iload_n 2, 1) := by decide +kernel
theorem dX12_lay_116 : decode cX12_lay 116 = .ok (.iconst 1, 1) := by decide +kernel
theorem dX12_lay_117 : decode cX12_lay 117 = .ok (.if_icmp .ne 11, 3) := by decide +kernel
theorem dX12_lay_120 : decode cX12_lay 120 = .ok (.aload_n 0, 1) := by decide +kernel
theorem dX12_lay_121 : decode cX12_lay 121 = .ok (.iload_n 3, 1) := by decide +kernel
theorem dX12_lay_122 : decode cX12_lay 122 = .ok (.invokevirtual 146, 3) := by decide +kernel
theorem dX12_lay_125 : decode cX12_lay 125 = .ok (.goto 4, 3) := by decide +kernel
theorem dX12_lay_128 : decode cX12_lay 128 = .ok (.iconst 0, 1) := by decide +kernel
theorem dX12_lay_129 : decode cX12_lay 129 = .ok (.iastore, 1) := by decide +kernel
theorem dX12_lay_130 : decode cX12_lay 130 = .ok (.iload_n 2, 1) := by decide +kernel
theorem dX12_lay_131 : decode cX12_lay 131 = .ok (.iconst 2, 1) := by decide +kernel
theorem dX12_lay_132 : decode cX12_lay 132 = .ok (.if_icmp .ne 55, 3) := by decide +kernel
theorem dX12_lay_135 : decode cX12_lay 135 = .ok (.aload_n 0, 1) := by decide +kernel
theorem dX12_lay_136 : decode cX12_lay 136 = .ok (.getfield 37, 3) := by decide +kernel
theorem dX12_lay_139 : decode cX12_lay 139 = .ok (.iload_n 1, 1) := by decide +kernel
theorem dX12_lay_140 : decode cX12_lay 140 = .ok (.aload_n 0, 1) := by decide +kernel
theorem dX12_lay_141 : decode cX12_lay 141 = .ok (.getfield 22, 3) := by decide +kernel
theorem dX12_lay_144 : decode cX12_lay 144 = .ok (.iload_n 3, 1) := by decide +kernel
theorem dX12_lay_145 : decode cX12_lay 145 = .ok (.iaload, 1) := by decide +kernel
theorem dX12_lay_146 : decode cX12_lay 146 = .ok (.iastore, 1) := by decide +kernel
theorem dX12_lay_147 : decode cX12_lay 147 = .ok (.iconst 0, 1) := by decide +kernel
theorem dX12_lay_148 : decode cX12_lay 148 = .ok (.istore 6, 2) := by decide +kernel
theorem dX12_lay_150 : decode cX12_lay 150 = .ok (.iload 6, 2) := by decide +kernel
theorem dX12_lay_152 : decode cX12_lay 152 = .ok (.bipush 24, 2) := by decide +kernel
theorem dX12_lay_154 : decode cX12_lay 154 = .ok (.if_icmp .ge 33, 3) := by decide +kernel
theorem dX12_lay_157 : decode cX12_lay 157 = .ok (.aload_n 0, 1) := by decide +kernel
theorem dX12_lay_158 : decode cX12_lay 158 = .ok (.getfield 40, 3) := by decide +kernel
theorem dX12_lay_161 : decode cX12_lay 161 = .ok (.bipush 24, 2) := by decide +kernel
theorem dX12_lay_163 : decode cX12_lay 163 = .ok (.iload_n 1, 1) := by decide +kernel
theorem dX12_lay_164 : decode cX12_lay 164 = .ok (.imul, 1) := by decide +kernel
theorem dX12_lay_165 : decode cX12_lay 165 = .ok (.iload 6, 2) := by decide +kernel
theorem dX12_lay_167 : decode cX12_lay 167 = .ok (.iadd, 1) := by decide +kernel
theorem dX12_lay_168 : decode cX12_lay 168 = .ok (.aload_n 0, 1) := by decide +kernel
theorem dX12_lay_169 : decode cX12_lay 169 = .ok (.getfield 25, 3) := by decide +kernel
theorem dX12_lay_172 : decode cX12_lay 172 = .ok (.bipush 24, 2) := by decide +kernel
theorem dX12_lay_174 : decode cX12_lay 174 = .ok (.iload_n 3, 1) := by decide +kernel
theorem dX12_lay_175 : decode cX12_lay 175 = .ok (.imul, 1) := by decide +kernel
theorem dX12_lay_176 : decode cX12_lay 176 = .ok (.iload 6, 2) := by decide +kernel
theorem dX12_lay_178 : decode cX12_lay 178 = .ok (.iadd, 1) := by decide +kernel
theorem dX12_lay_179 : decode cX12_lay 179 = .ok (.iaload, 1) := by decide +kernel
theorem dX12_lay_180 : decode cX12_lay 180 = .ok (.iastore, 1) := by decide +kernel
theorem dX12_lay_181 : decode cX12_lay 181 = .ok (.iinc 6 1, 3) := by decide +kernel
theorem dX12_lay_184 : decode cX12_lay 184 = .ok (.goto (-34), 3) := by decide +kernel
theorem dX12_lay_187 : decode cX12_lay 187 = .ok (.iload 5, 2) := by decide +kernel
theorem dX12_lay_189 : decode cX12_lay 189 = .ok (.ireturn, 1) := by decide +kernel
theorem dX12_ask_0 : decode cX12_ask 0 = .ok (.iload_n 1, 1) := by decide +kernel
theorem dX12_ask_1 : decode cX12_ask 1 = .ok (.invokestatic 326, 3) := by decide +kernel
theorem dX12_ask_4 : decode cX12_ask 4 = .ok (.ifCond .eq 15, 3) := by decide +kernel
theorem dX12_ask_7 : decode cX12_ask 7 = .ok (.iload_n 2, 1) := by decide +kernel
theorem dX12_ask_8 : decode cX12_ask 8 = .ok (.i2l, 1) := by decide +kernel
theorem dX12_ask_9 : decode cX12_ask 9 = .ok (.lconst 0, 1) := by decide +kernel
theorem dX12_ask_10 : decode cX12_ask 10 = .ok (.ldc2_w 106, 3) := by decide +kernel
theorem dX12_ask_13 : decode cX12_ask 13 = .ok (.invokestatic 65, 3) := by decide +kernel
theorem dX12_ask_16 : decode cX12_ask 16 = .ok (.ifCond .ne 6, 3) := by decide +kernel
theorem dX12_ask_19 : decode cX12_ask 19 = .ok (.ldc 78, 2) := by decide +kernel
theorem dX12_ask_21 : decode cX12_ask 21 = .ok (.ireturn, 1) := by decide +kernel
theorem dX12_ask_22 : decode cX12_ask 22 = .ok (.aload_n 0, 1) := by decide +kernel
theorem dX12_ask_23 : decode cX12_ask 23 = .ok (.getfield 28, 3) := by decide +kernel
theorem dX12_ask_26 : decode cX12_ask 26 = .ok (.iload_n 1, 1) := by decide +kernel
theorem dX12_ask_27 : decode cX12_ask 27 = .ok (.iaload, 1) := by decide +kernel
theorem dX12_ask_28 : decode cX12_ask 28 = .ok (.ifCond .ne 7, 3) := by decide +kernel
theorem dX12_ask_31 : decode cX12_ask 31 = .ok (.ldc_w 318, 3) := by decide +kernel
theorem dX12_ask_34 : decode cX12_ask 34 = .ok (.ireturn, 1) := by decide +kernel
theorem dX12_ask_35 : decode cX12_ask 35 = .ok (.aload_n 0, 1) := by decide +kernel
theorem dX12_ask_36 : decode cX12_ask 36 = .ok (.getfield 28, 3) := by decide +kernel
theorem dX12_ask_39 : decode cX12_ask 39 = .ok (.iload_n 1, 1) := by decide +kernel
theorem dX12_ask_40 : decode cX12_ask 40 = .ok (.iaload, 1) := by decide +kernel
theorem dX12_ask_41 : decode cX12_ask 41 = .ok (.iconst 1, 1) := by decide +kernel
theorem dX12_ask_42 : decode cX12_ask 42 = .ok (.if_icmp .ne 25, 3) := by decide +kernel
theorem dX12_ask_45 : decode cX12_ask 45 = .ok (.aload_n 0, 1) := by decide +kernel
theorem dX12_ask_46 : decode cX12_ask 46 = .ok (.getfield 31, 3) := by decide +kernel
theorem dX12_ask_49 : decode cX12_ask 49 = .ok (.iload_n 1, 1) := by decide +kernel
theorem dX12_ask_50 : decode cX12_ask 50 = .ok (.iaload, 1) := by decide +kernel
theorem dX12_ask_51 : decode cX12_ask 51 = .ok (.iload_n 2, 1) := by decide +kernel
theorem dX12_ask_52 : decode cX12_ask 52 = .ok (.invokestatic 152, 3) := by decide +kernel
theorem dX12_ask_55 : decode cX12_ask 55 = .ok (.ifCond .eq 12, 3) := by decide +kernel
theorem dX12_ask_58 : decode cX12_ask 58 = .ok (.aload_n 0, 1) := by decide +kernel
theorem dX12_ask_59 : decode cX12_ask 59 = .ok (.getfield 34, 3) := by decide +kernel
theorem dX12_ask_62 : decode cX12_ask 62 = .ok (.iload_n 1, 1) := by decide +kernel
theorem dX12_ask_63 : decode cX12_ask 63 = .ok (.iaload, 1) := by decide +kernel
theorem dX12_ask_64 : decode cX12_ask 64 = .ok (.goto 5, 3) := by decide +kernel
theorem dX12_ask_67 : decode cX12_ask 67 = .ok (.ldc 155, 2) := by decide +kernel
theorem dX12_ask_69 : decode cX12_ask 69 = .ok (.ireturn, 1) := by decide +kernel
theorem dX12_item_0 : decode cX12_item 0 = .ok (.iload_n 1, 1) := by decide +kernel
theorem dX12_item_1 : decode cX12_item 1 = .ok (.invokestatic 326, 3) := by decide +kernel
theorem dX12_item_4 : decode cX12_item 4 = .ok (.ifCond .ne 6, 3) := by decide +kernel
theorem dX12_item_7 : decode cX12_item 7 = .ok (.ldc 78, 2) := by decide +kernel
theorem dX12_item_9 : decode cX12_item 9 = .ok (.ireturn, 1) := by decide +kernel
theorem dX12_item_10 : decode cX12_item 10 = .ok (.aload_n 0, 1) := by decide +kernel
theorem dX12_item_11 : decode cX12_item 11 = .ok (.getfield 28, 3) := by decide +kernel
theorem dX12_item_14 : decode cX12_item 14 = .ok (.iload_n 1, 1) := by decide +kernel
theorem dX12_item_15 : decode cX12_item 15 = .ok (.iaload, 1) := by decide +kernel
theorem dX12_item_16 : decode cX12_item 16 = .ok (.iconst 2, 1) := by decide +kernel
theorem dX12_item_17 : decode cX12_item 17 = .ok (.if_icmp .eq 21, 3) := by decide +kernel
theorem dX12_item_20 : decode cX12_item 20 = .ok (.aload_n 0, 1) := by decide +kernel
theorem dX12_item_21 : decode cX12_item 21 = .ok (.getfield 28, 3) := by decide +kernel
theorem dX12_item_24 : decode cX12_item 24 = .ok (.iload_n 1, 1) := by decide +kernel
theorem dX12_item_25 : decode cX12_item 25 = .ok (.iaload, 1) := by decide +kernel
theorem dX12_item_26 : decode cX12_item 26 = .ok (.ifCond .ne 9, 3) := by decide +kernel
theorem dX12_item_29 : decode cX12_item 29 = .ok (.ldc_w 318, 3) := by decide +kernel
theorem dX12_item_32 : decode cX12_item 32 = .ok (.goto 5, 3) := by decide +kernel
theorem dX12_item_35 : decode cX12_item 35 = .ok (.ldc 155, 2) := by decide +kernel
theorem dX12_item_37 : decode cX12_item 37 = .ok (.ireturn, 1) := by decide +kernel
theorem dX12_item_38 : decode cX12_item 38 = .ok (.iload_n 2, 1) := by decide +kernel
theorem dX12_item_39 : decode cX12_item 39 = .ok (.i2l, 1) := by decide +kernel
theorem dX12_item_40 : decode cX12_item 40 = .ok (.lconst 0, 1) := by decide +kernel
theorem dX12_item_41 : decode cX12_item 41 = .ok (.aload_n 0, 1) := by decide +kernel
theorem dX12_item_42 : decode cX12_item 42 = .ok (.getfield 37, 3) := by decide +kernel
theorem dX12_item_45 : decode cX12_item 45 = .ok (.iload_n 1, 1) := by decide +kernel
theorem dX12_item_46 : decode cX12_item 46 = .ok (.iaload, 1) := by decide +kernel
theorem dX12_item_47 : decode cX12_item 47 = .ok (.iconst 1, 1) := by decide +kernel
theorem dX12_item_48 : decode cX12_item 48 = .ok (.isub, 1) := by decide +kernel
theorem dX12_item_49 : decode cX12_item 49 = .ok (.i2l, 1) := by decide +kernel
theorem dX12_item_50 : decode cX12_item 50 = .ok (.invokestatic 65, 3) := by decide +kernel
theorem dX12_item_53 : decode cX12_item 53 = .ok (.ifCond .ne 7, 3) := by decide +kernel
theorem dX12_item_56 : decode cX12_item 56 = .ok (.ldc_w 319, 3) := by decide +kernel
theorem dX12_item_59 : decode cX12_item 59 = .ok (.ireturn, 1) := by decide +kernel
theorem dX12_item_60 : decode cX12_item 60 = .ok (.aload_n 0, 1) := by decide +kernel
theorem dX12_item_61 : decode cX12_item 61 = .ok (.getfield 40, 3) := by decide +kernel
theorem dX12_item_64 : decode cX12_item 64 = .ok (.bipush 24, 2) := by decide +kernel
theorem dX12_item_66 : decode cX12_item 66 = .ok (.iload_n 1, 1) := by decide +kernel
theorem dX12_item_67 : decode cX12_item 67 = .ok (.imul, 1) := by decide +kernel
theorem dX12_item_68 : decode cX12_item 68 = .ok (.iload_n 2, 1) := by decide +kernel
theorem dX12_item_69 : decode cX12_item 69 = .ok (.iadd, 1) := by decide +kernel
theorem dX12_item_70 : decode cX12_item 70 = .ok (.iaload, 1) := by decide +kernel
theorem dX12_item_71 : decode cX12_item 71 = .ok (.istore_n 3, 1) := by decide +kernel
theorem dX12_item_72 : decode cX12_item 72 = .ok (.iload_n 3, 1) := by decide +kernel
theorem dX12_item_73 : decode cX12_item 73 = .ok (.ldc 64, 2) := by decide +kernel
theorem dX12_item_75 : decode cX12_item 75 = .ok (.if_icmp .ne 8, 3) := by decide +kernel
theorem dX12_item_78 : decode cX12_item 78 = .ok (.ldc 155, 2) := by decide +kernel
theorem dX12_item_80 : decode cX12_item 80 = .ok (.goto 4, 3) := by decide +kernel
theorem dX12_item_83 : decode cX12_item 83 = .ok (.iload_n 3, 1) := by decide +kernel
theorem dX12_item_84 : decode cX12_item 84 = .ok (.ireturn, 1) := by decide +kernel
theorem dX12_rest_0 : decode cX12_rest 0 = .ok (.iload_n 1, 1) := by decide +kernel
theorem dX12_rest_1 : decode cX12_rest 1 = .ok (.invokestatic 326, 3) := by decide +kernel
theorem dX12_rest_4 : decode cX12_rest 4 = .ok (.ifCond .ne 6, 3) := by decide +kernel
theorem dX12_rest_7 : decode cX12_rest 7 = .ok (.ldc 78, 2) := by decide +kernel
theorem dX12_rest_9 : decode cX12_rest 9 = .ok (.ireturn, 1) := by decide +kernel
theorem dX12_rest_10 : decode cX12_rest 10 = .ok (.aload_n 0, 1) := by decide +kernel
theorem dX12_rest_11 : decode cX12_rest 11 = .ok (.getfield 28, 3) := by decide +kernel
theorem dX12_rest_14 : decode cX12_rest 14 = .ok (.iload_n 1, 1) := by decide +kernel
theorem dX12_rest_15 : decode cX12_rest 15 = .ok (.iaload, 1) := by decide +kernel
theorem dX12_rest_16 : decode cX12_rest 16 = .ok (.iconst 3, 1) := by decide +kernel
theorem dX12_rest_17 : decode cX12_rest 17 = .ok (.if_icmp .eq 21, 3) := by decide +kernel
theorem dX12_rest_20 : decode cX12_rest 20 = .ok (.aload_n 0, 1) := by decide +kernel
theorem dX12_rest_21 : decode cX12_rest 21 = .ok (.getfield 28, 3) := by decide +kernel
theorem dX12_rest_24 : decode cX12_rest 24 = .ok (.iload_n 1, 1) := by decide +kernel
theorem dX12_rest_25 : decode cX12_rest 25 = .ok (.iaload, 1) := by decide +kernel
theorem dX12_rest_26 : decode cX12_rest 26 = .ok (.ifCond .ne 9, 3) := by decide +kernel
theorem dX12_rest_29 : decode cX12_rest 29 = .ok (.ldc_w 318, 3) := by decide +kernel
theorem dX12_rest_32 : decode cX12_rest 32 = .ok (.goto 5, 3) := by decide +kernel
theorem dX12_rest_35 : decode cX12_rest 35 = .ok (.ldc 155, 2) := by decide +kernel
theorem dX12_rest_37 : decode cX12_rest 37 = .ok (.ireturn, 1) := by decide +kernel
theorem dX12_rest_38 : decode cX12_rest 38 = .ok (.iload_n 2, 1) := by decide +kernel
theorem dX12_rest_39 : decode cX12_rest 39 = .ok (.ifCond .ne 8, 3) := by decide +kernel
theorem dX12_rest_42 : decode cX12_rest 42 = .ok (.ldc 168, 2) := by decide +kernel
theorem dX12_rest_44 : decode cX12_rest 44 = .ok (.goto 11, 3) := by decide +kernel
theorem dX12_rest_47 : decode cX12_rest 47 = .ok (.aload_n 0, 1) := by decide +kernel
theorem dX12_rest_48 : decode cX12_rest 48 = .ok (.getfield 31, 3) := by decide +kernel
theorem dX12_rest_51 : decode cX12_rest 51 = .ok (.iload_n 1, 1) := by decide +kernel
theorem dX12_rest_52 : decode cX12_rest 52 = .ok (.iaload, 1) := by decide +kernel
theorem dX12_rest_53 : decode cX12_rest 53 = .ok (.iload_n 2, 1) := by decide +kernel
theorem dX12_rest_54 : decode cX12_rest 54 = .ok (.irem, 1) := by decide +kernel
theorem dX12_rest_55 : decode cX12_rest 55 = .ok (.ireturn, 1) := by decide +kernel
theorem dX12_tell_0 : decode cX12_tell 0 = .ok (.aload_n 0, 1) := by decide +kernel
theorem dX12_tell_1 : decode cX12_tell 1 = .ok (.getfield 329, 3) := by decide +kernel
theorem dX12_tell_4 : decode cX12_tell 4 = .ok (.bipush 60, 2) := by decide +kernel
theorem dX12_tell_6 : decode cX12_tell 6 = .ok (.if_icmp .ne 6, 3) := by decide +kernel
theorem dX12_tell_9 : decode cX12_tell 9 = .ok (.ldc 79, 2) := by decide +kernel
theorem dX12_tell_11 : decode cX12_tell 11 = .ok (.ireturn, 1) := by decide +kernel
theorem dX12_tell_12 : decode cX12_tell 12 = .ok (.aload_n 0, 1) := by decide +kernel
theorem dX12_tell_13 : decode cX12_tell 13 = .ok (.getfield 58, 3) := by decide +kernel
theorem dX12_tell_16 : decode cX12_tell 16 = .ok (.aload_n 0, 1) := by decide +kernel
theorem dX12_tell_17 : decode cX12_tell 17 = .ok (.getfield 329, 3) := by decide +kernel
theorem dX12_tell_20 : decode cX12_tell 20 = .ok (.iload_n 1, 1) := by decide +kernel
theorem dX12_tell_21 : decode cX12_tell 21 = .ok (.iastore, 1) := by decide +kernel
theorem dX12_tell_22 : decode cX12_tell 22 = .ok (.aload_n 0, 1) := by decide +kernel
theorem dX12_tell_23 : decode cX12_tell 23 = .ok (.dup, 1) := by decide +kernel
theorem dX12_tell_24 : decode cX12_tell 24 = .ok (.getfield 329, 3) := by decide +kernel
theorem dX12_tell_27 : decode cX12_tell 27 = .ok (.iconst 1, 1) := by decide +kernel
theorem dX12_tell_28 : decode cX12_tell 28 = .ok (.iadd, 1) := by decide +kernel
theorem dX12_tell_29 : decode cX12_tell 29 = .ok (.putfield 329, 3) := by decide +kernel
theorem dX12_tell_32 : decode cX12_tell 32 = .ok (.aload_n 0, 1) := by decide +kernel
theorem dX12_tell_33 : decode cX12_tell 33 = .ok (.getfield 329, 3) := by decide +kernel
theorem dX12_tell_36 : decode cX12_tell 36 = .ok (.ireturn, 1) := by decide +kernel
theorem dX12_setAside_0 : decode cX12_setAside 0 = .ok (.iconst 0, 1) := by decide +kernel
theorem dX12_setAside_1 : decode cX12_setAside 1 = .ok (.istore_n 3, 1) := by decide +kernel
theorem dX12_setAside_2 : decode cX12_setAside 2 = .ok (.iload_n 3, 1) := by decide +kernel
theorem dX12_setAside_3 : decode cX12_setAside 3 = .ok (.sipush 2880, 3) := by decide +kernel
theorem dX12_setAside_6 : decode cX12_setAside 6 = .ok (.if_icmp .ge 15, 3) := by decide +kernel
theorem dX12_setAside_9 : decode cX12_setAside 9 = .ok (.aload_n 2, 1) := by decide +kernel
theorem dX12_setAside_10 : decode cX12_setAside 10 = .ok (.iload_n 3, 1) := by decide +kernel
theorem dX12_setAside_11 : decode cX12_setAside 11 = .ok (.aload_n 1, 1) := by decide +kernel
theorem dX12_setAside_12 : decode cX12_setAside 12 = .ok (.iload_n 3, 1) := by decide +kernel
theorem dX12_setAside_13 : decode cX12_setAside 13 = .ok (.iaload, 1) := by decide +kernel
theorem dX12_setAside_14 : decode cX12_setAside 14 = .ok (.iastore, 1) := by decide +kernel
theorem dX12_setAside_15 : decode cX12_setAside 15 = .ok (.iinc 3 1, 3) := by decide +kernel
theorem dX12_setAside_18 : decode cX12_setAside 18 = .ok (.goto (-16), 3) := by decide +kernel
theorem dX12_setAside_21 : decode cX12_setAside 21 = .ok (.return_, 1) := by decide +kernel
theorem dX12_standing_0 : decode cX12_standing 0 = .ok (.iconst 0, 1) := by decide +kernel
theorem dX12_standing_1 : decode cX12_standing 1 = .ok (.istore_n 1, 1) := by decide +kernel
theorem dX12_standing_2 : decode cX12_standing 2 = .ok (.iconst 0, 1) := by decide +kernel
theorem dX12_standing_3 : decode cX12_standing 3 = .ok (.istore_n 2, 1) := by decide +kernel
theorem dX12_standing_4 : decode cX12_standing 4 = .ok (.iload_n 2, 1) := by decide +kernel
theorem dX12_standing_5 : decode cX12_standing 5 = .ok (.aload_n 0, 1) := by decide +kernel
theorem dX12_standing_6 : decode cX12_standing 6 = .ok (.getfield 7, 3) := by decide +kernel
theorem dX12_standing_9 : decode cX12_standing 9 = .ok (.iconst 1, 1) := by decide +kernel
theorem dX12_standing_10 : decode cX12_standing 10 = .ok (.iaload, 1) := by decide +kernel
theorem dX12_standing_11 : decode cX12_standing 11 = .ok (.if_icmp .ge 25, 3) := by decide +kernel
theorem dX12_standing_14 : decode cX12_standing 14 = .ok (.iload_n 1, 1) := by decide +kernel
theorem dX12_standing_15 : decode cX12_standing 15 = .ok (.aload_n 0, 1) := by decide +kernel
theorem dX12_standing_16 : decode cX12_standing 16 = .ok (.iload_n 2, 1) := by decide +kernel
theorem dX12_standing_17 : decode cX12_standing 17 = .ok (.invokevirtual 143, 3) := by decide +kernel
theorem dX12_standing_20 : decode cX12_standing 20 = .ok (.ifCond .eq 7, 3) := by decide +kernel
theorem dX12_standing_23 : decode cX12_standing 23 = .ok (.iconst 1, 1) := by decide +kernel
theorem dX12_standing_24 : decode cX12_standing 24 = .ok (.goto 4, 3) := by decide +kernel
theorem dX12_standing_27 : decode cX12_standing 27 = .ok (.iconst 0, 1) := by decide +kernel
theorem dX12_standing_28 : decode cX12_standing 28 = .ok (.iadd, 1) := by decide +kernel
theorem dX12_standing_29 : decode cX12_standing 29 = .ok (.istore_n 1, 1) := by decide +kernel
theorem dX12_standing_30 : decode cX12_standing 30 = .ok (.iinc 2 1, 3) := by decide +kernel
theorem dX12_standing_33 : decode cX12_standing 33 = .ok (.goto (-29), 3) := by decide +kernel
theorem dX12_standing_36 : decode cX12_standing 36 = .ok (.iload_n 1, 1) := by decide +kernel
theorem dX12_standing_37 : decode cX12_standing 37 = .ok (.ireturn, 1) := by decide +kernel
theorem dX12_check_0 : decode cX12_check 0 = .ok (.aload_n 0, 1) := by decide +kernel
theorem dX12_check_1 : decode cX12_check 1 = .ok (.getfield 329, 3) := by decide +kernel
theorem dX12_check_4 : decode cX12_check 4 = .ok (.istore_n 2, 1) := by decide +kernel
theorem dX12_check_5 : decode cX12_check 5 = .ok (.aload_n 0, 1) := by decide +kernel
theorem dX12_check_6 : decode cX12_check 6 = .ok (.iconst 0, 1) := by decide +kernel
theorem dX12_check_7 : decode cX12_check 7 = .ok (.putfield 329, 3) := by decide +kernel
theorem dX12_check_10 : decode cX12_check 10 = .ok (.iload_n 1, 1) := by decide +kernel
theorem dX12_check_11 : decode cX12_check 11 = .ok (.i2l, 1) := by decide +kernel
theorem dX12_check_12 : decode cX12_check 12 = .ok (.lconst 1, 1) := by decide +kernel
theorem dX12_check_13 : decode cX12_check 13 = .ok (.ldc2_w 171, 3) := by decide +kernel
theorem dX12_check_16 : decode cX12_check 16 = .ok (.invokestatic 65, 3) := by decide +kernel
theorem dX12_check_19 : decode cX12_check 19 = .ok (.ifCond .ne 6, 3) := by decide +kernel
theorem dX12_check_22 : decode cX12_check 22 = .ok (.ldc 78, 2) := by decide +kernel
theorem dX12_check_24 : decode cX12_check 24 = .ok (.ireturn, 1) := by decide +kernel
theorem dX12_check_25 : decode cX12_check 25 = .ok (.aload_n 0, 1) := by decide +kernel
theorem dX12_check_26 : decode cX12_check 26 = .ok (.getfield 332, 3) := by decide +kernel
theorem dX12_check_29 : decode cX12_check 29 = .ok (.ifCond .ne 6, 3) := by decide +kernel
theorem dX12_check_32 : decode cX12_check 32 = .ok (.ldc 168, 2) := by decide +kernel
theorem dX12_check_34 : decode cX12_check 34 = .ok (.ireturn, 1) := by decide +kernel
theorem dX12_check_35 : decode cX12_check 35 = .ok (.aload_n 0, 1) := by decide +kernel
theorem dX12_check_36 : decode cX12_check 36 = .ok (.aload_n 0, 1) := by decide +kernel
theorem dX12_check_37 : decode cX12_check 37 = .ok (.getfield 7, 3) := by decide +kernel
theorem dX12_check_40 : decode cX12_check 40 = .ok (.aload_n 0, 1) := by decide +kernel
theorem dX12_check_41 : decode cX12_check 41 = .ok (.getfield 16, 3) := by decide +kernel
theorem dX12_check_44 : decode cX12_check 44 = .ok (.invokevirtual 336, 3) := by decide +kernel
theorem dX12_check_47 : decode cX12_check 47 = .ok (.aload_n 0, 1) := by decide +kernel
theorem dX12_check_48 : decode cX12_check 48 = .ok (.aload_n 0, 1) := by decide +kernel
theorem dX12_check_49 : decode cX12_check 49 = .ok (.getfield 13, 3) := by decide +kernel
theorem dX12_check_52 : decode cX12_check 52 = .ok (.aload_n 0, 1) := by decide +kernel
theorem dX12_check_53 : decode cX12_check 53 = .ok (.getfield 7, 3) := by decide +kernel
theorem dX12_check_56 : decode cX12_check 56 = .ok (.invokevirtual 336, 3) := by decide +kernel
theorem dX12_check_59 : decode cX12_check 59 = .ok (.iconst 0, 1) := by decide +kernel
theorem dX12_check_60 : decode cX12_check 60 = .ok (.istore_n 3, 1) := by decide +kernel
theorem dX12_check_61 : decode cX12_check 61 = .ok (.iconst 0, 1) := by decide +kernel
theorem dX12_check_62 : decode cX12_check 62 = .ok (.istore 4, 2) := by decide +kernel
theorem dX12_check_64 : decode cX12_check 64 = .ok (.iload 4, 2) := by decide +kernel
theorem dX12_check_66 : decode cX12_check 66 = .ok (.iload_n 1, 1) := by decide +kernel
theorem dX12_check_67 : decode cX12_check 67 = .ok (.if_icmp .ge 58, 3) := by decide +kernel
theorem dX12_check_70 : decode cX12_check 70 = .ok (.aload_n 0, 1) := by decide +kernel
theorem dX12_check_71 : decode cX12_check 71 = .ok (.invokevirtual 173, 3) := by decide +kernel
theorem dX12_check_74 : decode cX12_check 74 = .ok (.istore 5, 2) := by decide +kernel
theorem dX12_check_76 : decode cX12_check 76 = .ok (.aload_n 0, 1) := by decide +kernel
theorem dX12_check_77 : decode cX12_check 77 = .ok (.getfield 61, 3) := by decide +kernel
theorem dX12_check_80 : decode cX12_check 80 = .ok (.iload_n 3, 1) := by decide +kernel
theorem dX12_check_81 : decode cX12_check 81 = .ok (.aload_n 0, 1) := by decide +kernel
theorem dX12_check_82 : decode cX12_check 82 = .ok (.invokevirtual 340, 3) := by decide +kernel
theorem dX12_check_85 : decode cX12_check 85 = .ok (.iastore, 1) := by decide +kernel
theorem dX12_check_86 : decode cX12_check 86 = .ok (.aload_n 0, 1) := by decide +kernel
theorem dX12_check_87 : decode cX12_check 87 = .ok (.getfield 61, 3) := by decide +kernel
theorem dX12_check_90 : decode cX12_check 90 = .ok (.iload_n 3, 1) := by decide +kernel
theorem dX12_check_91 : decode cX12_check 91 = .ok (.iconst 1, 1) := by decide +kernel
theorem dX12_check_92 : decode cX12_check 92 = .ok (.iadd, 1) := by decide +kernel
theorem dX12_check_93 : decode cX12_check 93 = .ok (.aload_n 0, 1) := by decide +kernel
theorem dX12_check_94 : decode cX12_check 94 = .ok (.getfield 7, 3) := by decide +kernel
theorem dX12_check_97 : decode cX12_check 97 = .ok (.iconst 0, 1) := by decide +kernel
theorem dX12_check_98 : decode cX12_check 98 = .ok (.iaload, 1) := by decide +kernel
theorem dX12_check_99 : decode cX12_check 99 = .ok (.ifCond .ne 7, 3) := by decide +kernel
theorem dX12_check_102 : decode cX12_check 102 = .ok (.iconst 0, 1) := by decide +kernel
theorem dX12_check_103 : decode cX12_check 103 = .ok (.goto 12, 3) := by decide +kernel
theorem dX12_check_106 : decode cX12_check 106 = .ok (.aload_n 0, 1) := by decide +kernel
theorem dX12_check_107 : decode cX12_check 107 = .ok (.iconst 0, 1) := by decide +kernel
theorem dX12_check_108 : decode cX12_check 108 = .ok (.iconst (-1), 1) := by decide +kernel
theorem dX12_check_109 : decode cX12_check 109 = .ok (.invokevirtual 186, 3) := by decide +kernel
theorem dX12_check_112 : decode cX12_check 112 = .ok (.invokestatic 203, 3) := by decide +kernel
theorem dX12_check_115 : decode cX12_check 115 = .ok (.iastore, 1) := by decide +kernel
theorem dX12_check_116 : decode cX12_check 116 = .ok (.iinc 3 2, 3) := by decide +kernel
theorem dX12_check_119 : decode cX12_check 119 = .ok (.iinc 4 1, 3) := by decide +kernel
theorem dX12_check_122 : decode cX12_check 122 = .ok (.goto (-58), 3) := by decide +kernel
theorem dX12_check_125 : decode cX12_check 125 = .ok (.aload_n 0, 1) := by decide +kernel
theorem dX12_check_126 : decode cX12_check 126 = .ok (.aload_n 0, 1) := by decide +kernel
theorem dX12_check_127 : decode cX12_check 127 = .ok (.getfield 16, 3) := by decide +kernel
theorem dX12_check_130 : decode cX12_check 130 = .ok (.aload_n 0, 1) := by decide +kernel
theorem dX12_check_131 : decode cX12_check 131 = .ok (.getfield 7, 3) := by decide +kernel
theorem dX12_check_134 : decode cX12_check 134 = .ok (.invokevirtual 336, 3) := by decide +kernel
theorem dX12_check_137 : decode cX12_check 137 = .ok (.iconst 0, 1) := by decide +kernel
theorem dX12_check_138 : decode cX12_check 138 = .ok (.istore 4, 2) := by decide +kernel
theorem dX12_check_140 : decode cX12_check 140 = .ok (.iload 4, 2) := by decide +kernel
theorem dX12_check_142 : decode cX12_check 142 = .ok (.iload_n 2, 1) := by decide +kernel
theorem dX12_check_143 : decode cX12_check 143 = .ok (.if_icmp .ge 32, 3) := by decide +kernel
theorem dX12_check_146 : decode cX12_check 146 = .ok (.iload 4, 2) := by decide +kernel
theorem dX12_check_148 : decode cX12_check 148 = .ok (.iload_n 3, 1) := by decide +kernel
theorem dX12_check_149 : decode cX12_check 149 = .ok (.if_icmp .ge 26, 3) := by decide +kernel
theorem dX12_check_152 : decode cX12_check 152 = .ok (.aload_n 0, 1) := by decide +kernel
theorem dX12_check_153 : decode cX12_check 153 = .ok (.getfield 58, 3) := by decide +kernel
theorem dX12_check_156 : decode cX12_check 156 = .ok (.iload 4, 2) := by decide +kernel
theorem dX12_check_158 : decode cX12_check 158 = .ok (.iaload, 1) := by decide +kernel
theorem dX12_check_159 : decode cX12_check 159 = .ok (.aload_n 0, 1) := by decide +kernel
theorem dX12_check_160 : decode cX12_check 160 = .ok (.getfield 61, 3) := by decide +kernel
theorem dX12_check_163 : decode cX12_check 163 = .ok (.iload 4, 2) := by decide +kernel
theorem dX12_check_165 : decode cX12_check 165 = .ok (.iaload, 1) := by decide +kernel
theorem dX12_check_166 : decode cX12_check 166 = .ok (.if_icmp .ne 9, 3) := by decide +kernel
theorem dX12_check_169 : decode cX12_check 169 = .ok (.iinc 4 1, 3) := by decide +kernel
theorem dX12_check_172 : decode cX12_check 172 = .ok (.goto (-32), 3) := by decide +kernel
theorem dX12_check_175 : decode cX12_check 175 = .ok (.iload 4, 2) := by decide +kernel
theorem dX12_check_177 : decode cX12_check 177 = .ok (.iload_n 2, 1) := by decide +kernel
theorem dX12_check_178 : decode cX12_check 178 = .ok (.if_icmp .ne 13, 3) := by decide +kernel
theorem dX12_check_181 : decode cX12_check 181 = .ok (.iload 4, 2) := by decide +kernel
theorem dX12_check_183 : decode cX12_check 183 = .ok (.iload_n 3, 1) := by decide +kernel
theorem dX12_check_184 : decode cX12_check 184 = .ok (.if_icmp .ne 7, 3) := by decide +kernel
theorem dX12_check_187 : decode cX12_check 187 = .ok (.iconst 0, 1) := by decide +kernel
theorem dX12_check_188 : decode cX12_check 188 = .ok (.goto 7, 3) := by decide +kernel
theorem dX12_check_191 : decode cX12_check 191 = .ok (.iconst 1, 1) := by decide +kernel
theorem dX12_check_192 : decode cX12_check 192 = .ok (.iload 4, 2) := by decide +kernel
theorem dX12_check_194 : decode cX12_check 194 = .ok (.iadd, 1) := by decide +kernel
theorem dX12_check_195 : decode cX12_check 195 = .ok (.ireturn, 1) := by decide +kernel
theorem dX12_keep_0 : decode cX12_keep 0 = .ok (.aload_n 0, 1) := by decide +kernel
theorem dX12_keep_1 : decode cX12_keep 1 = .ok (.iconst 1, 1) := by decide +kernel
theorem dX12_keep_2 : decode cX12_keep 2 = .ok (.putfield 332, 3) := by decide +kernel
theorem dX12_keep_5 : decode cX12_keep 5 = .ok (.aload_n 0, 1) := by decide +kernel
theorem dX12_keep_6 : decode cX12_keep 6 = .ok (.aload_n 0, 1) := by decide +kernel
theorem dX12_keep_7 : decode cX12_keep 7 = .ok (.getfield 7, 3) := by decide +kernel
theorem dX12_keep_10 : decode cX12_keep 10 = .ok (.aload_n 0, 1) := by decide +kernel
theorem dX12_keep_11 : decode cX12_keep 11 = .ok (.getfield 13, 3) := by decide +kernel
theorem dX12_keep_14 : decode cX12_keep 14 = .ok (.invokevirtual 336, 3) := by decide +kernel
theorem dX12_keep_17 : decode cX12_keep 17 = .ok (.aload_n 0, 1) := by decide +kernel
theorem dX12_keep_18 : decode cX12_keep 18 = .ok (.getfield 7, 3) := by decide +kernel
theorem dX12_keep_21 : decode cX12_keep 21 = .ok (.iconst 1, 1) := by decide +kernel
theorem dX12_keep_22 : decode cX12_keep 22 = .ok (.iaload, 1) := by decide +kernel
theorem dX12_keep_23 : decode cX12_keep 23 = .ok (.ireturn, 1) := by decide +kernel
theorem dX12_back_0 : decode cX12_back 0 = .ok (.aload_n 0, 1) := by decide +kernel
theorem dX12_back_1 : decode cX12_back 1 = .ok (.getfield 332, 3) := by decide +kernel
theorem dX12_back_4 : decode cX12_back 4 = .ok (.ifCond .ne 6, 3) := by decide +kernel
theorem dX12_back_7 : decode cX12_back 7 = .ok (.ldc 168, 2) := by decide +kernel
theorem dX12_back_9 : decode cX12_back 9 = .ok (.ireturn, 1) := by decide +kernel
theorem dX12_back_10 : decode cX12_back 10 = .ok (.aload_n 0, 1) := by decide +kernel
theorem dX12_back_11 : decode cX12_back 11 = .ok (.aload_n 0, 1) := by decide +kernel
theorem dX12_back_12 : decode cX12_back 12 = .ok (.getfield 13, 3) := by decide +kernel
theorem dX12_back_15 : decode cX12_back 15 = .ok (.aload_n 0, 1) := by decide +kernel
theorem dX12_back_16 : decode cX12_back 16 = .ok (.getfield 7, 3) := by decide +kernel
theorem dX12_back_19 : decode cX12_back 19 = .ok (.invokevirtual 336, 3) := by decide +kernel
theorem dX12_back_22 : decode cX12_back 22 = .ok (.aload_n 0, 1) := by decide +kernel
theorem dX12_back_23 : decode cX12_back 23 = .ok (.getfield 7, 3) := by decide +kernel
theorem dX12_back_26 : decode cX12_back 26 = .ok (.iconst 1, 1) := by decide +kernel
theorem dX12_back_27 : decode cX12_back 27 = .ok (.iaload, 1) := by decide +kernel
theorem dX12_back_28 : decode cX12_back 28 = .ok (.ireturn, 1) := by decide +kernel
theorem dX12_count_0 : decode cX12_count 0 = .ok (.iload_n 1, 1) := by decide +kernel
theorem dX12_count_1 : decode cX12_count 1 = .ok (.tableswitch 118 0 9 #[55, 62, 69, 76, 83, 88, 93, 100, 105, 110], 55) := by decide +kernel
theorem dX12_count_56 : decode cX12_count 56 = .ok (.aload_n 0, 1) := by decide +kernel
theorem dX12_count_57 : decode cX12_count 57 = .ok (.getfield 7, 3) := by decide +kernel
theorem dX12_count_60 : decode cX12_count 60 = .ok (.iconst 0, 1) := by decide +kernel
theorem dX12_count_61 : decode cX12_count 61 = .ok (.iaload, 1) := by decide +kernel
theorem dX12_count_62 : decode cX12_count 62 = .ok (.ireturn, 1) := by decide +kernel
theorem dX12_count_63 : decode cX12_count 63 = .ok (.aload_n 0, 1) := by decide +kernel
theorem dX12_count_64 : decode cX12_count 64 = .ok (.getfield 7, 3) := by decide +kernel
theorem dX12_count_67 : decode cX12_count 67 = .ok (.iconst 1, 1) := by decide +kernel
theorem dX12_count_68 : decode cX12_count 68 = .ok (.iaload, 1) := by decide +kernel
theorem dX12_count_69 : decode cX12_count 69 = .ok (.ireturn, 1) := by decide +kernel
theorem dX12_count_70 : decode cX12_count 70 = .ok (.aload_n 0, 1) := by decide +kernel
theorem dX12_count_71 : decode cX12_count 71 = .ok (.getfield 7, 3) := by decide +kernel
theorem dX12_count_74 : decode cX12_count 74 = .ok (.iconst 2, 1) := by decide +kernel
theorem dX12_count_75 : decode cX12_count 75 = .ok (.iaload, 1) := by decide +kernel
theorem dX12_count_76 : decode cX12_count 76 = .ok (.ireturn, 1) := by decide +kernel
theorem dX12_count_77 : decode cX12_count 77 = .ok (.aload_n 0, 1) := by decide +kernel
theorem dX12_count_78 : decode cX12_count 78 = .ok (.getfield 7, 3) := by decide +kernel
theorem dX12_count_81 : decode cX12_count 81 = .ok (.iconst 4, 1) := by decide +kernel
theorem dX12_count_82 : decode cX12_count 82 = .ok (.iaload, 1) := by decide +kernel
theorem dX12_count_83 : decode cX12_count 83 = .ok (.ireturn, 1) := by decide +kernel
theorem dX12_count_84 : decode cX12_count 84 = .ok (.aload_n 0, 1) := by decide +kernel
theorem dX12_count_85 : decode cX12_count 85 = .ok (.invokevirtual 340, 3) := by decide +kernel
theorem dX12_count_88 : decode cX12_count 88 = .ok (.ireturn, 1) := by decide +kernel
theorem dX12_count_89 : decode cX12_count 89 = .ok (.aload_n 0, 1) := by decide +kernel
theorem dX12_count_90 : decode cX12_count 90 = .ok (.invokevirtual 343, 3) := by decide +kernel
theorem dX12_count_93 : decode cX12_count 93 = .ok (.ireturn, 1) := by decide +kernel
theorem dX12_count_94 : decode cX12_count 94 = .ok (.aload_n 0, 1) := by decide +kernel
theorem dX12_count_95 : decode cX12_count 95 = .ok (.getfield 7, 3) := by decide +kernel
theorem dX12_count_98 : decode cX12_count 98 = .ok (.iconst 3, 1) := by decide +kernel
theorem dX12_count_99 : decode cX12_count 99 = .ok (.iaload, 1) := by decide +kernel
theorem dX12_count_100 : decode cX12_count 100 = .ok (.ireturn, 1) := by decide +kernel
theorem dX12_count_101 : decode cX12_count 101 = .ok (.aload_n 0, 1) := by decide +kernel
theorem dX12_count_102 : decode cX12_count 102 = .ok (.getfield 329, 3) := by decide +kernel
theorem dX12_count_105 : decode cX12_count 105 = .ok (.ireturn, 1) := by decide +kernel
theorem dX12_count_106 : decode cX12_count 106 = .ok (.aload_n 0, 1) := by decide +kernel
theorem dX12_count_107 : decode cX12_count 107 = .ok (.getfield 215, 3) := by decide +kernel
theorem dX12_count_110 : decode cX12_count 110 = .ok (.ireturn, 1) := by decide +kernel
theorem dX12_count_111 : decode cX12_count 111 = .ok (.aload_n 0, 1) := by decide +kernel
theorem dX12_count_112 : decode cX12_count 112 = .ok (.getfield 7, 3) := by decide +kernel
theorem dX12_count_115 : decode cX12_count 115 = .ok (.bipush 6, 2) := by decide +kernel
theorem dX12_count_117 : decode cX12_count 117 = .ok (.iaload, 1) := by decide +kernel
theorem dX12_count_118 : decode cX12_count 118 = .ok (.ireturn, 1) := by decide +kernel
theorem dX12_count_119 : decode cX12_count 119 = .ok (.ldc 78, 2) := by decide +kernel
theorem dX12_count_121 : decode cX12_count 121 = .ok (.ireturn, 1) := by decide +kernel
theorem dX12_movedMany_0 : decode cX12_movedMany 0 = .ok (.iconst 0, 1) := by decide +kernel
theorem dX12_movedMany_1 : decode cX12_movedMany 1 = .ok (.istore_n 1, 1) := by decide +kernel
theorem dX12_movedMany_2 : decode cX12_movedMany 2 = .ok (.iconst 0, 1) := by decide +kernel
theorem dX12_movedMany_3 : decode cX12_movedMany 3 = .ok (.istore_n 2, 1) := by decide +kernel
theorem dX12_movedMany_4 : decode cX12_movedMany 4 = .ok (.iload_n 2, 1) := by decide +kernel
theorem dX12_movedMany_5 : decode cX12_movedMany 5 = .ok (.aload_n 0, 1) := by decide +kernel
theorem dX12_movedMany_6 : decode cX12_movedMany 6 = .ok (.getfield 7, 3) := by decide +kernel
theorem dX12_movedMany_9 : decode cX12_movedMany 9 = .ok (.iconst 1, 1) := by decide +kernel
theorem dX12_movedMany_10 : decode cX12_movedMany 10 = .ok (.iaload, 1) := by decide +kernel
theorem dX12_movedMany_11 : decode cX12_movedMany 11 = .ok (.if_icmp .ge 18, 3) := by decide +kernel
theorem dX12_movedMany_14 : decode cX12_movedMany 14 = .ok (.iload_n 1, 1) := by decide +kernel
theorem dX12_movedMany_15 : decode cX12_movedMany 15 = .ok (.aload_n 0, 1) := by decide +kernel
theorem dX12_movedMany_16 : decode cX12_movedMany 16 = .ok (.iload_n 2, 1) := by decide +kernel
theorem dX12_movedMany_17 : decode cX12_movedMany 17 = .ok (.iconst 4, 1) := by decide +kernel
theorem dX12_movedMany_18 : decode cX12_movedMany 18 = .ok (.invokevirtual 90, 3) := by decide +kernel
theorem dX12_movedMany_21 : decode cX12_movedMany 21 = .ok (.iadd, 1) := by decide +kernel
theorem dX12_movedMany_22 : decode cX12_movedMany 22 = .ok (.istore_n 1, 1) := by decide +kernel
theorem dX12_movedMany_23 : decode cX12_movedMany 23 = .ok (.iinc 2 1, 3) := by decide +kernel
theorem dX12_movedMany_26 : decode cX12_movedMany 26 = .ok (.goto (-22), 3) := by decide +kernel
theorem dX12_movedMany_29 : decode cX12_movedMany 29 = .ok (.iload_n 1, 1) := by decide +kernel
theorem dX12_movedMany_30 : decode cX12_movedMany 30 = .ok (.ireturn, 1) := by decide +kernel
