theorem dX12_init_0 : decode cX12_init 0 = .ok (.aload_n 0, 1) := by decide +kernel
theorem dX12_init_1 : decode cX12_init 1 = .ok (.invokespecial 1, 3) := by decide +kernel
theorem dX12_init_4 : decode cX12_init 4 = .ok (.aload_n 0, 1) := by decide +kernel
theorem dX12_init_5 : decode cX12_init 5 = .ok (.sipush 3080, 3) := by decide +kernel
theorem dX12_init_8 : decode cX12_init 8 = .ok (.newarray .int, 2) := by decide +kernel
theorem dX12_init_10 : decode cX12_init 10 = .ok (.putfield 7, 3) := by decide +kernel
theorem dX12_init_13 : decode cX12_init 13 = .ok (.aload_n 0, 1) := by decide +kernel
theorem dX12_init_14 : decode cX12_init 14 = .ok (.sipush 3080, 3) := by decide +kernel
theorem dX12_init_17 : decode cX12_init 17 = .ok (.newarray .int, 2) := by decide +kernel
theorem dX12_init_19 : decode cX12_init 19 = .ok (.putfield 13, 3) := by decide +kernel
theorem dX12_init_22 : decode cX12_init 22 = .ok (.aload_n 0, 1) := by decide +kernel
theorem dX12_init_23 : decode cX12_init 23 = .ok (.sipush 3080, 3) := by decide +kernel
theorem dX12_init_26 : decode cX12_init 26 = .ok (.newarray .int, 2) := by decide +kernel
theorem dX12_init_28 : decode cX12_init 28 = .ok (.putfield 16, 3) := by decide +kernel
theorem dX12_init_31 : decode cX12_init 31 = .ok (.aload_n 0, 1) := by decide +kernel
theorem dX12_init_32 : decode cX12_init 32 = .ok (.iconst 4, 1) := by decide +kernel
theorem dX12_init_33 : decode cX12_init 33 = .ok (.newarray .int, 2) := by decide +kernel
theorem dX12_init_35 : decode cX12_init 35 = .ok (.putfield 19, 3) := by decide +kernel
theorem dX12_init_38 : decode cX12_init 38 = .ok (.aload_n 0, 1) := by decide +kernel
theorem dX12_init_39 : decode cX12_init 39 = .ok (.iconst 4, 1) := by decide +kernel
theorem dX12_init_40 : decode cX12_init 40 = .ok (.newarray .int, 2) := by decide +kernel
theorem dX12_init_42 : decode cX12_init 42 = .ok (.putfield 22, 3) := by decide +kernel
theorem dX12_init_45 : decode cX12_init 45 = .ok (.aload_n 0, 1) := by decide +kernel
theorem dX12_init_46 : decode cX12_init 46 = .ok (.bipush 96, 2) := by decide +kernel
theorem dX12_init_48 : decode cX12_init 48 = .ok (.newarray .int, 2) := by decide +kernel
theorem dX12_init_50 : decode cX12_init 50 = .ok (.putfield 25, 3) := by decide +kernel
theorem dX12_init_53 : decode cX12_init 53 = .ok (.aload_n 0, 1) := by decide +kernel
theorem dX12_init_54 : decode cX12_init 54 = .ok (.iconst 5, 1) := by decide +kernel
theorem dX12_init_55 : decode cX12_init 55 = .ok (.newarray .int, 2) := by decide +kernel
theorem dX12_init_57 : decode cX12_init 57 = .ok (.putfield 28, 3) := by decide +kernel
theorem dX12_init_60 : decode cX12_init 60 = .ok (.aload_n 0, 1) := by decide +kernel
theorem dX12_init_61 : decode cX12_init 61 = .ok (.iconst 5, 1) := by decide +kernel
theorem dX12_init_62 : decode cX12_init 62 = .ok (.newarray .int, 2) := by decide +kernel
theorem dX12_init_64 : decode cX12_init 64 = .ok (.putfield 31, 3) := by decide +kernel
theorem dX12_init_67 : decode cX12_init 67 = .ok (.aload_n 0, 1) := by decide +kernel
theorem dX12_init_68 : decode cX12_init 68 = .ok (.iconst 5, 1) := by decide +kernel
theorem dX12_init_69 : decode cX12_init 69 = .ok (.newarray .int, 2) := by decide +kernel
theorem dX12_init_71 : decode cX12_init 71 = .ok (.putfield 34, 3) := by decide +kernel
theorem dX12_init_74 : decode cX12_init 74 = .ok (.aload_n 0, 1) := by decide +kernel
theorem dX12_init_75 : decode cX12_init 75 = .ok (.iconst 5, 1) := by decide +kernel
theorem dX12_init_76 : decode cX12_init 76 = .ok (.newarray .int, 2) := by decide +kernel
theorem dX12_init_78 : decode cX12_init 78 = .ok (.putfield 37, 3) := by decide +kernel
theorem dX12_init_81 : decode cX12_init 81 = .ok (.aload_n 0, 1) := by decide +kernel
theorem dX12_init_82 : decode cX12_init 82 = .ok (.bipush 120, 2) := by decide +kernel
theorem dX12_init_84 : decode cX12_init 84 = .ok (.newarray .int, 2) := by decide +kernel
theorem dX12_init_86 : decode cX12_init 86 = .ok (.putfield 40, 3) := by decide +kernel
theorem dX12_init_89 : decode cX12_init 89 = .ok (.aload_n 0, 1) := by decide +kernel
theorem dX12_init_90 : decode cX12_init 90 = .ok (.bipush 10, 2) := by decide +kernel
theorem dX12_init_92 : decode cX12_init 92 = .ok (.newarray .int, 2) := by decide +kernel
theorem dX12_init_94 : decode cX12_init 94 = .ok (.putfield 43, 3) := by decide +kernel
theorem dX12_init_97 : decode cX12_init 97 = .ok (.aload_n 0, 1) := by decide +kernel
theorem dX12_init_98 : decode cX12_init 98 = .ok (.bipush 96, 2) := by decide +kernel
theorem dX12_init_100 : decode cX12_init 100 = .ok (.newarray .int, 2) := by decide +kernel
theorem dX12_init_102 : decode cX12_init 102 = .ok (.putfield 46, 3) := by decide +kernel
theorem dX12_init_105 : decode cX12_init 105 = .ok (.aload_n 0, 1) := by decide +kernel
theorem dX12_init_106 : decode cX12_init 106 = .ok (.sipush 128, 3) := by decide +kernel
theorem dX12_init_109 : decode cX12_init 109 = .ok (.newarray .int, 2) := by decide +kernel
theorem dX12_init_111 : decode cX12_init 111 = .ok (.putfield 49, 3) := by decide +kernel
theorem dX12_init_114 : decode cX12_init 114 = .ok (.aload_n 0, 1) := by decide +kernel
theorem dX12_init_115 : decode cX12_init 115 = .ok (.bipush 100, 2) := by decide +kernel
theorem dX12_init_117 : decode cX12_init 117 = .ok (.newarray .int, 2) := by decide +kernel
theorem dX12_init_119 : decode cX12_init 119 = .ok (.putfield 52, 3) := by decide +kernel
theorem dX12_init_122 : decode cX12_init 122 = .ok (.aload_n 0, 1) := by decide +kernel
theorem dX12_init_123 : decode cX12_init 123 = .ok (.bipush 24, 2) := by decide +kernel
theorem dX12_init_125 : decode cX12_init 125 = .ok (.newarray .int, 2) := by decide +kernel
theorem dX12_init_127 : decode cX12_init 127 = .ok (.putfield 55, 3) := by decide +kernel
theorem dX12_init_130 : decode cX12_init 130 = .ok (.aload_n 0, 1) := by decide +kernel
theorem dX12_init_131 : decode cX12_init 131 = .ok (.bipush 60, 2) := by decide +kernel
theorem dX12_init_133 : decode cX12_init 133 = .ok (.newarray .int, 2) := by decide +kernel
theorem dX12_init_135 : decode cX12_init 135 = .ok (.putfield 58, 3) := by decide +kernel
theorem dX12_init_138 : decode cX12_init 138 = .ok (.aload_n 0, 1) := by decide +kernel
theorem dX12_init_139 : decode cX12_init 139 = .ok (.bipush 60, 2) := by decide +kernel
theorem dX12_init_141 : decode cX12_init 141 = .ok (.newarray .int, 2) := by decide +kernel
theorem dX12_init_143 : decode cX12_init 143 = .ok (.putfield 61, 3) := by decide +kernel
theorem dX12_init_146 : decode cX12_init 146 = .ok (.aload_n 0, 1) := by decide +kernel
theorem dX12_init_147 : decode cX12_init 147 = .ok (.getfield 7, 3) := by decide +kernel
theorem dX12_init_150 : decode cX12_init 150 = .ok (.iconst 5, 1) := by decide +kernel
theorem dX12_init_151 : decode cX12_init 151 = .ok (.bipush 20, 2) := by decide +kernel
theorem dX12_init_153 : decode cX12_init 153 = .ok (.iastore, 1) := by decide +kernel
theorem dX12_init_154 : decode cX12_init 154 = .ok (.aload_n 0, 1) := by decide +kernel
theorem dX12_init_155 : decode cX12_init 155 = .ok (.getfield 7, 3) := by decide +kernel
theorem dX12_init_158 : decode cX12_init 158 = .ok (.bipush 6, 2) := by decide +kernel
theorem dX12_init_160 : decode cX12_init 160 = .ok (.iconst 1, 1) := by decide +kernel
theorem dX12_init_161 : decode cX12_init 161 = .ok (.iastore, 1) := by decide +kernel
theorem dX12_init_162 : decode cX12_init 162 = .ok (.iconst 0, 1) := by decide +kernel
theorem dX12_init_163 : decode cX12_init 163 = .ok (.istore_n 1, 1) := by decide +kernel
theorem dX12_init_164 : decode cX12_init 164 = .ok (.iload_n 1, 1) := by decide +kernel
theorem dX12_init_165 : decode cX12_init 165 = .ok (.iconst 4, 1) := by decide +kernel
theorem dX12_init_166 : decode cX12_init 166 = .ok (.if_icmp .ge 16, 3) := by decide +kernel
theorem dX12_init_169 : decode cX12_init 169 = .ok (.aload_n 0, 1) := by decide +kernel
theorem dX12_init_170 : decode cX12_init 170 = .ok (.getfield 19, 3) := by decide +kernel
theorem dX12_init_173 : decode cX12_init 173 = .ok (.iload_n 1, 1) := by decide +kernel
theorem dX12_init_174 : decode cX12_init 174 = .ok (.iconst (-1), 1) := by decide +kernel
theorem dX12_init_175 : decode cX12_init 175 = .ok (.iastore, 1) := by decide +kernel
theorem dX12_init_176 : decode cX12_init 176 = .ok (.iinc 1 1, 3) := by decide +kernel
theorem dX12_init_179 : decode cX12_init 179 = .ok (.goto (-15), 3) := by decide +kernel
theorem dX12_init_182 : decode cX12_init 182 = .ok (.return_, 1) := by decide +kernel
theorem dX12_isIn_0 : decode cX12_isIn 0 = .ok (.lload_n 0, 1) := by decide +kernel
theorem dX12_isIn_1 : decode cX12_isIn 1 = .ok (.lload_n 2, 1) := by decide +kernel
theorem dX12_isIn_2 : decode cX12_isIn 2 = .ok (.lcmp, 1) := by decide +kernel
theorem dX12_isIn_3 : decode cX12_isIn 3 = .ok (.ifCond .lt 14, 3) := by decide +kernel
theorem dX12_isIn_6 : decode cX12_isIn 6 = .ok (.lload_n 0, 1) := by decide +kernel
theorem dX12_isIn_7 : decode cX12_isIn 7 = .ok (.lload 4, 2) := by decide +kernel
theorem dX12_isIn_9 : decode cX12_isIn 9 = .ok (.lcmp, 1) := by decide +kernel
theorem dX12_isIn_10 : decode cX12_isIn 10 = .ok (.ifCond .gt 7, 3) := by decide +kernel
theorem dX12_isIn_13 : decode cX12_isIn 13 = .ok (.iconst 1, 1) := by decide +kernel
theorem dX12_isIn_14 : decode cX12_isIn 14 = .ok (.goto 4, 3) := by decide +kernel
theorem dX12_isIn_17 : decode cX12_isIn 17 = .ok (.iconst 0, 1) := by decide +kernel
theorem dX12_isIn_18 : decode cX12_isIn 18 = .ok (.ireturn, 1) := by decide +kernel
theorem dX12_orNone_0 : decode cX12_orNone 0 = .ok (.iload_n 0, 1) := by decide +kernel
theorem dX12_orNone_1 : decode cX12_orNone 1 = .ok (.ifCond .ge 8, 3) := by decide +kernel
theorem dX12_orNone_4 : decode cX12_orNone 4 = .ok (.ldc 64, 2) := by decide +kernel
theorem dX12_orNone_6 : decode cX12_orNone 6 = .ok (.goto 4, 3) := by decide +kernel
theorem dX12_orNone_9 : decode cX12_orNone 9 = .ok (.iload_n 0, 1) := by decide +kernel
theorem dX12_orNone_10 : decode cX12_orNone 10 = .ok (.ireturn, 1) := by decide +kernel
theorem dX12_within_0 : decode cX12_within 0 = .ok (.iload_n 0, 1) := by decide +kernel
theorem dX12_within_1 : decode cX12_within 1 = .ok (.ifCond .ge 7, 3) := by decide +kernel
theorem dX12_within_4 : decode cX12_within 4 = .ok (.iconst 0, 1) := by decide +kernel
theorem dX12_within_5 : decode cX12_within 5 = .ok (.goto 13, 3) := by decide +kernel
theorem dX12_within_8 : decode cX12_within 8 = .ok (.iload_n 0, 1) := by decide +kernel
theorem dX12_within_9 : decode cX12_within 9 = .ok (.iload_n 1, 1) := by decide +kernel
theorem dX12_within_10 : decode cX12_within 10 = .ok (.if_icmp .le 7, 3) := by decide +kernel
theorem dX12_within_13 : decode cX12_within 13 = .ok (.iload_n 1, 1) := by decide +kernel
theorem dX12_within_14 : decode cX12_within 14 = .ok (.goto 4, 3) := by decide +kernel
theorem dX12_within_17 : decode cX12_within 17 = .ok (.iload_n 0, 1) := by decide +kernel
theorem dX12_within_18 : decode cX12_within 18 = .ok (.ireturn, 1) := by decide +kernel
theorem dX12_becomes_0 : decode cX12_becomes 0 = .ok (.aload_n 0, 1) := by decide +kernel
theorem dX12_becomes_1 : decode cX12_becomes 1 = .ok (.getfield 7, 3) := by decide +kernel
theorem dX12_becomes_4 : decode cX12_becomes 4 = .ok (.iload_n 1, 1) := by decide +kernel
theorem dX12_becomes_5 : decode cX12_becomes 5 = .ok (.iaload, 1) := by decide +kernel
theorem dX12_becomes_6 : decode cX12_becomes 6 = .ok (.istore_n 3, 1) := by decide +kernel
theorem dX12_becomes_7 : decode cX12_becomes 7 = .ok (.aload_n 0, 1) := by decide +kernel
theorem dX12_becomes_8 : decode cX12_becomes 8 = .ok (.getfield 7, 3) := by decide +kernel
theorem dX12_becomes_11 : decode cX12_becomes 11 = .ok (.iload_n 1, 1) := by decide +kernel
theorem dX12_becomes_12 : decode cX12_becomes 12 = .ok (.iload_n 2, 1) := by decide +kernel
theorem dX12_becomes_13 : decode cX12_becomes 13 = .ok (.iastore, 1) := by decide +kernel
theorem dX12_becomes_14 : decode cX12_becomes 14 = .ok (.iload_n 3, 1) := by decide +kernel
theorem dX12_becomes_15 : decode cX12_becomes 15 = .ok (.ireturn, 1) := by decide +kernel
theorem dX12_textAt_0 : decode cX12_textAt 0 = .ok (.bipush 80, 2) := by decide +kernel
theorem dX12_textAt_2 : decode cX12_textAt 2 = .ok (.sipush 200, 3) := by decide +kernel
theorem dX12_textAt_5 : decode cX12_textAt 5 = .ok (.iload_n 1, 1) := by decide +kernel
theorem dX12_textAt_6 : decode cX12_textAt 6 = .ok (.imul, 1) := by decide +kernel
theorem dX12_textAt_7 : decode cX12_textAt 7 = .ok (.iadd, 1) := by decide +kernel
theorem dX12_textAt_8 : decode cX12_textAt 8 = .ok (.ireturn, 1) := by decide +kernel
theorem dX12_of_0 : decode cX12_of 0 = .ok (.aload_n 0, 1) := by decide +kernel
theorem dX12_of_1 : decode cX12_of 1 = .ok (.getfield 7, 3) := by decide +kernel
theorem dX12_of_4 : decode cX12_of 4 = .ok (.bipush 28, 2) := by decide +kernel
theorem dX12_of_6 : decode cX12_of 6 = .ok (.iconst 5, 1) := by decide +kernel
theorem dX12_of_7 : decode cX12_of 7 = .ok (.iload_n 1, 1) := by decide +kernel
theorem dX12_of_8 : decode cX12_of 8 = .ok (.imul, 1) := by decide +kernel
theorem dX12_of_9 : decode cX12_of 9 = .ok (.iadd, 1) := by decide +kernel
theorem dX12_of_10 : decode cX12_of 10 = .ok (.iload_n 2, 1) := by decide +kernel
theorem dX12_of_11 : decode cX12_of 11 = .ok (.iadd, 1) := by decide +kernel
theorem dX12_of_12 : decode cX12_of 12 = .ok (.iaload, 1) := by decide +kernel
theorem dX12_of_13 : decode cX12_of 13 = .ok (.ireturn, 1) := by decide +kernel
theorem dX12_sets_0 : decode cX12_sets 0 = .ok (.aload_n 0, 1) := by decide +kernel
theorem dX12_sets_1 : decode cX12_sets 1 = .ok (.getfield 7, 3) := by decide +kernel
theorem dX12_sets_4 : decode cX12_sets 4 = .ok (.bipush 28, 2) := by decide +kernel
theorem dX12_sets_6 : decode cX12_sets 6 = .ok (.iconst 5, 1) := by decide +kernel
theorem dX12_sets_7 : decode cX12_sets 7 = .ok (.iload_n 1, 1) := by decide +kernel
theorem dX12_sets_8 : decode cX12_sets 8 = .ok (.imul, 1) := by decide +kernel
theorem dX12_sets_9 : decode cX12_sets 9 = .ok (.iadd, 1) := by decide +kernel
theorem dX12_sets_10 : decode cX12_sets 10 = .ok (.iload_n 2, 1) := by decide +kernel
theorem dX12_sets_11 : decode cX12_sets 11 = .ok (.iadd, 1) := by decide +kernel
theorem dX12_sets_12 : decode cX12_sets 12 = .ok (.iload_n 3, 1) := by decide +kernel
theorem dX12_sets_13 : decode cX12_sets 13 = .ok (.iastore, 1) := by decide +kernel
theorem dX12_sets_14 : decode cX12_sets 14 = .ok (.return_, 1) := by decide +kernel
theorem dX12_height_0 : decode cX12_height 0 = .ok (.aload_n 0, 1) := by decide +kernel
theorem dX12_height_1 : decode cX12_height 1 = .ok (.getfield 7, 3) := by decide +kernel
theorem dX12_height_4 : decode cX12_height 4 = .ok (.bipush 8, 2) := by decide +kernel
theorem dX12_height_6 : decode cX12_height 6 = .ok (.iconst 2, 1) := by decide +kernel
theorem dX12_height_7 : decode cX12_height 7 = .ok (.iload_n 1, 1) := by decide +kernel
theorem dX12_height_8 : decode cX12_height 8 = .ok (.imul, 1) := by decide +kernel
theorem dX12_height_9 : decode cX12_height 9 = .ok (.iadd, 1) := by decide +kernel
theorem dX12_height_10 : decode cX12_height 10 = .ok (.iaload, 1) := by decide +kernel
theorem dX12_height_11 : decode cX12_height 11 = .ok (.ireturn, 1) := by decide +kernel
theorem dX12_where_0 : decode cX12_where 0 = .ok (.aload_n 0, 1) := by decide +kernel
theorem dX12_where_1 : decode cX12_where 1 = .ok (.getfield 7, 3) := by decide +kernel
theorem dX12_where_4 : decode cX12_where 4 = .ok (.bipush 68, 2) := by decide +kernel
theorem dX12_where_6 : decode cX12_where 6 = .ok (.iconst 2, 1) := by decide +kernel
theorem dX12_where_7 : decode cX12_where 7 = .ok (.iload_n 1, 1) := by decide +kernel
theorem dX12_where_8 : decode cX12_where 8 = .ok (.imul, 1) := by decide +kernel
theorem dX12_where_9 : decode cX12_where 9 = .ok (.iadd, 1) := by decide +kernel
theorem dX12_where_10 : decode cX12_where 10 = .ok (.iaload, 1) := by decide +kernel
theorem dX12_where_11 : decode cX12_where 11 = .ok (.ireturn, 1) := by decide +kernel
theorem dX12_isLedge_0 : decode cX12_isLedge 0 = .ok (.iload_n 1, 1) := by decide +kernel
theorem dX12_isLedge_1 : decode cX12_isLedge 1 = .ok (.i2l, 1) := by decide +kernel
theorem dX12_isLedge_2 : decode cX12_isLedge 2 = .ok (.lconst 0, 1) := by decide +kernel
theorem dX12_isLedge_3 : decode cX12_isLedge 3 = .ok (.aload_n 0, 1) := by decide +kernel
theorem dX12_isLedge_4 : decode cX12_isLedge 4 = .ok (.getfield 7, 3) := by decide +kernel
theorem dX12_isLedge_7 : decode cX12_isLedge 7 = .ok (.iconst 0, 1) := by decide +kernel
theorem dX12_isLedge_8 : decode cX12_isLedge 8 = .ok (.iaload, 1) := by decide +kernel
theorem dX12_isLedge_9 : decode cX12_isLedge 9 = .ok (.iconst 1, 1) := by decide +kernel
theorem dX12_isLedge_10 : decode cX12_isLedge 10 = .ok (.isub, 1) := by decide +kernel
theorem dX12_isLedge_11 : decode cX12_isLedge 11 = .ok (.i2l, 1) := by decide +kernel
theorem dX12_isLedge_12 : decode cX12_isLedge 12 = .ok (.invokestatic 65, 3) := by decide +kernel
theorem dX12_isLedge_15 : decode cX12_isLedge 15 = .ok (.ireturn, 1) := by decide +kernel
theorem dX12_isLadder_0 : decode cX12_isLadder 0 = .ok (.iload_n 1, 1) := by decide +kernel
theorem dX12_isLadder_1 : decode cX12_isLadder 1 = .ok (.i2l, 1) := by decide +kernel
theorem dX12_isLadder_2 : decode cX12_isLadder 2 = .ok (.lconst 0, 1) := by decide +kernel
theorem dX12_isLadder_3 : decode cX12_isLadder 3 = .ok (.aload_n 0, 1) := by decide +kernel
theorem dX12_isLadder_4 : decode cX12_isLadder 4 = .ok (.getfield 7, 3) := by decide +kernel
theorem dX12_isLadder_7 : decode cX12_isLadder 7 = .ok (.iconst 1, 1) := by decide +kernel
theorem dX12_isLadder_8 : decode cX12_isLadder 8 = .ok (.iaload, 1) := by decide +kernel
theorem dX12_isLadder_9 : decode cX12_isLadder 9 = .ok (.iconst 1, 1) := by decide +kernel
theorem dX12_isLadder_10 : decode cX12_isLadder 10 = .ok (.isub, 1) := by decide +kernel
theorem dX12_isLadder_11 : decode cX12_isLadder 11 = .ok (.i2l, 1) := by decide +kernel
theorem dX12_isLadder_12 : decode cX12_isLadder 12 = .ok (.invokestatic 65, 3) := by decide +kernel
theorem dX12_isLadder_15 : decode cX12_isLadder 15 = .ok (.ireturn, 1) := by decide +kernel
theorem dX12_isPerson_0 : decode cX12_isPerson 0 = .ok (.iload_n 1, 1) := by decide +kernel
theorem dX12_isPerson_1 : decode cX12_isPerson 1 = .ok (.i2l, 1) := by decide +kernel
theorem dX12_isPerson_2 : decode cX12_isPerson 2 = .ok (.lconst 0, 1) := by decide +kernel
theorem dX12_isPerson_3 : decode cX12_isPerson 3 = .ok (.aload_n 0, 1) := by decide +kernel
theorem dX12_isPerson_4 : decode cX12_isPerson 4 = .ok (.getfield 7, 3) := by decide +kernel
theorem dX12_isPerson_7 : decode cX12_isPerson 7 = .ok (.iconst 2, 1) := by decide +kernel
theorem dX12_isPerson_8 : decode cX12_isPerson 8 = .ok (.iaload, 1) := by decide +kernel
theorem dX12_isPerson_9 : decode cX12_isPerson 9 = .ok (.iconst 1, 1) := by decide +kernel
theorem dX12_isPerson_10 : decode cX12_isPerson 10 = .ok (.isub, 1) := by decide +kernel
theorem dX12_isPerson_11 : decode cX12_isPerson 11 = .ok (.i2l, 1) := by decide +kernel
theorem dX12_isPerson_12 : decode cX12_isPerson 12 = .ok (.invokestatic 65, 3) := by decide +kernel
theorem dX12_isPerson_15 : decode cX12_isPerson 15 = .ok (.ireturn, 1) := by decide +kernel
theorem dX12_isText_0 : decode cX12_isText 0 = .ok (.iload_n 1, 1) := by decide +kernel
theorem dX12_isText_1 : decode cX12_isText 1 = .ok (.i2l, 1) := by decide +kernel
theorem dX12_isText_2 : decode cX12_isText 2 = .ok (.lconst 0, 1) := by decide +kernel
theorem dX12_isText_3 : decode cX12_isText 3 = .ok (.aload_n 0, 1) := by decide +kernel
theorem dX12_isText_4 : decode cX12_isText 4 = .ok (.getfield 7, 3) := by decide +kernel
theorem dX12_isText_7 : decode cX12_isText 7 = .ok (.iconst 3, 1) := by decide +kernel
theorem dX12_isText_8 : decode cX12_isText 8 = .ok (.iaload, 1) := by decide +kernel
theorem dX12_isText_9 : decode cX12_isText 9 = .ok (.iconst 1, 1) := by decide +kernel
theorem dX12_isText_10 : decode cX12_isText 10 = .ok (.isub, 1) := by decide +kernel
theorem dX12_isText_11 : decode cX12_isText 11 = .ok (.i2l, 1) := by decide +kernel
theorem dX12_isText_12 : decode cX12_isText 12 = .ok (.invokestatic 65, 3) := by decide +kernel
theorem dX12_isText_15 : decode cX12_isText 15 = .ok (.ireturn, 1) := by decide +kernel
theorem dX12_drawn_0 : decode cX12_drawn 0 = .ok (.aload_n 0, 1) := by decide +kernel
theorem dX12_drawn_1 : decode cX12_drawn 1 = .ok (.getfield 7, 3) := by decide +kernel
theorem dX12_drawn_4 : decode cX12_drawn 4 = .ok (.bipush 6, 2) := by decide +kernel
theorem dX12_drawn_6 : decode cX12_drawn 6 = .ok (.aload_n 0, 1) := by decide +kernel
theorem dX12_drawn_7 : decode cX12_drawn 7 = .ok (.getfield 7, 3) := by decide +kernel
theorem dX12_drawn_10 : decode cX12_drawn 10 = .ok (.bipush 6, 2) := by decide +kernel
theorem dX12_drawn_12 : decode cX12_drawn 12 = .ok (.iaload, 1) := by decide +kernel
theorem dX12_drawn_13 : decode cX12_drawn 13 = .ok (.ldc 69, 2) := by decide +kernel
theorem dX12_drawn_15 : decode cX12_drawn 15 = .ok (.imul, 1) := by decide +kernel
theorem dX12_drawn_16 : decode cX12_drawn 16 = .ok (.sipush 12345, 3) := by decide +kernel
theorem dX12_drawn_19 : decode cX12_drawn 19 = .ok (.iadd, 1) := by decide +kernel
theorem dX12_drawn_20 : decode cX12_drawn 20 = .ok (.iastore, 1) := by decide +kernel
theorem dX12_drawn_21 : decode cX12_drawn 21 = .ok (.aload_n 0, 1) := by decide +kernel
theorem dX12_drawn_22 : decode cX12_drawn 22 = .ok (.getfield 7, 3) := by decide +kernel
theorem dX12_drawn_25 : decode cX12_drawn 25 = .ok (.bipush 6, 2) := by decide +kernel
theorem dX12_drawn_27 : decode cX12_drawn 27 = .ok (.iaload, 1) := by decide +kernel
theorem dX12_drawn_28 : decode cX12_drawn 28 = .ok (.bipush 8, 2) := by decide +kernel
theorem dX12_drawn_30 : decode cX12_drawn 30 = .ok (.iushr, 1) := by decide +kernel
theorem dX12_drawn_31 : decode cX12_drawn 31 = .ok (.ireturn, 1) := by decide +kernel
theorem dX12_ones_0 : decode cX12_ones 0 = .ok (.iconst 0, 1) := by decide +kernel
theorem dX12_ones_1 : decode cX12_ones 1 = .ok (.istore_n 1, 1) := by decide +kernel
theorem dX12_ones_2 : decode cX12_ones 2 = .ok (.iconst 0, 1) := by decide +kernel
theorem dX12_ones_3 : decode cX12_ones 3 = .ok (.istore_n 2, 1) := by decide +kernel
theorem dX12_ones_4 : decode cX12_ones 4 = .ok (.iload_n 2, 1) := by decide +kernel
theorem dX12_ones_5 : decode cX12_ones 5 = .ok (.bipush 10, 2) := by decide +kernel
theorem dX12_ones_7 : decode cX12_ones 7 = .ok (.if_icmp .ge 17, 3) := by decide +kernel
theorem dX12_ones_10 : decode cX12_ones 10 = .ok (.iload_n 1, 1) := by decide +kernel
theorem dX12_ones_11 : decode cX12_ones 11 = .ok (.iload_n 0, 1) := by decide +kernel
theorem dX12_ones_12 : decode cX12_ones 12 = .ok (.iload_n 2, 1) := by decide +kernel
theorem dX12_ones_13 : decode cX12_ones 13 = .ok (.ishr, 1) := by decide +kernel
theorem dX12_ones_14 : decode cX12_ones 14 = .ok (.iconst 1, 1) := by decide +kernel
theorem dX12_ones_15 : decode cX12_ones 15 = .ok (.iand, 1) := by decide +kernel
theorem dX12_ones_16 : decode cX12_ones 16 = .ok (.iadd, 1) := by decide +kernel
theorem dX12_ones_17 : decode cX12_ones 17 = .ok (.istore_n 1, 1) := by decide +kernel
theorem dX12_ones_18 : decode cX12_ones 18 = .ok (.iinc 2 1, 3) := by decide +kernel
theorem dX12_ones_21 : decode cX12_ones 21 = .ok (.goto (-17), 3) := by decide +kernel
theorem dX12_ones_24 : decode cX12_ones 24 = .ok (.iload_n 1, 1) := by decide +kernel
theorem dX12_ones_25 : decode cX12_ones 25 = .ok (.ireturn, 1) := by decide +kernel
theorem dX12_peopleOn_0 : decode cX12_peopleOn 0 = .ok (.iconst 0, 1) := by decide +kernel
theorem dX12_peopleOn_1 : decode cX12_peopleOn 1 = .ok (.istore_n 2, 1) := by decide +kernel
theorem dX12_peopleOn_2 : decode cX12_peopleOn 2 = .ok (.iconst 0, 1) := by decide +kernel
theorem dX12_peopleOn_3 : decode cX12_peopleOn 3 = .ok (.istore_n 3, 1) := by decide +kernel
theorem dX12_peopleOn_4 : decode cX12_peopleOn 4 = .ok (.iload_n 3, 1) := by decide +kernel
theorem dX12_peopleOn_5 : decode cX12_peopleOn 5 = .ok (.aload_n 0, 1) := by decide +kernel
theorem dX12_peopleOn_6 : decode cX12_peopleOn 6 = .ok (.getfield 7, 3) := by decide +kernel
theorem dX12_peopleOn_9 : decode cX12_peopleOn 9 = .ok (.iconst 2, 1) := by decide +kernel
theorem dX12_peopleOn_10 : decode cX12_peopleOn 10 = .ok (.iaload, 1) := by decide +kernel
theorem dX12_peopleOn_11 : decode cX12_peopleOn 11 = .ok (.if_icmp .ge 26, 3) := by decide +kernel
theorem dX12_peopleOn_14 : decode cX12_peopleOn 14 = .ok (.iload_n 2, 1) := by decide +kernel
theorem dX12_peopleOn_15 : decode cX12_peopleOn 15 = .ok (.aload_n 0, 1) := by decide +kernel
theorem dX12_peopleOn_16 : decode cX12_peopleOn 16 = .ok (.iload_n 3, 1) := by decide +kernel
theorem dX12_peopleOn_17 : decode cX12_peopleOn 17 = .ok (.invokevirtual 70, 3) := by decide +kernel
theorem dX12_peopleOn_20 : decode cX12_peopleOn 20 = .ok (.iload_n 1, 1) := by decide +kernel
theorem dX12_peopleOn_21 : decode cX12_peopleOn 21 = .ok (.if_icmp .ne 7, 3) := by decide +kernel
theorem dX12_peopleOn_24 : decode cX12_peopleOn 24 = .ok (.iconst 1, 1) := by decide +kernel
theorem dX12_peopleOn_25 : decode cX12_peopleOn 25 = .ok (.goto 4, 3) := by decide +kernel
theorem dX12_peopleOn_28 : decode cX12_peopleOn 28 = .ok (.iconst 0, 1) := by decide +kernel
theorem dX12_peopleOn_29 : decode cX12_peopleOn 29 = .ok (.iadd, 1) := by decide +kernel
theorem dX12_peopleOn_30 : decode cX12_peopleOn 30 = .ok (.istore_n 2, 1) := by decide +kernel
theorem dX12_peopleOn_31 : decode cX12_peopleOn 31 = .ok (.iinc 3 1, 3) := by decide +kernel
theorem dX12_peopleOn_34 : decode cX12_peopleOn 34 = .ok (.goto (-30), 3) := by decide +kernel
theorem dX12_peopleOn_37 : decode cX12_peopleOn 37 = .ok (.iload_n 2, 1) := by decide +kernel
theorem dX12_peopleOn_38 : decode cX12_peopleOn 38 = .ok (.ireturn, 1) := by decide +kernel
theorem dX12_comes_0 : decode cX12_comes 0 = .ok (.aload_n 0, 1) := by decide +kernel
theorem dX12_comes_1 : decode cX12_comes 1 = .ok (.getfield 7, 3) := by decide +kernel
theorem dX12_comes_4 : decode cX12_comes 4 = .ok (.bipush 8, 2) := by decide +kernel
theorem dX12_comes_6 : decode cX12_comes 6 = .ok (.iconst 2, 1) := by decide +kernel
theorem dX12_comes_7 : decode cX12_comes 7 = .ok (.aload_n 0, 1) := by decide +kernel
theorem dX12_comes_8 : decode cX12_comes 8 = .ok (.getfield 7, 3) := by decide +kernel
theorem dX12_comes_11 : decode cX12_comes 11 = .ok (.iconst 0, 1) := by decide +kernel
theorem dX12_comes_12 : decode cX12_comes 12 = .ok (.iaload, 1) := by decide +kernel
theorem dX12_comes_13 : decode cX12_comes 13 = .ok (.imul, 1) := by decide +kernel
theorem dX12_comes_14 : decode cX12_comes 14 = .ok (.iadd, 1) := by decide +kernel
theorem dX12_comes_15 : decode cX12_comes 15 = .ok (.iload_n 1, 1) := by decide +kernel
theorem dX12_comes_16 : decode cX12_comes 16 = .ok (.iastore, 1) := by decide +kernel
theorem dX12_comes_17 : decode cX12_comes 17 = .ok (.aload_n 0, 1) := by decide +kernel
theorem dX12_comes_18 : decode cX12_comes 18 = .ok (.getfield 7, 3) := by decide +kernel
theorem dX12_comes_21 : decode cX12_comes 21 = .ok (.bipush 8, 2) := by decide +kernel
theorem dX12_comes_23 : decode cX12_comes 23 = .ok (.iconst 2, 1) := by decide +kernel
theorem dX12_comes_24 : decode cX12_comes 24 = .ok (.aload_n 0, 1) := by decide +kernel
theorem dX12_comes_25 : decode cX12_comes 25 = .ok (.getfield 7, 3) := by decide +kernel
theorem dX12_comes_28 : decode cX12_comes 28 = .ok (.iconst 0, 1) := by decide +kernel
theorem dX12_comes_29 : decode cX12_comes 29 = .ok (.iaload, 1) := by decide +kernel
theorem dX12_comes_30 : decode cX12_comes 30 = .ok (.imul, 1) := by decide +kernel
theorem dX12_comes_31 : decode cX12_comes 31 = .ok (.iadd, 1) := by decide +kernel
theorem dX12_comes_32 : decode cX12_comes 32 = .ok (.iconst 1, 1) := by decide +kernel
theorem dX12_comes_33 : decode cX12_comes 33 = .ok (.iadd, 1) := by decide +kernel
theorem dX12_comes_34 : decode cX12_comes 34 = .ok (.iload_n 2, 1) := by decide +kernel
theorem dX12_comes_35 : decode cX12_comes 35 = .ok (.iastore, 1) := by decide +kernel
theorem dX12_comes_36 : decode cX12_comes 36 = .ok (.aload_n 0, 1) := by decide +kernel
theorem dX12_comes_37 : decode cX12_comes 37 = .ok (.getfield 7, 3) := by decide +kernel
theorem dX12_comes_40 : decode cX12_comes 40 = .ok (.iconst 0, 1) := by decide +kernel
theorem dX12_comes_41 : decode cX12_comes 41 = .ok (.dup2, 1) := by decide +kernel
theorem dX12_comes_42 : decode cX12_comes 42 = .ok (.iaload, 1) := by decide +kernel
theorem dX12_comes_43 : decode cX12_comes 43 = .ok (.iconst 1, 1) := by decide +kernel
theorem dX12_comes_44 : decode cX12_comes 44 = .ok (.iadd, 1) := by decide +kernel
theorem dX12_comes_45 : decode cX12_comes 45 = .ok (.iastore, 1) := by decide +kernel
theorem dX12_comes_46 : decode cX12_comes 46 = .ok (.return_, 1) := by decide +kernel
theorem dX12_ledge_0 : decode cX12_ledge 0 = .ok (.iload_n 1, 1) := by decide +kernel
theorem dX12_ledge_1 : decode cX12_ledge 1 = .ok (.i2l, 1) := by decide +kernel
theorem dX12_ledge_2 : decode cX12_ledge 2 = .ok (.lconst 0, 1) := by decide +kernel
theorem dX12_ledge_3 : decode cX12_ledge 3 = .ok (.ldc2_w 74, 3) := by decide +kernel
theorem dX12_ledge_6 : decode cX12_ledge 6 = .ok (.invokestatic 65, 3) := by decide +kernel
theorem dX12_ledge_9 : decode cX12_ledge 9 = .ok (.ifCond .eq 15, 3) := by decide +kernel
theorem dX12_ledge_12 : decode cX12_ledge 12 = .ok (.iload_n 2, 1) := by decide +kernel
theorem dX12_ledge_13 : decode cX12_ledge 13 = .ok (.i2l, 1) := by decide +kernel
theorem dX12_ledge_14 : decode cX12_ledge 14 = .ok (.lconst 0, 1) := by decide +kernel
theorem dX12_ledge_15 : decode cX12_ledge 15 = .ok (.ldc2_w 76, 3) := by decide +kernel
theorem dX12_ledge_18 : decode cX12_ledge 18 = .ok (.invokestatic 65, 3) := by decide +kernel
theorem dX12_ledge_21 : decode cX12_ledge 21 = .ok (.ifCond .ne 6, 3) := by decide +kernel
theorem dX12_ledge_24 : decode cX12_ledge 24 = .ok (.ldc 78, 2) := by decide +kernel
theorem dX12_ledge_26 : decode cX12_ledge 26 = .ok (.ireturn, 1) := by decide +kernel
theorem dX12_ledge_27 : decode cX12_ledge 27 = .ok (.aload_n 0, 1) := by decide +kernel
theorem dX12_ledge_28 : decode cX12_ledge 28 = .ok (.getfield 7, 3) := by decide +kernel
theorem dX12_ledge_31 : decode cX12_ledge 31 = .ok (.iconst 0, 1) := by decide +kernel
theorem dX12_ledge_32 : decode cX12_ledge 32 = .ok (.iaload, 1) := by decide +kernel
theorem dX12_ledge_33 : decode cX12_ledge 33 = .ok (.bipush 10, 2) := by decide +kernel
theorem dX12_ledge_35 : decode cX12_ledge 35 = .ok (.if_icmp .ne 6, 3) := by decide +kernel
theorem dX12_ledge_38 : decode cX12_ledge 38 = .ok (.ldc 79, 2) := by decide +kernel
theorem dX12_ledge_40 : decode cX12_ledge 40 = .ok (.ireturn, 1) := by decide +kernel
theorem dX12_ledge_41 : decode cX12_ledge 41 = .ok (.aload_n 0, 1) := by decide +kernel
theorem dX12_ledge_42 : decode cX12_ledge 42 = .ok (.iload_n 1, 1) := by decide +kernel
theorem dX12_ledge_43 : decode cX12_ledge 43 = .ok (.iload_n 2, 1) := by decide +kernel
theorem dX12_ledge_44 : decode cX12_ledge 44 = .ok (.invokevirtual 80, 3) := by decide +kernel
theorem dX12_ledge_47 : decode cX12_ledge 47 = .ok (.aload_n 0, 1) := by decide +kernel
theorem dX12_ledge_48 : decode cX12_ledge 48 = .ok (.getfield 7, 3) := by decide +kernel
theorem dX12_ledge_51 : decode cX12_ledge 51 = .ok (.iconst 0, 1) := by decide +kernel
theorem dX12_ledge_52 : decode cX12_ledge 52 = .ok (.iaload, 1) := by decide +kernel
theorem dX12_ledge_53 : decode cX12_ledge 53 = .ok (.iconst 1, 1) := by decide +kernel
theorem dX12_ledge_54 : decode cX12_ledge 54 = .ok (.isub, 1) := by decide +kernel
theorem dX12_ledge_55 : decode cX12_ledge 55 = .ok (.ireturn, 1) := by decide +kernel
theorem dX12_ledgeTold_0 : decode cX12_ledgeTold 0 = .ok (.aload_n 0, 1) := by decide +kernel
theorem dX12_ledgeTold_1 : decode cX12_ledgeTold 1 = .ok (.iload_n 1, 1) := by decide +kernel
theorem dX12_ledgeTold_2 : decode cX12_ledgeTold 2 = .ok (.invokevirtual 84, 3) := by decide +kernel
theorem dX12_ledgeTold_5 : decode cX12_ledgeTold 5 = .ok (.ifCond .eq 15, 3) := by decide +kernel
theorem dX12_ledgeTold_8 : decode cX12_ledgeTold 8 = .ok (.iload_n 2, 1) := by decide +kernel
theorem dX12_ledgeTold_9 : decode cX12_ledgeTold 9 = .ok (.i2l, 1) := by decide +kernel
theorem dX12_ledgeTold_10 : decode cX12_ledgeTold 10 = .ok (.lconst 0, 1) := by decide +kernel
theorem dX12_ledgeTold_11 : decode cX12_ledgeTold 11 = .ok (.ldc2_w 88, 3) := by decide +kernel
theorem dX12_ledgeTold_14 : decode cX12_ledgeTold 14 = .ok (.invokestatic 65, 3) := by decide +kernel
theorem dX12_ledgeTold_17 : decode cX12_ledgeTold 17 = .ok (.ifCond .ne 6, 3) := by decide +kernel
theorem dX12_ledgeTold_20 : decode cX12_ledgeTold 20 = .ok (.ldc 78, 2) := by decide +kernel
theorem dX12_ledgeTold_22 : decode cX12_ledgeTold 22 = .ok (.ireturn, 1) := by decide +kernel
theorem dX12_ledgeTold_23 : decode cX12_ledgeTold 23 = .ok (.iconst 0, 1) := by decide +kernel
theorem dX12_ledgeTold_24 : decode cX12_ledgeTold 24 = .ok (.istore_n 3, 1) := by decide +kernel
theorem dX12_ledgeTold_25 : decode cX12_ledgeTold 25 = .ok (.iconst 0, 1) := by decide +kernel
theorem dX12_ledgeTold_26 : decode cX12_ledgeTold 26 = .ok (.istore 4, 2) := by decide +kernel
theorem dX12_ledgeTold_28 : decode cX12_ledgeTold 28 = .ok (.iload 4, 2) := by decide +kernel
theorem dX12_ledgeTold_30 : decode cX12_ledgeTold 30 = .ok (.aload_n 0, 1) := by decide +kernel
theorem dX12_ledgeTold_31 : decode cX12_ledgeTold 31 = .ok (.getfield 7, 3) := by decide +kernel
theorem dX12_ledgeTold_34 : decode cX12_ledgeTold 34 = .ok (.iconst 1, 1) := by decide +kernel
theorem dX12_ledgeTold_35 : decode cX12_ledgeTold 35 = .ok (.iaload, 1) := by decide +kernel
theorem dX12_ledgeTold_36 : decode cX12_ledgeTold 36 = .ok (.if_icmp .ge 31, 3) := by decide +kernel
theorem dX12_ledgeTold_39 : decode cX12_ledgeTold 39 = .ok (.iload_n 3, 1) := by decide +kernel
theorem dX12_ledgeTold_40 : decode cX12_ledgeTold 40 = .ok (.aload_n 0, 1) := by decide +kernel
theorem dX12_ledgeTold_41 : decode cX12_ledgeTold 41 = .ok (.iload 4, 2) := by decide +kernel
theorem dX12_ledgeTold_43 : decode cX12_ledgeTold 43 = .ok (.iconst 2, 1) := by decide +kernel
theorem dX12_ledgeTold_44 : decode cX12_ledgeTold 44 = .ok (.invokevirtual 90, 3) := by decide +kernel
theorem dX12_ledgeTold_47 : decode cX12_ledgeTold 47 = .ok (.iload_n 1, 1) := by decide +kernel
theorem dX12_ledgeTold_48 : decode cX12_ledgeTold 48 = .ok (.if_icmp .ne 10, 3) := by decide +kernel
theorem dX12_ledgeTold_51 : decode cX12_ledgeTold 51 = .ok (.iconst 1, 1) := by decide +kernel
theorem dX12_ledgeTold_52 : decode cX12_ledgeTold 52 = .ok (.iload 4, 2) := by decide +kernel
theorem dX12_ledgeTold_54 : decode cX12_ledgeTold 54 = .ok (.ishl, 1) := by decide +kernel
theorem dX12_ledgeTold_55 : decode cX12_ledgeTold 55 = .ok (.goto 4, 3) := by decide +kernel
theorem dX12_ledgeTold_58 : decode cX12_ledgeTold 58 = .ok (.iconst 0, 1) := by decide +kernel
theorem dX12_ledgeTold_59 : decode cX12_ledgeTold 59 = .ok (.ior, 1) := by decide +kernel
theorem dX12_ledgeTold_60 : decode cX12_ledgeTold 60 = .ok (.istore_n 3, 1) := by decide +kernel
theorem dX12_ledgeTold_61 : decode cX12_ledgeTold 61 = .ok (.iinc 4 1, 3) := by decide +kernel
theorem dX12_ledgeTold_64 : decode cX12_ledgeTold 64 = .ok (.goto (-36), 3) := by decide +kernel
theorem dX12_ledgeTold_67 : decode cX12_ledgeTold 67 = .ok (.iload_n 2, 1) := by decide +kernel
theorem dX12_ledgeTold_68 : decode cX12_ledgeTold 68 = .ok (.iconst 2, 1) := by decide +kernel
theorem dX12_ledgeTold_69 : decode cX12_ledgeTold 69 = .ok (.if_icmp .ge 19, 3) := by decide +kernel
theorem dX12_ledgeTold_72 : decode cX12_ledgeTold 72 = .ok (.aload_n 0, 1) := by decide +kernel
theorem dX12_ledgeTold_73 : decode cX12_ledgeTold 73 = .ok (.getfield 7, 3) := by decide +kernel
theorem dX12_ledgeTold_76 : decode cX12_ledgeTold 76 = .ok (.bipush 8, 2) := by decide +kernel
theorem dX12_ledgeTold_78 : decode cX12_ledgeTold 78 = .ok (.iconst 2, 1) := by decide +kernel
theorem dX12_ledgeTold_79 : decode cX12_ledgeTold 79 = .ok (.iload_n 1, 1) := by decide +kernel
theorem dX12_ledgeTold_80 : decode cX12_ledgeTold 80 = .ok (.imul, 1) := by decide +kernel
theorem dX12_ledgeTold_81 : decode cX12_ledgeTold 81 = .ok (.iadd, 1) := by decide +kernel
theorem dX12_ledgeTold_82 : decode cX12_ledgeTold 82 = .ok (.iload_n 2, 1) := by decide +kernel
theorem dX12_ledgeTold_83 : decode cX12_ledgeTold 83 = .ok (.iadd, 1) := by decide +kernel
theorem dX12_ledgeTold_84 : decode cX12_ledgeTold 84 = .ok (.iaload, 1) := by decide +kernel
theorem dX12_ledgeTold_85 : decode cX12_ledgeTold 85 = .ok (.goto 17, 3) := by decide +kernel
theorem dX12_ledgeTold_88 : decode cX12_ledgeTold 88 = .ok (.iload_n 2, 1) := by decide +kernel
theorem dX12_ledgeTold_89 : decode cX12_ledgeTold 89 = .ok (.iconst 2, 1) := by decide +kernel
theorem dX12_ledgeTold_90 : decode cX12_ledgeTold 90 = .ok (.if_icmp .ne 11, 3) := by decide +kernel
theorem dX12_ledgeTold_93 : decode cX12_ledgeTold 93 = .ok (.aload_n 0, 1) := by decide +kernel
theorem dX12_ledgeTold_94 : decode cX12_ledgeTold 94 = .ok (.iload_n 1, 1) := by decide +kernel
theorem dX12_ledgeTold_95 : decode cX12_ledgeTold 95 = .ok (.invokevirtual 94, 3) := by decide +kernel
theorem dX12_ledgeTold_98 : decode cX12_ledgeTold 98 = .ok (.goto 4, 3) := by decide +kernel
theorem dX12_ledgeTold_101 : decode cX12_ledgeTold 101 = .ok (.iload_n 3, 1) := by decide +kernel
theorem dX12_ledgeTold_102 : decode cX12_ledgeTold 102 = .ok (.ireturn, 1) := by decide +kernel
theorem dX12_change_0 : decode cX12_change 0 = .ok (.aload_n 0, 1) := by decide +kernel
theorem dX12_change_1 : decode cX12_change 1 = .ok (.iload_n 1, 1) := by decide +kernel
theorem dX12_change_2 : decode cX12_change 2 = .ok (.invokevirtual 84, 3) := by decide +kernel
theorem dX12_change_5 : decode cX12_change 5 = .ok (.ifCond .eq 35, 3) := by decide +kernel
theorem dX12_change_8 : decode cX12_change 8 = .ok (.iload_n 2, 1) := by decide +kernel
theorem dX12_change_9 : decode cX12_change 9 = .ok (.i2l, 1) := by decide +kernel
theorem dX12_change_10 : decode cX12_change 10 = .ok (.lconst 0, 1) := by decide +kernel
theorem dX12_change_11 : decode cX12_change 11 = .ok (.lconst 1, 1) := by decide +kernel
theorem dX12_change_12 : decode cX12_change 12 = .ok (.invokestatic 65, 3) := by decide +kernel
theorem dX12_change_15 : decode cX12_change 15 = .ok (.ifCond .eq 25, 3) := by decide +kernel
theorem dX12_change_18 : decode cX12_change 18 = .ok (.iload_n 3, 1) := by decide +kernel
theorem dX12_change_19 : decode cX12_change 19 = .ok (.i2l, 1) := by decide +kernel
theorem dX12_change_20 : decode cX12_change 20 = .ok (.lconst 0, 1) := by decide +kernel
theorem dX12_change_21 : decode cX12_change 21 = .ok (.iload_n 2, 1) := by decide +kernel
theorem dX12_change_22 : decode cX12_change 22 = .ok (.ifCond .ne 9, 3) := by decide +kernel
theorem dX12_change_25 : decode cX12_change 25 = .ok (.ldc2_w 74, 3) := by decide +kernel
theorem dX12_change_28 : decode cX12_change 28 = .ok (.goto 6, 3) := by decide +kernel
theorem dX12_change_31 : decode cX12_change 31 = .ok (.ldc2_w 76, 3) := by decide +kernel
theorem dX12_change_34 : decode cX12_change 34 = .ok (.invokestatic 65, 3) := by decide +kernel
theorem dX12_change_37 : decode cX12_change 37 = .ok (.ifCond .ne 6, 3) := by decide +kernel
theorem dX12_change_40 : decode cX12_change 40 = .ok (.ldc 78, 2) := by decide +kernel
theorem dX12_change_42 : decode cX12_change 42 = .ok (.ireturn, 1) := by decide +kernel
theorem dX12_change_43 : decode cX12_change 43 = .ok (.aload_n 0, 1) := by decide +kernel
theorem dX12_change_44 : decode cX12_change 44 = .ok (.bipush 8, 2) := by decide +kernel
theorem dX12_change_46 : decode cX12_change 46 = .ok (.iconst 2, 1) := by decide +kernel
theorem dX12_change_47 : decode cX12_change 47 = .ok (.iload_n 1, 1) := by decide +kernel
theorem dX12_change_48 : decode cX12_change 48 = .ok (.imul, 1) := by decide +kernel
theorem dX12_change_49 : decode cX12_change 49 = .ok (.iadd, 1) := by decide +kernel
theorem dX12_change_50 : decode cX12_change 50 = .ok (.iload_n 2, 1) := by decide +kernel
theorem dX12_change_51 : decode cX12_change 51 = .ok (.iadd, 1) := by decide +kernel
theorem dX12_change_52 : decode cX12_change 52 = .ok (.iload_n 3, 1) := by decide +kernel
theorem dX12_change_53 : decode cX12_change 53 = .ok (.invokevirtual 97, 3) := by decide +kernel
theorem dX12_change_56 : decode cX12_change 56 = .ok (.ireturn, 1) := by decide +kernel
theorem dX12_deal_0 : decode cX12_deal 0 = .ok (.iload_n 1, 1) := by decide +kernel
theorem dX12_deal_1 : decode cX12_deal 1 = .ok (.i2l, 1) := by decide +kernel
theorem dX12_deal_2 : decode cX12_deal 2 = .ok (.lconst 1, 1) := by decide +kernel
theorem dX12_deal_3 : decode cX12_deal 3 = .ok (.ldc2_w 100, 3) := by decide +kernel
theorem dX12_deal_6 : decode cX12_deal 6 = .ok (.invokestatic 65, 3) := by decide +kernel
theorem dX12_deal_9 : decode cX12_deal 9 = .ok (.ifCond .ne 6, 3) := by decide +kernel
theorem dX12_deal_12 : decode cX12_deal 12 = .ok (.ldc 78, 2) := by decide +kernel
theorem dX12_deal_14 : decode cX12_deal 14 = .ok (.ireturn, 1) := by decide +kernel
theorem dX12_deal_15 : decode cX12_deal 15 = .ok (.iconst 0, 1) := by decide +kernel
theorem dX12_deal_16 : decode cX12_deal 16 = .ok (.istore_n 2, 1) := by decide +kernel
theorem dX12_deal_17 : decode cX12_deal 17 = .ok (.iload_n 2, 1) := by decide +kernel
theorem dX12_deal_18 : decode cX12_deal 18 = .ok (.iload_n 1, 1) := by decide +kernel
theorem dX12_deal_19 : decode cX12_deal 19 = .ok (.if_icmp .ge 40, 3) := by decide +kernel
theorem dX12_deal_22 : decode cX12_deal 22 = .ok (.aload_n 0, 1) := by decide +kernel
theorem dX12_deal_23 : decode cX12_deal 23 = .ok (.getfield 7, 3) := by decide +kernel
theorem dX12_deal_26 : decode cX12_deal 26 = .ok (.iconst 0, 1) := by decide +kernel
theorem dX12_deal_27 : decode cX12_deal 27 = .ok (.iaload, 1) := by decide +kernel
theorem dX12_deal_28 : decode cX12_deal 28 = .ok (.bipush 10, 2) := by decide +kernel
theorem dX12_deal_30 : decode cX12_deal 30 = .ok (.if_icmp .ge 29, 3) := by decide +kernel
theorem dX12_deal_33 : decode cX12_deal 33 = .ok (.aload_n 0, 1) := by decide +kernel
theorem dX12_deal_34 : decode cX12_deal 34 = .ok (.invokevirtual 102, 3) := by decide +kernel
theorem dX12_deal_37 : decode cX12_deal 37 = .ok (.bipush 100, 2) := by decide +kernel
theorem dX12_deal_39 : decode cX12_deal 39 = .ok (.irem, 1) := by decide +kernel
theorem dX12_deal_40 : decode cX12_deal 40 = .ok (.istore_n 3, 1) := by decide +kernel
theorem dX12_deal_41 : decode cX12_deal 41 = .ok (.aload_n 0, 1) := by decide +kernel
theorem dX12_deal_42 : decode cX12_deal 42 = .ok (.iload_n 3, 1) := by decide +kernel
theorem dX12_deal_43 : decode cX12_deal 43 = .ok (.aload_n 0, 1) := by decide +kernel
theorem dX12_deal_44 : decode cX12_deal 44 = .ok (.invokevirtual 102, 3) := by decide +kernel
theorem dX12_deal_47 : decode cX12_deal 47 = .ok (.bipush 30, 2) := by decide +kernel
theorem dX12_deal_49 : decode cX12_deal 49 = .ok (.irem, 1) := by decide +kernel
theorem dX12_deal_50 : decode cX12_deal 50 = .ok (.invokevirtual 80, 3) := by decide +kernel
theorem dX12_deal_53 : decode cX12_deal 53 = .ok (.iinc 2 1, 3) := by decide +kernel
theorem dX12_deal_56 : decode cX12_deal 56 = .ok (.goto (-39), 3) := by decide +kernel
theorem dX12_deal_59 : decode cX12_deal 59 = .ok (.iload_n 2, 1) := by decide +kernel
theorem dX12_deal_60 : decode cX12_deal 60 = .ok (.ireturn, 1) := by decide +kernel
theorem dX12_seed_0 : decode cX12_seed 0 = .ok (.aload_n 0, 1) := by decide +kernel
theorem dX12_seed_1 : decode cX12_seed 1 = .ok (.bipush 6, 2) := by decide +kernel
theorem dX12_seed_3 : decode cX12_seed 3 = .ok (.iload_n 1, 1) := by decide +kernel
theorem dX12_seed_4 : decode cX12_seed 4 = .ok (.invokevirtual 97, 3) := by decide +kernel
theorem dX12_seed_7 : decode cX12_seed 7 = .ok (.ireturn, 1) := by decide +kernel
theorem dX12_ladder_0 : decode cX12_ladder 0 = .ok (.iload_n 1, 1) := by decide +kernel
theorem dX12_ladder_1 : decode cX12_ladder 1 = .ok (.i2l, 1) := by decide +kernel
theorem dX12_ladder_2 : decode cX12_ladder 2 = .ok (.lconst 0, 1) := by decide +kernel
theorem dX12_ladder_3 : decode cX12_ladder 3 = .ok (.ldc2_w 106, 3) := by decide +kernel
theorem dX12_ladder_6 : decode cX12_ladder 6 = .ok (.invokestatic 65, 3) := by decide +kernel
theorem dX12_ladder_9 : decode cX12_ladder 9 = .ok (.ifCond .eq 38, 3) := by decide +kernel
theorem dX12_ladder_12 : decode cX12_ladder 12 = .ok (.iload_n 2, 1) := by decide +kernel
theorem dX12_ladder_13 : decode cX12_ladder 13 = .ok (.i2l, 1) := by decide +kernel
theorem dX12_ladder_14 : decode cX12_ladder 14 = .ok (.lconst 1, 1) := by decide +kernel
theorem dX12_ladder_15 : decode cX12_ladder 15 = .ok (.ldc2_w 74, 3) := by decide +kernel
theorem dX12_ladder_18 : decode cX12_ladder 18 = .ok (.invokestatic 65, 3) := by decide +kernel
theorem dX12_ladder_21 : decode cX12_ladder 21 = .ok (.ifCond .eq 26, 3) := by decide +kernel
theorem dX12_ladder_24 : decode cX12_ladder 24 = .ok (.aload_n 0, 1) := by decide +kernel
theorem dX12_ladder_25 : decode cX12_ladder 25 = .ok (.iload_n 3, 1) := by decide +kernel
theorem dX12_ladder_26 : decode cX12_ladder 26 = .ok (.invokevirtual 84, 3) := by decide +kernel
theorem dX12_ladder_29 : decode cX12_ladder 29 = .ok (.ifCond .eq 18, 3) := by decide +kernel
theorem dX12_ladder_32 : decode cX12_ladder 32 = .ok (.aload_n 0, 1) := by decide +kernel
theorem dX12_ladder_33 : decode cX12_ladder 33 = .ok (.iload 4, 2) := by decide +kernel
theorem dX12_ladder_35 : decode cX12_ladder 35 = .ok (.invokevirtual 84, 3) := by decide +kernel
theorem dX12_ladder_38 : decode cX12_ladder 38 = .ok (.ifCond .eq 9, 3) := by decide +kernel
theorem dX12_ladder_41 : decode cX12_ladder 41 = .ok (.iload_n 3, 1) := by decide +kernel
theorem dX12_ladder_42 : decode cX12_ladder 42 = .ok (.iload 4, 2) := by decide +kernel
theorem dX12_ladder_44 : decode cX12_ladder 44 = .ok (.if_icmp .ne 6, 3) := by decide +kernel
theorem dX12_ladder_47 : decode cX12_ladder 47 = .ok (.ldc 78, 2) := by decide +kernel
theorem dX12_ladder_49 : decode cX12_ladder 49 = .ok (.ireturn, 1) := by decide +kernel
theorem dX12_ladder_50 : decode cX12_ladder 50 = .ok (.aload_n 0, 1) := by decide +kernel
theorem dX12_ladder_51 : decode cX12_ladder 51 = .ok (.getfield 7, 3) := by decide +kernel
theorem dX12_ladder_54 : decode cX12_ladder 54 = .ok (.iconst 1, 1) := by decide +kernel
theorem dX12_ladder_55 : decode cX12_ladder 55 = .ok (.iaload, 1) := by decide +kernel
theorem dX12_ladder_56 : decode cX12_ladder 56 = .ok (.bipush 8, 2) := by decide +kernel
theorem dX12_ladder_58 : decode cX12_ladder 58 = .ok (.if_icmp .ne 6, 3) := by decide +kernel
theorem dX12_ladder_61 : decode cX12_ladder 61 = .ok (.ldc 79, 2) := by decide +kernel
theorem dX12_ladder_63 : decode cX12_ladder 63 = .ok (.ireturn, 1) := by decide +kernel
theorem dX12_ladder_64 : decode cX12_ladder 64 = .ok (.aload_n 0, 1) := by decide +kernel
theorem dX12_ladder_65 : decode cX12_ladder 65 = .ok (.getfield 7, 3) := by decide +kernel
theorem dX12_ladder_68 : decode cX12_ladder 68 = .ok (.iconst 1, 1) := by decide +kernel
theorem dX12_ladder_69 : decode cX12_ladder 69 = .ok (.iaload, 1) := by decide +kernel
theorem dX12_ladder_70 : decode cX12_ladder 70 = .ok (.istore 5, 2) := by decide +kernel
theorem dX12_ladder_72 : decode cX12_ladder 72 = .ok (.aload_n 0, 1) := by decide +kernel
theorem dX12_ladder_73 : decode cX12_ladder 73 = .ok (.getfield 7, 3) := by decide +kernel
theorem dX12_ladder_76 : decode cX12_ladder 76 = .ok (.iconst 1, 1) := by decide +kernel
theorem dX12_ladder_77 : decode cX12_ladder 77 = .ok (.dup2, 1) := by decide +kernel
theorem dX12_ladder_78 : decode cX12_ladder 78 = .ok (.iaload, 1) := by decide +kernel
theorem dX12_ladder_79 : decode cX12_ladder 79 = .ok (.iconst 1, 1) := by decide +kernel
theorem dX12_ladder_80 : decode cX12_ladder 80 = .ok (.iadd, 1) := by decide +kernel
theorem dX12_ladder_81 : decode cX12_ladder 81 = .ok (.iastore, 1) := by decide +kernel
theorem dX12_ladder_82 : decode cX12_ladder 82 = .ok (.aload_n 0, 1) := by decide +kernel
theorem dX12_ladder_83 : decode cX12_ladder 83 = .ok (.iload 5, 2) := by decide +kernel
theorem dX12_ladder_85 : decode cX12_ladder 85 = .ok (.iconst 0, 1) := by decide +kernel
theorem dX12_ladder_86 : decode cX12_ladder 86 = .ok (.iload_n 1, 1) := by decide +kernel
theorem dX12_ladder_87 : decode cX12_ladder 87 = .ok (.invokevirtual 108, 3) := by decide +kernel
theorem dX12_ladder_90 : decode cX12_ladder 90 = .ok (.aload_n 0, 1) := by decide +kernel
theorem dX12_ladder_91 : decode cX12_ladder 91 = .ok (.iload 5, 2) := by decide +kernel
theorem dX12_ladder_93 : decode cX12_ladder 93 = .ok (.iconst 1, 1) := by decide +kernel
theorem dX12_ladder_94 : decode cX12_ladder 94 = .ok (.iload_n 2, 1) := by decide +kernel
theorem dX12_ladder_95 : decode cX12_ladder 95 = .ok (.invokevirtual 108, 3) := by decide +kernel
theorem dX12_ladder_98 : decode cX12_ladder 98 = .ok (.aload_n 0, 1) := by decide +kernel
theorem dX12_ladder_99 : decode cX12_ladder 99 = .ok (.iload 5, 2) := by decide +kernel
theorem dX12_ladder_101 : decode cX12_ladder 101 = .ok (.iconst 2, 1) := by decide +kernel
theorem dX12_ladder_102 : decode cX12_ladder 102 = .ok (.iload_n 3, 1) := by decide +kernel
theorem dX12_ladder_103 : decode cX12_ladder 103 = .ok (.invokevirtual 108, 3) := by decide +kernel
theorem dX12_ladder_106 : decode cX12_ladder 106 = .ok (.aload_n 0, 1) := by decide +kernel
theorem dX12_ladder_107 : decode cX12_ladder 107 = .ok (.iload 5, 2) := by decide +kernel
theorem dX12_ladder_109 : decode cX12_ladder 109 = .ok (.iconst 3, 1) := by decide +kernel
theorem dX12_ladder_110 : decode cX12_ladder 110 = .ok (.iload 4, 2) := by decide +kernel
theorem dX12_ladder_112 : decode cX12_ladder 112 = .ok (.invokevirtual 108, 3) := by decide +kernel
theorem dX12_ladder_115 : decode cX12_ladder 115 = .ok (.aload_n 0, 1) := by decide +kernel
theorem dX12_ladder_116 : decode cX12_ladder 116 = .ok (.iload 5, 2) := by decide +kernel
theorem dX12_ladder_118 : decode cX12_ladder 118 = .ok (.iconst 4, 1) := by decide +kernel
theorem dX12_ladder_119 : decode cX12_ladder 119 = .ok (.iconst 0, 1) := by decide +kernel
theorem dX12_ladder_120 : decode cX12_ladder 120 = .ok (.invokevirtual 108, 3) := by decide +kernel
theorem dX12_ladder_123 : decode cX12_ladder 123 = .ok (.iload 5, 2) := by decide +kernel
theorem dX12_ladder_125 : decode cX12_ladder 125 = .ok (.ireturn, 1) := by decide +kernel
theorem dX12_apart_0 : decode cX12_apart 0 = .ok (.iload_n 0, 1) := by decide +kernel
theorem dX12_apart_1 : decode cX12_apart 1 = .ok (.iload_n 1, 1) := by decide +kernel
theorem dX12_apart_2 : decode cX12_apart 2 = .ok (.if_icmp .ge 9, 3) := by decide +kernel
theorem dX12_apart_5 : decode cX12_apart 5 = .ok (.iload_n 1, 1) := by decide +kernel
theorem dX12_apart_6 : decode cX12_apart 6 = .ok (.iload_n 0, 1) := by decide +kernel
theorem dX12_apart_7 : decode cX12_apart 7 = .ok (.isub, 1) := by decide +kernel
theorem dX12_apart_8 : decode cX12_apart 8 = .ok (.goto 6, 3) := by decide +kernel
theorem dX12_apart_11 : decode cX12_apart 11 = .ok (.iload_n 0, 1) := by decide +kernel
theorem dX12_apart_12 : decode cX12_apart 12 = .ok (.iload_n 1, 1) := by decide +kernel
theorem dX12_apart_13 : decode cX12_apart 13 = .ok (.isub, 1) := by decide +kernel
theorem dX12_apart_14 : decode cX12_apart 14 = .ok (.ireturn, 1) := by decide +kernel
theorem dX12_needsOf_0 : decode cX12_needsOf 0 = .ok (.aload_n 0, 1) := by decide +kernel
theorem dX12_needsOf_1 : decode cX12_needsOf 1 = .ok (.iload_n 1, 1) := by decide +kernel
theorem dX12_needsOf_2 : decode cX12_needsOf 2 = .ok (.invokevirtual 112, 3) := by decide +kernel
theorem dX12_needsOf_5 : decode cX12_needsOf 5 = .ok (.aload_n 0, 1) := by decide +kernel
theorem dX12_needsOf_6 : decode cX12_needsOf 6 = .ok (.iload_n 2, 1) := by decide +kernel
theorem dX12_needsOf_7 : decode cX12_needsOf 7 = .ok (.invokevirtual 112, 3) := by decide +kernel
theorem dX12_needsOf_10 : decode cX12_needsOf 10 = .ok (.invokestatic 115, 3) := by decide +kernel
theorem dX12_needsOf_13 : decode cX12_needsOf 13 = .ok (.istore_n 3, 1) := by decide +kernel
theorem dX12_needsOf_14 : decode cX12_needsOf 14 = .ok (.aload_n 0, 1) := by decide +kernel
theorem dX12_needsOf_15 : decode cX12_needsOf 15 = .ok (.getfield 7, 3) := by decide +kernel
theorem dX12_needsOf_18 : decode cX12_needsOf 18 = .ok (.bipush 8, 2) := by decide +kernel
theorem dX12_needsOf_20 : decode cX12_needsOf 20 = .ok (.iconst 2, 1) := by decide +kernel
theorem dX12_needsOf_21 : decode cX12_needsOf 21 = .ok (.iload_n 1, 1) := by decide +kernel
theorem dX12_needsOf_22 : decode cX12_needsOf 22 = .ok (.imul, 1) := by decide +kernel
theorem dX12_needsOf_23 : decode cX12_needsOf 23 = .ok (.iadd, 1) := by decide +kernel
theorem dX12_needsOf_24 : decode cX12_needsOf 24 = .ok (.iconst 1, 1) := by decide +kernel
theorem dX12_needsOf_25 : decode cX12_needsOf 25 = .ok (.iadd, 1) := by decide +kernel
theorem dX12_needsOf_26 : decode cX12_needsOf 26 = .ok (.iaload, 1) := by decide +kernel
theorem dX12_needsOf_27 : decode cX12_needsOf 27 = .ok (.aload_n 0, 1) := by decide +kernel
theorem dX12_needsOf_28 : decode cX12_needsOf 28 = .ok (.getfield 7, 3) := by decide +kernel
theorem dX12_needsOf_31 : decode cX12_needsOf 31 = .ok (.bipush 8, 2) := by decide +kernel
theorem dX12_needsOf_33 : decode cX12_needsOf 33 = .ok (.iconst 2, 1) := by decide +kernel
theorem dX12_needsOf_34 : decode cX12_needsOf 34 = .ok (.iload_n 2, 1) := by decide +kernel
theorem dX12_needsOf_35 : decode cX12_needsOf 35 = .ok (.imul, 1) := by decide +kernel
theorem dX12_needsOf_36 : decode cX12_needsOf 36 = .ok (.iadd, 1) := by decide +kernel
theorem dX12_needsOf_37 : decode cX12_needsOf 37 = .ok (.iconst 1, 1) := by decide +kernel
theorem dX12_needsOf_38 : decode cX12_needsOf 38 = .ok (.iadd, 1) := by decide +kernel
theorem dX12_needsOf_39 : decode cX12_needsOf 39 = .ok (.iaload, 1) := by decide +kernel
theorem dX12_needsOf_40 : decode cX12_needsOf 40 = .ok (.invokestatic 115, 3) := by decide +kernel
theorem dX12_needsOf_43 : decode cX12_needsOf 43 = .ok (.istore 4, 2) := by decide +kernel
theorem dX12_needsOf_45 : decode cX12_needsOf 45 = .ok (.aload_n 0, 1) := by decide +kernel
theorem dX12_needsOf_46 : decode cX12_needsOf 46 = .ok (.iconst 0, 1) := by decide +kernel
theorem dX12_needsOf_47 : decode cX12_needsOf 47 = .ok (.invokevirtual 118, 3) := by decide +kernel
theorem dX12_needsOf_50 : decode cX12_needsOf 50 = .ok (.istore 5, 2) := by decide +kernel
theorem dX12_needsOf_52 : decode cX12_needsOf 52 = .ok (.iload 5, 2) := by decide +kernel
theorem dX12_needsOf_54 : decode cX12_needsOf 54 = .ok (.ifCond .ge 8, 3) := by decide +kernel
theorem dX12_needsOf_57 : decode cX12_needsOf 57 = .ok (.iload_n 3, 1) := by decide +kernel
theorem dX12_needsOf_58 : decode cX12_needsOf 58 = .ok (.iload 4, 2) := by decide +kernel
theorem dX12_needsOf_60 : decode cX12_needsOf 60 = .ok (.iadd, 1) := by decide +kernel
theorem dX12_needsOf_61 : decode cX12_needsOf 61 = .ok (.ireturn, 1) := by decide +kernel
theorem dX12_needsOf_62 : decode cX12_needsOf 62 = .ok (.aload_n 0, 1) := by decide +kernel
theorem dX12_needsOf_63 : decode cX12_needsOf 63 = .ok (.getfield 49, 3) := by decide +kernel
theorem dX12_needsOf_66 : decode cX12_needsOf 66 = .ok (.bipush 104, 2) := by decide +kernel
theorem dX12_needsOf_68 : decode cX12_needsOf 68 = .ok (.iload_n 3, 1) := by decide +kernel
theorem dX12_needsOf_69 : decode cX12_needsOf 69 = .ok (.iastore, 1) := by decide +kernel
theorem dX12_needsOf_70 : decode cX12_needsOf 70 = .ok (.aload_n 0, 1) := by decide +kernel
theorem dX12_needsOf_71 : decode cX12_needsOf 71 = .ok (.getfield 49, 3) := by decide +kernel
theorem dX12_needsOf_74 : decode cX12_needsOf 74 = .ok (.bipush 112, 2) := by decide +kernel
theorem dX12_needsOf_76 : decode cX12_needsOf 76 = .ok (.iload 4, 2) := by decide +kernel
theorem dX12_needsOf_78 : decode cX12_needsOf 78 = .ok (.iastore, 1) := by decide +kernel
theorem dX12_needsOf_79 : decode cX12_needsOf 79 = .ok (.aload_n 0, 1) := by decide +kernel
theorem dX12_needsOf_80 : decode cX12_needsOf 80 = .ok (.iload 5, 2) := by decide +kernel
theorem dX12_needsOf_82 : decode cX12_needsOf 82 = .ok (.invokevirtual 121, 3) := by decide +kernel
theorem dX12_needsOf_85 : decode cX12_needsOf 85 = .ok (.sipush 999, 3) := by decide +kernel
theorem dX12_needsOf_88 : decode cX12_needsOf 88 = .ok (.invokestatic 124, 3) := by decide +kernel
theorem dX12_needsOf_91 : decode cX12_needsOf 91 = .ok (.ireturn, 1) := by decide +kernel
theorem dX12_reach_0 : decode cX12_reach 0 = .ok (.aload_n 0, 1) := by decide +kernel
theorem dX12_reach_1 : decode cX12_reach 1 = .ok (.iload_n 1, 1) := by decide +kernel
theorem dX12_reach_2 : decode cX12_reach 2 = .ok (.iconst 1, 1) := by decide +kernel
theorem dX12_reach_3 : decode cX12_reach 3 = .ok (.invokevirtual 90, 3) := by decide +kernel
theorem dX12_reach_6 : decode cX12_reach 6 = .ok (.istore_n 2, 1) := by decide +kernel
theorem dX12_reach_7 : decode cX12_reach 7 = .ok (.aload_n 0, 1) := by decide +kernel
theorem dX12_reach_8 : decode cX12_reach 8 = .ok (.iload_n 1, 1) := by decide +kernel
theorem dX12_reach_9 : decode cX12_reach 9 = .ok (.iconst 0, 1) := by decide +kernel
theorem dX12_reach_10 : decode cX12_reach 10 = .ok (.invokevirtual 90, 3) := by decide +kernel
theorem dX12_reach_13 : decode cX12_reach 13 = .ok (.tableswitch 64 1 5 #[35, 64, 39, 47, 60], 35) := by decide +kernel
theorem dX12_reach_48 : decode cX12_reach 48 = .ok (.iload_n 2, 1) := by decide +kernel
theorem dX12_reach_49 : decode cX12_reach 49 = .ok (.iconst 3, 1) := by decide +kernel
theorem dX12_reach_50 : decode cX12_reach 50 = .ok (.iadd, 1) := by decide +kernel
theorem dX12_reach_51 : decode cX12_reach 51 = .ok (.ireturn, 1) := by decide +kernel
theorem dX12_reach_52 : decode cX12_reach 52 = .ok (.iload_n 2, 1) := by decide +kernel
theorem dX12_reach_53 : decode cX12_reach 53 = .ok (.iconst 3, 1) := by decide +kernel
theorem dX12_reach_54 : decode cX12_reach 54 = .ok (.iadd, 1) := by decide +kernel
theorem dX12_reach_55 : decode cX12_reach 55 = .ok (.iload_n 2, 1) := by decide +kernel
theorem dX12_reach_56 : decode cX12_reach 56 = .ok (.iconst 4, 1) := by decide +kernel
theorem dX12_reach_57 : decode cX12_reach 57 = .ok (.idiv, 1) := by decide +kernel
theorem dX12_reach_58 : decode cX12_reach 58 = .ok (.iadd, 1) := by decide +kernel
theorem dX12_reach_59 : decode cX12_reach 59 = .ok (.ireturn, 1) := by decide +kernel
theorem dX12_reach_60 : decode cX12_reach 60 = .ok (.iload_n 2, 1) := by decide +kernel
theorem dX12_reach_61 : decode cX12_reach 61 = .ok (.iconst 2, 1) := by decide +kernel
theorem dX12_reach_62 : decode cX12_reach 62 = .ok (.if_icmp .le 9, 3) := by decide +kernel
theorem dX12_reach_65 : decode cX12_reach 65 = .ok (.iload_n 2, 1) := by decide +kernel
theorem dX12_reach_66 : decode cX12_reach 66 = .ok (.iconst 2, 1) := by decide +kernel
theorem dX12_reach_67 : decode cX12_reach 67 = .ok (.isub, 1) := by decide +kernel
theorem dX12_reach_68 : decode cX12_reach 68 = .ok (.goto 4, 3) := by decide +kernel
theorem dX12_reach_71 : decode cX12_reach 71 = .ok (.iconst 0, 1) := by decide +kernel
theorem dX12_reach_72 : decode cX12_reach 72 = .ok (.ireturn, 1) := by decide +kernel
theorem dX12_reach_73 : decode cX12_reach 73 = .ok (.iload_n 2, 1) := by decide +kernel
theorem dX12_reach_74 : decode cX12_reach 74 = .ok (.iconst 2, 1) := by decide +kernel
theorem dX12_reach_75 : decode cX12_reach 75 = .ok (.idiv, 1) := by decide +kernel
theorem dX12_reach_76 : decode cX12_reach 76 = .ok (.ireturn, 1) := by decide +kernel
theorem dX12_reach_77 : decode cX12_reach 77 = .ok (.iload_n 2, 1) := by decide +kernel
theorem dX12_reach_78 : decode cX12_reach 78 = .ok (.ireturn, 1) := by decide +kernel
theorem dX12_reaches_0 : decode cX12_reaches 0 = .ok (.aload_n 0, 1) := by decide +kernel
theorem dX12_reaches_1 : decode cX12_reaches 1 = .ok (.iload_n 1, 1) := by decide +kernel
theorem dX12_reaches_2 : decode cX12_reaches 2 = .ok (.iconst 2, 1) := by decide +kernel
theorem dX12_reaches_3 : decode cX12_reaches 3 = .ok (.invokevirtual 90, 3) := by decide +kernel
theorem dX12_reaches_6 : decode cX12_reaches 6 = .ok (.istore_n 3, 1) := by decide +kernel
theorem dX12_reaches_7 : decode cX12_reaches 7 = .ok (.aload_n 0, 1) := by decide +kernel
theorem dX12_reaches_8 : decode cX12_reaches 8 = .ok (.iload_n 2, 1) := by decide +kernel
theorem dX12_reaches_9 : decode cX12_reaches 9 = .ok (.invokevirtual 112, 3) := by decide +kernel
theorem dX12_reaches_12 : decode cX12_reaches 12 = .ok (.aload_n 0, 1) := by decide +kernel
theorem dX12_reaches_13 : decode cX12_reaches 13 = .ok (.iload_n 3, 1) := by decide +kernel
theorem dX12_reaches_14 : decode cX12_reaches 14 = .ok (.invokevirtual 112, 3) := by decide +kernel
theorem dX12_reaches_17 : decode cX12_reaches 17 = .ok (.if_icmp .le 21, 3) := by decide +kernel
theorem dX12_reaches_20 : decode cX12_reaches 20 = .ok (.aload_n 0, 1) := by decide +kernel
theorem dX12_reaches_21 : decode cX12_reaches 21 = .ok (.iload_n 3, 1) := by decide +kernel
theorem dX12_reaches_22 : decode cX12_reaches 22 = .ok (.iload_n 2, 1) := by decide +kernel
theorem dX12_reaches_23 : decode cX12_reaches 23 = .ok (.invokevirtual 127, 3) := by decide +kernel
theorem dX12_reaches_26 : decode cX12_reaches 26 = .ok (.aload_n 0, 1) := by decide +kernel
theorem dX12_reaches_27 : decode cX12_reaches 27 = .ok (.iload_n 1, 1) := by decide +kernel
theorem dX12_reaches_28 : decode cX12_reaches 28 = .ok (.invokevirtual 130, 3) := by decide +kernel
theorem dX12_reaches_31 : decode cX12_reaches 31 = .ok (.if_icmp .gt 7, 3) := by decide +kernel
theorem dX12_reaches_34 : decode cX12_reaches 34 = .ok (.iconst 1, 1) := by decide +kernel
theorem dX12_reaches_35 : decode cX12_reaches 35 = .ok (.goto 4, 3) := by decide +kernel
theorem dX12_reaches_38 : decode cX12_reaches 38 = .ok (.iconst 0, 1) := by decide +kernel
theorem dX12_reaches_39 : decode cX12_reaches 39 = .ok (.ireturn, 1) := by decide +kernel
theorem dX12_stands_0 : decode cX12_stands 0 = .ok (.aload_n 0, 1) := by decide +kernel
theorem dX12_stands_1 : decode cX12_stands 1 = .ok (.iload_n 1, 1) := by decide +kernel
theorem dX12_stands_2 : decode cX12_stands 2 = .ok (.aload_n 0, 1) := by decide +kernel
theorem dX12_stands_3 : decode cX12_stands 3 = .ok (.iload_n 1, 1) := by decide +kernel
theorem dX12_stands_4 : decode cX12_stands 4 = .ok (.iconst 3, 1) := by decide +kernel
theorem dX12_stands_5 : decode cX12_stands 5 = .ok (.invokevirtual 90, 3) := by decide +kernel
theorem dX12_stands_8 : decode cX12_stands 8 = .ok (.invokevirtual 133, 3) := by decide +kernel
theorem dX12_stands_11 : decode cX12_stands 11 = .ok (.ireturn, 1) := by decide +kernel
theorem dX12_allReached_0 : decode cX12_allReached 0 = .ok (.iconst 0, 1) := by decide +kernel
theorem dX12_allReached_1 : decode cX12_allReached 1 = .ok (.istore_n 2, 1) := by decide +kernel
theorem dX12_allReached_2 : decode cX12_allReached 2 = .ok (.iconst 0, 1) := by decide +kernel
theorem dX12_allReached_3 : decode cX12_allReached 3 = .ok (.istore_n 3, 1) := by decide +kernel
theorem dX12_allReached_4 : decode cX12_allReached 4 = .ok (.iload_n 3, 1) := by decide +kernel
theorem dX12_allReached_5 : decode cX12_allReached 5 = .ok (.aload_n 0, 1) := by decide +kernel
theorem dX12_allReached_6 : decode cX12_allReached 6 = .ok (.getfield 7, 3) := by decide +kernel
theorem dX12_allReached_9 : decode cX12_allReached 9 = .ok (.iconst 0, 1) := by decide +kernel
theorem dX12_allReached_10 : decode cX12_allReached 10 = .ok (.iaload, 1) := by decide +kernel
theorem dX12_allReached_11 : decode cX12_allReached 11 = .ok (.if_icmp .ge 28, 3) := by decide +kernel
theorem dX12_allReached_14 : decode cX12_allReached 14 = .ok (.iload_n 2, 1) := by decide +kernel
theorem dX12_allReached_15 : decode cX12_allReached 15 = .ok (.aload_n 0, 1) := by decide +kernel
theorem dX12_allReached_16 : decode cX12_allReached 16 = .ok (.iload_n 1, 1) := by decide +kernel
theorem dX12_allReached_17 : decode cX12_allReached 17 = .ok (.iload_n 3, 1) := by decide +kernel
theorem dX12_allReached_18 : decode cX12_allReached 18 = .ok (.invokevirtual 133, 3) := by decide +kernel
theorem dX12_allReached_21 : decode cX12_allReached 21 = .ok (.ifCond .eq 9, 3) := by decide +kernel
theorem dX12_allReached_24 : decode cX12_allReached 24 = .ok (.iconst 1, 1) := by decide +kernel
theorem dX12_allReached_25 : decode cX12_allReached 25 = .ok (.iload_n 3, 1) := by decide +kernel
theorem dX12_allReached_26 : decode cX12_allReached 26 = .ok (.ishl, 1) := by decide +kernel
theorem dX12_allReached_27 : decode cX12_allReached 27 = .ok (.goto 4, 3) := by decide +kernel
theorem dX12_allReached_30 : decode cX12_allReached 30 = .ok (.iconst 0, 1) := by decide +kernel
theorem dX12_allReached_31 : decode cX12_allReached 31 = .ok (.ior, 1) := by decide +kernel
theorem dX12_allReached_32 : decode cX12_allReached 32 = .ok (.istore_n 2, 1) := by decide +kernel
theorem dX12_allReached_33 : decode cX12_allReached 33 = .ok (.iinc 3 1, 3) := by decide +kernel
theorem dX12_allReached_36 : decode cX12_allReached 36 = .ok (.goto (-32), 3) := by decide +kernel
theorem dX12_allReached_39 : decode cX12_allReached 39 = .ok (.iload_n 2, 1) := by decide +kernel
theorem dX12_allReached_40 : decode cX12_allReached 40 = .ok (.ireturn, 1) := by decide +kernel
theorem dX12_minutes_0 : decode cX12_minutes 0 = .ok (.aload_n 0, 1) := by decide +kernel
theorem dX12_minutes_1 : decode cX12_minutes 1 = .ok (.aload_n 0, 1) := by decide +kernel
theorem dX12_minutes_2 : decode cX12_minutes 2 = .ok (.iload_n 1, 1) := by decide +kernel
theorem dX12_minutes_3 : decode cX12_minutes 3 = .ok (.iconst 3, 1) := by decide +kernel
theorem dX12_minutes_4 : decode cX12_minutes 4 = .ok (.invokevirtual 90, 3) := by decide +kernel
theorem dX12_minutes_7 : decode cX12_minutes 7 = .ok (.invokevirtual 112, 3) := by decide +kernel
theorem dX12_minutes_10 : decode cX12_minutes 10 = .ok (.aload_n 0, 1) := by decide +kernel
theorem dX12_minutes_11 : decode cX12_minutes 11 = .ok (.aload_n 0, 1) := by decide +kernel
theorem dX12_minutes_12 : decode cX12_minutes 12 = .ok (.iload_n 1, 1) := by decide +kernel
theorem dX12_minutes_13 : decode cX12_minutes 13 = .ok (.iconst 2, 1) := by decide +kernel
theorem dX12_minutes_14 : decode cX12_minutes 14 = .ok (.invokevirtual 90, 3) := by decide +kernel
theorem dX12_minutes_17 : decode cX12_minutes 17 = .ok (.invokevirtual 112, 3) := by decide +kernel
theorem dX12_minutes_20 : decode cX12_minutes 20 = .ok (.isub, 1) := by decide +kernel
theorem dX12_minutes_21 : decode cX12_minutes 21 = .ok (.istore_n 2, 1) := by decide +kernel
theorem dX12_minutes_22 : decode cX12_minutes 22 = .ok (.iload_n 2, 1) := by decide +kernel
theorem dX12_minutes_23 : decode cX12_minutes 23 = .ok (.ifCond .ge 7, 3) := by decide +kernel
theorem dX12_minutes_26 : decode cX12_minutes 26 = .ok (.iconst 0, 1) := by decide +kernel
theorem dX12_minutes_27 : decode cX12_minutes 27 = .ok (.goto 4, 3) := by decide +kernel
theorem dX12_minutes_30 : decode cX12_minutes 30 = .ok (.iload_n 2, 1) := by decide +kernel
theorem dX12_minutes_31 : decode cX12_minutes 31 = .ok (.iconst 5, 1) := by decide +kernel
theorem dX12_minutes_32 : decode cX12_minutes 32 = .ok (.idiv, 1) := by decide +kernel
theorem dX12_minutes_33 : decode cX12_minutes 33 = .ok (.iconst 1, 1) := by decide +kernel
theorem dX12_minutes_34 : decode cX12_minutes 34 = .ok (.iadd, 1) := by decide +kernel
theorem dX12_minutes_35 : decode cX12_minutes 35 = .ok (.istore_n 3, 1) := by decide +kernel
theorem dX12_minutes_36 : decode cX12_minutes 36 = .ok (.aload_n 0, 1) := by decide +kernel
theorem dX12_minutes_37 : decode cX12_minutes 37 = .ok (.iload_n 1, 1) := by decide +kernel
theorem dX12_minutes_38 : decode cX12_minutes 38 = .ok (.iconst 0, 1) := by decide +kernel
theorem dX12_minutes_39 : decode cX12_minutes 39 = .ok (.invokevirtual 90, 3) := by decide +kernel
theorem dX12_minutes_42 : decode cX12_minutes 42 = .ok (.tableswitch 44 1 4 #[30, 40, 34, 40], 30) := by decide +kernel
theorem dX12_minutes_72 : decode cX12_minutes 72 = .ok (.iconst 2, 1) := by decide +kernel
theorem dX12_minutes_73 : decode cX12_minutes 73 = .ok (.iload_n 3, 1) := by decide +kernel
theorem dX12_minutes_74 : decode cX12_minutes 74 = .ok (.imul, 1) := by decide +kernel
theorem dX12_minutes_75 : decode cX12_minutes 75 = .ok (.ireturn, 1) := by decide +kernel
theorem dX12_minutes_76 : decode cX12_minutes 76 = .ok (.iconst 2, 1) := by decide +kernel
theorem dX12_minutes_77 : decode cX12_minutes 77 = .ok (.iload_n 3, 1) := by decide +kernel
theorem dX12_minutes_78 : decode cX12_minutes 78 = .ok (.imul, 1) := by decide +kernel
theorem dX12_minutes_79 : decode cX12_minutes 79 = .ok (.iconst 1, 1) := by decide +kernel
theorem dX12_minutes_80 : decode cX12_minutes 80 = .ok (.isub, 1) := by decide +kernel
theorem dX12_minutes_81 : decode cX12_minutes 81 = .ok (.ireturn, 1) := by decide +kernel
theorem dX12_minutes_82 : decode cX12_minutes 82 = .ok (.iload_n 3, 1) := by decide +kernel
theorem dX12_minutes_83 : decode cX12_minutes 83 = .ok (.iconst 1, 1) := by decide +kernel
theorem dX12_minutes_84 : decode cX12_minutes 84 = .ok (.iadd, 1) := by decide +kernel
theorem dX12_minutes_85 : decode cX12_minutes 85 = .ok (.ireturn, 1) := by decide +kernel
theorem dX12_minutes_86 : decode cX12_minutes 86 = .ok (.iload_n 3, 1) := by decide +kernel
theorem dX12_minutes_87 : decode cX12_minutes 87 = .ok (.ireturn, 1) := by decide +kernel
theorem dX12_worth_0 : decode cX12_worth 0 = .ok (.aload_n 0, 1) := by decide +kernel
theorem dX12_worth_1 : decode cX12_worth 1 = .ok (.iload_n 1, 1) := by decide +kernel
theorem dX12_worth_2 : decode cX12_worth 2 = .ok (.iconst 1, 1) := by decide +kernel
theorem dX12_worth_3 : decode cX12_worth 3 = .ok (.invokevirtual 90, 3) := by decide +kernel
theorem dX12_worth_6 : decode cX12_worth 6 = .ok (.istore_n 2, 1) := by decide +kernel
theorem dX12_worth_7 : decode cX12_worth 7 = .ok (.aload_n 0, 1) := by decide +kernel
theorem dX12_worth_8 : decode cX12_worth 8 = .ok (.iload_n 1, 1) := by decide +kernel
theorem dX12_worth_9 : decode cX12_worth 9 = .ok (.iconst 0, 1) := by decide +kernel
theorem dX12_worth_10 : decode cX12_worth 10 = .ok (.invokevirtual 90, 3) := by decide +kernel
theorem dX12_worth_13 : decode cX12_worth 13 = .ok (.tableswitch 60 1 5 #[35, 39, 44, 50, 55], 35) := by decide +kernel
theorem dX12_worth_48 : decode cX12_worth 48 = .ok (.iload_n 2, 1) := by decide +kernel
theorem dX12_worth_49 : decode cX12_worth 49 = .ok (.iconst 4, 1) := by decide +kernel
theorem dX12_worth_50 : decode cX12_worth 50 = .ok (.isub, 1) := by decide +kernel
theorem dX12_worth_51 : decode cX12_worth 51 = .ok (.ireturn, 1) := by decide +kernel
theorem dX12_worth_52 : decode cX12_worth 52 = .ok (.iload_n 2, 1) := by decide +kernel
theorem dX12_worth_53 : decode cX12_worth 53 = .ok (.bipush 9, 2) := by decide +kernel
theorem dX12_worth_55 : decode cX12_worth 55 = .ok (.iadd, 1) := by decide +kernel
theorem dX12_worth_56 : decode cX12_worth 56 = .ok (.ireturn, 1) := by decide +kernel
theorem dX12_worth_57 : decode cX12_worth 57 = .ok (.iconst 2, 1) := by decide +kernel
theorem dX12_worth_58 : decode cX12_worth 58 = .ok (.iload_n 2, 1) := by decide +kernel
theorem dX12_worth_59 : decode cX12_worth 59 = .ok (.iconst 4, 1) := by decide +kernel
theorem dX12_worth_60 : decode cX12_worth 60 = .ok (.isub, 1) := by decide +kernel
theorem dX12_worth_61 : decode cX12_worth 61 = .ok (.imul, 1) := by decide +kernel
theorem dX12_worth_62 : decode cX12_worth 62 = .ok (.ireturn, 1) := by decide +kernel
theorem dX12_worth_63 : decode cX12_worth 63 = .ok (.iload_n 2, 1) := by decide +kernel
theorem dX12_worth_64 : decode cX12_worth 64 = .ok (.bipush 29, 2) := by decide +kernel
theorem dX12_worth_66 : decode cX12_worth 66 = .ok (.iadd, 1) := by decide +kernel
theorem dX12_worth_67 : decode cX12_worth 67 = .ok (.ireturn, 1) := by decide +kernel
theorem dX12_worth_68 : decode cX12_worth 68 = .ok (.bipush 40, 2) := by decide +kernel
theorem dX12_worth_70 : decode cX12_worth 70 = .ok (.iload_n 2, 1) := by decide +kernel
theorem dX12_worth_71 : decode cX12_worth 71 = .ok (.isub, 1) := by decide +kernel
theorem dX12_worth_72 : decode cX12_worth 72 = .ok (.ireturn, 1) := by decide +kernel
theorem dX12_worth_73 : decode cX12_worth 73 = .ok (.iload_n 2, 1) := by decide +kernel
theorem dX12_worth_74 : decode cX12_worth 74 = .ok (.ireturn, 1) := by decide +kernel
theorem dX12_told_0 : decode cX12_told 0 = .ok (.aload_n 0, 1) := by decide +kernel
theorem dX12_told_1 : decode cX12_told 1 = .ok (.iload_n 1, 1) := by decide +kernel
theorem dX12_told_2 : decode cX12_told 2 = .ok (.invokevirtual 137, 3) := by decide +kernel
theorem dX12_told_5 : decode cX12_told 5 = .ok (.ifCond .ne 6, 3) := by decide +kernel
theorem dX12_told_8 : decode cX12_told 8 = .ok (.ldc 78, 2) := by decide +kernel
theorem dX12_told_10 : decode cX12_told 10 = .ok (.ireturn, 1) := by decide +kernel
theorem dX12_told_11 : decode cX12_told 11 = .ok (.iload_n 2, 1) := by decide +kernel
theorem dX12_told_12 : decode cX12_told 12 = .ok (.tableswitch 108 0 9 #[56, 56, 56, 56, 63, 69, 75, 89, 96, 102], 56) := by decide +kernel
theorem dX12_told_68 : decode cX12_told 68 = .ok (.aload_n 0, 1) := by decide +kernel
theorem dX12_told_69 : decode cX12_told 69 = .ok (.iload_n 1, 1) := by decide +kernel
theorem dX12_told_70 : decode cX12_told 70 = .ok (.iload_n 2, 1) := by decide +kernel
theorem dX12_told_71 : decode cX12_told 71 = .ok (.invokevirtual 90, 3) := by decide +kernel
theorem dX12_told_74 : decode cX12_told 74 = .ok (.ireturn, 1) := by decide +kernel
theorem dX12_told_75 : decode cX12_told 75 = .ok (.aload_n 0, 1) := by decide +kernel
theorem dX12_told_76 : decode cX12_told 76 = .ok (.iload_n 1, 1) := by decide +kernel
theorem dX12_told_77 : decode cX12_told 77 = .ok (.invokevirtual 130, 3) := by decide +kernel
theorem dX12_told_80 : decode cX12_told 80 = .ok (.ireturn, 1) := by decide +kernel
theorem dX12_told_81 : decode cX12_told 81 = .ok (.aload_n 0, 1) := by decide +kernel
theorem dX12_told_82 : decode cX12_told 82 = .ok (.iload_n 1, 1) := by decide +kernel
theorem dX12_told_83 : decode cX12_told 83 = .ok (.invokevirtual 140, 3) := by decide +kernel
theorem dX12_told_86 : decode cX12_told 86 = .ok (.ireturn, 1) := by decide +kernel
theorem dX12_told_87 : decode cX12_told 87 = .ok (.aload_n 0, 1) := by decide +kernel
theorem dX12_told_88 : decode cX12_told 88 = .ok (.iload_n 1, 1) := by decide +kernel
theorem dX12_told_89 : decode cX12_told 89 = .ok (.invokevirtual 143, 3) := by decide +kernel
theorem dX12_told_92 : decode cX12_told 92 = .ok (.ifCond .eq 7, 3) := by decide +kernel
theorem dX12_told_95 : decode cX12_told 95 = .ok (.iconst 1, 1) := by decide +kernel
theorem dX12_told_96 : decode cX12_told 96 = .ok (.goto 4, 3) := by decide +kernel
theorem dX12_told_99 : decode cX12_told 99 = .ok (.iconst 0, 1) := by decide +kernel
theorem dX12_told_100 : decode cX12_told 100 = .ok (.ireturn, 1) := by decide +kernel
theorem dX12_told_101 : decode cX12_told 101 = .ok (.aload_n 0, 1) := by decide +kernel
theorem dX12_told_102 : decode cX12_told 102 = .ok (.iload_n 1, 1) := by decide +kernel
theorem dX12_told_103 : decode cX12_told 103 = .ok (.iconst 4, 1) := by decide +kernel
theorem dX12_told_104 : decode cX12_told 104 = .ok (.invokevirtual 90, 3) := by decide +kernel
theorem dX12_told_107 : decode cX12_told 107 = .ok (.ireturn, 1) := by decide +kernel
theorem dX12_told_108 : decode cX12_told 108 = .ok (.aload_n 0, 1) := by decide +kernel
theorem dX12_told_109 : decode cX12_told 109 = .ok (.iload_n 1, 1) := by decide +kernel
theorem dX12_told_110 : decode cX12_told 110 = .ok (.invokevirtual 146, 3) := by decide +kernel
theorem dX12_told_113 : decode cX12_told 113 = .ok (.ireturn, 1) := by decide +kernel
theorem dX12_told_114 : decode cX12_told 114 = .ok (.aload_n 0, 1) := by decide +kernel
theorem dX12_told_115 : decode cX12_told 115 = .ok (.iload_n 1, 1) := by decide +kernel
theorem dX12_told_116 : decode cX12_told 116 = .ok (.invokevirtual 149, 3) := by decide +kernel
theorem dX12_told_119 : decode cX12_told 119 = .ok (.ireturn, 1) := by decide +kernel
theorem dX12_told_120 : decode cX12_told 120 = .ok (.ldc 78, 2) := by decide +kernel
theorem dX12_told_122 : decode cX12_told 122 = .ok (.ireturn, 1) := by decide +kernel
theorem dX12_isOf_0 : decode cX12_isOf 0 = .ok (.iload_n 0, 1) := by decide +kernel
theorem dX12_isOf_1 : decode cX12_isOf 1 = .ok (.iload_n 1, 1) := by decide +kernel
theorem dX12_isOf_2 : decode cX12_isOf 2 = .ok (.if_icmp .eq 27, 3) := by decide +kernel
theorem dX12_isOf_5 : decode cX12_isOf 5 = .ok (.iload_n 1, 1) := by decide +kernel
theorem dX12_isOf_6 : decode cX12_isOf 6 = .ok (.ifCond .eq 23, 3) := by decide +kernel
theorem dX12_isOf_9 : decode cX12_isOf 9 = .ok (.iload_n 1, 1) := by decide +kernel
theorem dX12_isOf_10 : decode cX12_isOf 10 = .ok (.iconst 1, 1) := by decide +kernel
theorem dX12_isOf_11 : decode cX12_isOf 11 = .ok (.if_icmp .ne 8, 3) := by decide +kernel
theorem dX12_isOf_14 : decode cX12_isOf 14 = .ok (.iload_n 0, 1) := by decide +kernel
theorem dX12_isOf_15 : decode cX12_isOf 15 = .ok (.iconst 3, 1) := by decide +kernel
theorem dX12_isOf_16 : decode cX12_isOf 16 = .ok (.if_icmp .eq 13, 3) := by decide +kernel
theorem dX12_isOf_19 : decode cX12_isOf 19 = .ok (.iload_n 1, 1) := by decide +kernel
theorem dX12_isOf_20 : decode cX12_isOf 20 = .ok (.iconst 2, 1) := by decide +kernel
theorem dX12_isOf_21 : decode cX12_isOf 21 = .ok (.if_icmp .ne 12, 3) := by decide +kernel
theorem dX12_isOf_24 : decode cX12_isOf 24 = .ok (.iload_n 0, 1) := by decide +kernel
theorem dX12_isOf_25 : decode cX12_isOf 25 = .ok (.iconst 4, 1) := by decide +kernel
theorem dX12_isOf_26 : decode cX12_isOf 26 = .ok (.if_icmp .ne 7, 3) := by decide +kernel
theorem dX12_isOf_29 : decode cX12_isOf 29 = .ok (.iconst 1, 1) := by decide +kernel
theorem dX12_isOf_30 : decode cX12_isOf 30 = .ok (.goto 4, 3) := by decide +kernel
theorem dX12_isOf_33 : decode cX12_isOf 33 = .ok (.iconst 0, 1) := by decide +kernel
theorem dX12_isOf_34 : decode cX12_isOf 34 = .ok (.ireturn, 1) := by decide +kernel
theorem dX12_as_0 : decode cX12_as 0 = .ok (.aload_n 0, 1) := by decide +kernel
theorem dX12_as_1 : decode cX12_as 1 = .ok (.iload_n 1, 1) := by decide +kernel
theorem dX12_as_2 : decode cX12_as 2 = .ok (.invokevirtual 137, 3) := by decide +kernel
theorem dX12_as_5 : decode cX12_as 5 = .ok (.ifCond .eq 15, 3) := by decide +kernel
theorem dX12_as_8 : decode cX12_as 8 = .ok (.iload_n 2, 1) := by decide +kernel
theorem dX12_as_9 : decode cX12_as 9 = .ok (.i2l, 1) := by decide +kernel
theorem dX12_as_10 : decode cX12_as 10 = .ok (.lconst 0, 1) := by decide +kernel
theorem dX12_as_11 : decode cX12_as 11 = .ok (.ldc2_w 106, 3) := by decide +kernel
theorem dX12_as_14 : decode cX12_as 14 = .ok (.invokestatic 65, 3) := by decide +kernel
theorem dX12_as_17 : decode cX12_as 17 = .ok (.ifCond .ne 6, 3) := by decide +kernel
theorem dX12_as_20 : decode cX12_as 20 = .ok (.ldc 78, 2) := by decide +kernel
theorem dX12_as_22 : decode cX12_as 22 = .ok (.ireturn, 1) := by decide +kernel
theorem dX12_as_23 : decode cX12_as 23 = .ok (.aload_n 0, 1) := by decide +kernel
theorem dX12_as_24 : decode cX12_as 24 = .ok (.iload_n 1, 1) := by decide +kernel
theorem dX12_as_25 : decode cX12_as 25 = .ok (.iconst 0, 1) := by decide +kernel
theorem dX12_as_26 : decode cX12_as 26 = .ok (.invokevirtual 90, 3) := by decide +kernel
theorem dX12_as_29 : decode cX12_as 29 = .ok (.iload_n 2, 1) := by decide +kernel
theorem dX12_as_30 : decode cX12_as 30 = .ok (.invokestatic 152, 3) := by decide +kernel
theorem dX12_as_33 : decode cX12_as 33 = .ok (.ifCond .eq 12, 3) := by decide +kernel
theorem dX12_as_36 : decode cX12_as 36 = .ok (.aload_n 0, 1) := by decide +kernel
theorem dX12_as_37 : decode cX12_as 37 = .ok (.iload_n 1, 1) := by decide +kernel
theorem dX12_as_38 : decode cX12_as 38 = .ok (.iconst 1, 1) := by decide +kernel
theorem dX12_as_39 : decode cX12_as 39 = .ok (.invokevirtual 90, 3) := by decide +kernel
theorem dX12_as_42 : decode cX12_as 42 = .ok (.goto 5, 3) := by decide +kernel
theorem dX12_as_45 : decode cX12_as 45 = .ok (.ldc 155, 2) := by decide +kernel
theorem dX12_as_47 : decode cX12_as 47 = .ok (.ireturn, 1) := by decide +kernel
theorem dX12_turns_0 : decode cX12_turns 0 = .ok (.aload_n 0, 1) := by decide +kernel
theorem dX12_turns_1 : decode cX12_turns 1 = .ok (.iload_n 1, 1) := by decide +kernel
theorem dX12_turns_2 : decode cX12_turns 2 = .ok (.invokevirtual 137, 3) := by decide +kernel
theorem dX12_turns_5 : decode cX12_turns 5 = .ok (.ifCond .eq 29, 3) := by decide +kernel
theorem dX12_turns_8 : decode cX12_turns 8 = .ok (.iload_n 2, 1) := by decide +kernel
theorem dX12_turns_9 : decode cX12_turns 9 = .ok (.i2l, 1) := by decide +kernel
theorem dX12_turns_10 : decode cX12_turns 10 = .ok (.lconst 0, 1) := by decide +kernel
theorem dX12_turns_11 : decode cX12_turns 11 = .ok (.ldc2_w 106, 3) := by decide +kernel
theorem dX12_turns_14 : decode cX12_turns 14 = .ok (.invokestatic 65, 3) := by decide +kernel
theorem dX12_turns_17 : decode cX12_turns 17 = .ok (.ifCond .eq 17, 3) := by decide +kernel
theorem dX12_turns_20 : decode cX12_turns 20 = .ok (.aload_n 0, 1) := by decide +kernel
theorem dX12_turns_21 : decode cX12_turns 21 = .ok (.bipush 28, 2) := by decide +kernel
theorem dX12_turns_23 : decode cX12_turns 23 = .ok (.iconst 5, 1) := by decide +kernel
theorem dX12_turns_24 : decode cX12_turns 24 = .ok (.iload_n 1, 1) := by decide +kernel
theorem dX12_turns_25 : decode cX12_turns 25 = .ok (.imul, 1) := by decide +kernel
theorem dX12_turns_26 : decode cX12_turns 26 = .ok (.iadd, 1) := by decide +kernel
theorem dX12_turns_27 : decode cX12_turns 27 = .ok (.iload_n 2, 1) := by decide +kernel
theorem dX12_turns_28 : decode cX12_turns 28 = .ok (.invokevirtual 97, 3) := by decide +kernel
theorem dX12_turns_31 : decode cX12_turns 31 = .ok (.goto 5, 3) := by decide +kernel
theorem dX12_turns_34 : decode cX12_turns 34 = .ok (.ldc 78, 2) := by decide +kernel
theorem dX12_turns_36 : decode cX12_turns 36 = .ok (.ireturn, 1) := by decide +kernel
theorem dX12_cut_0 : decode cX12_cut 0 = .ok (.aload_n 0, 1) := by decide +kernel
theorem dX12_cut_1 : decode cX12_cut 1 = .ok (.iload_n 1, 1) := by decide +kernel
theorem dX12_cut_2 : decode cX12_cut 2 = .ok (.invokevirtual 137, 3) := by decide +kernel
theorem dX12_cut_5 : decode cX12_cut 5 = .ok (.ifCond .eq 31, 3) := by decide +kernel
theorem dX12_cut_8 : decode cX12_cut 8 = .ok (.iload_n 2, 1) := by decide +kernel
theorem dX12_cut_9 : decode cX12_cut 9 = .ok (.i2l, 1) := by decide +kernel
theorem dX12_cut_10 : decode cX12_cut 10 = .ok (.lconst 1, 1) := by decide +kernel
theorem dX12_cut_11 : decode cX12_cut 11 = .ok (.ldc2_w 74, 3) := by decide +kernel
theorem dX12_cut_14 : decode cX12_cut 14 = .ok (.invokestatic 65, 3) := by decide +kernel
theorem dX12_cut_17 : decode cX12_cut 17 = .ok (.ifCond .eq 19, 3) := by decide +kernel
theorem dX12_cut_20 : decode cX12_cut 20 = .ok (.aload_n 0, 1) := by decide +kernel
theorem dX12_cut_21 : decode cX12_cut 21 = .ok (.bipush 28, 2) := by decide +kernel
theorem dX12_cut_23 : decode cX12_cut 23 = .ok (.iconst 5, 1) := by decide +kernel
theorem dX12_cut_24 : decode cX12_cut 24 = .ok (.iload_n 1, 1) := by decide +kernel
theorem dX12_cut_25 : decode cX12_cut 25 = .ok (.imul, 1) := by decide +kernel
theorem dX12_cut_26 : decode cX12_cut 26 = .ok (.iadd, 1) := by decide +kernel
theorem dX12_cut_27 : decode cX12_cut 27 = .ok (.iconst 1, 1) := by decide +kernel
theorem dX12_cut_28 : decode cX12_cut 28 = .ok (.iadd, 1) := by decide +kernel
theorem dX12_cut_29 : decode cX12_cut 29 = .ok (.iload_n 2, 1) := by decide +kernel
theorem dX12_cut_30 : decode cX12_cut 30 = .ok (.invokevirtual 97, 3) := by decide +kernel
theorem dX12_cut_33 : decode cX12_cut 33 = .ok (.goto 5, 3) := by decide +kernel
theorem dX12_cut_36 : decode cX12_cut 36 = .ok (.ldc 78, 2) := by decide +kernel
theorem dX12_cut_38 : decode cX12_cut 38 = .ok (.ireturn, 1) := by decide +kernel
theorem dX12_needs_0 : decode cX12_needs 0 = .ok (.aload_n 0, 1) := by decide +kernel
theorem dX12_needs_1 : decode cX12_needs 1 = .ok (.iload_n 1, 1) := by decide +kernel
theorem dX12_needs_2 : decode cX12_needs 2 = .ok (.invokevirtual 84, 3) := by decide +kernel
theorem dX12_needs_5 : decode cX12_needs 5 = .ok (.ifCond .eq 25, 3) := by decide +kernel
theorem dX12_needs_8 : decode cX12_needs 8 = .ok (.aload_n 0, 1) := by decide +kernel
theorem dX12_needs_9 : decode cX12_needs 9 = .ok (.iload_n 2, 1) := by decide +kernel
theorem dX12_needs_10 : decode cX12_needs 10 = .ok (.invokevirtual 84, 3) := by decide +kernel
theorem dX12_needs_13 : decode cX12_needs 13 = .ok (.ifCond .eq 17, 3) := by decide +kernel
theorem dX12_needs_16 : decode cX12_needs 16 = .ok (.iload_n 1, 1) := by decide +kernel
theorem dX12_needs_17 : decode cX12_needs 17 = .ok (.iload_n 2, 1) := by decide +kernel
theorem dX12_needs_18 : decode cX12_needs 18 = .ok (.if_icmp .eq 12, 3) := by decide +kernel
theorem dX12_needs_21 : decode cX12_needs 21 = .ok (.aload_n 0, 1) := by decide +kernel
theorem dX12_needs_22 : decode cX12_needs 22 = .ok (.iload_n 1, 1) := by decide +kernel
theorem dX12_needs_23 : decode cX12_needs 23 = .ok (.iload_n 2, 1) := by decide +kernel
theorem dX12_needs_24 : decode cX12_needs 24 = .ok (.invokevirtual 127, 3) := by decide +kernel
theorem dX12_needs_27 : decode cX12_needs 27 = .ok (.goto 5, 3) := by decide +kernel
theorem dX12_needs_30 : decode cX12_needs 30 = .ok (.ldc 78, 2) := by decide +kernel
theorem dX12_needs_32 : decode cX12_needs 32 = .ok (.ireturn, 1) := by decide +kernel
theorem dX12_person_0 : decode cX12_person 0 = .ok (.aload_n 0, 1) := by decide +kernel
theorem dX12_person_1 : decode cX12_person 1 = .ok (.iload_n 1, 1) := by decide +kernel
theorem dX12_person_2 : decode cX12_person 2 = .ok (.invokevirtual 84, 3) := by decide +kernel
theorem dX12_person_5 : decode cX12_person 5 = .ok (.ifCond .eq 15, 3) := by decide +kernel
theorem dX12_person_8 : decode cX12_person 8 = .ok (.iload_n 2, 1) := by decide +kernel
theorem dX12_person_9 : decode cX12_person 9 = .ok (.i2l, 1) := by decide +kernel
theorem dX12_person_10 : decode cX12_person 10 = .ok (.lconst 0, 1) := by decide +kernel
theorem dX12_person_11 : decode cX12_person 11 = .ok (.ldc2_w 74, 3) := by decide +kernel
theorem dX12_person_14 : decode cX12_person 14 = .ok (.invokestatic 65, 3) := by decide +kernel
theorem dX12_person_17 : decode cX12_person 17 = .ok (.ifCond .ne 6, 3) := by decide +kernel
theorem dX12_person_20 : decode cX12_person 20 = .ok (.ldc 78, 2) := by decide +kernel
theorem dX12_person_22 : decode cX12_person 22 = .ok (.ireturn, 1) := by decide +kernel
theorem dX12_person_23 : decode cX12_person 23 = .ok (.aload_n 0, 1) := by decide +kernel
theorem dX12_person_24 : decode cX12_person 24 = .ok (.getfield 7, 3) := by decide +kernel
theorem dX12_person_27 : decode cX12_person 27 = .ok (.iconst 2, 1) := by decide +kernel
theorem dX12_person_28 : decode cX12_person 28 = .ok (.iaload, 1) := by decide +kernel
theorem dX12_person_29 : decode cX12_person 29 = .ok (.bipush 6, 2) := by decide +kernel
theorem dX12_person_31 : decode cX12_person 31 = .ok (.if_icmp .ne 6, 3) := by decide +kernel
theorem dX12_person_34 : decode cX12_person 34 = .ok (.ldc 79, 2) := by decide +kernel
theorem dX12_person_36 : decode cX12_person 36 = .ok (.ireturn, 1) := by decide +kernel
theorem dX12_person_37 : decode cX12_person 37 = .ok (.bipush 68, 2) := by decide +kernel
theorem dX12_person_39 : decode cX12_person 39 = .ok (.iconst 2, 1) := by decide +kernel
theorem dX12_person_40 : decode cX12_person 40 = .ok (.aload_n 0, 1) := by decide +kernel
theorem dX12_person_41 : decode cX12_person 41 = .ok (.getfield 7, 3) := by decide +kernel
theorem dX12_person_44 : decode cX12_person 44 = .ok (.iconst 2, 1) := by decide +kernel
theorem dX12_person_45 : decode cX12_person 45 = .ok (.iaload, 1) := by decide +kernel
theorem dX12_person_46 : decode cX12_person 46 = .ok (.imul, 1) := by decide +kernel
theorem dX12_person_47 : decode cX12_person 47 = .ok (.iadd, 1) := by decide +kernel
theorem dX12_person_48 : decode cX12_person 48 = .ok (.istore_n 3, 1) := by decide +kernel
theorem dX12_person_49 : decode cX12_person 49 = .ok (.aload_n 0, 1) := by decide +kernel
theorem dX12_person_50 : decode cX12_person 50 = .ok (.getfield 7, 3) := by decide +kernel
theorem dX12_person_53 : decode cX12_person 53 = .ok (.iload_n 3, 1) := by decide +kernel
theorem dX12_person_54 : decode cX12_person 54 = .ok (.iload_n 1, 1) := by decide +kernel
theorem dX12_person_55 : decode cX12_person 55 = .ok (.iastore, 1) := by decide +kernel
theorem dX12_person_56 : decode cX12_person 56 = .ok (.aload_n 0, 1) := by decide +kernel
theorem dX12_person_57 : decode cX12_person 57 = .ok (.getfield 7, 3) := by decide +kernel
theorem dX12_person_60 : decode cX12_person 60 = .ok (.iload_n 3, 1) := by decide +kernel
theorem dX12_person_61 : decode cX12_person 61 = .ok (.iconst 1, 1) := by decide +kernel
theorem dX12_person_62 : decode cX12_person 62 = .ok (.iadd, 1) := by decide +kernel
theorem dX12_person_63 : decode cX12_person 63 = .ok (.iload_n 2, 1) := by decide +kernel
theorem dX12_person_64 : decode cX12_person 64 = .ok (.iastore, 1) := by decide +kernel
theorem dX12_person_65 : decode cX12_person 65 = .ok (.aload_n 0, 1) := by decide +kernel
theorem dX12_person_66 : decode cX12_person 66 = .ok (.getfield 7, 3) := by decide +kernel
theorem dX12_person_69 : decode cX12_person 69 = .ok (.iconst 2, 1) := by decide +kernel
theorem dX12_person_70 : decode cX12_person 70 = .ok (.dup2, 1) := by decide +kernel
theorem dX12_person_71 : decode cX12_person 71 = .ok (.iaload, 1) := by decide +kernel
theorem dX12_person_72 : decode cX12_person 72 = .ok (.iconst 1, 1) := by decide +kernel
theorem dX12_person_73 : decode cX12_person 73 = .ok (.iadd, 1) := by decide +kernel
theorem dX12_person_74 : decode cX12_person 74 = .ok (.iastore, 1) := by decide +kernel
theorem dX12_person_75 : decode cX12_person 75 = .ok (.aload_n 0, 1) := by decide +kernel
theorem dX12_person_76 : decode cX12_person 76 = .ok (.getfield 7, 3) := by decide +kernel
theorem dX12_person_79 : decode cX12_person 79 = .ok (.iconst 2, 1) := by decide +kernel
theorem dX12_person_80 : decode cX12_person 80 = .ok (.iaload, 1) := by decide +kernel
theorem dX12_person_81 : decode cX12_person 81 = .ok (.iconst 1, 1) := by decide +kernel
theorem dX12_person_82 : decode cX12_person 82 = .ok (.isub, 1) := by decide +kernel
theorem dX12_person_83 : decode cX12_person 83 = .ok (.ireturn, 1) := by decide +kernel
theorem dX12_personTold_0 : decode cX12_personTold 0 = .ok (.aload_n 0, 1) := by decide +kernel
theorem dX12_personTold_1 : decode cX12_personTold 1 = .ok (.iload_n 1, 1) := by decide +kernel
theorem dX12_personTold_2 : decode cX12_personTold 2 = .ok (.invokevirtual 156, 3) := by decide +kernel
theorem dX12_personTold_5 : decode cX12_personTold 5 = .ok (.ifCond .eq 29, 3) := by decide +kernel
theorem dX12_personTold_8 : decode cX12_personTold 8 = .ok (.iload_n 2, 1) := by decide +kernel
theorem dX12_personTold_9 : decode cX12_personTold 9 = .ok (.i2l, 1) := by decide +kernel
theorem dX12_personTold_10 : decode cX12_personTold 10 = .ok (.lconst 0, 1) := by decide +kernel
theorem dX12_personTold_11 : decode cX12_personTold 11 = .ok (.lconst 1, 1) := by decide +kernel
theorem dX12_personTold_12 : decode cX12_personTold 12 = .ok (.invokestatic 65, 3) := by decide +kernel
theorem dX12_personTold_15 : decode cX12_personTold 15 = .ok (.ifCond .eq 19, 3) := by decide +kernel
theorem dX12_personTold_18 : decode cX12_personTold 18 = .ok (.aload_n 0, 1) := by decide +kernel
theorem dX12_personTold_19 : decode cX12_personTold 19 = .ok (.getfield 7, 3) := by decide +kernel
theorem dX12_personTold_22 : decode cX12_personTold 22 = .ok (.bipush 68, 2) := by decide +kernel
theorem dX12_personTold_24 : decode cX12_personTold 24 = .ok (.iconst 2, 1) := by decide +kernel
theorem dX12_personTold_25 : decode cX12_personTold 25 = .ok (.iload_n 1, 1) := by decide +kernel
theorem dX12_personTold_26 : decode cX12_personTold 26 = .ok (.imul, 1) := by decide +kernel
theorem dX12_personTold_27 : decode cX12_personTold 27 = .ok (.iadd, 1) := by decide +kernel
theorem dX12_personTold_28 : decode cX12_personTold 28 = .ok (.iload_n 2, 1) := by decide +kernel
theorem dX12_personTold_29 : decode cX12_personTold 29 = .ok (.iadd, 1) := by decide +kernel
theorem dX12_personTold_30 : decode cX12_personTold 30 = .ok (.iaload, 1) := by decide +kernel
theorem dX12_personTold_31 : decode cX12_personTold 31 = .ok (.goto 5, 3) := by decide +kernel
theorem dX12_personTold_34 : decode cX12_personTold 34 = .ok (.ldc 78, 2) := by decide +kernel
theorem dX12_personTold_36 : decode cX12_personTold 36 = .ok (.ireturn, 1) := by decide +kernel
theorem dX12_set_0 : decode cX12_set 0 = .ok (.iload_n 2, 1) := by decide +kernel
theorem dX12_set_1 : decode cX12_set 1 = .ok (.ifCond .ne 11, 3) := by decide +kernel
theorem dX12_set_4 : decode cX12_set 4 = .ok (.aload_n 0, 1) := by decide +kernel
theorem dX12_set_5 : decode cX12_set 5 = .ok (.iload_n 3, 1) := by decide +kernel
theorem dX12_set_6 : decode cX12_set 6 = .ok (.invokevirtual 84, 3) := by decide +kernel
theorem dX12_set_9 : decode cX12_set 9 = .ok (.goto 25, 3) := by decide +kernel
theorem dX12_set_12 : decode cX12_set 12 = .ok (.iload_n 2, 1) := by decide +kernel
theorem dX12_set_13 : decode cX12_set 13 = .ok (.iconst 1, 1) := by decide +kernel
theorem dX12_set_14 : decode cX12_set 14 = .ok (.if_icmp .ne 19, 3) := by decide +kernel
theorem dX12_set_17 : decode cX12_set 17 = .ok (.iload_n 3, 1) := by decide +kernel
theorem dX12_set_18 : decode cX12_set 18 = .ok (.i2l, 1) := by decide +kernel
theorem dX12_set_19 : decode cX12_set 19 = .ok (.lconst 0, 1) := by decide +kernel
theorem dX12_set_20 : decode cX12_set 20 = .ok (.ldc2_w 74, 3) := by decide +kernel
theorem dX12_set_23 : decode cX12_set 23 = .ok (.invokestatic 65, 3) := by decide +kernel
theorem dX12_set_26 : decode cX12_set 26 = .ok (.ifCond .eq 7, 3) := by decide +kernel
theorem dX12_set_29 : decode cX12_set 29 = .ok (.iconst 1, 1) := by decide +kernel
theorem dX12_set_30 : decode cX12_set 30 = .ok (.goto 4, 3) := by decide +kernel
theorem dX12_set_33 : decode cX12_set 33 = .ok (.iconst 0, 1) := by decide +kernel
theorem dX12_set_34 : decode cX12_set 34 = .ok (.istore 4, 2) := by decide +kernel
theorem dX12_set_36 : decode cX12_set 36 = .ok (.aload_n 0, 1) := by decide +kernel
theorem dX12_set_37 : decode cX12_set 37 = .ok (.iload_n 1, 1) := by decide +kernel
theorem dX12_set_38 : decode cX12_set 38 = .ok (.invokevirtual 156, 3) := by decide +kernel
theorem dX12_set_41 : decode cX12_set 41 = .ok (.ifCond .eq 24, 3) := by decide +kernel
theorem dX12_set_44 : decode cX12_set 44 = .ok (.iload 4, 2) := by decide +kernel
theorem dX12_set_46 : decode cX12_set 46 = .ok (.ifCond .eq 19, 3) := by decide +kernel
theorem dX12_set_49 : decode cX12_set 49 = .ok (.aload_n 0, 1) := by decide +kernel
theorem dX12_set_50 : decode cX12_set 50 = .ok (.bipush 68, 2) := by decide +kernel
theorem dX12_set_52 : decode cX12_set 52 = .ok (.iconst 2, 1) := by decide +kernel
theorem dX12_set_53 : decode cX12_set 53 = .ok (.iload_n 1, 1) := by decide +kernel
theorem dX12_set_54 : decode cX12_set 54 = .ok (.imul, 1) := by decide +kernel
theorem dX12_set_55 : decode cX12_set 55 = .ok (.iadd, 1) := by decide +kernel
theorem dX12_set_56 : decode cX12_set 56 = .ok (.iload_n 2, 1) := by decide +kernel
theorem dX12_set_57 : decode cX12_set 57 = .ok (.iadd, 1) := by decide +kernel
theorem dX12_set_58 : decode cX12_set 58 = .ok (.iload_n 3, 1) := by decide +kernel
theorem dX12_set_59 : decode cX12_set 59 = .ok (.invokevirtual 97, 3) := by decide +kernel
theorem dX12_set_62 : decode cX12_set 62 = .ok (.goto 5, 3) := by decide +kernel
theorem dX12_set_65 : decode cX12_set 65 = .ok (.ldc 78, 2) := by decide +kernel
theorem dX12_set_67 : decode cX12_set 67 = .ok (.ireturn, 1) := by decide +kernel
theorem dX12_isStrong_0 : decode cX12_isStrong 0 = .ok (.aload_n 0, 1) := by decide +kernel
theorem dX12_isStrong_1 : decode cX12_isStrong 1 = .ok (.getfield 7, 3) := by decide +kernel
theorem dX12_isStrong_4 : decode cX12_isStrong 4 = .ok (.bipush 68, 2) := by decide +kernel
theorem dX12_isStrong_6 : decode cX12_isStrong 6 = .ok (.iconst 2, 1) := by decide +kernel
theorem dX12_isStrong_7 : decode cX12_isStrong 7 = .ok (.iload_n 1, 1) := by decide +kernel
theorem dX12_isStrong_8 : decode cX12_isStrong 8 = .ok (.imul, 1) := by decide +kernel
theorem dX12_isStrong_9 : decode cX12_isStrong 9 = .ok (.iadd, 1) := by decide +kernel
theorem dX12_isStrong_10 : decode cX12_isStrong 10 = .ok (.iconst 1, 1) := by decide +kernel
theorem dX12_isStrong_11 : decode cX12_isStrong 11 = .ok (.iadd, 1) := by decide +kernel
theorem dX12_isStrong_12 : decode cX12_isStrong 12 = .ok (.iaload, 1) := by decide +kernel
theorem dX12_isStrong_13 : decode cX12_isStrong 13 = .ok (.istore_n 3, 1) := by decide +kernel
theorem dX12_isStrong_14 : decode cX12_isStrong 14 = .ok (.aload_n 0, 1) := by decide +kernel
theorem dX12_isStrong_15 : decode cX12_isStrong 15 = .ok (.iconst 1, 1) := by decide +kernel
theorem dX12_isStrong_16 : decode cX12_isStrong 16 = .ok (.invokevirtual 118, 3) := by decide +kernel
theorem dX12_isStrong_19 : decode cX12_isStrong 19 = .ok (.istore 4, 2) := by decide +kernel
theorem dX12_isStrong_21 : decode cX12_isStrong 21 = .ok (.iload 4, 2) := by decide +kernel
theorem dX12_isStrong_23 : decode cX12_isStrong 23 = .ok (.ifCond .ge 19, 3) := by decide +kernel
theorem dX12_isStrong_26 : decode cX12_isStrong 26 = .ok (.iload_n 3, 1) := by decide +kernel
theorem dX12_isStrong_27 : decode cX12_isStrong 27 = .ok (.aload_n 0, 1) := by decide +kernel
theorem dX12_isStrong_28 : decode cX12_isStrong 28 = .ok (.iload_n 2, 1) := by decide +kernel
theorem dX12_isStrong_29 : decode cX12_isStrong 29 = .ok (.iconst 1, 1) := by decide +kernel
theorem dX12_isStrong_30 : decode cX12_isStrong 30 = .ok (.invokevirtual 90, 3) := by decide +kernel
theorem dX12_isStrong_33 : decode cX12_isStrong 33 = .ok (.if_icmp .lt 7, 3) := by decide +kernel
theorem dX12_isStrong_36 : decode cX12_isStrong 36 = .ok (.iconst 1, 1) := by decide +kernel
theorem dX12_isStrong_37 : decode cX12_isStrong 37 = .ok (.goto 4, 3) := by decide +kernel
theorem dX12_isStrong_40 : decode cX12_isStrong 40 = .ok (.iconst 0, 1) := by decide +kernel
theorem dX12_isStrong_41 : decode cX12_isStrong 41 = .ok (.ireturn, 1) := by decide +kernel
theorem dX12_isStrong_42 : decode cX12_isStrong 42 = .ok (.aload_n 0, 1) := by decide +kernel
theorem dX12_isStrong_43 : decode cX12_isStrong 43 = .ok (.getfield 49, 3) := by decide +kernel
theorem dX12_isStrong_46 : decode cX12_isStrong 46 = .ok (.bipush 115, 2) := by decide +kernel
theorem dX12_isStrong_48 : decode cX12_isStrong 48 = .ok (.iload_n 3, 1) := by decide +kernel
theorem dX12_isStrong_49 : decode cX12_isStrong 49 = .ok (.iastore, 1) := by decide +kernel
theorem dX12_isStrong_50 : decode cX12_isStrong 50 = .ok (.aload_n 0, 1) := by decide +kernel
theorem dX12_isStrong_51 : decode cX12_isStrong 51 = .ok (.getfield 49, 3) := by decide +kernel
theorem dX12_isStrong_54 : decode cX12_isStrong 54 = .ok (.bipush 108, 2) := by decide +kernel
theorem dX12_isStrong_56 : decode cX12_isStrong 56 = .ok (.aload_n 0, 1) := by decide +kernel
theorem dX12_isStrong_57 : decode cX12_isStrong 57 = .ok (.iload_n 2, 1) := by decide +kernel
theorem dX12_isStrong_58 : decode cX12_isStrong 58 = .ok (.iconst 1, 1) := by decide +kernel
theorem dX12_isStrong_59 : decode cX12_isStrong 59 = .ok (.invokevirtual 90, 3) := by decide +kernel
theorem dX12_isStrong_62 : decode cX12_isStrong 62 = .ok (.iastore, 1) := by decide +kernel
theorem dX12_isStrong_63 : decode cX12_isStrong 63 = .ok (.aload_n 0, 1) := by decide +kernel
theorem dX12_isStrong_64 : decode cX12_isStrong 64 = .ok (.getfield 49, 3) := by decide +kernel
theorem dX12_isStrong_67 : decode cX12_isStrong 67 = .ok (.bipush 100, 2) := by decide +kernel
theorem dX12_isStrong_69 : decode cX12_isStrong 69 = .ok (.aload_n 0, 1) := by decide +kernel
theorem dX12_isStrong_70 : decode cX12_isStrong 70 = .ok (.getfield 7, 3) := by decide +kernel
theorem dX12_isStrong_73 : decode cX12_isStrong 73 = .ok (.iconst 4, 1) := by decide +kernel
theorem dX12_isStrong_74 : decode cX12_isStrong 74 = .ok (.iaload, 1) := by decide +kernel
theorem dX12_isStrong_75 : decode cX12_isStrong 75 = .ok (.iastore, 1) := by decide +kernel
theorem dX12_isStrong_76 : decode cX12_isStrong 76 = .ok (.aload_n 0, 1) := by decide +kernel
theorem dX12_isStrong_77 : decode cX12_isStrong 77 = .ok (.iload 4, 2) := by decide +kernel
theorem dX12_isStrong_79 : decode cX12_isStrong 79 = .ok (.invokevirtual 121, 3) := by decide +kernel
theorem dX12_isStrong_82 : decode cX12_isStrong 82 = .ok (.ifCond .eq 7, 3) := by decide +kernel
theorem dX12_isStrong_85 : decode cX12_isStrong 85 = .ok (.iconst 1, 1) := by decide +kernel
theorem dX12_isStrong_86 : decode cX12_isStrong 86 = .ok (.goto 4, 3) := by decide +kernel
theorem dX12_isStrong_89 : decode cX12_isStrong 89 = .ok (.iconst 0, 1) := by decide +kernel
theorem dX12_isStrong_90 : decode cX12_isStrong 90 = .ok (.ireturn, 1) := by decide +kernel
theorem dX12_mayThere_0 : decode cX12_mayThere 0 = .ok (.aload_n 0, 1) := by decide +kernel
theorem dX12_mayThere_1 : decode cX12_mayThere 1 = .ok (.iload_n 2, 1) := by decide +kernel
theorem dX12_mayThere_2 : decode cX12_mayThere 2 = .ok (.iconst 4, 1) := by decide +kernel
theorem dX12_mayThere_3 : decode cX12_mayThere 3 = .ok (.invokevirtual 90, 3) := by decide +kernel
theorem dX12_mayThere_6 : decode cX12_mayThere 6 = .ok (.iconst 1, 1) := by decide +kernel
theorem dX12_mayThere_7 : decode cX12_mayThere 7 = .ok (.if_icmp .ne 5, 3) := by decide +kernel
theorem dX12_mayThere_10 : decode cX12_mayThere 10 = .ok (.iconst 0, 1) := by decide +kernel
theorem dX12_mayThere_11 : decode cX12_mayThere 11 = .ok (.ireturn, 1) := by decide +kernel
theorem dX12_mayThere_12 : decode cX12_mayThere 12 = .ok (.aload_n 0, 1) := by decide +kernel
theorem dX12_mayThere_13 : decode cX12_mayThere 13 = .ok (.iload_n 2, 1) := by decide +kernel
theorem dX12_mayThere_14 : decode cX12_mayThere 14 = .ok (.iconst 0, 1) := by decide +kernel
theorem dX12_mayThere_15 : decode cX12_mayThere 15 = .ok (.invokevirtual 90, 3) := by decide +kernel
theorem dX12_mayThere_18 : decode cX12_mayThere 18 = .ok (.tableswitch 84 1 5 #[34, 36, 34, 36, 34], 34) := by decide +kernel
theorem dX12_mayThere_52 : decode cX12_mayThere 52 = .ok (.iconst 1, 1) := by decide +kernel
theorem dX12_mayThere_53 : decode cX12_mayThere 53 = .ok (.ireturn, 1) := by decide +kernel
theorem dX12_mayThere_54 : decode cX12_mayThere 54 = .ok (.aload_n 0, 1) := by decide +kernel
theorem dX12_mayThere_55 : decode cX12_mayThere 55 = .ok (.iload_n 1, 1) := by decide +kernel
theorem dX12_mayThere_56 : decode cX12_mayThere 56 = .ok (.iload_n 2, 1) := by decide +kernel
theorem dX12_mayThere_57 : decode cX12_mayThere 57 = .ok (.invokevirtual 159, 3) := by decide +kernel
theorem dX12_mayThere_60 : decode cX12_mayThere 60 = .ok (.ifCond .eq 40, 3) := by decide +kernel
theorem dX12_mayThere_63 : decode cX12_mayThere 63 = .ok (.aload_n 0, 1) := by decide +kernel
theorem dX12_mayThere_64 : decode cX12_mayThere 64 = .ok (.aload_n 0, 1) := by decide +kernel
theorem dX12_mayThere_65 : decode cX12_mayThere 65 = .ok (.iload_n 2, 1) := by decide +kernel
theorem dX12_mayThere_66 : decode cX12_mayThere 66 = .ok (.iconst 2, 1) := by decide +kernel
theorem dX12_mayThere_67 : decode cX12_mayThere 67 = .ok (.invokevirtual 90, 3) := by decide +kernel
theorem dX12_mayThere_70 : decode cX12_mayThere 70 = .ok (.invokevirtual 94, 3) := by decide +kernel
theorem dX12_mayThere_73 : decode cX12_mayThere 73 = .ok (.aload_n 0, 1) := by decide +kernel
theorem dX12_mayThere_74 : decode cX12_mayThere 74 = .ok (.iload_n 1, 1) := by decide +kernel
theorem dX12_mayThere_75 : decode cX12_mayThere 75 = .ok (.invokevirtual 70, 3) := by decide +kernel
theorem dX12_mayThere_78 : decode cX12_mayThere 78 = .ok (.aload_n 0, 1) := by decide +kernel
theorem dX12_mayThere_79 : decode cX12_mayThere 79 = .ok (.iload_n 2, 1) := by decide +kernel
theorem dX12_mayThere_80 : decode cX12_mayThere 80 = .ok (.iconst 2, 1) := by decide +kernel
theorem dX12_mayThere_81 : decode cX12_mayThere 81 = .ok (.invokevirtual 90, 3) := by decide +kernel
theorem dX12_mayThere_84 : decode cX12_mayThere 84 = .ok (.if_icmp .ne 7, 3) := by decide +kernel
theorem dX12_mayThere_87 : decode cX12_mayThere 87 = .ok (.iconst 1, 1) := by decide +kernel
theorem dX12_mayThere_88 : decode cX12_mayThere 88 = .ok (.goto 4, 3) := by decide +kernel
theorem dX12_mayThere_91 : decode cX12_mayThere 91 = .ok (.iconst 0, 1) := by decide +kernel
theorem dX12_mayThere_92 : decode cX12_mayThere 92 = .ok (.isub, 1) := by decide +kernel
theorem dX12_mayThere_93 : decode cX12_mayThere 93 = .ok (.ifCond .le 7, 3) := by decide +kernel
theorem dX12_mayThere_96 : decode cX12_mayThere 96 = .ok (.iconst 1, 1) := by decide +kernel
theorem dX12_mayThere_97 : decode cX12_mayThere 97 = .ok (.goto 4, 3) := by decide +kernel
theorem dX12_mayThere_100 : decode cX12_mayThere 100 = .ok (.iconst 0, 1) := by decide +kernel
theorem dX12_mayThere_101 : decode cX12_mayThere 101 = .ok (.ireturn, 1) := by decide +kernel
theorem dX12_mayThere_102 : decode cX12_mayThere 102 = .ok (.aload_n 0, 1) := by decide +kernel
theorem dX12_mayThere_103 : decode cX12_mayThere 103 = .ok (.iload_n 1, 1) := by decide +kernel
theorem dX12_mayThere_104 : decode cX12_mayThere 104 = .ok (.iload_n 2, 1) := by decide +kernel
theorem dX12_mayThere_105 : decode cX12_mayThere 105 = .ok (.invokevirtual 159, 3) := by decide +kernel
theorem dX12_mayThere_108 : decode cX12_mayThere 108 = .ok (.ireturn, 1) := by decide +kernel
theorem dX12_mayMove_0 : decode cX12_mayMove 0 = .ok (.aload_n 0, 1) := by decide +kernel
theorem dX12_mayMove_1 : decode cX12_mayMove 1 = .ok (.iload_n 1, 1) := by decide +kernel
theorem dX12_mayMove_2 : decode cX12_mayMove 2 = .ok (.invokevirtual 70, 3) := by decide +kernel
theorem dX12_mayMove_5 : decode cX12_mayMove 5 = .ok (.aload_n 0, 1) := by decide +kernel
theorem dX12_mayMove_6 : decode cX12_mayMove 6 = .ok (.iload_n 2, 1) := by decide +kernel
theorem dX12_mayMove_7 : decode cX12_mayMove 7 = .ok (.iconst 2, 1) := by decide +kernel
theorem dX12_mayMove_8 : decode cX12_mayMove 8 = .ok (.invokevirtual 90, 3) := by decide +kernel
theorem dX12_mayMove_11 : decode cX12_mayMove 11 = .ok (.if_icmp .ne 16, 3) := by decide +kernel
theorem dX12_mayMove_14 : decode cX12_mayMove 14 = .ok (.aload_n 0, 1) := by decide +kernel
theorem dX12_mayMove_15 : decode cX12_mayMove 15 = .ok (.iload_n 1, 1) := by decide +kernel
theorem dX12_mayMove_16 : decode cX12_mayMove 16 = .ok (.iload_n 2, 1) := by decide +kernel
theorem dX12_mayMove_17 : decode cX12_mayMove 17 = .ok (.invokevirtual 162, 3) := by decide +kernel
theorem dX12_mayMove_20 : decode cX12_mayMove 20 = .ok (.ifCond .eq 7, 3) := by decide +kernel
theorem dX12_mayMove_23 : decode cX12_mayMove 23 = .ok (.iconst 1, 1) := by decide +kernel
theorem dX12_mayMove_24 : decode cX12_mayMove 24 = .ok (.goto 4, 3) := by decide +kernel
theorem dX12_mayMove_27 : decode cX12_mayMove 27 = .ok (.iconst 0, 1) := by decide +kernel
theorem dX12_mayMove_28 : decode cX12_mayMove 28 = .ok (.ireturn, 1) := by decide +kernel
theorem dX12_may_0 : decode cX12_may 0 = .ok (.aload_n 0, 1) := by decide +kernel
theorem dX12_may_1 : decode cX12_may 1 = .ok (.iload_n 1, 1) := by decide +kernel
theorem dX12_may_2 : decode cX12_may 2 = .ok (.invokevirtual 156, 3) := by decide +kernel
theorem dX12_may_5 : decode cX12_may 5 = .ok (.ifCond .eq 11, 3) := by decide +kernel
theorem dX12_may_8 : decode cX12_may 8 = .ok (.aload_n 0, 1) := by decide +kernel
theorem dX12_may_9 : decode cX12_may 9 = .ok (.iload_n 2, 1) := by decide +kernel
theorem dX12_may_10 : decode cX12_may 10 = .ok (.invokevirtual 137, 3) := by decide +kernel
theorem dX12_may_13 : decode cX12_may 13 = .ok (.ifCond .ne 6, 3) := by decide +kernel
theorem dX12_may_16 : decode cX12_may 16 = .ok (.ldc 78, 2) := by decide +kernel
theorem dX12_may_18 : decode cX12_may 18 = .ok (.ireturn, 1) := by decide +kernel
theorem dX12_may_19 : decode cX12_may 19 = .ok (.aload_n 0, 1) := by decide +kernel
theorem dX12_may_20 : decode cX12_may 20 = .ok (.iload_n 1, 1) := by decide +kernel
theorem dX12_may_21 : decode cX12_may 21 = .ok (.iload_n 2, 1) := by decide +kernel
theorem dX12_may_22 : decode cX12_may 22 = .ok (.invokevirtual 165, 3) := by decide +kernel
theorem dX12_may_25 : decode cX12_may 25 = .ok (.ifCond .eq 7, 3) := by decide +kernel
theorem dX12_may_28 : decode cX12_may 28 = .ok (.iconst 1, 1) := by decide +kernel
theorem dX12_may_29 : decode cX12_may 29 = .ok (.goto 4, 3) := by decide +kernel
theorem dX12_may_32 : decode cX12_may 32 = .ok (.iconst 0, 1) := by decide +kernel
theorem dX12_may_33 : decode cX12_may 33 = .ok (.ireturn, 1) := by decide +kernel
theorem dX12_move_0 : decode cX12_move 0 = .ok (.aload_n 0, 1) := by decide +kernel
theorem dX12_move_1 : decode cX12_move 1 = .ok (.iload_n 1, 1) := by decide +kernel
theorem dX12_move_2 : decode cX12_move 2 = .ok (.invokevirtual 156, 3) := by decide +kernel
theorem dX12_move_5 : decode cX12_move 5 = .ok (.ifCond .eq 19, 3) := by decide +kernel
theorem dX12_move_8 : decode cX12_move 8 = .ok (.aload_n 0, 1) := by decide +kernel
theorem dX12_move_9 : decode cX12_move 9 = .ok (.iload_n 2, 1) := by decide +kernel
theorem dX12_move_10 : decode cX12_move 10 = .ok (.invokevirtual 137, 3) := by decide +kernel
theorem dX12_move_13 : decode cX12_move 13 = .ok (.ifCond .eq 11, 3) := by decide +kernel
theorem dX12_move_16 : decode cX12_move 16 = .ok (.aload_n 0, 1) := by decide +kernel
theorem dX12_move_17 : decode cX12_move 17 = .ok (.iload_n 3, 1) := by decide +kernel
theorem dX12_move_18 : decode cX12_move 18 = .ok (.invokevirtual 84, 3) := by decide +kernel
theorem dX12_move_21 : decode cX12_move 21 = .ok (.ifCond .ne 6, 3) := by decide +kernel
theorem dX12_move_24 : decode cX12_move 24 = .ok (.ldc 78, 2) := by decide +kernel
theorem dX12_move_26 : decode cX12_move 26 = .ok (.ireturn, 1) := by decide +kernel
theorem dX12_move_27 : decode cX12_move 27 = .ok (.aload_n 0, 1) := by decide +kernel
theorem dX12_move_28 : decode cX12_move 28 = .ok (.iload_n 1, 1) := by decide +kernel
theorem dX12_move_29 : decode cX12_move 29 = .ok (.iload_n 2, 1) := by decide +kernel
theorem dX12_move_30 : decode cX12_move 30 = .ok (.invokevirtual 165, 3) := by decide +kernel
theorem dX12_move_33 : decode cX12_move 33 = .ok (.ifCond .eq 22, 3) := by decide +kernel
theorem dX12_move_36 : decode cX12_move 36 = .ok (.aload_n 0, 1) := by decide +kernel
theorem dX12_move_37 : decode cX12_move 37 = .ok (.iload_n 2, 1) := by decide +kernel
theorem dX12_move_38 : decode cX12_move 38 = .ok (.iconst 3, 1) := by decide +kernel
theorem dX12_move_39 : decode cX12_move 39 = .ok (.invokevirtual 90, 3) := by decide +kernel
theorem dX12_move_42 : decode cX12_move 42 = .ok (.iload_n 3, 1) := by decide +kernel
theorem dX12_move_43 : decode cX12_move 43 = .ok (.if_icmp .eq 12, 3) := by decide +kernel
theorem dX12_move_46 : decode cX12_move 46 = .ok (.aload_n 0, 1) := by decide +kernel
theorem dX12_move_47 : decode cX12_move 47 = .ok (.iload_n 2, 1) := by decide +kernel
theorem dX12_move_48 : decode cX12_move 48 = .ok (.iload_n 3, 1) := by decide +kernel
theorem dX12_move_49 : decode cX12_move 49 = .ok (.invokevirtual 133, 3) := by decide +kernel
theorem dX12_move_52 : decode cX12_move 52 = .ok (.ifCond .ne 6, 3) := by decide +kernel
theorem dX12_move_55 : decode cX12_move 55 = .ok (.ldc 168, 2) := by decide +kernel
theorem dX12_move_57 : decode cX12_move 57 = .ok (.ireturn, 1) := by decide +kernel
theorem dX12_move_58 : decode cX12_move 58 = .ok (.aload_n 0, 1) := by decide +kernel
theorem dX12_move_59 : decode cX12_move 59 = .ok (.iload_n 2, 1) := by decide +kernel
theorem dX12_move_60 : decode cX12_move 60 = .ok (.iconst 4, 1) := by decide +kernel
theorem dX12_move_61 : decode cX12_move 61 = .ok (.iconst 1, 1) := by decide +kernel
theorem dX12_move_62 : decode cX12_move 62 = .ok (.invokevirtual 108, 3) := by decide +kernel
theorem dX12_move_65 : decode cX12_move 65 = .ok (.aload_n 0, 1) := by decide +kernel
theorem dX12_move_66 : decode cX12_move 66 = .ok (.bipush 28, 2) := by decide +kernel
theorem dX12_move_68 : decode cX12_move 68 = .ok (.iconst 5, 1) := by decide +kernel
theorem dX12_move_69 : decode cX12_move 69 = .ok (.iload_n 2, 1) := by decide +kernel
theorem dX12_move_70 : decode cX12_move 70 = .ok (.imul, 1) := by decide +kernel
theorem dX12_move_71 : decode cX12_move 71 = .ok (.iadd, 1) := by decide +kernel
theorem dX12_move_72 : decode cX12_move 72 = .ok (.iconst 3, 1) := by decide +kernel
theorem dX12_move_73 : decode cX12_move 73 = .ok (.iadd, 1) := by decide +kernel
theorem dX12_move_74 : decode cX12_move 74 = .ok (.iload_n 3, 1) := by decide +kernel
theorem dX12_move_75 : decode cX12_move 75 = .ok (.invokevirtual 97, 3) := by decide +kernel
theorem dX12_move_78 : decode cX12_move 78 = .ok (.ireturn, 1) := by decide +kernel
theorem dX12_climb_0 : decode cX12_climb 0 = .ok (.aload_n 0, 1) := by decide +kernel
theorem dX12_climb_1 : decode cX12_climb 1 = .ok (.iload_n 1, 1) := by decide +kernel
theorem dX12_climb_2 : decode cX12_climb 2 = .ok (.invokevirtual 156, 3) := by decide +kernel
theorem dX12_climb_5 : decode cX12_climb 5 = .ok (.ifCond .eq 11, 3) := by decide +kernel
theorem dX12_climb_8 : decode cX12_climb 8 = .ok (.aload_n 0, 1) := by decide +kernel
theorem dX12_climb_9 : decode cX12_climb 9 = .ok (.iload_n 2, 1) := by decide +kernel
theorem dX12_climb_10 : decode cX12_climb 10 = .ok (.invokevirtual 137, 3) := by decide +kernel
theorem dX12_climb_13 : decode cX12_climb 13 = .ok (.ifCond .ne 6, 3) := by decide +kernel
theorem dX12_climb_16 : decode cX12_climb 16 = .ok (.ldc 78, 2) := by decide +kernel
theorem dX12_climb_18 : decode cX12_climb 18 = .ok (.ireturn, 1) := by decide +kernel
theorem dX12_climb_19 : decode cX12_climb 19 = .ok (.aload_n 0, 1) := by decide +kernel
theorem dX12_climb_20 : decode cX12_climb 20 = .ok (.iload_n 1, 1) := by decide +kernel
theorem dX12_climb_21 : decode cX12_climb 21 = .ok (.invokevirtual 70, 3) := by decide +kernel
theorem dX12_climb_24 : decode cX12_climb 24 = .ok (.istore_n 3, 1) := by decide +kernel
theorem dX12_climb_25 : decode cX12_climb 25 = .ok (.aload_n 0, 1) := by decide +kernel
theorem dX12_climb_26 : decode cX12_climb 26 = .ok (.iload_n 2, 1) := by decide +kernel
theorem dX12_climb_27 : decode cX12_climb 27 = .ok (.iconst 2, 1) := by decide +kernel
theorem dX12_climb_28 : decode cX12_climb 28 = .ok (.invokevirtual 90, 3) := by decide +kernel
theorem dX12_climb_31 : decode cX12_climb 31 = .ok (.istore 4, 2) := by decide +kernel
theorem dX12_climb_33 : decode cX12_climb 33 = .ok (.aload_n 0, 1) := by decide +kernel
theorem dX12_climb_34 : decode cX12_climb 34 = .ok (.iload_n 2, 1) := by decide +kernel
theorem dX12_climb_35 : decode cX12_climb 35 = .ok (.iconst 3, 1) := by decide +kernel
theorem dX12_climb_36 : decode cX12_climb 36 = .ok (.invokevirtual 90, 3) := by decide +kernel
theorem dX12_climb_39 : decode cX12_climb 39 = .ok (.istore 5, 2) := by decide +kernel
theorem dX12_climb_41 : decode cX12_climb 41 = .ok (.aload_n 0, 1) := by decide +kernel
theorem dX12_climb_42 : decode cX12_climb 42 = .ok (.iload_n 2, 1) := by decide +kernel
theorem dX12_climb_43 : decode cX12_climb 43 = .ok (.invokevirtual 143, 3) := by decide +kernel
theorem dX12_climb_46 : decode cX12_climb 46 = .ok (.ifCond .eq 15, 3) := by decide +kernel
theorem dX12_climb_49 : decode cX12_climb 49 = .ok (.iload_n 3, 1) := by decide +kernel
theorem dX12_climb_50 : decode cX12_climb 50 = .ok (.iload 4, 2) := by decide +kernel
theorem dX12_climb_52 : decode cX12_climb 52 = .ok (.if_icmp .eq 12, 3) := by decide +kernel
theorem dX12_climb_55 : decode cX12_climb 55 = .ok (.iload_n 3, 1) := by decide +kernel
theorem dX12_climb_56 : decode cX12_climb 56 = .ok (.iload 5, 2) := by decide +kernel
theorem dX12_climb_58 : decode cX12_climb 58 = .ok (.if_icmp .eq 6, 3) := by decide +kernel
theorem dX12_climb_61 : decode cX12_climb 61 = .ok (.ldc 168, 2) := by decide +kernel
theorem dX12_climb_63 : decode cX12_climb 63 = .ok (.ireturn, 1) := by decide +kernel
theorem dX12_climb_64 : decode cX12_climb 64 = .ok (.aload_n 0, 1) := by decide +kernel
theorem dX12_climb_65 : decode cX12_climb 65 = .ok (.getfield 7, 3) := by decide +kernel
theorem dX12_climb_68 : decode cX12_climb 68 = .ok (.bipush 68, 2) := by decide +kernel
theorem dX12_climb_70 : decode cX12_climb 70 = .ok (.iconst 2, 1) := by decide +kernel
theorem dX12_climb_71 : decode cX12_climb 71 = .ok (.iload_n 1, 1) := by decide +kernel
theorem dX12_climb_72 : decode cX12_climb 72 = .ok (.imul, 1) := by decide +kernel
theorem dX12_climb_73 : decode cX12_climb 73 = .ok (.iadd, 1) := by decide +kernel
theorem dX12_climb_74 : decode cX12_climb 74 = .ok (.iload_n 3, 1) := by decide +kernel
theorem dX12_climb_75 : decode cX12_climb 75 = .ok (.iload 4, 2) := by decide +kernel
theorem dX12_climb_77 : decode cX12_climb 77 = .ok (.if_icmp .ne 8, 3) := by decide +kernel
theorem dX12_climb_80 : decode cX12_climb 80 = .ok (.iload 5, 2) := by decide +kernel
theorem dX12_climb_82 : decode cX12_climb 82 = .ok (.goto 5, 3) := by decide +kernel
theorem dX12_climb_85 : decode cX12_climb 85 = .ok (.iload 4, 2) := by decide +kernel
theorem dX12_climb_87 : decode cX12_climb 87 = .ok (.iastore, 1) := by decide +kernel
theorem dX12_climb_88 : decode cX12_climb 88 = .ok (.aload_n 0, 1) := by decide +kernel
theorem dX12_climb_89 : decode cX12_climb 89 = .ok (.iload_n 2, 1) := by decide +kernel
theorem dX12_climb_90 : decode cX12_climb 90 = .ok (.invokevirtual 140, 3) := by decide +kernel
theorem dX12_climb_93 : decode cX12_climb 93 = .ok (.ireturn, 1) := by decide +kernel
theorem dX12_thieves_0 : decode cX12_thieves 0 = .ok (.iload_n 1, 1) := by decide +kernel
theorem dX12_thieves_1 : decode cX12_thieves 1 = .ok (.i2l, 1) := by decide +kernel
theorem dX12_thieves_2 : decode cX12_thieves 2 = .ok (.lconst 0, 1) := by decide +kernel
theorem dX12_thieves_3 : decode cX12_thieves 3 = .ok (.ldc2_w 169, 3) := by decide +kernel
theorem dX12_thieves_6 : decode cX12_thieves 6 = .ok (.invokestatic 65, 3) := by decide +kernel
theorem dX12_thieves_9 : decode cX12_thieves 9 = .ok (.ifCond .eq 12, 3) := by decide +kernel
theorem dX12_thieves_12 : decode cX12_thieves 12 = .ok (.aload_n 0, 1) := by decide +kernel
theorem dX12_thieves_13 : decode cX12_thieves 13 = .ok (.iconst 5, 1) := by decide +kernel
theorem dX12_thieves_14 : decode cX12_thieves 14 = .ok (.iload_n 1, 1) := by decide +kernel
theorem dX12_thieves_15 : decode cX12_thieves 15 = .ok (.invokevirtual 97, 3) := by decide +kernel
theorem dX12_thieves_18 : decode cX12_thieves 18 = .ok (.goto 5, 3) := by decide +kernel
theorem dX12_thieves_21 : decode cX12_thieves 21 = .ok (.ldc 78, 2) := by decide +kernel
theorem dX12_thieves_23 : decode cX12_thieves 23 = .ok (.ireturn, 1) := by decide +kernel
theorem dX12_night_0 : decode cX12_night 0 = .ok (.iconst 0, 1) := by decide +kernel
theorem dX12_night_1 : decode cX12_night 1 = .ok (.istore_n 1, 1) := by decide +kernel
theorem dX12_night_2 : decode cX12_night 2 = .ok (.iconst 0, 1) := by decide +kernel
theorem dX12_night_3 : decode cX12_night 3 = .ok (.istore_n 2, 1) := by decide +kernel
theorem dX12_night_4 : decode cX12_night 4 = .ok (.iload_n 2, 1) := by decide +kernel
theorem dX12_night_5 : decode cX12_night 5 = .ok (.aload_n 0, 1) := by decide +kernel
theorem dX12_night_6 : decode cX12_night 6 = .ok (.getfield 7, 3) := by decide +kernel
theorem dX12_night_9 : decode cX12_night 9 = .ok (.iconst 1, 1) := by decide +kernel
theorem dX12_night_10 : decode cX12_night 10 = .ok (.iaload, 1) := by decide +kernel
theorem dX12_night_11 : decode cX12_night 11 = .ok (.if_icmp .ge 16, 3) := by decide +kernel
theorem dX12_night_14 : decode cX12_night 14 = .ok (.aload_n 0, 1) := by decide +kernel
theorem dX12_night_15 : decode cX12_night 15 = .ok (.iload_n 2, 1) := by decide +kernel
theorem dX12_night_16 : decode cX12_night 16 = .ok (.iconst 4, 1) := by decide +kernel
theorem dX12_night_17 : decode cX12_night 17 = .ok (.iconst 0, 1) := by decide +kernel
theorem dX12_night_18 : decode cX12_night 18 = .ok (.invokevirtual 108, 3) := by decide +kernel
theorem dX12_night_21 : decode cX12_night 21 = .ok (.iinc 2 1, 3) := by decide +kernel
theorem dX12_night_24 : decode cX12_night 24 = .ok (.goto (-20), 3) := by decide +kernel
theorem dX12_night_27 : decode cX12_night 27 = .ok (.iconst 0, 1) := by decide +kernel
theorem dX12_night_28 : decode cX12_night 28 = .ok (.istore_n 2, 1) := by decide +kernel
theorem dX12_night_29 : decode cX12_night 29 = .ok (.iload_n 2, 1) := by decide +kernel
theorem dX12_night_30 : decode cX12_night 30 = .ok (.aload_n 0, 1) := by decide +kernel
theorem dX12_night_31 : decode cX12_night 31 = .ok (.getfield 7, 3) := by decide +kernel
theorem dX12_night_34 : decode cX12_night 34 = .ok (.iconst 1, 1) := by decide +kernel
theorem dX12_night_35 : decode cX12_night 35 = .ok (.iaload, 1) := by decide +kernel
theorem dX12_night_36 : decode cX12_night 36 = .ok (.if_icmp .ge 98, 3) := by decide +kernel
theorem dX12_night_39 : decode cX12_night 39 = .ok (.aload_n 0, 1) := by decide +kernel
theorem dX12_night_40 : decode cX12_night 40 = .ok (.invokevirtual 102, 3) := by decide +kernel
theorem dX12_night_43 : decode cX12_night 43 = .ok (.bipush 100, 2) := by decide +kernel
theorem dX12_night_45 : decode cX12_night 45 = .ok (.irem, 1) := by decide +kernel
theorem dX12_night_46 : decode cX12_night 46 = .ok (.aload_n 0, 1) := by decide +kernel
theorem dX12_night_47 : decode cX12_night 47 = .ok (.getfield 7, 3) := by decide +kernel
theorem dX12_night_50 : decode cX12_night 50 = .ok (.iconst 5, 1) := by decide +kernel
theorem dX12_night_51 : decode cX12_night 51 = .ok (.iaload, 1) := by decide +kernel
theorem dX12_night_52 : decode cX12_night 52 = .ok (.if_icmp .ge 76, 3) := by decide +kernel
theorem dX12_night_55 : decode cX12_night 55 = .ok (.aload_n 0, 1) := by decide +kernel
theorem dX12_night_56 : decode cX12_night 56 = .ok (.iload_n 2, 1) := by decide +kernel
theorem dX12_night_57 : decode cX12_night 57 = .ok (.iconst 3, 1) := by decide +kernel
theorem dX12_night_58 : decode cX12_night 58 = .ok (.invokevirtual 90, 3) := by decide +kernel
theorem dX12_night_61 : decode cX12_night 61 = .ok (.istore_n 3, 1) := by decide +kernel
theorem dX12_night_62 : decode cX12_night 62 = .ok (.iload_n 3, 1) := by decide +kernel
theorem dX12_night_63 : decode cX12_night 63 = .ok (.iconst 1, 1) := by decide +kernel
theorem dX12_night_64 : decode cX12_night 64 = .ok (.iadd, 1) := by decide +kernel
theorem dX12_night_65 : decode cX12_night 65 = .ok (.aload_n 0, 1) := by decide +kernel
theorem dX12_night_66 : decode cX12_night 66 = .ok (.getfield 7, 3) := by decide +kernel
theorem dX12_night_69 : decode cX12_night 69 = .ok (.iconst 0, 1) := by decide +kernel
theorem dX12_night_70 : decode cX12_night 70 = .ok (.iaload, 1) := by decide +kernel
theorem dX12_night_71 : decode cX12_night 71 = .ok (.irem, 1) := by decide +kernel
theorem dX12_night_72 : decode cX12_night 72 = .ok (.istore 4, 2) := by decide +kernel
theorem dX12_night_74 : decode cX12_night 74 = .ok (.iload 4, 2) := by decide +kernel
theorem dX12_night_76 : decode cX12_night 76 = .ok (.iload_n 3, 1) := by decide +kernel
theorem dX12_night_77 : decode cX12_night 77 = .ok (.if_icmp .eq 29, 3) := by decide +kernel
theorem dX12_night_80 : decode cX12_night 80 = .ok (.aload_n 0, 1) := by decide +kernel
theorem dX12_night_81 : decode cX12_night 81 = .ok (.iload_n 2, 1) := by decide +kernel
theorem dX12_night_82 : decode cX12_night 82 = .ok (.iload 4, 2) := by decide +kernel
theorem dX12_night_84 : decode cX12_night 84 = .ok (.invokevirtual 133, 3) := by decide +kernel
theorem dX12_night_87 : decode cX12_night 87 = .ok (.ifCond .ne 19, 3) := by decide +kernel
theorem dX12_night_90 : decode cX12_night 90 = .ok (.iload 4, 2) := by decide +kernel
theorem dX12_night_92 : decode cX12_night 92 = .ok (.iconst 1, 1) := by decide +kernel
theorem dX12_night_93 : decode cX12_night 93 = .ok (.iadd, 1) := by decide +kernel
theorem dX12_night_94 : decode cX12_night 94 = .ok (.aload_n 0, 1) := by decide +kernel
theorem dX12_night_95 : decode cX12_night 95 = .ok (.getfield 7, 3) := by decide +kernel
theorem dX12_night_98 : decode cX12_night 98 = .ok (.iconst 0, 1) := by decide +kernel
