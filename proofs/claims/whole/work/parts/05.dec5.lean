theorem dX9_init_0 : decode cX9_init 0 = .ok (.aload_n 0, 1) := by decide +kernel
theorem dX9_init_1 : decode cX9_init 1 = .ok (.invokespecial 3, 3) := by decide +kernel
theorem dX9_init_4 : decode cX9_init 4 = .ok (.aload_n 0, 1) := by decide +kernel
theorem dX9_init_5 : decode cX9_init 5 = .ok (.iconst 0, 1) := by decide +kernel
theorem dX9_init_6 : decode cX9_init 6 = .ok (.putfield 9, 3) := by decide +kernel
theorem dX9_init_9 : decode cX9_init 9 = .ok (.aload_n 0, 1) := by decide +kernel
theorem dX9_init_10 : decode cX9_init 10 = .ok (.bipush 10, 2) := by decide +kernel
theorem dX9_init_12 : decode cX9_init 12 = .ok (.newarray .int, 2) := by decide +kernel
theorem dX9_init_14 : decode cX9_init 14 = .ok (.putfield 15, 3) := by decide +kernel
theorem dX9_init_17 : decode cX9_init 17 = .ok (.aload_n 0, 1) := by decide +kernel
theorem dX9_init_18 : decode cX9_init 18 = .ok (.bipush 10, 2) := by decide +kernel
theorem dX9_init_20 : decode cX9_init 20 = .ok (.newarray .int, 2) := by decide +kernel
theorem dX9_init_22 : decode cX9_init 22 = .ok (.putfield 19, 3) := by decide +kernel
theorem dX9_init_25 : decode cX9_init 25 = .ok (.aload_n 0, 1) := by decide +kernel
theorem dX9_init_26 : decode cX9_init 26 = .ok (.iconst 0, 1) := by decide +kernel
theorem dX9_init_27 : decode cX9_init 27 = .ok (.putfield 22, 3) := by decide +kernel
theorem dX9_init_30 : decode cX9_init 30 = .ok (.aload_n 0, 1) := by decide +kernel
theorem dX9_init_31 : decode cX9_init 31 = .ok (.bipush 8, 2) := by decide +kernel
theorem dX9_init_33 : decode cX9_init 33 = .ok (.newarray .int, 2) := by decide +kernel
theorem dX9_init_35 : decode cX9_init 35 = .ok (.putfield 25, 3) := by decide +kernel
theorem dX9_init_38 : decode cX9_init 38 = .ok (.aload_n 0, 1) := by decide +kernel
theorem dX9_init_39 : decode cX9_init 39 = .ok (.bipush 8, 2) := by decide +kernel
theorem dX9_init_41 : decode cX9_init 41 = .ok (.newarray .int, 2) := by decide +kernel
theorem dX9_init_43 : decode cX9_init 43 = .ok (.putfield 28, 3) := by decide +kernel
theorem dX9_init_46 : decode cX9_init 46 = .ok (.aload_n 0, 1) := by decide +kernel
theorem dX9_init_47 : decode cX9_init 47 = .ok (.bipush 8, 2) := by decide +kernel
theorem dX9_init_49 : decode cX9_init 49 = .ok (.newarray .int, 2) := by decide +kernel
theorem dX9_init_51 : decode cX9_init 51 = .ok (.putfield 31, 3) := by decide +kernel
theorem dX9_init_54 : decode cX9_init 54 = .ok (.aload_n 0, 1) := by decide +kernel
theorem dX9_init_55 : decode cX9_init 55 = .ok (.bipush 8, 2) := by decide +kernel
theorem dX9_init_57 : decode cX9_init 57 = .ok (.newarray .int, 2) := by decide +kernel
theorem dX9_init_59 : decode cX9_init 59 = .ok (.putfield 34, 3) := by decide +kernel
theorem dX9_init_62 : decode cX9_init 62 = .ok (.aload_n 0, 1) := by decide +kernel
theorem dX9_init_63 : decode cX9_init 63 = .ok (.iconst 0, 1) := by decide +kernel
theorem dX9_init_64 : decode cX9_init 64 = .ok (.putfield 37, 3) := by decide +kernel
theorem dX9_init_67 : decode cX9_init 67 = .ok (.aload_n 0, 1) := by decide +kernel
theorem dX9_init_68 : decode cX9_init 68 = .ok (.iconst 0, 1) := by decide +kernel
theorem dX9_init_69 : decode cX9_init 69 = .ok (.putfield 40, 3) := by decide +kernel
theorem dX9_init_72 : decode cX9_init 72 = .ok (.aload_n 0, 1) := by decide +kernel
theorem dX9_init_73 : decode cX9_init 73 = .ok (.bipush 6, 2) := by decide +kernel
theorem dX9_init_75 : decode cX9_init 75 = .ok (.newarray .int, 2) := by decide +kernel
theorem dX9_init_77 : decode cX9_init 77 = .ok (.putfield 43, 3) := by decide +kernel
theorem dX9_init_80 : decode cX9_init 80 = .ok (.aload_n 0, 1) := by decide +kernel
theorem dX9_init_81 : decode cX9_init 81 = .ok (.bipush 6, 2) := by decide +kernel
theorem dX9_init_83 : decode cX9_init 83 = .ok (.newarray .int, 2) := by decide +kernel
theorem dX9_init_85 : decode cX9_init 85 = .ok (.putfield 46, 3) := by decide +kernel
theorem dX9_init_88 : decode cX9_init 88 = .ok (.aload_n 0, 1) := by decide +kernel
theorem dX9_init_89 : decode cX9_init 89 = .ok (.iconst 0, 1) := by decide +kernel
theorem dX9_init_90 : decode cX9_init 90 = .ok (.putfield 49, 3) := by decide +kernel
theorem dX9_init_93 : decode cX9_init 93 = .ok (.aload_n 0, 1) := by decide +kernel
theorem dX9_init_94 : decode cX9_init 94 = .ok (.bipush 20, 2) := by decide +kernel
theorem dX9_init_96 : decode cX9_init 96 = .ok (.putfield 52, 3) := by decide +kernel
theorem dX9_init_99 : decode cX9_init 99 = .ok (.aload_n 0, 1) := by decide +kernel
theorem dX9_init_100 : decode cX9_init 100 = .ok (.iconst 1, 1) := by decide +kernel
theorem dX9_init_101 : decode cX9_init 101 = .ok (.putfield 55, 3) := by decide +kernel
theorem dX9_init_104 : decode cX9_init 104 = .ok (.aload_n 0, 1) := by decide +kernel
theorem dX9_init_105 : decode cX9_init 105 = .ok (.iconst 0, 1) := by decide +kernel
theorem dX9_init_106 : decode cX9_init 106 = .ok (.putfield 58, 3) := by decide +kernel
theorem dX9_init_109 : decode cX9_init 109 = .ok (.aload_n 0, 1) := by decide +kernel
theorem dX9_init_110 : decode cX9_init 110 = .ok (.bipush 14, 2) := by decide +kernel
theorem dX9_init_112 : decode cX9_init 112 = .ok (.anewarray 61, 3) := by decide +kernel
theorem dX9_init_115 : decode cX9_init 115 = .ok (.putfield 63, 3) := by decide +kernel
theorem dX9_init_118 : decode cX9_init 118 = .ok (.aload_n 0, 1) := by decide +kernel
theorem dX9_init_119 : decode cX9_init 119 = .ok (.iconst 3, 1) := by decide +kernel
theorem dX9_init_120 : decode cX9_init 120 = .ok (.newarray .int, 2) := by decide +kernel
theorem dX9_init_122 : decode cX9_init 122 = .ok (.dup, 1) := by decide +kernel
theorem dX9_init_123 : decode cX9_init 123 = .ok (.iconst 0, 1) := by decide +kernel
theorem dX9_init_124 : decode cX9_init 124 = .ok (.iconst (-1), 1) := by decide +kernel
theorem dX9_init_125 : decode cX9_init 125 = .ok (.iastore, 1) := by decide +kernel
theorem dX9_init_126 : decode cX9_init 126 = .ok (.dup, 1) := by decide +kernel
theorem dX9_init_127 : decode cX9_init 127 = .ok (.iconst 1, 1) := by decide +kernel
theorem dX9_init_128 : decode cX9_init 128 = .ok (.iconst (-1), 1) := by decide +kernel
theorem dX9_init_129 : decode cX9_init 129 = .ok (.iastore, 1) := by decide +kernel
theorem dX9_init_130 : decode cX9_init 130 = .ok (.dup, 1) := by decide +kernel
theorem dX9_init_131 : decode cX9_init 131 = .ok (.iconst 2, 1) := by decide +kernel
theorem dX9_init_132 : decode cX9_init 132 = .ok (.iconst (-1), 1) := by decide +kernel
theorem dX9_init_133 : decode cX9_init 133 = .ok (.iastore, 1) := by decide +kernel
theorem dX9_init_134 : decode cX9_init 134 = .ok (.putfield 67, 3) := by decide +kernel
theorem dX9_init_137 : decode cX9_init 137 = .ok (.aload_n 0, 1) := by decide +kernel
theorem dX9_init_138 : decode cX9_init 138 = .ok (.bipush 96, 2) := by decide +kernel
theorem dX9_init_140 : decode cX9_init 140 = .ok (.newarray .int, 2) := by decide +kernel
theorem dX9_init_142 : decode cX9_init 142 = .ok (.putfield 70, 3) := by decide +kernel
theorem dX9_init_145 : decode cX9_init 145 = .ok (.aload_n 0, 1) := by decide +kernel
theorem dX9_init_146 : decode cX9_init 146 = .ok (.aload_n 1, 1) := by decide +kernel
theorem dX9_init_147 : decode cX9_init 147 = .ok (.putfield 73, 3) := by decide +kernel
theorem dX9_init_150 : decode cX9_init 150 = .ok (.return_, 1) := by decide +kernel
theorem dX9_becomeAs_0 : decode cX9_becomeAs 0 = .ok (.aload_n 0, 1) := by decide +kernel
theorem dX9_becomeAs_1 : decode cX9_becomeAs 1 = .ok (.aload_n 1, 1) := by decide +kernel
theorem dX9_becomeAs_2 : decode cX9_becomeAs 2 = .ok (.getfield 9, 3) := by decide +kernel
theorem dX9_becomeAs_5 : decode cX9_becomeAs 5 = .ok (.putfield 9, 3) := by decide +kernel
theorem dX9_becomeAs_8 : decode cX9_becomeAs 8 = .ok (.aload_n 1, 1) := by decide +kernel
theorem dX9_becomeAs_9 : decode cX9_becomeAs 9 = .ok (.getfield 15, 3) := by decide +kernel
theorem dX9_becomeAs_12 : decode cX9_becomeAs 12 = .ok (.aload_n 0, 1) := by decide +kernel
theorem dX9_becomeAs_13 : decode cX9_becomeAs 13 = .ok (.getfield 15, 3) := by decide +kernel
theorem dX9_becomeAs_16 : decode cX9_becomeAs 16 = .ok (.invokestatic 77, 3) := by decide +kernel
theorem dX9_becomeAs_19 : decode cX9_becomeAs 19 = .ok (.aload_n 1, 1) := by decide +kernel
theorem dX9_becomeAs_20 : decode cX9_becomeAs 20 = .ok (.getfield 19, 3) := by decide +kernel
theorem dX9_becomeAs_23 : decode cX9_becomeAs 23 = .ok (.aload_n 0, 1) := by decide +kernel
theorem dX9_becomeAs_24 : decode cX9_becomeAs 24 = .ok (.getfield 19, 3) := by decide +kernel
theorem dX9_becomeAs_27 : decode cX9_becomeAs 27 = .ok (.invokestatic 77, 3) := by decide +kernel
theorem dX9_becomeAs_30 : decode cX9_becomeAs 30 = .ok (.aload_n 0, 1) := by decide +kernel
theorem dX9_becomeAs_31 : decode cX9_becomeAs 31 = .ok (.aload_n 1, 1) := by decide +kernel
theorem dX9_becomeAs_32 : decode cX9_becomeAs 32 = .ok (.getfield 22, 3) := by decide +kernel
theorem dX9_becomeAs_35 : decode cX9_becomeAs 35 = .ok (.putfield 22, 3) := by decide +kernel
theorem dX9_becomeAs_38 : decode cX9_becomeAs 38 = .ok (.aload_n 1, 1) := by decide +kernel
theorem dX9_becomeAs_39 : decode cX9_becomeAs 39 = .ok (.getfield 25, 3) := by decide +kernel
theorem dX9_becomeAs_42 : decode cX9_becomeAs 42 = .ok (.aload_n 0, 1) := by decide +kernel
theorem dX9_becomeAs_43 : decode cX9_becomeAs 43 = .ok (.getfield 25, 3) := by decide +kernel
theorem dX9_becomeAs_46 : decode cX9_becomeAs 46 = .ok (.invokestatic 77, 3) := by decide +kernel
theorem dX9_becomeAs_49 : decode cX9_becomeAs 49 = .ok (.aload_n 1, 1) := by decide +kernel
theorem dX9_becomeAs_50 : decode cX9_becomeAs 50 = .ok (.getfield 28, 3) := by decide +kernel
theorem dX9_becomeAs_53 : decode cX9_becomeAs 53 = .ok (.aload_n 0, 1) := by decide +kernel
theorem dX9_becomeAs_54 : decode cX9_becomeAs 54 = .ok (.getfield 28, 3) := by decide +kernel
theorem dX9_becomeAs_57 : decode cX9_becomeAs 57 = .ok (.invokestatic 77, 3) := by decide +kernel
theorem dX9_becomeAs_60 : decode cX9_becomeAs 60 = .ok (.aload_n 1, 1) := by decide +kernel
theorem dX9_becomeAs_61 : decode cX9_becomeAs 61 = .ok (.getfield 31, 3) := by decide +kernel
theorem dX9_becomeAs_64 : decode cX9_becomeAs 64 = .ok (.aload_n 0, 1) := by decide +kernel
theorem dX9_becomeAs_65 : decode cX9_becomeAs 65 = .ok (.getfield 31, 3) := by decide +kernel
theorem dX9_becomeAs_68 : decode cX9_becomeAs 68 = .ok (.invokestatic 77, 3) := by decide +kernel
theorem dX9_becomeAs_71 : decode cX9_becomeAs 71 = .ok (.aload_n 1, 1) := by decide +kernel
theorem dX9_becomeAs_72 : decode cX9_becomeAs 72 = .ok (.getfield 34, 3) := by decide +kernel
theorem dX9_becomeAs_75 : decode cX9_becomeAs 75 = .ok (.aload_n 0, 1) := by decide +kernel
theorem dX9_becomeAs_76 : decode cX9_becomeAs 76 = .ok (.getfield 34, 3) := by decide +kernel
theorem dX9_becomeAs_79 : decode cX9_becomeAs 79 = .ok (.invokestatic 77, 3) := by decide +kernel
theorem dX9_becomeAs_82 : decode cX9_becomeAs 82 = .ok (.aload_n 0, 1) := by decide +kernel
theorem dX9_becomeAs_83 : decode cX9_becomeAs 83 = .ok (.aload_n 1, 1) := by decide +kernel
theorem dX9_becomeAs_84 : decode cX9_becomeAs 84 = .ok (.getfield 37, 3) := by decide +kernel
theorem dX9_becomeAs_87 : decode cX9_becomeAs 87 = .ok (.putfield 37, 3) := by decide +kernel
theorem dX9_becomeAs_90 : decode cX9_becomeAs 90 = .ok (.aload_n 0, 1) := by decide +kernel
theorem dX9_becomeAs_91 : decode cX9_becomeAs 91 = .ok (.aload_n 1, 1) := by decide +kernel
theorem dX9_becomeAs_92 : decode cX9_becomeAs 92 = .ok (.getfield 40, 3) := by decide +kernel
theorem dX9_becomeAs_95 : decode cX9_becomeAs 95 = .ok (.putfield 40, 3) := by decide +kernel
theorem dX9_becomeAs_98 : decode cX9_becomeAs 98 = .ok (.aload_n 1, 1) := by decide +kernel
theorem dX9_becomeAs_99 : decode cX9_becomeAs 99 = .ok (.getfield 43, 3) := by decide +kernel
theorem dX9_becomeAs_102 : decode cX9_becomeAs 102 = .ok (.aload_n 0, 1) := by decide +kernel
theorem dX9_becomeAs_103 : decode cX9_becomeAs 103 = .ok (.getfield 43, 3) := by decide +kernel
theorem dX9_becomeAs_106 : decode cX9_becomeAs 106 = .ok (.invokestatic 77, 3) := by decide +kernel
theorem dX9_becomeAs_109 : decode cX9_becomeAs 109 = .ok (.aload_n 1, 1) := by decide +kernel
theorem dX9_becomeAs_110 : decode cX9_becomeAs 110 = .ok (.getfield 46, 3) := by decide +kernel
theorem dX9_becomeAs_113 : decode cX9_becomeAs 113 = .ok (.aload_n 0, 1) := by decide +kernel
theorem dX9_becomeAs_114 : decode cX9_becomeAs 114 = .ok (.getfield 46, 3) := by decide +kernel
theorem dX9_becomeAs_117 : decode cX9_becomeAs 117 = .ok (.invokestatic 77, 3) := by decide +kernel
theorem dX9_becomeAs_120 : decode cX9_becomeAs 120 = .ok (.aload_n 0, 1) := by decide +kernel
theorem dX9_becomeAs_121 : decode cX9_becomeAs 121 = .ok (.aload_n 1, 1) := by decide +kernel
theorem dX9_becomeAs_122 : decode cX9_becomeAs 122 = .ok (.getfield 49, 3) := by decide +kernel
theorem dX9_becomeAs_125 : decode cX9_becomeAs 125 = .ok (.putfield 49, 3) := by decide +kernel
theorem dX9_becomeAs_128 : decode cX9_becomeAs 128 = .ok (.aload_n 0, 1) := by decide +kernel
theorem dX9_becomeAs_129 : decode cX9_becomeAs 129 = .ok (.aload_n 1, 1) := by decide +kernel
theorem dX9_becomeAs_130 : decode cX9_becomeAs 130 = .ok (.getfield 52, 3) := by decide +kernel
theorem dX9_becomeAs_133 : decode cX9_becomeAs 133 = .ok (.putfield 52, 3) := by decide +kernel
theorem dX9_becomeAs_136 : decode cX9_becomeAs 136 = .ok (.aload_n 0, 1) := by decide +kernel
theorem dX9_becomeAs_137 : decode cX9_becomeAs 137 = .ok (.aload_n 1, 1) := by decide +kernel
theorem dX9_becomeAs_138 : decode cX9_becomeAs 138 = .ok (.getfield 55, 3) := by decide +kernel
theorem dX9_becomeAs_141 : decode cX9_becomeAs 141 = .ok (.putfield 55, 3) := by decide +kernel
theorem dX9_becomeAs_144 : decode cX9_becomeAs 144 = .ok (.aload_n 0, 1) := by decide +kernel
theorem dX9_becomeAs_145 : decode cX9_becomeAs 145 = .ok (.aload_n 1, 1) := by decide +kernel
theorem dX9_becomeAs_146 : decode cX9_becomeAs 146 = .ok (.getfield 58, 3) := by decide +kernel
theorem dX9_becomeAs_149 : decode cX9_becomeAs 149 = .ok (.putfield 58, 3) := by decide +kernel
theorem dX9_becomeAs_152 : decode cX9_becomeAs 152 = .ok (.iconst 0, 1) := by decide +kernel
theorem dX9_becomeAs_153 : decode cX9_becomeAs 153 = .ok (.istore_n 2, 1) := by decide +kernel
theorem dX9_becomeAs_154 : decode cX9_becomeAs 154 = .ok (.iload_n 2, 1) := by decide +kernel
theorem dX9_becomeAs_155 : decode cX9_becomeAs 155 = .ok (.bipush 14, 2) := by decide +kernel
theorem dX9_becomeAs_157 : decode cX9_becomeAs 157 = .ok (.if_icmp .ge 21, 3) := by decide +kernel
theorem dX9_becomeAs_160 : decode cX9_becomeAs 160 = .ok (.aload_n 0, 1) := by decide +kernel
theorem dX9_becomeAs_161 : decode cX9_becomeAs 161 = .ok (.getfield 63, 3) := by decide +kernel
theorem dX9_becomeAs_164 : decode cX9_becomeAs 164 = .ok (.iload_n 2, 1) := by decide +kernel
theorem dX9_becomeAs_165 : decode cX9_becomeAs 165 = .ok (.aload_n 1, 1) := by decide +kernel
theorem dX9_becomeAs_166 : decode cX9_becomeAs 166 = .ok (.getfield 63, 3) := by decide +kernel
theorem dX9_becomeAs_169 : decode cX9_becomeAs 169 = .ok (.iload_n 2, 1) := by decide +kernel
theorem dX9_becomeAs_170 : decode cX9_becomeAs 170 = .ok (.aaload, 1) := by decide +kernel
theorem dX9_becomeAs_171 : decode cX9_becomeAs 171 = .ok (.aastore, 1) := by decide +kernel
theorem dX9_becomeAs_172 : decode cX9_becomeAs 172 = .ok (.iinc 2 1, 3) := by decide +kernel
theorem dX9_becomeAs_175 : decode cX9_becomeAs 175 = .ok (.goto (-21), 3) := by decide +kernel
theorem dX9_becomeAs_178 : decode cX9_becomeAs 178 = .ok (.aload_n 1, 1) := by decide +kernel
theorem dX9_becomeAs_179 : decode cX9_becomeAs 179 = .ok (.getfield 67, 3) := by decide +kernel
theorem dX9_becomeAs_182 : decode cX9_becomeAs 182 = .ok (.aload_n 0, 1) := by decide +kernel
theorem dX9_becomeAs_183 : decode cX9_becomeAs 183 = .ok (.getfield 67, 3) := by decide +kernel
theorem dX9_becomeAs_186 : decode cX9_becomeAs 186 = .ok (.invokestatic 77, 3) := by decide +kernel
theorem dX9_becomeAs_189 : decode cX9_becomeAs 189 = .ok (.return_, 1) := by decide +kernel
theorem dX9_copyRow_0 : decode cX9_copyRow 0 = .ok (.aload_n 0, 1) := by decide +kernel
theorem dX9_copyRow_1 : decode cX9_copyRow 1 = .ok (.iconst 0, 1) := by decide +kernel
theorem dX9_copyRow_2 : decode cX9_copyRow 2 = .ok (.aload_n 1, 1) := by decide +kernel
theorem dX9_copyRow_3 : decode cX9_copyRow 3 = .ok (.iconst 0, 1) := by decide +kernel
theorem dX9_copyRow_4 : decode cX9_copyRow 4 = .ok (.aload_n 0, 1) := by decide +kernel
theorem dX9_copyRow_5 : decode cX9_copyRow 5 = .ok (.arraylength, 1) := by decide +kernel
theorem dX9_copyRow_6 : decode cX9_copyRow 6 = .ok (.aload_n 1, 1) := by decide +kernel
theorem dX9_copyRow_7 : decode cX9_copyRow 7 = .ok (.arraylength, 1) := by decide +kernel
theorem dX9_copyRow_8 : decode cX9_copyRow 8 = .ok (.invokestatic 81, 3) := by decide +kernel
theorem dX9_copyRow_11 : decode cX9_copyRow 11 = .ok (.invokestatic 87, 3) := by decide +kernel
theorem dX9_copyRow_14 : decode cX9_copyRow 14 = .ok (.return_, 1) := by decide +kernel
theorem dX9_addLedge_0 : decode cX9_addLedge 0 = .ok (.aload_n 0, 1) := by decide +kernel
theorem dX9_addLedge_1 : decode cX9_addLedge 1 = .ok (.getfield 15, 3) := by decide +kernel
theorem dX9_addLedge_4 : decode cX9_addLedge 4 = .ok (.aload_n 0, 1) := by decide +kernel
theorem dX9_addLedge_5 : decode cX9_addLedge 5 = .ok (.getfield 9, 3) := by decide +kernel
theorem dX9_addLedge_8 : decode cX9_addLedge 8 = .ok (.iload_n 1, 1) := by decide +kernel
theorem dX9_addLedge_9 : decode cX9_addLedge 9 = .ok (.iastore, 1) := by decide +kernel
theorem dX9_addLedge_10 : decode cX9_addLedge 10 = .ok (.aload_n 0, 1) := by decide +kernel
theorem dX9_addLedge_11 : decode cX9_addLedge 11 = .ok (.getfield 19, 3) := by decide +kernel
theorem dX9_addLedge_14 : decode cX9_addLedge 14 = .ok (.aload_n 0, 1) := by decide +kernel
theorem dX9_addLedge_15 : decode cX9_addLedge 15 = .ok (.getfield 9, 3) := by decide +kernel
theorem dX9_addLedge_18 : decode cX9_addLedge 18 = .ok (.iload_n 2, 1) := by decide +kernel
theorem dX9_addLedge_19 : decode cX9_addLedge 19 = .ok (.iastore, 1) := by decide +kernel
theorem dX9_addLedge_20 : decode cX9_addLedge 20 = .ok (.aload_n 0, 1) := by decide +kernel
theorem dX9_addLedge_21 : decode cX9_addLedge 21 = .ok (.dup, 1) := by decide +kernel
theorem dX9_addLedge_22 : decode cX9_addLedge 22 = .ok (.getfield 9, 3) := by decide +kernel
theorem dX9_addLedge_25 : decode cX9_addLedge 25 = .ok (.iconst 1, 1) := by decide +kernel
theorem dX9_addLedge_26 : decode cX9_addLedge 26 = .ok (.iadd, 1) := by decide +kernel
theorem dX9_addLedge_27 : decode cX9_addLedge 27 = .ok (.putfield 9, 3) := by decide +kernel
theorem dX9_addLedge_30 : decode cX9_addLedge 30 = .ok (.aload_n 0, 1) := by decide +kernel
theorem dX9_addLedge_31 : decode cX9_addLedge 31 = .ok (.getfield 9, 3) := by decide +kernel
theorem dX9_addLedge_34 : decode cX9_addLedge 34 = .ok (.iconst 1, 1) := by decide +kernel
theorem dX9_addLedge_35 : decode cX9_addLedge 35 = .ok (.isub, 1) := by decide +kernel
theorem dX9_addLedge_36 : decode cX9_addLedge 36 = .ok (.ireturn, 1) := by decide +kernel
theorem dX9_addLadder_0 : decode cX9_addLadder 0 = .ok (.aload_n 0, 1) := by decide +kernel
theorem dX9_addLadder_1 : decode cX9_addLadder 1 = .ok (.getfield 25, 3) := by decide +kernel
theorem dX9_addLadder_4 : decode cX9_addLadder 4 = .ok (.aload_n 0, 1) := by decide +kernel
theorem dX9_addLadder_5 : decode cX9_addLadder 5 = .ok (.getfield 22, 3) := by decide +kernel
theorem dX9_addLadder_8 : decode cX9_addLadder 8 = .ok (.iload_n 1, 1) := by decide +kernel
theorem dX9_addLadder_9 : decode cX9_addLadder 9 = .ok (.iastore, 1) := by decide +kernel
theorem dX9_addLadder_10 : decode cX9_addLadder 10 = .ok (.aload_n 0, 1) := by decide +kernel
theorem dX9_addLadder_11 : decode cX9_addLadder 11 = .ok (.getfield 28, 3) := by decide +kernel
theorem dX9_addLadder_14 : decode cX9_addLadder 14 = .ok (.aload_n 0, 1) := by decide +kernel
theorem dX9_addLadder_15 : decode cX9_addLadder 15 = .ok (.getfield 22, 3) := by decide +kernel
theorem dX9_addLadder_18 : decode cX9_addLadder 18 = .ok (.iload_n 2, 1) := by decide +kernel
theorem dX9_addLadder_19 : decode cX9_addLadder 19 = .ok (.iastore, 1) := by decide +kernel
theorem dX9_addLadder_20 : decode cX9_addLadder 20 = .ok (.aload_n 0, 1) := by decide +kernel
theorem dX9_addLadder_21 : decode cX9_addLadder 21 = .ok (.getfield 31, 3) := by decide +kernel
theorem dX9_addLadder_24 : decode cX9_addLadder 24 = .ok (.aload_n 0, 1) := by decide +kernel
theorem dX9_addLadder_25 : decode cX9_addLadder 25 = .ok (.getfield 22, 3) := by decide +kernel
theorem dX9_addLadder_28 : decode cX9_addLadder 28 = .ok (.iload_n 3, 1) := by decide +kernel
theorem dX9_addLadder_29 : decode cX9_addLadder 29 = .ok (.iastore, 1) := by decide +kernel
theorem dX9_addLadder_30 : decode cX9_addLadder 30 = .ok (.aload_n 0, 1) := by decide +kernel
theorem dX9_addLadder_31 : decode cX9_addLadder 31 = .ok (.getfield 34, 3) := by decide +kernel
theorem dX9_addLadder_34 : decode cX9_addLadder 34 = .ok (.aload_n 0, 1) := by decide +kernel
theorem dX9_addLadder_35 : decode cX9_addLadder 35 = .ok (.getfield 22, 3) := by decide +kernel
theorem dX9_addLadder_38 : decode cX9_addLadder 38 = .ok (.iload 4, 2) := by decide +kernel
theorem dX9_addLadder_40 : decode cX9_addLadder 40 = .ok (.iastore, 1) := by decide +kernel
theorem dX9_addLadder_41 : decode cX9_addLadder 41 = .ok (.aload_n 0, 1) := by decide +kernel
theorem dX9_addLadder_42 : decode cX9_addLadder 42 = .ok (.dup, 1) := by decide +kernel
theorem dX9_addLadder_43 : decode cX9_addLadder 43 = .ok (.getfield 22, 3) := by decide +kernel
theorem dX9_addLadder_46 : decode cX9_addLadder 46 = .ok (.iconst 1, 1) := by decide +kernel
theorem dX9_addLadder_47 : decode cX9_addLadder 47 = .ok (.iadd, 1) := by decide +kernel
theorem dX9_addLadder_48 : decode cX9_addLadder 48 = .ok (.putfield 22, 3) := by decide +kernel
theorem dX9_addLadder_51 : decode cX9_addLadder 51 = .ok (.aload_n 0, 1) := by decide +kernel
theorem dX9_addLadder_52 : decode cX9_addLadder 52 = .ok (.getfield 22, 3) := by decide +kernel
theorem dX9_addLadder_55 : decode cX9_addLadder 55 = .ok (.iconst 1, 1) := by decide +kernel
theorem dX9_addLadder_56 : decode cX9_addLadder 56 = .ok (.isub, 1) := by decide +kernel
theorem dX9_addLadder_57 : decode cX9_addLadder 57 = .ok (.ireturn, 1) := by decide +kernel
theorem dX9_addPerson_0 : decode cX9_addPerson 0 = .ok (.aload_n 0, 1) := by decide +kernel
theorem dX9_addPerson_1 : decode cX9_addPerson 1 = .ok (.getfield 43, 3) := by decide +kernel
theorem dX9_addPerson_4 : decode cX9_addPerson 4 = .ok (.aload_n 0, 1) := by decide +kernel
theorem dX9_addPerson_5 : decode cX9_addPerson 5 = .ok (.getfield 40, 3) := by decide +kernel
theorem dX9_addPerson_8 : decode cX9_addPerson 8 = .ok (.iload_n 1, 1) := by decide +kernel
theorem dX9_addPerson_9 : decode cX9_addPerson 9 = .ok (.iastore, 1) := by decide +kernel
theorem dX9_addPerson_10 : decode cX9_addPerson 10 = .ok (.aload_n 0, 1) := by decide +kernel
theorem dX9_addPerson_11 : decode cX9_addPerson 11 = .ok (.getfield 46, 3) := by decide +kernel
theorem dX9_addPerson_14 : decode cX9_addPerson 14 = .ok (.aload_n 0, 1) := by decide +kernel
theorem dX9_addPerson_15 : decode cX9_addPerson 15 = .ok (.getfield 40, 3) := by decide +kernel
theorem dX9_addPerson_18 : decode cX9_addPerson 18 = .ok (.iload_n 2, 1) := by decide +kernel
theorem dX9_addPerson_19 : decode cX9_addPerson 19 = .ok (.iastore, 1) := by decide +kernel
theorem dX9_addPerson_20 : decode cX9_addPerson 20 = .ok (.aload_n 0, 1) := by decide +kernel
theorem dX9_addPerson_21 : decode cX9_addPerson 21 = .ok (.dup, 1) := by decide +kernel
theorem dX9_addPerson_22 : decode cX9_addPerson 22 = .ok (.getfield 40, 3) := by decide +kernel
theorem dX9_addPerson_25 : decode cX9_addPerson 25 = .ok (.iconst 1, 1) := by decide +kernel
theorem dX9_addPerson_26 : decode cX9_addPerson 26 = .ok (.iadd, 1) := by decide +kernel
theorem dX9_addPerson_27 : decode cX9_addPerson 27 = .ok (.putfield 40, 3) := by decide +kernel
theorem dX9_addPerson_30 : decode cX9_addPerson 30 = .ok (.aload_n 0, 1) := by decide +kernel
theorem dX9_addPerson_31 : decode cX9_addPerson 31 = .ok (.getfield 40, 3) := by decide +kernel
theorem dX9_addPerson_34 : decode cX9_addPerson 34 = .ok (.iconst 1, 1) := by decide +kernel
theorem dX9_addPerson_35 : decode cX9_addPerson 35 = .ok (.isub, 1) := by decide +kernel
theorem dX9_addPerson_36 : decode cX9_addPerson 36 = .ok (.ireturn, 1) := by decide +kernel
theorem dX9_addText_0 : decode cX9_addText 0 = .ok (.aload_n 0, 1) := by decide +kernel
theorem dX9_addText_1 : decode cX9_addText 1 = .ok (.getfield 63, 3) := by decide +kernel
theorem dX9_addText_4 : decode cX9_addText 4 = .ok (.aload_n 0, 1) := by decide +kernel
theorem dX9_addText_5 : decode cX9_addText 5 = .ok (.getfield 58, 3) := by decide +kernel
theorem dX9_addText_8 : decode cX9_addText 8 = .ok (.aload_n 1, 1) := by decide +kernel
theorem dX9_addText_9 : decode cX9_addText 9 = .ok (.aastore, 1) := by decide +kernel
theorem dX9_addText_10 : decode cX9_addText 10 = .ok (.aload_n 0, 1) := by decide +kernel
theorem dX9_addText_11 : decode cX9_addText 11 = .ok (.getfield 67, 3) := by decide +kernel
theorem dX9_addText_14 : decode cX9_addText 14 = .ok (.aload_n 1, 1) := by decide +kernel
theorem dX9_addText_15 : decode cX9_addText 15 = .ok (.getfield 93, 3) := by decide +kernel
theorem dX9_addText_18 : decode cX9_addText 18 = .ok (.aload_n 0, 1) := by decide +kernel
theorem dX9_addText_19 : decode cX9_addText 19 = .ok (.getfield 58, 3) := by decide +kernel
theorem dX9_addText_22 : decode cX9_addText 22 = .ok (.iastore, 1) := by decide +kernel
theorem dX9_addText_23 : decode cX9_addText 23 = .ok (.aload_n 0, 1) := by decide +kernel
theorem dX9_addText_24 : decode cX9_addText 24 = .ok (.dup, 1) := by decide +kernel
theorem dX9_addText_25 : decode cX9_addText 25 = .ok (.getfield 58, 3) := by decide +kernel
theorem dX9_addText_28 : decode cX9_addText 28 = .ok (.iconst 1, 1) := by decide +kernel
theorem dX9_addText_29 : decode cX9_addText 29 = .ok (.iadd, 1) := by decide +kernel
theorem dX9_addText_30 : decode cX9_addText 30 = .ok (.putfield 58, 3) := by decide +kernel
theorem dX9_addText_33 : decode cX9_addText 33 = .ok (.aload_n 0, 1) := by decide +kernel
theorem dX9_addText_34 : decode cX9_addText 34 = .ok (.getfield 58, 3) := by decide +kernel
theorem dX9_addText_37 : decode cX9_addText 37 = .ok (.iconst 1, 1) := by decide +kernel
theorem dX9_addText_38 : decode cX9_addText 38 = .ok (.isub, 1) := by decide +kernel
theorem dX9_addText_39 : decode cX9_addText 39 = .ok (.ireturn, 1) := by decide +kernel
theorem dX9_draw_0 : decode cX9_draw 0 = .ok (.aload_n 0, 1) := by decide +kernel
theorem dX9_draw_1 : decode cX9_draw 1 = .ok (.aload_n 0, 1) := by decide +kernel
theorem dX9_draw_2 : decode cX9_draw 2 = .ok (.getfield 55, 3) := by decide +kernel
theorem dX9_draw_5 : decode cX9_draw 5 = .ok (.ldc 96, 2) := by decide +kernel
theorem dX9_draw_7 : decode cX9_draw 7 = .ok (.imul, 1) := by decide +kernel
theorem dX9_draw_8 : decode cX9_draw 8 = .ok (.sipush 12345, 3) := by decide +kernel
theorem dX9_draw_11 : decode cX9_draw 11 = .ok (.iadd, 1) := by decide +kernel
theorem dX9_draw_12 : decode cX9_draw 12 = .ok (.putfield 55, 3) := by decide +kernel
theorem dX9_draw_15 : decode cX9_draw 15 = .ok (.aload_n 0, 1) := by decide +kernel
theorem dX9_draw_16 : decode cX9_draw 16 = .ok (.getfield 55, 3) := by decide +kernel
theorem dX9_draw_19 : decode cX9_draw 19 = .ok (.bipush 8, 2) := by decide +kernel
theorem dX9_draw_21 : decode cX9_draw 21 = .ok (.iushr, 1) := by decide +kernel
theorem dX9_draw_22 : decode cX9_draw 22 = .ok (.ireturn, 1) := by decide +kernel
theorem dX9_given_0 : decode cX9_given 0 = .ok (.aload_n 0, 1) := by decide +kernel
theorem dX9_given_1 : decode cX9_given 1 = .ok (.getfield 67, 3) := by decide +kernel
theorem dX9_given_4 : decode cX9_given 4 = .ok (.iload_n 1, 1) := by decide +kernel
theorem dX9_given_5 : decode cX9_given 5 = .ok (.iaload, 1) := by decide +kernel
theorem dX9_given_6 : decode cX9_given 6 = .ok (.istore 6, 2) := by decide +kernel
theorem dX9_given_8 : decode cX9_given 8 = .ok (.iload 6, 2) := by decide +kernel
theorem dX9_given_10 : decode cX9_given 10 = .ok (.aload_n 0, 1) := by decide +kernel
theorem dX9_given_11 : decode cX9_given 11 = .ok (.getfield 58, 3) := by decide +kernel
theorem dX9_given_14 : decode cX9_given 14 = .ok (.invokestatic 97, 3) := by decide +kernel
theorem dX9_given_17 : decode cX9_given 17 = .ok (.ifCond .ne 6, 3) := by decide +kernel
theorem dX9_given_20 : decode cX9_given 20 = .ok (.iload 5, 2) := by decide +kernel
theorem dX9_given_22 : decode cX9_given 22 = .ok (.ireturn, 1) := by decide +kernel
theorem dX9_given_23 : decode cX9_given 23 = .ok (.aload_n 0, 1) := by decide +kernel
theorem dX9_given_24 : decode cX9_given 24 = .ok (.getfield 63, 3) := by decide +kernel
theorem dX9_given_27 : decode cX9_given 27 = .ok (.iload 6, 2) := by decide +kernel
theorem dX9_given_29 : decode cX9_given 29 = .ok (.aaload, 1) := by decide +kernel
theorem dX9_given_30 : decode cX9_given 30 = .ok (.astore 7, 2) := by decide +kernel
theorem dX9_given_32 : decode cX9_given 32 = .ok (.aload 7, 2) := by decide +kernel
theorem dX9_given_34 : decode cX9_given 34 = .ok (.ifnonnull 8, 3) := by decide +kernel
theorem dX9_given_37 : decode cX9_given 37 = .ok (.iload 5, 2) := by decide +kernel
theorem dX9_given_39 : decode cX9_given 39 = .ok (.goto 16, 3) := by decide +kernel
theorem dX9_given_42 : decode cX9_given 42 = .ok (.aload 7, 2) := by decide +kernel
theorem dX9_given_44 : decode cX9_given 44 = .ok (.iload_n 2, 1) := by decide +kernel
theorem dX9_given_45 : decode cX9_given 45 = .ok (.iload_n 3, 1) := by decide +kernel
theorem dX9_given_46 : decode cX9_given 46 = .ok (.iload 4, 2) := by decide +kernel
theorem dX9_given_48 : decode cX9_given 48 = .ok (.aload_n 0, 1) := by decide +kernel
theorem dX9_given_49 : decode cX9_given 49 = .ok (.getfield 70, 3) := by decide +kernel
theorem dX9_given_52 : decode cX9_given 52 = .ok (.invokevirtual 101, 3) := by decide +kernel
theorem dX9_given_55 : decode cX9_given 55 = .ok (.ireturn, 1) := by decide +kernel
theorem dX9_tollOf_0 : decode cX9_tollOf 0 = .ok (.aload_n 0, 1) := by decide +kernel
theorem dX9_tollOf_1 : decode cX9_tollOf 1 = .ok (.iconst 2, 1) := by decide +kernel
theorem dX9_tollOf_2 : decode cX9_tollOf 2 = .ok (.iload_n 1, 1) := by decide +kernel
theorem dX9_tollOf_3 : decode cX9_tollOf 3 = .ok (.iload_n 2, 1) := by decide +kernel
theorem dX9_tollOf_4 : decode cX9_tollOf 4 = .ok (.iconst 0, 1) := by decide +kernel
theorem dX9_tollOf_5 : decode cX9_tollOf 5 = .ok (.iload_n 1, 1) := by decide +kernel
theorem dX9_tollOf_6 : decode cX9_tollOf 6 = .ok (.invokevirtual 105, 3) := by decide +kernel
theorem dX9_tollOf_9 : decode cX9_tollOf 9 = .ok (.ireturn, 1) := by decide +kernel
theorem dX9_lengthBetween_0 : decode cX9_lengthBetween 0 = .ok (.aload_n 0, 1) := by decide +kernel
theorem dX9_lengthBetween_1 : decode cX9_lengthBetween 1 = .ok (.getfield 15, 3) := by decide +kernel
theorem dX9_lengthBetween_4 : decode cX9_lengthBetween 4 = .ok (.iload_n 1, 1) := by decide +kernel
theorem dX9_lengthBetween_5 : decode cX9_lengthBetween 5 = .ok (.iaload, 1) := by decide +kernel
theorem dX9_lengthBetween_6 : decode cX9_lengthBetween 6 = .ok (.aload_n 0, 1) := by decide +kernel
theorem dX9_lengthBetween_7 : decode cX9_lengthBetween 7 = .ok (.getfield 15, 3) := by decide +kernel
theorem dX9_lengthBetween_10 : decode cX9_lengthBetween 10 = .ok (.iload_n 2, 1) := by decide +kernel
theorem dX9_lengthBetween_11 : decode cX9_lengthBetween 11 = .ok (.iaload, 1) := by decide +kernel
theorem dX9_lengthBetween_12 : decode cX9_lengthBetween 12 = .ok (.isub, 1) := by decide +kernel
theorem dX9_lengthBetween_13 : decode cX9_lengthBetween 13 = .ok (.invokestatic 109, 3) := by decide +kernel
theorem dX9_lengthBetween_16 : decode cX9_lengthBetween 16 = .ok (.istore_n 3, 1) := by decide +kernel
theorem dX9_lengthBetween_17 : decode cX9_lengthBetween 17 = .ok (.aload_n 0, 1) := by decide +kernel
theorem dX9_lengthBetween_18 : decode cX9_lengthBetween 18 = .ok (.getfield 19, 3) := by decide +kernel
theorem dX9_lengthBetween_21 : decode cX9_lengthBetween 21 = .ok (.iload_n 1, 1) := by decide +kernel
theorem dX9_lengthBetween_22 : decode cX9_lengthBetween 22 = .ok (.iaload, 1) := by decide +kernel
theorem dX9_lengthBetween_23 : decode cX9_lengthBetween 23 = .ok (.aload_n 0, 1) := by decide +kernel
theorem dX9_lengthBetween_24 : decode cX9_lengthBetween 24 = .ok (.getfield 19, 3) := by decide +kernel
theorem dX9_lengthBetween_27 : decode cX9_lengthBetween 27 = .ok (.iload_n 2, 1) := by decide +kernel
theorem dX9_lengthBetween_28 : decode cX9_lengthBetween 28 = .ok (.iaload, 1) := by decide +kernel
theorem dX9_lengthBetween_29 : decode cX9_lengthBetween 29 = .ok (.isub, 1) := by decide +kernel
theorem dX9_lengthBetween_30 : decode cX9_lengthBetween 30 = .ok (.invokestatic 109, 3) := by decide +kernel
theorem dX9_lengthBetween_33 : decode cX9_lengthBetween 33 = .ok (.istore 4, 2) := by decide +kernel
theorem dX9_lengthBetween_35 : decode cX9_lengthBetween 35 = .ok (.aload_n 0, 1) := by decide +kernel
theorem dX9_lengthBetween_36 : decode cX9_lengthBetween 36 = .ok (.iconst 0, 1) := by decide +kernel
theorem dX9_lengthBetween_37 : decode cX9_lengthBetween 37 = .ok (.iload_n 3, 1) := by decide +kernel
theorem dX9_lengthBetween_38 : decode cX9_lengthBetween 38 = .ok (.iload 4, 2) := by decide +kernel
theorem dX9_lengthBetween_40 : decode cX9_lengthBetween 40 = .ok (.iconst 0, 1) := by decide +kernel
theorem dX9_lengthBetween_41 : decode cX9_lengthBetween 41 = .ok (.iload_n 3, 1) := by decide +kernel
theorem dX9_lengthBetween_42 : decode cX9_lengthBetween 42 = .ok (.iload 4, 2) := by decide +kernel
theorem dX9_lengthBetween_44 : decode cX9_lengthBetween 44 = .ok (.iadd, 1) := by decide +kernel
theorem dX9_lengthBetween_45 : decode cX9_lengthBetween 45 = .ok (.invokevirtual 105, 3) := by decide +kernel
theorem dX9_lengthBetween_48 : decode cX9_lengthBetween 48 = .ok (.istore 5, 2) := by decide +kernel
theorem dX9_lengthBetween_50 : decode cX9_lengthBetween 50 = .ok (.iconst 0, 1) := by decide +kernel
theorem dX9_lengthBetween_51 : decode cX9_lengthBetween 51 = .ok (.sipush 999, 3) := by decide +kernel
theorem dX9_lengthBetween_54 : decode cX9_lengthBetween 54 = .ok (.iload 5, 2) := by decide +kernel
theorem dX9_lengthBetween_56 : decode cX9_lengthBetween 56 = .ok (.invokestatic 81, 3) := by decide +kernel
theorem dX9_lengthBetween_59 : decode cX9_lengthBetween 59 = .ok (.invokestatic 113, 3) := by decide +kernel
theorem dX9_lengthBetween_62 : decode cX9_lengthBetween 62 = .ok (.ireturn, 1) := by decide +kernel
theorem dX9_reachOf_0 : decode cX9_reachOf 0 = .ok (.aload_n 0, 1) := by decide +kernel
theorem dX9_reachOf_1 : decode cX9_reachOf 1 = .ok (.getfield 73, 3) := by decide +kernel
theorem dX9_reachOf_4 : decode cX9_reachOf 4 = .ok (.aload_n 0, 1) := by decide +kernel
theorem dX9_reachOf_5 : decode cX9_reachOf 5 = .ok (.getfield 25, 3) := by decide +kernel
theorem dX9_reachOf_8 : decode cX9_reachOf 8 = .ok (.iload_n 1, 1) := by decide +kernel
theorem dX9_reachOf_9 : decode cX9_reachOf 9 = .ok (.iaload, 1) := by decide +kernel
theorem dX9_reachOf_10 : decode cX9_reachOf 10 = .ok (.aaload, 1) := by decide +kernel
theorem dX9_reachOf_11 : decode cX9_reachOf 11 = .ok (.aload_n 0, 1) := by decide +kernel
theorem dX9_reachOf_12 : decode cX9_reachOf 12 = .ok (.getfield 28, 3) := by decide +kernel
theorem dX9_reachOf_15 : decode cX9_reachOf 15 = .ok (.iload_n 1, 1) := by decide +kernel
theorem dX9_reachOf_16 : decode cX9_reachOf 16 = .ok (.iaload, 1) := by decide +kernel
theorem dX9_reachOf_17 : decode cX9_reachOf 17 = .ok (.invokevirtual 116, 3) := by decide +kernel
theorem dX9_reachOf_20 : decode cX9_reachOf 20 = .ok (.ireturn, 1) := by decide +kernel
theorem dX9_minutesOf_0 : decode cX9_minutesOf 0 = .ok (.iconst 0, 1) := by decide +kernel
theorem dX9_minutesOf_1 : decode cX9_minutesOf 1 = .ok (.aload_n 0, 1) := by decide +kernel
theorem dX9_minutesOf_2 : decode cX9_minutesOf 2 = .ok (.getfield 15, 3) := by decide +kernel
theorem dX9_minutesOf_5 : decode cX9_minutesOf 5 = .ok (.aload_n 0, 1) := by decide +kernel
theorem dX9_minutesOf_6 : decode cX9_minutesOf 6 = .ok (.getfield 34, 3) := by decide +kernel
theorem dX9_minutesOf_9 : decode cX9_minutesOf 9 = .ok (.iload_n 1, 1) := by decide +kernel
theorem dX9_minutesOf_10 : decode cX9_minutesOf 10 = .ok (.iaload, 1) := by decide +kernel
theorem dX9_minutesOf_11 : decode cX9_minutesOf 11 = .ok (.iaload, 1) := by decide +kernel
theorem dX9_minutesOf_12 : decode cX9_minutesOf 12 = .ok (.aload_n 0, 1) := by decide +kernel
theorem dX9_minutesOf_13 : decode cX9_minutesOf 13 = .ok (.getfield 15, 3) := by decide +kernel
theorem dX9_minutesOf_16 : decode cX9_minutesOf 16 = .ok (.aload_n 0, 1) := by decide +kernel
theorem dX9_minutesOf_17 : decode cX9_minutesOf 17 = .ok (.getfield 31, 3) := by decide +kernel
theorem dX9_minutesOf_20 : decode cX9_minutesOf 20 = .ok (.iload_n 1, 1) := by decide +kernel
theorem dX9_minutesOf_21 : decode cX9_minutesOf 21 = .ok (.iaload, 1) := by decide +kernel
theorem dX9_minutesOf_22 : decode cX9_minutesOf 22 = .ok (.iaload, 1) := by decide +kernel
theorem dX9_minutesOf_23 : decode cX9_minutesOf 23 = .ok (.isub, 1) := by decide +kernel
theorem dX9_minutesOf_24 : decode cX9_minutesOf 24 = .ok (.invokestatic 113, 3) := by decide +kernel
theorem dX9_minutesOf_27 : decode cX9_minutesOf 27 = .ok (.istore_n 2, 1) := by decide +kernel
theorem dX9_minutesOf_28 : decode cX9_minutesOf 28 = .ok (.aload_n 0, 1) := by decide +kernel
theorem dX9_minutesOf_29 : decode cX9_minutesOf 29 = .ok (.getfield 73, 3) := by decide +kernel
theorem dX9_minutesOf_32 : decode cX9_minutesOf 32 = .ok (.aload_n 0, 1) := by decide +kernel
theorem dX9_minutesOf_33 : decode cX9_minutesOf 33 = .ok (.getfield 25, 3) := by decide +kernel
theorem dX9_minutesOf_36 : decode cX9_minutesOf 36 = .ok (.iload_n 1, 1) := by decide +kernel
theorem dX9_minutesOf_37 : decode cX9_minutesOf 37 = .ok (.iaload, 1) := by decide +kernel
theorem dX9_minutesOf_38 : decode cX9_minutesOf 38 = .ok (.aaload, 1) := by decide +kernel
theorem dX9_minutesOf_39 : decode cX9_minutesOf 39 = .ok (.iload_n 2, 1) := by decide +kernel
theorem dX9_minutesOf_40 : decode cX9_minutesOf 40 = .ok (.invokevirtual 121, 3) := by decide +kernel
theorem dX9_minutesOf_43 : decode cX9_minutesOf 43 = .ok (.ireturn, 1) := by decide +kernel
theorem dX9_inReach_0 : decode cX9_inReach 0 = .ok (.aload_n 0, 1) := by decide +kernel
theorem dX9_inReach_1 : decode cX9_inReach 1 = .ok (.getfield 31, 3) := by decide +kernel
theorem dX9_inReach_4 : decode cX9_inReach 4 = .ok (.iload_n 1, 1) := by decide +kernel
theorem dX9_inReach_5 : decode cX9_inReach 5 = .ok (.iaload, 1) := by decide +kernel
theorem dX9_inReach_6 : decode cX9_inReach 6 = .ok (.istore_n 3, 1) := by decide +kernel
theorem dX9_inReach_7 : decode cX9_inReach 7 = .ok (.aload_n 0, 1) := by decide +kernel
theorem dX9_inReach_8 : decode cX9_inReach 8 = .ok (.getfield 15, 3) := by decide +kernel
theorem dX9_inReach_11 : decode cX9_inReach 11 = .ok (.iload_n 2, 1) := by decide +kernel
theorem dX9_inReach_12 : decode cX9_inReach 12 = .ok (.iaload, 1) := by decide +kernel
theorem dX9_inReach_13 : decode cX9_inReach 13 = .ok (.aload_n 0, 1) := by decide +kernel
theorem dX9_inReach_14 : decode cX9_inReach 14 = .ok (.getfield 15, 3) := by decide +kernel
theorem dX9_inReach_17 : decode cX9_inReach 17 = .ok (.iload_n 3, 1) := by decide +kernel
theorem dX9_inReach_18 : decode cX9_inReach 18 = .ok (.iaload, 1) := by decide +kernel
theorem dX9_inReach_19 : decode cX9_inReach 19 = .ok (.if_icmp .le 21, 3) := by decide +kernel
theorem dX9_inReach_22 : decode cX9_inReach 22 = .ok (.aload_n 0, 1) := by decide +kernel
theorem dX9_inReach_23 : decode cX9_inReach 23 = .ok (.iload_n 3, 1) := by decide +kernel
theorem dX9_inReach_24 : decode cX9_inReach 24 = .ok (.iload_n 2, 1) := by decide +kernel
theorem dX9_inReach_25 : decode cX9_inReach 25 = .ok (.invokevirtual 124, 3) := by decide +kernel
theorem dX9_inReach_28 : decode cX9_inReach 28 = .ok (.aload_n 0, 1) := by decide +kernel
theorem dX9_inReach_29 : decode cX9_inReach 29 = .ok (.iload_n 1, 1) := by decide +kernel
theorem dX9_inReach_30 : decode cX9_inReach 30 = .ok (.invokevirtual 127, 3) := by decide +kernel
theorem dX9_inReach_33 : decode cX9_inReach 33 = .ok (.if_icmp .gt 7, 3) := by decide +kernel
theorem dX9_inReach_36 : decode cX9_inReach 36 = .ok (.iconst 1, 1) := by decide +kernel
theorem dX9_inReach_37 : decode cX9_inReach 37 = .ok (.goto 4, 3) := by decide +kernel
theorem dX9_inReach_40 : decode cX9_inReach 40 = .ok (.iconst 0, 1) := by decide +kernel
theorem dX9_inReach_41 : decode cX9_inReach 41 = .ok (.ireturn, 1) := by decide +kernel
theorem dX9_standsNow_0 : decode cX9_standsNow 0 = .ok (.aload_n 0, 1) := by decide +kernel
theorem dX9_standsNow_1 : decode cX9_standsNow 1 = .ok (.iload_n 1, 1) := by decide +kernel
theorem dX9_standsNow_2 : decode cX9_standsNow 2 = .ok (.aload_n 0, 1) := by decide +kernel
theorem dX9_standsNow_3 : decode cX9_standsNow 3 = .ok (.getfield 34, 3) := by decide +kernel
theorem dX9_standsNow_6 : decode cX9_standsNow 6 = .ok (.iload_n 1, 1) := by decide +kernel
theorem dX9_standsNow_7 : decode cX9_standsNow 7 = .ok (.iaload, 1) := by decide +kernel
theorem dX9_standsNow_8 : decode cX9_standsNow 8 = .ok (.invokevirtual 130, 3) := by decide +kernel
theorem dX9_standsNow_11 : decode cX9_standsNow 11 = .ok (.ireturn, 1) := by decide +kernel
theorem dX9_ledgesInReach_0 : decode cX9_ledgesInReach 0 = .ok (.iconst 0, 1) := by decide +kernel
theorem dX9_ledgesInReach_1 : decode cX9_ledgesInReach 1 = .ok (.istore_n 2, 1) := by decide +kernel
theorem dX9_ledgesInReach_2 : decode cX9_ledgesInReach 2 = .ok (.iconst 0, 1) := by decide +kernel
theorem dX9_ledgesInReach_3 : decode cX9_ledgesInReach 3 = .ok (.istore_n 3, 1) := by decide +kernel
theorem dX9_ledgesInReach_4 : decode cX9_ledgesInReach 4 = .ok (.iload_n 3, 1) := by decide +kernel
theorem dX9_ledgesInReach_5 : decode cX9_ledgesInReach 5 = .ok (.aload_n 0, 1) := by decide +kernel
theorem dX9_ledgesInReach_6 : decode cX9_ledgesInReach 6 = .ok (.getfield 9, 3) := by decide +kernel
theorem dX9_ledgesInReach_9 : decode cX9_ledgesInReach 9 = .ok (.if_icmp .ge 24, 3) := by decide +kernel
theorem dX9_ledgesInReach_12 : decode cX9_ledgesInReach 12 = .ok (.aload_n 0, 1) := by decide +kernel
theorem dX9_ledgesInReach_13 : decode cX9_ledgesInReach 13 = .ok (.iload_n 1, 1) := by decide +kernel
theorem dX9_ledgesInReach_14 : decode cX9_ledgesInReach 14 = .ok (.iload_n 3, 1) := by decide +kernel
theorem dX9_ledgesInReach_15 : decode cX9_ledgesInReach 15 = .ok (.invokevirtual 130, 3) := by decide +kernel
theorem dX9_ledgesInReach_18 : decode cX9_ledgesInReach 18 = .ok (.ifCond .eq 9, 3) := by decide +kernel
theorem dX9_ledgesInReach_21 : decode cX9_ledgesInReach 21 = .ok (.iload_n 2, 1) := by decide +kernel
theorem dX9_ledgesInReach_22 : decode cX9_ledgesInReach 22 = .ok (.iconst 1, 1) := by decide +kernel
theorem dX9_ledgesInReach_23 : decode cX9_ledgesInReach 23 = .ok (.iload_n 3, 1) := by decide +kernel
theorem dX9_ledgesInReach_24 : decode cX9_ledgesInReach 24 = .ok (.ishl, 1) := by decide +kernel
theorem dX9_ledgesInReach_25 : decode cX9_ledgesInReach 25 = .ok (.ior, 1) := by decide +kernel
theorem dX9_ledgesInReach_26 : decode cX9_ledgesInReach 26 = .ok (.istore_n 2, 1) := by decide +kernel
theorem dX9_ledgesInReach_27 : decode cX9_ledgesInReach 27 = .ok (.iinc 3 1, 3) := by decide +kernel
theorem dX9_ledgesInReach_30 : decode cX9_ledgesInReach 30 = .ok (.goto (-26), 3) := by decide +kernel
theorem dX9_ledgesInReach_33 : decode cX9_ledgesInReach 33 = .ok (.iload_n 2, 1) := by decide +kernel
theorem dX9_ledgesInReach_34 : decode cX9_ledgesInReach 34 = .ok (.ireturn, 1) := by decide +kernel
theorem dX9_standingCount_0 : decode cX9_standingCount 0 = .ok (.iconst 0, 1) := by decide +kernel
theorem dX9_standingCount_1 : decode cX9_standingCount 1 = .ok (.istore_n 1, 1) := by decide +kernel
theorem dX9_standingCount_2 : decode cX9_standingCount 2 = .ok (.iconst 0, 1) := by decide +kernel
theorem dX9_standingCount_3 : decode cX9_standingCount 3 = .ok (.istore_n 2, 1) := by decide +kernel
theorem dX9_standingCount_4 : decode cX9_standingCount 4 = .ok (.iload_n 2, 1) := by decide +kernel
theorem dX9_standingCount_5 : decode cX9_standingCount 5 = .ok (.aload_n 0, 1) := by decide +kernel
theorem dX9_standingCount_6 : decode cX9_standingCount 6 = .ok (.getfield 22, 3) := by decide +kernel
theorem dX9_standingCount_9 : decode cX9_standingCount 9 = .ok (.if_icmp .ge 20, 3) := by decide +kernel
theorem dX9_standingCount_12 : decode cX9_standingCount 12 = .ok (.aload_n 0, 1) := by decide +kernel
theorem dX9_standingCount_13 : decode cX9_standingCount 13 = .ok (.iload_n 2, 1) := by decide +kernel
theorem dX9_standingCount_14 : decode cX9_standingCount 14 = .ok (.invokevirtual 133, 3) := by decide +kernel
theorem dX9_standingCount_17 : decode cX9_standingCount 17 = .ok (.ifCond .eq 6, 3) := by decide +kernel
theorem dX9_standingCount_20 : decode cX9_standingCount 20 = .ok (.iinc 1 1, 3) := by decide +kernel
theorem dX9_standingCount_23 : decode cX9_standingCount 23 = .ok (.iinc 2 1, 3) := by decide +kernel
theorem dX9_standingCount_26 : decode cX9_standingCount 26 = .ok (.goto (-22), 3) := by decide +kernel
theorem dX9_standingCount_29 : decode cX9_standingCount 29 = .ok (.iload_n 1, 1) := by decide +kernel
theorem dX9_standingCount_30 : decode cX9_standingCount 30 = .ok (.ireturn, 1) := by decide +kernel
theorem dX9_laddersFrom_0 : decode cX9_laddersFrom 0 = .ok (.iconst 0, 1) := by decide +kernel
theorem dX9_laddersFrom_1 : decode cX9_laddersFrom 1 = .ok (.istore_n 2, 1) := by decide +kernel
theorem dX9_laddersFrom_2 : decode cX9_laddersFrom 2 = .ok (.iconst 0, 1) := by decide +kernel
theorem dX9_laddersFrom_3 : decode cX9_laddersFrom 3 = .ok (.istore_n 3, 1) := by decide +kernel
theorem dX9_laddersFrom_4 : decode cX9_laddersFrom 4 = .ok (.iload_n 3, 1) := by decide +kernel
theorem dX9_laddersFrom_5 : decode cX9_laddersFrom 5 = .ok (.aload_n 0, 1) := by decide +kernel
theorem dX9_laddersFrom_6 : decode cX9_laddersFrom 6 = .ok (.getfield 22, 3) := by decide +kernel
theorem dX9_laddersFrom_9 : decode cX9_laddersFrom 9 = .ok (.if_icmp .ge 25, 3) := by decide +kernel
theorem dX9_laddersFrom_12 : decode cX9_laddersFrom 12 = .ok (.aload_n 0, 1) := by decide +kernel
theorem dX9_laddersFrom_13 : decode cX9_laddersFrom 13 = .ok (.getfield 31, 3) := by decide +kernel
theorem dX9_laddersFrom_16 : decode cX9_laddersFrom 16 = .ok (.iload_n 3, 1) := by decide +kernel
theorem dX9_laddersFrom_17 : decode cX9_laddersFrom 17 = .ok (.iaload, 1) := by decide +kernel
theorem dX9_laddersFrom_18 : decode cX9_laddersFrom 18 = .ok (.iload_n 1, 1) := by decide +kernel
theorem dX9_laddersFrom_19 : decode cX9_laddersFrom 19 = .ok (.if_icmp .ne 9, 3) := by decide +kernel
theorem dX9_laddersFrom_22 : decode cX9_laddersFrom 22 = .ok (.iload_n 2, 1) := by decide +kernel
theorem dX9_laddersFrom_23 : decode cX9_laddersFrom 23 = .ok (.iconst 1, 1) := by decide +kernel
theorem dX9_laddersFrom_24 : decode cX9_laddersFrom 24 = .ok (.iload_n 3, 1) := by decide +kernel
theorem dX9_laddersFrom_25 : decode cX9_laddersFrom 25 = .ok (.ishl, 1) := by decide +kernel
theorem dX9_laddersFrom_26 : decode cX9_laddersFrom 26 = .ok (.ior, 1) := by decide +kernel
theorem dX9_laddersFrom_27 : decode cX9_laddersFrom 27 = .ok (.istore_n 2, 1) := by decide +kernel
theorem dX9_laddersFrom_28 : decode cX9_laddersFrom 28 = .ok (.iinc 3 1, 3) := by decide +kernel
theorem dX9_laddersFrom_31 : decode cX9_laddersFrom 31 = .ok (.goto (-27), 3) := by decide +kernel
theorem dX9_laddersFrom_34 : decode cX9_laddersFrom 34 = .ok (.iload_n 2, 1) := by decide +kernel
theorem dX9_laddersFrom_35 : decode cX9_laddersFrom 35 = .ok (.ireturn, 1) := by decide +kernel
theorem dX9_peopleOn_0 : decode cX9_peopleOn 0 = .ok (.iconst 0, 1) := by decide +kernel
theorem dX9_peopleOn_1 : decode cX9_peopleOn 1 = .ok (.istore_n 2, 1) := by decide +kernel
theorem dX9_peopleOn_2 : decode cX9_peopleOn 2 = .ok (.iconst 0, 1) := by decide +kernel
theorem dX9_peopleOn_3 : decode cX9_peopleOn 3 = .ok (.istore_n 3, 1) := by decide +kernel
theorem dX9_peopleOn_4 : decode cX9_peopleOn 4 = .ok (.iload_n 3, 1) := by decide +kernel
theorem dX9_peopleOn_5 : decode cX9_peopleOn 5 = .ok (.aload_n 0, 1) := by decide +kernel
theorem dX9_peopleOn_6 : decode cX9_peopleOn 6 = .ok (.getfield 40, 3) := by decide +kernel
theorem dX9_peopleOn_9 : decode cX9_peopleOn 9 = .ok (.if_icmp .ge 22, 3) := by decide +kernel
theorem dX9_peopleOn_12 : decode cX9_peopleOn 12 = .ok (.aload_n 0, 1) := by decide +kernel
theorem dX9_peopleOn_13 : decode cX9_peopleOn 13 = .ok (.getfield 43, 3) := by decide +kernel
theorem dX9_peopleOn_16 : decode cX9_peopleOn 16 = .ok (.iload_n 3, 1) := by decide +kernel
theorem dX9_peopleOn_17 : decode cX9_peopleOn 17 = .ok (.iaload, 1) := by decide +kernel
theorem dX9_peopleOn_18 : decode cX9_peopleOn 18 = .ok (.iload_n 1, 1) := by decide +kernel
theorem dX9_peopleOn_19 : decode cX9_peopleOn 19 = .ok (.if_icmp .ne 6, 3) := by decide +kernel
theorem dX9_peopleOn_22 : decode cX9_peopleOn 22 = .ok (.iinc 2 1, 3) := by decide +kernel
theorem dX9_peopleOn_25 : decode cX9_peopleOn 25 = .ok (.iinc 3 1, 3) := by decide +kernel
theorem dX9_peopleOn_28 : decode cX9_peopleOn 28 = .ok (.goto (-24), 3) := by decide +kernel
theorem dX9_peopleOn_31 : decode cX9_peopleOn 31 = .ok (.iload_n 2, 1) := by decide +kernel
theorem dX9_peopleOn_32 : decode cX9_peopleOn 32 = .ok (.ireturn, 1) := by decide +kernel
theorem dX9_othersOn_0 : decode cX9_othersOn 0 = .ok (.aload_n 0, 1) := by decide +kernel
theorem dX9_othersOn_1 : decode cX9_othersOn 1 = .ok (.iload_n 1, 1) := by decide +kernel
theorem dX9_othersOn_2 : decode cX9_othersOn 2 = .ok (.invokevirtual 137, 3) := by decide +kernel
theorem dX9_othersOn_5 : decode cX9_othersOn 5 = .ok (.aload_n 0, 1) := by decide +kernel
theorem dX9_othersOn_6 : decode cX9_othersOn 6 = .ok (.getfield 43, 3) := by decide +kernel
theorem dX9_othersOn_9 : decode cX9_othersOn 9 = .ok (.iload_n 2, 1) := by decide +kernel
theorem dX9_othersOn_10 : decode cX9_othersOn 10 = .ok (.iaload, 1) := by decide +kernel
theorem dX9_othersOn_11 : decode cX9_othersOn 11 = .ok (.iload_n 1, 1) := by decide +kernel
theorem dX9_othersOn_12 : decode cX9_othersOn 12 = .ok (.if_icmp .ne 7, 3) := by decide +kernel
theorem dX9_othersOn_15 : decode cX9_othersOn 15 = .ok (.iconst 1, 1) := by decide +kernel
theorem dX9_othersOn_16 : decode cX9_othersOn 16 = .ok (.goto 4, 3) := by decide +kernel
theorem dX9_othersOn_19 : decode cX9_othersOn 19 = .ok (.iconst 0, 1) := by decide +kernel
theorem dX9_othersOn_20 : decode cX9_othersOn 20 = .ok (.if_icmp .le 7, 3) := by decide +kernel
theorem dX9_othersOn_23 : decode cX9_othersOn 23 = .ok (.iconst 1, 1) := by decide +kernel
theorem dX9_othersOn_24 : decode cX9_othersOn 24 = .ok (.goto 4, 3) := by decide +kernel
theorem dX9_othersOn_27 : decode cX9_othersOn 27 = .ok (.iconst 0, 1) := by decide +kernel
theorem dX9_othersOn_28 : decode cX9_othersOn 28 = .ok (.ireturn, 1) := by decide +kernel
theorem dX9_canMove_0 : decode cX9_canMove 0 = .ok (.aload_n 0, 1) := by decide +kernel
theorem dX9_canMove_1 : decode cX9_canMove 1 = .ok (.getfield 43, 3) := by decide +kernel
theorem dX9_canMove_4 : decode cX9_canMove 4 = .ok (.iload_n 1, 1) := by decide +kernel
theorem dX9_canMove_5 : decode cX9_canMove 5 = .ok (.iaload, 1) := by decide +kernel
theorem dX9_canMove_6 : decode cX9_canMove 6 = .ok (.aload_n 0, 1) := by decide +kernel
theorem dX9_canMove_7 : decode cX9_canMove 7 = .ok (.getfield 31, 3) := by decide +kernel
theorem dX9_canMove_10 : decode cX9_canMove 10 = .ok (.iload_n 2, 1) := by decide +kernel
theorem dX9_canMove_11 : decode cX9_canMove 11 = .ok (.iaload, 1) := by decide +kernel
theorem dX9_canMove_12 : decode cX9_canMove 12 = .ok (.if_icmp .ne 16, 3) := by decide +kernel
theorem dX9_canMove_15 : decode cX9_canMove 15 = .ok (.aload_n 0, 1) := by decide +kernel
theorem dX9_canMove_16 : decode cX9_canMove 16 = .ok (.iload_n 1, 1) := by decide +kernel
theorem dX9_canMove_17 : decode cX9_canMove 17 = .ok (.iload_n 2, 1) := by decide +kernel
theorem dX9_canMove_18 : decode cX9_canMove 18 = .ok (.invokevirtual 140, 3) := by decide +kernel
theorem dX9_canMove_21 : decode cX9_canMove 21 = .ok (.ifCond .eq 7, 3) := by decide +kernel
theorem dX9_canMove_24 : decode cX9_canMove 24 = .ok (.iconst 1, 1) := by decide +kernel
theorem dX9_canMove_25 : decode cX9_canMove 25 = .ok (.goto 4, 3) := by decide +kernel
theorem dX9_canMove_28 : decode cX9_canMove 28 = .ok (.iconst 0, 1) := by decide +kernel
theorem dX9_canMove_29 : decode cX9_canMove 29 = .ok (.ireturn, 1) := by decide +kernel
theorem dX9_canMoveFromFoot_0 : decode cX9_canMoveFromFoot 0 = .ok (.aload_n 0, 1) := by decide +kernel
theorem dX9_canMoveFromFoot_1 : decode cX9_canMoveFromFoot 1 = .ok (.getfield 37, 3) := by decide +kernel
theorem dX9_canMoveFromFoot_4 : decode cX9_canMoveFromFoot 4 = .ok (.iload_n 2, 1) := by decide +kernel
theorem dX9_canMoveFromFoot_5 : decode cX9_canMoveFromFoot 5 = .ok (.invokestatic 143, 3) := by decide +kernel
theorem dX9_canMoveFromFoot_8 : decode cX9_canMoveFromFoot 8 = .ok (.ifCond .eq 5, 3) := by decide +kernel
theorem dX9_canMoveFromFoot_11 : decode cX9_canMoveFromFoot 11 = .ok (.iconst 0, 1) := by decide +kernel
theorem dX9_canMoveFromFoot_12 : decode cX9_canMoveFromFoot 12 = .ok (.ireturn, 1) := by decide +kernel
theorem dX9_canMoveFromFoot_13 : decode cX9_canMoveFromFoot 13 = .ok (.aload_n 0, 1) := by decide +kernel
theorem dX9_canMoveFromFoot_14 : decode cX9_canMoveFromFoot 14 = .ok (.getfield 46, 3) := by decide +kernel
theorem dX9_canMoveFromFoot_17 : decode cX9_canMoveFromFoot 17 = .ok (.iload_n 1, 1) := by decide +kernel
theorem dX9_canMoveFromFoot_18 : decode cX9_canMoveFromFoot 18 = .ok (.iaload, 1) := by decide +kernel
theorem dX9_canMoveFromFoot_19 : decode cX9_canMoveFromFoot 19 = .ok (.aload_n 0, 1) := by decide +kernel
theorem dX9_canMoveFromFoot_20 : decode cX9_canMoveFromFoot 20 = .ok (.getfield 28, 3) := by decide +kernel
theorem dX9_canMoveFromFoot_23 : decode cX9_canMoveFromFoot 23 = .ok (.iload_n 2, 1) := by decide +kernel
theorem dX9_canMoveFromFoot_24 : decode cX9_canMoveFromFoot 24 = .ok (.iaload, 1) := by decide +kernel
theorem dX9_canMoveFromFoot_25 : decode cX9_canMoveFromFoot 25 = .ok (.if_icmp .lt 7, 3) := by decide +kernel
theorem dX9_canMoveFromFoot_28 : decode cX9_canMoveFromFoot 28 = .ok (.iconst 1, 1) := by decide +kernel
theorem dX9_canMoveFromFoot_29 : decode cX9_canMoveFromFoot 29 = .ok (.goto 4, 3) := by decide +kernel
theorem dX9_canMoveFromFoot_32 : decode cX9_canMoveFromFoot 32 = .ok (.iconst 0, 1) := by decide +kernel
theorem dX9_canMoveFromFoot_33 : decode cX9_canMoveFromFoot 33 = .ok (.istore_n 3, 1) := by decide +kernel
theorem dX9_canMoveFromFoot_34 : decode cX9_canMoveFromFoot 34 = .ok (.aload_n 0, 1) := by decide +kernel
theorem dX9_canMoveFromFoot_35 : decode cX9_canMoveFromFoot 35 = .ok (.iconst 1, 1) := by decide +kernel
theorem dX9_canMoveFromFoot_36 : decode cX9_canMoveFromFoot 36 = .ok (.aload_n 0, 1) := by decide +kernel
theorem dX9_canMoveFromFoot_37 : decode cX9_canMoveFromFoot 37 = .ok (.getfield 46, 3) := by decide +kernel
theorem dX9_canMoveFromFoot_40 : decode cX9_canMoveFromFoot 40 = .ok (.iload_n 1, 1) := by decide +kernel
theorem dX9_canMoveFromFoot_41 : decode cX9_canMoveFromFoot 41 = .ok (.iaload, 1) := by decide +kernel
theorem dX9_canMoveFromFoot_42 : decode cX9_canMoveFromFoot 42 = .ok (.aload_n 0, 1) := by decide +kernel
theorem dX9_canMoveFromFoot_43 : decode cX9_canMoveFromFoot 43 = .ok (.getfield 28, 3) := by decide +kernel
theorem dX9_canMoveFromFoot_46 : decode cX9_canMoveFromFoot 46 = .ok (.iload_n 2, 1) := by decide +kernel
theorem dX9_canMoveFromFoot_47 : decode cX9_canMoveFromFoot 47 = .ok (.iaload, 1) := by decide +kernel
theorem dX9_canMoveFromFoot_48 : decode cX9_canMoveFromFoot 48 = .ok (.aload_n 0, 1) := by decide +kernel
theorem dX9_canMoveFromFoot_49 : decode cX9_canMoveFromFoot 49 = .ok (.getfield 49, 3) := by decide +kernel
theorem dX9_canMoveFromFoot_52 : decode cX9_canMoveFromFoot 52 = .ok (.iload_n 3, 1) := by decide +kernel
theorem dX9_canMoveFromFoot_53 : decode cX9_canMoveFromFoot 53 = .ok (.invokevirtual 105, 3) := by decide +kernel
theorem dX9_canMoveFromFoot_56 : decode cX9_canMoveFromFoot 56 = .ok (.ifCond .eq 7, 3) := by decide +kernel
theorem dX9_canMoveFromFoot_59 : decode cX9_canMoveFromFoot 59 = .ok (.iconst 1, 1) := by decide +kernel
theorem dX9_canMoveFromFoot_60 : decode cX9_canMoveFromFoot 60 = .ok (.goto 4, 3) := by decide +kernel
theorem dX9_canMoveFromFoot_63 : decode cX9_canMoveFromFoot 63 = .ok (.iconst 0, 1) := by decide +kernel
theorem dX9_canMoveFromFoot_64 : decode cX9_canMoveFromFoot 64 = .ok (.istore 4, 2) := by decide +kernel
theorem dX9_canMoveFromFoot_66 : decode cX9_canMoveFromFoot 66 = .ok (.aload_n 0, 1) := by decide +kernel
theorem dX9_canMoveFromFoot_67 : decode cX9_canMoveFromFoot 67 = .ok (.getfield 73, 3) := by decide +kernel
theorem dX9_canMoveFromFoot_70 : decode cX9_canMoveFromFoot 70 = .ok (.aload_n 0, 1) := by decide +kernel
theorem dX9_canMoveFromFoot_71 : decode cX9_canMoveFromFoot 71 = .ok (.getfield 25, 3) := by decide +kernel
theorem dX9_canMoveFromFoot_74 : decode cX9_canMoveFromFoot 74 = .ok (.iload_n 2, 1) := by decide +kernel
theorem dX9_canMoveFromFoot_75 : decode cX9_canMoveFromFoot 75 = .ok (.iaload, 1) := by decide +kernel
theorem dX9_canMoveFromFoot_76 : decode cX9_canMoveFromFoot 76 = .ok (.aaload, 1) := by decide +kernel
theorem dX9_canMoveFromFoot_77 : decode cX9_canMoveFromFoot 77 = .ok (.iload 4, 2) := by decide +kernel
theorem dX9_canMoveFromFoot_79 : decode cX9_canMoveFromFoot 79 = .ok (.aload_n 0, 1) := by decide +kernel
theorem dX9_canMoveFromFoot_80 : decode cX9_canMoveFromFoot 80 = .ok (.aload_n 0, 1) := by decide +kernel
theorem dX9_canMoveFromFoot_81 : decode cX9_canMoveFromFoot 81 = .ok (.getfield 31, 3) := by decide +kernel
theorem dX9_canMoveFromFoot_84 : decode cX9_canMoveFromFoot 84 = .ok (.iload_n 2, 1) := by decide +kernel
theorem dX9_canMoveFromFoot_85 : decode cX9_canMoveFromFoot 85 = .ok (.iaload, 1) := by decide +kernel
theorem dX9_canMoveFromFoot_86 : decode cX9_canMoveFromFoot 86 = .ok (.iload_n 1, 1) := by decide +kernel
theorem dX9_canMoveFromFoot_87 : decode cX9_canMoveFromFoot 87 = .ok (.invokevirtual 146, 3) := by decide +kernel
theorem dX9_canMoveFromFoot_90 : decode cX9_canMoveFromFoot 90 = .ok (.invokevirtual 149, 3) := by decide +kernel
theorem dX9_canMoveFromFoot_93 : decode cX9_canMoveFromFoot 93 = .ok (.ireturn, 1) := by decide +kernel
theorem dX9_movableFromFoot_0 : decode cX9_movableFromFoot 0 = .ok (.iconst 0, 1) := by decide +kernel
theorem dX9_movableFromFoot_1 : decode cX9_movableFromFoot 1 = .ok (.istore_n 2, 1) := by decide +kernel
theorem dX9_movableFromFoot_2 : decode cX9_movableFromFoot 2 = .ok (.iconst 0, 1) := by decide +kernel
theorem dX9_movableFromFoot_3 : decode cX9_movableFromFoot 3 = .ok (.istore_n 3, 1) := by decide +kernel
theorem dX9_movableFromFoot_4 : decode cX9_movableFromFoot 4 = .ok (.iload_n 3, 1) := by decide +kernel
theorem dX9_movableFromFoot_5 : decode cX9_movableFromFoot 5 = .ok (.aload_n 0, 1) := by decide +kernel
theorem dX9_movableFromFoot_6 : decode cX9_movableFromFoot 6 = .ok (.getfield 22, 3) := by decide +kernel
theorem dX9_movableFromFoot_9 : decode cX9_movableFromFoot 9 = .ok (.if_icmp .ge 24, 3) := by decide +kernel
theorem dX9_movableFromFoot_12 : decode cX9_movableFromFoot 12 = .ok (.aload_n 0, 1) := by decide +kernel
theorem dX9_movableFromFoot_13 : decode cX9_movableFromFoot 13 = .ok (.iload_n 1, 1) := by decide +kernel
theorem dX9_movableFromFoot_14 : decode cX9_movableFromFoot 14 = .ok (.iload_n 3, 1) := by decide +kernel
theorem dX9_movableFromFoot_15 : decode cX9_movableFromFoot 15 = .ok (.invokevirtual 140, 3) := by decide +kernel
theorem dX9_movableFromFoot_18 : decode cX9_movableFromFoot 18 = .ok (.ifCond .eq 9, 3) := by decide +kernel
theorem dX9_movableFromFoot_21 : decode cX9_movableFromFoot 21 = .ok (.iload_n 2, 1) := by decide +kernel
theorem dX9_movableFromFoot_22 : decode cX9_movableFromFoot 22 = .ok (.iconst 1, 1) := by decide +kernel
theorem dX9_movableFromFoot_23 : decode cX9_movableFromFoot 23 = .ok (.iload_n 3, 1) := by decide +kernel
theorem dX9_movableFromFoot_24 : decode cX9_movableFromFoot 24 = .ok (.ishl, 1) := by decide +kernel
theorem dX9_movableFromFoot_25 : decode cX9_movableFromFoot 25 = .ok (.ior, 1) := by decide +kernel
theorem dX9_movableFromFoot_26 : decode cX9_movableFromFoot 26 = .ok (.istore_n 2, 1) := by decide +kernel
theorem dX9_movableFromFoot_27 : decode cX9_movableFromFoot 27 = .ok (.iinc 3 1, 3) := by decide +kernel
theorem dX9_movableFromFoot_30 : decode cX9_movableFromFoot 30 = .ok (.goto (-26), 3) := by decide +kernel
theorem dX9_movableFromFoot_33 : decode cX9_movableFromFoot 33 = .ok (.iload_n 2, 1) := by decide +kernel
theorem dX9_movableFromFoot_34 : decode cX9_movableFromFoot 34 = .ok (.ireturn, 1) := by decide +kernel
theorem dX9_night_0 : decode cX9_night 0 = .ok (.aload_n 0, 1) := by decide +kernel
theorem dX9_night_1 : decode cX9_night 1 = .ok (.iconst 0, 1) := by decide +kernel
theorem dX9_night_2 : decode cX9_night 2 = .ok (.putfield 37, 3) := by decide +kernel
theorem dX9_night_5 : decode cX9_night 5 = .ok (.iconst 0, 1) := by decide +kernel
theorem dX9_night_6 : decode cX9_night 6 = .ok (.istore_n 2, 1) := by decide +kernel
theorem dX9_night_7 : decode cX9_night 7 = .ok (.iconst 0, 1) := by decide +kernel
theorem dX9_night_8 : decode cX9_night 8 = .ok (.istore_n 3, 1) := by decide +kernel
theorem dX9_night_9 : decode cX9_night 9 = .ok (.iload_n 3, 1) := by decide +kernel
theorem dX9_night_10 : decode cX9_night 10 = .ok (.aload_n 0, 1) := by decide +kernel
theorem dX9_night_11 : decode cX9_night 11 = .ok (.getfield 22, 3) := by decide +kernel
theorem dX9_night_14 : decode cX9_night 14 = .ok (.if_icmp .ge 63, 3) := by decide +kernel
theorem dX9_night_17 : decode cX9_night 17 = .ok (.aload_n 0, 1) := by decide +kernel
theorem dX9_night_18 : decode cX9_night 18 = .ok (.invokevirtual 153, 3) := by decide +kernel
theorem dX9_night_21 : decode cX9_night 21 = .ok (.bipush 100, 2) := by decide +kernel
theorem dX9_night_23 : decode cX9_night 23 = .ok (.irem, 1) := by decide +kernel
theorem dX9_night_24 : decode cX9_night 24 = .ok (.aload_n 0, 1) := by decide +kernel
theorem dX9_night_25 : decode cX9_night 25 = .ok (.getfield 52, 3) := by decide +kernel
theorem dX9_night_28 : decode cX9_night 28 = .ok (.if_icmp .lt 6, 3) := by decide +kernel
theorem dX9_night_31 : decode cX9_night 31 = .ok (.goto 40, 3) := by decide +kernel
theorem dX9_night_34 : decode cX9_night 34 = .ok (.aload_n 0, 1) := by decide +kernel
theorem dX9_night_35 : decode cX9_night 35 = .ok (.aload_n 0, 1) := by decide +kernel
theorem dX9_night_36 : decode cX9_night 36 = .ok (.getfield 34, 3) := by decide +kernel
theorem dX9_night_39 : decode cX9_night 39 = .ok (.iload_n 3, 1) := by decide +kernel
theorem dX9_night_40 : decode cX9_night 40 = .ok (.iaload, 1) := by decide +kernel
theorem dX9_night_41 : decode cX9_night 41 = .ok (.aload_n 1, 1) := by decide +kernel
theorem dX9_night_42 : decode cX9_night 42 = .ok (.iload_n 3, 1) := by decide +kernel
theorem dX9_night_43 : decode cX9_night 43 = .ok (.iaload, 1) := by decide +kernel
theorem dX9_night_44 : decode cX9_night 44 = .ok (.invokevirtual 157, 3) := by decide +kernel
theorem dX9_night_47 : decode cX9_night 47 = .ok (.istore 4, 2) := by decide +kernel
theorem dX9_night_49 : decode cX9_night 49 = .ok (.iload 4, 2) := by decide +kernel
theorem dX9_night_51 : decode cX9_night 51 = .ok (.aload_n 0, 1) := by decide +kernel
theorem dX9_night_52 : decode cX9_night 52 = .ok (.getfield 34, 3) := by decide +kernel
theorem dX9_night_55 : decode cX9_night 55 = .ok (.iload_n 3, 1) := by decide +kernel
theorem dX9_night_56 : decode cX9_night 56 = .ok (.iaload, 1) := by decide +kernel
theorem dX9_night_57 : decode cX9_night 57 = .ok (.if_icmp .eq 6, 3) := by decide +kernel
theorem dX9_night_60 : decode cX9_night 60 = .ok (.iinc 2 1, 3) := by decide +kernel
theorem dX9_night_63 : decode cX9_night 63 = .ok (.aload_n 0, 1) := by decide +kernel
theorem dX9_night_64 : decode cX9_night 64 = .ok (.getfield 34, 3) := by decide +kernel
theorem dX9_night_67 : decode cX9_night 67 = .ok (.iload_n 3, 1) := by decide +kernel
theorem dX9_night_68 : decode cX9_night 68 = .ok (.iload 4, 2) := by decide +kernel
theorem dX9_night_70 : decode cX9_night 70 = .ok (.iastore, 1) := by decide +kernel
theorem dX9_night_71 : decode cX9_night 71 = .ok (.iinc 3 1, 3) := by decide +kernel
theorem dX9_night_74 : decode cX9_night 74 = .ok (.goto (-65), 3) := by decide +kernel
theorem dX9_night_77 : decode cX9_night 77 = .ok (.aload_n 0, 1) := by decide +kernel
theorem dX9_night_78 : decode cX9_night 78 = .ok (.dup, 1) := by decide +kernel
theorem dX9_night_79 : decode cX9_night 79 = .ok (.getfield 49, 3) := by decide +kernel
theorem dX9_night_82 : decode cX9_night 82 = .ok (.iconst 1, 1) := by decide +kernel
theorem dX9_night_83 : decode cX9_night 83 = .ok (.iadd, 1) := by decide +kernel
theorem dX9_night_84 : decode cX9_night 84 = .ok (.putfield 49, 3) := by decide +kernel
theorem dX9_night_87 : decode cX9_night 87 = .ok (.iload_n 2, 1) := by decide +kernel
theorem dX9_night_88 : decode cX9_night 88 = .ok (.ireturn, 1) := by decide +kernel
theorem dX9_nextTop_0 : decode cX9_nextTop 0 = .ok (.iload_n 1, 1) := by decide +kernel
theorem dX9_nextTop_1 : decode cX9_nextTop 1 = .ok (.iconst 1, 1) := by decide +kernel
theorem dX9_nextTop_2 : decode cX9_nextTop 2 = .ok (.iadd, 1) := by decide +kernel
theorem dX9_nextTop_3 : decode cX9_nextTop 3 = .ok (.istore_n 3, 1) := by decide +kernel
theorem dX9_nextTop_4 : decode cX9_nextTop 4 = .ok (.iload_n 3, 1) := by decide +kernel
theorem dX9_nextTop_5 : decode cX9_nextTop 5 = .ok (.aload_n 0, 1) := by decide +kernel
theorem dX9_nextTop_6 : decode cX9_nextTop 6 = .ok (.getfield 9, 3) := by decide +kernel
theorem dX9_nextTop_9 : decode cX9_nextTop 9 = .ok (.if_icmp .ge 19, 3) := by decide +kernel
theorem dX9_nextTop_12 : decode cX9_nextTop 12 = .ok (.iload_n 2, 1) := by decide +kernel
theorem dX9_nextTop_13 : decode cX9_nextTop 13 = .ok (.iload_n 3, 1) := by decide +kernel
theorem dX9_nextTop_14 : decode cX9_nextTop 14 = .ok (.invokestatic 143, 3) := by decide +kernel
theorem dX9_nextTop_17 : decode cX9_nextTop 17 = .ok (.ifCond .eq 5, 3) := by decide +kernel
theorem dX9_nextTop_20 : decode cX9_nextTop 20 = .ok (.iload_n 3, 1) := by decide +kernel
theorem dX9_nextTop_21 : decode cX9_nextTop 21 = .ok (.ireturn, 1) := by decide +kernel
theorem dX9_nextTop_22 : decode cX9_nextTop 22 = .ok (.iinc 3 1, 3) := by decide +kernel
theorem dX9_nextTop_25 : decode cX9_nextTop 25 = .ok (.goto (-21), 3) := by decide +kernel
theorem dX9_nextTop_28 : decode cX9_nextTop 28 = .ok (.iconst 0, 1) := by decide +kernel
theorem dX9_nextTop_29 : decode cX9_nextTop 29 = .ok (.istore_n 3, 1) := by decide +kernel
theorem dX9_nextTop_30 : decode cX9_nextTop 30 = .ok (.iload_n 3, 1) := by decide +kernel
theorem dX9_nextTop_31 : decode cX9_nextTop 31 = .ok (.iload_n 1, 1) := by decide +kernel
theorem dX9_nextTop_32 : decode cX9_nextTop 32 = .ok (.if_icmp .ge 19, 3) := by decide +kernel
theorem dX9_nextTop_35 : decode cX9_nextTop 35 = .ok (.iload_n 2, 1) := by decide +kernel
theorem dX9_nextTop_36 : decode cX9_nextTop 36 = .ok (.iload_n 3, 1) := by decide +kernel
theorem dX9_nextTop_37 : decode cX9_nextTop 37 = .ok (.invokestatic 143, 3) := by decide +kernel
theorem dX9_nextTop_40 : decode cX9_nextTop 40 = .ok (.ifCond .eq 5, 3) := by decide +kernel
theorem dX9_nextTop_43 : decode cX9_nextTop 43 = .ok (.iload_n 3, 1) := by decide +kernel
theorem dX9_nextTop_44 : decode cX9_nextTop 44 = .ok (.ireturn, 1) := by decide +kernel
theorem dX9_nextTop_45 : decode cX9_nextTop 45 = .ok (.iinc 3 1, 3) := by decide +kernel
theorem dX9_nextTop_48 : decode cX9_nextTop 48 = .ok (.goto (-18), 3) := by decide +kernel
theorem dX9_nextTop_51 : decode cX9_nextTop 51 = .ok (.iload_n 1, 1) := by decide +kernel
theorem dX9_nextTop_52 : decode cX9_nextTop 52 = .ok (.ireturn, 1) := by decide +kernel
