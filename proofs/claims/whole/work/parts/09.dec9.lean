theorem dX12_night_99 : decode cX12_night 99 = .ok (.iaload, 1) := by decide +kernel
theorem dX12_night_100 : decode cX12_night 100 = .ok (.irem, 1) := by decide +kernel
theorem dX12_night_101 : decode cX12_night 101 = .ok (.istore 4, 2) := by decide +kernel
theorem dX12_night_103 : decode cX12_night 103 = .ok (.goto (-29), 3) := by decide +kernel
theorem dX12_night_106 : decode cX12_night 106 = .ok (.aload_n 0, 1) := by decide +kernel
theorem dX12_night_107 : decode cX12_night 107 = .ok (.iload_n 2, 1) := by decide +kernel
theorem dX12_night_108 : decode cX12_night 108 = .ok (.iconst 3, 1) := by decide +kernel
theorem dX12_night_109 : decode cX12_night 109 = .ok (.iload 4, 2) := by decide +kernel
theorem dX12_night_111 : decode cX12_night 111 = .ok (.invokevirtual 108, 3) := by decide +kernel
theorem dX12_night_114 : decode cX12_night 114 = .ok (.iload_n 1, 1) := by decide +kernel
theorem dX12_night_115 : decode cX12_night 115 = .ok (.iload 4, 2) := by decide +kernel
theorem dX12_night_117 : decode cX12_night 117 = .ok (.iload_n 3, 1) := by decide +kernel
theorem dX12_night_118 : decode cX12_night 118 = .ok (.if_icmp .ne 7, 3) := by decide +kernel
theorem dX12_night_121 : decode cX12_night 121 = .ok (.iconst 0, 1) := by decide +kernel
theorem dX12_night_122 : decode cX12_night 122 = .ok (.goto 4, 3) := by decide +kernel
theorem dX12_night_125 : decode cX12_night 125 = .ok (.iconst 1, 1) := by decide +kernel
theorem dX12_night_126 : decode cX12_night 126 = .ok (.iadd, 1) := by decide +kernel
theorem dX12_night_127 : decode cX12_night 127 = .ok (.istore_n 1, 1) := by decide +kernel
theorem dX12_night_128 : decode cX12_night 128 = .ok (.iinc 2 1, 3) := by decide +kernel
theorem dX12_night_131 : decode cX12_night 131 = .ok (.goto (-102), 3) := by decide +kernel
theorem dX12_night_134 : decode cX12_night 134 = .ok (.aload_n 0, 1) := by decide +kernel
theorem dX12_night_135 : decode cX12_night 135 = .ok (.getfield 7, 3) := by decide +kernel
theorem dX12_night_138 : decode cX12_night 138 = .ok (.iconst 4, 1) := by decide +kernel
theorem dX12_night_139 : decode cX12_night 139 = .ok (.dup2, 1) := by decide +kernel
theorem dX12_night_140 : decode cX12_night 140 = .ok (.iaload, 1) := by decide +kernel
theorem dX12_night_141 : decode cX12_night 141 = .ok (.iconst 1, 1) := by decide +kernel
theorem dX12_night_142 : decode cX12_night 142 = .ok (.iadd, 1) := by decide +kernel
theorem dX12_night_143 : decode cX12_night 143 = .ok (.iastore, 1) := by decide +kernel
theorem dX12_night_144 : decode cX12_night 144 = .ok (.iload_n 1, 1) := by decide +kernel
theorem dX12_night_145 : decode cX12_night 145 = .ok (.ireturn, 1) := by decide +kernel
theorem dX12_nights_0 : decode cX12_nights 0 = .ok (.iload_n 1, 1) := by decide +kernel
theorem dX12_nights_1 : decode cX12_nights 1 = .ok (.i2l, 1) := by decide +kernel
theorem dX12_nights_2 : decode cX12_nights 2 = .ok (.lconst 1, 1) := by decide +kernel
theorem dX12_nights_3 : decode cX12_nights 3 = .ok (.ldc2_w 171, 3) := by decide +kernel
theorem dX12_nights_6 : decode cX12_nights 6 = .ok (.invokestatic 65, 3) := by decide +kernel
theorem dX12_nights_9 : decode cX12_nights 9 = .ok (.ifCond .ne 6, 3) := by decide +kernel
theorem dX12_nights_12 : decode cX12_nights 12 = .ok (.ldc 78, 2) := by decide +kernel
theorem dX12_nights_14 : decode cX12_nights 14 = .ok (.ireturn, 1) := by decide +kernel
theorem dX12_nights_15 : decode cX12_nights 15 = .ok (.iconst 0, 1) := by decide +kernel
theorem dX12_nights_16 : decode cX12_nights 16 = .ok (.istore_n 2, 1) := by decide +kernel
theorem dX12_nights_17 : decode cX12_nights 17 = .ok (.iconst 0, 1) := by decide +kernel
theorem dX12_nights_18 : decode cX12_nights 18 = .ok (.istore_n 3, 1) := by decide +kernel
theorem dX12_nights_19 : decode cX12_nights 19 = .ok (.iload_n 3, 1) := by decide +kernel
theorem dX12_nights_20 : decode cX12_nights 20 = .ok (.iload_n 1, 1) := by decide +kernel
theorem dX12_nights_21 : decode cX12_nights 21 = .ok (.if_icmp .ge 16, 3) := by decide +kernel
theorem dX12_nights_24 : decode cX12_nights 24 = .ok (.iload_n 2, 1) := by decide +kernel
theorem dX12_nights_25 : decode cX12_nights 25 = .ok (.aload_n 0, 1) := by decide +kernel
theorem dX12_nights_26 : decode cX12_nights 26 = .ok (.invokevirtual 173, 3) := by decide +kernel
theorem dX12_nights_29 : decode cX12_nights 29 = .ok (.iadd, 1) := by decide +kernel
theorem dX12_nights_30 : decode cX12_nights 30 = .ok (.istore_n 2, 1) := by decide +kernel
theorem dX12_nights_31 : decode cX12_nights 31 = .ok (.iinc 3 1, 3) := by decide +kernel
theorem dX12_nights_34 : decode cX12_nights 34 = .ok (.goto (-15), 3) := by decide +kernel
theorem dX12_nights_37 : decode cX12_nights 37 = .ok (.iload_n 2, 1) := by decide +kernel
theorem dX12_nights_38 : decode cX12_nights 38 = .ok (.ireturn, 1) := by decide +kernel
theorem dX12_findFar_0 : decode cX12_findFar 0 = .ok (.iconst 0, 1) := by decide +kernel
theorem dX12_findFar_1 : decode cX12_findFar 1 = .ok (.istore_n 2, 1) := by decide +kernel
theorem dX12_findFar_2 : decode cX12_findFar 2 = .ok (.iload_n 2, 1) := by decide +kernel
theorem dX12_findFar_3 : decode cX12_findFar 3 = .ok (.bipush 10, 2) := by decide +kernel
theorem dX12_findFar_5 : decode cX12_findFar 5 = .ok (.if_icmp .ge 26, 3) := by decide +kernel
theorem dX12_findFar_8 : decode cX12_findFar 8 = .ok (.aload_n 0, 1) := by decide +kernel
theorem dX12_findFar_9 : decode cX12_findFar 9 = .ok (.getfield 43, 3) := by decide +kernel
theorem dX12_findFar_12 : decode cX12_findFar 12 = .ok (.iload_n 2, 1) := by decide +kernel
theorem dX12_findFar_13 : decode cX12_findFar 13 = .ok (.iload_n 2, 1) := by decide +kernel
theorem dX12_findFar_14 : decode cX12_findFar 14 = .ok (.iload_n 1, 1) := by decide +kernel
theorem dX12_findFar_15 : decode cX12_findFar 15 = .ok (.if_icmp .ne 7, 3) := by decide +kernel
theorem dX12_findFar_18 : decode cX12_findFar 18 = .ok (.iconst 0, 1) := by decide +kernel
theorem dX12_findFar_19 : decode cX12_findFar 19 = .ok (.goto 5, 3) := by decide +kernel
theorem dX12_findFar_22 : decode cX12_findFar 22 = .ok (.ldc 176, 2) := by decide +kernel
theorem dX12_findFar_24 : decode cX12_findFar 24 = .ok (.iastore, 1) := by decide +kernel
theorem dX12_findFar_25 : decode cX12_findFar 25 = .ok (.iinc 2 1, 3) := by decide +kernel
theorem dX12_findFar_28 : decode cX12_findFar 28 = .ok (.goto (-26), 3) := by decide +kernel
theorem dX12_findFar_31 : decode cX12_findFar 31 = .ok (.iconst 1, 1) := by decide +kernel
theorem dX12_findFar_32 : decode cX12_findFar 32 = .ok (.istore_n 2, 1) := by decide +kernel
theorem dX12_findFar_33 : decode cX12_findFar 33 = .ok (.iload_n 2, 1) := by decide +kernel
theorem dX12_findFar_34 : decode cX12_findFar 34 = .ok (.ifCond .eq 140, 3) := by decide +kernel
theorem dX12_findFar_37 : decode cX12_findFar 37 = .ok (.iconst 0, 1) := by decide +kernel
theorem dX12_findFar_38 : decode cX12_findFar 38 = .ok (.istore_n 2, 1) := by decide +kernel
theorem dX12_findFar_39 : decode cX12_findFar 39 = .ok (.iconst 0, 1) := by decide +kernel
theorem dX12_findFar_40 : decode cX12_findFar 40 = .ok (.istore_n 3, 1) := by decide +kernel
theorem dX12_findFar_41 : decode cX12_findFar 41 = .ok (.iload_n 3, 1) := by decide +kernel
theorem dX12_findFar_42 : decode cX12_findFar 42 = .ok (.aload_n 0, 1) := by decide +kernel
theorem dX12_findFar_43 : decode cX12_findFar 43 = .ok (.getfield 7, 3) := by decide +kernel
theorem dX12_findFar_46 : decode cX12_findFar 46 = .ok (.iconst 1, 1) := by decide +kernel
theorem dX12_findFar_47 : decode cX12_findFar 47 = .ok (.iaload, 1) := by decide +kernel
theorem dX12_findFar_48 : decode cX12_findFar 48 = .ok (.if_icmp .ge 123, 3) := by decide +kernel
theorem dX12_findFar_51 : decode cX12_findFar 51 = .ok (.aload_n 0, 1) := by decide +kernel
theorem dX12_findFar_52 : decode cX12_findFar 52 = .ok (.iload_n 3, 1) := by decide +kernel
theorem dX12_findFar_53 : decode cX12_findFar 53 = .ok (.invokevirtual 143, 3) := by decide +kernel
theorem dX12_findFar_56 : decode cX12_findFar 56 = .ok (.ifCond .eq 109, 3) := by decide +kernel
theorem dX12_findFar_59 : decode cX12_findFar 59 = .ok (.bipush 100, 2) := by decide +kernel
theorem dX12_findFar_61 : decode cX12_findFar 61 = .ok (.aload_n 0, 1) := by decide +kernel
theorem dX12_findFar_62 : decode cX12_findFar 62 = .ok (.iload_n 3, 1) := by decide +kernel
theorem dX12_findFar_63 : decode cX12_findFar 63 = .ok (.invokevirtual 140, 3) := by decide +kernel
theorem dX12_findFar_66 : decode cX12_findFar 66 = .ok (.imul, 1) := by decide +kernel
theorem dX12_findFar_67 : decode cX12_findFar 67 = .ok (.iconst 1, 1) := by decide +kernel
theorem dX12_findFar_68 : decode cX12_findFar 68 = .ok (.iadd, 1) := by decide +kernel
theorem dX12_findFar_69 : decode cX12_findFar 69 = .ok (.istore 4, 2) := by decide +kernel
theorem dX12_findFar_71 : decode cX12_findFar 71 = .ok (.aload_n 0, 1) := by decide +kernel
theorem dX12_findFar_72 : decode cX12_findFar 72 = .ok (.iload_n 3, 1) := by decide +kernel
theorem dX12_findFar_73 : decode cX12_findFar 73 = .ok (.iconst 2, 1) := by decide +kernel
theorem dX12_findFar_74 : decode cX12_findFar 74 = .ok (.invokevirtual 90, 3) := by decide +kernel
theorem dX12_findFar_77 : decode cX12_findFar 77 = .ok (.istore 5, 2) := by decide +kernel
theorem dX12_findFar_79 : decode cX12_findFar 79 = .ok (.aload_n 0, 1) := by decide +kernel
theorem dX12_findFar_80 : decode cX12_findFar 80 = .ok (.iload_n 3, 1) := by decide +kernel
theorem dX12_findFar_81 : decode cX12_findFar 81 = .ok (.iconst 3, 1) := by decide +kernel
theorem dX12_findFar_82 : decode cX12_findFar 82 = .ok (.invokevirtual 90, 3) := by decide +kernel
theorem dX12_findFar_85 : decode cX12_findFar 85 = .ok (.istore 6, 2) := by decide +kernel
theorem dX12_findFar_87 : decode cX12_findFar 87 = .ok (.aload_n 0, 1) := by decide +kernel
theorem dX12_findFar_88 : decode cX12_findFar 88 = .ok (.getfield 43, 3) := by decide +kernel
theorem dX12_findFar_91 : decode cX12_findFar 91 = .ok (.iload 5, 2) := by decide +kernel
theorem dX12_findFar_93 : decode cX12_findFar 93 = .ok (.iaload, 1) := by decide +kernel
theorem dX12_findFar_94 : decode cX12_findFar 94 = .ok (.iload 4, 2) := by decide +kernel
theorem dX12_findFar_96 : decode cX12_findFar 96 = .ok (.iadd, 1) := by decide +kernel
theorem dX12_findFar_97 : decode cX12_findFar 97 = .ok (.aload_n 0, 1) := by decide +kernel
theorem dX12_findFar_98 : decode cX12_findFar 98 = .ok (.getfield 43, 3) := by decide +kernel
theorem dX12_findFar_101 : decode cX12_findFar 101 = .ok (.iload 6, 2) := by decide +kernel
theorem dX12_findFar_103 : decode cX12_findFar 103 = .ok (.iaload, 1) := by decide +kernel
theorem dX12_findFar_104 : decode cX12_findFar 104 = .ok (.if_icmp .ge 22, 3) := by decide +kernel
theorem dX12_findFar_107 : decode cX12_findFar 107 = .ok (.aload_n 0, 1) := by decide +kernel
theorem dX12_findFar_108 : decode cX12_findFar 108 = .ok (.getfield 43, 3) := by decide +kernel
theorem dX12_findFar_111 : decode cX12_findFar 111 = .ok (.iload 6, 2) := by decide +kernel
theorem dX12_findFar_113 : decode cX12_findFar 113 = .ok (.aload_n 0, 1) := by decide +kernel
theorem dX12_findFar_114 : decode cX12_findFar 114 = .ok (.getfield 43, 3) := by decide +kernel
theorem dX12_findFar_117 : decode cX12_findFar 117 = .ok (.iload 5, 2) := by decide +kernel
theorem dX12_findFar_119 : decode cX12_findFar 119 = .ok (.iaload, 1) := by decide +kernel
theorem dX12_findFar_120 : decode cX12_findFar 120 = .ok (.iload 4, 2) := by decide +kernel
theorem dX12_findFar_122 : decode cX12_findFar 122 = .ok (.iadd, 1) := by decide +kernel
theorem dX12_findFar_123 : decode cX12_findFar 123 = .ok (.iastore, 1) := by decide +kernel
theorem dX12_findFar_124 : decode cX12_findFar 124 = .ok (.iconst 1, 1) := by decide +kernel
theorem dX12_findFar_125 : decode cX12_findFar 125 = .ok (.istore_n 2, 1) := by decide +kernel
theorem dX12_findFar_126 : decode cX12_findFar 126 = .ok (.aload_n 0, 1) := by decide +kernel
theorem dX12_findFar_127 : decode cX12_findFar 127 = .ok (.getfield 43, 3) := by decide +kernel
theorem dX12_findFar_130 : decode cX12_findFar 130 = .ok (.iload 6, 2) := by decide +kernel
theorem dX12_findFar_132 : decode cX12_findFar 132 = .ok (.iaload, 1) := by decide +kernel
theorem dX12_findFar_133 : decode cX12_findFar 133 = .ok (.iload 4, 2) := by decide +kernel
theorem dX12_findFar_135 : decode cX12_findFar 135 = .ok (.iadd, 1) := by decide +kernel
theorem dX12_findFar_136 : decode cX12_findFar 136 = .ok (.aload_n 0, 1) := by decide +kernel
theorem dX12_findFar_137 : decode cX12_findFar 137 = .ok (.getfield 43, 3) := by decide +kernel
theorem dX12_findFar_140 : decode cX12_findFar 140 = .ok (.iload 5, 2) := by decide +kernel
theorem dX12_findFar_142 : decode cX12_findFar 142 = .ok (.iaload, 1) := by decide +kernel
theorem dX12_findFar_143 : decode cX12_findFar 143 = .ok (.if_icmp .ge 22, 3) := by decide +kernel
theorem dX12_findFar_146 : decode cX12_findFar 146 = .ok (.aload_n 0, 1) := by decide +kernel
theorem dX12_findFar_147 : decode cX12_findFar 147 = .ok (.getfield 43, 3) := by decide +kernel
theorem dX12_findFar_150 : decode cX12_findFar 150 = .ok (.iload 5, 2) := by decide +kernel
theorem dX12_findFar_152 : decode cX12_findFar 152 = .ok (.aload_n 0, 1) := by decide +kernel
theorem dX12_findFar_153 : decode cX12_findFar 153 = .ok (.getfield 43, 3) := by decide +kernel
theorem dX12_findFar_156 : decode cX12_findFar 156 = .ok (.iload 6, 2) := by decide +kernel
theorem dX12_findFar_158 : decode cX12_findFar 158 = .ok (.iaload, 1) := by decide +kernel
theorem dX12_findFar_159 : decode cX12_findFar 159 = .ok (.iload 4, 2) := by decide +kernel
theorem dX12_findFar_161 : decode cX12_findFar 161 = .ok (.iadd, 1) := by decide +kernel
theorem dX12_findFar_162 : decode cX12_findFar 162 = .ok (.iastore, 1) := by decide +kernel
theorem dX12_findFar_163 : decode cX12_findFar 163 = .ok (.iconst 1, 1) := by decide +kernel
theorem dX12_findFar_164 : decode cX12_findFar 164 = .ok (.istore_n 2, 1) := by decide +kernel
theorem dX12_findFar_165 : decode cX12_findFar 165 = .ok (.iinc 3 1, 3) := by decide +kernel
theorem dX12_findFar_168 : decode cX12_findFar 168 = .ok (.goto (-127), 3) := by decide +kernel
theorem dX12_findFar_171 : decode cX12_findFar 171 = .ok (.goto (-138), 3) := by decide +kernel
theorem dX12_findFar_174 : decode cX12_findFar 174 = .ok (.return_, 1) := by decide +kernel
theorem dX12_reachedBut_0 : decode cX12_reachedBut 0 = .ok (.iconst 1, 1) := by decide +kernel
theorem dX12_reachedBut_1 : decode cX12_reachedBut 1 = .ok (.iload_n 1, 1) := by decide +kernel
theorem dX12_reachedBut_2 : decode cX12_reachedBut 2 = .ok (.ishl, 1) := by decide +kernel
theorem dX12_reachedBut_3 : decode cX12_reachedBut 3 = .ok (.istore_n 3, 1) := by decide +kernel
theorem dX12_reachedBut_4 : decode cX12_reachedBut 4 = .ok (.iconst 0, 1) := by decide +kernel
theorem dX12_reachedBut_5 : decode cX12_reachedBut 5 = .ok (.istore 4, 2) := by decide +kernel
theorem dX12_reachedBut_7 : decode cX12_reachedBut 7 = .ok (.iload 4, 2) := by decide +kernel
theorem dX12_reachedBut_9 : decode cX12_reachedBut 9 = .ok (.iload_n 3, 1) := by decide +kernel
theorem dX12_reachedBut_10 : decode cX12_reachedBut 10 = .ok (.if_icmp .eq 81, 3) := by decide +kernel
theorem dX12_reachedBut_13 : decode cX12_reachedBut 13 = .ok (.iload_n 3, 1) := by decide +kernel
theorem dX12_reachedBut_14 : decode cX12_reachedBut 14 = .ok (.istore 4, 2) := by decide +kernel
theorem dX12_reachedBut_16 : decode cX12_reachedBut 16 = .ok (.iconst 0, 1) := by decide +kernel
theorem dX12_reachedBut_17 : decode cX12_reachedBut 17 = .ok (.istore 5, 2) := by decide +kernel
theorem dX12_reachedBut_19 : decode cX12_reachedBut 19 = .ok (.iload 5, 2) := by decide +kernel
theorem dX12_reachedBut_21 : decode cX12_reachedBut 21 = .ok (.aload_n 0, 1) := by decide +kernel
theorem dX12_reachedBut_22 : decode cX12_reachedBut 22 = .ok (.getfield 7, 3) := by decide +kernel
theorem dX12_reachedBut_25 : decode cX12_reachedBut 25 = .ok (.iconst 1, 1) := by decide +kernel
theorem dX12_reachedBut_26 : decode cX12_reachedBut 26 = .ok (.iaload, 1) := by decide +kernel
theorem dX12_reachedBut_27 : decode cX12_reachedBut 27 = .ok (.if_icmp .ge 61, 3) := by decide +kernel
theorem dX12_reachedBut_30 : decode cX12_reachedBut 30 = .ok (.iconst 1, 1) := by decide +kernel
theorem dX12_reachedBut_31 : decode cX12_reachedBut 31 = .ok (.aload_n 0, 1) := by decide +kernel
theorem dX12_reachedBut_32 : decode cX12_reachedBut 32 = .ok (.iload 5, 2) := by decide +kernel
theorem dX12_reachedBut_34 : decode cX12_reachedBut 34 = .ok (.iconst 2, 1) := by decide +kernel
theorem dX12_reachedBut_35 : decode cX12_reachedBut 35 = .ok (.invokevirtual 90, 3) := by decide +kernel
theorem dX12_reachedBut_38 : decode cX12_reachedBut 38 = .ok (.ishl, 1) := by decide +kernel
theorem dX12_reachedBut_39 : decode cX12_reachedBut 39 = .ok (.iconst 1, 1) := by decide +kernel
theorem dX12_reachedBut_40 : decode cX12_reachedBut 40 = .ok (.aload_n 0, 1) := by decide +kernel
theorem dX12_reachedBut_41 : decode cX12_reachedBut 41 = .ok (.iload 5, 2) := by decide +kernel
theorem dX12_reachedBut_43 : decode cX12_reachedBut 43 = .ok (.iconst 3, 1) := by decide +kernel
theorem dX12_reachedBut_44 : decode cX12_reachedBut 44 = .ok (.invokevirtual 90, 3) := by decide +kernel
theorem dX12_reachedBut_47 : decode cX12_reachedBut 47 = .ok (.ishl, 1) := by decide +kernel
theorem dX12_reachedBut_48 : decode cX12_reachedBut 48 = .ok (.ior, 1) := by decide +kernel
theorem dX12_reachedBut_49 : decode cX12_reachedBut 49 = .ok (.istore 6, 2) := by decide +kernel
theorem dX12_reachedBut_51 : decode cX12_reachedBut 51 = .ok (.iload_n 3, 1) := by decide +kernel
theorem dX12_reachedBut_52 : decode cX12_reachedBut 52 = .ok (.iload 5, 2) := by decide +kernel
theorem dX12_reachedBut_54 : decode cX12_reachedBut 54 = .ok (.iload_n 2, 1) := by decide +kernel
theorem dX12_reachedBut_55 : decode cX12_reachedBut 55 = .ok (.if_icmp .eq 24, 3) := by decide +kernel
theorem dX12_reachedBut_58 : decode cX12_reachedBut 58 = .ok (.iload_n 3, 1) := by decide +kernel
theorem dX12_reachedBut_59 : decode cX12_reachedBut 59 = .ok (.iload 6, 2) := by decide +kernel
theorem dX12_reachedBut_61 : decode cX12_reachedBut 61 = .ok (.iand, 1) := by decide +kernel
theorem dX12_reachedBut_62 : decode cX12_reachedBut 62 = .ok (.ifCond .eq 17, 3) := by decide +kernel
theorem dX12_reachedBut_65 : decode cX12_reachedBut 65 = .ok (.aload_n 0, 1) := by decide +kernel
theorem dX12_reachedBut_66 : decode cX12_reachedBut 66 = .ok (.iload 5, 2) := by decide +kernel
theorem dX12_reachedBut_68 : decode cX12_reachedBut 68 = .ok (.invokevirtual 143, 3) := by decide +kernel
theorem dX12_reachedBut_71 : decode cX12_reachedBut 71 = .ok (.ifCond .eq 8, 3) := by decide +kernel
theorem dX12_reachedBut_74 : decode cX12_reachedBut 74 = .ok (.iload 6, 2) := by decide +kernel
theorem dX12_reachedBut_76 : decode cX12_reachedBut 76 = .ok (.goto 4, 3) := by decide +kernel
theorem dX12_reachedBut_79 : decode cX12_reachedBut 79 = .ok (.iconst 0, 1) := by decide +kernel
theorem dX12_reachedBut_80 : decode cX12_reachedBut 80 = .ok (.ior, 1) := by decide +kernel
theorem dX12_reachedBut_81 : decode cX12_reachedBut 81 = .ok (.istore_n 3, 1) := by decide +kernel
theorem dX12_reachedBut_82 : decode cX12_reachedBut 82 = .ok (.iinc 5 1, 3) := by decide +kernel
theorem dX12_reachedBut_85 : decode cX12_reachedBut 85 = .ok (.goto (-66), 3) := by decide +kernel
theorem dX12_reachedBut_88 : decode cX12_reachedBut 88 = .ok (.goto (-81), 3) := by decide +kernel
theorem dX12_reachedBut_91 : decode cX12_reachedBut 91 = .ok (.iload_n 3, 1) := by decide +kernel
theorem dX12_reachedBut_92 : decode cX12_reachedBut 92 = .ok (.ireturn, 1) := by decide +kernel
theorem dX12_toll_0 : decode cX12_toll 0 = .ok (.aload_n 0, 1) := by decide +kernel
theorem dX12_toll_1 : decode cX12_toll 1 = .ok (.iconst 2, 1) := by decide +kernel
theorem dX12_toll_2 : decode cX12_toll 2 = .ok (.invokevirtual 118, 3) := by decide +kernel
theorem dX12_toll_5 : decode cX12_toll 5 = .ok (.istore_n 3, 1) := by decide +kernel
theorem dX12_toll_6 : decode cX12_toll 6 = .ok (.iload_n 3, 1) := by decide +kernel
theorem dX12_toll_7 : decode cX12_toll 7 = .ok (.ifCond .ge 5, 3) := by decide +kernel
theorem dX12_toll_10 : decode cX12_toll 10 = .ok (.iload_n 1, 1) := by decide +kernel
theorem dX12_toll_11 : decode cX12_toll 11 = .ok (.ireturn, 1) := by decide +kernel
theorem dX12_toll_12 : decode cX12_toll 12 = .ok (.aload_n 0, 1) := by decide +kernel
theorem dX12_toll_13 : decode cX12_toll 13 = .ok (.getfield 49, 3) := by decide +kernel
theorem dX12_toll_16 : decode cX12_toll 16 = .ok (.bipush 109, 2) := by decide +kernel
theorem dX12_toll_18 : decode cX12_toll 18 = .ok (.iload_n 1, 1) := by decide +kernel
theorem dX12_toll_19 : decode cX12_toll 19 = .ok (.iastore, 1) := by decide +kernel
theorem dX12_toll_20 : decode cX12_toll 20 = .ok (.aload_n 0, 1) := by decide +kernel
theorem dX12_toll_21 : decode cX12_toll 21 = .ok (.getfield 49, 3) := by decide +kernel
theorem dX12_toll_24 : decode cX12_toll 24 = .ok (.bipush 110, 2) := by decide +kernel
theorem dX12_toll_26 : decode cX12_toll 26 = .ok (.iload_n 2, 1) := by decide +kernel
theorem dX12_toll_27 : decode cX12_toll 27 = .ok (.iastore, 1) := by decide +kernel
theorem dX12_toll_28 : decode cX12_toll 28 = .ok (.aload_n 0, 1) := by decide +kernel
theorem dX12_toll_29 : decode cX12_toll 29 = .ok (.iload_n 3, 1) := by decide +kernel
theorem dX12_toll_30 : decode cX12_toll 30 = .ok (.invokevirtual 121, 3) := by decide +kernel
theorem dX12_toll_33 : decode cX12_toll 33 = .ok (.ireturn, 1) := by decide +kernel
theorem dX12_way_0 : decode cX12_way 0 = .ok (.aload_n 0, 1) := by decide +kernel
theorem dX12_way_1 : decode cX12_way 1 = .ok (.iload_n 1, 1) := by decide +kernel
theorem dX12_way_2 : decode cX12_way 2 = .ok (.invokevirtual 84, 3) := by decide +kernel
theorem dX12_way_5 : decode cX12_way 5 = .ok (.ifCond .eq 23, 3) := by decide +kernel
theorem dX12_way_8 : decode cX12_way 8 = .ok (.aload_n 0, 1) := by decide +kernel
theorem dX12_way_9 : decode cX12_way 9 = .ok (.iload_n 2, 1) := by decide +kernel
theorem dX12_way_10 : decode cX12_way 10 = .ok (.invokevirtual 84, 3) := by decide +kernel
theorem dX12_way_13 : decode cX12_way 13 = .ok (.ifCond .eq 15, 3) := by decide +kernel
theorem dX12_way_16 : decode cX12_way 16 = .ok (.iload_n 3, 1) := by decide +kernel
theorem dX12_way_17 : decode cX12_way 17 = .ok (.i2l, 1) := by decide +kernel
theorem dX12_way_18 : decode cX12_way 18 = .ok (.lconst 0, 1) := by decide +kernel
theorem dX12_way_19 : decode cX12_way 19 = .ok (.ldc2_w 177, 3) := by decide +kernel
theorem dX12_way_22 : decode cX12_way 22 = .ok (.invokestatic 65, 3) := by decide +kernel
theorem dX12_way_25 : decode cX12_way 25 = .ok (.ifCond .ne 6, 3) := by decide +kernel
theorem dX12_way_28 : decode cX12_way 28 = .ok (.ldc 78, 2) := by decide +kernel
theorem dX12_way_30 : decode cX12_way 30 = .ok (.ireturn, 1) := by decide +kernel
theorem dX12_way_31 : decode cX12_way 31 = .ok (.aload_n 0, 1) := by decide +kernel
theorem dX12_way_32 : decode cX12_way 32 = .ok (.iload_n 1, 1) := by decide +kernel
theorem dX12_way_33 : decode cX12_way 33 = .ok (.invokevirtual 179, 3) := by decide +kernel
theorem dX12_way_36 : decode cX12_way 36 = .ok (.aload_n 0, 1) := by decide +kernel
theorem dX12_way_37 : decode cX12_way 37 = .ok (.getfield 43, 3) := by decide +kernel
theorem dX12_way_40 : decode cX12_way 40 = .ok (.iload_n 2, 1) := by decide +kernel
theorem dX12_way_41 : decode cX12_way 41 = .ok (.iaload, 1) := by decide +kernel
theorem dX12_way_42 : decode cX12_way 42 = .ok (.istore 4, 2) := by decide +kernel
theorem dX12_way_44 : decode cX12_way 44 = .ok (.iload 4, 2) := by decide +kernel
theorem dX12_way_46 : decode cX12_way 46 = .ok (.ldc 176, 2) := by decide +kernel
theorem dX12_way_48 : decode cX12_way 48 = .ok (.if_icmp .lt 8, 3) := by decide +kernel
theorem dX12_way_51 : decode cX12_way 51 = .ok (.ldc 64, 2) := by decide +kernel
theorem dX12_way_53 : decode cX12_way 53 = .ok (.goto 42, 3) := by decide +kernel
theorem dX12_way_56 : decode cX12_way 56 = .ok (.iload_n 3, 1) := by decide +kernel
theorem dX12_way_57 : decode cX12_way 57 = .ok (.ifCond .ne 11, 3) := by decide +kernel
theorem dX12_way_60 : decode cX12_way 60 = .ok (.iload 4, 2) := by decide +kernel
theorem dX12_way_62 : decode cX12_way 62 = .ok (.bipush 100, 2) := by decide +kernel
theorem dX12_way_64 : decode cX12_way 64 = .ok (.idiv, 1) := by decide +kernel
theorem dX12_way_65 : decode cX12_way 65 = .ok (.goto 30, 3) := by decide +kernel
theorem dX12_way_68 : decode cX12_way 68 = .ok (.iload_n 3, 1) := by decide +kernel
theorem dX12_way_69 : decode cX12_way 69 = .ok (.iconst 1, 1) := by decide +kernel
theorem dX12_way_70 : decode cX12_way 70 = .ok (.if_icmp .ne 11, 3) := by decide +kernel
theorem dX12_way_73 : decode cX12_way 73 = .ok (.iload 4, 2) := by decide +kernel
theorem dX12_way_75 : decode cX12_way 75 = .ok (.bipush 100, 2) := by decide +kernel
theorem dX12_way_77 : decode cX12_way 77 = .ok (.irem, 1) := by decide +kernel
theorem dX12_way_78 : decode cX12_way 78 = .ok (.goto 17, 3) := by decide +kernel
theorem dX12_way_81 : decode cX12_way 81 = .ok (.aload_n 0, 1) := by decide +kernel
theorem dX12_way_82 : decode cX12_way 82 = .ok (.iload 4, 2) := by decide +kernel
theorem dX12_way_84 : decode cX12_way 84 = .ok (.bipush 100, 2) := by decide +kernel
theorem dX12_way_86 : decode cX12_way 86 = .ok (.idiv, 1) := by decide +kernel
theorem dX12_way_87 : decode cX12_way 87 = .ok (.iload 4, 2) := by decide +kernel
theorem dX12_way_89 : decode cX12_way 89 = .ok (.bipush 100, 2) := by decide +kernel
theorem dX12_way_91 : decode cX12_way 91 = .ok (.irem, 1) := by decide +kernel
theorem dX12_way_92 : decode cX12_way 92 = .ok (.invokevirtual 183, 3) := by decide +kernel
theorem dX12_way_95 : decode cX12_way 95 = .ok (.ireturn, 1) := by decide +kernel
theorem dX12_reached_0 : decode cX12_reached 0 = .ok (.aload_n 0, 1) := by decide +kernel
theorem dX12_reached_1 : decode cX12_reached 1 = .ok (.iload_n 1, 1) := by decide +kernel
theorem dX12_reached_2 : decode cX12_reached 2 = .ok (.invokevirtual 84, 3) := by decide +kernel
theorem dX12_reached_5 : decode cX12_reached 5 = .ok (.ifCond .eq 12, 3) := by decide +kernel
theorem dX12_reached_8 : decode cX12_reached 8 = .ok (.aload_n 0, 1) := by decide +kernel
theorem dX12_reached_9 : decode cX12_reached 9 = .ok (.iload_n 1, 1) := by decide +kernel
theorem dX12_reached_10 : decode cX12_reached 10 = .ok (.iconst (-1), 1) := by decide +kernel
theorem dX12_reached_11 : decode cX12_reached 11 = .ok (.invokevirtual 186, 3) := by decide +kernel
theorem dX12_reached_14 : decode cX12_reached 14 = .ok (.goto 5, 3) := by decide +kernel
theorem dX12_reached_17 : decode cX12_reached 17 = .ok (.ldc 78, 2) := by decide +kernel
theorem dX12_reached_19 : decode cX12_reached 19 = .ok (.ireturn, 1) := by decide +kernel
theorem dX12_needed_0 : decode cX12_needed 0 = .ok (.aload_n 0, 1) := by decide +kernel
theorem dX12_needed_1 : decode cX12_needed 1 = .ok (.iload_n 1, 1) := by decide +kernel
theorem dX12_needed_2 : decode cX12_needed 2 = .ok (.invokevirtual 84, 3) := by decide +kernel
theorem dX12_needed_5 : decode cX12_needed 5 = .ok (.ifCond .eq 11, 3) := by decide +kernel
theorem dX12_needed_8 : decode cX12_needed 8 = .ok (.aload_n 0, 1) := by decide +kernel
theorem dX12_needed_9 : decode cX12_needed 9 = .ok (.iload_n 2, 1) := by decide +kernel
theorem dX12_needed_10 : decode cX12_needed 10 = .ok (.invokevirtual 84, 3) := by decide +kernel
theorem dX12_needed_13 : decode cX12_needed 13 = .ok (.ifCond .ne 6, 3) := by decide +kernel
theorem dX12_needed_16 : decode cX12_needed 16 = .ok (.ldc 78, 2) := by decide +kernel
theorem dX12_needed_18 : decode cX12_needed 18 = .ok (.ireturn, 1) := by decide +kernel
theorem dX12_needed_19 : decode cX12_needed 19 = .ok (.aload_n 0, 1) := by decide +kernel
theorem dX12_needed_20 : decode cX12_needed 20 = .ok (.iload_n 1, 1) := by decide +kernel
theorem dX12_needed_21 : decode cX12_needed 21 = .ok (.iconst (-1), 1) := by decide +kernel
theorem dX12_needed_22 : decode cX12_needed 22 = .ok (.invokevirtual 186, 3) := by decide +kernel
theorem dX12_needed_25 : decode cX12_needed 25 = .ok (.iload_n 2, 1) := by decide +kernel
theorem dX12_needed_26 : decode cX12_needed 26 = .ok (.ishr, 1) := by decide +kernel
theorem dX12_needed_27 : decode cX12_needed 27 = .ok (.iconst 1, 1) := by decide +kernel
theorem dX12_needed_28 : decode cX12_needed 28 = .ok (.iand, 1) := by decide +kernel
theorem dX12_needed_29 : decode cX12_needed 29 = .ok (.ifCond .ne 6, 3) := by decide +kernel
theorem dX12_needed_32 : decode cX12_needed 32 = .ok (.ldc 64, 2) := by decide +kernel
theorem dX12_needed_34 : decode cX12_needed 34 = .ok (.ireturn, 1) := by decide +kernel
theorem dX12_needed_35 : decode cX12_needed 35 = .ok (.iconst 0, 1) := by decide +kernel
theorem dX12_needed_36 : decode cX12_needed 36 = .ok (.istore_n 3, 1) := by decide +kernel
theorem dX12_needed_37 : decode cX12_needed 37 = .ok (.iconst 0, 1) := by decide +kernel
theorem dX12_needed_38 : decode cX12_needed 38 = .ok (.istore 4, 2) := by decide +kernel
theorem dX12_needed_40 : decode cX12_needed 40 = .ok (.iload 4, 2) := by decide +kernel
theorem dX12_needed_42 : decode cX12_needed 42 = .ok (.aload_n 0, 1) := by decide +kernel
theorem dX12_needed_43 : decode cX12_needed 43 = .ok (.getfield 7, 3) := by decide +kernel
theorem dX12_needed_46 : decode cX12_needed 46 = .ok (.iconst 1, 1) := by decide +kernel
theorem dX12_needed_47 : decode cX12_needed 47 = .ok (.iaload, 1) := by decide +kernel
theorem dX12_needed_48 : decode cX12_needed 48 = .ok (.if_icmp .ge 34, 3) := by decide +kernel
theorem dX12_needed_51 : decode cX12_needed 51 = .ok (.iload_n 3, 1) := by decide +kernel
theorem dX12_needed_52 : decode cX12_needed 52 = .ok (.aload_n 0, 1) := by decide +kernel
theorem dX12_needed_53 : decode cX12_needed 53 = .ok (.iload_n 1, 1) := by decide +kernel
theorem dX12_needed_54 : decode cX12_needed 54 = .ok (.iload 4, 2) := by decide +kernel
theorem dX12_needed_56 : decode cX12_needed 56 = .ok (.invokevirtual 186, 3) := by decide +kernel
theorem dX12_needed_59 : decode cX12_needed 59 = .ok (.iload_n 2, 1) := by decide +kernel
theorem dX12_needed_60 : decode cX12_needed 60 = .ok (.ishr, 1) := by decide +kernel
theorem dX12_needed_61 : decode cX12_needed 61 = .ok (.iconst 1, 1) := by decide +kernel
theorem dX12_needed_62 : decode cX12_needed 62 = .ok (.iand, 1) := by decide +kernel
theorem dX12_needed_63 : decode cX12_needed 63 = .ok (.ifCond .ne 10, 3) := by decide +kernel
theorem dX12_needed_66 : decode cX12_needed 66 = .ok (.iconst 1, 1) := by decide +kernel
theorem dX12_needed_67 : decode cX12_needed 67 = .ok (.iload 4, 2) := by decide +kernel
theorem dX12_needed_69 : decode cX12_needed 69 = .ok (.ishl, 1) := by decide +kernel
theorem dX12_needed_70 : decode cX12_needed 70 = .ok (.goto 4, 3) := by decide +kernel
theorem dX12_needed_73 : decode cX12_needed 73 = .ok (.iconst 0, 1) := by decide +kernel
theorem dX12_needed_74 : decode cX12_needed 74 = .ok (.ior, 1) := by decide +kernel
theorem dX12_needed_75 : decode cX12_needed 75 = .ok (.istore_n 3, 1) := by decide +kernel
theorem dX12_needed_76 : decode cX12_needed 76 = .ok (.iinc 4 1, 3) := by decide +kernel
theorem dX12_needed_79 : decode cX12_needed 79 = .ok (.goto (-39), 3) := by decide +kernel
theorem dX12_needed_82 : decode cX12_needed 82 = .ok (.iload_n 3, 1) := by decide +kernel
theorem dX12_needed_83 : decode cX12_needed 83 = .ok (.ireturn, 1) := by decide +kernel
theorem dX12_meeting_0 : decode cX12_meeting 0 = .ok (.iconst (-1), 1) := by decide +kernel
theorem dX12_meeting_1 : decode cX12_meeting 1 = .ok (.istore_n 1, 1) := by decide +kernel
theorem dX12_meeting_2 : decode cX12_meeting 2 = .ok (.iconst 0, 1) := by decide +kernel
theorem dX12_meeting_3 : decode cX12_meeting 3 = .ok (.istore_n 2, 1) := by decide +kernel
theorem dX12_meeting_4 : decode cX12_meeting 4 = .ok (.iconst 0, 1) := by decide +kernel
theorem dX12_meeting_5 : decode cX12_meeting 5 = .ok (.istore_n 3, 1) := by decide +kernel
theorem dX12_meeting_6 : decode cX12_meeting 6 = .ok (.iload_n 3, 1) := by decide +kernel
theorem dX12_meeting_7 : decode cX12_meeting 7 = .ok (.aload_n 0, 1) := by decide +kernel
theorem dX12_meeting_8 : decode cX12_meeting 8 = .ok (.getfield 7, 3) := by decide +kernel
theorem dX12_meeting_11 : decode cX12_meeting 11 = .ok (.iconst 0, 1) := by decide +kernel
theorem dX12_meeting_12 : decode cX12_meeting 12 = .ok (.iaload, 1) := by decide +kernel
theorem dX12_meeting_13 : decode cX12_meeting 13 = .ok (.if_icmp .ge 116, 3) := by decide +kernel
theorem dX12_meeting_16 : decode cX12_meeting 16 = .ok (.aload_n 0, 1) := by decide +kernel
theorem dX12_meeting_17 : decode cX12_meeting 17 = .ok (.getfield 7, 3) := by decide +kernel
theorem dX12_meeting_20 : decode cX12_meeting 20 = .ok (.iconst 2, 1) := by decide +kernel
theorem dX12_meeting_21 : decode cX12_meeting 21 = .ok (.iaload, 1) := by decide +kernel
theorem dX12_meeting_22 : decode cX12_meeting 22 = .ok (.ifCond .le 107, 3) := by decide +kernel
theorem dX12_meeting_25 : decode cX12_meeting 25 = .ok (.aload_n 0, 1) := by decide +kernel
theorem dX12_meeting_26 : decode cX12_meeting 26 = .ok (.iload_n 3, 1) := by decide +kernel
theorem dX12_meeting_27 : decode cX12_meeting 27 = .ok (.invokevirtual 179, 3) := by decide +kernel
theorem dX12_meeting_30 : decode cX12_meeting 30 = .ok (.iconst 0, 1) := by decide +kernel
theorem dX12_meeting_31 : decode cX12_meeting 31 = .ok (.istore 4, 2) := by decide +kernel
theorem dX12_meeting_33 : decode cX12_meeting 33 = .ok (.iconst 1, 1) := by decide +kernel
theorem dX12_meeting_34 : decode cX12_meeting 34 = .ok (.istore 5, 2) := by decide +kernel
theorem dX12_meeting_36 : decode cX12_meeting 36 = .ok (.iconst 0, 1) := by decide +kernel
theorem dX12_meeting_37 : decode cX12_meeting 37 = .ok (.istore 6, 2) := by decide +kernel
theorem dX12_meeting_39 : decode cX12_meeting 39 = .ok (.iload 6, 2) := by decide +kernel
theorem dX12_meeting_41 : decode cX12_meeting 41 = .ok (.aload_n 0, 1) := by decide +kernel
theorem dX12_meeting_42 : decode cX12_meeting 42 = .ok (.getfield 7, 3) := by decide +kernel
theorem dX12_meeting_45 : decode cX12_meeting 45 = .ok (.iconst 2, 1) := by decide +kernel
theorem dX12_meeting_46 : decode cX12_meeting 46 = .ok (.iaload, 1) := by decide +kernel
theorem dX12_meeting_47 : decode cX12_meeting 47 = .ok (.if_icmp .ge 56, 3) := by decide +kernel
theorem dX12_meeting_50 : decode cX12_meeting 50 = .ok (.iload 4, 2) := by decide +kernel
theorem dX12_meeting_52 : decode cX12_meeting 52 = .ok (.aload_n 0, 1) := by decide +kernel
theorem dX12_meeting_53 : decode cX12_meeting 53 = .ok (.getfield 43, 3) := by decide +kernel
theorem dX12_meeting_56 : decode cX12_meeting 56 = .ok (.aload_n 0, 1) := by decide +kernel
theorem dX12_meeting_57 : decode cX12_meeting 57 = .ok (.iload 6, 2) := by decide +kernel
theorem dX12_meeting_59 : decode cX12_meeting 59 = .ok (.invokevirtual 70, 3) := by decide +kernel
theorem dX12_meeting_62 : decode cX12_meeting 62 = .ok (.iaload, 1) := by decide +kernel
theorem dX12_meeting_63 : decode cX12_meeting 63 = .ok (.bipush 100, 2) := by decide +kernel
theorem dX12_meeting_65 : decode cX12_meeting 65 = .ok (.idiv, 1) := by decide +kernel
theorem dX12_meeting_66 : decode cX12_meeting 66 = .ok (.iadd, 1) := by decide +kernel
theorem dX12_meeting_67 : decode cX12_meeting 67 = .ok (.istore 4, 2) := by decide +kernel
theorem dX12_meeting_69 : decode cX12_meeting 69 = .ok (.iload 5, 2) := by decide +kernel
theorem dX12_meeting_71 : decode cX12_meeting 71 = .ok (.ifCond .eq 23, 3) := by decide +kernel
theorem dX12_meeting_74 : decode cX12_meeting 74 = .ok (.aload_n 0, 1) := by decide +kernel
theorem dX12_meeting_75 : decode cX12_meeting 75 = .ok (.getfield 43, 3) := by decide +kernel
theorem dX12_meeting_78 : decode cX12_meeting 78 = .ok (.aload_n 0, 1) := by decide +kernel
theorem dX12_meeting_79 : decode cX12_meeting 79 = .ok (.iload 6, 2) := by decide +kernel
theorem dX12_meeting_81 : decode cX12_meeting 81 = .ok (.invokevirtual 70, 3) := by decide +kernel
theorem dX12_meeting_84 : decode cX12_meeting 84 = .ok (.iaload, 1) := by decide +kernel
theorem dX12_meeting_85 : decode cX12_meeting 85 = .ok (.ldc 176, 2) := by decide +kernel
theorem dX12_meeting_87 : decode cX12_meeting 87 = .ok (.if_icmp .ge 7, 3) := by decide +kernel
theorem dX12_meeting_90 : decode cX12_meeting 90 = .ok (.iconst 1, 1) := by decide +kernel
theorem dX12_meeting_91 : decode cX12_meeting 91 = .ok (.goto 4, 3) := by decide +kernel
theorem dX12_meeting_94 : decode cX12_meeting 94 = .ok (.iconst 0, 1) := by decide +kernel
theorem dX12_meeting_95 : decode cX12_meeting 95 = .ok (.istore 5, 2) := by decide +kernel
theorem dX12_meeting_97 : decode cX12_meeting 97 = .ok (.iinc 6 1, 3) := by decide +kernel
theorem dX12_meeting_100 : decode cX12_meeting 100 = .ok (.goto (-61), 3) := by decide +kernel
theorem dX12_meeting_103 : decode cX12_meeting 103 = .ok (.iload 5, 2) := by decide +kernel
theorem dX12_meeting_105 : decode cX12_meeting 105 = .ok (.ifCond .eq 18, 3) := by decide +kernel
theorem dX12_meeting_108 : decode cX12_meeting 108 = .ok (.iload_n 1, 1) := by decide +kernel
theorem dX12_meeting_109 : decode cX12_meeting 109 = .ok (.ifCond .lt 9, 3) := by decide +kernel
theorem dX12_meeting_112 : decode cX12_meeting 112 = .ok (.iload 4, 2) := by decide +kernel
theorem dX12_meeting_114 : decode cX12_meeting 114 = .ok (.iload_n 2, 1) := by decide +kernel
theorem dX12_meeting_115 : decode cX12_meeting 115 = .ok (.if_icmp .ge 8, 3) := by decide +kernel
theorem dX12_meeting_118 : decode cX12_meeting 118 = .ok (.iload_n 3, 1) := by decide +kernel
theorem dX12_meeting_119 : decode cX12_meeting 119 = .ok (.istore_n 1, 1) := by decide +kernel
theorem dX12_meeting_120 : decode cX12_meeting 120 = .ok (.iload 4, 2) := by decide +kernel
theorem dX12_meeting_122 : decode cX12_meeting 122 = .ok (.istore_n 2, 1) := by decide +kernel
theorem dX12_meeting_123 : decode cX12_meeting 123 = .ok (.iinc 3 1, 3) := by decide +kernel
theorem dX12_meeting_126 : decode cX12_meeting 126 = .ok (.goto (-120), 3) := by decide +kernel
theorem dX12_meeting_129 : decode cX12_meeting 129 = .ok (.iload_n 1, 1) := by decide +kernel
theorem dX12_meeting_130 : decode cX12_meeting 130 = .ok (.invokestatic 189, 3) := by decide +kernel
theorem dX12_meeting_133 : decode cX12_meeting 133 = .ok (.ireturn, 1) := by decide +kernel
theorem dX12_above_0 : decode cX12_above 0 = .ok (.iconst 0, 1) := by decide +kernel
theorem dX12_above_1 : decode cX12_above 1 = .ok (.istore_n 1, 1) := by decide +kernel
theorem dX12_above_2 : decode cX12_above 2 = .ok (.iconst 0, 1) := by decide +kernel
theorem dX12_above_3 : decode cX12_above 3 = .ok (.istore_n 2, 1) := by decide +kernel
theorem dX12_above_4 : decode cX12_above 4 = .ok (.iload_n 2, 1) := by decide +kernel
theorem dX12_above_5 : decode cX12_above 5 = .ok (.aload_n 0, 1) := by decide +kernel
theorem dX12_above_6 : decode cX12_above 6 = .ok (.getfield 7, 3) := by decide +kernel
theorem dX12_above_9 : decode cX12_above 9 = .ok (.iconst 2, 1) := by decide +kernel
theorem dX12_above_10 : decode cX12_above 10 = .ok (.iaload, 1) := by decide +kernel
theorem dX12_above_11 : decode cX12_above 11 = .ok (.if_icmp .ge 34, 3) := by decide +kernel
theorem dX12_above_14 : decode cX12_above 14 = .ok (.iload_n 1, 1) := by decide +kernel
theorem dX12_above_15 : decode cX12_above 15 = .ok (.aload_n 0, 1) := by decide +kernel
theorem dX12_above_16 : decode cX12_above 16 = .ok (.aload_n 0, 1) := by decide +kernel
theorem dX12_above_17 : decode cX12_above 17 = .ok (.iload_n 2, 1) := by decide +kernel
theorem dX12_above_18 : decode cX12_above 18 = .ok (.invokevirtual 70, 3) := by decide +kernel
theorem dX12_above_21 : decode cX12_above 21 = .ok (.iconst (-1), 1) := by decide +kernel
theorem dX12_above_22 : decode cX12_above 22 = .ok (.invokevirtual 186, 3) := by decide +kernel
theorem dX12_above_25 : decode cX12_above 25 = .ok (.iconst 1, 1) := by decide +kernel
theorem dX12_above_26 : decode cX12_above 26 = .ok (.iand, 1) := by decide +kernel
theorem dX12_above_27 : decode cX12_above 27 = .ok (.ifCond .ne 9, 3) := by decide +kernel
theorem dX12_above_30 : decode cX12_above 30 = .ok (.iconst 1, 1) := by decide +kernel
theorem dX12_above_31 : decode cX12_above 31 = .ok (.iload_n 2, 1) := by decide +kernel
theorem dX12_above_32 : decode cX12_above 32 = .ok (.ishl, 1) := by decide +kernel
theorem dX12_above_33 : decode cX12_above 33 = .ok (.goto 4, 3) := by decide +kernel
theorem dX12_above_36 : decode cX12_above 36 = .ok (.iconst 0, 1) := by decide +kernel
theorem dX12_above_37 : decode cX12_above 37 = .ok (.ior, 1) := by decide +kernel
theorem dX12_above_38 : decode cX12_above 38 = .ok (.istore_n 1, 1) := by decide +kernel
theorem dX12_above_39 : decode cX12_above 39 = .ok (.iinc 2 1, 3) := by decide +kernel
theorem dX12_above_42 : decode cX12_above 42 = .ok (.goto (-38), 3) := by decide +kernel
theorem dX12_above_45 : decode cX12_above 45 = .ok (.iload_n 1, 1) := by decide +kernel
theorem dX12_above_46 : decode cX12_above 46 = .ok (.ireturn, 1) := by decide +kernel
theorem dX12_getsByOne_0 : decode cX12_getsByOne 0 = .ok (.iconst 0, 1) := by decide +kernel
theorem dX12_getsByOne_1 : decode cX12_getsByOne 1 = .ok (.istore 4, 2) := by decide +kernel
theorem dX12_getsByOne_3 : decode cX12_getsByOne 3 = .ok (.iload 4, 2) := by decide +kernel
theorem dX12_getsByOne_5 : decode cX12_getsByOne 5 = .ok (.aload_n 0, 1) := by decide +kernel
theorem dX12_getsByOne_6 : decode cX12_getsByOne 6 = .ok (.getfield 7, 3) := by decide +kernel
theorem dX12_getsByOne_9 : decode cX12_getsByOne 9 = .ok (.iconst 1, 1) := by decide +kernel
theorem dX12_getsByOne_10 : decode cX12_getsByOne 10 = .ok (.iaload, 1) := by decide +kernel
theorem dX12_getsByOne_11 : decode cX12_getsByOne 11 = .ok (.if_icmp .ge 157, 3) := by decide +kernel
theorem dX12_getsByOne_14 : decode cX12_getsByOne 14 = .ok (.iload_n 2, 1) := by decide +kernel
theorem dX12_getsByOne_15 : decode cX12_getsByOne 15 = .ok (.aload_n 0, 1) := by decide +kernel
theorem dX12_getsByOne_16 : decode cX12_getsByOne 16 = .ok (.iload 4, 2) := by decide +kernel
theorem dX12_getsByOne_18 : decode cX12_getsByOne 18 = .ok (.iconst 2, 1) := by decide +kernel
theorem dX12_getsByOne_19 : decode cX12_getsByOne 19 = .ok (.invokevirtual 90, 3) := by decide +kernel
theorem dX12_getsByOne_22 : decode cX12_getsByOne 22 = .ok (.ishr, 1) := by decide +kernel
theorem dX12_getsByOne_23 : decode cX12_getsByOne 23 = .ok (.iconst 1, 1) := by decide +kernel
theorem dX12_getsByOne_24 : decode cX12_getsByOne 24 = .ok (.iand, 1) := by decide +kernel
theorem dX12_getsByOne_25 : decode cX12_getsByOne 25 = .ok (.iconst 1, 1) := by decide +kernel
theorem dX12_getsByOne_26 : decode cX12_getsByOne 26 = .ok (.if_icmp .ne 17, 3) := by decide +kernel
theorem dX12_getsByOne_29 : decode cX12_getsByOne 29 = .ok (.aload_n 0, 1) := by decide +kernel
theorem dX12_getsByOne_30 : decode cX12_getsByOne 30 = .ok (.iload_n 1, 1) := by decide +kernel
theorem dX12_getsByOne_31 : decode cX12_getsByOne 31 = .ok (.iload 4, 2) := by decide +kernel
theorem dX12_getsByOne_33 : decode cX12_getsByOne 33 = .ok (.invokevirtual 162, 3) := by decide +kernel
theorem dX12_getsByOne_36 : decode cX12_getsByOne 36 = .ok (.ifCond .eq 7, 3) := by decide +kernel
theorem dX12_getsByOne_39 : decode cX12_getsByOne 39 = .ok (.iconst 1, 1) := by decide +kernel
theorem dX12_getsByOne_40 : decode cX12_getsByOne 40 = .ok (.goto 4, 3) := by decide +kernel
theorem dX12_getsByOne_43 : decode cX12_getsByOne 43 = .ok (.iconst 0, 1) := by decide +kernel
theorem dX12_getsByOne_44 : decode cX12_getsByOne 44 = .ok (.istore 5, 2) := by decide +kernel
theorem dX12_getsByOne_46 : decode cX12_getsByOne 46 = .ok (.aload_n 0, 1) := by decide +kernel
theorem dX12_getsByOne_47 : decode cX12_getsByOne 47 = .ok (.iload 4, 2) := by decide +kernel
theorem dX12_getsByOne_49 : decode cX12_getsByOne 49 = .ok (.iconst 3, 1) := by decide +kernel
theorem dX12_getsByOne_50 : decode cX12_getsByOne 50 = .ok (.invokevirtual 90, 3) := by decide +kernel
theorem dX12_getsByOne_53 : decode cX12_getsByOne 53 = .ok (.istore 6, 2) := by decide +kernel
theorem dX12_getsByOne_55 : decode cX12_getsByOne 55 = .ok (.iload 5, 2) := by decide +kernel
theorem dX12_getsByOne_57 : decode cX12_getsByOne 57 = .ok (.ifCond .eq 19, 3) := by decide +kernel
theorem dX12_getsByOne_60 : decode cX12_getsByOne 60 = .ok (.aload_n 0, 1) := by decide +kernel
theorem dX12_getsByOne_61 : decode cX12_getsByOne 61 = .ok (.iload 4, 2) := by decide +kernel
theorem dX12_getsByOne_63 : decode cX12_getsByOne 63 = .ok (.invokevirtual 149, 3) := by decide +kernel
theorem dX12_getsByOne_66 : decode cX12_getsByOne 66 = .ok (.iconst 1, 1) := by decide +kernel
theorem dX12_getsByOne_67 : decode cX12_getsByOne 67 = .ok (.iload 6, 2) := by decide +kernel
theorem dX12_getsByOne_69 : decode cX12_getsByOne 69 = .ok (.ishl, 1) := by decide +kernel
theorem dX12_getsByOne_70 : decode cX12_getsByOne 70 = .ok (.iconst (-1), 1) := by decide +kernel
theorem dX12_getsByOne_71 : decode cX12_getsByOne 71 = .ok (.ixor, 1) := by decide +kernel
theorem dX12_getsByOne_72 : decode cX12_getsByOne 72 = .ok (.iand, 1) := by decide +kernel
theorem dX12_getsByOne_73 : decode cX12_getsByOne 73 = .ok (.goto 4, 3) := by decide +kernel
theorem dX12_getsByOne_76 : decode cX12_getsByOne 76 = .ok (.iconst 0, 1) := by decide +kernel
theorem dX12_getsByOne_77 : decode cX12_getsByOne 77 = .ok (.istore 7, 2) := by decide +kernel
theorem dX12_getsByOne_79 : decode cX12_getsByOne 79 = .ok (.iconst 0, 1) := by decide +kernel
theorem dX12_getsByOne_80 : decode cX12_getsByOne 80 = .ok (.istore 8, 2) := by decide +kernel
theorem dX12_getsByOne_82 : decode cX12_getsByOne 82 = .ok (.iload 8, 2) := by decide +kernel
theorem dX12_getsByOne_84 : decode cX12_getsByOne 84 = .ok (.aload_n 0, 1) := by decide +kernel
theorem dX12_getsByOne_85 : decode cX12_getsByOne 85 = .ok (.getfield 7, 3) := by decide +kernel
theorem dX12_getsByOne_88 : decode cX12_getsByOne 88 = .ok (.iconst 0, 1) := by decide +kernel
theorem dX12_getsByOne_89 : decode cX12_getsByOne 89 = .ok (.iaload, 1) := by decide +kernel
theorem dX12_getsByOne_90 : decode cX12_getsByOne 90 = .ok (.if_icmp .ge 72, 3) := by decide +kernel
theorem dX12_getsByOne_93 : decode cX12_getsByOne 93 = .ok (.iload 7, 2) := by decide +kernel
theorem dX12_getsByOne_95 : decode cX12_getsByOne 95 = .ok (.iload 8, 2) := by decide +kernel
theorem dX12_getsByOne_97 : decode cX12_getsByOne 97 = .ok (.ishr, 1) := by decide +kernel
theorem dX12_getsByOne_98 : decode cX12_getsByOne 98 = .ok (.iconst 1, 1) := by decide +kernel
theorem dX12_getsByOne_99 : decode cX12_getsByOne 99 = .ok (.iand, 1) := by decide +kernel
theorem dX12_getsByOne_100 : decode cX12_getsByOne 100 = .ok (.iconst 1, 1) := by decide +kernel
theorem dX12_getsByOne_101 : decode cX12_getsByOne 101 = .ok (.if_icmp .ne 55, 3) := by decide +kernel
theorem dX12_getsByOne_104 : decode cX12_getsByOne 104 = .ok (.aload_n 0, 1) := by decide +kernel
theorem dX12_getsByOne_105 : decode cX12_getsByOne 105 = .ok (.iload 4, 2) := by decide +kernel
theorem dX12_getsByOne_107 : decode cX12_getsByOne 107 = .ok (.iconst 3, 1) := by decide +kernel
theorem dX12_getsByOne_108 : decode cX12_getsByOne 108 = .ok (.iload 8, 2) := by decide +kernel
theorem dX12_getsByOne_110 : decode cX12_getsByOne 110 = .ok (.invokevirtual 108, 3) := by decide +kernel
theorem dX12_getsByOne_113 : decode cX12_getsByOne 113 = .ok (.aload_n 0, 1) := by decide +kernel
theorem dX12_getsByOne_114 : decode cX12_getsByOne 114 = .ok (.aload_n 0, 1) := by decide +kernel
theorem dX12_getsByOne_115 : decode cX12_getsByOne 115 = .ok (.iload 4, 2) := by decide +kernel
theorem dX12_getsByOne_117 : decode cX12_getsByOne 117 = .ok (.iconst 2, 1) := by decide +kernel
theorem dX12_getsByOne_118 : decode cX12_getsByOne 118 = .ok (.invokevirtual 90, 3) := by decide +kernel
theorem dX12_getsByOne_121 : decode cX12_getsByOne 121 = .ok (.iconst (-1), 1) := by decide +kernel
theorem dX12_getsByOne_122 : decode cX12_getsByOne 122 = .ok (.invokevirtual 186, 3) := by decide +kernel
theorem dX12_getsByOne_125 : decode cX12_getsByOne 125 = .ok (.iload_n 3, 1) := by decide +kernel
theorem dX12_getsByOne_126 : decode cX12_getsByOne 126 = .ok (.ishr, 1) := by decide +kernel
theorem dX12_getsByOne_127 : decode cX12_getsByOne 127 = .ok (.iconst 1, 1) := by decide +kernel
theorem dX12_getsByOne_128 : decode cX12_getsByOne 128 = .ok (.iand, 1) := by decide +kernel
theorem dX12_getsByOne_129 : decode cX12_getsByOne 129 = .ok (.iconst 1, 1) := by decide +kernel
theorem dX12_getsByOne_130 : decode cX12_getsByOne 130 = .ok (.if_icmp .ne 7, 3) := by decide +kernel
theorem dX12_getsByOne_133 : decode cX12_getsByOne 133 = .ok (.iconst 1, 1) := by decide +kernel
theorem dX12_getsByOne_134 : decode cX12_getsByOne 134 = .ok (.goto 4, 3) := by decide +kernel
theorem dX12_getsByOne_137 : decode cX12_getsByOne 137 = .ok (.iconst 0, 1) := by decide +kernel
theorem dX12_getsByOne_138 : decode cX12_getsByOne 138 = .ok (.istore 9, 2) := by decide +kernel
theorem dX12_getsByOne_140 : decode cX12_getsByOne 140 = .ok (.aload_n 0, 1) := by decide +kernel
theorem dX12_getsByOne_141 : decode cX12_getsByOne 141 = .ok (.iload 4, 2) := by decide +kernel
theorem dX12_getsByOne_143 : decode cX12_getsByOne 143 = .ok (.iconst 3, 1) := by decide +kernel
theorem dX12_getsByOne_144 : decode cX12_getsByOne 144 = .ok (.iload 6, 2) := by decide +kernel
theorem dX12_getsByOne_146 : decode cX12_getsByOne 146 = .ok (.invokevirtual 108, 3) := by decide +kernel
theorem dX12_getsByOne_149 : decode cX12_getsByOne 149 = .ok (.iload 9, 2) := by decide +kernel
theorem dX12_getsByOne_151 : decode cX12_getsByOne 151 = .ok (.ifCond .eq 5, 3) := by decide +kernel
theorem dX12_getsByOne_154 : decode cX12_getsByOne 154 = .ok (.iconst 1, 1) := by decide +kernel
theorem dX12_getsByOne_155 : decode cX12_getsByOne 155 = .ok (.ireturn, 1) := by decide +kernel
theorem dX12_getsByOne_156 : decode cX12_getsByOne 156 = .ok (.iinc 8 1, 3) := by decide +kernel
theorem dX12_getsByOne_159 : decode cX12_getsByOne 159 = .ok (.goto (-77), 3) := by decide +kernel
theorem dX12_getsByOne_162 : decode cX12_getsByOne 162 = .ok (.iinc 4 1, 3) := by decide +kernel
theorem dX12_getsByOne_165 : decode cX12_getsByOne 165 = .ok (.goto (-162), 3) := by decide +kernel
theorem dX12_getsByOne_168 : decode cX12_getsByOne 168 = .ok (.iconst 0, 1) := by decide +kernel
theorem dX12_getsByOne_169 : decode cX12_getsByOne 169 = .ok (.ireturn, 1) := by decide +kernel
theorem dX12_getsByTwo_0 : decode cX12_getsByTwo 0 = .ok (.iconst 0, 1) := by decide +kernel
theorem dX12_getsByTwo_1 : decode cX12_getsByTwo 1 = .ok (.istore 4, 2) := by decide +kernel
theorem dX12_getsByTwo_3 : decode cX12_getsByTwo 3 = .ok (.iload 4, 2) := by decide +kernel
theorem dX12_getsByTwo_5 : decode cX12_getsByTwo 5 = .ok (.aload_n 0, 1) := by decide +kernel
theorem dX12_getsByTwo_6 : decode cX12_getsByTwo 6 = .ok (.getfield 7, 3) := by decide +kernel
theorem dX12_getsByTwo_9 : decode cX12_getsByTwo 9 = .ok (.iconst 1, 1) := by decide +kernel
theorem dX12_getsByTwo_10 : decode cX12_getsByTwo 10 = .ok (.iaload, 1) := by decide +kernel
theorem dX12_getsByTwo_11 : decode cX12_getsByTwo 11 = .ok (.if_icmp .ge 166, 3) := by decide +kernel
theorem dX12_getsByTwo_14 : decode cX12_getsByTwo 14 = .ok (.iload_n 2, 1) := by decide +kernel
theorem dX12_getsByTwo_15 : decode cX12_getsByTwo 15 = .ok (.aload_n 0, 1) := by decide +kernel
theorem dX12_getsByTwo_16 : decode cX12_getsByTwo 16 = .ok (.iload 4, 2) := by decide +kernel
theorem dX12_getsByTwo_18 : decode cX12_getsByTwo 18 = .ok (.iconst 2, 1) := by decide +kernel
theorem dX12_getsByTwo_19 : decode cX12_getsByTwo 19 = .ok (.invokevirtual 90, 3) := by decide +kernel
theorem dX12_getsByTwo_22 : decode cX12_getsByTwo 22 = .ok (.ishr, 1) := by decide +kernel
theorem dX12_getsByTwo_23 : decode cX12_getsByTwo 23 = .ok (.iconst 1, 1) := by decide +kernel
theorem dX12_getsByTwo_24 : decode cX12_getsByTwo 24 = .ok (.iand, 1) := by decide +kernel
theorem dX12_getsByTwo_25 : decode cX12_getsByTwo 25 = .ok (.iconst 1, 1) := by decide +kernel
theorem dX12_getsByTwo_26 : decode cX12_getsByTwo 26 = .ok (.if_icmp .ne 17, 3) := by decide +kernel
theorem dX12_getsByTwo_29 : decode cX12_getsByTwo 29 = .ok (.aload_n 0, 1) := by decide +kernel
theorem dX12_getsByTwo_30 : decode cX12_getsByTwo 30 = .ok (.iload_n 1, 1) := by decide +kernel
theorem dX12_getsByTwo_31 : decode cX12_getsByTwo 31 = .ok (.iload 4, 2) := by decide +kernel
theorem dX12_getsByTwo_33 : decode cX12_getsByTwo 33 = .ok (.invokevirtual 162, 3) := by decide +kernel
theorem dX12_getsByTwo_36 : decode cX12_getsByTwo 36 = .ok (.ifCond .eq 7, 3) := by decide +kernel
theorem dX12_getsByTwo_39 : decode cX12_getsByTwo 39 = .ok (.iconst 1, 1) := by decide +kernel
theorem dX12_getsByTwo_40 : decode cX12_getsByTwo 40 = .ok (.goto 4, 3) := by decide +kernel
theorem dX12_getsByTwo_43 : decode cX12_getsByTwo 43 = .ok (.iconst 0, 1) := by decide +kernel
theorem dX12_getsByTwo_44 : decode cX12_getsByTwo 44 = .ok (.istore 5, 2) := by decide +kernel
theorem dX12_getsByTwo_46 : decode cX12_getsByTwo 46 = .ok (.aload_n 0, 1) := by decide +kernel
theorem dX12_getsByTwo_47 : decode cX12_getsByTwo 47 = .ok (.iload 4, 2) := by decide +kernel
theorem dX12_getsByTwo_49 : decode cX12_getsByTwo 49 = .ok (.iconst 3, 1) := by decide +kernel
theorem dX12_getsByTwo_50 : decode cX12_getsByTwo 50 = .ok (.invokevirtual 90, 3) := by decide +kernel
theorem dX12_getsByTwo_53 : decode cX12_getsByTwo 53 = .ok (.istore 6, 2) := by decide +kernel
theorem dX12_getsByTwo_55 : decode cX12_getsByTwo 55 = .ok (.iload 5, 2) := by decide +kernel
theorem dX12_getsByTwo_57 : decode cX12_getsByTwo 57 = .ok (.ifCond .eq 19, 3) := by decide +kernel
theorem dX12_getsByTwo_60 : decode cX12_getsByTwo 60 = .ok (.aload_n 0, 1) := by decide +kernel
theorem dX12_getsByTwo_61 : decode cX12_getsByTwo 61 = .ok (.iload 4, 2) := by decide +kernel
theorem dX12_getsByTwo_63 : decode cX12_getsByTwo 63 = .ok (.invokevirtual 149, 3) := by decide +kernel
theorem dX12_getsByTwo_66 : decode cX12_getsByTwo 66 = .ok (.iconst 1, 1) := by decide +kernel
theorem dX12_getsByTwo_67 : decode cX12_getsByTwo 67 = .ok (.iload 6, 2) := by decide +kernel
theorem dX12_getsByTwo_69 : decode cX12_getsByTwo 69 = .ok (.ishl, 1) := by decide +kernel
theorem dX12_getsByTwo_70 : decode cX12_getsByTwo 70 = .ok (.iconst (-1), 1) := by decide +kernel
theorem dX12_getsByTwo_71 : decode cX12_getsByTwo 71 = .ok (.ixor, 1) := by decide +kernel
theorem dX12_getsByTwo_72 : decode cX12_getsByTwo 72 = .ok (.iand, 1) := by decide +kernel
theorem dX12_getsByTwo_73 : decode cX12_getsByTwo 73 = .ok (.goto 4, 3) := by decide +kernel
theorem dX12_getsByTwo_76 : decode cX12_getsByTwo 76 = .ok (.iconst 0, 1) := by decide +kernel
theorem dX12_getsByTwo_77 : decode cX12_getsByTwo 77 = .ok (.istore 7, 2) := by decide +kernel
theorem dX12_getsByTwo_79 : decode cX12_getsByTwo 79 = .ok (.iconst 0, 1) := by decide +kernel
theorem dX12_getsByTwo_80 : decode cX12_getsByTwo 80 = .ok (.istore 8, 2) := by decide +kernel
theorem dX12_getsByTwo_82 : decode cX12_getsByTwo 82 = .ok (.iload 8, 2) := by decide +kernel
theorem dX12_getsByTwo_84 : decode cX12_getsByTwo 84 = .ok (.aload_n 0, 1) := by decide +kernel
theorem dX12_getsByTwo_85 : decode cX12_getsByTwo 85 = .ok (.getfield 7, 3) := by decide +kernel
theorem dX12_getsByTwo_88 : decode cX12_getsByTwo 88 = .ok (.iconst 0, 1) := by decide +kernel
theorem dX12_getsByTwo_89 : decode cX12_getsByTwo 89 = .ok (.iaload, 1) := by decide +kernel
theorem dX12_getsByTwo_90 : decode cX12_getsByTwo 90 = .ok (.if_icmp .ge 81, 3) := by decide +kernel
theorem dX12_getsByTwo_93 : decode cX12_getsByTwo 93 = .ok (.iload 7, 2) := by decide +kernel
theorem dX12_getsByTwo_95 : decode cX12_getsByTwo 95 = .ok (.iload 8, 2) := by decide +kernel
theorem dX12_getsByTwo_97 : decode cX12_getsByTwo 97 = .ok (.ishr, 1) := by decide +kernel
theorem dX12_getsByTwo_98 : decode cX12_getsByTwo 98 = .ok (.iconst 1, 1) := by decide +kernel
theorem dX12_getsByTwo_99 : decode cX12_getsByTwo 99 = .ok (.iand, 1) := by decide +kernel
theorem dX12_getsByTwo_100 : decode cX12_getsByTwo 100 = .ok (.iconst 1, 1) := by decide +kernel
theorem dX12_getsByTwo_101 : decode cX12_getsByTwo 101 = .ok (.if_icmp .ne 64, 3) := by decide +kernel
theorem dX12_getsByTwo_104 : decode cX12_getsByTwo 104 = .ok (.aload_n 0, 1) := by decide +kernel
theorem dX12_getsByTwo_105 : decode cX12_getsByTwo 105 = .ok (.iload 4, 2) := by decide +kernel
theorem dX12_getsByTwo_107 : decode cX12_getsByTwo 107 = .ok (.iconst 3, 1) := by decide +kernel
theorem dX12_getsByTwo_108 : decode cX12_getsByTwo 108 = .ok (.iload 8, 2) := by decide +kernel
theorem dX12_getsByTwo_110 : decode cX12_getsByTwo 110 = .ok (.invokevirtual 108, 3) := by decide +kernel
theorem dX12_getsByTwo_113 : decode cX12_getsByTwo 113 = .ok (.aload_n 0, 1) := by decide +kernel
theorem dX12_getsByTwo_114 : decode cX12_getsByTwo 114 = .ok (.iload 4, 2) := by decide +kernel
theorem dX12_getsByTwo_116 : decode cX12_getsByTwo 116 = .ok (.iconst 4, 1) := by decide +kernel
theorem dX12_getsByTwo_117 : decode cX12_getsByTwo 117 = .ok (.iconst 1, 1) := by decide +kernel
theorem dX12_getsByTwo_118 : decode cX12_getsByTwo 118 = .ok (.invokevirtual 108, 3) := by decide +kernel
theorem dX12_getsByTwo_121 : decode cX12_getsByTwo 121 = .ok (.aload_n 0, 1) := by decide +kernel
theorem dX12_getsByTwo_122 : decode cX12_getsByTwo 122 = .ok (.iload_n 1, 1) := by decide +kernel
theorem dX12_getsByTwo_123 : decode cX12_getsByTwo 123 = .ok (.aload_n 0, 1) := by decide +kernel
theorem dX12_getsByTwo_124 : decode cX12_getsByTwo 124 = .ok (.aload_n 0, 1) := by decide +kernel
theorem dX12_getsByTwo_125 : decode cX12_getsByTwo 125 = .ok (.iload 4, 2) := by decide +kernel
theorem dX12_getsByTwo_127 : decode cX12_getsByTwo 127 = .ok (.iconst 2, 1) := by decide +kernel
theorem dX12_getsByTwo_128 : decode cX12_getsByTwo 128 = .ok (.invokevirtual 90, 3) := by decide +kernel
theorem dX12_getsByTwo_131 : decode cX12_getsByTwo 131 = .ok (.iconst (-1), 1) := by decide +kernel
theorem dX12_getsByTwo_132 : decode cX12_getsByTwo 132 = .ok (.invokevirtual 186, 3) := by decide +kernel
theorem dX12_getsByTwo_135 : decode cX12_getsByTwo 135 = .ok (.iload_n 3, 1) := by decide +kernel
theorem dX12_getsByTwo_136 : decode cX12_getsByTwo 136 = .ok (.invokevirtual 192, 3) := by decide +kernel
theorem dX12_getsByTwo_139 : decode cX12_getsByTwo 139 = .ok (.istore 9, 2) := by decide +kernel
theorem dX12_getsByTwo_141 : decode cX12_getsByTwo 141 = .ok (.aload_n 0, 1) := by decide +kernel
theorem dX12_getsByTwo_142 : decode cX12_getsByTwo 142 = .ok (.iload 4, 2) := by decide +kernel
theorem dX12_getsByTwo_144 : decode cX12_getsByTwo 144 = .ok (.iconst 3, 1) := by decide +kernel
theorem dX12_getsByTwo_145 : decode cX12_getsByTwo 145 = .ok (.iload 6, 2) := by decide +kernel
theorem dX12_getsByTwo_147 : decode cX12_getsByTwo 147 = .ok (.invokevirtual 108, 3) := by decide +kernel
theorem dX12_getsByTwo_150 : decode cX12_getsByTwo 150 = .ok (.aload_n 0, 1) := by decide +kernel
theorem dX12_getsByTwo_151 : decode cX12_getsByTwo 151 = .ok (.iload 4, 2) := by decide +kernel
theorem dX12_getsByTwo_153 : decode cX12_getsByTwo 153 = .ok (.iconst 4, 1) := by decide +kernel
theorem dX12_getsByTwo_154 : decode cX12_getsByTwo 154 = .ok (.iconst 0, 1) := by decide +kernel
theorem dX12_getsByTwo_155 : decode cX12_getsByTwo 155 = .ok (.invokevirtual 108, 3) := by decide +kernel
theorem dX12_getsByTwo_158 : decode cX12_getsByTwo 158 = .ok (.iload 9, 2) := by decide +kernel
theorem dX12_getsByTwo_160 : decode cX12_getsByTwo 160 = .ok (.ifCond .eq 5, 3) := by decide +kernel
theorem dX12_getsByTwo_163 : decode cX12_getsByTwo 163 = .ok (.iconst 1, 1) := by decide +kernel
theorem dX12_getsByTwo_164 : decode cX12_getsByTwo 164 = .ok (.ireturn, 1) := by decide +kernel
theorem dX12_getsByTwo_165 : decode cX12_getsByTwo 165 = .ok (.iinc 8 1, 3) := by decide +kernel
theorem dX12_getsByTwo_168 : decode cX12_getsByTwo 168 = .ok (.goto (-86), 3) := by decide +kernel
theorem dX12_getsByTwo_171 : decode cX12_getsByTwo 171 = .ok (.iinc 4 1, 3) := by decide +kernel
theorem dX12_getsByTwo_174 : decode cX12_getsByTwo 174 = .ok (.goto (-171), 3) := by decide +kernel
theorem dX12_getsByTwo_177 : decode cX12_getsByTwo 177 = .ok (.iconst 0, 1) := by decide +kernel
theorem dX12_getsByTwo_178 : decode cX12_getsByTwo 178 = .ok (.ireturn, 1) := by decide +kernel
theorem dX12_fewest_0 : decode cX12_fewest 0 = .ok (.aload_n 0, 1) := by decide +kernel
theorem dX12_fewest_1 : decode cX12_fewest 1 = .ok (.iload_n 1, 1) := by decide +kernel
theorem dX12_fewest_2 : decode cX12_fewest 2 = .ok (.invokevirtual 156, 3) := by decide +kernel
theorem dX12_fewest_5 : decode cX12_fewest 5 = .ok (.ifCond .eq 11, 3) := by decide +kernel
theorem dX12_fewest_8 : decode cX12_fewest 8 = .ok (.aload_n 0, 1) := by decide +kernel
theorem dX12_fewest_9 : decode cX12_fewest 9 = .ok (.iload_n 2, 1) := by decide +kernel
theorem dX12_fewest_10 : decode cX12_fewest 10 = .ok (.invokevirtual 84, 3) := by decide +kernel
theorem dX12_fewest_13 : decode cX12_fewest 13 = .ok (.ifCond .ne 6, 3) := by decide +kernel
theorem dX12_fewest_16 : decode cX12_fewest 16 = .ok (.ldc 78, 2) := by decide +kernel
theorem dX12_fewest_18 : decode cX12_fewest 18 = .ok (.ireturn, 1) := by decide +kernel
theorem dX12_fewest_19 : decode cX12_fewest 19 = .ok (.aload_n 0, 1) := by decide +kernel
theorem dX12_fewest_20 : decode cX12_fewest 20 = .ok (.aload_n 0, 1) := by decide +kernel
theorem dX12_fewest_21 : decode cX12_fewest 21 = .ok (.iload_n 1, 1) := by decide +kernel
theorem dX12_fewest_22 : decode cX12_fewest 22 = .ok (.invokevirtual 70, 3) := by decide +kernel
theorem dX12_fewest_25 : decode cX12_fewest 25 = .ok (.iconst (-1), 1) := by decide +kernel
theorem dX12_fewest_26 : decode cX12_fewest 26 = .ok (.invokevirtual 186, 3) := by decide +kernel
theorem dX12_fewest_29 : decode cX12_fewest 29 = .ok (.istore_n 3, 1) := by decide +kernel
theorem dX12_fewest_30 : decode cX12_fewest 30 = .ok (.iload_n 3, 1) := by decide +kernel
theorem dX12_fewest_31 : decode cX12_fewest 31 = .ok (.iload_n 2, 1) := by decide +kernel
theorem dX12_fewest_32 : decode cX12_fewest 32 = .ok (.ishr, 1) := by decide +kernel
theorem dX12_fewest_33 : decode cX12_fewest 33 = .ok (.iconst 1, 1) := by decide +kernel
theorem dX12_fewest_34 : decode cX12_fewest 34 = .ok (.iand, 1) := by decide +kernel
theorem dX12_fewest_35 : decode cX12_fewest 35 = .ok (.iconst 1, 1) := by decide +kernel
theorem dX12_fewest_36 : decode cX12_fewest 36 = .ok (.if_icmp .ne 5, 3) := by decide +kernel
theorem dX12_fewest_39 : decode cX12_fewest 39 = .ok (.iconst 0, 1) := by decide +kernel
theorem dX12_fewest_40 : decode cX12_fewest 40 = .ok (.ireturn, 1) := by decide +kernel
theorem dX12_fewest_41 : decode cX12_fewest 41 = .ok (.aload_n 0, 1) := by decide +kernel
theorem dX12_fewest_42 : decode cX12_fewest 42 = .ok (.iload_n 1, 1) := by decide +kernel
theorem dX12_fewest_43 : decode cX12_fewest 43 = .ok (.iload_n 3, 1) := by decide +kernel
theorem dX12_fewest_44 : decode cX12_fewest 44 = .ok (.iload_n 2, 1) := by decide +kernel
theorem dX12_fewest_45 : decode cX12_fewest 45 = .ok (.invokevirtual 192, 3) := by decide +kernel
theorem dX12_fewest_48 : decode cX12_fewest 48 = .ok (.ifCond .eq 7, 3) := by decide +kernel
theorem dX12_fewest_51 : decode cX12_fewest 51 = .ok (.iconst 1, 1) := by decide +kernel
theorem dX12_fewest_52 : decode cX12_fewest 52 = .ok (.goto 19, 3) := by decide +kernel
theorem dX12_fewest_55 : decode cX12_fewest 55 = .ok (.aload_n 0, 1) := by decide +kernel
theorem dX12_fewest_56 : decode cX12_fewest 56 = .ok (.iload_n 1, 1) := by decide +kernel
theorem dX12_fewest_57 : decode cX12_fewest 57 = .ok (.iload_n 3, 1) := by decide +kernel
theorem dX12_fewest_58 : decode cX12_fewest 58 = .ok (.iload_n 2, 1) := by decide +kernel
theorem dX12_fewest_59 : decode cX12_fewest 59 = .ok (.invokevirtual 196, 3) := by decide +kernel
theorem dX12_fewest_62 : decode cX12_fewest 62 = .ok (.ifCond .eq 7, 3) := by decide +kernel
theorem dX12_fewest_65 : decode cX12_fewest 65 = .ok (.iconst 2, 1) := by decide +kernel
theorem dX12_fewest_66 : decode cX12_fewest 66 = .ok (.goto 5, 3) := by decide +kernel
theorem dX12_fewest_69 : decode cX12_fewest 69 = .ok (.ldc 64, 2) := by decide +kernel
theorem dX12_fewest_71 : decode cX12_fewest 71 = .ok (.ireturn, 1) := by decide +kernel
theorem dX12_findHelp_0 : decode cX12_findHelp 0 = .ok (.aload_n 0, 1) := by decide +kernel
theorem dX12_findHelp_1 : decode cX12_findHelp 1 = .ok (.iconst (-1), 1) := by decide +kernel
theorem dX12_findHelp_2 : decode cX12_findHelp 2 = .ok (.putfield 199, 3) := by decide +kernel
theorem dX12_findHelp_5 : decode cX12_findHelp 5 = .ok (.aload_n 0, 1) := by decide +kernel
theorem dX12_findHelp_6 : decode cX12_findHelp 6 = .ok (.aload_n 0, 1) := by decide +kernel
theorem dX12_findHelp_7 : decode cX12_findHelp 7 = .ok (.iconst 0, 1) := by decide +kernel
theorem dX12_findHelp_8 : decode cX12_findHelp 8 = .ok (.iconst (-1), 1) := by decide +kernel
theorem dX12_findHelp_9 : decode cX12_findHelp 9 = .ok (.invokevirtual 186, 3) := by decide +kernel
theorem dX12_findHelp_12 : decode cX12_findHelp 12 = .ok (.invokestatic 203, 3) := by decide +kernel
theorem dX12_findHelp_15 : decode cX12_findHelp 15 = .ok (.putfield 206, 3) := by decide +kernel
theorem dX12_findHelp_18 : decode cX12_findHelp 18 = .ok (.iconst 0, 1) := by decide +kernel
theorem dX12_findHelp_19 : decode cX12_findHelp 19 = .ok (.istore_n 1, 1) := by decide +kernel
theorem dX12_findHelp_20 : decode cX12_findHelp 20 = .ok (.iload_n 1, 1) := by decide +kernel
theorem dX12_findHelp_21 : decode cX12_findHelp 21 = .ok (.aload_n 0, 1) := by decide +kernel
theorem dX12_findHelp_22 : decode cX12_findHelp 22 = .ok (.getfield 7, 3) := by decide +kernel
theorem dX12_findHelp_25 : decode cX12_findHelp 25 = .ok (.iconst 1, 1) := by decide +kernel
theorem dX12_findHelp_26 : decode cX12_findHelp 26 = .ok (.iaload, 1) := by decide +kernel
theorem dX12_findHelp_27 : decode cX12_findHelp 27 = .ok (.if_icmp .ge 104, 3) := by decide +kernel
theorem dX12_findHelp_30 : decode cX12_findHelp 30 = .ok (.aload_n 0, 1) := by decide +kernel
theorem dX12_findHelp_31 : decode cX12_findHelp 31 = .ok (.iload_n 1, 1) := by decide +kernel
theorem dX12_findHelp_32 : decode cX12_findHelp 32 = .ok (.iconst 3, 1) := by decide +kernel
theorem dX12_findHelp_33 : decode cX12_findHelp 33 = .ok (.invokevirtual 90, 3) := by decide +kernel
theorem dX12_findHelp_36 : decode cX12_findHelp 36 = .ok (.istore_n 2, 1) := by decide +kernel
theorem dX12_findHelp_37 : decode cX12_findHelp 37 = .ok (.aload_n 0, 1) := by decide +kernel
theorem dX12_findHelp_38 : decode cX12_findHelp 38 = .ok (.iload_n 1, 1) := by decide +kernel
theorem dX12_findHelp_39 : decode cX12_findHelp 39 = .ok (.invokevirtual 149, 3) := by decide +kernel
theorem dX12_findHelp_42 : decode cX12_findHelp 42 = .ok (.istore_n 3, 1) := by decide +kernel
theorem dX12_findHelp_43 : decode cX12_findHelp 43 = .ok (.iconst 0, 1) := by decide +kernel
theorem dX12_findHelp_44 : decode cX12_findHelp 44 = .ok (.istore 4, 2) := by decide +kernel
theorem dX12_findHelp_46 : decode cX12_findHelp 46 = .ok (.iload 4, 2) := by decide +kernel
theorem dX12_findHelp_48 : decode cX12_findHelp 48 = .ok (.aload_n 0, 1) := by decide +kernel
theorem dX12_findHelp_49 : decode cX12_findHelp 49 = .ok (.getfield 7, 3) := by decide +kernel
theorem dX12_findHelp_52 : decode cX12_findHelp 52 = .ok (.iconst 0, 1) := by decide +kernel
theorem dX12_findHelp_53 : decode cX12_findHelp 53 = .ok (.iaload, 1) := by decide +kernel
theorem dX12_findHelp_54 : decode cX12_findHelp 54 = .ok (.if_icmp .ge 64, 3) := by decide +kernel
theorem dX12_findHelp_57 : decode cX12_findHelp 57 = .ok (.iload_n 3, 1) := by decide +kernel
theorem dX12_findHelp_58 : decode cX12_findHelp 58 = .ok (.iload 4, 2) := by decide +kernel
theorem dX12_findHelp_60 : decode cX12_findHelp 60 = .ok (.ishr, 1) := by decide +kernel
theorem dX12_findHelp_61 : decode cX12_findHelp 61 = .ok (.iconst 1, 1) := by decide +kernel
theorem dX12_findHelp_62 : decode cX12_findHelp 62 = .ok (.iand, 1) := by decide +kernel
theorem dX12_findHelp_63 : decode cX12_findHelp 63 = .ok (.iconst 1, 1) := by decide +kernel
theorem dX12_findHelp_64 : decode cX12_findHelp 64 = .ok (.if_icmp .ne 48, 3) := by decide +kernel
theorem dX12_findHelp_67 : decode cX12_findHelp 67 = .ok (.aload_n 0, 1) := by decide +kernel
theorem dX12_findHelp_68 : decode cX12_findHelp 68 = .ok (.iload_n 1, 1) := by decide +kernel
theorem dX12_findHelp_69 : decode cX12_findHelp 69 = .ok (.iconst 3, 1) := by decide +kernel
theorem dX12_findHelp_70 : decode cX12_findHelp 70 = .ok (.iload 4, 2) := by decide +kernel
theorem dX12_findHelp_72 : decode cX12_findHelp 72 = .ok (.invokevirtual 108, 3) := by decide +kernel
theorem dX12_findHelp_75 : decode cX12_findHelp 75 = .ok (.aload_n 0, 1) := by decide +kernel
theorem dX12_findHelp_76 : decode cX12_findHelp 76 = .ok (.iconst 0, 1) := by decide +kernel
theorem dX12_findHelp_77 : decode cX12_findHelp 77 = .ok (.iconst (-1), 1) := by decide +kernel
theorem dX12_findHelp_78 : decode cX12_findHelp 78 = .ok (.invokevirtual 186, 3) := by decide +kernel
theorem dX12_findHelp_81 : decode cX12_findHelp 81 = .ok (.invokestatic 203, 3) := by decide +kernel
theorem dX12_findHelp_84 : decode cX12_findHelp 84 = .ok (.istore 5, 2) := by decide +kernel
theorem dX12_findHelp_86 : decode cX12_findHelp 86 = .ok (.iload 5, 2) := by decide +kernel
theorem dX12_findHelp_88 : decode cX12_findHelp 88 = .ok (.aload_n 0, 1) := by decide +kernel
theorem dX12_findHelp_89 : decode cX12_findHelp 89 = .ok (.getfield 206, 3) := by decide +kernel
theorem dX12_findHelp_92 : decode cX12_findHelp 92 = .ok (.if_icmp .le 20, 3) := by decide +kernel
theorem dX12_findHelp_95 : decode cX12_findHelp 95 = .ok (.aload_n 0, 1) := by decide +kernel
theorem dX12_findHelp_96 : decode cX12_findHelp 96 = .ok (.iload_n 1, 1) := by decide +kernel
theorem dX12_findHelp_97 : decode cX12_findHelp 97 = .ok (.putfield 199, 3) := by decide +kernel
theorem dX12_findHelp_100 : decode cX12_findHelp 100 = .ok (.aload_n 0, 1) := by decide +kernel
theorem dX12_findHelp_101 : decode cX12_findHelp 101 = .ok (.iload 4, 2) := by decide +kernel
theorem dX12_findHelp_103 : decode cX12_findHelp 103 = .ok (.putfield 209, 3) := by decide +kernel
theorem dX12_findHelp_106 : decode cX12_findHelp 106 = .ok (.aload_n 0, 1) := by decide +kernel
theorem dX12_findHelp_107 : decode cX12_findHelp 107 = .ok (.iload 5, 2) := by decide +kernel
theorem dX12_findHelp_109 : decode cX12_findHelp 109 = .ok (.putfield 206, 3) := by decide +kernel
theorem dX12_findHelp_112 : decode cX12_findHelp 112 = .ok (.iinc 4 1, 3) := by decide +kernel
theorem dX12_findHelp_115 : decode cX12_findHelp 115 = .ok (.goto (-69), 3) := by decide +kernel
theorem dX12_findHelp_118 : decode cX12_findHelp 118 = .ok (.aload_n 0, 1) := by decide +kernel
theorem dX12_findHelp_119 : decode cX12_findHelp 119 = .ok (.iload_n 1, 1) := by decide +kernel
theorem dX12_findHelp_120 : decode cX12_findHelp 120 = .ok (.iconst 3, 1) := by decide +kernel
theorem dX12_findHelp_121 : decode cX12_findHelp 121 = .ok (.iload_n 2, 1) := by decide +kernel
theorem dX12_findHelp_122 : decode cX12_findHelp 122 = .ok (.invokevirtual 108, 3) := by decide +kernel
theorem dX12_findHelp_125 : decode cX12_findHelp 125 = .ok (.iinc 1 1, 3) := by decide +kernel
theorem dX12_findHelp_128 : decode cX12_findHelp 128 = .ok (.goto (-108), 3) := by decide +kernel
theorem dX12_findHelp_131 : decode cX12_findHelp 131 = .ok (.return_, 1) := by decide +kernel
theorem dX12_help_0 : decode cX12_help 0 = .ok (.iload_n 1, 1) := by decide +kernel
theorem dX12_help_1 : decode cX12_help 1 = .ok (.i2l, 1) := by decide +kernel
theorem dX12_help_2 : decode cX12_help 2 = .ok (.lconst 0, 1) := by decide +kernel
theorem dX12_help_3 : decode cX12_help 3 = .ok (.ldc2_w 177, 3) := by decide +kernel
theorem dX12_help_6 : decode cX12_help 6 = .ok (.invokestatic 65, 3) := by decide +kernel
theorem dX12_help_9 : decode cX12_help 9 = .ok (.ifCond .ne 6, 3) := by decide +kernel
theorem dX12_help_12 : decode cX12_help 12 = .ok (.ldc 78, 2) := by decide +kernel
theorem dX12_help_14 : decode cX12_help 14 = .ok (.ireturn, 1) := by decide +kernel
theorem dX12_help_15 : decode cX12_help 15 = .ok (.aload_n 0, 1) := by decide +kernel
theorem dX12_help_16 : decode cX12_help 16 = .ok (.getfield 7, 3) := by decide +kernel
theorem dX12_help_19 : decode cX12_help 19 = .ok (.iconst 0, 1) := by decide +kernel
theorem dX12_help_20 : decode cX12_help 20 = .ok (.iaload, 1) := by decide +kernel
theorem dX12_help_21 : decode cX12_help 21 = .ok (.ifCond .ne 6, 3) := by decide +kernel
theorem dX12_help_24 : decode cX12_help 24 = .ok (.ldc 64, 2) := by decide +kernel
theorem dX12_help_26 : decode cX12_help 26 = .ok (.ireturn, 1) := by decide +kernel
theorem dX12_help_27 : decode cX12_help 27 = .ok (.aload_n 0, 1) := by decide +kernel
theorem dX12_help_28 : decode cX12_help 28 = .ok (.invokevirtual 212, 3) := by decide +kernel
theorem dX12_help_31 : decode cX12_help 31 = .ok (.aload_n 0, 1) := by decide +kernel
theorem dX12_help_32 : decode cX12_help 32 = .ok (.getfield 199, 3) := by decide +kernel
theorem dX12_help_35 : decode cX12_help 35 = .ok (.ifCond .ge 8, 3) := by decide +kernel
theorem dX12_help_38 : decode cX12_help 38 = .ok (.ldc 64, 2) := by decide +kernel
theorem dX12_help_40 : decode cX12_help 40 = .ok (.goto 30, 3) := by decide +kernel
theorem dX12_help_43 : decode cX12_help 43 = .ok (.iload_n 1, 1) := by decide +kernel
theorem dX12_help_44 : decode cX12_help 44 = .ok (.ifCond .ne 10, 3) := by decide +kernel
theorem dX12_help_47 : decode cX12_help 47 = .ok (.aload_n 0, 1) := by decide +kernel
theorem dX12_help_48 : decode cX12_help 48 = .ok (.getfield 199, 3) := by decide +kernel
theorem dX12_help_51 : decode cX12_help 51 = .ok (.goto 19, 3) := by decide +kernel
theorem dX12_help_54 : decode cX12_help 54 = .ok (.iload_n 1, 1) := by decide +kernel
theorem dX12_help_55 : decode cX12_help 55 = .ok (.iconst 1, 1) := by decide +kernel
theorem dX12_help_56 : decode cX12_help 56 = .ok (.if_icmp .ne 10, 3) := by decide +kernel
theorem dX12_help_59 : decode cX12_help 59 = .ok (.aload_n 0, 1) := by decide +kernel
theorem dX12_help_60 : decode cX12_help 60 = .ok (.getfield 209, 3) := by decide +kernel
theorem dX12_help_63 : decode cX12_help 63 = .ok (.goto 7, 3) := by decide +kernel
theorem dX12_help_66 : decode cX12_help 66 = .ok (.aload_n 0, 1) := by decide +kernel
theorem dX12_help_67 : decode cX12_help 67 = .ok (.getfield 206, 3) := by decide +kernel
theorem dX12_help_70 : decode cX12_help 70 = .ok (.ireturn, 1) := by decide +kernel
theorem dX12_feed_0 : decode cX12_feed 0 = .ok (.aload_n 0, 1) := by decide +kernel
theorem dX12_feed_1 : decode cX12_feed 1 = .ok (.getfield 215, 3) := by decide +kernel
theorem dX12_feed_4 : decode cX12_feed 4 = .ok (.bipush 12, 2) := by decide +kernel
theorem dX12_feed_6 : decode cX12_feed 6 = .ok (.iadd, 1) := by decide +kernel
theorem dX12_feed_7 : decode cX12_feed 7 = .ok (.bipush 96, 2) := by decide +kernel
theorem dX12_feed_9 : decode cX12_feed 9 = .ok (.if_icmp .le 6, 3) := by decide +kernel
theorem dX12_feed_12 : decode cX12_feed 12 = .ok (.ldc 79, 2) := by decide +kernel
theorem dX12_feed_14 : decode cX12_feed 14 = .ok (.ireturn, 1) := by decide +kernel
theorem dX12_feed_15 : decode cX12_feed 15 = .ok (.iconst 0, 1) := by decide +kernel
theorem dX12_feed_16 : decode cX12_feed 16 = .ok (.istore 4, 2) := by decide +kernel
theorem dX12_feed_18 : decode cX12_feed 18 = .ok (.iload 4, 2) := by decide +kernel
theorem dX12_feed_20 : decode cX12_feed 20 = .ok (.bipush 12, 2) := by decide +kernel
theorem dX12_feed_22 : decode cX12_feed 22 = .ok (.if_icmp .ge 69, 3) := by decide +kernel
theorem dX12_feed_25 : decode cX12_feed 25 = .ok (.iload 4, 2) := by decide +kernel
theorem dX12_feed_27 : decode cX12_feed 27 = .ok (.iconst 4, 1) := by decide +kernel
theorem dX12_feed_28 : decode cX12_feed 28 = .ok (.if_icmp .ge 7, 3) := by decide +kernel
theorem dX12_feed_31 : decode cX12_feed 31 = .ok (.iload_n 1, 1) := by decide +kernel
theorem dX12_feed_32 : decode cX12_feed 32 = .ok (.goto 15, 3) := by decide +kernel
theorem dX12_feed_35 : decode cX12_feed 35 = .ok (.iload 4, 2) := by decide +kernel
theorem dX12_feed_37 : decode cX12_feed 37 = .ok (.bipush 8, 2) := by decide +kernel
theorem dX12_feed_39 : decode cX12_feed 39 = .ok (.if_icmp .ge 7, 3) := by decide +kernel
theorem dX12_feed_42 : decode cX12_feed 42 = .ok (.iload_n 2, 1) := by decide +kernel
theorem dX12_feed_43 : decode cX12_feed 43 = .ok (.goto 4, 3) := by decide +kernel
theorem dX12_feed_46 : decode cX12_feed 46 = .ok (.iload_n 3, 1) := by decide +kernel
theorem dX12_feed_47 : decode cX12_feed 47 = .ok (.istore 5, 2) := by decide +kernel
theorem dX12_feed_49 : decode cX12_feed 49 = .ok (.aload_n 0, 1) := by decide +kernel
theorem dX12_feed_50 : decode cX12_feed 50 = .ok (.getfield 46, 3) := by decide +kernel
theorem dX12_feed_53 : decode cX12_feed 53 = .ok (.aload_n 0, 1) := by decide +kernel
theorem dX12_feed_54 : decode cX12_feed 54 = .ok (.getfield 215, 3) := by decide +kernel
theorem dX12_feed_57 : decode cX12_feed 57 = .ok (.iload 5, 2) := by decide +kernel
theorem dX12_feed_59 : decode cX12_feed 59 = .ok (.bipush 24, 2) := by decide +kernel
theorem dX12_feed_61 : decode cX12_feed 61 = .ok (.bipush 8, 2) := by decide +kernel
theorem dX12_feed_63 : decode cX12_feed 63 = .ok (.iload 4, 2) := by decide +kernel
theorem dX12_feed_65 : decode cX12_feed 65 = .ok (.iconst 4, 1) := by decide +kernel
theorem dX12_feed_66 : decode cX12_feed 66 = .ok (.irem, 1) := by decide +kernel
theorem dX12_feed_67 : decode cX12_feed 67 = .ok (.imul, 1) := by decide +kernel
theorem dX12_feed_68 : decode cX12_feed 68 = .ok (.isub, 1) := by decide +kernel
theorem dX12_feed_69 : decode cX12_feed 69 = .ok (.ishr, 1) := by decide +kernel
theorem dX12_feed_70 : decode cX12_feed 70 = .ok (.sipush 255, 3) := by decide +kernel
theorem dX12_feed_73 : decode cX12_feed 73 = .ok (.iand, 1) := by decide +kernel
theorem dX12_feed_74 : decode cX12_feed 74 = .ok (.iastore, 1) := by decide +kernel
theorem dX12_feed_75 : decode cX12_feed 75 = .ok (.aload_n 0, 1) := by decide +kernel
theorem dX12_feed_76 : decode cX12_feed 76 = .ok (.dup, 1) := by decide +kernel
theorem dX12_feed_77 : decode cX12_feed 77 = .ok (.getfield 215, 3) := by decide +kernel
theorem dX12_feed_80 : decode cX12_feed 80 = .ok (.iconst 1, 1) := by decide +kernel
theorem dX12_feed_81 : decode cX12_feed 81 = .ok (.iadd, 1) := by decide +kernel
theorem dX12_feed_82 : decode cX12_feed 82 = .ok (.putfield 215, 3) := by decide +kernel
theorem dX12_feed_85 : decode cX12_feed 85 = .ok (.iinc 4 1, 3) := by decide +kernel
theorem dX12_feed_88 : decode cX12_feed 88 = .ok (.goto (-70), 3) := by decide +kernel
theorem dX12_feed_91 : decode cX12_feed 91 = .ok (.aload_n 0, 1) := by decide +kernel
theorem dX12_feed_92 : decode cX12_feed 92 = .ok (.getfield 215, 3) := by decide +kernel
theorem dX12_feed_95 : decode cX12_feed 95 = .ok (.ireturn, 1) := by decide +kernel
theorem dX12_trim_0 : decode cX12_trim 0 = .ok (.iload_n 1, 1) := by decide +kernel
theorem dX12_trim_1 : decode cX12_trim 1 = .ok (.i2l, 1) := by decide +kernel
theorem dX12_trim_2 : decode cX12_trim 2 = .ok (.lconst 0, 1) := by decide +kernel
theorem dX12_trim_3 : decode cX12_trim 3 = .ok (.aload_n 0, 1) := by decide +kernel
theorem dX12_trim_4 : decode cX12_trim 4 = .ok (.getfield 215, 3) := by decide +kernel
theorem dX12_trim_7 : decode cX12_trim 7 = .ok (.i2l, 1) := by decide +kernel
theorem dX12_trim_8 : decode cX12_trim 8 = .ok (.invokestatic 65, 3) := by decide +kernel
theorem dX12_trim_11 : decode cX12_trim 11 = .ok (.ifCond .ne 6, 3) := by decide +kernel
theorem dX12_trim_14 : decode cX12_trim 14 = .ok (.ldc 78, 2) := by decide +kernel
theorem dX12_trim_16 : decode cX12_trim 16 = .ok (.ireturn, 1) := by decide +kernel
theorem dX12_trim_17 : decode cX12_trim 17 = .ok (.aload_n 0, 1) := by decide +kernel
theorem dX12_trim_18 : decode cX12_trim 18 = .ok (.iload_n 1, 1) := by decide +kernel
theorem dX12_trim_19 : decode cX12_trim 19 = .ok (.putfield 215, 3) := by decide +kernel
theorem dX12_trim_22 : decode cX12_trim 22 = .ok (.iload_n 1, 1) := by decide +kernel
theorem dX12_trim_23 : decode cX12_trim 23 = .ok (.ireturn, 1) := by decide +kernel
theorem dX12_isLetter_0 : decode cX12_isLetter 0 = .ok (.iload_n 1, 1) := by decide +kernel
theorem dX12_isLetter_1 : decode cX12_isLetter 1 = .ok (.aload_n 0, 1) := by decide +kernel
theorem dX12_isLetter_2 : decode cX12_isLetter 2 = .ok (.getfield 215, 3) := by decide +kernel
theorem dX12_isLetter_5 : decode cX12_isLetter 5 = .ok (.if_icmp .ge 26, 3) := by decide +kernel
theorem dX12_isLetter_8 : decode cX12_isLetter 8 = .ok (.aload_n 0, 1) := by decide +kernel
theorem dX12_isLetter_9 : decode cX12_isLetter 9 = .ok (.getfield 46, 3) := by decide +kernel
theorem dX12_isLetter_12 : decode cX12_isLetter 12 = .ok (.iload_n 1, 1) := by decide +kernel
theorem dX12_isLetter_13 : decode cX12_isLetter 13 = .ok (.iaload, 1) := by decide +kernel
theorem dX12_isLetter_14 : decode cX12_isLetter 14 = .ok (.i2l, 1) := by decide +kernel
theorem dX12_isLetter_15 : decode cX12_isLetter 15 = .ok (.ldc2_w 218, 3) := by decide +kernel
theorem dX12_isLetter_18 : decode cX12_isLetter 18 = .ok (.ldc2_w 220, 3) := by decide +kernel
theorem dX12_isLetter_21 : decode cX12_isLetter 21 = .ok (.invokestatic 65, 3) := by decide +kernel
theorem dX12_isLetter_24 : decode cX12_isLetter 24 = .ok (.ifCond .eq 7, 3) := by decide +kernel
theorem dX12_isLetter_27 : decode cX12_isLetter 27 = .ok (.iconst 1, 1) := by decide +kernel
theorem dX12_isLetter_28 : decode cX12_isLetter 28 = .ok (.goto 4, 3) := by decide +kernel
theorem dX12_isLetter_31 : decode cX12_isLetter 31 = .ok (.iconst 0, 1) := by decide +kernel
theorem dX12_isLetter_32 : decode cX12_isLetter 32 = .ok (.ireturn, 1) := by decide +kernel
theorem dX12_isDigit_0 : decode cX12_isDigit 0 = .ok (.iload_n 1, 1) := by decide +kernel
theorem dX12_isDigit_1 : decode cX12_isDigit 1 = .ok (.aload_n 0, 1) := by decide +kernel
theorem dX12_isDigit_2 : decode cX12_isDigit 2 = .ok (.getfield 215, 3) := by decide +kernel
theorem dX12_isDigit_5 : decode cX12_isDigit 5 = .ok (.if_icmp .ge 26, 3) := by decide +kernel
theorem dX12_isDigit_8 : decode cX12_isDigit 8 = .ok (.aload_n 0, 1) := by decide +kernel
theorem dX12_isDigit_9 : decode cX12_isDigit 9 = .ok (.getfield 46, 3) := by decide +kernel
theorem dX12_isDigit_12 : decode cX12_isDigit 12 = .ok (.iload_n 1, 1) := by decide +kernel
theorem dX12_isDigit_13 : decode cX12_isDigit 13 = .ok (.iaload, 1) := by decide +kernel
theorem dX12_isDigit_14 : decode cX12_isDigit 14 = .ok (.i2l, 1) := by decide +kernel
theorem dX12_isDigit_15 : decode cX12_isDigit 15 = .ok (.ldc2_w 222, 3) := by decide +kernel
theorem dX12_isDigit_18 : decode cX12_isDigit 18 = .ok (.ldc2_w 224, 3) := by decide +kernel
theorem dX12_isDigit_21 : decode cX12_isDigit 21 = .ok (.invokestatic 65, 3) := by decide +kernel
theorem dX12_isDigit_24 : decode cX12_isDigit 24 = .ok (.ifCond .eq 7, 3) := by decide +kernel
theorem dX12_isDigit_27 : decode cX12_isDigit 27 = .ok (.iconst 1, 1) := by decide +kernel
theorem dX12_isDigit_28 : decode cX12_isDigit 28 = .ok (.goto 4, 3) := by decide +kernel
theorem dX12_isDigit_31 : decode cX12_isDigit 31 = .ok (.iconst 0, 1) := by decide +kernel
theorem dX12_isDigit_32 : decode cX12_isDigit 32 = .ok (.ireturn, 1) := by decide +kernel
theorem dX12_nextToken_0 : decode cX12_nextToken 0 = .ok (.aload_n 0, 1) := by decide +kernel
theorem dX12_nextToken_1 : decode cX12_nextToken 1 = .ok (.getfield 226, 3) := by decide +kernel
theorem dX12_nextToken_4 : decode cX12_nextToken 4 = .ok (.ifCond .le 23, 3) := by decide +kernel
theorem dX12_nextToken_7 : decode cX12_nextToken 7 = .ok (.aload_n 0, 1) := by decide +kernel
theorem dX12_nextToken_8 : decode cX12_nextToken 8 = .ok (.getfield 229, 3) := by decide +kernel
theorem dX12_nextToken_11 : decode cX12_nextToken 11 = .ok (.iconst 1, 1) := by decide +kernel
theorem dX12_nextToken_12 : decode cX12_nextToken 12 = .ok (.if_icmp .eq 11, 3) := by decide +kernel
theorem dX12_nextToken_15 : decode cX12_nextToken 15 = .ok (.aload_n 0, 1) := by decide +kernel
theorem dX12_nextToken_16 : decode cX12_nextToken 16 = .ok (.getfield 229, 3) := by decide +kernel
theorem dX12_nextToken_19 : decode cX12_nextToken 19 = .ok (.iconst 2, 1) := by decide +kernel
theorem dX12_nextToken_20 : decode cX12_nextToken 20 = .ok (.if_icmp .ne 7, 3) := by decide +kernel
theorem dX12_nextToken_23 : decode cX12_nextToken 23 = .ok (.iconst 1, 1) := by decide +kernel
theorem dX12_nextToken_24 : decode cX12_nextToken 24 = .ok (.goto 4, 3) := by decide +kernel
theorem dX12_nextToken_27 : decode cX12_nextToken 27 = .ok (.iconst 0, 1) := by decide +kernel
theorem dX12_nextToken_28 : decode cX12_nextToken 28 = .ok (.istore_n 1, 1) := by decide +kernel
theorem dX12_nextToken_29 : decode cX12_nextToken 29 = .ok (.aload_n 0, 1) := by decide +kernel
theorem dX12_nextToken_30 : decode cX12_nextToken 30 = .ok (.getfield 226, 3) := by decide +kernel
theorem dX12_nextToken_33 : decode cX12_nextToken 33 = .ok (.istore_n 2, 1) := by decide +kernel
theorem dX12_nextToken_34 : decode cX12_nextToken 34 = .ok (.aload_n 0, 1) := by decide +kernel
theorem dX12_nextToken_35 : decode cX12_nextToken 35 = .ok (.getfield 226, 3) := by decide +kernel
theorem dX12_nextToken_38 : decode cX12_nextToken 38 = .ok (.aload_n 0, 1) := by decide +kernel
theorem dX12_nextToken_39 : decode cX12_nextToken 39 = .ok (.getfield 215, 3) := by decide +kernel
theorem dX12_nextToken_42 : decode cX12_nextToken 42 = .ok (.if_icmp .ge 30, 3) := by decide +kernel
theorem dX12_nextToken_45 : decode cX12_nextToken 45 = .ok (.aload_n 0, 1) := by decide +kernel
theorem dX12_nextToken_46 : decode cX12_nextToken 46 = .ok (.getfield 46, 3) := by decide +kernel
theorem dX12_nextToken_49 : decode cX12_nextToken 49 = .ok (.aload_n 0, 1) := by decide +kernel
theorem dX12_nextToken_50 : decode cX12_nextToken 50 = .ok (.getfield 226, 3) := by decide +kernel
theorem dX12_nextToken_53 : decode cX12_nextToken 53 = .ok (.iaload, 1) := by decide +kernel
theorem dX12_nextToken_54 : decode cX12_nextToken 54 = .ok (.bipush 32, 2) := by decide +kernel
theorem dX12_nextToken_56 : decode cX12_nextToken 56 = .ok (.if_icmp .ne 16, 3) := by decide +kernel
theorem dX12_nextToken_59 : decode cX12_nextToken 59 = .ok (.aload_n 0, 1) := by decide +kernel
theorem dX12_nextToken_60 : decode cX12_nextToken 60 = .ok (.dup, 1) := by decide +kernel
theorem dX12_nextToken_61 : decode cX12_nextToken 61 = .ok (.getfield 226, 3) := by decide +kernel
theorem dX12_nextToken_64 : decode cX12_nextToken 64 = .ok (.iconst 1, 1) := by decide +kernel
theorem dX12_nextToken_65 : decode cX12_nextToken 65 = .ok (.iadd, 1) := by decide +kernel
theorem dX12_nextToken_66 : decode cX12_nextToken 66 = .ok (.putfield 226, 3) := by decide +kernel
theorem dX12_nextToken_69 : decode cX12_nextToken 69 = .ok (.goto (-35), 3) := by decide +kernel
theorem dX12_nextToken_72 : decode cX12_nextToken 72 = .ok (.iload_n 1, 1) := by decide +kernel
theorem dX12_nextToken_73 : decode cX12_nextToken 73 = .ok (.ifCond .eq 15, 3) := by decide +kernel
theorem dX12_nextToken_76 : decode cX12_nextToken 76 = .ok (.iload_n 2, 1) := by decide +kernel
theorem dX12_nextToken_77 : decode cX12_nextToken 77 = .ok (.aload_n 0, 1) := by decide +kernel
theorem dX12_nextToken_78 : decode cX12_nextToken 78 = .ok (.getfield 226, 3) := by decide +kernel
theorem dX12_nextToken_81 : decode cX12_nextToken 81 = .ok (.if_icmp .ne 7, 3) := by decide +kernel
theorem dX12_nextToken_84 : decode cX12_nextToken 84 = .ok (.iconst 1, 1) := by decide +kernel
theorem dX12_nextToken_85 : decode cX12_nextToken 85 = .ok (.goto 4, 3) := by decide +kernel
theorem dX12_nextToken_88 : decode cX12_nextToken 88 = .ok (.iconst 0, 1) := by decide +kernel
theorem dX12_nextToken_89 : decode cX12_nextToken 89 = .ok (.istore_n 1, 1) := by decide +kernel
theorem dX12_nextToken_90 : decode cX12_nextToken 90 = .ok (.aload_n 0, 1) := by decide +kernel
theorem dX12_nextToken_91 : decode cX12_nextToken 91 = .ok (.aload_n 0, 1) := by decide +kernel
theorem dX12_nextToken_92 : decode cX12_nextToken 92 = .ok (.getfield 226, 3) := by decide +kernel
theorem dX12_nextToken_95 : decode cX12_nextToken 95 = .ok (.putfield 232, 3) := by decide +kernel
theorem dX12_nextToken_98 : decode cX12_nextToken 98 = .ok (.aload_n 0, 1) := by decide +kernel
theorem dX12_nextToken_99 : decode cX12_nextToken 99 = .ok (.getfield 232, 3) := by decide +kernel
theorem dX12_nextToken_102 : decode cX12_nextToken 102 = .ok (.aload_n 0, 1) := by decide +kernel
theorem dX12_nextToken_103 : decode cX12_nextToken 103 = .ok (.getfield 215, 3) := by decide +kernel
theorem dX12_nextToken_106 : decode cX12_nextToken 106 = .ok (.if_icmp .ne 11, 3) := by decide +kernel
theorem dX12_nextToken_109 : decode cX12_nextToken 109 = .ok (.aload_n 0, 1) := by decide +kernel
theorem dX12_nextToken_110 : decode cX12_nextToken 110 = .ok (.iconst 0, 1) := by decide +kernel
theorem dX12_nextToken_111 : decode cX12_nextToken 111 = .ok (.putfield 229, 3) := by decide +kernel
theorem dX12_nextToken_114 : decode cX12_nextToken 114 = .ok (.goto 225, 3) := by decide +kernel
theorem dX12_nextToken_117 : decode cX12_nextToken 117 = .ok (.aload_n 0, 1) := by decide +kernel
theorem dX12_nextToken_118 : decode cX12_nextToken 118 = .ok (.aload_n 0, 1) := by decide +kernel
theorem dX12_nextToken_119 : decode cX12_nextToken 119 = .ok (.getfield 232, 3) := by decide +kernel
theorem dX12_nextToken_122 : decode cX12_nextToken 122 = .ok (.invokevirtual 235, 3) := by decide +kernel
theorem dX12_nextToken_125 : decode cX12_nextToken 125 = .ok (.ifCond .eq 73, 3) := by decide +kernel
theorem dX12_nextToken_128 : decode cX12_nextToken 128 = .ok (.aload_n 0, 1) := by decide +kernel
theorem dX12_nextToken_129 : decode cX12_nextToken 129 = .ok (.aload_n 0, 1) := by decide +kernel
theorem dX12_nextToken_130 : decode cX12_nextToken 130 = .ok (.getfield 226, 3) := by decide +kernel
theorem dX12_nextToken_133 : decode cX12_nextToken 133 = .ok (.invokevirtual 235, 3) := by decide +kernel
theorem dX12_nextToken_136 : decode cX12_nextToken 136 = .ok (.ifCond .eq 16, 3) := by decide +kernel
theorem dX12_nextToken_139 : decode cX12_nextToken 139 = .ok (.aload_n 0, 1) := by decide +kernel
theorem dX12_nextToken_140 : decode cX12_nextToken 140 = .ok (.dup, 1) := by decide +kernel
theorem dX12_nextToken_141 : decode cX12_nextToken 141 = .ok (.getfield 226, 3) := by decide +kernel
theorem dX12_nextToken_144 : decode cX12_nextToken 144 = .ok (.iconst 1, 1) := by decide +kernel
theorem dX12_nextToken_145 : decode cX12_nextToken 145 = .ok (.iadd, 1) := by decide +kernel
theorem dX12_nextToken_146 : decode cX12_nextToken 146 = .ok (.putfield 226, 3) := by decide +kernel
theorem dX12_nextToken_149 : decode cX12_nextToken 149 = .ok (.goto (-21), 3) := by decide +kernel
theorem dX12_nextToken_152 : decode cX12_nextToken 152 = .ok (.aload_n 0, 1) := by decide +kernel
theorem dX12_nextToken_153 : decode cX12_nextToken 153 = .ok (.iload_n 1, 1) := by decide +kernel
theorem dX12_nextToken_154 : decode cX12_nextToken 154 = .ok (.ifCond .eq 7, 3) := by decide +kernel
theorem dX12_nextToken_157 : decode cX12_nextToken 157 = .ok (.iconst 4, 1) := by decide +kernel
theorem dX12_nextToken_158 : decode cX12_nextToken 158 = .ok (.goto 4, 3) := by decide +kernel
theorem dX12_nextToken_161 : decode cX12_nextToken 161 = .ok (.iconst 1, 1) := by decide +kernel
theorem dX12_nextToken_162 : decode cX12_nextToken 162 = .ok (.putfield 229, 3) := by decide +kernel
theorem dX12_nextToken_165 : decode cX12_nextToken 165 = .ok (.aload_n 0, 1) := by decide +kernel
theorem dX12_nextToken_166 : decode cX12_nextToken 166 = .ok (.aload_n 0, 1) := by decide +kernel
theorem dX12_nextToken_167 : decode cX12_nextToken 167 = .ok (.getfield 226, 3) := by decide +kernel
theorem dX12_nextToken_170 : decode cX12_nextToken 170 = .ok (.aload_n 0, 1) := by decide +kernel
theorem dX12_nextToken_171 : decode cX12_nextToken 171 = .ok (.getfield 232, 3) := by decide +kernel
theorem dX12_nextToken_174 : decode cX12_nextToken 174 = .ok (.isub, 1) := by decide +kernel
theorem dX12_nextToken_175 : decode cX12_nextToken 175 = .ok (.iconst 1, 1) := by decide +kernel
theorem dX12_nextToken_176 : decode cX12_nextToken 176 = .ok (.if_icmp .ne 15, 3) := by decide +kernel
theorem dX12_nextToken_179 : decode cX12_nextToken 179 = .ok (.aload_n 0, 1) := by decide +kernel
theorem dX12_nextToken_180 : decode cX12_nextToken 180 = .ok (.getfield 46, 3) := by decide +kernel
theorem dX12_nextToken_183 : decode cX12_nextToken 183 = .ok (.aload_n 0, 1) := by decide +kernel
theorem dX12_nextToken_184 : decode cX12_nextToken 184 = .ok (.getfield 232, 3) := by decide +kernel
theorem dX12_nextToken_187 : decode cX12_nextToken 187 = .ok (.iaload, 1) := by decide +kernel
theorem dX12_nextToken_188 : decode cX12_nextToken 188 = .ok (.goto 4, 3) := by decide +kernel
theorem dX12_nextToken_191 : decode cX12_nextToken 191 = .ok (.iconst 0, 1) := by decide +kernel
theorem dX12_nextToken_192 : decode cX12_nextToken 192 = .ok (.putfield 238, 3) := by decide +kernel
theorem dX12_nextToken_195 : decode cX12_nextToken 195 = .ok (.goto 144, 3) := by decide +kernel
theorem dX12_nextToken_198 : decode cX12_nextToken 198 = .ok (.aload_n 0, 1) := by decide +kernel
theorem dX12_nextToken_199 : decode cX12_nextToken 199 = .ok (.aload_n 0, 1) := by decide +kernel
theorem dX12_nextToken_200 : decode cX12_nextToken 200 = .ok (.getfield 232, 3) := by decide +kernel
theorem dX12_nextToken_203 : decode cX12_nextToken 203 = .ok (.invokevirtual 241, 3) := by decide +kernel
theorem dX12_nextToken_206 : decode cX12_nextToken 206 = .ok (.ifCond .eq 105, 3) := by decide +kernel
theorem dX12_nextToken_209 : decode cX12_nextToken 209 = .ok (.aload_n 0, 1) := by decide +kernel
theorem dX12_nextToken_210 : decode cX12_nextToken 210 = .ok (.iconst 0, 1) := by decide +kernel
theorem dX12_nextToken_211 : decode cX12_nextToken 211 = .ok (.putfield 244, 3) := by decide +kernel
theorem dX12_nextToken_214 : decode cX12_nextToken 214 = .ok (.aload_n 0, 1) := by decide +kernel
theorem dX12_nextToken_215 : decode cX12_nextToken 215 = .ok (.aload_n 0, 1) := by decide +kernel
theorem dX12_nextToken_216 : decode cX12_nextToken 216 = .ok (.getfield 226, 3) := by decide +kernel
theorem dX12_nextToken_219 : decode cX12_nextToken 219 = .ok (.invokevirtual 241, 3) := by decide +kernel
theorem dX12_nextToken_222 : decode cX12_nextToken 222 = .ok (.ifCond .eq 60, 3) := by decide +kernel
theorem dX12_nextToken_225 : decode cX12_nextToken 225 = .ok (.aload_n 0, 1) := by decide +kernel
theorem dX12_nextToken_226 : decode cX12_nextToken 226 = .ok (.aload_n 0, 1) := by decide +kernel
theorem dX12_nextToken_227 : decode cX12_nextToken 227 = .ok (.getfield 226, 3) := by decide +kernel
theorem dX12_nextToken_230 : decode cX12_nextToken 230 = .ok (.aload_n 0, 1) := by decide +kernel
theorem dX12_nextToken_231 : decode cX12_nextToken 231 = .ok (.getfield 232, 3) := by decide +kernel
theorem dX12_nextToken_234 : decode cX12_nextToken 234 = .ok (.isub, 1) := by decide +kernel
theorem dX12_nextToken_235 : decode cX12_nextToken 235 = .ok (.iconst 4, 1) := by decide +kernel
theorem dX12_nextToken_236 : decode cX12_nextToken 236 = .ok (.if_icmp .ge 26, 3) := by decide +kernel
theorem dX12_nextToken_239 : decode cX12_nextToken 239 = .ok (.bipush 10, 2) := by decide +kernel
theorem dX12_nextToken_241 : decode cX12_nextToken 241 = .ok (.aload_n 0, 1) := by decide +kernel
theorem dX12_nextToken_242 : decode cX12_nextToken 242 = .ok (.getfield 244, 3) := by decide +kernel
theorem dX12_nextToken_245 : decode cX12_nextToken 245 = .ok (.imul, 1) := by decide +kernel
theorem dX12_nextToken_246 : decode cX12_nextToken 246 = .ok (.aload_n 0, 1) := by decide +kernel
theorem dX12_nextToken_247 : decode cX12_nextToken 247 = .ok (.getfield 46, 3) := by decide +kernel
theorem dX12_nextToken_250 : decode cX12_nextToken 250 = .ok (.aload_n 0, 1) := by decide +kernel
theorem dX12_nextToken_251 : decode cX12_nextToken 251 = .ok (.getfield 226, 3) := by decide +kernel
theorem dX12_nextToken_254 : decode cX12_nextToken 254 = .ok (.iaload, 1) := by decide +kernel
theorem dX12_nextToken_255 : decode cX12_nextToken 255 = .ok (.iadd, 1) := by decide +kernel
theorem dX12_nextToken_256 : decode cX12_nextToken 256 = .ok (.bipush 48, 2) := by decide +kernel
theorem dX12_nextToken_258 : decode cX12_nextToken 258 = .ok (.isub, 1) := by decide +kernel
theorem dX12_nextToken_259 : decode cX12_nextToken 259 = .ok (.goto 7, 3) := by decide +kernel
theorem dX12_nextToken_262 : decode cX12_nextToken 262 = .ok (.aload_n 0, 1) := by decide +kernel
theorem dX12_nextToken_263 : decode cX12_nextToken 263 = .ok (.getfield 244, 3) := by decide +kernel
theorem dX12_nextToken_266 : decode cX12_nextToken 266 = .ok (.putfield 244, 3) := by decide +kernel
theorem dX12_nextToken_269 : decode cX12_nextToken 269 = .ok (.aload_n 0, 1) := by decide +kernel
theorem dX12_nextToken_270 : decode cX12_nextToken 270 = .ok (.dup, 1) := by decide +kernel
theorem dX12_nextToken_271 : decode cX12_nextToken 271 = .ok (.getfield 226, 3) := by decide +kernel
theorem dX12_nextToken_274 : decode cX12_nextToken 274 = .ok (.iconst 1, 1) := by decide +kernel
theorem dX12_nextToken_275 : decode cX12_nextToken 275 = .ok (.iadd, 1) := by decide +kernel
theorem dX12_nextToken_276 : decode cX12_nextToken 276 = .ok (.putfield 226, 3) := by decide +kernel
theorem dX12_nextToken_279 : decode cX12_nextToken 279 = .ok (.goto (-65), 3) := by decide +kernel
theorem dX12_nextToken_282 : decode cX12_nextToken 282 = .ok (.aload_n 0, 1) := by decide +kernel
theorem dX12_nextToken_283 : decode cX12_nextToken 283 = .ok (.iload_n 1, 1) := by decide +kernel
theorem dX12_nextToken_284 : decode cX12_nextToken 284 = .ok (.ifCond .ne 16, 3) := by decide +kernel
theorem dX12_nextToken_287 : decode cX12_nextToken 287 = .ok (.aload_n 0, 1) := by decide +kernel
theorem dX12_nextToken_288 : decode cX12_nextToken 288 = .ok (.getfield 226, 3) := by decide +kernel
theorem dX12_nextToken_291 : decode cX12_nextToken 291 = .ok (.aload_n 0, 1) := by decide +kernel
theorem dX12_nextToken_292 : decode cX12_nextToken 292 = .ok (.getfield 232, 3) := by decide +kernel
theorem dX12_nextToken_295 : decode cX12_nextToken 295 = .ok (.isub, 1) := by decide +kernel
theorem dX12_nextToken_296 : decode cX12_nextToken 296 = .ok (.iconst 4, 1) := by decide +kernel
theorem dX12_nextToken_297 : decode cX12_nextToken 297 = .ok (.if_icmp .le 7, 3) := by decide +kernel
theorem dX12_nextToken_300 : decode cX12_nextToken 300 = .ok (.iconst 4, 1) := by decide +kernel
theorem dX12_nextToken_301 : decode cX12_nextToken 301 = .ok (.goto 4, 3) := by decide +kernel
theorem dX12_nextToken_304 : decode cX12_nextToken 304 = .ok (.iconst 2, 1) := by decide +kernel
theorem dX12_nextToken_305 : decode cX12_nextToken 305 = .ok (.putfield 229, 3) := by decide +kernel
theorem dX12_nextToken_308 : decode cX12_nextToken 308 = .ok (.goto 31, 3) := by decide +kernel
theorem dX12_nextToken_311 : decode cX12_nextToken 311 = .ok (.aload_n 0, 1) := by decide +kernel
theorem dX12_nextToken_312 : decode cX12_nextToken 312 = .ok (.iconst 3, 1) := by decide +kernel
theorem dX12_nextToken_313 : decode cX12_nextToken 313 = .ok (.putfield 229, 3) := by decide +kernel
theorem dX12_nextToken_316 : decode cX12_nextToken 316 = .ok (.aload_n 0, 1) := by decide +kernel
theorem dX12_nextToken_317 : decode cX12_nextToken 317 = .ok (.aload_n 0, 1) := by decide +kernel
theorem dX12_nextToken_318 : decode cX12_nextToken 318 = .ok (.getfield 46, 3) := by decide +kernel
theorem dX12_nextToken_321 : decode cX12_nextToken 321 = .ok (.aload_n 0, 1) := by decide +kernel
theorem dX12_nextToken_322 : decode cX12_nextToken 322 = .ok (.getfield 232, 3) := by decide +kernel
theorem dX12_nextToken_325 : decode cX12_nextToken 325 = .ok (.iaload, 1) := by decide +kernel
theorem dX12_nextToken_326 : decode cX12_nextToken 326 = .ok (.putfield 238, 3) := by decide +kernel
theorem dX12_nextToken_329 : decode cX12_nextToken 329 = .ok (.aload_n 0, 1) := by decide +kernel
theorem dX12_nextToken_330 : decode cX12_nextToken 330 = .ok (.dup, 1) := by decide +kernel
theorem dX12_nextToken_331 : decode cX12_nextToken 331 = .ok (.getfield 226, 3) := by decide +kernel
theorem dX12_nextToken_334 : decode cX12_nextToken 334 = .ok (.iconst 1, 1) := by decide +kernel
theorem dX12_nextToken_335 : decode cX12_nextToken 335 = .ok (.iadd, 1) := by decide +kernel
theorem dX12_nextToken_336 : decode cX12_nextToken 336 = .ok (.putfield 226, 3) := by decide +kernel
theorem dX12_nextToken_339 : decode cX12_nextToken 339 = .ok (.return_, 1) := by decide +kernel
theorem dX12_isSign_0 : decode cX12_isSign 0 = .ok (.aload_n 0, 1) := by decide +kernel
theorem dX12_isSign_1 : decode cX12_isSign 1 = .ok (.getfield 229, 3) := by decide +kernel
theorem dX12_isSign_4 : decode cX12_isSign 4 = .ok (.iconst 3, 1) := by decide +kernel
theorem dX12_isSign_5 : decode cX12_isSign 5 = .ok (.if_icmp .ne 15, 3) := by decide +kernel
theorem dX12_isSign_8 : decode cX12_isSign 8 = .ok (.aload_n 0, 1) := by decide +kernel
theorem dX12_isSign_9 : decode cX12_isSign 9 = .ok (.getfield 238, 3) := by decide +kernel
theorem dX12_isSign_12 : decode cX12_isSign 12 = .ok (.iload_n 1, 1) := by decide +kernel
theorem dX12_isSign_13 : decode cX12_isSign 13 = .ok (.if_icmp .ne 7, 3) := by decide +kernel
theorem dX12_isSign_16 : decode cX12_isSign 16 = .ok (.iconst 1, 1) := by decide +kernel
theorem dX12_isSign_17 : decode cX12_isSign 17 = .ok (.goto 4, 3) := by decide +kernel
theorem dX12_isSign_20 : decode cX12_isSign 20 = .ok (.iconst 0, 1) := by decide +kernel
theorem dX12_isSign_21 : decode cX12_isSign 21 = .ok (.ireturn, 1) := by decide +kernel
theorem dX12_isWordAt_0 : decode cX12_isWordAt 0 = .ok (.iload 4, 2) := by decide +kernel
theorem dX12_isWordAt_2 : decode cX12_isWordAt 2 = .ok (.ifCond .ne 7, 3) := by decide +kernel
theorem dX12_isWordAt_5 : decode cX12_isWordAt 5 = .ok (.iconst 3, 1) := by decide +kernel
theorem dX12_isWordAt_6 : decode cX12_isWordAt 6 = .ok (.goto 4, 3) := by decide +kernel
theorem dX12_isWordAt_9 : decode cX12_isWordAt 9 = .ok (.iconst 4, 1) := by decide +kernel
theorem dX12_isWordAt_10 : decode cX12_isWordAt 10 = .ok (.istore 5, 2) := by decide +kernel
theorem dX12_isWordAt_12 : decode cX12_isWordAt 12 = .ok (.aload_n 0, 1) := by decide +kernel
theorem dX12_isWordAt_13 : decode cX12_isWordAt 13 = .ok (.getfield 229, 3) := by decide +kernel
theorem dX12_isWordAt_16 : decode cX12_isWordAt 16 = .ok (.iconst 1, 1) := by decide +kernel
theorem dX12_isWordAt_17 : decode cX12_isWordAt 17 = .ok (.if_icmp .ne 85, 3) := by decide +kernel
theorem dX12_isWordAt_20 : decode cX12_isWordAt 20 = .ok (.aload_n 0, 1) := by decide +kernel
theorem dX12_isWordAt_21 : decode cX12_isWordAt 21 = .ok (.getfield 226, 3) := by decide +kernel
theorem dX12_isWordAt_24 : decode cX12_isWordAt 24 = .ok (.aload_n 0, 1) := by decide +kernel
theorem dX12_isWordAt_25 : decode cX12_isWordAt 25 = .ok (.getfield 232, 3) := by decide +kernel
theorem dX12_isWordAt_28 : decode cX12_isWordAt 28 = .ok (.isub, 1) := by decide +kernel
theorem dX12_isWordAt_29 : decode cX12_isWordAt 29 = .ok (.iload 5, 2) := by decide +kernel
theorem dX12_isWordAt_31 : decode cX12_isWordAt 31 = .ok (.if_icmp .ne 71, 3) := by decide +kernel
theorem dX12_isWordAt_34 : decode cX12_isWordAt 34 = .ok (.aload_n 0, 1) := by decide +kernel
theorem dX12_isWordAt_35 : decode cX12_isWordAt 35 = .ok (.getfield 46, 3) := by decide +kernel
theorem dX12_isWordAt_38 : decode cX12_isWordAt 38 = .ok (.aload_n 0, 1) := by decide +kernel
theorem dX12_isWordAt_39 : decode cX12_isWordAt 39 = .ok (.getfield 232, 3) := by decide +kernel
theorem dX12_isWordAt_42 : decode cX12_isWordAt 42 = .ok (.iaload, 1) := by decide +kernel
theorem dX12_isWordAt_43 : decode cX12_isWordAt 43 = .ok (.iload_n 1, 1) := by decide +kernel
theorem dX12_isWordAt_44 : decode cX12_isWordAt 44 = .ok (.if_icmp .ne 58, 3) := by decide +kernel
theorem dX12_isWordAt_47 : decode cX12_isWordAt 47 = .ok (.aload_n 0, 1) := by decide +kernel
theorem dX12_isWordAt_48 : decode cX12_isWordAt 48 = .ok (.getfield 46, 3) := by decide +kernel
theorem dX12_isWordAt_51 : decode cX12_isWordAt 51 = .ok (.aload_n 0, 1) := by decide +kernel
theorem dX12_isWordAt_52 : decode cX12_isWordAt 52 = .ok (.getfield 232, 3) := by decide +kernel
theorem dX12_isWordAt_55 : decode cX12_isWordAt 55 = .ok (.iconst 1, 1) := by decide +kernel
theorem dX12_isWordAt_56 : decode cX12_isWordAt 56 = .ok (.iadd, 1) := by decide +kernel
theorem dX12_isWordAt_57 : decode cX12_isWordAt 57 = .ok (.iaload, 1) := by decide +kernel
theorem dX12_isWordAt_58 : decode cX12_isWordAt 58 = .ok (.iload_n 2, 1) := by decide +kernel
theorem dX12_isWordAt_59 : decode cX12_isWordAt 59 = .ok (.if_icmp .ne 43, 3) := by decide +kernel
theorem dX12_isWordAt_62 : decode cX12_isWordAt 62 = .ok (.aload_n 0, 1) := by decide +kernel
theorem dX12_isWordAt_63 : decode cX12_isWordAt 63 = .ok (.getfield 46, 3) := by decide +kernel
theorem dX12_isWordAt_66 : decode cX12_isWordAt 66 = .ok (.aload_n 0, 1) := by decide +kernel
theorem dX12_isWordAt_67 : decode cX12_isWordAt 67 = .ok (.getfield 232, 3) := by decide +kernel
theorem dX12_isWordAt_70 : decode cX12_isWordAt 70 = .ok (.iconst 2, 1) := by decide +kernel
theorem dX12_isWordAt_71 : decode cX12_isWordAt 71 = .ok (.iadd, 1) := by decide +kernel
theorem dX12_isWordAt_72 : decode cX12_isWordAt 72 = .ok (.iaload, 1) := by decide +kernel
theorem dX12_isWordAt_73 : decode cX12_isWordAt 73 = .ok (.iload_n 3, 1) := by decide +kernel
theorem dX12_isWordAt_74 : decode cX12_isWordAt 74 = .ok (.if_icmp .ne 28, 3) := by decide +kernel
theorem dX12_isWordAt_77 : decode cX12_isWordAt 77 = .ok (.iload 4, 2) := by decide +kernel
theorem dX12_isWordAt_79 : decode cX12_isWordAt 79 = .ok (.ifCond .eq 19, 3) := by decide +kernel
theorem dX12_isWordAt_82 : decode cX12_isWordAt 82 = .ok (.aload_n 0, 1) := by decide +kernel
theorem dX12_isWordAt_83 : decode cX12_isWordAt 83 = .ok (.getfield 46, 3) := by decide +kernel
theorem dX12_isWordAt_86 : decode cX12_isWordAt 86 = .ok (.aload_n 0, 1) := by decide +kernel
theorem dX12_isWordAt_87 : decode cX12_isWordAt 87 = .ok (.getfield 232, 3) := by decide +kernel
theorem dX12_isWordAt_90 : decode cX12_isWordAt 90 = .ok (.iconst 3, 1) := by decide +kernel
theorem dX12_isWordAt_91 : decode cX12_isWordAt 91 = .ok (.iadd, 1) := by decide +kernel
theorem dX12_isWordAt_92 : decode cX12_isWordAt 92 = .ok (.iaload, 1) := by decide +kernel
theorem dX12_isWordAt_93 : decode cX12_isWordAt 93 = .ok (.iload 4, 2) := by decide +kernel
theorem dX12_isWordAt_95 : decode cX12_isWordAt 95 = .ok (.if_icmp .ne 7, 3) := by decide +kernel
theorem dX12_isWordAt_98 : decode cX12_isWordAt 98 = .ok (.iconst 1, 1) := by decide +kernel
theorem dX12_isWordAt_99 : decode cX12_isWordAt 99 = .ok (.goto 4, 3) := by decide +kernel
theorem dX12_isWordAt_102 : decode cX12_isWordAt 102 = .ok (.iconst 0, 1) := by decide +kernel
theorem dX12_isWordAt_103 : decode cX12_isWordAt 103 = .ok (.ireturn, 1) := by decide +kernel
theorem dX12_key_0 : decode cX12_key 0 = .ok (.aload_n 0, 1) := by decide +kernel
theorem dX12_key_1 : decode cX12_key 1 = .ok (.bipush 108, 2) := by decide +kernel
theorem dX12_key_3 : decode cX12_key 3 = .ok (.bipush 101, 2) := by decide +kernel
theorem dX12_key_5 : decode cX12_key 5 = .ok (.bipush 97, 2) := by decide +kernel
theorem dX12_key_7 : decode cX12_key 7 = .ok (.bipush 110, 2) := by decide +kernel
theorem dX12_key_9 : decode cX12_key 9 = .ok (.invokevirtual 247, 3) := by decide +kernel
theorem dX12_key_12 : decode cX12_key 12 = .ok (.ifCond .eq 5, 3) := by decide +kernel
theorem dX12_key_15 : decode cX12_key 15 = .ok (.iconst 0, 1) := by decide +kernel
theorem dX12_key_16 : decode cX12_key 16 = .ok (.ireturn, 1) := by decide +kernel
theorem dX12_key_17 : decode cX12_key 17 = .ok (.aload_n 0, 1) := by decide +kernel
theorem dX12_key_18 : decode cX12_key 18 = .ok (.bipush 109, 2) := by decide +kernel
theorem dX12_key_20 : decode cX12_key 20 = .ok (.bipush 111, 2) := by decide +kernel
theorem dX12_key_22 : decode cX12_key 22 = .ok (.bipush 118, 2) := by decide +kernel
theorem dX12_key_24 : decode cX12_key 24 = .ok (.bipush 101, 2) := by decide +kernel
theorem dX12_key_26 : decode cX12_key 26 = .ok (.invokevirtual 247, 3) := by decide +kernel
theorem dX12_key_29 : decode cX12_key 29 = .ok (.ifCond .eq 5, 3) := by decide +kernel
theorem dX12_key_32 : decode cX12_key 32 = .ok (.iconst 1, 1) := by decide +kernel
theorem dX12_key_33 : decode cX12_key 33 = .ok (.ireturn, 1) := by decide +kernel
theorem dX12_key_34 : decode cX12_key 34 = .ok (.aload_n 0, 1) := by decide +kernel
theorem dX12_key_35 : decode cX12_key 35 = .ok (.bipush 116, 2) := by decide +kernel
theorem dX12_key_37 : decode cX12_key 37 = .ok (.bipush 111, 2) := by decide +kernel
theorem dX12_key_39 : decode cX12_key 39 = .ok (.bipush 108, 2) := by decide +kernel
theorem dX12_key_41 : decode cX12_key 41 = .ok (.bipush 108, 2) := by decide +kernel
theorem dX12_key_43 : decode cX12_key 43 = .ok (.invokevirtual 247, 3) := by decide +kernel
theorem dX12_key_46 : decode cX12_key 46 = .ok (.ifCond .eq 7, 3) := by decide +kernel
theorem dX12_key_49 : decode cX12_key 49 = .ok (.iconst 2, 1) := by decide +kernel
theorem dX12_key_50 : decode cX12_key 50 = .ok (.goto 4, 3) := by decide +kernel
theorem dX12_key_53 : decode cX12_key 53 = .ok (.iconst (-1), 1) := by decide +kernel
theorem dX12_key_54 : decode cX12_key 54 = .ok (.ireturn, 1) := by decide +kernel
theorem dX12_isName_0 : decode cX12_isName 0 = .ok (.iload_n 0, 1) := by decide +kernel
theorem dX12_isName_1 : decode cX12_isName 1 = .ok (.lookupswitch 69 #[(0, 27), (1, 45)], 27) := by decide +kernel
theorem dX12_isName_28 : decode cX12_isName 28 = .ok (.iload_n 1, 1) := by decide +kernel
theorem dX12_isName_29 : decode cX12_isName 29 = .ok (.bipush 104, 2) := by decide +kernel
theorem dX12_isName_31 : decode cX12_isName 31 = .ok (.if_icmp .eq 9, 3) := by decide +kernel
theorem dX12_isName_34 : decode cX12_isName 34 = .ok (.iload_n 1, 1) := by decide +kernel
theorem dX12_isName_35 : decode cX12_isName 35 = .ok (.bipush 112, 2) := by decide +kernel
theorem dX12_isName_37 : decode cX12_isName 37 = .ok (.if_icmp .ne 7, 3) := by decide +kernel
theorem dX12_isName_40 : decode cX12_isName 40 = .ok (.iconst 1, 1) := by decide +kernel
theorem dX12_isName_41 : decode cX12_isName 41 = .ok (.goto 4, 3) := by decide +kernel
theorem dX12_isName_44 : decode cX12_isName 44 = .ok (.iconst 0, 1) := by decide +kernel
theorem dX12_isName_45 : decode cX12_isName 45 = .ok (.ireturn, 1) := by decide +kernel
theorem dX12_isName_46 : decode cX12_isName 46 = .ok (.iload_n 1, 1) := by decide +kernel
theorem dX12_isName_47 : decode cX12_isName 47 = .ok (.bipush 115, 2) := by decide +kernel
theorem dX12_isName_49 : decode cX12_isName 49 = .ok (.if_icmp .eq 15, 3) := by decide +kernel
theorem dX12_isName_52 : decode cX12_isName 52 = .ok (.iload_n 1, 1) := by decide +kernel
theorem dX12_isName_53 : decode cX12_isName 53 = .ok (.bipush 108, 2) := by decide +kernel
theorem dX12_isName_55 : decode cX12_isName 55 = .ok (.if_icmp .eq 9, 3) := by decide +kernel
theorem dX12_isName_58 : decode cX12_isName 58 = .ok (.iload_n 1, 1) := by decide +kernel
theorem dX12_isName_59 : decode cX12_isName 59 = .ok (.bipush 100, 2) := by decide +kernel
theorem dX12_isName_61 : decode cX12_isName 61 = .ok (.if_icmp .ne 7, 3) := by decide +kernel
theorem dX12_isName_64 : decode cX12_isName 64 = .ok (.iconst 1, 1) := by decide +kernel
theorem dX12_isName_65 : decode cX12_isName 65 = .ok (.goto 4, 3) := by decide +kernel
theorem dX12_isName_68 : decode cX12_isName 68 = .ok (.iconst 0, 1) := by decide +kernel
theorem dX12_isName_69 : decode cX12_isName 69 = .ok (.ireturn, 1) := by decide +kernel
theorem dX12_isName_70 : decode cX12_isName 70 = .ok (.iload_n 1, 1) := by decide +kernel
theorem dX12_isName_71 : decode cX12_isName 71 = .ok (.bipush 109, 2) := by decide +kernel
theorem dX12_isName_73 : decode cX12_isName 73 = .ok (.if_icmp .eq 9, 3) := by decide +kernel
theorem dX12_isName_76 : decode cX12_isName 76 = .ok (.iload_n 1, 1) := by decide +kernel
theorem dX12_isName_77 : decode cX12_isName 77 = .ok (.bipush 110, 2) := by decide +kernel
theorem dX12_isName_79 : decode cX12_isName 79 = .ok (.if_icmp .ne 7, 3) := by decide +kernel
theorem dX12_isName_82 : decode cX12_isName 82 = .ok (.iconst 1, 1) := by decide +kernel
theorem dX12_isName_83 : decode cX12_isName 83 = .ok (.goto 4, 3) := by decide +kernel
theorem dX12_isName_86 : decode cX12_isName 86 = .ok (.iconst 0, 1) := by decide +kernel
theorem dX12_isName_87 : decode cX12_isName 87 = .ok (.ireturn, 1) := by decide +kernel
theorem dX12_step_0 : decode cX12_step 0 = .ok (.aload_n 0, 1) := by decide +kernel
theorem dX12_step_1 : decode cX12_step 1 = .ok (.getfield 7, 3) := by decide +kernel
theorem dX12_step_4 : decode cX12_step 4 = .ok (.aload_n 0, 1) := by decide +kernel
theorem dX12_step_5 : decode cX12_step 5 = .ok (.getfield 251, 3) := by decide +kernel
theorem dX12_step_8 : decode cX12_step 8 = .ok (.iconst 2, 1) := by decide +kernel
theorem dX12_step_9 : decode cX12_step 9 = .ok (.aload_n 0, 1) := by decide +kernel
theorem dX12_step_10 : decode cX12_step 10 = .ok (.getfield 254, 3) := by decide +kernel
theorem dX12_step_13 : decode cX12_step 13 = .ok (.imul, 1) := by decide +kernel
theorem dX12_step_14 : decode cX12_step 14 = .ok (.iadd, 1) := by decide +kernel
theorem dX12_step_15 : decode cX12_step 15 = .ok (.iload_n 1, 1) := by decide +kernel
theorem dX12_step_16 : decode cX12_step 16 = .ok (.iastore, 1) := by decide +kernel
theorem dX12_step_17 : decode cX12_step 17 = .ok (.aload_n 0, 1) := by decide +kernel
theorem dX12_step_18 : decode cX12_step 18 = .ok (.getfield 7, 3) := by decide +kernel
theorem dX12_step_21 : decode cX12_step 21 = .ok (.aload_n 0, 1) := by decide +kernel
theorem dX12_step_22 : decode cX12_step 22 = .ok (.getfield 251, 3) := by decide +kernel
theorem dX12_step_25 : decode cX12_step 25 = .ok (.iconst 2, 1) := by decide +kernel
theorem dX12_step_26 : decode cX12_step 26 = .ok (.aload_n 0, 1) := by decide +kernel
theorem dX12_step_27 : decode cX12_step 27 = .ok (.getfield 254, 3) := by decide +kernel
theorem dX12_step_30 : decode cX12_step 30 = .ok (.imul, 1) := by decide +kernel
theorem dX12_step_31 : decode cX12_step 31 = .ok (.iadd, 1) := by decide +kernel
theorem dX12_step_32 : decode cX12_step 32 = .ok (.iconst 1, 1) := by decide +kernel
theorem dX12_step_33 : decode cX12_step 33 = .ok (.iadd, 1) := by decide +kernel
theorem dX12_step_34 : decode cX12_step 34 = .ok (.iload_n 2, 1) := by decide +kernel
theorem dX12_step_35 : decode cX12_step 35 = .ok (.iastore, 1) := by decide +kernel
theorem dX12_step_36 : decode cX12_step 36 = .ok (.aload_n 0, 1) := by decide +kernel
theorem dX12_step_37 : decode cX12_step 37 = .ok (.dup, 1) := by decide +kernel
theorem dX12_step_38 : decode cX12_step 38 = .ok (.getfield 254, 3) := by decide +kernel
theorem dX12_step_41 : decode cX12_step 41 = .ok (.iconst 1, 1) := by decide +kernel
theorem dX12_step_42 : decode cX12_step 42 = .ok (.iadd, 1) := by decide +kernel
theorem dX12_step_43 : decode cX12_step 43 = .ok (.putfield 254, 3) := by decide +kernel
theorem dX12_step_46 : decode cX12_step 46 = .ok (.return_, 1) := by decide +kernel
theorem dX12_either_0 : decode cX12_either 0 = .ok (.aload_n 0, 1) := by decide +kernel
theorem dX12_either_1 : decode cX12_either 1 = .ok (.iload_n 1, 1) := by decide +kernel
theorem dX12_either_2 : decode cX12_either 2 = .ok (.invokevirtual 257, 3) := by decide +kernel
theorem dX12_either_5 : decode cX12_either 5 = .ok (.ifCond .ne 5, 3) := by decide +kernel
theorem dX12_either_8 : decode cX12_either 8 = .ok (.iconst 0, 1) := by decide +kernel
theorem dX12_either_9 : decode cX12_either 9 = .ok (.ireturn, 1) := by decide +kernel
theorem dX12_either_10 : decode cX12_either 10 = .ok (.aload_n 0, 1) := by decide +kernel
theorem dX12_either_11 : decode cX12_either 11 = .ok (.bipush 124, 2) := by decide +kernel
theorem dX12_either_13 : decode cX12_either 13 = .ok (.invokevirtual 260, 3) := by decide +kernel
theorem dX12_either_16 : decode cX12_either 16 = .ok (.ifCond .eq 27, 3) := by decide +kernel
theorem dX12_either_19 : decode cX12_either 19 = .ok (.aload_n 0, 1) := by decide +kernel
theorem dX12_either_20 : decode cX12_either 20 = .ok (.invokevirtual 263, 3) := by decide +kernel
theorem dX12_either_23 : decode cX12_either 23 = .ok (.aload_n 0, 1) := by decide +kernel
theorem dX12_either_24 : decode cX12_either 24 = .ok (.iload_n 1, 1) := by decide +kernel
theorem dX12_either_25 : decode cX12_either 25 = .ok (.invokevirtual 257, 3) := by decide +kernel
theorem dX12_either_28 : decode cX12_either 28 = .ok (.ifCond .ne 5, 3) := by decide +kernel
theorem dX12_either_31 : decode cX12_either 31 = .ok (.iconst 0, 1) := by decide +kernel
theorem dX12_either_32 : decode cX12_either 32 = .ok (.ireturn, 1) := by decide +kernel
theorem dX12_either_33 : decode cX12_either 33 = .ok (.aload_n 0, 1) := by decide +kernel
theorem dX12_either_34 : decode cX12_either 34 = .ok (.iconst 2, 1) := by decide +kernel
theorem dX12_either_35 : decode cX12_either 35 = .ok (.bipush 124, 2) := by decide +kernel
theorem dX12_either_37 : decode cX12_either 37 = .ok (.invokevirtual 266, 3) := by decide +kernel
theorem dX12_either_40 : decode cX12_either 40 = .ok (.goto (-30), 3) := by decide +kernel
theorem dX12_either_43 : decode cX12_either 43 = .ok (.iconst 1, 1) := by decide +kernel
theorem dX12_either_44 : decode cX12_either 44 = .ok (.ireturn, 1) := by decide +kernel
theorem dX12_both_0 : decode cX12_both 0 = .ok (.aload_n 0, 1) := by decide +kernel
theorem dX12_both_1 : decode cX12_both 1 = .ok (.iload_n 1, 1) := by decide +kernel
theorem dX12_both_2 : decode cX12_both 2 = .ok (.invokevirtual 269, 3) := by decide +kernel
theorem dX12_both_5 : decode cX12_both 5 = .ok (.ifCond .ne 5, 3) := by decide +kernel
theorem dX12_both_8 : decode cX12_both 8 = .ok (.iconst 0, 1) := by decide +kernel
theorem dX12_both_9 : decode cX12_both 9 = .ok (.ireturn, 1) := by decide +kernel
theorem dX12_both_10 : decode cX12_both 10 = .ok (.aload_n 0, 1) := by decide +kernel
theorem dX12_both_11 : decode cX12_both 11 = .ok (.bipush 38, 2) := by decide +kernel
theorem dX12_both_13 : decode cX12_both 13 = .ok (.invokevirtual 260, 3) := by decide +kernel
theorem dX12_both_16 : decode cX12_both 16 = .ok (.ifCond .eq 27, 3) := by decide +kernel
theorem dX12_both_19 : decode cX12_both 19 = .ok (.aload_n 0, 1) := by decide +kernel
theorem dX12_both_20 : decode cX12_both 20 = .ok (.invokevirtual 263, 3) := by decide +kernel
theorem dX12_both_23 : decode cX12_both 23 = .ok (.aload_n 0, 1) := by decide +kernel
theorem dX12_both_24 : decode cX12_both 24 = .ok (.iload_n 1, 1) := by decide +kernel
theorem dX12_both_25 : decode cX12_both 25 = .ok (.invokevirtual 269, 3) := by decide +kernel
theorem dX12_both_28 : decode cX12_both 28 = .ok (.ifCond .ne 5, 3) := by decide +kernel
theorem dX12_both_31 : decode cX12_both 31 = .ok (.iconst 0, 1) := by decide +kernel
theorem dX12_both_32 : decode cX12_both 32 = .ok (.ireturn, 1) := by decide +kernel
theorem dX12_both_33 : decode cX12_both 33 = .ok (.aload_n 0, 1) := by decide +kernel
theorem dX12_both_34 : decode cX12_both 34 = .ok (.iconst 2, 1) := by decide +kernel
theorem dX12_both_35 : decode cX12_both 35 = .ok (.bipush 38, 2) := by decide +kernel
theorem dX12_both_37 : decode cX12_both 37 = .ok (.invokevirtual 266, 3) := by decide +kernel
theorem dX12_both_40 : decode cX12_both 40 = .ok (.goto (-30), 3) := by decide +kernel
theorem dX12_both_43 : decode cX12_both 43 = .ok (.iconst 1, 1) := by decide +kernel
theorem dX12_both_44 : decode cX12_both 44 = .ok (.ireturn, 1) := by decide +kernel
theorem dX12_test_0 : decode cX12_test 0 = .ok (.aload_n 0, 1) := by decide +kernel
theorem dX12_test_1 : decode cX12_test 1 = .ok (.iload_n 1, 1) := by decide +kernel
theorem dX12_test_2 : decode cX12_test 2 = .ok (.invokevirtual 272, 3) := by decide +kernel
theorem dX12_test_5 : decode cX12_test 5 = .ok (.ifCond .ne 5, 3) := by decide +kernel
theorem dX12_test_8 : decode cX12_test 8 = .ok (.iconst 0, 1) := by decide +kernel
theorem dX12_test_9 : decode cX12_test 9 = .ok (.ireturn, 1) := by decide +kernel
theorem dX12_test_10 : decode cX12_test 10 = .ok (.aload_n 0, 1) := by decide +kernel
theorem dX12_test_11 : decode cX12_test 11 = .ok (.bipush 60, 2) := by decide +kernel
theorem dX12_test_13 : decode cX12_test 13 = .ok (.invokevirtual 260, 3) := by decide +kernel
theorem dX12_test_16 : decode cX12_test 16 = .ok (.ifCond .ne 21, 3) := by decide +kernel
theorem dX12_test_19 : decode cX12_test 19 = .ok (.aload_n 0, 1) := by decide +kernel
theorem dX12_test_20 : decode cX12_test 20 = .ok (.bipush 61, 2) := by decide +kernel
theorem dX12_test_22 : decode cX12_test 22 = .ok (.invokevirtual 260, 3) := by decide +kernel
theorem dX12_test_25 : decode cX12_test 25 = .ok (.ifCond .ne 12, 3) := by decide +kernel
theorem dX12_test_28 : decode cX12_test 28 = .ok (.aload_n 0, 1) := by decide +kernel
theorem dX12_test_29 : decode cX12_test 29 = .ok (.bipush 62, 2) := by decide +kernel
theorem dX12_test_31 : decode cX12_test 31 = .ok (.invokevirtual 260, 3) := by decide +kernel
theorem dX12_test_34 : decode cX12_test 34 = .ok (.ifCond .eq 28, 3) := by decide +kernel
theorem dX12_test_37 : decode cX12_test 37 = .ok (.aload_n 0, 1) := by decide +kernel
theorem dX12_test_38 : decode cX12_test 38 = .ok (.getfield 238, 3) := by decide +kernel
theorem dX12_test_41 : decode cX12_test 41 = .ok (.istore_n 2, 1) := by decide +kernel
theorem dX12_test_42 : decode cX12_test 42 = .ok (.aload_n 0, 1) := by decide +kernel
theorem dX12_test_43 : decode cX12_test 43 = .ok (.invokevirtual 263, 3) := by decide +kernel
theorem dX12_test_46 : decode cX12_test 46 = .ok (.aload_n 0, 1) := by decide +kernel
theorem dX12_test_47 : decode cX12_test 47 = .ok (.iload_n 1, 1) := by decide +kernel
theorem dX12_test_48 : decode cX12_test 48 = .ok (.invokevirtual 272, 3) := by decide +kernel
theorem dX12_test_51 : decode cX12_test 51 = .ok (.ifCond .ne 5, 3) := by decide +kernel
theorem dX12_test_54 : decode cX12_test 54 = .ok (.iconst 0, 1) := by decide +kernel
theorem dX12_test_55 : decode cX12_test 55 = .ok (.ireturn, 1) := by decide +kernel
theorem dX12_test_56 : decode cX12_test 56 = .ok (.aload_n 0, 1) := by decide +kernel
theorem dX12_test_57 : decode cX12_test 57 = .ok (.iconst 2, 1) := by decide +kernel
theorem dX12_test_58 : decode cX12_test 58 = .ok (.iload_n 2, 1) := by decide +kernel
theorem dX12_test_59 : decode cX12_test 59 = .ok (.invokevirtual 266, 3) := by decide +kernel
theorem dX12_test_62 : decode cX12_test 62 = .ok (.iconst 1, 1) := by decide +kernel
theorem dX12_test_63 : decode cX12_test 63 = .ok (.ireturn, 1) := by decide +kernel
theorem dX12_sum_0 : decode cX12_sum 0 = .ok (.aload_n 0, 1) := by decide +kernel
theorem dX12_sum_1 : decode cX12_sum 1 = .ok (.iload_n 1, 1) := by decide +kernel
theorem dX12_sum_2 : decode cX12_sum 2 = .ok (.invokevirtual 275, 3) := by decide +kernel
theorem dX12_sum_5 : decode cX12_sum 5 = .ok (.ifCond .ne 5, 3) := by decide +kernel
theorem dX12_sum_8 : decode cX12_sum 8 = .ok (.iconst 0, 1) := by decide +kernel
theorem dX12_sum_9 : decode cX12_sum 9 = .ok (.ireturn, 1) := by decide +kernel
theorem dX12_sum_10 : decode cX12_sum 10 = .ok (.aload_n 0, 1) := by decide +kernel
theorem dX12_sum_11 : decode cX12_sum 11 = .ok (.bipush 43, 2) := by decide +kernel
theorem dX12_sum_13 : decode cX12_sum 13 = .ok (.invokevirtual 260, 3) := by decide +kernel
theorem dX12_sum_16 : decode cX12_sum 16 = .ok (.ifCond .ne 12, 3) := by decide +kernel
theorem dX12_sum_19 : decode cX12_sum 19 = .ok (.aload_n 0, 1) := by decide +kernel
theorem dX12_sum_20 : decode cX12_sum 20 = .ok (.bipush 45, 2) := by decide +kernel
theorem dX12_sum_22 : decode cX12_sum 22 = .ok (.invokevirtual 260, 3) := by decide +kernel
theorem dX12_sum_25 : decode cX12_sum 25 = .ok (.ifCond .eq 31, 3) := by decide +kernel
theorem dX12_sum_28 : decode cX12_sum 28 = .ok (.aload_n 0, 1) := by decide +kernel
theorem dX12_sum_29 : decode cX12_sum 29 = .ok (.getfield 238, 3) := by decide +kernel
theorem dX12_sum_32 : decode cX12_sum 32 = .ok (.istore_n 2, 1) := by decide +kernel
theorem dX12_sum_33 : decode cX12_sum 33 = .ok (.aload_n 0, 1) := by decide +kernel
theorem dX12_sum_34 : decode cX12_sum 34 = .ok (.invokevirtual 263, 3) := by decide +kernel
theorem dX12_sum_37 : decode cX12_sum 37 = .ok (.aload_n 0, 1) := by decide +kernel
theorem dX12_sum_38 : decode cX12_sum 38 = .ok (.iload_n 1, 1) := by decide +kernel
theorem dX12_sum_39 : decode cX12_sum 39 = .ok (.invokevirtual 275, 3) := by decide +kernel
theorem dX12_sum_42 : decode cX12_sum 42 = .ok (.ifCond .ne 5, 3) := by decide +kernel
theorem dX12_sum_45 : decode cX12_sum 45 = .ok (.iconst 0, 1) := by decide +kernel
theorem dX12_sum_46 : decode cX12_sum 46 = .ok (.ireturn, 1) := by decide +kernel
theorem dX12_sum_47 : decode cX12_sum 47 = .ok (.aload_n 0, 1) := by decide +kernel
theorem dX12_sum_48 : decode cX12_sum 48 = .ok (.iconst 2, 1) := by decide +kernel
theorem dX12_sum_49 : decode cX12_sum 49 = .ok (.iload_n 2, 1) := by decide +kernel
theorem dX12_sum_50 : decode cX12_sum 50 = .ok (.invokevirtual 266, 3) := by decide +kernel
theorem dX12_sum_53 : decode cX12_sum 53 = .ok (.goto (-43), 3) := by decide +kernel
theorem dX12_sum_56 : decode cX12_sum 56 = .ok (.iconst 1, 1) := by decide +kernel
theorem dX12_sum_57 : decode cX12_sum 57 = .ok (.ireturn, 1) := by decide +kernel
theorem dX12_term_0 : decode cX12_term 0 = .ok (.aload_n 0, 1) := by decide +kernel
theorem dX12_term_1 : decode cX12_term 1 = .ok (.iload_n 1, 1) := by decide +kernel
theorem dX12_term_2 : decode cX12_term 2 = .ok (.invokevirtual 278, 3) := by decide +kernel
theorem dX12_term_5 : decode cX12_term 5 = .ok (.ifCond .ne 5, 3) := by decide +kernel
theorem dX12_term_8 : decode cX12_term 8 = .ok (.iconst 0, 1) := by decide +kernel
theorem dX12_term_9 : decode cX12_term 9 = .ok (.ireturn, 1) := by decide +kernel
theorem dX12_term_10 : decode cX12_term 10 = .ok (.aload_n 0, 1) := by decide +kernel
theorem dX12_term_11 : decode cX12_term 11 = .ok (.bipush 42, 2) := by decide +kernel
theorem dX12_term_13 : decode cX12_term 13 = .ok (.invokevirtual 260, 3) := by decide +kernel
theorem dX12_term_16 : decode cX12_term 16 = .ok (.ifCond .ne 12, 3) := by decide +kernel
theorem dX12_term_19 : decode cX12_term 19 = .ok (.aload_n 0, 1) := by decide +kernel
theorem dX12_term_20 : decode cX12_term 20 = .ok (.bipush 47, 2) := by decide +kernel
theorem dX12_term_22 : decode cX12_term 22 = .ok (.invokevirtual 260, 3) := by decide +kernel
theorem dX12_term_25 : decode cX12_term 25 = .ok (.ifCond .eq 31, 3) := by decide +kernel
theorem dX12_term_28 : decode cX12_term 28 = .ok (.aload_n 0, 1) := by decide +kernel
theorem dX12_term_29 : decode cX12_term 29 = .ok (.getfield 238, 3) := by decide +kernel
theorem dX12_term_32 : decode cX12_term 32 = .ok (.istore_n 2, 1) := by decide +kernel
theorem dX12_term_33 : decode cX12_term 33 = .ok (.aload_n 0, 1) := by decide +kernel
theorem dX12_term_34 : decode cX12_term 34 = .ok (.invokevirtual 263, 3) := by decide +kernel
theorem dX12_term_37 : decode cX12_term 37 = .ok (.aload_n 0, 1) := by decide +kernel
theorem dX12_term_38 : decode cX12_term 38 = .ok (.iload_n 1, 1) := by decide +kernel
theorem dX12_term_39 : decode cX12_term 39 = .ok (.invokevirtual 278, 3) := by decide +kernel
theorem dX12_term_42 : decode cX12_term 42 = .ok (.ifCond .ne 5, 3) := by decide +kernel
theorem dX12_term_45 : decode cX12_term 45 = .ok (.iconst 0, 1) := by decide +kernel
theorem dX12_term_46 : decode cX12_term 46 = .ok (.ireturn, 1) := by decide +kernel
theorem dX12_term_47 : decode cX12_term 47 = .ok (.aload_n 0, 1) := by decide +kernel
theorem dX12_term_48 : decode cX12_term 48 = .ok (.iconst 2, 1) := by decide +kernel
theorem dX12_term_49 : decode cX12_term 49 = .ok (.iload_n 2, 1) := by decide +kernel
theorem dX12_term_50 : decode cX12_term 50 = .ok (.invokevirtual 266, 3) := by decide +kernel
theorem dX12_term_53 : decode cX12_term 53 = .ok (.goto (-43), 3) := by decide +kernel
