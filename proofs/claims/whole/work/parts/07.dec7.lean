theorem dX11_pour_72 : decode cX11_pour 72 = .ok (.bipush 99, 2) := by decide +kernel
theorem dX11_pour_74 : decode cX11_pour 74 = .ok (.aload_n 2, 1) := by decide +kernel
theorem dX11_pour_75 : decode cX11_pour 75 = .ok (.getfield 307, 3) := by decide +kernel
theorem dX11_pour_78 : decode cX11_pour 78 = .ok (.iload 4, 2) := by decide +kernel
theorem dX11_pour_80 : decode cX11_pour 80 = .ok (.iaload, 1) := by decide +kernel
theorem dX11_pour_81 : decode cX11_pour 81 = .ok (.invokestatic 123, 3) := by decide +kernel
theorem dX11_pour_84 : decode cX11_pour 84 = .ok (.invokestatic 312, 3) := by decide +kernel
theorem dX11_pour_87 : decode cX11_pour 87 = .ok (.istore 5, 2) := by decide +kernel
theorem dX11_pour_89 : decode cX11_pour 89 = .ok (.aload_n 0, 1) := by decide +kernel
theorem dX11_pour_90 : decode cX11_pour 90 = .ok (.getfield 36, 3) := by decide +kernel
theorem dX11_pour_93 : decode cX11_pour 93 = .ok (.getfield 106, 3) := by decide +kernel
theorem dX11_pour_96 : decode cX11_pour 96 = .ok (.iload 4, 2) := by decide +kernel
theorem dX11_pour_98 : decode cX11_pour 98 = .ok (.iload 5, 2) := by decide +kernel
theorem dX11_pour_100 : decode cX11_pour 100 = .ok (.invokestatic 119, 3) := by decide +kernel
theorem dX11_pour_103 : decode cX11_pour 103 = .ok (.iload 5, 2) := by decide +kernel
theorem dX11_pour_105 : decode cX11_pour 105 = .ok (.if_icmp .eq 6, 3) := by decide +kernel
theorem dX11_pour_108 : decode cX11_pour 108 = .ok (.iinc 3 1, 3) := by decide +kernel
theorem dX11_pour_111 : decode cX11_pour 111 = .ok (.iinc 4 1, 3) := by decide +kernel
theorem dX11_pour_114 : decode cX11_pour 114 = .ok (.goto (-79), 3) := by decide +kernel
theorem dX11_pour_117 : decode cX11_pour 117 = .ok (.iload_n 3, 1) := by decide +kernel
theorem dX11_pour_118 : decode cX11_pour 118 = .ok (.ireturn, 1) := by decide +kernel
theorem dX11_nearest_0 : decode cX11_nearest 0 = .ok (.iload_n 1, 1) := by decide +kernel
theorem dX11_nearest_1 : decode cX11_nearest 1 = .ok (.iconst 4, 1) := by decide +kernel
theorem dX11_nearest_2 : decode cX11_nearest 2 = .ok (.invokestatic 93, 3) := by decide +kernel
theorem dX11_nearest_5 : decode cX11_nearest 5 = .ok (.ifCond .eq 11, 3) := by decide +kernel
theorem dX11_nearest_8 : decode cX11_nearest 8 = .ok (.iload_n 2, 1) := by decide +kernel
theorem dX11_nearest_9 : decode cX11_nearest 9 = .ok (.iconst 2, 1) := by decide +kernel
theorem dX11_nearest_10 : decode cX11_nearest 10 = .ok (.invokestatic 93, 3) := by decide +kernel
theorem dX11_nearest_13 : decode cX11_nearest 13 = .ok (.ifCond .ne 6, 3) := by decide +kernel
theorem dX11_nearest_16 : decode cX11_nearest 16 = .ok (.ldc 97, 2) := by decide +kernel
theorem dX11_nearest_18 : decode cX11_nearest 18 = .ok (.ireturn, 1) := by decide +kernel
theorem dX11_nearest_19 : decode cX11_nearest 19 = .ok (.aload_n 0, 1) := by decide +kernel
theorem dX11_nearest_20 : decode cX11_nearest 20 = .ok (.getfield 69, 3) := by decide +kernel
theorem dX11_nearest_23 : decode cX11_nearest 23 = .ok (.iload_n 1, 1) := by decide +kernel
theorem dX11_nearest_24 : decode cX11_nearest 24 = .ok (.aaload, 1) := by decide +kernel
theorem dX11_nearest_25 : decode cX11_nearest 25 = .ok (.getfield 299, 3) := by decide +kernel
theorem dX11_nearest_28 : decode cX11_nearest 28 = .ok (.iconst (-1), 1) := by decide +kernel
theorem dX11_nearest_29 : decode cX11_nearest 29 = .ok (.if_icmp .ne 7, 3) := by decide +kernel
theorem dX11_nearest_32 : decode cX11_nearest 32 = .ok (.ldc_w 302, 3) := by decide +kernel
theorem dX11_nearest_35 : decode cX11_nearest 35 = .ok (.ireturn, 1) := by decide +kernel
theorem dX11_nearest_36 : decode cX11_nearest 36 = .ok (.aload_n 0, 1) := by decide +kernel
theorem dX11_nearest_37 : decode cX11_nearest 37 = .ok (.getfield 36, 3) := by decide +kernel
theorem dX11_nearest_40 : decode cX11_nearest 40 = .ok (.getfield 98, 3) := by decide +kernel
theorem dX11_nearest_43 : decode cX11_nearest 43 = .ok (.ifCond .ne 6, 3) := by decide +kernel
theorem dX11_nearest_46 : decode cX11_nearest 46 = .ok (.ldc 225, 2) := by decide +kernel
theorem dX11_nearest_48 : decode cX11_nearest 48 = .ok (.ireturn, 1) := by decide +kernel
theorem dX11_nearest_49 : decode cX11_nearest 49 = .ok (.aload_n 0, 1) := by decide +kernel
theorem dX11_nearest_50 : decode cX11_nearest 50 = .ok (.getfield 55, 3) := by decide +kernel
theorem dX11_nearest_53 : decode cX11_nearest 53 = .ok (.aload_n 0, 1) := by decide +kernel
theorem dX11_nearest_54 : decode cX11_nearest 54 = .ok (.getfield 36, 3) := by decide +kernel
theorem dX11_nearest_57 : decode cX11_nearest 57 = .ok (.invokevirtual 208, 3) := by decide +kernel
theorem dX11_nearest_60 : decode cX11_nearest 60 = .ok (.iconst 0, 1) := by decide +kernel
theorem dX11_nearest_61 : decode cX11_nearest 61 = .ok (.istore_n 3, 1) := by decide +kernel
theorem dX11_nearest_62 : decode cX11_nearest 62 = .ok (.aload_n 0, 1) := by decide +kernel
theorem dX11_nearest_63 : decode cX11_nearest 63 = .ok (.getfield 55, 3) := by decide +kernel
theorem dX11_nearest_66 : decode cX11_nearest 66 = .ok (.iconst 0, 1) := by decide +kernel
theorem dX11_nearest_67 : decode cX11_nearest 67 = .ok (.aload_n 0, 1) := by decide +kernel
theorem dX11_nearest_68 : decode cX11_nearest 68 = .ok (.getfield 69, 3) := by decide +kernel
theorem dX11_nearest_71 : decode cX11_nearest 71 = .ok (.iload_n 1, 1) := by decide +kernel
theorem dX11_nearest_72 : decode cX11_nearest 72 = .ok (.aaload, 1) := by decide +kernel
theorem dX11_nearest_73 : decode cX11_nearest 73 = .ok (.invokevirtual 315, 3) := by decide +kernel
theorem dX11_nearest_76 : decode cX11_nearest 76 = .ok (.istore 4, 2) := by decide +kernel
theorem dX11_nearest_78 : decode cX11_nearest 78 = .ok (.iconst 1, 1) := by decide +kernel
theorem dX11_nearest_79 : decode cX11_nearest 79 = .ok (.istore 5, 2) := by decide +kernel
theorem dX11_nearest_81 : decode cX11_nearest 81 = .ok (.iload 5, 2) := by decide +kernel
theorem dX11_nearest_83 : decode cX11_nearest 83 = .ok (.aload_n 0, 1) := by decide +kernel
theorem dX11_nearest_84 : decode cX11_nearest 84 = .ok (.getfield 36, 3) := by decide +kernel
theorem dX11_nearest_87 : decode cX11_nearest 87 = .ok (.getfield 98, 3) := by decide +kernel
theorem dX11_nearest_90 : decode cX11_nearest 90 = .ok (.if_icmp .ge 40, 3) := by decide +kernel
theorem dX11_nearest_93 : decode cX11_nearest 93 = .ok (.aload_n 0, 1) := by decide +kernel
theorem dX11_nearest_94 : decode cX11_nearest 94 = .ok (.getfield 55, 3) := by decide +kernel
theorem dX11_nearest_97 : decode cX11_nearest 97 = .ok (.iload 5, 2) := by decide +kernel
theorem dX11_nearest_99 : decode cX11_nearest 99 = .ok (.aload_n 0, 1) := by decide +kernel
theorem dX11_nearest_100 : decode cX11_nearest 100 = .ok (.getfield 69, 3) := by decide +kernel
theorem dX11_nearest_103 : decode cX11_nearest 103 = .ok (.iload_n 1, 1) := by decide +kernel
theorem dX11_nearest_104 : decode cX11_nearest 104 = .ok (.aaload, 1) := by decide +kernel
theorem dX11_nearest_105 : decode cX11_nearest 105 = .ok (.invokevirtual 315, 3) := by decide +kernel
theorem dX11_nearest_108 : decode cX11_nearest 108 = .ok (.istore 6, 2) := by decide +kernel
theorem dX11_nearest_110 : decode cX11_nearest 110 = .ok (.iload 6, 2) := by decide +kernel
theorem dX11_nearest_112 : decode cX11_nearest 112 = .ok (.iload 4, 2) := by decide +kernel
theorem dX11_nearest_114 : decode cX11_nearest 114 = .ok (.if_icmp .ge 10, 3) := by decide +kernel
theorem dX11_nearest_117 : decode cX11_nearest 117 = .ok (.iload 5, 2) := by decide +kernel
theorem dX11_nearest_119 : decode cX11_nearest 119 = .ok (.istore_n 3, 1) := by decide +kernel
theorem dX11_nearest_120 : decode cX11_nearest 120 = .ok (.iload 6, 2) := by decide +kernel
theorem dX11_nearest_122 : decode cX11_nearest 122 = .ok (.istore 4, 2) := by decide +kernel
theorem dX11_nearest_124 : decode cX11_nearest 124 = .ok (.iinc 5 1, 3) := by decide +kernel
theorem dX11_nearest_127 : decode cX11_nearest 127 = .ok (.goto (-46), 3) := by decide +kernel
theorem dX11_nearest_130 : decode cX11_nearest 130 = .ok (.iload_n 2, 1) := by decide +kernel
theorem dX11_nearest_131 : decode cX11_nearest 131 = .ok (.ifCond .ne 7, 3) := by decide +kernel
theorem dX11_nearest_134 : decode cX11_nearest 134 = .ok (.iload_n 3, 1) := by decide +kernel
theorem dX11_nearest_135 : decode cX11_nearest 135 = .ok (.goto 5, 3) := by decide +kernel
theorem dX11_nearest_138 : decode cX11_nearest 138 = .ok (.iload 4, 2) := by decide +kernel
theorem dX11_nearest_140 : decode cX11_nearest 140 = .ok (.ireturn, 1) := by decide +kernel
theorem dX11_copy_0 : decode cX11_copy 0 = .ok (.iload_n 1, 1) := by decide +kernel
theorem dX11_copy_1 : decode cX11_copy 1 = .ok (.iconst 4, 1) := by decide +kernel
theorem dX11_copy_2 : decode cX11_copy 2 = .ok (.invokestatic 93, 3) := by decide +kernel
theorem dX11_copy_5 : decode cX11_copy 5 = .ok (.ifCond .eq 11, 3) := by decide +kernel
theorem dX11_copy_8 : decode cX11_copy 8 = .ok (.iload_n 3, 1) := by decide +kernel
theorem dX11_copy_9 : decode cX11_copy 9 = .ok (.iconst 4, 1) := by decide +kernel
theorem dX11_copy_10 : decode cX11_copy 10 = .ok (.invokestatic 93, 3) := by decide +kernel
theorem dX11_copy_13 : decode cX11_copy 13 = .ok (.ifCond .ne 6, 3) := by decide +kernel
theorem dX11_copy_16 : decode cX11_copy 16 = .ok (.ldc 97, 2) := by decide +kernel
theorem dX11_copy_18 : decode cX11_copy 18 = .ok (.ireturn, 1) := by decide +kernel
theorem dX11_copy_19 : decode cX11_copy 19 = .ok (.aload_n 0, 1) := by decide +kernel
theorem dX11_copy_20 : decode cX11_copy 20 = .ok (.getfield 69, 3) := by decide +kernel
theorem dX11_copy_23 : decode cX11_copy 23 = .ok (.iload_n 1, 1) := by decide +kernel
theorem dX11_copy_24 : decode cX11_copy 24 = .ok (.aaload, 1) := by decide +kernel
theorem dX11_copy_25 : decode cX11_copy 25 = .ok (.astore 6, 2) := by decide +kernel
theorem dX11_copy_27 : decode cX11_copy 27 = .ok (.aload_n 0, 1) := by decide +kernel
theorem dX11_copy_28 : decode cX11_copy 28 = .ok (.getfield 69, 3) := by decide +kernel
theorem dX11_copy_31 : decode cX11_copy 31 = .ok (.iload_n 3, 1) := by decide +kernel
theorem dX11_copy_32 : decode cX11_copy 32 = .ok (.aaload, 1) := by decide +kernel
theorem dX11_copy_33 : decode cX11_copy 33 = .ok (.astore 7, 2) := by decide +kernel
theorem dX11_copy_35 : decode cX11_copy 35 = .ok (.aload 6, 2) := by decide +kernel
theorem dX11_copy_37 : decode cX11_copy 37 = .ok (.getfield 299, 3) := by decide +kernel
theorem dX11_copy_40 : decode cX11_copy 40 = .ok (.iconst (-1), 1) := by decide +kernel
theorem dX11_copy_41 : decode cX11_copy 41 = .ok (.if_icmp .eq 12, 3) := by decide +kernel
theorem dX11_copy_44 : decode cX11_copy 44 = .ok (.aload 7, 2) := by decide +kernel
theorem dX11_copy_46 : decode cX11_copy 46 = .ok (.getfield 299, 3) := by decide +kernel
theorem dX11_copy_49 : decode cX11_copy 49 = .ok (.iconst (-1), 1) := by decide +kernel
theorem dX11_copy_50 : decode cX11_copy 50 = .ok (.if_icmp .ne 7, 3) := by decide +kernel
theorem dX11_copy_53 : decode cX11_copy 53 = .ok (.ldc_w 302, 3) := by decide +kernel
theorem dX11_copy_56 : decode cX11_copy 56 = .ok (.ireturn, 1) := by decide +kernel
theorem dX11_copy_57 : decode cX11_copy 57 = .ok (.aload 6, 2) := by decide +kernel
theorem dX11_copy_59 : decode cX11_copy 59 = .ok (.getfield 299, 3) := by decide +kernel
theorem dX11_copy_62 : decode cX11_copy 62 = .ok (.aload 7, 2) := by decide +kernel
theorem dX11_copy_64 : decode cX11_copy 64 = .ok (.getfield 299, 3) := by decide +kernel
theorem dX11_copy_67 : decode cX11_copy 67 = .ok (.if_icmp .eq 6, 3) := by decide +kernel
theorem dX11_copy_70 : decode cX11_copy 70 = .ok (.ldc 182, 2) := by decide +kernel
theorem dX11_copy_72 : decode cX11_copy 72 = .ok (.ireturn, 1) := by decide +kernel
theorem dX11_copy_73 : decode cX11_copy 73 = .ok (.aload 6, 2) := by decide +kernel
theorem dX11_copy_75 : decode cX11_copy 75 = .ok (.iload_n 2, 1) := by decide +kernel
theorem dX11_copy_76 : decode cX11_copy 76 = .ok (.iload 5, 2) := by decide +kernel
theorem dX11_copy_78 : decode cX11_copy 78 = .ok (.invokevirtual 319, 3) := by decide +kernel
theorem dX11_copy_81 : decode cX11_copy 81 = .ok (.ifCond .eq 15, 3) := by decide +kernel
theorem dX11_copy_84 : decode cX11_copy 84 = .ok (.aload 7, 2) := by decide +kernel
theorem dX11_copy_86 : decode cX11_copy 86 = .ok (.iload 4, 2) := by decide +kernel
theorem dX11_copy_88 : decode cX11_copy 88 = .ok (.iload 5, 2) := by decide +kernel
theorem dX11_copy_90 : decode cX11_copy 90 = .ok (.invokevirtual 319, 3) := by decide +kernel
theorem dX11_copy_93 : decode cX11_copy 93 = .ok (.ifCond .ne 7, 3) := by decide +kernel
theorem dX11_copy_96 : decode cX11_copy 96 = .ok (.ldc_w 306, 3) := by decide +kernel
theorem dX11_copy_99 : decode cX11_copy 99 = .ok (.ireturn, 1) := by decide +kernel
theorem dX11_copy_100 : decode cX11_copy 100 = .ok (.aload 6, 2) := by decide +kernel
theorem dX11_copy_102 : decode cX11_copy 102 = .ok (.getfield 307, 3) := by decide +kernel
theorem dX11_copy_105 : decode cX11_copy 105 = .ok (.iload_n 2, 1) := by decide +kernel
theorem dX11_copy_106 : decode cX11_copy 106 = .ok (.aload 7, 2) := by decide +kernel
theorem dX11_copy_108 : decode cX11_copy 108 = .ok (.getfield 307, 3) := by decide +kernel
theorem dX11_copy_111 : decode cX11_copy 111 = .ok (.iload 4, 2) := by decide +kernel
theorem dX11_copy_113 : decode cX11_copy 113 = .ok (.iload 5, 2) := by decide +kernel
theorem dX11_copy_115 : decode cX11_copy 115 = .ok (.invokestatic 322, 3) := by decide +kernel
theorem dX11_copy_118 : decode cX11_copy 118 = .ok (.iload 5, 2) := by decide +kernel
theorem dX11_copy_120 : decode cX11_copy 120 = .ok (.ireturn, 1) := by decide +kernel
theorem dX11_lay_0 : decode cX11_lay 0 = .ok (.iload_n 1, 1) := by decide +kernel
theorem dX11_lay_1 : decode cX11_lay 1 = .ok (.iconst 5, 1) := by decide +kernel
theorem dX11_lay_2 : decode cX11_lay 2 = .ok (.invokestatic 93, 3) := by decide +kernel
theorem dX11_lay_5 : decode cX11_lay 5 = .ok (.ifCond .eq 12, 3) := by decide +kernel
theorem dX11_lay_8 : decode cX11_lay 8 = .ok (.iload_n 2, 1) := by decide +kernel
theorem dX11_lay_9 : decode cX11_lay 9 = .ok (.ifCond .lt 8, 3) := by decide +kernel
theorem dX11_lay_12 : decode cX11_lay 12 = .ok (.iload_n 2, 1) := by decide +kernel
theorem dX11_lay_13 : decode cX11_lay 13 = .ok (.iconst 3, 1) := by decide +kernel
theorem dX11_lay_14 : decode cX11_lay 14 = .ok (.if_icmp .le 6, 3) := by decide +kernel
theorem dX11_lay_17 : decode cX11_lay 17 = .ok (.ldc 97, 2) := by decide +kernel
theorem dX11_lay_19 : decode cX11_lay 19 = .ok (.ireturn, 1) := by decide +kernel
theorem dX11_lay_20 : decode cX11_lay 20 = .ok (.iload_n 2, 1) := by decide +kernel
theorem dX11_lay_21 : decode cX11_lay 21 = .ok (.iconst 1, 1) := by decide +kernel
theorem dX11_lay_22 : decode cX11_lay 22 = .ok (.if_icmp .ne 20, 3) := by decide +kernel
theorem dX11_lay_25 : decode cX11_lay 25 = .ok (.iload_n 3, 1) := by decide +kernel
theorem dX11_lay_26 : decode cX11_lay 26 = .ok (.aload_n 0, 1) := by decide +kernel
theorem dX11_lay_27 : decode cX11_lay 27 = .ok (.getfield 36, 3) := by decide +kernel
theorem dX11_lay_30 : decode cX11_lay 30 = .ok (.getfield 139, 3) := by decide +kernel
theorem dX11_lay_33 : decode cX11_lay 33 = .ok (.invokestatic 93, 3) := by decide +kernel
theorem dX11_lay_36 : decode cX11_lay 36 = .ok (.ifCond .ne 6, 3) := by decide +kernel
theorem dX11_lay_39 : decode cX11_lay 39 = .ok (.ldc 97, 2) := by decide +kernel
theorem dX11_lay_41 : decode cX11_lay 41 = .ok (.ireturn, 1) := by decide +kernel
theorem dX11_lay_42 : decode cX11_lay 42 = .ok (.iload_n 2, 1) := by decide +kernel
theorem dX11_lay_43 : decode cX11_lay 43 = .ok (.iconst 2, 1) := by decide +kernel
theorem dX11_lay_44 : decode cX11_lay 44 = .ok (.if_icmp .ne 14, 3) := by decide +kernel
theorem dX11_lay_47 : decode cX11_lay 47 = .ok (.iload_n 3, 1) := by decide +kernel
theorem dX11_lay_48 : decode cX11_lay 48 = .ok (.iconst 4, 1) := by decide +kernel
theorem dX11_lay_49 : decode cX11_lay 49 = .ok (.invokestatic 93, 3) := by decide +kernel
theorem dX11_lay_52 : decode cX11_lay 52 = .ok (.ifCond .ne 6, 3) := by decide +kernel
theorem dX11_lay_55 : decode cX11_lay 55 = .ok (.ldc 97, 2) := by decide +kernel
theorem dX11_lay_57 : decode cX11_lay 57 = .ok (.ireturn, 1) := by decide +kernel
theorem dX11_lay_58 : decode cX11_lay 58 = .ok (.iload_n 2, 1) := by decide +kernel
theorem dX11_lay_59 : decode cX11_lay 59 = .ok (.iconst 2, 1) := by decide +kernel
theorem dX11_lay_60 : decode cX11_lay 60 = .ok (.if_icmp .ne 20, 3) := by decide +kernel
theorem dX11_lay_63 : decode cX11_lay 63 = .ok (.aload_n 0, 1) := by decide +kernel
theorem dX11_lay_64 : decode cX11_lay 64 = .ok (.getfield 69, 3) := by decide +kernel
theorem dX11_lay_67 : decode cX11_lay 67 = .ok (.iload_n 3, 1) := by decide +kernel
theorem dX11_lay_68 : decode cX11_lay 68 = .ok (.aaload, 1) := by decide +kernel
theorem dX11_lay_69 : decode cX11_lay 69 = .ok (.getfield 299, 3) := by decide +kernel
theorem dX11_lay_72 : decode cX11_lay 72 = .ok (.iconst (-1), 1) := by decide +kernel
theorem dX11_lay_73 : decode cX11_lay 73 = .ok (.if_icmp .ne 7, 3) := by decide +kernel
theorem dX11_lay_76 : decode cX11_lay 76 = .ok (.ldc_w 302, 3) := by decide +kernel
theorem dX11_lay_79 : decode cX11_lay 79 = .ok (.ireturn, 1) := by decide +kernel
theorem dX11_lay_80 : decode cX11_lay 80 = .ok (.iload_n 2, 1) := by decide +kernel
theorem dX11_lay_81 : decode cX11_lay 81 = .ok (.iconst 1, 1) := by decide +kernel
theorem dX11_lay_82 : decode cX11_lay 82 = .ok (.if_icmp .ne 36, 3) := by decide +kernel
theorem dX11_lay_85 : decode cX11_lay 85 = .ok (.aload_n 0, 1) := by decide +kernel
theorem dX11_lay_86 : decode cX11_lay 86 = .ok (.getfield 77, 3) := by decide +kernel
theorem dX11_lay_89 : decode cX11_lay 89 = .ok (.iload_n 1, 1) := by decide +kernel
theorem dX11_lay_90 : decode cX11_lay 90 = .ok (.aload_n 0, 1) := by decide +kernel
theorem dX11_lay_91 : decode cX11_lay 91 = .ok (.getfield 36, 3) := by decide +kernel
theorem dX11_lay_94 : decode cX11_lay 94 = .ok (.getfield 146, 3) := by decide +kernel
theorem dX11_lay_97 : decode cX11_lay 97 = .ok (.iload_n 3, 1) := by decide +kernel
theorem dX11_lay_98 : decode cX11_lay 98 = .ok (.iaload, 1) := by decide +kernel
theorem dX11_lay_99 : decode cX11_lay 99 = .ok (.iastore, 1) := by decide +kernel
theorem dX11_lay_100 : decode cX11_lay 100 = .ok (.aload_n 0, 1) := by decide +kernel
theorem dX11_lay_101 : decode cX11_lay 101 = .ok (.getfield 80, 3) := by decide +kernel
theorem dX11_lay_104 : decode cX11_lay 104 = .ok (.iload_n 1, 1) := by decide +kernel
theorem dX11_lay_105 : decode cX11_lay 105 = .ok (.aload_n 0, 1) := by decide +kernel
theorem dX11_lay_106 : decode cX11_lay 106 = .ok (.getfield 36, 3) := by decide +kernel
theorem dX11_lay_109 : decode cX11_lay 109 = .ok (.getfield 149, 3) := by decide +kernel
theorem dX11_lay_112 : decode cX11_lay 112 = .ok (.iload_n 3, 1) := by decide +kernel
theorem dX11_lay_113 : decode cX11_lay 113 = .ok (.iaload, 1) := by decide +kernel
theorem dX11_lay_114 : decode cX11_lay 114 = .ok (.iastore, 1) := by decide +kernel
theorem dX11_lay_115 : decode cX11_lay 115 = .ok (.goto 33, 3) := by decide +kernel
theorem dX11_lay_118 : decode cX11_lay 118 = .ok (.iload_n 2, 1) := by decide +kernel
theorem dX11_lay_119 : decode cX11_lay 119 = .ok (.iconst 2, 1) := by decide +kernel
theorem dX11_lay_120 : decode cX11_lay 120 = .ok (.if_icmp .ne 21, 3) := by decide +kernel
theorem dX11_lay_123 : decode cX11_lay 123 = .ok (.aload_n 0, 1) := by decide +kernel
theorem dX11_lay_124 : decode cX11_lay 124 = .ok (.getfield 83, 3) := by decide +kernel
theorem dX11_lay_127 : decode cX11_lay 127 = .ok (.iload_n 1, 1) := by decide +kernel
theorem dX11_lay_128 : decode cX11_lay 128 = .ok (.aaload, 1) := by decide +kernel
theorem dX11_lay_129 : decode cX11_lay 129 = .ok (.aload_n 0, 1) := by decide +kernel
theorem dX11_lay_130 : decode cX11_lay 130 = .ok (.getfield 69, 3) := by decide +kernel
theorem dX11_lay_133 : decode cX11_lay 133 = .ok (.iload_n 3, 1) := by decide +kernel
theorem dX11_lay_134 : decode cX11_lay 134 = .ok (.aaload, 1) := by decide +kernel
theorem dX11_lay_135 : decode cX11_lay 135 = .ok (.invokevirtual 328, 3) := by decide +kernel
theorem dX11_lay_138 : decode cX11_lay 138 = .ok (.goto 10, 3) := by decide +kernel
theorem dX11_lay_141 : decode cX11_lay 141 = .ok (.aload_n 0, 1) := by decide +kernel
theorem dX11_lay_142 : decode cX11_lay 142 = .ok (.getfield 80, 3) := by decide +kernel
theorem dX11_lay_145 : decode cX11_lay 145 = .ok (.iload_n 1, 1) := by decide +kernel
theorem dX11_lay_146 : decode cX11_lay 146 = .ok (.iload_n 3, 1) := by decide +kernel
theorem dX11_lay_147 : decode cX11_lay 147 = .ok (.iastore, 1) := by decide +kernel
theorem dX11_lay_148 : decode cX11_lay 148 = .ok (.aload_n 0, 1) := by decide +kernel
theorem dX11_lay_149 : decode cX11_lay 149 = .ok (.getfield 73, 3) := by decide +kernel
theorem dX11_lay_152 : decode cX11_lay 152 = .ok (.iload_n 1, 1) := by decide +kernel
theorem dX11_lay_153 : decode cX11_lay 153 = .ok (.iload_n 2, 1) := by decide +kernel
theorem dX11_lay_154 : decode cX11_lay 154 = .ok (.invokestatic 119, 3) := by decide +kernel
theorem dX11_lay_157 : decode cX11_lay 157 = .ok (.ireturn, 1) := by decide +kernel
theorem dX11_ask_0 : decode cX11_ask 0 = .ok (.iload_n 1, 1) := by decide +kernel
theorem dX11_ask_1 : decode cX11_ask 1 = .ok (.iconst 5, 1) := by decide +kernel
theorem dX11_ask_2 : decode cX11_ask 2 = .ok (.invokestatic 93, 3) := by decide +kernel
theorem dX11_ask_5 : decode cX11_ask 5 = .ok (.ifCond .eq 12, 3) := by decide +kernel
theorem dX11_ask_8 : decode cX11_ask 8 = .ok (.iload_n 2, 1) := by decide +kernel
theorem dX11_ask_9 : decode cX11_ask 9 = .ok (.bipush 6, 2) := by decide +kernel
theorem dX11_ask_11 : decode cX11_ask 11 = .ok (.invokestatic 93, 3) := by decide +kernel
theorem dX11_ask_14 : decode cX11_ask 14 = .ok (.ifCond .ne 6, 3) := by decide +kernel
theorem dX11_ask_17 : decode cX11_ask 17 = .ok (.ldc 97, 2) := by decide +kernel
theorem dX11_ask_19 : decode cX11_ask 19 = .ok (.ireturn, 1) := by decide +kernel
theorem dX11_ask_20 : decode cX11_ask 20 = .ok (.aload_n 0, 1) := by decide +kernel
theorem dX11_ask_21 : decode cX11_ask 21 = .ok (.iload_n 1, 1) := by decide +kernel
theorem dX11_ask_22 : decode cX11_ask 22 = .ok (.iconst 1, 1) := by decide +kernel
theorem dX11_ask_23 : decode cX11_ask 23 = .ok (.invokevirtual 332, 3) := by decide +kernel
theorem dX11_ask_26 : decode cX11_ask 26 = .ok (.istore_n 3, 1) := by decide +kernel
theorem dX11_ask_27 : decode cX11_ask 27 = .ok (.iload_n 3, 1) := by decide +kernel
theorem dX11_ask_28 : decode cX11_ask 28 = .ok (.ifCond .eq 5, 3) := by decide +kernel
theorem dX11_ask_31 : decode cX11_ask 31 = .ok (.iload_n 3, 1) := by decide +kernel
theorem dX11_ask_32 : decode cX11_ask 32 = .ok (.ireturn, 1) := by decide +kernel
theorem dX11_ask_33 : decode cX11_ask 33 = .ok (.aload_n 0, 1) := by decide +kernel
theorem dX11_ask_34 : decode cX11_ask 34 = .ok (.getfield 25, 3) := by decide +kernel
theorem dX11_ask_37 : decode cX11_ask 37 = .ok (.aload_n 0, 1) := by decide +kernel
theorem dX11_ask_38 : decode cX11_ask 38 = .ok (.getfield 77, 3) := by decide +kernel
theorem dX11_ask_41 : decode cX11_ask 41 = .ok (.iload_n 1, 1) := by decide +kernel
theorem dX11_ask_42 : decode cX11_ask 42 = .ok (.iaload, 1) := by decide +kernel
theorem dX11_ask_43 : decode cX11_ask 43 = .ok (.aaload, 1) := by decide +kernel
theorem dX11_ask_44 : decode cX11_ask 44 = .ok (.astore 4, 2) := by decide +kernel
theorem dX11_ask_46 : decode cX11_ask 46 = .ok (.aload 4, 2) := by decide +kernel
theorem dX11_ask_48 : decode cX11_ask 48 = .ok (.iload_n 2, 1) := by decide +kernel
theorem dX11_ask_49 : decode cX11_ask 49 = .ok (.invokevirtual 179, 3) := by decide +kernel
theorem dX11_ask_52 : decode cX11_ask 52 = .ok (.ifCond .eq 17, 3) := by decide +kernel
theorem dX11_ask_55 : decode cX11_ask 55 = .ok (.aload 4, 2) := by decide +kernel
theorem dX11_ask_57 : decode cX11_ask 57 = .ok (.aload_n 0, 1) := by decide +kernel
theorem dX11_ask_58 : decode cX11_ask 58 = .ok (.getfield 80, 3) := by decide +kernel
theorem dX11_ask_61 : decode cX11_ask 61 = .ok (.iload_n 1, 1) := by decide +kernel
theorem dX11_ask_62 : decode cX11_ask 62 = .ok (.iaload, 1) := by decide +kernel
theorem dX11_ask_63 : decode cX11_ask 63 = .ok (.invokevirtual 173, 3) := by decide +kernel
theorem dX11_ask_66 : decode cX11_ask 66 = .ok (.goto 5, 3) := by decide +kernel
theorem dX11_ask_69 : decode cX11_ask 69 = .ok (.ldc 182, 2) := by decide +kernel
theorem dX11_ask_71 : decode cX11_ask 71 = .ok (.ireturn, 1) := by decide +kernel
theorem dX11_item_0 : decode cX11_item 0 = .ok (.iload_n 1, 1) := by decide +kernel
theorem dX11_item_1 : decode cX11_item 1 = .ok (.iconst 5, 1) := by decide +kernel
theorem dX11_item_2 : decode cX11_item 2 = .ok (.invokestatic 93, 3) := by decide +kernel
theorem dX11_item_5 : decode cX11_item 5 = .ok (.ifCond .ne 6, 3) := by decide +kernel
theorem dX11_item_8 : decode cX11_item 8 = .ok (.ldc 97, 2) := by decide +kernel
theorem dX11_item_10 : decode cX11_item 10 = .ok (.ireturn, 1) := by decide +kernel
theorem dX11_item_11 : decode cX11_item 11 = .ok (.aload_n 0, 1) := by decide +kernel
theorem dX11_item_12 : decode cX11_item 12 = .ok (.iload_n 1, 1) := by decide +kernel
theorem dX11_item_13 : decode cX11_item 13 = .ok (.iconst 2, 1) := by decide +kernel
theorem dX11_item_14 : decode cX11_item 14 = .ok (.invokevirtual 332, 3) := by decide +kernel
theorem dX11_item_17 : decode cX11_item 17 = .ok (.istore_n 3, 1) := by decide +kernel
theorem dX11_item_18 : decode cX11_item 18 = .ok (.iload_n 3, 1) := by decide +kernel
theorem dX11_item_19 : decode cX11_item 19 = .ok (.ifCond .eq 5, 3) := by decide +kernel
theorem dX11_item_22 : decode cX11_item 22 = .ok (.iload_n 3, 1) := by decide +kernel
theorem dX11_item_23 : decode cX11_item 23 = .ok (.ireturn, 1) := by decide +kernel
theorem dX11_item_24 : decode cX11_item 24 = .ok (.aload_n 0, 1) := by decide +kernel
theorem dX11_item_25 : decode cX11_item 25 = .ok (.getfield 83, 3) := by decide +kernel
theorem dX11_item_28 : decode cX11_item 28 = .ok (.iload_n 1, 1) := by decide +kernel
theorem dX11_item_29 : decode cX11_item 29 = .ok (.aaload, 1) := by decide +kernel
theorem dX11_item_30 : decode cX11_item 30 = .ok (.astore 4, 2) := by decide +kernel
theorem dX11_item_32 : decode cX11_item 32 = .ok (.iload_n 2, 1) := by decide +kernel
theorem dX11_item_33 : decode cX11_item 33 = .ok (.aload 4, 2) := by decide +kernel
theorem dX11_item_35 : decode cX11_item 35 = .ok (.getfield 303, 3) := by decide +kernel
theorem dX11_item_38 : decode cX11_item 38 = .ok (.invokestatic 93, 3) := by decide +kernel
theorem dX11_item_41 : decode cX11_item 41 = .ok (.ifCond .ne 7, 3) := by decide +kernel
theorem dX11_item_44 : decode cX11_item 44 = .ok (.ldc_w 306, 3) := by decide +kernel
theorem dX11_item_47 : decode cX11_item 47 = .ok (.ireturn, 1) := by decide +kernel
theorem dX11_item_48 : decode cX11_item 48 = .ok (.aload 4, 2) := by decide +kernel
theorem dX11_item_50 : decode cX11_item 50 = .ok (.getfield 307, 3) := by decide +kernel
theorem dX11_item_53 : decode cX11_item 53 = .ok (.iload_n 2, 1) := by decide +kernel
theorem dX11_item_54 : decode cX11_item 54 = .ok (.iaload, 1) := by decide +kernel
theorem dX11_item_55 : decode cX11_item 55 = .ok (.ldc 225, 2) := by decide +kernel
theorem dX11_item_57 : decode cX11_item 57 = .ok (.if_icmp .ne 8, 3) := by decide +kernel
theorem dX11_item_60 : decode cX11_item 60 = .ok (.ldc 182, 2) := by decide +kernel
theorem dX11_item_62 : decode cX11_item 62 = .ok (.goto 10, 3) := by decide +kernel
theorem dX11_item_65 : decode cX11_item 65 = .ok (.aload 4, 2) := by decide +kernel
theorem dX11_item_67 : decode cX11_item 67 = .ok (.getfield 307, 3) := by decide +kernel
theorem dX11_item_70 : decode cX11_item 70 = .ok (.iload_n 2, 1) := by decide +kernel
theorem dX11_item_71 : decode cX11_item 71 = .ok (.iaload, 1) := by decide +kernel
theorem dX11_item_72 : decode cX11_item 72 = .ok (.ireturn, 1) := by decide +kernel
theorem dX11_rest_0 : decode cX11_rest 0 = .ok (.iload_n 1, 1) := by decide +kernel
theorem dX11_rest_1 : decode cX11_rest 1 = .ok (.iconst 5, 1) := by decide +kernel
theorem dX11_rest_2 : decode cX11_rest 2 = .ok (.invokestatic 93, 3) := by decide +kernel
theorem dX11_rest_5 : decode cX11_rest 5 = .ok (.ifCond .ne 6, 3) := by decide +kernel
theorem dX11_rest_8 : decode cX11_rest 8 = .ok (.ldc 97, 2) := by decide +kernel
theorem dX11_rest_10 : decode cX11_rest 10 = .ok (.ireturn, 1) := by decide +kernel
theorem dX11_rest_11 : decode cX11_rest 11 = .ok (.aload_n 0, 1) := by decide +kernel
theorem dX11_rest_12 : decode cX11_rest 12 = .ok (.iload_n 1, 1) := by decide +kernel
theorem dX11_rest_13 : decode cX11_rest 13 = .ok (.iconst 3, 1) := by decide +kernel
theorem dX11_rest_14 : decode cX11_rest 14 = .ok (.invokevirtual 332, 3) := by decide +kernel
theorem dX11_rest_17 : decode cX11_rest 17 = .ok (.istore_n 3, 1) := by decide +kernel
theorem dX11_rest_18 : decode cX11_rest 18 = .ok (.iload_n 3, 1) := by decide +kernel
theorem dX11_rest_19 : decode cX11_rest 19 = .ok (.ifCond .eq 5, 3) := by decide +kernel
theorem dX11_rest_22 : decode cX11_rest 22 = .ok (.iload_n 3, 1) := by decide +kernel
theorem dX11_rest_23 : decode cX11_rest 23 = .ok (.ireturn, 1) := by decide +kernel
theorem dX11_rest_24 : decode cX11_rest 24 = .ok (.iload_n 2, 1) := by decide +kernel
theorem dX11_rest_25 : decode cX11_rest 25 = .ok (.ifCond .ne 8, 3) := by decide +kernel
theorem dX11_rest_28 : decode cX11_rest 28 = .ok (.ldc 204, 2) := by decide +kernel
theorem dX11_rest_30 : decode cX11_rest 30 = .ok (.goto 11, 3) := by decide +kernel
theorem dX11_rest_33 : decode cX11_rest 33 = .ok (.aload_n 0, 1) := by decide +kernel
theorem dX11_rest_34 : decode cX11_rest 34 = .ok (.getfield 80, 3) := by decide +kernel
theorem dX11_rest_37 : decode cX11_rest 37 = .ok (.iload_n 1, 1) := by decide +kernel
theorem dX11_rest_38 : decode cX11_rest 38 = .ok (.iaload, 1) := by decide +kernel
theorem dX11_rest_39 : decode cX11_rest 39 = .ok (.iload_n 2, 1) := by decide +kernel
theorem dX11_rest_40 : decode cX11_rest 40 = .ok (.irem, 1) := by decide +kernel
theorem dX11_rest_41 : decode cX11_rest 41 = .ok (.ireturn, 1) := by decide +kernel
theorem dX11_tell_0 : decode cX11_tell 0 = .ok (.aload_n 0, 1) := by decide +kernel
theorem dX11_tell_1 : decode cX11_tell 1 = .ok (.getfield 89, 3) := by decide +kernel
theorem dX11_tell_4 : decode cX11_tell 4 = .ok (.bipush 60, 2) := by decide +kernel
theorem dX11_tell_6 : decode cX11_tell 6 = .ok (.if_icmp .lt 6, 3) := by decide +kernel
theorem dX11_tell_9 : decode cX11_tell 9 = .ok (.ldc 101, 2) := by decide +kernel
theorem dX11_tell_11 : decode cX11_tell 11 = .ok (.ireturn, 1) := by decide +kernel
theorem dX11_tell_12 : decode cX11_tell 12 = .ok (.aload_n 0, 1) := by decide +kernel
theorem dX11_tell_13 : decode cX11_tell 13 = .ok (.getfield 86, 3) := by decide +kernel
theorem dX11_tell_16 : decode cX11_tell 16 = .ok (.aload_n 0, 1) := by decide +kernel
theorem dX11_tell_17 : decode cX11_tell 17 = .ok (.getfield 89, 3) := by decide +kernel
theorem dX11_tell_20 : decode cX11_tell 20 = .ok (.iload_n 1, 1) := by decide +kernel
theorem dX11_tell_21 : decode cX11_tell 21 = .ok (.iastore, 1) := by decide +kernel
theorem dX11_tell_22 : decode cX11_tell 22 = .ok (.aload_n 0, 1) := by decide +kernel
theorem dX11_tell_23 : decode cX11_tell 23 = .ok (.dup, 1) := by decide +kernel
theorem dX11_tell_24 : decode cX11_tell 24 = .ok (.getfield 89, 3) := by decide +kernel
theorem dX11_tell_27 : decode cX11_tell 27 = .ok (.iconst 1, 1) := by decide +kernel
theorem dX11_tell_28 : decode cX11_tell 28 = .ok (.iadd, 1) := by decide +kernel
theorem dX11_tell_29 : decode cX11_tell 29 = .ok (.putfield 89, 3) := by decide +kernel
theorem dX11_tell_32 : decode cX11_tell 32 = .ok (.aload_n 0, 1) := by decide +kernel
theorem dX11_tell_33 : decode cX11_tell 33 = .ok (.getfield 89, 3) := by decide +kernel
theorem dX11_tell_36 : decode cX11_tell 36 = .ok (.ireturn, 1) := by decide +kernel
theorem dX11_check_0 : decode cX11_check 0 = .ok (.aload_n 0, 1) := by decide +kernel
theorem dX11_check_1 : decode cX11_check 1 = .ok (.getfield 89, 3) := by decide +kernel
theorem dX11_check_4 : decode cX11_check 4 = .ok (.istore_n 2, 1) := by decide +kernel
theorem dX11_check_5 : decode cX11_check 5 = .ok (.aload_n 0, 1) := by decide +kernel
theorem dX11_check_6 : decode cX11_check 6 = .ok (.iconst 0, 1) := by decide +kernel
theorem dX11_check_7 : decode cX11_check 7 = .ok (.putfield 89, 3) := by decide +kernel
theorem dX11_check_10 : decode cX11_check 10 = .ok (.iload_n 1, 1) := by decide +kernel
theorem dX11_check_11 : decode cX11_check 11 = .ok (.iconst 1, 1) := by decide +kernel
theorem dX11_check_12 : decode cX11_check 12 = .ok (.if_icmp .lt 9, 3) := by decide +kernel
theorem dX11_check_15 : decode cX11_check 15 = .ok (.iload_n 1, 1) := by decide +kernel
theorem dX11_check_16 : decode cX11_check 16 = .ok (.bipush 30, 2) := by decide +kernel
theorem dX11_check_18 : decode cX11_check 18 = .ok (.if_icmp .le 6, 3) := by decide +kernel
theorem dX11_check_21 : decode cX11_check 21 = .ok (.ldc 97, 2) := by decide +kernel
theorem dX11_check_23 : decode cX11_check 23 = .ok (.ireturn, 1) := by decide +kernel
theorem dX11_check_24 : decode cX11_check 24 = .ok (.aload_n 0, 1) := by decide +kernel
theorem dX11_check_25 : decode cX11_check 25 = .ok (.getfield 46, 3) := by decide +kernel
theorem dX11_check_28 : decode cX11_check 28 = .ok (.ifCond .ne 6, 3) := by decide +kernel
theorem dX11_check_31 : decode cX11_check 31 = .ok (.ldc 204, 2) := by decide +kernel
theorem dX11_check_33 : decode cX11_check 33 = .ok (.ireturn, 1) := by decide +kernel
theorem dX11_check_34 : decode cX11_check 34 = .ok (.aload_n 0, 1) := by decide +kernel
theorem dX11_check_35 : decode cX11_check 35 = .ok (.getfield 43, 3) := by decide +kernel
theorem dX11_check_38 : decode cX11_check 38 = .ok (.aload_n 0, 1) := by decide +kernel
theorem dX11_check_39 : decode cX11_check 39 = .ok (.getfield 40, 3) := by decide +kernel
theorem dX11_check_42 : decode cX11_check 42 = .ok (.invokevirtual 335, 3) := by decide +kernel
theorem dX11_check_45 : decode cX11_check 45 = .ok (.aload_n 0, 1) := by decide +kernel
theorem dX11_check_46 : decode cX11_check 46 = .ok (.getfield 55, 3) := by decide +kernel
theorem dX11_check_49 : decode cX11_check 49 = .ok (.aload_n 0, 1) := by decide +kernel
theorem dX11_check_50 : decode cX11_check 50 = .ok (.getfield 43, 3) := by decide +kernel
theorem dX11_check_53 : decode cX11_check 53 = .ok (.invokevirtual 208, 3) := by decide +kernel
theorem dX11_check_56 : decode cX11_check 56 = .ok (.iconst 0, 1) := by decide +kernel
theorem dX11_check_57 : decode cX11_check 57 = .ok (.istore_n 3, 1) := by decide +kernel
theorem dX11_check_58 : decode cX11_check 58 = .ok (.iload_n 3, 1) := by decide +kernel
theorem dX11_check_59 : decode cX11_check 59 = .ok (.iload_n 1, 1) := by decide +kernel
theorem dX11_check_60 : decode cX11_check 60 = .ok (.if_icmp .ge 85, 3) := by decide +kernel
theorem dX11_check_63 : decode cX11_check 63 = .ok (.aload_n 0, 1) := by decide +kernel
theorem dX11_check_64 : decode cX11_check 64 = .ok (.getfield 43, 3) := by decide +kernel
theorem dX11_check_67 : decode cX11_check 67 = .ok (.aload_n 0, 1) := by decide +kernel
theorem dX11_check_68 : decode cX11_check 68 = .ok (.getfield 55, 3) := by decide +kernel
theorem dX11_check_71 : decode cX11_check 71 = .ok (.getfield 211, 3) := by decide +kernel
theorem dX11_check_74 : decode cX11_check 74 = .ok (.invokevirtual 214, 3) := by decide +kernel
theorem dX11_check_77 : decode cX11_check 77 = .ok (.pop, 1) := by decide +kernel
theorem dX11_check_78 : decode cX11_check 78 = .ok (.aload_n 0, 1) := by decide +kernel
theorem dX11_check_79 : decode cX11_check 79 = .ok (.getfield 55, 3) := by decide +kernel
theorem dX11_check_82 : decode cX11_check 82 = .ok (.invokevirtual 337, 3) := by decide +kernel
theorem dX11_check_85 : decode cX11_check 85 = .ok (.iconst 2, 1) := by decide +kernel
theorem dX11_check_86 : decode cX11_check 86 = .ok (.iload_n 3, 1) := by decide +kernel
theorem dX11_check_87 : decode cX11_check 87 = .ok (.imul, 1) := by decide +kernel
theorem dX11_check_88 : decode cX11_check 88 = .ok (.istore 4, 2) := by decide +kernel
theorem dX11_check_90 : decode cX11_check 90 = .ok (.aload_n 0, 1) := by decide +kernel
theorem dX11_check_91 : decode cX11_check 91 = .ok (.iload 4, 2) := by decide +kernel
theorem dX11_check_93 : decode cX11_check 93 = .ok (.iload_n 2, 1) := by decide +kernel
theorem dX11_check_94 : decode cX11_check 94 = .ok (.aload_n 0, 1) := by decide +kernel
theorem dX11_check_95 : decode cX11_check 95 = .ok (.getfield 55, 3) := by decide +kernel
theorem dX11_check_98 : decode cX11_check 98 = .ok (.invokevirtual 340, 3) := by decide +kernel
theorem dX11_check_101 : decode cX11_check 101 = .ok (.invokestatic 251, 3) := by decide +kernel
theorem dX11_check_104 : decode cX11_check 104 = .ok (.invokevirtual 343, 3) := by decide +kernel
theorem dX11_check_107 : decode cX11_check 107 = .ok (.ifCond .ne 8, 3) := by decide +kernel
theorem dX11_check_110 : decode cX11_check 110 = .ok (.iconst 1, 1) := by decide +kernel
theorem dX11_check_111 : decode cX11_check 111 = .ok (.iload 4, 2) := by decide +kernel
theorem dX11_check_113 : decode cX11_check 113 = .ok (.iadd, 1) := by decide +kernel
theorem dX11_check_114 : decode cX11_check 114 = .ok (.ireturn, 1) := by decide +kernel
theorem dX11_check_115 : decode cX11_check 115 = .ok (.aload_n 0, 1) := by decide +kernel
theorem dX11_check_116 : decode cX11_check 116 = .ok (.iload 4, 2) := by decide +kernel
theorem dX11_check_118 : decode cX11_check 118 = .ok (.iconst 1, 1) := by decide +kernel
theorem dX11_check_119 : decode cX11_check 119 = .ok (.iadd, 1) := by decide +kernel
theorem dX11_check_120 : decode cX11_check 120 = .ok (.iload_n 2, 1) := by decide +kernel
theorem dX11_check_121 : decode cX11_check 121 = .ok (.aload_n 0, 1) := by decide +kernel
theorem dX11_check_122 : decode cX11_check 122 = .ok (.getfield 55, 3) := by decide +kernel
theorem dX11_check_125 : decode cX11_check 125 = .ok (.invokevirtual 347, 3) := by decide +kernel
theorem dX11_check_128 : decode cX11_check 128 = .ok (.invokevirtual 343, 3) := by decide +kernel
theorem dX11_check_131 : decode cX11_check 131 = .ok (.ifCond .ne 8, 3) := by decide +kernel
theorem dX11_check_134 : decode cX11_check 134 = .ok (.iconst 2, 1) := by decide +kernel
theorem dX11_check_135 : decode cX11_check 135 = .ok (.iload 4, 2) := by decide +kernel
theorem dX11_check_137 : decode cX11_check 137 = .ok (.iadd, 1) := by decide +kernel
theorem dX11_check_138 : decode cX11_check 138 = .ok (.ireturn, 1) := by decide +kernel
theorem dX11_check_139 : decode cX11_check 139 = .ok (.iinc 3 1, 3) := by decide +kernel
theorem dX11_check_142 : decode cX11_check 142 = .ok (.goto (-84), 3) := by decide +kernel
theorem dX11_check_145 : decode cX11_check 145 = .ok (.iload_n 2, 1) := by decide +kernel
theorem dX11_check_146 : decode cX11_check 146 = .ok (.iconst 2, 1) := by decide +kernel
theorem dX11_check_147 : decode cX11_check 147 = .ok (.iload_n 1, 1) := by decide +kernel
theorem dX11_check_148 : decode cX11_check 148 = .ok (.imul, 1) := by decide +kernel
theorem dX11_check_149 : decode cX11_check 149 = .ok (.if_icmp .le 11, 3) := by decide +kernel
theorem dX11_check_152 : decode cX11_check 152 = .ok (.iconst 1, 1) := by decide +kernel
theorem dX11_check_153 : decode cX11_check 153 = .ok (.iconst 2, 1) := by decide +kernel
theorem dX11_check_154 : decode cX11_check 154 = .ok (.iload_n 1, 1) := by decide +kernel
theorem dX11_check_155 : decode cX11_check 155 = .ok (.imul, 1) := by decide +kernel
theorem dX11_check_156 : decode cX11_check 156 = .ok (.iadd, 1) := by decide +kernel
theorem dX11_check_157 : decode cX11_check 157 = .ok (.goto 4, 3) := by decide +kernel
theorem dX11_check_160 : decode cX11_check 160 = .ok (.iconst 0, 1) := by decide +kernel
theorem dX11_check_161 : decode cX11_check 161 = .ok (.ireturn, 1) := by decide +kernel
theorem dX11_keep_0 : decode cX11_keep 0 = .ok (.aload_n 0, 1) := by decide +kernel
theorem dX11_keep_1 : decode cX11_keep 1 = .ok (.getfield 40, 3) := by decide +kernel
theorem dX11_keep_4 : decode cX11_keep 4 = .ok (.aload_n 0, 1) := by decide +kernel
theorem dX11_keep_5 : decode cX11_keep 5 = .ok (.getfield 36, 3) := by decide +kernel
theorem dX11_keep_8 : decode cX11_keep 8 = .ok (.invokevirtual 335, 3) := by decide +kernel
theorem dX11_keep_11 : decode cX11_keep 11 = .ok (.aload_n 0, 1) := by decide +kernel
theorem dX11_keep_12 : decode cX11_keep 12 = .ok (.iconst 1, 1) := by decide +kernel
theorem dX11_keep_13 : decode cX11_keep 13 = .ok (.putfield 46, 3) := by decide +kernel
theorem dX11_keep_16 : decode cX11_keep 16 = .ok (.aload_n 0, 1) := by decide +kernel
theorem dX11_keep_17 : decode cX11_keep 17 = .ok (.getfield 36, 3) := by decide +kernel
theorem dX11_keep_20 : decode cX11_keep 20 = .ok (.getfield 139, 3) := by decide +kernel
theorem dX11_keep_23 : decode cX11_keep 23 = .ok (.ireturn, 1) := by decide +kernel
theorem dX11_back_0 : decode cX11_back 0 = .ok (.aload_n 0, 1) := by decide +kernel
theorem dX11_back_1 : decode cX11_back 1 = .ok (.getfield 46, 3) := by decide +kernel
theorem dX11_back_4 : decode cX11_back 4 = .ok (.ifCond .ne 6, 3) := by decide +kernel
theorem dX11_back_7 : decode cX11_back 7 = .ok (.ldc 204, 2) := by decide +kernel
theorem dX11_back_9 : decode cX11_back 9 = .ok (.ireturn, 1) := by decide +kernel
theorem dX11_back_10 : decode cX11_back 10 = .ok (.aload_n 0, 1) := by decide +kernel
theorem dX11_back_11 : decode cX11_back 11 = .ok (.getfield 36, 3) := by decide +kernel
theorem dX11_back_14 : decode cX11_back 14 = .ok (.aload_n 0, 1) := by decide +kernel
theorem dX11_back_15 : decode cX11_back 15 = .ok (.getfield 40, 3) := by decide +kernel
theorem dX11_back_18 : decode cX11_back 18 = .ok (.invokevirtual 335, 3) := by decide +kernel
theorem dX11_back_21 : decode cX11_back 21 = .ok (.aload_n 0, 1) := by decide +kernel
theorem dX11_back_22 : decode cX11_back 22 = .ok (.getfield 36, 3) := by decide +kernel
theorem dX11_back_25 : decode cX11_back 25 = .ok (.getfield 139, 3) := by decide +kernel
theorem dX11_back_28 : decode cX11_back 28 = .ok (.ireturn, 1) := by decide +kernel
theorem dX11_count_0 : decode cX11_count 0 = .ok (.iload_n 1, 1) := by decide +kernel
theorem dX11_count_1 : decode cX11_count 1 = .ok (.tableswitch 135 0 9 #[55, 63, 71, 79, 87, 95, 106, 114, 119, 127], 55) := by decide +kernel
theorem dX11_count_56 : decode cX11_count 56 = .ok (.aload_n 0, 1) := by decide +kernel
theorem dX11_count_57 : decode cX11_count 57 = .ok (.getfield 36, 3) := by decide +kernel
theorem dX11_count_60 : decode cX11_count 60 = .ok (.getfield 98, 3) := by decide +kernel
theorem dX11_count_63 : decode cX11_count 63 = .ok (.ireturn, 1) := by decide +kernel
theorem dX11_count_64 : decode cX11_count 64 = .ok (.aload_n 0, 1) := by decide +kernel
theorem dX11_count_65 : decode cX11_count 65 = .ok (.getfield 36, 3) := by decide +kernel
theorem dX11_count_68 : decode cX11_count 68 = .ok (.getfield 139, 3) := by decide +kernel
theorem dX11_count_71 : decode cX11_count 71 = .ok (.ireturn, 1) := by decide +kernel
theorem dX11_count_72 : decode cX11_count 72 = .ok (.aload_n 0, 1) := by decide +kernel
theorem dX11_count_73 : decode cX11_count 73 = .ok (.getfield 36, 3) := by decide +kernel
theorem dX11_count_76 : decode cX11_count 76 = .ok (.getfield 186, 3) := by decide +kernel
theorem dX11_count_79 : decode cX11_count 79 = .ok (.ireturn, 1) := by decide +kernel
theorem dX11_count_80 : decode cX11_count 80 = .ok (.aload_n 0, 1) := by decide +kernel
theorem dX11_count_81 : decode cX11_count 81 = .ok (.getfield 36, 3) := by decide +kernel
theorem dX11_count_84 : decode cX11_count 84 = .ok (.getfield 350, 3) := by decide +kernel
theorem dX11_count_87 : decode cX11_count 87 = .ok (.ireturn, 1) := by decide +kernel
theorem dX11_count_88 : decode cX11_count 88 = .ok (.aload_n 0, 1) := by decide +kernel
theorem dX11_count_89 : decode cX11_count 89 = .ok (.getfield 36, 3) := by decide +kernel
theorem dX11_count_92 : decode cX11_count 92 = .ok (.invokevirtual 353, 3) := by decide +kernel
theorem dX11_count_95 : decode cX11_count 95 = .ok (.ireturn, 1) := by decide +kernel
theorem dX11_count_96 : decode cX11_count 96 = .ok (.aload_n 0, 1) := by decide +kernel
theorem dX11_count_97 : decode cX11_count 97 = .ok (.getfield 36, 3) := by decide +kernel
theorem dX11_count_100 : decode cX11_count 100 = .ok (.getfield 167, 3) := by decide +kernel
theorem dX11_count_103 : decode cX11_count 103 = .ok (.invokestatic 251, 3) := by decide +kernel
theorem dX11_count_106 : decode cX11_count 106 = .ok (.ireturn, 1) := by decide +kernel
theorem dX11_count_107 : decode cX11_count 107 = .ok (.aload_n 0, 1) := by decide +kernel
theorem dX11_count_108 : decode cX11_count 108 = .ok (.getfield 36, 3) := by decide +kernel
theorem dX11_count_111 : decode cX11_count 111 = .ok (.getfield 272, 3) := by decide +kernel
theorem dX11_count_114 : decode cX11_count 114 = .ok (.ireturn, 1) := by decide +kernel
theorem dX11_count_115 : decode cX11_count 115 = .ok (.aload_n 0, 1) := by decide +kernel
theorem dX11_count_116 : decode cX11_count 116 = .ok (.getfield 89, 3) := by decide +kernel
theorem dX11_count_119 : decode cX11_count 119 = .ok (.ireturn, 1) := by decide +kernel
theorem dX11_count_120 : decode cX11_count 120 = .ok (.aload_n 0, 1) := by decide +kernel
theorem dX11_count_121 : decode cX11_count 121 = .ok (.getfield 62, 3) := by decide +kernel
theorem dX11_count_124 : decode cX11_count 124 = .ok (.getfield 259, 3) := by decide +kernel
theorem dX11_count_127 : decode cX11_count 127 = .ok (.ireturn, 1) := by decide +kernel
theorem dX11_count_128 : decode cX11_count 128 = .ok (.aload_n 0, 1) := by decide +kernel
theorem dX11_count_129 : decode cX11_count 129 = .ok (.getfield 36, 3) := by decide +kernel
theorem dX11_count_132 : decode cX11_count 132 = .ok (.getfield 132, 3) := by decide +kernel
theorem dX11_count_135 : decode cX11_count 135 = .ok (.ireturn, 1) := by decide +kernel
theorem dX11_count_136 : decode cX11_count 136 = .ok (.ldc 97, 2) := by decide +kernel
theorem dX11_count_138 : decode cX11_count 138 = .ok (.ireturn, 1) := by decide +kernel
theorem dX11_within_0 : decode cX11_within 0 = .ok (.iload_n 0, 1) := by decide +kernel
theorem dX11_within_1 : decode cX11_within 1 = .ok (.ifCond .lt 12, 3) := by decide +kernel
theorem dX11_within_4 : decode cX11_within 4 = .ok (.iload_n 0, 1) := by decide +kernel
theorem dX11_within_5 : decode cX11_within 5 = .ok (.iload_n 1, 1) := by decide +kernel
theorem dX11_within_6 : decode cX11_within 6 = .ok (.if_icmp .ge 7, 3) := by decide +kernel
theorem dX11_within_9 : decode cX11_within 9 = .ok (.iconst 1, 1) := by decide +kernel
theorem dX11_within_10 : decode cX11_within 10 = .ok (.goto 4, 3) := by decide +kernel
theorem dX11_within_13 : decode cX11_within 13 = .ok (.iconst 0, 1) := by decide +kernel
theorem dX11_within_14 : decode cX11_within 14 = .ok (.ireturn, 1) := by decide +kernel
theorem dX11_isLength_0 : decode cX11_isLength 0 = .ok (.iload_n 0, 1) := by decide +kernel
theorem dX11_isLength_1 : decode cX11_isLength 1 = .ok (.iconst 1, 1) := by decide +kernel
theorem dX11_isLength_2 : decode cX11_isLength 2 = .ok (.if_icmp .lt 13, 3) := by decide +kernel
theorem dX11_isLength_5 : decode cX11_isLength 5 = .ok (.iload_n 0, 1) := by decide +kernel
theorem dX11_isLength_6 : decode cX11_isLength 6 = .ok (.bipush 99, 2) := by decide +kernel
theorem dX11_isLength_8 : decode cX11_isLength 8 = .ok (.if_icmp .gt 7, 3) := by decide +kernel
theorem dX11_isLength_11 : decode cX11_isLength 11 = .ok (.iconst 1, 1) := by decide +kernel
theorem dX11_isLength_12 : decode cX11_isLength 12 = .ok (.goto 4, 3) := by decide +kernel
theorem dX11_isLength_15 : decode cX11_isLength 15 = .ok (.iconst 0, 1) := by decide +kernel
theorem dX11_isLength_16 : decode cX11_isLength 16 = .ok (.ireturn, 1) := by decide +kernel
theorem dX11_has_0 : decode cX11_has 0 = .ok (.iload_n 0, 1) := by decide +kernel
theorem dX11_has_1 : decode cX11_has 1 = .ok (.iload_n 1, 1) := by decide +kernel
theorem dX11_has_2 : decode cX11_has 2 = .ok (.iushr, 1) := by decide +kernel
theorem dX11_has_3 : decode cX11_has 3 = .ok (.iconst 1, 1) := by decide +kernel
theorem dX11_has_4 : decode cX11_has 4 = .ok (.iand, 1) := by decide +kernel
theorem dX11_has_5 : decode cX11_has 5 = .ok (.ifCond .eq 7, 3) := by decide +kernel
theorem dX11_has_8 : decode cX11_has 8 = .ok (.iconst 1, 1) := by decide +kernel
theorem dX11_has_9 : decode cX11_has 9 = .ok (.goto 4, 3) := by decide +kernel
theorem dX11_has_12 : decode cX11_has 12 = .ok (.iconst 0, 1) := by decide +kernel
theorem dX11_has_13 : decode cX11_has 13 = .ok (.ireturn, 1) := by decide +kernel
theorem dX11_exchange_0 : decode cX11_exchange 0 = .ok (.aload_n 0, 1) := by decide +kernel
theorem dX11_exchange_1 : decode cX11_exchange 1 = .ok (.iload_n 1, 1) := by decide +kernel
theorem dX11_exchange_2 : decode cX11_exchange 2 = .ok (.iaload, 1) := by decide +kernel
theorem dX11_exchange_3 : decode cX11_exchange 3 = .ok (.istore_n 3, 1) := by decide +kernel
theorem dX11_exchange_4 : decode cX11_exchange 4 = .ok (.aload_n 0, 1) := by decide +kernel
theorem dX11_exchange_5 : decode cX11_exchange 5 = .ok (.iload_n 1, 1) := by decide +kernel
theorem dX11_exchange_6 : decode cX11_exchange 6 = .ok (.iload_n 2, 1) := by decide +kernel
theorem dX11_exchange_7 : decode cX11_exchange 7 = .ok (.iastore, 1) := by decide +kernel
theorem dX11_exchange_8 : decode cX11_exchange 8 = .ok (.iload_n 3, 1) := by decide +kernel
theorem dX11_exchange_9 : decode cX11_exchange 9 = .ok (.ireturn, 1) := by decide +kernel
theorem dX11_findingOf_0 : decode cX11_findingOf 0 = .ok (.aload_n 0, 1) := by decide +kernel
theorem dX11_findingOf_1 : decode cX11_findingOf 1 = .ok (.getfield 73, 3) := by decide +kernel
theorem dX11_findingOf_4 : decode cX11_findingOf 4 = .ok (.iload_n 1, 1) := by decide +kernel
theorem dX11_findingOf_5 : decode cX11_findingOf 5 = .ok (.iaload, 1) := by decide +kernel
theorem dX11_findingOf_6 : decode cX11_findingOf 6 = .ok (.ifCond .ne 7, 3) := by decide +kernel
theorem dX11_findingOf_9 : decode cX11_findingOf 9 = .ok (.ldc_w 302, 3) := by decide +kernel
theorem dX11_findingOf_12 : decode cX11_findingOf 12 = .ok (.ireturn, 1) := by decide +kernel
theorem dX11_findingOf_13 : decode cX11_findingOf 13 = .ok (.aload_n 0, 1) := by decide +kernel
theorem dX11_findingOf_14 : decode cX11_findingOf 14 = .ok (.getfield 73, 3) := by decide +kernel
theorem dX11_findingOf_17 : decode cX11_findingOf 17 = .ok (.iload_n 1, 1) := by decide +kernel
theorem dX11_findingOf_18 : decode cX11_findingOf 18 = .ok (.iaload, 1) := by decide +kernel
theorem dX11_findingOf_19 : decode cX11_findingOf 19 = .ok (.iload_n 2, 1) := by decide +kernel
theorem dX11_findingOf_20 : decode cX11_findingOf 20 = .ok (.if_icmp .ne 7, 3) := by decide +kernel
theorem dX11_findingOf_23 : decode cX11_findingOf 23 = .ok (.iconst 0, 1) := by decide +kernel
theorem dX11_findingOf_24 : decode cX11_findingOf 24 = .ok (.goto 5, 3) := by decide +kernel
theorem dX11_findingOf_27 : decode cX11_findingOf 27 = .ok (.ldc 182, 2) := by decide +kernel
theorem dX11_findingOf_29 : decode cX11_findingOf 29 = .ok (.ireturn, 1) := by decide +kernel
theorem dX11_isTold_0 : decode cX11_isTold 0 = .ok (.iload_n 1, 1) := by decide +kernel
theorem dX11_isTold_1 : decode cX11_isTold 1 = .ok (.iload_n 2, 1) := by decide +kernel
theorem dX11_isTold_2 : decode cX11_isTold 2 = .ok (.if_icmp .ge 23, 3) := by decide +kernel
theorem dX11_isTold_5 : decode cX11_isTold 5 = .ok (.iload_n 1, 1) := by decide +kernel
theorem dX11_isTold_6 : decode cX11_isTold 6 = .ok (.bipush 60, 2) := by decide +kernel
theorem dX11_isTold_8 : decode cX11_isTold 8 = .ok (.if_icmp .ge 17, 3) := by decide +kernel
theorem dX11_isTold_11 : decode cX11_isTold 11 = .ok (.aload_n 0, 1) := by decide +kernel
theorem dX11_isTold_12 : decode cX11_isTold 12 = .ok (.getfield 86, 3) := by decide +kernel
theorem dX11_isTold_15 : decode cX11_isTold 15 = .ok (.iload_n 1, 1) := by decide +kernel
theorem dX11_isTold_16 : decode cX11_isTold 16 = .ok (.iaload, 1) := by decide +kernel
theorem dX11_isTold_17 : decode cX11_isTold 17 = .ok (.iload_n 3, 1) := by decide +kernel
theorem dX11_isTold_18 : decode cX11_isTold 18 = .ok (.if_icmp .ne 7, 3) := by decide +kernel
theorem dX11_isTold_21 : decode cX11_isTold 21 = .ok (.iconst 1, 1) := by decide +kernel
theorem dX11_isTold_22 : decode cX11_isTold 22 = .ok (.goto 4, 3) := by decide +kernel
theorem dX11_isTold_25 : decode cX11_isTold 25 = .ok (.iconst 0, 1) := by decide +kernel
theorem dX11_isTold_26 : decode cX11_isTold 26 = .ok (.ireturn, 1) := by decide +kernel
