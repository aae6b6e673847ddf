theorem dX10_look_22 : decode cX10_look 22 = .ok (.invokevirtual 31, 3) := by decide +kernel
theorem dX10_look_25 : decode cX10_look 25 = .ok (.iastore, 1) := by decide +kernel
theorem dX10_look_26 : decode cX10_look 26 = .ok (.iinc 2 1, 3) := by decide +kernel
theorem dX10_look_29 : decode cX10_look 29 = .ok (.goto (-22), 3) := by decide +kernel
theorem dX10_look_32 : decode cX10_look 32 = .ok (.aload_n 0, 1) := by decide +kernel
theorem dX10_look_33 : decode cX10_look 33 = .ok (.invokevirtual 35, 3) := by decide +kernel
theorem dX10_look_36 : decode cX10_look 36 = .ok (.return_, 1) := by decide +kernel
theorem dX10_leanAsNow_0 : decode cX10_leanAsNow 0 = .ok (.iconst 0, 1) := by decide +kernel
theorem dX10_leanAsNow_1 : decode cX10_leanAsNow 1 = .ok (.istore_n 1, 1) := by decide +kernel
theorem dX10_leanAsNow_2 : decode cX10_leanAsNow 2 = .ok (.iload_n 1, 1) := by decide +kernel
theorem dX10_leanAsNow_3 : decode cX10_leanAsNow 3 = .ok (.aload_n 0, 1) := by decide +kernel
theorem dX10_leanAsNow_4 : decode cX10_leanAsNow 4 = .ok (.getfield 21, 3) := by decide +kernel
theorem dX10_leanAsNow_7 : decode cX10_leanAsNow 7 = .ok (.getfield 25, 3) := by decide +kernel
theorem dX10_leanAsNow_10 : decode cX10_leanAsNow 10 = .ok (.if_icmp .ge 24, 3) := by decide +kernel
theorem dX10_leanAsNow_13 : decode cX10_leanAsNow 13 = .ok (.aload_n 0, 1) := by decide +kernel
theorem dX10_leanAsNow_14 : decode cX10_leanAsNow 14 = .ok (.getfield 15, 3) := by decide +kernel
theorem dX10_leanAsNow_17 : decode cX10_leanAsNow 17 = .ok (.iload_n 1, 1) := by decide +kernel
theorem dX10_leanAsNow_18 : decode cX10_leanAsNow 18 = .ok (.aload_n 0, 1) := by decide +kernel
theorem dX10_leanAsNow_19 : decode cX10_leanAsNow 19 = .ok (.getfield 21, 3) := by decide +kernel
theorem dX10_leanAsNow_22 : decode cX10_leanAsNow 22 = .ok (.getfield 38, 3) := by decide +kernel
theorem dX10_leanAsNow_25 : decode cX10_leanAsNow 25 = .ok (.iload_n 1, 1) := by decide +kernel
theorem dX10_leanAsNow_26 : decode cX10_leanAsNow 26 = .ok (.iaload, 1) := by decide +kernel
theorem dX10_leanAsNow_27 : decode cX10_leanAsNow 27 = .ok (.iastore, 1) := by decide +kernel
theorem dX10_leanAsNow_28 : decode cX10_leanAsNow 28 = .ok (.iinc 1 1, 3) := by decide +kernel
theorem dX10_leanAsNow_31 : decode cX10_leanAsNow 31 = .ok (.goto (-29), 3) := by decide +kernel
theorem dX10_leanAsNow_34 : decode cX10_leanAsNow 34 = .ok (.return_, 1) := by decide +kernel
theorem dX10_standing_0 : decode cX10_standing 0 = .ok (.iconst 0, 1) := by decide +kernel
theorem dX10_standing_1 : decode cX10_standing 1 = .ok (.istore_n 1, 1) := by decide +kernel
theorem dX10_standing_2 : decode cX10_standing 2 = .ok (.iconst 0, 1) := by decide +kernel
theorem dX10_standing_3 : decode cX10_standing 3 = .ok (.istore_n 2, 1) := by decide +kernel
theorem dX10_standing_4 : decode cX10_standing 4 = .ok (.iload_n 2, 1) := by decide +kernel
theorem dX10_standing_5 : decode cX10_standing 5 = .ok (.aload_n 0, 1) := by decide +kernel
theorem dX10_standing_6 : decode cX10_standing 6 = .ok (.getfield 21, 3) := by decide +kernel
theorem dX10_standing_9 : decode cX10_standing 9 = .ok (.getfield 25, 3) := by decide +kernel
theorem dX10_standing_12 : decode cX10_standing 12 = .ok (.if_icmp .ge 33, 3) := by decide +kernel
theorem dX10_standing_15 : decode cX10_standing 15 = .ok (.aload_n 0, 1) := by decide +kernel
theorem dX10_standing_16 : decode cX10_standing 16 = .ok (.getfield 9, 3) := by decide +kernel
theorem dX10_standing_19 : decode cX10_standing 19 = .ok (.iload_n 2, 1) := by decide +kernel
theorem dX10_standing_20 : decode cX10_standing 20 = .ok (.iaload, 1) := by decide +kernel
theorem dX10_standing_21 : decode cX10_standing 21 = .ok (.aload_n 0, 1) := by decide +kernel
theorem dX10_standing_22 : decode cX10_standing 22 = .ok (.getfield 15, 3) := by decide +kernel
theorem dX10_standing_25 : decode cX10_standing 25 = .ok (.iload_n 2, 1) := by decide +kernel
theorem dX10_standing_26 : decode cX10_standing 26 = .ok (.iaload, 1) := by decide +kernel
theorem dX10_standing_27 : decode cX10_standing 27 = .ok (.invokestatic 41, 3) := by decide +kernel
theorem dX10_standing_30 : decode cX10_standing 30 = .ok (.ifCond .eq 9, 3) := by decide +kernel
theorem dX10_standing_33 : decode cX10_standing 33 = .ok (.iload_n 1, 1) := by decide +kernel
theorem dX10_standing_34 : decode cX10_standing 34 = .ok (.iconst 1, 1) := by decide +kernel
theorem dX10_standing_35 : decode cX10_standing 35 = .ok (.iload_n 2, 1) := by decide +kernel
theorem dX10_standing_36 : decode cX10_standing 36 = .ok (.ishl, 1) := by decide +kernel
theorem dX10_standing_37 : decode cX10_standing 37 = .ok (.ior, 1) := by decide +kernel
theorem dX10_standing_38 : decode cX10_standing 38 = .ok (.istore_n 1, 1) := by decide +kernel
theorem dX10_standing_39 : decode cX10_standing 39 = .ok (.iinc 2 1, 3) := by decide +kernel
theorem dX10_standing_42 : decode cX10_standing 42 = .ok (.goto (-38), 3) := by decide +kernel
theorem dX10_standing_45 : decode cX10_standing 45 = .ok (.iload_n 1, 1) := by decide +kernel
theorem dX10_standing_46 : decode cX10_standing 46 = .ok (.ireturn, 1) := by decide +kernel
theorem dX10_reachedFrom_0 : decode cX10_reachedFrom 0 = .ok (.aload_n 0, 1) := by decide +kernel
theorem dX10_reachedFrom_1 : decode cX10_reachedFrom 1 = .ok (.iload_n 1, 1) := by decide +kernel
theorem dX10_reachedFrom_2 : decode cX10_reachedFrom 2 = .ok (.iconst (-1), 1) := by decide +kernel
theorem dX10_reachedFrom_3 : decode cX10_reachedFrom 3 = .ok (.invokevirtual 45, 3) := by decide +kernel
theorem dX10_reachedFrom_6 : decode cX10_reachedFrom 6 = .ok (.ireturn, 1) := by decide +kernel
theorem dX10_reachedWithout_0 : decode cX10_reachedWithout 0 = .ok (.aload_n 0, 1) := by decide +kernel
theorem dX10_reachedWithout_1 : decode cX10_reachedWithout 1 = .ok (.iload_n 2, 1) := by decide +kernel
theorem dX10_reachedWithout_2 : decode cX10_reachedWithout 2 = .ok (.iconst 1, 1) := by decide +kernel
theorem dX10_reachedWithout_3 : decode cX10_reachedWithout 3 = .ok (.iload_n 1, 1) := by decide +kernel
theorem dX10_reachedWithout_4 : decode cX10_reachedWithout 4 = .ok (.ishl, 1) := by decide +kernel
theorem dX10_reachedWithout_5 : decode cX10_reachedWithout 5 = .ok (.iconst (-1), 1) := by decide +kernel
theorem dX10_reachedWithout_6 : decode cX10_reachedWithout 6 = .ok (.ixor, 1) := by decide +kernel
theorem dX10_reachedWithout_7 : decode cX10_reachedWithout 7 = .ok (.invokevirtual 45, 3) := by decide +kernel
theorem dX10_reachedWithout_10 : decode cX10_reachedWithout 10 = .ok (.ireturn, 1) := by decide +kernel
theorem dX10_reachedBy_0 : decode cX10_reachedBy 0 = .ok (.aload_n 0, 1) := by decide +kernel
theorem dX10_reachedBy_1 : decode cX10_reachedBy 1 = .ok (.invokevirtual 49, 3) := by decide +kernel
theorem dX10_reachedBy_4 : decode cX10_reachedBy 4 = .ok (.iload_n 2, 1) := by decide +kernel
theorem dX10_reachedBy_5 : decode cX10_reachedBy 5 = .ok (.iand, 1) := by decide +kernel
theorem dX10_reachedBy_6 : decode cX10_reachedBy 6 = .ok (.istore_n 3, 1) := by decide +kernel
theorem dX10_reachedBy_7 : decode cX10_reachedBy 7 = .ok (.iconst 1, 1) := by decide +kernel
theorem dX10_reachedBy_8 : decode cX10_reachedBy 8 = .ok (.iload_n 1, 1) := by decide +kernel
theorem dX10_reachedBy_9 : decode cX10_reachedBy 9 = .ok (.ishl, 1) := by decide +kernel
theorem dX10_reachedBy_10 : decode cX10_reachedBy 10 = .ok (.istore 4, 2) := by decide +kernel
theorem dX10_reachedBy_12 : decode cX10_reachedBy 12 = .ok (.iconst 0, 1) := by decide +kernel
theorem dX10_reachedBy_13 : decode cX10_reachedBy 13 = .ok (.istore 5, 2) := by decide +kernel
theorem dX10_reachedBy_15 : decode cX10_reachedBy 15 = .ok (.iload 5, 2) := by decide +kernel
theorem dX10_reachedBy_17 : decode cX10_reachedBy 17 = .ok (.aload_n 0, 1) := by decide +kernel
theorem dX10_reachedBy_18 : decode cX10_reachedBy 18 = .ok (.getfield 21, 3) := by decide +kernel
theorem dX10_reachedBy_21 : decode cX10_reachedBy 21 = .ok (.getfield 25, 3) := by decide +kernel
theorem dX10_reachedBy_24 : decode cX10_reachedBy 24 = .ok (.if_icmp .ge 92, 3) := by decide +kernel
theorem dX10_reachedBy_27 : decode cX10_reachedBy 27 = .ok (.iload 4, 2) := by decide +kernel
theorem dX10_reachedBy_29 : decode cX10_reachedBy 29 = .ok (.istore 6, 2) := by decide +kernel
theorem dX10_reachedBy_31 : decode cX10_reachedBy 31 = .ok (.iconst 0, 1) := by decide +kernel
theorem dX10_reachedBy_32 : decode cX10_reachedBy 32 = .ok (.istore 7, 2) := by decide +kernel
theorem dX10_reachedBy_34 : decode cX10_reachedBy 34 = .ok (.iload 7, 2) := by decide +kernel
theorem dX10_reachedBy_36 : decode cX10_reachedBy 36 = .ok (.aload_n 0, 1) := by decide +kernel
theorem dX10_reachedBy_37 : decode cX10_reachedBy 37 = .ok (.getfield 21, 3) := by decide +kernel
theorem dX10_reachedBy_40 : decode cX10_reachedBy 40 = .ok (.getfield 25, 3) := by decide +kernel
theorem dX10_reachedBy_43 : decode cX10_reachedBy 43 = .ok (.if_icmp .ge 57, 3) := by decide +kernel
theorem dX10_reachedBy_46 : decode cX10_reachedBy 46 = .ok (.iconst 1, 1) := by decide +kernel
theorem dX10_reachedBy_47 : decode cX10_reachedBy 47 = .ok (.aload_n 0, 1) := by decide +kernel
theorem dX10_reachedBy_48 : decode cX10_reachedBy 48 = .ok (.getfield 21, 3) := by decide +kernel
theorem dX10_reachedBy_51 : decode cX10_reachedBy 51 = .ok (.getfield 53, 3) := by decide +kernel
theorem dX10_reachedBy_54 : decode cX10_reachedBy 54 = .ok (.iload 7, 2) := by decide +kernel
theorem dX10_reachedBy_56 : decode cX10_reachedBy 56 = .ok (.iaload, 1) := by decide +kernel
theorem dX10_reachedBy_57 : decode cX10_reachedBy 57 = .ok (.ishl, 1) := by decide +kernel
theorem dX10_reachedBy_58 : decode cX10_reachedBy 58 = .ok (.iconst 1, 1) := by decide +kernel
theorem dX10_reachedBy_59 : decode cX10_reachedBy 59 = .ok (.aload_n 0, 1) := by decide +kernel
theorem dX10_reachedBy_60 : decode cX10_reachedBy 60 = .ok (.getfield 15, 3) := by decide +kernel
theorem dX10_reachedBy_63 : decode cX10_reachedBy 63 = .ok (.iload 7, 2) := by decide +kernel
theorem dX10_reachedBy_65 : decode cX10_reachedBy 65 = .ok (.iaload, 1) := by decide +kernel
theorem dX10_reachedBy_66 : decode cX10_reachedBy 66 = .ok (.ishl, 1) := by decide +kernel
theorem dX10_reachedBy_67 : decode cX10_reachedBy 67 = .ok (.ior, 1) := by decide +kernel
theorem dX10_reachedBy_68 : decode cX10_reachedBy 68 = .ok (.istore 8, 2) := by decide +kernel
theorem dX10_reachedBy_70 : decode cX10_reachedBy 70 = .ok (.iload_n 3, 1) := by decide +kernel
theorem dX10_reachedBy_71 : decode cX10_reachedBy 71 = .ok (.iload 7, 2) := by decide +kernel
theorem dX10_reachedBy_73 : decode cX10_reachedBy 73 = .ok (.invokestatic 41, 3) := by decide +kernel
theorem dX10_reachedBy_76 : decode cX10_reachedBy 76 = .ok (.ifCond .eq 18, 3) := by decide +kernel
theorem dX10_reachedBy_79 : decode cX10_reachedBy 79 = .ok (.iload 4, 2) := by decide +kernel
theorem dX10_reachedBy_81 : decode cX10_reachedBy 81 = .ok (.iload 8, 2) := by decide +kernel
theorem dX10_reachedBy_83 : decode cX10_reachedBy 83 = .ok (.iand, 1) := by decide +kernel
theorem dX10_reachedBy_84 : decode cX10_reachedBy 84 = .ok (.ifCond .eq 10, 3) := by decide +kernel
theorem dX10_reachedBy_87 : decode cX10_reachedBy 87 = .ok (.iload 4, 2) := by decide +kernel
theorem dX10_reachedBy_89 : decode cX10_reachedBy 89 = .ok (.iload 8, 2) := by decide +kernel
theorem dX10_reachedBy_91 : decode cX10_reachedBy 91 = .ok (.ior, 1) := by decide +kernel
theorem dX10_reachedBy_92 : decode cX10_reachedBy 92 = .ok (.istore 4, 2) := by decide +kernel
theorem dX10_reachedBy_94 : decode cX10_reachedBy 94 = .ok (.iinc 7 1, 3) := by decide +kernel
theorem dX10_reachedBy_97 : decode cX10_reachedBy 97 = .ok (.goto (-63), 3) := by decide +kernel
theorem dX10_reachedBy_100 : decode cX10_reachedBy 100 = .ok (.iload 4, 2) := by decide +kernel
theorem dX10_reachedBy_102 : decode cX10_reachedBy 102 = .ok (.iload 6, 2) := by decide +kernel
theorem dX10_reachedBy_104 : decode cX10_reachedBy 104 = .ok (.if_icmp .ne 6, 3) := by decide +kernel
theorem dX10_reachedBy_107 : decode cX10_reachedBy 107 = .ok (.goto 9, 3) := by decide +kernel
theorem dX10_reachedBy_110 : decode cX10_reachedBy 110 = .ok (.iinc 5 1, 3) := by decide +kernel
theorem dX10_reachedBy_113 : decode cX10_reachedBy 113 = .ok (.goto (-98), 3) := by decide +kernel
theorem dX10_reachedBy_116 : decode cX10_reachedBy 116 = .ok (.iload 4, 2) := by decide +kernel
theorem dX10_reachedBy_118 : decode cX10_reachedBy 118 = .ok (.ireturn, 1) := by decide +kernel
theorem dX10_groundCount_0 : decode cX10_groundCount 0 = .ok (.aload_n 0, 1) := by decide +kernel
theorem dX10_groundCount_1 : decode cX10_groundCount 1 = .ok (.getfield 21, 3) := by decide +kernel
theorem dX10_groundCount_4 : decode cX10_groundCount 4 = .ok (.getfield 56, 3) := by decide +kernel
theorem dX10_groundCount_7 : decode cX10_groundCount 7 = .ok (.ifCond .ne 7, 3) := by decide +kernel
theorem dX10_groundCount_10 : decode cX10_groundCount 10 = .ok (.iconst 0, 1) := by decide +kernel
theorem dX10_groundCount_11 : decode cX10_groundCount 11 = .ok (.goto 11, 3) := by decide +kernel
theorem dX10_groundCount_14 : decode cX10_groundCount 14 = .ok (.aload_n 0, 1) := by decide +kernel
theorem dX10_groundCount_15 : decode cX10_groundCount 15 = .ok (.iconst 0, 1) := by decide +kernel
theorem dX10_groundCount_16 : decode cX10_groundCount 16 = .ok (.invokevirtual 59, 3) := by decide +kernel
theorem dX10_groundCount_19 : decode cX10_groundCount 19 = .ok (.invokestatic 62, 3) := by decide +kernel
theorem dX10_groundCount_22 : decode cX10_groundCount 22 = .ok (.ireturn, 1) := by decide +kernel
theorem dX10_reachedIfMoved_0 : decode cX10_reachedIfMoved 0 = .ok (.aload_n 0, 1) := by decide +kernel
theorem dX10_reachedIfMoved_1 : decode cX10_reachedIfMoved 1 = .ok (.getfield 15, 3) := by decide +kernel
theorem dX10_reachedIfMoved_4 : decode cX10_reachedIfMoved 4 = .ok (.iload_n 1, 1) := by decide +kernel
theorem dX10_reachedIfMoved_5 : decode cX10_reachedIfMoved 5 = .ok (.iaload, 1) := by decide +kernel
theorem dX10_reachedIfMoved_6 : decode cX10_reachedIfMoved 6 = .ok (.istore_n 3, 1) := by decide +kernel
theorem dX10_reachedIfMoved_7 : decode cX10_reachedIfMoved 7 = .ok (.aload_n 0, 1) := by decide +kernel
theorem dX10_reachedIfMoved_8 : decode cX10_reachedIfMoved 8 = .ok (.getfield 15, 3) := by decide +kernel
theorem dX10_reachedIfMoved_11 : decode cX10_reachedIfMoved 11 = .ok (.iload_n 1, 1) := by decide +kernel
theorem dX10_reachedIfMoved_12 : decode cX10_reachedIfMoved 12 = .ok (.iload_n 2, 1) := by decide +kernel
theorem dX10_reachedIfMoved_13 : decode cX10_reachedIfMoved 13 = .ok (.iastore, 1) := by decide +kernel
theorem dX10_reachedIfMoved_14 : decode cX10_reachedIfMoved 14 = .ok (.aload_n 0, 1) := by decide +kernel
theorem dX10_reachedIfMoved_15 : decode cX10_reachedIfMoved 15 = .ok (.invokevirtual 67, 3) := by decide +kernel
theorem dX10_reachedIfMoved_18 : decode cX10_reachedIfMoved 18 = .ok (.istore 4, 2) := by decide +kernel
theorem dX10_reachedIfMoved_20 : decode cX10_reachedIfMoved 20 = .ok (.aload_n 0, 1) := by decide +kernel
theorem dX10_reachedIfMoved_21 : decode cX10_reachedIfMoved 21 = .ok (.getfield 15, 3) := by decide +kernel
theorem dX10_reachedIfMoved_24 : decode cX10_reachedIfMoved 24 = .ok (.iload_n 1, 1) := by decide +kernel
theorem dX10_reachedIfMoved_25 : decode cX10_reachedIfMoved 25 = .ok (.iload_n 3, 1) := by decide +kernel
theorem dX10_reachedIfMoved_26 : decode cX10_reachedIfMoved 26 = .ok (.iastore, 1) := by decide +kernel
theorem dX10_reachedIfMoved_27 : decode cX10_reachedIfMoved 27 = .ok (.iload 4, 2) := by decide +kernel
theorem dX10_reachedIfMoved_29 : decode cX10_reachedIfMoved 29 = .ok (.ireturn, 1) := by decide +kernel
theorem dX10_measureFrom_0 : decode cX10_measureFrom 0 = .ok (.aload_n 0, 1) := by decide +kernel
theorem dX10_measureFrom_1 : decode cX10_measureFrom 1 = .ok (.getfield 18, 3) := by decide +kernel
theorem dX10_measureFrom_4 : decode cX10_measureFrom 4 = .ok (.ldc 70, 2) := by decide +kernel
theorem dX10_measureFrom_6 : decode cX10_measureFrom 6 = .ok (.invokestatic 71, 3) := by decide +kernel
theorem dX10_measureFrom_9 : decode cX10_measureFrom 9 = .ok (.aload_n 0, 1) := by decide +kernel
theorem dX10_measureFrom_10 : decode cX10_measureFrom 10 = .ok (.getfield 18, 3) := by decide +kernel
theorem dX10_measureFrom_13 : decode cX10_measureFrom 13 = .ok (.iload_n 1, 1) := by decide +kernel
theorem dX10_measureFrom_14 : decode cX10_measureFrom 14 = .ok (.iconst 0, 1) := by decide +kernel
theorem dX10_measureFrom_15 : decode cX10_measureFrom 15 = .ok (.iastore, 1) := by decide +kernel
theorem dX10_measureFrom_16 : decode cX10_measureFrom 16 = .ok (.aload_n 0, 1) := by decide +kernel
theorem dX10_measureFrom_17 : decode cX10_measureFrom 17 = .ok (.invokevirtual 49, 3) := by decide +kernel
theorem dX10_measureFrom_20 : decode cX10_measureFrom 20 = .ok (.istore_n 2, 1) := by decide +kernel
theorem dX10_measureFrom_21 : decode cX10_measureFrom 21 = .ok (.iconst 0, 1) := by decide +kernel
theorem dX10_measureFrom_22 : decode cX10_measureFrom 22 = .ok (.istore_n 3, 1) := by decide +kernel
theorem dX10_measureFrom_23 : decode cX10_measureFrom 23 = .ok (.iload_n 3, 1) := by decide +kernel
theorem dX10_measureFrom_24 : decode cX10_measureFrom 24 = .ok (.aload_n 0, 1) := by decide +kernel
theorem dX10_measureFrom_25 : decode cX10_measureFrom 25 = .ok (.getfield 21, 3) := by decide +kernel
theorem dX10_measureFrom_28 : decode cX10_measureFrom 28 = .ok (.getfield 56, 3) := by decide +kernel
theorem dX10_measureFrom_31 : decode cX10_measureFrom 31 = .ok (.if_icmp .ge 91, 3) := by decide +kernel
theorem dX10_measureFrom_34 : decode cX10_measureFrom 34 = .ok (.iconst 0, 1) := by decide +kernel
theorem dX10_measureFrom_35 : decode cX10_measureFrom 35 = .ok (.istore 4, 2) := by decide +kernel
theorem dX10_measureFrom_37 : decode cX10_measureFrom 37 = .ok (.iconst 0, 1) := by decide +kernel
theorem dX10_measureFrom_38 : decode cX10_measureFrom 38 = .ok (.istore 5, 2) := by decide +kernel
theorem dX10_measureFrom_40 : decode cX10_measureFrom 40 = .ok (.iload 5, 2) := by decide +kernel
theorem dX10_measureFrom_42 : decode cX10_measureFrom 42 = .ok (.aload_n 0, 1) := by decide +kernel
theorem dX10_measureFrom_43 : decode cX10_measureFrom 43 = .ok (.getfield 21, 3) := by decide +kernel
theorem dX10_measureFrom_46 : decode cX10_measureFrom 46 = .ok (.getfield 25, 3) := by decide +kernel
theorem dX10_measureFrom_49 : decode cX10_measureFrom 49 = .ok (.if_icmp .ge 59, 3) := by decide +kernel
theorem dX10_measureFrom_52 : decode cX10_measureFrom 52 = .ok (.iload_n 2, 1) := by decide +kernel
theorem dX10_measureFrom_53 : decode cX10_measureFrom 53 = .ok (.iload 5, 2) := by decide +kernel
theorem dX10_measureFrom_55 : decode cX10_measureFrom 55 = .ok (.invokestatic 41, 3) := by decide +kernel
theorem dX10_measureFrom_58 : decode cX10_measureFrom 58 = .ok (.ifCond .eq 44, 3) := by decide +kernel
theorem dX10_measureFrom_61 : decode cX10_measureFrom 61 = .ok (.aload_n 0, 1) := by decide +kernel
theorem dX10_measureFrom_62 : decode cX10_measureFrom 62 = .ok (.aload_n 0, 1) := by decide +kernel
theorem dX10_measureFrom_63 : decode cX10_measureFrom 63 = .ok (.getfield 21, 3) := by decide +kernel
theorem dX10_measureFrom_66 : decode cX10_measureFrom 66 = .ok (.getfield 53, 3) := by decide +kernel
theorem dX10_measureFrom_69 : decode cX10_measureFrom 69 = .ok (.iload 5, 2) := by decide +kernel
theorem dX10_measureFrom_71 : decode cX10_measureFrom 71 = .ok (.iaload, 1) := by decide +kernel
theorem dX10_measureFrom_72 : decode cX10_measureFrom 72 = .ok (.aload_n 0, 1) := by decide +kernel
theorem dX10_measureFrom_73 : decode cX10_measureFrom 73 = .ok (.getfield 15, 3) := by decide +kernel
theorem dX10_measureFrom_76 : decode cX10_measureFrom 76 = .ok (.iload 5, 2) := by decide +kernel
theorem dX10_measureFrom_78 : decode cX10_measureFrom 78 = .ok (.iaload, 1) := by decide +kernel
theorem dX10_measureFrom_79 : decode cX10_measureFrom 79 = .ok (.aload_n 0, 1) := by decide +kernel
theorem dX10_measureFrom_80 : decode cX10_measureFrom 80 = .ok (.getfield 21, 3) := by decide +kernel
theorem dX10_measureFrom_83 : decode cX10_measureFrom 83 = .ok (.iload 5, 2) := by decide +kernel
theorem dX10_measureFrom_85 : decode cX10_measureFrom 85 = .ok (.invokevirtual 77, 3) := by decide +kernel
theorem dX10_measureFrom_88 : decode cX10_measureFrom 88 = .ok (.bipush 16, 2) := by decide +kernel
theorem dX10_measureFrom_90 : decode cX10_measureFrom 90 = .ok (.imul, 1) := by decide +kernel
theorem dX10_measureFrom_91 : decode cX10_measureFrom 91 = .ok (.iconst 1, 1) := by decide +kernel
theorem dX10_measureFrom_92 : decode cX10_measureFrom 92 = .ok (.iadd, 1) := by decide +kernel
theorem dX10_measureFrom_93 : decode cX10_measureFrom 93 = .ok (.invokevirtual 80, 3) := by decide +kernel
theorem dX10_measureFrom_96 : decode cX10_measureFrom 96 = .ok (.ifCond .eq 6, 3) := by decide +kernel
theorem dX10_measureFrom_99 : decode cX10_measureFrom 99 = .ok (.iconst 1, 1) := by decide +kernel
theorem dX10_measureFrom_100 : decode cX10_measureFrom 100 = .ok (.istore 4, 2) := by decide +kernel
theorem dX10_measureFrom_102 : decode cX10_measureFrom 102 = .ok (.iinc 5 1, 3) := by decide +kernel
theorem dX10_measureFrom_105 : decode cX10_measureFrom 105 = .ok (.goto (-65), 3) := by decide +kernel
theorem dX10_measureFrom_108 : decode cX10_measureFrom 108 = .ok (.iload 4, 2) := by decide +kernel
theorem dX10_measureFrom_110 : decode cX10_measureFrom 110 = .ok (.ifCond .ne 6, 3) := by decide +kernel
theorem dX10_measureFrom_113 : decode cX10_measureFrom 113 = .ok (.goto 9, 3) := by decide +kernel
theorem dX10_measureFrom_116 : decode cX10_measureFrom 116 = .ok (.iinc 3 1, 3) := by decide +kernel
theorem dX10_measureFrom_119 : decode cX10_measureFrom 119 = .ok (.goto (-96), 3) := by decide +kernel
theorem dX10_measureFrom_122 : decode cX10_measureFrom 122 = .ok (.return_, 1) := by decide +kernel
theorem dX10_shorten_0 : decode cX10_shorten 0 = .ok (.aload_n 0, 1) := by decide +kernel
theorem dX10_shorten_1 : decode cX10_shorten 1 = .ok (.getfield 18, 3) := by decide +kernel
theorem dX10_shorten_4 : decode cX10_shorten 4 = .ok (.iload_n 1, 1) := by decide +kernel
theorem dX10_shorten_5 : decode cX10_shorten 5 = .ok (.iaload, 1) := by decide +kernel
theorem dX10_shorten_6 : decode cX10_shorten 6 = .ok (.iload_n 3, 1) := by decide +kernel
theorem dX10_shorten_7 : decode cX10_shorten 7 = .ok (.iadd, 1) := by decide +kernel
theorem dX10_shorten_8 : decode cX10_shorten 8 = .ok (.aload_n 0, 1) := by decide +kernel
theorem dX10_shorten_9 : decode cX10_shorten 9 = .ok (.getfield 18, 3) := by decide +kernel
theorem dX10_shorten_12 : decode cX10_shorten 12 = .ok (.iload_n 2, 1) := by decide +kernel
theorem dX10_shorten_13 : decode cX10_shorten 13 = .ok (.iaload, 1) := by decide +kernel
theorem dX10_shorten_14 : decode cX10_shorten 14 = .ok (.if_icmp .ge 19, 3) := by decide +kernel
theorem dX10_shorten_17 : decode cX10_shorten 17 = .ok (.aload_n 0, 1) := by decide +kernel
theorem dX10_shorten_18 : decode cX10_shorten 18 = .ok (.getfield 18, 3) := by decide +kernel
theorem dX10_shorten_21 : decode cX10_shorten 21 = .ok (.iload_n 2, 1) := by decide +kernel
theorem dX10_shorten_22 : decode cX10_shorten 22 = .ok (.aload_n 0, 1) := by decide +kernel
theorem dX10_shorten_23 : decode cX10_shorten 23 = .ok (.getfield 18, 3) := by decide +kernel
theorem dX10_shorten_26 : decode cX10_shorten 26 = .ok (.iload_n 1, 1) := by decide +kernel
theorem dX10_shorten_27 : decode cX10_shorten 27 = .ok (.iaload, 1) := by decide +kernel
theorem dX10_shorten_28 : decode cX10_shorten 28 = .ok (.iload_n 3, 1) := by decide +kernel
theorem dX10_shorten_29 : decode cX10_shorten 29 = .ok (.iadd, 1) := by decide +kernel
theorem dX10_shorten_30 : decode cX10_shorten 30 = .ok (.iastore, 1) := by decide +kernel
theorem dX10_shorten_31 : decode cX10_shorten 31 = .ok (.iconst 1, 1) := by decide +kernel
theorem dX10_shorten_32 : decode cX10_shorten 32 = .ok (.ireturn, 1) := by decide +kernel
theorem dX10_shorten_33 : decode cX10_shorten 33 = .ok (.aload_n 0, 1) := by decide +kernel
theorem dX10_shorten_34 : decode cX10_shorten 34 = .ok (.getfield 18, 3) := by decide +kernel
theorem dX10_shorten_37 : decode cX10_shorten 37 = .ok (.iload_n 2, 1) := by decide +kernel
theorem dX10_shorten_38 : decode cX10_shorten 38 = .ok (.iaload, 1) := by decide +kernel
theorem dX10_shorten_39 : decode cX10_shorten 39 = .ok (.iload_n 3, 1) := by decide +kernel
theorem dX10_shorten_40 : decode cX10_shorten 40 = .ok (.iadd, 1) := by decide +kernel
theorem dX10_shorten_41 : decode cX10_shorten 41 = .ok (.aload_n 0, 1) := by decide +kernel
theorem dX10_shorten_42 : decode cX10_shorten 42 = .ok (.getfield 18, 3) := by decide +kernel
theorem dX10_shorten_45 : decode cX10_shorten 45 = .ok (.iload_n 1, 1) := by decide +kernel
theorem dX10_shorten_46 : decode cX10_shorten 46 = .ok (.iaload, 1) := by decide +kernel
theorem dX10_shorten_47 : decode cX10_shorten 47 = .ok (.if_icmp .ge 19, 3) := by decide +kernel
theorem dX10_shorten_50 : decode cX10_shorten 50 = .ok (.aload_n 0, 1) := by decide +kernel
theorem dX10_shorten_51 : decode cX10_shorten 51 = .ok (.getfield 18, 3) := by decide +kernel
theorem dX10_shorten_54 : decode cX10_shorten 54 = .ok (.iload_n 1, 1) := by decide +kernel
theorem dX10_shorten_55 : decode cX10_shorten 55 = .ok (.aload_n 0, 1) := by decide +kernel
theorem dX10_shorten_56 : decode cX10_shorten 56 = .ok (.getfield 18, 3) := by decide +kernel
theorem dX10_shorten_59 : decode cX10_shorten 59 = .ok (.iload_n 2, 1) := by decide +kernel
theorem dX10_shorten_60 : decode cX10_shorten 60 = .ok (.iaload, 1) := by decide +kernel
theorem dX10_shorten_61 : decode cX10_shorten 61 = .ok (.iload_n 3, 1) := by decide +kernel
theorem dX10_shorten_62 : decode cX10_shorten 62 = .ok (.iadd, 1) := by decide +kernel
theorem dX10_shorten_63 : decode cX10_shorten 63 = .ok (.iastore, 1) := by decide +kernel
theorem dX10_shorten_64 : decode cX10_shorten 64 = .ok (.iconst 1, 1) := by decide +kernel
theorem dX10_shorten_65 : decode cX10_shorten 65 = .ok (.ireturn, 1) := by decide +kernel
theorem dX10_shorten_66 : decode cX10_shorten 66 = .ok (.iconst 0, 1) := by decide +kernel
theorem dX10_shorten_67 : decode cX10_shorten 67 = .ok (.ireturn, 1) := by decide +kernel
theorem dX10_measured_0 : decode cX10_measured 0 = .ok (.aload_n 0, 1) := by decide +kernel
theorem dX10_measured_1 : decode cX10_measured 1 = .ok (.getfield 18, 3) := by decide +kernel
theorem dX10_measured_4 : decode cX10_measured 4 = .ok (.iload_n 1, 1) := by decide +kernel
theorem dX10_measured_5 : decode cX10_measured 5 = .ok (.iaload, 1) := by decide +kernel
theorem dX10_measured_6 : decode cX10_measured 6 = .ok (.ldc 70, 2) := by decide +kernel
theorem dX10_measured_8 : decode cX10_measured 8 = .ok (.if_icmp .ge 7, 3) := by decide +kernel
theorem dX10_measured_11 : decode cX10_measured 11 = .ok (.iconst 1, 1) := by decide +kernel
theorem dX10_measured_12 : decode cX10_measured 12 = .ok (.goto 4, 3) := by decide +kernel
theorem dX10_measured_15 : decode cX10_measured 15 = .ok (.iconst 0, 1) := by decide +kernel
theorem dX10_measured_16 : decode cX10_measured 16 = .ok (.ireturn, 1) := by decide +kernel
theorem dX10_minutesTo_0 : decode cX10_minutesTo 0 = .ok (.aload_n 0, 1) := by decide +kernel
theorem dX10_minutesTo_1 : decode cX10_minutesTo 1 = .ok (.iload_n 1, 1) := by decide +kernel
theorem dX10_minutesTo_2 : decode cX10_minutesTo 2 = .ok (.invokevirtual 84, 3) := by decide +kernel
theorem dX10_minutesTo_5 : decode cX10_minutesTo 5 = .ok (.ifCond .eq 15, 3) := by decide +kernel
theorem dX10_minutesTo_8 : decode cX10_minutesTo 8 = .ok (.aload_n 0, 1) := by decide +kernel
theorem dX10_minutesTo_9 : decode cX10_minutesTo 9 = .ok (.getfield 18, 3) := by decide +kernel
theorem dX10_minutesTo_12 : decode cX10_minutesTo 12 = .ok (.iload_n 1, 1) := by decide +kernel
theorem dX10_minutesTo_13 : decode cX10_minutesTo 13 = .ok (.iaload, 1) := by decide +kernel
theorem dX10_minutesTo_14 : decode cX10_minutesTo 14 = .ok (.bipush 16, 2) := by decide +kernel
theorem dX10_minutesTo_16 : decode cX10_minutesTo 16 = .ok (.idiv, 1) := by decide +kernel
theorem dX10_minutesTo_17 : decode cX10_minutesTo 17 = .ok (.goto 6, 3) := by decide +kernel
theorem dX10_minutesTo_20 : decode cX10_minutesTo 20 = .ok (.sipush 999, 3) := by decide +kernel
theorem dX10_minutesTo_23 : decode cX10_minutesTo 23 = .ok (.ireturn, 1) := by decide +kernel
theorem dX10_laddersTo_0 : decode cX10_laddersTo 0 = .ok (.aload_n 0, 1) := by decide +kernel
theorem dX10_laddersTo_1 : decode cX10_laddersTo 1 = .ok (.getfield 18, 3) := by decide +kernel
theorem dX10_laddersTo_4 : decode cX10_laddersTo 4 = .ok (.iload_n 1, 1) := by decide +kernel
theorem dX10_laddersTo_5 : decode cX10_laddersTo 5 = .ok (.iaload, 1) := by decide +kernel
theorem dX10_laddersTo_6 : decode cX10_laddersTo 6 = .ok (.bipush 16, 2) := by decide +kernel
theorem dX10_laddersTo_8 : decode cX10_laddersTo 8 = .ok (.irem, 1) := by decide +kernel
theorem dX10_laddersTo_9 : decode cX10_laddersTo 9 = .ok (.ireturn, 1) := by decide +kernel
theorem dX10_minutesOfAllTo_0 : decode cX10_minutesOfAllTo 0 = .ok (.aload_n 0, 1) := by decide +kernel
theorem dX10_minutesOfAllTo_1 : decode cX10_minutesOfAllTo 1 = .ok (.iload_n 1, 1) := by decide +kernel
theorem dX10_minutesOfAllTo_2 : decode cX10_minutesOfAllTo 2 = .ok (.invokevirtual 88, 3) := by decide +kernel
theorem dX10_minutesOfAllTo_5 : decode cX10_minutesOfAllTo 5 = .ok (.iconst 0, 1) := by decide +kernel
theorem dX10_minutesOfAllTo_6 : decode cX10_minutesOfAllTo 6 = .ok (.istore_n 2, 1) := by decide +kernel
theorem dX10_minutesOfAllTo_7 : decode cX10_minutesOfAllTo 7 = .ok (.iconst 0, 1) := by decide +kernel
theorem dX10_minutesOfAllTo_8 : decode cX10_minutesOfAllTo 8 = .ok (.istore_n 3, 1) := by decide +kernel
theorem dX10_minutesOfAllTo_9 : decode cX10_minutesOfAllTo 9 = .ok (.iload_n 3, 1) := by decide +kernel
theorem dX10_minutesOfAllTo_10 : decode cX10_minutesOfAllTo 10 = .ok (.aload_n 0, 1) := by decide +kernel
theorem dX10_minutesOfAllTo_11 : decode cX10_minutesOfAllTo 11 = .ok (.getfield 21, 3) := by decide +kernel
theorem dX10_minutesOfAllTo_14 : decode cX10_minutesOfAllTo 14 = .ok (.getfield 92, 3) := by decide +kernel
theorem dX10_minutesOfAllTo_17 : decode cX10_minutesOfAllTo 17 = .ok (.if_icmp .ge 43, 3) := by decide +kernel
theorem dX10_minutesOfAllTo_20 : decode cX10_minutesOfAllTo 20 = .ok (.aload_n 0, 1) := by decide +kernel
theorem dX10_minutesOfAllTo_21 : decode cX10_minutesOfAllTo 21 = .ok (.aload_n 0, 1) := by decide +kernel
theorem dX10_minutesOfAllTo_22 : decode cX10_minutesOfAllTo 22 = .ok (.getfield 21, 3) := by decide +kernel
theorem dX10_minutesOfAllTo_25 : decode cX10_minutesOfAllTo 25 = .ok (.getfield 95, 3) := by decide +kernel
theorem dX10_minutesOfAllTo_28 : decode cX10_minutesOfAllTo 28 = .ok (.iload_n 3, 1) := by decide +kernel
theorem dX10_minutesOfAllTo_29 : decode cX10_minutesOfAllTo 29 = .ok (.iaload, 1) := by decide +kernel
theorem dX10_minutesOfAllTo_30 : decode cX10_minutesOfAllTo 30 = .ok (.invokevirtual 84, 3) := by decide +kernel
theorem dX10_minutesOfAllTo_33 : decode cX10_minutesOfAllTo 33 = .ok (.ifCond .ne 5, 3) := by decide +kernel
theorem dX10_minutesOfAllTo_36 : decode cX10_minutesOfAllTo 36 = .ok (.iconst (-1), 1) := by decide +kernel
theorem dX10_minutesOfAllTo_37 : decode cX10_minutesOfAllTo 37 = .ok (.ireturn, 1) := by decide +kernel
theorem dX10_minutesOfAllTo_38 : decode cX10_minutesOfAllTo 38 = .ok (.iload_n 2, 1) := by decide +kernel
theorem dX10_minutesOfAllTo_39 : decode cX10_minutesOfAllTo 39 = .ok (.aload_n 0, 1) := by decide +kernel
theorem dX10_minutesOfAllTo_40 : decode cX10_minutesOfAllTo 40 = .ok (.aload_n 0, 1) := by decide +kernel
theorem dX10_minutesOfAllTo_41 : decode cX10_minutesOfAllTo 41 = .ok (.getfield 21, 3) := by decide +kernel
theorem dX10_minutesOfAllTo_44 : decode cX10_minutesOfAllTo 44 = .ok (.getfield 95, 3) := by decide +kernel
theorem dX10_minutesOfAllTo_47 : decode cX10_minutesOfAllTo 47 = .ok (.iload_n 3, 1) := by decide +kernel
theorem dX10_minutesOfAllTo_48 : decode cX10_minutesOfAllTo 48 = .ok (.iaload, 1) := by decide +kernel
theorem dX10_minutesOfAllTo_49 : decode cX10_minutesOfAllTo 49 = .ok (.invokevirtual 98, 3) := by decide +kernel
theorem dX10_minutesOfAllTo_52 : decode cX10_minutesOfAllTo 52 = .ok (.iadd, 1) := by decide +kernel
theorem dX10_minutesOfAllTo_53 : decode cX10_minutesOfAllTo 53 = .ok (.istore_n 2, 1) := by decide +kernel
theorem dX10_minutesOfAllTo_54 : decode cX10_minutesOfAllTo 54 = .ok (.iinc 3 1, 3) := by decide +kernel
theorem dX10_minutesOfAllTo_57 : decode cX10_minutesOfAllTo 57 = .ok (.goto (-48), 3) := by decide +kernel
theorem dX10_minutesOfAllTo_60 : decode cX10_minutesOfAllTo 60 = .ok (.iload_n 2, 1) := by decide +kernel
theorem dX10_minutesOfAllTo_61 : decode cX10_minutesOfAllTo 61 = .ok (.ireturn, 1) := by decide +kernel
theorem dX10_differenceFrom_0 : decode cX10_differenceFrom 0 = .ok (.aload_n 0, 1) := by decide +kernel
theorem dX10_differenceFrom_1 : decode cX10_differenceFrom 1 = .ok (.iload_n 1, 1) := by decide +kernel
theorem dX10_differenceFrom_2 : decode cX10_differenceFrom 2 = .ok (.invokevirtual 88, 3) := by decide +kernel
theorem dX10_differenceFrom_5 : decode cX10_differenceFrom 5 = .ok (.iconst 0, 1) := by decide +kernel
theorem dX10_differenceFrom_6 : decode cX10_differenceFrom 6 = .ok (.istore_n 3, 1) := by decide +kernel
theorem dX10_differenceFrom_7 : decode cX10_differenceFrom 7 = .ok (.iconst 0, 1) := by decide +kernel
theorem dX10_differenceFrom_8 : decode cX10_differenceFrom 8 = .ok (.istore 4, 2) := by decide +kernel
theorem dX10_differenceFrom_10 : decode cX10_differenceFrom 10 = .ok (.iload 4, 2) := by decide +kernel
theorem dX10_differenceFrom_12 : decode cX10_differenceFrom 12 = .ok (.aload_n 2, 1) := by decide +kernel
theorem dX10_differenceFrom_13 : decode cX10_differenceFrom 13 = .ok (.getfield 101, 3) := by decide +kernel
theorem dX10_differenceFrom_16 : decode cX10_differenceFrom 16 = .ok (.if_icmp .ge 66, 3) := by decide +kernel
theorem dX10_differenceFrom_19 : decode cX10_differenceFrom 19 = .ok (.aload_n 2, 1) := by decide +kernel
theorem dX10_differenceFrom_20 : decode cX10_differenceFrom 20 = .ok (.getfield 106, 3) := by decide +kernel
theorem dX10_differenceFrom_23 : decode cX10_differenceFrom 23 = .ok (.iload 4, 2) := by decide +kernel
theorem dX10_differenceFrom_25 : decode cX10_differenceFrom 25 = .ok (.iaload, 1) := by decide +kernel
theorem dX10_differenceFrom_26 : decode cX10_differenceFrom 26 = .ok (.ldc 109, 2) := by decide +kernel
theorem dX10_differenceFrom_28 : decode cX10_differenceFrom 28 = .ok (.if_icmp .ne 6, 3) := by decide +kernel
theorem dX10_differenceFrom_31 : decode cX10_differenceFrom 31 = .ok (.goto 45, 3) := by decide +kernel
theorem dX10_differenceFrom_34 : decode cX10_differenceFrom 34 = .ok (.iload 4, 2) := by decide +kernel
theorem dX10_differenceFrom_36 : decode cX10_differenceFrom 36 = .ok (.aload_n 0, 1) := by decide +kernel
theorem dX10_differenceFrom_37 : decode cX10_differenceFrom 37 = .ok (.getfield 21, 3) := by decide +kernel
theorem dX10_differenceFrom_40 : decode cX10_differenceFrom 40 = .ok (.getfield 56, 3) := by decide +kernel
theorem dX10_differenceFrom_43 : decode cX10_differenceFrom 43 = .ok (.if_icmp .ge 12, 3) := by decide +kernel
theorem dX10_differenceFrom_46 : decode cX10_differenceFrom 46 = .ok (.aload_n 0, 1) := by decide +kernel
theorem dX10_differenceFrom_47 : decode cX10_differenceFrom 47 = .ok (.iload 4, 2) := by decide +kernel
theorem dX10_differenceFrom_49 : decode cX10_differenceFrom 49 = .ok (.invokevirtual 98, 3) := by decide +kernel
theorem dX10_differenceFrom_52 : decode cX10_differenceFrom 52 = .ok (.goto 6, 3) := by decide +kernel
theorem dX10_differenceFrom_55 : decode cX10_differenceFrom 55 = .ok (.sipush 999, 3) := by decide +kernel
theorem dX10_differenceFrom_58 : decode cX10_differenceFrom 58 = .ok (.istore 5, 2) := by decide +kernel
theorem dX10_differenceFrom_60 : decode cX10_differenceFrom 60 = .ok (.iload_n 3, 1) := by decide +kernel
theorem dX10_differenceFrom_61 : decode cX10_differenceFrom 61 = .ok (.iload 5, 2) := by decide +kernel
theorem dX10_differenceFrom_63 : decode cX10_differenceFrom 63 = .ok (.aload_n 2, 1) := by decide +kernel
theorem dX10_differenceFrom_64 : decode cX10_differenceFrom 64 = .ok (.getfield 106, 3) := by decide +kernel
theorem dX10_differenceFrom_67 : decode cX10_differenceFrom 67 = .ok (.iload 4, 2) := by decide +kernel
theorem dX10_differenceFrom_69 : decode cX10_differenceFrom 69 = .ok (.iaload, 1) := by decide +kernel
theorem dX10_differenceFrom_70 : decode cX10_differenceFrom 70 = .ok (.isub, 1) := by decide +kernel
theorem dX10_differenceFrom_71 : decode cX10_differenceFrom 71 = .ok (.invokestatic 110, 3) := by decide +kernel
theorem dX10_differenceFrom_74 : decode cX10_differenceFrom 74 = .ok (.iadd, 1) := by decide +kernel
theorem dX10_differenceFrom_75 : decode cX10_differenceFrom 75 = .ok (.istore_n 3, 1) := by decide +kernel
theorem dX10_differenceFrom_76 : decode cX10_differenceFrom 76 = .ok (.iinc 4 1, 3) := by decide +kernel
theorem dX10_differenceFrom_79 : decode cX10_differenceFrom 79 = .ok (.goto (-69), 3) := by decide +kernel
theorem dX10_differenceFrom_82 : decode cX10_differenceFrom 82 = .ok (.iload_n 3, 1) := by decide +kernel
theorem dX10_differenceFrom_83 : decode cX10_differenceFrom 83 = .ok (.ireturn, 1) := by decide +kernel
theorem dX10_fewestMoves_0 : decode cX10_fewestMoves 0 = .ok (.iconst 0, 1) := by decide +kernel
theorem dX10_fewestMoves_1 : decode cX10_fewestMoves 1 = .ok (.istore 4, 2) := by decide +kernel
theorem dX10_fewestMoves_3 : decode cX10_fewestMoves 3 = .ok (.iload 4, 2) := by decide +kernel
theorem dX10_fewestMoves_5 : decode cX10_fewestMoves 5 = .ok (.iconst 2, 1) := by decide +kernel
theorem dX10_fewestMoves_6 : decode cX10_fewestMoves 6 = .ok (.if_icmp .gt 24, 3) := by decide +kernel
theorem dX10_fewestMoves_9 : decode cX10_fewestMoves 9 = .ok (.aload_n 0, 1) := by decide +kernel
theorem dX10_fewestMoves_10 : decode cX10_fewestMoves 10 = .ok (.iload_n 1, 1) := by decide +kernel
theorem dX10_fewestMoves_11 : decode cX10_fewestMoves 11 = .ok (.iload_n 2, 1) := by decide +kernel
theorem dX10_fewestMoves_12 : decode cX10_fewestMoves 12 = .ok (.iload 4, 2) := by decide +kernel
theorem dX10_fewestMoves_14 : decode cX10_fewestMoves 14 = .ok (.iload_n 3, 1) := by decide +kernel
theorem dX10_fewestMoves_15 : decode cX10_fewestMoves 15 = .ok (.invokevirtual 115, 3) := by decide +kernel
theorem dX10_fewestMoves_18 : decode cX10_fewestMoves 18 = .ok (.ifCond .eq 6, 3) := by decide +kernel
theorem dX10_fewestMoves_21 : decode cX10_fewestMoves 21 = .ok (.iload 4, 2) := by decide +kernel
theorem dX10_fewestMoves_23 : decode cX10_fewestMoves 23 = .ok (.ireturn, 1) := by decide +kernel
theorem dX10_fewestMoves_24 : decode cX10_fewestMoves 24 = .ok (.iinc 4 1, 3) := by decide +kernel
theorem dX10_fewestMoves_27 : decode cX10_fewestMoves 27 = .ok (.goto (-24), 3) := by decide +kernel
theorem dX10_fewestMoves_30 : decode cX10_fewestMoves 30 = .ok (.ldc 109, 2) := by decide +kernel
theorem dX10_fewestMoves_32 : decode cX10_fewestMoves 32 = .ok (.ireturn, 1) := by decide +kernel
theorem dX10_arrives_0 : decode cX10_arrives 0 = .ok (.aload_n 0, 1) := by decide +kernel
theorem dX10_arrives_1 : decode cX10_arrives 1 = .ok (.iload_n 1, 1) := by decide +kernel
theorem dX10_arrives_2 : decode cX10_arrives 2 = .ok (.invokevirtual 59, 3) := by decide +kernel
theorem dX10_arrives_5 : decode cX10_arrives 5 = .ok (.istore 5, 2) := by decide +kernel
theorem dX10_arrives_7 : decode cX10_arrives 7 = .ok (.iload 5, 2) := by decide +kernel
theorem dX10_arrives_9 : decode cX10_arrives 9 = .ok (.iload_n 2, 1) := by decide +kernel
theorem dX10_arrives_10 : decode cX10_arrives 10 = .ok (.invokestatic 41, 3) := by decide +kernel
theorem dX10_arrives_13 : decode cX10_arrives 13 = .ok (.ifCond .eq 5, 3) := by decide +kernel
theorem dX10_arrives_16 : decode cX10_arrives 16 = .ok (.iconst 1, 1) := by decide +kernel
theorem dX10_arrives_17 : decode cX10_arrives 17 = .ok (.ireturn, 1) := by decide +kernel
theorem dX10_arrives_18 : decode cX10_arrives 18 = .ok (.iload_n 3, 1) := by decide +kernel
theorem dX10_arrives_19 : decode cX10_arrives 19 = .ok (.iconst 1, 1) := by decide +kernel
theorem dX10_arrives_20 : decode cX10_arrives 20 = .ok (.if_icmp .ge 5, 3) := by decide +kernel
theorem dX10_arrives_23 : decode cX10_arrives 23 = .ok (.iconst 0, 1) := by decide +kernel
theorem dX10_arrives_24 : decode cX10_arrives 24 = .ok (.ireturn, 1) := by decide +kernel
theorem dX10_arrives_25 : decode cX10_arrives 25 = .ok (.iconst 0, 1) := by decide +kernel
theorem dX10_arrives_26 : decode cX10_arrives 26 = .ok (.istore 6, 2) := by decide +kernel
theorem dX10_arrives_28 : decode cX10_arrives 28 = .ok (.iload 6, 2) := by decide +kernel
theorem dX10_arrives_30 : decode cX10_arrives 30 = .ok (.aload_n 0, 1) := by decide +kernel
theorem dX10_arrives_31 : decode cX10_arrives 31 = .ok (.getfield 21, 3) := by decide +kernel
theorem dX10_arrives_34 : decode cX10_arrives 34 = .ok (.getfield 25, 3) := by decide +kernel
theorem dX10_arrives_37 : decode cX10_arrives 37 = .ok (.if_icmp .ge 73, 3) := by decide +kernel
theorem dX10_arrives_40 : decode cX10_arrives 40 = .ok (.iload 4, 2) := by decide +kernel
theorem dX10_arrives_42 : decode cX10_arrives 42 = .ok (.iload 6, 2) := by decide +kernel
theorem dX10_arrives_44 : decode cX10_arrives 44 = .ok (.invokestatic 41, 3) := by decide +kernel
theorem dX10_arrives_47 : decode cX10_arrives 47 = .ok (.ifCond .eq 57, 3) := by decide +kernel
theorem dX10_arrives_50 : decode cX10_arrives 50 = .ok (.iload 5, 2) := by decide +kernel
theorem dX10_arrives_52 : decode cX10_arrives 52 = .ok (.aload_n 0, 1) := by decide +kernel
theorem dX10_arrives_53 : decode cX10_arrives 53 = .ok (.getfield 21, 3) := by decide +kernel
theorem dX10_arrives_56 : decode cX10_arrives 56 = .ok (.getfield 53, 3) := by decide +kernel
theorem dX10_arrives_59 : decode cX10_arrives 59 = .ok (.iload 6, 2) := by decide +kernel
theorem dX10_arrives_61 : decode cX10_arrives 61 = .ok (.iaload, 1) := by decide +kernel
theorem dX10_arrives_62 : decode cX10_arrives 62 = .ok (.invokestatic 41, 3) := by decide +kernel
theorem dX10_arrives_65 : decode cX10_arrives 65 = .ok (.ifCond .ne 6, 3) := by decide +kernel
theorem dX10_arrives_68 : decode cX10_arrives 68 = .ok (.goto 36, 3) := by decide +kernel
theorem dX10_arrives_71 : decode cX10_arrives 71 = .ok (.iload_n 3, 1) := by decide +kernel
theorem dX10_arrives_72 : decode cX10_arrives 72 = .ok (.iconst 1, 1) := by decide +kernel
theorem dX10_arrives_73 : decode cX10_arrives 73 = .ok (.if_icmp .ne 16, 3) := by decide +kernel
theorem dX10_arrives_76 : decode cX10_arrives 76 = .ok (.aload_n 0, 1) := by decide +kernel
theorem dX10_arrives_77 : decode cX10_arrives 77 = .ok (.iload 6, 2) := by decide +kernel
theorem dX10_arrives_79 : decode cX10_arrives 79 = .ok (.iload_n 2, 1) := by decide +kernel
theorem dX10_arrives_80 : decode cX10_arrives 80 = .ok (.invokevirtual 119, 3) := by decide +kernel
theorem dX10_arrives_83 : decode cX10_arrives 83 = .ok (.ifCond .eq 21, 3) := by decide +kernel
theorem dX10_arrives_86 : decode cX10_arrives 86 = .ok (.goto 16, 3) := by decide +kernel
theorem dX10_arrives_89 : decode cX10_arrives 89 = .ok (.aload_n 0, 1) := by decide +kernel
theorem dX10_arrives_90 : decode cX10_arrives 90 = .ok (.iload 6, 2) := by decide +kernel
theorem dX10_arrives_92 : decode cX10_arrives 92 = .ok (.iload_n 2, 1) := by decide +kernel
theorem dX10_arrives_93 : decode cX10_arrives 93 = .ok (.iload_n 3, 1) := by decide +kernel
theorem dX10_arrives_94 : decode cX10_arrives 94 = .ok (.iload 4, 2) := by decide +kernel
theorem dX10_arrives_96 : decode cX10_arrives 96 = .ok (.invokevirtual 122, 3) := by decide +kernel
theorem dX10_arrives_99 : decode cX10_arrives 99 = .ok (.ifCond .eq 5, 3) := by decide +kernel
theorem dX10_arrives_102 : decode cX10_arrives 102 = .ok (.iconst 1, 1) := by decide +kernel
theorem dX10_arrives_103 : decode cX10_arrives 103 = .ok (.ireturn, 1) := by decide +kernel
theorem dX10_arrives_104 : decode cX10_arrives 104 = .ok (.iinc 6 1, 3) := by decide +kernel
theorem dX10_arrives_107 : decode cX10_arrives 107 = .ok (.goto (-79), 3) := by decide +kernel
theorem dX10_arrives_110 : decode cX10_arrives 110 = .ok (.iconst 0, 1) := by decide +kernel
theorem dX10_arrives_111 : decode cX10_arrives 111 = .ok (.ireturn, 1) := by decide +kernel
theorem dX10_lastMoveArrives_0 : decode cX10_lastMoveArrives 0 = .ok (.aload_n 0, 1) := by decide +kernel
theorem dX10_lastMoveArrives_1 : decode cX10_lastMoveArrives 1 = .ok (.getfield 9, 3) := by decide +kernel
theorem dX10_lastMoveArrives_4 : decode cX10_lastMoveArrives 4 = .ok (.iload_n 1, 1) := by decide +kernel
theorem dX10_lastMoveArrives_5 : decode cX10_lastMoveArrives 5 = .ok (.iaload, 1) := by decide +kernel
theorem dX10_lastMoveArrives_6 : decode cX10_lastMoveArrives 6 = .ok (.iconst 1, 1) := by decide +kernel
theorem dX10_lastMoveArrives_7 : decode cX10_lastMoveArrives 7 = .ok (.aload_n 0, 1) := by decide +kernel
theorem dX10_lastMoveArrives_8 : decode cX10_lastMoveArrives 8 = .ok (.getfield 15, 3) := by decide +kernel
theorem dX10_lastMoveArrives_11 : decode cX10_lastMoveArrives 11 = .ok (.iload_n 1, 1) := by decide +kernel
theorem dX10_lastMoveArrives_12 : decode cX10_lastMoveArrives 12 = .ok (.iaload, 1) := by decide +kernel
theorem dX10_lastMoveArrives_13 : decode cX10_lastMoveArrives 13 = .ok (.ishl, 1) := by decide +kernel
theorem dX10_lastMoveArrives_14 : decode cX10_lastMoveArrives 14 = .ok (.iconst (-1), 1) := by decide +kernel
theorem dX10_lastMoveArrives_15 : decode cX10_lastMoveArrives 15 = .ok (.ixor, 1) := by decide +kernel
theorem dX10_lastMoveArrives_16 : decode cX10_lastMoveArrives 16 = .ok (.iand, 1) := by decide +kernel
theorem dX10_lastMoveArrives_17 : decode cX10_lastMoveArrives 17 = .ok (.istore_n 3, 1) := by decide +kernel
theorem dX10_lastMoveArrives_18 : decode cX10_lastMoveArrives 18 = .ok (.iload_n 3, 1) := by decide +kernel
theorem dX10_lastMoveArrives_19 : decode cX10_lastMoveArrives 19 = .ok (.aload_n 0, 1) := by decide +kernel
theorem dX10_lastMoveArrives_20 : decode cX10_lastMoveArrives 20 = .ok (.iload_n 2, 1) := by decide +kernel
theorem dX10_lastMoveArrives_21 : decode cX10_lastMoveArrives 21 = .ok (.iconst 1, 1) := by decide +kernel
theorem dX10_lastMoveArrives_22 : decode cX10_lastMoveArrives 22 = .ok (.iload_n 1, 1) := by decide +kernel
theorem dX10_lastMoveArrives_23 : decode cX10_lastMoveArrives 23 = .ok (.ishl, 1) := by decide +kernel
theorem dX10_lastMoveArrives_24 : decode cX10_lastMoveArrives 24 = .ok (.iconst (-1), 1) := by decide +kernel
theorem dX10_lastMoveArrives_25 : decode cX10_lastMoveArrives 25 = .ok (.ixor, 1) := by decide +kernel
theorem dX10_lastMoveArrives_26 : decode cX10_lastMoveArrives 26 = .ok (.invokevirtual 45, 3) := by decide +kernel
theorem dX10_lastMoveArrives_29 : decode cX10_lastMoveArrives 29 = .ok (.iand, 1) := by decide +kernel
theorem dX10_lastMoveArrives_30 : decode cX10_lastMoveArrives 30 = .ok (.ifCond .eq 7, 3) := by decide +kernel
theorem dX10_lastMoveArrives_33 : decode cX10_lastMoveArrives 33 = .ok (.iconst 1, 1) := by decide +kernel
theorem dX10_lastMoveArrives_34 : decode cX10_lastMoveArrives 34 = .ok (.goto 4, 3) := by decide +kernel
theorem dX10_lastMoveArrives_37 : decode cX10_lastMoveArrives 37 = .ok (.iconst 0, 1) := by decide +kernel
theorem dX10_lastMoveArrives_38 : decode cX10_lastMoveArrives 38 = .ok (.ireturn, 1) := by decide +kernel
theorem dX10_moveArrives_0 : decode cX10_moveArrives 0 = .ok (.aload_n 0, 1) := by decide +kernel
theorem dX10_moveArrives_1 : decode cX10_moveArrives 1 = .ok (.getfield 15, 3) := by decide +kernel
theorem dX10_moveArrives_4 : decode cX10_moveArrives 4 = .ok (.iload_n 1, 1) := by decide +kernel
theorem dX10_moveArrives_5 : decode cX10_moveArrives 5 = .ok (.iaload, 1) := by decide +kernel
theorem dX10_moveArrives_6 : decode cX10_moveArrives 6 = .ok (.istore 5, 2) := by decide +kernel
theorem dX10_moveArrives_8 : decode cX10_moveArrives 8 = .ok (.iconst 0, 1) := by decide +kernel
theorem dX10_moveArrives_9 : decode cX10_moveArrives 9 = .ok (.istore 6, 2) := by decide +kernel
theorem dX10_moveArrives_11 : decode cX10_moveArrives 11 = .ok (.iconst 0, 1) := by decide +kernel
theorem dX10_moveArrives_12 : decode cX10_moveArrives 12 = .ok (.istore 7, 2) := by decide +kernel
theorem dX10_moveArrives_14 : decode cX10_moveArrives 14 = .ok (.iload 7, 2) := by decide +kernel
theorem dX10_moveArrives_16 : decode cX10_moveArrives 16 = .ok (.aload_n 0, 1) := by decide +kernel
theorem dX10_moveArrives_17 : decode cX10_moveArrives 17 = .ok (.getfield 21, 3) := by decide +kernel
theorem dX10_moveArrives_20 : decode cX10_moveArrives 20 = .ok (.getfield 56, 3) := by decide +kernel
theorem dX10_moveArrives_23 : decode cX10_moveArrives 23 = .ok (.if_icmp .ge 73, 3) := by decide +kernel
theorem dX10_moveArrives_26 : decode cX10_moveArrives 26 = .ok (.iload 6, 2) := by decide +kernel
theorem dX10_moveArrives_28 : decode cX10_moveArrives 28 = .ok (.ifCond .ne 68, 3) := by decide +kernel
theorem dX10_moveArrives_31 : decode cX10_moveArrives 31 = .ok (.iload 7, 2) := by decide +kernel
theorem dX10_moveArrives_33 : decode cX10_moveArrives 33 = .ok (.iload 5, 2) := by decide +kernel
theorem dX10_moveArrives_35 : decode cX10_moveArrives 35 = .ok (.if_icmp .eq 55, 3) := by decide +kernel
theorem dX10_moveArrives_38 : decode cX10_moveArrives 38 = .ok (.aload_n 0, 1) := by decide +kernel
theorem dX10_moveArrives_39 : decode cX10_moveArrives 39 = .ok (.getfield 9, 3) := by decide +kernel
theorem dX10_moveArrives_42 : decode cX10_moveArrives 42 = .ok (.iload_n 1, 1) := by decide +kernel
theorem dX10_moveArrives_43 : decode cX10_moveArrives 43 = .ok (.iaload, 1) := by decide +kernel
theorem dX10_moveArrives_44 : decode cX10_moveArrives 44 = .ok (.iload 7, 2) := by decide +kernel
theorem dX10_moveArrives_46 : decode cX10_moveArrives 46 = .ok (.invokestatic 41, 3) := by decide +kernel
theorem dX10_moveArrives_49 : decode cX10_moveArrives 49 = .ok (.ifCond .ne 6, 3) := by decide +kernel
theorem dX10_moveArrives_52 : decode cX10_moveArrives 52 = .ok (.goto 38, 3) := by decide +kernel
theorem dX10_moveArrives_55 : decode cX10_moveArrives 55 = .ok (.aload_n 0, 1) := by decide +kernel
theorem dX10_moveArrives_56 : decode cX10_moveArrives 56 = .ok (.getfield 15, 3) := by decide +kernel
theorem dX10_moveArrives_59 : decode cX10_moveArrives 59 = .ok (.iload_n 1, 1) := by decide +kernel
theorem dX10_moveArrives_60 : decode cX10_moveArrives 60 = .ok (.iload 7, 2) := by decide +kernel
theorem dX10_moveArrives_62 : decode cX10_moveArrives 62 = .ok (.iastore, 1) := by decide +kernel
theorem dX10_moveArrives_63 : decode cX10_moveArrives 63 = .ok (.aload_n 0, 1) := by decide +kernel
theorem dX10_moveArrives_64 : decode cX10_moveArrives 64 = .ok (.aload_n 0, 1) := by decide +kernel
theorem dX10_moveArrives_65 : decode cX10_moveArrives 65 = .ok (.getfield 21, 3) := by decide +kernel
theorem dX10_moveArrives_68 : decode cX10_moveArrives 68 = .ok (.getfield 53, 3) := by decide +kernel
theorem dX10_moveArrives_71 : decode cX10_moveArrives 71 = .ok (.iload_n 1, 1) := by decide +kernel
theorem dX10_moveArrives_72 : decode cX10_moveArrives 72 = .ok (.iaload, 1) := by decide +kernel
theorem dX10_moveArrives_73 : decode cX10_moveArrives 73 = .ok (.iload_n 2, 1) := by decide +kernel
theorem dX10_moveArrives_74 : decode cX10_moveArrives 74 = .ok (.iload_n 3, 1) := by decide +kernel
theorem dX10_moveArrives_75 : decode cX10_moveArrives 75 = .ok (.iconst 1, 1) := by decide +kernel
theorem dX10_moveArrives_76 : decode cX10_moveArrives 76 = .ok (.isub, 1) := by decide +kernel
theorem dX10_moveArrives_77 : decode cX10_moveArrives 77 = .ok (.iload 4, 2) := by decide +kernel
theorem dX10_moveArrives_79 : decode cX10_moveArrives 79 = .ok (.iconst 1, 1) := by decide +kernel
theorem dX10_moveArrives_80 : decode cX10_moveArrives 80 = .ok (.iload_n 1, 1) := by decide +kernel
theorem dX10_moveArrives_81 : decode cX10_moveArrives 81 = .ok (.ishl, 1) := by decide +kernel
theorem dX10_moveArrives_82 : decode cX10_moveArrives 82 = .ok (.iconst (-1), 1) := by decide +kernel
theorem dX10_moveArrives_83 : decode cX10_moveArrives 83 = .ok (.ixor, 1) := by decide +kernel
theorem dX10_moveArrives_84 : decode cX10_moveArrives 84 = .ok (.iand, 1) := by decide +kernel
theorem dX10_moveArrives_85 : decode cX10_moveArrives 85 = .ok (.invokevirtual 115, 3) := by decide +kernel
theorem dX10_moveArrives_88 : decode cX10_moveArrives 88 = .ok (.istore 6, 2) := by decide +kernel
theorem dX10_moveArrives_90 : decode cX10_moveArrives 90 = .ok (.iinc 7 1, 3) := by decide +kernel
theorem dX10_moveArrives_93 : decode cX10_moveArrives 93 = .ok (.goto (-79), 3) := by decide +kernel
theorem dX10_moveArrives_96 : decode cX10_moveArrives 96 = .ok (.aload_n 0, 1) := by decide +kernel
theorem dX10_moveArrives_97 : decode cX10_moveArrives 97 = .ok (.getfield 15, 3) := by decide +kernel
theorem dX10_moveArrives_100 : decode cX10_moveArrives 100 = .ok (.iload_n 1, 1) := by decide +kernel
theorem dX10_moveArrives_101 : decode cX10_moveArrives 101 = .ok (.iload 5, 2) := by decide +kernel
theorem dX10_moveArrives_103 : decode cX10_moveArrives 103 = .ok (.iastore, 1) := by decide +kernel
theorem dX10_moveArrives_104 : decode cX10_moveArrives 104 = .ok (.iload 6, 2) := by decide +kernel
theorem dX10_moveArrives_106 : decode cX10_moveArrives 106 = .ok (.ireturn, 1) := by decide +kernel
