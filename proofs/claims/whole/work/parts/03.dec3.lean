theorem dX0_init_0 : decode cX0_init 0 = .ok (.aload_n 0, 1) := by decide +kernel
theorem dX0_init_1 : decode cX0_init 1 = .ok (.invokespecial 1, 3) := by decide +kernel
theorem dX0_init_4 : decode cX0_init 4 = .ok (.return_, 1) := by decide +kernel
theorem dX0_isKind_0 : decode cX0_isKind 0 = .ok (.iload_n 1, 1) := by decide +kernel
theorem dX0_isKind_1 : decode cX0_isKind 1 = .ok (.iconst 3, 1) := by decide +kernel
theorem dX0_isKind_2 : decode cX0_isKind 2 = .ok (.if_icmp .eq 11, 3) := by decide +kernel
theorem dX0_isKind_5 : decode cX0_isKind 5 = .ok (.aload_n 0, 1) := by decide +kernel
theorem dX0_isKind_6 : decode cX0_isKind 6 = .ok (.iload_n 1, 1) := by decide +kernel
theorem dX0_isKind_7 : decode cX0_isKind 7 = .ok (.invokespecial 7, 3) := by decide +kernel
theorem dX0_isKind_10 : decode cX0_isKind 10 = .ok (.ifCond .eq 7, 3) := by decide +kernel
theorem dX0_isKind_13 : decode cX0_isKind 13 = .ok (.iconst 1, 1) := by decide +kernel
theorem dX0_isKind_14 : decode cX0_isKind 14 = .ok (.goto 4, 3) := by decide +kernel
theorem dX0_isKind_17 : decode cX0_isKind 17 = .ok (.iconst 0, 1) := by decide +kernel
theorem dX0_isKind_18 : decode cX0_isKind 18 = .ok (.ireturn, 1) := by decide +kernel
theorem dX0_reach_0 : decode cX0_reach 0 = .ok (.aload_n 0, 1) := by decide +kernel
theorem dX0_reach_1 : decode cX0_reach 1 = .ok (.iload_n 1, 1) := by decide +kernel
theorem dX0_reach_2 : decode cX0_reach 2 = .ok (.invokespecial 11, 3) := by decide +kernel
theorem dX0_reach_5 : decode cX0_reach 5 = .ok (.iload_n 1, 1) := by decide +kernel
theorem dX0_reach_6 : decode cX0_reach 6 = .ok (.iconst 4, 1) := by decide +kernel
theorem dX0_reach_7 : decode cX0_reach 7 = .ok (.idiv, 1) := by decide +kernel
theorem dX0_reach_8 : decode cX0_reach 8 = .ok (.iadd, 1) := by decide +kernel
theorem dX0_reach_9 : decode cX0_reach 9 = .ok (.ireturn, 1) := by decide +kernel
theorem dX0_minutes_0 : decode cX0_minutes 0 = .ok (.aload_n 0, 1) := by decide +kernel
theorem dX0_minutes_1 : decode cX0_minutes 1 = .ok (.iload_n 1, 1) := by decide +kernel
theorem dX0_minutes_2 : decode cX0_minutes 2 = .ok (.invokespecial 15, 3) := by decide +kernel
theorem dX0_minutes_5 : decode cX0_minutes 5 = .ok (.iconst 1, 1) := by decide +kernel
theorem dX0_minutes_6 : decode cX0_minutes 6 = .ok (.isub, 1) := by decide +kernel
theorem dX0_minutes_7 : decode cX0_minutes 7 = .ok (.ireturn, 1) := by decide +kernel
theorem dX0_worth_0 : decode cX0_worth 0 = .ok (.iconst 2, 1) := by decide +kernel
theorem dX0_worth_1 : decode cX0_worth 1 = .ok (.aload_n 0, 1) := by decide +kernel
theorem dX0_worth_2 : decode cX0_worth 2 = .ok (.iload_n 1, 1) := by decide +kernel
theorem dX0_worth_3 : decode cX0_worth 3 = .ok (.invokespecial 18, 3) := by decide +kernel
theorem dX0_worth_6 : decode cX0_worth 6 = .ok (.imul, 1) := by decide +kernel
theorem dX0_worth_7 : decode cX0_worth 7 = .ok (.ireturn, 1) := by decide +kernel
theorem dX1_init_0 : decode cX1_init 0 = .ok (.aload_n 0, 1) := by decide +kernel
theorem dX1_init_1 : decode cX1_init 1 = .ok (.invokespecial 1, 3) := by decide +kernel
theorem dX1_init_4 : decode cX1_init 4 = .ok (.return_, 1) := by decide +kernel
theorem dX1_isKind_0 : decode cX1_isKind 0 = .ok (.iload_n 1, 1) := by decide +kernel
theorem dX1_isKind_1 : decode cX1_isKind 1 = .ok (.iconst 5, 1) := by decide +kernel
theorem dX1_isKind_2 : decode cX1_isKind 2 = .ok (.if_icmp .eq 11, 3) := by decide +kernel
theorem dX1_isKind_5 : decode cX1_isKind 5 = .ok (.aload_n 0, 1) := by decide +kernel
theorem dX1_isKind_6 : decode cX1_isKind 6 = .ok (.iload_n 1, 1) := by decide +kernel
theorem dX1_isKind_7 : decode cX1_isKind 7 = .ok (.invokespecial 7, 3) := by decide +kernel
theorem dX1_isKind_10 : decode cX1_isKind 10 = .ok (.ifCond .eq 7, 3) := by decide +kernel
theorem dX1_isKind_13 : decode cX1_isKind 13 = .ok (.iconst 1, 1) := by decide +kernel
theorem dX1_isKind_14 : decode cX1_isKind 14 = .ok (.goto 4, 3) := by decide +kernel
theorem dX1_isKind_17 : decode cX1_isKind 17 = .ok (.iconst 0, 1) := by decide +kernel
theorem dX1_isKind_18 : decode cX1_isKind 18 = .ok (.ireturn, 1) := by decide +kernel
theorem dX1_reach_0 : decode cX1_reach 0 = .ok (.aload_n 0, 1) := by decide +kernel
theorem dX1_reach_1 : decode cX1_reach 1 = .ok (.iload_n 1, 1) := by decide +kernel
theorem dX1_reach_2 : decode cX1_reach 2 = .ok (.invokespecial 11, 3) := by decide +kernel
theorem dX1_reach_5 : decode cX1_reach 5 = .ok (.iconst 2, 1) := by decide +kernel
theorem dX1_reach_6 : decode cX1_reach 6 = .ok (.idiv, 1) := by decide +kernel
theorem dX1_reach_7 : decode cX1_reach 7 = .ok (.ireturn, 1) := by decide +kernel
theorem dX1_worth_0 : decode cX1_worth 0 = .ok (.bipush 40, 2) := by decide +kernel
theorem dX1_worth_2 : decode cX1_worth 2 = .ok (.iload_n 1, 1) := by decide +kernel
theorem dX1_worth_3 : decode cX1_worth 3 = .ok (.isub, 1) := by decide +kernel
theorem dX1_worth_4 : decode cX1_worth 4 = .ok (.ireturn, 1) := by decide +kernel
theorem dX1_letsMove_0 : decode cX1_letsMove 0 = .ok (.iconst 1, 1) := by decide +kernel
theorem dX1_letsMove_1 : decode cX1_letsMove 1 = .ok (.ireturn, 1) := by decide +kernel
theorem dX2_init_0 : decode cX2_init 0 = .ok (.aload_n 0, 1) := by decide +kernel
theorem dX2_init_1 : decode cX2_init 1 = .ok (.invokespecial 1, 3) := by decide +kernel
theorem dX2_init_4 : decode cX2_init 4 = .ok (.return_, 1) := by decide +kernel
theorem dX2_isKind_0 : decode cX2_isKind 0 = .ok (.iload_n 1, 1) := by decide +kernel
theorem dX2_isKind_1 : decode cX2_isKind 1 = .ok (.iconst 2, 1) := by decide +kernel
theorem dX2_isKind_2 : decode cX2_isKind 2 = .ok (.if_icmp .eq 11, 3) := by decide +kernel
theorem dX2_isKind_5 : decode cX2_isKind 5 = .ok (.aload_n 0, 1) := by decide +kernel
theorem dX2_isKind_6 : decode cX2_isKind 6 = .ok (.iload_n 1, 1) := by decide +kernel
theorem dX2_isKind_7 : decode cX2_isKind 7 = .ok (.invokespecial 7, 3) := by decide +kernel
theorem dX2_isKind_10 : decode cX2_isKind 10 = .ok (.ifCond .eq 7, 3) := by decide +kernel
theorem dX2_isKind_13 : decode cX2_isKind 13 = .ok (.iconst 1, 1) := by decide +kernel
theorem dX2_isKind_14 : decode cX2_isKind 14 = .ok (.goto 4, 3) := by decide +kernel
theorem dX2_isKind_17 : decode cX2_isKind 17 = .ok (.iconst 0, 1) := by decide +kernel
theorem dX2_isKind_18 : decode cX2_isKind 18 = .ok (.ireturn, 1) := by decide +kernel
theorem dX2_minutes_0 : decode cX2_minutes 0 = .ok (.aload_n 0, 1) := by decide +kernel
theorem dX2_minutes_1 : decode cX2_minutes 1 = .ok (.iload_n 1, 1) := by decide +kernel
theorem dX2_minutes_2 : decode cX2_minutes 2 = .ok (.invokespecial 11, 3) := by decide +kernel
theorem dX2_minutes_5 : decode cX2_minutes 5 = .ok (.iconst 1, 1) := by decide +kernel
theorem dX2_minutes_6 : decode cX2_minutes 6 = .ok (.iadd, 1) := by decide +kernel
theorem dX2_minutes_7 : decode cX2_minutes 7 = .ok (.ireturn, 1) := by decide +kernel
theorem dX2_worth_0 : decode cX2_worth 0 = .ok (.aload_n 0, 1) := by decide +kernel
theorem dX2_worth_1 : decode cX2_worth 1 = .ok (.iload_n 1, 1) := by decide +kernel
theorem dX2_worth_2 : decode cX2_worth 2 = .ok (.invokespecial 15, 3) := by decide +kernel
theorem dX2_worth_5 : decode cX2_worth 5 = .ok (.bipush 9, 2) := by decide +kernel
theorem dX2_worth_7 : decode cX2_worth 7 = .ok (.iadd, 1) := by decide +kernel
theorem dX2_worth_8 : decode cX2_worth 8 = .ok (.ireturn, 1) := by decide +kernel
theorem dX2_letsMove_0 : decode cX2_letsMove 0 = .ok (.aload_n 0, 1) := by decide +kernel
theorem dX2_letsMove_1 : decode cX2_letsMove 1 = .ok (.iload_n 1, 1) := by decide +kernel
theorem dX2_letsMove_2 : decode cX2_letsMove 2 = .ok (.iload_n 2, 1) := by decide +kernel
theorem dX2_letsMove_3 : decode cX2_letsMove 3 = .ok (.invokespecial 18, 3) := by decide +kernel
theorem dX2_letsMove_6 : decode cX2_letsMove 6 = .ok (.ifCond .eq 11, 3) := by decide +kernel
theorem dX2_letsMove_9 : decode cX2_letsMove 9 = .ok (.iload_n 2, 1) := by decide +kernel
theorem dX2_letsMove_10 : decode cX2_letsMove 10 = .ok (.ifCond .eq 7, 3) := by decide +kernel
theorem dX2_letsMove_13 : decode cX2_letsMove 13 = .ok (.iconst 1, 1) := by decide +kernel
theorem dX2_letsMove_14 : decode cX2_letsMove 14 = .ok (.goto 4, 3) := by decide +kernel
theorem dX2_letsMove_17 : decode cX2_letsMove 17 = .ok (.iconst 0, 1) := by decide +kernel
theorem dX2_letsMove_18 : decode cX2_letsMove 18 = .ok (.ireturn, 1) := by decide +kernel
theorem dX3_init_0 : decode cX3_init 0 = .ok (.aload_n 0, 1) := by decide +kernel
theorem dX3_init_1 : decode cX3_init 1 = .ok (.invokespecial 1, 3) := by decide +kernel
theorem dX3_init_4 : decode cX3_init 4 = .ok (.return_, 1) := by decide +kernel
theorem dX3_isKind_0 : decode cX3_isKind 0 = .ok (.iload_n 1, 1) := by decide +kernel
theorem dX3_isKind_1 : decode cX3_isKind 1 = .ok (.iconst 4, 1) := by decide +kernel
theorem dX3_isKind_2 : decode cX3_isKind 2 = .ok (.if_icmp .eq 11, 3) := by decide +kernel
theorem dX3_isKind_5 : decode cX3_isKind 5 = .ok (.aload_n 0, 1) := by decide +kernel
theorem dX3_isKind_6 : decode cX3_isKind 6 = .ok (.iload_n 1, 1) := by decide +kernel
theorem dX3_isKind_7 : decode cX3_isKind 7 = .ok (.invokespecial 7, 3) := by decide +kernel
theorem dX3_isKind_10 : decode cX3_isKind 10 = .ok (.ifCond .eq 7, 3) := by decide +kernel
theorem dX3_isKind_13 : decode cX3_isKind 13 = .ok (.iconst 1, 1) := by decide +kernel
theorem dX3_isKind_14 : decode cX3_isKind 14 = .ok (.goto 4, 3) := by decide +kernel
theorem dX3_isKind_17 : decode cX3_isKind 17 = .ok (.iconst 0, 1) := by decide +kernel
theorem dX3_isKind_18 : decode cX3_isKind 18 = .ok (.ireturn, 1) := by decide +kernel
theorem dX3_reach_0 : decode cX3_reach 0 = .ok (.iconst 0, 1) := by decide +kernel
theorem dX3_reach_1 : decode cX3_reach 1 = .ok (.aload_n 0, 1) := by decide +kernel
theorem dX3_reach_2 : decode cX3_reach 2 = .ok (.iload_n 1, 1) := by decide +kernel
theorem dX3_reach_3 : decode cX3_reach 3 = .ok (.invokespecial 11, 3) := by decide +kernel
theorem dX3_reach_6 : decode cX3_reach 6 = .ok (.iconst 2, 1) := by decide +kernel
theorem dX3_reach_7 : decode cX3_reach 7 = .ok (.isub, 1) := by decide +kernel
theorem dX3_reach_8 : decode cX3_reach 8 = .ok (.invokestatic 15, 3) := by decide +kernel
theorem dX3_reach_11 : decode cX3_reach 11 = .ok (.ireturn, 1) := by decide +kernel
theorem dX3_worth_0 : decode cX3_worth 0 = .ok (.aload_n 0, 1) := by decide +kernel
theorem dX3_worth_1 : decode cX3_worth 1 = .ok (.iload_n 1, 1) := by decide +kernel
theorem dX3_worth_2 : decode cX3_worth 2 = .ok (.invokespecial 21, 3) := by decide +kernel
theorem dX3_worth_5 : decode cX3_worth 5 = .ok (.bipush 20, 2) := by decide +kernel
theorem dX3_worth_7 : decode cX3_worth 7 = .ok (.iadd, 1) := by decide +kernel
theorem dX3_worth_8 : decode cX3_worth 8 = .ok (.ireturn, 1) := by decide +kernel
theorem dX4_init_0 : decode cX4_init 0 = .ok (.aload_n 0, 1) := by decide +kernel
theorem dX4_init_1 : decode cX4_init 1 = .ok (.invokespecial 1, 3) := by decide +kernel
theorem dX4_init_4 : decode cX4_init 4 = .ok (.return_, 1) := by decide +kernel
theorem dX4_isKind_0 : decode cX4_isKind 0 = .ok (.iload_n 1, 1) := by decide +kernel
theorem dX4_isKind_1 : decode cX4_isKind 1 = .ok (.ifCond .ne 7, 3) := by decide +kernel
theorem dX4_isKind_4 : decode cX4_isKind 4 = .ok (.iconst 1, 1) := by decide +kernel
theorem dX4_isKind_5 : decode cX4_isKind 5 = .ok (.goto 4, 3) := by decide +kernel
theorem dX4_isKind_8 : decode cX4_isKind 8 = .ok (.iconst 0, 1) := by decide +kernel
theorem dX4_isKind_9 : decode cX4_isKind 9 = .ok (.ireturn, 1) := by decide +kernel
theorem dX4_reach_0 : decode cX4_reach 0 = .ok (.iload_n 1, 1) := by decide +kernel
theorem dX4_reach_1 : decode cX4_reach 1 = .ok (.ireturn, 1) := by decide +kernel
theorem dX4_minutes_0 : decode cX4_minutes 0 = .ok (.iload_n 1, 1) := by decide +kernel
theorem dX4_minutes_1 : decode cX4_minutes 1 = .ok (.iconst 5, 1) := by decide +kernel
theorem dX4_minutes_2 : decode cX4_minutes 2 = .ok (.idiv, 1) := by decide +kernel
theorem dX4_minutes_3 : decode cX4_minutes 3 = .ok (.iconst 1, 1) := by decide +kernel
theorem dX4_minutes_4 : decode cX4_minutes 4 = .ok (.iadd, 1) := by decide +kernel
theorem dX4_minutes_5 : decode cX4_minutes 5 = .ok (.ireturn, 1) := by decide +kernel
theorem dX4_worth_0 : decode cX4_worth 0 = .ok (.iload_n 1, 1) := by decide +kernel
theorem dX4_worth_1 : decode cX4_worth 1 = .ok (.ireturn, 1) := by decide +kernel
theorem dX4_letsMove_0 : decode cX4_letsMove 0 = .ok (.iload_n 1, 1) := by decide +kernel
theorem dX4_letsMove_1 : decode cX4_letsMove 1 = .ok (.ireturn, 1) := by decide +kernel
theorem dX6_init_0 : decode cX6_init 0 = .ok (.aload_n 0, 1) := by decide +kernel
theorem dX6_init_1 : decode cX6_init 1 = .ok (.invokespecial 1, 3) := by decide +kernel
theorem dX6_init_4 : decode cX6_init 4 = .ok (.return_, 1) := by decide +kernel
theorem dX6_isKind_0 : decode cX6_isKind 0 = .ok (.iload_n 1, 1) := by decide +kernel
theorem dX6_isKind_1 : decode cX6_isKind 1 = .ok (.iconst 1, 1) := by decide +kernel
theorem dX6_isKind_2 : decode cX6_isKind 2 = .ok (.if_icmp .eq 11, 3) := by decide +kernel
theorem dX6_isKind_5 : decode cX6_isKind 5 = .ok (.aload_n 0, 1) := by decide +kernel
theorem dX6_isKind_6 : decode cX6_isKind 6 = .ok (.iload_n 1, 1) := by decide +kernel
theorem dX6_isKind_7 : decode cX6_isKind 7 = .ok (.invokespecial 7, 3) := by decide +kernel
theorem dX6_isKind_10 : decode cX6_isKind 10 = .ok (.ifCond .eq 7, 3) := by decide +kernel
theorem dX6_isKind_13 : decode cX6_isKind 13 = .ok (.iconst 1, 1) := by decide +kernel
theorem dX6_isKind_14 : decode cX6_isKind 14 = .ok (.goto 4, 3) := by decide +kernel
theorem dX6_isKind_17 : decode cX6_isKind 17 = .ok (.iconst 0, 1) := by decide +kernel
theorem dX6_isKind_18 : decode cX6_isKind 18 = .ok (.ireturn, 1) := by decide +kernel
theorem dX6_reach_0 : decode cX6_reach 0 = .ok (.aload_n 0, 1) := by decide +kernel
theorem dX6_reach_1 : decode cX6_reach 1 = .ok (.iload_n 1, 1) := by decide +kernel
theorem dX6_reach_2 : decode cX6_reach 2 = .ok (.invokespecial 11, 3) := by decide +kernel
theorem dX6_reach_5 : decode cX6_reach 5 = .ok (.iconst 3, 1) := by decide +kernel
theorem dX6_reach_6 : decode cX6_reach 6 = .ok (.iadd, 1) := by decide +kernel
theorem dX6_reach_7 : decode cX6_reach 7 = .ok (.ireturn, 1) := by decide +kernel
theorem dX6_minutes_0 : decode cX6_minutes 0 = .ok (.iconst 2, 1) := by decide +kernel
theorem dX6_minutes_1 : decode cX6_minutes 1 = .ok (.aload_n 0, 1) := by decide +kernel
theorem dX6_minutes_2 : decode cX6_minutes 2 = .ok (.iload_n 1, 1) := by decide +kernel
theorem dX6_minutes_3 : decode cX6_minutes 3 = .ok (.invokespecial 15, 3) := by decide +kernel
theorem dX6_minutes_6 : decode cX6_minutes 6 = .ok (.imul, 1) := by decide +kernel
theorem dX6_minutes_7 : decode cX6_minutes 7 = .ok (.ireturn, 1) := by decide +kernel
theorem dX6_worth_0 : decode cX6_worth 0 = .ok (.aload_n 0, 1) := by decide +kernel
theorem dX6_worth_1 : decode cX6_worth 1 = .ok (.iload_n 1, 1) := by decide +kernel
theorem dX6_worth_2 : decode cX6_worth 2 = .ok (.invokespecial 18, 3) := by decide +kernel
theorem dX6_worth_5 : decode cX6_worth 5 = .ok (.iconst 4, 1) := by decide +kernel
theorem dX6_worth_6 : decode cX6_worth 6 = .ok (.isub, 1) := by decide +kernel
theorem dX6_worth_7 : decode cX6_worth 7 = .ok (.ireturn, 1) := by decide +kernel
theorem dX6_letsMove_0 : decode cX6_letsMove 0 = .ok (.iconst 1, 1) := by decide +kernel
theorem dX6_letsMove_1 : decode cX6_letsMove 1 = .ok (.ireturn, 1) := by decide +kernel
theorem dX7_init_0 : decode cX7_init 0 = .ok (.aload_n 0, 1) := by decide +kernel
theorem dX7_init_1 : decode cX7_init 1 = .ok (.invokespecial 3, 3) := by decide +kernel
theorem dX7_init_4 : decode cX7_init 4 = .ok (.aload_n 0, 1) := by decide +kernel
theorem dX7_init_5 : decode cX7_init 5 = .ok (.iconst (-1), 1) := by decide +kernel
theorem dX7_init_6 : decode cX7_init 6 = .ok (.putfield 9, 3) := by decide +kernel
theorem dX7_init_9 : decode cX7_init 9 = .ok (.aload_n 0, 1) := by decide +kernel
theorem dX7_init_10 : decode cX7_init 10 = .ok (.iconst 0, 1) := by decide +kernel
theorem dX7_init_11 : decode cX7_init 11 = .ok (.putfield 15, 3) := by decide +kernel
theorem dX7_init_14 : decode cX7_init 14 = .ok (.aload_n 0, 1) := by decide +kernel
theorem dX7_init_15 : decode cX7_init 15 = .ok (.bipush 24, 2) := by decide +kernel
theorem dX7_init_17 : decode cX7_init 17 = .ok (.newarray .int, 2) := by decide +kernel
theorem dX7_init_19 : decode cX7_init 19 = .ok (.putfield 18, 3) := by decide +kernel
theorem dX7_init_22 : decode cX7_init 22 = .ok (.return_, 1) := by decide +kernel
theorem dX7_become_0 : decode cX7_become 0 = .ok (.aload_n 0, 1) := by decide +kernel
theorem dX7_become_1 : decode cX7_become 1 = .ok (.iload_n 1, 1) := by decide +kernel
theorem dX7_become_2 : decode cX7_become 2 = .ok (.putfield 9, 3) := by decide +kernel
theorem dX7_become_5 : decode cX7_become 5 = .ok (.aload_n 0, 1) := by decide +kernel
theorem dX7_become_6 : decode cX7_become 6 = .ok (.iload_n 2, 1) := by decide +kernel
theorem dX7_become_7 : decode cX7_become 7 = .ok (.putfield 15, 3) := by decide +kernel
theorem dX7_become_10 : decode cX7_become 10 = .ok (.aload_n 0, 1) := by decide +kernel
theorem dX7_become_11 : decode cX7_become 11 = .ok (.getfield 18, 3) := by decide +kernel
theorem dX7_become_14 : decode cX7_become 14 = .ok (.iconst 0, 1) := by decide +kernel
theorem dX7_become_15 : decode cX7_become 15 = .ok (.invokestatic 22, 3) := by decide +kernel
theorem dX7_become_18 : decode cX7_become 18 = .ok (.return_, 1) := by decide +kernel
theorem dX7_becomeAs_0 : decode cX7_becomeAs 0 = .ok (.aload_n 0, 1) := by decide +kernel
theorem dX7_becomeAs_1 : decode cX7_becomeAs 1 = .ok (.aload_n 1, 1) := by decide +kernel
theorem dX7_becomeAs_2 : decode cX7_becomeAs 2 = .ok (.getfield 9, 3) := by decide +kernel
theorem dX7_becomeAs_5 : decode cX7_becomeAs 5 = .ok (.putfield 9, 3) := by decide +kernel
theorem dX7_becomeAs_8 : decode cX7_becomeAs 8 = .ok (.aload_n 0, 1) := by decide +kernel
theorem dX7_becomeAs_9 : decode cX7_becomeAs 9 = .ok (.aload_n 1, 1) := by decide +kernel
theorem dX7_becomeAs_10 : decode cX7_becomeAs 10 = .ok (.getfield 15, 3) := by decide +kernel
theorem dX7_becomeAs_13 : decode cX7_becomeAs 13 = .ok (.putfield 15, 3) := by decide +kernel
theorem dX7_becomeAs_16 : decode cX7_becomeAs 16 = .ok (.aload_n 1, 1) := by decide +kernel
theorem dX7_becomeAs_17 : decode cX7_becomeAs 17 = .ok (.getfield 18, 3) := by decide +kernel
theorem dX7_becomeAs_20 : decode cX7_becomeAs 20 = .ok (.iconst 0, 1) := by decide +kernel
theorem dX7_becomeAs_21 : decode cX7_becomeAs 21 = .ok (.aload_n 0, 1) := by decide +kernel
theorem dX7_becomeAs_22 : decode cX7_becomeAs 22 = .ok (.getfield 18, 3) := by decide +kernel
theorem dX7_becomeAs_25 : decode cX7_becomeAs 25 = .ok (.iconst 0, 1) := by decide +kernel
theorem dX7_becomeAs_26 : decode cX7_becomeAs 26 = .ok (.bipush 24, 2) := by decide +kernel
theorem dX7_becomeAs_28 : decode cX7_becomeAs 28 = .ok (.invokestatic 28, 3) := by decide +kernel
theorem dX7_becomeAs_31 : decode cX7_becomeAs 31 = .ok (.return_, 1) := by decide +kernel
theorem dX7_hasPlaces_0 : decode cX7_hasPlaces 0 = .ok (.iload_n 1, 1) := by decide +kernel
theorem dX7_hasPlaces_1 : decode cX7_hasPlaces 1 = .ok (.ifCond .lt 21, 3) := by decide +kernel
theorem dX7_hasPlaces_4 : decode cX7_hasPlaces 4 = .ok (.iload_n 2, 1) := by decide +kernel
theorem dX7_hasPlaces_5 : decode cX7_hasPlaces 5 = .ok (.ifCond .lt 17, 3) := by decide +kernel
theorem dX7_hasPlaces_8 : decode cX7_hasPlaces 8 = .ok (.iload_n 1, 1) := by decide +kernel
theorem dX7_hasPlaces_9 : decode cX7_hasPlaces 9 = .ok (.aload_n 0, 1) := by decide +kernel
theorem dX7_hasPlaces_10 : decode cX7_hasPlaces 10 = .ok (.getfield 15, 3) := by decide +kernel
theorem dX7_hasPlaces_13 : decode cX7_hasPlaces 13 = .ok (.iload_n 2, 1) := by decide +kernel
theorem dX7_hasPlaces_14 : decode cX7_hasPlaces 14 = .ok (.isub, 1) := by decide +kernel
theorem dX7_hasPlaces_15 : decode cX7_hasPlaces 15 = .ok (.if_icmp .gt 7, 3) := by decide +kernel
theorem dX7_hasPlaces_18 : decode cX7_hasPlaces 18 = .ok (.iconst 1, 1) := by decide +kernel
theorem dX7_hasPlaces_19 : decode cX7_hasPlaces 19 = .ok (.goto 4, 3) := by decide +kernel
theorem dX7_hasPlaces_22 : decode cX7_hasPlaces 22 = .ok (.iconst 0, 1) := by decide +kernel
theorem dX7_hasPlaces_23 : decode cX7_hasPlaces 23 = .ok (.ireturn, 1) := by decide +kernel
theorem dX8_init_0 : decode cX8_init 0 = .ok (.aload_n 0, 1) := by decide +kernel
theorem dX8_init_1 : decode cX8_init 1 = .ok (.invokespecial 1, 3) := by decide +kernel
theorem dX8_init_4 : decode cX8_init 4 = .ok (.aload_n 0, 1) := by decide +kernel
theorem dX8_init_5 : decode cX8_init 5 = .ok (.iload_n 1, 1) := by decide +kernel
theorem dX8_init_6 : decode cX8_init 6 = .ok (.putfield 7, 3) := by decide +kernel
theorem dX8_init_9 : decode cX8_init 9 = .ok (.aload_n 0, 1) := by decide +kernel
theorem dX8_init_10 : decode cX8_init 10 = .ok (.iload_n 2, 1) := by decide +kernel
theorem dX8_init_11 : decode cX8_init 11 = .ok (.putfield 13, 3) := by decide +kernel
theorem dX8_init_14 : decode cX8_init 14 = .ok (.aload_n 0, 1) := by decide +kernel
theorem dX8_init_15 : decode cX8_init 15 = .ok (.aload_n 3, 1) := by decide +kernel
theorem dX8_init_16 : decode cX8_init 16 = .ok (.putfield 16, 3) := by decide +kernel
theorem dX8_init_19 : decode cX8_init 19 = .ok (.return_, 1) := by decide +kernel
theorem dX8_gives_0 : decode cX8_gives 0 = .ok (.iconst 0, 1) := by decide +kernel
theorem dX8_gives_1 : decode cX8_gives 1 = .ok (.istore 5, 2) := by decide +kernel
theorem dX8_gives_3 : decode cX8_gives 3 = .ok (.iconst 0, 1) := by decide +kernel
theorem dX8_gives_4 : decode cX8_gives 4 = .ok (.istore 6, 2) := by decide +kernel
theorem dX8_gives_6 : decode cX8_gives 6 = .ok (.iload 6, 2) := by decide +kernel
theorem dX8_gives_8 : decode cX8_gives 8 = .ok (.aload_n 0, 1) := by decide +kernel
theorem dX8_gives_9 : decode cX8_gives 9 = .ok (.getfield 16, 3) := by decide +kernel
theorem dX8_gives_12 : decode cX8_gives 12 = .ok (.arraylength, 1) := by decide +kernel
theorem dX8_gives_13 : decode cX8_gives 13 = .ok (.if_icmp .ge 166, 3) := by decide +kernel
theorem dX8_gives_16 : decode cX8_gives 16 = .ok (.aload_n 0, 1) := by decide +kernel
theorem dX8_gives_17 : decode cX8_gives 17 = .ok (.getfield 16, 3) := by decide +kernel
theorem dX8_gives_20 : decode cX8_gives 20 = .ok (.iload 6, 2) := by decide +kernel
theorem dX8_gives_22 : decode cX8_gives 22 = .ok (.iaload, 1) := by decide +kernel
theorem dX8_gives_23 : decode cX8_gives 23 = .ok (.ifCond .lt 64, 3) := by decide +kernel
theorem dX8_gives_26 : decode cX8_gives 26 = .ok (.iload 5, 2) := by decide +kernel
theorem dX8_gives_28 : decode cX8_gives 28 = .ok (.aload 4, 2) := by decide +kernel
theorem dX8_gives_30 : decode cX8_gives 30 = .ok (.arraylength, 1) := by decide +kernel
theorem dX8_gives_31 : decode cX8_gives 31 = .ok (.if_icmp .lt 5, 3) := by decide +kernel
theorem dX8_gives_34 : decode cX8_gives 34 = .ok (.iconst 0, 1) := by decide +kernel
theorem dX8_gives_35 : decode cX8_gives 35 = .ok (.ireturn, 1) := by decide +kernel
theorem dX8_gives_36 : decode cX8_gives 36 = .ok (.aload 4, 2) := by decide +kernel
theorem dX8_gives_38 : decode cX8_gives 38 = .ok (.iload 5, 2) := by decide +kernel
theorem dX8_gives_40 : decode cX8_gives 40 = .ok (.aload_n 0, 1) := by decide +kernel
theorem dX8_gives_41 : decode cX8_gives 41 = .ok (.getfield 16, 3) := by decide +kernel
theorem dX8_gives_44 : decode cX8_gives 44 = .ok (.iload 6, 2) := by decide +kernel
theorem dX8_gives_46 : decode cX8_gives 46 = .ok (.iaload, 1) := by decide +kernel
theorem dX8_gives_47 : decode cX8_gives 47 = .ok (.sipush 10000, 3) := by decide +kernel
theorem dX8_gives_50 : decode cX8_gives 50 = .ok (.if_icmp .ge 13, 3) := by decide +kernel
theorem dX8_gives_53 : decode cX8_gives 53 = .ok (.aload_n 0, 1) := by decide +kernel
theorem dX8_gives_54 : decode cX8_gives 54 = .ok (.getfield 16, 3) := by decide +kernel
theorem dX8_gives_57 : decode cX8_gives 57 = .ok (.iload 6, 2) := by decide +kernel
theorem dX8_gives_59 : decode cX8_gives 59 = .ok (.iaload, 1) := by decide +kernel
theorem dX8_gives_60 : decode cX8_gives 60 = .ok (.goto 20, 3) := by decide +kernel
theorem dX8_gives_63 : decode cX8_gives 63 = .ok (.aload_n 0, 1) := by decide +kernel
theorem dX8_gives_64 : decode cX8_gives 64 = .ok (.getfield 16, 3) := by decide +kernel
theorem dX8_gives_67 : decode cX8_gives 67 = .ok (.iload 6, 2) := by decide +kernel
theorem dX8_gives_69 : decode cX8_gives 69 = .ok (.iaload, 1) := by decide +kernel
theorem dX8_gives_70 : decode cX8_gives 70 = .ok (.sipush 10000, 3) := by decide +kernel
theorem dX8_gives_73 : decode cX8_gives 73 = .ok (.isub, 1) := by decide +kernel
theorem dX8_gives_74 : decode cX8_gives 74 = .ok (.iload_n 1, 1) := by decide +kernel
theorem dX8_gives_75 : decode cX8_gives 75 = .ok (.iload_n 2, 1) := by decide +kernel
theorem dX8_gives_76 : decode cX8_gives 76 = .ok (.iload_n 3, 1) := by decide +kernel
theorem dX8_gives_77 : decode cX8_gives 77 = .ok (.invokestatic 20, 3) := by decide +kernel
theorem dX8_gives_80 : decode cX8_gives 80 = .ok (.iastore, 1) := by decide +kernel
theorem dX8_gives_81 : decode cX8_gives 81 = .ok (.iinc 5 1, 3) := by decide +kernel
theorem dX8_gives_84 : decode cX8_gives 84 = .ok (.goto 89, 3) := by decide +kernel
theorem dX8_gives_87 : decode cX8_gives 87 = .ok (.aload_n 0, 1) := by decide +kernel
theorem dX8_gives_88 : decode cX8_gives 88 = .ok (.getfield 16, 3) := by decide +kernel
theorem dX8_gives_91 : decode cX8_gives 91 = .ok (.iload 6, 2) := by decide +kernel
theorem dX8_gives_93 : decode cX8_gives 93 = .ok (.iaload, 1) := by decide +kernel
theorem dX8_gives_94 : decode cX8_gives 94 = .ok (.bipush (-33), 2) := by decide +kernel
theorem dX8_gives_96 : decode cX8_gives 96 = .ok (.if_icmp .ne 36, 3) := by decide +kernel
theorem dX8_gives_99 : decode cX8_gives 99 = .ok (.iload 5, 2) := by decide +kernel
theorem dX8_gives_101 : decode cX8_gives 101 = .ok (.iconst 1, 1) := by decide +kernel
theorem dX8_gives_102 : decode cX8_gives 102 = .ok (.if_icmp .ge 5, 3) := by decide +kernel
theorem dX8_gives_105 : decode cX8_gives 105 = .ok (.iconst 0, 1) := by decide +kernel
theorem dX8_gives_106 : decode cX8_gives 106 = .ok (.ireturn, 1) := by decide +kernel
theorem dX8_gives_107 : decode cX8_gives 107 = .ok (.aload 4, 2) := by decide +kernel
theorem dX8_gives_109 : decode cX8_gives 109 = .ok (.iload 5, 2) := by decide +kernel
theorem dX8_gives_111 : decode cX8_gives 111 = .ok (.iconst 1, 1) := by decide +kernel
theorem dX8_gives_112 : decode cX8_gives 112 = .ok (.isub, 1) := by decide +kernel
theorem dX8_gives_113 : decode cX8_gives 113 = .ok (.aload 4, 2) := by decide +kernel
theorem dX8_gives_115 : decode cX8_gives 115 = .ok (.iload 5, 2) := by decide +kernel
theorem dX8_gives_117 : decode cX8_gives 117 = .ok (.iconst 1, 1) := by decide +kernel
theorem dX8_gives_118 : decode cX8_gives 118 = .ok (.isub, 1) := by decide +kernel
theorem dX8_gives_119 : decode cX8_gives 119 = .ok (.iaload, 1) := by decide +kernel
theorem dX8_gives_120 : decode cX8_gives 120 = .ok (.ifCond .ne 7, 3) := by decide +kernel
theorem dX8_gives_123 : decode cX8_gives 123 = .ok (.iconst 1, 1) := by decide +kernel
theorem dX8_gives_124 : decode cX8_gives 124 = .ok (.goto 4, 3) := by decide +kernel
theorem dX8_gives_127 : decode cX8_gives 127 = .ok (.iconst 0, 1) := by decide +kernel
theorem dX8_gives_128 : decode cX8_gives 128 = .ok (.iastore, 1) := by decide +kernel
theorem dX8_gives_129 : decode cX8_gives 129 = .ok (.goto 44, 3) := by decide +kernel
theorem dX8_gives_132 : decode cX8_gives 132 = .ok (.iload 5, 2) := by decide +kernel
theorem dX8_gives_134 : decode cX8_gives 134 = .ok (.iconst 2, 1) := by decide +kernel
theorem dX8_gives_135 : decode cX8_gives 135 = .ok (.if_icmp .ge 5, 3) := by decide +kernel
theorem dX8_gives_138 : decode cX8_gives 138 = .ok (.iconst 0, 1) := by decide +kernel
theorem dX8_gives_139 : decode cX8_gives 139 = .ok (.ireturn, 1) := by decide +kernel
theorem dX8_gives_140 : decode cX8_gives 140 = .ok (.iinc 5 (-1), 3) := by decide +kernel
theorem dX8_gives_143 : decode cX8_gives 143 = .ok (.aload 4, 2) := by decide +kernel
theorem dX8_gives_145 : decode cX8_gives 145 = .ok (.iload 5, 2) := by decide +kernel
theorem dX8_gives_147 : decode cX8_gives 147 = .ok (.iconst 1, 1) := by decide +kernel
theorem dX8_gives_148 : decode cX8_gives 148 = .ok (.isub, 1) := by decide +kernel
theorem dX8_gives_149 : decode cX8_gives 149 = .ok (.aload_n 0, 1) := by decide +kernel
theorem dX8_gives_150 : decode cX8_gives 150 = .ok (.getfield 16, 3) := by decide +kernel
theorem dX8_gives_153 : decode cX8_gives 153 = .ok (.iload 6, 2) := by decide +kernel
theorem dX8_gives_155 : decode cX8_gives 155 = .ok (.iaload, 1) := by decide +kernel
theorem dX8_gives_156 : decode cX8_gives 156 = .ok (.ineg, 1) := by decide +kernel
theorem dX8_gives_157 : decode cX8_gives 157 = .ok (.aload 4, 2) := by decide +kernel
theorem dX8_gives_159 : decode cX8_gives 159 = .ok (.iload 5, 2) := by decide +kernel
theorem dX8_gives_161 : decode cX8_gives 161 = .ok (.iconst 1, 1) := by decide +kernel
theorem dX8_gives_162 : decode cX8_gives 162 = .ok (.isub, 1) := by decide +kernel
theorem dX8_gives_163 : decode cX8_gives 163 = .ok (.iaload, 1) := by decide +kernel
theorem dX8_gives_164 : decode cX8_gives 164 = .ok (.aload 4, 2) := by decide +kernel
theorem dX8_gives_166 : decode cX8_gives 166 = .ok (.iload 5, 2) := by decide +kernel
theorem dX8_gives_168 : decode cX8_gives 168 = .ok (.iaload, 1) := by decide +kernel
theorem dX8_gives_169 : decode cX8_gives 169 = .ok (.invokestatic 24, 3) := by decide +kernel
theorem dX8_gives_172 : decode cX8_gives 172 = .ok (.iastore, 1) := by decide +kernel
theorem dX8_gives_173 : decode cX8_gives 173 = .ok (.iinc 6 1, 3) := by decide +kernel
theorem dX8_gives_176 : decode cX8_gives 176 = .ok (.goto (-170), 3) := by decide +kernel
theorem dX8_gives_179 : decode cX8_gives 179 = .ok (.iload 5, 2) := by decide +kernel
theorem dX8_gives_181 : decode cX8_gives 181 = .ok (.ifCond .le 10, 3) := by decide +kernel
theorem dX8_gives_184 : decode cX8_gives 184 = .ok (.aload 4, 2) := by decide +kernel
theorem dX8_gives_186 : decode cX8_gives 186 = .ok (.iconst 0, 1) := by decide +kernel
theorem dX8_gives_187 : decode cX8_gives 187 = .ok (.iaload, 1) := by decide +kernel
theorem dX8_gives_188 : decode cX8_gives 188 = .ok (.goto 4, 3) := by decide +kernel
theorem dX8_gives_191 : decode cX8_gives 191 = .ok (.iconst 0, 1) := by decide +kernel
theorem dX8_gives_192 : decode cX8_gives 192 = .ok (.ireturn, 1) := by decide +kernel
theorem dX8_named_0 : decode cX8_named 0 = .ok (.iload_n 0, 1) := by decide +kernel
theorem dX8_named_1 : decode cX8_named 1 = .ok (.ifCond .ne 7, 3) := by decide +kernel
theorem dX8_named_4 : decode cX8_named 4 = .ok (.iload_n 1, 1) := by decide +kernel
theorem dX8_named_5 : decode cX8_named 5 = .ok (.goto 13, 3) := by decide +kernel
theorem dX8_named_8 : decode cX8_named 8 = .ok (.iload_n 0, 1) := by decide +kernel
theorem dX8_named_9 : decode cX8_named 9 = .ok (.iconst 1, 1) := by decide +kernel
theorem dX8_named_10 : decode cX8_named 10 = .ok (.if_icmp .ne 7, 3) := by decide +kernel
theorem dX8_named_13 : decode cX8_named 13 = .ok (.iload_n 2, 1) := by decide +kernel
theorem dX8_named_14 : decode cX8_named 14 = .ok (.goto 4, 3) := by decide +kernel
theorem dX8_named_17 : decode cX8_named 17 = .ok (.iload_n 3, 1) := by decide +kernel
theorem dX8_named_18 : decode cX8_named 18 = .ok (.ireturn, 1) := by decide +kernel
theorem dX8_joined_0 : decode cX8_joined 0 = .ok (.iload_n 0, 1) := by decide +kernel
theorem dX8_joined_1 : decode cX8_joined 1 = .ok (.lookupswitch 168 #[(38, 140), (42, 91), (43, 83), (45, 87), (47, 95), (60, 107), (61, 118), (62, 129), (124, 154)], 83) := by decide +kernel
theorem dX8_joined_84 : decode cX8_joined 84 = .ok (.iload_n 1, 1) := by decide +kernel
theorem dX8_joined_85 : decode cX8_joined 85 = .ok (.iload_n 2, 1) := by decide +kernel
theorem dX8_joined_86 : decode cX8_joined 86 = .ok (.iadd, 1) := by decide +kernel
theorem dX8_joined_87 : decode cX8_joined 87 = .ok (.ireturn, 1) := by decide +kernel
theorem dX8_joined_88 : decode cX8_joined 88 = .ok (.iload_n 1, 1) := by decide +kernel
theorem dX8_joined_89 : decode cX8_joined 89 = .ok (.iload_n 2, 1) := by decide +kernel
theorem dX8_joined_90 : decode cX8_joined 90 = .ok (.isub, 1) := by decide +kernel
theorem dX8_joined_91 : decode cX8_joined 91 = .ok (.ireturn, 1) := by decide +kernel
theorem dX8_joined_92 : decode cX8_joined 92 = .ok (.iload_n 1, 1) := by decide +kernel
theorem dX8_joined_93 : decode cX8_joined 93 = .ok (.iload_n 2, 1) := by decide +kernel
theorem dX8_joined_94 : decode cX8_joined 94 = .ok (.imul, 1) := by decide +kernel
theorem dX8_joined_95 : decode cX8_joined 95 = .ok (.ireturn, 1) := by decide +kernel
theorem dX8_joined_96 : decode cX8_joined 96 = .ok (.iload_n 2, 1) := by decide +kernel
theorem dX8_joined_97 : decode cX8_joined 97 = .ok (.ifCond .ne 7, 3) := by decide +kernel
theorem dX8_joined_100 : decode cX8_joined 100 = .ok (.iconst 0, 1) := by decide +kernel
theorem dX8_joined_101 : decode cX8_joined 101 = .ok (.goto 6, 3) := by decide +kernel
theorem dX8_joined_104 : decode cX8_joined 104 = .ok (.iload_n 1, 1) := by decide +kernel
theorem dX8_joined_105 : decode cX8_joined 105 = .ok (.iload_n 2, 1) := by decide +kernel
theorem dX8_joined_106 : decode cX8_joined 106 = .ok (.idiv, 1) := by decide +kernel
theorem dX8_joined_107 : decode cX8_joined 107 = .ok (.ireturn, 1) := by decide +kernel
theorem dX8_joined_108 : decode cX8_joined 108 = .ok (.iload_n 1, 1) := by decide +kernel
theorem dX8_joined_109 : decode cX8_joined 109 = .ok (.iload_n 2, 1) := by decide +kernel
theorem dX8_joined_110 : decode cX8_joined 110 = .ok (.if_icmp .ge 7, 3) := by decide +kernel
theorem dX8_joined_113 : decode cX8_joined 113 = .ok (.iconst 1, 1) := by decide +kernel
theorem dX8_joined_114 : decode cX8_joined 114 = .ok (.goto 4, 3) := by decide +kernel
theorem dX8_joined_117 : decode cX8_joined 117 = .ok (.iconst 0, 1) := by decide +kernel
theorem dX8_joined_118 : decode cX8_joined 118 = .ok (.ireturn, 1) := by decide +kernel
theorem dX8_joined_119 : decode cX8_joined 119 = .ok (.iload_n 1, 1) := by decide +kernel
theorem dX8_joined_120 : decode cX8_joined 120 = .ok (.iload_n 2, 1) := by decide +kernel
theorem dX8_joined_121 : decode cX8_joined 121 = .ok (.if_icmp .ne 7, 3) := by decide +kernel
theorem dX8_joined_124 : decode cX8_joined 124 = .ok (.iconst 1, 1) := by decide +kernel
theorem dX8_joined_125 : decode cX8_joined 125 = .ok (.goto 4, 3) := by decide +kernel
theorem dX8_joined_128 : decode cX8_joined 128 = .ok (.iconst 0, 1) := by decide +kernel
theorem dX8_joined_129 : decode cX8_joined 129 = .ok (.ireturn, 1) := by decide +kernel
theorem dX8_joined_130 : decode cX8_joined 130 = .ok (.iload_n 1, 1) := by decide +kernel
theorem dX8_joined_131 : decode cX8_joined 131 = .ok (.iload_n 2, 1) := by decide +kernel
theorem dX8_joined_132 : decode cX8_joined 132 = .ok (.if_icmp .le 7, 3) := by decide +kernel
theorem dX8_joined_135 : decode cX8_joined 135 = .ok (.iconst 1, 1) := by decide +kernel
theorem dX8_joined_136 : decode cX8_joined 136 = .ok (.goto 4, 3) := by decide +kernel
theorem dX8_joined_139 : decode cX8_joined 139 = .ok (.iconst 0, 1) := by decide +kernel
theorem dX8_joined_140 : decode cX8_joined 140 = .ok (.ireturn, 1) := by decide +kernel
theorem dX8_joined_141 : decode cX8_joined 141 = .ok (.iload_n 1, 1) := by decide +kernel
theorem dX8_joined_142 : decode cX8_joined 142 = .ok (.ifCond .eq 11, 3) := by decide +kernel
theorem dX8_joined_145 : decode cX8_joined 145 = .ok (.iload_n 2, 1) := by decide +kernel
theorem dX8_joined_146 : decode cX8_joined 146 = .ok (.ifCond .eq 7, 3) := by decide +kernel
theorem dX8_joined_149 : decode cX8_joined 149 = .ok (.iconst 1, 1) := by decide +kernel
theorem dX8_joined_150 : decode cX8_joined 150 = .ok (.goto 4, 3) := by decide +kernel
theorem dX8_joined_153 : decode cX8_joined 153 = .ok (.iconst 0, 1) := by decide +kernel
theorem dX8_joined_154 : decode cX8_joined 154 = .ok (.ireturn, 1) := by decide +kernel
theorem dX8_joined_155 : decode cX8_joined 155 = .ok (.iload_n 1, 1) := by decide +kernel
theorem dX8_joined_156 : decode cX8_joined 156 = .ok (.ifCond .ne 7, 3) := by decide +kernel
theorem dX8_joined_159 : decode cX8_joined 159 = .ok (.iload_n 2, 1) := by decide +kernel
theorem dX8_joined_160 : decode cX8_joined 160 = .ok (.ifCond .eq 7, 3) := by decide +kernel
theorem dX8_joined_163 : decode cX8_joined 163 = .ok (.iconst 1, 1) := by decide +kernel
theorem dX8_joined_164 : decode cX8_joined 164 = .ok (.goto 4, 3) := by decide +kernel
theorem dX8_joined_167 : decode cX8_joined 167 = .ok (.iconst 0, 1) := by decide +kernel
theorem dX8_joined_168 : decode cX8_joined 168 = .ok (.ireturn, 1) := by decide +kernel
theorem dX8_joined_169 : decode cX8_joined 169 = .ok (.iconst 0, 1) := by decide +kernel
theorem dX8_joined_170 : decode cX8_joined 170 = .ok (.ireturn, 1) := by decide +kernel
theorem dJ0_length_8abf5_0 : decode cJ0_length_8abf5 0 = .ok (.aload_n 0, 1) := by decide +kernel
theorem dJ0_length_8abf5_1 : decode cJ0_length_8abf5 1 = .ok (.getfield 9, 3) := by decide +kernel
theorem dJ0_length_8abf5_4 : decode cJ0_length_8abf5 4 = .ok (.arraylength, 1) := by decide +kernel
theorem dJ0_length_8abf5_5 : decode cJ0_length_8abf5 5 = .ok (.aload_n 0, 1) := by decide +kernel
theorem dJ0_length_8abf5_6 : decode cJ0_length_8abf5 6 = .ok (.invokevirtual 335, 3) := by decide +kernel
theorem dJ0_length_8abf5_9 : decode cJ0_length_8abf5 9 = .ok (.ishr, 1) := by decide +kernel
theorem dJ0_length_8abf5_10 : decode cJ0_length_8abf5 10 = .ok (.ireturn, 1) := by decide +kernel
theorem dJ0_charAt_5068e_0 : decode cJ0_charAt_5068e 0 = .ok (.aload_n 0, 1) := by decide +kernel
theorem dJ0_charAt_5068e_1 : decode cJ0_charAt_5068e 1 = .ok (.invokevirtual 492, 3) := by decide +kernel
theorem dJ0_charAt_5068e_4 : decode cJ0_charAt_5068e 4 = .ok (.ifCond .eq 12, 3) := by decide +kernel
theorem dJ0_charAt_5068e_7 : decode cJ0_charAt_5068e 7 = .ok (.aload_n 0, 1) := by decide +kernel
theorem dJ0_charAt_5068e_8 : decode cJ0_charAt_5068e 8 = .ok (.getfield 9, 3) := by decide +kernel
theorem dJ0_charAt_5068e_11 : decode cJ0_charAt_5068e 11 = .ok (.iload_n 1, 1) := by decide +kernel
theorem dJ0_charAt_5068e_12 : decode cJ0_charAt_5068e 12 = .ok (.invokestatic 495, 3) := by decide +kernel
theorem dJ0_charAt_5068e_15 : decode cJ0_charAt_5068e 15 = .ok (.ireturn, 1) := by decide +kernel
theorem dJ0_charAt_5068e_16 : decode cJ0_charAt_5068e 16 = .ok (.aload_n 0, 1) := by decide +kernel
theorem dJ0_charAt_5068e_17 : decode cJ0_charAt_5068e 17 = .ok (.getfield 9, 3) := by decide +kernel
theorem dJ0_charAt_5068e_20 : decode cJ0_charAt_5068e 20 = .ok (.iload_n 1, 1) := by decide +kernel
theorem dJ0_charAt_5068e_21 : decode cJ0_charAt_5068e 21 = .ok (.invokestatic 498, 3) := by decide +kernel
theorem dJ0_charAt_5068e_24 : decode cJ0_charAt_5068e 24 = .ok (.ireturn, 1) := by decide +kernel
theorem dJ0_indexOf_0f7a4_0 : decode cJ0_indexOf_0f7a4 0 = .ok (.aload_n 0, 1) := by decide +kernel
theorem dJ0_indexOf_0f7a4_1 : decode cJ0_indexOf_0f7a4 1 = .ok (.iload_n 1, 1) := by decide +kernel
theorem dJ0_indexOf_0f7a4_2 : decode cJ0_indexOf_0f7a4 2 = .ok (.iconst 0, 1) := by decide +kernel
theorem dJ0_indexOf_0f7a4_3 : decode cJ0_indexOf_0f7a4 3 = .ok (.invokevirtual 633, 3) := by decide +kernel
theorem dJ0_indexOf_0f7a4_6 : decode cJ0_indexOf_0f7a4 6 = .ok (.ireturn, 1) := by decide +kernel
theorem dJ0_indexOf_7cf53_0 : decode cJ0_indexOf_7cf53 0 = .ok (.aload_n 0, 1) := by decide +kernel
theorem dJ0_indexOf_7cf53_1 : decode cJ0_indexOf_7cf53 1 = .ok (.invokevirtual 492, 3) := by decide +kernel
theorem dJ0_indexOf_7cf53_4 : decode cJ0_indexOf_7cf53 4 = .ok (.ifCond .eq 19, 3) := by decide +kernel
theorem dJ0_indexOf_7cf53_7 : decode cJ0_indexOf_7cf53 7 = .ok (.aload_n 0, 1) := by decide +kernel
theorem dJ0_indexOf_7cf53_8 : decode cJ0_indexOf_7cf53 8 = .ok (.getfield 9, 3) := by decide +kernel
theorem dJ0_indexOf_7cf53_11 : decode cJ0_indexOf_7cf53 11 = .ok (.iload_n 1, 1) := by decide +kernel
theorem dJ0_indexOf_7cf53_12 : decode cJ0_indexOf_7cf53 12 = .ok (.iload_n 2, 1) := by decide +kernel
theorem dJ0_indexOf_7cf53_13 : decode cJ0_indexOf_7cf53 13 = .ok (.aload_n 0, 1) := by decide +kernel
theorem dJ0_indexOf_7cf53_14 : decode cJ0_indexOf_7cf53 14 = .ok (.invokevirtual 505, 3) := by decide +kernel
theorem dJ0_indexOf_7cf53_17 : decode cJ0_indexOf_7cf53 17 = .ok (.invokestatic 637, 3) := by decide +kernel
theorem dJ0_indexOf_7cf53_20 : decode cJ0_indexOf_7cf53 20 = .ok (.goto 16, 3) := by decide +kernel
theorem dJ0_indexOf_7cf53_23 : decode cJ0_indexOf_7cf53 23 = .ok (.aload_n 0, 1) := by decide +kernel
theorem dJ0_indexOf_7cf53_24 : decode cJ0_indexOf_7cf53 24 = .ok (.getfield 9, 3) := by decide +kernel
theorem dJ0_indexOf_7cf53_27 : decode cJ0_indexOf_7cf53 27 = .ok (.iload_n 1, 1) := by decide +kernel
theorem dJ0_indexOf_7cf53_28 : decode cJ0_indexOf_7cf53 28 = .ok (.iload_n 2, 1) := by decide +kernel
theorem dJ0_indexOf_7cf53_29 : decode cJ0_indexOf_7cf53 29 = .ok (.aload_n 0, 1) := by decide +kernel
theorem dJ0_indexOf_7cf53_30 : decode cJ0_indexOf_7cf53 30 = .ok (.invokevirtual 505, 3) := by decide +kernel
theorem dJ0_indexOf_7cf53_33 : decode cJ0_indexOf_7cf53 33 = .ok (.invokestatic 640, 3) := by decide +kernel
theorem dJ0_indexOf_7cf53_36 : decode cJ0_indexOf_7cf53 36 = .ok (.ireturn, 1) := by decide +kernel
theorem dJ0_coder_7d493_0 : decode cJ0_coder_7d493 0 = .ok (.getstatic 38, 3) := by decide +kernel
theorem dJ0_coder_7d493_3 : decode cJ0_coder_7d493 3 = .ok (.ifCond .eq 10, 3) := by decide +kernel
theorem dJ0_coder_7d493_6 : decode cJ0_coder_7d493 6 = .ok (.aload_n 0, 1) := by decide +kernel
theorem dJ0_coder_7d493_7 : decode cJ0_coder_7d493 7 = .ok (.getfield 15, 3) := by decide +kernel
theorem dJ0_coder_7d493_10 : decode cJ0_coder_7d493 10 = .ok (.goto 4, 3) := by decide +kernel
theorem dJ0_coder_7d493_13 : decode cJ0_coder_7d493 13 = .ok (.iconst 1, 1) := by decide +kernel
theorem dJ0_coder_7d493_14 : decode cJ0_coder_7d493 14 = .ok (.ireturn, 1) := by decide +kernel
theorem dJ0_isLatin1_aae02_0 : decode cJ0_isLatin1_aae02 0 = .ok (.getstatic 38, 3) := by decide +kernel
theorem dJ0_isLatin1_aae02_3 : decode cJ0_isLatin1_aae02 3 = .ok (.ifCond .eq 14, 3) := by decide +kernel
theorem dJ0_isLatin1_aae02_6 : decode cJ0_isLatin1_aae02 6 = .ok (.aload_n 0, 1) := by decide +kernel
theorem dJ0_isLatin1_aae02_7 : decode cJ0_isLatin1_aae02 7 = .ok (.getfield 15, 3) := by decide +kernel
theorem dJ0_isLatin1_aae02_10 : decode cJ0_isLatin1_aae02 10 = .ok (.ifCond .ne 7, 3) := by decide +kernel
theorem dJ0_isLatin1_aae02_13 : decode cJ0_isLatin1_aae02 13 = .ok (.iconst 1, 1) := by decide +kernel
theorem dJ0_isLatin1_aae02_14 : decode cJ0_isLatin1_aae02 14 = .ok (.goto 4, 3) := by decide +kernel
theorem dJ0_isLatin1_aae02_17 : decode cJ0_isLatin1_aae02 17 = .ok (.iconst 0, 1) := by decide +kernel
theorem dJ0_isLatin1_aae02_18 : decode cJ0_isLatin1_aae02 18 = .ok (.ireturn, 1) := by decide +kernel
theorem dJ0_checkIndex_df160_0 : decode cJ0_checkIndex_df160 0 = .ok (.iload_n 0, 1) := by decide +kernel
theorem dJ0_checkIndex_df160_1 : decode cJ0_checkIndex_df160 1 = .ok (.iload_n 1, 1) := by decide +kernel
theorem dJ0_checkIndex_df160_2 : decode cJ0_checkIndex_df160 2 = .ok (.getstatic 1053, 3) := by decide +kernel
theorem dJ0_checkIndex_df160_5 : decode cJ0_checkIndex_df160 5 = .ok (.invokestatic 1059, 3) := by decide +kernel
theorem dJ0_checkIndex_df160_8 : decode cJ0_checkIndex_df160 8 = .ok (.pop, 1) := by decide +kernel
theorem dJ0_checkIndex_df160_9 : decode cJ0_checkIndex_df160 9 = .ok (.return_, 1) := by decide +kernel
theorem dJ0_checkBoundsBeginEnd_23922_0 : decode cJ0_checkBoundsBeginEnd_23922 0 = .ok (.iload_n 0, 1) := by decide +kernel
theorem dJ0_checkBoundsBeginEnd_23922_1 : decode cJ0_checkBoundsBeginEnd_23922 1 = .ok (.iload_n 1, 1) := by decide +kernel
theorem dJ0_checkBoundsBeginEnd_23922_2 : decode cJ0_checkBoundsBeginEnd_23922 2 = .ok (.iload_n 2, 1) := by decide +kernel
theorem dJ0_checkBoundsBeginEnd_23922_3 : decode cJ0_checkBoundsBeginEnd_23922 3 = .ok (.getstatic 1053, 3) := by decide +kernel
theorem dJ0_checkBoundsBeginEnd_23922_6 : decode cJ0_checkBoundsBeginEnd_23922 6 = .ok (.invokestatic 1062, 3) := by decide +kernel
theorem dJ0_checkBoundsBeginEnd_23922_9 : decode cJ0_checkBoundsBeginEnd_23922 9 = .ok (.pop, 1) := by decide +kernel
theorem dJ0_checkBoundsBeginEnd_23922_10 : decode cJ0_checkBoundsBeginEnd_23922 10 = .ok (.return_, 1) := by decide +kernel
theorem dJ1_charAt_3b067_0 : decode cJ1_charAt_3b067 0 = .ok (.iload_n 1, 1) := by decide +kernel
theorem dJ1_charAt_3b067_1 : decode cJ1_charAt_3b067 1 = .ok (.aload_n 0, 1) := by decide +kernel
theorem dJ1_charAt_3b067_2 : decode cJ1_charAt_3b067 2 = .ok (.arraylength, 1) := by decide +kernel
theorem dJ1_charAt_3b067_3 : decode cJ1_charAt_3b067 3 = .ok (.invokestatic 9, 3) := by decide +kernel
theorem dJ1_charAt_3b067_6 : decode cJ1_charAt_3b067 6 = .ok (.aload_n 0, 1) := by decide +kernel
theorem dJ1_charAt_3b067_7 : decode cJ1_charAt_3b067 7 = .ok (.iload_n 1, 1) := by decide +kernel
theorem dJ1_charAt_3b067_8 : decode cJ1_charAt_3b067 8 = .ok (.baload, 1) := by decide +kernel
theorem dJ1_charAt_3b067_9 : decode cJ1_charAt_3b067 9 = .ok (.sipush 255, 3) := by decide +kernel
theorem dJ1_charAt_3b067_12 : decode cJ1_charAt_3b067 12 = .ok (.iand, 1) := by decide +kernel
theorem dJ1_charAt_3b067_13 : decode cJ1_charAt_3b067 13 = .ok (.i2c, 1) := by decide +kernel
theorem dJ1_charAt_3b067_14 : decode cJ1_charAt_3b067 14 = .ok (.ireturn, 1) := by decide +kernel
theorem dJ1_canEncode_9a6ad_0 : decode cJ1_canEncode_9a6ad 0 = .ok (.iload_n 0, 1) := by decide +kernel
theorem dJ1_canEncode_9a6ad_1 : decode cJ1_canEncode_9a6ad 1 = .ok (.ifCond .lt 14, 3) := by decide +kernel
theorem dJ1_canEncode_9a6ad_4 : decode cJ1_canEncode_9a6ad 4 = .ok (.iload_n 0, 1) := by decide +kernel
theorem dJ1_canEncode_9a6ad_5 : decode cJ1_canEncode_9a6ad 5 = .ok (.sipush 255, 3) := by decide +kernel
theorem dJ1_canEncode_9a6ad_8 : decode cJ1_canEncode_9a6ad 8 = .ok (.if_icmp .gt 7, 3) := by decide +kernel
theorem dJ1_canEncode_9a6ad_11 : decode cJ1_canEncode_9a6ad 11 = .ok (.iconst 1, 1) := by decide +kernel
theorem dJ1_canEncode_9a6ad_12 : decode cJ1_canEncode_9a6ad 12 = .ok (.goto 4, 3) := by decide +kernel
theorem dJ1_canEncode_9a6ad_15 : decode cJ1_canEncode_9a6ad 15 = .ok (.iconst 0, 1) := by decide +kernel
theorem dJ1_canEncode_9a6ad_16 : decode cJ1_canEncode_9a6ad 16 = .ok (.ireturn, 1) := by decide +kernel
theorem dJ1_indexOf_4cfef_0 : decode cJ1_indexOf_4cfef 0 = .ok (.iload_n 1, 1) := by decide +kernel
theorem dJ1_indexOf_4cfef_1 : decode cJ1_indexOf_4cfef 1 = .ok (.invokestatic 88, 3) := by decide +kernel
theorem dJ1_indexOf_4cfef_4 : decode cJ1_indexOf_4cfef 4 = .ok (.ifCond .ne 5, 3) := by decide +kernel
theorem dJ1_indexOf_4cfef_7 : decode cJ1_indexOf_4cfef 7 = .ok (.iconst (-1), 1) := by decide +kernel
theorem dJ1_indexOf_4cfef_8 : decode cJ1_indexOf_4cfef 8 = .ok (.ireturn, 1) := by decide +kernel
theorem dJ1_indexOf_4cfef_9 : decode cJ1_indexOf_4cfef 9 = .ok (.iload_n 2, 1) := by decide +kernel
theorem dJ1_indexOf_4cfef_10 : decode cJ1_indexOf_4cfef 10 = .ok (.iconst 0, 1) := by decide +kernel
theorem dJ1_indexOf_4cfef_11 : decode cJ1_indexOf_4cfef 11 = .ok (.invokestatic 92, 3) := by decide +kernel
theorem dJ1_indexOf_4cfef_14 : decode cJ1_indexOf_4cfef 14 = .ok (.istore_n 2, 1) := by decide +kernel
theorem dJ1_indexOf_4cfef_15 : decode cJ1_indexOf_4cfef 15 = .ok (.iload_n 3, 1) := by decide +kernel
theorem dJ1_indexOf_4cfef_16 : decode cJ1_indexOf_4cfef 16 = .ok (.aload_n 0, 1) := by decide +kernel
theorem dJ1_indexOf_4cfef_17 : decode cJ1_indexOf_4cfef 17 = .ok (.arraylength, 1) := by decide +kernel
theorem dJ1_indexOf_4cfef_18 : decode cJ1_indexOf_4cfef 18 = .ok (.invokestatic 38, 3) := by decide +kernel
theorem dJ1_indexOf_4cfef_21 : decode cJ1_indexOf_4cfef 21 = .ok (.istore_n 3, 1) := by decide +kernel
theorem dJ1_indexOf_4cfef_22 : decode cJ1_indexOf_4cfef 22 = .ok (.iload_n 2, 1) := by decide +kernel
theorem dJ1_indexOf_4cfef_23 : decode cJ1_indexOf_4cfef 23 = .ok (.iload_n 3, 1) := by decide +kernel
theorem dJ1_indexOf_4cfef_24 : decode cJ1_indexOf_4cfef 24 = .ok (.if_icmp .lt 5, 3) := by decide +kernel
theorem dJ1_indexOf_4cfef_27 : decode cJ1_indexOf_4cfef 27 = .ok (.iconst (-1), 1) := by decide +kernel
theorem dJ1_indexOf_4cfef_28 : decode cJ1_indexOf_4cfef 28 = .ok (.ireturn, 1) := by decide +kernel
theorem dJ1_indexOf_4cfef_29 : decode cJ1_indexOf_4cfef 29 = .ok (.aload_n 0, 1) := by decide +kernel
theorem dJ1_indexOf_4cfef_30 : decode cJ1_indexOf_4cfef 30 = .ok (.iload_n 1, 1) := by decide +kernel
theorem dJ1_indexOf_4cfef_31 : decode cJ1_indexOf_4cfef 31 = .ok (.iload_n 2, 1) := by decide +kernel
theorem dJ1_indexOf_4cfef_32 : decode cJ1_indexOf_4cfef 32 = .ok (.iload_n 3, 1) := by decide +kernel
theorem dJ1_indexOf_4cfef_33 : decode cJ1_indexOf_4cfef 33 = .ok (.invokestatic 95, 3) := by decide +kernel
theorem dJ1_indexOf_4cfef_36 : decode cJ1_indexOf_4cfef 36 = .ok (.ireturn, 1) := by decide +kernel
theorem dJ1_indexOfChar_4cfef_0 : decode cJ1_indexOfChar_4cfef 0 = .ok (.iload_n 1, 1) := by decide +kernel
theorem dJ1_indexOfChar_4cfef_1 : decode cJ1_indexOfChar_4cfef 1 = .ok (.i2b, 1) := by decide +kernel
theorem dJ1_indexOfChar_4cfef_2 : decode cJ1_indexOfChar_4cfef 2 = .ok (.istore 4, 2) := by decide +kernel
theorem dJ1_indexOfChar_4cfef_4 : decode cJ1_indexOfChar_4cfef 4 = .ok (.iload_n 2, 1) := by decide +kernel
theorem dJ1_indexOfChar_4cfef_5 : decode cJ1_indexOfChar_4cfef 5 = .ok (.istore 5, 2) := by decide +kernel
theorem dJ1_indexOfChar_4cfef_7 : decode cJ1_indexOfChar_4cfef 7 = .ok (.iload 5, 2) := by decide +kernel
theorem dJ1_indexOfChar_4cfef_9 : decode cJ1_indexOfChar_4cfef 9 = .ok (.iload_n 3, 1) := by decide +kernel
theorem dJ1_indexOfChar_4cfef_10 : decode cJ1_indexOfChar_4cfef 10 = .ok (.if_icmp .ge 21, 3) := by decide +kernel
theorem dJ1_indexOfChar_4cfef_13 : decode cJ1_indexOfChar_4cfef 13 = .ok (.aload_n 0, 1) := by decide +kernel
theorem dJ1_indexOfChar_4cfef_14 : decode cJ1_indexOfChar_4cfef 14 = .ok (.iload 5, 2) := by decide +kernel
theorem dJ1_indexOfChar_4cfef_16 : decode cJ1_indexOfChar_4cfef 16 = .ok (.baload, 1) := by decide +kernel
theorem dJ1_indexOfChar_4cfef_17 : decode cJ1_indexOfChar_4cfef 17 = .ok (.iload 4, 2) := by decide +kernel
theorem dJ1_indexOfChar_4cfef_19 : decode cJ1_indexOfChar_4cfef 19 = .ok (.if_icmp .ne 6, 3) := by decide +kernel
theorem dJ1_indexOfChar_4cfef_22 : decode cJ1_indexOfChar_4cfef 22 = .ok (.iload 5, 2) := by decide +kernel
theorem dJ1_indexOfChar_4cfef_24 : decode cJ1_indexOfChar_4cfef 24 = .ok (.ireturn, 1) := by decide +kernel
theorem dJ1_indexOfChar_4cfef_25 : decode cJ1_indexOfChar_4cfef 25 = .ok (.iinc 5 1, 3) := by decide +kernel
theorem dJ1_indexOfChar_4cfef_28 : decode cJ1_indexOfChar_4cfef 28 = .ok (.goto (-21), 3) := by decide +kernel
theorem dJ1_indexOfChar_4cfef_31 : decode cJ1_indexOfChar_4cfef 31 = .ok (.iconst (-1), 1) := by decide +kernel
theorem dJ1_indexOfChar_4cfef_32 : decode cJ1_indexOfChar_4cfef 32 = .ok (.ireturn, 1) := by decide +kernel
theorem dJ3_checkIndex_8e157_0 : decode cJ3_checkIndex_8e157 0 = .ok (.iload_n 0, 1) := by decide +kernel
theorem dJ3_checkIndex_8e157_1 : decode cJ3_checkIndex_8e157 1 = .ok (.ifCond .lt 8, 3) := by decide +kernel
theorem dJ3_checkIndex_8e157_4 : decode cJ3_checkIndex_8e157 4 = .ok (.iload_n 0, 1) := by decide +kernel
theorem dJ3_checkIndex_8e157_5 : decode cJ3_checkIndex_8e157 5 = .ok (.iload_n 1, 1) := by decide +kernel
theorem dJ3_checkIndex_8e157_6 : decode cJ3_checkIndex_8e157 6 = .ok (.if_icmp .lt 10, 3) := by decide +kernel
theorem dJ3_checkIndex_8e157_9 : decode cJ3_checkIndex_8e157 9 = .ok (.aload_n 2, 1) := by decide +kernel
theorem dJ3_checkIndex_8e157_10 : decode cJ3_checkIndex_8e157 10 = .ok (.iload_n 0, 1) := by decide +kernel
theorem dJ3_checkIndex_8e157_11 : decode cJ3_checkIndex_8e157 11 = .ok (.iload_n 1, 1) := by decide +kernel
theorem dJ3_checkIndex_8e157_12 : decode cJ3_checkIndex_8e157 12 = .ok (.invokestatic 95, 3) := by decide +kernel
theorem dJ3_checkIndex_8e157_15 : decode cJ3_checkIndex_8e157 15 = .ok (.athrow, 1) := by decide +kernel
theorem dJ3_checkIndex_8e157_16 : decode cJ3_checkIndex_8e157 16 = .ok (.iload_n 0, 1) := by decide +kernel
theorem dJ3_checkIndex_8e157_17 : decode cJ3_checkIndex_8e157 17 = .ok (.ireturn, 1) := by decide +kernel
theorem dJ3_checkFromToIndex_8c36e_0 : decode cJ3_checkFromToIndex_8c36e 0 = .ok (.iload_n 0, 1) := by decide +kernel
theorem dJ3_checkFromToIndex_8c36e_1 : decode cJ3_checkFromToIndex_8c36e 1 = .ok (.ifCond .lt 13, 3) := by decide +kernel
theorem dJ3_checkFromToIndex_8c36e_4 : decode cJ3_checkFromToIndex_8c36e 4 = .ok (.iload_n 0, 1) := by decide +kernel
theorem dJ3_checkFromToIndex_8c36e_5 : decode cJ3_checkFromToIndex_8c36e 5 = .ok (.iload_n 1, 1) := by decide +kernel
theorem dJ3_checkFromToIndex_8c36e_6 : decode cJ3_checkFromToIndex_8c36e 6 = .ok (.if_icmp .gt 8, 3) := by decide +kernel
theorem dJ3_checkFromToIndex_8c36e_9 : decode cJ3_checkFromToIndex_8c36e 9 = .ok (.iload_n 1, 1) := by decide +kernel
theorem dJ3_checkFromToIndex_8c36e_10 : decode cJ3_checkFromToIndex_8c36e 10 = .ok (.iload_n 2, 1) := by decide +kernel
theorem dJ3_checkFromToIndex_8c36e_11 : decode cJ3_checkFromToIndex_8c36e 11 = .ok (.if_icmp .le 11, 3) := by decide +kernel
theorem dJ3_checkFromToIndex_8c36e_14 : decode cJ3_checkFromToIndex_8c36e 14 = .ok (.aload_n 3, 1) := by decide +kernel
theorem dJ3_checkFromToIndex_8c36e_15 : decode cJ3_checkFromToIndex_8c36e 15 = .ok (.iload_n 0, 1) := by decide +kernel
theorem dJ3_checkFromToIndex_8c36e_16 : decode cJ3_checkFromToIndex_8c36e 16 = .ok (.iload_n 1, 1) := by decide +kernel
theorem dJ3_checkFromToIndex_8c36e_17 : decode cJ3_checkFromToIndex_8c36e 17 = .ok (.iload_n 2, 1) := by decide +kernel
theorem dJ3_checkFromToIndex_8c36e_18 : decode cJ3_checkFromToIndex_8c36e 18 = .ok (.invokestatic 99, 3) := by decide +kernel
theorem dJ3_checkFromToIndex_8c36e_21 : decode cJ3_checkFromToIndex_8c36e 21 = .ok (.athrow, 1) := by decide +kernel
theorem dJ3_checkFromToIndex_8c36e_22 : decode cJ3_checkFromToIndex_8c36e 22 = .ok (.iload_n 0, 1) := by decide +kernel
theorem dJ3_checkFromToIndex_8c36e_23 : decode cJ3_checkFromToIndex_8c36e 23 = .ok (.ireturn, 1) := by decide +kernel
theorem dJ6_bitCount_0f7a4_0 : decode cJ6_bitCount_0f7a4 0 = .ok (.iload_n 0, 1) := by decide +kernel
theorem dJ6_bitCount_0f7a4_1 : decode cJ6_bitCount_0f7a4 1 = .ok (.iload_n 0, 1) := by decide +kernel
theorem dJ6_bitCount_0f7a4_2 : decode cJ6_bitCount_0f7a4 2 = .ok (.iconst 1, 1) := by decide +kernel
theorem dJ6_bitCount_0f7a4_3 : decode cJ6_bitCount_0f7a4 3 = .ok (.iushr, 1) := by decide +kernel
theorem dJ6_bitCount_0f7a4_4 : decode cJ6_bitCount_0f7a4 4 = .ok (.ldc_w 265, 3) := by decide +kernel
theorem dJ6_bitCount_0f7a4_7 : decode cJ6_bitCount_0f7a4 7 = .ok (.iand, 1) := by decide +kernel
theorem dJ6_bitCount_0f7a4_8 : decode cJ6_bitCount_0f7a4 8 = .ok (.isub, 1) := by decide +kernel
theorem dJ6_bitCount_0f7a4_9 : decode cJ6_bitCount_0f7a4 9 = .ok (.istore_n 0, 1) := by decide +kernel
theorem dJ6_bitCount_0f7a4_10 : decode cJ6_bitCount_0f7a4 10 = .ok (.iload_n 0, 1) := by decide +kernel
theorem dJ6_bitCount_0f7a4_11 : decode cJ6_bitCount_0f7a4 11 = .ok (.ldc_w 266, 3) := by decide +kernel
theorem dJ6_bitCount_0f7a4_14 : decode cJ6_bitCount_0f7a4 14 = .ok (.iand, 1) := by decide +kernel
theorem dJ6_bitCount_0f7a4_15 : decode cJ6_bitCount_0f7a4 15 = .ok (.iload_n 0, 1) := by decide +kernel
theorem dJ6_bitCount_0f7a4_16 : decode cJ6_bitCount_0f7a4 16 = .ok (.iconst 2, 1) := by decide +kernel
theorem dJ6_bitCount_0f7a4_17 : decode cJ6_bitCount_0f7a4 17 = .ok (.iushr, 1) := by decide +kernel
theorem dJ6_bitCount_0f7a4_18 : decode cJ6_bitCount_0f7a4 18 = .ok (.ldc_w 266, 3) := by decide +kernel
theorem dJ6_bitCount_0f7a4_21 : decode cJ6_bitCount_0f7a4 21 = .ok (.iand, 1) := by decide +kernel
theorem dJ6_bitCount_0f7a4_22 : decode cJ6_bitCount_0f7a4 22 = .ok (.iadd, 1) := by decide +kernel
theorem dJ6_bitCount_0f7a4_23 : decode cJ6_bitCount_0f7a4 23 = .ok (.istore_n 0, 1) := by decide +kernel
theorem dJ6_bitCount_0f7a4_24 : decode cJ6_bitCount_0f7a4 24 = .ok (.iload_n 0, 1) := by decide +kernel
theorem dJ6_bitCount_0f7a4_25 : decode cJ6_bitCount_0f7a4 25 = .ok (.iload_n 0, 1) := by decide +kernel
theorem dJ6_bitCount_0f7a4_26 : decode cJ6_bitCount_0f7a4 26 = .ok (.iconst 4, 1) := by decide +kernel
theorem dJ6_bitCount_0f7a4_27 : decode cJ6_bitCount_0f7a4 27 = .ok (.iushr, 1) := by decide +kernel
theorem dJ6_bitCount_0f7a4_28 : decode cJ6_bitCount_0f7a4 28 = .ok (.iadd, 1) := by decide +kernel
theorem dJ6_bitCount_0f7a4_29 : decode cJ6_bitCount_0f7a4 29 = .ok (.ldc_w 267, 3) := by decide +kernel
theorem dJ6_bitCount_0f7a4_32 : decode cJ6_bitCount_0f7a4 32 = .ok (.iand, 1) := by decide +kernel
theorem dJ6_bitCount_0f7a4_33 : decode cJ6_bitCount_0f7a4 33 = .ok (.istore_n 0, 1) := by decide +kernel
theorem dJ6_bitCount_0f7a4_34 : decode cJ6_bitCount_0f7a4 34 = .ok (.iload_n 0, 1) := by decide +kernel
theorem dJ6_bitCount_0f7a4_35 : decode cJ6_bitCount_0f7a4 35 = .ok (.iload_n 0, 1) := by decide +kernel
theorem dJ6_bitCount_0f7a4_36 : decode cJ6_bitCount_0f7a4 36 = .ok (.bipush 8, 2) := by decide +kernel
theorem dJ6_bitCount_0f7a4_38 : decode cJ6_bitCount_0f7a4 38 = .ok (.iushr, 1) := by decide +kernel
theorem dJ6_bitCount_0f7a4_39 : decode cJ6_bitCount_0f7a4 39 = .ok (.iadd, 1) := by decide +kernel
theorem dJ6_bitCount_0f7a4_40 : decode cJ6_bitCount_0f7a4 40 = .ok (.istore_n 0, 1) := by decide +kernel
theorem dJ6_bitCount_0f7a4_41 : decode cJ6_bitCount_0f7a4 41 = .ok (.iload_n 0, 1) := by decide +kernel
theorem dJ6_bitCount_0f7a4_42 : decode cJ6_bitCount_0f7a4 42 = .ok (.iload_n 0, 1) := by decide +kernel
theorem dJ6_bitCount_0f7a4_43 : decode cJ6_bitCount_0f7a4 43 = .ok (.bipush 16, 2) := by decide +kernel
theorem dJ6_bitCount_0f7a4_45 : decode cJ6_bitCount_0f7a4 45 = .ok (.iushr, 1) := by decide +kernel
theorem dJ6_bitCount_0f7a4_46 : decode cJ6_bitCount_0f7a4 46 = .ok (.iadd, 1) := by decide +kernel
theorem dJ6_bitCount_0f7a4_47 : decode cJ6_bitCount_0f7a4 47 = .ok (.istore_n 0, 1) := by decide +kernel
theorem dJ6_bitCount_0f7a4_48 : decode cJ6_bitCount_0f7a4 48 = .ok (.iload_n 0, 1) := by decide +kernel
theorem dJ6_bitCount_0f7a4_49 : decode cJ6_bitCount_0f7a4 49 = .ok (.bipush 63, 2) := by decide +kernel
theorem dJ6_bitCount_0f7a4_51 : decode cJ6_bitCount_0f7a4 51 = .ok (.iand, 1) := by decide +kernel
theorem dJ6_bitCount_0f7a4_52 : decode cJ6_bitCount_0f7a4 52 = .ok (.ireturn, 1) := by decide +kernel
theorem dJ7_fill_53178_0 : decode cJ7_fill_53178 0 = .ok (.iconst 0, 1) := by decide +kernel
theorem dJ7_fill_53178_1 : decode cJ7_fill_53178 1 = .ok (.istore_n 2, 1) := by decide +kernel
theorem dJ7_fill_53178_2 : decode cJ7_fill_53178 2 = .ok (.aload_n 0, 1) := by decide +kernel
theorem dJ7_fill_53178_3 : decode cJ7_fill_53178 3 = .ok (.arraylength, 1) := by decide +kernel
theorem dJ7_fill_53178_4 : decode cJ7_fill_53178 4 = .ok (.istore_n 3, 1) := by decide +kernel
theorem dJ7_fill_53178_5 : decode cJ7_fill_53178 5 = .ok (.iload_n 2, 1) := by decide +kernel
theorem dJ7_fill_53178_6 : decode cJ7_fill_53178 6 = .ok (.iload_n 3, 1) := by decide +kernel
theorem dJ7_fill_53178_7 : decode cJ7_fill_53178 7 = .ok (.if_icmp .ge 13, 3) := by decide +kernel
theorem dJ7_fill_53178_10 : decode cJ7_fill_53178 10 = .ok (.aload_n 0, 1) := by decide +kernel
theorem dJ7_fill_53178_11 : decode cJ7_fill_53178 11 = .ok (.iload_n 2, 1) := by decide +kernel
theorem dJ7_fill_53178_12 : decode cJ7_fill_53178 12 = .ok (.iload_n 1, 1) := by decide +kernel
theorem dJ7_fill_53178_13 : decode cJ7_fill_53178 13 = .ok (.iastore, 1) := by decide +kernel
theorem dJ7_fill_53178_14 : decode cJ7_fill_53178 14 = .ok (.iinc 2 1, 3) := by decide +kernel
theorem dJ7_fill_53178_17 : decode cJ7_fill_53178 17 = .ok (.goto (-12), 3) := by decide +kernel
theorem dJ7_fill_53178_20 : decode cJ7_fill_53178 20 = .ok (.return_, 1) := by decide +kernel
theorem dJ7_copyOf_59c91_0 : decode cJ7_copyOf_59c91 0 = .ok (.iload_n 1, 1) := by decide +kernel
theorem dJ7_copyOf_59c91_1 : decode cJ7_copyOf_59c91 1 = .ok (.aload_n 0, 1) := by decide +kernel
theorem dJ7_copyOf_59c91_2 : decode cJ7_copyOf_59c91 2 = .ok (.arraylength, 1) := by decide +kernel
theorem dJ7_copyOf_59c91_3 : decode cJ7_copyOf_59c91 3 = .ok (.if_icmp .ne 11, 3) := by decide +kernel
theorem dJ7_copyOf_59c91_6 : decode cJ7_copyOf_59c91 6 = .ok (.aload_n 0, 1) := by decide +kernel
theorem dJ7_copyOf_59c91_7 : decode cJ7_copyOf_59c91 7 = .ok (.invokevirtual 316, 3) := by decide +kernel
theorem dJ7_copyOf_59c91_10 : decode cJ7_copyOf_59c91 10 = .ok (.checkcast 317, 3) := by decide +kernel
theorem dJ7_copyOf_59c91_13 : decode cJ7_copyOf_59c91 13 = .ok (.areturn, 1) := by decide +kernel
theorem dJ7_copyOf_59c91_14 : decode cJ7_copyOf_59c91 14 = .ok (.iload_n 1, 1) := by decide +kernel
theorem dJ7_copyOf_59c91_15 : decode cJ7_copyOf_59c91 15 = .ok (.newarray .int, 2) := by decide +kernel
theorem dJ7_copyOf_59c91_17 : decode cJ7_copyOf_59c91 17 = .ok (.astore_n 2, 1) := by decide +kernel
theorem dJ7_copyOf_59c91_18 : decode cJ7_copyOf_59c91 18 = .ok (.aload_n 0, 1) := by decide +kernel
theorem dJ7_copyOf_59c91_19 : decode cJ7_copyOf_59c91 19 = .ok (.iconst 0, 1) := by decide +kernel
theorem dJ7_copyOf_59c91_20 : decode cJ7_copyOf_59c91 20 = .ok (.aload_n 2, 1) := by decide +kernel
theorem dJ7_copyOf_59c91_21 : decode cJ7_copyOf_59c91 21 = .ok (.iconst 0, 1) := by decide +kernel
theorem dJ7_copyOf_59c91_22 : decode cJ7_copyOf_59c91 22 = .ok (.aload_n 0, 1) := by decide +kernel
theorem dJ7_copyOf_59c91_23 : decode cJ7_copyOf_59c91 23 = .ok (.arraylength, 1) := by decide +kernel
theorem dJ7_copyOf_59c91_24 : decode cJ7_copyOf_59c91 24 = .ok (.iload_n 1, 1) := by decide +kernel
theorem dJ7_copyOf_59c91_25 : decode cJ7_copyOf_59c91 25 = .ok (.invokestatic 304, 3) := by decide +kernel
theorem dJ7_copyOf_59c91_28 : decode cJ7_copyOf_59c91 28 = .ok (.invokestatic 150, 3) := by decide +kernel
theorem dJ7_copyOf_59c91_31 : decode cJ7_copyOf_59c91 31 = .ok (.aload_n 2, 1) := by decide +kernel
theorem dJ7_copyOf_59c91_32 : decode cJ7_copyOf_59c91 32 = .ok (.areturn, 1) := by decide +kernel
theorem dJ9_abs_0f7a4_0 : decode cJ9_abs_0f7a4 0 = .ok (.iload_n 0, 1) := by decide +kernel
theorem dJ9_abs_0f7a4_1 : decode cJ9_abs_0f7a4 1 = .ok (.ifCond .ge 8, 3) := by decide +kernel
theorem dJ9_abs_0f7a4_4 : decode cJ9_abs_0f7a4 4 = .ok (.iload_n 0, 1) := by decide +kernel
theorem dJ9_abs_0f7a4_5 : decode cJ9_abs_0f7a4 5 = .ok (.ineg, 1) := by decide +kernel
theorem dJ9_abs_0f7a4_6 : decode cJ9_abs_0f7a4 6 = .ok (.goto 4, 3) := by decide +kernel
theorem dJ9_abs_0f7a4_9 : decode cJ9_abs_0f7a4 9 = .ok (.iload_n 0, 1) := by decide +kernel
theorem dJ9_abs_0f7a4_10 : decode cJ9_abs_0f7a4 10 = .ok (.ireturn, 1) := by decide +kernel
theorem dJ9_max_7cf53_0 : decode cJ9_max_7cf53 0 = .ok (.iload_n 0, 1) := by decide +kernel
theorem dJ9_max_7cf53_1 : decode cJ9_max_7cf53 1 = .ok (.iload_n 1, 1) := by decide +kernel
theorem dJ9_max_7cf53_2 : decode cJ9_max_7cf53 2 = .ok (.if_icmp .lt 7, 3) := by decide +kernel
theorem dJ9_max_7cf53_5 : decode cJ9_max_7cf53 5 = .ok (.iload_n 0, 1) := by decide +kernel
theorem dJ9_max_7cf53_6 : decode cJ9_max_7cf53 6 = .ok (.goto 4, 3) := by decide +kernel
theorem dJ9_max_7cf53_9 : decode cJ9_max_7cf53 9 = .ok (.iload_n 1, 1) := by decide +kernel
theorem dJ9_max_7cf53_10 : decode cJ9_max_7cf53 10 = .ok (.ireturn, 1) := by decide +kernel
theorem dJ9_min_7cf53_0 : decode cJ9_min_7cf53 0 = .ok (.iload_n 0, 1) := by decide +kernel
theorem dJ9_min_7cf53_1 : decode cJ9_min_7cf53 1 = .ok (.iload_n 1, 1) := by decide +kernel
theorem dJ9_min_7cf53_2 : decode cJ9_min_7cf53 2 = .ok (.if_icmp .gt 7, 3) := by decide +kernel
theorem dJ9_min_7cf53_5 : decode cJ9_min_7cf53 5 = .ok (.iload_n 0, 1) := by decide +kernel
theorem dJ9_min_7cf53_6 : decode cJ9_min_7cf53 6 = .ok (.goto 4, 3) := by decide +kernel
theorem dJ9_min_7cf53_9 : decode cJ9_min_7cf53 9 = .ok (.iload_n 1, 1) := by decide +kernel
theorem dJ9_min_7cf53_10 : decode cJ9_min_7cf53 10 = .ok (.ireturn, 1) := by decide +kernel
theorem dX5_init_0 : decode cX5_init 0 = .ok (.aload_n 0, 1) := by decide +kernel
theorem dX5_init_1 : decode cX5_init 1 = .ok (.invokespecial 3, 3) := by decide +kernel
theorem dX5_init_4 : decode cX5_init 4 = .ok (.aload_n 0, 1) := by decide +kernel
theorem dX5_init_5 : decode cX5_init 5 = .ok (.bipush 96, 2) := by decide +kernel
theorem dX5_init_7 : decode cX5_init 7 = .ok (.newarray .int, 2) := by decide +kernel
theorem dX5_init_9 : decode cX5_init 9 = .ok (.putfield 9, 3) := by decide +kernel
theorem dX5_init_12 : decode cX5_init 12 = .ok (.aload_n 0, 1) := by decide +kernel
theorem dX5_init_13 : decode cX5_init 13 = .ok (.iconst 0, 1) := by decide +kernel
theorem dX5_init_14 : decode cX5_init 14 = .ok (.putfield 15, 3) := by decide +kernel
theorem dX5_init_17 : decode cX5_init 17 = .ok (.aload_n 0, 1) := by decide +kernel
theorem dX5_init_18 : decode cX5_init 18 = .ok (.iconst 0, 1) := by decide +kernel
theorem dX5_init_19 : decode cX5_init 19 = .ok (.putfield 19, 3) := by decide +kernel
theorem dX5_init_22 : decode cX5_init 22 = .ok (.aload_n 0, 1) := by decide +kernel
theorem dX5_init_23 : decode cX5_init 23 = .ok (.iconst 0, 1) := by decide +kernel
theorem dX5_init_24 : decode cX5_init 24 = .ok (.putfield 22, 3) := by decide +kernel
theorem dX5_init_27 : decode cX5_init 27 = .ok (.aload_n 0, 1) := by decide +kernel
theorem dX5_init_28 : decode cX5_init 28 = .ok (.iconst (-1), 1) := by decide +kernel
theorem dX5_init_29 : decode cX5_init 29 = .ok (.putfield 25, 3) := by decide +kernel
theorem dX5_init_32 : decode cX5_init 32 = .ok (.aload_n 0, 1) := by decide +kernel
theorem dX5_init_33 : decode cX5_init 33 = .ok (.iconst (-1), 1) := by decide +kernel
theorem dX5_init_34 : decode cX5_init 34 = .ok (.putfield 28, 3) := by decide +kernel
theorem dX5_init_37 : decode cX5_init 37 = .ok (.aload_n 0, 1) := by decide +kernel
theorem dX5_init_38 : decode cX5_init 38 = .ok (.iconst 1, 1) := by decide +kernel
theorem dX5_init_39 : decode cX5_init 39 = .ok (.putfield 31, 3) := by decide +kernel
theorem dX5_init_42 : decode cX5_init 42 = .ok (.aload_n 0, 1) := by decide +kernel
theorem dX5_init_43 : decode cX5_init 43 = .ok (.bipush 96, 2) := by decide +kernel
theorem dX5_init_45 : decode cX5_init 45 = .ok (.newarray .int, 2) := by decide +kernel
theorem dX5_init_47 : decode cX5_init 47 = .ok (.putfield 35, 3) := by decide +kernel
theorem dX5_init_50 : decode cX5_init 50 = .ok (.aload_n 0, 1) := by decide +kernel
theorem dX5_init_51 : decode cX5_init 51 = .ok (.iconst 0, 1) := by decide +kernel
theorem dX5_init_52 : decode cX5_init 52 = .ok (.putfield 38, 3) := by decide +kernel
theorem dX5_init_55 : decode cX5_init 55 = .ok (.aload_n 0, 1) := by decide +kernel
theorem dX5_init_56 : decode cX5_init 56 = .ok (.iconst 0, 1) := by decide +kernel
theorem dX5_init_57 : decode cX5_init 57 = .ok (.putfield 41, 3) := by decide +kernel
theorem dX5_init_60 : decode cX5_init 60 = .ok (.aload_n 0, 1) := by decide +kernel
theorem dX5_init_61 : decode cX5_init 61 = .ok (.bipush 96, 2) := by decide +kernel
theorem dX5_init_63 : decode cX5_init 63 = .ok (.newarray .int, 2) := by decide +kernel
theorem dX5_init_65 : decode cX5_init 65 = .ok (.putfield 44, 3) := by decide +kernel
theorem dX5_init_68 : decode cX5_init 68 = .ok (.aload_n 0, 1) := by decide +kernel
theorem dX5_init_69 : decode cX5_init 69 = .ok (.iconst 0, 1) := by decide +kernel
theorem dX5_init_70 : decode cX5_init 70 = .ok (.putfield 47, 3) := by decide +kernel
theorem dX5_init_73 : decode cX5_init 73 = .ok (.aload_n 0, 1) := by decide +kernel
theorem dX5_init_74 : decode cX5_init 74 = .ok (.iconst 0, 1) := by decide +kernel
theorem dX5_init_75 : decode cX5_init 75 = .ok (.putfield 50, 3) := by decide +kernel
theorem dX5_init_78 : decode cX5_init 78 = .ok (.aload_n 0, 1) := by decide +kernel
theorem dX5_init_79 : decode cX5_init 79 = .ok (.iconst 0, 1) := by decide +kernel
theorem dX5_init_80 : decode cX5_init 80 = .ok (.putfield 53, 3) := by decide +kernel
theorem dX5_init_83 : decode cX5_init 83 = .ok (.return_, 1) := by decide +kernel
theorem dX5_take_0 : decode cX5_take 0 = .ok (.bipush 24, 2) := by decide +kernel
theorem dX5_take_2 : decode cX5_take 2 = .ok (.istore_n 2, 1) := by decide +kernel
theorem dX5_take_3 : decode cX5_take 3 = .ok (.iload_n 2, 1) := by decide +kernel
theorem dX5_take_4 : decode cX5_take 4 = .ok (.ifCond .lt 44, 3) := by decide +kernel
theorem dX5_take_7 : decode cX5_take 7 = .ok (.aload_n 0, 1) := by decide +kernel
theorem dX5_take_8 : decode cX5_take 8 = .ok (.getfield 15, 3) := by decide +kernel
theorem dX5_take_11 : decode cX5_take 11 = .ok (.bipush 96, 2) := by decide +kernel
theorem dX5_take_13 : decode cX5_take 13 = .ok (.if_icmp .ge 35, 3) := by decide +kernel
theorem dX5_take_16 : decode cX5_take 16 = .ok (.aload_n 0, 1) := by decide +kernel
theorem dX5_take_17 : decode cX5_take 17 = .ok (.getfield 9, 3) := by decide +kernel
theorem dX5_take_20 : decode cX5_take 20 = .ok (.aload_n 0, 1) := by decide +kernel
theorem dX5_take_21 : decode cX5_take 21 = .ok (.getfield 15, 3) := by decide +kernel
theorem dX5_take_24 : decode cX5_take 24 = .ok (.iload_n 1, 1) := by decide +kernel
theorem dX5_take_25 : decode cX5_take 25 = .ok (.iload_n 2, 1) := by decide +kernel
theorem dX5_take_26 : decode cX5_take 26 = .ok (.iushr, 1) := by decide +kernel
theorem dX5_take_27 : decode cX5_take 27 = .ok (.sipush 255, 3) := by decide +kernel
theorem dX5_take_30 : decode cX5_take 30 = .ok (.iand, 1) := by decide +kernel
theorem dX5_take_31 : decode cX5_take 31 = .ok (.iastore, 1) := by decide +kernel
theorem dX5_take_32 : decode cX5_take 32 = .ok (.aload_n 0, 1) := by decide +kernel
theorem dX5_take_33 : decode cX5_take 33 = .ok (.dup, 1) := by decide +kernel
theorem dX5_take_34 : decode cX5_take 34 = .ok (.getfield 15, 3) := by decide +kernel
theorem dX5_take_37 : decode cX5_take 37 = .ok (.iconst 1, 1) := by decide +kernel
theorem dX5_take_38 : decode cX5_take 38 = .ok (.iadd, 1) := by decide +kernel
theorem dX5_take_39 : decode cX5_take 39 = .ok (.putfield 15, 3) := by decide +kernel
theorem dX5_take_42 : decode cX5_take 42 = .ok (.iinc 2 (-8), 3) := by decide +kernel
theorem dX5_take_45 : decode cX5_take 45 = .ok (.goto (-42), 3) := by decide +kernel
theorem dX5_take_48 : decode cX5_take 48 = .ok (.return_, 1) := by decide +kernel
theorem dX5_readText_0 : decode cX5_readText 0 = .ok (.aload_n 0, 1) := by decide +kernel
theorem dX5_readText_1 : decode cX5_readText 1 = .ok (.aload_n 0, 1) := by decide +kernel
theorem dX5_readText_2 : decode cX5_readText 2 = .ok (.getfield 15, 3) := by decide +kernel
theorem dX5_readText_5 : decode cX5_readText 5 = .ok (.putfield 22, 3) := by decide +kernel
theorem dX5_readText_8 : decode cX5_readText 8 = .ok (.aload_n 0, 1) := by decide +kernel
theorem dX5_readText_9 : decode cX5_readText 9 = .ok (.iconst 0, 1) := by decide +kernel
theorem dX5_readText_10 : decode cX5_readText 10 = .ok (.putfield 15, 3) := by decide +kernel
theorem dX5_readText_13 : decode cX5_readText 13 = .ok (.aload_n 0, 1) := by decide +kernel
theorem dX5_readText_14 : decode cX5_readText 14 = .ok (.iconst 0, 1) := by decide +kernel
theorem dX5_readText_15 : decode cX5_readText 15 = .ok (.putfield 19, 3) := by decide +kernel
theorem dX5_readText_18 : decode cX5_readText 18 = .ok (.aload_n 0, 1) := by decide +kernel
theorem dX5_readText_19 : decode cX5_readText 19 = .ok (.iconst 1, 1) := by decide +kernel
theorem dX5_readText_20 : decode cX5_readText 20 = .ok (.putfield 31, 3) := by decide +kernel
theorem dX5_readText_23 : decode cX5_readText 23 = .ok (.aload_n 0, 1) := by decide +kernel
theorem dX5_readText_24 : decode cX5_readText 24 = .ok (.iconst 0, 1) := by decide +kernel
theorem dX5_readText_25 : decode cX5_readText 25 = .ok (.putfield 38, 3) := by decide +kernel
theorem dX5_readText_28 : decode cX5_readText 28 = .ok (.aload_n 0, 1) := by decide +kernel
theorem dX5_readText_29 : decode cX5_readText 29 = .ok (.iconst 0, 1) := by decide +kernel
theorem dX5_readText_30 : decode cX5_readText 30 = .ok (.putfield 41, 3) := by decide +kernel
theorem dX5_readText_33 : decode cX5_readText 33 = .ok (.aload_n 0, 1) := by decide +kernel
theorem dX5_readText_34 : decode cX5_readText 34 = .ok (.iconst 0, 1) := by decide +kernel
theorem dX5_readText_35 : decode cX5_readText 35 = .ok (.putfield 47, 3) := by decide +kernel
theorem dX5_readText_38 : decode cX5_readText 38 = .ok (.aload_n 0, 1) := by decide +kernel
theorem dX5_readText_39 : decode cX5_readText 39 = .ok (.iconst 0, 1) := by decide +kernel
theorem dX5_readText_40 : decode cX5_readText 40 = .ok (.putfield 50, 3) := by decide +kernel
theorem dX5_readText_43 : decode cX5_readText 43 = .ok (.aload_n 0, 1) := by decide +kernel
theorem dX5_readText_44 : decode cX5_readText 44 = .ok (.iconst 0, 1) := by decide +kernel
theorem dX5_readText_45 : decode cX5_readText 45 = .ok (.putfield 53, 3) := by decide +kernel
theorem dX5_readText_48 : decode cX5_readText 48 = .ok (.aload_n 0, 1) := by decide +kernel
theorem dX5_readText_49 : decode cX5_readText 49 = .ok (.invokevirtual 56, 3) := by decide +kernel
theorem dX5_readText_52 : decode cX5_readText 52 = .ok (.ifCond .eq 10, 3) := by decide +kernel
theorem dX5_readText_55 : decode cX5_readText 55 = .ok (.aload_n 0, 1) := by decide +kernel
theorem dX5_readText_56 : decode cX5_readText 56 = .ok (.invokevirtual 60, 3) := by decide +kernel
theorem dX5_readText_59 : decode cX5_readText 59 = .ok (.ifCond .ne 5, 3) := by decide +kernel
theorem dX5_readText_62 : decode cX5_readText 62 = .ok (.aconst_null, 1) := by decide +kernel
theorem dX5_readText_63 : decode cX5_readText 63 = .ok (.areturn, 1) := by decide +kernel
theorem dX5_readText_64 : decode cX5_readText 64 = .ok (.new 63, 3) := by decide +kernel
theorem dX5_readText_67 : decode cX5_readText 67 = .ok (.dup, 1) := by decide +kernel
theorem dX5_readText_68 : decode cX5_readText 68 = .ok (.aload_n 0, 1) := by decide +kernel
theorem dX5_readText_69 : decode cX5_readText 69 = .ok (.getfield 25, 3) := by decide +kernel
theorem dX5_readText_72 : decode cX5_readText 72 = .ok (.aload_n 0, 1) := by decide +kernel
theorem dX5_readText_73 : decode cX5_readText 73 = .ok (.getfield 41, 3) := by decide +kernel
theorem dX5_readText_76 : decode cX5_readText 76 = .ok (.aload_n 0, 1) := by decide +kernel
theorem dX5_readText_77 : decode cX5_readText 77 = .ok (.getfield 35, 3) := by decide +kernel
theorem dX5_readText_80 : decode cX5_readText 80 = .ok (.aload_n 0, 1) := by decide +kernel
theorem dX5_readText_81 : decode cX5_readText 81 = .ok (.getfield 38, 3) := by decide +kernel
theorem dX5_readText_84 : decode cX5_readText 84 = .ok (.invokestatic 65, 3) := by decide +kernel
theorem dX5_readText_87 : decode cX5_readText 87 = .ok (.invokespecial 71, 3) := by decide +kernel
theorem dX5_readText_90 : decode cX5_readText 90 = .ok (.areturn, 1) := by decide +kernel
theorem dX5_skipBlanks_0 : decode cX5_skipBlanks 0 = .ok (.aload_n 0, 1) := by decide +kernel
theorem dX5_skipBlanks_1 : decode cX5_skipBlanks 1 = .ok (.getfield 19, 3) := by decide +kernel
theorem dX5_skipBlanks_4 : decode cX5_skipBlanks 4 = .ok (.aload_n 0, 1) := by decide +kernel
theorem dX5_skipBlanks_5 : decode cX5_skipBlanks 5 = .ok (.getfield 22, 3) := by decide +kernel
theorem dX5_skipBlanks_8 : decode cX5_skipBlanks 8 = .ok (.if_icmp .ge 30, 3) := by decide +kernel
theorem dX5_skipBlanks_11 : decode cX5_skipBlanks 11 = .ok (.aload_n 0, 1) := by decide +kernel
theorem dX5_skipBlanks_12 : decode cX5_skipBlanks 12 = .ok (.getfield 9, 3) := by decide +kernel
theorem dX5_skipBlanks_15 : decode cX5_skipBlanks 15 = .ok (.aload_n 0, 1) := by decide +kernel
theorem dX5_skipBlanks_16 : decode cX5_skipBlanks 16 = .ok (.getfield 19, 3) := by decide +kernel
theorem dX5_skipBlanks_19 : decode cX5_skipBlanks 19 = .ok (.iaload, 1) := by decide +kernel
theorem dX5_skipBlanks_20 : decode cX5_skipBlanks 20 = .ok (.bipush 32, 2) := by decide +kernel
theorem dX5_skipBlanks_22 : decode cX5_skipBlanks 22 = .ok (.if_icmp .ne 16, 3) := by decide +kernel
theorem dX5_skipBlanks_25 : decode cX5_skipBlanks 25 = .ok (.aload_n 0, 1) := by decide +kernel
theorem dX5_skipBlanks_26 : decode cX5_skipBlanks 26 = .ok (.dup, 1) := by decide +kernel
theorem dX5_skipBlanks_27 : decode cX5_skipBlanks 27 = .ok (.getfield 19, 3) := by decide +kernel
theorem dX5_skipBlanks_30 : decode cX5_skipBlanks 30 = .ok (.iconst 1, 1) := by decide +kernel
theorem dX5_skipBlanks_31 : decode cX5_skipBlanks 31 = .ok (.iadd, 1) := by decide +kernel
theorem dX5_skipBlanks_32 : decode cX5_skipBlanks 32 = .ok (.putfield 19, 3) := by decide +kernel
theorem dX5_skipBlanks_35 : decode cX5_skipBlanks 35 = .ok (.goto (-35), 3) := by decide +kernel
theorem dX5_skipBlanks_38 : decode cX5_skipBlanks 38 = .ok (.return_, 1) := by decide +kernel
theorem dX5_isLetter_0 : decode cX5_isLetter 0 = .ok (.iload_n 0, 1) := by decide +kernel
theorem dX5_isLetter_1 : decode cX5_isLetter 1 = .ok (.bipush 97, 2) := by decide +kernel
theorem dX5_isLetter_3 : decode cX5_isLetter 3 = .ok (.if_icmp .lt 13, 3) := by decide +kernel
theorem dX5_isLetter_6 : decode cX5_isLetter 6 = .ok (.iload_n 0, 1) := by decide +kernel
theorem dX5_isLetter_7 : decode cX5_isLetter 7 = .ok (.bipush 122, 2) := by decide +kernel
theorem dX5_isLetter_9 : decode cX5_isLetter 9 = .ok (.if_icmp .gt 7, 3) := by decide +kernel
theorem dX5_isLetter_12 : decode cX5_isLetter 12 = .ok (.iconst 1, 1) := by decide +kernel
theorem dX5_isLetter_13 : decode cX5_isLetter 13 = .ok (.goto 4, 3) := by decide +kernel
theorem dX5_isLetter_16 : decode cX5_isLetter 16 = .ok (.iconst 0, 1) := by decide +kernel
theorem dX5_isLetter_17 : decode cX5_isLetter 17 = .ok (.ireturn, 1) := by decide +kernel
theorem dX5_isDigit_0 : decode cX5_isDigit 0 = .ok (.iload_n 0, 1) := by decide +kernel
theorem dX5_isDigit_1 : decode cX5_isDigit 1 = .ok (.bipush 48, 2) := by decide +kernel
theorem dX5_isDigit_3 : decode cX5_isDigit 3 = .ok (.if_icmp .lt 13, 3) := by decide +kernel
theorem dX5_isDigit_6 : decode cX5_isDigit 6 = .ok (.iload_n 0, 1) := by decide +kernel
theorem dX5_isDigit_7 : decode cX5_isDigit 7 = .ok (.bipush 57, 2) := by decide +kernel
theorem dX5_isDigit_9 : decode cX5_isDigit 9 = .ok (.if_icmp .gt 7, 3) := by decide +kernel
theorem dX5_isDigit_12 : decode cX5_isDigit 12 = .ok (.iconst 1, 1) := by decide +kernel
theorem dX5_isDigit_13 : decode cX5_isDigit 13 = .ok (.goto 4, 3) := by decide +kernel
theorem dX5_isDigit_16 : decode cX5_isDigit 16 = .ok (.iconst 0, 1) := by decide +kernel
theorem dX5_isDigit_17 : decode cX5_isDigit 17 = .ok (.ireturn, 1) := by decide +kernel
theorem dX5_wordEnd_0 : decode cX5_wordEnd 0 = .ok (.aload_n 0, 1) := by decide +kernel
theorem dX5_wordEnd_1 : decode cX5_wordEnd 1 = .ok (.getfield 19, 3) := by decide +kernel
theorem dX5_wordEnd_4 : decode cX5_wordEnd 4 = .ok (.istore_n 1, 1) := by decide +kernel
theorem dX5_wordEnd_5 : decode cX5_wordEnd 5 = .ok (.aload_n 0, 1) := by decide +kernel
theorem dX5_wordEnd_6 : decode cX5_wordEnd 6 = .ok (.getfield 9, 3) := by decide +kernel
theorem dX5_wordEnd_9 : decode cX5_wordEnd 9 = .ok (.aload_n 0, 1) := by decide +kernel
theorem dX5_wordEnd_10 : decode cX5_wordEnd 10 = .ok (.getfield 19, 3) := by decide +kernel
theorem dX5_wordEnd_13 : decode cX5_wordEnd 13 = .ok (.iaload, 1) := by decide +kernel
theorem dX5_wordEnd_14 : decode cX5_wordEnd 14 = .ok (.invokestatic 74, 3) := by decide +kernel
theorem dX5_wordEnd_17 : decode cX5_wordEnd 17 = .ok (.ifCond .eq 29, 3) := by decide +kernel
theorem dX5_wordEnd_20 : decode cX5_wordEnd 20 = .ok (.iload_n 1, 1) := by decide +kernel
theorem dX5_wordEnd_21 : decode cX5_wordEnd 21 = .ok (.aload_n 0, 1) := by decide +kernel
theorem dX5_wordEnd_22 : decode cX5_wordEnd 22 = .ok (.getfield 22, 3) := by decide +kernel
theorem dX5_wordEnd_25 : decode cX5_wordEnd 25 = .ok (.if_icmp .ge 47, 3) := by decide +kernel
theorem dX5_wordEnd_28 : decode cX5_wordEnd 28 = .ok (.aload_n 0, 1) := by decide +kernel
theorem dX5_wordEnd_29 : decode cX5_wordEnd 29 = .ok (.getfield 9, 3) := by decide +kernel
theorem dX5_wordEnd_32 : decode cX5_wordEnd 32 = .ok (.iload_n 1, 1) := by decide +kernel
theorem dX5_wordEnd_33 : decode cX5_wordEnd 33 = .ok (.iaload, 1) := by decide +kernel
theorem dX5_wordEnd_34 : decode cX5_wordEnd 34 = .ok (.invokestatic 74, 3) := by decide +kernel
theorem dX5_wordEnd_37 : decode cX5_wordEnd 37 = .ok (.ifCond .eq 35, 3) := by decide +kernel
theorem dX5_wordEnd_40 : decode cX5_wordEnd 40 = .ok (.iinc 1 1, 3) := by decide +kernel
theorem dX5_wordEnd_43 : decode cX5_wordEnd 43 = .ok (.goto (-23), 3) := by decide +kernel
theorem dX5_wordEnd_46 : decode cX5_wordEnd 46 = .ok (.iload_n 1, 1) := by decide +kernel
theorem dX5_wordEnd_47 : decode cX5_wordEnd 47 = .ok (.aload_n 0, 1) := by decide +kernel
theorem dX5_wordEnd_48 : decode cX5_wordEnd 48 = .ok (.getfield 22, 3) := by decide +kernel
theorem dX5_wordEnd_51 : decode cX5_wordEnd 51 = .ok (.if_icmp .ge 21, 3) := by decide +kernel
theorem dX5_wordEnd_54 : decode cX5_wordEnd 54 = .ok (.aload_n 0, 1) := by decide +kernel
theorem dX5_wordEnd_55 : decode cX5_wordEnd 55 = .ok (.getfield 9, 3) := by decide +kernel
theorem dX5_wordEnd_58 : decode cX5_wordEnd 58 = .ok (.iload_n 1, 1) := by decide +kernel
theorem dX5_wordEnd_59 : decode cX5_wordEnd 59 = .ok (.iaload, 1) := by decide +kernel
theorem dX5_wordEnd_60 : decode cX5_wordEnd 60 = .ok (.invokestatic 78, 3) := by decide +kernel
theorem dX5_wordEnd_63 : decode cX5_wordEnd 63 = .ok (.ifCond .eq 9, 3) := by decide +kernel
theorem dX5_wordEnd_66 : decode cX5_wordEnd 66 = .ok (.iinc 1 1, 3) := by decide +kernel
theorem dX5_wordEnd_69 : decode cX5_wordEnd 69 = .ok (.goto (-23), 3) := by decide +kernel
theorem dX5_wordEnd_72 : decode cX5_wordEnd 72 = .ok (.iload_n 1, 1) := by decide +kernel
theorem dX5_wordEnd_73 : decode cX5_wordEnd 73 = .ok (.ireturn, 1) := by decide +kernel
theorem dX5_keyWord_0 : decode cX5_keyWord 0 = .ok (.iload_n 0, 1) := by decide +kernel
theorem dX5_keyWord_1 : decode cX5_keyWord 1 = .ok (.ifCond .ne 8, 3) := by decide +kernel
theorem dX5_keyWord_4 : decode cX5_keyWord 4 = .ok (.ldc 81, 2) := by decide +kernel
theorem dX5_keyWord_6 : decode cX5_keyWord 6 = .ok (.goto 15, 3) := by decide +kernel
theorem dX5_keyWord_9 : decode cX5_keyWord 9 = .ok (.iload_n 0, 1) := by decide +kernel
theorem dX5_keyWord_10 : decode cX5_keyWord 10 = .ok (.iconst 1, 1) := by decide +kernel
theorem dX5_keyWord_11 : decode cX5_keyWord 11 = .ok (.if_icmp .ne 8, 3) := by decide +kernel
theorem dX5_keyWord_14 : decode cX5_keyWord 14 = .ok (.ldc 83, 2) := by decide +kernel
theorem dX5_keyWord_16 : decode cX5_keyWord 16 = .ok (.goto 5, 3) := by decide +kernel
theorem dX5_keyWord_19 : decode cX5_keyWord 19 = .ok (.ldc 85, 2) := by decide +kernel
theorem dX5_keyWord_21 : decode cX5_keyWord 21 = .ok (.areturn, 1) := by decide +kernel
theorem dX5_namesOf_0 : decode cX5_namesOf 0 = .ok (.iload_n 0, 1) := by decide +kernel
theorem dX5_namesOf_1 : decode cX5_namesOf 1 = .ok (.ifCond .ne 8, 3) := by decide +kernel
theorem dX5_namesOf_4 : decode cX5_namesOf 4 = .ok (.ldc 87, 2) := by decide +kernel
theorem dX5_namesOf_6 : decode cX5_namesOf 6 = .ok (.goto 15, 3) := by decide +kernel
theorem dX5_namesOf_9 : decode cX5_namesOf 9 = .ok (.iload_n 0, 1) := by decide +kernel
theorem dX5_namesOf_10 : decode cX5_namesOf 10 = .ok (.iconst 1, 1) := by decide +kernel
theorem dX5_namesOf_11 : decode cX5_namesOf 11 = .ok (.if_icmp .ne 8, 3) := by decide +kernel
theorem dX5_namesOf_14 : decode cX5_namesOf 14 = .ok (.ldc 89, 2) := by decide +kernel
theorem dX5_namesOf_16 : decode cX5_namesOf 16 = .ok (.goto 5, 3) := by decide +kernel
theorem dX5_namesOf_19 : decode cX5_namesOf 19 = .ok (.ldc 91, 2) := by decide +kernel
theorem dX5_namesOf_21 : decode cX5_namesOf 21 = .ok (.areturn, 1) := by decide +kernel
theorem dX5_isWord_0 : decode cX5_isWord 0 = .ok (.iload_n 2, 1) := by decide +kernel
theorem dX5_isWord_1 : decode cX5_isWord 1 = .ok (.aload_n 0, 1) := by decide +kernel
theorem dX5_isWord_2 : decode cX5_isWord 2 = .ok (.getfield 19, 3) := by decide +kernel
theorem dX5_isWord_5 : decode cX5_isWord 5 = .ok (.isub, 1) := by decide +kernel
theorem dX5_isWord_6 : decode cX5_isWord 6 = .ok (.aload_n 1, 1) := by decide +kernel
theorem dX5_isWord_7 : decode cX5_isWord 7 = .ok (.invokevirtual 93, 3) := by decide +kernel
theorem dX5_isWord_10 : decode cX5_isWord 10 = .ok (.if_icmp .eq 5, 3) := by decide +kernel
theorem dX5_isWord_13 : decode cX5_isWord 13 = .ok (.iconst 0, 1) := by decide +kernel
theorem dX5_isWord_14 : decode cX5_isWord 14 = .ok (.ireturn, 1) := by decide +kernel
theorem dX5_isWord_15 : decode cX5_isWord 15 = .ok (.iconst 0, 1) := by decide +kernel
theorem dX5_isWord_16 : decode cX5_isWord 16 = .ok (.istore_n 3, 1) := by decide +kernel
theorem dX5_isWord_17 : decode cX5_isWord 17 = .ok (.iload_n 3, 1) := by decide +kernel
theorem dX5_isWord_18 : decode cX5_isWord 18 = .ok (.aload_n 1, 1) := by decide +kernel
theorem dX5_isWord_19 : decode cX5_isWord 19 = .ok (.invokevirtual 93, 3) := by decide +kernel
theorem dX5_isWord_22 : decode cX5_isWord 22 = .ok (.if_icmp .ge 30, 3) := by decide +kernel
theorem dX5_isWord_25 : decode cX5_isWord 25 = .ok (.aload_n 0, 1) := by decide +kernel
theorem dX5_isWord_26 : decode cX5_isWord 26 = .ok (.getfield 9, 3) := by decide +kernel
theorem dX5_isWord_29 : decode cX5_isWord 29 = .ok (.aload_n 0, 1) := by decide +kernel
theorem dX5_isWord_30 : decode cX5_isWord 30 = .ok (.getfield 19, 3) := by decide +kernel
theorem dX5_isWord_33 : decode cX5_isWord 33 = .ok (.iload_n 3, 1) := by decide +kernel
theorem dX5_isWord_34 : decode cX5_isWord 34 = .ok (.iadd, 1) := by decide +kernel
theorem dX5_isWord_35 : decode cX5_isWord 35 = .ok (.iaload, 1) := by decide +kernel
theorem dX5_isWord_36 : decode cX5_isWord 36 = .ok (.aload_n 1, 1) := by decide +kernel
theorem dX5_isWord_37 : decode cX5_isWord 37 = .ok (.iload_n 3, 1) := by decide +kernel
theorem dX5_isWord_38 : decode cX5_isWord 38 = .ok (.invokevirtual 99, 3) := by decide +kernel
theorem dX5_isWord_41 : decode cX5_isWord 41 = .ok (.if_icmp .eq 5, 3) := by decide +kernel
theorem dX5_isWord_44 : decode cX5_isWord 44 = .ok (.iconst 0, 1) := by decide +kernel
theorem dX5_isWord_45 : decode cX5_isWord 45 = .ok (.ireturn, 1) := by decide +kernel
theorem dX5_isWord_46 : decode cX5_isWord 46 = .ok (.iinc 3 1, 3) := by decide +kernel
theorem dX5_isWord_49 : decode cX5_isWord 49 = .ok (.goto (-32), 3) := by decide +kernel
theorem dX5_isWord_52 : decode cX5_isWord 52 = .ok (.iconst 1, 1) := by decide +kernel
theorem dX5_isWord_53 : decode cX5_isWord 53 = .ok (.ireturn, 1) := by decide +kernel
theorem dX5_readKey_0 : decode cX5_readKey 0 = .ok (.aload_n 0, 1) := by decide +kernel
theorem dX5_readKey_1 : decode cX5_readKey 1 = .ok (.invokevirtual 103, 3) := by decide +kernel
theorem dX5_readKey_4 : decode cX5_readKey 4 = .ok (.aload_n 0, 1) := by decide +kernel
theorem dX5_readKey_5 : decode cX5_readKey 5 = .ok (.getfield 19, 3) := by decide +kernel
theorem dX5_readKey_8 : decode cX5_readKey 8 = .ok (.aload_n 0, 1) := by decide +kernel
theorem dX5_readKey_9 : decode cX5_readKey 9 = .ok (.getfield 22, 3) := by decide +kernel
theorem dX5_readKey_12 : decode cX5_readKey 12 = .ok (.if_icmp .lt 5, 3) := by decide +kernel
theorem dX5_readKey_15 : decode cX5_readKey 15 = .ok (.iconst 0, 1) := by decide +kernel
theorem dX5_readKey_16 : decode cX5_readKey 16 = .ok (.ireturn, 1) := by decide +kernel
theorem dX5_readKey_17 : decode cX5_readKey 17 = .ok (.aload_n 0, 1) := by decide +kernel
theorem dX5_readKey_18 : decode cX5_readKey 18 = .ok (.aload_n 0, 1) := by decide +kernel
theorem dX5_readKey_19 : decode cX5_readKey 19 = .ok (.invokevirtual 106, 3) := by decide +kernel
theorem dX5_readKey_22 : decode cX5_readKey 22 = .ok (.putfield 28, 3) := by decide +kernel
theorem dX5_readKey_25 : decode cX5_readKey 25 = .ok (.iconst 0, 1) := by decide +kernel
theorem dX5_readKey_26 : decode cX5_readKey 26 = .ok (.istore_n 1, 1) := by decide +kernel
theorem dX5_readKey_27 : decode cX5_readKey 27 = .ok (.iload_n 1, 1) := by decide +kernel
theorem dX5_readKey_28 : decode cX5_readKey 28 = .ok (.iconst 3, 1) := by decide +kernel
theorem dX5_readKey_29 : decode cX5_readKey 29 = .ok (.if_icmp .ge 39, 3) := by decide +kernel
theorem dX5_readKey_32 : decode cX5_readKey 32 = .ok (.aload_n 0, 1) := by decide +kernel
theorem dX5_readKey_33 : decode cX5_readKey 33 = .ok (.iload_n 1, 1) := by decide +kernel
theorem dX5_readKey_34 : decode cX5_readKey 34 = .ok (.invokestatic 109, 3) := by decide +kernel
theorem dX5_readKey_37 : decode cX5_readKey 37 = .ok (.aload_n 0, 1) := by decide +kernel
theorem dX5_readKey_38 : decode cX5_readKey 38 = .ok (.getfield 28, 3) := by decide +kernel
theorem dX5_readKey_41 : decode cX5_readKey 41 = .ok (.invokevirtual 113, 3) := by decide +kernel
theorem dX5_readKey_44 : decode cX5_readKey 44 = .ok (.ifCond .eq 18, 3) := by decide +kernel
theorem dX5_readKey_47 : decode cX5_readKey 47 = .ok (.aload_n 0, 1) := by decide +kernel
theorem dX5_readKey_48 : decode cX5_readKey 48 = .ok (.iload_n 1, 1) := by decide +kernel
theorem dX5_readKey_49 : decode cX5_readKey 49 = .ok (.putfield 25, 3) := by decide +kernel
theorem dX5_readKey_52 : decode cX5_readKey 52 = .ok (.aload_n 0, 1) := by decide +kernel
theorem dX5_readKey_53 : decode cX5_readKey 53 = .ok (.aload_n 0, 1) := by decide +kernel
theorem dX5_readKey_54 : decode cX5_readKey 54 = .ok (.getfield 28, 3) := by decide +kernel
theorem dX5_readKey_57 : decode cX5_readKey 57 = .ok (.putfield 19, 3) := by decide +kernel
theorem dX5_readKey_60 : decode cX5_readKey 60 = .ok (.iconst 1, 1) := by decide +kernel
theorem dX5_readKey_61 : decode cX5_readKey 61 = .ok (.ireturn, 1) := by decide +kernel
theorem dX5_readKey_62 : decode cX5_readKey 62 = .ok (.iinc 1 1, 3) := by decide +kernel
theorem dX5_readKey_65 : decode cX5_readKey 65 = .ok (.goto (-38), 3) := by decide +kernel
theorem dX5_readKey_68 : decode cX5_readKey 68 = .ok (.iconst 0, 1) := by decide +kernel
theorem dX5_readKey_69 : decode cX5_readKey 69 = .ok (.ireturn, 1) := by decide +kernel
theorem dX5_readLaw_0 : decode cX5_readLaw 0 = .ok (.aload_n 0, 1) := by decide +kernel
theorem dX5_readLaw_1 : decode cX5_readLaw 1 = .ok (.invokevirtual 103, 3) := by decide +kernel
theorem dX5_readLaw_4 : decode cX5_readLaw 4 = .ok (.iconst 0, 1) := by decide +kernel
theorem dX5_readLaw_5 : decode cX5_readLaw 5 = .ok (.istore_n 1, 1) := by decide +kernel
theorem dX5_readLaw_6 : decode cX5_readLaw 6 = .ok (.iload_n 1, 1) := by decide +kernel
theorem dX5_readLaw_7 : decode cX5_readLaw 7 = .ok (.bipush 96, 2) := by decide +kernel
theorem dX5_readLaw_9 : decode cX5_readLaw 9 = .ok (.if_icmp .ge 50, 3) := by decide +kernel
theorem dX5_readLaw_12 : decode cX5_readLaw 12 = .ok (.aload_n 0, 1) := by decide +kernel
theorem dX5_readLaw_13 : decode cX5_readLaw 13 = .ok (.getfield 19, 3) := by decide +kernel
theorem dX5_readLaw_16 : decode cX5_readLaw 16 = .ok (.aload_n 0, 1) := by decide +kernel
theorem dX5_readLaw_17 : decode cX5_readLaw 17 = .ok (.getfield 22, 3) := by decide +kernel
theorem dX5_readLaw_20 : decode cX5_readLaw 20 = .ok (.if_icmp .ge 39, 3) := by decide +kernel
theorem dX5_readLaw_23 : decode cX5_readLaw 23 = .ok (.aload_n 0, 1) := by decide +kernel
theorem dX5_readLaw_24 : decode cX5_readLaw 24 = .ok (.getfield 31, 3) := by decide +kernel
theorem dX5_readLaw_27 : decode cX5_readLaw 27 = .ok (.ifCond .eq 13, 3) := by decide +kernel
theorem dX5_readLaw_30 : decode cX5_readLaw 30 = .ok (.aload_n 0, 1) := by decide +kernel
theorem dX5_readLaw_31 : decode cX5_readLaw 31 = .ok (.invokevirtual 117, 3) := by decide +kernel
theorem dX5_readLaw_34 : decode cX5_readLaw 34 = .ok (.ifCond .eq 13, 3) := by decide +kernel
theorem dX5_readLaw_37 : decode cX5_readLaw 37 = .ok (.goto 12, 3) := by decide +kernel
theorem dX5_readLaw_40 : decode cX5_readLaw 40 = .ok (.aload_n 0, 1) := by decide +kernel
theorem dX5_readLaw_41 : decode cX5_readLaw 41 = .ok (.invokevirtual 120, 3) := by decide +kernel
theorem dX5_readLaw_44 : decode cX5_readLaw 44 = .ok (.ifCond .ne 5, 3) := by decide +kernel
theorem dX5_readLaw_47 : decode cX5_readLaw 47 = .ok (.iconst 0, 1) := by decide +kernel
theorem dX5_readLaw_48 : decode cX5_readLaw 48 = .ok (.ireturn, 1) := by decide +kernel
theorem dX5_readLaw_49 : decode cX5_readLaw 49 = .ok (.aload_n 0, 1) := by decide +kernel
theorem dX5_readLaw_50 : decode cX5_readLaw 50 = .ok (.invokevirtual 103, 3) := by decide +kernel
theorem dX5_readLaw_53 : decode cX5_readLaw 53 = .ok (.iinc 1 1, 3) := by decide +kernel
theorem dX5_readLaw_56 : decode cX5_readLaw 56 = .ok (.goto (-50), 3) := by decide +kernel
theorem dX5_readLaw_59 : decode cX5_readLaw 59 = .ok (.aload_n 0, 1) := by decide +kernel
theorem dX5_readLaw_60 : decode cX5_readLaw 60 = .ok (.getfield 31, 3) := by decide +kernel
theorem dX5_readLaw_63 : decode cX5_readLaw 63 = .ok (.ifCond .ne 10, 3) := by decide +kernel
theorem dX5_readLaw_66 : decode cX5_readLaw 66 = .ok (.aload_n 0, 1) := by decide +kernel
theorem dX5_readLaw_67 : decode cX5_readLaw 67 = .ok (.getfield 50, 3) := by decide +kernel
theorem dX5_readLaw_70 : decode cX5_readLaw 70 = .ok (.ifCond .le 5, 3) := by decide +kernel
theorem dX5_readLaw_73 : decode cX5_readLaw 73 = .ok (.iconst 0, 1) := by decide +kernel
theorem dX5_readLaw_74 : decode cX5_readLaw 74 = .ok (.ireturn, 1) := by decide +kernel
theorem dX5_readLaw_75 : decode cX5_readLaw 75 = .ok (.aload_n 0, 1) := by decide +kernel
theorem dX5_readLaw_76 : decode cX5_readLaw 76 = .ok (.iconst 1, 1) := by decide +kernel
theorem dX5_readLaw_77 : decode cX5_readLaw 77 = .ok (.invokevirtual 123, 3) := by decide +kernel
theorem dX5_readLaw_80 : decode cX5_readLaw 80 = .ok (.iconst 1, 1) := by decide +kernel
theorem dX5_readLaw_81 : decode cX5_readLaw 81 = .ok (.ireturn, 1) := by decide +kernel
theorem dX5_readTowardsOperand_0 : decode cX5_readTowardsOperand 0 = .ok (.aload_n 0, 1) := by decide +kernel
theorem dX5_readTowardsOperand_1 : decode cX5_readTowardsOperand 1 = .ok (.getfield 9, 3) := by decide +kernel
theorem dX5_readTowardsOperand_4 : decode cX5_readTowardsOperand 4 = .ok (.aload_n 0, 1) := by decide +kernel
theorem dX5_readTowardsOperand_5 : decode cX5_readTowardsOperand 5 = .ok (.getfield 19, 3) := by decide +kernel
theorem dX5_readTowardsOperand_8 : decode cX5_readTowardsOperand 8 = .ok (.iaload, 1) := by decide +kernel
theorem dX5_readTowardsOperand_9 : decode cX5_readTowardsOperand 9 = .ok (.istore_n 1, 1) := by decide +kernel
theorem dX5_readTowardsOperand_10 : decode cX5_readTowardsOperand 10 = .ok (.iload_n 1, 1) := by decide +kernel
theorem dX5_readTowardsOperand_11 : decode cX5_readTowardsOperand 11 = .ok (.invokestatic 78, 3) := by decide +kernel
theorem dX5_readTowardsOperand_14 : decode cX5_readTowardsOperand 14 = .ok (.ifCond .eq 8, 3) := by decide +kernel
theorem dX5_readTowardsOperand_17 : decode cX5_readTowardsOperand 17 = .ok (.aload_n 0, 1) := by decide +kernel
theorem dX5_readTowardsOperand_18 : decode cX5_readTowardsOperand 18 = .ok (.invokevirtual 127, 3) := by decide +kernel
theorem dX5_readTowardsOperand_21 : decode cX5_readTowardsOperand 21 = .ok (.ireturn, 1) := by decide +kernel
theorem dX5_readTowardsOperand_22 : decode cX5_readTowardsOperand 22 = .ok (.iload_n 1, 1) := by decide +kernel
theorem dX5_readTowardsOperand_23 : decode cX5_readTowardsOperand 23 = .ok (.invokestatic 74, 3) := by decide +kernel
theorem dX5_readTowardsOperand_26 : decode cX5_readTowardsOperand 26 = .ok (.ifCond .eq 8, 3) := by decide +kernel
theorem dX5_readTowardsOperand_29 : decode cX5_readTowardsOperand 29 = .ok (.aload_n 0, 1) := by decide +kernel
theorem dX5_readTowardsOperand_30 : decode cX5_readTowardsOperand 30 = .ok (.invokevirtual 130, 3) := by decide +kernel
theorem dX5_readTowardsOperand_33 : decode cX5_readTowardsOperand 33 = .ok (.ireturn, 1) := by decide +kernel
theorem dX5_readTowardsOperand_34 : decode cX5_readTowardsOperand 34 = .ok (.iload_n 1, 1) := by decide +kernel
theorem dX5_readTowardsOperand_35 : decode cX5_readTowardsOperand 35 = .ok (.bipush 33, 2) := by decide +kernel
theorem dX5_readTowardsOperand_37 : decode cX5_readTowardsOperand 37 = .ok (.if_icmp .ne 25, 3) := by decide +kernel
theorem dX5_readTowardsOperand_40 : decode cX5_readTowardsOperand 40 = .ok (.aload_n 0, 1) := by decide +kernel
theorem dX5_readTowardsOperand_41 : decode cX5_readTowardsOperand 41 = .ok (.getfield 53, 3) := by decide +kernel
theorem dX5_readTowardsOperand_44 : decode cX5_readTowardsOperand 44 = .ok (.bipush 8, 2) := by decide +kernel
theorem dX5_readTowardsOperand_46 : decode cX5_readTowardsOperand 46 = .ok (.if_icmp .ge 16, 3) := by decide +kernel
theorem dX5_readTowardsOperand_49 : decode cX5_readTowardsOperand 49 = .ok (.aload_n 0, 1) := by decide +kernel
theorem dX5_readTowardsOperand_50 : decode cX5_readTowardsOperand 50 = .ok (.dup, 1) := by decide +kernel
theorem dX5_readTowardsOperand_51 : decode cX5_readTowardsOperand 51 = .ok (.getfield 53, 3) := by decide +kernel
theorem dX5_readTowardsOperand_54 : decode cX5_readTowardsOperand 54 = .ok (.iconst 1, 1) := by decide +kernel
theorem dX5_readTowardsOperand_55 : decode cX5_readTowardsOperand 55 = .ok (.iadd, 1) := by decide +kernel
theorem dX5_readTowardsOperand_56 : decode cX5_readTowardsOperand 56 = .ok (.putfield 53, 3) := by decide +kernel
theorem dX5_readTowardsOperand_59 : decode cX5_readTowardsOperand 59 = .ok (.goto 33, 3) := by decide +kernel
theorem dX5_readTowardsOperand_62 : decode cX5_readTowardsOperand 62 = .ok (.iload_n 1, 1) := by decide +kernel
theorem dX5_readTowardsOperand_63 : decode cX5_readTowardsOperand 63 = .ok (.bipush 40, 2) := by decide +kernel
theorem dX5_readTowardsOperand_65 : decode cX5_readTowardsOperand 65 = .ok (.if_icmp .ne 25, 3) := by decide +kernel
theorem dX5_readTowardsOperand_68 : decode cX5_readTowardsOperand 68 = .ok (.aload_n 0, 1) := by decide +kernel
theorem dX5_readTowardsOperand_69 : decode cX5_readTowardsOperand 69 = .ok (.getfield 50, 3) := by decide +kernel
theorem dX5_readTowardsOperand_72 : decode cX5_readTowardsOperand 72 = .ok (.bipush 8, 2) := by decide +kernel
theorem dX5_readTowardsOperand_74 : decode cX5_readTowardsOperand 74 = .ok (.if_icmp .ge 16, 3) := by decide +kernel
theorem dX5_readTowardsOperand_77 : decode cX5_readTowardsOperand 77 = .ok (.aload_n 0, 1) := by decide +kernel
theorem dX5_readTowardsOperand_78 : decode cX5_readTowardsOperand 78 = .ok (.dup, 1) := by decide +kernel
theorem dX5_readTowardsOperand_79 : decode cX5_readTowardsOperand 79 = .ok (.getfield 50, 3) := by decide +kernel
theorem dX5_readTowardsOperand_82 : decode cX5_readTowardsOperand 82 = .ok (.iconst 1, 1) := by decide +kernel
theorem dX5_readTowardsOperand_83 : decode cX5_readTowardsOperand 83 = .ok (.iadd, 1) := by decide +kernel
theorem dX5_readTowardsOperand_84 : decode cX5_readTowardsOperand 84 = .ok (.putfield 50, 3) := by decide +kernel
theorem dX5_readTowardsOperand_87 : decode cX5_readTowardsOperand 87 = .ok (.goto 5, 3) := by decide +kernel
theorem dX5_readTowardsOperand_90 : decode cX5_readTowardsOperand 90 = .ok (.iconst 0, 1) := by decide +kernel
theorem dX5_readTowardsOperand_91 : decode cX5_readTowardsOperand 91 = .ok (.ireturn, 1) := by decide +kernel
theorem dX5_readTowardsOperand_92 : decode cX5_readTowardsOperand 92 = .ok (.aload_n 0, 1) := by decide +kernel
theorem dX5_readTowardsOperand_93 : decode cX5_readTowardsOperand 93 = .ok (.iload_n 1, 1) := by decide +kernel
theorem dX5_readTowardsOperand_94 : decode cX5_readTowardsOperand 94 = .ok (.invokevirtual 133, 3) := by decide +kernel
theorem dX5_readTowardsOperand_97 : decode cX5_readTowardsOperand 97 = .ok (.iconst 1, 1) := by decide +kernel
theorem dX5_readTowardsOperand_98 : decode cX5_readTowardsOperand 98 = .ok (.ireturn, 1) := by decide +kernel
theorem dX5_readNumber_0 : decode cX5_readNumber 0 = .ok (.aload_n 0, 1) := by decide +kernel
theorem dX5_readNumber_1 : decode cX5_readNumber 1 = .ok (.invokevirtual 106, 3) := by decide +kernel
theorem dX5_readNumber_4 : decode cX5_readNumber 4 = .ok (.istore_n 1, 1) := by decide +kernel
theorem dX5_readNumber_5 : decode cX5_readNumber 5 = .ok (.aload_n 0, 1) := by decide +kernel
theorem dX5_readNumber_6 : decode cX5_readNumber 6 = .ok (.getfield 19, 3) := by decide +kernel
theorem dX5_readNumber_9 : decode cX5_readNumber 9 = .ok (.aload_n 0, 1) := by decide +kernel
theorem dX5_readNumber_10 : decode cX5_readNumber 10 = .ok (.getfield 28, 3) := by decide +kernel
theorem dX5_readNumber_13 : decode cX5_readNumber 13 = .ok (.if_icmp .eq 13, 3) := by decide +kernel
theorem dX5_readNumber_16 : decode cX5_readNumber 16 = .ok (.iload_n 1, 1) := by decide +kernel
theorem dX5_readNumber_17 : decode cX5_readNumber 17 = .ok (.aload_n 0, 1) := by decide +kernel
theorem dX5_readNumber_18 : decode cX5_readNumber 18 = .ok (.getfield 19, 3) := by decide +kernel
theorem dX5_readNumber_21 : decode cX5_readNumber 21 = .ok (.isub, 1) := by decide +kernel
theorem dX5_readNumber_22 : decode cX5_readNumber 22 = .ok (.iconst 4, 1) := by decide +kernel
theorem dX5_readNumber_23 : decode cX5_readNumber 23 = .ok (.if_icmp .le 5, 3) := by decide +kernel
theorem dX5_readNumber_26 : decode cX5_readNumber 26 = .ok (.iconst 0, 1) := by decide +kernel
theorem dX5_readNumber_27 : decode cX5_readNumber 27 = .ok (.ireturn, 1) := by decide +kernel
theorem dX5_readNumber_28 : decode cX5_readNumber 28 = .ok (.iconst 0, 1) := by decide +kernel
theorem dX5_readNumber_29 : decode cX5_readNumber 29 = .ok (.istore_n 2, 1) := by decide +kernel
theorem dX5_readNumber_30 : decode cX5_readNumber 30 = .ok (.aload_n 0, 1) := by decide +kernel
theorem dX5_readNumber_31 : decode cX5_readNumber 31 = .ok (.getfield 19, 3) := by decide +kernel
theorem dX5_readNumber_34 : decode cX5_readNumber 34 = .ok (.istore_n 3, 1) := by decide +kernel
theorem dX5_readNumber_35 : decode cX5_readNumber 35 = .ok (.iload_n 3, 1) := by decide +kernel
theorem dX5_readNumber_36 : decode cX5_readNumber 36 = .ok (.iload_n 1, 1) := by decide +kernel
theorem dX5_readNumber_37 : decode cX5_readNumber 37 = .ok (.if_icmp .ge 24, 3) := by decide +kernel
theorem dX5_readNumber_40 : decode cX5_readNumber 40 = .ok (.iload_n 2, 1) := by decide +kernel
theorem dX5_readNumber_41 : decode cX5_readNumber 41 = .ok (.bipush 10, 2) := by decide +kernel
theorem dX5_readNumber_43 : decode cX5_readNumber 43 = .ok (.imul, 1) := by decide +kernel
theorem dX5_readNumber_44 : decode cX5_readNumber 44 = .ok (.aload_n 0, 1) := by decide +kernel
theorem dX5_readNumber_45 : decode cX5_readNumber 45 = .ok (.getfield 9, 3) := by decide +kernel
theorem dX5_readNumber_48 : decode cX5_readNumber 48 = .ok (.iload_n 3, 1) := by decide +kernel
theorem dX5_readNumber_49 : decode cX5_readNumber 49 = .ok (.iaload, 1) := by decide +kernel
theorem dX5_readNumber_50 : decode cX5_readNumber 50 = .ok (.iadd, 1) := by decide +kernel
theorem dX5_readNumber_51 : decode cX5_readNumber 51 = .ok (.bipush 48, 2) := by decide +kernel
theorem dX5_readNumber_53 : decode cX5_readNumber 53 = .ok (.isub, 1) := by decide +kernel
theorem dX5_readNumber_54 : decode cX5_readNumber 54 = .ok (.istore_n 2, 1) := by decide +kernel
theorem dX5_readNumber_55 : decode cX5_readNumber 55 = .ok (.iinc 3 1, 3) := by decide +kernel
theorem dX5_readNumber_58 : decode cX5_readNumber 58 = .ok (.goto (-23), 3) := by decide +kernel
theorem dX5_readNumber_61 : decode cX5_readNumber 61 = .ok (.aload_n 0, 1) := by decide +kernel
theorem dX5_readNumber_62 : decode cX5_readNumber 62 = .ok (.iload_n 1, 1) := by decide +kernel
theorem dX5_readNumber_63 : decode cX5_readNumber 63 = .ok (.putfield 19, 3) := by decide +kernel
theorem dX5_readNumber_66 : decode cX5_readNumber 66 = .ok (.aload_n 0, 1) := by decide +kernel
theorem dX5_readNumber_67 : decode cX5_readNumber 67 = .ok (.iload_n 2, 1) := by decide +kernel
theorem dX5_readNumber_68 : decode cX5_readNumber 68 = .ok (.invokevirtual 136, 3) := by decide +kernel
theorem dX5_readNumber_71 : decode cX5_readNumber 71 = .ok (.iconst 1, 1) := by decide +kernel
theorem dX5_readNumber_72 : decode cX5_readNumber 72 = .ok (.ireturn, 1) := by decide +kernel
theorem dX5_readName_0 : decode cX5_readName 0 = .ok (.aload_n 0, 1) := by decide +kernel
theorem dX5_readName_1 : decode cX5_readName 1 = .ok (.invokevirtual 106, 3) := by decide +kernel
theorem dX5_readName_4 : decode cX5_readName 4 = .ok (.aload_n 0, 1) := by decide +kernel
theorem dX5_readName_5 : decode cX5_readName 5 = .ok (.getfield 19, 3) := by decide +kernel
theorem dX5_readName_8 : decode cX5_readName 8 = .ok (.isub, 1) := by decide +kernel
theorem dX5_readName_9 : decode cX5_readName 9 = .ok (.iconst 1, 1) := by decide +kernel
theorem dX5_readName_10 : decode cX5_readName 10 = .ok (.if_icmp .eq 5, 3) := by decide +kernel
theorem dX5_readName_13 : decode cX5_readName 13 = .ok (.iconst 0, 1) := by decide +kernel
theorem dX5_readName_14 : decode cX5_readName 14 = .ok (.ireturn, 1) := by decide +kernel
theorem dX5_readName_15 : decode cX5_readName 15 = .ok (.aload_n 0, 1) := by decide +kernel
theorem dX5_readName_16 : decode cX5_readName 16 = .ok (.getfield 25, 3) := by decide +kernel
theorem dX5_readName_19 : decode cX5_readName 19 = .ok (.invokestatic 139, 3) := by decide +kernel
theorem dX5_readName_22 : decode cX5_readName 22 = .ok (.aload_n 0, 1) := by decide +kernel
theorem dX5_readName_23 : decode cX5_readName 23 = .ok (.getfield 9, 3) := by decide +kernel
theorem dX5_readName_26 : decode cX5_readName 26 = .ok (.aload_n 0, 1) := by decide +kernel
theorem dX5_readName_27 : decode cX5_readName 27 = .ok (.getfield 19, 3) := by decide +kernel
theorem dX5_readName_30 : decode cX5_readName 30 = .ok (.iaload, 1) := by decide +kernel
theorem dX5_readName_31 : decode cX5_readName 31 = .ok (.i2c, 1) := by decide +kernel
theorem dX5_readName_32 : decode cX5_readName 32 = .ok (.invokevirtual 142, 3) := by decide +kernel
theorem dX5_readName_35 : decode cX5_readName 35 = .ok (.istore_n 1, 1) := by decide +kernel
theorem dX5_readName_36 : decode cX5_readName 36 = .ok (.iload_n 1, 1) := by decide +kernel
theorem dX5_readName_37 : decode cX5_readName 37 = .ok (.ifCond .ge 5, 3) := by decide +kernel
theorem dX5_readName_40 : decode cX5_readName 40 = .ok (.iconst 0, 1) := by decide +kernel
theorem dX5_readName_41 : decode cX5_readName 41 = .ok (.ireturn, 1) := by decide +kernel
theorem dX5_readName_42 : decode cX5_readName 42 = .ok (.aload_n 0, 1) := by decide +kernel
theorem dX5_readName_43 : decode cX5_readName 43 = .ok (.dup, 1) := by decide +kernel
theorem dX5_readName_44 : decode cX5_readName 44 = .ok (.getfield 19, 3) := by decide +kernel
theorem dX5_readName_47 : decode cX5_readName 47 = .ok (.iconst 1, 1) := by decide +kernel
theorem dX5_readName_48 : decode cX5_readName 48 = .ok (.iadd, 1) := by decide +kernel
theorem dX5_readName_49 : decode cX5_readName 49 = .ok (.putfield 19, 3) := by decide +kernel
theorem dX5_readName_52 : decode cX5_readName 52 = .ok (.aload_n 0, 1) := by decide +kernel
theorem dX5_readName_53 : decode cX5_readName 53 = .ok (.sipush 10000, 3) := by decide +kernel
theorem dX5_readName_56 : decode cX5_readName 56 = .ok (.iload_n 1, 1) := by decide +kernel
theorem dX5_readName_57 : decode cX5_readName 57 = .ok (.iadd, 1) := by decide +kernel
theorem dX5_readName_58 : decode cX5_readName 58 = .ok (.invokevirtual 136, 3) := by decide +kernel
theorem dX5_readName_61 : decode cX5_readName 61 = .ok (.iconst 1, 1) := by decide +kernel
theorem dX5_readName_62 : decode cX5_readName 62 = .ok (.ireturn, 1) := by decide +kernel
theorem dX5_putOperand_0 : decode cX5_putOperand 0 = .ok (.aload_n 0, 1) := by decide +kernel
theorem dX5_putOperand_1 : decode cX5_putOperand 1 = .ok (.dup, 1) := by decide +kernel
theorem dX5_putOperand_2 : decode cX5_putOperand 2 = .ok (.getfield 41, 3) := by decide +kernel
theorem dX5_putOperand_5 : decode cX5_putOperand 5 = .ok (.iconst 1, 1) := by decide +kernel
theorem dX5_putOperand_6 : decode cX5_putOperand 6 = .ok (.iadd, 1) := by decide +kernel
theorem dX5_putOperand_7 : decode cX5_putOperand 7 = .ok (.putfield 41, 3) := by decide +kernel
theorem dX5_putOperand_10 : decode cX5_putOperand 10 = .ok (.aload_n 0, 1) := by decide +kernel
theorem dX5_putOperand_11 : decode cX5_putOperand 11 = .ok (.iload_n 1, 1) := by decide +kernel
theorem dX5_putOperand_12 : decode cX5_putOperand 12 = .ok (.invokevirtual 146, 3) := by decide +kernel
theorem dX5_putOperand_15 : decode cX5_putOperand 15 = .ok (.aload_n 0, 1) := by decide +kernel
theorem dX5_putOperand_16 : decode cX5_putOperand 16 = .ok (.invokevirtual 149, 3) := by decide +kernel
theorem dX5_putOperand_19 : decode cX5_putOperand 19 = .ok (.return_, 1) := by decide +kernel
theorem dX5_putOut_0 : decode cX5_putOut 0 = .ok (.aload_n 0, 1) := by decide +kernel
theorem dX5_putOut_1 : decode cX5_putOut 1 = .ok (.getfield 38, 3) := by decide +kernel
theorem dX5_putOut_4 : decode cX5_putOut 4 = .ok (.bipush 96, 2) := by decide +kernel
theorem dX5_putOut_6 : decode cX5_putOut 6 = .ok (.if_icmp .lt 4, 3) := by decide +kernel
theorem dX5_putOut_9 : decode cX5_putOut 9 = .ok (.return_, 1) := by decide +kernel
theorem dX5_putOut_10 : decode cX5_putOut 10 = .ok (.aload_n 0, 1) := by decide +kernel
theorem dX5_putOut_11 : decode cX5_putOut 11 = .ok (.getfield 35, 3) := by decide +kernel
theorem dX5_putOut_14 : decode cX5_putOut 14 = .ok (.aload_n 0, 1) := by decide +kernel
theorem dX5_putOut_15 : decode cX5_putOut 15 = .ok (.getfield 38, 3) := by decide +kernel
theorem dX5_putOut_18 : decode cX5_putOut 18 = .ok (.iload_n 1, 1) := by decide +kernel
theorem dX5_putOut_19 : decode cX5_putOut 19 = .ok (.iastore, 1) := by decide +kernel
theorem dX5_putOut_20 : decode cX5_putOut 20 = .ok (.aload_n 0, 1) := by decide +kernel
theorem dX5_putOut_21 : decode cX5_putOut 21 = .ok (.dup, 1) := by decide +kernel
theorem dX5_putOut_22 : decode cX5_putOut 22 = .ok (.getfield 38, 3) := by decide +kernel
theorem dX5_putOut_25 : decode cX5_putOut 25 = .ok (.iconst 1, 1) := by decide +kernel
theorem dX5_putOut_26 : decode cX5_putOut 26 = .ok (.iadd, 1) := by decide +kernel
theorem dX5_putOut_27 : decode cX5_putOut 27 = .ok (.putfield 38, 3) := by decide +kernel
theorem dX5_putOut_30 : decode cX5_putOut 30 = .ok (.return_, 1) := by decide +kernel
theorem dX5_pushSign_0 : decode cX5_pushSign 0 = .ok (.aload_n 0, 1) := by decide +kernel
theorem dX5_pushSign_1 : decode cX5_pushSign 1 = .ok (.getfield 47, 3) := by decide +kernel
theorem dX5_pushSign_4 : decode cX5_pushSign 4 = .ok (.bipush 96, 2) := by decide +kernel
theorem dX5_pushSign_6 : decode cX5_pushSign 6 = .ok (.if_icmp .ge 23, 3) := by decide +kernel
theorem dX5_pushSign_9 : decode cX5_pushSign 9 = .ok (.aload_n 0, 1) := by decide +kernel
theorem dX5_pushSign_10 : decode cX5_pushSign 10 = .ok (.getfield 44, 3) := by decide +kernel
theorem dX5_pushSign_13 : decode cX5_pushSign 13 = .ok (.aload_n 0, 1) := by decide +kernel
theorem dX5_pushSign_14 : decode cX5_pushSign 14 = .ok (.getfield 47, 3) := by decide +kernel
theorem dX5_pushSign_17 : decode cX5_pushSign 17 = .ok (.iload_n 1, 1) := by decide +kernel
theorem dX5_pushSign_18 : decode cX5_pushSign 18 = .ok (.iastore, 1) := by decide +kernel
theorem dX5_pushSign_19 : decode cX5_pushSign 19 = .ok (.aload_n 0, 1) := by decide +kernel
theorem dX5_pushSign_20 : decode cX5_pushSign 20 = .ok (.dup, 1) := by decide +kernel
theorem dX5_pushSign_21 : decode cX5_pushSign 21 = .ok (.getfield 47, 3) := by decide +kernel
theorem dX5_pushSign_24 : decode cX5_pushSign 24 = .ok (.iconst 1, 1) := by decide +kernel
theorem dX5_pushSign_25 : decode cX5_pushSign 25 = .ok (.iadd, 1) := by decide +kernel
theorem dX5_pushSign_26 : decode cX5_pushSign 26 = .ok (.putfield 47, 3) := by decide +kernel
theorem dX5_pushSign_29 : decode cX5_pushSign 29 = .ok (.aload_n 0, 1) := by decide +kernel
theorem dX5_pushSign_30 : decode cX5_pushSign 30 = .ok (.dup, 1) := by decide +kernel
theorem dX5_pushSign_31 : decode cX5_pushSign 31 = .ok (.getfield 19, 3) := by decide +kernel
theorem dX5_pushSign_34 : decode cX5_pushSign 34 = .ok (.iconst 1, 1) := by decide +kernel
theorem dX5_pushSign_35 : decode cX5_pushSign 35 = .ok (.iadd, 1) := by decide +kernel
theorem dX5_pushSign_36 : decode cX5_pushSign 36 = .ok (.putfield 19, 3) := by decide +kernel
theorem dX5_pushSign_39 : decode cX5_pushSign 39 = .ok (.return_, 1) := by decide +kernel
theorem dX5_topSign_0 : decode cX5_topSign 0 = .ok (.aload_n 0, 1) := by decide +kernel
theorem dX5_topSign_1 : decode cX5_topSign 1 = .ok (.getfield 47, 3) := by decide +kernel
theorem dX5_topSign_4 : decode cX5_topSign 4 = .ok (.ifCond .le 17, 3) := by decide +kernel
theorem dX5_topSign_7 : decode cX5_topSign 7 = .ok (.aload_n 0, 1) := by decide +kernel
theorem dX5_topSign_8 : decode cX5_topSign 8 = .ok (.getfield 44, 3) := by decide +kernel
theorem dX5_topSign_11 : decode cX5_topSign 11 = .ok (.aload_n 0, 1) := by decide +kernel
theorem dX5_topSign_12 : decode cX5_topSign 12 = .ok (.getfield 47, 3) := by decide +kernel
theorem dX5_topSign_15 : decode cX5_topSign 15 = .ok (.iconst 1, 1) := by decide +kernel
theorem dX5_topSign_16 : decode cX5_topSign 16 = .ok (.isub, 1) := by decide +kernel
theorem dX5_topSign_17 : decode cX5_topSign 17 = .ok (.iaload, 1) := by decide +kernel
theorem dX5_topSign_18 : decode cX5_topSign 18 = .ok (.goto 4, 3) := by decide +kernel
theorem dX5_topSign_21 : decode cX5_topSign 21 = .ok (.iconst 0, 1) := by decide +kernel
theorem dX5_topSign_22 : decode cX5_topSign 22 = .ok (.ireturn, 1) := by decide +kernel
theorem dX5_closePiece_0 : decode cX5_closePiece 0 = .ok (.aload_n 0, 1) := by decide +kernel
theorem dX5_closePiece_1 : decode cX5_closePiece 1 = .ok (.getfield 47, 3) := by decide +kernel
theorem dX5_closePiece_4 : decode cX5_closePiece 4 = .ok (.ifCond .le 41, 3) := by decide +kernel
theorem dX5_closePiece_7 : decode cX5_closePiece 7 = .ok (.aload_n 0, 1) := by decide +kernel
theorem dX5_closePiece_8 : decode cX5_closePiece 8 = .ok (.invokevirtual 152, 3) := by decide +kernel
theorem dX5_closePiece_11 : decode cX5_closePiece 11 = .ok (.bipush 33, 2) := by decide +kernel
theorem dX5_closePiece_13 : decode cX5_closePiece 13 = .ok (.if_icmp .ne 32, 3) := by decide +kernel
theorem dX5_closePiece_16 : decode cX5_closePiece 16 = .ok (.aload_n 0, 1) := by decide +kernel
theorem dX5_closePiece_17 : decode cX5_closePiece 17 = .ok (.bipush (-33), 2) := by decide +kernel
theorem dX5_closePiece_19 : decode cX5_closePiece 19 = .ok (.invokevirtual 146, 3) := by decide +kernel
theorem dX5_closePiece_22 : decode cX5_closePiece 22 = .ok (.aload_n 0, 1) := by decide +kernel
theorem dX5_closePiece_23 : decode cX5_closePiece 23 = .ok (.dup, 1) := by decide +kernel
theorem dX5_closePiece_24 : decode cX5_closePiece 24 = .ok (.getfield 47, 3) := by decide +kernel
theorem dX5_closePiece_27 : decode cX5_closePiece 27 = .ok (.iconst 1, 1) := by decide +kernel
theorem dX5_closePiece_28 : decode cX5_closePiece 28 = .ok (.isub, 1) := by decide +kernel
theorem dX5_closePiece_29 : decode cX5_closePiece 29 = .ok (.putfield 47, 3) := by decide +kernel
theorem dX5_closePiece_32 : decode cX5_closePiece 32 = .ok (.aload_n 0, 1) := by decide +kernel
theorem dX5_closePiece_33 : decode cX5_closePiece 33 = .ok (.dup, 1) := by decide +kernel
theorem dX5_closePiece_34 : decode cX5_closePiece 34 = .ok (.getfield 53, 3) := by decide +kernel
theorem dX5_closePiece_37 : decode cX5_closePiece 37 = .ok (.iconst 1, 1) := by decide +kernel
theorem dX5_closePiece_38 : decode cX5_closePiece 38 = .ok (.isub, 1) := by decide +kernel
theorem dX5_closePiece_39 : decode cX5_closePiece 39 = .ok (.putfield 53, 3) := by decide +kernel
theorem dX5_closePiece_42 : decode cX5_closePiece 42 = .ok (.goto (-42), 3) := by decide +kernel
theorem dX5_closePiece_45 : decode cX5_closePiece 45 = .ok (.aload_n 0, 1) := by decide +kernel
theorem dX5_closePiece_46 : decode cX5_closePiece 46 = .ok (.iconst 0, 1) := by decide +kernel
theorem dX5_closePiece_47 : decode cX5_closePiece 47 = .ok (.putfield 31, 3) := by decide +kernel
theorem dX5_closePiece_50 : decode cX5_closePiece 50 = .ok (.return_, 1) := by decide +kernel
theorem dX5_readBehindOperand_0 : decode cX5_readBehindOperand 0 = .ok (.aload_n 0, 1) := by decide +kernel
theorem dX5_readBehindOperand_1 : decode cX5_readBehindOperand 1 = .ok (.getfield 9, 3) := by decide +kernel
theorem dX5_readBehindOperand_4 : decode cX5_readBehindOperand 4 = .ok (.aload_n 0, 1) := by decide +kernel
theorem dX5_readBehindOperand_5 : decode cX5_readBehindOperand 5 = .ok (.getfield 19, 3) := by decide +kernel
theorem dX5_readBehindOperand_8 : decode cX5_readBehindOperand 8 = .ok (.iaload, 1) := by decide +kernel
theorem dX5_readBehindOperand_9 : decode cX5_readBehindOperand 9 = .ok (.istore_n 1, 1) := by decide +kernel
theorem dX5_readBehindOperand_10 : decode cX5_readBehindOperand 10 = .ok (.iload_n 1, 1) := by decide +kernel
theorem dX5_readBehindOperand_11 : decode cX5_readBehindOperand 11 = .ok (.bipush 41, 2) := by decide +kernel
theorem dX5_readBehindOperand_13 : decode cX5_readBehindOperand 13 = .ok (.if_icmp .ne 8, 3) := by decide +kernel
theorem dX5_readBehindOperand_16 : decode cX5_readBehindOperand 16 = .ok (.aload_n 0, 1) := by decide +kernel
theorem dX5_readBehindOperand_17 : decode cX5_readBehindOperand 17 = .ok (.invokevirtual 155, 3) := by decide +kernel
theorem dX5_readBehindOperand_20 : decode cX5_readBehindOperand 20 = .ok (.ireturn, 1) := by decide +kernel
theorem dX5_readBehindOperand_21 : decode cX5_readBehindOperand 21 = .ok (.iload_n 1, 1) := by decide +kernel
theorem dX5_readBehindOperand_22 : decode cX5_readBehindOperand 22 = .ok (.invokestatic 158, 3) := by decide +kernel
theorem dX5_readBehindOperand_25 : decode cX5_readBehindOperand 25 = .ok (.istore_n 2, 1) := by decide +kernel
theorem dX5_readBehindOperand_26 : decode cX5_readBehindOperand 26 = .ok (.iload_n 2, 1) := by decide +kernel
theorem dX5_readBehindOperand_27 : decode cX5_readBehindOperand 27 = .ok (.ifCond .ne 5, 3) := by decide +kernel
theorem dX5_readBehindOperand_30 : decode cX5_readBehindOperand 30 = .ok (.iconst 0, 1) := by decide +kernel
theorem dX5_readBehindOperand_31 : decode cX5_readBehindOperand 31 = .ok (.ireturn, 1) := by decide +kernel
theorem dX5_readBehindOperand_32 : decode cX5_readBehindOperand 32 = .ok (.aload_n 0, 1) := by decide +kernel
theorem dX5_readBehindOperand_33 : decode cX5_readBehindOperand 33 = .ok (.iload_n 2, 1) := by decide +kernel
theorem dX5_readBehindOperand_34 : decode cX5_readBehindOperand 34 = .ok (.iconst 3, 1) := by decide +kernel
theorem dX5_readBehindOperand_35 : decode cX5_readBehindOperand 35 = .ok (.if_icmp .ne 9, 3) := by decide +kernel
theorem dX5_readBehindOperand_38 : decode cX5_readBehindOperand 38 = .ok (.iload_n 2, 1) := by decide +kernel
theorem dX5_readBehindOperand_39 : decode cX5_readBehindOperand 39 = .ok (.iconst 1, 1) := by decide +kernel
theorem dX5_readBehindOperand_40 : decode cX5_readBehindOperand 40 = .ok (.iadd, 1) := by decide +kernel
theorem dX5_readBehindOperand_41 : decode cX5_readBehindOperand 41 = .ok (.goto 4, 3) := by decide +kernel
theorem dX5_readBehindOperand_44 : decode cX5_readBehindOperand 44 = .ok (.iload_n 2, 1) := by decide +kernel
theorem dX5_readBehindOperand_45 : decode cX5_readBehindOperand 45 = .ok (.invokevirtual 123, 3) := by decide +kernel
theorem dX5_readBehindOperand_48 : decode cX5_readBehindOperand 48 = .ok (.iload_n 2, 1) := by decide +kernel
theorem dX5_readBehindOperand_49 : decode cX5_readBehindOperand 49 = .ok (.iconst 3, 1) := by decide +kernel
theorem dX5_readBehindOperand_50 : decode cX5_readBehindOperand 50 = .ok (.if_icmp .ne 16, 3) := by decide +kernel
theorem dX5_readBehindOperand_53 : decode cX5_readBehindOperand 53 = .ok (.aload_n 0, 1) := by decide +kernel
theorem dX5_readBehindOperand_54 : decode cX5_readBehindOperand 54 = .ok (.invokevirtual 152, 3) := by decide +kernel
theorem dX5_readBehindOperand_57 : decode cX5_readBehindOperand 57 = .ok (.invokestatic 158, 3) := by decide +kernel
theorem dX5_readBehindOperand_60 : decode cX5_readBehindOperand 60 = .ok (.iconst 3, 1) := by decide +kernel
theorem dX5_readBehindOperand_61 : decode cX5_readBehindOperand 61 = .ok (.if_icmp .ne 5, 3) := by decide +kernel
theorem dX5_readBehindOperand_64 : decode cX5_readBehindOperand 64 = .ok (.iconst 0, 1) := by decide +kernel
theorem dX5_readBehindOperand_65 : decode cX5_readBehindOperand 65 = .ok (.ireturn, 1) := by decide +kernel
theorem dX5_readBehindOperand_66 : decode cX5_readBehindOperand 66 = .ok (.aload_n 0, 1) := by decide +kernel
theorem dX5_readBehindOperand_67 : decode cX5_readBehindOperand 67 = .ok (.iload_n 1, 1) := by decide +kernel
theorem dX5_readBehindOperand_68 : decode cX5_readBehindOperand 68 = .ok (.invokevirtual 133, 3) := by decide +kernel
theorem dX5_readBehindOperand_71 : decode cX5_readBehindOperand 71 = .ok (.aload_n 0, 1) := by decide +kernel
theorem dX5_readBehindOperand_72 : decode cX5_readBehindOperand 72 = .ok (.iconst 1, 1) := by decide +kernel
theorem dX5_readBehindOperand_73 : decode cX5_readBehindOperand 73 = .ok (.putfield 31, 3) := by decide +kernel
theorem dX5_readBehindOperand_76 : decode cX5_readBehindOperand 76 = .ok (.iconst 1, 1) := by decide +kernel
theorem dX5_readBehindOperand_77 : decode cX5_readBehindOperand 77 = .ok (.ireturn, 1) := by decide +kernel
theorem dX5_readClosing_0 : decode cX5_readClosing 0 = .ok (.aload_n 0, 1) := by decide +kernel
theorem dX5_readClosing_1 : decode cX5_readClosing 1 = .ok (.getfield 50, 3) := by decide +kernel
theorem dX5_readClosing_4 : decode cX5_readClosing 4 = .ok (.ifCond .ne 5, 3) := by decide +kernel
theorem dX5_readClosing_7 : decode cX5_readClosing 7 = .ok (.iconst 0, 1) := by decide +kernel
theorem dX5_readClosing_8 : decode cX5_readClosing 8 = .ok (.ireturn, 1) := by decide +kernel
theorem dX5_readClosing_9 : decode cX5_readClosing 9 = .ok (.aload_n 0, 1) := by decide +kernel
theorem dX5_readClosing_10 : decode cX5_readClosing 10 = .ok (.iconst 1, 1) := by decide +kernel
theorem dX5_readClosing_11 : decode cX5_readClosing 11 = .ok (.invokevirtual 123, 3) := by decide +kernel
theorem dX5_readClosing_14 : decode cX5_readClosing 14 = .ok (.aload_n 0, 1) := by decide +kernel
theorem dX5_readClosing_15 : decode cX5_readClosing 15 = .ok (.invokevirtual 152, 3) := by decide +kernel
theorem dX5_readClosing_18 : decode cX5_readClosing 18 = .ok (.bipush 40, 2) := by decide +kernel
theorem dX5_readClosing_20 : decode cX5_readClosing 20 = .ok (.if_icmp .ne 13, 3) := by decide +kernel
theorem dX5_readClosing_23 : decode cX5_readClosing 23 = .ok (.aload_n 0, 1) := by decide +kernel
theorem dX5_readClosing_24 : decode cX5_readClosing 24 = .ok (.dup, 1) := by decide +kernel
theorem dX5_readClosing_25 : decode cX5_readClosing 25 = .ok (.getfield 47, 3) := by decide +kernel
theorem dX5_readClosing_28 : decode cX5_readClosing 28 = .ok (.iconst 1, 1) := by decide +kernel
theorem dX5_readClosing_29 : decode cX5_readClosing 29 = .ok (.isub, 1) := by decide +kernel
theorem dX5_readClosing_30 : decode cX5_readClosing 30 = .ok (.putfield 47, 3) := by decide +kernel
theorem dX5_readClosing_33 : decode cX5_readClosing 33 = .ok (.aload_n 0, 1) := by decide +kernel
theorem dX5_readClosing_34 : decode cX5_readClosing 34 = .ok (.dup, 1) := by decide +kernel
theorem dX5_readClosing_35 : decode cX5_readClosing 35 = .ok (.getfield 50, 3) := by decide +kernel
theorem dX5_readClosing_38 : decode cX5_readClosing 38 = .ok (.iconst 1, 1) := by decide +kernel
theorem dX5_readClosing_39 : decode cX5_readClosing 39 = .ok (.isub, 1) := by decide +kernel
theorem dX5_readClosing_40 : decode cX5_readClosing 40 = .ok (.putfield 50, 3) := by decide +kernel
theorem dX5_readClosing_43 : decode cX5_readClosing 43 = .ok (.aload_n 0, 1) := by decide +kernel
theorem dX5_readClosing_44 : decode cX5_readClosing 44 = .ok (.dup, 1) := by decide +kernel
theorem dX5_readClosing_45 : decode cX5_readClosing 45 = .ok (.getfield 19, 3) := by decide +kernel
theorem dX5_readClosing_48 : decode cX5_readClosing 48 = .ok (.iconst 1, 1) := by decide +kernel
theorem dX5_readClosing_49 : decode cX5_readClosing 49 = .ok (.iadd, 1) := by decide +kernel
theorem dX5_readClosing_50 : decode cX5_readClosing 50 = .ok (.putfield 19, 3) := by decide +kernel
theorem dX5_readClosing_53 : decode cX5_readClosing 53 = .ok (.aload_n 0, 1) := by decide +kernel
theorem dX5_readClosing_54 : decode cX5_readClosing 54 = .ok (.invokevirtual 149, 3) := by decide +kernel
theorem dX5_readClosing_57 : decode cX5_readClosing 57 = .ok (.iconst 1, 1) := by decide +kernel
theorem dX5_readClosing_58 : decode cX5_readClosing 58 = .ok (.ireturn, 1) := by decide +kernel
theorem dX5_putOutSigns_0 : decode cX5_putOutSigns 0 = .ok (.aload_n 0, 1) := by decide +kernel
theorem dX5_putOutSigns_1 : decode cX5_putOutSigns 1 = .ok (.getfield 47, 3) := by decide +kernel
theorem dX5_putOutSigns_4 : decode cX5_putOutSigns 4 = .ok (.ifCond .le 36, 3) := by decide +kernel
theorem dX5_putOutSigns_7 : decode cX5_putOutSigns 7 = .ok (.aload_n 0, 1) := by decide +kernel
theorem dX5_putOutSigns_8 : decode cX5_putOutSigns 8 = .ok (.invokevirtual 152, 3) := by decide +kernel
theorem dX5_putOutSigns_11 : decode cX5_putOutSigns 11 = .ok (.invokestatic 158, 3) := by decide +kernel
theorem dX5_putOutSigns_14 : decode cX5_putOutSigns 14 = .ok (.iload_n 1, 1) := by decide +kernel
theorem dX5_putOutSigns_15 : decode cX5_putOutSigns 15 = .ok (.if_icmp .lt 25, 3) := by decide +kernel
theorem dX5_putOutSigns_18 : decode cX5_putOutSigns 18 = .ok (.aload_n 0, 1) := by decide +kernel
theorem dX5_putOutSigns_19 : decode cX5_putOutSigns 19 = .ok (.aload_n 0, 1) := by decide +kernel
theorem dX5_putOutSigns_20 : decode cX5_putOutSigns 20 = .ok (.invokevirtual 152, 3) := by decide +kernel
theorem dX5_putOutSigns_23 : decode cX5_putOutSigns 23 = .ok (.ineg, 1) := by decide +kernel
theorem dX5_putOutSigns_24 : decode cX5_putOutSigns 24 = .ok (.invokevirtual 146, 3) := by decide +kernel
theorem dX5_putOutSigns_27 : decode cX5_putOutSigns 27 = .ok (.aload_n 0, 1) := by decide +kernel
theorem dX5_putOutSigns_28 : decode cX5_putOutSigns 28 = .ok (.dup, 1) := by decide +kernel
theorem dX5_putOutSigns_29 : decode cX5_putOutSigns 29 = .ok (.getfield 47, 3) := by decide +kernel
theorem dX5_putOutSigns_32 : decode cX5_putOutSigns 32 = .ok (.iconst 1, 1) := by decide +kernel
theorem dX5_putOutSigns_33 : decode cX5_putOutSigns 33 = .ok (.isub, 1) := by decide +kernel
theorem dX5_putOutSigns_34 : decode cX5_putOutSigns 34 = .ok (.putfield 47, 3) := by decide +kernel
theorem dX5_putOutSigns_37 : decode cX5_putOutSigns 37 = .ok (.goto (-37), 3) := by decide +kernel
theorem dX5_putOutSigns_40 : decode cX5_putOutSigns 40 = .ok (.return_, 1) := by decide +kernel
theorem dX5_rankOf_0 : decode cX5_rankOf 0 = .ok (.iload_n 0, 1) := by decide +kernel
theorem dX5_rankOf_1 : decode cX5_rankOf 1 = .ok (.lookupswitch 93 #[(38, 85), (42, 91), (43, 89), (45, 89), (47, 91), (60, 87), (61, 87), (62, 87), (124, 83)], 83) := by decide +kernel
theorem dX5_rankOf_84 : decode cX5_rankOf 84 = .ok (.iconst 1, 1) := by decide +kernel
theorem dX5_rankOf_85 : decode cX5_rankOf 85 = .ok (.ireturn, 1) := by decide +kernel
theorem dX5_rankOf_86 : decode cX5_rankOf 86 = .ok (.iconst 2, 1) := by decide +kernel
theorem dX5_rankOf_87 : decode cX5_rankOf 87 = .ok (.ireturn, 1) := by decide +kernel
theorem dX5_rankOf_88 : decode cX5_rankOf 88 = .ok (.iconst 3, 1) := by decide +kernel
theorem dX5_rankOf_89 : decode cX5_rankOf 89 = .ok (.ireturn, 1) := by decide +kernel
theorem dX5_rankOf_90 : decode cX5_rankOf 90 = .ok (.iconst 4, 1) := by decide +kernel
theorem dX5_rankOf_91 : decode cX5_rankOf 91 = .ok (.ireturn, 1) := by decide +kernel
theorem dX5_rankOf_92 : decode cX5_rankOf 92 = .ok (.iconst 5, 1) := by decide +kernel
theorem dX5_rankOf_93 : decode cX5_rankOf 93 = .ok (.ireturn, 1) := by decide +kernel
theorem dX5_rankOf_94 : decode cX5_rankOf 94 = .ok (.iconst 0, 1) := by decide +kernel
theorem dX5_rankOf_95 : decode cX5_rankOf 95 = .ok (.ireturn, 1) := by decide +kernel
theorem dX10_init_0 : decode cX10_init 0 = .ok (.aload_n 0, 1) := by decide +kernel
theorem dX10_init_1 : decode cX10_init 1 = .ok (.invokespecial 3, 3) := by decide +kernel
theorem dX10_init_4 : decode cX10_init 4 = .ok (.aload_n 0, 1) := by decide +kernel
theorem dX10_init_5 : decode cX10_init 5 = .ok (.bipush 8, 2) := by decide +kernel
theorem dX10_init_7 : decode cX10_init 7 = .ok (.newarray .int, 2) := by decide +kernel
theorem dX10_init_9 : decode cX10_init 9 = .ok (.putfield 9, 3) := by decide +kernel
theorem dX10_init_12 : decode cX10_init 12 = .ok (.aload_n 0, 1) := by decide +kernel
theorem dX10_init_13 : decode cX10_init 13 = .ok (.bipush 8, 2) := by decide +kernel
theorem dX10_init_15 : decode cX10_init 15 = .ok (.newarray .int, 2) := by decide +kernel
theorem dX10_init_17 : decode cX10_init 17 = .ok (.putfield 15, 3) := by decide +kernel
theorem dX10_init_20 : decode cX10_init 20 = .ok (.aload_n 0, 1) := by decide +kernel
theorem dX10_init_21 : decode cX10_init 21 = .ok (.bipush 10, 2) := by decide +kernel
theorem dX10_init_23 : decode cX10_init 23 = .ok (.newarray .int, 2) := by decide +kernel
theorem dX10_init_25 : decode cX10_init 25 = .ok (.putfield 18, 3) := by decide +kernel
theorem dX10_init_28 : decode cX10_init 28 = .ok (.aload_n 0, 1) := by decide +kernel
theorem dX10_init_29 : decode cX10_init 29 = .ok (.aload_n 1, 1) := by decide +kernel
theorem dX10_init_30 : decode cX10_init 30 = .ok (.putfield 21, 3) := by decide +kernel
theorem dX10_init_33 : decode cX10_init 33 = .ok (.return_, 1) := by decide +kernel
theorem dX10_look_0 : decode cX10_look 0 = .ok (.aload_n 0, 1) := by decide +kernel
theorem dX10_look_1 : decode cX10_look 1 = .ok (.aload_n 1, 1) := by decide +kernel
theorem dX10_look_2 : decode cX10_look 2 = .ok (.putfield 21, 3) := by decide +kernel
theorem dX10_look_5 : decode cX10_look 5 = .ok (.iconst 0, 1) := by decide +kernel
theorem dX10_look_6 : decode cX10_look 6 = .ok (.istore_n 2, 1) := by decide +kernel
theorem dX10_look_7 : decode cX10_look 7 = .ok (.iload_n 2, 1) := by decide +kernel
theorem dX10_look_8 : decode cX10_look 8 = .ok (.aload_n 1, 1) := by decide +kernel
theorem dX10_look_9 : decode cX10_look 9 = .ok (.getfield 25, 3) := by decide +kernel
theorem dX10_look_12 : decode cX10_look 12 = .ok (.if_icmp .ge 20, 3) := by decide +kernel
theorem dX10_look_15 : decode cX10_look 15 = .ok (.aload_n 0, 1) := by decide +kernel
theorem dX10_look_16 : decode cX10_look 16 = .ok (.getfield 9, 3) := by decide +kernel
theorem dX10_look_19 : decode cX10_look 19 = .ok (.iload_n 2, 1) := by decide +kernel
theorem dX10_look_20 : decode cX10_look 20 = .ok (.aload_n 1, 1) := by decide +kernel
theorem dX10_look_21 : decode cX10_look 21 = .ok (.iload_n 2, 1) := by decide +kernel
