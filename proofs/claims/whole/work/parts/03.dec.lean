theorem dX0_init_0 : decode cX0_init 0 = .ok (.aload_n 0, 1) := by decide +kernel
theorem dX0_init_1 : decode cX0_init 1 = .ok (.invokespecial 1, 3) := by decide +kernel
theorem dX0_init_4 : decode cX0_init 4 = .ok (.return_, 1) := by decide +kernel
theorem dX0_pulls_0 : decode cX0_pulls 0 = .ok (.aload_n 0, 1) := by decide +kernel
theorem dX0_pulls_1 : decode cX0_pulls 1 = .ok (.aload_n 1, 1) := by decide +kernel
theorem dX0_pulls_2 : decode cX0_pulls 2 = .ok (.iload_n 2, 1) := by decide +kernel
theorem dX0_pulls_3 : decode cX0_pulls 3 = .ok (.iload_n 3, 1) := by decide +kernel
theorem dX0_pulls_4 : decode cX0_pulls 4 = .ok (.invokespecial 7, 3) := by decide +kernel
theorem dX0_pulls_7 : decode cX0_pulls 7 = .ok (.istore 4, 2) := by decide +kernel
theorem dX0_pulls_9 : decode cX0_pulls 9 = .ok (.iload_n 3, 1) := by decide +kernel
theorem dX0_pulls_10 : decode cX0_pulls 10 = .ok (.aload_n 1, 1) := by decide +kernel
theorem dX0_pulls_11 : decode cX0_pulls 11 = .ok (.getfield 11, 3) := by decide +kernel
theorem dX0_pulls_14 : decode cX0_pulls 14 = .ok (.iload_n 2, 1) := by decide +kernel
theorem dX0_pulls_15 : decode cX0_pulls 15 = .ok (.iaload, 1) := by decide +kernel
theorem dX0_pulls_16 : decode cX0_pulls 16 = .ok (.iadd, 1) := by decide +kernel
theorem dX0_pulls_17 : decode cX0_pulls 17 = .ok (.iconst 3, 1) := by decide +kernel
theorem dX0_pulls_18 : decode cX0_pulls 18 = .ok (.irem, 1) := by decide +kernel
theorem dX0_pulls_19 : decode cX0_pulls 19 = .ok (.ifCond .ne 8, 3) := by decide +kernel
theorem dX0_pulls_22 : decode cX0_pulls 22 = .ok (.iload 4, 2) := by decide +kernel
theorem dX0_pulls_24 : decode cX0_pulls 24 = .ok (.goto 7, 3) := by decide +kernel
theorem dX0_pulls_27 : decode cX0_pulls 27 = .ok (.iload 4, 2) := by decide +kernel
theorem dX0_pulls_29 : decode cX0_pulls 29 = .ok (.iconst 2, 1) := by decide +kernel
theorem dX0_pulls_30 : decode cX0_pulls 30 = .ok (.idiv, 1) := by decide +kernel
theorem dX0_pulls_31 : decode cX0_pulls 31 = .ok (.ireturn, 1) := by decide +kernel
theorem dX0_tells_0 : decode cX0_tells 0 = .ok (.aload_n 1, 1) := by decide +kernel
theorem dX0_tells_1 : decode cX0_tells 1 = .ok (.bipush 40, 2) := by decide +kernel
theorem dX0_tells_3 : decode cX0_tells 3 = .ok (.invokevirtual 17, 3) := by decide +kernel
theorem dX0_tells_6 : decode cX0_tells 6 = .ok (.aload_n 0, 1) := by decide +kernel
theorem dX0_tells_7 : decode cX0_tells 7 = .ok (.aload_n 1, 1) := by decide +kernel
theorem dX0_tells_8 : decode cX0_tells 8 = .ok (.iload_n 2, 1) := by decide +kernel
theorem dX0_tells_9 : decode cX0_tells 9 = .ok (.invokespecial 23, 3) := by decide +kernel
theorem dX0_tells_12 : decode cX0_tells 12 = .ok (.aload_n 0, 1) := by decide +kernel
theorem dX0_tells_13 : decode cX0_tells 13 = .ok (.aload_n 1, 1) := by decide +kernel
theorem dX0_tells_14 : decode cX0_tells 14 = .ok (.iconst 1, 1) := by decide +kernel
theorem dX0_tells_15 : decode cX0_tells 15 = .ok (.invokevirtual 27, 3) := by decide +kernel
theorem dX0_tells_18 : decode cX0_tells 18 = .ok (.iadd, 1) := by decide +kernel
theorem dX0_tells_19 : decode cX0_tells 19 = .ok (.ireturn, 1) := by decide +kernel
theorem dX1_init_0 : decode cX1_init 0 = .ok (.aload_n 0, 1) := by decide +kernel
theorem dX1_init_1 : decode cX1_init 1 = .ok (.invokespecial 1, 3) := by decide +kernel
theorem dX1_init_4 : decode cX1_init 4 = .ok (.aload_n 0, 1) := by decide +kernel
theorem dX1_init_5 : decode cX1_init 5 = .ok (.bipush 20, 2) := by decide +kernel
theorem dX1_init_7 : decode cX1_init 7 = .ok (.newarray .int, 2) := by decide +kernel
theorem dX1_init_9 : decode cX1_init 9 = .ok (.putfield 9, 3) := by decide +kernel
theorem dX1_init_12 : decode cX1_init 12 = .ok (.return_, 1) := by decide +kernel
theorem dX1_begin_0 : decode cX1_begin 0 = .ok (.aload_n 0, 1) := by decide +kernel
theorem dX1_begin_1 : decode cX1_begin 1 = .ok (.iconst 0, 1) := by decide +kernel
theorem dX1_begin_2 : decode cX1_begin 2 = .ok (.putfield 13, 3) := by decide +kernel
theorem dX1_begin_5 : decode cX1_begin 5 = .ok (.return_, 1) := by decide +kernel
theorem dX1_runs_0 : decode cX1_runs 0 = .ok (.aload_n 0, 1) := by decide +kernel
theorem dX1_runs_1 : decode cX1_runs 1 = .ok (.getfield 13, 3) := by decide +kernel
theorem dX1_runs_4 : decode cX1_runs 4 = .ok (.bipush 20, 2) := by decide +kernel
theorem dX1_runs_6 : decode cX1_runs 6 = .ok (.if_icmp .ge 13, 3) := by decide +kernel
theorem dX1_runs_9 : decode cX1_runs 9 = .ok (.aload_n 0, 1) := by decide +kernel
theorem dX1_runs_10 : decode cX1_runs 10 = .ok (.getfield 9, 3) := by decide +kernel
theorem dX1_runs_13 : decode cX1_runs 13 = .ok (.aload_n 0, 1) := by decide +kernel
theorem dX1_runs_14 : decode cX1_runs 14 = .ok (.getfield 13, 3) := by decide +kernel
theorem dX1_runs_17 : decode cX1_runs 17 = .ok (.iload_n 1, 1) := by decide +kernel
theorem dX1_runs_18 : decode cX1_runs 18 = .ok (.iastore, 1) := by decide +kernel
theorem dX1_runs_19 : decode cX1_runs 19 = .ok (.aload_n 0, 1) := by decide +kernel
theorem dX1_runs_20 : decode cX1_runs 20 = .ok (.dup, 1) := by decide +kernel
theorem dX1_runs_21 : decode cX1_runs 21 = .ok (.getfield 13, 3) := by decide +kernel
theorem dX1_runs_24 : decode cX1_runs 24 = .ok (.iconst 1, 1) := by decide +kernel
theorem dX1_runs_25 : decode cX1_runs 25 = .ok (.iadd, 1) := by decide +kernel
theorem dX1_runs_26 : decode cX1_runs 26 = .ok (.putfield 13, 3) := by decide +kernel
theorem dX1_runs_29 : decode cX1_runs 29 = .ok (.return_, 1) := by decide +kernel
theorem dX2_init_0 : decode cX2_init 0 = .ok (.aload_n 0, 1) := by decide +kernel
theorem dX2_init_1 : decode cX2_init 1 = .ok (.invokespecial 1, 3) := by decide +kernel
theorem dX2_init_4 : decode cX2_init 4 = .ok (.return_, 1) := by decide +kernel
theorem dX2_pulls_0 : decode cX2_pulls 0 = .ok (.aload_n 0, 1) := by decide +kernel
theorem dX2_pulls_1 : decode cX2_pulls 1 = .ok (.aload_n 1, 1) := by decide +kernel
theorem dX2_pulls_2 : decode cX2_pulls 2 = .ok (.iload_n 2, 1) := by decide +kernel
theorem dX2_pulls_3 : decode cX2_pulls 3 = .ok (.iload_n 3, 1) := by decide +kernel
theorem dX2_pulls_4 : decode cX2_pulls 4 = .ok (.invokespecial 7, 3) := by decide +kernel
theorem dX2_pulls_7 : decode cX2_pulls 7 = .ok (.iconst 0, 1) := by decide +kernel
theorem dX2_pulls_8 : decode cX2_pulls 8 = .ok (.bipush 6, 2) := by decide +kernel
theorem dX2_pulls_10 : decode cX2_pulls 10 = .ok (.iload_n 3, 1) := by decide +kernel
theorem dX2_pulls_11 : decode cX2_pulls 11 = .ok (.isub, 1) := by decide +kernel
theorem dX2_pulls_12 : decode cX2_pulls 12 = .ok (.invokestatic 11, 3) := by decide +kernel
theorem dX2_pulls_15 : decode cX2_pulls 15 = .ok (.iadd, 1) := by decide +kernel
theorem dX2_pulls_16 : decode cX2_pulls 16 = .ok (.ireturn, 1) := by decide +kernel
theorem dX2_swells_0 : decode cX2_swells 0 = .ok (.aload_n 1, 1) := by decide +kernel
theorem dX2_swells_1 : decode cX2_swells 1 = .ok (.bipush 20, 2) := by decide +kernel
theorem dX2_swells_3 : decode cX2_swells 3 = .ok (.invokevirtual 17, 3) := by decide +kernel
theorem dX2_swells_6 : decode cX2_swells 6 = .ok (.aload_n 0, 1) := by decide +kernel
theorem dX2_swells_7 : decode cX2_swells 7 = .ok (.aload_n 1, 1) := by decide +kernel
theorem dX2_swells_8 : decode cX2_swells 8 = .ok (.iload_n 2, 1) := by decide +kernel
theorem dX2_swells_9 : decode cX2_swells 9 = .ok (.invokespecial 23, 3) := by decide +kernel
theorem dX2_swells_12 : decode cX2_swells 12 = .ok (.bipush 6, 2) := by decide +kernel
theorem dX2_swells_14 : decode cX2_swells 14 = .ok (.ixor, 1) := by decide +kernel
theorem dX2_swells_15 : decode cX2_swells 15 = .ok (.ireturn, 1) := by decide +kernel
theorem dX3_init_0 : decode cX3_init 0 = .ok (.aload_n 0, 1) := by decide +kernel
theorem dX3_init_1 : decode cX3_init 1 = .ok (.invokespecial 1, 3) := by decide +kernel
theorem dX3_init_4 : decode cX3_init 4 = .ok (.return_, 1) := by decide +kernel
theorem dX3_pulls_0 : decode cX3_pulls 0 = .ok (.aload_n 1, 1) := by decide +kernel
theorem dX3_pulls_1 : decode cX3_pulls 1 = .ok (.getfield 7, 3) := by decide +kernel
theorem dX3_pulls_4 : decode cX3_pulls 4 = .ok (.iconst 2, 1) := by decide +kernel
theorem dX3_pulls_5 : decode cX3_pulls 5 = .ok (.irem, 1) := by decide +kernel
theorem dX3_pulls_6 : decode cX3_pulls 6 = .ok (.ifCond .eq 7, 3) := by decide +kernel
theorem dX3_pulls_9 : decode cX3_pulls 9 = .ok (.iconst 0, 1) := by decide +kernel
theorem dX3_pulls_10 : decode cX3_pulls 10 = .ok (.goto 10, 3) := by decide +kernel
theorem dX3_pulls_13 : decode cX3_pulls 13 = .ok (.aload_n 0, 1) := by decide +kernel
theorem dX3_pulls_14 : decode cX3_pulls 14 = .ok (.aload_n 1, 1) := by decide +kernel
theorem dX3_pulls_15 : decode cX3_pulls 15 = .ok (.iload_n 2, 1) := by decide +kernel
theorem dX3_pulls_16 : decode cX3_pulls 16 = .ok (.iload_n 3, 1) := by decide +kernel
theorem dX3_pulls_17 : decode cX3_pulls 17 = .ok (.invokespecial 13, 3) := by decide +kernel
theorem dX3_pulls_20 : decode cX3_pulls 20 = .ok (.ireturn, 1) := by decide +kernel
theorem dX3_tells_0 : decode cX3_tells 0 = .ok (.aload_n 1, 1) := by decide +kernel
theorem dX3_tells_1 : decode cX3_tells 1 = .ok (.bipush 60, 2) := by decide +kernel
theorem dX3_tells_3 : decode cX3_tells 3 = .ok (.invokevirtual 17, 3) := by decide +kernel
theorem dX3_tells_6 : decode cX3_tells 6 = .ok (.aload_n 0, 1) := by decide +kernel
theorem dX3_tells_7 : decode cX3_tells 7 = .ok (.aload_n 1, 1) := by decide +kernel
theorem dX3_tells_8 : decode cX3_tells 8 = .ok (.iload_n 2, 1) := by decide +kernel
theorem dX3_tells_9 : decode cX3_tells 9 = .ok (.aload_n 1, 1) := by decide +kernel
theorem dX3_tells_10 : decode cX3_tells 10 = .ok (.getfield 23, 3) := by decide +kernel
theorem dX3_tells_13 : decode cX3_tells 13 = .ok (.isub, 1) := by decide +kernel
theorem dX3_tells_14 : decode cX3_tells 14 = .ok (.invokespecial 26, 3) := by decide +kernel
theorem dX3_tells_17 : decode cX3_tells 17 = .ok (.ireturn, 1) := by decide +kernel
theorem dX4_init_0 : decode cX4_init 0 = .ok (.aload_n 0, 1) := by decide +kernel
theorem dX4_init_1 : decode cX4_init 1 = .ok (.invokespecial 1, 3) := by decide +kernel
theorem dX4_init_4 : decode cX4_init 4 = .ok (.return_, 1) := by decide +kernel
theorem dX4_pulls_0 : decode cX4_pulls 0 = .ok (.aload_n 0, 1) := by decide +kernel
theorem dX4_pulls_1 : decode cX4_pulls 1 = .ok (.aload_n 1, 1) := by decide +kernel
theorem dX4_pulls_2 : decode cX4_pulls 2 = .ok (.iload_n 2, 1) := by decide +kernel
theorem dX4_pulls_3 : decode cX4_pulls 3 = .ok (.iload_n 3, 1) := by decide +kernel
theorem dX4_pulls_4 : decode cX4_pulls 4 = .ok (.invokespecial 7, 3) := by decide +kernel
theorem dX4_pulls_7 : decode cX4_pulls 7 = .ok (.iconst 0, 1) := by decide +kernel
theorem dX4_pulls_8 : decode cX4_pulls 8 = .ok (.iload_n 3, 1) := by decide +kernel
theorem dX4_pulls_9 : decode cX4_pulls 9 = .ok (.iconst 5, 1) := by decide +kernel
theorem dX4_pulls_10 : decode cX4_pulls 10 = .ok (.isub, 1) := by decide +kernel
theorem dX4_pulls_11 : decode cX4_pulls 11 = .ok (.invokestatic 11, 3) := by decide +kernel
theorem dX4_pulls_14 : decode cX4_pulls 14 = .ok (.iadd, 1) := by decide +kernel
theorem dX4_pulls_15 : decode cX4_pulls 15 = .ok (.ireturn, 1) := by decide +kernel
theorem dX4_warms_0 : decode cX4_warms 0 = .ok (.aload_n 1, 1) := by decide +kernel
theorem dX4_warms_1 : decode cX4_warms 1 = .ok (.bipush 30, 2) := by decide +kernel
theorem dX4_warms_3 : decode cX4_warms 3 = .ok (.invokevirtual 17, 3) := by decide +kernel
theorem dX4_warms_6 : decode cX4_warms 6 = .ok (.aload_n 0, 1) := by decide +kernel
theorem dX4_warms_7 : decode cX4_warms 7 = .ok (.aload_n 1, 1) := by decide +kernel
theorem dX4_warms_8 : decode cX4_warms 8 = .ok (.iload_n 2, 1) := by decide +kernel
theorem dX4_warms_9 : decode cX4_warms 9 = .ok (.iconst 3, 1) := by decide +kernel
theorem dX4_warms_10 : decode cX4_warms 10 = .ok (.imul, 1) := by decide +kernel
theorem dX4_warms_11 : decode cX4_warms 11 = .ok (.invokespecial 23, 3) := by decide +kernel
theorem dX4_warms_14 : decode cX4_warms 14 = .ok (.ireturn, 1) := by decide +kernel
theorem dX5_init_0 : decode cX5_init 0 = .ok (.aload_n 0, 1) := by decide +kernel
theorem dX5_init_1 : decode cX5_init 1 = .ok (.invokespecial 1, 3) := by decide +kernel
theorem dX5_init_4 : decode cX5_init 4 = .ok (.return_, 1) := by decide +kernel
theorem dX5_pulls_0 : decode cX5_pulls 0 = .ok (.aload_n 1, 1) := by decide +kernel
theorem dX5_pulls_1 : decode cX5_pulls 1 = .ok (.getfield 7, 3) := by decide +kernel
theorem dX5_pulls_4 : decode cX5_pulls 4 = .ok (.iload_n 2, 1) := by decide +kernel
theorem dX5_pulls_5 : decode cX5_pulls 5 = .ok (.aaload, 1) := by decide +kernel
theorem dX5_pulls_6 : decode cX5_pulls 6 = .ok (.iload_n 3, 1) := by decide +kernel
theorem dX5_pulls_7 : decode cX5_pulls 7 = .ok (.iaload, 1) := by decide +kernel
theorem dX5_pulls_8 : decode cX5_pulls 8 = .ok (.ireturn, 1) := by decide +kernel
theorem dX5_warms_0 : decode cX5_warms 0 = .ok (.aload_n 1, 1) := by decide +kernel
theorem dX5_warms_1 : decode cX5_warms 1 = .ok (.bipush 10, 2) := by decide +kernel
theorem dX5_warms_3 : decode cX5_warms 3 = .ok (.invokevirtual 13, 3) := by decide +kernel
theorem dX5_warms_6 : decode cX5_warms 6 = .ok (.iload_n 2, 1) := by decide +kernel
theorem dX5_warms_7 : decode cX5_warms 7 = .ok (.aload_n 1, 1) := by decide +kernel
theorem dX5_warms_8 : decode cX5_warms 8 = .ok (.getfield 19, 3) := by decide +kernel
theorem dX5_warms_11 : decode cX5_warms 11 = .ok (.iadd, 1) := by decide +kernel
theorem dX5_warms_12 : decode cX5_warms 12 = .ok (.ireturn, 1) := by decide +kernel
theorem dX5_swells_0 : decode cX5_swells 0 = .ok (.aload_n 1, 1) := by decide +kernel
theorem dX5_swells_1 : decode cX5_swells 1 = .ok (.bipush 11, 2) := by decide +kernel
theorem dX5_swells_3 : decode cX5_swells 3 = .ok (.invokevirtual 13, 3) := by decide +kernel
theorem dX5_swells_6 : decode cX5_swells 6 = .ok (.aload_n 0, 1) := by decide +kernel
theorem dX5_swells_7 : decode cX5_swells 7 = .ok (.aload_n 1, 1) := by decide +kernel
theorem dX5_swells_8 : decode cX5_swells 8 = .ok (.iload_n 2, 1) := by decide +kernel
theorem dX5_swells_9 : decode cX5_swells 9 = .ok (.invokevirtual 23, 3) := by decide +kernel
theorem dX5_swells_12 : decode cX5_swells 12 = .ok (.aload_n 1, 1) := by decide +kernel
theorem dX5_swells_13 : decode cX5_swells 13 = .ok (.getfield 29, 3) := by decide +kernel
theorem dX5_swells_16 : decode cX5_swells 16 = .ok (.isub, 1) := by decide +kernel
theorem dX5_swells_17 : decode cX5_swells 17 = .ok (.ireturn, 1) := by decide +kernel
theorem dX5_tells_0 : decode cX5_tells 0 = .ok (.aload_n 1, 1) := by decide +kernel
theorem dX5_tells_1 : decode cX5_tells 1 = .ok (.bipush 12, 2) := by decide +kernel
theorem dX5_tells_3 : decode cX5_tells 3 = .ok (.invokevirtual 13, 3) := by decide +kernel
theorem dX5_tells_6 : decode cX5_tells 6 = .ok (.aload_n 0, 1) := by decide +kernel
theorem dX5_tells_7 : decode cX5_tells 7 = .ok (.aload_n 1, 1) := by decide +kernel
theorem dX5_tells_8 : decode cX5_tells 8 = .ok (.iload_n 2, 1) := by decide +kernel
theorem dX5_tells_9 : decode cX5_tells 9 = .ok (.invokevirtual 32, 3) := by decide +kernel
theorem dX5_tells_12 : decode cX5_tells 12 = .ok (.iconst 2, 1) := by decide +kernel
theorem dX5_tells_13 : decode cX5_tells 13 = .ok (.imul, 1) := by decide +kernel
theorem dX5_tells_14 : decode cX5_tells 14 = .ok (.ireturn, 1) := by decide +kernel
theorem dX6_init_0 : decode cX6_init 0 = .ok (.aload_n 0, 1) := by decide +kernel
theorem dX6_init_1 : decode cX6_init 1 = .ok (.invokespecial 3, 3) := by decide +kernel
theorem dX6_init_4 : decode cX6_init 4 = .ok (.aload_n 0, 1) := by decide +kernel
theorem dX6_init_5 : decode cX6_init 5 = .ok (.iload_n 1, 1) := by decide +kernel
theorem dX6_init_6 : decode cX6_init 6 = .ok (.newarray .int, 2) := by decide +kernel
theorem dX6_init_8 : decode cX6_init 8 = .ok (.putfield 9, 3) := by decide +kernel
theorem dX6_init_11 : decode cX6_init 11 = .ok (.aload_n 0, 1) := by decide +kernel
theorem dX6_init_12 : decode cX6_init 12 = .ok (.iload_n 1, 1) := by decide +kernel
theorem dX6_init_13 : decode cX6_init 13 = .ok (.newarray .int, 2) := by decide +kernel
theorem dX6_init_15 : decode cX6_init 15 = .ok (.putfield 15, 3) := by decide +kernel
theorem dX6_init_18 : decode cX6_init 18 = .ok (.return_, 1) := by decide +kernel
theorem dX6_empty_0 : decode cX6_empty 0 = .ok (.aload_n 0, 1) := by decide +kernel
theorem dX6_empty_1 : decode cX6_empty 1 = .ok (.iconst 0, 1) := by decide +kernel
theorem dX6_empty_2 : decode cX6_empty 2 = .ok (.putfield 18, 3) := by decide +kernel
theorem dX6_empty_5 : decode cX6_empty 5 = .ok (.iconst 0, 1) := by decide +kernel
theorem dX6_empty_6 : decode cX6_empty 6 = .ok (.ireturn, 1) := by decide +kernel
theorem dX6_add_0 : decode cX6_add 0 = .ok (.aload_n 0, 1) := by decide +kernel
theorem dX6_add_1 : decode cX6_add 1 = .ok (.getfield 18, 3) := by decide +kernel
theorem dX6_add_4 : decode cX6_add 4 = .ok (.aload_n 0, 1) := by decide +kernel
theorem dX6_add_5 : decode cX6_add 5 = .ok (.getfield 9, 3) := by decide +kernel
theorem dX6_add_8 : decode cX6_add 8 = .ok (.arraylength, 1) := by decide +kernel
theorem dX6_add_9 : decode cX6_add 9 = .ok (.if_icmp .lt 6, 3) := by decide +kernel
theorem dX6_add_12 : decode cX6_add 12 = .ok (.bipush (-4), 2) := by decide +kernel
theorem dX6_add_14 : decode cX6_add 14 = .ok (.ireturn, 1) := by decide +kernel
theorem dX6_add_15 : decode cX6_add 15 = .ok (.aload_n 0, 1) := by decide +kernel
theorem dX6_add_16 : decode cX6_add 16 = .ok (.getfield 9, 3) := by decide +kernel
theorem dX6_add_19 : decode cX6_add 19 = .ok (.aload_n 0, 1) := by decide +kernel
theorem dX6_add_20 : decode cX6_add 20 = .ok (.getfield 18, 3) := by decide +kernel
theorem dX6_add_23 : decode cX6_add 23 = .ok (.iload_n 1, 1) := by decide +kernel
theorem dX6_add_24 : decode cX6_add 24 = .ok (.iastore, 1) := by decide +kernel
theorem dX6_add_25 : decode cX6_add 25 = .ok (.aload_n 0, 1) := by decide +kernel
theorem dX6_add_26 : decode cX6_add 26 = .ok (.getfield 15, 3) := by decide +kernel
theorem dX6_add_29 : decode cX6_add 29 = .ok (.aload_n 0, 1) := by decide +kernel
theorem dX6_add_30 : decode cX6_add 30 = .ok (.getfield 18, 3) := by decide +kernel
theorem dX6_add_33 : decode cX6_add 33 = .ok (.iload_n 2, 1) := by decide +kernel
theorem dX6_add_34 : decode cX6_add 34 = .ok (.iastore, 1) := by decide +kernel
theorem dX6_add_35 : decode cX6_add 35 = .ok (.aload_n 0, 1) := by decide +kernel
theorem dX6_add_36 : decode cX6_add 36 = .ok (.dup, 1) := by decide +kernel
theorem dX6_add_37 : decode cX6_add 37 = .ok (.getfield 18, 3) := by decide +kernel
theorem dX6_add_40 : decode cX6_add 40 = .ok (.iconst 1, 1) := by decide +kernel
theorem dX6_add_41 : decode cX6_add 41 = .ok (.iadd, 1) := by decide +kernel
theorem dX6_add_42 : decode cX6_add 42 = .ok (.putfield 18, 3) := by decide +kernel
theorem dX6_add_45 : decode cX6_add 45 = .ok (.aload_n 0, 1) := by decide +kernel
theorem dX6_add_46 : decode cX6_add 46 = .ok (.getfield 18, 3) := by decide +kernel
theorem dX6_add_49 : decode cX6_add 49 = .ok (.ireturn, 1) := by decide +kernel
theorem dX6_firstOther_0 : decode cX6_firstOther 0 = .ok (.iconst 0, 1) := by decide +kernel
theorem dX6_firstOther_1 : decode cX6_firstOther 1 = .ok (.istore_n 2, 1) := by decide +kernel
theorem dX6_firstOther_2 : decode cX6_firstOther 2 = .ok (.iload_n 2, 1) := by decide +kernel
theorem dX6_firstOther_3 : decode cX6_firstOther 3 = .ok (.aload_n 0, 1) := by decide +kernel
theorem dX6_firstOther_4 : decode cX6_firstOther 4 = .ok (.getfield 18, 3) := by decide +kernel
theorem dX6_firstOther_7 : decode cX6_firstOther 7 = .ok (.if_icmp .ge 28, 3) := by decide +kernel
theorem dX6_firstOther_10 : decode cX6_firstOther 10 = .ok (.aload_n 1, 1) := by decide +kernel
theorem dX6_firstOther_11 : decode cX6_firstOther 11 = .ok (.aload_n 0, 1) := by decide +kernel
theorem dX6_firstOther_12 : decode cX6_firstOther 12 = .ok (.getfield 9, 3) := by decide +kernel
theorem dX6_firstOther_15 : decode cX6_firstOther 15 = .ok (.iload_n 2, 1) := by decide +kernel
theorem dX6_firstOther_16 : decode cX6_firstOther 16 = .ok (.iaload, 1) := by decide +kernel
theorem dX6_firstOther_17 : decode cX6_firstOther 17 = .ok (.iaload, 1) := by decide +kernel
theorem dX6_firstOther_18 : decode cX6_firstOther 18 = .ok (.aload_n 0, 1) := by decide +kernel
theorem dX6_firstOther_19 : decode cX6_firstOther 19 = .ok (.getfield 15, 3) := by decide +kernel
theorem dX6_firstOther_22 : decode cX6_firstOther 22 = .ok (.iload_n 2, 1) := by decide +kernel
theorem dX6_firstOther_23 : decode cX6_firstOther 23 = .ok (.iaload, 1) := by decide +kernel
theorem dX6_firstOther_24 : decode cX6_firstOther 24 = .ok (.if_icmp .eq 5, 3) := by decide +kernel
theorem dX6_firstOther_27 : decode cX6_firstOther 27 = .ok (.iload_n 2, 1) := by decide +kernel
theorem dX6_firstOther_28 : decode cX6_firstOther 28 = .ok (.ireturn, 1) := by decide +kernel
theorem dX6_firstOther_29 : decode cX6_firstOther 29 = .ok (.iinc 2 1, 3) := by decide +kernel
theorem dX6_firstOther_32 : decode cX6_firstOther 32 = .ok (.goto (-30), 3) := by decide +kernel
theorem dX6_firstOther_35 : decode cX6_firstOther 35 = .ok (.bipush (-5), 2) := by decide +kernel
theorem dX6_firstOther_37 : decode cX6_firstOther 37 = .ok (.ireturn, 1) := by decide +kernel
theorem dX6_takeAll_0 : decode cX6_takeAll 0 = .ok (.aload_n 0, 1) := by decide +kernel
theorem dX6_takeAll_1 : decode cX6_takeAll 1 = .ok (.aload_n 1, 1) := by decide +kernel
theorem dX6_takeAll_2 : decode cX6_takeAll 2 = .ok (.getfield 18, 3) := by decide +kernel
theorem dX6_takeAll_5 : decode cX6_takeAll 5 = .ok (.putfield 18, 3) := by decide +kernel
theorem dX6_takeAll_8 : decode cX6_takeAll 8 = .ok (.aload_n 1, 1) := by decide +kernel
theorem dX6_takeAll_9 : decode cX6_takeAll 9 = .ok (.getfield 9, 3) := by decide +kernel
theorem dX6_takeAll_12 : decode cX6_takeAll 12 = .ok (.iconst 0, 1) := by decide +kernel
theorem dX6_takeAll_13 : decode cX6_takeAll 13 = .ok (.aload_n 0, 1) := by decide +kernel
theorem dX6_takeAll_14 : decode cX6_takeAll 14 = .ok (.getfield 9, 3) := by decide +kernel
theorem dX6_takeAll_17 : decode cX6_takeAll 17 = .ok (.iconst 0, 1) := by decide +kernel
theorem dX6_takeAll_18 : decode cX6_takeAll 18 = .ok (.aload_n 0, 1) := by decide +kernel
theorem dX6_takeAll_19 : decode cX6_takeAll 19 = .ok (.getfield 18, 3) := by decide +kernel
theorem dX6_takeAll_22 : decode cX6_takeAll 22 = .ok (.invokestatic 22, 3) := by decide +kernel
theorem dX6_takeAll_25 : decode cX6_takeAll 25 = .ok (.aload_n 1, 1) := by decide +kernel
theorem dX6_takeAll_26 : decode cX6_takeAll 26 = .ok (.getfield 15, 3) := by decide +kernel
theorem dX6_takeAll_29 : decode cX6_takeAll 29 = .ok (.iconst 0, 1) := by decide +kernel
theorem dX6_takeAll_30 : decode cX6_takeAll 30 = .ok (.aload_n 0, 1) := by decide +kernel
theorem dX6_takeAll_31 : decode cX6_takeAll 31 = .ok (.getfield 15, 3) := by decide +kernel
theorem dX6_takeAll_34 : decode cX6_takeAll 34 = .ok (.iconst 0, 1) := by decide +kernel
theorem dX6_takeAll_35 : decode cX6_takeAll 35 = .ok (.aload_n 0, 1) := by decide +kernel
theorem dX6_takeAll_36 : decode cX6_takeAll 36 = .ok (.getfield 18, 3) := by decide +kernel
theorem dX6_takeAll_39 : decode cX6_takeAll 39 = .ok (.invokestatic 22, 3) := by decide +kernel
theorem dX6_takeAll_42 : decode cX6_takeAll 42 = .ok (.return_, 1) := by decide +kernel
theorem dX7_init_0 : decode cX7_init 0 = .ok (.aload_n 0, 1) := by decide +kernel
theorem dX7_init_1 : decode cX7_init 1 = .ok (.invokespecial 1, 3) := by decide +kernel
theorem dX7_init_4 : decode cX7_init 4 = .ok (.return_, 1) := by decide +kernel
theorem dX7_pulls_0 : decode cX7_pulls 0 = .ok (.aload_n 0, 1) := by decide +kernel
theorem dX7_pulls_1 : decode cX7_pulls 1 = .ok (.aload_n 1, 1) := by decide +kernel
theorem dX7_pulls_2 : decode cX7_pulls 2 = .ok (.iload_n 2, 1) := by decide +kernel
theorem dX7_pulls_3 : decode cX7_pulls 3 = .ok (.iload_n 3, 1) := by decide +kernel
theorem dX7_pulls_4 : decode cX7_pulls 4 = .ok (.invokespecial 7, 3) := by decide +kernel
theorem dX7_pulls_7 : decode cX7_pulls 7 = .ok (.aload_n 1, 1) := by decide +kernel
theorem dX7_pulls_8 : decode cX7_pulls 8 = .ok (.getfield 11, 3) := by decide +kernel
theorem dX7_pulls_11 : decode cX7_pulls 11 = .ok (.iload_n 2, 1) := by decide +kernel
theorem dX7_pulls_12 : decode cX7_pulls 12 = .ok (.aaload, 1) := by decide +kernel
theorem dX7_pulls_13 : decode cX7_pulls 13 = .ok (.iload_n 3, 1) := by decide +kernel
theorem dX7_pulls_14 : decode cX7_pulls 14 = .ok (.iconst 4, 1) := by decide +kernel
theorem dX7_pulls_15 : decode cX7_pulls 15 = .ok (.irem, 1) := by decide +kernel
theorem dX7_pulls_16 : decode cX7_pulls 16 = .ok (.iaload, 1) := by decide +kernel
theorem dX7_pulls_17 : decode cX7_pulls 17 = .ok (.iadd, 1) := by decide +kernel
theorem dX7_pulls_18 : decode cX7_pulls 18 = .ok (.ireturn, 1) := by decide +kernel
theorem dX7_swells_0 : decode cX7_swells 0 = .ok (.aload_n 1, 1) := by decide +kernel
theorem dX7_swells_1 : decode cX7_swells 1 = .ok (.bipush 70, 2) := by decide +kernel
theorem dX7_swells_3 : decode cX7_swells 3 = .ok (.invokevirtual 17, 3) := by decide +kernel
theorem dX7_swells_6 : decode cX7_swells 6 = .ok (.aload_n 0, 1) := by decide +kernel
theorem dX7_swells_7 : decode cX7_swells 7 = .ok (.aload_n 1, 1) := by decide +kernel
theorem dX7_swells_8 : decode cX7_swells 8 = .ok (.iload_n 2, 1) := by decide +kernel
theorem dX7_swells_9 : decode cX7_swells 9 = .ok (.invokespecial 23, 3) := by decide +kernel
theorem dX7_swells_12 : decode cX7_swells 12 = .ok (.aload_n 0, 1) := by decide +kernel
theorem dX7_swells_13 : decode cX7_swells 13 = .ok (.aload_n 1, 1) := by decide +kernel
theorem dX7_swells_14 : decode cX7_swells 14 = .ok (.iconst 2, 1) := by decide +kernel
theorem dX7_swells_15 : decode cX7_swells 15 = .ok (.invokespecial 27, 3) := by decide +kernel
theorem dX7_swells_18 : decode cX7_swells 18 = .ok (.iadd, 1) := by decide +kernel
theorem dX7_swells_19 : decode cX7_swells 19 = .ok (.ireturn, 1) := by decide +kernel
theorem dX7_warms_0 : decode cX7_warms 0 = .ok (.aload_n 1, 1) := by decide +kernel
theorem dX7_warms_1 : decode cX7_warms 1 = .ok (.bipush 71, 2) := by decide +kernel
theorem dX7_warms_3 : decode cX7_warms 3 = .ok (.invokevirtual 17, 3) := by decide +kernel
theorem dX7_warms_6 : decode cX7_warms 6 = .ok (.aload_n 0, 1) := by decide +kernel
theorem dX7_warms_7 : decode cX7_warms 7 = .ok (.aload_n 1, 1) := by decide +kernel
theorem dX7_warms_8 : decode cX7_warms 8 = .ok (.iload_n 2, 1) := by decide +kernel
theorem dX7_warms_9 : decode cX7_warms 9 = .ok (.invokespecial 27, 3) := by decide +kernel
theorem dX7_warms_12 : decode cX7_warms 12 = .ok (.aload_n 1, 1) := by decide +kernel
theorem dX7_warms_13 : decode cX7_warms 13 = .ok (.getfield 30, 3) := by decide +kernel
theorem dX7_warms_16 : decode cX7_warms 16 = .ok (.ixor, 1) := by decide +kernel
theorem dX7_warms_17 : decode cX7_warms 17 = .ok (.ireturn, 1) := by decide +kernel
theorem dX8_init_0 : decode cX8_init 0 = .ok (.aload_n 0, 1) := by decide +kernel
theorem dX8_init_1 : decode cX8_init 1 = .ok (.invokespecial 3, 3) := by decide +kernel
theorem dX8_init_4 : decode cX8_init 4 = .ok (.aload_n 0, 1) := by decide +kernel
theorem dX8_init_5 : decode cX8_init 5 = .ok (.bipush 6, 2) := by decide +kernel
theorem dX8_init_7 : decode cX8_init 7 = .ok (.newarray .int, 2) := by decide +kernel
theorem dX8_init_9 : decode cX8_init 9 = .ok (.putfield 9, 3) := by decide +kernel
theorem dX8_init_12 : decode cX8_init 12 = .ok (.aload_n 0, 1) := by decide +kernel
theorem dX8_init_13 : decode cX8_init 13 = .ok (.bipush 6, 2) := by decide +kernel
theorem dX8_init_15 : decode cX8_init 15 = .ok (.newarray .int, 2) := by decide +kernel
theorem dX8_init_17 : decode cX8_init 17 = .ok (.putfield 15, 3) := by decide +kernel
theorem dX8_init_20 : decode cX8_init 20 = .ok (.aload_n 0, 1) := by decide +kernel
theorem dX8_init_21 : decode cX8_init 21 = .ok (.bipush 6, 2) := by decide +kernel
theorem dX8_init_23 : decode cX8_init 23 = .ok (.newarray .int, 2) := by decide +kernel
theorem dX8_init_25 : decode cX8_init 25 = .ok (.putfield 18, 3) := by decide +kernel
theorem dX8_init_28 : decode cX8_init 28 = .ok (.aload_n 0, 1) := by decide +kernel
theorem dX8_init_29 : decode cX8_init 29 = .ok (.bipush 6, 2) := by decide +kernel
theorem dX8_init_31 : decode cX8_init 31 = .ok (.newarray .int, 2) := by decide +kernel
theorem dX8_init_33 : decode cX8_init 33 = .ok (.putfield 21, 3) := by decide +kernel
theorem dX8_init_36 : decode cX8_init 36 = .ok (.aload_n 0, 1) := by decide +kernel
theorem dX8_init_37 : decode cX8_init 37 = .ok (.bipush 6, 2) := by decide +kernel
theorem dX8_init_39 : decode cX8_init 39 = .ok (.iconst 4, 1) := by decide +kernel
theorem dX8_init_40 : decode cX8_init 40 = .ok (.multianewarray 24 2, 4) := by decide +kernel
theorem dX8_init_44 : decode cX8_init 44 = .ok (.putfield 26, 3) := by decide +kernel
theorem dX8_init_47 : decode cX8_init 47 = .ok (.aload_n 0, 1) := by decide +kernel
theorem dX8_init_48 : decode cX8_init 48 = .ok (.new 29, 3) := by decide +kernel
theorem dX8_init_51 : decode cX8_init 51 = .ok (.dup, 1) := by decide +kernel
theorem dX8_init_52 : decode cX8_init 52 = .ok (.bipush 6, 2) := by decide +kernel
theorem dX8_init_54 : decode cX8_init 54 = .ok (.invokespecial 31, 3) := by decide +kernel
theorem dX8_init_57 : decode cX8_init 57 = .ok (.putfield 34, 3) := by decide +kernel
theorem dX8_init_60 : decode cX8_init 60 = .ok (.aload_n 0, 1) := by decide +kernel
theorem dX8_init_61 : decode cX8_init 61 = .ok (.new 29, 3) := by decide +kernel
theorem dX8_init_64 : decode cX8_init 64 = .ok (.dup, 1) := by decide +kernel
theorem dX8_init_65 : decode cX8_init 65 = .ok (.iconst 5, 1) := by decide +kernel
theorem dX8_init_66 : decode cX8_init 66 = .ok (.invokespecial 31, 3) := by decide +kernel
theorem dX8_init_69 : decode cX8_init 69 = .ok (.putfield 38, 3) := by decide +kernel
theorem dX8_init_72 : decode cX8_init 72 = .ok (.aload_n 0, 1) := by decide +kernel
theorem dX8_init_73 : decode cX8_init 73 = .ok (.new 29, 3) := by decide +kernel
theorem dX8_init_76 : decode cX8_init 76 = .ok (.dup, 1) := by decide +kernel
theorem dX8_init_77 : decode cX8_init 77 = .ok (.bipush 10, 2) := by decide +kernel
theorem dX8_init_79 : decode cX8_init 79 = .ok (.invokespecial 31, 3) := by decide +kernel
theorem dX8_init_82 : decode cX8_init 82 = .ok (.putfield 41, 3) := by decide +kernel
theorem dX8_init_85 : decode cX8_init 85 = .ok (.aload_n 0, 1) := by decide +kernel
theorem dX8_init_86 : decode cX8_init 86 = .ok (.new 29, 3) := by decide +kernel
theorem dX8_init_89 : decode cX8_init 89 = .ok (.dup, 1) := by decide +kernel
theorem dX8_init_90 : decode cX8_init 90 = .ok (.bipush 8, 2) := by decide +kernel
theorem dX8_init_92 : decode cX8_init 92 = .ok (.invokespecial 31, 3) := by decide +kernel
theorem dX8_init_95 : decode cX8_init 95 = .ok (.putfield 44, 3) := by decide +kernel
theorem dX8_init_98 : decode cX8_init 98 = .ok (.aload_n 0, 1) := by decide +kernel
theorem dX8_init_99 : decode cX8_init 99 = .ok (.bipush 6, 2) := by decide +kernel
theorem dX8_init_101 : decode cX8_init 101 = .ok (.bipush 12, 2) := by decide +kernel
theorem dX8_init_103 : decode cX8_init 103 = .ok (.multianewarray 24 2, 4) := by decide +kernel
theorem dX8_init_107 : decode cX8_init 107 = .ok (.putfield 47, 3) := by decide +kernel
theorem dX8_init_110 : decode cX8_init 110 = .ok (.aload_n 0, 1) := by decide +kernel
theorem dX8_init_111 : decode cX8_init 111 = .ok (.bipush 6, 2) := by decide +kernel
theorem dX8_init_113 : decode cX8_init 113 = .ok (.newarray .int, 2) := by decide +kernel
theorem dX8_init_115 : decode cX8_init 115 = .ok (.putfield 50, 3) := by decide +kernel
theorem dX8_init_118 : decode cX8_init 118 = .ok (.aload_n 0, 1) := by decide +kernel
theorem dX8_init_119 : decode cX8_init 119 = .ok (.aload_n 1, 1) := by decide +kernel
theorem dX8_init_120 : decode cX8_init 120 = .ok (.putfield 53, 3) := by decide +kernel
theorem dX8_init_123 : decode cX8_init 123 = .ok (.return_, 1) := by decide +kernel
theorem dX8_has_0 : decode cX8_has 0 = .ok (.iload_n 1, 1) := by decide +kernel
theorem dX8_has_1 : decode cX8_has 1 = .ok (.ifCond .lt 15, 3) := by decide +kernel
theorem dX8_has_4 : decode cX8_has 4 = .ok (.iload_n 1, 1) := by decide +kernel
theorem dX8_has_5 : decode cX8_has 5 = .ok (.aload_n 0, 1) := by decide +kernel
theorem dX8_has_6 : decode cX8_has 6 = .ok (.getfield 57, 3) := by decide +kernel
theorem dX8_has_9 : decode cX8_has 9 = .ok (.if_icmp .ge 7, 3) := by decide +kernel
theorem dX8_has_12 : decode cX8_has 12 = .ok (.iconst 1, 1) := by decide +kernel
theorem dX8_has_13 : decode cX8_has 13 = .ok (.goto 4, 3) := by decide +kernel
theorem dX8_has_16 : decode cX8_has 16 = .ok (.iconst 0, 1) := by decide +kernel
theorem dX8_has_17 : decode cX8_has 17 = .ok (.ireturn, 1) := by decide +kernel
theorem dX8_isCut_0 : decode cX8_isCut 0 = .ok (.aload_n 0, 1) := by decide +kernel
theorem dX8_isCut_1 : decode cX8_isCut 1 = .ok (.getfield 61, 3) := by decide +kernel
theorem dX8_isCut_4 : decode cX8_isCut 4 = .ok (.iload_n 1, 1) := by decide +kernel
theorem dX8_isCut_5 : decode cX8_isCut 5 = .ok (.ishr, 1) := by decide +kernel
theorem dX8_isCut_6 : decode cX8_isCut 6 = .ok (.iconst 1, 1) := by decide +kernel
theorem dX8_isCut_7 : decode cX8_isCut 7 = .ok (.iand, 1) := by decide +kernel
theorem dX8_isCut_8 : decode cX8_isCut 8 = .ok (.ifCond .eq 7, 3) := by decide +kernel
theorem dX8_isCut_11 : decode cX8_isCut 11 = .ok (.iconst 1, 1) := by decide +kernel
theorem dX8_isCut_12 : decode cX8_isCut 12 = .ok (.goto 4, 3) := by decide +kernel
theorem dX8_isCut_15 : decode cX8_isCut 15 = .ok (.iconst 0, 1) := by decide +kernel
theorem dX8_isCut_16 : decode cX8_isCut 16 = .ok (.ireturn, 1) := by decide +kernel
theorem dX8_setCut_0 : decode cX8_setCut 0 = .ok (.aload_n 0, 1) := by decide +kernel
theorem dX8_setCut_1 : decode cX8_setCut 1 = .ok (.iload_n 2, 1) := by decide +kernel
theorem dX8_setCut_2 : decode cX8_setCut 2 = .ok (.ifCond .eq 14, 3) := by decide +kernel
theorem dX8_setCut_5 : decode cX8_setCut 5 = .ok (.aload_n 0, 1) := by decide +kernel
theorem dX8_setCut_6 : decode cX8_setCut 6 = .ok (.getfield 61, 3) := by decide +kernel
theorem dX8_setCut_9 : decode cX8_setCut 9 = .ok (.iconst 1, 1) := by decide +kernel
theorem dX8_setCut_10 : decode cX8_setCut 10 = .ok (.iload_n 1, 1) := by decide +kernel
theorem dX8_setCut_11 : decode cX8_setCut 11 = .ok (.ishl, 1) := by decide +kernel
theorem dX8_setCut_12 : decode cX8_setCut 12 = .ok (.ior, 1) := by decide +kernel
theorem dX8_setCut_13 : decode cX8_setCut 13 = .ok (.goto 13, 3) := by decide +kernel
theorem dX8_setCut_16 : decode cX8_setCut 16 = .ok (.aload_n 0, 1) := by decide +kernel
theorem dX8_setCut_17 : decode cX8_setCut 17 = .ok (.getfield 61, 3) := by decide +kernel
theorem dX8_setCut_20 : decode cX8_setCut 20 = .ok (.iconst 1, 1) := by decide +kernel
theorem dX8_setCut_21 : decode cX8_setCut 21 = .ok (.iload_n 1, 1) := by decide +kernel
theorem dX8_setCut_22 : decode cX8_setCut 22 = .ok (.ishl, 1) := by decide +kernel
theorem dX8_setCut_23 : decode cX8_setCut 23 = .ok (.iconst (-1), 1) := by decide +kernel
theorem dX8_setCut_24 : decode cX8_setCut 24 = .ok (.ixor, 1) := by decide +kernel
theorem dX8_setCut_25 : decode cX8_setCut 25 = .ok (.iand, 1) := by decide +kernel
theorem dX8_setCut_26 : decode cX8_setCut 26 = .ok (.putfield 61, 3) := by decide +kernel
theorem dX8_setCut_29 : decode cX8_setCut 29 = .ok (.return_, 1) := by decide +kernel
theorem dX8_allFruit_0 : decode cX8_allFruit 0 = .ok (.iconst 1, 1) := by decide +kernel
theorem dX8_allFruit_1 : decode cX8_allFruit 1 = .ok (.aload_n 0, 1) := by decide +kernel
theorem dX8_allFruit_2 : decode cX8_allFruit 2 = .ok (.getfield 57, 3) := by decide +kernel
theorem dX8_allFruit_5 : decode cX8_allFruit 5 = .ok (.ishl, 1) := by decide +kernel
theorem dX8_allFruit_6 : decode cX8_allFruit 6 = .ok (.iconst 1, 1) := by decide +kernel
theorem dX8_allFruit_7 : decode cX8_allFruit 7 = .ok (.isub, 1) := by decide +kernel
theorem dX8_allFruit_8 : decode cX8_allFruit 8 = .ok (.ireturn, 1) := by decide +kernel
theorem dX8_grow_0 : decode cX8_grow 0 = .ok (.aload_n 0, 1) := by decide +kernel
theorem dX8_grow_1 : decode cX8_grow 1 = .ok (.getfield 9, 3) := by decide +kernel
theorem dX8_grow_4 : decode cX8_grow 4 = .ok (.aload_n 0, 1) := by decide +kernel
theorem dX8_grow_5 : decode cX8_grow 5 = .ok (.getfield 57, 3) := by decide +kernel
theorem dX8_grow_8 : decode cX8_grow 8 = .ok (.iload_n 1, 1) := by decide +kernel
theorem dX8_grow_9 : decode cX8_grow 9 = .ok (.iastore, 1) := by decide +kernel
theorem dX8_grow_10 : decode cX8_grow 10 = .ok (.aload_n 0, 1) := by decide +kernel
theorem dX8_grow_11 : decode cX8_grow 11 = .ok (.getfield 15, 3) := by decide +kernel
theorem dX8_grow_14 : decode cX8_grow 14 = .ok (.aload_n 0, 1) := by decide +kernel
theorem dX8_grow_15 : decode cX8_grow 15 = .ok (.getfield 57, 3) := by decide +kernel
theorem dX8_grow_18 : decode cX8_grow 18 = .ok (.iload_n 2, 1) := by decide +kernel
theorem dX8_grow_19 : decode cX8_grow 19 = .ok (.iastore, 1) := by decide +kernel
theorem dX8_grow_20 : decode cX8_grow 20 = .ok (.aload_n 0, 1) := by decide +kernel
theorem dX8_grow_21 : decode cX8_grow 21 = .ok (.getfield 18, 3) := by decide +kernel
theorem dX8_grow_24 : decode cX8_grow 24 = .ok (.aload_n 0, 1) := by decide +kernel
theorem dX8_grow_25 : decode cX8_grow 25 = .ok (.getfield 57, 3) := by decide +kernel
theorem dX8_grow_28 : decode cX8_grow 28 = .ok (.iconst 0, 1) := by decide +kernel
theorem dX8_grow_29 : decode cX8_grow 29 = .ok (.iastore, 1) := by decide +kernel
theorem dX8_grow_30 : decode cX8_grow 30 = .ok (.aload_n 0, 1) := by decide +kernel
theorem dX8_grow_31 : decode cX8_grow 31 = .ok (.getfield 21, 3) := by decide +kernel
theorem dX8_grow_34 : decode cX8_grow 34 = .ok (.aload_n 0, 1) := by decide +kernel
theorem dX8_grow_35 : decode cX8_grow 35 = .ok (.getfield 57, 3) := by decide +kernel
theorem dX8_grow_38 : decode cX8_grow 38 = .ok (.iconst 0, 1) := by decide +kernel
theorem dX8_grow_39 : decode cX8_grow 39 = .ok (.iastore, 1) := by decide +kernel
theorem dX8_grow_40 : decode cX8_grow 40 = .ok (.aload_n 0, 1) := by decide +kernel
theorem dX8_grow_41 : decode cX8_grow 41 = .ok (.getfield 26, 3) := by decide +kernel
theorem dX8_grow_44 : decode cX8_grow 44 = .ok (.aload_n 0, 1) := by decide +kernel
theorem dX8_grow_45 : decode cX8_grow 45 = .ok (.getfield 57, 3) := by decide +kernel
theorem dX8_grow_48 : decode cX8_grow 48 = .ok (.aaload, 1) := by decide +kernel
theorem dX8_grow_49 : decode cX8_grow 49 = .ok (.iconst 0, 1) := by decide +kernel
theorem dX8_grow_50 : decode cX8_grow 50 = .ok (.invokestatic 64, 3) := by decide +kernel
theorem dX8_grow_53 : decode cX8_grow 53 = .ok (.aload_n 0, 1) := by decide +kernel
theorem dX8_grow_54 : decode cX8_grow 54 = .ok (.dup, 1) := by decide +kernel
theorem dX8_grow_55 : decode cX8_grow 55 = .ok (.getfield 57, 3) := by decide +kernel
theorem dX8_grow_58 : decode cX8_grow 58 = .ok (.iconst 1, 1) := by decide +kernel
theorem dX8_grow_59 : decode cX8_grow 59 = .ok (.iadd, 1) := by decide +kernel
theorem dX8_grow_60 : decode cX8_grow 60 = .ok (.putfield 57, 3) := by decide +kernel
theorem dX8_grow_63 : decode cX8_grow 63 = .ok (.aload_n 0, 1) := by decide +kernel
theorem dX8_grow_64 : decode cX8_grow 64 = .ok (.getfield 57, 3) := by decide +kernel
theorem dX8_grow_67 : decode cX8_grow 67 = .ok (.iconst 1, 1) := by decide +kernel
theorem dX8_grow_68 : decode cX8_grow 68 = .ok (.isub, 1) := by decide +kernel
theorem dX8_grow_69 : decode cX8_grow 69 = .ok (.ireturn, 1) := by decide +kernel
theorem dX8_takeFruit_0 : decode cX8_takeFruit 0 = .ok (.aload_n 0, 1) := by decide +kernel
theorem dX8_takeFruit_1 : decode cX8_takeFruit 1 = .ok (.aload_n 1, 1) := by decide +kernel
theorem dX8_takeFruit_2 : decode cX8_takeFruit 2 = .ok (.getfield 57, 3) := by decide +kernel
theorem dX8_takeFruit_5 : decode cX8_takeFruit 5 = .ok (.putfield 57, 3) := by decide +kernel
theorem dX8_takeFruit_8 : decode cX8_takeFruit 8 = .ok (.aload_n 0, 1) := by decide +kernel
theorem dX8_takeFruit_9 : decode cX8_takeFruit 9 = .ok (.aload_n 1, 1) := by decide +kernel
theorem dX8_takeFruit_10 : decode cX8_takeFruit 10 = .ok (.getfield 70, 3) := by decide +kernel
theorem dX8_takeFruit_13 : decode cX8_takeFruit 13 = .ok (.putfield 70, 3) := by decide +kernel
theorem dX8_takeFruit_16 : decode cX8_takeFruit 16 = .ok (.aload_n 0, 1) := by decide +kernel
theorem dX8_takeFruit_17 : decode cX8_takeFruit 17 = .ok (.aload_n 1, 1) := by decide +kernel
theorem dX8_takeFruit_18 : decode cX8_takeFruit 18 = .ok (.getfield 61, 3) := by decide +kernel
theorem dX8_takeFruit_21 : decode cX8_takeFruit 21 = .ok (.putfield 61, 3) := by decide +kernel
theorem dX8_takeFruit_24 : decode cX8_takeFruit 24 = .ok (.aload_n 0, 1) := by decide +kernel
theorem dX8_takeFruit_25 : decode cX8_takeFruit 25 = .ok (.aload_n 1, 1) := by decide +kernel
theorem dX8_takeFruit_26 : decode cX8_takeFruit 26 = .ok (.getfield 73, 3) := by decide +kernel
theorem dX8_takeFruit_29 : decode cX8_takeFruit 29 = .ok (.putfield 73, 3) := by decide +kernel
theorem dX8_takeFruit_32 : decode cX8_takeFruit 32 = .ok (.aload_n 1, 1) := by decide +kernel
theorem dX8_takeFruit_33 : decode cX8_takeFruit 33 = .ok (.getfield 9, 3) := by decide +kernel
theorem dX8_takeFruit_36 : decode cX8_takeFruit 36 = .ok (.iconst 0, 1) := by decide +kernel
theorem dX8_takeFruit_37 : decode cX8_takeFruit 37 = .ok (.aload_n 0, 1) := by decide +kernel
theorem dX8_takeFruit_38 : decode cX8_takeFruit 38 = .ok (.getfield 9, 3) := by decide +kernel
theorem dX8_takeFruit_41 : decode cX8_takeFruit 41 = .ok (.iconst 0, 1) := by decide +kernel
theorem dX8_takeFruit_42 : decode cX8_takeFruit 42 = .ok (.aload_n 0, 1) := by decide +kernel
theorem dX8_takeFruit_43 : decode cX8_takeFruit 43 = .ok (.getfield 57, 3) := by decide +kernel
theorem dX8_takeFruit_46 : decode cX8_takeFruit 46 = .ok (.invokestatic 77, 3) := by decide +kernel
theorem dX8_takeFruit_49 : decode cX8_takeFruit 49 = .ok (.aload_n 1, 1) := by decide +kernel
theorem dX8_takeFruit_50 : decode cX8_takeFruit 50 = .ok (.getfield 15, 3) := by decide +kernel
theorem dX8_takeFruit_53 : decode cX8_takeFruit 53 = .ok (.iconst 0, 1) := by decide +kernel
theorem dX8_takeFruit_54 : decode cX8_takeFruit 54 = .ok (.aload_n 0, 1) := by decide +kernel
theorem dX8_takeFruit_55 : decode cX8_takeFruit 55 = .ok (.getfield 15, 3) := by decide +kernel
theorem dX8_takeFruit_58 : decode cX8_takeFruit 58 = .ok (.iconst 0, 1) := by decide +kernel
theorem dX8_takeFruit_59 : decode cX8_takeFruit 59 = .ok (.aload_n 0, 1) := by decide +kernel
theorem dX8_takeFruit_60 : decode cX8_takeFruit 60 = .ok (.getfield 57, 3) := by decide +kernel
theorem dX8_takeFruit_63 : decode cX8_takeFruit 63 = .ok (.invokestatic 77, 3) := by decide +kernel
theorem dX8_takeFruit_66 : decode cX8_takeFruit 66 = .ok (.aload_n 1, 1) := by decide +kernel
theorem dX8_takeFruit_67 : decode cX8_takeFruit 67 = .ok (.getfield 18, 3) := by decide +kernel
theorem dX8_takeFruit_70 : decode cX8_takeFruit 70 = .ok (.iconst 0, 1) := by decide +kernel
theorem dX8_takeFruit_71 : decode cX8_takeFruit 71 = .ok (.aload_n 0, 1) := by decide +kernel
theorem dX8_takeFruit_72 : decode cX8_takeFruit 72 = .ok (.getfield 18, 3) := by decide +kernel
theorem dX8_takeFruit_75 : decode cX8_takeFruit 75 = .ok (.iconst 0, 1) := by decide +kernel
theorem dX8_takeFruit_76 : decode cX8_takeFruit 76 = .ok (.aload_n 0, 1) := by decide +kernel
theorem dX8_takeFruit_77 : decode cX8_takeFruit 77 = .ok (.getfield 57, 3) := by decide +kernel
theorem dX8_takeFruit_80 : decode cX8_takeFruit 80 = .ok (.invokestatic 77, 3) := by decide +kernel
theorem dX8_takeFruit_83 : decode cX8_takeFruit 83 = .ok (.aload_n 1, 1) := by decide +kernel
theorem dX8_takeFruit_84 : decode cX8_takeFruit 84 = .ok (.getfield 21, 3) := by decide +kernel
theorem dX8_takeFruit_87 : decode cX8_takeFruit 87 = .ok (.iconst 0, 1) := by decide +kernel
theorem dX8_takeFruit_88 : decode cX8_takeFruit 88 = .ok (.aload_n 0, 1) := by decide +kernel
theorem dX8_takeFruit_89 : decode cX8_takeFruit 89 = .ok (.getfield 21, 3) := by decide +kernel
theorem dX8_takeFruit_92 : decode cX8_takeFruit 92 = .ok (.iconst 0, 1) := by decide +kernel
theorem dX8_takeFruit_93 : decode cX8_takeFruit 93 = .ok (.aload_n 0, 1) := by decide +kernel
theorem dX8_takeFruit_94 : decode cX8_takeFruit 94 = .ok (.getfield 57, 3) := by decide +kernel
theorem dX8_takeFruit_97 : decode cX8_takeFruit 97 = .ok (.invokestatic 77, 3) := by decide +kernel
theorem dX8_takeFruit_100 : decode cX8_takeFruit 100 = .ok (.iconst 0, 1) := by decide +kernel
theorem dX8_takeFruit_101 : decode cX8_takeFruit 101 = .ok (.istore_n 2, 1) := by decide +kernel
theorem dX8_takeFruit_102 : decode cX8_takeFruit 102 = .ok (.iload_n 2, 1) := by decide +kernel
theorem dX8_takeFruit_103 : decode cX8_takeFruit 103 = .ok (.aload_n 0, 1) := by decide +kernel
theorem dX8_takeFruit_104 : decode cX8_takeFruit 104 = .ok (.getfield 57, 3) := by decide +kernel
theorem dX8_takeFruit_107 : decode cX8_takeFruit 107 = .ok (.if_icmp .ge 27, 3) := by decide +kernel
theorem dX8_takeFruit_110 : decode cX8_takeFruit 110 = .ok (.aload_n 1, 1) := by decide +kernel
theorem dX8_takeFruit_111 : decode cX8_takeFruit 111 = .ok (.getfield 26, 3) := by decide +kernel
theorem dX8_takeFruit_114 : decode cX8_takeFruit 114 = .ok (.iload_n 2, 1) := by decide +kernel
theorem dX8_takeFruit_115 : decode cX8_takeFruit 115 = .ok (.aaload, 1) := by decide +kernel
theorem dX8_takeFruit_116 : decode cX8_takeFruit 116 = .ok (.iconst 0, 1) := by decide +kernel
theorem dX8_takeFruit_117 : decode cX8_takeFruit 117 = .ok (.aload_n 0, 1) := by decide +kernel
theorem dX8_takeFruit_118 : decode cX8_takeFruit 118 = .ok (.getfield 26, 3) := by decide +kernel
theorem dX8_takeFruit_121 : decode cX8_takeFruit 121 = .ok (.iload_n 2, 1) := by decide +kernel
theorem dX8_takeFruit_122 : decode cX8_takeFruit 122 = .ok (.aaload, 1) := by decide +kernel
theorem dX8_takeFruit_123 : decode cX8_takeFruit 123 = .ok (.iconst 0, 1) := by decide +kernel
theorem dX8_takeFruit_124 : decode cX8_takeFruit 124 = .ok (.iconst 4, 1) := by decide +kernel
theorem dX8_takeFruit_125 : decode cX8_takeFruit 125 = .ok (.invokestatic 77, 3) := by decide +kernel
theorem dX8_takeFruit_128 : decode cX8_takeFruit 128 = .ok (.iinc 2 1, 3) := by decide +kernel
theorem dX8_takeFruit_131 : decode cX8_takeFruit 131 = .ok (.goto (-29), 3) := by decide +kernel
theorem dX8_takeFruit_134 : decode cX8_takeFruit 134 = .ok (.return_, 1) := by decide +kernel
theorem dX8_takeRows_0 : decode cX8_takeRows 0 = .ok (.aload_n 0, 1) := by decide +kernel
theorem dX8_takeRows_1 : decode cX8_takeRows 1 = .ok (.getfield 34, 3) := by decide +kernel
theorem dX8_takeRows_4 : decode cX8_takeRows 4 = .ok (.aload_n 1, 1) := by decide +kernel
theorem dX8_takeRows_5 : decode cX8_takeRows 5 = .ok (.getfield 34, 3) := by decide +kernel
theorem dX8_takeRows_8 : decode cX8_takeRows 8 = .ok (.invokevirtual 83, 3) := by decide +kernel
theorem dX8_takeRows_11 : decode cX8_takeRows 11 = .ok (.aload_n 0, 1) := by decide +kernel
theorem dX8_takeRows_12 : decode cX8_takeRows 12 = .ok (.getfield 38, 3) := by decide +kernel
theorem dX8_takeRows_15 : decode cX8_takeRows 15 = .ok (.aload_n 1, 1) := by decide +kernel
theorem dX8_takeRows_16 : decode cX8_takeRows 16 = .ok (.getfield 38, 3) := by decide +kernel
theorem dX8_takeRows_19 : decode cX8_takeRows 19 = .ok (.invokevirtual 83, 3) := by decide +kernel
theorem dX8_takeRows_22 : decode cX8_takeRows 22 = .ok (.aload_n 0, 1) := by decide +kernel
theorem dX8_takeRows_23 : decode cX8_takeRows 23 = .ok (.getfield 41, 3) := by decide +kernel
theorem dX8_takeRows_26 : decode cX8_takeRows 26 = .ok (.aload_n 1, 1) := by decide +kernel
theorem dX8_takeRows_27 : decode cX8_takeRows 27 = .ok (.getfield 41, 3) := by decide +kernel
theorem dX8_takeRows_30 : decode cX8_takeRows 30 = .ok (.invokevirtual 83, 3) := by decide +kernel
theorem dX8_takeRows_33 : decode cX8_takeRows 33 = .ok (.aload_n 0, 1) := by decide +kernel
theorem dX8_takeRows_34 : decode cX8_takeRows 34 = .ok (.getfield 44, 3) := by decide +kernel
theorem dX8_takeRows_37 : decode cX8_takeRows 37 = .ok (.aload_n 1, 1) := by decide +kernel
theorem dX8_takeRows_38 : decode cX8_takeRows 38 = .ok (.getfield 44, 3) := by decide +kernel
theorem dX8_takeRows_41 : decode cX8_takeRows 41 = .ok (.invokevirtual 83, 3) := by decide +kernel
theorem dX8_takeRows_44 : decode cX8_takeRows 44 = .ok (.return_, 1) := by decide +kernel
theorem dX8_ripeEnough_0 : decode cX8_ripeEnough 0 = .ok (.aload_n 0, 1) := by decide +kernel
theorem dX8_ripeEnough_1 : decode cX8_ripeEnough 1 = .ok (.getfield 73, 3) := by decide +kernel
theorem dX8_ripeEnough_4 : decode cX8_ripeEnough 4 = .ok (.ifnonnull 8, 3) := by decide +kernel
theorem dX8_ripeEnough_7 : decode cX8_ripeEnough 7 = .ok (.bipush 30, 2) := by decide +kernel
theorem dX8_ripeEnough_9 : decode cX8_ripeEnough 9 = .ok (.goto 10, 3) := by decide +kernel
theorem dX8_ripeEnough_12 : decode cX8_ripeEnough 12 = .ok (.aload_n 0, 1) := by decide +kernel
theorem dX8_ripeEnough_13 : decode cX8_ripeEnough 13 = .ok (.getfield 73, 3) := by decide +kernel
theorem dX8_ripeEnough_16 : decode cX8_ripeEnough 16 = .ok (.getfield 87, 3) := by decide +kernel
theorem dX8_ripeEnough_19 : decode cX8_ripeEnough 19 = .ok (.ireturn, 1) := by decide +kernel
theorem dX8_ripeTogether_0 : decode cX8_ripeTogether 0 = .ok (.iconst 0, 1) := by decide +kernel
theorem dX8_ripeTogether_1 : decode cX8_ripeTogether 1 = .ok (.istore_n 1, 1) := by decide +kernel
theorem dX8_ripeTogether_2 : decode cX8_ripeTogether 2 = .ok (.iconst 0, 1) := by decide +kernel
theorem dX8_ripeTogether_3 : decode cX8_ripeTogether 3 = .ok (.istore_n 2, 1) := by decide +kernel
theorem dX8_ripeTogether_4 : decode cX8_ripeTogether 4 = .ok (.iload_n 2, 1) := by decide +kernel
theorem dX8_ripeTogether_5 : decode cX8_ripeTogether 5 = .ok (.aload_n 0, 1) := by decide +kernel
theorem dX8_ripeTogether_6 : decode cX8_ripeTogether 6 = .ok (.getfield 57, 3) := by decide +kernel
theorem dX8_ripeTogether_9 : decode cX8_ripeTogether 9 = .ok (.if_icmp .ge 18, 3) := by decide +kernel
theorem dX8_ripeTogether_12 : decode cX8_ripeTogether 12 = .ok (.iload_n 1, 1) := by decide +kernel
theorem dX8_ripeTogether_13 : decode cX8_ripeTogether 13 = .ok (.aload_n 0, 1) := by decide +kernel
theorem dX8_ripeTogether_14 : decode cX8_ripeTogether 14 = .ok (.getfield 21, 3) := by decide +kernel
theorem dX8_ripeTogether_17 : decode cX8_ripeTogether 17 = .ok (.iload_n 2, 1) := by decide +kernel
theorem dX8_ripeTogether_18 : decode cX8_ripeTogether 18 = .ok (.iaload, 1) := by decide +kernel
theorem dX8_ripeTogether_19 : decode cX8_ripeTogether 19 = .ok (.iadd, 1) := by decide +kernel
theorem dX8_ripeTogether_20 : decode cX8_ripeTogether 20 = .ok (.istore_n 1, 1) := by decide +kernel
theorem dX8_ripeTogether_21 : decode cX8_ripeTogether 21 = .ok (.iinc 2 1, 3) := by decide +kernel
theorem dX8_ripeTogether_24 : decode cX8_ripeTogether 24 = .ok (.goto (-20), 3) := by decide +kernel
theorem dX8_ripeTogether_27 : decode cX8_ripeTogether 27 = .ok (.iload_n 1, 1) := by decide +kernel
theorem dX8_ripeTogether_28 : decode cX8_ripeTogether 28 = .ok (.ireturn, 1) := by decide +kernel
theorem dX8_howManyRipe_0 : decode cX8_howManyRipe 0 = .ok (.aload_n 0, 1) := by decide +kernel
theorem dX8_howManyRipe_1 : decode cX8_howManyRipe 1 = .ok (.invokevirtual 92, 3) := by decide +kernel
theorem dX8_howManyRipe_4 : decode cX8_howManyRipe 4 = .ok (.istore_n 1, 1) := by decide +kernel
theorem dX8_howManyRipe_5 : decode cX8_howManyRipe 5 = .ok (.iconst 0, 1) := by decide +kernel
theorem dX8_howManyRipe_6 : decode cX8_howManyRipe 6 = .ok (.istore_n 2, 1) := by decide +kernel
theorem dX8_howManyRipe_7 : decode cX8_howManyRipe 7 = .ok (.iconst 0, 1) := by decide +kernel
theorem dX8_howManyRipe_8 : decode cX8_howManyRipe 8 = .ok (.istore_n 3, 1) := by decide +kernel
theorem dX8_howManyRipe_9 : decode cX8_howManyRipe 9 = .ok (.iload_n 3, 1) := by decide +kernel
theorem dX8_howManyRipe_10 : decode cX8_howManyRipe 10 = .ok (.aload_n 0, 1) := by decide +kernel
theorem dX8_howManyRipe_11 : decode cX8_howManyRipe 11 = .ok (.getfield 57, 3) := by decide +kernel
theorem dX8_howManyRipe_14 : decode cX8_howManyRipe 14 = .ok (.if_icmp .ge 30, 3) := by decide +kernel
theorem dX8_howManyRipe_17 : decode cX8_howManyRipe 17 = .ok (.aload_n 0, 1) := by decide +kernel
theorem dX8_howManyRipe_18 : decode cX8_howManyRipe 18 = .ok (.iload_n 3, 1) := by decide +kernel
theorem dX8_howManyRipe_19 : decode cX8_howManyRipe 19 = .ok (.invokevirtual 96, 3) := by decide +kernel
theorem dX8_howManyRipe_22 : decode cX8_howManyRipe 22 = .ok (.ifCond .ne 16, 3) := by decide +kernel
theorem dX8_howManyRipe_25 : decode cX8_howManyRipe 25 = .ok (.aload_n 0, 1) := by decide +kernel
theorem dX8_howManyRipe_26 : decode cX8_howManyRipe 26 = .ok (.getfield 21, 3) := by decide +kernel
theorem dX8_howManyRipe_29 : decode cX8_howManyRipe 29 = .ok (.iload_n 3, 1) := by decide +kernel
theorem dX8_howManyRipe_30 : decode cX8_howManyRipe 30 = .ok (.iaload, 1) := by decide +kernel
theorem dX8_howManyRipe_31 : decode cX8_howManyRipe 31 = .ok (.iload_n 1, 1) := by decide +kernel
theorem dX8_howManyRipe_32 : decode cX8_howManyRipe 32 = .ok (.if_icmp .lt 6, 3) := by decide +kernel
theorem dX8_howManyRipe_35 : decode cX8_howManyRipe 35 = .ok (.iinc 2 1, 3) := by decide +kernel
theorem dX8_howManyRipe_38 : decode cX8_howManyRipe 38 = .ok (.iinc 3 1, 3) := by decide +kernel
theorem dX8_howManyRipe_41 : decode cX8_howManyRipe 41 = .ok (.goto (-32), 3) := by decide +kernel
theorem dX8_howManyRipe_44 : decode cX8_howManyRipe 44 = .ok (.iload_n 2, 1) := by decide +kernel
theorem dX8_howManyRipe_45 : decode cX8_howManyRipe 45 = .ok (.ireturn, 1) := by decide +kernel
theorem dX8_light_0 : decode cX8_light 0 = .ok (.iconst 0, 1) := by decide +kernel
theorem dX8_light_1 : decode cX8_light 1 = .ok (.istore_n 1, 1) := by decide +kernel
theorem dX8_light_2 : decode cX8_light 2 = .ok (.iload_n 1, 1) := by decide +kernel
theorem dX8_light_3 : decode cX8_light 3 = .ok (.aload_n 0, 1) := by decide +kernel
theorem dX8_light_4 : decode cX8_light 4 = .ok (.getfield 57, 3) := by decide +kernel
theorem dX8_light_7 : decode cX8_light 7 = .ok (.if_icmp .ge 35, 3) := by decide +kernel
theorem dX8_light_10 : decode cX8_light 10 = .ok (.aload_n 0, 1) := by decide +kernel
theorem dX8_light_11 : decode cX8_light 11 = .ok (.getfield 47, 3) := by decide +kernel
theorem dX8_light_14 : decode cX8_light 14 = .ok (.iload_n 1, 1) := by decide +kernel
theorem dX8_light_15 : decode cX8_light 15 = .ok (.aaload, 1) := by decide +kernel
theorem dX8_light_16 : decode cX8_light 16 = .ok (.iconst 5, 1) := by decide +kernel
theorem dX8_light_17 : decode cX8_light 17 = .ok (.invokestatic 64, 3) := by decide +kernel
theorem dX8_light_20 : decode cX8_light 20 = .ok (.aload_n 0, 1) := by decide +kernel
theorem dX8_light_21 : decode cX8_light 21 = .ok (.getfield 73, 3) := by decide +kernel
theorem dX8_light_24 : decode cX8_light 24 = .ok (.ifnull 12, 3) := by decide +kernel
theorem dX8_light_27 : decode cX8_light 27 = .ok (.aload_n 0, 1) := by decide +kernel
theorem dX8_light_28 : decode cX8_light 28 = .ok (.getfield 73, 3) := by decide +kernel
theorem dX8_light_31 : decode cX8_light 31 = .ok (.aload_n 0, 1) := by decide +kernel
theorem dX8_light_32 : decode cX8_light 32 = .ok (.iload_n 1, 1) := by decide +kernel
theorem dX8_light_33 : decode cX8_light 33 = .ok (.invokevirtual 100, 3) := by decide +kernel
theorem dX8_light_36 : decode cX8_light 36 = .ok (.iinc 1 1, 3) := by decide +kernel
theorem dX8_light_39 : decode cX8_light 39 = .ok (.goto (-37), 3) := by decide +kernel
theorem dX8_light_42 : decode cX8_light 42 = .ok (.return_, 1) := by decide +kernel
theorem dX8_pullAt_0 : decode cX8_pullAt 0 = .ok (.aload_n 0, 1) := by decide +kernel
theorem dX8_pullAt_1 : decode cX8_pullAt 1 = .ok (.getfield 53, 3) := by decide +kernel
theorem dX8_pullAt_4 : decode cX8_pullAt 4 = .ok (.aload_n 0, 1) := by decide +kernel
theorem dX8_pullAt_5 : decode cX8_pullAt 5 = .ok (.getfield 9, 3) := by decide +kernel
theorem dX8_pullAt_8 : decode cX8_pullAt 8 = .ok (.iload_n 1, 1) := by decide +kernel
theorem dX8_pullAt_9 : decode cX8_pullAt 9 = .ok (.iaload, 1) := by decide +kernel
theorem dX8_pullAt_10 : decode cX8_pullAt 10 = .ok (.aaload, 1) := by decide +kernel
theorem dX8_pullAt_11 : decode cX8_pullAt 11 = .ok (.aload_n 0, 1) := by decide +kernel
theorem dX8_pullAt_12 : decode cX8_pullAt 12 = .ok (.iload_n 1, 1) := by decide +kernel
theorem dX8_pullAt_13 : decode cX8_pullAt 13 = .ok (.iload_n 2, 1) := by decide +kernel
theorem dX8_pullAt_14 : decode cX8_pullAt 14 = .ok (.invokevirtual 104, 3) := by decide +kernel
theorem dX8_pullAt_17 : decode cX8_pullAt 17 = .ok (.ireturn, 1) := by decide +kernel
theorem dX8_whoseHour_0 : decode cX8_whoseHour 0 = .ok (.iconst (-1), 1) := by decide +kernel
theorem dX8_whoseHour_1 : decode cX8_whoseHour 1 = .ok (.istore_n 2, 1) := by decide +kernel
theorem dX8_whoseHour_2 : decode cX8_whoseHour 2 = .ok (.iconst 0, 1) := by decide +kernel
theorem dX8_whoseHour_3 : decode cX8_whoseHour 3 = .ok (.istore_n 3, 1) := by decide +kernel
theorem dX8_whoseHour_4 : decode cX8_whoseHour 4 = .ok (.iconst 0, 1) := by decide +kernel
theorem dX8_whoseHour_5 : decode cX8_whoseHour 5 = .ok (.istore 4, 2) := by decide +kernel
theorem dX8_whoseHour_7 : decode cX8_whoseHour 7 = .ok (.iload 4, 2) := by decide +kernel
theorem dX8_whoseHour_9 : decode cX8_whoseHour 9 = .ok (.aload_n 0, 1) := by decide +kernel
theorem dX8_whoseHour_10 : decode cX8_whoseHour 10 = .ok (.getfield 57, 3) := by decide +kernel
theorem dX8_whoseHour_13 : decode cX8_whoseHour 13 = .ok (.if_icmp .ge 54, 3) := by decide +kernel
theorem dX8_whoseHour_16 : decode cX8_whoseHour 16 = .ok (.aload_n 0, 1) := by decide +kernel
theorem dX8_whoseHour_17 : decode cX8_whoseHour 17 = .ok (.iload 4, 2) := by decide +kernel
theorem dX8_whoseHour_19 : decode cX8_whoseHour 19 = .ok (.invokevirtual 96, 3) := by decide +kernel
theorem dX8_whoseHour_22 : decode cX8_whoseHour 22 = .ok (.ifCond .eq 6, 3) := by decide +kernel
theorem dX8_whoseHour_25 : decode cX8_whoseHour 25 = .ok (.goto 36, 3) := by decide +kernel
theorem dX8_whoseHour_28 : decode cX8_whoseHour 28 = .ok (.aload_n 0, 1) := by decide +kernel
theorem dX8_whoseHour_29 : decode cX8_whoseHour 29 = .ok (.getfield 53, 3) := by decide +kernel
theorem dX8_whoseHour_32 : decode cX8_whoseHour 32 = .ok (.aload_n 0, 1) := by decide +kernel
theorem dX8_whoseHour_33 : decode cX8_whoseHour 33 = .ok (.getfield 9, 3) := by decide +kernel
theorem dX8_whoseHour_36 : decode cX8_whoseHour 36 = .ok (.iload 4, 2) := by decide +kernel
theorem dX8_whoseHour_38 : decode cX8_whoseHour 38 = .ok (.iaload, 1) := by decide +kernel
theorem dX8_whoseHour_39 : decode cX8_whoseHour 39 = .ok (.aaload, 1) := by decide +kernel
theorem dX8_whoseHour_40 : decode cX8_whoseHour 40 = .ok (.aload_n 0, 1) := by decide +kernel
theorem dX8_whoseHour_41 : decode cX8_whoseHour 41 = .ok (.iload 4, 2) := by decide +kernel
theorem dX8_whoseHour_43 : decode cX8_whoseHour 43 = .ok (.iload_n 1, 1) := by decide +kernel
theorem dX8_whoseHour_44 : decode cX8_whoseHour 44 = .ok (.invokevirtual 104, 3) := by decide +kernel
theorem dX8_whoseHour_47 : decode cX8_whoseHour 47 = .ok (.istore 5, 2) := by decide +kernel
theorem dX8_whoseHour_49 : decode cX8_whoseHour 49 = .ok (.iload 5, 2) := by decide +kernel
theorem dX8_whoseHour_51 : decode cX8_whoseHour 51 = .ok (.iload_n 3, 1) := by decide +kernel
theorem dX8_whoseHour_52 : decode cX8_whoseHour 52 = .ok (.if_icmp .le 9, 3) := by decide +kernel
theorem dX8_whoseHour_55 : decode cX8_whoseHour 55 = .ok (.iload 5, 2) := by decide +kernel
theorem dX8_whoseHour_57 : decode cX8_whoseHour 57 = .ok (.istore_n 3, 1) := by decide +kernel
theorem dX8_whoseHour_58 : decode cX8_whoseHour 58 = .ok (.iload 4, 2) := by decide +kernel
theorem dX8_whoseHour_60 : decode cX8_whoseHour 60 = .ok (.istore_n 2, 1) := by decide +kernel
theorem dX8_whoseHour_61 : decode cX8_whoseHour 61 = .ok (.iinc 4 1, 3) := by decide +kernel
theorem dX8_whoseHour_64 : decode cX8_whoseHour 64 = .ok (.goto (-57), 3) := by decide +kernel
theorem dX8_whoseHour_67 : decode cX8_whoseHour 67 = .ok (.iload_n 2, 1) := by decide +kernel
theorem dX8_whoseHour_68 : decode cX8_whoseHour 68 = .ok (.ireturn, 1) := by decide +kernel
theorem dX8_share_0 : decode cX8_share 0 = .ok (.aload_n 0, 1) := by decide +kernel
theorem dX8_share_1 : decode cX8_share 1 = .ok (.getfield 50, 3) := by decide +kernel
theorem dX8_share_4 : decode cX8_share 4 = .ok (.iconst 0, 1) := by decide +kernel
theorem dX8_share_5 : decode cX8_share 5 = .ok (.invokestatic 64, 3) := by decide +kernel
theorem dX8_share_8 : decode cX8_share 8 = .ok (.iconst 0, 1) := by decide +kernel
theorem dX8_share_9 : decode cX8_share 9 = .ok (.istore_n 1, 1) := by decide +kernel
theorem dX8_share_10 : decode cX8_share 10 = .ok (.iload_n 1, 1) := by decide +kernel
theorem dX8_share_11 : decode cX8_share 11 = .ok (.bipush 12, 2) := by decide +kernel
theorem dX8_share_13 : decode cX8_share 13 = .ok (.if_icmp .ge 31, 3) := by decide +kernel
theorem dX8_share_16 : decode cX8_share 16 = .ok (.aload_n 0, 1) := by decide +kernel
theorem dX8_share_17 : decode cX8_share 17 = .ok (.iload_n 1, 1) := by decide +kernel
theorem dX8_share_18 : decode cX8_share 18 = .ok (.invokevirtual 110, 3) := by decide +kernel
theorem dX8_share_21 : decode cX8_share 21 = .ok (.istore_n 2, 1) := by decide +kernel
theorem dX8_share_22 : decode cX8_share 22 = .ok (.iload_n 2, 1) := by decide +kernel
theorem dX8_share_23 : decode cX8_share 23 = .ok (.ifCond .lt 15, 3) := by decide +kernel
theorem dX8_share_26 : decode cX8_share 26 = .ok (.aload_n 0, 1) := by decide +kernel
theorem dX8_share_27 : decode cX8_share 27 = .ok (.getfield 50, 3) := by decide +kernel
theorem dX8_share_30 : decode cX8_share 30 = .ok (.iload_n 2, 1) := by decide +kernel
theorem dX8_share_31 : decode cX8_share 31 = .ok (.dup2, 1) := by decide +kernel
theorem dX8_share_32 : decode cX8_share 32 = .ok (.iaload, 1) := by decide +kernel
theorem dX8_share_33 : decode cX8_share 33 = .ok (.iconst 1, 1) := by decide +kernel
theorem dX8_share_34 : decode cX8_share 34 = .ok (.iload_n 1, 1) := by decide +kernel
theorem dX8_share_35 : decode cX8_share 35 = .ok (.ishl, 1) := by decide +kernel
theorem dX8_share_36 : decode cX8_share 36 = .ok (.ior, 1) := by decide +kernel
theorem dX8_share_37 : decode cX8_share 37 = .ok (.iastore, 1) := by decide +kernel
theorem dX8_share_38 : decode cX8_share 38 = .ok (.iinc 1 1, 3) := by decide +kernel
theorem dX8_share_41 : decode cX8_share 41 = .ok (.goto (-31), 3) := by decide +kernel
theorem dX8_share_44 : decode cX8_share 44 = .ok (.return_, 1) := by decide +kernel
theorem dX8_daysGo_0 : decode cX8_daysGo 0 = .ok (.iconst 0, 1) := by decide +kernel
theorem dX8_daysGo_1 : decode cX8_daysGo 1 = .ok (.istore_n 3, 1) := by decide +kernel
theorem dX8_daysGo_2 : decode cX8_daysGo 2 = .ok (.iload_n 3, 1) := by decide +kernel
theorem dX8_daysGo_3 : decode cX8_daysGo 3 = .ok (.iload_n 1, 1) := by decide +kernel
theorem dX8_daysGo_4 : decode cX8_daysGo 4 = .ok (.if_icmp .ge 91, 3) := by decide +kernel
theorem dX8_daysGo_7 : decode cX8_daysGo 7 = .ok (.aload_n 0, 1) := by decide +kernel
theorem dX8_daysGo_8 : decode cX8_daysGo 8 = .ok (.invokevirtual 114, 3) := by decide +kernel
theorem dX8_daysGo_11 : decode cX8_daysGo 11 = .ok (.aload_n 0, 1) := by decide +kernel
theorem dX8_daysGo_12 : decode cX8_daysGo 12 = .ok (.invokevirtual 117, 3) := by decide +kernel
theorem dX8_daysGo_15 : decode cX8_daysGo 15 = .ok (.iconst 0, 1) := by decide +kernel
theorem dX8_daysGo_16 : decode cX8_daysGo 16 = .ok (.istore 4, 2) := by decide +kernel
theorem dX8_daysGo_18 : decode cX8_daysGo 18 = .ok (.iload 4, 2) := by decide +kernel
theorem dX8_daysGo_20 : decode cX8_daysGo 20 = .ok (.aload_n 0, 1) := by decide +kernel
theorem dX8_daysGo_21 : decode cX8_daysGo 21 = .ok (.getfield 57, 3) := by decide +kernel
theorem dX8_daysGo_24 : decode cX8_daysGo 24 = .ok (.if_icmp .ge 55, 3) := by decide +kernel
theorem dX8_daysGo_27 : decode cX8_daysGo 27 = .ok (.aload_n 0, 1) := by decide +kernel
theorem dX8_daysGo_28 : decode cX8_daysGo 28 = .ok (.getfield 18, 3) := by decide +kernel
theorem dX8_daysGo_31 : decode cX8_daysGo 31 = .ok (.iload 4, 2) := by decide +kernel
theorem dX8_daysGo_33 : decode cX8_daysGo 33 = .ok (.dup2, 1) := by decide +kernel
theorem dX8_daysGo_34 : decode cX8_daysGo 34 = .ok (.iaload, 1) := by decide +kernel
theorem dX8_daysGo_35 : decode cX8_daysGo 35 = .ok (.aload_n 0, 1) := by decide +kernel
theorem dX8_daysGo_36 : decode cX8_daysGo 36 = .ok (.getfield 50, 3) := by decide +kernel
theorem dX8_daysGo_39 : decode cX8_daysGo 39 = .ok (.iload 4, 2) := by decide +kernel
theorem dX8_daysGo_41 : decode cX8_daysGo 41 = .ok (.iaload, 1) := by decide +kernel
theorem dX8_daysGo_42 : decode cX8_daysGo 42 = .ok (.ior, 1) := by decide +kernel
theorem dX8_daysGo_43 : decode cX8_daysGo 43 = .ok (.iastore, 1) := by decide +kernel
theorem dX8_daysGo_44 : decode cX8_daysGo 44 = .ok (.aload_n 0, 1) := by decide +kernel
theorem dX8_daysGo_45 : decode cX8_daysGo 45 = .ok (.getfield 21, 3) := by decide +kernel
theorem dX8_daysGo_48 : decode cX8_daysGo 48 = .ok (.iload 4, 2) := by decide +kernel
theorem dX8_daysGo_50 : decode cX8_daysGo 50 = .ok (.iload_n 2, 1) := by decide +kernel
theorem dX8_daysGo_51 : decode cX8_daysGo 51 = .ok (.aload_n 0, 1) := by decide +kernel
theorem dX8_daysGo_52 : decode cX8_daysGo 52 = .ok (.getfield 21, 3) := by decide +kernel
theorem dX8_daysGo_55 : decode cX8_daysGo 55 = .ok (.iload 4, 2) := by decide +kernel
theorem dX8_daysGo_57 : decode cX8_daysGo 57 = .ok (.iaload, 1) := by decide +kernel
theorem dX8_daysGo_58 : decode cX8_daysGo 58 = .ok (.aload_n 0, 1) := by decide +kernel
theorem dX8_daysGo_59 : decode cX8_daysGo 59 = .ok (.getfield 50, 3) := by decide +kernel
theorem dX8_daysGo_62 : decode cX8_daysGo 62 = .ok (.iload 4, 2) := by decide +kernel
theorem dX8_daysGo_64 : decode cX8_daysGo 64 = .ok (.iaload, 1) := by decide +kernel
theorem dX8_daysGo_65 : decode cX8_daysGo 65 = .ok (.invokestatic 120, 3) := by decide +kernel
theorem dX8_daysGo_68 : decode cX8_daysGo 68 = .ok (.iadd, 1) := by decide +kernel
theorem dX8_daysGo_69 : decode cX8_daysGo 69 = .ok (.invokestatic 125, 3) := by decide +kernel
theorem dX8_daysGo_72 : decode cX8_daysGo 72 = .ok (.iastore, 1) := by decide +kernel
theorem dX8_daysGo_73 : decode cX8_daysGo 73 = .ok (.iinc 4 1, 3) := by decide +kernel
theorem dX8_daysGo_76 : decode cX8_daysGo 76 = .ok (.goto (-58), 3) := by decide +kernel
theorem dX8_daysGo_79 : decode cX8_daysGo 79 = .ok (.aload_n 0, 1) := by decide +kernel
theorem dX8_daysGo_80 : decode cX8_daysGo 80 = .ok (.dup, 1) := by decide +kernel
theorem dX8_daysGo_81 : decode cX8_daysGo 81 = .ok (.getfield 70, 3) := by decide +kernel
theorem dX8_daysGo_84 : decode cX8_daysGo 84 = .ok (.iconst 1, 1) := by decide +kernel
theorem dX8_daysGo_85 : decode cX8_daysGo 85 = .ok (.iadd, 1) := by decide +kernel
theorem dX8_daysGo_86 : decode cX8_daysGo 86 = .ok (.putfield 70, 3) := by decide +kernel
theorem dX8_daysGo_89 : decode cX8_daysGo 89 = .ok (.iinc 3 1, 3) := by decide +kernel
theorem dX8_daysGo_92 : decode cX8_daysGo 92 = .ok (.goto (-90), 3) := by decide +kernel
theorem dX8_daysGo_95 : decode cX8_daysGo 95 = .ok (.return_, 1) := by decide +kernel
theorem dX8_follow_0 : decode cX8_follow 0 = .ok (.iload_n 1, 1) := by decide +kernel
theorem dX8_follow_1 : decode cX8_follow 1 = .ok (.tableswitch 55 0 2 #[27, 37, 46], 27) := by decide +kernel
theorem dX8_follow_28 : decode cX8_follow 28 = .ok (.aload_n 0, 1) := by decide +kernel
theorem dX8_follow_29 : decode cX8_follow 29 = .ok (.iconst 1, 1) := by decide +kernel
theorem dX8_follow_30 : decode cX8_follow 30 = .ok (.ldc 131, 2) := by decide +kernel
theorem dX8_follow_32 : decode cX8_follow 32 = .ok (.invokevirtual 132, 3) := by decide +kernel
theorem dX8_follow_35 : decode cX8_follow 35 = .ok (.goto 28, 3) := by decide +kernel
theorem dX8_follow_38 : decode cX8_follow 38 = .ok (.aload_n 0, 1) := by decide +kernel
theorem dX8_follow_39 : decode cX8_follow 39 = .ok (.iload_n 2, 1) := by decide +kernel
theorem dX8_follow_40 : decode cX8_follow 40 = .ok (.iconst 1, 1) := by decide +kernel
theorem dX8_follow_41 : decode cX8_follow 41 = .ok (.invokevirtual 136, 3) := by decide +kernel
theorem dX8_follow_44 : decode cX8_follow 44 = .ok (.goto 19, 3) := by decide +kernel
theorem dX8_follow_47 : decode cX8_follow 47 = .ok (.aload_n 0, 1) := by decide +kernel
theorem dX8_follow_48 : decode cX8_follow 48 = .ok (.iload_n 2, 1) := by decide +kernel
theorem dX8_follow_49 : decode cX8_follow 49 = .ok (.iconst 0, 1) := by decide +kernel
theorem dX8_follow_50 : decode cX8_follow 50 = .ok (.invokevirtual 136, 3) := by decide +kernel
theorem dX8_follow_53 : decode cX8_follow 53 = .ok (.goto 10, 3) := by decide +kernel
theorem dX8_follow_56 : decode cX8_follow 56 = .ok (.aload_n 0, 1) := by decide +kernel
theorem dX8_follow_57 : decode cX8_follow 57 = .ok (.getfield 21, 3) := by decide +kernel
theorem dX8_follow_60 : decode cX8_follow 60 = .ok (.iload_n 2, 1) := by decide +kernel
theorem dX8_follow_61 : decode cX8_follow 61 = .ok (.iconst 0, 1) := by decide +kernel
theorem dX8_follow_62 : decode cX8_follow 62 = .ok (.iastore, 1) := by decide +kernel
theorem dX8_follow_63 : decode cX8_follow 63 = .ok (.return_, 1) := by decide +kernel
theorem dX8_numberBehind_0 : decode cX8_numberBehind 0 = .ok (.iload_n 1, 1) := by decide +kernel
theorem dX8_numberBehind_1 : decode cX8_numberBehind 1 = .ok (.lookupswitch 69 #[(107, 45), (112, 43), (114, 59), (118, 52)], 43) := by decide +kernel
theorem dX8_numberBehind_44 : decode cX8_numberBehind 44 = .ok (.iload_n 2, 1) := by decide +kernel
theorem dX8_numberBehind_45 : decode cX8_numberBehind 45 = .ok (.ireturn, 1) := by decide +kernel
theorem dX8_numberBehind_46 : decode cX8_numberBehind 46 = .ok (.aload_n 0, 1) := by decide +kernel
theorem dX8_numberBehind_47 : decode cX8_numberBehind 47 = .ok (.getfield 9, 3) := by decide +kernel
theorem dX8_numberBehind_50 : decode cX8_numberBehind 50 = .ok (.iload_n 2, 1) := by decide +kernel
theorem dX8_numberBehind_51 : decode cX8_numberBehind 51 = .ok (.iaload, 1) := by decide +kernel
theorem dX8_numberBehind_52 : decode cX8_numberBehind 52 = .ok (.ireturn, 1) := by decide +kernel
theorem dX8_numberBehind_53 : decode cX8_numberBehind 53 = .ok (.aload_n 0, 1) := by decide +kernel
theorem dX8_numberBehind_54 : decode cX8_numberBehind 54 = .ok (.getfield 15, 3) := by decide +kernel
theorem dX8_numberBehind_57 : decode cX8_numberBehind 57 = .ok (.iload_n 2, 1) := by decide +kernel
theorem dX8_numberBehind_58 : decode cX8_numberBehind 58 = .ok (.iaload, 1) := by decide +kernel
theorem dX8_numberBehind_59 : decode cX8_numberBehind 59 = .ok (.ireturn, 1) := by decide +kernel
theorem dX8_numberBehind_60 : decode cX8_numberBehind 60 = .ok (.aload_n 0, 1) := by decide +kernel
theorem dX8_numberBehind_61 : decode cX8_numberBehind 61 = .ok (.getfield 21, 3) := by decide +kernel
theorem dX8_numberBehind_64 : decode cX8_numberBehind 64 = .ok (.iload_n 2, 1) := by decide +kernel
theorem dX8_numberBehind_65 : decode cX8_numberBehind 65 = .ok (.iaload, 1) := by decide +kernel
theorem dX8_numberBehind_66 : decode cX8_numberBehind 66 = .ok (.bipush 10, 2) := by decide +kernel
theorem dX8_numberBehind_68 : decode cX8_numberBehind 68 = .ok (.idiv, 1) := by decide +kernel
theorem dX8_numberBehind_69 : decode cX8_numberBehind 69 = .ok (.ireturn, 1) := by decide +kernel
theorem dX8_numberBehind_70 : decode cX8_numberBehind 70 = .ok (.aload_n 0, 1) := by decide +kernel
theorem dX8_numberBehind_71 : decode cX8_numberBehind 71 = .ok (.getfield 70, 3) := by decide +kernel
theorem dX8_numberBehind_74 : decode cX8_numberBehind 74 = .ok (.bipush 10, 2) := by decide +kernel
theorem dX8_numberBehind_76 : decode cX8_numberBehind 76 = .ok (.irem, 1) := by decide +kernel
theorem dX8_numberBehind_77 : decode cX8_numberBehind 77 = .ok (.ireturn, 1) := by decide +kernel
theorem dX9_init_0 : decode cX9_init 0 = .ok (.aload_n 0, 1) := by decide +kernel
theorem dX9_init_1 : decode cX9_init 1 = .ok (.invokespecial 1, 3) := by decide +kernel
theorem dX9_init_4 : decode cX9_init 4 = .ok (.return_, 1) := by decide +kernel
theorem dX9_pulls_0 : decode cX9_pulls 0 = .ok (.iload_n 2, 1) := by decide +kernel
theorem dX9_pulls_1 : decode cX9_pulls 1 = .ok (.ifCond .le 17, 3) := by decide +kernel
theorem dX9_pulls_4 : decode cX9_pulls 4 = .ok (.aload_n 1, 1) := by decide +kernel
theorem dX9_pulls_5 : decode cX9_pulls 5 = .ok (.iload_n 2, 1) := by decide +kernel
theorem dX9_pulls_6 : decode cX9_pulls 6 = .ok (.iconst 1, 1) := by decide +kernel
theorem dX9_pulls_7 : decode cX9_pulls 7 = .ok (.isub, 1) := by decide +kernel
theorem dX9_pulls_8 : decode cX9_pulls 8 = .ok (.invokevirtual 7, 3) := by decide +kernel
theorem dX9_pulls_11 : decode cX9_pulls 11 = .ok (.ifCond .ne 7, 3) := by decide +kernel
theorem dX9_pulls_14 : decode cX9_pulls 14 = .ok (.iconst 1, 1) := by decide +kernel
theorem dX9_pulls_15 : decode cX9_pulls 15 = .ok (.goto 4, 3) := by decide +kernel
theorem dX9_pulls_18 : decode cX9_pulls 18 = .ok (.iconst 0, 1) := by decide +kernel
theorem dX9_pulls_19 : decode cX9_pulls 19 = .ok (.istore 4, 2) := by decide +kernel
theorem dX9_pulls_21 : decode cX9_pulls 21 = .ok (.aload_n 0, 1) := by decide +kernel
theorem dX9_pulls_22 : decode cX9_pulls 22 = .ok (.aload_n 1, 1) := by decide +kernel
theorem dX9_pulls_23 : decode cX9_pulls 23 = .ok (.iload_n 2, 1) := by decide +kernel
theorem dX9_pulls_24 : decode cX9_pulls 24 = .ok (.iload_n 3, 1) := by decide +kernel
theorem dX9_pulls_25 : decode cX9_pulls 25 = .ok (.invokespecial 13, 3) := by decide +kernel
theorem dX9_pulls_28 : decode cX9_pulls 28 = .ok (.iload 4, 2) := by decide +kernel
theorem dX9_pulls_30 : decode cX9_pulls 30 = .ok (.ifCond .eq 7, 3) := by decide +kernel
theorem dX9_pulls_33 : decode cX9_pulls 33 = .ok (.iconst 1, 1) := by decide +kernel
theorem dX9_pulls_34 : decode cX9_pulls 34 = .ok (.goto 4, 3) := by decide +kernel
theorem dX9_pulls_37 : decode cX9_pulls 37 = .ok (.iconst 0, 1) := by decide +kernel
theorem dX9_pulls_38 : decode cX9_pulls 38 = .ok (.isub, 1) := by decide +kernel
theorem dX9_pulls_39 : decode cX9_pulls 39 = .ok (.ireturn, 1) := by decide +kernel
theorem dX9_warms_0 : decode cX9_warms 0 = .ok (.aload_n 1, 1) := by decide +kernel
theorem dX9_warms_1 : decode cX9_warms 1 = .ok (.bipush 50, 2) := by decide +kernel
theorem dX9_warms_3 : decode cX9_warms 3 = .ok (.invokevirtual 17, 3) := by decide +kernel
theorem dX9_warms_6 : decode cX9_warms 6 = .ok (.aload_n 0, 1) := by decide +kernel
theorem dX9_warms_7 : decode cX9_warms 7 = .ok (.aload_n 1, 1) := by decide +kernel
theorem dX9_warms_8 : decode cX9_warms 8 = .ok (.iload_n 2, 1) := by decide +kernel
theorem dX9_warms_9 : decode cX9_warms 9 = .ok (.invokespecial 23, 3) := by decide +kernel
theorem dX9_warms_12 : decode cX9_warms 12 = .ok (.ineg, 1) := by decide +kernel
theorem dX9_warms_13 : decode cX9_warms 13 = .ok (.ireturn, 1) := by decide +kernel
theorem dX9_swells_0 : decode cX9_swells 0 = .ok (.aload_n 1, 1) := by decide +kernel
theorem dX9_swells_1 : decode cX9_swells 1 = .ok (.bipush 51, 2) := by decide +kernel
theorem dX9_swells_3 : decode cX9_swells 3 = .ok (.invokevirtual 17, 3) := by decide +kernel
theorem dX9_swells_6 : decode cX9_swells 6 = .ok (.aload_n 0, 1) := by decide +kernel
theorem dX9_swells_7 : decode cX9_swells 7 = .ok (.aload_n 1, 1) := by decide +kernel
theorem dX9_swells_8 : decode cX9_swells 8 = .ok (.iload_n 2, 1) := by decide +kernel
theorem dX9_swells_9 : decode cX9_swells 9 = .ok (.iconst 1, 1) := by decide +kernel
theorem dX9_swells_10 : decode cX9_swells 10 = .ok (.iadd, 1) := by decide +kernel
theorem dX9_swells_11 : decode cX9_swells 11 = .ok (.invokespecial 27, 3) := by decide +kernel
theorem dX9_swells_14 : decode cX9_swells 14 = .ok (.ireturn, 1) := by decide +kernel
theorem dX10_init_0 : decode cX10_init 0 = .ok (.aload_n 0, 1) := by decide +kernel
theorem dX10_init_1 : decode cX10_init 1 = .ok (.invokespecial 3, 3) := by decide +kernel
theorem dX10_init_4 : decode cX10_init 4 = .ok (.aload_n 0, 1) := by decide +kernel
theorem dX10_init_5 : decode cX10_init 5 = .ok (.bipush 30, 2) := by decide +kernel
theorem dX10_init_7 : decode cX10_init 7 = .ok (.putfield 11, 3) := by decide +kernel
theorem dX10_init_10 : decode cX10_init 10 = .ok (.aload_n 0, 1) := by decide +kernel
theorem dX10_init_11 : decode cX10_init 11 = .ok (.bipush 11, 2) := by decide +kernel
theorem dX10_init_13 : decode cX10_init 13 = .ok (.newarray .int, 2) := by decide +kernel
theorem dX10_init_15 : decode cX10_init 15 = .ok (.putfield 17, 3) := by decide +kernel
theorem dX10_init_18 : decode cX10_init 18 = .ok (.aload_n 0, 1) := by decide +kernel
theorem dX10_init_19 : decode cX10_init 19 = .ok (.aload_n 1, 1) := by decide +kernel
theorem dX10_init_20 : decode cX10_init 20 = .ok (.putfield 21, 3) := by decide +kernel
theorem dX10_init_23 : decode cX10_init 23 = .ok (.aload_n 0, 1) := by decide +kernel
theorem dX10_init_24 : decode cX10_init 24 = .ok (.aload_n 1, 1) := by decide +kernel
theorem dX10_init_25 : decode cX10_init 25 = .ok (.arraylength, 1) := by decide +kernel
theorem dX10_init_26 : decode cX10_init 26 = .ok (.newarray .char, 2) := by decide +kernel
theorem dX10_init_28 : decode cX10_init 28 = .ok (.putfield 25, 3) := by decide +kernel
theorem dX10_init_31 : decode cX10_init 31 = .ok (.aload_n 0, 1) := by decide +kernel
theorem dX10_init_32 : decode cX10_init 32 = .ok (.aload_n 1, 1) := by decide +kernel
theorem dX10_init_33 : decode cX10_init 33 = .ok (.arraylength, 1) := by decide +kernel
theorem dX10_init_34 : decode cX10_init 34 = .ok (.newarray .char, 2) := by decide +kernel
theorem dX10_init_36 : decode cX10_init 36 = .ok (.putfield 29, 3) := by decide +kernel
theorem dX10_init_39 : decode cX10_init 39 = .ok (.aload_n 0, 1) := by decide +kernel
theorem dX10_init_40 : decode cX10_init 40 = .ok (.aload_n 1, 1) := by decide +kernel
theorem dX10_init_41 : decode cX10_init 41 = .ok (.arraylength, 1) := by decide +kernel
theorem dX10_init_42 : decode cX10_init 42 = .ok (.newarray .int, 2) := by decide +kernel
theorem dX10_init_44 : decode cX10_init 44 = .ok (.putfield 32, 3) := by decide +kernel
theorem dX10_init_47 : decode cX10_init 47 = .ok (.return_, 1) := by decide +kernel
theorem dX10_readAll_0 : decode cX10_readAll 0 = .ok (.iconst 0, 1) := by decide +kernel
theorem dX10_readAll_1 : decode cX10_readAll 1 = .ok (.istore_n 1, 1) := by decide +kernel
theorem dX10_readAll_2 : decode cX10_readAll 2 = .ok (.iload_n 1, 1) := by decide +kernel
theorem dX10_readAll_3 : decode cX10_readAll 3 = .ok (.bipush 10, 2) := by decide +kernel
theorem dX10_readAll_5 : decode cX10_readAll 5 = .ok (.if_icmp .ge 51, 3) := by decide +kernel
theorem dX10_readAll_8 : decode cX10_readAll 8 = .ok (.aload_n 0, 1) := by decide +kernel
theorem dX10_readAll_9 : decode cX10_readAll 9 = .ok (.invokevirtual 35, 3) := by decide +kernel
theorem dX10_readAll_12 : decode cX10_readAll 12 = .ok (.ifCond .ne 5, 3) := by decide +kernel
theorem dX10_readAll_15 : decode cX10_readAll 15 = .ok (.iconst 0, 1) := by decide +kernel
theorem dX10_readAll_16 : decode cX10_readAll 16 = .ok (.ireturn, 1) := by decide +kernel
theorem dX10_readAll_17 : decode cX10_readAll 17 = .ok (.aload_n 0, 1) := by decide +kernel
theorem dX10_readAll_18 : decode cX10_readAll 18 = .ok (.getfield 39, 3) := by decide +kernel
theorem dX10_readAll_21 : decode cX10_readAll 21 = .ok (.aload_n 0, 1) := by decide +kernel
theorem dX10_readAll_22 : decode cX10_readAll 22 = .ok (.getfield 21, 3) := by decide +kernel
theorem dX10_readAll_25 : decode cX10_readAll 25 = .ok (.arraylength, 1) := by decide +kernel
theorem dX10_readAll_26 : decode cX10_readAll 26 = .ok (.if_icmp .lt 5, 3) := by decide +kernel
theorem dX10_readAll_29 : decode cX10_readAll 29 = .ok (.iconst 1, 1) := by decide +kernel
theorem dX10_readAll_30 : decode cX10_readAll 30 = .ok (.ireturn, 1) := by decide +kernel
theorem dX10_readAll_31 : decode cX10_readAll 31 = .ok (.iload_n 1, 1) := by decide +kernel
theorem dX10_readAll_32 : decode cX10_readAll 32 = .ok (.iconst 1, 1) := by decide +kernel
theorem dX10_readAll_33 : decode cX10_readAll 33 = .ok (.iadd, 1) := by decide +kernel
theorem dX10_readAll_34 : decode cX10_readAll 34 = .ok (.bipush 10, 2) := by decide +kernel
theorem dX10_readAll_36 : decode cX10_readAll 36 = .ok (.if_icmp .eq 12, 3) := by decide +kernel
theorem dX10_readAll_39 : decode cX10_readAll 39 = .ok (.aload_n 0, 1) := by decide +kernel
theorem dX10_readAll_40 : decode cX10_readAll 40 = .ok (.bipush 59, 2) := by decide +kernel
theorem dX10_readAll_42 : decode cX10_readAll 42 = .ok (.invokevirtual 42, 3) := by decide +kernel
theorem dX10_readAll_45 : decode cX10_readAll 45 = .ok (.ifCond .ne 5, 3) := by decide +kernel
theorem dX10_readAll_48 : decode cX10_readAll 48 = .ok (.iconst 0, 1) := by decide +kernel
theorem dX10_readAll_49 : decode cX10_readAll 49 = .ok (.ireturn, 1) := by decide +kernel
theorem dX10_readAll_50 : decode cX10_readAll 50 = .ok (.iinc 1 1, 3) := by decide +kernel
theorem dX10_readAll_53 : decode cX10_readAll 53 = .ok (.goto (-51), 3) := by decide +kernel
theorem dX10_readAll_56 : decode cX10_readAll 56 = .ok (.iconst 0, 1) := by decide +kernel
theorem dX10_readAll_57 : decode cX10_readAll 57 = .ok (.ireturn, 1) := by decide +kernel
theorem dX10_sign_0 : decode cX10_sign 0 = .ok (.aload_n 0, 1) := by decide +kernel
theorem dX10_sign_1 : decode cX10_sign 1 = .ok (.getfield 39, 3) := by decide +kernel
theorem dX10_sign_4 : decode cX10_sign 4 = .ok (.aload_n 0, 1) := by decide +kernel
theorem dX10_sign_5 : decode cX10_sign 5 = .ok (.getfield 21, 3) := by decide +kernel
theorem dX10_sign_8 : decode cX10_sign 8 = .ok (.arraylength, 1) := by decide +kernel
theorem dX10_sign_9 : decode cX10_sign 9 = .ok (.if_icmp .ge 15, 3) := by decide +kernel
theorem dX10_sign_12 : decode cX10_sign 12 = .ok (.aload_n 0, 1) := by decide +kernel
theorem dX10_sign_13 : decode cX10_sign 13 = .ok (.getfield 21, 3) := by decide +kernel
theorem dX10_sign_16 : decode cX10_sign 16 = .ok (.aload_n 0, 1) := by decide +kernel
theorem dX10_sign_17 : decode cX10_sign 17 = .ok (.getfield 39, 3) := by decide +kernel
theorem dX10_sign_20 : decode cX10_sign 20 = .ok (.baload, 1) := by decide +kernel
theorem dX10_sign_21 : decode cX10_sign 21 = .ok (.goto 4, 3) := by decide +kernel
theorem dX10_sign_24 : decode cX10_sign 24 = .ok (.iconst (-1), 1) := by decide +kernel
theorem dX10_sign_25 : decode cX10_sign 25 = .ok (.ireturn, 1) := by decide +kernel
theorem dX10_readSign_0 : decode cX10_readSign 0 = .ok (.aload_n 0, 1) := by decide +kernel
theorem dX10_readSign_1 : decode cX10_readSign 1 = .ok (.invokevirtual 46, 3) := by decide +kernel
theorem dX10_readSign_4 : decode cX10_readSign 4 = .ok (.iload_n 1, 1) := by decide +kernel
theorem dX10_readSign_5 : decode cX10_readSign 5 = .ok (.if_icmp .eq 5, 3) := by decide +kernel
theorem dX10_readSign_8 : decode cX10_readSign 8 = .ok (.iconst 0, 1) := by decide +kernel
theorem dX10_readSign_9 : decode cX10_readSign 9 = .ok (.ireturn, 1) := by decide +kernel
theorem dX10_readSign_10 : decode cX10_readSign 10 = .ok (.aload_n 0, 1) := by decide +kernel
theorem dX10_readSign_11 : decode cX10_readSign 11 = .ok (.dup, 1) := by decide +kernel
theorem dX10_readSign_12 : decode cX10_readSign 12 = .ok (.getfield 39, 3) := by decide +kernel
theorem dX10_readSign_15 : decode cX10_readSign 15 = .ok (.iconst 1, 1) := by decide +kernel
theorem dX10_readSign_16 : decode cX10_readSign 16 = .ok (.iadd, 1) := by decide +kernel
theorem dX10_readSign_17 : decode cX10_readSign 17 = .ok (.putfield 39, 3) := by decide +kernel
theorem dX10_readSign_20 : decode cX10_readSign 20 = .ok (.iconst 1, 1) := by decide +kernel
theorem dX10_readSign_21 : decode cX10_readSign 21 = .ok (.ireturn, 1) := by decide +kernel
theorem dX10_readWord_0 : decode cX10_readWord 0 = .ok (.iconst 0, 1) := by decide +kernel
theorem dX10_readWord_1 : decode cX10_readWord 1 = .ok (.istore_n 2, 1) := by decide +kernel
theorem dX10_readWord_2 : decode cX10_readWord 2 = .ok (.iload_n 2, 1) := by decide +kernel
theorem dX10_readWord_3 : decode cX10_readWord 3 = .ok (.aload_n 1, 1) := by decide +kernel
theorem dX10_readWord_4 : decode cX10_readWord 4 = .ok (.invokevirtual 50, 3) := by decide +kernel
theorem dX10_readWord_7 : decode cX10_readWord 7 = .ok (.if_icmp .ge 23, 3) := by decide +kernel
theorem dX10_readWord_10 : decode cX10_readWord 10 = .ok (.aload_n 0, 1) := by decide +kernel
theorem dX10_readWord_11 : decode cX10_readWord 11 = .ok (.aload_n 1, 1) := by decide +kernel
theorem dX10_readWord_12 : decode cX10_readWord 12 = .ok (.iload_n 2, 1) := by decide +kernel
theorem dX10_readWord_13 : decode cX10_readWord 13 = .ok (.invokevirtual 55, 3) := by decide +kernel
theorem dX10_readWord_16 : decode cX10_readWord 16 = .ok (.invokevirtual 42, 3) := by decide +kernel
theorem dX10_readWord_19 : decode cX10_readWord 19 = .ok (.ifCond .ne 5, 3) := by decide +kernel
theorem dX10_readWord_22 : decode cX10_readWord 22 = .ok (.iconst 0, 1) := by decide +kernel
theorem dX10_readWord_23 : decode cX10_readWord 23 = .ok (.ireturn, 1) := by decide +kernel
theorem dX10_readWord_24 : decode cX10_readWord 24 = .ok (.iinc 2 1, 3) := by decide +kernel
theorem dX10_readWord_27 : decode cX10_readWord 27 = .ok (.goto (-25), 3) := by decide +kernel
theorem dX10_readWord_30 : decode cX10_readWord 30 = .ok (.aload_n 0, 1) := by decide +kernel
theorem dX10_readWord_31 : decode cX10_readWord 31 = .ok (.bipush 32, 2) := by decide +kernel
theorem dX10_readWord_33 : decode cX10_readWord 33 = .ok (.invokevirtual 42, 3) := by decide +kernel
theorem dX10_readWord_36 : decode cX10_readWord 36 = .ok (.ireturn, 1) := by decide +kernel
theorem dX10_readNumber_0 : decode cX10_readNumber 0 = .ok (.aload_n 0, 1) := by decide +kernel
theorem dX10_readNumber_1 : decode cX10_readNumber 1 = .ok (.iconst 0, 1) := by decide +kernel
theorem dX10_readNumber_2 : decode cX10_readNumber 2 = .ok (.putfield 59, 3) := by decide +kernel
theorem dX10_readNumber_5 : decode cX10_readNumber 5 = .ok (.iconst 0, 1) := by decide +kernel
theorem dX10_readNumber_6 : decode cX10_readNumber 6 = .ok (.istore_n 1, 1) := by decide +kernel
theorem dX10_readNumber_7 : decode cX10_readNumber 7 = .ok (.iload_n 1, 1) := by decide +kernel
theorem dX10_readNumber_8 : decode cX10_readNumber 8 = .ok (.iconst 2, 1) := by decide +kernel
theorem dX10_readNumber_9 : decode cX10_readNumber 9 = .ok (.if_icmp .ge 83, 3) := by decide +kernel
theorem dX10_readNumber_12 : decode cX10_readNumber 12 = .ok (.aload_n 0, 1) := by decide +kernel
theorem dX10_readNumber_13 : decode cX10_readNumber 13 = .ok (.getfield 39, 3) := by decide +kernel
theorem dX10_readNumber_16 : decode cX10_readNumber 16 = .ok (.aload_n 0, 1) := by decide +kernel
theorem dX10_readNumber_17 : decode cX10_readNumber 17 = .ok (.getfield 21, 3) := by decide +kernel
theorem dX10_readNumber_20 : decode cX10_readNumber 20 = .ok (.arraylength, 1) := by decide +kernel
theorem dX10_readNumber_21 : decode cX10_readNumber 21 = .ok (.if_icmp .ge 71, 3) := by decide +kernel
theorem dX10_readNumber_24 : decode cX10_readNumber 24 = .ok (.aload_n 0, 1) := by decide +kernel
theorem dX10_readNumber_25 : decode cX10_readNumber 25 = .ok (.getfield 21, 3) := by decide +kernel
theorem dX10_readNumber_28 : decode cX10_readNumber 28 = .ok (.aload_n 0, 1) := by decide +kernel
theorem dX10_readNumber_29 : decode cX10_readNumber 29 = .ok (.getfield 39, 3) := by decide +kernel
theorem dX10_readNumber_32 : decode cX10_readNumber 32 = .ok (.baload, 1) := by decide +kernel
theorem dX10_readNumber_33 : decode cX10_readNumber 33 = .ok (.bipush 48, 2) := by decide +kernel
theorem dX10_readNumber_35 : decode cX10_readNumber 35 = .ok (.if_icmp .lt 57, 3) := by decide +kernel
theorem dX10_readNumber_38 : decode cX10_readNumber 38 = .ok (.aload_n 0, 1) := by decide +kernel
theorem dX10_readNumber_39 : decode cX10_readNumber 39 = .ok (.getfield 21, 3) := by decide +kernel
theorem dX10_readNumber_42 : decode cX10_readNumber 42 = .ok (.aload_n 0, 1) := by decide +kernel
theorem dX10_readNumber_43 : decode cX10_readNumber 43 = .ok (.getfield 39, 3) := by decide +kernel
theorem dX10_readNumber_46 : decode cX10_readNumber 46 = .ok (.baload, 1) := by decide +kernel
theorem dX10_readNumber_47 : decode cX10_readNumber 47 = .ok (.bipush 57, 2) := by decide +kernel
theorem dX10_readNumber_49 : decode cX10_readNumber 49 = .ok (.if_icmp .gt 43, 3) := by decide +kernel
theorem dX10_readNumber_52 : decode cX10_readNumber 52 = .ok (.aload_n 0, 1) := by decide +kernel
theorem dX10_readNumber_53 : decode cX10_readNumber 53 = .ok (.aload_n 0, 1) := by decide +kernel
theorem dX10_readNumber_54 : decode cX10_readNumber 54 = .ok (.getfield 59, 3) := by decide +kernel
theorem dX10_readNumber_57 : decode cX10_readNumber 57 = .ok (.bipush 10, 2) := by decide +kernel
theorem dX10_readNumber_59 : decode cX10_readNumber 59 = .ok (.imul, 1) := by decide +kernel
theorem dX10_readNumber_60 : decode cX10_readNumber 60 = .ok (.aload_n 0, 1) := by decide +kernel
theorem dX10_readNumber_61 : decode cX10_readNumber 61 = .ok (.getfield 21, 3) := by decide +kernel
theorem dX10_readNumber_64 : decode cX10_readNumber 64 = .ok (.aload_n 0, 1) := by decide +kernel
theorem dX10_readNumber_65 : decode cX10_readNumber 65 = .ok (.getfield 39, 3) := by decide +kernel
theorem dX10_readNumber_68 : decode cX10_readNumber 68 = .ok (.baload, 1) := by decide +kernel
theorem dX10_readNumber_69 : decode cX10_readNumber 69 = .ok (.iadd, 1) := by decide +kernel
theorem dX10_readNumber_70 : decode cX10_readNumber 70 = .ok (.bipush 48, 2) := by decide +kernel
theorem dX10_readNumber_72 : decode cX10_readNumber 72 = .ok (.isub, 1) := by decide +kernel
theorem dX10_readNumber_73 : decode cX10_readNumber 73 = .ok (.putfield 59, 3) := by decide +kernel
theorem dX10_readNumber_76 : decode cX10_readNumber 76 = .ok (.aload_n 0, 1) := by decide +kernel
theorem dX10_readNumber_77 : decode cX10_readNumber 77 = .ok (.dup, 1) := by decide +kernel
theorem dX10_readNumber_78 : decode cX10_readNumber 78 = .ok (.getfield 39, 3) := by decide +kernel
theorem dX10_readNumber_81 : decode cX10_readNumber 81 = .ok (.iconst 1, 1) := by decide +kernel
theorem dX10_readNumber_82 : decode cX10_readNumber 82 = .ok (.iadd, 1) := by decide +kernel
theorem dX10_readNumber_83 : decode cX10_readNumber 83 = .ok (.putfield 39, 3) := by decide +kernel
theorem dX10_readNumber_86 : decode cX10_readNumber 86 = .ok (.iinc 1 1, 3) := by decide +kernel
theorem dX10_readNumber_89 : decode cX10_readNumber 89 = .ok (.goto (-82), 3) := by decide +kernel
theorem dX10_readNumber_92 : decode cX10_readNumber 92 = .ok (.iload_n 1, 1) := by decide +kernel
theorem dX10_readNumber_93 : decode cX10_readNumber 93 = .ok (.ifCond .le 7, 3) := by decide +kernel
theorem dX10_readNumber_96 : decode cX10_readNumber 96 = .ok (.iconst 1, 1) := by decide +kernel
theorem dX10_readNumber_97 : decode cX10_readNumber 97 = .ok (.goto 4, 3) := by decide +kernel
theorem dX10_readNumber_100 : decode cX10_readNumber 100 = .ok (.iconst 0, 1) := by decide +kernel
theorem dX10_readNumber_101 : decode cX10_readNumber 101 = .ok (.ireturn, 1) := by decide +kernel
theorem dX10_readClause_0 : decode cX10_readClause 0 = .ok (.aload_n 0, 1) := by decide +kernel
theorem dX10_readClause_1 : decode cX10_readClause 1 = .ok (.invokevirtual 46, 3) := by decide +kernel
theorem dX10_readClause_4 : decode cX10_readClause 4 = .ok (.bipush 114, 2) := by decide +kernel
theorem dX10_readClause_6 : decode cX10_readClause 6 = .ok (.if_icmp .ne 31, 3) := by decide +kernel
theorem dX10_readClause_9 : decode cX10_readClause 9 = .ok (.aload_n 0, 1) := by decide +kernel
theorem dX10_readClause_10 : decode cX10_readClause 10 = .ok (.ldc 62, 2) := by decide +kernel
theorem dX10_readClause_12 : decode cX10_readClause 12 = .ok (.invokevirtual 64, 3) := by decide +kernel
theorem dX10_readClause_15 : decode cX10_readClause 15 = .ok (.ifCond .eq 10, 3) := by decide +kernel
theorem dX10_readClause_18 : decode cX10_readClause 18 = .ok (.aload_n 0, 1) := by decide +kernel
theorem dX10_readClause_19 : decode cX10_readClause 19 = .ok (.invokevirtual 68, 3) := by decide +kernel
theorem dX10_readClause_22 : decode cX10_readClause 22 = .ok (.ifCond .ne 5, 3) := by decide +kernel
theorem dX10_readClause_25 : decode cX10_readClause 25 = .ok (.iconst 0, 1) := by decide +kernel
theorem dX10_readClause_26 : decode cX10_readClause 26 = .ok (.ireturn, 1) := by decide +kernel
theorem dX10_readClause_27 : decode cX10_readClause 27 = .ok (.aload_n 0, 1) := by decide +kernel
theorem dX10_readClause_28 : decode cX10_readClause 28 = .ok (.aload_n 0, 1) := by decide +kernel
theorem dX10_readClause_29 : decode cX10_readClause 29 = .ok (.getfield 59, 3) := by decide +kernel
theorem dX10_readClause_32 : decode cX10_readClause 32 = .ok (.putfield 11, 3) := by decide +kernel
theorem dX10_readClause_35 : decode cX10_readClause 35 = .ok (.iconst 1, 1) := by decide +kernel
theorem dX10_readClause_36 : decode cX10_readClause 36 = .ok (.ireturn, 1) := by decide +kernel
theorem dX10_readClause_37 : decode cX10_readClause 37 = .ok (.aload_n 0, 1) := by decide +kernel
theorem dX10_readClause_38 : decode cX10_readClause 38 = .ok (.getfield 39, 3) := by decide +kernel
theorem dX10_readClause_41 : decode cX10_readClause 41 = .ok (.iconst 1, 1) := by decide +kernel
theorem dX10_readClause_42 : decode cX10_readClause 42 = .ok (.iadd, 1) := by decide +kernel
theorem dX10_readClause_43 : decode cX10_readClause 43 = .ok (.aload_n 0, 1) := by decide +kernel
theorem dX10_readClause_44 : decode cX10_readClause 44 = .ok (.getfield 21, 3) := by decide +kernel
theorem dX10_readClause_47 : decode cX10_readClause 47 = .ok (.arraylength, 1) := by decide +kernel
theorem dX10_readClause_48 : decode cX10_readClause 48 = .ok (.if_icmp .ge 23, 3) := by decide +kernel
theorem dX10_readClause_51 : decode cX10_readClause 51 = .ok (.aload_n 0, 1) := by decide +kernel
theorem dX10_readClause_52 : decode cX10_readClause 52 = .ok (.getfield 21, 3) := by decide +kernel
theorem dX10_readClause_55 : decode cX10_readClause 55 = .ok (.aload_n 0, 1) := by decide +kernel
theorem dX10_readClause_56 : decode cX10_readClause 56 = .ok (.getfield 39, 3) := by decide +kernel
theorem dX10_readClause_59 : decode cX10_readClause 59 = .ok (.iconst 1, 1) := by decide +kernel
theorem dX10_readClause_60 : decode cX10_readClause 60 = .ok (.iadd, 1) := by decide +kernel
theorem dX10_readClause_61 : decode cX10_readClause 61 = .ok (.baload, 1) := by decide +kernel
theorem dX10_readClause_62 : decode cX10_readClause 62 = .ok (.bipush 104, 2) := by decide +kernel
theorem dX10_readClause_64 : decode cX10_readClause 64 = .ok (.if_icmp .ne 7, 3) := by decide +kernel
theorem dX10_readClause_67 : decode cX10_readClause 67 = .ok (.iconst 1, 1) := by decide +kernel
theorem dX10_readClause_68 : decode cX10_readClause 68 = .ok (.goto 4, 3) := by decide +kernel
theorem dX10_readClause_71 : decode cX10_readClause 71 = .ok (.iconst 0, 1) := by decide +kernel
theorem dX10_readClause_72 : decode cX10_readClause 72 = .ok (.istore_n 1, 1) := by decide +kernel
theorem dX10_readClause_73 : decode cX10_readClause 73 = .ok (.aload_n 0, 1) := by decide +kernel
theorem dX10_readClause_74 : decode cX10_readClause 74 = .ok (.iload_n 1, 1) := by decide +kernel
theorem dX10_readClause_75 : decode cX10_readClause 75 = .ok (.ifCond .eq 8, 3) := by decide +kernel
theorem dX10_readClause_78 : decode cX10_readClause 78 = .ok (.ldc 71, 2) := by decide +kernel
theorem dX10_readClause_80 : decode cX10_readClause 80 = .ok (.goto 5, 3) := by decide +kernel
theorem dX10_readClause_83 : decode cX10_readClause 83 = .ok (.ldc 73, 2) := by decide +kernel
theorem dX10_readClause_85 : decode cX10_readClause 85 = .ok (.invokevirtual 64, 3) := by decide +kernel
theorem dX10_readClause_88 : decode cX10_readClause 88 = .ok (.ifCond .eq 10, 3) := by decide +kernel
theorem dX10_readClause_91 : decode cX10_readClause 91 = .ok (.aload_n 0, 1) := by decide +kernel
theorem dX10_readClause_92 : decode cX10_readClause 92 = .ok (.invokevirtual 68, 3) := by decide +kernel
theorem dX10_readClause_95 : decode cX10_readClause 95 = .ok (.ifCond .ne 5, 3) := by decide +kernel
theorem dX10_readClause_98 : decode cX10_readClause 98 = .ok (.iconst 0, 1) := by decide +kernel
theorem dX10_readClause_99 : decode cX10_readClause 99 = .ok (.ireturn, 1) := by decide +kernel
theorem dX10_readClause_100 : decode cX10_readClause 100 = .ok (.aload_n 0, 1) := by decide +kernel
theorem dX10_readClause_101 : decode cX10_readClause 101 = .ok (.getfield 59, 3) := by decide +kernel
theorem dX10_readClause_104 : decode cX10_readClause 104 = .ok (.istore_n 2, 1) := by decide +kernel
theorem dX10_readClause_105 : decode cX10_readClause 105 = .ok (.aload_n 0, 1) := by decide +kernel
theorem dX10_readClause_106 : decode cX10_readClause 106 = .ok (.bipush 32, 2) := by decide +kernel
theorem dX10_readClause_108 : decode cX10_readClause 108 = .ok (.invokevirtual 42, 3) := by decide +kernel
theorem dX10_readClause_111 : decode cX10_readClause 111 = .ok (.ifCond .eq 11, 3) := by decide +kernel
theorem dX10_readClause_114 : decode cX10_readClause 114 = .ok (.aload_n 0, 1) := by decide +kernel
theorem dX10_readClause_115 : decode cX10_readClause 115 = .ok (.iconst 0, 1) := by decide +kernel
theorem dX10_readClause_116 : decode cX10_readClause 116 = .ok (.invokevirtual 75, 3) := by decide +kernel
theorem dX10_readClause_119 : decode cX10_readClause 119 = .ok (.ifCond .ne 5, 3) := by decide +kernel
theorem dX10_readClause_122 : decode cX10_readClause 122 = .ok (.iconst 0, 1) := by decide +kernel
theorem dX10_readClause_123 : decode cX10_readClause 123 = .ok (.ireturn, 1) := by decide +kernel
theorem dX10_readClause_124 : decode cX10_readClause 124 = .ok (.aload_n 0, 1) := by decide +kernel
theorem dX10_readClause_125 : decode cX10_readClause 125 = .ok (.iload_n 1, 1) := by decide +kernel
theorem dX10_readClause_126 : decode cX10_readClause 126 = .ok (.ifCond .eq 8, 3) := by decide +kernel
theorem dX10_readClause_129 : decode cX10_readClause 129 = .ok (.bipush 45, 2) := by decide +kernel
theorem dX10_readClause_131 : decode cX10_readClause 131 = .ok (.goto 5, 3) := by decide +kernel
theorem dX10_readClause_134 : decode cX10_readClause 134 = .ok (.bipush 43, 2) := by decide +kernel
theorem dX10_readClause_136 : decode cX10_readClause 136 = .ok (.bipush 32, 2) := by decide +kernel
theorem dX10_readClause_138 : decode cX10_readClause 138 = .ok (.iload_n 2, 1) := by decide +kernel
theorem dX10_readClause_139 : decode cX10_readClause 139 = .ok (.invokevirtual 79, 3) := by decide +kernel
theorem dX10_readClause_142 : decode cX10_readClause 142 = .ok (.iconst 1, 1) := by decide +kernel
theorem dX10_readClause_143 : decode cX10_readClause 143 = .ok (.ireturn, 1) := by decide +kernel
theorem dX10_readEither_0 : decode cX10_readEither 0 = .ok (.aload_n 0, 1) := by decide +kernel
theorem dX10_readEither_1 : decode cX10_readEither 1 = .ok (.iload_n 1, 1) := by decide +kernel
theorem dX10_readEither_2 : decode cX10_readEither 2 = .ok (.invokevirtual 83, 3) := by decide +kernel
theorem dX10_readEither_5 : decode cX10_readEither 5 = .ok (.istore_n 2, 1) := by decide +kernel
theorem dX10_readEither_6 : decode cX10_readEither 6 = .ok (.iconst 0, 1) := by decide +kernel
theorem dX10_readEither_7 : decode cX10_readEither 7 = .ok (.istore_n 3, 1) := by decide +kernel
theorem dX10_readEither_8 : decode cX10_readEither 8 = .ok (.iload_n 3, 1) := by decide +kernel
theorem dX10_readEither_9 : decode cX10_readEither 9 = .ok (.aload_n 0, 1) := by decide +kernel
theorem dX10_readEither_10 : decode cX10_readEither 10 = .ok (.getfield 21, 3) := by decide +kernel
theorem dX10_readEither_13 : decode cX10_readEither 13 = .ok (.arraylength, 1) := by decide +kernel
theorem dX10_readEither_14 : decode cX10_readEither 14 = .ok (.if_icmp .ge 47, 3) := by decide +kernel
theorem dX10_readEither_17 : decode cX10_readEither 17 = .ok (.iload_n 2, 1) := by decide +kernel
theorem dX10_readEither_18 : decode cX10_readEither 18 = .ok (.ifCond .eq 43, 3) := by decide +kernel
theorem dX10_readEither_21 : decode cX10_readEither 21 = .ok (.aload_n 0, 1) := by decide +kernel
theorem dX10_readEither_22 : decode cX10_readEither 22 = .ok (.invokevirtual 46, 3) := by decide +kernel
theorem dX10_readEither_25 : decode cX10_readEither 25 = .ok (.bipush 124, 2) := by decide +kernel
theorem dX10_readEither_27 : decode cX10_readEither 27 = .ok (.if_icmp .ne 34, 3) := by decide +kernel
theorem dX10_readEither_30 : decode cX10_readEither 30 = .ok (.aload_n 0, 1) := by decide +kernel
theorem dX10_readEither_31 : decode cX10_readEither 31 = .ok (.dup, 1) := by decide +kernel
theorem dX10_readEither_32 : decode cX10_readEither 32 = .ok (.getfield 39, 3) := by decide +kernel
theorem dX10_readEither_35 : decode cX10_readEither 35 = .ok (.iconst 1, 1) := by decide +kernel
theorem dX10_readEither_36 : decode cX10_readEither 36 = .ok (.iadd, 1) := by decide +kernel
theorem dX10_readEither_37 : decode cX10_readEither 37 = .ok (.putfield 39, 3) := by decide +kernel
theorem dX10_readEither_40 : decode cX10_readEither 40 = .ok (.aload_n 0, 1) := by decide +kernel
theorem dX10_readEither_41 : decode cX10_readEither 41 = .ok (.iload_n 1, 1) := by decide +kernel
theorem dX10_readEither_42 : decode cX10_readEither 42 = .ok (.invokevirtual 83, 3) := by decide +kernel
theorem dX10_readEither_45 : decode cX10_readEither 45 = .ok (.istore_n 2, 1) := by decide +kernel
theorem dX10_readEither_46 : decode cX10_readEither 46 = .ok (.aload_n 0, 1) := by decide +kernel
theorem dX10_readEither_47 : decode cX10_readEither 47 = .ok (.bipush 124, 2) := by decide +kernel
theorem dX10_readEither_49 : decode cX10_readEither 49 = .ok (.bipush 32, 2) := by decide +kernel
theorem dX10_readEither_51 : decode cX10_readEither 51 = .ok (.iconst 0, 1) := by decide +kernel
theorem dX10_readEither_52 : decode cX10_readEither 52 = .ok (.invokevirtual 79, 3) := by decide +kernel
theorem dX10_readEither_55 : decode cX10_readEither 55 = .ok (.iinc 3 1, 3) := by decide +kernel
theorem dX10_readEither_58 : decode cX10_readEither 58 = .ok (.goto (-50), 3) := by decide +kernel
theorem dX10_readEither_61 : decode cX10_readEither 61 = .ok (.iload_n 2, 1) := by decide +kernel
theorem dX10_readEither_62 : decode cX10_readEither 62 = .ok (.ireturn, 1) := by decide +kernel
theorem dX10_readBoth_0 : decode cX10_readBoth 0 = .ok (.aload_n 0, 1) := by decide +kernel
theorem dX10_readBoth_1 : decode cX10_readBoth 1 = .ok (.iload_n 1, 1) := by decide +kernel
theorem dX10_readBoth_2 : decode cX10_readBoth 2 = .ok (.invokevirtual 86, 3) := by decide +kernel
theorem dX10_readBoth_5 : decode cX10_readBoth 5 = .ok (.istore_n 2, 1) := by decide +kernel
theorem dX10_readBoth_6 : decode cX10_readBoth 6 = .ok (.iconst 0, 1) := by decide +kernel
theorem dX10_readBoth_7 : decode cX10_readBoth 7 = .ok (.istore_n 3, 1) := by decide +kernel
theorem dX10_readBoth_8 : decode cX10_readBoth 8 = .ok (.iload_n 3, 1) := by decide +kernel
theorem dX10_readBoth_9 : decode cX10_readBoth 9 = .ok (.aload_n 0, 1) := by decide +kernel
theorem dX10_readBoth_10 : decode cX10_readBoth 10 = .ok (.getfield 21, 3) := by decide +kernel
theorem dX10_readBoth_13 : decode cX10_readBoth 13 = .ok (.arraylength, 1) := by decide +kernel
theorem dX10_readBoth_14 : decode cX10_readBoth 14 = .ok (.if_icmp .ge 47, 3) := by decide +kernel
theorem dX10_readBoth_17 : decode cX10_readBoth 17 = .ok (.iload_n 2, 1) := by decide +kernel
theorem dX10_readBoth_18 : decode cX10_readBoth 18 = .ok (.ifCond .eq 43, 3) := by decide +kernel
theorem dX10_readBoth_21 : decode cX10_readBoth 21 = .ok (.aload_n 0, 1) := by decide +kernel
theorem dX10_readBoth_22 : decode cX10_readBoth 22 = .ok (.invokevirtual 46, 3) := by decide +kernel
theorem dX10_readBoth_25 : decode cX10_readBoth 25 = .ok (.bipush 38, 2) := by decide +kernel
theorem dX10_readBoth_27 : decode cX10_readBoth 27 = .ok (.if_icmp .ne 34, 3) := by decide +kernel
theorem dX10_readBoth_30 : decode cX10_readBoth 30 = .ok (.aload_n 0, 1) := by decide +kernel
theorem dX10_readBoth_31 : decode cX10_readBoth 31 = .ok (.dup, 1) := by decide +kernel
theorem dX10_readBoth_32 : decode cX10_readBoth 32 = .ok (.getfield 39, 3) := by decide +kernel
theorem dX10_readBoth_35 : decode cX10_readBoth 35 = .ok (.iconst 1, 1) := by decide +kernel
theorem dX10_readBoth_36 : decode cX10_readBoth 36 = .ok (.iadd, 1) := by decide +kernel
theorem dX10_readBoth_37 : decode cX10_readBoth 37 = .ok (.putfield 39, 3) := by decide +kernel
theorem dX10_readBoth_40 : decode cX10_readBoth 40 = .ok (.aload_n 0, 1) := by decide +kernel
theorem dX10_readBoth_41 : decode cX10_readBoth 41 = .ok (.iload_n 1, 1) := by decide +kernel
theorem dX10_readBoth_42 : decode cX10_readBoth 42 = .ok (.invokevirtual 86, 3) := by decide +kernel
theorem dX10_readBoth_45 : decode cX10_readBoth 45 = .ok (.istore_n 2, 1) := by decide +kernel
theorem dX10_readBoth_46 : decode cX10_readBoth 46 = .ok (.aload_n 0, 1) := by decide +kernel
theorem dX10_readBoth_47 : decode cX10_readBoth 47 = .ok (.bipush 38, 2) := by decide +kernel
theorem dX10_readBoth_49 : decode cX10_readBoth 49 = .ok (.bipush 32, 2) := by decide +kernel
theorem dX10_readBoth_51 : decode cX10_readBoth 51 = .ok (.iconst 0, 1) := by decide +kernel
theorem dX10_readBoth_52 : decode cX10_readBoth 52 = .ok (.invokevirtual 79, 3) := by decide +kernel
theorem dX10_readBoth_55 : decode cX10_readBoth 55 = .ok (.iinc 3 1, 3) := by decide +kernel
theorem dX10_readBoth_58 : decode cX10_readBoth 58 = .ok (.goto (-50), 3) := by decide +kernel
theorem dX10_readBoth_61 : decode cX10_readBoth 61 = .ok (.iload_n 2, 1) := by decide +kernel
theorem dX10_readBoth_62 : decode cX10_readBoth 62 = .ok (.ireturn, 1) := by decide +kernel
theorem dX10_readOne_0 : decode cX10_readOne 0 = .ok (.aload_n 0, 1) := by decide +kernel
theorem dX10_readOne_1 : decode cX10_readOne 1 = .ok (.invokevirtual 46, 3) := by decide +kernel
theorem dX10_readOne_4 : decode cX10_readOne 4 = .ok (.istore_n 2, 1) := by decide +kernel
theorem dX10_readOne_5 : decode cX10_readOne 5 = .ok (.iload_n 2, 1) := by decide +kernel
theorem dX10_readOne_6 : decode cX10_readOne 6 = .ok (.bipush 33, 2) := by decide +kernel
theorem dX10_readOne_8 : decode cX10_readOne 8 = .ok (.if_icmp .eq 14, 3) := by decide +kernel
theorem dX10_readOne_11 : decode cX10_readOne 11 = .ok (.iload_n 2, 1) := by decide +kernel
theorem dX10_readOne_12 : decode cX10_readOne 12 = .ok (.bipush 40, 2) := by decide +kernel
theorem dX10_readOne_14 : decode cX10_readOne 14 = .ok (.if_icmp .eq 8, 3) := by decide +kernel
theorem dX10_readOne_17 : decode cX10_readOne 17 = .ok (.aload_n 0, 1) := by decide +kernel
theorem dX10_readOne_18 : decode cX10_readOne 18 = .ok (.invokevirtual 89, 3) := by decide +kernel
theorem dX10_readOne_21 : decode cX10_readOne 21 = .ok (.ireturn, 1) := by decide +kernel
theorem dX10_readOne_22 : decode cX10_readOne 22 = .ok (.iload_n 1, 1) := by decide +kernel
theorem dX10_readOne_23 : decode cX10_readOne 23 = .ok (.iconst 4, 1) := by decide +kernel
theorem dX10_readOne_24 : decode cX10_readOne 24 = .ok (.if_icmp .lt 5, 3) := by decide +kernel
theorem dX10_readOne_27 : decode cX10_readOne 27 = .ok (.iconst 0, 1) := by decide +kernel
theorem dX10_readOne_28 : decode cX10_readOne 28 = .ok (.ireturn, 1) := by decide +kernel
theorem dX10_readOne_29 : decode cX10_readOne 29 = .ok (.aload_n 0, 1) := by decide +kernel
theorem dX10_readOne_30 : decode cX10_readOne 30 = .ok (.dup, 1) := by decide +kernel
theorem dX10_readOne_31 : decode cX10_readOne 31 = .ok (.getfield 39, 3) := by decide +kernel
theorem dX10_readOne_34 : decode cX10_readOne 34 = .ok (.iconst 1, 1) := by decide +kernel
theorem dX10_readOne_35 : decode cX10_readOne 35 = .ok (.iadd, 1) := by decide +kernel
theorem dX10_readOne_36 : decode cX10_readOne 36 = .ok (.putfield 39, 3) := by decide +kernel
theorem dX10_readOne_39 : decode cX10_readOne 39 = .ok (.iload_n 2, 1) := by decide +kernel
theorem dX10_readOne_40 : decode cX10_readOne 40 = .ok (.bipush 40, 2) := by decide +kernel
theorem dX10_readOne_42 : decode cX10_readOne 42 = .ok (.if_icmp .ne 28, 3) := by decide +kernel
theorem dX10_readOne_45 : decode cX10_readOne 45 = .ok (.aload_n 0, 1) := by decide +kernel
theorem dX10_readOne_46 : decode cX10_readOne 46 = .ok (.iload_n 1, 1) := by decide +kernel
theorem dX10_readOne_47 : decode cX10_readOne 47 = .ok (.iconst 1, 1) := by decide +kernel
theorem dX10_readOne_48 : decode cX10_readOne 48 = .ok (.iadd, 1) := by decide +kernel
theorem dX10_readOne_49 : decode cX10_readOne 49 = .ok (.invokevirtual 75, 3) := by decide +kernel
theorem dX10_readOne_52 : decode cX10_readOne 52 = .ok (.ifCond .eq 16, 3) := by decide +kernel
theorem dX10_readOne_55 : decode cX10_readOne 55 = .ok (.aload_n 0, 1) := by decide +kernel
theorem dX10_readOne_56 : decode cX10_readOne 56 = .ok (.bipush 41, 2) := by decide +kernel
theorem dX10_readOne_58 : decode cX10_readOne 58 = .ok (.invokevirtual 42, 3) := by decide +kernel
theorem dX10_readOne_61 : decode cX10_readOne 61 = .ok (.ifCond .eq 7, 3) := by decide +kernel
theorem dX10_readOne_64 : decode cX10_readOne 64 = .ok (.iconst 1, 1) := by decide +kernel
theorem dX10_readOne_65 : decode cX10_readOne 65 = .ok (.goto 4, 3) := by decide +kernel
theorem dX10_readOne_68 : decode cX10_readOne 68 = .ok (.iconst 0, 1) := by decide +kernel
theorem dX10_readOne_69 : decode cX10_readOne 69 = .ok (.ireturn, 1) := by decide +kernel
theorem dX10_readOne_70 : decode cX10_readOne 70 = .ok (.aload_n 0, 1) := by decide +kernel
theorem dX10_readOne_71 : decode cX10_readOne 71 = .ok (.iload_n 1, 1) := by decide +kernel
theorem dX10_readOne_72 : decode cX10_readOne 72 = .ok (.iconst 1, 1) := by decide +kernel
theorem dX10_readOne_73 : decode cX10_readOne 73 = .ok (.iadd, 1) := by decide +kernel
theorem dX10_readOne_74 : decode cX10_readOne 74 = .ok (.invokevirtual 86, 3) := by decide +kernel
theorem dX10_readOne_77 : decode cX10_readOne 77 = .ok (.istore_n 3, 1) := by decide +kernel
theorem dX10_readOne_78 : decode cX10_readOne 78 = .ok (.aload_n 0, 1) := by decide +kernel
theorem dX10_readOne_79 : decode cX10_readOne 79 = .ok (.bipush 33, 2) := by decide +kernel
theorem dX10_readOne_81 : decode cX10_readOne 81 = .ok (.bipush 32, 2) := by decide +kernel
theorem dX10_readOne_83 : decode cX10_readOne 83 = .ok (.iconst 0, 1) := by decide +kernel
theorem dX10_readOne_84 : decode cX10_readOne 84 = .ok (.invokevirtual 79, 3) := by decide +kernel
theorem dX10_readOne_87 : decode cX10_readOne 87 = .ok (.iload_n 3, 1) := by decide +kernel
theorem dX10_readOne_88 : decode cX10_readOne 88 = .ok (.ireturn, 1) := by decide +kernel
theorem dX10_readTest_0 : decode cX10_readTest 0 = .ok (.aload_n 0, 1) := by decide +kernel
theorem dX10_readTest_1 : decode cX10_readTest 1 = .ok (.invokevirtual 46, 3) := by decide +kernel
theorem dX10_readTest_4 : decode cX10_readTest 4 = .ok (.istore_n 1, 1) := by decide +kernel
theorem dX10_readTest_5 : decode cX10_readTest 5 = .ok (.iload_n 1, 1) := by decide +kernel
theorem dX10_readTest_6 : decode cX10_readTest 6 = .ok (.ifCond .lt 13, 3) := by decide +kernel
theorem dX10_readTest_9 : decode cX10_readTest 9 = .ok (.ldc 92, 2) := by decide +kernel
theorem dX10_readTest_11 : decode cX10_readTest 11 = .ok (.iload_n 1, 1) := by decide +kernel
theorem dX10_readTest_12 : decode cX10_readTest 12 = .ok (.i2c, 1) := by decide +kernel
theorem dX10_readTest_13 : decode cX10_readTest 13 = .ok (.invokevirtual 94, 3) := by decide +kernel
theorem dX10_readTest_16 : decode cX10_readTest 16 = .ok (.ifCond .ge 5, 3) := by decide +kernel
theorem dX10_readTest_19 : decode cX10_readTest 19 = .ok (.iconst 0, 1) := by decide +kernel
theorem dX10_readTest_20 : decode cX10_readTest 20 = .ok (.ireturn, 1) := by decide +kernel
theorem dX10_readTest_21 : decode cX10_readTest 21 = .ok (.aload_n 0, 1) := by decide +kernel
theorem dX10_readTest_22 : decode cX10_readTest 22 = .ok (.dup, 1) := by decide +kernel
theorem dX10_readTest_23 : decode cX10_readTest 23 = .ok (.getfield 39, 3) := by decide +kernel
theorem dX10_readTest_26 : decode cX10_readTest 26 = .ok (.iconst 1, 1) := by decide +kernel
theorem dX10_readTest_27 : decode cX10_readTest 27 = .ok (.iadd, 1) := by decide +kernel
theorem dX10_readTest_28 : decode cX10_readTest 28 = .ok (.putfield 39, 3) := by decide +kernel
theorem dX10_readTest_31 : decode cX10_readTest 31 = .ok (.aload_n 0, 1) := by decide +kernel
theorem dX10_readTest_32 : decode cX10_readTest 32 = .ok (.invokevirtual 46, 3) := by decide +kernel
theorem dX10_readTest_35 : decode cX10_readTest 35 = .ok (.istore_n 2, 1) := by decide +kernel
theorem dX10_readTest_36 : decode cX10_readTest 36 = .ok (.iload_n 2, 1) := by decide +kernel
theorem dX10_readTest_37 : decode cX10_readTest 37 = .ok (.bipush 60, 2) := by decide +kernel
theorem dX10_readTest_39 : decode cX10_readTest 39 = .ok (.if_icmp .eq 17, 3) := by decide +kernel
theorem dX10_readTest_42 : decode cX10_readTest 42 = .ok (.iload_n 2, 1) := by decide +kernel
theorem dX10_readTest_43 : decode cX10_readTest 43 = .ok (.bipush 61, 2) := by decide +kernel
theorem dX10_readTest_45 : decode cX10_readTest 45 = .ok (.if_icmp .eq 11, 3) := by decide +kernel
theorem dX10_readTest_48 : decode cX10_readTest 48 = .ok (.iload_n 2, 1) := by decide +kernel
theorem dX10_readTest_49 : decode cX10_readTest 49 = .ok (.bipush 62, 2) := by decide +kernel
theorem dX10_readTest_51 : decode cX10_readTest 51 = .ok (.if_icmp .eq 5, 3) := by decide +kernel
theorem dX10_readTest_54 : decode cX10_readTest 54 = .ok (.iconst 0, 1) := by decide +kernel
theorem dX10_readTest_55 : decode cX10_readTest 55 = .ok (.ireturn, 1) := by decide +kernel
theorem dX10_readTest_56 : decode cX10_readTest 56 = .ok (.aload_n 0, 1) := by decide +kernel
theorem dX10_readTest_57 : decode cX10_readTest 57 = .ok (.dup, 1) := by decide +kernel
theorem dX10_readTest_58 : decode cX10_readTest 58 = .ok (.getfield 39, 3) := by decide +kernel
theorem dX10_readTest_61 : decode cX10_readTest 61 = .ok (.iconst 1, 1) := by decide +kernel
theorem dX10_readTest_62 : decode cX10_readTest 62 = .ok (.iadd, 1) := by decide +kernel
theorem dX10_readTest_63 : decode cX10_readTest 63 = .ok (.putfield 39, 3) := by decide +kernel
theorem dX10_readTest_66 : decode cX10_readTest 66 = .ok (.aload_n 0, 1) := by decide +kernel
theorem dX10_readTest_67 : decode cX10_readTest 67 = .ok (.invokevirtual 68, 3) := by decide +kernel
theorem dX10_readTest_70 : decode cX10_readTest 70 = .ok (.ifCond .ne 5, 3) := by decide +kernel
theorem dX10_readTest_73 : decode cX10_readTest 73 = .ok (.iconst 0, 1) := by decide +kernel
theorem dX10_readTest_74 : decode cX10_readTest 74 = .ok (.ireturn, 1) := by decide +kernel
theorem dX10_readTest_75 : decode cX10_readTest 75 = .ok (.iload_n 1, 1) := by decide +kernel
theorem dX10_readTest_76 : decode cX10_readTest 76 = .ok (.bipush 104, 2) := by decide +kernel
theorem dX10_readTest_78 : decode cX10_readTest 78 = .ok (.if_icmp .ne 23, 3) := by decide +kernel
theorem dX10_readTest_81 : decode cX10_readTest 81 = .ok (.aload_n 0, 1) := by decide +kernel
theorem dX10_readTest_82 : decode cX10_readTest 82 = .ok (.bipush 104, 2) := by decide +kernel
theorem dX10_readTest_84 : decode cX10_readTest 84 = .ok (.bipush 32, 2) := by decide +kernel
theorem dX10_readTest_86 : decode cX10_readTest 86 = .ok (.iload_n 2, 1) := by decide +kernel
theorem dX10_readTest_87 : decode cX10_readTest 87 = .ok (.i2c, 1) := by decide +kernel
theorem dX10_readTest_88 : decode cX10_readTest 88 = .ok (.aload_n 0, 1) := by decide +kernel
theorem dX10_readTest_89 : decode cX10_readTest 89 = .ok (.getfield 59, 3) := by decide +kernel
theorem dX10_readTest_92 : decode cX10_readTest 92 = .ok (.invokestatic 98, 3) := by decide +kernel
theorem dX10_readTest_95 : decode cX10_readTest 95 = .ok (.invokevirtual 79, 3) := by decide +kernel
theorem dX10_readTest_98 : decode cX10_readTest 98 = .ok (.goto 15, 3) := by decide +kernel
theorem dX10_readTest_101 : decode cX10_readTest 101 = .ok (.aload_n 0, 1) := by decide +kernel
theorem dX10_readTest_102 : decode cX10_readTest 102 = .ok (.iload_n 2, 1) := by decide +kernel
theorem dX10_readTest_103 : decode cX10_readTest 103 = .ok (.i2c, 1) := by decide +kernel
theorem dX10_readTest_104 : decode cX10_readTest 104 = .ok (.iload_n 1, 1) := by decide +kernel
theorem dX10_readTest_105 : decode cX10_readTest 105 = .ok (.i2c, 1) := by decide +kernel
theorem dX10_readTest_106 : decode cX10_readTest 106 = .ok (.aload_n 0, 1) := by decide +kernel
theorem dX10_readTest_107 : decode cX10_readTest 107 = .ok (.getfield 59, 3) := by decide +kernel
theorem dX10_readTest_110 : decode cX10_readTest 110 = .ok (.invokevirtual 79, 3) := by decide +kernel
theorem dX10_readTest_113 : decode cX10_readTest 113 = .ok (.iconst 1, 1) := by decide +kernel
theorem dX10_readTest_114 : decode cX10_readTest 114 = .ok (.ireturn, 1) := by decide +kernel
theorem dX10_hoursThat_0 : decode cX10_hoursThat 0 = .ok (.iconst 1, 1) := by decide +kernel
theorem dX10_hoursThat_1 : decode cX10_hoursThat 1 = .ok (.iload_n 1, 1) := by decide +kernel
theorem dX10_hoursThat_2 : decode cX10_hoursThat 2 = .ok (.bipush 12, 2) := by decide +kernel
theorem dX10_hoursThat_4 : decode cX10_hoursThat 4 = .ok (.if_icmp .ge 7, 3) := by decide +kernel
theorem dX10_hoursThat_7 : decode cX10_hoursThat 7 = .ok (.iload_n 1, 1) := by decide +kernel
theorem dX10_hoursThat_8 : decode cX10_hoursThat 8 = .ok (.goto 5, 3) := by decide +kernel
theorem dX10_hoursThat_11 : decode cX10_hoursThat 11 = .ok (.bipush 12, 2) := by decide +kernel
theorem dX10_hoursThat_13 : decode cX10_hoursThat 13 = .ok (.ishl, 1) := by decide +kernel
theorem dX10_hoursThat_14 : decode cX10_hoursThat 14 = .ok (.istore_n 2, 1) := by decide +kernel
theorem dX10_hoursThat_15 : decode cX10_hoursThat 15 = .ok (.iload_n 0, 1) := by decide +kernel
theorem dX10_hoursThat_16 : decode cX10_hoursThat 16 = .ok (.lookupswitch 38 #[(60, 28), (61, 32)], 28) := by decide +kernel
theorem dX10_hoursThat_44 : decode cX10_hoursThat 44 = .ok (.iload_n 2, 1) := by decide +kernel
theorem dX10_hoursThat_45 : decode cX10_hoursThat 45 = .ok (.iconst 1, 1) := by decide +kernel
theorem dX10_hoursThat_46 : decode cX10_hoursThat 46 = .ok (.isub, 1) := by decide +kernel
theorem dX10_hoursThat_47 : decode cX10_hoursThat 47 = .ok (.ireturn, 1) := by decide +kernel
theorem dX10_hoursThat_48 : decode cX10_hoursThat 48 = .ok (.iload_n 2, 1) := by decide +kernel
theorem dX10_hoursThat_49 : decode cX10_hoursThat 49 = .ok (.sipush 4095, 3) := by decide +kernel
theorem dX10_hoursThat_52 : decode cX10_hoursThat 52 = .ok (.iand, 1) := by decide +kernel
theorem dX10_hoursThat_53 : decode cX10_hoursThat 53 = .ok (.ireturn, 1) := by decide +kernel
theorem dX10_hoursThat_54 : decode cX10_hoursThat 54 = .ok (.sipush 4095, 3) := by decide +kernel
theorem dX10_hoursThat_57 : decode cX10_hoursThat 57 = .ok (.iload_n 2, 1) := by decide +kernel
theorem dX10_hoursThat_58 : decode cX10_hoursThat 58 = .ok (.iload_n 2, 1) := by decide +kernel
theorem dX10_hoursThat_59 : decode cX10_hoursThat 59 = .ok (.iconst 1, 1) := by decide +kernel
theorem dX10_hoursThat_60 : decode cX10_hoursThat 60 = .ok (.isub, 1) := by decide +kernel
theorem dX10_hoursThat_61 : decode cX10_hoursThat 61 = .ok (.ior, 1) := by decide +kernel
theorem dX10_hoursThat_62 : decode cX10_hoursThat 62 = .ok (.iconst (-1), 1) := by decide +kernel
theorem dX10_hoursThat_63 : decode cX10_hoursThat 63 = .ok (.ixor, 1) := by decide +kernel
theorem dX10_hoursThat_64 : decode cX10_hoursThat 64 = .ok (.iand, 1) := by decide +kernel
theorem dX10_hoursThat_65 : decode cX10_hoursThat 65 = .ok (.ireturn, 1) := by decide +kernel
theorem dX10_holds_0 : decode cX10_holds 0 = .ok (.iload_n 1, 1) := by decide +kernel
theorem dX10_holds_1 : decode cX10_holds 1 = .ok (.lookupswitch 49 #[(60, 27), (61, 38)], 27) := by decide +kernel
theorem dX10_holds_28 : decode cX10_holds 28 = .ok (.iload_n 0, 1) := by decide +kernel
theorem dX10_holds_29 : decode cX10_holds 29 = .ok (.iload_n 2, 1) := by decide +kernel
theorem dX10_holds_30 : decode cX10_holds 30 = .ok (.if_icmp .ge 7, 3) := by decide +kernel
theorem dX10_holds_33 : decode cX10_holds 33 = .ok (.iconst 1, 1) := by decide +kernel
theorem dX10_holds_34 : decode cX10_holds 34 = .ok (.goto 4, 3) := by decide +kernel
theorem dX10_holds_37 : decode cX10_holds 37 = .ok (.iconst 0, 1) := by decide +kernel
theorem dX10_holds_38 : decode cX10_holds 38 = .ok (.ireturn, 1) := by decide +kernel
theorem dX10_holds_39 : decode cX10_holds 39 = .ok (.iload_n 0, 1) := by decide +kernel
theorem dX10_holds_40 : decode cX10_holds 40 = .ok (.iload_n 2, 1) := by decide +kernel
theorem dX10_holds_41 : decode cX10_holds 41 = .ok (.if_icmp .ne 7, 3) := by decide +kernel
theorem dX10_holds_44 : decode cX10_holds 44 = .ok (.iconst 1, 1) := by decide +kernel
theorem dX10_holds_45 : decode cX10_holds 45 = .ok (.goto 4, 3) := by decide +kernel
theorem dX10_holds_48 : decode cX10_holds 48 = .ok (.iconst 0, 1) := by decide +kernel
theorem dX10_holds_49 : decode cX10_holds 49 = .ok (.ireturn, 1) := by decide +kernel
theorem dX10_holds_50 : decode cX10_holds 50 = .ok (.iload_n 0, 1) := by decide +kernel
theorem dX10_holds_51 : decode cX10_holds 51 = .ok (.iload_n 2, 1) := by decide +kernel
theorem dX10_holds_52 : decode cX10_holds 52 = .ok (.if_icmp .le 7, 3) := by decide +kernel
theorem dX10_holds_55 : decode cX10_holds 55 = .ok (.iconst 1, 1) := by decide +kernel
theorem dX10_holds_56 : decode cX10_holds 56 = .ok (.goto 4, 3) := by decide +kernel
theorem dX10_holds_59 : decode cX10_holds 59 = .ok (.iconst 0, 1) := by decide +kernel
theorem dX10_holds_60 : decode cX10_holds 60 = .ok (.ireturn, 1) := by decide +kernel
theorem dX10_addStep_0 : decode cX10_addStep 0 = .ok (.aload_n 0, 1) := by decide +kernel
theorem dX10_addStep_1 : decode cX10_addStep 1 = .ok (.getfield 102, 3) := by decide +kernel
theorem dX10_addStep_4 : decode cX10_addStep 4 = .ok (.aload_n 0, 1) := by decide +kernel
theorem dX10_addStep_5 : decode cX10_addStep 5 = .ok (.getfield 25, 3) := by decide +kernel
theorem dX10_addStep_8 : decode cX10_addStep 8 = .ok (.arraylength, 1) := by decide +kernel
theorem dX10_addStep_9 : decode cX10_addStep 9 = .ok (.if_icmp .ge 43, 3) := by decide +kernel
theorem dX10_addStep_12 : decode cX10_addStep 12 = .ok (.aload_n 0, 1) := by decide +kernel
theorem dX10_addStep_13 : decode cX10_addStep 13 = .ok (.getfield 25, 3) := by decide +kernel
theorem dX10_addStep_16 : decode cX10_addStep 16 = .ok (.aload_n 0, 1) := by decide +kernel
theorem dX10_addStep_17 : decode cX10_addStep 17 = .ok (.getfield 102, 3) := by decide +kernel
theorem dX10_addStep_20 : decode cX10_addStep 20 = .ok (.iload_n 1, 1) := by decide +kernel
theorem dX10_addStep_21 : decode cX10_addStep 21 = .ok (.castore, 1) := by decide +kernel
theorem dX10_addStep_22 : decode cX10_addStep 22 = .ok (.aload_n 0, 1) := by decide +kernel
theorem dX10_addStep_23 : decode cX10_addStep 23 = .ok (.getfield 29, 3) := by decide +kernel
theorem dX10_addStep_26 : decode cX10_addStep 26 = .ok (.aload_n 0, 1) := by decide +kernel
theorem dX10_addStep_27 : decode cX10_addStep 27 = .ok (.getfield 102, 3) := by decide +kernel
theorem dX10_addStep_30 : decode cX10_addStep 30 = .ok (.iload_n 2, 1) := by decide +kernel
theorem dX10_addStep_31 : decode cX10_addStep 31 = .ok (.castore, 1) := by decide +kernel
theorem dX10_addStep_32 : decode cX10_addStep 32 = .ok (.aload_n 0, 1) := by decide +kernel
theorem dX10_addStep_33 : decode cX10_addStep 33 = .ok (.getfield 32, 3) := by decide +kernel
theorem dX10_addStep_36 : decode cX10_addStep 36 = .ok (.aload_n 0, 1) := by decide +kernel
theorem dX10_addStep_37 : decode cX10_addStep 37 = .ok (.getfield 102, 3) := by decide +kernel
theorem dX10_addStep_40 : decode cX10_addStep 40 = .ok (.iload_n 3, 1) := by decide +kernel
theorem dX10_addStep_41 : decode cX10_addStep 41 = .ok (.iastore, 1) := by decide +kernel
theorem dX10_addStep_42 : decode cX10_addStep 42 = .ok (.aload_n 0, 1) := by decide +kernel
theorem dX10_addStep_43 : decode cX10_addStep 43 = .ok (.dup, 1) := by decide +kernel
theorem dX10_addStep_44 : decode cX10_addStep 44 = .ok (.getfield 102, 3) := by decide +kernel
theorem dX10_addStep_47 : decode cX10_addStep 47 = .ok (.iconst 1, 1) := by decide +kernel
theorem dX10_addStep_48 : decode cX10_addStep 48 = .ok (.iadd, 1) := by decide +kernel
theorem dX10_addStep_49 : decode cX10_addStep 49 = .ok (.putfield 102, 3) := by decide +kernel
theorem dX10_addStep_52 : decode cX10_addStep 52 = .ok (.return_, 1) := by decide +kernel
theorem dX10_shine_0 : decode cX10_shine 0 = .ok (.iconst (-1), 1) := by decide +kernel
theorem dX10_shine_1 : decode cX10_shine 1 = .ok (.istore_n 3, 1) := by decide +kernel
theorem dX10_shine_2 : decode cX10_shine 2 = .ok (.iconst 0, 1) := by decide +kernel
theorem dX10_shine_3 : decode cX10_shine 3 = .ok (.istore 4, 2) := by decide +kernel
theorem dX10_shine_5 : decode cX10_shine 5 = .ok (.iload 4, 2) := by decide +kernel
theorem dX10_shine_7 : decode cX10_shine 7 = .ok (.aload_n 0, 1) := by decide +kernel
theorem dX10_shine_8 : decode cX10_shine 8 = .ok (.getfield 102, 3) := by decide +kernel
theorem dX10_shine_11 : decode cX10_shine 11 = .ok (.if_icmp .ge 204, 3) := by decide +kernel
theorem dX10_shine_14 : decode cX10_shine 14 = .ok (.aload_n 0, 1) := by decide +kernel
theorem dX10_shine_15 : decode cX10_shine 15 = .ok (.getfield 25, 3) := by decide +kernel
theorem dX10_shine_18 : decode cX10_shine 18 = .ok (.iload 4, 2) := by decide +kernel
theorem dX10_shine_20 : decode cX10_shine 20 = .ok (.caload, 1) := by decide +kernel
theorem dX10_shine_21 : decode cX10_shine 21 = .ok (.istore 5, 2) := by decide +kernel
theorem dX10_shine_23 : decode cX10_shine 23 = .ok (.iload 5, 2) := by decide +kernel
theorem dX10_shine_25 : decode cX10_shine 25 = .ok (.bipush 38, 2) := by decide +kernel
theorem dX10_shine_27 : decode cX10_shine 27 = .ok (.if_icmp .eq 10, 3) := by decide +kernel
theorem dX10_shine_30 : decode cX10_shine 30 = .ok (.iload 5, 2) := by decide +kernel
theorem dX10_shine_32 : decode cX10_shine 32 = .ok (.bipush 124, 2) := by decide +kernel
theorem dX10_shine_34 : decode cX10_shine 34 = .ok (.if_icmp .ne 60, 3) := by decide +kernel
theorem dX10_shine_37 : decode cX10_shine 37 = .ok (.iload_n 3, 1) := by decide +kernel
theorem dX10_shine_38 : decode cX10_shine 38 = .ok (.iconst 1, 1) := by decide +kernel
theorem dX10_shine_39 : decode cX10_shine 39 = .ok (.if_icmp .lt 170, 3) := by decide +kernel
theorem dX10_shine_42 : decode cX10_shine 42 = .ok (.iinc 3 (-1), 3) := by decide +kernel
theorem dX10_shine_45 : decode cX10_shine 45 = .ok (.aload_n 0, 1) := by decide +kernel
theorem dX10_shine_46 : decode cX10_shine 46 = .ok (.getfield 17, 3) := by decide +kernel
theorem dX10_shine_49 : decode cX10_shine 49 = .ok (.iload_n 3, 1) := by decide +kernel
theorem dX10_shine_50 : decode cX10_shine 50 = .ok (.iload 5, 2) := by decide +kernel
theorem dX10_shine_52 : decode cX10_shine 52 = .ok (.bipush 38, 2) := by decide +kernel
theorem dX10_shine_54 : decode cX10_shine 54 = .ok (.if_icmp .ne 21, 3) := by decide +kernel
theorem dX10_shine_57 : decode cX10_shine 57 = .ok (.aload_n 0, 1) := by decide +kernel
theorem dX10_shine_58 : decode cX10_shine 58 = .ok (.getfield 17, 3) := by decide +kernel
theorem dX10_shine_61 : decode cX10_shine 61 = .ok (.iload_n 3, 1) := by decide +kernel
theorem dX10_shine_62 : decode cX10_shine 62 = .ok (.iaload, 1) := by decide +kernel
theorem dX10_shine_63 : decode cX10_shine 63 = .ok (.aload_n 0, 1) := by decide +kernel
theorem dX10_shine_64 : decode cX10_shine 64 = .ok (.getfield 17, 3) := by decide +kernel
theorem dX10_shine_67 : decode cX10_shine 67 = .ok (.iload_n 3, 1) := by decide +kernel
theorem dX10_shine_68 : decode cX10_shine 68 = .ok (.iconst 1, 1) := by decide +kernel
theorem dX10_shine_69 : decode cX10_shine 69 = .ok (.iadd, 1) := by decide +kernel
theorem dX10_shine_70 : decode cX10_shine 70 = .ok (.iaload, 1) := by decide +kernel
theorem dX10_shine_71 : decode cX10_shine 71 = .ok (.iand, 1) := by decide +kernel
theorem dX10_shine_72 : decode cX10_shine 72 = .ok (.goto 18, 3) := by decide +kernel
theorem dX10_shine_75 : decode cX10_shine 75 = .ok (.aload_n 0, 1) := by decide +kernel
theorem dX10_shine_76 : decode cX10_shine 76 = .ok (.getfield 17, 3) := by decide +kernel
theorem dX10_shine_79 : decode cX10_shine 79 = .ok (.iload_n 3, 1) := by decide +kernel
theorem dX10_shine_80 : decode cX10_shine 80 = .ok (.iaload, 1) := by decide +kernel
theorem dX10_shine_81 : decode cX10_shine 81 = .ok (.aload_n 0, 1) := by decide +kernel
theorem dX10_shine_82 : decode cX10_shine 82 = .ok (.getfield 17, 3) := by decide +kernel
theorem dX10_shine_85 : decode cX10_shine 85 = .ok (.iload_n 3, 1) := by decide +kernel
theorem dX10_shine_86 : decode cX10_shine 86 = .ok (.iconst 1, 1) := by decide +kernel
theorem dX10_shine_87 : decode cX10_shine 87 = .ok (.iadd, 1) := by decide +kernel
theorem dX10_shine_88 : decode cX10_shine 88 = .ok (.iaload, 1) := by decide +kernel
theorem dX10_shine_89 : decode cX10_shine 89 = .ok (.ior, 1) := by decide +kernel
theorem dX10_shine_90 : decode cX10_shine 90 = .ok (.iastore, 1) := by decide +kernel
theorem dX10_shine_91 : decode cX10_shine 91 = .ok (.goto 118, 3) := by decide +kernel
theorem dX10_shine_94 : decode cX10_shine 94 = .ok (.iload 5, 2) := by decide +kernel
theorem dX10_shine_96 : decode cX10_shine 96 = .ok (.bipush 33, 2) := by decide +kernel
theorem dX10_shine_98 : decode cX10_shine 98 = .ok (.if_icmp .ne 22, 3) := by decide +kernel
theorem dX10_shine_101 : decode cX10_shine 101 = .ok (.iload_n 3, 1) := by decide +kernel
theorem dX10_shine_102 : decode cX10_shine 102 = .ok (.ifCond .lt 107, 3) := by decide +kernel
theorem dX10_shine_105 : decode cX10_shine 105 = .ok (.aload_n 0, 1) := by decide +kernel
theorem dX10_shine_106 : decode cX10_shine 106 = .ok (.getfield 17, 3) := by decide +kernel
theorem dX10_shine_109 : decode cX10_shine 109 = .ok (.iload_n 3, 1) := by decide +kernel
theorem dX10_shine_110 : decode cX10_shine 110 = .ok (.dup2, 1) := by decide +kernel
theorem dX10_shine_111 : decode cX10_shine 111 = .ok (.iaload, 1) := by decide +kernel
theorem dX10_shine_112 : decode cX10_shine 112 = .ok (.sipush 4095, 3) := by decide +kernel
theorem dX10_shine_115 : decode cX10_shine 115 = .ok (.ixor, 1) := by decide +kernel
theorem dX10_shine_116 : decode cX10_shine 116 = .ok (.iastore, 1) := by decide +kernel
theorem dX10_shine_117 : decode cX10_shine 117 = .ok (.goto 92, 3) := by decide +kernel
theorem dX10_shine_120 : decode cX10_shine 120 = .ok (.iload 5, 2) := by decide +kernel
theorem dX10_shine_122 : decode cX10_shine 122 = .ok (.bipush 43, 2) := by decide +kernel
theorem dX10_shine_124 : decode cX10_shine 124 = .ok (.if_icmp .eq 10, 3) := by decide +kernel
theorem dX10_shine_127 : decode cX10_shine 127 = .ok (.iload 5, 2) := by decide +kernel
theorem dX10_shine_129 : decode cX10_shine 129 = .ok (.bipush 45, 2) := by decide +kernel
theorem dX10_shine_131 : decode cX10_shine 131 = .ok (.if_icmp .ne 53, 3) := by decide +kernel
theorem dX10_shine_134 : decode cX10_shine 134 = .ok (.iload_n 3, 1) := by decide +kernel
theorem dX10_shine_135 : decode cX10_shine 135 = .ok (.ifCond .lt 74, 3) := by decide +kernel
theorem dX10_shine_138 : decode cX10_shine 138 = .ok (.aload_n 1, 1) := by decide +kernel
theorem dX10_shine_139 : decode cX10_shine 139 = .ok (.getfield 105, 3) := by decide +kernel
theorem dX10_shine_142 : decode cX10_shine 142 = .ok (.iload_n 2, 1) := by decide +kernel
theorem dX10_shine_143 : decode cX10_shine 143 = .ok (.aaload, 1) := by decide +kernel
theorem dX10_shine_144 : decode cX10_shine 144 = .ok (.aload_n 0, 1) := by decide +kernel
theorem dX10_shine_145 : decode cX10_shine 145 = .ok (.getfield 17, 3) := by decide +kernel
theorem dX10_shine_148 : decode cX10_shine 148 = .ok (.iload_n 3, 1) := by decide +kernel
theorem dX10_shine_149 : decode cX10_shine 149 = .ok (.iaload, 1) := by decide +kernel
theorem dX10_shine_150 : decode cX10_shine 150 = .ok (.iload 5, 2) := by decide +kernel
theorem dX10_shine_152 : decode cX10_shine 152 = .ok (.bipush 43, 2) := by decide +kernel
theorem dX10_shine_154 : decode cX10_shine 154 = .ok (.if_icmp .ne 13, 3) := by decide +kernel
theorem dX10_shine_157 : decode cX10_shine 157 = .ok (.aload_n 0, 1) := by decide +kernel
theorem dX10_shine_158 : decode cX10_shine 158 = .ok (.getfield 32, 3) := by decide +kernel
theorem dX10_shine_161 : decode cX10_shine 161 = .ok (.iload 4, 2) := by decide +kernel
theorem dX10_shine_163 : decode cX10_shine 163 = .ok (.iaload, 1) := by decide +kernel
theorem dX10_shine_164 : decode cX10_shine 164 = .ok (.goto 11, 3) := by decide +kernel
theorem dX10_shine_167 : decode cX10_shine 167 = .ok (.aload_n 0, 1) := by decide +kernel
theorem dX10_shine_168 : decode cX10_shine 168 = .ok (.getfield 32, 3) := by decide +kernel
theorem dX10_shine_171 : decode cX10_shine 171 = .ok (.iload 4, 2) := by decide +kernel
theorem dX10_shine_173 : decode cX10_shine 173 = .ok (.iaload, 1) := by decide +kernel
theorem dX10_shine_174 : decode cX10_shine 174 = .ok (.ineg, 1) := by decide +kernel
theorem dX10_shine_175 : decode cX10_shine 175 = .ok (.invokestatic 109, 3) := by decide +kernel
theorem dX10_shine_178 : decode cX10_shine 178 = .ok (.iinc 3 (-1), 3) := by decide +kernel
theorem dX10_shine_181 : decode cX10_shine 181 = .ok (.goto 28, 3) := by decide +kernel
theorem dX10_shine_184 : decode cX10_shine 184 = .ok (.iload_n 3, 1) := by decide +kernel
theorem dX10_shine_185 : decode cX10_shine 185 = .ok (.iconst 1, 1) := by decide +kernel
theorem dX10_shine_186 : decode cX10_shine 186 = .ok (.iadd, 1) := by decide +kernel
theorem dX10_shine_187 : decode cX10_shine 187 = .ok (.bipush 11, 2) := by decide +kernel
theorem dX10_shine_189 : decode cX10_shine 189 = .ok (.if_icmp .ge 20, 3) := by decide +kernel
theorem dX10_shine_192 : decode cX10_shine 192 = .ok (.iinc 3 1, 3) := by decide +kernel
theorem dX10_shine_195 : decode cX10_shine 195 = .ok (.aload_n 0, 1) := by decide +kernel
theorem dX10_shine_196 : decode cX10_shine 196 = .ok (.getfield 17, 3) := by decide +kernel
theorem dX10_shine_199 : decode cX10_shine 199 = .ok (.iload_n 3, 1) := by decide +kernel
theorem dX10_shine_200 : decode cX10_shine 200 = .ok (.aload_n 0, 1) := by decide +kernel
theorem dX10_shine_201 : decode cX10_shine 201 = .ok (.iload 4, 2) := by decide +kernel
theorem dX10_shine_203 : decode cX10_shine 203 = .ok (.aload_n 1, 1) := by decide +kernel
theorem dX10_shine_204 : decode cX10_shine 204 = .ok (.iload_n 2, 1) := by decide +kernel
theorem dX10_shine_205 : decode cX10_shine 205 = .ok (.invokevirtual 113, 3) := by decide +kernel
theorem dX10_shine_208 : decode cX10_shine 208 = .ok (.iastore, 1) := by decide +kernel
theorem dX10_shine_209 : decode cX10_shine 209 = .ok (.iinc 4 1, 3) := by decide +kernel
theorem dX10_shine_212 : decode cX10_shine 212 = .ok (.goto (-207), 3) := by decide +kernel
theorem dX10_shine_215 : decode cX10_shine 215 = .ok (.return_, 1) := by decide +kernel
theorem dX10_testedHours_0 : decode cX10_testedHours 0 = .ok (.aload_n 0, 1) := by decide +kernel
theorem dX10_testedHours_1 : decode cX10_testedHours 1 = .ok (.getfield 25, 3) := by decide +kernel
theorem dX10_testedHours_4 : decode cX10_testedHours 4 = .ok (.iload_n 1, 1) := by decide +kernel
theorem dX10_testedHours_5 : decode cX10_testedHours 5 = .ok (.caload, 1) := by decide +kernel
theorem dX10_testedHours_6 : decode cX10_testedHours 6 = .ok (.bipush 104, 2) := by decide +kernel
