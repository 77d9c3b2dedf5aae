theorem dX12_takesClause_17 : decode cX12_takesClause 17 = .ok (.aload_n 0, 1) := by decide +kernel
theorem dX12_takesClause_18 : decode cX12_takesClause 18 = .ok (.getfield 59, 3) := by decide +kernel
theorem dX12_takesClause_21 : decode cX12_takesClause 21 = .ok (.iload_n 1, 1) := by decide +kernel
theorem dX12_takesClause_22 : decode cX12_takesClause 22 = .ok (.aload_n 0, 1) := by decide +kernel
theorem dX12_takesClause_23 : decode cX12_takesClause 23 = .ok (.getfield 47, 3) := by decide +kernel
theorem dX12_takesClause_26 : decode cX12_takesClause 26 = .ok (.iastore, 1) := by decide +kernel
theorem dX12_takesClause_27 : decode cX12_takesClause 27 = .ok (.aload_n 0, 1) := by decide +kernel
theorem dX12_takesClause_28 : decode cX12_takesClause 28 = .ok (.getfield 56, 3) := by decide +kernel
theorem dX12_takesClause_31 : decode cX12_takesClause 31 = .ok (.iload_n 1, 1) := by decide +kernel
theorem dX12_takesClause_32 : decode cX12_takesClause 32 = .ok (.iaload, 1) := by decide +kernel
theorem dX12_takesClause_33 : decode cX12_takesClause 33 = .ok (.iconst 2, 1) := by decide +kernel
theorem dX12_takesClause_34 : decode cX12_takesClause 34 = .ok (.if_icmp .eq 20, 3) := by decide +kernel
theorem dX12_takesClause_37 : decode cX12_takesClause 37 = .ok (.aload_n 0, 1) := by decide +kernel
theorem dX12_takesClause_38 : decode cX12_takesClause 38 = .ok (.bipush 32, 2) := by decide +kernel
theorem dX12_takesClause_40 : decode cX12_takesClause 40 = .ok (.invokevirtual 256, 3) := by decide +kernel
theorem dX12_takesClause_43 : decode cX12_takesClause 43 = .ok (.ifCond .eq 15, 3) := by decide +kernel
theorem dX12_takesClause_46 : decode cX12_takesClause 46 = .ok (.aload_n 0, 1) := by decide +kernel
theorem dX12_takesClause_47 : decode cX12_takesClause 47 = .ok (.iload_n 1, 1) := by decide +kernel
theorem dX12_takesClause_48 : decode cX12_takesClause 48 = .ok (.invokevirtual 292, 3) := by decide +kernel
theorem dX12_takesClause_51 : decode cX12_takesClause 51 = .ok (.ifCond .eq 7, 3) := by decide +kernel
theorem dX12_takesClause_54 : decode cX12_takesClause 54 = .ok (.iconst 1, 1) := by decide +kernel
theorem dX12_takesClause_55 : decode cX12_takesClause 55 = .ok (.goto 4, 3) := by decide +kernel
theorem dX12_takesClause_58 : decode cX12_takesClause 58 = .ok (.iconst 0, 1) := by decide +kernel
theorem dX12_takesClause_59 : decode cX12_takesClause 59 = .ok (.ireturn, 1) := by decide +kernel
theorem dX12_goesText_0 : decode cX12_goesText 0 = .ok (.aload_n 0, 1) := by decide +kernel
theorem dX12_goesText_1 : decode cX12_goesText 1 = .ok (.iconst 0, 1) := by decide +kernel
theorem dX12_goesText_2 : decode cX12_goesText 2 = .ok (.putfield 44, 3) := by decide +kernel
theorem dX12_goesText_5 : decode cX12_goesText 5 = .ok (.aload_n 0, 1) := by decide +kernel
theorem dX12_goesText_6 : decode cX12_goesText 6 = .ok (.bipush 100, 2) := by decide +kernel
theorem dX12_goesText_8 : decode cX12_goesText 8 = .ok (.iload_n 1, 1) := by decide +kernel
theorem dX12_goesText_9 : decode cX12_goesText 9 = .ok (.imul, 1) := by decide +kernel
theorem dX12_goesText_10 : decode cX12_goesText 10 = .ok (.putfield 74, 3) := by decide +kernel
theorem dX12_goesText_13 : decode cX12_goesText 13 = .ok (.iconst 0, 1) := by decide +kernel
theorem dX12_goesText_14 : decode cX12_goesText 14 = .ok (.istore_n 2, 1) := by decide +kernel
theorem dX12_goesText_15 : decode cX12_goesText 15 = .ok (.aload_n 0, 1) := by decide +kernel
theorem dX12_goesText_16 : decode cX12_goesText 16 = .ok (.bipush 10, 2) := by decide +kernel
theorem dX12_goesText_18 : decode cX12_goesText 18 = .ok (.iload_n 1, 1) := by decide +kernel
theorem dX12_goesText_19 : decode cX12_goesText 19 = .ok (.imul, 1) := by decide +kernel
theorem dX12_goesText_20 : decode cX12_goesText 20 = .ok (.iload_n 2, 1) := by decide +kernel
theorem dX12_goesText_21 : decode cX12_goesText 21 = .ok (.iadd, 1) := by decide +kernel
theorem dX12_goesText_22 : decode cX12_goesText 22 = .ok (.invokevirtual 295, 3) := by decide +kernel
theorem dX12_goesText_25 : decode cX12_goesText 25 = .ok (.ifCond .ne 5, 3) := by decide +kernel
theorem dX12_goesText_28 : decode cX12_goesText 28 = .ok (.iconst 0, 1) := by decide +kernel
theorem dX12_goesText_29 : decode cX12_goesText 29 = .ok (.ireturn, 1) := by decide +kernel
theorem dX12_goesText_30 : decode cX12_goesText 30 = .ok (.iinc 2 1, 3) := by decide +kernel
theorem dX12_goesText_33 : decode cX12_goesText 33 = .ok (.aload_n 0, 1) := by decide +kernel
theorem dX12_goesText_34 : decode cX12_goesText 34 = .ok (.getfield 53, 3) := by decide +kernel
theorem dX12_goesText_37 : decode cX12_goesText 37 = .ok (.iload_n 1, 1) := by decide +kernel
theorem dX12_goesText_38 : decode cX12_goesText 38 = .ok (.iload_n 2, 1) := by decide +kernel
theorem dX12_goesText_39 : decode cX12_goesText 39 = .ok (.iastore, 1) := by decide +kernel
theorem dX12_goesText_40 : decode cX12_goesText 40 = .ok (.aload_n 0, 1) := by decide +kernel
theorem dX12_goesText_41 : decode cX12_goesText 41 = .ok (.getfield 44, 3) := by decide +kernel
theorem dX12_goesText_44 : decode cX12_goesText 44 = .ok (.aload_n 0, 1) := by decide +kernel
theorem dX12_goesText_45 : decode cX12_goesText 45 = .ok (.getfield 41, 3) := by decide +kernel
theorem dX12_goesText_48 : decode cX12_goesText 48 = .ok (.if_icmp .ne 5, 3) := by decide +kernel
theorem dX12_goesText_51 : decode cX12_goesText 51 = .ok (.iconst 1, 1) := by decide +kernel
theorem dX12_goesText_52 : decode cX12_goesText 52 = .ok (.ireturn, 1) := by decide +kernel
theorem dX12_goesText_53 : decode cX12_goesText 53 = .ok (.iload_n 2, 1) := by decide +kernel
theorem dX12_goesText_54 : decode cX12_goesText 54 = .ok (.bipush 10, 2) := by decide +kernel
theorem dX12_goesText_56 : decode cX12_goesText 56 = .ok (.if_icmp .eq 12, 3) := by decide +kernel
theorem dX12_goesText_59 : decode cX12_goesText 59 = .ok (.aload_n 0, 1) := by decide +kernel
theorem dX12_goesText_60 : decode cX12_goesText 60 = .ok (.bipush 59, 2) := by decide +kernel
theorem dX12_goesText_62 : decode cX12_goesText 62 = .ok (.invokevirtual 256, 3) := by decide +kernel
theorem dX12_goesText_65 : decode cX12_goesText 65 = .ok (.ifCond .ne (-50), 3) := by decide +kernel
theorem dX12_goesText_68 : decode cX12_goesText 68 = .ok (.iconst 0, 1) := by decide +kernel
theorem dX12_goesText_69 : decode cX12_goesText 69 = .ok (.ireturn, 1) := by decide +kernel
theorem dX12_wall_0 : decode cX12_wall 0 = .ok (.aload_n 0, 1) := by decide +kernel
theorem dX12_wall_1 : decode cX12_wall 1 = .ok (.getfield 35, 3) := by decide +kernel
theorem dX12_wall_4 : decode cX12_wall 4 = .ok (.bipush 6, 2) := by decide +kernel
theorem dX12_wall_6 : decode cX12_wall 6 = .ok (.if_icmp .ne 6, 3) := by decide +kernel
theorem dX12_wall_9 : decode cX12_wall 9 = .ok (.bipush (-4), 2) := by decide +kernel
theorem dX12_wall_11 : decode cX12_wall 11 = .ok (.ireturn, 1) := by decide +kernel
theorem dX12_wall_12 : decode cX12_wall 12 = .ok (.aload_n 0, 1) := by decide +kernel
theorem dX12_wall_13 : decode cX12_wall 13 = .ok (.aload_n 0, 1) := by decide +kernel
theorem dX12_wall_14 : decode cX12_wall 14 = .ok (.getfield 35, 3) := by decide +kernel
theorem dX12_wall_17 : decode cX12_wall 17 = .ok (.invokevirtual 298, 3) := by decide +kernel
theorem dX12_wall_20 : decode cX12_wall 20 = .ok (.istore_n 1, 1) := by decide +kernel
theorem dX12_wall_21 : decode cX12_wall 21 = .ok (.aload_n 0, 1) := by decide +kernel
theorem dX12_wall_22 : decode cX12_wall 22 = .ok (.iconst 0, 1) := by decide +kernel
theorem dX12_wall_23 : decode cX12_wall 23 = .ok (.putfield 41, 3) := by decide +kernel
theorem dX12_wall_26 : decode cX12_wall 26 = .ok (.iload_n 1, 1) := by decide +kernel
theorem dX12_wall_27 : decode cX12_wall 27 = .ok (.ifCond .ne 11, 3) := by decide +kernel
theorem dX12_wall_30 : decode cX12_wall 30 = .ok (.bipush (-10), 2) := by decide +kernel
theorem dX12_wall_32 : decode cX12_wall 32 = .ok (.aload_n 0, 1) := by decide +kernel
theorem dX12_wall_33 : decode cX12_wall 33 = .ok (.getfield 44, 3) := by decide +kernel
theorem dX12_wall_36 : decode cX12_wall 36 = .ok (.isub, 1) := by decide +kernel
theorem dX12_wall_37 : decode cX12_wall 37 = .ok (.ireturn, 1) := by decide +kernel
theorem dX12_wall_38 : decode cX12_wall 38 = .ok (.aload_n 0, 1) := by decide +kernel
theorem dX12_wall_39 : decode cX12_wall 39 = .ok (.aload_n 0, 1) := by decide +kernel
theorem dX12_wall_40 : decode cX12_wall 40 = .ok (.getfield 35, 3) := by decide +kernel
theorem dX12_wall_43 : decode cX12_wall 43 = .ok (.putfield 38, 3) := by decide +kernel
theorem dX12_wall_46 : decode cX12_wall 46 = .ok (.aload_n 0, 1) := by decide +kernel
theorem dX12_wall_47 : decode cX12_wall 47 = .ok (.dup, 1) := by decide +kernel
theorem dX12_wall_48 : decode cX12_wall 48 = .ok (.getfield 35, 3) := by decide +kernel
theorem dX12_wall_51 : decode cX12_wall 51 = .ok (.iconst 1, 1) := by decide +kernel
theorem dX12_wall_52 : decode cX12_wall 52 = .ok (.iadd, 1) := by decide +kernel
theorem dX12_wall_53 : decode cX12_wall 53 = .ok (.putfield 35, 3) := by decide +kernel
theorem dX12_wall_56 : decode cX12_wall 56 = .ok (.aload_n 0, 1) := by decide +kernel
theorem dX12_wall_57 : decode cX12_wall 57 = .ok (.getfield 38, 3) := by decide +kernel
theorem dX12_wall_60 : decode cX12_wall 60 = .ok (.ireturn, 1) := by decide +kernel
theorem dX12_begin_0 : decode cX12_begin 0 = .ok (.aload_n 0, 1) := by decide +kernel
theorem dX12_begin_1 : decode cX12_begin 1 = .ok (.getfield 38, 3) := by decide +kernel
theorem dX12_begin_4 : decode cX12_begin 4 = .ok (.ifCond .ge 7, 3) := by decide +kernel
theorem dX12_begin_7 : decode cX12_begin 7 = .ok (.iconst 0, 1) := by decide +kernel
theorem dX12_begin_8 : decode cX12_begin 8 = .ok (.goto 10, 3) := by decide +kernel
theorem dX12_begin_11 : decode cX12_begin 11 = .ok (.bipush 10, 2) := by decide +kernel
theorem dX12_begin_13 : decode cX12_begin 13 = .ok (.aload_n 0, 1) := by decide +kernel
theorem dX12_begin_14 : decode cX12_begin 14 = .ok (.getfield 38, 3) := by decide +kernel
theorem dX12_begin_17 : decode cX12_begin 17 = .ok (.imul, 1) := by decide +kernel
theorem dX12_begin_18 : decode cX12_begin 18 = .ok (.ireturn, 1) := by decide +kernel
theorem dX12_behind_0 : decode cX12_behind 0 = .ok (.aload_n 0, 1) := by decide +kernel
theorem dX12_behind_1 : decode cX12_behind 1 = .ok (.getfield 38, 3) := by decide +kernel
theorem dX12_behind_4 : decode cX12_behind 4 = .ok (.ifCond .ge 7, 3) := by decide +kernel
theorem dX12_behind_7 : decode cX12_behind 7 = .ok (.iconst 0, 1) := by decide +kernel
theorem dX12_behind_8 : decode cX12_behind 8 = .ok (.goto 20, 3) := by decide +kernel
theorem dX12_behind_11 : decode cX12_behind 11 = .ok (.bipush 10, 2) := by decide +kernel
theorem dX12_behind_13 : decode cX12_behind 13 = .ok (.aload_n 0, 1) := by decide +kernel
theorem dX12_behind_14 : decode cX12_behind 14 = .ok (.getfield 38, 3) := by decide +kernel
theorem dX12_behind_17 : decode cX12_behind 17 = .ok (.imul, 1) := by decide +kernel
theorem dX12_behind_18 : decode cX12_behind 18 = .ok (.aload_n 0, 1) := by decide +kernel
theorem dX12_behind_19 : decode cX12_behind 19 = .ok (.getfield 53, 3) := by decide +kernel
theorem dX12_behind_22 : decode cX12_behind 22 = .ok (.aload_n 0, 1) := by decide +kernel
theorem dX12_behind_23 : decode cX12_behind 23 = .ok (.getfield 38, 3) := by decide +kernel
theorem dX12_behind_26 : decode cX12_behind 26 = .ok (.iaload, 1) := by decide +kernel
theorem dX12_behind_27 : decode cX12_behind 27 = .ok (.iadd, 1) := by decide +kernel
theorem dX12_behind_28 : decode cX12_behind 28 = .ok (.ireturn, 1) := by decide +kernel
theorem dX12_enough_0 : decode cX12_enough 0 = .ok (.bipush 30, 2) := by decide +kernel
theorem dX12_enough_2 : decode cX12_enough 2 = .ok (.istore_n 1, 1) := by decide +kernel
theorem dX12_enough_3 : decode cX12_enough 3 = .ok (.aload_n 0, 1) := by decide +kernel
theorem dX12_enough_4 : decode cX12_enough 4 = .ok (.invokevirtual 301, 3) := by decide +kernel
theorem dX12_enough_7 : decode cX12_enough 7 = .ok (.istore_n 2, 1) := by decide +kernel
theorem dX12_enough_8 : decode cX12_enough 8 = .ok (.iload_n 2, 1) := by decide +kernel
theorem dX12_enough_9 : decode cX12_enough 9 = .ok (.aload_n 0, 1) := by decide +kernel
theorem dX12_enough_10 : decode cX12_enough 10 = .ok (.invokevirtual 304, 3) := by decide +kernel
theorem dX12_enough_13 : decode cX12_enough 13 = .ok (.if_icmp .ge 30, 3) := by decide +kernel
theorem dX12_enough_16 : decode cX12_enough 16 = .ok (.aload_n 0, 1) := by decide +kernel
theorem dX12_enough_17 : decode cX12_enough 17 = .ok (.getfield 56, 3) := by decide +kernel
theorem dX12_enough_20 : decode cX12_enough 20 = .ok (.iload_n 2, 1) := by decide +kernel
theorem dX12_enough_21 : decode cX12_enough 21 = .ok (.iaload, 1) := by decide +kernel
theorem dX12_enough_22 : decode cX12_enough 22 = .ok (.iconst 2, 1) := by decide +kernel
theorem dX12_enough_23 : decode cX12_enough 23 = .ok (.if_icmp .ne 12, 3) := by decide +kernel
theorem dX12_enough_26 : decode cX12_enough 26 = .ok (.aload_n 0, 1) := by decide +kernel
theorem dX12_enough_27 : decode cX12_enough 27 = .ok (.getfield 59, 3) := by decide +kernel
theorem dX12_enough_30 : decode cX12_enough 30 = .ok (.iload_n 2, 1) := by decide +kernel
theorem dX12_enough_31 : decode cX12_enough 31 = .ok (.iaload, 1) := by decide +kernel
theorem dX12_enough_32 : decode cX12_enough 32 = .ok (.goto 4, 3) := by decide +kernel
theorem dX12_enough_35 : decode cX12_enough 35 = .ok (.iload_n 1, 1) := by decide +kernel
theorem dX12_enough_36 : decode cX12_enough 36 = .ok (.istore_n 1, 1) := by decide +kernel
theorem dX12_enough_37 : decode cX12_enough 37 = .ok (.iinc 2 1, 3) := by decide +kernel
theorem dX12_enough_40 : decode cX12_enough 40 = .ok (.goto (-32), 3) := by decide +kernel
theorem dX12_enough_43 : decode cX12_enough 43 = .ok (.iload_n 1, 1) := by decide +kernel
theorem dX12_enough_44 : decode cX12_enough 44 = .ok (.ireturn, 1) := by decide +kernel
theorem dX12_factOf_0 : decode cX12_factOf 0 = .ok (.iload_n 1, 1) := by decide +kernel
theorem dX12_factOf_1 : decode cX12_factOf 1 = .ok (.tableswitch 63 0 4 #[35, 37, 44, 51, 53], 35) := by decide +kernel
theorem dX12_factOf_36 : decode cX12_factOf 36 = .ok (.iload_n 2, 1) := by decide +kernel
theorem dX12_factOf_37 : decode cX12_factOf 37 = .ok (.ireturn, 1) := by decide +kernel
theorem dX12_factOf_38 : decode cX12_factOf 38 = .ok (.aload_n 0, 1) := by decide +kernel
theorem dX12_factOf_39 : decode cX12_factOf 39 = .ok (.getfield 19, 3) := by decide +kernel
theorem dX12_factOf_42 : decode cX12_factOf 42 = .ok (.iload_n 2, 1) := by decide +kernel
theorem dX12_factOf_43 : decode cX12_factOf 43 = .ok (.iaload, 1) := by decide +kernel
theorem dX12_factOf_44 : decode cX12_factOf 44 = .ok (.ireturn, 1) := by decide +kernel
theorem dX12_factOf_45 : decode cX12_factOf 45 = .ok (.aload_n 0, 1) := by decide +kernel
theorem dX12_factOf_46 : decode cX12_factOf 46 = .ok (.getfield 23, 3) := by decide +kernel
theorem dX12_factOf_49 : decode cX12_factOf 49 = .ok (.iload_n 2, 1) := by decide +kernel
theorem dX12_factOf_50 : decode cX12_factOf 50 = .ok (.iaload, 1) := by decide +kernel
theorem dX12_factOf_51 : decode cX12_factOf 51 = .ok (.ireturn, 1) := by decide +kernel
theorem dX12_factOf_52 : decode cX12_factOf 52 = .ok (.iload_n 3, 1) := by decide +kernel
theorem dX12_factOf_53 : decode cX12_factOf 53 = .ok (.ireturn, 1) := by decide +kernel
theorem dX12_factOf_54 : decode cX12_factOf 54 = .ok (.aload_n 0, 1) := by decide +kernel
theorem dX12_factOf_55 : decode cX12_factOf 55 = .ok (.getfield 29, 3) := by decide +kernel
theorem dX12_factOf_58 : decode cX12_factOf 58 = .ok (.iload_n 2, 1) := by decide +kernel
theorem dX12_factOf_59 : decode cX12_factOf 59 = .ok (.iaload, 1) := by decide +kernel
theorem dX12_factOf_60 : decode cX12_factOf 60 = .ok (.bipush 10, 2) := by decide +kernel
theorem dX12_factOf_62 : decode cX12_factOf 62 = .ok (.idiv, 1) := by decide +kernel
theorem dX12_factOf_63 : decode cX12_factOf 63 = .ok (.ireturn, 1) := by decide +kernel
theorem dX12_factOf_64 : decode cX12_factOf 64 = .ok (.aload_n 0, 1) := by decide +kernel
theorem dX12_factOf_65 : decode cX12_factOf 65 = .ok (.getfield 16, 3) := by decide +kernel
theorem dX12_factOf_68 : decode cX12_factOf 68 = .ok (.bipush 10, 2) := by decide +kernel
theorem dX12_factOf_70 : decode cX12_factOf 70 = .ok (.irem, 1) := by decide +kernel
theorem dX12_factOf_71 : decode cX12_factOf 71 = .ok (.ireturn, 1) := by decide +kernel
theorem dX12_holds_0 : decode cX12_holds 0 = .ok (.iconst 0, 1) := by decide +kernel
theorem dX12_holds_1 : decode cX12_holds 1 = .ok (.istore 4, 2) := by decide +kernel
theorem dX12_holds_3 : decode cX12_holds 3 = .ok (.aload_n 0, 1) := by decide +kernel
theorem dX12_holds_4 : decode cX12_holds 4 = .ok (.getfield 62, 3) := by decide +kernel
theorem dX12_holds_7 : decode cX12_holds 7 = .ok (.iload_n 1, 1) := by decide +kernel
theorem dX12_holds_8 : decode cX12_holds 8 = .ok (.iaload, 1) := by decide +kernel
theorem dX12_holds_9 : decode cX12_holds 9 = .ok (.istore 5, 2) := by decide +kernel
theorem dX12_holds_11 : decode cX12_holds 11 = .ok (.iload 5, 2) := by decide +kernel
theorem dX12_holds_13 : decode cX12_holds 13 = .ok (.aload_n 0, 1) := by decide +kernel
theorem dX12_holds_14 : decode cX12_holds 14 = .ok (.getfield 65, 3) := by decide +kernel
theorem dX12_holds_17 : decode cX12_holds 17 = .ok (.iload_n 1, 1) := by decide +kernel
theorem dX12_holds_18 : decode cX12_holds 18 = .ok (.iaload, 1) := by decide +kernel
theorem dX12_holds_19 : decode cX12_holds 19 = .ok (.if_icmp .ge 234, 3) := by decide +kernel
theorem dX12_holds_22 : decode cX12_holds 22 = .ok (.aload_n 0, 1) := by decide +kernel
theorem dX12_holds_23 : decode cX12_holds 23 = .ok (.getfield 68, 3) := by decide +kernel
theorem dX12_holds_26 : decode cX12_holds 26 = .ok (.iload 5, 2) := by decide +kernel
theorem dX12_holds_28 : decode cX12_holds 28 = .ok (.iaload, 1) := by decide +kernel
theorem dX12_holds_29 : decode cX12_holds 29 = .ok (.istore 6, 2) := by decide +kernel
theorem dX12_holds_31 : decode cX12_holds 31 = .ok (.iload 6, 2) := by decide +kernel
theorem dX12_holds_33 : decode cX12_holds 33 = .ok (.bipush (-33), 2) := by decide +kernel
theorem dX12_holds_35 : decode cX12_holds 35 = .ok (.if_icmp .ne 32, 3) := by decide +kernel
theorem dX12_holds_38 : decode cX12_holds 38 = .ok (.aload_n 0, 1) := by decide +kernel
theorem dX12_holds_39 : decode cX12_holds 39 = .ok (.getfield 86, 3) := by decide +kernel
theorem dX12_holds_42 : decode cX12_holds 42 = .ok (.iload 4, 2) := by decide +kernel
theorem dX12_holds_44 : decode cX12_holds 44 = .ok (.iconst 1, 1) := by decide +kernel
theorem dX12_holds_45 : decode cX12_holds 45 = .ok (.isub, 1) := by decide +kernel
theorem dX12_holds_46 : decode cX12_holds 46 = .ok (.aload_n 0, 1) := by decide +kernel
theorem dX12_holds_47 : decode cX12_holds 47 = .ok (.getfield 86, 3) := by decide +kernel
theorem dX12_holds_50 : decode cX12_holds 50 = .ok (.iload 4, 2) := by decide +kernel
theorem dX12_holds_52 : decode cX12_holds 52 = .ok (.iconst 1, 1) := by decide +kernel
theorem dX12_holds_53 : decode cX12_holds 53 = .ok (.isub, 1) := by decide +kernel
theorem dX12_holds_54 : decode cX12_holds 54 = .ok (.baload, 1) := by decide +kernel
theorem dX12_holds_55 : decode cX12_holds 55 = .ok (.ifCond .ne 7, 3) := by decide +kernel
theorem dX12_holds_58 : decode cX12_holds 58 = .ok (.iconst 1, 1) := by decide +kernel
theorem dX12_holds_59 : decode cX12_holds 59 = .ok (.goto 4, 3) := by decide +kernel
theorem dX12_holds_62 : decode cX12_holds 62 = .ok (.iconst 0, 1) := by decide +kernel
theorem dX12_holds_63 : decode cX12_holds 63 = .ok (.bastore, 1) := by decide +kernel
theorem dX12_holds_64 : decode cX12_holds 64 = .ok (.goto 183, 3) := by decide +kernel
theorem dX12_holds_67 : decode cX12_holds 67 = .ok (.iload 6, 2) := by decide +kernel
theorem dX12_holds_69 : decode cX12_holds 69 = .ok (.ifCond .ge 82, 3) := by decide +kernel
theorem dX12_holds_72 : decode cX12_holds 72 = .ok (.iinc 4 (-1), 3) := by decide +kernel
theorem dX12_holds_75 : decode cX12_holds 75 = .ok (.aload_n 0, 1) := by decide +kernel
theorem dX12_holds_76 : decode cX12_holds 76 = .ok (.getfield 86, 3) := by decide +kernel
theorem dX12_holds_79 : decode cX12_holds 79 = .ok (.iload 4, 2) := by decide +kernel
theorem dX12_holds_81 : decode cX12_holds 81 = .ok (.iconst 1, 1) := by decide +kernel
theorem dX12_holds_82 : decode cX12_holds 82 = .ok (.isub, 1) := by decide +kernel
theorem dX12_holds_83 : decode cX12_holds 83 = .ok (.iload 6, 2) := by decide +kernel
theorem dX12_holds_85 : decode cX12_holds 85 = .ok (.bipush (-38), 2) := by decide +kernel
theorem dX12_holds_87 : decode cX12_holds 87 = .ok (.if_icmp .ne 33, 3) := by decide +kernel
theorem dX12_holds_90 : decode cX12_holds 90 = .ok (.aload_n 0, 1) := by decide +kernel
theorem dX12_holds_91 : decode cX12_holds 91 = .ok (.getfield 86, 3) := by decide +kernel
theorem dX12_holds_94 : decode cX12_holds 94 = .ok (.iload 4, 2) := by decide +kernel
theorem dX12_holds_96 : decode cX12_holds 96 = .ok (.iconst 1, 1) := by decide +kernel
theorem dX12_holds_97 : decode cX12_holds 97 = .ok (.isub, 1) := by decide +kernel
theorem dX12_holds_98 : decode cX12_holds 98 = .ok (.baload, 1) := by decide +kernel
theorem dX12_holds_99 : decode cX12_holds 99 = .ok (.ifCond .eq 17, 3) := by decide +kernel
theorem dX12_holds_102 : decode cX12_holds 102 = .ok (.aload_n 0, 1) := by decide +kernel
theorem dX12_holds_103 : decode cX12_holds 103 = .ok (.getfield 86, 3) := by decide +kernel
theorem dX12_holds_106 : decode cX12_holds 106 = .ok (.iload 4, 2) := by decide +kernel
theorem dX12_holds_108 : decode cX12_holds 108 = .ok (.baload, 1) := by decide +kernel
theorem dX12_holds_109 : decode cX12_holds 109 = .ok (.ifCond .eq 7, 3) := by decide +kernel
theorem dX12_holds_112 : decode cX12_holds 112 = .ok (.iconst 1, 1) := by decide +kernel
theorem dX12_holds_113 : decode cX12_holds 113 = .ok (.goto 34, 3) := by decide +kernel
theorem dX12_holds_116 : decode cX12_holds 116 = .ok (.iconst 0, 1) := by decide +kernel
theorem dX12_holds_117 : decode cX12_holds 117 = .ok (.goto 30, 3) := by decide +kernel
theorem dX12_holds_120 : decode cX12_holds 120 = .ok (.aload_n 0, 1) := by decide +kernel
theorem dX12_holds_121 : decode cX12_holds 121 = .ok (.getfield 86, 3) := by decide +kernel
theorem dX12_holds_124 : decode cX12_holds 124 = .ok (.iload 4, 2) := by decide +kernel
theorem dX12_holds_126 : decode cX12_holds 126 = .ok (.iconst 1, 1) := by decide +kernel
theorem dX12_holds_127 : decode cX12_holds 127 = .ok (.isub, 1) := by decide +kernel
theorem dX12_holds_128 : decode cX12_holds 128 = .ok (.baload, 1) := by decide +kernel
theorem dX12_holds_129 : decode cX12_holds 129 = .ok (.ifCond .ne 13, 3) := by decide +kernel
theorem dX12_holds_132 : decode cX12_holds 132 = .ok (.aload_n 0, 1) := by decide +kernel
theorem dX12_holds_133 : decode cX12_holds 133 = .ok (.getfield 86, 3) := by decide +kernel
theorem dX12_holds_136 : decode cX12_holds 136 = .ok (.iload 4, 2) := by decide +kernel
theorem dX12_holds_138 : decode cX12_holds 138 = .ok (.baload, 1) := by decide +kernel
theorem dX12_holds_139 : decode cX12_holds 139 = .ok (.ifCond .eq 7, 3) := by decide +kernel
theorem dX12_holds_142 : decode cX12_holds 142 = .ok (.iconst 1, 1) := by decide +kernel
theorem dX12_holds_143 : decode cX12_holds 143 = .ok (.goto 4, 3) := by decide +kernel
theorem dX12_holds_146 : decode cX12_holds 146 = .ok (.iconst 0, 1) := by decide +kernel
theorem dX12_holds_147 : decode cX12_holds 147 = .ok (.bastore, 1) := by decide +kernel
theorem dX12_holds_148 : decode cX12_holds 148 = .ok (.goto 99, 3) := by decide +kernel
theorem dX12_holds_151 : decode cX12_holds 151 = .ok (.aload_n 0, 1) := by decide +kernel
theorem dX12_holds_152 : decode cX12_holds 152 = .ok (.iload 6, 2) := by decide +kernel
theorem dX12_holds_154 : decode cX12_holds 154 = .ok (.sipush 1000, 3) := by decide +kernel
theorem dX12_holds_157 : decode cX12_holds 157 = .ok (.idiv, 1) := by decide +kernel
theorem dX12_holds_158 : decode cX12_holds 158 = .ok (.iload_n 2, 1) := by decide +kernel
theorem dX12_holds_159 : decode cX12_holds 159 = .ok (.iload_n 3, 1) := by decide +kernel
theorem dX12_holds_160 : decode cX12_holds 160 = .ok (.invokevirtual 307, 3) := by decide +kernel
theorem dX12_holds_163 : decode cX12_holds 163 = .ok (.istore 7, 2) := by decide +kernel
theorem dX12_holds_165 : decode cX12_holds 165 = .ok (.iload 6, 2) := by decide +kernel
theorem dX12_holds_167 : decode cX12_holds 167 = .ok (.bipush 100, 2) := by decide +kernel
theorem dX12_holds_169 : decode cX12_holds 169 = .ok (.idiv, 1) := by decide +kernel
theorem dX12_holds_170 : decode cX12_holds 170 = .ok (.bipush 10, 2) := by decide +kernel
theorem dX12_holds_172 : decode cX12_holds 172 = .ok (.irem, 1) := by decide +kernel
theorem dX12_holds_173 : decode cX12_holds 173 = .ok (.istore 8, 2) := by decide +kernel
theorem dX12_holds_175 : decode cX12_holds 175 = .ok (.aload_n 0, 1) := by decide +kernel
theorem dX12_holds_176 : decode cX12_holds 176 = .ok (.getfield 86, 3) := by decide +kernel
theorem dX12_holds_179 : decode cX12_holds 179 = .ok (.iload 4, 2) := by decide +kernel
theorem dX12_holds_181 : decode cX12_holds 181 = .ok (.iload 8, 2) := by decide +kernel
theorem dX12_holds_183 : decode cX12_holds 183 = .ok (.ifCond .ne 21, 3) := by decide +kernel
theorem dX12_holds_186 : decode cX12_holds 186 = .ok (.iload 7, 2) := by decide +kernel
theorem dX12_holds_188 : decode cX12_holds 188 = .ok (.iload 6, 2) := by decide +kernel
theorem dX12_holds_190 : decode cX12_holds 190 = .ok (.bipush 100, 2) := by decide +kernel
theorem dX12_holds_192 : decode cX12_holds 192 = .ok (.irem, 1) := by decide +kernel
theorem dX12_holds_193 : decode cX12_holds 193 = .ok (.if_icmp .ge 7, 3) := by decide +kernel
theorem dX12_holds_196 : decode cX12_holds 196 = .ok (.iconst 1, 1) := by decide +kernel
theorem dX12_holds_197 : decode cX12_holds 197 = .ok (.goto 46, 3) := by decide +kernel
theorem dX12_holds_200 : decode cX12_holds 200 = .ok (.iconst 0, 1) := by decide +kernel
theorem dX12_holds_201 : decode cX12_holds 201 = .ok (.goto 42, 3) := by decide +kernel
theorem dX12_holds_204 : decode cX12_holds 204 = .ok (.iload 8, 2) := by decide +kernel
theorem dX12_holds_206 : decode cX12_holds 206 = .ok (.iconst 1, 1) := by decide +kernel
theorem dX12_holds_207 : decode cX12_holds 207 = .ok (.if_icmp .ne 21, 3) := by decide +kernel
theorem dX12_holds_210 : decode cX12_holds 210 = .ok (.iload 7, 2) := by decide +kernel
theorem dX12_holds_212 : decode cX12_holds 212 = .ok (.iload 6, 2) := by decide +kernel
theorem dX12_holds_214 : decode cX12_holds 214 = .ok (.bipush 100, 2) := by decide +kernel
theorem dX12_holds_216 : decode cX12_holds 216 = .ok (.irem, 1) := by decide +kernel
theorem dX12_holds_217 : decode cX12_holds 217 = .ok (.if_icmp .ne 7, 3) := by decide +kernel
theorem dX12_holds_220 : decode cX12_holds 220 = .ok (.iconst 1, 1) := by decide +kernel
theorem dX12_holds_221 : decode cX12_holds 221 = .ok (.goto 22, 3) := by decide +kernel
theorem dX12_holds_224 : decode cX12_holds 224 = .ok (.iconst 0, 1) := by decide +kernel
theorem dX12_holds_225 : decode cX12_holds 225 = .ok (.goto 18, 3) := by decide +kernel
theorem dX12_holds_228 : decode cX12_holds 228 = .ok (.iload 7, 2) := by decide +kernel
theorem dX12_holds_230 : decode cX12_holds 230 = .ok (.iload 6, 2) := by decide +kernel
theorem dX12_holds_232 : decode cX12_holds 232 = .ok (.bipush 100, 2) := by decide +kernel
theorem dX12_holds_234 : decode cX12_holds 234 = .ok (.irem, 1) := by decide +kernel
theorem dX12_holds_235 : decode cX12_holds 235 = .ok (.if_icmp .le 7, 3) := by decide +kernel
theorem dX12_holds_238 : decode cX12_holds 238 = .ok (.iconst 1, 1) := by decide +kernel
theorem dX12_holds_239 : decode cX12_holds 239 = .ok (.goto 4, 3) := by decide +kernel
theorem dX12_holds_242 : decode cX12_holds 242 = .ok (.iconst 0, 1) := by decide +kernel
theorem dX12_holds_243 : decode cX12_holds 243 = .ok (.bastore, 1) := by decide +kernel
theorem dX12_holds_244 : decode cX12_holds 244 = .ok (.iinc 4 1, 3) := by decide +kernel
theorem dX12_holds_247 : decode cX12_holds 247 = .ok (.iinc 5 1, 3) := by decide +kernel
theorem dX12_holds_250 : decode cX12_holds 250 = .ok (.goto (-239), 3) := by decide +kernel
theorem dX12_holds_253 : decode cX12_holds 253 = .ok (.aload_n 0, 1) := by decide +kernel
theorem dX12_holds_254 : decode cX12_holds 254 = .ok (.getfield 86, 3) := by decide +kernel
theorem dX12_holds_257 : decode cX12_holds 257 = .ok (.iconst 0, 1) := by decide +kernel
theorem dX12_holds_258 : decode cX12_holds 258 = .ok (.baload, 1) := by decide +kernel
theorem dX12_holds_259 : decode cX12_holds 259 = .ok (.ireturn, 1) := by decide +kernel
theorem dX12_sum_0 : decode cX12_sum 0 = .ok (.iconst 5, 1) := by decide +kernel
theorem dX12_sum_1 : decode cX12_sum 1 = .ok (.istore_n 3, 1) := by decide +kernel
theorem dX12_sum_2 : decode cX12_sum 2 = .ok (.aload_n 0, 1) := by decide +kernel
theorem dX12_sum_3 : decode cX12_sum 3 = .ok (.invokevirtual 301, 3) := by decide +kernel
theorem dX12_sum_6 : decode cX12_sum 6 = .ok (.istore 4, 2) := by decide +kernel
theorem dX12_sum_8 : decode cX12_sum 8 = .ok (.iload 4, 2) := by decide +kernel
theorem dX12_sum_10 : decode cX12_sum 10 = .ok (.aload_n 0, 1) := by decide +kernel
theorem dX12_sum_11 : decode cX12_sum 11 = .ok (.invokevirtual 304, 3) := by decide +kernel
theorem dX12_sum_14 : decode cX12_sum 14 = .ok (.if_icmp .ge 65, 3) := by decide +kernel
theorem dX12_sum_17 : decode cX12_sum 17 = .ok (.aload_n 0, 1) := by decide +kernel
theorem dX12_sum_18 : decode cX12_sum 18 = .ok (.getfield 56, 3) := by decide +kernel
theorem dX12_sum_21 : decode cX12_sum 21 = .ok (.iload 4, 2) := by decide +kernel
theorem dX12_sum_23 : decode cX12_sum 23 = .ok (.iaload, 1) := by decide +kernel
theorem dX12_sum_24 : decode cX12_sum 24 = .ok (.iconst 1, 1) := by decide +kernel
theorem dX12_sum_25 : decode cX12_sum 25 = .ok (.if_icmp .gt 48, 3) := by decide +kernel
theorem dX12_sum_28 : decode cX12_sum 28 = .ok (.aload_n 0, 1) := by decide +kernel
theorem dX12_sum_29 : decode cX12_sum 29 = .ok (.iload 4, 2) := by decide +kernel
theorem dX12_sum_31 : decode cX12_sum 31 = .ok (.iload_n 1, 1) := by decide +kernel
theorem dX12_sum_32 : decode cX12_sum 32 = .ok (.iload_n 2, 1) := by decide +kernel
theorem dX12_sum_33 : decode cX12_sum 33 = .ok (.invokevirtual 311, 3) := by decide +kernel
theorem dX12_sum_36 : decode cX12_sum 36 = .ok (.ifCond .ne 6, 3) := by decide +kernel
theorem dX12_sum_39 : decode cX12_sum 39 = .ok (.goto 34, 3) := by decide +kernel
theorem dX12_sum_42 : decode cX12_sum 42 = .ok (.iload_n 3, 1) := by decide +kernel
theorem dX12_sum_43 : decode cX12_sum 43 = .ok (.aload_n 0, 1) := by decide +kernel
theorem dX12_sum_44 : decode cX12_sum 44 = .ok (.getfield 56, 3) := by decide +kernel
theorem dX12_sum_47 : decode cX12_sum 47 = .ok (.iload 4, 2) := by decide +kernel
theorem dX12_sum_49 : decode cX12_sum 49 = .ok (.iaload, 1) := by decide +kernel
theorem dX12_sum_50 : decode cX12_sum 50 = .ok (.ifCond .ne 13, 3) := by decide +kernel
theorem dX12_sum_53 : decode cX12_sum 53 = .ok (.aload_n 0, 1) := by decide +kernel
theorem dX12_sum_54 : decode cX12_sum 54 = .ok (.getfield 59, 3) := by decide +kernel
theorem dX12_sum_57 : decode cX12_sum 57 = .ok (.iload 4, 2) := by decide +kernel
theorem dX12_sum_59 : decode cX12_sum 59 = .ok (.iaload, 1) := by decide +kernel
theorem dX12_sum_60 : decode cX12_sum 60 = .ok (.goto 11, 3) := by decide +kernel
theorem dX12_sum_63 : decode cX12_sum 63 = .ok (.aload_n 0, 1) := by decide +kernel
theorem dX12_sum_64 : decode cX12_sum 64 = .ok (.getfield 59, 3) := by decide +kernel
theorem dX12_sum_67 : decode cX12_sum 67 = .ok (.iload 4, 2) := by decide +kernel
theorem dX12_sum_69 : decode cX12_sum 69 = .ok (.iaload, 1) := by decide +kernel
theorem dX12_sum_70 : decode cX12_sum 70 = .ok (.ineg, 1) := by decide +kernel
theorem dX12_sum_71 : decode cX12_sum 71 = .ok (.iadd, 1) := by decide +kernel
theorem dX12_sum_72 : decode cX12_sum 72 = .ok (.istore_n 3, 1) := by decide +kernel
theorem dX12_sum_73 : decode cX12_sum 73 = .ok (.iinc 4 1, 3) := by decide +kernel
theorem dX12_sum_76 : decode cX12_sum 76 = .ok (.goto (-68), 3) := by decide +kernel
theorem dX12_sum_79 : decode cX12_sum 79 = .ok (.iload_n 3, 1) := by decide +kernel
theorem dX12_sum_80 : decode cX12_sum 80 = .ok (.ireturn, 1) := by decide +kernel
theorem dX12_pull_0 : decode cX12_pull 0 = .ok (.aload_n 0, 1) := by decide +kernel
theorem dX12_pull_1 : decode cX12_pull 1 = .ok (.iload_n 1, 1) := by decide +kernel
theorem dX12_pull_2 : decode cX12_pull 2 = .ok (.iload_n 2, 1) := by decide +kernel
theorem dX12_pull_3 : decode cX12_pull 3 = .ok (.invokevirtual 314, 3) := by decide +kernel
theorem dX12_pull_6 : decode cX12_pull 6 = .ok (.istore_n 3, 1) := by decide +kernel
theorem dX12_pull_7 : decode cX12_pull 7 = .ok (.iload_n 2, 1) := by decide +kernel
theorem dX12_pull_8 : decode cX12_pull 8 = .ok (.bipush 6, 2) := by decide +kernel
theorem dX12_pull_10 : decode cX12_pull 10 = .ok (.if_icmp .ge 12, 3) := by decide +kernel
theorem dX12_pull_13 : decode cX12_pull 13 = .ok (.iload_n 3, 1) := by decide +kernel
theorem dX12_pull_14 : decode cX12_pull 14 = .ok (.bipush 6, 2) := by decide +kernel
theorem dX12_pull_16 : decode cX12_pull 16 = .ok (.iadd, 1) := by decide +kernel
theorem dX12_pull_17 : decode cX12_pull 17 = .ok (.iload_n 2, 1) := by decide +kernel
theorem dX12_pull_18 : decode cX12_pull 18 = .ok (.isub, 1) := by decide +kernel
theorem dX12_pull_19 : decode cX12_pull 19 = .ok (.goto 4, 3) := by decide +kernel
theorem dX12_pull_22 : decode cX12_pull 22 = .ok (.iload_n 3, 1) := by decide +kernel
theorem dX12_pull_23 : decode cX12_pull 23 = .ok (.istore 4, 2) := by decide +kernel
theorem dX12_pull_25 : decode cX12_pull 25 = .ok (.iload_n 2, 1) := by decide +kernel
theorem dX12_pull_26 : decode cX12_pull 26 = .ok (.iconst 5, 1) := by decide +kernel
theorem dX12_pull_27 : decode cX12_pull 27 = .ok (.if_icmp .le 11, 3) := by decide +kernel
theorem dX12_pull_30 : decode cX12_pull 30 = .ok (.iload_n 3, 1) := by decide +kernel
theorem dX12_pull_31 : decode cX12_pull 31 = .ok (.iload_n 2, 1) := by decide +kernel
theorem dX12_pull_32 : decode cX12_pull 32 = .ok (.iadd, 1) := by decide +kernel
theorem dX12_pull_33 : decode cX12_pull 33 = .ok (.iconst 5, 1) := by decide +kernel
theorem dX12_pull_34 : decode cX12_pull 34 = .ok (.isub, 1) := by decide +kernel
theorem dX12_pull_35 : decode cX12_pull 35 = .ok (.goto 4, 3) := by decide +kernel
theorem dX12_pull_38 : decode cX12_pull 38 = .ok (.iload_n 3, 1) := by decide +kernel
theorem dX12_pull_39 : decode cX12_pull 39 = .ok (.istore 5, 2) := by decide +kernel
theorem dX12_pull_41 : decode cX12_pull 41 = .ok (.iload_n 2, 1) := by decide +kernel
theorem dX12_pull_42 : decode cX12_pull 42 = .ok (.aload_n 0, 1) := by decide +kernel
theorem dX12_pull_43 : decode cX12_pull 43 = .ok (.getfield 23, 3) := by decide +kernel
theorem dX12_pull_46 : decode cX12_pull 46 = .ok (.iload_n 1, 1) := by decide +kernel
theorem dX12_pull_47 : decode cX12_pull 47 = .ok (.iaload, 1) := by decide +kernel
theorem dX12_pull_48 : decode cX12_pull 48 = .ok (.iadd, 1) := by decide +kernel
theorem dX12_pull_49 : decode cX12_pull 49 = .ok (.iconst 3, 1) := by decide +kernel
theorem dX12_pull_50 : decode cX12_pull 50 = .ok (.irem, 1) := by decide +kernel
theorem dX12_pull_51 : decode cX12_pull 51 = .ok (.ifCond .eq 9, 3) := by decide +kernel
theorem dX12_pull_54 : decode cX12_pull 54 = .ok (.iload_n 3, 1) := by decide +kernel
theorem dX12_pull_55 : decode cX12_pull 55 = .ok (.iconst 2, 1) := by decide +kernel
theorem dX12_pull_56 : decode cX12_pull 56 = .ok (.idiv, 1) := by decide +kernel
theorem dX12_pull_57 : decode cX12_pull 57 = .ok (.goto 4, 3) := by decide +kernel
theorem dX12_pull_60 : decode cX12_pull 60 = .ok (.iload_n 3, 1) := by decide +kernel
theorem dX12_pull_61 : decode cX12_pull 61 = .ok (.istore 6, 2) := by decide +kernel
theorem dX12_pull_63 : decode cX12_pull 63 = .ok (.aload_n 0, 1) := by decide +kernel
theorem dX12_pull_64 : decode cX12_pull 64 = .ok (.getfield 19, 3) := by decide +kernel
theorem dX12_pull_67 : decode cX12_pull 67 = .ok (.iload_n 1, 1) := by decide +kernel
theorem dX12_pull_68 : decode cX12_pull 68 = .ok (.iaload, 1) := by decide +kernel
theorem dX12_pull_69 : decode cX12_pull 69 = .ok (.tableswitch 109 1 6 #[39, 42, 45, 48, 76, 93], 39) := by decide +kernel
theorem dX12_pull_108 : decode cX12_pull 108 = .ok (.iload 4, 2) := by decide +kernel
theorem dX12_pull_110 : decode cX12_pull 110 = .ok (.ireturn, 1) := by decide +kernel
theorem dX12_pull_111 : decode cX12_pull 111 = .ok (.iload 5, 2) := by decide +kernel
theorem dX12_pull_113 : decode cX12_pull 113 = .ok (.ireturn, 1) := by decide +kernel
theorem dX12_pull_114 : decode cX12_pull 114 = .ok (.iload 6, 2) := by decide +kernel
theorem dX12_pull_116 : decode cX12_pull 116 = .ok (.ireturn, 1) := by decide +kernel
theorem dX12_pull_117 : decode cX12_pull 117 = .ok (.iload_n 1, 1) := by decide +kernel
theorem dX12_pull_118 : decode cX12_pull 118 = .ok (.ifCond .le 24, 3) := by decide +kernel
theorem dX12_pull_121 : decode cX12_pull 121 = .ok (.aload_n 0, 1) := by decide +kernel
theorem dX12_pull_122 : decode cX12_pull 122 = .ok (.aload_n 0, 1) := by decide +kernel
theorem dX12_pull_123 : decode cX12_pull 123 = .ok (.getfield 13, 3) := by decide +kernel
theorem dX12_pull_126 : decode cX12_pull 126 = .ok (.iload_n 1, 1) := by decide +kernel
theorem dX12_pull_127 : decode cX12_pull 127 = .ok (.iconst 1, 1) := by decide +kernel
theorem dX12_pull_128 : decode cX12_pull 128 = .ok (.isub, 1) := by decide +kernel
theorem dX12_pull_129 : decode cX12_pull 129 = .ok (.invokevirtual 230, 3) := by decide +kernel
theorem dX12_pull_132 : decode cX12_pull 132 = .ok (.ifCond .ne 10, 3) := by decide +kernel
theorem dX12_pull_135 : decode cX12_pull 135 = .ok (.iload 4, 2) := by decide +kernel
theorem dX12_pull_137 : decode cX12_pull 137 = .ok (.iconst 1, 1) := by decide +kernel
theorem dX12_pull_138 : decode cX12_pull 138 = .ok (.isub, 1) := by decide +kernel
theorem dX12_pull_139 : decode cX12_pull 139 = .ok (.goto 5, 3) := by decide +kernel
theorem dX12_pull_142 : decode cX12_pull 142 = .ok (.iload 4, 2) := by decide +kernel
theorem dX12_pull_144 : decode cX12_pull 144 = .ok (.ireturn, 1) := by decide +kernel
theorem dX12_pull_145 : decode cX12_pull 145 = .ok (.aload_n 0, 1) := by decide +kernel
theorem dX12_pull_146 : decode cX12_pull 146 = .ok (.getfield 16, 3) := by decide +kernel
theorem dX12_pull_149 : decode cX12_pull 149 = .ok (.iconst 2, 1) := by decide +kernel
theorem dX12_pull_150 : decode cX12_pull 150 = .ok (.irem, 1) := by decide +kernel
theorem dX12_pull_151 : decode cX12_pull 151 = .ok (.iconst 1, 1) := by decide +kernel
theorem dX12_pull_152 : decode cX12_pull 152 = .ok (.if_icmp .ne 7, 3) := by decide +kernel
theorem dX12_pull_155 : decode cX12_pull 155 = .ok (.iconst 0, 1) := by decide +kernel
theorem dX12_pull_156 : decode cX12_pull 156 = .ok (.goto 5, 3) := by decide +kernel
theorem dX12_pull_159 : decode cX12_pull 159 = .ok (.iload 5, 2) := by decide +kernel
theorem dX12_pull_161 : decode cX12_pull 161 = .ok (.ireturn, 1) := by decide +kernel
theorem dX12_pull_162 : decode cX12_pull 162 = .ok (.iload 6, 2) := by decide +kernel
theorem dX12_pull_164 : decode cX12_pull 164 = .ok (.aload_n 0, 1) := by decide +kernel
theorem dX12_pull_165 : decode cX12_pull 165 = .ok (.getfield 32, 3) := by decide +kernel
theorem dX12_pull_168 : decode cX12_pull 168 = .ok (.iconst 4, 1) := by decide +kernel
theorem dX12_pull_169 : decode cX12_pull 169 = .ok (.iload_n 1, 1) := by decide +kernel
theorem dX12_pull_170 : decode cX12_pull 170 = .ok (.imul, 1) := by decide +kernel
theorem dX12_pull_171 : decode cX12_pull 171 = .ok (.iload_n 2, 1) := by decide +kernel
theorem dX12_pull_172 : decode cX12_pull 172 = .ok (.iconst 4, 1) := by decide +kernel
theorem dX12_pull_173 : decode cX12_pull 173 = .ok (.irem, 1) := by decide +kernel
theorem dX12_pull_174 : decode cX12_pull 174 = .ok (.iadd, 1) := by decide +kernel
theorem dX12_pull_175 : decode cX12_pull 175 = .ok (.iaload, 1) := by decide +kernel
theorem dX12_pull_176 : decode cX12_pull 176 = .ok (.iadd, 1) := by decide +kernel
theorem dX12_pull_177 : decode cX12_pull 177 = .ok (.ireturn, 1) := by decide +kernel
theorem dX12_pull_178 : decode cX12_pull 178 = .ok (.iload_n 3, 1) := by decide +kernel
theorem dX12_pull_179 : decode cX12_pull 179 = .ok (.ireturn, 1) := by decide +kernel
theorem dX12_owner_0 : decode cX12_owner 0 = .ok (.bipush (-5), 2) := by decide +kernel
theorem dX12_owner_2 : decode cX12_owner 2 = .ok (.istore_n 2, 1) := by decide +kernel
theorem dX12_owner_3 : decode cX12_owner 3 = .ok (.iconst 0, 1) := by decide +kernel
theorem dX12_owner_4 : decode cX12_owner 4 = .ok (.istore_n 3, 1) := by decide +kernel
theorem dX12_owner_5 : decode cX12_owner 5 = .ok (.iconst 0, 1) := by decide +kernel
theorem dX12_owner_6 : decode cX12_owner 6 = .ok (.istore 4, 2) := by decide +kernel
theorem dX12_owner_8 : decode cX12_owner 8 = .ok (.iload 4, 2) := by decide +kernel
theorem dX12_owner_10 : decode cX12_owner 10 = .ok (.aload_n 0, 1) := by decide +kernel
theorem dX12_owner_11 : decode cX12_owner 11 = .ok (.getfield 7, 3) := by decide +kernel
theorem dX12_owner_14 : decode cX12_owner 14 = .ok (.if_icmp .ge 49, 3) := by decide +kernel
theorem dX12_owner_17 : decode cX12_owner 17 = .ok (.aload_n 0, 1) := by decide +kernel
theorem dX12_owner_18 : decode cX12_owner 18 = .ok (.aload_n 0, 1) := by decide +kernel
theorem dX12_owner_19 : decode cX12_owner 19 = .ok (.getfield 13, 3) := by decide +kernel
theorem dX12_owner_22 : decode cX12_owner 22 = .ok (.iload 4, 2) := by decide +kernel
theorem dX12_owner_24 : decode cX12_owner 24 = .ok (.invokevirtual 230, 3) := by decide +kernel
theorem dX12_owner_27 : decode cX12_owner 27 = .ok (.ifCond .eq 6, 3) := by decide +kernel
theorem dX12_owner_30 : decode cX12_owner 30 = .ok (.goto 27, 3) := by decide +kernel
theorem dX12_owner_33 : decode cX12_owner 33 = .ok (.aload_n 0, 1) := by decide +kernel
theorem dX12_owner_34 : decode cX12_owner 34 = .ok (.iload 4, 2) := by decide +kernel
theorem dX12_owner_36 : decode cX12_owner 36 = .ok (.iload_n 1, 1) := by decide +kernel
theorem dX12_owner_37 : decode cX12_owner 37 = .ok (.invokevirtual 318, 3) := by decide +kernel
theorem dX12_owner_40 : decode cX12_owner 40 = .ok (.istore 5, 2) := by decide +kernel
theorem dX12_owner_42 : decode cX12_owner 42 = .ok (.iload 5, 2) := by decide +kernel
theorem dX12_owner_44 : decode cX12_owner 44 = .ok (.iload_n 3, 1) := by decide +kernel
theorem dX12_owner_45 : decode cX12_owner 45 = .ok (.if_icmp .gt 6, 3) := by decide +kernel
theorem dX12_owner_48 : decode cX12_owner 48 = .ok (.goto 9, 3) := by decide +kernel
theorem dX12_owner_51 : decode cX12_owner 51 = .ok (.iload 4, 2) := by decide +kernel
theorem dX12_owner_53 : decode cX12_owner 53 = .ok (.istore_n 2, 1) := by decide +kernel
theorem dX12_owner_54 : decode cX12_owner 54 = .ok (.iload 5, 2) := by decide +kernel
theorem dX12_owner_56 : decode cX12_owner 56 = .ok (.istore_n 3, 1) := by decide +kernel
theorem dX12_owner_57 : decode cX12_owner 57 = .ok (.iinc 4 1, 3) := by decide +kernel
theorem dX12_owner_60 : decode cX12_owner 60 = .ok (.goto (-52), 3) := by decide +kernel
theorem dX12_owner_63 : decode cX12_owner 63 = .ok (.iload_n 2, 1) := by decide +kernel
theorem dX12_owner_64 : decode cX12_owner 64 = .ok (.ireturn, 1) := by decide +kernel
theorem dX12_layHours_0 : decode cX12_layHours 0 = .ok (.iconst 0, 1) := by decide +kernel
theorem dX12_layHours_1 : decode cX12_layHours 1 = .ok (.istore_n 1, 1) := by decide +kernel
theorem dX12_layHours_2 : decode cX12_layHours 2 = .ok (.iload_n 1, 1) := by decide +kernel
theorem dX12_layHours_3 : decode cX12_layHours 3 = .ok (.bipush 6, 2) := by decide +kernel
theorem dX12_layHours_5 : decode cX12_layHours 5 = .ok (.if_icmp .ge 16, 3) := by decide +kernel
theorem dX12_layHours_8 : decode cX12_layHours 8 = .ok (.aload_n 0, 1) := by decide +kernel
theorem dX12_layHours_9 : decode cX12_layHours 9 = .ok (.getfield 90, 3) := by decide +kernel
theorem dX12_layHours_12 : decode cX12_layHours 12 = .ok (.iload_n 1, 1) := by decide +kernel
theorem dX12_layHours_13 : decode cX12_layHours 13 = .ok (.iconst 0, 1) := by decide +kernel
theorem dX12_layHours_14 : decode cX12_layHours 14 = .ok (.iastore, 1) := by decide +kernel
theorem dX12_layHours_15 : decode cX12_layHours 15 = .ok (.iinc 1 1, 3) := by decide +kernel
theorem dX12_layHours_18 : decode cX12_layHours 18 = .ok (.goto (-16), 3) := by decide +kernel
theorem dX12_layHours_21 : decode cX12_layHours 21 = .ok (.iconst 0, 1) := by decide +kernel
theorem dX12_layHours_22 : decode cX12_layHours 22 = .ok (.istore_n 1, 1) := by decide +kernel
theorem dX12_layHours_23 : decode cX12_layHours 23 = .ok (.iload_n 1, 1) := by decide +kernel
theorem dX12_layHours_24 : decode cX12_layHours 24 = .ok (.bipush 12, 2) := by decide +kernel
theorem dX12_layHours_26 : decode cX12_layHours 26 = .ok (.if_icmp .ge 31, 3) := by decide +kernel
theorem dX12_layHours_29 : decode cX12_layHours 29 = .ok (.aload_n 0, 1) := by decide +kernel
theorem dX12_layHours_30 : decode cX12_layHours 30 = .ok (.iload_n 1, 1) := by decide +kernel
theorem dX12_layHours_31 : decode cX12_layHours 31 = .ok (.invokevirtual 321, 3) := by decide +kernel
theorem dX12_layHours_34 : decode cX12_layHours 34 = .ok (.istore_n 2, 1) := by decide +kernel
theorem dX12_layHours_35 : decode cX12_layHours 35 = .ok (.iload_n 2, 1) := by decide +kernel
theorem dX12_layHours_36 : decode cX12_layHours 36 = .ok (.ifCond .lt 15, 3) := by decide +kernel
theorem dX12_layHours_39 : decode cX12_layHours 39 = .ok (.aload_n 0, 1) := by decide +kernel
theorem dX12_layHours_40 : decode cX12_layHours 40 = .ok (.getfield 90, 3) := by decide +kernel
theorem dX12_layHours_43 : decode cX12_layHours 43 = .ok (.iload_n 2, 1) := by decide +kernel
theorem dX12_layHours_44 : decode cX12_layHours 44 = .ok (.dup2, 1) := by decide +kernel
theorem dX12_layHours_45 : decode cX12_layHours 45 = .ok (.iaload, 1) := by decide +kernel
theorem dX12_layHours_46 : decode cX12_layHours 46 = .ok (.iconst 1, 1) := by decide +kernel
theorem dX12_layHours_47 : decode cX12_layHours 47 = .ok (.iload_n 1, 1) := by decide +kernel
theorem dX12_layHours_48 : decode cX12_layHours 48 = .ok (.ishl, 1) := by decide +kernel
theorem dX12_layHours_49 : decode cX12_layHours 49 = .ok (.ior, 1) := by decide +kernel
theorem dX12_layHours_50 : decode cX12_layHours 50 = .ok (.iastore, 1) := by decide +kernel
theorem dX12_layHours_51 : decode cX12_layHours 51 = .ok (.iinc 1 1, 3) := by decide +kernel
theorem dX12_layHours_54 : decode cX12_layHours 54 = .ok (.goto (-31), 3) := by decide +kernel
theorem dX12_layHours_57 : decode cX12_layHours 57 = .ok (.return_, 1) := by decide +kernel
theorem dX12_hoursOf_0 : decode cX12_hoursOf 0 = .ok (.aload_n 0, 1) := by decide +kernel
theorem dX12_hoursOf_1 : decode cX12_hoursOf 1 = .ok (.invokevirtual 324, 3) := by decide +kernel
theorem dX12_hoursOf_4 : decode cX12_hoursOf 4 = .ok (.aload_n 0, 1) := by decide +kernel
theorem dX12_hoursOf_5 : decode cX12_hoursOf 5 = .ok (.getfield 90, 3) := by decide +kernel
theorem dX12_hoursOf_8 : decode cX12_hoursOf 8 = .ok (.iload_n 1, 1) := by decide +kernel
theorem dX12_hoursOf_9 : decode cX12_hoursOf 9 = .ok (.iaload, 1) := by decide +kernel
theorem dX12_hoursOf_10 : decode cX12_hoursOf 10 = .ok (.ireturn, 1) := by decide +kernel
theorem dX12_hoursIf_0 : decode cX12_hoursIf 0 = .ok (.aload_n 0, 1) := by decide +kernel
theorem dX12_hoursIf_1 : decode cX12_hoursIf 1 = .ok (.getfield 13, 3) := by decide +kernel
theorem dX12_hoursIf_4 : decode cX12_hoursIf 4 = .ok (.istore_n 3, 1) := by decide +kernel
theorem dX12_hoursIf_5 : decode cX12_hoursIf 5 = .ok (.aload_n 0, 1) := by decide +kernel
theorem dX12_hoursIf_6 : decode cX12_hoursIf 6 = .ok (.dup, 1) := by decide +kernel
theorem dX12_hoursIf_7 : decode cX12_hoursIf 7 = .ok (.getfield 13, 3) := by decide +kernel
theorem dX12_hoursIf_10 : decode cX12_hoursIf 10 = .ok (.iload_n 2, 1) := by decide +kernel
theorem dX12_hoursIf_11 : decode cX12_hoursIf 11 = .ok (.ior, 1) := by decide +kernel
theorem dX12_hoursIf_12 : decode cX12_hoursIf 12 = .ok (.putfield 13, 3) := by decide +kernel
theorem dX12_hoursIf_15 : decode cX12_hoursIf 15 = .ok (.aload_n 0, 1) := by decide +kernel
theorem dX12_hoursIf_16 : decode cX12_hoursIf 16 = .ok (.iload_n 1, 1) := by decide +kernel
theorem dX12_hoursIf_17 : decode cX12_hoursIf 17 = .ok (.invokevirtual 327, 3) := by decide +kernel
theorem dX12_hoursIf_20 : decode cX12_hoursIf 20 = .ok (.istore 4, 2) := by decide +kernel
theorem dX12_hoursIf_22 : decode cX12_hoursIf 22 = .ok (.aload_n 0, 1) := by decide +kernel
theorem dX12_hoursIf_23 : decode cX12_hoursIf 23 = .ok (.iload_n 3, 1) := by decide +kernel
theorem dX12_hoursIf_24 : decode cX12_hoursIf 24 = .ok (.putfield 13, 3) := by decide +kernel
theorem dX12_hoursIf_27 : decode cX12_hoursIf 27 = .ok (.iload 4, 2) := by decide +kernel
theorem dX12_hoursIf_29 : decode cX12_hoursIf 29 = .ok (.ireturn, 1) := by decide +kernel
theorem dX12_sole_0 : decode cX12_sole 0 = .ok (.aload_n 0, 1) := by decide +kernel
theorem dX12_sole_1 : decode cX12_sole 1 = .ok (.iload_n 1, 1) := by decide +kernel
theorem dX12_sole_2 : decode cX12_sole 2 = .ok (.bipush 63, 2) := by decide +kernel
theorem dX12_sole_4 : decode cX12_sole 4 = .ok (.iconst 1, 1) := by decide +kernel
theorem dX12_sole_5 : decode cX12_sole 5 = .ok (.iload_n 1, 1) := by decide +kernel
theorem dX12_sole_6 : decode cX12_sole 6 = .ok (.ishl, 1) := by decide +kernel
theorem dX12_sole_7 : decode cX12_sole 7 = .ok (.iconst (-1), 1) := by decide +kernel
theorem dX12_sole_8 : decode cX12_sole 8 = .ok (.ixor, 1) := by decide +kernel
theorem dX12_sole_9 : decode cX12_sole 9 = .ok (.iand, 1) := by decide +kernel
theorem dX12_sole_10 : decode cX12_sole 10 = .ok (.invokevirtual 330, 3) := by decide +kernel
theorem dX12_sole_13 : decode cX12_sole 13 = .ok (.ireturn, 1) := by decide +kernel
theorem dX12_goDay_0 : decode cX12_goDay 0 = .ok (.aload_n 0, 1) := by decide +kernel
theorem dX12_goDay_1 : decode cX12_goDay 1 = .ok (.invokevirtual 324, 3) := by decide +kernel
theorem dX12_goDay_4 : decode cX12_goDay 4 = .ok (.iconst 0, 1) := by decide +kernel
theorem dX12_goDay_5 : decode cX12_goDay 5 = .ok (.istore_n 1, 1) := by decide +kernel
theorem dX12_goDay_6 : decode cX12_goDay 6 = .ok (.iload_n 1, 1) := by decide +kernel
theorem dX12_goDay_7 : decode cX12_goDay 7 = .ok (.aload_n 0, 1) := by decide +kernel
theorem dX12_goDay_8 : decode cX12_goDay 8 = .ok (.getfield 7, 3) := by decide +kernel
theorem dX12_goDay_11 : decode cX12_goDay 11 = .ok (.if_icmp .ge 55, 3) := by decide +kernel
theorem dX12_goDay_14 : decode cX12_goDay 14 = .ok (.aload_n 0, 1) := by decide +kernel
theorem dX12_goDay_15 : decode cX12_goDay 15 = .ok (.getfield 26, 3) := by decide +kernel
theorem dX12_goDay_18 : decode cX12_goDay 18 = .ok (.iload_n 1, 1) := by decide +kernel
theorem dX12_goDay_19 : decode cX12_goDay 19 = .ok (.dup2, 1) := by decide +kernel
theorem dX12_goDay_20 : decode cX12_goDay 20 = .ok (.iaload, 1) := by decide +kernel
theorem dX12_goDay_21 : decode cX12_goDay 21 = .ok (.aload_n 0, 1) := by decide +kernel
theorem dX12_goDay_22 : decode cX12_goDay 22 = .ok (.getfield 90, 3) := by decide +kernel
theorem dX12_goDay_25 : decode cX12_goDay 25 = .ok (.iload_n 1, 1) := by decide +kernel
theorem dX12_goDay_26 : decode cX12_goDay 26 = .ok (.iaload, 1) := by decide +kernel
theorem dX12_goDay_27 : decode cX12_goDay 27 = .ok (.ior, 1) := by decide +kernel
theorem dX12_goDay_28 : decode cX12_goDay 28 = .ok (.iastore, 1) := by decide +kernel
theorem dX12_goDay_29 : decode cX12_goDay 29 = .ok (.aload_n 0, 1) := by decide +kernel
theorem dX12_goDay_30 : decode cX12_goDay 30 = .ok (.getfield 29, 3) := by decide +kernel
theorem dX12_goDay_33 : decode cX12_goDay 33 = .ok (.iload_n 1, 1) := by decide +kernel
theorem dX12_goDay_34 : decode cX12_goDay 34 = .ok (.aload_n 0, 1) := by decide +kernel
theorem dX12_goDay_35 : decode cX12_goDay 35 = .ok (.aload_n 0, 1) := by decide +kernel
theorem dX12_goDay_36 : decode cX12_goDay 36 = .ok (.getfield 29, 3) := by decide +kernel
theorem dX12_goDay_39 : decode cX12_goDay 39 = .ok (.iload_n 1, 1) := by decide +kernel
theorem dX12_goDay_40 : decode cX12_goDay 40 = .ok (.iaload, 1) := by decide +kernel
theorem dX12_goDay_41 : decode cX12_goDay 41 = .ok (.aload_n 0, 1) := by decide +kernel
theorem dX12_goDay_42 : decode cX12_goDay 42 = .ok (.aload_n 0, 1) := by decide +kernel
theorem dX12_goDay_43 : decode cX12_goDay 43 = .ok (.getfield 90, 3) := by decide +kernel
theorem dX12_goDay_46 : decode cX12_goDay 46 = .ok (.iload_n 1, 1) := by decide +kernel
theorem dX12_goDay_47 : decode cX12_goDay 47 = .ok (.iaload, 1) := by decide +kernel
theorem dX12_goDay_48 : decode cX12_goDay 48 = .ok (.invokevirtual 333, 3) := by decide +kernel
theorem dX12_goDay_51 : decode cX12_goDay 51 = .ok (.iadd, 1) := by decide +kernel
theorem dX12_goDay_52 : decode cX12_goDay 52 = .ok (.aload_n 0, 1) := by decide +kernel
theorem dX12_goDay_53 : decode cX12_goDay 53 = .ok (.getfield 93, 3) := by decide +kernel
theorem dX12_goDay_56 : decode cX12_goDay 56 = .ok (.invokevirtual 336, 3) := by decide +kernel
theorem dX12_goDay_59 : decode cX12_goDay 59 = .ok (.iastore, 1) := by decide +kernel
theorem dX12_goDay_60 : decode cX12_goDay 60 = .ok (.iinc 1 1, 3) := by decide +kernel
theorem dX12_goDay_63 : decode cX12_goDay 63 = .ok (.goto (-57), 3) := by decide +kernel
theorem dX12_goDay_66 : decode cX12_goDay 66 = .ok (.aload_n 0, 1) := by decide +kernel
theorem dX12_goDay_67 : decode cX12_goDay 67 = .ok (.dup, 1) := by decide +kernel
theorem dX12_goDay_68 : decode cX12_goDay 68 = .ok (.getfield 16, 3) := by decide +kernel
theorem dX12_goDay_71 : decode cX12_goDay 71 = .ok (.iconst 1, 1) := by decide +kernel
theorem dX12_goDay_72 : decode cX12_goDay 72 = .ok (.iadd, 1) := by decide +kernel
theorem dX12_goDay_73 : decode cX12_goDay 73 = .ok (.putfield 16, 3) := by decide +kernel
theorem dX12_goDay_76 : decode cX12_goDay 76 = .ok (.return_, 1) := by decide +kernel
theorem dX12_goDays_0 : decode cX12_goDays 0 = .ok (.iconst 0, 1) := by decide +kernel
theorem dX12_goDays_1 : decode cX12_goDays 1 = .ok (.istore_n 2, 1) := by decide +kernel
theorem dX12_goDays_2 : decode cX12_goDays 2 = .ok (.iload_n 2, 1) := by decide +kernel
theorem dX12_goDays_3 : decode cX12_goDays 3 = .ok (.iload_n 1, 1) := by decide +kernel
theorem dX12_goDays_4 : decode cX12_goDays 4 = .ok (.if_icmp .ge 13, 3) := by decide +kernel
theorem dX12_goDays_7 : decode cX12_goDays 7 = .ok (.aload_n 0, 1) := by decide +kernel
theorem dX12_goDays_8 : decode cX12_goDays 8 = .ok (.invokevirtual 339, 3) := by decide +kernel
theorem dX12_goDays_11 : decode cX12_goDays 11 = .ok (.iinc 2 1, 3) := by decide +kernel
theorem dX12_goDays_14 : decode cX12_goDays 14 = .ok (.goto (-12), 3) := by decide +kernel
theorem dX12_goDays_17 : decode cX12_goDays 17 = .ok (.return_, 1) := by decide +kernel
theorem dX12_pass_0 : decode cX12_pass 0 = .ok (.aload_n 0, 1) := by decide +kernel
theorem dX12_pass_1 : decode cX12_pass 1 = .ok (.iload_n 1, 1) := by decide +kernel
theorem dX12_pass_2 : decode cX12_pass 2 = .ok (.iconst 0, 1) := by decide +kernel
theorem dX12_pass_3 : decode cX12_pass 3 = .ok (.bipush 60, 2) := by decide +kernel
theorem dX12_pass_5 : decode cX12_pass 5 = .ok (.invokevirtual 234, 3) := by decide +kernel
theorem dX12_pass_8 : decode cX12_pass 8 = .ok (.ifCond .ne 6, 3) := by decide +kernel
theorem dX12_pass_11 : decode cX12_pass 11 = .ok (.bipush (-2), 2) := by decide +kernel
theorem dX12_pass_13 : decode cX12_pass 13 = .ok (.ireturn, 1) := by decide +kernel
theorem dX12_pass_14 : decode cX12_pass 14 = .ok (.aload_n 0, 1) := by decide +kernel
theorem dX12_pass_15 : decode cX12_pass 15 = .ok (.getfield 16, 3) := by decide +kernel
theorem dX12_pass_18 : decode cX12_pass 18 = .ok (.iload_n 1, 1) := by decide +kernel
theorem dX12_pass_19 : decode cX12_pass 19 = .ok (.iadd, 1) := by decide +kernel
theorem dX12_pass_20 : decode cX12_pass 20 = .ok (.sipush 9999, 3) := by decide +kernel
theorem dX12_pass_23 : decode cX12_pass 23 = .ok (.if_icmp .le 6, 3) := by decide +kernel
theorem dX12_pass_26 : decode cX12_pass 26 = .ok (.bipush (-3), 2) := by decide +kernel
theorem dX12_pass_28 : decode cX12_pass 28 = .ok (.ireturn, 1) := by decide +kernel
theorem dX12_pass_29 : decode cX12_pass 29 = .ok (.aload_n 0, 1) := by decide +kernel
theorem dX12_pass_30 : decode cX12_pass 30 = .ok (.iload_n 1, 1) := by decide +kernel
theorem dX12_pass_31 : decode cX12_pass 31 = .ok (.invokevirtual 342, 3) := by decide +kernel
theorem dX12_pass_34 : decode cX12_pass 34 = .ok (.aload_n 0, 1) := by decide +kernel
theorem dX12_pass_35 : decode cX12_pass 35 = .ok (.getfield 16, 3) := by decide +kernel
theorem dX12_pass_38 : decode cX12_pass 38 = .ok (.ireturn, 1) := by decide +kernel
theorem dX12_save_0 : decode cX12_save 0 = .ok (.aload_n 0, 1) := by decide +kernel
theorem dX12_save_1 : decode cX12_save 1 = .ok (.ldc_w 345, 3) := by decide +kernel
theorem dX12_save_4 : decode cX12_save 4 = .ok (.putfield 93, 3) := by decide +kernel
theorem dX12_save_7 : decode cX12_save 7 = .ok (.aload_n 0, 1) := by decide +kernel
theorem dX12_save_8 : decode cX12_save 8 = .ok (.aload_n 0, 1) := by decide +kernel
theorem dX12_save_9 : decode cX12_save 9 = .ok (.getfield 13, 3) := by decide +kernel
theorem dX12_save_12 : decode cX12_save 12 = .ok (.putfield 96, 3) := by decide +kernel
theorem dX12_save_15 : decode cX12_save 15 = .ok (.aload_n 0, 1) := by decide +kernel
theorem dX12_save_16 : decode cX12_save 16 = .ok (.aload_n 0, 1) := by decide +kernel
theorem dX12_save_17 : decode cX12_save 17 = .ok (.getfield 16, 3) := by decide +kernel
theorem dX12_save_20 : decode cX12_save 20 = .ok (.putfield 99, 3) := by decide +kernel
theorem dX12_save_23 : decode cX12_save 23 = .ok (.iconst 0, 1) := by decide +kernel
theorem dX12_save_24 : decode cX12_save 24 = .ok (.istore_n 1, 1) := by decide +kernel
theorem dX12_save_25 : decode cX12_save 25 = .ok (.iload_n 1, 1) := by decide +kernel
theorem dX12_save_26 : decode cX12_save 26 = .ok (.bipush 6, 2) := by decide +kernel
theorem dX12_save_28 : decode cX12_save 28 = .ok (.if_icmp .ge 33, 3) := by decide +kernel
theorem dX12_save_31 : decode cX12_save 31 = .ok (.aload_n 0, 1) := by decide +kernel
theorem dX12_save_32 : decode cX12_save 32 = .ok (.getfield 102, 3) := by decide +kernel
theorem dX12_save_35 : decode cX12_save 35 = .ok (.iload_n 1, 1) := by decide +kernel
theorem dX12_save_36 : decode cX12_save 36 = .ok (.aload_n 0, 1) := by decide +kernel
theorem dX12_save_37 : decode cX12_save 37 = .ok (.getfield 26, 3) := by decide +kernel
theorem dX12_save_40 : decode cX12_save 40 = .ok (.iload_n 1, 1) := by decide +kernel
theorem dX12_save_41 : decode cX12_save 41 = .ok (.iaload, 1) := by decide +kernel
theorem dX12_save_42 : decode cX12_save 42 = .ok (.iastore, 1) := by decide +kernel
theorem dX12_save_43 : decode cX12_save 43 = .ok (.aload_n 0, 1) := by decide +kernel
theorem dX12_save_44 : decode cX12_save 44 = .ok (.getfield 105, 3) := by decide +kernel
theorem dX12_save_47 : decode cX12_save 47 = .ok (.iload_n 1, 1) := by decide +kernel
theorem dX12_save_48 : decode cX12_save 48 = .ok (.aload_n 0, 1) := by decide +kernel
theorem dX12_save_49 : decode cX12_save 49 = .ok (.getfield 29, 3) := by decide +kernel
theorem dX12_save_52 : decode cX12_save 52 = .ok (.iload_n 1, 1) := by decide +kernel
theorem dX12_save_53 : decode cX12_save 53 = .ok (.iaload, 1) := by decide +kernel
theorem dX12_save_54 : decode cX12_save 54 = .ok (.iastore, 1) := by decide +kernel
theorem dX12_save_55 : decode cX12_save 55 = .ok (.iinc 1 1, 3) := by decide +kernel
theorem dX12_save_58 : decode cX12_save 58 = .ok (.goto (-33), 3) := by decide +kernel
theorem dX12_save_61 : decode cX12_save 61 = .ok (.return_, 1) := by decide +kernel
theorem dX12_putBack_0 : decode cX12_putBack 0 = .ok (.aload_n 0, 1) := by decide +kernel
theorem dX12_putBack_1 : decode cX12_putBack 1 = .ok (.sipush 9999, 3) := by decide +kernel
theorem dX12_putBack_4 : decode cX12_putBack 4 = .ok (.putfield 93, 3) := by decide +kernel
theorem dX12_putBack_7 : decode cX12_putBack 7 = .ok (.aload_n 0, 1) := by decide +kernel
theorem dX12_putBack_8 : decode cX12_putBack 8 = .ok (.aload_n 0, 1) := by decide +kernel
theorem dX12_putBack_9 : decode cX12_putBack 9 = .ok (.getfield 96, 3) := by decide +kernel
theorem dX12_putBack_12 : decode cX12_putBack 12 = .ok (.putfield 13, 3) := by decide +kernel
theorem dX12_putBack_15 : decode cX12_putBack 15 = .ok (.aload_n 0, 1) := by decide +kernel
theorem dX12_putBack_16 : decode cX12_putBack 16 = .ok (.aload_n 0, 1) := by decide +kernel
theorem dX12_putBack_17 : decode cX12_putBack 17 = .ok (.getfield 99, 3) := by decide +kernel
theorem dX12_putBack_20 : decode cX12_putBack 20 = .ok (.putfield 16, 3) := by decide +kernel
theorem dX12_putBack_23 : decode cX12_putBack 23 = .ok (.iconst 0, 1) := by decide +kernel
theorem dX12_putBack_24 : decode cX12_putBack 24 = .ok (.istore_n 1, 1) := by decide +kernel
theorem dX12_putBack_25 : decode cX12_putBack 25 = .ok (.iload_n 1, 1) := by decide +kernel
theorem dX12_putBack_26 : decode cX12_putBack 26 = .ok (.bipush 6, 2) := by decide +kernel
theorem dX12_putBack_28 : decode cX12_putBack 28 = .ok (.if_icmp .ge 33, 3) := by decide +kernel
theorem dX12_putBack_31 : decode cX12_putBack 31 = .ok (.aload_n 0, 1) := by decide +kernel
theorem dX12_putBack_32 : decode cX12_putBack 32 = .ok (.getfield 26, 3) := by decide +kernel
theorem dX12_putBack_35 : decode cX12_putBack 35 = .ok (.iload_n 1, 1) := by decide +kernel
theorem dX12_putBack_36 : decode cX12_putBack 36 = .ok (.aload_n 0, 1) := by decide +kernel
theorem dX12_putBack_37 : decode cX12_putBack 37 = .ok (.getfield 102, 3) := by decide +kernel
theorem dX12_putBack_40 : decode cX12_putBack 40 = .ok (.iload_n 1, 1) := by decide +kernel
theorem dX12_putBack_41 : decode cX12_putBack 41 = .ok (.iaload, 1) := by decide +kernel
theorem dX12_putBack_42 : decode cX12_putBack 42 = .ok (.iastore, 1) := by decide +kernel
theorem dX12_putBack_43 : decode cX12_putBack 43 = .ok (.aload_n 0, 1) := by decide +kernel
theorem dX12_putBack_44 : decode cX12_putBack 44 = .ok (.getfield 29, 3) := by decide +kernel
theorem dX12_putBack_47 : decode cX12_putBack 47 = .ok (.iload_n 1, 1) := by decide +kernel
theorem dX12_putBack_48 : decode cX12_putBack 48 = .ok (.aload_n 0, 1) := by decide +kernel
theorem dX12_putBack_49 : decode cX12_putBack 49 = .ok (.getfield 105, 3) := by decide +kernel
theorem dX12_putBack_52 : decode cX12_putBack 52 = .ok (.iload_n 1, 1) := by decide +kernel
theorem dX12_putBack_53 : decode cX12_putBack 53 = .ok (.iaload, 1) := by decide +kernel
theorem dX12_putBack_54 : decode cX12_putBack 54 = .ok (.iastore, 1) := by decide +kernel
theorem dX12_putBack_55 : decode cX12_putBack 55 = .ok (.iinc 1 1, 3) := by decide +kernel
theorem dX12_putBack_58 : decode cX12_putBack 58 = .ok (.goto (-33), 3) := by decide +kernel
theorem dX12_putBack_61 : decode cX12_putBack 61 = .ok (.return_, 1) := by decide +kernel
theorem dX12_when_0 : decode cX12_when 0 = .ok (.aload_n 0, 1) := by decide +kernel
theorem dX12_when_1 : decode cX12_when 1 = .ok (.invokevirtual 346, 3) := by decide +kernel
theorem dX12_when_4 : decode cX12_when 4 = .ok (.iconst 0, 1) := by decide +kernel
theorem dX12_when_5 : decode cX12_when 5 = .ok (.istore_n 2, 1) := by decide +kernel
theorem dX12_when_6 : decode cX12_when 6 = .ok (.iload_n 2, 1) := by decide +kernel
theorem dX12_when_7 : decode cX12_when 7 = .ok (.bipush 31, 2) := by decide +kernel
theorem dX12_when_9 : decode cX12_when 9 = .ok (.if_icmp .ge 26, 3) := by decide +kernel
theorem dX12_when_12 : decode cX12_when 12 = .ok (.aload_n 0, 1) := by decide +kernel
theorem dX12_when_13 : decode cX12_when 13 = .ok (.getfield 29, 3) := by decide +kernel
theorem dX12_when_16 : decode cX12_when 16 = .ok (.iload_n 1, 1) := by decide +kernel
theorem dX12_when_17 : decode cX12_when 17 = .ok (.iaload, 1) := by decide +kernel
theorem dX12_when_18 : decode cX12_when 18 = .ok (.aload_n 0, 1) := by decide +kernel
theorem dX12_when_19 : decode cX12_when 19 = .ok (.invokevirtual 349, 3) := by decide +kernel
theorem dX12_when_22 : decode cX12_when 22 = .ok (.if_icmp .ge 13, 3) := by decide +kernel
theorem dX12_when_25 : decode cX12_when 25 = .ok (.aload_n 0, 1) := by decide +kernel
theorem dX12_when_26 : decode cX12_when 26 = .ok (.invokevirtual 339, 3) := by decide +kernel
theorem dX12_when_29 : decode cX12_when 29 = .ok (.iinc 2 1, 3) := by decide +kernel
theorem dX12_when_32 : decode cX12_when 32 = .ok (.goto (-26), 3) := by decide +kernel
theorem dX12_when_35 : decode cX12_when 35 = .ok (.aload_n 0, 1) := by decide +kernel
theorem dX12_when_36 : decode cX12_when 36 = .ok (.invokevirtual 352, 3) := by decide +kernel
theorem dX12_when_39 : decode cX12_when 39 = .ok (.iload_n 2, 1) := by decide +kernel
theorem dX12_when_40 : decode cX12_when 40 = .ok (.bipush 31, 2) := by decide +kernel
theorem dX12_when_42 : decode cX12_when 42 = .ok (.if_icmp .ge 7, 3) := by decide +kernel
theorem dX12_when_45 : decode cX12_when 45 = .ok (.iload_n 2, 1) := by decide +kernel
theorem dX12_when_46 : decode cX12_when 46 = .ok (.goto 5, 3) := by decide +kernel
theorem dX12_when_49 : decode cX12_when 49 = .ok (.bipush (-5), 2) := by decide +kernel
theorem dX12_when_51 : decode cX12_when 51 = .ok (.ireturn, 1) := by decide +kernel
theorem dX12_of_0 : decode cX12_of 0 = .ok (.aload_n 0, 1) := by decide +kernel
theorem dX12_of_1 : decode cX12_of 1 = .ok (.iload_n 1, 1) := by decide +kernel
theorem dX12_of_2 : decode cX12_of 2 = .ok (.invokevirtual 238, 3) := by decide +kernel
theorem dX12_of_5 : decode cX12_of 5 = .ok (.ifCond .ne 7, 3) := by decide +kernel
theorem dX12_of_8 : decode cX12_of 8 = .ok (.sipush (-10001), 3) := by decide +kernel
theorem dX12_of_11 : decode cX12_of 11 = .ok (.ireturn, 1) := by decide +kernel
theorem dX12_of_12 : decode cX12_of 12 = .ok (.aload_n 0, 1) := by decide +kernel
theorem dX12_of_13 : decode cX12_of 13 = .ok (.iload_n 2, 1) := by decide +kernel
theorem dX12_of_14 : decode cX12_of 14 = .ok (.bipush 10, 2) := by decide +kernel
theorem dX12_of_16 : decode cX12_of 16 = .ok (.bipush 21, 2) := by decide +kernel
theorem dX12_of_18 : decode cX12_of 18 = .ok (.invokevirtual 234, 3) := by decide +kernel
theorem dX12_of_21 : decode cX12_of 21 = .ok (.ifCond .eq 13, 3) := by decide +kernel
theorem dX12_of_24 : decode cX12_of 24 = .ok (.aload_n 0, 1) := by decide +kernel
theorem dX12_of_25 : decode cX12_of 25 = .ok (.iload_n 1, 1) := by decide +kernel
theorem dX12_of_26 : decode cX12_of 26 = .ok (.iload_n 2, 1) := by decide +kernel
theorem dX12_of_27 : decode cX12_of 27 = .ok (.bipush 10, 2) := by decide +kernel
theorem dX12_of_29 : decode cX12_of 29 = .ok (.isub, 1) := by decide +kernel
theorem dX12_of_30 : decode cX12_of 30 = .ok (.invokevirtual 318, 3) := by decide +kernel
theorem dX12_of_33 : decode cX12_of 33 = .ok (.ireturn, 1) := by decide +kernel
theorem dX12_of_34 : decode cX12_of 34 = .ok (.iload_n 2, 1) := by decide +kernel
theorem dX12_of_35 : decode cX12_of 35 = .ok (.tableswitch 109 0 7 #[45, 52, 59, 77, 84, 91, 97, 103], 45) := by decide +kernel
theorem dX12_of_80 : decode cX12_of 80 = .ok (.aload_n 0, 1) := by decide +kernel
theorem dX12_of_81 : decode cX12_of 81 = .ok (.getfield 19, 3) := by decide +kernel
theorem dX12_of_84 : decode cX12_of 84 = .ok (.iload_n 1, 1) := by decide +kernel
theorem dX12_of_85 : decode cX12_of 85 = .ok (.iaload, 1) := by decide +kernel
theorem dX12_of_86 : decode cX12_of 86 = .ok (.ireturn, 1) := by decide +kernel
theorem dX12_of_87 : decode cX12_of 87 = .ok (.aload_n 0, 1) := by decide +kernel
theorem dX12_of_88 : decode cX12_of 88 = .ok (.getfield 23, 3) := by decide +kernel
theorem dX12_of_91 : decode cX12_of 91 = .ok (.iload_n 1, 1) := by decide +kernel
theorem dX12_of_92 : decode cX12_of 92 = .ok (.iaload, 1) := by decide +kernel
theorem dX12_of_93 : decode cX12_of 93 = .ok (.ireturn, 1) := by decide +kernel
theorem dX12_of_94 : decode cX12_of 94 = .ok (.aload_n 0, 1) := by decide +kernel
theorem dX12_of_95 : decode cX12_of 95 = .ok (.aload_n 0, 1) := by decide +kernel
theorem dX12_of_96 : decode cX12_of 96 = .ok (.getfield 13, 3) := by decide +kernel
theorem dX12_of_99 : decode cX12_of 99 = .ok (.iload_n 1, 1) := by decide +kernel
theorem dX12_of_100 : decode cX12_of 100 = .ok (.invokevirtual 230, 3) := by decide +kernel
theorem dX12_of_103 : decode cX12_of 103 = .ok (.ifCond .eq 7, 3) := by decide +kernel
theorem dX12_of_106 : decode cX12_of 106 = .ok (.iconst 1, 1) := by decide +kernel
theorem dX12_of_107 : decode cX12_of 107 = .ok (.goto 4, 3) := by decide +kernel
theorem dX12_of_110 : decode cX12_of 110 = .ok (.iconst 0, 1) := by decide +kernel
theorem dX12_of_111 : decode cX12_of 111 = .ok (.ireturn, 1) := by decide +kernel
theorem dX12_of_112 : decode cX12_of 112 = .ok (.aload_n 0, 1) := by decide +kernel
theorem dX12_of_113 : decode cX12_of 113 = .ok (.getfield 26, 3) := by decide +kernel
theorem dX12_of_116 : decode cX12_of 116 = .ok (.iload_n 1, 1) := by decide +kernel
theorem dX12_of_117 : decode cX12_of 117 = .ok (.iaload, 1) := by decide +kernel
theorem dX12_of_118 : decode cX12_of 118 = .ok (.ireturn, 1) := by decide +kernel
theorem dX12_of_119 : decode cX12_of 119 = .ok (.aload_n 0, 1) := by decide +kernel
theorem dX12_of_120 : decode cX12_of 120 = .ok (.getfield 29, 3) := by decide +kernel
theorem dX12_of_123 : decode cX12_of 123 = .ok (.iload_n 1, 1) := by decide +kernel
theorem dX12_of_124 : decode cX12_of 124 = .ok (.iaload, 1) := by decide +kernel
theorem dX12_of_125 : decode cX12_of 125 = .ok (.ireturn, 1) := by decide +kernel
theorem dX12_of_126 : decode cX12_of 126 = .ok (.aload_n 0, 1) := by decide +kernel
theorem dX12_of_127 : decode cX12_of 127 = .ok (.iload_n 1, 1) := by decide +kernel
theorem dX12_of_128 : decode cX12_of 128 = .ok (.invokevirtual 327, 3) := by decide +kernel
theorem dX12_of_131 : decode cX12_of 131 = .ok (.ireturn, 1) := by decide +kernel
theorem dX12_of_132 : decode cX12_of 132 = .ok (.aload_n 0, 1) := by decide +kernel
theorem dX12_of_133 : decode cX12_of 133 = .ok (.iload_n 1, 1) := by decide +kernel
theorem dX12_of_134 : decode cX12_of 134 = .ok (.invokevirtual 355, 3) := by decide +kernel
theorem dX12_of_137 : decode cX12_of 137 = .ok (.ireturn, 1) := by decide +kernel
theorem dX12_of_138 : decode cX12_of 138 = .ok (.aload_n 0, 1) := by decide +kernel
theorem dX12_of_139 : decode cX12_of 139 = .ok (.iload_n 1, 1) := by decide +kernel
theorem dX12_of_140 : decode cX12_of 140 = .ok (.invokevirtual 358, 3) := by decide +kernel
theorem dX12_of_143 : decode cX12_of 143 = .ok (.ireturn, 1) := by decide +kernel
theorem dX12_of_144 : decode cX12_of 144 = .ok (.sipush (-10001), 3) := by decide +kernel
theorem dX12_of_147 : decode cX12_of 147 = .ok (.ireturn, 1) := by decide +kernel
theorem dX12_allRipe_0 : decode cX12_allRipe 0 = .ok (.iconst 0, 1) := by decide +kernel
theorem dX12_allRipe_1 : decode cX12_allRipe 1 = .ok (.istore_n 1, 1) := by decide +kernel
theorem dX12_allRipe_2 : decode cX12_allRipe 2 = .ok (.iconst 0, 1) := by decide +kernel
theorem dX12_allRipe_3 : decode cX12_allRipe 3 = .ok (.istore_n 2, 1) := by decide +kernel
theorem dX12_allRipe_4 : decode cX12_allRipe 4 = .ok (.iload_n 2, 1) := by decide +kernel
theorem dX12_allRipe_5 : decode cX12_allRipe 5 = .ok (.aload_n 0, 1) := by decide +kernel
theorem dX12_allRipe_6 : decode cX12_allRipe 6 = .ok (.getfield 7, 3) := by decide +kernel
theorem dX12_allRipe_9 : decode cX12_allRipe 9 = .ok (.if_icmp .ge 18, 3) := by decide +kernel
theorem dX12_allRipe_12 : decode cX12_allRipe 12 = .ok (.iload_n 1, 1) := by decide +kernel
theorem dX12_allRipe_13 : decode cX12_allRipe 13 = .ok (.aload_n 0, 1) := by decide +kernel
theorem dX12_allRipe_14 : decode cX12_allRipe 14 = .ok (.getfield 29, 3) := by decide +kernel
theorem dX12_allRipe_17 : decode cX12_allRipe 17 = .ok (.iload_n 2, 1) := by decide +kernel
theorem dX12_allRipe_18 : decode cX12_allRipe 18 = .ok (.iaload, 1) := by decide +kernel
theorem dX12_allRipe_19 : decode cX12_allRipe 19 = .ok (.iadd, 1) := by decide +kernel
theorem dX12_allRipe_20 : decode cX12_allRipe 20 = .ok (.istore_n 1, 1) := by decide +kernel
theorem dX12_allRipe_21 : decode cX12_allRipe 21 = .ok (.iinc 2 1, 3) := by decide +kernel
theorem dX12_allRipe_24 : decode cX12_allRipe 24 = .ok (.goto (-20), 3) := by decide +kernel
theorem dX12_allRipe_27 : decode cX12_allRipe 27 = .ok (.iload_n 1, 1) := by decide +kernel
theorem dX12_allRipe_28 : decode cX12_allRipe 28 = .ok (.ireturn, 1) := by decide +kernel
theorem dX12_ripeMany_0 : decode cX12_ripeMany 0 = .ok (.iconst 0, 1) := by decide +kernel
theorem dX12_ripeMany_1 : decode cX12_ripeMany 1 = .ok (.istore_n 1, 1) := by decide +kernel
theorem dX12_ripeMany_2 : decode cX12_ripeMany 2 = .ok (.iconst 0, 1) := by decide +kernel
theorem dX12_ripeMany_3 : decode cX12_ripeMany 3 = .ok (.istore_n 2, 1) := by decide +kernel
theorem dX12_ripeMany_4 : decode cX12_ripeMany 4 = .ok (.iload_n 2, 1) := by decide +kernel
theorem dX12_ripeMany_5 : decode cX12_ripeMany 5 = .ok (.aload_n 0, 1) := by decide +kernel
theorem dX12_ripeMany_6 : decode cX12_ripeMany 6 = .ok (.getfield 7, 3) := by decide +kernel
theorem dX12_ripeMany_9 : decode cX12_ripeMany 9 = .ok (.if_icmp .ge 42, 3) := by decide +kernel
theorem dX12_ripeMany_12 : decode cX12_ripeMany 12 = .ok (.iload_n 1, 1) := by decide +kernel
theorem dX12_ripeMany_13 : decode cX12_ripeMany 13 = .ok (.aload_n 0, 1) := by decide +kernel
theorem dX12_ripeMany_14 : decode cX12_ripeMany 14 = .ok (.aload_n 0, 1) := by decide +kernel
theorem dX12_ripeMany_15 : decode cX12_ripeMany 15 = .ok (.getfield 13, 3) := by decide +kernel
theorem dX12_ripeMany_18 : decode cX12_ripeMany 18 = .ok (.iload_n 2, 1) := by decide +kernel
theorem dX12_ripeMany_19 : decode cX12_ripeMany 19 = .ok (.invokevirtual 230, 3) := by decide +kernel
theorem dX12_ripeMany_22 : decode cX12_ripeMany 22 = .ok (.ifCond .ne 20, 3) := by decide +kernel
theorem dX12_ripeMany_25 : decode cX12_ripeMany 25 = .ok (.aload_n 0, 1) := by decide +kernel
theorem dX12_ripeMany_26 : decode cX12_ripeMany 26 = .ok (.getfield 29, 3) := by decide +kernel
theorem dX12_ripeMany_29 : decode cX12_ripeMany 29 = .ok (.iload_n 2, 1) := by decide +kernel
theorem dX12_ripeMany_30 : decode cX12_ripeMany 30 = .ok (.iaload, 1) := by decide +kernel
theorem dX12_ripeMany_31 : decode cX12_ripeMany 31 = .ok (.aload_n 0, 1) := by decide +kernel
theorem dX12_ripeMany_32 : decode cX12_ripeMany 32 = .ok (.invokevirtual 349, 3) := by decide +kernel
theorem dX12_ripeMany_35 : decode cX12_ripeMany 35 = .ok (.if_icmp .lt 7, 3) := by decide +kernel
theorem dX12_ripeMany_38 : decode cX12_ripeMany 38 = .ok (.iconst 1, 1) := by decide +kernel
theorem dX12_ripeMany_39 : decode cX12_ripeMany 39 = .ok (.goto 4, 3) := by decide +kernel
theorem dX12_ripeMany_42 : decode cX12_ripeMany 42 = .ok (.iconst 0, 1) := by decide +kernel
theorem dX12_ripeMany_43 : decode cX12_ripeMany 43 = .ok (.iadd, 1) := by decide +kernel
theorem dX12_ripeMany_44 : decode cX12_ripeMany 44 = .ok (.istore_n 1, 1) := by decide +kernel
theorem dX12_ripeMany_45 : decode cX12_ripeMany 45 = .ok (.iinc 2 1, 3) := by decide +kernel
theorem dX12_ripeMany_48 : decode cX12_ripeMany 48 = .ok (.goto (-44), 3) := by decide +kernel
theorem dX12_ripeMany_51 : decode cX12_ripeMany 51 = .ok (.iload_n 1, 1) := by decide +kernel
theorem dX12_ripeMany_52 : decode cX12_ripeMany 52 = .ok (.ireturn, 1) := by decide +kernel
theorem dX12_told_0 : decode cX12_told 0 = .ok (.aload_n 0, 1) := by decide +kernel
theorem dX12_told_1 : decode cX12_told 1 = .ok (.iload_n 1, 1) := by decide +kernel
theorem dX12_told_2 : decode cX12_told 2 = .ok (.bipush 10, 2) := by decide +kernel
theorem dX12_told_4 : decode cX12_told 4 = .ok (.bipush 21, 2) := by decide +kernel
theorem dX12_told_6 : decode cX12_told 6 = .ok (.invokevirtual 234, 3) := by decide +kernel
theorem dX12_told_9 : decode cX12_told 9 = .ok (.ifCond .eq 12, 3) := by decide +kernel
theorem dX12_told_12 : decode cX12_told 12 = .ok (.aload_n 0, 1) := by decide +kernel
theorem dX12_told_13 : decode cX12_told 13 = .ok (.iload_n 1, 1) := by decide +kernel
theorem dX12_told_14 : decode cX12_told 14 = .ok (.bipush 10, 2) := by decide +kernel
theorem dX12_told_16 : decode cX12_told 16 = .ok (.isub, 1) := by decide +kernel
theorem dX12_told_17 : decode cX12_told 17 = .ok (.invokevirtual 321, 3) := by decide +kernel
theorem dX12_told_20 : decode cX12_told 20 = .ok (.ireturn, 1) := by decide +kernel
theorem dX12_told_21 : decode cX12_told 21 = .ok (.iload_n 1, 1) := by decide +kernel
theorem dX12_told_22 : decode cX12_told 22 = .ok (.tableswitch 59 0 4 #[34, 39, 44, 49, 54], 34) := by decide +kernel
theorem dX12_told_56 : decode cX12_told 56 = .ok (.aload_n 0, 1) := by decide +kernel
theorem dX12_told_57 : decode cX12_told 57 = .ok (.getfield 16, 3) := by decide +kernel
theorem dX12_told_60 : decode cX12_told 60 = .ok (.ireturn, 1) := by decide +kernel
theorem dX12_told_61 : decode cX12_told 61 = .ok (.aload_n 0, 1) := by decide +kernel
theorem dX12_told_62 : decode cX12_told 62 = .ok (.invokevirtual 349, 3) := by decide +kernel
theorem dX12_told_65 : decode cX12_told 65 = .ok (.ireturn, 1) := by decide +kernel
theorem dX12_told_66 : decode cX12_told 66 = .ok (.aload_n 0, 1) := by decide +kernel
theorem dX12_told_67 : decode cX12_told 67 = .ok (.getfield 13, 3) := by decide +kernel
theorem dX12_told_70 : decode cX12_told 70 = .ok (.ireturn, 1) := by decide +kernel
theorem dX12_told_71 : decode cX12_told 71 = .ok (.aload_n 0, 1) := by decide +kernel
theorem dX12_told_72 : decode cX12_told 72 = .ok (.invokevirtual 361, 3) := by decide +kernel
theorem dX12_told_75 : decode cX12_told 75 = .ok (.ireturn, 1) := by decide +kernel
theorem dX12_told_76 : decode cX12_told 76 = .ok (.aload_n 0, 1) := by decide +kernel
theorem dX12_told_77 : decode cX12_told 77 = .ok (.invokevirtual 364, 3) := by decide +kernel
theorem dX12_told_80 : decode cX12_told 80 = .ok (.ireturn, 1) := by decide +kernel
theorem dX12_told_81 : decode cX12_told 81 = .ok (.sipush (-10001), 3) := by decide +kernel
theorem dX12_told_84 : decode cX12_told 84 = .ok (.ireturn, 1) := by decide +kernel
theorem dX12_on_0 : decode cX12_on 0 = .ok (.iload_n 2, 1) := by decide +kernel
theorem dX12_on_1 : decode cX12_on 1 = .ok (.ifCond .eq 39, 3) := by decide +kernel
theorem dX12_on_4 : decode cX12_on 4 = .ok (.aload_n 0, 1) := by decide +kernel
theorem dX12_on_5 : decode cX12_on 5 = .ok (.iload_n 2, 1) := by decide +kernel
theorem dX12_on_6 : decode cX12_on 6 = .ok (.bipush 10, 2) := by decide +kernel
theorem dX12_on_8 : decode cX12_on 8 = .ok (.bipush 9, 2) := by decide +kernel
theorem dX12_on_10 : decode cX12_on 10 = .ok (.aload_n 0, 1) := by decide +kernel
theorem dX12_on_11 : decode cX12_on 11 = .ok (.getfield 7, 3) := by decide +kernel
theorem dX12_on_14 : decode cX12_on 14 = .ok (.iadd, 1) := by decide +kernel
theorem dX12_on_15 : decode cX12_on 15 = .ok (.invokevirtual 234, 3) := by decide +kernel
theorem dX12_on_18 : decode cX12_on 18 = .ok (.ifCond .ne 22, 3) := by decide +kernel
theorem dX12_on_21 : decode cX12_on 21 = .ok (.aload_n 0, 1) := by decide +kernel
theorem dX12_on_22 : decode cX12_on 22 = .ok (.iload_n 2, 1) := by decide +kernel
theorem dX12_on_23 : decode cX12_on 23 = .ok (.bipush 20, 2) := by decide +kernel
theorem dX12_on_25 : decode cX12_on 25 = .ok (.bipush 19, 2) := by decide +kernel
theorem dX12_on_27 : decode cX12_on 27 = .ok (.aload_n 0, 1) := by decide +kernel
theorem dX12_on_28 : decode cX12_on 28 = .ok (.getfield 7, 3) := by decide +kernel
theorem dX12_on_31 : decode cX12_on 31 = .ok (.iadd, 1) := by decide +kernel
theorem dX12_on_32 : decode cX12_on 32 = .ok (.invokevirtual 234, 3) := by decide +kernel
theorem dX12_on_35 : decode cX12_on 35 = .ok (.ifCond .ne 5, 3) := by decide +kernel
theorem dX12_on_38 : decode cX12_on 38 = .ok (.iconst (-1), 1) := by decide +kernel
theorem dX12_on_39 : decode cX12_on 39 = .ok (.ireturn, 1) := by decide +kernel
theorem dX12_on_40 : decode cX12_on 40 = .ok (.aload_n 0, 1) := by decide +kernel
theorem dX12_on_41 : decode cX12_on 41 = .ok (.iload_n 1, 1) := by decide +kernel
theorem dX12_on_42 : decode cX12_on 42 = .ok (.iconst 0, 1) := by decide +kernel
theorem dX12_on_43 : decode cX12_on 43 = .ok (.bipush 30, 2) := by decide +kernel
theorem dX12_on_45 : decode cX12_on 45 = .ok (.invokevirtual 234, 3) := by decide +kernel
theorem dX12_on_48 : decode cX12_on 48 = .ok (.ifCond .ne 6, 3) := by decide +kernel
theorem dX12_on_51 : decode cX12_on 51 = .ok (.bipush (-2), 2) := by decide +kernel
theorem dX12_on_53 : decode cX12_on 53 = .ok (.ireturn, 1) := by decide +kernel
theorem dX12_on_54 : decode cX12_on 54 = .ok (.aload_n 0, 1) := by decide +kernel
theorem dX12_on_55 : decode cX12_on 55 = .ok (.invokevirtual 346, 3) := by decide +kernel
theorem dX12_on_58 : decode cX12_on 58 = .ok (.aload_n 0, 1) := by decide +kernel
theorem dX12_on_59 : decode cX12_on 59 = .ok (.iload_n 1, 1) := by decide +kernel
theorem dX12_on_60 : decode cX12_on 60 = .ok (.invokevirtual 342, 3) := by decide +kernel
theorem dX12_on_63 : decode cX12_on 63 = .ok (.iload_n 2, 1) := by decide +kernel
theorem dX12_on_64 : decode cX12_on 64 = .ok (.ifCond .ne 10, 3) := by decide +kernel
theorem dX12_on_67 : decode cX12_on 67 = .ok (.aload_n 0, 1) := by decide +kernel
theorem dX12_on_68 : decode cX12_on 68 = .ok (.invokevirtual 364, 3) := by decide +kernel
theorem dX12_on_71 : decode cX12_on 71 = .ok (.goto 30, 3) := by decide +kernel
theorem dX12_on_74 : decode cX12_on 74 = .ok (.iload_n 2, 1) := by decide +kernel
theorem dX12_on_75 : decode cX12_on 75 = .ok (.bipush 20, 2) := by decide +kernel
theorem dX12_on_77 : decode cX12_on 77 = .ok (.if_icmp .ge 15, 3) := by decide +kernel
theorem dX12_on_80 : decode cX12_on 80 = .ok (.aload_n 0, 1) := by decide +kernel
theorem dX12_on_81 : decode cX12_on 81 = .ok (.getfield 26, 3) := by decide +kernel
theorem dX12_on_84 : decode cX12_on 84 = .ok (.iload_n 2, 1) := by decide +kernel
theorem dX12_on_85 : decode cX12_on 85 = .ok (.bipush 10, 2) := by decide +kernel
theorem dX12_on_87 : decode cX12_on 87 = .ok (.isub, 1) := by decide +kernel
theorem dX12_on_88 : decode cX12_on 88 = .ok (.iaload, 1) := by decide +kernel
theorem dX12_on_89 : decode cX12_on 89 = .ok (.goto 12, 3) := by decide +kernel
theorem dX12_on_92 : decode cX12_on 92 = .ok (.aload_n 0, 1) := by decide +kernel
theorem dX12_on_93 : decode cX12_on 93 = .ok (.getfield 29, 3) := by decide +kernel
theorem dX12_on_96 : decode cX12_on 96 = .ok (.iload_n 2, 1) := by decide +kernel
theorem dX12_on_97 : decode cX12_on 97 = .ok (.bipush 20, 2) := by decide +kernel
theorem dX12_on_99 : decode cX12_on 99 = .ok (.isub, 1) := by decide +kernel
theorem dX12_on_100 : decode cX12_on 100 = .ok (.iaload, 1) := by decide +kernel
theorem dX12_on_101 : decode cX12_on 101 = .ok (.istore_n 3, 1) := by decide +kernel
theorem dX12_on_102 : decode cX12_on 102 = .ok (.aload_n 0, 1) := by decide +kernel
theorem dX12_on_103 : decode cX12_on 103 = .ok (.invokevirtual 352, 3) := by decide +kernel
theorem dX12_on_106 : decode cX12_on 106 = .ok (.iload_n 3, 1) := by decide +kernel
theorem dX12_on_107 : decode cX12_on 107 = .ok (.ireturn, 1) := by decide +kernel
theorem dX12_clear_0 : decode cX12_clear 0 = .ok (.aload_n 0, 1) := by decide +kernel
theorem dX12_clear_1 : decode cX12_clear 1 = .ok (.iload_n 1, 1) := by decide +kernel
theorem dX12_clear_2 : decode cX12_clear 2 = .ok (.invokevirtual 238, 3) := by decide +kernel
theorem dX12_clear_5 : decode cX12_clear 5 = .ok (.ifCond .ne 5, 3) := by decide +kernel
theorem dX12_clear_8 : decode cX12_clear 8 = .ok (.iconst (-1), 1) := by decide +kernel
theorem dX12_clear_9 : decode cX12_clear 9 = .ok (.ireturn, 1) := by decide +kernel
theorem dX12_clear_10 : decode cX12_clear 10 = .ok (.aload_n 0, 1) := by decide +kernel
theorem dX12_clear_11 : decode cX12_clear 11 = .ok (.iload_n 2, 1) := by decide +kernel
theorem dX12_clear_12 : decode cX12_clear 12 = .ok (.invokevirtual 246, 3) := by decide +kernel
theorem dX12_clear_15 : decode cX12_clear 15 = .ok (.ifCond .ne 6, 3) := by decide +kernel
theorem dX12_clear_18 : decode cX12_clear 18 = .ok (.bipush (-2), 2) := by decide +kernel
theorem dX12_clear_20 : decode cX12_clear 20 = .ok (.ireturn, 1) := by decide +kernel
theorem dX12_clear_21 : decode cX12_clear 21 = .ok (.aload_n 0, 1) := by decide +kernel
theorem dX12_clear_22 : decode cX12_clear 22 = .ok (.aload_n 0, 1) := by decide +kernel
theorem dX12_clear_23 : decode cX12_clear 23 = .ok (.getfield 13, 3) := by decide +kernel
theorem dX12_clear_26 : decode cX12_clear 26 = .ok (.iload_n 1, 1) := by decide +kernel
theorem dX12_clear_27 : decode cX12_clear 27 = .ok (.invokevirtual 230, 3) := by decide +kernel
theorem dX12_clear_30 : decode cX12_clear 30 = .ok (.ifCond .eq 6, 3) := by decide +kernel
theorem dX12_clear_33 : decode cX12_clear 33 = .ok (.bipush (-5), 2) := by decide +kernel
theorem dX12_clear_35 : decode cX12_clear 35 = .ok (.ireturn, 1) := by decide +kernel
theorem dX12_clear_36 : decode cX12_clear 36 = .ok (.bipush (-5), 2) := by decide +kernel
theorem dX12_clear_38 : decode cX12_clear 38 = .ok (.istore_n 3, 1) := by decide +kernel
theorem dX12_clear_39 : decode cX12_clear 39 = .ok (.iconst 0, 1) := by decide +kernel
theorem dX12_clear_40 : decode cX12_clear 40 = .ok (.istore 4, 2) := by decide +kernel
theorem dX12_clear_42 : decode cX12_clear 42 = .ok (.iload 4, 2) := by decide +kernel
theorem dX12_clear_44 : decode cX12_clear 44 = .ok (.iconst 1, 1) := by decide +kernel
theorem dX12_clear_45 : decode cX12_clear 45 = .ok (.aload_n 0, 1) := by decide +kernel
theorem dX12_clear_46 : decode cX12_clear 46 = .ok (.getfield 7, 3) := by decide +kernel
theorem dX12_clear_49 : decode cX12_clear 49 = .ok (.ishl, 1) := by decide +kernel
theorem dX12_clear_50 : decode cX12_clear 50 = .ok (.if_icmp .ge 61, 3) := by decide +kernel
theorem dX12_clear_53 : decode cX12_clear 53 = .ok (.aload_n 0, 1) := by decide +kernel
theorem dX12_clear_54 : decode cX12_clear 54 = .ok (.iload 4, 2) := by decide +kernel
theorem dX12_clear_56 : decode cX12_clear 56 = .ok (.iload_n 1, 1) := by decide +kernel
theorem dX12_clear_57 : decode cX12_clear 57 = .ok (.invokevirtual 230, 3) := by decide +kernel
theorem dX12_clear_60 : decode cX12_clear 60 = .ok (.ifCond .ne 45, 3) := by decide +kernel
theorem dX12_clear_63 : decode cX12_clear 63 = .ok (.iload_n 3, 1) := by decide +kernel
theorem dX12_clear_64 : decode cX12_clear 64 = .ok (.ifCond .lt 20, 3) := by decide +kernel
theorem dX12_clear_67 : decode cX12_clear 67 = .ok (.aload_n 0, 1) := by decide +kernel
theorem dX12_clear_68 : decode cX12_clear 68 = .ok (.iload 4, 2) := by decide +kernel
theorem dX12_clear_70 : decode cX12_clear 70 = .ok (.invokevirtual 333, 3) := by decide +kernel
theorem dX12_clear_73 : decode cX12_clear 73 = .ok (.aload_n 0, 1) := by decide +kernel
theorem dX12_clear_74 : decode cX12_clear 74 = .ok (.iload_n 3, 1) := by decide +kernel
theorem dX12_clear_75 : decode cX12_clear 75 = .ok (.invokevirtual 333, 3) := by decide +kernel
theorem dX12_clear_78 : decode cX12_clear 78 = .ok (.if_icmp .lt 6, 3) := by decide +kernel
theorem dX12_clear_81 : decode cX12_clear 81 = .ok (.goto 24, 3) := by decide +kernel
theorem dX12_clear_84 : decode cX12_clear 84 = .ok (.iload_n 2, 1) := by decide +kernel
theorem dX12_clear_85 : decode cX12_clear 85 = .ok (.aload_n 0, 1) := by decide +kernel
theorem dX12_clear_86 : decode cX12_clear 86 = .ok (.iload_n 1, 1) := by decide +kernel
theorem dX12_clear_87 : decode cX12_clear 87 = .ok (.iload 4, 2) := by decide +kernel
theorem dX12_clear_89 : decode cX12_clear 89 = .ok (.invokevirtual 330, 3) := by decide +kernel
theorem dX12_clear_92 : decode cX12_clear 92 = .ok (.iconst (-1), 1) := by decide +kernel
theorem dX12_clear_93 : decode cX12_clear 93 = .ok (.ixor, 1) := by decide +kernel
theorem dX12_clear_94 : decode cX12_clear 94 = .ok (.iand, 1) := by decide +kernel
theorem dX12_clear_95 : decode cX12_clear 95 = .ok (.ifCond .ne 8, 3) := by decide +kernel
theorem dX12_clear_98 : decode cX12_clear 98 = .ok (.iload 4, 2) := by decide +kernel
theorem dX12_clear_100 : decode cX12_clear 100 = .ok (.goto 4, 3) := by decide +kernel
theorem dX12_clear_103 : decode cX12_clear 103 = .ok (.iload_n 3, 1) := by decide +kernel
theorem dX12_clear_104 : decode cX12_clear 104 = .ok (.istore_n 3, 1) := by decide +kernel
theorem dX12_clear_105 : decode cX12_clear 105 = .ok (.iinc 4 1, 3) := by decide +kernel
theorem dX12_clear_108 : decode cX12_clear 108 = .ok (.goto (-66), 3) := by decide +kernel
theorem dX12_clear_111 : decode cX12_clear 111 = .ok (.iload_n 3, 1) := by decide +kernel
theorem dX12_clear_112 : decode cX12_clear 112 = .ok (.ireturn, 1) := by decide +kernel
theorem dX12_help_0 : decode cX12_help 0 = .ok (.aload_n 0, 1) := by decide +kernel
theorem dX12_help_1 : decode cX12_help 1 = .ok (.iload_n 1, 1) := by decide +kernel
theorem dX12_help_2 : decode cX12_help 2 = .ok (.invokevirtual 238, 3) := by decide +kernel
theorem dX12_help_5 : decode cX12_help 5 = .ok (.ifCond .eq 13, 3) := by decide +kernel
theorem dX12_help_8 : decode cX12_help 8 = .ok (.aload_n 0, 1) := by decide +kernel
theorem dX12_help_9 : decode cX12_help 9 = .ok (.iload_n 2, 1) := by decide +kernel
theorem dX12_help_10 : decode cX12_help 10 = .ok (.iconst 0, 1) := by decide +kernel
theorem dX12_help_11 : decode cX12_help 11 = .ok (.iconst 1, 1) := by decide +kernel
theorem dX12_help_12 : decode cX12_help 12 = .ok (.invokevirtual 234, 3) := by decide +kernel
theorem dX12_help_15 : decode cX12_help 15 = .ok (.ifCond .ne 5, 3) := by decide +kernel
theorem dX12_help_18 : decode cX12_help 18 = .ok (.iconst (-1), 1) := by decide +kernel
theorem dX12_help_19 : decode cX12_help 19 = .ok (.ireturn, 1) := by decide +kernel
theorem dX12_help_20 : decode cX12_help 20 = .ok (.aload_n 0, 1) := by decide +kernel
theorem dX12_help_21 : decode cX12_help 21 = .ok (.aload_n 0, 1) := by decide +kernel
theorem dX12_help_22 : decode cX12_help 22 = .ok (.getfield 13, 3) := by decide +kernel
theorem dX12_help_25 : decode cX12_help 25 = .ok (.iload_n 1, 1) := by decide +kernel
theorem dX12_help_26 : decode cX12_help 26 = .ok (.invokevirtual 230, 3) := by decide +kernel
theorem dX12_help_29 : decode cX12_help 29 = .ok (.ifCond .eq 6, 3) := by decide +kernel
theorem dX12_help_32 : decode cX12_help 32 = .ok (.bipush (-5), 2) := by decide +kernel
theorem dX12_help_34 : decode cX12_help 34 = .ok (.ireturn, 1) := by decide +kernel
theorem dX12_help_35 : decode cX12_help 35 = .ok (.aload_n 0, 1) := by decide +kernel
theorem dX12_help_36 : decode cX12_help 36 = .ok (.aload_n 0, 1) := by decide +kernel
theorem dX12_help_37 : decode cX12_help 37 = .ok (.iload_n 1, 1) := by decide +kernel
theorem dX12_help_38 : decode cX12_help 38 = .ok (.invokevirtual 327, 3) := by decide +kernel
theorem dX12_help_41 : decode cX12_help 41 = .ok (.invokevirtual 333, 3) := by decide +kernel
theorem dX12_help_44 : decode cX12_help 44 = .ok (.istore_n 3, 1) := by decide +kernel
theorem dX12_help_45 : decode cX12_help 45 = .ok (.bipush (-5), 2) := by decide +kernel
theorem dX12_help_47 : decode cX12_help 47 = .ok (.istore 4, 2) := by decide +kernel
theorem dX12_help_49 : decode cX12_help 49 = .ok (.iconst 0, 1) := by decide +kernel
theorem dX12_help_50 : decode cX12_help 50 = .ok (.istore 5, 2) := by decide +kernel
theorem dX12_help_52 : decode cX12_help 52 = .ok (.iconst 0, 1) := by decide +kernel
theorem dX12_help_53 : decode cX12_help 53 = .ok (.istore 6, 2) := by decide +kernel
theorem dX12_help_55 : decode cX12_help 55 = .ok (.iload 6, 2) := by decide +kernel
theorem dX12_help_57 : decode cX12_help 57 = .ok (.aload_n 0, 1) := by decide +kernel
theorem dX12_help_58 : decode cX12_help 58 = .ok (.getfield 7, 3) := by decide +kernel
theorem dX12_help_61 : decode cX12_help 61 = .ok (.if_icmp .ge 66, 3) := by decide +kernel
theorem dX12_help_64 : decode cX12_help 64 = .ok (.iload 6, 2) := by decide +kernel
theorem dX12_help_66 : decode cX12_help 66 = .ok (.iload_n 1, 1) := by decide +kernel
theorem dX12_help_67 : decode cX12_help 67 = .ok (.if_icmp .eq 54, 3) := by decide +kernel
theorem dX12_help_70 : decode cX12_help 70 = .ok (.aload_n 0, 1) := by decide +kernel
theorem dX12_help_71 : decode cX12_help 71 = .ok (.aload_n 0, 1) := by decide +kernel
theorem dX12_help_72 : decode cX12_help 72 = .ok (.getfield 13, 3) := by decide +kernel
theorem dX12_help_75 : decode cX12_help 75 = .ok (.iload 6, 2) := by decide +kernel
theorem dX12_help_77 : decode cX12_help 77 = .ok (.invokevirtual 230, 3) := by decide +kernel
theorem dX12_help_80 : decode cX12_help 80 = .ok (.ifCond .eq 6, 3) := by decide +kernel
theorem dX12_help_83 : decode cX12_help 83 = .ok (.goto 38, 3) := by decide +kernel
theorem dX12_help_86 : decode cX12_help 86 = .ok (.aload_n 0, 1) := by decide +kernel
theorem dX12_help_87 : decode cX12_help 87 = .ok (.aload_n 0, 1) := by decide +kernel
theorem dX12_help_88 : decode cX12_help 88 = .ok (.iload_n 1, 1) := by decide +kernel
theorem dX12_help_89 : decode cX12_help 89 = .ok (.iconst 1, 1) := by decide +kernel
theorem dX12_help_90 : decode cX12_help 90 = .ok (.iload 6, 2) := by decide +kernel
theorem dX12_help_92 : decode cX12_help 92 = .ok (.ishl, 1) := by decide +kernel
theorem dX12_help_93 : decode cX12_help 93 = .ok (.invokevirtual 330, 3) := by decide +kernel
theorem dX12_help_96 : decode cX12_help 96 = .ok (.invokevirtual 333, 3) := by decide +kernel
theorem dX12_help_99 : decode cX12_help 99 = .ok (.iload_n 3, 1) := by decide +kernel
theorem dX12_help_100 : decode cX12_help 100 = .ok (.isub, 1) := by decide +kernel
theorem dX12_help_101 : decode cX12_help 101 = .ok (.istore 7, 2) := by decide +kernel
theorem dX12_help_103 : decode cX12_help 103 = .ok (.iload 7, 2) := by decide +kernel
theorem dX12_help_105 : decode cX12_help 105 = .ok (.iload 5, 2) := by decide +kernel
theorem dX12_help_107 : decode cX12_help 107 = .ok (.if_icmp .gt 6, 3) := by decide +kernel
theorem dX12_help_110 : decode cX12_help 110 = .ok (.goto 11, 3) := by decide +kernel
theorem dX12_help_113 : decode cX12_help 113 = .ok (.iload 6, 2) := by decide +kernel
theorem dX12_help_115 : decode cX12_help 115 = .ok (.istore 4, 2) := by decide +kernel
theorem dX12_help_117 : decode cX12_help 117 = .ok (.iload 7, 2) := by decide +kernel
theorem dX12_help_119 : decode cX12_help 119 = .ok (.istore 5, 2) := by decide +kernel
theorem dX12_help_121 : decode cX12_help 121 = .ok (.iinc 6 1, 3) := by decide +kernel
theorem dX12_help_124 : decode cX12_help 124 = .ok (.goto (-69), 3) := by decide +kernel
theorem dX12_help_127 : decode cX12_help 127 = .ok (.iload_n 2, 1) := by decide +kernel
theorem dX12_help_128 : decode cX12_help 128 = .ok (.ifCond .ne 8, 3) := by decide +kernel
theorem dX12_help_131 : decode cX12_help 131 = .ok (.iload 4, 2) := by decide +kernel
theorem dX12_help_133 : decode cX12_help 133 = .ok (.goto 15, 3) := by decide +kernel
theorem dX12_help_136 : decode cX12_help 136 = .ok (.iload 4, 2) := by decide +kernel
theorem dX12_help_138 : decode cX12_help 138 = .ok (.ifCond .ge 8, 3) := by decide +kernel
theorem dX12_help_141 : decode cX12_help 141 = .ok (.bipush (-5), 2) := by decide +kernel
theorem dX12_help_143 : decode cX12_help 143 = .ok (.goto 5, 3) := by decide +kernel
theorem dX12_help_146 : decode cX12_help 146 = .ok (.iload 5, 2) := by decide +kernel
theorem dX12_help_148 : decode cX12_help 148 = .ok (.ireturn, 1) := by decide +kernel
theorem dX12_want_0 : decode cX12_want 0 = .ok (.iload_n 1, 1) := by decide +kernel
theorem dX12_want_1 : decode cX12_want 1 = .ok (.iconst (-1), 1) := by decide +kernel
theorem dX12_want_2 : decode cX12_want 2 = .ok (.if_icmp .ne 10, 3) := by decide +kernel
theorem dX12_want_5 : decode cX12_want 5 = .ok (.aload_n 0, 1) := by decide +kernel
theorem dX12_want_6 : decode cX12_want 6 = .ok (.iconst 0, 1) := by decide +kernel
theorem dX12_want_7 : decode cX12_want 7 = .ok (.putfield 108, 3) := by decide +kernel
theorem dX12_want_10 : decode cX12_want 10 = .ok (.iconst 0, 1) := by decide +kernel
theorem dX12_want_11 : decode cX12_want 11 = .ok (.ireturn, 1) := by decide +kernel
theorem dX12_want_12 : decode cX12_want 12 = .ok (.aload_n 0, 1) := by decide +kernel
theorem dX12_want_13 : decode cX12_want 13 = .ok (.iload_n 1, 1) := by decide +kernel
theorem dX12_want_14 : decode cX12_want 14 = .ok (.invokevirtual 246, 3) := by decide +kernel
theorem dX12_want_17 : decode cX12_want 17 = .ok (.ifCond .ne 6, 3) := by decide +kernel
theorem dX12_want_20 : decode cX12_want 20 = .ok (.bipush (-2), 2) := by decide +kernel
theorem dX12_want_22 : decode cX12_want 22 = .ok (.ireturn, 1) := by decide +kernel
theorem dX12_want_23 : decode cX12_want 23 = .ok (.aload_n 0, 1) := by decide +kernel
theorem dX12_want_24 : decode cX12_want 24 = .ok (.getfield 108, 3) := by decide +kernel
theorem dX12_want_27 : decode cX12_want 27 = .ok (.bipush 6, 2) := by decide +kernel
theorem dX12_want_29 : decode cX12_want 29 = .ok (.if_icmp .ne 6, 3) := by decide +kernel
theorem dX12_want_32 : decode cX12_want 32 = .ok (.bipush (-4), 2) := by decide +kernel
theorem dX12_want_34 : decode cX12_want 34 = .ok (.ireturn, 1) := by decide +kernel
theorem dX12_want_35 : decode cX12_want 35 = .ok (.aload_n 0, 1) := by decide +kernel
theorem dX12_want_36 : decode cX12_want 36 = .ok (.getfield 111, 3) := by decide +kernel
theorem dX12_want_39 : decode cX12_want 39 = .ok (.aload_n 0, 1) := by decide +kernel
theorem dX12_want_40 : decode cX12_want 40 = .ok (.getfield 108, 3) := by decide +kernel
theorem dX12_want_43 : decode cX12_want 43 = .ok (.iload_n 1, 1) := by decide +kernel
theorem dX12_want_44 : decode cX12_want 44 = .ok (.iastore, 1) := by decide +kernel
theorem dX12_want_45 : decode cX12_want 45 = .ok (.aload_n 0, 1) := by decide +kernel
theorem dX12_want_46 : decode cX12_want 46 = .ok (.dup, 1) := by decide +kernel
theorem dX12_want_47 : decode cX12_want 47 = .ok (.getfield 108, 3) := by decide +kernel
theorem dX12_want_50 : decode cX12_want 50 = .ok (.iconst 1, 1) := by decide +kernel
theorem dX12_want_51 : decode cX12_want 51 = .ok (.iadd, 1) := by decide +kernel
theorem dX12_want_52 : decode cX12_want 52 = .ok (.putfield 108, 3) := by decide +kernel
theorem dX12_want_55 : decode cX12_want 55 = .ok (.aload_n 0, 1) := by decide +kernel
theorem dX12_want_56 : decode cX12_want 56 = .ok (.getfield 108, 3) := by decide +kernel
theorem dX12_want_59 : decode cX12_want 59 = .ok (.ireturn, 1) := by decide +kernel
theorem dX12_givenBy_0 : decode cX12_givenBy 0 = .ok (.iload_n 1, 1) := by decide +kernel
theorem dX12_givenBy_1 : decode cX12_givenBy 1 = .ok (.istore_n 2, 1) := by decide +kernel
theorem dX12_givenBy_2 : decode cX12_givenBy 2 = .ok (.aload_n 0, 1) := by decide +kernel
theorem dX12_givenBy_3 : decode cX12_givenBy 3 = .ok (.getfield 13, 3) := by decide +kernel
theorem dX12_givenBy_6 : decode cX12_givenBy 6 = .ok (.istore_n 3, 1) := by decide +kernel
theorem dX12_givenBy_7 : decode cX12_givenBy 7 = .ok (.iconst 0, 1) := by decide +kernel
theorem dX12_givenBy_8 : decode cX12_givenBy 8 = .ok (.istore 4, 2) := by decide +kernel
theorem dX12_givenBy_10 : decode cX12_givenBy 10 = .ok (.aload_n 0, 1) := by decide +kernel
theorem dX12_givenBy_11 : decode cX12_givenBy 11 = .ok (.getfield 108, 3) := by decide +kernel
theorem dX12_givenBy_14 : decode cX12_givenBy 14 = .ok (.iconst 1, 1) := by decide +kernel
theorem dX12_givenBy_15 : decode cX12_givenBy 15 = .ok (.isub, 1) := by decide +kernel
theorem dX12_givenBy_16 : decode cX12_givenBy 16 = .ok (.istore 5, 2) := by decide +kernel
theorem dX12_givenBy_18 : decode cX12_givenBy 18 = .ok (.iload 5, 2) := by decide +kernel
theorem dX12_givenBy_20 : decode cX12_givenBy 20 = .ok (.ifCond .lt 90, 3) := by decide +kernel
theorem dX12_givenBy_23 : decode cX12_givenBy 23 = .ok (.iload_n 2, 1) := by decide +kernel
theorem dX12_givenBy_24 : decode cX12_givenBy 24 = .ok (.bipush 7, 2) := by decide +kernel
theorem dX12_givenBy_26 : decode cX12_givenBy 26 = .ok (.irem, 1) := by decide +kernel
theorem dX12_givenBy_27 : decode cX12_givenBy 27 = .ok (.istore 6, 2) := by decide +kernel
theorem dX12_givenBy_29 : decode cX12_givenBy 29 = .ok (.iload_n 2, 1) := by decide +kernel
theorem dX12_givenBy_30 : decode cX12_givenBy 30 = .ok (.bipush 7, 2) := by decide +kernel
theorem dX12_givenBy_32 : decode cX12_givenBy 32 = .ok (.idiv, 1) := by decide +kernel
theorem dX12_givenBy_33 : decode cX12_givenBy 33 = .ok (.istore_n 2, 1) := by decide +kernel
theorem dX12_givenBy_34 : decode cX12_givenBy 34 = .ok (.aload_n 0, 1) := by decide +kernel
theorem dX12_givenBy_35 : decode cX12_givenBy 35 = .ok (.getfield 114, 3) := by decide +kernel
theorem dX12_givenBy_38 : decode cX12_givenBy 38 = .ok (.iload 5, 2) := by decide +kernel
theorem dX12_givenBy_40 : decode cX12_givenBy 40 = .ok (.iload 6, 2) := by decide +kernel
theorem dX12_givenBy_42 : decode cX12_givenBy 42 = .ok (.iastore, 1) := by decide +kernel
theorem dX12_givenBy_43 : decode cX12_givenBy 43 = .ok (.iload 6, 2) := by decide +kernel
theorem dX12_givenBy_45 : decode cX12_givenBy 45 = .ok (.bipush 6, 2) := by decide +kernel
theorem dX12_givenBy_47 : decode cX12_givenBy 47 = .ok (.if_icmp .ne 6, 3) := by decide +kernel
theorem dX12_givenBy_50 : decode cX12_givenBy 50 = .ok (.goto 54, 3) := by decide +kernel
theorem dX12_givenBy_53 : decode cX12_givenBy 53 = .ok (.iload 6, 2) := by decide +kernel
theorem dX12_givenBy_55 : decode cX12_givenBy 55 = .ok (.aload_n 0, 1) := by decide +kernel
theorem dX12_givenBy_56 : decode cX12_givenBy 56 = .ok (.getfield 7, 3) := by decide +kernel
theorem dX12_givenBy_59 : decode cX12_givenBy 59 = .ok (.if_icmp .ge 33, 3) := by decide +kernel
theorem dX12_givenBy_62 : decode cX12_givenBy 62 = .ok (.aload_n 0, 1) := by decide +kernel
theorem dX12_givenBy_63 : decode cX12_givenBy 63 = .ok (.iload_n 3, 1) := by decide +kernel
theorem dX12_givenBy_64 : decode cX12_givenBy 64 = .ok (.iload 6, 2) := by decide +kernel
theorem dX12_givenBy_66 : decode cX12_givenBy 66 = .ok (.invokevirtual 230, 3) := by decide +kernel
theorem dX12_givenBy_69 : decode cX12_givenBy 69 = .ok (.ifCond .ne 23, 3) := by decide +kernel
theorem dX12_givenBy_72 : decode cX12_givenBy 72 = .ok (.aload_n 0, 1) := by decide +kernel
theorem dX12_givenBy_73 : decode cX12_givenBy 73 = .ok (.getfield 111, 3) := by decide +kernel
theorem dX12_givenBy_76 : decode cX12_givenBy 76 = .ok (.iload 5, 2) := by decide +kernel
theorem dX12_givenBy_78 : decode cX12_givenBy 78 = .ok (.iaload, 1) := by decide +kernel
theorem dX12_givenBy_79 : decode cX12_givenBy 79 = .ok (.aload_n 0, 1) := by decide +kernel
theorem dX12_givenBy_80 : decode cX12_givenBy 80 = .ok (.getfield 26, 3) := by decide +kernel
theorem dX12_givenBy_83 : decode cX12_givenBy 83 = .ok (.iload 6, 2) := by decide +kernel
theorem dX12_givenBy_85 : decode cX12_givenBy 85 = .ok (.iaload, 1) := by decide +kernel
theorem dX12_givenBy_86 : decode cX12_givenBy 86 = .ok (.iconst (-1), 1) := by decide +kernel
theorem dX12_givenBy_87 : decode cX12_givenBy 87 = .ok (.ixor, 1) := by decide +kernel
theorem dX12_givenBy_88 : decode cX12_givenBy 88 = .ok (.iand, 1) := by decide +kernel
theorem dX12_givenBy_89 : decode cX12_givenBy 89 = .ok (.ifCond .eq 5, 3) := by decide +kernel
theorem dX12_givenBy_92 : decode cX12_givenBy 92 = .ok (.iconst (-1), 1) := by decide +kernel
theorem dX12_givenBy_93 : decode cX12_givenBy 93 = .ok (.ireturn, 1) := by decide +kernel
theorem dX12_givenBy_94 : decode cX12_givenBy 94 = .ok (.iload_n 3, 1) := by decide +kernel
theorem dX12_givenBy_95 : decode cX12_givenBy 95 = .ok (.iconst 1, 1) := by decide +kernel
theorem dX12_givenBy_96 : decode cX12_givenBy 96 = .ok (.iload 6, 2) := by decide +kernel
theorem dX12_givenBy_98 : decode cX12_givenBy 98 = .ok (.ishl, 1) := by decide +kernel
theorem dX12_givenBy_99 : decode cX12_givenBy 99 = .ok (.ior, 1) := by decide +kernel
theorem dX12_givenBy_100 : decode cX12_givenBy 100 = .ok (.istore_n 3, 1) := by decide +kernel
theorem dX12_givenBy_101 : decode cX12_givenBy 101 = .ok (.iinc 4 1, 3) := by decide +kernel
theorem dX12_givenBy_104 : decode cX12_givenBy 104 = .ok (.iinc 5 (-1), 3) := by decide +kernel
theorem dX12_givenBy_107 : decode cX12_givenBy 107 = .ok (.goto (-89), 3) := by decide +kernel
theorem dX12_givenBy_110 : decode cX12_givenBy 110 = .ok (.iload 4, 2) := by decide +kernel
theorem dX12_givenBy_112 : decode cX12_givenBy 112 = .ok (.ireturn, 1) := by decide +kernel
theorem dX12_sent_0 : decode cX12_sent 0 = .ok (.aload_n 0, 1) := by decide +kernel
theorem dX12_sent_1 : decode cX12_sent 1 = .ok (.iload_n 1, 1) := by decide +kernel
theorem dX12_sent_2 : decode cX12_sent 2 = .ok (.iconst (-1), 1) := by decide +kernel
theorem dX12_sent_3 : decode cX12_sent 3 = .ok (.aload_n 0, 1) := by decide +kernel
theorem dX12_sent_4 : decode cX12_sent 4 = .ok (.getfield 108, 3) := by decide +kernel
theorem dX12_sent_7 : decode cX12_sent 7 = .ok (.iconst 1, 1) := by decide +kernel
theorem dX12_sent_8 : decode cX12_sent 8 = .ok (.isub, 1) := by decide +kernel
theorem dX12_sent_9 : decode cX12_sent 9 = .ok (.invokevirtual 234, 3) := by decide +kernel
theorem dX12_sent_12 : decode cX12_sent 12 = .ok (.ifCond .ne 5, 3) := by decide +kernel
theorem dX12_sent_15 : decode cX12_sent 15 = .ok (.iconst (-1), 1) := by decide +kernel
theorem dX12_sent_16 : decode cX12_sent 16 = .ok (.ireturn, 1) := by decide +kernel
theorem dX12_sent_17 : decode cX12_sent 17 = .ok (.iconst 1, 1) := by decide +kernel
theorem dX12_sent_18 : decode cX12_sent 18 = .ok (.istore_n 2, 1) := by decide +kernel
theorem dX12_sent_19 : decode cX12_sent 19 = .ok (.iconst 0, 1) := by decide +kernel
theorem dX12_sent_20 : decode cX12_sent 20 = .ok (.istore_n 3, 1) := by decide +kernel
theorem dX12_sent_21 : decode cX12_sent 21 = .ok (.iload_n 3, 1) := by decide +kernel
theorem dX12_sent_22 : decode cX12_sent 22 = .ok (.aload_n 0, 1) := by decide +kernel
theorem dX12_sent_23 : decode cX12_sent 23 = .ok (.getfield 108, 3) := by decide +kernel
theorem dX12_sent_26 : decode cX12_sent 26 = .ok (.if_icmp .ge 14, 3) := by decide +kernel
theorem dX12_sent_29 : decode cX12_sent 29 = .ok (.iload_n 2, 1) := by decide +kernel
theorem dX12_sent_30 : decode cX12_sent 30 = .ok (.bipush 7, 2) := by decide +kernel
theorem dX12_sent_32 : decode cX12_sent 32 = .ok (.imul, 1) := by decide +kernel
theorem dX12_sent_33 : decode cX12_sent 33 = .ok (.istore_n 2, 1) := by decide +kernel
theorem dX12_sent_34 : decode cX12_sent 34 = .ok (.iinc 3 1, 3) := by decide +kernel
theorem dX12_sent_37 : decode cX12_sent 37 = .ok (.goto (-16), 3) := by decide +kernel
theorem dX12_sent_40 : decode cX12_sent 40 = .ok (.iconst (-1), 1) := by decide +kernel
theorem dX12_sent_41 : decode cX12_sent 41 = .ok (.istore_n 3, 1) := by decide +kernel
theorem dX12_sent_42 : decode cX12_sent 42 = .ok (.iconst 0, 1) := by decide +kernel
theorem dX12_sent_43 : decode cX12_sent 43 = .ok (.istore 4, 2) := by decide +kernel
theorem dX12_sent_45 : decode cX12_sent 45 = .ok (.iload 4, 2) := by decide +kernel
theorem dX12_sent_47 : decode cX12_sent 47 = .ok (.iload_n 2, 1) := by decide +kernel
theorem dX12_sent_48 : decode cX12_sent 48 = .ok (.if_icmp .ge 59, 3) := by decide +kernel
theorem dX12_sent_51 : decode cX12_sent 51 = .ok (.aload_n 0, 1) := by decide +kernel
theorem dX12_sent_52 : decode cX12_sent 52 = .ok (.iload 4, 2) := by decide +kernel
theorem dX12_sent_54 : decode cX12_sent 54 = .ok (.invokevirtual 367, 3) := by decide +kernel
theorem dX12_sent_57 : decode cX12_sent 57 = .ok (.istore 5, 2) := by decide +kernel
theorem dX12_sent_59 : decode cX12_sent 59 = .ok (.iload 5, 2) := by decide +kernel
theorem dX12_sent_61 : decode cX12_sent 61 = .ok (.iload_n 3, 1) := by decide +kernel
theorem dX12_sent_62 : decode cX12_sent 62 = .ok (.if_icmp .gt 6, 3) := by decide +kernel
theorem dX12_sent_65 : decode cX12_sent 65 = .ok (.goto 36, 3) := by decide +kernel
theorem dX12_sent_68 : decode cX12_sent 68 = .ok (.iload 5, 2) := by decide +kernel
theorem dX12_sent_70 : decode cX12_sent 70 = .ok (.istore_n 3, 1) := by decide +kernel
theorem dX12_sent_71 : decode cX12_sent 71 = .ok (.iconst 0, 1) := by decide +kernel
theorem dX12_sent_72 : decode cX12_sent 72 = .ok (.istore 6, 2) := by decide +kernel
theorem dX12_sent_74 : decode cX12_sent 74 = .ok (.iload 6, 2) := by decide +kernel
theorem dX12_sent_76 : decode cX12_sent 76 = .ok (.bipush 6, 2) := by decide +kernel
theorem dX12_sent_78 : decode cX12_sent 78 = .ok (.if_icmp .ge 23, 3) := by decide +kernel
theorem dX12_sent_81 : decode cX12_sent 81 = .ok (.aload_n 0, 1) := by decide +kernel
theorem dX12_sent_82 : decode cX12_sent 82 = .ok (.getfield 117, 3) := by decide +kernel
theorem dX12_sent_85 : decode cX12_sent 85 = .ok (.iload 6, 2) := by decide +kernel
theorem dX12_sent_87 : decode cX12_sent 87 = .ok (.aload_n 0, 1) := by decide +kernel
theorem dX12_sent_88 : decode cX12_sent 88 = .ok (.getfield 114, 3) := by decide +kernel
theorem dX12_sent_91 : decode cX12_sent 91 = .ok (.iload 6, 2) := by decide +kernel
theorem dX12_sent_93 : decode cX12_sent 93 = .ok (.iaload, 1) := by decide +kernel
theorem dX12_sent_94 : decode cX12_sent 94 = .ok (.iastore, 1) := by decide +kernel
theorem dX12_sent_95 : decode cX12_sent 95 = .ok (.iinc 6 1, 3) := by decide +kernel
theorem dX12_sent_98 : decode cX12_sent 98 = .ok (.goto (-24), 3) := by decide +kernel
theorem dX12_sent_101 : decode cX12_sent 101 = .ok (.iinc 4 1, 3) := by decide +kernel
theorem dX12_sent_104 : decode cX12_sent 104 = .ok (.goto (-59), 3) := by decide +kernel
theorem dX12_sent_107 : decode cX12_sent 107 = .ok (.iload_n 1, 1) := by decide +kernel
theorem dX12_sent_108 : decode cX12_sent 108 = .ok (.ifCond .ge 5, 3) := by decide +kernel
theorem dX12_sent_111 : decode cX12_sent 111 = .ok (.iload_n 3, 1) := by decide +kernel
theorem dX12_sent_112 : decode cX12_sent 112 = .ok (.ireturn, 1) := by decide +kernel
theorem dX12_sent_113 : decode cX12_sent 113 = .ok (.aload_n 0, 1) := by decide +kernel
theorem dX12_sent_114 : decode cX12_sent 114 = .ok (.getfield 117, 3) := by decide +kernel
theorem dX12_sent_117 : decode cX12_sent 117 = .ok (.iload_n 1, 1) := by decide +kernel
theorem dX12_sent_118 : decode cX12_sent 118 = .ok (.iaload, 1) := by decide +kernel
theorem dX12_sent_119 : decode cX12_sent 119 = .ok (.bipush 6, 2) := by decide +kernel
theorem dX12_sent_121 : decode cX12_sent 121 = .ok (.if_icmp .ne 8, 3) := by decide +kernel
theorem dX12_sent_124 : decode cX12_sent 124 = .ok (.bipush (-5), 2) := by decide +kernel
theorem dX12_sent_126 : decode cX12_sent 126 = .ok (.goto 9, 3) := by decide +kernel
theorem dX12_sent_129 : decode cX12_sent 129 = .ok (.aload_n 0, 1) := by decide +kernel
theorem dX12_sent_130 : decode cX12_sent 130 = .ok (.getfield 117, 3) := by decide +kernel
theorem dX12_sent_133 : decode cX12_sent 133 = .ok (.iload_n 1, 1) := by decide +kernel
theorem dX12_sent_134 : decode cX12_sent 134 = .ok (.iaload, 1) := by decide +kernel
theorem dX12_sent_135 : decode cX12_sent 135 = .ok (.ireturn, 1) := by decide +kernel
theorem dX12_see_0 : decode cX12_see 0 = .ok (.iload_n 1, 1) := by decide +kernel
theorem dX12_see_1 : decode cX12_see 1 = .ok (.iconst (-1), 1) := by decide +kernel
theorem dX12_see_2 : decode cX12_see 2 = .ok (.if_icmp .ne 10, 3) := by decide +kernel
theorem dX12_see_5 : decode cX12_see 5 = .ok (.aload_n 0, 1) := by decide +kernel
theorem dX12_see_6 : decode cX12_see 6 = .ok (.iconst 0, 1) := by decide +kernel
theorem dX12_see_7 : decode cX12_see 7 = .ok (.putfield 120, 3) := by decide +kernel
theorem dX12_see_10 : decode cX12_see 10 = .ok (.iconst 0, 1) := by decide +kernel
theorem dX12_see_11 : decode cX12_see 11 = .ok (.ireturn, 1) := by decide +kernel
theorem dX12_see_12 : decode cX12_see 12 = .ok (.aload_n 0, 1) := by decide +kernel
theorem dX12_see_13 : decode cX12_see 13 = .ok (.iload_n 1, 1) := by decide +kernel
theorem dX12_see_14 : decode cX12_see 14 = .ok (.invokevirtual 238, 3) := by decide +kernel
theorem dX12_see_17 : decode cX12_see 17 = .ok (.ifCond .ne 5, 3) := by decide +kernel
theorem dX12_see_20 : decode cX12_see 20 = .ok (.iconst (-1), 1) := by decide +kernel
theorem dX12_see_21 : decode cX12_see 21 = .ok (.ireturn, 1) := by decide +kernel
theorem dX12_see_22 : decode cX12_see 22 = .ok (.aload_n 0, 1) := by decide +kernel
theorem dX12_see_23 : decode cX12_see 23 = .ok (.iload_n 2, 1) := by decide +kernel
theorem dX12_see_24 : decode cX12_see 24 = .ok (.invokevirtual 246, 3) := by decide +kernel
theorem dX12_see_27 : decode cX12_see 27 = .ok (.ifCond .ne 6, 3) := by decide +kernel
theorem dX12_see_30 : decode cX12_see 30 = .ok (.bipush (-2), 2) := by decide +kernel
theorem dX12_see_32 : decode cX12_see 32 = .ok (.ireturn, 1) := by decide +kernel
theorem dX12_see_33 : decode cX12_see 33 = .ok (.aload_n 0, 1) := by decide +kernel
theorem dX12_see_34 : decode cX12_see 34 = .ok (.getfield 120, 3) := by decide +kernel
theorem dX12_see_37 : decode cX12_see 37 = .ok (.iconst 5, 1) := by decide +kernel
theorem dX12_see_38 : decode cX12_see 38 = .ok (.if_icmp .ne 6, 3) := by decide +kernel
theorem dX12_see_41 : decode cX12_see 41 = .ok (.bipush (-4), 2) := by decide +kernel
theorem dX12_see_43 : decode cX12_see 43 = .ok (.ireturn, 1) := by decide +kernel
theorem dX12_see_44 : decode cX12_see 44 = .ok (.aload_n 0, 1) := by decide +kernel
theorem dX12_see_45 : decode cX12_see 45 = .ok (.getfield 123, 3) := by decide +kernel
theorem dX12_see_48 : decode cX12_see 48 = .ok (.aload_n 0, 1) := by decide +kernel
theorem dX12_see_49 : decode cX12_see 49 = .ok (.getfield 120, 3) := by decide +kernel
theorem dX12_see_52 : decode cX12_see 52 = .ok (.iload_n 1, 1) := by decide +kernel
theorem dX12_see_53 : decode cX12_see 53 = .ok (.iastore, 1) := by decide +kernel
theorem dX12_see_54 : decode cX12_see 54 = .ok (.aload_n 0, 1) := by decide +kernel
theorem dX12_see_55 : decode cX12_see 55 = .ok (.getfield 126, 3) := by decide +kernel
theorem dX12_see_58 : decode cX12_see 58 = .ok (.aload_n 0, 1) := by decide +kernel
theorem dX12_see_59 : decode cX12_see 59 = .ok (.getfield 120, 3) := by decide +kernel
theorem dX12_see_62 : decode cX12_see 62 = .ok (.iload_n 2, 1) := by decide +kernel
theorem dX12_see_63 : decode cX12_see 63 = .ok (.iastore, 1) := by decide +kernel
theorem dX12_see_64 : decode cX12_see 64 = .ok (.aload_n 0, 1) := by decide +kernel
theorem dX12_see_65 : decode cX12_see 65 = .ok (.dup, 1) := by decide +kernel
theorem dX12_see_66 : decode cX12_see 66 = .ok (.getfield 120, 3) := by decide +kernel
theorem dX12_see_69 : decode cX12_see 69 = .ok (.iconst 1, 1) := by decide +kernel
theorem dX12_see_70 : decode cX12_see 70 = .ok (.iadd, 1) := by decide +kernel
theorem dX12_see_71 : decode cX12_see 71 = .ok (.putfield 120, 3) := by decide +kernel
theorem dX12_see_74 : decode cX12_see 74 = .ok (.aload_n 0, 1) := by decide +kernel
theorem dX12_see_75 : decode cX12_see 75 = .ok (.getfield 120, 3) := by decide +kernel
theorem dX12_see_78 : decode cX12_see 78 = .ok (.ireturn, 1) := by decide +kernel
theorem dX12_isSeen_0 : decode cX12_isSeen 0 = .ok (.aload_n 0, 1) := by decide +kernel
theorem dX12_isSeen_1 : decode cX12_isSeen 1 = .ok (.invokevirtual 324, 3) := by decide +kernel
theorem dX12_isSeen_4 : decode cX12_isSeen 4 = .ok (.iconst 0, 1) := by decide +kernel
theorem dX12_isSeen_5 : decode cX12_isSeen 5 = .ok (.istore_n 1, 1) := by decide +kernel
theorem dX12_isSeen_6 : decode cX12_isSeen 6 = .ok (.iload_n 1, 1) := by decide +kernel
theorem dX12_isSeen_7 : decode cX12_isSeen 7 = .ok (.aload_n 0, 1) := by decide +kernel
theorem dX12_isSeen_8 : decode cX12_isSeen 8 = .ok (.getfield 120, 3) := by decide +kernel
theorem dX12_isSeen_11 : decode cX12_isSeen 11 = .ok (.if_icmp .ge 31, 3) := by decide +kernel
theorem dX12_isSeen_14 : decode cX12_isSeen 14 = .ok (.aload_n 0, 1) := by decide +kernel
theorem dX12_isSeen_15 : decode cX12_isSeen 15 = .ok (.getfield 90, 3) := by decide +kernel
theorem dX12_isSeen_18 : decode cX12_isSeen 18 = .ok (.aload_n 0, 1) := by decide +kernel
theorem dX12_isSeen_19 : decode cX12_isSeen 19 = .ok (.getfield 123, 3) := by decide +kernel
theorem dX12_isSeen_22 : decode cX12_isSeen 22 = .ok (.iload_n 1, 1) := by decide +kernel
theorem dX12_isSeen_23 : decode cX12_isSeen 23 = .ok (.iaload, 1) := by decide +kernel
theorem dX12_isSeen_24 : decode cX12_isSeen 24 = .ok (.iaload, 1) := by decide +kernel
theorem dX12_isSeen_25 : decode cX12_isSeen 25 = .ok (.aload_n 0, 1) := by decide +kernel
theorem dX12_isSeen_26 : decode cX12_isSeen 26 = .ok (.getfield 126, 3) := by decide +kernel
theorem dX12_isSeen_29 : decode cX12_isSeen 29 = .ok (.iload_n 1, 1) := by decide +kernel
theorem dX12_isSeen_30 : decode cX12_isSeen 30 = .ok (.iaload, 1) := by decide +kernel
theorem dX12_isSeen_31 : decode cX12_isSeen 31 = .ok (.if_icmp .eq 5, 3) := by decide +kernel
theorem dX12_isSeen_34 : decode cX12_isSeen 34 = .ok (.iconst 0, 1) := by decide +kernel
theorem dX12_isSeen_35 : decode cX12_isSeen 35 = .ok (.ireturn, 1) := by decide +kernel
theorem dX12_isSeen_36 : decode cX12_isSeen 36 = .ok (.iinc 1 1, 3) := by decide +kernel
theorem dX12_isSeen_39 : decode cX12_isSeen 39 = .ok (.goto (-33), 3) := by decide +kernel
theorem dX12_isSeen_42 : decode cX12_isSeen 42 = .ok (.iconst 1, 1) := by decide +kernel
theorem dX12_isSeen_43 : decode cX12_isSeen 43 = .ok (.ireturn, 1) := by decide +kernel
theorem dX12_can_0 : decode cX12_can 0 = .ok (.aload_n 0, 1) := by decide +kernel
theorem dX12_can_1 : decode cX12_can 1 = .ok (.iload_n 1, 1) := by decide +kernel
theorem dX12_can_2 : decode cX12_can 2 = .ok (.invokevirtual 238, 3) := by decide +kernel
theorem dX12_can_5 : decode cX12_can 5 = .ok (.ifCond .eq 13, 3) := by decide +kernel
theorem dX12_can_8 : decode cX12_can 8 = .ok (.aload_n 0, 1) := by decide +kernel
theorem dX12_can_9 : decode cX12_can 9 = .ok (.iload_n 2, 1) := by decide +kernel
theorem dX12_can_10 : decode cX12_can 10 = .ok (.iconst 0, 1) := by decide +kernel
theorem dX12_can_11 : decode cX12_can 11 = .ok (.iconst 1, 1) := by decide +kernel
theorem dX12_can_12 : decode cX12_can 12 = .ok (.invokevirtual 234, 3) := by decide +kernel
theorem dX12_can_15 : decode cX12_can 15 = .ok (.ifCond .ne 5, 3) := by decide +kernel
theorem dX12_can_18 : decode cX12_can 18 = .ok (.iconst (-1), 1) := by decide +kernel
theorem dX12_can_19 : decode cX12_can 19 = .ok (.ireturn, 1) := by decide +kernel
theorem dX12_can_20 : decode cX12_can 20 = .ok (.aload_n 0, 1) := by decide +kernel
theorem dX12_can_21 : decode cX12_can 21 = .ok (.getfield 23, 3) := by decide +kernel
theorem dX12_can_24 : decode cX12_can 24 = .ok (.iload_n 1, 1) := by decide +kernel
theorem dX12_can_25 : decode cX12_can 25 = .ok (.iaload, 1) := by decide +kernel
theorem dX12_can_26 : decode cX12_can 26 = .ok (.istore_n 3, 1) := by decide +kernel
theorem dX12_can_27 : decode cX12_can 27 = .ok (.iconst 0, 1) := by decide +kernel
theorem dX12_can_28 : decode cX12_can 28 = .ok (.istore 4, 2) := by decide +kernel
theorem dX12_can_30 : decode cX12_can 30 = .ok (.bipush (-5), 2) := by decide +kernel
theorem dX12_can_32 : decode cX12_can 32 = .ok (.istore 5, 2) := by decide +kernel
theorem dX12_can_34 : decode cX12_can 34 = .ok (.bipush 9, 2) := by decide +kernel
theorem dX12_can_36 : decode cX12_can 36 = .ok (.istore 6, 2) := by decide +kernel
theorem dX12_can_38 : decode cX12_can 38 = .ok (.iload 6, 2) := by decide +kernel
theorem dX12_can_40 : decode cX12_can 40 = .ok (.ifCond .lt 34, 3) := by decide +kernel
theorem dX12_can_43 : decode cX12_can 43 = .ok (.aload_n 0, 1) := by decide +kernel
theorem dX12_can_44 : decode cX12_can 44 = .ok (.getfield 23, 3) := by decide +kernel
theorem dX12_can_47 : decode cX12_can 47 = .ok (.iload_n 1, 1) := by decide +kernel
theorem dX12_can_48 : decode cX12_can 48 = .ok (.iload 6, 2) := by decide +kernel
theorem dX12_can_50 : decode cX12_can 50 = .ok (.iastore, 1) := by decide +kernel
theorem dX12_can_51 : decode cX12_can 51 = .ok (.aload_n 0, 1) := by decide +kernel
theorem dX12_can_52 : decode cX12_can 52 = .ok (.invokevirtual 370, 3) := by decide +kernel
theorem dX12_can_55 : decode cX12_can 55 = .ok (.ifCond .ne 6, 3) := by decide +kernel
theorem dX12_can_58 : decode cX12_can 58 = .ok (.goto 10, 3) := by decide +kernel
theorem dX12_can_61 : decode cX12_can 61 = .ok (.iinc 4 1, 3) := by decide +kernel
theorem dX12_can_64 : decode cX12_can 64 = .ok (.iload 6, 2) := by decide +kernel
theorem dX12_can_66 : decode cX12_can 66 = .ok (.istore 5, 2) := by decide +kernel
theorem dX12_can_68 : decode cX12_can 68 = .ok (.iinc 6 (-1), 3) := by decide +kernel
theorem dX12_can_71 : decode cX12_can 71 = .ok (.goto (-33), 3) := by decide +kernel
theorem dX12_can_74 : decode cX12_can 74 = .ok (.aload_n 0, 1) := by decide +kernel
theorem dX12_can_75 : decode cX12_can 75 = .ok (.getfield 23, 3) := by decide +kernel
theorem dX12_can_78 : decode cX12_can 78 = .ok (.iload_n 1, 1) := by decide +kernel
theorem dX12_can_79 : decode cX12_can 79 = .ok (.iload_n 3, 1) := by decide +kernel
theorem dX12_can_80 : decode cX12_can 80 = .ok (.iastore, 1) := by decide +kernel
theorem dX12_can_81 : decode cX12_can 81 = .ok (.iload_n 2, 1) := by decide +kernel
theorem dX12_can_82 : decode cX12_can 82 = .ok (.ifCond .ne 8, 3) := by decide +kernel
theorem dX12_can_85 : decode cX12_can 85 = .ok (.iload 4, 2) := by decide +kernel
theorem dX12_can_87 : decode cX12_can 87 = .ok (.goto 5, 3) := by decide +kernel
theorem dX12_can_90 : decode cX12_can 90 = .ok (.iload 5, 2) := by decide +kernel
theorem dX12_can_92 : decode cX12_can 92 = .ok (.ireturn, 1) := by decide +kernel
theorem dX12_which_0 : decode cX12_which 0 = .ok (.aload_n 0, 1) := by decide +kernel
theorem dX12_which_1 : decode cX12_which 1 = .ok (.iload_n 1, 1) := by decide +kernel
theorem dX12_which_2 : decode cX12_which 2 = .ok (.iconst 0, 1) := by decide +kernel
theorem dX12_which_3 : decode cX12_which 3 = .ok (.iconst 1, 1) := by decide +kernel
theorem dX12_which_4 : decode cX12_which 4 = .ok (.invokevirtual 234, 3) := by decide +kernel
theorem dX12_which_7 : decode cX12_which 7 = .ok (.ifCond .ne 5, 3) := by decide +kernel
theorem dX12_which_10 : decode cX12_which 10 = .ok (.iconst (-1), 1) := by decide +kernel
theorem dX12_which_11 : decode cX12_which 11 = .ok (.ireturn, 1) := by decide +kernel
theorem dX12_which_12 : decode cX12_which 12 = .ok (.aload_n 0, 1) := by decide +kernel
theorem dX12_which_13 : decode cX12_which 13 = .ok (.getfield 16, 3) := by decide +kernel
theorem dX12_which_16 : decode cX12_which 16 = .ok (.istore_n 2, 1) := by decide +kernel
theorem dX12_which_17 : decode cX12_which 17 = .ok (.iconst 0, 1) := by decide +kernel
theorem dX12_which_18 : decode cX12_which 18 = .ok (.istore_n 3, 1) := by decide +kernel
theorem dX12_which_19 : decode cX12_which 19 = .ok (.bipush (-5), 2) := by decide +kernel
theorem dX12_which_21 : decode cX12_which 21 = .ok (.istore 4, 2) := by decide +kernel
theorem dX12_which_23 : decode cX12_which 23 = .ok (.bipush 9, 2) := by decide +kernel
theorem dX12_which_25 : decode cX12_which 25 = .ok (.istore 5, 2) := by decide +kernel
theorem dX12_which_27 : decode cX12_which 27 = .ok (.iload 5, 2) := by decide +kernel
theorem dX12_which_29 : decode cX12_which 29 = .ok (.ifCond .lt 34, 3) := by decide +kernel
theorem dX12_which_32 : decode cX12_which 32 = .ok (.aload_n 0, 1) := by decide +kernel
theorem dX12_which_33 : decode cX12_which 33 = .ok (.iload_n 2, 1) := by decide +kernel
theorem dX12_which_34 : decode cX12_which 34 = .ok (.iload 5, 2) := by decide +kernel
theorem dX12_which_36 : decode cX12_which 36 = .ok (.iadd, 1) := by decide +kernel
theorem dX12_which_37 : decode cX12_which 37 = .ok (.putfield 16, 3) := by decide +kernel
theorem dX12_which_40 : decode cX12_which 40 = .ok (.aload_n 0, 1) := by decide +kernel
theorem dX12_which_41 : decode cX12_which 41 = .ok (.invokevirtual 370, 3) := by decide +kernel
theorem dX12_which_44 : decode cX12_which 44 = .ok (.ifCond .ne 6, 3) := by decide +kernel
theorem dX12_which_47 : decode cX12_which 47 = .ok (.goto 10, 3) := by decide +kernel
theorem dX12_which_50 : decode cX12_which 50 = .ok (.iinc 3 1, 3) := by decide +kernel
theorem dX12_which_53 : decode cX12_which 53 = .ok (.iload 5, 2) := by decide +kernel
theorem dX12_which_55 : decode cX12_which 55 = .ok (.istore 4, 2) := by decide +kernel
theorem dX12_which_57 : decode cX12_which 57 = .ok (.iinc 5 (-1), 3) := by decide +kernel
theorem dX12_which_60 : decode cX12_which 60 = .ok (.goto (-33), 3) := by decide +kernel
theorem dX12_which_63 : decode cX12_which 63 = .ok (.aload_n 0, 1) := by decide +kernel
theorem dX12_which_64 : decode cX12_which 64 = .ok (.iload_n 2, 1) := by decide +kernel
theorem dX12_which_65 : decode cX12_which 65 = .ok (.putfield 16, 3) := by decide +kernel
theorem dX12_which_68 : decode cX12_which 68 = .ok (.iload_n 1, 1) := by decide +kernel
theorem dX12_which_69 : decode cX12_which 69 = .ok (.ifCond .ne 7, 3) := by decide +kernel
theorem dX12_which_72 : decode cX12_which 72 = .ok (.iload_n 3, 1) := by decide +kernel
theorem dX12_which_73 : decode cX12_which 73 = .ok (.goto 5, 3) := by decide +kernel
theorem dX12_which_76 : decode cX12_which 76 = .ok (.iload 4, 2) := by decide +kernel
theorem dX12_which_78 : decode cX12_which 78 = .ok (.ireturn, 1) := by decide +kernel
theorem dX12_divisor_0 : decode cX12_divisor 0 = .ok (.iload_n 1, 1) := by decide +kernel
theorem dX12_divisor_1 : decode cX12_divisor 1 = .ok (.istore_n 3, 1) := by decide +kernel
theorem dX12_divisor_2 : decode cX12_divisor 2 = .ok (.iload_n 2, 1) := by decide +kernel
theorem dX12_divisor_3 : decode cX12_divisor 3 = .ok (.istore 4, 2) := by decide +kernel
theorem dX12_divisor_5 : decode cX12_divisor 5 = .ok (.iload 4, 2) := by decide +kernel
theorem dX12_divisor_7 : decode cX12_divisor 7 = .ok (.ifCond .eq 19, 3) := by decide +kernel
theorem dX12_divisor_10 : decode cX12_divisor 10 = .ok (.iload_n 3, 1) := by decide +kernel
theorem dX12_divisor_11 : decode cX12_divisor 11 = .ok (.iload 4, 2) := by decide +kernel
theorem dX12_divisor_13 : decode cX12_divisor 13 = .ok (.irem, 1) := by decide +kernel
theorem dX12_divisor_14 : decode cX12_divisor 14 = .ok (.istore 5, 2) := by decide +kernel
theorem dX12_divisor_16 : decode cX12_divisor 16 = .ok (.iload 4, 2) := by decide +kernel
theorem dX12_divisor_18 : decode cX12_divisor 18 = .ok (.istore_n 3, 1) := by decide +kernel
theorem dX12_divisor_19 : decode cX12_divisor 19 = .ok (.iload 5, 2) := by decide +kernel
theorem dX12_divisor_21 : decode cX12_divisor 21 = .ok (.istore 4, 2) := by decide +kernel
theorem dX12_divisor_23 : decode cX12_divisor 23 = .ok (.goto (-18), 3) := by decide +kernel
theorem dX12_divisor_26 : decode cX12_divisor 26 = .ok (.iload_n 3, 1) := by decide +kernel
theorem dX12_divisor_27 : decode cX12_divisor 27 = .ok (.ireturn, 1) := by decide +kernel
theorem dX12_lowest_0 : decode cX12_lowest 0 = .ok (.aload_n 0, 1) := by decide +kernel
theorem dX12_lowest_1 : decode cX12_lowest 1 = .ok (.iload_n 1, 1) := by decide +kernel
theorem dX12_lowest_2 : decode cX12_lowest 2 = .ok (.iload_n 2, 1) := by decide +kernel
theorem dX12_lowest_3 : decode cX12_lowest 3 = .ok (.invokevirtual 373, 3) := by decide +kernel
theorem dX12_lowest_6 : decode cX12_lowest 6 = .ok (.istore 4, 2) := by decide +kernel
theorem dX12_lowest_8 : decode cX12_lowest 8 = .ok (.iload_n 3, 1) := by decide +kernel
theorem dX12_lowest_9 : decode cX12_lowest 9 = .ok (.ifCond .ne 11, 3) := by decide +kernel
theorem dX12_lowest_12 : decode cX12_lowest 12 = .ok (.iload_n 1, 1) := by decide +kernel
theorem dX12_lowest_13 : decode cX12_lowest 13 = .ok (.iload 4, 2) := by decide +kernel
theorem dX12_lowest_15 : decode cX12_lowest 15 = .ok (.idiv, 1) := by decide +kernel
theorem dX12_lowest_16 : decode cX12_lowest 16 = .ok (.i2l, 1) := by decide +kernel
theorem dX12_lowest_17 : decode cX12_lowest 17 = .ok (.goto 8, 3) := by decide +kernel
theorem dX12_lowest_20 : decode cX12_lowest 20 = .ok (.iload_n 2, 1) := by decide +kernel
theorem dX12_lowest_21 : decode cX12_lowest 21 = .ok (.iload 4, 2) := by decide +kernel
theorem dX12_lowest_23 : decode cX12_lowest 23 = .ok (.idiv, 1) := by decide +kernel
theorem dX12_lowest_24 : decode cX12_lowest 24 = .ok (.i2l, 1) := by decide +kernel
theorem dX12_lowest_25 : decode cX12_lowest 25 = .ok (.lreturn, 1) := by decide +kernel
theorem dX12_odds_0 : decode cX12_odds 0 = .ok (.aload_n 0, 1) := by decide +kernel
theorem dX12_odds_1 : decode cX12_odds 1 = .ok (.iload_n 1, 1) := by decide +kernel
theorem dX12_odds_2 : decode cX12_odds 2 = .ok (.invokevirtual 238, 3) := by decide +kernel
theorem dX12_odds_5 : decode cX12_odds 5 = .ok (.ifCond .eq 24, 3) := by decide +kernel
theorem dX12_odds_8 : decode cX12_odds 8 = .ok (.aload_n 0, 1) := by decide +kernel
theorem dX12_odds_9 : decode cX12_odds 9 = .ok (.iload_n 2, 1) := by decide +kernel
theorem dX12_odds_10 : decode cX12_odds 10 = .ok (.iconst 0, 1) := by decide +kernel
theorem dX12_odds_11 : decode cX12_odds 11 = .ok (.bipush 11, 2) := by decide +kernel
theorem dX12_odds_13 : decode cX12_odds 13 = .ok (.invokevirtual 234, 3) := by decide +kernel
theorem dX12_odds_16 : decode cX12_odds 16 = .ok (.ifCond .eq 13, 3) := by decide +kernel
theorem dX12_odds_19 : decode cX12_odds 19 = .ok (.aload_n 0, 1) := by decide +kernel
theorem dX12_odds_20 : decode cX12_odds 20 = .ok (.iload_n 3, 1) := by decide +kernel
theorem dX12_odds_21 : decode cX12_odds 21 = .ok (.iconst 0, 1) := by decide +kernel
theorem dX12_odds_22 : decode cX12_odds 22 = .ok (.iconst 1, 1) := by decide +kernel
theorem dX12_odds_23 : decode cX12_odds 23 = .ok (.invokevirtual 234, 3) := by decide +kernel
theorem dX12_odds_26 : decode cX12_odds 26 = .ok (.ifCond .ne 7, 3) := by decide +kernel
theorem dX12_odds_29 : decode cX12_odds 29 = .ok (.ldc2_w 376, 3) := by decide +kernel
theorem dX12_odds_32 : decode cX12_odds 32 = .ok (.lreturn, 1) := by decide +kernel
theorem dX12_odds_33 : decode cX12_odds 33 = .ok (.iconst 0, 1) := by decide +kernel
theorem dX12_odds_34 : decode cX12_odds 34 = .ok (.istore 4, 2) := by decide +kernel
theorem dX12_odds_36 : decode cX12_odds 36 = .ok (.iconst 0, 1) := by decide +kernel
theorem dX12_odds_37 : decode cX12_odds 37 = .ok (.istore 5, 2) := by decide +kernel
theorem dX12_odds_39 : decode cX12_odds 39 = .ok (.iload 5, 2) := by decide +kernel
theorem dX12_odds_41 : decode cX12_odds 41 = .ok (.aload_n 0, 1) := by decide +kernel
theorem dX12_odds_42 : decode cX12_odds 42 = .ok (.getfield 7, 3) := by decide +kernel
theorem dX12_odds_45 : decode cX12_odds 45 = .ok (.if_icmp .ge 36, 3) := by decide +kernel
theorem dX12_odds_48 : decode cX12_odds 48 = .ok (.iload 4, 2) := by decide +kernel
theorem dX12_odds_50 : decode cX12_odds 50 = .ok (.aload_n 0, 1) := by decide +kernel
theorem dX12_odds_51 : decode cX12_odds 51 = .ok (.aload_n 0, 1) := by decide +kernel
theorem dX12_odds_52 : decode cX12_odds 52 = .ok (.iload_n 1, 1) := by decide +kernel
theorem dX12_odds_53 : decode cX12_odds 53 = .ok (.iconst 1, 1) := by decide +kernel
theorem dX12_odds_54 : decode cX12_odds 54 = .ok (.iload 5, 2) := by decide +kernel
theorem dX12_odds_56 : decode cX12_odds 56 = .ok (.ishl, 1) := by decide +kernel
theorem dX12_odds_57 : decode cX12_odds 57 = .ok (.invokevirtual 330, 3) := by decide +kernel
theorem dX12_odds_60 : decode cX12_odds 60 = .ok (.iload_n 2, 1) := by decide +kernel
theorem dX12_odds_61 : decode cX12_odds 61 = .ok (.invokevirtual 230, 3) := by decide +kernel
theorem dX12_odds_64 : decode cX12_odds 64 = .ok (.ifCond .eq 7, 3) := by decide +kernel
theorem dX12_odds_67 : decode cX12_odds 67 = .ok (.iconst 1, 1) := by decide +kernel
theorem dX12_odds_68 : decode cX12_odds 68 = .ok (.goto 4, 3) := by decide +kernel
theorem dX12_odds_71 : decode cX12_odds 71 = .ok (.iconst 0, 1) := by decide +kernel
