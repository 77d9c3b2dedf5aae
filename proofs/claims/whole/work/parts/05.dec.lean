theorem dX11_image_23 : decode cX11_image 23 = .ok (.iconst 1, 1) := by decide +kernel
theorem dX11_image_24 : decode cX11_image 24 = .ok (.putfield 279, 3) := by decide +kernel
theorem dX11_image_27 : decode cX11_image 27 = .ok (.aload_n 0, 1) := by decide +kernel
theorem dX11_image_28 : decode cX11_image 28 = .ok (.getfield 37, 3) := by decide +kernel
theorem dX11_image_31 : decode cX11_image 31 = .ok (.getfield 83, 3) := by decide +kernel
theorem dX11_image_34 : decode cX11_image 34 = .ok (.ireturn, 1) := by decide +kernel
theorem dX11_undo_0 : decode cX11_undo 0 = .ok (.aload_n 0, 1) := by decide +kernel
theorem dX11_undo_1 : decode cX11_undo 1 = .ok (.getfield 279, 3) := by decide +kernel
theorem dX11_undo_4 : decode cX11_undo 4 = .ok (.ifCond .ne 6, 3) := by decide +kernel
theorem dX11_undo_7 : decode cX11_undo 7 = .ok (.bipush (-3), 2) := by decide +kernel
theorem dX11_undo_9 : decode cX11_undo 9 = .ok (.ireturn, 1) := by decide +kernel
theorem dX11_undo_10 : decode cX11_undo 10 = .ok (.aload_n 0, 1) := by decide +kernel
theorem dX11_undo_11 : decode cX11_undo 11 = .ok (.getfield 37, 3) := by decide +kernel
theorem dX11_undo_14 : decode cX11_undo 14 = .ok (.aload_n 0, 1) := by decide +kernel
theorem dX11_undo_15 : decode cX11_undo 15 = .ok (.getfield 43, 3) := by decide +kernel
theorem dX11_undo_18 : decode cX11_undo 18 = .ok (.invokevirtual 184, 3) := by decide +kernel
theorem dX11_undo_21 : decode cX11_undo 21 = .ok (.aload_n 0, 1) := by decide +kernel
theorem dX11_undo_22 : decode cX11_undo 22 = .ok (.getfield 37, 3) := by decide +kernel
theorem dX11_undo_25 : decode cX11_undo 25 = .ok (.aload_n 0, 1) := by decide +kernel
theorem dX11_undo_26 : decode cX11_undo 26 = .ok (.getfield 43, 3) := by decide +kernel
theorem dX11_undo_29 : decode cX11_undo 29 = .ok (.invokevirtual 276, 3) := by decide +kernel
theorem dX11_undo_32 : decode cX11_undo 32 = .ok (.aload_n 0, 1) := by decide +kernel
theorem dX11_undo_33 : decode cX11_undo 33 = .ok (.getfield 37, 3) := by decide +kernel
theorem dX11_undo_36 : decode cX11_undo 36 = .ok (.getfield 83, 3) := by decide +kernel
theorem dX11_undo_39 : decode cX11_undo 39 = .ok (.ireturn, 1) := by decide +kernel
theorem dX11_act_0 : decode cX11_act 0 = .ok (.aload_n 0, 1) := by decide +kernel
theorem dX11_act_1 : decode cX11_act 1 = .ok (.getfield 56, 3) := by decide +kernel
theorem dX11_act_4 : decode cX11_act 4 = .ok (.invokevirtual 283, 3) := by decide +kernel
theorem dX11_act_7 : decode cX11_act 7 = .ok (.aload_n 0, 1) := by decide +kernel
theorem dX11_act_8 : decode cX11_act 8 = .ok (.getfield 37, 3) := by decide +kernel
theorem dX11_act_11 : decode cX11_act 11 = .ok (.iload_n 1, 1) := by decide +kernel
theorem dX11_act_12 : decode cX11_act 12 = .ok (.invokevirtual 91, 3) := by decide +kernel
theorem dX11_act_15 : decode cX11_act 15 = .ok (.ifCond .ne 5, 3) := by decide +kernel
theorem dX11_act_18 : decode cX11_act 18 = .ok (.iconst 0, 1) := by decide +kernel
theorem dX11_act_19 : decode cX11_act 19 = .ok (.ireturn, 1) := by decide +kernel
theorem dX11_act_20 : decode cX11_act 20 = .ok (.aload_n 0, 1) := by decide +kernel
theorem dX11_act_21 : decode cX11_act 21 = .ok (.getfield 56, 3) := by decide +kernel
theorem dX11_act_24 : decode cX11_act 24 = .ok (.iload_n 1, 1) := by decide +kernel
theorem dX11_act_25 : decode cX11_act 25 = .ok (.putfield 286, 3) := by decide +kernel
theorem dX11_act_28 : decode cX11_act 28 = .ok (.aload_n 0, 1) := by decide +kernel
theorem dX11_act_29 : decode cX11_act 29 = .ok (.getfield 56, 3) := by decide +kernel
theorem dX11_act_32 : decode cX11_act 32 = .ok (.aload_n 0, 1) := by decide +kernel
theorem dX11_act_33 : decode cX11_act 33 = .ok (.getfield 37, 3) := by decide +kernel
theorem dX11_act_36 : decode cX11_act 36 = .ok (.getfield 104, 3) := by decide +kernel
theorem dX11_act_39 : decode cX11_act 39 = .ok (.iload_n 1, 1) := by decide +kernel
theorem dX11_act_40 : decode cX11_act 40 = .ok (.iaload, 1) := by decide +kernel
theorem dX11_act_41 : decode cX11_act 41 = .ok (.putfield 289, 3) := by decide +kernel
theorem dX11_act_44 : decode cX11_act 44 = .ok (.aload_n 0, 1) := by decide +kernel
theorem dX11_act_45 : decode cX11_act 45 = .ok (.getfield 37, 3) := by decide +kernel
theorem dX11_act_48 : decode cX11_act 48 = .ok (.getfield 291, 3) := by decide +kernel
theorem dX11_act_51 : decode cX11_act 51 = .ok (.aload_n 0, 1) := by decide +kernel
theorem dX11_act_52 : decode cX11_act 52 = .ok (.getfield 37, 3) := by decide +kernel
theorem dX11_act_55 : decode cX11_act 55 = .ok (.getfield 101, 3) := by decide +kernel
theorem dX11_act_58 : decode cX11_act 58 = .ok (.iload_n 1, 1) := by decide +kernel
theorem dX11_act_59 : decode cX11_act 59 = .ok (.iaload, 1) := by decide +kernel
theorem dX11_act_60 : decode cX11_act 60 = .ok (.aaload, 1) := by decide +kernel
theorem dX11_act_61 : decode cX11_act 61 = .ok (.astore 4, 2) := by decide +kernel
theorem dX11_act_63 : decode cX11_act 63 = .ok (.iload_n 2, 1) := by decide +kernel
theorem dX11_act_64 : decode cX11_act 64 = .ok (.tableswitch 61 0 2 #[28, 39, 50], 28) := by decide +kernel
theorem dX11_act_92 : decode cX11_act 92 = .ok (.aload 4, 2) := by decide +kernel
theorem dX11_act_94 : decode cX11_act 94 = .ok (.aload_n 0, 1) := by decide +kernel
theorem dX11_act_95 : decode cX11_act 95 = .ok (.getfield 56, 3) := by decide +kernel
theorem dX11_act_98 : decode cX11_act 98 = .ok (.iload_n 3, 1) := by decide +kernel
theorem dX11_act_99 : decode cX11_act 99 = .ok (.invokevirtual 295, 3) := by decide +kernel
theorem dX11_act_102 : decode cX11_act 102 = .ok (.ireturn, 1) := by decide +kernel
theorem dX11_act_103 : decode cX11_act 103 = .ok (.aload 4, 2) := by decide +kernel
theorem dX11_act_105 : decode cX11_act 105 = .ok (.aload_n 0, 1) := by decide +kernel
theorem dX11_act_106 : decode cX11_act 106 = .ok (.getfield 56, 3) := by decide +kernel
theorem dX11_act_109 : decode cX11_act 109 = .ok (.iload_n 3, 1) := by decide +kernel
theorem dX11_act_110 : decode cX11_act 110 = .ok (.invokevirtual 299, 3) := by decide +kernel
theorem dX11_act_113 : decode cX11_act 113 = .ok (.ireturn, 1) := by decide +kernel
theorem dX11_act_114 : decode cX11_act 114 = .ok (.aload 4, 2) := by decide +kernel
theorem dX11_act_116 : decode cX11_act 116 = .ok (.aload_n 0, 1) := by decide +kernel
theorem dX11_act_117 : decode cX11_act 117 = .ok (.getfield 56, 3) := by decide +kernel
theorem dX11_act_120 : decode cX11_act 120 = .ok (.iload_n 3, 1) := by decide +kernel
theorem dX11_act_121 : decode cX11_act 121 = .ok (.invokevirtual 302, 3) := by decide +kernel
theorem dX11_act_124 : decode cX11_act 124 = .ok (.ireturn, 1) := by decide +kernel
theorem dX11_act_125 : decode cX11_act 125 = .ok (.iconst 0, 1) := by decide +kernel
theorem dX11_act_126 : decode cX11_act 126 = .ok (.ireturn, 1) := by decide +kernel
theorem dX11_trace_0 : decode cX11_trace 0 = .ok (.iload_n 1, 1) := by decide +kernel
theorem dX11_trace_1 : decode cX11_trace 1 = .ok (.ifCond .lt 31, 3) := by decide +kernel
theorem dX11_trace_4 : decode cX11_trace 4 = .ok (.iload_n 1, 1) := by decide +kernel
theorem dX11_trace_5 : decode cX11_trace 5 = .ok (.aload_n 0, 1) := by decide +kernel
theorem dX11_trace_6 : decode cX11_trace 6 = .ok (.getfield 56, 3) := by decide +kernel
theorem dX11_trace_9 : decode cX11_trace 9 = .ok (.getfield 305, 3) := by decide +kernel
theorem dX11_trace_12 : decode cX11_trace 12 = .ok (.bipush 20, 2) := by decide +kernel
theorem dX11_trace_14 : decode cX11_trace 14 = .ok (.invokestatic 308, 3) := by decide +kernel
theorem dX11_trace_17 : decode cX11_trace 17 = .ok (.if_icmp .ge 15, 3) := by decide +kernel
theorem dX11_trace_20 : decode cX11_trace 20 = .ok (.aload_n 0, 1) := by decide +kernel
theorem dX11_trace_21 : decode cX11_trace 21 = .ok (.getfield 56, 3) := by decide +kernel
theorem dX11_trace_24 : decode cX11_trace 24 = .ok (.getfield 311, 3) := by decide +kernel
theorem dX11_trace_27 : decode cX11_trace 27 = .ok (.iload_n 1, 1) := by decide +kernel
theorem dX11_trace_28 : decode cX11_trace 28 = .ok (.iaload, 1) := by decide +kernel
theorem dX11_trace_29 : decode cX11_trace 29 = .ok (.goto 4, 3) := by decide +kernel
theorem dX11_trace_32 : decode cX11_trace 32 = .ok (.iconst (-1), 1) := by decide +kernel
theorem dX11_trace_33 : decode cX11_trace 33 = .ok (.ireturn, 1) := by decide +kernel
theorem dX11_taken_0 : decode cX11_taken 0 = .ok (.iload_n 2, 1) := by decide +kernel
theorem dX11_taken_1 : decode cX11_taken 1 = .ok (.ifCond .lt 9, 3) := by decide +kernel
theorem dX11_taken_4 : decode cX11_taken 4 = .ok (.iload_n 2, 1) := by decide +kernel
theorem dX11_taken_5 : decode cX11_taken 5 = .ok (.bipush 7, 2) := by decide +kernel
theorem dX11_taken_7 : decode cX11_taken 7 = .ok (.if_icmp .lt 6, 3) := by decide +kernel
theorem dX11_taken_10 : decode cX11_taken 10 = .ok (.bipush (-2), 2) := by decide +kernel
theorem dX11_taken_12 : decode cX11_taken 12 = .ok (.ireturn, 1) := by decide +kernel
theorem dX11_taken_13 : decode cX11_taken 13 = .ok (.aload_n 0, 1) := by decide +kernel
theorem dX11_taken_14 : decode cX11_taken 14 = .ok (.getfield 37, 3) := by decide +kernel
theorem dX11_taken_17 : decode cX11_taken 17 = .ok (.iload_n 1, 1) := by decide +kernel
theorem dX11_taken_18 : decode cX11_taken 18 = .ok (.invokevirtual 91, 3) := by decide +kernel
theorem dX11_taken_21 : decode cX11_taken 21 = .ok (.ifCond .ne 6, 3) := by decide +kernel
theorem dX11_taken_24 : decode cX11_taken 24 = .ok (.bipush (-11), 2) := by decide +kernel
theorem dX11_taken_26 : decode cX11_taken 26 = .ok (.ireturn, 1) := by decide +kernel
theorem dX11_taken_27 : decode cX11_taken 27 = .ok (.aload_n 0, 1) := by decide +kernel
theorem dX11_taken_28 : decode cX11_taken 28 = .ok (.getfield 37, 3) := by decide +kernel
theorem dX11_taken_31 : decode cX11_taken 31 = .ok (.getfield 101, 3) := by decide +kernel
theorem dX11_taken_34 : decode cX11_taken 34 = .ok (.iload_n 1, 1) := by decide +kernel
theorem dX11_taken_35 : decode cX11_taken 35 = .ok (.iaload, 1) := by decide +kernel
theorem dX11_taken_36 : decode cX11_taken 36 = .ok (.istore_n 3, 1) := by decide +kernel
theorem dX11_taken_37 : decode cX11_taken 37 = .ok (.iload_n 3, 1) := by decide +kernel
theorem dX11_taken_38 : decode cX11_taken 38 = .ok (.istore 4, 2) := by decide +kernel
theorem dX11_taken_40 : decode cX11_taken 40 = .ok (.iconst 0, 1) := by decide +kernel
theorem dX11_taken_41 : decode cX11_taken 41 = .ok (.istore 5, 2) := by decide +kernel
theorem dX11_taken_43 : decode cX11_taken 43 = .ok (.iload 5, 2) := by decide +kernel
theorem dX11_taken_45 : decode cX11_taken 45 = .ok (.bipush 7, 2) := by decide +kernel
theorem dX11_taken_47 : decode cX11_taken 47 = .ok (.if_icmp .ge 30, 3) := by decide +kernel
theorem dX11_taken_50 : decode cX11_taken 50 = .ok (.iload 4, 2) := by decide +kernel
theorem dX11_taken_52 : decode cX11_taken 52 = .ok (.ifCond .lt 25, 3) := by decide +kernel
theorem dX11_taken_55 : decode cX11_taken 55 = .ok (.iload 4, 2) := by decide +kernel
theorem dX11_taken_57 : decode cX11_taken 57 = .ok (.iload_n 2, 1) := by decide +kernel
theorem dX11_taken_58 : decode cX11_taken 58 = .ok (.if_icmp .ne 5, 3) := by decide +kernel
theorem dX11_taken_61 : decode cX11_taken 61 = .ok (.iload_n 3, 1) := by decide +kernel
theorem dX11_taken_62 : decode cX11_taken 62 = .ok (.ireturn, 1) := by decide +kernel
theorem dX11_taken_63 : decode cX11_taken 63 = .ok (.getstatic 314, 3) := by decide +kernel
theorem dX11_taken_66 : decode cX11_taken 66 = .ok (.iload 4, 2) := by decide +kernel
theorem dX11_taken_68 : decode cX11_taken 68 = .ok (.iaload, 1) := by decide +kernel
theorem dX11_taken_69 : decode cX11_taken 69 = .ok (.istore 4, 2) := by decide +kernel
theorem dX11_taken_71 : decode cX11_taken 71 = .ok (.iinc 5 1, 3) := by decide +kernel
theorem dX11_taken_74 : decode cX11_taken 74 = .ok (.goto (-31), 3) := by decide +kernel
theorem dX11_taken_77 : decode cX11_taken 77 = .ok (.bipush (-12), 2) := by decide +kernel
theorem dX11_taken_79 : decode cX11_taken 79 = .ok (.ireturn, 1) := by decide +kernel
theorem dX11_count_0 : decode cX11_count 0 = .ok (.iload_n 1, 1) := by decide +kernel
theorem dX11_count_1 : decode cX11_count 1 = .ok (.tableswitch 117 0 7 #[47, 55, 60, 71, 82, 93, 104, 109], 47) := by decide +kernel
theorem dX11_count_48 : decode cX11_count 48 = .ok (.aload_n 0, 1) := by decide +kernel
theorem dX11_count_49 : decode cX11_count 49 = .ok (.getfield 37, 3) := by decide +kernel
theorem dX11_count_52 : decode cX11_count 52 = .ok (.getfield 83, 3) := by decide +kernel
theorem dX11_count_55 : decode cX11_count 55 = .ok (.ireturn, 1) := by decide +kernel
theorem dX11_count_56 : decode cX11_count 56 = .ok (.aload_n 0, 1) := by decide +kernel
theorem dX11_count_57 : decode cX11_count 57 = .ok (.getfield 136, 3) := by decide +kernel
theorem dX11_count_60 : decode cX11_count 60 = .ok (.ireturn, 1) := by decide +kernel
theorem dX11_count_61 : decode cX11_count 61 = .ok (.aload_n 0, 1) := by decide +kernel
theorem dX11_count_62 : decode cX11_count 62 = .ok (.getfield 37, 3) := by decide +kernel
theorem dX11_count_65 : decode cX11_count 65 = .ok (.getfield 205, 3) := by decide +kernel
theorem dX11_count_68 : decode cX11_count 68 = .ok (.getfield 217, 3) := by decide +kernel
theorem dX11_count_71 : decode cX11_count 71 = .ok (.ireturn, 1) := by decide +kernel
theorem dX11_count_72 : decode cX11_count 72 = .ok (.aload_n 0, 1) := by decide +kernel
theorem dX11_count_73 : decode cX11_count 73 = .ok (.getfield 37, 3) := by decide +kernel
theorem dX11_count_76 : decode cX11_count 76 = .ok (.getfield 241, 3) := by decide +kernel
theorem dX11_count_79 : decode cX11_count 79 = .ok (.getfield 217, 3) := by decide +kernel
theorem dX11_count_82 : decode cX11_count 82 = .ok (.ireturn, 1) := by decide +kernel
theorem dX11_count_83 : decode cX11_count 83 = .ok (.aload_n 0, 1) := by decide +kernel
theorem dX11_count_84 : decode cX11_count 84 = .ok (.getfield 37, 3) := by decide +kernel
theorem dX11_count_87 : decode cX11_count 87 = .ok (.getfield 261, 3) := by decide +kernel
theorem dX11_count_90 : decode cX11_count 90 = .ok (.getfield 217, 3) := by decide +kernel
theorem dX11_count_93 : decode cX11_count 93 = .ok (.ireturn, 1) := by decide +kernel
theorem dX11_count_94 : decode cX11_count 94 = .ok (.aload_n 0, 1) := by decide +kernel
theorem dX11_count_95 : decode cX11_count 95 = .ok (.getfield 37, 3) := by decide +kernel
theorem dX11_count_98 : decode cX11_count 98 = .ok (.getfield 270, 3) := by decide +kernel
theorem dX11_count_101 : decode cX11_count 101 = .ok (.getfield 217, 3) := by decide +kernel
theorem dX11_count_104 : decode cX11_count 104 = .ok (.ireturn, 1) := by decide +kernel
theorem dX11_count_105 : decode cX11_count 105 = .ok (.aload_n 0, 1) := by decide +kernel
theorem dX11_count_106 : decode cX11_count 106 = .ok (.getfield 133, 3) := by decide +kernel
theorem dX11_count_109 : decode cX11_count 109 = .ok (.ireturn, 1) := by decide +kernel
theorem dX11_count_110 : decode cX11_count 110 = .ok (.aload_n 0, 1) := by decide +kernel
theorem dX11_count_111 : decode cX11_count 111 = .ok (.getfield 56, 3) := by decide +kernel
theorem dX11_count_114 : decode cX11_count 114 = .ok (.getfield 305, 3) := by decide +kernel
theorem dX11_count_117 : decode cX11_count 117 = .ok (.ireturn, 1) := by decide +kernel
theorem dX11_count_118 : decode cX11_count 118 = .ok (.bipush (-2), 2) := by decide +kernel
theorem dX11_count_120 : decode cX11_count 120 = .ok (.ireturn, 1) := by decide +kernel
theorem dX11_tape_0 : decode cX11_tape 0 = .ok (.iload_n 1, 1) := by decide +kernel
theorem dX11_tape_1 : decode cX11_tape 1 = .ok (.invokestatic 273, 3) := by decide +kernel
theorem dX11_tape_4 : decode cX11_tape 4 = .ok (.ifCond .ne 5, 3) := by decide +kernel
theorem dX11_tape_7 : decode cX11_tape 7 = .ok (.iconst (-1), 1) := by decide +kernel
theorem dX11_tape_8 : decode cX11_tape 8 = .ok (.ireturn, 1) := by decide +kernel
theorem dX11_tape_9 : decode cX11_tape 9 = .ok (.iload_n 2, 1) := by decide +kernel
theorem dX11_tape_10 : decode cX11_tape 10 = .ok (.iconst (-1), 1) := by decide +kernel
theorem dX11_tape_11 : decode cX11_tape 11 = .ok (.if_icmp .ne 19, 3) := by decide +kernel
theorem dX11_tape_14 : decode cX11_tape 14 = .ok (.aload_n 0, 1) := by decide +kernel
theorem dX11_tape_15 : decode cX11_tape 15 = .ok (.getfield 70, 3) := by decide +kernel
theorem dX11_tape_18 : decode cX11_tape 18 = .ok (.iload_n 1, 1) := by decide +kernel
theorem dX11_tape_19 : decode cX11_tape 19 = .ok (.iconst (-1), 1) := by decide +kernel
theorem dX11_tape_20 : decode cX11_tape 20 = .ok (.iastore, 1) := by decide +kernel
theorem dX11_tape_21 : decode cX11_tape 21 = .ok (.aload_n 0, 1) := by decide +kernel
theorem dX11_tape_22 : decode cX11_tape 22 = .ok (.getfield 80, 3) := by decide +kernel
theorem dX11_tape_25 : decode cX11_tape 25 = .ok (.iload_n 1, 1) := by decide +kernel
theorem dX11_tape_26 : decode cX11_tape 26 = .ok (.iconst 0, 1) := by decide +kernel
theorem dX11_tape_27 : decode cX11_tape 27 = .ok (.iastore, 1) := by decide +kernel
theorem dX11_tape_28 : decode cX11_tape 28 = .ok (.iconst 1, 1) := by decide +kernel
theorem dX11_tape_29 : decode cX11_tape 29 = .ok (.ireturn, 1) := by decide +kernel
theorem dX11_tape_30 : decode cX11_tape 30 = .ok (.iload_n 2, 1) := by decide +kernel
theorem dX11_tape_31 : decode cX11_tape 31 = .ok (.ifCond .lt 14, 3) := by decide +kernel
theorem dX11_tape_34 : decode cX11_tape 34 = .ok (.iload_n 2, 1) := by decide +kernel
theorem dX11_tape_35 : decode cX11_tape 35 = .ok (.iconst 4, 1) := by decide +kernel
theorem dX11_tape_36 : decode cX11_tape 36 = .ok (.if_icmp .gt 9, 3) := by decide +kernel
theorem dX11_tape_39 : decode cX11_tape 39 = .ok (.iload_n 3, 1) := by decide +kernel
theorem dX11_tape_40 : decode cX11_tape 40 = .ok (.bipush 60, 2) := by decide +kernel
theorem dX11_tape_42 : decode cX11_tape 42 = .ok (.if_icmp .le 6, 3) := by decide +kernel
theorem dX11_tape_45 : decode cX11_tape 45 = .ok (.bipush (-2), 2) := by decide +kernel
theorem dX11_tape_47 : decode cX11_tape 47 = .ok (.ireturn, 1) := by decide +kernel
theorem dX11_tape_48 : decode cX11_tape 48 = .ok (.iload_n 3, 1) := by decide +kernel
theorem dX11_tape_49 : decode cX11_tape 49 = .ok (.ifCond .ge 6, 3) := by decide +kernel
theorem dX11_tape_52 : decode cX11_tape 52 = .ok (.bipush (-14), 2) := by decide +kernel
theorem dX11_tape_54 : decode cX11_tape 54 = .ok (.ireturn, 1) := by decide +kernel
theorem dX11_tape_55 : decode cX11_tape 55 = .ok (.aload_n 0, 1) := by decide +kernel
theorem dX11_tape_56 : decode cX11_tape 56 = .ok (.getfield 70, 3) := by decide +kernel
theorem dX11_tape_59 : decode cX11_tape 59 = .ok (.iload_n 1, 1) := by decide +kernel
theorem dX11_tape_60 : decode cX11_tape 60 = .ok (.iload_n 2, 1) := by decide +kernel
theorem dX11_tape_61 : decode cX11_tape 61 = .ok (.iastore, 1) := by decide +kernel
theorem dX11_tape_62 : decode cX11_tape 62 = .ok (.aload_n 0, 1) := by decide +kernel
theorem dX11_tape_63 : decode cX11_tape 63 = .ok (.getfield 80, 3) := by decide +kernel
theorem dX11_tape_66 : decode cX11_tape 66 = .ok (.iload_n 1, 1) := by decide +kernel
theorem dX11_tape_67 : decode cX11_tape 67 = .ok (.iload_n 3, 1) := by decide +kernel
theorem dX11_tape_68 : decode cX11_tape 68 = .ok (.iastore, 1) := by decide +kernel
theorem dX11_tape_69 : decode cX11_tape 69 = .ok (.aload_n 0, 1) := by decide +kernel
theorem dX11_tape_70 : decode cX11_tape 70 = .ok (.getfield 67, 3) := by decide +kernel
theorem dX11_tape_73 : decode cX11_tape 73 = .ok (.iload_n 1, 1) := by decide +kernel
theorem dX11_tape_74 : decode cX11_tape 74 = .ok (.aaload, 1) := by decide +kernel
theorem dX11_tape_75 : decode cX11_tape 75 = .ok (.lconst 0, 1) := by decide +kernel
theorem dX11_tape_76 : decode cX11_tape 76 = .ok (.invokestatic 317, 3) := by decide +kernel
theorem dX11_tape_79 : decode cX11_tape 79 = .ok (.iconst 1, 1) := by decide +kernel
theorem dX11_tape_80 : decode cX11_tape 80 = .ok (.ireturn, 1) := by decide +kernel
theorem dX11_item_0 : decode cX11_item 0 = .ok (.iload_n 1, 1) := by decide +kernel
theorem dX11_item_1 : decode cX11_item 1 = .ok (.invokestatic 273, 3) := by decide +kernel
theorem dX11_item_4 : decode cX11_item 4 = .ok (.ifCond .ne 5, 3) := by decide +kernel
theorem dX11_item_7 : decode cX11_item 7 = .ok (.iconst (-1), 1) := by decide +kernel
theorem dX11_item_8 : decode cX11_item 8 = .ok (.ireturn, 1) := by decide +kernel
theorem dX11_item_9 : decode cX11_item 9 = .ok (.aload_n 0, 1) := by decide +kernel
theorem dX11_item_10 : decode cX11_item 10 = .ok (.getfield 70, 3) := by decide +kernel
theorem dX11_item_13 : decode cX11_item 13 = .ok (.iload_n 1, 1) := by decide +kernel
theorem dX11_item_14 : decode cX11_item 14 = .ok (.iaload, 1) := by decide +kernel
theorem dX11_item_15 : decode cX11_item 15 = .ok (.iconst (-1), 1) := by decide +kernel
theorem dX11_item_16 : decode cX11_item 16 = .ok (.if_icmp .ne 6, 3) := by decide +kernel
theorem dX11_item_19 : decode cX11_item 19 = .ok (.bipush (-11), 2) := by decide +kernel
theorem dX11_item_21 : decode cX11_item 21 = .ok (.ireturn, 1) := by decide +kernel
theorem dX11_item_22 : decode cX11_item 22 = .ok (.iload_n 2, 1) := by decide +kernel
theorem dX11_item_23 : decode cX11_item 23 = .ok (.ifCond .lt 13, 3) := by decide +kernel
theorem dX11_item_26 : decode cX11_item 26 = .ok (.iload_n 2, 1) := by decide +kernel
theorem dX11_item_27 : decode cX11_item 27 = .ok (.aload_n 0, 1) := by decide +kernel
theorem dX11_item_28 : decode cX11_item 28 = .ok (.getfield 80, 3) := by decide +kernel
theorem dX11_item_31 : decode cX11_item 31 = .ok (.iload_n 1, 1) := by decide +kernel
theorem dX11_item_32 : decode cX11_item 32 = .ok (.iaload, 1) := by decide +kernel
theorem dX11_item_33 : decode cX11_item 33 = .ok (.if_icmp .lt 6, 3) := by decide +kernel
theorem dX11_item_36 : decode cX11_item 36 = .ok (.bipush (-13), 2) := by decide +kernel
theorem dX11_item_38 : decode cX11_item 38 = .ok (.ireturn, 1) := by decide +kernel
theorem dX11_item_39 : decode cX11_item 39 = .ok (.aload_n 0, 1) := by decide +kernel
theorem dX11_item_40 : decode cX11_item 40 = .ok (.getfield 67, 3) := by decide +kernel
theorem dX11_item_43 : decode cX11_item 43 = .ok (.iload_n 1, 1) := by decide +kernel
theorem dX11_item_44 : decode cX11_item 44 = .ok (.aaload, 1) := by decide +kernel
theorem dX11_item_45 : decode cX11_item 45 = .ok (.iload_n 2, 1) := by decide +kernel
theorem dX11_item_46 : decode cX11_item 46 = .ok (.aload_n 0, 1) := by decide +kernel
theorem dX11_item_47 : decode cX11_item 47 = .ok (.getfield 70, 3) := by decide +kernel
theorem dX11_item_50 : decode cX11_item 50 = .ok (.iload_n 1, 1) := by decide +kernel
theorem dX11_item_51 : decode cX11_item 51 = .ok (.iaload, 1) := by decide +kernel
theorem dX11_item_52 : decode cX11_item 52 = .ok (.lload_n 3, 1) := by decide +kernel
theorem dX11_item_53 : decode cX11_item 53 = .ok (.invokestatic 320, 3) := by decide +kernel
theorem dX11_item_56 : decode cX11_item 56 = .ok (.lastore, 1) := by decide +kernel
theorem dX11_item_57 : decode cX11_item 57 = .ok (.iconst 1, 1) := by decide +kernel
theorem dX11_item_58 : decode cX11_item 58 = .ok (.ireturn, 1) := by decide +kernel
theorem dX11_read_0 : decode cX11_read 0 = .ok (.iload_n 1, 1) := by decide +kernel
theorem dX11_read_1 : decode cX11_read 1 = .ok (.invokestatic 273, 3) := by decide +kernel
theorem dX11_read_4 : decode cX11_read 4 = .ok (.ifCond .eq 17, 3) := by decide +kernel
theorem dX11_read_7 : decode cX11_read 7 = .ok (.iload_n 2, 1) := by decide +kernel
theorem dX11_read_8 : decode cX11_read 8 = .ok (.ifCond .lt 13, 3) := by decide +kernel
theorem dX11_read_11 : decode cX11_read 11 = .ok (.iload_n 2, 1) := by decide +kernel
theorem dX11_read_12 : decode cX11_read 12 = .ok (.aload_n 0, 1) := by decide +kernel
theorem dX11_read_13 : decode cX11_read 13 = .ok (.getfield 80, 3) := by decide +kernel
theorem dX11_read_16 : decode cX11_read 16 = .ok (.iload_n 1, 1) := by decide +kernel
theorem dX11_read_17 : decode cX11_read 17 = .ok (.iaload, 1) := by decide +kernel
theorem dX11_read_18 : decode cX11_read 18 = .ok (.if_icmp .lt 7, 3) := by decide +kernel
theorem dX11_read_21 : decode cX11_read 21 = .ok (.ldc2_w 255, 3) := by decide +kernel
theorem dX11_read_24 : decode cX11_read 24 = .ok (.lreturn, 1) := by decide +kernel
theorem dX11_read_25 : decode cX11_read 25 = .ok (.aload_n 0, 1) := by decide +kernel
theorem dX11_read_26 : decode cX11_read 26 = .ok (.getfield 67, 3) := by decide +kernel
theorem dX11_read_29 : decode cX11_read 29 = .ok (.iload_n 1, 1) := by decide +kernel
theorem dX11_read_30 : decode cX11_read 30 = .ok (.aaload, 1) := by decide +kernel
theorem dX11_read_31 : decode cX11_read 31 = .ok (.iload_n 2, 1) := by decide +kernel
theorem dX11_read_32 : decode cX11_read 32 = .ok (.laload, 1) := by decide +kernel
theorem dX11_read_33 : decode cX11_read 33 = .ok (.lreturn, 1) := by decide +kernel
theorem dX11_shift_0 : decode cX11_shift 0 = .ok (.iload_n 1, 1) := by decide +kernel
theorem dX11_shift_1 : decode cX11_shift 1 = .ok (.invokestatic 273, 3) := by decide +kernel
theorem dX11_shift_4 : decode cX11_shift 4 = .ok (.ifCond .eq 10, 3) := by decide +kernel
theorem dX11_shift_7 : decode cX11_shift 7 = .ok (.iload_n 3, 1) := by decide +kernel
theorem dX11_shift_8 : decode cX11_shift 8 = .ok (.invokestatic 273, 3) := by decide +kernel
theorem dX11_shift_11 : decode cX11_shift 11 = .ok (.ifCond .ne 5, 3) := by decide +kernel
theorem dX11_shift_14 : decode cX11_shift 14 = .ok (.iconst (-1), 1) := by decide +kernel
theorem dX11_shift_15 : decode cX11_shift 15 = .ok (.ireturn, 1) := by decide +kernel
theorem dX11_shift_16 : decode cX11_shift 16 = .ok (.aload_n 0, 1) := by decide +kernel
theorem dX11_shift_17 : decode cX11_shift 17 = .ok (.getfield 70, 3) := by decide +kernel
theorem dX11_shift_20 : decode cX11_shift 20 = .ok (.iload_n 1, 1) := by decide +kernel
theorem dX11_shift_21 : decode cX11_shift 21 = .ok (.iaload, 1) := by decide +kernel
theorem dX11_shift_22 : decode cX11_shift 22 = .ok (.iconst (-1), 1) := by decide +kernel
theorem dX11_shift_23 : decode cX11_shift 23 = .ok (.if_icmp .eq 13, 3) := by decide +kernel
theorem dX11_shift_26 : decode cX11_shift 26 = .ok (.aload_n 0, 1) := by decide +kernel
theorem dX11_shift_27 : decode cX11_shift 27 = .ok (.getfield 70, 3) := by decide +kernel
theorem dX11_shift_30 : decode cX11_shift 30 = .ok (.iload_n 3, 1) := by decide +kernel
theorem dX11_shift_31 : decode cX11_shift 31 = .ok (.iaload, 1) := by decide +kernel
theorem dX11_shift_32 : decode cX11_shift 32 = .ok (.iconst (-1), 1) := by decide +kernel
theorem dX11_shift_33 : decode cX11_shift 33 = .ok (.if_icmp .ne 6, 3) := by decide +kernel
theorem dX11_shift_36 : decode cX11_shift 36 = .ok (.bipush (-11), 2) := by decide +kernel
theorem dX11_shift_38 : decode cX11_shift 38 = .ok (.ireturn, 1) := by decide +kernel
theorem dX11_shift_39 : decode cX11_shift 39 = .ok (.aload_n 0, 1) := by decide +kernel
theorem dX11_shift_40 : decode cX11_shift 40 = .ok (.getfield 70, 3) := by decide +kernel
theorem dX11_shift_43 : decode cX11_shift 43 = .ok (.iload_n 1, 1) := by decide +kernel
theorem dX11_shift_44 : decode cX11_shift 44 = .ok (.iaload, 1) := by decide +kernel
theorem dX11_shift_45 : decode cX11_shift 45 = .ok (.aload_n 0, 1) := by decide +kernel
theorem dX11_shift_46 : decode cX11_shift 46 = .ok (.getfield 70, 3) := by decide +kernel
theorem dX11_shift_49 : decode cX11_shift 49 = .ok (.iload_n 3, 1) := by decide +kernel
theorem dX11_shift_50 : decode cX11_shift 50 = .ok (.iaload, 1) := by decide +kernel
theorem dX11_shift_51 : decode cX11_shift 51 = .ok (.if_icmp .eq 6, 3) := by decide +kernel
theorem dX11_shift_54 : decode cX11_shift 54 = .ok (.bipush (-12), 2) := by decide +kernel
theorem dX11_shift_56 : decode cX11_shift 56 = .ok (.ireturn, 1) := by decide +kernel
theorem dX11_shift_57 : decode cX11_shift 57 = .ok (.iload 5, 2) := by decide +kernel
theorem dX11_shift_59 : decode cX11_shift 59 = .ok (.ifCond .lt 39, 3) := by decide +kernel
theorem dX11_shift_62 : decode cX11_shift 62 = .ok (.iload_n 2, 1) := by decide +kernel
theorem dX11_shift_63 : decode cX11_shift 63 = .ok (.ifCond .lt 35, 3) := by decide +kernel
theorem dX11_shift_66 : decode cX11_shift 66 = .ok (.iload 4, 2) := by decide +kernel
theorem dX11_shift_68 : decode cX11_shift 68 = .ok (.ifCond .lt 30, 3) := by decide +kernel
theorem dX11_shift_71 : decode cX11_shift 71 = .ok (.iload_n 2, 1) := by decide +kernel
theorem dX11_shift_72 : decode cX11_shift 72 = .ok (.aload_n 0, 1) := by decide +kernel
theorem dX11_shift_73 : decode cX11_shift 73 = .ok (.getfield 80, 3) := by decide +kernel
theorem dX11_shift_76 : decode cX11_shift 76 = .ok (.iload_n 1, 1) := by decide +kernel
theorem dX11_shift_77 : decode cX11_shift 77 = .ok (.iaload, 1) := by decide +kernel
theorem dX11_shift_78 : decode cX11_shift 78 = .ok (.iload 5, 2) := by decide +kernel
theorem dX11_shift_80 : decode cX11_shift 80 = .ok (.isub, 1) := by decide +kernel
theorem dX11_shift_81 : decode cX11_shift 81 = .ok (.if_icmp .gt 17, 3) := by decide +kernel
theorem dX11_shift_84 : decode cX11_shift 84 = .ok (.iload 4, 2) := by decide +kernel
theorem dX11_shift_86 : decode cX11_shift 86 = .ok (.aload_n 0, 1) := by decide +kernel
theorem dX11_shift_87 : decode cX11_shift 87 = .ok (.getfield 80, 3) := by decide +kernel
theorem dX11_shift_90 : decode cX11_shift 90 = .ok (.iload_n 3, 1) := by decide +kernel
theorem dX11_shift_91 : decode cX11_shift 91 = .ok (.iaload, 1) := by decide +kernel
theorem dX11_shift_92 : decode cX11_shift 92 = .ok (.iload 5, 2) := by decide +kernel
theorem dX11_shift_94 : decode cX11_shift 94 = .ok (.isub, 1) := by decide +kernel
theorem dX11_shift_95 : decode cX11_shift 95 = .ok (.if_icmp .le 6, 3) := by decide +kernel
theorem dX11_shift_98 : decode cX11_shift 98 = .ok (.bipush (-13), 2) := by decide +kernel
theorem dX11_shift_100 : decode cX11_shift 100 = .ok (.ireturn, 1) := by decide +kernel
theorem dX11_shift_101 : decode cX11_shift 101 = .ok (.aload_n 0, 1) := by decide +kernel
theorem dX11_shift_102 : decode cX11_shift 102 = .ok (.getfield 67, 3) := by decide +kernel
theorem dX11_shift_105 : decode cX11_shift 105 = .ok (.iload_n 1, 1) := by decide +kernel
theorem dX11_shift_106 : decode cX11_shift 106 = .ok (.aaload, 1) := by decide +kernel
theorem dX11_shift_107 : decode cX11_shift 107 = .ok (.iload_n 2, 1) := by decide +kernel
theorem dX11_shift_108 : decode cX11_shift 108 = .ok (.aload_n 0, 1) := by decide +kernel
theorem dX11_shift_109 : decode cX11_shift 109 = .ok (.getfield 67, 3) := by decide +kernel
theorem dX11_shift_112 : decode cX11_shift 112 = .ok (.iload_n 3, 1) := by decide +kernel
theorem dX11_shift_113 : decode cX11_shift 113 = .ok (.aaload, 1) := by decide +kernel
theorem dX11_shift_114 : decode cX11_shift 114 = .ok (.iload 4, 2) := by decide +kernel
theorem dX11_shift_116 : decode cX11_shift 116 = .ok (.iload 5, 2) := by decide +kernel
theorem dX11_shift_118 : decode cX11_shift 118 = .ok (.invokestatic 324, 3) := by decide +kernel
theorem dX11_shift_121 : decode cX11_shift 121 = .ok (.iload 5, 2) := by decide +kernel
theorem dX11_shift_123 : decode cX11_shift 123 = .ok (.ireturn, 1) := by decide +kernel
theorem dX11_isTape_0 : decode cX11_isTape 0 = .ok (.iload_n 0, 1) := by decide +kernel
theorem dX11_isTape_1 : decode cX11_isTape 1 = .ok (.ifCond .lt 13, 3) := by decide +kernel
theorem dX11_isTape_4 : decode cX11_isTape 4 = .ok (.iload_n 0, 1) := by decide +kernel
theorem dX11_isTape_5 : decode cX11_isTape 5 = .ok (.bipush 6, 2) := by decide +kernel
theorem dX11_isTape_7 : decode cX11_isTape 7 = .ok (.if_icmp .ge 7, 3) := by decide +kernel
theorem dX11_isTape_10 : decode cX11_isTape 10 = .ok (.iconst 1, 1) := by decide +kernel
theorem dX11_isTape_11 : decode cX11_isTape 11 = .ok (.goto 4, 3) := by decide +kernel
theorem dX11_isTape_14 : decode cX11_isTape 14 = .ok (.iconst 0, 1) := by decide +kernel
theorem dX11_isTape_15 : decode cX11_isTape 15 = .ok (.ireturn, 1) := by decide +kernel
theorem dX11_asItem_0 : decode cX11_asItem 0 = .ok (.iload_n 0, 1) := by decide +kernel
theorem dX11_asItem_1 : decode cX11_asItem 1 = .ok (.tableswitch 61 0 4 #[35, 40, 45, 61, 49], 35) := by decide +kernel
theorem dX11_asItem_36 : decode cX11_asItem 36 = .ok (.lload_n 1, 1) := by decide +kernel
theorem dX11_asItem_37 : decode cX11_asItem 37 = .ok (.l2i, 1) := by decide +kernel
theorem dX11_asItem_38 : decode cX11_asItem 38 = .ok (.i2b, 1) := by decide +kernel
theorem dX11_asItem_39 : decode cX11_asItem 39 = .ok (.i2l, 1) := by decide +kernel
theorem dX11_asItem_40 : decode cX11_asItem 40 = .ok (.lreturn, 1) := by decide +kernel
theorem dX11_asItem_41 : decode cX11_asItem 41 = .ok (.lload_n 1, 1) := by decide +kernel
theorem dX11_asItem_42 : decode cX11_asItem 42 = .ok (.l2i, 1) := by decide +kernel
theorem dX11_asItem_43 : decode cX11_asItem 43 = .ok (.i2s, 1) := by decide +kernel
theorem dX11_asItem_44 : decode cX11_asItem 44 = .ok (.i2l, 1) := by decide +kernel
theorem dX11_asItem_45 : decode cX11_asItem 45 = .ok (.lreturn, 1) := by decide +kernel
theorem dX11_asItem_46 : decode cX11_asItem 46 = .ok (.lload_n 1, 1) := by decide +kernel
theorem dX11_asItem_47 : decode cX11_asItem 47 = .ok (.l2i, 1) := by decide +kernel
theorem dX11_asItem_48 : decode cX11_asItem 48 = .ok (.i2l, 1) := by decide +kernel
theorem dX11_asItem_49 : decode cX11_asItem 49 = .ok (.lreturn, 1) := by decide +kernel
theorem dX11_asItem_50 : decode cX11_asItem 50 = .ok (.lload_n 1, 1) := by decide +kernel
theorem dX11_asItem_51 : decode cX11_asItem 51 = .ok (.lconst 0, 1) := by decide +kernel
theorem dX11_asItem_52 : decode cX11_asItem 52 = .ok (.lcmp, 1) := by decide +kernel
theorem dX11_asItem_53 : decode cX11_asItem 53 = .ok (.ifCond .eq 7, 3) := by decide +kernel
theorem dX11_asItem_56 : decode cX11_asItem 56 = .ok (.lconst 1, 1) := by decide +kernel
theorem dX11_asItem_57 : decode cX11_asItem 57 = .ok (.goto 4, 3) := by decide +kernel
theorem dX11_asItem_60 : decode cX11_asItem 60 = .ok (.lconst 0, 1) := by decide +kernel
theorem dX11_asItem_61 : decode cX11_asItem 61 = .ok (.lreturn, 1) := by decide +kernel
theorem dX11_asItem_62 : decode cX11_asItem 62 = .ok (.lload_n 1, 1) := by decide +kernel
theorem dX11_asItem_63 : decode cX11_asItem 63 = .ok (.lreturn, 1) := by decide +kernel
theorem dX12_init_0 : decode cX12_init 0 = .ok (.aload_n 0, 1) := by decide +kernel
theorem dX12_init_1 : decode cX12_init 1 = .ok (.invokespecial 1, 3) := by decide +kernel
theorem dX12_init_4 : decode cX12_init 4 = .ok (.aload_n 0, 1) := by decide +kernel
theorem dX12_init_5 : decode cX12_init 5 = .ok (.iconst 0, 1) := by decide +kernel
theorem dX12_init_6 : decode cX12_init 6 = .ok (.putfield 7, 3) := by decide +kernel
theorem dX12_init_9 : decode cX12_init 9 = .ok (.aload_n 0, 1) := by decide +kernel
theorem dX12_init_10 : decode cX12_init 10 = .ok (.iconst 0, 1) := by decide +kernel
theorem dX12_init_11 : decode cX12_init 11 = .ok (.putfield 13, 3) := by decide +kernel
theorem dX12_init_14 : decode cX12_init 14 = .ok (.aload_n 0, 1) := by decide +kernel
theorem dX12_init_15 : decode cX12_init 15 = .ok (.iconst 0, 1) := by decide +kernel
theorem dX12_init_16 : decode cX12_init 16 = .ok (.putfield 16, 3) := by decide +kernel
theorem dX12_init_19 : decode cX12_init 19 = .ok (.aload_n 0, 1) := by decide +kernel
theorem dX12_init_20 : decode cX12_init 20 = .ok (.bipush 6, 2) := by decide +kernel
theorem dX12_init_22 : decode cX12_init 22 = .ok (.newarray .int, 2) := by decide +kernel
theorem dX12_init_24 : decode cX12_init 24 = .ok (.putfield 19, 3) := by decide +kernel
theorem dX12_init_27 : decode cX12_init 27 = .ok (.aload_n 0, 1) := by decide +kernel
theorem dX12_init_28 : decode cX12_init 28 = .ok (.bipush 6, 2) := by decide +kernel
theorem dX12_init_30 : decode cX12_init 30 = .ok (.newarray .int, 2) := by decide +kernel
theorem dX12_init_32 : decode cX12_init 32 = .ok (.putfield 23, 3) := by decide +kernel
theorem dX12_init_35 : decode cX12_init 35 = .ok (.aload_n 0, 1) := by decide +kernel
theorem dX12_init_36 : decode cX12_init 36 = .ok (.bipush 6, 2) := by decide +kernel
theorem dX12_init_38 : decode cX12_init 38 = .ok (.newarray .int, 2) := by decide +kernel
theorem dX12_init_40 : decode cX12_init 40 = .ok (.putfield 26, 3) := by decide +kernel
theorem dX12_init_43 : decode cX12_init 43 = .ok (.aload_n 0, 1) := by decide +kernel
theorem dX12_init_44 : decode cX12_init 44 = .ok (.bipush 6, 2) := by decide +kernel
theorem dX12_init_46 : decode cX12_init 46 = .ok (.newarray .int, 2) := by decide +kernel
theorem dX12_init_48 : decode cX12_init 48 = .ok (.putfield 29, 3) := by decide +kernel
theorem dX12_init_51 : decode cX12_init 51 = .ok (.aload_n 0, 1) := by decide +kernel
theorem dX12_init_52 : decode cX12_init 52 = .ok (.bipush 24, 2) := by decide +kernel
theorem dX12_init_54 : decode cX12_init 54 = .ok (.newarray .int, 2) := by decide +kernel
theorem dX12_init_56 : decode cX12_init 56 = .ok (.putfield 32, 3) := by decide +kernel
theorem dX12_init_59 : decode cX12_init 59 = .ok (.aload_n 0, 1) := by decide +kernel
theorem dX12_init_60 : decode cX12_init 60 = .ok (.iconst 0, 1) := by decide +kernel
theorem dX12_init_61 : decode cX12_init 61 = .ok (.putfield 35, 3) := by decide +kernel
theorem dX12_init_64 : decode cX12_init 64 = .ok (.aload_n 0, 1) := by decide +kernel
theorem dX12_init_65 : decode cX12_init 65 = .ok (.iconst (-1), 1) := by decide +kernel
theorem dX12_init_66 : decode cX12_init 66 = .ok (.putfield 38, 3) := by decide +kernel
theorem dX12_init_69 : decode cX12_init 69 = .ok (.aload_n 0, 1) := by decide +kernel
theorem dX12_init_70 : decode cX12_init 70 = .ok (.iconst 0, 1) := by decide +kernel
theorem dX12_init_71 : decode cX12_init 71 = .ok (.putfield 41, 3) := by decide +kernel
theorem dX12_init_74 : decode cX12_init 74 = .ok (.aload_n 0, 1) := by decide +kernel
theorem dX12_init_75 : decode cX12_init 75 = .ok (.iconst 0, 1) := by decide +kernel
theorem dX12_init_76 : decode cX12_init 76 = .ok (.putfield 44, 3) := by decide +kernel
theorem dX12_init_79 : decode cX12_init 79 = .ok (.aload_n 0, 1) := by decide +kernel
theorem dX12_init_80 : decode cX12_init 80 = .ok (.iconst 0, 1) := by decide +kernel
theorem dX12_init_81 : decode cX12_init 81 = .ok (.putfield 47, 3) := by decide +kernel
theorem dX12_init_84 : decode cX12_init 84 = .ok (.aload_n 0, 1) := by decide +kernel
theorem dX12_init_85 : decode cX12_init 85 = .ok (.bipush 100, 2) := by decide +kernel
theorem dX12_init_87 : decode cX12_init 87 = .ok (.newarray .int, 2) := by decide +kernel
theorem dX12_init_89 : decode cX12_init 89 = .ok (.putfield 50, 3) := by decide +kernel
theorem dX12_init_92 : decode cX12_init 92 = .ok (.aload_n 0, 1) := by decide +kernel
theorem dX12_init_93 : decode cX12_init 93 = .ok (.bipush 6, 2) := by decide +kernel
theorem dX12_init_95 : decode cX12_init 95 = .ok (.newarray .int, 2) := by decide +kernel
theorem dX12_init_97 : decode cX12_init 97 = .ok (.putfield 53, 3) := by decide +kernel
theorem dX12_init_100 : decode cX12_init 100 = .ok (.aload_n 0, 1) := by decide +kernel
theorem dX12_init_101 : decode cX12_init 101 = .ok (.bipush 60, 2) := by decide +kernel
theorem dX12_init_103 : decode cX12_init 103 = .ok (.newarray .int, 2) := by decide +kernel
theorem dX12_init_105 : decode cX12_init 105 = .ok (.putfield 56, 3) := by decide +kernel
theorem dX12_init_108 : decode cX12_init 108 = .ok (.aload_n 0, 1) := by decide +kernel
theorem dX12_init_109 : decode cX12_init 109 = .ok (.bipush 60, 2) := by decide +kernel
theorem dX12_init_111 : decode cX12_init 111 = .ok (.newarray .int, 2) := by decide +kernel
theorem dX12_init_113 : decode cX12_init 113 = .ok (.putfield 59, 3) := by decide +kernel
theorem dX12_init_116 : decode cX12_init 116 = .ok (.aload_n 0, 1) := by decide +kernel
theorem dX12_init_117 : decode cX12_init 117 = .ok (.bipush 60, 2) := by decide +kernel
theorem dX12_init_119 : decode cX12_init 119 = .ok (.newarray .int, 2) := by decide +kernel
theorem dX12_init_121 : decode cX12_init 121 = .ok (.putfield 62, 3) := by decide +kernel
theorem dX12_init_124 : decode cX12_init 124 = .ok (.aload_n 0, 1) := by decide +kernel
theorem dX12_init_125 : decode cX12_init 125 = .ok (.bipush 60, 2) := by decide +kernel
theorem dX12_init_127 : decode cX12_init 127 = .ok (.newarray .int, 2) := by decide +kernel
theorem dX12_init_129 : decode cX12_init 129 = .ok (.putfield 65, 3) := by decide +kernel
theorem dX12_init_132 : decode cX12_init 132 = .ok (.aload_n 0, 1) := by decide +kernel
theorem dX12_init_133 : decode cX12_init 133 = .ok (.sipush 600, 3) := by decide +kernel
theorem dX12_init_136 : decode cX12_init 136 = .ok (.newarray .int, 2) := by decide +kernel
theorem dX12_init_138 : decode cX12_init 138 = .ok (.putfield 68, 3) := by decide +kernel
theorem dX12_init_141 : decode cX12_init 141 = .ok (.aload_n 0, 1) := by decide +kernel
theorem dX12_init_142 : decode cX12_init 142 = .ok (.bipush 101, 2) := by decide +kernel
theorem dX12_init_144 : decode cX12_init 144 = .ok (.newarray .int, 2) := by decide +kernel
theorem dX12_init_146 : decode cX12_init 146 = .ok (.putfield 71, 3) := by decide +kernel
theorem dX12_init_149 : decode cX12_init 149 = .ok (.aload_n 0, 1) := by decide +kernel
theorem dX12_init_150 : decode cX12_init 150 = .ok (.iconst 0, 1) := by decide +kernel
theorem dX12_init_151 : decode cX12_init 151 = .ok (.putfield 74, 3) := by decide +kernel
theorem dX12_init_154 : decode cX12_init 154 = .ok (.aload_n 0, 1) := by decide +kernel
theorem dX12_init_155 : decode cX12_init 155 = .ok (.iconst 0, 1) := by decide +kernel
theorem dX12_init_156 : decode cX12_init 156 = .ok (.putfield 77, 3) := by decide +kernel
theorem dX12_init_159 : decode cX12_init 159 = .ok (.aload_n 0, 1) := by decide +kernel
theorem dX12_init_160 : decode cX12_init 160 = .ok (.iconst 0, 1) := by decide +kernel
theorem dX12_init_161 : decode cX12_init 161 = .ok (.putfield 80, 3) := by decide +kernel
theorem dX12_init_164 : decode cX12_init 164 = .ok (.aload_n 0, 1) := by decide +kernel
theorem dX12_init_165 : decode cX12_init 165 = .ok (.bipush 12, 2) := by decide +kernel
theorem dX12_init_167 : decode cX12_init 167 = .ok (.newarray .int, 2) := by decide +kernel
theorem dX12_init_169 : decode cX12_init 169 = .ok (.dup, 1) := by decide +kernel
theorem dX12_init_170 : decode cX12_init 170 = .ok (.iconst 0, 1) := by decide +kernel
theorem dX12_init_171 : decode cX12_init 171 = .ok (.bipush 115, 2) := by decide +kernel
theorem dX12_init_173 : decode cX12_init 173 = .ok (.iastore, 1) := by decide +kernel
theorem dX12_init_174 : decode cX12_init 174 = .ok (.dup, 1) := by decide +kernel
theorem dX12_init_175 : decode cX12_init 175 = .ok (.iconst 1, 1) := by decide +kernel
theorem dX12_init_176 : decode cX12_init 176 = .ok (.bipush 117, 2) := by decide +kernel
theorem dX12_init_178 : decode cX12_init 178 = .ok (.iastore, 1) := by decide +kernel
theorem dX12_init_179 : decode cX12_init 179 = .ok (.dup, 1) := by decide +kernel
theorem dX12_init_180 : decode cX12_init 180 = .ok (.iconst 2, 1) := by decide +kernel
theorem dX12_init_181 : decode cX12_init 181 = .ok (.bipush 110, 2) := by decide +kernel
theorem dX12_init_183 : decode cX12_init 183 = .ok (.iastore, 1) := by decide +kernel
theorem dX12_init_184 : decode cX12_init 184 = .ok (.dup, 1) := by decide +kernel
theorem dX12_init_185 : decode cX12_init 185 = .ok (.iconst 3, 1) := by decide +kernel
theorem dX12_init_186 : decode cX12_init 186 = .ok (.bipush 115, 2) := by decide +kernel
theorem dX12_init_188 : decode cX12_init 188 = .ok (.iastore, 1) := by decide +kernel
theorem dX12_init_189 : decode cX12_init 189 = .ok (.dup, 1) := by decide +kernel
theorem dX12_init_190 : decode cX12_init 190 = .ok (.iconst 4, 1) := by decide +kernel
theorem dX12_init_191 : decode cX12_init 191 = .ok (.bipush 104, 2) := by decide +kernel
theorem dX12_init_193 : decode cX12_init 193 = .ok (.iastore, 1) := by decide +kernel
theorem dX12_init_194 : decode cX12_init 194 = .ok (.dup, 1) := by decide +kernel
theorem dX12_init_195 : decode cX12_init 195 = .ok (.iconst 5, 1) := by decide +kernel
theorem dX12_init_196 : decode cX12_init 196 = .ok (.bipush 97, 2) := by decide +kernel
theorem dX12_init_198 : decode cX12_init 198 = .ok (.iastore, 1) := by decide +kernel
theorem dX12_init_199 : decode cX12_init 199 = .ok (.dup, 1) := by decide +kernel
theorem dX12_init_200 : decode cX12_init 200 = .ok (.bipush 6, 2) := by decide +kernel
theorem dX12_init_202 : decode cX12_init 202 = .ok (.bipush 100, 2) := by decide +kernel
theorem dX12_init_204 : decode cX12_init 204 = .ok (.iastore, 1) := by decide +kernel
theorem dX12_init_205 : decode cX12_init 205 = .ok (.dup, 1) := by decide +kernel
theorem dX12_init_206 : decode cX12_init 206 = .ok (.bipush 7, 2) := by decide +kernel
theorem dX12_init_208 : decode cX12_init 208 = .ok (.bipush 101, 2) := by decide +kernel
theorem dX12_init_210 : decode cX12_init 210 = .ok (.iastore, 1) := by decide +kernel
theorem dX12_init_211 : decode cX12_init 211 = .ok (.dup, 1) := by decide +kernel
theorem dX12_init_212 : decode cX12_init 212 = .ok (.bipush 8, 2) := by decide +kernel
theorem dX12_init_214 : decode cX12_init 214 = .ok (.bipush 114, 2) := by decide +kernel
theorem dX12_init_216 : decode cX12_init 216 = .ok (.iastore, 1) := by decide +kernel
theorem dX12_init_217 : decode cX12_init 217 = .ok (.dup, 1) := by decide +kernel
theorem dX12_init_218 : decode cX12_init 218 = .ok (.bipush 9, 2) := by decide +kernel
theorem dX12_init_220 : decode cX12_init 220 = .ok (.bipush 105, 2) := by decide +kernel
theorem dX12_init_222 : decode cX12_init 222 = .ok (.iastore, 1) := by decide +kernel
theorem dX12_init_223 : decode cX12_init 223 = .ok (.dup, 1) := by decide +kernel
theorem dX12_init_224 : decode cX12_init 224 = .ok (.bipush 10, 2) := by decide +kernel
theorem dX12_init_226 : decode cX12_init 226 = .ok (.bipush 112, 2) := by decide +kernel
theorem dX12_init_228 : decode cX12_init 228 = .ok (.iastore, 1) := by decide +kernel
theorem dX12_init_229 : decode cX12_init 229 = .ok (.dup, 1) := by decide +kernel
theorem dX12_init_230 : decode cX12_init 230 = .ok (.bipush 11, 2) := by decide +kernel
theorem dX12_init_232 : decode cX12_init 232 = .ok (.bipush 101, 2) := by decide +kernel
theorem dX12_init_234 : decode cX12_init 234 = .ok (.iastore, 1) := by decide +kernel
theorem dX12_init_235 : decode cX12_init 235 = .ok (.putfield 83, 3) := by decide +kernel
theorem dX12_init_238 : decode cX12_init 238 = .ok (.aload_n 0, 1) := by decide +kernel
theorem dX12_init_239 : decode cX12_init 239 = .ok (.bipush 100, 2) := by decide +kernel
theorem dX12_init_241 : decode cX12_init 241 = .ok (.newarray .boolean, 2) := by decide +kernel
theorem dX12_init_243 : decode cX12_init 243 = .ok (.putfield 86, 3) := by decide +kernel
theorem dX12_init_246 : decode cX12_init 246 = .ok (.aload_n 0, 1) := by decide +kernel
theorem dX12_init_247 : decode cX12_init 247 = .ok (.bipush 6, 2) := by decide +kernel
theorem dX12_init_249 : decode cX12_init 249 = .ok (.newarray .int, 2) := by decide +kernel
theorem dX12_init_251 : decode cX12_init 251 = .ok (.putfield 90, 3) := by decide +kernel
theorem dX12_init_254 : decode cX12_init 254 = .ok (.aload_n 0, 1) := by decide +kernel
theorem dX12_init_255 : decode cX12_init 255 = .ok (.sipush 9999, 3) := by decide +kernel
theorem dX12_init_258 : decode cX12_init 258 = .ok (.putfield 93, 3) := by decide +kernel
theorem dX12_init_261 : decode cX12_init 261 = .ok (.aload_n 0, 1) := by decide +kernel
theorem dX12_init_262 : decode cX12_init 262 = .ok (.iconst 0, 1) := by decide +kernel
theorem dX12_init_263 : decode cX12_init 263 = .ok (.putfield 96, 3) := by decide +kernel
theorem dX12_init_266 : decode cX12_init 266 = .ok (.aload_n 0, 1) := by decide +kernel
theorem dX12_init_267 : decode cX12_init 267 = .ok (.iconst 0, 1) := by decide +kernel
theorem dX12_init_268 : decode cX12_init 268 = .ok (.putfield 99, 3) := by decide +kernel
theorem dX12_init_271 : decode cX12_init 271 = .ok (.aload_n 0, 1) := by decide +kernel
theorem dX12_init_272 : decode cX12_init 272 = .ok (.bipush 6, 2) := by decide +kernel
theorem dX12_init_274 : decode cX12_init 274 = .ok (.newarray .int, 2) := by decide +kernel
theorem dX12_init_276 : decode cX12_init 276 = .ok (.putfield 102, 3) := by decide +kernel
theorem dX12_init_279 : decode cX12_init 279 = .ok (.aload_n 0, 1) := by decide +kernel
theorem dX12_init_280 : decode cX12_init 280 = .ok (.bipush 6, 2) := by decide +kernel
theorem dX12_init_282 : decode cX12_init 282 = .ok (.newarray .int, 2) := by decide +kernel
theorem dX12_init_284 : decode cX12_init 284 = .ok (.putfield 105, 3) := by decide +kernel
theorem dX12_init_287 : decode cX12_init 287 = .ok (.aload_n 0, 1) := by decide +kernel
theorem dX12_init_288 : decode cX12_init 288 = .ok (.iconst 0, 1) := by decide +kernel
theorem dX12_init_289 : decode cX12_init 289 = .ok (.putfield 108, 3) := by decide +kernel
theorem dX12_init_292 : decode cX12_init 292 = .ok (.aload_n 0, 1) := by decide +kernel
theorem dX12_init_293 : decode cX12_init 293 = .ok (.bipush 6, 2) := by decide +kernel
theorem dX12_init_295 : decode cX12_init 295 = .ok (.newarray .int, 2) := by decide +kernel
theorem dX12_init_297 : decode cX12_init 297 = .ok (.putfield 111, 3) := by decide +kernel
theorem dX12_init_300 : decode cX12_init 300 = .ok (.aload_n 0, 1) := by decide +kernel
theorem dX12_init_301 : decode cX12_init 301 = .ok (.bipush 6, 2) := by decide +kernel
theorem dX12_init_303 : decode cX12_init 303 = .ok (.newarray .int, 2) := by decide +kernel
theorem dX12_init_305 : decode cX12_init 305 = .ok (.putfield 114, 3) := by decide +kernel
theorem dX12_init_308 : decode cX12_init 308 = .ok (.aload_n 0, 1) := by decide +kernel
theorem dX12_init_309 : decode cX12_init 309 = .ok (.bipush 6, 2) := by decide +kernel
theorem dX12_init_311 : decode cX12_init 311 = .ok (.newarray .int, 2) := by decide +kernel
theorem dX12_init_313 : decode cX12_init 313 = .ok (.putfield 117, 3) := by decide +kernel
theorem dX12_init_316 : decode cX12_init 316 = .ok (.aload_n 0, 1) := by decide +kernel
theorem dX12_init_317 : decode cX12_init 317 = .ok (.iconst 0, 1) := by decide +kernel
theorem dX12_init_318 : decode cX12_init 318 = .ok (.putfield 120, 3) := by decide +kernel
theorem dX12_init_321 : decode cX12_init 321 = .ok (.aload_n 0, 1) := by decide +kernel
theorem dX12_init_322 : decode cX12_init 322 = .ok (.iconst 5, 1) := by decide +kernel
theorem dX12_init_323 : decode cX12_init 323 = .ok (.newarray .int, 2) := by decide +kernel
theorem dX12_init_325 : decode cX12_init 325 = .ok (.putfield 123, 3) := by decide +kernel
theorem dX12_init_328 : decode cX12_init 328 = .ok (.aload_n 0, 1) := by decide +kernel
theorem dX12_init_329 : decode cX12_init 329 = .ok (.iconst 5, 1) := by decide +kernel
theorem dX12_init_330 : decode cX12_init 330 = .ok (.newarray .int, 2) := by decide +kernel
theorem dX12_init_332 : decode cX12_init 332 = .ok (.putfield 126, 3) := by decide +kernel
theorem dX12_init_335 : decode cX12_init 335 = .ok (.aload_n 0, 1) := by decide +kernel
theorem dX12_init_336 : decode cX12_init 336 = .ok (.iconst 0, 1) := by decide +kernel
theorem dX12_init_337 : decode cX12_init 337 = .ok (.putfield 129, 3) := by decide +kernel
theorem dX12_init_340 : decode cX12_init 340 = .ok (.aload_n 0, 1) := by decide +kernel
theorem dX12_init_341 : decode cX12_init 341 = .ok (.iconst 0, 1) := by decide +kernel
theorem dX12_init_342 : decode cX12_init 342 = .ok (.putfield 132, 3) := by decide +kernel
theorem dX12_init_345 : decode cX12_init 345 = .ok (.aload_n 0, 1) := by decide +kernel
theorem dX12_init_346 : decode cX12_init 346 = .ok (.bipush 10, 2) := by decide +kernel
theorem dX12_init_348 : decode cX12_init 348 = .ok (.newarray .int, 2) := by decide +kernel
theorem dX12_init_350 : decode cX12_init 350 = .ok (.putfield 135, 3) := by decide +kernel
theorem dX12_init_353 : decode cX12_init 353 = .ok (.aload_n 0, 1) := by decide +kernel
theorem dX12_init_354 : decode cX12_init 354 = .ok (.bipush 10, 2) := by decide +kernel
theorem dX12_init_356 : decode cX12_init 356 = .ok (.newarray .int, 2) := by decide +kernel
theorem dX12_init_358 : decode cX12_init 358 = .ok (.putfield 138, 3) := by decide +kernel
theorem dX12_init_361 : decode cX12_init 361 = .ok (.aload_n 0, 1) := by decide +kernel
theorem dX12_init_362 : decode cX12_init 362 = .ok (.bipush 8, 2) := by decide +kernel
theorem dX12_init_364 : decode cX12_init 364 = .ok (.newarray .int, 2) := by decide +kernel
theorem dX12_init_366 : decode cX12_init 366 = .ok (.putfield 141, 3) := by decide +kernel
theorem dX12_init_369 : decode cX12_init 369 = .ok (.aload_n 0, 1) := by decide +kernel
theorem dX12_init_370 : decode cX12_init 370 = .ok (.bipush 8, 2) := by decide +kernel
theorem dX12_init_372 : decode cX12_init 372 = .ok (.newarray .int, 2) := by decide +kernel
theorem dX12_init_374 : decode cX12_init 374 = .ok (.putfield 144, 3) := by decide +kernel
theorem dX12_init_377 : decode cX12_init 377 = .ok (.aload_n 0, 1) := by decide +kernel
theorem dX12_init_378 : decode cX12_init 378 = .ok (.iconst 0, 1) := by decide +kernel
theorem dX12_init_379 : decode cX12_init 379 = .ok (.putfield 147, 3) := by decide +kernel
theorem dX12_init_382 : decode cX12_init 382 = .ok (.aload_n 0, 1) := by decide +kernel
theorem dX12_init_383 : decode cX12_init 383 = .ok (.iconst (-1), 1) := by decide +kernel
theorem dX12_init_384 : decode cX12_init 384 = .ok (.putfield 151, 3) := by decide +kernel
theorem dX12_init_387 : decode cX12_init 387 = .ok (.aload_n 0, 1) := by decide +kernel
theorem dX12_init_388 : decode cX12_init 388 = .ok (.iconst 0, 1) := by decide +kernel
theorem dX12_init_389 : decode cX12_init 389 = .ok (.putfield 154, 3) := by decide +kernel
theorem dX12_init_392 : decode cX12_init 392 = .ok (.aload_n 0, 1) := by decide +kernel
theorem dX12_init_393 : decode cX12_init 393 = .ok (.iconst 0, 1) := by decide +kernel
theorem dX12_init_394 : decode cX12_init 394 = .ok (.putfield 157, 3) := by decide +kernel
theorem dX12_init_397 : decode cX12_init 397 = .ok (.aload_n 0, 1) := by decide +kernel
theorem dX12_init_398 : decode cX12_init 398 = .ok (.iconst 0, 1) := by decide +kernel
theorem dX12_init_399 : decode cX12_init 399 = .ok (.putfield 160, 3) := by decide +kernel
theorem dX12_init_402 : decode cX12_init 402 = .ok (.aload_n 0, 1) := by decide +kernel
theorem dX12_init_403 : decode cX12_init 403 = .ok (.iconst 0, 1) := by decide +kernel
theorem dX12_init_404 : decode cX12_init 404 = .ok (.putfield 163, 3) := by decide +kernel
theorem dX12_init_407 : decode cX12_init 407 = .ok (.aload_n 0, 1) := by decide +kernel
theorem dX12_init_408 : decode cX12_init 408 = .ok (.iconst 0, 1) := by decide +kernel
theorem dX12_init_409 : decode cX12_init 409 = .ok (.putfield 166, 3) := by decide +kernel
theorem dX12_init_412 : decode cX12_init 412 = .ok (.aload_n 0, 1) := by decide +kernel
theorem dX12_init_413 : decode cX12_init 413 = .ok (.iconst 0, 1) := by decide +kernel
theorem dX12_init_414 : decode cX12_init 414 = .ok (.putfield 169, 3) := by decide +kernel
theorem dX12_init_417 : decode cX12_init 417 = .ok (.aload_n 0, 1) := by decide +kernel
theorem dX12_init_418 : decode cX12_init 418 = .ok (.iconst 0, 1) := by decide +kernel
theorem dX12_init_419 : decode cX12_init 419 = .ok (.putfield 172, 3) := by decide +kernel
theorem dX12_init_422 : decode cX12_init 422 = .ok (.aload_n 0, 1) := by decide +kernel
theorem dX12_init_423 : decode cX12_init 423 = .ok (.bipush 6, 2) := by decide +kernel
theorem dX12_init_425 : decode cX12_init 425 = .ok (.newarray .int, 2) := by decide +kernel
theorem dX12_init_427 : decode cX12_init 427 = .ok (.putfield 175, 3) := by decide +kernel
theorem dX12_init_430 : decode cX12_init 430 = .ok (.aload_n 0, 1) := by decide +kernel
theorem dX12_init_431 : decode cX12_init 431 = .ok (.bipush 6, 2) := by decide +kernel
theorem dX12_init_433 : decode cX12_init 433 = .ok (.newarray .int, 2) := by decide +kernel
theorem dX12_init_435 : decode cX12_init 435 = .ok (.putfield 178, 3) := by decide +kernel
theorem dX12_init_438 : decode cX12_init 438 = .ok (.aload_n 0, 1) := by decide +kernel
theorem dX12_init_439 : decode cX12_init 439 = .ok (.bipush 6, 2) := by decide +kernel
theorem dX12_init_441 : decode cX12_init 441 = .ok (.newarray .int, 2) := by decide +kernel
theorem dX12_init_443 : decode cX12_init 443 = .ok (.putfield 181, 3) := by decide +kernel
theorem dX12_init_446 : decode cX12_init 446 = .ok (.aload_n 0, 1) := by decide +kernel
theorem dX12_init_447 : decode cX12_init 447 = .ok (.bipush 6, 2) := by decide +kernel
theorem dX12_init_449 : decode cX12_init 449 = .ok (.newarray .int, 2) := by decide +kernel
theorem dX12_init_451 : decode cX12_init 451 = .ok (.putfield 184, 3) := by decide +kernel
theorem dX12_init_454 : decode cX12_init 454 = .ok (.aload_n 0, 1) := by decide +kernel
theorem dX12_init_455 : decode cX12_init 455 = .ok (.bipush 24, 2) := by decide +kernel
theorem dX12_init_457 : decode cX12_init 457 = .ok (.newarray .int, 2) := by decide +kernel
theorem dX12_init_459 : decode cX12_init 459 = .ok (.putfield 187, 3) := by decide +kernel
theorem dX12_init_462 : decode cX12_init 462 = .ok (.aload_n 0, 1) := by decide +kernel
theorem dX12_init_463 : decode cX12_init 463 = .ok (.bipush 6, 2) := by decide +kernel
theorem dX12_init_465 : decode cX12_init 465 = .ok (.newarray .int, 2) := by decide +kernel
theorem dX12_init_467 : decode cX12_init 467 = .ok (.putfield 190, 3) := by decide +kernel
theorem dX12_init_470 : decode cX12_init 470 = .ok (.aload_n 0, 1) := by decide +kernel
theorem dX12_init_471 : decode cX12_init 471 = .ok (.iconst 5, 1) := by decide +kernel
theorem dX12_init_472 : decode cX12_init 472 = .ok (.newarray .int, 2) := by decide +kernel
theorem dX12_init_474 : decode cX12_init 474 = .ok (.putfield 193, 3) := by decide +kernel
theorem dX12_init_477 : decode cX12_init 477 = .ok (.aload_n 0, 1) := by decide +kernel
theorem dX12_init_478 : decode cX12_init 478 = .ok (.iconst 5, 1) := by decide +kernel
theorem dX12_init_479 : decode cX12_init 479 = .ok (.newarray .int, 2) := by decide +kernel
theorem dX12_init_481 : decode cX12_init 481 = .ok (.putfield 196, 3) := by decide +kernel
theorem dX12_init_484 : decode cX12_init 484 = .ok (.aload_n 0, 1) := by decide +kernel
theorem dX12_init_485 : decode cX12_init 485 = .ok (.bipush 10, 2) := by decide +kernel
theorem dX12_init_487 : decode cX12_init 487 = .ok (.newarray .int, 2) := by decide +kernel
theorem dX12_init_489 : decode cX12_init 489 = .ok (.putfield 199, 3) := by decide +kernel
theorem dX12_init_492 : decode cX12_init 492 = .ok (.aload_n 0, 1) := by decide +kernel
theorem dX12_init_493 : decode cX12_init 493 = .ok (.bipush 10, 2) := by decide +kernel
theorem dX12_init_495 : decode cX12_init 495 = .ok (.newarray .int, 2) := by decide +kernel
theorem dX12_init_497 : decode cX12_init 497 = .ok (.putfield 202, 3) := by decide +kernel
theorem dX12_init_500 : decode cX12_init 500 = .ok (.aload_n 0, 1) := by decide +kernel
theorem dX12_init_501 : decode cX12_init 501 = .ok (.bipush 8, 2) := by decide +kernel
theorem dX12_init_503 : decode cX12_init 503 = .ok (.newarray .int, 2) := by decide +kernel
theorem dX12_init_505 : decode cX12_init 505 = .ok (.putfield 205, 3) := by decide +kernel
theorem dX12_init_508 : decode cX12_init 508 = .ok (.aload_n 0, 1) := by decide +kernel
theorem dX12_init_509 : decode cX12_init 509 = .ok (.bipush 8, 2) := by decide +kernel
theorem dX12_init_511 : decode cX12_init 511 = .ok (.newarray .int, 2) := by decide +kernel
theorem dX12_init_513 : decode cX12_init 513 = .ok (.putfield 208, 3) := by decide +kernel
theorem dX12_init_516 : decode cX12_init 516 = .ok (.aload_n 0, 1) := by decide +kernel
theorem dX12_init_517 : decode cX12_init 517 = .ok (.iconst 0, 1) := by decide +kernel
theorem dX12_init_518 : decode cX12_init 518 = .ok (.putfield 211, 3) := by decide +kernel
theorem dX12_init_521 : decode cX12_init 521 = .ok (.aload_n 0, 1) := by decide +kernel
theorem dX12_init_522 : decode cX12_init 522 = .ok (.bipush 20, 2) := by decide +kernel
theorem dX12_init_524 : decode cX12_init 524 = .ok (.newarray .int, 2) := by decide +kernel
theorem dX12_init_526 : decode cX12_init 526 = .ok (.putfield 214, 3) := by decide +kernel
theorem dX12_init_529 : decode cX12_init 529 = .ok (.aload_n 0, 1) := by decide +kernel
theorem dX12_init_530 : decode cX12_init 530 = .ok (.bipush 6, 2) := by decide +kernel
theorem dX12_init_532 : decode cX12_init 532 = .ok (.newarray .int, 2) := by decide +kernel
theorem dX12_init_534 : decode cX12_init 534 = .ok (.dup, 1) := by decide +kernel
theorem dX12_init_535 : decode cX12_init 535 = .ok (.iconst 0, 1) := by decide +kernel
theorem dX12_init_536 : decode cX12_init 536 = .ok (.iconst (-1), 1) := by decide +kernel
theorem dX12_init_537 : decode cX12_init 537 = .ok (.iastore, 1) := by decide +kernel
theorem dX12_init_538 : decode cX12_init 538 = .ok (.dup, 1) := by decide +kernel
theorem dX12_init_539 : decode cX12_init 539 = .ok (.iconst 1, 1) := by decide +kernel
theorem dX12_init_540 : decode cX12_init 540 = .ok (.iconst (-1), 1) := by decide +kernel
theorem dX12_init_541 : decode cX12_init 541 = .ok (.iastore, 1) := by decide +kernel
theorem dX12_init_542 : decode cX12_init 542 = .ok (.dup, 1) := by decide +kernel
theorem dX12_init_543 : decode cX12_init 543 = .ok (.iconst 2, 1) := by decide +kernel
theorem dX12_init_544 : decode cX12_init 544 = .ok (.iconst (-1), 1) := by decide +kernel
theorem dX12_init_545 : decode cX12_init 545 = .ok (.iastore, 1) := by decide +kernel
theorem dX12_init_546 : decode cX12_init 546 = .ok (.dup, 1) := by decide +kernel
theorem dX12_init_547 : decode cX12_init 547 = .ok (.iconst 3, 1) := by decide +kernel
theorem dX12_init_548 : decode cX12_init 548 = .ok (.iconst (-1), 1) := by decide +kernel
theorem dX12_init_549 : decode cX12_init 549 = .ok (.iastore, 1) := by decide +kernel
theorem dX12_init_550 : decode cX12_init 550 = .ok (.dup, 1) := by decide +kernel
theorem dX12_init_551 : decode cX12_init 551 = .ok (.iconst 4, 1) := by decide +kernel
theorem dX12_init_552 : decode cX12_init 552 = .ok (.iconst (-1), 1) := by decide +kernel
theorem dX12_init_553 : decode cX12_init 553 = .ok (.iastore, 1) := by decide +kernel
theorem dX12_init_554 : decode cX12_init 554 = .ok (.dup, 1) := by decide +kernel
theorem dX12_init_555 : decode cX12_init 555 = .ok (.iconst 5, 1) := by decide +kernel
theorem dX12_init_556 : decode cX12_init 556 = .ok (.iconst (-1), 1) := by decide +kernel
theorem dX12_init_557 : decode cX12_init 557 = .ok (.iastore, 1) := by decide +kernel
theorem dX12_init_558 : decode cX12_init 558 = .ok (.putfield 217, 3) := by decide +kernel
theorem dX12_init_561 : decode cX12_init 561 = .ok (.aload_n 0, 1) := by decide +kernel
theorem dX12_init_562 : decode cX12_init 562 = .ok (.bipush 6, 2) := by decide +kernel
theorem dX12_init_564 : decode cX12_init 564 = .ok (.newarray .int, 2) := by decide +kernel
theorem dX12_init_566 : decode cX12_init 566 = .ok (.putfield 220, 3) := by decide +kernel
theorem dX12_init_569 : decode cX12_init 569 = .ok (.aload_n 0, 1) := by decide +kernel
theorem dX12_init_570 : decode cX12_init 570 = .ok (.sipush 360, 3) := by decide +kernel
theorem dX12_init_573 : decode cX12_init 573 = .ok (.newarray .long, 2) := by decide +kernel
theorem dX12_init_575 : decode cX12_init 575 = .ok (.putfield 223, 3) := by decide +kernel
theorem dX12_init_578 : decode cX12_init 578 = .ok (.aload_n 0, 1) := by decide +kernel
theorem dX12_init_579 : decode cX12_init 579 = .ok (.bipush 60, 2) := by decide +kernel
theorem dX12_init_581 : decode cX12_init 581 = .ok (.newarray .long, 2) := by decide +kernel
theorem dX12_init_583 : decode cX12_init 583 = .ok (.putfield 227, 3) := by decide +kernel
theorem dX12_init_586 : decode cX12_init 586 = .ok (.return_, 1) := by decide +kernel
theorem dX12_in_0 : decode cX12_in 0 = .ok (.iload_n 1, 1) := by decide +kernel
theorem dX12_in_1 : decode cX12_in 1 = .ok (.iload_n 2, 1) := by decide +kernel
theorem dX12_in_2 : decode cX12_in 2 = .ok (.if_icmp .lt 12, 3) := by decide +kernel
theorem dX12_in_5 : decode cX12_in 5 = .ok (.iload_n 1, 1) := by decide +kernel
theorem dX12_in_6 : decode cX12_in 6 = .ok (.iload_n 3, 1) := by decide +kernel
theorem dX12_in_7 : decode cX12_in 7 = .ok (.if_icmp .gt 7, 3) := by decide +kernel
theorem dX12_in_10 : decode cX12_in 10 = .ok (.iconst 1, 1) := by decide +kernel
theorem dX12_in_11 : decode cX12_in 11 = .ok (.goto 4, 3) := by decide +kernel
theorem dX12_in_14 : decode cX12_in 14 = .ok (.iconst 0, 1) := by decide +kernel
theorem dX12_in_15 : decode cX12_in 15 = .ok (.ireturn, 1) := by decide +kernel
theorem dX12_has_0 : decode cX12_has 0 = .ok (.iload_n 1, 1) := by decide +kernel
theorem dX12_has_1 : decode cX12_has 1 = .ok (.iload_n 2, 1) := by decide +kernel
theorem dX12_has_2 : decode cX12_has 2 = .ok (.ishr, 1) := by decide +kernel
theorem dX12_has_3 : decode cX12_has 3 = .ok (.iconst 1, 1) := by decide +kernel
theorem dX12_has_4 : decode cX12_has 4 = .ok (.iand, 1) := by decide +kernel
theorem dX12_has_5 : decode cX12_has 5 = .ok (.iconst 1, 1) := by decide +kernel
theorem dX12_has_6 : decode cX12_has 6 = .ok (.if_icmp .ne 7, 3) := by decide +kernel
theorem dX12_has_9 : decode cX12_has 9 = .ok (.iconst 1, 1) := by decide +kernel
theorem dX12_has_10 : decode cX12_has 10 = .ok (.goto 4, 3) := by decide +kernel
theorem dX12_has_13 : decode cX12_has 13 = .ok (.iconst 0, 1) := by decide +kernel
theorem dX12_has_14 : decode cX12_has 14 = .ok (.ireturn, 1) := by decide +kernel
theorem dX12_least_0 : decode cX12_least 0 = .ok (.iload_n 1, 1) := by decide +kernel
theorem dX12_least_1 : decode cX12_least 1 = .ok (.iload_n 2, 1) := by decide +kernel
theorem dX12_least_2 : decode cX12_least 2 = .ok (.if_icmp .ge 7, 3) := by decide +kernel
theorem dX12_least_5 : decode cX12_least 5 = .ok (.iload_n 1, 1) := by decide +kernel
theorem dX12_least_6 : decode cX12_least 6 = .ok (.goto 4, 3) := by decide +kernel
theorem dX12_least_9 : decode cX12_least 9 = .ok (.iload_n 2, 1) := by decide +kernel
theorem dX12_least_10 : decode cX12_least 10 = .ok (.ireturn, 1) := by decide +kernel
theorem dX12_bits_0 : decode cX12_bits 0 = .ok (.iconst 0, 1) := by decide +kernel
theorem dX12_bits_1 : decode cX12_bits 1 = .ok (.istore_n 2, 1) := by decide +kernel
theorem dX12_bits_2 : decode cX12_bits 2 = .ok (.iconst 0, 1) := by decide +kernel
theorem dX12_bits_3 : decode cX12_bits 3 = .ok (.istore_n 3, 1) := by decide +kernel
theorem dX12_bits_4 : decode cX12_bits 4 = .ok (.iload_n 3, 1) := by decide +kernel
theorem dX12_bits_5 : decode cX12_bits 5 = .ok (.bipush 12, 2) := by decide +kernel
theorem dX12_bits_7 : decode cX12_bits 7 = .ok (.if_icmp .ge 26, 3) := by decide +kernel
theorem dX12_bits_10 : decode cX12_bits 10 = .ok (.iload_n 2, 1) := by decide +kernel
theorem dX12_bits_11 : decode cX12_bits 11 = .ok (.aload_n 0, 1) := by decide +kernel
theorem dX12_bits_12 : decode cX12_bits 12 = .ok (.iload_n 1, 1) := by decide +kernel
theorem dX12_bits_13 : decode cX12_bits 13 = .ok (.iload_n 3, 1) := by decide +kernel
theorem dX12_bits_14 : decode cX12_bits 14 = .ok (.invokevirtual 230, 3) := by decide +kernel
theorem dX12_bits_17 : decode cX12_bits 17 = .ok (.ifCond .eq 7, 3) := by decide +kernel
theorem dX12_bits_20 : decode cX12_bits 20 = .ok (.iconst 1, 1) := by decide +kernel
theorem dX12_bits_21 : decode cX12_bits 21 = .ok (.goto 4, 3) := by decide +kernel
theorem dX12_bits_24 : decode cX12_bits 24 = .ok (.iconst 0, 1) := by decide +kernel
theorem dX12_bits_25 : decode cX12_bits 25 = .ok (.iadd, 1) := by decide +kernel
theorem dX12_bits_26 : decode cX12_bits 26 = .ok (.istore_n 2, 1) := by decide +kernel
theorem dX12_bits_27 : decode cX12_bits 27 = .ok (.iinc 3 1, 3) := by decide +kernel
theorem dX12_bits_30 : decode cX12_bits 30 = .ok (.goto (-26), 3) := by decide +kernel
theorem dX12_bits_33 : decode cX12_bits 33 = .ok (.iload_n 2, 1) := by decide +kernel
theorem dX12_bits_34 : decode cX12_bits 34 = .ok (.ireturn, 1) := by decide +kernel
theorem dX12_isFruit_0 : decode cX12_isFruit 0 = .ok (.aload_n 0, 1) := by decide +kernel
theorem dX12_isFruit_1 : decode cX12_isFruit 1 = .ok (.iload_n 1, 1) := by decide +kernel
theorem dX12_isFruit_2 : decode cX12_isFruit 2 = .ok (.iconst 0, 1) := by decide +kernel
theorem dX12_isFruit_3 : decode cX12_isFruit 3 = .ok (.aload_n 0, 1) := by decide +kernel
theorem dX12_isFruit_4 : decode cX12_isFruit 4 = .ok (.getfield 7, 3) := by decide +kernel
theorem dX12_isFruit_7 : decode cX12_isFruit 7 = .ok (.iconst 1, 1) := by decide +kernel
theorem dX12_isFruit_8 : decode cX12_isFruit 8 = .ok (.isub, 1) := by decide +kernel
theorem dX12_isFruit_9 : decode cX12_isFruit 9 = .ok (.invokevirtual 234, 3) := by decide +kernel
theorem dX12_isFruit_12 : decode cX12_isFruit 12 = .ok (.ireturn, 1) := by decide +kernel
theorem dX12_isHours_0 : decode cX12_isHours 0 = .ok (.aload_n 0, 1) := by decide +kernel
theorem dX12_isHours_1 : decode cX12_isHours 1 = .ok (.iload_n 1, 1) := by decide +kernel
theorem dX12_isHours_2 : decode cX12_isHours 2 = .ok (.iconst 0, 1) := by decide +kernel
theorem dX12_isHours_3 : decode cX12_isHours 3 = .ok (.sipush 4095, 3) := by decide +kernel
theorem dX12_isHours_6 : decode cX12_isHours 6 = .ok (.invokevirtual 234, 3) := by decide +kernel
theorem dX12_isHours_9 : decode cX12_isHours 9 = .ok (.ireturn, 1) := by decide +kernel
theorem dX12_isRipe_0 : decode cX12_isRipe 0 = .ok (.aload_n 0, 1) := by decide +kernel
theorem dX12_isRipe_1 : decode cX12_isRipe 1 = .ok (.iload_n 1, 1) := by decide +kernel
theorem dX12_isRipe_2 : decode cX12_isRipe 2 = .ok (.iconst 0, 1) := by decide +kernel
theorem dX12_isRipe_3 : decode cX12_isRipe 3 = .ok (.sipush 9999, 3) := by decide +kernel
theorem dX12_isRipe_6 : decode cX12_isRipe 6 = .ok (.invokevirtual 234, 3) := by decide +kernel
theorem dX12_isRipe_9 : decode cX12_isRipe 9 = .ok (.ireturn, 1) := by decide +kernel
theorem dX12_fruit_0 : decode cX12_fruit 0 = .ok (.aload_n 0, 1) := by decide +kernel
theorem dX12_fruit_1 : decode cX12_fruit 1 = .ok (.iload_n 1, 1) := by decide +kernel
theorem dX12_fruit_2 : decode cX12_fruit 2 = .ok (.iconst 0, 1) := by decide +kernel
theorem dX12_fruit_3 : decode cX12_fruit 3 = .ok (.bipush 6, 2) := by decide +kernel
theorem dX12_fruit_5 : decode cX12_fruit 5 = .ok (.invokevirtual 234, 3) := by decide +kernel
theorem dX12_fruit_8 : decode cX12_fruit 8 = .ok (.ifCond .ne 5, 3) := by decide +kernel
theorem dX12_fruit_11 : decode cX12_fruit 11 = .ok (.iconst (-1), 1) := by decide +kernel
theorem dX12_fruit_12 : decode cX12_fruit 12 = .ok (.ireturn, 1) := by decide +kernel
theorem dX12_fruit_13 : decode cX12_fruit 13 = .ok (.aload_n 0, 1) := by decide +kernel
theorem dX12_fruit_14 : decode cX12_fruit 14 = .ok (.iload_n 2, 1) := by decide +kernel
theorem dX12_fruit_15 : decode cX12_fruit 15 = .ok (.iconst 0, 1) := by decide +kernel
theorem dX12_fruit_16 : decode cX12_fruit 16 = .ok (.bipush 9, 2) := by decide +kernel
theorem dX12_fruit_18 : decode cX12_fruit 18 = .ok (.invokevirtual 234, 3) := by decide +kernel
theorem dX12_fruit_21 : decode cX12_fruit 21 = .ok (.ifCond .ne 6, 3) := by decide +kernel
theorem dX12_fruit_24 : decode cX12_fruit 24 = .ok (.bipush (-2), 2) := by decide +kernel
theorem dX12_fruit_26 : decode cX12_fruit 26 = .ok (.ireturn, 1) := by decide +kernel
theorem dX12_fruit_27 : decode cX12_fruit 27 = .ok (.aload_n 0, 1) := by decide +kernel
theorem dX12_fruit_28 : decode cX12_fruit 28 = .ok (.getfield 7, 3) := by decide +kernel
theorem dX12_fruit_31 : decode cX12_fruit 31 = .ok (.bipush 6, 2) := by decide +kernel
theorem dX12_fruit_33 : decode cX12_fruit 33 = .ok (.if_icmp .ne 6, 3) := by decide +kernel
theorem dX12_fruit_36 : decode cX12_fruit 36 = .ok (.bipush (-4), 2) := by decide +kernel
theorem dX12_fruit_38 : decode cX12_fruit 38 = .ok (.ireturn, 1) := by decide +kernel
theorem dX12_fruit_39 : decode cX12_fruit 39 = .ok (.aload_n 0, 1) := by decide +kernel
theorem dX12_fruit_40 : decode cX12_fruit 40 = .ok (.getfield 19, 3) := by decide +kernel
theorem dX12_fruit_43 : decode cX12_fruit 43 = .ok (.aload_n 0, 1) := by decide +kernel
theorem dX12_fruit_44 : decode cX12_fruit 44 = .ok (.getfield 7, 3) := by decide +kernel
theorem dX12_fruit_47 : decode cX12_fruit 47 = .ok (.iload_n 1, 1) := by decide +kernel
theorem dX12_fruit_48 : decode cX12_fruit 48 = .ok (.iastore, 1) := by decide +kernel
theorem dX12_fruit_49 : decode cX12_fruit 49 = .ok (.aload_n 0, 1) := by decide +kernel
theorem dX12_fruit_50 : decode cX12_fruit 50 = .ok (.getfield 23, 3) := by decide +kernel
theorem dX12_fruit_53 : decode cX12_fruit 53 = .ok (.aload_n 0, 1) := by decide +kernel
theorem dX12_fruit_54 : decode cX12_fruit 54 = .ok (.getfield 7, 3) := by decide +kernel
theorem dX12_fruit_57 : decode cX12_fruit 57 = .ok (.iload_n 2, 1) := by decide +kernel
theorem dX12_fruit_58 : decode cX12_fruit 58 = .ok (.iastore, 1) := by decide +kernel
theorem dX12_fruit_59 : decode cX12_fruit 59 = .ok (.aload_n 0, 1) := by decide +kernel
theorem dX12_fruit_60 : decode cX12_fruit 60 = .ok (.getfield 26, 3) := by decide +kernel
theorem dX12_fruit_63 : decode cX12_fruit 63 = .ok (.aload_n 0, 1) := by decide +kernel
theorem dX12_fruit_64 : decode cX12_fruit 64 = .ok (.getfield 7, 3) := by decide +kernel
theorem dX12_fruit_67 : decode cX12_fruit 67 = .ok (.iconst 0, 1) := by decide +kernel
theorem dX12_fruit_68 : decode cX12_fruit 68 = .ok (.iastore, 1) := by decide +kernel
theorem dX12_fruit_69 : decode cX12_fruit 69 = .ok (.aload_n 0, 1) := by decide +kernel
theorem dX12_fruit_70 : decode cX12_fruit 70 = .ok (.getfield 29, 3) := by decide +kernel
theorem dX12_fruit_73 : decode cX12_fruit 73 = .ok (.aload_n 0, 1) := by decide +kernel
theorem dX12_fruit_74 : decode cX12_fruit 74 = .ok (.getfield 7, 3) := by decide +kernel
theorem dX12_fruit_77 : decode cX12_fruit 77 = .ok (.iconst 0, 1) := by decide +kernel
theorem dX12_fruit_78 : decode cX12_fruit 78 = .ok (.iastore, 1) := by decide +kernel
theorem dX12_fruit_79 : decode cX12_fruit 79 = .ok (.aload_n 0, 1) := by decide +kernel
theorem dX12_fruit_80 : decode cX12_fruit 80 = .ok (.dup, 1) := by decide +kernel
theorem dX12_fruit_81 : decode cX12_fruit 81 = .ok (.getfield 13, 3) := by decide +kernel
theorem dX12_fruit_84 : decode cX12_fruit 84 = .ok (.iconst 1, 1) := by decide +kernel
theorem dX12_fruit_85 : decode cX12_fruit 85 = .ok (.aload_n 0, 1) := by decide +kernel
theorem dX12_fruit_86 : decode cX12_fruit 86 = .ok (.getfield 7, 3) := by decide +kernel
theorem dX12_fruit_89 : decode cX12_fruit 89 = .ok (.ishl, 1) := by decide +kernel
theorem dX12_fruit_90 : decode cX12_fruit 90 = .ok (.iconst (-1), 1) := by decide +kernel
theorem dX12_fruit_91 : decode cX12_fruit 91 = .ok (.ixor, 1) := by decide +kernel
theorem dX12_fruit_92 : decode cX12_fruit 92 = .ok (.iand, 1) := by decide +kernel
theorem dX12_fruit_93 : decode cX12_fruit 93 = .ok (.putfield 13, 3) := by decide +kernel
theorem dX12_fruit_96 : decode cX12_fruit 96 = .ok (.iconst 0, 1) := by decide +kernel
theorem dX12_fruit_97 : decode cX12_fruit 97 = .ok (.istore_n 3, 1) := by decide +kernel
theorem dX12_fruit_98 : decode cX12_fruit 98 = .ok (.iload_n 3, 1) := by decide +kernel
theorem dX12_fruit_99 : decode cX12_fruit 99 = .ok (.iconst 4, 1) := by decide +kernel
theorem dX12_fruit_100 : decode cX12_fruit 100 = .ok (.if_icmp .ge 23, 3) := by decide +kernel
theorem dX12_fruit_103 : decode cX12_fruit 103 = .ok (.aload_n 0, 1) := by decide +kernel
theorem dX12_fruit_104 : decode cX12_fruit 104 = .ok (.getfield 32, 3) := by decide +kernel
theorem dX12_fruit_107 : decode cX12_fruit 107 = .ok (.iconst 4, 1) := by decide +kernel
theorem dX12_fruit_108 : decode cX12_fruit 108 = .ok (.aload_n 0, 1) := by decide +kernel
theorem dX12_fruit_109 : decode cX12_fruit 109 = .ok (.getfield 7, 3) := by decide +kernel
theorem dX12_fruit_112 : decode cX12_fruit 112 = .ok (.imul, 1) := by decide +kernel
theorem dX12_fruit_113 : decode cX12_fruit 113 = .ok (.iload_n 3, 1) := by decide +kernel
theorem dX12_fruit_114 : decode cX12_fruit 114 = .ok (.iadd, 1) := by decide +kernel
theorem dX12_fruit_115 : decode cX12_fruit 115 = .ok (.iconst 0, 1) := by decide +kernel
theorem dX12_fruit_116 : decode cX12_fruit 116 = .ok (.iastore, 1) := by decide +kernel
theorem dX12_fruit_117 : decode cX12_fruit 117 = .ok (.iinc 3 1, 3) := by decide +kernel
theorem dX12_fruit_120 : decode cX12_fruit 120 = .ok (.goto (-22), 3) := by decide +kernel
theorem dX12_fruit_123 : decode cX12_fruit 123 = .ok (.aload_n 0, 1) := by decide +kernel
theorem dX12_fruit_124 : decode cX12_fruit 124 = .ok (.dup, 1) := by decide +kernel
theorem dX12_fruit_125 : decode cX12_fruit 125 = .ok (.getfield 7, 3) := by decide +kernel
theorem dX12_fruit_128 : decode cX12_fruit 128 = .ok (.iconst 1, 1) := by decide +kernel
theorem dX12_fruit_129 : decode cX12_fruit 129 = .ok (.iadd, 1) := by decide +kernel
theorem dX12_fruit_130 : decode cX12_fruit 130 = .ok (.putfield 7, 3) := by decide +kernel
theorem dX12_fruit_133 : decode cX12_fruit 133 = .ok (.aload_n 0, 1) := by decide +kernel
theorem dX12_fruit_134 : decode cX12_fruit 134 = .ok (.getfield 7, 3) := by decide +kernel
theorem dX12_fruit_137 : decode cX12_fruit 137 = .ok (.iconst 1, 1) := by decide +kernel
theorem dX12_fruit_138 : decode cX12_fruit 138 = .ok (.isub, 1) := by decide +kernel
theorem dX12_fruit_139 : decode cX12_fruit 139 = .ok (.ireturn, 1) := by decide +kernel
theorem dX12_cutting_0 : decode cX12_cutting 0 = .ok (.aload_n 0, 1) := by decide +kernel
theorem dX12_cutting_1 : decode cX12_cutting 1 = .ok (.iload_n 2, 1) := by decide +kernel
theorem dX12_cutting_2 : decode cX12_cutting 2 = .ok (.ifCond .eq 14, 3) := by decide +kernel
theorem dX12_cutting_5 : decode cX12_cutting 5 = .ok (.aload_n 0, 1) := by decide +kernel
theorem dX12_cutting_6 : decode cX12_cutting 6 = .ok (.getfield 13, 3) := by decide +kernel
theorem dX12_cutting_9 : decode cX12_cutting 9 = .ok (.iconst 1, 1) := by decide +kernel
theorem dX12_cutting_10 : decode cX12_cutting 10 = .ok (.iload_n 1, 1) := by decide +kernel
theorem dX12_cutting_11 : decode cX12_cutting 11 = .ok (.ishl, 1) := by decide +kernel
theorem dX12_cutting_12 : decode cX12_cutting 12 = .ok (.ior, 1) := by decide +kernel
theorem dX12_cutting_13 : decode cX12_cutting 13 = .ok (.goto 13, 3) := by decide +kernel
theorem dX12_cutting_16 : decode cX12_cutting 16 = .ok (.aload_n 0, 1) := by decide +kernel
theorem dX12_cutting_17 : decode cX12_cutting 17 = .ok (.getfield 13, 3) := by decide +kernel
theorem dX12_cutting_20 : decode cX12_cutting 20 = .ok (.iconst 1, 1) := by decide +kernel
theorem dX12_cutting_21 : decode cX12_cutting 21 = .ok (.iload_n 1, 1) := by decide +kernel
theorem dX12_cutting_22 : decode cX12_cutting 22 = .ok (.ishl, 1) := by decide +kernel
theorem dX12_cutting_23 : decode cX12_cutting 23 = .ok (.iconst (-1), 1) := by decide +kernel
theorem dX12_cutting_24 : decode cX12_cutting 24 = .ok (.ixor, 1) := by decide +kernel
theorem dX12_cutting_25 : decode cX12_cutting 25 = .ok (.iand, 1) := by decide +kernel
theorem dX12_cutting_26 : decode cX12_cutting 26 = .ok (.putfield 13, 3) := by decide +kernel
theorem dX12_cutting_29 : decode cX12_cutting 29 = .ok (.return_, 1) := by decide +kernel
theorem dX12_cut_0 : decode cX12_cut 0 = .ok (.aload_n 0, 1) := by decide +kernel
theorem dX12_cut_1 : decode cX12_cut 1 = .ok (.iload_n 1, 1) := by decide +kernel
theorem dX12_cut_2 : decode cX12_cut 2 = .ok (.invokevirtual 238, 3) := by decide +kernel
theorem dX12_cut_5 : decode cX12_cut 5 = .ok (.ifCond .ne 5, 3) := by decide +kernel
theorem dX12_cut_8 : decode cX12_cut 8 = .ok (.iconst (-1), 1) := by decide +kernel
theorem dX12_cut_9 : decode cX12_cut 9 = .ok (.ireturn, 1) := by decide +kernel
theorem dX12_cut_10 : decode cX12_cut 10 = .ok (.aload_n 0, 1) := by decide +kernel
theorem dX12_cut_11 : decode cX12_cut 11 = .ok (.aload_n 0, 1) := by decide +kernel
theorem dX12_cut_12 : decode cX12_cut 12 = .ok (.getfield 13, 3) := by decide +kernel
theorem dX12_cut_15 : decode cX12_cut 15 = .ok (.iload_n 1, 1) := by decide +kernel
theorem dX12_cut_16 : decode cX12_cut 16 = .ok (.invokevirtual 230, 3) := by decide +kernel
theorem dX12_cut_19 : decode cX12_cut 19 = .ok (.ifCond .eq 7, 3) := by decide +kernel
theorem dX12_cut_22 : decode cX12_cut 22 = .ok (.iconst 1, 1) := by decide +kernel
theorem dX12_cut_23 : decode cX12_cut 23 = .ok (.goto 4, 3) := by decide +kernel
theorem dX12_cut_26 : decode cX12_cut 26 = .ok (.iconst 0, 1) := by decide +kernel
theorem dX12_cut_27 : decode cX12_cut 27 = .ok (.istore_n 3, 1) := by decide +kernel
theorem dX12_cut_28 : decode cX12_cut 28 = .ok (.aload_n 0, 1) := by decide +kernel
theorem dX12_cut_29 : decode cX12_cut 29 = .ok (.iload_n 1, 1) := by decide +kernel
theorem dX12_cut_30 : decode cX12_cut 30 = .ok (.iload_n 2, 1) := by decide +kernel
theorem dX12_cut_31 : decode cX12_cut 31 = .ok (.invokevirtual 242, 3) := by decide +kernel
theorem dX12_cut_34 : decode cX12_cut 34 = .ok (.iload_n 3, 1) := by decide +kernel
theorem dX12_cut_35 : decode cX12_cut 35 = .ok (.ireturn, 1) := by decide +kernel
theorem dX12_set_0 : decode cX12_set 0 = .ok (.aload_n 0, 1) := by decide +kernel
theorem dX12_set_1 : decode cX12_set 1 = .ok (.iload_n 1, 1) := by decide +kernel
theorem dX12_set_2 : decode cX12_set 2 = .ok (.invokevirtual 238, 3) := by decide +kernel
theorem dX12_set_5 : decode cX12_set 5 = .ok (.ifCond .eq 13, 3) := by decide +kernel
theorem dX12_set_8 : decode cX12_set 8 = .ok (.aload_n 0, 1) := by decide +kernel
theorem dX12_set_9 : decode cX12_set 9 = .ok (.iload_n 2, 1) := by decide +kernel
theorem dX12_set_10 : decode cX12_set 10 = .ok (.iconst 0, 1) := by decide +kernel
theorem dX12_set_11 : decode cX12_set 11 = .ok (.iconst 1, 1) := by decide +kernel
theorem dX12_set_12 : decode cX12_set 12 = .ok (.invokevirtual 234, 3) := by decide +kernel
theorem dX12_set_15 : decode cX12_set 15 = .ok (.ifCond .ne 5, 3) := by decide +kernel
theorem dX12_set_18 : decode cX12_set 18 = .ok (.iconst (-1), 1) := by decide +kernel
theorem dX12_set_19 : decode cX12_set 19 = .ok (.ireturn, 1) := by decide +kernel
theorem dX12_set_20 : decode cX12_set 20 = .ok (.iload_n 2, 1) := by decide +kernel
theorem dX12_set_21 : decode cX12_set 21 = .ok (.ifCond .ne 14, 3) := by decide +kernel
theorem dX12_set_24 : decode cX12_set 24 = .ok (.aload_n 0, 1) := by decide +kernel
theorem dX12_set_25 : decode cX12_set 25 = .ok (.iload_n 3, 1) := by decide +kernel
theorem dX12_set_26 : decode cX12_set 26 = .ok (.invokevirtual 246, 3) := by decide +kernel
theorem dX12_set_29 : decode cX12_set 29 = .ok (.ifCond .ne 17, 3) := by decide +kernel
theorem dX12_set_32 : decode cX12_set 32 = .ok (.goto 11, 3) := by decide +kernel
theorem dX12_set_35 : decode cX12_set 35 = .ok (.aload_n 0, 1) := by decide +kernel
theorem dX12_set_36 : decode cX12_set 36 = .ok (.iload_n 3, 1) := by decide +kernel
theorem dX12_set_37 : decode cX12_set 37 = .ok (.invokevirtual 249, 3) := by decide +kernel
theorem dX12_set_40 : decode cX12_set 40 = .ok (.ifCond .ne 6, 3) := by decide +kernel
theorem dX12_set_43 : decode cX12_set 43 = .ok (.bipush (-2), 2) := by decide +kernel
theorem dX12_set_45 : decode cX12_set 45 = .ok (.ireturn, 1) := by decide +kernel
theorem dX12_set_46 : decode cX12_set 46 = .ok (.iload_n 2, 1) := by decide +kernel
theorem dX12_set_47 : decode cX12_set 47 = .ok (.ifCond .ne 12, 3) := by decide +kernel
theorem dX12_set_50 : decode cX12_set 50 = .ok (.aload_n 0, 1) := by decide +kernel
theorem dX12_set_51 : decode cX12_set 51 = .ok (.getfield 26, 3) := by decide +kernel
theorem dX12_set_54 : decode cX12_set 54 = .ok (.iload_n 1, 1) := by decide +kernel
theorem dX12_set_55 : decode cX12_set 55 = .ok (.iaload, 1) := by decide +kernel
theorem dX12_set_56 : decode cX12_set 56 = .ok (.goto 9, 3) := by decide +kernel
theorem dX12_set_59 : decode cX12_set 59 = .ok (.aload_n 0, 1) := by decide +kernel
theorem dX12_set_60 : decode cX12_set 60 = .ok (.getfield 29, 3) := by decide +kernel
theorem dX12_set_63 : decode cX12_set 63 = .ok (.iload_n 1, 1) := by decide +kernel
theorem dX12_set_64 : decode cX12_set 64 = .ok (.iaload, 1) := by decide +kernel
theorem dX12_set_65 : decode cX12_set 65 = .ok (.istore 4, 2) := by decide +kernel
theorem dX12_set_67 : decode cX12_set 67 = .ok (.iload_n 2, 1) := by decide +kernel
theorem dX12_set_68 : decode cX12_set 68 = .ok (.ifCond .ne 13, 3) := by decide +kernel
theorem dX12_set_71 : decode cX12_set 71 = .ok (.aload_n 0, 1) := by decide +kernel
theorem dX12_set_72 : decode cX12_set 72 = .ok (.getfield 26, 3) := by decide +kernel
theorem dX12_set_75 : decode cX12_set 75 = .ok (.iload_n 1, 1) := by decide +kernel
theorem dX12_set_76 : decode cX12_set 76 = .ok (.iload_n 3, 1) := by decide +kernel
theorem dX12_set_77 : decode cX12_set 77 = .ok (.iastore, 1) := by decide +kernel
theorem dX12_set_78 : decode cX12_set 78 = .ok (.goto 10, 3) := by decide +kernel
theorem dX12_set_81 : decode cX12_set 81 = .ok (.aload_n 0, 1) := by decide +kernel
theorem dX12_set_82 : decode cX12_set 82 = .ok (.getfield 29, 3) := by decide +kernel
theorem dX12_set_85 : decode cX12_set 85 = .ok (.iload_n 1, 1) := by decide +kernel
theorem dX12_set_86 : decode cX12_set 86 = .ok (.iload_n 3, 1) := by decide +kernel
theorem dX12_set_87 : decode cX12_set 87 = .ok (.iastore, 1) := by decide +kernel
theorem dX12_set_88 : decode cX12_set 88 = .ok (.iload 4, 2) := by decide +kernel
theorem dX12_set_90 : decode cX12_set 90 = .ok (.ireturn, 1) := by decide +kernel
theorem dX12_row_0 : decode cX12_row 0 = .ok (.aload_n 0, 1) := by decide +kernel
theorem dX12_row_1 : decode cX12_row 1 = .ok (.iload_n 1, 1) := by decide +kernel
theorem dX12_row_2 : decode cX12_row 2 = .ok (.invokevirtual 238, 3) := by decide +kernel
theorem dX12_row_5 : decode cX12_row 5 = .ok (.ifCond .eq 13, 3) := by decide +kernel
theorem dX12_row_8 : decode cX12_row 8 = .ok (.aload_n 0, 1) := by decide +kernel
theorem dX12_row_9 : decode cX12_row 9 = .ok (.iload_n 2, 1) := by decide +kernel
theorem dX12_row_10 : decode cX12_row 10 = .ok (.iconst 0, 1) := by decide +kernel
theorem dX12_row_11 : decode cX12_row 11 = .ok (.iconst 3, 1) := by decide +kernel
theorem dX12_row_12 : decode cX12_row 12 = .ok (.invokevirtual 234, 3) := by decide +kernel
theorem dX12_row_15 : decode cX12_row 15 = .ok (.ifCond .ne 5, 3) := by decide +kernel
theorem dX12_row_18 : decode cX12_row 18 = .ok (.iconst (-1), 1) := by decide +kernel
theorem dX12_row_19 : decode cX12_row 19 = .ok (.ireturn, 1) := by decide +kernel
theorem dX12_row_20 : decode cX12_row 20 = .ok (.aload_n 0, 1) := by decide +kernel
theorem dX12_row_21 : decode cX12_row 21 = .ok (.iload_n 3, 1) := by decide +kernel
theorem dX12_row_22 : decode cX12_row 22 = .ok (.iconst 0, 1) := by decide +kernel
theorem dX12_row_23 : decode cX12_row 23 = .ok (.bipush 9, 2) := by decide +kernel
theorem dX12_row_25 : decode cX12_row 25 = .ok (.invokevirtual 234, 3) := by decide +kernel
theorem dX12_row_28 : decode cX12_row 28 = .ok (.ifCond .ne 6, 3) := by decide +kernel
theorem dX12_row_31 : decode cX12_row 31 = .ok (.bipush (-2), 2) := by decide +kernel
theorem dX12_row_33 : decode cX12_row 33 = .ok (.ireturn, 1) := by decide +kernel
theorem dX12_row_34 : decode cX12_row 34 = .ok (.aload_n 0, 1) := by decide +kernel
theorem dX12_row_35 : decode cX12_row 35 = .ok (.getfield 19, 3) := by decide +kernel
theorem dX12_row_38 : decode cX12_row 38 = .ok (.iload_n 1, 1) := by decide +kernel
theorem dX12_row_39 : decode cX12_row 39 = .ok (.iaload, 1) := by decide +kernel
theorem dX12_row_40 : decode cX12_row 40 = .ok (.bipush 6, 2) := by decide +kernel
theorem dX12_row_42 : decode cX12_row 42 = .ok (.if_icmp .eq 6, 3) := by decide +kernel
theorem dX12_row_45 : decode cX12_row 45 = .ok (.bipush (-3), 2) := by decide +kernel
theorem dX12_row_47 : decode cX12_row 47 = .ok (.ireturn, 1) := by decide +kernel
theorem dX12_row_48 : decode cX12_row 48 = .ok (.aload_n 0, 1) := by decide +kernel
theorem dX12_row_49 : decode cX12_row 49 = .ok (.getfield 32, 3) := by decide +kernel
theorem dX12_row_52 : decode cX12_row 52 = .ok (.iconst 4, 1) := by decide +kernel
theorem dX12_row_53 : decode cX12_row 53 = .ok (.iload_n 1, 1) := by decide +kernel
theorem dX12_row_54 : decode cX12_row 54 = .ok (.imul, 1) := by decide +kernel
theorem dX12_row_55 : decode cX12_row 55 = .ok (.iload_n 2, 1) := by decide +kernel
theorem dX12_row_56 : decode cX12_row 56 = .ok (.iadd, 1) := by decide +kernel
theorem dX12_row_57 : decode cX12_row 57 = .ok (.iaload, 1) := by decide +kernel
theorem dX12_row_58 : decode cX12_row 58 = .ok (.istore 4, 2) := by decide +kernel
theorem dX12_row_60 : decode cX12_row 60 = .ok (.aload_n 0, 1) := by decide +kernel
theorem dX12_row_61 : decode cX12_row 61 = .ok (.getfield 32, 3) := by decide +kernel
theorem dX12_row_64 : decode cX12_row 64 = .ok (.iconst 4, 1) := by decide +kernel
theorem dX12_row_65 : decode cX12_row 65 = .ok (.iload_n 1, 1) := by decide +kernel
theorem dX12_row_66 : decode cX12_row 66 = .ok (.imul, 1) := by decide +kernel
theorem dX12_row_67 : decode cX12_row 67 = .ok (.iload_n 2, 1) := by decide +kernel
theorem dX12_row_68 : decode cX12_row 68 = .ok (.iadd, 1) := by decide +kernel
theorem dX12_row_69 : decode cX12_row 69 = .ok (.iload_n 3, 1) := by decide +kernel
theorem dX12_row_70 : decode cX12_row 70 = .ok (.iastore, 1) := by decide +kernel
theorem dX12_row_71 : decode cX12_row 71 = .ok (.iload 4, 2) := by decide +kernel
theorem dX12_row_73 : decode cX12_row 73 = .ok (.ireturn, 1) := by decide +kernel
theorem dX12_feed_0 : decode cX12_feed 0 = .ok (.aload_n 0, 1) := by decide +kernel
theorem dX12_feed_1 : decode cX12_feed 1 = .ok (.iload_n 1, 1) := by decide +kernel
theorem dX12_feed_2 : decode cX12_feed 2 = .ok (.iconst 0, 1) := by decide +kernel
theorem dX12_feed_3 : decode cX12_feed 3 = .ok (.bipush 127, 2) := by decide +kernel
theorem dX12_feed_5 : decode cX12_feed 5 = .ok (.invokevirtual 234, 3) := by decide +kernel
theorem dX12_feed_8 : decode cX12_feed 8 = .ok (.ifCond .ne 6, 3) := by decide +kernel
theorem dX12_feed_11 : decode cX12_feed 11 = .ok (.bipush (-2), 2) := by decide +kernel
theorem dX12_feed_13 : decode cX12_feed 13 = .ok (.ireturn, 1) := by decide +kernel
theorem dX12_feed_14 : decode cX12_feed 14 = .ok (.aload_n 0, 1) := by decide +kernel
theorem dX12_feed_15 : decode cX12_feed 15 = .ok (.getfield 41, 3) := by decide +kernel
theorem dX12_feed_18 : decode cX12_feed 18 = .ok (.bipush 100, 2) := by decide +kernel
theorem dX12_feed_20 : decode cX12_feed 20 = .ok (.if_icmp .ne 6, 3) := by decide +kernel
theorem dX12_feed_23 : decode cX12_feed 23 = .ok (.bipush (-4), 2) := by decide +kernel
theorem dX12_feed_25 : decode cX12_feed 25 = .ok (.ireturn, 1) := by decide +kernel
theorem dX12_feed_26 : decode cX12_feed 26 = .ok (.aload_n 0, 1) := by decide +kernel
theorem dX12_feed_27 : decode cX12_feed 27 = .ok (.getfield 50, 3) := by decide +kernel
theorem dX12_feed_30 : decode cX12_feed 30 = .ok (.aload_n 0, 1) := by decide +kernel
theorem dX12_feed_31 : decode cX12_feed 31 = .ok (.getfield 41, 3) := by decide +kernel
theorem dX12_feed_34 : decode cX12_feed 34 = .ok (.iload_n 1, 1) := by decide +kernel
theorem dX12_feed_35 : decode cX12_feed 35 = .ok (.iastore, 1) := by decide +kernel
theorem dX12_feed_36 : decode cX12_feed 36 = .ok (.aload_n 0, 1) := by decide +kernel
theorem dX12_feed_37 : decode cX12_feed 37 = .ok (.dup, 1) := by decide +kernel
theorem dX12_feed_38 : decode cX12_feed 38 = .ok (.getfield 41, 3) := by decide +kernel
theorem dX12_feed_41 : decode cX12_feed 41 = .ok (.iconst 1, 1) := by decide +kernel
theorem dX12_feed_42 : decode cX12_feed 42 = .ok (.iadd, 1) := by decide +kernel
theorem dX12_feed_43 : decode cX12_feed 43 = .ok (.putfield 41, 3) := by decide +kernel
theorem dX12_feed_46 : decode cX12_feed 46 = .ok (.aload_n 0, 1) := by decide +kernel
theorem dX12_feed_47 : decode cX12_feed 47 = .ok (.getfield 41, 3) := by decide +kernel
theorem dX12_feed_50 : decode cX12_feed 50 = .ok (.ireturn, 1) := by decide +kernel
theorem dX12_next_0 : decode cX12_next 0 = .ok (.aload_n 0, 1) := by decide +kernel
theorem dX12_next_1 : decode cX12_next 1 = .ok (.getfield 44, 3) := by decide +kernel
theorem dX12_next_4 : decode cX12_next 4 = .ok (.aload_n 0, 1) := by decide +kernel
theorem dX12_next_5 : decode cX12_next 5 = .ok (.getfield 41, 3) := by decide +kernel
theorem dX12_next_8 : decode cX12_next 8 = .ok (.if_icmp .ge 15, 3) := by decide +kernel
theorem dX12_next_11 : decode cX12_next 11 = .ok (.aload_n 0, 1) := by decide +kernel
theorem dX12_next_12 : decode cX12_next 12 = .ok (.getfield 50, 3) := by decide +kernel
theorem dX12_next_15 : decode cX12_next 15 = .ok (.aload_n 0, 1) := by decide +kernel
theorem dX12_next_16 : decode cX12_next 16 = .ok (.getfield 44, 3) := by decide +kernel
theorem dX12_next_19 : decode cX12_next 19 = .ok (.iaload, 1) := by decide +kernel
theorem dX12_next_20 : decode cX12_next 20 = .ok (.goto 4, 3) := by decide +kernel
theorem dX12_next_23 : decode cX12_next 23 = .ok (.iconst (-1), 1) := by decide +kernel
theorem dX12_next_24 : decode cX12_next 24 = .ok (.ireturn, 1) := by decide +kernel
theorem dX12_second_0 : decode cX12_second 0 = .ok (.aload_n 0, 1) := by decide +kernel
theorem dX12_second_1 : decode cX12_second 1 = .ok (.getfield 44, 3) := by decide +kernel
theorem dX12_second_4 : decode cX12_second 4 = .ok (.iconst 1, 1) := by decide +kernel
theorem dX12_second_5 : decode cX12_second 5 = .ok (.iadd, 1) := by decide +kernel
theorem dX12_second_6 : decode cX12_second 6 = .ok (.aload_n 0, 1) := by decide +kernel
theorem dX12_second_7 : decode cX12_second 7 = .ok (.getfield 41, 3) := by decide +kernel
theorem dX12_second_10 : decode cX12_second 10 = .ok (.if_icmp .ge 17, 3) := by decide +kernel
theorem dX12_second_13 : decode cX12_second 13 = .ok (.aload_n 0, 1) := by decide +kernel
theorem dX12_second_14 : decode cX12_second 14 = .ok (.getfield 50, 3) := by decide +kernel
theorem dX12_second_17 : decode cX12_second 17 = .ok (.aload_n 0, 1) := by decide +kernel
theorem dX12_second_18 : decode cX12_second 18 = .ok (.getfield 44, 3) := by decide +kernel
theorem dX12_second_21 : decode cX12_second 21 = .ok (.iconst 1, 1) := by decide +kernel
theorem dX12_second_22 : decode cX12_second 22 = .ok (.iadd, 1) := by decide +kernel
theorem dX12_second_23 : decode cX12_second 23 = .ok (.iaload, 1) := by decide +kernel
theorem dX12_second_24 : decode cX12_second 24 = .ok (.goto 4, 3) := by decide +kernel
theorem dX12_second_27 : decode cX12_second 27 = .ok (.iconst (-1), 1) := by decide +kernel
theorem dX12_second_28 : decode cX12_second 28 = .ok (.ireturn, 1) := by decide +kernel
theorem dX12_takes_0 : decode cX12_takes 0 = .ok (.aload_n 0, 1) := by decide +kernel
theorem dX12_takes_1 : decode cX12_takes 1 = .ok (.invokevirtual 252, 3) := by decide +kernel
theorem dX12_takes_4 : decode cX12_takes 4 = .ok (.iload_n 1, 1) := by decide +kernel
theorem dX12_takes_5 : decode cX12_takes 5 = .ok (.if_icmp .eq 5, 3) := by decide +kernel
theorem dX12_takes_8 : decode cX12_takes 8 = .ok (.iconst 0, 1) := by decide +kernel
theorem dX12_takes_9 : decode cX12_takes 9 = .ok (.ireturn, 1) := by decide +kernel
theorem dX12_takes_10 : decode cX12_takes 10 = .ok (.aload_n 0, 1) := by decide +kernel
theorem dX12_takes_11 : decode cX12_takes 11 = .ok (.dup, 1) := by decide +kernel
theorem dX12_takes_12 : decode cX12_takes 12 = .ok (.getfield 44, 3) := by decide +kernel
theorem dX12_takes_15 : decode cX12_takes 15 = .ok (.iconst 1, 1) := by decide +kernel
theorem dX12_takes_16 : decode cX12_takes 16 = .ok (.iadd, 1) := by decide +kernel
theorem dX12_takes_17 : decode cX12_takes 17 = .ok (.putfield 44, 3) := by decide +kernel
theorem dX12_takes_20 : decode cX12_takes 20 = .ok (.iconst 1, 1) := by decide +kernel
theorem dX12_takes_21 : decode cX12_takes 21 = .ok (.ireturn, 1) := by decide +kernel
theorem dX12_takesWord_0 : decode cX12_takesWord 0 = .ok (.iconst 0, 1) := by decide +kernel
theorem dX12_takesWord_1 : decode cX12_takesWord 1 = .ok (.istore_n 3, 1) := by decide +kernel
theorem dX12_takesWord_2 : decode cX12_takesWord 2 = .ok (.iload_n 3, 1) := by decide +kernel
theorem dX12_takesWord_3 : decode cX12_takesWord 3 = .ok (.iload_n 2, 1) := by decide +kernel
theorem dX12_takesWord_4 : decode cX12_takesWord 4 = .ok (.if_icmp .ge 26, 3) := by decide +kernel
theorem dX12_takesWord_7 : decode cX12_takesWord 7 = .ok (.aload_n 0, 1) := by decide +kernel
theorem dX12_takesWord_8 : decode cX12_takesWord 8 = .ok (.aload_n 0, 1) := by decide +kernel
theorem dX12_takesWord_9 : decode cX12_takesWord 9 = .ok (.getfield 83, 3) := by decide +kernel
theorem dX12_takesWord_12 : decode cX12_takesWord 12 = .ok (.iload_n 1, 1) := by decide +kernel
theorem dX12_takesWord_13 : decode cX12_takesWord 13 = .ok (.iload_n 3, 1) := by decide +kernel
theorem dX12_takesWord_14 : decode cX12_takesWord 14 = .ok (.iadd, 1) := by decide +kernel
theorem dX12_takesWord_15 : decode cX12_takesWord 15 = .ok (.iaload, 1) := by decide +kernel
theorem dX12_takesWord_16 : decode cX12_takesWord 16 = .ok (.invokevirtual 256, 3) := by decide +kernel
theorem dX12_takesWord_19 : decode cX12_takesWord 19 = .ok (.ifCond .ne 5, 3) := by decide +kernel
theorem dX12_takesWord_22 : decode cX12_takesWord 22 = .ok (.iconst 0, 1) := by decide +kernel
theorem dX12_takesWord_23 : decode cX12_takesWord 23 = .ok (.ireturn, 1) := by decide +kernel
theorem dX12_takesWord_24 : decode cX12_takesWord 24 = .ok (.iinc 3 1, 3) := by decide +kernel
theorem dX12_takesWord_27 : decode cX12_takesWord 27 = .ok (.goto (-25), 3) := by decide +kernel
theorem dX12_takesWord_30 : decode cX12_takesWord 30 = .ok (.aload_n 0, 1) := by decide +kernel
theorem dX12_takesWord_31 : decode cX12_takesWord 31 = .ok (.bipush 32, 2) := by decide +kernel
theorem dX12_takesWord_33 : decode cX12_takesWord 33 = .ok (.invokevirtual 256, 3) := by decide +kernel
theorem dX12_takesWord_36 : decode cX12_takesWord 36 = .ok (.ireturn, 1) := by decide +kernel
theorem dX12_isDigit_0 : decode cX12_isDigit 0 = .ok (.aload_n 0, 1) := by decide +kernel
theorem dX12_isDigit_1 : decode cX12_isDigit 1 = .ok (.aload_n 0, 1) := by decide +kernel
theorem dX12_isDigit_2 : decode cX12_isDigit 2 = .ok (.invokevirtual 252, 3) := by decide +kernel
theorem dX12_isDigit_5 : decode cX12_isDigit 5 = .ok (.bipush 48, 2) := by decide +kernel
theorem dX12_isDigit_7 : decode cX12_isDigit 7 = .ok (.bipush 57, 2) := by decide +kernel
theorem dX12_isDigit_9 : decode cX12_isDigit 9 = .ok (.invokevirtual 234, 3) := by decide +kernel
theorem dX12_isDigit_12 : decode cX12_isDigit 12 = .ok (.ireturn, 1) := by decide +kernel
theorem dX12_takesNumber_0 : decode cX12_takesNumber 0 = .ok (.aload_n 0, 1) := by decide +kernel
theorem dX12_takesNumber_1 : decode cX12_takesNumber 1 = .ok (.invokevirtual 259, 3) := by decide +kernel
theorem dX12_takesNumber_4 : decode cX12_takesNumber 4 = .ok (.ifCond .ne 5, 3) := by decide +kernel
theorem dX12_takesNumber_7 : decode cX12_takesNumber 7 = .ok (.iconst 0, 1) := by decide +kernel
theorem dX12_takesNumber_8 : decode cX12_takesNumber 8 = .ok (.ireturn, 1) := by decide +kernel
theorem dX12_takesNumber_9 : decode cX12_takesNumber 9 = .ok (.aload_n 0, 1) := by decide +kernel
theorem dX12_takesNumber_10 : decode cX12_takesNumber 10 = .ok (.iconst 0, 1) := by decide +kernel
theorem dX12_takesNumber_11 : decode cX12_takesNumber 11 = .ok (.putfield 47, 3) := by decide +kernel
theorem dX12_takesNumber_14 : decode cX12_takesNumber 14 = .ok (.iconst 0, 1) := by decide +kernel
theorem dX12_takesNumber_15 : decode cX12_takesNumber 15 = .ok (.istore_n 1, 1) := by decide +kernel
theorem dX12_takesNumber_16 : decode cX12_takesNumber 16 = .ok (.iload_n 1, 1) := by decide +kernel
theorem dX12_takesNumber_17 : decode cX12_takesNumber 17 = .ok (.iconst 2, 1) := by decide +kernel
theorem dX12_takesNumber_18 : decode cX12_takesNumber 18 = .ok (.if_icmp .ge 45, 3) := by decide +kernel
theorem dX12_takesNumber_21 : decode cX12_takesNumber 21 = .ok (.aload_n 0, 1) := by decide +kernel
theorem dX12_takesNumber_22 : decode cX12_takesNumber 22 = .ok (.invokevirtual 259, 3) := by decide +kernel
theorem dX12_takesNumber_25 : decode cX12_takesNumber 25 = .ok (.ifCond .eq 38, 3) := by decide +kernel
theorem dX12_takesNumber_28 : decode cX12_takesNumber 28 = .ok (.aload_n 0, 1) := by decide +kernel
theorem dX12_takesNumber_29 : decode cX12_takesNumber 29 = .ok (.bipush 10, 2) := by decide +kernel
theorem dX12_takesNumber_31 : decode cX12_takesNumber 31 = .ok (.aload_n 0, 1) := by decide +kernel
theorem dX12_takesNumber_32 : decode cX12_takesNumber 32 = .ok (.getfield 47, 3) := by decide +kernel
theorem dX12_takesNumber_35 : decode cX12_takesNumber 35 = .ok (.imul, 1) := by decide +kernel
theorem dX12_takesNumber_36 : decode cX12_takesNumber 36 = .ok (.aload_n 0, 1) := by decide +kernel
theorem dX12_takesNumber_37 : decode cX12_takesNumber 37 = .ok (.invokevirtual 252, 3) := by decide +kernel
theorem dX12_takesNumber_40 : decode cX12_takesNumber 40 = .ok (.iadd, 1) := by decide +kernel
theorem dX12_takesNumber_41 : decode cX12_takesNumber 41 = .ok (.bipush 48, 2) := by decide +kernel
theorem dX12_takesNumber_43 : decode cX12_takesNumber 43 = .ok (.isub, 1) := by decide +kernel
theorem dX12_takesNumber_44 : decode cX12_takesNumber 44 = .ok (.putfield 47, 3) := by decide +kernel
theorem dX12_takesNumber_47 : decode cX12_takesNumber 47 = .ok (.aload_n 0, 1) := by decide +kernel
theorem dX12_takesNumber_48 : decode cX12_takesNumber 48 = .ok (.dup, 1) := by decide +kernel
theorem dX12_takesNumber_49 : decode cX12_takesNumber 49 = .ok (.getfield 44, 3) := by decide +kernel
theorem dX12_takesNumber_52 : decode cX12_takesNumber 52 = .ok (.iconst 1, 1) := by decide +kernel
theorem dX12_takesNumber_53 : decode cX12_takesNumber 53 = .ok (.iadd, 1) := by decide +kernel
theorem dX12_takesNumber_54 : decode cX12_takesNumber 54 = .ok (.putfield 44, 3) := by decide +kernel
theorem dX12_takesNumber_57 : decode cX12_takesNumber 57 = .ok (.iinc 1 1, 3) := by decide +kernel
theorem dX12_takesNumber_60 : decode cX12_takesNumber 60 = .ok (.goto (-44), 3) := by decide +kernel
theorem dX12_takesNumber_63 : decode cX12_takesNumber 63 = .ok (.iconst 1, 1) := by decide +kernel
theorem dX12_takesNumber_64 : decode cX12_takesNumber 64 = .ok (.ireturn, 1) := by decide +kernel
theorem dX12_emits_0 : decode cX12_emits 0 = .ok (.aload_n 0, 1) := by decide +kernel
theorem dX12_emits_1 : decode cX12_emits 1 = .ok (.getfield 68, 3) := by decide +kernel
theorem dX12_emits_4 : decode cX12_emits 4 = .ok (.aload_n 0, 1) := by decide +kernel
theorem dX12_emits_5 : decode cX12_emits 5 = .ok (.getfield 74, 3) := by decide +kernel
theorem dX12_emits_8 : decode cX12_emits 8 = .ok (.iload_n 1, 1) := by decide +kernel
theorem dX12_emits_9 : decode cX12_emits 9 = .ok (.iastore, 1) := by decide +kernel
theorem dX12_emits_10 : decode cX12_emits 10 = .ok (.aload_n 0, 1) := by decide +kernel
theorem dX12_emits_11 : decode cX12_emits 11 = .ok (.dup, 1) := by decide +kernel
theorem dX12_emits_12 : decode cX12_emits 12 = .ok (.getfield 74, 3) := by decide +kernel
theorem dX12_emits_15 : decode cX12_emits 15 = .ok (.iconst 1, 1) := by decide +kernel
theorem dX12_emits_16 : decode cX12_emits 16 = .ok (.iadd, 1) := by decide +kernel
theorem dX12_emits_17 : decode cX12_emits 17 = .ok (.putfield 74, 3) := by decide +kernel
theorem dX12_emits_20 : decode cX12_emits 20 = .ok (.return_, 1) := by decide +kernel
theorem dX12_whole_0 : decode cX12_whole 0 = .ok (.aload_n 0, 1) := by decide +kernel
theorem dX12_whole_1 : decode cX12_whole 1 = .ok (.getfield 77, 3) := by decide +kernel
theorem dX12_whole_4 : decode cX12_whole 4 = .ok (.ifCond .le 48, 3) := by decide +kernel
theorem dX12_whole_7 : decode cX12_whole 7 = .ok (.aload_n 0, 1) := by decide +kernel
theorem dX12_whole_8 : decode cX12_whole 8 = .ok (.getfield 71, 3) := by decide +kernel
theorem dX12_whole_11 : decode cX12_whole 11 = .ok (.aload_n 0, 1) := by decide +kernel
theorem dX12_whole_12 : decode cX12_whole 12 = .ok (.getfield 77, 3) := by decide +kernel
theorem dX12_whole_15 : decode cX12_whole 15 = .ok (.iconst 1, 1) := by decide +kernel
theorem dX12_whole_16 : decode cX12_whole 16 = .ok (.isub, 1) := by decide +kernel
theorem dX12_whole_17 : decode cX12_whole 17 = .ok (.iaload, 1) := by decide +kernel
theorem dX12_whole_18 : decode cX12_whole 18 = .ok (.bipush 33, 2) := by decide +kernel
theorem dX12_whole_20 : decode cX12_whole 20 = .ok (.if_icmp .ne 32, 3) := by decide +kernel
theorem dX12_whole_23 : decode cX12_whole 23 = .ok (.aload_n 0, 1) := by decide +kernel
theorem dX12_whole_24 : decode cX12_whole 24 = .ok (.bipush (-33), 2) := by decide +kernel
theorem dX12_whole_26 : decode cX12_whole 26 = .ok (.invokevirtual 263, 3) := by decide +kernel
theorem dX12_whole_29 : decode cX12_whole 29 = .ok (.aload_n 0, 1) := by decide +kernel
theorem dX12_whole_30 : decode cX12_whole 30 = .ok (.dup, 1) := by decide +kernel
theorem dX12_whole_31 : decode cX12_whole 31 = .ok (.getfield 77, 3) := by decide +kernel
theorem dX12_whole_34 : decode cX12_whole 34 = .ok (.iconst 1, 1) := by decide +kernel
theorem dX12_whole_35 : decode cX12_whole 35 = .ok (.isub, 1) := by decide +kernel
theorem dX12_whole_36 : decode cX12_whole 36 = .ok (.putfield 77, 3) := by decide +kernel
theorem dX12_whole_39 : decode cX12_whole 39 = .ok (.aload_n 0, 1) := by decide +kernel
theorem dX12_whole_40 : decode cX12_whole 40 = .ok (.dup, 1) := by decide +kernel
theorem dX12_whole_41 : decode cX12_whole 41 = .ok (.getfield 80, 3) := by decide +kernel
theorem dX12_whole_44 : decode cX12_whole 44 = .ok (.iconst 1, 1) := by decide +kernel
theorem dX12_whole_45 : decode cX12_whole 45 = .ok (.isub, 1) := by decide +kernel
theorem dX12_whole_46 : decode cX12_whole 46 = .ok (.putfield 80, 3) := by decide +kernel
theorem dX12_whole_49 : decode cX12_whole 49 = .ok (.goto (-49), 3) := by decide +kernel
theorem dX12_whole_52 : decode cX12_whole 52 = .ok (.return_, 1) := by decide +kernel
theorem dX12_settle_0 : decode cX12_settle 0 = .ok (.aload_n 0, 1) := by decide +kernel
theorem dX12_settle_1 : decode cX12_settle 1 = .ok (.getfield 77, 3) := by decide +kernel
theorem dX12_settle_4 : decode cX12_settle 4 = .ok (.ifCond .le 68, 3) := by decide +kernel
theorem dX12_settle_7 : decode cX12_settle 7 = .ok (.aload_n 0, 1) := by decide +kernel
theorem dX12_settle_8 : decode cX12_settle 8 = .ok (.getfield 71, 3) := by decide +kernel
theorem dX12_settle_11 : decode cX12_settle 11 = .ok (.aload_n 0, 1) := by decide +kernel
theorem dX12_settle_12 : decode cX12_settle 12 = .ok (.getfield 77, 3) := by decide +kernel
theorem dX12_settle_15 : decode cX12_settle 15 = .ok (.iconst 1, 1) := by decide +kernel
theorem dX12_settle_16 : decode cX12_settle 16 = .ok (.isub, 1) := by decide +kernel
theorem dX12_settle_17 : decode cX12_settle 17 = .ok (.iaload, 1) := by decide +kernel
theorem dX12_settle_18 : decode cX12_settle 18 = .ok (.bipush 38, 2) := by decide +kernel
theorem dX12_settle_20 : decode cX12_settle 20 = .ok (.if_icmp .eq 25, 3) := by decide +kernel
theorem dX12_settle_23 : decode cX12_settle 23 = .ok (.aload_n 0, 1) := by decide +kernel
theorem dX12_settle_24 : decode cX12_settle 24 = .ok (.getfield 71, 3) := by decide +kernel
theorem dX12_settle_27 : decode cX12_settle 27 = .ok (.aload_n 0, 1) := by decide +kernel
theorem dX12_settle_28 : decode cX12_settle 28 = .ok (.getfield 77, 3) := by decide +kernel
theorem dX12_settle_31 : decode cX12_settle 31 = .ok (.iconst 1, 1) := by decide +kernel
theorem dX12_settle_32 : decode cX12_settle 32 = .ok (.isub, 1) := by decide +kernel
theorem dX12_settle_33 : decode cX12_settle 33 = .ok (.iaload, 1) := by decide +kernel
theorem dX12_settle_34 : decode cX12_settle 34 = .ok (.bipush 124, 2) := by decide +kernel
theorem dX12_settle_36 : decode cX12_settle 36 = .ok (.if_icmp .ne 36, 3) := by decide +kernel
theorem dX12_settle_39 : decode cX12_settle 39 = .ok (.iload_n 1, 1) := by decide +kernel
theorem dX12_settle_40 : decode cX12_settle 40 = .ok (.bipush 38, 2) := by decide +kernel
theorem dX12_settle_42 : decode cX12_settle 42 = .ok (.if_icmp .eq 30, 3) := by decide +kernel
theorem dX12_settle_45 : decode cX12_settle 45 = .ok (.aload_n 0, 1) := by decide +kernel
theorem dX12_settle_46 : decode cX12_settle 46 = .ok (.dup, 1) := by decide +kernel
theorem dX12_settle_47 : decode cX12_settle 47 = .ok (.getfield 77, 3) := by decide +kernel
theorem dX12_settle_50 : decode cX12_settle 50 = .ok (.iconst 1, 1) := by decide +kernel
theorem dX12_settle_51 : decode cX12_settle 51 = .ok (.isub, 1) := by decide +kernel
theorem dX12_settle_52 : decode cX12_settle 52 = .ok (.putfield 77, 3) := by decide +kernel
theorem dX12_settle_55 : decode cX12_settle 55 = .ok (.aload_n 0, 1) := by decide +kernel
theorem dX12_settle_56 : decode cX12_settle 56 = .ok (.aload_n 0, 1) := by decide +kernel
theorem dX12_settle_57 : decode cX12_settle 57 = .ok (.getfield 71, 3) := by decide +kernel
theorem dX12_settle_60 : decode cX12_settle 60 = .ok (.aload_n 0, 1) := by decide +kernel
theorem dX12_settle_61 : decode cX12_settle 61 = .ok (.getfield 77, 3) := by decide +kernel
theorem dX12_settle_64 : decode cX12_settle 64 = .ok (.iaload, 1) := by decide +kernel
theorem dX12_settle_65 : decode cX12_settle 65 = .ok (.ineg, 1) := by decide +kernel
theorem dX12_settle_66 : decode cX12_settle 66 = .ok (.invokevirtual 263, 3) := by decide +kernel
theorem dX12_settle_69 : decode cX12_settle 69 = .ok (.goto (-69), 3) := by decide +kernel
theorem dX12_settle_72 : decode cX12_settle 72 = .ok (.return_, 1) := by decide +kernel
theorem dX12_place_0 : decode cX12_place 0 = .ok (.iload_n 1, 1) := by decide +kernel
theorem dX12_place_1 : decode cX12_place 1 = .ok (.tableswitch 103 100 118 #[101, 103, 103, 103, 97, 103, 103, 93, 103, 103, 103, 103, 91, 103, 99, 103, 103, 103, 95], 91) := by decide +kernel
theorem dX12_place_92 : decode cX12_place 92 = .ok (.iconst 0, 1) := by decide +kernel
theorem dX12_place_93 : decode cX12_place 93 = .ok (.ireturn, 1) := by decide +kernel
theorem dX12_place_94 : decode cX12_place 94 = .ok (.iconst 1, 1) := by decide +kernel
theorem dX12_place_95 : decode cX12_place 95 = .ok (.ireturn, 1) := by decide +kernel
theorem dX12_place_96 : decode cX12_place 96 = .ok (.iconst 2, 1) := by decide +kernel
theorem dX12_place_97 : decode cX12_place 97 = .ok (.ireturn, 1) := by decide +kernel
theorem dX12_place_98 : decode cX12_place 98 = .ok (.iconst 3, 1) := by decide +kernel
theorem dX12_place_99 : decode cX12_place 99 = .ok (.ireturn, 1) := by decide +kernel
theorem dX12_place_100 : decode cX12_place 100 = .ok (.iconst 4, 1) := by decide +kernel
theorem dX12_place_101 : decode cX12_place 101 = .ok (.ireturn, 1) := by decide +kernel
theorem dX12_place_102 : decode cX12_place 102 = .ok (.iconst 5, 1) := by decide +kernel
theorem dX12_place_103 : decode cX12_place 103 = .ok (.ireturn, 1) := by decide +kernel
theorem dX12_place_104 : decode cX12_place 104 = .ok (.iconst (-1), 1) := by decide +kernel
theorem dX12_place_105 : decode cX12_place 105 = .ok (.ireturn, 1) := by decide +kernel
theorem dX12_takesTest_0 : decode cX12_takesTest 0 = .ok (.aload_n 0, 1) := by decide +kernel
theorem dX12_takesTest_1 : decode cX12_takesTest 1 = .ok (.aload_n 0, 1) := by decide +kernel
theorem dX12_takesTest_2 : decode cX12_takesTest 2 = .ok (.invokevirtual 252, 3) := by decide +kernel
theorem dX12_takesTest_5 : decode cX12_takesTest 5 = .ok (.invokevirtual 267, 3) := by decide +kernel
theorem dX12_takesTest_8 : decode cX12_takesTest 8 = .ok (.istore_n 1, 1) := by decide +kernel
theorem dX12_takesTest_9 : decode cX12_takesTest 9 = .ok (.iload_n 1, 1) := by decide +kernel
theorem dX12_takesTest_10 : decode cX12_takesTest 10 = .ok (.ifCond .ge 5, 3) := by decide +kernel
theorem dX12_takesTest_13 : decode cX12_takesTest 13 = .ok (.iconst 0, 1) := by decide +kernel
theorem dX12_takesTest_14 : decode cX12_takesTest 14 = .ok (.ireturn, 1) := by decide +kernel
theorem dX12_takesTest_15 : decode cX12_takesTest 15 = .ok (.aload_n 0, 1) := by decide +kernel
theorem dX12_takesTest_16 : decode cX12_takesTest 16 = .ok (.dup, 1) := by decide +kernel
theorem dX12_takesTest_17 : decode cX12_takesTest 17 = .ok (.getfield 44, 3) := by decide +kernel
theorem dX12_takesTest_20 : decode cX12_takesTest 20 = .ok (.iconst 1, 1) := by decide +kernel
theorem dX12_takesTest_21 : decode cX12_takesTest 21 = .ok (.iadd, 1) := by decide +kernel
theorem dX12_takesTest_22 : decode cX12_takesTest 22 = .ok (.putfield 44, 3) := by decide +kernel
theorem dX12_takesTest_25 : decode cX12_takesTest 25 = .ok (.aload_n 0, 1) := by decide +kernel
theorem dX12_takesTest_26 : decode cX12_takesTest 26 = .ok (.invokevirtual 252, 3) := by decide +kernel
theorem dX12_takesTest_29 : decode cX12_takesTest 29 = .ok (.istore_n 2, 1) := by decide +kernel
theorem dX12_takesTest_30 : decode cX12_takesTest 30 = .ok (.aload_n 0, 1) := by decide +kernel
theorem dX12_takesTest_31 : decode cX12_takesTest 31 = .ok (.iload_n 2, 1) := by decide +kernel
theorem dX12_takesTest_32 : decode cX12_takesTest 32 = .ok (.bipush 60, 2) := by decide +kernel
theorem dX12_takesTest_34 : decode cX12_takesTest 34 = .ok (.bipush 62, 2) := by decide +kernel
theorem dX12_takesTest_36 : decode cX12_takesTest 36 = .ok (.invokevirtual 234, 3) := by decide +kernel
theorem dX12_takesTest_39 : decode cX12_takesTest 39 = .ok (.ifCond .ne 5, 3) := by decide +kernel
theorem dX12_takesTest_42 : decode cX12_takesTest 42 = .ok (.iconst 0, 1) := by decide +kernel
theorem dX12_takesTest_43 : decode cX12_takesTest 43 = .ok (.ireturn, 1) := by decide +kernel
theorem dX12_takesTest_44 : decode cX12_takesTest 44 = .ok (.aload_n 0, 1) := by decide +kernel
theorem dX12_takesTest_45 : decode cX12_takesTest 45 = .ok (.dup, 1) := by decide +kernel
theorem dX12_takesTest_46 : decode cX12_takesTest 46 = .ok (.getfield 44, 3) := by decide +kernel
theorem dX12_takesTest_49 : decode cX12_takesTest 49 = .ok (.iconst 1, 1) := by decide +kernel
theorem dX12_takesTest_50 : decode cX12_takesTest 50 = .ok (.iadd, 1) := by decide +kernel
theorem dX12_takesTest_51 : decode cX12_takesTest 51 = .ok (.putfield 44, 3) := by decide +kernel
theorem dX12_takesTest_54 : decode cX12_takesTest 54 = .ok (.aload_n 0, 1) := by decide +kernel
theorem dX12_takesTest_55 : decode cX12_takesTest 55 = .ok (.invokevirtual 271, 3) := by decide +kernel
theorem dX12_takesTest_58 : decode cX12_takesTest 58 = .ok (.ifCond .ne 5, 3) := by decide +kernel
theorem dX12_takesTest_61 : decode cX12_takesTest 61 = .ok (.iconst 0, 1) := by decide +kernel
theorem dX12_takesTest_62 : decode cX12_takesTest 62 = .ok (.ireturn, 1) := by decide +kernel
theorem dX12_takesTest_63 : decode cX12_takesTest 63 = .ok (.aload_n 0, 1) := by decide +kernel
theorem dX12_takesTest_64 : decode cX12_takesTest 64 = .ok (.sipush 1000, 3) := by decide +kernel
theorem dX12_takesTest_67 : decode cX12_takesTest 67 = .ok (.iload_n 1, 1) := by decide +kernel
theorem dX12_takesTest_68 : decode cX12_takesTest 68 = .ok (.imul, 1) := by decide +kernel
theorem dX12_takesTest_69 : decode cX12_takesTest 69 = .ok (.bipush 100, 2) := by decide +kernel
theorem dX12_takesTest_71 : decode cX12_takesTest 71 = .ok (.iload_n 2, 1) := by decide +kernel
theorem dX12_takesTest_72 : decode cX12_takesTest 72 = .ok (.bipush 60, 2) := by decide +kernel
theorem dX12_takesTest_74 : decode cX12_takesTest 74 = .ok (.isub, 1) := by decide +kernel
theorem dX12_takesTest_75 : decode cX12_takesTest 75 = .ok (.imul, 1) := by decide +kernel
theorem dX12_takesTest_76 : decode cX12_takesTest 76 = .ok (.iadd, 1) := by decide +kernel
theorem dX12_takesTest_77 : decode cX12_takesTest 77 = .ok (.aload_n 0, 1) := by decide +kernel
theorem dX12_takesTest_78 : decode cX12_takesTest 78 = .ok (.getfield 47, 3) := by decide +kernel
theorem dX12_takesTest_81 : decode cX12_takesTest 81 = .ok (.iadd, 1) := by decide +kernel
theorem dX12_takesTest_82 : decode cX12_takesTest 82 = .ok (.invokevirtual 263, 3) := by decide +kernel
theorem dX12_takesTest_85 : decode cX12_takesTest 85 = .ok (.aload_n 0, 1) := by decide +kernel
theorem dX12_takesTest_86 : decode cX12_takesTest 86 = .ok (.invokevirtual 274, 3) := by decide +kernel
theorem dX12_takesTest_89 : decode cX12_takesTest 89 = .ok (.iconst 1, 1) := by decide +kernel
theorem dX12_takesTest_90 : decode cX12_takesTest 90 = .ok (.ireturn, 1) := by decide +kernel
theorem dX12_takesE_0 : decode cX12_takesE 0 = .ok (.aload_n 0, 1) := by decide +kernel
theorem dX12_takesE_1 : decode cX12_takesE 1 = .ok (.iconst 0, 1) := by decide +kernel
theorem dX12_takesE_2 : decode cX12_takesE 2 = .ok (.putfield 77, 3) := by decide +kernel
theorem dX12_takesE_5 : decode cX12_takesE 5 = .ok (.aload_n 0, 1) := by decide +kernel
theorem dX12_takesE_6 : decode cX12_takesE 6 = .ok (.iconst 0, 1) := by decide +kernel
theorem dX12_takesE_7 : decode cX12_takesE 7 = .ok (.putfield 80, 3) := by decide +kernel
theorem dX12_takesE_10 : decode cX12_takesE 10 = .ok (.aload_n 0, 1) := by decide +kernel
theorem dX12_takesE_11 : decode cX12_takesE 11 = .ok (.getfield 62, 3) := by decide +kernel
theorem dX12_takesE_14 : decode cX12_takesE 14 = .ok (.iload_n 1, 1) := by decide +kernel
theorem dX12_takesE_15 : decode cX12_takesE 15 = .ok (.aload_n 0, 1) := by decide +kernel
theorem dX12_takesE_16 : decode cX12_takesE 16 = .ok (.getfield 74, 3) := by decide +kernel
theorem dX12_takesE_19 : decode cX12_takesE 19 = .ok (.iastore, 1) := by decide +kernel
theorem dX12_takesE_20 : decode cX12_takesE 20 = .ok (.iconst 1, 1) := by decide +kernel
theorem dX12_takesE_21 : decode cX12_takesE 21 = .ok (.istore_n 2, 1) := by decide +kernel
theorem dX12_takesE_22 : decode cX12_takesE 22 = .ok (.aload_n 0, 1) := by decide +kernel
theorem dX12_takesE_23 : decode cX12_takesE 23 = .ok (.invokevirtual 252, 3) := by decide +kernel
theorem dX12_takesE_26 : decode cX12_takesE 26 = .ok (.istore_n 3, 1) := by decide +kernel
theorem dX12_takesE_27 : decode cX12_takesE 27 = .ok (.iload_n 2, 1) := by decide +kernel
theorem dX12_takesE_28 : decode cX12_takesE 28 = .ok (.ifCond .eq 82, 3) := by decide +kernel
theorem dX12_takesE_31 : decode cX12_takesE 31 = .ok (.iload_n 3, 1) := by decide +kernel
theorem dX12_takesE_32 : decode cX12_takesE 32 = .ok (.bipush 33, 2) := by decide +kernel
theorem dX12_takesE_34 : decode cX12_takesE 34 = .ok (.if_icmp .eq 9, 3) := by decide +kernel
theorem dX12_takesE_37 : decode cX12_takesE 37 = .ok (.iload_n 3, 1) := by decide +kernel
theorem dX12_takesE_38 : decode cX12_takesE 38 = .ok (.bipush 40, 2) := by decide +kernel
theorem dX12_takesE_40 : decode cX12_takesE 40 = .ok (.if_icmp .ne 56, 3) := by decide +kernel
theorem dX12_takesE_43 : decode cX12_takesE 43 = .ok (.aload_n 0, 1) := by decide +kernel
theorem dX12_takesE_44 : decode cX12_takesE 44 = .ok (.getfield 80, 3) := by decide +kernel
theorem dX12_takesE_47 : decode cX12_takesE 47 = .ok (.iconst 4, 1) := by decide +kernel
theorem dX12_takesE_48 : decode cX12_takesE 48 = .ok (.if_icmp .ne 5, 3) := by decide +kernel
theorem dX12_takesE_51 : decode cX12_takesE 51 = .ok (.iconst 0, 1) := by decide +kernel
theorem dX12_takesE_52 : decode cX12_takesE 52 = .ok (.ireturn, 1) := by decide +kernel
theorem dX12_takesE_53 : decode cX12_takesE 53 = .ok (.aload_n 0, 1) := by decide +kernel
theorem dX12_takesE_54 : decode cX12_takesE 54 = .ok (.dup, 1) := by decide +kernel
theorem dX12_takesE_55 : decode cX12_takesE 55 = .ok (.getfield 80, 3) := by decide +kernel
theorem dX12_takesE_58 : decode cX12_takesE 58 = .ok (.iconst 1, 1) := by decide +kernel
theorem dX12_takesE_59 : decode cX12_takesE 59 = .ok (.iadd, 1) := by decide +kernel
theorem dX12_takesE_60 : decode cX12_takesE 60 = .ok (.putfield 80, 3) := by decide +kernel
theorem dX12_takesE_63 : decode cX12_takesE 63 = .ok (.aload_n 0, 1) := by decide +kernel
theorem dX12_takesE_64 : decode cX12_takesE 64 = .ok (.getfield 71, 3) := by decide +kernel
theorem dX12_takesE_67 : decode cX12_takesE 67 = .ok (.aload_n 0, 1) := by decide +kernel
theorem dX12_takesE_68 : decode cX12_takesE 68 = .ok (.getfield 77, 3) := by decide +kernel
theorem dX12_takesE_71 : decode cX12_takesE 71 = .ok (.iload_n 3, 1) := by decide +kernel
theorem dX12_takesE_72 : decode cX12_takesE 72 = .ok (.iastore, 1) := by decide +kernel
theorem dX12_takesE_73 : decode cX12_takesE 73 = .ok (.aload_n 0, 1) := by decide +kernel
theorem dX12_takesE_74 : decode cX12_takesE 74 = .ok (.dup, 1) := by decide +kernel
theorem dX12_takesE_75 : decode cX12_takesE 75 = .ok (.getfield 77, 3) := by decide +kernel
theorem dX12_takesE_78 : decode cX12_takesE 78 = .ok (.iconst 1, 1) := by decide +kernel
theorem dX12_takesE_79 : decode cX12_takesE 79 = .ok (.iadd, 1) := by decide +kernel
theorem dX12_takesE_80 : decode cX12_takesE 80 = .ok (.putfield 77, 3) := by decide +kernel
theorem dX12_takesE_83 : decode cX12_takesE 83 = .ok (.aload_n 0, 1) := by decide +kernel
theorem dX12_takesE_84 : decode cX12_takesE 84 = .ok (.dup, 1) := by decide +kernel
theorem dX12_takesE_85 : decode cX12_takesE 85 = .ok (.getfield 44, 3) := by decide +kernel
theorem dX12_takesE_88 : decode cX12_takesE 88 = .ok (.iconst 1, 1) := by decide +kernel
theorem dX12_takesE_89 : decode cX12_takesE 89 = .ok (.iadd, 1) := by decide +kernel
theorem dX12_takesE_90 : decode cX12_takesE 90 = .ok (.putfield 44, 3) := by decide +kernel
theorem dX12_takesE_93 : decode cX12_takesE 93 = .ok (.goto (-71), 3) := by decide +kernel
theorem dX12_takesE_96 : decode cX12_takesE 96 = .ok (.aload_n 0, 1) := by decide +kernel
theorem dX12_takesE_97 : decode cX12_takesE 97 = .ok (.invokevirtual 277, 3) := by decide +kernel
theorem dX12_takesE_100 : decode cX12_takesE 100 = .ok (.ifCond .eq 8, 3) := by decide +kernel
theorem dX12_takesE_103 : decode cX12_takesE 103 = .ok (.iconst 0, 1) := by decide +kernel
theorem dX12_takesE_104 : decode cX12_takesE 104 = .ok (.istore_n 2, 1) := by decide +kernel
theorem dX12_takesE_105 : decode cX12_takesE 105 = .ok (.goto (-83), 3) := by decide +kernel
theorem dX12_takesE_108 : decode cX12_takesE 108 = .ok (.iconst 0, 1) := by decide +kernel
theorem dX12_takesE_109 : decode cX12_takesE 109 = .ok (.ireturn, 1) := by decide +kernel
theorem dX12_takesE_110 : decode cX12_takesE 110 = .ok (.iload_n 3, 1) := by decide +kernel
theorem dX12_takesE_111 : decode cX12_takesE 111 = .ok (.bipush 38, 2) := by decide +kernel
theorem dX12_takesE_113 : decode cX12_takesE 113 = .ok (.if_icmp .eq 9, 3) := by decide +kernel
theorem dX12_takesE_116 : decode cX12_takesE 116 = .ok (.iload_n 3, 1) := by decide +kernel
theorem dX12_takesE_117 : decode cX12_takesE 117 = .ok (.bipush 124, 2) := by decide +kernel
theorem dX12_takesE_119 : decode cX12_takesE 119 = .ok (.if_icmp .ne 43, 3) := by decide +kernel
theorem dX12_takesE_122 : decode cX12_takesE 122 = .ok (.aload_n 0, 1) := by decide +kernel
theorem dX12_takesE_123 : decode cX12_takesE 123 = .ok (.iload_n 3, 1) := by decide +kernel
theorem dX12_takesE_124 : decode cX12_takesE 124 = .ok (.invokevirtual 280, 3) := by decide +kernel
theorem dX12_takesE_127 : decode cX12_takesE 127 = .ok (.aload_n 0, 1) := by decide +kernel
theorem dX12_takesE_128 : decode cX12_takesE 128 = .ok (.getfield 71, 3) := by decide +kernel
theorem dX12_takesE_131 : decode cX12_takesE 131 = .ok (.aload_n 0, 1) := by decide +kernel
theorem dX12_takesE_132 : decode cX12_takesE 132 = .ok (.getfield 77, 3) := by decide +kernel
theorem dX12_takesE_135 : decode cX12_takesE 135 = .ok (.iload_n 3, 1) := by decide +kernel
theorem dX12_takesE_136 : decode cX12_takesE 136 = .ok (.iastore, 1) := by decide +kernel
theorem dX12_takesE_137 : decode cX12_takesE 137 = .ok (.aload_n 0, 1) := by decide +kernel
theorem dX12_takesE_138 : decode cX12_takesE 138 = .ok (.dup, 1) := by decide +kernel
theorem dX12_takesE_139 : decode cX12_takesE 139 = .ok (.getfield 77, 3) := by decide +kernel
theorem dX12_takesE_142 : decode cX12_takesE 142 = .ok (.iconst 1, 1) := by decide +kernel
theorem dX12_takesE_143 : decode cX12_takesE 143 = .ok (.iadd, 1) := by decide +kernel
theorem dX12_takesE_144 : decode cX12_takesE 144 = .ok (.putfield 77, 3) := by decide +kernel
theorem dX12_takesE_147 : decode cX12_takesE 147 = .ok (.iconst 1, 1) := by decide +kernel
theorem dX12_takesE_148 : decode cX12_takesE 148 = .ok (.istore_n 2, 1) := by decide +kernel
theorem dX12_takesE_149 : decode cX12_takesE 149 = .ok (.aload_n 0, 1) := by decide +kernel
theorem dX12_takesE_150 : decode cX12_takesE 150 = .ok (.dup, 1) := by decide +kernel
theorem dX12_takesE_151 : decode cX12_takesE 151 = .ok (.getfield 44, 3) := by decide +kernel
theorem dX12_takesE_154 : decode cX12_takesE 154 = .ok (.iconst 1, 1) := by decide +kernel
theorem dX12_takesE_155 : decode cX12_takesE 155 = .ok (.iadd, 1) := by decide +kernel
theorem dX12_takesE_156 : decode cX12_takesE 156 = .ok (.putfield 44, 3) := by decide +kernel
theorem dX12_takesE_159 : decode cX12_takesE 159 = .ok (.goto (-137), 3) := by decide +kernel
theorem dX12_takesE_162 : decode cX12_takesE 162 = .ok (.aload_n 0, 1) := by decide +kernel
theorem dX12_takesE_163 : decode cX12_takesE 163 = .ok (.bipush 124, 2) := by decide +kernel
theorem dX12_takesE_165 : decode cX12_takesE 165 = .ok (.invokevirtual 280, 3) := by decide +kernel
theorem dX12_takesE_168 : decode cX12_takesE 168 = .ok (.aload_n 0, 1) := by decide +kernel
theorem dX12_takesE_169 : decode cX12_takesE 169 = .ok (.getfield 65, 3) := by decide +kernel
theorem dX12_takesE_172 : decode cX12_takesE 172 = .ok (.iload_n 1, 1) := by decide +kernel
theorem dX12_takesE_173 : decode cX12_takesE 173 = .ok (.aload_n 0, 1) := by decide +kernel
theorem dX12_takesE_174 : decode cX12_takesE 174 = .ok (.getfield 74, 3) := by decide +kernel
theorem dX12_takesE_177 : decode cX12_takesE 177 = .ok (.iastore, 1) := by decide +kernel
theorem dX12_takesE_178 : decode cX12_takesE 178 = .ok (.aload_n 0, 1) := by decide +kernel
theorem dX12_takesE_179 : decode cX12_takesE 179 = .ok (.getfield 77, 3) := by decide +kernel
theorem dX12_takesE_182 : decode cX12_takesE 182 = .ok (.ifCond .ne 5, 3) := by decide +kernel
theorem dX12_takesE_185 : decode cX12_takesE 185 = .ok (.iconst 1, 1) := by decide +kernel
theorem dX12_takesE_186 : decode cX12_takesE 186 = .ok (.ireturn, 1) := by decide +kernel
theorem dX12_takesE_187 : decode cX12_takesE 187 = .ok (.iload_n 3, 1) := by decide +kernel
theorem dX12_takesE_188 : decode cX12_takesE 188 = .ok (.bipush 41, 2) := by decide +kernel
theorem dX12_takesE_190 : decode cX12_takesE 190 = .ok (.if_icmp .eq 5, 3) := by decide +kernel
theorem dX12_takesE_193 : decode cX12_takesE 193 = .ok (.iconst 0, 1) := by decide +kernel
theorem dX12_takesE_194 : decode cX12_takesE 194 = .ok (.ireturn, 1) := by decide +kernel
theorem dX12_takesE_195 : decode cX12_takesE 195 = .ok (.aload_n 0, 1) := by decide +kernel
theorem dX12_takesE_196 : decode cX12_takesE 196 = .ok (.dup, 1) := by decide +kernel
theorem dX12_takesE_197 : decode cX12_takesE 197 = .ok (.getfield 77, 3) := by decide +kernel
theorem dX12_takesE_200 : decode cX12_takesE 200 = .ok (.iconst 1, 1) := by decide +kernel
theorem dX12_takesE_201 : decode cX12_takesE 201 = .ok (.isub, 1) := by decide +kernel
theorem dX12_takesE_202 : decode cX12_takesE 202 = .ok (.putfield 77, 3) := by decide +kernel
theorem dX12_takesE_205 : decode cX12_takesE 205 = .ok (.aload_n 0, 1) := by decide +kernel
theorem dX12_takesE_206 : decode cX12_takesE 206 = .ok (.dup, 1) := by decide +kernel
theorem dX12_takesE_207 : decode cX12_takesE 207 = .ok (.getfield 80, 3) := by decide +kernel
theorem dX12_takesE_210 : decode cX12_takesE 210 = .ok (.iconst 1, 1) := by decide +kernel
theorem dX12_takesE_211 : decode cX12_takesE 211 = .ok (.isub, 1) := by decide +kernel
theorem dX12_takesE_212 : decode cX12_takesE 212 = .ok (.putfield 80, 3) := by decide +kernel
theorem dX12_takesE_215 : decode cX12_takesE 215 = .ok (.aload_n 0, 1) := by decide +kernel
theorem dX12_takesE_216 : decode cX12_takesE 216 = .ok (.dup, 1) := by decide +kernel
theorem dX12_takesE_217 : decode cX12_takesE 217 = .ok (.getfield 44, 3) := by decide +kernel
theorem dX12_takesE_220 : decode cX12_takesE 220 = .ok (.iconst 1, 1) := by decide +kernel
theorem dX12_takesE_221 : decode cX12_takesE 221 = .ok (.iadd, 1) := by decide +kernel
theorem dX12_takesE_222 : decode cX12_takesE 222 = .ok (.putfield 44, 3) := by decide +kernel
theorem dX12_takesE_225 : decode cX12_takesE 225 = .ok (.aload_n 0, 1) := by decide +kernel
theorem dX12_takesE_226 : decode cX12_takesE 226 = .ok (.invokevirtual 274, 3) := by decide +kernel
theorem dX12_takesE_229 : decode cX12_takesE 229 = .ok (.goto (-207), 3) := by decide +kernel
theorem dX12_takesHead_0 : decode cX12_takesHead 0 = .ok (.aload_n 0, 1) := by decide +kernel
theorem dX12_takesHead_1 : decode cX12_takesHead 1 = .ok (.invokevirtual 252, 3) := by decide +kernel
theorem dX12_takesHead_4 : decode cX12_takesHead 4 = .ok (.bipush 114, 2) := by decide +kernel
theorem dX12_takesHead_6 : decode cX12_takesHead 6 = .ok (.if_icmp .ne 18, 3) := by decide +kernel
theorem dX12_takesHead_9 : decode cX12_takesHead 9 = .ok (.aload_n 0, 1) := by decide +kernel
theorem dX12_takesHead_10 : decode cX12_takesHead 10 = .ok (.getfield 56, 3) := by decide +kernel
theorem dX12_takesHead_13 : decode cX12_takesHead 13 = .ok (.iload_n 1, 1) := by decide +kernel
theorem dX12_takesHead_14 : decode cX12_takesHead 14 = .ok (.iconst 2, 1) := by decide +kernel
theorem dX12_takesHead_15 : decode cX12_takesHead 15 = .ok (.iastore, 1) := by decide +kernel
theorem dX12_takesHead_16 : decode cX12_takesHead 16 = .ok (.aload_n 0, 1) := by decide +kernel
theorem dX12_takesHead_17 : decode cX12_takesHead 17 = .ok (.bipush 8, 2) := by decide +kernel
theorem dX12_takesHead_19 : decode cX12_takesHead 19 = .ok (.iconst 4, 1) := by decide +kernel
theorem dX12_takesHead_20 : decode cX12_takesHead 20 = .ok (.invokevirtual 283, 3) := by decide +kernel
theorem dX12_takesHead_23 : decode cX12_takesHead 23 = .ok (.ireturn, 1) := by decide +kernel
theorem dX12_takesHead_24 : decode cX12_takesHead 24 = .ok (.aload_n 0, 1) := by decide +kernel
theorem dX12_takesHead_25 : decode cX12_takesHead 25 = .ok (.getfield 56, 3) := by decide +kernel
theorem dX12_takesHead_28 : decode cX12_takesHead 28 = .ok (.iload_n 1, 1) := by decide +kernel
theorem dX12_takesHead_29 : decode cX12_takesHead 29 = .ok (.aload_n 0, 1) := by decide +kernel
theorem dX12_takesHead_30 : decode cX12_takesHead 30 = .ok (.invokevirtual 286, 3) := by decide +kernel
theorem dX12_takesHead_33 : decode cX12_takesHead 33 = .ok (.bipush 104, 2) := by decide +kernel
theorem dX12_takesHead_35 : decode cX12_takesHead 35 = .ok (.if_icmp .ne 7, 3) := by decide +kernel
theorem dX12_takesHead_38 : decode cX12_takesHead 38 = .ok (.iconst 1, 1) := by decide +kernel
theorem dX12_takesHead_39 : decode cX12_takesHead 39 = .ok (.goto 4, 3) := by decide +kernel
theorem dX12_takesHead_42 : decode cX12_takesHead 42 = .ok (.iconst 0, 1) := by decide +kernel
theorem dX12_takesHead_43 : decode cX12_takesHead 43 = .ok (.iastore, 1) := by decide +kernel
theorem dX12_takesHead_44 : decode cX12_takesHead 44 = .ok (.aload_n 0, 1) := by decide +kernel
theorem dX12_takesHead_45 : decode cX12_takesHead 45 = .ok (.getfield 56, 3) := by decide +kernel
theorem dX12_takesHead_48 : decode cX12_takesHead 48 = .ok (.iload_n 1, 1) := by decide +kernel
theorem dX12_takesHead_49 : decode cX12_takesHead 49 = .ok (.iaload, 1) := by decide +kernel
theorem dX12_takesHead_50 : decode cX12_takesHead 50 = .ok (.iconst 1, 1) := by decide +kernel
theorem dX12_takesHead_51 : decode cX12_takesHead 51 = .ok (.if_icmp .ne 12, 3) := by decide +kernel
theorem dX12_takesHead_54 : decode cX12_takesHead 54 = .ok (.aload_n 0, 1) := by decide +kernel
theorem dX12_takesHead_55 : decode cX12_takesHead 55 = .ok (.iconst 3, 1) := by decide +kernel
theorem dX12_takesHead_56 : decode cX12_takesHead 56 = .ok (.iconst 5, 1) := by decide +kernel
theorem dX12_takesHead_57 : decode cX12_takesHead 57 = .ok (.invokevirtual 283, 3) := by decide +kernel
theorem dX12_takesHead_60 : decode cX12_takesHead 60 = .ok (.goto 9, 3) := by decide +kernel
theorem dX12_takesHead_63 : decode cX12_takesHead 63 = .ok (.aload_n 0, 1) := by decide +kernel
theorem dX12_takesHead_64 : decode cX12_takesHead 64 = .ok (.iconst 0, 1) := by decide +kernel
theorem dX12_takesHead_65 : decode cX12_takesHead 65 = .ok (.iconst 3, 1) := by decide +kernel
theorem dX12_takesHead_66 : decode cX12_takesHead 66 = .ok (.invokevirtual 283, 3) := by decide +kernel
theorem dX12_takesHead_69 : decode cX12_takesHead 69 = .ok (.ireturn, 1) := by decide +kernel
theorem dX12_takesClause_0 : decode cX12_takesClause 0 = .ok (.aload_n 0, 1) := by decide +kernel
theorem dX12_takesClause_1 : decode cX12_takesClause 1 = .ok (.iload_n 1, 1) := by decide +kernel
theorem dX12_takesClause_2 : decode cX12_takesClause 2 = .ok (.invokevirtual 289, 3) := by decide +kernel
theorem dX12_takesClause_5 : decode cX12_takesClause 5 = .ok (.ifCond .eq 10, 3) := by decide +kernel
theorem dX12_takesClause_8 : decode cX12_takesClause 8 = .ok (.aload_n 0, 1) := by decide +kernel
theorem dX12_takesClause_9 : decode cX12_takesClause 9 = .ok (.invokevirtual 271, 3) := by decide +kernel
theorem dX12_takesClause_12 : decode cX12_takesClause 12 = .ok (.ifCond .ne 5, 3) := by decide +kernel
theorem dX12_takesClause_15 : decode cX12_takesClause 15 = .ok (.iconst 0, 1) := by decide +kernel
theorem dX12_takesClause_16 : decode cX12_takesClause 16 = .ok (.ireturn, 1) := by decide +kernel
