theorem dX10_testedHours_8 : decode cX10_testedHours 8 = .ok (.if_icmp .ne 10, 3) := by decide +kernel
theorem dX10_testedHours_11 : decode cX10_testedHours 11 = .ok (.aload_n 0, 1) := by decide +kernel
theorem dX10_testedHours_12 : decode cX10_testedHours 12 = .ok (.getfield 32, 3) := by decide +kernel
theorem dX10_testedHours_15 : decode cX10_testedHours 15 = .ok (.iload_n 1, 1) := by decide +kernel
theorem dX10_testedHours_16 : decode cX10_testedHours 16 = .ok (.iaload, 1) := by decide +kernel
theorem dX10_testedHours_17 : decode cX10_testedHours 17 = .ok (.ireturn, 1) := by decide +kernel
theorem dX10_testedHours_18 : decode cX10_testedHours 18 = .ok (.aload_n 2, 1) := by decide +kernel
theorem dX10_testedHours_19 : decode cX10_testedHours 19 = .ok (.aload_n 0, 1) := by decide +kernel
theorem dX10_testedHours_20 : decode cX10_testedHours 20 = .ok (.getfield 29, 3) := by decide +kernel
theorem dX10_testedHours_23 : decode cX10_testedHours 23 = .ok (.iload_n 1, 1) := by decide +kernel
theorem dX10_testedHours_24 : decode cX10_testedHours 24 = .ok (.caload, 1) := by decide +kernel
theorem dX10_testedHours_25 : decode cX10_testedHours 25 = .ok (.iload_n 3, 1) := by decide +kernel
theorem dX10_testedHours_26 : decode cX10_testedHours 26 = .ok (.invokevirtual 117, 3) := by decide +kernel
theorem dX10_testedHours_29 : decode cX10_testedHours 29 = .ok (.aload_n 0, 1) := by decide +kernel
theorem dX10_testedHours_30 : decode cX10_testedHours 30 = .ok (.getfield 25, 3) := by decide +kernel
theorem dX10_testedHours_33 : decode cX10_testedHours 33 = .ok (.iload_n 1, 1) := by decide +kernel
theorem dX10_testedHours_34 : decode cX10_testedHours 34 = .ok (.caload, 1) := by decide +kernel
theorem dX10_testedHours_35 : decode cX10_testedHours 35 = .ok (.aload_n 0, 1) := by decide +kernel
theorem dX10_testedHours_36 : decode cX10_testedHours 36 = .ok (.getfield 32, 3) := by decide +kernel
theorem dX10_testedHours_39 : decode cX10_testedHours 39 = .ok (.iload_n 1, 1) := by decide +kernel
theorem dX10_testedHours_40 : decode cX10_testedHours 40 = .ok (.iaload, 1) := by decide +kernel
theorem dX10_testedHours_41 : decode cX10_testedHours 41 = .ok (.invokestatic 120, 3) := by decide +kernel
theorem dX10_testedHours_44 : decode cX10_testedHours 44 = .ok (.ifCond .eq 9, 3) := by decide +kernel
theorem dX10_testedHours_47 : decode cX10_testedHours 47 = .ok (.sipush 4095, 3) := by decide +kernel
theorem dX10_testedHours_50 : decode cX10_testedHours 50 = .ok (.goto 4, 3) := by decide +kernel
theorem dX10_testedHours_53 : decode cX10_testedHours 53 = .ok (.iconst 0, 1) := by decide +kernel
theorem dX10_testedHours_54 : decode cX10_testedHours 54 = .ok (.ireturn, 1) := by decide +kernel
theorem dX10_addAt_0 : decode cX10_addAt 0 = .ok (.iconst 0, 1) := by decide +kernel
theorem dX10_addAt_1 : decode cX10_addAt 1 = .ok (.istore_n 3, 1) := by decide +kernel
theorem dX10_addAt_2 : decode cX10_addAt 2 = .ok (.iload_n 3, 1) := by decide +kernel
theorem dX10_addAt_3 : decode cX10_addAt 3 = .ok (.bipush 12, 2) := by decide +kernel
theorem dX10_addAt_5 : decode cX10_addAt 5 = .ok (.if_icmp .ge 24, 3) := by decide +kernel
theorem dX10_addAt_8 : decode cX10_addAt 8 = .ok (.iload_n 1, 1) := by decide +kernel
theorem dX10_addAt_9 : decode cX10_addAt 9 = .ok (.iload_n 3, 1) := by decide +kernel
theorem dX10_addAt_10 : decode cX10_addAt 10 = .ok (.ishr, 1) := by decide +kernel
theorem dX10_addAt_11 : decode cX10_addAt 11 = .ok (.iconst 1, 1) := by decide +kernel
theorem dX10_addAt_12 : decode cX10_addAt 12 = .ok (.iand, 1) := by decide +kernel
theorem dX10_addAt_13 : decode cX10_addAt 13 = .ok (.ifCond .eq 10, 3) := by decide +kernel
theorem dX10_addAt_16 : decode cX10_addAt 16 = .ok (.aload_n 0, 1) := by decide +kernel
theorem dX10_addAt_17 : decode cX10_addAt 17 = .ok (.iload_n 3, 1) := by decide +kernel
theorem dX10_addAt_18 : decode cX10_addAt 18 = .ok (.dup2, 1) := by decide +kernel
theorem dX10_addAt_19 : decode cX10_addAt 19 = .ok (.iaload, 1) := by decide +kernel
theorem dX10_addAt_20 : decode cX10_addAt 20 = .ok (.iload_n 2, 1) := by decide +kernel
theorem dX10_addAt_21 : decode cX10_addAt 21 = .ok (.iadd, 1) := by decide +kernel
theorem dX10_addAt_22 : decode cX10_addAt 22 = .ok (.iastore, 1) := by decide +kernel
theorem dX10_addAt_23 : decode cX10_addAt 23 = .ok (.iinc 3 1, 3) := by decide +kernel
theorem dX10_addAt_26 : decode cX10_addAt 26 = .ok (.goto (-24), 3) := by decide +kernel
theorem dX10_addAt_29 : decode cX10_addAt 29 = .ok (.return_, 1) := by decide +kernel
theorem dX11_init_0 : decode cX11_init 0 = .ok (.aload_n 0, 1) := by decide +kernel
theorem dX11_init_1 : decode cX11_init 1 = .ok (.invokespecial 5, 3) := by decide +kernel
theorem dX11_init_4 : decode cX11_init 4 = .ok (.bipush 7, 2) := by decide +kernel
theorem dX11_init_6 : decode cX11_init 6 = .ok (.anewarray 11, 3) := by decide +kernel
theorem dX11_init_9 : decode cX11_init 9 = .ok (.dup, 1) := by decide +kernel
theorem dX11_init_10 : decode cX11_init 10 = .ok (.iconst 0, 1) := by decide +kernel
theorem dX11_init_11 : decode cX11_init 11 = .ok (.new 11, 3) := by decide +kernel
theorem dX11_init_14 : decode cX11_init 14 = .ok (.dup, 1) := by decide +kernel
theorem dX11_init_15 : decode cX11_init 15 = .ok (.invokespecial 13, 3) := by decide +kernel
theorem dX11_init_18 : decode cX11_init 18 = .ok (.aastore, 1) := by decide +kernel
theorem dX11_init_19 : decode cX11_init 19 = .ok (.dup, 1) := by decide +kernel
theorem dX11_init_20 : decode cX11_init 20 = .ok (.iconst 1, 1) := by decide +kernel
theorem dX11_init_21 : decode cX11_init 21 = .ok (.new 14, 3) := by decide +kernel
theorem dX11_init_24 : decode cX11_init 24 = .ok (.dup, 1) := by decide +kernel
theorem dX11_init_25 : decode cX11_init 25 = .ok (.invokespecial 16, 3) := by decide +kernel
theorem dX11_init_28 : decode cX11_init 28 = .ok (.aastore, 1) := by decide +kernel
theorem dX11_init_29 : decode cX11_init 29 = .ok (.dup, 1) := by decide +kernel
theorem dX11_init_30 : decode cX11_init 30 = .ok (.iconst 2, 1) := by decide +kernel
theorem dX11_init_31 : decode cX11_init 31 = .ok (.new 17, 3) := by decide +kernel
theorem dX11_init_34 : decode cX11_init 34 = .ok (.dup, 1) := by decide +kernel
theorem dX11_init_35 : decode cX11_init 35 = .ok (.invokespecial 19, 3) := by decide +kernel
theorem dX11_init_38 : decode cX11_init 38 = .ok (.aastore, 1) := by decide +kernel
theorem dX11_init_39 : decode cX11_init 39 = .ok (.dup, 1) := by decide +kernel
theorem dX11_init_40 : decode cX11_init 40 = .ok (.iconst 3, 1) := by decide +kernel
theorem dX11_init_41 : decode cX11_init 41 = .ok (.new 20, 3) := by decide +kernel
theorem dX11_init_44 : decode cX11_init 44 = .ok (.dup, 1) := by decide +kernel
theorem dX11_init_45 : decode cX11_init 45 = .ok (.invokespecial 22, 3) := by decide +kernel
theorem dX11_init_48 : decode cX11_init 48 = .ok (.aastore, 1) := by decide +kernel
theorem dX11_init_49 : decode cX11_init 49 = .ok (.dup, 1) := by decide +kernel
theorem dX11_init_50 : decode cX11_init 50 = .ok (.iconst 4, 1) := by decide +kernel
theorem dX11_init_51 : decode cX11_init 51 = .ok (.new 23, 3) := by decide +kernel
theorem dX11_init_54 : decode cX11_init 54 = .ok (.dup, 1) := by decide +kernel
theorem dX11_init_55 : decode cX11_init 55 = .ok (.invokespecial 25, 3) := by decide +kernel
theorem dX11_init_58 : decode cX11_init 58 = .ok (.aastore, 1) := by decide +kernel
theorem dX11_init_59 : decode cX11_init 59 = .ok (.dup, 1) := by decide +kernel
theorem dX11_init_60 : decode cX11_init 60 = .ok (.iconst 5, 1) := by decide +kernel
theorem dX11_init_61 : decode cX11_init 61 = .ok (.new 26, 3) := by decide +kernel
theorem dX11_init_64 : decode cX11_init 64 = .ok (.dup, 1) := by decide +kernel
theorem dX11_init_65 : decode cX11_init 65 = .ok (.invokespecial 28, 3) := by decide +kernel
theorem dX11_init_68 : decode cX11_init 68 = .ok (.aastore, 1) := by decide +kernel
theorem dX11_init_69 : decode cX11_init 69 = .ok (.dup, 1) := by decide +kernel
theorem dX11_init_70 : decode cX11_init 70 = .ok (.bipush 6, 2) := by decide +kernel
theorem dX11_init_72 : decode cX11_init 72 = .ok (.new 29, 3) := by decide +kernel
theorem dX11_init_75 : decode cX11_init 75 = .ok (.dup, 1) := by decide +kernel
theorem dX11_init_76 : decode cX11_init 76 = .ok (.invokespecial 31, 3) := by decide +kernel
theorem dX11_init_79 : decode cX11_init 79 = .ok (.aastore, 1) := by decide +kernel
theorem dX11_init_80 : decode cX11_init 80 = .ok (.astore_n 1, 1) := by decide +kernel
theorem dX11_init_81 : decode cX11_init 81 = .ok (.aload_n 0, 1) := by decide +kernel
theorem dX11_init_82 : decode cX11_init 82 = .ok (.new 32, 3) := by decide +kernel
theorem dX11_init_85 : decode cX11_init 85 = .ok (.dup, 1) := by decide +kernel
theorem dX11_init_86 : decode cX11_init 86 = .ok (.aload_n 1, 1) := by decide +kernel
theorem dX11_init_87 : decode cX11_init 87 = .ok (.invokespecial 34, 3) := by decide +kernel
theorem dX11_init_90 : decode cX11_init 90 = .ok (.putfield 37, 3) := by decide +kernel
theorem dX11_init_93 : decode cX11_init 93 = .ok (.aload_n 0, 1) := by decide +kernel
theorem dX11_init_94 : decode cX11_init 94 = .ok (.new 32, 3) := by decide +kernel
theorem dX11_init_97 : decode cX11_init 97 = .ok (.dup, 1) := by decide +kernel
theorem dX11_init_98 : decode cX11_init 98 = .ok (.aload_n 1, 1) := by decide +kernel
theorem dX11_init_99 : decode cX11_init 99 = .ok (.invokespecial 34, 3) := by decide +kernel
theorem dX11_init_102 : decode cX11_init 102 = .ok (.putfield 43, 3) := by decide +kernel
theorem dX11_init_105 : decode cX11_init 105 = .ok (.aload_n 0, 1) := by decide +kernel
theorem dX11_init_106 : decode cX11_init 106 = .ok (.new 32, 3) := by decide +kernel
theorem dX11_init_109 : decode cX11_init 109 = .ok (.dup, 1) := by decide +kernel
theorem dX11_init_110 : decode cX11_init 110 = .ok (.aload_n 1, 1) := by decide +kernel
theorem dX11_init_111 : decode cX11_init 111 = .ok (.invokespecial 34, 3) := by decide +kernel
theorem dX11_init_114 : decode cX11_init 114 = .ok (.putfield 46, 3) := by decide +kernel
theorem dX11_init_117 : decode cX11_init 117 = .ok (.aload_n 0, 1) := by decide +kernel
theorem dX11_init_118 : decode cX11_init 118 = .ok (.bipush 100, 2) := by decide +kernel
theorem dX11_init_120 : decode cX11_init 120 = .ok (.newarray .byte, 2) := by decide +kernel
theorem dX11_init_122 : decode cX11_init 122 = .ok (.putfield 49, 3) := by decide +kernel
theorem dX11_init_125 : decode cX11_init 125 = .ok (.aload_n 0, 1) := by decide +kernel
theorem dX11_init_126 : decode cX11_init 126 = .ok (.new 53, 3) := by decide +kernel
theorem dX11_init_129 : decode cX11_init 129 = .ok (.dup, 1) := by decide +kernel
theorem dX11_init_130 : decode cX11_init 130 = .ok (.invokespecial 55, 3) := by decide +kernel
theorem dX11_init_133 : decode cX11_init 133 = .ok (.putfield 56, 3) := by decide +kernel
theorem dX11_init_136 : decode cX11_init 136 = .ok (.aload_n 0, 1) := by decide +kernel
theorem dX11_init_137 : decode cX11_init 137 = .ok (.bipush 7, 2) := by decide +kernel
theorem dX11_init_139 : decode cX11_init 139 = .ok (.bipush 64, 2) := by decide +kernel
theorem dX11_init_141 : decode cX11_init 141 = .ok (.multianewarray 60 2, 4) := by decide +kernel
theorem dX11_init_145 : decode cX11_init 145 = .ok (.putfield 62, 3) := by decide +kernel
theorem dX11_init_148 : decode cX11_init 148 = .ok (.aload_n 0, 1) := by decide +kernel
theorem dX11_init_149 : decode cX11_init 149 = .ok (.bipush 6, 2) := by decide +kernel
theorem dX11_init_151 : decode cX11_init 151 = .ok (.bipush 60, 2) := by decide +kernel
theorem dX11_init_153 : decode cX11_init 153 = .ok (.multianewarray 65 2, 4) := by decide +kernel
theorem dX11_init_157 : decode cX11_init 157 = .ok (.putfield 67, 3) := by decide +kernel
theorem dX11_init_160 : decode cX11_init 160 = .ok (.aload_n 0, 1) := by decide +kernel
theorem dX11_init_161 : decode cX11_init 161 = .ok (.bipush 6, 2) := by decide +kernel
theorem dX11_init_163 : decode cX11_init 163 = .ok (.newarray .int, 2) := by decide +kernel
theorem dX11_init_165 : decode cX11_init 165 = .ok (.putfield 70, 3) := by decide +kernel
theorem dX11_init_168 : decode cX11_init 168 = .ok (.aload_n 0, 1) := by decide +kernel
theorem dX11_init_169 : decode cX11_init 169 = .ok (.getfield 70, 3) := by decide +kernel
theorem dX11_init_172 : decode cX11_init 172 = .ok (.iconst (-1), 1) := by decide +kernel
theorem dX11_init_173 : decode cX11_init 173 = .ok (.invokestatic 74, 3) := by decide +kernel
theorem dX11_init_176 : decode cX11_init 176 = .ok (.aload_n 0, 1) := by decide +kernel
theorem dX11_init_177 : decode cX11_init 177 = .ok (.bipush 6, 2) := by decide +kernel
theorem dX11_init_179 : decode cX11_init 179 = .ok (.newarray .int, 2) := by decide +kernel
theorem dX11_init_181 : decode cX11_init 181 = .ok (.putfield 80, 3) := by decide +kernel
theorem dX11_init_184 : decode cX11_init 184 = .ok (.return_, 1) := by decide +kernel
theorem dX11_fruit_0 : decode cX11_fruit 0 = .ok (.iload_n 1, 1) := by decide +kernel
theorem dX11_fruit_1 : decode cX11_fruit 1 = .ok (.ifCond .lt 9, 3) := by decide +kernel
theorem dX11_fruit_4 : decode cX11_fruit 4 = .ok (.iload_n 1, 1) := by decide +kernel
theorem dX11_fruit_5 : decode cX11_fruit 5 = .ok (.bipush 7, 2) := by decide +kernel
theorem dX11_fruit_7 : decode cX11_fruit 7 = .ok (.if_icmp .lt 5, 3) := by decide +kernel
theorem dX11_fruit_10 : decode cX11_fruit 10 = .ok (.iconst (-1), 1) := by decide +kernel
theorem dX11_fruit_11 : decode cX11_fruit 11 = .ok (.ireturn, 1) := by decide +kernel
theorem dX11_fruit_12 : decode cX11_fruit 12 = .ok (.iload_n 2, 1) := by decide +kernel
theorem dX11_fruit_13 : decode cX11_fruit 13 = .ok (.ifCond .lt 9, 3) := by decide +kernel
theorem dX11_fruit_16 : decode cX11_fruit 16 = .ok (.iload_n 2, 1) := by decide +kernel
theorem dX11_fruit_17 : decode cX11_fruit 17 = .ok (.bipush 10, 2) := by decide +kernel
theorem dX11_fruit_19 : decode cX11_fruit 19 = .ok (.if_icmp .lt 6, 3) := by decide +kernel
theorem dX11_fruit_22 : decode cX11_fruit 22 = .ok (.bipush (-2), 2) := by decide +kernel
theorem dX11_fruit_24 : decode cX11_fruit 24 = .ok (.ireturn, 1) := by decide +kernel
theorem dX11_fruit_25 : decode cX11_fruit 25 = .ok (.aload_n 0, 1) := by decide +kernel
theorem dX11_fruit_26 : decode cX11_fruit 26 = .ok (.getfield 37, 3) := by decide +kernel
theorem dX11_fruit_29 : decode cX11_fruit 29 = .ok (.getfield 83, 3) := by decide +kernel
theorem dX11_fruit_32 : decode cX11_fruit 32 = .ok (.bipush 6, 2) := by decide +kernel
theorem dX11_fruit_34 : decode cX11_fruit 34 = .ok (.if_icmp .ge 15, 3) := by decide +kernel
theorem dX11_fruit_37 : decode cX11_fruit 37 = .ok (.aload_n 0, 1) := by decide +kernel
theorem dX11_fruit_38 : decode cX11_fruit 38 = .ok (.getfield 37, 3) := by decide +kernel
theorem dX11_fruit_41 : decode cX11_fruit 41 = .ok (.iload_n 1, 1) := by decide +kernel
theorem dX11_fruit_42 : decode cX11_fruit 42 = .ok (.iload_n 2, 1) := by decide +kernel
theorem dX11_fruit_43 : decode cX11_fruit 43 = .ok (.invokevirtual 87, 3) := by decide +kernel
theorem dX11_fruit_46 : decode cX11_fruit 46 = .ok (.goto 5, 3) := by decide +kernel
theorem dX11_fruit_49 : decode cX11_fruit 49 = .ok (.bipush (-4), 2) := by decide +kernel
theorem dX11_fruit_51 : decode cX11_fruit 51 = .ok (.ireturn, 1) := by decide +kernel
theorem dX11_of_0 : decode cX11_of 0 = .ok (.aload_n 0, 1) := by decide +kernel
theorem dX11_of_1 : decode cX11_of 1 = .ok (.getfield 37, 3) := by decide +kernel
theorem dX11_of_4 : decode cX11_of 4 = .ok (.iload_n 1, 1) := by decide +kernel
theorem dX11_of_5 : decode cX11_of 5 = .ok (.invokevirtual 91, 3) := by decide +kernel
theorem dX11_of_8 : decode cX11_of 8 = .ok (.ifCond .ne 7, 3) := by decide +kernel
theorem dX11_of_11 : decode cX11_of 11 = .ok (.sipush (-10001), 3) := by decide +kernel
theorem dX11_of_14 : decode cX11_of 14 = .ok (.ireturn, 1) := by decide +kernel
theorem dX11_of_15 : decode cX11_of 15 = .ok (.iload_n 2, 1) := by decide +kernel
theorem dX11_of_16 : decode cX11_of 16 = .ok (.bipush 10, 2) := by decide +kernel
theorem dX11_of_18 : decode cX11_of 18 = .ok (.if_icmp .lt 29, 3) := by decide +kernel
theorem dX11_of_21 : decode cX11_of 21 = .ok (.iload_n 2, 1) := by decide +kernel
theorem dX11_of_22 : decode cX11_of 22 = .ok (.bipush 22, 2) := by decide +kernel
theorem dX11_of_24 : decode cX11_of 24 = .ok (.if_icmp .ge 23, 3) := by decide +kernel
theorem dX11_of_27 : decode cX11_of 27 = .ok (.aload_n 0, 1) := by decide +kernel
theorem dX11_of_28 : decode cX11_of 28 = .ok (.getfield 37, 3) := by decide +kernel
theorem dX11_of_31 : decode cX11_of 31 = .ok (.invokevirtual 95, 3) := by decide +kernel
theorem dX11_of_34 : decode cX11_of 34 = .ok (.aload_n 0, 1) := by decide +kernel
theorem dX11_of_35 : decode cX11_of 35 = .ok (.getfield 37, 3) := by decide +kernel
theorem dX11_of_38 : decode cX11_of 38 = .ok (.iload_n 1, 1) := by decide +kernel
theorem dX11_of_39 : decode cX11_of 39 = .ok (.iload_n 2, 1) := by decide +kernel
theorem dX11_of_40 : decode cX11_of 40 = .ok (.bipush 10, 2) := by decide +kernel
theorem dX11_of_42 : decode cX11_of 42 = .ok (.isub, 1) := by decide +kernel
theorem dX11_of_43 : decode cX11_of 43 = .ok (.invokevirtual 98, 3) := by decide +kernel
theorem dX11_of_46 : decode cX11_of 46 = .ok (.ireturn, 1) := by decide +kernel
theorem dX11_of_47 : decode cX11_of 47 = .ok (.iload_n 2, 1) := by decide +kernel
theorem dX11_of_48 : decode cX11_of 48 = .ok (.tableswitch 123 0 7 #[48, 58, 68, 85, 95, 105, 111, 117], 48) := by decide +kernel
theorem dX11_of_96 : decode cX11_of 96 = .ok (.aload_n 0, 1) := by decide +kernel
theorem dX11_of_97 : decode cX11_of 97 = .ok (.getfield 37, 3) := by decide +kernel
theorem dX11_of_100 : decode cX11_of 100 = .ok (.getfield 101, 3) := by decide +kernel
theorem dX11_of_103 : decode cX11_of 103 = .ok (.iload_n 1, 1) := by decide +kernel
theorem dX11_of_104 : decode cX11_of 104 = .ok (.iaload, 1) := by decide +kernel
theorem dX11_of_105 : decode cX11_of 105 = .ok (.ireturn, 1) := by decide +kernel
theorem dX11_of_106 : decode cX11_of 106 = .ok (.aload_n 0, 1) := by decide +kernel
theorem dX11_of_107 : decode cX11_of 107 = .ok (.getfield 37, 3) := by decide +kernel
theorem dX11_of_110 : decode cX11_of 110 = .ok (.getfield 104, 3) := by decide +kernel
theorem dX11_of_113 : decode cX11_of 113 = .ok (.iload_n 1, 1) := by decide +kernel
theorem dX11_of_114 : decode cX11_of 114 = .ok (.iaload, 1) := by decide +kernel
theorem dX11_of_115 : decode cX11_of 115 = .ok (.ireturn, 1) := by decide +kernel
theorem dX11_of_116 : decode cX11_of 116 = .ok (.aload_n 0, 1) := by decide +kernel
theorem dX11_of_117 : decode cX11_of 117 = .ok (.getfield 37, 3) := by decide +kernel
theorem dX11_of_120 : decode cX11_of 120 = .ok (.iload_n 1, 1) := by decide +kernel
theorem dX11_of_121 : decode cX11_of 121 = .ok (.invokevirtual 107, 3) := by decide +kernel
theorem dX11_of_124 : decode cX11_of 124 = .ok (.ifCond .eq 7, 3) := by decide +kernel
theorem dX11_of_127 : decode cX11_of 127 = .ok (.iconst 1, 1) := by decide +kernel
theorem dX11_of_128 : decode cX11_of 128 = .ok (.goto 4, 3) := by decide +kernel
theorem dX11_of_131 : decode cX11_of 131 = .ok (.iconst 0, 1) := by decide +kernel
theorem dX11_of_132 : decode cX11_of 132 = .ok (.ireturn, 1) := by decide +kernel
theorem dX11_of_133 : decode cX11_of 133 = .ok (.aload_n 0, 1) := by decide +kernel
theorem dX11_of_134 : decode cX11_of 134 = .ok (.getfield 37, 3) := by decide +kernel
theorem dX11_of_137 : decode cX11_of 137 = .ok (.getfield 110, 3) := by decide +kernel
theorem dX11_of_140 : decode cX11_of 140 = .ok (.iload_n 1, 1) := by decide +kernel
theorem dX11_of_141 : decode cX11_of 141 = .ok (.iaload, 1) := by decide +kernel
theorem dX11_of_142 : decode cX11_of 142 = .ok (.ireturn, 1) := by decide +kernel
theorem dX11_of_143 : decode cX11_of 143 = .ok (.aload_n 0, 1) := by decide +kernel
theorem dX11_of_144 : decode cX11_of 144 = .ok (.getfield 37, 3) := by decide +kernel
theorem dX11_of_147 : decode cX11_of 147 = .ok (.getfield 113, 3) := by decide +kernel
theorem dX11_of_150 : decode cX11_of 150 = .ok (.iload_n 1, 1) := by decide +kernel
theorem dX11_of_151 : decode cX11_of 151 = .ok (.iaload, 1) := by decide +kernel
theorem dX11_of_152 : decode cX11_of 152 = .ok (.ireturn, 1) := by decide +kernel
theorem dX11_of_153 : decode cX11_of 153 = .ok (.aload_n 0, 1) := by decide +kernel
theorem dX11_of_154 : decode cX11_of 154 = .ok (.iload_n 1, 1) := by decide +kernel
theorem dX11_of_155 : decode cX11_of 155 = .ok (.invokevirtual 116, 3) := by decide +kernel
theorem dX11_of_158 : decode cX11_of 158 = .ok (.ireturn, 1) := by decide +kernel
theorem dX11_of_159 : decode cX11_of 159 = .ok (.aload_n 0, 1) := by decide +kernel
theorem dX11_of_160 : decode cX11_of 160 = .ok (.iload_n 1, 1) := by decide +kernel
theorem dX11_of_161 : decode cX11_of 161 = .ok (.invokevirtual 120, 3) := by decide +kernel
theorem dX11_of_164 : decode cX11_of 164 = .ok (.ireturn, 1) := by decide +kernel
theorem dX11_of_165 : decode cX11_of 165 = .ok (.aload_n 0, 1) := by decide +kernel
theorem dX11_of_166 : decode cX11_of 166 = .ok (.iload_n 1, 1) := by decide +kernel
theorem dX11_of_167 : decode cX11_of 167 = .ok (.invokevirtual 123, 3) := by decide +kernel
theorem dX11_of_170 : decode cX11_of 170 = .ok (.ireturn, 1) := by decide +kernel
theorem dX11_of_171 : decode cX11_of 171 = .ok (.sipush (-10001), 3) := by decide +kernel
theorem dX11_of_174 : decode cX11_of 174 = .ok (.ireturn, 1) := by decide +kernel
theorem dX11_cut_0 : decode cX11_cut 0 = .ok (.aload_n 0, 1) := by decide +kernel
theorem dX11_cut_1 : decode cX11_cut 1 = .ok (.getfield 37, 3) := by decide +kernel
theorem dX11_cut_4 : decode cX11_cut 4 = .ok (.iload_n 1, 1) := by decide +kernel
theorem dX11_cut_5 : decode cX11_cut 5 = .ok (.invokevirtual 91, 3) := by decide +kernel
theorem dX11_cut_8 : decode cX11_cut 8 = .ok (.ifCond .ne 5, 3) := by decide +kernel
theorem dX11_cut_11 : decode cX11_cut 11 = .ok (.iconst (-1), 1) := by decide +kernel
theorem dX11_cut_12 : decode cX11_cut 12 = .ok (.ireturn, 1) := by decide +kernel
theorem dX11_cut_13 : decode cX11_cut 13 = .ok (.aload_n 0, 1) := by decide +kernel
theorem dX11_cut_14 : decode cX11_cut 14 = .ok (.getfield 37, 3) := by decide +kernel
theorem dX11_cut_17 : decode cX11_cut 17 = .ok (.iload_n 1, 1) := by decide +kernel
theorem dX11_cut_18 : decode cX11_cut 18 = .ok (.invokevirtual 107, 3) := by decide +kernel
theorem dX11_cut_21 : decode cX11_cut 21 = .ok (.ifCond .eq 7, 3) := by decide +kernel
theorem dX11_cut_24 : decode cX11_cut 24 = .ok (.iconst 1, 1) := by decide +kernel
theorem dX11_cut_25 : decode cX11_cut 25 = .ok (.goto 4, 3) := by decide +kernel
theorem dX11_cut_28 : decode cX11_cut 28 = .ok (.iconst 0, 1) := by decide +kernel
theorem dX11_cut_29 : decode cX11_cut 29 = .ok (.istore_n 3, 1) := by decide +kernel
theorem dX11_cut_30 : decode cX11_cut 30 = .ok (.aload_n 0, 1) := by decide +kernel
theorem dX11_cut_31 : decode cX11_cut 31 = .ok (.getfield 37, 3) := by decide +kernel
theorem dX11_cut_34 : decode cX11_cut 34 = .ok (.iload_n 1, 1) := by decide +kernel
theorem dX11_cut_35 : decode cX11_cut 35 = .ok (.iload_n 2, 1) := by decide +kernel
theorem dX11_cut_36 : decode cX11_cut 36 = .ok (.invokevirtual 126, 3) := by decide +kernel
theorem dX11_cut_39 : decode cX11_cut 39 = .ok (.iload_n 3, 1) := by decide +kernel
theorem dX11_cut_40 : decode cX11_cut 40 = .ok (.ireturn, 1) := by decide +kernel
theorem dX11_set_0 : decode cX11_set 0 = .ok (.aload_n 0, 1) := by decide +kernel
theorem dX11_set_1 : decode cX11_set 1 = .ok (.getfield 37, 3) := by decide +kernel
theorem dX11_set_4 : decode cX11_set 4 = .ok (.iload_n 1, 1) := by decide +kernel
theorem dX11_set_5 : decode cX11_set 5 = .ok (.invokevirtual 91, 3) := by decide +kernel
theorem dX11_set_8 : decode cX11_set 8 = .ok (.ifCond .eq 12, 3) := by decide +kernel
theorem dX11_set_11 : decode cX11_set 11 = .ok (.iload_n 2, 1) := by decide +kernel
theorem dX11_set_12 : decode cX11_set 12 = .ok (.ifCond .lt 8, 3) := by decide +kernel
theorem dX11_set_15 : decode cX11_set 15 = .ok (.iload_n 2, 1) := by decide +kernel
theorem dX11_set_16 : decode cX11_set 16 = .ok (.iconst 1, 1) := by decide +kernel
theorem dX11_set_17 : decode cX11_set 17 = .ok (.if_icmp .le 5, 3) := by decide +kernel
theorem dX11_set_20 : decode cX11_set 20 = .ok (.iconst (-1), 1) := by decide +kernel
theorem dX11_set_21 : decode cX11_set 21 = .ok (.ireturn, 1) := by decide +kernel
theorem dX11_set_22 : decode cX11_set 22 = .ok (.iload_n 3, 1) := by decide +kernel
theorem dX11_set_23 : decode cX11_set 23 = .ok (.ifCond .lt 20, 3) := by decide +kernel
theorem dX11_set_26 : decode cX11_set 26 = .ok (.iload_n 3, 1) := by decide +kernel
theorem dX11_set_27 : decode cX11_set 27 = .ok (.iload_n 2, 1) := by decide +kernel
theorem dX11_set_28 : decode cX11_set 28 = .ok (.ifCond .ne 9, 3) := by decide +kernel
theorem dX11_set_31 : decode cX11_set 31 = .ok (.sipush 4095, 3) := by decide +kernel
theorem dX11_set_34 : decode cX11_set 34 = .ok (.goto 6, 3) := by decide +kernel
theorem dX11_set_37 : decode cX11_set 37 = .ok (.sipush 9999, 3) := by decide +kernel
theorem dX11_set_40 : decode cX11_set 40 = .ok (.if_icmp .le 6, 3) := by decide +kernel
theorem dX11_set_43 : decode cX11_set 43 = .ok (.bipush (-2), 2) := by decide +kernel
theorem dX11_set_45 : decode cX11_set 45 = .ok (.ireturn, 1) := by decide +kernel
theorem dX11_set_46 : decode cX11_set 46 = .ok (.iload_n 2, 1) := by decide +kernel
theorem dX11_set_47 : decode cX11_set 47 = .ok (.ifCond .ne 13, 3) := by decide +kernel
theorem dX11_set_50 : decode cX11_set 50 = .ok (.aload_n 0, 1) := by decide +kernel
theorem dX11_set_51 : decode cX11_set 51 = .ok (.getfield 37, 3) := by decide +kernel
theorem dX11_set_54 : decode cX11_set 54 = .ok (.getfield 110, 3) := by decide +kernel
theorem dX11_set_57 : decode cX11_set 57 = .ok (.goto 10, 3) := by decide +kernel
theorem dX11_set_60 : decode cX11_set 60 = .ok (.aload_n 0, 1) := by decide +kernel
theorem dX11_set_61 : decode cX11_set 61 = .ok (.getfield 37, 3) := by decide +kernel
theorem dX11_set_64 : decode cX11_set 64 = .ok (.getfield 113, 3) := by decide +kernel
theorem dX11_set_67 : decode cX11_set 67 = .ok (.astore 4, 2) := by decide +kernel
theorem dX11_set_69 : decode cX11_set 69 = .ok (.aload 4, 2) := by decide +kernel
theorem dX11_set_71 : decode cX11_set 71 = .ok (.iload_n 1, 1) := by decide +kernel
theorem dX11_set_72 : decode cX11_set 72 = .ok (.iaload, 1) := by decide +kernel
theorem dX11_set_73 : decode cX11_set 73 = .ok (.istore 5, 2) := by decide +kernel
theorem dX11_set_75 : decode cX11_set 75 = .ok (.aload 4, 2) := by decide +kernel
theorem dX11_set_77 : decode cX11_set 77 = .ok (.iload_n 1, 1) := by decide +kernel
theorem dX11_set_78 : decode cX11_set 78 = .ok (.iload_n 3, 1) := by decide +kernel
theorem dX11_set_79 : decode cX11_set 79 = .ok (.iastore, 1) := by decide +kernel
theorem dX11_set_80 : decode cX11_set 80 = .ok (.iload 5, 2) := by decide +kernel
theorem dX11_set_82 : decode cX11_set 82 = .ok (.ireturn, 1) := by decide +kernel
theorem dX11_row_0 : decode cX11_row 0 = .ok (.aload_n 0, 1) := by decide +kernel
theorem dX11_row_1 : decode cX11_row 1 = .ok (.getfield 37, 3) := by decide +kernel
theorem dX11_row_4 : decode cX11_row 4 = .ok (.iload_n 1, 1) := by decide +kernel
theorem dX11_row_5 : decode cX11_row 5 = .ok (.invokevirtual 91, 3) := by decide +kernel
theorem dX11_row_8 : decode cX11_row 8 = .ok (.ifCond .eq 12, 3) := by decide +kernel
theorem dX11_row_11 : decode cX11_row 11 = .ok (.iload_n 2, 1) := by decide +kernel
theorem dX11_row_12 : decode cX11_row 12 = .ok (.ifCond .lt 8, 3) := by decide +kernel
theorem dX11_row_15 : decode cX11_row 15 = .ok (.iload_n 2, 1) := by decide +kernel
theorem dX11_row_16 : decode cX11_row 16 = .ok (.iconst 4, 1) := by decide +kernel
theorem dX11_row_17 : decode cX11_row 17 = .ok (.if_icmp .lt 5, 3) := by decide +kernel
theorem dX11_row_20 : decode cX11_row 20 = .ok (.iconst (-1), 1) := by decide +kernel
theorem dX11_row_21 : decode cX11_row 21 = .ok (.ireturn, 1) := by decide +kernel
theorem dX11_row_22 : decode cX11_row 22 = .ok (.iload_n 3, 1) := by decide +kernel
theorem dX11_row_23 : decode cX11_row 23 = .ok (.ifCond .lt 9, 3) := by decide +kernel
theorem dX11_row_26 : decode cX11_row 26 = .ok (.iload_n 3, 1) := by decide +kernel
theorem dX11_row_27 : decode cX11_row 27 = .ok (.bipush 9, 2) := by decide +kernel
theorem dX11_row_29 : decode cX11_row 29 = .ok (.if_icmp .le 6, 3) := by decide +kernel
theorem dX11_row_32 : decode cX11_row 32 = .ok (.bipush (-2), 2) := by decide +kernel
theorem dX11_row_34 : decode cX11_row 34 = .ok (.ireturn, 1) := by decide +kernel
theorem dX11_row_35 : decode cX11_row 35 = .ok (.aload_n 0, 1) := by decide +kernel
theorem dX11_row_36 : decode cX11_row 36 = .ok (.getfield 37, 3) := by decide +kernel
theorem dX11_row_39 : decode cX11_row 39 = .ok (.getfield 101, 3) := by decide +kernel
theorem dX11_row_42 : decode cX11_row 42 = .ok (.iload_n 1, 1) := by decide +kernel
theorem dX11_row_43 : decode cX11_row 43 = .ok (.iaload, 1) := by decide +kernel
theorem dX11_row_44 : decode cX11_row 44 = .ok (.bipush 6, 2) := by decide +kernel
theorem dX11_row_46 : decode cX11_row 46 = .ok (.if_icmp .eq 6, 3) := by decide +kernel
theorem dX11_row_49 : decode cX11_row 49 = .ok (.bipush (-3), 2) := by decide +kernel
theorem dX11_row_51 : decode cX11_row 51 = .ok (.ireturn, 1) := by decide +kernel
theorem dX11_row_52 : decode cX11_row 52 = .ok (.aload_n 0, 1) := by decide +kernel
theorem dX11_row_53 : decode cX11_row 53 = .ok (.getfield 37, 3) := by decide +kernel
theorem dX11_row_56 : decode cX11_row 56 = .ok (.getfield 130, 3) := by decide +kernel
theorem dX11_row_59 : decode cX11_row 59 = .ok (.iload_n 1, 1) := by decide +kernel
theorem dX11_row_60 : decode cX11_row 60 = .ok (.aaload, 1) := by decide +kernel
theorem dX11_row_61 : decode cX11_row 61 = .ok (.iload_n 2, 1) := by decide +kernel
theorem dX11_row_62 : decode cX11_row 62 = .ok (.iaload, 1) := by decide +kernel
theorem dX11_row_63 : decode cX11_row 63 = .ok (.istore 4, 2) := by decide +kernel
theorem dX11_row_65 : decode cX11_row 65 = .ok (.aload_n 0, 1) := by decide +kernel
theorem dX11_row_66 : decode cX11_row 66 = .ok (.getfield 37, 3) := by decide +kernel
theorem dX11_row_69 : decode cX11_row 69 = .ok (.getfield 130, 3) := by decide +kernel
theorem dX11_row_72 : decode cX11_row 72 = .ok (.iload_n 1, 1) := by decide +kernel
theorem dX11_row_73 : decode cX11_row 73 = .ok (.aaload, 1) := by decide +kernel
theorem dX11_row_74 : decode cX11_row 74 = .ok (.iload_n 2, 1) := by decide +kernel
theorem dX11_row_75 : decode cX11_row 75 = .ok (.iload_n 3, 1) := by decide +kernel
theorem dX11_row_76 : decode cX11_row 76 = .ok (.iastore, 1) := by decide +kernel
theorem dX11_row_77 : decode cX11_row 77 = .ok (.iload 4, 2) := by decide +kernel
theorem dX11_row_79 : decode cX11_row 79 = .ok (.ireturn, 1) := by decide +kernel
theorem dX11_feed_0 : decode cX11_feed 0 = .ok (.iload_n 1, 1) := by decide +kernel
theorem dX11_feed_1 : decode cX11_feed 1 = .ok (.ifCond .lt 9, 3) := by decide +kernel
theorem dX11_feed_4 : decode cX11_feed 4 = .ok (.iload_n 1, 1) := by decide +kernel
theorem dX11_feed_5 : decode cX11_feed 5 = .ok (.bipush 127, 2) := by decide +kernel
theorem dX11_feed_7 : decode cX11_feed 7 = .ok (.if_icmp .le 6, 3) := by decide +kernel
theorem dX11_feed_10 : decode cX11_feed 10 = .ok (.bipush (-2), 2) := by decide +kernel
theorem dX11_feed_12 : decode cX11_feed 12 = .ok (.ireturn, 1) := by decide +kernel
theorem dX11_feed_13 : decode cX11_feed 13 = .ok (.aload_n 0, 1) := by decide +kernel
theorem dX11_feed_14 : decode cX11_feed 14 = .ok (.getfield 133, 3) := by decide +kernel
theorem dX11_feed_17 : decode cX11_feed 17 = .ok (.bipush 100, 2) := by decide +kernel
theorem dX11_feed_19 : decode cX11_feed 19 = .ok (.if_icmp .lt 6, 3) := by decide +kernel
theorem dX11_feed_22 : decode cX11_feed 22 = .ok (.bipush (-4), 2) := by decide +kernel
theorem dX11_feed_24 : decode cX11_feed 24 = .ok (.ireturn, 1) := by decide +kernel
theorem dX11_feed_25 : decode cX11_feed 25 = .ok (.aload_n 0, 1) := by decide +kernel
theorem dX11_feed_26 : decode cX11_feed 26 = .ok (.getfield 49, 3) := by decide +kernel
theorem dX11_feed_29 : decode cX11_feed 29 = .ok (.aload_n 0, 1) := by decide +kernel
theorem dX11_feed_30 : decode cX11_feed 30 = .ok (.getfield 133, 3) := by decide +kernel
theorem dX11_feed_33 : decode cX11_feed 33 = .ok (.iload_n 1, 1) := by decide +kernel
theorem dX11_feed_34 : decode cX11_feed 34 = .ok (.i2b, 1) := by decide +kernel
theorem dX11_feed_35 : decode cX11_feed 35 = .ok (.bastore, 1) := by decide +kernel
theorem dX11_feed_36 : decode cX11_feed 36 = .ok (.aload_n 0, 1) := by decide +kernel
theorem dX11_feed_37 : decode cX11_feed 37 = .ok (.dup, 1) := by decide +kernel
theorem dX11_feed_38 : decode cX11_feed 38 = .ok (.getfield 133, 3) := by decide +kernel
theorem dX11_feed_41 : decode cX11_feed 41 = .ok (.iconst 1, 1) := by decide +kernel
theorem dX11_feed_42 : decode cX11_feed 42 = .ok (.iadd, 1) := by decide +kernel
theorem dX11_feed_43 : decode cX11_feed 43 = .ok (.putfield 133, 3) := by decide +kernel
theorem dX11_feed_46 : decode cX11_feed 46 = .ok (.aload_n 0, 1) := by decide +kernel
theorem dX11_feed_47 : decode cX11_feed 47 = .ok (.getfield 133, 3) := by decide +kernel
theorem dX11_feed_50 : decode cX11_feed 50 = .ok (.ireturn, 1) := by decide +kernel
theorem dX11_wall_0 : decode cX11_wall 0 = .ok (.aload_n 0, 1) := by decide +kernel
theorem dX11_wall_1 : decode cX11_wall 1 = .ok (.getfield 136, 3) := by decide +kernel
theorem dX11_wall_4 : decode cX11_wall 4 = .ok (.bipush 6, 2) := by decide +kernel
theorem dX11_wall_6 : decode cX11_wall 6 = .ok (.if_icmp .lt 6, 3) := by decide +kernel
theorem dX11_wall_9 : decode cX11_wall 9 = .ok (.bipush (-4), 2) := by decide +kernel
theorem dX11_wall_11 : decode cX11_wall 11 = .ok (.ireturn, 1) := by decide +kernel
theorem dX11_wall_12 : decode cX11_wall 12 = .ok (.new 139, 3) := by decide +kernel
theorem dX11_wall_15 : decode cX11_wall 15 = .ok (.dup, 1) := by decide +kernel
theorem dX11_wall_16 : decode cX11_wall 16 = .ok (.aload_n 0, 1) := by decide +kernel
theorem dX11_wall_17 : decode cX11_wall 17 = .ok (.getfield 49, 3) := by decide +kernel
theorem dX11_wall_20 : decode cX11_wall 20 = .ok (.aload_n 0, 1) := by decide +kernel
theorem dX11_wall_21 : decode cX11_wall 21 = .ok (.getfield 133, 3) := by decide +kernel
theorem dX11_wall_24 : decode cX11_wall 24 = .ok (.invokestatic 141, 3) := by decide +kernel
theorem dX11_wall_27 : decode cX11_wall 27 = .ok (.invokespecial 145, 3) := by decide +kernel
theorem dX11_wall_30 : decode cX11_wall 30 = .ok (.astore_n 1, 1) := by decide +kernel
theorem dX11_wall_31 : decode cX11_wall 31 = .ok (.aload_n 0, 1) := by decide +kernel
theorem dX11_wall_32 : decode cX11_wall 32 = .ok (.iconst 0, 1) := by decide +kernel
theorem dX11_wall_33 : decode cX11_wall 33 = .ok (.putfield 133, 3) := by decide +kernel
theorem dX11_wall_36 : decode cX11_wall 36 = .ok (.aload_n 1, 1) := by decide +kernel
theorem dX11_wall_37 : decode cX11_wall 37 = .ok (.invokevirtual 148, 3) := by decide +kernel
theorem dX11_wall_40 : decode cX11_wall 40 = .ok (.ifCond .ne 11, 3) := by decide +kernel
theorem dX11_wall_43 : decode cX11_wall 43 = .ok (.bipush (-10), 2) := by decide +kernel
theorem dX11_wall_45 : decode cX11_wall 45 = .ok (.aload_n 1, 1) := by decide +kernel
theorem dX11_wall_46 : decode cX11_wall 46 = .ok (.getfield 152, 3) := by decide +kernel
theorem dX11_wall_49 : decode cX11_wall 49 = .ok (.isub, 1) := by decide +kernel
theorem dX11_wall_50 : decode cX11_wall 50 = .ok (.ireturn, 1) := by decide +kernel
theorem dX11_wall_51 : decode cX11_wall 51 = .ok (.aload_n 0, 1) := by decide +kernel
theorem dX11_wall_52 : decode cX11_wall 52 = .ok (.getfield 37, 3) := by decide +kernel
theorem dX11_wall_55 : decode cX11_wall 55 = .ok (.aload_n 1, 1) := by decide +kernel
theorem dX11_wall_56 : decode cX11_wall 56 = .ok (.putfield 155, 3) := by decide +kernel
theorem dX11_wall_59 : decode cX11_wall 59 = .ok (.aload_n 0, 1) := by decide +kernel
theorem dX11_wall_60 : decode cX11_wall 60 = .ok (.dup, 1) := by decide +kernel
theorem dX11_wall_61 : decode cX11_wall 61 = .ok (.getfield 136, 3) := by decide +kernel
theorem dX11_wall_64 : decode cX11_wall 64 = .ok (.iconst 1, 1) := by decide +kernel
theorem dX11_wall_65 : decode cX11_wall 65 = .ok (.iadd, 1) := by decide +kernel
theorem dX11_wall_66 : decode cX11_wall 66 = .ok (.putfield 136, 3) := by decide +kernel
theorem dX11_wall_69 : decode cX11_wall 69 = .ok (.aload_n 0, 1) := by decide +kernel
theorem dX11_wall_70 : decode cX11_wall 70 = .ok (.getfield 136, 3) := by decide +kernel
theorem dX11_wall_73 : decode cX11_wall 73 = .ok (.iconst 1, 1) := by decide +kernel
theorem dX11_wall_74 : decode cX11_wall 74 = .ok (.isub, 1) := by decide +kernel
theorem dX11_wall_75 : decode cX11_wall 75 = .ok (.ireturn, 1) := by decide +kernel
theorem dX11_told_0 : decode cX11_told 0 = .ok (.iload_n 1, 1) := by decide +kernel
theorem dX11_told_1 : decode cX11_told 1 = .ok (.bipush 10, 2) := by decide +kernel
theorem dX11_told_3 : decode cX11_told 3 = .ok (.if_icmp .lt 39, 3) := by decide +kernel
theorem dX11_told_6 : decode cX11_told 6 = .ok (.iload_n 1, 1) := by decide +kernel
theorem dX11_told_7 : decode cX11_told 7 = .ok (.bipush 22, 2) := by decide +kernel
theorem dX11_told_9 : decode cX11_told 9 = .ok (.if_icmp .ge 33, 3) := by decide +kernel
theorem dX11_told_12 : decode cX11_told 12 = .ok (.aload_n 0, 1) := by decide +kernel
theorem dX11_told_13 : decode cX11_told 13 = .ok (.getfield 37, 3) := by decide +kernel
theorem dX11_told_16 : decode cX11_told 16 = .ok (.invokevirtual 95, 3) := by decide +kernel
theorem dX11_told_19 : decode cX11_told 19 = .ok (.aload_n 0, 1) := by decide +kernel
theorem dX11_told_20 : decode cX11_told 20 = .ok (.getfield 37, 3) := by decide +kernel
theorem dX11_told_23 : decode cX11_told 23 = .ok (.iload_n 1, 1) := by decide +kernel
theorem dX11_told_24 : decode cX11_told 24 = .ok (.bipush 10, 2) := by decide +kernel
theorem dX11_told_26 : decode cX11_told 26 = .ok (.isub, 1) := by decide +kernel
theorem dX11_told_27 : decode cX11_told 27 = .ok (.invokevirtual 159, 3) := by decide +kernel
theorem dX11_told_30 : decode cX11_told 30 = .ok (.istore_n 2, 1) := by decide +kernel
theorem dX11_told_31 : decode cX11_told 31 = .ok (.iload_n 2, 1) := by decide +kernel
theorem dX11_told_32 : decode cX11_told 32 = .ok (.ifCond .ge 8, 3) := by decide +kernel
theorem dX11_told_35 : decode cX11_told 35 = .ok (.bipush (-5), 2) := by decide +kernel
theorem dX11_told_37 : decode cX11_told 37 = .ok (.goto 4, 3) := by decide +kernel
theorem dX11_told_40 : decode cX11_told 40 = .ok (.iload_n 2, 1) := by decide +kernel
theorem dX11_told_41 : decode cX11_told 41 = .ok (.ireturn, 1) := by decide +kernel
theorem dX11_told_42 : decode cX11_told 42 = .ok (.iload_n 1, 1) := by decide +kernel
theorem dX11_told_43 : decode cX11_told 43 = .ok (.tableswitch 73 0 4 #[33, 41, 49, 57, 65], 33) := by decide +kernel
theorem dX11_told_76 : decode cX11_told 76 = .ok (.aload_n 0, 1) := by decide +kernel
theorem dX11_told_77 : decode cX11_told 77 = .ok (.getfield 37, 3) := by decide +kernel
theorem dX11_told_80 : decode cX11_told 80 = .ok (.getfield 162, 3) := by decide +kernel
theorem dX11_told_83 : decode cX11_told 83 = .ok (.ireturn, 1) := by decide +kernel
theorem dX11_told_84 : decode cX11_told 84 = .ok (.aload_n 0, 1) := by decide +kernel
theorem dX11_told_85 : decode cX11_told 85 = .ok (.getfield 37, 3) := by decide +kernel
theorem dX11_told_88 : decode cX11_told 88 = .ok (.invokevirtual 165, 3) := by decide +kernel
theorem dX11_told_91 : decode cX11_told 91 = .ok (.ireturn, 1) := by decide +kernel
theorem dX11_told_92 : decode cX11_told 92 = .ok (.aload_n 0, 1) := by decide +kernel
theorem dX11_told_93 : decode cX11_told 93 = .ok (.getfield 37, 3) := by decide +kernel
theorem dX11_told_96 : decode cX11_told 96 = .ok (.getfield 169, 3) := by decide +kernel
theorem dX11_told_99 : decode cX11_told 99 = .ok (.ireturn, 1) := by decide +kernel
theorem dX11_told_100 : decode cX11_told 100 = .ok (.aload_n 0, 1) := by decide +kernel
theorem dX11_told_101 : decode cX11_told 101 = .ok (.getfield 37, 3) := by decide +kernel
theorem dX11_told_104 : decode cX11_told 104 = .ok (.invokevirtual 172, 3) := by decide +kernel
theorem dX11_told_107 : decode cX11_told 107 = .ok (.ireturn, 1) := by decide +kernel
theorem dX11_told_108 : decode cX11_told 108 = .ok (.aload_n 0, 1) := by decide +kernel
theorem dX11_told_109 : decode cX11_told 109 = .ok (.getfield 37, 3) := by decide +kernel
theorem dX11_told_112 : decode cX11_told 112 = .ok (.invokevirtual 175, 3) := by decide +kernel
theorem dX11_told_115 : decode cX11_told 115 = .ok (.ireturn, 1) := by decide +kernel
theorem dX11_told_116 : decode cX11_told 116 = .ok (.sipush (-10001), 3) := by decide +kernel
theorem dX11_told_119 : decode cX11_told 119 = .ok (.ireturn, 1) := by decide +kernel
theorem dX11_ownHours_0 : decode cX11_ownHours 0 = .ok (.aload_n 0, 1) := by decide +kernel
theorem dX11_ownHours_1 : decode cX11_ownHours 1 = .ok (.getfield 37, 3) := by decide +kernel
theorem dX11_ownHours_4 : decode cX11_ownHours 4 = .ok (.invokevirtual 95, 3) := by decide +kernel
theorem dX11_ownHours_7 : decode cX11_ownHours 7 = .ok (.aload_n 0, 1) := by decide +kernel
theorem dX11_ownHours_8 : decode cX11_ownHours 8 = .ok (.getfield 37, 3) := by decide +kernel
theorem dX11_ownHours_11 : decode cX11_ownHours 11 = .ok (.invokevirtual 178, 3) := by decide +kernel
theorem dX11_ownHours_14 : decode cX11_ownHours 14 = .ok (.aload_n 0, 1) := by decide +kernel
theorem dX11_ownHours_15 : decode cX11_ownHours 15 = .ok (.getfield 37, 3) := by decide +kernel
theorem dX11_ownHours_18 : decode cX11_ownHours 18 = .ok (.getfield 181, 3) := by decide +kernel
theorem dX11_ownHours_21 : decode cX11_ownHours 21 = .ok (.iload_n 1, 1) := by decide +kernel
theorem dX11_ownHours_22 : decode cX11_ownHours 22 = .ok (.iaload, 1) := by decide +kernel
theorem dX11_ownHours_23 : decode cX11_ownHours 23 = .ok (.ireturn, 1) := by decide +kernel
theorem dX11_soleHours_0 : decode cX11_soleHours 0 = .ok (.aload_n 0, 1) := by decide +kernel
theorem dX11_soleHours_1 : decode cX11_soleHours 1 = .ok (.getfield 37, 3) := by decide +kernel
theorem dX11_soleHours_4 : decode cX11_soleHours 4 = .ok (.iload_n 1, 1) := by decide +kernel
theorem dX11_soleHours_5 : decode cX11_soleHours 5 = .ok (.invokevirtual 107, 3) := by decide +kernel
theorem dX11_soleHours_8 : decode cX11_soleHours 8 = .ok (.ifCond .eq 5, 3) := by decide +kernel
theorem dX11_soleHours_11 : decode cX11_soleHours 11 = .ok (.iconst 0, 1) := by decide +kernel
theorem dX11_soleHours_12 : decode cX11_soleHours 12 = .ok (.ireturn, 1) := by decide +kernel
theorem dX11_soleHours_13 : decode cX11_soleHours 13 = .ok (.aload_n 0, 1) := by decide +kernel
theorem dX11_soleHours_14 : decode cX11_soleHours 14 = .ok (.getfield 46, 3) := by decide +kernel
theorem dX11_soleHours_17 : decode cX11_soleHours 17 = .ok (.aload_n 0, 1) := by decide +kernel
theorem dX11_soleHours_18 : decode cX11_soleHours 18 = .ok (.getfield 37, 3) := by decide +kernel
theorem dX11_soleHours_21 : decode cX11_soleHours 21 = .ok (.invokevirtual 184, 3) := by decide +kernel
theorem dX11_soleHours_24 : decode cX11_soleHours 24 = .ok (.aload_n 0, 1) := by decide +kernel
theorem dX11_soleHours_25 : decode cX11_soleHours 25 = .ok (.getfield 46, 3) := by decide +kernel
theorem dX11_soleHours_28 : decode cX11_soleHours 28 = .ok (.aload_n 0, 1) := by decide +kernel
theorem dX11_soleHours_29 : decode cX11_soleHours 29 = .ok (.getfield 46, 3) := by decide +kernel
theorem dX11_soleHours_32 : decode cX11_soleHours 32 = .ok (.invokevirtual 188, 3) := by decide +kernel
theorem dX11_soleHours_35 : decode cX11_soleHours 35 = .ok (.iconst 1, 1) := by decide +kernel
theorem dX11_soleHours_36 : decode cX11_soleHours 36 = .ok (.iload_n 1, 1) := by decide +kernel
theorem dX11_soleHours_37 : decode cX11_soleHours 37 = .ok (.ishl, 1) := by decide +kernel
theorem dX11_soleHours_38 : decode cX11_soleHours 38 = .ok (.iconst (-1), 1) := by decide +kernel
theorem dX11_soleHours_39 : decode cX11_soleHours 39 = .ok (.ixor, 1) := by decide +kernel
theorem dX11_soleHours_40 : decode cX11_soleHours 40 = .ok (.iand, 1) := by decide +kernel
theorem dX11_soleHours_41 : decode cX11_soleHours 41 = .ok (.putfield 169, 3) := by decide +kernel
theorem dX11_soleHours_44 : decode cX11_soleHours 44 = .ok (.aload_n 0, 1) := by decide +kernel
theorem dX11_soleHours_45 : decode cX11_soleHours 45 = .ok (.getfield 46, 3) := by decide +kernel
theorem dX11_soleHours_48 : decode cX11_soleHours 48 = .ok (.invokevirtual 95, 3) := by decide +kernel
theorem dX11_soleHours_51 : decode cX11_soleHours 51 = .ok (.aload_n 0, 1) := by decide +kernel
theorem dX11_soleHours_52 : decode cX11_soleHours 52 = .ok (.getfield 46, 3) := by decide +kernel
theorem dX11_soleHours_55 : decode cX11_soleHours 55 = .ok (.invokevirtual 178, 3) := by decide +kernel
theorem dX11_soleHours_58 : decode cX11_soleHours 58 = .ok (.aload_n 0, 1) := by decide +kernel
theorem dX11_soleHours_59 : decode cX11_soleHours 59 = .ok (.getfield 46, 3) := by decide +kernel
theorem dX11_soleHours_62 : decode cX11_soleHours 62 = .ok (.getfield 181, 3) := by decide +kernel
theorem dX11_soleHours_65 : decode cX11_soleHours 65 = .ok (.iload_n 1, 1) := by decide +kernel
theorem dX11_soleHours_66 : decode cX11_soleHours 66 = .ok (.iaload, 1) := by decide +kernel
theorem dX11_soleHours_67 : decode cX11_soleHours 67 = .ok (.ireturn, 1) := by decide +kernel
theorem dX11_whenRipe_0 : decode cX11_whenRipe 0 = .ok (.aload_n 0, 1) := by decide +kernel
theorem dX11_whenRipe_1 : decode cX11_whenRipe 1 = .ok (.getfield 46, 3) := by decide +kernel
theorem dX11_whenRipe_4 : decode cX11_whenRipe 4 = .ok (.aload_n 0, 1) := by decide +kernel
theorem dX11_whenRipe_5 : decode cX11_whenRipe 5 = .ok (.getfield 37, 3) := by decide +kernel
theorem dX11_whenRipe_8 : decode cX11_whenRipe 8 = .ok (.invokevirtual 184, 3) := by decide +kernel
theorem dX11_whenRipe_11 : decode cX11_whenRipe 11 = .ok (.aload_n 0, 1) := by decide +kernel
theorem dX11_whenRipe_12 : decode cX11_whenRipe 12 = .ok (.getfield 37, 3) := by decide +kernel
theorem dX11_whenRipe_15 : decode cX11_whenRipe 15 = .ok (.invokevirtual 165, 3) := by decide +kernel
theorem dX11_whenRipe_18 : decode cX11_whenRipe 18 = .ok (.istore_n 2, 1) := by decide +kernel
theorem dX11_whenRipe_19 : decode cX11_whenRipe 19 = .ok (.iconst 0, 1) := by decide +kernel
theorem dX11_whenRipe_20 : decode cX11_whenRipe 20 = .ok (.istore_n 3, 1) := by decide +kernel
theorem dX11_whenRipe_21 : decode cX11_whenRipe 21 = .ok (.iload_n 3, 1) := by decide +kernel
theorem dX11_whenRipe_22 : decode cX11_whenRipe 22 = .ok (.bipush 30, 2) := by decide +kernel
theorem dX11_whenRipe_24 : decode cX11_whenRipe 24 = .ok (.if_icmp .gt 38, 3) := by decide +kernel
theorem dX11_whenRipe_27 : decode cX11_whenRipe 27 = .ok (.iload_n 3, 1) := by decide +kernel
theorem dX11_whenRipe_28 : decode cX11_whenRipe 28 = .ok (.ifCond .le 13, 3) := by decide +kernel
theorem dX11_whenRipe_31 : decode cX11_whenRipe 31 = .ok (.aload_n 0, 1) := by decide +kernel
theorem dX11_whenRipe_32 : decode cX11_whenRipe 32 = .ok (.getfield 46, 3) := by decide +kernel
theorem dX11_whenRipe_35 : decode cX11_whenRipe 35 = .ok (.iconst 1, 1) := by decide +kernel
theorem dX11_whenRipe_36 : decode cX11_whenRipe 36 = .ok (.ldc 191, 2) := by decide +kernel
theorem dX11_whenRipe_38 : decode cX11_whenRipe 38 = .ok (.invokevirtual 192, 3) := by decide +kernel
theorem dX11_whenRipe_41 : decode cX11_whenRipe 41 = .ok (.aload_n 0, 1) := by decide +kernel
theorem dX11_whenRipe_42 : decode cX11_whenRipe 42 = .ok (.getfield 46, 3) := by decide +kernel
theorem dX11_whenRipe_45 : decode cX11_whenRipe 45 = .ok (.getfield 113, 3) := by decide +kernel
theorem dX11_whenRipe_48 : decode cX11_whenRipe 48 = .ok (.iload_n 1, 1) := by decide +kernel
theorem dX11_whenRipe_49 : decode cX11_whenRipe 49 = .ok (.iaload, 1) := by decide +kernel
theorem dX11_whenRipe_50 : decode cX11_whenRipe 50 = .ok (.iload_n 2, 1) := by decide +kernel
theorem dX11_whenRipe_51 : decode cX11_whenRipe 51 = .ok (.if_icmp .lt 5, 3) := by decide +kernel
theorem dX11_whenRipe_54 : decode cX11_whenRipe 54 = .ok (.iload_n 3, 1) := by decide +kernel
theorem dX11_whenRipe_55 : decode cX11_whenRipe 55 = .ok (.ireturn, 1) := by decide +kernel
theorem dX11_whenRipe_56 : decode cX11_whenRipe 56 = .ok (.iinc 3 1, 3) := by decide +kernel
theorem dX11_whenRipe_59 : decode cX11_whenRipe 59 = .ok (.goto (-38), 3) := by decide +kernel
theorem dX11_whenRipe_62 : decode cX11_whenRipe 62 = .ok (.bipush (-5), 2) := by decide +kernel
theorem dX11_whenRipe_64 : decode cX11_whenRipe 64 = .ok (.ireturn, 1) := by decide +kernel
theorem dX11_pass_0 : decode cX11_pass 0 = .ok (.iload_n 1, 1) := by decide +kernel
theorem dX11_pass_1 : decode cX11_pass 1 = .ok (.ifCond .lt 9, 3) := by decide +kernel
theorem dX11_pass_4 : decode cX11_pass 4 = .ok (.iload_n 1, 1) := by decide +kernel
theorem dX11_pass_5 : decode cX11_pass 5 = .ok (.bipush 60, 2) := by decide +kernel
theorem dX11_pass_7 : decode cX11_pass 7 = .ok (.if_icmp .le 6, 3) := by decide +kernel
theorem dX11_pass_10 : decode cX11_pass 10 = .ok (.bipush (-2), 2) := by decide +kernel
theorem dX11_pass_12 : decode cX11_pass 12 = .ok (.ireturn, 1) := by decide +kernel
theorem dX11_pass_13 : decode cX11_pass 13 = .ok (.aload_n 0, 1) := by decide +kernel
theorem dX11_pass_14 : decode cX11_pass 14 = .ok (.getfield 37, 3) := by decide +kernel
theorem dX11_pass_17 : decode cX11_pass 17 = .ok (.getfield 162, 3) := by decide +kernel
theorem dX11_pass_20 : decode cX11_pass 20 = .ok (.iload_n 1, 1) := by decide +kernel
theorem dX11_pass_21 : decode cX11_pass 21 = .ok (.iadd, 1) := by decide +kernel
theorem dX11_pass_22 : decode cX11_pass 22 = .ok (.sipush 9999, 3) := by decide +kernel
theorem dX11_pass_25 : decode cX11_pass 25 = .ok (.if_icmp .le 6, 3) := by decide +kernel
theorem dX11_pass_28 : decode cX11_pass 28 = .ok (.bipush (-3), 2) := by decide +kernel
theorem dX11_pass_30 : decode cX11_pass 30 = .ok (.ireturn, 1) := by decide +kernel
theorem dX11_pass_31 : decode cX11_pass 31 = .ok (.aload_n 0, 1) := by decide +kernel
theorem dX11_pass_32 : decode cX11_pass 32 = .ok (.getfield 37, 3) := by decide +kernel
theorem dX11_pass_35 : decode cX11_pass 35 = .ok (.iload_n 1, 1) := by decide +kernel
theorem dX11_pass_36 : decode cX11_pass 36 = .ok (.sipush 9999, 3) := by decide +kernel
theorem dX11_pass_39 : decode cX11_pass 39 = .ok (.invokevirtual 192, 3) := by decide +kernel
theorem dX11_pass_42 : decode cX11_pass 42 = .ok (.aload_n 0, 1) := by decide +kernel
theorem dX11_pass_43 : decode cX11_pass 43 = .ok (.getfield 37, 3) := by decide +kernel
theorem dX11_pass_46 : decode cX11_pass 46 = .ok (.getfield 162, 3) := by decide +kernel
theorem dX11_pass_49 : decode cX11_pass 49 = .ok (.ireturn, 1) := by decide +kernel
theorem dX11_on_0 : decode cX11_on 0 = .ok (.iload_n 2, 1) := by decide +kernel
theorem dX11_on_1 : decode cX11_on 1 = .ok (.bipush 10, 2) := by decide +kernel
theorem dX11_on_3 : decode cX11_on 3 = .ok (.if_icmp .lt 13, 3) := by decide +kernel
theorem dX11_on_6 : decode cX11_on 6 = .ok (.iload_n 2, 1) := by decide +kernel
theorem dX11_on_7 : decode cX11_on 7 = .ok (.bipush 20, 2) := by decide +kernel
theorem dX11_on_9 : decode cX11_on 9 = .ok (.if_icmp .ge 7, 3) := by decide +kernel
theorem dX11_on_12 : decode cX11_on 12 = .ok (.iconst 1, 1) := by decide +kernel
theorem dX11_on_13 : decode cX11_on 13 = .ok (.goto 4, 3) := by decide +kernel
theorem dX11_on_16 : decode cX11_on 16 = .ok (.iconst 0, 1) := by decide +kernel
theorem dX11_on_17 : decode cX11_on 17 = .ok (.istore_n 3, 1) := by decide +kernel
theorem dX11_on_18 : decode cX11_on 18 = .ok (.iload_n 3, 1) := by decide +kernel
theorem dX11_on_19 : decode cX11_on 19 = .ok (.ifCond .eq 10, 3) := by decide +kernel
theorem dX11_on_22 : decode cX11_on 22 = .ok (.iload_n 2, 1) := by decide +kernel
theorem dX11_on_23 : decode cX11_on 23 = .ok (.bipush 10, 2) := by decide +kernel
theorem dX11_on_25 : decode cX11_on 25 = .ok (.isub, 1) := by decide +kernel
theorem dX11_on_26 : decode cX11_on 26 = .ok (.goto 7, 3) := by decide +kernel
theorem dX11_on_29 : decode cX11_on 29 = .ok (.iload_n 2, 1) := by decide +kernel
theorem dX11_on_30 : decode cX11_on 30 = .ok (.bipush 20, 2) := by decide +kernel
theorem dX11_on_32 : decode cX11_on 32 = .ok (.isub, 1) := by decide +kernel
theorem dX11_on_33 : decode cX11_on 33 = .ok (.istore 4, 2) := by decide +kernel
theorem dX11_on_35 : decode cX11_on 35 = .ok (.iload_n 2, 1) := by decide +kernel
theorem dX11_on_36 : decode cX11_on 36 = .ok (.ifCond .eq 23, 3) := by decide +kernel
theorem dX11_on_39 : decode cX11_on 39 = .ok (.iload_n 2, 1) := by decide +kernel
theorem dX11_on_40 : decode cX11_on 40 = .ok (.bipush 10, 2) := by decide +kernel
theorem dX11_on_42 : decode cX11_on 42 = .ok (.if_icmp .lt 15, 3) := by decide +kernel
theorem dX11_on_45 : decode cX11_on 45 = .ok (.aload_n 0, 1) := by decide +kernel
theorem dX11_on_46 : decode cX11_on 46 = .ok (.getfield 37, 3) := by decide +kernel
theorem dX11_on_49 : decode cX11_on 49 = .ok (.iload 4, 2) := by decide +kernel
theorem dX11_on_51 : decode cX11_on 51 = .ok (.invokevirtual 91, 3) := by decide +kernel
theorem dX11_on_54 : decode cX11_on 54 = .ok (.ifCond .ne 5, 3) := by decide +kernel
theorem dX11_on_57 : decode cX11_on 57 = .ok (.iconst (-1), 1) := by decide +kernel
theorem dX11_on_58 : decode cX11_on 58 = .ok (.ireturn, 1) := by decide +kernel
theorem dX11_on_59 : decode cX11_on 59 = .ok (.iload_n 1, 1) := by decide +kernel
theorem dX11_on_60 : decode cX11_on 60 = .ok (.ifCond .lt 9, 3) := by decide +kernel
theorem dX11_on_63 : decode cX11_on 63 = .ok (.iload_n 1, 1) := by decide +kernel
theorem dX11_on_64 : decode cX11_on 64 = .ok (.bipush 30, 2) := by decide +kernel
theorem dX11_on_66 : decode cX11_on 66 = .ok (.if_icmp .le 6, 3) := by decide +kernel
theorem dX11_on_69 : decode cX11_on 69 = .ok (.bipush (-2), 2) := by decide +kernel
theorem dX11_on_71 : decode cX11_on 71 = .ok (.ireturn, 1) := by decide +kernel
theorem dX11_on_72 : decode cX11_on 72 = .ok (.aload_n 0, 1) := by decide +kernel
theorem dX11_on_73 : decode cX11_on 73 = .ok (.getfield 46, 3) := by decide +kernel
theorem dX11_on_76 : decode cX11_on 76 = .ok (.aload_n 0, 1) := by decide +kernel
theorem dX11_on_77 : decode cX11_on 77 = .ok (.getfield 37, 3) := by decide +kernel
theorem dX11_on_80 : decode cX11_on 80 = .ok (.invokevirtual 184, 3) := by decide +kernel
theorem dX11_on_83 : decode cX11_on 83 = .ok (.aload_n 0, 1) := by decide +kernel
theorem dX11_on_84 : decode cX11_on 84 = .ok (.getfield 46, 3) := by decide +kernel
theorem dX11_on_87 : decode cX11_on 87 = .ok (.iload_n 1, 1) := by decide +kernel
theorem dX11_on_88 : decode cX11_on 88 = .ok (.ldc 191, 2) := by decide +kernel
theorem dX11_on_90 : decode cX11_on 90 = .ok (.invokevirtual 192, 3) := by decide +kernel
theorem dX11_on_93 : decode cX11_on 93 = .ok (.iload_n 2, 1) := by decide +kernel
theorem dX11_on_94 : decode cX11_on 94 = .ok (.ifCond .ne 11, 3) := by decide +kernel
theorem dX11_on_97 : decode cX11_on 97 = .ok (.aload_n 0, 1) := by decide +kernel
theorem dX11_on_98 : decode cX11_on 98 = .ok (.getfield 46, 3) := by decide +kernel
theorem dX11_on_101 : decode cX11_on 101 = .ok (.invokevirtual 175, 3) := by decide +kernel
theorem dX11_on_104 : decode cX11_on 104 = .ok (.ireturn, 1) := by decide +kernel
theorem dX11_on_105 : decode cX11_on 105 = .ok (.iload_n 3, 1) := by decide +kernel
theorem dX11_on_106 : decode cX11_on 106 = .ok (.ifCond .eq 16, 3) := by decide +kernel
theorem dX11_on_109 : decode cX11_on 109 = .ok (.aload_n 0, 1) := by decide +kernel
theorem dX11_on_110 : decode cX11_on 110 = .ok (.getfield 46, 3) := by decide +kernel
theorem dX11_on_113 : decode cX11_on 113 = .ok (.getfield 110, 3) := by decide +kernel
theorem dX11_on_116 : decode cX11_on 116 = .ok (.iload 4, 2) := by decide +kernel
theorem dX11_on_118 : decode cX11_on 118 = .ok (.iaload, 1) := by decide +kernel
theorem dX11_on_119 : decode cX11_on 119 = .ok (.goto 13, 3) := by decide +kernel
theorem dX11_on_122 : decode cX11_on 122 = .ok (.aload_n 0, 1) := by decide +kernel
theorem dX11_on_123 : decode cX11_on 123 = .ok (.getfield 46, 3) := by decide +kernel
theorem dX11_on_126 : decode cX11_on 126 = .ok (.getfield 113, 3) := by decide +kernel
theorem dX11_on_129 : decode cX11_on 129 = .ok (.iload 4, 2) := by decide +kernel
theorem dX11_on_131 : decode cX11_on 131 = .ok (.iaload, 1) := by decide +kernel
theorem dX11_on_132 : decode cX11_on 132 = .ok (.ireturn, 1) := by decide +kernel
theorem dX11_clear_0 : decode cX11_clear 0 = .ok (.aload_n 0, 1) := by decide +kernel
theorem dX11_clear_1 : decode cX11_clear 1 = .ok (.getfield 37, 3) := by decide +kernel
theorem dX11_clear_4 : decode cX11_clear 4 = .ok (.iload_n 1, 1) := by decide +kernel
theorem dX11_clear_5 : decode cX11_clear 5 = .ok (.invokevirtual 91, 3) := by decide +kernel
theorem dX11_clear_8 : decode cX11_clear 8 = .ok (.ifCond .ne 5, 3) := by decide +kernel
theorem dX11_clear_11 : decode cX11_clear 11 = .ok (.iconst (-1), 1) := by decide +kernel
theorem dX11_clear_12 : decode cX11_clear 12 = .ok (.ireturn, 1) := by decide +kernel
theorem dX11_clear_13 : decode cX11_clear 13 = .ok (.iload_n 2, 1) := by decide +kernel
theorem dX11_clear_14 : decode cX11_clear 14 = .ok (.invokestatic 196, 3) := by decide +kernel
theorem dX11_clear_17 : decode cX11_clear 17 = .ok (.ifCond .ne 6, 3) := by decide +kernel
theorem dX11_clear_20 : decode cX11_clear 20 = .ok (.bipush (-2), 2) := by decide +kernel
theorem dX11_clear_22 : decode cX11_clear 22 = .ok (.ireturn, 1) := by decide +kernel
theorem dX11_clear_23 : decode cX11_clear 23 = .ok (.aload_n 0, 1) := by decide +kernel
theorem dX11_clear_24 : decode cX11_clear 24 = .ok (.getfield 37, 3) := by decide +kernel
theorem dX11_clear_27 : decode cX11_clear 27 = .ok (.iload_n 1, 1) := by decide +kernel
theorem dX11_clear_28 : decode cX11_clear 28 = .ok (.invokevirtual 107, 3) := by decide +kernel
theorem dX11_clear_31 : decode cX11_clear 31 = .ok (.ifCond .eq 8, 3) := by decide +kernel
theorem dX11_clear_34 : decode cX11_clear 34 = .ok (.bipush (-5), 2) := by decide +kernel
theorem dX11_clear_36 : decode cX11_clear 36 = .ok (.goto 9, 3) := by decide +kernel
theorem dX11_clear_39 : decode cX11_clear 39 = .ok (.aload_n 0, 1) := by decide +kernel
theorem dX11_clear_40 : decode cX11_clear 40 = .ok (.iload_n 1, 1) := by decide +kernel
theorem dX11_clear_41 : decode cX11_clear 41 = .ok (.iload_n 2, 1) := by decide +kernel
theorem dX11_clear_42 : decode cX11_clear 42 = .ok (.invokevirtual 199, 3) := by decide +kernel
theorem dX11_clear_45 : decode cX11_clear 45 = .ok (.ireturn, 1) := by decide +kernel
theorem dX11_areHours_0 : decode cX11_areHours 0 = .ok (.iload_n 0, 1) := by decide +kernel
theorem dX11_areHours_1 : decode cX11_areHours 1 = .ok (.ifCond .lt 14, 3) := by decide +kernel
theorem dX11_areHours_4 : decode cX11_areHours 4 = .ok (.iload_n 0, 1) := by decide +kernel
theorem dX11_areHours_5 : decode cX11_areHours 5 = .ok (.sipush 4095, 3) := by decide +kernel
theorem dX11_areHours_8 : decode cX11_areHours 8 = .ok (.if_icmp .gt 7, 3) := by decide +kernel
theorem dX11_areHours_11 : decode cX11_areHours 11 = .ok (.iconst 1, 1) := by decide +kernel
theorem dX11_areHours_12 : decode cX11_areHours 12 = .ok (.goto 4, 3) := by decide +kernel
theorem dX11_areHours_15 : decode cX11_areHours 15 = .ok (.iconst 0, 1) := by decide +kernel
theorem dX11_areHours_16 : decode cX11_areHours 16 = .ok (.ireturn, 1) := by decide +kernel
theorem dX11_leastCuts_0 : decode cX11_leastCuts 0 = .ok (.aload_n 0, 1) := by decide +kernel
theorem dX11_leastCuts_1 : decode cX11_leastCuts 1 = .ok (.getfield 46, 3) := by decide +kernel
theorem dX11_leastCuts_4 : decode cX11_leastCuts 4 = .ok (.aload_n 0, 1) := by decide +kernel
theorem dX11_leastCuts_5 : decode cX11_leastCuts 5 = .ok (.getfield 37, 3) := by decide +kernel
theorem dX11_leastCuts_8 : decode cX11_leastCuts 8 = .ok (.invokevirtual 184, 3) := by decide +kernel
theorem dX11_leastCuts_11 : decode cX11_leastCuts 11 = .ok (.aload_n 0, 1) := by decide +kernel
theorem dX11_leastCuts_12 : decode cX11_leastCuts 12 = .ok (.getfield 46, 3) := by decide +kernel
theorem dX11_leastCuts_15 : decode cX11_leastCuts 15 = .ok (.invokevirtual 95, 3) := by decide +kernel
theorem dX11_leastCuts_18 : decode cX11_leastCuts 18 = .ok (.aload_n 0, 1) := by decide +kernel
theorem dX11_leastCuts_19 : decode cX11_leastCuts 19 = .ok (.getfield 37, 3) := by decide +kernel
theorem dX11_leastCuts_22 : decode cX11_leastCuts 22 = .ok (.invokevirtual 188, 3) := by decide +kernel
theorem dX11_leastCuts_25 : decode cX11_leastCuts 25 = .ok (.aload_n 0, 1) := by decide +kernel
theorem dX11_leastCuts_26 : decode cX11_leastCuts 26 = .ok (.getfield 37, 3) := by decide +kernel
theorem dX11_leastCuts_29 : decode cX11_leastCuts 29 = .ok (.getfield 169, 3) := by decide +kernel
theorem dX11_leastCuts_32 : decode cX11_leastCuts 32 = .ok (.iconst (-1), 1) := by decide +kernel
theorem dX11_leastCuts_33 : decode cX11_leastCuts 33 = .ok (.ixor, 1) := by decide +kernel
theorem dX11_leastCuts_34 : decode cX11_leastCuts 34 = .ok (.iand, 1) := by decide +kernel
theorem dX11_leastCuts_35 : decode cX11_leastCuts 35 = .ok (.iconst 1, 1) := by decide +kernel
theorem dX11_leastCuts_36 : decode cX11_leastCuts 36 = .ok (.iload_n 1, 1) := by decide +kernel
theorem dX11_leastCuts_37 : decode cX11_leastCuts 37 = .ok (.ishl, 1) := by decide +kernel
theorem dX11_leastCuts_38 : decode cX11_leastCuts 38 = .ok (.iconst (-1), 1) := by decide +kernel
theorem dX11_leastCuts_39 : decode cX11_leastCuts 39 = .ok (.ixor, 1) := by decide +kernel
theorem dX11_leastCuts_40 : decode cX11_leastCuts 40 = .ok (.iand, 1) := by decide +kernel
theorem dX11_leastCuts_41 : decode cX11_leastCuts 41 = .ok (.istore_n 3, 1) := by decide +kernel
theorem dX11_leastCuts_42 : decode cX11_leastCuts 42 = .ok (.bipush (-5), 2) := by decide +kernel
theorem dX11_leastCuts_44 : decode cX11_leastCuts 44 = .ok (.istore 4, 2) := by decide +kernel
theorem dX11_leastCuts_46 : decode cX11_leastCuts 46 = .ok (.bipush 6, 2) := by decide +kernel
theorem dX11_leastCuts_48 : decode cX11_leastCuts 48 = .ok (.istore 5, 2) := by decide +kernel
theorem dX11_leastCuts_50 : decode cX11_leastCuts 50 = .ok (.iconst 0, 1) := by decide +kernel
theorem dX11_leastCuts_51 : decode cX11_leastCuts 51 = .ok (.istore 6, 2) := by decide +kernel
theorem dX11_leastCuts_53 : decode cX11_leastCuts 53 = .ok (.iload 6, 2) := by decide +kernel
theorem dX11_leastCuts_55 : decode cX11_leastCuts 55 = .ok (.iload_n 3, 1) := by decide +kernel
theorem dX11_leastCuts_56 : decode cX11_leastCuts 56 = .ok (.if_icmp .gt 83, 3) := by decide +kernel
theorem dX11_leastCuts_59 : decode cX11_leastCuts 59 = .ok (.iload 6, 2) := by decide +kernel
theorem dX11_leastCuts_61 : decode cX11_leastCuts 61 = .ok (.invokestatic 202, 3) := by decide +kernel
theorem dX11_leastCuts_64 : decode cX11_leastCuts 64 = .ok (.istore 7, 2) := by decide +kernel
theorem dX11_leastCuts_66 : decode cX11_leastCuts 66 = .ok (.iload 6, 2) := by decide +kernel
theorem dX11_leastCuts_68 : decode cX11_leastCuts 68 = .ok (.iload_n 3, 1) := by decide +kernel
theorem dX11_leastCuts_69 : decode cX11_leastCuts 69 = .ok (.iconst (-1), 1) := by decide +kernel
theorem dX11_leastCuts_70 : decode cX11_leastCuts 70 = .ok (.ixor, 1) := by decide +kernel
theorem dX11_leastCuts_71 : decode cX11_leastCuts 71 = .ok (.iand, 1) := by decide +kernel
theorem dX11_leastCuts_72 : decode cX11_leastCuts 72 = .ok (.ifCond .ne 61, 3) := by decide +kernel
theorem dX11_leastCuts_75 : decode cX11_leastCuts 75 = .ok (.iload 7, 2) := by decide +kernel
theorem dX11_leastCuts_77 : decode cX11_leastCuts 77 = .ok (.iload 5, 2) := by decide +kernel
theorem dX11_leastCuts_79 : decode cX11_leastCuts 79 = .ok (.if_icmp .lt 6, 3) := by decide +kernel
theorem dX11_leastCuts_82 : decode cX11_leastCuts 82 = .ok (.goto 51, 3) := by decide +kernel
theorem dX11_leastCuts_85 : decode cX11_leastCuts 85 = .ok (.aload_n 0, 1) := by decide +kernel
theorem dX11_leastCuts_86 : decode cX11_leastCuts 86 = .ok (.getfield 46, 3) := by decide +kernel
theorem dX11_leastCuts_89 : decode cX11_leastCuts 89 = .ok (.aload_n 0, 1) := by decide +kernel
theorem dX11_leastCuts_90 : decode cX11_leastCuts 90 = .ok (.getfield 37, 3) := by decide +kernel
theorem dX11_leastCuts_93 : decode cX11_leastCuts 93 = .ok (.getfield 169, 3) := by decide +kernel
theorem dX11_leastCuts_96 : decode cX11_leastCuts 96 = .ok (.iload 6, 2) := by decide +kernel
theorem dX11_leastCuts_98 : decode cX11_leastCuts 98 = .ok (.ior, 1) := by decide +kernel
theorem dX11_leastCuts_99 : decode cX11_leastCuts 99 = .ok (.putfield 169, 3) := by decide +kernel
theorem dX11_leastCuts_102 : decode cX11_leastCuts 102 = .ok (.aload_n 0, 1) := by decide +kernel
theorem dX11_leastCuts_103 : decode cX11_leastCuts 103 = .ok (.getfield 46, 3) := by decide +kernel
theorem dX11_leastCuts_106 : decode cX11_leastCuts 106 = .ok (.invokevirtual 178, 3) := by decide +kernel
theorem dX11_leastCuts_109 : decode cX11_leastCuts 109 = .ok (.iload_n 2, 1) := by decide +kernel
theorem dX11_leastCuts_110 : decode cX11_leastCuts 110 = .ok (.aload_n 0, 1) := by decide +kernel
theorem dX11_leastCuts_111 : decode cX11_leastCuts 111 = .ok (.getfield 46, 3) := by decide +kernel
theorem dX11_leastCuts_114 : decode cX11_leastCuts 114 = .ok (.getfield 181, 3) := by decide +kernel
theorem dX11_leastCuts_117 : decode cX11_leastCuts 117 = .ok (.iload_n 1, 1) := by decide +kernel
theorem dX11_leastCuts_118 : decode cX11_leastCuts 118 = .ok (.iaload, 1) := by decide +kernel
theorem dX11_leastCuts_119 : decode cX11_leastCuts 119 = .ok (.iconst (-1), 1) := by decide +kernel
theorem dX11_leastCuts_120 : decode cX11_leastCuts 120 = .ok (.ixor, 1) := by decide +kernel
theorem dX11_leastCuts_121 : decode cX11_leastCuts 121 = .ok (.iand, 1) := by decide +kernel
theorem dX11_leastCuts_122 : decode cX11_leastCuts 122 = .ok (.ifCond .ne 11, 3) := by decide +kernel
theorem dX11_leastCuts_125 : decode cX11_leastCuts 125 = .ok (.iload 6, 2) := by decide +kernel
theorem dX11_leastCuts_127 : decode cX11_leastCuts 127 = .ok (.istore 4, 2) := by decide +kernel
theorem dX11_leastCuts_129 : decode cX11_leastCuts 129 = .ok (.iload 7, 2) := by decide +kernel
theorem dX11_leastCuts_131 : decode cX11_leastCuts 131 = .ok (.istore 5, 2) := by decide +kernel
theorem dX11_leastCuts_133 : decode cX11_leastCuts 133 = .ok (.iinc 6 1, 3) := by decide +kernel
theorem dX11_leastCuts_136 : decode cX11_leastCuts 136 = .ok (.goto (-83), 3) := by decide +kernel
theorem dX11_leastCuts_139 : decode cX11_leastCuts 139 = .ok (.iload 4, 2) := by decide +kernel
theorem dX11_leastCuts_141 : decode cX11_leastCuts 141 = .ok (.ireturn, 1) := by decide +kernel
theorem dX11_help_0 : decode cX11_help 0 = .ok (.aload_n 0, 1) := by decide +kernel
theorem dX11_help_1 : decode cX11_help 1 = .ok (.getfield 37, 3) := by decide +kernel
theorem dX11_help_4 : decode cX11_help 4 = .ok (.iload_n 1, 1) := by decide +kernel
theorem dX11_help_5 : decode cX11_help 5 = .ok (.invokevirtual 91, 3) := by decide +kernel
theorem dX11_help_8 : decode cX11_help 8 = .ok (.ifCond .eq 12, 3) := by decide +kernel
theorem dX11_help_11 : decode cX11_help 11 = .ok (.iload_n 2, 1) := by decide +kernel
theorem dX11_help_12 : decode cX11_help 12 = .ok (.ifCond .lt 8, 3) := by decide +kernel
theorem dX11_help_15 : decode cX11_help 15 = .ok (.iload_n 2, 1) := by decide +kernel
theorem dX11_help_16 : decode cX11_help 16 = .ok (.iconst 1, 1) := by decide +kernel
theorem dX11_help_17 : decode cX11_help 17 = .ok (.if_icmp .le 5, 3) := by decide +kernel
theorem dX11_help_20 : decode cX11_help 20 = .ok (.iconst (-1), 1) := by decide +kernel
theorem dX11_help_21 : decode cX11_help 21 = .ok (.ireturn, 1) := by decide +kernel
theorem dX11_help_22 : decode cX11_help 22 = .ok (.aload_n 0, 1) := by decide +kernel
theorem dX11_help_23 : decode cX11_help 23 = .ok (.getfield 37, 3) := by decide +kernel
theorem dX11_help_26 : decode cX11_help 26 = .ok (.iload_n 1, 1) := by decide +kernel
theorem dX11_help_27 : decode cX11_help 27 = .ok (.invokevirtual 107, 3) := by decide +kernel
theorem dX11_help_30 : decode cX11_help 30 = .ok (.ifCond .eq 6, 3) := by decide +kernel
theorem dX11_help_33 : decode cX11_help 33 = .ok (.bipush (-5), 2) := by decide +kernel
theorem dX11_help_35 : decode cX11_help 35 = .ok (.ireturn, 1) := by decide +kernel
theorem dX11_help_36 : decode cX11_help 36 = .ok (.aload_n 0, 1) := by decide +kernel
theorem dX11_help_37 : decode cX11_help 37 = .ok (.getfield 46, 3) := by decide +kernel
theorem dX11_help_40 : decode cX11_help 40 = .ok (.aload_n 0, 1) := by decide +kernel
theorem dX11_help_41 : decode cX11_help 41 = .ok (.getfield 37, 3) := by decide +kernel
theorem dX11_help_44 : decode cX11_help 44 = .ok (.invokevirtual 184, 3) := by decide +kernel
theorem dX11_help_47 : decode cX11_help 47 = .ok (.aload_n 0, 1) := by decide +kernel
theorem dX11_help_48 : decode cX11_help 48 = .ok (.getfield 46, 3) := by decide +kernel
theorem dX11_help_51 : decode cX11_help 51 = .ok (.invokevirtual 95, 3) := by decide +kernel
theorem dX11_help_54 : decode cX11_help 54 = .ok (.aload_n 0, 1) := by decide +kernel
theorem dX11_help_55 : decode cX11_help 55 = .ok (.getfield 46, 3) := by decide +kernel
theorem dX11_help_58 : decode cX11_help 58 = .ok (.invokevirtual 178, 3) := by decide +kernel
theorem dX11_help_61 : decode cX11_help 61 = .ok (.aload_n 0, 1) := by decide +kernel
theorem dX11_help_62 : decode cX11_help 62 = .ok (.getfield 46, 3) := by decide +kernel
theorem dX11_help_65 : decode cX11_help 65 = .ok (.getfield 181, 3) := by decide +kernel
theorem dX11_help_68 : decode cX11_help 68 = .ok (.iload_n 1, 1) := by decide +kernel
theorem dX11_help_69 : decode cX11_help 69 = .ok (.iaload, 1) := by decide +kernel
theorem dX11_help_70 : decode cX11_help 70 = .ok (.invokestatic 202, 3) := by decide +kernel
theorem dX11_help_73 : decode cX11_help 73 = .ok (.istore_n 3, 1) := by decide +kernel
theorem dX11_help_74 : decode cX11_help 74 = .ok (.bipush (-5), 2) := by decide +kernel
theorem dX11_help_76 : decode cX11_help 76 = .ok (.istore 4, 2) := by decide +kernel
theorem dX11_help_78 : decode cX11_help 78 = .ok (.iconst 0, 1) := by decide +kernel
theorem dX11_help_79 : decode cX11_help 79 = .ok (.istore 5, 2) := by decide +kernel
theorem dX11_help_81 : decode cX11_help 81 = .ok (.iconst 0, 1) := by decide +kernel
theorem dX11_help_82 : decode cX11_help 82 = .ok (.istore 6, 2) := by decide +kernel
theorem dX11_help_84 : decode cX11_help 84 = .ok (.iload 6, 2) := by decide +kernel
theorem dX11_help_86 : decode cX11_help 86 = .ok (.aload_n 0, 1) := by decide +kernel
theorem dX11_help_87 : decode cX11_help 87 = .ok (.getfield 37, 3) := by decide +kernel
theorem dX11_help_90 : decode cX11_help 90 = .ok (.getfield 83, 3) := by decide +kernel
theorem dX11_help_93 : decode cX11_help 93 = .ok (.if_icmp .ge 87, 3) := by decide +kernel
theorem dX11_help_96 : decode cX11_help 96 = .ok (.iload 6, 2) := by decide +kernel
theorem dX11_help_98 : decode cX11_help 98 = .ok (.iload_n 1, 1) := by decide +kernel
theorem dX11_help_99 : decode cX11_help 99 = .ok (.if_icmp .eq 75, 3) := by decide +kernel
theorem dX11_help_102 : decode cX11_help 102 = .ok (.aload_n 0, 1) := by decide +kernel
theorem dX11_help_103 : decode cX11_help 103 = .ok (.getfield 37, 3) := by decide +kernel
theorem dX11_help_106 : decode cX11_help 106 = .ok (.iload 6, 2) := by decide +kernel
theorem dX11_help_108 : decode cX11_help 108 = .ok (.invokevirtual 107, 3) := by decide +kernel
theorem dX11_help_111 : decode cX11_help 111 = .ok (.ifCond .eq 6, 3) := by decide +kernel
theorem dX11_help_114 : decode cX11_help 114 = .ok (.goto 60, 3) := by decide +kernel
theorem dX11_help_117 : decode cX11_help 117 = .ok (.aload_n 0, 1) := by decide +kernel
theorem dX11_help_118 : decode cX11_help 118 = .ok (.getfield 46, 3) := by decide +kernel
theorem dX11_help_121 : decode cX11_help 121 = .ok (.aload_n 0, 1) := by decide +kernel
theorem dX11_help_122 : decode cX11_help 122 = .ok (.getfield 37, 3) := by decide +kernel
theorem dX11_help_125 : decode cX11_help 125 = .ok (.getfield 169, 3) := by decide +kernel
theorem dX11_help_128 : decode cX11_help 128 = .ok (.iconst 1, 1) := by decide +kernel
theorem dX11_help_129 : decode cX11_help 129 = .ok (.iload 6, 2) := by decide +kernel
theorem dX11_help_131 : decode cX11_help 131 = .ok (.ishl, 1) := by decide +kernel
theorem dX11_help_132 : decode cX11_help 132 = .ok (.ior, 1) := by decide +kernel
theorem dX11_help_133 : decode cX11_help 133 = .ok (.putfield 169, 3) := by decide +kernel
theorem dX11_help_136 : decode cX11_help 136 = .ok (.aload_n 0, 1) := by decide +kernel
theorem dX11_help_137 : decode cX11_help 137 = .ok (.getfield 46, 3) := by decide +kernel
theorem dX11_help_140 : decode cX11_help 140 = .ok (.invokevirtual 178, 3) := by decide +kernel
theorem dX11_help_143 : decode cX11_help 143 = .ok (.aload_n 0, 1) := by decide +kernel
theorem dX11_help_144 : decode cX11_help 144 = .ok (.getfield 46, 3) := by decide +kernel
theorem dX11_help_147 : decode cX11_help 147 = .ok (.getfield 181, 3) := by decide +kernel
theorem dX11_help_150 : decode cX11_help 150 = .ok (.iload_n 1, 1) := by decide +kernel
theorem dX11_help_151 : decode cX11_help 151 = .ok (.iaload, 1) := by decide +kernel
theorem dX11_help_152 : decode cX11_help 152 = .ok (.invokestatic 202, 3) := by decide +kernel
theorem dX11_help_155 : decode cX11_help 155 = .ok (.iload_n 3, 1) := by decide +kernel
theorem dX11_help_156 : decode cX11_help 156 = .ok (.isub, 1) := by decide +kernel
theorem dX11_help_157 : decode cX11_help 157 = .ok (.istore 7, 2) := by decide +kernel
theorem dX11_help_159 : decode cX11_help 159 = .ok (.iload 7, 2) := by decide +kernel
theorem dX11_help_161 : decode cX11_help 161 = .ok (.iload 5, 2) := by decide +kernel
theorem dX11_help_163 : decode cX11_help 163 = .ok (.if_icmp .le 11, 3) := by decide +kernel
theorem dX11_help_166 : decode cX11_help 166 = .ok (.iload 7, 2) := by decide +kernel
theorem dX11_help_168 : decode cX11_help 168 = .ok (.istore 5, 2) := by decide +kernel
theorem dX11_help_170 : decode cX11_help 170 = .ok (.iload 6, 2) := by decide +kernel
theorem dX11_help_172 : decode cX11_help 172 = .ok (.istore 4, 2) := by decide +kernel
theorem dX11_help_174 : decode cX11_help 174 = .ok (.iinc 6 1, 3) := by decide +kernel
theorem dX11_help_177 : decode cX11_help 177 = .ok (.goto (-93), 3) := by decide +kernel
theorem dX11_help_180 : decode cX11_help 180 = .ok (.iload_n 2, 1) := by decide +kernel
theorem dX11_help_181 : decode cX11_help 181 = .ok (.ifCond .eq 10, 3) := by decide +kernel
theorem dX11_help_184 : decode cX11_help 184 = .ok (.iload 4, 2) := by decide +kernel
theorem dX11_help_186 : decode cX11_help 186 = .ok (.bipush (-5), 2) := by decide +kernel
theorem dX11_help_188 : decode cX11_help 188 = .ok (.if_icmp .ne 8, 3) := by decide +kernel
theorem dX11_help_191 : decode cX11_help 191 = .ok (.iload 4, 2) := by decide +kernel
theorem dX11_help_193 : decode cX11_help 193 = .ok (.goto 5, 3) := by decide +kernel
theorem dX11_help_196 : decode cX11_help 196 = .ok (.iload 5, 2) := by decide +kernel
theorem dX11_help_198 : decode cX11_help 198 = .ok (.ireturn, 1) := by decide +kernel
theorem dX11_want_0 : decode cX11_want 0 = .ok (.iload_n 1, 1) := by decide +kernel
theorem dX11_want_1 : decode cX11_want 1 = .ok (.iconst (-1), 1) := by decide +kernel
theorem dX11_want_2 : decode cX11_want 2 = .ok (.if_icmp .ne 14, 3) := by decide +kernel
theorem dX11_want_5 : decode cX11_want 5 = .ok (.aload_n 0, 1) := by decide +kernel
theorem dX11_want_6 : decode cX11_want 6 = .ok (.getfield 37, 3) := by decide +kernel
theorem dX11_want_9 : decode cX11_want 9 = .ok (.getfield 205, 3) := by decide +kernel
theorem dX11_want_12 : decode cX11_want 12 = .ok (.invokevirtual 209, 3) := by decide +kernel
theorem dX11_want_15 : decode cX11_want 15 = .ok (.ireturn, 1) := by decide +kernel
theorem dX11_want_16 : decode cX11_want 16 = .ok (.iload_n 1, 1) := by decide +kernel
theorem dX11_want_17 : decode cX11_want 17 = .ok (.invokestatic 196, 3) := by decide +kernel
theorem dX11_want_20 : decode cX11_want 20 = .ok (.ifCond .ne 6, 3) := by decide +kernel
theorem dX11_want_23 : decode cX11_want 23 = .ok (.bipush (-2), 2) := by decide +kernel
theorem dX11_want_25 : decode cX11_want 25 = .ok (.ireturn, 1) := by decide +kernel
theorem dX11_want_26 : decode cX11_want 26 = .ok (.aload_n 0, 1) := by decide +kernel
theorem dX11_want_27 : decode cX11_want 27 = .ok (.getfield 37, 3) := by decide +kernel
theorem dX11_want_30 : decode cX11_want 30 = .ok (.getfield 205, 3) := by decide +kernel
theorem dX11_want_33 : decode cX11_want 33 = .ok (.iconst 0, 1) := by decide +kernel
theorem dX11_want_34 : decode cX11_want 34 = .ok (.iload_n 1, 1) := by decide +kernel
theorem dX11_want_35 : decode cX11_want 35 = .ok (.invokevirtual 214, 3) := by decide +kernel
theorem dX11_want_38 : decode cX11_want 38 = .ok (.ireturn, 1) := by decide +kernel
theorem dX11_sent_0 : decode cX11_sent 0 = .ok (.iload_n 1, 1) := by decide +kernel
theorem dX11_sent_1 : decode cX11_sent 1 = .ok (.iconst (-1), 1) := by decide +kernel
theorem dX11_sent_2 : decode cX11_sent 2 = .ok (.if_icmp .lt 17, 3) := by decide +kernel
theorem dX11_sent_5 : decode cX11_sent 5 = .ok (.iload_n 1, 1) := by decide +kernel
theorem dX11_sent_6 : decode cX11_sent 6 = .ok (.aload_n 0, 1) := by decide +kernel
theorem dX11_sent_7 : decode cX11_sent 7 = .ok (.getfield 37, 3) := by decide +kernel
theorem dX11_sent_10 : decode cX11_sent 10 = .ok (.getfield 205, 3) := by decide +kernel
theorem dX11_sent_13 : decode cX11_sent 13 = .ok (.getfield 217, 3) := by decide +kernel
theorem dX11_sent_16 : decode cX11_sent 16 = .ok (.if_icmp .lt 5, 3) := by decide +kernel
theorem dX11_sent_19 : decode cX11_sent 19 = .ok (.iconst (-1), 1) := by decide +kernel
theorem dX11_sent_20 : decode cX11_sent 20 = .ok (.ireturn, 1) := by decide +kernel
theorem dX11_sent_21 : decode cX11_sent 21 = .ok (.aload_n 0, 1) := by decide +kernel
theorem dX11_sent_22 : decode cX11_sent 22 = .ok (.invokevirtual 220, 3) := by decide +kernel
theorem dX11_sent_25 : decode cX11_sent 25 = .ok (.iload_n 1, 1) := by decide +kernel
theorem dX11_sent_26 : decode cX11_sent 26 = .ok (.iconst (-1), 1) := by decide +kernel
theorem dX11_sent_27 : decode cX11_sent 27 = .ok (.if_icmp .ne 14, 3) := by decide +kernel
theorem dX11_sent_30 : decode cX11_sent 30 = .ok (.aload_n 0, 1) := by decide +kernel
theorem dX11_sent_31 : decode cX11_sent 31 = .ok (.getfield 62, 3) := by decide +kernel
theorem dX11_sent_34 : decode cX11_sent 34 = .ok (.iconst 0, 1) := by decide +kernel
theorem dX11_sent_35 : decode cX11_sent 35 = .ok (.aaload, 1) := by decide +kernel
theorem dX11_sent_36 : decode cX11_sent 36 = .ok (.iconst 0, 1) := by decide +kernel
theorem dX11_sent_37 : decode cX11_sent 37 = .ok (.iaload, 1) := by decide +kernel
theorem dX11_sent_38 : decode cX11_sent 38 = .ok (.goto 8, 3) := by decide +kernel
theorem dX11_sent_41 : decode cX11_sent 41 = .ok (.aload_n 0, 1) := by decide +kernel
theorem dX11_sent_42 : decode cX11_sent 42 = .ok (.iload_n 1, 1) := by decide +kernel
theorem dX11_sent_43 : decode cX11_sent 43 = .ok (.invokevirtual 223, 3) := by decide +kernel
theorem dX11_sent_46 : decode cX11_sent 46 = .ok (.ireturn, 1) := by decide +kernel
theorem dX11_countGives_0 : decode cX11_countGives 0 = .ok (.aload_n 0, 1) := by decide +kernel
theorem dX11_countGives_1 : decode cX11_countGives 1 = .ok (.getfield 62, 3) := by decide +kernel
theorem dX11_countGives_4 : decode cX11_countGives 4 = .ok (.aload_n 0, 1) := by decide +kernel
theorem dX11_countGives_5 : decode cX11_countGives 5 = .ok (.getfield 37, 3) := by decide +kernel
theorem dX11_countGives_8 : decode cX11_countGives 8 = .ok (.getfield 205, 3) := by decide +kernel
theorem dX11_countGives_11 : decode cX11_countGives 11 = .ok (.getfield 217, 3) := by decide +kernel
theorem dX11_countGives_14 : decode cX11_countGives 14 = .ok (.aaload, 1) := by decide +kernel
theorem dX11_countGives_15 : decode cX11_countGives 15 = .ok (.iconst 0, 1) := by decide +kernel
theorem dX11_countGives_16 : decode cX11_countGives 16 = .ok (.invokestatic 74, 3) := by decide +kernel
theorem dX11_countGives_19 : decode cX11_countGives 19 = .ok (.aload_n 0, 1) := by decide +kernel
theorem dX11_countGives_20 : decode cX11_countGives 20 = .ok (.getfield 37, 3) := by decide +kernel
theorem dX11_countGives_23 : decode cX11_countGives 23 = .ok (.getfield 205, 3) := by decide +kernel
theorem dX11_countGives_26 : decode cX11_countGives 26 = .ok (.getfield 217, 3) := by decide +kernel
theorem dX11_countGives_29 : decode cX11_countGives 29 = .ok (.iconst 1, 1) := by decide +kernel
theorem dX11_countGives_30 : decode cX11_countGives 30 = .ok (.isub, 1) := by decide +kernel
theorem dX11_countGives_31 : decode cX11_countGives 31 = .ok (.istore_n 1, 1) := by decide +kernel
theorem dX11_countGives_32 : decode cX11_countGives 32 = .ok (.iload_n 1, 1) := by decide +kernel
theorem dX11_countGives_33 : decode cX11_countGives 33 = .ok (.ifCond .lt 97, 3) := by decide +kernel
theorem dX11_countGives_36 : decode cX11_countGives 36 = .ok (.iconst 0, 1) := by decide +kernel
theorem dX11_countGives_37 : decode cX11_countGives 37 = .ok (.istore_n 2, 1) := by decide +kernel
theorem dX11_countGives_38 : decode cX11_countGives 38 = .ok (.iload_n 2, 1) := by decide +kernel
theorem dX11_countGives_39 : decode cX11_countGives 39 = .ok (.bipush 64, 2) := by decide +kernel
theorem dX11_countGives_41 : decode cX11_countGives 41 = .ok (.if_icmp .ge 83, 3) := by decide +kernel
theorem dX11_countGives_44 : decode cX11_countGives 44 = .ok (.aload_n 0, 1) := by decide +kernel
theorem dX11_countGives_45 : decode cX11_countGives 45 = .ok (.getfield 62, 3) := by decide +kernel
theorem dX11_countGives_48 : decode cX11_countGives 48 = .ok (.iload_n 1, 1) := by decide +kernel
theorem dX11_countGives_49 : decode cX11_countGives 49 = .ok (.iconst 1, 1) := by decide +kernel
theorem dX11_countGives_50 : decode cX11_countGives 50 = .ok (.iadd, 1) := by decide +kernel
theorem dX11_countGives_51 : decode cX11_countGives 51 = .ok (.aaload, 1) := by decide +kernel
theorem dX11_countGives_52 : decode cX11_countGives 52 = .ok (.iload_n 2, 1) := by decide +kernel
theorem dX11_countGives_53 : decode cX11_countGives 53 = .ok (.iaload, 1) := by decide +kernel
theorem dX11_countGives_54 : decode cX11_countGives 54 = .ok (.istore_n 3, 1) := by decide +kernel
theorem dX11_countGives_55 : decode cX11_countGives 55 = .ok (.iconst 0, 1) := by decide +kernel
theorem dX11_countGives_56 : decode cX11_countGives 56 = .ok (.istore 4, 2) := by decide +kernel
theorem dX11_countGives_58 : decode cX11_countGives 58 = .ok (.iload 4, 2) := by decide +kernel
theorem dX11_countGives_60 : decode cX11_countGives 60 = .ok (.aload_n 0, 1) := by decide +kernel
theorem dX11_countGives_61 : decode cX11_countGives 61 = .ok (.getfield 37, 3) := by decide +kernel
theorem dX11_countGives_64 : decode cX11_countGives 64 = .ok (.getfield 83, 3) := by decide +kernel
theorem dX11_countGives_67 : decode cX11_countGives 67 = .ok (.if_icmp .ge 42, 3) := by decide +kernel
theorem dX11_countGives_70 : decode cX11_countGives 70 = .ok (.aload_n 0, 1) := by decide +kernel
theorem dX11_countGives_71 : decode cX11_countGives 71 = .ok (.iload_n 1, 1) := by decide +kernel
theorem dX11_countGives_72 : decode cX11_countGives 72 = .ok (.iload 4, 2) := by decide +kernel
theorem dX11_countGives_74 : decode cX11_countGives 74 = .ok (.iload_n 2, 1) := by decide +kernel
theorem dX11_countGives_75 : decode cX11_countGives 75 = .ok (.invokevirtual 226, 3) := by decide +kernel
theorem dX11_countGives_78 : decode cX11_countGives 78 = .ok (.ifCond .eq 25, 3) := by decide +kernel
theorem dX11_countGives_81 : decode cX11_countGives 81 = .ok (.iload_n 3, 1) := by decide +kernel
theorem dX11_countGives_82 : decode cX11_countGives 82 = .ok (.iconst 1, 1) := by decide +kernel
theorem dX11_countGives_83 : decode cX11_countGives 83 = .ok (.aload_n 0, 1) := by decide +kernel
theorem dX11_countGives_84 : decode cX11_countGives 84 = .ok (.getfield 62, 3) := by decide +kernel
theorem dX11_countGives_87 : decode cX11_countGives 87 = .ok (.iload_n 1, 1) := by decide +kernel
theorem dX11_countGives_88 : decode cX11_countGives 88 = .ok (.iconst 1, 1) := by decide +kernel
theorem dX11_countGives_89 : decode cX11_countGives 89 = .ok (.iadd, 1) := by decide +kernel
theorem dX11_countGives_90 : decode cX11_countGives 90 = .ok (.aaload, 1) := by decide +kernel
theorem dX11_countGives_91 : decode cX11_countGives 91 = .ok (.iload_n 2, 1) := by decide +kernel
theorem dX11_countGives_92 : decode cX11_countGives 92 = .ok (.iconst 1, 1) := by decide +kernel
theorem dX11_countGives_93 : decode cX11_countGives 93 = .ok (.iload 4, 2) := by decide +kernel
theorem dX11_countGives_95 : decode cX11_countGives 95 = .ok (.ishl, 1) := by decide +kernel
theorem dX11_countGives_96 : decode cX11_countGives 96 = .ok (.ior, 1) := by decide +kernel
theorem dX11_countGives_97 : decode cX11_countGives 97 = .ok (.iaload, 1) := by decide +kernel
theorem dX11_countGives_98 : decode cX11_countGives 98 = .ok (.iadd, 1) := by decide +kernel
theorem dX11_countGives_99 : decode cX11_countGives 99 = .ok (.invokestatic 230, 3) := by decide +kernel
theorem dX11_countGives_102 : decode cX11_countGives 102 = .ok (.istore_n 3, 1) := by decide +kernel
theorem dX11_countGives_103 : decode cX11_countGives 103 = .ok (.iinc 4 1, 3) := by decide +kernel
theorem dX11_countGives_106 : decode cX11_countGives 106 = .ok (.goto (-48), 3) := by decide +kernel
theorem dX11_countGives_109 : decode cX11_countGives 109 = .ok (.aload_n 0, 1) := by decide +kernel
theorem dX11_countGives_110 : decode cX11_countGives 110 = .ok (.getfield 62, 3) := by decide +kernel
theorem dX11_countGives_113 : decode cX11_countGives 113 = .ok (.iload_n 1, 1) := by decide +kernel
theorem dX11_countGives_114 : decode cX11_countGives 114 = .ok (.aaload, 1) := by decide +kernel
theorem dX11_countGives_115 : decode cX11_countGives 115 = .ok (.iload_n 2, 1) := by decide +kernel
theorem dX11_countGives_116 : decode cX11_countGives 116 = .ok (.iload_n 3, 1) := by decide +kernel
theorem dX11_countGives_117 : decode cX11_countGives 117 = .ok (.iastore, 1) := by decide +kernel
theorem dX11_countGives_118 : decode cX11_countGives 118 = .ok (.iinc 2 1, 3) := by decide +kernel
theorem dX11_countGives_121 : decode cX11_countGives 121 = .ok (.goto (-83), 3) := by decide +kernel
theorem dX11_countGives_124 : decode cX11_countGives 124 = .ok (.iinc 1 (-1), 3) := by decide +kernel
theorem dX11_countGives_127 : decode cX11_countGives 127 = .ok (.goto (-95), 3) := by decide +kernel
theorem dX11_countGives_130 : decode cX11_countGives 130 = .ok (.return_, 1) := by decide +kernel
theorem dX11_canBeSent_0 : decode cX11_canBeSent 0 = .ok (.iload_n 3, 1) := by decide +kernel
theorem dX11_canBeSent_1 : decode cX11_canBeSent 1 = .ok (.aload_n 0, 1) := by decide +kernel
theorem dX11_canBeSent_2 : decode cX11_canBeSent 2 = .ok (.getfield 37, 3) := by decide +kernel
theorem dX11_canBeSent_5 : decode cX11_canBeSent 5 = .ok (.getfield 169, 3) := by decide +kernel
theorem dX11_canBeSent_8 : decode cX11_canBeSent 8 = .ok (.ior, 1) := by decide +kernel
theorem dX11_canBeSent_9 : decode cX11_canBeSent 9 = .ok (.iload_n 2, 1) := by decide +kernel
theorem dX11_canBeSent_10 : decode cX11_canBeSent 10 = .ok (.ishr, 1) := by decide +kernel
theorem dX11_canBeSent_11 : decode cX11_canBeSent 11 = .ok (.iconst 1, 1) := by decide +kernel
theorem dX11_canBeSent_12 : decode cX11_canBeSent 12 = .ok (.iand, 1) := by decide +kernel
theorem dX11_canBeSent_13 : decode cX11_canBeSent 13 = .ok (.ifCond .ne 34, 3) := by decide +kernel
theorem dX11_canBeSent_16 : decode cX11_canBeSent 16 = .ok (.aload_n 0, 1) := by decide +kernel
theorem dX11_canBeSent_17 : decode cX11_canBeSent 17 = .ok (.getfield 37, 3) := by decide +kernel
theorem dX11_canBeSent_20 : decode cX11_canBeSent 20 = .ok (.getfield 205, 3) := by decide +kernel
theorem dX11_canBeSent_23 : decode cX11_canBeSent 23 = .ok (.getfield 235, 3) := by decide +kernel
theorem dX11_canBeSent_26 : decode cX11_canBeSent 26 = .ok (.iload_n 1, 1) := by decide +kernel
theorem dX11_canBeSent_27 : decode cX11_canBeSent 27 = .ok (.iaload, 1) := by decide +kernel
theorem dX11_canBeSent_28 : decode cX11_canBeSent 28 = .ok (.aload_n 0, 1) := by decide +kernel
theorem dX11_canBeSent_29 : decode cX11_canBeSent 29 = .ok (.getfield 37, 3) := by decide +kernel
theorem dX11_canBeSent_32 : decode cX11_canBeSent 32 = .ok (.getfield 110, 3) := by decide +kernel
theorem dX11_canBeSent_35 : decode cX11_canBeSent 35 = .ok (.iload_n 2, 1) := by decide +kernel
theorem dX11_canBeSent_36 : decode cX11_canBeSent 36 = .ok (.iaload, 1) := by decide +kernel
theorem dX11_canBeSent_37 : decode cX11_canBeSent 37 = .ok (.iconst (-1), 1) := by decide +kernel
theorem dX11_canBeSent_38 : decode cX11_canBeSent 38 = .ok (.ixor, 1) := by decide +kernel
theorem dX11_canBeSent_39 : decode cX11_canBeSent 39 = .ok (.iand, 1) := by decide +kernel
theorem dX11_canBeSent_40 : decode cX11_canBeSent 40 = .ok (.ifCond .ne 7, 3) := by decide +kernel
theorem dX11_canBeSent_43 : decode cX11_canBeSent 43 = .ok (.iconst 1, 1) := by decide +kernel
theorem dX11_canBeSent_44 : decode cX11_canBeSent 44 = .ok (.goto 4, 3) := by decide +kernel
theorem dX11_canBeSent_47 : decode cX11_canBeSent 47 = .ok (.iconst 0, 1) := by decide +kernel
theorem dX11_canBeSent_48 : decode cX11_canBeSent 48 = .ok (.ireturn, 1) := by decide +kernel
theorem dX11_sentFor_0 : decode cX11_sentFor 0 = .ok (.iconst 0, 1) := by decide +kernel
theorem dX11_sentFor_1 : decode cX11_sentFor 1 = .ok (.istore_n 2, 1) := by decide +kernel
theorem dX11_sentFor_2 : decode cX11_sentFor 2 = .ok (.bipush (-5), 2) := by decide +kernel
theorem dX11_sentFor_4 : decode cX11_sentFor 4 = .ok (.istore_n 3, 1) := by decide +kernel
theorem dX11_sentFor_5 : decode cX11_sentFor 5 = .ok (.iconst 0, 1) := by decide +kernel
theorem dX11_sentFor_6 : decode cX11_sentFor 6 = .ok (.istore 4, 2) := by decide +kernel
theorem dX11_sentFor_8 : decode cX11_sentFor 8 = .ok (.iload 4, 2) := by decide +kernel
theorem dX11_sentFor_10 : decode cX11_sentFor 10 = .ok (.iload_n 1, 1) := by decide +kernel
theorem dX11_sentFor_11 : decode cX11_sentFor 11 = .ok (.if_icmp .gt 29, 3) := by decide +kernel
theorem dX11_sentFor_14 : decode cX11_sentFor 14 = .ok (.aload_n 0, 1) := by decide +kernel
theorem dX11_sentFor_15 : decode cX11_sentFor 15 = .ok (.iload 4, 2) := by decide +kernel
theorem dX11_sentFor_17 : decode cX11_sentFor 17 = .ok (.iload_n 2, 1) := by decide +kernel
theorem dX11_sentFor_18 : decode cX11_sentFor 18 = .ok (.invokevirtual 238, 3) := by decide +kernel
theorem dX11_sentFor_21 : decode cX11_sentFor 21 = .ok (.istore_n 3, 1) := by decide +kernel
theorem dX11_sentFor_22 : decode cX11_sentFor 22 = .ok (.iload_n 3, 1) := by decide +kernel
theorem dX11_sentFor_23 : decode cX11_sentFor 23 = .ok (.bipush (-5), 2) := by decide +kernel
theorem dX11_sentFor_25 : decode cX11_sentFor 25 = .ok (.if_icmp .eq 9, 3) := by decide +kernel
theorem dX11_sentFor_28 : decode cX11_sentFor 28 = .ok (.iload_n 2, 1) := by decide +kernel
theorem dX11_sentFor_29 : decode cX11_sentFor 29 = .ok (.iconst 1, 1) := by decide +kernel
theorem dX11_sentFor_30 : decode cX11_sentFor 30 = .ok (.iload_n 3, 1) := by decide +kernel
theorem dX11_sentFor_31 : decode cX11_sentFor 31 = .ok (.ishl, 1) := by decide +kernel
theorem dX11_sentFor_32 : decode cX11_sentFor 32 = .ok (.ior, 1) := by decide +kernel
theorem dX11_sentFor_33 : decode cX11_sentFor 33 = .ok (.istore_n 2, 1) := by decide +kernel
theorem dX11_sentFor_34 : decode cX11_sentFor 34 = .ok (.iinc 4 1, 3) := by decide +kernel
theorem dX11_sentFor_37 : decode cX11_sentFor 37 = .ok (.goto (-29), 3) := by decide +kernel
theorem dX11_sentFor_40 : decode cX11_sentFor 40 = .ok (.iload_n 3, 1) := by decide +kernel
theorem dX11_sentFor_41 : decode cX11_sentFor 41 = .ok (.ireturn, 1) := by decide +kernel
theorem dX11_firstGiven_0 : decode cX11_firstGiven 0 = .ok (.iconst 0, 1) := by decide +kernel
theorem dX11_firstGiven_1 : decode cX11_firstGiven 1 = .ok (.istore_n 3, 1) := by decide +kernel
theorem dX11_firstGiven_2 : decode cX11_firstGiven 2 = .ok (.iload_n 3, 1) := by decide +kernel
theorem dX11_firstGiven_3 : decode cX11_firstGiven 3 = .ok (.aload_n 0, 1) := by decide +kernel
theorem dX11_firstGiven_4 : decode cX11_firstGiven 4 = .ok (.getfield 37, 3) := by decide +kernel
theorem dX11_firstGiven_7 : decode cX11_firstGiven 7 = .ok (.getfield 83, 3) := by decide +kernel
theorem dX11_firstGiven_10 : decode cX11_firstGiven 10 = .ok (.if_icmp .ge 48, 3) := by decide +kernel
theorem dX11_firstGiven_13 : decode cX11_firstGiven 13 = .ok (.aload_n 0, 1) := by decide +kernel
theorem dX11_firstGiven_14 : decode cX11_firstGiven 14 = .ok (.iload_n 1, 1) := by decide +kernel
theorem dX11_firstGiven_15 : decode cX11_firstGiven 15 = .ok (.iload_n 3, 1) := by decide +kernel
theorem dX11_firstGiven_16 : decode cX11_firstGiven 16 = .ok (.iload_n 2, 1) := by decide +kernel
theorem dX11_firstGiven_17 : decode cX11_firstGiven 17 = .ok (.invokevirtual 226, 3) := by decide +kernel
theorem dX11_firstGiven_20 : decode cX11_firstGiven 20 = .ok (.ifCond .eq 32, 3) := by decide +kernel
theorem dX11_firstGiven_23 : decode cX11_firstGiven 23 = .ok (.iconst 1, 1) := by decide +kernel
theorem dX11_firstGiven_24 : decode cX11_firstGiven 24 = .ok (.aload_n 0, 1) := by decide +kernel
theorem dX11_firstGiven_25 : decode cX11_firstGiven 25 = .ok (.getfield 62, 3) := by decide +kernel
theorem dX11_firstGiven_28 : decode cX11_firstGiven 28 = .ok (.iload_n 1, 1) := by decide +kernel
theorem dX11_firstGiven_29 : decode cX11_firstGiven 29 = .ok (.iconst 1, 1) := by decide +kernel
theorem dX11_firstGiven_30 : decode cX11_firstGiven 30 = .ok (.iadd, 1) := by decide +kernel
theorem dX11_firstGiven_31 : decode cX11_firstGiven 31 = .ok (.aaload, 1) := by decide +kernel
theorem dX11_firstGiven_32 : decode cX11_firstGiven 32 = .ok (.iload_n 2, 1) := by decide +kernel
theorem dX11_firstGiven_33 : decode cX11_firstGiven 33 = .ok (.iconst 1, 1) := by decide +kernel
theorem dX11_firstGiven_34 : decode cX11_firstGiven 34 = .ok (.iload_n 3, 1) := by decide +kernel
theorem dX11_firstGiven_35 : decode cX11_firstGiven 35 = .ok (.ishl, 1) := by decide +kernel
theorem dX11_firstGiven_36 : decode cX11_firstGiven 36 = .ok (.ior, 1) := by decide +kernel
theorem dX11_firstGiven_37 : decode cX11_firstGiven 37 = .ok (.iaload, 1) := by decide +kernel
theorem dX11_firstGiven_38 : decode cX11_firstGiven 38 = .ok (.iadd, 1) := by decide +kernel
theorem dX11_firstGiven_39 : decode cX11_firstGiven 39 = .ok (.aload_n 0, 1) := by decide +kernel
theorem dX11_firstGiven_40 : decode cX11_firstGiven 40 = .ok (.getfield 62, 3) := by decide +kernel
theorem dX11_firstGiven_43 : decode cX11_firstGiven 43 = .ok (.iload_n 1, 1) := by decide +kernel
theorem dX11_firstGiven_44 : decode cX11_firstGiven 44 = .ok (.aaload, 1) := by decide +kernel
theorem dX11_firstGiven_45 : decode cX11_firstGiven 45 = .ok (.iload_n 2, 1) := by decide +kernel
theorem dX11_firstGiven_46 : decode cX11_firstGiven 46 = .ok (.iaload, 1) := by decide +kernel
theorem dX11_firstGiven_47 : decode cX11_firstGiven 47 = .ok (.if_icmp .ne 5, 3) := by decide +kernel
theorem dX11_firstGiven_50 : decode cX11_firstGiven 50 = .ok (.iload_n 3, 1) := by decide +kernel
theorem dX11_firstGiven_51 : decode cX11_firstGiven 51 = .ok (.ireturn, 1) := by decide +kernel
theorem dX11_firstGiven_52 : decode cX11_firstGiven 52 = .ok (.iinc 3 1, 3) := by decide +kernel
theorem dX11_firstGiven_55 : decode cX11_firstGiven 55 = .ok (.goto (-53), 3) := by decide +kernel
theorem dX11_firstGiven_58 : decode cX11_firstGiven 58 = .ok (.bipush (-5), 2) := by decide +kernel
theorem dX11_firstGiven_60 : decode cX11_firstGiven 60 = .ok (.ireturn, 1) := by decide +kernel
theorem dX11_see_0 : decode cX11_see 0 = .ok (.aload_n 0, 1) := by decide +kernel
theorem dX11_see_1 : decode cX11_see 1 = .ok (.aload_n 0, 1) := by decide +kernel
theorem dX11_see_2 : decode cX11_see 2 = .ok (.getfield 37, 3) := by decide +kernel
theorem dX11_see_5 : decode cX11_see 5 = .ok (.getfield 241, 3) := by decide +kernel
theorem dX11_see_8 : decode cX11_see 8 = .ok (.iload_n 1, 1) := by decide +kernel
theorem dX11_see_9 : decode cX11_see 9 = .ok (.iload_n 2, 1) := by decide +kernel
theorem dX11_see_10 : decode cX11_see 10 = .ok (.invokevirtual 244, 3) := by decide +kernel
theorem dX11_see_13 : decode cX11_see 13 = .ok (.ireturn, 1) := by decide +kernel
theorem dX11_tellRow_0 : decode cX11_tellRow 0 = .ok (.iload_n 2, 1) := by decide +kernel
theorem dX11_tellRow_1 : decode cX11_tellRow 1 = .ok (.iconst (-1), 1) := by decide +kernel
theorem dX11_tellRow_2 : decode cX11_tellRow 2 = .ok (.if_icmp .ne 8, 3) := by decide +kernel
theorem dX11_tellRow_5 : decode cX11_tellRow 5 = .ok (.aload_n 1, 1) := by decide +kernel
theorem dX11_tellRow_6 : decode cX11_tellRow 6 = .ok (.invokevirtual 209, 3) := by decide +kernel
theorem dX11_tellRow_9 : decode cX11_tellRow 9 = .ok (.ireturn, 1) := by decide +kernel
theorem dX11_tellRow_10 : decode cX11_tellRow 10 = .ok (.aload_n 0, 1) := by decide +kernel
theorem dX11_tellRow_11 : decode cX11_tellRow 11 = .ok (.getfield 37, 3) := by decide +kernel
theorem dX11_tellRow_14 : decode cX11_tellRow 14 = .ok (.iload_n 2, 1) := by decide +kernel
theorem dX11_tellRow_15 : decode cX11_tellRow 15 = .ok (.invokevirtual 91, 3) := by decide +kernel
theorem dX11_tellRow_18 : decode cX11_tellRow 18 = .ok (.ifCond .ne 5, 3) := by decide +kernel
theorem dX11_tellRow_21 : decode cX11_tellRow 21 = .ok (.iconst (-1), 1) := by decide +kernel
theorem dX11_tellRow_22 : decode cX11_tellRow 22 = .ok (.ireturn, 1) := by decide +kernel
theorem dX11_tellRow_23 : decode cX11_tellRow 23 = .ok (.iload_n 3, 1) := by decide +kernel
theorem dX11_tellRow_24 : decode cX11_tellRow 24 = .ok (.invokestatic 196, 3) := by decide +kernel
theorem dX11_tellRow_27 : decode cX11_tellRow 27 = .ok (.ifCond .ne 6, 3) := by decide +kernel
theorem dX11_tellRow_30 : decode cX11_tellRow 30 = .ok (.bipush (-2), 2) := by decide +kernel
theorem dX11_tellRow_32 : decode cX11_tellRow 32 = .ok (.ireturn, 1) := by decide +kernel
theorem dX11_tellRow_33 : decode cX11_tellRow 33 = .ok (.aload_n 1, 1) := by decide +kernel
theorem dX11_tellRow_34 : decode cX11_tellRow 34 = .ok (.iload_n 2, 1) := by decide +kernel
theorem dX11_tellRow_35 : decode cX11_tellRow 35 = .ok (.iload_n 3, 1) := by decide +kernel
theorem dX11_tellRow_36 : decode cX11_tellRow 36 = .ok (.invokevirtual 214, 3) := by decide +kernel
theorem dX11_tellRow_39 : decode cX11_tellRow 39 = .ok (.ireturn, 1) := by decide +kernel
theorem dX11_can_0 : decode cX11_can 0 = .ok (.aload_n 0, 1) := by decide +kernel
theorem dX11_can_1 : decode cX11_can 1 = .ok (.getfield 37, 3) := by decide +kernel
theorem dX11_can_4 : decode cX11_can 4 = .ok (.iload_n 1, 1) := by decide +kernel
theorem dX11_can_5 : decode cX11_can 5 = .ok (.invokevirtual 91, 3) := by decide +kernel
theorem dX11_can_8 : decode cX11_can 8 = .ok (.ifCond .eq 12, 3) := by decide +kernel
theorem dX11_can_11 : decode cX11_can 11 = .ok (.iload_n 2, 1) := by decide +kernel
theorem dX11_can_12 : decode cX11_can 12 = .ok (.ifCond .lt 8, 3) := by decide +kernel
theorem dX11_can_15 : decode cX11_can 15 = .ok (.iload_n 2, 1) := by decide +kernel
theorem dX11_can_16 : decode cX11_can 16 = .ok (.iconst 1, 1) := by decide +kernel
theorem dX11_can_17 : decode cX11_can 17 = .ok (.if_icmp .le 5, 3) := by decide +kernel
theorem dX11_can_20 : decode cX11_can 20 = .ok (.iconst (-1), 1) := by decide +kernel
theorem dX11_can_21 : decode cX11_can 21 = .ok (.ireturn, 1) := by decide +kernel
theorem dX11_can_22 : decode cX11_can 22 = .ok (.aload_n 0, 1) := by decide +kernel
theorem dX11_can_23 : decode cX11_can 23 = .ok (.getfield 46, 3) := by decide +kernel
theorem dX11_can_26 : decode cX11_can 26 = .ok (.aload_n 0, 1) := by decide +kernel
theorem dX11_can_27 : decode cX11_can 27 = .ok (.getfield 37, 3) := by decide +kernel
theorem dX11_can_30 : decode cX11_can 30 = .ok (.invokevirtual 184, 3) := by decide +kernel
theorem dX11_can_33 : decode cX11_can 33 = .ok (.iconst 0, 1) := by decide +kernel
theorem dX11_can_34 : decode cX11_can 34 = .ok (.istore_n 3, 1) := by decide +kernel
theorem dX11_can_35 : decode cX11_can 35 = .ok (.bipush (-5), 2) := by decide +kernel
theorem dX11_can_37 : decode cX11_can 37 = .ok (.istore 4, 2) := by decide +kernel
theorem dX11_can_39 : decode cX11_can 39 = .ok (.bipush 9, 2) := by decide +kernel
theorem dX11_can_41 : decode cX11_can 41 = .ok (.istore 5, 2) := by decide +kernel
theorem dX11_can_43 : decode cX11_can 43 = .ok (.iload 5, 2) := by decide +kernel
theorem dX11_can_45 : decode cX11_can 45 = .ok (.ifCond .lt 34, 3) := by decide +kernel
theorem dX11_can_48 : decode cX11_can 48 = .ok (.aload_n 0, 1) := by decide +kernel
theorem dX11_can_49 : decode cX11_can 49 = .ok (.getfield 46, 3) := by decide +kernel
theorem dX11_can_52 : decode cX11_can 52 = .ok (.getfield 104, 3) := by decide +kernel
theorem dX11_can_55 : decode cX11_can 55 = .ok (.iload_n 1, 1) := by decide +kernel
theorem dX11_can_56 : decode cX11_can 56 = .ok (.iload 5, 2) := by decide +kernel
theorem dX11_can_58 : decode cX11_can 58 = .ok (.iastore, 1) := by decide +kernel
theorem dX11_can_59 : decode cX11_can 59 = .ok (.aload_n 0, 1) := by decide +kernel
theorem dX11_can_60 : decode cX11_can 60 = .ok (.invokevirtual 248, 3) := by decide +kernel
theorem dX11_can_63 : decode cX11_can 63 = .ok (.ifCond .eq 10, 3) := by decide +kernel
theorem dX11_can_66 : decode cX11_can 66 = .ok (.iinc 3 1, 3) := by decide +kernel
theorem dX11_can_69 : decode cX11_can 69 = .ok (.iload 5, 2) := by decide +kernel
theorem dX11_can_71 : decode cX11_can 71 = .ok (.istore 4, 2) := by decide +kernel
theorem dX11_can_73 : decode cX11_can 73 = .ok (.iinc 5 (-1), 3) := by decide +kernel
theorem dX11_can_76 : decode cX11_can 76 = .ok (.goto (-33), 3) := by decide +kernel
theorem dX11_can_79 : decode cX11_can 79 = .ok (.iload_n 2, 1) := by decide +kernel
theorem dX11_can_80 : decode cX11_can 80 = .ok (.ifCond .ne 7, 3) := by decide +kernel
theorem dX11_can_83 : decode cX11_can 83 = .ok (.iload_n 3, 1) := by decide +kernel
theorem dX11_can_84 : decode cX11_can 84 = .ok (.goto 5, 3) := by decide +kernel
theorem dX11_can_87 : decode cX11_can 87 = .ok (.iload 4, 2) := by decide +kernel
theorem dX11_can_89 : decode cX11_can 89 = .ok (.ireturn, 1) := by decide +kernel
theorem dX11_which_0 : decode cX11_which 0 = .ok (.iload_n 1, 1) := by decide +kernel
theorem dX11_which_1 : decode cX11_which 1 = .ok (.ifCond .lt 8, 3) := by decide +kernel
theorem dX11_which_4 : decode cX11_which 4 = .ok (.iload_n 1, 1) := by decide +kernel
theorem dX11_which_5 : decode cX11_which 5 = .ok (.iconst 1, 1) := by decide +kernel
theorem dX11_which_6 : decode cX11_which 6 = .ok (.if_icmp .le 5, 3) := by decide +kernel
theorem dX11_which_9 : decode cX11_which 9 = .ok (.iconst (-1), 1) := by decide +kernel
theorem dX11_which_10 : decode cX11_which 10 = .ok (.ireturn, 1) := by decide +kernel
theorem dX11_which_11 : decode cX11_which 11 = .ok (.aload_n 0, 1) := by decide +kernel
theorem dX11_which_12 : decode cX11_which 12 = .ok (.getfield 46, 3) := by decide +kernel
theorem dX11_which_15 : decode cX11_which 15 = .ok (.aload_n 0, 1) := by decide +kernel
theorem dX11_which_16 : decode cX11_which 16 = .ok (.getfield 37, 3) := by decide +kernel
theorem dX11_which_19 : decode cX11_which 19 = .ok (.invokevirtual 184, 3) := by decide +kernel
theorem dX11_which_22 : decode cX11_which 22 = .ok (.iconst 0, 1) := by decide +kernel
theorem dX11_which_23 : decode cX11_which 23 = .ok (.istore_n 2, 1) := by decide +kernel
theorem dX11_which_24 : decode cX11_which 24 = .ok (.bipush (-5), 2) := by decide +kernel
theorem dX11_which_26 : decode cX11_which 26 = .ok (.istore_n 3, 1) := by decide +kernel
theorem dX11_which_27 : decode cX11_which 27 = .ok (.bipush 9, 2) := by decide +kernel
theorem dX11_which_29 : decode cX11_which 29 = .ok (.istore 4, 2) := by decide +kernel
theorem dX11_which_31 : decode cX11_which 31 = .ok (.iload 4, 2) := by decide +kernel
theorem dX11_which_33 : decode cX11_which 33 = .ok (.ifCond .lt 39, 3) := by decide +kernel
theorem dX11_which_36 : decode cX11_which 36 = .ok (.aload_n 0, 1) := by decide +kernel
theorem dX11_which_37 : decode cX11_which 37 = .ok (.getfield 46, 3) := by decide +kernel
theorem dX11_which_40 : decode cX11_which 40 = .ok (.aload_n 0, 1) := by decide +kernel
theorem dX11_which_41 : decode cX11_which 41 = .ok (.getfield 37, 3) := by decide +kernel
theorem dX11_which_44 : decode cX11_which 44 = .ok (.getfield 162, 3) := by decide +kernel
theorem dX11_which_47 : decode cX11_which 47 = .ok (.iload 4, 2) := by decide +kernel
theorem dX11_which_49 : decode cX11_which 49 = .ok (.iadd, 1) := by decide +kernel
theorem dX11_which_50 : decode cX11_which 50 = .ok (.putfield 162, 3) := by decide +kernel
theorem dX11_which_53 : decode cX11_which 53 = .ok (.aload_n 0, 1) := by decide +kernel
theorem dX11_which_54 : decode cX11_which 54 = .ok (.invokevirtual 248, 3) := by decide +kernel
theorem dX11_which_57 : decode cX11_which 57 = .ok (.ifCond .eq 9, 3) := by decide +kernel
theorem dX11_which_60 : decode cX11_which 60 = .ok (.iinc 2 1, 3) := by decide +kernel
theorem dX11_which_63 : decode cX11_which 63 = .ok (.iload 4, 2) := by decide +kernel
theorem dX11_which_65 : decode cX11_which 65 = .ok (.istore_n 3, 1) := by decide +kernel
theorem dX11_which_66 : decode cX11_which 66 = .ok (.iinc 4 (-1), 3) := by decide +kernel
theorem dX11_which_69 : decode cX11_which 69 = .ok (.goto (-38), 3) := by decide +kernel
theorem dX11_which_72 : decode cX11_which 72 = .ok (.iload_n 1, 1) := by decide +kernel
theorem dX11_which_73 : decode cX11_which 73 = .ok (.ifCond .ne 7, 3) := by decide +kernel
theorem dX11_which_76 : decode cX11_which 76 = .ok (.iload_n 2, 1) := by decide +kernel
theorem dX11_which_77 : decode cX11_which 77 = .ok (.goto 4, 3) := by decide +kernel
theorem dX11_which_80 : decode cX11_which 80 = .ok (.iload_n 3, 1) := by decide +kernel
theorem dX11_which_81 : decode cX11_which 81 = .ok (.ireturn, 1) := by decide +kernel
theorem dX11_isSeenSo_0 : decode cX11_isSeenSo 0 = .ok (.aload_n 0, 1) := by decide +kernel
theorem dX11_isSeenSo_1 : decode cX11_isSeenSo 1 = .ok (.getfield 46, 3) := by decide +kernel
theorem dX11_isSeenSo_4 : decode cX11_isSeenSo 4 = .ok (.invokevirtual 95, 3) := by decide +kernel
theorem dX11_isSeenSo_7 : decode cX11_isSeenSo 7 = .ok (.aload_n 0, 1) := by decide +kernel
theorem dX11_isSeenSo_8 : decode cX11_isSeenSo 8 = .ok (.getfield 46, 3) := by decide +kernel
theorem dX11_isSeenSo_11 : decode cX11_isSeenSo 11 = .ok (.invokevirtual 178, 3) := by decide +kernel
theorem dX11_isSeenSo_14 : decode cX11_isSeenSo 14 = .ok (.aload_n 0, 1) := by decide +kernel
theorem dX11_isSeenSo_15 : decode cX11_isSeenSo 15 = .ok (.getfield 37, 3) := by decide +kernel
theorem dX11_isSeenSo_18 : decode cX11_isSeenSo 18 = .ok (.getfield 241, 3) := by decide +kernel
theorem dX11_isSeenSo_21 : decode cX11_isSeenSo 21 = .ok (.aload_n 0, 1) := by decide +kernel
theorem dX11_isSeenSo_22 : decode cX11_isSeenSo 22 = .ok (.getfield 46, 3) := by decide +kernel
theorem dX11_isSeenSo_25 : decode cX11_isSeenSo 25 = .ok (.getfield 181, 3) := by decide +kernel
theorem dX11_isSeenSo_28 : decode cX11_isSeenSo 28 = .ok (.invokevirtual 251, 3) := by decide +kernel
theorem dX11_isSeenSo_31 : decode cX11_isSeenSo 31 = .ok (.bipush (-5), 2) := by decide +kernel
theorem dX11_isSeenSo_33 : decode cX11_isSeenSo 33 = .ok (.if_icmp .ne 7, 3) := by decide +kernel
theorem dX11_isSeenSo_36 : decode cX11_isSeenSo 36 = .ok (.iconst 1, 1) := by decide +kernel
theorem dX11_isSeenSo_37 : decode cX11_isSeenSo 37 = .ok (.goto 4, 3) := by decide +kernel
theorem dX11_isSeenSo_40 : decode cX11_isSeenSo 40 = .ok (.iconst 0, 1) := by decide +kernel
theorem dX11_isSeenSo_41 : decode cX11_isSeenSo 41 = .ok (.ireturn, 1) := by decide +kernel
theorem dX11_odds_0 : decode cX11_odds 0 = .ok (.aload_n 0, 1) := by decide +kernel
theorem dX11_odds_1 : decode cX11_odds 1 = .ok (.getfield 37, 3) := by decide +kernel
theorem dX11_odds_4 : decode cX11_odds 4 = .ok (.iload_n 1, 1) := by decide +kernel
theorem dX11_odds_5 : decode cX11_odds 5 = .ok (.invokevirtual 91, 3) := by decide +kernel
theorem dX11_odds_8 : decode cX11_odds 8 = .ok (.ifCond .eq 13, 3) := by decide +kernel
theorem dX11_odds_11 : decode cX11_odds 11 = .ok (.iload_n 2, 1) := by decide +kernel
theorem dX11_odds_12 : decode cX11_odds 12 = .ok (.ifCond .lt 9, 3) := by decide +kernel
theorem dX11_odds_15 : decode cX11_odds 15 = .ok (.iload_n 2, 1) := by decide +kernel
theorem dX11_odds_16 : decode cX11_odds 16 = .ok (.bipush 12, 2) := by decide +kernel
theorem dX11_odds_18 : decode cX11_odds 18 = .ok (.if_icmp .lt 7, 3) := by decide +kernel
theorem dX11_odds_21 : decode cX11_odds 21 = .ok (.ldc2_w 255, 3) := by decide +kernel
theorem dX11_odds_24 : decode cX11_odds 24 = .ok (.lreturn, 1) := by decide +kernel
theorem dX11_odds_25 : decode cX11_odds 25 = .ok (.aload_n 0, 1) := by decide +kernel
theorem dX11_odds_26 : decode cX11_odds 26 = .ok (.getfield 46, 3) := by decide +kernel
theorem dX11_odds_29 : decode cX11_odds 29 = .ok (.aload_n 0, 1) := by decide +kernel
theorem dX11_odds_30 : decode cX11_odds 30 = .ok (.getfield 37, 3) := by decide +kernel
theorem dX11_odds_33 : decode cX11_odds 33 = .ok (.invokevirtual 184, 3) := by decide +kernel
theorem dX11_odds_36 : decode cX11_odds 36 = .ok (.aload_n 0, 1) := by decide +kernel
theorem dX11_odds_37 : decode cX11_odds 37 = .ok (.getfield 46, 3) := by decide +kernel
theorem dX11_odds_40 : decode cX11_odds 40 = .ok (.invokevirtual 95, 3) := by decide +kernel
theorem dX11_odds_43 : decode cX11_odds 43 = .ok (.iconst 0, 1) := by decide +kernel
theorem dX11_odds_44 : decode cX11_odds 44 = .ok (.istore 4, 2) := by decide +kernel
theorem dX11_odds_46 : decode cX11_odds 46 = .ok (.iconst 0, 1) := by decide +kernel
theorem dX11_odds_47 : decode cX11_odds 47 = .ok (.istore 5, 2) := by decide +kernel
theorem dX11_odds_49 : decode cX11_odds 49 = .ok (.iload 5, 2) := by decide +kernel
theorem dX11_odds_51 : decode cX11_odds 51 = .ok (.aload_n 0, 1) := by decide +kernel
theorem dX11_odds_52 : decode cX11_odds 52 = .ok (.getfield 37, 3) := by decide +kernel
theorem dX11_odds_55 : decode cX11_odds 55 = .ok (.getfield 83, 3) := by decide +kernel
theorem dX11_odds_58 : decode cX11_odds 58 = .ok (.if_icmp .ge 43, 3) := by decide +kernel
theorem dX11_odds_61 : decode cX11_odds 61 = .ok (.aload_n 0, 1) := by decide +kernel
theorem dX11_odds_62 : decode cX11_odds 62 = .ok (.getfield 46, 3) := by decide +kernel
theorem dX11_odds_65 : decode cX11_odds 65 = .ok (.aload_n 0, 1) := by decide +kernel
theorem dX11_odds_66 : decode cX11_odds 66 = .ok (.getfield 37, 3) := by decide +kernel
theorem dX11_odds_69 : decode cX11_odds 69 = .ok (.getfield 169, 3) := by decide +kernel
theorem dX11_odds_72 : decode cX11_odds 72 = .ok (.iconst 1, 1) := by decide +kernel
theorem dX11_odds_73 : decode cX11_odds 73 = .ok (.iload 5, 2) := by decide +kernel
theorem dX11_odds_75 : decode cX11_odds 75 = .ok (.ishl, 1) := by decide +kernel
theorem dX11_odds_76 : decode cX11_odds 76 = .ok (.ior, 1) := by decide +kernel
theorem dX11_odds_77 : decode cX11_odds 77 = .ok (.putfield 169, 3) := by decide +kernel
theorem dX11_odds_80 : decode cX11_odds 80 = .ok (.aload_n 0, 1) := by decide +kernel
theorem dX11_odds_81 : decode cX11_odds 81 = .ok (.getfield 46, 3) := by decide +kernel
theorem dX11_odds_84 : decode cX11_odds 84 = .ok (.iload_n 2, 1) := by decide +kernel
theorem dX11_odds_85 : decode cX11_odds 85 = .ok (.invokevirtual 159, 3) := by decide +kernel
theorem dX11_odds_88 : decode cX11_odds 88 = .ok (.iload_n 1, 1) := by decide +kernel
theorem dX11_odds_89 : decode cX11_odds 89 = .ok (.if_icmp .ne 6, 3) := by decide +kernel
theorem dX11_odds_92 : decode cX11_odds 92 = .ok (.iinc 4 1, 3) := by decide +kernel
theorem dX11_odds_95 : decode cX11_odds 95 = .ok (.iinc 5 1, 3) := by decide +kernel
theorem dX11_odds_98 : decode cX11_odds 98 = .ok (.goto (-49), 3) := by decide +kernel
theorem dX11_odds_101 : decode cX11_odds 101 = .ok (.iload 4, 2) := by decide +kernel
theorem dX11_odds_103 : decode cX11_odds 103 = .ok (.aload_n 0, 1) := by decide +kernel
theorem dX11_odds_104 : decode cX11_odds 104 = .ok (.getfield 37, 3) := by decide +kernel
theorem dX11_odds_107 : decode cX11_odds 107 = .ok (.getfield 83, 3) := by decide +kernel
theorem dX11_odds_110 : decode cX11_odds 110 = .ok (.iload_n 3, 1) := by decide +kernel
theorem dX11_odds_111 : decode cX11_odds 111 = .ok (.invokestatic 257, 3) := by decide +kernel
theorem dX11_odds_114 : decode cX11_odds 114 = .ok (.lreturn, 1) := by decide +kernel
theorem dX11_mean_0 : decode cX11_mean 0 = .ok (.aload_n 0, 1) := by decide +kernel
theorem dX11_mean_1 : decode cX11_mean 1 = .ok (.getfield 37, 3) := by decide +kernel
theorem dX11_mean_4 : decode cX11_mean 4 = .ok (.invokevirtual 172, 3) := by decide +kernel
theorem dX11_mean_7 : decode cX11_mean 7 = .ok (.aload_n 0, 1) := by decide +kernel
theorem dX11_mean_8 : decode cX11_mean 8 = .ok (.getfield 37, 3) := by decide +kernel
theorem dX11_mean_11 : decode cX11_mean 11 = .ok (.getfield 83, 3) := by decide +kernel
theorem dX11_mean_14 : decode cX11_mean 14 = .ok (.iload_n 1, 1) := by decide +kernel
theorem dX11_mean_15 : decode cX11_mean 15 = .ok (.invokestatic 257, 3) := by decide +kernel
theorem dX11_mean_18 : decode cX11_mean 18 = .ok (.lreturn, 1) := by decide +kernel
theorem dX11_fractionPart_0 : decode cX11_fractionPart 0 = .ok (.iload_n 1, 1) := by decide +kernel
theorem dX11_fractionPart_1 : decode cX11_fractionPart 1 = .ok (.ifCond .le 12, 3) := by decide +kernel
theorem dX11_fractionPart_4 : decode cX11_fractionPart 4 = .ok (.iload_n 2, 1) := by decide +kernel
theorem dX11_fractionPart_5 : decode cX11_fractionPart 5 = .ok (.ifCond .lt 8, 3) := by decide +kernel
theorem dX11_fractionPart_8 : decode cX11_fractionPart 8 = .ok (.iload_n 2, 1) := by decide +kernel
theorem dX11_fractionPart_9 : decode cX11_fractionPart 9 = .ok (.iconst 1, 1) := by decide +kernel
theorem dX11_fractionPart_10 : decode cX11_fractionPart 10 = .ok (.if_icmp .le 7, 3) := by decide +kernel
theorem dX11_fractionPart_13 : decode cX11_fractionPart 13 = .ok (.ldc2_w 255, 3) := by decide +kernel
theorem dX11_fractionPart_16 : decode cX11_fractionPart 16 = .ok (.lreturn, 1) := by decide +kernel
theorem dX11_fractionPart_17 : decode cX11_fractionPart 17 = .ok (.iload_n 1, 1) := by decide +kernel
theorem dX11_fractionPart_18 : decode cX11_fractionPart 18 = .ok (.istore_n 3, 1) := by decide +kernel
theorem dX11_fractionPart_19 : decode cX11_fractionPart 19 = .ok (.iload_n 0, 1) := by decide +kernel
theorem dX11_fractionPart_20 : decode cX11_fractionPart 20 = .ok (.istore 4, 2) := by decide +kernel
theorem dX11_fractionPart_22 : decode cX11_fractionPart 22 = .ok (.iconst 0, 1) := by decide +kernel
theorem dX11_fractionPart_23 : decode cX11_fractionPart 23 = .ok (.istore 5, 2) := by decide +kernel
theorem dX11_fractionPart_25 : decode cX11_fractionPart 25 = .ok (.iload 5, 2) := by decide +kernel
theorem dX11_fractionPart_27 : decode cX11_fractionPart 27 = .ok (.bipush 64, 2) := by decide +kernel
theorem dX11_fractionPart_29 : decode cX11_fractionPart 29 = .ok (.if_icmp .ge 27, 3) := by decide +kernel
theorem dX11_fractionPart_32 : decode cX11_fractionPart 32 = .ok (.iload 4, 2) := by decide +kernel
theorem dX11_fractionPart_34 : decode cX11_fractionPart 34 = .ok (.ifCond .eq 22, 3) := by decide +kernel
theorem dX11_fractionPart_37 : decode cX11_fractionPart 37 = .ok (.iload_n 3, 1) := by decide +kernel
theorem dX11_fractionPart_38 : decode cX11_fractionPart 38 = .ok (.iload 4, 2) := by decide +kernel
theorem dX11_fractionPart_40 : decode cX11_fractionPart 40 = .ok (.irem, 1) := by decide +kernel
theorem dX11_fractionPart_41 : decode cX11_fractionPart 41 = .ok (.istore 6, 2) := by decide +kernel
theorem dX11_fractionPart_43 : decode cX11_fractionPart 43 = .ok (.iload 4, 2) := by decide +kernel
theorem dX11_fractionPart_45 : decode cX11_fractionPart 45 = .ok (.istore_n 3, 1) := by decide +kernel
theorem dX11_fractionPart_46 : decode cX11_fractionPart 46 = .ok (.iload 6, 2) := by decide +kernel
theorem dX11_fractionPart_48 : decode cX11_fractionPart 48 = .ok (.istore 4, 2) := by decide +kernel
theorem dX11_fractionPart_50 : decode cX11_fractionPart 50 = .ok (.iinc 5 1, 3) := by decide +kernel
theorem dX11_fractionPart_53 : decode cX11_fractionPart 53 = .ok (.goto (-28), 3) := by decide +kernel
theorem dX11_fractionPart_56 : decode cX11_fractionPart 56 = .ok (.iload_n 3, 1) := by decide +kernel
theorem dX11_fractionPart_57 : decode cX11_fractionPart 57 = .ok (.ifCond .ne 9, 3) := by decide +kernel
theorem dX11_fractionPart_60 : decode cX11_fractionPart 60 = .ok (.ldc2_w 255, 3) := by decide +kernel
theorem dX11_fractionPart_63 : decode cX11_fractionPart 63 = .ok (.goto 15, 3) := by decide +kernel
theorem dX11_fractionPart_66 : decode cX11_fractionPart 66 = .ok (.iload_n 2, 1) := by decide +kernel
theorem dX11_fractionPart_67 : decode cX11_fractionPart 67 = .ok (.ifCond .ne 7, 3) := by decide +kernel
theorem dX11_fractionPart_70 : decode cX11_fractionPart 70 = .ok (.iload_n 0, 1) := by decide +kernel
theorem dX11_fractionPart_71 : decode cX11_fractionPart 71 = .ok (.goto 4, 3) := by decide +kernel
theorem dX11_fractionPart_74 : decode cX11_fractionPart 74 = .ok (.iload_n 1, 1) := by decide +kernel
theorem dX11_fractionPart_75 : decode cX11_fractionPart 75 = .ok (.iload_n 3, 1) := by decide +kernel
theorem dX11_fractionPart_76 : decode cX11_fractionPart 76 = .ok (.idiv, 1) := by decide +kernel
theorem dX11_fractionPart_77 : decode cX11_fractionPart 77 = .ok (.i2l, 1) := by decide +kernel
theorem dX11_fractionPart_78 : decode cX11_fractionPart 78 = .ok (.lreturn, 1) := by decide +kernel
theorem dX11_plan_0 : decode cX11_plan 0 = .ok (.iload_n 1, 1) := by decide +kernel
theorem dX11_plan_1 : decode cX11_plan 1 = .ok (.iconst (-1), 1) := by decide +kernel
theorem dX11_plan_2 : decode cX11_plan 2 = .ok (.if_icmp .ne 14, 3) := by decide +kernel
theorem dX11_plan_5 : decode cX11_plan 5 = .ok (.aload_n 0, 1) := by decide +kernel
theorem dX11_plan_6 : decode cX11_plan 6 = .ok (.getfield 37, 3) := by decide +kernel
theorem dX11_plan_9 : decode cX11_plan 9 = .ok (.getfield 261, 3) := by decide +kernel
theorem dX11_plan_12 : decode cX11_plan 12 = .ok (.invokevirtual 209, 3) := by decide +kernel
theorem dX11_plan_15 : decode cX11_plan 15 = .ok (.ireturn, 1) := by decide +kernel
theorem dX11_plan_16 : decode cX11_plan 16 = .ok (.iload_n 1, 1) := by decide +kernel
theorem dX11_plan_17 : decode cX11_plan 17 = .ok (.ifCond .lt 23, 3) := by decide +kernel
theorem dX11_plan_20 : decode cX11_plan 20 = .ok (.iload_n 1, 1) := by decide +kernel
theorem dX11_plan_21 : decode cX11_plan 21 = .ok (.iconst 3, 1) := by decide +kernel
theorem dX11_plan_22 : decode cX11_plan 22 = .ok (.if_icmp .gt 18, 3) := by decide +kernel
theorem dX11_plan_25 : decode cX11_plan 25 = .ok (.iload_n 1, 1) := by decide +kernel
theorem dX11_plan_26 : decode cX11_plan 26 = .ok (.ifCond .eq 16, 3) := by decide +kernel
theorem dX11_plan_29 : decode cX11_plan 29 = .ok (.aload_n 0, 1) := by decide +kernel
theorem dX11_plan_30 : decode cX11_plan 30 = .ok (.getfield 37, 3) := by decide +kernel
theorem dX11_plan_33 : decode cX11_plan 33 = .ok (.iload_n 2, 1) := by decide +kernel
theorem dX11_plan_34 : decode cX11_plan 34 = .ok (.invokevirtual 91, 3) := by decide +kernel
theorem dX11_plan_37 : decode cX11_plan 37 = .ok (.ifCond .ne 5, 3) := by decide +kernel
theorem dX11_plan_40 : decode cX11_plan 40 = .ok (.iconst (-1), 1) := by decide +kernel
theorem dX11_plan_41 : decode cX11_plan 41 = .ok (.ireturn, 1) := by decide +kernel
theorem dX11_plan_42 : decode cX11_plan 42 = .ok (.aload_n 0, 1) := by decide +kernel
theorem dX11_plan_43 : decode cX11_plan 43 = .ok (.getfield 37, 3) := by decide +kernel
theorem dX11_plan_46 : decode cX11_plan 46 = .ok (.getfield 261, 3) := by decide +kernel
theorem dX11_plan_49 : decode cX11_plan 49 = .ok (.iload_n 1, 1) := by decide +kernel
theorem dX11_plan_50 : decode cX11_plan 50 = .ok (.ifCond .ne 7, 3) := by decide +kernel
theorem dX11_plan_53 : decode cX11_plan 53 = .ok (.iconst 0, 1) := by decide +kernel
theorem dX11_plan_54 : decode cX11_plan 54 = .ok (.goto 4, 3) := by decide +kernel
theorem dX11_plan_57 : decode cX11_plan 57 = .ok (.iload_n 2, 1) := by decide +kernel
theorem dX11_plan_58 : decode cX11_plan 58 = .ok (.iload_n 1, 1) := by decide +kernel
theorem dX11_plan_59 : decode cX11_plan 59 = .ok (.invokevirtual 214, 3) := by decide +kernel
theorem dX11_plan_62 : decode cX11_plan 62 = .ok (.ireturn, 1) := by decide +kernel
theorem dX11_ends_0 : decode cX11_ends 0 = .ok (.iload_n 1, 1) := by decide +kernel
theorem dX11_ends_1 : decode cX11_ends 1 = .ok (.ifCond .lt 8, 3) := by decide +kernel
theorem dX11_ends_4 : decode cX11_ends 4 = .ok (.iload_n 1, 1) := by decide +kernel
theorem dX11_ends_5 : decode cX11_ends 5 = .ok (.iconst 1, 1) := by decide +kernel
theorem dX11_ends_6 : decode cX11_ends 6 = .ok (.if_icmp .le 5, 3) := by decide +kernel
theorem dX11_ends_9 : decode cX11_ends 9 = .ok (.iconst (-1), 1) := by decide +kernel
theorem dX11_ends_10 : decode cX11_ends 10 = .ok (.ireturn, 1) := by decide +kernel
theorem dX11_ends_11 : decode cX11_ends 11 = .ok (.aload_n 0, 1) := by decide +kernel
theorem dX11_ends_12 : decode cX11_ends 12 = .ok (.getfield 46, 3) := by decide +kernel
theorem dX11_ends_15 : decode cX11_ends 15 = .ok (.aload_n 0, 1) := by decide +kernel
theorem dX11_ends_16 : decode cX11_ends 16 = .ok (.getfield 37, 3) := by decide +kernel
theorem dX11_ends_19 : decode cX11_ends 19 = .ok (.invokevirtual 184, 3) := by decide +kernel
theorem dX11_ends_22 : decode cX11_ends 22 = .ok (.iconst 0, 1) := by decide +kernel
theorem dX11_ends_23 : decode cX11_ends 23 = .ok (.istore_n 2, 1) := by decide +kernel
theorem dX11_ends_24 : decode cX11_ends 24 = .ok (.iload_n 2, 1) := by decide +kernel
theorem dX11_ends_25 : decode cX11_ends 25 = .ok (.aload_n 0, 1) := by decide +kernel
theorem dX11_ends_26 : decode cX11_ends 26 = .ok (.getfield 37, 3) := by decide +kernel
theorem dX11_ends_29 : decode cX11_ends 29 = .ok (.getfield 261, 3) := by decide +kernel
theorem dX11_ends_32 : decode cX11_ends 32 = .ok (.getfield 217, 3) := by decide +kernel
theorem dX11_ends_35 : decode cX11_ends 35 = .ok (.if_icmp .ge 40, 3) := by decide +kernel
theorem dX11_ends_38 : decode cX11_ends 38 = .ok (.aload_n 0, 1) := by decide +kernel
theorem dX11_ends_39 : decode cX11_ends 39 = .ok (.getfield 46, 3) := by decide +kernel
theorem dX11_ends_42 : decode cX11_ends 42 = .ok (.aload_n 0, 1) := by decide +kernel
theorem dX11_ends_43 : decode cX11_ends 43 = .ok (.getfield 37, 3) := by decide +kernel
theorem dX11_ends_46 : decode cX11_ends 46 = .ok (.getfield 261, 3) := by decide +kernel
theorem dX11_ends_49 : decode cX11_ends 49 = .ok (.getfield 235, 3) := by decide +kernel
theorem dX11_ends_52 : decode cX11_ends 52 = .ok (.iload_n 2, 1) := by decide +kernel
theorem dX11_ends_53 : decode cX11_ends 53 = .ok (.iaload, 1) := by decide +kernel
theorem dX11_ends_54 : decode cX11_ends 54 = .ok (.aload_n 0, 1) := by decide +kernel
theorem dX11_ends_55 : decode cX11_ends 55 = .ok (.getfield 37, 3) := by decide +kernel
theorem dX11_ends_58 : decode cX11_ends 58 = .ok (.getfield 261, 3) := by decide +kernel
theorem dX11_ends_61 : decode cX11_ends 61 = .ok (.getfield 264, 3) := by decide +kernel
theorem dX11_ends_64 : decode cX11_ends 64 = .ok (.iload_n 2, 1) := by decide +kernel
theorem dX11_ends_65 : decode cX11_ends 65 = .ok (.iaload, 1) := by decide +kernel
theorem dX11_ends_66 : decode cX11_ends 66 = .ok (.invokevirtual 267, 3) := by decide +kernel
theorem dX11_ends_69 : decode cX11_ends 69 = .ok (.iinc 2 1, 3) := by decide +kernel
theorem dX11_ends_72 : decode cX11_ends 72 = .ok (.goto (-48), 3) := by decide +kernel
theorem dX11_ends_75 : decode cX11_ends 75 = .ok (.iload_n 1, 1) := by decide +kernel
theorem dX11_ends_76 : decode cX11_ends 76 = .ok (.ifCond .ne 13, 3) := by decide +kernel
theorem dX11_ends_79 : decode cX11_ends 79 = .ok (.aload_n 0, 1) := by decide +kernel
theorem dX11_ends_80 : decode cX11_ends 80 = .ok (.getfield 46, 3) := by decide +kernel
theorem dX11_ends_83 : decode cX11_ends 83 = .ok (.invokevirtual 172, 3) := by decide +kernel
theorem dX11_ends_86 : decode cX11_ends 86 = .ok (.goto 10, 3) := by decide +kernel
theorem dX11_ends_89 : decode cX11_ends 89 = .ok (.aload_n 0, 1) := by decide +kernel
theorem dX11_ends_90 : decode cX11_ends 90 = .ok (.getfield 46, 3) := by decide +kernel
theorem dX11_ends_93 : decode cX11_ends 93 = .ok (.invokevirtual 175, 3) := by decide +kernel
theorem dX11_ends_96 : decode cX11_ends 96 = .ok (.ireturn, 1) := by decide +kernel
theorem dX11_book_0 : decode cX11_book 0 = .ok (.aload_n 0, 1) := by decide +kernel
theorem dX11_book_1 : decode cX11_book 1 = .ok (.aload_n 0, 1) := by decide +kernel
theorem dX11_book_2 : decode cX11_book 2 = .ok (.getfield 37, 3) := by decide +kernel
theorem dX11_book_5 : decode cX11_book 5 = .ok (.getfield 270, 3) := by decide +kernel
theorem dX11_book_8 : decode cX11_book 8 = .ok (.iload_n 1, 1) := by decide +kernel
theorem dX11_book_9 : decode cX11_book 9 = .ok (.iload_n 2, 1) := by decide +kernel
theorem dX11_book_10 : decode cX11_book 10 = .ok (.invokevirtual 244, 3) := by decide +kernel
theorem dX11_book_13 : decode cX11_book 13 = .ok (.ireturn, 1) := by decide +kernel
theorem dX11_looked_0 : decode cX11_looked 0 = .ok (.aload_n 0, 1) := by decide +kernel
theorem dX11_looked_1 : decode cX11_looked 1 = .ok (.getfield 37, 3) := by decide +kernel
theorem dX11_looked_4 : decode cX11_looked 4 = .ok (.getfield 270, 3) := by decide +kernel
theorem dX11_looked_7 : decode cX11_looked 7 = .ok (.aload_n 0, 1) := by decide +kernel
theorem dX11_looked_8 : decode cX11_looked 8 = .ok (.getfield 37, 3) := by decide +kernel
theorem dX11_looked_11 : decode cX11_looked 11 = .ok (.getfield 110, 3) := by decide +kernel
theorem dX11_looked_14 : decode cX11_looked 14 = .ok (.invokevirtual 251, 3) := by decide +kernel
theorem dX11_looked_17 : decode cX11_looked 17 = .ok (.ireturn, 1) := by decide +kernel
theorem dX11_judge_0 : decode cX11_judge 0 = .ok (.iload_n 1, 1) := by decide +kernel
theorem dX11_judge_1 : decode cX11_judge 1 = .ok (.invokestatic 273, 3) := by decide +kernel
theorem dX11_judge_4 : decode cX11_judge 4 = .ok (.ifCond .ne 5, 3) := by decide +kernel
theorem dX11_judge_7 : decode cX11_judge 7 = .ok (.iconst (-1), 1) := by decide +kernel
theorem dX11_judge_8 : decode cX11_judge 8 = .ok (.ireturn, 1) := by decide +kernel
theorem dX11_judge_9 : decode cX11_judge 9 = .ok (.aload_n 0, 1) := by decide +kernel
theorem dX11_judge_10 : decode cX11_judge 10 = .ok (.getfield 70, 3) := by decide +kernel
theorem dX11_judge_13 : decode cX11_judge 13 = .ok (.iload_n 1, 1) := by decide +kernel
theorem dX11_judge_14 : decode cX11_judge 14 = .ok (.iaload, 1) := by decide +kernel
theorem dX11_judge_15 : decode cX11_judge 15 = .ok (.iconst (-1), 1) := by decide +kernel
theorem dX11_judge_16 : decode cX11_judge 16 = .ok (.if_icmp .eq 16, 3) := by decide +kernel
theorem dX11_judge_19 : decode cX11_judge 19 = .ok (.aload_n 0, 1) := by decide +kernel
theorem dX11_judge_20 : decode cX11_judge 20 = .ok (.getfield 70, 3) := by decide +kernel
theorem dX11_judge_23 : decode cX11_judge 23 = .ok (.iload_n 1, 1) := by decide +kernel
theorem dX11_judge_24 : decode cX11_judge 24 = .ok (.iaload, 1) := by decide +kernel
theorem dX11_judge_25 : decode cX11_judge 25 = .ok (.iconst 2, 1) := by decide +kernel
theorem dX11_judge_26 : decode cX11_judge 26 = .ok (.if_icmp .eq 6, 3) := by decide +kernel
theorem dX11_judge_29 : decode cX11_judge 29 = .ok (.bipush (-12), 2) := by decide +kernel
theorem dX11_judge_31 : decode cX11_judge 31 = .ok (.ireturn, 1) := by decide +kernel
theorem dX11_judge_32 : decode cX11_judge 32 = .ok (.aload_n 0, 1) := by decide +kernel
theorem dX11_judge_33 : decode cX11_judge 33 = .ok (.getfield 37, 3) := by decide +kernel
theorem dX11_judge_36 : decode cX11_judge 36 = .ok (.getfield 83, 3) := by decide +kernel
theorem dX11_judge_39 : decode cX11_judge 39 = .ok (.ifCond .ne 6, 3) := by decide +kernel
theorem dX11_judge_42 : decode cX11_judge 42 = .ok (.bipush (-5), 2) := by decide +kernel
theorem dX11_judge_44 : decode cX11_judge 44 = .ok (.ireturn, 1) := by decide +kernel
theorem dX11_judge_45 : decode cX11_judge 45 = .ok (.iload_n 2, 1) := by decide +kernel
theorem dX11_judge_46 : decode cX11_judge 46 = .ok (.ifCond .lt 13, 3) := by decide +kernel
theorem dX11_judge_49 : decode cX11_judge 49 = .ok (.aload_n 0, 1) := by decide +kernel
theorem dX11_judge_50 : decode cX11_judge 50 = .ok (.getfield 70, 3) := by decide +kernel
theorem dX11_judge_53 : decode cX11_judge 53 = .ok (.iload_n 1, 1) := by decide +kernel
theorem dX11_judge_54 : decode cX11_judge 54 = .ok (.iaload, 1) := by decide +kernel
theorem dX11_judge_55 : decode cX11_judge 55 = .ok (.iconst (-1), 1) := by decide +kernel
theorem dX11_judge_56 : decode cX11_judge 56 = .ok (.if_icmp .ne 6, 3) := by decide +kernel
theorem dX11_judge_59 : decode cX11_judge 59 = .ok (.bipush 100, 2) := by decide +kernel
theorem dX11_judge_61 : decode cX11_judge 61 = .ok (.ireturn, 1) := by decide +kernel
theorem dX11_judge_62 : decode cX11_judge 62 = .ok (.iconst 0, 1) := by decide +kernel
theorem dX11_judge_63 : decode cX11_judge 63 = .ok (.istore_n 3, 1) := by decide +kernel
theorem dX11_judge_64 : decode cX11_judge 64 = .ok (.iload_n 3, 1) := by decide +kernel
theorem dX11_judge_65 : decode cX11_judge 65 = .ok (.aload_n 0, 1) := by decide +kernel
theorem dX11_judge_66 : decode cX11_judge 66 = .ok (.getfield 37, 3) := by decide +kernel
theorem dX11_judge_69 : decode cX11_judge 69 = .ok (.getfield 83, 3) := by decide +kernel
theorem dX11_judge_72 : decode cX11_judge 72 = .ok (.if_icmp .ge 52, 3) := by decide +kernel
theorem dX11_judge_75 : decode cX11_judge 75 = .ok (.iload_n 2, 1) := by decide +kernel
theorem dX11_judge_76 : decode cX11_judge 76 = .ok (.aload_n 0, 1) := by decide +kernel
theorem dX11_judge_77 : decode cX11_judge 77 = .ok (.getfield 80, 3) := by decide +kernel
theorem dX11_judge_80 : decode cX11_judge 80 = .ok (.iload_n 1, 1) := by decide +kernel
theorem dX11_judge_81 : decode cX11_judge 81 = .ok (.iaload, 1) := by decide +kernel
theorem dX11_judge_82 : decode cX11_judge 82 = .ok (.iload_n 3, 1) := by decide +kernel
theorem dX11_judge_83 : decode cX11_judge 83 = .ok (.isub, 1) := by decide +kernel
theorem dX11_judge_84 : decode cX11_judge 84 = .ok (.if_icmp .lt 8, 3) := by decide +kernel
theorem dX11_judge_87 : decode cX11_judge 87 = .ok (.bipush 100, 2) := by decide +kernel
theorem dX11_judge_89 : decode cX11_judge 89 = .ok (.iload_n 3, 1) := by decide +kernel
theorem dX11_judge_90 : decode cX11_judge 90 = .ok (.iadd, 1) := by decide +kernel
theorem dX11_judge_91 : decode cX11_judge 91 = .ok (.ireturn, 1) := by decide +kernel
theorem dX11_judge_92 : decode cX11_judge 92 = .ok (.aload_n 0, 1) := by decide +kernel
theorem dX11_judge_93 : decode cX11_judge 93 = .ok (.getfield 67, 3) := by decide +kernel
theorem dX11_judge_96 : decode cX11_judge 96 = .ok (.iload_n 1, 1) := by decide +kernel
theorem dX11_judge_97 : decode cX11_judge 97 = .ok (.aaload, 1) := by decide +kernel
theorem dX11_judge_98 : decode cX11_judge 98 = .ok (.iload_n 2, 1) := by decide +kernel
theorem dX11_judge_99 : decode cX11_judge 99 = .ok (.iload_n 3, 1) := by decide +kernel
theorem dX11_judge_100 : decode cX11_judge 100 = .ok (.iadd, 1) := by decide +kernel
theorem dX11_judge_101 : decode cX11_judge 101 = .ok (.laload, 1) := by decide +kernel
theorem dX11_judge_102 : decode cX11_judge 102 = .ok (.aload_n 0, 1) := by decide +kernel
theorem dX11_judge_103 : decode cX11_judge 103 = .ok (.getfield 37, 3) := by decide +kernel
theorem dX11_judge_106 : decode cX11_judge 106 = .ok (.getfield 110, 3) := by decide +kernel
theorem dX11_judge_109 : decode cX11_judge 109 = .ok (.iload_n 3, 1) := by decide +kernel
theorem dX11_judge_110 : decode cX11_judge 110 = .ok (.iaload, 1) := by decide +kernel
theorem dX11_judge_111 : decode cX11_judge 111 = .ok (.i2l, 1) := by decide +kernel
theorem dX11_judge_112 : decode cX11_judge 112 = .ok (.lcmp, 1) := by decide +kernel
theorem dX11_judge_113 : decode cX11_judge 113 = .ok (.ifCond .eq 5, 3) := by decide +kernel
theorem dX11_judge_116 : decode cX11_judge 116 = .ok (.iload_n 3, 1) := by decide +kernel
theorem dX11_judge_117 : decode cX11_judge 117 = .ok (.ireturn, 1) := by decide +kernel
theorem dX11_judge_118 : decode cX11_judge 118 = .ok (.iinc 3 1, 3) := by decide +kernel
theorem dX11_judge_121 : decode cX11_judge 121 = .ok (.goto (-57), 3) := by decide +kernel
theorem dX11_judge_124 : decode cX11_judge 124 = .ok (.bipush (-5), 2) := by decide +kernel
theorem dX11_judge_126 : decode cX11_judge 126 = .ok (.ireturn, 1) := by decide +kernel
theorem dX11_image_0 : decode cX11_image 0 = .ok (.aload_n 0, 1) := by decide +kernel
theorem dX11_image_1 : decode cX11_image 1 = .ok (.getfield 43, 3) := by decide +kernel
theorem dX11_image_4 : decode cX11_image 4 = .ok (.aload_n 0, 1) := by decide +kernel
theorem dX11_image_5 : decode cX11_image 5 = .ok (.getfield 37, 3) := by decide +kernel
theorem dX11_image_8 : decode cX11_image 8 = .ok (.invokevirtual 184, 3) := by decide +kernel
theorem dX11_image_11 : decode cX11_image 11 = .ok (.aload_n 0, 1) := by decide +kernel
theorem dX11_image_12 : decode cX11_image 12 = .ok (.getfield 43, 3) := by decide +kernel
theorem dX11_image_15 : decode cX11_image 15 = .ok (.aload_n 0, 1) := by decide +kernel
theorem dX11_image_16 : decode cX11_image 16 = .ok (.getfield 37, 3) := by decide +kernel
theorem dX11_image_19 : decode cX11_image 19 = .ok (.invokevirtual 276, 3) := by decide +kernel
theorem dX11_image_22 : decode cX11_image 22 = .ok (.aload_n 0, 1) := by decide +kernel
