theorem tb_in {i : Nat} {w : Cond} (h : lw_tbl[i]? = some w) (hg : goodWord w = true) : w ∈ tbg := List.mem_filter.mpr ⟨List.mem_of_getElem? h, hg⟩
def Fw (e : Nat × Nat × Nat × Nat) : Prop := (e.2.2.1 = 20 ∧ e.1 = 20 ∧ ((e.2.1 = 9 ∧ e.2.2.2 = 0) ∨ (e.2.1 = 15 ∧ e.2.2.2 = 1))) ∨ (e.2.2.1 < 13 ∧ ∃ q : vw_C, kcl[e.2.2.1]? = some q ∧ e.2.2.2 < q.2.2 ∧ Cond.fieldLink (on e.1) e.2.1 (q.2.1 e.2.2.2).1 (q.2.1 e.2.2.2).2.1 (q.2.1 e.2.2.2).2.2.1 ∈ tbg)
theorem fw_0 : Fw (6, 9, 6, 0) := Or.inr ⟨by decide, _, rfl, by decide, tb_in (i := 173) (by decide +kernel) rfl⟩
theorem fw_1 : Fw (11, 264, 6, 0) := Or.inr ⟨by decide, _, rfl, by decide, tb_in (i := 174) (by decide +kernel) rfl⟩
theorem fw_2 : Fw (6, 15, 6, 1) := Or.inr ⟨by decide, _, rfl, by decide, tb_in (i := 175) (by decide +kernel) rfl⟩
theorem fw_3 : Fw (11, 235, 6, 1) := Or.inr ⟨by decide, _, rfl, by decide, tb_in (i := 176) (by decide +kernel) rfl⟩
theorem fw_4 : Fw (6, 18, 6, 2) := Or.inr ⟨by decide, _, rfl, by decide, tb_in (i := 177) (by decide +kernel) rfl⟩
theorem fw_5 : Fw (11, 217, 6, 2) := Or.inr ⟨by decide, _, rfl, by decide, tb_in (i := 178) (by decide +kernel) rfl⟩
theorem fw_6 : Fw (8, 53, 8, 0) := Or.inr ⟨by decide, _, rfl, by decide, tb_in (i := 187) (by decide +kernel) rfl⟩
theorem fw_7 : Fw (11, 291, 8, 0) := Or.inr ⟨by decide, _, rfl, by decide, tb_in (i := 188) (by decide +kernel) rfl⟩
theorem fw_8 : Fw (8, 57, 8, 1) := Or.inr ⟨by decide, _, rfl, by decide, tb_in (i := 189) (by decide +kernel) rfl⟩
theorem fw_9 : Fw (11, 83, 8, 1) := Or.inr ⟨by decide, _, rfl, by decide, tb_in (i := 190) (by decide +kernel) rfl⟩
theorem fw_10 : Fw (3, 7, 8, 2) := Or.inr ⟨by decide, _, rfl, by decide, tb_in (i := 191) (by decide +kernel) rfl⟩
theorem fw_11 : Fw (8, 70, 8, 2) := Or.inr ⟨by decide, _, rfl, by decide, tb_in (i := 192) (by decide +kernel) rfl⟩
theorem fw_12 : Fw (11, 162, 8, 2) := Or.inr ⟨by decide, _, rfl, by decide, tb_in (i := 193) (by decide +kernel) rfl⟩
theorem fw_13 : Fw (8, 61, 8, 3) := Or.inr ⟨by decide, _, rfl, by decide, tb_in (i := 194) (by decide +kernel) rfl⟩
theorem fw_14 : Fw (11, 169, 8, 3) := Or.inr ⟨by decide, _, rfl, by decide, tb_in (i := 195) (by decide +kernel) rfl⟩
theorem fw_15 : Fw (8, 73, 8, 4) := Or.inr ⟨by decide, _, rfl, by decide, tb_in (i := 196) (by decide +kernel) rfl⟩
theorem fw_16 : Fw (11, 155, 8, 4) := Or.inr ⟨by decide, _, rfl, by decide, tb_in (i := 197) (by decide +kernel) rfl⟩
theorem fw_17 : Fw (8, 9, 8, 5) := Or.inr ⟨by decide, _, rfl, by decide, tb_in (i := 198) (by decide +kernel) rfl⟩
theorem fw_18 : Fw (11, 101, 8, 5) := Or.inr ⟨by decide, _, rfl, by decide, tb_in (i := 199) (by decide +kernel) rfl⟩
theorem fw_19 : Fw (8, 15, 8, 6) := Or.inr ⟨by decide, _, rfl, by decide, tb_in (i := 200) (by decide +kernel) rfl⟩
theorem fw_20 : Fw (0, 11, 8, 6) := Or.inr ⟨by decide, _, rfl, by decide, tb_in (i := 201) (by decide +kernel) rfl⟩
theorem fw_21 : Fw (11, 104, 8, 6) := Or.inr ⟨by decide, _, rfl, by decide, tb_in (i := 202) (by decide +kernel) rfl⟩
theorem fw_22 : Fw (8, 18, 8, 7) := Or.inr ⟨by decide, _, rfl, by decide, tb_in (i := 203) (by decide +kernel) rfl⟩
theorem fw_23 : Fw (11, 110, 8, 7) := Or.inr ⟨by decide, _, rfl, by decide, tb_in (i := 204) (by decide +kernel) rfl⟩
theorem fw_24 : Fw (8, 21, 8, 8) := Or.inr ⟨by decide, _, rfl, by decide, tb_in (i := 205) (by decide +kernel) rfl⟩
theorem fw_25 : Fw (11, 113, 8, 8) := Or.inr ⟨by decide, _, rfl, by decide, tb_in (i := 206) (by decide +kernel) rfl⟩
theorem fw_26 : Fw (8, 26, 8, 9) := Or.inr ⟨by decide, _, rfl, by decide, tb_in (i := 207) (by decide +kernel) rfl⟩
theorem fw_27 : Fw (7, 11, 8, 9) := Or.inr ⟨by decide, _, rfl, by decide, tb_in (i := 208) (by decide +kernel) rfl⟩
theorem fw_28 : Fw (11, 130, 8, 9) := Or.inr ⟨by decide, _, rfl, by decide, tb_in (i := 209) (by decide +kernel) rfl⟩
theorem fw_29 : Fw (8, 34, 8, 10) := Or.inr ⟨by decide, _, rfl, by decide, tb_in (i := 210) (by decide +kernel) rfl⟩
theorem fw_30 : Fw (11, 205, 8, 10) := Or.inr ⟨by decide, _, rfl, by decide, tb_in (i := 211) (by decide +kernel) rfl⟩
theorem fw_31 : Fw (8, 38, 8, 11) := Or.inr ⟨by decide, _, rfl, by decide, tb_in (i := 212) (by decide +kernel) rfl⟩
theorem fw_32 : Fw (11, 241, 8, 11) := Or.inr ⟨by decide, _, rfl, by decide, tb_in (i := 213) (by decide +kernel) rfl⟩
theorem fw_33 : Fw (8, 41, 8, 12) := Or.inr ⟨by decide, _, rfl, by decide, tb_in (i := 214) (by decide +kernel) rfl⟩
theorem fw_34 : Fw (11, 261, 8, 12) := Or.inr ⟨by decide, _, rfl, by decide, tb_in (i := 215) (by decide +kernel) rfl⟩
theorem fw_35 : Fw (8, 44, 8, 13) := Or.inr ⟨by decide, _, rfl, by decide, tb_in (i := 216) (by decide +kernel) rfl⟩
theorem fw_36 : Fw (11, 270, 8, 13) := Or.inr ⟨by decide, _, rfl, by decide, tb_in (i := 217) (by decide +kernel) rfl⟩
theorem fw_37 : Fw (8, 47, 8, 14) := Or.inr ⟨by decide, _, rfl, by decide, tb_in (i := 218) (by decide +kernel) rfl⟩
theorem fw_38 : Fw (5, 7, 8, 14) := Or.inr ⟨by decide, _, rfl, by decide, tb_in (i := 219) (by decide +kernel) rfl⟩
theorem fw_39 : Fw (10, 105, 8, 14) := Or.inr ⟨by decide, _, rfl, by decide, tb_in (i := 220) (by decide +kernel) rfl⟩
theorem fw_40 : Fw (8, 50, 8, 15) := Or.inr ⟨by decide, _, rfl, by decide, tb_in (i := 221) (by decide +kernel) rfl⟩
theorem fw_41 : Fw (11, 181, 8, 15) := Or.inr ⟨by decide, _, rfl, by decide, tb_in (i := 222) (by decide +kernel) rfl⟩
theorem fw_42 : Fw (5, 19, 1, 0) := Or.inr ⟨by decide, _, rfl, by decide, tb_in (i := 262) (by decide +kernel) rfl⟩
theorem fw_43 : Fw (3, 23, 1, 0) := Or.inr ⟨by decide, _, rfl, by decide, tb_in (i := 263) (by decide +kernel) rfl⟩
theorem fw_44 : Fw (11, 286, 1, 0) := Or.inr ⟨by decide, _, rfl, by decide, tb_in (i := 264) (by decide +kernel) rfl⟩
theorem fw_45 : Fw (7, 30, 1, 1) := Or.inr ⟨by decide, _, rfl, by decide, tb_in (i := 265) (by decide +kernel) rfl⟩
theorem fw_46 : Fw (5, 29, 1, 1) := Or.inr ⟨by decide, _, rfl, by decide, tb_in (i := 266) (by decide +kernel) rfl⟩
theorem fw_47 : Fw (11, 289, 1, 1) := Or.inr ⟨by decide, _, rfl, by decide, tb_in (i := 267) (by decide +kernel) rfl⟩
theorem fw_48 : Fw (1, 9, 1, 2) := Or.inr ⟨by decide, _, rfl, by decide, tb_in (i := 268) (by decide +kernel) rfl⟩
theorem fw_49 : Fw (11, 311, 1, 2) := Or.inr ⟨by decide, _, rfl, by decide, tb_in (i := 269) (by decide +kernel) rfl⟩
theorem fw_50 : Fw (1, 13, 1, 3) := Or.inr ⟨by decide, _, rfl, by decide, tb_in (i := 270) (by decide +kernel) rfl⟩
theorem fw_51 : Fw (11, 305, 1, 3) := Or.inr ⟨by decide, _, rfl, by decide, tb_in (i := 271) (by decide +kernel) rfl⟩
theorem fw_52 : Fw (11, 37, 11, 0) := Or.inr ⟨by decide, _, rfl, by decide, tb_in (i := 288) (by decide +kernel) rfl⟩
theorem fw_53 : Fw (11, 43, 11, 1) := Or.inr ⟨by decide, _, rfl, by decide, tb_in (i := 289) (by decide +kernel) rfl⟩
theorem fw_54 : Fw (11, 46, 11, 2) := Or.inr ⟨by decide, _, rfl, by decide, tb_in (i := 290) (by decide +kernel) rfl⟩
theorem fw_55 : Fw (11, 279, 11, 3) := Or.inr ⟨by decide, _, rfl, by decide, tb_in (i := 291) (by decide +kernel) rfl⟩
theorem fw_56 : Fw (11, 49, 11, 4) := Or.inr ⟨by decide, _, rfl, by decide, tb_in (i := 292) (by decide +kernel) rfl⟩
theorem fw_57 : Fw (11, 133, 11, 5) := Or.inr ⟨by decide, _, rfl, by decide, tb_in (i := 293) (by decide +kernel) rfl⟩
theorem fw_58 : Fw (11, 136, 11, 6) := Or.inr ⟨by decide, _, rfl, by decide, tb_in (i := 294) (by decide +kernel) rfl⟩
theorem fw_59 : Fw (11, 56, 11, 7) := Or.inr ⟨by decide, _, rfl, by decide, tb_in (i := 295) (by decide +kernel) rfl⟩
theorem fw_60 : Fw (11, 62, 11, 8) := Or.inr ⟨by decide, _, rfl, by decide, tb_in (i := 296) (by decide +kernel) rfl⟩
theorem fw_61 : Fw (11, 67, 11, 9) := Or.inr ⟨by decide, _, rfl, by decide, tb_in (i := 297) (by decide +kernel) rfl⟩
theorem fw_62 : Fw (11, 70, 11, 10) := Or.inr ⟨by decide, _, rfl, by decide, tb_in (i := 298) (by decide +kernel) rfl⟩
theorem fw_63 : Fw (11, 80, 11, 11) := Or.inr ⟨by decide, _, rfl, by decide, tb_in (i := 299) (by decide +kernel) rfl⟩
theorem fw_64 : Fw (10, 21, 10, 0) := Or.inr ⟨by decide, _, rfl, by decide, tb_in (i := 501) (by decide +kernel) rfl⟩
theorem fw_65 : Fw (10, 39, 10, 1) := Or.inr ⟨by decide, _, rfl, by decide, tb_in (i := 502) (by decide +kernel) rfl⟩
theorem fw_66 : Fw (11, 152, 10, 1) := Or.inr ⟨by decide, _, rfl, by decide, tb_in (i := 503) (by decide +kernel) rfl⟩
theorem fw_67 : Fw (10, 59, 10, 2) := Or.inr ⟨by decide, _, rfl, by decide, tb_in (i := 504) (by decide +kernel) rfl⟩
theorem fw_68 : Fw (10, 11, 10, 3) := Or.inr ⟨by decide, _, rfl, by decide, tb_in (i := 505) (by decide +kernel) rfl⟩
theorem fw_69 : Fw (8, 87, 10, 3) := Or.inr ⟨by decide, _, rfl, by decide, tb_in (i := 506) (by decide +kernel) rfl⟩
theorem fw_70 : Fw (10, 25, 10, 4) := Or.inr ⟨by decide, _, rfl, by decide, tb_in (i := 507) (by decide +kernel) rfl⟩
theorem fw_71 : Fw (10, 29, 10, 5) := Or.inr ⟨by decide, _, rfl, by decide, tb_in (i := 508) (by decide +kernel) rfl⟩
theorem fw_72 : Fw (10, 32, 10, 6) := Or.inr ⟨by decide, _, rfl, by decide, tb_in (i := 509) (by decide +kernel) rfl⟩
theorem fw_73 : Fw (10, 102, 10, 7) := Or.inr ⟨by decide, _, rfl, by decide, tb_in (i := 510) (by decide +kernel) rfl⟩
theorem fw_74 : Fw (10, 17, 10, 8) := Or.inr ⟨by decide, _, rfl, by decide, tb_in (i := 511) (by decide +kernel) rfl⟩
theorem fw_75 : Fw (12, 7, 12, 0) := Or.inr ⟨by decide, _, rfl, by decide, tb_in (i := 971) (by decide +kernel) rfl⟩
theorem fw_76 : Fw (12, 13, 12, 1) := Or.inr ⟨by decide, _, rfl, by decide, tb_in (i := 972) (by decide +kernel) rfl⟩
theorem fw_77 : Fw (12, 16, 12, 2) := Or.inr ⟨by decide, _, rfl, by decide, tb_in (i := 973) (by decide +kernel) rfl⟩
theorem fw_78 : Fw (12, 19, 12, 3) := Or.inr ⟨by decide, _, rfl, by decide, tb_in (i := 974) (by decide +kernel) rfl⟩
theorem fw_79 : Fw (12, 23, 12, 4) := Or.inr ⟨by decide, _, rfl, by decide, tb_in (i := 975) (by decide +kernel) rfl⟩
theorem fw_80 : Fw (12, 26, 12, 5) := Or.inr ⟨by decide, _, rfl, by decide, tb_in (i := 976) (by decide +kernel) rfl⟩
theorem fw_81 : Fw (12, 29, 12, 6) := Or.inr ⟨by decide, _, rfl, by decide, tb_in (i := 977) (by decide +kernel) rfl⟩
theorem fw_82 : Fw (12, 32, 12, 7) := Or.inr ⟨by decide, _, rfl, by decide, tb_in (i := 978) (by decide +kernel) rfl⟩
theorem fw_83 : Fw (12, 35, 12, 8) := Or.inr ⟨by decide, _, rfl, by decide, tb_in (i := 979) (by decide +kernel) rfl⟩
theorem fw_84 : Fw (12, 38, 12, 9) := Or.inr ⟨by decide, _, rfl, by decide, tb_in (i := 980) (by decide +kernel) rfl⟩
theorem fw_85 : Fw (12, 41, 12, 10) := Or.inr ⟨by decide, _, rfl, by decide, tb_in (i := 981) (by decide +kernel) rfl⟩
theorem fw_86 : Fw (12, 44, 12, 11) := Or.inr ⟨by decide, _, rfl, by decide, tb_in (i := 982) (by decide +kernel) rfl⟩
theorem fw_87 : Fw (12, 47, 12, 12) := Or.inr ⟨by decide, _, rfl, by decide, tb_in (i := 983) (by decide +kernel) rfl⟩
theorem fw_88 : Fw (12, 50, 12, 13) := Or.inr ⟨by decide, _, rfl, by decide, tb_in (i := 984) (by decide +kernel) rfl⟩
theorem fw_89 : Fw (12, 53, 12, 14) := Or.inr ⟨by decide, _, rfl, by decide, tb_in (i := 985) (by decide +kernel) rfl⟩
theorem fw_90 : Fw (12, 56, 12, 15) := Or.inr ⟨by decide, _, rfl, by decide, tb_in (i := 986) (by decide +kernel) rfl⟩
theorem fw_91 : Fw (12, 59, 12, 16) := Or.inr ⟨by decide, _, rfl, by decide, tb_in (i := 987) (by decide +kernel) rfl⟩
theorem fw_92 : Fw (12, 62, 12, 17) := Or.inr ⟨by decide, _, rfl, by decide, tb_in (i := 988) (by decide +kernel) rfl⟩
theorem fw_93 : Fw (12, 65, 12, 18) := Or.inr ⟨by decide, _, rfl, by decide, tb_in (i := 989) (by decide +kernel) rfl⟩
theorem fw_94 : Fw (12, 68, 12, 19) := Or.inr ⟨by decide, _, rfl, by decide, tb_in (i := 990) (by decide +kernel) rfl⟩
theorem fw_95 : Fw (12, 71, 12, 20) := Or.inr ⟨by decide, _, rfl, by decide, tb_in (i := 991) (by decide +kernel) rfl⟩
theorem fw_96 : Fw (12, 74, 12, 21) := Or.inr ⟨by decide, _, rfl, by decide, tb_in (i := 992) (by decide +kernel) rfl⟩
theorem fw_97 : Fw (12, 77, 12, 22) := Or.inr ⟨by decide, _, rfl, by decide, tb_in (i := 993) (by decide +kernel) rfl⟩
theorem fw_98 : Fw (12, 80, 12, 23) := Or.inr ⟨by decide, _, rfl, by decide, tb_in (i := 994) (by decide +kernel) rfl⟩
theorem fw_99 : Fw (12, 83, 12, 24) := Or.inr ⟨by decide, _, rfl, by decide, tb_in (i := 995) (by decide +kernel) rfl⟩
theorem fw_100 : Fw (12, 86, 12, 25) := Or.inr ⟨by decide, _, rfl, by decide, tb_in (i := 996) (by decide +kernel) rfl⟩
theorem fw_101 : Fw (12, 90, 12, 26) := Or.inr ⟨by decide, _, rfl, by decide, tb_in (i := 997) (by decide +kernel) rfl⟩
theorem fw_102 : Fw (12, 93, 12, 27) := Or.inr ⟨by decide, _, rfl, by decide, tb_in (i := 998) (by decide +kernel) rfl⟩
theorem fw_103 : Fw (12, 96, 12, 28) := Or.inr ⟨by decide, _, rfl, by decide, tb_in (i := 999) (by decide +kernel) rfl⟩
theorem fw_104 : Fw (12, 99, 12, 29) := Or.inr ⟨by decide, _, rfl, by decide, tb_in (i := 1000) (by decide +kernel) rfl⟩
theorem fw_105 : Fw (12, 102, 12, 30) := Or.inr ⟨by decide, _, rfl, by decide, tb_in (i := 1001) (by decide +kernel) rfl⟩
theorem fw_106 : Fw (12, 105, 12, 31) := Or.inr ⟨by decide, _, rfl, by decide, tb_in (i := 1002) (by decide +kernel) rfl⟩
theorem fw_107 : Fw (12, 108, 12, 32) := Or.inr ⟨by decide, _, rfl, by decide, tb_in (i := 1003) (by decide +kernel) rfl⟩
theorem fw_108 : Fw (12, 111, 12, 33) := Or.inr ⟨by decide, _, rfl, by decide, tb_in (i := 1004) (by decide +kernel) rfl⟩
theorem fw_109 : Fw (12, 114, 12, 34) := Or.inr ⟨by decide, _, rfl, by decide, tb_in (i := 1005) (by decide +kernel) rfl⟩
theorem fw_110 : Fw (12, 117, 12, 35) := Or.inr ⟨by decide, _, rfl, by decide, tb_in (i := 1006) (by decide +kernel) rfl⟩
theorem fw_111 : Fw (12, 120, 12, 36) := Or.inr ⟨by decide, _, rfl, by decide, tb_in (i := 1007) (by decide +kernel) rfl⟩
theorem fw_112 : Fw (12, 123, 12, 37) := Or.inr ⟨by decide, _, rfl, by decide, tb_in (i := 1008) (by decide +kernel) rfl⟩
theorem fw_113 : Fw (12, 126, 12, 38) := Or.inr ⟨by decide, _, rfl, by decide, tb_in (i := 1009) (by decide +kernel) rfl⟩
theorem fw_114 : Fw (12, 129, 12, 39) := Or.inr ⟨by decide, _, rfl, by decide, tb_in (i := 1010) (by decide +kernel) rfl⟩
theorem fw_115 : Fw (12, 132, 12, 40) := Or.inr ⟨by decide, _, rfl, by decide, tb_in (i := 1011) (by decide +kernel) rfl⟩
theorem fw_116 : Fw (12, 135, 12, 41) := Or.inr ⟨by decide, _, rfl, by decide, tb_in (i := 1012) (by decide +kernel) rfl⟩
theorem fw_117 : Fw (12, 138, 12, 42) := Or.inr ⟨by decide, _, rfl, by decide, tb_in (i := 1013) (by decide +kernel) rfl⟩
theorem fw_118 : Fw (12, 141, 12, 43) := Or.inr ⟨by decide, _, rfl, by decide, tb_in (i := 1014) (by decide +kernel) rfl⟩
theorem fw_119 : Fw (12, 144, 12, 44) := Or.inr ⟨by decide, _, rfl, by decide, tb_in (i := 1015) (by decide +kernel) rfl⟩
theorem fw_120 : Fw (12, 147, 12, 45) := Or.inr ⟨by decide, _, rfl, by decide, tb_in (i := 1016) (by decide +kernel) rfl⟩
theorem fw_121 : Fw (12, 151, 12, 46) := Or.inr ⟨by decide, _, rfl, by decide, tb_in (i := 1017) (by decide +kernel) rfl⟩
theorem fw_122 : Fw (12, 154, 12, 47) := Or.inr ⟨by decide, _, rfl, by decide, tb_in (i := 1018) (by decide +kernel) rfl⟩
theorem fw_123 : Fw (12, 157, 12, 48) := Or.inr ⟨by decide, _, rfl, by decide, tb_in (i := 1019) (by decide +kernel) rfl⟩
theorem fw_124 : Fw (12, 160, 12, 49) := Or.inr ⟨by decide, _, rfl, by decide, tb_in (i := 1020) (by decide +kernel) rfl⟩
theorem fw_125 : Fw (12, 163, 12, 50) := Or.inr ⟨by decide, _, rfl, by decide, tb_in (i := 1021) (by decide +kernel) rfl⟩
theorem fw_126 : Fw (12, 166, 12, 51) := Or.inr ⟨by decide, _, rfl, by decide, tb_in (i := 1022) (by decide +kernel) rfl⟩
theorem fw_127 : Fw (12, 169, 12, 52) := Or.inr ⟨by decide, _, rfl, by decide, tb_in (i := 1023) (by decide +kernel) rfl⟩
theorem fw_128 : Fw (12, 172, 12, 53) := Or.inr ⟨by decide, _, rfl, by decide, tb_in (i := 1024) (by decide +kernel) rfl⟩
theorem fw_129 : Fw (12, 175, 12, 54) := Or.inr ⟨by decide, _, rfl, by decide, tb_in (i := 1025) (by decide +kernel) rfl⟩
theorem fw_130 : Fw (12, 178, 12, 55) := Or.inr ⟨by decide, _, rfl, by decide, tb_in (i := 1026) (by decide +kernel) rfl⟩
theorem fw_131 : Fw (12, 181, 12, 56) := Or.inr ⟨by decide, _, rfl, by decide, tb_in (i := 1027) (by decide +kernel) rfl⟩
theorem fw_132 : Fw (12, 184, 12, 57) := Or.inr ⟨by decide, _, rfl, by decide, tb_in (i := 1028) (by decide +kernel) rfl⟩
theorem fw_133 : Fw (12, 187, 12, 58) := Or.inr ⟨by decide, _, rfl, by decide, tb_in (i := 1029) (by decide +kernel) rfl⟩
theorem fw_134 : Fw (12, 190, 12, 59) := Or.inr ⟨by decide, _, rfl, by decide, tb_in (i := 1030) (by decide +kernel) rfl⟩
theorem fw_135 : Fw (12, 193, 12, 60) := Or.inr ⟨by decide, _, rfl, by decide, tb_in (i := 1031) (by decide +kernel) rfl⟩
theorem fw_136 : Fw (12, 196, 12, 61) := Or.inr ⟨by decide, _, rfl, by decide, tb_in (i := 1032) (by decide +kernel) rfl⟩
theorem fw_137 : Fw (12, 199, 12, 62) := Or.inr ⟨by decide, _, rfl, by decide, tb_in (i := 1033) (by decide +kernel) rfl⟩
theorem fw_138 : Fw (12, 202, 12, 63) := Or.inr ⟨by decide, _, rfl, by decide, tb_in (i := 1034) (by decide +kernel) rfl⟩
theorem fw_139 : Fw (12, 205, 12, 64) := Or.inr ⟨by decide, _, rfl, by decide, tb_in (i := 1035) (by decide +kernel) rfl⟩
theorem fw_140 : Fw (12, 208, 12, 65) := Or.inr ⟨by decide, _, rfl, by decide, tb_in (i := 1036) (by decide +kernel) rfl⟩
theorem fw_141 : Fw (12, 211, 12, 66) := Or.inr ⟨by decide, _, rfl, by decide, tb_in (i := 1037) (by decide +kernel) rfl⟩
theorem fw_142 : Fw (12, 214, 12, 67) := Or.inr ⟨by decide, _, rfl, by decide, tb_in (i := 1038) (by decide +kernel) rfl⟩
theorem fw_143 : Fw (12, 217, 12, 68) := Or.inr ⟨by decide, _, rfl, by decide, tb_in (i := 1039) (by decide +kernel) rfl⟩
theorem fw_144 : Fw (12, 220, 12, 69) := Or.inr ⟨by decide, _, rfl, by decide, tb_in (i := 1040) (by decide +kernel) rfl⟩
theorem fw_145 : Fw (12, 223, 12, 70) := Or.inr ⟨by decide, _, rfl, by decide, tb_in (i := 1041) (by decide +kernel) rfl⟩
theorem fw_146 : Fw (12, 227, 12, 71) := Or.inr ⟨by decide, _, rfl, by decide, tb_in (i := 1042) (by decide +kernel) rfl⟩
theorem fw_147 : Fw (20, 9, 20, 0) := Or.inl ⟨rfl, rfl, Or.inl ⟨rfl, rfl⟩⟩
theorem fw_148 : Fw (20, 15, 20, 1) := Or.inl ⟨rfl, rfl, Or.inr ⟨rfl, rfl⟩⟩
theorem fw : ∀ e ∈ ftl, Fw e := List.forall_mem_cons.mpr ⟨fw_0, List.forall_mem_cons.mpr ⟨fw_1, List.forall_mem_cons.mpr ⟨fw_2, List.forall_mem_cons.mpr ⟨fw_3, List.forall_mem_cons.mpr ⟨fw_4, List.forall_mem_cons.mpr ⟨fw_5, List.forall_mem_cons.mpr ⟨fw_6, List.forall_mem_cons.mpr ⟨fw_7, List.forall_mem_cons.mpr ⟨fw_8, List.forall_mem_cons.mpr ⟨fw_9, List.forall_mem_cons.mpr ⟨fw_10, List.forall_mem_cons.mpr ⟨fw_11, List.forall_mem_cons.mpr ⟨fw_12, List.forall_mem_cons.mpr ⟨fw_13, List.forall_mem_cons.mpr ⟨fw_14, List.forall_mem_cons.mpr ⟨fw_15, List.forall_mem_cons.mpr ⟨fw_16, List.forall_mem_cons.mpr ⟨fw_17, List.forall_mem_cons.mpr ⟨fw_18, List.forall_mem_cons.mpr ⟨fw_19, List.forall_mem_cons.mpr ⟨fw_20, List.forall_mem_cons.mpr ⟨fw_21, List.forall_mem_cons.mpr ⟨fw_22, List.forall_mem_cons.mpr ⟨fw_23, List.forall_mem_cons.mpr ⟨fw_24, List.forall_mem_cons.mpr ⟨fw_25, List.forall_mem_cons.mpr ⟨fw_26, List.forall_mem_cons.mpr ⟨fw_27, List.forall_mem_cons.mpr ⟨fw_28, List.forall_mem_cons.mpr ⟨fw_29, List.forall_mem_cons.mpr ⟨fw_30, List.forall_mem_cons.mpr ⟨fw_31, List.forall_mem_cons.mpr ⟨fw_32, List.forall_mem_cons.mpr ⟨fw_33, List.forall_mem_cons.mpr ⟨fw_34, List.forall_mem_cons.mpr ⟨fw_35, List.forall_mem_cons.mpr ⟨fw_36, List.forall_mem_cons.mpr ⟨fw_37, List.forall_mem_cons.mpr ⟨fw_38, List.forall_mem_cons.mpr ⟨fw_39, List.forall_mem_cons.mpr ⟨fw_40, List.forall_mem_cons.mpr ⟨fw_41, List.forall_mem_cons.mpr ⟨fw_42, List.forall_mem_cons.mpr ⟨fw_43, List.forall_mem_cons.mpr ⟨fw_44, List.forall_mem_cons.mpr ⟨fw_45, List.forall_mem_cons.mpr ⟨fw_46, List.forall_mem_cons.mpr ⟨fw_47, List.forall_mem_cons.mpr ⟨fw_48, List.forall_mem_cons.mpr ⟨fw_49, List.forall_mem_cons.mpr ⟨fw_50, List.forall_mem_cons.mpr ⟨fw_51, List.forall_mem_cons.mpr ⟨fw_52, List.forall_mem_cons.mpr ⟨fw_53, List.forall_mem_cons.mpr ⟨fw_54, List.forall_mem_cons.mpr ⟨fw_55, List.forall_mem_cons.mpr ⟨fw_56, List.forall_mem_cons.mpr ⟨fw_57, List.forall_mem_cons.mpr ⟨fw_58, List.forall_mem_cons.mpr ⟨fw_59, List.forall_mem_cons.mpr ⟨fw_60, List.forall_mem_cons.mpr ⟨fw_61, List.forall_mem_cons.mpr ⟨fw_62, List.forall_mem_cons.mpr ⟨fw_63, List.forall_mem_cons.mpr ⟨fw_64, List.forall_mem_cons.mpr ⟨fw_65, List.forall_mem_cons.mpr ⟨fw_66, List.forall_mem_cons.mpr ⟨fw_67, List.forall_mem_cons.mpr ⟨fw_68, List.forall_mem_cons.mpr ⟨fw_69, List.forall_mem_cons.mpr ⟨fw_70, List.forall_mem_cons.mpr ⟨fw_71, List.forall_mem_cons.mpr ⟨fw_72, List.forall_mem_cons.mpr ⟨fw_73, List.forall_mem_cons.mpr ⟨fw_74, List.forall_mem_cons.mpr ⟨fw_75, List.forall_mem_cons.mpr ⟨fw_76, List.forall_mem_cons.mpr ⟨fw_77, List.forall_mem_cons.mpr ⟨fw_78, List.forall_mem_cons.mpr ⟨fw_79, List.forall_mem_cons.mpr ⟨fw_80, List.forall_mem_cons.mpr ⟨fw_81, List.forall_mem_cons.mpr ⟨fw_82, List.forall_mem_cons.mpr ⟨fw_83, List.forall_mem_cons.mpr ⟨fw_84, List.forall_mem_cons.mpr ⟨fw_85, List.forall_mem_cons.mpr ⟨fw_86, List.forall_mem_cons.mpr ⟨fw_87, List.forall_mem_cons.mpr ⟨fw_88, List.forall_mem_cons.mpr ⟨fw_89, List.forall_mem_cons.mpr ⟨fw_90, List.forall_mem_cons.mpr ⟨fw_91, List.forall_mem_cons.mpr ⟨fw_92, List.forall_mem_cons.mpr ⟨fw_93, List.forall_mem_cons.mpr ⟨fw_94, List.forall_mem_cons.mpr ⟨fw_95, List.forall_mem_cons.mpr ⟨fw_96, List.forall_mem_cons.mpr ⟨fw_97, List.forall_mem_cons.mpr ⟨fw_98, List.forall_mem_cons.mpr ⟨fw_99, List.forall_mem_cons.mpr ⟨fw_100, List.forall_mem_cons.mpr ⟨fw_101, List.forall_mem_cons.mpr ⟨fw_102, List.forall_mem_cons.mpr ⟨fw_103, List.forall_mem_cons.mpr ⟨fw_104, List.forall_mem_cons.mpr ⟨fw_105, List.forall_mem_cons.mpr ⟨fw_106, List.forall_mem_cons.mpr ⟨fw_107, List.forall_mem_cons.mpr ⟨fw_108, List.forall_mem_cons.mpr ⟨fw_109, List.forall_mem_cons.mpr ⟨fw_110, List.forall_mem_cons.mpr ⟨fw_111, List.forall_mem_cons.mpr ⟨fw_112, List.forall_mem_cons.mpr ⟨fw_113, List.forall_mem_cons.mpr ⟨fw_114, List.forall_mem_cons.mpr ⟨fw_115, List.forall_mem_cons.mpr ⟨fw_116, List.forall_mem_cons.mpr ⟨fw_117, List.forall_mem_cons.mpr ⟨fw_118, List.forall_mem_cons.mpr ⟨fw_119, List.forall_mem_cons.mpr ⟨fw_120, List.forall_mem_cons.mpr ⟨fw_121, List.forall_mem_cons.mpr ⟨fw_122, List.forall_mem_cons.mpr ⟨fw_123, List.forall_mem_cons.mpr ⟨fw_124, List.forall_mem_cons.mpr ⟨fw_125, List.forall_mem_cons.mpr ⟨fw_126, List.forall_mem_cons.mpr ⟨fw_127, List.forall_mem_cons.mpr ⟨fw_128, List.forall_mem_cons.mpr ⟨fw_129, List.forall_mem_cons.mpr ⟨fw_130, List.forall_mem_cons.mpr ⟨fw_131, List.forall_mem_cons.mpr ⟨fw_132, List.forall_mem_cons.mpr ⟨fw_133, List.forall_mem_cons.mpr ⟨fw_134, List.forall_mem_cons.mpr ⟨fw_135, List.forall_mem_cons.mpr ⟨fw_136, List.forall_mem_cons.mpr ⟨fw_137, List.forall_mem_cons.mpr ⟨fw_138, List.forall_mem_cons.mpr ⟨fw_139, List.forall_mem_cons.mpr ⟨fw_140, List.forall_mem_cons.mpr ⟨fw_141, List.forall_mem_cons.mpr ⟨fw_142, List.forall_mem_cons.mpr ⟨fw_143, List.forall_mem_cons.mpr ⟨fw_144, List.forall_mem_cons.mpr ⟨fw_145, List.forall_mem_cons.mpr ⟨fw_146, List.forall_mem_cons.mpr ⟨fw_147, List.forall_mem_cons.mpr ⟨fw_148, fun _ h => absurd h List.not_mem_nil⟩⟩⟩⟩⟩⟩⟩⟩⟩⟩⟩⟩⟩⟩⟩⟩⟩⟩⟩⟩⟩⟩⟩⟩⟩⟩⟩⟩⟩⟩⟩⟩⟩⟩⟩⟩⟩⟩⟩⟩⟩⟩⟩⟩⟩⟩⟩⟩⟩⟩⟩⟩⟩⟩⟩⟩⟩⟩⟩⟩⟩⟩⟩⟩⟩⟩⟩⟩⟩⟩⟩⟩⟩⟩⟩⟩⟩⟩⟩⟩⟩⟩⟩⟩⟩⟩⟩⟩⟩⟩⟩⟩⟩⟩⟩⟩⟩⟩⟩⟩⟩⟩⟩⟩⟩⟩⟩⟩⟩⟩⟩⟩⟩⟩⟩⟩⟩⟩⟩⟩⟩⟩⟩⟩⟩⟩⟩⟩⟩⟩⟩⟩⟩⟩⟩⟩⟩⟩⟩⟩⟩⟩⟩⟩⟩⟩⟩⟩⟩
theorem fres_ok {o i ci k : Nat} (h : fres o i = some (ci, k)) : Fw (o, i, ci, k) := by
  unfold fres at h
  cases hf : ftl.find? (fun e => e.1 == o && e.2.1 == i) with
  | none => rw [hf] at h; cases h
  | some e =>
    rw [hf] at h
    have h1 := List.find?_some hf
    have h2 := fw e (List.mem_of_find?_eq_some hf)
    simp only [Bool.and_eq_true, beq_iff_eq] at h1
    obtain ⟨a, b, d⟩ := e
    simp only [Option.map_some, Option.some.injEq] at h
    simp only at h1
    obtain ⟨rfl, rfl⟩ := h1
    subst h
    exact h2
def Kw (ci : Nat) : Prop := ∃ q : vw_C, kcl[ci]? = some q ∧ q.2.2 = fnum ci ∧ (∀ k, k < q.2.2 → parseFieldDescriptor (q.2.1 k).2.2.1 = some (fty ci k)) ∧ (∀ a, a < q.2.2 → ∀ b, b < q.2.2 → a ≠ b → (q.2.1 a).2.1 ≠ (q.2.1 b).2.1) ∧ (∀ w ∈ u_ws q.1 q.2.1 q.2.2, w ∈ tbg) ∧ (∀ k, k < q.2.2 → (q.2.1 k).1 = q.1) ∧ q.1 = on ci ∧ Cond.instantiable q.1 q.2.2 ∈ tbg ∧ Cond.initialized q.1 ∈ tbg
theorem kw_0 : Kw 0 := ⟨(RX0, TX0, 0), rfl, rfl, tyX0_ok, nmX0, fun w hw => List.mem_filter.mpr ⟨(by decide +kernel : ∀ w ∈ u_ws RX0 TX0 0, w ∈ lw_tbl) w hw, List.all_eq_true.mp (by decide +kernel : (u_ws RX0 TX0 0).all goodWord = true) w hw⟩, by decide +kernel, rfl, tb_in (i := 132) (by decide +kernel) rfl, tb_in (i := 83) (by decide +kernel) rfl⟩
theorem kw_1 : Kw 1 := ⟨(RX1, TX1, 4), rfl, rfl, tyX1_ok, nmX1, fun w hw => List.mem_filter.mpr ⟨(by decide +kernel : ∀ w ∈ u_ws RX1 TX1 4, w ∈ lw_tbl) w hw, List.all_eq_true.mp (by decide +kernel : (u_ws RX1 TX1 4).all goodWord = true) w hw⟩, by decide +kernel, rfl, tb_in (i := 257) (by decide +kernel) rfl, tb_in (i := 89) (by decide +kernel) rfl⟩
theorem kw_2 : Kw 2 := ⟨(RX2, TX2, 0), rfl, rfl, tyX2_ok, nmX2, fun w hw => List.mem_filter.mpr ⟨(by decide +kernel : ∀ w ∈ u_ws RX2 TX2 0, w ∈ lw_tbl) w hw, List.all_eq_true.mp (by decide +kernel : (u_ws RX2 TX2 0).all goodWord = true) w hw⟩, by decide +kernel, rfl, tb_in (i := 118) (by decide +kernel) rfl, tb_in (i := 81) (by decide +kernel) rfl⟩
theorem kw_3 : Kw 3 := ⟨(RX3, TX3, 0), rfl, rfl, tyX3_ok, nmX3, fun w hw => List.mem_filter.mpr ⟨(by decide +kernel : ∀ w ∈ u_ws RX3 TX3 0, w ∈ lw_tbl) w hw, List.all_eq_true.mp (by decide +kernel : (u_ws RX3 TX3 0).all goodWord = true) w hw⟩, by decide +kernel, rfl, tb_in (i := 146) (by decide +kernel) rfl, tb_in (i := 85) (by decide +kernel) rfl⟩
theorem kw_4 : Kw 4 := ⟨(RX4, TX4, 0), rfl, rfl, tyX4_ok, nmX4, fun w hw => List.mem_filter.mpr ⟨(by decide +kernel : ∀ w ∈ u_ws RX4 TX4 0, w ∈ lw_tbl) w hw, List.all_eq_true.mp (by decide +kernel : (u_ws RX4 TX4 0).all goodWord = true) w hw⟩, by decide +kernel, rfl, tb_in (i := 125) (by decide +kernel) rfl, tb_in (i := 82) (by decide +kernel) rfl⟩
theorem kw_5 : Kw 5 := ⟨(RX5, TX5, 0), rfl, rfl, tyX5_ok, nmX5, fun w hw => List.mem_filter.mpr ⟨(by decide +kernel : ∀ w ∈ u_ws RX5 TX5 0, w ∈ lw_tbl) w hw, List.all_eq_true.mp (by decide +kernel : (u_ws RX5 TX5 0).all goodWord = true) w hw⟩, by decide +kernel, rfl, tb_in (i := 111) (by decide +kernel) rfl, tb_in (i := 80) (by decide +kernel) rfl⟩
theorem kw_6 : Kw 6 := ⟨(RX6, TX6, 3), rfl, rfl, tyX6_ok, nmX6, fun w hw => List.mem_filter.mpr ⟨(by decide +kernel : ∀ w ∈ u_ws RX6 TX6 3, w ∈ lw_tbl) w hw, List.all_eq_true.mp (by decide +kernel : (u_ws RX6 TX6 3).all goodWord = true) w hw⟩, by decide +kernel, rfl, tb_in (i := 168) (by decide +kernel) rfl, tb_in (i := 88) (by decide +kernel) rfl⟩
theorem kw_7 : Kw 7 := ⟨(RX7, TX7, 0), rfl, rfl, tyX7_ok, nmX7, fun w hw => List.mem_filter.mpr ⟨(by decide +kernel : ∀ w ∈ u_ws RX7 TX7 0, w ∈ lw_tbl) w hw, List.all_eq_true.mp (by decide +kernel : (u_ws RX7 TX7 0).all goodWord = true) w hw⟩, by decide +kernel, rfl, tb_in (i := 153) (by decide +kernel) rfl, tb_in (i := 86) (by decide +kernel) rfl⟩
theorem kw_8 : Kw 8 := ⟨(RX8, TX8, 16), rfl, rfl, tyX8_ok, nmX8, fun w hw => List.mem_filter.mpr ⟨(by decide +kernel : ∀ w ∈ u_ws RX8 TX8 16, w ∈ lw_tbl) w hw, List.all_eq_true.mp (by decide +kernel : (u_ws RX8 TX8 16).all goodWord = true) w hw⟩, by decide +kernel, rfl, tb_in (i := 160) (by decide +kernel) rfl, tb_in (i := 87) (by decide +kernel) rfl⟩
theorem kw_9 : Kw 9 := ⟨(RX9, TX9, 0), rfl, rfl, tyX9_ok, nmX9, fun w hw => List.mem_filter.mpr ⟨(by decide +kernel : ∀ w ∈ u_ws RX9 TX9 0, w ∈ lw_tbl) w hw, List.all_eq_true.mp (by decide +kernel : (u_ws RX9 TX9 0).all goodWord = true) w hw⟩, by decide +kernel, rfl, tb_in (i := 139) (by decide +kernel) rfl, tb_in (i := 84) (by decide +kernel) rfl⟩
theorem kw_10 : Kw 10 := ⟨(RX10, TX10, 9), rfl, rfl, tyX10_ok, nmX10, fun w hw => List.mem_filter.mpr ⟨(by decide +kernel : ∀ w ∈ u_ws RX10 TX10 9, w ∈ lw_tbl) w hw, List.all_eq_true.mp (by decide +kernel : (u_ws RX10 TX10 9).all goodWord = true) w hw⟩, by decide +kernel, rfl, tb_in (i := 357) (by decide +kernel) rfl, tb_in (i := 92) (by decide +kernel) rfl⟩
theorem kw_11 : Kw 11 := ⟨(RX11, TX11, 12), rfl, rfl, tyX11_ok, nmX11, fun w hw => List.mem_filter.mpr ⟨(by decide +kernel : ∀ w ∈ u_ws RX11 TX11 12, w ∈ lw_tbl) w hw, List.all_eq_true.mp (by decide +kernel : (u_ws RX11 TX11 12).all goodWord = true) w hw⟩, by decide +kernel, rfl, tb_in (i := 102) (by decide +kernel) rfl, tb_in (i := 79) (by decide +kernel) rfl⟩
theorem kw_12 : Kw 12 := ⟨(RX12, TX12, 72), rfl, rfl, tyX12_ok, nmX12, fun w hw => List.mem_filter.mpr ⟨(by decide +kernel : ∀ w ∈ u_ws RX12 TX12 72, w ∈ lw_tbl) w hw, List.all_eq_true.mp (by decide +kernel : (u_ws RX12 TX12 72).all goodWord = true) w hw⟩, by decide +kernel, rfl, tb_in (i := 966) (by decide +kernel) rfl, tb_in (i := 91) (by decide +kernel) rfl⟩
theorem kw : ∀ ci, ci < 13 → Kw ci := fun ci h => by
  match ci, h with
  | 0, _ => exact kw_0
  | 1, _ => exact kw_1
  | 2, _ => exact kw_2
  | 3, _ => exact kw_3
  | 4, _ => exact kw_4
  | 5, _ => exact kw_5
  | 6, _ => exact kw_6
  | 7, _ => exact kw_7
  | 8, _ => exact kw_8
  | 9, _ => exact kw_9
  | 10, _ => exact kw_10
  | 11, _ => exact kw_11
  | 12, _ => exact kw_12
  | n + 13, h => omega
def clname (k : Nat) : String := if k = 105 then "[[I" else if k = 106 then "[[J" else if k = 101 then "[B" else on k
def Nw (e : Nat × Nat × Nat) : Prop := Cond.classLink (on e.1) e.2.1 (clname e.2.2) ∈ tbg
theorem nw_0 : Nw (13, 7, 11) := tb_in (i := 101) (by decide +kernel) rfl
theorem nw_1 : Nw (11, 11, 5) := tb_in (i := 109) (by decide +kernel) rfl
theorem nw_2 : Nw (11, 14, 2) := tb_in (i := 117) (by decide +kernel) rfl
theorem nw_3 : Nw (11, 17, 4) := tb_in (i := 124) (by decide +kernel) rfl
theorem nw_4 : Nw (11, 20, 0) := tb_in (i := 131) (by decide +kernel) rfl
theorem nw_5 : Nw (11, 23, 9) := tb_in (i := 138) (by decide +kernel) rfl
theorem nw_6 : Nw (11, 26, 3) := tb_in (i := 145) (by decide +kernel) rfl
theorem nw_7 : Nw (11, 29, 7) := tb_in (i := 152) (by decide +kernel) rfl
theorem nw_8 : Nw (11, 32, 8) := tb_in (i := 159) (by decide +kernel) rfl
theorem nw_9 : Nw (8, 24, 105) := tb_in (i := 165) (by decide +kernel) rfl
theorem nw_10 : Nw (8, 29, 6) := tb_in (i := 167) (by decide +kernel) rfl
theorem nw_11 : Nw (11, 53, 1) := tb_in (i := 256) (by decide +kernel) rfl
theorem nw_12 : Nw (11, 60, 105) := tb_in (i := 282) (by decide +kernel) rfl
theorem nw_13 : Nw (11, 65, 106) := tb_in (i := 283) (by decide +kernel) rfl
theorem nw_14 : Nw (11, 139, 10) := tb_in (i := 484) (by decide +kernel) rfl
theorem nw_15 : Nw (27, 311, 101) := tb_in (i := 494) (by decide +kernel) rfl
theorem nw_16 : Nw (13, 10, 12) := tb_in (i := 965) (by decide +kernel) rfl
theorem nw : ∀ e ∈ ntl, Nw e := List.forall_mem_cons.mpr ⟨nw_0, List.forall_mem_cons.mpr ⟨nw_1, List.forall_mem_cons.mpr ⟨nw_2, List.forall_mem_cons.mpr ⟨nw_3, List.forall_mem_cons.mpr ⟨nw_4, List.forall_mem_cons.mpr ⟨nw_5, List.forall_mem_cons.mpr ⟨nw_6, List.forall_mem_cons.mpr ⟨nw_7, List.forall_mem_cons.mpr ⟨nw_8, List.forall_mem_cons.mpr ⟨nw_9, List.forall_mem_cons.mpr ⟨nw_10, List.forall_mem_cons.mpr ⟨nw_11, List.forall_mem_cons.mpr ⟨nw_12, List.forall_mem_cons.mpr ⟨nw_13, List.forall_mem_cons.mpr ⟨nw_14, List.forall_mem_cons.mpr ⟨nw_15, List.forall_mem_cons.mpr ⟨nw_16, fun _ h => absurd h List.not_mem_nil⟩⟩⟩⟩⟩⟩⟩⟩⟩⟩⟩⟩⟩⟩⟩⟩⟩
theorem nres_ok {o i k : Nat} (h : nres o i = some k) : Nw (o, i, k) := by
  unfold nres at h
  cases hf : ntl.find? (fun e => e.1 == o && e.2.1 == i) with
  | none => rw [hf] at h; cases h
  | some e =>
    rw [hf] at h
    have h1 := List.find?_some hf
    have h2 := nw e (List.mem_of_find?_eq_some hf)
    simp only [Bool.and_eq_true, beq_iff_eq] at h1
    obtain ⟨a, b, d⟩ := e
    simp only [Option.map_some, Option.some.injEq] at h
    simp only at h1
    obtain ⟨rfl, rfl⟩ := h1
    subst h
    exact h2
def Kk (e : Nat × Nat × Value) : Prop := match e.2.2 with
  | .int v => Cond.constant (on e.1) e.2.1 v ∈ tbg
  | .long v => Cond.constantLong (on e.1) e.2.1 v ∈ tbg
  | _ => False
theorem kk_0 : Kk (11, 191, .int (2147483647)) := tb_in (i := 444) (by decide +kernel) rfl
theorem kk_1 : Kk (26, 265, .int (1431655765)) := tb_in (i := 454) (by decide +kernel) rfl
theorem kk_2 : Kk (26, 266, .int (858993459)) := tb_in (i := 455) (by decide +kernel) rfl
theorem kk_3 : Kk (26, 267, .int (252645135)) := tb_in (i := 456) (by decide +kernel) rfl
theorem kk_4 : Kk (8, 131, .int (2147483647)) := tb_in (i := 805) (by decide +kernel) rfl
theorem kk_5 : Kk (12, 345, .int (2000000000)) := tb_in (i := 1373) (by decide +kernel) rfl
theorem kk_6 : Kk (11, 255, .long (-9223372036854775808)) := tb_in (i := 785) (by decide +kernel) rfl
theorem kk_7 : Kk (12, 376, .long (-9223372036854775808)) := tb_in (i := 1438) (by decide +kernel) rfl
theorem kk_8 : Kk (13, 144, .long (4294967295)) := tb_in (i := 1555) (by decide +kernel) rfl
theorem kk : ∀ e ∈ ktl, Kk e := List.forall_mem_cons.mpr ⟨kk_0, List.forall_mem_cons.mpr ⟨kk_1, List.forall_mem_cons.mpr ⟨kk_2, List.forall_mem_cons.mpr ⟨kk_3, List.forall_mem_cons.mpr ⟨kk_4, List.forall_mem_cons.mpr ⟨kk_5, List.forall_mem_cons.mpr ⟨kk_6, List.forall_mem_cons.mpr ⟨kk_7, List.forall_mem_cons.mpr ⟨kk_8, fun _ h => absurd h List.not_mem_nil⟩⟩⟩⟩⟩⟩⟩⟩⟩
theorem kres_ok {o i : Nat} {v : Value} (h : kres o i = some v) : Kk (o, i, v) := by
  unfold kres at h
  cases hf : ktl.find? (fun e => e.1 == o && e.2.1 == i) with
  | none => rw [hf] at h; cases h
  | some e =>
    rw [hf] at h
    have h1 := List.find?_some hf
    have h2 := kk e (List.mem_of_find?_eq_some hf)
    simp only [Bool.and_eq_true, beq_iff_eq] at h1
    obtain ⟨a, b, d⟩ := e
    simp only [Option.map_some, Option.some.injEq] at h
    simp only at h1
    obtain ⟨rfl, rfl⟩ := h1
    subst h
    exact h2
theorem sw_0 : Cond.fieldLink (on 20) 38 "java/lang/String" "COMPACT_STRINGS" "Z" ∈ tbg := tb_in (i := 557) (by decide +kernel) rfl
theorem sw_1 : Cond.fieldLink (on 20) 1053 "jdk/internal/util/Preconditions" "SIOOBE_FORMATTER" "Ljava/util/function/BiFunction;" ∈ tbg := tb_in (i := 573) (by decide +kernel) rfl
theorem sw_2 : Cond.fieldLink (on 11) 314 "PearSummer" "ABOVE" "[I" ∈ tbg := tb_in (i := 936) (by decide +kernel) rfl
theorem xw_9 : Cond.fieldLink (on 20) 9 "java/lang/String" "value" "[B" ∈ tbg := tb_in (i := 1566) (by decide +kernel) rfl
theorem xw_15 : Cond.fieldLink (on 20) 15 "java/lang/String" "coder" "B" ∈ tbg := tb_in (i := 1567) (by decide +kernel) rfl
theorem aw_int : Cond.arrayClass .int ∈ tbg := tb_in (i := 186) (by decide +kernel) rfl
theorem aw_byte : Cond.arrayClass .byte ∈ tbg := tb_in (i := 281) (by decide +kernel) rfl
theorem aw_char : Cond.arrayClass .char ∈ tbg := tb_in (i := 531) (by decide +kernel) rfl
theorem aw_boolean : Cond.arrayClass .boolean ∈ tbg := tb_in (i := 1188) (by decide +kernel) rfl
theorem aw_long : Cond.arrayClass .long ∈ tbg := tb_in (i := 325) (by decide +kernel) rfl
