-- each instruction by its place
theorem cd_Chances_part_0 : code_ 0 0 = some (.lload_n 0, 1, 0, 0, 0) := by decide +kernel
theorem cd_Chances_part_1 : code_ 0 1 = some (.lload_n 2, 2, 0, 0, 0) := by decide +kernel
theorem cd_Chances_part_2 : code_ 0 2 = some (.invokestatic 9, 5, 1, 0, 0) := by decide +kernel
theorem cd_Chances_part_5 : code_ 0 5 = some (.lstore 5, 7, 0, 0, 0) := by decide +kernel
theorem cd_Chances_part_7 : code_ 0 7 = some (.lload 5, 9, 0, 0, 0) := by decide +kernel
theorem cd_Chances_part_9 : code_ 0 9 = some (.lconst 0, 10, 0, 0, 0) := by decide +kernel
theorem cd_Chances_part_10 : code_ 0 10 = some (.lcmp, 11, 0, 0, 0) := by decide +kernel
theorem cd_Chances_part_11 : code_ 0 11 = some (.ifCond .ne 5, 14, 16, 0, 0) := by decide +kernel
theorem cd_Chances_part_14 : code_ 0 14 = some (.lconst 0, 15, 0, 0, 0) := by decide +kernel
theorem cd_Chances_part_15 : code_ 0 15 = some (.lreturn, 16, 0, 0, 0) := by decide +kernel
theorem cd_Chances_part_16 : code_ 0 16 = some (.iload 4, 18, 0, 0, 0) := by decide +kernel
theorem cd_Chances_part_18 : code_ 0 18 = some (.ifCond .ne 7, 21, 25, 0, 0) := by decide +kernel
theorem cd_Chances_part_21 : code_ 0 21 = some (.lload_n 0, 22, 0, 0, 0) := by decide +kernel
theorem cd_Chances_part_22 : code_ 0 22 = some (.goto 4, 25, 26, 0, 0) := by decide +kernel
theorem cd_Chances_part_25 : code_ 0 25 = some (.lload_n 2, 26, 0, 0, 0) := by decide +kernel
theorem cd_Chances_part_26 : code_ 0 26 = some (.lload 5, 28, 0, 0, 0) := by decide +kernel
theorem cd_Chances_part_28 : code_ 0 28 = some (.ldiv, 29, 0, 0, 0) := by decide +kernel
theorem cd_Chances_part_29 : code_ 0 29 = some (.lreturn, 30, 0, 0, 0) := by decide +kernel
theorem cd_Chances_commonDivisor_0 : code_ 1 0 = some (.lload_n 2, 1, 0, 0, 0) := by decide +kernel
theorem cd_Chances_commonDivisor_1 : code_ 1 1 = some (.lstore 4, 3, 0, 0, 0) := by decide +kernel
theorem cd_Chances_commonDivisor_3 : code_ 1 3 = some (.lload_n 0, 4, 0, 0, 0) := by decide +kernel
theorem cd_Chances_commonDivisor_4 : code_ 1 4 = some (.lstore 6, 6, 0, 0, 0) := by decide +kernel
theorem cd_Chances_commonDivisor_6 : code_ 1 6 = some (.iconst 0, 7, 0, 0, 0) := by decide +kernel
theorem cd_Chances_commonDivisor_7 : code_ 1 7 = some (.istore 8, 9, 0, 0, 0) := by decide +kernel
theorem cd_Chances_commonDivisor_9 : code_ 1 9 = some (.iload 8, 11, 0, 0, 0) := by decide +kernel
theorem cd_Chances_commonDivisor_11 : code_ 1 11 = some (.sipush 200, 14, 0, 0, 0) := by decide +kernel
theorem cd_Chances_commonDivisor_14 : code_ 1 14 = some (.if_icmp .ge 31, 17, 45, 0, 0) := by decide +kernel
theorem cd_Chances_commonDivisor_17 : code_ 1 17 = some (.lload 6, 19, 0, 0, 0) := by decide +kernel
theorem cd_Chances_commonDivisor_19 : code_ 1 19 = some (.lconst 0, 20, 0, 0, 0) := by decide +kernel
theorem cd_Chances_commonDivisor_20 : code_ 1 20 = some (.lcmp, 21, 0, 0, 0) := by decide +kernel
theorem cd_Chances_commonDivisor_21 : code_ 1 21 = some (.ifCond .eq 24, 24, 45, 0, 0) := by decide +kernel
theorem cd_Chances_commonDivisor_24 : code_ 1 24 = some (.lload 4, 26, 0, 0, 0) := by decide +kernel
theorem cd_Chances_commonDivisor_26 : code_ 1 26 = some (.lload 6, 28, 0, 0, 0) := by decide +kernel
theorem cd_Chances_commonDivisor_28 : code_ 1 28 = some (.lrem, 29, 0, 0, 0) := by decide +kernel
theorem cd_Chances_commonDivisor_29 : code_ 1 29 = some (.lstore 9, 31, 0, 0, 0) := by decide +kernel
theorem cd_Chances_commonDivisor_31 : code_ 1 31 = some (.lload 6, 33, 0, 0, 0) := by decide +kernel
theorem cd_Chances_commonDivisor_33 : code_ 1 33 = some (.lstore 4, 35, 0, 0, 0) := by decide +kernel
theorem cd_Chances_commonDivisor_35 : code_ 1 35 = some (.lload 9, 37, 0, 0, 0) := by decide +kernel
theorem cd_Chances_commonDivisor_37 : code_ 1 37 = some (.lstore 6, 39, 0, 0, 0) := by decide +kernel
theorem cd_Chances_commonDivisor_39 : code_ 1 39 = some (.iinc 8 1, 42, 0, 0, 0) := by decide +kernel
theorem cd_Chances_commonDivisor_42 : code_ 1 42 = some (.goto (-33), 45, 9, 0, 0) := by decide +kernel
theorem cd_Chances_commonDivisor_45 : code_ 1 45 = some (.lload 4, 47, 0, 0, 0) := by decide +kernel
theorem cd_Chances_commonDivisor_47 : code_ 1 47 = some (.lreturn, 48, 0, 0, 0) := by decide +kernel
theorem cd_Chances_mixed_0 : code_ 2 0 = some (.iload_n 0, 1, 0, 0, 0) := by decide +kernel
theorem cd_Chances_mixed_1 : code_ 2 1 = some (.iload_n 1, 2, 0, 0, 0) := by decide +kernel
theorem cd_Chances_mixed_2 : code_ 2 2 = some (.isub, 3, 0, 0, 0) := by decide +kernel
theorem cd_Chances_mixed_3 : code_ 2 3 = some (.iload_n 2, 4, 0, 0, 0) := by decide +kernel
theorem cd_Chances_mixed_4 : code_ 2 4 = some (.isub, 5, 0, 0, 0) := by decide +kernel
theorem cd_Chances_mixed_5 : code_ 2 5 = some (.iload_n 3, 6, 0, 0, 0) := by decide +kernel
theorem cd_Chances_mixed_6 : code_ 2 6 = some (.iadd, 7, 0, 0, 0) := by decide +kernel
theorem cd_Chances_mixed_7 : code_ 2 7 = some (.ifCond .ge 7, 10, 14, 0, 0) := by decide +kernel
theorem cd_Chances_mixed_10 : code_ 2 10 = some (.iconst 1, 11, 0, 0, 0) := by decide +kernel
theorem cd_Chances_mixed_11 : code_ 2 11 = some (.goto 4, 14, 15, 0, 0) := by decide +kernel
theorem cd_Chances_mixed_14 : code_ 2 14 = some (.iconst 0, 15, 0, 0, 0) := by decide +kernel
theorem cd_Chances_mixed_15 : code_ 2 15 = some (.istore 6, 17, 0, 0, 0) := by decide +kernel
theorem cd_Chances_mixed_17 : code_ 2 17 = some (.iload 6, 19, 0, 0, 0) := by decide +kernel
theorem cd_Chances_mixed_19 : code_ 2 19 = some (.ifCond .eq 17, 22, 36, 0, 0) := by decide +kernel
theorem cd_Chances_mixed_22 : code_ 2 22 = some (.iload_n 1, 23, 0, 0, 0) := by decide +kernel
theorem cd_Chances_mixed_23 : code_ 2 23 = some (.iload_n 0, 24, 0, 0, 0) := by decide +kernel
theorem cd_Chances_mixed_24 : code_ 2 24 = some (.iload_n 3, 25, 0, 0, 0) := by decide +kernel
theorem cd_Chances_mixed_25 : code_ 2 25 = some (.iload_n 2, 26, 0, 0, 0) := by decide +kernel
theorem cd_Chances_mixed_26 : code_ 2 26 = some (.iload 4, 28, 0, 0, 0) := by decide +kernel
theorem cd_Chances_mixed_28 : code_ 2 28 = some (.iload 5, 30, 0, 0, 0) := by decide +kernel
theorem cd_Chances_mixed_30 : code_ 2 30 = some (.invokestatic 15, 33, 3, 0, 0) := by decide +kernel
theorem cd_Chances_mixed_33 : code_ 2 33 = some (.goto 14, 36, 47, 0, 0) := by decide +kernel
theorem cd_Chances_mixed_36 : code_ 2 36 = some (.iload_n 0, 37, 0, 0, 0) := by decide +kernel
theorem cd_Chances_mixed_37 : code_ 2 37 = some (.iload_n 1, 38, 0, 0, 0) := by decide +kernel
theorem cd_Chances_mixed_38 : code_ 2 38 = some (.iload_n 2, 39, 0, 0, 0) := by decide +kernel
theorem cd_Chances_mixed_39 : code_ 2 39 = some (.iload_n 3, 40, 0, 0, 0) := by decide +kernel
theorem cd_Chances_mixed_40 : code_ 2 40 = some (.iload 4, 42, 0, 0, 0) := by decide +kernel
theorem cd_Chances_mixed_42 : code_ 2 42 = some (.iload 5, 44, 0, 0, 0) := by decide +kernel
theorem cd_Chances_mixed_44 : code_ 2 44 = some (.invokestatic 15, 47, 3, 0, 0) := by decide +kernel
theorem cd_Chances_mixed_47 : code_ 2 47 = some (.lreturn, 48, 0, 0, 0) := by decide +kernel
theorem cd_Chances_mixedInOrder_0 : code_ 3 0 = some (.iload_n 0, 1, 0, 0, 0) := by decide +kernel
theorem cd_Chances_mixedInOrder_1 : code_ 3 1 = some (.iload_n 1, 2, 0, 0, 0) := by decide +kernel
theorem cd_Chances_mixedInOrder_2 : code_ 3 2 = some (.invokestatic 19, 5, 214, 0, 0) := by decide +kernel
theorem cd_Chances_mixedInOrder_5 : code_ 3 5 = some (.istore 6, 7, 0, 0, 0) := by decide +kernel
theorem cd_Chances_mixedInOrder_7 : code_ 3 7 = some (.iload_n 2, 8, 0, 0, 0) := by decide +kernel
theorem cd_Chances_mixedInOrder_8 : code_ 3 8 = some (.iload_n 3, 9, 0, 0, 0) := by decide +kernel
theorem cd_Chances_mixedInOrder_9 : code_ 3 9 = some (.invokestatic 19, 12, 214, 0, 0) := by decide +kernel
theorem cd_Chances_mixedInOrder_12 : code_ 3 12 = some (.istore 7, 14, 0, 0, 0) := by decide +kernel
theorem cd_Chances_mixedInOrder_14 : code_ 3 14 = some (.iload 6, 16, 0, 0, 0) := by decide +kernel
theorem cd_Chances_mixedInOrder_16 : code_ 3 16 = some (.iload 7, 18, 0, 0, 0) := by decide +kernel
theorem cd_Chances_mixedInOrder_18 : code_ 3 18 = some (.invokestatic 25, 21, 213, 0, 0) := by decide +kernel
theorem cd_Chances_mixedInOrder_21 : code_ 3 21 = some (.istore 8, 23, 0, 0, 0) := by decide +kernel
theorem cd_Chances_mixedInOrder_23 : code_ 3 23 = some (.iload_n 0, 24, 0, 0, 0) := by decide +kernel
theorem cd_Chances_mixedInOrder_24 : code_ 3 24 = some (.iload_n 1, 25, 0, 0, 0) := by decide +kernel
theorem cd_Chances_mixedInOrder_25 : code_ 3 25 = some (.isub, 26, 0, 0, 0) := by decide +kernel
theorem cd_Chances_mixedInOrder_26 : code_ 3 26 = some (.iload_n 2, 27, 0, 0, 0) := by decide +kernel
theorem cd_Chances_mixedInOrder_27 : code_ 3 27 = some (.isub, 28, 0, 0, 0) := by decide +kernel
theorem cd_Chances_mixedInOrder_28 : code_ 3 28 = some (.iload_n 3, 29, 0, 0, 0) := by decide +kernel
theorem cd_Chances_mixedInOrder_29 : code_ 3 29 = some (.iadd, 30, 0, 0, 0) := by decide +kernel
theorem cd_Chances_mixedInOrder_30 : code_ 3 30 = some (.istore 9, 32, 0, 0, 0) := by decide +kernel
theorem cd_Chances_mixedInOrder_32 : code_ 3 32 = some (.iload_n 0, 33, 0, 0, 0) := by decide +kernel
theorem cd_Chances_mixedInOrder_33 : code_ 3 33 = some (.iload_n 3, 34, 0, 0, 0) := by decide +kernel
theorem cd_Chances_mixedInOrder_34 : code_ 3 34 = some (.imul, 35, 0, 0, 0) := by decide +kernel
theorem cd_Chances_mixedInOrder_35 : code_ 3 35 = some (.iload_n 1, 36, 0, 0, 0) := by decide +kernel
theorem cd_Chances_mixedInOrder_36 : code_ 3 36 = some (.iload_n 2, 37, 0, 0, 0) := by decide +kernel
theorem cd_Chances_mixedInOrder_37 : code_ 3 37 = some (.imul, 38, 0, 0, 0) := by decide +kernel
theorem cd_Chances_mixedInOrder_38 : code_ 3 38 = some (.isub, 39, 0, 0, 0) := by decide +kernel
theorem cd_Chances_mixedInOrder_39 : code_ 3 39 = some (.istore 10, 41, 0, 0, 0) := by decide +kernel
theorem cd_Chances_mixedInOrder_41 : code_ 3 41 = some (.iload_n 3, 42, 0, 0, 0) := by decide +kernel
theorem cd_Chances_mixedInOrder_42 : code_ 3 42 = some (.iload_n 2, 43, 0, 0, 0) := by decide +kernel
theorem cd_Chances_mixedInOrder_43 : code_ 3 43 = some (.isub, 44, 0, 0, 0) := by decide +kernel
theorem cd_Chances_mixedInOrder_44 : code_ 3 44 = some (.istore 11, 46, 0, 0, 0) := by decide +kernel
theorem cd_Chances_mixedInOrder_46 : code_ 3 46 = some (.iload 11, 48, 0, 0, 0) := by decide +kernel
theorem cd_Chances_mixedInOrder_48 : code_ 3 48 = some (.ifCond .le 24, 51, 72, 0, 0) := by decide +kernel
theorem cd_Chances_mixedInOrder_51 : code_ 3 51 = some (.iload 11, 53, 0, 0, 0) := by decide +kernel
theorem cd_Chances_mixedInOrder_53 : code_ 3 53 = some (.iload 9, 55, 0, 0, 0) := by decide +kernel
theorem cd_Chances_mixedInOrder_55 : code_ 3 55 = some (.if_icmp .ge 17, 58, 72, 0, 0) := by decide +kernel
theorem cd_Chances_mixedInOrder_58 : code_ 3 58 = some (.iload 10, 60, 0, 0, 0) := by decide +kernel
theorem cd_Chances_mixedInOrder_60 : code_ 3 60 = some (.iload 8, 62, 0, 0, 0) := by decide +kernel
theorem cd_Chances_mixedInOrder_62 : code_ 3 62 = some (.iload 9, 64, 0, 0, 0) := by decide +kernel
theorem cd_Chances_mixedInOrder_64 : code_ 3 64 = some (.imul, 65, 0, 0, 0) := by decide +kernel
theorem cd_Chances_mixedInOrder_65 : code_ 3 65 = some (.if_icmp .le 7, 68, 72, 0, 0) := by decide +kernel
theorem cd_Chances_mixedInOrder_68 : code_ 3 68 = some (.iconst 1, 69, 0, 0, 0) := by decide +kernel
theorem cd_Chances_mixedInOrder_69 : code_ 3 69 = some (.goto 4, 72, 73, 0, 0) := by decide +kernel
theorem cd_Chances_mixedInOrder_72 : code_ 3 72 = some (.iconst 0, 73, 0, 0, 0) := by decide +kernel
theorem cd_Chances_mixedInOrder_73 : code_ 3 73 = some (.istore 12, 75, 0, 0, 0) := by decide +kernel
theorem cd_Chances_mixedInOrder_75 : code_ 3 75 = some (.iload 4, 77, 0, 0, 0) := by decide +kernel
theorem cd_Chances_mixedInOrder_77 : code_ 3 77 = some (.ifCond .ne 37, 80, 114, 0, 0) := by decide +kernel
theorem cd_Chances_mixedInOrder_80 : code_ 3 80 = some (.iload 12, 82, 0, 0, 0) := by decide +kernel
theorem cd_Chances_mixedInOrder_82 : code_ 3 82 = some (.ifCond .eq 20, 85, 102, 0, 0) := by decide +kernel
theorem cd_Chances_mixedInOrder_85 : code_ 3 85 = some (.iload 10, 87, 0, 0, 0) := by decide +kernel
theorem cd_Chances_mixedInOrder_87 : code_ 3 87 = some (.i2l, 88, 0, 0, 0) := by decide +kernel
theorem cd_Chances_mixedInOrder_88 : code_ 3 88 = some (.bipush 10, 90, 0, 0, 0) := by decide +kernel
theorem cd_Chances_mixedInOrder_90 : code_ 3 90 = some (.iload 9, 92, 0, 0, 0) := by decide +kernel
theorem cd_Chances_mixedInOrder_92 : code_ 3 92 = some (.imul, 93, 0, 0, 0) := by decide +kernel
theorem cd_Chances_mixedInOrder_93 : code_ 3 93 = some (.i2l, 94, 0, 0, 0) := by decide +kernel
theorem cd_Chances_mixedInOrder_94 : code_ 3 94 = some (.iload 5, 96, 0, 0, 0) := by decide +kernel
theorem cd_Chances_mixedInOrder_96 : code_ 3 96 = some (.invokestatic 28, 99, 0, 0, 0) := by decide +kernel
theorem cd_Chances_mixedInOrder_99 : code_ 3 99 = some (.goto 14, 102, 113, 0, 0) := by decide +kernel
theorem cd_Chances_mixedInOrder_102 : code_ 3 102 = some (.iload 8, 104, 0, 0, 0) := by decide +kernel
theorem cd_Chances_mixedInOrder_104 : code_ 3 104 = some (.i2l, 105, 0, 0, 0) := by decide +kernel
theorem cd_Chances_mixedInOrder_105 : code_ 3 105 = some (.ldc2_w 32, 108, 0, 0, 10) := by decide +kernel
theorem cd_Chances_mixedInOrder_108 : code_ 3 108 = some (.iload 5, 110, 0, 0, 0) := by decide +kernel
theorem cd_Chances_mixedInOrder_110 : code_ 3 110 = some (.invokestatic 28, 113, 0, 0, 0) := by decide +kernel
theorem cd_Chances_mixedInOrder_113 : code_ 3 113 = some (.lreturn, 114, 0, 0, 0) := by decide +kernel
theorem cd_Chances_mixedInOrder_114 : code_ 3 114 = some (.iload 12, 116, 0, 0, 0) := by decide +kernel
theorem cd_Chances_mixedInOrder_116 : code_ 3 116 = some (.ifCond .eq 15, 119, 131, 0, 0) := by decide +kernel
theorem cd_Chances_mixedInOrder_119 : code_ 3 119 = some (.iload 11, 121, 0, 0, 0) := by decide +kernel
theorem cd_Chances_mixedInOrder_121 : code_ 3 121 = some (.i2l, 122, 0, 0, 0) := by decide +kernel
theorem cd_Chances_mixedInOrder_122 : code_ 3 122 = some (.iload 9, 124, 0, 0, 0) := by decide +kernel
theorem cd_Chances_mixedInOrder_124 : code_ 3 124 = some (.i2l, 125, 0, 0, 0) := by decide +kernel
theorem cd_Chances_mixedInOrder_125 : code_ 3 125 = some (.iload 5, 127, 0, 0, 0) := by decide +kernel
theorem cd_Chances_mixedInOrder_127 : code_ 3 127 = some (.invokestatic 28, 130, 0, 0, 0) := by decide +kernel
theorem cd_Chances_mixedInOrder_130 : code_ 3 130 = some (.lreturn, 131, 0, 0, 0) := by decide +kernel
theorem cd_Chances_mixedInOrder_131 : code_ 3 131 = some (.iload 6, 133, 0, 0, 0) := by decide +kernel
theorem cd_Chances_mixedInOrder_133 : code_ 3 133 = some (.iload 7, 135, 0, 0, 0) := by decide +kernel
theorem cd_Chances_mixedInOrder_135 : code_ 3 135 = some (.if_icmp .lt 7, 138, 142, 0, 0) := by decide +kernel
theorem cd_Chances_mixedInOrder_138 : code_ 3 138 = some (.lconst 1, 139, 0, 0, 0) := by decide +kernel
theorem cd_Chances_mixedInOrder_139 : code_ 3 139 = some (.goto 4, 142, 143, 0, 0) := by decide +kernel
theorem cd_Chances_mixedInOrder_142 : code_ 3 142 = some (.lconst 0, 143, 0, 0, 0) := by decide +kernel
theorem cd_Chances_mixedInOrder_143 : code_ 3 143 = some (.lconst 1, 144, 0, 0, 0) := by decide +kernel
theorem cd_Chances_mixedInOrder_144 : code_ 3 144 = some (.iload 5, 146, 0, 0, 0) := by decide +kernel
theorem cd_Chances_mixedInOrder_146 : code_ 3 146 = some (.invokestatic 28, 149, 0, 0, 0) := by decide +kernel
theorem cd_Chances_mixedInOrder_149 : code_ 3 149 = some (.lreturn, 150, 0, 0, 0) := by decide +kernel
theorem cd_Chances_isTheFirst_0 : code_ 4 0 = some (.iload_n 0, 1, 0, 0, 0) := by decide +kernel
theorem cd_Chances_isTheFirst_1 : code_ 4 1 = some (.iload_n 3, 2, 0, 0, 0) := by decide +kernel
theorem cd_Chances_isTheFirst_2 : code_ 4 2 = some (.invokestatic 34, 5, 6, 0, 0) := by decide +kernel
theorem cd_Chances_isTheFirst_5 : code_ 4 5 = some (.bipush 10, 7, 0, 0, 0) := by decide +kernel
theorem cd_Chances_isTheFirst_7 : code_ 4 7 = some (.iload_n 0, 8, 0, 0, 0) := by decide +kernel
theorem cd_Chances_isTheFirst_8 : code_ 4 8 = some (.isub, 9, 0, 0, 0) := by decide +kernel
theorem cd_Chances_isTheFirst_9 : code_ 4 9 = some (.iload_n 2, 10, 0, 0, 0) := by decide +kernel
theorem cd_Chances_isTheFirst_10 : code_ 4 10 = some (.iload_n 3, 11, 0, 0, 0) := by decide +kernel
theorem cd_Chances_isTheFirst_11 : code_ 4 11 = some (.isub, 12, 0, 0, 0) := by decide +kernel
theorem cd_Chances_isTheFirst_12 : code_ 4 12 = some (.invokestatic 34, 15, 6, 0, 0) := by decide +kernel
theorem cd_Chances_isTheFirst_15 : code_ 4 15 = some (.lmul, 16, 0, 0, 0) := by decide +kernel
theorem cd_Chances_isTheFirst_16 : code_ 4 16 = some (.lstore 5, 18, 0, 0, 0) := by decide +kernel
theorem cd_Chances_isTheFirst_18 : code_ 4 18 = some (.iload_n 1, 19, 0, 0, 0) := by decide +kernel
theorem cd_Chances_isTheFirst_19 : code_ 4 19 = some (.iload_n 3, 20, 0, 0, 0) := by decide +kernel
theorem cd_Chances_isTheFirst_20 : code_ 4 20 = some (.invokestatic 34, 23, 6, 0, 0) := by decide +kernel
theorem cd_Chances_isTheFirst_23 : code_ 4 23 = some (.bipush 10, 25, 0, 0, 0) := by decide +kernel
theorem cd_Chances_isTheFirst_25 : code_ 4 25 = some (.iload_n 1, 26, 0, 0, 0) := by decide +kernel
theorem cd_Chances_isTheFirst_26 : code_ 4 26 = some (.isub, 27, 0, 0, 0) := by decide +kernel
theorem cd_Chances_isTheFirst_27 : code_ 4 27 = some (.iload_n 2, 28, 0, 0, 0) := by decide +kernel
theorem cd_Chances_isTheFirst_28 : code_ 4 28 = some (.iload_n 3, 29, 0, 0, 0) := by decide +kernel
theorem cd_Chances_isTheFirst_29 : code_ 4 29 = some (.isub, 30, 0, 0, 0) := by decide +kernel
theorem cd_Chances_isTheFirst_30 : code_ 4 30 = some (.invokestatic 34, 33, 6, 0, 0) := by decide +kernel
theorem cd_Chances_isTheFirst_33 : code_ 4 33 = some (.lmul, 34, 0, 0, 0) := by decide +kernel
theorem cd_Chances_isTheFirst_34 : code_ 4 34 = some (.lstore 7, 36, 0, 0, 0) := by decide +kernel
theorem cd_Chances_isTheFirst_36 : code_ 4 36 = some (.lload 5, 38, 0, 0, 0) := by decide +kernel
theorem cd_Chances_isTheFirst_38 : code_ 4 38 = some (.lconst 0, 39, 0, 0, 0) := by decide +kernel
theorem cd_Chances_isTheFirst_39 : code_ 4 39 = some (.lcmp, 40, 0, 0, 0) := by decide +kernel
theorem cd_Chances_isTheFirst_40 : code_ 4 40 = some (.ifCond .ne 11, 43, 51, 0, 0) := by decide +kernel
theorem cd_Chances_isTheFirst_43 : code_ 4 43 = some (.lconst 0, 44, 0, 0, 0) := by decide +kernel
theorem cd_Chances_isTheFirst_44 : code_ 4 44 = some (.lconst 1, 45, 0, 0, 0) := by decide +kernel
theorem cd_Chances_isTheFirst_45 : code_ 4 45 = some (.iload 4, 47, 0, 0, 0) := by decide +kernel
theorem cd_Chances_isTheFirst_47 : code_ 4 47 = some (.invokestatic 28, 50, 0, 0, 0) := by decide +kernel
theorem cd_Chances_isTheFirst_50 : code_ 4 50 = some (.lreturn, 51, 0, 0, 0) := by decide +kernel
theorem cd_Chances_isTheFirst_51 : code_ 4 51 = some (.lload 5, 53, 0, 0, 0) := by decide +kernel
theorem cd_Chances_isTheFirst_53 : code_ 4 53 = some (.lload 5, 55, 0, 0, 0) := by decide +kernel
theorem cd_Chances_isTheFirst_55 : code_ 4 55 = some (.lload 7, 57, 0, 0, 0) := by decide +kernel
theorem cd_Chances_isTheFirst_57 : code_ 4 57 = some (.ladd, 58, 0, 0, 0) := by decide +kernel
theorem cd_Chances_isTheFirst_58 : code_ 4 58 = some (.iload 4, 60, 0, 0, 0) := by decide +kernel
theorem cd_Chances_isTheFirst_60 : code_ 4 60 = some (.invokestatic 28, 63, 0, 0, 0) := by decide +kernel
theorem cd_Chances_isTheFirst_63 : code_ 4 63 = some (.lreturn, 64, 0, 0, 0) := by decide +kernel
theorem cd_Chances_winsRace_0 : code_ 5 0 = some (.lconst 0, 1, 0, 0, 0) := by decide +kernel
theorem cd_Chances_winsRace_1 : code_ 5 1 = some (.lstore 4, 3, 0, 0, 0) := by decide +kernel
theorem cd_Chances_winsRace_3 : code_ 5 3 = some (.lconst 1, 4, 0, 0, 0) := by decide +kernel
theorem cd_Chances_winsRace_4 : code_ 5 4 = some (.lstore 6, 6, 0, 0, 0) := by decide +kernel
theorem cd_Chances_winsRace_6 : code_ 5 6 = some (.iconst 0, 7, 0, 0, 0) := by decide +kernel
theorem cd_Chances_winsRace_7 : code_ 5 7 = some (.istore 8, 9, 0, 0, 0) := by decide +kernel
theorem cd_Chances_winsRace_9 : code_ 5 9 = some (.iload 8, 11, 0, 0, 0) := by decide +kernel
theorem cd_Chances_winsRace_11 : code_ 5 11 = some (.iload_n 1, 12, 0, 0, 0) := by decide +kernel
theorem cd_Chances_winsRace_12 : code_ 5 12 = some (.if_icmp .ge 60, 15, 72, 0, 0) := by decide +kernel
theorem cd_Chances_winsRace_15 : code_ 5 15 = some (.lload 4, 17, 0, 0, 0) := by decide +kernel
theorem cd_Chances_winsRace_17 : code_ 5 17 = some (.lload 6, 19, 0, 0, 0) := by decide +kernel
theorem cd_Chances_winsRace_19 : code_ 5 19 = some (.iload_n 2, 20, 0, 0, 0) := by decide +kernel
theorem cd_Chances_winsRace_20 : code_ 5 20 = some (.iload_n 0, 21, 0, 0, 0) := by decide +kernel
theorem cd_Chances_winsRace_21 : code_ 5 21 = some (.invokestatic 34, 24, 6, 0, 0) := by decide +kernel
theorem cd_Chances_winsRace_24 : code_ 5 24 = some (.lmul, 25, 0, 0, 0) := by decide +kernel
theorem cd_Chances_winsRace_25 : code_ 5 25 = some (.bipush 10, 27, 0, 0, 0) := by decide +kernel
theorem cd_Chances_winsRace_27 : code_ 5 27 = some (.iload_n 2, 28, 0, 0, 0) := by decide +kernel
theorem cd_Chances_winsRace_28 : code_ 5 28 = some (.isub, 29, 0, 0, 0) := by decide +kernel
theorem cd_Chances_winsRace_29 : code_ 5 29 = some (.iload 8, 31, 0, 0, 0) := by decide +kernel
theorem cd_Chances_winsRace_31 : code_ 5 31 = some (.invokestatic 34, 34, 6, 0, 0) := by decide +kernel
theorem cd_Chances_winsRace_34 : code_ 5 34 = some (.lmul, 35, 0, 0, 0) := by decide +kernel
theorem cd_Chances_winsRace_35 : code_ 5 35 = some (.bipush 10, 37, 0, 0, 0) := by decide +kernel
theorem cd_Chances_winsRace_37 : code_ 5 37 = some (.iload_n 1, 38, 0, 0, 0) := by decide +kernel
theorem cd_Chances_winsRace_38 : code_ 5 38 = some (.iconst 1, 39, 0, 0, 0) := by decide +kernel
theorem cd_Chances_winsRace_39 : code_ 5 39 = some (.isub, 40, 0, 0, 0) := by decide +kernel
theorem cd_Chances_winsRace_40 : code_ 5 40 = some (.iload 8, 42, 0, 0, 0) := by decide +kernel
theorem cd_Chances_winsRace_42 : code_ 5 42 = some (.isub, 43, 0, 0, 0) := by decide +kernel
theorem cd_Chances_winsRace_43 : code_ 5 43 = some (.invokestatic 34, 46, 6, 0, 0) := by decide +kernel
theorem cd_Chances_winsRace_46 : code_ 5 46 = some (.lmul, 47, 0, 0, 0) := by decide +kernel
theorem cd_Chances_winsRace_47 : code_ 5 47 = some (.ladd, 48, 0, 0, 0) := by decide +kernel
theorem cd_Chances_winsRace_48 : code_ 5 48 = some (.lstore 4, 50, 0, 0, 0) := by decide +kernel
theorem cd_Chances_winsRace_50 : code_ 5 50 = some (.lload 6, 52, 0, 0, 0) := by decide +kernel
theorem cd_Chances_winsRace_52 : code_ 5 52 = some (.iload_n 0, 53, 0, 0, 0) := by decide +kernel
theorem cd_Chances_winsRace_53 : code_ 5 53 = some (.iload 8, 55, 0, 0, 0) := by decide +kernel
theorem cd_Chances_winsRace_55 : code_ 5 55 = some (.iadd, 56, 0, 0, 0) := by decide +kernel
theorem cd_Chances_winsRace_56 : code_ 5 56 = some (.i2l, 57, 0, 0, 0) := by decide +kernel
theorem cd_Chances_winsRace_57 : code_ 5 57 = some (.lmul, 58, 0, 0, 0) := by decide +kernel
theorem cd_Chances_winsRace_58 : code_ 5 58 = some (.iload 8, 60, 0, 0, 0) := by decide +kernel
theorem cd_Chances_winsRace_60 : code_ 5 60 = some (.iconst 1, 61, 0, 0, 0) := by decide +kernel
theorem cd_Chances_winsRace_61 : code_ 5 61 = some (.iadd, 62, 0, 0, 0) := by decide +kernel
theorem cd_Chances_winsRace_62 : code_ 5 62 = some (.i2l, 63, 0, 0, 0) := by decide +kernel
theorem cd_Chances_winsRace_63 : code_ 5 63 = some (.ldiv, 64, 0, 0, 0) := by decide +kernel
theorem cd_Chances_winsRace_64 : code_ 5 64 = some (.lstore 6, 66, 0, 0, 0) := by decide +kernel
theorem cd_Chances_winsRace_66 : code_ 5 66 = some (.iinc 8 1, 69, 0, 0, 0) := by decide +kernel
theorem cd_Chances_winsRace_69 : code_ 5 69 = some (.goto (-60), 72, 9, 0, 0) := by decide +kernel
theorem cd_Chances_winsRace_72 : code_ 5 72 = some (.lload 4, 74, 0, 0, 0) := by decide +kernel
theorem cd_Chances_winsRace_74 : code_ 5 74 = some (.bipush 10, 76, 0, 0, 0) := by decide +kernel
theorem cd_Chances_winsRace_76 : code_ 5 76 = some (.iload_n 0, 77, 0, 0, 0) := by decide +kernel
theorem cd_Chances_winsRace_77 : code_ 5 77 = some (.iload_n 1, 78, 0, 0, 0) := by decide +kernel
theorem cd_Chances_winsRace_78 : code_ 5 78 = some (.iadd, 79, 0, 0, 0) := by decide +kernel
theorem cd_Chances_winsRace_79 : code_ 5 79 = some (.iconst 1, 80, 0, 0, 0) := by decide +kernel
theorem cd_Chances_winsRace_80 : code_ 5 80 = some (.isub, 81, 0, 0, 0) := by decide +kernel
theorem cd_Chances_winsRace_81 : code_ 5 81 = some (.invokestatic 34, 84, 6, 0, 0) := by decide +kernel
theorem cd_Chances_winsRace_84 : code_ 5 84 = some (.iload_n 3, 85, 0, 0, 0) := by decide +kernel
theorem cd_Chances_winsRace_85 : code_ 5 85 = some (.invokestatic 28, 88, 0, 0, 0) := by decide +kernel
theorem cd_Chances_winsRace_88 : code_ 5 88 = some (.lreturn, 89, 0, 0, 0) := by decide +kernel
theorem cd_Chances_power_0 : code_ 6 0 = some (.lconst 1, 1, 0, 0, 0) := by decide +kernel
theorem cd_Chances_power_1 : code_ 6 1 = some (.lstore_n 2, 2, 0, 0, 0) := by decide +kernel
theorem cd_Chances_power_2 : code_ 6 2 = some (.iconst 0, 3, 0, 0, 0) := by decide +kernel
theorem cd_Chances_power_3 : code_ 6 3 = some (.istore 4, 5, 0, 0, 0) := by decide +kernel
theorem cd_Chances_power_5 : code_ 6 5 = some (.iload 4, 7, 0, 0, 0) := by decide +kernel
theorem cd_Chances_power_7 : code_ 6 7 = some (.iload_n 1, 8, 0, 0, 0) := by decide +kernel
theorem cd_Chances_power_8 : code_ 6 8 = some (.if_icmp .ge 14, 11, 22, 0, 0) := by decide +kernel
theorem cd_Chances_power_11 : code_ 6 11 = some (.lload_n 2, 12, 0, 0, 0) := by decide +kernel
theorem cd_Chances_power_12 : code_ 6 12 = some (.iload_n 0, 13, 0, 0, 0) := by decide +kernel
theorem cd_Chances_power_13 : code_ 6 13 = some (.i2l, 14, 0, 0, 0) := by decide +kernel
theorem cd_Chances_power_14 : code_ 6 14 = some (.lmul, 15, 0, 0, 0) := by decide +kernel
theorem cd_Chances_power_15 : code_ 6 15 = some (.lstore_n 2, 16, 0, 0, 0) := by decide +kernel
theorem cd_Chances_power_16 : code_ 6 16 = some (.iinc 4 1, 19, 0, 0, 0) := by decide +kernel
theorem cd_Chances_power_19 : code_ 6 19 = some (.goto (-14), 22, 5, 0, 0) := by decide +kernel
theorem cd_Chances_power_22 : code_ 6 22 = some (.lload_n 2, 23, 0, 0, 0) := by decide +kernel
theorem cd_Chances_power_23 : code_ 6 23 = some (.lreturn, 24, 0, 0, 0) := by decide +kernel
theorem cd_Defence_init_0 : code_ 7 0 = some (.aload_n 0, 1, 0, 0, 0) := by decide +kernel
theorem cd_Defence_init_1 : code_ 7 1 = some (.invokespecial 3, 4, 0, 5, 0) := by decide +kernel
theorem cd_Defence_init_4 : code_ 7 4 = some (.aload_n 0, 5, 0, 0, 0) := by decide +kernel
theorem cd_Defence_init_5 : code_ 7 5 = some (.new 9, 8, 6, 0, 0) := by decide +kernel
theorem cd_Defence_init_8 : code_ 7 8 = some (.dup, 9, 0, 0, 0) := by decide +kernel
theorem cd_Defence_init_9 : code_ 7 9 = some (.invokespecial 11, 12, 74, 2, 0) := by decide +kernel
theorem cd_Defence_init_12 : code_ 7 12 = some (.putfield 12, 15, 0, 0, 2) := by decide +kernel
theorem cd_Defence_init_15 : code_ 7 15 = some (.aload_n 0, 16, 0, 0, 0) := by decide +kernel
theorem cd_Defence_init_16 : code_ 7 16 = some (.bipush 41, 18, 0, 0, 0) := by decide +kernel
theorem cd_Defence_init_18 : code_ 7 18 = some (.newarray .int, 20, 0, 0, 0) := by decide +kernel
theorem cd_Defence_init_20 : code_ 7 20 = some (.putfield 18, 23, 0, 1, 2) := by decide +kernel
theorem cd_Defence_init_23 : code_ 7 23 = some (.return_, 24, 0, 0, 0) := by decide +kernel
theorem cd_Defence_letIn_0 : code_ 8 0 = some (.aload_n 0, 1, 0, 0, 0) := by decide +kernel
theorem cd_Defence_letIn_1 : code_ 8 1 = some (.getfield 22, 4, 0, 2, 0) := by decide +kernel
theorem cd_Defence_letIn_4 : code_ 8 4 = some (.ireturn, 5, 0, 0, 0) := by decide +kernel
theorem cd_Defence_slides_0 : code_ 9 0 = some (.aload_n 0, 1, 0, 0, 0) := by decide +kernel
theorem cd_Defence_slides_1 : code_ 9 1 = some (.getfield 26, 4, 0, 3, 0) := by decide +kernel
theorem cd_Defence_slides_4 : code_ 9 4 = some (.ireturn, 5, 0, 0, 0) := by decide +kernel
theorem cd_Defence_place_0 : code_ 10 0 = some (.aload_n 0, 1, 0, 0, 0) := by decide +kernel
theorem cd_Defence_place_1 : code_ 10 1 = some (.getfield 12, 4, 0, 0, 2) := by decide +kernel
theorem cd_Defence_place_4 : code_ 10 4 = some (.aload_n 1, 5, 0, 0, 0) := by decide +kernel
theorem cd_Defence_place_5 : code_ 10 5 = some (.invokevirtual 29, 8, 75, 1, 0) := by decide +kernel
theorem cd_Defence_place_8 : code_ 10 8 = some (.iconst 1, 9, 0, 0, 0) := by decide +kernel
theorem cd_Defence_place_9 : code_ 10 9 = some (.aload_n 0, 10, 0, 0, 0) := by decide +kernel
theorem cd_Defence_place_10 : code_ 10 10 = some (.getfield 12, 13, 0, 0, 2) := by decide +kernel
theorem cd_Defence_place_13 : code_ 10 13 = some (.invokevirtual 33, 16, 87, 1, 0) := by decide +kernel
theorem cd_Defence_place_16 : code_ 10 16 = some (.invokestatic 37, 19, 54, 0, 0) := by decide +kernel
theorem cd_Defence_place_19 : code_ 10 19 = some (.isub, 20, 0, 0, 0) := by decide +kernel
theorem cd_Defence_place_20 : code_ 10 20 = some (.istore_n 2, 21, 0, 0, 0) := by decide +kernel
theorem cd_Defence_place_21 : code_ 10 21 = some (.iload_n 2, 22, 0, 0, 0) := by decide +kernel
theorem cd_Defence_place_22 : code_ 10 22 = some (.invokestatic 43, 25, 59, 0, 0) := by decide +kernel
theorem cd_Defence_place_25 : code_ 10 25 = some (.istore_n 3, 26, 0, 0, 0) := by decide +kernel
theorem cd_Defence_place_26 : code_ 10 26 = some (.iload_n 2, 27, 0, 0, 0) := by decide +kernel
theorem cd_Defence_place_27 : code_ 10 27 = some (.invokestatic 46, 30, 60, 0, 0) := by decide +kernel
theorem cd_Defence_place_30 : code_ 10 30 = some (.istore 4, 32, 0, 0, 0) := by decide +kernel
theorem cd_Defence_place_32 : code_ 10 32 = some (.aload_n 0, 33, 0, 0, 0) := by decide +kernel
theorem cd_Defence_place_33 : code_ 10 33 = some (.iload_n 2, 34, 0, 0, 0) := by decide +kernel
theorem cd_Defence_place_34 : code_ 10 34 = some (.invokevirtual 49, 37, 11, 1, 0) := by decide +kernel
theorem cd_Defence_place_37 : code_ 10 37 = some (.istore 5, 39, 0, 0, 0) := by decide +kernel
theorem cd_Defence_place_39 : code_ 10 39 = some (.iload 4, 41, 0, 0, 0) := by decide +kernel
theorem cd_Defence_place_41 : code_ 10 41 = some (.invokestatic 52, 44, 57, 0, 0) := by decide +kernel
theorem cd_Defence_place_44 : code_ 10 44 = some (.istore 6, 46, 0, 0, 0) := by decide +kernel
theorem cd_Defence_place_46 : code_ 10 46 = some (.iconst 0, 47, 0, 0, 0) := by decide +kernel
theorem cd_Defence_place_47 : code_ 10 47 = some (.istore 7, 49, 0, 0, 0) := by decide +kernel
theorem cd_Defence_place_49 : code_ 10 49 = some (.iload 7, 51, 0, 0, 0) := by decide +kernel
theorem cd_Defence_place_51 : code_ 10 51 = some (.iload 6, 53, 0, 0, 0) := by decide +kernel
theorem cd_Defence_place_53 : code_ 10 53 = some (.if_icmp .gt 49, 56, 102, 0, 0) := by decide +kernel
theorem cd_Defence_place_56 : code_ 10 56 = some (.iload 7, 58, 0, 0, 0) := by decide +kernel
theorem cd_Defence_place_58 : code_ 10 58 = some (.aload_n 0, 59, 0, 0, 0) := by decide +kernel
theorem cd_Defence_place_59 : code_ 10 59 = some (.getfield 18, 62, 0, 1, 2) := by decide +kernel
theorem cd_Defence_place_62 : code_ 10 62 = some (.arraylength, 63, 0, 0, 0) := by decide +kernel
theorem cd_Defence_place_63 : code_ 10 63 = some (.if_icmp .ge 39, 66, 102, 0, 0) := by decide +kernel
theorem cd_Defence_place_66 : code_ 10 66 = some (.aload_n 0, 67, 0, 0, 0) := by decide +kernel
theorem cd_Defence_place_67 : code_ 10 67 = some (.getfield 12, 70, 0, 0, 2) := by decide +kernel
theorem cd_Defence_place_70 : code_ 10 70 = some (.iload 4, 72, 0, 0, 0) := by decide +kernel
theorem cd_Defence_place_72 : code_ 10 72 = some (.iload 7, 74, 0, 0, 0) := by decide +kernel
theorem cd_Defence_place_74 : code_ 10 74 = some (.invokevirtual 55, 77, 77, 1, 0) := by decide +kernel
theorem cd_Defence_place_77 : code_ 10 77 = some (.aload_n 0, 78, 0, 0, 0) := by decide +kernel
theorem cd_Defence_place_78 : code_ 10 78 = some (.getfield 18, 81, 0, 1, 2) := by decide +kernel
theorem cd_Defence_place_81 : code_ 10 81 = some (.iload 7, 83, 0, 0, 0) := by decide +kernel
theorem cd_Defence_place_83 : code_ 10 83 = some (.iload 5, 85, 0, 0, 0) := by decide +kernel
theorem cd_Defence_place_85 : code_ 10 85 = some (.aload_n 0, 86, 0, 0, 0) := by decide +kernel
theorem cd_Defence_place_86 : code_ 10 86 = some (.getfield 12, 89, 0, 0, 2) := by decide +kernel
theorem cd_Defence_place_89 : code_ 10 89 = some (.iload 4, 91, 0, 0, 0) := by decide +kernel
theorem cd_Defence_place_91 : code_ 10 91 = some (.invokevirtual 59, 94, 99, 1, 0) := by decide +kernel
theorem cd_Defence_place_94 : code_ 10 94 = some (.iand, 95, 0, 0, 0) := by decide +kernel
theorem cd_Defence_place_95 : code_ 10 95 = some (.iastore, 96, 0, 0, 0) := by decide +kernel
theorem cd_Defence_place_96 : code_ 10 96 = some (.iinc 7 1, 99, 0, 0, 0) := by decide +kernel
theorem cd_Defence_place_99 : code_ 10 99 = some (.goto (-50), 102, 49, 0, 0) := by decide +kernel
theorem cd_Defence_place_102 : code_ 10 102 = some (.aload_n 0, 103, 0, 0, 0) := by decide +kernel
theorem cd_Defence_place_103 : code_ 10 103 = some (.bipush 20, 105, 0, 0, 0) := by decide +kernel
theorem cd_Defence_place_105 : code_ 10 105 = some (.putfield 22, 108, 0, 2, 0) := by decide +kernel
theorem cd_Defence_place_108 : code_ 10 108 = some (.iconst 0, 109, 0, 0, 0) := by decide +kernel
theorem cd_Defence_place_109 : code_ 10 109 = some (.istore 7, 111, 0, 0, 0) := by decide +kernel
theorem cd_Defence_place_111 : code_ 10 111 = some (.iload 7, 113, 0, 0, 0) := by decide +kernel
theorem cd_Defence_place_113 : code_ 10 113 = some (.iload_n 3, 114, 0, 0, 0) := by decide +kernel
theorem cd_Defence_place_114 : code_ 10 114 = some (.invokestatic 52, 117, 57, 0, 0) := by decide +kernel
theorem cd_Defence_place_117 : code_ 10 117 = some (.if_icmp .gt 35, 120, 152, 0, 0) := by decide +kernel
theorem cd_Defence_place_120 : code_ 10 120 = some (.aload_n 0, 121, 0, 0, 0) := by decide +kernel
theorem cd_Defence_place_121 : code_ 10 121 = some (.getfield 12, 124, 0, 0, 2) := by decide +kernel
theorem cd_Defence_place_124 : code_ 10 124 = some (.iload_n 3, 125, 0, 0, 0) := by decide +kernel
theorem cd_Defence_place_125 : code_ 10 125 = some (.iload 7, 127, 0, 0, 0) := by decide +kernel
theorem cd_Defence_place_127 : code_ 10 127 = some (.invokevirtual 55, 130, 77, 1, 0) := by decide +kernel
theorem cd_Defence_place_130 : code_ 10 130 = some (.aload_n 0, 131, 0, 0, 0) := by decide +kernel
theorem cd_Defence_place_131 : code_ 10 131 = some (.iload 7, 133, 0, 0, 0) := by decide +kernel
theorem cd_Defence_place_133 : code_ 10 133 = some (.aload_n 0, 134, 0, 0, 0) := by decide +kernel
theorem cd_Defence_place_134 : code_ 10 134 = some (.getfield 12, 137, 0, 0, 2) := by decide +kernel
theorem cd_Defence_place_137 : code_ 10 137 = some (.iload_n 3, 138, 0, 0, 0) := by decide +kernel
theorem cd_Defence_place_138 : code_ 10 138 = some (.invokevirtual 59, 141, 99, 1, 0) := by decide +kernel
theorem cd_Defence_place_141 : code_ 10 141 = some (.iload 6, 143, 0, 0, 0) := by decide +kernel
theorem cd_Defence_place_143 : code_ 10 143 = some (.invokevirtual 62, 146, 12, 1, 0) := by decide +kernel
theorem cd_Defence_place_146 : code_ 10 146 = some (.iinc 7 1, 149, 0, 0, 0) := by decide +kernel
theorem cd_Defence_place_149 : code_ 10 149 = some (.goto (-38), 152, 111, 0, 0) := by decide +kernel
theorem cd_Defence_place_152 : code_ 10 152 = some (.return_, 153, 0, 0, 0) := by decide +kernel
theorem cd_Defence_shotsPastOthers_0 : code_ 11 0 = some (.aload_n 0, 1, 0, 0, 0) := by decide +kernel
theorem cd_Defence_shotsPastOthers_1 : code_ 11 1 = some (.getfield 12, 4, 0, 0, 2) := by decide +kernel
theorem cd_Defence_shotsPastOthers_4 : code_ 11 4 = some (.invokevirtual 66, 7, 98, 1, 0) := by decide +kernel
theorem cd_Defence_shotsPastOthers_7 : code_ 11 7 = some (.istore_n 2, 8, 0, 0, 0) := by decide +kernel
theorem cd_Defence_shotsPastOthers_8 : code_ 11 8 = some (.iconst 1, 9, 0, 0, 0) := by decide +kernel
theorem cd_Defence_shotsPastOthers_9 : code_ 11 9 = some (.iload_n 1, 10, 0, 0, 0) := by decide +kernel
theorem cd_Defence_shotsPastOthers_10 : code_ 11 10 = some (.isub, 11, 0, 0, 0) := by decide +kernel
theorem cd_Defence_shotsPastOthers_11 : code_ 11 11 = some (.invokestatic 69, 14, 61, 0, 0) := by decide +kernel
theorem cd_Defence_shotsPastOthers_14 : code_ 11 14 = some (.istore_n 3, 15, 0, 0, 0) := by decide +kernel
theorem cd_Defence_shotsPastOthers_15 : code_ 11 15 = some (.iconst 1, 16, 0, 0, 0) := by decide +kernel
theorem cd_Defence_shotsPastOthers_16 : code_ 11 16 = some (.istore 4, 18, 0, 0, 0) := by decide +kernel
theorem cd_Defence_shotsPastOthers_18 : code_ 11 18 = some (.iload 4, 20, 0, 0, 0) := by decide +kernel
theorem cd_Defence_shotsPastOthers_20 : code_ 11 20 = some (.bipush 8, 22, 0, 0, 0) := by decide +kernel
theorem cd_Defence_shotsPastOthers_22 : code_ 11 22 = some (.if_icmp .ge 74, 25, 96, 0, 0) := by decide +kernel
theorem cd_Defence_shotsPastOthers_25 : code_ 11 25 = some (.aload_n 0, 26, 0, 0, 0) := by decide +kernel
theorem cd_Defence_shotsPastOthers_26 : code_ 11 26 = some (.getfield 12, 29, 0, 0, 2) := by decide +kernel
theorem cd_Defence_shotsPastOthers_29 : code_ 11 29 = some (.invokevirtual 33, 32, 87, 1, 0) := by decide +kernel
theorem cd_Defence_shotsPastOthers_32 : code_ 11 32 = some (.iload 4, 34, 0, 0, 0) := by decide +kernel
theorem cd_Defence_shotsPastOthers_34 : code_ 11 34 = some (.iload_n 3, 35, 0, 0, 0) := by decide +kernel
theorem cd_Defence_shotsPastOthers_35 : code_ 11 35 = some (.imul, 36, 0, 0, 0) := by decide +kernel
theorem cd_Defence_shotsPastOthers_36 : code_ 11 36 = some (.iadd, 37, 0, 0, 0) := by decide +kernel
theorem cd_Defence_shotsPastOthers_37 : code_ 11 37 = some (.istore 5, 39, 0, 0, 0) := by decide +kernel
theorem cd_Defence_shotsPastOthers_39 : code_ 11 39 = some (.iload 5, 41, 0, 0, 0) := by decide +kernel
theorem cd_Defence_shotsPastOthers_41 : code_ 11 41 = some (.iload_n 1, 42, 0, 0, 0) := by decide +kernel
theorem cd_Defence_shotsPastOthers_42 : code_ 11 42 = some (.invokestatic 43, 45, 59, 0, 0) := by decide +kernel
theorem cd_Defence_shotsPastOthers_45 : code_ 11 45 = some (.if_icmp .eq 12, 48, 57, 0, 0) := by decide +kernel
theorem cd_Defence_shotsPastOthers_48 : code_ 11 48 = some (.iload 5, 50, 0, 0, 0) := by decide +kernel
theorem cd_Defence_shotsPastOthers_50 : code_ 11 50 = some (.iload_n 1, 51, 0, 0, 0) := by decide +kernel
theorem cd_Defence_shotsPastOthers_51 : code_ 11 51 = some (.invokestatic 46, 54, 60, 0, 0) := by decide +kernel
theorem cd_Defence_shotsPastOthers_54 : code_ 11 54 = some (.if_icmp .ne 7, 57, 61, 0, 0) := by decide +kernel
theorem cd_Defence_shotsPastOthers_57 : code_ 11 57 = some (.iconst 1, 58, 0, 0, 0) := by decide +kernel
theorem cd_Defence_shotsPastOthers_58 : code_ 11 58 = some (.goto 4, 61, 62, 0, 0) := by decide +kernel
theorem cd_Defence_shotsPastOthers_61 : code_ 11 61 = some (.iconst 0, 62, 0, 0, 0) := by decide +kernel
theorem cd_Defence_shotsPastOthers_62 : code_ 11 62 = some (.istore 6, 64, 0, 0, 0) := by decide +kernel
theorem cd_Defence_shotsPastOthers_64 : code_ 11 64 = some (.iload 5, 66, 0, 0, 0) := by decide +kernel
theorem cd_Defence_shotsPastOthers_66 : code_ 11 66 = some (.iload_n 1, 67, 0, 0, 0) := by decide +kernel
theorem cd_Defence_shotsPastOthers_67 : code_ 11 67 = some (.invokestatic 72, 70, 58, 0, 0) := by decide +kernel
theorem cd_Defence_shotsPastOthers_70 : code_ 11 70 = some (.ifCond .eq 20, 73, 90, 0, 0) := by decide +kernel
theorem cd_Defence_shotsPastOthers_73 : code_ 11 73 = some (.iload 6, 75, 0, 0, 0) := by decide +kernel
theorem cd_Defence_shotsPastOthers_75 : code_ 11 75 = some (.ifCond .ne 15, 78, 90, 0, 0) := by decide +kernel
theorem cd_Defence_shotsPastOthers_78 : code_ 11 78 = some (.iload_n 2, 79, 0, 0, 0) := by decide +kernel
theorem cd_Defence_shotsPastOthers_79 : code_ 11 79 = some (.aload_n 0, 80, 0, 0, 0) := by decide +kernel
theorem cd_Defence_shotsPastOthers_80 : code_ 11 80 = some (.getfield 12, 83, 0, 0, 2) := by decide +kernel
theorem cd_Defence_shotsPastOthers_83 : code_ 11 83 = some (.iload 5, 85, 0, 0, 0) := by decide +kernel
theorem cd_Defence_shotsPastOthers_85 : code_ 11 85 = some (.invokevirtual 59, 88, 99, 1, 0) := by decide +kernel
theorem cd_Defence_shotsPastOthers_88 : code_ 11 88 = some (.iand, 89, 0, 0, 0) := by decide +kernel
theorem cd_Defence_shotsPastOthers_89 : code_ 11 89 = some (.istore_n 2, 90, 0, 0, 0) := by decide +kernel
theorem cd_Defence_shotsPastOthers_90 : code_ 11 90 = some (.iinc 4 1, 93, 0, 0, 0) := by decide +kernel
theorem cd_Defence_shotsPastOthers_93 : code_ 11 93 = some (.goto (-75), 96, 18, 0, 0) := by decide +kernel
theorem cd_Defence_shotsPastOthers_96 : code_ 11 96 = some (.iload_n 2, 97, 0, 0, 0) := by decide +kernel
theorem cd_Defence_shotsPastOthers_97 : code_ 11 97 = some (.ireturn, 98, 0, 0, 0) := by decide +kernel
theorem cd_Defence_tryKeeper_0 : code_ 12 0 = some (.iconst 0, 1, 0, 0, 0) := by decide +kernel
theorem cd_Defence_tryKeeper_1 : code_ 12 1 = some (.istore 4, 3, 0, 0, 0) := by decide +kernel
theorem cd_Defence_tryKeeper_3 : code_ 12 3 = some (.iload 4, 5, 0, 0, 0) := by decide +kernel
theorem cd_Defence_tryKeeper_5 : code_ 12 5 = some (.iload_n 3, 6, 0, 0, 0) := by decide +kernel
theorem cd_Defence_tryKeeper_6 : code_ 12 6 = some (.if_icmp .gt 59, 9, 65, 0, 0) := by decide +kernel
theorem cd_Defence_tryKeeper_9 : code_ 12 9 = some (.iload 4, 11, 0, 0, 0) := by decide +kernel
theorem cd_Defence_tryKeeper_11 : code_ 12 11 = some (.aload_n 0, 12, 0, 0, 0) := by decide +kernel
theorem cd_Defence_tryKeeper_12 : code_ 12 12 = some (.getfield 18, 15, 0, 1, 2) := by decide +kernel
theorem cd_Defence_tryKeeper_15 : code_ 12 15 = some (.arraylength, 16, 0, 0, 0) := by decide +kernel
theorem cd_Defence_tryKeeper_16 : code_ 12 16 = some (.if_icmp .ge 49, 19, 65, 0, 0) := by decide +kernel
theorem cd_Defence_tryKeeper_19 : code_ 12 19 = some (.aload_n 0, 20, 0, 0, 0) := by decide +kernel
theorem cd_Defence_tryKeeper_20 : code_ 12 20 = some (.getfield 18, 23, 0, 1, 2) := by decide +kernel
theorem cd_Defence_tryKeeper_23 : code_ 12 23 = some (.iload 4, 25, 0, 0, 0) := by decide +kernel
theorem cd_Defence_tryKeeper_25 : code_ 12 25 = some (.iaload, 26, 0, 0, 0) := by decide +kernel
theorem cd_Defence_tryKeeper_26 : code_ 12 26 = some (.iload_n 2, 27, 0, 0, 0) := by decide +kernel
theorem cd_Defence_tryKeeper_27 : code_ 12 27 = some (.iand, 28, 0, 0, 0) := by decide +kernel
theorem cd_Defence_tryKeeper_28 : code_ 12 28 = some (.invokestatic 76, 31, 210, 0, 0) := by decide +kernel
theorem cd_Defence_tryKeeper_31 : code_ 12 31 = some (.istore 5, 33, 0, 0, 0) := by decide +kernel
theorem cd_Defence_tryKeeper_33 : code_ 12 33 = some (.iload 5, 35, 0, 0, 0) := by decide +kernel
theorem cd_Defence_tryKeeper_35 : code_ 12 35 = some (.aload_n 0, 36, 0, 0, 0) := by decide +kernel
theorem cd_Defence_tryKeeper_36 : code_ 12 36 = some (.getfield 22, 39, 0, 2, 0) := by decide +kernel
theorem cd_Defence_tryKeeper_39 : code_ 12 39 = some (.if_icmp .ge 20, 42, 59, 0, 0) := by decide +kernel
theorem cd_Defence_tryKeeper_42 : code_ 12 42 = some (.aload_n 0, 43, 0, 0, 0) := by decide +kernel
theorem cd_Defence_tryKeeper_43 : code_ 12 43 = some (.iload 5, 45, 0, 0, 0) := by decide +kernel
theorem cd_Defence_tryKeeper_45 : code_ 12 45 = some (.putfield 22, 48, 0, 2, 0) := by decide +kernel
theorem cd_Defence_tryKeeper_48 : code_ 12 48 = some (.aload_n 0, 49, 0, 0, 0) := by decide +kernel
theorem cd_Defence_tryKeeper_49 : code_ 12 49 = some (.bipush 100, 51, 0, 0, 0) := by decide +kernel
theorem cd_Defence_tryKeeper_51 : code_ 12 51 = some (.iload_n 1, 52, 0, 0, 0) := by decide +kernel
theorem cd_Defence_tryKeeper_52 : code_ 12 52 = some (.imul, 53, 0, 0, 0) := by decide +kernel
theorem cd_Defence_tryKeeper_53 : code_ 12 53 = some (.iload 4, 55, 0, 0, 0) := by decide +kernel
theorem cd_Defence_tryKeeper_55 : code_ 12 55 = some (.iadd, 56, 0, 0, 0) := by decide +kernel
theorem cd_Defence_tryKeeper_56 : code_ 12 56 = some (.putfield 26, 59, 0, 3, 0) := by decide +kernel
theorem cd_Defence_tryKeeper_59 : code_ 12 59 = some (.iinc 4 1, 62, 0, 0, 0) := by decide +kernel
theorem cd_Defence_tryKeeper_62 : code_ 12 62 = some (.goto (-59), 65, 3, 0, 0) := by decide +kernel
theorem cd_Defence_tryKeeper_65 : code_ 12 65 = some (.return_, 66, 0, 0, 0) := by decide +kernel
theorem cd_Evening_init_0 : code_ 13 0 = some (.aload_n 0, 1, 0, 0, 0) := by decide +kernel
theorem cd_Evening_init_1 : code_ 13 1 = some (.invokespecial 3, 4, 0, 5, 0) := by decide +kernel
theorem cd_Evening_init_4 : code_ 13 4 = some (.aload_n 0, 5, 0, 0, 0) := by decide +kernel
theorem cd_Evening_init_5 : code_ 13 5 = some (.new 9, 8, 6, 0, 0) := by decide +kernel
theorem cd_Evening_init_8 : code_ 13 8 = some (.dup, 9, 0, 0, 0) := by decide +kernel
theorem cd_Evening_init_9 : code_ 13 9 = some (.invokespecial 11, 12, 74, 2, 0) := by decide +kernel
theorem cd_Evening_init_12 : code_ 13 12 = some (.putfield 12, 15, 1, 0, 2) := by decide +kernel
theorem cd_Evening_init_15 : code_ 13 15 = some (.return_, 16, 0, 0, 0) := by decide +kernel
theorem cd_Evening_table_0 : code_ 14 0 = some (.aload_n 0, 1, 0, 0, 0) := by decide +kernel
theorem cd_Evening_table_1 : code_ 14 1 = some (.getfield 12, 4, 1, 0, 2) := by decide +kernel
theorem cd_Evening_table_4 : code_ 14 4 = some (.areturn, 5, 0, 0, 0) := by decide +kernel
theorem cd_Evening_acts_0 : code_ 15 0 = some (.aload_n 0, 1, 0, 0, 0) := by decide +kernel
theorem cd_Evening_acts_1 : code_ 15 1 = some (.getfield 18, 4, 1, 1, 0) := by decide +kernel
theorem cd_Evening_acts_4 : code_ 15 4 = some (.ireturn, 5, 0, 0, 0) := by decide +kernel
theorem cd_Evening_stoppedAt_0 : code_ 16 0 = some (.aload_n 0, 1, 0, 0, 0) := by decide +kernel
theorem cd_Evening_stoppedAt_1 : code_ 16 1 = some (.getfield 22, 4, 1, 2, 0) := by decide +kernel
theorem cd_Evening_stoppedAt_4 : code_ 16 4 = some (.ireturn, 5, 0, 0, 0) := by decide +kernel
theorem cd_Evening_reason_0 : code_ 17 0 = some (.aload_n 0, 1, 0, 0, 0) := by decide +kernel
theorem cd_Evening_reason_1 : code_ 17 1 = some (.getfield 25, 4, 1, 3, 0) := by decide +kernel
theorem cd_Evening_reason_4 : code_ 17 4 = some (.ireturn, 5, 0, 0, 0) := by decide +kernel
theorem cd_Evening_firstGoal_0 : code_ 18 0 = some (.aload_n 0, 1, 0, 0, 0) := by decide +kernel
theorem cd_Evening_firstGoal_1 : code_ 18 1 = some (.getfield 28, 4, 1, 4, 0) := by decide +kernel
theorem cd_Evening_firstGoal_4 : code_ 18 4 = some (.ireturn, 5, 0, 0, 0) := by decide +kernel
theorem cd_Evening_play_0 : code_ 19 0 = some (.aload_n 0, 1, 0, 0, 0) := by decide +kernel
theorem cd_Evening_play_1 : code_ 19 1 = some (.iconst 0, 2, 0, 0, 0) := by decide +kernel
theorem cd_Evening_play_2 : code_ 19 2 = some (.putfield 18, 5, 1, 1, 0) := by decide +kernel
theorem cd_Evening_play_5 : code_ 19 5 = some (.aload_n 0, 6, 0, 0, 0) := by decide +kernel
theorem cd_Evening_play_6 : code_ 19 6 = some (.bipush (-6), 8, 0, 0, 0) := by decide +kernel
theorem cd_Evening_play_8 : code_ 19 8 = some (.putfield 22, 11, 1, 2, 0) := by decide +kernel
theorem cd_Evening_play_11 : code_ 19 11 = some (.aload_n 0, 12, 0, 0, 0) := by decide +kernel
theorem cd_Evening_play_12 : code_ 19 12 = some (.bipush (-6), 14, 0, 0, 0) := by decide +kernel
theorem cd_Evening_play_14 : code_ 19 14 = some (.putfield 25, 17, 1, 3, 0) := by decide +kernel
theorem cd_Evening_play_17 : code_ 19 17 = some (.aload_n 0, 18, 0, 0, 0) := by decide +kernel
theorem cd_Evening_play_18 : code_ 19 18 = some (.bipush (-6), 20, 0, 0, 0) := by decide +kernel
theorem cd_Evening_play_20 : code_ 19 20 = some (.putfield 28, 23, 1, 4, 0) := by decide +kernel
theorem cd_Evening_play_23 : code_ 19 23 = some (.aload_n 1, 24, 0, 0, 0) := by decide +kernel
theorem cd_Evening_play_24 : code_ 19 24 = some (.ifnull 7, 27, 31, 0, 0) := by decide +kernel
theorem cd_Evening_play_27 : code_ 19 27 = some (.aload_n 2, 28, 0, 0, 0) := by decide +kernel
theorem cd_Evening_play_28 : code_ 19 28 = some (.ifnonnull 4, 31, 32, 0, 0) := by decide +kernel
theorem cd_Evening_play_31 : code_ 19 31 = some (.return_, 32, 0, 0, 0) := by decide +kernel
theorem cd_Evening_play_32 : code_ 19 32 = some (.aload_n 0, 33, 0, 0, 0) := by decide +kernel
theorem cd_Evening_play_33 : code_ 19 33 = some (.getfield 12, 36, 1, 0, 2) := by decide +kernel
theorem cd_Evening_play_36 : code_ 19 36 = some (.aload_n 1, 37, 0, 0, 0) := by decide +kernel
theorem cd_Evening_play_37 : code_ 19 37 = some (.invokevirtual 31, 40, 75, 1, 0) := by decide +kernel
theorem cd_Evening_play_40 : code_ 19 40 = some (.aload_n 2, 41, 0, 0, 0) := by decide +kernel
theorem cd_Evening_play_41 : code_ 19 41 = some (.invokevirtual 35, 44, 32, 1, 0) := by decide +kernel
theorem cd_Evening_play_44 : code_ 19 44 = some (.iconst 0, 45, 0, 0, 0) := by decide +kernel
theorem cd_Evening_play_45 : code_ 19 45 = some (.istore_n 3, 46, 0, 0, 0) := by decide +kernel
theorem cd_Evening_play_46 : code_ 19 46 = some (.iload_n 3, 47, 0, 0, 0) := by decide +kernel
theorem cd_Evening_play_47 : code_ 19 47 = some (.bipush 60, 49, 0, 0, 0) := by decide +kernel
theorem cd_Evening_play_49 : code_ 19 49 = some (.if_icmp .ge 132, 52, 181, 0, 0) := by decide +kernel
theorem cd_Evening_play_52 : code_ 19 52 = some (.aload_n 2, 53, 0, 0, 0) := by decide +kernel
theorem cd_Evening_play_53 : code_ 19 53 = some (.invokevirtual 40, 56, 33, 1, 0) := by decide +kernel
theorem cd_Evening_play_56 : code_ 19 56 = some (.ifCond .ne 125, 59, 181, 0, 0) := by decide +kernel
theorem cd_Evening_play_59 : code_ 19 59 = some (.aload_n 2, 60, 0, 0, 0) := by decide +kernel
theorem cd_Evening_play_60 : code_ 19 60 = some (.invokevirtual 44, 63, 38, 1, 0) := by decide +kernel
theorem cd_Evening_play_63 : code_ 19 63 = some (.ifCond .ne 4, 66, 67, 0, 0) := by decide +kernel
theorem cd_Evening_play_66 : code_ 19 66 = some (.return_, 67, 0, 0, 0) := by decide +kernel
theorem cd_Evening_play_67 : code_ 19 67 = some (.aload_n 0, 68, 0, 0, 0) := by decide +kernel
theorem cd_Evening_play_68 : code_ 19 68 = some (.getfield 12, 71, 1, 0, 2) := by decide +kernel
theorem cd_Evening_play_71 : code_ 19 71 = some (.aload_n 2, 72, 0, 0, 0) := by decide +kernel
theorem cd_Evening_play_72 : code_ 19 72 = some (.invokevirtual 47, 75, 34, 1, 0) := by decide +kernel
theorem cd_Evening_play_75 : code_ 19 75 = some (.aload_n 2, 76, 0, 0, 0) := by decide +kernel
theorem cd_Evening_play_76 : code_ 19 76 = some (.invokevirtual 51, 79, 35, 1, 0) := by decide +kernel
theorem cd_Evening_play_79 : code_ 19 79 = some (.aload_n 2, 80, 0, 0, 0) := by decide +kernel
theorem cd_Evening_play_80 : code_ 19 80 = some (.invokevirtual 54, 83, 36, 1, 0) := by decide +kernel
theorem cd_Evening_play_83 : code_ 19 83 = some (.invokevirtual 57, 86, 101, 1, 0) := by decide +kernel
theorem cd_Evening_play_86 : code_ 19 86 = some (.istore 4, 88, 0, 0, 0) := by decide +kernel
theorem cd_Evening_play_88 : code_ 19 88 = some (.iload 4, 90, 0, 0, 0) := by decide +kernel
theorem cd_Evening_play_90 : code_ 19 90 = some (.ifCond .eq 18, 93, 108, 0, 0) := by decide +kernel
theorem cd_Evening_play_93 : code_ 19 93 = some (.aload_n 0, 94, 0, 0, 0) := by decide +kernel
theorem cd_Evening_play_94 : code_ 19 94 = some (.aload_n 0, 95, 0, 0, 0) := by decide +kernel
theorem cd_Evening_play_95 : code_ 19 95 = some (.getfield 18, 98, 1, 1, 0) := by decide +kernel
theorem cd_Evening_play_98 : code_ 19 98 = some (.putfield 22, 101, 1, 2, 0) := by decide +kernel
theorem cd_Evening_play_101 : code_ 19 101 = some (.aload_n 0, 102, 0, 0, 0) := by decide +kernel
theorem cd_Evening_play_102 : code_ 19 102 = some (.iload 4, 104, 0, 0, 0) := by decide +kernel
theorem cd_Evening_play_104 : code_ 19 104 = some (.putfield 25, 107, 1, 3, 0) := by decide +kernel
theorem cd_Evening_play_107 : code_ 19 107 = some (.return_, 108, 0, 0, 0) := by decide +kernel
theorem cd_Evening_play_108 : code_ 19 108 = some (.aload_n 0, 109, 0, 0, 0) := by decide +kernel
theorem cd_Evening_play_109 : code_ 19 109 = some (.getfield 12, 112, 1, 0, 2) := by decide +kernel
theorem cd_Evening_play_112 : code_ 19 112 = some (.invokevirtual 61, 115, 80, 1, 0) := by decide +kernel
theorem cd_Evening_play_115 : code_ 19 115 = some (.istore 5, 117, 0, 0, 0) := by decide +kernel
theorem cd_Evening_play_117 : code_ 19 117 = some (.aload_n 0, 118, 0, 0, 0) := by decide +kernel
theorem cd_Evening_play_118 : code_ 19 118 = some (.getfield 12, 121, 1, 0, 2) := by decide +kernel
theorem cd_Evening_play_121 : code_ 19 121 = some (.aload_n 2, 122, 0, 0, 0) := by decide +kernel
theorem cd_Evening_play_122 : code_ 19 122 = some (.invokevirtual 47, 125, 34, 1, 0) := by decide +kernel
theorem cd_Evening_play_125 : code_ 19 125 = some (.aload_n 2, 126, 0, 0, 0) := by decide +kernel
theorem cd_Evening_play_126 : code_ 19 126 = some (.invokevirtual 51, 129, 35, 1, 0) := by decide +kernel
theorem cd_Evening_play_129 : code_ 19 129 = some (.aload_n 2, 130, 0, 0, 0) := by decide +kernel
theorem cd_Evening_play_130 : code_ 19 130 = some (.invokevirtual 54, 133, 36, 1, 0) := by decide +kernel
theorem cd_Evening_play_133 : code_ 19 133 = some (.invokevirtual 64, 136, 105, 1, 0) := by decide +kernel
theorem cd_Evening_play_136 : code_ 19 136 = some (.aload_n 0, 137, 0, 0, 0) := by decide +kernel
theorem cd_Evening_play_137 : code_ 19 137 = some (.getfield 28, 140, 1, 4, 0) := by decide +kernel
theorem cd_Evening_play_140 : code_ 19 140 = some (.bipush (-6), 142, 0, 0, 0) := by decide +kernel
theorem cd_Evening_play_142 : code_ 19 142 = some (.if_icmp .ne 23, 145, 165, 0, 0) := by decide +kernel
theorem cd_Evening_play_145 : code_ 19 145 = some (.aload_n 0, 146, 0, 0, 0) := by decide +kernel
theorem cd_Evening_play_146 : code_ 19 146 = some (.getfield 12, 149, 1, 0, 2) := by decide +kernel
theorem cd_Evening_play_149 : code_ 19 149 = some (.invokevirtual 61, 152, 80, 1, 0) := by decide +kernel
theorem cd_Evening_play_152 : code_ 19 152 = some (.iload 5, 154, 0, 0, 0) := by decide +kernel
theorem cd_Evening_play_154 : code_ 19 154 = some (.if_icmp .le 11, 157, 165, 0, 0) := by decide +kernel
theorem cd_Evening_play_157 : code_ 19 157 = some (.aload_n 0, 158, 0, 0, 0) := by decide +kernel
theorem cd_Evening_play_158 : code_ 19 158 = some (.aload_n 0, 159, 0, 0, 0) := by decide +kernel
theorem cd_Evening_play_159 : code_ 19 159 = some (.getfield 18, 162, 1, 1, 0) := by decide +kernel
theorem cd_Evening_play_162 : code_ 19 162 = some (.putfield 28, 165, 1, 4, 0) := by decide +kernel
theorem cd_Evening_play_165 : code_ 19 165 = some (.aload_n 0, 166, 0, 0, 0) := by decide +kernel
theorem cd_Evening_play_166 : code_ 19 166 = some (.dup, 167, 0, 0, 0) := by decide +kernel
theorem cd_Evening_play_167 : code_ 19 167 = some (.getfield 18, 170, 1, 1, 0) := by decide +kernel
theorem cd_Evening_play_170 : code_ 19 170 = some (.iconst 1, 171, 0, 0, 0) := by decide +kernel
theorem cd_Evening_play_171 : code_ 19 171 = some (.iadd, 172, 0, 0, 0) := by decide +kernel
theorem cd_Evening_play_172 : code_ 19 172 = some (.putfield 18, 175, 1, 1, 0) := by decide +kernel
theorem cd_Evening_play_175 : code_ 19 175 = some (.iinc 3 1, 178, 0, 0, 0) := by decide +kernel
theorem cd_Evening_play_178 : code_ 19 178 = some (.goto (-132), 181, 46, 0, 0) := by decide +kernel
theorem cd_Evening_play_181 : code_ 19 181 = some (.return_, 182, 0, 0, 0) := by decide +kernel
theorem cd_Grasps_isRow_0 : code_ 20 0 = some (.iload_n 0, 1, 0, 0, 0) := by decide +kernel
theorem cd_Grasps_isRow_1 : code_ 20 1 = some (.ifCond .ge 5, 4, 6, 0, 0) := by decide +kernel
theorem cd_Grasps_isRow_4 : code_ 20 4 = some (.iconst 0, 5, 0, 0, 0) := by decide +kernel
theorem cd_Grasps_isRow_5 : code_ 20 5 = some (.ireturn, 6, 0, 0, 0) := by decide +kernel
theorem cd_Grasps_isRow_6 : code_ 20 6 = some (.iload_n 0, 7, 0, 0, 0) := by decide +kernel
theorem cd_Grasps_isRow_7 : code_ 20 7 = some (.istore_n 2, 8, 0, 0, 0) := by decide +kernel
theorem cd_Grasps_isRow_8 : code_ 20 8 = some (.iconst 0, 9, 0, 0, 0) := by decide +kernel
theorem cd_Grasps_isRow_9 : code_ 20 9 = some (.istore_n 3, 10, 0, 0, 0) := by decide +kernel
theorem cd_Grasps_isRow_10 : code_ 20 10 = some (.iload_n 3, 11, 0, 0, 0) := by decide +kernel
theorem cd_Grasps_isRow_11 : code_ 20 11 = some (.iload_n 1, 12, 0, 0, 0) := by decide +kernel
theorem cd_Grasps_isRow_12 : code_ 20 12 = some (.if_icmp .ge 24, 15, 36, 0, 0) := by decide +kernel
theorem cd_Grasps_isRow_15 : code_ 20 15 = some (.iload_n 2, 16, 0, 0, 0) := by decide +kernel
theorem cd_Grasps_isRow_16 : code_ 20 16 = some (.bipush 10, 18, 0, 0, 0) := by decide +kernel
theorem cd_Grasps_isRow_18 : code_ 20 18 = some (.irem, 19, 0, 0, 0) := by decide +kernel
theorem cd_Grasps_isRow_19 : code_ 20 19 = some (.iconst 4, 20, 0, 0, 0) := by decide +kernel
theorem cd_Grasps_isRow_20 : code_ 20 20 = some (.if_icmp .lt 5, 23, 25, 0, 0) := by decide +kernel
theorem cd_Grasps_isRow_23 : code_ 20 23 = some (.iconst 0, 24, 0, 0, 0) := by decide +kernel
theorem cd_Grasps_isRow_24 : code_ 20 24 = some (.ireturn, 25, 0, 0, 0) := by decide +kernel
theorem cd_Grasps_isRow_25 : code_ 20 25 = some (.iload_n 2, 26, 0, 0, 0) := by decide +kernel
theorem cd_Grasps_isRow_26 : code_ 20 26 = some (.bipush 10, 28, 0, 0, 0) := by decide +kernel
theorem cd_Grasps_isRow_28 : code_ 20 28 = some (.idiv, 29, 0, 0, 0) := by decide +kernel
theorem cd_Grasps_isRow_29 : code_ 20 29 = some (.istore_n 2, 30, 0, 0, 0) := by decide +kernel
theorem cd_Grasps_isRow_30 : code_ 20 30 = some (.iinc 3 1, 33, 0, 0, 0) := by decide +kernel
theorem cd_Grasps_isRow_33 : code_ 20 33 = some (.goto (-23), 36, 10, 0, 0) := by decide +kernel
theorem cd_Grasps_isRow_36 : code_ 20 36 = some (.iload_n 2, 37, 0, 0, 0) := by decide +kernel
theorem cd_Grasps_isRow_37 : code_ 20 37 = some (.ifCond .ne 7, 40, 44, 0, 0) := by decide +kernel
theorem cd_Grasps_isRow_40 : code_ 20 40 = some (.iconst 1, 41, 0, 0, 0) := by decide +kernel
theorem cd_Grasps_isRow_41 : code_ 20 41 = some (.goto 4, 44, 45, 0, 0) := by decide +kernel
theorem cd_Grasps_isRow_44 : code_ 20 44 = some (.iconst 0, 45, 0, 0, 0) := by decide +kernel
theorem cd_Grasps_isRow_45 : code_ 20 45 = some (.ireturn, 46, 0, 0, 0) := by decide +kernel
theorem cd_Grasps_fewest_0 : code_ 21 0 = some (.iconst 0, 1, 0, 0, 0) := by decide +kernel
theorem cd_Grasps_fewest_1 : code_ 21 1 = some (.istore_n 2, 2, 0, 0, 0) := by decide +kernel
theorem cd_Grasps_fewest_2 : code_ 21 2 = some (.iconst 0, 3, 0, 0, 0) := by decide +kernel
theorem cd_Grasps_fewest_3 : code_ 21 3 = some (.istore_n 3, 4, 0, 0, 0) := by decide +kernel
theorem cd_Grasps_fewest_4 : code_ 21 4 = some (.iconst 0, 5, 0, 0, 0) := by decide +kernel
theorem cd_Grasps_fewest_5 : code_ 21 5 = some (.istore 4, 7, 0, 0, 0) := by decide +kernel
theorem cd_Grasps_fewest_7 : code_ 21 7 = some (.iload 4, 9, 0, 0, 0) := by decide +kernel
theorem cd_Grasps_fewest_9 : code_ 21 9 = some (.iload_n 1, 10, 0, 0, 0) := by decide +kernel
theorem cd_Grasps_fewest_10 : code_ 21 10 = some (.if_icmp .ge 64, 13, 74, 0, 0) := by decide +kernel
theorem cd_Grasps_fewest_13 : code_ 21 13 = some (.iload_n 0, 14, 0, 0, 0) := by decide +kernel
theorem cd_Grasps_fewest_14 : code_ 21 14 = some (.iload_n 1, 15, 0, 0, 0) := by decide +kernel
theorem cd_Grasps_fewest_15 : code_ 21 15 = some (.iload 4, 17, 0, 0, 0) := by decide +kernel
theorem cd_Grasps_fewest_17 : code_ 21 17 = some (.invokestatic 11, 20, 22, 0, 0) := by decide +kernel
theorem cd_Grasps_fewest_20 : code_ 21 20 = some (.istore 5, 22, 0, 0, 0) := by decide +kernel
theorem cd_Grasps_fewest_22 : code_ 21 22 = some (.iload_n 2, 23, 0, 0, 0) := by decide +kernel
theorem cd_Grasps_fewest_23 : code_ 21 23 = some (.iload 5, 25, 0, 0, 0) := by decide +kernel
theorem cd_Grasps_fewest_25 : code_ 21 25 = some (.ishr, 26, 0, 0, 0) := by decide +kernel
theorem cd_Grasps_fewest_26 : code_ 21 26 = some (.iconst 1, 27, 0, 0, 0) := by decide +kernel
theorem cd_Grasps_fewest_27 : code_ 21 27 = some (.iand, 28, 0, 0, 0) := by decide +kernel
theorem cd_Grasps_fewest_28 : code_ 21 28 = some (.iconst 1, 29, 0, 0, 0) := by decide +kernel
theorem cd_Grasps_fewest_29 : code_ 21 29 = some (.if_icmp .ne 6, 32, 35, 0, 0) := by decide +kernel
theorem cd_Grasps_fewest_32 : code_ 21 32 = some (.goto 36, 35, 68, 0, 0) := by decide +kernel
theorem cd_Grasps_fewest_35 : code_ 21 35 = some (.iload_n 2, 36, 0, 0, 0) := by decide +kernel
theorem cd_Grasps_fewest_36 : code_ 21 36 = some (.invokestatic 15, 39, 210, 0, 0) := by decide +kernel
theorem cd_Grasps_fewest_39 : code_ 21 39 = some (.iconst 2, 40, 0, 0, 0) := by decide +kernel
theorem cd_Grasps_fewest_40 : code_ 21 40 = some (.if_icmp .lt 18, 43, 58, 0, 0) := by decide +kernel
theorem cd_Grasps_fewest_43 : code_ 21 43 = some (.iload_n 2, 44, 0, 0, 0) := by decide +kernel
theorem cd_Grasps_fewest_44 : code_ 21 44 = some (.iconst 1, 45, 0, 0, 0) := by decide +kernel
theorem cd_Grasps_fewest_45 : code_ 21 45 = some (.iload_n 0, 46, 0, 0, 0) := by decide +kernel
theorem cd_Grasps_fewest_46 : code_ 21 46 = some (.iload_n 1, 47, 0, 0, 0) := by decide +kernel
theorem cd_Grasps_fewest_47 : code_ 21 47 = some (.iload 4, 49, 0, 0, 0) := by decide +kernel
theorem cd_Grasps_fewest_49 : code_ 21 49 = some (.iload_n 2, 50, 0, 0, 0) := by decide +kernel
theorem cd_Grasps_fewest_50 : code_ 21 50 = some (.invokestatic 21, 53, 23, 0, 0) := by decide +kernel
theorem cd_Grasps_fewest_53 : code_ 21 53 = some (.ishl, 54, 0, 0, 0) := by decide +kernel
theorem cd_Grasps_fewest_54 : code_ 21 54 = some (.iconst (-1), 55, 0, 0, 0) := by decide +kernel
theorem cd_Grasps_fewest_55 : code_ 21 55 = some (.ixor, 56, 0, 0, 0) := by decide +kernel
theorem cd_Grasps_fewest_56 : code_ 21 56 = some (.iand, 57, 0, 0, 0) := by decide +kernel
theorem cd_Grasps_fewest_57 : code_ 21 57 = some (.istore_n 2, 58, 0, 0, 0) := by decide +kernel
theorem cd_Grasps_fewest_58 : code_ 21 58 = some (.iload_n 2, 59, 0, 0, 0) := by decide +kernel
theorem cd_Grasps_fewest_59 : code_ 21 59 = some (.iconst 1, 60, 0, 0, 0) := by decide +kernel
theorem cd_Grasps_fewest_60 : code_ 21 60 = some (.iload 5, 62, 0, 0, 0) := by decide +kernel
theorem cd_Grasps_fewest_62 : code_ 21 62 = some (.ishl, 63, 0, 0, 0) := by decide +kernel
theorem cd_Grasps_fewest_63 : code_ 21 63 = some (.ior, 64, 0, 0, 0) := by decide +kernel
theorem cd_Grasps_fewest_64 : code_ 21 64 = some (.istore_n 2, 65, 0, 0, 0) := by decide +kernel
theorem cd_Grasps_fewest_65 : code_ 21 65 = some (.iinc 3 1, 68, 0, 0, 0) := by decide +kernel
theorem cd_Grasps_fewest_68 : code_ 21 68 = some (.iinc 4 1, 71, 0, 0, 0) := by decide +kernel
theorem cd_Grasps_fewest_71 : code_ 21 71 = some (.goto (-64), 74, 7, 0, 0) := by decide +kernel
theorem cd_Grasps_fewest_74 : code_ 21 74 = some (.iload_n 3, 75, 0, 0, 0) := by decide +kernel
theorem cd_Grasps_fewest_75 : code_ 21 75 = some (.ireturn, 76, 0, 0, 0) := by decide +kernel
theorem cd_Grasps_needed_0 : code_ 22 0 = some (.iload_n 0, 1, 0, 0, 0) := by decide +kernel
theorem cd_Grasps_needed_1 : code_ 22 1 = some (.istore_n 3, 2, 0, 0, 0) := by decide +kernel
theorem cd_Grasps_needed_2 : code_ 22 2 = some (.iload_n 2, 3, 0, 0, 0) := by decide +kernel
theorem cd_Grasps_needed_3 : code_ 22 3 = some (.iconst 1, 4, 0, 0, 0) := by decide +kernel
theorem cd_Grasps_needed_4 : code_ 22 4 = some (.iadd, 5, 0, 0, 0) := by decide +kernel
theorem cd_Grasps_needed_5 : code_ 22 5 = some (.istore 4, 7, 0, 0, 0) := by decide +kernel
theorem cd_Grasps_needed_7 : code_ 22 7 = some (.iload 4, 9, 0, 0, 0) := by decide +kernel
theorem cd_Grasps_needed_9 : code_ 22 9 = some (.iload_n 1, 10, 0, 0, 0) := by decide +kernel
theorem cd_Grasps_needed_10 : code_ 22 10 = some (.if_icmp .ge 14, 13, 24, 0, 0) := by decide +kernel
theorem cd_Grasps_needed_13 : code_ 22 13 = some (.iload_n 3, 14, 0, 0, 0) := by decide +kernel
theorem cd_Grasps_needed_14 : code_ 22 14 = some (.bipush 10, 16, 0, 0, 0) := by decide +kernel
theorem cd_Grasps_needed_16 : code_ 22 16 = some (.idiv, 17, 0, 0, 0) := by decide +kernel
theorem cd_Grasps_needed_17 : code_ 22 17 = some (.istore_n 3, 18, 0, 0, 0) := by decide +kernel
theorem cd_Grasps_needed_18 : code_ 22 18 = some (.iinc 4 1, 21, 0, 0, 0) := by decide +kernel
theorem cd_Grasps_needed_21 : code_ 22 21 = some (.goto (-14), 24, 7, 0, 0) := by decide +kernel
theorem cd_Grasps_needed_24 : code_ 22 24 = some (.iload_n 3, 25, 0, 0, 0) := by decide +kernel
theorem cd_Grasps_needed_25 : code_ 22 25 = some (.bipush 10, 27, 0, 0, 0) := by decide +kernel
theorem cd_Grasps_needed_27 : code_ 22 27 = some (.irem, 28, 0, 0, 0) := by decide +kernel
theorem cd_Grasps_needed_28 : code_ 22 28 = some (.ireturn, 29, 0, 0, 0) := by decide +kernel
theorem cd_Grasps_latest_0 : code_ 23 0 = some (.iconst 0, 1, 0, 0, 0) := by decide +kernel
theorem cd_Grasps_latest_1 : code_ 23 1 = some (.istore 4, 3, 0, 0, 0) := by decide +kernel
theorem cd_Grasps_latest_3 : code_ 23 3 = some (.iconst (-1), 4, 0, 0, 0) := by decide +kernel
theorem cd_Grasps_latest_4 : code_ 23 4 = some (.istore 5, 6, 0, 0, 0) := by decide +kernel
theorem cd_Grasps_latest_6 : code_ 23 6 = some (.iconst 0, 7, 0, 0, 0) := by decide +kernel
theorem cd_Grasps_latest_7 : code_ 23 7 = some (.istore 6, 9, 0, 0, 0) := by decide +kernel
theorem cd_Grasps_latest_9 : code_ 23 9 = some (.iload 6, 11, 0, 0, 0) := by decide +kernel
theorem cd_Grasps_latest_11 : code_ 23 11 = some (.iconst 4, 12, 0, 0, 0) := by decide +kernel
theorem cd_Grasps_latest_12 : code_ 23 12 = some (.if_icmp .ge 46, 15, 58, 0, 0) := by decide +kernel
theorem cd_Grasps_latest_15 : code_ 23 15 = some (.iload_n 3, 16, 0, 0, 0) := by decide +kernel
theorem cd_Grasps_latest_16 : code_ 23 16 = some (.iload 6, 18, 0, 0, 0) := by decide +kernel
theorem cd_Grasps_latest_18 : code_ 23 18 = some (.ishr, 19, 0, 0, 0) := by decide +kernel
theorem cd_Grasps_latest_19 : code_ 23 19 = some (.iconst 1, 20, 0, 0, 0) := by decide +kernel
theorem cd_Grasps_latest_20 : code_ 23 20 = some (.iand, 21, 0, 0, 0) := by decide +kernel
theorem cd_Grasps_latest_21 : code_ 23 21 = some (.iconst 1, 22, 0, 0, 0) := by decide +kernel
theorem cd_Grasps_latest_22 : code_ 23 22 = some (.if_icmp .ne 30, 25, 52, 0, 0) := by decide +kernel
theorem cd_Grasps_latest_25 : code_ 23 25 = some (.iload_n 0, 26, 0, 0, 0) := by decide +kernel
theorem cd_Grasps_latest_26 : code_ 23 26 = some (.iload_n 1, 27, 0, 0, 0) := by decide +kernel
theorem cd_Grasps_latest_27 : code_ 23 27 = some (.iload_n 2, 28, 0, 0, 0) := by decide +kernel
theorem cd_Grasps_latest_28 : code_ 23 28 = some (.iload 6, 30, 0, 0, 0) := by decide +kernel
theorem cd_Grasps_latest_30 : code_ 23 30 = some (.invokestatic 25, 33, 24, 0, 0) := by decide +kernel
theorem cd_Grasps_latest_33 : code_ 23 33 = some (.iload 5, 35, 0, 0, 0) := by decide +kernel
theorem cd_Grasps_latest_35 : code_ 23 35 = some (.if_icmp .le 17, 38, 52, 0, 0) := by decide +kernel
theorem cd_Grasps_latest_38 : code_ 23 38 = some (.iload 6, 40, 0, 0, 0) := by decide +kernel
theorem cd_Grasps_latest_40 : code_ 23 40 = some (.istore 4, 42, 0, 0, 0) := by decide +kernel
theorem cd_Grasps_latest_42 : code_ 23 42 = some (.iload_n 0, 43, 0, 0, 0) := by decide +kernel
theorem cd_Grasps_latest_43 : code_ 23 43 = some (.iload_n 1, 44, 0, 0, 0) := by decide +kernel
theorem cd_Grasps_latest_44 : code_ 23 44 = some (.iload_n 2, 45, 0, 0, 0) := by decide +kernel
theorem cd_Grasps_latest_45 : code_ 23 45 = some (.iload 6, 47, 0, 0, 0) := by decide +kernel
theorem cd_Grasps_latest_47 : code_ 23 47 = some (.invokestatic 25, 50, 24, 0, 0) := by decide +kernel
theorem cd_Grasps_latest_50 : code_ 23 50 = some (.istore 5, 52, 0, 0, 0) := by decide +kernel
theorem cd_Grasps_latest_52 : code_ 23 52 = some (.iinc 6 1, 55, 0, 0, 0) := by decide +kernel
theorem cd_Grasps_latest_55 : code_ 23 55 = some (.goto (-46), 58, 9, 0, 0) := by decide +kernel
theorem cd_Grasps_latest_58 : code_ 23 58 = some (.iload 4, 60, 0, 0, 0) := by decide +kernel
theorem cd_Grasps_latest_60 : code_ 23 60 = some (.ireturn, 61, 0, 0, 0) := by decide +kernel
theorem cd_Grasps_nextNeed_0 : code_ 24 0 = some (.iload_n 2, 1, 0, 0, 0) := by decide +kernel
theorem cd_Grasps_nextNeed_1 : code_ 24 1 = some (.iconst 1, 2, 0, 0, 0) := by decide +kernel
theorem cd_Grasps_nextNeed_2 : code_ 24 2 = some (.iadd, 3, 0, 0, 0) := by decide +kernel
theorem cd_Grasps_nextNeed_3 : code_ 24 3 = some (.istore 4, 5, 0, 0, 0) := by decide +kernel
theorem cd_Grasps_nextNeed_5 : code_ 24 5 = some (.iload 4, 7, 0, 0, 0) := by decide +kernel
theorem cd_Grasps_nextNeed_7 : code_ 24 7 = some (.iload_n 1, 8, 0, 0, 0) := by decide +kernel
theorem cd_Grasps_nextNeed_8 : code_ 24 8 = some (.if_icmp .ge 23, 11, 31, 0, 0) := by decide +kernel
theorem cd_Grasps_nextNeed_11 : code_ 24 11 = some (.iload_n 0, 12, 0, 0, 0) := by decide +kernel
theorem cd_Grasps_nextNeed_12 : code_ 24 12 = some (.iload_n 1, 13, 0, 0, 0) := by decide +kernel
theorem cd_Grasps_nextNeed_13 : code_ 24 13 = some (.iload 4, 15, 0, 0, 0) := by decide +kernel
theorem cd_Grasps_nextNeed_15 : code_ 24 15 = some (.invokestatic 11, 18, 22, 0, 0) := by decide +kernel
theorem cd_Grasps_nextNeed_18 : code_ 24 18 = some (.iload_n 3, 19, 0, 0, 0) := by decide +kernel
theorem cd_Grasps_nextNeed_19 : code_ 24 19 = some (.if_icmp .ne 6, 22, 25, 0, 0) := by decide +kernel
theorem cd_Grasps_nextNeed_22 : code_ 24 22 = some (.iload 4, 24, 0, 0, 0) := by decide +kernel
theorem cd_Grasps_nextNeed_24 : code_ 24 24 = some (.ireturn, 25, 0, 0, 0) := by decide +kernel
theorem cd_Grasps_nextNeed_25 : code_ 24 25 = some (.iinc 4 1, 28, 0, 0, 0) := by decide +kernel
theorem cd_Grasps_nextNeed_28 : code_ 24 28 = some (.goto (-23), 31, 5, 0, 0) := by decide +kernel
theorem cd_Grasps_nextNeed_31 : code_ 24 31 = some (.iload_n 1, 32, 0, 0, 0) := by decide +kernel
theorem cd_Grasps_nextNeed_32 : code_ 24 32 = some (.ireturn, 33, 0, 0, 0) := by decide +kernel
theorem cd_Image_init_0 : code_ 25 0 = some (.aload_n 0, 1, 0, 0, 0) := by decide +kernel
theorem cd_Image_init_1 : code_ 25 1 = some (.invokespecial 1, 4, 0, 5, 0) := by decide +kernel
theorem cd_Image_init_4 : code_ 25 4 = some (.aload_n 0, 5, 0, 0, 0) := by decide +kernel
theorem cd_Image_init_5 : code_ 25 5 = some (.new 7, 8, 6, 0, 0) := by decide +kernel
theorem cd_Image_init_8 : code_ 25 8 = some (.dup, 9, 0, 0, 0) := by decide +kernel
theorem cd_Image_init_9 : code_ 25 9 = some (.invokespecial 9, 12, 74, 2, 0) := by decide +kernel
theorem cd_Image_init_12 : code_ 25 12 = some (.putfield 10, 15, 2, 0, 2) := by decide +kernel
theorem cd_Image_init_15 : code_ 25 15 = some (.aload_n 0, 16, 0, 0, 0) := by decide +kernel
theorem cd_Image_init_16 : code_ 25 16 = some (.new 16, 19, 5, 0, 0) := by decide +kernel
theorem cd_Image_init_19 : code_ 25 19 = some (.dup, 20, 0, 0, 0) := by decide +kernel
theorem cd_Image_init_20 : code_ 25 20 = some (.invokespecial 18, 23, 62, 4, 0) := by decide +kernel
theorem cd_Image_init_23 : code_ 25 23 = some (.putfield 19, 26, 2, 1, 2) := by decide +kernel
theorem cd_Image_init_26 : code_ 25 26 = some (.return_, 27, 0, 0, 0) := by decide +kernel
theorem cd_Image_keep_0 : code_ 26 0 = some (.aload_n 0, 1, 0, 0, 0) := by decide +kernel
theorem cd_Image_keep_1 : code_ 26 1 = some (.getfield 10, 4, 2, 0, 2) := by decide +kernel
theorem cd_Image_keep_4 : code_ 26 4 = some (.aload_n 1, 5, 0, 0, 0) := by decide +kernel
theorem cd_Image_keep_5 : code_ 26 5 = some (.invokevirtual 23, 8, 75, 1, 0) := by decide +kernel
theorem cd_Image_keep_8 : code_ 26 8 = some (.aload_n 0, 9, 0, 0, 0) := by decide +kernel
theorem cd_Image_keep_9 : code_ 26 9 = some (.getfield 19, 12, 2, 1, 2) := by decide +kernel
theorem cd_Image_keep_12 : code_ 26 12 = some (.aload_n 2, 13, 0, 0, 0) := by decide +kernel
theorem cd_Image_keep_13 : code_ 26 13 = some (.invokevirtual 27, 16, 66, 1, 0) := by decide +kernel
theorem cd_Image_keep_16 : code_ 26 16 = some (.aload_n 0, 17, 0, 0, 0) := by decide +kernel
theorem cd_Image_keep_17 : code_ 26 17 = some (.iconst 1, 18, 0, 0, 0) := by decide +kernel
theorem cd_Image_keep_18 : code_ 26 18 = some (.putfield 30, 21, 2, 2, 1) := by decide +kernel
theorem cd_Image_keep_21 : code_ 26 21 = some (.return_, 22, 0, 0, 0) := by decide +kernel
theorem cd_Image_giveBack_0 : code_ 27 0 = some (.aload_n 0, 1, 0, 0, 0) := by decide +kernel
theorem cd_Image_giveBack_1 : code_ 27 1 = some (.getfield 30, 4, 2, 2, 1) := by decide +kernel
theorem cd_Image_giveBack_4 : code_ 27 4 = some (.ifCond .eq 11, 7, 15, 0, 0) := by decide +kernel
theorem cd_Image_giveBack_7 : code_ 27 7 = some (.aload_n 1, 8, 0, 0, 0) := by decide +kernel
theorem cd_Image_giveBack_8 : code_ 27 8 = some (.ifnull 7, 11, 15, 0, 0) := by decide +kernel
theorem cd_Image_giveBack_11 : code_ 27 11 = some (.aload_n 2, 12, 0, 0, 0) := by decide +kernel
theorem cd_Image_giveBack_12 : code_ 27 12 = some (.ifnonnull 5, 15, 17, 0, 0) := by decide +kernel
theorem cd_Image_giveBack_15 : code_ 27 15 = some (.iconst 0, 16, 0, 0, 0) := by decide +kernel
theorem cd_Image_giveBack_16 : code_ 27 16 = some (.ireturn, 17, 0, 0, 0) := by decide +kernel
theorem cd_Image_giveBack_17 : code_ 27 17 = some (.aload_n 1, 18, 0, 0, 0) := by decide +kernel
theorem cd_Image_giveBack_18 : code_ 27 18 = some (.aload_n 0, 19, 0, 0, 0) := by decide +kernel
theorem cd_Image_giveBack_19 : code_ 27 19 = some (.getfield 10, 22, 2, 0, 2) := by decide +kernel
theorem cd_Image_giveBack_22 : code_ 27 22 = some (.invokevirtual 23, 25, 75, 1, 0) := by decide +kernel
theorem cd_Image_giveBack_25 : code_ 27 25 = some (.aload_n 2, 26, 0, 0, 0) := by decide +kernel
theorem cd_Image_giveBack_26 : code_ 27 26 = some (.aload_n 0, 27, 0, 0, 0) := by decide +kernel
theorem cd_Image_giveBack_27 : code_ 27 27 = some (.getfield 19, 30, 2, 1, 2) := by decide +kernel
theorem cd_Image_giveBack_30 : code_ 27 30 = some (.invokevirtual 27, 33, 66, 1, 0) := by decide +kernel
theorem cd_Image_giveBack_33 : code_ 27 33 = some (.iconst 1, 34, 0, 0, 0) := by decide +kernel
theorem cd_Image_giveBack_34 : code_ 27 34 = some (.ireturn, 35, 0, 0, 0) := by decide +kernel
theorem cd_Pad_init_0 : code_ 28 0 = some (.aload_n 0, 1, 0, 0, 0) := by decide +kernel
theorem cd_Pad_init_1 : code_ 28 1 = some (.invokespecial 3, 4, 0, 5, 0) := by decide +kernel
theorem cd_Pad_init_4 : code_ 28 4 = some (.aload_n 0, 5, 0, 0, 0) := by decide +kernel
theorem cd_Pad_init_5 : code_ 28 5 = some (.bipush 60, 7, 0, 0, 0) := by decide +kernel
theorem cd_Pad_init_7 : code_ 28 7 = some (.newarray .int, 9, 0, 0, 0) := by decide +kernel
theorem cd_Pad_init_9 : code_ 28 9 = some (.putfield 9, 12, 3, 0, 2) := by decide +kernel
theorem cd_Pad_init_12 : code_ 28 12 = some (.return_, 13, 0, 0, 0) := by decide +kernel
theorem cd_Pad_size_0 : code_ 29 0 = some (.aload_n 0, 1, 0, 0, 0) := by decide +kernel
theorem cd_Pad_size_1 : code_ 29 1 = some (.getfield 15, 4, 3, 1, 0) := by decide +kernel
theorem cd_Pad_size_4 : code_ 29 4 = some (.ireturn, 5, 0, 0, 0) := by decide +kernel
theorem cd_Pad_add_0 : code_ 30 0 = some (.aload_n 0, 1, 0, 0, 0) := by decide +kernel
theorem cd_Pad_add_1 : code_ 30 1 = some (.getfield 15, 4, 3, 1, 0) := by decide +kernel
theorem cd_Pad_add_4 : code_ 30 4 = some (.ifCond .lt 15, 7, 19, 0, 0) := by decide +kernel
theorem cd_Pad_add_7 : code_ 30 7 = some (.aload_n 0, 8, 0, 0, 0) := by decide +kernel
theorem cd_Pad_add_8 : code_ 30 8 = some (.getfield 15, 11, 3, 1, 0) := by decide +kernel
theorem cd_Pad_add_11 : code_ 30 11 = some (.aload_n 0, 12, 0, 0, 0) := by decide +kernel
theorem cd_Pad_add_12 : code_ 30 12 = some (.getfield 9, 15, 3, 0, 2) := by decide +kernel
theorem cd_Pad_add_15 : code_ 30 15 = some (.arraylength, 16, 0, 0, 0) := by decide +kernel
theorem cd_Pad_add_16 : code_ 30 16 = some (.if_icmp .lt 5, 19, 21, 0, 0) := by decide +kernel
theorem cd_Pad_add_19 : code_ 30 19 = some (.iconst 0, 20, 0, 0, 0) := by decide +kernel
theorem cd_Pad_add_20 : code_ 30 20 = some (.ireturn, 21, 0, 0, 0) := by decide +kernel
theorem cd_Pad_add_21 : code_ 30 21 = some (.aload_n 0, 22, 0, 0, 0) := by decide +kernel
theorem cd_Pad_add_22 : code_ 30 22 = some (.getfield 9, 25, 3, 0, 2) := by decide +kernel
theorem cd_Pad_add_25 : code_ 30 25 = some (.aload_n 0, 26, 0, 0, 0) := by decide +kernel
theorem cd_Pad_add_26 : code_ 30 26 = some (.getfield 15, 29, 3, 1, 0) := by decide +kernel
theorem cd_Pad_add_29 : code_ 30 29 = some (.iload_n 1, 30, 0, 0, 0) := by decide +kernel
theorem cd_Pad_add_30 : code_ 30 30 = some (.iastore, 31, 0, 0, 0) := by decide +kernel
theorem cd_Pad_add_31 : code_ 30 31 = some (.aload_n 0, 32, 0, 0, 0) := by decide +kernel
theorem cd_Pad_add_32 : code_ 30 32 = some (.dup, 33, 0, 0, 0) := by decide +kernel
theorem cd_Pad_add_33 : code_ 30 33 = some (.getfield 15, 36, 3, 1, 0) := by decide +kernel
theorem cd_Pad_add_36 : code_ 30 36 = some (.iconst 1, 37, 0, 0, 0) := by decide +kernel
theorem cd_Pad_add_37 : code_ 30 37 = some (.iadd, 38, 0, 0, 0) := by decide +kernel
theorem cd_Pad_add_38 : code_ 30 38 = some (.putfield 15, 41, 3, 1, 0) := by decide +kernel
theorem cd_Pad_add_41 : code_ 30 41 = some (.iconst 1, 42, 0, 0, 0) := by decide +kernel
theorem cd_Pad_add_42 : code_ 30 42 = some (.ireturn, 43, 0, 0, 0) := by decide +kernel
theorem cd_Pad_clear_0 : code_ 31 0 = some (.aload_n 0, 1, 0, 0, 0) := by decide +kernel
theorem cd_Pad_clear_1 : code_ 31 1 = some (.iconst 0, 2, 0, 0, 0) := by decide +kernel
theorem cd_Pad_clear_2 : code_ 31 2 = some (.putfield 15, 5, 3, 1, 0) := by decide +kernel
theorem cd_Pad_clear_5 : code_ 31 5 = some (.return_, 6, 0, 0, 0) := by decide +kernel
theorem cd_Pad_rewind_0 : code_ 32 0 = some (.aload_n 0, 1, 0, 0, 0) := by decide +kernel
theorem cd_Pad_rewind_1 : code_ 32 1 = some (.iconst 0, 2, 0, 0, 0) := by decide +kernel
theorem cd_Pad_rewind_2 : code_ 32 2 = some (.putfield 19, 5, 3, 2, 0) := by decide +kernel
theorem cd_Pad_rewind_5 : code_ 32 5 = some (.return_, 6, 0, 0, 0) := by decide +kernel
theorem cd_Pad_isReadOut_0 : code_ 33 0 = some (.aload_n 0, 1, 0, 0, 0) := by decide +kernel
theorem cd_Pad_isReadOut_1 : code_ 33 1 = some (.getfield 19, 4, 3, 2, 0) := by decide +kernel
theorem cd_Pad_isReadOut_4 : code_ 33 4 = some (.aload_n 0, 5, 0, 0, 0) := by decide +kernel
theorem cd_Pad_isReadOut_5 : code_ 33 5 = some (.getfield 15, 8, 3, 1, 0) := by decide +kernel
theorem cd_Pad_isReadOut_8 : code_ 33 8 = some (.if_icmp .lt 7, 11, 15, 0, 0) := by decide +kernel
theorem cd_Pad_isReadOut_11 : code_ 33 11 = some (.iconst 1, 12, 0, 0, 0) := by decide +kernel
theorem cd_Pad_isReadOut_12 : code_ 33 12 = some (.goto 4, 15, 16, 0, 0) := by decide +kernel
theorem cd_Pad_isReadOut_15 : code_ 33 15 = some (.iconst 0, 16, 0, 0, 0) := by decide +kernel
theorem cd_Pad_isReadOut_16 : code_ 33 16 = some (.ireturn, 17, 0, 0, 0) := by decide +kernel
theorem cd_Pad_kind_0 : code_ 34 0 = some (.aload_n 0, 1, 0, 0, 0) := by decide +kernel
theorem cd_Pad_kind_1 : code_ 34 1 = some (.getfield 22, 4, 3, 3, 0) := by decide +kernel
theorem cd_Pad_kind_4 : code_ 34 4 = some (.ireturn, 5, 0, 0, 0) := by decide +kernel
theorem cd_Pad_rod_0 : code_ 35 0 = some (.aload_n 0, 1, 0, 0, 0) := by decide +kernel
theorem cd_Pad_rod_1 : code_ 35 1 = some (.getfield 25, 4, 3, 4, 0) := by decide +kernel
theorem cd_Pad_rod_4 : code_ 35 4 = some (.ireturn, 5, 0, 0, 0) := by decide +kernel
theorem cd_Pad_number_0 : code_ 36 0 = some (.aload_n 0, 1, 0, 0, 0) := by decide +kernel
theorem cd_Pad_number_1 : code_ 36 1 = some (.getfield 28, 4, 3, 5, 0) := by decide +kernel
theorem cd_Pad_number_4 : code_ 36 4 = some (.ireturn, 5, 0, 0, 0) := by decide +kernel
theorem cd_Pad_faultPlace_0 : code_ 37 0 = some (.aload_n 0, 1, 0, 0, 0) := by decide +kernel
theorem cd_Pad_faultPlace_1 : code_ 37 1 = some (.invokevirtual 31, 4, 32, 1, 0) := by decide +kernel
theorem cd_Pad_faultPlace_4 : code_ 37 4 = some (.iconst 0, 5, 0, 0, 0) := by decide +kernel
theorem cd_Pad_faultPlace_5 : code_ 37 5 = some (.istore_n 1, 6, 0, 0, 0) := by decide +kernel
theorem cd_Pad_faultPlace_6 : code_ 37 6 = some (.iload_n 1, 7, 0, 0, 0) := by decide +kernel
theorem cd_Pad_faultPlace_7 : code_ 37 7 = some (.bipush 60, 9, 0, 0, 0) := by decide +kernel
theorem cd_Pad_faultPlace_9 : code_ 37 9 = some (.if_icmp .ge 28, 12, 37, 0, 0) := by decide +kernel
theorem cd_Pad_faultPlace_12 : code_ 37 12 = some (.aload_n 0, 13, 0, 0, 0) := by decide +kernel
theorem cd_Pad_faultPlace_13 : code_ 37 13 = some (.invokevirtual 34, 16, 33, 1, 0) := by decide +kernel
theorem cd_Pad_faultPlace_16 : code_ 37 16 = some (.ifCond .ne 21, 19, 37, 0, 0) := by decide +kernel
theorem cd_Pad_faultPlace_19 : code_ 37 19 = some (.aload_n 0, 20, 0, 0, 0) := by decide +kernel
theorem cd_Pad_faultPlace_20 : code_ 37 20 = some (.invokevirtual 38, 23, 38, 1, 0) := by decide +kernel
theorem cd_Pad_faultPlace_23 : code_ 37 23 = some (.ifCond .ne 8, 26, 31, 0, 0) := by decide +kernel
theorem cd_Pad_faultPlace_26 : code_ 37 26 = some (.aload_n 0, 27, 0, 0, 0) := by decide +kernel
theorem cd_Pad_faultPlace_27 : code_ 37 27 = some (.getfield 19, 30, 3, 2, 0) := by decide +kernel
theorem cd_Pad_faultPlace_30 : code_ 37 30 = some (.ireturn, 31, 0, 0, 0) := by decide +kernel
theorem cd_Pad_faultPlace_31 : code_ 37 31 = some (.iinc 1 1, 34, 0, 0, 0) := by decide +kernel
theorem cd_Pad_faultPlace_34 : code_ 37 34 = some (.goto (-28), 37, 6, 0, 0) := by decide +kernel
theorem cd_Pad_faultPlace_37 : code_ 37 37 = some (.bipush (-6), 39, 0, 0, 0) := by decide +kernel
theorem cd_Pad_faultPlace_39 : code_ 37 39 = some (.ireturn, 40, 0, 0, 0) := by decide +kernel
theorem cd_Pad_readAct_0 : code_ 38 0 = some (.aload_n 0, 1, 0, 0, 0) := by decide +kernel
theorem cd_Pad_readAct_1 : code_ 38 1 = some (.bipush (-6), 3, 0, 0, 0) := by decide +kernel
theorem cd_Pad_readAct_3 : code_ 38 3 = some (.putfield 25, 6, 3, 4, 0) := by decide +kernel
theorem cd_Pad_readAct_6 : code_ 38 6 = some (.aload_n 0, 7, 0, 0, 0) := by decide +kernel
theorem cd_Pad_readAct_7 : code_ 38 7 = some (.iconst 0, 8, 0, 0, 0) := by decide +kernel
theorem cd_Pad_readAct_8 : code_ 38 8 = some (.putfield 28, 11, 3, 5, 0) := by decide +kernel
theorem cd_Pad_readAct_11 : code_ 38 11 = some (.aload_n 0, 12, 0, 0, 0) := by decide +kernel
theorem cd_Pad_readAct_12 : code_ 38 12 = some (.bipush 46, 14, 0, 0, 0) := by decide +kernel
theorem cd_Pad_readAct_14 : code_ 38 14 = some (.bipush 8, 16, 0, 0, 0) := by decide +kernel
theorem cd_Pad_readAct_16 : code_ 38 16 = some (.invokevirtual 41, 19, 41, 1, 0) := by decide +kernel
theorem cd_Pad_readAct_19 : code_ 38 19 = some (.ifCond .eq 5, 22, 24, 0, 0) := by decide +kernel
theorem cd_Pad_readAct_22 : code_ 38 22 = some (.iconst 1, 23, 0, 0, 0) := by decide +kernel
theorem cd_Pad_readAct_23 : code_ 38 23 = some (.ireturn, 24, 0, 0, 0) := by decide +kernel
theorem cd_Pad_readAct_24 : code_ 38 24 = some (.aload_n 0, 25, 0, 0, 0) := by decide +kernel
theorem cd_Pad_readAct_25 : code_ 38 25 = some (.bipush 112, 27, 0, 0, 0) := by decide +kernel
theorem cd_Pad_readAct_27 : code_ 38 27 = some (.iconst 4, 28, 0, 0, 0) := by decide +kernel
theorem cd_Pad_readAct_28 : code_ 38 28 = some (.invokevirtual 41, 31, 41, 1, 0) := by decide +kernel
theorem cd_Pad_readAct_31 : code_ 38 31 = some (.ifCond .eq 10, 34, 41, 0, 0) := by decide +kernel
theorem cd_Pad_readAct_34 : code_ 38 34 = some (.aload_n 0, 35, 0, 0, 0) := by decide +kernel
theorem cd_Pad_readAct_35 : code_ 38 35 = some (.iconst 0, 36, 0, 0, 0) := by decide +kernel
theorem cd_Pad_readAct_36 : code_ 38 36 = some (.iconst 4, 37, 0, 0, 0) := by decide +kernel
theorem cd_Pad_readAct_37 : code_ 38 37 = some (.invokevirtual 45, 40, 43, 1, 0) := by decide +kernel
theorem cd_Pad_readAct_40 : code_ 38 40 = some (.ireturn, 41, 0, 0, 0) := by decide +kernel
theorem cd_Pad_readAct_41 : code_ 38 41 = some (.aload_n 0, 42, 0, 0, 0) := by decide +kernel
theorem cd_Pad_readAct_42 : code_ 38 42 = some (.bipush 80, 44, 0, 0, 0) := by decide +kernel
theorem cd_Pad_readAct_44 : code_ 38 44 = some (.iconst 5, 45, 0, 0, 0) := by decide +kernel
theorem cd_Pad_readAct_45 : code_ 38 45 = some (.invokevirtual 41, 48, 41, 1, 0) := by decide +kernel
theorem cd_Pad_readAct_48 : code_ 38 48 = some (.ifCond .eq 8, 51, 56, 0, 0) := by decide +kernel
theorem cd_Pad_readAct_51 : code_ 38 51 = some (.aload_n 0, 52, 0, 0, 0) := by decide +kernel
theorem cd_Pad_readAct_52 : code_ 38 52 = some (.invokevirtual 48, 55, 42, 1, 0) := by decide +kernel
theorem cd_Pad_readAct_55 : code_ 38 55 = some (.ireturn, 56, 0, 0, 0) := by decide +kernel
theorem cd_Pad_readAct_56 : code_ 38 56 = some (.aload_n 0, 57, 0, 0, 0) := by decide +kernel
theorem cd_Pad_readAct_57 : code_ 38 57 = some (.bipush 115, 59, 0, 0, 0) := by decide +kernel
theorem cd_Pad_readAct_59 : code_ 38 59 = some (.bipush 6, 61, 0, 0, 0) := by decide +kernel
theorem cd_Pad_readAct_61 : code_ 38 61 = some (.invokevirtual 41, 64, 41, 1, 0) := by decide +kernel
theorem cd_Pad_readAct_64 : code_ 38 64 = some (.ifCond .eq 8, 67, 72, 0, 0) := by decide +kernel
theorem cd_Pad_readAct_67 : code_ 38 67 = some (.aload_n 0, 68, 0, 0, 0) := by decide +kernel
theorem cd_Pad_readAct_68 : code_ 38 68 = some (.invokevirtual 51, 71, 40, 1, 0) := by decide +kernel
theorem cd_Pad_readAct_71 : code_ 38 71 = some (.ireturn, 72, 0, 0, 0) := by decide +kernel
theorem cd_Pad_readAct_72 : code_ 38 72 = some (.aload_n 0, 73, 0, 0, 0) := by decide +kernel
theorem cd_Pad_readAct_73 : code_ 38 73 = some (.bipush 33, 75, 0, 0, 0) := by decide +kernel
theorem cd_Pad_readAct_75 : code_ 38 75 = some (.bipush 7, 77, 0, 0, 0) := by decide +kernel
theorem cd_Pad_readAct_77 : code_ 38 77 = some (.invokevirtual 41, 80, 41, 1, 0) := by decide +kernel
theorem cd_Pad_readAct_80 : code_ 38 80 = some (.ifCond .eq 25, 83, 105, 0, 0) := by decide +kernel
theorem cd_Pad_readAct_83 : code_ 38 83 = some (.aload_n 0, 84, 0, 0, 0) := by decide +kernel
theorem cd_Pad_readAct_84 : code_ 38 84 = some (.invokevirtual 48, 87, 42, 1, 0) := by decide +kernel
theorem cd_Pad_readAct_87 : code_ 38 87 = some (.ifCond .eq 16, 90, 103, 0, 0) := by decide +kernel
theorem cd_Pad_readAct_90 : code_ 38 90 = some (.aload_n 0, 91, 0, 0, 0) := by decide +kernel
theorem cd_Pad_readAct_91 : code_ 38 91 = some (.iconst 0, 92, 0, 0, 0) := by decide +kernel
theorem cd_Pad_readAct_92 : code_ 38 92 = some (.iconst 4, 93, 0, 0, 0) := by decide +kernel
theorem cd_Pad_readAct_93 : code_ 38 93 = some (.invokevirtual 45, 96, 43, 1, 0) := by decide +kernel
theorem cd_Pad_readAct_96 : code_ 38 96 = some (.ifCond .eq 7, 99, 103, 0, 0) := by decide +kernel
theorem cd_Pad_readAct_99 : code_ 38 99 = some (.iconst 1, 100, 0, 0, 0) := by decide +kernel
theorem cd_Pad_readAct_100 : code_ 38 100 = some (.goto 4, 103, 104, 0, 0) := by decide +kernel
theorem cd_Pad_readAct_103 : code_ 38 103 = some (.iconst 0, 104, 0, 0, 0) := by decide +kernel
theorem cd_Pad_readAct_104 : code_ 38 104 = some (.ireturn, 105, 0, 0, 0) := by decide +kernel
theorem cd_Pad_readAct_105 : code_ 38 105 = some (.aload_n 0, 106, 0, 0, 0) := by decide +kernel
theorem cd_Pad_readAct_106 : code_ 38 106 = some (.invokevirtual 48, 109, 42, 1, 0) := by decide +kernel
theorem cd_Pad_readAct_109 : code_ 38 109 = some (.ifCond .eq 14, 112, 123, 0, 0) := by decide +kernel
theorem cd_Pad_readAct_112 : code_ 38 112 = some (.aload_n 0, 113, 0, 0, 0) := by decide +kernel
theorem cd_Pad_readAct_113 : code_ 38 113 = some (.invokevirtual 54, 116, 39, 1, 0) := by decide +kernel
theorem cd_Pad_readAct_116 : code_ 38 116 = some (.ifCond .eq 7, 119, 123, 0, 0) := by decide +kernel
theorem cd_Pad_readAct_119 : code_ 38 119 = some (.iconst 1, 120, 0, 0, 0) := by decide +kernel
theorem cd_Pad_readAct_120 : code_ 38 120 = some (.goto 4, 123, 124, 0, 0) := by decide +kernel
theorem cd_Pad_readAct_123 : code_ 38 123 = some (.iconst 0, 124, 0, 0, 0) := by decide +kernel
theorem cd_Pad_readAct_124 : code_ 38 124 = some (.ireturn, 125, 0, 0, 0) := by decide +kernel
theorem cd_Pad_takesHandling_0 : code_ 39 0 = some (.aload_n 0, 1, 0, 0, 0) := by decide +kernel
theorem cd_Pad_takesHandling_1 : code_ 39 1 = some (.bipush 40, 3, 0, 0, 0) := by decide +kernel
theorem cd_Pad_takesHandling_3 : code_ 39 3 = some (.iconst 0, 4, 0, 0, 0) := by decide +kernel
theorem cd_Pad_takesHandling_4 : code_ 39 4 = some (.invokevirtual 41, 7, 41, 1, 0) := by decide +kernel
theorem cd_Pad_takesHandling_7 : code_ 39 7 = some (.ifCond .ne 13, 10, 20, 0, 0) := by decide +kernel
theorem cd_Pad_takesHandling_10 : code_ 39 10 = some (.aload_n 0, 11, 0, 0, 0) := by decide +kernel
theorem cd_Pad_takesHandling_11 : code_ 39 11 = some (.bipush 41, 13, 0, 0, 0) := by decide +kernel
theorem cd_Pad_takesHandling_13 : code_ 39 13 = some (.iconst 1, 14, 0, 0, 0) := by decide +kernel
theorem cd_Pad_takesHandling_14 : code_ 39 14 = some (.invokevirtual 41, 17, 41, 1, 0) := by decide +kernel
theorem cd_Pad_takesHandling_17 : code_ 39 17 = some (.ifCond .eq 5, 20, 22, 0, 0) := by decide +kernel
theorem cd_Pad_takesHandling_20 : code_ 39 20 = some (.iconst 1, 21, 0, 0, 0) := by decide +kernel
theorem cd_Pad_takesHandling_21 : code_ 39 21 = some (.ireturn, 22, 0, 0, 0) := by decide +kernel
theorem cd_Pad_takesHandling_22 : code_ 39 22 = some (.aload_n 0, 23, 0, 0, 0) := by decide +kernel
theorem cd_Pad_takesHandling_23 : code_ 39 23 = some (.bipush 60, 25, 0, 0, 0) := by decide +kernel
theorem cd_Pad_takesHandling_25 : code_ 39 25 = some (.iconst 2, 26, 0, 0, 0) := by decide +kernel
theorem cd_Pad_takesHandling_26 : code_ 39 26 = some (.invokevirtual 41, 29, 41, 1, 0) := by decide +kernel
theorem cd_Pad_takesHandling_29 : code_ 39 29 = some (.ifCond .ne 13, 32, 42, 0, 0) := by decide +kernel
theorem cd_Pad_takesHandling_32 : code_ 39 32 = some (.aload_n 0, 33, 0, 0, 0) := by decide +kernel
theorem cd_Pad_takesHandling_33 : code_ 39 33 = some (.bipush 62, 35, 0, 0, 0) := by decide +kernel
theorem cd_Pad_takesHandling_35 : code_ 39 35 = some (.iconst 3, 36, 0, 0, 0) := by decide +kernel
theorem cd_Pad_takesHandling_36 : code_ 39 36 = some (.invokevirtual 41, 39, 41, 1, 0) := by decide +kernel
theorem cd_Pad_takesHandling_39 : code_ 39 39 = some (.ifCond .eq 17, 42, 56, 0, 0) := by decide +kernel
theorem cd_Pad_takesHandling_42 : code_ 39 42 = some (.aload_n 0, 43, 0, 0, 0) := by decide +kernel
theorem cd_Pad_takesHandling_43 : code_ 39 43 = some (.iconst 1, 44, 0, 0, 0) := by decide +kernel
theorem cd_Pad_takesHandling_44 : code_ 39 44 = some (.bipush 9, 46, 0, 0, 0) := by decide +kernel
theorem cd_Pad_takesHandling_46 : code_ 39 46 = some (.invokevirtual 45, 49, 43, 1, 0) := by decide +kernel
theorem cd_Pad_takesHandling_49 : code_ 39 49 = some (.ifCond .eq 7, 52, 56, 0, 0) := by decide +kernel
theorem cd_Pad_takesHandling_52 : code_ 39 52 = some (.iconst 1, 53, 0, 0, 0) := by decide +kernel
theorem cd_Pad_takesHandling_53 : code_ 39 53 = some (.goto 4, 56, 57, 0, 0) := by decide +kernel
theorem cd_Pad_takesHandling_56 : code_ 39 56 = some (.iconst 0, 57, 0, 0, 0) := by decide +kernel
theorem cd_Pad_takesHandling_57 : code_ 39 57 = some (.ireturn, 58, 0, 0, 0) := by decide +kernel
theorem cd_Pad_takesWay_0 : code_ 40 0 = some (.aload_n 0, 1, 0, 0, 0) := by decide +kernel
theorem cd_Pad_takesWay_1 : code_ 40 1 = some (.bipush 62, 3, 0, 0, 0) := by decide +kernel
theorem cd_Pad_takesWay_3 : code_ 40 3 = some (.bipush 6, 5, 0, 0, 0) := by decide +kernel
theorem cd_Pad_takesWay_5 : code_ 40 5 = some (.invokevirtual 41, 8, 41, 1, 0) := by decide +kernel
theorem cd_Pad_takesWay_8 : code_ 40 8 = some (.ifCond .eq 11, 11, 19, 0, 0) := by decide +kernel
theorem cd_Pad_takesWay_11 : code_ 40 11 = some (.aload_n 0, 12, 0, 0, 0) := by decide +kernel
theorem cd_Pad_takesWay_12 : code_ 40 12 = some (.iconst 0, 13, 0, 0, 0) := by decide +kernel
theorem cd_Pad_takesWay_13 : code_ 40 13 = some (.bipush 9, 15, 0, 0, 0) := by decide +kernel
theorem cd_Pad_takesWay_15 : code_ 40 15 = some (.invokevirtual 45, 18, 43, 1, 0) := by decide +kernel
theorem cd_Pad_takesWay_18 : code_ 40 18 = some (.ireturn, 19, 0, 0, 0) := by decide +kernel
theorem cd_Pad_takesWay_19 : code_ 40 19 = some (.aload_n 0, 20, 0, 0, 0) := by decide +kernel
theorem cd_Pad_takesWay_20 : code_ 40 20 = some (.bipush 60, 22, 0, 0, 0) := by decide +kernel
theorem cd_Pad_takesWay_22 : code_ 40 22 = some (.bipush 6, 24, 0, 0, 0) := by decide +kernel
theorem cd_Pad_takesWay_24 : code_ 40 24 = some (.invokevirtual 41, 27, 41, 1, 0) := by decide +kernel
theorem cd_Pad_takesWay_27 : code_ 40 27 = some (.ifCond .eq 13, 30, 40, 0, 0) := by decide +kernel
theorem cd_Pad_takesWay_30 : code_ 40 30 = some (.aload_n 0, 31, 0, 0, 0) := by decide +kernel
theorem cd_Pad_takesWay_31 : code_ 40 31 = some (.iconst 0, 32, 0, 0, 0) := by decide +kernel
theorem cd_Pad_takesWay_32 : code_ 40 32 = some (.bipush 9, 34, 0, 0, 0) := by decide +kernel
theorem cd_Pad_takesWay_34 : code_ 40 34 = some (.invokevirtual 45, 37, 43, 1, 0) := by decide +kernel
theorem cd_Pad_takesWay_37 : code_ 40 37 = some (.ifCond .ne 5, 40, 42, 0, 0) := by decide +kernel
theorem cd_Pad_takesWay_40 : code_ 40 40 = some (.iconst 0, 41, 0, 0, 0) := by decide +kernel
theorem cd_Pad_takesWay_41 : code_ 40 41 = some (.ireturn, 42, 0, 0, 0) := by decide +kernel
theorem cd_Pad_takesWay_42 : code_ 40 42 = some (.aload_n 0, 43, 0, 0, 0) := by decide +kernel
theorem cd_Pad_takesWay_43 : code_ 40 43 = some (.aload_n 0, 44, 0, 0, 0) := by decide +kernel
theorem cd_Pad_takesWay_44 : code_ 40 44 = some (.getfield 28, 47, 3, 5, 0) := by decide +kernel
theorem cd_Pad_takesWay_47 : code_ 40 47 = some (.ineg, 48, 0, 0, 0) := by decide +kernel
theorem cd_Pad_takesWay_48 : code_ 40 48 = some (.putfield 28, 51, 3, 5, 0) := by decide +kernel
theorem cd_Pad_takesWay_51 : code_ 40 51 = some (.iconst 1, 52, 0, 0, 0) := by decide +kernel
theorem cd_Pad_takesWay_52 : code_ 40 52 = some (.ireturn, 53, 0, 0, 0) := by decide +kernel
theorem cd_Pad_takes_0 : code_ 41 0 = some (.aload_n 0, 1, 0, 0, 0) := by decide +kernel
theorem cd_Pad_takes_1 : code_ 41 1 = some (.invokevirtual 57, 4, 44, 1, 0) := by decide +kernel
theorem cd_Pad_takes_4 : code_ 41 4 = some (.iload_n 1, 5, 0, 0, 0) := by decide +kernel
theorem cd_Pad_takes_5 : code_ 41 5 = some (.if_icmp .eq 5, 8, 10, 0, 0) := by decide +kernel
theorem cd_Pad_takes_8 : code_ 41 8 = some (.iconst 0, 9, 0, 0, 0) := by decide +kernel
theorem cd_Pad_takes_9 : code_ 41 9 = some (.ireturn, 10, 0, 0, 0) := by decide +kernel
theorem cd_Pad_takes_10 : code_ 41 10 = some (.aload_n 0, 11, 0, 0, 0) := by decide +kernel
theorem cd_Pad_takes_11 : code_ 41 11 = some (.iload_n 2, 12, 0, 0, 0) := by decide +kernel
theorem cd_Pad_takes_12 : code_ 41 12 = some (.putfield 22, 15, 3, 3, 0) := by decide +kernel
theorem cd_Pad_takes_15 : code_ 41 15 = some (.aload_n 0, 16, 0, 0, 0) := by decide +kernel
theorem cd_Pad_takes_16 : code_ 41 16 = some (.dup, 17, 0, 0, 0) := by decide +kernel
theorem cd_Pad_takes_17 : code_ 41 17 = some (.getfield 19, 20, 3, 2, 0) := by decide +kernel
theorem cd_Pad_takes_20 : code_ 41 20 = some (.iconst 1, 21, 0, 0, 0) := by decide +kernel
theorem cd_Pad_takes_21 : code_ 41 21 = some (.iadd, 22, 0, 0, 0) := by decide +kernel
theorem cd_Pad_takes_22 : code_ 41 22 = some (.putfield 19, 25, 3, 2, 0) := by decide +kernel
theorem cd_Pad_takes_25 : code_ 41 25 = some (.iconst 1, 26, 0, 0, 0) := by decide +kernel
theorem cd_Pad_takes_26 : code_ 41 26 = some (.ireturn, 27, 0, 0, 0) := by decide +kernel
theorem cd_Pad_takesRod_0 : code_ 42 0 = some (.aload_n 0, 1, 0, 0, 0) := by decide +kernel
theorem cd_Pad_takesRod_1 : code_ 42 1 = some (.invokevirtual 57, 4, 44, 1, 0) := by decide +kernel
theorem cd_Pad_takesRod_4 : code_ 42 4 = some (.bipush 97, 6, 0, 0, 0) := by decide +kernel
theorem cd_Pad_takesRod_6 : code_ 42 6 = some (.isub, 7, 0, 0, 0) := by decide +kernel
theorem cd_Pad_takesRod_7 : code_ 42 7 = some (.istore_n 1, 8, 0, 0, 0) := by decide +kernel
theorem cd_Pad_takesRod_8 : code_ 42 8 = some (.iload_n 1, 9, 0, 0, 0) := by decide +kernel
theorem cd_Pad_takesRod_9 : code_ 42 9 = some (.invokestatic 61, 12, 52, 0, 0) := by decide +kernel
theorem cd_Pad_takesRod_12 : code_ 42 12 = some (.ifCond .ne 5, 15, 17, 0, 0) := by decide +kernel
theorem cd_Pad_takesRod_15 : code_ 42 15 = some (.iconst 0, 16, 0, 0, 0) := by decide +kernel
theorem cd_Pad_takesRod_16 : code_ 42 16 = some (.ireturn, 17, 0, 0, 0) := by decide +kernel
theorem cd_Pad_takesRod_17 : code_ 42 17 = some (.aload_n 0, 18, 0, 0, 0) := by decide +kernel
theorem cd_Pad_takesRod_18 : code_ 42 18 = some (.iload_n 1, 19, 0, 0, 0) := by decide +kernel
theorem cd_Pad_takesRod_19 : code_ 42 19 = some (.putfield 25, 22, 3, 4, 0) := by decide +kernel
theorem cd_Pad_takesRod_22 : code_ 42 22 = some (.aload_n 0, 23, 0, 0, 0) := by decide +kernel
theorem cd_Pad_takesRod_23 : code_ 42 23 = some (.dup, 24, 0, 0, 0) := by decide +kernel
theorem cd_Pad_takesRod_24 : code_ 42 24 = some (.getfield 19, 27, 3, 2, 0) := by decide +kernel
theorem cd_Pad_takesRod_27 : code_ 42 27 = some (.iconst 1, 28, 0, 0, 0) := by decide +kernel
theorem cd_Pad_takesRod_28 : code_ 42 28 = some (.iadd, 29, 0, 0, 0) := by decide +kernel
theorem cd_Pad_takesRod_29 : code_ 42 29 = some (.putfield 19, 32, 3, 2, 0) := by decide +kernel
theorem cd_Pad_takesRod_32 : code_ 42 32 = some (.iconst 1, 33, 0, 0, 0) := by decide +kernel
theorem cd_Pad_takesRod_33 : code_ 42 33 = some (.ireturn, 34, 0, 0, 0) := by decide +kernel
theorem cd_Pad_takesDigit_0 : code_ 43 0 = some (.aload_n 0, 1, 0, 0, 0) := by decide +kernel
theorem cd_Pad_takesDigit_1 : code_ 43 1 = some (.invokevirtual 57, 4, 44, 1, 0) := by decide +kernel
theorem cd_Pad_takesDigit_4 : code_ 43 4 = some (.bipush 48, 6, 0, 0, 0) := by decide +kernel
theorem cd_Pad_takesDigit_6 : code_ 43 6 = some (.isub, 7, 0, 0, 0) := by decide +kernel
theorem cd_Pad_takesDigit_7 : code_ 43 7 = some (.istore_n 3, 8, 0, 0, 0) := by decide +kernel
theorem cd_Pad_takesDigit_8 : code_ 43 8 = some (.iload_n 3, 9, 0, 0, 0) := by decide +kernel
theorem cd_Pad_takesDigit_9 : code_ 43 9 = some (.iload_n 1, 10, 0, 0, 0) := by decide +kernel
theorem cd_Pad_takesDigit_10 : code_ 43 10 = some (.iload_n 2, 11, 0, 0, 0) := by decide +kernel
theorem cd_Pad_takesDigit_11 : code_ 43 11 = some (.invokestatic 67, 14, 140, 3, 0) := by decide +kernel
theorem cd_Pad_takesDigit_14 : code_ 43 14 = some (.ifCond .ne 5, 17, 19, 0, 0) := by decide +kernel
theorem cd_Pad_takesDigit_17 : code_ 43 17 = some (.iconst 0, 18, 0, 0, 0) := by decide +kernel
theorem cd_Pad_takesDigit_18 : code_ 43 18 = some (.ireturn, 19, 0, 0, 0) := by decide +kernel
theorem cd_Pad_takesDigit_19 : code_ 43 19 = some (.aload_n 0, 20, 0, 0, 0) := by decide +kernel
theorem cd_Pad_takesDigit_20 : code_ 43 20 = some (.iload_n 3, 21, 0, 0, 0) := by decide +kernel
theorem cd_Pad_takesDigit_21 : code_ 43 21 = some (.putfield 28, 24, 3, 5, 0) := by decide +kernel
theorem cd_Pad_takesDigit_24 : code_ 43 24 = some (.aload_n 0, 25, 0, 0, 0) := by decide +kernel
theorem cd_Pad_takesDigit_25 : code_ 43 25 = some (.dup, 26, 0, 0, 0) := by decide +kernel
theorem cd_Pad_takesDigit_26 : code_ 43 26 = some (.getfield 19, 29, 3, 2, 0) := by decide +kernel
theorem cd_Pad_takesDigit_29 : code_ 43 29 = some (.iconst 1, 30, 0, 0, 0) := by decide +kernel
theorem cd_Pad_takesDigit_30 : code_ 43 30 = some (.iadd, 31, 0, 0, 0) := by decide +kernel
theorem cd_Pad_takesDigit_31 : code_ 43 31 = some (.putfield 19, 34, 3, 2, 0) := by decide +kernel
theorem cd_Pad_takesDigit_34 : code_ 43 34 = some (.iconst 1, 35, 0, 0, 0) := by decide +kernel
theorem cd_Pad_takesDigit_35 : code_ 43 35 = some (.ireturn, 36, 0, 0, 0) := by decide +kernel
theorem cd_Pad_nextSign_0 : code_ 44 0 = some (.aload_n 0, 1, 0, 0, 0) := by decide +kernel
theorem cd_Pad_nextSign_1 : code_ 44 1 = some (.getfield 19, 4, 3, 2, 0) := by decide +kernel
theorem cd_Pad_nextSign_4 : code_ 44 4 = some (.ifCond .lt 38, 7, 42, 0, 0) := by decide +kernel
theorem cd_Pad_nextSign_7 : code_ 44 7 = some (.aload_n 0, 8, 0, 0, 0) := by decide +kernel
theorem cd_Pad_nextSign_8 : code_ 44 8 = some (.getfield 19, 11, 3, 2, 0) := by decide +kernel
theorem cd_Pad_nextSign_11 : code_ 44 11 = some (.aload_n 0, 12, 0, 0, 0) := by decide +kernel
theorem cd_Pad_nextSign_12 : code_ 44 12 = some (.getfield 15, 15, 3, 1, 0) := by decide +kernel
theorem cd_Pad_nextSign_15 : code_ 44 15 = some (.if_icmp .ge 27, 18, 42, 0, 0) := by decide +kernel
theorem cd_Pad_nextSign_18 : code_ 44 18 = some (.aload_n 0, 19, 0, 0, 0) := by decide +kernel
theorem cd_Pad_nextSign_19 : code_ 44 19 = some (.getfield 19, 22, 3, 2, 0) := by decide +kernel
theorem cd_Pad_nextSign_22 : code_ 44 22 = some (.aload_n 0, 23, 0, 0, 0) := by decide +kernel
theorem cd_Pad_nextSign_23 : code_ 44 23 = some (.getfield 9, 26, 3, 0, 2) := by decide +kernel
theorem cd_Pad_nextSign_26 : code_ 44 26 = some (.arraylength, 27, 0, 0, 0) := by decide +kernel
theorem cd_Pad_nextSign_27 : code_ 44 27 = some (.if_icmp .ge 15, 30, 42, 0, 0) := by decide +kernel
theorem cd_Pad_nextSign_30 : code_ 44 30 = some (.aload_n 0, 31, 0, 0, 0) := by decide +kernel
theorem cd_Pad_nextSign_31 : code_ 44 31 = some (.getfield 9, 34, 3, 0, 2) := by decide +kernel
theorem cd_Pad_nextSign_34 : code_ 44 34 = some (.aload_n 0, 35, 0, 0, 0) := by decide +kernel
theorem cd_Pad_nextSign_35 : code_ 44 35 = some (.getfield 19, 38, 3, 2, 0) := by decide +kernel
theorem cd_Pad_nextSign_38 : code_ 44 38 = some (.iaload, 39, 0, 0, 0) := by decide +kernel
theorem cd_Pad_nextSign_39 : code_ 44 39 = some (.goto 4, 42, 43, 0, 0) := by decide +kernel
theorem cd_Pad_nextSign_42 : code_ 44 42 = some (.iconst 0, 43, 0, 0, 0) := by decide +kernel
theorem cd_Pad_nextSign_43 : code_ 44 43 = some (.ireturn, 44, 0, 0, 0) := by decide +kernel
theorem cd_Passes_init_0 : code_ 45 0 = some (.aload_n 0, 1, 0, 0, 0) := by decide +kernel
theorem cd_Passes_init_1 : code_ 45 1 = some (.invokespecial 3, 4, 0, 5, 0) := by decide +kernel
theorem cd_Passes_init_4 : code_ 45 4 = some (.aload_n 0, 5, 0, 0, 0) := by decide +kernel
theorem cd_Passes_init_5 : code_ 45 5 = some (.bipush 80, 7, 0, 0, 0) := by decide +kernel
theorem cd_Passes_init_7 : code_ 45 7 = some (.newarray .int, 9, 0, 0, 0) := by decide +kernel
theorem cd_Passes_init_9 : code_ 45 9 = some (.putfield 9, 12, 4, 0, 2) := by decide +kernel
theorem cd_Passes_init_12 : code_ 45 12 = some (.return_, 13, 0, 0, 0) := by decide +kernel
theorem cd_Passes_from_0 : code_ 46 0 = some (.iload_n 1, 1, 0, 0, 0) := by decide +kernel
theorem cd_Passes_from_1 : code_ 46 1 = some (.ifCond .lt 21, 4, 22, 0, 0) := by decide +kernel
theorem cd_Passes_from_4 : code_ 46 4 = some (.iload_n 1, 5, 0, 0, 0) := by decide +kernel
theorem cd_Passes_from_5 : code_ 46 5 = some (.aload_n 0, 6, 0, 0, 0) := by decide +kernel
theorem cd_Passes_from_6 : code_ 46 6 = some (.getfield 9, 9, 4, 0, 2) := by decide +kernel
theorem cd_Passes_from_9 : code_ 46 9 = some (.arraylength, 10, 0, 0, 0) := by decide +kernel
theorem cd_Passes_from_10 : code_ 46 10 = some (.if_icmp .ge 12, 13, 22, 0, 0) := by decide +kernel
theorem cd_Passes_from_13 : code_ 46 13 = some (.aload_n 0, 14, 0, 0, 0) := by decide +kernel
theorem cd_Passes_from_14 : code_ 46 14 = some (.getfield 9, 17, 4, 0, 2) := by decide +kernel
theorem cd_Passes_from_17 : code_ 46 17 = some (.iload_n 1, 18, 0, 0, 0) := by decide +kernel
theorem cd_Passes_from_18 : code_ 46 18 = some (.iaload, 19, 0, 0, 0) := by decide +kernel
theorem cd_Passes_from_19 : code_ 46 19 = some (.goto 5, 22, 24, 0, 0) := by decide +kernel
theorem cd_Passes_from_22 : code_ 46 22 = some (.bipush (-6), 24, 0, 0, 0) := by decide +kernel
theorem cd_Passes_from_24 : code_ 46 24 = some (.ireturn, 25, 0, 0, 0) := by decide +kernel
theorem cd_Passes_countTo_0 : code_ 47 0 = some (.iconst 0, 1, 0, 0, 0) := by decide +kernel
theorem cd_Passes_countTo_1 : code_ 47 1 = some (.istore_n 3, 2, 0, 0, 0) := by decide +kernel
theorem cd_Passes_countTo_2 : code_ 47 2 = some (.iload_n 3, 3, 0, 0, 0) := by decide +kernel
theorem cd_Passes_countTo_3 : code_ 47 3 = some (.aload_n 0, 4, 0, 0, 0) := by decide +kernel
theorem cd_Passes_countTo_4 : code_ 47 4 = some (.getfield 9, 7, 4, 0, 2) := by decide +kernel
theorem cd_Passes_countTo_7 : code_ 47 7 = some (.arraylength, 8, 0, 0, 0) := by decide +kernel
theorem cd_Passes_countTo_8 : code_ 47 8 = some (.if_icmp .ge 26, 11, 34, 0, 0) := by decide +kernel
theorem cd_Passes_countTo_11 : code_ 47 11 = some (.aload_n 0, 12, 0, 0, 0) := by decide +kernel
theorem cd_Passes_countTo_12 : code_ 47 12 = some (.getfield 9, 15, 4, 0, 2) := by decide +kernel
theorem cd_Passes_countTo_15 : code_ 47 15 = some (.iload_n 3, 16, 0, 0, 0) := by decide +kernel
theorem cd_Passes_countTo_16 : code_ 47 16 = some (.iload_n 3, 17, 0, 0, 0) := by decide +kernel
theorem cd_Passes_countTo_17 : code_ 47 17 = some (.iload_n 2, 18, 0, 0, 0) := by decide +kernel
theorem cd_Passes_countTo_18 : code_ 47 18 = some (.if_icmp .ne 7, 21, 25, 0, 0) := by decide +kernel
theorem cd_Passes_countTo_21 : code_ 47 21 = some (.iconst 0, 22, 0, 0, 0) := by decide +kernel
theorem cd_Passes_countTo_22 : code_ 47 22 = some (.goto 5, 25, 27, 0, 0) := by decide +kernel
theorem cd_Passes_countTo_25 : code_ 47 25 = some (.bipush (-6), 27, 0, 0, 0) := by decide +kernel
theorem cd_Passes_countTo_27 : code_ 47 27 = some (.iastore, 28, 0, 0, 0) := by decide +kernel
theorem cd_Passes_countTo_28 : code_ 47 28 = some (.iinc 3 1, 31, 0, 0, 0) := by decide +kernel
theorem cd_Passes_countTo_31 : code_ 47 31 = some (.goto (-29), 34, 2, 0, 0) := by decide +kernel
theorem cd_Passes_countTo_34 : code_ 47 34 = some (.iconst 1, 35, 0, 0, 0) := by decide +kernel
theorem cd_Passes_countTo_35 : code_ 47 35 = some (.istore_n 3, 36, 0, 0, 0) := by decide +kernel
theorem cd_Passes_countTo_36 : code_ 47 36 = some (.iload_n 3, 37, 0, 0, 0) := by decide +kernel
theorem cd_Passes_countTo_37 : code_ 47 37 = some (.bipush 11, 39, 0, 0, 0) := by decide +kernel
theorem cd_Passes_countTo_39 : code_ 47 39 = some (.if_icmp .ge 61, 42, 100, 0, 0) := by decide +kernel
theorem cd_Passes_countTo_42 : code_ 47 42 = some (.iconst 0, 43, 0, 0, 0) := by decide +kernel
theorem cd_Passes_countTo_43 : code_ 47 43 = some (.istore 4, 45, 0, 0, 0) := by decide +kernel
theorem cd_Passes_countTo_45 : code_ 47 45 = some (.iload 4, 47, 0, 0, 0) := by decide +kernel
theorem cd_Passes_countTo_47 : code_ 47 47 = some (.aload_n 0, 48, 0, 0, 0) := by decide +kernel
theorem cd_Passes_countTo_48 : code_ 47 48 = some (.getfield 9, 51, 4, 0, 2) := by decide +kernel
theorem cd_Passes_countTo_51 : code_ 47 51 = some (.arraylength, 52, 0, 0, 0) := by decide +kernel
theorem cd_Passes_countTo_52 : code_ 47 52 = some (.if_icmp .ge 42, 55, 94, 0, 0) := by decide +kernel
theorem cd_Passes_countTo_55 : code_ 47 55 = some (.aload_n 0, 56, 0, 0, 0) := by decide +kernel
theorem cd_Passes_countTo_56 : code_ 47 56 = some (.getfield 9, 59, 4, 0, 2) := by decide +kernel
theorem cd_Passes_countTo_59 : code_ 47 59 = some (.iload 4, 61, 0, 0, 0) := by decide +kernel
theorem cd_Passes_countTo_61 : code_ 47 61 = some (.iaload, 62, 0, 0, 0) := by decide +kernel
theorem cd_Passes_countTo_62 : code_ 47 62 = some (.bipush (-6), 64, 0, 0, 0) := by decide +kernel
theorem cd_Passes_countTo_64 : code_ 47 64 = some (.if_icmp .ne 24, 67, 88, 0, 0) := by decide +kernel
theorem cd_Passes_countTo_67 : code_ 47 67 = some (.aload_n 0, 68, 0, 0, 0) := by decide +kernel
theorem cd_Passes_countTo_68 : code_ 47 68 = some (.aload_n 1, 69, 0, 0, 0) := by decide +kernel
theorem cd_Passes_countTo_69 : code_ 47 69 = some (.iload 4, 71, 0, 0, 0) := by decide +kernel
theorem cd_Passes_countTo_71 : code_ 47 71 = some (.iload_n 3, 72, 0, 0, 0) := by decide +kernel
theorem cd_Passes_countTo_72 : code_ 47 72 = some (.iconst 1, 73, 0, 0, 0) := by decide +kernel
theorem cd_Passes_countTo_73 : code_ 47 73 = some (.isub, 74, 0, 0, 0) := by decide +kernel
theorem cd_Passes_countTo_74 : code_ 47 74 = some (.invokevirtual 15, 77, 48, 1, 0) := by decide +kernel
theorem cd_Passes_countTo_77 : code_ 47 77 = some (.ifCond .eq 11, 80, 88, 0, 0) := by decide +kernel
theorem cd_Passes_countTo_80 : code_ 47 80 = some (.aload_n 0, 81, 0, 0, 0) := by decide +kernel
theorem cd_Passes_countTo_81 : code_ 47 81 = some (.getfield 9, 84, 4, 0, 2) := by decide +kernel
theorem cd_Passes_countTo_84 : code_ 47 84 = some (.iload 4, 86, 0, 0, 0) := by decide +kernel
theorem cd_Passes_countTo_86 : code_ 47 86 = some (.iload_n 3, 87, 0, 0, 0) := by decide +kernel
theorem cd_Passes_countTo_87 : code_ 47 87 = some (.iastore, 88, 0, 0, 0) := by decide +kernel
theorem cd_Passes_countTo_88 : code_ 47 88 = some (.iinc 4 1, 91, 0, 0, 0) := by decide +kernel
theorem cd_Passes_countTo_91 : code_ 47 91 = some (.goto (-46), 94, 45, 0, 0) := by decide +kernel
theorem cd_Passes_countTo_94 : code_ 47 94 = some (.iinc 3 1, 97, 0, 0, 0) := by decide +kernel
theorem cd_Passes_countTo_97 : code_ 47 97 = some (.goto (-61), 100, 36, 0, 0) := by decide +kernel
theorem cd_Passes_countTo_100 : code_ 47 100 = some (.return_, 101, 0, 0, 0) := by decide +kernel
theorem cd_Passes_leads_0 : code_ 48 0 = some (.iconst 0, 1, 0, 0, 0) := by decide +kernel
theorem cd_Passes_leads_1 : code_ 48 1 = some (.istore 4, 3, 0, 0, 0) := by decide +kernel
theorem cd_Passes_leads_3 : code_ 48 3 = some (.iload 4, 5, 0, 0, 0) := by decide +kernel
theorem cd_Passes_leads_5 : code_ 48 5 = some (.bipush 10, 7, 0, 0, 0) := by decide +kernel
theorem cd_Passes_leads_7 : code_ 48 7 = some (.if_icmp .ge 26, 10, 33, 0, 0) := by decide +kernel
theorem cd_Passes_leads_10 : code_ 48 10 = some (.aload_n 0, 11, 0, 0, 0) := by decide +kernel
theorem cd_Passes_leads_11 : code_ 48 11 = some (.aload_n 1, 12, 0, 0, 0) := by decide +kernel
theorem cd_Passes_leads_12 : code_ 48 12 = some (.iload_n 2, 13, 0, 0, 0) := by decide +kernel
theorem cd_Passes_leads_13 : code_ 48 13 = some (.iload 4, 15, 0, 0, 0) := by decide +kernel
theorem cd_Passes_leads_15 : code_ 48 15 = some (.invokestatic 19, 18, 50, 0, 0) := by decide +kernel
theorem cd_Passes_leads_18 : code_ 48 18 = some (.invokevirtual 23, 21, 46, 1, 0) := by decide +kernel
theorem cd_Passes_leads_21 : code_ 48 21 = some (.iload_n 3, 22, 0, 0, 0) := by decide +kernel
theorem cd_Passes_leads_22 : code_ 48 22 = some (.if_icmp .ne 5, 25, 27, 0, 0) := by decide +kernel
theorem cd_Passes_leads_25 : code_ 48 25 = some (.iconst 1, 26, 0, 0, 0) := by decide +kernel
theorem cd_Passes_leads_26 : code_ 48 26 = some (.ireturn, 27, 0, 0, 0) := by decide +kernel
theorem cd_Passes_leads_27 : code_ 48 27 = some (.iinc 4 1, 30, 0, 0, 0) := by decide +kernel
theorem cd_Passes_leads_30 : code_ 48 30 = some (.goto (-27), 33, 3, 0, 0) := by decide +kernel
theorem cd_Passes_leads_33 : code_ 48 33 = some (.iconst 0, 34, 0, 0, 0) := by decide +kernel
theorem cd_Passes_leads_34 : code_ 48 34 = some (.ireturn, 35, 0, 0, 0) := by decide +kernel
theorem cd_Passes_firstFrom_0 : code_ 49 0 = some (.aload_n 0, 1, 0, 0, 0) := by decide +kernel
theorem cd_Passes_firstFrom_1 : code_ 49 1 = some (.iload_n 2, 2, 0, 0, 0) := by decide +kernel
theorem cd_Passes_firstFrom_2 : code_ 49 2 = some (.invokevirtual 23, 5, 46, 1, 0) := by decide +kernel
theorem cd_Passes_firstFrom_5 : code_ 49 5 = some (.iconst 1, 6, 0, 0, 0) := by decide +kernel
theorem cd_Passes_firstFrom_6 : code_ 49 6 = some (.isub, 7, 0, 0, 0) := by decide +kernel
theorem cd_Passes_firstFrom_7 : code_ 49 7 = some (.istore_n 3, 8, 0, 0, 0) := by decide +kernel
theorem cd_Passes_firstFrom_8 : code_ 49 8 = some (.iload_n 3, 9, 0, 0, 0) := by decide +kernel
theorem cd_Passes_firstFrom_9 : code_ 49 9 = some (.ifCond .ge 6, 12, 15, 0, 0) := by decide +kernel
theorem cd_Passes_firstFrom_12 : code_ 49 12 = some (.bipush (-6), 14, 0, 0, 0) := by decide +kernel
theorem cd_Passes_firstFrom_14 : code_ 49 14 = some (.ireturn, 15, 0, 0, 0) := by decide +kernel
theorem cd_Passes_firstFrom_15 : code_ 49 15 = some (.bipush (-6), 17, 0, 0, 0) := by decide +kernel
theorem cd_Passes_firstFrom_17 : code_ 49 17 = some (.istore 4, 19, 0, 0, 0) := by decide +kernel
theorem cd_Passes_firstFrom_19 : code_ 49 19 = some (.iconst 0, 20, 0, 0, 0) := by decide +kernel
theorem cd_Passes_firstFrom_20 : code_ 49 20 = some (.istore 5, 22, 0, 0, 0) := by decide +kernel
theorem cd_Passes_firstFrom_22 : code_ 49 22 = some (.iload 5, 24, 0, 0, 0) := by decide +kernel
theorem cd_Passes_firstFrom_24 : code_ 49 24 = some (.bipush 10, 26, 0, 0, 0) := by decide +kernel
theorem cd_Passes_firstFrom_26 : code_ 49 26 = some (.if_icmp .ge 46, 29, 72, 0, 0) := by decide +kernel
theorem cd_Passes_firstFrom_29 : code_ 49 29 = some (.aload_n 1, 30, 0, 0, 0) := by decide +kernel
theorem cd_Passes_firstFrom_30 : code_ 49 30 = some (.iload_n 2, 31, 0, 0, 0) := by decide +kernel
theorem cd_Passes_firstFrom_31 : code_ 49 31 = some (.iload 5, 33, 0, 0, 0) := by decide +kernel
theorem cd_Passes_firstFrom_33 : code_ 49 33 = some (.invokestatic 19, 36, 50, 0, 0) := by decide +kernel
theorem cd_Passes_firstFrom_36 : code_ 49 36 = some (.istore 6, 38, 0, 0, 0) := by decide +kernel
theorem cd_Passes_firstFrom_38 : code_ 49 38 = some (.aload_n 0, 39, 0, 0, 0) := by decide +kernel
theorem cd_Passes_firstFrom_39 : code_ 49 39 = some (.iload 6, 41, 0, 0, 0) := by decide +kernel
theorem cd_Passes_firstFrom_41 : code_ 49 41 = some (.invokevirtual 23, 44, 46, 1, 0) := by decide +kernel
theorem cd_Passes_firstFrom_44 : code_ 49 44 = some (.iload_n 3, 45, 0, 0, 0) := by decide +kernel
theorem cd_Passes_firstFrom_45 : code_ 49 45 = some (.if_icmp .ne 21, 48, 66, 0, 0) := by decide +kernel
theorem cd_Passes_firstFrom_48 : code_ 49 48 = some (.iload 4, 50, 0, 0, 0) := by decide +kernel
theorem cd_Passes_firstFrom_50 : code_ 49 50 = some (.bipush (-6), 52, 0, 0, 0) := by decide +kernel
theorem cd_Passes_firstFrom_52 : code_ 49 52 = some (.if_icmp .eq 10, 55, 62, 0, 0) := by decide +kernel
theorem cd_Passes_firstFrom_55 : code_ 49 55 = some (.iload 6, 57, 0, 0, 0) := by decide +kernel
theorem cd_Passes_firstFrom_57 : code_ 49 57 = some (.iload 4, 59, 0, 0, 0) := by decide +kernel
theorem cd_Passes_firstFrom_59 : code_ 49 59 = some (.if_icmp .ge 7, 62, 66, 0, 0) := by decide +kernel
theorem cd_Passes_firstFrom_62 : code_ 49 62 = some (.iload 6, 64, 0, 0, 0) := by decide +kernel
theorem cd_Passes_firstFrom_64 : code_ 49 64 = some (.istore 4, 66, 0, 0, 0) := by decide +kernel
theorem cd_Passes_firstFrom_66 : code_ 49 66 = some (.iinc 5 1, 69, 0, 0, 0) := by decide +kernel
theorem cd_Passes_firstFrom_69 : code_ 49 69 = some (.goto (-47), 72, 22, 0, 0) := by decide +kernel
theorem cd_Passes_firstFrom_72 : code_ 49 72 = some (.iload 4, 74, 0, 0, 0) := by decide +kernel
theorem cd_Passes_firstFrom_74 : code_ 49 74 = some (.ireturn, 75, 0, 0, 0) := by decide +kernel
theorem cd_Passes_receiver_0 : code_ 50 0 = some (.iload_n 1, 1, 0, 0, 0) := by decide +kernel
theorem cd_Passes_receiver_1 : code_ 50 1 = some (.bipush 10, 3, 0, 0, 0) := by decide +kernel
theorem cd_Passes_receiver_3 : code_ 50 3 = some (.idiv, 4, 0, 0, 0) := by decide +kernel
theorem cd_Passes_receiver_4 : code_ 50 4 = some (.istore_n 3, 5, 0, 0, 0) := by decide +kernel
theorem cd_Passes_receiver_5 : code_ 50 5 = some (.iload_n 1, 6, 0, 0, 0) := by decide +kernel
theorem cd_Passes_receiver_6 : code_ 50 6 = some (.bipush 10, 8, 0, 0, 0) := by decide +kernel
theorem cd_Passes_receiver_8 : code_ 50 8 = some (.irem, 9, 0, 0, 0) := by decide +kernel
theorem cd_Passes_receiver_9 : code_ 50 9 = some (.istore 4, 11, 0, 0, 0) := by decide +kernel
theorem cd_Passes_receiver_11 : code_ 50 11 = some (.aload_n 0, 12, 0, 0, 0) := by decide +kernel
theorem cd_Passes_receiver_12 : code_ 50 12 = some (.ifnull 12, 15, 24, 0, 0) := by decide +kernel
theorem cd_Passes_receiver_15 : code_ 50 15 = some (.iload_n 3, 16, 0, 0, 0) := by decide +kernel
theorem cd_Passes_receiver_16 : code_ 50 16 = some (.iload 4, 18, 0, 0, 0) := by decide +kernel
theorem cd_Passes_receiver_18 : code_ 50 18 = some (.invokestatic 27, 21, 53, 0, 0) := by decide +kernel
theorem cd_Passes_receiver_21 : code_ 50 21 = some (.ifCond .ne 5, 24, 26, 0, 0) := by decide +kernel
theorem cd_Passes_receiver_24 : code_ 50 24 = some (.iconst (-1), 25, 0, 0, 0) := by decide +kernel
theorem cd_Passes_receiver_25 : code_ 50 25 = some (.ireturn, 26, 0, 0, 0) := by decide +kernel
theorem cd_Passes_receiver_26 : code_ 50 26 = some (.iload_n 2, 27, 0, 0, 0) := by decide +kernel
theorem cd_Passes_receiver_27 : code_ 50 27 = some (.iconst 2, 28, 0, 0, 0) := by decide +kernel
theorem cd_Passes_receiver_28 : code_ 50 28 = some (.if_icmp .lt 18, 31, 46, 0, 0) := by decide +kernel
theorem cd_Passes_receiver_31 : code_ 50 31 = some (.iload_n 3, 32, 0, 0, 0) := by decide +kernel
theorem cd_Passes_receiver_32 : code_ 50 32 = some (.aload_n 0, 33, 0, 0, 0) := by decide +kernel
theorem cd_Passes_receiver_33 : code_ 50 33 = some (.iload_n 3, 34, 0, 0, 0) := by decide +kernel
theorem cd_Passes_receiver_34 : code_ 50 34 = some (.iload 4, 36, 0, 0, 0) := by decide +kernel
theorem cd_Passes_receiver_36 : code_ 50 36 = some (.iload_n 2, 37, 0, 0, 0) := by decide +kernel
theorem cd_Passes_receiver_37 : code_ 50 37 = some (.iconst 2, 38, 0, 0, 0) := by decide +kernel
theorem cd_Passes_receiver_38 : code_ 50 38 = some (.isub, 39, 0, 0, 0) := by decide +kernel
theorem cd_Passes_receiver_39 : code_ 50 39 = some (.invokevirtual 33, 42, 95, 1, 0) := by decide +kernel
theorem cd_Passes_receiver_42 : code_ 50 42 = some (.invokestatic 39, 45, 51, 0, 0) := by decide +kernel
theorem cd_Passes_receiver_45 : code_ 50 45 = some (.ireturn, 46, 0, 0, 0) := by decide +kernel
theorem cd_Passes_receiver_46 : code_ 50 46 = some (.iload_n 2, 47, 0, 0, 0) := by decide +kernel
theorem cd_Passes_receiver_47 : code_ 50 47 = some (.ifCond .ne 10, 50, 57, 0, 0) := by decide +kernel
theorem cd_Passes_receiver_50 : code_ 50 50 = some (.iload 4, 52, 0, 0, 0) := by decide +kernel
theorem cd_Passes_receiver_52 : code_ 50 52 = some (.iconst 1, 53, 0, 0, 0) := by decide +kernel
theorem cd_Passes_receiver_53 : code_ 50 53 = some (.isub, 54, 0, 0, 0) := by decide +kernel
theorem cd_Passes_receiver_54 : code_ 50 54 = some (.goto 7, 57, 61, 0, 0) := by decide +kernel
theorem cd_Passes_receiver_57 : code_ 50 57 = some (.iload 4, 59, 0, 0, 0) := by decide +kernel
theorem cd_Passes_receiver_59 : code_ 50 59 = some (.iconst 1, 60, 0, 0, 0) := by decide +kernel
theorem cd_Passes_receiver_60 : code_ 50 60 = some (.iadd, 61, 0, 0, 0) := by decide +kernel
theorem cd_Passes_receiver_61 : code_ 50 61 = some (.istore 5, 63, 0, 0, 0) := by decide +kernel
theorem cd_Passes_receiver_63 : code_ 50 63 = some (.iload_n 3, 64, 0, 0, 0) := by decide +kernel
theorem cd_Passes_receiver_64 : code_ 50 64 = some (.iload 5, 66, 0, 0, 0) := by decide +kernel
theorem cd_Passes_receiver_66 : code_ 50 66 = some (.invokestatic 27, 69, 53, 0, 0) := by decide +kernel
theorem cd_Passes_receiver_69 : code_ 50 69 = some (.ifCond .eq 13, 72, 82, 0, 0) := by decide +kernel
theorem cd_Passes_receiver_72 : code_ 50 72 = some (.bipush 10, 74, 0, 0, 0) := by decide +kernel
theorem cd_Passes_receiver_74 : code_ 50 74 = some (.iload_n 3, 75, 0, 0, 0) := by decide +kernel
theorem cd_Passes_receiver_75 : code_ 50 75 = some (.imul, 76, 0, 0, 0) := by decide +kernel
theorem cd_Passes_receiver_76 : code_ 50 76 = some (.iload 5, 78, 0, 0, 0) := by decide +kernel
theorem cd_Passes_receiver_78 : code_ 50 78 = some (.iadd, 79, 0, 0, 0) := by decide +kernel
theorem cd_Passes_receiver_79 : code_ 50 79 = some (.goto 4, 82, 83, 0, 0) := by decide +kernel
theorem cd_Passes_receiver_82 : code_ 50 82 = some (.iconst (-1), 83, 0, 0, 0) := by decide +kernel
theorem cd_Passes_receiver_83 : code_ 50 83 = some (.ireturn, 84, 0, 0, 0) := by decide +kernel
theorem cd_Passes_ownOnly_0 : code_ 51 0 = some (.iload_n 1, 1, 0, 0, 0) := by decide +kernel
theorem cd_Passes_ownOnly_1 : code_ 51 1 = some (.ifCond .lt 21, 4, 22, 0, 0) := by decide +kernel
theorem cd_Passes_ownOnly_4 : code_ 51 4 = some (.iload_n 1, 5, 0, 0, 0) := by decide +kernel
theorem cd_Passes_ownOnly_5 : code_ 51 5 = some (.bipush 10, 7, 0, 0, 0) := by decide +kernel
theorem cd_Passes_ownOnly_7 : code_ 51 7 = some (.idiv, 8, 0, 0, 0) := by decide +kernel
theorem cd_Passes_ownOnly_8 : code_ 51 8 = some (.invokestatic 43, 11, 54, 0, 0) := by decide +kernel
theorem cd_Passes_ownOnly_11 : code_ 51 11 = some (.iload_n 0, 12, 0, 0, 0) := by decide +kernel
theorem cd_Passes_ownOnly_12 : code_ 51 12 = some (.invokestatic 43, 15, 54, 0, 0) := by decide +kernel
theorem cd_Passes_ownOnly_15 : code_ 51 15 = some (.if_icmp .ne 7, 18, 22, 0, 0) := by decide +kernel
theorem cd_Passes_ownOnly_18 : code_ 51 18 = some (.iload_n 1, 19, 0, 0, 0) := by decide +kernel
theorem cd_Passes_ownOnly_19 : code_ 51 19 = some (.goto 4, 22, 23, 0, 0) := by decide +kernel
theorem cd_Passes_ownOnly_22 : code_ 51 22 = some (.iconst (-1), 23, 0, 0, 0) := by decide +kernel
theorem cd_Passes_ownOnly_23 : code_ 51 23 = some (.ireturn, 24, 0, 0, 0) := by decide +kernel
theorem cd_Rods_isRod_0 : code_ 52 0 = some (.iload_n 0, 1, 0, 0, 0) := by decide +kernel
theorem cd_Rods_isRod_1 : code_ 52 1 = some (.ifCond .lt 13, 4, 14, 0, 0) := by decide +kernel
theorem cd_Rods_isRod_4 : code_ 52 4 = some (.iload_n 0, 5, 0, 0, 0) := by decide +kernel
theorem cd_Rods_isRod_5 : code_ 52 5 = some (.bipush 8, 7, 0, 0, 0) := by decide +kernel
theorem cd_Rods_isRod_7 : code_ 52 7 = some (.if_icmp .ge 7, 10, 14, 0, 0) := by decide +kernel
theorem cd_Rods_isRod_10 : code_ 52 10 = some (.iconst 1, 11, 0, 0, 0) := by decide +kernel
theorem cd_Rods_isRod_11 : code_ 52 11 = some (.goto 4, 14, 15, 0, 0) := by decide +kernel
theorem cd_Rods_isRod_14 : code_ 52 14 = some (.iconst 0, 15, 0, 0, 0) := by decide +kernel
theorem cd_Rods_isRod_15 : code_ 52 15 = some (.ireturn, 16, 0, 0, 0) := by decide +kernel
theorem cd_Rods_isMan_0 : code_ 53 0 = some (.iload_n 1, 1, 0, 0, 0) := by decide +kernel
theorem cd_Rods_isMan_1 : code_ 53 1 = some (.ifCond .lt 15, 4, 16, 0, 0) := by decide +kernel
theorem cd_Rods_isMan_4 : code_ 53 4 = some (.iload_n 1, 5, 0, 0, 0) := by decide +kernel
theorem cd_Rods_isMan_5 : code_ 53 5 = some (.iload_n 0, 6, 0, 0, 0) := by decide +kernel
theorem cd_Rods_isMan_6 : code_ 53 6 = some (.invokestatic 9, 9, 55, 0, 0) := by decide +kernel
theorem cd_Rods_isMan_9 : code_ 53 9 = some (.if_icmp .ge 7, 12, 16, 0, 0) := by decide +kernel
theorem cd_Rods_isMan_12 : code_ 53 12 = some (.iconst 1, 13, 0, 0, 0) := by decide +kernel
theorem cd_Rods_isMan_13 : code_ 53 13 = some (.goto 4, 16, 17, 0, 0) := by decide +kernel
theorem cd_Rods_isMan_16 : code_ 53 16 = some (.iconst 0, 17, 0, 0, 0) := by decide +kernel
theorem cd_Rods_isMan_17 : code_ 53 17 = some (.ireturn, 18, 0, 0, 0) := by decide +kernel
theorem cd_Rods_sideOf_0 : code_ 54 0 = some (.iload_n 0, 1, 0, 0, 0) := by decide +kernel
theorem cd_Rods_sideOf_1 : code_ 54 1 = some (.ifCond .lt 19, 4, 20, 0, 0) := by decide +kernel
theorem cd_Rods_sideOf_4 : code_ 54 4 = some (.iload_n 0, 5, 0, 0, 0) := by decide +kernel
theorem cd_Rods_sideOf_5 : code_ 54 5 = some (.getstatic 15, 8, 0, 0, 0) := by decide +kernel
theorem cd_Rods_sideOf_8 : code_ 54 8 = some (.arraylength, 9, 0, 0, 0) := by decide +kernel
theorem cd_Rods_sideOf_9 : code_ 54 9 = some (.if_icmp .ge 11, 12, 20, 0, 0) := by decide +kernel
theorem cd_Rods_sideOf_12 : code_ 54 12 = some (.getstatic 15, 15, 0, 0, 0) := by decide +kernel
theorem cd_Rods_sideOf_15 : code_ 54 15 = some (.iload_n 0, 16, 0, 0, 0) := by decide +kernel
theorem cd_Rods_sideOf_16 : code_ 54 16 = some (.iaload, 17, 0, 0, 0) := by decide +kernel
theorem cd_Rods_sideOf_17 : code_ 54 17 = some (.goto 5, 20, 22, 0, 0) := by decide +kernel
theorem cd_Rods_sideOf_20 : code_ 54 20 = some (.bipush (-6), 22, 0, 0, 0) := by decide +kernel
theorem cd_Rods_sideOf_22 : code_ 54 22 = some (.ireturn, 23, 0, 0, 0) := by decide +kernel
theorem cd_Rods_menOf_0 : code_ 55 0 = some (.iload_n 0, 1, 0, 0, 0) := by decide +kernel
theorem cd_Rods_menOf_1 : code_ 55 1 = some (.ifCond .lt 19, 4, 20, 0, 0) := by decide +kernel
theorem cd_Rods_menOf_4 : code_ 55 4 = some (.iload_n 0, 5, 0, 0, 0) := by decide +kernel
theorem cd_Rods_menOf_5 : code_ 55 5 = some (.getstatic 19, 8, 1, 0, 0) := by decide +kernel
theorem cd_Rods_menOf_8 : code_ 55 8 = some (.arraylength, 9, 0, 0, 0) := by decide +kernel
theorem cd_Rods_menOf_9 : code_ 55 9 = some (.if_icmp .ge 11, 12, 20, 0, 0) := by decide +kernel
theorem cd_Rods_menOf_12 : code_ 55 12 = some (.getstatic 19, 15, 1, 0, 0) := by decide +kernel
theorem cd_Rods_menOf_15 : code_ 55 15 = some (.iload_n 0, 16, 0, 0, 0) := by decide +kernel
theorem cd_Rods_menOf_16 : code_ 55 16 = some (.iaload, 17, 0, 0, 0) := by decide +kernel
theorem cd_Rods_menOf_17 : code_ 55 17 = some (.goto 4, 20, 21, 0, 0) := by decide +kernel
theorem cd_Rods_menOf_20 : code_ 55 20 = some (.iconst 0, 21, 0, 0, 0) := by decide +kernel
theorem cd_Rods_menOf_21 : code_ 55 21 = some (.ireturn, 22, 0, 0, 0) := by decide +kernel
theorem cd_Rods_gapOf_0 : code_ 56 0 = some (.iload_n 0, 1, 0, 0, 0) := by decide +kernel
theorem cd_Rods_gapOf_1 : code_ 56 1 = some (.ifCond .lt 19, 4, 20, 0, 0) := by decide +kernel
theorem cd_Rods_gapOf_4 : code_ 56 4 = some (.iload_n 0, 5, 0, 0, 0) := by decide +kernel
theorem cd_Rods_gapOf_5 : code_ 56 5 = some (.getstatic 22, 8, 2, 0, 0) := by decide +kernel
theorem cd_Rods_gapOf_8 : code_ 56 8 = some (.arraylength, 9, 0, 0, 0) := by decide +kernel
theorem cd_Rods_gapOf_9 : code_ 56 9 = some (.if_icmp .ge 11, 12, 20, 0, 0) := by decide +kernel
theorem cd_Rods_gapOf_12 : code_ 56 12 = some (.getstatic 22, 15, 2, 0, 0) := by decide +kernel
theorem cd_Rods_gapOf_15 : code_ 56 15 = some (.iload_n 0, 16, 0, 0, 0) := by decide +kernel
theorem cd_Rods_gapOf_16 : code_ 56 16 = some (.iaload, 17, 0, 0, 0) := by decide +kernel
theorem cd_Rods_gapOf_17 : code_ 56 17 = some (.goto 4, 20, 21, 0, 0) := by decide +kernel
theorem cd_Rods_gapOf_20 : code_ 56 20 = some (.iconst 0, 21, 0, 0, 0) := by decide +kernel
theorem cd_Rods_gapOf_21 : code_ 56 21 = some (.ireturn, 22, 0, 0, 0) := by decide +kernel
theorem cd_Rods_lastSlide_0 : code_ 57 0 = some (.bipush 40, 2, 0, 0, 0) := by decide +kernel
theorem cd_Rods_lastSlide_2 : code_ 57 2 = some (.iload_n 0, 3, 0, 0, 0) := by decide +kernel
theorem cd_Rods_lastSlide_3 : code_ 57 3 = some (.invokestatic 9, 6, 55, 0, 0) := by decide +kernel
theorem cd_Rods_lastSlide_6 : code_ 57 6 = some (.iconst 1, 7, 0, 0, 0) := by decide +kernel
theorem cd_Rods_lastSlide_7 : code_ 57 7 = some (.isub, 8, 0, 0, 0) := by decide +kernel
theorem cd_Rods_lastSlide_8 : code_ 57 8 = some (.iload_n 0, 9, 0, 0, 0) := by decide +kernel
theorem cd_Rods_lastSlide_9 : code_ 57 9 = some (.invokestatic 25, 12, 56, 0, 0) := by decide +kernel
theorem cd_Rods_lastSlide_12 : code_ 57 12 = some (.imul, 13, 0, 0, 0) := by decide +kernel
theorem cd_Rods_lastSlide_13 : code_ 57 13 = some (.isub, 14, 0, 0, 0) := by decide +kernel
theorem cd_Rods_lastSlide_14 : code_ 57 14 = some (.ireturn, 15, 0, 0, 0) := by decide +kernel
theorem cd_Rods_isOf_0 : code_ 58 0 = some (.iload_n 0, 1, 0, 0, 0) := by decide +kernel
theorem cd_Rods_isOf_1 : code_ 58 1 = some (.invokestatic 28, 4, 52, 0, 0) := by decide +kernel
theorem cd_Rods_isOf_4 : code_ 58 4 = some (.ifCond .eq 15, 7, 19, 0, 0) := by decide +kernel
theorem cd_Rods_isOf_7 : code_ 58 7 = some (.iload_n 0, 8, 0, 0, 0) := by decide +kernel
theorem cd_Rods_isOf_8 : code_ 58 8 = some (.invokestatic 32, 11, 54, 0, 0) := by decide +kernel
theorem cd_Rods_isOf_11 : code_ 58 11 = some (.iload_n 1, 12, 0, 0, 0) := by decide +kernel
theorem cd_Rods_isOf_12 : code_ 58 12 = some (.if_icmp .ne 7, 15, 19, 0, 0) := by decide +kernel
theorem cd_Rods_isOf_15 : code_ 58 15 = some (.iconst 1, 16, 0, 0, 0) := by decide +kernel
theorem cd_Rods_isOf_16 : code_ 58 16 = some (.goto 4, 19, 20, 0, 0) := by decide +kernel
theorem cd_Rods_isOf_19 : code_ 58 19 = some (.iconst 0, 20, 0, 0, 0) := by decide +kernel
theorem cd_Rods_isOf_20 : code_ 58 20 = some (.ireturn, 21, 0, 0, 0) := by decide +kernel
theorem cd_Rods_keeperOf_0 : code_ 59 0 = some (.iload_n 0, 1, 0, 0, 0) := by decide +kernel
theorem cd_Rods_keeperOf_1 : code_ 59 1 = some (.ifCond .ne 7, 4, 8, 0, 0) := by decide +kernel
theorem cd_Rods_keeperOf_4 : code_ 59 4 = some (.iconst 0, 5, 0, 0, 0) := by decide +kernel
theorem cd_Rods_keeperOf_5 : code_ 59 5 = some (.goto 5, 8, 10, 0, 0) := by decide +kernel
theorem cd_Rods_keeperOf_8 : code_ 59 8 = some (.bipush 7, 10, 0, 0, 0) := by decide +kernel
theorem cd_Rods_keeperOf_10 : code_ 59 10 = some (.ireturn, 11, 0, 0, 0) := by decide +kernel
theorem cd_Rods_backsOf_0 : code_ 60 0 = some (.iload_n 0, 1, 0, 0, 0) := by decide +kernel
theorem cd_Rods_backsOf_1 : code_ 60 1 = some (.ifCond .ne 7, 4, 8, 0, 0) := by decide +kernel
theorem cd_Rods_backsOf_4 : code_ 60 4 = some (.iconst 1, 5, 0, 0, 0) := by decide +kernel
theorem cd_Rods_backsOf_5 : code_ 60 5 = some (.goto 5, 8, 10, 0, 0) := by decide +kernel
theorem cd_Rods_backsOf_8 : code_ 60 8 = some (.bipush 6, 10, 0, 0, 0) := by decide +kernel
theorem cd_Rods_backsOf_10 : code_ 60 10 = some (.ireturn, 11, 0, 0, 0) := by decide +kernel
theorem cd_Rods_stepToGoalOf_0 : code_ 61 0 = some (.iload_n 0, 1, 0, 0, 0) := by decide +kernel
theorem cd_Rods_stepToGoalOf_1 : code_ 61 1 = some (.ifCond .ne 7, 4, 8, 0, 0) := by decide +kernel
theorem cd_Rods_stepToGoalOf_4 : code_ 61 4 = some (.iconst 1, 5, 0, 0, 0) := by decide +kernel
theorem cd_Rods_stepToGoalOf_5 : code_ 61 5 = some (.goto 4, 8, 9, 0, 0) := by decide +kernel
theorem cd_Rods_stepToGoalOf_8 : code_ 61 8 = some (.iconst (-1), 9, 0, 0, 0) := by decide +kernel
theorem cd_Rods_stepToGoalOf_9 : code_ 61 9 = some (.ireturn, 10, 0, 0, 0) := by decide +kernel
theorem cd_Sights_init_0 : code_ 62 0 = some (.aload_n 0, 1, 0, 0, 0) := by decide +kernel
theorem cd_Sights_init_1 : code_ 62 1 = some (.invokespecial 3, 4, 0, 5, 0) := by decide +kernel
theorem cd_Sights_init_4 : code_ 62 4 = some (.aload_n 0, 5, 0, 0, 0) := by decide +kernel
theorem cd_Sights_init_5 : code_ 62 5 = some (.bipush 8, 7, 0, 0, 0) := by decide +kernel
theorem cd_Sights_init_7 : code_ 62 7 = some (.newarray .int, 9, 0, 0, 0) := by decide +kernel
theorem cd_Sights_init_9 : code_ 62 9 = some (.putfield 9, 12, 5, 0, 2) := by decide +kernel
theorem cd_Sights_init_12 : code_ 62 12 = some (.aload_n 0, 13, 0, 0, 0) := by decide +kernel
theorem cd_Sights_init_13 : code_ 62 13 = some (.bipush 8, 15, 0, 0, 0) := by decide +kernel
theorem cd_Sights_init_15 : code_ 62 15 = some (.newarray .int, 17, 0, 0, 0) := by decide +kernel
theorem cd_Sights_init_17 : code_ 62 17 = some (.putfield 15, 20, 5, 1, 2) := by decide +kernel
theorem cd_Sights_init_20 : code_ 62 20 = some (.aload_n 0, 21, 0, 0, 0) := by decide +kernel
theorem cd_Sights_init_21 : code_ 62 21 = some (.bipush 30, 23, 0, 0, 0) := by decide +kernel
theorem cd_Sights_init_23 : code_ 62 23 = some (.newarray .int, 25, 0, 0, 0) := by decide +kernel
theorem cd_Sights_init_25 : code_ 62 25 = some (.putfield 18, 28, 5, 2, 2) := by decide +kernel
theorem cd_Sights_init_28 : code_ 62 28 = some (.return_, 29, 0, 0, 0) := by decide +kernel
theorem cd_Sights_size_0 : code_ 63 0 = some (.aload_n 0, 1, 0, 0, 0) := by decide +kernel
theorem cd_Sights_size_1 : code_ 63 1 = some (.getfield 21, 4, 5, 3, 0) := by decide +kernel
theorem cd_Sights_size_4 : code_ 63 4 = some (.ireturn, 5, 0, 0, 0) := by decide +kernel
theorem cd_Sights_add_0 : code_ 64 0 = some (.aload_n 0, 1, 0, 0, 0) := by decide +kernel
theorem cd_Sights_add_1 : code_ 64 1 = some (.getfield 21, 4, 5, 3, 0) := by decide +kernel
theorem cd_Sights_add_4 : code_ 64 4 = some (.ifCond .lt 27, 7, 31, 0, 0) := by decide +kernel
theorem cd_Sights_add_7 : code_ 64 7 = some (.aload_n 0, 8, 0, 0, 0) := by decide +kernel
theorem cd_Sights_add_8 : code_ 64 8 = some (.getfield 21, 11, 5, 3, 0) := by decide +kernel
theorem cd_Sights_add_11 : code_ 64 11 = some (.aload_n 0, 12, 0, 0, 0) := by decide +kernel
theorem cd_Sights_add_12 : code_ 64 12 = some (.getfield 9, 15, 5, 0, 2) := by decide +kernel
theorem cd_Sights_add_15 : code_ 64 15 = some (.arraylength, 16, 0, 0, 0) := by decide +kernel
theorem cd_Sights_add_16 : code_ 64 16 = some (.if_icmp .ge 15, 19, 31, 0, 0) := by decide +kernel
theorem cd_Sights_add_19 : code_ 64 19 = some (.aload_n 0, 20, 0, 0, 0) := by decide +kernel
theorem cd_Sights_add_20 : code_ 64 20 = some (.getfield 21, 23, 5, 3, 0) := by decide +kernel
theorem cd_Sights_add_23 : code_ 64 23 = some (.aload_n 0, 24, 0, 0, 0) := by decide +kernel
theorem cd_Sights_add_24 : code_ 64 24 = some (.getfield 15, 27, 5, 1, 2) := by decide +kernel
theorem cd_Sights_add_27 : code_ 64 27 = some (.arraylength, 28, 0, 0, 0) := by decide +kernel
theorem cd_Sights_add_28 : code_ 64 28 = some (.if_icmp .lt 5, 31, 33, 0, 0) := by decide +kernel
theorem cd_Sights_add_31 : code_ 64 31 = some (.iconst 0, 32, 0, 0, 0) := by decide +kernel
theorem cd_Sights_add_32 : code_ 64 32 = some (.ireturn, 33, 0, 0, 0) := by decide +kernel
theorem cd_Sights_add_33 : code_ 64 33 = some (.aload_n 0, 34, 0, 0, 0) := by decide +kernel
theorem cd_Sights_add_34 : code_ 64 34 = some (.getfield 9, 37, 5, 0, 2) := by decide +kernel
theorem cd_Sights_add_37 : code_ 64 37 = some (.aload_n 0, 38, 0, 0, 0) := by decide +kernel
theorem cd_Sights_add_38 : code_ 64 38 = some (.getfield 21, 41, 5, 3, 0) := by decide +kernel
theorem cd_Sights_add_41 : code_ 64 41 = some (.iload_n 1, 42, 0, 0, 0) := by decide +kernel
theorem cd_Sights_add_42 : code_ 64 42 = some (.iastore, 43, 0, 0, 0) := by decide +kernel
theorem cd_Sights_add_43 : code_ 64 43 = some (.aload_n 0, 44, 0, 0, 0) := by decide +kernel
theorem cd_Sights_add_44 : code_ 64 44 = some (.getfield 15, 47, 5, 1, 2) := by decide +kernel
theorem cd_Sights_add_47 : code_ 64 47 = some (.aload_n 0, 48, 0, 0, 0) := by decide +kernel
theorem cd_Sights_add_48 : code_ 64 48 = some (.getfield 21, 51, 5, 3, 0) := by decide +kernel
theorem cd_Sights_add_51 : code_ 64 51 = some (.iload_n 2, 52, 0, 0, 0) := by decide +kernel
theorem cd_Sights_add_52 : code_ 64 52 = some (.ifCond .eq 7, 55, 59, 0, 0) := by decide +kernel
theorem cd_Sights_add_55 : code_ 64 55 = some (.iconst 1, 56, 0, 0, 0) := by decide +kernel
theorem cd_Sights_add_56 : code_ 64 56 = some (.goto 4, 59, 60, 0, 0) := by decide +kernel
theorem cd_Sights_add_59 : code_ 64 59 = some (.iconst 0, 60, 0, 0, 0) := by decide +kernel
theorem cd_Sights_add_60 : code_ 64 60 = some (.iastore, 61, 0, 0, 0) := by decide +kernel
theorem cd_Sights_add_61 : code_ 64 61 = some (.aload_n 0, 62, 0, 0, 0) := by decide +kernel
theorem cd_Sights_add_62 : code_ 64 62 = some (.dup, 63, 0, 0, 0) := by decide +kernel
theorem cd_Sights_add_63 : code_ 64 63 = some (.getfield 21, 66, 5, 3, 0) := by decide +kernel
theorem cd_Sights_add_66 : code_ 64 66 = some (.iconst 1, 67, 0, 0, 0) := by decide +kernel
theorem cd_Sights_add_67 : code_ 64 67 = some (.iadd, 68, 0, 0, 0) := by decide +kernel
theorem cd_Sights_add_68 : code_ 64 68 = some (.putfield 21, 71, 5, 3, 0) := by decide +kernel
theorem cd_Sights_add_71 : code_ 64 71 = some (.iconst 1, 72, 0, 0, 0) := by decide +kernel
theorem cd_Sights_add_72 : code_ 64 72 = some (.ireturn, 73, 0, 0, 0) := by decide +kernel
theorem cd_Sights_clear_0 : code_ 65 0 = some (.aload_n 0, 1, 0, 0, 0) := by decide +kernel
theorem cd_Sights_clear_1 : code_ 65 1 = some (.iconst 0, 2, 0, 0, 0) := by decide +kernel
theorem cd_Sights_clear_2 : code_ 65 2 = some (.putfield 21, 5, 5, 3, 0) := by decide +kernel
theorem cd_Sights_clear_5 : code_ 65 5 = some (.return_, 6, 0, 0, 0) := by decide +kernel
theorem cd_Sights_copyFrom_0 : code_ 66 0 = some (.aload_n 1, 1, 0, 0, 0) := by decide +kernel
theorem cd_Sights_copyFrom_1 : code_ 66 1 = some (.ifnonnull 4, 4, 5, 0, 0) := by decide +kernel
theorem cd_Sights_copyFrom_4 : code_ 66 4 = some (.return_, 5, 0, 0, 0) := by decide +kernel
theorem cd_Sights_copyFrom_5 : code_ 66 5 = some (.aload_n 0, 6, 0, 0, 0) := by decide +kernel
theorem cd_Sights_copyFrom_6 : code_ 66 6 = some (.aload_n 1, 7, 0, 0, 0) := by decide +kernel
theorem cd_Sights_copyFrom_7 : code_ 66 7 = some (.getfield 21, 10, 5, 3, 0) := by decide +kernel
theorem cd_Sights_copyFrom_10 : code_ 66 10 = some (.putfield 21, 13, 5, 3, 0) := by decide +kernel
theorem cd_Sights_copyFrom_13 : code_ 66 13 = some (.aload_n 1, 14, 0, 0, 0) := by decide +kernel
theorem cd_Sights_copyFrom_14 : code_ 66 14 = some (.getfield 9, 17, 5, 0, 2) := by decide +kernel
theorem cd_Sights_copyFrom_17 : code_ 66 17 = some (.aload_n 0, 18, 0, 0, 0) := by decide +kernel
theorem cd_Sights_copyFrom_18 : code_ 66 18 = some (.getfield 9, 21, 5, 0, 2) := by decide +kernel
theorem cd_Sights_copyFrom_21 : code_ 66 21 = some (.invokestatic 25, 24, 144, 3, 0) := by decide +kernel
theorem cd_Sights_copyFrom_24 : code_ 66 24 = some (.aload_n 1, 25, 0, 0, 0) := by decide +kernel
theorem cd_Sights_copyFrom_25 : code_ 66 25 = some (.getfield 15, 28, 5, 1, 2) := by decide +kernel
theorem cd_Sights_copyFrom_28 : code_ 66 28 = some (.aload_n 0, 29, 0, 0, 0) := by decide +kernel
theorem cd_Sights_copyFrom_29 : code_ 66 29 = some (.getfield 15, 32, 5, 1, 2) := by decide +kernel
theorem cd_Sights_copyFrom_32 : code_ 66 32 = some (.invokestatic 25, 35, 144, 3, 0) := by decide +kernel
theorem cd_Sights_copyFrom_35 : code_ 66 35 = some (.return_, 36, 0, 0, 0) := by decide +kernel
theorem cd_Sights_findRows_0 : code_ 67 0 = some (.aload_n 0, 1, 0, 0, 0) := by decide +kernel
theorem cd_Sights_findRows_1 : code_ 67 1 = some (.iconst 0, 2, 0, 0, 0) := by decide +kernel
theorem cd_Sights_findRows_2 : code_ 67 2 = some (.putfield 29, 5, 5, 4, 0) := by decide +kernel
theorem cd_Sights_findRows_5 : code_ 67 5 = some (.bipush 16, 7, 0, 0, 0) := by decide +kernel
theorem cd_Sights_findRows_7 : code_ 67 7 = some (.istore_n 1, 8, 0, 0, 0) := by decide +kernel
theorem cd_Sights_findRows_8 : code_ 67 8 = some (.iload_n 1, 9, 0, 0, 0) := by decide +kernel
theorem cd_Sights_findRows_9 : code_ 67 9 = some (.bipush 79, 11, 0, 0, 0) := by decide +kernel
theorem cd_Sights_findRows_11 : code_ 67 11 = some (.if_icmp .gt 63, 14, 74, 0, 0) := by decide +kernel
theorem cd_Sights_findRows_14 : code_ 67 14 = some (.iload_n 1, 15, 0, 0, 0) := by decide +kernel
theorem cd_Sights_findRows_15 : code_ 67 15 = some (.invokestatic 32, 18, 71, 0, 0) := by decide +kernel
theorem cd_Sights_findRows_18 : code_ 67 18 = some (.ifCond .eq 50, 21, 68, 0, 0) := by decide +kernel
theorem cd_Sights_findRows_21 : code_ 67 21 = some (.aload_n 0, 22, 0, 0, 0) := by decide +kernel
theorem cd_Sights_findRows_22 : code_ 67 22 = some (.iload_n 1, 23, 0, 0, 0) := by decide +kernel
theorem cd_Sights_findRows_23 : code_ 67 23 = some (.invokevirtual 36, 26, 72, 1, 0) := by decide +kernel
theorem cd_Sights_findRows_26 : code_ 67 26 = some (.ifCond .eq 42, 29, 68, 0, 0) := by decide +kernel
theorem cd_Sights_findRows_29 : code_ 67 29 = some (.aload_n 0, 30, 0, 0, 0) := by decide +kernel
theorem cd_Sights_findRows_30 : code_ 67 30 = some (.getfield 29, 33, 5, 4, 0) := by decide +kernel
theorem cd_Sights_findRows_33 : code_ 67 33 = some (.ifCond .lt 35, 36, 68, 0, 0) := by decide +kernel
theorem cd_Sights_findRows_36 : code_ 67 36 = some (.aload_n 0, 37, 0, 0, 0) := by decide +kernel
theorem cd_Sights_findRows_37 : code_ 67 37 = some (.getfield 29, 40, 5, 4, 0) := by decide +kernel
theorem cd_Sights_findRows_40 : code_ 67 40 = some (.aload_n 0, 41, 0, 0, 0) := by decide +kernel
theorem cd_Sights_findRows_41 : code_ 67 41 = some (.getfield 18, 44, 5, 2, 2) := by decide +kernel
theorem cd_Sights_findRows_44 : code_ 67 44 = some (.arraylength, 45, 0, 0, 0) := by decide +kernel
theorem cd_Sights_findRows_45 : code_ 67 45 = some (.if_icmp .ge 23, 48, 68, 0, 0) := by decide +kernel
theorem cd_Sights_findRows_48 : code_ 67 48 = some (.aload_n 0, 49, 0, 0, 0) := by decide +kernel
theorem cd_Sights_findRows_49 : code_ 67 49 = some (.getfield 18, 52, 5, 2, 2) := by decide +kernel
theorem cd_Sights_findRows_52 : code_ 67 52 = some (.aload_n 0, 53, 0, 0, 0) := by decide +kernel
theorem cd_Sights_findRows_53 : code_ 67 53 = some (.getfield 29, 56, 5, 4, 0) := by decide +kernel
theorem cd_Sights_findRows_56 : code_ 67 56 = some (.iload_n 1, 57, 0, 0, 0) := by decide +kernel
theorem cd_Sights_findRows_57 : code_ 67 57 = some (.iastore, 58, 0, 0, 0) := by decide +kernel
theorem cd_Sights_findRows_58 : code_ 67 58 = some (.aload_n 0, 59, 0, 0, 0) := by decide +kernel
theorem cd_Sights_findRows_59 : code_ 67 59 = some (.dup, 60, 0, 0, 0) := by decide +kernel
theorem cd_Sights_findRows_60 : code_ 67 60 = some (.getfield 29, 63, 5, 4, 0) := by decide +kernel
theorem cd_Sights_findRows_63 : code_ 67 63 = some (.iconst 1, 64, 0, 0, 0) := by decide +kernel
theorem cd_Sights_findRows_64 : code_ 67 64 = some (.iadd, 65, 0, 0, 0) := by decide +kernel
theorem cd_Sights_findRows_65 : code_ 67 65 = some (.putfield 29, 68, 5, 4, 0) := by decide +kernel
theorem cd_Sights_findRows_68 : code_ 67 68 = some (.iinc 1 1, 71, 0, 0, 0) := by decide +kernel
theorem cd_Sights_findRows_71 : code_ 67 71 = some (.goto (-63), 74, 8, 0, 0) := by decide +kernel
theorem cd_Sights_findRows_74 : code_ 67 74 = some (.aload_n 0, 75, 0, 0, 0) := by decide +kernel
theorem cd_Sights_findRows_75 : code_ 67 75 = some (.getfield 29, 78, 5, 4, 0) := by decide +kernel
theorem cd_Sights_findRows_78 : code_ 67 78 = some (.ireturn, 79, 0, 0, 0) := by decide +kernel
theorem cd_Sights_rowFound_0 : code_ 68 0 = some (.iload_n 1, 1, 0, 0, 0) := by decide +kernel
theorem cd_Sights_rowFound_1 : code_ 68 1 = some (.ifCond .lt 29, 4, 30, 0, 0) := by decide +kernel
theorem cd_Sights_rowFound_4 : code_ 68 4 = some (.iload_n 1, 5, 0, 0, 0) := by decide +kernel
theorem cd_Sights_rowFound_5 : code_ 68 5 = some (.aload_n 0, 6, 0, 0, 0) := by decide +kernel
theorem cd_Sights_rowFound_6 : code_ 68 6 = some (.getfield 29, 9, 5, 4, 0) := by decide +kernel
theorem cd_Sights_rowFound_9 : code_ 68 9 = some (.if_icmp .ge 21, 12, 30, 0, 0) := by decide +kernel
theorem cd_Sights_rowFound_12 : code_ 68 12 = some (.iload_n 1, 13, 0, 0, 0) := by decide +kernel
theorem cd_Sights_rowFound_13 : code_ 68 13 = some (.aload_n 0, 14, 0, 0, 0) := by decide +kernel
theorem cd_Sights_rowFound_14 : code_ 68 14 = some (.getfield 18, 17, 5, 2, 2) := by decide +kernel
theorem cd_Sights_rowFound_17 : code_ 68 17 = some (.arraylength, 18, 0, 0, 0) := by decide +kernel
theorem cd_Sights_rowFound_18 : code_ 68 18 = some (.if_icmp .ge 12, 21, 30, 0, 0) := by decide +kernel
theorem cd_Sights_rowFound_21 : code_ 68 21 = some (.aload_n 0, 22, 0, 0, 0) := by decide +kernel
theorem cd_Sights_rowFound_22 : code_ 68 22 = some (.getfield 18, 25, 5, 2, 2) := by decide +kernel
theorem cd_Sights_rowFound_25 : code_ 68 25 = some (.iload_n 1, 26, 0, 0, 0) := by decide +kernel
theorem cd_Sights_rowFound_26 : code_ 68 26 = some (.iaload, 27, 0, 0, 0) := by decide +kernel
theorem cd_Sights_rowFound_27 : code_ 68 27 = some (.goto 5, 30, 32, 0, 0) := by decide +kernel
theorem cd_Sights_rowFound_30 : code_ 68 30 = some (.bipush (-6), 32, 0, 0, 0) := by decide +kernel
theorem cd_Sights_rowFound_32 : code_ 68 32 = some (.ireturn, 33, 0, 0, 0) := by decide +kernel
theorem cd_Sights_bestShot_0 : code_ 69 0 = some (.iconst 0, 1, 0, 0, 0) := by decide +kernel
theorem cd_Sights_bestShot_1 : code_ 69 1 = some (.istore_n 1, 2, 0, 0, 0) := by decide +kernel
theorem cd_Sights_bestShot_2 : code_ 69 2 = some (.iconst 1, 3, 0, 0, 0) := by decide +kernel
theorem cd_Sights_bestShot_3 : code_ 69 3 = some (.istore_n 2, 4, 0, 0, 0) := by decide +kernel
theorem cd_Sights_bestShot_4 : code_ 69 4 = some (.iload_n 2, 5, 0, 0, 0) := by decide +kernel
theorem cd_Sights_bestShot_5 : code_ 69 5 = some (.bipush 60, 7, 0, 0, 0) := by decide +kernel
theorem cd_Sights_bestShot_7 : code_ 69 7 = some (.if_icmp .gt 24, 10, 31, 0, 0) := by decide +kernel
theorem cd_Sights_bestShot_10 : code_ 69 10 = some (.aload_n 0, 11, 0, 0, 0) := by decide +kernel
theorem cd_Sights_bestShot_11 : code_ 69 11 = some (.iload_n 2, 12, 0, 0, 0) := by decide +kernel
theorem cd_Sights_bestShot_12 : code_ 69 12 = some (.invokevirtual 39, 15, 70, 1, 0) := by decide +kernel
theorem cd_Sights_bestShot_15 : code_ 69 15 = some (.aload_n 0, 16, 0, 0, 0) := by decide +kernel
theorem cd_Sights_bestShot_16 : code_ 69 16 = some (.iload_n 1, 17, 0, 0, 0) := by decide +kernel
theorem cd_Sights_bestShot_17 : code_ 69 17 = some (.invokevirtual 39, 20, 70, 1, 0) := by decide +kernel
theorem cd_Sights_bestShot_20 : code_ 69 20 = some (.if_icmp .ge 5, 23, 25, 0, 0) := by decide +kernel
theorem cd_Sights_bestShot_23 : code_ 69 23 = some (.iload_n 2, 24, 0, 0, 0) := by decide +kernel
theorem cd_Sights_bestShot_24 : code_ 69 24 = some (.istore_n 1, 25, 0, 0, 0) := by decide +kernel
theorem cd_Sights_bestShot_25 : code_ 69 25 = some (.iinc 2 1, 28, 0, 0, 0) := by decide +kernel
theorem cd_Sights_bestShot_28 : code_ 69 28 = some (.goto (-24), 31, 4, 0, 0) := by decide +kernel
theorem cd_Sights_bestShot_31 : code_ 69 31 = some (.iload_n 1, 32, 0, 0, 0) := by decide +kernel
theorem cd_Sights_bestShot_32 : code_ 69 32 = some (.ireturn, 33, 0, 0, 0) := by decide +kernel
theorem cd_Sights_mostLeft_0 : code_ 70 0 = some (.iconst 0, 1, 0, 0, 0) := by decide +kernel
theorem cd_Sights_mostLeft_1 : code_ 70 1 = some (.istore_n 2, 2, 0, 0, 0) := by decide +kernel
theorem cd_Sights_mostLeft_2 : code_ 70 2 = some (.iconst 0, 3, 0, 0, 0) := by decide +kernel
theorem cd_Sights_mostLeft_3 : code_ 70 3 = some (.istore_n 3, 4, 0, 0, 0) := by decide +kernel
theorem cd_Sights_mostLeft_4 : code_ 70 4 = some (.iload_n 3, 5, 0, 0, 0) := by decide +kernel
theorem cd_Sights_mostLeft_5 : code_ 70 5 = some (.aload_n 0, 6, 0, 0, 0) := by decide +kernel
theorem cd_Sights_mostLeft_6 : code_ 70 6 = some (.getfield 29, 9, 5, 4, 0) := by decide +kernel
theorem cd_Sights_mostLeft_9 : code_ 70 9 = some (.if_icmp .ge 31, 12, 40, 0, 0) := by decide +kernel
theorem cd_Sights_mostLeft_12 : code_ 70 12 = some (.iload_n 3, 13, 0, 0, 0) := by decide +kernel
theorem cd_Sights_mostLeft_13 : code_ 70 13 = some (.aload_n 0, 14, 0, 0, 0) := by decide +kernel
theorem cd_Sights_mostLeft_14 : code_ 70 14 = some (.getfield 18, 17, 5, 2, 2) := by decide +kernel
theorem cd_Sights_mostLeft_17 : code_ 70 17 = some (.arraylength, 18, 0, 0, 0) := by decide +kernel
theorem cd_Sights_mostLeft_18 : code_ 70 18 = some (.if_icmp .ge 22, 21, 40, 0, 0) := by decide +kernel
theorem cd_Sights_mostLeft_21 : code_ 70 21 = some (.iload_n 2, 22, 0, 0, 0) := by decide +kernel
theorem cd_Sights_mostLeft_22 : code_ 70 22 = some (.aload_n 0, 23, 0, 0, 0) := by decide +kernel
theorem cd_Sights_mostLeft_23 : code_ 70 23 = some (.getfield 18, 26, 5, 2, 2) := by decide +kernel
theorem cd_Sights_mostLeft_26 : code_ 70 26 = some (.iload_n 3, 27, 0, 0, 0) := by decide +kernel
theorem cd_Sights_mostLeft_27 : code_ 70 27 = some (.iaload, 28, 0, 0, 0) := by decide +kernel
theorem cd_Sights_mostLeft_28 : code_ 70 28 = some (.iload_n 1, 29, 0, 0, 0) := by decide +kernel
theorem cd_Sights_mostLeft_29 : code_ 70 29 = some (.invokestatic 43, 32, 73, 0, 0) := by decide +kernel
theorem cd_Sights_mostLeft_32 : code_ 70 32 = some (.iadd, 33, 0, 0, 0) := by decide +kernel
theorem cd_Sights_mostLeft_33 : code_ 70 33 = some (.istore_n 2, 34, 0, 0, 0) := by decide +kernel
theorem cd_Sights_mostLeft_34 : code_ 70 34 = some (.iinc 3 1, 37, 0, 0, 0) := by decide +kernel
theorem cd_Sights_mostLeft_37 : code_ 70 37 = some (.goto (-33), 40, 4, 0, 0) := by decide +kernel
theorem cd_Sights_mostLeft_40 : code_ 70 40 = some (.iload_n 2, 41, 0, 0, 0) := by decide +kernel
theorem cd_Sights_mostLeft_41 : code_ 70 41 = some (.aload_n 0, 42, 0, 0, 0) := by decide +kernel
theorem cd_Sights_mostLeft_42 : code_ 70 42 = some (.getfield 29, 45, 5, 4, 0) := by decide +kernel
theorem cd_Sights_mostLeft_45 : code_ 70 45 = some (.iload_n 2, 46, 0, 0, 0) := by decide +kernel
theorem cd_Sights_mostLeft_46 : code_ 70 46 = some (.isub, 47, 0, 0, 0) := by decide +kernel
theorem cd_Sights_mostLeft_47 : code_ 70 47 = some (.invokestatic 47, 50, 213, 0, 0) := by decide +kernel
theorem cd_Sights_mostLeft_50 : code_ 70 50 = some (.ireturn, 51, 0, 0, 0) := by decide +kernel
theorem cd_Sights_isRow_0 : code_ 71 0 = some (.iload_n 0, 1, 0, 0, 0) := by decide +kernel
theorem cd_Sights_isRow_1 : code_ 71 1 = some (.bipush 16, 3, 0, 0, 0) := by decide +kernel
theorem cd_Sights_isRow_3 : code_ 71 3 = some (.irem, 4, 0, 0, 0) := by decide +kernel
theorem cd_Sights_isRow_4 : code_ 71 4 = some (.iconst 1, 5, 0, 0, 0) := by decide +kernel
theorem cd_Sights_isRow_5 : code_ 71 5 = some (.iload_n 0, 6, 0, 0, 0) := by decide +kernel
theorem cd_Sights_isRow_6 : code_ 71 6 = some (.bipush 16, 8, 0, 0, 0) := by decide +kernel
theorem cd_Sights_isRow_8 : code_ 71 8 = some (.idiv, 9, 0, 0, 0) := by decide +kernel
theorem cd_Sights_isRow_9 : code_ 71 9 = some (.ishl, 10, 0, 0, 0) := by decide +kernel
theorem cd_Sights_isRow_10 : code_ 71 10 = some (.if_icmp .ge 7, 13, 17, 0, 0) := by decide +kernel
theorem cd_Sights_isRow_13 : code_ 71 13 = some (.iconst 1, 14, 0, 0, 0) := by decide +kernel
theorem cd_Sights_isRow_14 : code_ 71 14 = some (.goto 4, 17, 18, 0, 0) := by decide +kernel
theorem cd_Sights_isRow_17 : code_ 71 17 = some (.iconst 0, 18, 0, 0, 0) := by decide +kernel
theorem cd_Sights_isRow_18 : code_ 71 18 = some (.ireturn, 19, 0, 0, 0) := by decide +kernel
theorem cd_Sights_fitsAll_0 : code_ 72 0 = some (.iconst 0, 1, 0, 0, 0) := by decide +kernel
theorem cd_Sights_fitsAll_1 : code_ 72 1 = some (.istore_n 2, 2, 0, 0, 0) := by decide +kernel
theorem cd_Sights_fitsAll_2 : code_ 72 2 = some (.iload_n 2, 3, 0, 0, 0) := by decide +kernel
theorem cd_Sights_fitsAll_3 : code_ 72 3 = some (.aload_n 0, 4, 0, 0, 0) := by decide +kernel
theorem cd_Sights_fitsAll_4 : code_ 72 4 = some (.getfield 21, 7, 5, 3, 0) := by decide +kernel
theorem cd_Sights_fitsAll_7 : code_ 72 7 = some (.if_icmp .ge 48, 10, 55, 0, 0) := by decide +kernel
theorem cd_Sights_fitsAll_10 : code_ 72 10 = some (.iload_n 2, 11, 0, 0, 0) := by decide +kernel
theorem cd_Sights_fitsAll_11 : code_ 72 11 = some (.aload_n 0, 12, 0, 0, 0) := by decide +kernel
theorem cd_Sights_fitsAll_12 : code_ 72 12 = some (.getfield 9, 15, 5, 0, 2) := by decide +kernel
theorem cd_Sights_fitsAll_15 : code_ 72 15 = some (.arraylength, 16, 0, 0, 0) := by decide +kernel
theorem cd_Sights_fitsAll_16 : code_ 72 16 = some (.if_icmp .ge 39, 19, 55, 0, 0) := by decide +kernel
theorem cd_Sights_fitsAll_19 : code_ 72 19 = some (.iload_n 2, 20, 0, 0, 0) := by decide +kernel
theorem cd_Sights_fitsAll_20 : code_ 72 20 = some (.aload_n 0, 21, 0, 0, 0) := by decide +kernel
theorem cd_Sights_fitsAll_21 : code_ 72 21 = some (.getfield 15, 24, 5, 1, 2) := by decide +kernel
theorem cd_Sights_fitsAll_24 : code_ 72 24 = some (.arraylength, 25, 0, 0, 0) := by decide +kernel
theorem cd_Sights_fitsAll_25 : code_ 72 25 = some (.if_icmp .ge 30, 28, 55, 0, 0) := by decide +kernel
theorem cd_Sights_fitsAll_28 : code_ 72 28 = some (.iload_n 1, 29, 0, 0, 0) := by decide +kernel
theorem cd_Sights_fitsAll_29 : code_ 72 29 = some (.aload_n 0, 30, 0, 0, 0) := by decide +kernel
theorem cd_Sights_fitsAll_30 : code_ 72 30 = some (.getfield 9, 33, 5, 0, 2) := by decide +kernel
theorem cd_Sights_fitsAll_33 : code_ 72 33 = some (.iload_n 2, 34, 0, 0, 0) := by decide +kernel
theorem cd_Sights_fitsAll_34 : code_ 72 34 = some (.iaload, 35, 0, 0, 0) := by decide +kernel
theorem cd_Sights_fitsAll_35 : code_ 72 35 = some (.invokestatic 43, 38, 73, 0, 0) := by decide +kernel
theorem cd_Sights_fitsAll_38 : code_ 72 38 = some (.aload_n 0, 39, 0, 0, 0) := by decide +kernel
theorem cd_Sights_fitsAll_39 : code_ 72 39 = some (.getfield 15, 42, 5, 1, 2) := by decide +kernel
theorem cd_Sights_fitsAll_42 : code_ 72 42 = some (.iload_n 2, 43, 0, 0, 0) := by decide +kernel
theorem cd_Sights_fitsAll_43 : code_ 72 43 = some (.iaload, 44, 0, 0, 0) := by decide +kernel
theorem cd_Sights_fitsAll_44 : code_ 72 44 = some (.if_icmp .eq 5, 47, 49, 0, 0) := by decide +kernel
theorem cd_Sights_fitsAll_47 : code_ 72 47 = some (.iconst 0, 48, 0, 0, 0) := by decide +kernel
theorem cd_Sights_fitsAll_48 : code_ 72 48 = some (.ireturn, 49, 0, 0, 0) := by decide +kernel
theorem cd_Sights_fitsAll_49 : code_ 72 49 = some (.iinc 2 1, 52, 0, 0, 0) := by decide +kernel
theorem cd_Sights_fitsAll_52 : code_ 72 52 = some (.goto (-50), 55, 2, 0, 0) := by decide +kernel
theorem cd_Sights_fitsAll_55 : code_ 72 55 = some (.iconst 1, 56, 0, 0, 0) := by decide +kernel
theorem cd_Sights_fitsAll_56 : code_ 72 56 = some (.ireturn, 57, 0, 0, 0) := by decide +kernel
theorem cd_Sights_sideBy_0 : code_ 73 0 = some (.iload_n 0, 1, 0, 0, 0) := by decide +kernel
theorem cd_Sights_sideBy_1 : code_ 73 1 = some (.bipush 16, 3, 0, 0, 0) := by decide +kernel
theorem cd_Sights_sideBy_3 : code_ 73 3 = some (.idiv, 4, 0, 0, 0) := by decide +kernel
theorem cd_Sights_sideBy_4 : code_ 73 4 = some (.istore_n 2, 5, 0, 0, 0) := by decide +kernel
theorem cd_Sights_sideBy_5 : code_ 73 5 = some (.iload_n 2, 6, 0, 0, 0) := by decide +kernel
theorem cd_Sights_sideBy_6 : code_ 73 6 = some (.iconst 1, 7, 0, 0, 0) := by decide +kernel
theorem cd_Sights_sideBy_7 : code_ 73 7 = some (.if_icmp .ge 5, 10, 12, 0, 0) := by decide +kernel
theorem cd_Sights_sideBy_10 : code_ 73 10 = some (.iconst 0, 11, 0, 0, 0) := by decide +kernel
theorem cd_Sights_sideBy_11 : code_ 73 11 = some (.ireturn, 12, 0, 0, 0) := by decide +kernel
theorem cd_Sights_sideBy_12 : code_ 73 12 = some (.iload_n 0, 13, 0, 0, 0) := by decide +kernel
theorem cd_Sights_sideBy_13 : code_ 73 13 = some (.iload_n 1, 14, 0, 0, 0) := by decide +kernel
theorem cd_Sights_sideBy_14 : code_ 73 14 = some (.iload_n 2, 15, 0, 0, 0) := by decide +kernel
theorem cd_Sights_sideBy_15 : code_ 73 15 = some (.irem, 16, 0, 0, 0) := by decide +kernel
theorem cd_Sights_sideBy_16 : code_ 73 16 = some (.ishr, 17, 0, 0, 0) := by decide +kernel
theorem cd_Sights_sideBy_17 : code_ 73 17 = some (.iconst 1, 18, 0, 0, 0) := by decide +kernel
theorem cd_Sights_sideBy_18 : code_ 73 18 = some (.iand, 19, 0, 0, 0) := by decide +kernel
theorem cd_Sights_sideBy_19 : code_ 73 19 = some (.ireturn, 20, 0, 0, 0) := by decide +kernel
theorem cd_Table_init_0 : code_ 74 0 = some (.aload_n 0, 1, 0, 0, 0) := by decide +kernel
theorem cd_Table_init_1 : code_ 74 1 = some (.invokespecial 3, 4, 0, 5, 0) := by decide +kernel
theorem cd_Table_init_4 : code_ 74 4 = some (.aload_n 0, 5, 0, 0, 0) := by decide +kernel
theorem cd_Table_init_5 : code_ 74 5 = some (.bipush 8, 7, 0, 0, 0) := by decide +kernel
theorem cd_Table_init_7 : code_ 74 7 = some (.newarray .int, 9, 0, 0, 0) := by decide +kernel
theorem cd_Table_init_9 : code_ 74 9 = some (.putfield 9, 12, 6, 0, 2) := by decide +kernel
theorem cd_Table_init_12 : code_ 74 12 = some (.aload_n 0, 13, 0, 0, 0) := by decide +kernel
theorem cd_Table_init_13 : code_ 74 13 = some (.iconst 2, 14, 0, 0, 0) := by decide +kernel
theorem cd_Table_init_14 : code_ 74 14 = some (.newarray .int, 16, 0, 0, 0) := by decide +kernel
theorem cd_Table_init_16 : code_ 74 16 = some (.putfield 15, 19, 6, 1, 2) := by decide +kernel
theorem cd_Table_init_19 : code_ 74 19 = some (.iconst 0, 20, 0, 0, 0) := by decide +kernel
theorem cd_Table_init_20 : code_ 74 20 = some (.istore_n 1, 21, 0, 0, 0) := by decide +kernel
theorem cd_Table_init_21 : code_ 74 21 = some (.iload_n 1, 22, 0, 0, 0) := by decide +kernel
theorem cd_Table_init_22 : code_ 74 22 = some (.aload_n 0, 23, 0, 0, 0) := by decide +kernel
theorem cd_Table_init_23 : code_ 74 23 = some (.getfield 9, 26, 6, 0, 2) := by decide +kernel
theorem cd_Table_init_26 : code_ 74 26 = some (.arraylength, 27, 0, 0, 0) := by decide +kernel
theorem cd_Table_init_27 : code_ 74 27 = some (.if_icmp .ge 21, 30, 48, 0, 0) := by decide +kernel
theorem cd_Table_init_30 : code_ 74 30 = some (.aload_n 0, 31, 0, 0, 0) := by decide +kernel
theorem cd_Table_init_31 : code_ 74 31 = some (.getfield 9, 34, 6, 0, 2) := by decide +kernel
theorem cd_Table_init_34 : code_ 74 34 = some (.iload_n 1, 35, 0, 0, 0) := by decide +kernel
theorem cd_Table_init_35 : code_ 74 35 = some (.iload_n 1, 36, 0, 0, 0) := by decide +kernel
theorem cd_Table_init_36 : code_ 74 36 = some (.invokestatic 18, 39, 57, 0, 0) := by decide +kernel
theorem cd_Table_init_39 : code_ 74 39 = some (.iconst 2, 40, 0, 0, 0) := by decide +kernel
theorem cd_Table_init_40 : code_ 74 40 = some (.idiv, 41, 0, 0, 0) := by decide +kernel
theorem cd_Table_init_41 : code_ 74 41 = some (.iastore, 42, 0, 0, 0) := by decide +kernel
theorem cd_Table_init_42 : code_ 74 42 = some (.iinc 1 1, 45, 0, 0, 0) := by decide +kernel
theorem cd_Table_init_45 : code_ 74 45 = some (.goto (-24), 48, 21, 0, 0) := by decide +kernel
theorem cd_Table_init_48 : code_ 74 48 = some (.aload_n 0, 49, 0, 0, 0) := by decide +kernel
theorem cd_Table_init_49 : code_ 74 49 = some (.bipush (-6), 51, 0, 0, 0) := by decide +kernel
theorem cd_Table_init_51 : code_ 74 51 = some (.putfield 24, 54, 6, 3, 0) := by decide +kernel
theorem cd_Table_init_54 : code_ 74 54 = some (.aload_n 0, 55, 0, 0, 0) := by decide +kernel
theorem cd_Table_init_55 : code_ 74 55 = some (.bipush (-6), 57, 0, 0, 0) := by decide +kernel
theorem cd_Table_init_57 : code_ 74 57 = some (.putfield 28, 60, 6, 4, 0) := by decide +kernel
theorem cd_Table_init_60 : code_ 74 60 = some (.return_, 61, 0, 0, 0) := by decide +kernel
theorem cd_Table_copyFrom_0 : code_ 75 0 = some (.aload_n 1, 1, 0, 0, 0) := by decide +kernel
theorem cd_Table_copyFrom_1 : code_ 75 1 = some (.ifnonnull 4, 4, 5, 0, 0) := by decide +kernel
theorem cd_Table_copyFrom_4 : code_ 75 4 = some (.return_, 5, 0, 0, 0) := by decide +kernel
theorem cd_Table_copyFrom_5 : code_ 75 5 = some (.aload_n 1, 6, 0, 0, 0) := by decide +kernel
theorem cd_Table_copyFrom_6 : code_ 75 6 = some (.getfield 9, 9, 6, 0, 2) := by decide +kernel
theorem cd_Table_copyFrom_9 : code_ 75 9 = some (.aload_n 0, 10, 0, 0, 0) := by decide +kernel
theorem cd_Table_copyFrom_10 : code_ 75 10 = some (.getfield 9, 13, 6, 0, 2) := by decide +kernel
theorem cd_Table_copyFrom_13 : code_ 75 13 = some (.invokestatic 31, 16, 144, 3, 0) := by decide +kernel
theorem cd_Table_copyFrom_16 : code_ 75 16 = some (.aload_n 1, 17, 0, 0, 0) := by decide +kernel
theorem cd_Table_copyFrom_17 : code_ 75 17 = some (.getfield 15, 20, 6, 1, 2) := by decide +kernel
theorem cd_Table_copyFrom_20 : code_ 75 20 = some (.aload_n 0, 21, 0, 0, 0) := by decide +kernel
theorem cd_Table_copyFrom_21 : code_ 75 21 = some (.getfield 15, 24, 6, 1, 2) := by decide +kernel
theorem cd_Table_copyFrom_24 : code_ 75 24 = some (.invokestatic 31, 27, 144, 3, 0) := by decide +kernel
theorem cd_Table_copyFrom_27 : code_ 75 27 = some (.aload_n 0, 28, 0, 0, 0) := by decide +kernel
theorem cd_Table_copyFrom_28 : code_ 75 28 = some (.aload_n 1, 29, 0, 0, 0) := by decide +kernel
theorem cd_Table_copyFrom_29 : code_ 75 29 = some (.getfield 35, 32, 6, 2, 0) := by decide +kernel
theorem cd_Table_copyFrom_32 : code_ 75 32 = some (.putfield 35, 35, 6, 2, 0) := by decide +kernel
theorem cd_Table_copyFrom_35 : code_ 75 35 = some (.aload_n 0, 36, 0, 0, 0) := by decide +kernel
theorem cd_Table_copyFrom_36 : code_ 75 36 = some (.aload_n 1, 37, 0, 0, 0) := by decide +kernel
theorem cd_Table_copyFrom_37 : code_ 75 37 = some (.getfield 24, 40, 6, 3, 0) := by decide +kernel
theorem cd_Table_copyFrom_40 : code_ 75 40 = some (.putfield 24, 43, 6, 3, 0) := by decide +kernel
theorem cd_Table_copyFrom_43 : code_ 75 43 = some (.aload_n 0, 44, 0, 0, 0) := by decide +kernel
theorem cd_Table_copyFrom_44 : code_ 75 44 = some (.aload_n 1, 45, 0, 0, 0) := by decide +kernel
theorem cd_Table_copyFrom_45 : code_ 75 45 = some (.getfield 28, 48, 6, 4, 0) := by decide +kernel
theorem cd_Table_copyFrom_48 : code_ 75 48 = some (.putfield 28, 51, 6, 4, 0) := by decide +kernel
theorem cd_Table_copyFrom_51 : code_ 75 51 = some (.aload_n 0, 52, 0, 0, 0) := by decide +kernel
theorem cd_Table_copyFrom_52 : code_ 75 52 = some (.aload_n 1, 53, 0, 0, 0) := by decide +kernel
theorem cd_Table_copyFrom_53 : code_ 75 53 = some (.getfield 38, 56, 6, 5, 0) := by decide +kernel
theorem cd_Table_copyFrom_56 : code_ 75 56 = some (.putfield 38, 59, 6, 5, 0) := by decide +kernel
theorem cd_Table_copyFrom_59 : code_ 75 59 = some (.return_, 60, 0, 0, 0) := by decide +kernel
theorem cd_Table_slideOf_0 : code_ 76 0 = some (.iload_n 1, 1, 0, 0, 0) := by decide +kernel
theorem cd_Table_slideOf_1 : code_ 76 1 = some (.ifCond .lt 21, 4, 22, 0, 0) := by decide +kernel
theorem cd_Table_slideOf_4 : code_ 76 4 = some (.iload_n 1, 5, 0, 0, 0) := by decide +kernel
theorem cd_Table_slideOf_5 : code_ 76 5 = some (.aload_n 0, 6, 0, 0, 0) := by decide +kernel
theorem cd_Table_slideOf_6 : code_ 76 6 = some (.getfield 9, 9, 6, 0, 2) := by decide +kernel
theorem cd_Table_slideOf_9 : code_ 76 9 = some (.arraylength, 10, 0, 0, 0) := by decide +kernel
theorem cd_Table_slideOf_10 : code_ 76 10 = some (.if_icmp .ge 12, 13, 22, 0, 0) := by decide +kernel
theorem cd_Table_slideOf_13 : code_ 76 13 = some (.aload_n 0, 14, 0, 0, 0) := by decide +kernel
theorem cd_Table_slideOf_14 : code_ 76 14 = some (.getfield 9, 17, 6, 0, 2) := by decide +kernel
theorem cd_Table_slideOf_17 : code_ 76 17 = some (.iload_n 1, 18, 0, 0, 0) := by decide +kernel
theorem cd_Table_slideOf_18 : code_ 76 18 = some (.iaload, 19, 0, 0, 0) := by decide +kernel
theorem cd_Table_slideOf_19 : code_ 76 19 = some (.goto 5, 22, 24, 0, 0) := by decide +kernel
theorem cd_Table_slideOf_22 : code_ 76 22 = some (.bipush (-6), 24, 0, 0, 0) := by decide +kernel
theorem cd_Table_slideOf_24 : code_ 76 24 = some (.ireturn, 25, 0, 0, 0) := by decide +kernel
theorem cd_Table_slideTo_0 : code_ 77 0 = some (.iload_n 1, 1, 0, 0, 0) := by decide +kernel
theorem cd_Table_slideTo_1 : code_ 77 1 = some (.ifCond .lt 19, 4, 20, 0, 0) := by decide +kernel
theorem cd_Table_slideTo_4 : code_ 77 4 = some (.iload_n 1, 5, 0, 0, 0) := by decide +kernel
theorem cd_Table_slideTo_5 : code_ 77 5 = some (.aload_n 0, 6, 0, 0, 0) := by decide +kernel
theorem cd_Table_slideTo_6 : code_ 77 6 = some (.getfield 9, 9, 6, 0, 2) := by decide +kernel
theorem cd_Table_slideTo_9 : code_ 77 9 = some (.arraylength, 10, 0, 0, 0) := by decide +kernel
theorem cd_Table_slideTo_10 : code_ 77 10 = some (.if_icmp .ge 10, 13, 20, 0, 0) := by decide +kernel
theorem cd_Table_slideTo_13 : code_ 77 13 = some (.aload_n 0, 14, 0, 0, 0) := by decide +kernel
theorem cd_Table_slideTo_14 : code_ 77 14 = some (.getfield 9, 17, 6, 0, 2) := by decide +kernel
theorem cd_Table_slideTo_17 : code_ 77 17 = some (.iload_n 1, 18, 0, 0, 0) := by decide +kernel
theorem cd_Table_slideTo_18 : code_ 77 18 = some (.iload_n 2, 19, 0, 0, 0) := by decide +kernel
theorem cd_Table_slideTo_19 : code_ 77 19 = some (.iastore, 20, 0, 0, 0) := by decide +kernel
theorem cd_Table_slideTo_20 : code_ 77 20 = some (.return_, 21, 0, 0, 0) := by decide +kernel
theorem cd_Table_scoredBy_0 : code_ 78 0 = some (.iload_n 1, 1, 0, 0, 0) := by decide +kernel
theorem cd_Table_scoredBy_1 : code_ 78 1 = some (.ifCond .lt 21, 4, 22, 0, 0) := by decide +kernel
theorem cd_Table_scoredBy_4 : code_ 78 4 = some (.iload_n 1, 5, 0, 0, 0) := by decide +kernel
theorem cd_Table_scoredBy_5 : code_ 78 5 = some (.aload_n 0, 6, 0, 0, 0) := by decide +kernel
theorem cd_Table_scoredBy_6 : code_ 78 6 = some (.getfield 15, 9, 6, 1, 2) := by decide +kernel
theorem cd_Table_scoredBy_9 : code_ 78 9 = some (.arraylength, 10, 0, 0, 0) := by decide +kernel
theorem cd_Table_scoredBy_10 : code_ 78 10 = some (.if_icmp .ge 12, 13, 22, 0, 0) := by decide +kernel
theorem cd_Table_scoredBy_13 : code_ 78 13 = some (.aload_n 0, 14, 0, 0, 0) := by decide +kernel
theorem cd_Table_scoredBy_14 : code_ 78 14 = some (.getfield 15, 17, 6, 1, 2) := by decide +kernel
theorem cd_Table_scoredBy_17 : code_ 78 17 = some (.iload_n 1, 18, 0, 0, 0) := by decide +kernel
theorem cd_Table_scoredBy_18 : code_ 78 18 = some (.iaload, 19, 0, 0, 0) := by decide +kernel
theorem cd_Table_scoredBy_19 : code_ 78 19 = some (.goto 5, 22, 24, 0, 0) := by decide +kernel
theorem cd_Table_scoredBy_22 : code_ 78 22 = some (.bipush (-6), 24, 0, 0, 0) := by decide +kernel
theorem cd_Table_scoredBy_24 : code_ 78 24 = some (.ireturn, 25, 0, 0, 0) := by decide +kernel
theorem cd_Table_setScored_0 : code_ 79 0 = some (.iload_n 1, 1, 0, 0, 0) := by decide +kernel
theorem cd_Table_setScored_1 : code_ 79 1 = some (.ifCond .lt 19, 4, 20, 0, 0) := by decide +kernel
theorem cd_Table_setScored_4 : code_ 79 4 = some (.iload_n 1, 5, 0, 0, 0) := by decide +kernel
theorem cd_Table_setScored_5 : code_ 79 5 = some (.aload_n 0, 6, 0, 0, 0) := by decide +kernel
theorem cd_Table_setScored_6 : code_ 79 6 = some (.getfield 15, 9, 6, 1, 2) := by decide +kernel
theorem cd_Table_setScored_9 : code_ 79 9 = some (.arraylength, 10, 0, 0, 0) := by decide +kernel
theorem cd_Table_setScored_10 : code_ 79 10 = some (.if_icmp .ge 10, 13, 20, 0, 0) := by decide +kernel
theorem cd_Table_setScored_13 : code_ 79 13 = some (.aload_n 0, 14, 0, 0, 0) := by decide +kernel
theorem cd_Table_setScored_14 : code_ 79 14 = some (.getfield 15, 17, 6, 1, 2) := by decide +kernel
theorem cd_Table_setScored_17 : code_ 79 17 = some (.iload_n 1, 18, 0, 0, 0) := by decide +kernel
theorem cd_Table_setScored_18 : code_ 79 18 = some (.iload_n 2, 19, 0, 0, 0) := by decide +kernel
theorem cd_Table_setScored_19 : code_ 79 19 = some (.iastore, 20, 0, 0, 0) := by decide +kernel
theorem cd_Table_setScored_20 : code_ 79 20 = some (.return_, 21, 0, 0, 0) := by decide +kernel
theorem cd_Table_scoredInAll_0 : code_ 80 0 = some (.aload_n 0, 1, 0, 0, 0) := by decide +kernel
theorem cd_Table_scoredInAll_1 : code_ 80 1 = some (.iconst 0, 2, 0, 0, 0) := by decide +kernel
theorem cd_Table_scoredInAll_2 : code_ 80 2 = some (.invokevirtual 41, 5, 78, 1, 0) := by decide +kernel
theorem cd_Table_scoredInAll_5 : code_ 80 5 = some (.aload_n 0, 6, 0, 0, 0) := by decide +kernel
theorem cd_Table_scoredInAll_6 : code_ 80 6 = some (.iconst 1, 7, 0, 0, 0) := by decide +kernel
theorem cd_Table_scoredInAll_7 : code_ 80 7 = some (.invokevirtual 41, 10, 78, 1, 0) := by decide +kernel
theorem cd_Table_scoredInAll_10 : code_ 80 10 = some (.iadd, 11, 0, 0, 0) := by decide +kernel
theorem cd_Table_scoredInAll_11 : code_ 80 11 = some (.ireturn, 12, 0, 0, 0) := by decide +kernel
theorem cd_Table_heldRods_0 : code_ 81 0 = some (.aload_n 0, 1, 0, 0, 0) := by decide +kernel
theorem cd_Table_heldRods_1 : code_ 81 1 = some (.getfield 35, 4, 6, 2, 0) := by decide +kernel
theorem cd_Table_heldRods_4 : code_ 81 4 = some (.ireturn, 5, 0, 0, 0) := by decide +kernel
theorem cd_Table_isHeld_0 : code_ 82 0 = some (.iload_n 1, 1, 0, 0, 0) := by decide +kernel
theorem cd_Table_isHeld_1 : code_ 82 1 = some (.invokestatic 44, 4, 52, 0, 0) := by decide +kernel
theorem cd_Table_isHeld_4 : code_ 82 4 = some (.ifCond .eq 19, 7, 23, 0, 0) := by decide +kernel
theorem cd_Table_isHeld_7 : code_ 82 7 = some (.aload_n 0, 8, 0, 0, 0) := by decide +kernel
theorem cd_Table_isHeld_8 : code_ 82 8 = some (.getfield 35, 11, 6, 2, 0) := by decide +kernel
theorem cd_Table_isHeld_11 : code_ 82 11 = some (.iload_n 1, 12, 0, 0, 0) := by decide +kernel
theorem cd_Table_isHeld_12 : code_ 82 12 = some (.ishr, 13, 0, 0, 0) := by decide +kernel
theorem cd_Table_isHeld_13 : code_ 82 13 = some (.iconst 1, 14, 0, 0, 0) := by decide +kernel
theorem cd_Table_isHeld_14 : code_ 82 14 = some (.iand, 15, 0, 0, 0) := by decide +kernel
theorem cd_Table_isHeld_15 : code_ 82 15 = some (.iconst 1, 16, 0, 0, 0) := by decide +kernel
theorem cd_Table_isHeld_16 : code_ 82 16 = some (.if_icmp .ne 7, 19, 23, 0, 0) := by decide +kernel
theorem cd_Table_isHeld_19 : code_ 82 19 = some (.iconst 1, 20, 0, 0, 0) := by decide +kernel
theorem cd_Table_isHeld_20 : code_ 82 20 = some (.goto 4, 23, 24, 0, 0) := by decide +kernel
theorem cd_Table_isHeld_23 : code_ 82 23 = some (.iconst 0, 24, 0, 0, 0) := by decide +kernel
theorem cd_Table_isHeld_24 : code_ 82 24 = some (.ireturn, 25, 0, 0, 0) := by decide +kernel
theorem cd_Table_heldBy_0 : code_ 83 0 = some (.iconst 0, 1, 0, 0, 0) := by decide +kernel
theorem cd_Table_heldBy_1 : code_ 83 1 = some (.istore_n 2, 2, 0, 0, 0) := by decide +kernel
theorem cd_Table_heldBy_2 : code_ 83 2 = some (.iconst 0, 3, 0, 0, 0) := by decide +kernel
theorem cd_Table_heldBy_3 : code_ 83 3 = some (.istore_n 3, 4, 0, 0, 0) := by decide +kernel
theorem cd_Table_heldBy_4 : code_ 83 4 = some (.iload_n 3, 5, 0, 0, 0) := by decide +kernel
theorem cd_Table_heldBy_5 : code_ 83 5 = some (.bipush 8, 7, 0, 0, 0) := by decide +kernel
theorem cd_Table_heldBy_7 : code_ 83 7 = some (.if_icmp .ge 28, 10, 35, 0, 0) := by decide +kernel
theorem cd_Table_heldBy_10 : code_ 83 10 = some (.iload_n 3, 11, 0, 0, 0) := by decide +kernel
theorem cd_Table_heldBy_11 : code_ 83 11 = some (.invokestatic 48, 14, 54, 0, 0) := by decide +kernel
theorem cd_Table_heldBy_14 : code_ 83 14 = some (.iload_n 1, 15, 0, 0, 0) := by decide +kernel
theorem cd_Table_heldBy_15 : code_ 83 15 = some (.if_icmp .ne 14, 18, 29, 0, 0) := by decide +kernel
theorem cd_Table_heldBy_18 : code_ 83 18 = some (.aload_n 0, 19, 0, 0, 0) := by decide +kernel
theorem cd_Table_heldBy_19 : code_ 83 19 = some (.iload_n 3, 20, 0, 0, 0) := by decide +kernel
theorem cd_Table_heldBy_20 : code_ 83 20 = some (.invokevirtual 51, 23, 82, 1, 0) := by decide +kernel
theorem cd_Table_heldBy_23 : code_ 83 23 = some (.ifCond .eq 6, 26, 29, 0, 0) := by decide +kernel
theorem cd_Table_heldBy_26 : code_ 83 26 = some (.iinc 2 1, 29, 0, 0, 0) := by decide +kernel
theorem cd_Table_heldBy_29 : code_ 83 29 = some (.iinc 3 1, 32, 0, 0, 0) := by decide +kernel
theorem cd_Table_heldBy_32 : code_ 83 32 = some (.goto (-28), 35, 4, 0, 0) := by decide +kernel
theorem cd_Table_heldBy_35 : code_ 83 35 = some (.iload_n 2, 36, 0, 0, 0) := by decide +kernel
theorem cd_Table_heldBy_36 : code_ 83 36 = some (.ireturn, 37, 0, 0, 0) := by decide +kernel
theorem cd_Table_setHeld_0 : code_ 84 0 = some (.iload_n 1, 1, 0, 0, 0) := by decide +kernel
theorem cd_Table_setHeld_1 : code_ 84 1 = some (.invokestatic 44, 4, 52, 0, 0) := by decide +kernel
theorem cd_Table_setHeld_4 : code_ 84 4 = some (.ifCond .ne 4, 7, 8, 0, 0) := by decide +kernel
theorem cd_Table_setHeld_7 : code_ 84 7 = some (.return_, 8, 0, 0, 0) := by decide +kernel
theorem cd_Table_setHeld_8 : code_ 84 8 = some (.aload_n 0, 9, 0, 0, 0) := by decide +kernel
theorem cd_Table_setHeld_9 : code_ 84 9 = some (.iload_n 2, 10, 0, 0, 0) := by decide +kernel
theorem cd_Table_setHeld_10 : code_ 84 10 = some (.ifCond .eq 14, 13, 24, 0, 0) := by decide +kernel
theorem cd_Table_setHeld_13 : code_ 84 13 = some (.aload_n 0, 14, 0, 0, 0) := by decide +kernel
theorem cd_Table_setHeld_14 : code_ 84 14 = some (.getfield 35, 17, 6, 2, 0) := by decide +kernel
theorem cd_Table_setHeld_17 : code_ 84 17 = some (.iconst 1, 18, 0, 0, 0) := by decide +kernel
theorem cd_Table_setHeld_18 : code_ 84 18 = some (.iload_n 1, 19, 0, 0, 0) := by decide +kernel
theorem cd_Table_setHeld_19 : code_ 84 19 = some (.ishl, 20, 0, 0, 0) := by decide +kernel
theorem cd_Table_setHeld_20 : code_ 84 20 = some (.ior, 21, 0, 0, 0) := by decide +kernel
theorem cd_Table_setHeld_21 : code_ 84 21 = some (.goto 13, 24, 34, 0, 0) := by decide +kernel
theorem cd_Table_setHeld_24 : code_ 84 24 = some (.aload_n 0, 25, 0, 0, 0) := by decide +kernel
theorem cd_Table_setHeld_25 : code_ 84 25 = some (.getfield 35, 28, 6, 2, 0) := by decide +kernel
theorem cd_Table_setHeld_28 : code_ 84 28 = some (.iconst 1, 29, 0, 0, 0) := by decide +kernel
theorem cd_Table_setHeld_29 : code_ 84 29 = some (.iload_n 1, 30, 0, 0, 0) := by decide +kernel
theorem cd_Table_setHeld_30 : code_ 84 30 = some (.ishl, 31, 0, 0, 0) := by decide +kernel
theorem cd_Table_setHeld_31 : code_ 84 31 = some (.iconst (-1), 32, 0, 0, 0) := by decide +kernel
theorem cd_Table_setHeld_32 : code_ 84 32 = some (.ixor, 33, 0, 0, 0) := by decide +kernel
theorem cd_Table_setHeld_33 : code_ 84 33 = some (.iand, 34, 0, 0, 0) := by decide +kernel
theorem cd_Table_setHeld_34 : code_ 84 34 = some (.putfield 35, 37, 6, 2, 0) := by decide +kernel
theorem cd_Table_setHeld_37 : code_ 84 37 = some (.return_, 38, 0, 0, 0) := by decide +kernel
theorem cd_Table_tenth_0 : code_ 85 0 = some (.aload_n 0, 1, 0, 0, 0) := by decide +kernel
theorem cd_Table_tenth_1 : code_ 85 1 = some (.getfield 38, 4, 6, 5, 0) := by decide +kernel
theorem cd_Table_tenth_4 : code_ 85 4 = some (.ireturn, 5, 0, 0, 0) := by decide +kernel
theorem cd_Table_isDead_0 : code_ 86 0 = some (.aload_n 0, 1, 0, 0, 0) := by decide +kernel
theorem cd_Table_isDead_1 : code_ 86 1 = some (.getfield 24, 4, 6, 3, 0) := by decide +kernel
theorem cd_Table_isDead_4 : code_ 86 4 = some (.bipush (-6), 6, 0, 0, 0) := by decide +kernel
theorem cd_Table_isDead_6 : code_ 86 6 = some (.if_icmp .ne 7, 9, 13, 0, 0) := by decide +kernel
theorem cd_Table_isDead_9 : code_ 86 9 = some (.iconst 1, 10, 0, 0, 0) := by decide +kernel
theorem cd_Table_isDead_10 : code_ 86 10 = some (.goto 4, 13, 14, 0, 0) := by decide +kernel
theorem cd_Table_isDead_13 : code_ 86 13 = some (.iconst 0, 14, 0, 0, 0) := by decide +kernel
theorem cd_Table_isDead_14 : code_ 86 14 = some (.ireturn, 15, 0, 0, 0) := by decide +kernel
theorem cd_Table_ballRod_0 : code_ 87 0 = some (.aload_n 0, 1, 0, 0, 0) := by decide +kernel
theorem cd_Table_ballRod_1 : code_ 87 1 = some (.getfield 24, 4, 6, 3, 0) := by decide +kernel
theorem cd_Table_ballRod_4 : code_ 87 4 = some (.ireturn, 5, 0, 0, 0) := by decide +kernel
theorem cd_Table_ballMan_0 : code_ 88 0 = some (.aload_n 0, 1, 0, 0, 0) := by decide +kernel
theorem cd_Table_ballMan_1 : code_ 88 1 = some (.getfield 28, 4, 6, 4, 0) := by decide +kernel
theorem cd_Table_ballMan_4 : code_ 88 4 = some (.ireturn, 5, 0, 0, 0) := by decide +kernel
theorem cd_Table_ballPlace_0 : code_ 89 0 = some (.aload_n 0, 1, 0, 0, 0) := by decide +kernel
theorem cd_Table_ballPlace_1 : code_ 89 1 = some (.invokevirtual 54, 4, 86, 1, 0) := by decide +kernel
theorem cd_Table_ballPlace_4 : code_ 89 4 = some (.ifCond .eq 8, 7, 12, 0, 0) := by decide +kernel
theorem cd_Table_ballPlace_7 : code_ 89 7 = some (.bipush (-6), 9, 0, 0, 0) := by decide +kernel
theorem cd_Table_ballPlace_9 : code_ 89 9 = some (.goto 15, 12, 24, 0, 0) := by decide +kernel
theorem cd_Table_ballPlace_12 : code_ 89 12 = some (.aload_n 0, 13, 0, 0, 0) := by decide +kernel
theorem cd_Table_ballPlace_13 : code_ 89 13 = some (.aload_n 0, 14, 0, 0, 0) := by decide +kernel
theorem cd_Table_ballPlace_14 : code_ 89 14 = some (.getfield 24, 17, 6, 3, 0) := by decide +kernel
theorem cd_Table_ballPlace_17 : code_ 89 17 = some (.aload_n 0, 18, 0, 0, 0) := by decide +kernel
theorem cd_Table_ballPlace_18 : code_ 89 18 = some (.getfield 28, 21, 6, 4, 0) := by decide +kernel
theorem cd_Table_ballPlace_21 : code_ 89 21 = some (.invokevirtual 58, 24, 92, 1, 0) := by decide +kernel
theorem cd_Table_ballPlace_24 : code_ 89 24 = some (.ireturn, 25, 0, 0, 0) := by decide +kernel
theorem cd_Table_loseBall_0 : code_ 90 0 = some (.aload_n 0, 1, 0, 0, 0) := by decide +kernel
theorem cd_Table_loseBall_1 : code_ 90 1 = some (.bipush (-6), 3, 0, 0, 0) := by decide +kernel
theorem cd_Table_loseBall_3 : code_ 90 3 = some (.putfield 24, 6, 6, 3, 0) := by decide +kernel
theorem cd_Table_loseBall_6 : code_ 90 6 = some (.aload_n 0, 7, 0, 0, 0) := by decide +kernel
theorem cd_Table_loseBall_7 : code_ 90 7 = some (.bipush (-6), 9, 0, 0, 0) := by decide +kernel
theorem cd_Table_loseBall_9 : code_ 90 9 = some (.putfield 28, 12, 6, 4, 0) := by decide +kernel
theorem cd_Table_loseBall_12 : code_ 90 12 = some (.return_, 13, 0, 0, 0) := by decide +kernel
theorem cd_Table_giveBall_0 : code_ 91 0 = some (.iload_n 1, 1, 0, 0, 0) := by decide +kernel
theorem cd_Table_giveBall_1 : code_ 91 1 = some (.ifCond .ge 4, 4, 5, 0, 0) := by decide +kernel
theorem cd_Table_giveBall_4 : code_ 91 4 = some (.return_, 5, 0, 0, 0) := by decide +kernel
theorem cd_Table_giveBall_5 : code_ 91 5 = some (.aload_n 0, 6, 0, 0, 0) := by decide +kernel
theorem cd_Table_giveBall_6 : code_ 91 6 = some (.iload_n 1, 7, 0, 0, 0) := by decide +kernel
theorem cd_Table_giveBall_7 : code_ 91 7 = some (.bipush 10, 9, 0, 0, 0) := by decide +kernel
theorem cd_Table_giveBall_9 : code_ 91 9 = some (.idiv, 10, 0, 0, 0) := by decide +kernel
theorem cd_Table_giveBall_10 : code_ 91 10 = some (.putfield 24, 13, 6, 3, 0) := by decide +kernel
theorem cd_Table_giveBall_13 : code_ 91 13 = some (.aload_n 0, 14, 0, 0, 0) := by decide +kernel
theorem cd_Table_giveBall_14 : code_ 91 14 = some (.iload_n 1, 15, 0, 0, 0) := by decide +kernel
theorem cd_Table_giveBall_15 : code_ 91 15 = some (.bipush 10, 17, 0, 0, 0) := by decide +kernel
theorem cd_Table_giveBall_17 : code_ 91 17 = some (.irem, 18, 0, 0, 0) := by decide +kernel
theorem cd_Table_giveBall_18 : code_ 91 18 = some (.putfield 28, 21, 6, 4, 0) := by decide +kernel
theorem cd_Table_giveBall_21 : code_ 91 21 = some (.return_, 22, 0, 0, 0) := by decide +kernel
theorem cd_Table_placeOf_0 : code_ 92 0 = some (.aload_n 0, 1, 0, 0, 0) := by decide +kernel
theorem cd_Table_placeOf_1 : code_ 92 1 = some (.iload_n 1, 2, 0, 0, 0) := by decide +kernel
theorem cd_Table_placeOf_2 : code_ 92 2 = some (.invokevirtual 62, 5, 76, 1, 0) := by decide +kernel
theorem cd_Table_placeOf_5 : code_ 92 5 = some (.iload_n 2, 6, 0, 0, 0) := by decide +kernel
theorem cd_Table_placeOf_6 : code_ 92 6 = some (.iload_n 1, 7, 0, 0, 0) := by decide +kernel
theorem cd_Table_placeOf_7 : code_ 92 7 = some (.invokestatic 65, 10, 56, 0, 0) := by decide +kernel
theorem cd_Table_placeOf_10 : code_ 92 10 = some (.imul, 11, 0, 0, 0) := by decide +kernel
theorem cd_Table_placeOf_11 : code_ 92 11 = some (.iadd, 12, 0, 0, 0) := by decide +kernel
theorem cd_Table_placeOf_12 : code_ 92 12 = some (.ireturn, 13, 0, 0, 0) := by decide +kernel
theorem cd_Table_covererOf_0 : code_ 93 0 = some (.aload_n 0, 1, 0, 0, 0) := by decide +kernel
theorem cd_Table_covererOf_1 : code_ 93 1 = some (.iload_n 1, 2, 0, 0, 0) := by decide +kernel
theorem cd_Table_covererOf_2 : code_ 93 2 = some (.invokevirtual 62, 5, 76, 1, 0) := by decide +kernel
theorem cd_Table_covererOf_5 : code_ 93 5 = some (.istore_n 3, 6, 0, 0, 0) := by decide +kernel
theorem cd_Table_covererOf_6 : code_ 93 6 = some (.iload_n 1, 7, 0, 0, 0) := by decide +kernel
theorem cd_Table_covererOf_7 : code_ 93 7 = some (.invokestatic 65, 10, 56, 0, 0) := by decide +kernel
theorem cd_Table_covererOf_10 : code_ 93 10 = some (.istore 4, 12, 0, 0, 0) := by decide +kernel
theorem cd_Table_covererOf_12 : code_ 93 12 = some (.iconst 0, 13, 0, 0, 0) := by decide +kernel
theorem cd_Table_covererOf_13 : code_ 93 13 = some (.istore 5, 15, 0, 0, 0) := by decide +kernel
theorem cd_Table_covererOf_15 : code_ 93 15 = some (.iload 5, 17, 0, 0, 0) := by decide +kernel
theorem cd_Table_covererOf_17 : code_ 93 17 = some (.iload_n 1, 18, 0, 0, 0) := by decide +kernel
theorem cd_Table_covererOf_18 : code_ 93 18 = some (.invokestatic 68, 21, 55, 0, 0) := by decide +kernel
theorem cd_Table_covererOf_21 : code_ 93 21 = some (.if_icmp .ge 28, 24, 49, 0, 0) := by decide +kernel
theorem cd_Table_covererOf_24 : code_ 93 24 = some (.iload_n 3, 25, 0, 0, 0) := by decide +kernel
theorem cd_Table_covererOf_25 : code_ 93 25 = some (.iload 5, 27, 0, 0, 0) := by decide +kernel
theorem cd_Table_covererOf_27 : code_ 93 27 = some (.iload 4, 29, 0, 0, 0) := by decide +kernel
theorem cd_Table_covererOf_29 : code_ 93 29 = some (.imul, 30, 0, 0, 0) := by decide +kernel
theorem cd_Table_covererOf_30 : code_ 93 30 = some (.iadd, 31, 0, 0, 0) := by decide +kernel
theorem cd_Table_covererOf_31 : code_ 93 31 = some (.iload_n 2, 32, 0, 0, 0) := by decide +kernel
theorem cd_Table_covererOf_32 : code_ 93 32 = some (.isub, 33, 0, 0, 0) := by decide +kernel
theorem cd_Table_covererOf_33 : code_ 93 33 = some (.invokestatic 71, 36, 212, 0, 0) := by decide +kernel
theorem cd_Table_covererOf_36 : code_ 93 36 = some (.iconst 1, 37, 0, 0, 0) := by decide +kernel
theorem cd_Table_covererOf_37 : code_ 93 37 = some (.if_icmp .gt 6, 40, 43, 0, 0) := by decide +kernel
theorem cd_Table_covererOf_40 : code_ 93 40 = some (.iload 5, 42, 0, 0, 0) := by decide +kernel
theorem cd_Table_covererOf_42 : code_ 93 42 = some (.ireturn, 43, 0, 0, 0) := by decide +kernel
theorem cd_Table_covererOf_43 : code_ 93 43 = some (.iinc 5 1, 46, 0, 0, 0) := by decide +kernel
theorem cd_Table_covererOf_46 : code_ 93 46 = some (.goto (-31), 49, 15, 0, 0) := by decide +kernel
theorem cd_Table_covererOf_49 : code_ 93 49 = some (.iconst (-1), 50, 0, 0, 0) := by decide +kernel
theorem cd_Table_covererOf_50 : code_ 93 50 = some (.ireturn, 51, 0, 0, 0) := by decide +kernel
theorem cd_Table_nearestOf_0 : code_ 94 0 = some (.aload_n 0, 1, 0, 0, 0) := by decide +kernel
theorem cd_Table_nearestOf_1 : code_ 94 1 = some (.iload_n 1, 2, 0, 0, 0) := by decide +kernel
theorem cd_Table_nearestOf_2 : code_ 94 2 = some (.invokevirtual 62, 5, 76, 1, 0) := by decide +kernel
theorem cd_Table_nearestOf_5 : code_ 94 5 = some (.istore_n 3, 6, 0, 0, 0) := by decide +kernel
theorem cd_Table_nearestOf_6 : code_ 94 6 = some (.iload_n 1, 7, 0, 0, 0) := by decide +kernel
theorem cd_Table_nearestOf_7 : code_ 94 7 = some (.invokestatic 65, 10, 56, 0, 0) := by decide +kernel
theorem cd_Table_nearestOf_10 : code_ 94 10 = some (.istore 4, 12, 0, 0, 0) := by decide +kernel
theorem cd_Table_nearestOf_12 : code_ 94 12 = some (.iconst 0, 13, 0, 0, 0) := by decide +kernel
theorem cd_Table_nearestOf_13 : code_ 94 13 = some (.istore 5, 15, 0, 0, 0) := by decide +kernel
theorem cd_Table_nearestOf_15 : code_ 94 15 = some (.iconst 1, 16, 0, 0, 0) := by decide +kernel
theorem cd_Table_nearestOf_16 : code_ 94 16 = some (.istore 6, 18, 0, 0, 0) := by decide +kernel
theorem cd_Table_nearestOf_18 : code_ 94 18 = some (.iload 6, 20, 0, 0, 0) := by decide +kernel
theorem cd_Table_nearestOf_20 : code_ 94 20 = some (.iload_n 1, 21, 0, 0, 0) := by decide +kernel
theorem cd_Table_nearestOf_21 : code_ 94 21 = some (.invokestatic 68, 24, 55, 0, 0) := by decide +kernel
theorem cd_Table_nearestOf_24 : code_ 94 24 = some (.if_icmp .ge 40, 27, 64, 0, 0) := by decide +kernel
theorem cd_Table_nearestOf_27 : code_ 94 27 = some (.iload_n 3, 28, 0, 0, 0) := by decide +kernel
theorem cd_Table_nearestOf_28 : code_ 94 28 = some (.iload 6, 30, 0, 0, 0) := by decide +kernel
theorem cd_Table_nearestOf_30 : code_ 94 30 = some (.iload 4, 32, 0, 0, 0) := by decide +kernel
theorem cd_Table_nearestOf_32 : code_ 94 32 = some (.imul, 33, 0, 0, 0) := by decide +kernel
theorem cd_Table_nearestOf_33 : code_ 94 33 = some (.iadd, 34, 0, 0, 0) := by decide +kernel
theorem cd_Table_nearestOf_34 : code_ 94 34 = some (.iload_n 2, 35, 0, 0, 0) := by decide +kernel
theorem cd_Table_nearestOf_35 : code_ 94 35 = some (.isub, 36, 0, 0, 0) := by decide +kernel
theorem cd_Table_nearestOf_36 : code_ 94 36 = some (.invokestatic 71, 39, 212, 0, 0) := by decide +kernel
theorem cd_Table_nearestOf_39 : code_ 94 39 = some (.iload_n 3, 40, 0, 0, 0) := by decide +kernel
theorem cd_Table_nearestOf_40 : code_ 94 40 = some (.iload 5, 42, 0, 0, 0) := by decide +kernel
theorem cd_Table_nearestOf_42 : code_ 94 42 = some (.iload 4, 44, 0, 0, 0) := by decide +kernel
theorem cd_Table_nearestOf_44 : code_ 94 44 = some (.imul, 45, 0, 0, 0) := by decide +kernel
theorem cd_Table_nearestOf_45 : code_ 94 45 = some (.iadd, 46, 0, 0, 0) := by decide +kernel
theorem cd_Table_nearestOf_46 : code_ 94 46 = some (.iload_n 2, 47, 0, 0, 0) := by decide +kernel
theorem cd_Table_nearestOf_47 : code_ 94 47 = some (.isub, 48, 0, 0, 0) := by decide +kernel
theorem cd_Table_nearestOf_48 : code_ 94 48 = some (.invokestatic 71, 51, 212, 0, 0) := by decide +kernel
theorem cd_Table_nearestOf_51 : code_ 94 51 = some (.if_icmp .ge 7, 54, 58, 0, 0) := by decide +kernel
theorem cd_Table_nearestOf_54 : code_ 94 54 = some (.iload 6, 56, 0, 0, 0) := by decide +kernel
theorem cd_Table_nearestOf_56 : code_ 94 56 = some (.istore 5, 58, 0, 0, 0) := by decide +kernel
theorem cd_Table_nearestOf_58 : code_ 94 58 = some (.iinc 6 1, 61, 0, 0, 0) := by decide +kernel
theorem cd_Table_nearestOf_61 : code_ 94 61 = some (.goto (-43), 64, 18, 0, 0) := by decide +kernel
theorem cd_Table_nearestOf_64 : code_ 94 64 = some (.iload 5, 66, 0, 0, 0) := by decide +kernel
theorem cd_Table_nearestOf_66 : code_ 94 66 = some (.ireturn, 67, 0, 0, 0) := by decide +kernel
theorem cd_Table_overFrom_0 : code_ 95 0 = some (.iload_n 1, 1, 0, 0, 0) := by decide +kernel
theorem cd_Table_overFrom_1 : code_ 95 1 = some (.invokestatic 48, 4, 54, 0, 0) := by decide +kernel
theorem cd_Table_overFrom_4 : code_ 95 4 = some (.istore 4, 6, 0, 0, 0) := by decide +kernel
theorem cd_Table_overFrom_6 : code_ 95 6 = some (.iload_n 3, 7, 0, 0, 0) := by decide +kernel
theorem cd_Table_overFrom_7 : code_ 95 7 = some (.iload_n 1, 8, 0, 0, 0) := by decide +kernel
theorem cd_Table_overFrom_8 : code_ 95 8 = some (.if_icmp .eq 12, 11, 20, 0, 0) := by decide +kernel
theorem cd_Table_overFrom_11 : code_ 95 11 = some (.iload_n 3, 12, 0, 0, 0) := by decide +kernel
theorem cd_Table_overFrom_12 : code_ 95 12 = some (.iload 4, 14, 0, 0, 0) := by decide +kernel
theorem cd_Table_overFrom_14 : code_ 95 14 = some (.invokestatic 76, 17, 58, 0, 0) := by decide +kernel
theorem cd_Table_overFrom_17 : code_ 95 17 = some (.ifCond .ne 5, 20, 22, 0, 0) := by decide +kernel
theorem cd_Table_overFrom_20 : code_ 95 20 = some (.iconst (-1), 21, 0, 0, 0) := by decide +kernel
theorem cd_Table_overFrom_21 : code_ 95 21 = some (.ireturn, 22, 0, 0, 0) := by decide +kernel
theorem cd_Table_overFrom_22 : code_ 95 22 = some (.aload_n 0, 23, 0, 0, 0) := by decide +kernel
theorem cd_Table_overFrom_23 : code_ 95 23 = some (.iload_n 1, 24, 0, 0, 0) := by decide +kernel
theorem cd_Table_overFrom_24 : code_ 95 24 = some (.iload_n 2, 25, 0, 0, 0) := by decide +kernel
theorem cd_Table_overFrom_25 : code_ 95 25 = some (.invokevirtual 58, 28, 92, 1, 0) := by decide +kernel
theorem cd_Table_overFrom_28 : code_ 95 28 = some (.istore 5, 30, 0, 0, 0) := by decide +kernel
theorem cd_Table_overFrom_30 : code_ 95 30 = some (.aload_n 0, 31, 0, 0, 0) := by decide +kernel
theorem cd_Table_overFrom_31 : code_ 95 31 = some (.iload_n 3, 32, 0, 0, 0) := by decide +kernel
theorem cd_Table_overFrom_32 : code_ 95 32 = some (.iload 5, 34, 0, 0, 0) := by decide +kernel
theorem cd_Table_overFrom_34 : code_ 95 34 = some (.invokevirtual 80, 37, 94, 1, 0) := by decide +kernel
theorem cd_Table_overFrom_37 : code_ 95 37 = some (.istore 6, 39, 0, 0, 0) := by decide +kernel
theorem cd_Table_overFrom_39 : code_ 95 39 = some (.aload_n 0, 40, 0, 0, 0) := by decide +kernel
theorem cd_Table_overFrom_40 : code_ 95 40 = some (.iload_n 3, 41, 0, 0, 0) := by decide +kernel
theorem cd_Table_overFrom_41 : code_ 95 41 = some (.iload 6, 43, 0, 0, 0) := by decide +kernel
theorem cd_Table_overFrom_43 : code_ 95 43 = some (.invokevirtual 58, 46, 92, 1, 0) := by decide +kernel
theorem cd_Table_overFrom_46 : code_ 95 46 = some (.iload 5, 48, 0, 0, 0) := by decide +kernel
theorem cd_Table_overFrom_48 : code_ 95 48 = some (.isub, 49, 0, 0, 0) := by decide +kernel
theorem cd_Table_overFrom_49 : code_ 95 49 = some (.invokestatic 71, 52, 212, 0, 0) := by decide +kernel
theorem cd_Table_overFrom_52 : code_ 95 52 = some (.iconst 3, 53, 0, 0, 0) := by decide +kernel
theorem cd_Table_overFrom_53 : code_ 95 53 = some (.if_icmp .le 5, 56, 58, 0, 0) := by decide +kernel
theorem cd_Table_overFrom_56 : code_ 95 56 = some (.iconst (-1), 57, 0, 0, 0) := by decide +kernel
theorem cd_Table_overFrom_57 : code_ 95 57 = some (.ireturn, 58, 0, 0, 0) := by decide +kernel
theorem cd_Table_overFrom_58 : code_ 95 58 = some (.iload_n 3, 59, 0, 0, 0) := by decide +kernel
theorem cd_Table_overFrom_59 : code_ 95 59 = some (.iload_n 1, 60, 0, 0, 0) := by decide +kernel
theorem cd_Table_overFrom_60 : code_ 95 60 = some (.if_icmp .le 7, 63, 67, 0, 0) := by decide +kernel
theorem cd_Table_overFrom_63 : code_ 95 63 = some (.iconst 1, 64, 0, 0, 0) := by decide +kernel
theorem cd_Table_overFrom_64 : code_ 95 64 = some (.goto 4, 67, 68, 0, 0) := by decide +kernel
theorem cd_Table_overFrom_67 : code_ 95 67 = some (.iconst (-1), 68, 0, 0, 0) := by decide +kernel
theorem cd_Table_overFrom_68 : code_ 95 68 = some (.istore 7, 70, 0, 0, 0) := by decide +kernel
theorem cd_Table_overFrom_70 : code_ 95 70 = some (.iconst 1, 71, 0, 0, 0) := by decide +kernel
theorem cd_Table_overFrom_71 : code_ 95 71 = some (.istore 8, 73, 0, 0, 0) := by decide +kernel
theorem cd_Table_overFrom_73 : code_ 95 73 = some (.iload 8, 75, 0, 0, 0) := by decide +kernel
theorem cd_Table_overFrom_75 : code_ 95 75 = some (.bipush 8, 77, 0, 0, 0) := by decide +kernel
theorem cd_Table_overFrom_77 : code_ 95 77 = some (.if_icmp .ge 68, 80, 145, 0, 0) := by decide +kernel
theorem cd_Table_overFrom_80 : code_ 95 80 = some (.iload_n 1, 81, 0, 0, 0) := by decide +kernel
theorem cd_Table_overFrom_81 : code_ 95 81 = some (.iload 8, 83, 0, 0, 0) := by decide +kernel
theorem cd_Table_overFrom_83 : code_ 95 83 = some (.iload 7, 85, 0, 0, 0) := by decide +kernel
theorem cd_Table_overFrom_85 : code_ 95 85 = some (.imul, 86, 0, 0, 0) := by decide +kernel
theorem cd_Table_overFrom_86 : code_ 95 86 = some (.iadd, 87, 0, 0, 0) := by decide +kernel
theorem cd_Table_overFrom_87 : code_ 95 87 = some (.istore 9, 89, 0, 0, 0) := by decide +kernel
theorem cd_Table_overFrom_89 : code_ 95 89 = some (.iload 9, 91, 0, 0, 0) := by decide +kernel
theorem cd_Table_overFrom_91 : code_ 95 91 = some (.iload_n 3, 92, 0, 0, 0) := by decide +kernel
theorem cd_Table_overFrom_92 : code_ 95 92 = some (.if_icmp .ne 6, 95, 98, 0, 0) := by decide +kernel
theorem cd_Table_overFrom_95 : code_ 95 95 = some (.goto 50, 98, 145, 0, 0) := by decide +kernel
theorem cd_Table_overFrom_98 : code_ 95 98 = some (.iload 9, 100, 0, 0, 0) := by decide +kernel
theorem cd_Table_overFrom_100 : code_ 95 100 = some (.iconst 1, 101, 0, 0, 0) := by decide +kernel
theorem cd_Table_overFrom_101 : code_ 95 101 = some (.iload 4, 103, 0, 0, 0) := by decide +kernel
theorem cd_Table_overFrom_103 : code_ 95 103 = some (.isub, 104, 0, 0, 0) := by decide +kernel
theorem cd_Table_overFrom_104 : code_ 95 104 = some (.invokestatic 76, 107, 58, 0, 0) := by decide +kernel
theorem cd_Table_overFrom_107 : code_ 95 107 = some (.ifCond .eq 14, 110, 121, 0, 0) := by decide +kernel
theorem cd_Table_overFrom_110 : code_ 95 110 = some (.aload_n 0, 111, 0, 0, 0) := by decide +kernel
theorem cd_Table_overFrom_111 : code_ 95 111 = some (.iload 9, 113, 0, 0, 0) := by decide +kernel
theorem cd_Table_overFrom_113 : code_ 95 113 = some (.iload 5, 115, 0, 0, 0) := by decide +kernel
theorem cd_Table_overFrom_115 : code_ 95 115 = some (.invokevirtual 83, 118, 93, 1, 0) := by decide +kernel
theorem cd_Table_overFrom_118 : code_ 95 118 = some (.goto 4, 121, 122, 0, 0) := by decide +kernel
theorem cd_Table_overFrom_121 : code_ 95 121 = some (.iconst (-1), 122, 0, 0, 0) := by decide +kernel
theorem cd_Table_overFrom_122 : code_ 95 122 = some (.istore 10, 124, 0, 0, 0) := by decide +kernel
theorem cd_Table_overFrom_124 : code_ 95 124 = some (.iload 10, 126, 0, 0, 0) := by decide +kernel
theorem cd_Table_overFrom_126 : code_ 95 126 = some (.iconst (-1), 127, 0, 0, 0) := by decide +kernel
theorem cd_Table_overFrom_127 : code_ 95 127 = some (.if_icmp .eq 12, 130, 139, 0, 0) := by decide +kernel
theorem cd_Table_overFrom_130 : code_ 95 130 = some (.bipush 10, 132, 0, 0, 0) := by decide +kernel
theorem cd_Table_overFrom_132 : code_ 95 132 = some (.iload 9, 134, 0, 0, 0) := by decide +kernel
theorem cd_Table_overFrom_134 : code_ 95 134 = some (.imul, 135, 0, 0, 0) := by decide +kernel
theorem cd_Table_overFrom_135 : code_ 95 135 = some (.iload 10, 137, 0, 0, 0) := by decide +kernel
theorem cd_Table_overFrom_137 : code_ 95 137 = some (.iadd, 138, 0, 0, 0) := by decide +kernel
theorem cd_Table_overFrom_138 : code_ 95 138 = some (.ireturn, 139, 0, 0, 0) := by decide +kernel
theorem cd_Table_overFrom_139 : code_ 95 139 = some (.iinc 8 1, 142, 0, 0, 0) := by decide +kernel
theorem cd_Table_overFrom_142 : code_ 95 142 = some (.goto (-69), 145, 73, 0, 0) := by decide +kernel
theorem cd_Table_overFrom_145 : code_ 95 145 = some (.bipush 10, 147, 0, 0, 0) := by decide +kernel
theorem cd_Table_overFrom_147 : code_ 95 147 = some (.iload_n 3, 148, 0, 0, 0) := by decide +kernel
theorem cd_Table_overFrom_148 : code_ 95 148 = some (.imul, 149, 0, 0, 0) := by decide +kernel
theorem cd_Table_overFrom_149 : code_ 95 149 = some (.iload 6, 151, 0, 0, 0) := by decide +kernel
theorem cd_Table_overFrom_151 : code_ 95 151 = some (.iadd, 152, 0, 0, 0) := by decide +kernel
theorem cd_Table_overFrom_152 : code_ 95 152 = some (.ireturn, 153, 0, 0, 0) := by decide +kernel
theorem cd_Table_shotEnd_0 : code_ 96 0 = some (.aload_n 0, 1, 0, 0, 0) := by decide +kernel
theorem cd_Table_shotEnd_1 : code_ 96 1 = some (.invokevirtual 54, 4, 86, 1, 0) := by decide +kernel
theorem cd_Table_shotEnd_4 : code_ 96 4 = some (.ifCond .eq 5, 7, 9, 0, 0) := by decide +kernel
theorem cd_Table_shotEnd_7 : code_ 96 7 = some (.iconst (-1), 8, 0, 0, 0) := by decide +kernel
theorem cd_Table_shotEnd_8 : code_ 96 8 = some (.ireturn, 9, 0, 0, 0) := by decide +kernel
theorem cd_Table_shotEnd_9 : code_ 96 9 = some (.aload_n 0, 10, 0, 0, 0) := by decide +kernel
theorem cd_Table_shotEnd_10 : code_ 96 10 = some (.getfield 24, 13, 6, 3, 0) := by decide +kernel
theorem cd_Table_shotEnd_13 : code_ 96 13 = some (.invokestatic 48, 16, 54, 0, 0) := by decide +kernel
theorem cd_Table_shotEnd_16 : code_ 96 16 = some (.istore_n 2, 17, 0, 0, 0) := by decide +kernel
theorem cd_Table_shotEnd_17 : code_ 96 17 = some (.aload_n 0, 18, 0, 0, 0) := by decide +kernel
theorem cd_Table_shotEnd_18 : code_ 96 18 = some (.aload_n 0, 19, 0, 0, 0) := by decide +kernel
theorem cd_Table_shotEnd_19 : code_ 96 19 = some (.getfield 24, 22, 6, 3, 0) := by decide +kernel
theorem cd_Table_shotEnd_22 : code_ 96 22 = some (.aload_n 0, 23, 0, 0, 0) := by decide +kernel
theorem cd_Table_shotEnd_23 : code_ 96 23 = some (.getfield 28, 26, 6, 4, 0) := by decide +kernel
theorem cd_Table_shotEnd_26 : code_ 96 26 = some (.invokevirtual 58, 29, 92, 1, 0) := by decide +kernel
theorem cd_Table_shotEnd_29 : code_ 96 29 = some (.istore_n 3, 30, 0, 0, 0) := by decide +kernel
theorem cd_Table_shotEnd_30 : code_ 96 30 = some (.iconst 1, 31, 0, 0, 0) := by decide +kernel
theorem cd_Table_shotEnd_31 : code_ 96 31 = some (.istore 4, 33, 0, 0, 0) := by decide +kernel
theorem cd_Table_shotEnd_33 : code_ 96 33 = some (.iload 4, 35, 0, 0, 0) := by decide +kernel
theorem cd_Table_shotEnd_35 : code_ 96 35 = some (.bipush 8, 37, 0, 0, 0) := by decide +kernel
theorem cd_Table_shotEnd_37 : code_ 96 37 = some (.if_icmp .ge 66, 40, 103, 0, 0) := by decide +kernel
theorem cd_Table_shotEnd_40 : code_ 96 40 = some (.aload_n 0, 41, 0, 0, 0) := by decide +kernel
theorem cd_Table_shotEnd_41 : code_ 96 41 = some (.getfield 24, 44, 6, 3, 0) := by decide +kernel
theorem cd_Table_shotEnd_44 : code_ 96 44 = some (.iload 4, 46, 0, 0, 0) := by decide +kernel
theorem cd_Table_shotEnd_46 : code_ 96 46 = some (.iload_n 2, 47, 0, 0, 0) := by decide +kernel
theorem cd_Table_shotEnd_47 : code_ 96 47 = some (.invokestatic 86, 50, 61, 0, 0) := by decide +kernel
theorem cd_Table_shotEnd_50 : code_ 96 50 = some (.imul, 51, 0, 0, 0) := by decide +kernel
theorem cd_Table_shotEnd_51 : code_ 96 51 = some (.iadd, 52, 0, 0, 0) := by decide +kernel
theorem cd_Table_shotEnd_52 : code_ 96 52 = some (.istore 5, 54, 0, 0, 0) := by decide +kernel
theorem cd_Table_shotEnd_54 : code_ 96 54 = some (.iload 5, 56, 0, 0, 0) := by decide +kernel
theorem cd_Table_shotEnd_56 : code_ 96 56 = some (.iconst 1, 57, 0, 0, 0) := by decide +kernel
theorem cd_Table_shotEnd_57 : code_ 96 57 = some (.iload_n 2, 58, 0, 0, 0) := by decide +kernel
theorem cd_Table_shotEnd_58 : code_ 96 58 = some (.isub, 59, 0, 0, 0) := by decide +kernel
theorem cd_Table_shotEnd_59 : code_ 96 59 = some (.invokestatic 76, 62, 58, 0, 0) := by decide +kernel
theorem cd_Table_shotEnd_62 : code_ 96 62 = some (.ifCond .eq 35, 65, 97, 0, 0) := by decide +kernel
theorem cd_Table_shotEnd_65 : code_ 96 65 = some (.aload_n 0, 66, 0, 0, 0) := by decide +kernel
theorem cd_Table_shotEnd_66 : code_ 96 66 = some (.iload 5, 68, 0, 0, 0) := by decide +kernel
theorem cd_Table_shotEnd_68 : code_ 96 68 = some (.iload_n 3, 69, 0, 0, 0) := by decide +kernel
theorem cd_Table_shotEnd_69 : code_ 96 69 = some (.iload 4, 71, 0, 0, 0) := by decide +kernel
theorem cd_Table_shotEnd_71 : code_ 96 71 = some (.iload_n 1, 72, 0, 0, 0) := by decide +kernel
theorem cd_Table_shotEnd_72 : code_ 96 72 = some (.imul, 73, 0, 0, 0) := by decide +kernel
theorem cd_Table_shotEnd_73 : code_ 96 73 = some (.iadd, 74, 0, 0, 0) := by decide +kernel
theorem cd_Table_shotEnd_74 : code_ 96 74 = some (.invokestatic 89, 77, 100, 0, 0) := by decide +kernel
theorem cd_Table_shotEnd_77 : code_ 96 77 = some (.invokevirtual 83, 80, 93, 1, 0) := by decide +kernel
theorem cd_Table_shotEnd_80 : code_ 96 80 = some (.istore 6, 82, 0, 0, 0) := by decide +kernel
theorem cd_Table_shotEnd_82 : code_ 96 82 = some (.iload 6, 84, 0, 0, 0) := by decide +kernel
theorem cd_Table_shotEnd_84 : code_ 96 84 = some (.iconst (-1), 85, 0, 0, 0) := by decide +kernel
theorem cd_Table_shotEnd_85 : code_ 96 85 = some (.if_icmp .eq 12, 88, 97, 0, 0) := by decide +kernel
theorem cd_Table_shotEnd_88 : code_ 96 88 = some (.bipush 10, 90, 0, 0, 0) := by decide +kernel
theorem cd_Table_shotEnd_90 : code_ 96 90 = some (.iload 5, 92, 0, 0, 0) := by decide +kernel
theorem cd_Table_shotEnd_92 : code_ 96 92 = some (.imul, 93, 0, 0, 0) := by decide +kernel
theorem cd_Table_shotEnd_93 : code_ 96 93 = some (.iload 6, 95, 0, 0, 0) := by decide +kernel
theorem cd_Table_shotEnd_95 : code_ 96 95 = some (.iadd, 96, 0, 0, 0) := by decide +kernel
theorem cd_Table_shotEnd_96 : code_ 96 96 = some (.ireturn, 97, 0, 0, 0) := by decide +kernel
theorem cd_Table_shotEnd_97 : code_ 96 97 = some (.iinc 4 1, 100, 0, 0, 0) := by decide +kernel
theorem cd_Table_shotEnd_100 : code_ 96 100 = some (.goto (-67), 103, 33, 0, 0) := by decide +kernel
theorem cd_Table_shotEnd_103 : code_ 96 103 = some (.aload_n 0, 104, 0, 0, 0) := by decide +kernel
theorem cd_Table_shotEnd_104 : code_ 96 104 = some (.iload_n 3, 105, 0, 0, 0) := by decide +kernel
theorem cd_Table_shotEnd_105 : code_ 96 105 = some (.iload_n 1, 106, 0, 0, 0) := by decide +kernel
theorem cd_Table_shotEnd_106 : code_ 96 106 = some (.invokevirtual 92, 109, 97, 1, 0) := by decide +kernel
theorem cd_Table_shotEnd_109 : code_ 96 109 = some (.ifCond .eq 8, 112, 117, 0, 0) := by decide +kernel
theorem cd_Table_shotEnd_112 : code_ 96 112 = some (.bipush 80, 114, 0, 0, 0) := by decide +kernel
theorem cd_Table_shotEnd_114 : code_ 96 114 = some (.goto 12, 117, 126, 0, 0) := by decide +kernel
theorem cd_Table_shotEnd_117 : code_ 96 117 = some (.bipush 10, 119, 0, 0, 0) := by decide +kernel
theorem cd_Table_shotEnd_119 : code_ 96 119 = some (.iconst 1, 120, 0, 0, 0) := by decide +kernel
theorem cd_Table_shotEnd_120 : code_ 96 120 = some (.iload_n 2, 121, 0, 0, 0) := by decide +kernel
theorem cd_Table_shotEnd_121 : code_ 96 121 = some (.isub, 122, 0, 0, 0) := by decide +kernel
theorem cd_Table_shotEnd_122 : code_ 96 122 = some (.invokestatic 95, 125, 59, 0, 0) := by decide +kernel
theorem cd_Table_shotEnd_125 : code_ 96 125 = some (.imul, 126, 0, 0, 0) := by decide +kernel
theorem cd_Table_shotEnd_126 : code_ 96 126 = some (.ireturn, 127, 0, 0, 0) := by decide +kernel
theorem cd_Table_reachesGoal_0 : code_ 97 0 = some (.iconst 1, 1, 0, 0, 0) := by decide +kernel
theorem cd_Table_reachesGoal_1 : code_ 97 1 = some (.aload_n 0, 2, 0, 0, 0) := by decide +kernel
theorem cd_Table_reachesGoal_2 : code_ 97 2 = some (.getfield 24, 5, 6, 3, 0) := by decide +kernel
theorem cd_Table_reachesGoal_5 : code_ 97 5 = some (.invokestatic 48, 8, 54, 0, 0) := by decide +kernel
theorem cd_Table_reachesGoal_8 : code_ 97 8 = some (.isub, 9, 0, 0, 0) := by decide +kernel
theorem cd_Table_reachesGoal_9 : code_ 97 9 = some (.invokestatic 95, 12, 59, 0, 0) := by decide +kernel
theorem cd_Table_reachesGoal_12 : code_ 97 12 = some (.aload_n 0, 13, 0, 0, 0) := by decide +kernel
theorem cd_Table_reachesGoal_13 : code_ 97 13 = some (.getfield 24, 16, 6, 3, 0) := by decide +kernel
theorem cd_Table_reachesGoal_16 : code_ 97 16 = some (.isub, 17, 0, 0, 0) := by decide +kernel
theorem cd_Table_reachesGoal_17 : code_ 97 17 = some (.invokestatic 71, 20, 212, 0, 0) := by decide +kernel
theorem cd_Table_reachesGoal_20 : code_ 97 20 = some (.iconst 1, 21, 0, 0, 0) := by decide +kernel
theorem cd_Table_reachesGoal_21 : code_ 97 21 = some (.iadd, 22, 0, 0, 0) := by decide +kernel
theorem cd_Table_reachesGoal_22 : code_ 97 22 = some (.istore_n 3, 23, 0, 0, 0) := by decide +kernel
theorem cd_Table_reachesGoal_23 : code_ 97 23 = some (.iload_n 1, 24, 0, 0, 0) := by decide +kernel
theorem cd_Table_reachesGoal_24 : code_ 97 24 = some (.iload_n 3, 25, 0, 0, 0) := by decide +kernel
theorem cd_Table_reachesGoal_25 : code_ 97 25 = some (.iload_n 2, 26, 0, 0, 0) := by decide +kernel
theorem cd_Table_reachesGoal_26 : code_ 97 26 = some (.imul, 27, 0, 0, 0) := by decide +kernel
theorem cd_Table_reachesGoal_27 : code_ 97 27 = some (.iadd, 28, 0, 0, 0) := by decide +kernel
theorem cd_Table_reachesGoal_28 : code_ 97 28 = some (.invokestatic 89, 31, 100, 0, 0) := by decide +kernel
theorem cd_Table_reachesGoal_31 : code_ 97 31 = some (.istore 4, 33, 0, 0, 0) := by decide +kernel
theorem cd_Table_reachesGoal_33 : code_ 97 33 = some (.iload 4, 35, 0, 0, 0) := by decide +kernel
theorem cd_Table_reachesGoal_35 : code_ 97 35 = some (.bipush 15, 37, 0, 0, 0) := by decide +kernel
theorem cd_Table_reachesGoal_37 : code_ 97 37 = some (.if_icmp .lt 14, 40, 51, 0, 0) := by decide +kernel
theorem cd_Table_reachesGoal_40 : code_ 97 40 = some (.iload 4, 42, 0, 0, 0) := by decide +kernel
theorem cd_Table_reachesGoal_42 : code_ 97 42 = some (.bipush 25, 44, 0, 0, 0) := by decide +kernel
theorem cd_Table_reachesGoal_44 : code_ 97 44 = some (.if_icmp .gt 7, 47, 51, 0, 0) := by decide +kernel
theorem cd_Table_reachesGoal_47 : code_ 97 47 = some (.iconst 1, 48, 0, 0, 0) := by decide +kernel
theorem cd_Table_reachesGoal_48 : code_ 97 48 = some (.goto 4, 51, 52, 0, 0) := by decide +kernel
theorem cd_Table_reachesGoal_51 : code_ 97 51 = some (.iconst 0, 52, 0, 0, 0) := by decide +kernel
theorem cd_Table_reachesGoal_52 : code_ 97 52 = some (.ireturn, 53, 0, 0, 0) := by decide +kernel
theorem cd_Table_shotsToGoal_0 : code_ 98 0 = some (.aload_n 0, 1, 0, 0, 0) := by decide +kernel
theorem cd_Table_shotsToGoal_1 : code_ 98 1 = some (.invokevirtual 98, 4, 89, 1, 0) := by decide +kernel
theorem cd_Table_shotsToGoal_4 : code_ 98 4 = some (.istore_n 1, 5, 0, 0, 0) := by decide +kernel
theorem cd_Table_shotsToGoal_5 : code_ 98 5 = some (.iconst 0, 6, 0, 0, 0) := by decide +kernel
theorem cd_Table_shotsToGoal_6 : code_ 98 6 = some (.istore_n 2, 7, 0, 0, 0) := by decide +kernel
theorem cd_Table_shotsToGoal_7 : code_ 98 7 = some (.bipush (-9), 9, 0, 0, 0) := by decide +kernel
theorem cd_Table_shotsToGoal_9 : code_ 98 9 = some (.istore_n 3, 10, 0, 0, 0) := by decide +kernel
theorem cd_Table_shotsToGoal_10 : code_ 98 10 = some (.iload_n 3, 11, 0, 0, 0) := by decide +kernel
theorem cd_Table_shotsToGoal_11 : code_ 98 11 = some (.bipush 9, 13, 0, 0, 0) := by decide +kernel
theorem cd_Table_shotsToGoal_13 : code_ 98 13 = some (.if_icmp .gt 25, 16, 38, 0, 0) := by decide +kernel
theorem cd_Table_shotsToGoal_16 : code_ 98 16 = some (.aload_n 0, 17, 0, 0, 0) := by decide +kernel
theorem cd_Table_shotsToGoal_17 : code_ 98 17 = some (.iload_n 1, 18, 0, 0, 0) := by decide +kernel
theorem cd_Table_shotsToGoal_18 : code_ 98 18 = some (.iload_n 3, 19, 0, 0, 0) := by decide +kernel
theorem cd_Table_shotsToGoal_19 : code_ 98 19 = some (.invokevirtual 92, 22, 97, 1, 0) := by decide +kernel
theorem cd_Table_shotsToGoal_22 : code_ 98 22 = some (.ifCond .eq 10, 25, 32, 0, 0) := by decide +kernel
theorem cd_Table_shotsToGoal_25 : code_ 98 25 = some (.iload_n 2, 26, 0, 0, 0) := by decide +kernel
theorem cd_Table_shotsToGoal_26 : code_ 98 26 = some (.iload_n 3, 27, 0, 0, 0) := by decide +kernel
theorem cd_Table_shotsToGoal_27 : code_ 98 27 = some (.invokestatic 102, 30, 143, 3, 0) := by decide +kernel
theorem cd_Table_shotsToGoal_30 : code_ 98 30 = some (.ior, 31, 0, 0, 0) := by decide +kernel
theorem cd_Table_shotsToGoal_31 : code_ 98 31 = some (.istore_n 2, 32, 0, 0, 0) := by decide +kernel
theorem cd_Table_shotsToGoal_32 : code_ 98 32 = some (.iinc 3 1, 35, 0, 0, 0) := by decide +kernel
theorem cd_Table_shotsToGoal_35 : code_ 98 35 = some (.goto (-25), 38, 10, 0, 0) := by decide +kernel
theorem cd_Table_shotsToGoal_38 : code_ 98 38 = some (.iload_n 2, 39, 0, 0, 0) := by decide +kernel
theorem cd_Table_shotsToGoal_39 : code_ 98 39 = some (.ireturn, 40, 0, 0, 0) := by decide +kernel
theorem cd_Table_shotsPast_0 : code_ 99 0 = some (.aload_n 0, 1, 0, 0, 0) := by decide +kernel
theorem cd_Table_shotsPast_1 : code_ 99 1 = some (.invokevirtual 98, 4, 89, 1, 0) := by decide +kernel
theorem cd_Table_shotsPast_4 : code_ 99 4 = some (.istore_n 2, 5, 0, 0, 0) := by decide +kernel
theorem cd_Table_shotsPast_5 : code_ 99 5 = some (.iconst 0, 6, 0, 0, 0) := by decide +kernel
theorem cd_Table_shotsPast_6 : code_ 99 6 = some (.istore_n 3, 7, 0, 0, 0) := by decide +kernel
theorem cd_Table_shotsPast_7 : code_ 99 7 = some (.bipush (-9), 9, 0, 0, 0) := by decide +kernel
theorem cd_Table_shotsPast_9 : code_ 99 9 = some (.istore 4, 11, 0, 0, 0) := by decide +kernel
theorem cd_Table_shotsPast_11 : code_ 99 11 = some (.iload 4, 13, 0, 0, 0) := by decide +kernel
theorem cd_Table_shotsPast_13 : code_ 99 13 = some (.bipush 9, 15, 0, 0, 0) := by decide +kernel
theorem cd_Table_shotsPast_15 : code_ 99 15 = some (.if_icmp .gt 47, 18, 62, 0, 0) := by decide +kernel
theorem cd_Table_shotsPast_18 : code_ 99 18 = some (.iload_n 2, 19, 0, 0, 0) := by decide +kernel
theorem cd_Table_shotsPast_19 : code_ 99 19 = some (.iload_n 1, 20, 0, 0, 0) := by decide +kernel
theorem cd_Table_shotsPast_20 : code_ 99 20 = some (.aload_n 0, 21, 0, 0, 0) := by decide +kernel
theorem cd_Table_shotsPast_21 : code_ 99 21 = some (.getfield 24, 24, 6, 3, 0) := by decide +kernel
theorem cd_Table_shotsPast_24 : code_ 99 24 = some (.isub, 25, 0, 0, 0) := by decide +kernel
theorem cd_Table_shotsPast_25 : code_ 99 25 = some (.invokestatic 71, 28, 212, 0, 0) := by decide +kernel
theorem cd_Table_shotsPast_28 : code_ 99 28 = some (.iload 4, 30, 0, 0, 0) := by decide +kernel
theorem cd_Table_shotsPast_30 : code_ 99 30 = some (.imul, 31, 0, 0, 0) := by decide +kernel
theorem cd_Table_shotsPast_31 : code_ 99 31 = some (.iadd, 32, 0, 0, 0) := by decide +kernel
theorem cd_Table_shotsPast_32 : code_ 99 32 = some (.invokestatic 89, 35, 100, 0, 0) := by decide +kernel
theorem cd_Table_shotsPast_35 : code_ 99 35 = some (.istore 5, 37, 0, 0, 0) := by decide +kernel
theorem cd_Table_shotsPast_37 : code_ 99 37 = some (.aload_n 0, 38, 0, 0, 0) := by decide +kernel
theorem cd_Table_shotsPast_38 : code_ 99 38 = some (.iload_n 1, 39, 0, 0, 0) := by decide +kernel
theorem cd_Table_shotsPast_39 : code_ 99 39 = some (.iload 5, 41, 0, 0, 0) := by decide +kernel
theorem cd_Table_shotsPast_41 : code_ 99 41 = some (.invokevirtual 83, 44, 93, 1, 0) := by decide +kernel
theorem cd_Table_shotsPast_44 : code_ 99 44 = some (.iconst (-1), 45, 0, 0, 0) := by decide +kernel
theorem cd_Table_shotsPast_45 : code_ 99 45 = some (.if_icmp .ne 11, 48, 56, 0, 0) := by decide +kernel
theorem cd_Table_shotsPast_48 : code_ 99 48 = some (.iload_n 3, 49, 0, 0, 0) := by decide +kernel
theorem cd_Table_shotsPast_49 : code_ 99 49 = some (.iload 4, 51, 0, 0, 0) := by decide +kernel
theorem cd_Table_shotsPast_51 : code_ 99 51 = some (.invokestatic 102, 54, 143, 3, 0) := by decide +kernel
theorem cd_Table_shotsPast_54 : code_ 99 54 = some (.ior, 55, 0, 0, 0) := by decide +kernel
theorem cd_Table_shotsPast_55 : code_ 99 55 = some (.istore_n 3, 56, 0, 0, 0) := by decide +kernel
theorem cd_Table_shotsPast_56 : code_ 99 56 = some (.iinc 4 1, 59, 0, 0, 0) := by decide +kernel
theorem cd_Table_shotsPast_59 : code_ 99 59 = some (.goto (-48), 62, 11, 0, 0) := by decide +kernel
theorem cd_Table_shotsPast_62 : code_ 99 62 = some (.iload_n 3, 63, 0, 0, 0) := by decide +kernel
theorem cd_Table_shotsPast_63 : code_ 99 63 = some (.ireturn, 64, 0, 0, 0) := by decide +kernel
theorem cd_Table_bounced_0 : code_ 100 0 = some (.iload_n 0, 1, 0, 0, 0) := by decide +kernel
theorem cd_Table_bounced_1 : code_ 100 1 = some (.bipush 80, 3, 0, 0, 0) := by decide +kernel
theorem cd_Table_bounced_3 : code_ 100 3 = some (.invokestatic 105, 6, 211, 0, 0) := by decide +kernel
theorem cd_Table_bounced_6 : code_ 100 6 = some (.istore_n 1, 7, 0, 0, 0) := by decide +kernel
theorem cd_Table_bounced_7 : code_ 100 7 = some (.iload_n 1, 8, 0, 0, 0) := by decide +kernel
theorem cd_Table_bounced_8 : code_ 100 8 = some (.bipush 40, 10, 0, 0, 0) := by decide +kernel
theorem cd_Table_bounced_10 : code_ 100 10 = some (.if_icmp .le 10, 13, 20, 0, 0) := by decide +kernel
theorem cd_Table_bounced_13 : code_ 100 13 = some (.bipush 80, 15, 0, 0, 0) := by decide +kernel
theorem cd_Table_bounced_15 : code_ 100 15 = some (.iload_n 1, 16, 0, 0, 0) := by decide +kernel
theorem cd_Table_bounced_16 : code_ 100 16 = some (.isub, 17, 0, 0, 0) := by decide +kernel
theorem cd_Table_bounced_17 : code_ 100 17 = some (.goto 4, 20, 21, 0, 0) := by decide +kernel
theorem cd_Table_bounced_20 : code_ 100 20 = some (.iload_n 1, 21, 0, 0, 0) := by decide +kernel
theorem cd_Table_bounced_21 : code_ 100 21 = some (.ireturn, 22, 0, 0, 0) := by decide +kernel
theorem cd_Table_whyNot_0 : code_ 101 0 = some (.aload_n 0, 1, 0, 0, 0) := by decide +kernel
theorem cd_Table_whyNot_1 : code_ 101 1 = some (.iconst 0, 2, 0, 0, 0) := by decide +kernel
theorem cd_Table_whyNot_2 : code_ 101 2 = some (.invokevirtual 41, 5, 78, 1, 0) := by decide +kernel
theorem cd_Table_whyNot_5 : code_ 101 5 = some (.bipush 10, 7, 0, 0, 0) := by decide +kernel
theorem cd_Table_whyNot_7 : code_ 101 7 = some (.if_icmp .ge 13, 10, 20, 0, 0) := by decide +kernel
theorem cd_Table_whyNot_10 : code_ 101 10 = some (.aload_n 0, 11, 0, 0, 0) := by decide +kernel
theorem cd_Table_whyNot_11 : code_ 101 11 = some (.iconst 1, 12, 0, 0, 0) := by decide +kernel
theorem cd_Table_whyNot_12 : code_ 101 12 = some (.invokevirtual 41, 15, 78, 1, 0) := by decide +kernel
theorem cd_Table_whyNot_15 : code_ 101 15 = some (.bipush 10, 17, 0, 0, 0) := by decide +kernel
theorem cd_Table_whyNot_17 : code_ 101 17 = some (.if_icmp .lt 5, 20, 22, 0, 0) := by decide +kernel
theorem cd_Table_whyNot_20 : code_ 101 20 = some (.iconst 1, 21, 0, 0, 0) := by decide +kernel
theorem cd_Table_whyNot_21 : code_ 101 21 = some (.ireturn, 22, 0, 0, 0) := by decide +kernel
theorem cd_Table_whyNot_22 : code_ 101 22 = some (.iload_n 1, 23, 0, 0, 0) := by decide +kernel
theorem cd_Table_whyNot_23 : code_ 101 23 = some (.invokestatic 108, 26, 102, 0, 0) := by decide +kernel
theorem cd_Table_whyNot_26 : code_ 101 26 = some (.ifCond .eq 13, 29, 39, 0, 0) := by decide +kernel
theorem cd_Table_whyNot_29 : code_ 101 29 = some (.aload_n 0, 30, 0, 0, 0) := by decide +kernel
theorem cd_Table_whyNot_30 : code_ 101 30 = some (.invokevirtual 54, 33, 86, 1, 0) := by decide +kernel
theorem cd_Table_whyNot_33 : code_ 101 33 = some (.ifCond .eq 21, 36, 54, 0, 0) := by decide +kernel
theorem cd_Table_whyNot_36 : code_ 101 36 = some (.goto 16, 39, 52, 0, 0) := by decide +kernel
theorem cd_Table_whyNot_39 : code_ 101 39 = some (.iload_n 1, 40, 0, 0, 0) := by decide +kernel
theorem cd_Table_whyNot_40 : code_ 101 40 = some (.bipush 7, 42, 0, 0, 0) := by decide +kernel
theorem cd_Table_whyNot_42 : code_ 101 42 = some (.if_icmp .ne 12, 45, 54, 0, 0) := by decide +kernel
theorem cd_Table_whyNot_45 : code_ 101 45 = some (.aload_n 0, 46, 0, 0, 0) := by decide +kernel
theorem cd_Table_whyNot_46 : code_ 101 46 = some (.invokevirtual 54, 49, 86, 1, 0) := by decide +kernel
theorem cd_Table_whyNot_49 : code_ 101 49 = some (.ifCond .ne 5, 52, 54, 0, 0) := by decide +kernel
theorem cd_Table_whyNot_52 : code_ 101 52 = some (.iconst 2, 53, 0, 0, 0) := by decide +kernel
theorem cd_Table_whyNot_53 : code_ 101 53 = some (.ireturn, 54, 0, 0, 0) := by decide +kernel
theorem cd_Table_whyNot_54 : code_ 101 54 = some (.aload_n 0, 55, 0, 0, 0) := by decide +kernel
theorem cd_Table_whyNot_55 : code_ 101 55 = some (.iload_n 1, 56, 0, 0, 0) := by decide +kernel
theorem cd_Table_whyNot_56 : code_ 101 56 = some (.iload_n 2, 57, 0, 0, 0) := by decide +kernel
theorem cd_Table_whyNot_57 : code_ 101 57 = some (.invokevirtual 111, 60, 103, 1, 0) := by decide +kernel
theorem cd_Table_whyNot_60 : code_ 101 60 = some (.ifCond .eq 5, 63, 65, 0, 0) := by decide +kernel
theorem cd_Table_whyNot_63 : code_ 101 63 = some (.iconst 3, 64, 0, 0, 0) := by decide +kernel
theorem cd_Table_whyNot_64 : code_ 101 64 = some (.ireturn, 65, 0, 0, 0) := by decide +kernel
theorem cd_Table_whyNot_65 : code_ 101 65 = some (.iload_n 1, 66, 0, 0, 0) := by decide +kernel
theorem cd_Table_whyNot_66 : code_ 101 66 = some (.ifCond .ne 17, 69, 83, 0, 0) := by decide +kernel
theorem cd_Table_whyNot_69 : code_ 101 69 = some (.aload_n 0, 70, 0, 0, 0) := by decide +kernel
theorem cd_Table_whyNot_70 : code_ 101 70 = some (.iload_n 2, 71, 0, 0, 0) := by decide +kernel
theorem cd_Table_whyNot_71 : code_ 101 71 = some (.invokestatic 48, 74, 54, 0, 0) := by decide +kernel
theorem cd_Table_whyNot_74 : code_ 101 74 = some (.invokevirtual 114, 77, 83, 1, 0) := by decide +kernel
theorem cd_Table_whyNot_77 : code_ 101 77 = some (.iconst 2, 78, 0, 0, 0) := by decide +kernel
theorem cd_Table_whyNot_78 : code_ 101 78 = some (.if_icmp .lt 5, 81, 83, 0, 0) := by decide +kernel
theorem cd_Table_whyNot_81 : code_ 101 81 = some (.iconst 4, 82, 0, 0, 0) := by decide +kernel
theorem cd_Table_whyNot_82 : code_ 101 82 = some (.ireturn, 83, 0, 0, 0) := by decide +kernel
theorem cd_Table_whyNot_83 : code_ 101 83 = some (.iload_n 1, 84, 0, 0, 0) := by decide +kernel
theorem cd_Table_whyNot_84 : code_ 101 84 = some (.iconst 2, 85, 0, 0, 0) := by decide +kernel
theorem cd_Table_whyNot_85 : code_ 101 85 = some (.if_icmp .ne 15, 88, 100, 0, 0) := by decide +kernel
theorem cd_Table_whyNot_88 : code_ 101 88 = some (.aload_n 0, 89, 0, 0, 0) := by decide +kernel
theorem cd_Table_whyNot_89 : code_ 101 89 = some (.iload_n 2, 90, 0, 0, 0) := by decide +kernel
theorem cd_Table_whyNot_90 : code_ 101 90 = some (.invokevirtual 62, 93, 76, 1, 0) := by decide +kernel
theorem cd_Table_whyNot_93 : code_ 101 93 = some (.iload_n 3, 94, 0, 0, 0) := by decide +kernel
theorem cd_Table_whyNot_94 : code_ 101 94 = some (.isub, 95, 0, 0, 0) := by decide +kernel
theorem cd_Table_whyNot_95 : code_ 101 95 = some (.ifCond .ge 5, 98, 100, 0, 0) := by decide +kernel
theorem cd_Table_whyNot_98 : code_ 101 98 = some (.iconst 5, 99, 0, 0, 0) := by decide +kernel
theorem cd_Table_whyNot_99 : code_ 101 99 = some (.ireturn, 100, 0, 0, 0) := by decide +kernel
theorem cd_Table_whyNot_100 : code_ 101 100 = some (.iload_n 1, 101, 0, 0, 0) := by decide +kernel
theorem cd_Table_whyNot_101 : code_ 101 101 = some (.iconst 3, 102, 0, 0, 0) := by decide +kernel
theorem cd_Table_whyNot_102 : code_ 101 102 = some (.if_icmp .ne 19, 105, 121, 0, 0) := by decide +kernel
theorem cd_Table_whyNot_105 : code_ 101 105 = some (.aload_n 0, 106, 0, 0, 0) := by decide +kernel
theorem cd_Table_whyNot_106 : code_ 101 106 = some (.iload_n 2, 107, 0, 0, 0) := by decide +kernel
theorem cd_Table_whyNot_107 : code_ 101 107 = some (.invokevirtual 62, 110, 76, 1, 0) := by decide +kernel
theorem cd_Table_whyNot_110 : code_ 101 110 = some (.iload_n 3, 111, 0, 0, 0) := by decide +kernel
theorem cd_Table_whyNot_111 : code_ 101 111 = some (.iadd, 112, 0, 0, 0) := by decide +kernel
theorem cd_Table_whyNot_112 : code_ 101 112 = some (.iload_n 2, 113, 0, 0, 0) := by decide +kernel
theorem cd_Table_whyNot_113 : code_ 101 113 = some (.invokestatic 18, 116, 57, 0, 0) := by decide +kernel
theorem cd_Table_whyNot_116 : code_ 101 116 = some (.if_icmp .le 5, 119, 121, 0, 0) := by decide +kernel
theorem cd_Table_whyNot_119 : code_ 101 119 = some (.iconst 5, 120, 0, 0, 0) := by decide +kernel
theorem cd_Table_whyNot_120 : code_ 101 120 = some (.ireturn, 121, 0, 0, 0) := by decide +kernel
theorem cd_Table_whyNot_121 : code_ 101 121 = some (.iload_n 1, 122, 0, 0, 0) := by decide +kernel
theorem cd_Table_whyNot_122 : code_ 101 122 = some (.bipush 7, 124, 0, 0, 0) := by decide +kernel
theorem cd_Table_whyNot_124 : code_ 101 124 = some (.if_icmp .ne 14, 127, 138, 0, 0) := by decide +kernel
theorem cd_Table_whyNot_127 : code_ 101 127 = some (.iload_n 2, 128, 0, 0, 0) := by decide +kernel
theorem cd_Table_whyNot_128 : code_ 101 128 = some (.iload_n 3, 129, 0, 0, 0) := by decide +kernel
theorem cd_Table_whyNot_129 : code_ 101 129 = some (.invokestatic 117, 132, 53, 0, 0) := by decide +kernel
theorem cd_Table_whyNot_132 : code_ 101 132 = some (.ifCond .ne 6, 135, 138, 0, 0) := by decide +kernel
theorem cd_Table_whyNot_135 : code_ 101 135 = some (.bipush 6, 137, 0, 0, 0) := by decide +kernel
theorem cd_Table_whyNot_137 : code_ 101 137 = some (.ireturn, 138, 0, 0, 0) := by decide +kernel
theorem cd_Table_whyNot_138 : code_ 101 138 = some (.iload_n 1, 139, 0, 0, 0) := by decide +kernel
theorem cd_Table_whyNot_139 : code_ 101 139 = some (.iconst 4, 140, 0, 0, 0) := by decide +kernel
theorem cd_Table_whyNot_140 : code_ 101 140 = some (.if_icmp .ne 14, 143, 154, 0, 0) := by decide +kernel
theorem cd_Table_whyNot_143 : code_ 101 143 = some (.aload_n 0, 144, 0, 0, 0) := by decide +kernel
theorem cd_Table_whyNot_144 : code_ 101 144 = some (.iload_n 3, 145, 0, 0, 0) := by decide +kernel
theorem cd_Table_whyNot_145 : code_ 101 145 = some (.invokevirtual 120, 148, 104, 1, 0) := by decide +kernel
theorem cd_Table_whyNot_148 : code_ 101 148 = some (.ifCond .ne 6, 151, 154, 0, 0) := by decide +kernel
theorem cd_Table_whyNot_151 : code_ 101 151 = some (.bipush 6, 153, 0, 0, 0) := by decide +kernel
theorem cd_Table_whyNot_153 : code_ 101 153 = some (.ireturn, 154, 0, 0, 0) := by decide +kernel
theorem cd_Table_whyNot_154 : code_ 101 154 = some (.iload_n 1, 155, 0, 0, 0) := by decide +kernel
theorem cd_Table_whyNot_155 : code_ 101 155 = some (.iconst 5, 156, 0, 0, 0) := by decide +kernel
theorem cd_Table_whyNot_156 : code_ 101 156 = some (.if_icmp .ne 23, 159, 179, 0, 0) := by decide +kernel
theorem cd_Table_whyNot_159 : code_ 101 159 = some (.aload_n 0, 160, 0, 0, 0) := by decide +kernel
theorem cd_Table_whyNot_160 : code_ 101 160 = some (.aload_n 0, 161, 0, 0, 0) := by decide +kernel
theorem cd_Table_whyNot_161 : code_ 101 161 = some (.getfield 24, 164, 6, 3, 0) := by decide +kernel
theorem cd_Table_whyNot_164 : code_ 101 164 = some (.aload_n 0, 165, 0, 0, 0) := by decide +kernel
theorem cd_Table_whyNot_165 : code_ 101 165 = some (.getfield 28, 168, 6, 4, 0) := by decide +kernel
theorem cd_Table_whyNot_168 : code_ 101 168 = some (.iload_n 2, 169, 0, 0, 0) := by decide +kernel
theorem cd_Table_whyNot_169 : code_ 101 169 = some (.invokevirtual 123, 172, 95, 1, 0) := by decide +kernel
theorem cd_Table_whyNot_172 : code_ 101 172 = some (.iconst (-1), 173, 0, 0, 0) := by decide +kernel
theorem cd_Table_whyNot_173 : code_ 101 173 = some (.if_icmp .ne 6, 176, 179, 0, 0) := by decide +kernel
theorem cd_Table_whyNot_176 : code_ 101 176 = some (.bipush 6, 178, 0, 0, 0) := by decide +kernel
theorem cd_Table_whyNot_178 : code_ 101 178 = some (.ireturn, 179, 0, 0, 0) := by decide +kernel
theorem cd_Table_whyNot_179 : code_ 101 179 = some (.iload_n 1, 180, 0, 0, 0) := by decide +kernel
theorem cd_Table_whyNot_180 : code_ 101 180 = some (.bipush 8, 182, 0, 0, 0) := by decide +kernel
theorem cd_Table_whyNot_182 : code_ 101 182 = some (.if_icmp .ne 16, 185, 198, 0, 0) := by decide +kernel
theorem cd_Table_whyNot_185 : code_ 101 185 = some (.aload_n 0, 186, 0, 0, 0) := by decide +kernel
theorem cd_Table_whyNot_186 : code_ 101 186 = some (.getfield 38, 189, 6, 5, 0) := by decide +kernel
theorem cd_Table_whyNot_189 : code_ 101 189 = some (.sipush 999, 192, 0, 0, 0) := by decide +kernel
theorem cd_Table_whyNot_192 : code_ 101 192 = some (.if_icmp .lt 6, 195, 198, 0, 0) := by decide +kernel
theorem cd_Table_whyNot_195 : code_ 101 195 = some (.bipush 7, 197, 0, 0, 0) := by decide +kernel
theorem cd_Table_whyNot_197 : code_ 101 197 = some (.ireturn, 198, 0, 0, 0) := by decide +kernel
theorem cd_Table_whyNot_198 : code_ 101 198 = some (.iconst 0, 199, 0, 0, 0) := by decide +kernel
theorem cd_Table_whyNot_199 : code_ 101 199 = some (.ireturn, 200, 0, 0, 0) := by decide +kernel
theorem cd_Table_isPlayed_0 : code_ 102 0 = some (.iload_n 0, 1, 0, 0, 0) := by decide +kernel
theorem cd_Table_isPlayed_1 : code_ 102 1 = some (.iconst 4, 2, 0, 0, 0) := by decide +kernel
theorem cd_Table_isPlayed_2 : code_ 102 2 = some (.if_icmp .eq 14, 5, 16, 0, 0) := by decide +kernel
theorem cd_Table_isPlayed_5 : code_ 102 5 = some (.iload_n 0, 6, 0, 0, 0) := by decide +kernel
theorem cd_Table_isPlayed_6 : code_ 102 6 = some (.iconst 5, 7, 0, 0, 0) := by decide +kernel
theorem cd_Table_isPlayed_7 : code_ 102 7 = some (.if_icmp .eq 9, 10, 16, 0, 0) := by decide +kernel
theorem cd_Table_isPlayed_10 : code_ 102 10 = some (.iload_n 0, 11, 0, 0, 0) := by decide +kernel
theorem cd_Table_isPlayed_11 : code_ 102 11 = some (.bipush 6, 13, 0, 0, 0) := by decide +kernel
theorem cd_Table_isPlayed_13 : code_ 102 13 = some (.if_icmp .ne 7, 16, 20, 0, 0) := by decide +kernel
theorem cd_Table_isPlayed_16 : code_ 102 16 = some (.iconst 1, 17, 0, 0, 0) := by decide +kernel
theorem cd_Table_isPlayed_17 : code_ 102 17 = some (.goto 4, 20, 21, 0, 0) := by decide +kernel
theorem cd_Table_isPlayed_20 : code_ 102 20 = some (.iconst 0, 21, 0, 0, 0) := by decide +kernel
theorem cd_Table_isPlayed_21 : code_ 102 21 = some (.ireturn, 22, 0, 0, 0) := by decide +kernel
theorem cd_Table_isHeldWrongly_0 : code_ 103 0 = some (.iload_n 1, 1, 0, 0, 0) := by decide +kernel
theorem cd_Table_isHeldWrongly_1 : code_ 103 1 = some (.tableswitch 51 0 3 #[31, 37, 37, 37], 32, 0, 0, 0) := by decide +kernel
theorem cd_Table_isHeldWrongly_32 : code_ 103 32 = some (.aload_n 0, 33, 0, 0, 0) := by decide +kernel
theorem cd_Table_isHeldWrongly_33 : code_ 103 33 = some (.iload_n 2, 34, 0, 0, 0) := by decide +kernel
theorem cd_Table_isHeldWrongly_34 : code_ 103 34 = some (.invokevirtual 51, 37, 82, 1, 0) := by decide +kernel
theorem cd_Table_isHeldWrongly_37 : code_ 103 37 = some (.ireturn, 38, 0, 0, 0) := by decide +kernel
theorem cd_Table_isHeldWrongly_38 : code_ 103 38 = some (.aload_n 0, 39, 0, 0, 0) := by decide +kernel
theorem cd_Table_isHeldWrongly_39 : code_ 103 39 = some (.iload_n 2, 40, 0, 0, 0) := by decide +kernel
theorem cd_Table_isHeldWrongly_40 : code_ 103 40 = some (.invokevirtual 51, 43, 82, 1, 0) := by decide +kernel
theorem cd_Table_isHeldWrongly_43 : code_ 103 43 = some (.ifCond .ne 7, 46, 50, 0, 0) := by decide +kernel
theorem cd_Table_isHeldWrongly_46 : code_ 103 46 = some (.iconst 1, 47, 0, 0, 0) := by decide +kernel
theorem cd_Table_isHeldWrongly_47 : code_ 103 47 = some (.goto 4, 50, 51, 0, 0) := by decide +kernel
theorem cd_Table_isHeldWrongly_50 : code_ 103 50 = some (.iconst 0, 51, 0, 0, 0) := by decide +kernel
theorem cd_Table_isHeldWrongly_51 : code_ 103 51 = some (.ireturn, 52, 0, 0, 0) := by decide +kernel
theorem cd_Table_isHeldWrongly_52 : code_ 103 52 = some (.iload_n 1, 53, 0, 0, 0) := by decide +kernel
theorem cd_Table_isHeldWrongly_53 : code_ 103 53 = some (.invokestatic 108, 56, 102, 0, 0) := by decide +kernel
theorem cd_Table_isHeldWrongly_56 : code_ 103 56 = some (.ifCond .eq 18, 59, 74, 0, 0) := by decide +kernel
theorem cd_Table_isHeldWrongly_59 : code_ 103 59 = some (.aload_n 0, 60, 0, 0, 0) := by decide +kernel
theorem cd_Table_isHeldWrongly_60 : code_ 103 60 = some (.aload_n 0, 61, 0, 0, 0) := by decide +kernel
theorem cd_Table_isHeldWrongly_61 : code_ 103 61 = some (.getfield 24, 64, 6, 3, 0) := by decide +kernel
theorem cd_Table_isHeldWrongly_64 : code_ 103 64 = some (.invokevirtual 51, 67, 82, 1, 0) := by decide +kernel
theorem cd_Table_isHeldWrongly_67 : code_ 103 67 = some (.ifCond .ne 7, 70, 74, 0, 0) := by decide +kernel
theorem cd_Table_isHeldWrongly_70 : code_ 103 70 = some (.iconst 1, 71, 0, 0, 0) := by decide +kernel
theorem cd_Table_isHeldWrongly_71 : code_ 103 71 = some (.goto 4, 74, 75, 0, 0) := by decide +kernel
theorem cd_Table_isHeldWrongly_74 : code_ 103 74 = some (.iconst 0, 75, 0, 0, 0) := by decide +kernel
theorem cd_Table_isHeldWrongly_75 : code_ 103 75 = some (.ireturn, 76, 0, 0, 0) := by decide +kernel
theorem cd_Table_isNextMan_0 : code_ 104 0 = some (.aload_n 0, 1, 0, 0, 0) := by decide +kernel
theorem cd_Table_isNextMan_1 : code_ 104 1 = some (.getfield 24, 4, 6, 3, 0) := by decide +kernel
theorem cd_Table_isNextMan_4 : code_ 104 4 = some (.iload_n 1, 5, 0, 0, 0) := by decide +kernel
theorem cd_Table_isNextMan_5 : code_ 104 5 = some (.invokestatic 117, 8, 53, 0, 0) := by decide +kernel
theorem cd_Table_isNextMan_8 : code_ 104 8 = some (.ifCond .eq 20, 11, 28, 0, 0) := by decide +kernel
theorem cd_Table_isNextMan_11 : code_ 104 11 = some (.iload_n 1, 12, 0, 0, 0) := by decide +kernel
theorem cd_Table_isNextMan_12 : code_ 104 12 = some (.aload_n 0, 13, 0, 0, 0) := by decide +kernel
theorem cd_Table_isNextMan_13 : code_ 104 13 = some (.getfield 28, 16, 6, 4, 0) := by decide +kernel
theorem cd_Table_isNextMan_16 : code_ 104 16 = some (.isub, 17, 0, 0, 0) := by decide +kernel
theorem cd_Table_isNextMan_17 : code_ 104 17 = some (.invokestatic 71, 20, 212, 0, 0) := by decide +kernel
theorem cd_Table_isNextMan_20 : code_ 104 20 = some (.iconst 1, 21, 0, 0, 0) := by decide +kernel
theorem cd_Table_isNextMan_21 : code_ 104 21 = some (.if_icmp .ne 7, 24, 28, 0, 0) := by decide +kernel
theorem cd_Table_isNextMan_24 : code_ 104 24 = some (.iconst 1, 25, 0, 0, 0) := by decide +kernel
theorem cd_Table_isNextMan_25 : code_ 104 25 = some (.goto 4, 28, 29, 0, 0) := by decide +kernel
theorem cd_Table_isNextMan_28 : code_ 104 28 = some (.iconst 0, 29, 0, 0, 0) := by decide +kernel
theorem cd_Table_isNextMan_29 : code_ 104 29 = some (.ireturn, 30, 0, 0, 0) := by decide +kernel
theorem cd_Table_perform_0 : code_ 105 0 = some (.iload_n 1, 1, 0, 0, 0) := by decide +kernel
theorem cd_Table_perform_1 : code_ 105 1 = some (.tableswitch 173 0 8 #[51, 60, 69, 84, 99, 115, 135, 147, 160], 52, 0, 0, 0) := by decide +kernel
theorem cd_Table_perform_52 : code_ 105 52 = some (.aload_n 0, 53, 0, 0, 0) := by decide +kernel
theorem cd_Table_perform_53 : code_ 105 53 = some (.iload_n 2, 54, 0, 0, 0) := by decide +kernel
theorem cd_Table_perform_54 : code_ 105 54 = some (.iconst 1, 55, 0, 0, 0) := by decide +kernel
theorem cd_Table_perform_55 : code_ 105 55 = some (.invokevirtual 127, 58, 84, 1, 0) := by decide +kernel
theorem cd_Table_perform_58 : code_ 105 58 = some (.goto 116, 61, 174, 0, 0) := by decide +kernel
theorem cd_Table_perform_61 : code_ 105 61 = some (.aload_n 0, 62, 0, 0, 0) := by decide +kernel
theorem cd_Table_perform_62 : code_ 105 62 = some (.iload_n 2, 63, 0, 0, 0) := by decide +kernel
theorem cd_Table_perform_63 : code_ 105 63 = some (.iconst 0, 64, 0, 0, 0) := by decide +kernel
theorem cd_Table_perform_64 : code_ 105 64 = some (.invokevirtual 127, 67, 84, 1, 0) := by decide +kernel
theorem cd_Table_perform_67 : code_ 105 67 = some (.goto 107, 70, 174, 0, 0) := by decide +kernel
theorem cd_Table_perform_70 : code_ 105 70 = some (.aload_n 0, 71, 0, 0, 0) := by decide +kernel
theorem cd_Table_perform_71 : code_ 105 71 = some (.iload_n 2, 72, 0, 0, 0) := by decide +kernel
theorem cd_Table_perform_72 : code_ 105 72 = some (.aload_n 0, 73, 0, 0, 0) := by decide +kernel
theorem cd_Table_perform_73 : code_ 105 73 = some (.iload_n 2, 74, 0, 0, 0) := by decide +kernel
theorem cd_Table_perform_74 : code_ 105 74 = some (.invokevirtual 62, 77, 76, 1, 0) := by decide +kernel
theorem cd_Table_perform_77 : code_ 105 77 = some (.iload_n 3, 78, 0, 0, 0) := by decide +kernel
theorem cd_Table_perform_78 : code_ 105 78 = some (.isub, 79, 0, 0, 0) := by decide +kernel
theorem cd_Table_perform_79 : code_ 105 79 = some (.invokevirtual 131, 82, 77, 1, 0) := by decide +kernel
theorem cd_Table_perform_82 : code_ 105 82 = some (.goto 92, 85, 174, 0, 0) := by decide +kernel
theorem cd_Table_perform_85 : code_ 105 85 = some (.aload_n 0, 86, 0, 0, 0) := by decide +kernel
theorem cd_Table_perform_86 : code_ 105 86 = some (.iload_n 2, 87, 0, 0, 0) := by decide +kernel
theorem cd_Table_perform_87 : code_ 105 87 = some (.aload_n 0, 88, 0, 0, 0) := by decide +kernel
theorem cd_Table_perform_88 : code_ 105 88 = some (.iload_n 2, 89, 0, 0, 0) := by decide +kernel
theorem cd_Table_perform_89 : code_ 105 89 = some (.invokevirtual 62, 92, 76, 1, 0) := by decide +kernel
theorem cd_Table_perform_92 : code_ 105 92 = some (.iload_n 3, 93, 0, 0, 0) := by decide +kernel
theorem cd_Table_perform_93 : code_ 105 93 = some (.iadd, 94, 0, 0, 0) := by decide +kernel
theorem cd_Table_perform_94 : code_ 105 94 = some (.invokevirtual 131, 97, 77, 1, 0) := by decide +kernel
theorem cd_Table_perform_97 : code_ 105 97 = some (.goto 77, 100, 174, 0, 0) := by decide +kernel
theorem cd_Table_perform_100 : code_ 105 100 = some (.aload_n 0, 101, 0, 0, 0) := by decide +kernel
theorem cd_Table_perform_101 : code_ 105 101 = some (.bipush 10, 103, 0, 0, 0) := by decide +kernel
theorem cd_Table_perform_103 : code_ 105 103 = some (.aload_n 0, 104, 0, 0, 0) := by decide +kernel
theorem cd_Table_perform_104 : code_ 105 104 = some (.getfield 24, 107, 6, 3, 0) := by decide +kernel
theorem cd_Table_perform_107 : code_ 105 107 = some (.imul, 108, 0, 0, 0) := by decide +kernel
theorem cd_Table_perform_108 : code_ 105 108 = some (.iload_n 3, 109, 0, 0, 0) := by decide +kernel
theorem cd_Table_perform_109 : code_ 105 109 = some (.iadd, 110, 0, 0, 0) := by decide +kernel
theorem cd_Table_perform_110 : code_ 105 110 = some (.invokevirtual 135, 113, 91, 1, 0) := by decide +kernel
theorem cd_Table_perform_113 : code_ 105 113 = some (.goto 61, 116, 174, 0, 0) := by decide +kernel
theorem cd_Table_perform_116 : code_ 105 116 = some (.aload_n 0, 117, 0, 0, 0) := by decide +kernel
theorem cd_Table_perform_117 : code_ 105 117 = some (.aload_n 0, 118, 0, 0, 0) := by decide +kernel
theorem cd_Table_perform_118 : code_ 105 118 = some (.aload_n 0, 119, 0, 0, 0) := by decide +kernel
theorem cd_Table_perform_119 : code_ 105 119 = some (.getfield 24, 122, 6, 3, 0) := by decide +kernel
theorem cd_Table_perform_122 : code_ 105 122 = some (.aload_n 0, 123, 0, 0, 0) := by decide +kernel
theorem cd_Table_perform_123 : code_ 105 123 = some (.getfield 28, 126, 6, 4, 0) := by decide +kernel
theorem cd_Table_perform_126 : code_ 105 126 = some (.iload_n 2, 127, 0, 0, 0) := by decide +kernel
theorem cd_Table_perform_127 : code_ 105 127 = some (.invokevirtual 123, 130, 95, 1, 0) := by decide +kernel
theorem cd_Table_perform_130 : code_ 105 130 = some (.invokevirtual 135, 133, 91, 1, 0) := by decide +kernel
theorem cd_Table_perform_133 : code_ 105 133 = some (.goto 41, 136, 174, 0, 0) := by decide +kernel
theorem cd_Table_perform_136 : code_ 105 136 = some (.aload_n 0, 137, 0, 0, 0) := by decide +kernel
theorem cd_Table_perform_137 : code_ 105 137 = some (.aload_n 0, 138, 0, 0, 0) := by decide +kernel
theorem cd_Table_perform_138 : code_ 105 138 = some (.iload_n 3, 139, 0, 0, 0) := by decide +kernel
theorem cd_Table_perform_139 : code_ 105 139 = some (.invokevirtual 139, 142, 96, 1, 0) := by decide +kernel
theorem cd_Table_perform_142 : code_ 105 142 = some (.invokevirtual 142, 145, 106, 1, 0) := by decide +kernel
theorem cd_Table_perform_145 : code_ 105 145 = some (.goto 29, 148, 174, 0, 0) := by decide +kernel
theorem cd_Table_perform_148 : code_ 105 148 = some (.aload_n 0, 149, 0, 0, 0) := by decide +kernel
theorem cd_Table_perform_149 : code_ 105 149 = some (.bipush 10, 151, 0, 0, 0) := by decide +kernel
theorem cd_Table_perform_151 : code_ 105 151 = some (.iload_n 2, 152, 0, 0, 0) := by decide +kernel
theorem cd_Table_perform_152 : code_ 105 152 = some (.imul, 153, 0, 0, 0) := by decide +kernel
theorem cd_Table_perform_153 : code_ 105 153 = some (.iload_n 3, 154, 0, 0, 0) := by decide +kernel
theorem cd_Table_perform_154 : code_ 105 154 = some (.iadd, 155, 0, 0, 0) := by decide +kernel
theorem cd_Table_perform_155 : code_ 105 155 = some (.invokevirtual 135, 158, 91, 1, 0) := by decide +kernel
theorem cd_Table_perform_158 : code_ 105 158 = some (.goto 16, 161, 174, 0, 0) := by decide +kernel
theorem cd_Table_perform_161 : code_ 105 161 = some (.aload_n 0, 162, 0, 0, 0) := by decide +kernel
theorem cd_Table_perform_162 : code_ 105 162 = some (.dup, 163, 0, 0, 0) := by decide +kernel
theorem cd_Table_perform_163 : code_ 105 163 = some (.getfield 38, 166, 6, 5, 0) := by decide +kernel
theorem cd_Table_perform_166 : code_ 105 166 = some (.iconst 1, 167, 0, 0, 0) := by decide +kernel
theorem cd_Table_perform_167 : code_ 105 167 = some (.iadd, 168, 0, 0, 0) := by decide +kernel
theorem cd_Table_perform_168 : code_ 105 168 = some (.putfield 38, 171, 6, 5, 0) := by decide +kernel
theorem cd_Table_perform_171 : code_ 105 171 = some (.goto 3, 174, 174, 0, 0) := by decide +kernel
theorem cd_Table_perform_174 : code_ 105 174 = some (.return_, 175, 0, 0, 0) := by decide +kernel
theorem cd_Table_endShot_0 : code_ 106 0 = some (.iload_n 1, 1, 0, 0, 0) := by decide +kernel
theorem cd_Table_endShot_1 : code_ 106 1 = some (.bipush 80, 3, 0, 0, 0) := by decide +kernel
theorem cd_Table_endShot_3 : code_ 106 3 = some (.if_icmp .ne 30, 6, 33, 0, 0) := by decide +kernel
theorem cd_Table_endShot_6 : code_ 106 6 = some (.aload_n 0, 7, 0, 0, 0) := by decide +kernel
theorem cd_Table_endShot_7 : code_ 106 7 = some (.getfield 24, 10, 6, 3, 0) := by decide +kernel
theorem cd_Table_endShot_10 : code_ 106 10 = some (.invokestatic 48, 13, 54, 0, 0) := by decide +kernel
theorem cd_Table_endShot_13 : code_ 106 13 = some (.istore_n 2, 14, 0, 0, 0) := by decide +kernel
theorem cd_Table_endShot_14 : code_ 106 14 = some (.aload_n 0, 15, 0, 0, 0) := by decide +kernel
theorem cd_Table_endShot_15 : code_ 106 15 = some (.iload_n 2, 16, 0, 0, 0) := by decide +kernel
theorem cd_Table_endShot_16 : code_ 106 16 = some (.aload_n 0, 17, 0, 0, 0) := by decide +kernel
theorem cd_Table_endShot_17 : code_ 106 17 = some (.iload_n 2, 18, 0, 0, 0) := by decide +kernel
theorem cd_Table_endShot_18 : code_ 106 18 = some (.invokevirtual 41, 21, 78, 1, 0) := by decide +kernel
theorem cd_Table_endShot_21 : code_ 106 21 = some (.iconst 1, 22, 0, 0, 0) := by decide +kernel
theorem cd_Table_endShot_22 : code_ 106 22 = some (.iadd, 23, 0, 0, 0) := by decide +kernel
theorem cd_Table_endShot_23 : code_ 106 23 = some (.invokevirtual 145, 26, 79, 1, 0) := by decide +kernel
theorem cd_Table_endShot_26 : code_ 106 26 = some (.aload_n 0, 27, 0, 0, 0) := by decide +kernel
theorem cd_Table_endShot_27 : code_ 106 27 = some (.invokevirtual 148, 30, 90, 1, 0) := by decide +kernel
theorem cd_Table_endShot_30 : code_ 106 30 = some (.goto 8, 33, 38, 0, 0) := by decide +kernel
theorem cd_Table_endShot_33 : code_ 106 33 = some (.aload_n 0, 34, 0, 0, 0) := by decide +kernel
theorem cd_Table_endShot_34 : code_ 106 34 = some (.iload_n 1, 35, 0, 0, 0) := by decide +kernel
theorem cd_Table_endShot_35 : code_ 106 35 = some (.invokevirtual 135, 38, 91, 1, 0) := by decide +kernel
theorem cd_Table_endShot_38 : code_ 106 38 = some (.return_, 39, 0, 0, 0) := by decide +kernel
theorem cd_Table_tryDrawn_0 : code_ 107 0 = some (.iload_n 1, 1, 0, 0, 0) := by decide +kernel
theorem cd_Table_tryDrawn_1 : code_ 107 1 = some (.bipush 8, 3, 0, 0, 0) := by decide +kernel
theorem cd_Table_tryDrawn_3 : code_ 107 3 = some (.irem, 4, 0, 0, 0) := by decide +kernel
theorem cd_Table_tryDrawn_4 : code_ 107 4 = some (.istore_n 2, 5, 0, 0, 0) := by decide +kernel
theorem cd_Table_tryDrawn_5 : code_ 107 5 = some (.iload_n 1, 6, 0, 0, 0) := by decide +kernel
theorem cd_Table_tryDrawn_6 : code_ 107 6 = some (.bipush 8, 8, 0, 0, 0) := by decide +kernel
theorem cd_Table_tryDrawn_8 : code_ 107 8 = some (.idiv, 9, 0, 0, 0) := by decide +kernel
theorem cd_Table_tryDrawn_9 : code_ 107 9 = some (.bipush 8, 11, 0, 0, 0) := by decide +kernel
theorem cd_Table_tryDrawn_11 : code_ 107 11 = some (.irem, 12, 0, 0, 0) := by decide +kernel
theorem cd_Table_tryDrawn_12 : code_ 107 12 = some (.istore_n 3, 13, 0, 0, 0) := by decide +kernel
theorem cd_Table_tryDrawn_13 : code_ 107 13 = some (.iload_n 3, 14, 0, 0, 0) := by decide +kernel
theorem cd_Table_tryDrawn_14 : code_ 107 14 = some (.bipush 7, 16, 0, 0, 0) := by decide +kernel
theorem cd_Table_tryDrawn_16 : code_ 107 16 = some (.if_icmp .ne 13, 19, 29, 0, 0) := by decide +kernel
theorem cd_Table_tryDrawn_19 : code_ 107 19 = some (.aload_n 0, 20, 0, 0, 0) := by decide +kernel
theorem cd_Table_tryDrawn_20 : code_ 107 20 = some (.invokevirtual 54, 23, 86, 1, 0) := by decide +kernel
theorem cd_Table_tryDrawn_23 : code_ 107 23 = some (.ifCond .ne 6, 26, 29, 0, 0) := by decide +kernel
theorem cd_Table_tryDrawn_26 : code_ 107 26 = some (.bipush 8, 28, 0, 0, 0) := by decide +kernel
theorem cd_Table_tryDrawn_28 : code_ 107 28 = some (.istore_n 3, 29, 0, 0, 0) := by decide +kernel
theorem cd_Table_tryDrawn_29 : code_ 107 29 = some (.iload_n 3, 30, 0, 0, 0) := by decide +kernel
theorem cd_Table_tryDrawn_30 : code_ 107 30 = some (.iload_n 1, 31, 0, 0, 0) := by decide +kernel
theorem cd_Table_tryDrawn_31 : code_ 107 31 = some (.bipush 64, 33, 0, 0, 0) := by decide +kernel
theorem cd_Table_tryDrawn_33 : code_ 107 33 = some (.idiv, 34, 0, 0, 0) := by decide +kernel
theorem cd_Table_tryDrawn_34 : code_ 107 34 = some (.invokestatic 151, 37, 108, 0, 0) := by decide +kernel
theorem cd_Table_tryDrawn_37 : code_ 107 37 = some (.istore 4, 39, 0, 0, 0) := by decide +kernel
theorem cd_Table_tryDrawn_39 : code_ 107 39 = some (.aload_n 0, 40, 0, 0, 0) := by decide +kernel
theorem cd_Table_tryDrawn_40 : code_ 107 40 = some (.iload_n 3, 41, 0, 0, 0) := by decide +kernel
theorem cd_Table_tryDrawn_41 : code_ 107 41 = some (.iload_n 2, 42, 0, 0, 0) := by decide +kernel
theorem cd_Table_tryDrawn_42 : code_ 107 42 = some (.iload 4, 44, 0, 0, 0) := by decide +kernel
theorem cd_Table_tryDrawn_44 : code_ 107 44 = some (.invokevirtual 154, 47, 101, 1, 0) := by decide +kernel
theorem cd_Table_tryDrawn_47 : code_ 107 47 = some (.ifCond .ne 11, 50, 58, 0, 0) := by decide +kernel
theorem cd_Table_tryDrawn_50 : code_ 107 50 = some (.aload_n 0, 51, 0, 0, 0) := by decide +kernel
theorem cd_Table_tryDrawn_51 : code_ 107 51 = some (.iload_n 3, 52, 0, 0, 0) := by decide +kernel
theorem cd_Table_tryDrawn_52 : code_ 107 52 = some (.iload_n 2, 53, 0, 0, 0) := by decide +kernel
theorem cd_Table_tryDrawn_53 : code_ 107 53 = some (.iload 4, 55, 0, 0, 0) := by decide +kernel
theorem cd_Table_tryDrawn_55 : code_ 107 55 = some (.invokevirtual 157, 58, 105, 1, 0) := by decide +kernel
theorem cd_Table_tryDrawn_58 : code_ 107 58 = some (.return_, 59, 0, 0, 0) := by decide +kernel
theorem cd_Table_drawnNumber_0 : code_ 108 0 = some (.iload_n 0, 1, 0, 0, 0) := by decide +kernel
theorem cd_Table_drawnNumber_1 : code_ 108 1 = some (.tableswitch 58 2 7 #[39, 39, 46, 58, 50, 46], 40, 0, 0, 0) := by decide +kernel
theorem cd_Table_drawnNumber_40 : code_ 108 40 = some (.iconst 1, 41, 0, 0, 0) := by decide +kernel
theorem cd_Table_drawnNumber_41 : code_ 108 41 = some (.iload_n 1, 42, 0, 0, 0) := by decide +kernel
theorem cd_Table_drawnNumber_42 : code_ 108 42 = some (.bipush 9, 44, 0, 0, 0) := by decide +kernel
theorem cd_Table_drawnNumber_44 : code_ 108 44 = some (.irem, 45, 0, 0, 0) := by decide +kernel
theorem cd_Table_drawnNumber_45 : code_ 108 45 = some (.iadd, 46, 0, 0, 0) := by decide +kernel
theorem cd_Table_drawnNumber_46 : code_ 108 46 = some (.ireturn, 47, 0, 0, 0) := by decide +kernel
theorem cd_Table_drawnNumber_47 : code_ 108 47 = some (.iload_n 1, 48, 0, 0, 0) := by decide +kernel
theorem cd_Table_drawnNumber_48 : code_ 108 48 = some (.iconst 5, 49, 0, 0, 0) := by decide +kernel
theorem cd_Table_drawnNumber_49 : code_ 108 49 = some (.irem, 50, 0, 0, 0) := by decide +kernel
theorem cd_Table_drawnNumber_50 : code_ 108 50 = some (.ireturn, 51, 0, 0, 0) := by decide +kernel
theorem cd_Table_drawnNumber_51 : code_ 108 51 = some (.iload_n 1, 52, 0, 0, 0) := by decide +kernel
theorem cd_Table_drawnNumber_52 : code_ 108 52 = some (.bipush 19, 54, 0, 0, 0) := by decide +kernel
theorem cd_Table_drawnNumber_54 : code_ 108 54 = some (.irem, 55, 0, 0, 0) := by decide +kernel
theorem cd_Table_drawnNumber_55 : code_ 108 55 = some (.bipush 9, 57, 0, 0, 0) := by decide +kernel
theorem cd_Table_drawnNumber_57 : code_ 108 57 = some (.isub, 58, 0, 0, 0) := by decide +kernel
theorem cd_Table_drawnNumber_58 : code_ 108 58 = some (.ireturn, 59, 0, 0, 0) := by decide +kernel
theorem cd_Table_drawnNumber_59 : code_ 108 59 = some (.iconst 0, 60, 0, 0, 0) := by decide +kernel
theorem cd_Table_drawnNumber_60 : code_ 108 60 = some (.ireturn, 61, 0, 0, 0) := by decide +kernel
theorem cd_F_init_0 : code_ 109 0 = some (.aload_n 0, 1, 0, 0, 0) := by decide +kernel
theorem cd_F_init_1 : code_ 109 1 = some (.invokespecial 1, 4, 0, 5, 0) := by decide +kernel
theorem cd_F_init_4 : code_ 109 4 = some (.aload_n 0, 5, 0, 0, 0) := by decide +kernel
theorem cd_F_init_5 : code_ 109 5 = some (.new 7, 8, 6, 0, 0) := by decide +kernel
theorem cd_F_init_8 : code_ 109 8 = some (.dup, 9, 0, 0, 0) := by decide +kernel
theorem cd_F_init_9 : code_ 109 9 = some (.invokespecial 9, 12, 74, 2, 0) := by decide +kernel
theorem cd_F_init_12 : code_ 109 12 = some (.putfield 10, 15, 7, 0, 2) := by decide +kernel
theorem cd_F_init_15 : code_ 109 15 = some (.aload_n 0, 16, 0, 0, 0) := by decide +kernel
theorem cd_F_init_16 : code_ 109 16 = some (.new 16, 19, 3, 0, 0) := by decide +kernel
theorem cd_F_init_19 : code_ 109 19 = some (.dup, 20, 0, 0, 0) := by decide +kernel
theorem cd_F_init_20 : code_ 109 20 = some (.invokespecial 18, 23, 28, 4, 0) := by decide +kernel
theorem cd_F_init_23 : code_ 109 23 = some (.putfield 19, 26, 7, 1, 2) := by decide +kernel
theorem cd_F_init_26 : code_ 109 26 = some (.aload_n 0, 27, 0, 0, 0) := by decide +kernel
theorem cd_F_init_27 : code_ 109 27 = some (.new 23, 30, 1, 0, 0) := by decide +kernel
theorem cd_F_init_30 : code_ 109 30 = some (.dup, 31, 0, 0, 0) := by decide +kernel
theorem cd_F_init_31 : code_ 109 31 = some (.invokespecial 25, 34, 13, 4, 0) := by decide +kernel
theorem cd_F_init_34 : code_ 109 34 = some (.putfield 26, 37, 7, 2, 2) := by decide +kernel
theorem cd_F_init_37 : code_ 109 37 = some (.aload_n 0, 38, 0, 0, 0) := by decide +kernel
theorem cd_F_init_38 : code_ 109 38 = some (.new 30, 41, 4, 0, 0) := by decide +kernel
theorem cd_F_init_41 : code_ 109 41 = some (.dup, 42, 0, 0, 0) := by decide +kernel
theorem cd_F_init_42 : code_ 109 42 = some (.invokespecial 32, 45, 45, 4, 0) := by decide +kernel
theorem cd_F_init_45 : code_ 109 45 = some (.putfield 33, 48, 7, 3, 2) := by decide +kernel
theorem cd_F_init_48 : code_ 109 48 = some (.aload_n 0, 49, 0, 0, 0) := by decide +kernel
theorem cd_F_init_49 : code_ 109 49 = some (.new 37, 52, 0, 0, 0) := by decide +kernel
theorem cd_F_init_52 : code_ 109 52 = some (.dup, 53, 0, 0, 0) := by decide +kernel
theorem cd_F_init_53 : code_ 109 53 = some (.invokespecial 39, 56, 7, 4, 0) := by decide +kernel
theorem cd_F_init_56 : code_ 109 56 = some (.putfield 40, 59, 7, 4, 2) := by decide +kernel
theorem cd_F_init_59 : code_ 109 59 = some (.aload_n 0, 60, 0, 0, 0) := by decide +kernel
theorem cd_F_init_60 : code_ 109 60 = some (.new 44, 63, 5, 0, 0) := by decide +kernel
theorem cd_F_init_63 : code_ 109 63 = some (.dup, 64, 0, 0, 0) := by decide +kernel
theorem cd_F_init_64 : code_ 109 64 = some (.invokespecial 46, 67, 62, 4, 0) := by decide +kernel
theorem cd_F_init_67 : code_ 109 67 = some (.putfield 47, 70, 7, 5, 2) := by decide +kernel
theorem cd_F_init_70 : code_ 109 70 = some (.aload_n 0, 71, 0, 0, 0) := by decide +kernel
theorem cd_F_init_71 : code_ 109 71 = some (.new 51, 74, 2, 0, 0) := by decide +kernel
theorem cd_F_init_74 : code_ 109 74 = some (.dup, 75, 0, 0, 0) := by decide +kernel
theorem cd_F_init_75 : code_ 109 75 = some (.invokespecial 53, 78, 25, 4, 0) := by decide +kernel
theorem cd_F_init_78 : code_ 109 78 = some (.putfield 54, 81, 7, 6, 2) := by decide +kernel
theorem cd_F_init_81 : code_ 109 81 = some (.aload_n 0, 82, 0, 0, 0) := by decide +kernel
theorem cd_F_init_82 : code_ 109 82 = some (.new 51, 85, 2, 0, 0) := by decide +kernel
theorem cd_F_init_85 : code_ 109 85 = some (.dup, 86, 0, 0, 0) := by decide +kernel
theorem cd_F_init_86 : code_ 109 86 = some (.invokespecial 53, 89, 25, 4, 0) := by decide +kernel
theorem cd_F_init_89 : code_ 109 89 = some (.putfield 58, 92, 7, 7, 2) := by decide +kernel
theorem cd_F_init_92 : code_ 109 92 = some (.aload_n 0, 93, 0, 0, 0) := by decide +kernel
theorem cd_F_init_93 : code_ 109 93 = some (.new 7, 96, 6, 0, 0) := by decide +kernel
theorem cd_F_init_96 : code_ 109 96 = some (.dup, 97, 0, 0, 0) := by decide +kernel
theorem cd_F_init_97 : code_ 109 97 = some (.invokespecial 9, 100, 74, 2, 0) := by decide +kernel
theorem cd_F_init_100 : code_ 109 100 = some (.putfield 61, 103, 7, 8, 2) := by decide +kernel
theorem cd_F_init_103 : code_ 109 103 = some (.return_, 104, 0, 0, 0) := by decide +kernel
theorem cd_F_slide_0 : code_ 110 0 = some (.iload_n 1, 1, 0, 0, 0) := by decide +kernel
theorem cd_F_slide_1 : code_ 110 1 = some (.invokestatic 64, 4, 52, 0, 0) := by decide +kernel
theorem cd_F_slide_4 : code_ 110 4 = some (.ifCond .ne 5, 7, 9, 0, 0) := by decide +kernel
theorem cd_F_slide_7 : code_ 110 7 = some (.iconst (-1), 8, 0, 0, 0) := by decide +kernel
theorem cd_F_slide_8 : code_ 110 8 = some (.ireturn, 9, 0, 0, 0) := by decide +kernel
theorem cd_F_slide_9 : code_ 110 9 = some (.iload_n 2, 10, 0, 0, 0) := by decide +kernel
theorem cd_F_slide_10 : code_ 110 10 = some (.iconst 0, 11, 0, 0, 0) := by decide +kernel
theorem cd_F_slide_11 : code_ 110 11 = some (.iload_n 1, 12, 0, 0, 0) := by decide +kernel
theorem cd_F_slide_12 : code_ 110 12 = some (.invokestatic 70, 15, 57, 0, 0) := by decide +kernel
theorem cd_F_slide_15 : code_ 110 15 = some (.invokestatic 74, 18, 140, 0, 0) := by decide +kernel
theorem cd_F_slide_18 : code_ 110 18 = some (.ifCond .ne 6, 21, 24, 0, 0) := by decide +kernel
theorem cd_F_slide_21 : code_ 110 21 = some (.bipush (-2), 23, 0, 0, 0) := by decide +kernel
theorem cd_F_slide_23 : code_ 110 23 = some (.ireturn, 24, 0, 0, 0) := by decide +kernel
theorem cd_F_slide_24 : code_ 110 24 = some (.aload_n 0, 25, 0, 0, 0) := by decide +kernel
theorem cd_F_slide_25 : code_ 110 25 = some (.getfield 10, 28, 7, 0, 2) := by decide +kernel
theorem cd_F_slide_28 : code_ 110 28 = some (.iload_n 1, 29, 0, 0, 0) := by decide +kernel
theorem cd_F_slide_29 : code_ 110 29 = some (.invokevirtual 78, 32, 76, 1, 0) := by decide +kernel
theorem cd_F_slide_32 : code_ 110 32 = some (.istore_n 3, 33, 0, 0, 0) := by decide +kernel
theorem cd_F_slide_33 : code_ 110 33 = some (.aload_n 0, 34, 0, 0, 0) := by decide +kernel
theorem cd_F_slide_34 : code_ 110 34 = some (.getfield 10, 37, 7, 0, 2) := by decide +kernel
theorem cd_F_slide_37 : code_ 110 37 = some (.iload_n 1, 38, 0, 0, 0) := by decide +kernel
theorem cd_F_slide_38 : code_ 110 38 = some (.iload_n 2, 39, 0, 0, 0) := by decide +kernel
theorem cd_F_slide_39 : code_ 110 39 = some (.invokevirtual 81, 42, 77, 1, 0) := by decide +kernel
theorem cd_F_slide_42 : code_ 110 42 = some (.iload_n 3, 43, 0, 0, 0) := by decide +kernel
theorem cd_F_slide_43 : code_ 110 43 = some (.ireturn, 44, 0, 0, 0) := by decide +kernel
theorem cd_F_hold_0 : code_ 111 0 = some (.iload_n 1, 1, 0, 0, 0) := by decide +kernel
theorem cd_F_hold_1 : code_ 111 1 = some (.invokestatic 64, 4, 52, 0, 0) := by decide +kernel
theorem cd_F_hold_4 : code_ 111 4 = some (.ifCond .ne 5, 7, 9, 0, 0) := by decide +kernel
theorem cd_F_hold_7 : code_ 111 7 = some (.iconst (-1), 8, 0, 0, 0) := by decide +kernel
theorem cd_F_hold_8 : code_ 111 8 = some (.ireturn, 9, 0, 0, 0) := by decide +kernel
theorem cd_F_hold_9 : code_ 111 9 = some (.iload_n 1, 10, 0, 0, 0) := by decide +kernel
theorem cd_F_hold_10 : code_ 111 10 = some (.invokestatic 85, 13, 54, 0, 0) := by decide +kernel
theorem cd_F_hold_13 : code_ 111 13 = some (.istore_n 3, 14, 0, 0, 0) := by decide +kernel
theorem cd_F_hold_14 : code_ 111 14 = some (.iload_n 2, 15, 0, 0, 0) := by decide +kernel
theorem cd_F_hold_15 : code_ 111 15 = some (.ifCond .eq 29, 18, 44, 0, 0) := by decide +kernel
theorem cd_F_hold_18 : code_ 111 18 = some (.aload_n 0, 19, 0, 0, 0) := by decide +kernel
theorem cd_F_hold_19 : code_ 111 19 = some (.getfield 10, 22, 7, 0, 2) := by decide +kernel
theorem cd_F_hold_22 : code_ 111 22 = some (.iload_n 1, 23, 0, 0, 0) := by decide +kernel
theorem cd_F_hold_23 : code_ 111 23 = some (.invokevirtual 88, 26, 82, 1, 0) := by decide +kernel
theorem cd_F_hold_26 : code_ 111 26 = some (.ifCond .ne 18, 29, 44, 0, 0) := by decide +kernel
theorem cd_F_hold_29 : code_ 111 29 = some (.aload_n 0, 30, 0, 0, 0) := by decide +kernel
theorem cd_F_hold_30 : code_ 111 30 = some (.getfield 10, 33, 7, 0, 2) := by decide +kernel
theorem cd_F_hold_33 : code_ 111 33 = some (.iload_n 3, 34, 0, 0, 0) := by decide +kernel
theorem cd_F_hold_34 : code_ 111 34 = some (.invokevirtual 91, 37, 83, 1, 0) := by decide +kernel
theorem cd_F_hold_37 : code_ 111 37 = some (.iconst 2, 38, 0, 0, 0) := by decide +kernel
theorem cd_F_hold_38 : code_ 111 38 = some (.if_icmp .lt 6, 41, 44, 0, 0) := by decide +kernel
theorem cd_F_hold_41 : code_ 111 41 = some (.bipush (-4), 43, 0, 0, 0) := by decide +kernel
theorem cd_F_hold_43 : code_ 111 43 = some (.ireturn, 44, 0, 0, 0) := by decide +kernel
theorem cd_F_hold_44 : code_ 111 44 = some (.aload_n 0, 45, 0, 0, 0) := by decide +kernel
theorem cd_F_hold_45 : code_ 111 45 = some (.getfield 10, 48, 7, 0, 2) := by decide +kernel
theorem cd_F_hold_48 : code_ 111 48 = some (.iload_n 1, 49, 0, 0, 0) := by decide +kernel
theorem cd_F_hold_49 : code_ 111 49 = some (.iload_n 2, 50, 0, 0, 0) := by decide +kernel
theorem cd_F_hold_50 : code_ 111 50 = some (.invokevirtual 94, 53, 84, 1, 0) := by decide +kernel
theorem cd_F_hold_53 : code_ 111 53 = some (.aload_n 0, 54, 0, 0, 0) := by decide +kernel
theorem cd_F_hold_54 : code_ 111 54 = some (.getfield 10, 57, 7, 0, 2) := by decide +kernel
theorem cd_F_hold_57 : code_ 111 57 = some (.iload_n 3, 58, 0, 0, 0) := by decide +kernel
theorem cd_F_hold_58 : code_ 111 58 = some (.invokevirtual 91, 61, 83, 1, 0) := by decide +kernel
theorem cd_F_hold_61 : code_ 111 61 = some (.ireturn, 62, 0, 0, 0) := by decide +kernel
theorem cd_F_ball_0 : code_ 112 0 = some (.iload_n 1, 1, 0, 0, 0) := by decide +kernel
theorem cd_F_ball_1 : code_ 112 1 = some (.iconst (-1), 2, 0, 0, 0) := by decide +kernel
theorem cd_F_ball_2 : code_ 112 2 = some (.if_icmp .ne 12, 5, 14, 0, 0) := by decide +kernel
theorem cd_F_ball_5 : code_ 112 5 = some (.aload_n 0, 6, 0, 0, 0) := by decide +kernel
theorem cd_F_ball_6 : code_ 112 6 = some (.getfield 10, 9, 7, 0, 2) := by decide +kernel
theorem cd_F_ball_9 : code_ 112 9 = some (.invokevirtual 98, 12, 90, 1, 0) := by decide +kernel
theorem cd_F_ball_12 : code_ 112 12 = some (.iconst 1, 13, 0, 0, 0) := by decide +kernel
theorem cd_F_ball_13 : code_ 112 13 = some (.ireturn, 14, 0, 0, 0) := by decide +kernel
theorem cd_F_ball_14 : code_ 112 14 = some (.iload_n 1, 15, 0, 0, 0) := by decide +kernel
theorem cd_F_ball_15 : code_ 112 15 = some (.iload_n 2, 16, 0, 0, 0) := by decide +kernel
theorem cd_F_ball_16 : code_ 112 16 = some (.invokestatic 101, 19, 53, 0, 0) := by decide +kernel
theorem cd_F_ball_19 : code_ 112 19 = some (.ifCond .ne 5, 22, 24, 0, 0) := by decide +kernel
theorem cd_F_ball_22 : code_ 112 22 = some (.iconst (-1), 23, 0, 0, 0) := by decide +kernel
theorem cd_F_ball_23 : code_ 112 23 = some (.ireturn, 24, 0, 0, 0) := by decide +kernel
theorem cd_F_ball_24 : code_ 112 24 = some (.aload_n 0, 25, 0, 0, 0) := by decide +kernel
theorem cd_F_ball_25 : code_ 112 25 = some (.getfield 10, 28, 7, 0, 2) := by decide +kernel
theorem cd_F_ball_28 : code_ 112 28 = some (.bipush 10, 30, 0, 0, 0) := by decide +kernel
theorem cd_F_ball_30 : code_ 112 30 = some (.iload_n 1, 31, 0, 0, 0) := by decide +kernel
theorem cd_F_ball_31 : code_ 112 31 = some (.imul, 32, 0, 0, 0) := by decide +kernel
theorem cd_F_ball_32 : code_ 112 32 = some (.iload_n 2, 33, 0, 0, 0) := by decide +kernel
theorem cd_F_ball_33 : code_ 112 33 = some (.iadd, 34, 0, 0, 0) := by decide +kernel
theorem cd_F_ball_34 : code_ 112 34 = some (.invokevirtual 105, 37, 91, 1, 0) := by decide +kernel
theorem cd_F_ball_37 : code_ 112 37 = some (.iconst 1, 38, 0, 0, 0) := by decide +kernel
theorem cd_F_ball_38 : code_ 112 38 = some (.ireturn, 39, 0, 0, 0) := by decide +kernel
theorem cd_F_goals_0 : code_ 113 0 = some (.iload_n 1, 1, 0, 0, 0) := by decide +kernel
theorem cd_F_goals_1 : code_ 113 1 = some (.invokestatic 109, 4, 141, 0, 0) := by decide +kernel
theorem cd_F_goals_4 : code_ 113 4 = some (.ifCond .ne 5, 7, 9, 0, 0) := by decide +kernel
theorem cd_F_goals_7 : code_ 113 7 = some (.iconst (-1), 8, 0, 0, 0) := by decide +kernel
theorem cd_F_goals_8 : code_ 113 8 = some (.ireturn, 9, 0, 0, 0) := by decide +kernel
theorem cd_F_goals_9 : code_ 113 9 = some (.iload_n 2, 10, 0, 0, 0) := by decide +kernel
theorem cd_F_goals_10 : code_ 113 10 = some (.iconst 0, 11, 0, 0, 0) := by decide +kernel
theorem cd_F_goals_11 : code_ 113 11 = some (.bipush 10, 13, 0, 0, 0) := by decide +kernel
theorem cd_F_goals_13 : code_ 113 13 = some (.invokestatic 74, 16, 140, 0, 0) := by decide +kernel
theorem cd_F_goals_16 : code_ 113 16 = some (.ifCond .ne 6, 19, 22, 0, 0) := by decide +kernel
theorem cd_F_goals_19 : code_ 113 19 = some (.bipush (-2), 21, 0, 0, 0) := by decide +kernel
theorem cd_F_goals_21 : code_ 113 21 = some (.ireturn, 22, 0, 0, 0) := by decide +kernel
theorem cd_F_goals_22 : code_ 113 22 = some (.aload_n 0, 23, 0, 0, 0) := by decide +kernel
theorem cd_F_goals_23 : code_ 113 23 = some (.getfield 10, 26, 7, 0, 2) := by decide +kernel
theorem cd_F_goals_26 : code_ 113 26 = some (.iload_n 1, 27, 0, 0, 0) := by decide +kernel
theorem cd_F_goals_27 : code_ 113 27 = some (.invokevirtual 112, 30, 78, 1, 0) := by decide +kernel
theorem cd_F_goals_30 : code_ 113 30 = some (.istore_n 3, 31, 0, 0, 0) := by decide +kernel
theorem cd_F_goals_31 : code_ 113 31 = some (.aload_n 0, 32, 0, 0, 0) := by decide +kernel
theorem cd_F_goals_32 : code_ 113 32 = some (.getfield 10, 35, 7, 0, 2) := by decide +kernel
theorem cd_F_goals_35 : code_ 113 35 = some (.iload_n 1, 36, 0, 0, 0) := by decide +kernel
theorem cd_F_goals_36 : code_ 113 36 = some (.iload_n 2, 37, 0, 0, 0) := by decide +kernel
theorem cd_F_goals_37 : code_ 113 37 = some (.invokevirtual 115, 40, 79, 1, 0) := by decide +kernel
theorem cd_F_goals_40 : code_ 113 40 = some (.iload_n 3, 41, 0, 0, 0) := by decide +kernel
theorem cd_F_goals_41 : code_ 113 41 = some (.ireturn, 42, 0, 0, 0) := by decide +kernel
theorem cd_F_say_0 : code_ 114 0 = some (.iload_n 1, 1, 0, 0, 0) := by decide +kernel
theorem cd_F_say_1 : code_ 114 1 = some (.bipush 33, 3, 0, 0, 0) := by decide +kernel
theorem cd_F_say_3 : code_ 114 3 = some (.bipush 126, 5, 0, 0, 0) := by decide +kernel
theorem cd_F_say_5 : code_ 114 5 = some (.invokestatic 74, 8, 140, 0, 0) := by decide +kernel
theorem cd_F_say_8 : code_ 114 8 = some (.ifCond .ne 6, 11, 14, 0, 0) := by decide +kernel
theorem cd_F_say_11 : code_ 114 11 = some (.bipush (-2), 13, 0, 0, 0) := by decide +kernel
theorem cd_F_say_13 : code_ 114 13 = some (.ireturn, 14, 0, 0, 0) := by decide +kernel
theorem cd_F_say_14 : code_ 114 14 = some (.aload_n 0, 15, 0, 0, 0) := by decide +kernel
theorem cd_F_say_15 : code_ 114 15 = some (.getfield 19, 18, 7, 1, 2) := by decide +kernel
theorem cd_F_say_18 : code_ 114 18 = some (.iload_n 1, 19, 0, 0, 0) := by decide +kernel
theorem cd_F_say_19 : code_ 114 19 = some (.invokevirtual 118, 22, 30, 1, 0) := by decide +kernel
theorem cd_F_say_22 : code_ 114 22 = some (.ifCond .eq 13, 25, 35, 0, 0) := by decide +kernel
theorem cd_F_say_25 : code_ 114 25 = some (.aload_n 0, 26, 0, 0, 0) := by decide +kernel
theorem cd_F_say_26 : code_ 114 26 = some (.getfield 19, 29, 7, 1, 2) := by decide +kernel
theorem cd_F_say_29 : code_ 114 29 = some (.invokevirtual 121, 32, 29, 1, 0) := by decide +kernel
theorem cd_F_say_32 : code_ 114 32 = some (.goto 5, 35, 37, 0, 0) := by decide +kernel
theorem cd_F_say_35 : code_ 114 35 = some (.bipush (-4), 37, 0, 0, 0) := by decide +kernel
theorem cd_F_say_37 : code_ 114 37 = some (.ireturn, 38, 0, 0, 0) := by decide +kernel
theorem cd_F_wipe_0 : code_ 115 0 = some (.aload_n 0, 1, 0, 0, 0) := by decide +kernel
theorem cd_F_wipe_1 : code_ 115 1 = some (.getfield 19, 4, 7, 1, 2) := by decide +kernel
theorem cd_F_wipe_4 : code_ 115 4 = some (.invokevirtual 121, 7, 29, 1, 0) := by decide +kernel
theorem cd_F_wipe_7 : code_ 115 7 = some (.istore_n 1, 8, 0, 0, 0) := by decide +kernel
theorem cd_F_wipe_8 : code_ 115 8 = some (.aload_n 0, 9, 0, 0, 0) := by decide +kernel
theorem cd_F_wipe_9 : code_ 115 9 = some (.getfield 19, 12, 7, 1, 2) := by decide +kernel
theorem cd_F_wipe_12 : code_ 115 12 = some (.invokevirtual 125, 15, 31, 1, 0) := by decide +kernel
theorem cd_F_wipe_15 : code_ 115 15 = some (.iload_n 1, 16, 0, 0, 0) := by decide +kernel
theorem cd_F_wipe_16 : code_ 115 16 = some (.ireturn, 17, 0, 0, 0) := by decide +kernel
theorem cd_F_fault_0 : code_ 116 0 = some (.aload_n 0, 1, 0, 0, 0) := by decide +kernel
theorem cd_F_fault_1 : code_ 116 1 = some (.getfield 19, 4, 7, 1, 2) := by decide +kernel
theorem cd_F_fault_4 : code_ 116 4 = some (.invokevirtual 128, 7, 37, 1, 0) := by decide +kernel
theorem cd_F_fault_7 : code_ 116 7 = some (.ireturn, 8, 0, 0, 0) := by decide +kernel
theorem cd_F_judge_0 : code_ 117 0 = some (.iload_n 1, 1, 0, 0, 0) := by decide +kernel
theorem cd_F_judge_1 : code_ 117 1 = some (.invokestatic 109, 4, 141, 0, 0) := by decide +kernel
theorem cd_F_judge_4 : code_ 117 4 = some (.ifCond .ne 6, 7, 10, 0, 0) := by decide +kernel
theorem cd_F_judge_7 : code_ 117 7 = some (.bipush (-2), 9, 0, 0, 0) := by decide +kernel
theorem cd_F_judge_9 : code_ 117 9 = some (.ireturn, 10, 0, 0, 0) := by decide +kernel
theorem cd_F_judge_10 : code_ 117 10 = some (.aload_n 0, 11, 0, 0, 0) := by decide +kernel
theorem cd_F_judge_11 : code_ 117 11 = some (.getfield 19, 14, 7, 1, 2) := by decide +kernel
theorem cd_F_judge_14 : code_ 117 14 = some (.invokevirtual 128, 17, 37, 1, 0) := by decide +kernel
theorem cd_F_judge_17 : code_ 117 17 = some (.bipush (-6), 19, 0, 0, 0) := by decide +kernel
theorem cd_F_judge_19 : code_ 117 19 = some (.if_icmp .eq 6, 22, 25, 0, 0) := by decide +kernel
theorem cd_F_judge_22 : code_ 117 22 = some (.bipush (-5), 24, 0, 0, 0) := by decide +kernel
theorem cd_F_judge_24 : code_ 117 24 = some (.ireturn, 25, 0, 0, 0) := by decide +kernel
theorem cd_F_judge_25 : code_ 117 25 = some (.aload_n 0, 26, 0, 0, 0) := by decide +kernel
theorem cd_F_judge_26 : code_ 117 26 = some (.getfield 26, 29, 7, 2, 2) := by decide +kernel
theorem cd_F_judge_29 : code_ 117 29 = some (.aload_n 0, 30, 0, 0, 0) := by decide +kernel
theorem cd_F_judge_30 : code_ 117 30 = some (.getfield 10, 33, 7, 0, 2) := by decide +kernel
theorem cd_F_judge_33 : code_ 117 33 = some (.aload_n 0, 34, 0, 0, 0) := by decide +kernel
theorem cd_F_judge_34 : code_ 117 34 = some (.getfield 19, 37, 7, 1, 2) := by decide +kernel
theorem cd_F_judge_37 : code_ 117 37 = some (.invokevirtual 131, 40, 19, 1, 0) := by decide +kernel
theorem cd_F_judge_40 : code_ 117 40 = some (.iload_n 1, 41, 0, 0, 0) := by decide +kernel
theorem cd_F_judge_41 : code_ 117 41 = some (.ifCond .ne 13, 44, 54, 0, 0) := by decide +kernel
theorem cd_F_judge_44 : code_ 117 44 = some (.aload_n 0, 45, 0, 0, 0) := by decide +kernel
theorem cd_F_judge_45 : code_ 117 45 = some (.getfield 26, 48, 7, 2, 2) := by decide +kernel
theorem cd_F_judge_48 : code_ 117 48 = some (.invokevirtual 135, 51, 16, 1, 0) := by decide +kernel
theorem cd_F_judge_51 : code_ 117 51 = some (.goto 10, 54, 61, 0, 0) := by decide +kernel
theorem cd_F_judge_54 : code_ 117 54 = some (.aload_n 0, 55, 0, 0, 0) := by decide +kernel
theorem cd_F_judge_55 : code_ 117 55 = some (.getfield 26, 58, 7, 2, 2) := by decide +kernel
theorem cd_F_judge_58 : code_ 117 58 = some (.invokevirtual 138, 61, 17, 1, 0) := by decide +kernel
theorem cd_F_judge_61 : code_ 117 61 = some (.ireturn, 62, 0, 0, 0) := by decide +kernel
theorem cd_F_done_0 : code_ 118 0 = some (.aload_n 0, 1, 0, 0, 0) := by decide +kernel
theorem cd_F_done_1 : code_ 118 1 = some (.invokevirtual 141, 4, 138, 1, 0) := by decide +kernel
theorem cd_F_done_4 : code_ 118 4 = some (.ifCond .ne 6, 7, 10, 0, 0) := by decide +kernel
theorem cd_F_done_7 : code_ 118 7 = some (.bipush (-5), 9, 0, 0, 0) := by decide +kernel
theorem cd_F_done_9 : code_ 118 9 = some (.ireturn, 10, 0, 0, 0) := by decide +kernel
theorem cd_F_done_10 : code_ 118 10 = some (.aload_n 0, 11, 0, 0, 0) := by decide +kernel
theorem cd_F_done_11 : code_ 118 11 = some (.getfield 10, 14, 7, 0, 2) := by decide +kernel
theorem cd_F_done_14 : code_ 118 14 = some (.aload_n 0, 15, 0, 0, 0) := by decide +kernel
theorem cd_F_done_15 : code_ 118 15 = some (.getfield 26, 18, 7, 2, 2) := by decide +kernel
theorem cd_F_done_18 : code_ 118 18 = some (.invokevirtual 145, 21, 14, 1, 0) := by decide +kernel
theorem cd_F_done_21 : code_ 118 21 = some (.invokevirtual 149, 24, 75, 1, 0) := by decide +kernel
theorem cd_F_done_24 : code_ 118 24 = some (.aload_n 0, 25, 0, 0, 0) := by decide +kernel
theorem cd_F_done_25 : code_ 118 25 = some (.getfield 19, 28, 7, 1, 2) := by decide +kernel
theorem cd_F_done_28 : code_ 118 28 = some (.invokevirtual 125, 31, 31, 1, 0) := by decide +kernel
theorem cd_F_done_31 : code_ 118 31 = some (.aload_n 0, 32, 0, 0, 0) := by decide +kernel
theorem cd_F_done_32 : code_ 118 32 = some (.getfield 26, 35, 7, 2, 2) := by decide +kernel
theorem cd_F_done_35 : code_ 118 35 = some (.invokevirtual 153, 38, 15, 1, 0) := by decide +kernel
theorem cd_F_done_38 : code_ 118 38 = some (.ireturn, 39, 0, 0, 0) := by decide +kernel
theorem cd_F_behind_0 : code_ 119 0 = some (.iload_n 1, 1, 0, 0, 0) := by decide +kernel
theorem cd_F_behind_1 : code_ 119 1 = some (.invokestatic 64, 4, 52, 0, 0) := by decide +kernel
theorem cd_F_behind_4 : code_ 119 4 = some (.ifCond .ne 5, 7, 9, 0, 0) := by decide +kernel
theorem cd_F_behind_7 : code_ 119 7 = some (.iconst (-1), 8, 0, 0, 0) := by decide +kernel
theorem cd_F_behind_8 : code_ 119 8 = some (.ireturn, 9, 0, 0, 0) := by decide +kernel
theorem cd_F_behind_9 : code_ 119 9 = some (.iload_n 2, 10, 0, 0, 0) := by decide +kernel
theorem cd_F_behind_10 : code_ 119 10 = some (.invokestatic 109, 13, 141, 0, 0) := by decide +kernel
theorem cd_F_behind_13 : code_ 119 13 = some (.ifCond .ne 6, 16, 19, 0, 0) := by decide +kernel
theorem cd_F_behind_16 : code_ 119 16 = some (.bipush (-2), 18, 0, 0, 0) := by decide +kernel
theorem cd_F_behind_18 : code_ 119 18 = some (.ireturn, 19, 0, 0, 0) := by decide +kernel
theorem cd_F_behind_19 : code_ 119 19 = some (.aload_n 0, 20, 0, 0, 0) := by decide +kernel
theorem cd_F_behind_20 : code_ 119 20 = some (.invokevirtual 141, 23, 138, 1, 0) := by decide +kernel
theorem cd_F_behind_23 : code_ 119 23 = some (.ifCond .ne 6, 26, 29, 0, 0) := by decide +kernel
theorem cd_F_behind_26 : code_ 119 26 = some (.bipush (-5), 28, 0, 0, 0) := by decide +kernel
theorem cd_F_behind_28 : code_ 119 28 = some (.ireturn, 29, 0, 0, 0) := by decide +kernel
theorem cd_F_behind_29 : code_ 119 29 = some (.iload_n 2, 30, 0, 0, 0) := by decide +kernel
theorem cd_F_behind_30 : code_ 119 30 = some (.ifCond .ne 15, 33, 45, 0, 0) := by decide +kernel
theorem cd_F_behind_33 : code_ 119 33 = some (.aload_n 0, 34, 0, 0, 0) := by decide +kernel
theorem cd_F_behind_34 : code_ 119 34 = some (.getfield 26, 37, 7, 2, 2) := by decide +kernel
theorem cd_F_behind_37 : code_ 119 37 = some (.invokevirtual 145, 40, 14, 1, 0) := by decide +kernel
theorem cd_F_behind_40 : code_ 119 40 = some (.iload_n 1, 41, 0, 0, 0) := by decide +kernel
theorem cd_F_behind_41 : code_ 119 41 = some (.invokevirtual 78, 44, 76, 1, 0) := by decide +kernel
theorem cd_F_behind_44 : code_ 119 44 = some (.ireturn, 45, 0, 0, 0) := by decide +kernel
theorem cd_F_behind_45 : code_ 119 45 = some (.aload_n 0, 46, 0, 0, 0) := by decide +kernel
theorem cd_F_behind_46 : code_ 119 46 = some (.getfield 26, 49, 7, 2, 2) := by decide +kernel
theorem cd_F_behind_49 : code_ 119 49 = some (.invokevirtual 145, 52, 14, 1, 0) := by decide +kernel
theorem cd_F_behind_52 : code_ 119 52 = some (.iload_n 1, 53, 0, 0, 0) := by decide +kernel
theorem cd_F_behind_53 : code_ 119 53 = some (.invokevirtual 88, 56, 82, 1, 0) := by decide +kernel
theorem cd_F_behind_56 : code_ 119 56 = some (.ifCond .eq 7, 59, 63, 0, 0) := by decide +kernel
theorem cd_F_behind_59 : code_ 119 59 = some (.iconst 1, 60, 0, 0, 0) := by decide +kernel
theorem cd_F_behind_60 : code_ 119 60 = some (.goto 4, 63, 64, 0, 0) := by decide +kernel
theorem cd_F_behind_63 : code_ 119 63 = some (.iconst 0, 64, 0, 0, 0) := by decide +kernel
theorem cd_F_behind_64 : code_ 119 64 = some (.ireturn, 65, 0, 0, 0) := by decide +kernel
theorem cd_F_then_0 : code_ 120 0 = some (.iload_n 1, 1, 0, 0, 0) := by decide +kernel
theorem cd_F_then_1 : code_ 120 1 = some (.iconst 0, 2, 0, 0, 0) := by decide +kernel
theorem cd_F_then_2 : code_ 120 2 = some (.bipush 6, 4, 0, 0, 0) := by decide +kernel
theorem cd_F_then_4 : code_ 120 4 = some (.invokestatic 74, 7, 140, 0, 0) := by decide +kernel
theorem cd_F_then_7 : code_ 120 7 = some (.ifCond .ne 6, 10, 13, 0, 0) := by decide +kernel
theorem cd_F_then_10 : code_ 120 10 = some (.bipush (-2), 12, 0, 0, 0) := by decide +kernel
theorem cd_F_then_12 : code_ 120 12 = some (.ireturn, 13, 0, 0, 0) := by decide +kernel
theorem cd_F_then_13 : code_ 120 13 = some (.aload_n 0, 14, 0, 0, 0) := by decide +kernel
theorem cd_F_then_14 : code_ 120 14 = some (.invokevirtual 141, 17, 138, 1, 0) := by decide +kernel
theorem cd_F_then_17 : code_ 120 17 = some (.ifCond .ne 6, 20, 23, 0, 0) := by decide +kernel
theorem cd_F_then_20 : code_ 120 20 = some (.bipush (-5), 22, 0, 0, 0) := by decide +kernel
theorem cd_F_then_22 : code_ 120 22 = some (.ireturn, 23, 0, 0, 0) := by decide +kernel
theorem cd_F_then_23 : code_ 120 23 = some (.aload_n 0, 24, 0, 0, 0) := by decide +kernel
theorem cd_F_then_24 : code_ 120 24 = some (.getfield 26, 27, 7, 2, 2) := by decide +kernel
theorem cd_F_then_27 : code_ 120 27 = some (.invokevirtual 145, 30, 14, 1, 0) := by decide +kernel
theorem cd_F_then_30 : code_ 120 30 = some (.astore_n 2, 31, 0, 0, 0) := by decide +kernel
theorem cd_F_then_31 : code_ 120 31 = some (.iload_n 1, 32, 0, 0, 0) := by decide +kernel
theorem cd_F_then_32 : code_ 120 32 = some (.tableswitch 72 0 5 #[40, 45, 50, 55, 61, 67], 72, 0, 0, 0) := by decide +kernel
theorem cd_F_then_72 : code_ 120 72 = some (.aload_n 2, 73, 0, 0, 0) := by decide +kernel
theorem cd_F_then_73 : code_ 120 73 = some (.invokevirtual 156, 76, 87, 1, 0) := by decide +kernel
theorem cd_F_then_76 : code_ 120 76 = some (.ireturn, 77, 0, 0, 0) := by decide +kernel
theorem cd_F_then_77 : code_ 120 77 = some (.aload_n 2, 78, 0, 0, 0) := by decide +kernel
theorem cd_F_then_78 : code_ 120 78 = some (.invokevirtual 159, 81, 88, 1, 0) := by decide +kernel
theorem cd_F_then_81 : code_ 120 81 = some (.ireturn, 82, 0, 0, 0) := by decide +kernel
theorem cd_F_then_82 : code_ 120 82 = some (.aload_n 2, 83, 0, 0, 0) := by decide +kernel
theorem cd_F_then_83 : code_ 120 83 = some (.invokevirtual 162, 86, 89, 1, 0) := by decide +kernel
theorem cd_F_then_86 : code_ 120 86 = some (.ireturn, 87, 0, 0, 0) := by decide +kernel
theorem cd_F_then_87 : code_ 120 87 = some (.aload_n 2, 88, 0, 0, 0) := by decide +kernel
theorem cd_F_then_88 : code_ 120 88 = some (.iconst 0, 89, 0, 0, 0) := by decide +kernel
theorem cd_F_then_89 : code_ 120 89 = some (.invokevirtual 112, 92, 78, 1, 0) := by decide +kernel
theorem cd_F_then_92 : code_ 120 92 = some (.ireturn, 93, 0, 0, 0) := by decide +kernel
theorem cd_F_then_93 : code_ 120 93 = some (.aload_n 2, 94, 0, 0, 0) := by decide +kernel
theorem cd_F_then_94 : code_ 120 94 = some (.iconst 1, 95, 0, 0, 0) := by decide +kernel
theorem cd_F_then_95 : code_ 120 95 = some (.invokevirtual 112, 98, 78, 1, 0) := by decide +kernel
theorem cd_F_then_98 : code_ 120 98 = some (.ireturn, 99, 0, 0, 0) := by decide +kernel
theorem cd_F_then_99 : code_ 120 99 = some (.aload_n 2, 100, 0, 0, 0) := by decide +kernel
theorem cd_F_then_100 : code_ 120 100 = some (.invokevirtual 165, 103, 85, 1, 0) := by decide +kernel
theorem cd_F_then_103 : code_ 120 103 = some (.ireturn, 104, 0, 0, 0) := by decide +kernel
theorem cd_F_then_104 : code_ 120 104 = some (.aload_n 0, 105, 0, 0, 0) := by decide +kernel
theorem cd_F_then_105 : code_ 120 105 = some (.getfield 26, 108, 7, 2, 2) := by decide +kernel
theorem cd_F_then_108 : code_ 120 108 = some (.invokevirtual 168, 111, 18, 1, 0) := by decide +kernel
theorem cd_F_then_111 : code_ 120 111 = some (.ireturn, 112, 0, 0, 0) := by decide +kernel
theorem cd_F_ends_0 : code_ 121 0 = some (.iload_n 1, 1, 0, 0, 0) := by decide +kernel
theorem cd_F_ends_1 : code_ 121 1 = some (.bipush (-9), 3, 0, 0, 0) := by decide +kernel
theorem cd_F_ends_3 : code_ 121 3 = some (.bipush 9, 5, 0, 0, 0) := by decide +kernel
theorem cd_F_ends_5 : code_ 121 5 = some (.invokestatic 74, 8, 140, 0, 0) := by decide +kernel
theorem cd_F_ends_8 : code_ 121 8 = some (.ifCond .ne 6, 11, 14, 0, 0) := by decide +kernel
theorem cd_F_ends_11 : code_ 121 11 = some (.bipush (-2), 13, 0, 0, 0) := by decide +kernel
theorem cd_F_ends_13 : code_ 121 13 = some (.ireturn, 14, 0, 0, 0) := by decide +kernel
theorem cd_F_ends_14 : code_ 121 14 = some (.aload_n 0, 15, 0, 0, 0) := by decide +kernel
theorem cd_F_ends_15 : code_ 121 15 = some (.getfield 10, 18, 7, 0, 2) := by decide +kernel
theorem cd_F_ends_18 : code_ 121 18 = some (.invokevirtual 171, 21, 86, 1, 0) := by decide +kernel
theorem cd_F_ends_21 : code_ 121 21 = some (.ifCond .eq 6, 24, 27, 0, 0) := by decide +kernel
theorem cd_F_ends_24 : code_ 121 24 = some (.bipush (-3), 26, 0, 0, 0) := by decide +kernel
theorem cd_F_ends_26 : code_ 121 26 = some (.ireturn, 27, 0, 0, 0) := by decide +kernel
theorem cd_F_ends_27 : code_ 121 27 = some (.aload_n 0, 28, 0, 0, 0) := by decide +kernel
theorem cd_F_ends_28 : code_ 121 28 = some (.getfield 10, 31, 7, 0, 2) := by decide +kernel
theorem cd_F_ends_31 : code_ 121 31 = some (.iload_n 1, 32, 0, 0, 0) := by decide +kernel
theorem cd_F_ends_32 : code_ 121 32 = some (.invokevirtual 174, 35, 96, 1, 0) := by decide +kernel
theorem cd_F_ends_35 : code_ 121 35 = some (.bipush 10, 37, 0, 0, 0) := by decide +kernel
theorem cd_F_ends_37 : code_ 121 37 = some (.idiv, 38, 0, 0, 0) := by decide +kernel
theorem cd_F_ends_38 : code_ 121 38 = some (.ireturn, 39, 0, 0, 0) := by decide +kernel
theorem cd_F_goesIn_0 : code_ 122 0 = some (.aload_n 0, 1, 0, 0, 0) := by decide +kernel
theorem cd_F_goesIn_1 : code_ 122 1 = some (.getfield 10, 4, 7, 0, 2) := by decide +kernel
theorem cd_F_goesIn_4 : code_ 122 4 = some (.invokevirtual 171, 7, 86, 1, 0) := by decide +kernel
theorem cd_F_goesIn_7 : code_ 122 7 = some (.ifCond .eq 6, 10, 13, 0, 0) := by decide +kernel
theorem cd_F_goesIn_10 : code_ 122 10 = some (.bipush (-3), 12, 0, 0, 0) := by decide +kernel
theorem cd_F_goesIn_12 : code_ 122 12 = some (.ireturn, 13, 0, 0, 0) := by decide +kernel
theorem cd_F_goesIn_13 : code_ 122 13 = some (.iconst 0, 14, 0, 0, 0) := by decide +kernel
theorem cd_F_goesIn_14 : code_ 122 14 = some (.istore_n 1, 15, 0, 0, 0) := by decide +kernel
theorem cd_F_goesIn_15 : code_ 122 15 = some (.bipush (-9), 17, 0, 0, 0) := by decide +kernel
theorem cd_F_goesIn_17 : code_ 122 17 = some (.istore_n 2, 18, 0, 0, 0) := by decide +kernel
theorem cd_F_goesIn_18 : code_ 122 18 = some (.iload_n 2, 19, 0, 0, 0) := by decide +kernel
theorem cd_F_goesIn_19 : code_ 122 19 = some (.bipush 9, 21, 0, 0, 0) := by decide +kernel
theorem cd_F_goesIn_21 : code_ 122 21 = some (.if_icmp .gt 29, 24, 50, 0, 0) := by decide +kernel
theorem cd_F_goesIn_24 : code_ 122 24 = some (.aload_n 0, 25, 0, 0, 0) := by decide +kernel
theorem cd_F_goesIn_25 : code_ 122 25 = some (.getfield 10, 28, 7, 0, 2) := by decide +kernel
theorem cd_F_goesIn_28 : code_ 122 28 = some (.iload_n 2, 29, 0, 0, 0) := by decide +kernel
theorem cd_F_goesIn_29 : code_ 122 29 = some (.invokevirtual 174, 32, 96, 1, 0) := by decide +kernel
theorem cd_F_goesIn_32 : code_ 122 32 = some (.bipush 80, 34, 0, 0, 0) := by decide +kernel
theorem cd_F_goesIn_34 : code_ 122 34 = some (.if_icmp .ne 10, 37, 44, 0, 0) := by decide +kernel
theorem cd_F_goesIn_37 : code_ 122 37 = some (.iload_n 1, 38, 0, 0, 0) := by decide +kernel
theorem cd_F_goesIn_38 : code_ 122 38 = some (.iload_n 2, 39, 0, 0, 0) := by decide +kernel
theorem cd_F_goesIn_39 : code_ 122 39 = some (.invokestatic 177, 42, 143, 0, 0) := by decide +kernel
theorem cd_F_goesIn_42 : code_ 122 42 = some (.ior, 43, 0, 0, 0) := by decide +kernel
theorem cd_F_goesIn_43 : code_ 122 43 = some (.istore_n 1, 44, 0, 0, 0) := by decide +kernel
theorem cd_F_goesIn_44 : code_ 122 44 = some (.iinc 2 1, 47, 0, 0, 0) := by decide +kernel
theorem cd_F_goesIn_47 : code_ 122 47 = some (.goto (-29), 50, 18, 0, 0) := by decide +kernel
theorem cd_F_goesIn_50 : code_ 122 50 = some (.iload_n 1, 51, 0, 0, 0) := by decide +kernel
theorem cd_F_goesIn_51 : code_ 122 51 = some (.ireturn, 52, 0, 0, 0) := by decide +kernel
theorem cd_F_path_0 : code_ 123 0 = some (.iload_n 1, 1, 0, 0, 0) := by decide +kernel
theorem cd_F_path_1 : code_ 123 1 = some (.iload_n 2, 2, 0, 0, 0) := by decide +kernel
theorem cd_F_path_2 : code_ 123 2 = some (.invokestatic 101, 5, 53, 0, 0) := by decide +kernel
theorem cd_F_path_5 : code_ 123 5 = some (.ifCond .ne 5, 8, 10, 0, 0) := by decide +kernel
theorem cd_F_path_8 : code_ 123 8 = some (.iconst (-1), 9, 0, 0, 0) := by decide +kernel
theorem cd_F_path_9 : code_ 123 9 = some (.ireturn, 10, 0, 0, 0) := by decide +kernel
theorem cd_F_path_10 : code_ 123 10 = some (.iload_n 3, 11, 0, 0, 0) := by decide +kernel
theorem cd_F_path_11 : code_ 123 11 = some (.invokestatic 109, 14, 141, 0, 0) := by decide +kernel
theorem cd_F_path_14 : code_ 123 14 = some (.ifCond .ne 6, 17, 20, 0, 0) := by decide +kernel
theorem cd_F_path_17 : code_ 123 17 = some (.bipush (-2), 19, 0, 0, 0) := by decide +kernel
theorem cd_F_path_19 : code_ 123 19 = some (.ireturn, 20, 0, 0, 0) := by decide +kernel
theorem cd_F_path_20 : code_ 123 20 = some (.aload_n 0, 21, 0, 0, 0) := by decide +kernel
theorem cd_F_path_21 : code_ 123 21 = some (.getfield 10, 24, 7, 0, 2) := by decide +kernel
theorem cd_F_path_24 : code_ 123 24 = some (.invokevirtual 171, 27, 86, 1, 0) := by decide +kernel
theorem cd_F_path_27 : code_ 123 27 = some (.ifCond .eq 6, 30, 33, 0, 0) := by decide +kernel
theorem cd_F_path_30 : code_ 123 30 = some (.bipush (-3), 32, 0, 0, 0) := by decide +kernel
theorem cd_F_path_32 : code_ 123 32 = some (.ireturn, 33, 0, 0, 0) := by decide +kernel
theorem cd_F_path_33 : code_ 123 33 = some (.iload_n 1, 34, 0, 0, 0) := by decide +kernel
theorem cd_F_path_34 : code_ 123 34 = some (.invokestatic 85, 37, 54, 0, 0) := by decide +kernel
theorem cd_F_path_37 : code_ 123 37 = some (.aload_n 0, 38, 0, 0, 0) := by decide +kernel
theorem cd_F_path_38 : code_ 123 38 = some (.getfield 10, 41, 7, 0, 2) := by decide +kernel
theorem cd_F_path_41 : code_ 123 41 = some (.invokevirtual 156, 44, 87, 1, 0) := by decide +kernel
theorem cd_F_path_44 : code_ 123 44 = some (.invokestatic 85, 47, 54, 0, 0) := by decide +kernel
theorem cd_F_path_47 : code_ 123 47 = some (.if_icmp .eq 6, 50, 53, 0, 0) := by decide +kernel
theorem cd_F_path_50 : code_ 123 50 = some (.bipush (-6), 52, 0, 0, 0) := by decide +kernel
theorem cd_F_path_52 : code_ 123 52 = some (.ireturn, 53, 0, 0, 0) := by decide +kernel
theorem cd_F_path_53 : code_ 123 53 = some (.aload_n 0, 54, 0, 0, 0) := by decide +kernel
theorem cd_F_path_54 : code_ 123 54 = some (.getfield 33, 57, 7, 3, 2) := by decide +kernel
theorem cd_F_path_57 : code_ 123 57 = some (.aload_n 0, 58, 0, 0, 0) := by decide +kernel
theorem cd_F_path_58 : code_ 123 58 = some (.getfield 10, 61, 7, 0, 2) := by decide +kernel
theorem cd_F_path_61 : code_ 123 61 = some (.bipush 10, 63, 0, 0, 0) := by decide +kernel
theorem cd_F_path_63 : code_ 123 63 = some (.iload_n 1, 64, 0, 0, 0) := by decide +kernel
theorem cd_F_path_64 : code_ 123 64 = some (.imul, 65, 0, 0, 0) := by decide +kernel
theorem cd_F_path_65 : code_ 123 65 = some (.iload_n 2, 66, 0, 0, 0) := by decide +kernel
theorem cd_F_path_66 : code_ 123 66 = some (.iadd, 67, 0, 0, 0) := by decide +kernel
theorem cd_F_path_67 : code_ 123 67 = some (.invokevirtual 180, 70, 47, 1, 0) := by decide +kernel
theorem cd_F_path_70 : code_ 123 70 = some (.bipush 10, 72, 0, 0, 0) := by decide +kernel
theorem cd_F_path_72 : code_ 123 72 = some (.aload_n 0, 73, 0, 0, 0) := by decide +kernel
theorem cd_F_path_73 : code_ 123 73 = some (.getfield 10, 76, 7, 0, 2) := by decide +kernel
theorem cd_F_path_76 : code_ 123 76 = some (.invokevirtual 156, 79, 87, 1, 0) := by decide +kernel
theorem cd_F_path_79 : code_ 123 79 = some (.imul, 80, 0, 0, 0) := by decide +kernel
theorem cd_F_path_80 : code_ 123 80 = some (.aload_n 0, 81, 0, 0, 0) := by decide +kernel
theorem cd_F_path_81 : code_ 123 81 = some (.getfield 10, 84, 7, 0, 2) := by decide +kernel
theorem cd_F_path_84 : code_ 123 84 = some (.invokevirtual 159, 87, 88, 1, 0) := by decide +kernel
theorem cd_F_path_87 : code_ 123 87 = some (.iadd, 88, 0, 0, 0) := by decide +kernel
theorem cd_F_path_88 : code_ 123 88 = some (.istore 4, 90, 0, 0, 0) := by decide +kernel
theorem cd_F_path_90 : code_ 123 90 = some (.iload_n 3, 91, 0, 0, 0) := by decide +kernel
theorem cd_F_path_91 : code_ 123 91 = some (.ifCond .ne 15, 94, 106, 0, 0) := by decide +kernel
theorem cd_F_path_94 : code_ 123 94 = some (.aload_n 0, 95, 0, 0, 0) := by decide +kernel
theorem cd_F_path_95 : code_ 123 95 = some (.getfield 33, 98, 7, 3, 2) := by decide +kernel
theorem cd_F_path_98 : code_ 123 98 = some (.iload 4, 100, 0, 0, 0) := by decide +kernel
theorem cd_F_path_100 : code_ 123 100 = some (.invokevirtual 184, 103, 46, 1, 0) := by decide +kernel
theorem cd_F_path_103 : code_ 123 103 = some (.goto 16, 106, 119, 0, 0) := by decide +kernel
theorem cd_F_path_106 : code_ 123 106 = some (.aload_n 0, 107, 0, 0, 0) := by decide +kernel
theorem cd_F_path_107 : code_ 123 107 = some (.getfield 33, 110, 7, 3, 2) := by decide +kernel
theorem cd_F_path_110 : code_ 123 110 = some (.aload_n 0, 111, 0, 0, 0) := by decide +kernel
theorem cd_F_path_111 : code_ 123 111 = some (.getfield 10, 114, 7, 0, 2) := by decide +kernel
theorem cd_F_path_114 : code_ 123 114 = some (.iload 4, 116, 0, 0, 0) := by decide +kernel
theorem cd_F_path_116 : code_ 123 116 = some (.invokevirtual 187, 119, 49, 1, 0) := by decide +kernel
theorem cd_F_path_119 : code_ 123 119 = some (.ireturn, 120, 0, 0, 0) := by decide +kernel
theorem cd_F_stand_0 : code_ 124 0 = some (.iload_n 1, 1, 0, 0, 0) := by decide +kernel
theorem cd_F_stand_1 : code_ 124 1 = some (.invokestatic 109, 4, 141, 0, 0) := by decide +kernel
theorem cd_F_stand_4 : code_ 124 4 = some (.ifCond .ne 6, 7, 10, 0, 0) := by decide +kernel
theorem cd_F_stand_7 : code_ 124 7 = some (.bipush (-2), 9, 0, 0, 0) := by decide +kernel
theorem cd_F_stand_9 : code_ 124 9 = some (.ireturn, 10, 0, 0, 0) := by decide +kernel
theorem cd_F_stand_10 : code_ 124 10 = some (.aload_n 0, 11, 0, 0, 0) := by decide +kernel
theorem cd_F_stand_11 : code_ 124 11 = some (.getfield 10, 14, 7, 0, 2) := by decide +kernel
theorem cd_F_stand_14 : code_ 124 14 = some (.invokevirtual 171, 17, 86, 1, 0) := by decide +kernel
theorem cd_F_stand_17 : code_ 124 17 = some (.ifCond .eq 6, 20, 23, 0, 0) := by decide +kernel
theorem cd_F_stand_20 : code_ 124 20 = some (.bipush (-3), 22, 0, 0, 0) := by decide +kernel
theorem cd_F_stand_22 : code_ 124 22 = some (.ireturn, 23, 0, 0, 0) := by decide +kernel
theorem cd_F_stand_23 : code_ 124 23 = some (.aload_n 0, 24, 0, 0, 0) := by decide +kernel
theorem cd_F_stand_24 : code_ 124 24 = some (.getfield 40, 27, 7, 4, 2) := by decide +kernel
theorem cd_F_stand_27 : code_ 124 27 = some (.aload_n 0, 28, 0, 0, 0) := by decide +kernel
theorem cd_F_stand_28 : code_ 124 28 = some (.getfield 10, 31, 7, 0, 2) := by decide +kernel
theorem cd_F_stand_31 : code_ 124 31 = some (.invokevirtual 191, 34, 10, 1, 0) := by decide +kernel
theorem cd_F_stand_34 : code_ 124 34 = some (.iload_n 1, 35, 0, 0, 0) := by decide +kernel
theorem cd_F_stand_35 : code_ 124 35 = some (.ifCond .ne 13, 38, 48, 0, 0) := by decide +kernel
theorem cd_F_stand_38 : code_ 124 38 = some (.aload_n 0, 39, 0, 0, 0) := by decide +kernel
theorem cd_F_stand_39 : code_ 124 39 = some (.getfield 40, 42, 7, 4, 2) := by decide +kernel
theorem cd_F_stand_42 : code_ 124 42 = some (.invokevirtual 194, 45, 8, 1, 0) := by decide +kernel
theorem cd_F_stand_45 : code_ 124 45 = some (.goto 10, 48, 55, 0, 0) := by decide +kernel
theorem cd_F_stand_48 : code_ 124 48 = some (.aload_n 0, 49, 0, 0, 0) := by decide +kernel
theorem cd_F_stand_49 : code_ 124 49 = some (.getfield 40, 52, 7, 4, 2) := by decide +kernel
theorem cd_F_stand_52 : code_ 124 52 = some (.invokevirtual 197, 55, 9, 1, 0) := by decide +kernel
theorem cd_F_stand_55 : code_ 124 55 = some (.ireturn, 56, 0, 0, 0) := by decide +kernel
theorem cd_F_mix_0 : code_ 125 0 = some (.iload_n 1, 1, 0, 0, 0) := by decide +kernel
theorem cd_F_mix_1 : code_ 125 1 = some (.invokestatic 200, 4, 142, 0, 0) := by decide +kernel
theorem cd_F_mix_4 : code_ 125 4 = some (.ifCond .eq 25, 7, 29, 0, 0) := by decide +kernel
theorem cd_F_mix_7 : code_ 125 7 = some (.iload_n 2, 8, 0, 0, 0) := by decide +kernel
theorem cd_F_mix_8 : code_ 125 8 = some (.invokestatic 200, 11, 142, 0, 0) := by decide +kernel
theorem cd_F_mix_11 : code_ 125 11 = some (.ifCond .eq 18, 14, 29, 0, 0) := by decide +kernel
theorem cd_F_mix_14 : code_ 125 14 = some (.iload_n 3, 15, 0, 0, 0) := by decide +kernel
theorem cd_F_mix_15 : code_ 125 15 = some (.invokestatic 200, 18, 142, 0, 0) := by decide +kernel
theorem cd_F_mix_18 : code_ 125 18 = some (.ifCond .eq 11, 21, 29, 0, 0) := by decide +kernel
theorem cd_F_mix_21 : code_ 125 21 = some (.iload 4, 23, 0, 0, 0) := by decide +kernel
theorem cd_F_mix_23 : code_ 125 23 = some (.invokestatic 200, 26, 142, 0, 0) := by decide +kernel
theorem cd_F_mix_26 : code_ 125 26 = some (.ifCond .ne 7, 29, 33, 0, 0) := by decide +kernel
theorem cd_F_mix_29 : code_ 125 29 = some (.ldc2_w 203, 32, 0, 0, -1000000000000000002) := by decide +kernel
theorem cd_F_mix_32 : code_ 125 32 = some (.lreturn, 33, 0, 0, 0) := by decide +kernel
theorem cd_F_mix_33 : code_ 125 33 = some (.iload 5, 35, 0, 0, 0) := by decide +kernel
theorem cd_F_mix_35 : code_ 125 35 = some (.invokestatic 109, 38, 141, 0, 0) := by decide +kernel
theorem cd_F_mix_38 : code_ 125 38 = some (.ifCond .eq 11, 41, 49, 0, 0) := by decide +kernel
theorem cd_F_mix_41 : code_ 125 41 = some (.iload 6, 43, 0, 0, 0) := by decide +kernel
theorem cd_F_mix_43 : code_ 125 43 = some (.invokestatic 109, 46, 141, 0, 0) := by decide +kernel
theorem cd_F_mix_46 : code_ 125 46 = some (.ifCond .ne 7, 49, 53, 0, 0) := by decide +kernel
theorem cd_F_mix_49 : code_ 125 49 = some (.ldc2_w 203, 52, 0, 0, -1000000000000000002) := by decide +kernel
theorem cd_F_mix_52 : code_ 125 52 = some (.lreturn, 53, 0, 0, 0) := by decide +kernel
theorem cd_F_mix_53 : code_ 125 53 = some (.iload_n 1, 54, 0, 0, 0) := by decide +kernel
theorem cd_F_mix_54 : code_ 125 54 = some (.iload_n 2, 55, 0, 0, 0) := by decide +kernel
theorem cd_F_mix_55 : code_ 125 55 = some (.iload_n 3, 56, 0, 0, 0) := by decide +kernel
theorem cd_F_mix_56 : code_ 125 56 = some (.iload 4, 58, 0, 0, 0) := by decide +kernel
theorem cd_F_mix_58 : code_ 125 58 = some (.iload 5, 60, 0, 0, 0) := by decide +kernel
theorem cd_F_mix_60 : code_ 125 60 = some (.iload 6, 62, 0, 0, 0) := by decide +kernel
theorem cd_F_mix_62 : code_ 125 62 = some (.invokestatic 205, 65, 2, 0, 0) := by decide +kernel
theorem cd_F_mix_65 : code_ 125 65 = some (.lreturn, 66, 0, 0, 0) := by decide +kernel
theorem cd_F_hands_0 : code_ 126 0 = some (.iload_n 2, 1, 0, 0, 0) := by decide +kernel
theorem cd_F_hands_1 : code_ 126 1 = some (.iconst 1, 2, 0, 0, 0) := by decide +kernel
theorem cd_F_hands_2 : code_ 126 2 = some (.bipush 9, 4, 0, 0, 0) := by decide +kernel
theorem cd_F_hands_4 : code_ 126 4 = some (.invokestatic 74, 7, 140, 0, 0) := by decide +kernel
theorem cd_F_hands_7 : code_ 126 7 = some (.ifCond .eq 11, 10, 18, 0, 0) := by decide +kernel
theorem cd_F_hands_10 : code_ 126 10 = some (.iload_n 1, 11, 0, 0, 0) := by decide +kernel
theorem cd_F_hands_11 : code_ 126 11 = some (.iload_n 2, 12, 0, 0, 0) := by decide +kernel
theorem cd_F_hands_12 : code_ 126 12 = some (.invokestatic 211, 15, 20, 0, 0) := by decide +kernel
theorem cd_F_hands_15 : code_ 126 15 = some (.ifCond .ne 6, 18, 21, 0, 0) := by decide +kernel
theorem cd_F_hands_18 : code_ 126 18 = some (.bipush (-2), 20, 0, 0, 0) := by decide +kernel
theorem cd_F_hands_20 : code_ 126 20 = some (.ireturn, 21, 0, 0, 0) := by decide +kernel
theorem cd_F_hands_21 : code_ 126 21 = some (.iload_n 1, 22, 0, 0, 0) := by decide +kernel
theorem cd_F_hands_22 : code_ 126 22 = some (.iload_n 2, 23, 0, 0, 0) := by decide +kernel
theorem cd_F_hands_23 : code_ 126 23 = some (.invokestatic 216, 26, 21, 0, 0) := by decide +kernel
theorem cd_F_hands_26 : code_ 126 26 = some (.ireturn, 27, 0, 0, 0) := by decide +kernel
theorem cd_F_truly_0 : code_ 127 0 = some (.iload_n 1, 1, 0, 0, 0) := by decide +kernel
theorem cd_F_truly_1 : code_ 127 1 = some (.invokestatic 200, 4, 142, 0, 0) := by decide +kernel
theorem cd_F_truly_4 : code_ 127 4 = some (.ifCond .eq 18, 7, 22, 0, 0) := by decide +kernel
theorem cd_F_truly_7 : code_ 127 7 = some (.iload_n 2, 8, 0, 0, 0) := by decide +kernel
theorem cd_F_truly_8 : code_ 127 8 = some (.invokestatic 200, 11, 142, 0, 0) := by decide +kernel
theorem cd_F_truly_11 : code_ 127 11 = some (.ifCond .eq 11, 14, 22, 0, 0) := by decide +kernel
theorem cd_F_truly_14 : code_ 127 14 = some (.iload 5, 16, 0, 0, 0) := by decide +kernel
theorem cd_F_truly_16 : code_ 127 16 = some (.invokestatic 109, 19, 141, 0, 0) := by decide +kernel
theorem cd_F_truly_19 : code_ 127 19 = some (.ifCond .ne 7, 22, 26, 0, 0) := by decide +kernel
theorem cd_F_truly_22 : code_ 127 22 = some (.ldc2_w 203, 25, 0, 0, -1000000000000000002) := by decide +kernel
theorem cd_F_truly_25 : code_ 127 25 = some (.lreturn, 26, 0, 0, 0) := by decide +kernel
theorem cd_F_truly_26 : code_ 127 26 = some (.iload_n 3, 27, 0, 0, 0) := by decide +kernel
theorem cd_F_truly_27 : code_ 127 27 = some (.iconst 0, 28, 0, 0, 0) := by decide +kernel
theorem cd_F_truly_28 : code_ 127 28 = some (.bipush 16, 30, 0, 0, 0) := by decide +kernel
theorem cd_F_truly_30 : code_ 127 30 = some (.invokestatic 74, 33, 140, 0, 0) := by decide +kernel
theorem cd_F_truly_33 : code_ 127 33 = some (.ifCond .eq 13, 36, 46, 0, 0) := by decide +kernel
theorem cd_F_truly_36 : code_ 127 36 = some (.iload 4, 38, 0, 0, 0) := by decide +kernel
theorem cd_F_truly_38 : code_ 127 38 = some (.iconst 0, 39, 0, 0, 0) := by decide +kernel
theorem cd_F_truly_39 : code_ 127 39 = some (.iload_n 3, 40, 0, 0, 0) := by decide +kernel
theorem cd_F_truly_40 : code_ 127 40 = some (.invokestatic 74, 43, 140, 0, 0) := by decide +kernel
theorem cd_F_truly_43 : code_ 127 43 = some (.ifCond .ne 7, 46, 50, 0, 0) := by decide +kernel
theorem cd_F_truly_46 : code_ 127 46 = some (.ldc2_w 203, 49, 0, 0, -1000000000000000002) := by decide +kernel
theorem cd_F_truly_49 : code_ 127 49 = some (.lreturn, 50, 0, 0, 0) := by decide +kernel
theorem cd_F_truly_50 : code_ 127 50 = some (.iload_n 1, 51, 0, 0, 0) := by decide +kernel
theorem cd_F_truly_51 : code_ 127 51 = some (.iload_n 2, 52, 0, 0, 0) := by decide +kernel
theorem cd_F_truly_52 : code_ 127 52 = some (.iload_n 3, 53, 0, 0, 0) := by decide +kernel
theorem cd_F_truly_53 : code_ 127 53 = some (.iload 4, 55, 0, 0, 0) := by decide +kernel
theorem cd_F_truly_55 : code_ 127 55 = some (.iload 5, 57, 0, 0, 0) := by decide +kernel
theorem cd_F_truly_57 : code_ 127 57 = some (.invokestatic 220, 60, 4, 0, 0) := by decide +kernel
theorem cd_F_truly_60 : code_ 127 60 = some (.lreturn, 61, 0, 0, 0) := by decide +kernel
theorem cd_F_race_0 : code_ 128 0 = some (.iload_n 1, 1, 0, 0, 0) := by decide +kernel
theorem cd_F_race_1 : code_ 128 1 = some (.iconst 0, 2, 0, 0, 0) := by decide +kernel
theorem cd_F_race_2 : code_ 128 2 = some (.bipush 9, 4, 0, 0, 0) := by decide +kernel
theorem cd_F_race_4 : code_ 128 4 = some (.invokestatic 74, 7, 140, 0, 0) := by decide +kernel
theorem cd_F_race_7 : code_ 128 7 = some (.ifCond .eq 13, 10, 20, 0, 0) := by decide +kernel
theorem cd_F_race_10 : code_ 128 10 = some (.iload_n 2, 11, 0, 0, 0) := by decide +kernel
theorem cd_F_race_11 : code_ 128 11 = some (.iconst 0, 12, 0, 0, 0) := by decide +kernel
theorem cd_F_race_12 : code_ 128 12 = some (.bipush 9, 14, 0, 0, 0) := by decide +kernel
theorem cd_F_race_14 : code_ 128 14 = some (.invokestatic 74, 17, 140, 0, 0) := by decide +kernel
theorem cd_F_race_17 : code_ 128 17 = some (.ifCond .ne 7, 20, 24, 0, 0) := by decide +kernel
theorem cd_F_race_20 : code_ 128 20 = some (.ldc2_w 203, 23, 0, 0, -1000000000000000002) := by decide +kernel
theorem cd_F_race_23 : code_ 128 23 = some (.lreturn, 24, 0, 0, 0) := by decide +kernel
theorem cd_F_race_24 : code_ 128 24 = some (.iload_n 3, 25, 0, 0, 0) := by decide +kernel
theorem cd_F_race_25 : code_ 128 25 = some (.invokestatic 200, 28, 142, 0, 0) := by decide +kernel
theorem cd_F_race_28 : code_ 128 28 = some (.ifCond .eq 11, 31, 39, 0, 0) := by decide +kernel
theorem cd_F_race_31 : code_ 128 31 = some (.iload 4, 33, 0, 0, 0) := by decide +kernel
theorem cd_F_race_33 : code_ 128 33 = some (.invokestatic 109, 36, 141, 0, 0) := by decide +kernel
theorem cd_F_race_36 : code_ 128 36 = some (.ifCond .ne 7, 39, 43, 0, 0) := by decide +kernel
theorem cd_F_race_39 : code_ 128 39 = some (.ldc2_w 203, 42, 0, 0, -1000000000000000002) := by decide +kernel
theorem cd_F_race_42 : code_ 128 42 = some (.lreturn, 43, 0, 0, 0) := by decide +kernel
theorem cd_F_race_43 : code_ 128 43 = some (.iload_n 1, 44, 0, 0, 0) := by decide +kernel
theorem cd_F_race_44 : code_ 128 44 = some (.ifCond .ne 11, 47, 55, 0, 0) := by decide +kernel
theorem cd_F_race_47 : code_ 128 47 = some (.iload_n 2, 48, 0, 0, 0) := by decide +kernel
theorem cd_F_race_48 : code_ 128 48 = some (.ifCond .ne 7, 51, 55, 0, 0) := by decide +kernel
theorem cd_F_race_51 : code_ 128 51 = some (.ldc2_w 224, 54, 0, 0, -1000000000000000003) := by decide +kernel
theorem cd_F_race_54 : code_ 128 54 = some (.lreturn, 55, 0, 0, 0) := by decide +kernel
theorem cd_F_race_55 : code_ 128 55 = some (.bipush 10, 57, 0, 0, 0) := by decide +kernel
theorem cd_F_race_57 : code_ 128 57 = some (.iload_n 1, 58, 0, 0, 0) := by decide +kernel
theorem cd_F_race_58 : code_ 128 58 = some (.isub, 59, 0, 0, 0) := by decide +kernel
theorem cd_F_race_59 : code_ 128 59 = some (.bipush 10, 61, 0, 0, 0) := by decide +kernel
theorem cd_F_race_61 : code_ 128 61 = some (.iload_n 2, 62, 0, 0, 0) := by decide +kernel
theorem cd_F_race_62 : code_ 128 62 = some (.isub, 63, 0, 0, 0) := by decide +kernel
theorem cd_F_race_63 : code_ 128 63 = some (.iload_n 3, 64, 0, 0, 0) := by decide +kernel
theorem cd_F_race_64 : code_ 128 64 = some (.iload 4, 66, 0, 0, 0) := by decide +kernel
theorem cd_F_race_66 : code_ 128 66 = some (.invokestatic 226, 69, 5, 0, 0) := by decide +kernel
theorem cd_F_race_69 : code_ 128 69 = some (.lreturn, 70, 0, 0, 0) := by decide +kernel
theorem cd_F_seen_0 : code_ 129 0 = some (.iload_n 1, 1, 0, 0, 0) := by decide +kernel
theorem cd_F_seen_1 : code_ 129 1 = some (.iconst 0, 2, 0, 0, 0) := by decide +kernel
theorem cd_F_seen_2 : code_ 129 2 = some (.bipush 60, 4, 0, 0, 0) := by decide +kernel
theorem cd_F_seen_4 : code_ 129 4 = some (.invokestatic 74, 7, 140, 0, 0) := by decide +kernel
theorem cd_F_seen_7 : code_ 129 7 = some (.ifCond .ne 6, 10, 13, 0, 0) := by decide +kernel
theorem cd_F_seen_10 : code_ 129 10 = some (.bipush (-2), 12, 0, 0, 0) := by decide +kernel
theorem cd_F_seen_12 : code_ 129 12 = some (.ireturn, 13, 0, 0, 0) := by decide +kernel
theorem cd_F_seen_13 : code_ 129 13 = some (.aload_n 0, 14, 0, 0, 0) := by decide +kernel
theorem cd_F_seen_14 : code_ 129 14 = some (.getfield 47, 17, 7, 5, 2) := by decide +kernel
theorem cd_F_seen_17 : code_ 129 17 = some (.iload_n 1, 18, 0, 0, 0) := by decide +kernel
theorem cd_F_seen_18 : code_ 129 18 = some (.iload_n 2, 19, 0, 0, 0) := by decide +kernel
theorem cd_F_seen_19 : code_ 129 19 = some (.invokevirtual 230, 22, 64, 1, 0) := by decide +kernel
theorem cd_F_seen_22 : code_ 129 22 = some (.ifCond .eq 13, 25, 35, 0, 0) := by decide +kernel
theorem cd_F_seen_25 : code_ 129 25 = some (.aload_n 0, 26, 0, 0, 0) := by decide +kernel
theorem cd_F_seen_26 : code_ 129 26 = some (.getfield 47, 29, 7, 5, 2) := by decide +kernel
theorem cd_F_seen_29 : code_ 129 29 = some (.invokevirtual 233, 32, 63, 1, 0) := by decide +kernel
theorem cd_F_seen_32 : code_ 129 32 = some (.goto 5, 35, 37, 0, 0) := by decide +kernel
theorem cd_F_seen_35 : code_ 129 35 = some (.bipush (-4), 37, 0, 0, 0) := by decide +kernel
theorem cd_F_seen_37 : code_ 129 37 = some (.ireturn, 38, 0, 0, 0) := by decide +kernel
theorem cd_F_forget_0 : code_ 130 0 = some (.aload_n 0, 1, 0, 0, 0) := by decide +kernel
theorem cd_F_forget_1 : code_ 130 1 = some (.getfield 47, 4, 7, 5, 2) := by decide +kernel
theorem cd_F_forget_4 : code_ 130 4 = some (.invokevirtual 233, 7, 63, 1, 0) := by decide +kernel
theorem cd_F_forget_7 : code_ 130 7 = some (.istore_n 1, 8, 0, 0, 0) := by decide +kernel
theorem cd_F_forget_8 : code_ 130 8 = some (.aload_n 0, 9, 0, 0, 0) := by decide +kernel
theorem cd_F_forget_9 : code_ 130 9 = some (.getfield 47, 12, 7, 5, 2) := by decide +kernel
theorem cd_F_forget_12 : code_ 130 12 = some (.invokevirtual 234, 15, 65, 1, 0) := by decide +kernel
theorem cd_F_forget_15 : code_ 130 15 = some (.iload_n 1, 16, 0, 0, 0) := by decide +kernel
theorem cd_F_forget_16 : code_ 130 16 = some (.ireturn, 17, 0, 0, 0) := by decide +kernel
theorem cd_F_fits_0 : code_ 131 0 = some (.aload_n 0, 1, 0, 0, 0) := by decide +kernel
theorem cd_F_fits_1 : code_ 131 1 = some (.getfield 47, 4, 7, 5, 2) := by decide +kernel
theorem cd_F_fits_4 : code_ 131 4 = some (.invokevirtual 235, 7, 67, 1, 0) := by decide +kernel
theorem cd_F_fits_7 : code_ 131 7 = some (.istore_n 2, 8, 0, 0, 0) := by decide +kernel
theorem cd_F_fits_8 : code_ 131 8 = some (.iload_n 1, 9, 0, 0, 0) := by decide +kernel
theorem cd_F_fits_9 : code_ 131 9 = some (.iconst (-1), 10, 0, 0, 0) := by decide +kernel
theorem cd_F_fits_10 : code_ 131 10 = some (.if_icmp .ne 7, 13, 17, 0, 0) := by decide +kernel
theorem cd_F_fits_13 : code_ 131 13 = some (.iload_n 2, 14, 0, 0, 0) := by decide +kernel
theorem cd_F_fits_14 : code_ 131 14 = some (.goto 11, 17, 25, 0, 0) := by decide +kernel
theorem cd_F_fits_17 : code_ 131 17 = some (.aload_n 0, 18, 0, 0, 0) := by decide +kernel
theorem cd_F_fits_18 : code_ 131 18 = some (.getfield 47, 21, 7, 5, 2) := by decide +kernel
theorem cd_F_fits_21 : code_ 131 21 = some (.iload_n 1, 22, 0, 0, 0) := by decide +kernel
theorem cd_F_fits_22 : code_ 131 22 = some (.invokevirtual 238, 25, 68, 1, 0) := by decide +kernel
theorem cd_F_fits_25 : code_ 131 25 = some (.ireturn, 26, 0, 0, 0) := by decide +kernel
theorem cd_F_ask_0 : code_ 132 0 = some (.iload_n 1, 1, 0, 0, 0) := by decide +kernel
theorem cd_F_ask_1 : code_ 132 1 = some (.invokestatic 109, 4, 141, 0, 0) := by decide +kernel
theorem cd_F_ask_4 : code_ 132 4 = some (.ifCond .ne 6, 7, 10, 0, 0) := by decide +kernel
theorem cd_F_ask_7 : code_ 132 7 = some (.bipush (-2), 9, 0, 0, 0) := by decide +kernel
theorem cd_F_ask_9 : code_ 132 9 = some (.ireturn, 10, 0, 0, 0) := by decide +kernel
theorem cd_F_ask_10 : code_ 132 10 = some (.aload_n 0, 11, 0, 0, 0) := by decide +kernel
theorem cd_F_ask_11 : code_ 132 11 = some (.getfield 47, 14, 7, 5, 2) := by decide +kernel
theorem cd_F_ask_14 : code_ 132 14 = some (.invokevirtual 235, 17, 67, 1, 0) := by decide +kernel
theorem cd_F_ask_17 : code_ 132 17 = some (.ifCond .ne 6, 20, 23, 0, 0) := by decide +kernel
theorem cd_F_ask_20 : code_ 132 20 = some (.bipush (-6), 22, 0, 0, 0) := by decide +kernel
theorem cd_F_ask_22 : code_ 132 22 = some (.ireturn, 23, 0, 0, 0) := by decide +kernel
theorem cd_F_ask_23 : code_ 132 23 = some (.aload_n 0, 24, 0, 0, 0) := by decide +kernel
theorem cd_F_ask_24 : code_ 132 24 = some (.getfield 47, 27, 7, 5, 2) := by decide +kernel
theorem cd_F_ask_27 : code_ 132 27 = some (.invokevirtual 241, 30, 69, 1, 0) := by decide +kernel
theorem cd_F_ask_30 : code_ 132 30 = some (.istore_n 2, 31, 0, 0, 0) := by decide +kernel
theorem cd_F_ask_31 : code_ 132 31 = some (.iload_n 1, 32, 0, 0, 0) := by decide +kernel
theorem cd_F_ask_32 : code_ 132 32 = some (.ifCond .ne 7, 35, 39, 0, 0) := by decide +kernel
theorem cd_F_ask_35 : code_ 132 35 = some (.iload_n 2, 36, 0, 0, 0) := by decide +kernel
theorem cd_F_ask_36 : code_ 132 36 = some (.goto 11, 39, 47, 0, 0) := by decide +kernel
theorem cd_F_ask_39 : code_ 132 39 = some (.aload_n 0, 40, 0, 0, 0) := by decide +kernel
theorem cd_F_ask_40 : code_ 132 40 = some (.getfield 47, 43, 7, 5, 2) := by decide +kernel
theorem cd_F_ask_43 : code_ 132 43 = some (.iload_n 2, 44, 0, 0, 0) := by decide +kernel
theorem cd_F_ask_44 : code_ 132 44 = some (.invokevirtual 244, 47, 70, 1, 0) := by decide +kernel
theorem cd_F_ask_47 : code_ 132 47 = some (.ireturn, 48, 0, 0, 0) := by decide +kernel
theorem cd_F_year_0 : code_ 133 0 = some (.iload_n 1, 1, 0, 0, 0) := by decide +kernel
theorem cd_F_year_1 : code_ 133 1 = some (.iconst 0, 2, 0, 0, 0) := by decide +kernel
theorem cd_F_year_2 : code_ 133 2 = some (.sipush 9999, 5, 0, 0, 0) := by decide +kernel
theorem cd_F_year_5 : code_ 133 5 = some (.invokestatic 74, 8, 140, 0, 0) := by decide +kernel
theorem cd_F_year_8 : code_ 133 8 = some (.ifCond .eq 22, 11, 30, 0, 0) := by decide +kernel
theorem cd_F_year_11 : code_ 133 11 = some (.iload_n 2, 12, 0, 0, 0) := by decide +kernel
theorem cd_F_year_12 : code_ 133 12 = some (.iconst 1, 13, 0, 0, 0) := by decide +kernel
theorem cd_F_year_13 : code_ 133 13 = some (.bipush 99, 15, 0, 0, 0) := by decide +kernel
theorem cd_F_year_15 : code_ 133 15 = some (.invokestatic 74, 18, 140, 0, 0) := by decide +kernel
theorem cd_F_year_18 : code_ 133 18 = some (.ifCond .eq 12, 21, 30, 0, 0) := by decide +kernel
theorem cd_F_year_21 : code_ 133 21 = some (.iload_n 3, 22, 0, 0, 0) := by decide +kernel
theorem cd_F_year_22 : code_ 133 22 = some (.iconst 0, 23, 0, 0, 0) := by decide +kernel
theorem cd_F_year_23 : code_ 133 23 = some (.iconst 2, 24, 0, 0, 0) := by decide +kernel
theorem cd_F_year_24 : code_ 133 24 = some (.invokestatic 74, 27, 140, 0, 0) := by decide +kernel
theorem cd_F_year_27 : code_ 133 27 = some (.ifCond .ne 6, 30, 33, 0, 0) := by decide +kernel
theorem cd_F_year_30 : code_ 133 30 = some (.bipush (-2), 32, 0, 0, 0) := by decide +kernel
theorem cd_F_year_32 : code_ 133 32 = some (.ireturn, 33, 0, 0, 0) := by decide +kernel
theorem cd_F_year_33 : code_ 133 33 = some (.aload_n 0, 34, 0, 0, 0) := by decide +kernel
theorem cd_F_year_34 : code_ 133 34 = some (.getfield 61, 37, 7, 8, 2) := by decide +kernel
theorem cd_F_year_37 : code_ 133 37 = some (.aload_n 0, 38, 0, 0, 0) := by decide +kernel
theorem cd_F_year_38 : code_ 133 38 = some (.getfield 10, 41, 7, 0, 2) := by decide +kernel
theorem cd_F_year_41 : code_ 133 41 = some (.invokevirtual 149, 44, 75, 1, 0) := by decide +kernel
theorem cd_F_year_44 : code_ 133 44 = some (.iload_n 1, 45, 0, 0, 0) := by decide +kernel
theorem cd_F_year_45 : code_ 133 45 = some (.istore 4, 47, 0, 0, 0) := by decide +kernel
theorem cd_F_year_47 : code_ 133 47 = some (.iconst 0, 48, 0, 0, 0) := by decide +kernel
theorem cd_F_year_48 : code_ 133 48 = some (.istore 5, 50, 0, 0, 0) := by decide +kernel
theorem cd_F_year_50 : code_ 133 50 = some (.iload 5, 52, 0, 0, 0) := by decide +kernel
theorem cd_F_year_52 : code_ 133 52 = some (.iload_n 2, 53, 0, 0, 0) := by decide +kernel
theorem cd_F_year_53 : code_ 133 53 = some (.if_icmp .ge 31, 56, 84, 0, 0) := by decide +kernel
theorem cd_F_year_56 : code_ 133 56 = some (.bipush 75, 58, 0, 0, 0) := by decide +kernel
theorem cd_F_year_58 : code_ 133 58 = some (.iload 4, 60, 0, 0, 0) := by decide +kernel
theorem cd_F_year_60 : code_ 133 60 = some (.imul, 61, 0, 0, 0) := by decide +kernel
theorem cd_F_year_61 : code_ 133 61 = some (.bipush 74, 63, 0, 0, 0) := by decide +kernel
theorem cd_F_year_63 : code_ 133 63 = some (.iadd, 64, 0, 0, 0) := by decide +kernel
theorem cd_F_year_64 : code_ 133 64 = some (.ldc 247, 66, 0, 0, 65537) := by decide +kernel
theorem cd_F_year_66 : code_ 133 66 = some (.irem, 67, 0, 0, 0) := by decide +kernel
theorem cd_F_year_67 : code_ 133 67 = some (.istore 4, 69, 0, 0, 0) := by decide +kernel
theorem cd_F_year_69 : code_ 133 69 = some (.aload_n 0, 70, 0, 0, 0) := by decide +kernel
theorem cd_F_year_70 : code_ 133 70 = some (.getfield 61, 73, 7, 8, 2) := by decide +kernel
theorem cd_F_year_73 : code_ 133 73 = some (.iload 4, 75, 0, 0, 0) := by decide +kernel
theorem cd_F_year_75 : code_ 133 75 = some (.invokevirtual 248, 78, 107, 1, 0) := by decide +kernel
theorem cd_F_year_78 : code_ 133 78 = some (.iinc 5 1, 81, 0, 0, 0) := by decide +kernel
theorem cd_F_year_81 : code_ 133 81 = some (.goto (-31), 84, 50, 0, 0) := by decide +kernel
theorem cd_F_year_84 : code_ 133 84 = some (.iload_n 3, 85, 0, 0, 0) := by decide +kernel
theorem cd_F_year_85 : code_ 133 85 = some (.lookupswitch 43 #[(0, 27), (1, 35)], 112, 0, 0, 0) := by decide +kernel
theorem cd_F_year_112 : code_ 133 112 = some (.aload_n 0, 113, 0, 0, 0) := by decide +kernel
theorem cd_F_year_113 : code_ 133 113 = some (.getfield 61, 116, 7, 8, 2) := by decide +kernel
theorem cd_F_year_116 : code_ 133 116 = some (.invokevirtual 251, 119, 80, 1, 0) := by decide +kernel
theorem cd_F_year_119 : code_ 133 119 = some (.ireturn, 120, 0, 0, 0) := by decide +kernel
theorem cd_F_year_120 : code_ 133 120 = some (.aload_n 0, 121, 0, 0, 0) := by decide +kernel
theorem cd_F_year_121 : code_ 133 121 = some (.getfield 61, 124, 7, 8, 2) := by decide +kernel
theorem cd_F_year_124 : code_ 133 124 = some (.invokevirtual 165, 127, 85, 1, 0) := by decide +kernel
theorem cd_F_year_127 : code_ 133 127 = some (.ireturn, 128, 0, 0, 0) := by decide +kernel
theorem cd_F_year_128 : code_ 133 128 = some (.aload_n 0, 129, 0, 0, 0) := by decide +kernel
theorem cd_F_year_129 : code_ 133 129 = some (.getfield 61, 132, 7, 8, 2) := by decide +kernel
theorem cd_F_year_132 : code_ 133 132 = some (.invokevirtual 156, 135, 87, 1, 0) := by decide +kernel
theorem cd_F_year_135 : code_ 133 135 = some (.ireturn, 136, 0, 0, 0) := by decide +kernel
theorem cd_F_image_0 : code_ 134 0 = some (.iload_n 1, 1, 0, 0, 0) := by decide +kernel
theorem cd_F_image_1 : code_ 134 1 = some (.invokestatic 109, 4, 141, 0, 0) := by decide +kernel
theorem cd_F_image_4 : code_ 134 4 = some (.ifCond .ne 6, 7, 10, 0, 0) := by decide +kernel
theorem cd_F_image_7 : code_ 134 7 = some (.bipush (-2), 9, 0, 0, 0) := by decide +kernel
theorem cd_F_image_9 : code_ 134 9 = some (.ireturn, 10, 0, 0, 0) := by decide +kernel
theorem cd_F_image_10 : code_ 134 10 = some (.aload_n 0, 11, 0, 0, 0) := by decide +kernel
theorem cd_F_image_11 : code_ 134 11 = some (.iload_n 1, 12, 0, 0, 0) := by decide +kernel
theorem cd_F_image_12 : code_ 134 12 = some (.invokevirtual 254, 15, 139, 1, 0) := by decide +kernel
theorem cd_F_image_15 : code_ 134 15 = some (.aload_n 0, 16, 0, 0, 0) := by decide +kernel
theorem cd_F_image_16 : code_ 134 16 = some (.getfield 10, 19, 7, 0, 2) := by decide +kernel
theorem cd_F_image_19 : code_ 134 19 = some (.aload_n 0, 20, 0, 0, 0) := by decide +kernel
theorem cd_F_image_20 : code_ 134 20 = some (.getfield 47, 23, 7, 5, 2) := by decide +kernel
theorem cd_F_image_23 : code_ 134 23 = some (.invokevirtual 258, 26, 26, 1, 0) := by decide +kernel
theorem cd_F_image_26 : code_ 134 26 = some (.iconst 1, 27, 0, 0, 0) := by decide +kernel
theorem cd_F_image_27 : code_ 134 27 = some (.ireturn, 28, 0, 0, 0) := by decide +kernel
theorem cd_F_restore_0 : code_ 135 0 = some (.iload_n 1, 1, 0, 0, 0) := by decide +kernel
theorem cd_F_restore_1 : code_ 135 1 = some (.invokestatic 109, 4, 141, 0, 0) := by decide +kernel
theorem cd_F_restore_4 : code_ 135 4 = some (.ifCond .ne 6, 7, 10, 0, 0) := by decide +kernel
theorem cd_F_restore_7 : code_ 135 7 = some (.bipush (-2), 9, 0, 0, 0) := by decide +kernel
theorem cd_F_restore_9 : code_ 135 9 = some (.ireturn, 10, 0, 0, 0) := by decide +kernel
theorem cd_F_restore_10 : code_ 135 10 = some (.aload_n 0, 11, 0, 0, 0) := by decide +kernel
theorem cd_F_restore_11 : code_ 135 11 = some (.iload_n 1, 12, 0, 0, 0) := by decide +kernel
theorem cd_F_restore_12 : code_ 135 12 = some (.invokevirtual 254, 15, 139, 1, 0) := by decide +kernel
theorem cd_F_restore_15 : code_ 135 15 = some (.aload_n 0, 16, 0, 0, 0) := by decide +kernel
theorem cd_F_restore_16 : code_ 135 16 = some (.getfield 10, 19, 7, 0, 2) := by decide +kernel
theorem cd_F_restore_19 : code_ 135 19 = some (.aload_n 0, 20, 0, 0, 0) := by decide +kernel
theorem cd_F_restore_20 : code_ 135 20 = some (.getfield 47, 23, 7, 5, 2) := by decide +kernel
theorem cd_F_restore_23 : code_ 135 23 = some (.invokevirtual 262, 26, 27, 1, 0) := by decide +kernel
theorem cd_F_restore_26 : code_ 135 26 = some (.ifCond .eq 7, 29, 33, 0, 0) := by decide +kernel
theorem cd_F_restore_29 : code_ 135 29 = some (.iconst 1, 30, 0, 0, 0) := by decide +kernel
theorem cd_F_restore_30 : code_ 135 30 = some (.goto 5, 33, 35, 0, 0) := by decide +kernel
theorem cd_F_restore_33 : code_ 135 33 = some (.bipush (-3), 35, 0, 0, 0) := by decide +kernel
theorem cd_F_restore_35 : code_ 135 35 = some (.ireturn, 36, 0, 0, 0) := by decide +kernel
theorem cd_F_told_0 : code_ 136 0 = some (.iload_n 1, 1, 0, 0, 0) := by decide +kernel
theorem cd_F_told_1 : code_ 136 1 = some (.tableswitch 87 0 5 #[39, 47, 55, 63, 71, 79], 40, 0, 0, 0) := by decide +kernel
theorem cd_F_told_40 : code_ 136 40 = some (.aload_n 0, 41, 0, 0, 0) := by decide +kernel
theorem cd_F_told_41 : code_ 136 41 = some (.getfield 19, 44, 7, 1, 2) := by decide +kernel
theorem cd_F_told_44 : code_ 136 44 = some (.invokevirtual 121, 47, 29, 1, 0) := by decide +kernel
theorem cd_F_told_47 : code_ 136 47 = some (.ireturn, 48, 0, 0, 0) := by decide +kernel
theorem cd_F_told_48 : code_ 136 48 = some (.aload_n 0, 49, 0, 0, 0) := by decide +kernel
theorem cd_F_told_49 : code_ 136 49 = some (.getfield 10, 52, 7, 0, 2) := by decide +kernel
theorem cd_F_told_52 : code_ 136 52 = some (.invokevirtual 266, 55, 81, 1, 0) := by decide +kernel
theorem cd_F_told_55 : code_ 136 55 = some (.ireturn, 56, 0, 0, 0) := by decide +kernel
theorem cd_F_told_56 : code_ 136 56 = some (.aload_n 0, 57, 0, 0, 0) := by decide +kernel
theorem cd_F_told_57 : code_ 136 57 = some (.getfield 10, 60, 7, 0, 2) := by decide +kernel
theorem cd_F_told_60 : code_ 136 60 = some (.invokevirtual 156, 63, 87, 1, 0) := by decide +kernel
theorem cd_F_told_63 : code_ 136 63 = some (.ireturn, 64, 0, 0, 0) := by decide +kernel
theorem cd_F_told_64 : code_ 136 64 = some (.aload_n 0, 65, 0, 0, 0) := by decide +kernel
theorem cd_F_told_65 : code_ 136 65 = some (.getfield 10, 68, 7, 0, 2) := by decide +kernel
theorem cd_F_told_68 : code_ 136 68 = some (.invokevirtual 159, 71, 88, 1, 0) := by decide +kernel
theorem cd_F_told_71 : code_ 136 71 = some (.ireturn, 72, 0, 0, 0) := by decide +kernel
theorem cd_F_told_72 : code_ 136 72 = some (.aload_n 0, 73, 0, 0, 0) := by decide +kernel
theorem cd_F_told_73 : code_ 136 73 = some (.getfield 10, 76, 7, 0, 2) := by decide +kernel
theorem cd_F_told_76 : code_ 136 76 = some (.invokevirtual 165, 79, 85, 1, 0) := by decide +kernel
theorem cd_F_told_79 : code_ 136 79 = some (.ireturn, 80, 0, 0, 0) := by decide +kernel
theorem cd_F_told_80 : code_ 136 80 = some (.aload_n 0, 81, 0, 0, 0) := by decide +kernel
theorem cd_F_told_81 : code_ 136 81 = some (.getfield 47, 84, 7, 5, 2) := by decide +kernel
theorem cd_F_told_84 : code_ 136 84 = some (.invokevirtual 233, 87, 63, 1, 0) := by decide +kernel
theorem cd_F_told_87 : code_ 136 87 = some (.ireturn, 88, 0, 0, 0) := by decide +kernel
theorem cd_F_told_88 : code_ 136 88 = some (.aload_n 0, 89, 0, 0, 0) := by decide +kernel
theorem cd_F_told_89 : code_ 136 89 = some (.iload_n 1, 90, 0, 0, 0) := by decide +kernel
theorem cd_F_told_90 : code_ 136 90 = some (.invokevirtual 269, 93, 137, 1, 0) := by decide +kernel
theorem cd_F_told_93 : code_ 136 93 = some (.ireturn, 94, 0, 0, 0) := by decide +kernel
theorem cd_F_toldByNumber_0 : code_ 137 0 = some (.iload_n 1, 1, 0, 0, 0) := by decide +kernel
theorem cd_F_toldByNumber_1 : code_ 137 1 = some (.bipush 10, 3, 0, 0, 0) := by decide +kernel
theorem cd_F_toldByNumber_3 : code_ 137 3 = some (.bipush 11, 5, 0, 0, 0) := by decide +kernel
theorem cd_F_toldByNumber_5 : code_ 137 5 = some (.invokestatic 74, 8, 140, 0, 0) := by decide +kernel
theorem cd_F_toldByNumber_8 : code_ 137 8 = some (.ifCond .eq 15, 11, 23, 0, 0) := by decide +kernel
theorem cd_F_toldByNumber_11 : code_ 137 11 = some (.aload_n 0, 12, 0, 0, 0) := by decide +kernel
theorem cd_F_toldByNumber_12 : code_ 137 12 = some (.getfield 10, 15, 7, 0, 2) := by decide +kernel
theorem cd_F_toldByNumber_15 : code_ 137 15 = some (.iload_n 1, 16, 0, 0, 0) := by decide +kernel
theorem cd_F_toldByNumber_16 : code_ 137 16 = some (.bipush 10, 18, 0, 0, 0) := by decide +kernel
theorem cd_F_toldByNumber_18 : code_ 137 18 = some (.isub, 19, 0, 0, 0) := by decide +kernel
theorem cd_F_toldByNumber_19 : code_ 137 19 = some (.invokevirtual 112, 22, 78, 1, 0) := by decide +kernel
theorem cd_F_toldByNumber_22 : code_ 137 22 = some (.ireturn, 23, 0, 0, 0) := by decide +kernel
theorem cd_F_toldByNumber_23 : code_ 137 23 = some (.iload_n 1, 24, 0, 0, 0) := by decide +kernel
theorem cd_F_toldByNumber_24 : code_ 137 24 = some (.bipush 20, 26, 0, 0, 0) := by decide +kernel
theorem cd_F_toldByNumber_26 : code_ 137 26 = some (.bipush 27, 28, 0, 0, 0) := by decide +kernel
theorem cd_F_toldByNumber_28 : code_ 137 28 = some (.invokestatic 74, 31, 140, 0, 0) := by decide +kernel
theorem cd_F_toldByNumber_31 : code_ 137 31 = some (.ifCond .eq 15, 34, 46, 0, 0) := by decide +kernel
theorem cd_F_toldByNumber_34 : code_ 137 34 = some (.aload_n 0, 35, 0, 0, 0) := by decide +kernel
theorem cd_F_toldByNumber_35 : code_ 137 35 = some (.getfield 10, 38, 7, 0, 2) := by decide +kernel
theorem cd_F_toldByNumber_38 : code_ 137 38 = some (.iload_n 1, 39, 0, 0, 0) := by decide +kernel
theorem cd_F_toldByNumber_39 : code_ 137 39 = some (.bipush 20, 41, 0, 0, 0) := by decide +kernel
theorem cd_F_toldByNumber_41 : code_ 137 41 = some (.isub, 42, 0, 0, 0) := by decide +kernel
theorem cd_F_toldByNumber_42 : code_ 137 42 = some (.invokevirtual 78, 45, 76, 1, 0) := by decide +kernel
theorem cd_F_toldByNumber_45 : code_ 137 45 = some (.ireturn, 46, 0, 0, 0) := by decide +kernel
theorem cd_F_toldByNumber_46 : code_ 137 46 = some (.iload_n 1, 47, 0, 0, 0) := by decide +kernel
theorem cd_F_toldByNumber_47 : code_ 137 47 = some (.bipush 100, 49, 0, 0, 0) := by decide +kernel
theorem cd_F_toldByNumber_49 : code_ 137 49 = some (.sipush 179, 52, 0, 0, 0) := by decide +kernel
theorem cd_F_toldByNumber_52 : code_ 137 52 = some (.invokestatic 74, 55, 140, 0, 0) := by decide +kernel
theorem cd_F_toldByNumber_55 : code_ 137 55 = some (.ifCond .ne 6, 58, 61, 0, 0) := by decide +kernel
theorem cd_F_toldByNumber_58 : code_ 137 58 = some (.bipush (-2), 60, 0, 0, 0) := by decide +kernel
theorem cd_F_toldByNumber_60 : code_ 137 60 = some (.ireturn, 61, 0, 0, 0) := by decide +kernel
theorem cd_F_toldByNumber_61 : code_ 137 61 = some (.iload_n 1, 62, 0, 0, 0) := by decide +kernel
theorem cd_F_toldByNumber_62 : code_ 137 62 = some (.bipush 100, 64, 0, 0, 0) := by decide +kernel
theorem cd_F_toldByNumber_64 : code_ 137 64 = some (.isub, 65, 0, 0, 0) := by decide +kernel
theorem cd_F_toldByNumber_65 : code_ 137 65 = some (.bipush 10, 67, 0, 0, 0) := by decide +kernel
theorem cd_F_toldByNumber_67 : code_ 137 67 = some (.idiv, 68, 0, 0, 0) := by decide +kernel
theorem cd_F_toldByNumber_68 : code_ 137 68 = some (.istore_n 2, 69, 0, 0, 0) := by decide +kernel
theorem cd_F_toldByNumber_69 : code_ 137 69 = some (.iload_n 1, 70, 0, 0, 0) := by decide +kernel
theorem cd_F_toldByNumber_70 : code_ 137 70 = some (.bipush 100, 72, 0, 0, 0) := by decide +kernel
theorem cd_F_toldByNumber_72 : code_ 137 72 = some (.isub, 73, 0, 0, 0) := by decide +kernel
theorem cd_F_toldByNumber_73 : code_ 137 73 = some (.bipush 10, 75, 0, 0, 0) := by decide +kernel
theorem cd_F_toldByNumber_75 : code_ 137 75 = some (.irem, 76, 0, 0, 0) := by decide +kernel
theorem cd_F_toldByNumber_76 : code_ 137 76 = some (.istore_n 3, 77, 0, 0, 0) := by decide +kernel
theorem cd_F_toldByNumber_77 : code_ 137 77 = some (.iload_n 2, 78, 0, 0, 0) := by decide +kernel
theorem cd_F_toldByNumber_78 : code_ 137 78 = some (.iload_n 3, 79, 0, 0, 0) := by decide +kernel
theorem cd_F_toldByNumber_79 : code_ 137 79 = some (.invokestatic 101, 82, 53, 0, 0) := by decide +kernel
theorem cd_F_toldByNumber_82 : code_ 137 82 = some (.ifCond .eq 15, 85, 97, 0, 0) := by decide +kernel
theorem cd_F_toldByNumber_85 : code_ 137 85 = some (.aload_n 0, 86, 0, 0, 0) := by decide +kernel
theorem cd_F_toldByNumber_86 : code_ 137 86 = some (.getfield 10, 89, 7, 0, 2) := by decide +kernel
theorem cd_F_toldByNumber_89 : code_ 137 89 = some (.iload_n 2, 90, 0, 0, 0) := by decide +kernel
theorem cd_F_toldByNumber_90 : code_ 137 90 = some (.iload_n 3, 91, 0, 0, 0) := by decide +kernel
theorem cd_F_toldByNumber_91 : code_ 137 91 = some (.invokevirtual 272, 94, 92, 1, 0) := by decide +kernel
theorem cd_F_toldByNumber_94 : code_ 137 94 = some (.goto 5, 97, 99, 0, 0) := by decide +kernel
theorem cd_F_toldByNumber_97 : code_ 137 97 = some (.bipush (-2), 99, 0, 0, 0) := by decide +kernel
theorem cd_F_toldByNumber_99 : code_ 137 99 = some (.ireturn, 100, 0, 0, 0) := by decide +kernel
theorem cd_F_playsThrough_0 : code_ 138 0 = some (.aload_n 0, 1, 0, 0, 0) := by decide +kernel
theorem cd_F_playsThrough_1 : code_ 138 1 = some (.getfield 19, 4, 7, 1, 2) := by decide +kernel
theorem cd_F_playsThrough_4 : code_ 138 4 = some (.invokevirtual 128, 7, 37, 1, 0) := by decide +kernel
theorem cd_F_playsThrough_7 : code_ 138 7 = some (.bipush (-6), 9, 0, 0, 0) := by decide +kernel
theorem cd_F_playsThrough_9 : code_ 138 9 = some (.if_icmp .eq 5, 12, 14, 0, 0) := by decide +kernel
theorem cd_F_playsThrough_12 : code_ 138 12 = some (.iconst 0, 13, 0, 0, 0) := by decide +kernel
theorem cd_F_playsThrough_13 : code_ 138 13 = some (.ireturn, 14, 0, 0, 0) := by decide +kernel
theorem cd_F_playsThrough_14 : code_ 138 14 = some (.aload_n 0, 15, 0, 0, 0) := by decide +kernel
theorem cd_F_playsThrough_15 : code_ 138 15 = some (.getfield 26, 18, 7, 2, 2) := by decide +kernel
theorem cd_F_playsThrough_18 : code_ 138 18 = some (.aload_n 0, 19, 0, 0, 0) := by decide +kernel
theorem cd_F_playsThrough_19 : code_ 138 19 = some (.getfield 10, 22, 7, 0, 2) := by decide +kernel
theorem cd_F_playsThrough_22 : code_ 138 22 = some (.aload_n 0, 23, 0, 0, 0) := by decide +kernel
theorem cd_F_playsThrough_23 : code_ 138 23 = some (.getfield 19, 26, 7, 1, 2) := by decide +kernel
theorem cd_F_playsThrough_26 : code_ 138 26 = some (.invokevirtual 131, 29, 19, 1, 0) := by decide +kernel
theorem cd_F_playsThrough_29 : code_ 138 29 = some (.aload_n 0, 30, 0, 0, 0) := by decide +kernel
theorem cd_F_playsThrough_30 : code_ 138 30 = some (.getfield 26, 33, 7, 2, 2) := by decide +kernel
theorem cd_F_playsThrough_33 : code_ 138 33 = some (.invokevirtual 135, 36, 16, 1, 0) := by decide +kernel
theorem cd_F_playsThrough_36 : code_ 138 36 = some (.bipush (-6), 38, 0, 0, 0) := by decide +kernel
theorem cd_F_playsThrough_38 : code_ 138 38 = some (.if_icmp .ne 7, 41, 45, 0, 0) := by decide +kernel
theorem cd_F_playsThrough_41 : code_ 138 41 = some (.iconst 1, 42, 0, 0, 0) := by decide +kernel
theorem cd_F_playsThrough_42 : code_ 138 42 = some (.goto 4, 45, 46, 0, 0) := by decide +kernel
theorem cd_F_playsThrough_45 : code_ 138 45 = some (.iconst 0, 46, 0, 0, 0) := by decide +kernel
theorem cd_F_playsThrough_46 : code_ 138 46 = some (.ireturn, 47, 0, 0, 0) := by decide +kernel
theorem cd_F_imageOf_0 : code_ 139 0 = some (.iload_n 1, 1, 0, 0, 0) := by decide +kernel
theorem cd_F_imageOf_1 : code_ 139 1 = some (.ifCond .ne 10, 4, 11, 0, 0) := by decide +kernel
theorem cd_F_imageOf_4 : code_ 139 4 = some (.aload_n 0, 5, 0, 0, 0) := by decide +kernel
theorem cd_F_imageOf_5 : code_ 139 5 = some (.getfield 54, 8, 7, 6, 2) := by decide +kernel
theorem cd_F_imageOf_8 : code_ 139 8 = some (.goto 7, 11, 15, 0, 0) := by decide +kernel
theorem cd_F_imageOf_11 : code_ 139 11 = some (.aload_n 0, 12, 0, 0, 0) := by decide +kernel
theorem cd_F_imageOf_12 : code_ 139 12 = some (.getfield 58, 15, 7, 7, 2) := by decide +kernel
theorem cd_F_imageOf_15 : code_ 139 15 = some (.areturn, 16, 0, 0, 0) := by decide +kernel
theorem cd_F_isWithin_0 : code_ 140 0 = some (.iload_n 0, 1, 0, 0, 0) := by decide +kernel
theorem cd_F_isWithin_1 : code_ 140 1 = some (.iload_n 1, 2, 0, 0, 0) := by decide +kernel
theorem cd_F_isWithin_2 : code_ 140 2 = some (.if_icmp .lt 12, 5, 14, 0, 0) := by decide +kernel
theorem cd_F_isWithin_5 : code_ 140 5 = some (.iload_n 0, 6, 0, 0, 0) := by decide +kernel
theorem cd_F_isWithin_6 : code_ 140 6 = some (.iload_n 2, 7, 0, 0, 0) := by decide +kernel
theorem cd_F_isWithin_7 : code_ 140 7 = some (.if_icmp .gt 7, 10, 14, 0, 0) := by decide +kernel
theorem cd_F_isWithin_10 : code_ 140 10 = some (.iconst 1, 11, 0, 0, 0) := by decide +kernel
theorem cd_F_isWithin_11 : code_ 140 11 = some (.goto 4, 14, 15, 0, 0) := by decide +kernel
theorem cd_F_isWithin_14 : code_ 140 14 = some (.iconst 0, 15, 0, 0, 0) := by decide +kernel
theorem cd_F_isWithin_15 : code_ 140 15 = some (.ireturn, 16, 0, 0, 0) := by decide +kernel
theorem cd_F_isBit_0 : code_ 141 0 = some (.iload_n 0, 1, 0, 0, 0) := by decide +kernel
theorem cd_F_isBit_1 : code_ 141 1 = some (.ifCond .eq 8, 4, 9, 0, 0) := by decide +kernel
theorem cd_F_isBit_4 : code_ 141 4 = some (.iload_n 0, 5, 0, 0, 0) := by decide +kernel
theorem cd_F_isBit_5 : code_ 141 5 = some (.iconst 1, 6, 0, 0, 0) := by decide +kernel
theorem cd_F_isBit_6 : code_ 141 6 = some (.if_icmp .ne 7, 9, 13, 0, 0) := by decide +kernel
theorem cd_F_isBit_9 : code_ 141 9 = some (.iconst 1, 10, 0, 0, 0) := by decide +kernel
theorem cd_F_isBit_10 : code_ 141 10 = some (.goto 4, 13, 14, 0, 0) := by decide +kernel
theorem cd_F_isBit_13 : code_ 141 13 = some (.iconst 0, 14, 0, 0, 0) := by decide +kernel
theorem cd_F_isBit_14 : code_ 141 14 = some (.ireturn, 15, 0, 0, 0) := by decide +kernel
theorem cd_F_isTenths_0 : code_ 142 0 = some (.iload_n 0, 1, 0, 0, 0) := by decide +kernel
theorem cd_F_isTenths_1 : code_ 142 1 = some (.iconst 0, 2, 0, 0, 0) := by decide +kernel
theorem cd_F_isTenths_2 : code_ 142 2 = some (.bipush 10, 4, 0, 0, 0) := by decide +kernel
theorem cd_F_isTenths_4 : code_ 142 4 = some (.invokestatic 74, 7, 140, 0, 0) := by decide +kernel
theorem cd_F_isTenths_7 : code_ 142 7 = some (.ireturn, 8, 0, 0, 0) := by decide +kernel
theorem cd_F_shotBit_0 : code_ 143 0 = some (.iconst 1, 1, 0, 0, 0) := by decide +kernel
theorem cd_F_shotBit_1 : code_ 143 1 = some (.iload_n 0, 2, 0, 0, 0) := by decide +kernel
theorem cd_F_shotBit_2 : code_ 143 2 = some (.bipush 9, 4, 0, 0, 0) := by decide +kernel
theorem cd_F_shotBit_4 : code_ 143 4 = some (.iadd, 5, 0, 0, 0) := by decide +kernel
theorem cd_F_shotBit_5 : code_ 143 5 = some (.ishl, 6, 0, 0, 0) := by decide +kernel
theorem cd_F_shotBit_6 : code_ 143 6 = some (.ireturn, 7, 0, 0, 0) := by decide +kernel
theorem cd_F_copyRow_0 : code_ 144 0 = some (.aload_n 0, 1, 0, 0, 0) := by decide +kernel
theorem cd_F_copyRow_1 : code_ 144 1 = some (.ifnull 7, 4, 8, 0, 0) := by decide +kernel
theorem cd_F_copyRow_4 : code_ 144 4 = some (.aload_n 1, 5, 0, 0, 0) := by decide +kernel
theorem cd_F_copyRow_5 : code_ 144 5 = some (.ifnonnull 4, 8, 9, 0, 0) := by decide +kernel
theorem cd_F_copyRow_8 : code_ 144 8 = some (.return_, 9, 0, 0, 0) := by decide +kernel
theorem cd_F_copyRow_9 : code_ 144 9 = some (.iconst 0, 10, 0, 0, 0) := by decide +kernel
theorem cd_F_copyRow_10 : code_ 144 10 = some (.istore_n 2, 11, 0, 0, 0) := by decide +kernel
theorem cd_F_copyRow_11 : code_ 144 11 = some (.iload_n 2, 12, 0, 0, 0) := by decide +kernel
theorem cd_F_copyRow_12 : code_ 144 12 = some (.aload_n 0, 13, 0, 0, 0) := by decide +kernel
theorem cd_F_copyRow_13 : code_ 144 13 = some (.arraylength, 14, 0, 0, 0) := by decide +kernel
theorem cd_F_copyRow_14 : code_ 144 14 = some (.if_icmp .ge 21, 17, 35, 0, 0) := by decide +kernel
theorem cd_F_copyRow_17 : code_ 144 17 = some (.iload_n 2, 18, 0, 0, 0) := by decide +kernel
theorem cd_F_copyRow_18 : code_ 144 18 = some (.aload_n 1, 19, 0, 0, 0) := by decide +kernel
theorem cd_F_copyRow_19 : code_ 144 19 = some (.arraylength, 20, 0, 0, 0) := by decide +kernel
theorem cd_F_copyRow_20 : code_ 144 20 = some (.if_icmp .ge 15, 23, 35, 0, 0) := by decide +kernel
theorem cd_F_copyRow_23 : code_ 144 23 = some (.aload_n 1, 24, 0, 0, 0) := by decide +kernel
theorem cd_F_copyRow_24 : code_ 144 24 = some (.iload_n 2, 25, 0, 0, 0) := by decide +kernel
theorem cd_F_copyRow_25 : code_ 144 25 = some (.aload_n 0, 26, 0, 0, 0) := by decide +kernel
theorem cd_F_copyRow_26 : code_ 144 26 = some (.iload_n 2, 27, 0, 0, 0) := by decide +kernel
theorem cd_F_copyRow_27 : code_ 144 27 = some (.iaload, 28, 0, 0, 0) := by decide +kernel
theorem cd_F_copyRow_28 : code_ 144 28 = some (.iastore, 29, 0, 0, 0) := by decide +kernel
theorem cd_F_copyRow_29 : code_ 144 29 = some (.iinc 2 1, 32, 0, 0, 0) := by decide +kernel
theorem cd_F_copyRow_32 : code_ 144 32 = some (.goto (-21), 35, 11, 0, 0) := by decide +kernel
theorem cd_F_copyRow_35 : code_ 144 35 = some (.return_, 36, 0, 0, 0) := by decide +kernel
theorem cd_M_init_0 : code_ 145 0 = some (.aload_n 0, 1, 0, 0, 0) := by decide +kernel
theorem cd_M_init_1 : code_ 145 1 = some (.invokespecial 1, 4, 0, 5, 0) := by decide +kernel
theorem cd_M_init_4 : code_ 145 4 = some (.aload_n 0, 5, 0, 0, 0) := by decide +kernel
theorem cd_M_init_5 : code_ 145 5 = some (.bipush 21, 7, 0, 0, 0) := by decide +kernel
theorem cd_M_init_7 : code_ 145 7 = some (.newarray .int, 9, 0, 0, 0) := by decide +kernel
theorem cd_M_init_9 : code_ 145 9 = some (.putfield 7, 12, 8, 0, 2) := by decide +kernel
theorem cd_M_init_12 : code_ 145 12 = some (.aload_n 0, 13, 0, 0, 0) := by decide +kernel
theorem cd_M_init_13 : code_ 145 13 = some (.bipush 21, 15, 0, 0, 0) := by decide +kernel
theorem cd_M_init_15 : code_ 145 15 = some (.newarray .int, 17, 0, 0, 0) := by decide +kernel
theorem cd_M_init_17 : code_ 145 17 = some (.putfield 13, 20, 8, 1, 2) := by decide +kernel
theorem cd_M_init_20 : code_ 145 20 = some (.aload_n 0, 21, 0, 0, 0) := by decide +kernel
theorem cd_M_init_21 : code_ 145 21 = some (.bipush 16, 23, 0, 0, 0) := by decide +kernel
theorem cd_M_init_23 : code_ 145 23 = some (.newarray .int, 25, 0, 0, 0) := by decide +kernel
theorem cd_M_init_25 : code_ 145 25 = some (.putfield 16, 28, 8, 3, 2) := by decide +kernel
theorem cd_M_init_28 : code_ 145 28 = some (.aload_n 0, 29, 0, 0, 0) := by decide +kernel
theorem cd_M_init_29 : code_ 145 29 = some (.bipush 60, 31, 0, 0, 0) := by decide +kernel
theorem cd_M_init_31 : code_ 145 31 = some (.newarray .int, 33, 0, 0, 0) := by decide +kernel
theorem cd_M_init_33 : code_ 145 33 = some (.putfield 19, 36, 8, 5, 2) := by decide +kernel
theorem cd_M_init_36 : code_ 145 36 = some (.aload_n 0, 37, 0, 0, 0) := by decide +kernel
theorem cd_M_init_37 : code_ 145 37 = some (.bipush 40, 39, 0, 0, 0) := by decide +kernel
theorem cd_M_init_39 : code_ 145 39 = some (.newarray .int, 41, 0, 0, 0) := by decide +kernel
theorem cd_M_init_41 : code_ 145 41 = some (.putfield 22, 44, 8, 12, 2) := by decide +kernel
theorem cd_M_init_44 : code_ 145 44 = some (.aload_n 0, 45, 0, 0, 0) := by decide +kernel
theorem cd_M_init_45 : code_ 145 45 = some (.bipush 16, 47, 0, 0, 0) := by decide +kernel
theorem cd_M_init_47 : code_ 145 47 = some (.newarray .int, 49, 0, 0, 0) := by decide +kernel
theorem cd_M_init_49 : code_ 145 49 = some (.putfield 25, 52, 8, 13, 2) := by decide +kernel
theorem cd_M_init_52 : code_ 145 52 = some (.aload_n 0, 53, 0, 0, 0) := by decide +kernel
theorem cd_M_init_53 : code_ 145 53 = some (.bipush 16, 55, 0, 0, 0) := by decide +kernel
theorem cd_M_init_55 : code_ 145 55 = some (.newarray .int, 57, 0, 0, 0) := by decide +kernel
theorem cd_M_init_57 : code_ 145 57 = some (.putfield 28, 60, 8, 14, 2) := by decide +kernel
theorem cd_M_init_60 : code_ 145 60 = some (.aload_n 0, 61, 0, 0, 0) := by decide +kernel
theorem cd_M_init_61 : code_ 145 61 = some (.bipush 121, 63, 0, 0, 0) := by decide +kernel
theorem cd_M_init_63 : code_ 145 63 = some (.newarray .long, 65, 0, 0, 0) := by decide +kernel
theorem cd_M_init_65 : code_ 145 65 = some (.putfield 31, 68, 8, 15, 2) := by decide +kernel
theorem cd_M_init_68 : code_ 145 68 = some (.aload_n 0, 69, 0, 0, 0) := by decide +kernel
theorem cd_M_init_69 : code_ 145 69 = some (.bipush 80, 71, 0, 0, 0) := by decide +kernel
theorem cd_M_init_71 : code_ 145 71 = some (.newarray .int, 73, 0, 0, 0) := by decide +kernel
theorem cd_M_init_73 : code_ 145 73 = some (.putfield 35, 76, 8, 16, 2) := by decide +kernel
theorem cd_M_init_76 : code_ 145 76 = some (.aload_n 0, 77, 0, 0, 0) := by decide +kernel
theorem cd_M_init_77 : code_ 145 77 = some (.iconst 2, 78, 0, 0, 0) := by decide +kernel
theorem cd_M_init_78 : code_ 145 78 = some (.newarray .boolean, 80, 0, 0, 0) := by decide +kernel
theorem cd_M_init_80 : code_ 145 80 = some (.putfield 38, 83, 8, 17, 2) := by decide +kernel
theorem cd_M_init_83 : code_ 145 83 = some (.iconst 0, 84, 0, 0, 0) := by decide +kernel
theorem cd_M_init_84 : code_ 145 84 = some (.istore_n 1, 85, 0, 0, 0) := by decide +kernel
theorem cd_M_init_85 : code_ 145 85 = some (.iload_n 1, 86, 0, 0, 0) := by decide +kernel
theorem cd_M_init_86 : code_ 145 86 = some (.bipush 8, 88, 0, 0, 0) := by decide +kernel
theorem cd_M_init_88 : code_ 145 88 = some (.if_icmp .ge 21, 91, 109, 0, 0) := by decide +kernel
theorem cd_M_init_91 : code_ 145 91 = some (.aload_n 0, 92, 0, 0, 0) := by decide +kernel
theorem cd_M_init_92 : code_ 145 92 = some (.getfield 7, 95, 8, 0, 2) := by decide +kernel
theorem cd_M_init_95 : code_ 145 95 = some (.iload_n 1, 96, 0, 0, 0) := by decide +kernel
theorem cd_M_init_96 : code_ 145 96 = some (.iload_n 1, 97, 0, 0, 0) := by decide +kernel
theorem cd_M_init_97 : code_ 145 97 = some (.invokestatic 42, 100, 153, 0, 0) := by decide +kernel
theorem cd_M_init_100 : code_ 145 100 = some (.iconst 2, 101, 0, 0, 0) := by decide +kernel
theorem cd_M_init_101 : code_ 145 101 = some (.idiv, 102, 0, 0, 0) := by decide +kernel
theorem cd_M_init_102 : code_ 145 102 = some (.iastore, 103, 0, 0, 0) := by decide +kernel
theorem cd_M_init_103 : code_ 145 103 = some (.iinc 1 1, 106, 0, 0, 0) := by decide +kernel
theorem cd_M_init_106 : code_ 145 106 = some (.goto (-21), 109, 85, 0, 0) := by decide +kernel
theorem cd_M_init_109 : code_ 145 109 = some (.aload_n 0, 110, 0, 0, 0) := by decide +kernel
theorem cd_M_init_110 : code_ 145 110 = some (.getfield 7, 113, 8, 0, 2) := by decide +kernel
theorem cd_M_init_113 : code_ 145 113 = some (.bipush 16, 115, 0, 0, 0) := by decide +kernel
theorem cd_M_init_115 : code_ 145 115 = some (.bipush (-6), 117, 0, 0, 0) := by decide +kernel
theorem cd_M_init_117 : code_ 145 117 = some (.iastore, 118, 0, 0, 0) := by decide +kernel
theorem cd_M_init_118 : code_ 145 118 = some (.aload_n 0, 119, 0, 0, 0) := by decide +kernel
theorem cd_M_init_119 : code_ 145 119 = some (.getfield 7, 122, 8, 0, 2) := by decide +kernel
theorem cd_M_init_122 : code_ 145 122 = some (.bipush 17, 124, 0, 0, 0) := by decide +kernel
theorem cd_M_init_124 : code_ 145 124 = some (.bipush (-6), 126, 0, 0, 0) := by decide +kernel
theorem cd_M_init_126 : code_ 145 126 = some (.iastore, 127, 0, 0, 0) := by decide +kernel
theorem cd_M_init_127 : code_ 145 127 = some (.return_, 128, 0, 0, 0) := by decide +kernel
theorem cd_M_in_0 : code_ 146 0 = some (.iload_n 0, 1, 0, 0, 0) := by decide +kernel
theorem cd_M_in_1 : code_ 146 1 = some (.iload_n 1, 2, 0, 0, 0) := by decide +kernel
theorem cd_M_in_2 : code_ 146 2 = some (.if_icmp .lt 12, 5, 14, 0, 0) := by decide +kernel
theorem cd_M_in_5 : code_ 146 5 = some (.iload_n 0, 6, 0, 0, 0) := by decide +kernel
theorem cd_M_in_6 : code_ 146 6 = some (.iload_n 2, 7, 0, 0, 0) := by decide +kernel
theorem cd_M_in_7 : code_ 146 7 = some (.if_icmp .gt 7, 10, 14, 0, 0) := by decide +kernel
theorem cd_M_in_10 : code_ 146 10 = some (.iconst 1, 11, 0, 0, 0) := by decide +kernel
theorem cd_M_in_11 : code_ 146 11 = some (.goto 4, 14, 15, 0, 0) := by decide +kernel
theorem cd_M_in_14 : code_ 146 14 = some (.iconst 0, 15, 0, 0, 0) := by decide +kernel
theorem cd_M_in_15 : code_ 146 15 = some (.ireturn, 16, 0, 0, 0) := by decide +kernel
theorem cd_M_bits_0 : code_ 147 0 = some (.iconst 0, 1, 0, 0, 0) := by decide +kernel
theorem cd_M_bits_1 : code_ 147 1 = some (.istore_n 1, 2, 0, 0, 0) := by decide +kernel
theorem cd_M_bits_2 : code_ 147 2 = some (.iconst 0, 3, 0, 0, 0) := by decide +kernel
theorem cd_M_bits_3 : code_ 147 3 = some (.istore_n 2, 4, 0, 0, 0) := by decide +kernel
theorem cd_M_bits_4 : code_ 147 4 = some (.iload_n 2, 5, 0, 0, 0) := by decide +kernel
theorem cd_M_bits_5 : code_ 147 5 = some (.bipush 19, 7, 0, 0, 0) := by decide +kernel
theorem cd_M_bits_7 : code_ 147 7 = some (.if_icmp .ge 17, 10, 24, 0, 0) := by decide +kernel
theorem cd_M_bits_10 : code_ 147 10 = some (.iload_n 1, 11, 0, 0, 0) := by decide +kernel
theorem cd_M_bits_11 : code_ 147 11 = some (.iload_n 0, 12, 0, 0, 0) := by decide +kernel
theorem cd_M_bits_12 : code_ 147 12 = some (.iload_n 2, 13, 0, 0, 0) := by decide +kernel
theorem cd_M_bits_13 : code_ 147 13 = some (.ishr, 14, 0, 0, 0) := by decide +kernel
theorem cd_M_bits_14 : code_ 147 14 = some (.iconst 1, 15, 0, 0, 0) := by decide +kernel
theorem cd_M_bits_15 : code_ 147 15 = some (.iand, 16, 0, 0, 0) := by decide +kernel
theorem cd_M_bits_16 : code_ 147 16 = some (.iadd, 17, 0, 0, 0) := by decide +kernel
theorem cd_M_bits_17 : code_ 147 17 = some (.istore_n 1, 18, 0, 0, 0) := by decide +kernel
theorem cd_M_bits_18 : code_ 147 18 = some (.iinc 2 1, 21, 0, 0, 0) := by decide +kernel
theorem cd_M_bits_21 : code_ 147 21 = some (.goto (-17), 24, 4, 0, 0) := by decide +kernel
theorem cd_M_bits_24 : code_ 147 24 = some (.iload_n 1, 25, 0, 0, 0) := by decide +kernel
theorem cd_M_bits_25 : code_ 147 25 = some (.ireturn, 26, 0, 0, 0) := by decide +kernel
theorem cd_M_isRod_0 : code_ 148 0 = some (.iload_n 0, 1, 0, 0, 0) := by decide +kernel
theorem cd_M_isRod_1 : code_ 148 1 = some (.iconst 0, 2, 0, 0, 0) := by decide +kernel
theorem cd_M_isRod_2 : code_ 148 2 = some (.bipush 7, 4, 0, 0, 0) := by decide +kernel
theorem cd_M_isRod_4 : code_ 148 4 = some (.invokestatic 46, 7, 146, 0, 0) := by decide +kernel
theorem cd_M_isRod_7 : code_ 148 7 = some (.ireturn, 8, 0, 0, 0) := by decide +kernel
theorem cd_M_sideOf_0 : code_ 149 0 = some (.iload_n 0, 1, 0, 0, 0) := by decide +kernel
theorem cd_M_sideOf_1 : code_ 149 1 = some (.ifCond .eq 18, 4, 19, 0, 0) := by decide +kernel
theorem cd_M_sideOf_4 : code_ 149 4 = some (.iload_n 0, 5, 0, 0, 0) := by decide +kernel
theorem cd_M_sideOf_5 : code_ 149 5 = some (.iconst 1, 6, 0, 0, 0) := by decide +kernel
theorem cd_M_sideOf_6 : code_ 149 6 = some (.if_icmp .eq 13, 9, 19, 0, 0) := by decide +kernel
theorem cd_M_sideOf_9 : code_ 149 9 = some (.iload_n 0, 10, 0, 0, 0) := by decide +kernel
theorem cd_M_sideOf_10 : code_ 149 10 = some (.iconst 3, 11, 0, 0, 0) := by decide +kernel
theorem cd_M_sideOf_11 : code_ 149 11 = some (.if_icmp .eq 8, 14, 19, 0, 0) := by decide +kernel
theorem cd_M_sideOf_14 : code_ 149 14 = some (.iload_n 0, 15, 0, 0, 0) := by decide +kernel
theorem cd_M_sideOf_15 : code_ 149 15 = some (.iconst 5, 16, 0, 0, 0) := by decide +kernel
theorem cd_M_sideOf_16 : code_ 149 16 = some (.if_icmp .ne 7, 19, 23, 0, 0) := by decide +kernel
theorem cd_M_sideOf_19 : code_ 149 19 = some (.iconst 0, 20, 0, 0, 0) := by decide +kernel
theorem cd_M_sideOf_20 : code_ 149 20 = some (.goto 4, 23, 24, 0, 0) := by decide +kernel
theorem cd_M_sideOf_23 : code_ 149 23 = some (.iconst 1, 24, 0, 0, 0) := by decide +kernel
theorem cd_M_sideOf_24 : code_ 149 24 = some (.ireturn, 25, 0, 0, 0) := by decide +kernel
theorem cd_M_kindOf_0 : code_ 150 0 = some (.iload_n 0, 1, 0, 0, 0) := by decide +kernel
theorem cd_M_kindOf_1 : code_ 150 1 = some (.invokestatic 50, 4, 149, 0, 0) := by decide +kernel
theorem cd_M_kindOf_4 : code_ 150 4 = some (.ifCond .ne 7, 7, 11, 0, 0) := by decide +kernel
theorem cd_M_kindOf_7 : code_ 150 7 = some (.iload_n 0, 8, 0, 0, 0) := by decide +kernel
theorem cd_M_kindOf_8 : code_ 150 8 = some (.goto 7, 11, 15, 0, 0) := by decide +kernel
theorem cd_M_kindOf_11 : code_ 150 11 = some (.bipush 7, 13, 0, 0, 0) := by decide +kernel
theorem cd_M_kindOf_13 : code_ 150 13 = some (.iload_n 0, 14, 0, 0, 0) := by decide +kernel
theorem cd_M_kindOf_14 : code_ 150 14 = some (.isub, 15, 0, 0, 0) := by decide +kernel
theorem cd_M_kindOf_15 : code_ 150 15 = some (.istore_n 1, 16, 0, 0, 0) := by decide +kernel
theorem cd_M_kindOf_16 : code_ 150 16 = some (.iload_n 1, 17, 0, 0, 0) := by decide +kernel
theorem cd_M_kindOf_17 : code_ 150 17 = some (.iconst 2, 18, 0, 0, 0) := by decide +kernel
theorem cd_M_kindOf_18 : code_ 150 18 = some (.if_icmp .ge 7, 21, 25, 0, 0) := by decide +kernel
theorem cd_M_kindOf_21 : code_ 150 21 = some (.iload_n 1, 22, 0, 0, 0) := by decide +kernel
theorem cd_M_kindOf_22 : code_ 150 22 = some (.goto 13, 25, 35, 0, 0) := by decide +kernel
theorem cd_M_kindOf_25 : code_ 150 25 = some (.iload_n 1, 26, 0, 0, 0) := by decide +kernel
theorem cd_M_kindOf_26 : code_ 150 26 = some (.iconst 3, 27, 0, 0, 0) := by decide +kernel
theorem cd_M_kindOf_27 : code_ 150 27 = some (.if_icmp .ne 7, 30, 34, 0, 0) := by decide +kernel
theorem cd_M_kindOf_30 : code_ 150 30 = some (.iconst 2, 31, 0, 0, 0) := by decide +kernel
theorem cd_M_kindOf_31 : code_ 150 31 = some (.goto 4, 34, 35, 0, 0) := by decide +kernel
theorem cd_M_kindOf_34 : code_ 150 34 = some (.iconst 3, 35, 0, 0, 0) := by decide +kernel
theorem cd_M_kindOf_35 : code_ 150 35 = some (.ireturn, 36, 0, 0, 0) := by decide +kernel
theorem cd_M_menOf_0 : code_ 151 0 = some (.iload_n 0, 1, 0, 0, 0) := by decide +kernel
theorem cd_M_menOf_1 : code_ 151 1 = some (.invokestatic 53, 4, 150, 0, 0) := by decide +kernel
theorem cd_M_menOf_4 : code_ 151 4 = some (.istore_n 1, 5, 0, 0, 0) := by decide +kernel
theorem cd_M_menOf_5 : code_ 151 5 = some (.iload_n 1, 6, 0, 0, 0) := by decide +kernel
theorem cd_M_menOf_6 : code_ 151 6 = some (.ifCond .ne 7, 9, 13, 0, 0) := by decide +kernel
theorem cd_M_menOf_9 : code_ 151 9 = some (.iconst 1, 10, 0, 0, 0) := by decide +kernel
theorem cd_M_menOf_10 : code_ 151 10 = some (.goto 22, 13, 32, 0, 0) := by decide +kernel
theorem cd_M_menOf_13 : code_ 151 13 = some (.iload_n 1, 14, 0, 0, 0) := by decide +kernel
theorem cd_M_menOf_14 : code_ 151 14 = some (.iconst 1, 15, 0, 0, 0) := by decide +kernel
theorem cd_M_menOf_15 : code_ 151 15 = some (.if_icmp .ne 7, 18, 22, 0, 0) := by decide +kernel
theorem cd_M_menOf_18 : code_ 151 18 = some (.iconst 2, 19, 0, 0, 0) := by decide +kernel
theorem cd_M_menOf_19 : code_ 151 19 = some (.goto 13, 22, 32, 0, 0) := by decide +kernel
theorem cd_M_menOf_22 : code_ 151 22 = some (.iload_n 1, 23, 0, 0, 0) := by decide +kernel
theorem cd_M_menOf_23 : code_ 151 23 = some (.iconst 2, 24, 0, 0, 0) := by decide +kernel
theorem cd_M_menOf_24 : code_ 151 24 = some (.if_icmp .ne 7, 27, 31, 0, 0) := by decide +kernel
theorem cd_M_menOf_27 : code_ 151 27 = some (.iconst 5, 28, 0, 0, 0) := by decide +kernel
theorem cd_M_menOf_28 : code_ 151 28 = some (.goto 4, 31, 32, 0, 0) := by decide +kernel
theorem cd_M_menOf_31 : code_ 151 31 = some (.iconst 3, 32, 0, 0, 0) := by decide +kernel
theorem cd_M_menOf_32 : code_ 151 32 = some (.ireturn, 33, 0, 0, 0) := by decide +kernel
theorem cd_M_apartOf_0 : code_ 152 0 = some (.iload_n 0, 1, 0, 0, 0) := by decide +kernel
theorem cd_M_apartOf_1 : code_ 152 1 = some (.invokestatic 53, 4, 150, 0, 0) := by decide +kernel
theorem cd_M_apartOf_4 : code_ 152 4 = some (.istore_n 1, 5, 0, 0, 0) := by decide +kernel
theorem cd_M_apartOf_5 : code_ 152 5 = some (.iload_n 1, 6, 0, 0, 0) := by decide +kernel
theorem cd_M_apartOf_6 : code_ 152 6 = some (.ifCond .ne 7, 9, 13, 0, 0) := by decide +kernel
theorem cd_M_apartOf_9 : code_ 152 9 = some (.iconst 0, 10, 0, 0, 0) := by decide +kernel
theorem cd_M_apartOf_10 : code_ 152 10 = some (.goto 25, 13, 35, 0, 0) := by decide +kernel
theorem cd_M_apartOf_13 : code_ 152 13 = some (.iload_n 1, 14, 0, 0, 0) := by decide +kernel
theorem cd_M_apartOf_14 : code_ 152 14 = some (.iconst 1, 15, 0, 0, 0) := by decide +kernel
theorem cd_M_apartOf_15 : code_ 152 15 = some (.if_icmp .ne 8, 18, 23, 0, 0) := by decide +kernel
theorem cd_M_apartOf_18 : code_ 152 18 = some (.bipush 16, 20, 0, 0, 0) := by decide +kernel
theorem cd_M_apartOf_20 : code_ 152 20 = some (.goto 15, 23, 35, 0, 0) := by decide +kernel
theorem cd_M_apartOf_23 : code_ 152 23 = some (.iload_n 1, 24, 0, 0, 0) := by decide +kernel
theorem cd_M_apartOf_24 : code_ 152 24 = some (.iconst 2, 25, 0, 0, 0) := by decide +kernel
theorem cd_M_apartOf_25 : code_ 152 25 = some (.if_icmp .ne 8, 28, 33, 0, 0) := by decide +kernel
theorem cd_M_apartOf_28 : code_ 152 28 = some (.bipush 8, 30, 0, 0, 0) := by decide +kernel
theorem cd_M_apartOf_30 : code_ 152 30 = some (.goto 5, 33, 35, 0, 0) := by decide +kernel
theorem cd_M_apartOf_33 : code_ 152 33 = some (.bipush 12, 35, 0, 0, 0) := by decide +kernel
theorem cd_M_apartOf_35 : code_ 152 35 = some (.ireturn, 36, 0, 0, 0) := by decide +kernel
theorem cd_M_widest_0 : code_ 153 0 = some (.bipush 40, 2, 0, 0, 0) := by decide +kernel
theorem cd_M_widest_2 : code_ 153 2 = some (.iload_n 0, 3, 0, 0, 0) := by decide +kernel
theorem cd_M_widest_3 : code_ 153 3 = some (.invokestatic 56, 6, 151, 0, 0) := by decide +kernel
theorem cd_M_widest_6 : code_ 153 6 = some (.iconst 1, 7, 0, 0, 0) := by decide +kernel
theorem cd_M_widest_7 : code_ 153 7 = some (.isub, 8, 0, 0, 0) := by decide +kernel
theorem cd_M_widest_8 : code_ 153 8 = some (.iload_n 0, 9, 0, 0, 0) := by decide +kernel
theorem cd_M_widest_9 : code_ 153 9 = some (.invokestatic 59, 12, 152, 0, 0) := by decide +kernel
theorem cd_M_widest_12 : code_ 153 12 = some (.imul, 13, 0, 0, 0) := by decide +kernel
theorem cd_M_widest_13 : code_ 153 13 = some (.isub, 14, 0, 0, 0) := by decide +kernel
theorem cd_M_widest_14 : code_ 153 14 = some (.ireturn, 15, 0, 0, 0) := by decide +kernel
theorem cd_M_isMan_0 : code_ 154 0 = some (.iload_n 0, 1, 0, 0, 0) := by decide +kernel
theorem cd_M_isMan_1 : code_ 154 1 = some (.invokestatic 62, 4, 148, 0, 0) := by decide +kernel
theorem cd_M_isMan_4 : code_ 154 4 = some (.ifCond .eq 21, 7, 25, 0, 0) := by decide +kernel
theorem cd_M_isMan_7 : code_ 154 7 = some (.iload_n 1, 8, 0, 0, 0) := by decide +kernel
theorem cd_M_isMan_8 : code_ 154 8 = some (.iconst 0, 9, 0, 0, 0) := by decide +kernel
theorem cd_M_isMan_9 : code_ 154 9 = some (.iload_n 0, 10, 0, 0, 0) := by decide +kernel
theorem cd_M_isMan_10 : code_ 154 10 = some (.invokestatic 56, 13, 151, 0, 0) := by decide +kernel
theorem cd_M_isMan_13 : code_ 154 13 = some (.iconst 1, 14, 0, 0, 0) := by decide +kernel
theorem cd_M_isMan_14 : code_ 154 14 = some (.isub, 15, 0, 0, 0) := by decide +kernel
theorem cd_M_isMan_15 : code_ 154 15 = some (.invokestatic 46, 18, 146, 0, 0) := by decide +kernel
theorem cd_M_isMan_18 : code_ 154 18 = some (.ifCond .eq 7, 21, 25, 0, 0) := by decide +kernel
theorem cd_M_isMan_21 : code_ 154 21 = some (.iconst 1, 22, 0, 0, 0) := by decide +kernel
theorem cd_M_isMan_22 : code_ 154 22 = some (.goto 4, 25, 26, 0, 0) := by decide +kernel
theorem cd_M_isMan_25 : code_ 154 25 = some (.iconst 0, 26, 0, 0, 0) := by decide +kernel
theorem cd_M_isMan_26 : code_ 154 26 = some (.ireturn, 27, 0, 0, 0) := by decide +kernel
theorem cd_M_held_0 : code_ 155 0 = some (.iconst 0, 1, 0, 0, 0) := by decide +kernel
theorem cd_M_held_1 : code_ 155 1 = some (.istore_n 3, 2, 0, 0, 0) := by decide +kernel
theorem cd_M_held_2 : code_ 155 2 = some (.iconst 0, 3, 0, 0, 0) := by decide +kernel
theorem cd_M_held_3 : code_ 155 3 = some (.istore 4, 5, 0, 0, 0) := by decide +kernel
theorem cd_M_held_5 : code_ 155 5 = some (.iload 4, 7, 0, 0, 0) := by decide +kernel
theorem cd_M_held_7 : code_ 155 7 = some (.bipush 8, 9, 0, 0, 0) := by decide +kernel
theorem cd_M_held_9 : code_ 155 9 = some (.if_icmp .ge 41, 12, 50, 0, 0) := by decide +kernel
theorem cd_M_held_12 : code_ 155 12 = some (.iload_n 3, 13, 0, 0, 0) := by decide +kernel
theorem cd_M_held_13 : code_ 155 13 = some (.iload 4, 15, 0, 0, 0) := by decide +kernel
theorem cd_M_held_15 : code_ 155 15 = some (.invokestatic 50, 18, 149, 0, 0) := by decide +kernel
theorem cd_M_held_18 : code_ 155 18 = some (.iload_n 1, 19, 0, 0, 0) := by decide +kernel
theorem cd_M_held_19 : code_ 155 19 = some (.if_icmp .ne 22, 22, 41, 0, 0) := by decide +kernel
theorem cd_M_held_22 : code_ 155 22 = some (.iload 4, 24, 0, 0, 0) := by decide +kernel
theorem cd_M_held_24 : code_ 155 24 = some (.iload_n 2, 25, 0, 0, 0) := by decide +kernel
theorem cd_M_held_25 : code_ 155 25 = some (.if_icmp .eq 16, 28, 41, 0, 0) := by decide +kernel
theorem cd_M_held_28 : code_ 155 28 = some (.aload_n 0, 29, 0, 0, 0) := by decide +kernel
theorem cd_M_held_29 : code_ 155 29 = some (.getfield 13, 32, 8, 1, 2) := by decide +kernel
theorem cd_M_held_32 : code_ 155 32 = some (.bipush 8, 34, 0, 0, 0) := by decide +kernel
theorem cd_M_held_34 : code_ 155 34 = some (.iload 4, 36, 0, 0, 0) := by decide +kernel
theorem cd_M_held_36 : code_ 155 36 = some (.iadd, 37, 0, 0, 0) := by decide +kernel
theorem cd_M_held_37 : code_ 155 37 = some (.iaload, 38, 0, 0, 0) := by decide +kernel
theorem cd_M_held_38 : code_ 155 38 = some (.goto 4, 41, 42, 0, 0) := by decide +kernel
theorem cd_M_held_41 : code_ 155 41 = some (.iconst 0, 42, 0, 0, 0) := by decide +kernel
theorem cd_M_held_42 : code_ 155 42 = some (.iadd, 43, 0, 0, 0) := by decide +kernel
theorem cd_M_held_43 : code_ 155 43 = some (.istore_n 3, 44, 0, 0, 0) := by decide +kernel
theorem cd_M_held_44 : code_ 155 44 = some (.iinc 4 1, 47, 0, 0, 0) := by decide +kernel
theorem cd_M_held_47 : code_ 155 47 = some (.goto (-42), 50, 5, 0, 0) := by decide +kernel
theorem cd_M_held_50 : code_ 155 50 = some (.iload_n 3, 51, 0, 0, 0) := by decide +kernel
theorem cd_M_held_51 : code_ 155 51 = some (.ireturn, 52, 0, 0, 0) := by decide +kernel
theorem cd_M_slide_0 : code_ 156 0 = some (.iload_n 1, 1, 0, 0, 0) := by decide +kernel
theorem cd_M_slide_1 : code_ 156 1 = some (.invokestatic 62, 4, 148, 0, 0) := by decide +kernel
theorem cd_M_slide_4 : code_ 156 4 = some (.ifCond .ne 5, 7, 9, 0, 0) := by decide +kernel
theorem cd_M_slide_7 : code_ 156 7 = some (.iconst (-1), 8, 0, 0, 0) := by decide +kernel
theorem cd_M_slide_8 : code_ 156 8 = some (.ireturn, 9, 0, 0, 0) := by decide +kernel
theorem cd_M_slide_9 : code_ 156 9 = some (.iload_n 2, 10, 0, 0, 0) := by decide +kernel
theorem cd_M_slide_10 : code_ 156 10 = some (.iconst 0, 11, 0, 0, 0) := by decide +kernel
theorem cd_M_slide_11 : code_ 156 11 = some (.iload_n 1, 12, 0, 0, 0) := by decide +kernel
theorem cd_M_slide_12 : code_ 156 12 = some (.invokestatic 42, 15, 153, 0, 0) := by decide +kernel
theorem cd_M_slide_15 : code_ 156 15 = some (.invokestatic 46, 18, 146, 0, 0) := by decide +kernel
theorem cd_M_slide_18 : code_ 156 18 = some (.ifCond .ne 6, 21, 24, 0, 0) := by decide +kernel
theorem cd_M_slide_21 : code_ 156 21 = some (.bipush (-2), 23, 0, 0, 0) := by decide +kernel
theorem cd_M_slide_23 : code_ 156 23 = some (.ireturn, 24, 0, 0, 0) := by decide +kernel
theorem cd_M_slide_24 : code_ 156 24 = some (.aload_n 0, 25, 0, 0, 0) := by decide +kernel
theorem cd_M_slide_25 : code_ 156 25 = some (.getfield 7, 28, 8, 0, 2) := by decide +kernel
theorem cd_M_slide_28 : code_ 156 28 = some (.iload_n 1, 29, 0, 0, 0) := by decide +kernel
theorem cd_M_slide_29 : code_ 156 29 = some (.iaload, 30, 0, 0, 0) := by decide +kernel
theorem cd_M_slide_30 : code_ 156 30 = some (.istore_n 3, 31, 0, 0, 0) := by decide +kernel
theorem cd_M_slide_31 : code_ 156 31 = some (.aload_n 0, 32, 0, 0, 0) := by decide +kernel
theorem cd_M_slide_32 : code_ 156 32 = some (.getfield 7, 35, 8, 0, 2) := by decide +kernel
theorem cd_M_slide_35 : code_ 156 35 = some (.iload_n 1, 36, 0, 0, 0) := by decide +kernel
theorem cd_M_slide_36 : code_ 156 36 = some (.iload_n 2, 37, 0, 0, 0) := by decide +kernel
theorem cd_M_slide_37 : code_ 156 37 = some (.iastore, 38, 0, 0, 0) := by decide +kernel
theorem cd_M_slide_38 : code_ 156 38 = some (.iload_n 3, 39, 0, 0, 0) := by decide +kernel
theorem cd_M_slide_39 : code_ 156 39 = some (.ireturn, 40, 0, 0, 0) := by decide +kernel
theorem cd_M_hold_0 : code_ 157 0 = some (.iload_n 1, 1, 0, 0, 0) := by decide +kernel
theorem cd_M_hold_1 : code_ 157 1 = some (.invokestatic 62, 4, 148, 0, 0) := by decide +kernel
theorem cd_M_hold_4 : code_ 157 4 = some (.ifCond .ne 5, 7, 9, 0, 0) := by decide +kernel
theorem cd_M_hold_7 : code_ 157 7 = some (.iconst (-1), 8, 0, 0, 0) := by decide +kernel
theorem cd_M_hold_8 : code_ 157 8 = some (.ireturn, 9, 0, 0, 0) := by decide +kernel
theorem cd_M_hold_9 : code_ 157 9 = some (.aload_n 0, 10, 0, 0, 0) := by decide +kernel
theorem cd_M_hold_10 : code_ 157 10 = some (.invokevirtual 66, 13, 169, 1, 0) := by decide +kernel
theorem cd_M_hold_13 : code_ 157 13 = some (.iload_n 2, 14, 0, 0, 0) := by decide +kernel
theorem cd_M_hold_14 : code_ 157 14 = some (.ifCond .eq 19, 17, 33, 0, 0) := by decide +kernel
theorem cd_M_hold_17 : code_ 157 17 = some (.aload_n 0, 18, 0, 0, 0) := by decide +kernel
theorem cd_M_hold_18 : code_ 157 18 = some (.iload_n 1, 19, 0, 0, 0) := by decide +kernel
theorem cd_M_hold_19 : code_ 157 19 = some (.invokestatic 50, 22, 149, 0, 0) := by decide +kernel
theorem cd_M_hold_22 : code_ 157 22 = some (.iload_n 1, 23, 0, 0, 0) := by decide +kernel
theorem cd_M_hold_23 : code_ 157 23 = some (.invokevirtual 69, 26, 155, 1, 0) := by decide +kernel
theorem cd_M_hold_26 : code_ 157 26 = some (.iconst 2, 27, 0, 0, 0) := by decide +kernel
theorem cd_M_hold_27 : code_ 157 27 = some (.if_icmp .ne 6, 30, 33, 0, 0) := by decide +kernel
theorem cd_M_hold_30 : code_ 157 30 = some (.bipush (-4), 32, 0, 0, 0) := by decide +kernel
theorem cd_M_hold_32 : code_ 157 32 = some (.ireturn, 33, 0, 0, 0) := by decide +kernel
theorem cd_M_hold_33 : code_ 157 33 = some (.aload_n 0, 34, 0, 0, 0) := by decide +kernel
theorem cd_M_hold_34 : code_ 157 34 = some (.getfield 7, 37, 8, 0, 2) := by decide +kernel
theorem cd_M_hold_37 : code_ 157 37 = some (.bipush 8, 39, 0, 0, 0) := by decide +kernel
theorem cd_M_hold_39 : code_ 157 39 = some (.iload_n 1, 40, 0, 0, 0) := by decide +kernel
theorem cd_M_hold_40 : code_ 157 40 = some (.iadd, 41, 0, 0, 0) := by decide +kernel
theorem cd_M_hold_41 : code_ 157 41 = some (.iload_n 2, 42, 0, 0, 0) := by decide +kernel
theorem cd_M_hold_42 : code_ 157 42 = some (.ifCond .eq 7, 45, 49, 0, 0) := by decide +kernel
theorem cd_M_hold_45 : code_ 157 45 = some (.iconst 1, 46, 0, 0, 0) := by decide +kernel
theorem cd_M_hold_46 : code_ 157 46 = some (.goto 4, 49, 50, 0, 0) := by decide +kernel
theorem cd_M_hold_49 : code_ 157 49 = some (.iconst 0, 50, 0, 0, 0) := by decide +kernel
theorem cd_M_hold_50 : code_ 157 50 = some (.iastore, 51, 0, 0, 0) := by decide +kernel
theorem cd_M_hold_51 : code_ 157 51 = some (.aload_n 0, 52, 0, 0, 0) := by decide +kernel
theorem cd_M_hold_52 : code_ 157 52 = some (.invokevirtual 66, 55, 169, 1, 0) := by decide +kernel
theorem cd_M_hold_55 : code_ 157 55 = some (.aload_n 0, 56, 0, 0, 0) := by decide +kernel
theorem cd_M_hold_56 : code_ 157 56 = some (.iload_n 1, 57, 0, 0, 0) := by decide +kernel
theorem cd_M_hold_57 : code_ 157 57 = some (.invokestatic 50, 60, 149, 0, 0) := by decide +kernel
theorem cd_M_hold_60 : code_ 157 60 = some (.iconst (-1), 61, 0, 0, 0) := by decide +kernel
theorem cd_M_hold_61 : code_ 157 61 = some (.invokevirtual 69, 64, 155, 1, 0) := by decide +kernel
theorem cd_M_hold_64 : code_ 157 64 = some (.ireturn, 65, 0, 0, 0) := by decide +kernel
theorem cd_M_ball_0 : code_ 158 0 = some (.iload_n 1, 1, 0, 0, 0) := by decide +kernel
theorem cd_M_ball_1 : code_ 158 1 = some (.iconst (-1), 2, 0, 0, 0) := by decide +kernel
theorem cd_M_ball_2 : code_ 158 2 = some (.if_icmp .eq 13, 5, 15, 0, 0) := by decide +kernel
theorem cd_M_ball_5 : code_ 158 5 = some (.iload_n 1, 6, 0, 0, 0) := by decide +kernel
theorem cd_M_ball_6 : code_ 158 6 = some (.iload_n 2, 7, 0, 0, 0) := by decide +kernel
theorem cd_M_ball_7 : code_ 158 7 = some (.invokestatic 73, 10, 154, 0, 0) := by decide +kernel
theorem cd_M_ball_10 : code_ 158 10 = some (.ifCond .ne 5, 13, 15, 0, 0) := by decide +kernel
theorem cd_M_ball_13 : code_ 158 13 = some (.iconst (-1), 14, 0, 0, 0) := by decide +kernel
theorem cd_M_ball_14 : code_ 158 14 = some (.ireturn, 15, 0, 0, 0) := by decide +kernel
theorem cd_M_ball_15 : code_ 158 15 = some (.aload_n 0, 16, 0, 0, 0) := by decide +kernel
theorem cd_M_ball_16 : code_ 158 16 = some (.getfield 7, 19, 8, 0, 2) := by decide +kernel
theorem cd_M_ball_19 : code_ 158 19 = some (.bipush 16, 21, 0, 0, 0) := by decide +kernel
theorem cd_M_ball_21 : code_ 158 21 = some (.iload_n 1, 22, 0, 0, 0) := by decide +kernel
theorem cd_M_ball_22 : code_ 158 22 = some (.ifCond .ge 8, 25, 30, 0, 0) := by decide +kernel
theorem cd_M_ball_25 : code_ 158 25 = some (.bipush (-6), 27, 0, 0, 0) := by decide +kernel
theorem cd_M_ball_27 : code_ 158 27 = some (.goto 4, 30, 31, 0, 0) := by decide +kernel
theorem cd_M_ball_30 : code_ 158 30 = some (.iload_n 1, 31, 0, 0, 0) := by decide +kernel
theorem cd_M_ball_31 : code_ 158 31 = some (.iastore, 32, 0, 0, 0) := by decide +kernel
theorem cd_M_ball_32 : code_ 158 32 = some (.aload_n 0, 33, 0, 0, 0) := by decide +kernel
theorem cd_M_ball_33 : code_ 158 33 = some (.getfield 7, 36, 8, 0, 2) := by decide +kernel
theorem cd_M_ball_36 : code_ 158 36 = some (.bipush 17, 38, 0, 0, 0) := by decide +kernel
theorem cd_M_ball_38 : code_ 158 38 = some (.iload_n 1, 39, 0, 0, 0) := by decide +kernel
theorem cd_M_ball_39 : code_ 158 39 = some (.ifCond .ge 8, 42, 47, 0, 0) := by decide +kernel
theorem cd_M_ball_42 : code_ 158 42 = some (.bipush (-6), 44, 0, 0, 0) := by decide +kernel
theorem cd_M_ball_44 : code_ 158 44 = some (.goto 4, 47, 48, 0, 0) := by decide +kernel
theorem cd_M_ball_47 : code_ 158 47 = some (.iload_n 2, 48, 0, 0, 0) := by decide +kernel
theorem cd_M_ball_48 : code_ 158 48 = some (.iastore, 49, 0, 0, 0) := by decide +kernel
theorem cd_M_ball_49 : code_ 158 49 = some (.iconst 1, 50, 0, 0, 0) := by decide +kernel
theorem cd_M_ball_50 : code_ 158 50 = some (.ireturn, 51, 0, 0, 0) := by decide +kernel
theorem cd_M_goals_0 : code_ 159 0 = some (.iload_n 1, 1, 0, 0, 0) := by decide +kernel
theorem cd_M_goals_1 : code_ 159 1 = some (.iconst 0, 2, 0, 0, 0) := by decide +kernel
theorem cd_M_goals_2 : code_ 159 2 = some (.iconst 1, 3, 0, 0, 0) := by decide +kernel
theorem cd_M_goals_3 : code_ 159 3 = some (.invokestatic 46, 6, 146, 0, 0) := by decide +kernel
theorem cd_M_goals_6 : code_ 159 6 = some (.ifCond .ne 5, 9, 11, 0, 0) := by decide +kernel
theorem cd_M_goals_9 : code_ 159 9 = some (.iconst (-1), 10, 0, 0, 0) := by decide +kernel
theorem cd_M_goals_10 : code_ 159 10 = some (.ireturn, 11, 0, 0, 0) := by decide +kernel
theorem cd_M_goals_11 : code_ 159 11 = some (.iload_n 2, 12, 0, 0, 0) := by decide +kernel
theorem cd_M_goals_12 : code_ 159 12 = some (.iconst 0, 13, 0, 0, 0) := by decide +kernel
theorem cd_M_goals_13 : code_ 159 13 = some (.bipush 10, 15, 0, 0, 0) := by decide +kernel
theorem cd_M_goals_15 : code_ 159 15 = some (.invokestatic 46, 18, 146, 0, 0) := by decide +kernel
theorem cd_M_goals_18 : code_ 159 18 = some (.ifCond .ne 6, 21, 24, 0, 0) := by decide +kernel
theorem cd_M_goals_21 : code_ 159 21 = some (.bipush (-2), 23, 0, 0, 0) := by decide +kernel
theorem cd_M_goals_23 : code_ 159 23 = some (.ireturn, 24, 0, 0, 0) := by decide +kernel
theorem cd_M_goals_24 : code_ 159 24 = some (.aload_n 0, 25, 0, 0, 0) := by decide +kernel
theorem cd_M_goals_25 : code_ 159 25 = some (.getfield 7, 28, 8, 0, 2) := by decide +kernel
theorem cd_M_goals_28 : code_ 159 28 = some (.bipush 18, 30, 0, 0, 0) := by decide +kernel
theorem cd_M_goals_30 : code_ 159 30 = some (.iload_n 1, 31, 0, 0, 0) := by decide +kernel
theorem cd_M_goals_31 : code_ 159 31 = some (.iadd, 32, 0, 0, 0) := by decide +kernel
theorem cd_M_goals_32 : code_ 159 32 = some (.iaload, 33, 0, 0, 0) := by decide +kernel
theorem cd_M_goals_33 : code_ 159 33 = some (.istore_n 3, 34, 0, 0, 0) := by decide +kernel
theorem cd_M_goals_34 : code_ 159 34 = some (.aload_n 0, 35, 0, 0, 0) := by decide +kernel
theorem cd_M_goals_35 : code_ 159 35 = some (.getfield 7, 38, 8, 0, 2) := by decide +kernel
theorem cd_M_goals_38 : code_ 159 38 = some (.bipush 18, 40, 0, 0, 0) := by decide +kernel
theorem cd_M_goals_40 : code_ 159 40 = some (.iload_n 1, 41, 0, 0, 0) := by decide +kernel
theorem cd_M_goals_41 : code_ 159 41 = some (.iadd, 42, 0, 0, 0) := by decide +kernel
theorem cd_M_goals_42 : code_ 159 42 = some (.iload_n 2, 43, 0, 0, 0) := by decide +kernel
theorem cd_M_goals_43 : code_ 159 43 = some (.iastore, 44, 0, 0, 0) := by decide +kernel
theorem cd_M_goals_44 : code_ 159 44 = some (.iload_n 3, 45, 0, 0, 0) := by decide +kernel
theorem cd_M_goals_45 : code_ 159 45 = some (.ireturn, 46, 0, 0, 0) := by decide +kernel
theorem cd_M_say_0 : code_ 160 0 = some (.iload_n 1, 1, 0, 0, 0) := by decide +kernel
theorem cd_M_say_1 : code_ 160 1 = some (.bipush 33, 3, 0, 0, 0) := by decide +kernel
theorem cd_M_say_3 : code_ 160 3 = some (.bipush 126, 5, 0, 0, 0) := by decide +kernel
theorem cd_M_say_5 : code_ 160 5 = some (.invokestatic 46, 8, 146, 0, 0) := by decide +kernel
theorem cd_M_say_8 : code_ 160 8 = some (.ifCond .ne 6, 11, 14, 0, 0) := by decide +kernel
theorem cd_M_say_11 : code_ 160 11 = some (.bipush (-2), 13, 0, 0, 0) := by decide +kernel
theorem cd_M_say_13 : code_ 160 13 = some (.ireturn, 14, 0, 0, 0) := by decide +kernel
theorem cd_M_say_14 : code_ 160 14 = some (.aload_n 0, 15, 0, 0, 0) := by decide +kernel
theorem cd_M_say_15 : code_ 160 15 = some (.getfield 77, 18, 8, 4, 0) := by decide +kernel
theorem cd_M_say_18 : code_ 160 18 = some (.bipush 60, 20, 0, 0, 0) := by decide +kernel
theorem cd_M_say_20 : code_ 160 20 = some (.if_icmp .ne 6, 23, 26, 0, 0) := by decide +kernel
theorem cd_M_say_23 : code_ 160 23 = some (.bipush (-4), 25, 0, 0, 0) := by decide +kernel
theorem cd_M_say_25 : code_ 160 25 = some (.ireturn, 26, 0, 0, 0) := by decide +kernel
theorem cd_M_say_26 : code_ 160 26 = some (.aload_n 0, 27, 0, 0, 0) := by decide +kernel
theorem cd_M_say_27 : code_ 160 27 = some (.getfield 19, 30, 8, 5, 2) := by decide +kernel
theorem cd_M_say_30 : code_ 160 30 = some (.aload_n 0, 31, 0, 0, 0) := by decide +kernel
theorem cd_M_say_31 : code_ 160 31 = some (.getfield 77, 34, 8, 4, 0) := by decide +kernel
theorem cd_M_say_34 : code_ 160 34 = some (.iload_n 1, 35, 0, 0, 0) := by decide +kernel
theorem cd_M_say_35 : code_ 160 35 = some (.iastore, 36, 0, 0, 0) := by decide +kernel
theorem cd_M_say_36 : code_ 160 36 = some (.aload_n 0, 37, 0, 0, 0) := by decide +kernel
theorem cd_M_say_37 : code_ 160 37 = some (.dup, 38, 0, 0, 0) := by decide +kernel
theorem cd_M_say_38 : code_ 160 38 = some (.getfield 77, 41, 8, 4, 0) := by decide +kernel
theorem cd_M_say_41 : code_ 160 41 = some (.iconst 1, 42, 0, 0, 0) := by decide +kernel
theorem cd_M_say_42 : code_ 160 42 = some (.iadd, 43, 0, 0, 0) := by decide +kernel
theorem cd_M_say_43 : code_ 160 43 = some (.putfield 77, 46, 8, 4, 0) := by decide +kernel
theorem cd_M_say_46 : code_ 160 46 = some (.aload_n 0, 47, 0, 0, 0) := by decide +kernel
theorem cd_M_say_47 : code_ 160 47 = some (.getfield 77, 50, 8, 4, 0) := by decide +kernel
theorem cd_M_say_50 : code_ 160 50 = some (.ireturn, 51, 0, 0, 0) := by decide +kernel
theorem cd_M_wipe_0 : code_ 161 0 = some (.aload_n 0, 1, 0, 0, 0) := by decide +kernel
theorem cd_M_wipe_1 : code_ 161 1 = some (.getfield 77, 4, 8, 4, 0) := by decide +kernel
theorem cd_M_wipe_4 : code_ 161 4 = some (.istore_n 1, 5, 0, 0, 0) := by decide +kernel
theorem cd_M_wipe_5 : code_ 161 5 = some (.aload_n 0, 6, 0, 0, 0) := by decide +kernel
theorem cd_M_wipe_6 : code_ 161 6 = some (.iconst 0, 7, 0, 0, 0) := by decide +kernel
theorem cd_M_wipe_7 : code_ 161 7 = some (.putfield 77, 10, 8, 4, 0) := by decide +kernel
theorem cd_M_wipe_10 : code_ 161 10 = some (.iload_n 1, 11, 0, 0, 0) := by decide +kernel
theorem cd_M_wipe_11 : code_ 161 11 = some (.ireturn, 12, 0, 0, 0) := by decide +kernel
theorem cd_M_step_0 : code_ 162 0 = some (.iload_n 1, 1, 0, 0, 0) := by decide +kernel
theorem cd_M_step_1 : code_ 162 1 = some (.bipush 97, 3, 0, 0, 0) := by decide +kernel
theorem cd_M_step_3 : code_ 162 3 = some (.bipush 104, 5, 0, 0, 0) := by decide +kernel
theorem cd_M_step_5 : code_ 162 5 = some (.invokestatic 46, 8, 146, 0, 0) := by decide +kernel
theorem cd_M_step_8 : code_ 162 8 = some (.istore_n 2, 9, 0, 0, 0) := by decide +kernel
theorem cd_M_step_9 : code_ 162 9 = some (.iload_n 1, 10, 0, 0, 0) := by decide +kernel
theorem cd_M_step_10 : code_ 162 10 = some (.bipush 60, 12, 0, 0, 0) := by decide +kernel
theorem cd_M_step_12 : code_ 162 12 = some (.if_icmp .eq 9, 15, 21, 0, 0) := by decide +kernel
theorem cd_M_step_15 : code_ 162 15 = some (.iload_n 1, 16, 0, 0, 0) := by decide +kernel
theorem cd_M_step_16 : code_ 162 16 = some (.bipush 62, 18, 0, 0, 0) := by decide +kernel
theorem cd_M_step_18 : code_ 162 18 = some (.if_icmp .ne 7, 21, 25, 0, 0) := by decide +kernel
theorem cd_M_step_21 : code_ 162 21 = some (.iconst 1, 22, 0, 0, 0) := by decide +kernel
theorem cd_M_step_22 : code_ 162 22 = some (.goto 4, 25, 26, 0, 0) := by decide +kernel
theorem cd_M_step_25 : code_ 162 25 = some (.iconst 0, 26, 0, 0, 0) := by decide +kernel
theorem cd_M_step_26 : code_ 162 26 = some (.istore_n 3, 27, 0, 0, 0) := by decide +kernel
theorem cd_M_step_27 : code_ 162 27 = some (.iload_n 0, 28, 0, 0, 0) := by decide +kernel
theorem cd_M_step_28 : code_ 162 28 = some (.tableswitch 210 0 6 #[44, 106, 133, 151, 169, 180, 192], 72, 0, 0, 0) := by decide +kernel
theorem cd_M_step_72 : code_ 162 72 = some (.iload_n 2, 73, 0, 0, 0) := by decide +kernel
theorem cd_M_step_73 : code_ 162 73 = some (.ifCond .eq 7, 76, 80, 0, 0) := by decide +kernel
theorem cd_M_step_76 : code_ 162 76 = some (.iconst 1, 77, 0, 0, 0) := by decide +kernel
theorem cd_M_step_77 : code_ 162 77 = some (.goto 56, 80, 133, 0, 0) := by decide +kernel
theorem cd_M_step_80 : code_ 162 80 = some (.iload_n 1, 81, 0, 0, 0) := by decide +kernel
theorem cd_M_step_81 : code_ 162 81 = some (.bipush 112, 83, 0, 0, 0) := by decide +kernel
theorem cd_M_step_83 : code_ 162 83 = some (.if_icmp .ne 7, 86, 90, 0, 0) := by decide +kernel
theorem cd_M_step_86 : code_ 162 86 = some (.iconst 3, 87, 0, 0, 0) := by decide +kernel
theorem cd_M_step_87 : code_ 162 87 = some (.goto 46, 90, 133, 0, 0) := by decide +kernel
theorem cd_M_step_90 : code_ 162 90 = some (.iload_n 1, 91, 0, 0, 0) := by decide +kernel
theorem cd_M_step_91 : code_ 162 91 = some (.bipush 80, 93, 0, 0, 0) := by decide +kernel
theorem cd_M_step_93 : code_ 162 93 = some (.if_icmp .ne 7, 96, 100, 0, 0) := by decide +kernel
theorem cd_M_step_96 : code_ 162 96 = some (.iconst 4, 97, 0, 0, 0) := by decide +kernel
theorem cd_M_step_97 : code_ 162 97 = some (.goto 36, 100, 133, 0, 0) := by decide +kernel
theorem cd_M_step_100 : code_ 162 100 = some (.iload_n 1, 101, 0, 0, 0) := by decide +kernel
theorem cd_M_step_101 : code_ 162 101 = some (.bipush 115, 103, 0, 0, 0) := by decide +kernel
theorem cd_M_step_103 : code_ 162 103 = some (.if_icmp .ne 7, 106, 110, 0, 0) := by decide +kernel
theorem cd_M_step_106 : code_ 162 106 = some (.iconst 5, 107, 0, 0, 0) := by decide +kernel
theorem cd_M_step_107 : code_ 162 107 = some (.goto 26, 110, 133, 0, 0) := by decide +kernel
theorem cd_M_step_110 : code_ 162 110 = some (.iload_n 1, 111, 0, 0, 0) := by decide +kernel
theorem cd_M_step_111 : code_ 162 111 = some (.bipush 33, 113, 0, 0, 0) := by decide +kernel
theorem cd_M_step_113 : code_ 162 113 = some (.if_icmp .ne 8, 116, 121, 0, 0) := by decide +kernel
theorem cd_M_step_116 : code_ 162 116 = some (.bipush 7, 118, 0, 0, 0) := by decide +kernel
theorem cd_M_step_118 : code_ 162 118 = some (.goto 15, 121, 133, 0, 0) := by decide +kernel
theorem cd_M_step_121 : code_ 162 121 = some (.iload_n 1, 122, 0, 0, 0) := by decide +kernel
theorem cd_M_step_122 : code_ 162 122 = some (.bipush 46, 124, 0, 0, 0) := by decide +kernel
theorem cd_M_step_124 : code_ 162 124 = some (.if_icmp .ne 7, 127, 131, 0, 0) := by decide +kernel
theorem cd_M_step_127 : code_ 162 127 = some (.iconst 0, 128, 0, 0, 0) := by decide +kernel
theorem cd_M_step_128 : code_ 162 128 = some (.goto 5, 131, 133, 0, 0) := by decide +kernel
theorem cd_M_step_131 : code_ 162 131 = some (.bipush (-6), 133, 0, 0, 0) := by decide +kernel
theorem cd_M_step_133 : code_ 162 133 = some (.ireturn, 134, 0, 0, 0) := by decide +kernel
theorem cd_M_step_134 : code_ 162 134 = some (.iload_n 1, 135, 0, 0, 0) := by decide +kernel
theorem cd_M_step_135 : code_ 162 135 = some (.bipush 40, 137, 0, 0, 0) := by decide +kernel
theorem cd_M_step_137 : code_ 162 137 = some (.if_icmp .eq 9, 140, 146, 0, 0) := by decide +kernel
theorem cd_M_step_140 : code_ 162 140 = some (.iload_n 1, 141, 0, 0, 0) := by decide +kernel
theorem cd_M_step_141 : code_ 162 141 = some (.bipush 41, 143, 0, 0, 0) := by decide +kernel
theorem cd_M_step_143 : code_ 162 143 = some (.if_icmp .ne 7, 146, 150, 0, 0) := by decide +kernel
theorem cd_M_step_146 : code_ 162 146 = some (.iconst 0, 147, 0, 0, 0) := by decide +kernel
theorem cd_M_step_147 : code_ 162 147 = some (.goto 13, 150, 160, 0, 0) := by decide +kernel
theorem cd_M_step_150 : code_ 162 150 = some (.iload_n 3, 151, 0, 0, 0) := by decide +kernel
theorem cd_M_step_151 : code_ 162 151 = some (.ifCond .eq 7, 154, 158, 0, 0) := by decide +kernel
theorem cd_M_step_154 : code_ 162 154 = some (.iconst 2, 155, 0, 0, 0) := by decide +kernel
theorem cd_M_step_155 : code_ 162 155 = some (.goto 5, 158, 160, 0, 0) := by decide +kernel
theorem cd_M_step_158 : code_ 162 158 = some (.bipush (-6), 160, 0, 0, 0) := by decide +kernel
theorem cd_M_step_160 : code_ 162 160 = some (.ireturn, 161, 0, 0, 0) := by decide +kernel
theorem cd_M_step_161 : code_ 162 161 = some (.iload_n 1, 162, 0, 0, 0) := by decide +kernel
theorem cd_M_step_162 : code_ 162 162 = some (.bipush 49, 164, 0, 0, 0) := by decide +kernel
theorem cd_M_step_164 : code_ 162 164 = some (.bipush 57, 166, 0, 0, 0) := by decide +kernel
theorem cd_M_step_166 : code_ 162 166 = some (.invokestatic 46, 169, 146, 0, 0) := by decide +kernel
theorem cd_M_step_169 : code_ 162 169 = some (.ifCond .eq 7, 172, 176, 0, 0) := by decide +kernel
theorem cd_M_step_172 : code_ 162 172 = some (.iconst 0, 173, 0, 0, 0) := by decide +kernel
theorem cd_M_step_173 : code_ 162 173 = some (.goto 5, 176, 178, 0, 0) := by decide +kernel
theorem cd_M_step_176 : code_ 162 176 = some (.bipush (-6), 178, 0, 0, 0) := by decide +kernel
theorem cd_M_step_178 : code_ 162 178 = some (.ireturn, 179, 0, 0, 0) := by decide +kernel
theorem cd_M_step_179 : code_ 162 179 = some (.iload_n 1, 180, 0, 0, 0) := by decide +kernel
theorem cd_M_step_180 : code_ 162 180 = some (.bipush 48, 182, 0, 0, 0) := by decide +kernel
theorem cd_M_step_182 : code_ 162 182 = some (.bipush 52, 184, 0, 0, 0) := by decide +kernel
theorem cd_M_step_184 : code_ 162 184 = some (.invokestatic 46, 187, 146, 0, 0) := by decide +kernel
theorem cd_M_step_187 : code_ 162 187 = some (.ifCond .eq 7, 190, 194, 0, 0) := by decide +kernel
theorem cd_M_step_190 : code_ 162 190 = some (.iconst 0, 191, 0, 0, 0) := by decide +kernel
theorem cd_M_step_191 : code_ 162 191 = some (.goto 5, 194, 196, 0, 0) := by decide +kernel
theorem cd_M_step_194 : code_ 162 194 = some (.bipush (-6), 196, 0, 0, 0) := by decide +kernel
theorem cd_M_step_196 : code_ 162 196 = some (.ireturn, 197, 0, 0, 0) := by decide +kernel
theorem cd_M_step_197 : code_ 162 197 = some (.iload_n 2, 198, 0, 0, 0) := by decide +kernel
theorem cd_M_step_198 : code_ 162 198 = some (.ifCond .eq 7, 201, 205, 0, 0) := by decide +kernel
theorem cd_M_step_201 : code_ 162 201 = some (.iconst 0, 202, 0, 0, 0) := by decide +kernel
theorem cd_M_step_202 : code_ 162 202 = some (.goto 5, 205, 207, 0, 0) := by decide +kernel
theorem cd_M_step_205 : code_ 162 205 = some (.bipush (-6), 207, 0, 0, 0) := by decide +kernel
theorem cd_M_step_207 : code_ 162 207 = some (.ireturn, 208, 0, 0, 0) := by decide +kernel
theorem cd_M_step_208 : code_ 162 208 = some (.iload_n 3, 209, 0, 0, 0) := by decide +kernel
theorem cd_M_step_209 : code_ 162 209 = some (.ifCond .eq 8, 212, 217, 0, 0) := by decide +kernel
theorem cd_M_step_212 : code_ 162 212 = some (.bipush 6, 214, 0, 0, 0) := by decide +kernel
theorem cd_M_step_214 : code_ 162 214 = some (.goto 5, 217, 219, 0, 0) := by decide +kernel
theorem cd_M_step_217 : code_ 162 217 = some (.bipush (-6), 219, 0, 0, 0) := by decide +kernel
theorem cd_M_step_219 : code_ 162 219 = some (.ireturn, 220, 0, 0, 0) := by decide +kernel
theorem cd_M_step_220 : code_ 162 220 = some (.iload_n 1, 221, 0, 0, 0) := by decide +kernel
theorem cd_M_step_221 : code_ 162 221 = some (.bipush 48, 223, 0, 0, 0) := by decide +kernel
theorem cd_M_step_223 : code_ 162 223 = some (.bipush 57, 225, 0, 0, 0) := by decide +kernel
theorem cd_M_step_225 : code_ 162 225 = some (.invokestatic 46, 228, 146, 0, 0) := by decide +kernel
theorem cd_M_step_228 : code_ 162 228 = some (.ifCond .eq 7, 231, 235, 0, 0) := by decide +kernel
theorem cd_M_step_231 : code_ 162 231 = some (.iconst 0, 232, 0, 0, 0) := by decide +kernel
theorem cd_M_step_232 : code_ 162 232 = some (.goto 5, 235, 237, 0, 0) := by decide +kernel
theorem cd_M_step_235 : code_ 162 235 = some (.bipush (-6), 237, 0, 0, 0) := by decide +kernel
theorem cd_M_step_237 : code_ 162 237 = some (.ireturn, 238, 0, 0, 0) := by decide +kernel
theorem cd_M_step_238 : code_ 162 238 = some (.iload_n 2, 239, 0, 0, 0) := by decide +kernel
theorem cd_M_step_239 : code_ 162 239 = some (.ifCond .eq 7, 242, 246, 0, 0) := by decide +kernel
theorem cd_M_step_242 : code_ 162 242 = some (.iconst 3, 243, 0, 0, 0) := by decide +kernel
theorem cd_M_step_243 : code_ 162 243 = some (.goto 5, 246, 248, 0, 0) := by decide +kernel
theorem cd_M_step_246 : code_ 162 246 = some (.bipush (-6), 248, 0, 0, 0) := by decide +kernel
theorem cd_M_step_248 : code_ 162 248 = some (.ireturn, 249, 0, 0, 0) := by decide +kernel
theorem cd_M_faultOf_0 : code_ 163 0 = some (.iconst 0, 1, 0, 0, 0) := by decide +kernel
theorem cd_M_faultOf_1 : code_ 163 1 = some (.istore_n 1, 2, 0, 0, 0) := by decide +kernel
theorem cd_M_faultOf_2 : code_ 163 2 = some (.iconst 0, 3, 0, 0, 0) := by decide +kernel
theorem cd_M_faultOf_3 : code_ 163 3 = some (.istore_n 2, 4, 0, 0, 0) := by decide +kernel
theorem cd_M_faultOf_4 : code_ 163 4 = some (.iload_n 2, 5, 0, 0, 0) := by decide +kernel
theorem cd_M_faultOf_5 : code_ 163 5 = some (.aload_n 0, 6, 0, 0, 0) := by decide +kernel
theorem cd_M_faultOf_6 : code_ 163 6 = some (.getfield 77, 9, 8, 4, 0) := by decide +kernel
theorem cd_M_faultOf_9 : code_ 163 9 = some (.if_icmp .ge 26, 12, 35, 0, 0) := by decide +kernel
theorem cd_M_faultOf_12 : code_ 163 12 = some (.iload_n 1, 13, 0, 0, 0) := by decide +kernel
theorem cd_M_faultOf_13 : code_ 163 13 = some (.aload_n 0, 14, 0, 0, 0) := by decide +kernel
theorem cd_M_faultOf_14 : code_ 163 14 = some (.getfield 19, 17, 8, 5, 2) := by decide +kernel
theorem cd_M_faultOf_17 : code_ 163 17 = some (.iload_n 2, 18, 0, 0, 0) := by decide +kernel
theorem cd_M_faultOf_18 : code_ 163 18 = some (.iaload, 19, 0, 0, 0) := by decide +kernel
theorem cd_M_faultOf_19 : code_ 163 19 = some (.invokestatic 81, 22, 162, 0, 0) := by decide +kernel
theorem cd_M_faultOf_22 : code_ 163 22 = some (.istore_n 1, 23, 0, 0, 0) := by decide +kernel
theorem cd_M_faultOf_23 : code_ 163 23 = some (.iload_n 1, 24, 0, 0, 0) := by decide +kernel
theorem cd_M_faultOf_24 : code_ 163 24 = some (.ifCond .ge 5, 27, 29, 0, 0) := by decide +kernel
theorem cd_M_faultOf_27 : code_ 163 27 = some (.iload_n 2, 28, 0, 0, 0) := by decide +kernel
theorem cd_M_faultOf_28 : code_ 163 28 = some (.ireturn, 29, 0, 0, 0) := by decide +kernel
theorem cd_M_faultOf_29 : code_ 163 29 = some (.iinc 2 1, 32, 0, 0, 0) := by decide +kernel
theorem cd_M_faultOf_32 : code_ 163 32 = some (.goto (-28), 35, 4, 0, 0) := by decide +kernel
theorem cd_M_faultOf_35 : code_ 163 35 = some (.iload_n 1, 36, 0, 0, 0) := by decide +kernel
theorem cd_M_faultOf_36 : code_ 163 36 = some (.ifCond .ne 8, 39, 44, 0, 0) := by decide +kernel
theorem cd_M_faultOf_39 : code_ 163 39 = some (.bipush (-6), 41, 0, 0, 0) := by decide +kernel
theorem cd_M_faultOf_41 : code_ 163 41 = some (.goto 7, 44, 48, 0, 0) := by decide +kernel
theorem cd_M_faultOf_44 : code_ 163 44 = some (.aload_n 0, 45, 0, 0, 0) := by decide +kernel
theorem cd_M_faultOf_45 : code_ 163 45 = some (.getfield 77, 48, 8, 4, 0) := by decide +kernel
theorem cd_M_faultOf_48 : code_ 163 48 = some (.ireturn, 49, 0, 0, 0) := by decide +kernel
theorem cd_M_fault_0 : code_ 164 0 = some (.aload_n 0, 1, 0, 0, 0) := by decide +kernel
theorem cd_M_fault_1 : code_ 164 1 = some (.invokevirtual 84, 4, 163, 1, 0) := by decide +kernel
theorem cd_M_fault_4 : code_ 164 4 = some (.ireturn, 5, 0, 0, 0) := by decide +kernel
theorem cd_M_standsAt_0 : code_ 165 0 = some (.aload_n 0, 1, 0, 0, 0) := by decide +kernel
theorem cd_M_standsAt_1 : code_ 165 1 = some (.getfield 13, 4, 8, 1, 2) := by decide +kernel
theorem cd_M_standsAt_4 : code_ 165 4 = some (.iload_n 1, 5, 0, 0, 0) := by decide +kernel
theorem cd_M_standsAt_5 : code_ 165 5 = some (.iaload, 6, 0, 0, 0) := by decide +kernel
theorem cd_M_standsAt_6 : code_ 165 6 = some (.iload_n 2, 7, 0, 0, 0) := by decide +kernel
theorem cd_M_standsAt_7 : code_ 165 7 = some (.iload_n 1, 8, 0, 0, 0) := by decide +kernel
theorem cd_M_standsAt_8 : code_ 165 8 = some (.invokestatic 59, 11, 152, 0, 0) := by decide +kernel
theorem cd_M_standsAt_11 : code_ 165 11 = some (.imul, 12, 0, 0, 0) := by decide +kernel
theorem cd_M_standsAt_12 : code_ 165 12 = some (.iadd, 13, 0, 0, 0) := by decide +kernel
theorem cd_M_standsAt_13 : code_ 165 13 = some (.ireturn, 14, 0, 0, 0) := by decide +kernel
theorem cd_M_covers_0 : code_ 166 0 = some (.iconst 0, 1, 0, 0, 0) := by decide +kernel
theorem cd_M_covers_1 : code_ 166 1 = some (.istore_n 3, 2, 0, 0, 0) := by decide +kernel
theorem cd_M_covers_2 : code_ 166 2 = some (.iload_n 3, 3, 0, 0, 0) := by decide +kernel
theorem cd_M_covers_3 : code_ 166 3 = some (.iload_n 1, 4, 0, 0, 0) := by decide +kernel
theorem cd_M_covers_4 : code_ 166 4 = some (.invokestatic 56, 7, 151, 0, 0) := by decide +kernel
theorem cd_M_covers_7 : code_ 166 7 = some (.if_icmp .ge 27, 10, 34, 0, 0) := by decide +kernel
theorem cd_M_covers_10 : code_ 166 10 = some (.iload_n 2, 11, 0, 0, 0) := by decide +kernel
theorem cd_M_covers_11 : code_ 166 11 = some (.aload_n 0, 12, 0, 0, 0) := by decide +kernel
theorem cd_M_covers_12 : code_ 166 12 = some (.iload_n 1, 13, 0, 0, 0) := by decide +kernel
theorem cd_M_covers_13 : code_ 166 13 = some (.iload_n 3, 14, 0, 0, 0) := by decide +kernel
theorem cd_M_covers_14 : code_ 166 14 = some (.invokevirtual 88, 17, 165, 1, 0) := by decide +kernel
theorem cd_M_covers_17 : code_ 166 17 = some (.isub, 18, 0, 0, 0) := by decide +kernel
theorem cd_M_covers_18 : code_ 166 18 = some (.iconst (-1), 19, 0, 0, 0) := by decide +kernel
theorem cd_M_covers_19 : code_ 166 19 = some (.iconst 1, 20, 0, 0, 0) := by decide +kernel
theorem cd_M_covers_20 : code_ 166 20 = some (.invokestatic 46, 23, 146, 0, 0) := by decide +kernel
theorem cd_M_covers_23 : code_ 166 23 = some (.ifCond .eq 5, 26, 28, 0, 0) := by decide +kernel
theorem cd_M_covers_26 : code_ 166 26 = some (.iload_n 3, 27, 0, 0, 0) := by decide +kernel
theorem cd_M_covers_27 : code_ 166 27 = some (.ireturn, 28, 0, 0, 0) := by decide +kernel
theorem cd_M_covers_28 : code_ 166 28 = some (.iinc 3 1, 31, 0, 0, 0) := by decide +kernel
theorem cd_M_covers_31 : code_ 166 31 = some (.goto (-29), 34, 2, 0, 0) := by decide +kernel
theorem cd_M_covers_34 : code_ 166 34 = some (.bipush (-6), 36, 0, 0, 0) := by decide +kernel
theorem cd_M_covers_36 : code_ 166 36 = some (.ireturn, 37, 0, 0, 0) := by decide +kernel
theorem cd_M_shotBy_0 : code_ 167 0 = some (.aload_n 0, 1, 0, 0, 0) := by decide +kernel
theorem cd_M_shotBy_1 : code_ 167 1 = some (.getfield 13, 4, 8, 1, 2) := by decide +kernel
theorem cd_M_shotBy_4 : code_ 167 4 = some (.bipush 16, 6, 0, 0, 0) := by decide +kernel
theorem cd_M_shotBy_6 : code_ 167 6 = some (.iaload, 7, 0, 0, 0) := by decide +kernel
theorem cd_M_shotBy_7 : code_ 167 7 = some (.invokestatic 50, 10, 149, 0, 0) := by decide +kernel
theorem cd_M_shotBy_10 : code_ 167 10 = some (.istore_n 2, 11, 0, 0, 0) := by decide +kernel
theorem cd_M_shotBy_11 : code_ 167 11 = some (.iload_n 2, 12, 0, 0, 0) := by decide +kernel
theorem cd_M_shotBy_12 : code_ 167 12 = some (.ifCond .ne 7, 15, 19, 0, 0) := by decide +kernel
theorem cd_M_shotBy_15 : code_ 167 15 = some (.iconst 1, 16, 0, 0, 0) := by decide +kernel
theorem cd_M_shotBy_16 : code_ 167 16 = some (.goto 4, 19, 20, 0, 0) := by decide +kernel
theorem cd_M_shotBy_19 : code_ 167 19 = some (.iconst (-1), 20, 0, 0, 0) := by decide +kernel
theorem cd_M_shotBy_20 : code_ 167 20 = some (.istore_n 3, 21, 0, 0, 0) := by decide +kernel
theorem cd_M_shotBy_21 : code_ 167 21 = some (.aload_n 0, 22, 0, 0, 0) := by decide +kernel
theorem cd_M_shotBy_22 : code_ 167 22 = some (.aload_n 0, 23, 0, 0, 0) := by decide +kernel
theorem cd_M_shotBy_23 : code_ 167 23 = some (.getfield 13, 26, 8, 1, 2) := by decide +kernel
theorem cd_M_shotBy_26 : code_ 167 26 = some (.bipush 16, 28, 0, 0, 0) := by decide +kernel
theorem cd_M_shotBy_28 : code_ 167 28 = some (.iaload, 29, 0, 0, 0) := by decide +kernel
theorem cd_M_shotBy_29 : code_ 167 29 = some (.aload_n 0, 30, 0, 0, 0) := by decide +kernel
theorem cd_M_shotBy_30 : code_ 167 30 = some (.getfield 13, 33, 8, 1, 2) := by decide +kernel
theorem cd_M_shotBy_33 : code_ 167 33 = some (.bipush 17, 35, 0, 0, 0) := by decide +kernel
theorem cd_M_shotBy_35 : code_ 167 35 = some (.iaload, 36, 0, 0, 0) := by decide +kernel
theorem cd_M_shotBy_36 : code_ 167 36 = some (.invokevirtual 88, 39, 165, 1, 0) := by decide +kernel
theorem cd_M_shotBy_39 : code_ 167 39 = some (.istore 4, 41, 0, 0, 0) := by decide +kernel
theorem cd_M_shotBy_41 : code_ 167 41 = some (.iload_n 1, 42, 0, 0, 0) := by decide +kernel
theorem cd_M_shotBy_42 : code_ 167 42 = some (.istore 5, 44, 0, 0, 0) := by decide +kernel
theorem cd_M_shotBy_44 : code_ 167 44 = some (.aload_n 0, 45, 0, 0, 0) := by decide +kernel
theorem cd_M_shotBy_45 : code_ 167 45 = some (.getfield 13, 48, 8, 1, 2) := by decide +kernel
theorem cd_M_shotBy_48 : code_ 167 48 = some (.bipush 16, 50, 0, 0, 0) := by decide +kernel
theorem cd_M_shotBy_50 : code_ 167 50 = some (.iaload, 51, 0, 0, 0) := by decide +kernel
theorem cd_M_shotBy_51 : code_ 167 51 = some (.istore 6, 53, 0, 0, 0) := by decide +kernel
theorem cd_M_shotBy_53 : code_ 167 53 = some (.iconst 1, 54, 0, 0, 0) := by decide +kernel
theorem cd_M_shotBy_54 : code_ 167 54 = some (.istore 7, 56, 0, 0, 0) := by decide +kernel
theorem cd_M_shotBy_56 : code_ 167 56 = some (.iload 7, 58, 0, 0, 0) := by decide +kernel
theorem cd_M_shotBy_58 : code_ 167 58 = some (.ifCond .eq 98, 61, 156, 0, 0) := by decide +kernel
theorem cd_M_shotBy_61 : code_ 167 61 = some (.iload 6, 63, 0, 0, 0) := by decide +kernel
theorem cd_M_shotBy_63 : code_ 167 63 = some (.iload_n 3, 64, 0, 0, 0) := by decide +kernel
theorem cd_M_shotBy_64 : code_ 167 64 = some (.iadd, 65, 0, 0, 0) := by decide +kernel
theorem cd_M_shotBy_65 : code_ 167 65 = some (.istore 6, 67, 0, 0, 0) := by decide +kernel
theorem cd_M_shotBy_67 : code_ 167 67 = some (.iload 4, 69, 0, 0, 0) := by decide +kernel
theorem cd_M_shotBy_69 : code_ 167 69 = some (.iload 5, 71, 0, 0, 0) := by decide +kernel
theorem cd_M_shotBy_71 : code_ 167 71 = some (.iadd, 72, 0, 0, 0) := by decide +kernel
theorem cd_M_shotBy_72 : code_ 167 72 = some (.istore 4, 74, 0, 0, 0) := by decide +kernel
theorem cd_M_shotBy_74 : code_ 167 74 = some (.iload 4, 76, 0, 0, 0) := by decide +kernel
theorem cd_M_shotBy_76 : code_ 167 76 = some (.ifCond .lt 10, 79, 86, 0, 0) := by decide +kernel
theorem cd_M_shotBy_79 : code_ 167 79 = some (.iload 4, 81, 0, 0, 0) := by decide +kernel
theorem cd_M_shotBy_81 : code_ 167 81 = some (.bipush 40, 83, 0, 0, 0) := by decide +kernel
theorem cd_M_shotBy_83 : code_ 167 83 = some (.if_icmp .le 26, 86, 109, 0, 0) := by decide +kernel
theorem cd_M_shotBy_86 : code_ 167 86 = some (.iload 4, 88, 0, 0, 0) := by decide +kernel
theorem cd_M_shotBy_88 : code_ 167 88 = some (.ifCond .ge 9, 91, 97, 0, 0) := by decide +kernel
theorem cd_M_shotBy_91 : code_ 167 91 = some (.iload 4, 93, 0, 0, 0) := by decide +kernel
theorem cd_M_shotBy_93 : code_ 167 93 = some (.ineg, 94, 0, 0, 0) := by decide +kernel
theorem cd_M_shotBy_94 : code_ 167 94 = some (.goto 8, 97, 102, 0, 0) := by decide +kernel
theorem cd_M_shotBy_97 : code_ 167 97 = some (.bipush 80, 99, 0, 0, 0) := by decide +kernel
theorem cd_M_shotBy_99 : code_ 167 99 = some (.iload 4, 101, 0, 0, 0) := by decide +kernel
theorem cd_M_shotBy_101 : code_ 167 101 = some (.isub, 102, 0, 0, 0) := by decide +kernel
theorem cd_M_shotBy_102 : code_ 167 102 = some (.istore 4, 104, 0, 0, 0) := by decide +kernel
theorem cd_M_shotBy_104 : code_ 167 104 = some (.iload 5, 106, 0, 0, 0) := by decide +kernel
theorem cd_M_shotBy_106 : code_ 167 106 = some (.ineg, 107, 0, 0, 0) := by decide +kernel
theorem cd_M_shotBy_107 : code_ 167 107 = some (.istore 5, 109, 0, 0, 0) := by decide +kernel
theorem cd_M_shotBy_109 : code_ 167 109 = some (.iload 6, 111, 0, 0, 0) := by decide +kernel
theorem cd_M_shotBy_111 : code_ 167 111 = some (.invokestatic 62, 114, 148, 0, 0) := by decide +kernel
theorem cd_M_shotBy_114 : code_ 167 114 = some (.istore 7, 116, 0, 0, 0) := by decide +kernel
theorem cd_M_shotBy_116 : code_ 167 116 = some (.iload 7, 118, 0, 0, 0) := by decide +kernel
theorem cd_M_shotBy_118 : code_ 167 118 = some (.ifCond .eq (-62), 121, 56, 0, 0) := by decide +kernel
theorem cd_M_shotBy_121 : code_ 167 121 = some (.iload 6, 123, 0, 0, 0) := by decide +kernel
theorem cd_M_shotBy_123 : code_ 167 123 = some (.invokestatic 50, 126, 149, 0, 0) := by decide +kernel
theorem cd_M_shotBy_126 : code_ 167 126 = some (.iload_n 2, 127, 0, 0, 0) := by decide +kernel
theorem cd_M_shotBy_127 : code_ 167 127 = some (.if_icmp .eq (-71), 130, 56, 0, 0) := by decide +kernel
theorem cd_M_shotBy_130 : code_ 167 130 = some (.aload_n 0, 131, 0, 0, 0) := by decide +kernel
theorem cd_M_shotBy_131 : code_ 167 131 = some (.iload 6, 133, 0, 0, 0) := by decide +kernel
theorem cd_M_shotBy_133 : code_ 167 133 = some (.iload 4, 135, 0, 0, 0) := by decide +kernel
theorem cd_M_shotBy_135 : code_ 167 135 = some (.invokevirtual 91, 138, 166, 1, 0) := by decide +kernel
theorem cd_M_shotBy_138 : code_ 167 138 = some (.ifCond .lt (-82), 141, 56, 0, 0) := by decide +kernel
theorem cd_M_shotBy_141 : code_ 167 141 = some (.aload_n 0, 142, 0, 0, 0) := by decide +kernel
theorem cd_M_shotBy_142 : code_ 167 142 = some (.aload_n 0, 143, 0, 0, 0) := by decide +kernel
theorem cd_M_shotBy_143 : code_ 167 143 = some (.iload 6, 145, 0, 0, 0) := by decide +kernel
theorem cd_M_shotBy_145 : code_ 167 145 = some (.iload 4, 147, 0, 0, 0) := by decide +kernel
theorem cd_M_shotBy_147 : code_ 167 147 = some (.invokevirtual 91, 150, 166, 1, 0) := by decide +kernel
theorem cd_M_shotBy_150 : code_ 167 150 = some (.putfield 94, 153, 8, 6, 0) := by decide +kernel
theorem cd_M_shotBy_153 : code_ 167 153 = some (.iload 6, 155, 0, 0, 0) := by decide +kernel
theorem cd_M_shotBy_155 : code_ 167 155 = some (.ireturn, 156, 0, 0, 0) := by decide +kernel
theorem cd_M_shotBy_156 : code_ 167 156 = some (.aload_n 0, 157, 0, 0, 0) := by decide +kernel
theorem cd_M_shotBy_157 : code_ 167 157 = some (.iconst 0, 158, 0, 0, 0) := by decide +kernel
theorem cd_M_shotBy_158 : code_ 167 158 = some (.putfield 94, 161, 8, 6, 0) := by decide +kernel
theorem cd_M_shotBy_161 : code_ 167 161 = some (.iload 4, 163, 0, 0, 0) := by decide +kernel
theorem cd_M_shotBy_163 : code_ 167 163 = some (.bipush 15, 165, 0, 0, 0) := by decide +kernel
theorem cd_M_shotBy_165 : code_ 167 165 = some (.bipush 25, 167, 0, 0, 0) := by decide +kernel
theorem cd_M_shotBy_167 : code_ 167 167 = some (.invokestatic 46, 170, 146, 0, 0) := by decide +kernel
theorem cd_M_shotBy_170 : code_ 167 170 = some (.ifCond .eq 8, 173, 178, 0, 0) := by decide +kernel
theorem cd_M_shotBy_173 : code_ 167 173 = some (.bipush 8, 175, 0, 0, 0) := by decide +kernel
theorem cd_M_shotBy_175 : code_ 167 175 = some (.goto 13, 178, 188, 0, 0) := by decide +kernel
theorem cd_M_shotBy_178 : code_ 167 178 = some (.iload_n 2, 179, 0, 0, 0) := by decide +kernel
theorem cd_M_shotBy_179 : code_ 167 179 = some (.ifCond .ne 8, 182, 187, 0, 0) := by decide +kernel
theorem cd_M_shotBy_182 : code_ 167 182 = some (.bipush 7, 184, 0, 0, 0) := by decide +kernel
theorem cd_M_shotBy_184 : code_ 167 184 = some (.goto 4, 187, 188, 0, 0) := by decide +kernel
theorem cd_M_shotBy_187 : code_ 167 187 = some (.iconst 0, 188, 0, 0, 0) := by decide +kernel
theorem cd_M_shotBy_188 : code_ 167 188 = some (.ireturn, 189, 0, 0, 0) := by decide +kernel
theorem cd_M_overBy_0 : code_ 168 0 = some (.iload_n 1, 1, 0, 0, 0) := by decide +kernel
theorem cd_M_overBy_1 : code_ 168 1 = some (.iload_n 3, 2, 0, 0, 0) := by decide +kernel
theorem cd_M_overBy_2 : code_ 168 2 = some (.if_icmp .eq 14, 5, 16, 0, 0) := by decide +kernel
theorem cd_M_overBy_5 : code_ 168 5 = some (.iload_n 1, 6, 0, 0, 0) := by decide +kernel
theorem cd_M_overBy_6 : code_ 168 6 = some (.invokestatic 50, 9, 149, 0, 0) := by decide +kernel
theorem cd_M_overBy_9 : code_ 168 9 = some (.iload_n 3, 10, 0, 0, 0) := by decide +kernel
theorem cd_M_overBy_10 : code_ 168 10 = some (.invokestatic 50, 13, 149, 0, 0) := by decide +kernel
theorem cd_M_overBy_13 : code_ 168 13 = some (.if_icmp .eq 6, 16, 19, 0, 0) := by decide +kernel
theorem cd_M_overBy_16 : code_ 168 16 = some (.bipush (-6), 18, 0, 0, 0) := by decide +kernel
theorem cd_M_overBy_18 : code_ 168 18 = some (.ireturn, 19, 0, 0, 0) := by decide +kernel
theorem cd_M_overBy_19 : code_ 168 19 = some (.aload_n 0, 20, 0, 0, 0) := by decide +kernel
theorem cd_M_overBy_20 : code_ 168 20 = some (.iload_n 1, 21, 0, 0, 0) := by decide +kernel
theorem cd_M_overBy_21 : code_ 168 21 = some (.iload_n 2, 22, 0, 0, 0) := by decide +kernel
theorem cd_M_overBy_22 : code_ 168 22 = some (.invokevirtual 88, 25, 165, 1, 0) := by decide +kernel
theorem cd_M_overBy_25 : code_ 168 25 = some (.istore 4, 27, 0, 0, 0) := by decide +kernel
theorem cd_M_overBy_27 : code_ 168 27 = some (.iconst 4, 28, 0, 0, 0) := by decide +kernel
theorem cd_M_overBy_28 : code_ 168 28 = some (.istore 5, 30, 0, 0, 0) := by decide +kernel
theorem cd_M_overBy_30 : code_ 168 30 = some (.iconst 0, 31, 0, 0, 0) := by decide +kernel
theorem cd_M_overBy_31 : code_ 168 31 = some (.istore 6, 33, 0, 0, 0) := by decide +kernel
theorem cd_M_overBy_33 : code_ 168 33 = some (.iload 6, 35, 0, 0, 0) := by decide +kernel
theorem cd_M_overBy_35 : code_ 168 35 = some (.iload_n 3, 36, 0, 0, 0) := by decide +kernel
theorem cd_M_overBy_36 : code_ 168 36 = some (.invokestatic 56, 39, 151, 0, 0) := by decide +kernel
theorem cd_M_overBy_39 : code_ 168 39 = some (.if_icmp .ge 72, 42, 111, 0, 0) := by decide +kernel
theorem cd_M_overBy_42 : code_ 168 42 = some (.aload_n 0, 43, 0, 0, 0) := by decide +kernel
theorem cd_M_overBy_43 : code_ 168 43 = some (.iload_n 3, 44, 0, 0, 0) := by decide +kernel
theorem cd_M_overBy_44 : code_ 168 44 = some (.iload 6, 46, 0, 0, 0) := by decide +kernel
theorem cd_M_overBy_46 : code_ 168 46 = some (.invokevirtual 88, 49, 165, 1, 0) := by decide +kernel
theorem cd_M_overBy_49 : code_ 168 49 = some (.iload 4, 51, 0, 0, 0) := by decide +kernel
theorem cd_M_overBy_51 : code_ 168 51 = some (.isub, 52, 0, 0, 0) := by decide +kernel
theorem cd_M_overBy_52 : code_ 168 52 = some (.istore 7, 54, 0, 0, 0) := by decide +kernel
theorem cd_M_overBy_54 : code_ 168 54 = some (.iload 7, 56, 0, 0, 0) := by decide +kernel
theorem cd_M_overBy_56 : code_ 168 56 = some (.ifCond .ge 9, 59, 65, 0, 0) := by decide +kernel
theorem cd_M_overBy_59 : code_ 168 59 = some (.iload 7, 61, 0, 0, 0) := by decide +kernel
theorem cd_M_overBy_61 : code_ 168 61 = some (.ineg, 62, 0, 0, 0) := by decide +kernel
theorem cd_M_overBy_62 : code_ 168 62 = some (.goto 5, 65, 67, 0, 0) := by decide +kernel
theorem cd_M_overBy_65 : code_ 168 65 = some (.iload 7, 67, 0, 0, 0) := by decide +kernel
theorem cd_M_overBy_67 : code_ 168 67 = some (.istore 7, 69, 0, 0, 0) := by decide +kernel
theorem cd_M_overBy_69 : code_ 168 69 = some (.aload_n 0, 70, 0, 0, 0) := by decide +kernel
theorem cd_M_overBy_70 : code_ 168 70 = some (.iload 7, 72, 0, 0, 0) := by decide +kernel
theorem cd_M_overBy_72 : code_ 168 72 = some (.iload 5, 74, 0, 0, 0) := by decide +kernel
theorem cd_M_overBy_74 : code_ 168 74 = some (.if_icmp .ge 8, 77, 82, 0, 0) := by decide +kernel
theorem cd_M_overBy_77 : code_ 168 77 = some (.iload 6, 79, 0, 0, 0) := by decide +kernel
theorem cd_M_overBy_79 : code_ 168 79 = some (.goto 7, 82, 86, 0, 0) := by decide +kernel
theorem cd_M_overBy_82 : code_ 168 82 = some (.aload_n 0, 83, 0, 0, 0) := by decide +kernel
theorem cd_M_overBy_83 : code_ 168 83 = some (.getfield 97, 86, 8, 7, 0) := by decide +kernel
theorem cd_M_overBy_86 : code_ 168 86 = some (.putfield 97, 89, 8, 7, 0) := by decide +kernel
theorem cd_M_overBy_89 : code_ 168 89 = some (.iload 7, 91, 0, 0, 0) := by decide +kernel
theorem cd_M_overBy_91 : code_ 168 91 = some (.iload 5, 93, 0, 0, 0) := by decide +kernel
theorem cd_M_overBy_93 : code_ 168 93 = some (.if_icmp .ge 8, 96, 101, 0, 0) := by decide +kernel
theorem cd_M_overBy_96 : code_ 168 96 = some (.iload 7, 98, 0, 0, 0) := by decide +kernel
theorem cd_M_overBy_98 : code_ 168 98 = some (.goto 5, 101, 103, 0, 0) := by decide +kernel
theorem cd_M_overBy_101 : code_ 168 101 = some (.iload 5, 103, 0, 0, 0) := by decide +kernel
theorem cd_M_overBy_103 : code_ 168 103 = some (.istore 5, 105, 0, 0, 0) := by decide +kernel
theorem cd_M_overBy_105 : code_ 168 105 = some (.iinc 6 1, 108, 0, 0, 0) := by decide +kernel
theorem cd_M_overBy_108 : code_ 168 108 = some (.goto (-75), 111, 33, 0, 0) := by decide +kernel
theorem cd_M_overBy_111 : code_ 168 111 = some (.iload 5, 113, 0, 0, 0) := by decide +kernel
theorem cd_M_overBy_113 : code_ 168 113 = some (.iconst 3, 114, 0, 0, 0) := by decide +kernel
theorem cd_M_overBy_114 : code_ 168 114 = some (.if_icmp .le 6, 117, 120, 0, 0) := by decide +kernel
theorem cd_M_overBy_117 : code_ 168 117 = some (.bipush (-6), 119, 0, 0, 0) := by decide +kernel
theorem cd_M_overBy_119 : code_ 168 119 = some (.ireturn, 120, 0, 0, 0) := by decide +kernel
theorem cd_M_overBy_120 : code_ 168 120 = some (.iload_n 3, 121, 0, 0, 0) := by decide +kernel
theorem cd_M_overBy_121 : code_ 168 121 = some (.iload_n 1, 122, 0, 0, 0) := by decide +kernel
theorem cd_M_overBy_122 : code_ 168 122 = some (.if_icmp .le 7, 125, 129, 0, 0) := by decide +kernel
theorem cd_M_overBy_125 : code_ 168 125 = some (.iconst 1, 126, 0, 0, 0) := by decide +kernel
theorem cd_M_overBy_126 : code_ 168 126 = some (.goto 4, 129, 130, 0, 0) := by decide +kernel
theorem cd_M_overBy_129 : code_ 168 129 = some (.iconst (-1), 130, 0, 0, 0) := by decide +kernel
theorem cd_M_overBy_130 : code_ 168 130 = some (.istore 6, 132, 0, 0, 0) := by decide +kernel
theorem cd_M_overBy_132 : code_ 168 132 = some (.iload_n 1, 133, 0, 0, 0) := by decide +kernel
theorem cd_M_overBy_133 : code_ 168 133 = some (.iload 6, 135, 0, 0, 0) := by decide +kernel
theorem cd_M_overBy_135 : code_ 168 135 = some (.iadd, 136, 0, 0, 0) := by decide +kernel
theorem cd_M_overBy_136 : code_ 168 136 = some (.istore 7, 138, 0, 0, 0) := by decide +kernel
theorem cd_M_overBy_138 : code_ 168 138 = some (.iload 7, 140, 0, 0, 0) := by decide +kernel
theorem cd_M_overBy_140 : code_ 168 140 = some (.iload_n 3, 141, 0, 0, 0) := by decide +kernel
theorem cd_M_overBy_141 : code_ 168 141 = some (.if_icmp .eq 51, 144, 192, 0, 0) := by decide +kernel
theorem cd_M_overBy_144 : code_ 168 144 = some (.iload 7, 146, 0, 0, 0) := by decide +kernel
theorem cd_M_overBy_146 : code_ 168 146 = some (.invokestatic 50, 149, 149, 0, 0) := by decide +kernel
theorem cd_M_overBy_149 : code_ 168 149 = some (.iload_n 1, 150, 0, 0, 0) := by decide +kernel
theorem cd_M_overBy_150 : code_ 168 150 = some (.invokestatic 50, 153, 149, 0, 0) := by decide +kernel
theorem cd_M_overBy_153 : code_ 168 153 = some (.if_icmp .eq 29, 156, 182, 0, 0) := by decide +kernel
theorem cd_M_overBy_156 : code_ 168 156 = some (.aload_n 0, 157, 0, 0, 0) := by decide +kernel
theorem cd_M_overBy_157 : code_ 168 157 = some (.iload 7, 159, 0, 0, 0) := by decide +kernel
theorem cd_M_overBy_159 : code_ 168 159 = some (.iload 4, 161, 0, 0, 0) := by decide +kernel
theorem cd_M_overBy_161 : code_ 168 161 = some (.invokevirtual 91, 164, 166, 1, 0) := by decide +kernel
theorem cd_M_overBy_164 : code_ 168 164 = some (.ifCond .lt 18, 167, 182, 0, 0) := by decide +kernel
theorem cd_M_overBy_167 : code_ 168 167 = some (.aload_n 0, 168, 0, 0, 0) := by decide +kernel
theorem cd_M_overBy_168 : code_ 168 168 = some (.aload_n 0, 169, 0, 0, 0) := by decide +kernel
theorem cd_M_overBy_169 : code_ 168 169 = some (.iload 7, 171, 0, 0, 0) := by decide +kernel
theorem cd_M_overBy_171 : code_ 168 171 = some (.iload 4, 173, 0, 0, 0) := by decide +kernel
theorem cd_M_overBy_173 : code_ 168 173 = some (.invokevirtual 91, 176, 166, 1, 0) := by decide +kernel
theorem cd_M_overBy_176 : code_ 168 176 = some (.putfield 97, 179, 8, 7, 0) := by decide +kernel
theorem cd_M_overBy_179 : code_ 168 179 = some (.iload 7, 181, 0, 0, 0) := by decide +kernel
theorem cd_M_overBy_181 : code_ 168 181 = some (.ireturn, 182, 0, 0, 0) := by decide +kernel
theorem cd_M_overBy_182 : code_ 168 182 = some (.iload 7, 184, 0, 0, 0) := by decide +kernel
theorem cd_M_overBy_184 : code_ 168 184 = some (.iload 6, 186, 0, 0, 0) := by decide +kernel
theorem cd_M_overBy_186 : code_ 168 186 = some (.iadd, 187, 0, 0, 0) := by decide +kernel
theorem cd_M_overBy_187 : code_ 168 187 = some (.istore 7, 189, 0, 0, 0) := by decide +kernel
theorem cd_M_overBy_189 : code_ 168 189 = some (.goto (-51), 192, 138, 0, 0) := by decide +kernel
theorem cd_M_overBy_192 : code_ 168 192 = some (.iload_n 3, 193, 0, 0, 0) := by decide +kernel
theorem cd_M_overBy_193 : code_ 168 193 = some (.ireturn, 194, 0, 0, 0) := by decide +kernel
theorem cd_M_asNow_0 : code_ 169 0 = some (.iconst 0, 1, 0, 0, 0) := by decide +kernel
theorem cd_M_asNow_1 : code_ 169 1 = some (.istore_n 1, 2, 0, 0, 0) := by decide +kernel
theorem cd_M_asNow_2 : code_ 169 2 = some (.iload_n 1, 3, 0, 0, 0) := by decide +kernel
theorem cd_M_asNow_3 : code_ 169 3 = some (.bipush 21, 5, 0, 0, 0) := by decide +kernel
theorem cd_M_asNow_5 : code_ 169 5 = some (.if_icmp .ge 21, 8, 26, 0, 0) := by decide +kernel
theorem cd_M_asNow_8 : code_ 169 8 = some (.aload_n 0, 9, 0, 0, 0) := by decide +kernel
theorem cd_M_asNow_9 : code_ 169 9 = some (.getfield 13, 12, 8, 1, 2) := by decide +kernel
theorem cd_M_asNow_12 : code_ 169 12 = some (.iload_n 1, 13, 0, 0, 0) := by decide +kernel
theorem cd_M_asNow_13 : code_ 169 13 = some (.aload_n 0, 14, 0, 0, 0) := by decide +kernel
theorem cd_M_asNow_14 : code_ 169 14 = some (.getfield 7, 17, 8, 0, 2) := by decide +kernel
theorem cd_M_asNow_17 : code_ 169 17 = some (.iload_n 1, 18, 0, 0, 0) := by decide +kernel
theorem cd_M_asNow_18 : code_ 169 18 = some (.iaload, 19, 0, 0, 0) := by decide +kernel
theorem cd_M_asNow_19 : code_ 169 19 = some (.iastore, 20, 0, 0, 0) := by decide +kernel
theorem cd_M_asNow_20 : code_ 169 20 = some (.iinc 1 1, 23, 0, 0, 0) := by decide +kernel
theorem cd_M_asNow_23 : code_ 169 23 = some (.goto (-21), 26, 2, 0, 0) := by decide +kernel
theorem cd_M_asNow_26 : code_ 169 26 = some (.aload_n 0, 27, 0, 0, 0) := by decide +kernel
theorem cd_M_asNow_27 : code_ 169 27 = some (.bipush (-6), 29, 0, 0, 0) := by decide +kernel
theorem cd_M_asNow_29 : code_ 169 29 = some (.putfield 100, 32, 8, 8, 0) := by decide +kernel
theorem cd_M_asNow_32 : code_ 169 32 = some (.return_, 33, 0, 0, 0) := by decide +kernel
theorem cd_M_isOver_0 : code_ 170 0 = some (.aload_n 0, 1, 0, 0, 0) := by decide +kernel
theorem cd_M_isOver_1 : code_ 170 1 = some (.getfield 13, 4, 8, 1, 2) := by decide +kernel
theorem cd_M_isOver_4 : code_ 170 4 = some (.bipush 18, 6, 0, 0, 0) := by decide +kernel
theorem cd_M_isOver_6 : code_ 170 6 = some (.iaload, 7, 0, 0, 0) := by decide +kernel
theorem cd_M_isOver_7 : code_ 170 7 = some (.bipush 10, 9, 0, 0, 0) := by decide +kernel
theorem cd_M_isOver_9 : code_ 170 9 = some (.if_icmp .eq 15, 12, 24, 0, 0) := by decide +kernel
theorem cd_M_isOver_12 : code_ 170 12 = some (.aload_n 0, 13, 0, 0, 0) := by decide +kernel
theorem cd_M_isOver_13 : code_ 170 13 = some (.getfield 13, 16, 8, 1, 2) := by decide +kernel
theorem cd_M_isOver_16 : code_ 170 16 = some (.bipush 19, 18, 0, 0, 0) := by decide +kernel
theorem cd_M_isOver_18 : code_ 170 18 = some (.iaload, 19, 0, 0, 0) := by decide +kernel
theorem cd_M_isOver_19 : code_ 170 19 = some (.bipush 10, 21, 0, 0, 0) := by decide +kernel
theorem cd_M_isOver_21 : code_ 170 21 = some (.if_icmp .ne 7, 24, 28, 0, 0) := by decide +kernel
theorem cd_M_isOver_24 : code_ 170 24 = some (.iconst 1, 25, 0, 0, 0) := by decide +kernel
theorem cd_M_isOver_25 : code_ 170 25 = some (.goto 4, 28, 29, 0, 0) := by decide +kernel
theorem cd_M_isOver_28 : code_ 170 28 = some (.iconst 0, 29, 0, 0, 0) := by decide +kernel
theorem cd_M_isOver_29 : code_ 170 29 = some (.ireturn, 30, 0, 0, 0) := by decide +kernel
theorem cd_M_grasp_0 : code_ 171 0 = some (.aload_n 0, 1, 0, 0, 0) := by decide +kernel
theorem cd_M_grasp_1 : code_ 171 1 = some (.invokevirtual 103, 4, 170, 1, 0) := by decide +kernel
theorem cd_M_grasp_4 : code_ 171 4 = some (.ifCond .eq 5, 7, 9, 0, 0) := by decide +kernel
theorem cd_M_grasp_7 : code_ 171 7 = some (.iconst 1, 8, 0, 0, 0) := by decide +kernel
theorem cd_M_grasp_8 : code_ 171 8 = some (.ireturn, 9, 0, 0, 0) := by decide +kernel
theorem cd_M_grasp_9 : code_ 171 9 = some (.aload_n 0, 10, 0, 0, 0) := by decide +kernel
theorem cd_M_grasp_10 : code_ 171 10 = some (.getfield 13, 13, 8, 1, 2) := by decide +kernel
theorem cd_M_grasp_13 : code_ 171 13 = some (.bipush 8, 15, 0, 0, 0) := by decide +kernel
theorem cd_M_grasp_15 : code_ 171 15 = some (.iload_n 1, 16, 0, 0, 0) := by decide +kernel
theorem cd_M_grasp_16 : code_ 171 16 = some (.iadd, 17, 0, 0, 0) := by decide +kernel
theorem cd_M_grasp_17 : code_ 171 17 = some (.iaload, 18, 0, 0, 0) := by decide +kernel
theorem cd_M_grasp_18 : code_ 171 18 = some (.iconst 1, 19, 0, 0, 0) := by decide +kernel
theorem cd_M_grasp_19 : code_ 171 19 = some (.if_icmp .ne 5, 22, 24, 0, 0) := by decide +kernel
theorem cd_M_grasp_22 : code_ 171 22 = some (.iconst 3, 23, 0, 0, 0) := by decide +kernel
theorem cd_M_grasp_23 : code_ 171 23 = some (.ireturn, 24, 0, 0, 0) := by decide +kernel
theorem cd_M_grasp_24 : code_ 171 24 = some (.aload_n 0, 25, 0, 0, 0) := by decide +kernel
theorem cd_M_grasp_25 : code_ 171 25 = some (.iload_n 1, 26, 0, 0, 0) := by decide +kernel
theorem cd_M_grasp_26 : code_ 171 26 = some (.invokestatic 50, 29, 149, 0, 0) := by decide +kernel
theorem cd_M_grasp_29 : code_ 171 29 = some (.iload_n 1, 30, 0, 0, 0) := by decide +kernel
theorem cd_M_grasp_30 : code_ 171 30 = some (.invokevirtual 69, 33, 155, 1, 0) := by decide +kernel
theorem cd_M_grasp_33 : code_ 171 33 = some (.iconst 2, 34, 0, 0, 0) := by decide +kernel
theorem cd_M_grasp_34 : code_ 171 34 = some (.if_icmp .ne 5, 37, 39, 0, 0) := by decide +kernel
theorem cd_M_grasp_37 : code_ 171 37 = some (.iconst 4, 38, 0, 0, 0) := by decide +kernel
theorem cd_M_grasp_38 : code_ 171 38 = some (.ireturn, 39, 0, 0, 0) := by decide +kernel
theorem cd_M_grasp_39 : code_ 171 39 = some (.aload_n 0, 40, 0, 0, 0) := by decide +kernel
theorem cd_M_grasp_40 : code_ 171 40 = some (.getfield 13, 43, 8, 1, 2) := by decide +kernel
theorem cd_M_grasp_43 : code_ 171 43 = some (.bipush 8, 45, 0, 0, 0) := by decide +kernel
theorem cd_M_grasp_45 : code_ 171 45 = some (.iload_n 1, 46, 0, 0, 0) := by decide +kernel
theorem cd_M_grasp_46 : code_ 171 46 = some (.iadd, 47, 0, 0, 0) := by decide +kernel
theorem cd_M_grasp_47 : code_ 171 47 = some (.iconst 1, 48, 0, 0, 0) := by decide +kernel
theorem cd_M_grasp_48 : code_ 171 48 = some (.iastore, 49, 0, 0, 0) := by decide +kernel
theorem cd_M_grasp_49 : code_ 171 49 = some (.iconst 0, 50, 0, 0, 0) := by decide +kernel
theorem cd_M_grasp_50 : code_ 171 50 = some (.ireturn, 51, 0, 0, 0) := by decide +kernel
theorem cd_M_letGo_0 : code_ 172 0 = some (.aload_n 0, 1, 0, 0, 0) := by decide +kernel
theorem cd_M_letGo_1 : code_ 172 1 = some (.invokevirtual 103, 4, 170, 1, 0) := by decide +kernel
theorem cd_M_letGo_4 : code_ 172 4 = some (.ifCond .eq 5, 7, 9, 0, 0) := by decide +kernel
theorem cd_M_letGo_7 : code_ 172 7 = some (.iconst 1, 8, 0, 0, 0) := by decide +kernel
theorem cd_M_letGo_8 : code_ 172 8 = some (.ireturn, 9, 0, 0, 0) := by decide +kernel
theorem cd_M_letGo_9 : code_ 172 9 = some (.aload_n 0, 10, 0, 0, 0) := by decide +kernel
theorem cd_M_letGo_10 : code_ 172 10 = some (.getfield 13, 13, 8, 1, 2) := by decide +kernel
theorem cd_M_letGo_13 : code_ 172 13 = some (.bipush 8, 15, 0, 0, 0) := by decide +kernel
theorem cd_M_letGo_15 : code_ 172 15 = some (.iload_n 1, 16, 0, 0, 0) := by decide +kernel
theorem cd_M_letGo_16 : code_ 172 16 = some (.iadd, 17, 0, 0, 0) := by decide +kernel
theorem cd_M_letGo_17 : code_ 172 17 = some (.iaload, 18, 0, 0, 0) := by decide +kernel
theorem cd_M_letGo_18 : code_ 172 18 = some (.ifCond .ne 5, 21, 23, 0, 0) := by decide +kernel
theorem cd_M_letGo_21 : code_ 172 21 = some (.iconst 3, 22, 0, 0, 0) := by decide +kernel
theorem cd_M_letGo_22 : code_ 172 22 = some (.ireturn, 23, 0, 0, 0) := by decide +kernel
theorem cd_M_letGo_23 : code_ 172 23 = some (.aload_n 0, 24, 0, 0, 0) := by decide +kernel
theorem cd_M_letGo_24 : code_ 172 24 = some (.getfield 13, 27, 8, 1, 2) := by decide +kernel
theorem cd_M_letGo_27 : code_ 172 27 = some (.bipush 8, 29, 0, 0, 0) := by decide +kernel
theorem cd_M_letGo_29 : code_ 172 29 = some (.iload_n 1, 30, 0, 0, 0) := by decide +kernel
theorem cd_M_letGo_30 : code_ 172 30 = some (.iadd, 31, 0, 0, 0) := by decide +kernel
theorem cd_M_letGo_31 : code_ 172 31 = some (.iconst 0, 32, 0, 0, 0) := by decide +kernel
theorem cd_M_letGo_32 : code_ 172 32 = some (.iastore, 33, 0, 0, 0) := by decide +kernel
theorem cd_M_letGo_33 : code_ 172 33 = some (.iconst 0, 34, 0, 0, 0) := by decide +kernel
theorem cd_M_letGo_34 : code_ 172 34 = some (.ireturn, 35, 0, 0, 0) := by decide +kernel
theorem cd_M_slideBy_0 : code_ 173 0 = some (.aload_n 0, 1, 0, 0, 0) := by decide +kernel
theorem cd_M_slideBy_1 : code_ 173 1 = some (.invokevirtual 103, 4, 170, 1, 0) := by decide +kernel
theorem cd_M_slideBy_4 : code_ 173 4 = some (.ifCond .eq 5, 7, 9, 0, 0) := by decide +kernel
theorem cd_M_slideBy_7 : code_ 173 7 = some (.iconst 1, 8, 0, 0, 0) := by decide +kernel
theorem cd_M_slideBy_8 : code_ 173 8 = some (.ireturn, 9, 0, 0, 0) := by decide +kernel
theorem cd_M_slideBy_9 : code_ 173 9 = some (.aload_n 0, 10, 0, 0, 0) := by decide +kernel
theorem cd_M_slideBy_10 : code_ 173 10 = some (.getfield 13, 13, 8, 1, 2) := by decide +kernel
theorem cd_M_slideBy_13 : code_ 173 13 = some (.bipush 8, 15, 0, 0, 0) := by decide +kernel
theorem cd_M_slideBy_15 : code_ 173 15 = some (.iload_n 1, 16, 0, 0, 0) := by decide +kernel
theorem cd_M_slideBy_16 : code_ 173 16 = some (.iadd, 17, 0, 0, 0) := by decide +kernel
theorem cd_M_slideBy_17 : code_ 173 17 = some (.iaload, 18, 0, 0, 0) := by decide +kernel
theorem cd_M_slideBy_18 : code_ 173 18 = some (.ifCond .ne 5, 21, 23, 0, 0) := by decide +kernel
theorem cd_M_slideBy_21 : code_ 173 21 = some (.iconst 3, 22, 0, 0, 0) := by decide +kernel
theorem cd_M_slideBy_22 : code_ 173 22 = some (.ireturn, 23, 0, 0, 0) := by decide +kernel
theorem cd_M_slideBy_23 : code_ 173 23 = some (.aload_n 0, 24, 0, 0, 0) := by decide +kernel
theorem cd_M_slideBy_24 : code_ 173 24 = some (.getfield 13, 27, 8, 1, 2) := by decide +kernel
theorem cd_M_slideBy_27 : code_ 173 27 = some (.iload_n 1, 28, 0, 0, 0) := by decide +kernel
theorem cd_M_slideBy_28 : code_ 173 28 = some (.iaload, 29, 0, 0, 0) := by decide +kernel
theorem cd_M_slideBy_29 : code_ 173 29 = some (.iload_n 2, 30, 0, 0, 0) := by decide +kernel
theorem cd_M_slideBy_30 : code_ 173 30 = some (.iadd, 31, 0, 0, 0) := by decide +kernel
theorem cd_M_slideBy_31 : code_ 173 31 = some (.iconst 0, 32, 0, 0, 0) := by decide +kernel
theorem cd_M_slideBy_32 : code_ 173 32 = some (.iload_n 1, 33, 0, 0, 0) := by decide +kernel
theorem cd_M_slideBy_33 : code_ 173 33 = some (.invokestatic 42, 36, 153, 0, 0) := by decide +kernel
theorem cd_M_slideBy_36 : code_ 173 36 = some (.invokestatic 46, 39, 146, 0, 0) := by decide +kernel
theorem cd_M_slideBy_39 : code_ 173 39 = some (.ifCond .ne 5, 42, 44, 0, 0) := by decide +kernel
theorem cd_M_slideBy_42 : code_ 173 42 = some (.iconst 5, 43, 0, 0, 0) := by decide +kernel
theorem cd_M_slideBy_43 : code_ 173 43 = some (.ireturn, 44, 0, 0, 0) := by decide +kernel
theorem cd_M_slideBy_44 : code_ 173 44 = some (.aload_n 0, 45, 0, 0, 0) := by decide +kernel
theorem cd_M_slideBy_45 : code_ 173 45 = some (.getfield 13, 48, 8, 1, 2) := by decide +kernel
theorem cd_M_slideBy_48 : code_ 173 48 = some (.iload_n 1, 49, 0, 0, 0) := by decide +kernel
theorem cd_M_slideBy_49 : code_ 173 49 = some (.dup2, 50, 0, 0, 0) := by decide +kernel
theorem cd_M_slideBy_50 : code_ 173 50 = some (.iaload, 51, 0, 0, 0) := by decide +kernel
theorem cd_M_slideBy_51 : code_ 173 51 = some (.iload_n 2, 52, 0, 0, 0) := by decide +kernel
theorem cd_M_slideBy_52 : code_ 173 52 = some (.iadd, 53, 0, 0, 0) := by decide +kernel
theorem cd_M_slideBy_53 : code_ 173 53 = some (.iastore, 54, 0, 0, 0) := by decide +kernel
theorem cd_M_slideBy_54 : code_ 173 54 = some (.iconst 0, 55, 0, 0, 0) := by decide +kernel
theorem cd_M_slideBy_55 : code_ 173 55 = some (.ireturn, 56, 0, 0, 0) := by decide +kernel
theorem cd_M_whyNot_0 : code_ 174 0 = some (.aload_n 0, 1, 0, 0, 0) := by decide +kernel
theorem cd_M_whyNot_1 : code_ 174 1 = some (.invokevirtual 103, 4, 170, 1, 0) := by decide +kernel
theorem cd_M_whyNot_4 : code_ 174 4 = some (.ifCond .eq 7, 7, 11, 0, 0) := by decide +kernel
theorem cd_M_whyNot_7 : code_ 174 7 = some (.iconst 1, 8, 0, 0, 0) := by decide +kernel
theorem cd_M_whyNot_8 : code_ 174 8 = some (.goto 40, 11, 48, 0, 0) := by decide +kernel
theorem cd_M_whyNot_11 : code_ 174 11 = some (.aload_n 0, 12, 0, 0, 0) := by decide +kernel
theorem cd_M_whyNot_12 : code_ 174 12 = some (.getfield 13, 15, 8, 1, 2) := by decide +kernel
theorem cd_M_whyNot_15 : code_ 174 15 = some (.bipush 16, 17, 0, 0, 0) := by decide +kernel
theorem cd_M_whyNot_17 : code_ 174 17 = some (.iaload, 18, 0, 0, 0) := by decide +kernel
theorem cd_M_whyNot_18 : code_ 174 18 = some (.ifCond .ge 7, 21, 25, 0, 0) := by decide +kernel
theorem cd_M_whyNot_21 : code_ 174 21 = some (.iconst 2, 22, 0, 0, 0) := by decide +kernel
theorem cd_M_whyNot_22 : code_ 174 22 = some (.goto 26, 25, 48, 0, 0) := by decide +kernel
theorem cd_M_whyNot_25 : code_ 174 25 = some (.aload_n 0, 26, 0, 0, 0) := by decide +kernel
theorem cd_M_whyNot_26 : code_ 174 26 = some (.getfield 13, 29, 8, 1, 2) := by decide +kernel
theorem cd_M_whyNot_29 : code_ 174 29 = some (.bipush 8, 31, 0, 0, 0) := by decide +kernel
theorem cd_M_whyNot_31 : code_ 174 31 = some (.aload_n 0, 32, 0, 0, 0) := by decide +kernel
theorem cd_M_whyNot_32 : code_ 174 32 = some (.getfield 13, 35, 8, 1, 2) := by decide +kernel
theorem cd_M_whyNot_35 : code_ 174 35 = some (.bipush 16, 37, 0, 0, 0) := by decide +kernel
theorem cd_M_whyNot_37 : code_ 174 37 = some (.iaload, 38, 0, 0, 0) := by decide +kernel
theorem cd_M_whyNot_38 : code_ 174 38 = some (.iadd, 39, 0, 0, 0) := by decide +kernel
theorem cd_M_whyNot_39 : code_ 174 39 = some (.iaload, 40, 0, 0, 0) := by decide +kernel
theorem cd_M_whyNot_40 : code_ 174 40 = some (.ifCond .ne 7, 43, 47, 0, 0) := by decide +kernel
theorem cd_M_whyNot_43 : code_ 174 43 = some (.iconst 3, 44, 0, 0, 0) := by decide +kernel
theorem cd_M_whyNot_44 : code_ 174 44 = some (.goto 4, 47, 48, 0, 0) := by decide +kernel
theorem cd_M_whyNot_47 : code_ 174 47 = some (.iconst 0, 48, 0, 0, 0) := by decide +kernel
theorem cd_M_whyNot_48 : code_ 174 48 = some (.ireturn, 49, 0, 0, 0) := by decide +kernel
theorem cd_M_passTo_0 : code_ 175 0 = some (.aload_n 0, 1, 0, 0, 0) := by decide +kernel
theorem cd_M_passTo_1 : code_ 175 1 = some (.invokevirtual 107, 4, 174, 1, 0) := by decide +kernel
theorem cd_M_passTo_4 : code_ 175 4 = some (.istore_n 2, 5, 0, 0, 0) := by decide +kernel
theorem cd_M_passTo_5 : code_ 175 5 = some (.iload_n 2, 6, 0, 0, 0) := by decide +kernel
theorem cd_M_passTo_6 : code_ 175 6 = some (.ifCond .le 5, 9, 11, 0, 0) := by decide +kernel
theorem cd_M_passTo_9 : code_ 175 9 = some (.iload_n 2, 10, 0, 0, 0) := by decide +kernel
theorem cd_M_passTo_10 : code_ 175 10 = some (.ireturn, 11, 0, 0, 0) := by decide +kernel
theorem cd_M_passTo_11 : code_ 175 11 = some (.aload_n 0, 12, 0, 0, 0) := by decide +kernel
theorem cd_M_passTo_12 : code_ 175 12 = some (.getfield 13, 15, 8, 1, 2) := by decide +kernel
theorem cd_M_passTo_15 : code_ 175 15 = some (.bipush 16, 17, 0, 0, 0) := by decide +kernel
theorem cd_M_passTo_17 : code_ 175 17 = some (.iaload, 18, 0, 0, 0) := by decide +kernel
theorem cd_M_passTo_18 : code_ 175 18 = some (.iload_n 1, 19, 0, 0, 0) := by decide +kernel
theorem cd_M_passTo_19 : code_ 175 19 = some (.invokestatic 73, 22, 154, 0, 0) := by decide +kernel
theorem cd_M_passTo_22 : code_ 175 22 = some (.ifCond .eq 29, 25, 51, 0, 0) := by decide +kernel
theorem cd_M_passTo_25 : code_ 175 25 = some (.iload_n 1, 26, 0, 0, 0) := by decide +kernel
theorem cd_M_passTo_26 : code_ 175 26 = some (.aload_n 0, 27, 0, 0, 0) := by decide +kernel
theorem cd_M_passTo_27 : code_ 175 27 = some (.getfield 13, 30, 8, 1, 2) := by decide +kernel
theorem cd_M_passTo_30 : code_ 175 30 = some (.bipush 17, 32, 0, 0, 0) := by decide +kernel
theorem cd_M_passTo_32 : code_ 175 32 = some (.iaload, 33, 0, 0, 0) := by decide +kernel
theorem cd_M_passTo_33 : code_ 175 33 = some (.iconst 1, 34, 0, 0, 0) := by decide +kernel
theorem cd_M_passTo_34 : code_ 175 34 = some (.iadd, 35, 0, 0, 0) := by decide +kernel
theorem cd_M_passTo_35 : code_ 175 35 = some (.if_icmp .eq 19, 38, 54, 0, 0) := by decide +kernel
theorem cd_M_passTo_38 : code_ 175 38 = some (.iload_n 1, 39, 0, 0, 0) := by decide +kernel
theorem cd_M_passTo_39 : code_ 175 39 = some (.aload_n 0, 40, 0, 0, 0) := by decide +kernel
theorem cd_M_passTo_40 : code_ 175 40 = some (.getfield 13, 43, 8, 1, 2) := by decide +kernel
theorem cd_M_passTo_43 : code_ 175 43 = some (.bipush 17, 45, 0, 0, 0) := by decide +kernel
theorem cd_M_passTo_45 : code_ 175 45 = some (.iaload, 46, 0, 0, 0) := by decide +kernel
theorem cd_M_passTo_46 : code_ 175 46 = some (.iconst 1, 47, 0, 0, 0) := by decide +kernel
theorem cd_M_passTo_47 : code_ 175 47 = some (.isub, 48, 0, 0, 0) := by decide +kernel
theorem cd_M_passTo_48 : code_ 175 48 = some (.if_icmp .eq 6, 51, 54, 0, 0) := by decide +kernel
theorem cd_M_passTo_51 : code_ 175 51 = some (.bipush 6, 53, 0, 0, 0) := by decide +kernel
theorem cd_M_passTo_53 : code_ 175 53 = some (.ireturn, 54, 0, 0, 0) := by decide +kernel
theorem cd_M_passTo_54 : code_ 175 54 = some (.aload_n 0, 55, 0, 0, 0) := by decide +kernel
theorem cd_M_passTo_55 : code_ 175 55 = some (.getfield 13, 58, 8, 1, 2) := by decide +kernel
theorem cd_M_passTo_58 : code_ 175 58 = some (.bipush 17, 60, 0, 0, 0) := by decide +kernel
theorem cd_M_passTo_60 : code_ 175 60 = some (.iload_n 1, 61, 0, 0, 0) := by decide +kernel
theorem cd_M_passTo_61 : code_ 175 61 = some (.iastore, 62, 0, 0, 0) := by decide +kernel
theorem cd_M_passTo_62 : code_ 175 62 = some (.iconst 0, 63, 0, 0, 0) := by decide +kernel
theorem cd_M_passTo_63 : code_ 175 63 = some (.ireturn, 64, 0, 0, 0) := by decide +kernel
theorem cd_M_passOver_0 : code_ 176 0 = some (.aload_n 0, 1, 0, 0, 0) := by decide +kernel
theorem cd_M_passOver_1 : code_ 176 1 = some (.invokevirtual 107, 4, 174, 1, 0) := by decide +kernel
theorem cd_M_passOver_4 : code_ 176 4 = some (.istore_n 2, 5, 0, 0, 0) := by decide +kernel
theorem cd_M_passOver_5 : code_ 176 5 = some (.iload_n 2, 6, 0, 0, 0) := by decide +kernel
theorem cd_M_passOver_6 : code_ 176 6 = some (.ifCond .le 5, 9, 11, 0, 0) := by decide +kernel
theorem cd_M_passOver_9 : code_ 176 9 = some (.iload_n 2, 10, 0, 0, 0) := by decide +kernel
theorem cd_M_passOver_10 : code_ 176 10 = some (.ireturn, 11, 0, 0, 0) := by decide +kernel
theorem cd_M_passOver_11 : code_ 176 11 = some (.aload_n 0, 12, 0, 0, 0) := by decide +kernel
theorem cd_M_passOver_12 : code_ 176 12 = some (.aload_n 0, 13, 0, 0, 0) := by decide +kernel
theorem cd_M_passOver_13 : code_ 176 13 = some (.getfield 13, 16, 8, 1, 2) := by decide +kernel
theorem cd_M_passOver_16 : code_ 176 16 = some (.bipush 16, 18, 0, 0, 0) := by decide +kernel
theorem cd_M_passOver_18 : code_ 176 18 = some (.iaload, 19, 0, 0, 0) := by decide +kernel
theorem cd_M_passOver_19 : code_ 176 19 = some (.aload_n 0, 20, 0, 0, 0) := by decide +kernel
theorem cd_M_passOver_20 : code_ 176 20 = some (.getfield 13, 23, 8, 1, 2) := by decide +kernel
theorem cd_M_passOver_23 : code_ 176 23 = some (.bipush 17, 25, 0, 0, 0) := by decide +kernel
theorem cd_M_passOver_25 : code_ 176 25 = some (.iaload, 26, 0, 0, 0) := by decide +kernel
theorem cd_M_passOver_26 : code_ 176 26 = some (.iload_n 1, 27, 0, 0, 0) := by decide +kernel
theorem cd_M_passOver_27 : code_ 176 27 = some (.invokevirtual 110, 30, 168, 1, 0) := by decide +kernel
theorem cd_M_passOver_30 : code_ 176 30 = some (.istore_n 3, 31, 0, 0, 0) := by decide +kernel
theorem cd_M_passOver_31 : code_ 176 31 = some (.iload_n 3, 32, 0, 0, 0) := by decide +kernel
theorem cd_M_passOver_32 : code_ 176 32 = some (.ifCond .ge 6, 35, 38, 0, 0) := by decide +kernel
theorem cd_M_passOver_35 : code_ 176 35 = some (.bipush 6, 37, 0, 0, 0) := by decide +kernel
theorem cd_M_passOver_37 : code_ 176 37 = some (.ireturn, 38, 0, 0, 0) := by decide +kernel
theorem cd_M_passOver_38 : code_ 176 38 = some (.aload_n 0, 39, 0, 0, 0) := by decide +kernel
theorem cd_M_passOver_39 : code_ 176 39 = some (.getfield 13, 42, 8, 1, 2) := by decide +kernel
theorem cd_M_passOver_42 : code_ 176 42 = some (.bipush 16, 44, 0, 0, 0) := by decide +kernel
theorem cd_M_passOver_44 : code_ 176 44 = some (.iload_n 3, 45, 0, 0, 0) := by decide +kernel
theorem cd_M_passOver_45 : code_ 176 45 = some (.iastore, 46, 0, 0, 0) := by decide +kernel
theorem cd_M_passOver_46 : code_ 176 46 = some (.aload_n 0, 47, 0, 0, 0) := by decide +kernel
theorem cd_M_passOver_47 : code_ 176 47 = some (.getfield 13, 50, 8, 1, 2) := by decide +kernel
theorem cd_M_passOver_50 : code_ 176 50 = some (.bipush 17, 52, 0, 0, 0) := by decide +kernel
theorem cd_M_passOver_52 : code_ 176 52 = some (.aload_n 0, 53, 0, 0, 0) := by decide +kernel
theorem cd_M_passOver_53 : code_ 176 53 = some (.getfield 97, 56, 8, 7, 0) := by decide +kernel
theorem cd_M_passOver_56 : code_ 176 56 = some (.iastore, 57, 0, 0, 0) := by decide +kernel
theorem cd_M_passOver_57 : code_ 176 57 = some (.iconst 0, 58, 0, 0, 0) := by decide +kernel
theorem cd_M_passOver_58 : code_ 176 58 = some (.ireturn, 59, 0, 0, 0) := by decide +kernel
theorem cd_M_shoot_0 : code_ 177 0 = some (.aload_n 0, 1, 0, 0, 0) := by decide +kernel
theorem cd_M_shoot_1 : code_ 177 1 = some (.invokevirtual 107, 4, 174, 1, 0) := by decide +kernel
theorem cd_M_shoot_4 : code_ 177 4 = some (.istore_n 2, 5, 0, 0, 0) := by decide +kernel
theorem cd_M_shoot_5 : code_ 177 5 = some (.iload_n 2, 6, 0, 0, 0) := by decide +kernel
theorem cd_M_shoot_6 : code_ 177 6 = some (.ifCond .le 5, 9, 11, 0, 0) := by decide +kernel
theorem cd_M_shoot_9 : code_ 177 9 = some (.iload_n 2, 10, 0, 0, 0) := by decide +kernel
theorem cd_M_shoot_10 : code_ 177 10 = some (.ireturn, 11, 0, 0, 0) := by decide +kernel
theorem cd_M_shoot_11 : code_ 177 11 = some (.aload_n 0, 12, 0, 0, 0) := by decide +kernel
theorem cd_M_shoot_12 : code_ 177 12 = some (.getfield 13, 15, 8, 1, 2) := by decide +kernel
theorem cd_M_shoot_15 : code_ 177 15 = some (.bipush 16, 17, 0, 0, 0) := by decide +kernel
theorem cd_M_shoot_17 : code_ 177 17 = some (.iaload, 18, 0, 0, 0) := by decide +kernel
theorem cd_M_shoot_18 : code_ 177 18 = some (.invokestatic 50, 21, 149, 0, 0) := by decide +kernel
theorem cd_M_shoot_21 : code_ 177 21 = some (.istore_n 3, 22, 0, 0, 0) := by decide +kernel
theorem cd_M_shoot_22 : code_ 177 22 = some (.aload_n 0, 23, 0, 0, 0) := by decide +kernel
theorem cd_M_shoot_23 : code_ 177 23 = some (.iload_n 1, 24, 0, 0, 0) := by decide +kernel
theorem cd_M_shoot_24 : code_ 177 24 = some (.invokevirtual 114, 27, 167, 1, 0) := by decide +kernel
theorem cd_M_shoot_27 : code_ 177 27 = some (.istore 4, 29, 0, 0, 0) := by decide +kernel
theorem cd_M_shoot_29 : code_ 177 29 = some (.aload_n 0, 30, 0, 0, 0) := by decide +kernel
theorem cd_M_shoot_30 : code_ 177 30 = some (.getfield 13, 33, 8, 1, 2) := by decide +kernel
theorem cd_M_shoot_33 : code_ 177 33 = some (.bipush 16, 35, 0, 0, 0) := by decide +kernel
theorem cd_M_shoot_35 : code_ 177 35 = some (.iload 4, 37, 0, 0, 0) := by decide +kernel
theorem cd_M_shoot_37 : code_ 177 37 = some (.bipush 8, 39, 0, 0, 0) := by decide +kernel
theorem cd_M_shoot_39 : code_ 177 39 = some (.if_icmp .ne 8, 42, 47, 0, 0) := by decide +kernel
theorem cd_M_shoot_42 : code_ 177 42 = some (.bipush (-6), 44, 0, 0, 0) := by decide +kernel
theorem cd_M_shoot_44 : code_ 177 44 = some (.goto 5, 47, 49, 0, 0) := by decide +kernel
theorem cd_M_shoot_47 : code_ 177 47 = some (.iload 4, 49, 0, 0, 0) := by decide +kernel
theorem cd_M_shoot_49 : code_ 177 49 = some (.iastore, 50, 0, 0, 0) := by decide +kernel
theorem cd_M_shoot_50 : code_ 177 50 = some (.aload_n 0, 51, 0, 0, 0) := by decide +kernel
theorem cd_M_shoot_51 : code_ 177 51 = some (.getfield 13, 54, 8, 1, 2) := by decide +kernel
theorem cd_M_shoot_54 : code_ 177 54 = some (.bipush 17, 56, 0, 0, 0) := by decide +kernel
theorem cd_M_shoot_56 : code_ 177 56 = some (.iload 4, 58, 0, 0, 0) := by decide +kernel
theorem cd_M_shoot_58 : code_ 177 58 = some (.bipush 8, 60, 0, 0, 0) := by decide +kernel
theorem cd_M_shoot_60 : code_ 177 60 = some (.if_icmp .ne 8, 63, 68, 0, 0) := by decide +kernel
theorem cd_M_shoot_63 : code_ 177 63 = some (.bipush (-6), 65, 0, 0, 0) := by decide +kernel
theorem cd_M_shoot_65 : code_ 177 65 = some (.goto 7, 68, 72, 0, 0) := by decide +kernel
theorem cd_M_shoot_68 : code_ 177 68 = some (.aload_n 0, 69, 0, 0, 0) := by decide +kernel
theorem cd_M_shoot_69 : code_ 177 69 = some (.getfield 94, 72, 8, 6, 0) := by decide +kernel
theorem cd_M_shoot_72 : code_ 177 72 = some (.iastore, 73, 0, 0, 0) := by decide +kernel
theorem cd_M_shoot_73 : code_ 177 73 = some (.aload_n 0, 74, 0, 0, 0) := by decide +kernel
theorem cd_M_shoot_74 : code_ 177 74 = some (.getfield 13, 77, 8, 1, 2) := by decide +kernel
theorem cd_M_shoot_77 : code_ 177 77 = some (.bipush 18, 79, 0, 0, 0) := by decide +kernel
theorem cd_M_shoot_79 : code_ 177 79 = some (.iload_n 3, 80, 0, 0, 0) := by decide +kernel
theorem cd_M_shoot_80 : code_ 177 80 = some (.iadd, 81, 0, 0, 0) := by decide +kernel
theorem cd_M_shoot_81 : code_ 177 81 = some (.dup2, 82, 0, 0, 0) := by decide +kernel
theorem cd_M_shoot_82 : code_ 177 82 = some (.iaload, 83, 0, 0, 0) := by decide +kernel
theorem cd_M_shoot_83 : code_ 177 83 = some (.iload 4, 85, 0, 0, 0) := by decide +kernel
theorem cd_M_shoot_85 : code_ 177 85 = some (.bipush 8, 87, 0, 0, 0) := by decide +kernel
theorem cd_M_shoot_87 : code_ 177 87 = some (.if_icmp .ne 7, 90, 94, 0, 0) := by decide +kernel
theorem cd_M_shoot_90 : code_ 177 90 = some (.iconst 1, 91, 0, 0, 0) := by decide +kernel
theorem cd_M_shoot_91 : code_ 177 91 = some (.goto 4, 94, 95, 0, 0) := by decide +kernel
theorem cd_M_shoot_94 : code_ 177 94 = some (.iconst 0, 95, 0, 0, 0) := by decide +kernel
theorem cd_M_shoot_95 : code_ 177 95 = some (.iadd, 96, 0, 0, 0) := by decide +kernel
theorem cd_M_shoot_96 : code_ 177 96 = some (.iastore, 97, 0, 0, 0) := by decide +kernel
theorem cd_M_shoot_97 : code_ 177 97 = some (.iconst 0, 98, 0, 0, 0) := by decide +kernel
theorem cd_M_shoot_98 : code_ 177 98 = some (.ireturn, 99, 0, 0, 0) := by decide +kernel
theorem cd_M_throwIn_0 : code_ 178 0 = some (.aload_n 0, 1, 0, 0, 0) := by decide +kernel
theorem cd_M_throwIn_1 : code_ 178 1 = some (.invokevirtual 103, 4, 170, 1, 0) := by decide +kernel
theorem cd_M_throwIn_4 : code_ 178 4 = some (.ifCond .eq 5, 7, 9, 0, 0) := by decide +kernel
theorem cd_M_throwIn_7 : code_ 178 7 = some (.iconst 1, 8, 0, 0, 0) := by decide +kernel
theorem cd_M_throwIn_8 : code_ 178 8 = some (.ireturn, 9, 0, 0, 0) := by decide +kernel
theorem cd_M_throwIn_9 : code_ 178 9 = some (.aload_n 0, 10, 0, 0, 0) := by decide +kernel
theorem cd_M_throwIn_10 : code_ 178 10 = some (.getfield 13, 13, 8, 1, 2) := by decide +kernel
theorem cd_M_throwIn_13 : code_ 178 13 = some (.bipush 16, 15, 0, 0, 0) := by decide +kernel
theorem cd_M_throwIn_15 : code_ 178 15 = some (.iaload, 16, 0, 0, 0) := by decide +kernel
theorem cd_M_throwIn_16 : code_ 178 16 = some (.ifCond .lt 5, 19, 21, 0, 0) := by decide +kernel
theorem cd_M_throwIn_19 : code_ 178 19 = some (.iconst 2, 20, 0, 0, 0) := by decide +kernel
theorem cd_M_throwIn_20 : code_ 178 20 = some (.ireturn, 21, 0, 0, 0) := by decide +kernel
theorem cd_M_throwIn_21 : code_ 178 21 = some (.iload_n 1, 22, 0, 0, 0) := by decide +kernel
theorem cd_M_throwIn_22 : code_ 178 22 = some (.iload_n 2, 23, 0, 0, 0) := by decide +kernel
theorem cd_M_throwIn_23 : code_ 178 23 = some (.invokestatic 73, 26, 154, 0, 0) := by decide +kernel
theorem cd_M_throwIn_26 : code_ 178 26 = some (.ifCond .ne 6, 29, 32, 0, 0) := by decide +kernel
theorem cd_M_throwIn_29 : code_ 178 29 = some (.bipush 6, 31, 0, 0, 0) := by decide +kernel
theorem cd_M_throwIn_31 : code_ 178 31 = some (.ireturn, 32, 0, 0, 0) := by decide +kernel
theorem cd_M_throwIn_32 : code_ 178 32 = some (.aload_n 0, 33, 0, 0, 0) := by decide +kernel
theorem cd_M_throwIn_33 : code_ 178 33 = some (.getfield 13, 36, 8, 1, 2) := by decide +kernel
theorem cd_M_throwIn_36 : code_ 178 36 = some (.bipush 16, 38, 0, 0, 0) := by decide +kernel
theorem cd_M_throwIn_38 : code_ 178 38 = some (.iload_n 1, 39, 0, 0, 0) := by decide +kernel
theorem cd_M_throwIn_39 : code_ 178 39 = some (.iastore, 40, 0, 0, 0) := by decide +kernel
theorem cd_M_throwIn_40 : code_ 178 40 = some (.aload_n 0, 41, 0, 0, 0) := by decide +kernel
theorem cd_M_throwIn_41 : code_ 178 41 = some (.getfield 13, 44, 8, 1, 2) := by decide +kernel
theorem cd_M_throwIn_44 : code_ 178 44 = some (.bipush 17, 46, 0, 0, 0) := by decide +kernel
theorem cd_M_throwIn_46 : code_ 178 46 = some (.iload_n 2, 47, 0, 0, 0) := by decide +kernel
theorem cd_M_throwIn_47 : code_ 178 47 = some (.iastore, 48, 0, 0, 0) := by decide +kernel
theorem cd_M_throwIn_48 : code_ 178 48 = some (.iconst 0, 49, 0, 0, 0) := by decide +kernel
theorem cd_M_throwIn_49 : code_ 178 49 = some (.ireturn, 50, 0, 0, 0) := by decide +kernel
theorem cd_M_endTenth_0 : code_ 179 0 = some (.aload_n 0, 1, 0, 0, 0) := by decide +kernel
theorem cd_M_endTenth_1 : code_ 179 1 = some (.invokevirtual 103, 4, 170, 1, 0) := by decide +kernel
theorem cd_M_endTenth_4 : code_ 179 4 = some (.ifCond .eq 5, 7, 9, 0, 0) := by decide +kernel
theorem cd_M_endTenth_7 : code_ 179 7 = some (.iconst 1, 8, 0, 0, 0) := by decide +kernel
theorem cd_M_endTenth_8 : code_ 179 8 = some (.ireturn, 9, 0, 0, 0) := by decide +kernel
theorem cd_M_endTenth_9 : code_ 179 9 = some (.aload_n 0, 10, 0, 0, 0) := by decide +kernel
theorem cd_M_endTenth_10 : code_ 179 10 = some (.getfield 13, 13, 8, 1, 2) := by decide +kernel
theorem cd_M_endTenth_13 : code_ 179 13 = some (.bipush 20, 15, 0, 0, 0) := by decide +kernel
theorem cd_M_endTenth_15 : code_ 179 15 = some (.iaload, 16, 0, 0, 0) := by decide +kernel
theorem cd_M_endTenth_16 : code_ 179 16 = some (.sipush 999, 19, 0, 0, 0) := by decide +kernel
theorem cd_M_endTenth_19 : code_ 179 19 = some (.if_icmp .ne 6, 22, 25, 0, 0) := by decide +kernel
theorem cd_M_endTenth_22 : code_ 179 22 = some (.bipush 7, 24, 0, 0, 0) := by decide +kernel
theorem cd_M_endTenth_24 : code_ 179 24 = some (.ireturn, 25, 0, 0, 0) := by decide +kernel
theorem cd_M_endTenth_25 : code_ 179 25 = some (.aload_n 0, 26, 0, 0, 0) := by decide +kernel
theorem cd_M_endTenth_26 : code_ 179 26 = some (.getfield 13, 29, 8, 1, 2) := by decide +kernel
theorem cd_M_endTenth_29 : code_ 179 29 = some (.bipush 20, 31, 0, 0, 0) := by decide +kernel
theorem cd_M_endTenth_31 : code_ 179 31 = some (.dup2, 32, 0, 0, 0) := by decide +kernel
theorem cd_M_endTenth_32 : code_ 179 32 = some (.iaload, 33, 0, 0, 0) := by decide +kernel
theorem cd_M_endTenth_33 : code_ 179 33 = some (.iconst 1, 34, 0, 0, 0) := by decide +kernel
theorem cd_M_endTenth_34 : code_ 179 34 = some (.iadd, 35, 0, 0, 0) := by decide +kernel
theorem cd_M_endTenth_35 : code_ 179 35 = some (.iastore, 36, 0, 0, 0) := by decide +kernel
theorem cd_M_endTenth_36 : code_ 179 36 = some (.iconst 0, 37, 0, 0, 0) := by decide +kernel
theorem cd_M_endTenth_37 : code_ 179 37 = some (.ireturn, 38, 0, 0, 0) := by decide +kernel
theorem cd_M_rodAct_0 : code_ 180 0 = some (.aload_n 0, 1, 0, 0, 0) := by decide +kernel
theorem cd_M_rodAct_1 : code_ 180 1 = some (.getfield 19, 4, 8, 5, 2) := by decide +kernel
theorem cd_M_rodAct_4 : code_ 180 4 = some (.aload_n 0, 5, 0, 0, 0) := by decide +kernel
theorem cd_M_rodAct_5 : code_ 180 5 = some (.getfield 117, 8, 8, 11, 0) := by decide +kernel
theorem cd_M_rodAct_8 : code_ 180 8 = some (.iconst 1, 9, 0, 0, 0) := by decide +kernel
theorem cd_M_rodAct_9 : code_ 180 9 = some (.iadd, 10, 0, 0, 0) := by decide +kernel
theorem cd_M_rodAct_10 : code_ 180 10 = some (.iaload, 11, 0, 0, 0) := by decide +kernel
theorem cd_M_rodAct_11 : code_ 180 11 = some (.istore_n 2, 12, 0, 0, 0) := by decide +kernel
theorem cd_M_rodAct_12 : code_ 180 12 = some (.aload_n 0, 13, 0, 0, 0) := by decide +kernel
theorem cd_M_rodAct_13 : code_ 180 13 = some (.dup, 14, 0, 0, 0) := by decide +kernel
theorem cd_M_rodAct_14 : code_ 180 14 = some (.getfield 117, 17, 8, 11, 0) := by decide +kernel
theorem cd_M_rodAct_17 : code_ 180 17 = some (.iconst 2, 18, 0, 0, 0) := by decide +kernel
theorem cd_M_rodAct_18 : code_ 180 18 = some (.iadd, 19, 0, 0, 0) := by decide +kernel
theorem cd_M_rodAct_19 : code_ 180 19 = some (.putfield 117, 22, 8, 11, 0) := by decide +kernel
theorem cd_M_rodAct_22 : code_ 180 22 = some (.iload_n 2, 23, 0, 0, 0) := by decide +kernel
theorem cd_M_rodAct_23 : code_ 180 23 = some (.bipush 40, 25, 0, 0, 0) := by decide +kernel
theorem cd_M_rodAct_25 : code_ 180 25 = some (.if_icmp .eq 9, 28, 34, 0, 0) := by decide +kernel
theorem cd_M_rodAct_28 : code_ 180 28 = some (.iload_n 2, 29, 0, 0, 0) := by decide +kernel
theorem cd_M_rodAct_29 : code_ 180 29 = some (.bipush 41, 31, 0, 0, 0) := by decide +kernel
theorem cd_M_rodAct_31 : code_ 180 31 = some (.if_icmp .ne 23, 34, 54, 0, 0) := by decide +kernel
theorem cd_M_rodAct_34 : code_ 180 34 = some (.iload_n 2, 35, 0, 0, 0) := by decide +kernel
theorem cd_M_rodAct_35 : code_ 180 35 = some (.bipush 40, 37, 0, 0, 0) := by decide +kernel
theorem cd_M_rodAct_37 : code_ 180 37 = some (.if_icmp .ne 11, 40, 48, 0, 0) := by decide +kernel
theorem cd_M_rodAct_40 : code_ 180 40 = some (.aload_n 0, 41, 0, 0, 0) := by decide +kernel
theorem cd_M_rodAct_41 : code_ 180 41 = some (.iload_n 1, 42, 0, 0, 0) := by decide +kernel
theorem cd_M_rodAct_42 : code_ 180 42 = some (.invokevirtual 120, 45, 171, 1, 0) := by decide +kernel
theorem cd_M_rodAct_45 : code_ 180 45 = some (.goto 8, 48, 53, 0, 0) := by decide +kernel
theorem cd_M_rodAct_48 : code_ 180 48 = some (.aload_n 0, 49, 0, 0, 0) := by decide +kernel
theorem cd_M_rodAct_49 : code_ 180 49 = some (.iload_n 1, 50, 0, 0, 0) := by decide +kernel
theorem cd_M_rodAct_50 : code_ 180 50 = some (.invokevirtual 123, 53, 172, 1, 0) := by decide +kernel
theorem cd_M_rodAct_53 : code_ 180 53 = some (.ireturn, 54, 0, 0, 0) := by decide +kernel
theorem cd_M_rodAct_54 : code_ 180 54 = some (.aload_n 0, 55, 0, 0, 0) := by decide +kernel
theorem cd_M_rodAct_55 : code_ 180 55 = some (.dup, 56, 0, 0, 0) := by decide +kernel
theorem cd_M_rodAct_56 : code_ 180 56 = some (.getfield 117, 59, 8, 11, 0) := by decide +kernel
theorem cd_M_rodAct_59 : code_ 180 59 = some (.iconst 1, 60, 0, 0, 0) := by decide +kernel
theorem cd_M_rodAct_60 : code_ 180 60 = some (.iadd, 61, 0, 0, 0) := by decide +kernel
theorem cd_M_rodAct_61 : code_ 180 61 = some (.putfield 117, 64, 8, 11, 0) := by decide +kernel
theorem cd_M_rodAct_64 : code_ 180 64 = some (.aload_n 0, 65, 0, 0, 0) := by decide +kernel
theorem cd_M_rodAct_65 : code_ 180 65 = some (.getfield 19, 68, 8, 5, 2) := by decide +kernel
theorem cd_M_rodAct_68 : code_ 180 68 = some (.aload_n 0, 69, 0, 0, 0) := by decide +kernel
theorem cd_M_rodAct_69 : code_ 180 69 = some (.getfield 117, 72, 8, 11, 0) := by decide +kernel
theorem cd_M_rodAct_72 : code_ 180 72 = some (.iconst 1, 73, 0, 0, 0) := by decide +kernel
theorem cd_M_rodAct_73 : code_ 180 73 = some (.isub, 74, 0, 0, 0) := by decide +kernel
theorem cd_M_rodAct_74 : code_ 180 74 = some (.iaload, 75, 0, 0, 0) := by decide +kernel
theorem cd_M_rodAct_75 : code_ 180 75 = some (.bipush 48, 77, 0, 0, 0) := by decide +kernel
theorem cd_M_rodAct_77 : code_ 180 77 = some (.isub, 78, 0, 0, 0) := by decide +kernel
theorem cd_M_rodAct_78 : code_ 180 78 = some (.istore_n 3, 79, 0, 0, 0) := by decide +kernel
theorem cd_M_rodAct_79 : code_ 180 79 = some (.aload_n 0, 80, 0, 0, 0) := by decide +kernel
theorem cd_M_rodAct_80 : code_ 180 80 = some (.iload_n 1, 81, 0, 0, 0) := by decide +kernel
theorem cd_M_rodAct_81 : code_ 180 81 = some (.iload_n 2, 82, 0, 0, 0) := by decide +kernel
theorem cd_M_rodAct_82 : code_ 180 82 = some (.bipush 60, 84, 0, 0, 0) := by decide +kernel
theorem cd_M_rodAct_84 : code_ 180 84 = some (.if_icmp .ne 8, 87, 92, 0, 0) := by decide +kernel
theorem cd_M_rodAct_87 : code_ 180 87 = some (.iload_n 3, 88, 0, 0, 0) := by decide +kernel
theorem cd_M_rodAct_88 : code_ 180 88 = some (.ineg, 89, 0, 0, 0) := by decide +kernel
theorem cd_M_rodAct_89 : code_ 180 89 = some (.goto 4, 92, 93, 0, 0) := by decide +kernel
theorem cd_M_rodAct_92 : code_ 180 92 = some (.iload_n 3, 93, 0, 0, 0) := by decide +kernel
theorem cd_M_rodAct_93 : code_ 180 93 = some (.invokevirtual 126, 96, 173, 1, 0) := by decide +kernel
theorem cd_M_rodAct_96 : code_ 180 96 = some (.ireturn, 97, 0, 0, 0) := by decide +kernel
theorem cd_M_nextAct_0 : code_ 181 0 = some (.aload_n 0, 1, 0, 0, 0) := by decide +kernel
theorem cd_M_nextAct_1 : code_ 181 1 = some (.getfield 19, 4, 8, 5, 2) := by decide +kernel
theorem cd_M_nextAct_4 : code_ 181 4 = some (.aload_n 0, 5, 0, 0, 0) := by decide +kernel
theorem cd_M_nextAct_5 : code_ 181 5 = some (.getfield 117, 8, 8, 11, 0) := by decide +kernel
theorem cd_M_nextAct_8 : code_ 181 8 = some (.iaload, 9, 0, 0, 0) := by decide +kernel
theorem cd_M_nextAct_9 : code_ 181 9 = some (.istore_n 1, 10, 0, 0, 0) := by decide +kernel
theorem cd_M_nextAct_10 : code_ 181 10 = some (.iload_n 1, 11, 0, 0, 0) := by decide +kernel
theorem cd_M_nextAct_11 : code_ 181 11 = some (.lookupswitch 227 #[(33, 184), (46, 49), (80, 93), (112, 64), (115, 122)], 60, 0, 0, 0) := by decide +kernel
theorem cd_M_nextAct_60 : code_ 181 60 = some (.aload_n 0, 61, 0, 0, 0) := by decide +kernel
theorem cd_M_nextAct_61 : code_ 181 61 = some (.dup, 62, 0, 0, 0) := by decide +kernel
theorem cd_M_nextAct_62 : code_ 181 62 = some (.getfield 117, 65, 8, 11, 0) := by decide +kernel
theorem cd_M_nextAct_65 : code_ 181 65 = some (.iconst 1, 66, 0, 0, 0) := by decide +kernel
theorem cd_M_nextAct_66 : code_ 181 66 = some (.iadd, 67, 0, 0, 0) := by decide +kernel
theorem cd_M_nextAct_67 : code_ 181 67 = some (.putfield 117, 70, 8, 11, 0) := by decide +kernel
theorem cd_M_nextAct_70 : code_ 181 70 = some (.aload_n 0, 71, 0, 0, 0) := by decide +kernel
theorem cd_M_nextAct_71 : code_ 181 71 = some (.invokevirtual 129, 74, 179, 1, 0) := by decide +kernel
theorem cd_M_nextAct_74 : code_ 181 74 = some (.ireturn, 75, 0, 0, 0) := by decide +kernel
theorem cd_M_nextAct_75 : code_ 181 75 = some (.aload_n 0, 76, 0, 0, 0) := by decide +kernel
theorem cd_M_nextAct_76 : code_ 181 76 = some (.dup, 77, 0, 0, 0) := by decide +kernel
theorem cd_M_nextAct_77 : code_ 181 77 = some (.getfield 117, 80, 8, 11, 0) := by decide +kernel
theorem cd_M_nextAct_80 : code_ 181 80 = some (.iconst 2, 81, 0, 0, 0) := by decide +kernel
theorem cd_M_nextAct_81 : code_ 181 81 = some (.iadd, 82, 0, 0, 0) := by decide +kernel
theorem cd_M_nextAct_82 : code_ 181 82 = some (.putfield 117, 85, 8, 11, 0) := by decide +kernel
theorem cd_M_nextAct_85 : code_ 181 85 = some (.aload_n 0, 86, 0, 0, 0) := by decide +kernel
theorem cd_M_nextAct_86 : code_ 181 86 = some (.aload_n 0, 87, 0, 0, 0) := by decide +kernel
theorem cd_M_nextAct_87 : code_ 181 87 = some (.getfield 19, 90, 8, 5, 2) := by decide +kernel
theorem cd_M_nextAct_90 : code_ 181 90 = some (.aload_n 0, 91, 0, 0, 0) := by decide +kernel
theorem cd_M_nextAct_91 : code_ 181 91 = some (.getfield 117, 94, 8, 11, 0) := by decide +kernel
theorem cd_M_nextAct_94 : code_ 181 94 = some (.iconst 1, 95, 0, 0, 0) := by decide +kernel
theorem cd_M_nextAct_95 : code_ 181 95 = some (.isub, 96, 0, 0, 0) := by decide +kernel
theorem cd_M_nextAct_96 : code_ 181 96 = some (.iaload, 97, 0, 0, 0) := by decide +kernel
theorem cd_M_nextAct_97 : code_ 181 97 = some (.bipush 48, 99, 0, 0, 0) := by decide +kernel
theorem cd_M_nextAct_99 : code_ 181 99 = some (.isub, 100, 0, 0, 0) := by decide +kernel
theorem cd_M_nextAct_100 : code_ 181 100 = some (.invokevirtual 132, 103, 175, 1, 0) := by decide +kernel
theorem cd_M_nextAct_103 : code_ 181 103 = some (.ireturn, 104, 0, 0, 0) := by decide +kernel
theorem cd_M_nextAct_104 : code_ 181 104 = some (.aload_n 0, 105, 0, 0, 0) := by decide +kernel
theorem cd_M_nextAct_105 : code_ 181 105 = some (.dup, 106, 0, 0, 0) := by decide +kernel
theorem cd_M_nextAct_106 : code_ 181 106 = some (.getfield 117, 109, 8, 11, 0) := by decide +kernel
theorem cd_M_nextAct_109 : code_ 181 109 = some (.iconst 2, 110, 0, 0, 0) := by decide +kernel
theorem cd_M_nextAct_110 : code_ 181 110 = some (.iadd, 111, 0, 0, 0) := by decide +kernel
theorem cd_M_nextAct_111 : code_ 181 111 = some (.putfield 117, 114, 8, 11, 0) := by decide +kernel
theorem cd_M_nextAct_114 : code_ 181 114 = some (.aload_n 0, 115, 0, 0, 0) := by decide +kernel
theorem cd_M_nextAct_115 : code_ 181 115 = some (.aload_n 0, 116, 0, 0, 0) := by decide +kernel
theorem cd_M_nextAct_116 : code_ 181 116 = some (.getfield 19, 119, 8, 5, 2) := by decide +kernel
theorem cd_M_nextAct_119 : code_ 181 119 = some (.aload_n 0, 120, 0, 0, 0) := by decide +kernel
theorem cd_M_nextAct_120 : code_ 181 120 = some (.getfield 117, 123, 8, 11, 0) := by decide +kernel
theorem cd_M_nextAct_123 : code_ 181 123 = some (.iconst 1, 124, 0, 0, 0) := by decide +kernel
theorem cd_M_nextAct_124 : code_ 181 124 = some (.isub, 125, 0, 0, 0) := by decide +kernel
theorem cd_M_nextAct_125 : code_ 181 125 = some (.iaload, 126, 0, 0, 0) := by decide +kernel
theorem cd_M_nextAct_126 : code_ 181 126 = some (.bipush 97, 128, 0, 0, 0) := by decide +kernel
theorem cd_M_nextAct_128 : code_ 181 128 = some (.isub, 129, 0, 0, 0) := by decide +kernel
theorem cd_M_nextAct_129 : code_ 181 129 = some (.invokevirtual 135, 132, 176, 1, 0) := by decide +kernel
theorem cd_M_nextAct_132 : code_ 181 132 = some (.ireturn, 133, 0, 0, 0) := by decide +kernel
theorem cd_M_nextAct_133 : code_ 181 133 = some (.aload_n 0, 134, 0, 0, 0) := by decide +kernel
theorem cd_M_nextAct_134 : code_ 181 134 = some (.dup, 135, 0, 0, 0) := by decide +kernel
theorem cd_M_nextAct_135 : code_ 181 135 = some (.getfield 117, 138, 8, 11, 0) := by decide +kernel
theorem cd_M_nextAct_138 : code_ 181 138 = some (.iconst 3, 139, 0, 0, 0) := by decide +kernel
theorem cd_M_nextAct_139 : code_ 181 139 = some (.iadd, 140, 0, 0, 0) := by decide +kernel
theorem cd_M_nextAct_140 : code_ 181 140 = some (.putfield 117, 143, 8, 11, 0) := by decide +kernel
theorem cd_M_nextAct_143 : code_ 181 143 = some (.aload_n 0, 144, 0, 0, 0) := by decide +kernel
theorem cd_M_nextAct_144 : code_ 181 144 = some (.aload_n 0, 145, 0, 0, 0) := by decide +kernel
theorem cd_M_nextAct_145 : code_ 181 145 = some (.getfield 19, 148, 8, 5, 2) := by decide +kernel
theorem cd_M_nextAct_148 : code_ 181 148 = some (.aload_n 0, 149, 0, 0, 0) := by decide +kernel
theorem cd_M_nextAct_149 : code_ 181 149 = some (.getfield 117, 152, 8, 11, 0) := by decide +kernel
theorem cd_M_nextAct_152 : code_ 181 152 = some (.iconst 2, 153, 0, 0, 0) := by decide +kernel
theorem cd_M_nextAct_153 : code_ 181 153 = some (.isub, 154, 0, 0, 0) := by decide +kernel
theorem cd_M_nextAct_154 : code_ 181 154 = some (.iaload, 155, 0, 0, 0) := by decide +kernel
theorem cd_M_nextAct_155 : code_ 181 155 = some (.bipush 60, 157, 0, 0, 0) := by decide +kernel
theorem cd_M_nextAct_157 : code_ 181 157 = some (.if_icmp .ne 20, 160, 177, 0, 0) := by decide +kernel
theorem cd_M_nextAct_160 : code_ 181 160 = some (.bipush 48, 162, 0, 0, 0) := by decide +kernel
theorem cd_M_nextAct_162 : code_ 181 162 = some (.aload_n 0, 163, 0, 0, 0) := by decide +kernel
theorem cd_M_nextAct_163 : code_ 181 163 = some (.getfield 19, 166, 8, 5, 2) := by decide +kernel
theorem cd_M_nextAct_166 : code_ 181 166 = some (.aload_n 0, 167, 0, 0, 0) := by decide +kernel
theorem cd_M_nextAct_167 : code_ 181 167 = some (.getfield 117, 170, 8, 11, 0) := by decide +kernel
theorem cd_M_nextAct_170 : code_ 181 170 = some (.iconst 1, 171, 0, 0, 0) := by decide +kernel
theorem cd_M_nextAct_171 : code_ 181 171 = some (.isub, 172, 0, 0, 0) := by decide +kernel
theorem cd_M_nextAct_172 : code_ 181 172 = some (.iaload, 173, 0, 0, 0) := by decide +kernel
theorem cd_M_nextAct_173 : code_ 181 173 = some (.isub, 174, 0, 0, 0) := by decide +kernel
theorem cd_M_nextAct_174 : code_ 181 174 = some (.goto 17, 177, 191, 0, 0) := by decide +kernel
theorem cd_M_nextAct_177 : code_ 181 177 = some (.aload_n 0, 178, 0, 0, 0) := by decide +kernel
theorem cd_M_nextAct_178 : code_ 181 178 = some (.getfield 19, 181, 8, 5, 2) := by decide +kernel
theorem cd_M_nextAct_181 : code_ 181 181 = some (.aload_n 0, 182, 0, 0, 0) := by decide +kernel
theorem cd_M_nextAct_182 : code_ 181 182 = some (.getfield 117, 185, 8, 11, 0) := by decide +kernel
theorem cd_M_nextAct_185 : code_ 181 185 = some (.iconst 1, 186, 0, 0, 0) := by decide +kernel
theorem cd_M_nextAct_186 : code_ 181 186 = some (.isub, 187, 0, 0, 0) := by decide +kernel
theorem cd_M_nextAct_187 : code_ 181 187 = some (.iaload, 188, 0, 0, 0) := by decide +kernel
theorem cd_M_nextAct_188 : code_ 181 188 = some (.bipush 48, 190, 0, 0, 0) := by decide +kernel
theorem cd_M_nextAct_190 : code_ 181 190 = some (.isub, 191, 0, 0, 0) := by decide +kernel
theorem cd_M_nextAct_191 : code_ 181 191 = some (.invokevirtual 138, 194, 177, 1, 0) := by decide +kernel
theorem cd_M_nextAct_194 : code_ 181 194 = some (.ireturn, 195, 0, 0, 0) := by decide +kernel
theorem cd_M_nextAct_195 : code_ 181 195 = some (.aload_n 0, 196, 0, 0, 0) := by decide +kernel
theorem cd_M_nextAct_196 : code_ 181 196 = some (.dup, 197, 0, 0, 0) := by decide +kernel
theorem cd_M_nextAct_197 : code_ 181 197 = some (.getfield 117, 200, 8, 11, 0) := by decide +kernel
theorem cd_M_nextAct_200 : code_ 181 200 = some (.iconst 3, 201, 0, 0, 0) := by decide +kernel
theorem cd_M_nextAct_201 : code_ 181 201 = some (.iadd, 202, 0, 0, 0) := by decide +kernel
theorem cd_M_nextAct_202 : code_ 181 202 = some (.putfield 117, 205, 8, 11, 0) := by decide +kernel
theorem cd_M_nextAct_205 : code_ 181 205 = some (.aload_n 0, 206, 0, 0, 0) := by decide +kernel
theorem cd_M_nextAct_206 : code_ 181 206 = some (.aload_n 0, 207, 0, 0, 0) := by decide +kernel
theorem cd_M_nextAct_207 : code_ 181 207 = some (.getfield 19, 210, 8, 5, 2) := by decide +kernel
theorem cd_M_nextAct_210 : code_ 181 210 = some (.aload_n 0, 211, 0, 0, 0) := by decide +kernel
theorem cd_M_nextAct_211 : code_ 181 211 = some (.getfield 117, 214, 8, 11, 0) := by decide +kernel
theorem cd_M_nextAct_214 : code_ 181 214 = some (.iconst 2, 215, 0, 0, 0) := by decide +kernel
theorem cd_M_nextAct_215 : code_ 181 215 = some (.isub, 216, 0, 0, 0) := by decide +kernel
theorem cd_M_nextAct_216 : code_ 181 216 = some (.iaload, 217, 0, 0, 0) := by decide +kernel
theorem cd_M_nextAct_217 : code_ 181 217 = some (.bipush 97, 219, 0, 0, 0) := by decide +kernel
theorem cd_M_nextAct_219 : code_ 181 219 = some (.isub, 220, 0, 0, 0) := by decide +kernel
theorem cd_M_nextAct_220 : code_ 181 220 = some (.aload_n 0, 221, 0, 0, 0) := by decide +kernel
theorem cd_M_nextAct_221 : code_ 181 221 = some (.getfield 19, 224, 8, 5, 2) := by decide +kernel
theorem cd_M_nextAct_224 : code_ 181 224 = some (.aload_n 0, 225, 0, 0, 0) := by decide +kernel
theorem cd_M_nextAct_225 : code_ 181 225 = some (.getfield 117, 228, 8, 11, 0) := by decide +kernel
theorem cd_M_nextAct_228 : code_ 181 228 = some (.iconst 1, 229, 0, 0, 0) := by decide +kernel
theorem cd_M_nextAct_229 : code_ 181 229 = some (.isub, 230, 0, 0, 0) := by decide +kernel
theorem cd_M_nextAct_230 : code_ 181 230 = some (.iaload, 231, 0, 0, 0) := by decide +kernel
theorem cd_M_nextAct_231 : code_ 181 231 = some (.bipush 48, 233, 0, 0, 0) := by decide +kernel
theorem cd_M_nextAct_233 : code_ 181 233 = some (.isub, 234, 0, 0, 0) := by decide +kernel
theorem cd_M_nextAct_234 : code_ 181 234 = some (.invokevirtual 141, 237, 178, 1, 0) := by decide +kernel
theorem cd_M_nextAct_237 : code_ 181 237 = some (.ireturn, 238, 0, 0, 0) := by decide +kernel
theorem cd_M_nextAct_238 : code_ 181 238 = some (.aload_n 0, 239, 0, 0, 0) := by decide +kernel
theorem cd_M_nextAct_239 : code_ 181 239 = some (.iload_n 1, 240, 0, 0, 0) := by decide +kernel
theorem cd_M_nextAct_240 : code_ 181 240 = some (.bipush 97, 242, 0, 0, 0) := by decide +kernel
theorem cd_M_nextAct_242 : code_ 181 242 = some (.isub, 243, 0, 0, 0) := by decide +kernel
theorem cd_M_nextAct_243 : code_ 181 243 = some (.invokevirtual 144, 246, 180, 1, 0) := by decide +kernel
theorem cd_M_nextAct_246 : code_ 181 246 = some (.ireturn, 247, 0, 0, 0) := by decide +kernel
theorem cd_M_goEvenings_0 : code_ 182 0 = some (.aload_n 0, 1, 0, 0, 0) := by decide +kernel
theorem cd_M_goEvenings_1 : code_ 182 1 = some (.invokevirtual 66, 4, 169, 1, 0) := by decide +kernel
theorem cd_M_goEvenings_4 : code_ 182 4 = some (.aload_n 0, 5, 0, 0, 0) := by decide +kernel
theorem cd_M_goEvenings_5 : code_ 182 5 = some (.iconst 0, 6, 0, 0, 0) := by decide +kernel
theorem cd_M_goEvenings_6 : code_ 182 6 = some (.putfield 147, 9, 8, 10, 0) := by decide +kernel
theorem cd_M_goEvenings_9 : code_ 182 9 = some (.aload_n 0, 10, 0, 0, 0) := by decide +kernel
theorem cd_M_goEvenings_10 : code_ 182 10 = some (.iconst 0, 11, 0, 0, 0) := by decide +kernel
theorem cd_M_goEvenings_11 : code_ 182 11 = some (.putfield 117, 14, 8, 11, 0) := by decide +kernel
theorem cd_M_goEvenings_14 : code_ 182 14 = some (.aload_n 0, 15, 0, 0, 0) := by decide +kernel
theorem cd_M_goEvenings_15 : code_ 182 15 = some (.getfield 117, 18, 8, 11, 0) := by decide +kernel
theorem cd_M_goEvenings_18 : code_ 182 18 = some (.aload_n 0, 19, 0, 0, 0) := by decide +kernel
theorem cd_M_goEvenings_19 : code_ 182 19 = some (.getfield 77, 22, 8, 4, 0) := by decide +kernel
theorem cd_M_goEvenings_22 : code_ 182 22 = some (.if_icmp .ge 93, 25, 115, 0, 0) := by decide +kernel
theorem cd_M_goEvenings_25 : code_ 182 25 = some (.aload_n 0, 26, 0, 0, 0) := by decide +kernel
theorem cd_M_goEvenings_26 : code_ 182 26 = some (.getfield 13, 29, 8, 1, 2) := by decide +kernel
theorem cd_M_goEvenings_29 : code_ 182 29 = some (.bipush 18, 31, 0, 0, 0) := by decide +kernel
theorem cd_M_goEvenings_31 : code_ 182 31 = some (.iaload, 32, 0, 0, 0) := by decide +kernel
theorem cd_M_goEvenings_32 : code_ 182 32 = some (.aload_n 0, 33, 0, 0, 0) := by decide +kernel
theorem cd_M_goEvenings_33 : code_ 182 33 = some (.getfield 13, 36, 8, 1, 2) := by decide +kernel
theorem cd_M_goEvenings_36 : code_ 182 36 = some (.bipush 19, 38, 0, 0, 0) := by decide +kernel
theorem cd_M_goEvenings_38 : code_ 182 38 = some (.iaload, 39, 0, 0, 0) := by decide +kernel
theorem cd_M_goEvenings_39 : code_ 182 39 = some (.iadd, 40, 0, 0, 0) := by decide +kernel
theorem cd_M_goEvenings_40 : code_ 182 40 = some (.istore_n 1, 41, 0, 0, 0) := by decide +kernel
theorem cd_M_goEvenings_41 : code_ 182 41 = some (.aload_n 0, 42, 0, 0, 0) := by decide +kernel
theorem cd_M_goEvenings_42 : code_ 182 42 = some (.aload_n 0, 43, 0, 0, 0) := by decide +kernel
theorem cd_M_goEvenings_43 : code_ 182 43 = some (.invokevirtual 150, 46, 181, 1, 0) := by decide +kernel
theorem cd_M_goEvenings_46 : code_ 182 46 = some (.putfield 153, 49, 8, 9, 0) := by decide +kernel
theorem cd_M_goEvenings_49 : code_ 182 49 = some (.aload_n 0, 50, 0, 0, 0) := by decide +kernel
theorem cd_M_goEvenings_50 : code_ 182 50 = some (.getfield 153, 53, 8, 9, 0) := by decide +kernel
theorem cd_M_goEvenings_53 : code_ 182 53 = some (.ifCond .le 8, 56, 61, 0, 0) := by decide +kernel
theorem cd_M_goEvenings_56 : code_ 182 56 = some (.aload_n 0, 57, 0, 0, 0) := by decide +kernel
theorem cd_M_goEvenings_57 : code_ 182 57 = some (.getfield 147, 60, 8, 10, 0) := by decide +kernel
theorem cd_M_goEvenings_60 : code_ 182 60 = some (.ireturn, 61, 0, 0, 0) := by decide +kernel
theorem cd_M_goEvenings_61 : code_ 182 61 = some (.aload_n 0, 62, 0, 0, 0) := by decide +kernel
theorem cd_M_goEvenings_62 : code_ 182 62 = some (.aload_n 0, 63, 0, 0, 0) := by decide +kernel
theorem cd_M_goEvenings_63 : code_ 182 63 = some (.getfield 100, 66, 8, 8, 0) := by decide +kernel
theorem cd_M_goEvenings_66 : code_ 182 66 = some (.ifCond .ge 29, 69, 95, 0, 0) := by decide +kernel
theorem cd_M_goEvenings_69 : code_ 182 69 = some (.aload_n 0, 70, 0, 0, 0) := by decide +kernel
theorem cd_M_goEvenings_70 : code_ 182 70 = some (.getfield 13, 73, 8, 1, 2) := by decide +kernel
theorem cd_M_goEvenings_73 : code_ 182 73 = some (.bipush 18, 75, 0, 0, 0) := by decide +kernel
theorem cd_M_goEvenings_75 : code_ 182 75 = some (.iaload, 76, 0, 0, 0) := by decide +kernel
theorem cd_M_goEvenings_76 : code_ 182 76 = some (.aload_n 0, 77, 0, 0, 0) := by decide +kernel
theorem cd_M_goEvenings_77 : code_ 182 77 = some (.getfield 13, 80, 8, 1, 2) := by decide +kernel
theorem cd_M_goEvenings_80 : code_ 182 80 = some (.bipush 19, 82, 0, 0, 0) := by decide +kernel
theorem cd_M_goEvenings_82 : code_ 182 82 = some (.iaload, 83, 0, 0, 0) := by decide +kernel
theorem cd_M_goEvenings_83 : code_ 182 83 = some (.iadd, 84, 0, 0, 0) := by decide +kernel
theorem cd_M_goEvenings_84 : code_ 182 84 = some (.iload_n 1, 85, 0, 0, 0) := by decide +kernel
theorem cd_M_goEvenings_85 : code_ 182 85 = some (.if_icmp .le 10, 88, 95, 0, 0) := by decide +kernel
theorem cd_M_goEvenings_88 : code_ 182 88 = some (.aload_n 0, 89, 0, 0, 0) := by decide +kernel
theorem cd_M_goEvenings_89 : code_ 182 89 = some (.getfield 147, 92, 8, 10, 0) := by decide +kernel
theorem cd_M_goEvenings_92 : code_ 182 92 = some (.goto 7, 95, 99, 0, 0) := by decide +kernel
theorem cd_M_goEvenings_95 : code_ 182 95 = some (.aload_n 0, 96, 0, 0, 0) := by decide +kernel
theorem cd_M_goEvenings_96 : code_ 182 96 = some (.getfield 100, 99, 8, 8, 0) := by decide +kernel
theorem cd_M_goEvenings_99 : code_ 182 99 = some (.putfield 100, 102, 8, 8, 0) := by decide +kernel
theorem cd_M_goEvenings_102 : code_ 182 102 = some (.aload_n 0, 103, 0, 0, 0) := by decide +kernel
theorem cd_M_goEvenings_103 : code_ 182 103 = some (.dup, 104, 0, 0, 0) := by decide +kernel
theorem cd_M_goEvenings_104 : code_ 182 104 = some (.getfield 147, 107, 8, 10, 0) := by decide +kernel
theorem cd_M_goEvenings_107 : code_ 182 107 = some (.iconst 1, 108, 0, 0, 0) := by decide +kernel
theorem cd_M_goEvenings_108 : code_ 182 108 = some (.iadd, 109, 0, 0, 0) := by decide +kernel
theorem cd_M_goEvenings_109 : code_ 182 109 = some (.putfield 147, 112, 8, 10, 0) := by decide +kernel
theorem cd_M_goEvenings_112 : code_ 182 112 = some (.goto (-98), 115, 14, 0, 0) := by decide +kernel
theorem cd_M_goEvenings_115 : code_ 182 115 = some (.bipush (-6), 117, 0, 0, 0) := by decide +kernel
theorem cd_M_goEvenings_117 : code_ 182 117 = some (.ireturn, 118, 0, 0, 0) := by decide +kernel
theorem cd_M_judge_0 : code_ 183 0 = some (.iload_n 1, 1, 0, 0, 0) := by decide +kernel
theorem cd_M_judge_1 : code_ 183 1 = some (.iconst 0, 2, 0, 0, 0) := by decide +kernel
theorem cd_M_judge_2 : code_ 183 2 = some (.iconst 1, 3, 0, 0, 0) := by decide +kernel
theorem cd_M_judge_3 : code_ 183 3 = some (.invokestatic 46, 6, 146, 0, 0) := by decide +kernel
theorem cd_M_judge_6 : code_ 183 6 = some (.ifCond .ne 6, 9, 12, 0, 0) := by decide +kernel
theorem cd_M_judge_9 : code_ 183 9 = some (.bipush (-2), 11, 0, 0, 0) := by decide +kernel
theorem cd_M_judge_11 : code_ 183 11 = some (.ireturn, 12, 0, 0, 0) := by decide +kernel
theorem cd_M_judge_12 : code_ 183 12 = some (.aload_n 0, 13, 0, 0, 0) := by decide +kernel
theorem cd_M_judge_13 : code_ 183 13 = some (.invokevirtual 84, 16, 163, 1, 0) := by decide +kernel
theorem cd_M_judge_16 : code_ 183 16 = some (.ifCond .lt 6, 19, 22, 0, 0) := by decide +kernel
theorem cd_M_judge_19 : code_ 183 19 = some (.bipush (-5), 21, 0, 0, 0) := by decide +kernel
theorem cd_M_judge_21 : code_ 183 21 = some (.ireturn, 22, 0, 0, 0) := by decide +kernel
theorem cd_M_judge_22 : code_ 183 22 = some (.aload_n 0, 23, 0, 0, 0) := by decide +kernel
theorem cd_M_judge_23 : code_ 183 23 = some (.invokevirtual 156, 26, 182, 1, 0) := by decide +kernel
theorem cd_M_judge_26 : code_ 183 26 = some (.istore_n 2, 27, 0, 0, 0) := by decide +kernel
theorem cd_M_judge_27 : code_ 183 27 = some (.iload_n 2, 28, 0, 0, 0) := by decide +kernel
theorem cd_M_judge_28 : code_ 183 28 = some (.ifCond .lt 7, 31, 35, 0, 0) := by decide +kernel
theorem cd_M_judge_31 : code_ 183 31 = some (.iload_n 1, 32, 0, 0, 0) := by decide +kernel
theorem cd_M_judge_32 : code_ 183 32 = some (.ifCond .ne 7, 35, 39, 0, 0) := by decide +kernel
theorem cd_M_judge_35 : code_ 183 35 = some (.iload_n 2, 36, 0, 0, 0) := by decide +kernel
theorem cd_M_judge_36 : code_ 183 36 = some (.goto 7, 39, 43, 0, 0) := by decide +kernel
theorem cd_M_judge_39 : code_ 183 39 = some (.aload_n 0, 40, 0, 0, 0) := by decide +kernel
theorem cd_M_judge_40 : code_ 183 40 = some (.getfield 153, 43, 8, 9, 0) := by decide +kernel
theorem cd_M_judge_43 : code_ 183 43 = some (.ireturn, 44, 0, 0, 0) := by decide +kernel
theorem cd_M_barOfEvenings_0 : code_ 184 0 = some (.aload_n 0, 1, 0, 0, 0) := by decide +kernel
theorem cd_M_barOfEvenings_1 : code_ 184 1 = some (.invokevirtual 84, 4, 163, 1, 0) := by decide +kernel
theorem cd_M_barOfEvenings_4 : code_ 184 4 = some (.ifCond .ge 10, 7, 14, 0, 0) := by decide +kernel
theorem cd_M_barOfEvenings_7 : code_ 184 7 = some (.aload_n 0, 8, 0, 0, 0) := by decide +kernel
theorem cd_M_barOfEvenings_8 : code_ 184 8 = some (.invokevirtual 156, 11, 182, 1, 0) := by decide +kernel
theorem cd_M_barOfEvenings_11 : code_ 184 11 = some (.ifCond .lt 8, 14, 19, 0, 0) := by decide +kernel
theorem cd_M_barOfEvenings_14 : code_ 184 14 = some (.bipush (-5), 16, 0, 0, 0) := by decide +kernel
theorem cd_M_barOfEvenings_16 : code_ 184 16 = some (.goto 4, 19, 20, 0, 0) := by decide +kernel
theorem cd_M_barOfEvenings_19 : code_ 184 19 = some (.iconst 0, 20, 0, 0, 0) := by decide +kernel
theorem cd_M_barOfEvenings_20 : code_ 184 20 = some (.ireturn, 21, 0, 0, 0) := by decide +kernel
theorem cd_M_done_0 : code_ 185 0 = some (.aload_n 0, 1, 0, 0, 0) := by decide +kernel
theorem cd_M_done_1 : code_ 185 1 = some (.invokevirtual 159, 4, 184, 1, 0) := by decide +kernel
theorem cd_M_done_4 : code_ 185 4 = some (.ifCond .ge 6, 7, 10, 0, 0) := by decide +kernel
theorem cd_M_done_7 : code_ 185 7 = some (.bipush (-5), 9, 0, 0, 0) := by decide +kernel
theorem cd_M_done_9 : code_ 185 9 = some (.ireturn, 10, 0, 0, 0) := by decide +kernel
theorem cd_M_done_10 : code_ 185 10 = some (.iconst 0, 11, 0, 0, 0) := by decide +kernel
theorem cd_M_done_11 : code_ 185 11 = some (.istore_n 1, 12, 0, 0, 0) := by decide +kernel
theorem cd_M_done_12 : code_ 185 12 = some (.iload_n 1, 13, 0, 0, 0) := by decide +kernel
theorem cd_M_done_13 : code_ 185 13 = some (.bipush 21, 15, 0, 0, 0) := by decide +kernel
theorem cd_M_done_15 : code_ 185 15 = some (.if_icmp .ge 21, 18, 36, 0, 0) := by decide +kernel
theorem cd_M_done_18 : code_ 185 18 = some (.aload_n 0, 19, 0, 0, 0) := by decide +kernel
theorem cd_M_done_19 : code_ 185 19 = some (.getfield 7, 22, 8, 0, 2) := by decide +kernel
theorem cd_M_done_22 : code_ 185 22 = some (.iload_n 1, 23, 0, 0, 0) := by decide +kernel
theorem cd_M_done_23 : code_ 185 23 = some (.aload_n 0, 24, 0, 0, 0) := by decide +kernel
theorem cd_M_done_24 : code_ 185 24 = some (.getfield 13, 27, 8, 1, 2) := by decide +kernel
theorem cd_M_done_27 : code_ 185 27 = some (.iload_n 1, 28, 0, 0, 0) := by decide +kernel
theorem cd_M_done_28 : code_ 185 28 = some (.iaload, 29, 0, 0, 0) := by decide +kernel
theorem cd_M_done_29 : code_ 185 29 = some (.iastore, 30, 0, 0, 0) := by decide +kernel
theorem cd_M_done_30 : code_ 185 30 = some (.iinc 1 1, 33, 0, 0, 0) := by decide +kernel
theorem cd_M_done_33 : code_ 185 33 = some (.goto (-21), 36, 12, 0, 0) := by decide +kernel
theorem cd_M_done_36 : code_ 185 36 = some (.aload_n 0, 37, 0, 0, 0) := by decide +kernel
theorem cd_M_done_37 : code_ 185 37 = some (.iconst 0, 38, 0, 0, 0) := by decide +kernel
theorem cd_M_done_38 : code_ 185 38 = some (.putfield 77, 41, 8, 4, 0) := by decide +kernel
theorem cd_M_done_41 : code_ 185 41 = some (.aload_n 0, 42, 0, 0, 0) := by decide +kernel
theorem cd_M_done_42 : code_ 185 42 = some (.getfield 147, 45, 8, 10, 0) := by decide +kernel
theorem cd_M_done_45 : code_ 185 45 = some (.ireturn, 46, 0, 0, 0) := by decide +kernel
theorem cd_M_behind_0 : code_ 186 0 = some (.iload_n 1, 1, 0, 0, 0) := by decide +kernel
theorem cd_M_behind_1 : code_ 186 1 = some (.invokestatic 62, 4, 148, 0, 0) := by decide +kernel
theorem cd_M_behind_4 : code_ 186 4 = some (.ifCond .ne 5, 7, 9, 0, 0) := by decide +kernel
theorem cd_M_behind_7 : code_ 186 7 = some (.iconst (-1), 8, 0, 0, 0) := by decide +kernel
theorem cd_M_behind_8 : code_ 186 8 = some (.ireturn, 9, 0, 0, 0) := by decide +kernel
theorem cd_M_behind_9 : code_ 186 9 = some (.iload_n 2, 10, 0, 0, 0) := by decide +kernel
theorem cd_M_behind_10 : code_ 186 10 = some (.iconst 0, 11, 0, 0, 0) := by decide +kernel
theorem cd_M_behind_11 : code_ 186 11 = some (.iconst 1, 12, 0, 0, 0) := by decide +kernel
theorem cd_M_behind_12 : code_ 186 12 = some (.invokestatic 46, 15, 146, 0, 0) := by decide +kernel
theorem cd_M_behind_15 : code_ 186 15 = some (.ifCond .ne 6, 18, 21, 0, 0) := by decide +kernel
theorem cd_M_behind_18 : code_ 186 18 = some (.bipush (-2), 20, 0, 0, 0) := by decide +kernel
theorem cd_M_behind_20 : code_ 186 20 = some (.ireturn, 21, 0, 0, 0) := by decide +kernel
theorem cd_M_behind_21 : code_ 186 21 = some (.aload_n 0, 22, 0, 0, 0) := by decide +kernel
theorem cd_M_behind_22 : code_ 186 22 = some (.invokevirtual 159, 25, 184, 1, 0) := by decide +kernel
theorem cd_M_behind_25 : code_ 186 25 = some (.ifCond .ge 8, 28, 33, 0, 0) := by decide +kernel
theorem cd_M_behind_28 : code_ 186 28 = some (.bipush (-5), 30, 0, 0, 0) := by decide +kernel
theorem cd_M_behind_30 : code_ 186 30 = some (.goto 14, 33, 44, 0, 0) := by decide +kernel
theorem cd_M_behind_33 : code_ 186 33 = some (.aload_n 0, 34, 0, 0, 0) := by decide +kernel
theorem cd_M_behind_34 : code_ 186 34 = some (.getfield 13, 37, 8, 1, 2) := by decide +kernel
theorem cd_M_behind_37 : code_ 186 37 = some (.bipush 8, 39, 0, 0, 0) := by decide +kernel
theorem cd_M_behind_39 : code_ 186 39 = some (.iload_n 2, 40, 0, 0, 0) := by decide +kernel
theorem cd_M_behind_40 : code_ 186 40 = some (.imul, 41, 0, 0, 0) := by decide +kernel
theorem cd_M_behind_41 : code_ 186 41 = some (.iload_n 1, 42, 0, 0, 0) := by decide +kernel
theorem cd_M_behind_42 : code_ 186 42 = some (.iadd, 43, 0, 0, 0) := by decide +kernel
theorem cd_M_behind_43 : code_ 186 43 = some (.iaload, 44, 0, 0, 0) := by decide +kernel
theorem cd_M_behind_44 : code_ 186 44 = some (.ireturn, 45, 0, 0, 0) := by decide +kernel
theorem cd_M_then_0 : code_ 187 0 = some (.iload_n 1, 1, 0, 0, 0) := by decide +kernel
theorem cd_M_then_1 : code_ 187 1 = some (.iconst 0, 2, 0, 0, 0) := by decide +kernel
theorem cd_M_then_2 : code_ 187 2 = some (.bipush 6, 4, 0, 0, 0) := by decide +kernel
theorem cd_M_then_4 : code_ 187 4 = some (.invokestatic 46, 7, 146, 0, 0) := by decide +kernel
theorem cd_M_then_7 : code_ 187 7 = some (.ifCond .ne 6, 10, 13, 0, 0) := by decide +kernel
theorem cd_M_then_10 : code_ 187 10 = some (.bipush (-2), 12, 0, 0, 0) := by decide +kernel
theorem cd_M_then_12 : code_ 187 12 = some (.ireturn, 13, 0, 0, 0) := by decide +kernel
theorem cd_M_then_13 : code_ 187 13 = some (.aload_n 0, 14, 0, 0, 0) := by decide +kernel
theorem cd_M_then_14 : code_ 187 14 = some (.invokevirtual 159, 17, 184, 1, 0) := by decide +kernel
theorem cd_M_then_17 : code_ 187 17 = some (.ifCond .ge 6, 20, 23, 0, 0) := by decide +kernel
theorem cd_M_then_20 : code_ 187 20 = some (.bipush (-5), 22, 0, 0, 0) := by decide +kernel
theorem cd_M_then_22 : code_ 187 22 = some (.ireturn, 23, 0, 0, 0) := by decide +kernel
theorem cd_M_then_23 : code_ 187 23 = some (.iload_n 1, 24, 0, 0, 0) := by decide +kernel
theorem cd_M_then_24 : code_ 187 24 = some (.bipush 6, 26, 0, 0, 0) := by decide +kernel
theorem cd_M_then_26 : code_ 187 26 = some (.if_icmp .ne 8, 29, 34, 0, 0) := by decide +kernel
theorem cd_M_then_29 : code_ 187 29 = some (.aload_n 0, 30, 0, 0, 0) := by decide +kernel
theorem cd_M_then_30 : code_ 187 30 = some (.getfield 100, 33, 8, 8, 0) := by decide +kernel
theorem cd_M_then_33 : code_ 187 33 = some (.ireturn, 34, 0, 0, 0) := by decide +kernel
theorem cd_M_then_34 : code_ 187 34 = some (.iload_n 1, 35, 0, 0, 0) := by decide +kernel
theorem cd_M_then_35 : code_ 187 35 = some (.iconst 2, 36, 0, 0, 0) := by decide +kernel
theorem cd_M_then_36 : code_ 187 36 = some (.if_icmp .ge 15, 39, 51, 0, 0) := by decide +kernel
theorem cd_M_then_39 : code_ 187 39 = some (.aload_n 0, 40, 0, 0, 0) := by decide +kernel
theorem cd_M_then_40 : code_ 187 40 = some (.getfield 13, 43, 8, 1, 2) := by decide +kernel
theorem cd_M_then_43 : code_ 187 43 = some (.bipush 16, 45, 0, 0, 0) := by decide +kernel
theorem cd_M_then_45 : code_ 187 45 = some (.iload_n 1, 46, 0, 0, 0) := by decide +kernel
theorem cd_M_then_46 : code_ 187 46 = some (.iadd, 47, 0, 0, 0) := by decide +kernel
theorem cd_M_then_47 : code_ 187 47 = some (.iaload, 48, 0, 0, 0) := by decide +kernel
theorem cd_M_then_48 : code_ 187 48 = some (.goto 53, 51, 101, 0, 0) := by decide +kernel
theorem cd_M_then_51 : code_ 187 51 = some (.iload_n 1, 52, 0, 0, 0) := by decide +kernel
theorem cd_M_then_52 : code_ 187 52 = some (.iconst 2, 53, 0, 0, 0) := by decide +kernel
theorem cd_M_then_53 : code_ 187 53 = some (.if_icmp .le 15, 56, 68, 0, 0) := by decide +kernel
theorem cd_M_then_56 : code_ 187 56 = some (.aload_n 0, 57, 0, 0, 0) := by decide +kernel
theorem cd_M_then_57 : code_ 187 57 = some (.getfield 13, 60, 8, 1, 2) := by decide +kernel
theorem cd_M_then_60 : code_ 187 60 = some (.bipush 15, 62, 0, 0, 0) := by decide +kernel
theorem cd_M_then_62 : code_ 187 62 = some (.iload_n 1, 63, 0, 0, 0) := by decide +kernel
theorem cd_M_then_63 : code_ 187 63 = some (.iadd, 64, 0, 0, 0) := by decide +kernel
theorem cd_M_then_64 : code_ 187 64 = some (.iaload, 65, 0, 0, 0) := by decide +kernel
theorem cd_M_then_65 : code_ 187 65 = some (.goto 36, 68, 101, 0, 0) := by decide +kernel
theorem cd_M_then_68 : code_ 187 68 = some (.aload_n 0, 69, 0, 0, 0) := by decide +kernel
theorem cd_M_then_69 : code_ 187 69 = some (.getfield 13, 72, 8, 1, 2) := by decide +kernel
theorem cd_M_then_72 : code_ 187 72 = some (.bipush 16, 74, 0, 0, 0) := by decide +kernel
theorem cd_M_then_74 : code_ 187 74 = some (.iaload, 75, 0, 0, 0) := by decide +kernel
theorem cd_M_then_75 : code_ 187 75 = some (.ifCond .ge 8, 78, 83, 0, 0) := by decide +kernel
theorem cd_M_then_78 : code_ 187 78 = some (.bipush (-6), 80, 0, 0, 0) := by decide +kernel
theorem cd_M_then_80 : code_ 187 80 = some (.goto 21, 83, 101, 0, 0) := by decide +kernel
theorem cd_M_then_83 : code_ 187 83 = some (.aload_n 0, 84, 0, 0, 0) := by decide +kernel
theorem cd_M_then_84 : code_ 187 84 = some (.aload_n 0, 85, 0, 0, 0) := by decide +kernel
theorem cd_M_then_85 : code_ 187 85 = some (.getfield 13, 88, 8, 1, 2) := by decide +kernel
theorem cd_M_then_88 : code_ 187 88 = some (.bipush 16, 90, 0, 0, 0) := by decide +kernel
theorem cd_M_then_90 : code_ 187 90 = some (.iaload, 91, 0, 0, 0) := by decide +kernel
theorem cd_M_then_91 : code_ 187 91 = some (.aload_n 0, 92, 0, 0, 0) := by decide +kernel
theorem cd_M_then_92 : code_ 187 92 = some (.getfield 13, 95, 8, 1, 2) := by decide +kernel
theorem cd_M_then_95 : code_ 187 95 = some (.bipush 17, 97, 0, 0, 0) := by decide +kernel
theorem cd_M_then_97 : code_ 187 97 = some (.iaload, 98, 0, 0, 0) := by decide +kernel
theorem cd_M_then_98 : code_ 187 98 = some (.invokevirtual 88, 101, 165, 1, 0) := by decide +kernel
theorem cd_M_then_101 : code_ 187 101 = some (.ireturn, 102, 0, 0, 0) := by decide +kernel
theorem cd_M_ends_0 : code_ 188 0 = some (.iload_n 1, 1, 0, 0, 0) := by decide +kernel
theorem cd_M_ends_1 : code_ 188 1 = some (.bipush (-9), 3, 0, 0, 0) := by decide +kernel
theorem cd_M_ends_3 : code_ 188 3 = some (.bipush 9, 5, 0, 0, 0) := by decide +kernel
theorem cd_M_ends_5 : code_ 188 5 = some (.invokestatic 46, 8, 146, 0, 0) := by decide +kernel
theorem cd_M_ends_8 : code_ 188 8 = some (.ifCond .ne 6, 11, 14, 0, 0) := by decide +kernel
theorem cd_M_ends_11 : code_ 188 11 = some (.bipush (-2), 13, 0, 0, 0) := by decide +kernel
theorem cd_M_ends_13 : code_ 188 13 = some (.ireturn, 14, 0, 0, 0) := by decide +kernel
theorem cd_M_ends_14 : code_ 188 14 = some (.aload_n 0, 15, 0, 0, 0) := by decide +kernel
theorem cd_M_ends_15 : code_ 188 15 = some (.invokevirtual 66, 18, 169, 1, 0) := by decide +kernel
theorem cd_M_ends_18 : code_ 188 18 = some (.aload_n 0, 19, 0, 0, 0) := by decide +kernel
theorem cd_M_ends_19 : code_ 188 19 = some (.getfield 13, 22, 8, 1, 2) := by decide +kernel
theorem cd_M_ends_22 : code_ 188 22 = some (.bipush 16, 24, 0, 0, 0) := by decide +kernel
theorem cd_M_ends_24 : code_ 188 24 = some (.iaload, 25, 0, 0, 0) := by decide +kernel
theorem cd_M_ends_25 : code_ 188 25 = some (.ifCond .ge 8, 28, 33, 0, 0) := by decide +kernel
theorem cd_M_ends_28 : code_ 188 28 = some (.bipush (-3), 30, 0, 0, 0) := by decide +kernel
theorem cd_M_ends_30 : code_ 188 30 = some (.goto 8, 33, 38, 0, 0) := by decide +kernel
theorem cd_M_ends_33 : code_ 188 33 = some (.aload_n 0, 34, 0, 0, 0) := by decide +kernel
theorem cd_M_ends_34 : code_ 188 34 = some (.iload_n 1, 35, 0, 0, 0) := by decide +kernel
theorem cd_M_ends_35 : code_ 188 35 = some (.invokevirtual 114, 38, 167, 1, 0) := by decide +kernel
theorem cd_M_ends_38 : code_ 188 38 = some (.ireturn, 39, 0, 0, 0) := by decide +kernel
theorem cd_M_allIn_0 : code_ 189 0 = some (.iconst 0, 1, 0, 0, 0) := by decide +kernel
theorem cd_M_allIn_1 : code_ 189 1 = some (.istore_n 1, 2, 0, 0, 0) := by decide +kernel
theorem cd_M_allIn_2 : code_ 189 2 = some (.bipush (-9), 4, 0, 0, 0) := by decide +kernel
theorem cd_M_allIn_4 : code_ 189 4 = some (.istore_n 2, 5, 0, 0, 0) := by decide +kernel
theorem cd_M_allIn_5 : code_ 189 5 = some (.iload_n 2, 6, 0, 0, 0) := by decide +kernel
theorem cd_M_allIn_6 : code_ 189 6 = some (.bipush 10, 8, 0, 0, 0) := by decide +kernel
theorem cd_M_allIn_8 : code_ 189 8 = some (.if_icmp .ge 32, 11, 40, 0, 0) := by decide +kernel
theorem cd_M_allIn_11 : code_ 189 11 = some (.iload_n 1, 12, 0, 0, 0) := by decide +kernel
theorem cd_M_allIn_12 : code_ 189 12 = some (.aload_n 0, 13, 0, 0, 0) := by decide +kernel
theorem cd_M_allIn_13 : code_ 189 13 = some (.iload_n 2, 14, 0, 0, 0) := by decide +kernel
theorem cd_M_allIn_14 : code_ 189 14 = some (.invokevirtual 114, 17, 167, 1, 0) := by decide +kernel
theorem cd_M_allIn_17 : code_ 189 17 = some (.bipush 8, 19, 0, 0, 0) := by decide +kernel
theorem cd_M_allIn_19 : code_ 189 19 = some (.if_icmp .ne 12, 22, 31, 0, 0) := by decide +kernel
theorem cd_M_allIn_22 : code_ 189 22 = some (.iconst 1, 23, 0, 0, 0) := by decide +kernel
theorem cd_M_allIn_23 : code_ 189 23 = some (.iload_n 2, 24, 0, 0, 0) := by decide +kernel
theorem cd_M_allIn_24 : code_ 189 24 = some (.bipush 9, 26, 0, 0, 0) := by decide +kernel
theorem cd_M_allIn_26 : code_ 189 26 = some (.iadd, 27, 0, 0, 0) := by decide +kernel
theorem cd_M_allIn_27 : code_ 189 27 = some (.ishl, 28, 0, 0, 0) := by decide +kernel
theorem cd_M_allIn_28 : code_ 189 28 = some (.goto 4, 31, 32, 0, 0) := by decide +kernel
theorem cd_M_allIn_31 : code_ 189 31 = some (.iconst 0, 32, 0, 0, 0) := by decide +kernel
theorem cd_M_allIn_32 : code_ 189 32 = some (.ior, 33, 0, 0, 0) := by decide +kernel
theorem cd_M_allIn_33 : code_ 189 33 = some (.istore_n 1, 34, 0, 0, 0) := by decide +kernel
theorem cd_M_allIn_34 : code_ 189 34 = some (.iinc 2 1, 37, 0, 0, 0) := by decide +kernel
theorem cd_M_allIn_37 : code_ 189 37 = some (.goto (-32), 40, 5, 0, 0) := by decide +kernel
theorem cd_M_allIn_40 : code_ 189 40 = some (.iload_n 1, 41, 0, 0, 0) := by decide +kernel
theorem cd_M_allIn_41 : code_ 189 41 = some (.ireturn, 42, 0, 0, 0) := by decide +kernel
theorem cd_M_goesIn_0 : code_ 190 0 = some (.aload_n 0, 1, 0, 0, 0) := by decide +kernel
theorem cd_M_goesIn_1 : code_ 190 1 = some (.invokevirtual 66, 4, 169, 1, 0) := by decide +kernel
theorem cd_M_goesIn_4 : code_ 190 4 = some (.aload_n 0, 5, 0, 0, 0) := by decide +kernel
theorem cd_M_goesIn_5 : code_ 190 5 = some (.getfield 13, 8, 8, 1, 2) := by decide +kernel
theorem cd_M_goesIn_8 : code_ 190 8 = some (.bipush 16, 10, 0, 0, 0) := by decide +kernel
theorem cd_M_goesIn_10 : code_ 190 10 = some (.iaload, 11, 0, 0, 0) := by decide +kernel
theorem cd_M_goesIn_11 : code_ 190 11 = some (.ifCond .ge 8, 14, 19, 0, 0) := by decide +kernel
theorem cd_M_goesIn_14 : code_ 190 14 = some (.bipush (-3), 16, 0, 0, 0) := by decide +kernel
theorem cd_M_goesIn_16 : code_ 190 16 = some (.goto 7, 19, 23, 0, 0) := by decide +kernel
theorem cd_M_goesIn_19 : code_ 190 19 = some (.aload_n 0, 20, 0, 0, 0) := by decide +kernel
theorem cd_M_goesIn_20 : code_ 190 20 = some (.invokevirtual 162, 23, 189, 1, 0) := by decide +kernel
theorem cd_M_goesIn_23 : code_ 190 23 = some (.ireturn, 24, 0, 0, 0) := by decide +kernel
theorem cd_M_passes_0 : code_ 191 0 = some (.iload_n 1, 1, 0, 0, 0) := by decide +kernel
theorem cd_M_passes_1 : code_ 191 1 = some (.iload_n 3, 2, 0, 0, 0) := by decide +kernel
theorem cd_M_passes_2 : code_ 191 2 = some (.if_icmp .ne 25, 5, 27, 0, 0) := by decide +kernel
theorem cd_M_passes_5 : code_ 191 5 = some (.iload 4, 7, 0, 0, 0) := by decide +kernel
theorem cd_M_passes_7 : code_ 191 7 = some (.iload_n 2, 8, 0, 0, 0) := by decide +kernel
theorem cd_M_passes_8 : code_ 191 8 = some (.iconst 1, 9, 0, 0, 0) := by decide +kernel
theorem cd_M_passes_9 : code_ 191 9 = some (.iadd, 10, 0, 0, 0) := by decide +kernel
theorem cd_M_passes_10 : code_ 191 10 = some (.if_icmp .eq 11, 13, 21, 0, 0) := by decide +kernel
theorem cd_M_passes_13 : code_ 191 13 = some (.iload 4, 15, 0, 0, 0) := by decide +kernel
theorem cd_M_passes_15 : code_ 191 15 = some (.iload_n 2, 16, 0, 0, 0) := by decide +kernel
theorem cd_M_passes_16 : code_ 191 16 = some (.iconst 1, 17, 0, 0, 0) := by decide +kernel
theorem cd_M_passes_17 : code_ 191 17 = some (.isub, 18, 0, 0, 0) := by decide +kernel
theorem cd_M_passes_18 : code_ 191 18 = some (.if_icmp .ne 7, 21, 25, 0, 0) := by decide +kernel
theorem cd_M_passes_21 : code_ 191 21 = some (.iconst 1, 22, 0, 0, 0) := by decide +kernel
theorem cd_M_passes_22 : code_ 191 22 = some (.goto 4, 25, 26, 0, 0) := by decide +kernel
theorem cd_M_passes_25 : code_ 191 25 = some (.iconst 0, 26, 0, 0, 0) := by decide +kernel
theorem cd_M_passes_26 : code_ 191 26 = some (.ireturn, 27, 0, 0, 0) := by decide +kernel
theorem cd_M_passes_27 : code_ 191 27 = some (.aload_n 0, 28, 0, 0, 0) := by decide +kernel
theorem cd_M_passes_28 : code_ 191 28 = some (.iload_n 1, 29, 0, 0, 0) := by decide +kernel
theorem cd_M_passes_29 : code_ 191 29 = some (.iload_n 2, 30, 0, 0, 0) := by decide +kernel
theorem cd_M_passes_30 : code_ 191 30 = some (.iload_n 3, 31, 0, 0, 0) := by decide +kernel
theorem cd_M_passes_31 : code_ 191 31 = some (.invokevirtual 110, 34, 168, 1, 0) := by decide +kernel
theorem cd_M_passes_34 : code_ 191 34 = some (.iload_n 3, 35, 0, 0, 0) := by decide +kernel
theorem cd_M_passes_35 : code_ 191 35 = some (.if_icmp .ne 16, 38, 51, 0, 0) := by decide +kernel
theorem cd_M_passes_38 : code_ 191 38 = some (.aload_n 0, 39, 0, 0, 0) := by decide +kernel
theorem cd_M_passes_39 : code_ 191 39 = some (.getfield 97, 42, 8, 7, 0) := by decide +kernel
theorem cd_M_passes_42 : code_ 191 42 = some (.iload 4, 44, 0, 0, 0) := by decide +kernel
theorem cd_M_passes_44 : code_ 191 44 = some (.if_icmp .ne 7, 47, 51, 0, 0) := by decide +kernel
theorem cd_M_passes_47 : code_ 191 47 = some (.iconst 1, 48, 0, 0, 0) := by decide +kernel
theorem cd_M_passes_48 : code_ 191 48 = some (.goto 4, 51, 52, 0, 0) := by decide +kernel
theorem cd_M_passes_51 : code_ 191 51 = some (.iconst 0, 52, 0, 0, 0) := by decide +kernel
theorem cd_M_passes_52 : code_ 191 52 = some (.ireturn, 53, 0, 0, 0) := by decide +kernel
theorem cd_M_path_0 : code_ 192 0 = some (.iload_n 1, 1, 0, 0, 0) := by decide +kernel
theorem cd_M_path_1 : code_ 192 1 = some (.iload_n 2, 2, 0, 0, 0) := by decide +kernel
theorem cd_M_path_2 : code_ 192 2 = some (.invokestatic 73, 5, 154, 0, 0) := by decide +kernel
theorem cd_M_path_5 : code_ 192 5 = some (.ifCond .ne 5, 8, 10, 0, 0) := by decide +kernel
theorem cd_M_path_8 : code_ 192 8 = some (.iconst (-1), 9, 0, 0, 0) := by decide +kernel
theorem cd_M_path_9 : code_ 192 9 = some (.ireturn, 10, 0, 0, 0) := by decide +kernel
theorem cd_M_path_10 : code_ 192 10 = some (.iload_n 3, 11, 0, 0, 0) := by decide +kernel
theorem cd_M_path_11 : code_ 192 11 = some (.iconst 0, 12, 0, 0, 0) := by decide +kernel
theorem cd_M_path_12 : code_ 192 12 = some (.iconst 1, 13, 0, 0, 0) := by decide +kernel
theorem cd_M_path_13 : code_ 192 13 = some (.invokestatic 46, 16, 146, 0, 0) := by decide +kernel
theorem cd_M_path_16 : code_ 192 16 = some (.ifCond .ne 6, 19, 22, 0, 0) := by decide +kernel
theorem cd_M_path_19 : code_ 192 19 = some (.bipush (-2), 21, 0, 0, 0) := by decide +kernel
theorem cd_M_path_21 : code_ 192 21 = some (.ireturn, 22, 0, 0, 0) := by decide +kernel
theorem cd_M_path_22 : code_ 192 22 = some (.aload_n 0, 23, 0, 0, 0) := by decide +kernel
theorem cd_M_path_23 : code_ 192 23 = some (.invokevirtual 66, 26, 169, 1, 0) := by decide +kernel
theorem cd_M_path_26 : code_ 192 26 = some (.aload_n 0, 27, 0, 0, 0) := by decide +kernel
theorem cd_M_path_27 : code_ 192 27 = some (.getfield 13, 30, 8, 1, 2) := by decide +kernel
theorem cd_M_path_30 : code_ 192 30 = some (.bipush 16, 32, 0, 0, 0) := by decide +kernel
theorem cd_M_path_32 : code_ 192 32 = some (.iaload, 33, 0, 0, 0) := by decide +kernel
theorem cd_M_path_33 : code_ 192 33 = some (.ifCond .ge 6, 36, 39, 0, 0) := by decide +kernel
theorem cd_M_path_36 : code_ 192 36 = some (.bipush (-3), 38, 0, 0, 0) := by decide +kernel
theorem cd_M_path_38 : code_ 192 38 = some (.ireturn, 39, 0, 0, 0) := by decide +kernel
theorem cd_M_path_39 : code_ 192 39 = some (.iconst 0, 40, 0, 0, 0) := by decide +kernel
theorem cd_M_path_40 : code_ 192 40 = some (.istore 4, 42, 0, 0, 0) := by decide +kernel
theorem cd_M_path_42 : code_ 192 42 = some (.iload 4, 44, 0, 0, 0) := by decide +kernel
theorem cd_M_path_44 : code_ 192 44 = some (.bipush 40, 46, 0, 0, 0) := by decide +kernel
theorem cd_M_path_46 : code_ 192 46 = some (.if_icmp .ge 49, 49, 95, 0, 0) := by decide +kernel
theorem cd_M_path_49 : code_ 192 49 = some (.aload_n 0, 50, 0, 0, 0) := by decide +kernel
theorem cd_M_path_50 : code_ 192 50 = some (.getfield 22, 53, 8, 12, 2) := by decide +kernel
theorem cd_M_path_53 : code_ 192 53 = some (.iload 4, 55, 0, 0, 0) := by decide +kernel
theorem cd_M_path_55 : code_ 192 55 = some (.iload 4, 57, 0, 0, 0) := by decide +kernel
theorem cd_M_path_57 : code_ 192 57 = some (.iconst 5, 58, 0, 0, 0) := by decide +kernel
theorem cd_M_path_58 : code_ 192 58 = some (.iload_n 1, 59, 0, 0, 0) := by decide +kernel
theorem cd_M_path_59 : code_ 192 59 = some (.imul, 60, 0, 0, 0) := by decide +kernel
theorem cd_M_path_60 : code_ 192 60 = some (.iload_n 2, 61, 0, 0, 0) := by decide +kernel
theorem cd_M_path_61 : code_ 192 61 = some (.iadd, 62, 0, 0, 0) := by decide +kernel
theorem cd_M_path_62 : code_ 192 62 = some (.if_icmp .ne 24, 65, 86, 0, 0) := by decide +kernel
theorem cd_M_path_65 : code_ 192 65 = some (.iload_n 1, 66, 0, 0, 0) := by decide +kernel
theorem cd_M_path_66 : code_ 192 66 = some (.invokestatic 50, 69, 149, 0, 0) := by decide +kernel
theorem cd_M_path_69 : code_ 192 69 = some (.aload_n 0, 70, 0, 0, 0) := by decide +kernel
theorem cd_M_path_70 : code_ 192 70 = some (.getfield 13, 73, 8, 1, 2) := by decide +kernel
theorem cd_M_path_73 : code_ 192 73 = some (.bipush 16, 75, 0, 0, 0) := by decide +kernel
theorem cd_M_path_75 : code_ 192 75 = some (.iaload, 76, 0, 0, 0) := by decide +kernel
theorem cd_M_path_76 : code_ 192 76 = some (.invokestatic 50, 79, 149, 0, 0) := by decide +kernel
theorem cd_M_path_79 : code_ 192 79 = some (.if_icmp .ne 7, 82, 86, 0, 0) := by decide +kernel
theorem cd_M_path_82 : code_ 192 82 = some (.iconst 0, 83, 0, 0, 0) := by decide +kernel
theorem cd_M_path_83 : code_ 192 83 = some (.goto 5, 86, 88, 0, 0) := by decide +kernel
theorem cd_M_path_86 : code_ 192 86 = some (.ldc 165, 88, 0, 0, 1000000) := by decide +kernel
theorem cd_M_path_88 : code_ 192 88 = some (.iastore, 89, 0, 0, 0) := by decide +kernel
theorem cd_M_path_89 : code_ 192 89 = some (.iinc 4 1, 92, 0, 0, 0) := by decide +kernel
theorem cd_M_path_92 : code_ 192 92 = some (.goto (-50), 95, 42, 0, 0) := by decide +kernel
theorem cd_M_path_95 : code_ 192 95 = some (.iconst 1, 96, 0, 0, 0) := by decide +kernel
theorem cd_M_path_96 : code_ 192 96 = some (.istore 4, 98, 0, 0, 0) := by decide +kernel
theorem cd_M_path_98 : code_ 192 98 = some (.iload 4, 100, 0, 0, 0) := by decide +kernel
theorem cd_M_path_100 : code_ 192 100 = some (.ifCond .eq 130, 103, 230, 0, 0) := by decide +kernel
theorem cd_M_path_103 : code_ 192 103 = some (.iconst 0, 104, 0, 0, 0) := by decide +kernel
theorem cd_M_path_104 : code_ 192 104 = some (.istore 4, 106, 0, 0, 0) := by decide +kernel
theorem cd_M_path_106 : code_ 192 106 = some (.iconst 0, 107, 0, 0, 0) := by decide +kernel
theorem cd_M_path_107 : code_ 192 107 = some (.istore 5, 109, 0, 0, 0) := by decide +kernel
theorem cd_M_path_109 : code_ 192 109 = some (.iload 5, 111, 0, 0, 0) := by decide +kernel
theorem cd_M_path_111 : code_ 192 111 = some (.bipush 40, 113, 0, 0, 0) := by decide +kernel
theorem cd_M_path_113 : code_ 192 113 = some (.if_icmp .ge 114, 116, 227, 0, 0) := by decide +kernel
theorem cd_M_path_116 : code_ 192 116 = some (.iconst 0, 117, 0, 0, 0) := by decide +kernel
theorem cd_M_path_117 : code_ 192 117 = some (.istore 6, 119, 0, 0, 0) := by decide +kernel
theorem cd_M_path_119 : code_ 192 119 = some (.iload 6, 121, 0, 0, 0) := by decide +kernel
theorem cd_M_path_121 : code_ 192 121 = some (.bipush 40, 123, 0, 0, 0) := by decide +kernel
theorem cd_M_path_123 : code_ 192 123 = some (.if_icmp .ge 98, 126, 221, 0, 0) := by decide +kernel
theorem cd_M_path_126 : code_ 192 126 = some (.iload 5, 128, 0, 0, 0) := by decide +kernel
theorem cd_M_path_128 : code_ 192 128 = some (.iconst 5, 129, 0, 0, 0) := by decide +kernel
theorem cd_M_path_129 : code_ 192 129 = some (.idiv, 130, 0, 0, 0) := by decide +kernel
theorem cd_M_path_130 : code_ 192 130 = some (.iload 5, 132, 0, 0, 0) := by decide +kernel
theorem cd_M_path_132 : code_ 192 132 = some (.iconst 5, 133, 0, 0, 0) := by decide +kernel
theorem cd_M_path_133 : code_ 192 133 = some (.irem, 134, 0, 0, 0) := by decide +kernel
theorem cd_M_path_134 : code_ 192 134 = some (.invokestatic 73, 137, 154, 0, 0) := by decide +kernel
theorem cd_M_path_137 : code_ 192 137 = some (.ifCond .eq 78, 140, 215, 0, 0) := by decide +kernel
theorem cd_M_path_140 : code_ 192 140 = some (.iload 6, 142, 0, 0, 0) := by decide +kernel
theorem cd_M_path_142 : code_ 192 142 = some (.iconst 5, 143, 0, 0, 0) := by decide +kernel
theorem cd_M_path_143 : code_ 192 143 = some (.idiv, 144, 0, 0, 0) := by decide +kernel
theorem cd_M_path_144 : code_ 192 144 = some (.iload 6, 146, 0, 0, 0) := by decide +kernel
theorem cd_M_path_146 : code_ 192 146 = some (.iconst 5, 147, 0, 0, 0) := by decide +kernel
theorem cd_M_path_147 : code_ 192 147 = some (.irem, 148, 0, 0, 0) := by decide +kernel
theorem cd_M_path_148 : code_ 192 148 = some (.invokestatic 73, 151, 154, 0, 0) := by decide +kernel
theorem cd_M_path_151 : code_ 192 151 = some (.ifCond .eq 64, 154, 215, 0, 0) := by decide +kernel
theorem cd_M_path_154 : code_ 192 154 = some (.aload_n 0, 155, 0, 0, 0) := by decide +kernel
theorem cd_M_path_155 : code_ 192 155 = some (.getfield 22, 158, 8, 12, 2) := by decide +kernel
theorem cd_M_path_158 : code_ 192 158 = some (.iload 6, 160, 0, 0, 0) := by decide +kernel
theorem cd_M_path_160 : code_ 192 160 = some (.iaload, 161, 0, 0, 0) := by decide +kernel
theorem cd_M_path_161 : code_ 192 161 = some (.iconst 1, 162, 0, 0, 0) := by decide +kernel
theorem cd_M_path_162 : code_ 192 162 = some (.iadd, 163, 0, 0, 0) := by decide +kernel
theorem cd_M_path_163 : code_ 192 163 = some (.aload_n 0, 164, 0, 0, 0) := by decide +kernel
theorem cd_M_path_164 : code_ 192 164 = some (.getfield 22, 167, 8, 12, 2) := by decide +kernel
theorem cd_M_path_167 : code_ 192 167 = some (.iload 5, 169, 0, 0, 0) := by decide +kernel
theorem cd_M_path_169 : code_ 192 169 = some (.iaload, 170, 0, 0, 0) := by decide +kernel
theorem cd_M_path_170 : code_ 192 170 = some (.if_icmp .ge 45, 173, 215, 0, 0) := by decide +kernel
theorem cd_M_path_173 : code_ 192 173 = some (.aload_n 0, 174, 0, 0, 0) := by decide +kernel
theorem cd_M_path_174 : code_ 192 174 = some (.iload 5, 176, 0, 0, 0) := by decide +kernel
theorem cd_M_path_176 : code_ 192 176 = some (.iconst 5, 177, 0, 0, 0) := by decide +kernel
theorem cd_M_path_177 : code_ 192 177 = some (.idiv, 178, 0, 0, 0) := by decide +kernel
theorem cd_M_path_178 : code_ 192 178 = some (.iload 5, 180, 0, 0, 0) := by decide +kernel
theorem cd_M_path_180 : code_ 192 180 = some (.iconst 5, 181, 0, 0, 0) := by decide +kernel
theorem cd_M_path_181 : code_ 192 181 = some (.irem, 182, 0, 0, 0) := by decide +kernel
theorem cd_M_path_182 : code_ 192 182 = some (.iload 6, 184, 0, 0, 0) := by decide +kernel
theorem cd_M_path_184 : code_ 192 184 = some (.iconst 5, 185, 0, 0, 0) := by decide +kernel
theorem cd_M_path_185 : code_ 192 185 = some (.idiv, 186, 0, 0, 0) := by decide +kernel
theorem cd_M_path_186 : code_ 192 186 = some (.iload 6, 188, 0, 0, 0) := by decide +kernel
theorem cd_M_path_188 : code_ 192 188 = some (.iconst 5, 189, 0, 0, 0) := by decide +kernel
theorem cd_M_path_189 : code_ 192 189 = some (.irem, 190, 0, 0, 0) := by decide +kernel
theorem cd_M_path_190 : code_ 192 190 = some (.invokevirtual 166, 193, 191, 1, 0) := by decide +kernel
theorem cd_M_path_193 : code_ 192 193 = some (.ifCond .eq 22, 196, 215, 0, 0) := by decide +kernel
theorem cd_M_path_196 : code_ 192 196 = some (.aload_n 0, 197, 0, 0, 0) := by decide +kernel
theorem cd_M_path_197 : code_ 192 197 = some (.getfield 22, 200, 8, 12, 2) := by decide +kernel
theorem cd_M_path_200 : code_ 192 200 = some (.iload 5, 202, 0, 0, 0) := by decide +kernel
theorem cd_M_path_202 : code_ 192 202 = some (.aload_n 0, 203, 0, 0, 0) := by decide +kernel
theorem cd_M_path_203 : code_ 192 203 = some (.getfield 22, 206, 8, 12, 2) := by decide +kernel
theorem cd_M_path_206 : code_ 192 206 = some (.iload 6, 208, 0, 0, 0) := by decide +kernel
theorem cd_M_path_208 : code_ 192 208 = some (.iaload, 209, 0, 0, 0) := by decide +kernel
theorem cd_M_path_209 : code_ 192 209 = some (.iconst 1, 210, 0, 0, 0) := by decide +kernel
theorem cd_M_path_210 : code_ 192 210 = some (.iadd, 211, 0, 0, 0) := by decide +kernel
theorem cd_M_path_211 : code_ 192 211 = some (.iastore, 212, 0, 0, 0) := by decide +kernel
theorem cd_M_path_212 : code_ 192 212 = some (.iconst 1, 213, 0, 0, 0) := by decide +kernel
theorem cd_M_path_213 : code_ 192 213 = some (.istore 4, 215, 0, 0, 0) := by decide +kernel
theorem cd_M_path_215 : code_ 192 215 = some (.iinc 6 1, 218, 0, 0, 0) := by decide +kernel
theorem cd_M_path_218 : code_ 192 218 = some (.goto (-99), 221, 119, 0, 0) := by decide +kernel
theorem cd_M_path_221 : code_ 192 221 = some (.iinc 5 1, 224, 0, 0, 0) := by decide +kernel
theorem cd_M_path_224 : code_ 192 224 = some (.goto (-115), 227, 109, 0, 0) := by decide +kernel
theorem cd_M_path_227 : code_ 192 227 = some (.goto (-129), 230, 98, 0, 0) := by decide +kernel
theorem cd_M_path_230 : code_ 192 230 = some (.aload_n 0, 231, 0, 0, 0) := by decide +kernel
theorem cd_M_path_231 : code_ 192 231 = some (.getfield 22, 234, 8, 12, 2) := by decide +kernel
theorem cd_M_path_234 : code_ 192 234 = some (.iconst 5, 235, 0, 0, 0) := by decide +kernel
theorem cd_M_path_235 : code_ 192 235 = some (.aload_n 0, 236, 0, 0, 0) := by decide +kernel
theorem cd_M_path_236 : code_ 192 236 = some (.getfield 13, 239, 8, 1, 2) := by decide +kernel
theorem cd_M_path_239 : code_ 192 239 = some (.bipush 16, 241, 0, 0, 0) := by decide +kernel
theorem cd_M_path_241 : code_ 192 241 = some (.iaload, 242, 0, 0, 0) := by decide +kernel
theorem cd_M_path_242 : code_ 192 242 = some (.imul, 243, 0, 0, 0) := by decide +kernel
theorem cd_M_path_243 : code_ 192 243 = some (.aload_n 0, 244, 0, 0, 0) := by decide +kernel
theorem cd_M_path_244 : code_ 192 244 = some (.getfield 13, 247, 8, 1, 2) := by decide +kernel
theorem cd_M_path_247 : code_ 192 247 = some (.bipush 17, 249, 0, 0, 0) := by decide +kernel
theorem cd_M_path_249 : code_ 192 249 = some (.iaload, 250, 0, 0, 0) := by decide +kernel
theorem cd_M_path_250 : code_ 192 250 = some (.iadd, 251, 0, 0, 0) := by decide +kernel
theorem cd_M_path_251 : code_ 192 251 = some (.iaload, 252, 0, 0, 0) := by decide +kernel
theorem cd_M_path_252 : code_ 192 252 = some (.istore 5, 254, 0, 0, 0) := by decide +kernel
theorem cd_M_path_254 : code_ 192 254 = some (.iload 5, 256, 0, 0, 0) := by decide +kernel
theorem cd_M_path_256 : code_ 192 256 = some (.ldc 165, 258, 0, 0, 1000000) := by decide +kernel
theorem cd_M_path_258 : code_ 192 258 = some (.if_icmp .ge 7, 261, 265, 0, 0) := by decide +kernel
theorem cd_M_path_261 : code_ 192 261 = some (.iload_n 3, 262, 0, 0, 0) := by decide +kernel
theorem cd_M_path_262 : code_ 192 262 = some (.ifCond .ne 18, 265, 280, 0, 0) := by decide +kernel
theorem cd_M_path_265 : code_ 192 265 = some (.iload 5, 267, 0, 0, 0) := by decide +kernel
theorem cd_M_path_267 : code_ 192 267 = some (.ldc 165, 269, 0, 0, 1000000) := by decide +kernel
theorem cd_M_path_269 : code_ 192 269 = some (.if_icmp .lt 8, 272, 277, 0, 0) := by decide +kernel
theorem cd_M_path_272 : code_ 192 272 = some (.bipush (-6), 274, 0, 0, 0) := by decide +kernel
theorem cd_M_path_274 : code_ 192 274 = some (.goto 5, 277, 279, 0, 0) := by decide +kernel
theorem cd_M_path_277 : code_ 192 277 = some (.iload 5, 279, 0, 0, 0) := by decide +kernel
theorem cd_M_path_279 : code_ 192 279 = some (.ireturn, 280, 0, 0, 0) := by decide +kernel
theorem cd_M_path_280 : code_ 192 280 = some (.iconst 0, 281, 0, 0, 0) := by decide +kernel
theorem cd_M_path_281 : code_ 192 281 = some (.istore 6, 283, 0, 0, 0) := by decide +kernel
theorem cd_M_path_283 : code_ 192 283 = some (.iload 6, 285, 0, 0, 0) := by decide +kernel
theorem cd_M_path_285 : code_ 192 285 = some (.bipush 40, 287, 0, 0, 0) := by decide +kernel
theorem cd_M_path_287 : code_ 192 287 = some (.if_icmp .ge 84, 290, 371, 0, 0) := by decide +kernel
theorem cd_M_path_290 : code_ 192 290 = some (.iload 5, 292, 0, 0, 0) := by decide +kernel
theorem cd_M_path_292 : code_ 192 292 = some (.ifCond .le 73, 295, 365, 0, 0) := by decide +kernel
theorem cd_M_path_295 : code_ 192 295 = some (.iload 6, 297, 0, 0, 0) := by decide +kernel
theorem cd_M_path_297 : code_ 192 297 = some (.iconst 5, 298, 0, 0, 0) := by decide +kernel
theorem cd_M_path_298 : code_ 192 298 = some (.idiv, 299, 0, 0, 0) := by decide +kernel
theorem cd_M_path_299 : code_ 192 299 = some (.iload 6, 301, 0, 0, 0) := by decide +kernel
theorem cd_M_path_301 : code_ 192 301 = some (.iconst 5, 302, 0, 0, 0) := by decide +kernel
theorem cd_M_path_302 : code_ 192 302 = some (.irem, 303, 0, 0, 0) := by decide +kernel
theorem cd_M_path_303 : code_ 192 303 = some (.invokestatic 73, 306, 154, 0, 0) := by decide +kernel
theorem cd_M_path_306 : code_ 192 306 = some (.ifCond .eq 59, 309, 365, 0, 0) := by decide +kernel
theorem cd_M_path_309 : code_ 192 309 = some (.aload_n 0, 310, 0, 0, 0) := by decide +kernel
theorem cd_M_path_310 : code_ 192 310 = some (.getfield 22, 313, 8, 12, 2) := by decide +kernel
theorem cd_M_path_313 : code_ 192 313 = some (.iload 6, 315, 0, 0, 0) := by decide +kernel
theorem cd_M_path_315 : code_ 192 315 = some (.iaload, 316, 0, 0, 0) := by decide +kernel
theorem cd_M_path_316 : code_ 192 316 = some (.iconst 1, 317, 0, 0, 0) := by decide +kernel
theorem cd_M_path_317 : code_ 192 317 = some (.iadd, 318, 0, 0, 0) := by decide +kernel
theorem cd_M_path_318 : code_ 192 318 = some (.iload 5, 320, 0, 0, 0) := by decide +kernel
theorem cd_M_path_320 : code_ 192 320 = some (.if_icmp .ne 45, 323, 365, 0, 0) := by decide +kernel
theorem cd_M_path_323 : code_ 192 323 = some (.aload_n 0, 324, 0, 0, 0) := by decide +kernel
theorem cd_M_path_324 : code_ 192 324 = some (.aload_n 0, 325, 0, 0, 0) := by decide +kernel
theorem cd_M_path_325 : code_ 192 325 = some (.getfield 13, 328, 8, 1, 2) := by decide +kernel
theorem cd_M_path_328 : code_ 192 328 = some (.bipush 16, 330, 0, 0, 0) := by decide +kernel
theorem cd_M_path_330 : code_ 192 330 = some (.iaload, 331, 0, 0, 0) := by decide +kernel
theorem cd_M_path_331 : code_ 192 331 = some (.aload_n 0, 332, 0, 0, 0) := by decide +kernel
theorem cd_M_path_332 : code_ 192 332 = some (.getfield 13, 335, 8, 1, 2) := by decide +kernel
theorem cd_M_path_335 : code_ 192 335 = some (.bipush 17, 337, 0, 0, 0) := by decide +kernel
theorem cd_M_path_337 : code_ 192 337 = some (.iaload, 338, 0, 0, 0) := by decide +kernel
theorem cd_M_path_338 : code_ 192 338 = some (.iload 6, 340, 0, 0, 0) := by decide +kernel
theorem cd_M_path_340 : code_ 192 340 = some (.iconst 5, 341, 0, 0, 0) := by decide +kernel
theorem cd_M_path_341 : code_ 192 341 = some (.idiv, 342, 0, 0, 0) := by decide +kernel
theorem cd_M_path_342 : code_ 192 342 = some (.iload 6, 344, 0, 0, 0) := by decide +kernel
theorem cd_M_path_344 : code_ 192 344 = some (.iconst 5, 345, 0, 0, 0) := by decide +kernel
theorem cd_M_path_345 : code_ 192 345 = some (.irem, 346, 0, 0, 0) := by decide +kernel
theorem cd_M_path_346 : code_ 192 346 = some (.invokevirtual 166, 349, 191, 1, 0) := by decide +kernel
theorem cd_M_path_349 : code_ 192 349 = some (.ifCond .eq 16, 352, 365, 0, 0) := by decide +kernel
theorem cd_M_path_352 : code_ 192 352 = some (.bipush 10, 354, 0, 0, 0) := by decide +kernel
theorem cd_M_path_354 : code_ 192 354 = some (.iload 6, 356, 0, 0, 0) := by decide +kernel
theorem cd_M_path_356 : code_ 192 356 = some (.iconst 5, 357, 0, 0, 0) := by decide +kernel
theorem cd_M_path_357 : code_ 192 357 = some (.idiv, 358, 0, 0, 0) := by decide +kernel
theorem cd_M_path_358 : code_ 192 358 = some (.imul, 359, 0, 0, 0) := by decide +kernel
theorem cd_M_path_359 : code_ 192 359 = some (.iload 6, 361, 0, 0, 0) := by decide +kernel
theorem cd_M_path_361 : code_ 192 361 = some (.iconst 5, 362, 0, 0, 0) := by decide +kernel
theorem cd_M_path_362 : code_ 192 362 = some (.irem, 363, 0, 0, 0) := by decide +kernel
theorem cd_M_path_363 : code_ 192 363 = some (.iadd, 364, 0, 0, 0) := by decide +kernel
theorem cd_M_path_364 : code_ 192 364 = some (.ireturn, 365, 0, 0, 0) := by decide +kernel
theorem cd_M_path_365 : code_ 192 365 = some (.iinc 6 1, 368, 0, 0, 0) := by decide +kernel
theorem cd_M_path_368 : code_ 192 368 = some (.goto (-85), 371, 283, 0, 0) := by decide +kernel
theorem cd_M_path_371 : code_ 192 371 = some (.bipush (-6), 373, 0, 0, 0) := by decide +kernel
theorem cd_M_path_373 : code_ 192 373 = some (.ireturn, 374, 0, 0, 0) := by decide +kernel
theorem cd_M_stand_0 : code_ 193 0 = some (.iload_n 1, 1, 0, 0, 0) := by decide +kernel
theorem cd_M_stand_1 : code_ 193 1 = some (.iconst 0, 2, 0, 0, 0) := by decide +kernel
theorem cd_M_stand_2 : code_ 193 2 = some (.iconst 1, 3, 0, 0, 0) := by decide +kernel
theorem cd_M_stand_3 : code_ 193 3 = some (.invokestatic 46, 6, 146, 0, 0) := by decide +kernel
theorem cd_M_stand_6 : code_ 193 6 = some (.ifCond .ne 6, 9, 12, 0, 0) := by decide +kernel
theorem cd_M_stand_9 : code_ 193 9 = some (.bipush (-2), 11, 0, 0, 0) := by decide +kernel
theorem cd_M_stand_11 : code_ 193 11 = some (.ireturn, 12, 0, 0, 0) := by decide +kernel
theorem cd_M_stand_12 : code_ 193 12 = some (.aload_n 0, 13, 0, 0, 0) := by decide +kernel
theorem cd_M_stand_13 : code_ 193 13 = some (.invokevirtual 66, 16, 169, 1, 0) := by decide +kernel
theorem cd_M_stand_16 : code_ 193 16 = some (.aload_n 0, 17, 0, 0, 0) := by decide +kernel
theorem cd_M_stand_17 : code_ 193 17 = some (.getfield 13, 20, 8, 1, 2) := by decide +kernel
theorem cd_M_stand_20 : code_ 193 20 = some (.bipush 16, 22, 0, 0, 0) := by decide +kernel
theorem cd_M_stand_22 : code_ 193 22 = some (.iaload, 23, 0, 0, 0) := by decide +kernel
theorem cd_M_stand_23 : code_ 193 23 = some (.ifCond .ge 6, 26, 29, 0, 0) := by decide +kernel
theorem cd_M_stand_26 : code_ 193 26 = some (.bipush (-3), 28, 0, 0, 0) := by decide +kernel
theorem cd_M_stand_28 : code_ 193 28 = some (.ireturn, 29, 0, 0, 0) := by decide +kernel
theorem cd_M_stand_29 : code_ 193 29 = some (.aload_n 0, 30, 0, 0, 0) := by decide +kernel
theorem cd_M_stand_30 : code_ 193 30 = some (.getfield 13, 33, 8, 1, 2) := by decide +kernel
theorem cd_M_stand_33 : code_ 193 33 = some (.bipush 16, 35, 0, 0, 0) := by decide +kernel
theorem cd_M_stand_35 : code_ 193 35 = some (.iaload, 36, 0, 0, 0) := by decide +kernel
theorem cd_M_stand_36 : code_ 193 36 = some (.invokestatic 50, 39, 149, 0, 0) := by decide +kernel
theorem cd_M_stand_39 : code_ 193 39 = some (.ifCond .ne 8, 42, 47, 0, 0) := by decide +kernel
theorem cd_M_stand_42 : code_ 193 42 = some (.bipush 7, 44, 0, 0, 0) := by decide +kernel
theorem cd_M_stand_44 : code_ 193 44 = some (.goto 4, 47, 48, 0, 0) := by decide +kernel
theorem cd_M_stand_47 : code_ 193 47 = some (.iconst 0, 48, 0, 0, 0) := by decide +kernel
theorem cd_M_stand_48 : code_ 193 48 = some (.istore_n 2, 49, 0, 0, 0) := by decide +kernel
theorem cd_M_stand_49 : code_ 193 49 = some (.aload_n 0, 50, 0, 0, 0) := by decide +kernel
theorem cd_M_stand_50 : code_ 193 50 = some (.getfield 13, 53, 8, 1, 2) := by decide +kernel
theorem cd_M_stand_53 : code_ 193 53 = some (.bipush 16, 55, 0, 0, 0) := by decide +kernel
theorem cd_M_stand_55 : code_ 193 55 = some (.iaload, 56, 0, 0, 0) := by decide +kernel
theorem cd_M_stand_56 : code_ 193 56 = some (.invokestatic 50, 59, 149, 0, 0) := by decide +kernel
theorem cd_M_stand_59 : code_ 193 59 = some (.ifCond .ne 8, 62, 67, 0, 0) := by decide +kernel
theorem cd_M_stand_62 : code_ 193 62 = some (.bipush 6, 64, 0, 0, 0) := by decide +kernel
theorem cd_M_stand_64 : code_ 193 64 = some (.goto 4, 67, 68, 0, 0) := by decide +kernel
theorem cd_M_stand_67 : code_ 193 67 = some (.iconst 1, 68, 0, 0, 0) := by decide +kernel
theorem cd_M_stand_68 : code_ 193 68 = some (.istore_n 3, 69, 0, 0, 0) := by decide +kernel
theorem cd_M_stand_69 : code_ 193 69 = some (.ldc 165, 71, 0, 0, 1000000) := by decide +kernel
theorem cd_M_stand_71 : code_ 193 71 = some (.istore 4, 73, 0, 0, 0) := by decide +kernel
theorem cd_M_stand_73 : code_ 193 73 = some (.iconst 0, 74, 0, 0, 0) := by decide +kernel
theorem cd_M_stand_74 : code_ 193 74 = some (.istore 5, 76, 0, 0, 0) := by decide +kernel
theorem cd_M_stand_76 : code_ 193 76 = some (.iconst 0, 77, 0, 0, 0) := by decide +kernel
theorem cd_M_stand_77 : code_ 193 77 = some (.istore 6, 79, 0, 0, 0) := by decide +kernel
theorem cd_M_stand_79 : code_ 193 79 = some (.iload 6, 81, 0, 0, 0) := by decide +kernel
theorem cd_M_stand_81 : code_ 193 81 = some (.bipush 41, 83, 0, 0, 0) := by decide +kernel
theorem cd_M_stand_83 : code_ 193 83 = some (.if_icmp .ge 88, 86, 171, 0, 0) := by decide +kernel
theorem cd_M_stand_86 : code_ 193 86 = some (.iconst 0, 87, 0, 0, 0) := by decide +kernel
theorem cd_M_stand_87 : code_ 193 87 = some (.istore 7, 89, 0, 0, 0) := by decide +kernel
theorem cd_M_stand_89 : code_ 193 89 = some (.iload 7, 91, 0, 0, 0) := by decide +kernel
theorem cd_M_stand_91 : code_ 193 91 = some (.bipush 25, 93, 0, 0, 0) := by decide +kernel
theorem cd_M_stand_93 : code_ 193 93 = some (.if_icmp .ge 72, 96, 165, 0, 0) := by decide +kernel
theorem cd_M_stand_96 : code_ 193 96 = some (.aload_n 0, 97, 0, 0, 0) := by decide +kernel
theorem cd_M_stand_97 : code_ 193 97 = some (.getfield 13, 100, 8, 1, 2) := by decide +kernel
theorem cd_M_stand_100 : code_ 193 100 = some (.iload_n 2, 101, 0, 0, 0) := by decide +kernel
theorem cd_M_stand_101 : code_ 193 101 = some (.iload 6, 103, 0, 0, 0) := by decide +kernel
theorem cd_M_stand_103 : code_ 193 103 = some (.iastore, 104, 0, 0, 0) := by decide +kernel
theorem cd_M_stand_104 : code_ 193 104 = some (.aload_n 0, 105, 0, 0, 0) := by decide +kernel
theorem cd_M_stand_105 : code_ 193 105 = some (.getfield 13, 108, 8, 1, 2) := by decide +kernel
theorem cd_M_stand_108 : code_ 193 108 = some (.iload_n 3, 109, 0, 0, 0) := by decide +kernel
theorem cd_M_stand_109 : code_ 193 109 = some (.iload 7, 111, 0, 0, 0) := by decide +kernel
theorem cd_M_stand_111 : code_ 193 111 = some (.iastore, 112, 0, 0, 0) := by decide +kernel
theorem cd_M_stand_112 : code_ 193 112 = some (.aload_n 0, 113, 0, 0, 0) := by decide +kernel
theorem cd_M_stand_113 : code_ 193 113 = some (.invokevirtual 162, 116, 189, 1, 0) := by decide +kernel
theorem cd_M_stand_116 : code_ 193 116 = some (.invokestatic 170, 119, 147, 0, 0) := by decide +kernel
theorem cd_M_stand_119 : code_ 193 119 = some (.istore 8, 121, 0, 0, 0) := by decide +kernel
theorem cd_M_stand_121 : code_ 193 121 = some (.iload 8, 123, 0, 0, 0) := by decide +kernel
theorem cd_M_stand_123 : code_ 193 123 = some (.iload 4, 125, 0, 0, 0) := by decide +kernel
theorem cd_M_stand_125 : code_ 193 125 = some (.if_icmp .ge 14, 128, 139, 0, 0) := by decide +kernel
theorem cd_M_stand_128 : code_ 193 128 = some (.bipush 100, 130, 0, 0, 0) := by decide +kernel
theorem cd_M_stand_130 : code_ 193 130 = some (.iload 6, 132, 0, 0, 0) := by decide +kernel
theorem cd_M_stand_132 : code_ 193 132 = some (.imul, 133, 0, 0, 0) := by decide +kernel
theorem cd_M_stand_133 : code_ 193 133 = some (.iload 7, 135, 0, 0, 0) := by decide +kernel
theorem cd_M_stand_135 : code_ 193 135 = some (.iadd, 136, 0, 0, 0) := by decide +kernel
theorem cd_M_stand_136 : code_ 193 136 = some (.goto 5, 139, 141, 0, 0) := by decide +kernel
theorem cd_M_stand_139 : code_ 193 139 = some (.iload 5, 141, 0, 0, 0) := by decide +kernel
theorem cd_M_stand_141 : code_ 193 141 = some (.istore 5, 143, 0, 0, 0) := by decide +kernel
theorem cd_M_stand_143 : code_ 193 143 = some (.iload 8, 145, 0, 0, 0) := by decide +kernel
theorem cd_M_stand_145 : code_ 193 145 = some (.iload 4, 147, 0, 0, 0) := by decide +kernel
theorem cd_M_stand_147 : code_ 193 147 = some (.if_icmp .ge 8, 150, 155, 0, 0) := by decide +kernel
theorem cd_M_stand_150 : code_ 193 150 = some (.iload 8, 152, 0, 0, 0) := by decide +kernel
theorem cd_M_stand_152 : code_ 193 152 = some (.goto 5, 155, 157, 0, 0) := by decide +kernel
theorem cd_M_stand_155 : code_ 193 155 = some (.iload 4, 157, 0, 0, 0) := by decide +kernel
theorem cd_M_stand_157 : code_ 193 157 = some (.istore 4, 159, 0, 0, 0) := by decide +kernel
theorem cd_M_stand_159 : code_ 193 159 = some (.iinc 7 1, 162, 0, 0, 0) := by decide +kernel
theorem cd_M_stand_162 : code_ 193 162 = some (.goto (-73), 165, 89, 0, 0) := by decide +kernel
theorem cd_M_stand_165 : code_ 193 165 = some (.iinc 6 1, 168, 0, 0, 0) := by decide +kernel
theorem cd_M_stand_168 : code_ 193 168 = some (.goto (-89), 171, 79, 0, 0) := by decide +kernel
theorem cd_M_stand_171 : code_ 193 171 = some (.iload_n 1, 172, 0, 0, 0) := by decide +kernel
theorem cd_M_stand_172 : code_ 193 172 = some (.ifCond .ne 8, 175, 180, 0, 0) := by decide +kernel
theorem cd_M_stand_175 : code_ 193 175 = some (.iload 4, 177, 0, 0, 0) := by decide +kernel
theorem cd_M_stand_177 : code_ 193 177 = some (.goto 5, 180, 182, 0, 0) := by decide +kernel
theorem cd_M_stand_180 : code_ 193 180 = some (.iload 5, 182, 0, 0, 0) := by decide +kernel
theorem cd_M_stand_182 : code_ 193 182 = some (.ireturn, 183, 0, 0, 0) := by decide +kernel
theorem cd_M_lowest_0 : code_ 194 0 = some (.lload_n 0, 1, 0, 0, 0) := by decide +kernel
theorem cd_M_lowest_1 : code_ 194 1 = some (.lconst 0, 2, 0, 0, 0) := by decide +kernel
theorem cd_M_lowest_2 : code_ 194 2 = some (.lcmp, 3, 0, 0, 0) := by decide +kernel
theorem cd_M_lowest_3 : code_ 194 3 = some (.ifCond .ge 8, 6, 11, 0, 0) := by decide +kernel
theorem cd_M_lowest_6 : code_ 194 6 = some (.lload_n 0, 7, 0, 0, 0) := by decide +kernel
theorem cd_M_lowest_7 : code_ 194 7 = some (.lneg, 8, 0, 0, 0) := by decide +kernel
theorem cd_M_lowest_8 : code_ 194 8 = some (.goto 4, 11, 12, 0, 0) := by decide +kernel
theorem cd_M_lowest_11 : code_ 194 11 = some (.lload_n 0, 12, 0, 0, 0) := by decide +kernel
theorem cd_M_lowest_12 : code_ 194 12 = some (.lstore 5, 14, 0, 0, 0) := by decide +kernel
theorem cd_M_lowest_14 : code_ 194 14 = some (.lload_n 2, 15, 0, 0, 0) := by decide +kernel
theorem cd_M_lowest_15 : code_ 194 15 = some (.lconst 0, 16, 0, 0, 0) := by decide +kernel
theorem cd_M_lowest_16 : code_ 194 16 = some (.lcmp, 17, 0, 0, 0) := by decide +kernel
theorem cd_M_lowest_17 : code_ 194 17 = some (.ifCond .ge 8, 20, 25, 0, 0) := by decide +kernel
theorem cd_M_lowest_20 : code_ 194 20 = some (.lload_n 2, 21, 0, 0, 0) := by decide +kernel
theorem cd_M_lowest_21 : code_ 194 21 = some (.lneg, 22, 0, 0, 0) := by decide +kernel
theorem cd_M_lowest_22 : code_ 194 22 = some (.goto 4, 25, 26, 0, 0) := by decide +kernel
theorem cd_M_lowest_25 : code_ 194 25 = some (.lload_n 2, 26, 0, 0, 0) := by decide +kernel
theorem cd_M_lowest_26 : code_ 194 26 = some (.lstore 7, 28, 0, 0, 0) := by decide +kernel
theorem cd_M_lowest_28 : code_ 194 28 = some (.lload 5, 30, 0, 0, 0) := by decide +kernel
theorem cd_M_lowest_30 : code_ 194 30 = some (.lstore 9, 32, 0, 0, 0) := by decide +kernel
theorem cd_M_lowest_32 : code_ 194 32 = some (.lload 7, 34, 0, 0, 0) := by decide +kernel
theorem cd_M_lowest_34 : code_ 194 34 = some (.lstore 11, 36, 0, 0, 0) := by decide +kernel
theorem cd_M_lowest_36 : code_ 194 36 = some (.lload 11, 38, 0, 0, 0) := by decide +kernel
theorem cd_M_lowest_38 : code_ 194 38 = some (.lconst 0, 39, 0, 0, 0) := by decide +kernel
theorem cd_M_lowest_39 : code_ 194 39 = some (.lcmp, 40, 0, 0, 0) := by decide +kernel
theorem cd_M_lowest_40 : code_ 194 40 = some (.ifCond .eq 21, 43, 61, 0, 0) := by decide +kernel
theorem cd_M_lowest_43 : code_ 194 43 = some (.lload 9, 45, 0, 0, 0) := by decide +kernel
theorem cd_M_lowest_45 : code_ 194 45 = some (.lload 11, 47, 0, 0, 0) := by decide +kernel
theorem cd_M_lowest_47 : code_ 194 47 = some (.lrem, 48, 0, 0, 0) := by decide +kernel
theorem cd_M_lowest_48 : code_ 194 48 = some (.lstore 13, 50, 0, 0, 0) := by decide +kernel
theorem cd_M_lowest_50 : code_ 194 50 = some (.lload 11, 52, 0, 0, 0) := by decide +kernel
theorem cd_M_lowest_52 : code_ 194 52 = some (.lstore 9, 54, 0, 0, 0) := by decide +kernel
theorem cd_M_lowest_54 : code_ 194 54 = some (.lload 13, 56, 0, 0, 0) := by decide +kernel
theorem cd_M_lowest_56 : code_ 194 56 = some (.lstore 11, 58, 0, 0, 0) := by decide +kernel
theorem cd_M_lowest_58 : code_ 194 58 = some (.goto (-22), 61, 36, 0, 0) := by decide +kernel
theorem cd_M_lowest_61 : code_ 194 61 = some (.iload 4, 63, 0, 0, 0) := by decide +kernel
theorem cd_M_lowest_63 : code_ 194 63 = some (.ifCond .ne 11, 66, 74, 0, 0) := by decide +kernel
theorem cd_M_lowest_66 : code_ 194 66 = some (.lload 5, 68, 0, 0, 0) := by decide +kernel
theorem cd_M_lowest_68 : code_ 194 68 = some (.lload 9, 70, 0, 0, 0) := by decide +kernel
theorem cd_M_lowest_70 : code_ 194 70 = some (.ldiv, 71, 0, 0, 0) := by decide +kernel
theorem cd_M_lowest_71 : code_ 194 71 = some (.goto 8, 74, 79, 0, 0) := by decide +kernel
theorem cd_M_lowest_74 : code_ 194 74 = some (.lload 7, 76, 0, 0, 0) := by decide +kernel
theorem cd_M_lowest_76 : code_ 194 76 = some (.lload 9, 78, 0, 0, 0) := by decide +kernel
theorem cd_M_lowest_78 : code_ 194 78 = some (.ldiv, 79, 0, 0, 0) := by decide +kernel
theorem cd_M_lowest_79 : code_ 194 79 = some (.lreturn, 80, 0, 0, 0) := by decide +kernel
theorem cd_M_mix_0 : code_ 195 0 = some (.iload_n 1, 1, 0, 0, 0) := by decide +kernel
theorem cd_M_mix_1 : code_ 195 1 = some (.iconst 0, 2, 0, 0, 0) := by decide +kernel
theorem cd_M_mix_2 : code_ 195 2 = some (.bipush 10, 4, 0, 0, 0) := by decide +kernel
theorem cd_M_mix_4 : code_ 195 4 = some (.invokestatic 46, 7, 146, 0, 0) := by decide +kernel
theorem cd_M_mix_7 : code_ 195 7 = some (.ifCond .eq 54, 10, 61, 0, 0) := by decide +kernel
theorem cd_M_mix_10 : code_ 195 10 = some (.iload_n 2, 11, 0, 0, 0) := by decide +kernel
theorem cd_M_mix_11 : code_ 195 11 = some (.iconst 0, 12, 0, 0, 0) := by decide +kernel
theorem cd_M_mix_12 : code_ 195 12 = some (.bipush 10, 14, 0, 0, 0) := by decide +kernel
theorem cd_M_mix_14 : code_ 195 14 = some (.invokestatic 46, 17, 146, 0, 0) := by decide +kernel
theorem cd_M_mix_17 : code_ 195 17 = some (.ifCond .eq 44, 20, 61, 0, 0) := by decide +kernel
theorem cd_M_mix_20 : code_ 195 20 = some (.iload_n 3, 21, 0, 0, 0) := by decide +kernel
theorem cd_M_mix_21 : code_ 195 21 = some (.iconst 0, 22, 0, 0, 0) := by decide +kernel
theorem cd_M_mix_22 : code_ 195 22 = some (.bipush 10, 24, 0, 0, 0) := by decide +kernel
theorem cd_M_mix_24 : code_ 195 24 = some (.invokestatic 46, 27, 146, 0, 0) := by decide +kernel
theorem cd_M_mix_27 : code_ 195 27 = some (.ifCond .eq 34, 30, 61, 0, 0) := by decide +kernel
theorem cd_M_mix_30 : code_ 195 30 = some (.iload 4, 32, 0, 0, 0) := by decide +kernel
theorem cd_M_mix_32 : code_ 195 32 = some (.iconst 0, 33, 0, 0, 0) := by decide +kernel
theorem cd_M_mix_33 : code_ 195 33 = some (.bipush 10, 35, 0, 0, 0) := by decide +kernel
theorem cd_M_mix_35 : code_ 195 35 = some (.invokestatic 46, 38, 146, 0, 0) := by decide +kernel
theorem cd_M_mix_38 : code_ 195 38 = some (.ifCond .eq 23, 41, 61, 0, 0) := by decide +kernel
theorem cd_M_mix_41 : code_ 195 41 = some (.iload 5, 43, 0, 0, 0) := by decide +kernel
theorem cd_M_mix_43 : code_ 195 43 = some (.iconst 0, 44, 0, 0, 0) := by decide +kernel
theorem cd_M_mix_44 : code_ 195 44 = some (.iconst 1, 45, 0, 0, 0) := by decide +kernel
theorem cd_M_mix_45 : code_ 195 45 = some (.invokestatic 46, 48, 146, 0, 0) := by decide +kernel
theorem cd_M_mix_48 : code_ 195 48 = some (.ifCond .eq 13, 51, 61, 0, 0) := by decide +kernel
theorem cd_M_mix_51 : code_ 195 51 = some (.iload 6, 53, 0, 0, 0) := by decide +kernel
theorem cd_M_mix_53 : code_ 195 53 = some (.iconst 0, 54, 0, 0, 0) := by decide +kernel
theorem cd_M_mix_54 : code_ 195 54 = some (.iconst 1, 55, 0, 0, 0) := by decide +kernel
theorem cd_M_mix_55 : code_ 195 55 = some (.invokestatic 46, 58, 146, 0, 0) := by decide +kernel
theorem cd_M_mix_58 : code_ 195 58 = some (.ifCond .ne 7, 61, 65, 0, 0) := by decide +kernel
theorem cd_M_mix_61 : code_ 195 61 = some (.ldc2_w 173, 64, 0, 0, -1000000000000000002) := by decide +kernel
theorem cd_M_mix_64 : code_ 195 64 = some (.lreturn, 65, 0, 0, 0) := by decide +kernel
theorem cd_M_mix_65 : code_ 195 65 = some (.iload_n 1, 66, 0, 0, 0) := by decide +kernel
theorem cd_M_mix_66 : code_ 195 66 = some (.iload_n 2, 67, 0, 0, 0) := by decide +kernel
theorem cd_M_mix_67 : code_ 195 67 = some (.if_icmp .ge 7, 70, 74, 0, 0) := by decide +kernel
theorem cd_M_mix_70 : code_ 195 70 = some (.iload_n 1, 71, 0, 0, 0) := by decide +kernel
theorem cd_M_mix_71 : code_ 195 71 = some (.goto 4, 74, 75, 0, 0) := by decide +kernel
theorem cd_M_mix_74 : code_ 195 74 = some (.iload_n 2, 75, 0, 0, 0) := by decide +kernel
theorem cd_M_mix_75 : code_ 195 75 = some (.istore 7, 77, 0, 0, 0) := by decide +kernel
theorem cd_M_mix_77 : code_ 195 77 = some (.iload_n 3, 78, 0, 0, 0) := by decide +kernel
theorem cd_M_mix_78 : code_ 195 78 = some (.iload 4, 80, 0, 0, 0) := by decide +kernel
theorem cd_M_mix_80 : code_ 195 80 = some (.if_icmp .ge 7, 83, 87, 0, 0) := by decide +kernel
theorem cd_M_mix_83 : code_ 195 83 = some (.iload_n 3, 84, 0, 0, 0) := by decide +kernel
theorem cd_M_mix_84 : code_ 195 84 = some (.goto 5, 87, 89, 0, 0) := by decide +kernel
theorem cd_M_mix_87 : code_ 195 87 = some (.iload 4, 89, 0, 0, 0) := by decide +kernel
theorem cd_M_mix_89 : code_ 195 89 = some (.istore 8, 91, 0, 0, 0) := by decide +kernel
theorem cd_M_mix_91 : code_ 195 91 = some (.iload_n 1, 92, 0, 0, 0) := by decide +kernel
theorem cd_M_mix_92 : code_ 195 92 = some (.iload_n 3, 93, 0, 0, 0) := by decide +kernel
theorem cd_M_mix_93 : code_ 195 93 = some (.if_icmp .le 7, 96, 100, 0, 0) := by decide +kernel
theorem cd_M_mix_96 : code_ 195 96 = some (.iload_n 1, 97, 0, 0, 0) := by decide +kernel
theorem cd_M_mix_97 : code_ 195 97 = some (.goto 4, 100, 101, 0, 0) := by decide +kernel
theorem cd_M_mix_100 : code_ 195 100 = some (.iload_n 3, 101, 0, 0, 0) := by decide +kernel
theorem cd_M_mix_101 : code_ 195 101 = some (.istore 9, 103, 0, 0, 0) := by decide +kernel
theorem cd_M_mix_103 : code_ 195 103 = some (.iload_n 2, 104, 0, 0, 0) := by decide +kernel
theorem cd_M_mix_104 : code_ 195 104 = some (.iload 4, 106, 0, 0, 0) := by decide +kernel
theorem cd_M_mix_106 : code_ 195 106 = some (.if_icmp .le 7, 109, 113, 0, 0) := by decide +kernel
theorem cd_M_mix_109 : code_ 195 109 = some (.iload_n 2, 110, 0, 0, 0) := by decide +kernel
theorem cd_M_mix_110 : code_ 195 110 = some (.goto 5, 113, 115, 0, 0) := by decide +kernel
theorem cd_M_mix_113 : code_ 195 113 = some (.iload 4, 115, 0, 0, 0) := by decide +kernel
theorem cd_M_mix_115 : code_ 195 115 = some (.istore 10, 117, 0, 0, 0) := by decide +kernel
theorem cd_M_mix_117 : code_ 195 117 = some (.iload 7, 119, 0, 0, 0) := by decide +kernel
theorem cd_M_mix_119 : code_ 195 119 = some (.iload 8, 121, 0, 0, 0) := by decide +kernel
theorem cd_M_mix_121 : code_ 195 121 = some (.if_icmp .le 8, 124, 129, 0, 0) := by decide +kernel
theorem cd_M_mix_124 : code_ 195 124 = some (.iload 7, 126, 0, 0, 0) := by decide +kernel
theorem cd_M_mix_126 : code_ 195 126 = some (.goto 5, 129, 131, 0, 0) := by decide +kernel
theorem cd_M_mix_129 : code_ 195 129 = some (.iload 8, 131, 0, 0, 0) := by decide +kernel
theorem cd_M_mix_131 : code_ 195 131 = some (.istore 11, 133, 0, 0, 0) := by decide +kernel
theorem cd_M_mix_133 : code_ 195 133 = some (.iload 11, 135, 0, 0, 0) := by decide +kernel
theorem cd_M_mix_135 : code_ 195 135 = some (.iload 9, 137, 0, 0, 0) := by decide +kernel
theorem cd_M_mix_137 : code_ 195 137 = some (.iload 10, 139, 0, 0, 0) := by decide +kernel
theorem cd_M_mix_139 : code_ 195 139 = some (.if_icmp .ge 8, 142, 147, 0, 0) := by decide +kernel
theorem cd_M_mix_142 : code_ 195 142 = some (.iload 9, 144, 0, 0, 0) := by decide +kernel
theorem cd_M_mix_144 : code_ 195 144 = some (.goto 5, 147, 149, 0, 0) := by decide +kernel
theorem cd_M_mix_147 : code_ 195 147 = some (.iload 10, 149, 0, 0, 0) := by decide +kernel
theorem cd_M_mix_149 : code_ 195 149 = some (.if_icmp .ne 45, 152, 194, 0, 0) := by decide +kernel
theorem cd_M_mix_152 : code_ 195 152 = some (.iload 5, 154, 0, 0, 0) := by decide +kernel
theorem cd_M_mix_154 : code_ 195 154 = some (.ifCond .ne 17, 157, 171, 0, 0) := by decide +kernel
theorem cd_M_mix_157 : code_ 195 157 = some (.iload 11, 159, 0, 0, 0) := by decide +kernel
theorem cd_M_mix_159 : code_ 195 159 = some (.i2l, 160, 0, 0, 0) := by decide +kernel
theorem cd_M_mix_160 : code_ 195 160 = some (.ldc2_w 175, 163, 0, 0, 10) := by decide +kernel
theorem cd_M_mix_163 : code_ 195 163 = some (.iload 6, 165, 0, 0, 0) := by decide +kernel
theorem cd_M_mix_165 : code_ 195 165 = some (.invokestatic 177, 168, 194, 0, 0) := by decide +kernel
theorem cd_M_mix_168 : code_ 195 168 = some (.goto 25, 171, 193, 0, 0) := by decide +kernel
theorem cd_M_mix_171 : code_ 195 171 = some (.iload 6, 173, 0, 0, 0) := by decide +kernel
theorem cd_M_mix_173 : code_ 195 173 = some (.iconst 1, 174, 0, 0, 0) := by decide +kernel
theorem cd_M_mix_174 : code_ 195 174 = some (.if_icmp .ne 7, 177, 181, 0, 0) := by decide +kernel
theorem cd_M_mix_177 : code_ 195 177 = some (.lconst 1, 178, 0, 0, 0) := by decide +kernel
theorem cd_M_mix_178 : code_ 195 178 = some (.goto 15, 181, 193, 0, 0) := by decide +kernel
theorem cd_M_mix_181 : code_ 195 181 = some (.iload 7, 183, 0, 0, 0) := by decide +kernel
theorem cd_M_mix_183 : code_ 195 183 = some (.iload 11, 185, 0, 0, 0) := by decide +kernel
theorem cd_M_mix_185 : code_ 195 185 = some (.if_icmp .ne 7, 188, 192, 0, 0) := by decide +kernel
theorem cd_M_mix_188 : code_ 195 188 = some (.lconst 1, 189, 0, 0, 0) := by decide +kernel
theorem cd_M_mix_189 : code_ 195 189 = some (.goto 4, 192, 193, 0, 0) := by decide +kernel
theorem cd_M_mix_192 : code_ 195 192 = some (.lconst 0, 193, 0, 0, 0) := by decide +kernel
theorem cd_M_mix_193 : code_ 195 193 = some (.lreturn, 194, 0, 0, 0) := by decide +kernel
theorem cd_M_mix_194 : code_ 195 194 = some (.iload_n 1, 195, 0, 0, 0) := by decide +kernel
theorem cd_M_mix_195 : code_ 195 195 = some (.iload_n 2, 196, 0, 0, 0) := by decide +kernel
theorem cd_M_mix_196 : code_ 195 196 = some (.isub, 197, 0, 0, 0) := by decide +kernel
theorem cd_M_mix_197 : code_ 195 197 = some (.iload_n 3, 198, 0, 0, 0) := by decide +kernel
theorem cd_M_mix_198 : code_ 195 198 = some (.isub, 199, 0, 0, 0) := by decide +kernel
theorem cd_M_mix_199 : code_ 195 199 = some (.iload 4, 201, 0, 0, 0) := by decide +kernel
theorem cd_M_mix_201 : code_ 195 201 = some (.iadd, 202, 0, 0, 0) := by decide +kernel
theorem cd_M_mix_202 : code_ 195 202 = some (.i2l, 203, 0, 0, 0) := by decide +kernel
theorem cd_M_mix_203 : code_ 195 203 = some (.lstore 12, 205, 0, 0, 0) := by decide +kernel
theorem cd_M_mix_205 : code_ 195 205 = some (.iload 5, 207, 0, 0, 0) := by decide +kernel
theorem cd_M_mix_207 : code_ 195 207 = some (.ifCond .ne 29, 210, 236, 0, 0) := by decide +kernel
theorem cd_M_mix_210 : code_ 195 210 = some (.iload_n 1, 211, 0, 0, 0) := by decide +kernel
theorem cd_M_mix_211 : code_ 195 211 = some (.i2l, 212, 0, 0, 0) := by decide +kernel
theorem cd_M_mix_212 : code_ 195 212 = some (.iload 4, 214, 0, 0, 0) := by decide +kernel
theorem cd_M_mix_214 : code_ 195 214 = some (.i2l, 215, 0, 0, 0) := by decide +kernel
theorem cd_M_mix_215 : code_ 195 215 = some (.lmul, 216, 0, 0, 0) := by decide +kernel
theorem cd_M_mix_216 : code_ 195 216 = some (.iload_n 2, 217, 0, 0, 0) := by decide +kernel
theorem cd_M_mix_217 : code_ 195 217 = some (.i2l, 218, 0, 0, 0) := by decide +kernel
theorem cd_M_mix_218 : code_ 195 218 = some (.iload_n 3, 219, 0, 0, 0) := by decide +kernel
theorem cd_M_mix_219 : code_ 195 219 = some (.i2l, 220, 0, 0, 0) := by decide +kernel
theorem cd_M_mix_220 : code_ 195 220 = some (.lmul, 221, 0, 0, 0) := by decide +kernel
theorem cd_M_mix_221 : code_ 195 221 = some (.lsub, 222, 0, 0, 0) := by decide +kernel
theorem cd_M_mix_222 : code_ 195 222 = some (.ldc2_w 175, 225, 0, 0, 10) := by decide +kernel
theorem cd_M_mix_225 : code_ 195 225 = some (.lload 12, 227, 0, 0, 0) := by decide +kernel
theorem cd_M_mix_227 : code_ 195 227 = some (.lmul, 228, 0, 0, 0) := by decide +kernel
theorem cd_M_mix_228 : code_ 195 228 = some (.iload 6, 230, 0, 0, 0) := by decide +kernel
theorem cd_M_mix_230 : code_ 195 230 = some (.invokestatic 177, 233, 194, 0, 0) := by decide +kernel
theorem cd_M_mix_233 : code_ 195 233 = some (.goto 15, 236, 248, 0, 0) := by decide +kernel
theorem cd_M_mix_236 : code_ 195 236 = some (.iload 4, 238, 0, 0, 0) := by decide +kernel
theorem cd_M_mix_238 : code_ 195 238 = some (.iload_n 3, 239, 0, 0, 0) := by decide +kernel
theorem cd_M_mix_239 : code_ 195 239 = some (.isub, 240, 0, 0, 0) := by decide +kernel
theorem cd_M_mix_240 : code_ 195 240 = some (.i2l, 241, 0, 0, 0) := by decide +kernel
theorem cd_M_mix_241 : code_ 195 241 = some (.lload 12, 243, 0, 0, 0) := by decide +kernel
theorem cd_M_mix_243 : code_ 195 243 = some (.iload 6, 245, 0, 0, 0) := by decide +kernel
theorem cd_M_mix_245 : code_ 195 245 = some (.invokestatic 177, 248, 194, 0, 0) := by decide +kernel
theorem cd_M_mix_248 : code_ 195 248 = some (.lreturn, 249, 0, 0, 0) := by decide +kernel
theorem cd_M_hands_0 : code_ 196 0 = some (.iload_n 2, 1, 0, 0, 0) := by decide +kernel
theorem cd_M_hands_1 : code_ 196 1 = some (.iconst 1, 2, 0, 0, 0) := by decide +kernel
theorem cd_M_hands_2 : code_ 196 2 = some (.bipush 9, 4, 0, 0, 0) := by decide +kernel
theorem cd_M_hands_4 : code_ 196 4 = some (.invokestatic 46, 7, 146, 0, 0) := by decide +kernel
theorem cd_M_hands_7 : code_ 196 7 = some (.ifCond .eq 7, 10, 14, 0, 0) := by decide +kernel
theorem cd_M_hands_10 : code_ 196 10 = some (.iload_n 1, 11, 0, 0, 0) := by decide +kernel
theorem cd_M_hands_11 : code_ 196 11 = some (.ifCond .ge 6, 14, 17, 0, 0) := by decide +kernel
theorem cd_M_hands_14 : code_ 196 14 = some (.bipush (-2), 16, 0, 0, 0) := by decide +kernel
theorem cd_M_hands_16 : code_ 196 16 = some (.ireturn, 17, 0, 0, 0) := by decide +kernel
theorem cd_M_hands_17 : code_ 196 17 = some (.iload_n 1, 18, 0, 0, 0) := by decide +kernel
theorem cd_M_hands_18 : code_ 196 18 = some (.istore_n 3, 19, 0, 0, 0) := by decide +kernel
theorem cd_M_hands_19 : code_ 196 19 = some (.iconst 1, 20, 0, 0, 0) := by decide +kernel
theorem cd_M_hands_20 : code_ 196 20 = some (.istore 4, 22, 0, 0, 0) := by decide +kernel
theorem cd_M_hands_22 : code_ 196 22 = some (.iconst 1, 23, 0, 0, 0) := by decide +kernel
theorem cd_M_hands_23 : code_ 196 23 = some (.istore 5, 25, 0, 0, 0) := by decide +kernel
theorem cd_M_hands_25 : code_ 196 25 = some (.iconst 0, 26, 0, 0, 0) := by decide +kernel
theorem cd_M_hands_26 : code_ 196 26 = some (.istore 6, 28, 0, 0, 0) := by decide +kernel
theorem cd_M_hands_28 : code_ 196 28 = some (.iload 6, 30, 0, 0, 0) := by decide +kernel
theorem cd_M_hands_30 : code_ 196 30 = some (.iload_n 2, 31, 0, 0, 0) := by decide +kernel
theorem cd_M_hands_31 : code_ 196 31 = some (.if_icmp .ge 51, 34, 82, 0, 0) := by decide +kernel
theorem cd_M_hands_34 : code_ 196 34 = some (.iload 5, 36, 0, 0, 0) := by decide +kernel
theorem cd_M_hands_36 : code_ 196 36 = some (.ifCond .eq 15, 39, 51, 0, 0) := by decide +kernel
theorem cd_M_hands_39 : code_ 196 39 = some (.iload_n 3, 40, 0, 0, 0) := by decide +kernel
theorem cd_M_hands_40 : code_ 196 40 = some (.bipush 10, 42, 0, 0, 0) := by decide +kernel
theorem cd_M_hands_42 : code_ 196 42 = some (.irem, 43, 0, 0, 0) := by decide +kernel
theorem cd_M_hands_43 : code_ 196 43 = some (.iconst 4, 44, 0, 0, 0) := by decide +kernel
theorem cd_M_hands_44 : code_ 196 44 = some (.if_icmp .ge 7, 47, 51, 0, 0) := by decide +kernel
theorem cd_M_hands_47 : code_ 196 47 = some (.iconst 1, 48, 0, 0, 0) := by decide +kernel
theorem cd_M_hands_48 : code_ 196 48 = some (.goto 4, 51, 52, 0, 0) := by decide +kernel
theorem cd_M_hands_51 : code_ 196 51 = some (.iconst 0, 52, 0, 0, 0) := by decide +kernel
theorem cd_M_hands_52 : code_ 196 52 = some (.istore 5, 54, 0, 0, 0) := by decide +kernel
theorem cd_M_hands_54 : code_ 196 54 = some (.iload_n 3, 55, 0, 0, 0) := by decide +kernel
theorem cd_M_hands_55 : code_ 196 55 = some (.bipush 10, 57, 0, 0, 0) := by decide +kernel
theorem cd_M_hands_57 : code_ 196 57 = some (.idiv, 58, 0, 0, 0) := by decide +kernel
theorem cd_M_hands_58 : code_ 196 58 = some (.istore_n 3, 59, 0, 0, 0) := by decide +kernel
theorem cd_M_hands_59 : code_ 196 59 = some (.iload 6, 61, 0, 0, 0) := by decide +kernel
theorem cd_M_hands_61 : code_ 196 61 = some (.ifCond .le 11, 64, 72, 0, 0) := by decide +kernel
theorem cd_M_hands_64 : code_ 196 64 = some (.bipush 10, 66, 0, 0, 0) := by decide +kernel
theorem cd_M_hands_66 : code_ 196 66 = some (.iload 4, 68, 0, 0, 0) := by decide +kernel
theorem cd_M_hands_68 : code_ 196 68 = some (.imul, 69, 0, 0, 0) := by decide +kernel
theorem cd_M_hands_69 : code_ 196 69 = some (.goto 5, 72, 74, 0, 0) := by decide +kernel
theorem cd_M_hands_72 : code_ 196 72 = some (.iload 4, 74, 0, 0, 0) := by decide +kernel
theorem cd_M_hands_74 : code_ 196 74 = some (.istore 4, 76, 0, 0, 0) := by decide +kernel
theorem cd_M_hands_76 : code_ 196 76 = some (.iinc 6 1, 79, 0, 0, 0) := by decide +kernel
theorem cd_M_hands_79 : code_ 196 79 = some (.goto (-51), 82, 28, 0, 0) := by decide +kernel
theorem cd_M_hands_82 : code_ 196 82 = some (.iload 5, 84, 0, 0, 0) := by decide +kernel
theorem cd_M_hands_84 : code_ 196 84 = some (.ifCond .eq 7, 87, 91, 0, 0) := by decide +kernel
theorem cd_M_hands_87 : code_ 196 87 = some (.iload_n 3, 88, 0, 0, 0) := by decide +kernel
theorem cd_M_hands_88 : code_ 196 88 = some (.ifCond .le 6, 91, 94, 0, 0) := by decide +kernel
theorem cd_M_hands_91 : code_ 196 91 = some (.bipush (-2), 93, 0, 0, 0) := by decide +kernel
theorem cd_M_hands_93 : code_ 196 93 = some (.ireturn, 94, 0, 0, 0) := by decide +kernel
theorem cd_M_hands_94 : code_ 196 94 = some (.iconst 0, 95, 0, 0, 0) := by decide +kernel
theorem cd_M_hands_95 : code_ 196 95 = some (.istore 6, 97, 0, 0, 0) := by decide +kernel
theorem cd_M_hands_97 : code_ 196 97 = some (.iload 6, 99, 0, 0, 0) := by decide +kernel
theorem cd_M_hands_99 : code_ 196 99 = some (.bipush 16, 101, 0, 0, 0) := by decide +kernel
theorem cd_M_hands_101 : code_ 196 101 = some (.if_icmp .ge 27, 104, 128, 0, 0) := by decide +kernel
theorem cd_M_hands_104 : code_ 196 104 = some (.aload_n 0, 105, 0, 0, 0) := by decide +kernel
theorem cd_M_hands_105 : code_ 196 105 = some (.getfield 25, 108, 8, 13, 2) := by decide +kernel
theorem cd_M_hands_108 : code_ 196 108 = some (.iload 6, 110, 0, 0, 0) := by decide +kernel
theorem cd_M_hands_110 : code_ 196 110 = some (.iload 6, 112, 0, 0, 0) := by decide +kernel
theorem cd_M_hands_112 : code_ 196 112 = some (.ifCond .ne 7, 115, 119, 0, 0) := by decide +kernel
theorem cd_M_hands_115 : code_ 196 115 = some (.iconst 0, 116, 0, 0, 0) := by decide +kernel
theorem cd_M_hands_116 : code_ 196 116 = some (.goto 5, 119, 121, 0, 0) := by decide +kernel
theorem cd_M_hands_119 : code_ 196 119 = some (.ldc 165, 121, 0, 0, 1000000) := by decide +kernel
theorem cd_M_hands_121 : code_ 196 121 = some (.iastore, 122, 0, 0, 0) := by decide +kernel
theorem cd_M_hands_122 : code_ 196 122 = some (.iinc 6 1, 125, 0, 0, 0) := by decide +kernel
theorem cd_M_hands_125 : code_ 196 125 = some (.goto (-28), 128, 97, 0, 0) := by decide +kernel
theorem cd_M_hands_128 : code_ 196 128 = some (.iconst 0, 129, 0, 0, 0) := by decide +kernel
theorem cd_M_hands_129 : code_ 196 129 = some (.istore 6, 131, 0, 0, 0) := by decide +kernel
theorem cd_M_hands_131 : code_ 196 131 = some (.iload 6, 133, 0, 0, 0) := by decide +kernel
theorem cd_M_hands_133 : code_ 196 133 = some (.iload_n 2, 134, 0, 0, 0) := by decide +kernel
theorem cd_M_hands_134 : code_ 196 134 = some (.if_icmp .ge 199, 137, 333, 0, 0) := by decide +kernel
theorem cd_M_hands_137 : code_ 196 137 = some (.iload_n 1, 138, 0, 0, 0) := by decide +kernel
theorem cd_M_hands_138 : code_ 196 138 = some (.iload 4, 140, 0, 0, 0) := by decide +kernel
theorem cd_M_hands_140 : code_ 196 140 = some (.idiv, 141, 0, 0, 0) := by decide +kernel
theorem cd_M_hands_141 : code_ 196 141 = some (.bipush 10, 143, 0, 0, 0) := by decide +kernel
theorem cd_M_hands_143 : code_ 196 143 = some (.irem, 144, 0, 0, 0) := by decide +kernel
theorem cd_M_hands_144 : code_ 196 144 = some (.istore 7, 146, 0, 0, 0) := by decide +kernel
theorem cd_M_hands_146 : code_ 196 146 = some (.iload 4, 148, 0, 0, 0) := by decide +kernel
theorem cd_M_hands_148 : code_ 196 148 = some (.bipush 10, 150, 0, 0, 0) := by decide +kernel
theorem cd_M_hands_150 : code_ 196 150 = some (.idiv, 151, 0, 0, 0) := by decide +kernel
theorem cd_M_hands_151 : code_ 196 151 = some (.istore 4, 153, 0, 0, 0) := by decide +kernel
theorem cd_M_hands_153 : code_ 196 153 = some (.iconst 0, 154, 0, 0, 0) := by decide +kernel
theorem cd_M_hands_154 : code_ 196 154 = some (.istore 8, 156, 0, 0, 0) := by decide +kernel
theorem cd_M_hands_156 : code_ 196 156 = some (.iload 8, 158, 0, 0, 0) := by decide +kernel
theorem cd_M_hands_158 : code_ 196 158 = some (.bipush 16, 160, 0, 0, 0) := by decide +kernel
theorem cd_M_hands_160 : code_ 196 160 = some (.if_icmp .ge 18, 163, 178, 0, 0) := by decide +kernel
theorem cd_M_hands_163 : code_ 196 163 = some (.aload_n 0, 164, 0, 0, 0) := by decide +kernel
theorem cd_M_hands_164 : code_ 196 164 = some (.getfield 28, 167, 8, 14, 2) := by decide +kernel
theorem cd_M_hands_167 : code_ 196 167 = some (.iload 8, 169, 0, 0, 0) := by decide +kernel
theorem cd_M_hands_169 : code_ 196 169 = some (.ldc 165, 171, 0, 0, 1000000) := by decide +kernel
theorem cd_M_hands_171 : code_ 196 171 = some (.iastore, 172, 0, 0, 0) := by decide +kernel
theorem cd_M_hands_172 : code_ 196 172 = some (.iinc 8 1, 175, 0, 0, 0) := by decide +kernel
theorem cd_M_hands_175 : code_ 196 175 = some (.goto (-19), 178, 156, 0, 0) := by decide +kernel
theorem cd_M_hands_178 : code_ 196 178 = some (.iconst 0, 179, 0, 0, 0) := by decide +kernel
theorem cd_M_hands_179 : code_ 196 179 = some (.istore 8, 181, 0, 0, 0) := by decide +kernel
theorem cd_M_hands_181 : code_ 196 181 = some (.iload 8, 183, 0, 0, 0) := by decide +kernel
theorem cd_M_hands_183 : code_ 196 183 = some (.bipush 16, 185, 0, 0, 0) := by decide +kernel
theorem cd_M_hands_185 : code_ 196 185 = some (.if_icmp .ge 112, 188, 297, 0, 0) := by decide +kernel
theorem cd_M_hands_188 : code_ 196 188 = some (.iload 8, 190, 0, 0, 0) := by decide +kernel
theorem cd_M_hands_190 : code_ 196 190 = some (.iload 7, 192, 0, 0, 0) := by decide +kernel
theorem cd_M_hands_192 : code_ 196 192 = some (.ishr, 193, 0, 0, 0) := by decide +kernel
theorem cd_M_hands_193 : code_ 196 193 = some (.iconst 1, 194, 0, 0, 0) := by decide +kernel
theorem cd_M_hands_194 : code_ 196 194 = some (.iand, 195, 0, 0, 0) := by decide +kernel
theorem cd_M_hands_195 : code_ 196 195 = some (.iconst 1, 196, 0, 0, 0) := by decide +kernel
theorem cd_M_hands_196 : code_ 196 196 = some (.if_icmp .ne 7, 199, 203, 0, 0) := by decide +kernel
theorem cd_M_hands_199 : code_ 196 199 = some (.iconst 1, 200, 0, 0, 0) := by decide +kernel
theorem cd_M_hands_200 : code_ 196 200 = some (.goto 4, 203, 204, 0, 0) := by decide +kernel
theorem cd_M_hands_203 : code_ 196 203 = some (.iconst 0, 204, 0, 0, 0) := by decide +kernel
theorem cd_M_hands_204 : code_ 196 204 = some (.istore 9, 206, 0, 0, 0) := by decide +kernel
theorem cd_M_hands_206 : code_ 196 206 = some (.aload_n 0, 207, 0, 0, 0) := by decide +kernel
theorem cd_M_hands_207 : code_ 196 207 = some (.getfield 25, 210, 8, 13, 2) := by decide +kernel
theorem cd_M_hands_210 : code_ 196 210 = some (.iload 8, 212, 0, 0, 0) := by decide +kernel
theorem cd_M_hands_212 : code_ 196 212 = some (.iaload, 213, 0, 0, 0) := by decide +kernel
theorem cd_M_hands_213 : code_ 196 213 = some (.iload 9, 215, 0, 0, 0) := by decide +kernel
theorem cd_M_hands_215 : code_ 196 215 = some (.ifCond .eq 7, 218, 222, 0, 0) := by decide +kernel
theorem cd_M_hands_218 : code_ 196 218 = some (.iconst 0, 219, 0, 0, 0) := by decide +kernel
theorem cd_M_hands_219 : code_ 196 219 = some (.goto 4, 222, 223, 0, 0) := by decide +kernel
theorem cd_M_hands_222 : code_ 196 222 = some (.iconst 1, 223, 0, 0, 0) := by decide +kernel
theorem cd_M_hands_223 : code_ 196 223 = some (.iadd, 224, 0, 0, 0) := by decide +kernel
theorem cd_M_hands_224 : code_ 196 224 = some (.istore 10, 226, 0, 0, 0) := by decide +kernel
theorem cd_M_hands_226 : code_ 196 226 = some (.iconst 0, 227, 0, 0, 0) := by decide +kernel
theorem cd_M_hands_227 : code_ 196 227 = some (.istore 11, 229, 0, 0, 0) := by decide +kernel
theorem cd_M_hands_229 : code_ 196 229 = some (.iload 11, 231, 0, 0, 0) := by decide +kernel
theorem cd_M_hands_231 : code_ 196 231 = some (.bipush 16, 233, 0, 0, 0) := by decide +kernel
theorem cd_M_hands_233 : code_ 196 233 = some (.if_icmp .ge 58, 236, 291, 0, 0) := by decide +kernel
theorem cd_M_hands_236 : code_ 196 236 = some (.iload 11, 238, 0, 0, 0) := by decide +kernel
theorem cd_M_hands_238 : code_ 196 238 = some (.iconst 1, 239, 0, 0, 0) := by decide +kernel
theorem cd_M_hands_239 : code_ 196 239 = some (.iload 7, 241, 0, 0, 0) := by decide +kernel
theorem cd_M_hands_241 : code_ 196 241 = some (.ishl, 242, 0, 0, 0) := by decide +kernel
theorem cd_M_hands_242 : code_ 196 242 = some (.ior, 243, 0, 0, 0) := by decide +kernel
theorem cd_M_hands_243 : code_ 196 243 = some (.istore 12, 245, 0, 0, 0) := by decide +kernel
theorem cd_M_hands_245 : code_ 196 245 = some (.iload 11, 247, 0, 0, 0) := by decide +kernel
theorem cd_M_hands_247 : code_ 196 247 = some (.iload 8, 249, 0, 0, 0) := by decide +kernel
theorem cd_M_hands_249 : code_ 196 249 = some (.iconst (-1), 250, 0, 0, 0) := by decide +kernel
theorem cd_M_hands_250 : code_ 196 250 = some (.ixor, 251, 0, 0, 0) := by decide +kernel
theorem cd_M_hands_251 : code_ 196 251 = some (.iand, 252, 0, 0, 0) := by decide +kernel
theorem cd_M_hands_252 : code_ 196 252 = some (.ifCond .ne 33, 255, 285, 0, 0) := by decide +kernel
theorem cd_M_hands_255 : code_ 196 255 = some (.iload 12, 257, 0, 0, 0) := by decide +kernel
theorem cd_M_hands_257 : code_ 196 257 = some (.invokestatic 170, 260, 147, 0, 0) := by decide +kernel
theorem cd_M_hands_260 : code_ 196 260 = some (.iconst 3, 261, 0, 0, 0) := by decide +kernel
theorem cd_M_hands_261 : code_ 196 261 = some (.if_icmp .ge 24, 264, 285, 0, 0) := by decide +kernel
theorem cd_M_hands_264 : code_ 196 264 = some (.iload 10, 266, 0, 0, 0) := by decide +kernel
theorem cd_M_hands_266 : code_ 196 266 = some (.aload_n 0, 267, 0, 0, 0) := by decide +kernel
theorem cd_M_hands_267 : code_ 196 267 = some (.getfield 28, 270, 8, 14, 2) := by decide +kernel
theorem cd_M_hands_270 : code_ 196 270 = some (.iload 12, 272, 0, 0, 0) := by decide +kernel
theorem cd_M_hands_272 : code_ 196 272 = some (.iaload, 273, 0, 0, 0) := by decide +kernel
theorem cd_M_hands_273 : code_ 196 273 = some (.if_icmp .ge 12, 276, 285, 0, 0) := by decide +kernel
theorem cd_M_hands_276 : code_ 196 276 = some (.aload_n 0, 277, 0, 0, 0) := by decide +kernel
theorem cd_M_hands_277 : code_ 196 277 = some (.getfield 28, 280, 8, 14, 2) := by decide +kernel
theorem cd_M_hands_280 : code_ 196 280 = some (.iload 12, 282, 0, 0, 0) := by decide +kernel
theorem cd_M_hands_282 : code_ 196 282 = some (.iload 10, 284, 0, 0, 0) := by decide +kernel
theorem cd_M_hands_284 : code_ 196 284 = some (.iastore, 285, 0, 0, 0) := by decide +kernel
theorem cd_M_hands_285 : code_ 196 285 = some (.iinc 11 1, 288, 0, 0, 0) := by decide +kernel
theorem cd_M_hands_288 : code_ 196 288 = some (.goto (-59), 291, 229, 0, 0) := by decide +kernel
theorem cd_M_hands_291 : code_ 196 291 = some (.iinc 8 1, 294, 0, 0, 0) := by decide +kernel
theorem cd_M_hands_294 : code_ 196 294 = some (.goto (-113), 297, 181, 0, 0) := by decide +kernel
theorem cd_M_hands_297 : code_ 196 297 = some (.iconst 0, 298, 0, 0, 0) := by decide +kernel
theorem cd_M_hands_298 : code_ 196 298 = some (.istore 8, 300, 0, 0, 0) := by decide +kernel
theorem cd_M_hands_300 : code_ 196 300 = some (.iload 8, 302, 0, 0, 0) := by decide +kernel
theorem cd_M_hands_302 : code_ 196 302 = some (.bipush 16, 304, 0, 0, 0) := by decide +kernel
theorem cd_M_hands_304 : code_ 196 304 = some (.if_icmp .ge 23, 307, 327, 0, 0) := by decide +kernel
theorem cd_M_hands_307 : code_ 196 307 = some (.aload_n 0, 308, 0, 0, 0) := by decide +kernel
theorem cd_M_hands_308 : code_ 196 308 = some (.getfield 25, 311, 8, 13, 2) := by decide +kernel
theorem cd_M_hands_311 : code_ 196 311 = some (.iload 8, 313, 0, 0, 0) := by decide +kernel
theorem cd_M_hands_313 : code_ 196 313 = some (.aload_n 0, 314, 0, 0, 0) := by decide +kernel
theorem cd_M_hands_314 : code_ 196 314 = some (.getfield 28, 317, 8, 14, 2) := by decide +kernel
theorem cd_M_hands_317 : code_ 196 317 = some (.iload 8, 319, 0, 0, 0) := by decide +kernel
theorem cd_M_hands_319 : code_ 196 319 = some (.iaload, 320, 0, 0, 0) := by decide +kernel
theorem cd_M_hands_320 : code_ 196 320 = some (.iastore, 321, 0, 0, 0) := by decide +kernel
theorem cd_M_hands_321 : code_ 196 321 = some (.iinc 8 1, 324, 0, 0, 0) := by decide +kernel
theorem cd_M_hands_324 : code_ 196 324 = some (.goto (-24), 327, 300, 0, 0) := by decide +kernel
theorem cd_M_hands_327 : code_ 196 327 = some (.iinc 6 1, 330, 0, 0, 0) := by decide +kernel
theorem cd_M_hands_330 : code_ 196 330 = some (.goto (-199), 333, 131, 0, 0) := by decide +kernel
theorem cd_M_hands_333 : code_ 196 333 = some (.ldc 165, 335, 0, 0, 1000000) := by decide +kernel
theorem cd_M_hands_335 : code_ 196 335 = some (.istore 6, 337, 0, 0, 0) := by decide +kernel
theorem cd_M_hands_337 : code_ 196 337 = some (.iconst 0, 338, 0, 0, 0) := by decide +kernel
theorem cd_M_hands_338 : code_ 196 338 = some (.istore 7, 340, 0, 0, 0) := by decide +kernel
theorem cd_M_hands_340 : code_ 196 340 = some (.iload 7, 342, 0, 0, 0) := by decide +kernel
theorem cd_M_hands_342 : code_ 196 342 = some (.bipush 16, 344, 0, 0, 0) := by decide +kernel
theorem cd_M_hands_344 : code_ 196 344 = some (.if_icmp .ge 35, 347, 379, 0, 0) := by decide +kernel
theorem cd_M_hands_347 : code_ 196 347 = some (.aload_n 0, 348, 0, 0, 0) := by decide +kernel
theorem cd_M_hands_348 : code_ 196 348 = some (.getfield 25, 351, 8, 13, 2) := by decide +kernel
theorem cd_M_hands_351 : code_ 196 351 = some (.iload 7, 353, 0, 0, 0) := by decide +kernel
theorem cd_M_hands_353 : code_ 196 353 = some (.iaload, 354, 0, 0, 0) := by decide +kernel
theorem cd_M_hands_354 : code_ 196 354 = some (.iload 6, 356, 0, 0, 0) := by decide +kernel
theorem cd_M_hands_356 : code_ 196 356 = some (.if_icmp .ge 13, 359, 369, 0, 0) := by decide +kernel
theorem cd_M_hands_359 : code_ 196 359 = some (.aload_n 0, 360, 0, 0, 0) := by decide +kernel
theorem cd_M_hands_360 : code_ 196 360 = some (.getfield 25, 363, 8, 13, 2) := by decide +kernel
theorem cd_M_hands_363 : code_ 196 363 = some (.iload 7, 365, 0, 0, 0) := by decide +kernel
theorem cd_M_hands_365 : code_ 196 365 = some (.iaload, 366, 0, 0, 0) := by decide +kernel
theorem cd_M_hands_366 : code_ 196 366 = some (.goto 5, 369, 371, 0, 0) := by decide +kernel
theorem cd_M_hands_369 : code_ 196 369 = some (.iload 6, 371, 0, 0, 0) := by decide +kernel
theorem cd_M_hands_371 : code_ 196 371 = some (.istore 6, 373, 0, 0, 0) := by decide +kernel
theorem cd_M_hands_373 : code_ 196 373 = some (.iinc 7 1, 376, 0, 0, 0) := by decide +kernel
theorem cd_M_hands_376 : code_ 196 376 = some (.goto (-36), 379, 340, 0, 0) := by decide +kernel
theorem cd_M_hands_379 : code_ 196 379 = some (.iload 6, 381, 0, 0, 0) := by decide +kernel
theorem cd_M_hands_381 : code_ 196 381 = some (.ireturn, 382, 0, 0, 0) := by decide +kernel
theorem cd_M_power_0 : code_ 197 0 = some (.lconst 1, 1, 0, 0, 0) := by decide +kernel
theorem cd_M_power_1 : code_ 197 1 = some (.lstore_n 3, 2, 0, 0, 0) := by decide +kernel
theorem cd_M_power_2 : code_ 197 2 = some (.iconst 0, 3, 0, 0, 0) := by decide +kernel
theorem cd_M_power_3 : code_ 197 3 = some (.istore 5, 5, 0, 0, 0) := by decide +kernel
theorem cd_M_power_5 : code_ 197 5 = some (.iload 5, 7, 0, 0, 0) := by decide +kernel
theorem cd_M_power_7 : code_ 197 7 = some (.iload_n 2, 8, 0, 0, 0) := by decide +kernel
theorem cd_M_power_8 : code_ 197 8 = some (.if_icmp .ge 13, 11, 21, 0, 0) := by decide +kernel
theorem cd_M_power_11 : code_ 197 11 = some (.lload_n 3, 12, 0, 0, 0) := by decide +kernel
theorem cd_M_power_12 : code_ 197 12 = some (.lload_n 0, 13, 0, 0, 0) := by decide +kernel
theorem cd_M_power_13 : code_ 197 13 = some (.lmul, 14, 0, 0, 0) := by decide +kernel
theorem cd_M_power_14 : code_ 197 14 = some (.lstore_n 3, 15, 0, 0, 0) := by decide +kernel
theorem cd_M_power_15 : code_ 197 15 = some (.iinc 5 1, 18, 0, 0, 0) := by decide +kernel
theorem cd_M_power_18 : code_ 197 18 = some (.goto (-13), 21, 5, 0, 0) := by decide +kernel
theorem cd_M_power_21 : code_ 197 21 = some (.lload_n 3, 22, 0, 0, 0) := by decide +kernel
theorem cd_M_power_22 : code_ 197 22 = some (.lreturn, 23, 0, 0, 0) := by decide +kernel
theorem cd_M_truly_0 : code_ 198 0 = some (.iload_n 1, 1, 0, 0, 0) := by decide +kernel
theorem cd_M_truly_1 : code_ 198 1 = some (.iconst 0, 2, 0, 0, 0) := by decide +kernel
theorem cd_M_truly_2 : code_ 198 2 = some (.bipush 10, 4, 0, 0, 0) := by decide +kernel
theorem cd_M_truly_4 : code_ 198 4 = some (.invokestatic 46, 7, 146, 0, 0) := by decide +kernel
theorem cd_M_truly_7 : code_ 198 7 = some (.ifCond .eq 43, 10, 50, 0, 0) := by decide +kernel
theorem cd_M_truly_10 : code_ 198 10 = some (.iload_n 2, 11, 0, 0, 0) := by decide +kernel
theorem cd_M_truly_11 : code_ 198 11 = some (.iconst 0, 12, 0, 0, 0) := by decide +kernel
theorem cd_M_truly_12 : code_ 198 12 = some (.bipush 10, 14, 0, 0, 0) := by decide +kernel
theorem cd_M_truly_14 : code_ 198 14 = some (.invokestatic 46, 17, 146, 0, 0) := by decide +kernel
theorem cd_M_truly_17 : code_ 198 17 = some (.ifCond .eq 33, 20, 50, 0, 0) := by decide +kernel
theorem cd_M_truly_20 : code_ 198 20 = some (.iload_n 3, 21, 0, 0, 0) := by decide +kernel
theorem cd_M_truly_21 : code_ 198 21 = some (.iconst 0, 22, 0, 0, 0) := by decide +kernel
theorem cd_M_truly_22 : code_ 198 22 = some (.bipush 16, 24, 0, 0, 0) := by decide +kernel
theorem cd_M_truly_24 : code_ 198 24 = some (.invokestatic 46, 27, 146, 0, 0) := by decide +kernel
theorem cd_M_truly_27 : code_ 198 27 = some (.ifCond .eq 23, 30, 50, 0, 0) := by decide +kernel
theorem cd_M_truly_30 : code_ 198 30 = some (.iload 4, 32, 0, 0, 0) := by decide +kernel
theorem cd_M_truly_32 : code_ 198 32 = some (.iconst 0, 33, 0, 0, 0) := by decide +kernel
theorem cd_M_truly_33 : code_ 198 33 = some (.iload_n 3, 34, 0, 0, 0) := by decide +kernel
theorem cd_M_truly_34 : code_ 198 34 = some (.invokestatic 46, 37, 146, 0, 0) := by decide +kernel
theorem cd_M_truly_37 : code_ 198 37 = some (.ifCond .eq 13, 40, 50, 0, 0) := by decide +kernel
theorem cd_M_truly_40 : code_ 198 40 = some (.iload 5, 42, 0, 0, 0) := by decide +kernel
theorem cd_M_truly_42 : code_ 198 42 = some (.iconst 0, 43, 0, 0, 0) := by decide +kernel
theorem cd_M_truly_43 : code_ 198 43 = some (.iconst 1, 44, 0, 0, 0) := by decide +kernel
theorem cd_M_truly_44 : code_ 198 44 = some (.invokestatic 46, 47, 146, 0, 0) := by decide +kernel
theorem cd_M_truly_47 : code_ 198 47 = some (.ifCond .ne 7, 50, 54, 0, 0) := by decide +kernel
theorem cd_M_truly_50 : code_ 198 50 = some (.ldc2_w 173, 53, 0, 0, -1000000000000000002) := by decide +kernel
theorem cd_M_truly_53 : code_ 198 53 = some (.lreturn, 54, 0, 0, 0) := by decide +kernel
theorem cd_M_truly_54 : code_ 198 54 = some (.iload_n 1, 55, 0, 0, 0) := by decide +kernel
theorem cd_M_truly_55 : code_ 198 55 = some (.i2l, 56, 0, 0, 0) := by decide +kernel
theorem cd_M_truly_56 : code_ 198 56 = some (.iload 4, 58, 0, 0, 0) := by decide +kernel
theorem cd_M_truly_58 : code_ 198 58 = some (.invokestatic 181, 61, 197, 0, 0) := by decide +kernel
theorem cd_M_truly_61 : code_ 198 61 = some (.ldc2_w 175, 64, 0, 0, 10) := by decide +kernel
theorem cd_M_truly_64 : code_ 198 64 = some (.iload_n 1, 65, 0, 0, 0) := by decide +kernel
theorem cd_M_truly_65 : code_ 198 65 = some (.i2l, 66, 0, 0, 0) := by decide +kernel
theorem cd_M_truly_66 : code_ 198 66 = some (.lsub, 67, 0, 0, 0) := by decide +kernel
theorem cd_M_truly_67 : code_ 198 67 = some (.iload_n 3, 68, 0, 0, 0) := by decide +kernel
theorem cd_M_truly_68 : code_ 198 68 = some (.iload 4, 70, 0, 0, 0) := by decide +kernel
theorem cd_M_truly_70 : code_ 198 70 = some (.isub, 71, 0, 0, 0) := by decide +kernel
theorem cd_M_truly_71 : code_ 198 71 = some (.invokestatic 181, 74, 197, 0, 0) := by decide +kernel
theorem cd_M_truly_74 : code_ 198 74 = some (.lmul, 75, 0, 0, 0) := by decide +kernel
theorem cd_M_truly_75 : code_ 198 75 = some (.lstore 6, 77, 0, 0, 0) := by decide +kernel
theorem cd_M_truly_77 : code_ 198 77 = some (.iload_n 2, 78, 0, 0, 0) := by decide +kernel
theorem cd_M_truly_78 : code_ 198 78 = some (.i2l, 79, 0, 0, 0) := by decide +kernel
theorem cd_M_truly_79 : code_ 198 79 = some (.iload 4, 81, 0, 0, 0) := by decide +kernel
theorem cd_M_truly_81 : code_ 198 81 = some (.invokestatic 181, 84, 197, 0, 0) := by decide +kernel
theorem cd_M_truly_84 : code_ 198 84 = some (.ldc2_w 175, 87, 0, 0, 10) := by decide +kernel
theorem cd_M_truly_87 : code_ 198 87 = some (.iload_n 2, 88, 0, 0, 0) := by decide +kernel
theorem cd_M_truly_88 : code_ 198 88 = some (.i2l, 89, 0, 0, 0) := by decide +kernel
theorem cd_M_truly_89 : code_ 198 89 = some (.lsub, 90, 0, 0, 0) := by decide +kernel
theorem cd_M_truly_90 : code_ 198 90 = some (.iload_n 3, 91, 0, 0, 0) := by decide +kernel
theorem cd_M_truly_91 : code_ 198 91 = some (.iload 4, 93, 0, 0, 0) := by decide +kernel
theorem cd_M_truly_93 : code_ 198 93 = some (.isub, 94, 0, 0, 0) := by decide +kernel
theorem cd_M_truly_94 : code_ 198 94 = some (.invokestatic 181, 97, 197, 0, 0) := by decide +kernel
theorem cd_M_truly_97 : code_ 198 97 = some (.lmul, 98, 0, 0, 0) := by decide +kernel
theorem cd_M_truly_98 : code_ 198 98 = some (.lstore 8, 100, 0, 0, 0) := by decide +kernel
theorem cd_M_truly_100 : code_ 198 100 = some (.lload 6, 102, 0, 0, 0) := by decide +kernel
theorem cd_M_truly_102 : code_ 198 102 = some (.lload 8, 104, 0, 0, 0) := by decide +kernel
theorem cd_M_truly_104 : code_ 198 104 = some (.ladd, 105, 0, 0, 0) := by decide +kernel
theorem cd_M_truly_105 : code_ 198 105 = some (.lconst 0, 106, 0, 0, 0) := by decide +kernel
theorem cd_M_truly_106 : code_ 198 106 = some (.lcmp, 107, 0, 0, 0) := by decide +kernel
theorem cd_M_truly_107 : code_ 198 107 = some (.ifCond .ne 9, 110, 116, 0, 0) := by decide +kernel
theorem cd_M_truly_110 : code_ 198 110 = some (.iload 5, 112, 0, 0, 0) := by decide +kernel
theorem cd_M_truly_112 : code_ 198 112 = some (.i2l, 113, 0, 0, 0) := by decide +kernel
theorem cd_M_truly_113 : code_ 198 113 = some (.goto 15, 116, 128, 0, 0) := by decide +kernel
theorem cd_M_truly_116 : code_ 198 116 = some (.lload 6, 118, 0, 0, 0) := by decide +kernel
theorem cd_M_truly_118 : code_ 198 118 = some (.lload 6, 120, 0, 0, 0) := by decide +kernel
theorem cd_M_truly_120 : code_ 198 120 = some (.lload 8, 122, 0, 0, 0) := by decide +kernel
theorem cd_M_truly_122 : code_ 198 122 = some (.ladd, 123, 0, 0, 0) := by decide +kernel
theorem cd_M_truly_123 : code_ 198 123 = some (.iload 5, 125, 0, 0, 0) := by decide +kernel
theorem cd_M_truly_125 : code_ 198 125 = some (.invokestatic 177, 128, 194, 0, 0) := by decide +kernel
theorem cd_M_truly_128 : code_ 198 128 = some (.lreturn, 129, 0, 0, 0) := by decide +kernel
theorem cd_M_race_0 : code_ 199 0 = some (.iload_n 1, 1, 0, 0, 0) := by decide +kernel
theorem cd_M_race_1 : code_ 199 1 = some (.iconst 0, 2, 0, 0, 0) := by decide +kernel
theorem cd_M_race_2 : code_ 199 2 = some (.bipush 9, 4, 0, 0, 0) := by decide +kernel
theorem cd_M_race_4 : code_ 199 4 = some (.invokestatic 46, 7, 146, 0, 0) := by decide +kernel
theorem cd_M_race_7 : code_ 199 7 = some (.ifCond .eq 33, 10, 40, 0, 0) := by decide +kernel
theorem cd_M_race_10 : code_ 199 10 = some (.iload_n 2, 11, 0, 0, 0) := by decide +kernel
theorem cd_M_race_11 : code_ 199 11 = some (.iconst 0, 12, 0, 0, 0) := by decide +kernel
theorem cd_M_race_12 : code_ 199 12 = some (.bipush 9, 14, 0, 0, 0) := by decide +kernel
theorem cd_M_race_14 : code_ 199 14 = some (.invokestatic 46, 17, 146, 0, 0) := by decide +kernel
theorem cd_M_race_17 : code_ 199 17 = some (.ifCond .eq 23, 20, 40, 0, 0) := by decide +kernel
theorem cd_M_race_20 : code_ 199 20 = some (.iload_n 3, 21, 0, 0, 0) := by decide +kernel
theorem cd_M_race_21 : code_ 199 21 = some (.iconst 0, 22, 0, 0, 0) := by decide +kernel
theorem cd_M_race_22 : code_ 199 22 = some (.bipush 10, 24, 0, 0, 0) := by decide +kernel
theorem cd_M_race_24 : code_ 199 24 = some (.invokestatic 46, 27, 146, 0, 0) := by decide +kernel
theorem cd_M_race_27 : code_ 199 27 = some (.ifCond .eq 13, 30, 40, 0, 0) := by decide +kernel
theorem cd_M_race_30 : code_ 199 30 = some (.iload 4, 32, 0, 0, 0) := by decide +kernel
theorem cd_M_race_32 : code_ 199 32 = some (.iconst 0, 33, 0, 0, 0) := by decide +kernel
theorem cd_M_race_33 : code_ 199 33 = some (.iconst 1, 34, 0, 0, 0) := by decide +kernel
theorem cd_M_race_34 : code_ 199 34 = some (.invokestatic 46, 37, 146, 0, 0) := by decide +kernel
theorem cd_M_race_37 : code_ 199 37 = some (.ifCond .ne 7, 40, 44, 0, 0) := by decide +kernel
theorem cd_M_race_40 : code_ 199 40 = some (.ldc2_w 173, 43, 0, 0, -1000000000000000002) := by decide +kernel
theorem cd_M_race_43 : code_ 199 43 = some (.lreturn, 44, 0, 0, 0) := by decide +kernel
theorem cd_M_race_44 : code_ 199 44 = some (.iload_n 1, 45, 0, 0, 0) := by decide +kernel
theorem cd_M_race_45 : code_ 199 45 = some (.iload_n 2, 46, 0, 0, 0) := by decide +kernel
theorem cd_M_race_46 : code_ 199 46 = some (.iadd, 47, 0, 0, 0) := by decide +kernel
theorem cd_M_race_47 : code_ 199 47 = some (.ifCond .ne 7, 50, 54, 0, 0) := by decide +kernel
theorem cd_M_race_50 : code_ 199 50 = some (.ldc2_w 185, 53, 0, 0, -1000000000000000003) := by decide +kernel
theorem cd_M_race_53 : code_ 199 53 = some (.lreturn, 54, 0, 0, 0) := by decide +kernel
theorem cd_M_race_54 : code_ 199 54 = some (.iconst 1, 55, 0, 0, 0) := by decide +kernel
theorem cd_M_race_55 : code_ 199 55 = some (.istore 5, 57, 0, 0, 0) := by decide +kernel
theorem cd_M_race_57 : code_ 199 57 = some (.iload 5, 59, 0, 0, 0) := by decide +kernel
theorem cd_M_race_59 : code_ 199 59 = some (.bipush 11, 61, 0, 0, 0) := by decide +kernel
theorem cd_M_race_61 : code_ 199 61 = some (.if_icmp .ge 37, 64, 98, 0, 0) := by decide +kernel
theorem cd_M_race_64 : code_ 199 64 = some (.aload_n 0, 65, 0, 0, 0) := by decide +kernel
theorem cd_M_race_65 : code_ 199 65 = some (.getfield 31, 68, 8, 15, 2) := by decide +kernel
theorem cd_M_race_68 : code_ 199 68 = some (.iload 5, 70, 0, 0, 0) := by decide +kernel
theorem cd_M_race_70 : code_ 199 70 = some (.ldc2_w 175, 73, 0, 0, 10) := by decide +kernel
theorem cd_M_race_73 : code_ 199 73 = some (.iload 5, 75, 0, 0, 0) := by decide +kernel
theorem cd_M_race_75 : code_ 199 75 = some (.iconst 1, 76, 0, 0, 0) := by decide +kernel
theorem cd_M_race_76 : code_ 199 76 = some (.isub, 77, 0, 0, 0) := by decide +kernel
theorem cd_M_race_77 : code_ 199 77 = some (.invokestatic 181, 80, 197, 0, 0) := by decide +kernel
theorem cd_M_race_80 : code_ 199 80 = some (.lastore, 81, 0, 0, 0) := by decide +kernel
theorem cd_M_race_81 : code_ 199 81 = some (.aload_n 0, 82, 0, 0, 0) := by decide +kernel
theorem cd_M_race_82 : code_ 199 82 = some (.getfield 31, 85, 8, 15, 2) := by decide +kernel
theorem cd_M_race_85 : code_ 199 85 = some (.bipush 11, 87, 0, 0, 0) := by decide +kernel
theorem cd_M_race_87 : code_ 199 87 = some (.iload 5, 89, 0, 0, 0) := by decide +kernel
theorem cd_M_race_89 : code_ 199 89 = some (.imul, 90, 0, 0, 0) := by decide +kernel
theorem cd_M_race_90 : code_ 199 90 = some (.lconst 0, 91, 0, 0, 0) := by decide +kernel
theorem cd_M_race_91 : code_ 199 91 = some (.lastore, 92, 0, 0, 0) := by decide +kernel
theorem cd_M_race_92 : code_ 199 92 = some (.iinc 5 1, 95, 0, 0, 0) := by decide +kernel
theorem cd_M_race_95 : code_ 199 95 = some (.goto (-38), 98, 57, 0, 0) := by decide +kernel
theorem cd_M_race_98 : code_ 199 98 = some (.iconst 1, 99, 0, 0, 0) := by decide +kernel
theorem cd_M_race_99 : code_ 199 99 = some (.istore 5, 101, 0, 0, 0) := by decide +kernel
theorem cd_M_race_101 : code_ 199 101 = some (.iload 5, 103, 0, 0, 0) := by decide +kernel
theorem cd_M_race_103 : code_ 199 103 = some (.bipush 10, 105, 0, 0, 0) := by decide +kernel
theorem cd_M_race_105 : code_ 199 105 = some (.iload_n 1, 106, 0, 0, 0) := by decide +kernel
theorem cd_M_race_106 : code_ 199 106 = some (.isub, 107, 0, 0, 0) := by decide +kernel
theorem cd_M_race_107 : code_ 199 107 = some (.if_icmp .gt 80, 110, 187, 0, 0) := by decide +kernel
theorem cd_M_race_110 : code_ 199 110 = some (.iconst 1, 111, 0, 0, 0) := by decide +kernel
theorem cd_M_race_111 : code_ 199 111 = some (.istore 6, 113, 0, 0, 0) := by decide +kernel
theorem cd_M_race_113 : code_ 199 113 = some (.iload 6, 115, 0, 0, 0) := by decide +kernel
theorem cd_M_race_115 : code_ 199 115 = some (.bipush 10, 117, 0, 0, 0) := by decide +kernel
theorem cd_M_race_117 : code_ 199 117 = some (.iload_n 2, 118, 0, 0, 0) := by decide +kernel
theorem cd_M_race_118 : code_ 199 118 = some (.isub, 119, 0, 0, 0) := by decide +kernel
theorem cd_M_race_119 : code_ 199 119 = some (.if_icmp .gt 62, 122, 181, 0, 0) := by decide +kernel
theorem cd_M_race_122 : code_ 199 122 = some (.aload_n 0, 123, 0, 0, 0) := by decide +kernel
theorem cd_M_race_123 : code_ 199 123 = some (.getfield 31, 126, 8, 15, 2) := by decide +kernel
theorem cd_M_race_126 : code_ 199 126 = some (.bipush 11, 128, 0, 0, 0) := by decide +kernel
theorem cd_M_race_128 : code_ 199 128 = some (.iload 5, 130, 0, 0, 0) := by decide +kernel
theorem cd_M_race_130 : code_ 199 130 = some (.imul, 131, 0, 0, 0) := by decide +kernel
theorem cd_M_race_131 : code_ 199 131 = some (.iload 6, 133, 0, 0, 0) := by decide +kernel
theorem cd_M_race_133 : code_ 199 133 = some (.iadd, 134, 0, 0, 0) := by decide +kernel
theorem cd_M_race_134 : code_ 199 134 = some (.iload_n 3, 135, 0, 0, 0) := by decide +kernel
theorem cd_M_race_135 : code_ 199 135 = some (.i2l, 136, 0, 0, 0) := by decide +kernel
theorem cd_M_race_136 : code_ 199 136 = some (.aload_n 0, 137, 0, 0, 0) := by decide +kernel
theorem cd_M_race_137 : code_ 199 137 = some (.getfield 31, 140, 8, 15, 2) := by decide +kernel
theorem cd_M_race_140 : code_ 199 140 = some (.bipush 11, 142, 0, 0, 0) := by decide +kernel
theorem cd_M_race_142 : code_ 199 142 = some (.iload 5, 144, 0, 0, 0) := by decide +kernel
theorem cd_M_race_144 : code_ 199 144 = some (.iconst 1, 145, 0, 0, 0) := by decide +kernel
theorem cd_M_race_145 : code_ 199 145 = some (.isub, 146, 0, 0, 0) := by decide +kernel
theorem cd_M_race_146 : code_ 199 146 = some (.imul, 147, 0, 0, 0) := by decide +kernel
theorem cd_M_race_147 : code_ 199 147 = some (.iload 6, 149, 0, 0, 0) := by decide +kernel
theorem cd_M_race_149 : code_ 199 149 = some (.iadd, 150, 0, 0, 0) := by decide +kernel
theorem cd_M_race_150 : code_ 199 150 = some (.laload, 151, 0, 0, 0) := by decide +kernel
theorem cd_M_race_151 : code_ 199 151 = some (.lmul, 152, 0, 0, 0) := by decide +kernel
theorem cd_M_race_152 : code_ 199 152 = some (.bipush 10, 154, 0, 0, 0) := by decide +kernel
theorem cd_M_race_154 : code_ 199 154 = some (.iload_n 3, 155, 0, 0, 0) := by decide +kernel
theorem cd_M_race_155 : code_ 199 155 = some (.isub, 156, 0, 0, 0) := by decide +kernel
theorem cd_M_race_156 : code_ 199 156 = some (.i2l, 157, 0, 0, 0) := by decide +kernel
theorem cd_M_race_157 : code_ 199 157 = some (.aload_n 0, 158, 0, 0, 0) := by decide +kernel
theorem cd_M_race_158 : code_ 199 158 = some (.getfield 31, 161, 8, 15, 2) := by decide +kernel
theorem cd_M_race_161 : code_ 199 161 = some (.bipush 11, 163, 0, 0, 0) := by decide +kernel
theorem cd_M_race_163 : code_ 199 163 = some (.iload 5, 165, 0, 0, 0) := by decide +kernel
theorem cd_M_race_165 : code_ 199 165 = some (.imul, 166, 0, 0, 0) := by decide +kernel
theorem cd_M_race_166 : code_ 199 166 = some (.iload 6, 168, 0, 0, 0) := by decide +kernel
theorem cd_M_race_168 : code_ 199 168 = some (.iadd, 169, 0, 0, 0) := by decide +kernel
theorem cd_M_race_169 : code_ 199 169 = some (.iconst 1, 170, 0, 0, 0) := by decide +kernel
theorem cd_M_race_170 : code_ 199 170 = some (.isub, 171, 0, 0, 0) := by decide +kernel
theorem cd_M_race_171 : code_ 199 171 = some (.laload, 172, 0, 0, 0) := by decide +kernel
theorem cd_M_race_172 : code_ 199 172 = some (.lmul, 173, 0, 0, 0) := by decide +kernel
theorem cd_M_race_173 : code_ 199 173 = some (.ladd, 174, 0, 0, 0) := by decide +kernel
theorem cd_M_race_174 : code_ 199 174 = some (.lastore, 175, 0, 0, 0) := by decide +kernel
theorem cd_M_race_175 : code_ 199 175 = some (.iinc 6 1, 178, 0, 0, 0) := by decide +kernel
theorem cd_M_race_178 : code_ 199 178 = some (.goto (-65), 181, 113, 0, 0) := by decide +kernel
theorem cd_M_race_181 : code_ 199 181 = some (.iinc 5 1, 184, 0, 0, 0) := by decide +kernel
theorem cd_M_race_184 : code_ 199 184 = some (.goto (-83), 187, 101, 0, 0) := by decide +kernel
theorem cd_M_race_187 : code_ 199 187 = some (.aload_n 0, 188, 0, 0, 0) := by decide +kernel
theorem cd_M_race_188 : code_ 199 188 = some (.getfield 31, 191, 8, 15, 2) := by decide +kernel
theorem cd_M_race_191 : code_ 199 191 = some (.bipush 11, 193, 0, 0, 0) := by decide +kernel
theorem cd_M_race_193 : code_ 199 193 = some (.bipush 10, 195, 0, 0, 0) := by decide +kernel
theorem cd_M_race_195 : code_ 199 195 = some (.iload_n 1, 196, 0, 0, 0) := by decide +kernel
theorem cd_M_race_196 : code_ 199 196 = some (.isub, 197, 0, 0, 0) := by decide +kernel
theorem cd_M_race_197 : code_ 199 197 = some (.imul, 198, 0, 0, 0) := by decide +kernel
theorem cd_M_race_198 : code_ 199 198 = some (.bipush 10, 200, 0, 0, 0) := by decide +kernel
theorem cd_M_race_200 : code_ 199 200 = some (.iadd, 201, 0, 0, 0) := by decide +kernel
theorem cd_M_race_201 : code_ 199 201 = some (.iload_n 2, 202, 0, 0, 0) := by decide +kernel
theorem cd_M_race_202 : code_ 199 202 = some (.isub, 203, 0, 0, 0) := by decide +kernel
theorem cd_M_race_203 : code_ 199 203 = some (.laload, 204, 0, 0, 0) := by decide +kernel
theorem cd_M_race_204 : code_ 199 204 = some (.ldc2_w 175, 207, 0, 0, 10) := by decide +kernel
theorem cd_M_race_207 : code_ 199 207 = some (.bipush 19, 209, 0, 0, 0) := by decide +kernel
theorem cd_M_race_209 : code_ 199 209 = some (.iload_n 1, 210, 0, 0, 0) := by decide +kernel
theorem cd_M_race_210 : code_ 199 210 = some (.isub, 211, 0, 0, 0) := by decide +kernel
theorem cd_M_race_211 : code_ 199 211 = some (.iload_n 2, 212, 0, 0, 0) := by decide +kernel
theorem cd_M_race_212 : code_ 199 212 = some (.isub, 213, 0, 0, 0) := by decide +kernel
theorem cd_M_race_213 : code_ 199 213 = some (.invokestatic 181, 216, 197, 0, 0) := by decide +kernel
theorem cd_M_race_216 : code_ 199 216 = some (.iload 4, 218, 0, 0, 0) := by decide +kernel
theorem cd_M_race_218 : code_ 199 218 = some (.invokestatic 177, 221, 194, 0, 0) := by decide +kernel
theorem cd_M_race_221 : code_ 199 221 = some (.lreturn, 222, 0, 0, 0) := by decide +kernel
theorem cd_M_seen_0 : code_ 200 0 = some (.iload_n 1, 1, 0, 0, 0) := by decide +kernel
theorem cd_M_seen_1 : code_ 200 1 = some (.iconst 0, 2, 0, 0, 0) := by decide +kernel
theorem cd_M_seen_2 : code_ 200 2 = some (.bipush 60, 4, 0, 0, 0) := by decide +kernel
theorem cd_M_seen_4 : code_ 200 4 = some (.invokestatic 46, 7, 146, 0, 0) := by decide +kernel
theorem cd_M_seen_7 : code_ 200 7 = some (.ifCond .ne 6, 10, 13, 0, 0) := by decide +kernel
theorem cd_M_seen_10 : code_ 200 10 = some (.bipush (-2), 12, 0, 0, 0) := by decide +kernel
theorem cd_M_seen_12 : code_ 200 12 = some (.ireturn, 13, 0, 0, 0) := by decide +kernel
theorem cd_M_seen_13 : code_ 200 13 = some (.aload_n 0, 14, 0, 0, 0) := by decide +kernel
theorem cd_M_seen_14 : code_ 200 14 = some (.getfield 187, 17, 8, 2, 0) := by decide +kernel
theorem cd_M_seen_17 : code_ 200 17 = some (.bipush 8, 19, 0, 0, 0) := by decide +kernel
theorem cd_M_seen_19 : code_ 200 19 = some (.if_icmp .ne 6, 22, 25, 0, 0) := by decide +kernel
theorem cd_M_seen_22 : code_ 200 22 = some (.bipush (-4), 24, 0, 0, 0) := by decide +kernel
theorem cd_M_seen_24 : code_ 200 24 = some (.ireturn, 25, 0, 0, 0) := by decide +kernel
theorem cd_M_seen_25 : code_ 200 25 = some (.aload_n 0, 26, 0, 0, 0) := by decide +kernel
theorem cd_M_seen_26 : code_ 200 26 = some (.getfield 16, 29, 8, 3, 2) := by decide +kernel
theorem cd_M_seen_29 : code_ 200 29 = some (.iconst 2, 30, 0, 0, 0) := by decide +kernel
theorem cd_M_seen_30 : code_ 200 30 = some (.aload_n 0, 31, 0, 0, 0) := by decide +kernel
theorem cd_M_seen_31 : code_ 200 31 = some (.getfield 187, 34, 8, 2, 0) := by decide +kernel
theorem cd_M_seen_34 : code_ 200 34 = some (.imul, 35, 0, 0, 0) := by decide +kernel
theorem cd_M_seen_35 : code_ 200 35 = some (.iload_n 1, 36, 0, 0, 0) := by decide +kernel
theorem cd_M_seen_36 : code_ 200 36 = some (.iastore, 37, 0, 0, 0) := by decide +kernel
theorem cd_M_seen_37 : code_ 200 37 = some (.aload_n 0, 38, 0, 0, 0) := by decide +kernel
theorem cd_M_seen_38 : code_ 200 38 = some (.getfield 16, 41, 8, 3, 2) := by decide +kernel
theorem cd_M_seen_41 : code_ 200 41 = some (.iconst 2, 42, 0, 0, 0) := by decide +kernel
theorem cd_M_seen_42 : code_ 200 42 = some (.aload_n 0, 43, 0, 0, 0) := by decide +kernel
theorem cd_M_seen_43 : code_ 200 43 = some (.getfield 187, 46, 8, 2, 0) := by decide +kernel
theorem cd_M_seen_46 : code_ 200 46 = some (.imul, 47, 0, 0, 0) := by decide +kernel
theorem cd_M_seen_47 : code_ 200 47 = some (.iconst 1, 48, 0, 0, 0) := by decide +kernel
theorem cd_M_seen_48 : code_ 200 48 = some (.iadd, 49, 0, 0, 0) := by decide +kernel
theorem cd_M_seen_49 : code_ 200 49 = some (.iload_n 2, 50, 0, 0, 0) := by decide +kernel
theorem cd_M_seen_50 : code_ 200 50 = some (.ifCond .eq 7, 53, 57, 0, 0) := by decide +kernel
theorem cd_M_seen_53 : code_ 200 53 = some (.iconst 1, 54, 0, 0, 0) := by decide +kernel
theorem cd_M_seen_54 : code_ 200 54 = some (.goto 4, 57, 58, 0, 0) := by decide +kernel
theorem cd_M_seen_57 : code_ 200 57 = some (.iconst 0, 58, 0, 0, 0) := by decide +kernel
theorem cd_M_seen_58 : code_ 200 58 = some (.iastore, 59, 0, 0, 0) := by decide +kernel
theorem cd_M_seen_59 : code_ 200 59 = some (.aload_n 0, 60, 0, 0, 0) := by decide +kernel
theorem cd_M_seen_60 : code_ 200 60 = some (.dup, 61, 0, 0, 0) := by decide +kernel
theorem cd_M_seen_61 : code_ 200 61 = some (.getfield 187, 64, 8, 2, 0) := by decide +kernel
theorem cd_M_seen_64 : code_ 200 64 = some (.iconst 1, 65, 0, 0, 0) := by decide +kernel
theorem cd_M_seen_65 : code_ 200 65 = some (.iadd, 66, 0, 0, 0) := by decide +kernel
theorem cd_M_seen_66 : code_ 200 66 = some (.putfield 187, 69, 8, 2, 0) := by decide +kernel
theorem cd_M_seen_69 : code_ 200 69 = some (.aload_n 0, 70, 0, 0, 0) := by decide +kernel
theorem cd_M_seen_70 : code_ 200 70 = some (.getfield 187, 73, 8, 2, 0) := by decide +kernel
theorem cd_M_seen_73 : code_ 200 73 = some (.ireturn, 74, 0, 0, 0) := by decide +kernel
theorem cd_M_forget_0 : code_ 201 0 = some (.aload_n 0, 1, 0, 0, 0) := by decide +kernel
theorem cd_M_forget_1 : code_ 201 1 = some (.getfield 187, 4, 8, 2, 0) := by decide +kernel
theorem cd_M_forget_4 : code_ 201 4 = some (.istore_n 1, 5, 0, 0, 0) := by decide +kernel
theorem cd_M_forget_5 : code_ 201 5 = some (.aload_n 0, 6, 0, 0, 0) := by decide +kernel
theorem cd_M_forget_6 : code_ 201 6 = some (.iconst 0, 7, 0, 0, 0) := by decide +kernel
theorem cd_M_forget_7 : code_ 201 7 = some (.putfield 187, 10, 8, 2, 0) := by decide +kernel
theorem cd_M_forget_10 : code_ 201 10 = some (.iload_n 1, 11, 0, 0, 0) := by decide +kernel
theorem cd_M_forget_11 : code_ 201 11 = some (.ireturn, 12, 0, 0, 0) := by decide +kernel
theorem cd_M_sideAt_0 : code_ 202 0 = some (.iload_n 0, 1, 0, 0, 0) := by decide +kernel
theorem cd_M_sideAt_1 : code_ 202 1 = some (.bipush 16, 3, 0, 0, 0) := by decide +kernel
theorem cd_M_sideAt_3 : code_ 202 3 = some (.irem, 4, 0, 0, 0) := by decide +kernel
theorem cd_M_sideAt_4 : code_ 202 4 = some (.iload_n 1, 5, 0, 0, 0) := by decide +kernel
theorem cd_M_sideAt_5 : code_ 202 5 = some (.iload_n 0, 6, 0, 0, 0) := by decide +kernel
theorem cd_M_sideAt_6 : code_ 202 6 = some (.bipush 16, 8, 0, 0, 0) := by decide +kernel
theorem cd_M_sideAt_8 : code_ 202 8 = some (.idiv, 9, 0, 0, 0) := by decide +kernel
theorem cd_M_sideAt_9 : code_ 202 9 = some (.irem, 10, 0, 0, 0) := by decide +kernel
theorem cd_M_sideAt_10 : code_ 202 10 = some (.ishr, 11, 0, 0, 0) := by decide +kernel
theorem cd_M_sideAt_11 : code_ 202 11 = some (.iconst 1, 12, 0, 0, 0) := by decide +kernel
theorem cd_M_sideAt_12 : code_ 202 12 = some (.iand, 13, 0, 0, 0) := by decide +kernel
theorem cd_M_sideAt_13 : code_ 202 13 = some (.ireturn, 14, 0, 0, 0) := by decide +kernel
theorem cd_M_isFit_0 : code_ 203 0 = some (.iload_n 1, 1, 0, 0, 0) := by decide +kernel
theorem cd_M_isFit_1 : code_ 203 1 = some (.bipush 16, 3, 0, 0, 0) := by decide +kernel
theorem cd_M_isFit_3 : code_ 203 3 = some (.irem, 4, 0, 0, 0) := by decide +kernel
theorem cd_M_isFit_4 : code_ 203 4 = some (.iconst 1, 5, 0, 0, 0) := by decide +kernel
theorem cd_M_isFit_5 : code_ 203 5 = some (.iload_n 1, 6, 0, 0, 0) := by decide +kernel
theorem cd_M_isFit_6 : code_ 203 6 = some (.bipush 16, 8, 0, 0, 0) := by decide +kernel
theorem cd_M_isFit_8 : code_ 203 8 = some (.idiv, 9, 0, 0, 0) := by decide +kernel
theorem cd_M_isFit_9 : code_ 203 9 = some (.ishl, 10, 0, 0, 0) := by decide +kernel
theorem cd_M_isFit_10 : code_ 203 10 = some (.if_icmp .ge 7, 13, 17, 0, 0) := by decide +kernel
theorem cd_M_isFit_13 : code_ 203 13 = some (.iconst 1, 14, 0, 0, 0) := by decide +kernel
theorem cd_M_isFit_14 : code_ 203 14 = some (.goto 4, 17, 18, 0, 0) := by decide +kernel
theorem cd_M_isFit_17 : code_ 203 17 = some (.iconst 0, 18, 0, 0, 0) := by decide +kernel
theorem cd_M_isFit_18 : code_ 203 18 = some (.istore_n 2, 19, 0, 0, 0) := by decide +kernel
theorem cd_M_isFit_19 : code_ 203 19 = some (.iconst 0, 20, 0, 0, 0) := by decide +kernel
theorem cd_M_isFit_20 : code_ 203 20 = some (.istore_n 3, 21, 0, 0, 0) := by decide +kernel
theorem cd_M_isFit_21 : code_ 203 21 = some (.iload_n 3, 22, 0, 0, 0) := by decide +kernel
theorem cd_M_isFit_22 : code_ 203 22 = some (.aload_n 0, 23, 0, 0, 0) := by decide +kernel
theorem cd_M_isFit_23 : code_ 203 23 = some (.getfield 187, 26, 8, 2, 0) := by decide +kernel
theorem cd_M_isFit_26 : code_ 203 26 = some (.if_icmp .ge 44, 29, 70, 0, 0) := by decide +kernel
theorem cd_M_isFit_29 : code_ 203 29 = some (.iload_n 2, 30, 0, 0, 0) := by decide +kernel
theorem cd_M_isFit_30 : code_ 203 30 = some (.ifCond .eq 40, 33, 70, 0, 0) := by decide +kernel
theorem cd_M_isFit_33 : code_ 203 33 = some (.iload_n 1, 34, 0, 0, 0) := by decide +kernel
theorem cd_M_isFit_34 : code_ 203 34 = some (.aload_n 0, 35, 0, 0, 0) := by decide +kernel
theorem cd_M_isFit_35 : code_ 203 35 = some (.getfield 16, 38, 8, 3, 2) := by decide +kernel
theorem cd_M_isFit_38 : code_ 203 38 = some (.iconst 2, 39, 0, 0, 0) := by decide +kernel
theorem cd_M_isFit_39 : code_ 203 39 = some (.iload_n 3, 40, 0, 0, 0) := by decide +kernel
theorem cd_M_isFit_40 : code_ 203 40 = some (.imul, 41, 0, 0, 0) := by decide +kernel
theorem cd_M_isFit_41 : code_ 203 41 = some (.iaload, 42, 0, 0, 0) := by decide +kernel
theorem cd_M_isFit_42 : code_ 203 42 = some (.invokestatic 190, 45, 202, 0, 0) := by decide +kernel
theorem cd_M_isFit_45 : code_ 203 45 = some (.aload_n 0, 46, 0, 0, 0) := by decide +kernel
theorem cd_M_isFit_46 : code_ 203 46 = some (.getfield 16, 49, 8, 3, 2) := by decide +kernel
theorem cd_M_isFit_49 : code_ 203 49 = some (.iconst 2, 50, 0, 0, 0) := by decide +kernel
theorem cd_M_isFit_50 : code_ 203 50 = some (.iload_n 3, 51, 0, 0, 0) := by decide +kernel
theorem cd_M_isFit_51 : code_ 203 51 = some (.imul, 52, 0, 0, 0) := by decide +kernel
theorem cd_M_isFit_52 : code_ 203 52 = some (.iconst 1, 53, 0, 0, 0) := by decide +kernel
theorem cd_M_isFit_53 : code_ 203 53 = some (.iadd, 54, 0, 0, 0) := by decide +kernel
theorem cd_M_isFit_54 : code_ 203 54 = some (.iaload, 55, 0, 0, 0) := by decide +kernel
theorem cd_M_isFit_55 : code_ 203 55 = some (.if_icmp .ne 7, 58, 62, 0, 0) := by decide +kernel
theorem cd_M_isFit_58 : code_ 203 58 = some (.iconst 1, 59, 0, 0, 0) := by decide +kernel
theorem cd_M_isFit_59 : code_ 203 59 = some (.goto 4, 62, 63, 0, 0) := by decide +kernel
theorem cd_M_isFit_62 : code_ 203 62 = some (.iconst 0, 63, 0, 0, 0) := by decide +kernel
theorem cd_M_isFit_63 : code_ 203 63 = some (.istore_n 2, 64, 0, 0, 0) := by decide +kernel
theorem cd_M_isFit_64 : code_ 203 64 = some (.iinc 3 1, 67, 0, 0, 0) := by decide +kernel
theorem cd_M_isFit_67 : code_ 203 67 = some (.goto (-46), 70, 21, 0, 0) := by decide +kernel
theorem cd_M_isFit_70 : code_ 203 70 = some (.iload_n 2, 71, 0, 0, 0) := by decide +kernel
theorem cd_M_isFit_71 : code_ 203 71 = some (.ireturn, 72, 0, 0, 0) := by decide +kernel
theorem cd_M_fits_0 : code_ 204 0 = some (.iconst 0, 1, 0, 0, 0) := by decide +kernel
theorem cd_M_fits_1 : code_ 204 1 = some (.istore_n 2, 2, 0, 0, 0) := by decide +kernel
theorem cd_M_fits_2 : code_ 204 2 = some (.bipush 16, 4, 0, 0, 0) := by decide +kernel
theorem cd_M_fits_4 : code_ 204 4 = some (.istore_n 3, 5, 0, 0, 0) := by decide +kernel
theorem cd_M_fits_5 : code_ 204 5 = some (.iload_n 3, 6, 0, 0, 0) := by decide +kernel
theorem cd_M_fits_6 : code_ 204 6 = some (.bipush 80, 8, 0, 0, 0) := by decide +kernel
theorem cd_M_fits_8 : code_ 204 8 = some (.if_icmp .ge 27, 11, 35, 0, 0) := by decide +kernel
theorem cd_M_fits_11 : code_ 204 11 = some (.aload_n 0, 12, 0, 0, 0) := by decide +kernel
theorem cd_M_fits_12 : code_ 204 12 = some (.iload_n 3, 13, 0, 0, 0) := by decide +kernel
theorem cd_M_fits_13 : code_ 204 13 = some (.invokevirtual 193, 16, 203, 1, 0) := by decide +kernel
theorem cd_M_fits_16 : code_ 204 16 = some (.ifCond .eq 13, 19, 29, 0, 0) := by decide +kernel
theorem cd_M_fits_19 : code_ 204 19 = some (.iload_n 2, 20, 0, 0, 0) := by decide +kernel
theorem cd_M_fits_20 : code_ 204 20 = some (.iload_n 1, 21, 0, 0, 0) := by decide +kernel
theorem cd_M_fits_21 : code_ 204 21 = some (.if_icmp .ne 5, 24, 26, 0, 0) := by decide +kernel
theorem cd_M_fits_24 : code_ 204 24 = some (.iload_n 3, 25, 0, 0, 0) := by decide +kernel
theorem cd_M_fits_25 : code_ 204 25 = some (.ireturn, 26, 0, 0, 0) := by decide +kernel
theorem cd_M_fits_26 : code_ 204 26 = some (.iinc 2 1, 29, 0, 0, 0) := by decide +kernel
theorem cd_M_fits_29 : code_ 204 29 = some (.iinc 3 1, 32, 0, 0, 0) := by decide +kernel
theorem cd_M_fits_32 : code_ 204 32 = some (.goto (-27), 35, 5, 0, 0) := by decide +kernel
theorem cd_M_fits_35 : code_ 204 35 = some (.iload_n 1, 36, 0, 0, 0) := by decide +kernel
theorem cd_M_fits_36 : code_ 204 36 = some (.iconst (-1), 37, 0, 0, 0) := by decide +kernel
theorem cd_M_fits_37 : code_ 204 37 = some (.if_icmp .ne 7, 40, 44, 0, 0) := by decide +kernel
theorem cd_M_fits_40 : code_ 204 40 = some (.iload_n 2, 41, 0, 0, 0) := by decide +kernel
theorem cd_M_fits_41 : code_ 204 41 = some (.goto 5, 44, 46, 0, 0) := by decide +kernel
theorem cd_M_fits_44 : code_ 204 44 = some (.bipush (-6), 46, 0, 0, 0) := by decide +kernel
theorem cd_M_fits_46 : code_ 204 46 = some (.ireturn, 47, 0, 0, 0) := by decide +kernel
theorem cd_M_ask_0 : code_ 205 0 = some (.iload_n 1, 1, 0, 0, 0) := by decide +kernel
theorem cd_M_ask_1 : code_ 205 1 = some (.iconst 0, 2, 0, 0, 0) := by decide +kernel
theorem cd_M_ask_2 : code_ 205 2 = some (.iconst 1, 3, 0, 0, 0) := by decide +kernel
theorem cd_M_ask_3 : code_ 205 3 = some (.invokestatic 46, 6, 146, 0, 0) := by decide +kernel
theorem cd_M_ask_6 : code_ 205 6 = some (.ifCond .ne 6, 9, 12, 0, 0) := by decide +kernel
theorem cd_M_ask_9 : code_ 205 9 = some (.bipush (-2), 11, 0, 0, 0) := by decide +kernel
theorem cd_M_ask_11 : code_ 205 11 = some (.ireturn, 12, 0, 0, 0) := by decide +kernel
theorem cd_M_ask_12 : code_ 205 12 = some (.bipush (-6), 14, 0, 0, 0) := by decide +kernel
theorem cd_M_ask_14 : code_ 205 14 = some (.istore_n 2, 15, 0, 0, 0) := by decide +kernel
theorem cd_M_ask_15 : code_ 205 15 = some (.ldc 165, 17, 0, 0, 1000000) := by decide +kernel
theorem cd_M_ask_17 : code_ 205 17 = some (.istore_n 3, 18, 0, 0, 0) := by decide +kernel
theorem cd_M_ask_18 : code_ 205 18 = some (.iconst 0, 19, 0, 0, 0) := by decide +kernel
theorem cd_M_ask_19 : code_ 205 19 = some (.istore 4, 21, 0, 0, 0) := by decide +kernel
theorem cd_M_ask_21 : code_ 205 21 = some (.iload 4, 23, 0, 0, 0) := by decide +kernel
theorem cd_M_ask_23 : code_ 205 23 = some (.bipush 61, 25, 0, 0, 0) := by decide +kernel
theorem cd_M_ask_25 : code_ 205 25 = some (.if_icmp .ge 120, 28, 145, 0, 0) := by decide +kernel
theorem cd_M_ask_28 : code_ 205 28 = some (.iconst 0, 29, 0, 0, 0) := by decide +kernel
theorem cd_M_ask_29 : code_ 205 29 = some (.istore 5, 31, 0, 0, 0) := by decide +kernel
theorem cd_M_ask_31 : code_ 205 31 = some (.iconst 0, 32, 0, 0, 0) := by decide +kernel
theorem cd_M_ask_32 : code_ 205 32 = some (.istore 6, 34, 0, 0, 0) := by decide +kernel
theorem cd_M_ask_34 : code_ 205 34 = some (.bipush 16, 36, 0, 0, 0) := by decide +kernel
theorem cd_M_ask_36 : code_ 205 36 = some (.istore 7, 38, 0, 0, 0) := by decide +kernel
theorem cd_M_ask_38 : code_ 205 38 = some (.iload 7, 40, 0, 0, 0) := by decide +kernel
theorem cd_M_ask_40 : code_ 205 40 = some (.bipush 80, 42, 0, 0, 0) := by decide +kernel
theorem cd_M_ask_42 : code_ 205 42 = some (.if_icmp .ge 33, 45, 75, 0, 0) := by decide +kernel
theorem cd_M_ask_45 : code_ 205 45 = some (.aload_n 0, 46, 0, 0, 0) := by decide +kernel
theorem cd_M_ask_46 : code_ 205 46 = some (.iload 7, 48, 0, 0, 0) := by decide +kernel
theorem cd_M_ask_48 : code_ 205 48 = some (.invokevirtual 193, 51, 203, 1, 0) := by decide +kernel
theorem cd_M_ask_51 : code_ 205 51 = some (.ifCond .eq 18, 54, 69, 0, 0) := by decide +kernel
theorem cd_M_ask_54 : code_ 205 54 = some (.iinc 5 1, 57, 0, 0, 0) := by decide +kernel
theorem cd_M_ask_57 : code_ 205 57 = some (.iload 6, 59, 0, 0, 0) := by decide +kernel
theorem cd_M_ask_59 : code_ 205 59 = some (.iload 7, 61, 0, 0, 0) := by decide +kernel
theorem cd_M_ask_61 : code_ 205 61 = some (.iload 4, 63, 0, 0, 0) := by decide +kernel
theorem cd_M_ask_63 : code_ 205 63 = some (.invokestatic 190, 66, 202, 0, 0) := by decide +kernel
theorem cd_M_ask_66 : code_ 205 66 = some (.iadd, 67, 0, 0, 0) := by decide +kernel
theorem cd_M_ask_67 : code_ 205 67 = some (.istore 6, 69, 0, 0, 0) := by decide +kernel
theorem cd_M_ask_69 : code_ 205 69 = some (.iinc 7 1, 72, 0, 0, 0) := by decide +kernel
theorem cd_M_ask_72 : code_ 205 72 = some (.goto (-34), 75, 38, 0, 0) := by decide +kernel
theorem cd_M_ask_75 : code_ 205 75 = some (.iload 6, 77, 0, 0, 0) := by decide +kernel
theorem cd_M_ask_77 : code_ 205 77 = some (.iload 5, 79, 0, 0, 0) := by decide +kernel
theorem cd_M_ask_79 : code_ 205 79 = some (.iload 6, 81, 0, 0, 0) := by decide +kernel
theorem cd_M_ask_81 : code_ 205 81 = some (.isub, 82, 0, 0, 0) := by decide +kernel
theorem cd_M_ask_82 : code_ 205 82 = some (.if_icmp .le 8, 85, 90, 0, 0) := by decide +kernel
theorem cd_M_ask_85 : code_ 205 85 = some (.iload 6, 87, 0, 0, 0) := by decide +kernel
theorem cd_M_ask_87 : code_ 205 87 = some (.goto 8, 90, 95, 0, 0) := by decide +kernel
theorem cd_M_ask_90 : code_ 205 90 = some (.iload 5, 92, 0, 0, 0) := by decide +kernel
theorem cd_M_ask_92 : code_ 205 92 = some (.iload 6, 94, 0, 0, 0) := by decide +kernel
theorem cd_M_ask_94 : code_ 205 94 = some (.isub, 95, 0, 0, 0) := by decide +kernel
theorem cd_M_ask_95 : code_ 205 95 = some (.istore 7, 97, 0, 0, 0) := by decide +kernel
theorem cd_M_ask_97 : code_ 205 97 = some (.iload 5, 99, 0, 0, 0) := by decide +kernel
theorem cd_M_ask_99 : code_ 205 99 = some (.ifCond .le 13, 102, 112, 0, 0) := by decide +kernel
theorem cd_M_ask_102 : code_ 205 102 = some (.iload 7, 104, 0, 0, 0) := by decide +kernel
theorem cd_M_ask_104 : code_ 205 104 = some (.iload_n 3, 105, 0, 0, 0) := by decide +kernel
theorem cd_M_ask_105 : code_ 205 105 = some (.if_icmp .ge 7, 108, 112, 0, 0) := by decide +kernel
theorem cd_M_ask_108 : code_ 205 108 = some (.iconst 1, 109, 0, 0, 0) := by decide +kernel
theorem cd_M_ask_109 : code_ 205 109 = some (.goto 4, 112, 113, 0, 0) := by decide +kernel
theorem cd_M_ask_112 : code_ 205 112 = some (.iconst 0, 113, 0, 0, 0) := by decide +kernel
theorem cd_M_ask_113 : code_ 205 113 = some (.istore 8, 115, 0, 0, 0) := by decide +kernel
theorem cd_M_ask_115 : code_ 205 115 = some (.iload 8, 117, 0, 0, 0) := by decide +kernel
theorem cd_M_ask_117 : code_ 205 117 = some (.ifCond .eq 8, 120, 125, 0, 0) := by decide +kernel
theorem cd_M_ask_120 : code_ 205 120 = some (.iload 4, 122, 0, 0, 0) := by decide +kernel
theorem cd_M_ask_122 : code_ 205 122 = some (.goto 4, 125, 126, 0, 0) := by decide +kernel
theorem cd_M_ask_125 : code_ 205 125 = some (.iload_n 2, 126, 0, 0, 0) := by decide +kernel
theorem cd_M_ask_126 : code_ 205 126 = some (.istore_n 2, 127, 0, 0, 0) := by decide +kernel
theorem cd_M_ask_127 : code_ 205 127 = some (.iload 8, 129, 0, 0, 0) := by decide +kernel
theorem cd_M_ask_129 : code_ 205 129 = some (.ifCond .eq 8, 132, 137, 0, 0) := by decide +kernel
theorem cd_M_ask_132 : code_ 205 132 = some (.iload 7, 134, 0, 0, 0) := by decide +kernel
theorem cd_M_ask_134 : code_ 205 134 = some (.goto 4, 137, 138, 0, 0) := by decide +kernel
theorem cd_M_ask_137 : code_ 205 137 = some (.iload_n 3, 138, 0, 0, 0) := by decide +kernel
theorem cd_M_ask_138 : code_ 205 138 = some (.istore_n 3, 139, 0, 0, 0) := by decide +kernel
theorem cd_M_ask_139 : code_ 205 139 = some (.iinc 4 1, 142, 0, 0, 0) := by decide +kernel
theorem cd_M_ask_142 : code_ 205 142 = some (.goto (-121), 145, 21, 0, 0) := by decide +kernel
theorem cd_M_ask_145 : code_ 205 145 = some (.iload_n 2, 146, 0, 0, 0) := by decide +kernel
theorem cd_M_ask_146 : code_ 205 146 = some (.ifCond .lt 7, 149, 153, 0, 0) := by decide +kernel
theorem cd_M_ask_149 : code_ 205 149 = some (.iload_n 1, 150, 0, 0, 0) := by decide +kernel
theorem cd_M_ask_150 : code_ 205 150 = some (.ifCond .ne 7, 153, 157, 0, 0) := by decide +kernel
theorem cd_M_ask_153 : code_ 205 153 = some (.iload_n 2, 154, 0, 0, 0) := by decide +kernel
theorem cd_M_ask_154 : code_ 205 154 = some (.goto 4, 157, 158, 0, 0) := by decide +kernel
theorem cd_M_ask_157 : code_ 205 157 = some (.iload_n 3, 158, 0, 0, 0) := by decide +kernel
theorem cd_M_ask_158 : code_ 205 158 = some (.ireturn, 159, 0, 0, 0) := by decide +kernel
theorem cd_M_year_0 : code_ 206 0 = some (.iload_n 1, 1, 0, 0, 0) := by decide +kernel
theorem cd_M_year_1 : code_ 206 1 = some (.iconst 0, 2, 0, 0, 0) := by decide +kernel
theorem cd_M_year_2 : code_ 206 2 = some (.sipush 9999, 5, 0, 0, 0) := by decide +kernel
theorem cd_M_year_5 : code_ 206 5 = some (.invokestatic 46, 8, 146, 0, 0) := by decide +kernel
theorem cd_M_year_8 : code_ 206 8 = some (.ifCond .eq 22, 11, 30, 0, 0) := by decide +kernel
theorem cd_M_year_11 : code_ 206 11 = some (.iload_n 2, 12, 0, 0, 0) := by decide +kernel
theorem cd_M_year_12 : code_ 206 12 = some (.iconst 1, 13, 0, 0, 0) := by decide +kernel
theorem cd_M_year_13 : code_ 206 13 = some (.bipush 99, 15, 0, 0, 0) := by decide +kernel
theorem cd_M_year_15 : code_ 206 15 = some (.invokestatic 46, 18, 146, 0, 0) := by decide +kernel
theorem cd_M_year_18 : code_ 206 18 = some (.ifCond .eq 12, 21, 30, 0, 0) := by decide +kernel
theorem cd_M_year_21 : code_ 206 21 = some (.iload_n 3, 22, 0, 0, 0) := by decide +kernel
theorem cd_M_year_22 : code_ 206 22 = some (.iconst 0, 23, 0, 0, 0) := by decide +kernel
theorem cd_M_year_23 : code_ 206 23 = some (.iconst 2, 24, 0, 0, 0) := by decide +kernel
theorem cd_M_year_24 : code_ 206 24 = some (.invokestatic 46, 27, 146, 0, 0) := by decide +kernel
theorem cd_M_year_27 : code_ 206 27 = some (.ifCond .ne 6, 30, 33, 0, 0) := by decide +kernel
theorem cd_M_year_30 : code_ 206 30 = some (.bipush (-2), 32, 0, 0, 0) := by decide +kernel
theorem cd_M_year_32 : code_ 206 32 = some (.ireturn, 33, 0, 0, 0) := by decide +kernel
theorem cd_M_year_33 : code_ 206 33 = some (.aload_n 0, 34, 0, 0, 0) := by decide +kernel
theorem cd_M_year_34 : code_ 206 34 = some (.invokevirtual 66, 37, 169, 1, 0) := by decide +kernel
theorem cd_M_year_37 : code_ 206 37 = some (.iload_n 1, 38, 0, 0, 0) := by decide +kernel
theorem cd_M_year_38 : code_ 206 38 = some (.istore 4, 40, 0, 0, 0) := by decide +kernel
theorem cd_M_year_40 : code_ 206 40 = some (.iconst 0, 41, 0, 0, 0) := by decide +kernel
theorem cd_M_year_41 : code_ 206 41 = some (.istore 5, 43, 0, 0, 0) := by decide +kernel
theorem cd_M_year_43 : code_ 206 43 = some (.iload 5, 45, 0, 0, 0) := by decide +kernel
theorem cd_M_year_45 : code_ 206 45 = some (.iload_n 2, 46, 0, 0, 0) := by decide +kernel
theorem cd_M_year_46 : code_ 206 46 = some (.if_icmp .ge 232, 49, 278, 0, 0) := by decide +kernel
theorem cd_M_year_49 : code_ 206 49 = some (.bipush 75, 51, 0, 0, 0) := by decide +kernel
theorem cd_M_year_51 : code_ 206 51 = some (.iload 4, 53, 0, 0, 0) := by decide +kernel
theorem cd_M_year_53 : code_ 206 53 = some (.imul, 54, 0, 0, 0) := by decide +kernel
theorem cd_M_year_54 : code_ 206 54 = some (.bipush 74, 56, 0, 0, 0) := by decide +kernel
theorem cd_M_year_56 : code_ 206 56 = some (.iadd, 57, 0, 0, 0) := by decide +kernel
theorem cd_M_year_57 : code_ 206 57 = some (.ldc 196, 59, 0, 0, 65537) := by decide +kernel
theorem cd_M_year_59 : code_ 206 59 = some (.irem, 60, 0, 0, 0) := by decide +kernel
theorem cd_M_year_60 : code_ 206 60 = some (.istore 4, 62, 0, 0, 0) := by decide +kernel
theorem cd_M_year_62 : code_ 206 62 = some (.iload 4, 64, 0, 0, 0) := by decide +kernel
theorem cd_M_year_64 : code_ 206 64 = some (.bipush 8, 66, 0, 0, 0) := by decide +kernel
theorem cd_M_year_66 : code_ 206 66 = some (.irem, 67, 0, 0, 0) := by decide +kernel
theorem cd_M_year_67 : code_ 206 67 = some (.istore 6, 69, 0, 0, 0) := by decide +kernel
theorem cd_M_year_69 : code_ 206 69 = some (.iload 4, 71, 0, 0, 0) := by decide +kernel
theorem cd_M_year_71 : code_ 206 71 = some (.bipush 64, 73, 0, 0, 0) := by decide +kernel
theorem cd_M_year_73 : code_ 206 73 = some (.idiv, 74, 0, 0, 0) := by decide +kernel
theorem cd_M_year_74 : code_ 206 74 = some (.istore 7, 76, 0, 0, 0) := by decide +kernel
theorem cd_M_year_76 : code_ 206 76 = some (.iload 4, 78, 0, 0, 0) := by decide +kernel
theorem cd_M_year_78 : code_ 206 78 = some (.bipush 8, 80, 0, 0, 0) := by decide +kernel
theorem cd_M_year_80 : code_ 206 80 = some (.idiv, 81, 0, 0, 0) := by decide +kernel
theorem cd_M_year_81 : code_ 206 81 = some (.bipush 8, 83, 0, 0, 0) := by decide +kernel
theorem cd_M_year_83 : code_ 206 83 = some (.irem, 84, 0, 0, 0) := by decide +kernel
theorem cd_M_year_84 : code_ 206 84 = some (.tableswitch 157 0 6 #[44, 57, 70, 90, 110, 125, 138], 128, 0, 0, 0) := by decide +kernel
theorem cd_M_year_128 : code_ 206 128 = some (.aload_n 0, 129, 0, 0, 0) := by decide +kernel
theorem cd_M_year_129 : code_ 206 129 = some (.aload_n 0, 130, 0, 0, 0) := by decide +kernel
theorem cd_M_year_130 : code_ 206 130 = some (.iload 6, 132, 0, 0, 0) := by decide +kernel
theorem cd_M_year_132 : code_ 206 132 = some (.invokevirtual 120, 135, 171, 1, 0) := by decide +kernel
theorem cd_M_year_135 : code_ 206 135 = some (.putfield 153, 138, 8, 9, 0) := by decide +kernel
theorem cd_M_year_138 : code_ 206 138 = some (.goto 134, 141, 272, 0, 0) := by decide +kernel
theorem cd_M_year_141 : code_ 206 141 = some (.aload_n 0, 142, 0, 0, 0) := by decide +kernel
theorem cd_M_year_142 : code_ 206 142 = some (.aload_n 0, 143, 0, 0, 0) := by decide +kernel
theorem cd_M_year_143 : code_ 206 143 = some (.iload 6, 145, 0, 0, 0) := by decide +kernel
theorem cd_M_year_145 : code_ 206 145 = some (.invokevirtual 123, 148, 172, 1, 0) := by decide +kernel
theorem cd_M_year_148 : code_ 206 148 = some (.putfield 153, 151, 8, 9, 0) := by decide +kernel
theorem cd_M_year_151 : code_ 206 151 = some (.goto 121, 154, 272, 0, 0) := by decide +kernel
theorem cd_M_year_154 : code_ 206 154 = some (.aload_n 0, 155, 0, 0, 0) := by decide +kernel
theorem cd_M_year_155 : code_ 206 155 = some (.aload_n 0, 156, 0, 0, 0) := by decide +kernel
theorem cd_M_year_156 : code_ 206 156 = some (.iload 6, 158, 0, 0, 0) := by decide +kernel
theorem cd_M_year_158 : code_ 206 158 = some (.iconst (-1), 159, 0, 0, 0) := by decide +kernel
theorem cd_M_year_159 : code_ 206 159 = some (.iload 7, 161, 0, 0, 0) := by decide +kernel
theorem cd_M_year_161 : code_ 206 161 = some (.bipush 9, 163, 0, 0, 0) := by decide +kernel
theorem cd_M_year_163 : code_ 206 163 = some (.irem, 164, 0, 0, 0) := by decide +kernel
theorem cd_M_year_164 : code_ 206 164 = some (.isub, 165, 0, 0, 0) := by decide +kernel
theorem cd_M_year_165 : code_ 206 165 = some (.invokevirtual 126, 168, 173, 1, 0) := by decide +kernel
theorem cd_M_year_168 : code_ 206 168 = some (.putfield 153, 171, 8, 9, 0) := by decide +kernel
theorem cd_M_year_171 : code_ 206 171 = some (.goto 101, 174, 272, 0, 0) := by decide +kernel
theorem cd_M_year_174 : code_ 206 174 = some (.aload_n 0, 175, 0, 0, 0) := by decide +kernel
theorem cd_M_year_175 : code_ 206 175 = some (.aload_n 0, 176, 0, 0, 0) := by decide +kernel
theorem cd_M_year_176 : code_ 206 176 = some (.iload 6, 178, 0, 0, 0) := by decide +kernel
theorem cd_M_year_178 : code_ 206 178 = some (.iconst 1, 179, 0, 0, 0) := by decide +kernel
theorem cd_M_year_179 : code_ 206 179 = some (.iload 7, 181, 0, 0, 0) := by decide +kernel
theorem cd_M_year_181 : code_ 206 181 = some (.bipush 9, 183, 0, 0, 0) := by decide +kernel
theorem cd_M_year_183 : code_ 206 183 = some (.irem, 184, 0, 0, 0) := by decide +kernel
theorem cd_M_year_184 : code_ 206 184 = some (.iadd, 185, 0, 0, 0) := by decide +kernel
theorem cd_M_year_185 : code_ 206 185 = some (.invokevirtual 126, 188, 173, 1, 0) := by decide +kernel
theorem cd_M_year_188 : code_ 206 188 = some (.putfield 153, 191, 8, 9, 0) := by decide +kernel
theorem cd_M_year_191 : code_ 206 191 = some (.goto 81, 194, 272, 0, 0) := by decide +kernel
theorem cd_M_year_194 : code_ 206 194 = some (.aload_n 0, 195, 0, 0, 0) := by decide +kernel
theorem cd_M_year_195 : code_ 206 195 = some (.aload_n 0, 196, 0, 0, 0) := by decide +kernel
theorem cd_M_year_196 : code_ 206 196 = some (.iload 7, 198, 0, 0, 0) := by decide +kernel
theorem cd_M_year_198 : code_ 206 198 = some (.iconst 5, 199, 0, 0, 0) := by decide +kernel
theorem cd_M_year_199 : code_ 206 199 = some (.irem, 200, 0, 0, 0) := by decide +kernel
theorem cd_M_year_200 : code_ 206 200 = some (.invokevirtual 132, 203, 175, 1, 0) := by decide +kernel
theorem cd_M_year_203 : code_ 206 203 = some (.putfield 153, 206, 8, 9, 0) := by decide +kernel
theorem cd_M_year_206 : code_ 206 206 = some (.goto 66, 209, 272, 0, 0) := by decide +kernel
theorem cd_M_year_209 : code_ 206 209 = some (.aload_n 0, 210, 0, 0, 0) := by decide +kernel
theorem cd_M_year_210 : code_ 206 210 = some (.aload_n 0, 211, 0, 0, 0) := by decide +kernel
theorem cd_M_year_211 : code_ 206 211 = some (.iload 6, 213, 0, 0, 0) := by decide +kernel
theorem cd_M_year_213 : code_ 206 213 = some (.invokevirtual 135, 216, 176, 1, 0) := by decide +kernel
theorem cd_M_year_216 : code_ 206 216 = some (.putfield 153, 219, 8, 9, 0) := by decide +kernel
theorem cd_M_year_219 : code_ 206 219 = some (.goto 53, 222, 272, 0, 0) := by decide +kernel
theorem cd_M_year_222 : code_ 206 222 = some (.aload_n 0, 223, 0, 0, 0) := by decide +kernel
theorem cd_M_year_223 : code_ 206 223 = some (.aload_n 0, 224, 0, 0, 0) := by decide +kernel
theorem cd_M_year_224 : code_ 206 224 = some (.iload 7, 226, 0, 0, 0) := by decide +kernel
theorem cd_M_year_226 : code_ 206 226 = some (.bipush 19, 228, 0, 0, 0) := by decide +kernel
theorem cd_M_year_228 : code_ 206 228 = some (.irem, 229, 0, 0, 0) := by decide +kernel
theorem cd_M_year_229 : code_ 206 229 = some (.bipush 9, 231, 0, 0, 0) := by decide +kernel
theorem cd_M_year_231 : code_ 206 231 = some (.isub, 232, 0, 0, 0) := by decide +kernel
theorem cd_M_year_232 : code_ 206 232 = some (.invokevirtual 138, 235, 177, 1, 0) := by decide +kernel
theorem cd_M_year_235 : code_ 206 235 = some (.putfield 153, 238, 8, 9, 0) := by decide +kernel
theorem cd_M_year_238 : code_ 206 238 = some (.goto 34, 241, 272, 0, 0) := by decide +kernel
theorem cd_M_year_241 : code_ 206 241 = some (.aload_n 0, 242, 0, 0, 0) := by decide +kernel
theorem cd_M_year_242 : code_ 206 242 = some (.aload_n 0, 243, 0, 0, 0) := by decide +kernel
theorem cd_M_year_243 : code_ 206 243 = some (.getfield 13, 246, 8, 1, 2) := by decide +kernel
theorem cd_M_year_246 : code_ 206 246 = some (.bipush 16, 248, 0, 0, 0) := by decide +kernel
theorem cd_M_year_248 : code_ 206 248 = some (.iaload, 249, 0, 0, 0) := by decide +kernel
theorem cd_M_year_249 : code_ 206 249 = some (.ifCond .ge 16, 252, 265, 0, 0) := by decide +kernel
theorem cd_M_year_252 : code_ 206 252 = some (.aload_n 0, 253, 0, 0, 0) := by decide +kernel
theorem cd_M_year_253 : code_ 206 253 = some (.iload 6, 255, 0, 0, 0) := by decide +kernel
theorem cd_M_year_255 : code_ 206 255 = some (.iload 7, 257, 0, 0, 0) := by decide +kernel
theorem cd_M_year_257 : code_ 206 257 = some (.iconst 5, 258, 0, 0, 0) := by decide +kernel
theorem cd_M_year_258 : code_ 206 258 = some (.irem, 259, 0, 0, 0) := by decide +kernel
theorem cd_M_year_259 : code_ 206 259 = some (.invokevirtual 141, 262, 178, 1, 0) := by decide +kernel
theorem cd_M_year_262 : code_ 206 262 = some (.goto 7, 265, 269, 0, 0) := by decide +kernel
theorem cd_M_year_265 : code_ 206 265 = some (.aload_n 0, 266, 0, 0, 0) := by decide +kernel
theorem cd_M_year_266 : code_ 206 266 = some (.invokevirtual 129, 269, 179, 1, 0) := by decide +kernel
theorem cd_M_year_269 : code_ 206 269 = some (.putfield 153, 272, 8, 9, 0) := by decide +kernel
theorem cd_M_year_272 : code_ 206 272 = some (.iinc 5 1, 275, 0, 0, 0) := by decide +kernel
theorem cd_M_year_275 : code_ 206 275 = some (.goto (-232), 278, 43, 0, 0) := by decide +kernel
theorem cd_M_year_278 : code_ 206 278 = some (.iload_n 3, 279, 0, 0, 0) := by decide +kernel
theorem cd_M_year_279 : code_ 206 279 = some (.ifCond .ne 21, 282, 300, 0, 0) := by decide +kernel
theorem cd_M_year_282 : code_ 206 282 = some (.aload_n 0, 283, 0, 0, 0) := by decide +kernel
theorem cd_M_year_283 : code_ 206 283 = some (.getfield 13, 286, 8, 1, 2) := by decide +kernel
theorem cd_M_year_286 : code_ 206 286 = some (.bipush 18, 288, 0, 0, 0) := by decide +kernel
theorem cd_M_year_288 : code_ 206 288 = some (.iaload, 289, 0, 0, 0) := by decide +kernel
theorem cd_M_year_289 : code_ 206 289 = some (.aload_n 0, 290, 0, 0, 0) := by decide +kernel
theorem cd_M_year_290 : code_ 206 290 = some (.getfield 13, 293, 8, 1, 2) := by decide +kernel
theorem cd_M_year_293 : code_ 206 293 = some (.bipush 19, 295, 0, 0, 0) := by decide +kernel
theorem cd_M_year_295 : code_ 206 295 = some (.iaload, 296, 0, 0, 0) := by decide +kernel
theorem cd_M_year_296 : code_ 206 296 = some (.iadd, 297, 0, 0, 0) := by decide +kernel
theorem cd_M_year_297 : code_ 206 297 = some (.goto 25, 300, 322, 0, 0) := by decide +kernel
theorem cd_M_year_300 : code_ 206 300 = some (.iload_n 3, 301, 0, 0, 0) := by decide +kernel
theorem cd_M_year_301 : code_ 206 301 = some (.iconst 1, 302, 0, 0, 0) := by decide +kernel
theorem cd_M_year_302 : code_ 206 302 = some (.if_icmp .ne 13, 305, 315, 0, 0) := by decide +kernel
theorem cd_M_year_305 : code_ 206 305 = some (.aload_n 0, 306, 0, 0, 0) := by decide +kernel
theorem cd_M_year_306 : code_ 206 306 = some (.getfield 13, 309, 8, 1, 2) := by decide +kernel
theorem cd_M_year_309 : code_ 206 309 = some (.bipush 20, 311, 0, 0, 0) := by decide +kernel
theorem cd_M_year_311 : code_ 206 311 = some (.iaload, 312, 0, 0, 0) := by decide +kernel
theorem cd_M_year_312 : code_ 206 312 = some (.goto 10, 315, 322, 0, 0) := by decide +kernel
theorem cd_M_year_315 : code_ 206 315 = some (.aload_n 0, 316, 0, 0, 0) := by decide +kernel
theorem cd_M_year_316 : code_ 206 316 = some (.getfield 13, 319, 8, 1, 2) := by decide +kernel
theorem cd_M_year_319 : code_ 206 319 = some (.bipush 16, 321, 0, 0, 0) := by decide +kernel
theorem cd_M_year_321 : code_ 206 321 = some (.iaload, 322, 0, 0, 0) := by decide +kernel
theorem cd_M_year_322 : code_ 206 322 = some (.ireturn, 323, 0, 0, 0) := by decide +kernel
theorem cd_M_image_0 : code_ 207 0 = some (.iload_n 1, 1, 0, 0, 0) := by decide +kernel
theorem cd_M_image_1 : code_ 207 1 = some (.iconst 0, 2, 0, 0, 0) := by decide +kernel
theorem cd_M_image_2 : code_ 207 2 = some (.iconst 1, 3, 0, 0, 0) := by decide +kernel
theorem cd_M_image_3 : code_ 207 3 = some (.invokestatic 46, 6, 146, 0, 0) := by decide +kernel
theorem cd_M_image_6 : code_ 207 6 = some (.ifCond .ne 6, 9, 12, 0, 0) := by decide +kernel
theorem cd_M_image_9 : code_ 207 9 = some (.bipush (-2), 11, 0, 0, 0) := by decide +kernel
theorem cd_M_image_11 : code_ 207 11 = some (.ireturn, 12, 0, 0, 0) := by decide +kernel
theorem cd_M_image_12 : code_ 207 12 = some (.bipush 40, 14, 0, 0, 0) := by decide +kernel
theorem cd_M_image_14 : code_ 207 14 = some (.iload_n 1, 15, 0, 0, 0) := by decide +kernel
theorem cd_M_image_15 : code_ 207 15 = some (.imul, 16, 0, 0, 0) := by decide +kernel
theorem cd_M_image_16 : code_ 207 16 = some (.istore_n 2, 17, 0, 0, 0) := by decide +kernel
theorem cd_M_image_17 : code_ 207 17 = some (.iconst 0, 18, 0, 0, 0) := by decide +kernel
theorem cd_M_image_18 : code_ 207 18 = some (.istore_n 3, 19, 0, 0, 0) := by decide +kernel
theorem cd_M_image_19 : code_ 207 19 = some (.iload_n 3, 20, 0, 0, 0) := by decide +kernel
theorem cd_M_image_20 : code_ 207 20 = some (.bipush 21, 22, 0, 0, 0) := by decide +kernel
theorem cd_M_image_22 : code_ 207 22 = some (.if_icmp .ge 23, 25, 45, 0, 0) := by decide +kernel
theorem cd_M_image_25 : code_ 207 25 = some (.aload_n 0, 26, 0, 0, 0) := by decide +kernel
theorem cd_M_image_26 : code_ 207 26 = some (.getfield 35, 29, 8, 16, 2) := by decide +kernel
theorem cd_M_image_29 : code_ 207 29 = some (.iload_n 2, 30, 0, 0, 0) := by decide +kernel
theorem cd_M_image_30 : code_ 207 30 = some (.iload_n 3, 31, 0, 0, 0) := by decide +kernel
theorem cd_M_image_31 : code_ 207 31 = some (.iadd, 32, 0, 0, 0) := by decide +kernel
theorem cd_M_image_32 : code_ 207 32 = some (.aload_n 0, 33, 0, 0, 0) := by decide +kernel
theorem cd_M_image_33 : code_ 207 33 = some (.getfield 7, 36, 8, 0, 2) := by decide +kernel
theorem cd_M_image_36 : code_ 207 36 = some (.iload_n 3, 37, 0, 0, 0) := by decide +kernel
theorem cd_M_image_37 : code_ 207 37 = some (.iaload, 38, 0, 0, 0) := by decide +kernel
theorem cd_M_image_38 : code_ 207 38 = some (.iastore, 39, 0, 0, 0) := by decide +kernel
theorem cd_M_image_39 : code_ 207 39 = some (.iinc 3 1, 42, 0, 0, 0) := by decide +kernel
theorem cd_M_image_42 : code_ 207 42 = some (.goto (-23), 45, 19, 0, 0) := by decide +kernel
theorem cd_M_image_45 : code_ 207 45 = some (.iconst 0, 46, 0, 0, 0) := by decide +kernel
theorem cd_M_image_46 : code_ 207 46 = some (.istore_n 3, 47, 0, 0, 0) := by decide +kernel
theorem cd_M_image_47 : code_ 207 47 = some (.iload_n 3, 48, 0, 0, 0) := by decide +kernel
theorem cd_M_image_48 : code_ 207 48 = some (.bipush 16, 50, 0, 0, 0) := by decide +kernel
theorem cd_M_image_50 : code_ 207 50 = some (.if_icmp .ge 26, 53, 76, 0, 0) := by decide +kernel
theorem cd_M_image_53 : code_ 207 53 = some (.aload_n 0, 54, 0, 0, 0) := by decide +kernel
theorem cd_M_image_54 : code_ 207 54 = some (.getfield 35, 57, 8, 16, 2) := by decide +kernel
theorem cd_M_image_57 : code_ 207 57 = some (.iload_n 2, 58, 0, 0, 0) := by decide +kernel
theorem cd_M_image_58 : code_ 207 58 = some (.bipush 21, 60, 0, 0, 0) := by decide +kernel
theorem cd_M_image_60 : code_ 207 60 = some (.iadd, 61, 0, 0, 0) := by decide +kernel
theorem cd_M_image_61 : code_ 207 61 = some (.iload_n 3, 62, 0, 0, 0) := by decide +kernel
theorem cd_M_image_62 : code_ 207 62 = some (.iadd, 63, 0, 0, 0) := by decide +kernel
theorem cd_M_image_63 : code_ 207 63 = some (.aload_n 0, 64, 0, 0, 0) := by decide +kernel
theorem cd_M_image_64 : code_ 207 64 = some (.getfield 16, 67, 8, 3, 2) := by decide +kernel
theorem cd_M_image_67 : code_ 207 67 = some (.iload_n 3, 68, 0, 0, 0) := by decide +kernel
theorem cd_M_image_68 : code_ 207 68 = some (.iaload, 69, 0, 0, 0) := by decide +kernel
theorem cd_M_image_69 : code_ 207 69 = some (.iastore, 70, 0, 0, 0) := by decide +kernel
theorem cd_M_image_70 : code_ 207 70 = some (.iinc 3 1, 73, 0, 0, 0) := by decide +kernel
theorem cd_M_image_73 : code_ 207 73 = some (.goto (-26), 76, 47, 0, 0) := by decide +kernel
theorem cd_M_image_76 : code_ 207 76 = some (.aload_n 0, 77, 0, 0, 0) := by decide +kernel
theorem cd_M_image_77 : code_ 207 77 = some (.getfield 35, 80, 8, 16, 2) := by decide +kernel
theorem cd_M_image_80 : code_ 207 80 = some (.iload_n 2, 81, 0, 0, 0) := by decide +kernel
theorem cd_M_image_81 : code_ 207 81 = some (.bipush 38, 83, 0, 0, 0) := by decide +kernel
theorem cd_M_image_83 : code_ 207 83 = some (.iadd, 84, 0, 0, 0) := by decide +kernel
theorem cd_M_image_84 : code_ 207 84 = some (.aload_n 0, 85, 0, 0, 0) := by decide +kernel
theorem cd_M_image_85 : code_ 207 85 = some (.getfield 187, 88, 8, 2, 0) := by decide +kernel
theorem cd_M_image_88 : code_ 207 88 = some (.iastore, 89, 0, 0, 0) := by decide +kernel
theorem cd_M_image_89 : code_ 207 89 = some (.aload_n 0, 90, 0, 0, 0) := by decide +kernel
theorem cd_M_image_90 : code_ 207 90 = some (.getfield 38, 93, 8, 17, 2) := by decide +kernel
theorem cd_M_image_93 : code_ 207 93 = some (.iload_n 1, 94, 0, 0, 0) := by decide +kernel
theorem cd_M_image_94 : code_ 207 94 = some (.iconst 1, 95, 0, 0, 0) := by decide +kernel
theorem cd_M_image_95 : code_ 207 95 = some (.bastore, 96, 0, 0, 0) := by decide +kernel
theorem cd_M_image_96 : code_ 207 96 = some (.iconst 1, 97, 0, 0, 0) := by decide +kernel
theorem cd_M_image_97 : code_ 207 97 = some (.ireturn, 98, 0, 0, 0) := by decide +kernel
theorem cd_M_restore_0 : code_ 208 0 = some (.iload_n 1, 1, 0, 0, 0) := by decide +kernel
theorem cd_M_restore_1 : code_ 208 1 = some (.iconst 0, 2, 0, 0, 0) := by decide +kernel
theorem cd_M_restore_2 : code_ 208 2 = some (.iconst 1, 3, 0, 0, 0) := by decide +kernel
theorem cd_M_restore_3 : code_ 208 3 = some (.invokestatic 46, 6, 146, 0, 0) := by decide +kernel
theorem cd_M_restore_6 : code_ 208 6 = some (.ifCond .ne 6, 9, 12, 0, 0) := by decide +kernel
theorem cd_M_restore_9 : code_ 208 9 = some (.bipush (-2), 11, 0, 0, 0) := by decide +kernel
theorem cd_M_restore_11 : code_ 208 11 = some (.ireturn, 12, 0, 0, 0) := by decide +kernel
theorem cd_M_restore_12 : code_ 208 12 = some (.aload_n 0, 13, 0, 0, 0) := by decide +kernel
theorem cd_M_restore_13 : code_ 208 13 = some (.getfield 38, 16, 8, 17, 2) := by decide +kernel
theorem cd_M_restore_16 : code_ 208 16 = some (.iload_n 1, 17, 0, 0, 0) := by decide +kernel
theorem cd_M_restore_17 : code_ 208 17 = some (.baload, 18, 0, 0, 0) := by decide +kernel
theorem cd_M_restore_18 : code_ 208 18 = some (.ifCond .ne 6, 21, 24, 0, 0) := by decide +kernel
theorem cd_M_restore_21 : code_ 208 21 = some (.bipush (-3), 23, 0, 0, 0) := by decide +kernel
theorem cd_M_restore_23 : code_ 208 23 = some (.ireturn, 24, 0, 0, 0) := by decide +kernel
theorem cd_M_restore_24 : code_ 208 24 = some (.bipush 40, 26, 0, 0, 0) := by decide +kernel
theorem cd_M_restore_26 : code_ 208 26 = some (.iload_n 1, 27, 0, 0, 0) := by decide +kernel
theorem cd_M_restore_27 : code_ 208 27 = some (.imul, 28, 0, 0, 0) := by decide +kernel
theorem cd_M_restore_28 : code_ 208 28 = some (.istore_n 2, 29, 0, 0, 0) := by decide +kernel
theorem cd_M_restore_29 : code_ 208 29 = some (.iconst 0, 30, 0, 0, 0) := by decide +kernel
theorem cd_M_restore_30 : code_ 208 30 = some (.istore_n 3, 31, 0, 0, 0) := by decide +kernel
theorem cd_M_restore_31 : code_ 208 31 = some (.iload_n 3, 32, 0, 0, 0) := by decide +kernel
theorem cd_M_restore_32 : code_ 208 32 = some (.bipush 21, 34, 0, 0, 0) := by decide +kernel
theorem cd_M_restore_34 : code_ 208 34 = some (.if_icmp .ge 23, 37, 57, 0, 0) := by decide +kernel
theorem cd_M_restore_37 : code_ 208 37 = some (.aload_n 0, 38, 0, 0, 0) := by decide +kernel
theorem cd_M_restore_38 : code_ 208 38 = some (.getfield 7, 41, 8, 0, 2) := by decide +kernel
theorem cd_M_restore_41 : code_ 208 41 = some (.iload_n 3, 42, 0, 0, 0) := by decide +kernel
theorem cd_M_restore_42 : code_ 208 42 = some (.aload_n 0, 43, 0, 0, 0) := by decide +kernel
theorem cd_M_restore_43 : code_ 208 43 = some (.getfield 35, 46, 8, 16, 2) := by decide +kernel
theorem cd_M_restore_46 : code_ 208 46 = some (.iload_n 2, 47, 0, 0, 0) := by decide +kernel
theorem cd_M_restore_47 : code_ 208 47 = some (.iload_n 3, 48, 0, 0, 0) := by decide +kernel
theorem cd_M_restore_48 : code_ 208 48 = some (.iadd, 49, 0, 0, 0) := by decide +kernel
theorem cd_M_restore_49 : code_ 208 49 = some (.iaload, 50, 0, 0, 0) := by decide +kernel
theorem cd_M_restore_50 : code_ 208 50 = some (.iastore, 51, 0, 0, 0) := by decide +kernel
theorem cd_M_restore_51 : code_ 208 51 = some (.iinc 3 1, 54, 0, 0, 0) := by decide +kernel
theorem cd_M_restore_54 : code_ 208 54 = some (.goto (-23), 57, 31, 0, 0) := by decide +kernel
theorem cd_M_restore_57 : code_ 208 57 = some (.iconst 0, 58, 0, 0, 0) := by decide +kernel
theorem cd_M_restore_58 : code_ 208 58 = some (.istore_n 3, 59, 0, 0, 0) := by decide +kernel
theorem cd_M_restore_59 : code_ 208 59 = some (.iload_n 3, 60, 0, 0, 0) := by decide +kernel
theorem cd_M_restore_60 : code_ 208 60 = some (.bipush 16, 62, 0, 0, 0) := by decide +kernel
theorem cd_M_restore_62 : code_ 208 62 = some (.if_icmp .ge 26, 65, 88, 0, 0) := by decide +kernel
theorem cd_M_restore_65 : code_ 208 65 = some (.aload_n 0, 66, 0, 0, 0) := by decide +kernel
theorem cd_M_restore_66 : code_ 208 66 = some (.getfield 16, 69, 8, 3, 2) := by decide +kernel
theorem cd_M_restore_69 : code_ 208 69 = some (.iload_n 3, 70, 0, 0, 0) := by decide +kernel
theorem cd_M_restore_70 : code_ 208 70 = some (.aload_n 0, 71, 0, 0, 0) := by decide +kernel
theorem cd_M_restore_71 : code_ 208 71 = some (.getfield 35, 74, 8, 16, 2) := by decide +kernel
theorem cd_M_restore_74 : code_ 208 74 = some (.iload_n 2, 75, 0, 0, 0) := by decide +kernel
theorem cd_M_restore_75 : code_ 208 75 = some (.bipush 21, 77, 0, 0, 0) := by decide +kernel
theorem cd_M_restore_77 : code_ 208 77 = some (.iadd, 78, 0, 0, 0) := by decide +kernel
theorem cd_M_restore_78 : code_ 208 78 = some (.iload_n 3, 79, 0, 0, 0) := by decide +kernel
theorem cd_M_restore_79 : code_ 208 79 = some (.iadd, 80, 0, 0, 0) := by decide +kernel
theorem cd_M_restore_80 : code_ 208 80 = some (.iaload, 81, 0, 0, 0) := by decide +kernel
theorem cd_M_restore_81 : code_ 208 81 = some (.iastore, 82, 0, 0, 0) := by decide +kernel
theorem cd_M_restore_82 : code_ 208 82 = some (.iinc 3 1, 85, 0, 0, 0) := by decide +kernel
theorem cd_M_restore_85 : code_ 208 85 = some (.goto (-26), 88, 59, 0, 0) := by decide +kernel
theorem cd_M_restore_88 : code_ 208 88 = some (.aload_n 0, 89, 0, 0, 0) := by decide +kernel
theorem cd_M_restore_89 : code_ 208 89 = some (.aload_n 0, 90, 0, 0, 0) := by decide +kernel
theorem cd_M_restore_90 : code_ 208 90 = some (.getfield 35, 93, 8, 16, 2) := by decide +kernel
theorem cd_M_restore_93 : code_ 208 93 = some (.iload_n 2, 94, 0, 0, 0) := by decide +kernel
theorem cd_M_restore_94 : code_ 208 94 = some (.bipush 38, 96, 0, 0, 0) := by decide +kernel
theorem cd_M_restore_96 : code_ 208 96 = some (.iadd, 97, 0, 0, 0) := by decide +kernel
theorem cd_M_restore_97 : code_ 208 97 = some (.iaload, 98, 0, 0, 0) := by decide +kernel
theorem cd_M_restore_98 : code_ 208 98 = some (.putfield 187, 101, 8, 2, 0) := by decide +kernel
theorem cd_M_restore_101 : code_ 208 101 = some (.iconst 1, 102, 0, 0, 0) := by decide +kernel
theorem cd_M_restore_102 : code_ 208 102 = some (.ireturn, 103, 0, 0, 0) := by decide +kernel
theorem cd_M_told_0 : code_ 209 0 = some (.aload_n 0, 1, 0, 0, 0) := by decide +kernel
theorem cd_M_told_1 : code_ 209 1 = some (.invokevirtual 66, 4, 169, 1, 0) := by decide +kernel
theorem cd_M_told_4 : code_ 209 4 = some (.iload_n 1, 5, 0, 0, 0) := by decide +kernel
theorem cd_M_told_5 : code_ 209 5 = some (.bipush 100, 7, 0, 0, 0) := by decide +kernel
theorem cd_M_told_7 : code_ 209 7 = some (.if_icmp .lt 37, 10, 44, 0, 0) := by decide +kernel
theorem cd_M_told_10 : code_ 209 10 = some (.iload_n 1, 11, 0, 0, 0) := by decide +kernel
theorem cd_M_told_11 : code_ 209 11 = some (.bipush 10, 13, 0, 0, 0) := by decide +kernel
theorem cd_M_told_13 : code_ 209 13 = some (.idiv, 14, 0, 0, 0) := by decide +kernel
theorem cd_M_told_14 : code_ 209 14 = some (.bipush 10, 16, 0, 0, 0) := by decide +kernel
theorem cd_M_told_16 : code_ 209 16 = some (.isub, 17, 0, 0, 0) := by decide +kernel
theorem cd_M_told_17 : code_ 209 17 = some (.istore_n 2, 18, 0, 0, 0) := by decide +kernel
theorem cd_M_told_18 : code_ 209 18 = some (.iload_n 2, 19, 0, 0, 0) := by decide +kernel
theorem cd_M_told_19 : code_ 209 19 = some (.iload_n 1, 20, 0, 0, 0) := by decide +kernel
theorem cd_M_told_20 : code_ 209 20 = some (.bipush 10, 22, 0, 0, 0) := by decide +kernel
theorem cd_M_told_22 : code_ 209 22 = some (.irem, 23, 0, 0, 0) := by decide +kernel
theorem cd_M_told_23 : code_ 209 23 = some (.invokestatic 73, 26, 154, 0, 0) := by decide +kernel
theorem cd_M_told_26 : code_ 209 26 = some (.ifCond .eq 15, 29, 41, 0, 0) := by decide +kernel
theorem cd_M_told_29 : code_ 209 29 = some (.aload_n 0, 30, 0, 0, 0) := by decide +kernel
theorem cd_M_told_30 : code_ 209 30 = some (.iload_n 2, 31, 0, 0, 0) := by decide +kernel
theorem cd_M_told_31 : code_ 209 31 = some (.iload_n 1, 32, 0, 0, 0) := by decide +kernel
theorem cd_M_told_32 : code_ 209 32 = some (.bipush 10, 34, 0, 0, 0) := by decide +kernel
theorem cd_M_told_34 : code_ 209 34 = some (.irem, 35, 0, 0, 0) := by decide +kernel
theorem cd_M_told_35 : code_ 209 35 = some (.invokevirtual 88, 38, 165, 1, 0) := by decide +kernel
theorem cd_M_told_38 : code_ 209 38 = some (.goto 5, 41, 43, 0, 0) := by decide +kernel
theorem cd_M_told_41 : code_ 209 41 = some (.bipush (-2), 43, 0, 0, 0) := by decide +kernel
theorem cd_M_told_43 : code_ 209 43 = some (.ireturn, 44, 0, 0, 0) := by decide +kernel
theorem cd_M_told_44 : code_ 209 44 = some (.iload_n 1, 45, 0, 0, 0) := by decide +kernel
theorem cd_M_told_45 : code_ 209 45 = some (.bipush 20, 47, 0, 0, 0) := by decide +kernel
theorem cd_M_told_47 : code_ 209 47 = some (.if_icmp .lt 28, 50, 75, 0, 0) := by decide +kernel
theorem cd_M_told_50 : code_ 209 50 = some (.iload_n 1, 51, 0, 0, 0) := by decide +kernel
theorem cd_M_told_51 : code_ 209 51 = some (.bipush 20, 53, 0, 0, 0) := by decide +kernel
theorem cd_M_told_53 : code_ 209 53 = some (.isub, 54, 0, 0, 0) := by decide +kernel
theorem cd_M_told_54 : code_ 209 54 = some (.invokestatic 62, 57, 148, 0, 0) := by decide +kernel
theorem cd_M_told_57 : code_ 209 57 = some (.ifCond .eq 15, 60, 72, 0, 0) := by decide +kernel
theorem cd_M_told_60 : code_ 209 60 = some (.aload_n 0, 61, 0, 0, 0) := by decide +kernel
theorem cd_M_told_61 : code_ 209 61 = some (.getfield 7, 64, 8, 0, 2) := by decide +kernel
theorem cd_M_told_64 : code_ 209 64 = some (.iload_n 1, 65, 0, 0, 0) := by decide +kernel
theorem cd_M_told_65 : code_ 209 65 = some (.bipush 20, 67, 0, 0, 0) := by decide +kernel
theorem cd_M_told_67 : code_ 209 67 = some (.isub, 68, 0, 0, 0) := by decide +kernel
theorem cd_M_told_68 : code_ 209 68 = some (.iaload, 69, 0, 0, 0) := by decide +kernel
theorem cd_M_told_69 : code_ 209 69 = some (.goto 5, 72, 74, 0, 0) := by decide +kernel
theorem cd_M_told_72 : code_ 209 72 = some (.bipush (-2), 74, 0, 0, 0) := by decide +kernel
theorem cd_M_told_74 : code_ 209 74 = some (.ireturn, 75, 0, 0, 0) := by decide +kernel
theorem cd_M_told_75 : code_ 209 75 = some (.iload_n 1, 76, 0, 0, 0) := by decide +kernel
theorem cd_M_told_76 : code_ 209 76 = some (.bipush 10, 78, 0, 0, 0) := by decide +kernel
theorem cd_M_told_78 : code_ 209 78 = some (.if_icmp .lt 29, 81, 107, 0, 0) := by decide +kernel
theorem cd_M_told_81 : code_ 209 81 = some (.iload_n 1, 82, 0, 0, 0) := by decide +kernel
theorem cd_M_told_82 : code_ 209 82 = some (.bipush 10, 84, 0, 0, 0) := by decide +kernel
theorem cd_M_told_84 : code_ 209 84 = some (.bipush 11, 86, 0, 0, 0) := by decide +kernel
theorem cd_M_told_86 : code_ 209 86 = some (.invokestatic 46, 89, 146, 0, 0) := by decide +kernel
theorem cd_M_told_89 : code_ 209 89 = some (.ifCond .eq 15, 92, 104, 0, 0) := by decide +kernel
theorem cd_M_told_92 : code_ 209 92 = some (.aload_n 0, 93, 0, 0, 0) := by decide +kernel
theorem cd_M_told_93 : code_ 209 93 = some (.getfield 7, 96, 8, 0, 2) := by decide +kernel
theorem cd_M_told_96 : code_ 209 96 = some (.bipush 8, 98, 0, 0, 0) := by decide +kernel
theorem cd_M_told_98 : code_ 209 98 = some (.iload_n 1, 99, 0, 0, 0) := by decide +kernel
theorem cd_M_told_99 : code_ 209 99 = some (.iadd, 100, 0, 0, 0) := by decide +kernel
theorem cd_M_told_100 : code_ 209 100 = some (.iaload, 101, 0, 0, 0) := by decide +kernel
theorem cd_M_told_101 : code_ 209 101 = some (.goto 5, 104, 106, 0, 0) := by decide +kernel
theorem cd_M_told_104 : code_ 209 104 = some (.bipush (-2), 106, 0, 0, 0) := by decide +kernel
theorem cd_M_told_106 : code_ 209 106 = some (.ireturn, 107, 0, 0, 0) := by decide +kernel
theorem cd_M_told_107 : code_ 209 107 = some (.iconst 0, 108, 0, 0, 0) := by decide +kernel
theorem cd_M_told_108 : code_ 209 108 = some (.istore_n 2, 109, 0, 0, 0) := by decide +kernel
theorem cd_M_told_109 : code_ 209 109 = some (.iconst 0, 110, 0, 0, 0) := by decide +kernel
theorem cd_M_told_110 : code_ 209 110 = some (.istore_n 3, 111, 0, 0, 0) := by decide +kernel
theorem cd_M_told_111 : code_ 209 111 = some (.iload_n 3, 112, 0, 0, 0) := by decide +kernel
theorem cd_M_told_112 : code_ 209 112 = some (.bipush 8, 114, 0, 0, 0) := by decide +kernel
theorem cd_M_told_114 : code_ 209 114 = some (.if_icmp .ge 23, 117, 137, 0, 0) := by decide +kernel
theorem cd_M_told_117 : code_ 209 117 = some (.iload_n 2, 118, 0, 0, 0) := by decide +kernel
theorem cd_M_told_118 : code_ 209 118 = some (.aload_n 0, 119, 0, 0, 0) := by decide +kernel
theorem cd_M_told_119 : code_ 209 119 = some (.getfield 7, 122, 8, 0, 2) := by decide +kernel
theorem cd_M_told_122 : code_ 209 122 = some (.bipush 8, 124, 0, 0, 0) := by decide +kernel
theorem cd_M_told_124 : code_ 209 124 = some (.iload_n 3, 125, 0, 0, 0) := by decide +kernel
theorem cd_M_told_125 : code_ 209 125 = some (.iadd, 126, 0, 0, 0) := by decide +kernel
theorem cd_M_told_126 : code_ 209 126 = some (.iaload, 127, 0, 0, 0) := by decide +kernel
theorem cd_M_told_127 : code_ 209 127 = some (.iload_n 3, 128, 0, 0, 0) := by decide +kernel
theorem cd_M_told_128 : code_ 209 128 = some (.ishl, 129, 0, 0, 0) := by decide +kernel
theorem cd_M_told_129 : code_ 209 129 = some (.ior, 130, 0, 0, 0) := by decide +kernel
theorem cd_M_told_130 : code_ 209 130 = some (.istore_n 2, 131, 0, 0, 0) := by decide +kernel
theorem cd_M_told_131 : code_ 209 131 = some (.iinc 3 1, 134, 0, 0, 0) := by decide +kernel
theorem cd_M_told_134 : code_ 209 134 = some (.goto (-23), 137, 111, 0, 0) := by decide +kernel
theorem cd_M_told_137 : code_ 209 137 = some (.iload_n 1, 138, 0, 0, 0) := by decide +kernel
theorem cd_M_told_138 : code_ 209 138 = some (.tableswitch 59 0 4 #[34, 39, 41, 41, 51], 172, 0, 0, 0) := by decide +kernel
theorem cd_M_told_172 : code_ 209 172 = some (.aload_n 0, 173, 0, 0, 0) := by decide +kernel
theorem cd_M_told_173 : code_ 209 173 = some (.getfield 77, 176, 8, 4, 0) := by decide +kernel
theorem cd_M_told_176 : code_ 209 176 = some (.ireturn, 177, 0, 0, 0) := by decide +kernel
theorem cd_M_told_177 : code_ 209 177 = some (.iload_n 2, 178, 0, 0, 0) := by decide +kernel
theorem cd_M_told_178 : code_ 209 178 = some (.ireturn, 179, 0, 0, 0) := by decide +kernel
theorem cd_M_told_179 : code_ 209 179 = some (.aload_n 0, 180, 0, 0, 0) := by decide +kernel
theorem cd_M_told_180 : code_ 209 180 = some (.getfield 7, 183, 8, 0, 2) := by decide +kernel
theorem cd_M_told_183 : code_ 209 183 = some (.bipush 14, 185, 0, 0, 0) := by decide +kernel
theorem cd_M_told_185 : code_ 209 185 = some (.iload_n 1, 186, 0, 0, 0) := by decide +kernel
theorem cd_M_told_186 : code_ 209 186 = some (.iadd, 187, 0, 0, 0) := by decide +kernel
theorem cd_M_told_187 : code_ 209 187 = some (.iaload, 188, 0, 0, 0) := by decide +kernel
theorem cd_M_told_188 : code_ 209 188 = some (.ireturn, 189, 0, 0, 0) := by decide +kernel
theorem cd_M_told_189 : code_ 209 189 = some (.aload_n 0, 190, 0, 0, 0) := by decide +kernel
theorem cd_M_told_190 : code_ 209 190 = some (.getfield 7, 193, 8, 0, 2) := by decide +kernel
theorem cd_M_told_193 : code_ 209 193 = some (.bipush 20, 195, 0, 0, 0) := by decide +kernel
theorem cd_M_told_195 : code_ 209 195 = some (.iaload, 196, 0, 0, 0) := by decide +kernel
theorem cd_M_told_196 : code_ 209 196 = some (.ireturn, 197, 0, 0, 0) := by decide +kernel
theorem cd_M_told_197 : code_ 209 197 = some (.iload_n 1, 198, 0, 0, 0) := by decide +kernel
theorem cd_M_told_198 : code_ 209 198 = some (.iconst 5, 199, 0, 0, 0) := by decide +kernel
theorem cd_M_told_199 : code_ 209 199 = some (.if_icmp .ne 10, 202, 209, 0, 0) := by decide +kernel
theorem cd_M_told_202 : code_ 209 202 = some (.aload_n 0, 203, 0, 0, 0) := by decide +kernel
theorem cd_M_told_203 : code_ 209 203 = some (.getfield 187, 206, 8, 2, 0) := by decide +kernel
theorem cd_M_told_206 : code_ 209 206 = some (.goto 5, 209, 211, 0, 0) := by decide +kernel
theorem cd_M_told_209 : code_ 209 209 = some (.bipush (-2), 211, 0, 0, 0) := by decide +kernel
theorem cd_M_told_211 : code_ 209 211 = some (.ireturn, 212, 0, 0, 0) := by decide +kernel
theorem cd_Integer_bitCount_0 : code_ 210 0 = some (.iload_n 0, 1, 0, 0, 0) := by decide +kernel
theorem cd_Integer_bitCount_1 : code_ 210 1 = some (.iload_n 0, 2, 0, 0, 0) := by decide +kernel
theorem cd_Integer_bitCount_2 : code_ 210 2 = some (.iconst 1, 3, 0, 0, 0) := by decide +kernel
theorem cd_Integer_bitCount_3 : code_ 210 3 = some (.iushr, 4, 0, 0, 0) := by decide +kernel
theorem cd_Integer_bitCount_4 : code_ 210 4 = some (.ldc_w 265, 7, 0, 0, 1431655765) := by decide +kernel
theorem cd_Integer_bitCount_7 : code_ 210 7 = some (.iand, 8, 0, 0, 0) := by decide +kernel
theorem cd_Integer_bitCount_8 : code_ 210 8 = some (.isub, 9, 0, 0, 0) := by decide +kernel
theorem cd_Integer_bitCount_9 : code_ 210 9 = some (.istore_n 0, 10, 0, 0, 0) := by decide +kernel
theorem cd_Integer_bitCount_10 : code_ 210 10 = some (.iload_n 0, 11, 0, 0, 0) := by decide +kernel
theorem cd_Integer_bitCount_11 : code_ 210 11 = some (.ldc_w 266, 14, 0, 0, 858993459) := by decide +kernel
theorem cd_Integer_bitCount_14 : code_ 210 14 = some (.iand, 15, 0, 0, 0) := by decide +kernel
theorem cd_Integer_bitCount_15 : code_ 210 15 = some (.iload_n 0, 16, 0, 0, 0) := by decide +kernel
theorem cd_Integer_bitCount_16 : code_ 210 16 = some (.iconst 2, 17, 0, 0, 0) := by decide +kernel
theorem cd_Integer_bitCount_17 : code_ 210 17 = some (.iushr, 18, 0, 0, 0) := by decide +kernel
theorem cd_Integer_bitCount_18 : code_ 210 18 = some (.ldc_w 266, 21, 0, 0, 858993459) := by decide +kernel
theorem cd_Integer_bitCount_21 : code_ 210 21 = some (.iand, 22, 0, 0, 0) := by decide +kernel
theorem cd_Integer_bitCount_22 : code_ 210 22 = some (.iadd, 23, 0, 0, 0) := by decide +kernel
theorem cd_Integer_bitCount_23 : code_ 210 23 = some (.istore_n 0, 24, 0, 0, 0) := by decide +kernel
theorem cd_Integer_bitCount_24 : code_ 210 24 = some (.iload_n 0, 25, 0, 0, 0) := by decide +kernel
theorem cd_Integer_bitCount_25 : code_ 210 25 = some (.iload_n 0, 26, 0, 0, 0) := by decide +kernel
theorem cd_Integer_bitCount_26 : code_ 210 26 = some (.iconst 4, 27, 0, 0, 0) := by decide +kernel
theorem cd_Integer_bitCount_27 : code_ 210 27 = some (.iushr, 28, 0, 0, 0) := by decide +kernel
theorem cd_Integer_bitCount_28 : code_ 210 28 = some (.iadd, 29, 0, 0, 0) := by decide +kernel
theorem cd_Integer_bitCount_29 : code_ 210 29 = some (.ldc_w 267, 32, 0, 0, 252645135) := by decide +kernel
theorem cd_Integer_bitCount_32 : code_ 210 32 = some (.iand, 33, 0, 0, 0) := by decide +kernel
theorem cd_Integer_bitCount_33 : code_ 210 33 = some (.istore_n 0, 34, 0, 0, 0) := by decide +kernel
theorem cd_Integer_bitCount_34 : code_ 210 34 = some (.iload_n 0, 35, 0, 0, 0) := by decide +kernel
theorem cd_Integer_bitCount_35 : code_ 210 35 = some (.iload_n 0, 36, 0, 0, 0) := by decide +kernel
theorem cd_Integer_bitCount_36 : code_ 210 36 = some (.bipush 8, 38, 0, 0, 0) := by decide +kernel
theorem cd_Integer_bitCount_38 : code_ 210 38 = some (.iushr, 39, 0, 0, 0) := by decide +kernel
theorem cd_Integer_bitCount_39 : code_ 210 39 = some (.iadd, 40, 0, 0, 0) := by decide +kernel
theorem cd_Integer_bitCount_40 : code_ 210 40 = some (.istore_n 0, 41, 0, 0, 0) := by decide +kernel
theorem cd_Integer_bitCount_41 : code_ 210 41 = some (.iload_n 0, 42, 0, 0, 0) := by decide +kernel
theorem cd_Integer_bitCount_42 : code_ 210 42 = some (.iload_n 0, 43, 0, 0, 0) := by decide +kernel
theorem cd_Integer_bitCount_43 : code_ 210 43 = some (.bipush 16, 45, 0, 0, 0) := by decide +kernel
theorem cd_Integer_bitCount_45 : code_ 210 45 = some (.iushr, 46, 0, 0, 0) := by decide +kernel
theorem cd_Integer_bitCount_46 : code_ 210 46 = some (.iadd, 47, 0, 0, 0) := by decide +kernel
theorem cd_Integer_bitCount_47 : code_ 210 47 = some (.istore_n 0, 48, 0, 0, 0) := by decide +kernel
theorem cd_Integer_bitCount_48 : code_ 210 48 = some (.iload_n 0, 49, 0, 0, 0) := by decide +kernel
theorem cd_Integer_bitCount_49 : code_ 210 49 = some (.bipush 63, 51, 0, 0, 0) := by decide +kernel
theorem cd_Integer_bitCount_51 : code_ 210 51 = some (.iand, 52, 0, 0, 0) := by decide +kernel
theorem cd_Integer_bitCount_52 : code_ 210 52 = some (.ireturn, 53, 0, 0, 0) := by decide +kernel
theorem cd_Math_floorMod_0 : code_ 211 0 = some (.iload_n 0, 1, 0, 0, 0) := by decide +kernel
theorem cd_Math_floorMod_1 : code_ 211 1 = some (.iload_n 1, 2, 0, 0, 0) := by decide +kernel
theorem cd_Math_floorMod_2 : code_ 211 2 = some (.irem, 3, 0, 0, 0) := by decide +kernel
theorem cd_Math_floorMod_3 : code_ 211 3 = some (.istore_n 2, 4, 0, 0, 0) := by decide +kernel
theorem cd_Math_floorMod_4 : code_ 211 4 = some (.iload_n 0, 5, 0, 0, 0) := by decide +kernel
theorem cd_Math_floorMod_5 : code_ 211 5 = some (.iload_n 1, 6, 0, 0, 0) := by decide +kernel
theorem cd_Math_floorMod_6 : code_ 211 6 = some (.ixor, 7, 0, 0, 0) := by decide +kernel
theorem cd_Math_floorMod_7 : code_ 211 7 = some (.ifCond .ge 11, 10, 18, 0, 0) := by decide +kernel
theorem cd_Math_floorMod_10 : code_ 211 10 = some (.iload_n 2, 11, 0, 0, 0) := by decide +kernel
theorem cd_Math_floorMod_11 : code_ 211 11 = some (.ifCond .eq 7, 14, 18, 0, 0) := by decide +kernel
theorem cd_Math_floorMod_14 : code_ 211 14 = some (.iload_n 2, 15, 0, 0, 0) := by decide +kernel
theorem cd_Math_floorMod_15 : code_ 211 15 = some (.iload_n 1, 16, 0, 0, 0) := by decide +kernel
theorem cd_Math_floorMod_16 : code_ 211 16 = some (.iadd, 17, 0, 0, 0) := by decide +kernel
theorem cd_Math_floorMod_17 : code_ 211 17 = some (.ireturn, 18, 0, 0, 0) := by decide +kernel
theorem cd_Math_floorMod_18 : code_ 211 18 = some (.iload_n 2, 19, 0, 0, 0) := by decide +kernel
theorem cd_Math_floorMod_19 : code_ 211 19 = some (.ireturn, 20, 0, 0, 0) := by decide +kernel
theorem cd_Math_abs_0 : code_ 212 0 = some (.iload_n 0, 1, 0, 0, 0) := by decide +kernel
theorem cd_Math_abs_1 : code_ 212 1 = some (.ifCond .ge 8, 4, 9, 0, 0) := by decide +kernel
theorem cd_Math_abs_4 : code_ 212 4 = some (.iload_n 0, 5, 0, 0, 0) := by decide +kernel
theorem cd_Math_abs_5 : code_ 212 5 = some (.ineg, 6, 0, 0, 0) := by decide +kernel
theorem cd_Math_abs_6 : code_ 212 6 = some (.goto 4, 9, 10, 0, 0) := by decide +kernel
theorem cd_Math_abs_9 : code_ 212 9 = some (.iload_n 0, 10, 0, 0, 0) := by decide +kernel
theorem cd_Math_abs_10 : code_ 212 10 = some (.ireturn, 11, 0, 0, 0) := by decide +kernel
theorem cd_Math_max_0 : code_ 213 0 = some (.iload_n 0, 1, 0, 0, 0) := by decide +kernel
theorem cd_Math_max_1 : code_ 213 1 = some (.iload_n 1, 2, 0, 0, 0) := by decide +kernel
theorem cd_Math_max_2 : code_ 213 2 = some (.if_icmp .lt 7, 5, 9, 0, 0) := by decide +kernel
theorem cd_Math_max_5 : code_ 213 5 = some (.iload_n 0, 6, 0, 0, 0) := by decide +kernel
theorem cd_Math_max_6 : code_ 213 6 = some (.goto 4, 9, 10, 0, 0) := by decide +kernel
theorem cd_Math_max_9 : code_ 213 9 = some (.iload_n 1, 10, 0, 0, 0) := by decide +kernel
theorem cd_Math_max_10 : code_ 213 10 = some (.ireturn, 11, 0, 0, 0) := by decide +kernel
theorem cd_Math_min_0 : code_ 214 0 = some (.iload_n 0, 1, 0, 0, 0) := by decide +kernel
theorem cd_Math_min_1 : code_ 214 1 = some (.iload_n 1, 2, 0, 0, 0) := by decide +kernel
theorem cd_Math_min_2 : code_ 214 2 = some (.if_icmp .gt 7, 5, 9, 0, 0) := by decide +kernel
theorem cd_Math_min_5 : code_ 214 5 = some (.iload_n 0, 6, 0, 0, 0) := by decide +kernel
theorem cd_Math_min_6 : code_ 214 6 = some (.goto 4, 9, 10, 0, 0) := by decide +kernel
theorem cd_Math_min_9 : code_ 214 9 = some (.iload_n 1, 10, 0, 0, 0) := by decide +kernel
theorem cd_Math_min_10 : code_ 214 10 = some (.ireturn, 11, 0, 0, 0) := by decide +kernel
theorem cd_Law_law_0 : code_ 215 0 = some (.new 7, 3, 7, 0, 0) := by decide +kernel
theorem cd_Law_law_3 : code_ 215 3 = some (.dup, 4, 0, 0, 0) := by decide +kernel
theorem cd_Law_law_4 : code_ 215 4 = some (.invokespecial 9, 7, 109, 2, 0) := by decide +kernel
theorem cd_Law_law_7 : code_ 215 7 = some (.astore_n 1, 8, 0, 0, 0) := by decide +kernel
theorem cd_Law_law_8 : code_ 215 8 = some (.new 10, 11, 8, 0, 0) := by decide +kernel
theorem cd_Law_law_11 : code_ 215 11 = some (.dup, 12, 0, 0, 0) := by decide +kernel
theorem cd_Law_law_12 : code_ 215 12 = some (.invokespecial 12, 15, 145, 2, 0) := by decide +kernel
theorem cd_Law_law_15 : code_ 215 15 = some (.astore_n 2, 16, 0, 0, 0) := by decide +kernel
theorem cd_Law_law_16 : code_ 215 16 = some (.iconst 0, 17, 0, 0, 0) := by decide +kernel
theorem cd_Law_law_17 : code_ 215 17 = some (.istore_n 3, 18, 0, 0, 0) := by decide +kernel
theorem cd_Law_law_18 : code_ 215 18 = some (.iload_n 3, 19, 0, 0, 0) := by decide +kernel
theorem cd_Law_law_19 : code_ 215 19 = some (.aload_n 0, 20, 0, 0, 0) := by decide +kernel
theorem cd_Law_law_20 : code_ 215 20 = some (.arraylength, 21, 0, 0, 0) := by decide +kernel
theorem cd_Law_law_21 : code_ 215 21 = some (.bipush 7, 23, 0, 0, 0) := by decide +kernel
theorem cd_Law_law_23 : code_ 215 23 = some (.isub, 24, 0, 0, 0) := by decide +kernel
theorem cd_Law_law_24 : code_ 215 24 = some (.if_icmp .gt 976, 27, 1000, 0, 0) := by decide +kernel
theorem cd_Law_law_27 : code_ 215 27 = some (.aload_n 0, 28, 0, 0, 0) := by decide +kernel
theorem cd_Law_law_28 : code_ 215 28 = some (.iload_n 3, 29, 0, 0, 0) := by decide +kernel
theorem cd_Law_law_29 : code_ 215 29 = some (.iaload, 30, 0, 0, 0) := by decide +kernel
theorem cd_Law_law_30 : code_ 215 30 = some (.bipush 31, 32, 0, 0, 0) := by decide +kernel
theorem cd_Law_law_32 : code_ 215 32 = some (.iand, 33, 0, 0, 0) := by decide +kernel
theorem cd_Law_law_33 : code_ 215 33 = some (.tableswitch 961 0 26 #[123, 156, 205, 238, 271, 294, 307, 320, 343, 356, 389, 412, 435, 448, 491, 514, 590, 623, 687, 741, 790, 803, 826, 849, 892, 915, 938], 156, 0, 0, 0) := by decide +kernel
theorem cd_Law_law_156 : code_ 215 156 = some (.aload_n 1, 157, 0, 0, 0) := by decide +kernel
theorem cd_Law_law_157 : code_ 215 157 = some (.aload_n 0, 158, 0, 0, 0) := by decide +kernel
theorem cd_Law_law_158 : code_ 215 158 = some (.iload_n 3, 159, 0, 0, 0) := by decide +kernel
theorem cd_Law_law_159 : code_ 215 159 = some (.iconst 1, 160, 0, 0, 0) := by decide +kernel
theorem cd_Law_law_160 : code_ 215 160 = some (.iadd, 161, 0, 0, 0) := by decide +kernel
theorem cd_Law_law_161 : code_ 215 161 = some (.iaload, 162, 0, 0, 0) := by decide +kernel
theorem cd_Law_law_162 : code_ 215 162 = some (.aload_n 0, 163, 0, 0, 0) := by decide +kernel
theorem cd_Law_law_163 : code_ 215 163 = some (.iload_n 3, 164, 0, 0, 0) := by decide +kernel
theorem cd_Law_law_164 : code_ 215 164 = some (.iconst 2, 165, 0, 0, 0) := by decide +kernel
theorem cd_Law_law_165 : code_ 215 165 = some (.iadd, 166, 0, 0, 0) := by decide +kernel
theorem cd_Law_law_166 : code_ 215 166 = some (.iaload, 167, 0, 0, 0) := by decide +kernel
theorem cd_Law_law_167 : code_ 215 167 = some (.invokevirtual 13, 170, 110, 1, 0) := by decide +kernel
theorem cd_Law_law_170 : code_ 215 170 = some (.aload_n 2, 171, 0, 0, 0) := by decide +kernel
theorem cd_Law_law_171 : code_ 215 171 = some (.aload_n 0, 172, 0, 0, 0) := by decide +kernel
theorem cd_Law_law_172 : code_ 215 172 = some (.iload_n 3, 173, 0, 0, 0) := by decide +kernel
theorem cd_Law_law_173 : code_ 215 173 = some (.iconst 1, 174, 0, 0, 0) := by decide +kernel
theorem cd_Law_law_174 : code_ 215 174 = some (.iadd, 175, 0, 0, 0) := by decide +kernel
theorem cd_Law_law_175 : code_ 215 175 = some (.iaload, 176, 0, 0, 0) := by decide +kernel
theorem cd_Law_law_176 : code_ 215 176 = some (.aload_n 0, 177, 0, 0, 0) := by decide +kernel
theorem cd_Law_law_177 : code_ 215 177 = some (.iload_n 3, 178, 0, 0, 0) := by decide +kernel
theorem cd_Law_law_178 : code_ 215 178 = some (.iconst 2, 179, 0, 0, 0) := by decide +kernel
theorem cd_Law_law_179 : code_ 215 179 = some (.iadd, 180, 0, 0, 0) := by decide +kernel
theorem cd_Law_law_180 : code_ 215 180 = some (.iaload, 181, 0, 0, 0) := by decide +kernel
theorem cd_Law_law_181 : code_ 215 181 = some (.invokevirtual 17, 184, 156, 1, 0) := by decide +kernel
theorem cd_Law_law_184 : code_ 215 184 = some (.if_icmp .eq 810, 187, 994, 0, 0) := by decide +kernel
theorem cd_Law_law_187 : code_ 215 187 = some (.iconst 0, 188, 0, 0, 0) := by decide +kernel
theorem cd_Law_law_188 : code_ 215 188 = some (.ireturn, 189, 0, 0, 0) := by decide +kernel
theorem cd_Law_law_189 : code_ 215 189 = some (.aload_n 1, 190, 0, 0, 0) := by decide +kernel
theorem cd_Law_law_190 : code_ 215 190 = some (.aload_n 0, 191, 0, 0, 0) := by decide +kernel
theorem cd_Law_law_191 : code_ 215 191 = some (.iload_n 3, 192, 0, 0, 0) := by decide +kernel
theorem cd_Law_law_192 : code_ 215 192 = some (.iconst 1, 193, 0, 0, 0) := by decide +kernel
theorem cd_Law_law_193 : code_ 215 193 = some (.iadd, 194, 0, 0, 0) := by decide +kernel
theorem cd_Law_law_194 : code_ 215 194 = some (.iaload, 195, 0, 0, 0) := by decide +kernel
theorem cd_Law_law_195 : code_ 215 195 = some (.aload_n 0, 196, 0, 0, 0) := by decide +kernel
theorem cd_Law_law_196 : code_ 215 196 = some (.iload_n 3, 197, 0, 0, 0) := by decide +kernel
theorem cd_Law_law_197 : code_ 215 197 = some (.iconst 2, 198, 0, 0, 0) := by decide +kernel
theorem cd_Law_law_198 : code_ 215 198 = some (.iadd, 199, 0, 0, 0) := by decide +kernel
theorem cd_Law_law_199 : code_ 215 199 = some (.iaload, 200, 0, 0, 0) := by decide +kernel
theorem cd_Law_law_200 : code_ 215 200 = some (.ifCond .eq 7, 203, 207, 0, 0) := by decide +kernel
theorem cd_Law_law_203 : code_ 215 203 = some (.iconst 1, 204, 0, 0, 0) := by decide +kernel
theorem cd_Law_law_204 : code_ 215 204 = some (.goto 4, 207, 208, 0, 0) := by decide +kernel
theorem cd_Law_law_207 : code_ 215 207 = some (.iconst 0, 208, 0, 0, 0) := by decide +kernel
theorem cd_Law_law_208 : code_ 215 208 = some (.invokevirtual 18, 211, 111, 1, 0) := by decide +kernel
theorem cd_Law_law_211 : code_ 215 211 = some (.aload_n 2, 212, 0, 0, 0) := by decide +kernel
theorem cd_Law_law_212 : code_ 215 212 = some (.aload_n 0, 213, 0, 0, 0) := by decide +kernel
theorem cd_Law_law_213 : code_ 215 213 = some (.iload_n 3, 214, 0, 0, 0) := by decide +kernel
theorem cd_Law_law_214 : code_ 215 214 = some (.iconst 1, 215, 0, 0, 0) := by decide +kernel
theorem cd_Law_law_215 : code_ 215 215 = some (.iadd, 216, 0, 0, 0) := by decide +kernel
theorem cd_Law_law_216 : code_ 215 216 = some (.iaload, 217, 0, 0, 0) := by decide +kernel
theorem cd_Law_law_217 : code_ 215 217 = some (.aload_n 0, 218, 0, 0, 0) := by decide +kernel
theorem cd_Law_law_218 : code_ 215 218 = some (.iload_n 3, 219, 0, 0, 0) := by decide +kernel
theorem cd_Law_law_219 : code_ 215 219 = some (.iconst 2, 220, 0, 0, 0) := by decide +kernel
theorem cd_Law_law_220 : code_ 215 220 = some (.iadd, 221, 0, 0, 0) := by decide +kernel
theorem cd_Law_law_221 : code_ 215 221 = some (.iaload, 222, 0, 0, 0) := by decide +kernel
theorem cd_Law_law_222 : code_ 215 222 = some (.ifCond .eq 7, 225, 229, 0, 0) := by decide +kernel
theorem cd_Law_law_225 : code_ 215 225 = some (.iconst 1, 226, 0, 0, 0) := by decide +kernel
theorem cd_Law_law_226 : code_ 215 226 = some (.goto 4, 229, 230, 0, 0) := by decide +kernel
theorem cd_Law_law_229 : code_ 215 229 = some (.iconst 0, 230, 0, 0, 0) := by decide +kernel
theorem cd_Law_law_230 : code_ 215 230 = some (.invokevirtual 22, 233, 157, 1, 0) := by decide +kernel
theorem cd_Law_law_233 : code_ 215 233 = some (.if_icmp .eq 761, 236, 994, 0, 0) := by decide +kernel
theorem cd_Law_law_236 : code_ 215 236 = some (.iconst 0, 237, 0, 0, 0) := by decide +kernel
theorem cd_Law_law_237 : code_ 215 237 = some (.ireturn, 238, 0, 0, 0) := by decide +kernel
theorem cd_Law_law_238 : code_ 215 238 = some (.aload_n 1, 239, 0, 0, 0) := by decide +kernel
theorem cd_Law_law_239 : code_ 215 239 = some (.aload_n 0, 240, 0, 0, 0) := by decide +kernel
theorem cd_Law_law_240 : code_ 215 240 = some (.iload_n 3, 241, 0, 0, 0) := by decide +kernel
theorem cd_Law_law_241 : code_ 215 241 = some (.iconst 1, 242, 0, 0, 0) := by decide +kernel
theorem cd_Law_law_242 : code_ 215 242 = some (.iadd, 243, 0, 0, 0) := by decide +kernel
theorem cd_Law_law_243 : code_ 215 243 = some (.iaload, 244, 0, 0, 0) := by decide +kernel
theorem cd_Law_law_244 : code_ 215 244 = some (.aload_n 0, 245, 0, 0, 0) := by decide +kernel
theorem cd_Law_law_245 : code_ 215 245 = some (.iload_n 3, 246, 0, 0, 0) := by decide +kernel
theorem cd_Law_law_246 : code_ 215 246 = some (.iconst 2, 247, 0, 0, 0) := by decide +kernel
theorem cd_Law_law_247 : code_ 215 247 = some (.iadd, 248, 0, 0, 0) := by decide +kernel
theorem cd_Law_law_248 : code_ 215 248 = some (.iaload, 249, 0, 0, 0) := by decide +kernel
theorem cd_Law_law_249 : code_ 215 249 = some (.invokevirtual 23, 252, 112, 1, 0) := by decide +kernel
theorem cd_Law_law_252 : code_ 215 252 = some (.aload_n 2, 253, 0, 0, 0) := by decide +kernel
theorem cd_Law_law_253 : code_ 215 253 = some (.aload_n 0, 254, 0, 0, 0) := by decide +kernel
theorem cd_Law_law_254 : code_ 215 254 = some (.iload_n 3, 255, 0, 0, 0) := by decide +kernel
theorem cd_Law_law_255 : code_ 215 255 = some (.iconst 1, 256, 0, 0, 0) := by decide +kernel
theorem cd_Law_law_256 : code_ 215 256 = some (.iadd, 257, 0, 0, 0) := by decide +kernel
theorem cd_Law_law_257 : code_ 215 257 = some (.iaload, 258, 0, 0, 0) := by decide +kernel
theorem cd_Law_law_258 : code_ 215 258 = some (.aload_n 0, 259, 0, 0, 0) := by decide +kernel
theorem cd_Law_law_259 : code_ 215 259 = some (.iload_n 3, 260, 0, 0, 0) := by decide +kernel
theorem cd_Law_law_260 : code_ 215 260 = some (.iconst 2, 261, 0, 0, 0) := by decide +kernel
theorem cd_Law_law_261 : code_ 215 261 = some (.iadd, 262, 0, 0, 0) := by decide +kernel
theorem cd_Law_law_262 : code_ 215 262 = some (.iaload, 263, 0, 0, 0) := by decide +kernel
theorem cd_Law_law_263 : code_ 215 263 = some (.invokevirtual 26, 266, 158, 1, 0) := by decide +kernel
theorem cd_Law_law_266 : code_ 215 266 = some (.if_icmp .eq 728, 269, 994, 0, 0) := by decide +kernel
theorem cd_Law_law_269 : code_ 215 269 = some (.iconst 0, 270, 0, 0, 0) := by decide +kernel
theorem cd_Law_law_270 : code_ 215 270 = some (.ireturn, 271, 0, 0, 0) := by decide +kernel
theorem cd_Law_law_271 : code_ 215 271 = some (.aload_n 1, 272, 0, 0, 0) := by decide +kernel
theorem cd_Law_law_272 : code_ 215 272 = some (.aload_n 0, 273, 0, 0, 0) := by decide +kernel
theorem cd_Law_law_273 : code_ 215 273 = some (.iload_n 3, 274, 0, 0, 0) := by decide +kernel
theorem cd_Law_law_274 : code_ 215 274 = some (.iconst 1, 275, 0, 0, 0) := by decide +kernel
theorem cd_Law_law_275 : code_ 215 275 = some (.iadd, 276, 0, 0, 0) := by decide +kernel
theorem cd_Law_law_276 : code_ 215 276 = some (.iaload, 277, 0, 0, 0) := by decide +kernel
theorem cd_Law_law_277 : code_ 215 277 = some (.aload_n 0, 278, 0, 0, 0) := by decide +kernel
theorem cd_Law_law_278 : code_ 215 278 = some (.iload_n 3, 279, 0, 0, 0) := by decide +kernel
theorem cd_Law_law_279 : code_ 215 279 = some (.iconst 2, 280, 0, 0, 0) := by decide +kernel
theorem cd_Law_law_280 : code_ 215 280 = some (.iadd, 281, 0, 0, 0) := by decide +kernel
theorem cd_Law_law_281 : code_ 215 281 = some (.iaload, 282, 0, 0, 0) := by decide +kernel
theorem cd_Law_law_282 : code_ 215 282 = some (.invokevirtual 27, 285, 113, 1, 0) := by decide +kernel
theorem cd_Law_law_285 : code_ 215 285 = some (.aload_n 2, 286, 0, 0, 0) := by decide +kernel
theorem cd_Law_law_286 : code_ 215 286 = some (.aload_n 0, 287, 0, 0, 0) := by decide +kernel
theorem cd_Law_law_287 : code_ 215 287 = some (.iload_n 3, 288, 0, 0, 0) := by decide +kernel
theorem cd_Law_law_288 : code_ 215 288 = some (.iconst 1, 289, 0, 0, 0) := by decide +kernel
theorem cd_Law_law_289 : code_ 215 289 = some (.iadd, 290, 0, 0, 0) := by decide +kernel
theorem cd_Law_law_290 : code_ 215 290 = some (.iaload, 291, 0, 0, 0) := by decide +kernel
theorem cd_Law_law_291 : code_ 215 291 = some (.aload_n 0, 292, 0, 0, 0) := by decide +kernel
theorem cd_Law_law_292 : code_ 215 292 = some (.iload_n 3, 293, 0, 0, 0) := by decide +kernel
theorem cd_Law_law_293 : code_ 215 293 = some (.iconst 2, 294, 0, 0, 0) := by decide +kernel
theorem cd_Law_law_294 : code_ 215 294 = some (.iadd, 295, 0, 0, 0) := by decide +kernel
theorem cd_Law_law_295 : code_ 215 295 = some (.iaload, 296, 0, 0, 0) := by decide +kernel
theorem cd_Law_law_296 : code_ 215 296 = some (.invokevirtual 30, 299, 159, 1, 0) := by decide +kernel
theorem cd_Law_law_299 : code_ 215 299 = some (.if_icmp .eq 695, 302, 994, 0, 0) := by decide +kernel
theorem cd_Law_law_302 : code_ 215 302 = some (.iconst 0, 303, 0, 0, 0) := by decide +kernel
theorem cd_Law_law_303 : code_ 215 303 = some (.ireturn, 304, 0, 0, 0) := by decide +kernel
theorem cd_Law_law_304 : code_ 215 304 = some (.aload_n 1, 305, 0, 0, 0) := by decide +kernel
theorem cd_Law_law_305 : code_ 215 305 = some (.aload_n 0, 306, 0, 0, 0) := by decide +kernel
theorem cd_Law_law_306 : code_ 215 306 = some (.iload_n 3, 307, 0, 0, 0) := by decide +kernel
theorem cd_Law_law_307 : code_ 215 307 = some (.iconst 1, 308, 0, 0, 0) := by decide +kernel
theorem cd_Law_law_308 : code_ 215 308 = some (.iadd, 309, 0, 0, 0) := by decide +kernel
theorem cd_Law_law_309 : code_ 215 309 = some (.iaload, 310, 0, 0, 0) := by decide +kernel
theorem cd_Law_law_310 : code_ 215 310 = some (.invokevirtual 31, 313, 114, 1, 0) := by decide +kernel
theorem cd_Law_law_313 : code_ 215 313 = some (.aload_n 2, 314, 0, 0, 0) := by decide +kernel
theorem cd_Law_law_314 : code_ 215 314 = some (.aload_n 0, 315, 0, 0, 0) := by decide +kernel
theorem cd_Law_law_315 : code_ 215 315 = some (.iload_n 3, 316, 0, 0, 0) := by decide +kernel
theorem cd_Law_law_316 : code_ 215 316 = some (.iconst 1, 317, 0, 0, 0) := by decide +kernel
theorem cd_Law_law_317 : code_ 215 317 = some (.iadd, 318, 0, 0, 0) := by decide +kernel
theorem cd_Law_law_318 : code_ 215 318 = some (.iaload, 319, 0, 0, 0) := by decide +kernel
theorem cd_Law_law_319 : code_ 215 319 = some (.invokevirtual 35, 322, 160, 1, 0) := by decide +kernel
theorem cd_Law_law_322 : code_ 215 322 = some (.if_icmp .eq 672, 325, 994, 0, 0) := by decide +kernel
theorem cd_Law_law_325 : code_ 215 325 = some (.iconst 0, 326, 0, 0, 0) := by decide +kernel
theorem cd_Law_law_326 : code_ 215 326 = some (.ireturn, 327, 0, 0, 0) := by decide +kernel
theorem cd_Law_law_327 : code_ 215 327 = some (.aload_n 1, 328, 0, 0, 0) := by decide +kernel
theorem cd_Law_law_328 : code_ 215 328 = some (.invokevirtual 36, 331, 115, 1, 0) := by decide +kernel
theorem cd_Law_law_331 : code_ 215 331 = some (.aload_n 2, 332, 0, 0, 0) := by decide +kernel
theorem cd_Law_law_332 : code_ 215 332 = some (.invokevirtual 40, 335, 161, 1, 0) := by decide +kernel
theorem cd_Law_law_335 : code_ 215 335 = some (.if_icmp .eq 659, 338, 994, 0, 0) := by decide +kernel
theorem cd_Law_law_338 : code_ 215 338 = some (.iconst 0, 339, 0, 0, 0) := by decide +kernel
theorem cd_Law_law_339 : code_ 215 339 = some (.ireturn, 340, 0, 0, 0) := by decide +kernel
theorem cd_Law_law_340 : code_ 215 340 = some (.aload_n 1, 341, 0, 0, 0) := by decide +kernel
theorem cd_Law_law_341 : code_ 215 341 = some (.invokevirtual 41, 344, 116, 1, 0) := by decide +kernel
theorem cd_Law_law_344 : code_ 215 344 = some (.aload_n 2, 345, 0, 0, 0) := by decide +kernel
theorem cd_Law_law_345 : code_ 215 345 = some (.invokevirtual 44, 348, 164, 1, 0) := by decide +kernel
theorem cd_Law_law_348 : code_ 215 348 = some (.if_icmp .eq 646, 351, 994, 0, 0) := by decide +kernel
theorem cd_Law_law_351 : code_ 215 351 = some (.iconst 0, 352, 0, 0, 0) := by decide +kernel
theorem cd_Law_law_352 : code_ 215 352 = some (.ireturn, 353, 0, 0, 0) := by decide +kernel
theorem cd_Law_law_353 : code_ 215 353 = some (.aload_n 1, 354, 0, 0, 0) := by decide +kernel
theorem cd_Law_law_354 : code_ 215 354 = some (.aload_n 0, 355, 0, 0, 0) := by decide +kernel
theorem cd_Law_law_355 : code_ 215 355 = some (.iload_n 3, 356, 0, 0, 0) := by decide +kernel
theorem cd_Law_law_356 : code_ 215 356 = some (.iconst 1, 357, 0, 0, 0) := by decide +kernel
theorem cd_Law_law_357 : code_ 215 357 = some (.iadd, 358, 0, 0, 0) := by decide +kernel
theorem cd_Law_law_358 : code_ 215 358 = some (.iaload, 359, 0, 0, 0) := by decide +kernel
theorem cd_Law_law_359 : code_ 215 359 = some (.invokevirtual 45, 362, 117, 1, 0) := by decide +kernel
theorem cd_Law_law_362 : code_ 215 362 = some (.aload_n 2, 363, 0, 0, 0) := by decide +kernel
theorem cd_Law_law_363 : code_ 215 363 = some (.aload_n 0, 364, 0, 0, 0) := by decide +kernel
theorem cd_Law_law_364 : code_ 215 364 = some (.iload_n 3, 365, 0, 0, 0) := by decide +kernel
theorem cd_Law_law_365 : code_ 215 365 = some (.iconst 1, 366, 0, 0, 0) := by decide +kernel
theorem cd_Law_law_366 : code_ 215 366 = some (.iadd, 367, 0, 0, 0) := by decide +kernel
theorem cd_Law_law_367 : code_ 215 367 = some (.iaload, 368, 0, 0, 0) := by decide +kernel
theorem cd_Law_law_368 : code_ 215 368 = some (.invokevirtual 48, 371, 183, 1, 0) := by decide +kernel
theorem cd_Law_law_371 : code_ 215 371 = some (.if_icmp .eq 623, 374, 994, 0, 0) := by decide +kernel
theorem cd_Law_law_374 : code_ 215 374 = some (.iconst 0, 375, 0, 0, 0) := by decide +kernel
theorem cd_Law_law_375 : code_ 215 375 = some (.ireturn, 376, 0, 0, 0) := by decide +kernel
theorem cd_Law_law_376 : code_ 215 376 = some (.aload_n 1, 377, 0, 0, 0) := by decide +kernel
theorem cd_Law_law_377 : code_ 215 377 = some (.invokevirtual 49, 380, 118, 1, 0) := by decide +kernel
theorem cd_Law_law_380 : code_ 215 380 = some (.aload_n 2, 381, 0, 0, 0) := by decide +kernel
theorem cd_Law_law_381 : code_ 215 381 = some (.invokevirtual 52, 384, 185, 1, 0) := by decide +kernel
theorem cd_Law_law_384 : code_ 215 384 = some (.if_icmp .eq 610, 387, 994, 0, 0) := by decide +kernel
theorem cd_Law_law_387 : code_ 215 387 = some (.iconst 0, 388, 0, 0, 0) := by decide +kernel
theorem cd_Law_law_388 : code_ 215 388 = some (.ireturn, 389, 0, 0, 0) := by decide +kernel
theorem cd_Law_law_389 : code_ 215 389 = some (.aload_n 1, 390, 0, 0, 0) := by decide +kernel
theorem cd_Law_law_390 : code_ 215 390 = some (.aload_n 0, 391, 0, 0, 0) := by decide +kernel
theorem cd_Law_law_391 : code_ 215 391 = some (.iload_n 3, 392, 0, 0, 0) := by decide +kernel
theorem cd_Law_law_392 : code_ 215 392 = some (.iconst 1, 393, 0, 0, 0) := by decide +kernel
theorem cd_Law_law_393 : code_ 215 393 = some (.iadd, 394, 0, 0, 0) := by decide +kernel
theorem cd_Law_law_394 : code_ 215 394 = some (.iaload, 395, 0, 0, 0) := by decide +kernel
theorem cd_Law_law_395 : code_ 215 395 = some (.aload_n 0, 396, 0, 0, 0) := by decide +kernel
theorem cd_Law_law_396 : code_ 215 396 = some (.iload_n 3, 397, 0, 0, 0) := by decide +kernel
theorem cd_Law_law_397 : code_ 215 397 = some (.iconst 2, 398, 0, 0, 0) := by decide +kernel
theorem cd_Law_law_398 : code_ 215 398 = some (.iadd, 399, 0, 0, 0) := by decide +kernel
theorem cd_Law_law_399 : code_ 215 399 = some (.iaload, 400, 0, 0, 0) := by decide +kernel
theorem cd_Law_law_400 : code_ 215 400 = some (.invokevirtual 53, 403, 119, 1, 0) := by decide +kernel
theorem cd_Law_law_403 : code_ 215 403 = some (.aload_n 2, 404, 0, 0, 0) := by decide +kernel
theorem cd_Law_law_404 : code_ 215 404 = some (.aload_n 0, 405, 0, 0, 0) := by decide +kernel
theorem cd_Law_law_405 : code_ 215 405 = some (.iload_n 3, 406, 0, 0, 0) := by decide +kernel
theorem cd_Law_law_406 : code_ 215 406 = some (.iconst 1, 407, 0, 0, 0) := by decide +kernel
theorem cd_Law_law_407 : code_ 215 407 = some (.iadd, 408, 0, 0, 0) := by decide +kernel
theorem cd_Law_law_408 : code_ 215 408 = some (.iaload, 409, 0, 0, 0) := by decide +kernel
theorem cd_Law_law_409 : code_ 215 409 = some (.aload_n 0, 410, 0, 0, 0) := by decide +kernel
theorem cd_Law_law_410 : code_ 215 410 = some (.iload_n 3, 411, 0, 0, 0) := by decide +kernel
theorem cd_Law_law_411 : code_ 215 411 = some (.iconst 2, 412, 0, 0, 0) := by decide +kernel
theorem cd_Law_law_412 : code_ 215 412 = some (.iadd, 413, 0, 0, 0) := by decide +kernel
theorem cd_Law_law_413 : code_ 215 413 = some (.iaload, 414, 0, 0, 0) := by decide +kernel
theorem cd_Law_law_414 : code_ 215 414 = some (.invokevirtual 56, 417, 186, 1, 0) := by decide +kernel
theorem cd_Law_law_417 : code_ 215 417 = some (.if_icmp .eq 577, 420, 994, 0, 0) := by decide +kernel
theorem cd_Law_law_420 : code_ 215 420 = some (.iconst 0, 421, 0, 0, 0) := by decide +kernel
theorem cd_Law_law_421 : code_ 215 421 = some (.ireturn, 422, 0, 0, 0) := by decide +kernel
theorem cd_Law_law_422 : code_ 215 422 = some (.aload_n 1, 423, 0, 0, 0) := by decide +kernel
theorem cd_Law_law_423 : code_ 215 423 = some (.aload_n 0, 424, 0, 0, 0) := by decide +kernel
theorem cd_Law_law_424 : code_ 215 424 = some (.iload_n 3, 425, 0, 0, 0) := by decide +kernel
theorem cd_Law_law_425 : code_ 215 425 = some (.iconst 1, 426, 0, 0, 0) := by decide +kernel
theorem cd_Law_law_426 : code_ 215 426 = some (.iadd, 427, 0, 0, 0) := by decide +kernel
theorem cd_Law_law_427 : code_ 215 427 = some (.iaload, 428, 0, 0, 0) := by decide +kernel
theorem cd_Law_law_428 : code_ 215 428 = some (.invokevirtual 57, 431, 120, 1, 0) := by decide +kernel
theorem cd_Law_law_431 : code_ 215 431 = some (.aload_n 2, 432, 0, 0, 0) := by decide +kernel
theorem cd_Law_law_432 : code_ 215 432 = some (.aload_n 0, 433, 0, 0, 0) := by decide +kernel
theorem cd_Law_law_433 : code_ 215 433 = some (.iload_n 3, 434, 0, 0, 0) := by decide +kernel
theorem cd_Law_law_434 : code_ 215 434 = some (.iconst 1, 435, 0, 0, 0) := by decide +kernel
theorem cd_Law_law_435 : code_ 215 435 = some (.iadd, 436, 0, 0, 0) := by decide +kernel
theorem cd_Law_law_436 : code_ 215 436 = some (.iaload, 437, 0, 0, 0) := by decide +kernel
theorem cd_Law_law_437 : code_ 215 437 = some (.invokevirtual 60, 440, 187, 1, 0) := by decide +kernel
theorem cd_Law_law_440 : code_ 215 440 = some (.if_icmp .eq 554, 443, 994, 0, 0) := by decide +kernel
theorem cd_Law_law_443 : code_ 215 443 = some (.iconst 0, 444, 0, 0, 0) := by decide +kernel
theorem cd_Law_law_444 : code_ 215 444 = some (.ireturn, 445, 0, 0, 0) := by decide +kernel
theorem cd_Law_law_445 : code_ 215 445 = some (.aload_n 1, 446, 0, 0, 0) := by decide +kernel
theorem cd_Law_law_446 : code_ 215 446 = some (.aload_n 0, 447, 0, 0, 0) := by decide +kernel
theorem cd_Law_law_447 : code_ 215 447 = some (.iload_n 3, 448, 0, 0, 0) := by decide +kernel
theorem cd_Law_law_448 : code_ 215 448 = some (.iconst 1, 449, 0, 0, 0) := by decide +kernel
theorem cd_Law_law_449 : code_ 215 449 = some (.iadd, 450, 0, 0, 0) := by decide +kernel
theorem cd_Law_law_450 : code_ 215 450 = some (.iaload, 451, 0, 0, 0) := by decide +kernel
theorem cd_Law_law_451 : code_ 215 451 = some (.invokevirtual 61, 454, 121, 1, 0) := by decide +kernel
theorem cd_Law_law_454 : code_ 215 454 = some (.aload_n 2, 455, 0, 0, 0) := by decide +kernel
theorem cd_Law_law_455 : code_ 215 455 = some (.aload_n 0, 456, 0, 0, 0) := by decide +kernel
theorem cd_Law_law_456 : code_ 215 456 = some (.iload_n 3, 457, 0, 0, 0) := by decide +kernel
theorem cd_Law_law_457 : code_ 215 457 = some (.iconst 1, 458, 0, 0, 0) := by decide +kernel
theorem cd_Law_law_458 : code_ 215 458 = some (.iadd, 459, 0, 0, 0) := by decide +kernel
theorem cd_Law_law_459 : code_ 215 459 = some (.iaload, 460, 0, 0, 0) := by decide +kernel
theorem cd_Law_law_460 : code_ 215 460 = some (.invokevirtual 64, 463, 188, 1, 0) := by decide +kernel
theorem cd_Law_law_463 : code_ 215 463 = some (.if_icmp .eq 531, 466, 994, 0, 0) := by decide +kernel
theorem cd_Law_law_466 : code_ 215 466 = some (.iconst 0, 467, 0, 0, 0) := by decide +kernel
theorem cd_Law_law_467 : code_ 215 467 = some (.ireturn, 468, 0, 0, 0) := by decide +kernel
theorem cd_Law_law_468 : code_ 215 468 = some (.aload_n 1, 469, 0, 0, 0) := by decide +kernel
theorem cd_Law_law_469 : code_ 215 469 = some (.invokevirtual 65, 472, 122, 1, 0) := by decide +kernel
theorem cd_Law_law_472 : code_ 215 472 = some (.aload_n 2, 473, 0, 0, 0) := by decide +kernel
theorem cd_Law_law_473 : code_ 215 473 = some (.invokevirtual 68, 476, 190, 1, 0) := by decide +kernel
theorem cd_Law_law_476 : code_ 215 476 = some (.if_icmp .eq 518, 479, 994, 0, 0) := by decide +kernel
theorem cd_Law_law_479 : code_ 215 479 = some (.iconst 0, 480, 0, 0, 0) := by decide +kernel
theorem cd_Law_law_480 : code_ 215 480 = some (.ireturn, 481, 0, 0, 0) := by decide +kernel
theorem cd_Law_law_481 : code_ 215 481 = some (.aload_n 1, 482, 0, 0, 0) := by decide +kernel
theorem cd_Law_law_482 : code_ 215 482 = some (.aload_n 0, 483, 0, 0, 0) := by decide +kernel
theorem cd_Law_law_483 : code_ 215 483 = some (.iload_n 3, 484, 0, 0, 0) := by decide +kernel
theorem cd_Law_law_484 : code_ 215 484 = some (.iconst 1, 485, 0, 0, 0) := by decide +kernel
theorem cd_Law_law_485 : code_ 215 485 = some (.iadd, 486, 0, 0, 0) := by decide +kernel
theorem cd_Law_law_486 : code_ 215 486 = some (.iaload, 487, 0, 0, 0) := by decide +kernel
theorem cd_Law_law_487 : code_ 215 487 = some (.aload_n 0, 488, 0, 0, 0) := by decide +kernel
theorem cd_Law_law_488 : code_ 215 488 = some (.iload_n 3, 489, 0, 0, 0) := by decide +kernel
theorem cd_Law_law_489 : code_ 215 489 = some (.iconst 2, 490, 0, 0, 0) := by decide +kernel
theorem cd_Law_law_490 : code_ 215 490 = some (.iadd, 491, 0, 0, 0) := by decide +kernel
theorem cd_Law_law_491 : code_ 215 491 = some (.iaload, 492, 0, 0, 0) := by decide +kernel
theorem cd_Law_law_492 : code_ 215 492 = some (.aload_n 0, 493, 0, 0, 0) := by decide +kernel
theorem cd_Law_law_493 : code_ 215 493 = some (.iload_n 3, 494, 0, 0, 0) := by decide +kernel
theorem cd_Law_law_494 : code_ 215 494 = some (.iconst 3, 495, 0, 0, 0) := by decide +kernel
theorem cd_Law_law_495 : code_ 215 495 = some (.iadd, 496, 0, 0, 0) := by decide +kernel
theorem cd_Law_law_496 : code_ 215 496 = some (.iaload, 497, 0, 0, 0) := by decide +kernel
theorem cd_Law_law_497 : code_ 215 497 = some (.invokevirtual 69, 500, 123, 1, 0) := by decide +kernel
theorem cd_Law_law_500 : code_ 215 500 = some (.aload_n 2, 501, 0, 0, 0) := by decide +kernel
theorem cd_Law_law_501 : code_ 215 501 = some (.aload_n 0, 502, 0, 0, 0) := by decide +kernel
theorem cd_Law_law_502 : code_ 215 502 = some (.iload_n 3, 503, 0, 0, 0) := by decide +kernel
theorem cd_Law_law_503 : code_ 215 503 = some (.iconst 1, 504, 0, 0, 0) := by decide +kernel
theorem cd_Law_law_504 : code_ 215 504 = some (.iadd, 505, 0, 0, 0) := by decide +kernel
theorem cd_Law_law_505 : code_ 215 505 = some (.iaload, 506, 0, 0, 0) := by decide +kernel
theorem cd_Law_law_506 : code_ 215 506 = some (.aload_n 0, 507, 0, 0, 0) := by decide +kernel
theorem cd_Law_law_507 : code_ 215 507 = some (.iload_n 3, 508, 0, 0, 0) := by decide +kernel
theorem cd_Law_law_508 : code_ 215 508 = some (.iconst 2, 509, 0, 0, 0) := by decide +kernel
theorem cd_Law_law_509 : code_ 215 509 = some (.iadd, 510, 0, 0, 0) := by decide +kernel
theorem cd_Law_law_510 : code_ 215 510 = some (.iaload, 511, 0, 0, 0) := by decide +kernel
theorem cd_Law_law_511 : code_ 215 511 = some (.aload_n 0, 512, 0, 0, 0) := by decide +kernel
theorem cd_Law_law_512 : code_ 215 512 = some (.iload_n 3, 513, 0, 0, 0) := by decide +kernel
theorem cd_Law_law_513 : code_ 215 513 = some (.iconst 3, 514, 0, 0, 0) := by decide +kernel
theorem cd_Law_law_514 : code_ 215 514 = some (.iadd, 515, 0, 0, 0) := by decide +kernel
theorem cd_Law_law_515 : code_ 215 515 = some (.iaload, 516, 0, 0, 0) := by decide +kernel
theorem cd_Law_law_516 : code_ 215 516 = some (.invokevirtual 73, 519, 192, 1, 0) := by decide +kernel
theorem cd_Law_law_519 : code_ 215 519 = some (.if_icmp .eq 475, 522, 994, 0, 0) := by decide +kernel
theorem cd_Law_law_522 : code_ 215 522 = some (.iconst 0, 523, 0, 0, 0) := by decide +kernel
theorem cd_Law_law_523 : code_ 215 523 = some (.ireturn, 524, 0, 0, 0) := by decide +kernel
theorem cd_Law_law_524 : code_ 215 524 = some (.aload_n 1, 525, 0, 0, 0) := by decide +kernel
theorem cd_Law_law_525 : code_ 215 525 = some (.aload_n 0, 526, 0, 0, 0) := by decide +kernel
theorem cd_Law_law_526 : code_ 215 526 = some (.iload_n 3, 527, 0, 0, 0) := by decide +kernel
theorem cd_Law_law_527 : code_ 215 527 = some (.iconst 1, 528, 0, 0, 0) := by decide +kernel
theorem cd_Law_law_528 : code_ 215 528 = some (.iadd, 529, 0, 0, 0) := by decide +kernel
theorem cd_Law_law_529 : code_ 215 529 = some (.iaload, 530, 0, 0, 0) := by decide +kernel
theorem cd_Law_law_530 : code_ 215 530 = some (.invokevirtual 74, 533, 124, 1, 0) := by decide +kernel
theorem cd_Law_law_533 : code_ 215 533 = some (.aload_n 2, 534, 0, 0, 0) := by decide +kernel
theorem cd_Law_law_534 : code_ 215 534 = some (.aload_n 0, 535, 0, 0, 0) := by decide +kernel
theorem cd_Law_law_535 : code_ 215 535 = some (.iload_n 3, 536, 0, 0, 0) := by decide +kernel
theorem cd_Law_law_536 : code_ 215 536 = some (.iconst 1, 537, 0, 0, 0) := by decide +kernel
theorem cd_Law_law_537 : code_ 215 537 = some (.iadd, 538, 0, 0, 0) := by decide +kernel
theorem cd_Law_law_538 : code_ 215 538 = some (.iaload, 539, 0, 0, 0) := by decide +kernel
theorem cd_Law_law_539 : code_ 215 539 = some (.invokevirtual 77, 542, 193, 1, 0) := by decide +kernel
theorem cd_Law_law_542 : code_ 215 542 = some (.if_icmp .eq 452, 545, 994, 0, 0) := by decide +kernel
theorem cd_Law_law_545 : code_ 215 545 = some (.iconst 0, 546, 0, 0, 0) := by decide +kernel
theorem cd_Law_law_546 : code_ 215 546 = some (.ireturn, 547, 0, 0, 0) := by decide +kernel
theorem cd_Law_law_547 : code_ 215 547 = some (.aload_n 1, 548, 0, 0, 0) := by decide +kernel
theorem cd_Law_law_548 : code_ 215 548 = some (.aload_n 0, 549, 0, 0, 0) := by decide +kernel
theorem cd_Law_law_549 : code_ 215 549 = some (.iload_n 3, 550, 0, 0, 0) := by decide +kernel
theorem cd_Law_law_550 : code_ 215 550 = some (.iconst 1, 551, 0, 0, 0) := by decide +kernel
theorem cd_Law_law_551 : code_ 215 551 = some (.iadd, 552, 0, 0, 0) := by decide +kernel
theorem cd_Law_law_552 : code_ 215 552 = some (.iaload, 553, 0, 0, 0) := by decide +kernel
theorem cd_Law_law_553 : code_ 215 553 = some (.aload_n 0, 554, 0, 0, 0) := by decide +kernel
theorem cd_Law_law_554 : code_ 215 554 = some (.iload_n 3, 555, 0, 0, 0) := by decide +kernel
theorem cd_Law_law_555 : code_ 215 555 = some (.iconst 2, 556, 0, 0, 0) := by decide +kernel
theorem cd_Law_law_556 : code_ 215 556 = some (.iadd, 557, 0, 0, 0) := by decide +kernel
theorem cd_Law_law_557 : code_ 215 557 = some (.iaload, 558, 0, 0, 0) := by decide +kernel
theorem cd_Law_law_558 : code_ 215 558 = some (.aload_n 0, 559, 0, 0, 0) := by decide +kernel
theorem cd_Law_law_559 : code_ 215 559 = some (.iload_n 3, 560, 0, 0, 0) := by decide +kernel
theorem cd_Law_law_560 : code_ 215 560 = some (.iconst 3, 561, 0, 0, 0) := by decide +kernel
theorem cd_Law_law_561 : code_ 215 561 = some (.iadd, 562, 0, 0, 0) := by decide +kernel
theorem cd_Law_law_562 : code_ 215 562 = some (.iaload, 563, 0, 0, 0) := by decide +kernel
theorem cd_Law_law_563 : code_ 215 563 = some (.aload_n 0, 564, 0, 0, 0) := by decide +kernel
theorem cd_Law_law_564 : code_ 215 564 = some (.iload_n 3, 565, 0, 0, 0) := by decide +kernel
theorem cd_Law_law_565 : code_ 215 565 = some (.iconst 4, 566, 0, 0, 0) := by decide +kernel
theorem cd_Law_law_566 : code_ 215 566 = some (.iadd, 567, 0, 0, 0) := by decide +kernel
theorem cd_Law_law_567 : code_ 215 567 = some (.iaload, 568, 0, 0, 0) := by decide +kernel
theorem cd_Law_law_568 : code_ 215 568 = some (.aload_n 0, 569, 0, 0, 0) := by decide +kernel
theorem cd_Law_law_569 : code_ 215 569 = some (.iload_n 3, 570, 0, 0, 0) := by decide +kernel
theorem cd_Law_law_570 : code_ 215 570 = some (.iconst 5, 571, 0, 0, 0) := by decide +kernel
theorem cd_Law_law_571 : code_ 215 571 = some (.iadd, 572, 0, 0, 0) := by decide +kernel
theorem cd_Law_law_572 : code_ 215 572 = some (.iaload, 573, 0, 0, 0) := by decide +kernel
theorem cd_Law_law_573 : code_ 215 573 = some (.aload_n 0, 574, 0, 0, 0) := by decide +kernel
theorem cd_Law_law_574 : code_ 215 574 = some (.iload_n 3, 575, 0, 0, 0) := by decide +kernel
theorem cd_Law_law_575 : code_ 215 575 = some (.bipush 6, 577, 0, 0, 0) := by decide +kernel
theorem cd_Law_law_577 : code_ 215 577 = some (.iadd, 578, 0, 0, 0) := by decide +kernel
theorem cd_Law_law_578 : code_ 215 578 = some (.iaload, 579, 0, 0, 0) := by decide +kernel
theorem cd_Law_law_579 : code_ 215 579 = some (.invokevirtual 78, 582, 125, 1, 0) := by decide +kernel
theorem cd_Law_law_582 : code_ 215 582 = some (.aload_n 2, 583, 0, 0, 0) := by decide +kernel
theorem cd_Law_law_583 : code_ 215 583 = some (.aload_n 0, 584, 0, 0, 0) := by decide +kernel
theorem cd_Law_law_584 : code_ 215 584 = some (.iload_n 3, 585, 0, 0, 0) := by decide +kernel
theorem cd_Law_law_585 : code_ 215 585 = some (.iconst 1, 586, 0, 0, 0) := by decide +kernel
theorem cd_Law_law_586 : code_ 215 586 = some (.iadd, 587, 0, 0, 0) := by decide +kernel
theorem cd_Law_law_587 : code_ 215 587 = some (.iaload, 588, 0, 0, 0) := by decide +kernel
theorem cd_Law_law_588 : code_ 215 588 = some (.aload_n 0, 589, 0, 0, 0) := by decide +kernel
theorem cd_Law_law_589 : code_ 215 589 = some (.iload_n 3, 590, 0, 0, 0) := by decide +kernel
theorem cd_Law_law_590 : code_ 215 590 = some (.iconst 2, 591, 0, 0, 0) := by decide +kernel
theorem cd_Law_law_591 : code_ 215 591 = some (.iadd, 592, 0, 0, 0) := by decide +kernel
theorem cd_Law_law_592 : code_ 215 592 = some (.iaload, 593, 0, 0, 0) := by decide +kernel
theorem cd_Law_law_593 : code_ 215 593 = some (.aload_n 0, 594, 0, 0, 0) := by decide +kernel
theorem cd_Law_law_594 : code_ 215 594 = some (.iload_n 3, 595, 0, 0, 0) := by decide +kernel
theorem cd_Law_law_595 : code_ 215 595 = some (.iconst 3, 596, 0, 0, 0) := by decide +kernel
theorem cd_Law_law_596 : code_ 215 596 = some (.iadd, 597, 0, 0, 0) := by decide +kernel
theorem cd_Law_law_597 : code_ 215 597 = some (.iaload, 598, 0, 0, 0) := by decide +kernel
theorem cd_Law_law_598 : code_ 215 598 = some (.aload_n 0, 599, 0, 0, 0) := by decide +kernel
theorem cd_Law_law_599 : code_ 215 599 = some (.iload_n 3, 600, 0, 0, 0) := by decide +kernel
theorem cd_Law_law_600 : code_ 215 600 = some (.iconst 4, 601, 0, 0, 0) := by decide +kernel
theorem cd_Law_law_601 : code_ 215 601 = some (.iadd, 602, 0, 0, 0) := by decide +kernel
theorem cd_Law_law_602 : code_ 215 602 = some (.iaload, 603, 0, 0, 0) := by decide +kernel
theorem cd_Law_law_603 : code_ 215 603 = some (.aload_n 0, 604, 0, 0, 0) := by decide +kernel
theorem cd_Law_law_604 : code_ 215 604 = some (.iload_n 3, 605, 0, 0, 0) := by decide +kernel
theorem cd_Law_law_605 : code_ 215 605 = some (.iconst 5, 606, 0, 0, 0) := by decide +kernel
theorem cd_Law_law_606 : code_ 215 606 = some (.iadd, 607, 0, 0, 0) := by decide +kernel
theorem cd_Law_law_607 : code_ 215 607 = some (.iaload, 608, 0, 0, 0) := by decide +kernel
theorem cd_Law_law_608 : code_ 215 608 = some (.aload_n 0, 609, 0, 0, 0) := by decide +kernel
theorem cd_Law_law_609 : code_ 215 609 = some (.iload_n 3, 610, 0, 0, 0) := by decide +kernel
theorem cd_Law_law_610 : code_ 215 610 = some (.bipush 6, 612, 0, 0, 0) := by decide +kernel
theorem cd_Law_law_612 : code_ 215 612 = some (.iadd, 613, 0, 0, 0) := by decide +kernel
theorem cd_Law_law_613 : code_ 215 613 = some (.iaload, 614, 0, 0, 0) := by decide +kernel
theorem cd_Law_law_614 : code_ 215 614 = some (.invokevirtual 82, 617, 195, 1, 0) := by decide +kernel
theorem cd_Law_law_617 : code_ 215 617 = some (.lcmp, 618, 0, 0, 0) := by decide +kernel
theorem cd_Law_law_618 : code_ 215 618 = some (.ifCond .eq 376, 621, 994, 0, 0) := by decide +kernel
theorem cd_Law_law_621 : code_ 215 621 = some (.iconst 0, 622, 0, 0, 0) := by decide +kernel
theorem cd_Law_law_622 : code_ 215 622 = some (.ireturn, 623, 0, 0, 0) := by decide +kernel
theorem cd_Law_law_623 : code_ 215 623 = some (.aload_n 1, 624, 0, 0, 0) := by decide +kernel
theorem cd_Law_law_624 : code_ 215 624 = some (.aload_n 0, 625, 0, 0, 0) := by decide +kernel
theorem cd_Law_law_625 : code_ 215 625 = some (.iload_n 3, 626, 0, 0, 0) := by decide +kernel
theorem cd_Law_law_626 : code_ 215 626 = some (.iconst 1, 627, 0, 0, 0) := by decide +kernel
theorem cd_Law_law_627 : code_ 215 627 = some (.iadd, 628, 0, 0, 0) := by decide +kernel
theorem cd_Law_law_628 : code_ 215 628 = some (.iaload, 629, 0, 0, 0) := by decide +kernel
theorem cd_Law_law_629 : code_ 215 629 = some (.aload_n 0, 630, 0, 0, 0) := by decide +kernel
theorem cd_Law_law_630 : code_ 215 630 = some (.iload_n 3, 631, 0, 0, 0) := by decide +kernel
theorem cd_Law_law_631 : code_ 215 631 = some (.iconst 2, 632, 0, 0, 0) := by decide +kernel
theorem cd_Law_law_632 : code_ 215 632 = some (.iadd, 633, 0, 0, 0) := by decide +kernel
theorem cd_Law_law_633 : code_ 215 633 = some (.iaload, 634, 0, 0, 0) := by decide +kernel
theorem cd_Law_law_634 : code_ 215 634 = some (.invokevirtual 83, 637, 126, 1, 0) := by decide +kernel
theorem cd_Law_law_637 : code_ 215 637 = some (.aload_n 2, 638, 0, 0, 0) := by decide +kernel
theorem cd_Law_law_638 : code_ 215 638 = some (.aload_n 0, 639, 0, 0, 0) := by decide +kernel
theorem cd_Law_law_639 : code_ 215 639 = some (.iload_n 3, 640, 0, 0, 0) := by decide +kernel
theorem cd_Law_law_640 : code_ 215 640 = some (.iconst 1, 641, 0, 0, 0) := by decide +kernel
theorem cd_Law_law_641 : code_ 215 641 = some (.iadd, 642, 0, 0, 0) := by decide +kernel
theorem cd_Law_law_642 : code_ 215 642 = some (.iaload, 643, 0, 0, 0) := by decide +kernel
theorem cd_Law_law_643 : code_ 215 643 = some (.aload_n 0, 644, 0, 0, 0) := by decide +kernel
theorem cd_Law_law_644 : code_ 215 644 = some (.iload_n 3, 645, 0, 0, 0) := by decide +kernel
theorem cd_Law_law_645 : code_ 215 645 = some (.iconst 2, 646, 0, 0, 0) := by decide +kernel
theorem cd_Law_law_646 : code_ 215 646 = some (.iadd, 647, 0, 0, 0) := by decide +kernel
theorem cd_Law_law_647 : code_ 215 647 = some (.iaload, 648, 0, 0, 0) := by decide +kernel
theorem cd_Law_law_648 : code_ 215 648 = some (.invokevirtual 86, 651, 196, 1, 0) := by decide +kernel
theorem cd_Law_law_651 : code_ 215 651 = some (.if_icmp .eq 343, 654, 994, 0, 0) := by decide +kernel
theorem cd_Law_law_654 : code_ 215 654 = some (.iconst 0, 655, 0, 0, 0) := by decide +kernel
theorem cd_Law_law_655 : code_ 215 655 = some (.ireturn, 656, 0, 0, 0) := by decide +kernel
theorem cd_Law_law_656 : code_ 215 656 = some (.aload_n 1, 657, 0, 0, 0) := by decide +kernel
theorem cd_Law_law_657 : code_ 215 657 = some (.aload_n 0, 658, 0, 0, 0) := by decide +kernel
theorem cd_Law_law_658 : code_ 215 658 = some (.iload_n 3, 659, 0, 0, 0) := by decide +kernel
theorem cd_Law_law_659 : code_ 215 659 = some (.iconst 1, 660, 0, 0, 0) := by decide +kernel
theorem cd_Law_law_660 : code_ 215 660 = some (.iadd, 661, 0, 0, 0) := by decide +kernel
theorem cd_Law_law_661 : code_ 215 661 = some (.iaload, 662, 0, 0, 0) := by decide +kernel
theorem cd_Law_law_662 : code_ 215 662 = some (.aload_n 0, 663, 0, 0, 0) := by decide +kernel
theorem cd_Law_law_663 : code_ 215 663 = some (.iload_n 3, 664, 0, 0, 0) := by decide +kernel
theorem cd_Law_law_664 : code_ 215 664 = some (.iconst 2, 665, 0, 0, 0) := by decide +kernel
theorem cd_Law_law_665 : code_ 215 665 = some (.iadd, 666, 0, 0, 0) := by decide +kernel
theorem cd_Law_law_666 : code_ 215 666 = some (.iaload, 667, 0, 0, 0) := by decide +kernel
theorem cd_Law_law_667 : code_ 215 667 = some (.aload_n 0, 668, 0, 0, 0) := by decide +kernel
theorem cd_Law_law_668 : code_ 215 668 = some (.iload_n 3, 669, 0, 0, 0) := by decide +kernel
theorem cd_Law_law_669 : code_ 215 669 = some (.iconst 3, 670, 0, 0, 0) := by decide +kernel
theorem cd_Law_law_670 : code_ 215 670 = some (.iadd, 671, 0, 0, 0) := by decide +kernel
theorem cd_Law_law_671 : code_ 215 671 = some (.iaload, 672, 0, 0, 0) := by decide +kernel
theorem cd_Law_law_672 : code_ 215 672 = some (.aload_n 0, 673, 0, 0, 0) := by decide +kernel
theorem cd_Law_law_673 : code_ 215 673 = some (.iload_n 3, 674, 0, 0, 0) := by decide +kernel
theorem cd_Law_law_674 : code_ 215 674 = some (.iconst 4, 675, 0, 0, 0) := by decide +kernel
theorem cd_Law_law_675 : code_ 215 675 = some (.iadd, 676, 0, 0, 0) := by decide +kernel
theorem cd_Law_law_676 : code_ 215 676 = some (.iaload, 677, 0, 0, 0) := by decide +kernel
theorem cd_Law_law_677 : code_ 215 677 = some (.aload_n 0, 678, 0, 0, 0) := by decide +kernel
theorem cd_Law_law_678 : code_ 215 678 = some (.iload_n 3, 679, 0, 0, 0) := by decide +kernel
theorem cd_Law_law_679 : code_ 215 679 = some (.iconst 5, 680, 0, 0, 0) := by decide +kernel
theorem cd_Law_law_680 : code_ 215 680 = some (.iadd, 681, 0, 0, 0) := by decide +kernel
theorem cd_Law_law_681 : code_ 215 681 = some (.iaload, 682, 0, 0, 0) := by decide +kernel
theorem cd_Law_law_682 : code_ 215 682 = some (.invokevirtual 87, 685, 127, 1, 0) := by decide +kernel
theorem cd_Law_law_685 : code_ 215 685 = some (.aload_n 2, 686, 0, 0, 0) := by decide +kernel
theorem cd_Law_law_686 : code_ 215 686 = some (.aload_n 0, 687, 0, 0, 0) := by decide +kernel
theorem cd_Law_law_687 : code_ 215 687 = some (.iload_n 3, 688, 0, 0, 0) := by decide +kernel
theorem cd_Law_law_688 : code_ 215 688 = some (.iconst 1, 689, 0, 0, 0) := by decide +kernel
theorem cd_Law_law_689 : code_ 215 689 = some (.iadd, 690, 0, 0, 0) := by decide +kernel
theorem cd_Law_law_690 : code_ 215 690 = some (.iaload, 691, 0, 0, 0) := by decide +kernel
theorem cd_Law_law_691 : code_ 215 691 = some (.aload_n 0, 692, 0, 0, 0) := by decide +kernel
theorem cd_Law_law_692 : code_ 215 692 = some (.iload_n 3, 693, 0, 0, 0) := by decide +kernel
theorem cd_Law_law_693 : code_ 215 693 = some (.iconst 2, 694, 0, 0, 0) := by decide +kernel
theorem cd_Law_law_694 : code_ 215 694 = some (.iadd, 695, 0, 0, 0) := by decide +kernel
theorem cd_Law_law_695 : code_ 215 695 = some (.iaload, 696, 0, 0, 0) := by decide +kernel
theorem cd_Law_law_696 : code_ 215 696 = some (.aload_n 0, 697, 0, 0, 0) := by decide +kernel
theorem cd_Law_law_697 : code_ 215 697 = some (.iload_n 3, 698, 0, 0, 0) := by decide +kernel
theorem cd_Law_law_698 : code_ 215 698 = some (.iconst 3, 699, 0, 0, 0) := by decide +kernel
theorem cd_Law_law_699 : code_ 215 699 = some (.iadd, 700, 0, 0, 0) := by decide +kernel
theorem cd_Law_law_700 : code_ 215 700 = some (.iaload, 701, 0, 0, 0) := by decide +kernel
theorem cd_Law_law_701 : code_ 215 701 = some (.aload_n 0, 702, 0, 0, 0) := by decide +kernel
theorem cd_Law_law_702 : code_ 215 702 = some (.iload_n 3, 703, 0, 0, 0) := by decide +kernel
theorem cd_Law_law_703 : code_ 215 703 = some (.iconst 4, 704, 0, 0, 0) := by decide +kernel
theorem cd_Law_law_704 : code_ 215 704 = some (.iadd, 705, 0, 0, 0) := by decide +kernel
theorem cd_Law_law_705 : code_ 215 705 = some (.iaload, 706, 0, 0, 0) := by decide +kernel
theorem cd_Law_law_706 : code_ 215 706 = some (.aload_n 0, 707, 0, 0, 0) := by decide +kernel
theorem cd_Law_law_707 : code_ 215 707 = some (.iload_n 3, 708, 0, 0, 0) := by decide +kernel
theorem cd_Law_law_708 : code_ 215 708 = some (.iconst 5, 709, 0, 0, 0) := by decide +kernel
theorem cd_Law_law_709 : code_ 215 709 = some (.iadd, 710, 0, 0, 0) := by decide +kernel
theorem cd_Law_law_710 : code_ 215 710 = some (.iaload, 711, 0, 0, 0) := by decide +kernel
theorem cd_Law_law_711 : code_ 215 711 = some (.invokevirtual 91, 714, 198, 1, 0) := by decide +kernel
theorem cd_Law_law_714 : code_ 215 714 = some (.lcmp, 715, 0, 0, 0) := by decide +kernel
theorem cd_Law_law_715 : code_ 215 715 = some (.ifCond .eq 279, 718, 994, 0, 0) := by decide +kernel
theorem cd_Law_law_718 : code_ 215 718 = some (.iconst 0, 719, 0, 0, 0) := by decide +kernel
theorem cd_Law_law_719 : code_ 215 719 = some (.ireturn, 720, 0, 0, 0) := by decide +kernel
theorem cd_Law_law_720 : code_ 215 720 = some (.aload_n 1, 721, 0, 0, 0) := by decide +kernel
theorem cd_Law_law_721 : code_ 215 721 = some (.aload_n 0, 722, 0, 0, 0) := by decide +kernel
theorem cd_Law_law_722 : code_ 215 722 = some (.iload_n 3, 723, 0, 0, 0) := by decide +kernel
theorem cd_Law_law_723 : code_ 215 723 = some (.iconst 1, 724, 0, 0, 0) := by decide +kernel
theorem cd_Law_law_724 : code_ 215 724 = some (.iadd, 725, 0, 0, 0) := by decide +kernel
theorem cd_Law_law_725 : code_ 215 725 = some (.iaload, 726, 0, 0, 0) := by decide +kernel
theorem cd_Law_law_726 : code_ 215 726 = some (.aload_n 0, 727, 0, 0, 0) := by decide +kernel
theorem cd_Law_law_727 : code_ 215 727 = some (.iload_n 3, 728, 0, 0, 0) := by decide +kernel
theorem cd_Law_law_728 : code_ 215 728 = some (.iconst 2, 729, 0, 0, 0) := by decide +kernel
theorem cd_Law_law_729 : code_ 215 729 = some (.iadd, 730, 0, 0, 0) := by decide +kernel
theorem cd_Law_law_730 : code_ 215 730 = some (.iaload, 731, 0, 0, 0) := by decide +kernel
theorem cd_Law_law_731 : code_ 215 731 = some (.aload_n 0, 732, 0, 0, 0) := by decide +kernel
theorem cd_Law_law_732 : code_ 215 732 = some (.iload_n 3, 733, 0, 0, 0) := by decide +kernel
theorem cd_Law_law_733 : code_ 215 733 = some (.iconst 3, 734, 0, 0, 0) := by decide +kernel
theorem cd_Law_law_734 : code_ 215 734 = some (.iadd, 735, 0, 0, 0) := by decide +kernel
theorem cd_Law_law_735 : code_ 215 735 = some (.iaload, 736, 0, 0, 0) := by decide +kernel
theorem cd_Law_law_736 : code_ 215 736 = some (.aload_n 0, 737, 0, 0, 0) := by decide +kernel
theorem cd_Law_law_737 : code_ 215 737 = some (.iload_n 3, 738, 0, 0, 0) := by decide +kernel
theorem cd_Law_law_738 : code_ 215 738 = some (.iconst 4, 739, 0, 0, 0) := by decide +kernel
theorem cd_Law_law_739 : code_ 215 739 = some (.iadd, 740, 0, 0, 0) := by decide +kernel
theorem cd_Law_law_740 : code_ 215 740 = some (.iaload, 741, 0, 0, 0) := by decide +kernel
theorem cd_Law_law_741 : code_ 215 741 = some (.invokevirtual 92, 744, 128, 1, 0) := by decide +kernel
theorem cd_Law_law_744 : code_ 215 744 = some (.aload_n 2, 745, 0, 0, 0) := by decide +kernel
theorem cd_Law_law_745 : code_ 215 745 = some (.aload_n 0, 746, 0, 0, 0) := by decide +kernel
theorem cd_Law_law_746 : code_ 215 746 = some (.iload_n 3, 747, 0, 0, 0) := by decide +kernel
theorem cd_Law_law_747 : code_ 215 747 = some (.iconst 1, 748, 0, 0, 0) := by decide +kernel
theorem cd_Law_law_748 : code_ 215 748 = some (.iadd, 749, 0, 0, 0) := by decide +kernel
theorem cd_Law_law_749 : code_ 215 749 = some (.iaload, 750, 0, 0, 0) := by decide +kernel
theorem cd_Law_law_750 : code_ 215 750 = some (.aload_n 0, 751, 0, 0, 0) := by decide +kernel
theorem cd_Law_law_751 : code_ 215 751 = some (.iload_n 3, 752, 0, 0, 0) := by decide +kernel
theorem cd_Law_law_752 : code_ 215 752 = some (.iconst 2, 753, 0, 0, 0) := by decide +kernel
theorem cd_Law_law_753 : code_ 215 753 = some (.iadd, 754, 0, 0, 0) := by decide +kernel
theorem cd_Law_law_754 : code_ 215 754 = some (.iaload, 755, 0, 0, 0) := by decide +kernel
theorem cd_Law_law_755 : code_ 215 755 = some (.aload_n 0, 756, 0, 0, 0) := by decide +kernel
theorem cd_Law_law_756 : code_ 215 756 = some (.iload_n 3, 757, 0, 0, 0) := by decide +kernel
theorem cd_Law_law_757 : code_ 215 757 = some (.iconst 3, 758, 0, 0, 0) := by decide +kernel
theorem cd_Law_law_758 : code_ 215 758 = some (.iadd, 759, 0, 0, 0) := by decide +kernel
theorem cd_Law_law_759 : code_ 215 759 = some (.iaload, 760, 0, 0, 0) := by decide +kernel
theorem cd_Law_law_760 : code_ 215 760 = some (.aload_n 0, 761, 0, 0, 0) := by decide +kernel
theorem cd_Law_law_761 : code_ 215 761 = some (.iload_n 3, 762, 0, 0, 0) := by decide +kernel
theorem cd_Law_law_762 : code_ 215 762 = some (.iconst 4, 763, 0, 0, 0) := by decide +kernel
theorem cd_Law_law_763 : code_ 215 763 = some (.iadd, 764, 0, 0, 0) := by decide +kernel
theorem cd_Law_law_764 : code_ 215 764 = some (.iaload, 765, 0, 0, 0) := by decide +kernel
theorem cd_Law_law_765 : code_ 215 765 = some (.invokevirtual 96, 768, 199, 1, 0) := by decide +kernel
theorem cd_Law_law_768 : code_ 215 768 = some (.lcmp, 769, 0, 0, 0) := by decide +kernel
theorem cd_Law_law_769 : code_ 215 769 = some (.ifCond .eq 225, 772, 994, 0, 0) := by decide +kernel
theorem cd_Law_law_772 : code_ 215 772 = some (.iconst 0, 773, 0, 0, 0) := by decide +kernel
theorem cd_Law_law_773 : code_ 215 773 = some (.ireturn, 774, 0, 0, 0) := by decide +kernel
theorem cd_Law_law_774 : code_ 215 774 = some (.aload_n 1, 775, 0, 0, 0) := by decide +kernel
theorem cd_Law_law_775 : code_ 215 775 = some (.aload_n 0, 776, 0, 0, 0) := by decide +kernel
theorem cd_Law_law_776 : code_ 215 776 = some (.iload_n 3, 777, 0, 0, 0) := by decide +kernel
theorem cd_Law_law_777 : code_ 215 777 = some (.iconst 1, 778, 0, 0, 0) := by decide +kernel
theorem cd_Law_law_778 : code_ 215 778 = some (.iadd, 779, 0, 0, 0) := by decide +kernel
theorem cd_Law_law_779 : code_ 215 779 = some (.iaload, 780, 0, 0, 0) := by decide +kernel
theorem cd_Law_law_780 : code_ 215 780 = some (.aload_n 0, 781, 0, 0, 0) := by decide +kernel
theorem cd_Law_law_781 : code_ 215 781 = some (.iload_n 3, 782, 0, 0, 0) := by decide +kernel
theorem cd_Law_law_782 : code_ 215 782 = some (.iconst 2, 783, 0, 0, 0) := by decide +kernel
theorem cd_Law_law_783 : code_ 215 783 = some (.iadd, 784, 0, 0, 0) := by decide +kernel
theorem cd_Law_law_784 : code_ 215 784 = some (.iaload, 785, 0, 0, 0) := by decide +kernel
theorem cd_Law_law_785 : code_ 215 785 = some (.ifCond .eq 7, 788, 792, 0, 0) := by decide +kernel
theorem cd_Law_law_788 : code_ 215 788 = some (.iconst 1, 789, 0, 0, 0) := by decide +kernel
theorem cd_Law_law_789 : code_ 215 789 = some (.goto 4, 792, 793, 0, 0) := by decide +kernel
theorem cd_Law_law_792 : code_ 215 792 = some (.iconst 0, 793, 0, 0, 0) := by decide +kernel
theorem cd_Law_law_793 : code_ 215 793 = some (.invokevirtual 97, 796, 129, 1, 0) := by decide +kernel
theorem cd_Law_law_796 : code_ 215 796 = some (.aload_n 2, 797, 0, 0, 0) := by decide +kernel
theorem cd_Law_law_797 : code_ 215 797 = some (.aload_n 0, 798, 0, 0, 0) := by decide +kernel
theorem cd_Law_law_798 : code_ 215 798 = some (.iload_n 3, 799, 0, 0, 0) := by decide +kernel
theorem cd_Law_law_799 : code_ 215 799 = some (.iconst 1, 800, 0, 0, 0) := by decide +kernel
theorem cd_Law_law_800 : code_ 215 800 = some (.iadd, 801, 0, 0, 0) := by decide +kernel
theorem cd_Law_law_801 : code_ 215 801 = some (.iaload, 802, 0, 0, 0) := by decide +kernel
theorem cd_Law_law_802 : code_ 215 802 = some (.aload_n 0, 803, 0, 0, 0) := by decide +kernel
theorem cd_Law_law_803 : code_ 215 803 = some (.iload_n 3, 804, 0, 0, 0) := by decide +kernel
theorem cd_Law_law_804 : code_ 215 804 = some (.iconst 2, 805, 0, 0, 0) := by decide +kernel
theorem cd_Law_law_805 : code_ 215 805 = some (.iadd, 806, 0, 0, 0) := by decide +kernel
theorem cd_Law_law_806 : code_ 215 806 = some (.iaload, 807, 0, 0, 0) := by decide +kernel
theorem cd_Law_law_807 : code_ 215 807 = some (.ifCond .eq 7, 810, 814, 0, 0) := by decide +kernel
theorem cd_Law_law_810 : code_ 215 810 = some (.iconst 1, 811, 0, 0, 0) := by decide +kernel
theorem cd_Law_law_811 : code_ 215 811 = some (.goto 4, 814, 815, 0, 0) := by decide +kernel
theorem cd_Law_law_814 : code_ 215 814 = some (.iconst 0, 815, 0, 0, 0) := by decide +kernel
theorem cd_Law_law_815 : code_ 215 815 = some (.invokevirtual 100, 818, 200, 1, 0) := by decide +kernel
theorem cd_Law_law_818 : code_ 215 818 = some (.if_icmp .eq 176, 821, 994, 0, 0) := by decide +kernel
theorem cd_Law_law_821 : code_ 215 821 = some (.iconst 0, 822, 0, 0, 0) := by decide +kernel
theorem cd_Law_law_822 : code_ 215 822 = some (.ireturn, 823, 0, 0, 0) := by decide +kernel
theorem cd_Law_law_823 : code_ 215 823 = some (.aload_n 1, 824, 0, 0, 0) := by decide +kernel
theorem cd_Law_law_824 : code_ 215 824 = some (.invokevirtual 101, 827, 130, 1, 0) := by decide +kernel
theorem cd_Law_law_827 : code_ 215 827 = some (.aload_n 2, 828, 0, 0, 0) := by decide +kernel
theorem cd_Law_law_828 : code_ 215 828 = some (.invokevirtual 104, 831, 201, 1, 0) := by decide +kernel
theorem cd_Law_law_831 : code_ 215 831 = some (.if_icmp .eq 163, 834, 994, 0, 0) := by decide +kernel
theorem cd_Law_law_834 : code_ 215 834 = some (.iconst 0, 835, 0, 0, 0) := by decide +kernel
theorem cd_Law_law_835 : code_ 215 835 = some (.ireturn, 836, 0, 0, 0) := by decide +kernel
theorem cd_Law_law_836 : code_ 215 836 = some (.aload_n 1, 837, 0, 0, 0) := by decide +kernel
theorem cd_Law_law_837 : code_ 215 837 = some (.aload_n 0, 838, 0, 0, 0) := by decide +kernel
theorem cd_Law_law_838 : code_ 215 838 = some (.iload_n 3, 839, 0, 0, 0) := by decide +kernel
theorem cd_Law_law_839 : code_ 215 839 = some (.iconst 1, 840, 0, 0, 0) := by decide +kernel
theorem cd_Law_law_840 : code_ 215 840 = some (.iadd, 841, 0, 0, 0) := by decide +kernel
theorem cd_Law_law_841 : code_ 215 841 = some (.iaload, 842, 0, 0, 0) := by decide +kernel
theorem cd_Law_law_842 : code_ 215 842 = some (.invokevirtual 105, 845, 131, 1, 0) := by decide +kernel
theorem cd_Law_law_845 : code_ 215 845 = some (.aload_n 2, 846, 0, 0, 0) := by decide +kernel
theorem cd_Law_law_846 : code_ 215 846 = some (.aload_n 0, 847, 0, 0, 0) := by decide +kernel
theorem cd_Law_law_847 : code_ 215 847 = some (.iload_n 3, 848, 0, 0, 0) := by decide +kernel
theorem cd_Law_law_848 : code_ 215 848 = some (.iconst 1, 849, 0, 0, 0) := by decide +kernel
theorem cd_Law_law_849 : code_ 215 849 = some (.iadd, 850, 0, 0, 0) := by decide +kernel
theorem cd_Law_law_850 : code_ 215 850 = some (.iaload, 851, 0, 0, 0) := by decide +kernel
theorem cd_Law_law_851 : code_ 215 851 = some (.invokevirtual 108, 854, 204, 1, 0) := by decide +kernel
theorem cd_Law_law_854 : code_ 215 854 = some (.if_icmp .eq 140, 857, 994, 0, 0) := by decide +kernel
theorem cd_Law_law_857 : code_ 215 857 = some (.iconst 0, 858, 0, 0, 0) := by decide +kernel
theorem cd_Law_law_858 : code_ 215 858 = some (.ireturn, 859, 0, 0, 0) := by decide +kernel
theorem cd_Law_law_859 : code_ 215 859 = some (.aload_n 1, 860, 0, 0, 0) := by decide +kernel
theorem cd_Law_law_860 : code_ 215 860 = some (.aload_n 0, 861, 0, 0, 0) := by decide +kernel
theorem cd_Law_law_861 : code_ 215 861 = some (.iload_n 3, 862, 0, 0, 0) := by decide +kernel
theorem cd_Law_law_862 : code_ 215 862 = some (.iconst 1, 863, 0, 0, 0) := by decide +kernel
theorem cd_Law_law_863 : code_ 215 863 = some (.iadd, 864, 0, 0, 0) := by decide +kernel
theorem cd_Law_law_864 : code_ 215 864 = some (.iaload, 865, 0, 0, 0) := by decide +kernel
theorem cd_Law_law_865 : code_ 215 865 = some (.invokevirtual 109, 868, 132, 1, 0) := by decide +kernel
theorem cd_Law_law_868 : code_ 215 868 = some (.aload_n 2, 869, 0, 0, 0) := by decide +kernel
theorem cd_Law_law_869 : code_ 215 869 = some (.aload_n 0, 870, 0, 0, 0) := by decide +kernel
theorem cd_Law_law_870 : code_ 215 870 = some (.iload_n 3, 871, 0, 0, 0) := by decide +kernel
theorem cd_Law_law_871 : code_ 215 871 = some (.iconst 1, 872, 0, 0, 0) := by decide +kernel
theorem cd_Law_law_872 : code_ 215 872 = some (.iadd, 873, 0, 0, 0) := by decide +kernel
theorem cd_Law_law_873 : code_ 215 873 = some (.iaload, 874, 0, 0, 0) := by decide +kernel
theorem cd_Law_law_874 : code_ 215 874 = some (.invokevirtual 112, 877, 205, 1, 0) := by decide +kernel
theorem cd_Law_law_877 : code_ 215 877 = some (.if_icmp .eq 117, 880, 994, 0, 0) := by decide +kernel
theorem cd_Law_law_880 : code_ 215 880 = some (.iconst 0, 881, 0, 0, 0) := by decide +kernel
theorem cd_Law_law_881 : code_ 215 881 = some (.ireturn, 882, 0, 0, 0) := by decide +kernel
theorem cd_Law_law_882 : code_ 215 882 = some (.aload_n 1, 883, 0, 0, 0) := by decide +kernel
theorem cd_Law_law_883 : code_ 215 883 = some (.aload_n 0, 884, 0, 0, 0) := by decide +kernel
theorem cd_Law_law_884 : code_ 215 884 = some (.iload_n 3, 885, 0, 0, 0) := by decide +kernel
theorem cd_Law_law_885 : code_ 215 885 = some (.iconst 1, 886, 0, 0, 0) := by decide +kernel
theorem cd_Law_law_886 : code_ 215 886 = some (.iadd, 887, 0, 0, 0) := by decide +kernel
theorem cd_Law_law_887 : code_ 215 887 = some (.iaload, 888, 0, 0, 0) := by decide +kernel
theorem cd_Law_law_888 : code_ 215 888 = some (.aload_n 0, 889, 0, 0, 0) := by decide +kernel
theorem cd_Law_law_889 : code_ 215 889 = some (.iload_n 3, 890, 0, 0, 0) := by decide +kernel
theorem cd_Law_law_890 : code_ 215 890 = some (.iconst 2, 891, 0, 0, 0) := by decide +kernel
theorem cd_Law_law_891 : code_ 215 891 = some (.iadd, 892, 0, 0, 0) := by decide +kernel
theorem cd_Law_law_892 : code_ 215 892 = some (.iaload, 893, 0, 0, 0) := by decide +kernel
theorem cd_Law_law_893 : code_ 215 893 = some (.aload_n 0, 894, 0, 0, 0) := by decide +kernel
theorem cd_Law_law_894 : code_ 215 894 = some (.iload_n 3, 895, 0, 0, 0) := by decide +kernel
theorem cd_Law_law_895 : code_ 215 895 = some (.iconst 3, 896, 0, 0, 0) := by decide +kernel
theorem cd_Law_law_896 : code_ 215 896 = some (.iadd, 897, 0, 0, 0) := by decide +kernel
theorem cd_Law_law_897 : code_ 215 897 = some (.iaload, 898, 0, 0, 0) := by decide +kernel
theorem cd_Law_law_898 : code_ 215 898 = some (.invokevirtual 113, 901, 133, 1, 0) := by decide +kernel
theorem cd_Law_law_901 : code_ 215 901 = some (.aload_n 2, 902, 0, 0, 0) := by decide +kernel
theorem cd_Law_law_902 : code_ 215 902 = some (.aload_n 0, 903, 0, 0, 0) := by decide +kernel
theorem cd_Law_law_903 : code_ 215 903 = some (.iload_n 3, 904, 0, 0, 0) := by decide +kernel
theorem cd_Law_law_904 : code_ 215 904 = some (.iconst 1, 905, 0, 0, 0) := by decide +kernel
theorem cd_Law_law_905 : code_ 215 905 = some (.iadd, 906, 0, 0, 0) := by decide +kernel
theorem cd_Law_law_906 : code_ 215 906 = some (.iaload, 907, 0, 0, 0) := by decide +kernel
theorem cd_Law_law_907 : code_ 215 907 = some (.aload_n 0, 908, 0, 0, 0) := by decide +kernel
theorem cd_Law_law_908 : code_ 215 908 = some (.iload_n 3, 909, 0, 0, 0) := by decide +kernel
theorem cd_Law_law_909 : code_ 215 909 = some (.iconst 2, 910, 0, 0, 0) := by decide +kernel
theorem cd_Law_law_910 : code_ 215 910 = some (.iadd, 911, 0, 0, 0) := by decide +kernel
theorem cd_Law_law_911 : code_ 215 911 = some (.iaload, 912, 0, 0, 0) := by decide +kernel
theorem cd_Law_law_912 : code_ 215 912 = some (.aload_n 0, 913, 0, 0, 0) := by decide +kernel
theorem cd_Law_law_913 : code_ 215 913 = some (.iload_n 3, 914, 0, 0, 0) := by decide +kernel
theorem cd_Law_law_914 : code_ 215 914 = some (.iconst 3, 915, 0, 0, 0) := by decide +kernel
theorem cd_Law_law_915 : code_ 215 915 = some (.iadd, 916, 0, 0, 0) := by decide +kernel
theorem cd_Law_law_916 : code_ 215 916 = some (.iaload, 917, 0, 0, 0) := by decide +kernel
theorem cd_Law_law_917 : code_ 215 917 = some (.invokevirtual 116, 920, 206, 1, 0) := by decide +kernel
theorem cd_Law_law_920 : code_ 215 920 = some (.if_icmp .eq 74, 923, 994, 0, 0) := by decide +kernel
theorem cd_Law_law_923 : code_ 215 923 = some (.iconst 0, 924, 0, 0, 0) := by decide +kernel
theorem cd_Law_law_924 : code_ 215 924 = some (.ireturn, 925, 0, 0, 0) := by decide +kernel
theorem cd_Law_law_925 : code_ 215 925 = some (.aload_n 1, 926, 0, 0, 0) := by decide +kernel
theorem cd_Law_law_926 : code_ 215 926 = some (.aload_n 0, 927, 0, 0, 0) := by decide +kernel
theorem cd_Law_law_927 : code_ 215 927 = some (.iload_n 3, 928, 0, 0, 0) := by decide +kernel
theorem cd_Law_law_928 : code_ 215 928 = some (.iconst 1, 929, 0, 0, 0) := by decide +kernel
theorem cd_Law_law_929 : code_ 215 929 = some (.iadd, 930, 0, 0, 0) := by decide +kernel
theorem cd_Law_law_930 : code_ 215 930 = some (.iaload, 931, 0, 0, 0) := by decide +kernel
theorem cd_Law_law_931 : code_ 215 931 = some (.invokevirtual 117, 934, 134, 1, 0) := by decide +kernel
theorem cd_Law_law_934 : code_ 215 934 = some (.aload_n 2, 935, 0, 0, 0) := by decide +kernel
theorem cd_Law_law_935 : code_ 215 935 = some (.aload_n 0, 936, 0, 0, 0) := by decide +kernel
theorem cd_Law_law_936 : code_ 215 936 = some (.iload_n 3, 937, 0, 0, 0) := by decide +kernel
theorem cd_Law_law_937 : code_ 215 937 = some (.iconst 1, 938, 0, 0, 0) := by decide +kernel
theorem cd_Law_law_938 : code_ 215 938 = some (.iadd, 939, 0, 0, 0) := by decide +kernel
theorem cd_Law_law_939 : code_ 215 939 = some (.iaload, 940, 0, 0, 0) := by decide +kernel
theorem cd_Law_law_940 : code_ 215 940 = some (.invokevirtual 120, 943, 207, 1, 0) := by decide +kernel
theorem cd_Law_law_943 : code_ 215 943 = some (.if_icmp .eq 51, 946, 994, 0, 0) := by decide +kernel
theorem cd_Law_law_946 : code_ 215 946 = some (.iconst 0, 947, 0, 0, 0) := by decide +kernel
theorem cd_Law_law_947 : code_ 215 947 = some (.ireturn, 948, 0, 0, 0) := by decide +kernel
theorem cd_Law_law_948 : code_ 215 948 = some (.aload_n 1, 949, 0, 0, 0) := by decide +kernel
theorem cd_Law_law_949 : code_ 215 949 = some (.aload_n 0, 950, 0, 0, 0) := by decide +kernel
theorem cd_Law_law_950 : code_ 215 950 = some (.iload_n 3, 951, 0, 0, 0) := by decide +kernel
theorem cd_Law_law_951 : code_ 215 951 = some (.iconst 1, 952, 0, 0, 0) := by decide +kernel
theorem cd_Law_law_952 : code_ 215 952 = some (.iadd, 953, 0, 0, 0) := by decide +kernel
theorem cd_Law_law_953 : code_ 215 953 = some (.iaload, 954, 0, 0, 0) := by decide +kernel
theorem cd_Law_law_954 : code_ 215 954 = some (.invokevirtual 121, 957, 135, 1, 0) := by decide +kernel
theorem cd_Law_law_957 : code_ 215 957 = some (.aload_n 2, 958, 0, 0, 0) := by decide +kernel
theorem cd_Law_law_958 : code_ 215 958 = some (.aload_n 0, 959, 0, 0, 0) := by decide +kernel
theorem cd_Law_law_959 : code_ 215 959 = some (.iload_n 3, 960, 0, 0, 0) := by decide +kernel
theorem cd_Law_law_960 : code_ 215 960 = some (.iconst 1, 961, 0, 0, 0) := by decide +kernel
theorem cd_Law_law_961 : code_ 215 961 = some (.iadd, 962, 0, 0, 0) := by decide +kernel
theorem cd_Law_law_962 : code_ 215 962 = some (.iaload, 963, 0, 0, 0) := by decide +kernel
theorem cd_Law_law_963 : code_ 215 963 = some (.invokevirtual 124, 966, 208, 1, 0) := by decide +kernel
theorem cd_Law_law_966 : code_ 215 966 = some (.if_icmp .eq 28, 969, 994, 0, 0) := by decide +kernel
theorem cd_Law_law_969 : code_ 215 969 = some (.iconst 0, 970, 0, 0, 0) := by decide +kernel
theorem cd_Law_law_970 : code_ 215 970 = some (.ireturn, 971, 0, 0, 0) := by decide +kernel
theorem cd_Law_law_971 : code_ 215 971 = some (.aload_n 1, 972, 0, 0, 0) := by decide +kernel
theorem cd_Law_law_972 : code_ 215 972 = some (.aload_n 0, 973, 0, 0, 0) := by decide +kernel
theorem cd_Law_law_973 : code_ 215 973 = some (.iload_n 3, 974, 0, 0, 0) := by decide +kernel
theorem cd_Law_law_974 : code_ 215 974 = some (.iconst 1, 975, 0, 0, 0) := by decide +kernel
theorem cd_Law_law_975 : code_ 215 975 = some (.iadd, 976, 0, 0, 0) := by decide +kernel
theorem cd_Law_law_976 : code_ 215 976 = some (.iaload, 977, 0, 0, 0) := by decide +kernel
theorem cd_Law_law_977 : code_ 215 977 = some (.invokevirtual 125, 980, 136, 1, 0) := by decide +kernel
theorem cd_Law_law_980 : code_ 215 980 = some (.aload_n 2, 981, 0, 0, 0) := by decide +kernel
theorem cd_Law_law_981 : code_ 215 981 = some (.aload_n 0, 982, 0, 0, 0) := by decide +kernel
theorem cd_Law_law_982 : code_ 215 982 = some (.iload_n 3, 983, 0, 0, 0) := by decide +kernel
theorem cd_Law_law_983 : code_ 215 983 = some (.iconst 1, 984, 0, 0, 0) := by decide +kernel
theorem cd_Law_law_984 : code_ 215 984 = some (.iadd, 985, 0, 0, 0) := by decide +kernel
theorem cd_Law_law_985 : code_ 215 985 = some (.iaload, 986, 0, 0, 0) := by decide +kernel
theorem cd_Law_law_986 : code_ 215 986 = some (.invokevirtual 128, 989, 209, 1, 0) := by decide +kernel
theorem cd_Law_law_989 : code_ 215 989 = some (.if_icmp .eq 5, 992, 994, 0, 0) := by decide +kernel
theorem cd_Law_law_992 : code_ 215 992 = some (.iconst 0, 993, 0, 0, 0) := by decide +kernel
theorem cd_Law_law_993 : code_ 215 993 = some (.ireturn, 994, 0, 0, 0) := by decide +kernel
theorem cd_Law_law_994 : code_ 215 994 = some (.iinc 3 7, 997, 0, 0, 0) := by decide +kernel
theorem cd_Law_law_997 : code_ 215 997 = some (.goto (-979), 1000, 18, 0, 0) := by decide +kernel
theorem cd_Law_law_1000 : code_ 215 1000 = some (.iconst 1, 1001, 0, 0, 0) := by decide +kernel
theorem cd_Law_law_1001 : code_ 215 1001 = some (.ireturn, 1002, 0, 0, 0) := by decide +kernel
