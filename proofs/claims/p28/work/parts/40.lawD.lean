theorem dL_cell_0 : decode cL_cell 0 = .ok (.iload_n 1, 1) := by decide +kernel
theorem dL_cell_1 : decode cL_cell 1 = .ok (.aload_n 0, 1) := by decide +kernel
theorem dL_cell_2 : decode cL_cell 2 = .ok (.arraylength, 1) := by decide +kernel
theorem dL_cell_3 : decode cL_cell 3 = .ok (.if_icmp .ge 9, 3) := by decide +kernel
theorem dL_cell_6 : decode cL_cell 6 = .ok (.aload_n 0, 1) := by decide +kernel
theorem dL_cell_7 : decode cL_cell 7 = .ok (.iload_n 1, 1) := by decide +kernel
theorem dL_cell_8 : decode cL_cell 8 = .ok (.iaload, 1) := by decide +kernel
theorem dL_cell_9 : decode cL_cell 9 = .ok (.goto 9, 3) := by decide +kernel
theorem dL_cell_12 : decode cL_cell 12 = .ok (.ldc 7, 2) := by decide +kernel
theorem dL_cell_14 : decode cL_cell 14 = .ok (.iload_n 1, 1) := by decide +kernel
theorem dL_cell_15 : decode cL_cell 15 = .ok (.iconst 1, 1) := by decide +kernel
theorem dL_cell_16 : decode cL_cell 16 = .ok (.iadd, 1) := by decide +kernel
theorem dL_cell_17 : decode cL_cell 17 = .ok (.imul, 1) := by decide +kernel
theorem dL_cell_18 : decode cL_cell 18 = .ok (.ireturn, 1) := by decide +kernel
theorem dL_low_0 : decode cL_low 0 = .ok (.iload_n 0, 1) := by decide +kernel
theorem dL_low_1 : decode cL_low 1 = .ok (.ldc 8, 2) := by decide +kernel
theorem dL_low_3 : decode cL_low 3 = .ok (.iand, 1) := by decide +kernel
theorem dL_low_4 : decode cL_low 4 = .ok (.iload_n 1, 1) := by decide +kernel
theorem dL_low_5 : decode cL_low 5 = .ok (.irem, 1) := by decide +kernel
theorem dL_low_6 : decode cL_low 6 = .ok (.ireturn, 1) := by decide +kernel
theorem dL_bits_0 : decode cL_bits 0 = .ok (.iload_n 0, 1) := by decide +kernel
theorem dL_bits_1 : decode cL_bits 1 = .ok (.ifCond .ge 8, 3) := by decide +kernel
theorem dL_bits_4 : decode cL_bits 4 = .ok (.iload_n 0, 1) := by decide +kernel
theorem dL_bits_5 : decode cL_bits 5 = .ok (.ineg, 1) := by decide +kernel
theorem dL_bits_6 : decode cL_bits 6 = .ok (.goto 4, 3) := by decide +kernel
theorem dL_bits_9 : decode cL_bits 9 = .ok (.iload_n 0, 1) := by decide +kernel
theorem dL_bits_10 : decode cL_bits 10 = .ok (.istore_n 1, 1) := by decide +kernel
theorem dL_bits_11 : decode cL_bits 11 = .ok (.iconst 0, 1) := by decide +kernel
theorem dL_bits_12 : decode cL_bits 12 = .ok (.istore_n 2, 1) := by decide +kernel
theorem dL_bits_13 : decode cL_bits 13 = .ok (.iload_n 1, 1) := by decide +kernel
theorem dL_bits_14 : decode cL_bits 14 = .ok (.iload_n 2, 1) := by decide +kernel
theorem dL_bits_15 : decode cL_bits 15 = .ok (.ishr, 1) := by decide +kernel
theorem dL_bits_16 : decode cL_bits 16 = .ok (.iconst 1, 1) := by decide +kernel
theorem dL_bits_17 : decode cL_bits 17 = .ok (.if_icmp .le 9, 3) := by decide +kernel
theorem dL_bits_20 : decode cL_bits 20 = .ok (.iinc 2 1, 3) := by decide +kernel
theorem dL_bits_23 : decode cL_bits 23 = .ok (.goto (-10), 3) := by decide +kernel
theorem dL_bits_26 : decode cL_bits 26 = .ok (.iload_n 1, 1) := by decide +kernel
theorem dL_bits_27 : decode cL_bits 27 = .ok (.ifCond .ne 7, 3) := by decide +kernel
theorem dL_bits_30 : decode cL_bits 30 = .ok (.iconst 0, 1) := by decide +kernel
theorem dL_bits_31 : decode cL_bits 31 = .ok (.goto 21, 3) := by decide +kernel
theorem dL_bits_34 : decode cL_bits 34 = .ok (.bipush 124, 2) := by decide +kernel
theorem dL_bits_36 : decode cL_bits 36 = .ok (.iload_n 2, 1) := by decide +kernel
theorem dL_bits_37 : decode cL_bits 37 = .ok (.iadd, 1) := by decide +kernel
theorem dL_bits_38 : decode cL_bits 38 = .ok (.bipush 23, 2) := by decide +kernel
theorem dL_bits_40 : decode cL_bits 40 = .ok (.ishl, 1) := by decide +kernel
theorem dL_bits_41 : decode cL_bits 41 = .ok (.iload_n 1, 1) := by decide +kernel
theorem dL_bits_42 : decode cL_bits 42 = .ok (.iconst 1, 1) := by decide +kernel
theorem dL_bits_43 : decode cL_bits 43 = .ok (.iload_n 2, 1) := by decide +kernel
theorem dL_bits_44 : decode cL_bits 44 = .ok (.ishl, 1) := by decide +kernel
theorem dL_bits_45 : decode cL_bits 45 = .ok (.isub, 1) := by decide +kernel
theorem dL_bits_46 : decode cL_bits 46 = .ok (.bipush 23, 2) := by decide +kernel
theorem dL_bits_48 : decode cL_bits 48 = .ok (.iload_n 2, 1) := by decide +kernel
theorem dL_bits_49 : decode cL_bits 49 = .ok (.isub, 1) := by decide +kernel
theorem dL_bits_50 : decode cL_bits 50 = .ok (.ishl, 1) := by decide +kernel
theorem dL_bits_51 : decode cL_bits 51 = .ok (.ior, 1) := by decide +kernel
theorem dL_bits_52 : decode cL_bits 52 = .ok (.istore_n 3, 1) := by decide +kernel
theorem dL_bits_53 : decode cL_bits 53 = .ok (.iload_n 0, 1) := by decide +kernel
theorem dL_bits_54 : decode cL_bits 54 = .ok (.ifCond .ge 10, 3) := by decide +kernel
theorem dL_bits_57 : decode cL_bits 57 = .ok (.iload_n 3, 1) := by decide +kernel
theorem dL_bits_58 : decode cL_bits 58 = .ok (.ldc 9, 2) := by decide +kernel
theorem dL_bits_60 : decode cL_bits 60 = .ok (.ior, 1) := by decide +kernel
theorem dL_bits_61 : decode cL_bits 61 = .ok (.goto 4, 3) := by decide +kernel
theorem dL_bits_64 : decode cL_bits 64 = .ok (.iload_n 3, 1) := by decide +kernel
theorem dL_bits_65 : decode cL_bits 65 = .ok (.ireturn, 1) := by decide +kernel
theorem dL_ruling_0 : decode cL_ruling 0 = .ok (.bipush (-5), 2) := by decide +kernel
theorem dL_ruling_2 : decode cL_ruling 2 = .ok (.istore 4, 2) := by decide +kernel
theorem dL_ruling_4 : decode cL_ruling 4 = .ok (.aload_n 0, 1) := by decide +kernel
theorem dL_ruling_5 : decode cL_ruling 5 = .ok (.iconst 1, 1) := by decide +kernel
theorem dL_ruling_6 : decode cL_ruling 6 = .ok (.iaload, 1) := by decide +kernel
theorem dL_ruling_7 : decode cL_ruling 7 = .ok (.iconst 1, 1) := by decide +kernel
theorem dL_ruling_8 : decode cL_ruling 8 = .ok (.isub, 1) := by decide +kernel
theorem dL_ruling_9 : decode cL_ruling 9 = .ok (.istore 5, 2) := by decide +kernel
theorem dL_ruling_11 : decode cL_ruling 11 = .ok (.iload 5, 2) := by decide +kernel
theorem dL_ruling_13 : decode cL_ruling 13 = .ok (.ifCond .lt 78, 3) := by decide +kernel
theorem dL_ruling_16 : decode cL_ruling 16 = .ok (.aload_n 2, 1) := by decide +kernel
theorem dL_ruling_17 : decode cL_ruling 17 = .ok (.iconst 4, 1) := by decide +kernel
theorem dL_ruling_18 : decode cL_ruling 18 = .ok (.iload 5, 2) := by decide +kernel
theorem dL_ruling_20 : decode cL_ruling 20 = .ok (.imul, 1) := by decide +kernel
theorem dL_ruling_21 : decode cL_ruling 21 = .ok (.iconst 3, 1) := by decide +kernel
theorem dL_ruling_22 : decode cL_ruling 22 = .ok (.iadd, 1) := by decide +kernel
theorem dL_ruling_23 : decode cL_ruling 23 = .ok (.iaload, 1) := by decide +kernel
theorem dL_ruling_24 : decode cL_ruling 24 = .ok (.iconst 1, 1) := by decide +kernel
theorem dL_ruling_25 : decode cL_ruling 25 = .ok (.if_icmp .ne 19, 3) := by decide +kernel
theorem dL_ruling_28 : decode cL_ruling 28 = .ok (.aload_n 2, 1) := by decide +kernel
theorem dL_ruling_29 : decode cL_ruling 29 = .ok (.iconst 4, 1) := by decide +kernel
theorem dL_ruling_30 : decode cL_ruling 30 = .ok (.iload 5, 2) := by decide +kernel
theorem dL_ruling_32 : decode cL_ruling 32 = .ok (.imul, 1) := by decide +kernel
theorem dL_ruling_33 : decode cL_ruling 33 = .ok (.iconst 1, 1) := by decide +kernel
theorem dL_ruling_34 : decode cL_ruling 34 = .ok (.iadd, 1) := by decide +kernel
theorem dL_ruling_35 : decode cL_ruling 35 = .ok (.iaload, 1) := by decide +kernel
theorem dL_ruling_36 : decode cL_ruling 36 = .ok (.iload_n 3, 1) := by decide +kernel
theorem dL_ruling_37 : decode cL_ruling 37 = .ok (.if_icmp .ne 7, 3) := by decide +kernel
theorem dL_ruling_40 : decode cL_ruling 40 = .ok (.iconst 1, 1) := by decide +kernel
theorem dL_ruling_41 : decode cL_ruling 41 = .ok (.goto 4, 3) := by decide +kernel
theorem dL_ruling_44 : decode cL_ruling 44 = .ok (.iconst 0, 1) := by decide +kernel
theorem dL_ruling_45 : decode cL_ruling 45 = .ok (.istore 6, 2) := by decide +kernel
theorem dL_ruling_47 : decode cL_ruling 47 = .ok (.iload 6, 2) := by decide +kernel
theorem dL_ruling_49 : decode cL_ruling 49 = .ok (.ifCond .eq 32, 3) := by decide +kernel
theorem dL_ruling_52 : decode cL_ruling 52 = .ok (.iload 4, 2) := by decide +kernel
theorem dL_ruling_54 : decode cL_ruling 54 = .ok (.ifCond .lt 22, 3) := by decide +kernel
theorem dL_ruling_57 : decode cL_ruling 57 = .ok (.aload_n 1, 1) := by decide +kernel
theorem dL_ruling_58 : decode cL_ruling 58 = .ok (.aload_n 2, 1) := by decide +kernel
theorem dL_ruling_59 : decode cL_ruling 59 = .ok (.iconst 4, 1) := by decide +kernel
theorem dL_ruling_60 : decode cL_ruling 60 = .ok (.iload 5, 2) := by decide +kernel
theorem dL_ruling_62 : decode cL_ruling 62 = .ok (.imul, 1) := by decide +kernel
theorem dL_ruling_63 : decode cL_ruling 63 = .ok (.iaload, 1) := by decide +kernel
theorem dL_ruling_64 : decode cL_ruling 64 = .ok (.iaload, 1) := by decide +kernel
theorem dL_ruling_65 : decode cL_ruling 65 = .ok (.aload_n 1, 1) := by decide +kernel
theorem dL_ruling_66 : decode cL_ruling 66 = .ok (.aload_n 2, 1) := by decide +kernel
theorem dL_ruling_67 : decode cL_ruling 67 = .ok (.iconst 4, 1) := by decide +kernel
theorem dL_ruling_68 : decode cL_ruling 68 = .ok (.iload 4, 2) := by decide +kernel
theorem dL_ruling_70 : decode cL_ruling 70 = .ok (.imul, 1) := by decide +kernel
theorem dL_ruling_71 : decode cL_ruling 71 = .ok (.iaload, 1) := by decide +kernel
theorem dL_ruling_72 : decode cL_ruling 72 = .ok (.iaload, 1) := by decide +kernel
theorem dL_ruling_73 : decode cL_ruling 73 = .ok (.if_icmp .le 8, 3) := by decide +kernel
theorem dL_ruling_76 : decode cL_ruling 76 = .ok (.iload 5, 2) := by decide +kernel
theorem dL_ruling_78 : decode cL_ruling 78 = .ok (.goto 5, 3) := by decide +kernel
theorem dL_ruling_81 : decode cL_ruling 81 = .ok (.iload 4, 2) := by decide +kernel
theorem dL_ruling_83 : decode cL_ruling 83 = .ok (.istore 4, 2) := by decide +kernel
theorem dL_ruling_85 : decode cL_ruling 85 = .ok (.iinc 5 (-1), 3) := by decide +kernel
theorem dL_ruling_88 : decode cL_ruling 88 = .ok (.goto (-77), 3) := by decide +kernel
theorem dL_ruling_91 : decode cL_ruling 91 = .ok (.iload 4, 2) := by decide +kernel
theorem dL_ruling_93 : decode cL_ruling 93 = .ok (.ireturn, 1) := by decide +kernel
theorem dL_has_0 : decode cL_has 0 = .ok (.iload 4, 2) := by decide +kernel
theorem dL_has_2 : decode cL_has 2 = .ok (.istore 6, 2) := by decide +kernel
theorem dL_has_4 : decode cL_has 4 = .ok (.aload_n 0, 1) := by decide +kernel
theorem dL_has_5 : decode cL_has 5 = .ok (.aload_n 1, 1) := by decide +kernel
theorem dL_has_6 : decode cL_has 6 = .ok (.aload_n 2, 1) := by decide +kernel
theorem dL_has_7 : decode cL_has 7 = .ok (.iload 6, 2) := by decide +kernel
theorem dL_has_9 : decode cL_has 9 = .ok (.invokestatic 12, 3) := by decide +kernel
theorem dL_has_12 : decode cL_has 12 = .ok (.istore 7, 2) := by decide +kernel
theorem dL_has_14 : decode cL_has 14 = .ok (.iconst 0, 1) := by decide +kernel
theorem dL_has_15 : decode cL_has 15 = .ok (.istore 8, 2) := by decide +kernel
theorem dL_has_17 : decode cL_has 17 = .ok (.iload 7, 2) := by decide +kernel
theorem dL_has_19 : decode cL_has 19 = .ok (.ifCond .lt 47, 3) := by decide +kernel
theorem dL_has_22 : decode cL_has 22 = .ok (.aload_n 2, 1) := by decide +kernel
theorem dL_has_23 : decode cL_has 23 = .ok (.iconst 4, 1) := by decide +kernel
theorem dL_has_24 : decode cL_has 24 = .ok (.iload 7, 2) := by decide +kernel
theorem dL_has_26 : decode cL_has 26 = .ok (.imul, 1) := by decide +kernel
theorem dL_has_27 : decode cL_has 27 = .ok (.iconst 2, 1) := by decide +kernel
theorem dL_has_28 : decode cL_has 28 = .ok (.iadd, 1) := by decide +kernel
theorem dL_has_29 : decode cL_has 29 = .ok (.iaload, 1) := by decide +kernel
theorem dL_has_30 : decode cL_has 30 = .ok (.ifCond .lt 36, 3) := by decide +kernel
theorem dL_has_33 : decode cL_has 33 = .ok (.iload 8, 2) := by decide +kernel
theorem dL_has_35 : decode cL_has 35 = .ok (.bipush 17, 2) := by decide +kernel
theorem dL_has_37 : decode cL_has 37 = .ok (.if_icmp .ge 29, 3) := by decide +kernel
theorem dL_has_40 : decode cL_has 40 = .ok (.aload_n 2, 1) := by decide +kernel
theorem dL_has_41 : decode cL_has 41 = .ok (.iconst 4, 1) := by decide +kernel
theorem dL_has_42 : decode cL_has 42 = .ok (.iload 7, 2) := by decide +kernel
theorem dL_has_44 : decode cL_has 44 = .ok (.imul, 1) := by decide +kernel
theorem dL_has_45 : decode cL_has 45 = .ok (.iconst 2, 1) := by decide +kernel
theorem dL_has_46 : decode cL_has 46 = .ok (.iadd, 1) := by decide +kernel
theorem dL_has_47 : decode cL_has 47 = .ok (.iaload, 1) := by decide +kernel
theorem dL_has_48 : decode cL_has 48 = .ok (.istore 6, 2) := by decide +kernel
theorem dL_has_50 : decode cL_has 50 = .ok (.aload_n 0, 1) := by decide +kernel
theorem dL_has_51 : decode cL_has 51 = .ok (.aload_n 1, 1) := by decide +kernel
theorem dL_has_52 : decode cL_has 52 = .ok (.aload_n 2, 1) := by decide +kernel
theorem dL_has_53 : decode cL_has 53 = .ok (.iload 6, 2) := by decide +kernel
theorem dL_has_55 : decode cL_has 55 = .ok (.invokestatic 12, 3) := by decide +kernel
theorem dL_has_58 : decode cL_has 58 = .ok (.istore 7, 2) := by decide +kernel
theorem dL_has_60 : decode cL_has 60 = .ok (.iinc 8 1, 3) := by decide +kernel
theorem dL_has_63 : decode cL_has 63 = .ok (.goto (-46), 3) := by decide +kernel
theorem dL_has_66 : decode cL_has 66 = .ok (.iload 7, 2) := by decide +kernel
theorem dL_has_68 : decode cL_has 68 = .ok (.ifCond .lt 10, 3) := by decide +kernel
theorem dL_has_71 : decode cL_has 71 = .ok (.iload 8, 2) := by decide +kernel
theorem dL_has_73 : decode cL_has 73 = .ok (.bipush 17, 2) := by decide +kernel
theorem dL_has_75 : decode cL_has 75 = .ok (.if_icmp .ne 5, 3) := by decide +kernel
theorem dL_has_78 : decode cL_has 78 = .ok (.iconst 0, 1) := by decide +kernel
theorem dL_has_79 : decode cL_has 79 = .ok (.ireturn, 1) := by decide +kernel
theorem dL_has_80 : decode cL_has 80 = .ok (.aload_n 3, 1) := by decide +kernel
theorem dL_has_81 : decode cL_has 81 = .ok (.iconst 2, 1) := by decide +kernel
theorem dL_has_82 : decode cL_has 82 = .ok (.iload 7, 2) := by decide +kernel
theorem dL_has_84 : decode cL_has 84 = .ok (.imul, 1) := by decide +kernel
theorem dL_has_85 : decode cL_has 85 = .ok (.iconst 1, 1) := by decide +kernel
theorem dL_has_86 : decode cL_has 86 = .ok (.iadd, 1) := by decide +kernel
theorem dL_has_87 : decode cL_has 87 = .ok (.daload, 1) := by decide +kernel
theorem dL_has_88 : decode cL_has 88 = .ok (.d2f, 1) := by decide +kernel
theorem dL_has_89 : decode cL_has 89 = .ok (.fstore 9, 2) := by decide +kernel
theorem dL_has_91 : decode cL_has 91 = .ok (.iconst 1, 1) := by decide +kernel
theorem dL_has_92 : decode cL_has 92 = .ok (.istore 10, 2) := by decide +kernel
theorem dL_has_94 : decode cL_has 94 = .ok (.iload 8, 2) := by decide +kernel
theorem dL_has_96 : decode cL_has 96 = .ok (.iconst 1, 1) := by decide +kernel
theorem dL_has_97 : decode cL_has 97 = .ok (.isub, 1) := by decide +kernel
theorem dL_has_98 : decode cL_has 98 = .ok (.istore 11, 2) := by decide +kernel
theorem dL_has_100 : decode cL_has 100 = .ok (.iload 11, 2) := by decide +kernel
theorem dL_has_102 : decode cL_has 102 = .ok (.ifCond .lt 105, 3) := by decide +kernel
theorem dL_has_105 : decode cL_has 105 = .ok (.iload 10, 2) := by decide +kernel
theorem dL_has_107 : decode cL_has 107 = .ok (.ifCond .eq 100, 3) := by decide +kernel
theorem dL_has_110 : decode cL_has 110 = .ok (.iload 4, 2) := by decide +kernel
theorem dL_has_112 : decode cL_has 112 = .ok (.istore 6, 2) := by decide +kernel
theorem dL_has_114 : decode cL_has 114 = .ok (.iconst 0, 1) := by decide +kernel
theorem dL_has_115 : decode cL_has 115 = .ok (.istore 12, 2) := by decide +kernel
theorem dL_has_117 : decode cL_has 117 = .ok (.iload 12, 2) := by decide +kernel
theorem dL_has_119 : decode cL_has 119 = .ok (.iload 11, 2) := by decide +kernel
theorem dL_has_121 : decode cL_has 121 = .ok (.if_icmp .ge 25, 3) := by decide +kernel
theorem dL_has_124 : decode cL_has 124 = .ok (.aload_n 2, 1) := by decide +kernel
theorem dL_has_125 : decode cL_has 125 = .ok (.iconst 4, 1) := by decide +kernel
theorem dL_has_126 : decode cL_has 126 = .ok (.aload_n 0, 1) := by decide +kernel
theorem dL_has_127 : decode cL_has 127 = .ok (.aload_n 1, 1) := by decide +kernel
theorem dL_has_128 : decode cL_has 128 = .ok (.aload_n 2, 1) := by decide +kernel
theorem dL_has_129 : decode cL_has 129 = .ok (.iload 6, 2) := by decide +kernel
theorem dL_has_131 : decode cL_has 131 = .ok (.invokestatic 12, 3) := by decide +kernel
theorem dL_has_134 : decode cL_has 134 = .ok (.imul, 1) := by decide +kernel
theorem dL_has_135 : decode cL_has 135 = .ok (.iconst 2, 1) := by decide +kernel
theorem dL_has_136 : decode cL_has 136 = .ok (.iadd, 1) := by decide +kernel
theorem dL_has_137 : decode cL_has 137 = .ok (.iaload, 1) := by decide +kernel
theorem dL_has_138 : decode cL_has 138 = .ok (.istore 6, 2) := by decide +kernel
theorem dL_has_140 : decode cL_has 140 = .ok (.iinc 12 1, 3) := by decide +kernel
theorem dL_has_143 : decode cL_has 143 = .ok (.goto (-26), 3) := by decide +kernel
theorem dL_has_146 : decode cL_has 146 = .ok (.aload_n 0, 1) := by decide +kernel
theorem dL_has_147 : decode cL_has 147 = .ok (.aload_n 1, 1) := by decide +kernel
theorem dL_has_148 : decode cL_has 148 = .ok (.aload_n 2, 1) := by decide +kernel
theorem dL_has_149 : decode cL_has 149 = .ok (.iload 6, 2) := by decide +kernel
theorem dL_has_151 : decode cL_has 151 = .ok (.invokestatic 12, 3) := by decide +kernel
theorem dL_has_154 : decode cL_has 154 = .ok (.istore 7, 2) := by decide +kernel
theorem dL_has_156 : decode cL_has 156 = .ok (.fload 9, 2) := by decide +kernel
theorem dL_has_158 : decode cL_has 158 = .ok (.aload_n 3, 1) := by decide +kernel
theorem dL_has_159 : decode cL_has 159 = .ok (.iconst 2, 1) := by decide +kernel
theorem dL_has_160 : decode cL_has 160 = .ok (.iload 7, 2) := by decide +kernel
theorem dL_has_162 : decode cL_has 162 = .ok (.imul, 1) := by decide +kernel
theorem dL_has_163 : decode cL_has 163 = .ok (.daload, 1) := by decide +kernel
theorem dL_has_164 : decode cL_has 164 = .ok (.d2f, 1) := by decide +kernel
theorem dL_has_165 : decode cL_has 165 = .ok (.fmul, 1) := by decide +kernel
theorem dL_has_166 : decode cL_has 166 = .ok (.aload_n 3, 1) := by decide +kernel
theorem dL_has_167 : decode cL_has 167 = .ok (.iconst 2, 1) := by decide +kernel
theorem dL_has_168 : decode cL_has 168 = .ok (.iload 7, 2) := by decide +kernel
theorem dL_has_170 : decode cL_has 170 = .ok (.imul, 1) := by decide +kernel
theorem dL_has_171 : decode cL_has 171 = .ok (.iconst 1, 1) := by decide +kernel
theorem dL_has_172 : decode cL_has 172 = .ok (.iadd, 1) := by decide +kernel
theorem dL_has_173 : decode cL_has 173 = .ok (.daload, 1) := by decide +kernel
theorem dL_has_174 : decode cL_has 174 = .ok (.d2f, 1) := by decide +kernel
theorem dL_has_175 : decode cL_has 175 = .ok (.fadd, 1) := by decide +kernel
theorem dL_has_176 : decode cL_has 176 = .ok (.fstore 9, 2) := by decide +kernel
theorem dL_has_178 : decode cL_has 178 = .ok (.fload 9, 2) := by decide +kernel
theorem dL_has_180 : decode cL_has 180 = .ok (.ldc 16, 2) := by decide +kernel
theorem dL_has_182 : decode cL_has 182 = .ok (.fcmp .l, 1) := by decide +kernel
theorem dL_has_183 : decode cL_has 183 = .ok (.ifCond .lt 15, 3) := by decide +kernel
theorem dL_has_186 : decode cL_has 186 = .ok (.fload 9, 2) := by decide +kernel
theorem dL_has_188 : decode cL_has 188 = .ok (.ldc 17, 2) := by decide +kernel
theorem dL_has_190 : decode cL_has 190 = .ok (.fcmp .g, 1) := by decide +kernel
theorem dL_has_191 : decode cL_has 191 = .ok (.ifCond .gt 7, 3) := by decide +kernel
theorem dL_has_194 : decode cL_has 194 = .ok (.iconst 1, 1) := by decide +kernel
theorem dL_has_195 : decode cL_has 195 = .ok (.goto 4, 3) := by decide +kernel
theorem dL_has_198 : decode cL_has 198 = .ok (.iconst 0, 1) := by decide +kernel
theorem dL_has_199 : decode cL_has 199 = .ok (.istore 10, 2) := by decide +kernel
theorem dL_has_201 : decode cL_has 201 = .ok (.iinc 11 (-1), 3) := by decide +kernel
theorem dL_has_204 : decode cL_has 204 = .ok (.goto (-104), 3) := by decide +kernel
theorem dL_has_207 : decode cL_has 207 = .ok (.aload 5, 2) := by decide +kernel
theorem dL_has_209 : decode cL_has 209 = .ok (.iconst 0, 1) := by decide +kernel
theorem dL_has_210 : decode cL_has 210 = .ok (.fload 9, 2) := by decide +kernel
theorem dL_has_212 : decode cL_has 212 = .ok (.f2d, 1) := by decide +kernel
theorem dL_has_213 : decode cL_has 213 = .ok (.dastore, 1) := by decide +kernel
theorem dL_has_214 : decode cL_has 214 = .ok (.iload 10, 2) := by decide +kernel
theorem dL_has_216 : decode cL_has 216 = .ok (.ireturn, 1) := by decide +kernel
theorem dL_hasOf_0 : decode cL_hasOf 0 = .ok (.aload_n 2, 1) := by decide +kernel
theorem dL_hasOf_1 : decode cL_hasOf 1 = .ok (.iconst 4, 1) := by decide +kernel
theorem dL_hasOf_2 : decode cL_hasOf 2 = .ok (.iload 4, 2) := by decide +kernel
theorem dL_hasOf_4 : decode cL_hasOf 4 = .ok (.imul, 1) := by decide +kernel
theorem dL_hasOf_5 : decode cL_hasOf 5 = .ok (.iconst 2, 1) := by decide +kernel
theorem dL_hasOf_6 : decode cL_hasOf 6 = .ok (.iadd, 1) := by decide +kernel
theorem dL_hasOf_7 : decode cL_hasOf 7 = .ok (.iaload, 1) := by decide +kernel
theorem dL_hasOf_8 : decode cL_hasOf 8 = .ok (.ifCond .ge 17, 3) := by decide +kernel
theorem dL_hasOf_11 : decode cL_hasOf 11 = .ok (.aload 5, 2) := by decide +kernel
theorem dL_hasOf_13 : decode cL_hasOf 13 = .ok (.iconst 0, 1) := by decide +kernel
theorem dL_hasOf_14 : decode cL_hasOf 14 = .ok (.aload_n 3, 1) := by decide +kernel
theorem dL_hasOf_15 : decode cL_hasOf 15 = .ok (.iconst 2, 1) := by decide +kernel
theorem dL_hasOf_16 : decode cL_hasOf 16 = .ok (.iload 4, 2) := by decide +kernel
theorem dL_hasOf_18 : decode cL_hasOf 18 = .ok (.imul, 1) := by decide +kernel
theorem dL_hasOf_19 : decode cL_hasOf 19 = .ok (.iconst 1, 1) := by decide +kernel
theorem dL_hasOf_20 : decode cL_hasOf 20 = .ok (.iadd, 1) := by decide +kernel
theorem dL_hasOf_21 : decode cL_hasOf 21 = .ok (.daload, 1) := by decide +kernel
theorem dL_hasOf_22 : decode cL_hasOf 22 = .ok (.dastore, 1) := by decide +kernel
theorem dL_hasOf_23 : decode cL_hasOf 23 = .ok (.iconst 1, 1) := by decide +kernel
theorem dL_hasOf_24 : decode cL_hasOf 24 = .ok (.ireturn, 1) := by decide +kernel
theorem dL_hasOf_25 : decode cL_hasOf 25 = .ok (.aload_n 0, 1) := by decide +kernel
theorem dL_hasOf_26 : decode cL_hasOf 26 = .ok (.aload_n 1, 1) := by decide +kernel
theorem dL_hasOf_27 : decode cL_hasOf 27 = .ok (.aload_n 2, 1) := by decide +kernel
theorem dL_hasOf_28 : decode cL_hasOf 28 = .ok (.aload_n 3, 1) := by decide +kernel
theorem dL_hasOf_29 : decode cL_hasOf 29 = .ok (.aload_n 2, 1) := by decide +kernel
theorem dL_hasOf_30 : decode cL_hasOf 30 = .ok (.iconst 4, 1) := by decide +kernel
theorem dL_hasOf_31 : decode cL_hasOf 31 = .ok (.iload 4, 2) := by decide +kernel
theorem dL_hasOf_33 : decode cL_hasOf 33 = .ok (.imul, 1) := by decide +kernel
theorem dL_hasOf_34 : decode cL_hasOf 34 = .ok (.iconst 2, 1) := by decide +kernel
theorem dL_hasOf_35 : decode cL_hasOf 35 = .ok (.iadd, 1) := by decide +kernel
theorem dL_hasOf_36 : decode cL_hasOf 36 = .ok (.iaload, 1) := by decide +kernel
theorem dL_hasOf_37 : decode cL_hasOf 37 = .ok (.aload 5, 2) := by decide +kernel
theorem dL_hasOf_39 : decode cL_hasOf 39 = .ok (.invokestatic 18, 3) := by decide +kernel
theorem dL_hasOf_42 : decode cL_hasOf 42 = .ok (.ifCond .ne 5, 3) := by decide +kernel
theorem dL_hasOf_45 : decode cL_hasOf 45 = .ok (.iconst 0, 1) := by decide +kernel
theorem dL_hasOf_46 : decode cL_hasOf 46 = .ok (.ireturn, 1) := by decide +kernel
theorem dL_hasOf_47 : decode cL_hasOf 47 = .ok (.aload 5, 2) := by decide +kernel
theorem dL_hasOf_49 : decode cL_hasOf 49 = .ok (.iconst 0, 1) := by decide +kernel
theorem dL_hasOf_50 : decode cL_hasOf 50 = .ok (.daload, 1) := by decide +kernel
theorem dL_hasOf_51 : decode cL_hasOf 51 = .ok (.d2f, 1) := by decide +kernel
theorem dL_hasOf_52 : decode cL_hasOf 52 = .ok (.aload_n 3, 1) := by decide +kernel
theorem dL_hasOf_53 : decode cL_hasOf 53 = .ok (.iconst 2, 1) := by decide +kernel
theorem dL_hasOf_54 : decode cL_hasOf 54 = .ok (.iload 4, 2) := by decide +kernel
theorem dL_hasOf_56 : decode cL_hasOf 56 = .ok (.imul, 1) := by decide +kernel
theorem dL_hasOf_57 : decode cL_hasOf 57 = .ok (.daload, 1) := by decide +kernel
theorem dL_hasOf_58 : decode cL_hasOf 58 = .ok (.d2f, 1) := by decide +kernel
theorem dL_hasOf_59 : decode cL_hasOf 59 = .ok (.fmul, 1) := by decide +kernel
theorem dL_hasOf_60 : decode cL_hasOf 60 = .ok (.aload_n 3, 1) := by decide +kernel
theorem dL_hasOf_61 : decode cL_hasOf 61 = .ok (.iconst 2, 1) := by decide +kernel
theorem dL_hasOf_62 : decode cL_hasOf 62 = .ok (.iload 4, 2) := by decide +kernel
theorem dL_hasOf_64 : decode cL_hasOf 64 = .ok (.imul, 1) := by decide +kernel
theorem dL_hasOf_65 : decode cL_hasOf 65 = .ok (.iconst 1, 1) := by decide +kernel
theorem dL_hasOf_66 : decode cL_hasOf 66 = .ok (.iadd, 1) := by decide +kernel
theorem dL_hasOf_67 : decode cL_hasOf 67 = .ok (.daload, 1) := by decide +kernel
theorem dL_hasOf_68 : decode cL_hasOf 68 = .ok (.d2f, 1) := by decide +kernel
theorem dL_hasOf_69 : decode cL_hasOf 69 = .ok (.fadd, 1) := by decide +kernel
theorem dL_hasOf_70 : decode cL_hasOf 70 = .ok (.fstore 6, 2) := by decide +kernel
theorem dL_hasOf_72 : decode cL_hasOf 72 = .ok (.aload 5, 2) := by decide +kernel
theorem dL_hasOf_74 : decode cL_hasOf 74 = .ok (.iconst 0, 1) := by decide +kernel
theorem dL_hasOf_75 : decode cL_hasOf 75 = .ok (.fload 6, 2) := by decide +kernel
theorem dL_hasOf_77 : decode cL_hasOf 77 = .ok (.f2d, 1) := by decide +kernel
theorem dL_hasOf_78 : decode cL_hasOf 78 = .ok (.dastore, 1) := by decide +kernel
theorem dL_hasOf_79 : decode cL_hasOf 79 = .ok (.fload 6, 2) := by decide +kernel
theorem dL_hasOf_81 : decode cL_hasOf 81 = .ok (.ldc 16, 2) := by decide +kernel
theorem dL_hasOf_83 : decode cL_hasOf 83 = .ok (.fcmp .l, 1) := by decide +kernel
theorem dL_hasOf_84 : decode cL_hasOf 84 = .ok (.ifCond .lt 15, 3) := by decide +kernel
theorem dL_hasOf_87 : decode cL_hasOf 87 = .ok (.fload 6, 2) := by decide +kernel
theorem dL_hasOf_89 : decode cL_hasOf 89 = .ok (.ldc 17, 2) := by decide +kernel
theorem dL_hasOf_91 : decode cL_hasOf 91 = .ok (.fcmp .g, 1) := by decide +kernel
theorem dL_hasOf_92 : decode cL_hasOf 92 = .ok (.ifCond .gt 7, 3) := by decide +kernel
theorem dL_hasOf_95 : decode cL_hasOf 95 = .ok (.iconst 1, 1) := by decide +kernel
theorem dL_hasOf_96 : decode cL_hasOf 96 = .ok (.goto 4, 3) := by decide +kernel
theorem dL_hasOf_99 : decode cL_hasOf 99 = .ok (.iconst 0, 1) := by decide +kernel
theorem dL_hasOf_100 : decode cL_hasOf 100 = .ok (.ireturn, 1) := by decide +kernel
theorem dL_differ_0 : decode cL_differ 0 = .ok (.iload_n 0, 1) := by decide +kernel
theorem dL_differ_1 : decode cL_differ 1 = .ok (.iload_n 3, 1) := by decide +kernel
theorem dL_differ_2 : decode cL_differ 2 = .ok (.if_icmp .eq 5, 3) := by decide +kernel
theorem dL_differ_5 : decode cL_differ 5 = .ok (.iconst 1, 1) := by decide +kernel
theorem dL_differ_6 : decode cL_differ 6 = .ok (.ireturn, 1) := by decide +kernel
theorem dL_differ_7 : decode cL_differ 7 = .ok (.iload_n 0, 1) := by decide +kernel
theorem dL_differ_8 : decode cL_differ 8 = .ok (.ifCond .eq 12, 3) := by decide +kernel
theorem dL_differ_11 : decode cL_differ 11 = .ok (.dload_n 1, 1) := by decide +kernel
theorem dL_differ_12 : decode cL_differ 12 = .ok (.d2f, 1) := by decide +kernel
theorem dL_differ_13 : decode cL_differ 13 = .ok (.dload 4, 2) := by decide +kernel
theorem dL_differ_15 : decode cL_differ 15 = .ok (.d2f, 1) := by decide +kernel
theorem dL_differ_16 : decode cL_differ 16 = .ok (.fsub, 1) := by decide +kernel
theorem dL_differ_17 : decode cL_differ 17 = .ok (.goto 4, 3) := by decide +kernel
theorem dL_differ_20 : decode cL_differ 20 = .ok (.fconst 0, 1) := by decide +kernel
theorem dL_differ_21 : decode cL_differ 21 = .ok (.fstore 8, 2) := by decide +kernel
theorem dL_differ_23 : decode cL_differ 23 = .ok (.iload_n 0, 1) := by decide +kernel
theorem dL_differ_24 : decode cL_differ 24 = .ok (.ifCond .eq 29, 3) := by decide +kernel
theorem dL_differ_27 : decode cL_differ 27 = .ok (.fload 8, 2) := by decide +kernel
theorem dL_differ_29 : decode cL_differ 29 = .ok (.fconst 0, 1) := by decide +kernel
theorem dL_differ_30 : decode cL_differ 30 = .ok (.fcmp .g, 1) := by decide +kernel
theorem dL_differ_31 : decode cL_differ 31 = .ok (.ifCond .ge 9, 3) := by decide +kernel
theorem dL_differ_34 : decode cL_differ 34 = .ok (.fload 8, 2) := by decide +kernel
theorem dL_differ_36 : decode cL_differ 36 = .ok (.fneg, 1) := by decide +kernel
theorem dL_differ_37 : decode cL_differ 37 = .ok (.goto 5, 3) := by decide +kernel
theorem dL_differ_40 : decode cL_differ 40 = .ok (.fload 8, 2) := by decide +kernel
theorem dL_differ_42 : decode cL_differ 42 = .ok (.f2d, 1) := by decide +kernel
theorem dL_differ_43 : decode cL_differ 43 = .ok (.dload 6, 2) := by decide +kernel
theorem dL_differ_45 : decode cL_differ 45 = .ok (.dcmp .l, 1) := by decide +kernel
theorem dL_differ_46 : decode cL_differ 46 = .ok (.ifCond .le 7, 3) := by decide +kernel
theorem dL_differ_49 : decode cL_differ 49 = .ok (.iconst 1, 1) := by decide +kernel
theorem dL_differ_50 : decode cL_differ 50 = .ok (.goto 4, 3) := by decide +kernel
theorem dL_differ_53 : decode cL_differ 53 = .ok (.iconst 0, 1) := by decide +kernel
theorem dL_differ_54 : decode cL_differ 54 = .ok (.ireturn, 1) := by decide +kernel
theorem dL_conflict_0 : decode cL_conflict 0 = .ok (.aload_n 0, 1) := by decide +kernel
theorem dL_conflict_1 : decode cL_conflict 1 = .ok (.aload_n 1, 1) := by decide +kernel
theorem dL_conflict_2 : decode cL_conflict 2 = .ok (.aload_n 2, 1) := by decide +kernel
theorem dL_conflict_3 : decode cL_conflict 3 = .ok (.iload 5, 2) := by decide +kernel
theorem dL_conflict_5 : decode cL_conflict 5 = .ok (.invokestatic 12, 3) := by decide +kernel
theorem dL_conflict_8 : decode cL_conflict 8 = .ok (.istore 7, 2) := by decide +kernel
theorem dL_conflict_10 : decode cL_conflict 10 = .ok (.iload 7, 2) := by decide +kernel
theorem dL_conflict_12 : decode cL_conflict 12 = .ok (.ifCond .ge 6, 3) := by decide +kernel
theorem dL_conflict_15 : decode cL_conflict 15 = .ok (.bipush (-5), 2) := by decide +kernel
theorem dL_conflict_17 : decode cL_conflict 17 = .ok (.ireturn, 1) := by decide +kernel
theorem dL_conflict_18 : decode cL_conflict 18 = .ok (.aload_n 0, 1) := by decide +kernel
theorem dL_conflict_19 : decode cL_conflict 19 = .ok (.aload_n 1, 1) := by decide +kernel
theorem dL_conflict_20 : decode cL_conflict 20 = .ok (.aload_n 2, 1) := by decide +kernel
theorem dL_conflict_21 : decode cL_conflict 21 = .ok (.aload_n 3, 1) := by decide +kernel
theorem dL_conflict_22 : decode cL_conflict 22 = .ok (.iload 7, 2) := by decide +kernel
theorem dL_conflict_24 : decode cL_conflict 24 = .ok (.aload 6, 2) := by decide +kernel
theorem dL_conflict_26 : decode cL_conflict 26 = .ok (.invokestatic 22, 3) := by decide +kernel
theorem dL_conflict_29 : decode cL_conflict 29 = .ok (.istore 8, 2) := by decide +kernel
theorem dL_conflict_31 : decode cL_conflict 31 = .ok (.iload 8, 2) := by decide +kernel
theorem dL_conflict_33 : decode cL_conflict 33 = .ok (.ifCond .eq 10, 3) := by decide +kernel
theorem dL_conflict_36 : decode cL_conflict 36 = .ok (.aload 6, 2) := by decide +kernel
theorem dL_conflict_38 : decode cL_conflict 38 = .ok (.iconst 0, 1) := by decide +kernel
theorem dL_conflict_39 : decode cL_conflict 39 = .ok (.daload, 1) := by decide +kernel
theorem dL_conflict_40 : decode cL_conflict 40 = .ok (.goto 4, 3) := by decide +kernel
theorem dL_conflict_43 : decode cL_conflict 43 = .ok (.dconst 0, 1) := by decide +kernel
theorem dL_conflict_44 : decode cL_conflict 44 = .ok (.dstore 9, 2) := by decide +kernel
theorem dL_conflict_46 : decode cL_conflict 46 = .ok (.aload_n 0, 1) := by decide +kernel
theorem dL_conflict_47 : decode cL_conflict 47 = .ok (.iconst 1, 1) := by decide +kernel
theorem dL_conflict_48 : decode cL_conflict 48 = .ok (.iaload, 1) := by decide +kernel
theorem dL_conflict_49 : decode cL_conflict 49 = .ok (.iconst 1, 1) := by decide +kernel
theorem dL_conflict_50 : decode cL_conflict 50 = .ok (.isub, 1) := by decide +kernel
theorem dL_conflict_51 : decode cL_conflict 51 = .ok (.istore 11, 2) := by decide +kernel
theorem dL_conflict_53 : decode cL_conflict 53 = .ok (.iload 11, 2) := by decide +kernel
theorem dL_conflict_55 : decode cL_conflict 55 = .ok (.ifCond .lt 114, 3) := by decide +kernel
theorem dL_conflict_58 : decode cL_conflict 58 = .ok (.aload_n 2, 1) := by decide +kernel
theorem dL_conflict_59 : decode cL_conflict 59 = .ok (.iconst 4, 1) := by decide +kernel
theorem dL_conflict_60 : decode cL_conflict 60 = .ok (.iload 11, 2) := by decide +kernel
theorem dL_conflict_62 : decode cL_conflict 62 = .ok (.imul, 1) := by decide +kernel
theorem dL_conflict_63 : decode cL_conflict 63 = .ok (.iconst 3, 1) := by decide +kernel
theorem dL_conflict_64 : decode cL_conflict 64 = .ok (.iadd, 1) := by decide +kernel
theorem dL_conflict_65 : decode cL_conflict 65 = .ok (.iaload, 1) := by decide +kernel
theorem dL_conflict_66 : decode cL_conflict 66 = .ok (.iconst 1, 1) := by decide +kernel
theorem dL_conflict_67 : decode cL_conflict 67 = .ok (.if_icmp .ne 96, 3) := by decide +kernel
theorem dL_conflict_70 : decode cL_conflict 70 = .ok (.aload_n 2, 1) := by decide +kernel
theorem dL_conflict_71 : decode cL_conflict 71 = .ok (.iconst 4, 1) := by decide +kernel
theorem dL_conflict_72 : decode cL_conflict 72 = .ok (.iload 11, 2) := by decide +kernel
theorem dL_conflict_74 : decode cL_conflict 74 = .ok (.imul, 1) := by decide +kernel
theorem dL_conflict_75 : decode cL_conflict 75 = .ok (.iconst 1, 1) := by decide +kernel
theorem dL_conflict_76 : decode cL_conflict 76 = .ok (.iadd, 1) := by decide +kernel
theorem dL_conflict_77 : decode cL_conflict 77 = .ok (.iaload, 1) := by decide +kernel
theorem dL_conflict_78 : decode cL_conflict 78 = .ok (.iload 5, 2) := by decide +kernel
theorem dL_conflict_80 : decode cL_conflict 80 = .ok (.if_icmp .ne 83, 3) := by decide +kernel
theorem dL_conflict_83 : decode cL_conflict 83 = .ok (.aload_n 2, 1) := by decide +kernel
theorem dL_conflict_84 : decode cL_conflict 84 = .ok (.iconst 4, 1) := by decide +kernel
theorem dL_conflict_85 : decode cL_conflict 85 = .ok (.iload 11, 2) := by decide +kernel
theorem dL_conflict_87 : decode cL_conflict 87 = .ok (.imul, 1) := by decide +kernel
theorem dL_conflict_88 : decode cL_conflict 88 = .ok (.iaload, 1) := by decide +kernel
theorem dL_conflict_89 : decode cL_conflict 89 = .ok (.aload_n 2, 1) := by decide +kernel
theorem dL_conflict_90 : decode cL_conflict 90 = .ok (.iconst 4, 1) := by decide +kernel
theorem dL_conflict_91 : decode cL_conflict 91 = .ok (.iload 7, 2) := by decide +kernel
theorem dL_conflict_93 : decode cL_conflict 93 = .ok (.imul, 1) := by decide +kernel
theorem dL_conflict_94 : decode cL_conflict 94 = .ok (.iaload, 1) := by decide +kernel
theorem dL_conflict_95 : decode cL_conflict 95 = .ok (.if_icmp .eq 68, 3) := by decide +kernel
theorem dL_conflict_98 : decode cL_conflict 98 = .ok (.aload_n 1, 1) := by decide +kernel
theorem dL_conflict_99 : decode cL_conflict 99 = .ok (.aload_n 2, 1) := by decide +kernel
theorem dL_conflict_100 : decode cL_conflict 100 = .ok (.iconst 4, 1) := by decide +kernel
theorem dL_conflict_101 : decode cL_conflict 101 = .ok (.iload 11, 2) := by decide +kernel
theorem dL_conflict_103 : decode cL_conflict 103 = .ok (.imul, 1) := by decide +kernel
theorem dL_conflict_104 : decode cL_conflict 104 = .ok (.iaload, 1) := by decide +kernel
theorem dL_conflict_105 : decode cL_conflict 105 = .ok (.iaload, 1) := by decide +kernel
theorem dL_conflict_106 : decode cL_conflict 106 = .ok (.aload_n 1, 1) := by decide +kernel
theorem dL_conflict_107 : decode cL_conflict 107 = .ok (.aload_n 2, 1) := by decide +kernel
theorem dL_conflict_108 : decode cL_conflict 108 = .ok (.iconst 4, 1) := by decide +kernel
theorem dL_conflict_109 : decode cL_conflict 109 = .ok (.iload 7, 2) := by decide +kernel
theorem dL_conflict_111 : decode cL_conflict 111 = .ok (.imul, 1) := by decide +kernel
theorem dL_conflict_112 : decode cL_conflict 112 = .ok (.iaload, 1) := by decide +kernel
theorem dL_conflict_113 : decode cL_conflict 113 = .ok (.iaload, 1) := by decide +kernel
theorem dL_conflict_114 : decode cL_conflict 114 = .ok (.if_icmp .ne 49, 3) := by decide +kernel
theorem dL_conflict_117 : decode cL_conflict 117 = .ok (.aload_n 0, 1) := by decide +kernel
theorem dL_conflict_118 : decode cL_conflict 118 = .ok (.aload_n 1, 1) := by decide +kernel
theorem dL_conflict_119 : decode cL_conflict 119 = .ok (.aload_n 2, 1) := by decide +kernel
theorem dL_conflict_120 : decode cL_conflict 120 = .ok (.aload_n 3, 1) := by decide +kernel
theorem dL_conflict_121 : decode cL_conflict 121 = .ok (.iload 11, 2) := by decide +kernel
theorem dL_conflict_123 : decode cL_conflict 123 = .ok (.aload 6, 2) := by decide +kernel
theorem dL_conflict_125 : decode cL_conflict 125 = .ok (.invokestatic 22, 3) := by decide +kernel
theorem dL_conflict_128 : decode cL_conflict 128 = .ok (.istore 12, 2) := by decide +kernel
theorem dL_conflict_130 : decode cL_conflict 130 = .ok (.iload 8, 2) := by decide +kernel
theorem dL_conflict_132 : decode cL_conflict 132 = .ok (.dload 9, 2) := by decide +kernel
theorem dL_conflict_134 : decode cL_conflict 134 = .ok (.iload 12, 2) := by decide +kernel
theorem dL_conflict_136 : decode cL_conflict 136 = .ok (.iload 12, 2) := by decide +kernel
theorem dL_conflict_138 : decode cL_conflict 138 = .ok (.ifCond .eq 10, 3) := by decide +kernel
theorem dL_conflict_141 : decode cL_conflict 141 = .ok (.aload 6, 2) := by decide +kernel
theorem dL_conflict_143 : decode cL_conflict 143 = .ok (.iconst 0, 1) := by decide +kernel
theorem dL_conflict_144 : decode cL_conflict 144 = .ok (.daload, 1) := by decide +kernel
theorem dL_conflict_145 : decode cL_conflict 145 = .ok (.goto 4, 3) := by decide +kernel
theorem dL_conflict_148 : decode cL_conflict 148 = .ok (.dconst 0, 1) := by decide +kernel
theorem dL_conflict_149 : decode cL_conflict 149 = .ok (.aload 4, 2) := by decide +kernel
theorem dL_conflict_151 : decode cL_conflict 151 = .ok (.bipush 24, 2) := by decide +kernel
theorem dL_conflict_153 : decode cL_conflict 153 = .ok (.daload, 1) := by decide +kernel
theorem dL_conflict_154 : decode cL_conflict 154 = .ok (.invokestatic 25, 3) := by decide +kernel
theorem dL_conflict_157 : decode cL_conflict 157 = .ok (.ifCond .eq 6, 3) := by decide +kernel
theorem dL_conflict_160 : decode cL_conflict 160 = .ok (.iload 11, 2) := by decide +kernel
theorem dL_conflict_162 : decode cL_conflict 162 = .ok (.ireturn, 1) := by decide +kernel
theorem dL_conflict_163 : decode cL_conflict 163 = .ok (.iinc 11 (-1), 3) := by decide +kernel
theorem dL_conflict_166 : decode cL_conflict 166 = .ok (.goto (-113), 3) := by decide +kernel
theorem dL_conflict_169 : decode cL_conflict 169 = .ok (.bipush (-5), 2) := by decide +kernel
theorem dL_conflict_171 : decode cL_conflict 171 = .ok (.ireturn, 1) := by decide +kernel
theorem dL_over_0 : decode cL_over 0 = .ok (.iconst 0, 1) := by decide +kernel
theorem dL_over_1 : decode cL_over 1 = .ok (.istore_n 3, 1) := by decide +kernel
theorem dL_over_2 : decode cL_over 2 = .ok (.iload_n 2, 1) := by decide +kernel
theorem dL_over_3 : decode cL_over 3 = .ok (.iconst 1, 1) := by decide +kernel
theorem dL_over_4 : decode cL_over 4 = .ok (.iadd, 1) := by decide +kernel
theorem dL_over_5 : decode cL_over 5 = .ok (.istore 4, 2) := by decide +kernel
theorem dL_over_7 : decode cL_over 7 = .ok (.iload 4, 2) := by decide +kernel
theorem dL_over_9 : decode cL_over 9 = .ok (.aload_n 0, 1) := by decide +kernel
theorem dL_over_10 : decode cL_over 10 = .ok (.iconst 1, 1) := by decide +kernel
theorem dL_over_11 : decode cL_over 11 = .ok (.iaload, 1) := by decide +kernel
theorem dL_over_12 : decode cL_over 12 = .ok (.if_icmp .ge 47, 3) := by decide +kernel
theorem dL_over_15 : decode cL_over 15 = .ok (.iload_n 3, 1) := by decide +kernel
theorem dL_over_16 : decode cL_over 16 = .ok (.aload_n 1, 1) := by decide +kernel
theorem dL_over_17 : decode cL_over 17 = .ok (.iconst 4, 1) := by decide +kernel
theorem dL_over_18 : decode cL_over 18 = .ok (.iload 4, 2) := by decide +kernel
theorem dL_over_20 : decode cL_over 20 = .ok (.imul, 1) := by decide +kernel
theorem dL_over_21 : decode cL_over 21 = .ok (.iconst 3, 1) := by decide +kernel
theorem dL_over_22 : decode cL_over 22 = .ok (.iadd, 1) := by decide +kernel
theorem dL_over_23 : decode cL_over 23 = .ok (.iaload, 1) := by decide +kernel
theorem dL_over_24 : decode cL_over 24 = .ok (.iconst 1, 1) := by decide +kernel
theorem dL_over_25 : decode cL_over 25 = .ok (.if_icmp .ne 25, 3) := by decide +kernel
theorem dL_over_28 : decode cL_over 28 = .ok (.aload_n 1, 1) := by decide +kernel
theorem dL_over_29 : decode cL_over 29 = .ok (.iconst 4, 1) := by decide +kernel
theorem dL_over_30 : decode cL_over 30 = .ok (.iload 4, 2) := by decide +kernel
theorem dL_over_32 : decode cL_over 32 = .ok (.imul, 1) := by decide +kernel
theorem dL_over_33 : decode cL_over 33 = .ok (.iconst 1, 1) := by decide +kernel
theorem dL_over_34 : decode cL_over 34 = .ok (.iadd, 1) := by decide +kernel
theorem dL_over_35 : decode cL_over 35 = .ok (.iaload, 1) := by decide +kernel
theorem dL_over_36 : decode cL_over 36 = .ok (.aload_n 1, 1) := by decide +kernel
theorem dL_over_37 : decode cL_over 37 = .ok (.iconst 4, 1) := by decide +kernel
theorem dL_over_38 : decode cL_over 38 = .ok (.iload_n 2, 1) := by decide +kernel
theorem dL_over_39 : decode cL_over 39 = .ok (.imul, 1) := by decide +kernel
theorem dL_over_40 : decode cL_over 40 = .ok (.iconst 1, 1) := by decide +kernel
theorem dL_over_41 : decode cL_over 41 = .ok (.iadd, 1) := by decide +kernel
theorem dL_over_42 : decode cL_over 42 = .ok (.iaload, 1) := by decide +kernel
theorem dL_over_43 : decode cL_over 43 = .ok (.if_icmp .ne 7, 3) := by decide +kernel
theorem dL_over_46 : decode cL_over 46 = .ok (.iconst 1, 1) := by decide +kernel
theorem dL_over_47 : decode cL_over 47 = .ok (.goto 4, 3) := by decide +kernel
theorem dL_over_50 : decode cL_over 50 = .ok (.iconst 0, 1) := by decide +kernel
theorem dL_over_51 : decode cL_over 51 = .ok (.iadd, 1) := by decide +kernel
theorem dL_over_52 : decode cL_over 52 = .ok (.istore_n 3, 1) := by decide +kernel
theorem dL_over_53 : decode cL_over 53 = .ok (.iinc 4 1, 3) := by decide +kernel
theorem dL_over_56 : decode cL_over 56 = .ok (.goto (-49), 3) := by decide +kernel
theorem dL_over_59 : decode cL_over 59 = .ok (.iload_n 3, 1) := by decide +kernel
theorem dL_over_60 : decode cL_over 60 = .ok (.ireturn, 1) := by decide +kernel
theorem dL_areWords_0 : decode cL_areWords 0 = .ok (.iconst 1, 1) := by decide +kernel
theorem dL_areWords_1 : decode cL_areWords 1 = .ok (.newarray .double, 2) := by decide +kernel
theorem dL_areWords_3 : decode cL_areWords 3 = .ok (.astore 6, 2) := by decide +kernel
theorem dL_areWords_5 : decode cL_areWords 5 = .ok (.iconst 0, 1) := by decide +kernel
theorem dL_areWords_6 : decode cL_areWords 6 = .ok (.istore 7, 2) := by decide +kernel
theorem dL_areWords_8 : decode cL_areWords 8 = .ok (.iconst 0, 1) := by decide +kernel
theorem dL_areWords_9 : decode cL_areWords 9 = .ok (.istore 8, 2) := by decide +kernel
theorem dL_areWords_11 : decode cL_areWords 11 = .ok (.iconst 0, 1) := by decide +kernel
theorem dL_areWords_12 : decode cL_areWords 12 = .ok (.istore 9, 2) := by decide +kernel
theorem dL_areWords_14 : decode cL_areWords 14 = .ok (.iconst 0, 1) := by decide +kernel
theorem dL_areWords_15 : decode cL_areWords 15 = .ok (.istore 10, 2) := by decide +kernel
theorem dL_areWords_17 : decode cL_areWords 17 = .ok (.iload 10, 2) := by decide +kernel
theorem dL_areWords_19 : decode cL_areWords 19 = .ok (.bipush 16, 2) := by decide +kernel
theorem dL_areWords_21 : decode cL_areWords 21 = .ok (.if_icmp .ge 312, 3) := by decide +kernel
theorem dL_areWords_24 : decode cL_areWords 24 = .ok (.iconst 0, 1) := by decide +kernel
theorem dL_areWords_25 : decode cL_areWords 25 = .ok (.istore 11, 2) := by decide +kernel
theorem dL_areWords_27 : decode cL_areWords 27 = .ok (.bipush (-5), 2) := by decide +kernel
theorem dL_areWords_29 : decode cL_areWords 29 = .ok (.istore 12, 2) := by decide +kernel
theorem dL_areWords_31 : decode cL_areWords 31 = .ok (.iconst 0, 1) := by decide +kernel
theorem dL_areWords_32 : decode cL_areWords 32 = .ok (.istore 13, 2) := by decide +kernel
theorem dL_areWords_34 : decode cL_areWords 34 = .ok (.iload 13, 2) := by decide +kernel
theorem dL_areWords_36 : decode cL_areWords 36 = .ok (.aload_n 1, 1) := by decide +kernel
theorem dL_areWords_37 : decode cL_areWords 37 = .ok (.iconst 1, 1) := by decide +kernel
theorem dL_areWords_38 : decode cL_areWords 38 = .ok (.iaload, 1) := by decide +kernel
theorem dL_areWords_39 : decode cL_areWords 39 = .ok (.if_icmp .ge 70, 3) := by decide +kernel
theorem dL_areWords_42 : decode cL_areWords 42 = .ok (.aload_n 3, 1) := by decide +kernel
theorem dL_areWords_43 : decode cL_areWords 43 = .ok (.iconst 4, 1) := by decide +kernel
theorem dL_areWords_44 : decode cL_areWords 44 = .ok (.iload 13, 2) := by decide +kernel
theorem dL_areWords_46 : decode cL_areWords 46 = .ok (.imul, 1) := by decide +kernel
theorem dL_areWords_47 : decode cL_areWords 47 = .ok (.iconst 3, 1) := by decide +kernel
theorem dL_areWords_48 : decode cL_areWords 48 = .ok (.iadd, 1) := by decide +kernel
theorem dL_areWords_49 : decode cL_areWords 49 = .ok (.iaload, 1) := by decide +kernel
theorem dL_areWords_50 : decode cL_areWords 50 = .ok (.iconst 1, 1) := by decide +kernel
theorem dL_areWords_51 : decode cL_areWords 51 = .ok (.if_icmp .ne 20, 3) := by decide +kernel
theorem dL_areWords_54 : decode cL_areWords 54 = .ok (.aload_n 3, 1) := by decide +kernel
theorem dL_areWords_55 : decode cL_areWords 55 = .ok (.iconst 4, 1) := by decide +kernel
theorem dL_areWords_56 : decode cL_areWords 56 = .ok (.iload 13, 2) := by decide +kernel
theorem dL_areWords_58 : decode cL_areWords 58 = .ok (.imul, 1) := by decide +kernel
theorem dL_areWords_59 : decode cL_areWords 59 = .ok (.iconst 1, 1) := by decide +kernel
theorem dL_areWords_60 : decode cL_areWords 60 = .ok (.iadd, 1) := by decide +kernel
theorem dL_areWords_61 : decode cL_areWords 61 = .ok (.iaload, 1) := by decide +kernel
theorem dL_areWords_62 : decode cL_areWords 62 = .ok (.iload 10, 2) := by decide +kernel
theorem dL_areWords_64 : decode cL_areWords 64 = .ok (.if_icmp .ne 7, 3) := by decide +kernel
theorem dL_areWords_67 : decode cL_areWords 67 = .ok (.iconst 1, 1) := by decide +kernel
theorem dL_areWords_68 : decode cL_areWords 68 = .ok (.goto 4, 3) := by decide +kernel
theorem dL_areWords_71 : decode cL_areWords 71 = .ok (.iconst 0, 1) := by decide +kernel
theorem dL_areWords_72 : decode cL_areWords 72 = .ok (.istore 14, 2) := by decide +kernel
theorem dL_areWords_74 : decode cL_areWords 74 = .ok (.iload 11, 2) := by decide +kernel
theorem dL_areWords_76 : decode cL_areWords 76 = .ok (.iload 14, 2) := by decide +kernel
theorem dL_areWords_78 : decode cL_areWords 78 = .ok (.ifCond .eq 7, 3) := by decide +kernel
theorem dL_areWords_81 : decode cL_areWords 81 = .ok (.iconst 1, 1) := by decide +kernel
theorem dL_areWords_82 : decode cL_areWords 82 = .ok (.goto 4, 3) := by decide +kernel
theorem dL_areWords_85 : decode cL_areWords 85 = .ok (.iconst 0, 1) := by decide +kernel
theorem dL_areWords_86 : decode cL_areWords 86 = .ok (.iadd, 1) := by decide +kernel
theorem dL_areWords_87 : decode cL_areWords 87 = .ok (.istore 11, 2) := by decide +kernel
theorem dL_areWords_89 : decode cL_areWords 89 = .ok (.iload 14, 2) := by decide +kernel
theorem dL_areWords_91 : decode cL_areWords 91 = .ok (.ifCond .eq 8, 3) := by decide +kernel
theorem dL_areWords_94 : decode cL_areWords 94 = .ok (.iload 13, 2) := by decide +kernel
theorem dL_areWords_96 : decode cL_areWords 96 = .ok (.goto 5, 3) := by decide +kernel
theorem dL_areWords_99 : decode cL_areWords 99 = .ok (.iload 12, 2) := by decide +kernel
theorem dL_areWords_101 : decode cL_areWords 101 = .ok (.istore 12, 2) := by decide +kernel
theorem dL_areWords_103 : decode cL_areWords 103 = .ok (.iinc 13 1, 3) := by decide +kernel
theorem dL_areWords_106 : decode cL_areWords 106 = .ok (.goto (-72), 3) := by decide +kernel
theorem dL_areWords_109 : decode cL_areWords 109 = .ok (.aload_n 1, 1) := by decide +kernel
theorem dL_areWords_110 : decode cL_areWords 110 = .ok (.aload_n 2, 1) := by decide +kernel
theorem dL_areWords_111 : decode cL_areWords 111 = .ok (.aload_n 3, 1) := by decide +kernel
theorem dL_areWords_112 : decode cL_areWords 112 = .ok (.aload 4, 2) := by decide +kernel
theorem dL_areWords_114 : decode cL_areWords 114 = .ok (.iload 10, 2) := by decide +kernel
theorem dL_areWords_116 : decode cL_areWords 116 = .ok (.aload 6, 2) := by decide +kernel
theorem dL_areWords_118 : decode cL_areWords 118 = .ok (.invokestatic 18, 3) := by decide +kernel
theorem dL_areWords_121 : decode cL_areWords 121 = .ok (.istore 13, 2) := by decide +kernel
theorem dL_areWords_123 : decode cL_areWords 123 = .ok (.aload_n 0, 1) := by decide +kernel
theorem dL_areWords_124 : decode cL_areWords 124 = .ok (.iload 10, 2) := by decide +kernel
theorem dL_areWords_126 : decode cL_areWords 126 = .ok (.invokevirtual 29, 3) := by decide +kernel
theorem dL_areWords_129 : decode cL_areWords 129 = .ok (.fstore 14, 2) := by decide +kernel
theorem dL_areWords_131 : decode cL_areWords 131 = .ok (.iload 13, 2) := by decide +kernel
theorem dL_areWords_133 : decode cL_areWords 133 = .ok (.ifCond .eq 17, 3) := by decide +kernel
theorem dL_areWords_136 : decode cL_areWords 136 = .ok (.fload 14, 2) := by decide +kernel
theorem dL_areWords_138 : decode cL_areWords 138 = .ok (.f2d, 1) := by decide +kernel
theorem dL_areWords_139 : decode cL_areWords 139 = .ok (.aload 6, 2) := by decide +kernel
theorem dL_areWords_141 : decode cL_areWords 141 = .ok (.iconst 0, 1) := by decide +kernel
theorem dL_areWords_142 : decode cL_areWords 142 = .ok (.daload, 1) := by decide +kernel
theorem dL_areWords_143 : decode cL_areWords 143 = .ok (.dcmp .l, 1) := by decide +kernel
theorem dL_areWords_144 : decode cL_areWords 144 = .ok (.ifCond .eq 16, 3) := by decide +kernel
theorem dL_areWords_147 : decode cL_areWords 147 = .ok (.goto 11, 3) := by decide +kernel
theorem dL_areWords_150 : decode cL_areWords 150 = .ok (.fload 14, 2) := by decide +kernel
theorem dL_areWords_152 : decode cL_areWords 152 = .ok (.fload 14, 2) := by decide +kernel
theorem dL_areWords_154 : decode cL_areWords 154 = .ok (.fcmp .l, 1) := by decide +kernel
theorem dL_areWords_155 : decode cL_areWords 155 = .ok (.ifCond .ne 5, 3) := by decide +kernel
theorem dL_areWords_158 : decode cL_areWords 158 = .ok (.iconst 0, 1) := by decide +kernel
theorem dL_areWords_159 : decode cL_areWords 159 = .ok (.ireturn, 1) := by decide +kernel
theorem dL_areWords_160 : decode cL_areWords 160 = .ok (.aload_n 1, 1) := by decide +kernel
theorem dL_areWords_161 : decode cL_areWords 161 = .ok (.aload_n 2, 1) := by decide +kernel
theorem dL_areWords_162 : decode cL_areWords 162 = .ok (.aload_n 3, 1) := by decide +kernel
theorem dL_areWords_163 : decode cL_areWords 163 = .ok (.aload 4, 2) := by decide +kernel
theorem dL_areWords_165 : decode cL_areWords 165 = .ok (.aload 5, 2) := by decide +kernel
theorem dL_areWords_167 : decode cL_areWords 167 = .ok (.iload 10, 2) := by decide +kernel
theorem dL_areWords_169 : decode cL_areWords 169 = .ok (.aload 6, 2) := by decide +kernel
theorem dL_areWords_171 : decode cL_areWords 171 = .ok (.invokestatic 35, 3) := by decide +kernel
theorem dL_areWords_174 : decode cL_areWords 174 = .ok (.istore 15, 2) := by decide +kernel
theorem dL_areWords_176 : decode cL_areWords 176 = .ok (.aload_n 0, 1) := by decide +kernel
theorem dL_areWords_177 : decode cL_areWords 177 = .ok (.iload 10, 2) := by decide +kernel
theorem dL_areWords_179 : decode cL_areWords 179 = .ok (.iconst 0, 1) := by decide +kernel
theorem dL_areWords_180 : decode cL_areWords 180 = .ok (.invokevirtual 39, 3) := by decide +kernel
theorem dL_areWords_183 : decode cL_areWords 183 = .ok (.aload_n 1, 1) := by decide +kernel
theorem dL_areWords_184 : decode cL_areWords 184 = .ok (.aload_n 2, 1) := by decide +kernel
theorem dL_areWords_185 : decode cL_areWords 185 = .ok (.aload_n 3, 1) := by decide +kernel
theorem dL_areWords_186 : decode cL_areWords 186 = .ok (.iload 10, 2) := by decide +kernel
theorem dL_areWords_188 : decode cL_areWords 188 = .ok (.invokestatic 12, 3) := by decide +kernel
theorem dL_areWords_191 : decode cL_areWords 191 = .ok (.if_icmp .ne 84, 3) := by decide +kernel
theorem dL_areWords_194 : decode cL_areWords 194 = .ok (.aload_n 0, 1) := by decide +kernel
theorem dL_areWords_195 : decode cL_areWords 195 = .ok (.iload 10, 2) := by decide +kernel
theorem dL_areWords_197 : decode cL_areWords 197 = .ok (.iconst 1, 1) := by decide +kernel
theorem dL_areWords_198 : decode cL_areWords 198 = .ok (.invokevirtual 39, 3) := by decide +kernel
theorem dL_areWords_201 : decode cL_areWords 201 = .ok (.iload 12, 2) := by decide +kernel
theorem dL_areWords_203 : decode cL_areWords 203 = .ok (.if_icmp .ne 72, 3) := by decide +kernel
theorem dL_areWords_206 : decode cL_areWords 206 = .ok (.aload_n 0, 1) := by decide +kernel
theorem dL_areWords_207 : decode cL_areWords 207 = .ok (.iload 10, 2) := by decide +kernel
theorem dL_areWords_209 : decode cL_areWords 209 = .ok (.iconst 2, 1) := by decide +kernel
theorem dL_areWords_210 : decode cL_areWords 210 = .ok (.invokevirtual 39, 3) := by decide +kernel
theorem dL_areWords_213 : decode cL_areWords 213 = .ok (.iload 11, 2) := by decide +kernel
theorem dL_areWords_215 : decode cL_areWords 215 = .ok (.if_icmp .ne 60, 3) := by decide +kernel
theorem dL_areWords_218 : decode cL_areWords 218 = .ok (.aload_n 0, 1) := by decide +kernel
theorem dL_areWords_219 : decode cL_areWords 219 = .ok (.iload 10, 2) := by decide +kernel
theorem dL_areWords_221 : decode cL_areWords 221 = .ok (.iconst 3, 1) := by decide +kernel
theorem dL_areWords_222 : decode cL_areWords 222 = .ok (.invokevirtual 39, 3) := by decide +kernel
theorem dL_areWords_225 : decode cL_areWords 225 = .ok (.iload 13, 2) := by decide +kernel
theorem dL_areWords_227 : decode cL_areWords 227 = .ok (.ifCond .eq 7, 3) := by decide +kernel
theorem dL_areWords_230 : decode cL_areWords 230 = .ok (.iconst 1, 1) := by decide +kernel
theorem dL_areWords_231 : decode cL_areWords 231 = .ok (.goto 4, 3) := by decide +kernel
theorem dL_areWords_234 : decode cL_areWords 234 = .ok (.iconst 0, 1) := by decide +kernel
theorem dL_areWords_235 : decode cL_areWords 235 = .ok (.if_icmp .ne 40, 3) := by decide +kernel
theorem dL_areWords_238 : decode cL_areWords 238 = .ok (.aload_n 0, 1) := by decide +kernel
theorem dL_areWords_239 : decode cL_areWords 239 = .ok (.iload 10, 2) := by decide +kernel
theorem dL_areWords_241 : decode cL_areWords 241 = .ok (.iconst 4, 1) := by decide +kernel
theorem dL_areWords_242 : decode cL_areWords 242 = .ok (.invokevirtual 39, 3) := by decide +kernel
theorem dL_areWords_245 : decode cL_areWords 245 = .ok (.iload 15, 2) := by decide +kernel
theorem dL_areWords_247 : decode cL_areWords 247 = .ok (.if_icmp .ne 28, 3) := by decide +kernel
theorem dL_areWords_250 : decode cL_areWords 250 = .ok (.aload_n 0, 1) := by decide +kernel
theorem dL_areWords_251 : decode cL_areWords 251 = .ok (.iload 10, 2) := by decide +kernel
theorem dL_areWords_253 : decode cL_areWords 253 = .ok (.iconst 0, 1) := by decide +kernel
theorem dL_areWords_254 : decode cL_areWords 254 = .ok (.invokevirtual 43, 3) := by decide +kernel
theorem dL_areWords_257 : decode cL_areWords 257 = .ok (.iload 12, 2) := by decide +kernel
theorem dL_areWords_259 : decode cL_areWords 259 = .ok (.if_icmp .ne 16, 3) := by decide +kernel
theorem dL_areWords_262 : decode cL_areWords 262 = .ok (.aload_n 0, 1) := by decide +kernel
theorem dL_areWords_263 : decode cL_areWords 263 = .ok (.iload 10, 2) := by decide +kernel
theorem dL_areWords_265 : decode cL_areWords 265 = .ok (.iload 11, 2) := by decide +kernel
theorem dL_areWords_267 : decode cL_areWords 267 = .ok (.invokevirtual 43, 3) := by decide +kernel
theorem dL_areWords_270 : decode cL_areWords 270 = .ok (.bipush (-5), 2) := by decide +kernel
theorem dL_areWords_272 : decode cL_areWords 272 = .ok (.if_icmp .eq 5, 3) := by decide +kernel
theorem dL_areWords_275 : decode cL_areWords 275 = .ok (.iconst 0, 1) := by decide +kernel
theorem dL_areWords_276 : decode cL_areWords 276 = .ok (.ireturn, 1) := by decide +kernel
theorem dL_areWords_277 : decode cL_areWords 277 = .ok (.iload 7, 2) := by decide +kernel
theorem dL_areWords_279 : decode cL_areWords 279 = .ok (.iload 13, 2) := by decide +kernel
theorem dL_areWords_281 : decode cL_areWords 281 = .ok (.ifCond .eq 7, 3) := by decide +kernel
theorem dL_areWords_284 : decode cL_areWords 284 = .ok (.iconst 1, 1) := by decide +kernel
theorem dL_areWords_285 : decode cL_areWords 285 = .ok (.goto 4, 3) := by decide +kernel
theorem dL_areWords_288 : decode cL_areWords 288 = .ok (.iconst 0, 1) := by decide +kernel
theorem dL_areWords_289 : decode cL_areWords 289 = .ok (.iadd, 1) := by decide +kernel
theorem dL_areWords_290 : decode cL_areWords 290 = .ok (.istore 7, 2) := by decide +kernel
theorem dL_areWords_292 : decode cL_areWords 292 = .ok (.iload 8, 2) := by decide +kernel
theorem dL_areWords_294 : decode cL_areWords 294 = .ok (.iload 11, 2) := by decide +kernel
theorem dL_areWords_296 : decode cL_areWords 296 = .ok (.ifCond .le 12, 3) := by decide +kernel
theorem dL_areWords_299 : decode cL_areWords 299 = .ok (.iload 13, 2) := by decide +kernel
theorem dL_areWords_301 : decode cL_areWords 301 = .ok (.ifCond .ne 7, 3) := by decide +kernel
theorem dL_areWords_304 : decode cL_areWords 304 = .ok (.iconst 1, 1) := by decide +kernel
theorem dL_areWords_305 : decode cL_areWords 305 = .ok (.goto 4, 3) := by decide +kernel
theorem dL_areWords_308 : decode cL_areWords 308 = .ok (.iconst 0, 1) := by decide +kernel
theorem dL_areWords_309 : decode cL_areWords 309 = .ok (.iadd, 1) := by decide +kernel
theorem dL_areWords_310 : decode cL_areWords 310 = .ok (.istore 8, 2) := by decide +kernel
theorem dL_areWords_312 : decode cL_areWords 312 = .ok (.iload 9, 2) := by decide +kernel
theorem dL_areWords_314 : decode cL_areWords 314 = .ok (.iload 15, 2) := by decide +kernel
theorem dL_areWords_316 : decode cL_areWords 316 = .ok (.ifCond .lt 7, 3) := by decide +kernel
theorem dL_areWords_319 : decode cL_areWords 319 = .ok (.iconst 1, 1) := by decide +kernel
theorem dL_areWords_320 : decode cL_areWords 320 = .ok (.goto 4, 3) := by decide +kernel
theorem dL_areWords_323 : decode cL_areWords 323 = .ok (.iconst 0, 1) := by decide +kernel
theorem dL_areWords_324 : decode cL_areWords 324 = .ok (.iadd, 1) := by decide +kernel
theorem dL_areWords_325 : decode cL_areWords 325 = .ok (.istore 9, 2) := by decide +kernel
theorem dL_areWords_327 : decode cL_areWords 327 = .ok (.iinc 10 1, 3) := by decide +kernel
theorem dL_areWords_330 : decode cL_areWords 330 = .ok (.goto (-313), 3) := by decide +kernel
theorem dL_areWords_333 : decode cL_areWords 333 = .ok (.aload_n 0, 1) := by decide +kernel
theorem dL_areWords_334 : decode cL_areWords 334 = .ok (.bipush 16, 2) := by decide +kernel
theorem dL_areWords_336 : decode cL_areWords 336 = .ok (.invokevirtual 29, 3) := by decide +kernel
theorem dL_areWords_339 : decode cL_areWords 339 = .ok (.fstore 10, 2) := by decide +kernel
theorem dL_areWords_341 : decode cL_areWords 341 = .ok (.aload_n 0, 1) := by decide +kernel
theorem dL_areWords_342 : decode cL_areWords 342 = .ok (.iconst 5, 1) := by decide +kernel
theorem dL_areWords_343 : decode cL_areWords 343 = .ok (.invokevirtual 46, 3) := by decide +kernel
theorem dL_areWords_346 : decode cL_areWords 346 = .ok (.iload 7, 2) := by decide +kernel
theorem dL_areWords_348 : decode cL_areWords 348 = .ok (.if_icmp .ne 71, 3) := by decide +kernel
theorem dL_areWords_351 : decode cL_areWords 351 = .ok (.aload_n 0, 1) := by decide +kernel
theorem dL_areWords_352 : decode cL_areWords 352 = .ok (.bipush 6, 2) := by decide +kernel
theorem dL_areWords_354 : decode cL_areWords 354 = .ok (.invokevirtual 46, 3) := by decide +kernel
theorem dL_areWords_357 : decode cL_areWords 357 = .ok (.iload 8, 2) := by decide +kernel
theorem dL_areWords_359 : decode cL_areWords 359 = .ok (.if_icmp .ne 60, 3) := by decide +kernel
theorem dL_areWords_362 : decode cL_areWords 362 = .ok (.aload_n 0, 1) := by decide +kernel
theorem dL_areWords_363 : decode cL_areWords 363 = .ok (.bipush 7, 2) := by decide +kernel
theorem dL_areWords_365 : decode cL_areWords 365 = .ok (.invokevirtual 46, 3) := by decide +kernel
theorem dL_areWords_368 : decode cL_areWords 368 = .ok (.iload 9, 2) := by decide +kernel
theorem dL_areWords_370 : decode cL_areWords 370 = .ok (.if_icmp .ne 49, 3) := by decide +kernel
theorem dL_areWords_373 : decode cL_areWords 373 = .ok (.aload_n 0, 1) := by decide +kernel
theorem dL_areWords_374 : decode cL_areWords 374 = .ok (.bipush 16, 2) := by decide +kernel
theorem dL_areWords_376 : decode cL_areWords 376 = .ok (.iconst 0, 1) := by decide +kernel
theorem dL_areWords_377 : decode cL_areWords 377 = .ok (.invokevirtual 39, 3) := by decide +kernel
theorem dL_areWords_380 : decode cL_areWords 380 = .ok (.iconst (-1), 1) := by decide +kernel
theorem dL_areWords_381 : decode cL_areWords 381 = .ok (.if_icmp .ne 38, 3) := by decide +kernel
theorem dL_areWords_384 : decode cL_areWords 384 = .ok (.aload_n 0, 1) := by decide +kernel
theorem dL_areWords_385 : decode cL_areWords 385 = .ok (.iconst 0, 1) := by decide +kernel
theorem dL_areWords_386 : decode cL_areWords 386 = .ok (.bipush 7, 2) := by decide +kernel
theorem dL_areWords_388 : decode cL_areWords 388 = .ok (.invokevirtual 39, 3) := by decide +kernel
theorem dL_areWords_391 : decode cL_areWords 391 = .ok (.bipush (-2), 2) := by decide +kernel
theorem dL_areWords_393 : decode cL_areWords 393 = .ok (.if_icmp .ne 26, 3) := by decide +kernel
theorem dL_areWords_396 : decode cL_areWords 396 = .ok (.fload 10, 2) := by decide +kernel
theorem dL_areWords_398 : decode cL_areWords 398 = .ok (.fload 10, 2) := by decide +kernel
theorem dL_areWords_400 : decode cL_areWords 400 = .ok (.fcmp .l, 1) := by decide +kernel
theorem dL_areWords_401 : decode cL_areWords 401 = .ok (.ifCond .eq 18, 3) := by decide +kernel
theorem dL_areWords_404 : decode cL_areWords 404 = .ok (.aload_n 0, 1) := by decide +kernel
theorem dL_areWords_405 : decode cL_areWords 405 = .ok (.iconst 0, 1) := by decide +kernel
theorem dL_areWords_406 : decode cL_areWords 406 = .ok (.iconst (-1), 1) := by decide +kernel
theorem dL_areWords_407 : decode cL_areWords 407 = .ok (.invokevirtual 43, 3) := by decide +kernel
theorem dL_areWords_410 : decode cL_areWords 410 = .ok (.bipush (-2), 2) := by decide +kernel
theorem dL_areWords_412 : decode cL_areWords 412 = .ok (.if_icmp .ne 7, 3) := by decide +kernel
theorem dL_areWords_415 : decode cL_areWords 415 = .ok (.iconst 1, 1) := by decide +kernel
theorem dL_areWords_416 : decode cL_areWords 416 = .ok (.goto 4, 3) := by decide +kernel
theorem dL_areWords_419 : decode cL_areWords 419 = .ok (.iconst 0, 1) := by decide +kernel
theorem dL_areWords_420 : decode cL_areWords 420 = .ok (.ireturn, 1) := by decide +kernel
theorem dL_areOrders_0 : decode cL_areOrders 0 = .ok (.iconst 1, 1) := by decide +kernel
theorem dL_areOrders_1 : decode cL_areOrders 1 = .ok (.newarray .double, 2) := by decide +kernel
theorem dL_areOrders_3 : decode cL_areOrders 3 = .ok (.astore 6, 2) := by decide +kernel
theorem dL_areOrders_5 : decode cL_areOrders 5 = .ok (.iconst 0, 1) := by decide +kernel
theorem dL_areOrders_6 : decode cL_areOrders 6 = .ok (.istore 7, 2) := by decide +kernel
theorem dL_areOrders_8 : decode cL_areOrders 8 = .ok (.iconst 0, 1) := by decide +kernel
theorem dL_areOrders_9 : decode cL_areOrders 9 = .ok (.istore 8, 2) := by decide +kernel
theorem dL_areOrders_11 : decode cL_areOrders 11 = .ok (.iload 8, 2) := by decide +kernel
theorem dL_areOrders_13 : decode cL_areOrders 13 = .ok (.aload_n 1, 1) := by decide +kernel
theorem dL_areOrders_14 : decode cL_areOrders 14 = .ok (.iconst 1, 1) := by decide +kernel
theorem dL_areOrders_15 : decode cL_areOrders 15 = .ok (.iaload, 1) := by decide +kernel
theorem dL_areOrders_16 : decode cL_areOrders 16 = .ok (.if_icmp .ge 401, 3) := by decide +kernel
theorem dL_areOrders_19 : decode cL_areOrders 19 = .ok (.aload_n 3, 1) := by decide +kernel
theorem dL_areOrders_20 : decode cL_areOrders 20 = .ok (.iconst 4, 1) := by decide +kernel
theorem dL_areOrders_21 : decode cL_areOrders 21 = .ok (.iload 8, 2) := by decide +kernel
theorem dL_areOrders_23 : decode cL_areOrders 23 = .ok (.imul, 1) := by decide +kernel
theorem dL_areOrders_24 : decode cL_areOrders 24 = .ok (.iconst 3, 1) := by decide +kernel
theorem dL_areOrders_25 : decode cL_areOrders 25 = .ok (.iadd, 1) := by decide +kernel
theorem dL_areOrders_26 : decode cL_areOrders 26 = .ok (.iaload, 1) := by decide +kernel
theorem dL_areOrders_27 : decode cL_areOrders 27 = .ok (.iconst 1, 1) := by decide +kernel
theorem dL_areOrders_28 : decode cL_areOrders 28 = .ok (.if_icmp .ne 7, 3) := by decide +kernel
theorem dL_areOrders_31 : decode cL_areOrders 31 = .ok (.iconst 1, 1) := by decide +kernel
theorem dL_areOrders_32 : decode cL_areOrders 32 = .ok (.goto 4, 3) := by decide +kernel
theorem dL_areOrders_35 : decode cL_areOrders 35 = .ok (.iconst 0, 1) := by decide +kernel
theorem dL_areOrders_36 : decode cL_areOrders 36 = .ok (.istore 9, 2) := by decide +kernel
theorem dL_areOrders_38 : decode cL_areOrders 38 = .ok (.iconst 0, 1) := by decide +kernel
theorem dL_areOrders_39 : decode cL_areOrders 39 = .ok (.istore 10, 2) := by decide +kernel
theorem dL_areOrders_41 : decode cL_areOrders 41 = .ok (.iconst 0, 1) := by decide +kernel
theorem dL_areOrders_42 : decode cL_areOrders 42 = .ok (.istore 11, 2) := by decide +kernel
theorem dL_areOrders_44 : decode cL_areOrders 44 = .ok (.iload 11, 2) := by decide +kernel
theorem dL_areOrders_46 : decode cL_areOrders 46 = .ok (.iload 8, 2) := by decide +kernel
theorem dL_areOrders_48 : decode cL_areOrders 48 = .ok (.if_icmp .ge 50, 3) := by decide +kernel
theorem dL_areOrders_51 : decode cL_areOrders 51 = .ok (.iload 10, 2) := by decide +kernel
theorem dL_areOrders_53 : decode cL_areOrders 53 = .ok (.aload_n 3, 1) := by decide +kernel
theorem dL_areOrders_54 : decode cL_areOrders 54 = .ok (.iconst 4, 1) := by decide +kernel
theorem dL_areOrders_55 : decode cL_areOrders 55 = .ok (.iload 11, 2) := by decide +kernel
theorem dL_areOrders_57 : decode cL_areOrders 57 = .ok (.imul, 1) := by decide +kernel
theorem dL_areOrders_58 : decode cL_areOrders 58 = .ok (.iconst 3, 1) := by decide +kernel
theorem dL_areOrders_59 : decode cL_areOrders 59 = .ok (.iadd, 1) := by decide +kernel
theorem dL_areOrders_60 : decode cL_areOrders 60 = .ok (.iaload, 1) := by decide +kernel
theorem dL_areOrders_61 : decode cL_areOrders 61 = .ok (.iconst 1, 1) := by decide +kernel
theorem dL_areOrders_62 : decode cL_areOrders 62 = .ok (.if_icmp .ne 26, 3) := by decide +kernel
theorem dL_areOrders_65 : decode cL_areOrders 65 = .ok (.aload_n 3, 1) := by decide +kernel
theorem dL_areOrders_66 : decode cL_areOrders 66 = .ok (.iconst 4, 1) := by decide +kernel
theorem dL_areOrders_67 : decode cL_areOrders 67 = .ok (.iload 11, 2) := by decide +kernel
theorem dL_areOrders_69 : decode cL_areOrders 69 = .ok (.imul, 1) := by decide +kernel
theorem dL_areOrders_70 : decode cL_areOrders 70 = .ok (.iconst 1, 1) := by decide +kernel
theorem dL_areOrders_71 : decode cL_areOrders 71 = .ok (.iadd, 1) := by decide +kernel
theorem dL_areOrders_72 : decode cL_areOrders 72 = .ok (.iaload, 1) := by decide +kernel
theorem dL_areOrders_73 : decode cL_areOrders 73 = .ok (.aload_n 3, 1) := by decide +kernel
theorem dL_areOrders_74 : decode cL_areOrders 74 = .ok (.iconst 4, 1) := by decide +kernel
theorem dL_areOrders_75 : decode cL_areOrders 75 = .ok (.iload 8, 2) := by decide +kernel
theorem dL_areOrders_77 : decode cL_areOrders 77 = .ok (.imul, 1) := by decide +kernel
theorem dL_areOrders_78 : decode cL_areOrders 78 = .ok (.iconst 1, 1) := by decide +kernel
theorem dL_areOrders_79 : decode cL_areOrders 79 = .ok (.iadd, 1) := by decide +kernel
theorem dL_areOrders_80 : decode cL_areOrders 80 = .ok (.iaload, 1) := by decide +kernel
theorem dL_areOrders_81 : decode cL_areOrders 81 = .ok (.if_icmp .ne 7, 3) := by decide +kernel
theorem dL_areOrders_84 : decode cL_areOrders 84 = .ok (.iconst 1, 1) := by decide +kernel
theorem dL_areOrders_85 : decode cL_areOrders 85 = .ok (.goto 4, 3) := by decide +kernel
theorem dL_areOrders_88 : decode cL_areOrders 88 = .ok (.iconst 0, 1) := by decide +kernel
theorem dL_areOrders_89 : decode cL_areOrders 89 = .ok (.iadd, 1) := by decide +kernel
theorem dL_areOrders_90 : decode cL_areOrders 90 = .ok (.istore 10, 2) := by decide +kernel
theorem dL_areOrders_92 : decode cL_areOrders 92 = .ok (.iinc 11 1, 3) := by decide +kernel
theorem dL_areOrders_95 : decode cL_areOrders 95 = .ok (.goto (-51), 3) := by decide +kernel
theorem dL_areOrders_98 : decode cL_areOrders 98 = .ok (.aload_n 0, 1) := by decide +kernel
theorem dL_areOrders_99 : decode cL_areOrders 99 = .ok (.iload 8, 2) := by decide +kernel
theorem dL_areOrders_101 : decode cL_areOrders 101 = .ok (.iconst 0, 1) := by decide +kernel
theorem dL_areOrders_102 : decode cL_areOrders 102 = .ok (.invokevirtual 50, 3) := by decide +kernel
theorem dL_areOrders_105 : decode cL_areOrders 105 = .ok (.aload_n 3, 1) := by decide +kernel
theorem dL_areOrders_106 : decode cL_areOrders 106 = .ok (.iconst 4, 1) := by decide +kernel
theorem dL_areOrders_107 : decode cL_areOrders 107 = .ok (.iload 8, 2) := by decide +kernel
theorem dL_areOrders_109 : decode cL_areOrders 109 = .ok (.imul, 1) := by decide +kernel
theorem dL_areOrders_110 : decode cL_areOrders 110 = .ok (.iaload, 1) := by decide +kernel
theorem dL_areOrders_111 : decode cL_areOrders 111 = .ok (.if_icmp .ne 110, 3) := by decide +kernel
theorem dL_areOrders_114 : decode cL_areOrders 114 = .ok (.aload_n 0, 1) := by decide +kernel
theorem dL_areOrders_115 : decode cL_areOrders 115 = .ok (.iload 8, 2) := by decide +kernel
theorem dL_areOrders_117 : decode cL_areOrders 117 = .ok (.iconst 1, 1) := by decide +kernel
theorem dL_areOrders_118 : decode cL_areOrders 118 = .ok (.invokevirtual 50, 3) := by decide +kernel
theorem dL_areOrders_121 : decode cL_areOrders 121 = .ok (.aload_n 3, 1) := by decide +kernel
theorem dL_areOrders_122 : decode cL_areOrders 122 = .ok (.iconst 4, 1) := by decide +kernel
theorem dL_areOrders_123 : decode cL_areOrders 123 = .ok (.iload 8, 2) := by decide +kernel
theorem dL_areOrders_125 : decode cL_areOrders 125 = .ok (.imul, 1) := by decide +kernel
theorem dL_areOrders_126 : decode cL_areOrders 126 = .ok (.iconst 1, 1) := by decide +kernel
theorem dL_areOrders_127 : decode cL_areOrders 127 = .ok (.iadd, 1) := by decide +kernel
theorem dL_areOrders_128 : decode cL_areOrders 128 = .ok (.iaload, 1) := by decide +kernel
theorem dL_areOrders_129 : decode cL_areOrders 129 = .ok (.if_icmp .ne 92, 3) := by decide +kernel
theorem dL_areOrders_132 : decode cL_areOrders 132 = .ok (.aload_n 0, 1) := by decide +kernel
theorem dL_areOrders_133 : decode cL_areOrders 133 = .ok (.iload 8, 2) := by decide +kernel
theorem dL_areOrders_135 : decode cL_areOrders 135 = .ok (.iconst 2, 1) := by decide +kernel
theorem dL_areOrders_136 : decode cL_areOrders 136 = .ok (.invokevirtual 50, 3) := by decide +kernel
theorem dL_areOrders_139 : decode cL_areOrders 139 = .ok (.aload_n 3, 1) := by decide +kernel
theorem dL_areOrders_140 : decode cL_areOrders 140 = .ok (.iconst 4, 1) := by decide +kernel
theorem dL_areOrders_141 : decode cL_areOrders 141 = .ok (.iload 8, 2) := by decide +kernel
theorem dL_areOrders_143 : decode cL_areOrders 143 = .ok (.imul, 1) := by decide +kernel
theorem dL_areOrders_144 : decode cL_areOrders 144 = .ok (.iconst 2, 1) := by decide +kernel
theorem dL_areOrders_145 : decode cL_areOrders 145 = .ok (.iadd, 1) := by decide +kernel
theorem dL_areOrders_146 : decode cL_areOrders 146 = .ok (.iaload, 1) := by decide +kernel
theorem dL_areOrders_147 : decode cL_areOrders 147 = .ok (.if_icmp .ne 74, 3) := by decide +kernel
theorem dL_areOrders_150 : decode cL_areOrders 150 = .ok (.aload_n 0, 1) := by decide +kernel
theorem dL_areOrders_151 : decode cL_areOrders 151 = .ok (.iload 8, 2) := by decide +kernel
theorem dL_areOrders_153 : decode cL_areOrders 153 = .ok (.iconst 3, 1) := by decide +kernel
theorem dL_areOrders_154 : decode cL_areOrders 154 = .ok (.invokevirtual 50, 3) := by decide +kernel
theorem dL_areOrders_157 : decode cL_areOrders 157 = .ok (.aload_n 3, 1) := by decide +kernel
theorem dL_areOrders_158 : decode cL_areOrders 158 = .ok (.iconst 4, 1) := by decide +kernel
theorem dL_areOrders_159 : decode cL_areOrders 159 = .ok (.iload 8, 2) := by decide +kernel
theorem dL_areOrders_161 : decode cL_areOrders 161 = .ok (.imul, 1) := by decide +kernel
theorem dL_areOrders_162 : decode cL_areOrders 162 = .ok (.iconst 3, 1) := by decide +kernel
theorem dL_areOrders_163 : decode cL_areOrders 163 = .ok (.iadd, 1) := by decide +kernel
theorem dL_areOrders_164 : decode cL_areOrders 164 = .ok (.iaload, 1) := by decide +kernel
theorem dL_areOrders_165 : decode cL_areOrders 165 = .ok (.if_icmp .ne 56, 3) := by decide +kernel
theorem dL_areOrders_168 : decode cL_areOrders 168 = .ok (.aload_n 0, 1) := by decide +kernel
theorem dL_areOrders_169 : decode cL_areOrders 169 = .ok (.iload 8, 2) := by decide +kernel
theorem dL_areOrders_171 : decode cL_areOrders 171 = .ok (.iconst 4, 1) := by decide +kernel
theorem dL_areOrders_172 : decode cL_areOrders 172 = .ok (.invokevirtual 50, 3) := by decide +kernel
theorem dL_areOrders_175 : decode cL_areOrders 175 = .ok (.iload 9, 2) := by decide +kernel
theorem dL_areOrders_177 : decode cL_areOrders 177 = .ok (.ifCond .eq 13, 3) := by decide +kernel
theorem dL_areOrders_180 : decode cL_areOrders 180 = .ok (.aload_n 1, 1) := by decide +kernel
theorem dL_areOrders_181 : decode cL_areOrders 181 = .ok (.aload_n 3, 1) := by decide +kernel
theorem dL_areOrders_182 : decode cL_areOrders 182 = .ok (.iload 8, 2) := by decide +kernel
theorem dL_areOrders_184 : decode cL_areOrders 184 = .ok (.invokestatic 53, 3) := by decide +kernel
theorem dL_areOrders_187 : decode cL_areOrders 187 = .ok (.goto 5, 3) := by decide +kernel
theorem dL_areOrders_190 : decode cL_areOrders 190 = .ok (.bipush (-5), 2) := by decide +kernel
theorem dL_areOrders_192 : decode cL_areOrders 192 = .ok (.if_icmp .ne 29, 3) := by decide +kernel
theorem dL_areOrders_195 : decode cL_areOrders 195 = .ok (.aload_n 0, 1) := by decide +kernel
theorem dL_areOrders_196 : decode cL_areOrders 196 = .ok (.iload 8, 2) := by decide +kernel
theorem dL_areOrders_198 : decode cL_areOrders 198 = .ok (.iconst 5, 1) := by decide +kernel
theorem dL_areOrders_199 : decode cL_areOrders 199 = .ok (.invokevirtual 50, 3) := by decide +kernel
theorem dL_areOrders_202 : decode cL_areOrders 202 = .ok (.iload 9, 2) := by decide +kernel
theorem dL_areOrders_204 : decode cL_areOrders 204 = .ok (.ifCond .eq 8, 3) := by decide +kernel
theorem dL_areOrders_207 : decode cL_areOrders 207 = .ok (.iload 10, 2) := by decide +kernel
theorem dL_areOrders_209 : decode cL_areOrders 209 = .ok (.goto 5, 3) := by decide +kernel
theorem dL_areOrders_212 : decode cL_areOrders 212 = .ok (.bipush (-5), 2) := by decide +kernel
theorem dL_areOrders_214 : decode cL_areOrders 214 = .ok (.if_icmp .ne 7, 3) := by decide +kernel
theorem dL_areOrders_217 : decode cL_areOrders 217 = .ok (.iconst 1, 1) := by decide +kernel
theorem dL_areOrders_218 : decode cL_areOrders 218 = .ok (.goto 4, 3) := by decide +kernel
theorem dL_areOrders_221 : decode cL_areOrders 221 = .ok (.iconst 0, 1) := by decide +kernel
theorem dL_areOrders_222 : decode cL_areOrders 222 = .ok (.istore 11, 2) := by decide +kernel
theorem dL_areOrders_224 : decode cL_areOrders 224 = .ok (.iload 11, 2) := by decide +kernel
theorem dL_areOrders_226 : decode cL_areOrders 226 = .ok (.ifCond .eq 59, 3) := by decide +kernel
theorem dL_areOrders_229 : decode cL_areOrders 229 = .ok (.aload_n 0, 1) := by decide +kernel
theorem dL_areOrders_230 : decode cL_areOrders 230 = .ok (.iload 8, 2) := by decide +kernel
theorem dL_areOrders_232 : decode cL_areOrders 232 = .ok (.bipush 6, 2) := by decide +kernel
theorem dL_areOrders_234 : decode cL_areOrders 234 = .ok (.invokevirtual 50, 3) := by decide +kernel
theorem dL_areOrders_237 : decode cL_areOrders 237 = .ok (.aload 5, 2) := by decide +kernel
theorem dL_areOrders_239 : decode cL_areOrders 239 = .ok (.iload 8, 2) := by decide +kernel
theorem dL_areOrders_241 : decode cL_areOrders 241 = .ok (.daload, 1) := by decide +kernel
theorem dL_areOrders_242 : decode cL_areOrders 242 = .ok (.d2f, 1) := by decide +kernel
theorem dL_areOrders_243 : decode cL_areOrders 243 = .ok (.ldc 57, 2) := by decide +kernel
theorem dL_areOrders_245 : decode cL_areOrders 245 = .ok (.fmul, 1) := by decide +kernel
theorem dL_areOrders_246 : decode cL_areOrders 246 = .ok (.f2i, 1) := by decide +kernel
theorem dL_areOrders_247 : decode cL_areOrders 247 = .ok (.if_icmp .ne 38, 3) := by decide +kernel
theorem dL_areOrders_250 : decode cL_areOrders 250 = .ok (.aload_n 0, 1) := by decide +kernel
theorem dL_areOrders_251 : decode cL_areOrders 251 = .ok (.iload 8, 2) := by decide +kernel
theorem dL_areOrders_253 : decode cL_areOrders 253 = .ok (.bipush 7, 2) := by decide +kernel
theorem dL_areOrders_255 : decode cL_areOrders 255 = .ok (.invokevirtual 50, 3) := by decide +kernel
theorem dL_areOrders_258 : decode cL_areOrders 258 = .ok (.aload_n 1, 1) := by decide +kernel
theorem dL_areOrders_259 : decode cL_areOrders 259 = .ok (.aload_n 2, 1) := by decide +kernel
theorem dL_areOrders_260 : decode cL_areOrders 260 = .ok (.aload_n 3, 1) := by decide +kernel
theorem dL_areOrders_261 : decode cL_areOrders 261 = .ok (.aload_n 3, 1) := by decide +kernel
theorem dL_areOrders_262 : decode cL_areOrders 262 = .ok (.iconst 4, 1) := by decide +kernel
theorem dL_areOrders_263 : decode cL_areOrders 263 = .ok (.iload 8, 2) := by decide +kernel
theorem dL_areOrders_265 : decode cL_areOrders 265 = .ok (.imul, 1) := by decide +kernel
theorem dL_areOrders_266 : decode cL_areOrders 266 = .ok (.iconst 1, 1) := by decide +kernel
theorem dL_areOrders_267 : decode cL_areOrders 267 = .ok (.iadd, 1) := by decide +kernel
theorem dL_areOrders_268 : decode cL_areOrders 268 = .ok (.iaload, 1) := by decide +kernel
theorem dL_areOrders_269 : decode cL_areOrders 269 = .ok (.invokestatic 12, 3) := by decide +kernel
theorem dL_areOrders_272 : decode cL_areOrders 272 = .ok (.iload 8, 2) := by decide +kernel
theorem dL_areOrders_274 : decode cL_areOrders 274 = .ok (.if_icmp .ne 7, 3) := by decide +kernel
theorem dL_areOrders_277 : decode cL_areOrders 277 = .ok (.iconst 1, 1) := by decide +kernel
theorem dL_areOrders_278 : decode cL_areOrders 278 = .ok (.goto 4, 3) := by decide +kernel
theorem dL_areOrders_281 : decode cL_areOrders 281 = .ok (.iconst 0, 1) := by decide +kernel
theorem dL_areOrders_282 : decode cL_areOrders 282 = .ok (.if_icmp .eq 5, 3) := by decide +kernel
theorem dL_areOrders_285 : decode cL_areOrders 285 = .ok (.iconst 0, 1) := by decide +kernel
theorem dL_areOrders_286 : decode cL_areOrders 286 = .ok (.ireturn, 1) := by decide +kernel
theorem dL_areOrders_287 : decode cL_areOrders 287 = .ok (.aload_n 0, 1) := by decide +kernel
theorem dL_areOrders_288 : decode cL_areOrders 288 = .ok (.iload 8, 2) := by decide +kernel
theorem dL_areOrders_290 : decode cL_areOrders 290 = .ok (.iconst 0, 1) := by decide +kernel
theorem dL_areOrders_291 : decode cL_areOrders 291 = .ok (.invokevirtual 58, 3) := by decide +kernel
theorem dL_areOrders_294 : decode cL_areOrders 294 = .ok (.f2d, 1) := by decide +kernel
theorem dL_areOrders_295 : decode cL_areOrders 295 = .ok (.aload 4, 2) := by decide +kernel
theorem dL_areOrders_297 : decode cL_areOrders 297 = .ok (.iconst 2, 1) := by decide +kernel
theorem dL_areOrders_298 : decode cL_areOrders 298 = .ok (.iload 8, 2) := by decide +kernel
theorem dL_areOrders_300 : decode cL_areOrders 300 = .ok (.imul, 1) := by decide +kernel
theorem dL_areOrders_301 : decode cL_areOrders 301 = .ok (.iconst 1, 1) := by decide +kernel
theorem dL_areOrders_302 : decode cL_areOrders 302 = .ok (.iadd, 1) := by decide +kernel
theorem dL_areOrders_303 : decode cL_areOrders 303 = .ok (.daload, 1) := by decide +kernel
theorem dL_areOrders_304 : decode cL_areOrders 304 = .ok (.dcmp .l, 1) := by decide +kernel
theorem dL_areOrders_305 : decode cL_areOrders 305 = .ok (.ifCond .ne 39, 3) := by decide +kernel
theorem dL_areOrders_308 : decode cL_areOrders 308 = .ok (.aload_n 0, 1) := by decide +kernel
theorem dL_areOrders_309 : decode cL_areOrders 309 = .ok (.iload 8, 2) := by decide +kernel
theorem dL_areOrders_311 : decode cL_areOrders 311 = .ok (.iconst 1, 1) := by decide +kernel
theorem dL_areOrders_312 : decode cL_areOrders 312 = .ok (.invokevirtual 58, 3) := by decide +kernel
theorem dL_areOrders_315 : decode cL_areOrders 315 = .ok (.f2d, 1) := by decide +kernel
theorem dL_areOrders_316 : decode cL_areOrders 316 = .ok (.aload 4, 2) := by decide +kernel
theorem dL_areOrders_318 : decode cL_areOrders 318 = .ok (.iconst 2, 1) := by decide +kernel
theorem dL_areOrders_319 : decode cL_areOrders 319 = .ok (.iload 8, 2) := by decide +kernel
theorem dL_areOrders_321 : decode cL_areOrders 321 = .ok (.imul, 1) := by decide +kernel
theorem dL_areOrders_322 : decode cL_areOrders 322 = .ok (.daload, 1) := by decide +kernel
theorem dL_areOrders_323 : decode cL_areOrders 323 = .ok (.dcmp .l, 1) := by decide +kernel
theorem dL_areOrders_324 : decode cL_areOrders 324 = .ok (.ifCond .ne 20, 3) := by decide +kernel
theorem dL_areOrders_327 : decode cL_areOrders 327 = .ok (.aload_n 0, 1) := by decide +kernel
theorem dL_areOrders_328 : decode cL_areOrders 328 = .ok (.iload 8, 2) := by decide +kernel
theorem dL_areOrders_330 : decode cL_areOrders 330 = .ok (.iconst 2, 1) := by decide +kernel
theorem dL_areOrders_331 : decode cL_areOrders 331 = .ok (.invokevirtual 58, 3) := by decide +kernel
theorem dL_areOrders_334 : decode cL_areOrders 334 = .ok (.f2d, 1) := by decide +kernel
theorem dL_areOrders_335 : decode cL_areOrders 335 = .ok (.aload 5, 2) := by decide +kernel
theorem dL_areOrders_337 : decode cL_areOrders 337 = .ok (.iload 8, 2) := by decide +kernel
theorem dL_areOrders_339 : decode cL_areOrders 339 = .ok (.daload, 1) := by decide +kernel
theorem dL_areOrders_340 : decode cL_areOrders 340 = .ok (.dcmp .l, 1) := by decide +kernel
theorem dL_areOrders_341 : decode cL_areOrders 341 = .ok (.ifCond .eq 5, 3) := by decide +kernel
theorem dL_areOrders_344 : decode cL_areOrders 344 = .ok (.iconst 0, 1) := by decide +kernel
theorem dL_areOrders_345 : decode cL_areOrders 345 = .ok (.ireturn, 1) := by decide +kernel
theorem dL_areOrders_346 : decode cL_areOrders 346 = .ok (.iload 7, 2) := by decide +kernel
theorem dL_areOrders_348 : decode cL_areOrders 348 = .ok (.aload_n 3, 1) := by decide +kernel
theorem dL_areOrders_349 : decode cL_areOrders 349 = .ok (.iconst 4, 1) := by decide +kernel
theorem dL_areOrders_350 : decode cL_areOrders 350 = .ok (.iload 8, 2) := by decide +kernel
theorem dL_areOrders_352 : decode cL_areOrders 352 = .ok (.imul, 1) := by decide +kernel
theorem dL_areOrders_353 : decode cL_areOrders 353 = .ok (.iconst 3, 1) := by decide +kernel
theorem dL_areOrders_354 : decode cL_areOrders 354 = .ok (.iadd, 1) := by decide +kernel
theorem dL_areOrders_355 : decode cL_areOrders 355 = .ok (.iaload, 1) := by decide +kernel
theorem dL_areOrders_356 : decode cL_areOrders 356 = .ok (.iadd, 1) := by decide +kernel
theorem dL_areOrders_357 : decode cL_areOrders 357 = .ok (.istore 7, 2) := by decide +kernel
theorem dL_areOrders_359 : decode cL_areOrders 359 = .ok (.iload 9, 2) := by decide +kernel
theorem dL_areOrders_361 : decode cL_areOrders 361 = .ok (.ifCond .eq 50, 3) := by decide +kernel
theorem dL_areOrders_364 : decode cL_areOrders 364 = .ok (.aload_n 0, 1) := by decide +kernel
theorem dL_areOrders_365 : decode cL_areOrders 365 = .ok (.iload 8, 2) := by decide +kernel
theorem dL_areOrders_367 : decode cL_areOrders 367 = .ok (.invokevirtual 62, 3) := by decide +kernel
theorem dL_areOrders_370 : decode cL_areOrders 370 = .ok (.fstore 12, 2) := by decide +kernel
theorem dL_areOrders_372 : decode cL_areOrders 372 = .ok (.aload_n 1, 1) := by decide +kernel
theorem dL_areOrders_373 : decode cL_areOrders 373 = .ok (.aload_n 2, 1) := by decide +kernel
theorem dL_areOrders_374 : decode cL_areOrders 374 = .ok (.aload_n 3, 1) := by decide +kernel
theorem dL_areOrders_375 : decode cL_areOrders 375 = .ok (.aload 4, 2) := by decide +kernel
theorem dL_areOrders_377 : decode cL_areOrders 377 = .ok (.iload 8, 2) := by decide +kernel
theorem dL_areOrders_379 : decode cL_areOrders 379 = .ok (.aload 6, 2) := by decide +kernel
theorem dL_areOrders_381 : decode cL_areOrders 381 = .ok (.invokestatic 22, 3) := by decide +kernel
theorem dL_areOrders_384 : decode cL_areOrders 384 = .ok (.ifCond .eq 17, 3) := by decide +kernel
theorem dL_areOrders_387 : decode cL_areOrders 387 = .ok (.fload 12, 2) := by decide +kernel
theorem dL_areOrders_389 : decode cL_areOrders 389 = .ok (.f2d, 1) := by decide +kernel
theorem dL_areOrders_390 : decode cL_areOrders 390 = .ok (.aload 6, 2) := by decide +kernel
theorem dL_areOrders_392 : decode cL_areOrders 392 = .ok (.iconst 0, 1) := by decide +kernel
theorem dL_areOrders_393 : decode cL_areOrders 393 = .ok (.daload, 1) := by decide +kernel
theorem dL_areOrders_394 : decode cL_areOrders 394 = .ok (.dcmp .l, 1) := by decide +kernel
theorem dL_areOrders_395 : decode cL_areOrders 395 = .ok (.ifCond .eq 16, 3) := by decide +kernel
theorem dL_areOrders_398 : decode cL_areOrders 398 = .ok (.goto 11, 3) := by decide +kernel
theorem dL_areOrders_401 : decode cL_areOrders 401 = .ok (.fload 12, 2) := by decide +kernel
theorem dL_areOrders_403 : decode cL_areOrders 403 = .ok (.fload 12, 2) := by decide +kernel
theorem dL_areOrders_405 : decode cL_areOrders 405 = .ok (.fcmp .l, 1) := by decide +kernel
theorem dL_areOrders_406 : decode cL_areOrders 406 = .ok (.ifCond .ne 5, 3) := by decide +kernel
theorem dL_areOrders_409 : decode cL_areOrders 409 = .ok (.iconst 0, 1) := by decide +kernel
theorem dL_areOrders_410 : decode cL_areOrders 410 = .ok (.ireturn, 1) := by decide +kernel
theorem dL_areOrders_411 : decode cL_areOrders 411 = .ok (.iinc 8 1, 3) := by decide +kernel
theorem dL_areOrders_414 : decode cL_areOrders 414 = .ok (.goto (-403), 3) := by decide +kernel
theorem dL_areOrders_417 : decode cL_areOrders 417 = .ok (.aload_n 0, 1) := by decide +kernel
theorem dL_areOrders_418 : decode cL_areOrders 418 = .ok (.iconst 0, 1) := by decide +kernel
theorem dL_areOrders_419 : decode cL_areOrders 419 = .ok (.invokevirtual 46, 3) := by decide +kernel
theorem dL_areOrders_422 : decode cL_areOrders 422 = .ok (.aload_n 1, 1) := by decide +kernel
theorem dL_areOrders_423 : decode cL_areOrders 423 = .ok (.iconst 0, 1) := by decide +kernel
theorem dL_areOrders_424 : decode cL_areOrders 424 = .ok (.iaload, 1) := by decide +kernel
theorem dL_areOrders_425 : decode cL_areOrders 425 = .ok (.if_icmp .ne 73, 3) := by decide +kernel
theorem dL_areOrders_428 : decode cL_areOrders 428 = .ok (.aload_n 0, 1) := by decide +kernel
theorem dL_areOrders_429 : decode cL_areOrders 429 = .ok (.iconst 1, 1) := by decide +kernel
theorem dL_areOrders_430 : decode cL_areOrders 430 = .ok (.invokevirtual 46, 3) := by decide +kernel
theorem dL_areOrders_433 : decode cL_areOrders 433 = .ok (.aload_n 1, 1) := by decide +kernel
theorem dL_areOrders_434 : decode cL_areOrders 434 = .ok (.iconst 1, 1) := by decide +kernel
theorem dL_areOrders_435 : decode cL_areOrders 435 = .ok (.iaload, 1) := by decide +kernel
theorem dL_areOrders_436 : decode cL_areOrders 436 = .ok (.if_icmp .ne 62, 3) := by decide +kernel
theorem dL_areOrders_439 : decode cL_areOrders 439 = .ok (.aload_n 0, 1) := by decide +kernel
theorem dL_areOrders_440 : decode cL_areOrders 440 = .ok (.iconst 2, 1) := by decide +kernel
theorem dL_areOrders_441 : decode cL_areOrders 441 = .ok (.invokevirtual 46, 3) := by decide +kernel
theorem dL_areOrders_444 : decode cL_areOrders 444 = .ok (.iload 7, 2) := by decide +kernel
theorem dL_areOrders_446 : decode cL_areOrders 446 = .ok (.if_icmp .ne 52, 3) := by decide +kernel
theorem dL_areOrders_449 : decode cL_areOrders 449 = .ok (.aload_n 0, 1) := by decide +kernel
theorem dL_areOrders_450 : decode cL_areOrders 450 = .ok (.iconst 3, 1) := by decide +kernel
theorem dL_areOrders_451 : decode cL_areOrders 451 = .ok (.invokevirtual 46, 3) := by decide +kernel
theorem dL_areOrders_454 : decode cL_areOrders 454 = .ok (.aload_n 1, 1) := by decide +kernel
theorem dL_areOrders_455 : decode cL_areOrders 455 = .ok (.iconst 2, 1) := by decide +kernel
theorem dL_areOrders_456 : decode cL_areOrders 456 = .ok (.iaload, 1) := by decide +kernel
theorem dL_areOrders_457 : decode cL_areOrders 457 = .ok (.if_icmp .ne 41, 3) := by decide +kernel
theorem dL_areOrders_460 : decode cL_areOrders 460 = .ok (.aload_n 0, 1) := by decide +kernel
theorem dL_areOrders_461 : decode cL_areOrders 461 = .ok (.iconst 4, 1) := by decide +kernel
theorem dL_areOrders_462 : decode cL_areOrders 462 = .ok (.invokevirtual 46, 3) := by decide +kernel
theorem dL_areOrders_465 : decode cL_areOrders 465 = .ok (.aload_n 1, 1) := by decide +kernel
theorem dL_areOrders_466 : decode cL_areOrders 466 = .ok (.iconst 3, 1) := by decide +kernel
theorem dL_areOrders_467 : decode cL_areOrders 467 = .ok (.iaload, 1) := by decide +kernel
theorem dL_areOrders_468 : decode cL_areOrders 468 = .ok (.if_icmp .ne 30, 3) := by decide +kernel
theorem dL_areOrders_471 : decode cL_areOrders 471 = .ok (.aload_n 0, 1) := by decide +kernel
theorem dL_areOrders_472 : decode cL_areOrders 472 = .ok (.bipush 9, 2) := by decide +kernel
theorem dL_areOrders_474 : decode cL_areOrders 474 = .ok (.invokevirtual 46, 3) := by decide +kernel
theorem dL_areOrders_477 : decode cL_areOrders 477 = .ok (.aload_n 1, 1) := by decide +kernel
theorem dL_areOrders_478 : decode cL_areOrders 478 = .ok (.iconst 4, 1) := by decide +kernel
theorem dL_areOrders_479 : decode cL_areOrders 479 = .ok (.iaload, 1) := by decide +kernel
theorem dL_areOrders_480 : decode cL_areOrders 480 = .ok (.if_icmp .ne 18, 3) := by decide +kernel
theorem dL_areOrders_483 : decode cL_areOrders 483 = .ok (.aload_n 0, 1) := by decide +kernel
theorem dL_areOrders_484 : decode cL_areOrders 484 = .ok (.bipush 13, 2) := by decide +kernel
theorem dL_areOrders_486 : decode cL_areOrders 486 = .ok (.invokevirtual 46, 3) := by decide +kernel
theorem dL_areOrders_489 : decode cL_areOrders 489 = .ok (.bipush (-2), 2) := by decide +kernel
theorem dL_areOrders_491 : decode cL_areOrders 491 = .ok (.if_icmp .ne 7, 3) := by decide +kernel
theorem dL_areOrders_494 : decode cL_areOrders 494 = .ok (.iconst 1, 1) := by decide +kernel
theorem dL_areOrders_495 : decode cL_areOrders 495 = .ok (.goto 4, 3) := by decide +kernel
theorem dL_areOrders_498 : decode cL_areOrders 498 = .ok (.iconst 0, 1) := by decide +kernel
theorem dL_areOrders_499 : decode cL_areOrders 499 = .ok (.istore 8, 2) := by decide +kernel
theorem dL_areOrders_501 : decode cL_areOrders 501 = .ok (.iload 8, 2) := by decide +kernel
theorem dL_areOrders_503 : decode cL_areOrders 503 = .ok (.ifCond .eq 41, 3) := by decide +kernel
theorem dL_areOrders_506 : decode cL_areOrders 506 = .ok (.aload_n 0, 1) := by decide +kernel
theorem dL_areOrders_507 : decode cL_areOrders 507 = .ok (.aload_n 1, 1) := by decide +kernel
theorem dL_areOrders_508 : decode cL_areOrders 508 = .ok (.iconst 1, 1) := by decide +kernel
theorem dL_areOrders_509 : decode cL_areOrders 509 = .ok (.iaload, 1) := by decide +kernel
theorem dL_areOrders_510 : decode cL_areOrders 510 = .ok (.iconst 0, 1) := by decide +kernel
theorem dL_areOrders_511 : decode cL_areOrders 511 = .ok (.invokevirtual 50, 3) := by decide +kernel
theorem dL_areOrders_514 : decode cL_areOrders 514 = .ok (.iconst (-1), 1) := by decide +kernel
theorem dL_areOrders_515 : decode cL_areOrders 515 = .ok (.if_icmp .ne 29, 3) := by decide +kernel
theorem dL_areOrders_518 : decode cL_areOrders 518 = .ok (.aload_n 0, 1) := by decide +kernel
theorem dL_areOrders_519 : decode cL_areOrders 519 = .ok (.iconst 0, 1) := by decide +kernel
theorem dL_areOrders_520 : decode cL_areOrders 520 = .ok (.bipush 8, 2) := by decide +kernel
theorem dL_areOrders_522 : decode cL_areOrders 522 = .ok (.invokevirtual 50, 3) := by decide +kernel
theorem dL_areOrders_525 : decode cL_areOrders 525 = .ok (.aload_n 1, 1) := by decide +kernel
theorem dL_areOrders_526 : decode cL_areOrders 526 = .ok (.iconst 1, 1) := by decide +kernel
theorem dL_areOrders_527 : decode cL_areOrders 527 = .ok (.iaload, 1) := by decide +kernel
theorem dL_areOrders_528 : decode cL_areOrders 528 = .ok (.ifCond .le 8, 3) := by decide +kernel
theorem dL_areOrders_531 : decode cL_areOrders 531 = .ok (.bipush (-2), 2) := by decide +kernel
theorem dL_areOrders_533 : decode cL_areOrders 533 = .ok (.goto 4, 3) := by decide +kernel
theorem dL_areOrders_536 : decode cL_areOrders 536 = .ok (.iconst (-1), 1) := by decide +kernel
theorem dL_areOrders_537 : decode cL_areOrders 537 = .ok (.if_icmp .ne 7, 3) := by decide +kernel
theorem dL_areOrders_540 : decode cL_areOrders 540 = .ok (.iconst 1, 1) := by decide +kernel
theorem dL_areOrders_541 : decode cL_areOrders 541 = .ok (.goto 4, 3) := by decide +kernel
theorem dL_areOrders_544 : decode cL_areOrders 544 = .ok (.iconst 0, 1) := by decide +kernel
theorem dL_areOrders_545 : decode cL_areOrders 545 = .ok (.ireturn, 1) := by decide +kernel
theorem dL_arePersons_0 : decode cL_arePersons 0 = .ok (.iconst 0, 1) := by decide +kernel
theorem dL_arePersons_1 : decode cL_arePersons 1 = .ok (.istore 4, 2) := by decide +kernel
theorem dL_arePersons_3 : decode cL_arePersons 3 = .ok (.iload 4, 2) := by decide +kernel
theorem dL_arePersons_5 : decode cL_arePersons 5 = .ok (.aload_n 1, 1) := by decide +kernel
theorem dL_arePersons_6 : decode cL_arePersons 6 = .ok (.iconst 0, 1) := by decide +kernel
theorem dL_arePersons_7 : decode cL_arePersons 7 = .ok (.iaload, 1) := by decide +kernel
theorem dL_arePersons_8 : decode cL_arePersons 8 = .ok (.if_icmp .ge 227, 3) := by decide +kernel
theorem dL_arePersons_11 : decode cL_arePersons 11 = .ok (.iconst 0, 1) := by decide +kernel
theorem dL_arePersons_12 : decode cL_arePersons 12 = .ok (.istore 5, 2) := by decide +kernel
theorem dL_arePersons_14 : decode cL_arePersons 14 = .ok (.iconst 0, 1) := by decide +kernel
theorem dL_arePersons_15 : decode cL_arePersons 15 = .ok (.istore 6, 2) := by decide +kernel
theorem dL_arePersons_17 : decode cL_arePersons 17 = .ok (.iconst 0, 1) := by decide +kernel
theorem dL_arePersons_18 : decode cL_arePersons 18 = .ok (.istore 7, 2) := by decide +kernel
theorem dL_arePersons_20 : decode cL_arePersons 20 = .ok (.iconst 0, 1) := by decide +kernel
theorem dL_arePersons_21 : decode cL_arePersons 21 = .ok (.istore 8, 2) := by decide +kernel
theorem dL_arePersons_23 : decode cL_arePersons 23 = .ok (.iconst 0, 1) := by decide +kernel
theorem dL_arePersons_24 : decode cL_arePersons 24 = .ok (.istore 9, 2) := by decide +kernel
theorem dL_arePersons_26 : decode cL_arePersons 26 = .ok (.iload 9, 2) := by decide +kernel
theorem dL_arePersons_28 : decode cL_arePersons 28 = .ok (.aload_n 1, 1) := by decide +kernel
theorem dL_arePersons_29 : decode cL_arePersons 29 = .ok (.iconst 1, 1) := by decide +kernel
theorem dL_arePersons_30 : decode cL_arePersons 30 = .ok (.iaload, 1) := by decide +kernel
theorem dL_arePersons_31 : decode cL_arePersons 31 = .ok (.if_icmp .ge 134, 3) := by decide +kernel
theorem dL_arePersons_34 : decode cL_arePersons 34 = .ok (.aload_n 3, 1) := by decide +kernel
theorem dL_arePersons_35 : decode cL_arePersons 35 = .ok (.iconst 4, 1) := by decide +kernel
theorem dL_arePersons_36 : decode cL_arePersons 36 = .ok (.iload 9, 2) := by decide +kernel
theorem dL_arePersons_38 : decode cL_arePersons 38 = .ok (.imul, 1) := by decide +kernel
theorem dL_arePersons_39 : decode cL_arePersons 39 = .ok (.iaload, 1) := by decide +kernel
theorem dL_arePersons_40 : decode cL_arePersons 40 = .ok (.iload 4, 2) := by decide +kernel
theorem dL_arePersons_42 : decode cL_arePersons 42 = .ok (.if_icmp .ne 7, 3) := by decide +kernel
theorem dL_arePersons_45 : decode cL_arePersons 45 = .ok (.iconst 1, 1) := by decide +kernel
theorem dL_arePersons_46 : decode cL_arePersons 46 = .ok (.goto 4, 3) := by decide +kernel
theorem dL_arePersons_49 : decode cL_arePersons 49 = .ok (.iconst 0, 1) := by decide +kernel
theorem dL_arePersons_50 : decode cL_arePersons 50 = .ok (.istore 10, 2) := by decide +kernel
theorem dL_arePersons_52 : decode cL_arePersons 52 = .ok (.iload 5, 2) := by decide +kernel
theorem dL_arePersons_54 : decode cL_arePersons 54 = .ok (.iload 10, 2) := by decide +kernel
theorem dL_arePersons_56 : decode cL_arePersons 56 = .ok (.ifCond .eq 7, 3) := by decide +kernel
theorem dL_arePersons_59 : decode cL_arePersons 59 = .ok (.iconst 1, 1) := by decide +kernel
theorem dL_arePersons_60 : decode cL_arePersons 60 = .ok (.goto 4, 3) := by decide +kernel
theorem dL_arePersons_63 : decode cL_arePersons 63 = .ok (.iconst 0, 1) := by decide +kernel
theorem dL_arePersons_64 : decode cL_arePersons 64 = .ok (.iadd, 1) := by decide +kernel
theorem dL_arePersons_65 : decode cL_arePersons 65 = .ok (.istore 5, 2) := by decide +kernel
theorem dL_arePersons_67 : decode cL_arePersons 67 = .ok (.iload 6, 2) := by decide +kernel
theorem dL_arePersons_69 : decode cL_arePersons 69 = .ok (.iload 10, 2) := by decide +kernel
theorem dL_arePersons_71 : decode cL_arePersons 71 = .ok (.ifCond .eq 14, 3) := by decide +kernel
theorem dL_arePersons_74 : decode cL_arePersons 74 = .ok (.aload_n 3, 1) := by decide +kernel
theorem dL_arePersons_75 : decode cL_arePersons 75 = .ok (.iconst 4, 1) := by decide +kernel
theorem dL_arePersons_76 : decode cL_arePersons 76 = .ok (.iload 9, 2) := by decide +kernel
theorem dL_arePersons_78 : decode cL_arePersons 78 = .ok (.imul, 1) := by decide +kernel
theorem dL_arePersons_79 : decode cL_arePersons 79 = .ok (.iconst 3, 1) := by decide +kernel
theorem dL_arePersons_80 : decode cL_arePersons 80 = .ok (.iadd, 1) := by decide +kernel
theorem dL_arePersons_81 : decode cL_arePersons 81 = .ok (.iaload, 1) := by decide +kernel
theorem dL_arePersons_82 : decode cL_arePersons 82 = .ok (.goto 4, 3) := by decide +kernel
theorem dL_arePersons_85 : decode cL_arePersons 85 = .ok (.iconst 0, 1) := by decide +kernel
theorem dL_arePersons_86 : decode cL_arePersons 86 = .ok (.iadd, 1) := by decide +kernel
theorem dL_arePersons_87 : decode cL_arePersons 87 = .ok (.istore 6, 2) := by decide +kernel
theorem dL_arePersons_89 : decode cL_arePersons 89 = .ok (.iload 7, 2) := by decide +kernel
theorem dL_arePersons_91 : decode cL_arePersons 91 = .ok (.iload 10, 2) := by decide +kernel
theorem dL_arePersons_93 : decode cL_arePersons 93 = .ok (.ifCond .eq 26, 3) := by decide +kernel
theorem dL_arePersons_96 : decode cL_arePersons 96 = .ok (.aload_n 1, 1) := by decide +kernel
theorem dL_arePersons_97 : decode cL_arePersons 97 = .ok (.aload_n 2, 1) := by decide +kernel
theorem dL_arePersons_98 : decode cL_arePersons 98 = .ok (.aload_n 3, 1) := by decide +kernel
theorem dL_arePersons_99 : decode cL_arePersons 99 = .ok (.aload_n 3, 1) := by decide +kernel
theorem dL_arePersons_100 : decode cL_arePersons 100 = .ok (.iconst 4, 1) := by decide +kernel
theorem dL_arePersons_101 : decode cL_arePersons 101 = .ok (.iload 9, 2) := by decide +kernel
theorem dL_arePersons_103 : decode cL_arePersons 103 = .ok (.imul, 1) := by decide +kernel
theorem dL_arePersons_104 : decode cL_arePersons 104 = .ok (.iconst 1, 1) := by decide +kernel
theorem dL_arePersons_105 : decode cL_arePersons 105 = .ok (.iadd, 1) := by decide +kernel
theorem dL_arePersons_106 : decode cL_arePersons 106 = .ok (.iaload, 1) := by decide +kernel
theorem dL_arePersons_107 : decode cL_arePersons 107 = .ok (.invokestatic 12, 3) := by decide +kernel
theorem dL_arePersons_110 : decode cL_arePersons 110 = .ok (.iload 9, 2) := by decide +kernel
theorem dL_arePersons_112 : decode cL_arePersons 112 = .ok (.if_icmp .ne 7, 3) := by decide +kernel
theorem dL_arePersons_115 : decode cL_arePersons 115 = .ok (.iconst 1, 1) := by decide +kernel
theorem dL_arePersons_116 : decode cL_arePersons 116 = .ok (.goto 4, 3) := by decide +kernel
theorem dL_arePersons_119 : decode cL_arePersons 119 = .ok (.iconst 0, 1) := by decide +kernel
theorem dL_arePersons_120 : decode cL_arePersons 120 = .ok (.iadd, 1) := by decide +kernel
theorem dL_arePersons_121 : decode cL_arePersons 121 = .ok (.istore 7, 2) := by decide +kernel
theorem dL_arePersons_123 : decode cL_arePersons 123 = .ok (.iload 8, 2) := by decide +kernel
theorem dL_arePersons_125 : decode cL_arePersons 125 = .ok (.iload 10, 2) := by decide +kernel
theorem dL_arePersons_127 : decode cL_arePersons 127 = .ok (.ifCond .eq 28, 3) := by decide +kernel
theorem dL_arePersons_130 : decode cL_arePersons 130 = .ok (.aload_n 3, 1) := by decide +kernel
theorem dL_arePersons_131 : decode cL_arePersons 131 = .ok (.iconst 4, 1) := by decide +kernel
theorem dL_arePersons_132 : decode cL_arePersons 132 = .ok (.iload 9, 2) := by decide +kernel
theorem dL_arePersons_134 : decode cL_arePersons 134 = .ok (.imul, 1) := by decide +kernel
theorem dL_arePersons_135 : decode cL_arePersons 135 = .ok (.iconst 3, 1) := by decide +kernel
theorem dL_arePersons_136 : decode cL_arePersons 136 = .ok (.iadd, 1) := by decide +kernel
theorem dL_arePersons_137 : decode cL_arePersons 137 = .ok (.iaload, 1) := by decide +kernel
theorem dL_arePersons_138 : decode cL_arePersons 138 = .ok (.iconst 1, 1) := by decide +kernel
theorem dL_arePersons_139 : decode cL_arePersons 139 = .ok (.if_icmp .ne 16, 3) := by decide +kernel
theorem dL_arePersons_142 : decode cL_arePersons 142 = .ok (.iconst 1, 1) := by decide +kernel
theorem dL_arePersons_143 : decode cL_arePersons 143 = .ok (.aload_n 3, 1) := by decide +kernel
theorem dL_arePersons_144 : decode cL_arePersons 144 = .ok (.iconst 4, 1) := by decide +kernel
theorem dL_arePersons_145 : decode cL_arePersons 145 = .ok (.iload 9, 2) := by decide +kernel
theorem dL_arePersons_147 : decode cL_arePersons 147 = .ok (.imul, 1) := by decide +kernel
theorem dL_arePersons_148 : decode cL_arePersons 148 = .ok (.iconst 1, 1) := by decide +kernel
theorem dL_arePersons_149 : decode cL_arePersons 149 = .ok (.iadd, 1) := by decide +kernel
theorem dL_arePersons_150 : decode cL_arePersons 150 = .ok (.iaload, 1) := by decide +kernel
theorem dL_arePersons_151 : decode cL_arePersons 151 = .ok (.ishl, 1) := by decide +kernel
theorem dL_arePersons_152 : decode cL_arePersons 152 = .ok (.goto 4, 3) := by decide +kernel
theorem dL_arePersons_155 : decode cL_arePersons 155 = .ok (.iconst 0, 1) := by decide +kernel
theorem dL_arePersons_156 : decode cL_arePersons 156 = .ok (.ior, 1) := by decide +kernel
theorem dL_arePersons_157 : decode cL_arePersons 157 = .ok (.istore 8, 2) := by decide +kernel
theorem dL_arePersons_159 : decode cL_arePersons 159 = .ok (.iinc 9 1, 3) := by decide +kernel
theorem dL_arePersons_162 : decode cL_arePersons 162 = .ok (.goto (-136), 3) := by decide +kernel
theorem dL_arePersons_165 : decode cL_arePersons 165 = .ok (.aload_n 0, 1) := by decide +kernel
theorem dL_arePersons_166 : decode cL_arePersons 166 = .ok (.iload 4, 2) := by decide +kernel
theorem dL_arePersons_168 : decode cL_arePersons 168 = .ok (.iconst 0, 1) := by decide +kernel
theorem dL_arePersons_169 : decode cL_arePersons 169 = .ok (.invokevirtual 65, 3) := by decide +kernel
theorem dL_arePersons_172 : decode cL_arePersons 172 = .ok (.aload_n 2, 1) := by decide +kernel
theorem dL_arePersons_173 : decode cL_arePersons 173 = .ok (.iload 4, 2) := by decide +kernel
theorem dL_arePersons_175 : decode cL_arePersons 175 = .ok (.iaload, 1) := by decide +kernel
theorem dL_arePersons_176 : decode cL_arePersons 176 = .ok (.if_icmp .ne 51, 3) := by decide +kernel
theorem dL_arePersons_179 : decode cL_arePersons 179 = .ok (.aload_n 0, 1) := by decide +kernel
theorem dL_arePersons_180 : decode cL_arePersons 180 = .ok (.iload 4, 2) := by decide +kernel
theorem dL_arePersons_182 : decode cL_arePersons 182 = .ok (.iconst 1, 1) := by decide +kernel
theorem dL_arePersons_183 : decode cL_arePersons 183 = .ok (.invokevirtual 65, 3) := by decide +kernel
theorem dL_arePersons_186 : decode cL_arePersons 186 = .ok (.iload 5, 2) := by decide +kernel
theorem dL_arePersons_188 : decode cL_arePersons 188 = .ok (.if_icmp .ne 39, 3) := by decide +kernel
theorem dL_arePersons_191 : decode cL_arePersons 191 = .ok (.aload_n 0, 1) := by decide +kernel
theorem dL_arePersons_192 : decode cL_arePersons 192 = .ok (.iload 4, 2) := by decide +kernel
theorem dL_arePersons_194 : decode cL_arePersons 194 = .ok (.iconst 2, 1) := by decide +kernel
theorem dL_arePersons_195 : decode cL_arePersons 195 = .ok (.invokevirtual 65, 3) := by decide +kernel
theorem dL_arePersons_198 : decode cL_arePersons 198 = .ok (.iload 6, 2) := by decide +kernel
theorem dL_arePersons_200 : decode cL_arePersons 200 = .ok (.if_icmp .ne 27, 3) := by decide +kernel
theorem dL_arePersons_203 : decode cL_arePersons 203 = .ok (.aload_n 0, 1) := by decide +kernel
theorem dL_arePersons_204 : decode cL_arePersons 204 = .ok (.iload 4, 2) := by decide +kernel
theorem dL_arePersons_206 : decode cL_arePersons 206 = .ok (.iconst 3, 1) := by decide +kernel
theorem dL_arePersons_207 : decode cL_arePersons 207 = .ok (.invokevirtual 65, 3) := by decide +kernel
theorem dL_arePersons_210 : decode cL_arePersons 210 = .ok (.iload 7, 2) := by decide +kernel
theorem dL_arePersons_212 : decode cL_arePersons 212 = .ok (.if_icmp .ne 15, 3) := by decide +kernel
theorem dL_arePersons_215 : decode cL_arePersons 215 = .ok (.aload_n 0, 1) := by decide +kernel
theorem dL_arePersons_216 : decode cL_arePersons 216 = .ok (.iload 4, 2) := by decide +kernel
theorem dL_arePersons_218 : decode cL_arePersons 218 = .ok (.iconst 4, 1) := by decide +kernel
theorem dL_arePersons_219 : decode cL_arePersons 219 = .ok (.invokevirtual 65, 3) := by decide +kernel
theorem dL_arePersons_222 : decode cL_arePersons 222 = .ok (.iload 8, 2) := by decide +kernel
theorem dL_arePersons_224 : decode cL_arePersons 224 = .ok (.if_icmp .eq 5, 3) := by decide +kernel
theorem dL_arePersons_227 : decode cL_arePersons 227 = .ok (.iconst 0, 1) := by decide +kernel
theorem dL_arePersons_228 : decode cL_arePersons 228 = .ok (.ireturn, 1) := by decide +kernel
theorem dL_arePersons_229 : decode cL_arePersons 229 = .ok (.iinc 4 1, 3) := by decide +kernel
theorem dL_arePersons_232 : decode cL_arePersons 232 = .ok (.goto (-229), 3) := by decide +kernel
theorem dL_arePersons_235 : decode cL_arePersons 235 = .ok (.aload_n 0, 1) := by decide +kernel
theorem dL_arePersons_236 : decode cL_arePersons 236 = .ok (.aload_n 1, 1) := by decide +kernel
theorem dL_arePersons_237 : decode cL_arePersons 237 = .ok (.iconst 0, 1) := by decide +kernel
theorem dL_arePersons_238 : decode cL_arePersons 238 = .ok (.iaload, 1) := by decide +kernel
theorem dL_arePersons_239 : decode cL_arePersons 239 = .ok (.iconst 0, 1) := by decide +kernel
theorem dL_arePersons_240 : decode cL_arePersons 240 = .ok (.invokevirtual 65, 3) := by decide +kernel
theorem dL_arePersons_243 : decode cL_arePersons 243 = .ok (.iconst (-1), 1) := by decide +kernel
theorem dL_arePersons_244 : decode cL_arePersons 244 = .ok (.if_icmp .ne 7, 3) := by decide +kernel
theorem dL_arePersons_247 : decode cL_arePersons 247 = .ok (.iconst 1, 1) := by decide +kernel
theorem dL_arePersons_248 : decode cL_arePersons 248 = .ok (.goto 4, 3) := by decide +kernel
theorem dL_arePersons_251 : decode cL_arePersons 251 = .ok (.iconst 0, 1) := by decide +kernel
theorem dL_arePersons_252 : decode cL_arePersons 252 = .ok (.ireturn, 1) := by decide +kernel
theorem dL_isNailed_0 : decode cL_isNailed 0 = .ok (.iload 5, 2) := by decide +kernel
theorem dL_isNailed_2 : decode cL_isNailed 2 = .ok (.aload_n 1, 1) := by decide +kernel
theorem dL_isNailed_3 : decode cL_isNailed 3 = .ok (.iconst 0, 1) := by decide +kernel
theorem dL_isNailed_4 : decode cL_isNailed 4 = .ok (.iaload, 1) := by decide +kernel
theorem dL_isNailed_5 : decode cL_isNailed 5 = .ok (.iload 5, 2) := by decide +kernel
theorem dL_isNailed_7 : decode cL_isNailed 7 = .ok (.iconst 5, 1) := by decide +kernel
theorem dL_isNailed_8 : decode cL_isNailed 8 = .ok (.ishr, 1) := by decide +kernel
theorem dL_isNailed_9 : decode cL_isNailed 9 = .ok (.bipush 20, 2) := by decide +kernel
theorem dL_isNailed_11 : decode cL_isNailed 11 = .ok (.invokestatic 68, 3) := by decide +kernel
theorem dL_isNailed_14 : decode cL_isNailed 14 = .ok (.ifCond .ne 7, 3) := by decide +kernel
theorem dL_isNailed_17 : decode cL_isNailed 17 = .ok (.iconst 1, 1) := by decide +kernel
theorem dL_isNailed_18 : decode cL_isNailed 18 = .ok (.goto 4, 3) := by decide +kernel
theorem dL_isNailed_21 : decode cL_isNailed 21 = .ok (.iconst 0, 1) := by decide +kernel
theorem dL_isNailed_22 : decode cL_isNailed 22 = .ok (.iadd, 1) := by decide +kernel
theorem dL_isNailed_23 : decode cL_isNailed 23 = .ok (.invokestatic 68, 3) := by decide +kernel
theorem dL_isNailed_26 : decode cL_isNailed 26 = .ok (.istore 7, 2) := by decide +kernel
theorem dL_isNailed_28 : decode cL_isNailed 28 = .ok (.iload 5, 2) := by decide +kernel
theorem dL_isNailed_30 : decode cL_isNailed 30 = .ok (.iconst 3, 1) := by decide +kernel
theorem dL_isNailed_31 : decode cL_isNailed 31 = .ok (.ishr, 1) := by decide +kernel
theorem dL_isNailed_32 : decode cL_isNailed 32 = .ok (.iload 5, 2) := by decide +kernel
theorem dL_isNailed_34 : decode cL_isNailed 34 = .ok (.bipush 20, 2) := by decide +kernel
theorem dL_isNailed_36 : decode cL_isNailed 36 = .ok (.ishr, 1) := by decide +kernel
theorem dL_isNailed_37 : decode cL_isNailed 37 = .ok (.iconst 2, 1) := by decide +kernel
theorem dL_isNailed_38 : decode cL_isNailed 38 = .ok (.invokestatic 68, 3) := by decide +kernel
theorem dL_isNailed_41 : decode cL_isNailed 41 = .ok (.ifCond .ne 7, 3) := by decide +kernel
theorem dL_isNailed_44 : decode cL_isNailed 44 = .ok (.iconst 3, 1) := by decide +kernel
theorem dL_isNailed_45 : decode cL_isNailed 45 = .ok (.goto 5, 3) := by decide +kernel
theorem dL_isNailed_48 : decode cL_isNailed 48 = .ok (.bipush 16, 2) := by decide +kernel
theorem dL_isNailed_50 : decode cL_isNailed 50 = .ok (.invokestatic 68, 3) := by decide +kernel
theorem dL_isNailed_53 : decode cL_isNailed 53 = .ok (.istore 8, 2) := by decide +kernel
theorem dL_isNailed_55 : decode cL_isNailed 55 = .ok (.iload 5, 2) := by decide +kernel
theorem dL_isNailed_57 : decode cL_isNailed 57 = .ok (.bipush 7, 2) := by decide +kernel
theorem dL_isNailed_59 : decode cL_isNailed 59 = .ok (.ishr, 1) := by decide +kernel
theorem dL_isNailed_60 : decode cL_isNailed 60 = .ok (.iload 5, 2) := by decide +kernel
theorem dL_isNailed_62 : decode cL_isNailed 62 = .ok (.bipush 20, 2) := by decide +kernel
theorem dL_isNailed_64 : decode cL_isNailed 64 = .ok (.ishr, 1) := by decide +kernel
theorem dL_isNailed_65 : decode cL_isNailed 65 = .ok (.iconst 2, 1) := by decide +kernel
theorem dL_isNailed_66 : decode cL_isNailed 66 = .ok (.invokestatic 68, 3) := by decide +kernel
theorem dL_isNailed_69 : decode cL_isNailed 69 = .ok (.ifCond .ne 7, 3) := by decide +kernel
theorem dL_isNailed_72 : decode cL_isNailed 72 = .ok (.iconst 3, 1) := by decide +kernel
theorem dL_isNailed_73 : decode cL_isNailed 73 = .ok (.goto 5, 3) := by decide +kernel
theorem dL_isNailed_76 : decode cL_isNailed 76 = .ok (.bipush 16, 2) := by decide +kernel
theorem dL_isNailed_78 : decode cL_isNailed 78 = .ok (.invokestatic 68, 3) := by decide +kernel
theorem dL_isNailed_81 : decode cL_isNailed 81 = .ok (.istore 9, 2) := by decide +kernel
theorem dL_isNailed_83 : decode cL_isNailed 83 = .ok (.iload 5, 2) := by decide +kernel
theorem dL_isNailed_85 : decode cL_isNailed 85 = .ok (.bipush 12, 2) := by decide +kernel
theorem dL_isNailed_87 : decode cL_isNailed 87 = .ok (.ishr, 1) := by decide +kernel
theorem dL_isNailed_88 : decode cL_isNailed 88 = .ok (.iconst 5, 1) := by decide +kernel
theorem dL_isNailed_89 : decode cL_isNailed 89 = .ok (.invokestatic 68, 3) := by decide +kernel
theorem dL_isNailed_92 : decode cL_isNailed 92 = .ok (.iconst 1, 1) := by decide +kernel
theorem dL_isNailed_93 : decode cL_isNailed 93 = .ok (.if_icmp .le 7, 3) := by decide +kernel
theorem dL_isNailed_96 : decode cL_isNailed 96 = .ok (.iconst 1, 1) := by decide +kernel
theorem dL_isNailed_97 : decode cL_isNailed 97 = .ok (.goto 4, 3) := by decide +kernel
theorem dL_isNailed_100 : decode cL_isNailed 100 = .ok (.iconst 0, 1) := by decide +kernel
theorem dL_isNailed_101 : decode cL_isNailed 101 = .ok (.istore 10, 2) := by decide +kernel
theorem dL_isNailed_103 : decode cL_isNailed 103 = .ok (.iload 6, 2) := by decide +kernel
theorem dL_isNailed_105 : decode cL_isNailed 105 = .ok (.iload 6, 2) := by decide +kernel
theorem dL_isNailed_107 : decode cL_isNailed 107 = .ok (.bipush 8, 2) := by decide +kernel
theorem dL_isNailed_109 : decode cL_isNailed 109 = .ok (.ishr, 1) := by decide +kernel
theorem dL_isNailed_110 : decode cL_isNailed 110 = .ok (.iconst 3, 1) := by decide +kernel
theorem dL_isNailed_111 : decode cL_isNailed 111 = .ok (.invokestatic 68, 3) := by decide +kernel
theorem dL_isNailed_114 : decode cL_isNailed 114 = .ok (.ifCond .ne 9, 3) := by decide +kernel
theorem dL_isNailed_117 : decode cL_isNailed 117 = .ok (.sipush 16001, 3) := by decide +kernel
theorem dL_isNailed_120 : decode cL_isNailed 120 = .ok (.goto 5, 3) := by decide +kernel
theorem dL_isNailed_123 : decode cL_isNailed 123 = .ok (.bipush 33, 2) := by decide +kernel
theorem dL_isNailed_125 : decode cL_isNailed 125 = .ok (.invokestatic 68, 3) := by decide +kernel
theorem dL_isNailed_128 : decode cL_isNailed 128 = .ok (.iload 6, 2) := by decide +kernel
theorem dL_isNailed_130 : decode cL_isNailed 130 = .ok (.bipush 8, 2) := by decide +kernel
theorem dL_isNailed_132 : decode cL_isNailed 132 = .ok (.ishr, 1) := by decide +kernel
theorem dL_isNailed_133 : decode cL_isNailed 133 = .ok (.iconst 3, 1) := by decide +kernel
theorem dL_isNailed_134 : decode cL_isNailed 134 = .ok (.invokestatic 68, 3) := by decide +kernel
theorem dL_isNailed_137 : decode cL_isNailed 137 = .ok (.ifCond .ne 9, 3) := by decide +kernel
theorem dL_isNailed_140 : decode cL_isNailed 140 = .ok (.sipush 8000, 3) := by decide +kernel
theorem dL_isNailed_143 : decode cL_isNailed 143 = .ok (.goto 5, 3) := by decide +kernel
theorem dL_isNailed_146 : decode cL_isNailed 146 = .ok (.bipush 16, 2) := by decide +kernel
theorem dL_isNailed_148 : decode cL_isNailed 148 = .ok (.isub, 1) := by decide +kernel
theorem dL_isNailed_149 : decode cL_isNailed 149 = .ok (.istore 11, 2) := by decide +kernel
theorem dL_isNailed_151 : decode cL_isNailed 151 = .ok (.iload 6, 2) := by decide +kernel
theorem dL_isNailed_153 : decode cL_isNailed 153 = .ok (.bipush 10, 2) := by decide +kernel
theorem dL_isNailed_155 : decode cL_isNailed 155 = .ok (.ishr, 1) := by decide +kernel
theorem dL_isNailed_156 : decode cL_isNailed 156 = .ok (.iload 6, 2) := by decide +kernel
theorem dL_isNailed_158 : decode cL_isNailed 158 = .ok (.bipush 24, 2) := by decide +kernel
theorem dL_isNailed_160 : decode cL_isNailed 160 = .ok (.ishr, 1) := by decide +kernel
theorem dL_isNailed_161 : decode cL_isNailed 161 = .ok (.iconst 2, 1) := by decide +kernel
theorem dL_isNailed_162 : decode cL_isNailed 162 = .ok (.invokestatic 68, 3) := by decide +kernel
theorem dL_isNailed_165 : decode cL_isNailed 165 = .ok (.ifCond .ne 9, 3) := by decide +kernel
theorem dL_isNailed_168 : decode cL_isNailed 168 = .ok (.sipush 8001, 3) := by decide +kernel
theorem dL_isNailed_171 : decode cL_isNailed 171 = .ok (.goto 5, 3) := by decide +kernel
theorem dL_isNailed_174 : decode cL_isNailed 174 = .ok (.bipush 41, 2) := by decide +kernel
theorem dL_isNailed_176 : decode cL_isNailed 176 = .ok (.invokestatic 68, 3) := by decide +kernel
theorem dL_isNailed_179 : decode cL_isNailed 179 = .ok (.bipush 20, 2) := by decide +kernel
theorem dL_isNailed_181 : decode cL_isNailed 181 = .ok (.isub, 1) := by decide +kernel
theorem dL_isNailed_182 : decode cL_isNailed 182 = .ok (.istore 12, 2) := by decide +kernel
theorem dL_isNailed_184 : decode cL_isNailed 184 = .ok (.iconst 1, 1) := by decide +kernel
theorem dL_isNailed_185 : decode cL_isNailed 185 = .ok (.iload 5, 2) := by decide +kernel
theorem dL_isNailed_187 : decode cL_isNailed 187 = .ok (.bipush 15, 2) := by decide +kernel
theorem dL_isNailed_189 : decode cL_isNailed 189 = .ok (.ishr, 1) := by decide +kernel
theorem dL_isNailed_190 : decode cL_isNailed 190 = .ok (.bipush 80, 2) := by decide +kernel
theorem dL_isNailed_192 : decode cL_isNailed 192 = .ok (.invokestatic 68, 3) := by decide +kernel
theorem dL_isNailed_195 : decode cL_isNailed 195 = .ok (.iadd, 1) := by decide +kernel
theorem dL_isNailed_196 : decode cL_isNailed 196 = .ok (.istore 13, 2) := by decide +kernel
theorem dL_isNailed_198 : decode cL_isNailed 198 = .ok (.iload 7, 2) := by decide +kernel
theorem dL_isNailed_200 : decode cL_isNailed 200 = .ok (.aload_n 1, 1) := by decide +kernel
theorem dL_isNailed_201 : decode cL_isNailed 201 = .ok (.iconst 0, 1) := by decide +kernel
theorem dL_isNailed_202 : decode cL_isNailed 202 = .ok (.iaload, 1) := by decide +kernel
theorem dL_isNailed_203 : decode cL_isNailed 203 = .ok (.if_icmp .ne 65, 3) := by decide +kernel
theorem dL_isNailed_206 : decode cL_isNailed 206 = .ok (.aload_n 0, 1) := by decide +kernel
theorem dL_isNailed_207 : decode cL_isNailed 207 = .ok (.iload 7, 2) := by decide +kernel
theorem dL_isNailed_209 : decode cL_isNailed 209 = .ok (.iload 8, 2) := by decide +kernel
theorem dL_isNailed_211 : decode cL_isNailed 211 = .ok (.iload 12, 2) := by decide +kernel
theorem dL_isNailed_213 : decode cL_isNailed 213 = .ok (.invokestatic 71, 3) := by decide +kernel
theorem dL_isNailed_216 : decode cL_isNailed 216 = .ok (.iload 13, 2) := by decide +kernel
theorem dL_isNailed_218 : decode cL_isNailed 218 = .ok (.invokestatic 71, 3) := by decide +kernel
theorem dL_isNailed_221 : decode cL_isNailed 221 = .ok (.invokevirtual 74, 3) := by decide +kernel
theorem dL_isNailed_224 : decode cL_isNailed 224 = .ok (.iconst (-1), 1) := by decide +kernel
theorem dL_isNailed_225 : decode cL_isNailed 225 = .ok (.if_icmp .ne 41, 3) := by decide +kernel
theorem dL_isNailed_228 : decode cL_isNailed 228 = .ok (.aload_n 0, 1) := by decide +kernel
theorem dL_isNailed_229 : decode cL_isNailed 229 = .ok (.iload 7, 2) := by decide +kernel
theorem dL_isNailed_231 : decode cL_isNailed 231 = .ok (.iload 8, 2) := by decide +kernel
theorem dL_isNailed_233 : decode cL_isNailed 233 = .ok (.iload 8, 2) := by decide +kernel
theorem dL_isNailed_235 : decode cL_isNailed 235 = .ok (.iconst 0, 1) := by decide +kernel
theorem dL_isNailed_236 : decode cL_isNailed 236 = .ok (.iconst 0, 1) := by decide +kernel
theorem dL_isNailed_237 : decode cL_isNailed 237 = .ok (.iconst 0, 1) := by decide +kernel
theorem dL_isNailed_238 : decode cL_isNailed 238 = .ok (.invokevirtual 78, 3) := by decide +kernel
theorem dL_isNailed_241 : decode cL_isNailed 241 = .ok (.iconst (-1), 1) := by decide +kernel
theorem dL_isNailed_242 : decode cL_isNailed 242 = .ok (.if_icmp .ne 24, 3) := by decide +kernel
theorem dL_isNailed_245 : decode cL_isNailed 245 = .ok (.aload_n 0, 1) := by decide +kernel
theorem dL_isNailed_246 : decode cL_isNailed 246 = .ok (.iconst 0, 1) := by decide +kernel
theorem dL_isNailed_247 : decode cL_isNailed 247 = .ok (.bipush 16, 2) := by decide +kernel
theorem dL_isNailed_249 : decode cL_isNailed 249 = .ok (.iconst 0, 1) := by decide +kernel
theorem dL_isNailed_250 : decode cL_isNailed 250 = .ok (.iload 13, 2) := by decide +kernel
theorem dL_isNailed_252 : decode cL_isNailed 252 = .ok (.invokestatic 71, 3) := by decide +kernel
theorem dL_isNailed_255 : decode cL_isNailed 255 = .ok (.invokevirtual 74, 3) := by decide +kernel
theorem dL_isNailed_258 : decode cL_isNailed 258 = .ok (.iconst (-1), 1) := by decide +kernel
theorem dL_isNailed_259 : decode cL_isNailed 259 = .ok (.if_icmp .ne 7, 3) := by decide +kernel
theorem dL_isNailed_262 : decode cL_isNailed 262 = .ok (.iconst 1, 1) := by decide +kernel
theorem dL_isNailed_263 : decode cL_isNailed 263 = .ok (.goto 4, 3) := by decide +kernel
theorem dL_isNailed_266 : decode cL_isNailed 266 = .ok (.iconst 0, 1) := by decide +kernel
theorem dL_isNailed_267 : decode cL_isNailed 267 = .ok (.ireturn, 1) := by decide +kernel
theorem dL_isNailed_268 : decode cL_isNailed 268 = .ok (.iload 12, 2) := by decide +kernel
theorem dL_isNailed_270 : decode cL_isNailed 270 = .ok (.sipush 8000, 3) := by decide +kernel
theorem dL_isNailed_273 : decode cL_isNailed 273 = .ok (.if_icmp .le 9, 3) := by decide +kernel
theorem dL_isNailed_276 : decode cL_isNailed 276 = .ok (.sipush 8000, 3) := by decide +kernel
theorem dL_isNailed_279 : decode cL_isNailed 279 = .ok (.goto 5, 3) := by decide +kernel
theorem dL_isNailed_282 : decode cL_isNailed 282 = .ok (.iload 12, 2) := by decide +kernel
theorem dL_isNailed_284 : decode cL_isNailed 284 = .ok (.istore 12, 2) := by decide +kernel
theorem dL_isNailed_286 : decode cL_isNailed 286 = .ok (.iload 10, 2) := by decide +kernel
theorem dL_isNailed_288 : decode cL_isNailed 288 = .ok (.ifCond .eq 75, 3) := by decide +kernel
theorem dL_isNailed_291 : decode cL_isNailed 291 = .ok (.iload 9, 2) := by decide +kernel
theorem dL_isNailed_293 : decode cL_isNailed 293 = .ok (.iload 8, 2) := by decide +kernel
theorem dL_isNailed_295 : decode cL_isNailed 295 = .ok (.if_icmp .ne 68, 3) := by decide +kernel
theorem dL_isNailed_298 : decode cL_isNailed 298 = .ok (.aload_n 0, 1) := by decide +kernel
theorem dL_isNailed_299 : decode cL_isNailed 299 = .ok (.iload 7, 2) := by decide +kernel
theorem dL_isNailed_301 : decode cL_isNailed 301 = .ok (.iload 8, 2) := by decide +kernel
theorem dL_isNailed_303 : decode cL_isNailed 303 = .ok (.iload 9, 2) := by decide +kernel
theorem dL_isNailed_305 : decode cL_isNailed 305 = .ok (.iload 11, 2) := by decide +kernel
theorem dL_isNailed_307 : decode cL_isNailed 307 = .ok (.invokestatic 71, 3) := by decide +kernel
theorem dL_isNailed_310 : decode cL_isNailed 310 = .ok (.iload 12, 2) := by decide +kernel
theorem dL_isNailed_312 : decode cL_isNailed 312 = .ok (.invokestatic 71, 3) := by decide +kernel
theorem dL_isNailed_315 : decode cL_isNailed 315 = .ok (.iload 13, 2) := by decide +kernel
theorem dL_isNailed_317 : decode cL_isNailed 317 = .ok (.invokestatic 71, 3) := by decide +kernel
theorem dL_isNailed_320 : decode cL_isNailed 320 = .ok (.invokevirtual 78, 3) := by decide +kernel
theorem dL_isNailed_323 : decode cL_isNailed 323 = .ok (.bipush (-2), 2) := by decide +kernel
theorem dL_isNailed_325 : decode cL_isNailed 325 = .ok (.if_icmp .ne 36, 3) := by decide +kernel
theorem dL_isNailed_328 : decode cL_isNailed 328 = .ok (.aload_n 0, 1) := by decide +kernel
theorem dL_isNailed_329 : decode cL_isNailed 329 = .ok (.iload 7, 2) := by decide +kernel
theorem dL_isNailed_331 : decode cL_isNailed 331 = .ok (.iload 8, 2) := by decide +kernel
theorem dL_isNailed_333 : decode cL_isNailed 333 = .ok (.bipush 16, 2) := by decide +kernel
theorem dL_isNailed_335 : decode cL_isNailed 335 = .ok (.iload 11, 2) := by decide +kernel
theorem dL_isNailed_337 : decode cL_isNailed 337 = .ok (.invokestatic 71, 3) := by decide +kernel
theorem dL_isNailed_340 : decode cL_isNailed 340 = .ok (.iload 12, 2) := by decide +kernel
theorem dL_isNailed_342 : decode cL_isNailed 342 = .ok (.invokestatic 71, 3) := by decide +kernel
theorem dL_isNailed_345 : decode cL_isNailed 345 = .ok (.iload 13, 2) := by decide +kernel
theorem dL_isNailed_347 : decode cL_isNailed 347 = .ok (.invokestatic 71, 3) := by decide +kernel
theorem dL_isNailed_350 : decode cL_isNailed 350 = .ok (.invokevirtual 78, 3) := by decide +kernel
theorem dL_isNailed_353 : decode cL_isNailed 353 = .ok (.iconst (-1), 1) := by decide +kernel
theorem dL_isNailed_354 : decode cL_isNailed 354 = .ok (.if_icmp .ne 7, 3) := by decide +kernel
theorem dL_isNailed_357 : decode cL_isNailed 357 = .ok (.iconst 1, 1) := by decide +kernel
theorem dL_isNailed_358 : decode cL_isNailed 358 = .ok (.goto 4, 3) := by decide +kernel
theorem dL_isNailed_361 : decode cL_isNailed 361 = .ok (.iconst 0, 1) := by decide +kernel
theorem dL_isNailed_362 : decode cL_isNailed 362 = .ok (.ireturn, 1) := by decide +kernel
theorem dL_isNailed_363 : decode cL_isNailed 363 = .ok (.aload_n 1, 1) := by decide +kernel
theorem dL_isNailed_364 : decode cL_isNailed 364 = .ok (.iconst 1, 1) := by decide +kernel
theorem dL_isNailed_365 : decode cL_isNailed 365 = .ok (.iaload, 1) := by decide +kernel
theorem dL_isNailed_366 : decode cL_isNailed 366 = .ok (.bipush 15, 2) := by decide +kernel
theorem dL_isNailed_368 : decode cL_isNailed 368 = .ok (.if_icmp .ne 95, 3) := by decide +kernel
theorem dL_isNailed_371 : decode cL_isNailed 371 = .ok (.aload_n 0, 1) := by decide +kernel
theorem dL_isNailed_372 : decode cL_isNailed 372 = .ok (.iload 7, 2) := by decide +kernel
theorem dL_isNailed_374 : decode cL_isNailed 374 = .ok (.iload 8, 2) := by decide +kernel
theorem dL_isNailed_376 : decode cL_isNailed 376 = .ok (.sipush 8001, 3) := by decide +kernel
theorem dL_isNailed_379 : decode cL_isNailed 379 = .ok (.invokestatic 71, 3) := by decide +kernel
theorem dL_isNailed_382 : decode cL_isNailed 382 = .ok (.iload 13, 2) := by decide +kernel
theorem dL_isNailed_384 : decode cL_isNailed 384 = .ok (.invokestatic 71, 3) := by decide +kernel
theorem dL_isNailed_387 : decode cL_isNailed 387 = .ok (.invokevirtual 74, 3) := by decide +kernel
theorem dL_isNailed_390 : decode cL_isNailed 390 = .ok (.bipush (-2), 2) := by decide +kernel
theorem dL_isNailed_392 : decode cL_isNailed 392 = .ok (.if_icmp .ne 69, 3) := by decide +kernel
theorem dL_isNailed_395 : decode cL_isNailed 395 = .ok (.aload_n 0, 1) := by decide +kernel
theorem dL_isNailed_396 : decode cL_isNailed 396 = .ok (.iload 7, 2) := by decide +kernel
theorem dL_isNailed_398 : decode cL_isNailed 398 = .ok (.iload 8, 2) := by decide +kernel
theorem dL_isNailed_400 : decode cL_isNailed 400 = .ok (.ldc 82, 2) := by decide +kernel
theorem dL_isNailed_402 : decode cL_isNailed 402 = .ok (.iload 13, 2) := by decide +kernel
theorem dL_isNailed_404 : decode cL_isNailed 404 = .ok (.invokestatic 71, 3) := by decide +kernel
theorem dL_isNailed_407 : decode cL_isNailed 407 = .ok (.invokevirtual 74, 3) := by decide +kernel
theorem dL_isNailed_410 : decode cL_isNailed 410 = .ok (.bipush (-2), 2) := by decide +kernel
theorem dL_isNailed_412 : decode cL_isNailed 412 = .ok (.if_icmp .ne 49, 3) := by decide +kernel
theorem dL_isNailed_415 : decode cL_isNailed 415 = .ok (.aload_n 0, 1) := by decide +kernel
theorem dL_isNailed_416 : decode cL_isNailed 416 = .ok (.iload 7, 2) := by decide +kernel
theorem dL_isNailed_418 : decode cL_isNailed 418 = .ok (.iload 8, 2) := by decide +kernel
theorem dL_isNailed_420 : decode cL_isNailed 420 = .ok (.iload 12, 2) := by decide +kernel
theorem dL_isNailed_422 : decode cL_isNailed 422 = .ok (.invokestatic 71, 3) := by decide +kernel
theorem dL_isNailed_425 : decode cL_isNailed 425 = .ok (.iconst 0, 1) := by decide +kernel
theorem dL_isNailed_426 : decode cL_isNailed 426 = .ok (.invokevirtual 74, 3) := by decide +kernel
theorem dL_isNailed_429 : decode cL_isNailed 429 = .ok (.bipush (-2), 2) := by decide +kernel
theorem dL_isNailed_431 : decode cL_isNailed 431 = .ok (.if_icmp .ne 30, 3) := by decide +kernel
theorem dL_isNailed_434 : decode cL_isNailed 434 = .ok (.aload_n 0, 1) := by decide +kernel
theorem dL_isNailed_435 : decode cL_isNailed 435 = .ok (.iload 7, 2) := by decide +kernel
theorem dL_isNailed_437 : decode cL_isNailed 437 = .ok (.iload 8, 2) := by decide +kernel
theorem dL_isNailed_439 : decode cL_isNailed 439 = .ok (.iload 12, 2) := by decide +kernel
theorem dL_isNailed_441 : decode cL_isNailed 441 = .ok (.invokestatic 71, 3) := by decide +kernel
theorem dL_isNailed_444 : decode cL_isNailed 444 = .ok (.bipush 81, 2) := by decide +kernel
theorem dL_isNailed_446 : decode cL_isNailed 446 = .ok (.invokestatic 71, 3) := by decide +kernel
theorem dL_isNailed_449 : decode cL_isNailed 449 = .ok (.invokevirtual 74, 3) := by decide +kernel
theorem dL_isNailed_452 : decode cL_isNailed 452 = .ok (.bipush (-2), 2) := by decide +kernel
theorem dL_isNailed_454 : decode cL_isNailed 454 = .ok (.if_icmp .ne 7, 3) := by decide +kernel
theorem dL_isNailed_457 : decode cL_isNailed 457 = .ok (.iconst 1, 1) := by decide +kernel
theorem dL_isNailed_458 : decode cL_isNailed 458 = .ok (.goto 4, 3) := by decide +kernel
theorem dL_isNailed_461 : decode cL_isNailed 461 = .ok (.iconst 0, 1) := by decide +kernel
theorem dL_isNailed_462 : decode cL_isNailed 462 = .ok (.ireturn, 1) := by decide +kernel
theorem dL_isNailed_463 : decode cL_isNailed 463 = .ok (.aload_n 1, 1) := by decide +kernel
theorem dL_isNailed_464 : decode cL_isNailed 464 = .ok (.iconst 1, 1) := by decide +kernel
theorem dL_isNailed_465 : decode cL_isNailed 465 = .ok (.iaload, 1) := by decide +kernel
theorem dL_isNailed_466 : decode cL_isNailed 466 = .ok (.istore 14, 2) := by decide +kernel
theorem dL_isNailed_468 : decode cL_isNailed 468 = .ok (.aload_n 2, 1) := by decide +kernel
theorem dL_isNailed_469 : decode cL_isNailed 469 = .ok (.iconst 4, 1) := by decide +kernel
theorem dL_isNailed_470 : decode cL_isNailed 470 = .ok (.iload 14, 2) := by decide +kernel
theorem dL_isNailed_472 : decode cL_isNailed 472 = .ok (.imul, 1) := by decide +kernel
theorem dL_isNailed_473 : decode cL_isNailed 473 = .ok (.iload 7, 2) := by decide +kernel
theorem dL_isNailed_475 : decode cL_isNailed 475 = .ok (.iastore, 1) := by decide +kernel
theorem dL_isNailed_476 : decode cL_isNailed 476 = .ok (.aload_n 2, 1) := by decide +kernel
theorem dL_isNailed_477 : decode cL_isNailed 477 = .ok (.iconst 4, 1) := by decide +kernel
theorem dL_isNailed_478 : decode cL_isNailed 478 = .ok (.iload 14, 2) := by decide +kernel
theorem dL_isNailed_480 : decode cL_isNailed 480 = .ok (.imul, 1) := by decide +kernel
theorem dL_isNailed_481 : decode cL_isNailed 481 = .ok (.iconst 1, 1) := by decide +kernel
theorem dL_isNailed_482 : decode cL_isNailed 482 = .ok (.iadd, 1) := by decide +kernel
theorem dL_isNailed_483 : decode cL_isNailed 483 = .ok (.iload 8, 2) := by decide +kernel
theorem dL_isNailed_485 : decode cL_isNailed 485 = .ok (.iastore, 1) := by decide +kernel
theorem dL_isNailed_486 : decode cL_isNailed 486 = .ok (.aload_n 2, 1) := by decide +kernel
theorem dL_isNailed_487 : decode cL_isNailed 487 = .ok (.iconst 4, 1) := by decide +kernel
theorem dL_isNailed_488 : decode cL_isNailed 488 = .ok (.iload 14, 2) := by decide +kernel
theorem dL_isNailed_490 : decode cL_isNailed 490 = .ok (.imul, 1) := by decide +kernel
theorem dL_isNailed_491 : decode cL_isNailed 491 = .ok (.iconst 2, 1) := by decide +kernel
theorem dL_isNailed_492 : decode cL_isNailed 492 = .ok (.iadd, 1) := by decide +kernel
theorem dL_isNailed_493 : decode cL_isNailed 493 = .ok (.iload 10, 2) := by decide +kernel
theorem dL_isNailed_495 : decode cL_isNailed 495 = .ok (.ifCond .eq 8, 3) := by decide +kernel
theorem dL_isNailed_498 : decode cL_isNailed 498 = .ok (.iload 9, 2) := by decide +kernel
theorem dL_isNailed_500 : decode cL_isNailed 500 = .ok (.goto 5, 3) := by decide +kernel
theorem dL_isNailed_503 : decode cL_isNailed 503 = .ok (.bipush (-5), 2) := by decide +kernel
theorem dL_isNailed_505 : decode cL_isNailed 505 = .ok (.iastore, 1) := by decide +kernel
theorem dL_isNailed_506 : decode cL_isNailed 506 = .ok (.aload_n 2, 1) := by decide +kernel
theorem dL_isNailed_507 : decode cL_isNailed 507 = .ok (.iconst 4, 1) := by decide +kernel
theorem dL_isNailed_508 : decode cL_isNailed 508 = .ok (.iload 14, 2) := by decide +kernel
theorem dL_isNailed_510 : decode cL_isNailed 510 = .ok (.imul, 1) := by decide +kernel
theorem dL_isNailed_511 : decode cL_isNailed 511 = .ok (.iconst 3, 1) := by decide +kernel
theorem dL_isNailed_512 : decode cL_isNailed 512 = .ok (.iadd, 1) := by decide +kernel
theorem dL_isNailed_513 : decode cL_isNailed 513 = .ok (.iconst 1, 1) := by decide +kernel
theorem dL_isNailed_514 : decode cL_isNailed 514 = .ok (.iastore, 1) := by decide +kernel
theorem dL_isNailed_515 : decode cL_isNailed 515 = .ok (.aload_n 3, 1) := by decide +kernel
theorem dL_isNailed_516 : decode cL_isNailed 516 = .ok (.iconst 2, 1) := by decide +kernel
theorem dL_isNailed_517 : decode cL_isNailed 517 = .ok (.iload 14, 2) := by decide +kernel
theorem dL_isNailed_519 : decode cL_isNailed 519 = .ok (.imul, 1) := by decide +kernel
theorem dL_isNailed_520 : decode cL_isNailed 520 = .ok (.iload 10, 2) := by decide +kernel
theorem dL_isNailed_522 : decode cL_isNailed 522 = .ok (.ifCond .eq 13, 3) := by decide +kernel
theorem dL_isNailed_525 : decode cL_isNailed 525 = .ok (.iload 11, 2) := by decide +kernel
theorem dL_isNailed_527 : decode cL_isNailed 527 = .ok (.i2d, 1) := by decide +kernel
theorem dL_isNailed_528 : decode cL_isNailed 528 = .ok (.ldc2_w 83, 3) := by decide +kernel
theorem dL_isNailed_531 : decode cL_isNailed 531 = .ok (.dmul, 1) := by decide +kernel
theorem dL_isNailed_532 : decode cL_isNailed 532 = .ok (.goto 4, 3) := by decide +kernel
theorem dL_isNailed_535 : decode cL_isNailed 535 = .ok (.dconst 1, 1) := by decide +kernel
theorem dL_isNailed_536 : decode cL_isNailed 536 = .ok (.dastore, 1) := by decide +kernel
theorem dL_isNailed_537 : decode cL_isNailed 537 = .ok (.aload_n 3, 1) := by decide +kernel
theorem dL_isNailed_538 : decode cL_isNailed 538 = .ok (.iconst 2, 1) := by decide +kernel
theorem dL_isNailed_539 : decode cL_isNailed 539 = .ok (.iload 14, 2) := by decide +kernel
theorem dL_isNailed_541 : decode cL_isNailed 541 = .ok (.imul, 1) := by decide +kernel
theorem dL_isNailed_542 : decode cL_isNailed 542 = .ok (.iconst 1, 1) := by decide +kernel
theorem dL_isNailed_543 : decode cL_isNailed 543 = .ok (.iadd, 1) := by decide +kernel
theorem dL_isNailed_544 : decode cL_isNailed 544 = .ok (.iload 12, 2) := by decide +kernel
theorem dL_isNailed_546 : decode cL_isNailed 546 = .ok (.i2d, 1) := by decide +kernel
theorem dL_isNailed_547 : decode cL_isNailed 547 = .ok (.ldc2_w 83, 3) := by decide +kernel
theorem dL_isNailed_550 : decode cL_isNailed 550 = .ok (.dmul, 1) := by decide +kernel
theorem dL_isNailed_551 : decode cL_isNailed 551 = .ok (.dastore, 1) := by decide +kernel
theorem dL_isNailed_552 : decode cL_isNailed 552 = .ok (.aload 4, 2) := by decide +kernel
theorem dL_isNailed_554 : decode cL_isNailed 554 = .ok (.iload 14, 2) := by decide +kernel
theorem dL_isNailed_556 : decode cL_isNailed 556 = .ok (.iload 13, 2) := by decide +kernel
theorem dL_isNailed_558 : decode cL_isNailed 558 = .ok (.i2d, 1) := by decide +kernel
theorem dL_isNailed_559 : decode cL_isNailed 559 = .ok (.ldc2_w 83, 3) := by decide +kernel
theorem dL_isNailed_562 : decode cL_isNailed 562 = .ok (.dmul, 1) := by decide +kernel
theorem dL_isNailed_563 : decode cL_isNailed 563 = .ok (.dastore, 1) := by decide +kernel
theorem dL_isNailed_564 : decode cL_isNailed 564 = .ok (.aload_n 1, 1) := by decide +kernel
theorem dL_isNailed_565 : decode cL_isNailed 565 = .ok (.iconst 1, 1) := by decide +kernel
theorem dL_isNailed_566 : decode cL_isNailed 566 = .ok (.dup2, 1) := by decide +kernel
theorem dL_isNailed_567 : decode cL_isNailed 567 = .ok (.iaload, 1) := by decide +kernel
theorem dL_isNailed_568 : decode cL_isNailed 568 = .ok (.iconst 1, 1) := by decide +kernel
theorem dL_isNailed_569 : decode cL_isNailed 569 = .ok (.iadd, 1) := by decide +kernel
theorem dL_isNailed_570 : decode cL_isNailed 570 = .ok (.iastore, 1) := by decide +kernel
theorem dL_isNailed_571 : decode cL_isNailed 571 = .ok (.iload 14, 2) := by decide +kernel
theorem dL_isNailed_573 : decode cL_isNailed 573 = .ok (.iload 10, 2) := by decide +kernel
theorem dL_isNailed_575 : decode cL_isNailed 575 = .ok (.ifCond .eq 31, 3) := by decide +kernel
theorem dL_isNailed_578 : decode cL_isNailed 578 = .ok (.aload_n 0, 1) := by decide +kernel
theorem dL_isNailed_579 : decode cL_isNailed 579 = .ok (.iload 7, 2) := by decide +kernel
theorem dL_isNailed_581 : decode cL_isNailed 581 = .ok (.iload 8, 2) := by decide +kernel
theorem dL_isNailed_583 : decode cL_isNailed 583 = .ok (.iload 9, 2) := by decide +kernel
theorem dL_isNailed_585 : decode cL_isNailed 585 = .ok (.iload 11, 2) := by decide +kernel
theorem dL_isNailed_587 : decode cL_isNailed 587 = .ok (.invokestatic 71, 3) := by decide +kernel
theorem dL_isNailed_590 : decode cL_isNailed 590 = .ok (.iload 12, 2) := by decide +kernel
theorem dL_isNailed_592 : decode cL_isNailed 592 = .ok (.invokestatic 71, 3) := by decide +kernel
theorem dL_isNailed_595 : decode cL_isNailed 595 = .ok (.iload 13, 2) := by decide +kernel
theorem dL_isNailed_597 : decode cL_isNailed 597 = .ok (.invokestatic 71, 3) := by decide +kernel
theorem dL_isNailed_600 : decode cL_isNailed 600 = .ok (.invokevirtual 78, 3) := by decide +kernel
theorem dL_isNailed_603 : decode cL_isNailed 603 = .ok (.goto 21, 3) := by decide +kernel
theorem dL_isNailed_606 : decode cL_isNailed 606 = .ok (.aload_n 0, 1) := by decide +kernel
theorem dL_isNailed_607 : decode cL_isNailed 607 = .ok (.iload 7, 2) := by decide +kernel
theorem dL_isNailed_609 : decode cL_isNailed 609 = .ok (.iload 8, 2) := by decide +kernel
theorem dL_isNailed_611 : decode cL_isNailed 611 = .ok (.iload 12, 2) := by decide +kernel
theorem dL_isNailed_613 : decode cL_isNailed 613 = .ok (.invokestatic 71, 3) := by decide +kernel
theorem dL_isNailed_616 : decode cL_isNailed 616 = .ok (.iload 13, 2) := by decide +kernel
theorem dL_isNailed_618 : decode cL_isNailed 618 = .ok (.invokestatic 71, 3) := by decide +kernel
theorem dL_isNailed_621 : decode cL_isNailed 621 = .ok (.invokevirtual 74, 3) := by decide +kernel
theorem dL_isNailed_624 : decode cL_isNailed 624 = .ok (.if_icmp .ne 7, 3) := by decide +kernel
theorem dL_isNailed_627 : decode cL_isNailed 627 = .ok (.iconst 1, 1) := by decide +kernel
theorem dL_isNailed_628 : decode cL_isNailed 628 = .ok (.goto 4, 3) := by decide +kernel
theorem dL_isNailed_631 : decode cL_isNailed 631 = .ok (.iconst 0, 1) := by decide +kernel
theorem dL_isNailed_632 : decode cL_isNailed 632 = .ok (.ireturn, 1) := by decide +kernel
theorem dL_isStruck_0 : decode cL_isStruck 0 = .ok (.aload_n 1, 1) := by decide +kernel
theorem dL_isStruck_1 : decode cL_isStruck 1 = .ok (.iconst 1, 1) := by decide +kernel
theorem dL_isStruck_2 : decode cL_isStruck 2 = .ok (.iaload, 1) := by decide +kernel
theorem dL_isStruck_3 : decode cL_isStruck 3 = .ok (.ifCond .ne 27, 3) := by decide +kernel
theorem dL_isStruck_6 : decode cL_isStruck 6 = .ok (.aload_n 0, 1) := by decide +kernel
theorem dL_isStruck_7 : decode cL_isStruck 7 = .ok (.iconst 0, 1) := by decide +kernel
theorem dL_isStruck_8 : decode cL_isStruck 8 = .ok (.invokevirtual 85, 3) := by decide +kernel
theorem dL_isStruck_11 : decode cL_isStruck 11 = .ok (.iconst (-1), 1) := by decide +kernel
theorem dL_isStruck_12 : decode cL_isStruck 12 = .ok (.if_icmp .ne 16, 3) := by decide +kernel
theorem dL_isStruck_15 : decode cL_isStruck 15 = .ok (.aload_n 0, 1) := by decide +kernel
theorem dL_isStruck_16 : decode cL_isStruck 16 = .ok (.iconst 0, 1) := by decide +kernel
theorem dL_isStruck_17 : decode cL_isStruck 17 = .ok (.invokevirtual 88, 3) := by decide +kernel
theorem dL_isStruck_20 : decode cL_isStruck 20 = .ok (.iconst (-1), 1) := by decide +kernel
theorem dL_isStruck_21 : decode cL_isStruck 21 = .ok (.if_icmp .ne 7, 3) := by decide +kernel
theorem dL_isStruck_24 : decode cL_isStruck 24 = .ok (.iconst 1, 1) := by decide +kernel
theorem dL_isStruck_25 : decode cL_isStruck 25 = .ok (.goto 4, 3) := by decide +kernel
theorem dL_isStruck_28 : decode cL_isStruck 28 = .ok (.iconst 0, 1) := by decide +kernel
theorem dL_isStruck_29 : decode cL_isStruck 29 = .ok (.ireturn, 1) := by decide +kernel
theorem dL_isStruck_30 : decode cL_isStruck 30 = .ok (.iload 4, 2) := by decide +kernel
theorem dL_isStruck_32 : decode cL_isStruck 32 = .ok (.aload_n 1, 1) := by decide +kernel
theorem dL_isStruck_33 : decode cL_isStruck 33 = .ok (.iconst 1, 1) := by decide +kernel
theorem dL_isStruck_34 : decode cL_isStruck 34 = .ok (.iaload, 1) := by decide +kernel
theorem dL_isStruck_35 : decode cL_isStruck 35 = .ok (.invokestatic 68, 3) := by decide +kernel
theorem dL_isStruck_38 : decode cL_isStruck 38 = .ok (.istore 5, 2) := by decide +kernel
theorem dL_isStruck_40 : decode cL_isStruck 40 = .ok (.aload_n 2, 1) := by decide +kernel
theorem dL_isStruck_41 : decode cL_isStruck 41 = .ok (.iconst 4, 1) := by decide +kernel
theorem dL_isStruck_42 : decode cL_isStruck 42 = .ok (.iload 5, 2) := by decide +kernel
theorem dL_isStruck_44 : decode cL_isStruck 44 = .ok (.imul, 1) := by decide +kernel
theorem dL_isStruck_45 : decode cL_isStruck 45 = .ok (.iconst 3, 1) := by decide +kernel
theorem dL_isStruck_46 : decode cL_isStruck 46 = .ok (.iadd, 1) := by decide +kernel
theorem dL_isStruck_47 : decode cL_isStruck 47 = .ok (.iaload, 1) := by decide +kernel
theorem dL_isStruck_48 : decode cL_isStruck 48 = .ok (.ifCond .ne 31, 3) := by decide +kernel
theorem dL_isStruck_51 : decode cL_isStruck 51 = .ok (.aload_n 0, 1) := by decide +kernel
theorem dL_isStruck_52 : decode cL_isStruck 52 = .ok (.iload 5, 2) := by decide +kernel
theorem dL_isStruck_54 : decode cL_isStruck 54 = .ok (.invokevirtual 85, 3) := by decide +kernel
theorem dL_isStruck_57 : decode cL_isStruck 57 = .ok (.bipush (-5), 2) := by decide +kernel
theorem dL_isStruck_59 : decode cL_isStruck 59 = .ok (.if_icmp .ne 18, 3) := by decide +kernel
theorem dL_isStruck_62 : decode cL_isStruck 62 = .ok (.aload_n 0, 1) := by decide +kernel
theorem dL_isStruck_63 : decode cL_isStruck 63 = .ok (.iload 5, 2) := by decide +kernel
theorem dL_isStruck_65 : decode cL_isStruck 65 = .ok (.invokevirtual 88, 3) := by decide +kernel
theorem dL_isStruck_68 : decode cL_isStruck 68 = .ok (.bipush (-4), 2) := by decide +kernel
theorem dL_isStruck_70 : decode cL_isStruck 70 = .ok (.if_icmp .ne 7, 3) := by decide +kernel
theorem dL_isStruck_73 : decode cL_isStruck 73 = .ok (.iconst 1, 1) := by decide +kernel
theorem dL_isStruck_74 : decode cL_isStruck 74 = .ok (.goto 4, 3) := by decide +kernel
theorem dL_isStruck_77 : decode cL_isStruck 77 = .ok (.iconst 0, 1) := by decide +kernel
theorem dL_isStruck_78 : decode cL_isStruck 78 = .ok (.ireturn, 1) := by decide +kernel
theorem dL_isStruck_79 : decode cL_isStruck 79 = .ok (.iload 4, 2) := by decide +kernel
theorem dL_isStruck_81 : decode cL_isStruck 81 = .ok (.bipush 6, 2) := by decide +kernel
theorem dL_isStruck_83 : decode cL_isStruck 83 = .ok (.ishr, 1) := by decide +kernel
theorem dL_isStruck_84 : decode cL_isStruck 84 = .ok (.iconst 4, 1) := by decide +kernel
theorem dL_isStruck_85 : decode cL_isStruck 85 = .ok (.invokestatic 68, 3) := by decide +kernel
theorem dL_isStruck_88 : decode cL_isStruck 88 = .ok (.ifCond .le 51, 3) := by decide +kernel
theorem dL_isStruck_91 : decode cL_isStruck 91 = .ok (.aload_n 3, 1) := by decide +kernel
theorem dL_isStruck_92 : decode cL_isStruck 92 = .ok (.iload 5, 2) := by decide +kernel
theorem dL_isStruck_94 : decode cL_isStruck 94 = .ok (.daload, 1) := by decide +kernel
theorem dL_isStruck_95 : decode cL_isStruck 95 = .ok (.d2f, 1) := by decide +kernel
theorem dL_isStruck_96 : decode cL_isStruck 96 = .ok (.fstore 6, 2) := by decide +kernel
theorem dL_isStruck_98 : decode cL_isStruck 98 = .ok (.fload 6, 2) := by decide +kernel
theorem dL_isStruck_100 : decode cL_isStruck 100 = .ok (.ldc 91, 2) := by decide +kernel
theorem dL_isStruck_102 : decode cL_isStruck 102 = .ok (.fload 6, 2) := by decide +kernel
theorem dL_isStruck_104 : decode cL_isStruck 104 = .ok (.fsub, 1) := by decide +kernel
theorem dL_isStruck_105 : decode cL_isStruck 105 = .ok (.ldc 92, 2) := by decide +kernel
theorem dL_isStruck_107 : decode cL_isStruck 107 = .ok (.fmul, 1) := by decide +kernel
theorem dL_isStruck_108 : decode cL_isStruck 108 = .ok (.fadd, 1) := by decide +kernel
theorem dL_isStruck_109 : decode cL_isStruck 109 = .ok (.fstore 6, 2) := by decide +kernel
theorem dL_isStruck_111 : decode cL_isStruck 111 = .ok (.aload_n 3, 1) := by decide +kernel
theorem dL_isStruck_112 : decode cL_isStruck 112 = .ok (.iload 5, 2) := by decide +kernel
theorem dL_isStruck_114 : decode cL_isStruck 114 = .ok (.fload 6, 2) := by decide +kernel
theorem dL_isStruck_116 : decode cL_isStruck 116 = .ok (.f2d, 1) := by decide +kernel
theorem dL_isStruck_117 : decode cL_isStruck 117 = .ok (.dastore, 1) := by decide +kernel
theorem dL_isStruck_118 : decode cL_isStruck 118 = .ok (.aload_n 0, 1) := by decide +kernel
theorem dL_isStruck_119 : decode cL_isStruck 119 = .ok (.iload 5, 2) := by decide +kernel
theorem dL_isStruck_121 : decode cL_isStruck 121 = .ok (.invokevirtual 88, 3) := by decide +kernel
theorem dL_isStruck_124 : decode cL_isStruck 124 = .ok (.fload 6, 2) := by decide +kernel
theorem dL_isStruck_126 : decode cL_isStruck 126 = .ok (.ldc 57, 2) := by decide +kernel
theorem dL_isStruck_128 : decode cL_isStruck 128 = .ok (.fmul, 1) := by decide +kernel
theorem dL_isStruck_129 : decode cL_isStruck 129 = .ok (.f2i, 1) := by decide +kernel
theorem dL_isStruck_130 : decode cL_isStruck 130 = .ok (.if_icmp .ne 7, 3) := by decide +kernel
theorem dL_isStruck_133 : decode cL_isStruck 133 = .ok (.iconst 1, 1) := by decide +kernel
theorem dL_isStruck_134 : decode cL_isStruck 134 = .ok (.goto 4, 3) := by decide +kernel
theorem dL_isStruck_137 : decode cL_isStruck 137 = .ok (.iconst 0, 1) := by decide +kernel
theorem dL_isStruck_138 : decode cL_isStruck 138 = .ok (.ireturn, 1) := by decide +kernel
theorem dL_isStruck_139 : decode cL_isStruck 139 = .ok (.aload_n 2, 1) := by decide +kernel
theorem dL_isStruck_140 : decode cL_isStruck 140 = .ok (.iconst 4, 1) := by decide +kernel
theorem dL_isStruck_141 : decode cL_isStruck 141 = .ok (.iload 5, 2) := by decide +kernel
theorem dL_isStruck_143 : decode cL_isStruck 143 = .ok (.imul, 1) := by decide +kernel
theorem dL_isStruck_144 : decode cL_isStruck 144 = .ok (.iconst 3, 1) := by decide +kernel
theorem dL_isStruck_145 : decode cL_isStruck 145 = .ok (.iadd, 1) := by decide +kernel
theorem dL_isStruck_146 : decode cL_isStruck 146 = .ok (.iconst 0, 1) := by decide +kernel
theorem dL_isStruck_147 : decode cL_isStruck 147 = .ok (.iastore, 1) := by decide +kernel
theorem dL_isStruck_148 : decode cL_isStruck 148 = .ok (.aload_n 1, 1) := by decide +kernel
theorem dL_isStruck_149 : decode cL_isStruck 149 = .ok (.iconst 3, 1) := by decide +kernel
theorem dL_isStruck_150 : decode cL_isStruck 150 = .ok (.dup2, 1) := by decide +kernel
theorem dL_isStruck_151 : decode cL_isStruck 151 = .ok (.iaload, 1) := by decide +kernel
theorem dL_isStruck_152 : decode cL_isStruck 152 = .ok (.iconst 1, 1) := by decide +kernel
theorem dL_isStruck_153 : decode cL_isStruck 153 = .ok (.iadd, 1) := by decide +kernel
theorem dL_isStruck_154 : decode cL_isStruck 154 = .ok (.iastore, 1) := by decide +kernel
theorem dL_isStruck_155 : decode cL_isStruck 155 = .ok (.iconst 0, 1) := by decide +kernel
theorem dL_isStruck_156 : decode cL_isStruck 156 = .ok (.istore 6, 2) := by decide +kernel
theorem dL_isStruck_158 : decode cL_isStruck 158 = .ok (.iconst 0, 1) := by decide +kernel
theorem dL_isStruck_159 : decode cL_isStruck 159 = .ok (.istore 7, 2) := by decide +kernel
theorem dL_isStruck_161 : decode cL_isStruck 161 = .ok (.iload 7, 2) := by decide +kernel
theorem dL_isStruck_163 : decode cL_isStruck 163 = .ok (.aload_n 1, 1) := by decide +kernel
theorem dL_isStruck_164 : decode cL_isStruck 164 = .ok (.iconst 1, 1) := by decide +kernel
theorem dL_isStruck_165 : decode cL_isStruck 165 = .ok (.iaload, 1) := by decide +kernel
theorem dL_isStruck_166 : decode cL_isStruck 166 = .ok (.if_icmp .ge 50, 3) := by decide +kernel
theorem dL_isStruck_169 : decode cL_isStruck 169 = .ok (.iload 6, 2) := by decide +kernel
theorem dL_isStruck_171 : decode cL_isStruck 171 = .ok (.aload_n 2, 1) := by decide +kernel
theorem dL_isStruck_172 : decode cL_isStruck 172 = .ok (.iconst 4, 1) := by decide +kernel
theorem dL_isStruck_173 : decode cL_isStruck 173 = .ok (.iload 7, 2) := by decide +kernel
theorem dL_isStruck_175 : decode cL_isStruck 175 = .ok (.imul, 1) := by decide +kernel
theorem dL_isStruck_176 : decode cL_isStruck 176 = .ok (.iconst 3, 1) := by decide +kernel
theorem dL_isStruck_177 : decode cL_isStruck 177 = .ok (.iadd, 1) := by decide +kernel
theorem dL_isStruck_178 : decode cL_isStruck 178 = .ok (.iaload, 1) := by decide +kernel
theorem dL_isStruck_179 : decode cL_isStruck 179 = .ok (.iconst 1, 1) := by decide +kernel
theorem dL_isStruck_180 : decode cL_isStruck 180 = .ok (.if_icmp .ne 26, 3) := by decide +kernel
theorem dL_isStruck_183 : decode cL_isStruck 183 = .ok (.aload_n 2, 1) := by decide +kernel
theorem dL_isStruck_184 : decode cL_isStruck 184 = .ok (.iconst 4, 1) := by decide +kernel
theorem dL_isStruck_185 : decode cL_isStruck 185 = .ok (.iload 7, 2) := by decide +kernel
theorem dL_isStruck_187 : decode cL_isStruck 187 = .ok (.imul, 1) := by decide +kernel
theorem dL_isStruck_188 : decode cL_isStruck 188 = .ok (.iconst 1, 1) := by decide +kernel
theorem dL_isStruck_189 : decode cL_isStruck 189 = .ok (.iadd, 1) := by decide +kernel
theorem dL_isStruck_190 : decode cL_isStruck 190 = .ok (.iaload, 1) := by decide +kernel
theorem dL_isStruck_191 : decode cL_isStruck 191 = .ok (.aload_n 2, 1) := by decide +kernel
theorem dL_isStruck_192 : decode cL_isStruck 192 = .ok (.iconst 4, 1) := by decide +kernel
theorem dL_isStruck_193 : decode cL_isStruck 193 = .ok (.iload 5, 2) := by decide +kernel
theorem dL_isStruck_195 : decode cL_isStruck 195 = .ok (.imul, 1) := by decide +kernel
theorem dL_isStruck_196 : decode cL_isStruck 196 = .ok (.iconst 1, 1) := by decide +kernel
theorem dL_isStruck_197 : decode cL_isStruck 197 = .ok (.iadd, 1) := by decide +kernel
theorem dL_isStruck_198 : decode cL_isStruck 198 = .ok (.iaload, 1) := by decide +kernel
theorem dL_isStruck_199 : decode cL_isStruck 199 = .ok (.if_icmp .ne 7, 3) := by decide +kernel
theorem dL_isStruck_202 : decode cL_isStruck 202 = .ok (.iconst 1, 1) := by decide +kernel
theorem dL_isStruck_203 : decode cL_isStruck 203 = .ok (.goto 4, 3) := by decide +kernel
theorem dL_isStruck_206 : decode cL_isStruck 206 = .ok (.iconst 0, 1) := by decide +kernel
theorem dL_isStruck_207 : decode cL_isStruck 207 = .ok (.iadd, 1) := by decide +kernel
theorem dL_isStruck_208 : decode cL_isStruck 208 = .ok (.istore 6, 2) := by decide +kernel
theorem dL_isStruck_210 : decode cL_isStruck 210 = .ok (.iinc 7 1, 3) := by decide +kernel
theorem dL_isStruck_213 : decode cL_isStruck 213 = .ok (.goto (-52), 3) := by decide +kernel
theorem dL_isStruck_216 : decode cL_isStruck 216 = .ok (.aload_n 0, 1) := by decide +kernel
theorem dL_isStruck_217 : decode cL_isStruck 217 = .ok (.iload 5, 2) := by decide +kernel
theorem dL_isStruck_219 : decode cL_isStruck 219 = .ok (.invokevirtual 85, 3) := by decide +kernel
theorem dL_isStruck_222 : decode cL_isStruck 222 = .ok (.iload 6, 2) := by decide +kernel
theorem dL_isStruck_224 : decode cL_isStruck 224 = .ok (.if_icmp .ne 18, 3) := by decide +kernel
theorem dL_isStruck_227 : decode cL_isStruck 227 = .ok (.aload_n 0, 1) := by decide +kernel
theorem dL_isStruck_228 : decode cL_isStruck 228 = .ok (.iload 5, 2) := by decide +kernel
theorem dL_isStruck_230 : decode cL_isStruck 230 = .ok (.invokevirtual 85, 3) := by decide +kernel
theorem dL_isStruck_233 : decode cL_isStruck 233 = .ok (.bipush (-5), 2) := by decide +kernel
theorem dL_isStruck_235 : decode cL_isStruck 235 = .ok (.if_icmp .ne 7, 3) := by decide +kernel
theorem dL_isStruck_238 : decode cL_isStruck 238 = .ok (.iconst 1, 1) := by decide +kernel
theorem dL_isStruck_239 : decode cL_isStruck 239 = .ok (.goto 4, 3) := by decide +kernel
theorem dL_isStruck_242 : decode cL_isStruck 242 = .ok (.iconst 0, 1) := by decide +kernel
theorem dL_isStruck_243 : decode cL_isStruck 243 = .ok (.ireturn, 1) := by decide +kernel
theorem dL_isStormy_0 : decode cL_isStormy 0 = .ok (.iconst 1, 1) := by decide +kernel
theorem dL_isStormy_1 : decode cL_isStormy 1 = .ok (.iload 4, 2) := by decide +kernel
theorem dL_isStormy_3 : decode cL_isStormy 3 = .ok (.iload 4, 2) := by decide +kernel
theorem dL_isStormy_5 : decode cL_isStormy 5 = .ok (.bipush 8, 2) := by decide +kernel
theorem dL_isStormy_7 : decode cL_isStormy 7 = .ok (.ishr, 1) := by decide +kernel
theorem dL_isStormy_8 : decode cL_isStormy 8 = .ok (.iconst 3, 1) := by decide +kernel
theorem dL_isStormy_9 : decode cL_isStormy 9 = .ok (.invokestatic 68, 3) := by decide +kernel
theorem dL_isStormy_12 : decode cL_isStormy 12 = .ok (.ifCond .ne 8, 3) := by decide +kernel
theorem dL_isStormy_15 : decode cL_isStormy 15 = .ok (.bipush 80, 2) := by decide +kernel
theorem dL_isStormy_17 : decode cL_isStormy 17 = .ok (.goto 5, 3) := by decide +kernel
theorem dL_isStormy_20 : decode cL_isStormy 20 = .ok (.bipush 16, 2) := by decide +kernel
theorem dL_isStormy_22 : decode cL_isStormy 22 = .ok (.invokestatic 68, 3) := by decide +kernel
theorem dL_isStormy_25 : decode cL_isStormy 25 = .ok (.iadd, 1) := by decide +kernel
theorem dL_isStormy_26 : decode cL_isStormy 26 = .ok (.istore 5, 2) := by decide +kernel
theorem dL_isStormy_28 : decode cL_isStormy 28 = .ok (.iload 5, 2) := by decide +kernel
theorem dL_isStormy_30 : decode cL_isStormy 30 = .ok (.i2f, 1) := by decide +kernel
theorem dL_isStormy_31 : decode cL_isStormy 31 = .ok (.ldc 93, 2) := by decide +kernel
theorem dL_isStormy_33 : decode cL_isStormy 33 = .ok (.fmul, 1) := by decide +kernel
theorem dL_isStormy_34 : decode cL_isStormy 34 = .ok (.fstore 6, 2) := by decide +kernel
theorem dL_isStormy_36 : decode cL_isStormy 36 = .ok (.iconst 0, 1) := by decide +kernel
theorem dL_isStormy_37 : decode cL_isStormy 37 = .ok (.istore 7, 2) := by decide +kernel
theorem dL_isStormy_39 : decode cL_isStormy 39 = .ok (.iload 7, 2) := by decide +kernel
theorem dL_isStormy_41 : decode cL_isStormy 41 = .ok (.aload_n 1, 1) := by decide +kernel
theorem dL_isStormy_42 : decode cL_isStormy 42 = .ok (.iconst 1, 1) := by decide +kernel
theorem dL_isStormy_43 : decode cL_isStormy 43 = .ok (.iaload, 1) := by decide +kernel
theorem dL_isStormy_44 : decode cL_isStormy 44 = .ok (.if_icmp .ge 45, 3) := by decide +kernel
theorem dL_isStormy_47 : decode cL_isStormy 47 = .ok (.aload_n 2, 1) := by decide +kernel
theorem dL_isStormy_48 : decode cL_isStormy 48 = .ok (.iconst 4, 1) := by decide +kernel
theorem dL_isStormy_49 : decode cL_isStormy 49 = .ok (.iload 7, 2) := by decide +kernel
theorem dL_isStormy_51 : decode cL_isStormy 51 = .ok (.imul, 1) := by decide +kernel
theorem dL_isStormy_52 : decode cL_isStormy 52 = .ok (.iconst 3, 1) := by decide +kernel
theorem dL_isStormy_53 : decode cL_isStormy 53 = .ok (.iadd, 1) := by decide +kernel
theorem dL_isStormy_54 : decode cL_isStormy 54 = .ok (.iaload, 1) := by decide +kernel
theorem dL_isStormy_55 : decode cL_isStormy 55 = .ok (.iconst 1, 1) := by decide +kernel
theorem dL_isStormy_56 : decode cL_isStormy 56 = .ok (.if_icmp .ne 27, 3) := by decide +kernel
theorem dL_isStormy_59 : decode cL_isStormy 59 = .ok (.aload_n 3, 1) := by decide +kernel
theorem dL_isStormy_60 : decode cL_isStormy 60 = .ok (.iload 7, 2) := by decide +kernel
theorem dL_isStormy_62 : decode cL_isStormy 62 = .ok (.aload_n 3, 1) := by decide +kernel
theorem dL_isStormy_63 : decode cL_isStormy 63 = .ok (.iload 7, 2) := by decide +kernel
theorem dL_isStormy_65 : decode cL_isStormy 65 = .ok (.daload, 1) := by decide +kernel
theorem dL_isStormy_66 : decode cL_isStormy 66 = .ok (.d2f, 1) := by decide +kernel
theorem dL_isStormy_67 : decode cL_isStormy 67 = .ok (.fload 6, 2) := by decide +kernel
theorem dL_isStormy_69 : decode cL_isStormy 69 = .ok (.iconst 1, 1) := by decide +kernel
theorem dL_isStormy_70 : decode cL_isStormy 70 = .ok (.aload_n 1, 1) := by decide +kernel
theorem dL_isStormy_71 : decode cL_isStormy 71 = .ok (.aload_n 2, 1) := by decide +kernel
theorem dL_isStormy_72 : decode cL_isStormy 72 = .ok (.iload 7, 2) := by decide +kernel
theorem dL_isStormy_74 : decode cL_isStormy 74 = .ok (.invokestatic 53, 3) := by decide +kernel
theorem dL_isStormy_77 : decode cL_isStormy 77 = .ok (.iadd, 1) := by decide +kernel
theorem dL_isStormy_78 : decode cL_isStormy 78 = .ok (.i2f, 1) := by decide +kernel
theorem dL_isStormy_79 : decode cL_isStormy 79 = .ok (.fdiv, 1) := by decide +kernel
theorem dL_isStormy_80 : decode cL_isStormy 80 = .ok (.fsub, 1) := by decide +kernel
theorem dL_isStormy_81 : decode cL_isStormy 81 = .ok (.f2d, 1) := by decide +kernel
theorem dL_isStormy_82 : decode cL_isStormy 82 = .ok (.dastore, 1) := by decide +kernel
theorem dL_isStormy_83 : decode cL_isStormy 83 = .ok (.iinc 7 1, 3) := by decide +kernel
theorem dL_isStormy_86 : decode cL_isStormy 86 = .ok (.goto (-47), 3) := by decide +kernel
theorem dL_isStormy_89 : decode cL_isStormy 89 = .ok (.iconst 0, 1) := by decide +kernel
theorem dL_isStormy_90 : decode cL_isStormy 90 = .ok (.istore 7, 2) := by decide +kernel
theorem dL_isStormy_92 : decode cL_isStormy 92 = .ok (.iconst 0, 1) := by decide +kernel
theorem dL_isStormy_93 : decode cL_isStormy 93 = .ok (.istore 8, 2) := by decide +kernel
theorem dL_isStormy_95 : decode cL_isStormy 95 = .ok (.iload 8, 2) := by decide +kernel
theorem dL_isStormy_97 : decode cL_isStormy 97 = .ok (.aload_n 1, 1) := by decide +kernel
theorem dL_isStormy_98 : decode cL_isStormy 98 = .ok (.iconst 1, 1) := by decide +kernel
theorem dL_isStormy_99 : decode cL_isStormy 99 = .ok (.iaload, 1) := by decide +kernel
theorem dL_isStormy_100 : decode cL_isStormy 100 = .ok (.if_icmp .ge 42, 3) := by decide +kernel
theorem dL_isStormy_103 : decode cL_isStormy 103 = .ok (.aload_n 2, 1) := by decide +kernel
theorem dL_isStormy_104 : decode cL_isStormy 104 = .ok (.iconst 4, 1) := by decide +kernel
theorem dL_isStormy_105 : decode cL_isStormy 105 = .ok (.iload 8, 2) := by decide +kernel
theorem dL_isStormy_107 : decode cL_isStormy 107 = .ok (.imul, 1) := by decide +kernel
theorem dL_isStormy_108 : decode cL_isStormy 108 = .ok (.iconst 3, 1) := by decide +kernel
theorem dL_isStormy_109 : decode cL_isStormy 109 = .ok (.iadd, 1) := by decide +kernel
theorem dL_isStormy_110 : decode cL_isStormy 110 = .ok (.iaload, 1) := by decide +kernel
theorem dL_isStormy_111 : decode cL_isStormy 111 = .ok (.iconst 1, 1) := by decide +kernel
theorem dL_isStormy_112 : decode cL_isStormy 112 = .ok (.if_icmp .ne 24, 3) := by decide +kernel
theorem dL_isStormy_115 : decode cL_isStormy 115 = .ok (.aload_n 3, 1) := by decide +kernel
theorem dL_isStormy_116 : decode cL_isStormy 116 = .ok (.iload 8, 2) := by decide +kernel
theorem dL_isStormy_118 : decode cL_isStormy 118 = .ok (.daload, 1) := by decide +kernel
theorem dL_isStormy_119 : decode cL_isStormy 119 = .ok (.dconst 0, 1) := by decide +kernel
theorem dL_isStormy_120 : decode cL_isStormy 120 = .ok (.dcmp .g, 1) := by decide +kernel
theorem dL_isStormy_121 : decode cL_isStormy 121 = .ok (.ifCond .gt 15, 3) := by decide +kernel
theorem dL_isStormy_124 : decode cL_isStormy 124 = .ok (.aload_n 2, 1) := by decide +kernel
theorem dL_isStormy_125 : decode cL_isStormy 125 = .ok (.iconst 4, 1) := by decide +kernel
theorem dL_isStormy_126 : decode cL_isStormy 126 = .ok (.iload 8, 2) := by decide +kernel
theorem dL_isStormy_128 : decode cL_isStormy 128 = .ok (.imul, 1) := by decide +kernel
theorem dL_isStormy_129 : decode cL_isStormy 129 = .ok (.iconst 3, 1) := by decide +kernel
theorem dL_isStormy_130 : decode cL_isStormy 130 = .ok (.iadd, 1) := by decide +kernel
theorem dL_isStormy_131 : decode cL_isStormy 131 = .ok (.iconst 0, 1) := by decide +kernel
theorem dL_isStormy_132 : decode cL_isStormy 132 = .ok (.iastore, 1) := by decide +kernel
theorem dL_isStormy_133 : decode cL_isStormy 133 = .ok (.iinc 7 1, 3) := by decide +kernel
theorem dL_isStormy_136 : decode cL_isStormy 136 = .ok (.iinc 8 1, 3) := by decide +kernel
theorem dL_isStormy_139 : decode cL_isStormy 139 = .ok (.goto (-44), 3) := by decide +kernel
theorem dL_isStormy_142 : decode cL_isStormy 142 = .ok (.aload_n 1, 1) := by decide +kernel
theorem dL_isStormy_143 : decode cL_isStormy 143 = .ok (.iconst 2, 1) := by decide +kernel
theorem dL_isStormy_144 : decode cL_isStormy 144 = .ok (.dup2, 1) := by decide +kernel
theorem dL_isStormy_145 : decode cL_isStormy 145 = .ok (.iaload, 1) := by decide +kernel
theorem dL_isStormy_146 : decode cL_isStormy 146 = .ok (.iload 7, 2) := by decide +kernel
theorem dL_isStormy_148 : decode cL_isStormy 148 = .ok (.iadd, 1) := by decide +kernel
theorem dL_isStormy_149 : decode cL_isStormy 149 = .ok (.iastore, 1) := by decide +kernel
theorem dL_isStormy_150 : decode cL_isStormy 150 = .ok (.aload_n 1, 1) := by decide +kernel
theorem dL_isStormy_151 : decode cL_isStormy 151 = .ok (.iconst 4, 1) := by decide +kernel
theorem dL_isStormy_152 : decode cL_isStormy 152 = .ok (.dup2, 1) := by decide +kernel
theorem dL_isStormy_153 : decode cL_isStormy 153 = .ok (.iaload, 1) := by decide +kernel
theorem dL_isStormy_154 : decode cL_isStormy 154 = .ok (.iconst 1, 1) := by decide +kernel
theorem dL_isStormy_155 : decode cL_isStormy 155 = .ok (.iadd, 1) := by decide +kernel
theorem dL_isStormy_156 : decode cL_isStormy 156 = .ok (.iastore, 1) := by decide +kernel
theorem dL_isStormy_157 : decode cL_isStormy 157 = .ok (.aload_n 0, 1) := by decide +kernel
theorem dL_isStormy_158 : decode cL_isStormy 158 = .ok (.iload 5, 2) := by decide +kernel
theorem dL_isStormy_160 : decode cL_isStormy 160 = .ok (.invokestatic 71, 3) := by decide +kernel
theorem dL_isStormy_163 : decode cL_isStormy 163 = .ok (.invokevirtual 94, 3) := by decide +kernel
theorem dL_isStormy_166 : decode cL_isStormy 166 = .ok (.iload 7, 2) := by decide +kernel
theorem dL_isStormy_168 : decode cL_isStormy 168 = .ok (.if_icmp .ne 31, 3) := by decide +kernel
theorem dL_isStormy_171 : decode cL_isStormy 171 = .ok (.aload_n 0, 1) := by decide +kernel
theorem dL_isStormy_172 : decode cL_isStormy 172 = .ok (.bipush 81, 2) := by decide +kernel
theorem dL_isStormy_174 : decode cL_isStormy 174 = .ok (.invokestatic 71, 3) := by decide +kernel
theorem dL_isStormy_177 : decode cL_isStormy 177 = .ok (.invokevirtual 94, 3) := by decide +kernel
theorem dL_isStormy_180 : decode cL_isStormy 180 = .ok (.bipush (-2), 2) := by decide +kernel
theorem dL_isStormy_182 : decode cL_isStormy 182 = .ok (.if_icmp .ne 17, 3) := by decide +kernel
theorem dL_isStormy_185 : decode cL_isStormy 185 = .ok (.aload_n 0, 1) := by decide +kernel
theorem dL_isStormy_186 : decode cL_isStormy 186 = .ok (.iconst 0, 1) := by decide +kernel
theorem dL_isStormy_187 : decode cL_isStormy 187 = .ok (.invokevirtual 94, 3) := by decide +kernel
theorem dL_isStormy_190 : decode cL_isStormy 190 = .ok (.bipush (-2), 2) := by decide +kernel
theorem dL_isStormy_192 : decode cL_isStormy 192 = .ok (.if_icmp .ne 7, 3) := by decide +kernel
theorem dL_isStormy_195 : decode cL_isStormy 195 = .ok (.iconst 1, 1) := by decide +kernel
theorem dL_isStormy_196 : decode cL_isStormy 196 = .ok (.goto 4, 3) := by decide +kernel
theorem dL_isStormy_199 : decode cL_isStormy 199 = .ok (.iconst 0, 1) := by decide +kernel
theorem dL_isStormy_200 : decode cL_isStormy 200 = .ok (.ireturn, 1) := by decide +kernel
theorem dL_isRanked_0 : decode cL_isRanked 0 = .ok (.iload 4, 2) := by decide +kernel
theorem dL_isRanked_2 : decode cL_isRanked 2 = .ok (.bipush 12, 2) := by decide +kernel
theorem dL_isRanked_4 : decode cL_isRanked 4 = .ok (.ishr, 1) := by decide +kernel
theorem dL_isRanked_5 : decode cL_isRanked 5 = .ok (.iconst 3, 1) := by decide +kernel
theorem dL_isRanked_6 : decode cL_isRanked 6 = .ok (.invokestatic 68, 3) := by decide +kernel
theorem dL_isRanked_9 : decode cL_isRanked 9 = .ok (.ifCond .ne 132, 3) := by decide +kernel
theorem dL_isRanked_12 : decode cL_isRanked 12 = .ok (.iload 4, 2) := by decide +kernel
theorem dL_isRanked_14 : decode cL_isRanked 14 = .ok (.iload 4, 2) := by decide +kernel
theorem dL_isRanked_16 : decode cL_isRanked 16 = .ok (.bipush 16, 2) := by decide +kernel
theorem dL_isRanked_18 : decode cL_isRanked 18 = .ok (.ishr, 1) := by decide +kernel
theorem dL_isRanked_19 : decode cL_isRanked 19 = .ok (.iconst 2, 1) := by decide +kernel
theorem dL_isRanked_20 : decode cL_isRanked 20 = .ok (.invokestatic 68, 3) := by decide +kernel
theorem dL_isRanked_23 : decode cL_isRanked 23 = .ok (.ifCond .ne 9, 3) := by decide +kernel
theorem dL_isRanked_26 : decode cL_isRanked 26 = .ok (.sipush 801, 3) := by decide +kernel
theorem dL_isRanked_29 : decode cL_isRanked 29 = .ok (.goto 5, 3) := by decide +kernel
theorem dL_isRanked_32 : decode cL_isRanked 32 = .ok (.bipush 30, 2) := by decide +kernel
theorem dL_isRanked_34 : decode cL_isRanked 34 = .ok (.invokestatic 68, 3) := by decide +kernel
theorem dL_isRanked_37 : decode cL_isRanked 37 = .ok (.istore 5, 2) := by decide +kernel
theorem dL_isRanked_39 : decode cL_isRanked 39 = .ok (.aload_n 3, 1) := by decide +kernel
theorem dL_isRanked_40 : decode cL_isRanked 40 = .ok (.bipush 24, 2) := by decide +kernel
theorem dL_isRanked_42 : decode cL_isRanked 42 = .ok (.daload, 1) := by decide +kernel
theorem dL_isRanked_43 : decode cL_isRanked 43 = .ok (.iload 5, 2) := by decide +kernel
theorem dL_isRanked_45 : decode cL_isRanked 45 = .ok (.i2d, 1) := by decide +kernel
theorem dL_isRanked_46 : decode cL_isRanked 46 = .ok (.ldc2_w 83, 3) := by decide +kernel
theorem dL_isRanked_49 : decode cL_isRanked 49 = .ok (.dmul, 1) := by decide +kernel
theorem dL_isRanked_50 : decode cL_isRanked 50 = .ok (.dcmp .l, 1) := by decide +kernel
theorem dL_isRanked_51 : decode cL_isRanked 51 = .ok (.ifCond .ne 7, 3) := by decide +kernel
theorem dL_isRanked_54 : decode cL_isRanked 54 = .ok (.iconst 1, 1) := by decide +kernel
theorem dL_isRanked_55 : decode cL_isRanked 55 = .ok (.goto 4, 3) := by decide +kernel
theorem dL_isRanked_58 : decode cL_isRanked 58 = .ok (.iconst 0, 1) := by decide +kernel
theorem dL_isRanked_59 : decode cL_isRanked 59 = .ok (.istore 6, 2) := by decide +kernel
theorem dL_isRanked_61 : decode cL_isRanked 61 = .ok (.aload_n 3, 1) := by decide +kernel
theorem dL_isRanked_62 : decode cL_isRanked 62 = .ok (.bipush 24, 2) := by decide +kernel
theorem dL_isRanked_64 : decode cL_isRanked 64 = .ok (.iload 5, 2) := by decide +kernel
theorem dL_isRanked_66 : decode cL_isRanked 66 = .ok (.i2d, 1) := by decide +kernel
theorem dL_isRanked_67 : decode cL_isRanked 67 = .ok (.ldc2_w 83, 3) := by decide +kernel
theorem dL_isRanked_70 : decode cL_isRanked 70 = .ok (.dmul, 1) := by decide +kernel
theorem dL_isRanked_71 : decode cL_isRanked 71 = .ok (.dastore, 1) := by decide +kernel
theorem dL_isRanked_72 : decode cL_isRanked 72 = .ok (.aload_n 0, 1) := by decide +kernel
theorem dL_isRanked_73 : decode cL_isRanked 73 = .ok (.iload 5, 2) := by decide +kernel
theorem dL_isRanked_75 : decode cL_isRanked 75 = .ok (.invokestatic 71, 3) := by decide +kernel
theorem dL_isRanked_78 : decode cL_isRanked 78 = .ok (.invokevirtual 97, 3) := by decide +kernel
theorem dL_isRanked_81 : decode cL_isRanked 81 = .ok (.iload 6, 2) := by decide +kernel
theorem dL_isRanked_83 : decode cL_isRanked 83 = .ok (.ifCond .eq 8, 3) := by decide +kernel
theorem dL_isRanked_86 : decode cL_isRanked 86 = .ok (.bipush (-5), 2) := by decide +kernel
theorem dL_isRanked_88 : decode cL_isRanked 88 = .ok (.goto 4, 3) := by decide +kernel
theorem dL_isRanked_91 : decode cL_isRanked 91 = .ok (.iconst 1, 1) := by decide +kernel
theorem dL_isRanked_92 : decode cL_isRanked 92 = .ok (.if_icmp .ne 47, 3) := by decide +kernel
theorem dL_isRanked_95 : decode cL_isRanked 95 = .ok (.aload_n 0, 1) := by decide +kernel
theorem dL_isRanked_96 : decode cL_isRanked 96 = .ok (.ldc 9, 2) := by decide +kernel
theorem dL_isRanked_98 : decode cL_isRanked 98 = .ok (.invokevirtual 97, 3) := by decide +kernel
theorem dL_isRanked_101 : decode cL_isRanked 101 = .ok (.bipush (-2), 2) := by decide +kernel
theorem dL_isRanked_103 : decode cL_isRanked 103 = .ok (.if_icmp .ne 36, 3) := by decide +kernel
theorem dL_isRanked_106 : decode cL_isRanked 106 = .ok (.aload_n 0, 1) := by decide +kernel
theorem dL_isRanked_107 : decode cL_isRanked 107 = .ok (.sipush 801, 3) := by decide +kernel
theorem dL_isRanked_110 : decode cL_isRanked 110 = .ok (.invokestatic 71, 3) := by decide +kernel
theorem dL_isRanked_113 : decode cL_isRanked 113 = .ok (.invokevirtual 97, 3) := by decide +kernel
theorem dL_isRanked_116 : decode cL_isRanked 116 = .ok (.bipush (-2), 2) := by decide +kernel
theorem dL_isRanked_118 : decode cL_isRanked 118 = .ok (.if_icmp .ne 21, 3) := by decide +kernel
theorem dL_isRanked_121 : decode cL_isRanked 121 = .ok (.aload_n 0, 1) := by decide +kernel
theorem dL_isRanked_122 : decode cL_isRanked 122 = .ok (.bipush 10, 2) := by decide +kernel
theorem dL_isRanked_124 : decode cL_isRanked 124 = .ok (.invokevirtual 46, 3) := by decide +kernel
theorem dL_isRanked_127 : decode cL_isRanked 127 = .ok (.iload 5, 2) := by decide +kernel
theorem dL_isRanked_129 : decode cL_isRanked 129 = .ok (.invokestatic 71, 3) := by decide +kernel
theorem dL_isRanked_132 : decode cL_isRanked 132 = .ok (.if_icmp .ne 7, 3) := by decide +kernel
theorem dL_isRanked_135 : decode cL_isRanked 135 = .ok (.iconst 1, 1) := by decide +kernel
theorem dL_isRanked_136 : decode cL_isRanked 136 = .ok (.goto 4, 3) := by decide +kernel
theorem dL_isRanked_139 : decode cL_isRanked 139 = .ok (.iconst 0, 1) := by decide +kernel
theorem dL_isRanked_140 : decode cL_isRanked 140 = .ok (.ireturn, 1) := by decide +kernel
theorem dL_isRanked_141 : decode cL_isRanked 141 = .ok (.iconst 1, 1) := by decide +kernel
theorem dL_isRanked_142 : decode cL_isRanked 142 = .ok (.iload 4, 2) := by decide +kernel
theorem dL_isRanked_144 : decode cL_isRanked 144 = .ok (.iconst 3, 1) := by decide +kernel
theorem dL_isRanked_145 : decode cL_isRanked 145 = .ok (.ishr, 1) := by decide +kernel
theorem dL_isRanked_146 : decode cL_isRanked 146 = .ok (.iconst 5, 1) := by decide +kernel
theorem dL_isRanked_147 : decode cL_isRanked 147 = .ok (.invokestatic 68, 3) := by decide +kernel
theorem dL_isRanked_150 : decode cL_isRanked 150 = .ok (.iadd, 1) := by decide +kernel
theorem dL_isRanked_151 : decode cL_isRanked 151 = .ok (.istore 5, 2) := by decide +kernel
theorem dL_isRanked_153 : decode cL_isRanked 153 = .ok (.iload 4, 2) := by decide +kernel
theorem dL_isRanked_155 : decode cL_isRanked 155 = .ok (.bipush 12, 2) := by decide +kernel
theorem dL_isRanked_157 : decode cL_isRanked 157 = .ok (.ishr, 1) := by decide +kernel
theorem dL_isRanked_158 : decode cL_isRanked 158 = .ok (.iconst 3, 1) := by decide +kernel
theorem dL_isRanked_159 : decode cL_isRanked 159 = .ok (.invokestatic 68, 3) := by decide +kernel
theorem dL_isRanked_162 : decode cL_isRanked 162 = .ok (.iconst 1, 1) := by decide +kernel
theorem dL_isRanked_163 : decode cL_isRanked 163 = .ok (.if_icmp .ne 55, 3) := by decide +kernel
theorem dL_isRanked_166 : decode cL_isRanked 166 = .ok (.aload_n 1, 1) := by decide +kernel
theorem dL_isRanked_167 : decode cL_isRanked 167 = .ok (.iconst 0, 1) := by decide +kernel
theorem dL_isRanked_168 : decode cL_isRanked 168 = .ok (.iaload, 1) := by decide +kernel
theorem dL_isRanked_169 : decode cL_isRanked 169 = .ok (.bipush 6, 2) := by decide +kernel
theorem dL_isRanked_171 : decode cL_isRanked 171 = .ok (.if_icmp .ge 47, 3) := by decide +kernel
theorem dL_isRanked_174 : decode cL_isRanked 174 = .ok (.aload_n 2, 1) := by decide +kernel
theorem dL_isRanked_175 : decode cL_isRanked 175 = .ok (.aload_n 1, 1) := by decide +kernel
theorem dL_isRanked_176 : decode cL_isRanked 176 = .ok (.iconst 0, 1) := by decide +kernel
theorem dL_isRanked_177 : decode cL_isRanked 177 = .ok (.iaload, 1) := by decide +kernel
theorem dL_isRanked_178 : decode cL_isRanked 178 = .ok (.iload 5, 2) := by decide +kernel
theorem dL_isRanked_180 : decode cL_isRanked 180 = .ok (.iastore, 1) := by decide +kernel
theorem dL_isRanked_181 : decode cL_isRanked 181 = .ok (.aload_n 1, 1) := by decide +kernel
theorem dL_isRanked_182 : decode cL_isRanked 182 = .ok (.iconst 0, 1) := by decide +kernel
theorem dL_isRanked_183 : decode cL_isRanked 183 = .ok (.dup2, 1) := by decide +kernel
theorem dL_isRanked_184 : decode cL_isRanked 184 = .ok (.iaload, 1) := by decide +kernel
theorem dL_isRanked_185 : decode cL_isRanked 185 = .ok (.iconst 1, 1) := by decide +kernel
theorem dL_isRanked_186 : decode cL_isRanked 186 = .ok (.iadd, 1) := by decide +kernel
theorem dL_isRanked_187 : decode cL_isRanked 187 = .ok (.iastore, 1) := by decide +kernel
theorem dL_isRanked_188 : decode cL_isRanked 188 = .ok (.aload_n 0, 1) := by decide +kernel
theorem dL_isRanked_189 : decode cL_isRanked 189 = .ok (.iload 5, 2) := by decide +kernel
theorem dL_isRanked_191 : decode cL_isRanked 191 = .ok (.invokevirtual 100, 3) := by decide +kernel
theorem dL_isRanked_194 : decode cL_isRanked 194 = .ok (.aload_n 1, 1) := by decide +kernel
theorem dL_isRanked_195 : decode cL_isRanked 195 = .ok (.iconst 0, 1) := by decide +kernel
theorem dL_isRanked_196 : decode cL_isRanked 196 = .ok (.iaload, 1) := by decide +kernel
theorem dL_isRanked_197 : decode cL_isRanked 197 = .ok (.iconst 1, 1) := by decide +kernel
theorem dL_isRanked_198 : decode cL_isRanked 198 = .ok (.isub, 1) := by decide +kernel
theorem dL_isRanked_199 : decode cL_isRanked 199 = .ok (.if_icmp .ne 17, 3) := by decide +kernel
theorem dL_isRanked_202 : decode cL_isRanked 202 = .ok (.aload_n 0, 1) := by decide +kernel
theorem dL_isRanked_203 : decode cL_isRanked 203 = .ok (.iconst 0, 1) := by decide +kernel
theorem dL_isRanked_204 : decode cL_isRanked 204 = .ok (.invokevirtual 100, 3) := by decide +kernel
theorem dL_isRanked_207 : decode cL_isRanked 207 = .ok (.bipush (-2), 2) := by decide +kernel
theorem dL_isRanked_209 : decode cL_isRanked 209 = .ok (.if_icmp .ne 7, 3) := by decide +kernel
theorem dL_isRanked_212 : decode cL_isRanked 212 = .ok (.iconst 1, 1) := by decide +kernel
theorem dL_isRanked_213 : decode cL_isRanked 213 = .ok (.goto 4, 3) := by decide +kernel
theorem dL_isRanked_216 : decode cL_isRanked 216 = .ok (.iconst 0, 1) := by decide +kernel
theorem dL_isRanked_217 : decode cL_isRanked 217 = .ok (.ireturn, 1) := by decide +kernel
theorem dL_isRanked_218 : decode cL_isRanked 218 = .ok (.iload 4, 2) := by decide +kernel
theorem dL_isRanked_220 : decode cL_isRanked 220 = .ok (.aload_n 1, 1) := by decide +kernel
theorem dL_isRanked_221 : decode cL_isRanked 221 = .ok (.iconst 0, 1) := by decide +kernel
theorem dL_isRanked_222 : decode cL_isRanked 222 = .ok (.iaload, 1) := by decide +kernel
theorem dL_isRanked_223 : decode cL_isRanked 223 = .ok (.invokestatic 68, 3) := by decide +kernel
theorem dL_isRanked_226 : decode cL_isRanked 226 = .ok (.istore 6, 2) := by decide +kernel
theorem dL_isRanked_228 : decode cL_isRanked 228 = .ok (.aload_n 2, 1) := by decide +kernel
theorem dL_isRanked_229 : decode cL_isRanked 229 = .ok (.iload 6, 2) := by decide +kernel
theorem dL_isRanked_231 : decode cL_isRanked 231 = .ok (.iaload, 1) := by decide +kernel
theorem dL_isRanked_232 : decode cL_isRanked 232 = .ok (.istore 7, 2) := by decide +kernel
theorem dL_isRanked_234 : decode cL_isRanked 234 = .ok (.aload_n 2, 1) := by decide +kernel
theorem dL_isRanked_235 : decode cL_isRanked 235 = .ok (.iload 6, 2) := by decide +kernel
theorem dL_isRanked_237 : decode cL_isRanked 237 = .ok (.iload 5, 2) := by decide +kernel
theorem dL_isRanked_239 : decode cL_isRanked 239 = .ok (.iastore, 1) := by decide +kernel
theorem dL_isRanked_240 : decode cL_isRanked 240 = .ok (.aload_n 0, 1) := by decide +kernel
theorem dL_isRanked_241 : decode cL_isRanked 241 = .ok (.iload 6, 2) := by decide +kernel
theorem dL_isRanked_243 : decode cL_isRanked 243 = .ok (.iload 5, 2) := by decide +kernel
theorem dL_isRanked_245 : decode cL_isRanked 245 = .ok (.invokevirtual 103, 3) := by decide +kernel
theorem dL_isRanked_248 : decode cL_isRanked 248 = .ok (.iload 7, 2) := by decide +kernel
theorem dL_isRanked_250 : decode cL_isRanked 250 = .ok (.iload 5, 2) := by decide +kernel
theorem dL_isRanked_252 : decode cL_isRanked 252 = .ok (.if_icmp .ne 8, 3) := by decide +kernel
theorem dL_isRanked_255 : decode cL_isRanked 255 = .ok (.bipush (-5), 2) := by decide +kernel
theorem dL_isRanked_257 : decode cL_isRanked 257 = .ok (.goto 5, 3) := by decide +kernel
theorem dL_isRanked_260 : decode cL_isRanked 260 = .ok (.iload 7, 2) := by decide +kernel
theorem dL_isRanked_262 : decode cL_isRanked 262 = .ok (.if_icmp .ne 33, 3) := by decide +kernel
theorem dL_isRanked_265 : decode cL_isRanked 265 = .ok (.aload_n 0, 1) := by decide +kernel
theorem dL_isRanked_266 : decode cL_isRanked 266 = .ok (.iload 6, 2) := by decide +kernel
theorem dL_isRanked_268 : decode cL_isRanked 268 = .ok (.bipush 6, 2) := by decide +kernel
theorem dL_isRanked_270 : decode cL_isRanked 270 = .ok (.invokevirtual 103, 3) := by decide +kernel
theorem dL_isRanked_273 : decode cL_isRanked 273 = .ok (.bipush (-2), 2) := by decide +kernel
theorem dL_isRanked_275 : decode cL_isRanked 275 = .ok (.if_icmp .ne 20, 3) := by decide +kernel
theorem dL_isRanked_278 : decode cL_isRanked 278 = .ok (.aload_n 0, 1) := by decide +kernel
theorem dL_isRanked_279 : decode cL_isRanked 279 = .ok (.aload_n 1, 1) := by decide +kernel
theorem dL_isRanked_280 : decode cL_isRanked 280 = .ok (.iconst 0, 1) := by decide +kernel
theorem dL_isRanked_281 : decode cL_isRanked 281 = .ok (.iaload, 1) := by decide +kernel
theorem dL_isRanked_282 : decode cL_isRanked 282 = .ok (.bipush 6, 2) := by decide +kernel
theorem dL_isRanked_284 : decode cL_isRanked 284 = .ok (.invokevirtual 103, 3) := by decide +kernel
theorem dL_isRanked_287 : decode cL_isRanked 287 = .ok (.iconst (-1), 1) := by decide +kernel
theorem dL_isRanked_288 : decode cL_isRanked 288 = .ok (.if_icmp .ne 7, 3) := by decide +kernel
theorem dL_isRanked_291 : decode cL_isRanked 291 = .ok (.iconst 1, 1) := by decide +kernel
theorem dL_isRanked_292 : decode cL_isRanked 292 = .ok (.goto 4, 3) := by decide +kernel
theorem dL_isRanked_295 : decode cL_isRanked 295 = .ok (.iconst 0, 1) := by decide +kernel
theorem dL_isRanked_296 : decode cL_isRanked 296 = .ok (.ireturn, 1) := by decide +kernel
theorem dL_law_0 : decode cL_law 0 = .ok (.new 30, 3) := by decide +kernel
theorem dL_law_3 : decode cL_law 3 = .ok (.dup, 1) := by decide +kernel
theorem dL_law_4 : decode cL_law 4 = .ok (.invokespecial 106, 3) := by decide +kernel
theorem dL_law_7 : decode cL_law 7 = .ok (.astore_n 1, 1) := by decide +kernel
theorem dL_law_8 : decode cL_law 8 = .ok (.iconst 5, 1) := by decide +kernel
theorem dL_law_9 : decode cL_law 9 = .ok (.newarray .int, 2) := by decide +kernel
theorem dL_law_11 : decode cL_law 11 = .ok (.astore_n 2, 1) := by decide +kernel
theorem dL_law_12 : decode cL_law 12 = .ok (.bipush 6, 2) := by decide +kernel
theorem dL_law_14 : decode cL_law 14 = .ok (.newarray .int, 2) := by decide +kernel
theorem dL_law_16 : decode cL_law 16 = .ok (.astore_n 3, 1) := by decide +kernel
theorem dL_law_17 : decode cL_law 17 = .ok (.bipush 60, 2) := by decide +kernel
theorem dL_law_19 : decode cL_law 19 = .ok (.newarray .int, 2) := by decide +kernel
theorem dL_law_21 : decode cL_law 21 = .ok (.astore 4, 2) := by decide +kernel
theorem dL_law_23 : decode cL_law 23 = .ok (.bipush 30, 2) := by decide +kernel
theorem dL_law_25 : decode cL_law 25 = .ok (.newarray .double, 2) := by decide +kernel
theorem dL_law_27 : decode cL_law 27 = .ok (.astore 5, 2) := by decide +kernel
theorem dL_law_29 : decode cL_law 29 = .ok (.bipush 25, 2) := by decide +kernel
theorem dL_law_31 : decode cL_law 31 = .ok (.newarray .double, 2) := by decide +kernel
theorem dL_law_33 : decode cL_law 33 = .ok (.astore 6, 2) := by decide +kernel
theorem dL_law_35 : decode cL_law 35 = .ok (.iconst 0, 1) := by decide +kernel
theorem dL_law_36 : decode cL_law 36 = .ok (.istore 7, 2) := by decide +kernel
theorem dL_law_38 : decode cL_law 38 = .ok (.iload 7, 2) := by decide +kernel
theorem dL_law_40 : decode cL_law 40 = .ok (.iconst 2, 1) := by decide +kernel
theorem dL_law_41 : decode cL_law 41 = .ok (.if_icmp .ge 40, 3) := by decide +kernel
theorem dL_law_44 : decode cL_law 44 = .ok (.aload_n 3, 1) := by decide +kernel
theorem dL_law_45 : decode cL_law 45 = .ok (.iload 7, 2) := by decide +kernel
theorem dL_law_47 : decode cL_law 47 = .ok (.iconst 1, 1) := by decide +kernel
theorem dL_law_48 : decode cL_law 48 = .ok (.aload_n 0, 1) := by decide +kernel
theorem dL_law_49 : decode cL_law 49 = .ok (.iload 7, 2) := by decide +kernel
theorem dL_law_51 : decode cL_law 51 = .ok (.invokestatic 107, 3) := by decide +kernel
theorem dL_law_54 : decode cL_law 54 = .ok (.iconst 5, 1) := by decide +kernel
theorem dL_law_55 : decode cL_law 55 = .ok (.invokestatic 68, 3) := by decide +kernel
theorem dL_law_58 : decode cL_law 58 = .ok (.iadd, 1) := by decide +kernel
theorem dL_law_59 : decode cL_law 59 = .ok (.iastore, 1) := by decide +kernel
theorem dL_law_60 : decode cL_law 60 = .ok (.aload_n 1, 1) := by decide +kernel
theorem dL_law_61 : decode cL_law 61 = .ok (.aload_n 3, 1) := by decide +kernel
theorem dL_law_62 : decode cL_law 62 = .ok (.iload 7, 2) := by decide +kernel
theorem dL_law_64 : decode cL_law 64 = .ok (.iaload, 1) := by decide +kernel
theorem dL_law_65 : decode cL_law 65 = .ok (.invokevirtual 100, 3) := by decide +kernel
theorem dL_law_68 : decode cL_law 68 = .ok (.iload 7, 2) := by decide +kernel
theorem dL_law_70 : decode cL_law 70 = .ok (.if_icmp .eq 5, 3) := by decide +kernel
theorem dL_law_73 : decode cL_law 73 = .ok (.iconst 0, 1) := by decide +kernel
theorem dL_law_74 : decode cL_law 74 = .ok (.ireturn, 1) := by decide +kernel
theorem dL_law_75 : decode cL_law 75 = .ok (.iinc 7 1, 3) := by decide +kernel
theorem dL_law_78 : decode cL_law 78 = .ok (.goto (-40), 3) := by decide +kernel
theorem dL_law_81 : decode cL_law 81 = .ok (.aload_n 2, 1) := by decide +kernel
theorem dL_law_82 : decode cL_law 82 = .ok (.iconst 0, 1) := by decide +kernel
theorem dL_law_83 : decode cL_law 83 = .ok (.iconst 2, 1) := by decide +kernel
theorem dL_law_84 : decode cL_law 84 = .ok (.iastore, 1) := by decide +kernel
theorem dL_law_85 : decode cL_law 85 = .ok (.iconst 2, 1) := by decide +kernel
theorem dL_law_86 : decode cL_law 86 = .ok (.istore 7, 2) := by decide +kernel
theorem dL_law_88 : decode cL_law 88 = .ok (.iload 7, 2) := by decide +kernel
theorem dL_law_90 : decode cL_law 90 = .ok (.bipush 46, 2) := by decide +kernel
theorem dL_law_92 : decode cL_law 92 = .ok (.if_icmp .ge 177, 3) := by decide +kernel
theorem dL_law_95 : decode cL_law 95 = .ok (.aload_n 0, 1) := by decide +kernel
theorem dL_law_96 : decode cL_law 96 = .ok (.iload 7, 2) := by decide +kernel
theorem dL_law_98 : decode cL_law 98 = .ok (.invokestatic 107, 3) := by decide +kernel
theorem dL_law_101 : decode cL_law 101 = .ok (.istore 8, 2) := by decide +kernel
theorem dL_law_103 : decode cL_law 103 = .ok (.iload 8, 2) := by decide +kernel
theorem dL_law_105 : decode cL_law 105 = .ok (.bipush 26, 2) := by decide +kernel
theorem dL_law_107 : decode cL_law 107 = .ok (.ishr, 1) := by decide +kernel
theorem dL_law_108 : decode cL_law 108 = .ok (.bipush 9, 2) := by decide +kernel
theorem dL_law_110 : decode cL_law 110 = .ok (.invokestatic 68, 3) := by decide +kernel
theorem dL_law_113 : decode cL_law 113 = .ok (.tableswitch 78 0 3 #[31, 47, 63, 63], 31) := by decide +kernel
theorem dL_law_144 : decode cL_law 144 = .ok (.aload_n 1, 1) := by decide +kernel
theorem dL_law_145 : decode cL_law 145 = .ok (.aload_n 2, 1) := by decide +kernel
theorem dL_law_146 : decode cL_law 146 = .ok (.aload 4, 2) := by decide +kernel
theorem dL_law_148 : decode cL_law 148 = .ok (.aload 6, 2) := by decide +kernel
theorem dL_law_150 : decode cL_law 150 = .ok (.iload 8, 2) := by decide +kernel
theorem dL_law_152 : decode cL_law 152 = .ok (.invokestatic 111, 3) := by decide +kernel
theorem dL_law_155 : decode cL_law 155 = .ok (.istore 9, 2) := by decide +kernel
theorem dL_law_157 : decode cL_law 157 = .ok (.goto 58, 3) := by decide +kernel
theorem dL_law_160 : decode cL_law 160 = .ok (.aload_n 1, 1) := by decide +kernel
theorem dL_law_161 : decode cL_law 161 = .ok (.aload_n 2, 1) := by decide +kernel
theorem dL_law_162 : decode cL_law 162 = .ok (.aload 4, 2) := by decide +kernel
theorem dL_law_164 : decode cL_law 164 = .ok (.aload 6, 2) := by decide +kernel
theorem dL_law_166 : decode cL_law 166 = .ok (.iload 8, 2) := by decide +kernel
theorem dL_law_168 : decode cL_law 168 = .ok (.invokestatic 115, 3) := by decide +kernel
theorem dL_law_171 : decode cL_law 171 = .ok (.istore 9, 2) := by decide +kernel
theorem dL_law_173 : decode cL_law 173 = .ok (.goto 42, 3) := by decide +kernel
theorem dL_law_176 : decode cL_law 176 = .ok (.aload_n 1, 1) := by decide +kernel
theorem dL_law_177 : decode cL_law 177 = .ok (.aload_n 2, 1) := by decide +kernel
theorem dL_law_178 : decode cL_law 178 = .ok (.aload_n 3, 1) := by decide +kernel
theorem dL_law_179 : decode cL_law 179 = .ok (.aload 6, 2) := by decide +kernel
theorem dL_law_181 : decode cL_law 181 = .ok (.iload 8, 2) := by decide +kernel
theorem dL_law_183 : decode cL_law 183 = .ok (.invokestatic 118, 3) := by decide +kernel
theorem dL_law_186 : decode cL_law 186 = .ok (.istore 9, 2) := by decide +kernel
theorem dL_law_188 : decode cL_law 188 = .ok (.goto 27, 3) := by decide +kernel
theorem dL_law_191 : decode cL_law 191 = .ok (.aload_n 1, 1) := by decide +kernel
theorem dL_law_192 : decode cL_law 192 = .ok (.aload_n 2, 1) := by decide +kernel
theorem dL_law_193 : decode cL_law 193 = .ok (.aload 4, 2) := by decide +kernel
theorem dL_law_195 : decode cL_law 195 = .ok (.aload 5, 2) := by decide +kernel
theorem dL_law_197 : decode cL_law 197 = .ok (.aload 6, 2) := by decide +kernel
theorem dL_law_199 : decode cL_law 199 = .ok (.iload 8, 2) := by decide +kernel
theorem dL_law_201 : decode cL_law 201 = .ok (.aload_n 0, 1) := by decide +kernel
theorem dL_law_202 : decode cL_law 202 = .ok (.bipush 46, 2) := by decide +kernel
theorem dL_law_204 : decode cL_law 204 = .ok (.iload 7, 2) := by decide +kernel
theorem dL_law_206 : decode cL_law 206 = .ok (.iadd, 1) := by decide +kernel
theorem dL_law_207 : decode cL_law 207 = .ok (.invokestatic 107, 3) := by decide +kernel
theorem dL_law_210 : decode cL_law 210 = .ok (.invokestatic 121, 3) := by decide +kernel
theorem dL_law_213 : decode cL_law 213 = .ok (.istore 9, 2) := by decide +kernel
theorem dL_law_215 : decode cL_law 215 = .ok (.iload 9, 2) := by decide +kernel
theorem dL_law_217 : decode cL_law 217 = .ok (.ifCond .eq 44, 3) := by decide +kernel
theorem dL_law_220 : decode cL_law 220 = .ok (.aload_n 1, 1) := by decide +kernel
theorem dL_law_221 : decode cL_law 221 = .ok (.aload_n 2, 1) := by decide +kernel
theorem dL_law_222 : decode cL_law 222 = .ok (.aload_n 3, 1) := by decide +kernel
theorem dL_law_223 : decode cL_law 223 = .ok (.aload 4, 2) := by decide +kernel
theorem dL_law_225 : decode cL_law 225 = .ok (.aload 5, 2) := by decide +kernel
theorem dL_law_227 : decode cL_law 227 = .ok (.aload 6, 2) := by decide +kernel
theorem dL_law_229 : decode cL_law 229 = .ok (.invokestatic 125, 3) := by decide +kernel
theorem dL_law_232 : decode cL_law 232 = .ok (.ifCond .eq 29, 3) := by decide +kernel
theorem dL_law_235 : decode cL_law 235 = .ok (.aload_n 1, 1) := by decide +kernel
theorem dL_law_236 : decode cL_law 236 = .ok (.aload_n 2, 1) := by decide +kernel
theorem dL_law_237 : decode cL_law 237 = .ok (.aload_n 3, 1) := by decide +kernel
theorem dL_law_238 : decode cL_law 238 = .ok (.aload 4, 2) := by decide +kernel
theorem dL_law_240 : decode cL_law 240 = .ok (.aload 5, 2) := by decide +kernel
theorem dL_law_242 : decode cL_law 242 = .ok (.aload 6, 2) := by decide +kernel
theorem dL_law_244 : decode cL_law 244 = .ok (.invokestatic 129, 3) := by decide +kernel
theorem dL_law_247 : decode cL_law 247 = .ok (.ifCond .eq 14, 3) := by decide +kernel
theorem dL_law_250 : decode cL_law 250 = .ok (.aload_n 1, 1) := by decide +kernel
theorem dL_law_251 : decode cL_law 251 = .ok (.aload_n 2, 1) := by decide +kernel
theorem dL_law_252 : decode cL_law 252 = .ok (.aload_n 3, 1) := by decide +kernel
theorem dL_law_253 : decode cL_law 253 = .ok (.aload 4, 2) := by decide +kernel
theorem dL_law_255 : decode cL_law 255 = .ok (.invokestatic 132, 3) := by decide +kernel
theorem dL_law_258 : decode cL_law 258 = .ok (.ifCond .ne 5, 3) := by decide +kernel
theorem dL_law_261 : decode cL_law 261 = .ok (.iconst 0, 1) := by decide +kernel
theorem dL_law_262 : decode cL_law 262 = .ok (.ireturn, 1) := by decide +kernel
theorem dL_law_263 : decode cL_law 263 = .ok (.iinc 7 1, 3) := by decide +kernel
theorem dL_law_266 : decode cL_law 266 = .ok (.goto (-178), 3) := by decide +kernel
theorem dL_law_269 : decode cL_law 269 = .ok (.iconst 1, 1) := by decide +kernel
theorem dL_law_270 : decode cL_law 270 = .ok (.ireturn, 1) := by decide +kernel
