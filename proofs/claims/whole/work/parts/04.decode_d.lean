-- decode rows (written by program)
theorem nD_MOD_init_0 : decode nC_MOD_init 0 = .ok (.aload_n 0, 1) := by decide +kernel
theorem nD_MOD_init_1 : decode nC_MOD_init 1 = .ok (.invokespecial 1, 3) := by decide +kernel
theorem nD_MOD_init_4 : decode nC_MOD_init 4 = .ok (.aload_n 0, 1) := by decide +kernel
theorem nD_MOD_init_5 : decode nC_MOD_init 5 = .ok (.bipush 30, 2) := by decide +kernel
theorem nD_MOD_init_7 : decode nC_MOD_init 7 = .ok (.newarray .int, 2) := by decide +kernel
theorem nD_MOD_init_9 : decode nC_MOD_init 9 = .ok (.putfield 7, 3) := by decide +kernel
theorem nD_MOD_init_12 : decode nC_MOD_init 12 = .ok (.aload_n 0, 1) := by decide +kernel
theorem nD_MOD_init_13 : decode nC_MOD_init 13 = .ok (.bipush 30, 2) := by decide +kernel
theorem nD_MOD_init_15 : decode nC_MOD_init 15 = .ok (.newarray .int, 2) := by decide +kernel
theorem nD_MOD_init_17 : decode nC_MOD_init 17 = .ok (.putfield 13, 3) := by decide +kernel
theorem nD_MOD_init_20 : decode nC_MOD_init 20 = .ok (.aload_n 0, 1) := by decide +kernel
theorem nD_MOD_init_21 : decode nC_MOD_init 21 = .ok (.bipush 30, 2) := by decide +kernel
theorem nD_MOD_init_23 : decode nC_MOD_init 23 = .ok (.newarray .int, 2) := by decide +kernel
theorem nD_MOD_init_25 : decode nC_MOD_init 25 = .ok (.putfield 16, 3) := by decide +kernel
theorem nD_MOD_init_28 : decode nC_MOD_init 28 = .ok (.aload_n 0, 1) := by decide +kernel
theorem nD_MOD_init_29 : decode nC_MOD_init 29 = .ok (.bipush 30, 2) := by decide +kernel
theorem nD_MOD_init_31 : decode nC_MOD_init 31 = .ok (.newarray .int, 2) := by decide +kernel
theorem nD_MOD_init_33 : decode nC_MOD_init 33 = .ok (.putfield 19, 3) := by decide +kernel
theorem nD_MOD_init_36 : decode nC_MOD_init 36 = .ok (.aload_n 0, 1) := by decide +kernel
theorem nD_MOD_init_37 : decode nC_MOD_init 37 = .ok (.bipush 30, 2) := by decide +kernel
theorem nD_MOD_init_39 : decode nC_MOD_init 39 = .ok (.newarray .int, 2) := by decide +kernel
theorem nD_MOD_init_41 : decode nC_MOD_init 41 = .ok (.putfield 22, 3) := by decide +kernel
theorem nD_MOD_init_44 : decode nC_MOD_init 44 = .ok (.aload_n 0, 1) := by decide +kernel
theorem nD_MOD_init_45 : decode nC_MOD_init 45 = .ok (.iconst 2, 1) := by decide +kernel
theorem nD_MOD_init_46 : decode nC_MOD_init 46 = .ok (.putfield 25, 3) := by decide +kernel
theorem nD_MOD_init_49 : decode nC_MOD_init 49 = .ok (.aload_n 0, 1) := by decide +kernel
theorem nD_MOD_init_50 : decode nC_MOD_init 50 = .ok (.iconst 5, 1) := by decide +kernel
theorem nD_MOD_init_51 : decode nC_MOD_init 51 = .ok (.newarray .int, 2) := by decide +kernel
theorem nD_MOD_init_53 : decode nC_MOD_init 53 = .ok (.putfield 29, 3) := by decide +kernel
theorem nD_MOD_init_56 : decode nC_MOD_init 56 = .ok (.aload_n 0, 1) := by decide +kernel
theorem nD_MOD_init_57 : decode nC_MOD_init 57 = .ok (.iconst 5, 1) := by decide +kernel
theorem nD_MOD_init_58 : decode nC_MOD_init 58 = .ok (.newarray .int, 2) := by decide +kernel
theorem nD_MOD_init_60 : decode nC_MOD_init 60 = .ok (.putfield 32, 3) := by decide +kernel
theorem nD_MOD_init_63 : decode nC_MOD_init 63 = .ok (.aload_n 0, 1) := by decide +kernel
theorem nD_MOD_init_64 : decode nC_MOD_init 64 = .ok (.iconst 4, 1) := by decide +kernel
theorem nD_MOD_init_65 : decode nC_MOD_init 65 = .ok (.newarray .int, 2) := by decide +kernel
theorem nD_MOD_init_67 : decode nC_MOD_init 67 = .ok (.putfield 35, 3) := by decide +kernel
theorem nD_MOD_init_70 : decode nC_MOD_init 70 = .ok (.aload_n 0, 1) := by decide +kernel
theorem nD_MOD_init_71 : decode nC_MOD_init 71 = .ok (.bipush 32, 2) := by decide +kernel
theorem nD_MOD_init_73 : decode nC_MOD_init 73 = .ok (.newarray .int, 2) := by decide +kernel
theorem nD_MOD_init_75 : decode nC_MOD_init 75 = .ok (.putfield 38, 3) := by decide +kernel
theorem nD_MOD_init_78 : decode nC_MOD_init 78 = .ok (.aload_n 0, 1) := by decide +kernel
theorem nD_MOD_init_79 : decode nC_MOD_init 79 = .ok (.bipush 13, 2) := by decide +kernel
theorem nD_MOD_init_81 : decode nC_MOD_init 81 = .ok (.newarray .int, 2) := by decide +kernel
theorem nD_MOD_init_83 : decode nC_MOD_init 83 = .ok (.putfield 41, 3) := by decide +kernel
theorem nD_MOD_init_86 : decode nC_MOD_init 86 = .ok (.aload_n 0, 1) := by decide +kernel
theorem nD_MOD_init_87 : decode nC_MOD_init 87 = .ok (.bipush 13, 2) := by decide +kernel
theorem nD_MOD_init_89 : decode nC_MOD_init 89 = .ok (.newarray .int, 2) := by decide +kernel
theorem nD_MOD_init_91 : decode nC_MOD_init 91 = .ok (.putfield 44, 3) := by decide +kernel
theorem nD_MOD_init_94 : decode nC_MOD_init 94 = .ok (.aload_n 0, 1) := by decide +kernel
theorem nD_MOD_init_95 : decode nC_MOD_init 95 = .ok (.bipush 13, 2) := by decide +kernel
theorem nD_MOD_init_97 : decode nC_MOD_init 97 = .ok (.newarray .int, 2) := by decide +kernel
theorem nD_MOD_init_99 : decode nC_MOD_init 99 = .ok (.putfield 47, 3) := by decide +kernel
theorem nD_MOD_init_102 : decode nC_MOD_init 102 = .ok (.aload_n 0, 1) := by decide +kernel
theorem nD_MOD_init_103 : decode nC_MOD_init 103 = .ok (.bipush 13, 2) := by decide +kernel
theorem nD_MOD_init_105 : decode nC_MOD_init 105 = .ok (.newarray .int, 2) := by decide +kernel
theorem nD_MOD_init_107 : decode nC_MOD_init 107 = .ok (.putfield 50, 3) := by decide +kernel
theorem nD_MOD_init_110 : decode nC_MOD_init 110 = .ok (.aload_n 0, 1) := by decide +kernel
theorem nD_MOD_init_111 : decode nC_MOD_init 111 = .ok (.bipush 13, 2) := by decide +kernel
theorem nD_MOD_init_113 : decode nC_MOD_init 113 = .ok (.newarray .int, 2) := by decide +kernel
theorem nD_MOD_init_115 : decode nC_MOD_init 115 = .ok (.putfield 53, 3) := by decide +kernel
theorem nD_MOD_init_118 : decode nC_MOD_init 118 = .ok (.aload_n 0, 1) := by decide +kernel
theorem nD_MOD_init_119 : decode nC_MOD_init 119 = .ok (.bipush 26, 2) := by decide +kernel
theorem nD_MOD_init_121 : decode nC_MOD_init 121 = .ok (.newarray .int, 2) := by decide +kernel
theorem nD_MOD_init_123 : decode nC_MOD_init 123 = .ok (.putfield 56, 3) := by decide +kernel
theorem nD_MOD_init_126 : decode nC_MOD_init 126 = .ok (.aload_n 0, 1) := by decide +kernel
theorem nD_MOD_init_127 : decode nC_MOD_init 127 = .ok (.bipush 26, 2) := by decide +kernel
theorem nD_MOD_init_129 : decode nC_MOD_init 129 = .ok (.newarray .int, 2) := by decide +kernel
theorem nD_MOD_init_131 : decode nC_MOD_init 131 = .ok (.putfield 59, 3) := by decide +kernel
theorem nD_MOD_init_134 : decode nC_MOD_init 134 = .ok (.aload_n 0, 1) := by decide +kernel
theorem nD_MOD_init_135 : decode nC_MOD_init 135 = .ok (.bipush 13, 2) := by decide +kernel
theorem nD_MOD_init_137 : decode nC_MOD_init 137 = .ok (.newarray .int, 2) := by decide +kernel
theorem nD_MOD_init_139 : decode nC_MOD_init 139 = .ok (.putfield 62, 3) := by decide +kernel
theorem nD_MOD_init_142 : decode nC_MOD_init 142 = .ok (.aload_n 0, 1) := by decide +kernel
theorem nD_MOD_init_143 : decode nC_MOD_init 143 = .ok (.bipush 13, 2) := by decide +kernel
theorem nD_MOD_init_145 : decode nC_MOD_init 145 = .ok (.newarray .int, 2) := by decide +kernel
theorem nD_MOD_init_147 : decode nC_MOD_init 147 = .ok (.putfield 65, 3) := by decide +kernel
theorem nD_MOD_init_150 : decode nC_MOD_init 150 = .ok (.aload_n 0, 1) := by decide +kernel
theorem nD_MOD_init_151 : decode nC_MOD_init 151 = .ok (.bipush 8, 2) := by decide +kernel
theorem nD_MOD_init_153 : decode nC_MOD_init 153 = .ok (.newarray .boolean, 2) := by decide +kernel
theorem nD_MOD_init_155 : decode nC_MOD_init 155 = .ok (.putfield 68, 3) := by decide +kernel
theorem nD_MOD_init_158 : decode nC_MOD_init 158 = .ok (.aload_n 0, 1) := by decide +kernel
theorem nD_MOD_init_159 : decode nC_MOD_init 159 = .ok (.iload_n 1, 1) := by decide +kernel
theorem nD_MOD_init_160 : decode nC_MOD_init 160 = .ok (.iconst 1, 1) := by decide +kernel
theorem nD_MOD_init_161 : decode nC_MOD_init 161 = .ok (.if_icmp .ge 7, 3) := by decide +kernel
theorem nD_MOD_init_164 : decode nC_MOD_init 164 = .ok (.iconst 1, 1) := by decide +kernel
theorem nD_MOD_init_165 : decode nC_MOD_init 165 = .ok (.goto 15, 3) := by decide +kernel
theorem nD_MOD_init_168 : decode nC_MOD_init 168 = .ok (.iload_n 1, 1) := by decide +kernel
theorem nD_MOD_init_169 : decode nC_MOD_init 169 = .ok (.bipush 8, 2) := by decide +kernel
theorem nD_MOD_init_171 : decode nC_MOD_init 171 = .ok (.if_icmp .le 8, 3) := by decide +kernel
theorem nD_MOD_init_174 : decode nC_MOD_init 174 = .ok (.bipush 8, 2) := by decide +kernel
theorem nD_MOD_init_176 : decode nC_MOD_init 176 = .ok (.goto 4, 3) := by decide +kernel
theorem nD_MOD_init_179 : decode nC_MOD_init 179 = .ok (.iload_n 1, 1) := by decide +kernel
theorem nD_MOD_init_180 : decode nC_MOD_init 180 = .ok (.putfield 72, 3) := by decide +kernel
theorem nD_MOD_init_183 : decode nC_MOD_init 183 = .ok (.aload_n 0, 1) := by decide +kernel
theorem nD_MOD_init_184 : decode nC_MOD_init 184 = .ok (.iload_n 2, 1) := by decide +kernel
theorem nD_MOD_init_185 : decode nC_MOD_init 185 = .ok (.iconst 1, 1) := by decide +kernel
theorem nD_MOD_init_186 : decode nC_MOD_init 186 = .ok (.if_icmp .ge 7, 3) := by decide +kernel
theorem nD_MOD_init_189 : decode nC_MOD_init 189 = .ok (.iconst 1, 1) := by decide +kernel
theorem nD_MOD_init_190 : decode nC_MOD_init 190 = .ok (.goto 15, 3) := by decide +kernel
theorem nD_MOD_init_193 : decode nC_MOD_init 193 = .ok (.iload_n 2, 1) := by decide +kernel
theorem nD_MOD_init_194 : decode nC_MOD_init 194 = .ok (.bipush 8, 2) := by decide +kernel
theorem nD_MOD_init_196 : decode nC_MOD_init 196 = .ok (.if_icmp .le 8, 3) := by decide +kernel
theorem nD_MOD_init_199 : decode nC_MOD_init 199 = .ok (.bipush 8, 2) := by decide +kernel
theorem nD_MOD_init_201 : decode nC_MOD_init 201 = .ok (.goto 4, 3) := by decide +kernel
theorem nD_MOD_init_204 : decode nC_MOD_init 204 = .ok (.iload_n 2, 1) := by decide +kernel
theorem nD_MOD_init_205 : decode nC_MOD_init 205 = .ok (.putfield 75, 3) := by decide +kernel
theorem nD_MOD_init_208 : decode nC_MOD_init 208 = .ok (.return_, 1) := by decide +kernel
theorem nD_MOD_thrown_0 : decode nC_MOD_thrown 0 = .ok (.aload_n 0, 1) := by decide +kernel
theorem nD_MOD_thrown_1 : decode nC_MOD_thrown 1 = .ok (.getfield 78, 3) := by decide +kernel
theorem nD_MOD_thrown_4 : decode nC_MOD_thrown 4 = .ok (.ireturn, 1) := by decide +kernel
theorem nD_MOD_minus_0 : decode nC_MOD_minus 0 = .ok (.iload_n 0, 1) := by decide +kernel
theorem nD_MOD_minus_1 : decode nC_MOD_minus 1 = .ok (.ifCond .ge 7, 3) := by decide +kernel
theorem nD_MOD_minus_4 : decode nC_MOD_minus 4 = .ok (.iconst 1, 1) := by decide +kernel
theorem nD_MOD_minus_5 : decode nC_MOD_minus 5 = .ok (.goto 4, 3) := by decide +kernel
theorem nD_MOD_minus_8 : decode nC_MOD_minus 8 = .ok (.iconst 0, 1) := by decide +kernel
theorem nD_MOD_minus_9 : decode nC_MOD_minus 9 = .ok (.ireturn, 1) := by decide +kernel
theorem nD_MOD_charOf_0 : decode nC_MOD_charOf 0 = .ok (.iload_n 0, 1) := by decide +kernel
theorem nD_MOD_charOf_1 : decode nC_MOD_charOf 1 = .ok (.bipush 24, 2) := by decide +kernel
theorem nD_MOD_charOf_3 : decode nC_MOD_charOf 3 = .ok (.ishr, 1) := by decide +kernel
theorem nD_MOD_charOf_4 : decode nC_MOD_charOf 4 = .ok (.bipush 127, 2) := by decide +kernel
theorem nD_MOD_charOf_6 : decode nC_MOD_charOf 6 = .ok (.iand, 1) := by decide +kernel
theorem nD_MOD_charOf_7 : decode nC_MOD_charOf 7 = .ok (.ireturn, 1) := by decide +kernel
theorem nD_MOD_partOf_0 : decode nC_MOD_partOf 0 = .ok (.iload_n 0, 1) := by decide +kernel
theorem nD_MOD_partOf_1 : decode nC_MOD_partOf 1 = .ok (.ldc 81, 2) := by decide +kernel
theorem nD_MOD_partOf_3 : decode nC_MOD_partOf 3 = .ok (.iand, 1) := by decide +kernel
theorem nD_MOD_partOf_4 : decode nC_MOD_partOf 4 = .ok (.i2l, 1) := by decide +kernel
theorem nD_MOD_partOf_5 : decode nC_MOD_partOf 5 = .ok (.lreturn, 1) := by decide +kernel
theorem nD_MOD_finish_0 : decode nC_MOD_finish 0 = .ok (.lload_n 3, 1) := by decide +kernel
theorem nD_MOD_finish_1 : decode nC_MOD_finish 1 = .ok (.lconst 0, 1) := by decide +kernel
theorem nD_MOD_finish_2 : decode nC_MOD_finish 2 = .ok (.lcmp, 1) := by decide +kernel
theorem nD_MOD_finish_3 : decode nC_MOD_finish 3 = .ok (.ifCond .ne 5, 3) := by decide +kernel
theorem nD_MOD_finish_6 : decode nC_MOD_finish 6 = .ok (.iconst 0, 1) := by decide +kernel
theorem nD_MOD_finish_7 : decode nC_MOD_finish 7 = .ok (.ireturn, 1) := by decide +kernel
theorem nD_MOD_finish_8 : decode nC_MOD_finish 8 = .ok (.lload_n 3, 1) := by decide +kernel
theorem nD_MOD_finish_9 : decode nC_MOD_finish 9 = .ok (.lstore 5, 2) := by decide +kernel
theorem nD_MOD_finish_11 : decode nC_MOD_finish 11 = .ok (.iload_n 2, 1) := by decide +kernel
theorem nD_MOD_finish_12 : decode nC_MOD_finish 12 = .ok (.istore 7, 2) := by decide +kernel
theorem nD_MOD_finish_14 : decode nC_MOD_finish 14 = .ok (.lload 5, 2) := by decide +kernel
theorem nD_MOD_finish_16 : decode nC_MOD_finish 16 = .ok (.ldc2_w 82, 3) := by decide +kernel
theorem nD_MOD_finish_19 : decode nC_MOD_finish 19 = .ok (.lcmp, 1) := by decide +kernel
theorem nD_MOD_finish_20 : decode nC_MOD_finish 20 = .ok (.ifCond .ge 17, 3) := by decide +kernel
theorem nD_MOD_finish_23 : decode nC_MOD_finish 23 = .ok (.ldc2_w 84, 3) := by decide +kernel
theorem nD_MOD_finish_26 : decode nC_MOD_finish 26 = .ok (.lload 5, 2) := by decide +kernel
theorem nD_MOD_finish_28 : decode nC_MOD_finish 28 = .ok (.lmul, 1) := by decide +kernel
theorem nD_MOD_finish_29 : decode nC_MOD_finish 29 = .ok (.lstore 5, 2) := by decide +kernel
theorem nD_MOD_finish_31 : decode nC_MOD_finish 31 = .ok (.iinc 7 (-1), 3) := by decide +kernel
theorem nD_MOD_finish_34 : decode nC_MOD_finish 34 = .ok (.goto (-20), 3) := by decide +kernel
theorem nD_MOD_finish_37 : decode nC_MOD_finish 37 = .ok (.lload 5, 2) := by decide +kernel
theorem nD_MOD_finish_39 : decode nC_MOD_finish 39 = .ok (.ldc2_w 84, 3) := by decide +kernel
theorem nD_MOD_finish_42 : decode nC_MOD_finish 42 = .ok (.ldiv, 1) := by decide +kernel
theorem nD_MOD_finish_43 : decode nC_MOD_finish 43 = .ok (.lstore 5, 2) := by decide +kernel
theorem nD_MOD_finish_45 : decode nC_MOD_finish 45 = .ok (.iload 7, 2) := by decide +kernel
theorem nD_MOD_finish_47 : decode nC_MOD_finish 47 = .ok (.ifCond .ge 10, 3) := by decide +kernel
theorem nD_MOD_finish_50 : decode nC_MOD_finish 50 = .ok (.aload_n 0, 1) := by decide +kernel
theorem nD_MOD_finish_51 : decode nC_MOD_finish 51 = .ok (.iconst 2, 1) := by decide +kernel
theorem nD_MOD_finish_52 : decode nC_MOD_finish 52 = .ok (.putfield 86, 3) := by decide +kernel
theorem nD_MOD_finish_55 : decode nC_MOD_finish 55 = .ok (.iconst 0, 1) := by decide +kernel
theorem nD_MOD_finish_56 : decode nC_MOD_finish 56 = .ok (.ireturn, 1) := by decide +kernel
theorem nD_MOD_finish_57 : decode nC_MOD_finish 57 = .ok (.aload_n 0, 1) := by decide +kernel
theorem nD_MOD_finish_58 : decode nC_MOD_finish 58 = .ok (.iload 7, 2) := by decide +kernel
theorem nD_MOD_finish_60 : decode nC_MOD_finish 60 = .ok (.bipush 127, 2) := by decide +kernel
theorem nD_MOD_finish_62 : decode nC_MOD_finish 62 = .ok (.if_icmp .le 7, 3) := by decide +kernel
theorem nD_MOD_finish_65 : decode nC_MOD_finish 65 = .ok (.iconst 1, 1) := by decide +kernel
theorem nD_MOD_finish_66 : decode nC_MOD_finish 66 = .ok (.goto 4, 3) := by decide +kernel
theorem nD_MOD_finish_69 : decode nC_MOD_finish 69 = .ok (.iconst 0, 1) := by decide +kernel
theorem nD_MOD_finish_70 : decode nC_MOD_finish 70 = .ok (.putfield 86, 3) := by decide +kernel
theorem nD_MOD_finish_73 : decode nC_MOD_finish 73 = .ok (.iload 7, 2) := by decide +kernel
theorem nD_MOD_finish_75 : decode nC_MOD_finish 75 = .ok (.bipush 127, 2) := by decide +kernel
theorem nD_MOD_finish_77 : decode nC_MOD_finish 77 = .ok (.if_icmp .le 12, 3) := by decide +kernel
theorem nD_MOD_finish_80 : decode nC_MOD_finish 80 = .ok (.iload 7, 2) := by decide +kernel
theorem nD_MOD_finish_82 : decode nC_MOD_finish 82 = .ok (.sipush 128, 3) := by decide +kernel
theorem nD_MOD_finish_85 : decode nC_MOD_finish 85 = .ok (.isub, 1) := by decide +kernel
theorem nD_MOD_finish_86 : decode nC_MOD_finish 86 = .ok (.goto 5, 3) := by decide +kernel
theorem nD_MOD_finish_89 : decode nC_MOD_finish 89 = .ok (.iload 7, 2) := by decide +kernel
theorem nD_MOD_finish_91 : decode nC_MOD_finish 91 = .ok (.istore 7, 2) := by decide +kernel
theorem nD_MOD_finish_93 : decode nC_MOD_finish 93 = .ok (.iload 7, 2) := by decide +kernel
theorem nD_MOD_finish_95 : decode nC_MOD_finish 95 = .ok (.i2l, 1) := by decide +kernel
theorem nD_MOD_finish_96 : decode nC_MOD_finish 96 = .ok (.ldc2_w 82, 3) := by decide +kernel
theorem nD_MOD_finish_99 : decode nC_MOD_finish 99 = .ok (.lmul, 1) := by decide +kernel
theorem nD_MOD_finish_100 : decode nC_MOD_finish 100 = .ok (.lload 5, 2) := by decide +kernel
theorem nD_MOD_finish_102 : decode nC_MOD_finish 102 = .ok (.ladd, 1) := by decide +kernel
theorem nD_MOD_finish_103 : decode nC_MOD_finish 103 = .ok (.iload_n 1, 1) := by decide +kernel
theorem nD_MOD_finish_104 : decode nC_MOD_finish 104 = .ok (.ifCond .eq 9, 3) := by decide +kernel
theorem nD_MOD_finish_107 : decode nC_MOD_finish 107 = .ok (.ldc2_w 89, 3) := by decide +kernel
theorem nD_MOD_finish_110 : decode nC_MOD_finish 110 = .ok (.goto 4, 3) := by decide +kernel
theorem nD_MOD_finish_113 : decode nC_MOD_finish 113 = .ok (.lconst 0, 1) := by decide +kernel
theorem nD_MOD_finish_114 : decode nC_MOD_finish 114 = .ok (.ladd, 1) := by decide +kernel
theorem nD_MOD_finish_115 : decode nC_MOD_finish 115 = .ok (.lstore 8, 2) := by decide +kernel
theorem nD_MOD_finish_117 : decode nC_MOD_finish 117 = .ok (.lload 8, 2) := by decide +kernel
theorem nD_MOD_finish_119 : decode nC_MOD_finish 119 = .ok (.l2i, 1) := by decide +kernel
theorem nD_MOD_finish_120 : decode nC_MOD_finish 120 = .ok (.ireturn, 1) := by decide +kernel
theorem nD_MOD_align_0 : decode nC_MOD_align 0 = .ok (.iload_n 1, 1) := by decide +kernel
theorem nD_MOD_align_1 : decode nC_MOD_align 1 = .ok (.invokestatic 91, 3) := by decide +kernel
theorem nD_MOD_align_4 : decode nC_MOD_align 4 = .ok (.iload_n 2, 1) := by decide +kernel
theorem nD_MOD_align_5 : decode nC_MOD_align 5 = .ok (.invokestatic 91, 3) := by decide +kernel
theorem nD_MOD_align_8 : decode nC_MOD_align 8 = .ok (.if_icmp .lt 7, 3) := by decide +kernel
theorem nD_MOD_align_11 : decode nC_MOD_align 11 = .ok (.iconst 1, 1) := by decide +kernel
theorem nD_MOD_align_12 : decode nC_MOD_align 12 = .ok (.goto 4, 3) := by decide +kernel
theorem nD_MOD_align_15 : decode nC_MOD_align 15 = .ok (.iconst 0, 1) := by decide +kernel
theorem nD_MOD_align_16 : decode nC_MOD_align 16 = .ok (.istore_n 3, 1) := by decide +kernel
theorem nD_MOD_align_17 : decode nC_MOD_align 17 = .ok (.iload_n 3, 1) := by decide +kernel
theorem nD_MOD_align_18 : decode nC_MOD_align 18 = .ok (.ifCond .eq 7, 3) := by decide +kernel
theorem nD_MOD_align_21 : decode nC_MOD_align 21 = .ok (.iload_n 1, 1) := by decide +kernel
theorem nD_MOD_align_22 : decode nC_MOD_align 22 = .ok (.goto 4, 3) := by decide +kernel
theorem nD_MOD_align_25 : decode nC_MOD_align 25 = .ok (.iload_n 2, 1) := by decide +kernel
theorem nD_MOD_align_26 : decode nC_MOD_align 26 = .ok (.istore 4, 2) := by decide +kernel
theorem nD_MOD_align_28 : decode nC_MOD_align 28 = .ok (.iload_n 3, 1) := by decide +kernel
theorem nD_MOD_align_29 : decode nC_MOD_align 29 = .ok (.ifCond .eq 7, 3) := by decide +kernel
theorem nD_MOD_align_32 : decode nC_MOD_align 32 = .ok (.iload_n 2, 1) := by decide +kernel
theorem nD_MOD_align_33 : decode nC_MOD_align 33 = .ok (.goto 4, 3) := by decide +kernel
theorem nD_MOD_align_36 : decode nC_MOD_align 36 = .ok (.iload_n 1, 1) := by decide +kernel
theorem nD_MOD_align_37 : decode nC_MOD_align 37 = .ok (.istore 5, 2) := by decide +kernel
theorem nD_MOD_align_39 : decode nC_MOD_align 39 = .ok (.iload 4, 2) := by decide +kernel
theorem nD_MOD_align_41 : decode nC_MOD_align 41 = .ok (.invokestatic 91, 3) := by decide +kernel
theorem nD_MOD_align_44 : decode nC_MOD_align 44 = .ok (.iload 5, 2) := by decide +kernel
theorem nD_MOD_align_46 : decode nC_MOD_align 46 = .ok (.invokestatic 91, 3) := by decide +kernel
theorem nD_MOD_align_49 : decode nC_MOD_align 49 = .ok (.isub, 1) := by decide +kernel
theorem nD_MOD_align_50 : decode nC_MOD_align 50 = .ok (.istore 6, 2) := by decide +kernel
theorem nD_MOD_align_52 : decode nC_MOD_align 52 = .ok (.ldc2_w 84, 3) := by decide +kernel
theorem nD_MOD_align_55 : decode nC_MOD_align 55 = .ok (.iload 5, 2) := by decide +kernel
theorem nD_MOD_align_57 : decode nC_MOD_align 57 = .ok (.invokestatic 95, 3) := by decide +kernel
theorem nD_MOD_align_60 : decode nC_MOD_align 60 = .ok (.lmul, 1) := by decide +kernel
theorem nD_MOD_align_61 : decode nC_MOD_align 61 = .ok (.lstore 7, 2) := by decide +kernel
theorem nD_MOD_align_63 : decode nC_MOD_align 63 = .ok (.iconst 0, 1) := by decide +kernel
theorem nD_MOD_align_64 : decode nC_MOD_align 64 = .ok (.istore 9, 2) := by decide +kernel
theorem nD_MOD_align_66 : decode nC_MOD_align 66 = .ok (.iload 9, 2) := by decide +kernel
theorem nD_MOD_align_68 : decode nC_MOD_align 68 = .ok (.iload 6, 2) := by decide +kernel
theorem nD_MOD_align_70 : decode nC_MOD_align 70 = .ok (.if_icmp .ge 24, 3) := by decide +kernel
theorem nD_MOD_align_73 : decode nC_MOD_align 73 = .ok (.iload 9, 2) := by decide +kernel
theorem nD_MOD_align_75 : decode nC_MOD_align 75 = .ok (.bipush 8, 2) := by decide +kernel
theorem nD_MOD_align_77 : decode nC_MOD_align 77 = .ok (.if_icmp .ge 17, 3) := by decide +kernel
theorem nD_MOD_align_80 : decode nC_MOD_align 80 = .ok (.lload 7, 2) := by decide +kernel
theorem nD_MOD_align_82 : decode nC_MOD_align 82 = .ok (.ldc2_w 84, 3) := by decide +kernel
theorem nD_MOD_align_85 : decode nC_MOD_align 85 = .ok (.ldiv, 1) := by decide +kernel
theorem nD_MOD_align_86 : decode nC_MOD_align 86 = .ok (.lstore 7, 2) := by decide +kernel
theorem nD_MOD_align_88 : decode nC_MOD_align 88 = .ok (.iinc 9 1, 3) := by decide +kernel
theorem nD_MOD_align_91 : decode nC_MOD_align 91 = .ok (.goto (-25), 3) := by decide +kernel
theorem nD_MOD_align_94 : decode nC_MOD_align 94 = .ok (.iload 6, 2) := by decide +kernel
theorem nD_MOD_align_96 : decode nC_MOD_align 96 = .ok (.bipush 7, 2) := by decide +kernel
theorem nD_MOD_align_98 : decode nC_MOD_align 98 = .ok (.if_icmp .le 7, 3) := by decide +kernel
theorem nD_MOD_align_101 : decode nC_MOD_align 101 = .ok (.lconst 0, 1) := by decide +kernel
theorem nD_MOD_align_102 : decode nC_MOD_align 102 = .ok (.goto 5, 3) := by decide +kernel
theorem nD_MOD_align_105 : decode nC_MOD_align 105 = .ok (.lload 7, 2) := by decide +kernel
theorem nD_MOD_align_107 : decode nC_MOD_align 107 = .ok (.lstore 7, 2) := by decide +kernel
theorem nD_MOD_align_109 : decode nC_MOD_align 109 = .ok (.ldc2_w 84, 3) := by decide +kernel
theorem nD_MOD_align_112 : decode nC_MOD_align 112 = .ok (.iload 4, 2) := by decide +kernel
theorem nD_MOD_align_114 : decode nC_MOD_align 114 = .ok (.invokestatic 95, 3) := by decide +kernel
theorem nD_MOD_align_117 : decode nC_MOD_align 117 = .ok (.lmul, 1) := by decide +kernel
theorem nD_MOD_align_118 : decode nC_MOD_align 118 = .ok (.lstore 9, 2) := by decide +kernel
theorem nD_MOD_align_120 : decode nC_MOD_align 120 = .ok (.aload_n 0, 1) := by decide +kernel
theorem nD_MOD_align_121 : decode nC_MOD_align 121 = .ok (.iload 4, 2) := by decide +kernel
theorem nD_MOD_align_123 : decode nC_MOD_align 123 = .ok (.invokestatic 99, 3) := by decide +kernel
theorem nD_MOD_align_126 : decode nC_MOD_align 126 = .ok (.ifCond .eq 9, 3) := by decide +kernel
theorem nD_MOD_align_129 : decode nC_MOD_align 129 = .ok (.lload 9, 2) := by decide +kernel
theorem nD_MOD_align_131 : decode nC_MOD_align 131 = .ok (.lneg, 1) := by decide +kernel
theorem nD_MOD_align_132 : decode nC_MOD_align 132 = .ok (.goto 5, 3) := by decide +kernel
theorem nD_MOD_align_135 : decode nC_MOD_align 135 = .ok (.lload 9, 2) := by decide +kernel
theorem nD_MOD_align_137 : decode nC_MOD_align 137 = .ok (.iload 5, 2) := by decide +kernel
theorem nD_MOD_align_139 : decode nC_MOD_align 139 = .ok (.invokestatic 99, 3) := by decide +kernel
theorem nD_MOD_align_142 : decode nC_MOD_align 142 = .ok (.ifCond .eq 9, 3) := by decide +kernel
theorem nD_MOD_align_145 : decode nC_MOD_align 145 = .ok (.lload 7, 2) := by decide +kernel
theorem nD_MOD_align_147 : decode nC_MOD_align 147 = .ok (.lneg, 1) := by decide +kernel
theorem nD_MOD_align_148 : decode nC_MOD_align 148 = .ok (.goto 5, 3) := by decide +kernel
theorem nD_MOD_align_151 : decode nC_MOD_align 151 = .ok (.lload 7, 2) := by decide +kernel
theorem nD_MOD_align_153 : decode nC_MOD_align 153 = .ok (.ladd, 1) := by decide +kernel
theorem nD_MOD_align_154 : decode nC_MOD_align 154 = .ok (.putfield 103, 3) := by decide +kernel
theorem nD_MOD_align_157 : decode nC_MOD_align 157 = .ok (.iload 4, 2) := by decide +kernel
theorem nD_MOD_align_159 : decode nC_MOD_align 159 = .ok (.invokestatic 91, 3) := by decide +kernel
theorem nD_MOD_align_162 : decode nC_MOD_align 162 = .ok (.ireturn, 1) := by decide +kernel
theorem nD_MOD_sum_0 : decode nC_MOD_sum 0 = .ok (.aload_n 0, 1) := by decide +kernel
theorem nD_MOD_sum_1 : decode nC_MOD_sum 1 = .ok (.iload_n 1, 1) := by decide +kernel
theorem nD_MOD_sum_2 : decode nC_MOD_sum 2 = .ok (.iload_n 2, 1) := by decide +kernel
theorem nD_MOD_sum_3 : decode nC_MOD_sum 3 = .ok (.invokevirtual 107, 3) := by decide +kernel
theorem nD_MOD_sum_6 : decode nC_MOD_sum 6 = .ok (.istore_n 3, 1) := by decide +kernel
theorem nD_MOD_sum_7 : decode nC_MOD_sum 7 = .ok (.aload_n 0, 1) := by decide +kernel
theorem nD_MOD_sum_8 : decode nC_MOD_sum 8 = .ok (.getfield 103, 3) := by decide +kernel
theorem nD_MOD_sum_11 : decode nC_MOD_sum 11 = .ok (.lconst 0, 1) := by decide +kernel
theorem nD_MOD_sum_12 : decode nC_MOD_sum 12 = .ok (.lcmp, 1) := by decide +kernel
theorem nD_MOD_sum_13 : decode nC_MOD_sum 13 = .ok (.ifCond .ge 11, 3) := by decide +kernel
theorem nD_MOD_sum_16 : decode nC_MOD_sum 16 = .ok (.aload_n 0, 1) := by decide +kernel
theorem nD_MOD_sum_17 : decode nC_MOD_sum 17 = .ok (.getfield 103, 3) := by decide +kernel
theorem nD_MOD_sum_20 : decode nC_MOD_sum 20 = .ok (.lneg, 1) := by decide +kernel
theorem nD_MOD_sum_21 : decode nC_MOD_sum 21 = .ok (.goto 7, 3) := by decide +kernel
theorem nD_MOD_sum_24 : decode nC_MOD_sum 24 = .ok (.aload_n 0, 1) := by decide +kernel
theorem nD_MOD_sum_25 : decode nC_MOD_sum 25 = .ok (.getfield 103, 3) := by decide +kernel
theorem nD_MOD_sum_28 : decode nC_MOD_sum 28 = .ok (.lstore 4, 2) := by decide +kernel
theorem nD_MOD_sum_30 : decode nC_MOD_sum 30 = .ok (.lload 4, 2) := by decide +kernel
theorem nD_MOD_sum_32 : decode nC_MOD_sum 32 = .ok (.ldc2_w 111, 3) := by decide +kernel
theorem nD_MOD_sum_35 : decode nC_MOD_sum 35 = .ok (.lcmp, 1) := by decide +kernel
theorem nD_MOD_sum_36 : decode nC_MOD_sum 36 = .ok (.ifCond .lt 7, 3) := by decide +kernel
theorem nD_MOD_sum_39 : decode nC_MOD_sum 39 = .ok (.iconst 1, 1) := by decide +kernel
theorem nD_MOD_sum_40 : decode nC_MOD_sum 40 = .ok (.goto 4, 3) := by decide +kernel
theorem nD_MOD_sum_43 : decode nC_MOD_sum 43 = .ok (.iconst 0, 1) := by decide +kernel
theorem nD_MOD_sum_44 : decode nC_MOD_sum 44 = .ok (.istore 6, 2) := by decide +kernel
theorem nD_MOD_sum_46 : decode nC_MOD_sum 46 = .ok (.aload_n 0, 1) := by decide +kernel
theorem nD_MOD_sum_47 : decode nC_MOD_sum 47 = .ok (.aload_n 0, 1) := by decide +kernel
theorem nD_MOD_sum_48 : decode nC_MOD_sum 48 = .ok (.getfield 103, 3) := by decide +kernel
theorem nD_MOD_sum_51 : decode nC_MOD_sum 51 = .ok (.lconst 0, 1) := by decide +kernel
theorem nD_MOD_sum_52 : decode nC_MOD_sum 52 = .ok (.lcmp, 1) := by decide +kernel
theorem nD_MOD_sum_53 : decode nC_MOD_sum 53 = .ok (.ifCond .ge 7, 3) := by decide +kernel
theorem nD_MOD_sum_56 : decode nC_MOD_sum 56 = .ok (.iconst 1, 1) := by decide +kernel
theorem nD_MOD_sum_57 : decode nC_MOD_sum 57 = .ok (.goto 4, 3) := by decide +kernel
theorem nD_MOD_sum_60 : decode nC_MOD_sum 60 = .ok (.iconst 0, 1) := by decide +kernel
theorem nD_MOD_sum_61 : decode nC_MOD_sum 61 = .ok (.iload 6, 2) := by decide +kernel
theorem nD_MOD_sum_63 : decode nC_MOD_sum 63 = .ok (.ifCond .eq 9, 3) := by decide +kernel
theorem nD_MOD_sum_66 : decode nC_MOD_sum 66 = .ok (.iload_n 3, 1) := by decide +kernel
theorem nD_MOD_sum_67 : decode nC_MOD_sum 67 = .ok (.iconst 1, 1) := by decide +kernel
theorem nD_MOD_sum_68 : decode nC_MOD_sum 68 = .ok (.iadd, 1) := by decide +kernel
theorem nD_MOD_sum_69 : decode nC_MOD_sum 69 = .ok (.goto 4, 3) := by decide +kernel
theorem nD_MOD_sum_72 : decode nC_MOD_sum 72 = .ok (.iload_n 3, 1) := by decide +kernel
theorem nD_MOD_sum_73 : decode nC_MOD_sum 73 = .ok (.iload 6, 2) := by decide +kernel
theorem nD_MOD_sum_75 : decode nC_MOD_sum 75 = .ok (.ifCond .eq 12, 3) := by decide +kernel
theorem nD_MOD_sum_78 : decode nC_MOD_sum 78 = .ok (.lload 4, 2) := by decide +kernel
theorem nD_MOD_sum_80 : decode nC_MOD_sum 80 = .ok (.ldc2_w 84, 3) := by decide +kernel
theorem nD_MOD_sum_83 : decode nC_MOD_sum 83 = .ok (.ldiv, 1) := by decide +kernel
theorem nD_MOD_sum_84 : decode nC_MOD_sum 84 = .ok (.goto 5, 3) := by decide +kernel
theorem nD_MOD_sum_87 : decode nC_MOD_sum 87 = .ok (.lload 4, 2) := by decide +kernel
theorem nD_MOD_sum_89 : decode nC_MOD_sum 89 = .ok (.invokevirtual 113, 3) := by decide +kernel
theorem nD_MOD_sum_92 : decode nC_MOD_sum 92 = .ok (.ireturn, 1) := by decide +kernel
theorem nD_MOD_other_0 : decode nC_MOD_other 0 = .ok (.iload_n 0, 1) := by decide +kernel
theorem nD_MOD_other_1 : decode nC_MOD_other 1 = .ok (.ldc 117, 2) := by decide +kernel
theorem nD_MOD_other_3 : decode nC_MOD_other 3 = .ok (.ixor, 1) := by decide +kernel
theorem nD_MOD_other_4 : decode nC_MOD_other 4 = .ok (.ireturn, 1) := by decide +kernel
theorem nD_MOD_compared_0 : decode nC_MOD_compared 0 = .ok (.aload_n 0, 1) := by decide +kernel
theorem nD_MOD_compared_1 : decode nC_MOD_compared 1 = .ok (.iload_n 1, 1) := by decide +kernel
theorem nD_MOD_compared_2 : decode nC_MOD_compared 2 = .ok (.iload_n 2, 1) := by decide +kernel
theorem nD_MOD_compared_3 : decode nC_MOD_compared 3 = .ok (.invokestatic 118, 3) := by decide +kernel
theorem nD_MOD_compared_6 : decode nC_MOD_compared 6 = .ok (.invokevirtual 107, 3) := by decide +kernel
theorem nD_MOD_compared_9 : decode nC_MOD_compared 9 = .ok (.pop, 1) := by decide +kernel
theorem nD_MOD_compared_10 : decode nC_MOD_compared 10 = .ok (.aload_n 0, 1) := by decide +kernel
theorem nD_MOD_compared_11 : decode nC_MOD_compared 11 = .ok (.getfield 103, 3) := by decide +kernel
theorem nD_MOD_compared_14 : decode nC_MOD_compared 14 = .ok (.lconst 0, 1) := by decide +kernel
theorem nD_MOD_compared_15 : decode nC_MOD_compared 15 = .ok (.lcmp, 1) := by decide +kernel
theorem nD_MOD_compared_16 : decode nC_MOD_compared 16 = .ok (.ifCond .ne 7, 3) := by decide +kernel
theorem nD_MOD_compared_19 : decode nC_MOD_compared 19 = .ok (.iconst 0, 1) := by decide +kernel
theorem nD_MOD_compared_20 : decode nC_MOD_compared 20 = .ok (.goto 17, 3) := by decide +kernel
theorem nD_MOD_compared_23 : decode nC_MOD_compared 23 = .ok (.aload_n 0, 1) := by decide +kernel
theorem nD_MOD_compared_24 : decode nC_MOD_compared 24 = .ok (.getfield 103, 3) := by decide +kernel
theorem nD_MOD_compared_27 : decode nC_MOD_compared 27 = .ok (.lconst 0, 1) := by decide +kernel
theorem nD_MOD_compared_28 : decode nC_MOD_compared 28 = .ok (.lcmp, 1) := by decide +kernel
theorem nD_MOD_compared_29 : decode nC_MOD_compared 29 = .ok (.ifCond .ge 7, 3) := by decide +kernel
theorem nD_MOD_compared_32 : decode nC_MOD_compared 32 = .ok (.iconst 1, 1) := by decide +kernel
theorem nD_MOD_compared_33 : decode nC_MOD_compared 33 = .ok (.goto 4, 3) := by decide +kernel
theorem nD_MOD_compared_36 : decode nC_MOD_compared 36 = .ok (.iconst 2, 1) := by decide +kernel
theorem nD_MOD_compared_37 : decode nC_MOD_compared 37 = .ok (.ireturn, 1) := by decide +kernel
theorem nD_MOD_short0_0 : decode nC_MOD_short0 0 = .ok (.iload_n 0, 1) := by decide +kernel
theorem nD_MOD_short0_1 : decode nC_MOD_short0 1 = .ok (.invokestatic 95, 3) := by decide +kernel
theorem nD_MOD_short0_4 : decode nC_MOD_short0 4 = .ok (.lstore_n 1, 1) := by decide +kernel
theorem nD_MOD_short0_5 : decode nC_MOD_short0 5 = .ok (.iconst 0, 1) := by decide +kernel
theorem nD_MOD_short0_6 : decode nC_MOD_short0 6 = .ok (.istore_n 3, 1) := by decide +kernel
theorem nD_MOD_short0_7 : decode nC_MOD_short0 7 = .ok (.lload_n 1, 1) := by decide +kernel
theorem nD_MOD_short0_8 : decode nC_MOD_short0 8 = .ok (.ldc2_w 121, 3) := by decide +kernel
theorem nD_MOD_short0_11 : decode nC_MOD_short0 11 = .ok (.lcmp, 1) := by decide +kernel
theorem nD_MOD_short0_12 : decode nC_MOD_short0 12 = .ok (.ifCond .ge 15, 3) := by decide +kernel
theorem nD_MOD_short0_15 : decode nC_MOD_short0 15 = .ok (.ldc2_w 84, 3) := by decide +kernel
theorem nD_MOD_short0_18 : decode nC_MOD_short0 18 = .ok (.lload_n 1, 1) := by decide +kernel
theorem nD_MOD_short0_19 : decode nC_MOD_short0 19 = .ok (.lmul, 1) := by decide +kernel
theorem nD_MOD_short0_20 : decode nC_MOD_short0 20 = .ok (.lstore_n 1, 1) := by decide +kernel
theorem nD_MOD_short0_21 : decode nC_MOD_short0 21 = .ok (.iinc 3 1, 3) := by decide +kernel
theorem nD_MOD_short0_24 : decode nC_MOD_short0 24 = .ok (.goto (-17), 3) := by decide +kernel
theorem nD_MOD_short0_27 : decode nC_MOD_short0 27 = .ok (.iload_n 3, 1) := by decide +kernel
theorem nD_MOD_short0_28 : decode nC_MOD_short0 28 = .ok (.ireturn, 1) := by decide +kernel
theorem nD_MOD_normal_0 : decode nC_MOD_normal 0 = .ok (.iload_n 0, 1) := by decide +kernel
theorem nD_MOD_normal_1 : decode nC_MOD_normal 1 = .ok (.invokestatic 95, 3) := by decide +kernel
theorem nD_MOD_normal_4 : decode nC_MOD_normal 4 = .ok (.lstore_n 1, 1) := by decide +kernel
theorem nD_MOD_normal_5 : decode nC_MOD_normal 5 = .ok (.iload_n 0, 1) := by decide +kernel
theorem nD_MOD_normal_6 : decode nC_MOD_normal 6 = .ok (.invokestatic 123, 3) := by decide +kernel
theorem nD_MOD_normal_9 : decode nC_MOD_normal 9 = .ok (.istore_n 3, 1) := by decide +kernel
theorem nD_MOD_normal_10 : decode nC_MOD_normal 10 = .ok (.iconst 0, 1) := by decide +kernel
theorem nD_MOD_normal_11 : decode nC_MOD_normal 11 = .ok (.istore 4, 2) := by decide +kernel
theorem nD_MOD_normal_13 : decode nC_MOD_normal 13 = .ok (.iload 4, 2) := by decide +kernel
theorem nD_MOD_normal_15 : decode nC_MOD_normal 15 = .ok (.iload_n 3, 1) := by decide +kernel
theorem nD_MOD_normal_16 : decode nC_MOD_normal 16 = .ok (.if_icmp .ge 15, 3) := by decide +kernel
theorem nD_MOD_normal_19 : decode nC_MOD_normal 19 = .ok (.ldc2_w 84, 3) := by decide +kernel
theorem nD_MOD_normal_22 : decode nC_MOD_normal 22 = .ok (.lload_n 1, 1) := by decide +kernel
theorem nD_MOD_normal_23 : decode nC_MOD_normal 23 = .ok (.lmul, 1) := by decide +kernel
theorem nD_MOD_normal_24 : decode nC_MOD_normal 24 = .ok (.lstore_n 1, 1) := by decide +kernel
theorem nD_MOD_normal_25 : decode nC_MOD_normal 25 = .ok (.iinc 4 1, 3) := by decide +kernel
theorem nD_MOD_normal_28 : decode nC_MOD_normal 28 = .ok (.goto (-15), 3) := by decide +kernel
theorem nD_MOD_normal_31 : decode nC_MOD_normal 31 = .ok (.lload_n 1, 1) := by decide +kernel
theorem nD_MOD_normal_32 : decode nC_MOD_normal 32 = .ok (.lreturn, 1) := by decide +kernel
theorem nD_MOD_product_0 : decode nC_MOD_product 0 = .ok (.iload_n 1, 1) := by decide +kernel
theorem nD_MOD_product_1 : decode nC_MOD_product 1 = .ok (.invokestatic 95, 3) := by decide +kernel
theorem nD_MOD_product_4 : decode nC_MOD_product 4 = .ok (.lconst 0, 1) := by decide +kernel
theorem nD_MOD_product_5 : decode nC_MOD_product 5 = .ok (.lcmp, 1) := by decide +kernel
theorem nD_MOD_product_6 : decode nC_MOD_product 6 = .ok (.ifCond .eq 12, 3) := by decide +kernel
theorem nD_MOD_product_9 : decode nC_MOD_product 9 = .ok (.iload_n 2, 1) := by decide +kernel
theorem nD_MOD_product_10 : decode nC_MOD_product 10 = .ok (.invokestatic 95, 3) := by decide +kernel
theorem nD_MOD_product_13 : decode nC_MOD_product 13 = .ok (.lconst 0, 1) := by decide +kernel
theorem nD_MOD_product_14 : decode nC_MOD_product 14 = .ok (.lcmp, 1) := by decide +kernel
theorem nD_MOD_product_15 : decode nC_MOD_product 15 = .ok (.ifCond .ne 5, 3) := by decide +kernel
theorem nD_MOD_product_18 : decode nC_MOD_product 18 = .ok (.iconst 0, 1) := by decide +kernel
theorem nD_MOD_product_19 : decode nC_MOD_product 19 = .ok (.ireturn, 1) := by decide +kernel
theorem nD_MOD_product_20 : decode nC_MOD_product 20 = .ok (.iload_n 1, 1) := by decide +kernel
theorem nD_MOD_product_21 : decode nC_MOD_product 21 = .ok (.invokestatic 91, 3) := by decide +kernel
theorem nD_MOD_product_24 : decode nC_MOD_product 24 = .ok (.iload_n 1, 1) := by decide +kernel
theorem nD_MOD_product_25 : decode nC_MOD_product 25 = .ok (.invokestatic 123, 3) := by decide +kernel
theorem nD_MOD_product_28 : decode nC_MOD_product 28 = .ok (.isub, 1) := by decide +kernel
theorem nD_MOD_product_29 : decode nC_MOD_product 29 = .ok (.iload_n 2, 1) := by decide +kernel
theorem nD_MOD_product_30 : decode nC_MOD_product 30 = .ok (.invokestatic 91, 3) := by decide +kernel
theorem nD_MOD_product_33 : decode nC_MOD_product 33 = .ok (.iadd, 1) := by decide +kernel
theorem nD_MOD_product_34 : decode nC_MOD_product 34 = .ok (.iload_n 2, 1) := by decide +kernel
theorem nD_MOD_product_35 : decode nC_MOD_product 35 = .ok (.invokestatic 123, 3) := by decide +kernel
theorem nD_MOD_product_38 : decode nC_MOD_product 38 = .ok (.isub, 1) := by decide +kernel
theorem nD_MOD_product_39 : decode nC_MOD_product 39 = .ok (.bipush 64, 2) := by decide +kernel
theorem nD_MOD_product_41 : decode nC_MOD_product 41 = .ok (.isub, 1) := by decide +kernel
theorem nD_MOD_product_42 : decode nC_MOD_product 42 = .ok (.istore_n 3, 1) := by decide +kernel
theorem nD_MOD_product_43 : decode nC_MOD_product 43 = .ok (.iload_n 1, 1) := by decide +kernel
theorem nD_MOD_product_44 : decode nC_MOD_product 44 = .ok (.invokestatic 126, 3) := by decide +kernel
theorem nD_MOD_product_47 : decode nC_MOD_product 47 = .ok (.iload_n 2, 1) := by decide +kernel
theorem nD_MOD_product_48 : decode nC_MOD_product 48 = .ok (.invokestatic 126, 3) := by decide +kernel
theorem nD_MOD_product_51 : decode nC_MOD_product 51 = .ok (.lmul, 1) := by decide +kernel
theorem nD_MOD_product_52 : decode nC_MOD_product 52 = .ok (.ldc2_w 121, 3) := by decide +kernel
theorem nD_MOD_product_55 : decode nC_MOD_product 55 = .ok (.ldiv, 1) := by decide +kernel
theorem nD_MOD_product_56 : decode nC_MOD_product 56 = .ok (.lstore 4, 2) := by decide +kernel
theorem nD_MOD_product_58 : decode nC_MOD_product 58 = .ok (.aload_n 0, 1) := by decide +kernel
theorem nD_MOD_product_59 : decode nC_MOD_product 59 = .ok (.iload_n 1, 1) := by decide +kernel
theorem nD_MOD_product_60 : decode nC_MOD_product 60 = .ok (.invokestatic 99, 3) := by decide +kernel
theorem nD_MOD_product_63 : decode nC_MOD_product 63 = .ok (.iload_n 2, 1) := by decide +kernel
theorem nD_MOD_product_64 : decode nC_MOD_product 64 = .ok (.invokestatic 99, 3) := by decide +kernel
theorem nD_MOD_product_67 : decode nC_MOD_product 67 = .ok (.if_icmp .eq 7, 3) := by decide +kernel
theorem nD_MOD_product_70 : decode nC_MOD_product 70 = .ok (.iconst 1, 1) := by decide +kernel
theorem nD_MOD_product_71 : decode nC_MOD_product 71 = .ok (.goto 4, 3) := by decide +kernel
theorem nD_MOD_product_74 : decode nC_MOD_product 74 = .ok (.iconst 0, 1) := by decide +kernel
theorem nD_MOD_product_75 : decode nC_MOD_product 75 = .ok (.iload_n 3, 1) := by decide +kernel
theorem nD_MOD_product_76 : decode nC_MOD_product 76 = .ok (.lload 4, 2) := by decide +kernel
theorem nD_MOD_product_78 : decode nC_MOD_product 78 = .ok (.invokevirtual 113, 3) := by decide +kernel
theorem nD_MOD_product_81 : decode nC_MOD_product 81 = .ok (.ireturn, 1) := by decide +kernel
theorem nD_MOD_quotient_0 : decode nC_MOD_quotient 0 = .ok (.iload_n 2, 1) := by decide +kernel
theorem nD_MOD_quotient_1 : decode nC_MOD_quotient 1 = .ok (.invokestatic 95, 3) := by decide +kernel
theorem nD_MOD_quotient_4 : decode nC_MOD_quotient 4 = .ok (.lconst 0, 1) := by decide +kernel
theorem nD_MOD_quotient_5 : decode nC_MOD_quotient 5 = .ok (.lcmp, 1) := by decide +kernel
theorem nD_MOD_quotient_6 : decode nC_MOD_quotient 6 = .ok (.ifCond .ne 10, 3) := by decide +kernel
theorem nD_MOD_quotient_9 : decode nC_MOD_quotient 9 = .ok (.aload_n 0, 1) := by decide +kernel
theorem nD_MOD_quotient_10 : decode nC_MOD_quotient 10 = .ok (.iconst 4, 1) := by decide +kernel
theorem nD_MOD_quotient_11 : decode nC_MOD_quotient 11 = .ok (.putfield 86, 3) := by decide +kernel
theorem nD_MOD_quotient_14 : decode nC_MOD_quotient 14 = .ok (.iload_n 1, 1) := by decide +kernel
theorem nD_MOD_quotient_15 : decode nC_MOD_quotient 15 = .ok (.ireturn, 1) := by decide +kernel
theorem nD_MOD_quotient_16 : decode nC_MOD_quotient 16 = .ok (.iload_n 1, 1) := by decide +kernel
theorem nD_MOD_quotient_17 : decode nC_MOD_quotient 17 = .ok (.invokestatic 95, 3) := by decide +kernel
theorem nD_MOD_quotient_20 : decode nC_MOD_quotient 20 = .ok (.lconst 0, 1) := by decide +kernel
theorem nD_MOD_quotient_21 : decode nC_MOD_quotient 21 = .ok (.lcmp, 1) := by decide +kernel
theorem nD_MOD_quotient_22 : decode nC_MOD_quotient 22 = .ok (.ifCond .ne 5, 3) := by decide +kernel
theorem nD_MOD_quotient_25 : decode nC_MOD_quotient 25 = .ok (.iconst 0, 1) := by decide +kernel
theorem nD_MOD_quotient_26 : decode nC_MOD_quotient 26 = .ok (.ireturn, 1) := by decide +kernel
theorem nD_MOD_quotient_27 : decode nC_MOD_quotient 27 = .ok (.iload_n 1, 1) := by decide +kernel
theorem nD_MOD_quotient_28 : decode nC_MOD_quotient 28 = .ok (.invokestatic 91, 3) := by decide +kernel
theorem nD_MOD_quotient_31 : decode nC_MOD_quotient 31 = .ok (.iload_n 1, 1) := by decide +kernel
theorem nD_MOD_quotient_32 : decode nC_MOD_quotient 32 = .ok (.invokestatic 123, 3) := by decide +kernel
theorem nD_MOD_quotient_35 : decode nC_MOD_quotient 35 = .ok (.isub, 1) := by decide +kernel
theorem nD_MOD_quotient_36 : decode nC_MOD_quotient 36 = .ok (.iload_n 2, 1) := by decide +kernel
theorem nD_MOD_quotient_37 : decode nC_MOD_quotient 37 = .ok (.invokestatic 91, 3) := by decide +kernel
theorem nD_MOD_quotient_40 : decode nC_MOD_quotient 40 = .ok (.iload_n 2, 1) := by decide +kernel
theorem nD_MOD_quotient_41 : decode nC_MOD_quotient 41 = .ok (.invokestatic 123, 3) := by decide +kernel
theorem nD_MOD_quotient_44 : decode nC_MOD_quotient 44 = .ok (.isub, 1) := by decide +kernel
theorem nD_MOD_quotient_45 : decode nC_MOD_quotient 45 = .ok (.isub, 1) := by decide +kernel
theorem nD_MOD_quotient_46 : decode nC_MOD_quotient 46 = .ok (.bipush 65, 2) := by decide +kernel
theorem nD_MOD_quotient_48 : decode nC_MOD_quotient 48 = .ok (.iadd, 1) := by decide +kernel
theorem nD_MOD_quotient_49 : decode nC_MOD_quotient 49 = .ok (.istore_n 3, 1) := by decide +kernel
theorem nD_MOD_quotient_50 : decode nC_MOD_quotient 50 = .ok (.iload_n 1, 1) := by decide +kernel
theorem nD_MOD_quotient_51 : decode nC_MOD_quotient 51 = .ok (.invokestatic 126, 3) := by decide +kernel
theorem nD_MOD_quotient_54 : decode nC_MOD_quotient 54 = .ok (.ldc2_w 82, 3) := by decide +kernel
theorem nD_MOD_quotient_57 : decode nC_MOD_quotient 57 = .ok (.lmul, 1) := by decide +kernel
theorem nD_MOD_quotient_58 : decode nC_MOD_quotient 58 = .ok (.iload_n 2, 1) := by decide +kernel
theorem nD_MOD_quotient_59 : decode nC_MOD_quotient 59 = .ok (.invokestatic 126, 3) := by decide +kernel
theorem nD_MOD_quotient_62 : decode nC_MOD_quotient 62 = .ok (.ldiv, 1) := by decide +kernel
theorem nD_MOD_quotient_63 : decode nC_MOD_quotient 63 = .ok (.lstore 4, 2) := by decide +kernel
theorem nD_MOD_quotient_65 : decode nC_MOD_quotient 65 = .ok (.aload_n 0, 1) := by decide +kernel
theorem nD_MOD_quotient_66 : decode nC_MOD_quotient 66 = .ok (.iload_n 1, 1) := by decide +kernel
theorem nD_MOD_quotient_67 : decode nC_MOD_quotient 67 = .ok (.invokestatic 99, 3) := by decide +kernel
theorem nD_MOD_quotient_70 : decode nC_MOD_quotient 70 = .ok (.iload_n 2, 1) := by decide +kernel
theorem nD_MOD_quotient_71 : decode nC_MOD_quotient 71 = .ok (.invokestatic 99, 3) := by decide +kernel
theorem nD_MOD_quotient_74 : decode nC_MOD_quotient 74 = .ok (.if_icmp .eq 7, 3) := by decide +kernel
theorem nD_MOD_quotient_77 : decode nC_MOD_quotient 77 = .ok (.iconst 1, 1) := by decide +kernel
theorem nD_MOD_quotient_78 : decode nC_MOD_quotient 78 = .ok (.goto 4, 3) := by decide +kernel
theorem nD_MOD_quotient_81 : decode nC_MOD_quotient 81 = .ok (.iconst 0, 1) := by decide +kernel
theorem nD_MOD_quotient_82 : decode nC_MOD_quotient 82 = .ok (.iload_n 3, 1) := by decide +kernel
theorem nD_MOD_quotient_83 : decode nC_MOD_quotient 83 = .ok (.lload 4, 2) := by decide +kernel
theorem nD_MOD_quotient_85 : decode nC_MOD_quotient 85 = .ok (.invokevirtual 113, 3) := by decide +kernel
theorem nD_MOD_quotient_88 : decode nC_MOD_quotient 88 = .ok (.ireturn, 1) := by decide +kernel
theorem nD_MOD_result_0 : decode nC_MOD_result 0 = .ok (.aload_n 0, 1) := by decide +kernel
theorem nD_MOD_result_1 : decode nC_MOD_result 1 = .ok (.iconst 0, 1) := by decide +kernel
theorem nD_MOD_result_2 : decode nC_MOD_result 2 = .ok (.putfield 86, 3) := by decide +kernel
theorem nD_MOD_result_5 : decode nC_MOD_result 5 = .ok (.iload_n 1, 1) := by decide +kernel
theorem nD_MOD_result_6 : decode nC_MOD_result 6 = .ok (.tableswitch 61 0 3 #[30, 37, 47, 54], 30) := by decide +kernel
theorem nD_MOD_result_36 : decode nC_MOD_result 36 = .ok (.aload_n 0, 1) := by decide +kernel
theorem nD_MOD_result_37 : decode nC_MOD_result 37 = .ok (.iload_n 2, 1) := by decide +kernel
theorem nD_MOD_result_38 : decode nC_MOD_result 38 = .ok (.iload_n 3, 1) := by decide +kernel
theorem nD_MOD_result_39 : decode nC_MOD_result 39 = .ok (.invokevirtual 129, 3) := by decide +kernel
theorem nD_MOD_result_42 : decode nC_MOD_result 42 = .ok (.ireturn, 1) := by decide +kernel
theorem nD_MOD_result_43 : decode nC_MOD_result 43 = .ok (.aload_n 0, 1) := by decide +kernel
theorem nD_MOD_result_44 : decode nC_MOD_result 44 = .ok (.iload_n 2, 1) := by decide +kernel
theorem nD_MOD_result_45 : decode nC_MOD_result 45 = .ok (.iload_n 3, 1) := by decide +kernel
theorem nD_MOD_result_46 : decode nC_MOD_result 46 = .ok (.invokestatic 118, 3) := by decide +kernel
theorem nD_MOD_result_49 : decode nC_MOD_result 49 = .ok (.invokevirtual 129, 3) := by decide +kernel
theorem nD_MOD_result_52 : decode nC_MOD_result 52 = .ok (.ireturn, 1) := by decide +kernel
theorem nD_MOD_result_53 : decode nC_MOD_result 53 = .ok (.aload_n 0, 1) := by decide +kernel
theorem nD_MOD_result_54 : decode nC_MOD_result 54 = .ok (.iload_n 2, 1) := by decide +kernel
theorem nD_MOD_result_55 : decode nC_MOD_result 55 = .ok (.iload_n 3, 1) := by decide +kernel
theorem nD_MOD_result_56 : decode nC_MOD_result 56 = .ok (.invokevirtual 132, 3) := by decide +kernel
theorem nD_MOD_result_59 : decode nC_MOD_result 59 = .ok (.ireturn, 1) := by decide +kernel
theorem nD_MOD_result_60 : decode nC_MOD_result 60 = .ok (.aload_n 0, 1) := by decide +kernel
theorem nD_MOD_result_61 : decode nC_MOD_result 61 = .ok (.iload_n 2, 1) := by decide +kernel
theorem nD_MOD_result_62 : decode nC_MOD_result 62 = .ok (.iload_n 3, 1) := by decide +kernel
theorem nD_MOD_result_63 : decode nC_MOD_result 63 = .ok (.invokevirtual 135, 3) := by decide +kernel
theorem nD_MOD_result_66 : decode nC_MOD_result 66 = .ok (.ireturn, 1) := by decide +kernel
theorem nD_MOD_result_67 : decode nC_MOD_result 67 = .ok (.aload_n 0, 1) := by decide +kernel
theorem nD_MOD_result_68 : decode nC_MOD_result 68 = .ok (.iload_n 2, 1) := by decide +kernel
theorem nD_MOD_result_69 : decode nC_MOD_result 69 = .ok (.iload_n 3, 1) := by decide +kernel
theorem nD_MOD_result_70 : decode nC_MOD_result 70 = .ok (.invokevirtual 138, 3) := by decide +kernel
theorem nD_MOD_result_73 : decode nC_MOD_result 73 = .ok (.ireturn, 1) := by decide +kernel
theorem nD_MOD_reckon_0 : decode nC_MOD_reckon 0 = .ok (.aload_n 0, 1) := by decide +kernel
theorem nD_MOD_reckon_1 : decode nC_MOD_reckon 1 = .ok (.iload_n 1, 1) := by decide +kernel
theorem nD_MOD_reckon_2 : decode nC_MOD_reckon 2 = .ok (.ifCond .lt 8, 3) := by decide +kernel
theorem nD_MOD_reckon_5 : decode nC_MOD_reckon 5 = .ok (.iload_n 1, 1) := by decide +kernel
theorem nD_MOD_reckon_6 : decode nC_MOD_reckon 6 = .ok (.iconst 4, 1) := by decide +kernel
theorem nD_MOD_reckon_7 : decode nC_MOD_reckon 7 = .ok (.if_icmp .le 7, 3) := by decide +kernel
theorem nD_MOD_reckon_10 : decode nC_MOD_reckon 10 = .ok (.iconst 1, 1) := by decide +kernel
theorem nD_MOD_reckon_11 : decode nC_MOD_reckon 11 = .ok (.goto 4, 3) := by decide +kernel
theorem nD_MOD_reckon_14 : decode nC_MOD_reckon 14 = .ok (.iconst 0, 1) := by decide +kernel
theorem nD_MOD_reckon_15 : decode nC_MOD_reckon 15 = .ok (.putfield 78, 3) := by decide +kernel
theorem nD_MOD_reckon_18 : decode nC_MOD_reckon 18 = .ok (.aload_n 0, 1) := by decide +kernel
theorem nD_MOD_reckon_19 : decode nC_MOD_reckon 19 = .ok (.getfield 78, 3) := by decide +kernel
theorem nD_MOD_reckon_22 : decode nC_MOD_reckon 22 = .ok (.ifCond .le 7, 3) := by decide +kernel
theorem nD_MOD_reckon_25 : decode nC_MOD_reckon 25 = .ok (.iconst 0, 1) := by decide +kernel
theorem nD_MOD_reckon_26 : decode nC_MOD_reckon 26 = .ok (.goto 10, 3) := by decide +kernel
theorem nD_MOD_reckon_29 : decode nC_MOD_reckon 29 = .ok (.aload_n 0, 1) := by decide +kernel
theorem nD_MOD_reckon_30 : decode nC_MOD_reckon 30 = .ok (.iload_n 1, 1) := by decide +kernel
theorem nD_MOD_reckon_31 : decode nC_MOD_reckon 31 = .ok (.iload_n 2, 1) := by decide +kernel
theorem nD_MOD_reckon_32 : decode nC_MOD_reckon 32 = .ok (.iload_n 3, 1) := by decide +kernel
theorem nD_MOD_reckon_33 : decode nC_MOD_reckon 33 = .ok (.invokevirtual 141, 3) := by decide +kernel
theorem nD_MOD_reckon_36 : decode nC_MOD_reckon 36 = .ok (.ireturn, 1) := by decide +kernel
theorem nD_MOD_exceptions_0 : decode nC_MOD_exceptions 0 = .ok (.aload_n 0, 1) := by decide +kernel
theorem nD_MOD_exceptions_1 : decode nC_MOD_exceptions 1 = .ok (.iload_n 1, 1) := by decide +kernel
theorem nD_MOD_exceptions_2 : decode nC_MOD_exceptions 2 = .ok (.ifCond .lt 8, 3) := by decide +kernel
theorem nD_MOD_exceptions_5 : decode nC_MOD_exceptions 5 = .ok (.iload_n 1, 1) := by decide +kernel
theorem nD_MOD_exceptions_6 : decode nC_MOD_exceptions 6 = .ok (.iconst 4, 1) := by decide +kernel
theorem nD_MOD_exceptions_7 : decode nC_MOD_exceptions 7 = .ok (.if_icmp .le 7, 3) := by decide +kernel
theorem nD_MOD_exceptions_10 : decode nC_MOD_exceptions 10 = .ok (.iconst 1, 1) := by decide +kernel
theorem nD_MOD_exceptions_11 : decode nC_MOD_exceptions 11 = .ok (.goto 4, 3) := by decide +kernel
theorem nD_MOD_exceptions_14 : decode nC_MOD_exceptions 14 = .ok (.iconst 0, 1) := by decide +kernel
theorem nD_MOD_exceptions_15 : decode nC_MOD_exceptions 15 = .ok (.putfield 78, 3) := by decide +kernel
theorem nD_MOD_exceptions_18 : decode nC_MOD_exceptions 18 = .ok (.aload_n 0, 1) := by decide +kernel
theorem nD_MOD_exceptions_19 : decode nC_MOD_exceptions 19 = .ok (.getfield 78, 3) := by decide +kernel
theorem nD_MOD_exceptions_22 : decode nC_MOD_exceptions 22 = .ok (.ifCond .le 5, 3) := by decide +kernel
theorem nD_MOD_exceptions_25 : decode nC_MOD_exceptions 25 = .ok (.iconst 0, 1) := by decide +kernel
theorem nD_MOD_exceptions_26 : decode nC_MOD_exceptions 26 = .ok (.ireturn, 1) := by decide +kernel
theorem nD_MOD_exceptions_27 : decode nC_MOD_exceptions 27 = .ok (.aload_n 0, 1) := by decide +kernel
theorem nD_MOD_exceptions_28 : decode nC_MOD_exceptions 28 = .ok (.iload_n 1, 1) := by decide +kernel
theorem nD_MOD_exceptions_29 : decode nC_MOD_exceptions 29 = .ok (.iload_n 2, 1) := by decide +kernel
theorem nD_MOD_exceptions_30 : decode nC_MOD_exceptions 30 = .ok (.iload_n 3, 1) := by decide +kernel
theorem nD_MOD_exceptions_31 : decode nC_MOD_exceptions 31 = .ok (.invokevirtual 141, 3) := by decide +kernel
theorem nD_MOD_exceptions_34 : decode nC_MOD_exceptions 34 = .ok (.istore 4, 2) := by decide +kernel
theorem nD_MOD_exceptions_36 : decode nC_MOD_exceptions 36 = .ok (.iload_n 1, 1) := by decide +kernel
theorem nD_MOD_exceptions_37 : decode nC_MOD_exceptions 37 = .ok (.iconst 4, 1) := by decide +kernel
theorem nD_MOD_exceptions_38 : decode nC_MOD_exceptions 38 = .ok (.if_icmp .ne 12, 3) := by decide +kernel
theorem nD_MOD_exceptions_41 : decode nC_MOD_exceptions 41 = .ok (.iload 4, 2) := by decide +kernel
theorem nD_MOD_exceptions_43 : decode nC_MOD_exceptions 43 = .ok (.ifCond .lt 7, 3) := by decide +kernel
theorem nD_MOD_exceptions_46 : decode nC_MOD_exceptions 46 = .ok (.iconst 0, 1) := by decide +kernel
theorem nD_MOD_exceptions_47 : decode nC_MOD_exceptions 47 = .ok (.goto 7, 3) := by decide +kernel
theorem nD_MOD_exceptions_50 : decode nC_MOD_exceptions 50 = .ok (.aload_n 0, 1) := by decide +kernel
theorem nD_MOD_exceptions_51 : decode nC_MOD_exceptions 51 = .ok (.getfield 86, 3) := by decide +kernel
theorem nD_MOD_exceptions_54 : decode nC_MOD_exceptions 54 = .ok (.ireturn, 1) := by decide +kernel
theorem nD_MOD_isRegister_0 : decode nC_MOD_isRegister 0 = .ok (.iload_n 0, 1) := by decide +kernel
theorem nD_MOD_isRegister_1 : decode nC_MOD_isRegister 1 = .ok (.ifCond .lt 12, 3) := by decide +kernel
theorem nD_MOD_isRegister_4 : decode nC_MOD_isRegister 4 = .ok (.iload_n 0, 1) := by decide +kernel
theorem nD_MOD_isRegister_5 : decode nC_MOD_isRegister 5 = .ok (.iconst 3, 1) := by decide +kernel
theorem nD_MOD_isRegister_6 : decode nC_MOD_isRegister 6 = .ok (.if_icmp .gt 7, 3) := by decide +kernel
theorem nD_MOD_isRegister_9 : decode nC_MOD_isRegister 9 = .ok (.iconst 1, 1) := by decide +kernel
theorem nD_MOD_isRegister_10 : decode nC_MOD_isRegister 10 = .ok (.goto 4, 3) := by decide +kernel
theorem nD_MOD_isRegister_13 : decode nC_MOD_isRegister 13 = .ok (.iconst 0, 1) := by decide +kernel
theorem nD_MOD_isRegister_14 : decode nC_MOD_isRegister 14 = .ok (.ireturn, 1) := by decide +kernel
theorem nD_MOD_goes_0 : decode nC_MOD_goes 0 = .ok (.aload_n 0, 1) := by decide +kernel
theorem nD_MOD_goes_1 : decode nC_MOD_goes 1 = .ok (.getfield 25, 3) := by decide +kernel
theorem nD_MOD_goes_4 : decode nC_MOD_goes 4 = .ok (.ifCond .eq 11, 3) := by decide +kernel
theorem nD_MOD_goes_7 : decode nC_MOD_goes 7 = .ok (.aload_n 0, 1) := by decide +kernel
theorem nD_MOD_goes_8 : decode nC_MOD_goes 8 = .ok (.getfield 25, 3) := by decide +kernel
theorem nD_MOD_goes_11 : decode nC_MOD_goes 11 = .ok (.iconst 1, 1) := by decide +kernel
theorem nD_MOD_goes_12 : decode nC_MOD_goes 12 = .ok (.if_icmp .ne 7, 3) := by decide +kernel
theorem nD_MOD_goes_15 : decode nC_MOD_goes 15 = .ok (.iconst 1, 1) := by decide +kernel
theorem nD_MOD_goes_16 : decode nC_MOD_goes 16 = .ok (.goto 4, 3) := by decide +kernel
theorem nD_MOD_goes_19 : decode nC_MOD_goes 19 = .ok (.iconst 0, 1) := by decide +kernel
theorem nD_MOD_goes_20 : decode nC_MOD_goes 20 = .ok (.ireturn, 1) := by decide +kernel
theorem nD_MOD_put_0 : decode nC_MOD_put 0 = .ok (.iload_n 1, 1) := by decide +kernel
theorem nD_MOD_put_1 : decode nC_MOD_put 1 = .ok (.ifCond .lt 57, 3) := by decide +kernel
theorem nD_MOD_put_4 : decode nC_MOD_put 4 = .ok (.iload_n 1, 1) := by decide +kernel
theorem nD_MOD_put_5 : decode nC_MOD_put 5 = .ok (.bipush 12, 2) := by decide +kernel
theorem nD_MOD_put_7 : decode nC_MOD_put 7 = .ok (.if_icmp .gt 51, 3) := by decide +kernel
theorem nD_MOD_put_10 : decode nC_MOD_put 10 = .ok (.iload_n 2, 1) := by decide +kernel
theorem nD_MOD_put_11 : decode nC_MOD_put 11 = .ok (.invokestatic 145, 3) := by decide +kernel
theorem nD_MOD_put_14 : decode nC_MOD_put 14 = .ok (.ifCond .eq 44, 3) := by decide +kernel
theorem nD_MOD_put_17 : decode nC_MOD_put 17 = .ok (.iload_n 3, 1) := by decide +kernel
theorem nD_MOD_put_18 : decode nC_MOD_put 18 = .ok (.invokestatic 145, 3) := by decide +kernel
theorem nD_MOD_put_21 : decode nC_MOD_put 21 = .ok (.ifCond .eq 37, 3) := by decide +kernel
theorem nD_MOD_put_24 : decode nC_MOD_put 24 = .ok (.iload 4, 2) := by decide +kernel
theorem nD_MOD_put_26 : decode nC_MOD_put 26 = .ok (.invokestatic 145, 3) := by decide +kernel
theorem nD_MOD_put_29 : decode nC_MOD_put 29 = .ok (.ifCond .eq 29, 3) := by decide +kernel
theorem nD_MOD_put_32 : decode nC_MOD_put 32 = .ok (.iload_n 1, 1) := by decide +kernel
theorem nD_MOD_put_33 : decode nC_MOD_put 33 = .ok (.bipush 8, 2) := by decide +kernel
theorem nD_MOD_put_35 : decode nC_MOD_put 35 = .ok (.if_icmp .eq 19, 3) := by decide +kernel
theorem nD_MOD_put_38 : decode nC_MOD_put 38 = .ok (.iload 5, 2) := by decide +kernel
theorem nD_MOD_put_40 : decode nC_MOD_put 40 = .ok (.sipush (-1000), 3) := by decide +kernel
theorem nD_MOD_put_43 : decode nC_MOD_put 43 = .ok (.if_icmp .lt 15, 3) := by decide +kernel
theorem nD_MOD_put_46 : decode nC_MOD_put 46 = .ok (.iload 5, 2) := by decide +kernel
theorem nD_MOD_put_48 : decode nC_MOD_put 48 = .ok (.sipush 1000, 3) := by decide +kernel
theorem nD_MOD_put_51 : decode nC_MOD_put 51 = .ok (.if_icmp .gt 7, 3) := by decide +kernel
theorem nD_MOD_put_54 : decode nC_MOD_put 54 = .ok (.iconst 1, 1) := by decide +kernel
theorem nD_MOD_put_55 : decode nC_MOD_put 55 = .ok (.goto 4, 3) := by decide +kernel
theorem nD_MOD_put_58 : decode nC_MOD_put 58 = .ok (.iconst 0, 1) := by decide +kernel
theorem nD_MOD_put_59 : decode nC_MOD_put 59 = .ok (.istore 6, 2) := by decide +kernel
theorem nD_MOD_put_61 : decode nC_MOD_put 61 = .ok (.aload_n 0, 1) := by decide +kernel
theorem nD_MOD_put_62 : decode nC_MOD_put 62 = .ok (.iload 6, 2) := by decide +kernel
theorem nD_MOD_put_64 : decode nC_MOD_put 64 = .ok (.ifCond .ne 7, 3) := by decide +kernel
theorem nD_MOD_put_67 : decode nC_MOD_put 67 = .ok (.iconst 1, 1) := by decide +kernel
theorem nD_MOD_put_68 : decode nC_MOD_put 68 = .ok (.goto 24, 3) := by decide +kernel
theorem nD_MOD_put_71 : decode nC_MOD_put 71 = .ok (.aload_n 0, 1) := by decide +kernel
theorem nD_MOD_put_72 : decode nC_MOD_put 72 = .ok (.getfield 148, 3) := by decide +kernel
theorem nD_MOD_put_75 : decode nC_MOD_put 75 = .ok (.bipush 30, 2) := by decide +kernel
theorem nD_MOD_put_77 : decode nC_MOD_put 77 = .ok (.if_icmp .eq 10, 3) := by decide +kernel
theorem nD_MOD_put_80 : decode nC_MOD_put 80 = .ok (.aload_n 0, 1) := by decide +kernel
theorem nD_MOD_put_81 : decode nC_MOD_put 81 = .ok (.invokevirtual 151, 3) := by decide +kernel
theorem nD_MOD_put_84 : decode nC_MOD_put 84 = .ok (.ifCond .eq 7, 3) := by decide +kernel
theorem nD_MOD_put_87 : decode nC_MOD_put 87 = .ok (.iconst 2, 1) := by decide +kernel
theorem nD_MOD_put_88 : decode nC_MOD_put 88 = .ok (.goto 4, 3) := by decide +kernel
theorem nD_MOD_put_91 : decode nC_MOD_put 91 = .ok (.iconst 0, 1) := by decide +kernel
theorem nD_MOD_put_92 : decode nC_MOD_put 92 = .ok (.putfield 78, 3) := by decide +kernel
theorem nD_MOD_put_95 : decode nC_MOD_put 95 = .ok (.aload_n 0, 1) := by decide +kernel
theorem nD_MOD_put_96 : decode nC_MOD_put 96 = .ok (.getfield 78, 3) := by decide +kernel
theorem nD_MOD_put_99 : decode nC_MOD_put 99 = .ok (.ifCond .le 5, 3) := by decide +kernel
theorem nD_MOD_put_102 : decode nC_MOD_put 102 = .ok (.iconst 0, 1) := by decide +kernel
theorem nD_MOD_put_103 : decode nC_MOD_put 103 = .ok (.ireturn, 1) := by decide +kernel
theorem nD_MOD_put_104 : decode nC_MOD_put 104 = .ok (.aload_n 0, 1) := by decide +kernel
theorem nD_MOD_put_105 : decode nC_MOD_put 105 = .ok (.getfield 7, 3) := by decide +kernel
theorem nD_MOD_put_108 : decode nC_MOD_put 108 = .ok (.aload_n 0, 1) := by decide +kernel
theorem nD_MOD_put_109 : decode nC_MOD_put 109 = .ok (.getfield 148, 3) := by decide +kernel
theorem nD_MOD_put_112 : decode nC_MOD_put 112 = .ok (.iload_n 1, 1) := by decide +kernel
theorem nD_MOD_put_113 : decode nC_MOD_put 113 = .ok (.iastore, 1) := by decide +kernel
theorem nD_MOD_put_114 : decode nC_MOD_put 114 = .ok (.aload_n 0, 1) := by decide +kernel
theorem nD_MOD_put_115 : decode nC_MOD_put 115 = .ok (.getfield 13, 3) := by decide +kernel
theorem nD_MOD_put_118 : decode nC_MOD_put 118 = .ok (.aload_n 0, 1) := by decide +kernel
theorem nD_MOD_put_119 : decode nC_MOD_put 119 = .ok (.getfield 148, 3) := by decide +kernel
theorem nD_MOD_put_122 : decode nC_MOD_put 122 = .ok (.iload_n 2, 1) := by decide +kernel
theorem nD_MOD_put_123 : decode nC_MOD_put 123 = .ok (.iastore, 1) := by decide +kernel
theorem nD_MOD_put_124 : decode nC_MOD_put 124 = .ok (.aload_n 0, 1) := by decide +kernel
theorem nD_MOD_put_125 : decode nC_MOD_put 125 = .ok (.getfield 16, 3) := by decide +kernel
theorem nD_MOD_put_128 : decode nC_MOD_put 128 = .ok (.aload_n 0, 1) := by decide +kernel
theorem nD_MOD_put_129 : decode nC_MOD_put 129 = .ok (.getfield 148, 3) := by decide +kernel
theorem nD_MOD_put_132 : decode nC_MOD_put 132 = .ok (.iload_n 3, 1) := by decide +kernel
theorem nD_MOD_put_133 : decode nC_MOD_put 133 = .ok (.iastore, 1) := by decide +kernel
theorem nD_MOD_put_134 : decode nC_MOD_put 134 = .ok (.aload_n 0, 1) := by decide +kernel
theorem nD_MOD_put_135 : decode nC_MOD_put 135 = .ok (.getfield 19, 3) := by decide +kernel
theorem nD_MOD_put_138 : decode nC_MOD_put 138 = .ok (.aload_n 0, 1) := by decide +kernel
theorem nD_MOD_put_139 : decode nC_MOD_put 139 = .ok (.getfield 148, 3) := by decide +kernel
theorem nD_MOD_put_142 : decode nC_MOD_put 142 = .ok (.iload 4, 2) := by decide +kernel
theorem nD_MOD_put_144 : decode nC_MOD_put 144 = .ok (.iastore, 1) := by decide +kernel
theorem nD_MOD_put_145 : decode nC_MOD_put 145 = .ok (.aload_n 0, 1) := by decide +kernel
theorem nD_MOD_put_146 : decode nC_MOD_put 146 = .ok (.getfield 22, 3) := by decide +kernel
theorem nD_MOD_put_149 : decode nC_MOD_put 149 = .ok (.aload_n 0, 1) := by decide +kernel
theorem nD_MOD_put_150 : decode nC_MOD_put 150 = .ok (.getfield 148, 3) := by decide +kernel
theorem nD_MOD_put_153 : decode nC_MOD_put 153 = .ok (.iload 5, 2) := by decide +kernel
theorem nD_MOD_put_155 : decode nC_MOD_put 155 = .ok (.iastore, 1) := by decide +kernel
theorem nD_MOD_put_156 : decode nC_MOD_put 156 = .ok (.aload_n 0, 1) := by decide +kernel
theorem nD_MOD_put_157 : decode nC_MOD_put 157 = .ok (.dup, 1) := by decide +kernel
theorem nD_MOD_put_158 : decode nC_MOD_put 158 = .ok (.getfield 148, 3) := by decide +kernel
theorem nD_MOD_put_161 : decode nC_MOD_put 161 = .ok (.iconst 1, 1) := by decide +kernel
theorem nD_MOD_put_162 : decode nC_MOD_put 162 = .ok (.iadd, 1) := by decide +kernel
theorem nD_MOD_put_163 : decode nC_MOD_put 163 = .ok (.putfield 148, 3) := by decide +kernel
theorem nD_MOD_put_166 : decode nC_MOD_put 166 = .ok (.aload_n 0, 1) := by decide +kernel
theorem nD_MOD_put_167 : decode nC_MOD_put 167 = .ok (.getfield 148, 3) := by decide +kernel
theorem nD_MOD_put_170 : decode nC_MOD_put 170 = .ok (.iconst 1, 1) := by decide +kernel
theorem nD_MOD_put_171 : decode nC_MOD_put 171 = .ok (.isub, 1) := by decide +kernel
theorem nD_MOD_put_172 : decode nC_MOD_put 172 = .ok (.ireturn, 1) := by decide +kernel
theorem nD_MOD_start_0 : decode nC_MOD_start 0 = .ok (.aload_n 0, 1) := by decide +kernel
theorem nD_MOD_start_1 : decode nC_MOD_start 1 = .ok (.iload_n 1, 1) := by decide +kernel
theorem nD_MOD_start_2 : decode nC_MOD_start 2 = .ok (.ifCond .lt 11, 3) := by decide +kernel
theorem nD_MOD_start_5 : decode nC_MOD_start 5 = .ok (.iload_n 1, 1) := by decide +kernel
theorem nD_MOD_start_6 : decode nC_MOD_start 6 = .ok (.aload_n 0, 1) := by decide +kernel
theorem nD_MOD_start_7 : decode nC_MOD_start 7 = .ok (.getfield 148, 3) := by decide +kernel
theorem nD_MOD_start_10 : decode nC_MOD_start 10 = .ok (.if_icmp .lt 7, 3) := by decide +kernel
theorem nD_MOD_start_13 : decode nC_MOD_start 13 = .ok (.iconst 1, 1) := by decide +kernel
theorem nD_MOD_start_14 : decode nC_MOD_start 14 = .ok (.goto 15, 3) := by decide +kernel
theorem nD_MOD_start_17 : decode nC_MOD_start 17 = .ok (.aload_n 0, 1) := by decide +kernel
theorem nD_MOD_start_18 : decode nC_MOD_start 18 = .ok (.invokevirtual 151, 3) := by decide +kernel
theorem nD_MOD_start_21 : decode nC_MOD_start 21 = .ok (.ifCond .eq 7, 3) := by decide +kernel
theorem nD_MOD_start_24 : decode nC_MOD_start 24 = .ok (.iconst 2, 1) := by decide +kernel
theorem nD_MOD_start_25 : decode nC_MOD_start 25 = .ok (.goto 4, 3) := by decide +kernel
theorem nD_MOD_start_28 : decode nC_MOD_start 28 = .ok (.iconst 0, 1) := by decide +kernel
theorem nD_MOD_start_29 : decode nC_MOD_start 29 = .ok (.putfield 78, 3) := by decide +kernel
theorem nD_MOD_start_32 : decode nC_MOD_start 32 = .ok (.aload_n 0, 1) := by decide +kernel
theorem nD_MOD_start_33 : decode nC_MOD_start 33 = .ok (.getfield 78, 3) := by decide +kernel
theorem nD_MOD_start_36 : decode nC_MOD_start 36 = .ok (.ifCond .le 5, 3) := by decide +kernel
theorem nD_MOD_start_39 : decode nC_MOD_start 39 = .ok (.iconst 0, 1) := by decide +kernel
theorem nD_MOD_start_40 : decode nC_MOD_start 40 = .ok (.ireturn, 1) := by decide +kernel
theorem nD_MOD_start_41 : decode nC_MOD_start 41 = .ok (.aload_n 0, 1) := by decide +kernel
theorem nD_MOD_start_42 : decode nC_MOD_start 42 = .ok (.iload_n 1, 1) := by decide +kernel
theorem nD_MOD_start_43 : decode nC_MOD_start 43 = .ok (.putfield 155, 3) := by decide +kernel
theorem nD_MOD_start_46 : decode nC_MOD_start 46 = .ok (.aload_n 0, 1) := by decide +kernel
theorem nD_MOD_start_47 : decode nC_MOD_start 47 = .ok (.iconst 0, 1) := by decide +kernel
theorem nD_MOD_start_48 : decode nC_MOD_start 48 = .ok (.putfield 158, 3) := by decide +kernel
theorem nD_MOD_start_51 : decode nC_MOD_start 51 = .ok (.aload_n 0, 1) := by decide +kernel
theorem nD_MOD_start_52 : decode nC_MOD_start 52 = .ok (.iconst 0, 1) := by decide +kernel
theorem nD_MOD_start_53 : decode nC_MOD_start 53 = .ok (.putfield 25, 3) := by decide +kernel
theorem nD_MOD_start_56 : decode nC_MOD_start 56 = .ok (.iconst 1, 1) := by decide +kernel
theorem nD_MOD_start_57 : decode nC_MOD_start 57 = .ok (.ireturn, 1) := by decide +kernel
theorem nD_MOD_set_0 : decode nC_MOD_set 0 = .ok (.aload_n 0, 1) := by decide +kernel
theorem nD_MOD_set_1 : decode nC_MOD_set 1 = .ok (.iload_n 1, 1) := by decide +kernel
theorem nD_MOD_set_2 : decode nC_MOD_set 2 = .ok (.invokestatic 145, 3) := by decide +kernel
theorem nD_MOD_set_5 : decode nC_MOD_set 5 = .ok (.ifCond .ne 7, 3) := by decide +kernel
theorem nD_MOD_set_8 : decode nC_MOD_set 8 = .ok (.iconst 1, 1) := by decide +kernel
theorem nD_MOD_set_9 : decode nC_MOD_set 9 = .ok (.goto 15, 3) := by decide +kernel
theorem nD_MOD_set_12 : decode nC_MOD_set 12 = .ok (.aload_n 0, 1) := by decide +kernel
theorem nD_MOD_set_13 : decode nC_MOD_set 13 = .ok (.invokevirtual 151, 3) := by decide +kernel
theorem nD_MOD_set_16 : decode nC_MOD_set 16 = .ok (.ifCond .eq 7, 3) := by decide +kernel
theorem nD_MOD_set_19 : decode nC_MOD_set 19 = .ok (.iconst 2, 1) := by decide +kernel
theorem nD_MOD_set_20 : decode nC_MOD_set 20 = .ok (.goto 4, 3) := by decide +kernel
theorem nD_MOD_set_23 : decode nC_MOD_set 23 = .ok (.iconst 0, 1) := by decide +kernel
theorem nD_MOD_set_24 : decode nC_MOD_set 24 = .ok (.putfield 78, 3) := by decide +kernel
theorem nD_MOD_set_27 : decode nC_MOD_set 27 = .ok (.aload_n 0, 1) := by decide +kernel
theorem nD_MOD_set_28 : decode nC_MOD_set 28 = .ok (.getfield 78, 3) := by decide +kernel
theorem nD_MOD_set_31 : decode nC_MOD_set 31 = .ok (.ifCond .le 5, 3) := by decide +kernel
theorem nD_MOD_set_34 : decode nC_MOD_set 34 = .ok (.iconst 0, 1) := by decide +kernel
theorem nD_MOD_set_35 : decode nC_MOD_set 35 = .ok (.ireturn, 1) := by decide +kernel
theorem nD_MOD_set_36 : decode nC_MOD_set 36 = .ok (.aload_n 0, 1) := by decide +kernel
theorem nD_MOD_set_37 : decode nC_MOD_set 37 = .ok (.getfield 29, 3) := by decide +kernel
theorem nD_MOD_set_40 : decode nC_MOD_set 40 = .ok (.iload_n 1, 1) := by decide +kernel
theorem nD_MOD_set_41 : decode nC_MOD_set 41 = .ok (.iload_n 2, 1) := by decide +kernel
theorem nD_MOD_set_42 : decode nC_MOD_set 42 = .ok (.iastore, 1) := by decide +kernel
theorem nD_MOD_set_43 : decode nC_MOD_set 43 = .ok (.iconst 1, 1) := by decide +kernel
theorem nD_MOD_set_44 : decode nC_MOD_set 44 = .ok (.ireturn, 1) := by decide +kernel
theorem nD_MOD_isPlace_0 : decode nC_MOD_isPlace 0 = .ok (.iload_n 0, 1) := by decide +kernel
theorem nD_MOD_isPlace_1 : decode nC_MOD_isPlace 1 = .ok (.ifCond .lt 13, 3) := by decide +kernel
theorem nD_MOD_isPlace_4 : decode nC_MOD_isPlace 4 = .ok (.iload_n 0, 1) := by decide +kernel
theorem nD_MOD_isPlace_5 : decode nC_MOD_isPlace 5 = .ok (.bipush 31, 2) := by decide +kernel
theorem nD_MOD_isPlace_7 : decode nC_MOD_isPlace 7 = .ok (.if_icmp .gt 7, 3) := by decide +kernel
theorem nD_MOD_isPlace_10 : decode nC_MOD_isPlace 10 = .ok (.iconst 1, 1) := by decide +kernel
theorem nD_MOD_isPlace_11 : decode nC_MOD_isPlace 11 = .ok (.goto 4, 3) := by decide +kernel
theorem nD_MOD_isPlace_14 : decode nC_MOD_isPlace 14 = .ok (.iconst 0, 1) := by decide +kernel
theorem nD_MOD_isPlace_15 : decode nC_MOD_isPlace 15 = .ok (.ireturn, 1) := by decide +kernel
theorem nD_MOD_store_0 : decode nC_MOD_store 0 = .ok (.aload_n 0, 1) := by decide +kernel
theorem nD_MOD_store_1 : decode nC_MOD_store 1 = .ok (.iload_n 1, 1) := by decide +kernel
theorem nD_MOD_store_2 : decode nC_MOD_store 2 = .ok (.invokestatic 161, 3) := by decide +kernel
theorem nD_MOD_store_5 : decode nC_MOD_store 5 = .ok (.ifCond .ne 7, 3) := by decide +kernel
theorem nD_MOD_store_8 : decode nC_MOD_store 8 = .ok (.iconst 1, 1) := by decide +kernel
theorem nD_MOD_store_9 : decode nC_MOD_store 9 = .ok (.goto 15, 3) := by decide +kernel
theorem nD_MOD_store_12 : decode nC_MOD_store 12 = .ok (.aload_n 0, 1) := by decide +kernel
theorem nD_MOD_store_13 : decode nC_MOD_store 13 = .ok (.invokevirtual 151, 3) := by decide +kernel
theorem nD_MOD_store_16 : decode nC_MOD_store 16 = .ok (.ifCond .eq 7, 3) := by decide +kernel
theorem nD_MOD_store_19 : decode nC_MOD_store 19 = .ok (.iconst 2, 1) := by decide +kernel
theorem nD_MOD_store_20 : decode nC_MOD_store 20 = .ok (.goto 4, 3) := by decide +kernel
theorem nD_MOD_store_23 : decode nC_MOD_store 23 = .ok (.iconst 0, 1) := by decide +kernel
theorem nD_MOD_store_24 : decode nC_MOD_store 24 = .ok (.putfield 78, 3) := by decide +kernel
theorem nD_MOD_store_27 : decode nC_MOD_store 27 = .ok (.aload_n 0, 1) := by decide +kernel
theorem nD_MOD_store_28 : decode nC_MOD_store 28 = .ok (.getfield 78, 3) := by decide +kernel
theorem nD_MOD_store_31 : decode nC_MOD_store 31 = .ok (.ifCond .le 5, 3) := by decide +kernel
theorem nD_MOD_store_34 : decode nC_MOD_store 34 = .ok (.iconst 0, 1) := by decide +kernel
theorem nD_MOD_store_35 : decode nC_MOD_store 35 = .ok (.ireturn, 1) := by decide +kernel
theorem nD_MOD_store_36 : decode nC_MOD_store 36 = .ok (.aload_n 0, 1) := by decide +kernel
theorem nD_MOD_store_37 : decode nC_MOD_store 37 = .ok (.getfield 38, 3) := by decide +kernel
theorem nD_MOD_store_40 : decode nC_MOD_store 40 = .ok (.iload_n 1, 1) := by decide +kernel
theorem nD_MOD_store_41 : decode nC_MOD_store 41 = .ok (.iload_n 2, 1) := by decide +kernel
theorem nD_MOD_store_42 : decode nC_MOD_store 42 = .ok (.iastore, 1) := by decide +kernel
theorem nD_MOD_store_43 : decode nC_MOD_store 43 = .ok (.iconst 1, 1) := by decide +kernel
theorem nD_MOD_store_44 : decode nC_MOD_store 44 = .ok (.ireturn, 1) := by decide +kernel
theorem nD_MOD_turnOf_0 : decode nC_MOD_turnOf 0 = .ok (.iload_n 0, 1) := by decide +kernel
theorem nD_MOD_turnOf_1 : decode nC_MOD_turnOf 1 = .ok (.iconst 4, 1) := by decide +kernel
theorem nD_MOD_turnOf_2 : decode nC_MOD_turnOf 2 = .ok (.if_icmp .ge 10, 3) := by decide +kernel
theorem nD_MOD_turnOf_5 : decode nC_MOD_turnOf 5 = .ok (.bipush 6, 2) := by decide +kernel
theorem nD_MOD_turnOf_7 : decode nC_MOD_turnOf 7 = .ok (.iload_n 0, 1) := by decide +kernel
theorem nD_MOD_turnOf_8 : decode nC_MOD_turnOf 8 = .ok (.iadd, 1) := by decide +kernel
theorem nD_MOD_turnOf_9 : decode nC_MOD_turnOf 9 = .ok (.goto 6, 3) := by decide +kernel
theorem nD_MOD_turnOf_12 : decode nC_MOD_turnOf 12 = .ok (.iload_n 0, 1) := by decide +kernel
theorem nD_MOD_turnOf_13 : decode nC_MOD_turnOf 13 = .ok (.iconst 3, 1) := by decide +kernel
theorem nD_MOD_turnOf_14 : decode nC_MOD_turnOf 14 = .ok (.isub, 1) := by decide +kernel
theorem nD_MOD_turnOf_15 : decode nC_MOD_turnOf 15 = .ok (.ireturn, 1) := by decide +kernel
theorem nD_MOD_bus_0 : decode nC_MOD_bus 0 = .ok (.iconst 0, 1) := by decide +kernel
theorem nD_MOD_bus_1 : decode nC_MOD_bus 1 = .ok (.istore_n 1, 1) := by decide +kernel
theorem nD_MOD_bus_2 : decode nC_MOD_bus 2 = .ok (.bipush 8, 2) := by decide +kernel
theorem nD_MOD_bus_4 : decode nC_MOD_bus 4 = .ok (.istore_n 2, 1) := by decide +kernel
theorem nD_MOD_bus_5 : decode nC_MOD_bus 5 = .ok (.iload_n 2, 1) := by decide +kernel
theorem nD_MOD_bus_6 : decode nC_MOD_bus 6 = .ok (.ifCond .lt 31, 3) := by decide +kernel
theorem nD_MOD_bus_9 : decode nC_MOD_bus 9 = .ok (.aload_n 0, 1) := by decide +kernel
theorem nD_MOD_bus_10 : decode nC_MOD_bus 10 = .ok (.getfield 41, 3) := by decide +kernel
theorem nD_MOD_bus_13 : decode nC_MOD_bus 13 = .ok (.iload_n 2, 1) := by decide +kernel
theorem nD_MOD_bus_14 : decode nC_MOD_bus 14 = .ok (.invokestatic 164, 3) := by decide +kernel
theorem nD_MOD_bus_17 : decode nC_MOD_bus 17 = .ok (.iaload, 1) := by decide +kernel
theorem nD_MOD_bus_18 : decode nC_MOD_bus 18 = .ok (.iconst 3, 1) := by decide +kernel
theorem nD_MOD_bus_19 : decode nC_MOD_bus 19 = .ok (.if_icmp .ne 10, 3) := by decide +kernel
theorem nD_MOD_bus_22 : decode nC_MOD_bus 22 = .ok (.iload_n 2, 1) := by decide +kernel
theorem nD_MOD_bus_23 : decode nC_MOD_bus 23 = .ok (.invokestatic 164, 3) := by decide +kernel
theorem nD_MOD_bus_26 : decode nC_MOD_bus 26 = .ok (.goto 4, 3) := by decide +kernel
theorem nD_MOD_bus_29 : decode nC_MOD_bus 29 = .ok (.iload_n 1, 1) := by decide +kernel
theorem nD_MOD_bus_30 : decode nC_MOD_bus 30 = .ok (.istore_n 1, 1) := by decide +kernel
theorem nD_MOD_bus_31 : decode nC_MOD_bus 31 = .ok (.iinc 2 (-1), 3) := by decide +kernel
theorem nD_MOD_bus_34 : decode nC_MOD_bus 34 = .ok (.goto (-29), 3) := by decide +kernel
theorem nD_MOD_bus_37 : decode nC_MOD_bus 37 = .ok (.iload_n 1, 1) := by decide +kernel
theorem nD_MOD_bus_38 : decode nC_MOD_bus 38 = .ok (.ifCond .ne 4, 3) := by decide +kernel
theorem nD_MOD_bus_41 : decode nC_MOD_bus 41 = .ok (.return_, 1) := by decide +kernel
theorem nD_MOD_bus_42 : decode nC_MOD_bus 42 = .ok (.iconst 0, 1) := by decide +kernel
theorem nD_MOD_bus_43 : decode nC_MOD_bus 43 = .ok (.istore_n 2, 1) := by decide +kernel
theorem nD_MOD_bus_44 : decode nC_MOD_bus 44 = .ok (.iload_n 2, 1) := by decide +kernel
theorem nD_MOD_bus_45 : decode nC_MOD_bus 45 = .ok (.bipush 26, 2) := by decide +kernel
theorem nD_MOD_bus_47 : decode nC_MOD_bus 47 = .ok (.if_icmp .ge 81, 3) := by decide +kernel
theorem nD_MOD_bus_50 : decode nC_MOD_bus 50 = .ok (.aload_n 0, 1) := by decide +kernel
theorem nD_MOD_bus_51 : decode nC_MOD_bus 51 = .ok (.getfield 59, 3) := by decide +kernel
theorem nD_MOD_bus_54 : decode nC_MOD_bus 54 = .ok (.iload_n 2, 1) := by decide +kernel
theorem nD_MOD_bus_55 : decode nC_MOD_bus 55 = .ok (.iaload, 1) := by decide +kernel
theorem nD_MOD_bus_56 : decode nC_MOD_bus 56 = .ok (.iload_n 1, 1) := by decide +kernel
theorem nD_MOD_bus_57 : decode nC_MOD_bus 57 = .ok (.if_icmp .ne 18, 3) := by decide +kernel
theorem nD_MOD_bus_60 : decode nC_MOD_bus 60 = .ok (.aload_n 0, 1) := by decide +kernel
theorem nD_MOD_bus_61 : decode nC_MOD_bus 61 = .ok (.getfield 41, 3) := by decide +kernel
theorem nD_MOD_bus_64 : decode nC_MOD_bus 64 = .ok (.iload_n 2, 1) := by decide +kernel
theorem nD_MOD_bus_65 : decode nC_MOD_bus 65 = .ok (.iconst 2, 1) := by decide +kernel
theorem nD_MOD_bus_66 : decode nC_MOD_bus 66 = .ok (.idiv, 1) := by decide +kernel
theorem nD_MOD_bus_67 : decode nC_MOD_bus 67 = .ok (.iaload, 1) := by decide +kernel
theorem nD_MOD_bus_68 : decode nC_MOD_bus 68 = .ok (.ifCond .le 7, 3) := by decide +kernel
theorem nD_MOD_bus_71 : decode nC_MOD_bus 71 = .ok (.iconst 1, 1) := by decide +kernel
theorem nD_MOD_bus_72 : decode nC_MOD_bus 72 = .ok (.goto 4, 3) := by decide +kernel
theorem nD_MOD_bus_75 : decode nC_MOD_bus 75 = .ok (.iconst 0, 1) := by decide +kernel
theorem nD_MOD_bus_76 : decode nC_MOD_bus 76 = .ok (.istore_n 3, 1) := by decide +kernel
theorem nD_MOD_bus_77 : decode nC_MOD_bus 77 = .ok (.aload_n 0, 1) := by decide +kernel
theorem nD_MOD_bus_78 : decode nC_MOD_bus 78 = .ok (.getfield 56, 3) := by decide +kernel
theorem nD_MOD_bus_81 : decode nC_MOD_bus 81 = .ok (.iload_n 2, 1) := by decide +kernel
theorem nD_MOD_bus_82 : decode nC_MOD_bus 82 = .ok (.iload_n 3, 1) := by decide +kernel
theorem nD_MOD_bus_83 : decode nC_MOD_bus 83 = .ok (.ifCond .eq 12, 3) := by decide +kernel
theorem nD_MOD_bus_86 : decode nC_MOD_bus 86 = .ok (.aload_n 0, 1) := by decide +kernel
theorem nD_MOD_bus_87 : decode nC_MOD_bus 87 = .ok (.getfield 50, 3) := by decide +kernel
theorem nD_MOD_bus_90 : decode nC_MOD_bus 90 = .ok (.iload_n 1, 1) := by decide +kernel
theorem nD_MOD_bus_91 : decode nC_MOD_bus 91 = .ok (.iaload, 1) := by decide +kernel
theorem nD_MOD_bus_92 : decode nC_MOD_bus 92 = .ok (.goto 9, 3) := by decide +kernel
theorem nD_MOD_bus_95 : decode nC_MOD_bus 95 = .ok (.aload_n 0, 1) := by decide +kernel
theorem nD_MOD_bus_96 : decode nC_MOD_bus 96 = .ok (.getfield 56, 3) := by decide +kernel
theorem nD_MOD_bus_99 : decode nC_MOD_bus 99 = .ok (.iload_n 2, 1) := by decide +kernel
theorem nD_MOD_bus_100 : decode nC_MOD_bus 100 = .ok (.iaload, 1) := by decide +kernel
theorem nD_MOD_bus_101 : decode nC_MOD_bus 101 = .ok (.iastore, 1) := by decide +kernel
theorem nD_MOD_bus_102 : decode nC_MOD_bus 102 = .ok (.aload_n 0, 1) := by decide +kernel
theorem nD_MOD_bus_103 : decode nC_MOD_bus 103 = .ok (.getfield 59, 3) := by decide +kernel
theorem nD_MOD_bus_106 : decode nC_MOD_bus 106 = .ok (.iload_n 2, 1) := by decide +kernel
theorem nD_MOD_bus_107 : decode nC_MOD_bus 107 = .ok (.iload_n 3, 1) := by decide +kernel
theorem nD_MOD_bus_108 : decode nC_MOD_bus 108 = .ok (.ifCond .eq 7, 3) := by decide +kernel
theorem nD_MOD_bus_111 : decode nC_MOD_bus 111 = .ok (.iconst 0, 1) := by decide +kernel
theorem nD_MOD_bus_112 : decode nC_MOD_bus 112 = .ok (.goto 9, 3) := by decide +kernel
theorem nD_MOD_bus_115 : decode nC_MOD_bus 115 = .ok (.aload_n 0, 1) := by decide +kernel
theorem nD_MOD_bus_116 : decode nC_MOD_bus 116 = .ok (.getfield 59, 3) := by decide +kernel
theorem nD_MOD_bus_119 : decode nC_MOD_bus 119 = .ok (.iload_n 2, 1) := by decide +kernel
theorem nD_MOD_bus_120 : decode nC_MOD_bus 120 = .ok (.iaload, 1) := by decide +kernel
theorem nD_MOD_bus_121 : decode nC_MOD_bus 121 = .ok (.iastore, 1) := by decide +kernel
theorem nD_MOD_bus_122 : decode nC_MOD_bus 122 = .ok (.iinc 2 1, 3) := by decide +kernel
theorem nD_MOD_bus_125 : decode nC_MOD_bus 125 = .ok (.goto (-81), 3) := by decide +kernel
theorem nD_MOD_bus_128 : decode nC_MOD_bus 128 = .ok (.iconst 0, 1) := by decide +kernel
theorem nD_MOD_bus_129 : decode nC_MOD_bus 129 = .ok (.istore_n 2, 1) := by decide +kernel
theorem nD_MOD_bus_130 : decode nC_MOD_bus 130 = .ok (.iload_n 2, 1) := by decide +kernel
theorem nD_MOD_bus_131 : decode nC_MOD_bus 131 = .ok (.iconst 5, 1) := by decide +kernel
theorem nD_MOD_bus_132 : decode nC_MOD_bus 132 = .ok (.if_icmp .ge 70, 3) := by decide +kernel
theorem nD_MOD_bus_135 : decode nC_MOD_bus 135 = .ok (.aload_n 0, 1) := by decide +kernel
theorem nD_MOD_bus_136 : decode nC_MOD_bus 136 = .ok (.getfield 32, 3) := by decide +kernel
theorem nD_MOD_bus_139 : decode nC_MOD_bus 139 = .ok (.iload_n 2, 1) := by decide +kernel
theorem nD_MOD_bus_140 : decode nC_MOD_bus 140 = .ok (.iaload, 1) := by decide +kernel
theorem nD_MOD_bus_141 : decode nC_MOD_bus 141 = .ok (.iload_n 1, 1) := by decide +kernel
theorem nD_MOD_bus_142 : decode nC_MOD_bus 142 = .ok (.if_icmp .ne 7, 3) := by decide +kernel
theorem nD_MOD_bus_145 : decode nC_MOD_bus 145 = .ok (.iconst 1, 1) := by decide +kernel
theorem nD_MOD_bus_146 : decode nC_MOD_bus 146 = .ok (.goto 4, 3) := by decide +kernel
theorem nD_MOD_bus_149 : decode nC_MOD_bus 149 = .ok (.iconst 0, 1) := by decide +kernel
theorem nD_MOD_bus_150 : decode nC_MOD_bus 150 = .ok (.istore_n 3, 1) := by decide +kernel
theorem nD_MOD_bus_151 : decode nC_MOD_bus 151 = .ok (.aload_n 0, 1) := by decide +kernel
theorem nD_MOD_bus_152 : decode nC_MOD_bus 152 = .ok (.getfield 29, 3) := by decide +kernel
theorem nD_MOD_bus_155 : decode nC_MOD_bus 155 = .ok (.iload_n 2, 1) := by decide +kernel
theorem nD_MOD_bus_156 : decode nC_MOD_bus 156 = .ok (.iload_n 3, 1) := by decide +kernel
theorem nD_MOD_bus_157 : decode nC_MOD_bus 157 = .ok (.ifCond .eq 12, 3) := by decide +kernel
theorem nD_MOD_bus_160 : decode nC_MOD_bus 160 = .ok (.aload_n 0, 1) := by decide +kernel
theorem nD_MOD_bus_161 : decode nC_MOD_bus 161 = .ok (.getfield 50, 3) := by decide +kernel
theorem nD_MOD_bus_164 : decode nC_MOD_bus 164 = .ok (.iload_n 1, 1) := by decide +kernel
theorem nD_MOD_bus_165 : decode nC_MOD_bus 165 = .ok (.iaload, 1) := by decide +kernel
theorem nD_MOD_bus_166 : decode nC_MOD_bus 166 = .ok (.goto 9, 3) := by decide +kernel
theorem nD_MOD_bus_169 : decode nC_MOD_bus 169 = .ok (.aload_n 0, 1) := by decide +kernel
theorem nD_MOD_bus_170 : decode nC_MOD_bus 170 = .ok (.getfield 29, 3) := by decide +kernel
theorem nD_MOD_bus_173 : decode nC_MOD_bus 173 = .ok (.iload_n 2, 1) := by decide +kernel
theorem nD_MOD_bus_174 : decode nC_MOD_bus 174 = .ok (.iaload, 1) := by decide +kernel
theorem nD_MOD_bus_175 : decode nC_MOD_bus 175 = .ok (.iastore, 1) := by decide +kernel
theorem nD_MOD_bus_176 : decode nC_MOD_bus 176 = .ok (.aload_n 0, 1) := by decide +kernel
theorem nD_MOD_bus_177 : decode nC_MOD_bus 177 = .ok (.getfield 32, 3) := by decide +kernel
theorem nD_MOD_bus_180 : decode nC_MOD_bus 180 = .ok (.iload_n 2, 1) := by decide +kernel
theorem nD_MOD_bus_181 : decode nC_MOD_bus 181 = .ok (.iload_n 3, 1) := by decide +kernel
theorem nD_MOD_bus_182 : decode nC_MOD_bus 182 = .ok (.ifCond .eq 7, 3) := by decide +kernel
theorem nD_MOD_bus_185 : decode nC_MOD_bus 185 = .ok (.iconst 0, 1) := by decide +kernel
theorem nD_MOD_bus_186 : decode nC_MOD_bus 186 = .ok (.goto 9, 3) := by decide +kernel
theorem nD_MOD_bus_189 : decode nC_MOD_bus 189 = .ok (.aload_n 0, 1) := by decide +kernel
theorem nD_MOD_bus_190 : decode nC_MOD_bus 190 = .ok (.getfield 32, 3) := by decide +kernel
theorem nD_MOD_bus_193 : decode nC_MOD_bus 193 = .ok (.iload_n 2, 1) := by decide +kernel
theorem nD_MOD_bus_194 : decode nC_MOD_bus 194 = .ok (.iaload, 1) := by decide +kernel
theorem nD_MOD_bus_195 : decode nC_MOD_bus 195 = .ok (.iastore, 1) := by decide +kernel
theorem nD_MOD_bus_196 : decode nC_MOD_bus 196 = .ok (.iinc 2 1, 3) := by decide +kernel
theorem nD_MOD_bus_199 : decode nC_MOD_bus 199 = .ok (.goto (-69), 3) := by decide +kernel
theorem nD_MOD_bus_202 : decode nC_MOD_bus 202 = .ok (.aload_n 0, 1) := by decide +kernel
theorem nD_MOD_bus_203 : decode nC_MOD_bus 203 = .ok (.aload_n 0, 1) := by decide +kernel
theorem nD_MOD_bus_204 : decode nC_MOD_bus 204 = .ok (.getfield 158, 3) := by decide +kernel
theorem nD_MOD_bus_207 : decode nC_MOD_bus 207 = .ok (.aload_n 0, 1) := by decide +kernel
theorem nD_MOD_bus_208 : decode nC_MOD_bus 208 = .ok (.getfield 53, 3) := by decide +kernel
theorem nD_MOD_bus_211 : decode nC_MOD_bus 211 = .ok (.iload_n 1, 1) := by decide +kernel
theorem nD_MOD_bus_212 : decode nC_MOD_bus 212 = .ok (.iaload, 1) := by decide +kernel
theorem nD_MOD_bus_213 : decode nC_MOD_bus 213 = .ok (.ior, 1) := by decide +kernel
theorem nD_MOD_bus_214 : decode nC_MOD_bus 214 = .ok (.putfield 158, 3) := by decide +kernel
theorem nD_MOD_bus_217 : decode nC_MOD_bus 217 = .ok (.aload_n 0, 1) := by decide +kernel
theorem nD_MOD_bus_218 : decode nC_MOD_bus 218 = .ok (.getfield 41, 3) := by decide +kernel
theorem nD_MOD_bus_221 : decode nC_MOD_bus 221 = .ok (.iload_n 1, 1) := by decide +kernel
theorem nD_MOD_bus_222 : decode nC_MOD_bus 222 = .ok (.iconst 0, 1) := by decide +kernel
theorem nD_MOD_bus_223 : decode nC_MOD_bus 223 = .ok (.iastore, 1) := by decide +kernel
theorem nD_MOD_bus_224 : decode nC_MOD_bus 224 = .ok (.return_, 1) := by decide +kernel
