-- decode rows (written by program)
theorem nD_TM_init_0 : decode nC_TM_init 0 = .ok (.aload_n 0, 1) := by decide +kernel
theorem nD_TM_init_1 : decode nC_TM_init 1 = .ok (.invokespecial 1, 3) := by decide +kernel
theorem nD_TM_init_4 : decode nC_TM_init 4 = .ok (.aload_n 0, 1) := by decide +kernel
theorem nD_TM_init_5 : decode nC_TM_init 5 = .ok (.iconst 1, 1) := by decide +kernel
theorem nD_TM_init_6 : decode nC_TM_init 6 = .ok (.bipush 8, 2) := by decide +kernel
theorem nD_TM_init_8 : decode nC_TM_init 8 = .ok (.iload_n 1, 1) := by decide +kernel
theorem nD_TM_init_9 : decode nC_TM_init 9 = .ok (.invokestatic 9, 3) := by decide +kernel
theorem nD_TM_init_12 : decode nC_TM_init 12 = .ok (.invokestatic 15, 3) := by decide +kernel
theorem nD_TM_init_15 : decode nC_TM_init 15 = .ok (.putfield 18, 3) := by decide +kernel
theorem nD_TM_init_18 : decode nC_TM_init 18 = .ok (.aload_n 0, 1) := by decide +kernel
theorem nD_TM_init_19 : decode nC_TM_init 19 = .ok (.iconst 1, 1) := by decide +kernel
theorem nD_TM_init_20 : decode nC_TM_init 20 = .ok (.bipush 8, 2) := by decide +kernel
theorem nD_TM_init_22 : decode nC_TM_init 22 = .ok (.iload_n 2, 1) := by decide +kernel
theorem nD_TM_init_23 : decode nC_TM_init 23 = .ok (.invokestatic 9, 3) := by decide +kernel
theorem nD_TM_init_26 : decode nC_TM_init 26 = .ok (.invokestatic 15, 3) := by decide +kernel
theorem nD_TM_init_29 : decode nC_TM_init 29 = .ok (.putfield 22, 3) := by decide +kernel
theorem nD_TM_init_32 : decode nC_TM_init 32 = .ok (.aload_n 0, 1) := by decide +kernel
theorem nD_TM_init_33 : decode nC_TM_init 33 = .ok (.bipush 30, 2) := by decide +kernel
theorem nD_TM_init_35 : decode nC_TM_init 35 = .ok (.anewarray 25, 3) := by decide +kernel
theorem nD_TM_init_38 : decode nC_TM_init 38 = .ok (.putfield 27, 3) := by decide +kernel
theorem nD_TM_init_41 : decode nC_TM_init 41 = .ok (.iconst 0, 1) := by decide +kernel
theorem nD_TM_init_42 : decode nC_TM_init 42 = .ok (.istore_n 3, 1) := by decide +kernel
theorem nD_TM_init_43 : decode nC_TM_init 43 = .ok (.iload_n 3, 1) := by decide +kernel
theorem nD_TM_init_44 : decode nC_TM_init 44 = .ok (.bipush 30, 2) := by decide +kernel
theorem nD_TM_init_46 : decode nC_TM_init 46 = .ok (.if_icmp .ge 22, 3) := by decide +kernel
theorem nD_TM_init_49 : decode nC_TM_init 49 = .ok (.aload_n 0, 1) := by decide +kernel
theorem nD_TM_init_50 : decode nC_TM_init 50 = .ok (.getfield 27, 3) := by decide +kernel
theorem nD_TM_init_53 : decode nC_TM_init 53 = .ok (.iload_n 3, 1) := by decide +kernel
theorem nD_TM_init_54 : decode nC_TM_init 54 = .ok (.new 25, 3) := by decide +kernel
theorem nD_TM_init_57 : decode nC_TM_init 57 = .ok (.dup, 1) := by decide +kernel
theorem nD_TM_init_58 : decode nC_TM_init 58 = .ok (.invokespecial 31, 3) := by decide +kernel
theorem nD_TM_init_61 : decode nC_TM_init 61 = .ok (.aastore, 1) := by decide +kernel
theorem nD_TM_init_62 : decode nC_TM_init 62 = .ok (.iinc 3 1, 3) := by decide +kernel
theorem nD_TM_init_65 : decode nC_TM_init 65 = .ok (.goto (-22), 3) := by decide +kernel
theorem nD_TM_init_68 : decode nC_TM_init 68 = .ok (.aload_n 0, 1) := by decide +kernel
theorem nD_TM_init_69 : decode nC_TM_init 69 = .ok (.iconst 5, 1) := by decide +kernel
theorem nD_TM_init_70 : decode nC_TM_init 70 = .ok (.anewarray 32, 3) := by decide +kernel
theorem nD_TM_init_73 : decode nC_TM_init 73 = .ok (.putfield 34, 3) := by decide +kernel
theorem nD_TM_init_76 : decode nC_TM_init 76 = .ok (.iconst 0, 1) := by decide +kernel
theorem nD_TM_init_77 : decode nC_TM_init 77 = .ok (.istore_n 3, 1) := by decide +kernel
theorem nD_TM_init_78 : decode nC_TM_init 78 = .ok (.iload_n 3, 1) := by decide +kernel
theorem nD_TM_init_79 : decode nC_TM_init 79 = .ok (.iconst 4, 1) := by decide +kernel
theorem nD_TM_init_80 : decode nC_TM_init 80 = .ok (.if_icmp .gt 22, 3) := by decide +kernel
theorem nD_TM_init_83 : decode nC_TM_init 83 = .ok (.aload_n 0, 1) := by decide +kernel
theorem nD_TM_init_84 : decode nC_TM_init 84 = .ok (.getfield 34, 3) := by decide +kernel
theorem nD_TM_init_87 : decode nC_TM_init 87 = .ok (.iload_n 3, 1) := by decide +kernel
theorem nD_TM_init_88 : decode nC_TM_init 88 = .ok (.new 32, 3) := by decide +kernel
theorem nD_TM_init_91 : decode nC_TM_init 91 = .ok (.dup, 1) := by decide +kernel
theorem nD_TM_init_92 : decode nC_TM_init 92 = .ok (.invokespecial 38, 3) := by decide +kernel
theorem nD_TM_init_95 : decode nC_TM_init 95 = .ok (.aastore, 1) := by decide +kernel
theorem nD_TM_init_96 : decode nC_TM_init 96 = .ok (.iinc 3 1, 3) := by decide +kernel
theorem nD_TM_init_99 : decode nC_TM_init 99 = .ok (.goto (-21), 3) := by decide +kernel
theorem nD_TM_init_102 : decode nC_TM_init 102 = .ok (.aload_n 0, 1) := by decide +kernel
theorem nD_TM_init_103 : decode nC_TM_init 103 = .ok (.bipush 13, 2) := by decide +kernel
theorem nD_TM_init_105 : decode nC_TM_init 105 = .ok (.anewarray 39, 3) := by decide +kernel
theorem nD_TM_init_108 : decode nC_TM_init 108 = .ok (.putfield 41, 3) := by decide +kernel
theorem nD_TM_init_111 : decode nC_TM_init 111 = .ok (.iconst 0, 1) := by decide +kernel
theorem nD_TM_init_112 : decode nC_TM_init 112 = .ok (.istore_n 3, 1) := by decide +kernel
theorem nD_TM_init_113 : decode nC_TM_init 113 = .ok (.iload_n 3, 1) := by decide +kernel
theorem nD_TM_init_114 : decode nC_TM_init 114 = .ok (.bipush 12, 2) := by decide +kernel
theorem nD_TM_init_116 : decode nC_TM_init 116 = .ok (.if_icmp .gt 22, 3) := by decide +kernel
theorem nD_TM_init_119 : decode nC_TM_init 119 = .ok (.aload_n 0, 1) := by decide +kernel
theorem nD_TM_init_120 : decode nC_TM_init 120 = .ok (.getfield 41, 3) := by decide +kernel
theorem nD_TM_init_123 : decode nC_TM_init 123 = .ok (.iload_n 3, 1) := by decide +kernel
theorem nD_TM_init_124 : decode nC_TM_init 124 = .ok (.new 39, 3) := by decide +kernel
theorem nD_TM_init_127 : decode nC_TM_init 127 = .ok (.dup, 1) := by decide +kernel
theorem nD_TM_init_128 : decode nC_TM_init 128 = .ok (.invokespecial 45, 3) := by decide +kernel
theorem nD_TM_init_131 : decode nC_TM_init 131 = .ok (.aastore, 1) := by decide +kernel
theorem nD_TM_init_132 : decode nC_TM_init 132 = .ok (.iinc 3 1, 3) := by decide +kernel
theorem nD_TM_init_135 : decode nC_TM_init 135 = .ok (.goto (-22), 3) := by decide +kernel
theorem nD_TM_init_138 : decode nC_TM_init 138 = .ok (.aload_n 0, 1) := by decide +kernel
theorem nD_TM_init_139 : decode nC_TM_init 139 = .ok (.iconst 4, 1) := by decide +kernel
theorem nD_TM_init_140 : decode nC_TM_init 140 = .ok (.newarray .int, 2) := by decide +kernel
theorem nD_TM_init_142 : decode nC_TM_init 142 = .ok (.putfield 46, 3) := by decide +kernel
theorem nD_TM_init_145 : decode nC_TM_init 145 = .ok (.aload_n 0, 1) := by decide +kernel
theorem nD_TM_init_146 : decode nC_TM_init 146 = .ok (.bipush 32, 2) := by decide +kernel
theorem nD_TM_init_148 : decode nC_TM_init 148 = .ok (.newarray .int, 2) := by decide +kernel
theorem nD_TM_init_150 : decode nC_TM_init 150 = .ok (.putfield 50, 3) := by decide +kernel
theorem nD_TM_init_153 : decode nC_TM_init 153 = .ok (.aload_n 0, 1) := by decide +kernel
theorem nD_TM_init_154 : decode nC_TM_init 154 = .ok (.bipush 8, 2) := by decide +kernel
theorem nD_TM_init_156 : decode nC_TM_init 156 = .ok (.newarray .boolean, 2) := by decide +kernel
theorem nD_TM_init_158 : decode nC_TM_init 158 = .ok (.putfield 53, 3) := by decide +kernel
theorem nD_TM_init_161 : decode nC_TM_init 161 = .ok (.aload_n 0, 1) := by decide +kernel
theorem nD_TM_init_162 : decode nC_TM_init 162 = .ok (.new 57, 3) := by decide +kernel
theorem nD_TM_init_165 : decode nC_TM_init 165 = .ok (.dup, 1) := by decide +kernel
theorem nD_TM_init_166 : decode nC_TM_init 166 = .ok (.invokespecial 59, 3) := by decide +kernel
theorem nD_TM_init_169 : decode nC_TM_init 169 = .ok (.putfield 60, 3) := by decide +kernel
theorem nD_TM_init_172 : decode nC_TM_init 172 = .ok (.aload_n 0, 1) := by decide +kernel
theorem nD_TM_init_173 : decode nC_TM_init 173 = .ok (.iconst 2, 1) := by decide +kernel
theorem nD_TM_init_174 : decode nC_TM_init 174 = .ok (.putfield 64, 3) := by decide +kernel
theorem nD_TM_init_177 : decode nC_TM_init 177 = .ok (.return_, 1) := by decide +kernel
theorem nD_TM_put_0 : decode nC_TM_put 0 = .ok (.iload_n 1, 1) := by decide +kernel
theorem nD_TM_put_1 : decode nC_TM_put 1 = .ok (.ifCond .lt 31, 3) := by decide +kernel
theorem nD_TM_put_4 : decode nC_TM_put 4 = .ok (.iload_n 1, 1) := by decide +kernel
theorem nD_TM_put_5 : decode nC_TM_put 5 = .ok (.bipush 12, 2) := by decide +kernel
theorem nD_TM_put_7 : decode nC_TM_put 7 = .ok (.if_icmp .gt 25, 3) := by decide +kernel
theorem nD_TM_put_10 : decode nC_TM_put 10 = .ok (.iload_n 2, 1) := by decide +kernel
theorem nD_TM_put_11 : decode nC_TM_put 11 = .ok (.invokestatic 67, 3) := by decide +kernel
theorem nD_TM_put_14 : decode nC_TM_put 14 = .ok (.ifCond .eq 18, 3) := by decide +kernel
theorem nD_TM_put_17 : decode nC_TM_put 17 = .ok (.iload_n 3, 1) := by decide +kernel
theorem nD_TM_put_18 : decode nC_TM_put 18 = .ok (.invokestatic 67, 3) := by decide +kernel
theorem nD_TM_put_21 : decode nC_TM_put 21 = .ok (.ifCond .eq 11, 3) := by decide +kernel
theorem nD_TM_put_24 : decode nC_TM_put 24 = .ok (.iload 4, 2) := by decide +kernel
theorem nD_TM_put_26 : decode nC_TM_put 26 = .ok (.invokestatic 67, 3) := by decide +kernel
theorem nD_TM_put_29 : decode nC_TM_put 29 = .ok (.ifCond .ne 11, 3) := by decide +kernel
theorem nD_TM_put_32 : decode nC_TM_put 32 = .ok (.new 71, 3) := by decide +kernel
theorem nD_TM_put_35 : decode nC_TM_put 35 = .ok (.dup, 1) := by decide +kernel
theorem nD_TM_put_36 : decode nC_TM_put 36 = .ok (.invokespecial 73, 3) := by decide +kernel
theorem nD_TM_put_39 : decode nC_TM_put 39 = .ok (.athrow, 1) := by decide +kernel
theorem nD_TM_put_40 : decode nC_TM_put 40 = .ok (.iload_n 1, 1) := by decide +kernel
theorem nD_TM_put_41 : decode nC_TM_put 41 = .ok (.bipush 8, 2) := by decide +kernel
theorem nD_TM_put_43 : decode nC_TM_put 43 = .ok (.if_icmp .eq 27, 3) := by decide +kernel
theorem nD_TM_put_46 : decode nC_TM_put 46 = .ok (.iload 5, 2) := by decide +kernel
theorem nD_TM_put_48 : decode nC_TM_put 48 = .ok (.sipush (-1000), 3) := by decide +kernel
theorem nD_TM_put_51 : decode nC_TM_put 51 = .ok (.if_icmp .lt 11, 3) := by decide +kernel
theorem nD_TM_put_54 : decode nC_TM_put 54 = .ok (.iload 5, 2) := by decide +kernel
theorem nD_TM_put_56 : decode nC_TM_put 56 = .ok (.sipush 1000, 3) := by decide +kernel
theorem nD_TM_put_59 : decode nC_TM_put 59 = .ok (.if_icmp .le 11, 3) := by decide +kernel
theorem nD_TM_put_62 : decode nC_TM_put 62 = .ok (.new 71, 3) := by decide +kernel
theorem nD_TM_put_65 : decode nC_TM_put 65 = .ok (.dup, 1) := by decide +kernel
theorem nD_TM_put_66 : decode nC_TM_put 66 = .ok (.invokespecial 73, 3) := by decide +kernel
theorem nD_TM_put_69 : decode nC_TM_put 69 = .ok (.athrow, 1) := by decide +kernel
theorem nD_TM_put_70 : decode nC_TM_put 70 = .ok (.aload_n 0, 1) := by decide +kernel
theorem nD_TM_put_71 : decode nC_TM_put 71 = .ok (.getfield 74, 3) := by decide +kernel
theorem nD_TM_put_74 : decode nC_TM_put 74 = .ok (.bipush 30, 2) := by decide +kernel
theorem nD_TM_put_76 : decode nC_TM_put 76 = .ok (.if_icmp .ge 10, 3) := by decide +kernel
theorem nD_TM_put_79 : decode nC_TM_put 79 = .ok (.aload_n 0, 1) := by decide +kernel
theorem nD_TM_put_80 : decode nC_TM_put 80 = .ok (.invokevirtual 77, 3) := by decide +kernel
theorem nD_TM_put_83 : decode nC_TM_put 83 = .ok (.ifCond .eq 11, 3) := by decide +kernel
theorem nD_TM_put_86 : decode nC_TM_put 86 = .ok (.new 81, 3) := by decide +kernel
theorem nD_TM_put_89 : decode nC_TM_put 89 = .ok (.dup, 1) := by decide +kernel
theorem nD_TM_put_90 : decode nC_TM_put 90 = .ok (.invokespecial 83, 3) := by decide +kernel
theorem nD_TM_put_93 : decode nC_TM_put 93 = .ok (.athrow, 1) := by decide +kernel
theorem nD_TM_put_94 : decode nC_TM_put 94 = .ok (.aload_n 0, 1) := by decide +kernel
theorem nD_TM_put_95 : decode nC_TM_put 95 = .ok (.getfield 27, 3) := by decide +kernel
theorem nD_TM_put_98 : decode nC_TM_put 98 = .ok (.aload_n 0, 1) := by decide +kernel
theorem nD_TM_put_99 : decode nC_TM_put 99 = .ok (.getfield 74, 3) := by decide +kernel
theorem nD_TM_put_102 : decode nC_TM_put 102 = .ok (.aaload, 1) := by decide +kernel
theorem nD_TM_put_103 : decode nC_TM_put 103 = .ok (.iload_n 1, 1) := by decide +kernel
theorem nD_TM_put_104 : decode nC_TM_put 104 = .ok (.iload_n 2, 1) := by decide +kernel
theorem nD_TM_put_105 : decode nC_TM_put 105 = .ok (.iload_n 3, 1) := by decide +kernel
theorem nD_TM_put_106 : decode nC_TM_put 106 = .ok (.iload 4, 2) := by decide +kernel
theorem nD_TM_put_108 : decode nC_TM_put 108 = .ok (.iload 5, 2) := by decide +kernel
theorem nD_TM_put_110 : decode nC_TM_put 110 = .ok (.invokevirtual 84, 3) := by decide +kernel
theorem nD_TM_put_113 : decode nC_TM_put 113 = .ok (.aload_n 0, 1) := by decide +kernel
theorem nD_TM_put_114 : decode nC_TM_put 114 = .ok (.dup, 1) := by decide +kernel
theorem nD_TM_put_115 : decode nC_TM_put 115 = .ok (.getfield 74, 3) := by decide +kernel
theorem nD_TM_put_118 : decode nC_TM_put 118 = .ok (.iconst 1, 1) := by decide +kernel
theorem nD_TM_put_119 : decode nC_TM_put 119 = .ok (.iadd, 1) := by decide +kernel
theorem nD_TM_put_120 : decode nC_TM_put 120 = .ok (.putfield 74, 3) := by decide +kernel
theorem nD_TM_put_123 : decode nC_TM_put 123 = .ok (.aload_n 0, 1) := by decide +kernel
theorem nD_TM_put_124 : decode nC_TM_put 124 = .ok (.getfield 74, 3) := by decide +kernel
theorem nD_TM_put_127 : decode nC_TM_put 127 = .ok (.iconst 1, 1) := by decide +kernel
theorem nD_TM_put_128 : decode nC_TM_put 128 = .ok (.isub, 1) := by decide +kernel
theorem nD_TM_put_129 : decode nC_TM_put 129 = .ok (.ireturn, 1) := by decide +kernel
theorem nD_TM_start_0 : decode nC_TM_start 0 = .ok (.aload_n 0, 1) := by decide +kernel
theorem nD_TM_start_1 : decode nC_TM_start 1 = .ok (.iload_n 1, 1) := by decide +kernel
theorem nD_TM_start_2 : decode nC_TM_start 2 = .ok (.invokevirtual 88, 3) := by decide +kernel
theorem nD_TM_start_5 : decode nC_TM_start 5 = .ok (.ifCond .ne 11, 3) := by decide +kernel
theorem nD_TM_start_8 : decode nC_TM_start 8 = .ok (.new 71, 3) := by decide +kernel
theorem nD_TM_start_11 : decode nC_TM_start 11 = .ok (.dup, 1) := by decide +kernel
theorem nD_TM_start_12 : decode nC_TM_start 12 = .ok (.invokespecial 73, 3) := by decide +kernel
theorem nD_TM_start_15 : decode nC_TM_start 15 = .ok (.athrow, 1) := by decide +kernel
theorem nD_TM_start_16 : decode nC_TM_start 16 = .ok (.aload_n 0, 1) := by decide +kernel
theorem nD_TM_start_17 : decode nC_TM_start 17 = .ok (.invokevirtual 77, 3) := by decide +kernel
theorem nD_TM_start_20 : decode nC_TM_start 20 = .ok (.ifCond .eq 11, 3) := by decide +kernel
theorem nD_TM_start_23 : decode nC_TM_start 23 = .ok (.new 81, 3) := by decide +kernel
theorem nD_TM_start_26 : decode nC_TM_start 26 = .ok (.dup, 1) := by decide +kernel
theorem nD_TM_start_27 : decode nC_TM_start 27 = .ok (.invokespecial 83, 3) := by decide +kernel
theorem nD_TM_start_30 : decode nC_TM_start 30 = .ok (.athrow, 1) := by decide +kernel
theorem nD_TM_start_31 : decode nC_TM_start 31 = .ok (.aload_n 0, 1) := by decide +kernel
theorem nD_TM_start_32 : decode nC_TM_start 32 = .ok (.iload_n 1, 1) := by decide +kernel
theorem nD_TM_start_33 : decode nC_TM_start 33 = .ok (.putfield 91, 3) := by decide +kernel
theorem nD_TM_start_36 : decode nC_TM_start 36 = .ok (.aload_n 0, 1) := by decide +kernel
theorem nD_TM_start_37 : decode nC_TM_start 37 = .ok (.iconst 0, 1) := by decide +kernel
theorem nD_TM_start_38 : decode nC_TM_start 38 = .ok (.putfield 94, 3) := by decide +kernel
theorem nD_TM_start_41 : decode nC_TM_start 41 = .ok (.aload_n 0, 1) := by decide +kernel
theorem nD_TM_start_42 : decode nC_TM_start 42 = .ok (.iconst 0, 1) := by decide +kernel
theorem nD_TM_start_43 : decode nC_TM_start 43 = .ok (.putfield 64, 3) := by decide +kernel
theorem nD_TM_start_46 : decode nC_TM_start 46 = .ok (.iconst 1, 1) := by decide +kernel
theorem nD_TM_start_47 : decode nC_TM_start 47 = .ok (.ireturn, 1) := by decide +kernel
theorem nD_TM_run_0 : decode nC_TM_run 0 = .ok (.iload_n 1, 1) := by decide +kernel
theorem nD_TM_run_1 : decode nC_TM_run 1 = .ok (.iconst 1, 1) := by decide +kernel
theorem nD_TM_run_2 : decode nC_TM_run 2 = .ok (.if_icmp .lt 10, 3) := by decide +kernel
theorem nD_TM_run_5 : decode nC_TM_run 5 = .ok (.iload_n 1, 1) := by decide +kernel
theorem nD_TM_run_6 : decode nC_TM_run 6 = .ok (.sipush 300, 3) := by decide +kernel
theorem nD_TM_run_9 : decode nC_TM_run 9 = .ok (.if_icmp .le 11, 3) := by decide +kernel
theorem nD_TM_run_12 : decode nC_TM_run 12 = .ok (.new 71, 3) := by decide +kernel
theorem nD_TM_run_15 : decode nC_TM_run 15 = .ok (.dup, 1) := by decide +kernel
theorem nD_TM_run_16 : decode nC_TM_run 16 = .ok (.invokespecial 73, 3) := by decide +kernel
theorem nD_TM_run_19 : decode nC_TM_run 19 = .ok (.athrow, 1) := by decide +kernel
theorem nD_TM_run_20 : decode nC_TM_run 20 = .ok (.aload_n 0, 1) := by decide +kernel
theorem nD_TM_run_21 : decode nC_TM_run 21 = .ok (.invokevirtual 77, 3) := by decide +kernel
theorem nD_TM_run_24 : decode nC_TM_run 24 = .ok (.ifCond .ne 11, 3) := by decide +kernel
theorem nD_TM_run_27 : decode nC_TM_run 27 = .ok (.new 81, 3) := by decide +kernel
theorem nD_TM_run_30 : decode nC_TM_run 30 = .ok (.dup, 1) := by decide +kernel
theorem nD_TM_run_31 : decode nC_TM_run 31 = .ok (.invokespecial 83, 3) := by decide +kernel
theorem nD_TM_run_34 : decode nC_TM_run 34 = .ok (.athrow, 1) := by decide +kernel
theorem nD_TM_run_35 : decode nC_TM_run 35 = .ok (.iconst 0, 1) := by decide +kernel
theorem nD_TM_run_36 : decode nC_TM_run 36 = .ok (.istore_n 2, 1) := by decide +kernel
theorem nD_TM_run_37 : decode nC_TM_run 37 = .ok (.iload_n 2, 1) := by decide +kernel
theorem nD_TM_run_38 : decode nC_TM_run 38 = .ok (.iload_n 1, 1) := by decide +kernel
theorem nD_TM_run_39 : decode nC_TM_run 39 = .ok (.if_icmp .ge 20, 3) := by decide +kernel
theorem nD_TM_run_42 : decode nC_TM_run 42 = .ok (.aload_n 0, 1) := by decide +kernel
theorem nD_TM_run_43 : decode nC_TM_run 43 = .ok (.invokevirtual 77, 3) := by decide +kernel
theorem nD_TM_run_46 : decode nC_TM_run 46 = .ok (.ifCond .eq 13, 3) := by decide +kernel
theorem nD_TM_run_49 : decode nC_TM_run 49 = .ok (.aload_n 0, 1) := by decide +kernel
theorem nD_TM_run_50 : decode nC_TM_run 50 = .ok (.invokevirtual 97, 3) := by decide +kernel
theorem nD_TM_run_53 : decode nC_TM_run 53 = .ok (.iinc 2 1, 3) := by decide +kernel
theorem nD_TM_run_56 : decode nC_TM_run 56 = .ok (.goto (-19), 3) := by decide +kernel
theorem nD_TM_run_59 : decode nC_TM_run 59 = .ok (.iload_n 2, 1) := by decide +kernel
theorem nD_TM_run_60 : decode nC_TM_run 60 = .ok (.ireturn, 1) := by decide +kernel
theorem nD_TM_set_0 : decode nC_TM_set 0 = .ok (.iload_n 1, 1) := by decide +kernel
theorem nD_TM_set_1 : decode nC_TM_set 1 = .ok (.invokestatic 67, 3) := by decide +kernel
theorem nD_TM_set_4 : decode nC_TM_set 4 = .ok (.ifCond .ne 11, 3) := by decide +kernel
theorem nD_TM_set_7 : decode nC_TM_set 7 = .ok (.new 71, 3) := by decide +kernel
theorem nD_TM_set_10 : decode nC_TM_set 10 = .ok (.dup, 1) := by decide +kernel
theorem nD_TM_set_11 : decode nC_TM_set 11 = .ok (.invokespecial 73, 3) := by decide +kernel
theorem nD_TM_set_14 : decode nC_TM_set 14 = .ok (.athrow, 1) := by decide +kernel
theorem nD_TM_set_15 : decode nC_TM_set 15 = .ok (.aload_n 0, 1) := by decide +kernel
theorem nD_TM_set_16 : decode nC_TM_set 16 = .ok (.invokevirtual 77, 3) := by decide +kernel
theorem nD_TM_set_19 : decode nC_TM_set 19 = .ok (.ifCond .eq 11, 3) := by decide +kernel
theorem nD_TM_set_22 : decode nC_TM_set 22 = .ok (.new 81, 3) := by decide +kernel
theorem nD_TM_set_25 : decode nC_TM_set 25 = .ok (.dup, 1) := by decide +kernel
theorem nD_TM_set_26 : decode nC_TM_set 26 = .ok (.invokespecial 83, 3) := by decide +kernel
theorem nD_TM_set_29 : decode nC_TM_set 29 = .ok (.athrow, 1) := by decide +kernel
theorem nD_TM_set_30 : decode nC_TM_set 30 = .ok (.aload_n 0, 1) := by decide +kernel
theorem nD_TM_set_31 : decode nC_TM_set 31 = .ok (.getfield 34, 3) := by decide +kernel
theorem nD_TM_set_34 : decode nC_TM_set 34 = .ok (.iload_n 1, 1) := by decide +kernel
theorem nD_TM_set_35 : decode nC_TM_set 35 = .ok (.aaload, 1) := by decide +kernel
theorem nD_TM_set_36 : decode nC_TM_set 36 = .ok (.iload_n 2, 1) := by decide +kernel
theorem nD_TM_set_37 : decode nC_TM_set 37 = .ok (.invokevirtual 100, 3) := by decide +kernel
theorem nD_TM_set_40 : decode nC_TM_set 40 = .ok (.iconst 1, 1) := by decide +kernel
theorem nD_TM_set_41 : decode nC_TM_set 41 = .ok (.ireturn, 1) := by decide +kernel
theorem nD_TM_store_0 : decode nC_TM_store 0 = .ok (.iload_n 1, 1) := by decide +kernel
theorem nD_TM_store_1 : decode nC_TM_store 1 = .ok (.invokestatic 104, 3) := by decide +kernel
theorem nD_TM_store_4 : decode nC_TM_store 4 = .ok (.ifCond .ne 11, 3) := by decide +kernel
theorem nD_TM_store_7 : decode nC_TM_store 7 = .ok (.new 71, 3) := by decide +kernel
theorem nD_TM_store_10 : decode nC_TM_store 10 = .ok (.dup, 1) := by decide +kernel
theorem nD_TM_store_11 : decode nC_TM_store 11 = .ok (.invokespecial 73, 3) := by decide +kernel
theorem nD_TM_store_14 : decode nC_TM_store 14 = .ok (.athrow, 1) := by decide +kernel
theorem nD_TM_store_15 : decode nC_TM_store 15 = .ok (.aload_n 0, 1) := by decide +kernel
theorem nD_TM_store_16 : decode nC_TM_store 16 = .ok (.invokevirtual 77, 3) := by decide +kernel
theorem nD_TM_store_19 : decode nC_TM_store 19 = .ok (.ifCond .eq 11, 3) := by decide +kernel
theorem nD_TM_store_22 : decode nC_TM_store 22 = .ok (.new 81, 3) := by decide +kernel
theorem nD_TM_store_25 : decode nC_TM_store 25 = .ok (.dup, 1) := by decide +kernel
theorem nD_TM_store_26 : decode nC_TM_store 26 = .ok (.invokespecial 83, 3) := by decide +kernel
theorem nD_TM_store_29 : decode nC_TM_store 29 = .ok (.athrow, 1) := by decide +kernel
theorem nD_TM_store_30 : decode nC_TM_store 30 = .ok (.aload_n 0, 1) := by decide +kernel
theorem nD_TM_store_31 : decode nC_TM_store 31 = .ok (.getfield 50, 3) := by decide +kernel
theorem nD_TM_store_34 : decode nC_TM_store 34 = .ok (.iload_n 1, 1) := by decide +kernel
theorem nD_TM_store_35 : decode nC_TM_store 35 = .ok (.iload_n 2, 1) := by decide +kernel
theorem nD_TM_store_36 : decode nC_TM_store 36 = .ok (.iastore, 1) := by decide +kernel
theorem nD_TM_store_37 : decode nC_TM_store 37 = .ok (.iconst 1, 1) := by decide +kernel
theorem nD_TM_store_38 : decode nC_TM_store 38 = .ok (.ireturn, 1) := by decide +kernel
theorem nD_TM_reckon_0 : decode nC_TM_reckon 0 = .ok (.iload_n 1, 1) := by decide +kernel
theorem nD_TM_reckon_1 : decode nC_TM_reckon 1 = .ok (.invokestatic 107, 3) := by decide +kernel
theorem nD_TM_reckon_4 : decode nC_TM_reckon 4 = .ok (.ifCond .ne 11, 3) := by decide +kernel
theorem nD_TM_reckon_7 : decode nC_TM_reckon 7 = .ok (.new 71, 3) := by decide +kernel
theorem nD_TM_reckon_10 : decode nC_TM_reckon 10 = .ok (.dup, 1) := by decide +kernel
theorem nD_TM_reckon_11 : decode nC_TM_reckon 11 = .ok (.invokespecial 73, 3) := by decide +kernel
theorem nD_TM_reckon_14 : decode nC_TM_reckon 14 = .ok (.athrow, 1) := by decide +kernel
theorem nD_TM_reckon_15 : decode nC_TM_reckon 15 = .ok (.aload_n 0, 1) := by decide +kernel
theorem nD_TM_reckon_16 : decode nC_TM_reckon 16 = .ok (.getfield 60, 3) := by decide +kernel
theorem nD_TM_reckon_19 : decode nC_TM_reckon 19 = .ok (.iload_n 1, 1) := by decide +kernel
theorem nD_TM_reckon_20 : decode nC_TM_reckon 20 = .ok (.iload_n 2, 1) := by decide +kernel
theorem nD_TM_reckon_21 : decode nC_TM_reckon 21 = .ok (.iload_n 3, 1) := by decide +kernel
theorem nD_TM_reckon_22 : decode nC_TM_reckon 22 = .ok (.invokevirtual 110, 3) := by decide +kernel
theorem nD_TM_reckon_25 : decode nC_TM_reckon 25 = .ok (.aload_n 0, 1) := by decide +kernel
theorem nD_TM_reckon_26 : decode nC_TM_reckon 26 = .ok (.getfield 60, 3) := by decide +kernel
theorem nD_TM_reckon_29 : decode nC_TM_reckon 29 = .ok (.getfield 114, 3) := by decide +kernel
theorem nD_TM_reckon_32 : decode nC_TM_reckon 32 = .ok (.ireturn, 1) := by decide +kernel
theorem nD_TM_exceptions_0 : decode nC_TM_exceptions 0 = .ok (.iload_n 1, 1) := by decide +kernel
theorem nD_TM_exceptions_1 : decode nC_TM_exceptions 1 = .ok (.invokestatic 107, 3) := by decide +kernel
theorem nD_TM_exceptions_4 : decode nC_TM_exceptions 4 = .ok (.ifCond .ne 11, 3) := by decide +kernel
theorem nD_TM_exceptions_7 : decode nC_TM_exceptions 7 = .ok (.new 71, 3) := by decide +kernel
theorem nD_TM_exceptions_10 : decode nC_TM_exceptions 10 = .ok (.dup, 1) := by decide +kernel
theorem nD_TM_exceptions_11 : decode nC_TM_exceptions 11 = .ok (.invokespecial 73, 3) := by decide +kernel
theorem nD_TM_exceptions_14 : decode nC_TM_exceptions 14 = .ok (.athrow, 1) := by decide +kernel
theorem nD_TM_exceptions_15 : decode nC_TM_exceptions 15 = .ok (.aload_n 0, 1) := by decide +kernel
theorem nD_TM_exceptions_16 : decode nC_TM_exceptions 16 = .ok (.getfield 60, 3) := by decide +kernel
theorem nD_TM_exceptions_19 : decode nC_TM_exceptions 19 = .ok (.iload_n 1, 1) := by decide +kernel
theorem nD_TM_exceptions_20 : decode nC_TM_exceptions 20 = .ok (.iload_n 2, 1) := by decide +kernel
theorem nD_TM_exceptions_21 : decode nC_TM_exceptions 21 = .ok (.iload_n 3, 1) := by decide +kernel
theorem nD_TM_exceptions_22 : decode nC_TM_exceptions 22 = .ok (.invokevirtual 110, 3) := by decide +kernel
theorem nD_TM_exceptions_25 : decode nC_TM_exceptions 25 = .ok (.aload_n 0, 1) := by decide +kernel
theorem nD_TM_exceptions_26 : decode nC_TM_exceptions 26 = .ok (.getfield 60, 3) := by decide +kernel
theorem nD_TM_exceptions_29 : decode nC_TM_exceptions 29 = .ok (.getfield 117, 3) := by decide +kernel
theorem nD_TM_exceptions_32 : decode nC_TM_exceptions 32 = .ok (.ireturn, 1) := by decide +kernel
theorem nD_TM_floating_0 : decode nC_TM_floating 0 = .ok (.iload_n 1, 1) := by decide +kernel
theorem nD_TM_floating_1 : decode nC_TM_floating 1 = .ok (.invokestatic 67, 3) := by decide +kernel
theorem nD_TM_floating_4 : decode nC_TM_floating 4 = .ok (.ifCond .eq 15, 3) := by decide +kernel
theorem nD_TM_floating_7 : decode nC_TM_floating 7 = .ok (.aload_n 0, 1) := by decide +kernel
theorem nD_TM_floating_8 : decode nC_TM_floating 8 = .ok (.getfield 34, 3) := by decide +kernel
theorem nD_TM_floating_11 : decode nC_TM_floating 11 = .ok (.iload_n 1, 1) := by decide +kernel
theorem nD_TM_floating_12 : decode nC_TM_floating 12 = .ok (.aaload, 1) := by decide +kernel
theorem nD_TM_floating_13 : decode nC_TM_floating 13 = .ok (.getfield 120, 3) := by decide +kernel
theorem nD_TM_floating_16 : decode nC_TM_floating 16 = .ok (.goto 4, 3) := by decide +kernel
theorem nD_TM_floating_19 : decode nC_TM_floating 19 = .ok (.iconst 0, 1) := by decide +kernel
theorem nD_TM_floating_20 : decode nC_TM_floating 20 = .ok (.ireturn, 1) := by decide +kernel
theorem nD_TM_general_0 : decode nC_TM_general 0 = .ok (.iload_n 1, 1) := by decide +kernel
theorem nD_TM_general_1 : decode nC_TM_general 1 = .ok (.invokestatic 67, 3) := by decide +kernel
theorem nD_TM_general_4 : decode nC_TM_general 4 = .ok (.ifCond .eq 12, 3) := by decide +kernel
theorem nD_TM_general_7 : decode nC_TM_general 7 = .ok (.aload_n 0, 1) := by decide +kernel
theorem nD_TM_general_8 : decode nC_TM_general 8 = .ok (.getfield 46, 3) := by decide +kernel
theorem nD_TM_general_11 : decode nC_TM_general 11 = .ok (.iload_n 1, 1) := by decide +kernel
theorem nD_TM_general_12 : decode nC_TM_general 12 = .ok (.iaload, 1) := by decide +kernel
theorem nD_TM_general_13 : decode nC_TM_general 13 = .ok (.goto 4, 3) := by decide +kernel
theorem nD_TM_general_16 : decode nC_TM_general 16 = .ok (.iconst 0, 1) := by decide +kernel
theorem nD_TM_general_17 : decode nC_TM_general 17 = .ok (.ireturn, 1) := by decide +kernel
theorem nD_TM_word_0 : decode nC_TM_word 0 = .ok (.iload_n 1, 1) := by decide +kernel
theorem nD_TM_word_1 : decode nC_TM_word 1 = .ok (.invokestatic 104, 3) := by decide +kernel
theorem nD_TM_word_4 : decode nC_TM_word 4 = .ok (.ifCond .eq 12, 3) := by decide +kernel
theorem nD_TM_word_7 : decode nC_TM_word 7 = .ok (.aload_n 0, 1) := by decide +kernel
theorem nD_TM_word_8 : decode nC_TM_word 8 = .ok (.getfield 50, 3) := by decide +kernel
theorem nD_TM_word_11 : decode nC_TM_word 11 = .ok (.iload_n 1, 1) := by decide +kernel
theorem nD_TM_word_12 : decode nC_TM_word 12 = .ok (.iaload, 1) := by decide +kernel
theorem nD_TM_word_13 : decode nC_TM_word 13 = .ok (.goto 4, 3) := by decide +kernel
theorem nD_TM_word_16 : decode nC_TM_word 16 = .ok (.iconst 0, 1) := by decide +kernel
theorem nD_TM_word_17 : decode nC_TM_word 17 = .ok (.ireturn, 1) := by decide +kernel
theorem nD_TM_tag_0 : decode nC_TM_tag 0 = .ok (.iload_n 1, 1) := by decide +kernel
theorem nD_TM_tag_1 : decode nC_TM_tag 1 = .ok (.invokestatic 67, 3) := by decide +kernel
theorem nD_TM_tag_4 : decode nC_TM_tag 4 = .ok (.ifCond .ne 8, 3) := by decide +kernel
theorem nD_TM_tag_7 : decode nC_TM_tag 7 = .ok (.iload_n 1, 1) := by decide +kernel
theorem nD_TM_tag_8 : decode nC_TM_tag 8 = .ok (.iconst 4, 1) := by decide +kernel
theorem nD_TM_tag_9 : decode nC_TM_tag 9 = .ok (.if_icmp .ne 15, 3) := by decide +kernel
theorem nD_TM_tag_12 : decode nC_TM_tag 12 = .ok (.aload_n 0, 1) := by decide +kernel
theorem nD_TM_tag_13 : decode nC_TM_tag 13 = .ok (.getfield 34, 3) := by decide +kernel
theorem nD_TM_tag_16 : decode nC_TM_tag 16 = .ok (.iload_n 1, 1) := by decide +kernel
theorem nD_TM_tag_17 : decode nC_TM_tag 17 = .ok (.aaload, 1) := by decide +kernel
theorem nD_TM_tag_18 : decode nC_TM_tag 18 = .ok (.getfield 123, 3) := by decide +kernel
theorem nD_TM_tag_21 : decode nC_TM_tag 21 = .ok (.goto 4, 3) := by decide +kernel
theorem nD_TM_tag_24 : decode nC_TM_tag 24 = .ok (.iconst (-1), 1) := by decide +kernel
theorem nD_TM_tag_25 : decode nC_TM_tag 25 = .ok (.ireturn, 1) := by decide +kernel
theorem nD_TM_place_0 : decode nC_TM_place 0 = .ok (.iload_n 1, 1) := by decide +kernel
theorem nD_TM_place_1 : decode nC_TM_place 1 = .ok (.iconst 1, 1) := by decide +kernel
theorem nD_TM_place_2 : decode nC_TM_place 2 = .ok (.if_icmp .lt 21, 3) := by decide +kernel
theorem nD_TM_place_5 : decode nC_TM_place 5 = .ok (.iload_n 1, 1) := by decide +kernel
theorem nD_TM_place_6 : decode nC_TM_place 6 = .ok (.bipush 12, 2) := by decide +kernel
theorem nD_TM_place_8 : decode nC_TM_place 8 = .ok (.if_icmp .gt 15, 3) := by decide +kernel
theorem nD_TM_place_11 : decode nC_TM_place 11 = .ok (.aload_n 0, 1) := by decide +kernel
theorem nD_TM_place_12 : decode nC_TM_place 12 = .ok (.getfield 41, 3) := by decide +kernel
theorem nD_TM_place_15 : decode nC_TM_place 15 = .ok (.iload_n 1, 1) := by decide +kernel
theorem nD_TM_place_16 : decode nC_TM_place 16 = .ok (.aaload, 1) := by decide +kernel
theorem nD_TM_place_17 : decode nC_TM_place 17 = .ok (.getfield 126, 3) := by decide +kernel
theorem nD_TM_place_20 : decode nC_TM_place 20 = .ok (.goto 4, 3) := by decide +kernel
theorem nD_TM_place_23 : decode nC_TM_place 23 = .ok (.iconst (-1), 1) := by decide +kernel
theorem nD_TM_place_24 : decode nC_TM_place 24 = .ok (.ireturn, 1) := by decide +kernel
theorem nD_TM_about_0 : decode nC_TM_about 0 = .ok (.iload_n 1, 1) := by decide +kernel
theorem nD_TM_about_1 : decode nC_TM_about 1 = .ok (.tableswitch 83 0 6 #[43, 48, 53, 58, 68, 73, 78], 43) := by decide +kernel
theorem nD_TM_about_44 : decode nC_TM_about 44 = .ok (.aload_n 0, 1) := by decide +kernel
theorem nD_TM_about_45 : decode nC_TM_about 45 = .ok (.getfield 64, 3) := by decide +kernel
theorem nD_TM_about_48 : decode nC_TM_about 48 = .ok (.ireturn, 1) := by decide +kernel
theorem nD_TM_about_49 : decode nC_TM_about 49 = .ok (.aload_n 0, 1) := by decide +kernel
theorem nD_TM_about_50 : decode nC_TM_about 50 = .ok (.getfield 91, 3) := by decide +kernel
theorem nD_TM_about_53 : decode nC_TM_about 53 = .ok (.ireturn, 1) := by decide +kernel
theorem nD_TM_about_54 : decode nC_TM_about 54 = .ok (.aload_n 0, 1) := by decide +kernel
theorem nD_TM_about_55 : decode nC_TM_about 55 = .ok (.getfield 94, 3) := by decide +kernel
theorem nD_TM_about_58 : decode nC_TM_about 58 = .ok (.ireturn, 1) := by decide +kernel
theorem nD_TM_about_59 : decode nC_TM_about 59 = .ok (.aload_n 0, 1) := by decide +kernel
theorem nD_TM_about_60 : decode nC_TM_about 60 = .ok (.getfield 34, 3) := by decide +kernel
theorem nD_TM_about_63 : decode nC_TM_about 63 = .ok (.iconst 4, 1) := by decide +kernel
theorem nD_TM_about_64 : decode nC_TM_about 64 = .ok (.aaload, 1) := by decide +kernel
theorem nD_TM_about_65 : decode nC_TM_about 65 = .ok (.getfield 120, 3) := by decide +kernel
theorem nD_TM_about_68 : decode nC_TM_about 68 = .ok (.ireturn, 1) := by decide +kernel
theorem nD_TM_about_69 : decode nC_TM_about 69 = .ok (.aload_n 0, 1) := by decide +kernel
theorem nD_TM_about_70 : decode nC_TM_about 70 = .ok (.getfield 129, 3) := by decide +kernel
theorem nD_TM_about_73 : decode nC_TM_about 73 = .ok (.ireturn, 1) := by decide +kernel
theorem nD_TM_about_74 : decode nC_TM_about 74 = .ok (.aload_n 0, 1) := by decide +kernel
theorem nD_TM_about_75 : decode nC_TM_about 75 = .ok (.getfield 132, 3) := by decide +kernel
theorem nD_TM_about_78 : decode nC_TM_about 78 = .ok (.ireturn, 1) := by decide +kernel
theorem nD_TM_about_79 : decode nC_TM_about 79 = .ok (.aload_n 0, 1) := by decide +kernel
theorem nD_TM_about_80 : decode nC_TM_about 80 = .ok (.getfield 74, 3) := by decide +kernel
theorem nD_TM_about_83 : decode nC_TM_about 83 = .ok (.ireturn, 1) := by decide +kernel
theorem nD_TM_about_84 : decode nC_TM_about 84 = .ok (.iconst (-1), 1) := by decide +kernel
theorem nD_TM_about_85 : decode nC_TM_about 85 = .ok (.ireturn, 1) := by decide +kernel
theorem nD_TM_isRegister_0 : decode nC_TM_isRegister 0 = .ok (.iload_n 0, 1) := by decide +kernel
theorem nD_TM_isRegister_1 : decode nC_TM_isRegister 1 = .ok (.ifCond .lt 12, 3) := by decide +kernel
theorem nD_TM_isRegister_4 : decode nC_TM_isRegister 4 = .ok (.iload_n 0, 1) := by decide +kernel
theorem nD_TM_isRegister_5 : decode nC_TM_isRegister 5 = .ok (.iconst 4, 1) := by decide +kernel
theorem nD_TM_isRegister_6 : decode nC_TM_isRegister 6 = .ok (.if_icmp .ge 7, 3) := by decide +kernel
theorem nD_TM_isRegister_9 : decode nC_TM_isRegister 9 = .ok (.iconst 1, 1) := by decide +kernel
theorem nD_TM_isRegister_10 : decode nC_TM_isRegister 10 = .ok (.goto 4, 3) := by decide +kernel
theorem nD_TM_isRegister_13 : decode nC_TM_isRegister 13 = .ok (.iconst 0, 1) := by decide +kernel
theorem nD_TM_isRegister_14 : decode nC_TM_isRegister 14 = .ok (.ireturn, 1) := by decide +kernel
theorem nD_TM_isPlace_0 : decode nC_TM_isPlace 0 = .ok (.iload_n 0, 1) := by decide +kernel
theorem nD_TM_isPlace_1 : decode nC_TM_isPlace 1 = .ok (.ifCond .lt 13, 3) := by decide +kernel
theorem nD_TM_isPlace_4 : decode nC_TM_isPlace 4 = .ok (.iload_n 0, 1) := by decide +kernel
theorem nD_TM_isPlace_5 : decode nC_TM_isPlace 5 = .ok (.bipush 32, 2) := by decide +kernel
theorem nD_TM_isPlace_7 : decode nC_TM_isPlace 7 = .ok (.if_icmp .ge 7, 3) := by decide +kernel
theorem nD_TM_isPlace_10 : decode nC_TM_isPlace 10 = .ok (.iconst 1, 1) := by decide +kernel
theorem nD_TM_isPlace_11 : decode nC_TM_isPlace 11 = .ok (.goto 4, 3) := by decide +kernel
theorem nD_TM_isPlace_14 : decode nC_TM_isPlace 14 = .ok (.iconst 0, 1) := by decide +kernel
theorem nD_TM_isPlace_15 : decode nC_TM_isPlace 15 = .ok (.ireturn, 1) := by decide +kernel
theorem nD_TM_usesStorage_0 : decode nC_TM_usesStorage 0 = .ok (.iload_n 0, 1) := by decide +kernel
theorem nD_TM_usesStorage_1 : decode nC_TM_usesStorage 1 = .ok (.ifCond .eq 8, 3) := by decide +kernel
theorem nD_TM_usesStorage_4 : decode nC_TM_usesStorage 4 = .ok (.iload_n 0, 1) := by decide +kernel
theorem nD_TM_usesStorage_5 : decode nC_TM_usesStorage 5 = .ok (.iconst 1, 1) := by decide +kernel
theorem nD_TM_usesStorage_6 : decode nC_TM_usesStorage 6 = .ok (.if_icmp .ne 7, 3) := by decide +kernel
theorem nD_TM_usesStorage_9 : decode nC_TM_usesStorage 9 = .ok (.iconst 1, 1) := by decide +kernel
theorem nD_TM_usesStorage_10 : decode nC_TM_usesStorage 10 = .ok (.goto 4, 3) := by decide +kernel
theorem nD_TM_usesStorage_13 : decode nC_TM_usesStorage 13 = .ok (.iconst 0, 1) := by decide +kernel
theorem nD_TM_usesStorage_14 : decode nC_TM_usesStorage 14 = .ok (.ireturn, 1) := by decide +kernel
theorem nD_TM_isInstruction_0 : decode nC_TM_isInstruction 0 = .ok (.iload_n 1, 1) := by decide +kernel
theorem nD_TM_isInstruction_1 : decode nC_TM_isInstruction 1 = .ok (.ifCond .lt 15, 3) := by decide +kernel
theorem nD_TM_isInstruction_4 : decode nC_TM_isInstruction 4 = .ok (.iload_n 1, 1) := by decide +kernel
theorem nD_TM_isInstruction_5 : decode nC_TM_isInstruction 5 = .ok (.aload_n 0, 1) := by decide +kernel
theorem nD_TM_isInstruction_6 : decode nC_TM_isInstruction 6 = .ok (.getfield 74, 3) := by decide +kernel
theorem nD_TM_isInstruction_9 : decode nC_TM_isInstruction 9 = .ok (.if_icmp .ge 7, 3) := by decide +kernel
theorem nD_TM_isInstruction_12 : decode nC_TM_isInstruction 12 = .ok (.iconst 1, 1) := by decide +kernel
theorem nD_TM_isInstruction_13 : decode nC_TM_isInstruction 13 = .ok (.goto 4, 3) := by decide +kernel
theorem nD_TM_isInstruction_16 : decode nC_TM_isInstruction 16 = .ok (.iconst 0, 1) := by decide +kernel
theorem nD_TM_isInstruction_17 : decode nC_TM_isInstruction 17 = .ok (.ireturn, 1) := by decide +kernel
theorem nD_TM_isBusy_0 : decode nC_TM_isBusy 0 = .ok (.aload_n 0, 1) := by decide +kernel
theorem nD_TM_isBusy_1 : decode nC_TM_isBusy 1 = .ok (.getfield 64, 3) := by decide +kernel
theorem nD_TM_isBusy_4 : decode nC_TM_isBusy 4 = .ok (.ifCond .eq 11, 3) := by decide +kernel
theorem nD_TM_isBusy_7 : decode nC_TM_isBusy 7 = .ok (.aload_n 0, 1) := by decide +kernel
theorem nD_TM_isBusy_8 : decode nC_TM_isBusy 8 = .ok (.getfield 64, 3) := by decide +kernel
theorem nD_TM_isBusy_11 : decode nC_TM_isBusy 11 = .ok (.iconst 1, 1) := by decide +kernel
theorem nD_TM_isBusy_12 : decode nC_TM_isBusy 12 = .ok (.if_icmp .ne 7, 3) := by decide +kernel
theorem nD_TM_isBusy_15 : decode nC_TM_isBusy 15 = .ok (.iconst 1, 1) := by decide +kernel
theorem nD_TM_isBusy_16 : decode nC_TM_isBusy 16 = .ok (.goto 4, 3) := by decide +kernel
theorem nD_TM_isBusy_19 : decode nC_TM_isBusy 19 = .ok (.iconst 0, 1) := by decide +kernel
theorem nD_TM_isBusy_20 : decode nC_TM_isBusy 20 = .ok (.ireturn, 1) := by decide +kernel
theorem nD_TM_goOneCycle_0 : decode nC_TM_goOneCycle 0 = .ok (.aload_n 0, 1) := by decide +kernel
theorem nD_TM_goOneCycle_1 : decode nC_TM_goOneCycle 1 = .ok (.invokevirtual 135, 3) := by decide +kernel
theorem nD_TM_goOneCycle_4 : decode nC_TM_goOneCycle 4 = .ok (.aload_n 0, 1) := by decide +kernel
theorem nD_TM_goOneCycle_5 : decode nC_TM_goOneCycle 5 = .ok (.invokevirtual 138, 3) := by decide +kernel
theorem nD_TM_goOneCycle_8 : decode nC_TM_goOneCycle 8 = .ok (.aload_n 0, 1) := by decide +kernel
theorem nD_TM_goOneCycle_9 : decode nC_TM_goOneCycle 9 = .ok (.aload_n 0, 1) := by decide +kernel
theorem nD_TM_goOneCycle_10 : decode nC_TM_goOneCycle 10 = .ok (.iconst 1, 1) := by decide +kernel
theorem nD_TM_goOneCycle_11 : decode nC_TM_goOneCycle 11 = .ok (.iconst 3, 1) := by decide +kernel
theorem nD_TM_goOneCycle_12 : decode nC_TM_goOneCycle 12 = .ok (.invokevirtual 141, 3) := by decide +kernel
theorem nD_TM_goOneCycle_15 : decode nC_TM_goOneCycle 15 = .ok (.invokevirtual 144, 3) := by decide +kernel
theorem nD_TM_goOneCycle_18 : decode nC_TM_goOneCycle 18 = .ok (.aload_n 0, 1) := by decide +kernel
theorem nD_TM_goOneCycle_19 : decode nC_TM_goOneCycle 19 = .ok (.aload_n 0, 1) := by decide +kernel
theorem nD_TM_goOneCycle_20 : decode nC_TM_goOneCycle 20 = .ok (.invokevirtual 147, 3) := by decide +kernel
theorem nD_TM_goOneCycle_23 : decode nC_TM_goOneCycle 23 = .ok (.invokevirtual 144, 3) := by decide +kernel
theorem nD_TM_goOneCycle_26 : decode nC_TM_goOneCycle 26 = .ok (.aload_n 0, 1) := by decide +kernel
theorem nD_TM_goOneCycle_27 : decode nC_TM_goOneCycle 27 = .ok (.invokevirtual 151, 3) := by decide +kernel
theorem nD_TM_goOneCycle_30 : decode nC_TM_goOneCycle 30 = .ok (.aload_n 0, 1) := by decide +kernel
theorem nD_TM_goOneCycle_31 : decode nC_TM_goOneCycle 31 = .ok (.getfield 64, 3) := by decide +kernel
theorem nD_TM_goOneCycle_34 : decode nC_TM_goOneCycle 34 = .ok (.ifCond .ne 7, 3) := by decide +kernel
theorem nD_TM_goOneCycle_37 : decode nC_TM_goOneCycle 37 = .ok (.aload_n 0, 1) := by decide +kernel
theorem nD_TM_goOneCycle_38 : decode nC_TM_goOneCycle 38 = .ok (.invokevirtual 154, 3) := by decide +kernel
theorem nD_TM_goOneCycle_41 : decode nC_TM_goOneCycle 41 = .ok (.aload_n 0, 1) := by decide +kernel
theorem nD_TM_goOneCycle_42 : decode nC_TM_goOneCycle 42 = .ok (.getfield 64, 3) := by decide +kernel
theorem nD_TM_goOneCycle_45 : decode nC_TM_goOneCycle 45 = .ok (.iconst 1, 1) := by decide +kernel
theorem nD_TM_goOneCycle_46 : decode nC_TM_goOneCycle 46 = .ok (.if_icmp .ne 26, 3) := by decide +kernel
theorem nD_TM_goOneCycle_49 : decode nC_TM_goOneCycle 49 = .ok (.aload_n 0, 1) := by decide +kernel
theorem nD_TM_goOneCycle_50 : decode nC_TM_goOneCycle 50 = .ok (.invokevirtual 157, 3) := by decide +kernel
theorem nD_TM_goOneCycle_53 : decode nC_TM_goOneCycle 53 = .ok (.ifCond .eq 19, 3) := by decide +kernel
theorem nD_TM_goOneCycle_56 : decode nC_TM_goOneCycle 56 = .ok (.aload_n 0, 1) := by decide +kernel
theorem nD_TM_goOneCycle_57 : decode nC_TM_goOneCycle 57 = .ok (.aload_n 0, 1) := by decide +kernel
theorem nD_TM_goOneCycle_58 : decode nC_TM_goOneCycle 58 = .ok (.getfield 94, 3) := by decide +kernel
theorem nD_TM_goOneCycle_61 : decode nC_TM_goOneCycle 61 = .ok (.ifCond .eq 7, 3) := by decide +kernel
theorem nD_TM_goOneCycle_64 : decode nC_TM_goOneCycle 64 = .ok (.iconst 3, 1) := by decide +kernel
theorem nD_TM_goOneCycle_65 : decode nC_TM_goOneCycle 65 = .ok (.goto 4, 3) := by decide +kernel
theorem nD_TM_goOneCycle_68 : decode nC_TM_goOneCycle 68 = .ok (.iconst 2, 1) := by decide +kernel
theorem nD_TM_goOneCycle_69 : decode nC_TM_goOneCycle 69 = .ok (.putfield 64, 3) := by decide +kernel
theorem nD_TM_goOneCycle_72 : decode nC_TM_goOneCycle 72 = .ok (.aload_n 0, 1) := by decide +kernel
theorem nD_TM_goOneCycle_73 : decode nC_TM_goOneCycle 73 = .ok (.dup, 1) := by decide +kernel
theorem nD_TM_goOneCycle_74 : decode nC_TM_goOneCycle 74 = .ok (.getfield 129, 3) := by decide +kernel
theorem nD_TM_goOneCycle_77 : decode nC_TM_goOneCycle 77 = .ok (.iconst 1, 1) := by decide +kernel
theorem nD_TM_goOneCycle_78 : decode nC_TM_goOneCycle 78 = .ok (.iadd, 1) := by decide +kernel
theorem nD_TM_goOneCycle_79 : decode nC_TM_goOneCycle 79 = .ok (.putfield 129, 3) := by decide +kernel
theorem nD_TM_goOneCycle_82 : decode nC_TM_goOneCycle 82 = .ok (.return_, 1) := by decide +kernel
