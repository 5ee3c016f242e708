-- decode rows (written by program)
theorem nD_LAW_cell_0 : decode nC_LAW_cell 0 = .ok (.iload_n 1, 1) := by decide +kernel
theorem nD_LAW_cell_1 : decode nC_LAW_cell 1 = .ok (.aload_n 0, 1) := by decide +kernel
theorem nD_LAW_cell_2 : decode nC_LAW_cell 2 = .ok (.arraylength, 1) := by decide +kernel
theorem nD_LAW_cell_3 : decode nC_LAW_cell 3 = .ok (.if_icmp .ge 9, 3) := by decide +kernel
theorem nD_LAW_cell_6 : decode nC_LAW_cell 6 = .ok (.aload_n 0, 1) := by decide +kernel
theorem nD_LAW_cell_7 : decode nC_LAW_cell 7 = .ok (.iload_n 1, 1) := by decide +kernel
theorem nD_LAW_cell_8 : decode nC_LAW_cell 8 = .ok (.iaload, 1) := by decide +kernel
theorem nD_LAW_cell_9 : decode nC_LAW_cell 9 = .ok (.goto 4, 3) := by decide +kernel
theorem nD_LAW_cell_12 : decode nC_LAW_cell 12 = .ok (.iconst 0, 1) := by decide +kernel
theorem nD_LAW_cell_13 : decode nC_LAW_cell 13 = .ok (.ireturn, 1) := by decide +kernel
theorem nD_LAW_put_0 : decode nC_LAW_put 0 = .ok (.aload 6, 2) := by decide +kernel
theorem nD_LAW_put_2 : decode nC_LAW_put 2 = .ok (.iconst 0, 1) := by decide +kernel
theorem nD_LAW_put_3 : decode nC_LAW_put 3 = .ok (.aload_n 0, 1) := by decide +kernel
theorem nD_LAW_put_4 : decode nC_LAW_put 4 = .ok (.iload_n 1, 1) := by decide +kernel
theorem nD_LAW_put_5 : decode nC_LAW_put 5 = .ok (.iload_n 2, 1) := by decide +kernel
theorem nD_LAW_put_6 : decode nC_LAW_put 6 = .ok (.iload_n 3, 1) := by decide +kernel
theorem nD_LAW_put_7 : decode nC_LAW_put 7 = .ok (.iload 4, 2) := by decide +kernel
theorem nD_LAW_put_9 : decode nC_LAW_put 9 = .ok (.iload 5, 2) := by decide +kernel
theorem nD_LAW_put_11 : decode nC_LAW_put 11 = .ok (.invokevirtual 7, 3) := by decide +kernel
theorem nD_LAW_put_14 : decode nC_LAW_put 14 = .ok (.i2l, 1) := by decide +kernel
theorem nD_LAW_put_15 : decode nC_LAW_put 15 = .ok (.lastore, 1) := by decide +kernel
theorem nD_LAW_put_16 : decode nC_LAW_put 16 = .ok (.goto 11, 3) := by decide +kernel
theorem nD_LAW_put_19 : decode nC_LAW_put 19 = .ok (.astore 7, 2) := by decide +kernel
theorem nD_LAW_put_21 : decode nC_LAW_put 21 = .ok (.iconst 1, 1) := by decide +kernel
theorem nD_LAW_put_22 : decode nC_LAW_put 22 = .ok (.ireturn, 1) := by decide +kernel
theorem nD_LAW_put_23 : decode nC_LAW_put 23 = .ok (.astore 7, 2) := by decide +kernel
theorem nD_LAW_put_25 : decode nC_LAW_put 25 = .ok (.iconst 2, 1) := by decide +kernel
theorem nD_LAW_put_26 : decode nC_LAW_put 26 = .ok (.ireturn, 1) := by decide +kernel
theorem nD_LAW_put_27 : decode nC_LAW_put 27 = .ok (.iconst 0, 1) := by decide +kernel
theorem nD_LAW_put_28 : decode nC_LAW_put 28 = .ok (.ireturn, 1) := by decide +kernel
theorem nD_LAW_start_0 : decode nC_LAW_start 0 = .ok (.aload_n 2, 1) := by decide +kernel
theorem nD_LAW_start_1 : decode nC_LAW_start 1 = .ok (.iconst 0, 1) := by decide +kernel
theorem nD_LAW_start_2 : decode nC_LAW_start 2 = .ok (.aload_n 0, 1) := by decide +kernel
theorem nD_LAW_start_3 : decode nC_LAW_start 3 = .ok (.iload_n 1, 1) := by decide +kernel
theorem nD_LAW_start_4 : decode nC_LAW_start 4 = .ok (.invokevirtual 17, 3) := by decide +kernel
theorem nD_LAW_start_7 : decode nC_LAW_start 7 = .ok (.ifCond .eq 7, 3) := by decide +kernel
theorem nD_LAW_start_10 : decode nC_LAW_start 10 = .ok (.lconst 1, 1) := by decide +kernel
theorem nD_LAW_start_11 : decode nC_LAW_start 11 = .ok (.goto 4, 3) := by decide +kernel
theorem nD_LAW_start_14 : decode nC_LAW_start 14 = .ok (.lconst 0, 1) := by decide +kernel
theorem nD_LAW_start_15 : decode nC_LAW_start 15 = .ok (.lastore, 1) := by decide +kernel
theorem nD_LAW_start_16 : decode nC_LAW_start 16 = .ok (.goto 9, 3) := by decide +kernel
theorem nD_LAW_start_19 : decode nC_LAW_start 19 = .ok (.astore_n 3, 1) := by decide +kernel
theorem nD_LAW_start_20 : decode nC_LAW_start 20 = .ok (.iconst 1, 1) := by decide +kernel
theorem nD_LAW_start_21 : decode nC_LAW_start 21 = .ok (.ireturn, 1) := by decide +kernel
theorem nD_LAW_start_22 : decode nC_LAW_start 22 = .ok (.astore_n 3, 1) := by decide +kernel
theorem nD_LAW_start_23 : decode nC_LAW_start 23 = .ok (.iconst 2, 1) := by decide +kernel
theorem nD_LAW_start_24 : decode nC_LAW_start 24 = .ok (.ireturn, 1) := by decide +kernel
theorem nD_LAW_start_25 : decode nC_LAW_start 25 = .ok (.iconst 0, 1) := by decide +kernel
theorem nD_LAW_start_26 : decode nC_LAW_start 26 = .ok (.ireturn, 1) := by decide +kernel
theorem nD_LAW_run_0 : decode nC_LAW_run 0 = .ok (.aload_n 2, 1) := by decide +kernel
theorem nD_LAW_run_1 : decode nC_LAW_run 1 = .ok (.iconst 0, 1) := by decide +kernel
theorem nD_LAW_run_2 : decode nC_LAW_run 2 = .ok (.aload_n 0, 1) := by decide +kernel
theorem nD_LAW_run_3 : decode nC_LAW_run 3 = .ok (.iload_n 1, 1) := by decide +kernel
theorem nD_LAW_run_4 : decode nC_LAW_run 4 = .ok (.invokevirtual 21, 3) := by decide +kernel
theorem nD_LAW_run_7 : decode nC_LAW_run 7 = .ok (.i2l, 1) := by decide +kernel
theorem nD_LAW_run_8 : decode nC_LAW_run 8 = .ok (.lastore, 1) := by decide +kernel
theorem nD_LAW_run_9 : decode nC_LAW_run 9 = .ok (.goto 9, 3) := by decide +kernel
theorem nD_LAW_run_12 : decode nC_LAW_run 12 = .ok (.astore_n 3, 1) := by decide +kernel
theorem nD_LAW_run_13 : decode nC_LAW_run 13 = .ok (.iconst 1, 1) := by decide +kernel
theorem nD_LAW_run_14 : decode nC_LAW_run 14 = .ok (.ireturn, 1) := by decide +kernel
theorem nD_LAW_run_15 : decode nC_LAW_run 15 = .ok (.astore_n 3, 1) := by decide +kernel
theorem nD_LAW_run_16 : decode nC_LAW_run 16 = .ok (.iconst 2, 1) := by decide +kernel
theorem nD_LAW_run_17 : decode nC_LAW_run 17 = .ok (.ireturn, 1) := by decide +kernel
theorem nD_LAW_run_18 : decode nC_LAW_run 18 = .ok (.iconst 0, 1) := by decide +kernel
theorem nD_LAW_run_19 : decode nC_LAW_run 19 = .ok (.ireturn, 1) := by decide +kernel
theorem nD_LAW_set_0 : decode nC_LAW_set 0 = .ok (.aload_n 3, 1) := by decide +kernel
theorem nD_LAW_set_1 : decode nC_LAW_set 1 = .ok (.iconst 0, 1) := by decide +kernel
theorem nD_LAW_set_2 : decode nC_LAW_set 2 = .ok (.aload_n 0, 1) := by decide +kernel
theorem nD_LAW_set_3 : decode nC_LAW_set 3 = .ok (.iload_n 1, 1) := by decide +kernel
theorem nD_LAW_set_4 : decode nC_LAW_set 4 = .ok (.iload_n 2, 1) := by decide +kernel
theorem nD_LAW_set_5 : decode nC_LAW_set 5 = .ok (.invokevirtual 25, 3) := by decide +kernel
theorem nD_LAW_set_8 : decode nC_LAW_set 8 = .ok (.ifCond .eq 7, 3) := by decide +kernel
theorem nD_LAW_set_11 : decode nC_LAW_set 11 = .ok (.lconst 1, 1) := by decide +kernel
theorem nD_LAW_set_12 : decode nC_LAW_set 12 = .ok (.goto 4, 3) := by decide +kernel
theorem nD_LAW_set_15 : decode nC_LAW_set 15 = .ok (.lconst 0, 1) := by decide +kernel
theorem nD_LAW_set_16 : decode nC_LAW_set 16 = .ok (.lastore, 1) := by decide +kernel
theorem nD_LAW_set_17 : decode nC_LAW_set 17 = .ok (.goto 11, 3) := by decide +kernel
theorem nD_LAW_set_20 : decode nC_LAW_set 20 = .ok (.astore 4, 2) := by decide +kernel
theorem nD_LAW_set_22 : decode nC_LAW_set 22 = .ok (.iconst 1, 1) := by decide +kernel
theorem nD_LAW_set_23 : decode nC_LAW_set 23 = .ok (.ireturn, 1) := by decide +kernel
theorem nD_LAW_set_24 : decode nC_LAW_set 24 = .ok (.astore 4, 2) := by decide +kernel
theorem nD_LAW_set_26 : decode nC_LAW_set 26 = .ok (.iconst 2, 1) := by decide +kernel
theorem nD_LAW_set_27 : decode nC_LAW_set 27 = .ok (.ireturn, 1) := by decide +kernel
theorem nD_LAW_set_28 : decode nC_LAW_set 28 = .ok (.iconst 0, 1) := by decide +kernel
theorem nD_LAW_set_29 : decode nC_LAW_set 29 = .ok (.ireturn, 1) := by decide +kernel
theorem nD_LAW_store_0 : decode nC_LAW_store 0 = .ok (.aload_n 3, 1) := by decide +kernel
theorem nD_LAW_store_1 : decode nC_LAW_store 1 = .ok (.iconst 0, 1) := by decide +kernel
theorem nD_LAW_store_2 : decode nC_LAW_store 2 = .ok (.aload_n 0, 1) := by decide +kernel
theorem nD_LAW_store_3 : decode nC_LAW_store 3 = .ok (.iload_n 1, 1) := by decide +kernel
theorem nD_LAW_store_4 : decode nC_LAW_store 4 = .ok (.iload_n 2, 1) := by decide +kernel
theorem nD_LAW_store_5 : decode nC_LAW_store 5 = .ok (.invokevirtual 29, 3) := by decide +kernel
theorem nD_LAW_store_8 : decode nC_LAW_store 8 = .ok (.ifCond .eq 7, 3) := by decide +kernel
theorem nD_LAW_store_11 : decode nC_LAW_store 11 = .ok (.lconst 1, 1) := by decide +kernel
theorem nD_LAW_store_12 : decode nC_LAW_store 12 = .ok (.goto 4, 3) := by decide +kernel
theorem nD_LAW_store_15 : decode nC_LAW_store 15 = .ok (.lconst 0, 1) := by decide +kernel
theorem nD_LAW_store_16 : decode nC_LAW_store 16 = .ok (.lastore, 1) := by decide +kernel
theorem nD_LAW_store_17 : decode nC_LAW_store 17 = .ok (.goto 11, 3) := by decide +kernel
theorem nD_LAW_store_20 : decode nC_LAW_store 20 = .ok (.astore 4, 2) := by decide +kernel
theorem nD_LAW_store_22 : decode nC_LAW_store 22 = .ok (.iconst 1, 1) := by decide +kernel
theorem nD_LAW_store_23 : decode nC_LAW_store 23 = .ok (.ireturn, 1) := by decide +kernel
theorem nD_LAW_store_24 : decode nC_LAW_store 24 = .ok (.astore 4, 2) := by decide +kernel
theorem nD_LAW_store_26 : decode nC_LAW_store 26 = .ok (.iconst 2, 1) := by decide +kernel
theorem nD_LAW_store_27 : decode nC_LAW_store 27 = .ok (.ireturn, 1) := by decide +kernel
theorem nD_LAW_store_28 : decode nC_LAW_store 28 = .ok (.iconst 0, 1) := by decide +kernel
theorem nD_LAW_store_29 : decode nC_LAW_store 29 = .ok (.ireturn, 1) := by decide +kernel
theorem nD_LAW_reckon_0 : decode nC_LAW_reckon 0 = .ok (.aload 4, 2) := by decide +kernel
theorem nD_LAW_reckon_2 : decode nC_LAW_reckon 2 = .ok (.iconst 0, 1) := by decide +kernel
theorem nD_LAW_reckon_3 : decode nC_LAW_reckon 3 = .ok (.aload_n 0, 1) := by decide +kernel
theorem nD_LAW_reckon_4 : decode nC_LAW_reckon 4 = .ok (.iload_n 1, 1) := by decide +kernel
theorem nD_LAW_reckon_5 : decode nC_LAW_reckon 5 = .ok (.iload_n 2, 1) := by decide +kernel
theorem nD_LAW_reckon_6 : decode nC_LAW_reckon 6 = .ok (.iload_n 3, 1) := by decide +kernel
theorem nD_LAW_reckon_7 : decode nC_LAW_reckon 7 = .ok (.invokevirtual 32, 3) := by decide +kernel
theorem nD_LAW_reckon_10 : decode nC_LAW_reckon 10 = .ok (.i2l, 1) := by decide +kernel
theorem nD_LAW_reckon_11 : decode nC_LAW_reckon 11 = .ok (.lastore, 1) := by decide +kernel
theorem nD_LAW_reckon_12 : decode nC_LAW_reckon 12 = .ok (.goto 7, 3) := by decide +kernel
theorem nD_LAW_reckon_15 : decode nC_LAW_reckon 15 = .ok (.astore 5, 2) := by decide +kernel
theorem nD_LAW_reckon_17 : decode nC_LAW_reckon 17 = .ok (.iconst 1, 1) := by decide +kernel
theorem nD_LAW_reckon_18 : decode nC_LAW_reckon 18 = .ok (.ireturn, 1) := by decide +kernel
theorem nD_LAW_reckon_19 : decode nC_LAW_reckon 19 = .ok (.iconst 0, 1) := by decide +kernel
theorem nD_LAW_reckon_20 : decode nC_LAW_reckon 20 = .ok (.ireturn, 1) := by decide +kernel
theorem nD_LAW_exceptions_0 : decode nC_LAW_exceptions 0 = .ok (.aload 4, 2) := by decide +kernel
theorem nD_LAW_exceptions_2 : decode nC_LAW_exceptions 2 = .ok (.iconst 0, 1) := by decide +kernel
theorem nD_LAW_exceptions_3 : decode nC_LAW_exceptions 3 = .ok (.aload_n 0, 1) := by decide +kernel
theorem nD_LAW_exceptions_4 : decode nC_LAW_exceptions 4 = .ok (.iload_n 1, 1) := by decide +kernel
theorem nD_LAW_exceptions_5 : decode nC_LAW_exceptions 5 = .ok (.iload_n 2, 1) := by decide +kernel
theorem nD_LAW_exceptions_6 : decode nC_LAW_exceptions 6 = .ok (.iload_n 3, 1) := by decide +kernel
theorem nD_LAW_exceptions_7 : decode nC_LAW_exceptions 7 = .ok (.invokevirtual 36, 3) := by decide +kernel
theorem nD_LAW_exceptions_10 : decode nC_LAW_exceptions 10 = .ok (.i2l, 1) := by decide +kernel
theorem nD_LAW_exceptions_11 : decode nC_LAW_exceptions 11 = .ok (.lastore, 1) := by decide +kernel
theorem nD_LAW_exceptions_12 : decode nC_LAW_exceptions 12 = .ok (.goto 7, 3) := by decide +kernel
theorem nD_LAW_exceptions_15 : decode nC_LAW_exceptions 15 = .ok (.astore 5, 2) := by decide +kernel
theorem nD_LAW_exceptions_17 : decode nC_LAW_exceptions 17 = .ok (.iconst 1, 1) := by decide +kernel
theorem nD_LAW_exceptions_18 : decode nC_LAW_exceptions 18 = .ok (.ireturn, 1) := by decide +kernel
theorem nD_LAW_exceptions_19 : decode nC_LAW_exceptions 19 = .ok (.iconst 0, 1) := by decide +kernel
theorem nD_LAW_exceptions_20 : decode nC_LAW_exceptions 20 = .ok (.ireturn, 1) := by decide +kernel
theorem nD_LAW_law_0 : decode nC_LAW_law 0 = .ok (.new 8, 3) := by decide +kernel
theorem nD_LAW_law_3 : decode nC_LAW_law 3 = .ok (.dup, 1) := by decide +kernel
theorem nD_LAW_law_4 : decode nC_LAW_law 4 = .ok (.aload_n 0, 1) := by decide +kernel
theorem nD_LAW_law_5 : decode nC_LAW_law 5 = .ok (.iconst 0, 1) := by decide +kernel
theorem nD_LAW_law_6 : decode nC_LAW_law 6 = .ok (.invokestatic 39, 3) := by decide +kernel
theorem nD_LAW_law_9 : decode nC_LAW_law 9 = .ok (.aload_n 0, 1) := by decide +kernel
theorem nD_LAW_law_10 : decode nC_LAW_law 10 = .ok (.iconst 1, 1) := by decide +kernel
theorem nD_LAW_law_11 : decode nC_LAW_law 11 = .ok (.invokestatic 39, 3) := by decide +kernel
theorem nD_LAW_law_14 : decode nC_LAW_law 14 = .ok (.invokespecial 45, 3) := by decide +kernel
theorem nD_LAW_law_17 : decode nC_LAW_law 17 = .ok (.astore_n 1, 1) := by decide +kernel
theorem nD_LAW_law_18 : decode nC_LAW_law 18 = .ok (.new 48, 3) := by decide +kernel
theorem nD_LAW_law_21 : decode nC_LAW_law 21 = .ok (.dup, 1) := by decide +kernel
theorem nD_LAW_law_22 : decode nC_LAW_law 22 = .ok (.aload_n 0, 1) := by decide +kernel
theorem nD_LAW_law_23 : decode nC_LAW_law 23 = .ok (.iconst 0, 1) := by decide +kernel
theorem nD_LAW_law_24 : decode nC_LAW_law 24 = .ok (.invokestatic 39, 3) := by decide +kernel
theorem nD_LAW_law_27 : decode nC_LAW_law 27 = .ok (.aload_n 0, 1) := by decide +kernel
theorem nD_LAW_law_28 : decode nC_LAW_law 28 = .ok (.iconst 1, 1) := by decide +kernel
theorem nD_LAW_law_29 : decode nC_LAW_law 29 = .ok (.invokestatic 39, 3) := by decide +kernel
theorem nD_LAW_law_32 : decode nC_LAW_law 32 = .ok (.invokespecial 50, 3) := by decide +kernel
theorem nD_LAW_law_35 : decode nC_LAW_law 35 = .ok (.astore_n 2, 1) := by decide +kernel
theorem nD_LAW_law_36 : decode nC_LAW_law 36 = .ok (.iconst 1, 1) := by decide +kernel
theorem nD_LAW_law_37 : decode nC_LAW_law 37 = .ok (.newarray .long, 2) := by decide +kernel
theorem nD_LAW_law_39 : decode nC_LAW_law 39 = .ok (.astore_n 3, 1) := by decide +kernel
theorem nD_LAW_law_40 : decode nC_LAW_law 40 = .ok (.iconst 2, 1) := by decide +kernel
theorem nD_LAW_law_41 : decode nC_LAW_law 41 = .ok (.istore 4, 2) := by decide +kernel
theorem nD_LAW_law_43 : decode nC_LAW_law 43 = .ok (.iload 4, 2) := by decide +kernel
theorem nD_LAW_law_45 : decode nC_LAW_law 45 = .ok (.aload_n 0, 1) := by decide +kernel
theorem nD_LAW_law_46 : decode nC_LAW_law 46 = .ok (.arraylength, 1) := by decide +kernel
theorem nD_LAW_law_47 : decode nC_LAW_law 47 = .ok (.bipush 6, 2) := by decide +kernel
theorem nD_LAW_law_49 : decode nC_LAW_law 49 = .ok (.isub, 1) := by decide +kernel
theorem nD_LAW_law_50 : decode nC_LAW_law 50 = .ok (.if_icmp .gt 767, 3) := by decide +kernel
theorem nD_LAW_law_53 : decode nC_LAW_law 53 = .ok (.aload_n 0, 1) := by decide +kernel
theorem nD_LAW_law_54 : decode nC_LAW_law 54 = .ok (.iload 4, 2) := by decide +kernel
theorem nD_LAW_law_56 : decode nC_LAW_law 56 = .ok (.iaload, 1) := by decide +kernel
theorem nD_LAW_law_57 : decode nC_LAW_law 57 = .ok (.bipush 15, 2) := by decide +kernel
theorem nD_LAW_law_59 : decode nC_LAW_law 59 = .ok (.iand, 1) := by decide +kernel
theorem nD_LAW_law_60 : decode nC_LAW_law 60 = .ok (.tableswitch 751 0 12 #[68, 172, 235, 291, 366, 441, 521, 601, 626, 651, 676, 701, 726], 68) := by decide +kernel
theorem nD_LAW_law_128 : decode nC_LAW_law 128 = .ok (.aload_n 1, 1) := by decide +kernel
theorem nD_LAW_law_129 : decode nC_LAW_law 129 = .ok (.aload_n 0, 1) := by decide +kernel
theorem nD_LAW_law_130 : decode nC_LAW_law 130 = .ok (.iload 4, 2) := by decide +kernel
theorem nD_LAW_law_132 : decode nC_LAW_law 132 = .ok (.iconst 1, 1) := by decide +kernel
theorem nD_LAW_law_133 : decode nC_LAW_law 133 = .ok (.iadd, 1) := by decide +kernel
theorem nD_LAW_law_134 : decode nC_LAW_law 134 = .ok (.iaload, 1) := by decide +kernel
theorem nD_LAW_law_135 : decode nC_LAW_law 135 = .ok (.aload_n 0, 1) := by decide +kernel
theorem nD_LAW_law_136 : decode nC_LAW_law 136 = .ok (.iload 4, 2) := by decide +kernel
theorem nD_LAW_law_138 : decode nC_LAW_law 138 = .ok (.iconst 2, 1) := by decide +kernel
theorem nD_LAW_law_139 : decode nC_LAW_law 139 = .ok (.iadd, 1) := by decide +kernel
theorem nD_LAW_law_140 : decode nC_LAW_law 140 = .ok (.iaload, 1) := by decide +kernel
theorem nD_LAW_law_141 : decode nC_LAW_law 141 = .ok (.aload_n 0, 1) := by decide +kernel
theorem nD_LAW_law_142 : decode nC_LAW_law 142 = .ok (.iload 4, 2) := by decide +kernel
theorem nD_LAW_law_144 : decode nC_LAW_law 144 = .ok (.iconst 3, 1) := by decide +kernel
theorem nD_LAW_law_145 : decode nC_LAW_law 145 = .ok (.iadd, 1) := by decide +kernel
theorem nD_LAW_law_146 : decode nC_LAW_law 146 = .ok (.iaload, 1) := by decide +kernel
theorem nD_LAW_law_147 : decode nC_LAW_law 147 = .ok (.aload_n 0, 1) := by decide +kernel
theorem nD_LAW_law_148 : decode nC_LAW_law 148 = .ok (.iload 4, 2) := by decide +kernel
theorem nD_LAW_law_150 : decode nC_LAW_law 150 = .ok (.iconst 4, 1) := by decide +kernel
theorem nD_LAW_law_151 : decode nC_LAW_law 151 = .ok (.iadd, 1) := by decide +kernel
theorem nD_LAW_law_152 : decode nC_LAW_law 152 = .ok (.iaload, 1) := by decide +kernel
theorem nD_LAW_law_153 : decode nC_LAW_law 153 = .ok (.aload_n 0, 1) := by decide +kernel
theorem nD_LAW_law_154 : decode nC_LAW_law 154 = .ok (.iload 4, 2) := by decide +kernel
theorem nD_LAW_law_156 : decode nC_LAW_law 156 = .ok (.iconst 5, 1) := by decide +kernel
theorem nD_LAW_law_157 : decode nC_LAW_law 157 = .ok (.iadd, 1) := by decide +kernel
theorem nD_LAW_law_158 : decode nC_LAW_law 158 = .ok (.iaload, 1) := by decide +kernel
theorem nD_LAW_law_159 : decode nC_LAW_law 159 = .ok (.aload_n 3, 1) := by decide +kernel
theorem nD_LAW_law_160 : decode nC_LAW_law 160 = .ok (.invokestatic 51, 3) := by decide +kernel
theorem nD_LAW_law_163 : decode nC_LAW_law 163 = .ok (.istore 5, 2) := by decide +kernel
theorem nD_LAW_law_165 : decode nC_LAW_law 165 = .ok (.aload_n 2, 1) := by decide +kernel
theorem nD_LAW_law_166 : decode nC_LAW_law 166 = .ok (.aload_n 0, 1) := by decide +kernel
theorem nD_LAW_law_167 : decode nC_LAW_law 167 = .ok (.iload 4, 2) := by decide +kernel
theorem nD_LAW_law_169 : decode nC_LAW_law 169 = .ok (.iconst 1, 1) := by decide +kernel
theorem nD_LAW_law_170 : decode nC_LAW_law 170 = .ok (.iadd, 1) := by decide +kernel
theorem nD_LAW_law_171 : decode nC_LAW_law 171 = .ok (.iaload, 1) := by decide +kernel
theorem nD_LAW_law_172 : decode nC_LAW_law 172 = .ok (.aload_n 0, 1) := by decide +kernel
theorem nD_LAW_law_173 : decode nC_LAW_law 173 = .ok (.iload 4, 2) := by decide +kernel
theorem nD_LAW_law_175 : decode nC_LAW_law 175 = .ok (.iconst 2, 1) := by decide +kernel
theorem nD_LAW_law_176 : decode nC_LAW_law 176 = .ok (.iadd, 1) := by decide +kernel
theorem nD_LAW_law_177 : decode nC_LAW_law 177 = .ok (.iaload, 1) := by decide +kernel
theorem nD_LAW_law_178 : decode nC_LAW_law 178 = .ok (.aload_n 0, 1) := by decide +kernel
theorem nD_LAW_law_179 : decode nC_LAW_law 179 = .ok (.iload 4, 2) := by decide +kernel
theorem nD_LAW_law_181 : decode nC_LAW_law 181 = .ok (.iconst 3, 1) := by decide +kernel
theorem nD_LAW_law_182 : decode nC_LAW_law 182 = .ok (.iadd, 1) := by decide +kernel
theorem nD_LAW_law_183 : decode nC_LAW_law 183 = .ok (.iaload, 1) := by decide +kernel
theorem nD_LAW_law_184 : decode nC_LAW_law 184 = .ok (.aload_n 0, 1) := by decide +kernel
theorem nD_LAW_law_185 : decode nC_LAW_law 185 = .ok (.iload 4, 2) := by decide +kernel
theorem nD_LAW_law_187 : decode nC_LAW_law 187 = .ok (.iconst 4, 1) := by decide +kernel
theorem nD_LAW_law_188 : decode nC_LAW_law 188 = .ok (.iadd, 1) := by decide +kernel
theorem nD_LAW_law_189 : decode nC_LAW_law 189 = .ok (.iaload, 1) := by decide +kernel
theorem nD_LAW_law_190 : decode nC_LAW_law 190 = .ok (.aload_n 0, 1) := by decide +kernel
theorem nD_LAW_law_191 : decode nC_LAW_law 191 = .ok (.iload 4, 2) := by decide +kernel
theorem nD_LAW_law_193 : decode nC_LAW_law 193 = .ok (.iconst 5, 1) := by decide +kernel
theorem nD_LAW_law_194 : decode nC_LAW_law 194 = .ok (.iadd, 1) := by decide +kernel
theorem nD_LAW_law_195 : decode nC_LAW_law 195 = .ok (.iaload, 1) := by decide +kernel
theorem nD_LAW_law_196 : decode nC_LAW_law 196 = .ok (.invokevirtual 54, 3) := by decide +kernel
theorem nD_LAW_law_199 : decode nC_LAW_law 199 = .ok (.istore 6, 2) := by decide +kernel
theorem nD_LAW_law_201 : decode nC_LAW_law 201 = .ok (.aload_n 2, 1) := by decide +kernel
theorem nD_LAW_law_202 : decode nC_LAW_law 202 = .ok (.invokevirtual 55, 3) := by decide +kernel
theorem nD_LAW_law_205 : decode nC_LAW_law 205 = .ok (.iload 5, 2) := by decide +kernel
theorem nD_LAW_law_207 : decode nC_LAW_law 207 = .ok (.if_icmp .eq 5, 3) := by decide +kernel
theorem nD_LAW_law_210 : decode nC_LAW_law 210 = .ok (.iconst 0, 1) := by decide +kernel
theorem nD_LAW_law_211 : decode nC_LAW_law 211 = .ok (.ireturn, 1) := by decide +kernel
theorem nD_LAW_law_212 : decode nC_LAW_law 212 = .ok (.iload 5, 2) := by decide +kernel
theorem nD_LAW_law_214 : decode nC_LAW_law 214 = .ok (.ifCond .ne 15, 3) := by decide +kernel
theorem nD_LAW_law_217 : decode nC_LAW_law 217 = .ok (.aload_n 3, 1) := by decide +kernel
theorem nD_LAW_law_218 : decode nC_LAW_law 218 = .ok (.iconst 0, 1) := by decide +kernel
theorem nD_LAW_law_219 : decode nC_LAW_law 219 = .ok (.laload, 1) := by decide +kernel
theorem nD_LAW_law_220 : decode nC_LAW_law 220 = .ok (.iload 6, 2) := by decide +kernel
theorem nD_LAW_law_222 : decode nC_LAW_law 222 = .ok (.i2l, 1) := by decide +kernel
theorem nD_LAW_law_223 : decode nC_LAW_law 223 = .ok (.lcmp, 1) := by decide +kernel
theorem nD_LAW_law_224 : decode nC_LAW_law 224 = .ok (.ifCond .eq 5, 3) := by decide +kernel
theorem nD_LAW_law_227 : decode nC_LAW_law 227 = .ok (.iconst 0, 1) := by decide +kernel
theorem nD_LAW_law_228 : decode nC_LAW_law 228 = .ok (.ireturn, 1) := by decide +kernel
theorem nD_LAW_law_229 : decode nC_LAW_law 229 = .ok (.goto 582, 3) := by decide +kernel
theorem nD_LAW_law_232 : decode nC_LAW_law 232 = .ok (.aload_n 1, 1) := by decide +kernel
theorem nD_LAW_law_233 : decode nC_LAW_law 233 = .ok (.aload_n 0, 1) := by decide +kernel
theorem nD_LAW_law_234 : decode nC_LAW_law 234 = .ok (.iload 4, 2) := by decide +kernel
theorem nD_LAW_law_236 : decode nC_LAW_law 236 = .ok (.iconst 1, 1) := by decide +kernel
theorem nD_LAW_law_237 : decode nC_LAW_law 237 = .ok (.iadd, 1) := by decide +kernel
theorem nD_LAW_law_238 : decode nC_LAW_law 238 = .ok (.iaload, 1) := by decide +kernel
theorem nD_LAW_law_239 : decode nC_LAW_law 239 = .ok (.aload_n 3, 1) := by decide +kernel
theorem nD_LAW_law_240 : decode nC_LAW_law 240 = .ok (.invokestatic 59, 3) := by decide +kernel
theorem nD_LAW_law_243 : decode nC_LAW_law 243 = .ok (.istore 5, 2) := by decide +kernel
theorem nD_LAW_law_245 : decode nC_LAW_law 245 = .ok (.aload_n 2, 1) := by decide +kernel
theorem nD_LAW_law_246 : decode nC_LAW_law 246 = .ok (.aload_n 0, 1) := by decide +kernel
theorem nD_LAW_law_247 : decode nC_LAW_law 247 = .ok (.iload 4, 2) := by decide +kernel
theorem nD_LAW_law_249 : decode nC_LAW_law 249 = .ok (.iconst 1, 1) := by decide +kernel
theorem nD_LAW_law_250 : decode nC_LAW_law 250 = .ok (.iadd, 1) := by decide +kernel
theorem nD_LAW_law_251 : decode nC_LAW_law 251 = .ok (.iaload, 1) := by decide +kernel
theorem nD_LAW_law_252 : decode nC_LAW_law 252 = .ok (.invokevirtual 62, 3) := by decide +kernel
theorem nD_LAW_law_255 : decode nC_LAW_law 255 = .ok (.istore 6, 2) := by decide +kernel
theorem nD_LAW_law_257 : decode nC_LAW_law 257 = .ok (.aload_n 2, 1) := by decide +kernel
theorem nD_LAW_law_258 : decode nC_LAW_law 258 = .ok (.invokevirtual 55, 3) := by decide +kernel
theorem nD_LAW_law_261 : decode nC_LAW_law 261 = .ok (.iload 5, 2) := by decide +kernel
theorem nD_LAW_law_263 : decode nC_LAW_law 263 = .ok (.if_icmp .eq 5, 3) := by decide +kernel
theorem nD_LAW_law_266 : decode nC_LAW_law 266 = .ok (.iconst 0, 1) := by decide +kernel
theorem nD_LAW_law_267 : decode nC_LAW_law 267 = .ok (.ireturn, 1) := by decide +kernel
theorem nD_LAW_law_268 : decode nC_LAW_law 268 = .ok (.iload 5, 2) := by decide +kernel
theorem nD_LAW_law_270 : decode nC_LAW_law 270 = .ok (.ifCond .ne 22, 3) := by decide +kernel
theorem nD_LAW_law_273 : decode nC_LAW_law 273 = .ok (.aload_n 3, 1) := by decide +kernel
theorem nD_LAW_law_274 : decode nC_LAW_law 274 = .ok (.iconst 0, 1) := by decide +kernel
theorem nD_LAW_law_275 : decode nC_LAW_law 275 = .ok (.laload, 1) := by decide +kernel
theorem nD_LAW_law_276 : decode nC_LAW_law 276 = .ok (.iload 6, 2) := by decide +kernel
theorem nD_LAW_law_278 : decode nC_LAW_law 278 = .ok (.ifCond .eq 7, 3) := by decide +kernel
theorem nD_LAW_law_281 : decode nC_LAW_law 281 = .ok (.lconst 1, 1) := by decide +kernel
theorem nD_LAW_law_282 : decode nC_LAW_law 282 = .ok (.goto 4, 3) := by decide +kernel
theorem nD_LAW_law_285 : decode nC_LAW_law 285 = .ok (.lconst 0, 1) := by decide +kernel
theorem nD_LAW_law_286 : decode nC_LAW_law 286 = .ok (.lcmp, 1) := by decide +kernel
theorem nD_LAW_law_287 : decode nC_LAW_law 287 = .ok (.ifCond .eq 5, 3) := by decide +kernel
theorem nD_LAW_law_290 : decode nC_LAW_law 290 = .ok (.iconst 0, 1) := by decide +kernel
theorem nD_LAW_law_291 : decode nC_LAW_law 291 = .ok (.ireturn, 1) := by decide +kernel
theorem nD_LAW_law_292 : decode nC_LAW_law 292 = .ok (.goto 519, 3) := by decide +kernel
theorem nD_LAW_law_295 : decode nC_LAW_law 295 = .ok (.aload_n 1, 1) := by decide +kernel
theorem nD_LAW_law_296 : decode nC_LAW_law 296 = .ok (.aload_n 0, 1) := by decide +kernel
theorem nD_LAW_law_297 : decode nC_LAW_law 297 = .ok (.iload 4, 2) := by decide +kernel
theorem nD_LAW_law_299 : decode nC_LAW_law 299 = .ok (.iconst 1, 1) := by decide +kernel
theorem nD_LAW_law_300 : decode nC_LAW_law 300 = .ok (.iadd, 1) := by decide +kernel
theorem nD_LAW_law_301 : decode nC_LAW_law 301 = .ok (.iaload, 1) := by decide +kernel
theorem nD_LAW_law_302 : decode nC_LAW_law 302 = .ok (.aload_n 3, 1) := by decide +kernel
theorem nD_LAW_law_303 : decode nC_LAW_law 303 = .ok (.invokestatic 63, 3) := by decide +kernel
theorem nD_LAW_law_306 : decode nC_LAW_law 306 = .ok (.istore 5, 2) := by decide +kernel
theorem nD_LAW_law_308 : decode nC_LAW_law 308 = .ok (.aload_n 2, 1) := by decide +kernel
theorem nD_LAW_law_309 : decode nC_LAW_law 309 = .ok (.aload_n 0, 1) := by decide +kernel
theorem nD_LAW_law_310 : decode nC_LAW_law 310 = .ok (.iload 4, 2) := by decide +kernel
theorem nD_LAW_law_312 : decode nC_LAW_law 312 = .ok (.iconst 1, 1) := by decide +kernel
theorem nD_LAW_law_313 : decode nC_LAW_law 313 = .ok (.iadd, 1) := by decide +kernel
theorem nD_LAW_law_314 : decode nC_LAW_law 314 = .ok (.iaload, 1) := by decide +kernel
theorem nD_LAW_law_315 : decode nC_LAW_law 315 = .ok (.invokevirtual 65, 3) := by decide +kernel
theorem nD_LAW_law_318 : decode nC_LAW_law 318 = .ok (.istore 6, 2) := by decide +kernel
theorem nD_LAW_law_320 : decode nC_LAW_law 320 = .ok (.aload_n 2, 1) := by decide +kernel
theorem nD_LAW_law_321 : decode nC_LAW_law 321 = .ok (.invokevirtual 55, 3) := by decide +kernel
theorem nD_LAW_law_324 : decode nC_LAW_law 324 = .ok (.iload 5, 2) := by decide +kernel
theorem nD_LAW_law_326 : decode nC_LAW_law 326 = .ok (.if_icmp .eq 5, 3) := by decide +kernel
theorem nD_LAW_law_329 : decode nC_LAW_law 329 = .ok (.iconst 0, 1) := by decide +kernel
theorem nD_LAW_law_330 : decode nC_LAW_law 330 = .ok (.ireturn, 1) := by decide +kernel
theorem nD_LAW_law_331 : decode nC_LAW_law 331 = .ok (.iload 5, 2) := by decide +kernel
theorem nD_LAW_law_333 : decode nC_LAW_law 333 = .ok (.ifCond .ne 15, 3) := by decide +kernel
theorem nD_LAW_law_336 : decode nC_LAW_law 336 = .ok (.aload_n 3, 1) := by decide +kernel
theorem nD_LAW_law_337 : decode nC_LAW_law 337 = .ok (.iconst 0, 1) := by decide +kernel
theorem nD_LAW_law_338 : decode nC_LAW_law 338 = .ok (.laload, 1) := by decide +kernel
theorem nD_LAW_law_339 : decode nC_LAW_law 339 = .ok (.iload 6, 2) := by decide +kernel
theorem nD_LAW_law_341 : decode nC_LAW_law 341 = .ok (.i2l, 1) := by decide +kernel
theorem nD_LAW_law_342 : decode nC_LAW_law 342 = .ok (.lcmp, 1) := by decide +kernel
theorem nD_LAW_law_343 : decode nC_LAW_law 343 = .ok (.ifCond .eq 5, 3) := by decide +kernel
theorem nD_LAW_law_346 : decode nC_LAW_law 346 = .ok (.iconst 0, 1) := by decide +kernel
theorem nD_LAW_law_347 : decode nC_LAW_law 347 = .ok (.ireturn, 1) := by decide +kernel
theorem nD_LAW_law_348 : decode nC_LAW_law 348 = .ok (.goto 463, 3) := by decide +kernel
theorem nD_LAW_law_351 : decode nC_LAW_law 351 = .ok (.aload_n 1, 1) := by decide +kernel
theorem nD_LAW_law_352 : decode nC_LAW_law 352 = .ok (.aload_n 0, 1) := by decide +kernel
theorem nD_LAW_law_353 : decode nC_LAW_law 353 = .ok (.iload 4, 2) := by decide +kernel
theorem nD_LAW_law_355 : decode nC_LAW_law 355 = .ok (.iconst 1, 1) := by decide +kernel
theorem nD_LAW_law_356 : decode nC_LAW_law 356 = .ok (.iadd, 1) := by decide +kernel
theorem nD_LAW_law_357 : decode nC_LAW_law 357 = .ok (.iaload, 1) := by decide +kernel
theorem nD_LAW_law_358 : decode nC_LAW_law 358 = .ok (.aload_n 0, 1) := by decide +kernel
theorem nD_LAW_law_359 : decode nC_LAW_law 359 = .ok (.iload 4, 2) := by decide +kernel
theorem nD_LAW_law_361 : decode nC_LAW_law 361 = .ok (.iconst 2, 1) := by decide +kernel
theorem nD_LAW_law_362 : decode nC_LAW_law 362 = .ok (.iadd, 1) := by decide +kernel
theorem nD_LAW_law_363 : decode nC_LAW_law 363 = .ok (.iaload, 1) := by decide +kernel
theorem nD_LAW_law_364 : decode nC_LAW_law 364 = .ok (.aload_n 3, 1) := by decide +kernel
theorem nD_LAW_law_365 : decode nC_LAW_law 365 = .ok (.invokestatic 66, 3) := by decide +kernel
theorem nD_LAW_law_368 : decode nC_LAW_law 368 = .ok (.istore 5, 2) := by decide +kernel
theorem nD_LAW_law_370 : decode nC_LAW_law 370 = .ok (.aload_n 2, 1) := by decide +kernel
theorem nD_LAW_law_371 : decode nC_LAW_law 371 = .ok (.aload_n 0, 1) := by decide +kernel
theorem nD_LAW_law_372 : decode nC_LAW_law 372 = .ok (.iload 4, 2) := by decide +kernel
theorem nD_LAW_law_374 : decode nC_LAW_law 374 = .ok (.iconst 1, 1) := by decide +kernel
theorem nD_LAW_law_375 : decode nC_LAW_law 375 = .ok (.iadd, 1) := by decide +kernel
theorem nD_LAW_law_376 : decode nC_LAW_law 376 = .ok (.iaload, 1) := by decide +kernel
theorem nD_LAW_law_377 : decode nC_LAW_law 377 = .ok (.aload_n 0, 1) := by decide +kernel
theorem nD_LAW_law_378 : decode nC_LAW_law 378 = .ok (.iload 4, 2) := by decide +kernel
theorem nD_LAW_law_380 : decode nC_LAW_law 380 = .ok (.iconst 2, 1) := by decide +kernel
theorem nD_LAW_law_381 : decode nC_LAW_law 381 = .ok (.iadd, 1) := by decide +kernel
theorem nD_LAW_law_382 : decode nC_LAW_law 382 = .ok (.iaload, 1) := by decide +kernel
theorem nD_LAW_law_383 : decode nC_LAW_law 383 = .ok (.invokevirtual 69, 3) := by decide +kernel
theorem nD_LAW_law_386 : decode nC_LAW_law 386 = .ok (.istore 6, 2) := by decide +kernel
theorem nD_LAW_law_388 : decode nC_LAW_law 388 = .ok (.aload_n 2, 1) := by decide +kernel
theorem nD_LAW_law_389 : decode nC_LAW_law 389 = .ok (.invokevirtual 55, 3) := by decide +kernel
theorem nD_LAW_law_392 : decode nC_LAW_law 392 = .ok (.iload 5, 2) := by decide +kernel
theorem nD_LAW_law_394 : decode nC_LAW_law 394 = .ok (.if_icmp .eq 5, 3) := by decide +kernel
theorem nD_LAW_law_397 : decode nC_LAW_law 397 = .ok (.iconst 0, 1) := by decide +kernel
theorem nD_LAW_law_398 : decode nC_LAW_law 398 = .ok (.ireturn, 1) := by decide +kernel
theorem nD_LAW_law_399 : decode nC_LAW_law 399 = .ok (.iload 5, 2) := by decide +kernel
theorem nD_LAW_law_401 : decode nC_LAW_law 401 = .ok (.ifCond .ne 22, 3) := by decide +kernel
theorem nD_LAW_law_404 : decode nC_LAW_law 404 = .ok (.aload_n 3, 1) := by decide +kernel
theorem nD_LAW_law_405 : decode nC_LAW_law 405 = .ok (.iconst 0, 1) := by decide +kernel
theorem nD_LAW_law_406 : decode nC_LAW_law 406 = .ok (.laload, 1) := by decide +kernel
theorem nD_LAW_law_407 : decode nC_LAW_law 407 = .ok (.iload 6, 2) := by decide +kernel
theorem nD_LAW_law_409 : decode nC_LAW_law 409 = .ok (.ifCond .eq 7, 3) := by decide +kernel
theorem nD_LAW_law_412 : decode nC_LAW_law 412 = .ok (.lconst 1, 1) := by decide +kernel
theorem nD_LAW_law_413 : decode nC_LAW_law 413 = .ok (.goto 4, 3) := by decide +kernel
theorem nD_LAW_law_416 : decode nC_LAW_law 416 = .ok (.lconst 0, 1) := by decide +kernel
theorem nD_LAW_law_417 : decode nC_LAW_law 417 = .ok (.lcmp, 1) := by decide +kernel
theorem nD_LAW_law_418 : decode nC_LAW_law 418 = .ok (.ifCond .eq 5, 3) := by decide +kernel
theorem nD_LAW_law_421 : decode nC_LAW_law 421 = .ok (.iconst 0, 1) := by decide +kernel
theorem nD_LAW_law_422 : decode nC_LAW_law 422 = .ok (.ireturn, 1) := by decide +kernel
theorem nD_LAW_law_423 : decode nC_LAW_law 423 = .ok (.goto 388, 3) := by decide +kernel
theorem nD_LAW_law_426 : decode nC_LAW_law 426 = .ok (.aload_n 1, 1) := by decide +kernel
theorem nD_LAW_law_427 : decode nC_LAW_law 427 = .ok (.aload_n 0, 1) := by decide +kernel
theorem nD_LAW_law_428 : decode nC_LAW_law 428 = .ok (.iload 4, 2) := by decide +kernel
theorem nD_LAW_law_430 : decode nC_LAW_law 430 = .ok (.iconst 1, 1) := by decide +kernel
theorem nD_LAW_law_431 : decode nC_LAW_law 431 = .ok (.iadd, 1) := by decide +kernel
theorem nD_LAW_law_432 : decode nC_LAW_law 432 = .ok (.iaload, 1) := by decide +kernel
theorem nD_LAW_law_433 : decode nC_LAW_law 433 = .ok (.aload_n 0, 1) := by decide +kernel
theorem nD_LAW_law_434 : decode nC_LAW_law 434 = .ok (.iload 4, 2) := by decide +kernel
theorem nD_LAW_law_436 : decode nC_LAW_law 436 = .ok (.iconst 2, 1) := by decide +kernel
theorem nD_LAW_law_437 : decode nC_LAW_law 437 = .ok (.iadd, 1) := by decide +kernel
theorem nD_LAW_law_438 : decode nC_LAW_law 438 = .ok (.iaload, 1) := by decide +kernel
theorem nD_LAW_law_439 : decode nC_LAW_law 439 = .ok (.aload_n 3, 1) := by decide +kernel
theorem nD_LAW_law_440 : decode nC_LAW_law 440 = .ok (.invokestatic 70, 3) := by decide +kernel
theorem nD_LAW_law_443 : decode nC_LAW_law 443 = .ok (.istore 5, 2) := by decide +kernel
theorem nD_LAW_law_445 : decode nC_LAW_law 445 = .ok (.aload_n 2, 1) := by decide +kernel
theorem nD_LAW_law_446 : decode nC_LAW_law 446 = .ok (.aload_n 0, 1) := by decide +kernel
theorem nD_LAW_law_447 : decode nC_LAW_law 447 = .ok (.iload 4, 2) := by decide +kernel
theorem nD_LAW_law_449 : decode nC_LAW_law 449 = .ok (.iconst 1, 1) := by decide +kernel
theorem nD_LAW_law_450 : decode nC_LAW_law 450 = .ok (.iadd, 1) := by decide +kernel
theorem nD_LAW_law_451 : decode nC_LAW_law 451 = .ok (.iaload, 1) := by decide +kernel
theorem nD_LAW_law_452 : decode nC_LAW_law 452 = .ok (.aload_n 0, 1) := by decide +kernel
theorem nD_LAW_law_453 : decode nC_LAW_law 453 = .ok (.iload 4, 2) := by decide +kernel
theorem nD_LAW_law_455 : decode nC_LAW_law 455 = .ok (.iconst 2, 1) := by decide +kernel
theorem nD_LAW_law_456 : decode nC_LAW_law 456 = .ok (.iadd, 1) := by decide +kernel
theorem nD_LAW_law_457 : decode nC_LAW_law 457 = .ok (.iaload, 1) := by decide +kernel
theorem nD_LAW_law_458 : decode nC_LAW_law 458 = .ok (.invokevirtual 72, 3) := by decide +kernel
theorem nD_LAW_law_461 : decode nC_LAW_law 461 = .ok (.istore 6, 2) := by decide +kernel
theorem nD_LAW_law_463 : decode nC_LAW_law 463 = .ok (.aload_n 2, 1) := by decide +kernel
theorem nD_LAW_law_464 : decode nC_LAW_law 464 = .ok (.invokevirtual 55, 3) := by decide +kernel
theorem nD_LAW_law_467 : decode nC_LAW_law 467 = .ok (.iload 5, 2) := by decide +kernel
theorem nD_LAW_law_469 : decode nC_LAW_law 469 = .ok (.if_icmp .eq 5, 3) := by decide +kernel
theorem nD_LAW_law_472 : decode nC_LAW_law 472 = .ok (.iconst 0, 1) := by decide +kernel
theorem nD_LAW_law_473 : decode nC_LAW_law 473 = .ok (.ireturn, 1) := by decide +kernel
theorem nD_LAW_law_474 : decode nC_LAW_law 474 = .ok (.iload 5, 2) := by decide +kernel
theorem nD_LAW_law_476 : decode nC_LAW_law 476 = .ok (.ifCond .ne 22, 3) := by decide +kernel
theorem nD_LAW_law_479 : decode nC_LAW_law 479 = .ok (.aload_n 3, 1) := by decide +kernel
theorem nD_LAW_law_480 : decode nC_LAW_law 480 = .ok (.iconst 0, 1) := by decide +kernel
theorem nD_LAW_law_481 : decode nC_LAW_law 481 = .ok (.laload, 1) := by decide +kernel
theorem nD_LAW_law_482 : decode nC_LAW_law 482 = .ok (.iload 6, 2) := by decide +kernel
theorem nD_LAW_law_484 : decode nC_LAW_law 484 = .ok (.ifCond .eq 7, 3) := by decide +kernel
theorem nD_LAW_law_487 : decode nC_LAW_law 487 = .ok (.lconst 1, 1) := by decide +kernel
theorem nD_LAW_law_488 : decode nC_LAW_law 488 = .ok (.goto 4, 3) := by decide +kernel
theorem nD_LAW_law_491 : decode nC_LAW_law 491 = .ok (.lconst 0, 1) := by decide +kernel
theorem nD_LAW_law_492 : decode nC_LAW_law 492 = .ok (.lcmp, 1) := by decide +kernel
theorem nD_LAW_law_493 : decode nC_LAW_law 493 = .ok (.ifCond .eq 5, 3) := by decide +kernel
theorem nD_LAW_law_496 : decode nC_LAW_law 496 = .ok (.iconst 0, 1) := by decide +kernel
theorem nD_LAW_law_497 : decode nC_LAW_law 497 = .ok (.ireturn, 1) := by decide +kernel
theorem nD_LAW_law_498 : decode nC_LAW_law 498 = .ok (.goto 313, 3) := by decide +kernel
theorem nD_LAW_law_501 : decode nC_LAW_law 501 = .ok (.aload_n 1, 1) := by decide +kernel
theorem nD_LAW_law_502 : decode nC_LAW_law 502 = .ok (.aload_n 0, 1) := by decide +kernel
theorem nD_LAW_law_503 : decode nC_LAW_law 503 = .ok (.iload 4, 2) := by decide +kernel
theorem nD_LAW_law_505 : decode nC_LAW_law 505 = .ok (.iconst 1, 1) := by decide +kernel
theorem nD_LAW_law_506 : decode nC_LAW_law 506 = .ok (.iadd, 1) := by decide +kernel
theorem nD_LAW_law_507 : decode nC_LAW_law 507 = .ok (.iaload, 1) := by decide +kernel
theorem nD_LAW_law_508 : decode nC_LAW_law 508 = .ok (.aload_n 0, 1) := by decide +kernel
theorem nD_LAW_law_509 : decode nC_LAW_law 509 = .ok (.iload 4, 2) := by decide +kernel
theorem nD_LAW_law_511 : decode nC_LAW_law 511 = .ok (.iconst 2, 1) := by decide +kernel
theorem nD_LAW_law_512 : decode nC_LAW_law 512 = .ok (.iadd, 1) := by decide +kernel
theorem nD_LAW_law_513 : decode nC_LAW_law 513 = .ok (.iaload, 1) := by decide +kernel
theorem nD_LAW_law_514 : decode nC_LAW_law 514 = .ok (.aload_n 0, 1) := by decide +kernel
theorem nD_LAW_law_515 : decode nC_LAW_law 515 = .ok (.iload 4, 2) := by decide +kernel
theorem nD_LAW_law_517 : decode nC_LAW_law 517 = .ok (.iconst 3, 1) := by decide +kernel
theorem nD_LAW_law_518 : decode nC_LAW_law 518 = .ok (.iadd, 1) := by decide +kernel
theorem nD_LAW_law_519 : decode nC_LAW_law 519 = .ok (.iaload, 1) := by decide +kernel
theorem nD_LAW_law_520 : decode nC_LAW_law 520 = .ok (.aload_n 3, 1) := by decide +kernel
theorem nD_LAW_law_521 : decode nC_LAW_law 521 = .ok (.invokestatic 73, 3) := by decide +kernel
theorem nD_LAW_law_524 : decode nC_LAW_law 524 = .ok (.istore 5, 2) := by decide +kernel
theorem nD_LAW_law_526 : decode nC_LAW_law 526 = .ok (.aload_n 2, 1) := by decide +kernel
theorem nD_LAW_law_527 : decode nC_LAW_law 527 = .ok (.aload_n 0, 1) := by decide +kernel
theorem nD_LAW_law_528 : decode nC_LAW_law 528 = .ok (.iload 4, 2) := by decide +kernel
theorem nD_LAW_law_530 : decode nC_LAW_law 530 = .ok (.iconst 1, 1) := by decide +kernel
theorem nD_LAW_law_531 : decode nC_LAW_law 531 = .ok (.iadd, 1) := by decide +kernel
theorem nD_LAW_law_532 : decode nC_LAW_law 532 = .ok (.iaload, 1) := by decide +kernel
theorem nD_LAW_law_533 : decode nC_LAW_law 533 = .ok (.aload_n 0, 1) := by decide +kernel
theorem nD_LAW_law_534 : decode nC_LAW_law 534 = .ok (.iload 4, 2) := by decide +kernel
theorem nD_LAW_law_536 : decode nC_LAW_law 536 = .ok (.iconst 2, 1) := by decide +kernel
theorem nD_LAW_law_537 : decode nC_LAW_law 537 = .ok (.iadd, 1) := by decide +kernel
theorem nD_LAW_law_538 : decode nC_LAW_law 538 = .ok (.iaload, 1) := by decide +kernel
theorem nD_LAW_law_539 : decode nC_LAW_law 539 = .ok (.aload_n 0, 1) := by decide +kernel
theorem nD_LAW_law_540 : decode nC_LAW_law 540 = .ok (.iload 4, 2) := by decide +kernel
theorem nD_LAW_law_542 : decode nC_LAW_law 542 = .ok (.iconst 3, 1) := by decide +kernel
theorem nD_LAW_law_543 : decode nC_LAW_law 543 = .ok (.iadd, 1) := by decide +kernel
theorem nD_LAW_law_544 : decode nC_LAW_law 544 = .ok (.iaload, 1) := by decide +kernel
theorem nD_LAW_law_545 : decode nC_LAW_law 545 = .ok (.invokevirtual 76, 3) := by decide +kernel
theorem nD_LAW_law_548 : decode nC_LAW_law 548 = .ok (.istore 6, 2) := by decide +kernel
theorem nD_LAW_law_550 : decode nC_LAW_law 550 = .ok (.aload_n 2, 1) := by decide +kernel
theorem nD_LAW_law_551 : decode nC_LAW_law 551 = .ok (.invokevirtual 55, 3) := by decide +kernel
theorem nD_LAW_law_554 : decode nC_LAW_law 554 = .ok (.iload 5, 2) := by decide +kernel
theorem nD_LAW_law_556 : decode nC_LAW_law 556 = .ok (.if_icmp .eq 5, 3) := by decide +kernel
theorem nD_LAW_law_559 : decode nC_LAW_law 559 = .ok (.iconst 0, 1) := by decide +kernel
theorem nD_LAW_law_560 : decode nC_LAW_law 560 = .ok (.ireturn, 1) := by decide +kernel
theorem nD_LAW_law_561 : decode nC_LAW_law 561 = .ok (.iload 5, 2) := by decide +kernel
theorem nD_LAW_law_563 : decode nC_LAW_law 563 = .ok (.ifCond .ne 15, 3) := by decide +kernel
theorem nD_LAW_law_566 : decode nC_LAW_law 566 = .ok (.aload_n 3, 1) := by decide +kernel
theorem nD_LAW_law_567 : decode nC_LAW_law 567 = .ok (.iconst 0, 1) := by decide +kernel
theorem nD_LAW_law_568 : decode nC_LAW_law 568 = .ok (.laload, 1) := by decide +kernel
theorem nD_LAW_law_569 : decode nC_LAW_law 569 = .ok (.iload 6, 2) := by decide +kernel
theorem nD_LAW_law_571 : decode nC_LAW_law 571 = .ok (.i2l, 1) := by decide +kernel
theorem nD_LAW_law_572 : decode nC_LAW_law 572 = .ok (.lcmp, 1) := by decide +kernel
theorem nD_LAW_law_573 : decode nC_LAW_law 573 = .ok (.ifCond .eq 5, 3) := by decide +kernel
theorem nD_LAW_law_576 : decode nC_LAW_law 576 = .ok (.iconst 0, 1) := by decide +kernel
theorem nD_LAW_law_577 : decode nC_LAW_law 577 = .ok (.ireturn, 1) := by decide +kernel
theorem nD_LAW_law_578 : decode nC_LAW_law 578 = .ok (.goto 233, 3) := by decide +kernel
theorem nD_LAW_law_581 : decode nC_LAW_law 581 = .ok (.aload_n 1, 1) := by decide +kernel
theorem nD_LAW_law_582 : decode nC_LAW_law 582 = .ok (.aload_n 0, 1) := by decide +kernel
theorem nD_LAW_law_583 : decode nC_LAW_law 583 = .ok (.iload 4, 2) := by decide +kernel
theorem nD_LAW_law_585 : decode nC_LAW_law 585 = .ok (.iconst 1, 1) := by decide +kernel
theorem nD_LAW_law_586 : decode nC_LAW_law 586 = .ok (.iadd, 1) := by decide +kernel
theorem nD_LAW_law_587 : decode nC_LAW_law 587 = .ok (.iaload, 1) := by decide +kernel
theorem nD_LAW_law_588 : decode nC_LAW_law 588 = .ok (.aload_n 0, 1) := by decide +kernel
theorem nD_LAW_law_589 : decode nC_LAW_law 589 = .ok (.iload 4, 2) := by decide +kernel
theorem nD_LAW_law_591 : decode nC_LAW_law 591 = .ok (.iconst 2, 1) := by decide +kernel
theorem nD_LAW_law_592 : decode nC_LAW_law 592 = .ok (.iadd, 1) := by decide +kernel
theorem nD_LAW_law_593 : decode nC_LAW_law 593 = .ok (.iaload, 1) := by decide +kernel
theorem nD_LAW_law_594 : decode nC_LAW_law 594 = .ok (.aload_n 0, 1) := by decide +kernel
theorem nD_LAW_law_595 : decode nC_LAW_law 595 = .ok (.iload 4, 2) := by decide +kernel
theorem nD_LAW_law_597 : decode nC_LAW_law 597 = .ok (.iconst 3, 1) := by decide +kernel
theorem nD_LAW_law_598 : decode nC_LAW_law 598 = .ok (.iadd, 1) := by decide +kernel
theorem nD_LAW_law_599 : decode nC_LAW_law 599 = .ok (.iaload, 1) := by decide +kernel
theorem nD_LAW_law_600 : decode nC_LAW_law 600 = .ok (.aload_n 3, 1) := by decide +kernel
theorem nD_LAW_law_601 : decode nC_LAW_law 601 = .ok (.invokestatic 77, 3) := by decide +kernel
theorem nD_LAW_law_604 : decode nC_LAW_law 604 = .ok (.istore 5, 2) := by decide +kernel
theorem nD_LAW_law_606 : decode nC_LAW_law 606 = .ok (.aload_n 2, 1) := by decide +kernel
theorem nD_LAW_law_607 : decode nC_LAW_law 607 = .ok (.aload_n 0, 1) := by decide +kernel
theorem nD_LAW_law_608 : decode nC_LAW_law 608 = .ok (.iload 4, 2) := by decide +kernel
theorem nD_LAW_law_610 : decode nC_LAW_law 610 = .ok (.iconst 1, 1) := by decide +kernel
theorem nD_LAW_law_611 : decode nC_LAW_law 611 = .ok (.iadd, 1) := by decide +kernel
theorem nD_LAW_law_612 : decode nC_LAW_law 612 = .ok (.iaload, 1) := by decide +kernel
theorem nD_LAW_law_613 : decode nC_LAW_law 613 = .ok (.aload_n 0, 1) := by decide +kernel
theorem nD_LAW_law_614 : decode nC_LAW_law 614 = .ok (.iload 4, 2) := by decide +kernel
theorem nD_LAW_law_616 : decode nC_LAW_law 616 = .ok (.iconst 2, 1) := by decide +kernel
theorem nD_LAW_law_617 : decode nC_LAW_law 617 = .ok (.iadd, 1) := by decide +kernel
theorem nD_LAW_law_618 : decode nC_LAW_law 618 = .ok (.iaload, 1) := by decide +kernel
theorem nD_LAW_law_619 : decode nC_LAW_law 619 = .ok (.aload_n 0, 1) := by decide +kernel
theorem nD_LAW_law_620 : decode nC_LAW_law 620 = .ok (.iload 4, 2) := by decide +kernel
theorem nD_LAW_law_622 : decode nC_LAW_law 622 = .ok (.iconst 3, 1) := by decide +kernel
theorem nD_LAW_law_623 : decode nC_LAW_law 623 = .ok (.iadd, 1) := by decide +kernel
theorem nD_LAW_law_624 : decode nC_LAW_law 624 = .ok (.iaload, 1) := by decide +kernel
theorem nD_LAW_law_625 : decode nC_LAW_law 625 = .ok (.invokevirtual 79, 3) := by decide +kernel
theorem nD_LAW_law_628 : decode nC_LAW_law 628 = .ok (.istore 6, 2) := by decide +kernel
theorem nD_LAW_law_630 : decode nC_LAW_law 630 = .ok (.aload_n 2, 1) := by decide +kernel
theorem nD_LAW_law_631 : decode nC_LAW_law 631 = .ok (.invokevirtual 55, 3) := by decide +kernel
theorem nD_LAW_law_634 : decode nC_LAW_law 634 = .ok (.iload 5, 2) := by decide +kernel
theorem nD_LAW_law_636 : decode nC_LAW_law 636 = .ok (.if_icmp .eq 5, 3) := by decide +kernel
theorem nD_LAW_law_639 : decode nC_LAW_law 639 = .ok (.iconst 0, 1) := by decide +kernel
theorem nD_LAW_law_640 : decode nC_LAW_law 640 = .ok (.ireturn, 1) := by decide +kernel
theorem nD_LAW_law_641 : decode nC_LAW_law 641 = .ok (.iload 5, 2) := by decide +kernel
theorem nD_LAW_law_643 : decode nC_LAW_law 643 = .ok (.ifCond .ne 15, 3) := by decide +kernel
theorem nD_LAW_law_646 : decode nC_LAW_law 646 = .ok (.aload_n 3, 1) := by decide +kernel
theorem nD_LAW_law_647 : decode nC_LAW_law 647 = .ok (.iconst 0, 1) := by decide +kernel
theorem nD_LAW_law_648 : decode nC_LAW_law 648 = .ok (.laload, 1) := by decide +kernel
theorem nD_LAW_law_649 : decode nC_LAW_law 649 = .ok (.iload 6, 2) := by decide +kernel
theorem nD_LAW_law_651 : decode nC_LAW_law 651 = .ok (.i2l, 1) := by decide +kernel
theorem nD_LAW_law_652 : decode nC_LAW_law 652 = .ok (.lcmp, 1) := by decide +kernel
theorem nD_LAW_law_653 : decode nC_LAW_law 653 = .ok (.ifCond .eq 5, 3) := by decide +kernel
theorem nD_LAW_law_656 : decode nC_LAW_law 656 = .ok (.iconst 0, 1) := by decide +kernel
theorem nD_LAW_law_657 : decode nC_LAW_law 657 = .ok (.ireturn, 1) := by decide +kernel
theorem nD_LAW_law_658 : decode nC_LAW_law 658 = .ok (.goto 153, 3) := by decide +kernel
theorem nD_LAW_law_661 : decode nC_LAW_law 661 = .ok (.aload_n 1, 1) := by decide +kernel
theorem nD_LAW_law_662 : decode nC_LAW_law 662 = .ok (.aload_n 0, 1) := by decide +kernel
theorem nD_LAW_law_663 : decode nC_LAW_law 663 = .ok (.iload 4, 2) := by decide +kernel
theorem nD_LAW_law_665 : decode nC_LAW_law 665 = .ok (.iconst 1, 1) := by decide +kernel
theorem nD_LAW_law_666 : decode nC_LAW_law 666 = .ok (.iadd, 1) := by decide +kernel
theorem nD_LAW_law_667 : decode nC_LAW_law 667 = .ok (.iaload, 1) := by decide +kernel
theorem nD_LAW_law_668 : decode nC_LAW_law 668 = .ok (.invokevirtual 80, 3) := by decide +kernel
theorem nD_LAW_law_671 : decode nC_LAW_law 671 = .ok (.aload_n 2, 1) := by decide +kernel
theorem nD_LAW_law_672 : decode nC_LAW_law 672 = .ok (.aload_n 0, 1) := by decide +kernel
theorem nD_LAW_law_673 : decode nC_LAW_law 673 = .ok (.iload 4, 2) := by decide +kernel
theorem nD_LAW_law_675 : decode nC_LAW_law 675 = .ok (.iconst 1, 1) := by decide +kernel
theorem nD_LAW_law_676 : decode nC_LAW_law 676 = .ok (.iadd, 1) := by decide +kernel
theorem nD_LAW_law_677 : decode nC_LAW_law 677 = .ok (.iaload, 1) := by decide +kernel
theorem nD_LAW_law_678 : decode nC_LAW_law 678 = .ok (.invokevirtual 83, 3) := by decide +kernel
theorem nD_LAW_law_681 : decode nC_LAW_law 681 = .ok (.if_icmp .eq 130, 3) := by decide +kernel
theorem nD_LAW_law_684 : decode nC_LAW_law 684 = .ok (.iconst 0, 1) := by decide +kernel
theorem nD_LAW_law_685 : decode nC_LAW_law 685 = .ok (.ireturn, 1) := by decide +kernel
theorem nD_LAW_law_686 : decode nC_LAW_law 686 = .ok (.aload_n 1, 1) := by decide +kernel
theorem nD_LAW_law_687 : decode nC_LAW_law 687 = .ok (.aload_n 0, 1) := by decide +kernel
theorem nD_LAW_law_688 : decode nC_LAW_law 688 = .ok (.iload 4, 2) := by decide +kernel
theorem nD_LAW_law_690 : decode nC_LAW_law 690 = .ok (.iconst 1, 1) := by decide +kernel
theorem nD_LAW_law_691 : decode nC_LAW_law 691 = .ok (.iadd, 1) := by decide +kernel
theorem nD_LAW_law_692 : decode nC_LAW_law 692 = .ok (.iaload, 1) := by decide +kernel
theorem nD_LAW_law_693 : decode nC_LAW_law 693 = .ok (.invokevirtual 84, 3) := by decide +kernel
theorem nD_LAW_law_696 : decode nC_LAW_law 696 = .ok (.aload_n 2, 1) := by decide +kernel
theorem nD_LAW_law_697 : decode nC_LAW_law 697 = .ok (.aload_n 0, 1) := by decide +kernel
theorem nD_LAW_law_698 : decode nC_LAW_law 698 = .ok (.iload 4, 2) := by decide +kernel
theorem nD_LAW_law_700 : decode nC_LAW_law 700 = .ok (.iconst 1, 1) := by decide +kernel
theorem nD_LAW_law_701 : decode nC_LAW_law 701 = .ok (.iadd, 1) := by decide +kernel
theorem nD_LAW_law_702 : decode nC_LAW_law 702 = .ok (.iaload, 1) := by decide +kernel
theorem nD_LAW_law_703 : decode nC_LAW_law 703 = .ok (.invokevirtual 87, 3) := by decide +kernel
theorem nD_LAW_law_706 : decode nC_LAW_law 706 = .ok (.if_icmp .eq 105, 3) := by decide +kernel
theorem nD_LAW_law_709 : decode nC_LAW_law 709 = .ok (.iconst 0, 1) := by decide +kernel
theorem nD_LAW_law_710 : decode nC_LAW_law 710 = .ok (.ireturn, 1) := by decide +kernel
theorem nD_LAW_law_711 : decode nC_LAW_law 711 = .ok (.aload_n 1, 1) := by decide +kernel
theorem nD_LAW_law_712 : decode nC_LAW_law 712 = .ok (.aload_n 0, 1) := by decide +kernel
theorem nD_LAW_law_713 : decode nC_LAW_law 713 = .ok (.iload 4, 2) := by decide +kernel
theorem nD_LAW_law_715 : decode nC_LAW_law 715 = .ok (.iconst 1, 1) := by decide +kernel
theorem nD_LAW_law_716 : decode nC_LAW_law 716 = .ok (.iadd, 1) := by decide +kernel
theorem nD_LAW_law_717 : decode nC_LAW_law 717 = .ok (.iaload, 1) := by decide +kernel
theorem nD_LAW_law_718 : decode nC_LAW_law 718 = .ok (.invokevirtual 88, 3) := by decide +kernel
theorem nD_LAW_law_721 : decode nC_LAW_law 721 = .ok (.aload_n 2, 1) := by decide +kernel
theorem nD_LAW_law_722 : decode nC_LAW_law 722 = .ok (.aload_n 0, 1) := by decide +kernel
theorem nD_LAW_law_723 : decode nC_LAW_law 723 = .ok (.iload 4, 2) := by decide +kernel
theorem nD_LAW_law_725 : decode nC_LAW_law 725 = .ok (.iconst 1, 1) := by decide +kernel
theorem nD_LAW_law_726 : decode nC_LAW_law 726 = .ok (.iadd, 1) := by decide +kernel
theorem nD_LAW_law_727 : decode nC_LAW_law 727 = .ok (.iaload, 1) := by decide +kernel
theorem nD_LAW_law_728 : decode nC_LAW_law 728 = .ok (.invokevirtual 91, 3) := by decide +kernel
theorem nD_LAW_law_731 : decode nC_LAW_law 731 = .ok (.if_icmp .eq 80, 3) := by decide +kernel
theorem nD_LAW_law_734 : decode nC_LAW_law 734 = .ok (.iconst 0, 1) := by decide +kernel
theorem nD_LAW_law_735 : decode nC_LAW_law 735 = .ok (.ireturn, 1) := by decide +kernel
theorem nD_LAW_law_736 : decode nC_LAW_law 736 = .ok (.aload_n 1, 1) := by decide +kernel
theorem nD_LAW_law_737 : decode nC_LAW_law 737 = .ok (.aload_n 0, 1) := by decide +kernel
theorem nD_LAW_law_738 : decode nC_LAW_law 738 = .ok (.iload 4, 2) := by decide +kernel
theorem nD_LAW_law_740 : decode nC_LAW_law 740 = .ok (.iconst 1, 1) := by decide +kernel
theorem nD_LAW_law_741 : decode nC_LAW_law 741 = .ok (.iadd, 1) := by decide +kernel
theorem nD_LAW_law_742 : decode nC_LAW_law 742 = .ok (.iaload, 1) := by decide +kernel
theorem nD_LAW_law_743 : decode nC_LAW_law 743 = .ok (.invokevirtual 92, 3) := by decide +kernel
theorem nD_LAW_law_746 : decode nC_LAW_law 746 = .ok (.aload_n 2, 1) := by decide +kernel
theorem nD_LAW_law_747 : decode nC_LAW_law 747 = .ok (.aload_n 0, 1) := by decide +kernel
theorem nD_LAW_law_748 : decode nC_LAW_law 748 = .ok (.iload 4, 2) := by decide +kernel
theorem nD_LAW_law_750 : decode nC_LAW_law 750 = .ok (.iconst 1, 1) := by decide +kernel
theorem nD_LAW_law_751 : decode nC_LAW_law 751 = .ok (.iadd, 1) := by decide +kernel
theorem nD_LAW_law_752 : decode nC_LAW_law 752 = .ok (.iaload, 1) := by decide +kernel
theorem nD_LAW_law_753 : decode nC_LAW_law 753 = .ok (.invokevirtual 95, 3) := by decide +kernel
theorem nD_LAW_law_756 : decode nC_LAW_law 756 = .ok (.if_icmp .eq 55, 3) := by decide +kernel
theorem nD_LAW_law_759 : decode nC_LAW_law 759 = .ok (.iconst 0, 1) := by decide +kernel
theorem nD_LAW_law_760 : decode nC_LAW_law 760 = .ok (.ireturn, 1) := by decide +kernel
theorem nD_LAW_law_761 : decode nC_LAW_law 761 = .ok (.aload_n 1, 1) := by decide +kernel
theorem nD_LAW_law_762 : decode nC_LAW_law 762 = .ok (.aload_n 0, 1) := by decide +kernel
theorem nD_LAW_law_763 : decode nC_LAW_law 763 = .ok (.iload 4, 2) := by decide +kernel
theorem nD_LAW_law_765 : decode nC_LAW_law 765 = .ok (.iconst 1, 1) := by decide +kernel
theorem nD_LAW_law_766 : decode nC_LAW_law 766 = .ok (.iadd, 1) := by decide +kernel
theorem nD_LAW_law_767 : decode nC_LAW_law 767 = .ok (.iaload, 1) := by decide +kernel
theorem nD_LAW_law_768 : decode nC_LAW_law 768 = .ok (.invokevirtual 96, 3) := by decide +kernel
theorem nD_LAW_law_771 : decode nC_LAW_law 771 = .ok (.aload_n 2, 1) := by decide +kernel
theorem nD_LAW_law_772 : decode nC_LAW_law 772 = .ok (.aload_n 0, 1) := by decide +kernel
theorem nD_LAW_law_773 : decode nC_LAW_law 773 = .ok (.iload 4, 2) := by decide +kernel
theorem nD_LAW_law_775 : decode nC_LAW_law 775 = .ok (.iconst 1, 1) := by decide +kernel
theorem nD_LAW_law_776 : decode nC_LAW_law 776 = .ok (.iadd, 1) := by decide +kernel
theorem nD_LAW_law_777 : decode nC_LAW_law 777 = .ok (.iaload, 1) := by decide +kernel
theorem nD_LAW_law_778 : decode nC_LAW_law 778 = .ok (.invokevirtual 99, 3) := by decide +kernel
theorem nD_LAW_law_781 : decode nC_LAW_law 781 = .ok (.if_icmp .eq 30, 3) := by decide +kernel
theorem nD_LAW_law_784 : decode nC_LAW_law 784 = .ok (.iconst 0, 1) := by decide +kernel
theorem nD_LAW_law_785 : decode nC_LAW_law 785 = .ok (.ireturn, 1) := by decide +kernel
theorem nD_LAW_law_786 : decode nC_LAW_law 786 = .ok (.aload_n 1, 1) := by decide +kernel
theorem nD_LAW_law_787 : decode nC_LAW_law 787 = .ok (.aload_n 0, 1) := by decide +kernel
theorem nD_LAW_law_788 : decode nC_LAW_law 788 = .ok (.iload 4, 2) := by decide +kernel
theorem nD_LAW_law_790 : decode nC_LAW_law 790 = .ok (.iconst 1, 1) := by decide +kernel
theorem nD_LAW_law_791 : decode nC_LAW_law 791 = .ok (.iadd, 1) := by decide +kernel
theorem nD_LAW_law_792 : decode nC_LAW_law 792 = .ok (.iaload, 1) := by decide +kernel
theorem nD_LAW_law_793 : decode nC_LAW_law 793 = .ok (.invokevirtual 100, 3) := by decide +kernel
theorem nD_LAW_law_796 : decode nC_LAW_law 796 = .ok (.aload_n 2, 1) := by decide +kernel
theorem nD_LAW_law_797 : decode nC_LAW_law 797 = .ok (.aload_n 0, 1) := by decide +kernel
theorem nD_LAW_law_798 : decode nC_LAW_law 798 = .ok (.iload 4, 2) := by decide +kernel
theorem nD_LAW_law_800 : decode nC_LAW_law 800 = .ok (.iconst 1, 1) := by decide +kernel
theorem nD_LAW_law_801 : decode nC_LAW_law 801 = .ok (.iadd, 1) := by decide +kernel
theorem nD_LAW_law_802 : decode nC_LAW_law 802 = .ok (.iaload, 1) := by decide +kernel
theorem nD_LAW_law_803 : decode nC_LAW_law 803 = .ok (.invokevirtual 103, 3) := by decide +kernel
theorem nD_LAW_law_806 : decode nC_LAW_law 806 = .ok (.if_icmp .eq 5, 3) := by decide +kernel
theorem nD_LAW_law_809 : decode nC_LAW_law 809 = .ok (.iconst 0, 1) := by decide +kernel
theorem nD_LAW_law_810 : decode nC_LAW_law 810 = .ok (.ireturn, 1) := by decide +kernel
theorem nD_LAW_law_811 : decode nC_LAW_law 811 = .ok (.iinc 4 6, 3) := by decide +kernel
theorem nD_LAW_law_814 : decode nC_LAW_law 814 = .ok (.goto (-771), 3) := by decide +kernel
theorem nD_LAW_law_817 : decode nC_LAW_law 817 = .ok (.iconst 1, 1) := by decide +kernel
theorem nD_LAW_law_818 : decode nC_LAW_law 818 = .ok (.ireturn, 1) := by decide +kernel
