-- decode rows (written by program)
theorem nD_INS_init_0 : decode nC_INS_init 0 = .ok (.aload_n 0, 1) := by decide +kernel
theorem nD_INS_init_1 : decode nC_INS_init 1 = .ok (.invokespecial 1, 3) := by decide +kernel
theorem nD_INS_init_4 : decode nC_INS_init 4 = .ok (.return_, 1) := by decide +kernel
theorem nD_INS_become_0 : decode nC_INS_become 0 = .ok (.aload_n 0, 1) := by decide +kernel
theorem nD_INS_become_1 : decode nC_INS_become 1 = .ok (.iload_n 1, 1) := by decide +kernel
theorem nD_INS_become_2 : decode nC_INS_become 2 = .ok (.putfield 7, 3) := by decide +kernel
theorem nD_INS_become_5 : decode nC_INS_become 5 = .ok (.aload_n 0, 1) := by decide +kernel
theorem nD_INS_become_6 : decode nC_INS_become 6 = .ok (.iload_n 2, 1) := by decide +kernel
theorem nD_INS_become_7 : decode nC_INS_become 7 = .ok (.putfield 13, 3) := by decide +kernel
theorem nD_INS_become_10 : decode nC_INS_become 10 = .ok (.aload_n 0, 1) := by decide +kernel
theorem nD_INS_become_11 : decode nC_INS_become 11 = .ok (.iload_n 3, 1) := by decide +kernel
theorem nD_INS_become_12 : decode nC_INS_become 12 = .ok (.putfield 16, 3) := by decide +kernel
theorem nD_INS_become_15 : decode nC_INS_become 15 = .ok (.aload_n 0, 1) := by decide +kernel
theorem nD_INS_become_16 : decode nC_INS_become 16 = .ok (.iload 4, 2) := by decide +kernel
theorem nD_INS_become_18 : decode nC_INS_become 18 = .ok (.putfield 19, 3) := by decide +kernel
theorem nD_INS_become_21 : decode nC_INS_become 21 = .ok (.aload_n 0, 1) := by decide +kernel
theorem nD_INS_become_22 : decode nC_INS_become 22 = .ok (.iload 5, 2) := by decide +kernel
theorem nD_INS_become_24 : decode nC_INS_become 24 = .ok (.putfield 22, 3) := by decide +kernel
theorem nD_INS_become_27 : decode nC_INS_become 27 = .ok (.return_, 1) := by decide +kernel
theorem nD_OPD_init_0 : decode nC_OPD_init 0 = .ok (.aload_n 0, 1) := by decide +kernel
theorem nD_OPD_init_1 : decode nC_OPD_init 1 = .ok (.invokespecial 1, 3) := by decide +kernel
theorem nD_OPD_init_4 : decode nC_OPD_init 4 = .ok (.return_, 1) := by decide +kernel
theorem nD_OPD_isAwaited_0 : decode nC_OPD_isAwaited 0 = .ok (.aload_n 0, 1) := by decide +kernel
theorem nD_OPD_isAwaited_1 : decode nC_OPD_isAwaited 1 = .ok (.getfield 7, 3) := by decide +kernel
theorem nD_OPD_isAwaited_4 : decode nC_OPD_isAwaited 4 = .ok (.ifCond .eq 7, 3) := by decide +kernel
theorem nD_OPD_isAwaited_7 : decode nC_OPD_isAwaited 7 = .ok (.iconst 1, 1) := by decide +kernel
theorem nD_OPD_isAwaited_8 : decode nC_OPD_isAwaited 8 = .ok (.goto 4, 3) := by decide +kernel
theorem nD_OPD_isAwaited_11 : decode nC_OPD_isAwaited 11 = .ok (.iconst 0, 1) := by decide +kernel
theorem nD_OPD_isAwaited_12 : decode nC_OPD_isAwaited 12 = .ok (.ireturn, 1) := by decide +kernel
theorem nD_OPD_haveValue_0 : decode nC_OPD_haveValue 0 = .ok (.aload_n 0, 1) := by decide +kernel
theorem nD_OPD_haveValue_1 : decode nC_OPD_haveValue 1 = .ok (.iload_n 1, 1) := by decide +kernel
theorem nD_OPD_haveValue_2 : decode nC_OPD_haveValue 2 = .ok (.putfield 13, 3) := by decide +kernel
theorem nD_OPD_haveValue_5 : decode nC_OPD_haveValue 5 = .ok (.aload_n 0, 1) := by decide +kernel
theorem nD_OPD_haveValue_6 : decode nC_OPD_haveValue 6 = .ok (.iconst 0, 1) := by decide +kernel
theorem nD_OPD_haveValue_7 : decode nC_OPD_haveValue 7 = .ok (.putfield 7, 3) := by decide +kernel
theorem nD_OPD_haveValue_10 : decode nC_OPD_haveValue 10 = .ok (.return_, 1) := by decide +kernel
theorem nD_OPD_waitFor_0 : decode nC_OPD_waitFor 0 = .ok (.aload_n 0, 1) := by decide +kernel
theorem nD_OPD_waitFor_1 : decode nC_OPD_waitFor 1 = .ok (.iload_n 1, 1) := by decide +kernel
theorem nD_OPD_waitFor_2 : decode nC_OPD_waitFor 2 = .ok (.putfield 7, 3) := by decide +kernel
theorem nD_OPD_waitFor_5 : decode nC_OPD_waitFor 5 = .ok (.return_, 1) := by decide +kernel
theorem nD_OPD_copy_0 : decode nC_OPD_copy 0 = .ok (.aload_n 1, 1) := by decide +kernel
theorem nD_OPD_copy_1 : decode nC_OPD_copy 1 = .ok (.invokevirtual 16, 3) := by decide +kernel
theorem nD_OPD_copy_4 : decode nC_OPD_copy 4 = .ok (.ifCond .eq 14, 3) := by decide +kernel
theorem nD_OPD_copy_7 : decode nC_OPD_copy 7 = .ok (.aload_n 0, 1) := by decide +kernel
theorem nD_OPD_copy_8 : decode nC_OPD_copy 8 = .ok (.aload_n 1, 1) := by decide +kernel
theorem nD_OPD_copy_9 : decode nC_OPD_copy 9 = .ok (.getfield 7, 3) := by decide +kernel
theorem nD_OPD_copy_12 : decode nC_OPD_copy 12 = .ok (.invokevirtual 20, 3) := by decide +kernel
theorem nD_OPD_copy_15 : decode nC_OPD_copy 15 = .ok (.goto 11, 3) := by decide +kernel
theorem nD_OPD_copy_18 : decode nC_OPD_copy 18 = .ok (.aload_n 0, 1) := by decide +kernel
theorem nD_OPD_copy_19 : decode nC_OPD_copy 19 = .ok (.aload_n 1, 1) := by decide +kernel
theorem nD_OPD_copy_20 : decode nC_OPD_copy 20 = .ok (.getfield 13, 3) := by decide +kernel
theorem nD_OPD_copy_23 : decode nC_OPD_copy 23 = .ok (.invokevirtual 24, 3) := by decide +kernel
theorem nD_OPD_copy_26 : decode nC_OPD_copy 26 = .ok (.return_, 1) := by decide +kernel
theorem nD_OPD_hear_0 : decode nC_OPD_hear 0 = .ok (.aload_n 0, 1) := by decide +kernel
theorem nD_OPD_hear_1 : decode nC_OPD_hear 1 = .ok (.getfield 7, 3) := by decide +kernel
theorem nD_OPD_hear_4 : decode nC_OPD_hear 4 = .ok (.iload_n 1, 1) := by decide +kernel
theorem nD_OPD_hear_5 : decode nC_OPD_hear 5 = .ok (.if_icmp .ne 8, 3) := by decide +kernel
theorem nD_OPD_hear_8 : decode nC_OPD_hear 8 = .ok (.aload_n 0, 1) := by decide +kernel
theorem nD_OPD_hear_9 : decode nC_OPD_hear 9 = .ok (.iload_n 2, 1) := by decide +kernel
theorem nD_OPD_hear_10 : decode nC_OPD_hear 10 = .ok (.invokevirtual 24, 3) := by decide +kernel
theorem nD_OPD_hear_13 : decode nC_OPD_hear 13 = .ok (.return_, 1) := by decide +kernel
theorem nD_REC_init_0 : decode nC_REC_init 0 = .ok (.aload_n 0, 1) := by decide +kernel
theorem nD_REC_init_1 : decode nC_REC_init 1 = .ok (.invokespecial 1, 3) := by decide +kernel
theorem nD_REC_init_4 : decode nC_REC_init 4 = .ok (.return_, 1) := by decide +kernel
theorem nD_REC_knows_0 : decode nC_REC_knows 0 = .ok (.iload_n 0, 1) := by decide +kernel
theorem nD_REC_knows_1 : decode nC_REC_knows 1 = .ok (.ifCond .lt 12, 3) := by decide +kernel
theorem nD_REC_knows_4 : decode nC_REC_knows 4 = .ok (.iload_n 0, 1) := by decide +kernel
theorem nD_REC_knows_5 : decode nC_REC_knows 5 = .ok (.iconst 4, 1) := by decide +kernel
theorem nD_REC_knows_6 : decode nC_REC_knows 6 = .ok (.if_icmp .gt 7, 3) := by decide +kernel
theorem nD_REC_knows_9 : decode nC_REC_knows 9 = .ok (.iconst 1, 1) := by decide +kernel
theorem nD_REC_knows_10 : decode nC_REC_knows 10 = .ok (.goto 4, 3) := by decide +kernel
theorem nD_REC_knows_13 : decode nC_REC_knows 13 = .ok (.iconst 0, 1) := by decide +kernel
theorem nD_REC_knows_14 : decode nC_REC_knows 14 = .ok (.ireturn, 1) := by decide +kernel
theorem nD_REC_workOut_0 : decode nC_REC_workOut 0 = .ok (.aload_n 0, 1) := by decide +kernel
theorem nD_REC_workOut_1 : decode nC_REC_workOut 1 = .ok (.iconst 0, 1) := by decide +kernel
theorem nD_REC_workOut_2 : decode nC_REC_workOut 2 = .ok (.putfield 9, 3) := by decide +kernel
theorem nD_REC_workOut_5 : decode nC_REC_workOut 5 = .ok (.iload_n 1, 1) := by decide +kernel
theorem nD_REC_workOut_6 : decode nC_REC_workOut 6 = .ok (.tableswitch 69 0 3 #[30, 39, 51, 60], 30) := by decide +kernel
theorem nD_REC_workOut_36 : decode nC_REC_workOut 36 = .ok (.aload_n 0, 1) := by decide +kernel
theorem nD_REC_workOut_37 : decode nC_REC_workOut 37 = .ok (.iload_n 2, 1) := by decide +kernel
theorem nD_REC_workOut_38 : decode nC_REC_workOut 38 = .ok (.iload_n 3, 1) := by decide +kernel
theorem nD_REC_workOut_39 : decode nC_REC_workOut 39 = .ok (.invokevirtual 13, 3) := by decide +kernel
theorem nD_REC_workOut_42 : decode nC_REC_workOut 42 = .ok (.goto 39, 3) := by decide +kernel
theorem nD_REC_workOut_45 : decode nC_REC_workOut 45 = .ok (.aload_n 0, 1) := by decide +kernel
theorem nD_REC_workOut_46 : decode nC_REC_workOut 46 = .ok (.iload_n 2, 1) := by decide +kernel
theorem nD_REC_workOut_47 : decode nC_REC_workOut 47 = .ok (.iload_n 3, 1) := by decide +kernel
theorem nD_REC_workOut_48 : decode nC_REC_workOut 48 = .ok (.ldc 17, 2) := by decide +kernel
theorem nD_REC_workOut_50 : decode nC_REC_workOut 50 = .ok (.ixor, 1) := by decide +kernel
theorem nD_REC_workOut_51 : decode nC_REC_workOut 51 = .ok (.invokevirtual 13, 3) := by decide +kernel
theorem nD_REC_workOut_54 : decode nC_REC_workOut 54 = .ok (.goto 27, 3) := by decide +kernel
theorem nD_REC_workOut_57 : decode nC_REC_workOut 57 = .ok (.aload_n 0, 1) := by decide +kernel
theorem nD_REC_workOut_58 : decode nC_REC_workOut 58 = .ok (.iload_n 2, 1) := by decide +kernel
theorem nD_REC_workOut_59 : decode nC_REC_workOut 59 = .ok (.iload_n 3, 1) := by decide +kernel
theorem nD_REC_workOut_60 : decode nC_REC_workOut 60 = .ok (.invokevirtual 18, 3) := by decide +kernel
theorem nD_REC_workOut_63 : decode nC_REC_workOut 63 = .ok (.goto 18, 3) := by decide +kernel
theorem nD_REC_workOut_66 : decode nC_REC_workOut 66 = .ok (.aload_n 0, 1) := by decide +kernel
theorem nD_REC_workOut_67 : decode nC_REC_workOut 67 = .ok (.iload_n 2, 1) := by decide +kernel
theorem nD_REC_workOut_68 : decode nC_REC_workOut 68 = .ok (.iload_n 3, 1) := by decide +kernel
theorem nD_REC_workOut_69 : decode nC_REC_workOut 69 = .ok (.invokevirtual 21, 3) := by decide +kernel
theorem nD_REC_workOut_72 : decode nC_REC_workOut 72 = .ok (.goto 9, 3) := by decide +kernel
theorem nD_REC_workOut_75 : decode nC_REC_workOut 75 = .ok (.aload_n 0, 1) := by decide +kernel
theorem nD_REC_workOut_76 : decode nC_REC_workOut 76 = .ok (.iload_n 2, 1) := by decide +kernel
theorem nD_REC_workOut_77 : decode nC_REC_workOut 77 = .ok (.iload_n 3, 1) := by decide +kernel
theorem nD_REC_workOut_78 : decode nC_REC_workOut 78 = .ok (.invokevirtual 24, 3) := by decide +kernel
theorem nD_REC_workOut_81 : decode nC_REC_workOut 81 = .ok (.return_, 1) := by decide +kernel
theorem nD_REC_add_0 : decode nC_REC_add 0 = .ok (.iload_n 1, 1) := by decide +kernel
theorem nD_REC_add_1 : decode nC_REC_add 1 = .ok (.iload_n 2, 1) := by decide +kernel
theorem nD_REC_add_2 : decode nC_REC_add 2 = .ok (.invokestatic 27, 3) := by decide +kernel
theorem nD_REC_add_5 : decode nC_REC_add 5 = .ok (.istore_n 3, 1) := by decide +kernel
theorem nD_REC_add_6 : decode nC_REC_add 6 = .ok (.iload_n 3, 1) := by decide +kernel
theorem nD_REC_add_7 : decode nC_REC_add 7 = .ok (.ifCond .ge 8, 3) := by decide +kernel
theorem nD_REC_add_10 : decode nC_REC_add 10 = .ok (.iload_n 3, 1) := by decide +kernel
theorem nD_REC_add_11 : decode nC_REC_add 11 = .ok (.ineg, 1) := by decide +kernel
theorem nD_REC_add_12 : decode nC_REC_add 12 = .ok (.goto 4, 3) := by decide +kernel
theorem nD_REC_add_15 : decode nC_REC_add 15 = .ok (.iload_n 3, 1) := by decide +kernel
theorem nD_REC_add_16 : decode nC_REC_add 16 = .ok (.istore 4, 2) := by decide +kernel
theorem nD_REC_add_18 : decode nC_REC_add 18 = .ok (.iload_n 1, 1) := by decide +kernel
theorem nD_REC_add_19 : decode nC_REC_add 19 = .ok (.iload_n 2, 1) := by decide +kernel
theorem nD_REC_add_20 : decode nC_REC_add 20 = .ok (.invokestatic 31, 3) := by decide +kernel
theorem nD_REC_add_23 : decode nC_REC_add 23 = .ok (.istore 5, 2) := by decide +kernel
theorem nD_REC_add_25 : decode nC_REC_add 25 = .ok (.iload 4, 2) := by decide +kernel
theorem nD_REC_add_27 : decode nC_REC_add 27 = .ok (.ldc 34, 2) := by decide +kernel
theorem nD_REC_add_29 : decode nC_REC_add 29 = .ok (.if_icmp .lt 12, 3) := by decide +kernel
theorem nD_REC_add_32 : decode nC_REC_add 32 = .ok (.iload 4, 2) := by decide +kernel
theorem nD_REC_add_34 : decode nC_REC_add 34 = .ok (.iconst 4, 1) := by decide +kernel
theorem nD_REC_add_35 : decode nC_REC_add 35 = .ok (.ishr, 1) := by decide +kernel
theorem nD_REC_add_36 : decode nC_REC_add 36 = .ok (.istore 4, 2) := by decide +kernel
theorem nD_REC_add_38 : decode nC_REC_add 38 = .ok (.iinc 5 1, 3) := by decide +kernel
theorem nD_REC_add_41 : decode nC_REC_add 41 = .ok (.aload_n 0, 1) := by decide +kernel
theorem nD_REC_add_42 : decode nC_REC_add 42 = .ok (.iload_n 3, 1) := by decide +kernel
theorem nD_REC_add_43 : decode nC_REC_add 43 = .ok (.ifCond .ge 7, 3) := by decide +kernel
theorem nD_REC_add_46 : decode nC_REC_add 46 = .ok (.iconst 1, 1) := by decide +kernel
theorem nD_REC_add_47 : decode nC_REC_add 47 = .ok (.goto 4, 3) := by decide +kernel
theorem nD_REC_add_50 : decode nC_REC_add 50 = .ok (.iconst 0, 1) := by decide +kernel
theorem nD_REC_add_51 : decode nC_REC_add 51 = .ok (.iload 5, 2) := by decide +kernel
theorem nD_REC_add_53 : decode nC_REC_add 53 = .ok (.iload 4, 2) := by decide +kernel
theorem nD_REC_add_55 : decode nC_REC_add 55 = .ok (.invokevirtual 35, 3) := by decide +kernel
theorem nD_REC_add_58 : decode nC_REC_add 58 = .ok (.return_, 1) := by decide +kernel
theorem nD_REC_compare_0 : decode nC_REC_compare 0 = .ok (.iload_n 1, 1) := by decide +kernel
theorem nD_REC_compare_1 : decode nC_REC_compare 1 = .ok (.iload_n 2, 1) := by decide +kernel
theorem nD_REC_compare_2 : decode nC_REC_compare 2 = .ok (.ldc 17, 2) := by decide +kernel
theorem nD_REC_compare_4 : decode nC_REC_compare 4 = .ok (.ixor, 1) := by decide +kernel
theorem nD_REC_compare_5 : decode nC_REC_compare 5 = .ok (.invokestatic 27, 3) := by decide +kernel
theorem nD_REC_compare_8 : decode nC_REC_compare 8 = .ok (.istore_n 3, 1) := by decide +kernel
theorem nD_REC_compare_9 : decode nC_REC_compare 9 = .ok (.iload_n 3, 1) := by decide +kernel
theorem nD_REC_compare_10 : decode nC_REC_compare 10 = .ok (.ifCond .ne 11, 3) := by decide +kernel
theorem nD_REC_compare_13 : decode nC_REC_compare 13 = .ok (.aload_n 0, 1) := by decide +kernel
theorem nD_REC_compare_14 : decode nC_REC_compare 14 = .ok (.iconst 0, 1) := by decide +kernel
theorem nD_REC_compare_15 : decode nC_REC_compare 15 = .ok (.putfield 39, 3) := by decide +kernel
theorem nD_REC_compare_18 : decode nC_REC_compare 18 = .ok (.goto 16, 3) := by decide +kernel
theorem nD_REC_compare_21 : decode nC_REC_compare 21 = .ok (.aload_n 0, 1) := by decide +kernel
theorem nD_REC_compare_22 : decode nC_REC_compare 22 = .ok (.iload_n 3, 1) := by decide +kernel
theorem nD_REC_compare_23 : decode nC_REC_compare 23 = .ok (.ifCond .ge 7, 3) := by decide +kernel
theorem nD_REC_compare_26 : decode nC_REC_compare 26 = .ok (.iconst 1, 1) := by decide +kernel
theorem nD_REC_compare_27 : decode nC_REC_compare 27 = .ok (.goto 4, 3) := by decide +kernel
theorem nD_REC_compare_30 : decode nC_REC_compare 30 = .ok (.iconst 2, 1) := by decide +kernel
theorem nD_REC_compare_31 : decode nC_REC_compare 31 = .ok (.putfield 39, 3) := by decide +kernel
theorem nD_REC_compare_34 : decode nC_REC_compare 34 = .ok (.return_, 1) := by decide +kernel
theorem nD_REC_multiply_0 : decode nC_REC_multiply 0 = .ok (.iload_n 1, 1) := by decide +kernel
theorem nD_REC_multiply_1 : decode nC_REC_multiply 1 = .ok (.invokestatic 42, 3) := by decide +kernel
theorem nD_REC_multiply_4 : decode nC_REC_multiply 4 = .ok (.ifCond .eq 10, 3) := by decide +kernel
theorem nD_REC_multiply_7 : decode nC_REC_multiply 7 = .ok (.iload_n 2, 1) := by decide +kernel
theorem nD_REC_multiply_8 : decode nC_REC_multiply 8 = .ok (.invokestatic 42, 3) := by decide +kernel
theorem nD_REC_multiply_11 : decode nC_REC_multiply 11 = .ok (.ifCond .ne 9, 3) := by decide +kernel
theorem nD_REC_multiply_14 : decode nC_REC_multiply 14 = .ok (.aload_n 0, 1) := by decide +kernel
theorem nD_REC_multiply_15 : decode nC_REC_multiply 15 = .ok (.iconst 0, 1) := by decide +kernel
theorem nD_REC_multiply_16 : decode nC_REC_multiply 16 = .ok (.putfield 39, 3) := by decide +kernel
theorem nD_REC_multiply_19 : decode nC_REC_multiply 19 = .ok (.return_, 1) := by decide +kernel
theorem nD_REC_multiply_20 : decode nC_REC_multiply 20 = .ok (.iload_n 1, 1) := by decide +kernel
theorem nD_REC_multiply_21 : decode nC_REC_multiply 21 = .ok (.invokestatic 46, 3) := by decide +kernel
theorem nD_REC_multiply_24 : decode nC_REC_multiply 24 = .ok (.i2l, 1) := by decide +kernel
theorem nD_REC_multiply_25 : decode nC_REC_multiply 25 = .ok (.iload_n 2, 1) := by decide +kernel
theorem nD_REC_multiply_26 : decode nC_REC_multiply 26 = .ok (.invokestatic 46, 3) := by decide +kernel
theorem nD_REC_multiply_29 : decode nC_REC_multiply 29 = .ok (.i2l, 1) := by decide +kernel
theorem nD_REC_multiply_30 : decode nC_REC_multiply 30 = .ok (.lmul, 1) := by decide +kernel
theorem nD_REC_multiply_31 : decode nC_REC_multiply 31 = .ok (.bipush 20, 2) := by decide +kernel
theorem nD_REC_multiply_33 : decode nC_REC_multiply 33 = .ok (.lshr, 1) := by decide +kernel
theorem nD_REC_multiply_34 : decode nC_REC_multiply 34 = .ok (.lstore_n 3, 1) := by decide +kernel
theorem nD_REC_multiply_35 : decode nC_REC_multiply 35 = .ok (.aload_n 0, 1) := by decide +kernel
theorem nD_REC_multiply_36 : decode nC_REC_multiply 36 = .ok (.iload_n 1, 1) := by decide +kernel
theorem nD_REC_multiply_37 : decode nC_REC_multiply 37 = .ok (.iload_n 2, 1) := by decide +kernel
theorem nD_REC_multiply_38 : decode nC_REC_multiply 38 = .ok (.ixor, 1) := by decide +kernel
theorem nD_REC_multiply_39 : decode nC_REC_multiply 39 = .ok (.ifCond .ge 7, 3) := by decide +kernel
theorem nD_REC_multiply_42 : decode nC_REC_multiply 42 = .ok (.iconst 1, 1) := by decide +kernel
theorem nD_REC_multiply_43 : decode nC_REC_multiply 43 = .ok (.goto 4, 3) := by decide +kernel
theorem nD_REC_multiply_46 : decode nC_REC_multiply 46 = .ok (.iconst 0, 1) := by decide +kernel
theorem nD_REC_multiply_47 : decode nC_REC_multiply 47 = .ok (.iload_n 1, 1) := by decide +kernel
theorem nD_REC_multiply_48 : decode nC_REC_multiply 48 = .ok (.invokestatic 49, 3) := by decide +kernel
theorem nD_REC_multiply_51 : decode nC_REC_multiply 51 = .ok (.iload_n 2, 1) := by decide +kernel
theorem nD_REC_multiply_52 : decode nC_REC_multiply 52 = .ok (.invokestatic 49, 3) := by decide +kernel
theorem nD_REC_multiply_55 : decode nC_REC_multiply 55 = .ok (.iadd, 1) := by decide +kernel
theorem nD_REC_multiply_56 : decode nC_REC_multiply 56 = .ok (.bipush 64, 2) := by decide +kernel
theorem nD_REC_multiply_58 : decode nC_REC_multiply 58 = .ok (.isub, 1) := by decide +kernel
theorem nD_REC_multiply_59 : decode nC_REC_multiply 59 = .ok (.lload_n 3, 1) := by decide +kernel
theorem nD_REC_multiply_60 : decode nC_REC_multiply 60 = .ok (.l2i, 1) := by decide +kernel
theorem nD_REC_multiply_61 : decode nC_REC_multiply 61 = .ok (.invokevirtual 35, 3) := by decide +kernel
theorem nD_REC_multiply_64 : decode nC_REC_multiply 64 = .ok (.return_, 1) := by decide +kernel
theorem nD_REC_divide_0 : decode nC_REC_divide 0 = .ok (.iload_n 2, 1) := by decide +kernel
theorem nD_REC_divide_1 : decode nC_REC_divide 1 = .ok (.invokestatic 46, 3) := by decide +kernel
theorem nD_REC_divide_4 : decode nC_REC_divide 4 = .ok (.istore_n 3, 1) := by decide +kernel
theorem nD_REC_divide_5 : decode nC_REC_divide 5 = .ok (.iload_n 3, 1) := by decide +kernel
theorem nD_REC_divide_6 : decode nC_REC_divide 6 = .ok (.ifCond .ne 14, 3) := by decide +kernel
theorem nD_REC_divide_9 : decode nC_REC_divide 9 = .ok (.aload_n 0, 1) := by decide +kernel
theorem nD_REC_divide_10 : decode nC_REC_divide 10 = .ok (.iconst 4, 1) := by decide +kernel
theorem nD_REC_divide_11 : decode nC_REC_divide 11 = .ok (.putfield 9, 3) := by decide +kernel
theorem nD_REC_divide_14 : decode nC_REC_divide 14 = .ok (.aload_n 0, 1) := by decide +kernel
theorem nD_REC_divide_15 : decode nC_REC_divide 15 = .ok (.iload_n 1, 1) := by decide +kernel
theorem nD_REC_divide_16 : decode nC_REC_divide 16 = .ok (.putfield 39, 3) := by decide +kernel
theorem nD_REC_divide_19 : decode nC_REC_divide 19 = .ok (.return_, 1) := by decide +kernel
theorem nD_REC_divide_20 : decode nC_REC_divide 20 = .ok (.iload_n 1, 1) := by decide +kernel
theorem nD_REC_divide_21 : decode nC_REC_divide 21 = .ok (.invokestatic 46, 3) := by decide +kernel
theorem nD_REC_divide_24 : decode nC_REC_divide 24 = .ok (.i2l, 1) := by decide +kernel
theorem nD_REC_divide_25 : decode nC_REC_divide 25 = .ok (.bipush 24, 2) := by decide +kernel
theorem nD_REC_divide_27 : decode nC_REC_divide 27 = .ok (.lshl, 1) := by decide +kernel
theorem nD_REC_divide_28 : decode nC_REC_divide 28 = .ok (.iload_n 3, 1) := by decide +kernel
theorem nD_REC_divide_29 : decode nC_REC_divide 29 = .ok (.i2l, 1) := by decide +kernel
theorem nD_REC_divide_30 : decode nC_REC_divide 30 = .ok (.ldiv, 1) := by decide +kernel
theorem nD_REC_divide_31 : decode nC_REC_divide 31 = .ok (.lstore 4, 2) := by decide +kernel
theorem nD_REC_divide_33 : decode nC_REC_divide 33 = .ok (.aload_n 0, 1) := by decide +kernel
theorem nD_REC_divide_34 : decode nC_REC_divide 34 = .ok (.iload_n 1, 1) := by decide +kernel
theorem nD_REC_divide_35 : decode nC_REC_divide 35 = .ok (.iload_n 2, 1) := by decide +kernel
theorem nD_REC_divide_36 : decode nC_REC_divide 36 = .ok (.ixor, 1) := by decide +kernel
theorem nD_REC_divide_37 : decode nC_REC_divide 37 = .ok (.ifCond .ge 7, 3) := by decide +kernel
theorem nD_REC_divide_40 : decode nC_REC_divide 40 = .ok (.iconst 1, 1) := by decide +kernel
theorem nD_REC_divide_41 : decode nC_REC_divide 41 = .ok (.goto 4, 3) := by decide +kernel
theorem nD_REC_divide_44 : decode nC_REC_divide 44 = .ok (.iconst 0, 1) := by decide +kernel
theorem nD_REC_divide_45 : decode nC_REC_divide 45 = .ok (.iload_n 1, 1) := by decide +kernel
theorem nD_REC_divide_46 : decode nC_REC_divide 46 = .ok (.invokestatic 49, 3) := by decide +kernel
theorem nD_REC_divide_49 : decode nC_REC_divide 49 = .ok (.iload_n 2, 1) := by decide +kernel
theorem nD_REC_divide_50 : decode nC_REC_divide 50 = .ok (.invokestatic 49, 3) := by decide +kernel
theorem nD_REC_divide_53 : decode nC_REC_divide 53 = .ok (.isub, 1) := by decide +kernel
theorem nD_REC_divide_54 : decode nC_REC_divide 54 = .ok (.bipush 65, 2) := by decide +kernel
theorem nD_REC_divide_56 : decode nC_REC_divide 56 = .ok (.iadd, 1) := by decide +kernel
theorem nD_REC_divide_57 : decode nC_REC_divide 57 = .ok (.lload 4, 2) := by decide +kernel
theorem nD_REC_divide_59 : decode nC_REC_divide 59 = .ok (.l2i, 1) := by decide +kernel
theorem nD_REC_divide_60 : decode nC_REC_divide 60 = .ok (.invokevirtual 35, 3) := by decide +kernel
theorem nD_REC_divide_63 : decode nC_REC_divide 63 = .ok (.return_, 1) := by decide +kernel
theorem nD_REC_finish_0 : decode nC_REC_finish 0 = .ok (.aload_n 0, 1) := by decide +kernel
theorem nD_REC_finish_1 : decode nC_REC_finish 1 = .ok (.iconst 0, 1) := by decide +kernel
theorem nD_REC_finish_2 : decode nC_REC_finish 2 = .ok (.putfield 39, 3) := by decide +kernel
theorem nD_REC_finish_5 : decode nC_REC_finish 5 = .ok (.iload_n 3, 1) := by decide +kernel
theorem nD_REC_finish_6 : decode nC_REC_finish 6 = .ok (.ifCond .ne 4, 3) := by decide +kernel
theorem nD_REC_finish_9 : decode nC_REC_finish 9 = .ok (.return_, 1) := by decide +kernel
theorem nD_REC_finish_10 : decode nC_REC_finish 10 = .ok (.iload_n 3, 1) := by decide +kernel
theorem nD_REC_finish_11 : decode nC_REC_finish 11 = .ok (.bipush 7, 2) := by decide +kernel
theorem nD_REC_finish_13 : decode nC_REC_finish 13 = .ok (.invokestatic 52, 3) := by decide +kernel
theorem nD_REC_finish_16 : decode nC_REC_finish 16 = .ok (.istore 4, 2) := by decide +kernel
theorem nD_REC_finish_18 : decode nC_REC_finish 18 = .ok (.iload_n 3, 1) := by decide +kernel
theorem nD_REC_finish_19 : decode nC_REC_finish 19 = .ok (.iconst 4, 1) := by decide +kernel
theorem nD_REC_finish_20 : decode nC_REC_finish 20 = .ok (.iload 4, 2) := by decide +kernel
theorem nD_REC_finish_22 : decode nC_REC_finish 22 = .ok (.imul, 1) := by decide +kernel
theorem nD_REC_finish_23 : decode nC_REC_finish 23 = .ok (.ishl, 1) := by decide +kernel
theorem nD_REC_finish_24 : decode nC_REC_finish 24 = .ok (.iconst 4, 1) := by decide +kernel
theorem nD_REC_finish_25 : decode nC_REC_finish 25 = .ok (.ishr, 1) := by decide +kernel
theorem nD_REC_finish_26 : decode nC_REC_finish 26 = .ok (.istore 5, 2) := by decide +kernel
theorem nD_REC_finish_28 : decode nC_REC_finish 28 = .ok (.iload_n 2, 1) := by decide +kernel
theorem nD_REC_finish_29 : decode nC_REC_finish 29 = .ok (.iload 4, 2) := by decide +kernel
theorem nD_REC_finish_31 : decode nC_REC_finish 31 = .ok (.isub, 1) := by decide +kernel
theorem nD_REC_finish_32 : decode nC_REC_finish 32 = .ok (.istore 6, 2) := by decide +kernel
theorem nD_REC_finish_34 : decode nC_REC_finish 34 = .ok (.iload 6, 2) := by decide +kernel
theorem nD_REC_finish_36 : decode nC_REC_finish 36 = .ok (.ifCond .ge 9, 3) := by decide +kernel
theorem nD_REC_finish_39 : decode nC_REC_finish 39 = .ok (.aload_n 0, 1) := by decide +kernel
theorem nD_REC_finish_40 : decode nC_REC_finish 40 = .ok (.iconst 2, 1) := by decide +kernel
theorem nD_REC_finish_41 : decode nC_REC_finish 41 = .ok (.putfield 9, 3) := by decide +kernel
theorem nD_REC_finish_44 : decode nC_REC_finish 44 = .ok (.return_, 1) := by decide +kernel
theorem nD_REC_finish_45 : decode nC_REC_finish 45 = .ok (.iload 6, 2) := by decide +kernel
theorem nD_REC_finish_47 : decode nC_REC_finish 47 = .ok (.bipush 127, 2) := by decide +kernel
theorem nD_REC_finish_49 : decode nC_REC_finish 49 = .ok (.if_icmp .le 11, 3) := by decide +kernel
theorem nD_REC_finish_52 : decode nC_REC_finish 52 = .ok (.aload_n 0, 1) := by decide +kernel
theorem nD_REC_finish_53 : decode nC_REC_finish 53 = .ok (.iconst 1, 1) := by decide +kernel
theorem nD_REC_finish_54 : decode nC_REC_finish 54 = .ok (.putfield 9, 3) := by decide +kernel
theorem nD_REC_finish_57 : decode nC_REC_finish 57 = .ok (.iinc 6 (-128), 3) := by decide +kernel
theorem nD_REC_finish_60 : decode nC_REC_finish 60 = .ok (.aload_n 0, 1) := by decide +kernel
theorem nD_REC_finish_61 : decode nC_REC_finish 61 = .ok (.iload_n 1, 1) := by decide +kernel
theorem nD_REC_finish_62 : decode nC_REC_finish 62 = .ok (.ifCond .eq 8, 3) := by decide +kernel
theorem nD_REC_finish_65 : decode nC_REC_finish 65 = .ok (.ldc 17, 2) := by decide +kernel
theorem nD_REC_finish_67 : decode nC_REC_finish 67 = .ok (.goto 4, 3) := by decide +kernel
theorem nD_REC_finish_70 : decode nC_REC_finish 70 = .ok (.iconst 0, 1) := by decide +kernel
theorem nD_REC_finish_71 : decode nC_REC_finish 71 = .ok (.iload 6, 2) := by decide +kernel
theorem nD_REC_finish_73 : decode nC_REC_finish 73 = .ok (.bipush 24, 2) := by decide +kernel
theorem nD_REC_finish_75 : decode nC_REC_finish 75 = .ok (.ishl, 1) := by decide +kernel
theorem nD_REC_finish_76 : decode nC_REC_finish 76 = .ok (.ior, 1) := by decide +kernel
theorem nD_REC_finish_77 : decode nC_REC_finish 77 = .ok (.iload 5, 2) := by decide +kernel
theorem nD_REC_finish_79 : decode nC_REC_finish 79 = .ok (.ior, 1) := by decide +kernel
theorem nD_REC_finish_80 : decode nC_REC_finish 80 = .ok (.putfield 39, 3) := by decide +kernel
theorem nD_REC_finish_83 : decode nC_REC_finish 83 = .ok (.return_, 1) := by decide +kernel
theorem nD_REC_fraction_0 : decode nC_REC_fraction 0 = .ok (.iload_n 0, 1) := by decide +kernel
theorem nD_REC_fraction_1 : decode nC_REC_fraction 1 = .ok (.ldc 55, 2) := by decide +kernel
theorem nD_REC_fraction_3 : decode nC_REC_fraction 3 = .ok (.iand, 1) := by decide +kernel
theorem nD_REC_fraction_4 : decode nC_REC_fraction 4 = .ok (.ireturn, 1) := by decide +kernel
theorem nD_REC_characteristic_0 : decode nC_REC_characteristic 0 = .ok (.iload_n 0, 1) := by decide +kernel
theorem nD_REC_characteristic_1 : decode nC_REC_characteristic 1 = .ok (.bipush 24, 2) := by decide +kernel
theorem nD_REC_characteristic_3 : decode nC_REC_characteristic 3 = .ok (.ishr, 1) := by decide +kernel
theorem nD_REC_characteristic_4 : decode nC_REC_characteristic 4 = .ok (.bipush 127, 2) := by decide +kernel
theorem nD_REC_characteristic_6 : decode nC_REC_characteristic 6 = .ok (.iand, 1) := by decide +kernel
theorem nD_REC_characteristic_7 : decode nC_REC_characteristic 7 = .ok (.ireturn, 1) := by decide +kernel
theorem nD_REC_greaterCharacteristic_0 : decode nC_REC_greaterCharacteristic 0 = .ok (.iload_n 0, 1) := by decide +kernel
theorem nD_REC_greaterCharacteristic_1 : decode nC_REC_greaterCharacteristic 1 = .ok (.invokestatic 56, 3) := by decide +kernel
theorem nD_REC_greaterCharacteristic_4 : decode nC_REC_greaterCharacteristic 4 = .ok (.iload_n 1, 1) := by decide +kernel
theorem nD_REC_greaterCharacteristic_5 : decode nC_REC_greaterCharacteristic 5 = .ok (.invokestatic 56, 3) := by decide +kernel
theorem nD_REC_greaterCharacteristic_8 : decode nC_REC_greaterCharacteristic 8 = .ok (.invokestatic 59, 3) := by decide +kernel
theorem nD_REC_greaterCharacteristic_11 : decode nC_REC_greaterCharacteristic 11 = .ok (.ireturn, 1) := by decide +kernel
theorem nD_REC_alignedSum_0 : decode nC_REC_alignedSum 0 = .ok (.iload_n 0, 1) := by decide +kernel
theorem nD_REC_alignedSum_1 : decode nC_REC_alignedSum 1 = .ok (.invokestatic 56, 3) := by decide +kernel
theorem nD_REC_alignedSum_4 : decode nC_REC_alignedSum 4 = .ok (.iload_n 1, 1) := by decide +kernel
theorem nD_REC_alignedSum_5 : decode nC_REC_alignedSum 5 = .ok (.invokestatic 56, 3) := by decide +kernel
theorem nD_REC_alignedSum_8 : decode nC_REC_alignedSum 8 = .ok (.isub, 1) := by decide +kernel
theorem nD_REC_alignedSum_9 : decode nC_REC_alignedSum 9 = .ok (.istore_n 2, 1) := by decide +kernel
theorem nD_REC_alignedSum_10 : decode nC_REC_alignedSum 10 = .ok (.iload_n 0, 1) := by decide +kernel
theorem nD_REC_alignedSum_11 : decode nC_REC_alignedSum 11 = .ok (.iload_n 2, 1) := by decide +kernel
theorem nD_REC_alignedSum_12 : decode nC_REC_alignedSum 12 = .ok (.ineg, 1) := by decide +kernel
theorem nD_REC_alignedSum_13 : decode nC_REC_alignedSum 13 = .ok (.invokestatic 64, 3) := by decide +kernel
theorem nD_REC_alignedSum_16 : decode nC_REC_alignedSum 16 = .ok (.iload_n 1, 1) := by decide +kernel
theorem nD_REC_alignedSum_17 : decode nC_REC_alignedSum 17 = .ok (.iload_n 2, 1) := by decide +kernel
theorem nD_REC_alignedSum_18 : decode nC_REC_alignedSum 18 = .ok (.invokestatic 64, 3) := by decide +kernel
theorem nD_REC_alignedSum_21 : decode nC_REC_alignedSum 21 = .ok (.iadd, 1) := by decide +kernel
theorem nD_REC_alignedSum_22 : decode nC_REC_alignedSum 22 = .ok (.ireturn, 1) := by decide +kernel
theorem nD_REC_aligned_0 : decode nC_REC_aligned 0 = .ok (.iconst 0, 1) := by decide +kernel
theorem nD_REC_aligned_1 : decode nC_REC_aligned 1 = .ok (.bipush 7, 2) := by decide +kernel
theorem nD_REC_aligned_3 : decode nC_REC_aligned 3 = .ok (.iload_n 1, 1) := by decide +kernel
theorem nD_REC_aligned_4 : decode nC_REC_aligned 4 = .ok (.invokestatic 67, 3) := by decide +kernel
theorem nD_REC_aligned_7 : decode nC_REC_aligned 7 = .ok (.invokestatic 59, 3) := by decide +kernel
theorem nD_REC_aligned_10 : decode nC_REC_aligned 10 = .ok (.istore_n 2, 1) := by decide +kernel
theorem nD_REC_aligned_11 : decode nC_REC_aligned 11 = .ok (.bipush 16, 2) := by decide +kernel
theorem nD_REC_aligned_13 : decode nC_REC_aligned 13 = .ok (.iload_n 0, 1) := by decide +kernel
theorem nD_REC_aligned_14 : decode nC_REC_aligned 14 = .ok (.invokestatic 42, 3) := by decide +kernel
theorem nD_REC_aligned_17 : decode nC_REC_aligned 17 = .ok (.imul, 1) := by decide +kernel
theorem nD_REC_aligned_18 : decode nC_REC_aligned 18 = .ok (.iconst 4, 1) := by decide +kernel
theorem nD_REC_aligned_19 : decode nC_REC_aligned 19 = .ok (.iload_n 2, 1) := by decide +kernel
theorem nD_REC_aligned_20 : decode nC_REC_aligned 20 = .ok (.imul, 1) := by decide +kernel
theorem nD_REC_aligned_21 : decode nC_REC_aligned 21 = .ok (.ishr, 1) := by decide +kernel
theorem nD_REC_aligned_22 : decode nC_REC_aligned 22 = .ok (.istore_n 3, 1) := by decide +kernel
theorem nD_REC_aligned_23 : decode nC_REC_aligned 23 = .ok (.iload_n 0, 1) := by decide +kernel
theorem nD_REC_aligned_24 : decode nC_REC_aligned 24 = .ok (.ifCond .ge 8, 3) := by decide +kernel
theorem nD_REC_aligned_27 : decode nC_REC_aligned 27 = .ok (.iload_n 3, 1) := by decide +kernel
theorem nD_REC_aligned_28 : decode nC_REC_aligned 28 = .ok (.ineg, 1) := by decide +kernel
theorem nD_REC_aligned_29 : decode nC_REC_aligned 29 = .ok (.goto 4, 3) := by decide +kernel
theorem nD_REC_aligned_32 : decode nC_REC_aligned 32 = .ok (.iload_n 3, 1) := by decide +kernel
theorem nD_REC_aligned_33 : decode nC_REC_aligned 33 = .ok (.ireturn, 1) := by decide +kernel
theorem nD_REC_normalFraction_0 : decode nC_REC_normalFraction 0 = .ok (.iload_n 0, 1) := by decide +kernel
theorem nD_REC_normalFraction_1 : decode nC_REC_normalFraction 1 = .ok (.invokestatic 42, 3) := by decide +kernel
theorem nD_REC_normalFraction_4 : decode nC_REC_normalFraction 4 = .ok (.istore_n 1, 1) := by decide +kernel
theorem nD_REC_normalFraction_5 : decode nC_REC_normalFraction 5 = .ok (.iload_n 1, 1) := by decide +kernel
theorem nD_REC_normalFraction_6 : decode nC_REC_normalFraction 6 = .ok (.iconst 4, 1) := by decide +kernel
theorem nD_REC_normalFraction_7 : decode nC_REC_normalFraction 7 = .ok (.iload_n 1, 1) := by decide +kernel
theorem nD_REC_normalFraction_8 : decode nC_REC_normalFraction 8 = .ok (.bipush 6, 2) := by decide +kernel
theorem nD_REC_normalFraction_10 : decode nC_REC_normalFraction 10 = .ok (.invokestatic 52, 3) := by decide +kernel
theorem nD_REC_normalFraction_13 : decode nC_REC_normalFraction 13 = .ok (.imul, 1) := by decide +kernel
theorem nD_REC_normalFraction_14 : decode nC_REC_normalFraction 14 = .ok (.ishl, 1) := by decide +kernel
theorem nD_REC_normalFraction_15 : decode nC_REC_normalFraction 15 = .ok (.ireturn, 1) := by decide +kernel
theorem nD_REC_normalCharacteristic_0 : decode nC_REC_normalCharacteristic 0 = .ok (.iload_n 0, 1) := by decide +kernel
theorem nD_REC_normalCharacteristic_1 : decode nC_REC_normalCharacteristic 1 = .ok (.invokestatic 56, 3) := by decide +kernel
theorem nD_REC_normalCharacteristic_4 : decode nC_REC_normalCharacteristic 4 = .ok (.iload_n 0, 1) := by decide +kernel
theorem nD_REC_normalCharacteristic_5 : decode nC_REC_normalCharacteristic 5 = .ok (.invokestatic 42, 3) := by decide +kernel
theorem nD_REC_normalCharacteristic_8 : decode nC_REC_normalCharacteristic 8 = .ok (.bipush 6, 2) := by decide +kernel
theorem nD_REC_normalCharacteristic_10 : decode nC_REC_normalCharacteristic 10 = .ok (.invokestatic 52, 3) := by decide +kernel
theorem nD_REC_normalCharacteristic_13 : decode nC_REC_normalCharacteristic 13 = .ok (.isub, 1) := by decide +kernel
theorem nD_REC_normalCharacteristic_14 : decode nC_REC_normalCharacteristic 14 = .ok (.ireturn, 1) := by decide +kernel
theorem nD_REC_leadingZeros_0 : decode nC_REC_leadingZeros 0 = .ok (.iconst 0, 1) := by decide +kernel
theorem nD_REC_leadingZeros_1 : decode nC_REC_leadingZeros 1 = .ok (.istore_n 2, 1) := by decide +kernel
theorem nD_REC_leadingZeros_2 : decode nC_REC_leadingZeros 2 = .ok (.iload_n 2, 1) := by decide +kernel
theorem nD_REC_leadingZeros_3 : decode nC_REC_leadingZeros 3 = .ok (.iload_n 1, 1) := by decide +kernel
theorem nD_REC_leadingZeros_4 : decode nC_REC_leadingZeros 4 = .ok (.if_icmp .ge 21, 3) := by decide +kernel
theorem nD_REC_leadingZeros_7 : decode nC_REC_leadingZeros 7 = .ok (.iload_n 0, 1) := by decide +kernel
theorem nD_REC_leadingZeros_8 : decode nC_REC_leadingZeros 8 = .ok (.iconst 4, 1) := by decide +kernel
theorem nD_REC_leadingZeros_9 : decode nC_REC_leadingZeros 9 = .ok (.iload_n 1, 1) := by decide +kernel
theorem nD_REC_leadingZeros_10 : decode nC_REC_leadingZeros 10 = .ok (.iconst 1, 1) := by decide +kernel
theorem nD_REC_leadingZeros_11 : decode nC_REC_leadingZeros 11 = .ok (.isub, 1) := by decide +kernel
theorem nD_REC_leadingZeros_12 : decode nC_REC_leadingZeros 12 = .ok (.iload_n 2, 1) := by decide +kernel
theorem nD_REC_leadingZeros_13 : decode nC_REC_leadingZeros 13 = .ok (.isub, 1) := by decide +kernel
theorem nD_REC_leadingZeros_14 : decode nC_REC_leadingZeros 14 = .ok (.imul, 1) := by decide +kernel
theorem nD_REC_leadingZeros_15 : decode nC_REC_leadingZeros 15 = .ok (.ishr, 1) := by decide +kernel
theorem nD_REC_leadingZeros_16 : decode nC_REC_leadingZeros 16 = .ok (.ifCond .ne 9, 3) := by decide +kernel
theorem nD_REC_leadingZeros_19 : decode nC_REC_leadingZeros 19 = .ok (.iinc 2 1, 3) := by decide +kernel
theorem nD_REC_leadingZeros_22 : decode nC_REC_leadingZeros 22 = .ok (.goto (-20), 3) := by decide +kernel
theorem nD_REC_leadingZeros_25 : decode nC_REC_leadingZeros 25 = .ok (.iload_n 2, 1) := by decide +kernel
theorem nD_REC_leadingZeros_26 : decode nC_REC_leadingZeros 26 = .ok (.ireturn, 1) := by decide +kernel
theorem nD_UNI_init_0 : decode nC_UNI_init 0 = .ok (.aload_n 0, 1) := by decide +kernel
theorem nD_UNI_init_1 : decode nC_UNI_init 1 = .ok (.invokespecial 3, 3) := by decide +kernel
theorem nD_UNI_init_4 : decode nC_UNI_init 4 = .ok (.aload_n 0, 1) := by decide +kernel
theorem nD_UNI_init_5 : decode nC_UNI_init 5 = .ok (.new 9, 3) := by decide +kernel
theorem nD_UNI_init_8 : decode nC_UNI_init 8 = .ok (.dup, 1) := by decide +kernel
theorem nD_UNI_init_9 : decode nC_UNI_init 9 = .ok (.invokespecial 11, 3) := by decide +kernel
theorem nD_UNI_init_12 : decode nC_UNI_init 12 = .ok (.putfield 12, 3) := by decide +kernel
theorem nD_UNI_init_15 : decode nC_UNI_init 15 = .ok (.aload_n 0, 1) := by decide +kernel
theorem nD_UNI_init_16 : decode nC_UNI_init 16 = .ok (.new 9, 3) := by decide +kernel
theorem nD_UNI_init_19 : decode nC_UNI_init 19 = .ok (.dup, 1) := by decide +kernel
theorem nD_UNI_init_20 : decode nC_UNI_init 20 = .ok (.invokespecial 11, 3) := by decide +kernel
theorem nD_UNI_init_23 : decode nC_UNI_init 23 = .ok (.putfield 18, 3) := by decide +kernel
theorem nD_UNI_init_26 : decode nC_UNI_init 26 = .ok (.return_, 1) := by decide +kernel
theorem nD_UNI_isReady_0 : decode nC_UNI_isReady 0 = .ok (.aload_n 0, 1) := by decide +kernel
theorem nD_UNI_isReady_1 : decode nC_UNI_isReady 1 = .ok (.getfield 21, 3) := by decide +kernel
theorem nD_UNI_isReady_4 : decode nC_UNI_isReady 4 = .ok (.iconst 1, 1) := by decide +kernel
theorem nD_UNI_isReady_5 : decode nC_UNI_isReady 5 = .ok (.if_icmp .ne 27, 3) := by decide +kernel
theorem nD_UNI_isReady_8 : decode nC_UNI_isReady 8 = .ok (.aload_n 0, 1) := by decide +kernel
theorem nD_UNI_isReady_9 : decode nC_UNI_isReady 9 = .ok (.getfield 12, 3) := by decide +kernel
theorem nD_UNI_isReady_12 : decode nC_UNI_isReady 12 = .ok (.invokevirtual 25, 3) := by decide +kernel
theorem nD_UNI_isReady_15 : decode nC_UNI_isReady 15 = .ok (.ifCond .ne 17, 3) := by decide +kernel
theorem nD_UNI_isReady_18 : decode nC_UNI_isReady 18 = .ok (.aload_n 0, 1) := by decide +kernel
theorem nD_UNI_isReady_19 : decode nC_UNI_isReady 19 = .ok (.getfield 18, 3) := by decide +kernel
theorem nD_UNI_isReady_22 : decode nC_UNI_isReady 22 = .ok (.invokevirtual 25, 3) := by decide +kernel
theorem nD_UNI_isReady_25 : decode nC_UNI_isReady 25 = .ok (.ifCond .ne 7, 3) := by decide +kernel
theorem nD_UNI_isReady_28 : decode nC_UNI_isReady 28 = .ok (.iconst 1, 1) := by decide +kernel
theorem nD_UNI_isReady_29 : decode nC_UNI_isReady 29 = .ok (.goto 4, 3) := by decide +kernel
theorem nD_UNI_isReady_32 : decode nC_UNI_isReady 32 = .ok (.iconst 0, 1) := by decide +kernel
theorem nD_UNI_isReady_33 : decode nC_UNI_isReady 33 = .ok (.ireturn, 1) := by decide +kernel
theorem nD_UNI_claim_0 : decode nC_UNI_claim 0 = .ok (.aload_n 0, 1) := by decide +kernel
theorem nD_UNI_claim_1 : decode nC_UNI_claim 1 = .ok (.iconst 1, 1) := by decide +kernel
theorem nD_UNI_claim_2 : decode nC_UNI_claim 2 = .ok (.putfield 21, 3) := by decide +kernel
theorem nD_UNI_claim_5 : decode nC_UNI_claim 5 = .ok (.aload_n 0, 1) := by decide +kernel
theorem nD_UNI_claim_6 : decode nC_UNI_claim 6 = .ok (.iload_n 1, 1) := by decide +kernel
theorem nD_UNI_claim_7 : decode nC_UNI_claim 7 = .ok (.putfield 29, 3) := by decide +kernel
theorem nD_UNI_claim_10 : decode nC_UNI_claim 10 = .ok (.aload_n 0, 1) := by decide +kernel
theorem nD_UNI_claim_11 : decode nC_UNI_claim 11 = .ok (.iload_n 2, 1) := by decide +kernel
theorem nD_UNI_claim_12 : decode nC_UNI_claim 12 = .ok (.putfield 32, 3) := by decide +kernel
theorem nD_UNI_claim_15 : decode nC_UNI_claim 15 = .ok (.aload_n 0, 1) := by decide +kernel
theorem nD_UNI_claim_16 : decode nC_UNI_claim 16 = .ok (.iload_n 3, 1) := by decide +kernel
theorem nD_UNI_claim_17 : decode nC_UNI_claim 17 = .ok (.putfield 35, 3) := by decide +kernel
theorem nD_UNI_claim_20 : decode nC_UNI_claim 20 = .ok (.return_, 1) := by decide +kernel
theorem nD_UNI_begin_0 : decode nC_UNI_begin 0 = .ok (.aload_n 0, 1) := by decide +kernel
theorem nD_UNI_begin_1 : decode nC_UNI_begin 1 = .ok (.iconst 2, 1) := by decide +kernel
theorem nD_UNI_begin_2 : decode nC_UNI_begin 2 = .ok (.putfield 21, 3) := by decide +kernel
theorem nD_UNI_begin_5 : decode nC_UNI_begin 5 = .ok (.aload_n 0, 1) := by decide +kernel
theorem nD_UNI_begin_6 : decode nC_UNI_begin 6 = .ok (.iload_n 1, 1) := by decide +kernel
theorem nD_UNI_begin_7 : decode nC_UNI_begin 7 = .ok (.putfield 38, 3) := by decide +kernel
theorem nD_UNI_begin_10 : decode nC_UNI_begin 10 = .ok (.aload_n 0, 1) := by decide +kernel
theorem nD_UNI_begin_11 : decode nC_UNI_begin 11 = .ok (.iload_n 2, 1) := by decide +kernel
theorem nD_UNI_begin_12 : decode nC_UNI_begin 12 = .ok (.putfield 41, 3) := by decide +kernel
theorem nD_UNI_begin_15 : decode nC_UNI_begin 15 = .ok (.aload_n 0, 1) := by decide +kernel
theorem nD_UNI_begin_16 : decode nC_UNI_begin 16 = .ok (.iload_n 3, 1) := by decide +kernel
theorem nD_UNI_begin_17 : decode nC_UNI_begin 17 = .ok (.putfield 44, 3) := by decide +kernel
theorem nD_UNI_begin_20 : decode nC_UNI_begin 20 = .ok (.return_, 1) := by decide +kernel
theorem nD_UNI_hear_0 : decode nC_UNI_hear 0 = .ok (.aload_n 0, 1) := by decide +kernel
theorem nD_UNI_hear_1 : decode nC_UNI_hear 1 = .ok (.getfield 12, 3) := by decide +kernel
theorem nD_UNI_hear_4 : decode nC_UNI_hear 4 = .ok (.iload_n 1, 1) := by decide +kernel
theorem nD_UNI_hear_5 : decode nC_UNI_hear 5 = .ok (.iload_n 2, 1) := by decide +kernel
theorem nD_UNI_hear_6 : decode nC_UNI_hear 6 = .ok (.invokevirtual 47, 3) := by decide +kernel
theorem nD_UNI_hear_9 : decode nC_UNI_hear 9 = .ok (.aload_n 0, 1) := by decide +kernel
theorem nD_UNI_hear_10 : decode nC_UNI_hear 10 = .ok (.getfield 18, 3) := by decide +kernel
theorem nD_UNI_hear_13 : decode nC_UNI_hear 13 = .ok (.iload_n 1, 1) := by decide +kernel
theorem nD_UNI_hear_14 : decode nC_UNI_hear 14 = .ok (.iload_n 2, 1) := by decide +kernel
theorem nD_UNI_hear_15 : decode nC_UNI_hear 15 = .ok (.invokevirtual 47, 3) := by decide +kernel
theorem nD_UNI_hear_18 : decode nC_UNI_hear 18 = .ok (.return_, 1) := by decide +kernel
