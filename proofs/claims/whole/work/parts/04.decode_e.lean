-- decode rows (written by program)
theorem nD_MOD_work_0 : decode nC_MOD_work 0 = .ok (.iconst 1, 1) := by decide +kernel
theorem nD_MOD_work_1 : decode nC_MOD_work 1 = .ok (.istore_n 1, 1) := by decide +kernel
theorem nD_MOD_work_2 : decode nC_MOD_work 2 = .ok (.iload_n 1, 1) := by decide +kernel
theorem nD_MOD_work_3 : decode nC_MOD_work 3 = .ok (.bipush 13, 2) := by decide +kernel
theorem nD_MOD_work_5 : decode nC_MOD_work 5 = .ok (.if_icmp .ge 43, 3) := by decide +kernel
theorem nD_MOD_work_8 : decode nC_MOD_work 8 = .ok (.aload_n 0, 1) := by decide +kernel
theorem nD_MOD_work_9 : decode nC_MOD_work 9 = .ok (.getfield 41, 3) := by decide +kernel
theorem nD_MOD_work_12 : decode nC_MOD_work 12 = .ok (.iload_n 1, 1) := by decide +kernel
theorem nD_MOD_work_13 : decode nC_MOD_work 13 = .ok (.iaload, 1) := by decide +kernel
theorem nD_MOD_work_14 : decode nC_MOD_work 14 = .ok (.iconst 2, 1) := by decide +kernel
theorem nD_MOD_work_15 : decode nC_MOD_work 15 = .ok (.if_icmp .ne 27, 3) := by decide +kernel
theorem nD_MOD_work_18 : decode nC_MOD_work 18 = .ok (.aload_n 0, 1) := by decide +kernel
theorem nD_MOD_work_19 : decode nC_MOD_work 19 = .ok (.getfield 47, 3) := by decide +kernel
theorem nD_MOD_work_22 : decode nC_MOD_work 22 = .ok (.iload_n 1, 1) := by decide +kernel
theorem nD_MOD_work_23 : decode nC_MOD_work 23 = .ok (.dup2, 1) := by decide +kernel
theorem nD_MOD_work_24 : decode nC_MOD_work 24 = .ok (.iaload, 1) := by decide +kernel
theorem nD_MOD_work_25 : decode nC_MOD_work 25 = .ok (.iconst 1, 1) := by decide +kernel
theorem nD_MOD_work_26 : decode nC_MOD_work 26 = .ok (.isub, 1) := by decide +kernel
theorem nD_MOD_work_27 : decode nC_MOD_work 27 = .ok (.iastore, 1) := by decide +kernel
theorem nD_MOD_work_28 : decode nC_MOD_work 28 = .ok (.aload_n 0, 1) := by decide +kernel
theorem nD_MOD_work_29 : decode nC_MOD_work 29 = .ok (.getfield 47, 3) := by decide +kernel
theorem nD_MOD_work_32 : decode nC_MOD_work 32 = .ok (.iload_n 1, 1) := by decide +kernel
theorem nD_MOD_work_33 : decode nC_MOD_work 33 = .ok (.iaload, 1) := by decide +kernel
theorem nD_MOD_work_34 : decode nC_MOD_work 34 = .ok (.ifCond .ne 8, 3) := by decide +kernel
theorem nD_MOD_work_37 : decode nC_MOD_work 37 = .ok (.aload_n 0, 1) := by decide +kernel
theorem nD_MOD_work_38 : decode nC_MOD_work 38 = .ok (.iload_n 1, 1) := by decide +kernel
theorem nD_MOD_work_39 : decode nC_MOD_work 39 = .ok (.invokevirtual 167, 3) := by decide +kernel
theorem nD_MOD_work_42 : decode nC_MOD_work 42 = .ok (.iinc 1 1, 3) := by decide +kernel
theorem nD_MOD_work_45 : decode nC_MOD_work 45 = .ok (.goto (-43), 3) := by decide +kernel
theorem nD_MOD_work_48 : decode nC_MOD_work 48 = .ok (.return_, 1) := by decide +kernel
theorem nD_MOD_ends_0 : decode nC_MOD_ends 0 = .ok (.aload_n 0, 1) := by decide +kernel
theorem nD_MOD_ends_1 : decode nC_MOD_ends 1 = .ok (.getfield 41, 3) := by decide +kernel
theorem nD_MOD_ends_4 : decode nC_MOD_ends 4 = .ok (.iload_n 1, 1) := by decide +kernel
theorem nD_MOD_ends_5 : decode nC_MOD_ends 5 = .ok (.iload_n 1, 1) := by decide +kernel
theorem nD_MOD_ends_6 : decode nC_MOD_ends 6 = .ok (.bipush 9, 2) := by decide +kernel
theorem nD_MOD_ends_8 : decode nC_MOD_ends 8 = .ok (.if_icmp .le 7, 3) := by decide +kernel
theorem nD_MOD_ends_11 : decode nC_MOD_ends 11 = .ok (.iconst 0, 1) := by decide +kernel
theorem nD_MOD_ends_12 : decode nC_MOD_ends 12 = .ok (.goto 4, 3) := by decide +kernel
theorem nD_MOD_ends_15 : decode nC_MOD_ends 15 = .ok (.iconst 3, 1) := by decide +kernel
theorem nD_MOD_ends_16 : decode nC_MOD_ends 16 = .ok (.iastore, 1) := by decide +kernel
theorem nD_MOD_ends_17 : decode nC_MOD_ends 17 = .ok (.iload_n 1, 1) := by decide +kernel
theorem nD_MOD_ends_18 : decode nC_MOD_ends 18 = .ok (.iconst 5, 1) := by decide +kernel
theorem nD_MOD_ends_19 : decode nC_MOD_ends 19 = .ok (.if_icmp .le 20, 3) := by decide +kernel
theorem nD_MOD_ends_22 : decode nC_MOD_ends 22 = .ok (.aload_n 0, 1) := by decide +kernel
theorem nD_MOD_ends_23 : decode nC_MOD_ends 23 = .ok (.getfield 68, 3) := by decide +kernel
theorem nD_MOD_ends_26 : decode nC_MOD_ends 26 = .ok (.aload_n 0, 1) := by decide +kernel
theorem nD_MOD_ends_27 : decode nC_MOD_ends 27 = .ok (.getfield 62, 3) := by decide +kernel
theorem nD_MOD_ends_30 : decode nC_MOD_ends 30 = .ok (.iload_n 1, 1) := by decide +kernel
theorem nD_MOD_ends_31 : decode nC_MOD_ends 31 = .ok (.iaload, 1) := by decide +kernel
theorem nD_MOD_ends_32 : decode nC_MOD_ends 32 = .ok (.aload_n 0, 1) := by decide +kernel
theorem nD_MOD_ends_33 : decode nC_MOD_ends 33 = .ok (.getfield 72, 3) := by decide +kernel
theorem nD_MOD_ends_36 : decode nC_MOD_ends 36 = .ok (.irem, 1) := by decide +kernel
theorem nD_MOD_ends_37 : decode nC_MOD_ends 37 = .ok (.iconst 0, 1) := by decide +kernel
theorem nD_MOD_ends_38 : decode nC_MOD_ends 38 = .ok (.bastore, 1) := by decide +kernel
theorem nD_MOD_ends_39 : decode nC_MOD_ends 39 = .ok (.iload_n 1, 1) := by decide +kernel
theorem nD_MOD_ends_40 : decode nC_MOD_ends 40 = .ok (.bipush 9, 2) := by decide +kernel
theorem nD_MOD_ends_42 : decode nC_MOD_ends 42 = .ok (.if_icmp .le 22, 3) := by decide +kernel
theorem nD_MOD_ends_45 : decode nC_MOD_ends 45 = .ok (.aload_n 0, 1) := by decide +kernel
theorem nD_MOD_ends_46 : decode nC_MOD_ends 46 = .ok (.getfield 38, 3) := by decide +kernel
theorem nD_MOD_ends_49 : decode nC_MOD_ends 49 = .ok (.aload_n 0, 1) := by decide +kernel
theorem nD_MOD_ends_50 : decode nC_MOD_ends 50 = .ok (.getfield 62, 3) := by decide +kernel
theorem nD_MOD_ends_53 : decode nC_MOD_ends 53 = .ok (.iload_n 1, 1) := by decide +kernel
theorem nD_MOD_ends_54 : decode nC_MOD_ends 54 = .ok (.iaload, 1) := by decide +kernel
theorem nD_MOD_ends_55 : decode nC_MOD_ends 55 = .ok (.aload_n 0, 1) := by decide +kernel
theorem nD_MOD_ends_56 : decode nC_MOD_ends 56 = .ok (.getfield 56, 3) := by decide +kernel
theorem nD_MOD_ends_59 : decode nC_MOD_ends 59 = .ok (.iconst 2, 1) := by decide +kernel
theorem nD_MOD_ends_60 : decode nC_MOD_ends 60 = .ok (.iload_n 1, 1) := by decide +kernel
theorem nD_MOD_ends_61 : decode nC_MOD_ends 61 = .ok (.imul, 1) := by decide +kernel
theorem nD_MOD_ends_62 : decode nC_MOD_ends 62 = .ok (.iaload, 1) := by decide +kernel
theorem nD_MOD_ends_63 : decode nC_MOD_ends 63 = .ok (.iastore, 1) := by decide +kernel
theorem nD_MOD_ends_64 : decode nC_MOD_ends 64 = .ok (.return_, 1) := by decide +kernel
theorem nD_MOD_ready_0 : decode nC_MOD_ready 0 = .ok (.aload_n 0, 1) := by decide +kernel
theorem nD_MOD_ready_1 : decode nC_MOD_ready 1 = .ok (.getfield 41, 3) := by decide +kernel
theorem nD_MOD_ready_4 : decode nC_MOD_ready 4 = .ok (.iload_n 1, 1) := by decide +kernel
theorem nD_MOD_ready_5 : decode nC_MOD_ready 5 = .ok (.iaload, 1) := by decide +kernel
theorem nD_MOD_ready_6 : decode nC_MOD_ready 6 = .ok (.iconst 1, 1) := by decide +kernel
theorem nD_MOD_ready_7 : decode nC_MOD_ready 7 = .ok (.if_icmp .ne 37, 3) := by decide +kernel
theorem nD_MOD_ready_10 : decode nC_MOD_ready 10 = .ok (.aload_n 0, 1) := by decide +kernel
theorem nD_MOD_ready_11 : decode nC_MOD_ready 11 = .ok (.getfield 59, 3) := by decide +kernel
theorem nD_MOD_ready_14 : decode nC_MOD_ready 14 = .ok (.iconst 2, 1) := by decide +kernel
theorem nD_MOD_ready_15 : decode nC_MOD_ready 15 = .ok (.iload_n 1, 1) := by decide +kernel
theorem nD_MOD_ready_16 : decode nC_MOD_ready 16 = .ok (.imul, 1) := by decide +kernel
theorem nD_MOD_ready_17 : decode nC_MOD_ready 17 = .ok (.iaload, 1) := by decide +kernel
theorem nD_MOD_ready_18 : decode nC_MOD_ready 18 = .ok (.ifCond .ne 26, 3) := by decide +kernel
theorem nD_MOD_ready_21 : decode nC_MOD_ready 21 = .ok (.iload_n 1, 1) := by decide +kernel
theorem nD_MOD_ready_22 : decode nC_MOD_ready 22 = .ok (.bipush 9, 2) := by decide +kernel
theorem nD_MOD_ready_24 : decode nC_MOD_ready 24 = .ok (.if_icmp .gt 16, 3) := by decide +kernel
theorem nD_MOD_ready_27 : decode nC_MOD_ready 27 = .ok (.aload_n 0, 1) := by decide +kernel
theorem nD_MOD_ready_28 : decode nC_MOD_ready 28 = .ok (.getfield 59, 3) := by decide +kernel
theorem nD_MOD_ready_31 : decode nC_MOD_ready 31 = .ok (.iconst 2, 1) := by decide +kernel
theorem nD_MOD_ready_32 : decode nC_MOD_ready 32 = .ok (.iload_n 1, 1) := by decide +kernel
theorem nD_MOD_ready_33 : decode nC_MOD_ready 33 = .ok (.imul, 1) := by decide +kernel
theorem nD_MOD_ready_34 : decode nC_MOD_ready 34 = .ok (.iconst 1, 1) := by decide +kernel
theorem nD_MOD_ready_35 : decode nC_MOD_ready 35 = .ok (.iadd, 1) := by decide +kernel
theorem nD_MOD_ready_36 : decode nC_MOD_ready 36 = .ok (.iaload, 1) := by decide +kernel
theorem nD_MOD_ready_37 : decode nC_MOD_ready 37 = .ok (.ifCond .ne 7, 3) := by decide +kernel
theorem nD_MOD_ready_40 : decode nC_MOD_ready 40 = .ok (.iconst 1, 1) := by decide +kernel
theorem nD_MOD_ready_41 : decode nC_MOD_ready 41 = .ok (.goto 4, 3) := by decide +kernel
theorem nD_MOD_ready_44 : decode nC_MOD_ready 44 = .ok (.iconst 0, 1) := by decide +kernel
theorem nD_MOD_ready_45 : decode nC_MOD_ready 45 = .ok (.ireturn, 1) := by decide +kernel
theorem nD_MOD_begins_0 : decode nC_MOD_begins 0 = .ok (.aload_n 0, 1) := by decide +kernel
theorem nD_MOD_begins_1 : decode nC_MOD_begins 1 = .ok (.getfield 44, 3) := by decide +kernel
theorem nD_MOD_begins_4 : decode nC_MOD_begins 4 = .ok (.iload_n 1, 1) := by decide +kernel
theorem nD_MOD_begins_5 : decode nC_MOD_begins 5 = .ok (.iaload, 1) := by decide +kernel
theorem nD_MOD_begins_6 : decode nC_MOD_begins 6 = .ok (.istore_n 3, 1) := by decide +kernel
theorem nD_MOD_begins_7 : decode nC_MOD_begins 7 = .ok (.iload_n 3, 1) := by decide +kernel
theorem nD_MOD_begins_8 : decode nC_MOD_begins 8 = .ok (.iconst 2, 1) := by decide +kernel
theorem nD_MOD_begins_9 : decode nC_MOD_begins 9 = .ok (.if_icmp .ne 7, 3) := by decide +kernel
theorem nD_MOD_begins_12 : decode nC_MOD_begins 12 = .ok (.iconst 0, 1) := by decide +kernel
theorem nD_MOD_begins_13 : decode nC_MOD_begins 13 = .ok (.goto 31, 3) := by decide +kernel
theorem nD_MOD_begins_16 : decode nC_MOD_begins 16 = .ok (.iload_n 3, 1) := by decide +kernel
theorem nD_MOD_begins_17 : decode nC_MOD_begins 17 = .ok (.iconst 3, 1) := by decide +kernel
theorem nD_MOD_begins_18 : decode nC_MOD_begins 18 = .ok (.if_icmp .ne 7, 3) := by decide +kernel
theorem nD_MOD_begins_21 : decode nC_MOD_begins 21 = .ok (.iconst 1, 1) := by decide +kernel
theorem nD_MOD_begins_22 : decode nC_MOD_begins 22 = .ok (.goto 22, 3) := by decide +kernel
theorem nD_MOD_begins_25 : decode nC_MOD_begins 25 = .ok (.iload_n 3, 1) := by decide +kernel
theorem nD_MOD_begins_26 : decode nC_MOD_begins 26 = .ok (.iconst 4, 1) := by decide +kernel
theorem nD_MOD_begins_27 : decode nC_MOD_begins 27 = .ok (.if_icmp .ne 7, 3) := by decide +kernel
theorem nD_MOD_begins_30 : decode nC_MOD_begins 30 = .ok (.iconst 2, 1) := by decide +kernel
theorem nD_MOD_begins_31 : decode nC_MOD_begins 31 = .ok (.goto 13, 3) := by decide +kernel
theorem nD_MOD_begins_34 : decode nC_MOD_begins 34 = .ok (.iload_n 3, 1) := by decide +kernel
theorem nD_MOD_begins_35 : decode nC_MOD_begins 35 = .ok (.iconst 5, 1) := by decide +kernel
theorem nD_MOD_begins_36 : decode nC_MOD_begins 36 = .ok (.if_icmp .ne 7, 3) := by decide +kernel
theorem nD_MOD_begins_39 : decode nC_MOD_begins 39 = .ok (.iconst 3, 1) := by decide +kernel
theorem nD_MOD_begins_40 : decode nC_MOD_begins 40 = .ok (.goto 4, 3) := by decide +kernel
theorem nD_MOD_begins_43 : decode nC_MOD_begins 43 = .ok (.iconst 4, 1) := by decide +kernel
theorem nD_MOD_begins_44 : decode nC_MOD_begins 44 = .ok (.istore 4, 2) := by decide +kernel
theorem nD_MOD_begins_46 : decode nC_MOD_begins 46 = .ok (.aload_n 0, 1) := by decide +kernel
theorem nD_MOD_begins_47 : decode nC_MOD_begins 47 = .ok (.iload 4, 2) := by decide +kernel
theorem nD_MOD_begins_49 : decode nC_MOD_begins 49 = .ok (.aload_n 0, 1) := by decide +kernel
theorem nD_MOD_begins_50 : decode nC_MOD_begins 50 = .ok (.getfield 56, 3) := by decide +kernel
theorem nD_MOD_begins_53 : decode nC_MOD_begins 53 = .ok (.iconst 2, 1) := by decide +kernel
theorem nD_MOD_begins_54 : decode nC_MOD_begins 54 = .ok (.iload_n 1, 1) := by decide +kernel
theorem nD_MOD_begins_55 : decode nC_MOD_begins 55 = .ok (.imul, 1) := by decide +kernel
theorem nD_MOD_begins_56 : decode nC_MOD_begins 56 = .ok (.iaload, 1) := by decide +kernel
theorem nD_MOD_begins_57 : decode nC_MOD_begins 57 = .ok (.aload_n 0, 1) := by decide +kernel
theorem nD_MOD_begins_58 : decode nC_MOD_begins 58 = .ok (.getfield 56, 3) := by decide +kernel
theorem nD_MOD_begins_61 : decode nC_MOD_begins 61 = .ok (.iconst 2, 1) := by decide +kernel
theorem nD_MOD_begins_62 : decode nC_MOD_begins 62 = .ok (.iload_n 1, 1) := by decide +kernel
theorem nD_MOD_begins_63 : decode nC_MOD_begins 63 = .ok (.imul, 1) := by decide +kernel
theorem nD_MOD_begins_64 : decode nC_MOD_begins 64 = .ok (.iconst 1, 1) := by decide +kernel
theorem nD_MOD_begins_65 : decode nC_MOD_begins 65 = .ok (.iadd, 1) := by decide +kernel
theorem nD_MOD_begins_66 : decode nC_MOD_begins 66 = .ok (.iaload, 1) := by decide +kernel
theorem nD_MOD_begins_67 : decode nC_MOD_begins 67 = .ok (.invokevirtual 141, 3) := by decide +kernel
theorem nD_MOD_begins_70 : decode nC_MOD_begins 70 = .ok (.istore 5, 2) := by decide +kernel
theorem nD_MOD_begins_72 : decode nC_MOD_begins 72 = .ok (.aload_n 0, 1) := by decide +kernel
theorem nD_MOD_begins_73 : decode nC_MOD_begins 73 = .ok (.getfield 50, 3) := by decide +kernel
theorem nD_MOD_begins_76 : decode nC_MOD_begins 76 = .ok (.iload_n 1, 1) := by decide +kernel
theorem nD_MOD_begins_77 : decode nC_MOD_begins 77 = .ok (.iload 5, 2) := by decide +kernel
theorem nD_MOD_begins_79 : decode nC_MOD_begins 79 = .ok (.iastore, 1) := by decide +kernel
theorem nD_MOD_begins_80 : decode nC_MOD_begins 80 = .ok (.aload_n 0, 1) := by decide +kernel
theorem nD_MOD_begins_81 : decode nC_MOD_begins 81 = .ok (.getfield 53, 3) := by decide +kernel
theorem nD_MOD_begins_84 : decode nC_MOD_begins 84 = .ok (.iload_n 1, 1) := by decide +kernel
theorem nD_MOD_begins_85 : decode nC_MOD_begins 85 = .ok (.aload_n 0, 1) := by decide +kernel
theorem nD_MOD_begins_86 : decode nC_MOD_begins 86 = .ok (.getfield 86, 3) := by decide +kernel
theorem nD_MOD_begins_89 : decode nC_MOD_begins 89 = .ok (.iastore, 1) := by decide +kernel
theorem nD_MOD_begins_90 : decode nC_MOD_begins 90 = .ok (.aload_n 0, 1) := by decide +kernel
theorem nD_MOD_begins_91 : decode nC_MOD_begins 91 = .ok (.getfield 41, 3) := by decide +kernel
theorem nD_MOD_begins_94 : decode nC_MOD_begins 94 = .ok (.iload_n 1, 1) := by decide +kernel
theorem nD_MOD_begins_95 : decode nC_MOD_begins 95 = .ok (.iconst 2, 1) := by decide +kernel
theorem nD_MOD_begins_96 : decode nC_MOD_begins 96 = .ok (.iastore, 1) := by decide +kernel
theorem nD_MOD_begins_97 : decode nC_MOD_begins 97 = .ok (.aload_n 0, 1) := by decide +kernel
theorem nD_MOD_begins_98 : decode nC_MOD_begins 98 = .ok (.getfield 47, 3) := by decide +kernel
theorem nD_MOD_begins_101 : decode nC_MOD_begins 101 = .ok (.iload_n 1, 1) := by decide +kernel
theorem nD_MOD_begins_102 : decode nC_MOD_begins 102 = .ok (.iload_n 2, 1) := by decide +kernel
theorem nD_MOD_begins_103 : decode nC_MOD_begins 103 = .ok (.iastore, 1) := by decide +kernel
theorem nD_MOD_begins_104 : decode nC_MOD_begins 104 = .ok (.return_, 1) := by decide +kernel
theorem nD_MOD_begin_0 : decode nC_MOD_begin 0 = .ok (.aload_n 0, 1) := by decide +kernel
theorem nD_MOD_begin_1 : decode nC_MOD_begin 1 = .ok (.iconst 1, 1) := by decide +kernel
theorem nD_MOD_begin_2 : decode nC_MOD_begin 2 = .ok (.invokevirtual 171, 3) := by decide +kernel
theorem nD_MOD_begin_5 : decode nC_MOD_begin 5 = .ok (.ifCond .eq 7, 3) := by decide +kernel
theorem nD_MOD_begin_8 : decode nC_MOD_begin 8 = .ok (.iconst 1, 1) := by decide +kernel
theorem nD_MOD_begin_9 : decode nC_MOD_begin 9 = .ok (.goto 28, 3) := by decide +kernel
theorem nD_MOD_begin_12 : decode nC_MOD_begin 12 = .ok (.aload_n 0, 1) := by decide +kernel
theorem nD_MOD_begin_13 : decode nC_MOD_begin 13 = .ok (.iconst 2, 1) := by decide +kernel
theorem nD_MOD_begin_14 : decode nC_MOD_begin 14 = .ok (.invokevirtual 171, 3) := by decide +kernel
theorem nD_MOD_begin_17 : decode nC_MOD_begin 17 = .ok (.ifCond .eq 7, 3) := by decide +kernel
theorem nD_MOD_begin_20 : decode nC_MOD_begin 20 = .ok (.iconst 2, 1) := by decide +kernel
theorem nD_MOD_begin_21 : decode nC_MOD_begin 21 = .ok (.goto 16, 3) := by decide +kernel
theorem nD_MOD_begin_24 : decode nC_MOD_begin 24 = .ok (.aload_n 0, 1) := by decide +kernel
theorem nD_MOD_begin_25 : decode nC_MOD_begin 25 = .ok (.iconst 3, 1) := by decide +kernel
theorem nD_MOD_begin_26 : decode nC_MOD_begin 26 = .ok (.invokevirtual 171, 3) := by decide +kernel
theorem nD_MOD_begin_29 : decode nC_MOD_begin 29 = .ok (.ifCond .eq 7, 3) := by decide +kernel
theorem nD_MOD_begin_32 : decode nC_MOD_begin 32 = .ok (.iconst 3, 1) := by decide +kernel
theorem nD_MOD_begin_33 : decode nC_MOD_begin 33 = .ok (.goto 4, 3) := by decide +kernel
theorem nD_MOD_begin_36 : decode nC_MOD_begin 36 = .ok (.iconst 0, 1) := by decide +kernel
theorem nD_MOD_begin_37 : decode nC_MOD_begin 37 = .ok (.istore_n 1, 1) := by decide +kernel
theorem nD_MOD_begin_38 : decode nC_MOD_begin 38 = .ok (.iload_n 1, 1) := by decide +kernel
theorem nD_MOD_begin_39 : decode nC_MOD_begin 39 = .ok (.ifCond .le 9, 3) := by decide +kernel
theorem nD_MOD_begin_42 : decode nC_MOD_begin 42 = .ok (.aload_n 0, 1) := by decide +kernel
theorem nD_MOD_begin_43 : decode nC_MOD_begin 43 = .ok (.iload_n 1, 1) := by decide +kernel
theorem nD_MOD_begin_44 : decode nC_MOD_begin 44 = .ok (.iconst 2, 1) := by decide +kernel
theorem nD_MOD_begin_45 : decode nC_MOD_begin 45 = .ok (.invokevirtual 174, 3) := by decide +kernel
theorem nD_MOD_begin_48 : decode nC_MOD_begin 48 = .ok (.aload_n 0, 1) := by decide +kernel
theorem nD_MOD_begin_49 : decode nC_MOD_begin 49 = .ok (.getfield 41, 3) := by decide +kernel
theorem nD_MOD_begin_52 : decode nC_MOD_begin 52 = .ok (.iconst 4, 1) := by decide +kernel
theorem nD_MOD_begin_53 : decode nC_MOD_begin 53 = .ok (.iaload, 1) := by decide +kernel
theorem nD_MOD_begin_54 : decode nC_MOD_begin 54 = .ok (.iconst 2, 1) := by decide +kernel
theorem nD_MOD_begin_55 : decode nC_MOD_begin 55 = .ok (.if_icmp .eq 13, 3) := by decide +kernel
theorem nD_MOD_begin_58 : decode nC_MOD_begin 58 = .ok (.aload_n 0, 1) := by decide +kernel
theorem nD_MOD_begin_59 : decode nC_MOD_begin 59 = .ok (.getfield 41, 3) := by decide +kernel
theorem nD_MOD_begin_62 : decode nC_MOD_begin 62 = .ok (.iconst 5, 1) := by decide +kernel
theorem nD_MOD_begin_63 : decode nC_MOD_begin 63 = .ok (.iaload, 1) := by decide +kernel
theorem nD_MOD_begin_64 : decode nC_MOD_begin 64 = .ok (.iconst 2, 1) := by decide +kernel
theorem nD_MOD_begin_65 : decode nC_MOD_begin 65 = .ok (.if_icmp .ne 7, 3) := by decide +kernel
theorem nD_MOD_begin_68 : decode nC_MOD_begin 68 = .ok (.iconst 0, 1) := by decide +kernel
theorem nD_MOD_begin_69 : decode nC_MOD_begin 69 = .ok (.goto 28, 3) := by decide +kernel
theorem nD_MOD_begin_72 : decode nC_MOD_begin 72 = .ok (.aload_n 0, 1) := by decide +kernel
theorem nD_MOD_begin_73 : decode nC_MOD_begin 73 = .ok (.iconst 4, 1) := by decide +kernel
theorem nD_MOD_begin_74 : decode nC_MOD_begin 74 = .ok (.invokevirtual 171, 3) := by decide +kernel
theorem nD_MOD_begin_77 : decode nC_MOD_begin 77 = .ok (.ifCond .eq 7, 3) := by decide +kernel
theorem nD_MOD_begin_80 : decode nC_MOD_begin 80 = .ok (.iconst 4, 1) := by decide +kernel
theorem nD_MOD_begin_81 : decode nC_MOD_begin 81 = .ok (.goto 16, 3) := by decide +kernel
theorem nD_MOD_begin_84 : decode nC_MOD_begin 84 = .ok (.aload_n 0, 1) := by decide +kernel
theorem nD_MOD_begin_85 : decode nC_MOD_begin 85 = .ok (.iconst 5, 1) := by decide +kernel
theorem nD_MOD_begin_86 : decode nC_MOD_begin 86 = .ok (.invokevirtual 171, 3) := by decide +kernel
theorem nD_MOD_begin_89 : decode nC_MOD_begin 89 = .ok (.ifCond .eq 7, 3) := by decide +kernel
theorem nD_MOD_begin_92 : decode nC_MOD_begin 92 = .ok (.iconst 5, 1) := by decide +kernel
theorem nD_MOD_begin_93 : decode nC_MOD_begin 93 = .ok (.goto 4, 3) := by decide +kernel
theorem nD_MOD_begin_96 : decode nC_MOD_begin 96 = .ok (.iconst 0, 1) := by decide +kernel
theorem nD_MOD_begin_97 : decode nC_MOD_begin 97 = .ok (.istore_n 2, 1) := by decide +kernel
theorem nD_MOD_begin_98 : decode nC_MOD_begin 98 = .ok (.iload_n 2, 1) := by decide +kernel
theorem nD_MOD_begin_99 : decode nC_MOD_begin 99 = .ok (.ifCond .le 24, 3) := by decide +kernel
theorem nD_MOD_begin_102 : decode nC_MOD_begin 102 = .ok (.aload_n 0, 1) := by decide +kernel
theorem nD_MOD_begin_103 : decode nC_MOD_begin 103 = .ok (.iload_n 2, 1) := by decide +kernel
theorem nD_MOD_begin_104 : decode nC_MOD_begin 104 = .ok (.aload_n 0, 1) := by decide +kernel
theorem nD_MOD_begin_105 : decode nC_MOD_begin 105 = .ok (.getfield 44, 3) := by decide +kernel
theorem nD_MOD_begin_108 : decode nC_MOD_begin 108 = .ok (.iload_n 2, 1) := by decide +kernel
theorem nD_MOD_begin_109 : decode nC_MOD_begin 109 = .ok (.iaload, 1) := by decide +kernel
theorem nD_MOD_begin_110 : decode nC_MOD_begin 110 = .ok (.iconst 4, 1) := by decide +kernel
theorem nD_MOD_begin_111 : decode nC_MOD_begin 111 = .ok (.if_icmp .ne 7, 3) := by decide +kernel
theorem nD_MOD_begin_114 : decode nC_MOD_begin 114 = .ok (.iconst 4, 1) := by decide +kernel
theorem nD_MOD_begin_115 : decode nC_MOD_begin 115 = .ok (.goto 5, 3) := by decide +kernel
theorem nD_MOD_begin_118 : decode nC_MOD_begin 118 = .ok (.bipush 8, 2) := by decide +kernel
theorem nD_MOD_begin_120 : decode nC_MOD_begin 120 = .ok (.invokevirtual 174, 3) := by decide +kernel
theorem nD_MOD_begin_123 : decode nC_MOD_begin 123 = .ok (.iconst 0, 1) := by decide +kernel
theorem nD_MOD_begin_124 : decode nC_MOD_begin 124 = .ok (.istore_n 3, 1) := by decide +kernel
theorem nD_MOD_begin_125 : decode nC_MOD_begin 125 = .ok (.bipush 6, 2) := by decide +kernel
theorem nD_MOD_begin_127 : decode nC_MOD_begin 127 = .ok (.istore 4, 2) := by decide +kernel
theorem nD_MOD_begin_129 : decode nC_MOD_begin 129 = .ok (.iload 4, 2) := by decide +kernel
theorem nD_MOD_begin_131 : decode nC_MOD_begin 131 = .ok (.bipush 13, 2) := by decide +kernel
theorem nD_MOD_begin_133 : decode nC_MOD_begin 133 = .ok (.if_icmp .ge 98, 3) := by decide +kernel
theorem nD_MOD_begin_136 : decode nC_MOD_begin 136 = .ok (.aload_n 0, 1) := by decide +kernel
theorem nD_MOD_begin_137 : decode nC_MOD_begin 137 = .ok (.getfield 41, 3) := by decide +kernel
theorem nD_MOD_begin_140 : decode nC_MOD_begin 140 = .ok (.iload 4, 2) := by decide +kernel
theorem nD_MOD_begin_142 : decode nC_MOD_begin 142 = .ok (.iaload, 1) := by decide +kernel
theorem nD_MOD_begin_143 : decode nC_MOD_begin 143 = .ok (.iconst 1, 1) := by decide +kernel
theorem nD_MOD_begin_144 : decode nC_MOD_begin 144 = .ok (.if_icmp .ne 46, 3) := by decide +kernel
theorem nD_MOD_begin_147 : decode nC_MOD_begin 147 = .ok (.iload 4, 2) := by decide +kernel
theorem nD_MOD_begin_149 : decode nC_MOD_begin 149 = .ok (.bipush 10, 2) := by decide +kernel
theorem nD_MOD_begin_151 : decode nC_MOD_begin 151 = .ok (.if_icmp .lt 15, 3) := by decide +kernel
theorem nD_MOD_begin_154 : decode nC_MOD_begin 154 = .ok (.aload_n 0, 1) := by decide +kernel
theorem nD_MOD_begin_155 : decode nC_MOD_begin 155 = .ok (.getfield 59, 3) := by decide +kernel
theorem nD_MOD_begin_158 : decode nC_MOD_begin 158 = .ok (.iconst 2, 1) := by decide +kernel
theorem nD_MOD_begin_159 : decode nC_MOD_begin 159 = .ok (.iload 4, 2) := by decide +kernel
theorem nD_MOD_begin_161 : decode nC_MOD_begin 161 = .ok (.imul, 1) := by decide +kernel
theorem nD_MOD_begin_162 : decode nC_MOD_begin 162 = .ok (.iaload, 1) := by decide +kernel
theorem nD_MOD_begin_163 : decode nC_MOD_begin 163 = .ok (.ifCond .ne 27, 3) := by decide +kernel
theorem nD_MOD_begin_166 : decode nC_MOD_begin 166 = .ok (.aload_n 0, 1) := by decide +kernel
theorem nD_MOD_begin_167 : decode nC_MOD_begin 167 = .ok (.getfield 68, 3) := by decide +kernel
theorem nD_MOD_begin_170 : decode nC_MOD_begin 170 = .ok (.aload_n 0, 1) := by decide +kernel
theorem nD_MOD_begin_171 : decode nC_MOD_begin 171 = .ok (.getfield 62, 3) := by decide +kernel
theorem nD_MOD_begin_174 : decode nC_MOD_begin 174 = .ok (.iload 4, 2) := by decide +kernel
theorem nD_MOD_begin_176 : decode nC_MOD_begin 176 = .ok (.iaload, 1) := by decide +kernel
theorem nD_MOD_begin_177 : decode nC_MOD_begin 177 = .ok (.aload_n 0, 1) := by decide +kernel
theorem nD_MOD_begin_178 : decode nC_MOD_begin 178 = .ok (.getfield 72, 3) := by decide +kernel
theorem nD_MOD_begin_181 : decode nC_MOD_begin 181 = .ok (.irem, 1) := by decide +kernel
theorem nD_MOD_begin_182 : decode nC_MOD_begin 182 = .ok (.baload, 1) := by decide +kernel
theorem nD_MOD_begin_183 : decode nC_MOD_begin 183 = .ok (.ifCond .ne 7, 3) := by decide +kernel
theorem nD_MOD_begin_186 : decode nC_MOD_begin 186 = .ok (.iconst 1, 1) := by decide +kernel
theorem nD_MOD_begin_187 : decode nC_MOD_begin 187 = .ok (.goto 4, 3) := by decide +kernel
theorem nD_MOD_begin_190 : decode nC_MOD_begin 190 = .ok (.iconst 0, 1) := by decide +kernel
theorem nD_MOD_begin_191 : decode nC_MOD_begin 191 = .ok (.istore 5, 2) := by decide +kernel
theorem nD_MOD_begin_193 : decode nC_MOD_begin 193 = .ok (.iload 5, 2) := by decide +kernel
theorem nD_MOD_begin_195 : decode nC_MOD_begin 195 = .ok (.ifCond .eq 28, 3) := by decide +kernel
theorem nD_MOD_begin_198 : decode nC_MOD_begin 198 = .ok (.iload_n 3, 1) := by decide +kernel
theorem nD_MOD_begin_199 : decode nC_MOD_begin 199 = .ok (.ifCond .eq 19, 3) := by decide +kernel
theorem nD_MOD_begin_202 : decode nC_MOD_begin 202 = .ok (.aload_n 0, 1) := by decide +kernel
theorem nD_MOD_begin_203 : decode nC_MOD_begin 203 = .ok (.getfield 65, 3) := by decide +kernel
theorem nD_MOD_begin_206 : decode nC_MOD_begin 206 = .ok (.iload 4, 2) := by decide +kernel
theorem nD_MOD_begin_208 : decode nC_MOD_begin 208 = .ok (.iaload, 1) := by decide +kernel
theorem nD_MOD_begin_209 : decode nC_MOD_begin 209 = .ok (.aload_n 0, 1) := by decide +kernel
theorem nD_MOD_begin_210 : decode nC_MOD_begin 210 = .ok (.getfield 65, 3) := by decide +kernel
theorem nD_MOD_begin_213 : decode nC_MOD_begin 213 = .ok (.iload_n 3, 1) := by decide +kernel
theorem nD_MOD_begin_214 : decode nC_MOD_begin 214 = .ok (.iaload, 1) := by decide +kernel
theorem nD_MOD_begin_215 : decode nC_MOD_begin 215 = .ok (.if_icmp .ge 8, 3) := by decide +kernel
theorem nD_MOD_begin_218 : decode nC_MOD_begin 218 = .ok (.iload 4, 2) := by decide +kernel
theorem nD_MOD_begin_220 : decode nC_MOD_begin 220 = .ok (.goto 4, 3) := by decide +kernel
theorem nD_MOD_begin_223 : decode nC_MOD_begin 223 = .ok (.iload_n 3, 1) := by decide +kernel
theorem nD_MOD_begin_224 : decode nC_MOD_begin 224 = .ok (.istore_n 3, 1) := by decide +kernel
theorem nD_MOD_begin_225 : decode nC_MOD_begin 225 = .ok (.iinc 4 1, 3) := by decide +kernel
theorem nD_MOD_begin_228 : decode nC_MOD_begin 228 = .ok (.goto (-99), 3) := by decide +kernel
theorem nD_MOD_begin_231 : decode nC_MOD_begin 231 = .ok (.iload_n 3, 1) := by decide +kernel
theorem nD_MOD_begin_232 : decode nC_MOD_begin 232 = .ok (.ifCond .le 71, 3) := by decide +kernel
theorem nD_MOD_begin_235 : decode nC_MOD_begin 235 = .ok (.aload_n 0, 1) := by decide +kernel
theorem nD_MOD_begin_236 : decode nC_MOD_begin 236 = .ok (.getfield 68, 3) := by decide +kernel
theorem nD_MOD_begin_239 : decode nC_MOD_begin 239 = .ok (.aload_n 0, 1) := by decide +kernel
theorem nD_MOD_begin_240 : decode nC_MOD_begin 240 = .ok (.getfield 62, 3) := by decide +kernel
theorem nD_MOD_begin_243 : decode nC_MOD_begin 243 = .ok (.iload_n 3, 1) := by decide +kernel
theorem nD_MOD_begin_244 : decode nC_MOD_begin 244 = .ok (.iaload, 1) := by decide +kernel
theorem nD_MOD_begin_245 : decode nC_MOD_begin 245 = .ok (.aload_n 0, 1) := by decide +kernel
theorem nD_MOD_begin_246 : decode nC_MOD_begin 246 = .ok (.getfield 72, 3) := by decide +kernel
theorem nD_MOD_begin_249 : decode nC_MOD_begin 249 = .ok (.irem, 1) := by decide +kernel
theorem nD_MOD_begin_250 : decode nC_MOD_begin 250 = .ok (.iconst 1, 1) := by decide +kernel
theorem nD_MOD_begin_251 : decode nC_MOD_begin 251 = .ok (.bastore, 1) := by decide +kernel
theorem nD_MOD_begin_252 : decode nC_MOD_begin 252 = .ok (.aload_n 0, 1) := by decide +kernel
theorem nD_MOD_begin_253 : decode nC_MOD_begin 253 = .ok (.getfield 41, 3) := by decide +kernel
theorem nD_MOD_begin_256 : decode nC_MOD_begin 256 = .ok (.iload_n 3, 1) := by decide +kernel
theorem nD_MOD_begin_257 : decode nC_MOD_begin 257 = .ok (.iconst 2, 1) := by decide +kernel
theorem nD_MOD_begin_258 : decode nC_MOD_begin 258 = .ok (.iastore, 1) := by decide +kernel
theorem nD_MOD_begin_259 : decode nC_MOD_begin 259 = .ok (.aload_n 0, 1) := by decide +kernel
theorem nD_MOD_begin_260 : decode nC_MOD_begin 260 = .ok (.getfield 47, 3) := by decide +kernel
theorem nD_MOD_begin_263 : decode nC_MOD_begin 263 = .ok (.iload_n 3, 1) := by decide +kernel
theorem nD_MOD_begin_264 : decode nC_MOD_begin 264 = .ok (.aload_n 0, 1) := by decide +kernel
theorem nD_MOD_begin_265 : decode nC_MOD_begin 265 = .ok (.getfield 75, 3) := by decide +kernel
theorem nD_MOD_begin_268 : decode nC_MOD_begin 268 = .ok (.iastore, 1) := by decide +kernel
theorem nD_MOD_begin_269 : decode nC_MOD_begin 269 = .ok (.aload_n 0, 1) := by decide +kernel
theorem nD_MOD_begin_270 : decode nC_MOD_begin 270 = .ok (.getfield 50, 3) := by decide +kernel
theorem nD_MOD_begin_273 : decode nC_MOD_begin 273 = .ok (.iload_n 3, 1) := by decide +kernel
theorem nD_MOD_begin_274 : decode nC_MOD_begin 274 = .ok (.iload_n 3, 1) := by decide +kernel
theorem nD_MOD_begin_275 : decode nC_MOD_begin 275 = .ok (.bipush 10, 2) := by decide +kernel
theorem nD_MOD_begin_277 : decode nC_MOD_begin 277 = .ok (.if_icmp .ge 17, 3) := by decide +kernel
theorem nD_MOD_begin_280 : decode nC_MOD_begin 280 = .ok (.aload_n 0, 1) := by decide +kernel
theorem nD_MOD_begin_281 : decode nC_MOD_begin 281 = .ok (.getfield 38, 3) := by decide +kernel
theorem nD_MOD_begin_284 : decode nC_MOD_begin 284 = .ok (.aload_n 0, 1) := by decide +kernel
theorem nD_MOD_begin_285 : decode nC_MOD_begin 285 = .ok (.getfield 62, 3) := by decide +kernel
theorem nD_MOD_begin_288 : decode nC_MOD_begin 288 = .ok (.iload_n 3, 1) := by decide +kernel
theorem nD_MOD_begin_289 : decode nC_MOD_begin 289 = .ok (.iaload, 1) := by decide +kernel
theorem nD_MOD_begin_290 : decode nC_MOD_begin 290 = .ok (.iaload, 1) := by decide +kernel
theorem nD_MOD_begin_291 : decode nC_MOD_begin 291 = .ok (.goto 4, 3) := by decide +kernel
theorem nD_MOD_begin_294 : decode nC_MOD_begin 294 = .ok (.iconst 0, 1) := by decide +kernel
theorem nD_MOD_begin_295 : decode nC_MOD_begin 295 = .ok (.iastore, 1) := by decide +kernel
theorem nD_MOD_begin_296 : decode nC_MOD_begin 296 = .ok (.aload_n 0, 1) := by decide +kernel
theorem nD_MOD_begin_297 : decode nC_MOD_begin 297 = .ok (.getfield 53, 3) := by decide +kernel
theorem nD_MOD_begin_300 : decode nC_MOD_begin 300 = .ok (.iload_n 3, 1) := by decide +kernel
theorem nD_MOD_begin_301 : decode nC_MOD_begin 301 = .ok (.iconst 0, 1) := by decide +kernel
theorem nD_MOD_begin_302 : decode nC_MOD_begin 302 = .ok (.iastore, 1) := by decide +kernel
theorem nD_MOD_begin_303 : decode nC_MOD_begin 303 = .ok (.return_, 1) := by decide +kernel
theorem nD_MOD_free_0 : decode nC_MOD_free 0 = .ok (.iconst 0, 1) := by decide +kernel
theorem nD_MOD_free_1 : decode nC_MOD_free 1 = .ok (.istore_n 3, 1) := by decide +kernel
theorem nD_MOD_free_2 : decode nC_MOD_free 2 = .ok (.iload_n 2, 1) := by decide +kernel
theorem nD_MOD_free_3 : decode nC_MOD_free 3 = .ok (.istore 4, 2) := by decide +kernel
theorem nD_MOD_free_5 : decode nC_MOD_free 5 = .ok (.iload 4, 2) := by decide +kernel
theorem nD_MOD_free_7 : decode nC_MOD_free 7 = .ok (.iload_n 1, 1) := by decide +kernel
theorem nD_MOD_free_8 : decode nC_MOD_free 8 = .ok (.if_icmp .lt 26, 3) := by decide +kernel
theorem nD_MOD_free_11 : decode nC_MOD_free 11 = .ok (.aload_n 0, 1) := by decide +kernel
theorem nD_MOD_free_12 : decode nC_MOD_free 12 = .ok (.getfield 41, 3) := by decide +kernel
theorem nD_MOD_free_15 : decode nC_MOD_free 15 = .ok (.iload 4, 2) := by decide +kernel
theorem nD_MOD_free_17 : decode nC_MOD_free 17 = .ok (.iaload, 1) := by decide +kernel
theorem nD_MOD_free_18 : decode nC_MOD_free 18 = .ok (.ifCond .ne 8, 3) := by decide +kernel
theorem nD_MOD_free_21 : decode nC_MOD_free 21 = .ok (.iload 4, 2) := by decide +kernel
theorem nD_MOD_free_23 : decode nC_MOD_free 23 = .ok (.goto 4, 3) := by decide +kernel
theorem nD_MOD_free_26 : decode nC_MOD_free 26 = .ok (.iload_n 3, 1) := by decide +kernel
theorem nD_MOD_free_27 : decode nC_MOD_free 27 = .ok (.istore_n 3, 1) := by decide +kernel
theorem nD_MOD_free_28 : decode nC_MOD_free 28 = .ok (.iinc 4 (-1), 3) := by decide +kernel
theorem nD_MOD_free_31 : decode nC_MOD_free 31 = .ok (.goto (-26), 3) := by decide +kernel
theorem nD_MOD_free_34 : decode nC_MOD_free 34 = .ok (.iload_n 3, 1) := by decide +kernel
theorem nD_MOD_free_35 : decode nC_MOD_free 35 = .ok (.ireturn, 1) := by decide +kernel
theorem nD_MOD_storing_0 : decode nC_MOD_storing 0 = .ok (.iconst 0, 1) := by decide +kernel
theorem nD_MOD_storing_1 : decode nC_MOD_storing 1 = .ok (.istore_n 2, 1) := by decide +kernel
theorem nD_MOD_storing_2 : decode nC_MOD_storing 2 = .ok (.bipush 10, 2) := by decide +kernel
theorem nD_MOD_storing_4 : decode nC_MOD_storing 4 = .ok (.istore_n 3, 1) := by decide +kernel
theorem nD_MOD_storing_5 : decode nC_MOD_storing 5 = .ok (.iload_n 3, 1) := by decide +kernel
theorem nD_MOD_storing_6 : decode nC_MOD_storing 6 = .ok (.bipush 13, 2) := by decide +kernel
theorem nD_MOD_storing_8 : decode nC_MOD_storing 8 = .ok (.if_icmp .ge 38, 3) := by decide +kernel
theorem nD_MOD_storing_11 : decode nC_MOD_storing 11 = .ok (.iload_n 2, 1) := by decide +kernel
theorem nD_MOD_storing_12 : decode nC_MOD_storing 12 = .ok (.ifCond .ne 22, 3) := by decide +kernel
theorem nD_MOD_storing_15 : decode nC_MOD_storing 15 = .ok (.aload_n 0, 1) := by decide +kernel
theorem nD_MOD_storing_16 : decode nC_MOD_storing 16 = .ok (.getfield 41, 3) := by decide +kernel
theorem nD_MOD_storing_19 : decode nC_MOD_storing 19 = .ok (.iload_n 3, 1) := by decide +kernel
theorem nD_MOD_storing_20 : decode nC_MOD_storing 20 = .ok (.iaload, 1) := by decide +kernel
theorem nD_MOD_storing_21 : decode nC_MOD_storing 21 = .ok (.ifCond .le 17, 3) := by decide +kernel
theorem nD_MOD_storing_24 : decode nC_MOD_storing 24 = .ok (.aload_n 0, 1) := by decide +kernel
theorem nD_MOD_storing_25 : decode nC_MOD_storing 25 = .ok (.getfield 62, 3) := by decide +kernel
theorem nD_MOD_storing_28 : decode nC_MOD_storing 28 = .ok (.iload_n 3, 1) := by decide +kernel
theorem nD_MOD_storing_29 : decode nC_MOD_storing 29 = .ok (.iaload, 1) := by decide +kernel
theorem nD_MOD_storing_30 : decode nC_MOD_storing 30 = .ok (.iload_n 1, 1) := by decide +kernel
theorem nD_MOD_storing_31 : decode nC_MOD_storing 31 = .ok (.if_icmp .ne 7, 3) := by decide +kernel
theorem nD_MOD_storing_34 : decode nC_MOD_storing 34 = .ok (.iconst 1, 1) := by decide +kernel
theorem nD_MOD_storing_35 : decode nC_MOD_storing 35 = .ok (.goto 4, 3) := by decide +kernel
theorem nD_MOD_storing_38 : decode nC_MOD_storing 38 = .ok (.iconst 0, 1) := by decide +kernel
theorem nD_MOD_storing_39 : decode nC_MOD_storing 39 = .ok (.istore_n 2, 1) := by decide +kernel
theorem nD_MOD_storing_40 : decode nC_MOD_storing 40 = .ok (.iinc 3 1, 3) := by decide +kernel
theorem nD_MOD_storing_43 : decode nC_MOD_storing 43 = .ok (.goto (-38), 3) := by decide +kernel
theorem nD_MOD_storing_46 : decode nC_MOD_storing 46 = .ok (.iload_n 2, 1) := by decide +kernel
theorem nD_MOD_storing_47 : decode nC_MOD_storing 47 = .ok (.ireturn, 1) := by decide +kernel
theorem nD_MOD_take_0 : decode nC_MOD_take 0 = .ok (.aload_n 0, 1) := by decide +kernel
theorem nD_MOD_take_1 : decode nC_MOD_take 1 = .ok (.getfield 41, 3) := by decide +kernel
theorem nD_MOD_take_4 : decode nC_MOD_take 4 = .ok (.iload_n 1, 1) := by decide +kernel
theorem nD_MOD_take_5 : decode nC_MOD_take 5 = .ok (.iconst 1, 1) := by decide +kernel
theorem nD_MOD_take_6 : decode nC_MOD_take 6 = .ok (.iastore, 1) := by decide +kernel
theorem nD_MOD_take_7 : decode nC_MOD_take 7 = .ok (.aload_n 0, 1) := by decide +kernel
theorem nD_MOD_take_8 : decode nC_MOD_take 8 = .ok (.getfield 44, 3) := by decide +kernel
theorem nD_MOD_take_11 : decode nC_MOD_take 11 = .ok (.iload_n 1, 1) := by decide +kernel
theorem nD_MOD_take_12 : decode nC_MOD_take 12 = .ok (.iload_n 2, 1) := by decide +kernel
theorem nD_MOD_take_13 : decode nC_MOD_take 13 = .ok (.iastore, 1) := by decide +kernel
theorem nD_MOD_take_14 : decode nC_MOD_take 14 = .ok (.aload_n 0, 1) := by decide +kernel
theorem nD_MOD_take_15 : decode nC_MOD_take 15 = .ok (.getfield 56, 3) := by decide +kernel
theorem nD_MOD_take_18 : decode nC_MOD_take 18 = .ok (.iconst 2, 1) := by decide +kernel
theorem nD_MOD_take_19 : decode nC_MOD_take 19 = .ok (.iload_n 1, 1) := by decide +kernel
theorem nD_MOD_take_20 : decode nC_MOD_take 20 = .ok (.imul, 1) := by decide +kernel
theorem nD_MOD_take_21 : decode nC_MOD_take 21 = .ok (.aload_n 0, 1) := by decide +kernel
theorem nD_MOD_take_22 : decode nC_MOD_take 22 = .ok (.getfield 29, 3) := by decide +kernel
theorem nD_MOD_take_25 : decode nC_MOD_take 25 = .ok (.iload_n 3, 1) := by decide +kernel
theorem nD_MOD_take_26 : decode nC_MOD_take 26 = .ok (.iaload, 1) := by decide +kernel
theorem nD_MOD_take_27 : decode nC_MOD_take 27 = .ok (.iastore, 1) := by decide +kernel
theorem nD_MOD_take_28 : decode nC_MOD_take 28 = .ok (.aload_n 0, 1) := by decide +kernel
theorem nD_MOD_take_29 : decode nC_MOD_take 29 = .ok (.getfield 59, 3) := by decide +kernel
theorem nD_MOD_take_32 : decode nC_MOD_take 32 = .ok (.iconst 2, 1) := by decide +kernel
theorem nD_MOD_take_33 : decode nC_MOD_take 33 = .ok (.iload_n 1, 1) := by decide +kernel
theorem nD_MOD_take_34 : decode nC_MOD_take 34 = .ok (.imul, 1) := by decide +kernel
theorem nD_MOD_take_35 : decode nC_MOD_take 35 = .ok (.aload_n 0, 1) := by decide +kernel
theorem nD_MOD_take_36 : decode nC_MOD_take 36 = .ok (.getfield 32, 3) := by decide +kernel
theorem nD_MOD_take_39 : decode nC_MOD_take 39 = .ok (.iload_n 3, 1) := by decide +kernel
theorem nD_MOD_take_40 : decode nC_MOD_take 40 = .ok (.iaload, 1) := by decide +kernel
theorem nD_MOD_take_41 : decode nC_MOD_take 41 = .ok (.iastore, 1) := by decide +kernel
theorem nD_MOD_take_42 : decode nC_MOD_take 42 = .ok (.aload_n 0, 1) := by decide +kernel
theorem nD_MOD_take_43 : decode nC_MOD_take 43 = .ok (.getfield 56, 3) := by decide +kernel
theorem nD_MOD_take_46 : decode nC_MOD_take 46 = .ok (.iconst 2, 1) := by decide +kernel
theorem nD_MOD_take_47 : decode nC_MOD_take 47 = .ok (.iload_n 1, 1) := by decide +kernel
theorem nD_MOD_take_48 : decode nC_MOD_take 48 = .ok (.imul, 1) := by decide +kernel
theorem nD_MOD_take_49 : decode nC_MOD_take 49 = .ok (.iconst 1, 1) := by decide +kernel
theorem nD_MOD_take_50 : decode nC_MOD_take 50 = .ok (.iadd, 1) := by decide +kernel
theorem nD_MOD_take_51 : decode nC_MOD_take 51 = .ok (.aload_n 0, 1) := by decide +kernel
theorem nD_MOD_take_52 : decode nC_MOD_take 52 = .ok (.getfield 29, 3) := by decide +kernel
theorem nD_MOD_take_55 : decode nC_MOD_take 55 = .ok (.iload 4, 2) := by decide +kernel
theorem nD_MOD_take_57 : decode nC_MOD_take 57 = .ok (.iaload, 1) := by decide +kernel
theorem nD_MOD_take_58 : decode nC_MOD_take 58 = .ok (.iastore, 1) := by decide +kernel
theorem nD_MOD_take_59 : decode nC_MOD_take 59 = .ok (.aload_n 0, 1) := by decide +kernel
theorem nD_MOD_take_60 : decode nC_MOD_take 60 = .ok (.getfield 59, 3) := by decide +kernel
theorem nD_MOD_take_63 : decode nC_MOD_take 63 = .ok (.iconst 2, 1) := by decide +kernel
theorem nD_MOD_take_64 : decode nC_MOD_take 64 = .ok (.iload_n 1, 1) := by decide +kernel
theorem nD_MOD_take_65 : decode nC_MOD_take 65 = .ok (.imul, 1) := by decide +kernel
theorem nD_MOD_take_66 : decode nC_MOD_take 66 = .ok (.iconst 1, 1) := by decide +kernel
theorem nD_MOD_take_67 : decode nC_MOD_take 67 = .ok (.iadd, 1) := by decide +kernel
theorem nD_MOD_take_68 : decode nC_MOD_take 68 = .ok (.aload_n 0, 1) := by decide +kernel
theorem nD_MOD_take_69 : decode nC_MOD_take 69 = .ok (.getfield 32, 3) := by decide +kernel
theorem nD_MOD_take_72 : decode nC_MOD_take 72 = .ok (.iload 4, 2) := by decide +kernel
theorem nD_MOD_take_74 : decode nC_MOD_take 74 = .ok (.iaload, 1) := by decide +kernel
theorem nD_MOD_take_75 : decode nC_MOD_take 75 = .ok (.iastore, 1) := by decide +kernel
theorem nD_MOD_take_76 : decode nC_MOD_take 76 = .ok (.aload_n 0, 1) := by decide +kernel
theorem nD_MOD_take_77 : decode nC_MOD_take 77 = .ok (.getfield 65, 3) := by decide +kernel
theorem nD_MOD_take_80 : decode nC_MOD_take 80 = .ok (.iload_n 1, 1) := by decide +kernel
theorem nD_MOD_take_81 : decode nC_MOD_take 81 = .ok (.aload_n 0, 1) := by decide +kernel
theorem nD_MOD_take_82 : decode nC_MOD_take 82 = .ok (.getfield 178, 3) := by decide +kernel
theorem nD_MOD_take_85 : decode nC_MOD_take 85 = .ok (.iastore, 1) := by decide +kernel
theorem nD_MOD_take_86 : decode nC_MOD_take 86 = .ok (.return_, 1) := by decide +kernel
theorem nD_MOD_storage_0 : decode nC_MOD_storage 0 = .ok (.aload_n 0, 1) := by decide +kernel
theorem nD_MOD_storage_1 : decode nC_MOD_storage 1 = .ok (.getfield 35, 3) := by decide +kernel
theorem nD_MOD_storage_4 : decode nC_MOD_storage 4 = .ok (.aload_n 0, 1) := by decide +kernel
theorem nD_MOD_storage_5 : decode nC_MOD_storage 5 = .ok (.getfield 19, 3) := by decide +kernel
theorem nD_MOD_storage_8 : decode nC_MOD_storage 8 = .ok (.iload_n 1, 1) := by decide +kernel
theorem nD_MOD_storage_9 : decode nC_MOD_storage 9 = .ok (.iaload, 1) := by decide +kernel
theorem nD_MOD_storage_10 : decode nC_MOD_storage 10 = .ok (.iaload, 1) := by decide +kernel
theorem nD_MOD_storage_11 : decode nC_MOD_storage 11 = .ok (.aload_n 0, 1) := by decide +kernel
theorem nD_MOD_storage_12 : decode nC_MOD_storage 12 = .ok (.getfield 22, 3) := by decide +kernel
theorem nD_MOD_storage_15 : decode nC_MOD_storage 15 = .ok (.iload_n 1, 1) := by decide +kernel
theorem nD_MOD_storage_16 : decode nC_MOD_storage 16 = .ok (.iaload, 1) := by decide +kernel
theorem nD_MOD_storage_17 : decode nC_MOD_storage 17 = .ok (.iadd, 1) := by decide +kernel
theorem nD_MOD_storage_18 : decode nC_MOD_storage 18 = .ok (.istore_n 2, 1) := by decide +kernel
theorem nD_MOD_storage_19 : decode nC_MOD_storage 19 = .ok (.iload_n 2, 1) := by decide +kernel
theorem nD_MOD_storage_20 : decode nC_MOD_storage 20 = .ok (.invokestatic 161, 3) := by decide +kernel
theorem nD_MOD_storage_23 : decode nC_MOD_storage 23 = .ok (.ifCond .ne 16, 3) := by decide +kernel
theorem nD_MOD_storage_26 : decode nC_MOD_storage 26 = .ok (.aload_n 0, 1) := by decide +kernel
theorem nD_MOD_storage_27 : decode nC_MOD_storage 27 = .ok (.aload_n 0, 1) := by decide +kernel
theorem nD_MOD_storage_28 : decode nC_MOD_storage 28 = .ok (.getfield 158, 3) := by decide +kernel
theorem nD_MOD_storage_31 : decode nC_MOD_storage 31 = .ok (.bipush 8, 2) := by decide +kernel
theorem nD_MOD_storage_33 : decode nC_MOD_storage 33 = .ok (.ior, 1) := by decide +kernel
theorem nD_MOD_storage_34 : decode nC_MOD_storage 34 = .ok (.putfield 158, 3) := by decide +kernel
theorem nD_MOD_storage_37 : decode nC_MOD_storage 37 = .ok (.iconst 0, 1) := by decide +kernel
theorem nD_MOD_storage_38 : decode nC_MOD_storage 38 = .ok (.ireturn, 1) := by decide +kernel
theorem nD_MOD_storage_39 : decode nC_MOD_storage 39 = .ok (.aload_n 0, 1) := by decide +kernel
theorem nD_MOD_storage_40 : decode nC_MOD_storage 40 = .ok (.getfield 7, 3) := by decide +kernel
theorem nD_MOD_storage_43 : decode nC_MOD_storage 43 = .ok (.iload_n 1, 1) := by decide +kernel
theorem nD_MOD_storage_44 : decode nC_MOD_storage 44 = .ok (.iaload, 1) := by decide +kernel
theorem nD_MOD_storage_45 : decode nC_MOD_storage 45 = .ok (.ifCond .ne 14, 3) := by decide +kernel
theorem nD_MOD_storage_48 : decode nC_MOD_storage 48 = .ok (.aload_n 0, 1) := by decide +kernel
theorem nD_MOD_storage_49 : decode nC_MOD_storage 49 = .ok (.bipush 6, 2) := by decide +kernel
theorem nD_MOD_storage_51 : decode nC_MOD_storage 51 = .ok (.bipush 9, 2) := by decide +kernel
theorem nD_MOD_storage_53 : decode nC_MOD_storage 53 = .ok (.invokevirtual 181, 3) := by decide +kernel
theorem nD_MOD_storage_56 : decode nC_MOD_storage 56 = .ok (.goto 11, 3) := by decide +kernel
theorem nD_MOD_storage_59 : decode nC_MOD_storage 59 = .ok (.aload_n 0, 1) := by decide +kernel
theorem nD_MOD_storage_60 : decode nC_MOD_storage 60 = .ok (.bipush 10, 2) := by decide +kernel
theorem nD_MOD_storage_62 : decode nC_MOD_storage 62 = .ok (.bipush 12, 2) := by decide +kernel
theorem nD_MOD_storage_64 : decode nC_MOD_storage 64 = .ok (.invokevirtual 181, 3) := by decide +kernel
theorem nD_MOD_storage_67 : decode nC_MOD_storage 67 = .ok (.istore_n 3, 1) := by decide +kernel
theorem nD_MOD_storage_68 : decode nC_MOD_storage 68 = .ok (.iload_n 3, 1) := by decide +kernel
theorem nD_MOD_storage_69 : decode nC_MOD_storage 69 = .ok (.ifCond .eq 11, 3) := by decide +kernel
theorem nD_MOD_storage_72 : decode nC_MOD_storage 72 = .ok (.aload_n 0, 1) := by decide +kernel
theorem nD_MOD_storage_73 : decode nC_MOD_storage 73 = .ok (.iload_n 2, 1) := by decide +kernel
theorem nD_MOD_storage_74 : decode nC_MOD_storage 74 = .ok (.invokevirtual 184, 3) := by decide +kernel
theorem nD_MOD_storage_77 : decode nC_MOD_storage 77 = .ok (.ifCond .eq 5, 3) := by decide +kernel
theorem nD_MOD_storage_80 : decode nC_MOD_storage 80 = .ok (.iconst 0, 1) := by decide +kernel
theorem nD_MOD_storage_81 : decode nC_MOD_storage 81 = .ok (.ireturn, 1) := by decide +kernel
theorem nD_MOD_storage_82 : decode nC_MOD_storage 82 = .ok (.aload_n 0, 1) := by decide +kernel
theorem nD_MOD_storage_83 : decode nC_MOD_storage 83 = .ok (.iload_n 3, 1) := by decide +kernel
theorem nD_MOD_storage_84 : decode nC_MOD_storage 84 = .ok (.aload_n 0, 1) := by decide +kernel
theorem nD_MOD_storage_85 : decode nC_MOD_storage 85 = .ok (.getfield 7, 3) := by decide +kernel
theorem nD_MOD_storage_88 : decode nC_MOD_storage 88 = .ok (.iload_n 1, 1) := by decide +kernel
theorem nD_MOD_storage_89 : decode nC_MOD_storage 89 = .ok (.iaload, 1) := by decide +kernel
theorem nD_MOD_storage_90 : decode nC_MOD_storage 90 = .ok (.aload_n 0, 1) := by decide +kernel
theorem nD_MOD_storage_91 : decode nC_MOD_storage 91 = .ok (.getfield 13, 3) := by decide +kernel
theorem nD_MOD_storage_94 : decode nC_MOD_storage 94 = .ok (.iload_n 1, 1) := by decide +kernel
theorem nD_MOD_storage_95 : decode nC_MOD_storage 95 = .ok (.iaload, 1) := by decide +kernel
theorem nD_MOD_storage_96 : decode nC_MOD_storage 96 = .ok (.aload_n 0, 1) := by decide +kernel
theorem nD_MOD_storage_97 : decode nC_MOD_storage 97 = .ok (.getfield 13, 3) := by decide +kernel
theorem nD_MOD_storage_100 : decode nC_MOD_storage 100 = .ok (.iload_n 1, 1) := by decide +kernel
theorem nD_MOD_storage_101 : decode nC_MOD_storage 101 = .ok (.iaload, 1) := by decide +kernel
theorem nD_MOD_storage_102 : decode nC_MOD_storage 102 = .ok (.invokevirtual 187, 3) := by decide +kernel
theorem nD_MOD_storage_105 : decode nC_MOD_storage 105 = .ok (.aload_n 0, 1) := by decide +kernel
theorem nD_MOD_storage_106 : decode nC_MOD_storage 106 = .ok (.getfield 62, 3) := by decide +kernel
theorem nD_MOD_storage_109 : decode nC_MOD_storage 109 = .ok (.iload_n 3, 1) := by decide +kernel
theorem nD_MOD_storage_110 : decode nC_MOD_storage 110 = .ok (.iload_n 2, 1) := by decide +kernel
theorem nD_MOD_storage_111 : decode nC_MOD_storage 111 = .ok (.iastore, 1) := by decide +kernel
theorem nD_MOD_storage_112 : decode nC_MOD_storage 112 = .ok (.aload_n 0, 1) := by decide +kernel
theorem nD_MOD_storage_113 : decode nC_MOD_storage 113 = .ok (.getfield 7, 3) := by decide +kernel
theorem nD_MOD_storage_116 : decode nC_MOD_storage 116 = .ok (.iload_n 1, 1) := by decide +kernel
theorem nD_MOD_storage_117 : decode nC_MOD_storage 117 = .ok (.iaload, 1) := by decide +kernel
theorem nD_MOD_storage_118 : decode nC_MOD_storage 118 = .ok (.ifCond .ne 35, 3) := by decide +kernel
theorem nD_MOD_storage_121 : decode nC_MOD_storage 121 = .ok (.aload_n 0, 1) := by decide +kernel
theorem nD_MOD_storage_122 : decode nC_MOD_storage 122 = .ok (.getfield 59, 3) := by decide +kernel
theorem nD_MOD_storage_125 : decode nC_MOD_storage 125 = .ok (.iconst 2, 1) := by decide +kernel
theorem nD_MOD_storage_126 : decode nC_MOD_storage 126 = .ok (.iload_n 3, 1) := by decide +kernel
theorem nD_MOD_storage_127 : decode nC_MOD_storage 127 = .ok (.imul, 1) := by decide +kernel
theorem nD_MOD_storage_128 : decode nC_MOD_storage 128 = .ok (.iconst 0, 1) := by decide +kernel
theorem nD_MOD_storage_129 : decode nC_MOD_storage 129 = .ok (.iastore, 1) := by decide +kernel
theorem nD_MOD_storage_130 : decode nC_MOD_storage 130 = .ok (.aload_n 0, 1) := by decide +kernel
theorem nD_MOD_storage_131 : decode nC_MOD_storage 131 = .ok (.getfield 59, 3) := by decide +kernel
theorem nD_MOD_storage_134 : decode nC_MOD_storage 134 = .ok (.iconst 2, 1) := by decide +kernel
theorem nD_MOD_storage_135 : decode nC_MOD_storage 135 = .ok (.iload_n 3, 1) := by decide +kernel
theorem nD_MOD_storage_136 : decode nC_MOD_storage 136 = .ok (.imul, 1) := by decide +kernel
theorem nD_MOD_storage_137 : decode nC_MOD_storage 137 = .ok (.iconst 1, 1) := by decide +kernel
theorem nD_MOD_storage_138 : decode nC_MOD_storage 138 = .ok (.iadd, 1) := by decide +kernel
theorem nD_MOD_storage_139 : decode nC_MOD_storage 139 = .ok (.iconst 0, 1) := by decide +kernel
theorem nD_MOD_storage_140 : decode nC_MOD_storage 140 = .ok (.iastore, 1) := by decide +kernel
theorem nD_MOD_storage_141 : decode nC_MOD_storage 141 = .ok (.aload_n 0, 1) := by decide +kernel
theorem nD_MOD_storage_142 : decode nC_MOD_storage 142 = .ok (.getfield 32, 3) := by decide +kernel
theorem nD_MOD_storage_145 : decode nC_MOD_storage 145 = .ok (.aload_n 0, 1) := by decide +kernel
theorem nD_MOD_storage_146 : decode nC_MOD_storage 146 = .ok (.getfield 13, 3) := by decide +kernel
theorem nD_MOD_storage_149 : decode nC_MOD_storage 149 = .ok (.iload_n 1, 1) := by decide +kernel
theorem nD_MOD_storage_150 : decode nC_MOD_storage 150 = .ok (.iaload, 1) := by decide +kernel
theorem nD_MOD_storage_151 : decode nC_MOD_storage 151 = .ok (.iload_n 3, 1) := by decide +kernel
theorem nD_MOD_storage_152 : decode nC_MOD_storage 152 = .ok (.iastore, 1) := by decide +kernel
theorem nD_MOD_storage_153 : decode nC_MOD_storage 153 = .ok (.iconst 1, 1) := by decide +kernel
theorem nD_MOD_storage_154 : decode nC_MOD_storage 154 = .ok (.ireturn, 1) := by decide +kernel
theorem nD_MOD_reckoned_0 : decode nC_MOD_reckoned 0 = .ok (.aload_n 0, 1) := by decide +kernel
theorem nD_MOD_reckoned_1 : decode nC_MOD_reckoned 1 = .ok (.getfield 7, 3) := by decide +kernel
theorem nD_MOD_reckoned_4 : decode nC_MOD_reckoned 4 = .ok (.iload_n 1, 1) := by decide +kernel
theorem nD_MOD_reckoned_5 : decode nC_MOD_reckoned 5 = .ok (.iaload, 1) := by decide +kernel
theorem nD_MOD_reckoned_6 : decode nC_MOD_reckoned 6 = .ok (.iconst 2, 1) := by decide +kernel
theorem nD_MOD_reckoned_7 : decode nC_MOD_reckoned 7 = .ok (.if_icmp .eq 24, 3) := by decide +kernel
theorem nD_MOD_reckoned_10 : decode nC_MOD_reckoned 10 = .ok (.aload_n 0, 1) := by decide +kernel
theorem nD_MOD_reckoned_11 : decode nC_MOD_reckoned 11 = .ok (.getfield 7, 3) := by decide +kernel
theorem nD_MOD_reckoned_14 : decode nC_MOD_reckoned 14 = .ok (.iload_n 1, 1) := by decide +kernel
theorem nD_MOD_reckoned_15 : decode nC_MOD_reckoned 15 = .ok (.iaload, 1) := by decide +kernel
theorem nD_MOD_reckoned_16 : decode nC_MOD_reckoned 16 = .ok (.iconst 3, 1) := by decide +kernel
theorem nD_MOD_reckoned_17 : decode nC_MOD_reckoned 17 = .ok (.if_icmp .eq 14, 3) := by decide +kernel
theorem nD_MOD_reckoned_20 : decode nC_MOD_reckoned 20 = .ok (.aload_n 0, 1) := by decide +kernel
theorem nD_MOD_reckoned_21 : decode nC_MOD_reckoned 21 = .ok (.getfield 7, 3) := by decide +kernel
theorem nD_MOD_reckoned_24 : decode nC_MOD_reckoned 24 = .ok (.iload_n 1, 1) := by decide +kernel
theorem nD_MOD_reckoned_25 : decode nC_MOD_reckoned 25 = .ok (.iaload, 1) := by decide +kernel
theorem nD_MOD_reckoned_26 : decode nC_MOD_reckoned 26 = .ok (.bipush 6, 2) := by decide +kernel
theorem nD_MOD_reckoned_28 : decode nC_MOD_reckoned 28 = .ok (.if_icmp .ne 7, 3) := by decide +kernel
theorem nD_MOD_reckoned_31 : decode nC_MOD_reckoned 31 = .ok (.iconst 1, 1) := by decide +kernel
theorem nD_MOD_reckoned_32 : decode nC_MOD_reckoned 32 = .ok (.goto 4, 3) := by decide +kernel
theorem nD_MOD_reckoned_35 : decode nC_MOD_reckoned 35 = .ok (.iconst 0, 1) := by decide +kernel
theorem nD_MOD_reckoned_36 : decode nC_MOD_reckoned 36 = .ok (.istore_n 2, 1) := by decide +kernel
theorem nD_MOD_reckoned_37 : decode nC_MOD_reckoned 37 = .ok (.iload_n 2, 1) := by decide +kernel
theorem nD_MOD_reckoned_38 : decode nC_MOD_reckoned 38 = .ok (.ifCond .eq 12, 3) := by decide +kernel
theorem nD_MOD_reckoned_41 : decode nC_MOD_reckoned 41 = .ok (.aload_n 0, 1) := by decide +kernel
theorem nD_MOD_reckoned_42 : decode nC_MOD_reckoned 42 = .ok (.iconst 1, 1) := by decide +kernel
theorem nD_MOD_reckoned_43 : decode nC_MOD_reckoned 43 = .ok (.iconst 3, 1) := by decide +kernel
theorem nD_MOD_reckoned_44 : decode nC_MOD_reckoned 44 = .ok (.invokevirtual 181, 3) := by decide +kernel
theorem nD_MOD_reckoned_47 : decode nC_MOD_reckoned 47 = .ok (.goto 9, 3) := by decide +kernel
theorem nD_MOD_reckoned_50 : decode nC_MOD_reckoned 50 = .ok (.aload_n 0, 1) := by decide +kernel
theorem nD_MOD_reckoned_51 : decode nC_MOD_reckoned 51 = .ok (.iconst 4, 1) := by decide +kernel
theorem nD_MOD_reckoned_52 : decode nC_MOD_reckoned 52 = .ok (.iconst 5, 1) := by decide +kernel
theorem nD_MOD_reckoned_53 : decode nC_MOD_reckoned 53 = .ok (.invokevirtual 181, 3) := by decide +kernel
theorem nD_MOD_reckoned_56 : decode nC_MOD_reckoned 56 = .ok (.istore_n 3, 1) := by decide +kernel
theorem nD_MOD_reckoned_57 : decode nC_MOD_reckoned 57 = .ok (.iload_n 3, 1) := by decide +kernel
theorem nD_MOD_reckoned_58 : decode nC_MOD_reckoned 58 = .ok (.ifCond .ne 5, 3) := by decide +kernel
theorem nD_MOD_reckoned_61 : decode nC_MOD_reckoned 61 = .ok (.iconst 0, 1) := by decide +kernel
theorem nD_MOD_reckoned_62 : decode nC_MOD_reckoned 62 = .ok (.ireturn, 1) := by decide +kernel
theorem nD_MOD_reckoned_63 : decode nC_MOD_reckoned 63 = .ok (.aload_n 0, 1) := by decide +kernel
theorem nD_MOD_reckoned_64 : decode nC_MOD_reckoned 64 = .ok (.iload_n 3, 1) := by decide +kernel
theorem nD_MOD_reckoned_65 : decode nC_MOD_reckoned 65 = .ok (.aload_n 0, 1) := by decide +kernel
theorem nD_MOD_reckoned_66 : decode nC_MOD_reckoned 66 = .ok (.getfield 7, 3) := by decide +kernel
theorem nD_MOD_reckoned_69 : decode nC_MOD_reckoned 69 = .ok (.iload_n 1, 1) := by decide +kernel
theorem nD_MOD_reckoned_70 : decode nC_MOD_reckoned 70 = .ok (.iaload, 1) := by decide +kernel
theorem nD_MOD_reckoned_71 : decode nC_MOD_reckoned 71 = .ok (.aload_n 0, 1) := by decide +kernel
theorem nD_MOD_reckoned_72 : decode nC_MOD_reckoned 72 = .ok (.getfield 13, 3) := by decide +kernel
theorem nD_MOD_reckoned_75 : decode nC_MOD_reckoned 75 = .ok (.iload_n 1, 1) := by decide +kernel
theorem nD_MOD_reckoned_76 : decode nC_MOD_reckoned 76 = .ok (.iaload, 1) := by decide +kernel
theorem nD_MOD_reckoned_77 : decode nC_MOD_reckoned 77 = .ok (.aload_n 0, 1) := by decide +kernel
theorem nD_MOD_reckoned_78 : decode nC_MOD_reckoned 78 = .ok (.getfield 16, 3) := by decide +kernel
theorem nD_MOD_reckoned_81 : decode nC_MOD_reckoned 81 = .ok (.iload_n 1, 1) := by decide +kernel
theorem nD_MOD_reckoned_82 : decode nC_MOD_reckoned 82 = .ok (.iaload, 1) := by decide +kernel
theorem nD_MOD_reckoned_83 : decode nC_MOD_reckoned 83 = .ok (.invokevirtual 187, 3) := by decide +kernel
theorem nD_MOD_reckoned_86 : decode nC_MOD_reckoned 86 = .ok (.aload_n 0, 1) := by decide +kernel
theorem nD_MOD_reckoned_87 : decode nC_MOD_reckoned 87 = .ok (.getfield 32, 3) := by decide +kernel
theorem nD_MOD_reckoned_90 : decode nC_MOD_reckoned 90 = .ok (.aload_n 0, 1) := by decide +kernel
theorem nD_MOD_reckoned_91 : decode nC_MOD_reckoned 91 = .ok (.getfield 7, 3) := by decide +kernel
theorem nD_MOD_reckoned_94 : decode nC_MOD_reckoned 94 = .ok (.iload_n 1, 1) := by decide +kernel
theorem nD_MOD_reckoned_95 : decode nC_MOD_reckoned 95 = .ok (.iaload, 1) := by decide +kernel
theorem nD_MOD_reckoned_96 : decode nC_MOD_reckoned 96 = .ok (.bipush 6, 2) := by decide +kernel
theorem nD_MOD_reckoned_98 : decode nC_MOD_reckoned 98 = .ok (.if_icmp .ne 7, 3) := by decide +kernel
theorem nD_MOD_reckoned_101 : decode nC_MOD_reckoned 101 = .ok (.iconst 4, 1) := by decide +kernel
theorem nD_MOD_reckoned_102 : decode nC_MOD_reckoned 102 = .ok (.goto 9, 3) := by decide +kernel
theorem nD_MOD_reckoned_105 : decode nC_MOD_reckoned 105 = .ok (.aload_n 0, 1) := by decide +kernel
theorem nD_MOD_reckoned_106 : decode nC_MOD_reckoned 106 = .ok (.getfield 13, 3) := by decide +kernel
theorem nD_MOD_reckoned_109 : decode nC_MOD_reckoned 109 = .ok (.iload_n 1, 1) := by decide +kernel
theorem nD_MOD_reckoned_110 : decode nC_MOD_reckoned 110 = .ok (.iaload, 1) := by decide +kernel
theorem nD_MOD_reckoned_111 : decode nC_MOD_reckoned 111 = .ok (.iload_n 3, 1) := by decide +kernel
theorem nD_MOD_reckoned_112 : decode nC_MOD_reckoned 112 = .ok (.iastore, 1) := by decide +kernel
theorem nD_MOD_reckoned_113 : decode nC_MOD_reckoned 113 = .ok (.iconst 1, 1) := by decide +kernel
theorem nD_MOD_reckoned_114 : decode nC_MOD_reckoned 114 = .ok (.ireturn, 1) := by decide +kernel
theorem nD_MOD_handOut_0 : decode nC_MOD_handOut 0 = .ok (.aload_n 0, 1) := by decide +kernel
theorem nD_MOD_handOut_1 : decode nC_MOD_handOut 1 = .ok (.getfield 155, 3) := by decide +kernel
theorem nD_MOD_handOut_4 : decode nC_MOD_handOut 4 = .ok (.ifCond .lt 14, 3) := by decide +kernel
theorem nD_MOD_handOut_7 : decode nC_MOD_handOut 7 = .ok (.aload_n 0, 1) := by decide +kernel
theorem nD_MOD_handOut_8 : decode nC_MOD_handOut 8 = .ok (.getfield 155, 3) := by decide +kernel
theorem nD_MOD_handOut_11 : decode nC_MOD_handOut 11 = .ok (.aload_n 0, 1) := by decide +kernel
theorem nD_MOD_handOut_12 : decode nC_MOD_handOut 12 = .ok (.getfield 148, 3) := by decide +kernel
theorem nD_MOD_handOut_15 : decode nC_MOD_handOut 15 = .ok (.if_icmp .lt 15, 3) := by decide +kernel
theorem nD_MOD_handOut_18 : decode nC_MOD_handOut 18 = .ok (.aload_n 0, 1) := by decide +kernel
theorem nD_MOD_handOut_19 : decode nC_MOD_handOut 19 = .ok (.aload_n 0, 1) := by decide +kernel
theorem nD_MOD_handOut_20 : decode nC_MOD_handOut 20 = .ok (.getfield 158, 3) := by decide +kernel
theorem nD_MOD_handOut_23 : decode nC_MOD_handOut 23 = .ok (.bipush 16, 2) := by decide +kernel
theorem nD_MOD_handOut_25 : decode nC_MOD_handOut 25 = .ok (.ior, 1) := by decide +kernel
theorem nD_MOD_handOut_26 : decode nC_MOD_handOut 26 = .ok (.putfield 158, 3) := by decide +kernel
theorem nD_MOD_handOut_29 : decode nC_MOD_handOut 29 = .ok (.return_, 1) := by decide +kernel
theorem nD_MOD_handOut_30 : decode nC_MOD_handOut 30 = .ok (.aload_n 0, 1) := by decide +kernel
theorem nD_MOD_handOut_31 : decode nC_MOD_handOut 31 = .ok (.getfield 155, 3) := by decide +kernel
theorem nD_MOD_handOut_34 : decode nC_MOD_handOut 34 = .ok (.istore_n 1, 1) := by decide +kernel
theorem nD_MOD_handOut_35 : decode nC_MOD_handOut 35 = .ok (.aload_n 0, 1) := by decide +kernel
theorem nD_MOD_handOut_36 : decode nC_MOD_handOut 36 = .ok (.getfield 7, 3) := by decide +kernel
theorem nD_MOD_handOut_39 : decode nC_MOD_handOut 39 = .ok (.iload_n 1, 1) := by decide +kernel
theorem nD_MOD_handOut_40 : decode nC_MOD_handOut 40 = .ok (.iaload, 1) := by decide +kernel
theorem nD_MOD_handOut_41 : decode nC_MOD_handOut 41 = .ok (.istore_n 2, 1) := by decide +kernel
theorem nD_MOD_handOut_42 : decode nC_MOD_handOut 42 = .ok (.aload_n 0, 1) := by decide +kernel
theorem nD_MOD_handOut_43 : decode nC_MOD_handOut 43 = .ok (.getfield 13, 3) := by decide +kernel
theorem nD_MOD_handOut_46 : decode nC_MOD_handOut 46 = .ok (.iload_n 1, 1) := by decide +kernel
theorem nD_MOD_handOut_47 : decode nC_MOD_handOut 47 = .ok (.iaload, 1) := by decide +kernel
theorem nD_MOD_handOut_48 : decode nC_MOD_handOut 48 = .ok (.istore_n 3, 1) := by decide +kernel
theorem nD_MOD_handOut_49 : decode nC_MOD_handOut 49 = .ok (.iload_n 2, 1) := by decide +kernel
theorem nD_MOD_handOut_50 : decode nC_MOD_handOut 50 = .ok (.iconst 2, 1) := by decide +kernel
theorem nD_MOD_handOut_51 : decode nC_MOD_handOut 51 = .ok (.if_icmp .ge 11, 3) := by decide +kernel
theorem nD_MOD_handOut_54 : decode nC_MOD_handOut 54 = .ok (.aload_n 0, 1) := by decide +kernel
theorem nD_MOD_handOut_55 : decode nC_MOD_handOut 55 = .ok (.iload_n 1, 1) := by decide +kernel
theorem nD_MOD_handOut_56 : decode nC_MOD_handOut 56 = .ok (.invokevirtual 191, 3) := by decide +kernel
theorem nD_MOD_handOut_59 : decode nC_MOD_handOut 59 = .ok (.goto 37, 3) := by decide +kernel
theorem nD_MOD_handOut_62 : decode nC_MOD_handOut 62 = .ok (.iload_n 2, 1) := by decide +kernel
theorem nD_MOD_handOut_63 : decode nC_MOD_handOut 63 = .ok (.bipush 6, 2) := by decide +kernel
theorem nD_MOD_handOut_65 : decode nC_MOD_handOut 65 = .ok (.if_icmp .gt 11, 3) := by decide +kernel
theorem nD_MOD_handOut_68 : decode nC_MOD_handOut 68 = .ok (.aload_n 0, 1) := by decide +kernel
theorem nD_MOD_handOut_69 : decode nC_MOD_handOut 69 = .ok (.iload_n 1, 1) := by decide +kernel
theorem nD_MOD_handOut_70 : decode nC_MOD_handOut 70 = .ok (.invokevirtual 194, 3) := by decide +kernel
theorem nD_MOD_handOut_73 : decode nC_MOD_handOut 73 = .ok (.goto 23, 3) := by decide +kernel
theorem nD_MOD_handOut_76 : decode nC_MOD_handOut 76 = .ok (.iload_n 2, 1) := by decide +kernel
theorem nD_MOD_handOut_77 : decode nC_MOD_handOut 77 = .ok (.bipush 11, 2) := by decide +kernel
theorem nD_MOD_handOut_79 : decode nC_MOD_handOut 79 = .ok (.if_icmp .ne 12, 3) := by decide +kernel
theorem nD_MOD_handOut_82 : decode nC_MOD_handOut 82 = .ok (.aload_n 0, 1) := by decide +kernel
theorem nD_MOD_handOut_83 : decode nC_MOD_handOut 83 = .ok (.getfield 32, 3) := by decide +kernel
theorem nD_MOD_handOut_86 : decode nC_MOD_handOut 86 = .ok (.iconst 4, 1) := by decide +kernel
theorem nD_MOD_handOut_87 : decode nC_MOD_handOut 87 = .ok (.iaload, 1) := by decide +kernel
theorem nD_MOD_handOut_88 : decode nC_MOD_handOut 88 = .ok (.ifCond .ne 7, 3) := by decide +kernel
theorem nD_MOD_handOut_91 : decode nC_MOD_handOut 91 = .ok (.iconst 1, 1) := by decide +kernel
theorem nD_MOD_handOut_92 : decode nC_MOD_handOut 92 = .ok (.goto 4, 3) := by decide +kernel
theorem nD_MOD_handOut_95 : decode nC_MOD_handOut 95 = .ok (.iconst 0, 1) := by decide +kernel
theorem nD_MOD_handOut_96 : decode nC_MOD_handOut 96 = .ok (.istore 4, 2) := by decide +kernel
theorem nD_MOD_handOut_98 : decode nC_MOD_handOut 98 = .ok (.iload 4, 2) := by decide +kernel
theorem nD_MOD_handOut_100 : decode nC_MOD_handOut 100 = .ok (.ifCond .ne 4, 3) := by decide +kernel
theorem nD_MOD_handOut_103 : decode nC_MOD_handOut 103 = .ok (.return_, 1) := by decide +kernel
theorem nD_MOD_handOut_104 : decode nC_MOD_handOut 104 = .ok (.aload_n 0, 1) := by decide +kernel
theorem nD_MOD_handOut_105 : decode nC_MOD_handOut 105 = .ok (.dup, 1) := by decide +kernel
theorem nD_MOD_handOut_106 : decode nC_MOD_handOut 106 = .ok (.getfield 178, 3) := by decide +kernel
theorem nD_MOD_handOut_109 : decode nC_MOD_handOut 109 = .ok (.iconst 1, 1) := by decide +kernel
theorem nD_MOD_handOut_110 : decode nC_MOD_handOut 110 = .ok (.iadd, 1) := by decide +kernel
theorem nD_MOD_handOut_111 : decode nC_MOD_handOut 111 = .ok (.putfield 178, 3) := by decide +kernel
theorem nD_MOD_handOut_114 : decode nC_MOD_handOut 114 = .ok (.aload_n 0, 1) := by decide +kernel
theorem nD_MOD_handOut_115 : decode nC_MOD_handOut 115 = .ok (.dup, 1) := by decide +kernel
theorem nD_MOD_handOut_116 : decode nC_MOD_handOut 116 = .ok (.getfield 155, 3) := by decide +kernel
theorem nD_MOD_handOut_119 : decode nC_MOD_handOut 119 = .ok (.iconst 1, 1) := by decide +kernel
theorem nD_MOD_handOut_120 : decode nC_MOD_handOut 120 = .ok (.iadd, 1) := by decide +kernel
theorem nD_MOD_handOut_121 : decode nC_MOD_handOut 121 = .ok (.putfield 155, 3) := by decide +kernel
theorem nD_MOD_handOut_124 : decode nC_MOD_handOut 124 = .ok (.iload_n 2, 1) := by decide +kernel
theorem nD_MOD_handOut_125 : decode nC_MOD_handOut 125 = .ok (.bipush 7, 2) := by decide +kernel
theorem nD_MOD_handOut_127 : decode nC_MOD_handOut 127 = .ok (.if_icmp .ne 63, 3) := by decide +kernel
theorem nD_MOD_handOut_130 : decode nC_MOD_handOut 130 = .ok (.aload_n 0, 1) := by decide +kernel
theorem nD_MOD_handOut_131 : decode nC_MOD_handOut 131 = .ok (.getfield 29, 3) := by decide +kernel
theorem nD_MOD_handOut_134 : decode nC_MOD_handOut 134 = .ok (.iload_n 3, 1) := by decide +kernel
theorem nD_MOD_handOut_135 : decode nC_MOD_handOut 135 = .ok (.aload_n 0, 1) := by decide +kernel
theorem nD_MOD_handOut_136 : decode nC_MOD_handOut 136 = .ok (.getfield 32, 3) := by decide +kernel
theorem nD_MOD_handOut_139 : decode nC_MOD_handOut 139 = .ok (.aload_n 0, 1) := by decide +kernel
theorem nD_MOD_handOut_140 : decode nC_MOD_handOut 140 = .ok (.getfield 16, 3) := by decide +kernel
theorem nD_MOD_handOut_143 : decode nC_MOD_handOut 143 = .ok (.iload_n 1, 1) := by decide +kernel
theorem nD_MOD_handOut_144 : decode nC_MOD_handOut 144 = .ok (.iaload, 1) := by decide +kernel
theorem nD_MOD_handOut_145 : decode nC_MOD_handOut 145 = .ok (.iaload, 1) := by decide +kernel
theorem nD_MOD_handOut_146 : decode nC_MOD_handOut 146 = .ok (.ifCond .ne 17, 3) := by decide +kernel
theorem nD_MOD_handOut_149 : decode nC_MOD_handOut 149 = .ok (.aload_n 0, 1) := by decide +kernel
theorem nD_MOD_handOut_150 : decode nC_MOD_handOut 150 = .ok (.getfield 29, 3) := by decide +kernel
theorem nD_MOD_handOut_153 : decode nC_MOD_handOut 153 = .ok (.aload_n 0, 1) := by decide +kernel
theorem nD_MOD_handOut_154 : decode nC_MOD_handOut 154 = .ok (.getfield 16, 3) := by decide +kernel
theorem nD_MOD_handOut_157 : decode nC_MOD_handOut 157 = .ok (.iload_n 1, 1) := by decide +kernel
theorem nD_MOD_handOut_158 : decode nC_MOD_handOut 158 = .ok (.iaload, 1) := by decide +kernel
theorem nD_MOD_handOut_159 : decode nC_MOD_handOut 159 = .ok (.iaload, 1) := by decide +kernel
theorem nD_MOD_handOut_160 : decode nC_MOD_handOut 160 = .ok (.goto 9, 3) := by decide +kernel
theorem nD_MOD_handOut_163 : decode nC_MOD_handOut 163 = .ok (.aload_n 0, 1) := by decide +kernel
theorem nD_MOD_handOut_164 : decode nC_MOD_handOut 164 = .ok (.getfield 29, 3) := by decide +kernel
theorem nD_MOD_handOut_167 : decode nC_MOD_handOut 167 = .ok (.iload_n 3, 1) := by decide +kernel
theorem nD_MOD_handOut_168 : decode nC_MOD_handOut 168 = .ok (.iaload, 1) := by decide +kernel
theorem nD_MOD_handOut_169 : decode nC_MOD_handOut 169 = .ok (.iastore, 1) := by decide +kernel
theorem nD_MOD_handOut_170 : decode nC_MOD_handOut 170 = .ok (.aload_n 0, 1) := by decide +kernel
theorem nD_MOD_handOut_171 : decode nC_MOD_handOut 171 = .ok (.getfield 32, 3) := by decide +kernel
theorem nD_MOD_handOut_174 : decode nC_MOD_handOut 174 = .ok (.iload_n 3, 1) := by decide +kernel
theorem nD_MOD_handOut_175 : decode nC_MOD_handOut 175 = .ok (.aload_n 0, 1) := by decide +kernel
theorem nD_MOD_handOut_176 : decode nC_MOD_handOut 176 = .ok (.getfield 32, 3) := by decide +kernel
theorem nD_MOD_handOut_179 : decode nC_MOD_handOut 179 = .ok (.aload_n 0, 1) := by decide +kernel
theorem nD_MOD_handOut_180 : decode nC_MOD_handOut 180 = .ok (.getfield 16, 3) := by decide +kernel
theorem nD_MOD_handOut_183 : decode nC_MOD_handOut 183 = .ok (.iload_n 1, 1) := by decide +kernel
theorem nD_MOD_handOut_184 : decode nC_MOD_handOut 184 = .ok (.iaload, 1) := by decide +kernel
theorem nD_MOD_handOut_185 : decode nC_MOD_handOut 185 = .ok (.iaload, 1) := by decide +kernel
theorem nD_MOD_handOut_186 : decode nC_MOD_handOut 186 = .ok (.iastore, 1) := by decide +kernel
theorem nD_MOD_handOut_187 : decode nC_MOD_handOut 187 = .ok (.goto 154, 3) := by decide +kernel
theorem nD_MOD_handOut_190 : decode nC_MOD_handOut 190 = .ok (.iload_n 2, 1) := by decide +kernel
theorem nD_MOD_handOut_191 : decode nC_MOD_handOut 191 = .ok (.bipush 8, 2) := by decide +kernel
theorem nD_MOD_handOut_193 : decode nC_MOD_handOut 193 = .ok (.if_icmp .ne 18, 3) := by decide +kernel
theorem nD_MOD_handOut_196 : decode nC_MOD_handOut 196 = .ok (.aload_n 0, 1) := by decide +kernel
theorem nD_MOD_handOut_197 : decode nC_MOD_handOut 197 = .ok (.getfield 35, 3) := by decide +kernel
theorem nD_MOD_handOut_200 : decode nC_MOD_handOut 200 = .ok (.iload_n 3, 1) := by decide +kernel
theorem nD_MOD_handOut_201 : decode nC_MOD_handOut 201 = .ok (.aload_n 0, 1) := by decide +kernel
theorem nD_MOD_handOut_202 : decode nC_MOD_handOut 202 = .ok (.getfield 22, 3) := by decide +kernel
theorem nD_MOD_handOut_205 : decode nC_MOD_handOut 205 = .ok (.iload_n 1, 1) := by decide +kernel
theorem nD_MOD_handOut_206 : decode nC_MOD_handOut 206 = .ok (.iaload, 1) := by decide +kernel
theorem nD_MOD_handOut_207 : decode nC_MOD_handOut 207 = .ok (.iastore, 1) := by decide +kernel
theorem nD_MOD_handOut_208 : decode nC_MOD_handOut 208 = .ok (.goto 133, 3) := by decide +kernel
theorem nD_MOD_handOut_211 : decode nC_MOD_handOut 211 = .ok (.iload_n 2, 1) := by decide +kernel
theorem nD_MOD_handOut_212 : decode nC_MOD_handOut 212 = .ok (.bipush 9, 2) := by decide +kernel
theorem nD_MOD_handOut_214 : decode nC_MOD_handOut 214 = .ok (.if_icmp .ne 30, 3) := by decide +kernel
theorem nD_MOD_handOut_217 : decode nC_MOD_handOut 217 = .ok (.aload_n 0, 1) := by decide +kernel
theorem nD_MOD_handOut_218 : decode nC_MOD_handOut 218 = .ok (.getfield 35, 3) := by decide +kernel
theorem nD_MOD_handOut_221 : decode nC_MOD_handOut 221 = .ok (.iload_n 3, 1) := by decide +kernel
theorem nD_MOD_handOut_222 : decode nC_MOD_handOut 222 = .ok (.aload_n 0, 1) := by decide +kernel
theorem nD_MOD_handOut_223 : decode nC_MOD_handOut 223 = .ok (.getfield 35, 3) := by decide +kernel
theorem nD_MOD_handOut_226 : decode nC_MOD_handOut 226 = .ok (.aload_n 0, 1) := by decide +kernel
theorem nD_MOD_handOut_227 : decode nC_MOD_handOut 227 = .ok (.getfield 16, 3) := by decide +kernel
theorem nD_MOD_handOut_230 : decode nC_MOD_handOut 230 = .ok (.iload_n 1, 1) := by decide +kernel
theorem nD_MOD_handOut_231 : decode nC_MOD_handOut 231 = .ok (.iaload, 1) := by decide +kernel
theorem nD_MOD_handOut_232 : decode nC_MOD_handOut 232 = .ok (.iaload, 1) := by decide +kernel
theorem nD_MOD_handOut_233 : decode nC_MOD_handOut 233 = .ok (.aload_n 0, 1) := by decide +kernel
theorem nD_MOD_handOut_234 : decode nC_MOD_handOut 234 = .ok (.getfield 22, 3) := by decide +kernel
theorem nD_MOD_handOut_237 : decode nC_MOD_handOut 237 = .ok (.iload_n 1, 1) := by decide +kernel
theorem nD_MOD_handOut_238 : decode nC_MOD_handOut 238 = .ok (.iaload, 1) := by decide +kernel
theorem nD_MOD_handOut_239 : decode nC_MOD_handOut 239 = .ok (.iadd, 1) := by decide +kernel
theorem nD_MOD_handOut_240 : decode nC_MOD_handOut 240 = .ok (.iastore, 1) := by decide +kernel
theorem nD_MOD_handOut_241 : decode nC_MOD_handOut 241 = .ok (.goto 100, 3) := by decide +kernel
theorem nD_MOD_handOut_244 : decode nC_MOD_handOut 244 = .ok (.iload_n 2, 1) := by decide +kernel
theorem nD_MOD_handOut_245 : decode nC_MOD_handOut 245 = .ok (.bipush 10, 2) := by decide +kernel
theorem nD_MOD_handOut_247 : decode nC_MOD_handOut 247 = .ok (.if_icmp .ne 42, 3) := by decide +kernel
theorem nD_MOD_handOut_250 : decode nC_MOD_handOut 250 = .ok (.aload_n 0, 1) := by decide +kernel
theorem nD_MOD_handOut_251 : decode nC_MOD_handOut 251 = .ok (.getfield 35, 3) := by decide +kernel
theorem nD_MOD_handOut_254 : decode nC_MOD_handOut 254 = .ok (.iload_n 3, 1) := by decide +kernel
theorem nD_MOD_handOut_255 : decode nC_MOD_handOut 255 = .ok (.dup2, 1) := by decide +kernel
theorem nD_MOD_handOut_256 : decode nC_MOD_handOut 256 = .ok (.iaload, 1) := by decide +kernel
theorem nD_MOD_handOut_257 : decode nC_MOD_handOut 257 = .ok (.iconst 1, 1) := by decide +kernel
theorem nD_MOD_handOut_258 : decode nC_MOD_handOut 258 = .ok (.isub, 1) := by decide +kernel
theorem nD_MOD_handOut_259 : decode nC_MOD_handOut 259 = .ok (.iastore, 1) := by decide +kernel
theorem nD_MOD_handOut_260 : decode nC_MOD_handOut 260 = .ok (.aload_n 0, 1) := by decide +kernel
theorem nD_MOD_handOut_261 : decode nC_MOD_handOut 261 = .ok (.aload_n 0, 1) := by decide +kernel
theorem nD_MOD_handOut_262 : decode nC_MOD_handOut 262 = .ok (.getfield 35, 3) := by decide +kernel
theorem nD_MOD_handOut_265 : decode nC_MOD_handOut 265 = .ok (.iload_n 3, 1) := by decide +kernel
theorem nD_MOD_handOut_266 : decode nC_MOD_handOut 266 = .ok (.iaload, 1) := by decide +kernel
theorem nD_MOD_handOut_267 : decode nC_MOD_handOut 267 = .ok (.ifCond .eq 12, 3) := by decide +kernel
theorem nD_MOD_handOut_270 : decode nC_MOD_handOut 270 = .ok (.aload_n 0, 1) := by decide +kernel
theorem nD_MOD_handOut_271 : decode nC_MOD_handOut 271 = .ok (.getfield 22, 3) := by decide +kernel
theorem nD_MOD_handOut_274 : decode nC_MOD_handOut 274 = .ok (.iload_n 1, 1) := by decide +kernel
theorem nD_MOD_handOut_275 : decode nC_MOD_handOut 275 = .ok (.iaload, 1) := by decide +kernel
theorem nD_MOD_handOut_276 : decode nC_MOD_handOut 276 = .ok (.goto 7, 3) := by decide +kernel
theorem nD_MOD_handOut_279 : decode nC_MOD_handOut 279 = .ok (.aload_n 0, 1) := by decide +kernel
theorem nD_MOD_handOut_280 : decode nC_MOD_handOut 280 = .ok (.getfield 155, 3) := by decide +kernel
theorem nD_MOD_handOut_283 : decode nC_MOD_handOut 283 = .ok (.putfield 155, 3) := by decide +kernel
theorem nD_MOD_handOut_286 : decode nC_MOD_handOut 286 = .ok (.goto 55, 3) := by decide +kernel
theorem nD_MOD_handOut_289 : decode nC_MOD_handOut 289 = .ok (.iload_n 2, 1) := by decide +kernel
theorem nD_MOD_handOut_290 : decode nC_MOD_handOut 290 = .ok (.bipush 11, 2) := by decide +kernel
theorem nD_MOD_handOut_292 : decode nC_MOD_handOut 292 = .ok (.if_icmp .ne 38, 3) := by decide +kernel
theorem nD_MOD_handOut_295 : decode nC_MOD_handOut 295 = .ok (.aload_n 0, 1) := by decide +kernel
theorem nD_MOD_handOut_296 : decode nC_MOD_handOut 296 = .ok (.iload_n 3, 1) := by decide +kernel
theorem nD_MOD_handOut_297 : decode nC_MOD_handOut 297 = .ok (.iconst 3, 1) := by decide +kernel
theorem nD_MOD_handOut_298 : decode nC_MOD_handOut 298 = .ok (.if_icmp .eq 13, 3) := by decide +kernel
theorem nD_MOD_handOut_301 : decode nC_MOD_handOut 301 = .ok (.aload_n 0, 1) := by decide +kernel
theorem nD_MOD_handOut_302 : decode nC_MOD_handOut 302 = .ok (.getfield 29, 3) := by decide +kernel
theorem nD_MOD_handOut_305 : decode nC_MOD_handOut 305 = .ok (.iconst 4, 1) := by decide +kernel
theorem nD_MOD_handOut_306 : decode nC_MOD_handOut 306 = .ok (.iaload, 1) := by decide +kernel
theorem nD_MOD_handOut_307 : decode nC_MOD_handOut 307 = .ok (.iload_n 3, 1) := by decide +kernel
theorem nD_MOD_handOut_308 : decode nC_MOD_handOut 308 = .ok (.if_icmp .ne 12, 3) := by decide +kernel
theorem nD_MOD_handOut_311 : decode nC_MOD_handOut 311 = .ok (.aload_n 0, 1) := by decide +kernel
theorem nD_MOD_handOut_312 : decode nC_MOD_handOut 312 = .ok (.getfield 22, 3) := by decide +kernel
theorem nD_MOD_handOut_315 : decode nC_MOD_handOut 315 = .ok (.iload_n 1, 1) := by decide +kernel
theorem nD_MOD_handOut_316 : decode nC_MOD_handOut 316 = .ok (.iaload, 1) := by decide +kernel
theorem nD_MOD_handOut_317 : decode nC_MOD_handOut 317 = .ok (.goto 7, 3) := by decide +kernel
theorem nD_MOD_handOut_320 : decode nC_MOD_handOut 320 = .ok (.aload_n 0, 1) := by decide +kernel
theorem nD_MOD_handOut_321 : decode nC_MOD_handOut 321 = .ok (.getfield 155, 3) := by decide +kernel
theorem nD_MOD_handOut_324 : decode nC_MOD_handOut 324 = .ok (.putfield 155, 3) := by decide +kernel
theorem nD_MOD_handOut_327 : decode nC_MOD_handOut 327 = .ok (.goto 14, 3) := by decide +kernel
theorem nD_MOD_handOut_330 : decode nC_MOD_handOut 330 = .ok (.iload_n 2, 1) := by decide +kernel
theorem nD_MOD_handOut_331 : decode nC_MOD_handOut 331 = .ok (.bipush 12, 2) := by decide +kernel
theorem nD_MOD_handOut_333 : decode nC_MOD_handOut 333 = .ok (.if_icmp .ne 8, 3) := by decide +kernel
theorem nD_MOD_handOut_336 : decode nC_MOD_handOut 336 = .ok (.aload_n 0, 1) := by decide +kernel
theorem nD_MOD_handOut_337 : decode nC_MOD_handOut 337 = .ok (.iconst 1, 1) := by decide +kernel
theorem nD_MOD_handOut_338 : decode nC_MOD_handOut 338 = .ok (.putfield 25, 3) := by decide +kernel
theorem nD_MOD_handOut_341 : decode nC_MOD_handOut 341 = .ok (.return_, 1) := by decide +kernel
theorem nD_MOD_cycle_0 : decode nC_MOD_cycle 0 = .ok (.aload_n 0, 1) := by decide +kernel
theorem nD_MOD_cycle_1 : decode nC_MOD_cycle 1 = .ok (.dup, 1) := by decide +kernel
theorem nD_MOD_cycle_2 : decode nC_MOD_cycle 2 = .ok (.getfield 197, 3) := by decide +kernel
theorem nD_MOD_cycle_5 : decode nC_MOD_cycle 5 = .ok (.iconst 1, 1) := by decide +kernel
theorem nD_MOD_cycle_6 : decode nC_MOD_cycle 6 = .ok (.iadd, 1) := by decide +kernel
theorem nD_MOD_cycle_7 : decode nC_MOD_cycle 7 = .ok (.putfield 197, 3) := by decide +kernel
theorem nD_MOD_cycle_10 : decode nC_MOD_cycle 10 = .ok (.aload_n 0, 1) := by decide +kernel
theorem nD_MOD_cycle_11 : decode nC_MOD_cycle 11 = .ok (.invokevirtual 200, 3) := by decide +kernel
theorem nD_MOD_cycle_14 : decode nC_MOD_cycle 14 = .ok (.aload_n 0, 1) := by decide +kernel
theorem nD_MOD_cycle_15 : decode nC_MOD_cycle 15 = .ok (.invokevirtual 203, 3) := by decide +kernel
theorem nD_MOD_cycle_18 : decode nC_MOD_cycle 18 = .ok (.aload_n 0, 1) := by decide +kernel
theorem nD_MOD_cycle_19 : decode nC_MOD_cycle 19 = .ok (.invokevirtual 206, 3) := by decide +kernel
theorem nD_MOD_cycle_22 : decode nC_MOD_cycle 22 = .ok (.aload_n 0, 1) := by decide +kernel
theorem nD_MOD_cycle_23 : decode nC_MOD_cycle 23 = .ok (.getfield 25, 3) := by decide +kernel
theorem nD_MOD_cycle_26 : decode nC_MOD_cycle 26 = .ok (.ifCond .ne 14, 3) := by decide +kernel
theorem nD_MOD_cycle_29 : decode nC_MOD_cycle 29 = .ok (.aload_n 0, 1) := by decide +kernel
theorem nD_MOD_cycle_30 : decode nC_MOD_cycle 30 = .ok (.getfield 158, 3) := by decide +kernel
theorem nD_MOD_cycle_33 : decode nC_MOD_cycle 33 = .ok (.ifCond .ne 7, 3) := by decide +kernel
theorem nD_MOD_cycle_36 : decode nC_MOD_cycle 36 = .ok (.aload_n 0, 1) := by decide +kernel
theorem nD_MOD_cycle_37 : decode nC_MOD_cycle 37 = .ok (.invokevirtual 209, 3) := by decide +kernel
theorem nD_MOD_cycle_40 : decode nC_MOD_cycle 40 = .ok (.aload_n 0, 1) := by decide +kernel
theorem nD_MOD_cycle_41 : decode nC_MOD_cycle 41 = .ok (.aload_n 0, 1) := by decide +kernel
theorem nD_MOD_cycle_42 : decode nC_MOD_cycle 42 = .ok (.getfield 158, 3) := by decide +kernel
theorem nD_MOD_cycle_45 : decode nC_MOD_cycle 45 = .ok (.ifCond .eq 7, 3) := by decide +kernel
theorem nD_MOD_cycle_48 : decode nC_MOD_cycle 48 = .ok (.iconst 1, 1) := by decide +kernel
theorem nD_MOD_cycle_49 : decode nC_MOD_cycle 49 = .ok (.goto 7, 3) := by decide +kernel
theorem nD_MOD_cycle_52 : decode nC_MOD_cycle 52 = .ok (.aload_n 0, 1) := by decide +kernel
theorem nD_MOD_cycle_53 : decode nC_MOD_cycle 53 = .ok (.getfield 25, 3) := by decide +kernel
theorem nD_MOD_cycle_56 : decode nC_MOD_cycle 56 = .ok (.putfield 25, 3) := by decide +kernel
theorem nD_MOD_cycle_59 : decode nC_MOD_cycle 59 = .ok (.iconst 1, 1) := by decide +kernel
theorem nD_MOD_cycle_60 : decode nC_MOD_cycle 60 = .ok (.istore_n 1, 1) := by decide +kernel
theorem nD_MOD_cycle_61 : decode nC_MOD_cycle 61 = .ok (.iconst 1, 1) := by decide +kernel
theorem nD_MOD_cycle_62 : decode nC_MOD_cycle 62 = .ok (.istore_n 2, 1) := by decide +kernel
theorem nD_MOD_cycle_63 : decode nC_MOD_cycle 63 = .ok (.iload_n 2, 1) := by decide +kernel
theorem nD_MOD_cycle_64 : decode nC_MOD_cycle 64 = .ok (.bipush 13, 2) := by decide +kernel
theorem nD_MOD_cycle_66 : decode nC_MOD_cycle 66 = .ok (.if_icmp .ge 28, 3) := by decide +kernel
theorem nD_MOD_cycle_69 : decode nC_MOD_cycle 69 = .ok (.iload_n 1, 1) := by decide +kernel
theorem nD_MOD_cycle_70 : decode nC_MOD_cycle 70 = .ok (.ifCond .eq 16, 3) := by decide +kernel
theorem nD_MOD_cycle_73 : decode nC_MOD_cycle 73 = .ok (.aload_n 0, 1) := by decide +kernel
theorem nD_MOD_cycle_74 : decode nC_MOD_cycle 74 = .ok (.getfield 41, 3) := by decide +kernel
theorem nD_MOD_cycle_77 : decode nC_MOD_cycle 77 = .ok (.iload_n 2, 1) := by decide +kernel
theorem nD_MOD_cycle_78 : decode nC_MOD_cycle 78 = .ok (.iaload, 1) := by decide +kernel
theorem nD_MOD_cycle_79 : decode nC_MOD_cycle 79 = .ok (.ifCond .ne 7, 3) := by decide +kernel
theorem nD_MOD_cycle_82 : decode nC_MOD_cycle 82 = .ok (.iconst 1, 1) := by decide +kernel
theorem nD_MOD_cycle_83 : decode nC_MOD_cycle 83 = .ok (.goto 4, 3) := by decide +kernel
theorem nD_MOD_cycle_86 : decode nC_MOD_cycle 86 = .ok (.iconst 0, 1) := by decide +kernel
theorem nD_MOD_cycle_87 : decode nC_MOD_cycle 87 = .ok (.istore_n 1, 1) := by decide +kernel
theorem nD_MOD_cycle_88 : decode nC_MOD_cycle 88 = .ok (.iinc 2 1, 3) := by decide +kernel
theorem nD_MOD_cycle_91 : decode nC_MOD_cycle 91 = .ok (.goto (-28), 3) := by decide +kernel
theorem nD_MOD_cycle_94 : decode nC_MOD_cycle 94 = .ok (.aload_n 0, 1) := by decide +kernel
theorem nD_MOD_cycle_95 : decode nC_MOD_cycle 95 = .ok (.aload_n 0, 1) := by decide +kernel
theorem nD_MOD_cycle_96 : decode nC_MOD_cycle 96 = .ok (.getfield 25, 3) := by decide +kernel
theorem nD_MOD_cycle_99 : decode nC_MOD_cycle 99 = .ok (.iconst 1, 1) := by decide +kernel
theorem nD_MOD_cycle_100 : decode nC_MOD_cycle 100 = .ok (.if_icmp .ne 22, 3) := by decide +kernel
theorem nD_MOD_cycle_103 : decode nC_MOD_cycle 103 = .ok (.iload_n 1, 1) := by decide +kernel
theorem nD_MOD_cycle_104 : decode nC_MOD_cycle 104 = .ok (.ifCond .eq 18, 3) := by decide +kernel
theorem nD_MOD_cycle_107 : decode nC_MOD_cycle 107 = .ok (.aload_n 0, 1) := by decide +kernel
theorem nD_MOD_cycle_108 : decode nC_MOD_cycle 108 = .ok (.getfield 158, 3) := by decide +kernel
theorem nD_MOD_cycle_111 : decode nC_MOD_cycle 111 = .ok (.ifCond .eq 7, 3) := by decide +kernel
theorem nD_MOD_cycle_114 : decode nC_MOD_cycle 114 = .ok (.iconst 3, 1) := by decide +kernel
theorem nD_MOD_cycle_115 : decode nC_MOD_cycle 115 = .ok (.goto 11, 3) := by decide +kernel
theorem nD_MOD_cycle_118 : decode nC_MOD_cycle 118 = .ok (.iconst 2, 1) := by decide +kernel
theorem nD_MOD_cycle_119 : decode nC_MOD_cycle 119 = .ok (.goto 7, 3) := by decide +kernel
theorem nD_MOD_cycle_122 : decode nC_MOD_cycle 122 = .ok (.aload_n 0, 1) := by decide +kernel
theorem nD_MOD_cycle_123 : decode nC_MOD_cycle 123 = .ok (.getfield 25, 3) := by decide +kernel
theorem nD_MOD_cycle_126 : decode nC_MOD_cycle 126 = .ok (.putfield 25, 3) := by decide +kernel
theorem nD_MOD_cycle_129 : decode nC_MOD_cycle 129 = .ok (.return_, 1) := by decide +kernel
theorem nD_MOD_run_0 : decode nC_MOD_run 0 = .ok (.aload_n 0, 1) := by decide +kernel
theorem nD_MOD_run_1 : decode nC_MOD_run 1 = .ok (.iload_n 1, 1) := by decide +kernel
theorem nD_MOD_run_2 : decode nC_MOD_run 2 = .ok (.iconst 1, 1) := by decide +kernel
theorem nD_MOD_run_3 : decode nC_MOD_run 3 = .ok (.if_icmp .lt 10, 3) := by decide +kernel
theorem nD_MOD_run_6 : decode nC_MOD_run 6 = .ok (.iload_n 1, 1) := by decide +kernel
theorem nD_MOD_run_7 : decode nC_MOD_run 7 = .ok (.sipush 300, 3) := by decide +kernel
theorem nD_MOD_run_10 : decode nC_MOD_run 10 = .ok (.if_icmp .le 7, 3) := by decide +kernel
theorem nD_MOD_run_13 : decode nC_MOD_run 13 = .ok (.iconst 1, 1) := by decide +kernel
theorem nD_MOD_run_14 : decode nC_MOD_run 14 = .ok (.goto 15, 3) := by decide +kernel
theorem nD_MOD_run_17 : decode nC_MOD_run 17 = .ok (.aload_n 0, 1) := by decide +kernel
theorem nD_MOD_run_18 : decode nC_MOD_run 18 = .ok (.invokevirtual 151, 3) := by decide +kernel
theorem nD_MOD_run_21 : decode nC_MOD_run 21 = .ok (.ifCond .ne 7, 3) := by decide +kernel
theorem nD_MOD_run_24 : decode nC_MOD_run 24 = .ok (.iconst 2, 1) := by decide +kernel
theorem nD_MOD_run_25 : decode nC_MOD_run 25 = .ok (.goto 4, 3) := by decide +kernel
theorem nD_MOD_run_28 : decode nC_MOD_run 28 = .ok (.iconst 0, 1) := by decide +kernel
theorem nD_MOD_run_29 : decode nC_MOD_run 29 = .ok (.putfield 78, 3) := by decide +kernel
theorem nD_MOD_run_32 : decode nC_MOD_run 32 = .ok (.iconst 0, 1) := by decide +kernel
theorem nD_MOD_run_33 : decode nC_MOD_run 33 = .ok (.istore_n 2, 1) := by decide +kernel
theorem nD_MOD_run_34 : decode nC_MOD_run 34 = .ok (.aload_n 0, 1) := by decide +kernel
theorem nD_MOD_run_35 : decode nC_MOD_run 35 = .ok (.getfield 78, 3) := by decide +kernel
theorem nD_MOD_run_38 : decode nC_MOD_run 38 = .ok (.ifCond .ne 25, 3) := by decide +kernel
theorem nD_MOD_run_41 : decode nC_MOD_run 41 = .ok (.iload_n 2, 1) := by decide +kernel
theorem nD_MOD_run_42 : decode nC_MOD_run 42 = .ok (.iload_n 1, 1) := by decide +kernel
theorem nD_MOD_run_43 : decode nC_MOD_run 43 = .ok (.if_icmp .ge 20, 3) := by decide +kernel
theorem nD_MOD_run_46 : decode nC_MOD_run 46 = .ok (.aload_n 0, 1) := by decide +kernel
theorem nD_MOD_run_47 : decode nC_MOD_run 47 = .ok (.invokevirtual 151, 3) := by decide +kernel
theorem nD_MOD_run_50 : decode nC_MOD_run 50 = .ok (.ifCond .eq 13, 3) := by decide +kernel
theorem nD_MOD_run_53 : decode nC_MOD_run 53 = .ok (.aload_n 0, 1) := by decide +kernel
theorem nD_MOD_run_54 : decode nC_MOD_run 54 = .ok (.invokevirtual 212, 3) := by decide +kernel
theorem nD_MOD_run_57 : decode nC_MOD_run 57 = .ok (.iinc 2 1, 3) := by decide +kernel
theorem nD_MOD_run_60 : decode nC_MOD_run 60 = .ok (.goto (-26), 3) := by decide +kernel
theorem nD_MOD_run_63 : decode nC_MOD_run 63 = .ok (.iload_n 2, 1) := by decide +kernel
theorem nD_MOD_run_64 : decode nC_MOD_run 64 = .ok (.ireturn, 1) := by decide +kernel
theorem nD_MOD_floating_0 : decode nC_MOD_floating 0 = .ok (.aload_n 0, 1) := by decide +kernel
theorem nD_MOD_floating_1 : decode nC_MOD_floating 1 = .ok (.iconst 0, 1) := by decide +kernel
theorem nD_MOD_floating_2 : decode nC_MOD_floating 2 = .ok (.putfield 78, 3) := by decide +kernel
theorem nD_MOD_floating_5 : decode nC_MOD_floating 5 = .ok (.iload_n 1, 1) := by decide +kernel
theorem nD_MOD_floating_6 : decode nC_MOD_floating 6 = .ok (.invokestatic 145, 3) := by decide +kernel
theorem nD_MOD_floating_9 : decode nC_MOD_floating 9 = .ok (.ifCond .eq 12, 3) := by decide +kernel
theorem nD_MOD_floating_12 : decode nC_MOD_floating 12 = .ok (.aload_n 0, 1) := by decide +kernel
theorem nD_MOD_floating_13 : decode nC_MOD_floating 13 = .ok (.getfield 29, 3) := by decide +kernel
theorem nD_MOD_floating_16 : decode nC_MOD_floating 16 = .ok (.iload_n 1, 1) := by decide +kernel
theorem nD_MOD_floating_17 : decode nC_MOD_floating 17 = .ok (.iaload, 1) := by decide +kernel
theorem nD_MOD_floating_18 : decode nC_MOD_floating 18 = .ok (.goto 4, 3) := by decide +kernel
theorem nD_MOD_floating_21 : decode nC_MOD_floating 21 = .ok (.iconst 0, 1) := by decide +kernel
theorem nD_MOD_floating_22 : decode nC_MOD_floating 22 = .ok (.ireturn, 1) := by decide +kernel
theorem nD_MOD_general_0 : decode nC_MOD_general 0 = .ok (.aload_n 0, 1) := by decide +kernel
theorem nD_MOD_general_1 : decode nC_MOD_general 1 = .ok (.iconst 0, 1) := by decide +kernel
theorem nD_MOD_general_2 : decode nC_MOD_general 2 = .ok (.putfield 78, 3) := by decide +kernel
theorem nD_MOD_general_5 : decode nC_MOD_general 5 = .ok (.iload_n 1, 1) := by decide +kernel
theorem nD_MOD_general_6 : decode nC_MOD_general 6 = .ok (.invokestatic 145, 3) := by decide +kernel
theorem nD_MOD_general_9 : decode nC_MOD_general 9 = .ok (.ifCond .eq 12, 3) := by decide +kernel
theorem nD_MOD_general_12 : decode nC_MOD_general 12 = .ok (.aload_n 0, 1) := by decide +kernel
theorem nD_MOD_general_13 : decode nC_MOD_general 13 = .ok (.getfield 35, 3) := by decide +kernel
theorem nD_MOD_general_16 : decode nC_MOD_general 16 = .ok (.iload_n 1, 1) := by decide +kernel
theorem nD_MOD_general_17 : decode nC_MOD_general 17 = .ok (.iaload, 1) := by decide +kernel
theorem nD_MOD_general_18 : decode nC_MOD_general 18 = .ok (.goto 4, 3) := by decide +kernel
theorem nD_MOD_general_21 : decode nC_MOD_general 21 = .ok (.iconst 0, 1) := by decide +kernel
theorem nD_MOD_general_22 : decode nC_MOD_general 22 = .ok (.ireturn, 1) := by decide +kernel
theorem nD_MOD_word_0 : decode nC_MOD_word 0 = .ok (.aload_n 0, 1) := by decide +kernel
theorem nD_MOD_word_1 : decode nC_MOD_word 1 = .ok (.iconst 0, 1) := by decide +kernel
theorem nD_MOD_word_2 : decode nC_MOD_word 2 = .ok (.putfield 78, 3) := by decide +kernel
theorem nD_MOD_word_5 : decode nC_MOD_word 5 = .ok (.iload_n 1, 1) := by decide +kernel
theorem nD_MOD_word_6 : decode nC_MOD_word 6 = .ok (.invokestatic 161, 3) := by decide +kernel
theorem nD_MOD_word_9 : decode nC_MOD_word 9 = .ok (.ifCond .eq 12, 3) := by decide +kernel
theorem nD_MOD_word_12 : decode nC_MOD_word 12 = .ok (.aload_n 0, 1) := by decide +kernel
theorem nD_MOD_word_13 : decode nC_MOD_word 13 = .ok (.getfield 38, 3) := by decide +kernel
theorem nD_MOD_word_16 : decode nC_MOD_word 16 = .ok (.iload_n 1, 1) := by decide +kernel
theorem nD_MOD_word_17 : decode nC_MOD_word 17 = .ok (.iaload, 1) := by decide +kernel
theorem nD_MOD_word_18 : decode nC_MOD_word 18 = .ok (.goto 4, 3) := by decide +kernel
theorem nD_MOD_word_21 : decode nC_MOD_word 21 = .ok (.iconst 0, 1) := by decide +kernel
theorem nD_MOD_word_22 : decode nC_MOD_word 22 = .ok (.ireturn, 1) := by decide +kernel
theorem nD_MOD_tag_0 : decode nC_MOD_tag 0 = .ok (.aload_n 0, 1) := by decide +kernel
theorem nD_MOD_tag_1 : decode nC_MOD_tag 1 = .ok (.iconst 0, 1) := by decide +kernel
theorem nD_MOD_tag_2 : decode nC_MOD_tag 2 = .ok (.putfield 78, 3) := by decide +kernel
theorem nD_MOD_tag_5 : decode nC_MOD_tag 5 = .ok (.iload_n 1, 1) := by decide +kernel
theorem nD_MOD_tag_6 : decode nC_MOD_tag 6 = .ok (.ifCond .lt 17, 3) := by decide +kernel
theorem nD_MOD_tag_9 : decode nC_MOD_tag 9 = .ok (.iload_n 1, 1) := by decide +kernel
theorem nD_MOD_tag_10 : decode nC_MOD_tag 10 = .ok (.iconst 4, 1) := by decide +kernel
theorem nD_MOD_tag_11 : decode nC_MOD_tag 11 = .ok (.if_icmp .gt 12, 3) := by decide +kernel
theorem nD_MOD_tag_14 : decode nC_MOD_tag 14 = .ok (.aload_n 0, 1) := by decide +kernel
theorem nD_MOD_tag_15 : decode nC_MOD_tag 15 = .ok (.getfield 32, 3) := by decide +kernel
theorem nD_MOD_tag_18 : decode nC_MOD_tag 18 = .ok (.iload_n 1, 1) := by decide +kernel
theorem nD_MOD_tag_19 : decode nC_MOD_tag 19 = .ok (.iaload, 1) := by decide +kernel
theorem nD_MOD_tag_20 : decode nC_MOD_tag 20 = .ok (.goto 4, 3) := by decide +kernel
theorem nD_MOD_tag_23 : decode nC_MOD_tag 23 = .ok (.iconst (-1), 1) := by decide +kernel
theorem nD_MOD_tag_24 : decode nC_MOD_tag 24 = .ok (.ireturn, 1) := by decide +kernel
theorem nD_MOD_place_0 : decode nC_MOD_place 0 = .ok (.aload_n 0, 1) := by decide +kernel
theorem nD_MOD_place_1 : decode nC_MOD_place 1 = .ok (.iconst 0, 1) := by decide +kernel
theorem nD_MOD_place_2 : decode nC_MOD_place 2 = .ok (.putfield 78, 3) := by decide +kernel
theorem nD_MOD_place_5 : decode nC_MOD_place 5 = .ok (.iload_n 1, 1) := by decide +kernel
theorem nD_MOD_place_6 : decode nC_MOD_place 6 = .ok (.iconst 1, 1) := by decide +kernel
theorem nD_MOD_place_7 : decode nC_MOD_place 7 = .ok (.if_icmp .lt 18, 3) := by decide +kernel
theorem nD_MOD_place_10 : decode nC_MOD_place 10 = .ok (.iload_n 1, 1) := by decide +kernel
theorem nD_MOD_place_11 : decode nC_MOD_place 11 = .ok (.bipush 12, 2) := by decide +kernel
theorem nD_MOD_place_13 : decode nC_MOD_place 13 = .ok (.if_icmp .gt 12, 3) := by decide +kernel
theorem nD_MOD_place_16 : decode nC_MOD_place 16 = .ok (.aload_n 0, 1) := by decide +kernel
theorem nD_MOD_place_17 : decode nC_MOD_place 17 = .ok (.getfield 41, 3) := by decide +kernel
theorem nD_MOD_place_20 : decode nC_MOD_place 20 = .ok (.iload_n 1, 1) := by decide +kernel
theorem nD_MOD_place_21 : decode nC_MOD_place 21 = .ok (.iaload, 1) := by decide +kernel
theorem nD_MOD_place_22 : decode nC_MOD_place 22 = .ok (.goto 4, 3) := by decide +kernel
theorem nD_MOD_place_25 : decode nC_MOD_place 25 = .ok (.iconst (-1), 1) := by decide +kernel
theorem nD_MOD_place_26 : decode nC_MOD_place 26 = .ok (.ireturn, 1) := by decide +kernel
theorem nD_MOD_about_0 : decode nC_MOD_about 0 = .ok (.aload_n 0, 1) := by decide +kernel
theorem nD_MOD_about_1 : decode nC_MOD_about 1 = .ok (.iconst 0, 1) := by decide +kernel
theorem nD_MOD_about_2 : decode nC_MOD_about 2 = .ok (.putfield 78, 3) := by decide +kernel
theorem nD_MOD_about_5 : decode nC_MOD_about 5 = .ok (.iload_n 1, 1) := by decide +kernel
theorem nD_MOD_about_6 : decode nC_MOD_about 6 = .ok (.tableswitch 79 0 6 #[42, 47, 52, 57, 64, 69, 74], 42) := by decide +kernel
theorem nD_MOD_about_48 : decode nC_MOD_about 48 = .ok (.aload_n 0, 1) := by decide +kernel
theorem nD_MOD_about_49 : decode nC_MOD_about 49 = .ok (.getfield 25, 3) := by decide +kernel
theorem nD_MOD_about_52 : decode nC_MOD_about 52 = .ok (.ireturn, 1) := by decide +kernel
theorem nD_MOD_about_53 : decode nC_MOD_about 53 = .ok (.aload_n 0, 1) := by decide +kernel
theorem nD_MOD_about_54 : decode nC_MOD_about 54 = .ok (.getfield 155, 3) := by decide +kernel
theorem nD_MOD_about_57 : decode nC_MOD_about 57 = .ok (.ireturn, 1) := by decide +kernel
theorem nD_MOD_about_58 : decode nC_MOD_about 58 = .ok (.aload_n 0, 1) := by decide +kernel
theorem nD_MOD_about_59 : decode nC_MOD_about 59 = .ok (.getfield 158, 3) := by decide +kernel
theorem nD_MOD_about_62 : decode nC_MOD_about 62 = .ok (.ireturn, 1) := by decide +kernel
theorem nD_MOD_about_63 : decode nC_MOD_about 63 = .ok (.aload_n 0, 1) := by decide +kernel
theorem nD_MOD_about_64 : decode nC_MOD_about 64 = .ok (.getfield 29, 3) := by decide +kernel
theorem nD_MOD_about_67 : decode nC_MOD_about 67 = .ok (.iconst 4, 1) := by decide +kernel
theorem nD_MOD_about_68 : decode nC_MOD_about 68 = .ok (.iaload, 1) := by decide +kernel
theorem nD_MOD_about_69 : decode nC_MOD_about 69 = .ok (.ireturn, 1) := by decide +kernel
theorem nD_MOD_about_70 : decode nC_MOD_about 70 = .ok (.aload_n 0, 1) := by decide +kernel
theorem nD_MOD_about_71 : decode nC_MOD_about 71 = .ok (.getfield 197, 3) := by decide +kernel
theorem nD_MOD_about_74 : decode nC_MOD_about 74 = .ok (.ireturn, 1) := by decide +kernel
theorem nD_MOD_about_75 : decode nC_MOD_about 75 = .ok (.aload_n 0, 1) := by decide +kernel
theorem nD_MOD_about_76 : decode nC_MOD_about 76 = .ok (.getfield 178, 3) := by decide +kernel
theorem nD_MOD_about_79 : decode nC_MOD_about 79 = .ok (.ireturn, 1) := by decide +kernel
theorem nD_MOD_about_80 : decode nC_MOD_about 80 = .ok (.aload_n 0, 1) := by decide +kernel
theorem nD_MOD_about_81 : decode nC_MOD_about 81 = .ok (.getfield 148, 3) := by decide +kernel
theorem nD_MOD_about_84 : decode nC_MOD_about 84 = .ok (.ireturn, 1) := by decide +kernel
theorem nD_MOD_about_85 : decode nC_MOD_about 85 = .ok (.iconst (-1), 1) := by decide +kernel
theorem nD_MOD_about_86 : decode nC_MOD_about 86 = .ok (.ireturn, 1) := by decide +kernel
