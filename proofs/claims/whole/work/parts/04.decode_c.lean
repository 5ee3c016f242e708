-- decode rows (written by program)
theorem nD_TM_note_0 : decode nC_TM_note 0 = .ok (.iload_n 1, 1) := by decide +kernel
theorem nD_TM_note_1 : decode nC_TM_note 1 = .ok (.ifCond .eq 18, 3) := by decide +kernel
theorem nD_TM_note_4 : decode nC_TM_note 4 = .ok (.aload_n 0, 1) := by decide +kernel
theorem nD_TM_note_5 : decode nC_TM_note 5 = .ok (.dup, 1) := by decide +kernel
theorem nD_TM_note_6 : decode nC_TM_note 6 = .ok (.getfield 94, 3) := by decide +kernel
theorem nD_TM_note_9 : decode nC_TM_note 9 = .ok (.iload_n 1, 1) := by decide +kernel
theorem nD_TM_note_10 : decode nC_TM_note 10 = .ok (.ior, 1) := by decide +kernel
theorem nD_TM_note_11 : decode nC_TM_note 11 = .ok (.putfield 94, 3) := by decide +kernel
theorem nD_TM_note_14 : decode nC_TM_note 14 = .ok (.aload_n 0, 1) := by decide +kernel
theorem nD_TM_note_15 : decode nC_TM_note 15 = .ok (.iconst 1, 1) := by decide +kernel
theorem nD_TM_note_16 : decode nC_TM_note 16 = .ok (.putfield 64, 3) := by decide +kernel
theorem nD_TM_note_19 : decode nC_TM_note 19 = .ok (.return_, 1) := by decide +kernel
theorem nD_TM_allFree_0 : decode nC_TM_allFree 0 = .ok (.iconst 1, 1) := by decide +kernel
theorem nD_TM_allFree_1 : decode nC_TM_allFree 1 = .ok (.istore_n 1, 1) := by decide +kernel
theorem nD_TM_allFree_2 : decode nC_TM_allFree 2 = .ok (.iload_n 1, 1) := by decide +kernel
theorem nD_TM_allFree_3 : decode nC_TM_allFree 3 = .ok (.bipush 12, 2) := by decide +kernel
theorem nD_TM_allFree_5 : decode nC_TM_allFree 5 = .ok (.if_icmp .gt 23, 3) := by decide +kernel
theorem nD_TM_allFree_8 : decode nC_TM_allFree 8 = .ok (.aload_n 0, 1) := by decide +kernel
theorem nD_TM_allFree_9 : decode nC_TM_allFree 9 = .ok (.getfield 41, 3) := by decide +kernel
theorem nD_TM_allFree_12 : decode nC_TM_allFree 12 = .ok (.iload_n 1, 1) := by decide +kernel
theorem nD_TM_allFree_13 : decode nC_TM_allFree 13 = .ok (.aaload, 1) := by decide +kernel
theorem nD_TM_allFree_14 : decode nC_TM_allFree 14 = .ok (.getfield 126, 3) := by decide +kernel
theorem nD_TM_allFree_17 : decode nC_TM_allFree 17 = .ok (.ifCond .eq 5, 3) := by decide +kernel
theorem nD_TM_allFree_20 : decode nC_TM_allFree 20 = .ok (.iconst 0, 1) := by decide +kernel
theorem nD_TM_allFree_21 : decode nC_TM_allFree 21 = .ok (.ireturn, 1) := by decide +kernel
theorem nD_TM_allFree_22 : decode nC_TM_allFree 22 = .ok (.iinc 1 1, 3) := by decide +kernel
theorem nD_TM_allFree_25 : decode nC_TM_allFree 25 = .ok (.goto (-23), 3) := by decide +kernel
theorem nD_TM_allFree_28 : decode nC_TM_allFree 28 = .ok (.iconst 1, 1) := by decide +kernel
theorem nD_TM_allFree_29 : decode nC_TM_allFree 29 = .ok (.ireturn, 1) := by decide +kernel
theorem nD_TM_firstLike_0 : decode nC_TM_firstLike 0 = .ok (.iload_n 2, 1) := by decide +kernel
theorem nD_TM_firstLike_1 : decode nC_TM_firstLike 1 = .ok (.istore 4, 2) := by decide +kernel
theorem nD_TM_firstLike_3 : decode nC_TM_firstLike 3 = .ok (.iload 4, 2) := by decide +kernel
theorem nD_TM_firstLike_5 : decode nC_TM_firstLike 5 = .ok (.iload_n 3, 1) := by decide +kernel
theorem nD_TM_firstLike_6 : decode nC_TM_firstLike 6 = .ok (.if_icmp .gt 26, 3) := by decide +kernel
theorem nD_TM_firstLike_9 : decode nC_TM_firstLike 9 = .ok (.aload_n 0, 1) := by decide +kernel
theorem nD_TM_firstLike_10 : decode nC_TM_firstLike 10 = .ok (.getfield 41, 3) := by decide +kernel
theorem nD_TM_firstLike_13 : decode nC_TM_firstLike 13 = .ok (.iload 4, 2) := by decide +kernel
theorem nD_TM_firstLike_15 : decode nC_TM_firstLike 15 = .ok (.aaload, 1) := by decide +kernel
theorem nD_TM_firstLike_16 : decode nC_TM_firstLike 16 = .ok (.getfield 126, 3) := by decide +kernel
theorem nD_TM_firstLike_19 : decode nC_TM_firstLike 19 = .ok (.iload_n 1, 1) := by decide +kernel
theorem nD_TM_firstLike_20 : decode nC_TM_firstLike 20 = .ok (.if_icmp .ne 6, 3) := by decide +kernel
theorem nD_TM_firstLike_23 : decode nC_TM_firstLike 23 = .ok (.iload 4, 2) := by decide +kernel
theorem nD_TM_firstLike_25 : decode nC_TM_firstLike 25 = .ok (.ireturn, 1) := by decide +kernel
theorem nD_TM_firstLike_26 : decode nC_TM_firstLike 26 = .ok (.iinc 4 1, 3) := by decide +kernel
theorem nD_TM_firstLike_29 : decode nC_TM_firstLike 29 = .ok (.goto (-26), 3) := by decide +kernel
theorem nD_TM_firstLike_32 : decode nC_TM_firstLike 32 = .ok (.iconst (-1), 1) := by decide +kernel
theorem nD_TM_firstLike_33 : decode nC_TM_firstLike 33 = .ok (.ireturn, 1) := by decide +kernel
theorem nD_TM_firstReady_0 : decode nC_TM_firstReady 0 = .ok (.iload_n 1, 1) := by decide +kernel
theorem nD_TM_firstReady_1 : decode nC_TM_firstReady 1 = .ok (.istore_n 3, 1) := by decide +kernel
theorem nD_TM_firstReady_2 : decode nC_TM_firstReady 2 = .ok (.iload_n 3, 1) := by decide +kernel
theorem nD_TM_firstReady_3 : decode nC_TM_firstReady 3 = .ok (.iload_n 2, 1) := by decide +kernel
theorem nD_TM_firstReady_4 : decode nC_TM_firstReady 4 = .ok (.if_icmp .gt 23, 3) := by decide +kernel
theorem nD_TM_firstReady_7 : decode nC_TM_firstReady 7 = .ok (.aload_n 0, 1) := by decide +kernel
theorem nD_TM_firstReady_8 : decode nC_TM_firstReady 8 = .ok (.getfield 41, 3) := by decide +kernel
theorem nD_TM_firstReady_11 : decode nC_TM_firstReady 11 = .ok (.iload_n 3, 1) := by decide +kernel
theorem nD_TM_firstReady_12 : decode nC_TM_firstReady 12 = .ok (.aaload, 1) := by decide +kernel
theorem nD_TM_firstReady_13 : decode nC_TM_firstReady 13 = .ok (.invokevirtual 160, 3) := by decide +kernel
theorem nD_TM_firstReady_16 : decode nC_TM_firstReady 16 = .ok (.ifCond .eq 5, 3) := by decide +kernel
theorem nD_TM_firstReady_19 : decode nC_TM_firstReady 19 = .ok (.iload_n 3, 1) := by decide +kernel
theorem nD_TM_firstReady_20 : decode nC_TM_firstReady 20 = .ok (.ireturn, 1) := by decide +kernel
theorem nD_TM_firstReady_21 : decode nC_TM_firstReady 21 = .ok (.iinc 3 1, 3) := by decide +kernel
theorem nD_TM_firstReady_24 : decode nC_TM_firstReady 24 = .ok (.goto (-22), 3) := by decide +kernel
theorem nD_TM_firstReady_27 : decode nC_TM_firstReady 27 = .ok (.iconst (-1), 1) := by decide +kernel
theorem nD_TM_firstReady_28 : decode nC_TM_firstReady 28 = .ok (.ireturn, 1) := by decide +kernel
theorem nD_TM_useBus_0 : decode nC_TM_useBus 0 = .ok (.aload_n 0, 1) := by decide +kernel
theorem nD_TM_useBus_1 : decode nC_TM_useBus 1 = .ok (.iconst 3, 1) := by decide +kernel
theorem nD_TM_useBus_2 : decode nC_TM_useBus 2 = .ok (.bipush 6, 2) := by decide +kernel
theorem nD_TM_useBus_4 : decode nC_TM_useBus 4 = .ok (.bipush 9, 2) := by decide +kernel
theorem nD_TM_useBus_6 : decode nC_TM_useBus 6 = .ok (.invokevirtual 163, 3) := by decide +kernel
theorem nD_TM_useBus_9 : decode nC_TM_useBus 9 = .ok (.istore_n 1, 1) := by decide +kernel
theorem nD_TM_useBus_10 : decode nC_TM_useBus 10 = .ok (.iload_n 1, 1) := by decide +kernel
theorem nD_TM_useBus_11 : decode nC_TM_useBus 11 = .ok (.iconst (-1), 1) := by decide +kernel
theorem nD_TM_useBus_12 : decode nC_TM_useBus 12 = .ok (.if_icmp .ne 11, 3) := by decide +kernel
theorem nD_TM_useBus_15 : decode nC_TM_useBus 15 = .ok (.aload_n 0, 1) := by decide +kernel
theorem nD_TM_useBus_16 : decode nC_TM_useBus 16 = .ok (.iconst 3, 1) := by decide +kernel
theorem nD_TM_useBus_17 : decode nC_TM_useBus 17 = .ok (.iconst 1, 1) := by decide +kernel
theorem nD_TM_useBus_18 : decode nC_TM_useBus 18 = .ok (.iconst 5, 1) := by decide +kernel
theorem nD_TM_useBus_19 : decode nC_TM_useBus 19 = .ok (.invokevirtual 163, 3) := by decide +kernel
theorem nD_TM_useBus_22 : decode nC_TM_useBus 22 = .ok (.istore_n 1, 1) := by decide +kernel
theorem nD_TM_useBus_23 : decode nC_TM_useBus 23 = .ok (.iload_n 1, 1) := by decide +kernel
theorem nD_TM_useBus_24 : decode nC_TM_useBus 24 = .ok (.iconst (-1), 1) := by decide +kernel
theorem nD_TM_useBus_25 : decode nC_TM_useBus 25 = .ok (.if_icmp .eq 8, 3) := by decide +kernel
theorem nD_TM_useBus_28 : decode nC_TM_useBus 28 = .ok (.aload_n 0, 1) := by decide +kernel
theorem nD_TM_useBus_29 : decode nC_TM_useBus 29 = .ok (.iload_n 1, 1) := by decide +kernel
theorem nD_TM_useBus_30 : decode nC_TM_useBus 30 = .ok (.invokevirtual 167, 3) := by decide +kernel
theorem nD_TM_useBus_33 : decode nC_TM_useBus 33 = .ok (.return_, 1) := by decide +kernel
theorem nD_TM_send_0 : decode nC_TM_send 0 = .ok (.aload_n 0, 1) := by decide +kernel
theorem nD_TM_send_1 : decode nC_TM_send 1 = .ok (.getfield 41, 3) := by decide +kernel
theorem nD_TM_send_4 : decode nC_TM_send 4 = .ok (.iload_n 1, 1) := by decide +kernel
theorem nD_TM_send_5 : decode nC_TM_send 5 = .ok (.aaload, 1) := by decide +kernel
theorem nD_TM_send_6 : decode nC_TM_send 6 = .ok (.astore_n 2, 1) := by decide +kernel
theorem nD_TM_send_7 : decode nC_TM_send 7 = .ok (.iconst 1, 1) := by decide +kernel
theorem nD_TM_send_8 : decode nC_TM_send 8 = .ok (.istore_n 3, 1) := by decide +kernel
theorem nD_TM_send_9 : decode nC_TM_send 9 = .ok (.iload_n 3, 1) := by decide +kernel
theorem nD_TM_send_10 : decode nC_TM_send 10 = .ok (.bipush 12, 2) := by decide +kernel
theorem nD_TM_send_12 : decode nC_TM_send 12 = .ok (.if_icmp .gt 23, 3) := by decide +kernel
theorem nD_TM_send_15 : decode nC_TM_send 15 = .ok (.aload_n 0, 1) := by decide +kernel
theorem nD_TM_send_16 : decode nC_TM_send 16 = .ok (.getfield 41, 3) := by decide +kernel
theorem nD_TM_send_19 : decode nC_TM_send 19 = .ok (.iload_n 3, 1) := by decide +kernel
theorem nD_TM_send_20 : decode nC_TM_send 20 = .ok (.aaload, 1) := by decide +kernel
theorem nD_TM_send_21 : decode nC_TM_send 21 = .ok (.iload_n 1, 1) := by decide +kernel
theorem nD_TM_send_22 : decode nC_TM_send 22 = .ok (.aload_n 2, 1) := by decide +kernel
theorem nD_TM_send_23 : decode nC_TM_send 23 = .ok (.getfield 170, 3) := by decide +kernel
theorem nD_TM_send_26 : decode nC_TM_send 26 = .ok (.invokevirtual 171, 3) := by decide +kernel
theorem nD_TM_send_29 : decode nC_TM_send 29 = .ok (.iinc 3 1, 3) := by decide +kernel
theorem nD_TM_send_32 : decode nC_TM_send 32 = .ok (.goto (-23), 3) := by decide +kernel
theorem nD_TM_send_35 : decode nC_TM_send 35 = .ok (.iconst 0, 1) := by decide +kernel
theorem nD_TM_send_36 : decode nC_TM_send 36 = .ok (.istore_n 3, 1) := by decide +kernel
theorem nD_TM_send_37 : decode nC_TM_send 37 = .ok (.iload_n 3, 1) := by decide +kernel
theorem nD_TM_send_38 : decode nC_TM_send 38 = .ok (.iconst 4, 1) := by decide +kernel
theorem nD_TM_send_39 : decode nC_TM_send 39 = .ok (.if_icmp .gt 23, 3) := by decide +kernel
theorem nD_TM_send_42 : decode nC_TM_send 42 = .ok (.aload_n 0, 1) := by decide +kernel
theorem nD_TM_send_43 : decode nC_TM_send 43 = .ok (.getfield 34, 3) := by decide +kernel
theorem nD_TM_send_46 : decode nC_TM_send 46 = .ok (.iload_n 3, 1) := by decide +kernel
theorem nD_TM_send_47 : decode nC_TM_send 47 = .ok (.aaload, 1) := by decide +kernel
theorem nD_TM_send_48 : decode nC_TM_send 48 = .ok (.iload_n 1, 1) := by decide +kernel
theorem nD_TM_send_49 : decode nC_TM_send 49 = .ok (.aload_n 2, 1) := by decide +kernel
theorem nD_TM_send_50 : decode nC_TM_send 50 = .ok (.getfield 170, 3) := by decide +kernel
theorem nD_TM_send_53 : decode nC_TM_send 53 = .ok (.invokevirtual 175, 3) := by decide +kernel
theorem nD_TM_send_56 : decode nC_TM_send 56 = .ok (.iinc 3 1, 3) := by decide +kernel
theorem nD_TM_send_59 : decode nC_TM_send 59 = .ok (.goto (-22), 3) := by decide +kernel
theorem nD_TM_send_62 : decode nC_TM_send 62 = .ok (.aload_n 2, 1) := by decide +kernel
theorem nD_TM_send_63 : decode nC_TM_send 63 = .ok (.iconst 0, 1) := by decide +kernel
theorem nD_TM_send_64 : decode nC_TM_send 64 = .ok (.putfield 126, 3) := by decide +kernel
theorem nD_TM_send_67 : decode nC_TM_send 67 = .ok (.aload_n 0, 1) := by decide +kernel
theorem nD_TM_send_68 : decode nC_TM_send 68 = .ok (.aload_n 2, 1) := by decide +kernel
theorem nD_TM_send_69 : decode nC_TM_send 69 = .ok (.getfield 176, 3) := by decide +kernel
theorem nD_TM_send_72 : decode nC_TM_send 72 = .ok (.invokevirtual 177, 3) := by decide +kernel
theorem nD_TM_send_75 : decode nC_TM_send 75 = .ok (.return_, 1) := by decide +kernel
theorem nD_TM_work_0 : decode nC_TM_work 0 = .ok (.iconst 1, 1) := by decide +kernel
theorem nD_TM_work_1 : decode nC_TM_work 1 = .ok (.istore_n 1, 1) := by decide +kernel
theorem nD_TM_work_2 : decode nC_TM_work 2 = .ok (.iload_n 1, 1) := by decide +kernel
theorem nD_TM_work_3 : decode nC_TM_work 3 = .ok (.bipush 12, 2) := by decide +kernel
theorem nD_TM_work_5 : decode nC_TM_work 5 = .ok (.if_icmp .gt 46, 3) := by decide +kernel
theorem nD_TM_work_8 : decode nC_TM_work 8 = .ok (.aload_n 0, 1) := by decide +kernel
theorem nD_TM_work_9 : decode nC_TM_work 9 = .ok (.getfield 41, 3) := by decide +kernel
theorem nD_TM_work_12 : decode nC_TM_work 12 = .ok (.iload_n 1, 1) := by decide +kernel
theorem nD_TM_work_13 : decode nC_TM_work 13 = .ok (.aaload, 1) := by decide +kernel
theorem nD_TM_work_14 : decode nC_TM_work 14 = .ok (.astore_n 2, 1) := by decide +kernel
theorem nD_TM_work_15 : decode nC_TM_work 15 = .ok (.aload_n 2, 1) := by decide +kernel
theorem nD_TM_work_16 : decode nC_TM_work 16 = .ok (.getfield 126, 3) := by decide +kernel
theorem nD_TM_work_19 : decode nC_TM_work 19 = .ok (.iconst 2, 1) := by decide +kernel
theorem nD_TM_work_20 : decode nC_TM_work 20 = .ok (.if_icmp .ne 25, 3) := by decide +kernel
theorem nD_TM_work_23 : decode nC_TM_work 23 = .ok (.aload_n 2, 1) := by decide +kernel
theorem nD_TM_work_24 : decode nC_TM_work 24 = .ok (.dup, 1) := by decide +kernel
theorem nD_TM_work_25 : decode nC_TM_work 25 = .ok (.getfield 180, 3) := by decide +kernel
theorem nD_TM_work_28 : decode nC_TM_work 28 = .ok (.iconst 1, 1) := by decide +kernel
theorem nD_TM_work_29 : decode nC_TM_work 29 = .ok (.isub, 1) := by decide +kernel
theorem nD_TM_work_30 : decode nC_TM_work 30 = .ok (.putfield 180, 3) := by decide +kernel
theorem nD_TM_work_33 : decode nC_TM_work 33 = .ok (.aload_n 2, 1) := by decide +kernel
theorem nD_TM_work_34 : decode nC_TM_work 34 = .ok (.getfield 180, 3) := by decide +kernel
theorem nD_TM_work_37 : decode nC_TM_work 37 = .ok (.ifCond .ne 8, 3) := by decide +kernel
theorem nD_TM_work_40 : decode nC_TM_work 40 = .ok (.aload_n 0, 1) := by decide +kernel
theorem nD_TM_work_41 : decode nC_TM_work 41 = .ok (.aload_n 2, 1) := by decide +kernel
theorem nD_TM_work_42 : decode nC_TM_work 42 = .ok (.invokevirtual 183, 3) := by decide +kernel
theorem nD_TM_work_45 : decode nC_TM_work 45 = .ok (.iinc 1 1, 3) := by decide +kernel
theorem nD_TM_work_48 : decode nC_TM_work 48 = .ok (.goto (-46), 3) := by decide +kernel
theorem nD_TM_work_51 : decode nC_TM_work 51 = .ok (.return_, 1) := by decide +kernel
theorem nD_TM_finishWork_0 : decode nC_TM_finishWork 0 = .ok (.aload_n 1, 1) := by decide +kernel
theorem nD_TM_finishWork_1 : decode nC_TM_finishWork 1 = .ok (.iconst 3, 1) := by decide +kernel
theorem nD_TM_finishWork_2 : decode nC_TM_finishWork 2 = .ok (.putfield 126, 3) := by decide +kernel
theorem nD_TM_finishWork_5 : decode nC_TM_finishWork 5 = .ok (.aload_n 1, 1) := by decide +kernel
theorem nD_TM_finishWork_6 : decode nC_TM_finishWork 6 = .ok (.getfield 187, 3) := by decide +kernel
theorem nD_TM_finishWork_9 : decode nC_TM_finishWork 9 = .ok (.invokestatic 190, 3) := by decide +kernel
theorem nD_TM_finishWork_12 : decode nC_TM_finishWork 12 = .ok (.ifCond .eq 14, 3) := by decide +kernel
theorem nD_TM_finishWork_15 : decode nC_TM_finishWork 15 = .ok (.aload_n 0, 1) := by decide +kernel
theorem nD_TM_finishWork_16 : decode nC_TM_finishWork 16 = .ok (.getfield 53, 3) := by decide +kernel
theorem nD_TM_finishWork_19 : decode nC_TM_finishWork 19 = .ok (.aload_n 0, 1) := by decide +kernel
theorem nD_TM_finishWork_20 : decode nC_TM_finishWork 20 = .ok (.aload_n 1, 1) := by decide +kernel
theorem nD_TM_finishWork_21 : decode nC_TM_finishWork 21 = .ok (.invokevirtual 193, 3) := by decide +kernel
theorem nD_TM_finishWork_24 : decode nC_TM_finishWork 24 = .ok (.iconst 0, 1) := by decide +kernel
theorem nD_TM_finishWork_25 : decode nC_TM_finishWork 25 = .ok (.bastore, 1) := by decide +kernel
theorem nD_TM_finishWork_26 : decode nC_TM_finishWork 26 = .ok (.aload_n 1, 1) := by decide +kernel
theorem nD_TM_finishWork_27 : decode nC_TM_finishWork 27 = .ok (.getfield 187, 3) := by decide +kernel
theorem nD_TM_finishWork_30 : decode nC_TM_finishWork 30 = .ok (.iconst 1, 1) := by decide +kernel
theorem nD_TM_finishWork_31 : decode nC_TM_finishWork 31 = .ok (.if_icmp .ne 24, 3) := by decide +kernel
theorem nD_TM_finishWork_34 : decode nC_TM_finishWork 34 = .ok (.aload_n 0, 1) := by decide +kernel
theorem nD_TM_finishWork_35 : decode nC_TM_finishWork 35 = .ok (.getfield 50, 3) := by decide +kernel
theorem nD_TM_finishWork_38 : decode nC_TM_finishWork 38 = .ok (.aload_n 1, 1) := by decide +kernel
theorem nD_TM_finishWork_39 : decode nC_TM_finishWork 39 = .ok (.getfield 197, 3) := by decide +kernel
theorem nD_TM_finishWork_42 : decode nC_TM_finishWork 42 = .ok (.aload_n 1, 1) := by decide +kernel
theorem nD_TM_finishWork_43 : decode nC_TM_finishWork 43 = .ok (.getfield 200, 3) := by decide +kernel
theorem nD_TM_finishWork_46 : decode nC_TM_finishWork 46 = .ok (.getfield 120, 3) := by decide +kernel
theorem nD_TM_finishWork_49 : decode nC_TM_finishWork 49 = .ok (.iastore, 1) := by decide +kernel
theorem nD_TM_finishWork_50 : decode nC_TM_finishWork 50 = .ok (.aload_n 1, 1) := by decide +kernel
theorem nD_TM_finishWork_51 : decode nC_TM_finishWork 51 = .ok (.iconst 0, 1) := by decide +kernel
theorem nD_TM_finishWork_52 : decode nC_TM_finishWork 52 = .ok (.putfield 126, 3) := by decide +kernel
theorem nD_TM_finishWork_55 : decode nC_TM_finishWork 55 = .ok (.return_, 1) := by decide +kernel
theorem nD_TM_bankOf_0 : decode nC_TM_bankOf 0 = .ok (.aload_n 1, 1) := by decide +kernel
theorem nD_TM_bankOf_1 : decode nC_TM_bankOf 1 = .ok (.getfield 197, 3) := by decide +kernel
theorem nD_TM_bankOf_4 : decode nC_TM_bankOf 4 = .ok (.aload_n 0, 1) := by decide +kernel
theorem nD_TM_bankOf_5 : decode nC_TM_bankOf 5 = .ok (.getfield 18, 3) := by decide +kernel
theorem nD_TM_bankOf_8 : decode nC_TM_bankOf 8 = .ok (.irem, 1) := by decide +kernel
theorem nD_TM_bankOf_9 : decode nC_TM_bankOf 9 = .ok (.ireturn, 1) := by decide +kernel
theorem nD_TM_nextOfMultiplier_0 : decode nC_TM_nextOfMultiplier 0 = .ok (.aload_n 0, 1) := by decide +kernel
theorem nD_TM_nextOfMultiplier_1 : decode nC_TM_nextOfMultiplier 1 = .ok (.iconst 2, 1) := by decide +kernel
theorem nD_TM_nextOfMultiplier_2 : decode nC_TM_nextOfMultiplier 2 = .ok (.iconst 4, 1) := by decide +kernel
theorem nD_TM_nextOfMultiplier_3 : decode nC_TM_nextOfMultiplier 3 = .ok (.iconst 5, 1) := by decide +kernel
theorem nD_TM_nextOfMultiplier_4 : decode nC_TM_nextOfMultiplier 4 = .ok (.invokevirtual 163, 3) := by decide +kernel
theorem nD_TM_nextOfMultiplier_7 : decode nC_TM_nextOfMultiplier 7 = .ok (.iconst (-1), 1) := by decide +kernel
theorem nD_TM_nextOfMultiplier_8 : decode nC_TM_nextOfMultiplier 8 = .ok (.if_icmp .eq 7, 3) := by decide +kernel
theorem nD_TM_nextOfMultiplier_11 : decode nC_TM_nextOfMultiplier 11 = .ok (.iconst 1, 1) := by decide +kernel
theorem nD_TM_nextOfMultiplier_12 : decode nC_TM_nextOfMultiplier 12 = .ok (.goto 4, 3) := by decide +kernel
theorem nD_TM_nextOfMultiplier_15 : decode nC_TM_nextOfMultiplier 15 = .ok (.iconst 0, 1) := by decide +kernel
theorem nD_TM_nextOfMultiplier_16 : decode nC_TM_nextOfMultiplier 16 = .ok (.istore_n 1, 1) := by decide +kernel
theorem nD_TM_nextOfMultiplier_17 : decode nC_TM_nextOfMultiplier 17 = .ok (.iload_n 1, 1) := by decide +kernel
theorem nD_TM_nextOfMultiplier_18 : decode nC_TM_nextOfMultiplier 18 = .ok (.ifCond .eq 7, 3) := by decide +kernel
theorem nD_TM_nextOfMultiplier_21 : decode nC_TM_nextOfMultiplier 21 = .ok (.iconst (-1), 1) := by decide +kernel
theorem nD_TM_nextOfMultiplier_22 : decode nC_TM_nextOfMultiplier 22 = .ok (.goto 9, 3) := by decide +kernel
theorem nD_TM_nextOfMultiplier_25 : decode nC_TM_nextOfMultiplier 25 = .ok (.aload_n 0, 1) := by decide +kernel
theorem nD_TM_nextOfMultiplier_26 : decode nC_TM_nextOfMultiplier 26 = .ok (.iconst 4, 1) := by decide +kernel
theorem nD_TM_nextOfMultiplier_27 : decode nC_TM_nextOfMultiplier 27 = .ok (.iconst 5, 1) := by decide +kernel
theorem nD_TM_nextOfMultiplier_28 : decode nC_TM_nextOfMultiplier 28 = .ok (.invokevirtual 141, 3) := by decide +kernel
theorem nD_TM_nextOfMultiplier_31 : decode nC_TM_nextOfMultiplier 31 = .ok (.ireturn, 1) := by decide +kernel
theorem nD_TM_beginStation_0 : decode nC_TM_beginStation 0 = .ok (.iload_n 1, 1) := by decide +kernel
theorem nD_TM_beginStation_1 : decode nC_TM_beginStation 1 = .ok (.iconst (-1), 1) := by decide +kernel
theorem nD_TM_beginStation_2 : decode nC_TM_beginStation 2 = .ok (.if_icmp .eq 62, 3) := by decide +kernel
theorem nD_TM_beginStation_5 : decode nC_TM_beginStation 5 = .ok (.aload_n 0, 1) := by decide +kernel
theorem nD_TM_beginStation_6 : decode nC_TM_beginStation 6 = .ok (.getfield 41, 3) := by decide +kernel
theorem nD_TM_beginStation_9 : decode nC_TM_beginStation 9 = .ok (.iload_n 1, 1) := by decide +kernel
theorem nD_TM_beginStation_10 : decode nC_TM_beginStation 10 = .ok (.aaload, 1) := by decide +kernel
theorem nD_TM_beginStation_11 : decode nC_TM_beginStation 11 = .ok (.astore_n 2, 1) := by decide +kernel
theorem nD_TM_beginStation_12 : decode nC_TM_beginStation 12 = .ok (.aload_n 0, 1) := by decide +kernel
theorem nD_TM_beginStation_13 : decode nC_TM_beginStation 13 = .ok (.getfield 60, 3) := by decide +kernel
theorem nD_TM_beginStation_16 : decode nC_TM_beginStation 16 = .ok (.aload_n 2, 1) := by decide +kernel
theorem nD_TM_beginStation_17 : decode nC_TM_beginStation 17 = .ok (.getfield 187, 3) := by decide +kernel
theorem nD_TM_beginStation_20 : decode nC_TM_beginStation 20 = .ok (.iconst 2, 1) := by decide +kernel
theorem nD_TM_beginStation_21 : decode nC_TM_beginStation 21 = .ok (.isub, 1) := by decide +kernel
theorem nD_TM_beginStation_22 : decode nC_TM_beginStation 22 = .ok (.aload_n 2, 1) := by decide +kernel
theorem nD_TM_beginStation_23 : decode nC_TM_beginStation 23 = .ok (.getfield 200, 3) := by decide +kernel
theorem nD_TM_beginStation_26 : decode nC_TM_beginStation 26 = .ok (.getfield 120, 3) := by decide +kernel
theorem nD_TM_beginStation_29 : decode nC_TM_beginStation 29 = .ok (.aload_n 2, 1) := by decide +kernel
theorem nD_TM_beginStation_30 : decode nC_TM_beginStation 30 = .ok (.getfield 204, 3) := by decide +kernel
theorem nD_TM_beginStation_33 : decode nC_TM_beginStation 33 = .ok (.getfield 120, 3) := by decide +kernel
theorem nD_TM_beginStation_36 : decode nC_TM_beginStation 36 = .ok (.invokevirtual 110, 3) := by decide +kernel
theorem nD_TM_beginStation_39 : decode nC_TM_beginStation 39 = .ok (.aload_n 2, 1) := by decide +kernel
theorem nD_TM_beginStation_40 : decode nC_TM_beginStation 40 = .ok (.aload_n 2, 1) := by decide +kernel
theorem nD_TM_beginStation_41 : decode nC_TM_beginStation 41 = .ok (.getfield 187, 3) := by decide +kernel
theorem nD_TM_beginStation_44 : decode nC_TM_beginStation 44 = .ok (.invokestatic 207, 3) := by decide +kernel
theorem nD_TM_beginStation_47 : decode nC_TM_beginStation 47 = .ok (.aload_n 0, 1) := by decide +kernel
theorem nD_TM_beginStation_48 : decode nC_TM_beginStation 48 = .ok (.getfield 60, 3) := by decide +kernel
theorem nD_TM_beginStation_51 : decode nC_TM_beginStation 51 = .ok (.getfield 114, 3) := by decide +kernel
theorem nD_TM_beginStation_54 : decode nC_TM_beginStation 54 = .ok (.aload_n 0, 1) := by decide +kernel
theorem nD_TM_beginStation_55 : decode nC_TM_beginStation 55 = .ok (.getfield 60, 3) := by decide +kernel
theorem nD_TM_beginStation_58 : decode nC_TM_beginStation 58 = .ok (.getfield 117, 3) := by decide +kernel
theorem nD_TM_beginStation_61 : decode nC_TM_beginStation 61 = .ok (.invokevirtual 211, 3) := by decide +kernel
theorem nD_TM_beginStation_64 : decode nC_TM_beginStation 64 = .ok (.return_, 1) := by decide +kernel
theorem nD_TM_cyclesFor_0 : decode nC_TM_cyclesFor 0 = .ok (.iload_n 0, 1) := by decide +kernel
theorem nD_TM_cyclesFor_1 : decode nC_TM_cyclesFor 1 = .ok (.lookupswitch 32 #[(4, 27), (5, 29)], 27) := by decide +kernel
theorem nD_TM_cyclesFor_28 : decode nC_TM_cyclesFor 28 = .ok (.iconst 4, 1) := by decide +kernel
theorem nD_TM_cyclesFor_29 : decode nC_TM_cyclesFor 29 = .ok (.ireturn, 1) := by decide +kernel
theorem nD_TM_cyclesFor_30 : decode nC_TM_cyclesFor 30 = .ok (.bipush 8, 2) := by decide +kernel
theorem nD_TM_cyclesFor_32 : decode nC_TM_cyclesFor 32 = .ok (.ireturn, 1) := by decide +kernel
theorem nD_TM_cyclesFor_33 : decode nC_TM_cyclesFor 33 = .ok (.iconst 2, 1) := by decide +kernel
theorem nD_TM_cyclesFor_34 : decode nC_TM_cyclesFor 34 = .ok (.ireturn, 1) := by decide +kernel
theorem nD_TM_beginStorage_0 : decode nC_TM_beginStorage 0 = .ok (.aload_n 0, 1) := by decide +kernel
theorem nD_TM_beginStorage_1 : decode nC_TM_beginStorage 1 = .ok (.invokevirtual 214, 3) := by decide +kernel
theorem nD_TM_beginStorage_4 : decode nC_TM_beginStorage 4 = .ok (.istore_n 1, 1) := by decide +kernel
theorem nD_TM_beginStorage_5 : decode nC_TM_beginStorage 5 = .ok (.iload_n 1, 1) := by decide +kernel
theorem nD_TM_beginStorage_6 : decode nC_TM_beginStorage 6 = .ok (.iconst (-1), 1) := by decide +kernel
theorem nD_TM_beginStorage_7 : decode nC_TM_beginStorage 7 = .ok (.if_icmp .eq 39, 3) := by decide +kernel
theorem nD_TM_beginStorage_10 : decode nC_TM_beginStorage 10 = .ok (.aload_n 0, 1) := by decide +kernel
theorem nD_TM_beginStorage_11 : decode nC_TM_beginStorage 11 = .ok (.getfield 41, 3) := by decide +kernel
theorem nD_TM_beginStorage_14 : decode nC_TM_beginStorage 14 = .ok (.iload_n 1, 1) := by decide +kernel
theorem nD_TM_beginStorage_15 : decode nC_TM_beginStorage 15 = .ok (.aaload, 1) := by decide +kernel
theorem nD_TM_beginStorage_16 : decode nC_TM_beginStorage 16 = .ok (.astore_n 2, 1) := by decide +kernel
theorem nD_TM_beginStorage_17 : decode nC_TM_beginStorage 17 = .ok (.aload_n 0, 1) := by decide +kernel
theorem nD_TM_beginStorage_18 : decode nC_TM_beginStorage 18 = .ok (.getfield 53, 3) := by decide +kernel
theorem nD_TM_beginStorage_21 : decode nC_TM_beginStorage 21 = .ok (.aload_n 0, 1) := by decide +kernel
theorem nD_TM_beginStorage_22 : decode nC_TM_beginStorage 22 = .ok (.aload_n 2, 1) := by decide +kernel
theorem nD_TM_beginStorage_23 : decode nC_TM_beginStorage 23 = .ok (.invokevirtual 193, 3) := by decide +kernel
theorem nD_TM_beginStorage_26 : decode nC_TM_beginStorage 26 = .ok (.iconst 1, 1) := by decide +kernel
theorem nD_TM_beginStorage_27 : decode nC_TM_beginStorage 27 = .ok (.bastore, 1) := by decide +kernel
theorem nD_TM_beginStorage_28 : decode nC_TM_beginStorage 28 = .ok (.aload_n 2, 1) := by decide +kernel
theorem nD_TM_beginStorage_29 : decode nC_TM_beginStorage 29 = .ok (.aload_n 0, 1) := by decide +kernel
theorem nD_TM_beginStorage_30 : decode nC_TM_beginStorage 30 = .ok (.getfield 22, 3) := by decide +kernel
theorem nD_TM_beginStorage_33 : decode nC_TM_beginStorage 33 = .ok (.aload_n 0, 1) := by decide +kernel
theorem nD_TM_beginStorage_34 : decode nC_TM_beginStorage 34 = .ok (.getfield 50, 3) := by decide +kernel
theorem nD_TM_beginStorage_37 : decode nC_TM_beginStorage 37 = .ok (.aload_n 2, 1) := by decide +kernel
theorem nD_TM_beginStorage_38 : decode nC_TM_beginStorage 38 = .ok (.getfield 197, 3) := by decide +kernel
theorem nD_TM_beginStorage_41 : decode nC_TM_beginStorage 41 = .ok (.iaload, 1) := by decide +kernel
theorem nD_TM_beginStorage_42 : decode nC_TM_beginStorage 42 = .ok (.iconst 0, 1) := by decide +kernel
theorem nD_TM_beginStorage_43 : decode nC_TM_beginStorage 43 = .ok (.invokevirtual 211, 3) := by decide +kernel
theorem nD_TM_beginStorage_46 : decode nC_TM_beginStorage 46 = .ok (.return_, 1) := by decide +kernel
theorem nD_TM_earliestAccess_0 : decode nC_TM_earliestAccess 0 = .ok (.iconst (-1), 1) := by decide +kernel
theorem nD_TM_earliestAccess_1 : decode nC_TM_earliestAccess 1 = .ok (.istore_n 1, 1) := by decide +kernel
theorem nD_TM_earliestAccess_2 : decode nC_TM_earliestAccess 2 = .ok (.bipush 6, 2) := by decide +kernel
theorem nD_TM_earliestAccess_4 : decode nC_TM_earliestAccess 4 = .ok (.istore_n 2, 1) := by decide +kernel
theorem nD_TM_earliestAccess_5 : decode nC_TM_earliestAccess 5 = .ok (.iload_n 2, 1) := by decide +kernel
theorem nD_TM_earliestAccess_6 : decode nC_TM_earliestAccess 6 = .ok (.bipush 12, 2) := by decide +kernel
theorem nD_TM_earliestAccess_8 : decode nC_TM_earliestAccess 8 = .ok (.if_icmp .gt 59, 3) := by decide +kernel
theorem nD_TM_earliestAccess_11 : decode nC_TM_earliestAccess 11 = .ok (.aload_n 0, 1) := by decide +kernel
theorem nD_TM_earliestAccess_12 : decode nC_TM_earliestAccess 12 = .ok (.getfield 41, 3) := by decide +kernel
theorem nD_TM_earliestAccess_15 : decode nC_TM_earliestAccess 15 = .ok (.iload_n 2, 1) := by decide +kernel
theorem nD_TM_earliestAccess_16 : decode nC_TM_earliestAccess 16 = .ok (.aaload, 1) := by decide +kernel
theorem nD_TM_earliestAccess_17 : decode nC_TM_earliestAccess 17 = .ok (.astore_n 3, 1) := by decide +kernel
theorem nD_TM_earliestAccess_18 : decode nC_TM_earliestAccess 18 = .ok (.aload_n 3, 1) := by decide +kernel
theorem nD_TM_earliestAccess_19 : decode nC_TM_earliestAccess 19 = .ok (.invokevirtual 160, 3) := by decide +kernel
theorem nD_TM_earliestAccess_22 : decode nC_TM_earliestAccess 22 = .ok (.ifCond .eq 39, 3) := by decide +kernel
theorem nD_TM_earliestAccess_25 : decode nC_TM_earliestAccess 25 = .ok (.aload_n 0, 1) := by decide +kernel
theorem nD_TM_earliestAccess_26 : decode nC_TM_earliestAccess 26 = .ok (.getfield 53, 3) := by decide +kernel
theorem nD_TM_earliestAccess_29 : decode nC_TM_earliestAccess 29 = .ok (.aload_n 0, 1) := by decide +kernel
theorem nD_TM_earliestAccess_30 : decode nC_TM_earliestAccess 30 = .ok (.aload_n 3, 1) := by decide +kernel
theorem nD_TM_earliestAccess_31 : decode nC_TM_earliestAccess 31 = .ok (.invokevirtual 193, 3) := by decide +kernel
theorem nD_TM_earliestAccess_34 : decode nC_TM_earliestAccess 34 = .ok (.baload, 1) := by decide +kernel
theorem nD_TM_earliestAccess_35 : decode nC_TM_earliestAccess 35 = .ok (.ifCond .ne 26, 3) := by decide +kernel
theorem nD_TM_earliestAccess_38 : decode nC_TM_earliestAccess 38 = .ok (.iload_n 1, 1) := by decide +kernel
theorem nD_TM_earliestAccess_39 : decode nC_TM_earliestAccess 39 = .ok (.iconst (-1), 1) := by decide +kernel
theorem nD_TM_earliestAccess_40 : decode nC_TM_earliestAccess 40 = .ok (.if_icmp .eq 19, 3) := by decide +kernel
theorem nD_TM_earliestAccess_43 : decode nC_TM_earliestAccess 43 = .ok (.aload_n 3, 1) := by decide +kernel
theorem nD_TM_earliestAccess_44 : decode nC_TM_earliestAccess 44 = .ok (.getfield 217, 3) := by decide +kernel
theorem nD_TM_earliestAccess_47 : decode nC_TM_earliestAccess 47 = .ok (.aload_n 0, 1) := by decide +kernel
theorem nD_TM_earliestAccess_48 : decode nC_TM_earliestAccess 48 = .ok (.getfield 41, 3) := by decide +kernel
theorem nD_TM_earliestAccess_51 : decode nC_TM_earliestAccess 51 = .ok (.iload_n 1, 1) := by decide +kernel
theorem nD_TM_earliestAccess_52 : decode nC_TM_earliestAccess 52 = .ok (.aaload, 1) := by decide +kernel
theorem nD_TM_earliestAccess_53 : decode nC_TM_earliestAccess 53 = .ok (.getfield 217, 3) := by decide +kernel
theorem nD_TM_earliestAccess_56 : decode nC_TM_earliestAccess 56 = .ok (.if_icmp .ge 5, 3) := by decide +kernel
theorem nD_TM_earliestAccess_59 : decode nC_TM_earliestAccess 59 = .ok (.iload_n 2, 1) := by decide +kernel
theorem nD_TM_earliestAccess_60 : decode nC_TM_earliestAccess 60 = .ok (.istore_n 1, 1) := by decide +kernel
theorem nD_TM_earliestAccess_61 : decode nC_TM_earliestAccess 61 = .ok (.iinc 2 1, 3) := by decide +kernel
theorem nD_TM_earliestAccess_64 : decode nC_TM_earliestAccess 64 = .ok (.goto (-59), 3) := by decide +kernel
theorem nD_TM_earliestAccess_67 : decode nC_TM_earliestAccess 67 = .ok (.iload_n 1, 1) := by decide +kernel
theorem nD_TM_earliestAccess_68 : decode nC_TM_earliestAccess 68 = .ok (.ireturn, 1) := by decide +kernel
theorem nD_TM_handOut_0 : decode nC_TM_handOut 0 = .ok (.aload_n 0, 1) := by decide +kernel
theorem nD_TM_handOut_1 : decode nC_TM_handOut 1 = .ok (.aload_n 0, 1) := by decide +kernel
theorem nD_TM_handOut_2 : decode nC_TM_handOut 2 = .ok (.getfield 91, 3) := by decide +kernel
theorem nD_TM_handOut_5 : decode nC_TM_handOut 5 = .ok (.invokevirtual 88, 3) := by decide +kernel
theorem nD_TM_handOut_8 : decode nC_TM_handOut 8 = .ok (.ifCond .ne 10, 3) := by decide +kernel
theorem nD_TM_handOut_11 : decode nC_TM_handOut 11 = .ok (.aload_n 0, 1) := by decide +kernel
theorem nD_TM_handOut_12 : decode nC_TM_handOut 12 = .ok (.bipush 16, 2) := by decide +kernel
theorem nD_TM_handOut_14 : decode nC_TM_handOut 14 = .ok (.invokevirtual 177, 3) := by decide +kernel
theorem nD_TM_handOut_17 : decode nC_TM_handOut 17 = .ok (.return_, 1) := by decide +kernel
theorem nD_TM_handOut_18 : decode nC_TM_handOut 18 = .ok (.aload_n 0, 1) := by decide +kernel
theorem nD_TM_handOut_19 : decode nC_TM_handOut 19 = .ok (.getfield 27, 3) := by decide +kernel
theorem nD_TM_handOut_22 : decode nC_TM_handOut 22 = .ok (.aload_n 0, 1) := by decide +kernel
theorem nD_TM_handOut_23 : decode nC_TM_handOut 23 = .ok (.getfield 91, 3) := by decide +kernel
theorem nD_TM_handOut_26 : decode nC_TM_handOut 26 = .ok (.aaload, 1) := by decide +kernel
theorem nD_TM_handOut_27 : decode nC_TM_handOut 27 = .ok (.astore_n 1, 1) := by decide +kernel
theorem nD_TM_handOut_28 : decode nC_TM_handOut 28 = .ok (.aload_n 1, 1) := by decide +kernel
theorem nD_TM_handOut_29 : decode nC_TM_handOut 29 = .ok (.getfield 220, 3) := by decide +kernel
theorem nD_TM_handOut_32 : decode nC_TM_handOut 32 = .ok (.invokestatic 190, 3) := by decide +kernel
theorem nD_TM_handOut_35 : decode nC_TM_handOut 35 = .ok (.ifCond .eq 12, 3) := by decide +kernel
theorem nD_TM_handOut_38 : decode nC_TM_handOut 38 = .ok (.aload_n 0, 1) := by decide +kernel
theorem nD_TM_handOut_39 : decode nC_TM_handOut 39 = .ok (.aload_n 1, 1) := by decide +kernel
theorem nD_TM_handOut_40 : decode nC_TM_handOut 40 = .ok (.invokevirtual 221, 3) := by decide +kernel
theorem nD_TM_handOut_43 : decode nC_TM_handOut 43 = .ok (.istore_n 2, 1) := by decide +kernel
theorem nD_TM_handOut_44 : decode nC_TM_handOut 44 = .ok (.goto 27, 3) := by decide +kernel
theorem nD_TM_handOut_47 : decode nC_TM_handOut 47 = .ok (.aload_n 1, 1) := by decide +kernel
theorem nD_TM_handOut_48 : decode nC_TM_handOut 48 = .ok (.getfield 220, 3) := by decide +kernel
theorem nD_TM_handOut_51 : decode nC_TM_handOut 51 = .ok (.bipush 6, 2) := by decide +kernel
theorem nD_TM_handOut_53 : decode nC_TM_handOut 53 = .ok (.if_icmp .gt 12, 3) := by decide +kernel
theorem nD_TM_handOut_56 : decode nC_TM_handOut 56 = .ok (.aload_n 0, 1) := by decide +kernel
theorem nD_TM_handOut_57 : decode nC_TM_handOut 57 = .ok (.aload_n 1, 1) := by decide +kernel
theorem nD_TM_handOut_58 : decode nC_TM_handOut 58 = .ok (.invokevirtual 225, 3) := by decide +kernel
theorem nD_TM_handOut_61 : decode nC_TM_handOut 61 = .ok (.istore_n 2, 1) := by decide +kernel
theorem nD_TM_handOut_62 : decode nC_TM_handOut 62 = .ok (.goto 9, 3) := by decide +kernel
theorem nD_TM_handOut_65 : decode nC_TM_handOut 65 = .ok (.aload_n 0, 1) := by decide +kernel
theorem nD_TM_handOut_66 : decode nC_TM_handOut 66 = .ok (.aload_n 1, 1) := by decide +kernel
theorem nD_TM_handOut_67 : decode nC_TM_handOut 67 = .ok (.invokevirtual 228, 3) := by decide +kernel
theorem nD_TM_handOut_70 : decode nC_TM_handOut 70 = .ok (.istore_n 2, 1) := by decide +kernel
theorem nD_TM_handOut_71 : decode nC_TM_handOut 71 = .ok (.iload_n 2, 1) := by decide +kernel
theorem nD_TM_handOut_72 : decode nC_TM_handOut 72 = .ok (.ifCond .eq 13, 3) := by decide +kernel
theorem nD_TM_handOut_75 : decode nC_TM_handOut 75 = .ok (.aload_n 0, 1) := by decide +kernel
theorem nD_TM_handOut_76 : decode nC_TM_handOut 76 = .ok (.dup, 1) := by decide +kernel
theorem nD_TM_handOut_77 : decode nC_TM_handOut 77 = .ok (.getfield 132, 3) := by decide +kernel
theorem nD_TM_handOut_80 : decode nC_TM_handOut 80 = .ok (.iconst 1, 1) := by decide +kernel
theorem nD_TM_handOut_81 : decode nC_TM_handOut 81 = .ok (.iadd, 1) := by decide +kernel
theorem nD_TM_handOut_82 : decode nC_TM_handOut 82 = .ok (.putfield 132, 3) := by decide +kernel
theorem nD_TM_handOut_85 : decode nC_TM_handOut 85 = .ok (.return_, 1) := by decide +kernel
theorem nD_TM_handToBuffer_0 : decode nC_TM_handToBuffer 0 = .ok (.aload_n 0, 1) := by decide +kernel
theorem nD_TM_handToBuffer_1 : decode nC_TM_handToBuffer 1 = .ok (.getfield 46, 3) := by decide +kernel
theorem nD_TM_handToBuffer_4 : decode nC_TM_handToBuffer 4 = .ok (.aload_n 1, 1) := by decide +kernel
theorem nD_TM_handToBuffer_5 : decode nC_TM_handToBuffer 5 = .ok (.getfield 231, 3) := by decide +kernel
theorem nD_TM_handToBuffer_8 : decode nC_TM_handToBuffer 8 = .ok (.iaload, 1) := by decide +kernel
theorem nD_TM_handToBuffer_9 : decode nC_TM_handToBuffer 9 = .ok (.aload_n 1, 1) := by decide +kernel
theorem nD_TM_handToBuffer_10 : decode nC_TM_handToBuffer 10 = .ok (.getfield 234, 3) := by decide +kernel
theorem nD_TM_handToBuffer_13 : decode nC_TM_handToBuffer 13 = .ok (.iadd, 1) := by decide +kernel
theorem nD_TM_handToBuffer_14 : decode nC_TM_handToBuffer 14 = .ok (.istore_n 2, 1) := by decide +kernel
theorem nD_TM_handToBuffer_15 : decode nC_TM_handToBuffer 15 = .ok (.iload_n 2, 1) := by decide +kernel
theorem nD_TM_handToBuffer_16 : decode nC_TM_handToBuffer 16 = .ok (.invokestatic 104, 3) := by decide +kernel
theorem nD_TM_handToBuffer_19 : decode nC_TM_handToBuffer 19 = .ok (.ifCond .ne 11, 3) := by decide +kernel
theorem nD_TM_handToBuffer_22 : decode nC_TM_handToBuffer 22 = .ok (.aload_n 0, 1) := by decide +kernel
theorem nD_TM_handToBuffer_23 : decode nC_TM_handToBuffer 23 = .ok (.bipush 8, 2) := by decide +kernel
theorem nD_TM_handToBuffer_25 : decode nC_TM_handToBuffer 25 = .ok (.invokevirtual 177, 3) := by decide +kernel
theorem nD_TM_handToBuffer_28 : decode nC_TM_handToBuffer 28 = .ok (.iconst 0, 1) := by decide +kernel
theorem nD_TM_handToBuffer_29 : decode nC_TM_handToBuffer 29 = .ok (.ireturn, 1) := by decide +kernel
theorem nD_TM_handToBuffer_30 : decode nC_TM_handToBuffer 30 = .ok (.aload_n 1, 1) := by decide +kernel
theorem nD_TM_handToBuffer_31 : decode nC_TM_handToBuffer 31 = .ok (.getfield 220, 3) := by decide +kernel
theorem nD_TM_handToBuffer_34 : decode nC_TM_handToBuffer 34 = .ok (.ifCond .ne 15, 3) := by decide +kernel
theorem nD_TM_handToBuffer_37 : decode nC_TM_handToBuffer 37 = .ok (.aload_n 0, 1) := by decide +kernel
theorem nD_TM_handToBuffer_38 : decode nC_TM_handToBuffer 38 = .ok (.iconst 0, 1) := by decide +kernel
theorem nD_TM_handToBuffer_39 : decode nC_TM_handToBuffer 39 = .ok (.bipush 6, 2) := by decide +kernel
theorem nD_TM_handToBuffer_41 : decode nC_TM_handToBuffer 41 = .ok (.bipush 9, 2) := by decide +kernel
theorem nD_TM_handToBuffer_43 : decode nC_TM_handToBuffer 43 = .ok (.invokevirtual 163, 3) := by decide +kernel
theorem nD_TM_handToBuffer_46 : decode nC_TM_handToBuffer 46 = .ok (.goto 12, 3) := by decide +kernel
theorem nD_TM_handToBuffer_49 : decode nC_TM_handToBuffer 49 = .ok (.aload_n 0, 1) := by decide +kernel
theorem nD_TM_handToBuffer_50 : decode nC_TM_handToBuffer 50 = .ok (.iconst 0, 1) := by decide +kernel
theorem nD_TM_handToBuffer_51 : decode nC_TM_handToBuffer 51 = .ok (.bipush 10, 2) := by decide +kernel
theorem nD_TM_handToBuffer_53 : decode nC_TM_handToBuffer 53 = .ok (.bipush 12, 2) := by decide +kernel
theorem nD_TM_handToBuffer_55 : decode nC_TM_handToBuffer 55 = .ok (.invokevirtual 163, 3) := by decide +kernel
theorem nD_TM_handToBuffer_58 : decode nC_TM_handToBuffer 58 = .ok (.istore_n 3, 1) := by decide +kernel
theorem nD_TM_handToBuffer_59 : decode nC_TM_handToBuffer 59 = .ok (.iload_n 3, 1) := by decide +kernel
theorem nD_TM_handToBuffer_60 : decode nC_TM_handToBuffer 60 = .ok (.iconst (-1), 1) := by decide +kernel
theorem nD_TM_handToBuffer_61 : decode nC_TM_handToBuffer 61 = .ok (.if_icmp .eq 11, 3) := by decide +kernel
theorem nD_TM_handToBuffer_64 : decode nC_TM_handToBuffer 64 = .ok (.aload_n 0, 1) := by decide +kernel
theorem nD_TM_handToBuffer_65 : decode nC_TM_handToBuffer 65 = .ok (.iload_n 2, 1) := by decide +kernel
theorem nD_TM_handToBuffer_66 : decode nC_TM_handToBuffer 66 = .ok (.invokevirtual 237, 3) := by decide +kernel
theorem nD_TM_handToBuffer_69 : decode nC_TM_handToBuffer 69 = .ok (.ifCond .eq 5, 3) := by decide +kernel
theorem nD_TM_handToBuffer_72 : decode nC_TM_handToBuffer 72 = .ok (.iconst 0, 1) := by decide +kernel
theorem nD_TM_handToBuffer_73 : decode nC_TM_handToBuffer 73 = .ok (.ireturn, 1) := by decide +kernel
theorem nD_TM_handToBuffer_74 : decode nC_TM_handToBuffer 74 = .ok (.aload_n 0, 1) := by decide +kernel
theorem nD_TM_handToBuffer_75 : decode nC_TM_handToBuffer 75 = .ok (.getfield 41, 3) := by decide +kernel
theorem nD_TM_handToBuffer_78 : decode nC_TM_handToBuffer 78 = .ok (.iload_n 3, 1) := by decide +kernel
theorem nD_TM_handToBuffer_79 : decode nC_TM_handToBuffer 79 = .ok (.aaload, 1) := by decide +kernel
theorem nD_TM_handToBuffer_80 : decode nC_TM_handToBuffer 80 = .ok (.aload_n 1, 1) := by decide +kernel
theorem nD_TM_handToBuffer_81 : decode nC_TM_handToBuffer 81 = .ok (.getfield 220, 3) := by decide +kernel
theorem nD_TM_handToBuffer_84 : decode nC_TM_handToBuffer 84 = .ok (.iload_n 2, 1) := by decide +kernel
theorem nD_TM_handToBuffer_85 : decode nC_TM_handToBuffer 85 = .ok (.aload_n 0, 1) := by decide +kernel
theorem nD_TM_handToBuffer_86 : decode nC_TM_handToBuffer 86 = .ok (.getfield 132, 3) := by decide +kernel
theorem nD_TM_handToBuffer_89 : decode nC_TM_handToBuffer 89 = .ok (.invokevirtual 240, 3) := by decide +kernel
theorem nD_TM_handToBuffer_92 : decode nC_TM_handToBuffer 92 = .ok (.aload_n 1, 1) := by decide +kernel
theorem nD_TM_handToBuffer_93 : decode nC_TM_handToBuffer 93 = .ok (.getfield 220, 3) := by decide +kernel
theorem nD_TM_handToBuffer_96 : decode nC_TM_handToBuffer 96 = .ok (.ifCond .ne 19, 3) := by decide +kernel
theorem nD_TM_handToBuffer_99 : decode nC_TM_handToBuffer 99 = .ok (.aload_n 0, 1) := by decide +kernel
theorem nD_TM_handToBuffer_100 : decode nC_TM_handToBuffer 100 = .ok (.getfield 34, 3) := by decide +kernel
theorem nD_TM_handToBuffer_103 : decode nC_TM_handToBuffer 103 = .ok (.aload_n 1, 1) := by decide +kernel
theorem nD_TM_handToBuffer_104 : decode nC_TM_handToBuffer 104 = .ok (.getfield 243, 3) := by decide +kernel
theorem nD_TM_handToBuffer_107 : decode nC_TM_handToBuffer 107 = .ok (.aaload, 1) := by decide +kernel
theorem nD_TM_handToBuffer_108 : decode nC_TM_handToBuffer 108 = .ok (.iload_n 3, 1) := by decide +kernel
theorem nD_TM_handToBuffer_109 : decode nC_TM_handToBuffer 109 = .ok (.invokevirtual 246, 3) := by decide +kernel
theorem nD_TM_handToBuffer_112 : decode nC_TM_handToBuffer 112 = .ok (.goto 24, 3) := by decide +kernel
theorem nD_TM_handToBuffer_115 : decode nC_TM_handToBuffer 115 = .ok (.aload_n 0, 1) := by decide +kernel
theorem nD_TM_handToBuffer_116 : decode nC_TM_handToBuffer 116 = .ok (.getfield 41, 3) := by decide +kernel
theorem nD_TM_handToBuffer_119 : decode nC_TM_handToBuffer 119 = .ok (.iload_n 3, 1) := by decide +kernel
theorem nD_TM_handToBuffer_120 : decode nC_TM_handToBuffer 120 = .ok (.aaload, 1) := by decide +kernel
theorem nD_TM_handToBuffer_121 : decode nC_TM_handToBuffer 121 = .ok (.getfield 200, 3) := by decide +kernel
theorem nD_TM_handToBuffer_124 : decode nC_TM_handToBuffer 124 = .ok (.aload_n 0, 1) := by decide +kernel
theorem nD_TM_handToBuffer_125 : decode nC_TM_handToBuffer 125 = .ok (.getfield 34, 3) := by decide +kernel
theorem nD_TM_handToBuffer_128 : decode nC_TM_handToBuffer 128 = .ok (.aload_n 1, 1) := by decide +kernel
theorem nD_TM_handToBuffer_129 : decode nC_TM_handToBuffer 129 = .ok (.getfield 243, 3) := by decide +kernel
theorem nD_TM_handToBuffer_132 : decode nC_TM_handToBuffer 132 = .ok (.aaload, 1) := by decide +kernel
theorem nD_TM_handToBuffer_133 : decode nC_TM_handToBuffer 133 = .ok (.invokevirtual 249, 3) := by decide +kernel
theorem nD_TM_handToBuffer_136 : decode nC_TM_handToBuffer 136 = .ok (.aload_n 0, 1) := by decide +kernel
theorem nD_TM_handToBuffer_137 : decode nC_TM_handToBuffer 137 = .ok (.dup, 1) := by decide +kernel
theorem nD_TM_handToBuffer_138 : decode nC_TM_handToBuffer 138 = .ok (.getfield 91, 3) := by decide +kernel
theorem nD_TM_handToBuffer_141 : decode nC_TM_handToBuffer 141 = .ok (.iconst 1, 1) := by decide +kernel
theorem nD_TM_handToBuffer_142 : decode nC_TM_handToBuffer 142 = .ok (.iadd, 1) := by decide +kernel
theorem nD_TM_handToBuffer_143 : decode nC_TM_handToBuffer 143 = .ok (.putfield 91, 3) := by decide +kernel
theorem nD_TM_handToBuffer_146 : decode nC_TM_handToBuffer 146 = .ok (.iconst 1, 1) := by decide +kernel
theorem nD_TM_handToBuffer_147 : decode nC_TM_handToBuffer 147 = .ok (.ireturn, 1) := by decide +kernel
theorem nD_TM_isToBeStored_0 : decode nC_TM_isToBeStored 0 = .ok (.bipush 10, 2) := by decide +kernel
theorem nD_TM_isToBeStored_2 : decode nC_TM_isToBeStored 2 = .ok (.istore_n 2, 1) := by decide +kernel
theorem nD_TM_isToBeStored_3 : decode nC_TM_isToBeStored 3 = .ok (.iload_n 2, 1) := by decide +kernel
theorem nD_TM_isToBeStored_4 : decode nC_TM_isToBeStored 4 = .ok (.bipush 12, 2) := by decide +kernel
theorem nD_TM_isToBeStored_6 : decode nC_TM_isToBeStored 6 = .ok (.if_icmp .gt 36, 3) := by decide +kernel
theorem nD_TM_isToBeStored_9 : decode nC_TM_isToBeStored 9 = .ok (.aload_n 0, 1) := by decide +kernel
theorem nD_TM_isToBeStored_10 : decode nC_TM_isToBeStored 10 = .ok (.getfield 41, 3) := by decide +kernel
theorem nD_TM_isToBeStored_13 : decode nC_TM_isToBeStored 13 = .ok (.iload_n 2, 1) := by decide +kernel
theorem nD_TM_isToBeStored_14 : decode nC_TM_isToBeStored 14 = .ok (.aaload, 1) := by decide +kernel
theorem nD_TM_isToBeStored_15 : decode nC_TM_isToBeStored 15 = .ok (.getfield 126, 3) := by decide +kernel
theorem nD_TM_isToBeStored_18 : decode nC_TM_isToBeStored 18 = .ok (.ifCond .eq 18, 3) := by decide +kernel
theorem nD_TM_isToBeStored_21 : decode nC_TM_isToBeStored 21 = .ok (.aload_n 0, 1) := by decide +kernel
theorem nD_TM_isToBeStored_22 : decode nC_TM_isToBeStored 22 = .ok (.getfield 41, 3) := by decide +kernel
theorem nD_TM_isToBeStored_25 : decode nC_TM_isToBeStored 25 = .ok (.iload_n 2, 1) := by decide +kernel
theorem nD_TM_isToBeStored_26 : decode nC_TM_isToBeStored 26 = .ok (.aaload, 1) := by decide +kernel
theorem nD_TM_isToBeStored_27 : decode nC_TM_isToBeStored 27 = .ok (.getfield 197, 3) := by decide +kernel
theorem nD_TM_isToBeStored_30 : decode nC_TM_isToBeStored 30 = .ok (.iload_n 1, 1) := by decide +kernel
theorem nD_TM_isToBeStored_31 : decode nC_TM_isToBeStored 31 = .ok (.if_icmp .ne 5, 3) := by decide +kernel
theorem nD_TM_isToBeStored_34 : decode nC_TM_isToBeStored 34 = .ok (.iconst 1, 1) := by decide +kernel
theorem nD_TM_isToBeStored_35 : decode nC_TM_isToBeStored 35 = .ok (.ireturn, 1) := by decide +kernel
theorem nD_TM_isToBeStored_36 : decode nC_TM_isToBeStored 36 = .ok (.iinc 2 1, 3) := by decide +kernel
theorem nD_TM_isToBeStored_39 : decode nC_TM_isToBeStored 39 = .ok (.goto (-36), 3) := by decide +kernel
theorem nD_TM_isToBeStored_42 : decode nC_TM_isToBeStored 42 = .ok (.iconst 0, 1) := by decide +kernel
theorem nD_TM_isToBeStored_43 : decode nC_TM_isToBeStored 43 = .ok (.ireturn, 1) := by decide +kernel
theorem nD_TM_handToStation_0 : decode nC_TM_handToStation 0 = .ok (.aload_n 1, 1) := by decide +kernel
theorem nD_TM_handToStation_1 : decode nC_TM_handToStation 1 = .ok (.getfield 220, 3) := by decide +kernel
theorem nD_TM_handToStation_4 : decode nC_TM_handToStation 4 = .ok (.iconst 4, 1) := by decide +kernel
theorem nD_TM_handToStation_5 : decode nC_TM_handToStation 5 = .ok (.if_icmp .eq 11, 3) := by decide +kernel
theorem nD_TM_handToStation_8 : decode nC_TM_handToStation 8 = .ok (.aload_n 1, 1) := by decide +kernel
theorem nD_TM_handToStation_9 : decode nC_TM_handToStation 9 = .ok (.getfield 220, 3) := by decide +kernel
theorem nD_TM_handToStation_12 : decode nC_TM_handToStation 12 = .ok (.iconst 5, 1) := by decide +kernel
theorem nD_TM_handToStation_13 : decode nC_TM_handToStation 13 = .ok (.if_icmp .ne 13, 3) := by decide +kernel
theorem nD_TM_handToStation_16 : decode nC_TM_handToStation 16 = .ok (.aload_n 0, 1) := by decide +kernel
theorem nD_TM_handToStation_17 : decode nC_TM_handToStation 17 = .ok (.iconst 0, 1) := by decide +kernel
theorem nD_TM_handToStation_18 : decode nC_TM_handToStation 18 = .ok (.iconst 4, 1) := by decide +kernel
theorem nD_TM_handToStation_19 : decode nC_TM_handToStation 19 = .ok (.iconst 5, 1) := by decide +kernel
theorem nD_TM_handToStation_20 : decode nC_TM_handToStation 20 = .ok (.invokevirtual 163, 3) := by decide +kernel
theorem nD_TM_handToStation_23 : decode nC_TM_handToStation 23 = .ok (.goto 10, 3) := by decide +kernel
theorem nD_TM_handToStation_26 : decode nC_TM_handToStation 26 = .ok (.aload_n 0, 1) := by decide +kernel
theorem nD_TM_handToStation_27 : decode nC_TM_handToStation 27 = .ok (.iconst 0, 1) := by decide +kernel
theorem nD_TM_handToStation_28 : decode nC_TM_handToStation 28 = .ok (.iconst 1, 1) := by decide +kernel
theorem nD_TM_handToStation_29 : decode nC_TM_handToStation 29 = .ok (.iconst 3, 1) := by decide +kernel
theorem nD_TM_handToStation_30 : decode nC_TM_handToStation 30 = .ok (.invokevirtual 163, 3) := by decide +kernel
theorem nD_TM_handToStation_33 : decode nC_TM_handToStation 33 = .ok (.istore_n 2, 1) := by decide +kernel
theorem nD_TM_handToStation_34 : decode nC_TM_handToStation 34 = .ok (.iload_n 2, 1) := by decide +kernel
theorem nD_TM_handToStation_35 : decode nC_TM_handToStation 35 = .ok (.iconst (-1), 1) := by decide +kernel
theorem nD_TM_handToStation_36 : decode nC_TM_handToStation 36 = .ok (.if_icmp .ne 5, 3) := by decide +kernel
theorem nD_TM_handToStation_39 : decode nC_TM_handToStation 39 = .ok (.iconst 0, 1) := by decide +kernel
theorem nD_TM_handToStation_40 : decode nC_TM_handToStation 40 = .ok (.ireturn, 1) := by decide +kernel
theorem nD_TM_handToStation_41 : decode nC_TM_handToStation 41 = .ok (.aload_n 0, 1) := by decide +kernel
theorem nD_TM_handToStation_42 : decode nC_TM_handToStation 42 = .ok (.getfield 41, 3) := by decide +kernel
theorem nD_TM_handToStation_45 : decode nC_TM_handToStation 45 = .ok (.iload_n 2, 1) := by decide +kernel
theorem nD_TM_handToStation_46 : decode nC_TM_handToStation 46 = .ok (.aaload, 1) := by decide +kernel
theorem nD_TM_handToStation_47 : decode nC_TM_handToStation 47 = .ok (.aload_n 1, 1) := by decide +kernel
theorem nD_TM_handToStation_48 : decode nC_TM_handToStation 48 = .ok (.getfield 220, 3) := by decide +kernel
theorem nD_TM_handToStation_51 : decode nC_TM_handToStation 51 = .ok (.iconst 0, 1) := by decide +kernel
theorem nD_TM_handToStation_52 : decode nC_TM_handToStation 52 = .ok (.aload_n 0, 1) := by decide +kernel
theorem nD_TM_handToStation_53 : decode nC_TM_handToStation 53 = .ok (.getfield 132, 3) := by decide +kernel
theorem nD_TM_handToStation_56 : decode nC_TM_handToStation 56 = .ok (.invokevirtual 240, 3) := by decide +kernel
theorem nD_TM_handToStation_59 : decode nC_TM_handToStation 59 = .ok (.aload_n 0, 1) := by decide +kernel
theorem nD_TM_handToStation_60 : decode nC_TM_handToStation 60 = .ok (.getfield 41, 3) := by decide +kernel
theorem nD_TM_handToStation_63 : decode nC_TM_handToStation 63 = .ok (.iload_n 2, 1) := by decide +kernel
theorem nD_TM_handToStation_64 : decode nC_TM_handToStation 64 = .ok (.aaload, 1) := by decide +kernel
theorem nD_TM_handToStation_65 : decode nC_TM_handToStation 65 = .ok (.getfield 200, 3) := by decide +kernel
theorem nD_TM_handToStation_68 : decode nC_TM_handToStation 68 = .ok (.aload_n 0, 1) := by decide +kernel
theorem nD_TM_handToStation_69 : decode nC_TM_handToStation 69 = .ok (.getfield 34, 3) := by decide +kernel
theorem nD_TM_handToStation_72 : decode nC_TM_handToStation 72 = .ok (.aload_n 1, 1) := by decide +kernel
theorem nD_TM_handToStation_73 : decode nC_TM_handToStation 73 = .ok (.getfield 243, 3) := by decide +kernel
theorem nD_TM_handToStation_76 : decode nC_TM_handToStation 76 = .ok (.aaload, 1) := by decide +kernel
theorem nD_TM_handToStation_77 : decode nC_TM_handToStation 77 = .ok (.invokevirtual 249, 3) := by decide +kernel
theorem nD_TM_handToStation_80 : decode nC_TM_handToStation 80 = .ok (.aload_n 0, 1) := by decide +kernel
theorem nD_TM_handToStation_81 : decode nC_TM_handToStation 81 = .ok (.getfield 41, 3) := by decide +kernel
theorem nD_TM_handToStation_84 : decode nC_TM_handToStation 84 = .ok (.iload_n 2, 1) := by decide +kernel
theorem nD_TM_handToStation_85 : decode nC_TM_handToStation 85 = .ok (.aaload, 1) := by decide +kernel
theorem nD_TM_handToStation_86 : decode nC_TM_handToStation 86 = .ok (.getfield 204, 3) := by decide +kernel
theorem nD_TM_handToStation_89 : decode nC_TM_handToStation 89 = .ok (.aload_n 0, 1) := by decide +kernel
theorem nD_TM_handToStation_90 : decode nC_TM_handToStation 90 = .ok (.getfield 34, 3) := by decide +kernel
theorem nD_TM_handToStation_93 : decode nC_TM_handToStation 93 = .ok (.aload_n 1, 1) := by decide +kernel
theorem nD_TM_handToStation_94 : decode nC_TM_handToStation 94 = .ok (.getfield 253, 3) := by decide +kernel
theorem nD_TM_handToStation_97 : decode nC_TM_handToStation 97 = .ok (.aaload, 1) := by decide +kernel
theorem nD_TM_handToStation_98 : decode nC_TM_handToStation 98 = .ok (.invokevirtual 249, 3) := by decide +kernel
theorem nD_TM_handToStation_101 : decode nC_TM_handToStation 101 = .ok (.aload_n 0, 1) := by decide +kernel
theorem nD_TM_handToStation_102 : decode nC_TM_handToStation 102 = .ok (.getfield 34, 3) := by decide +kernel
theorem nD_TM_handToStation_105 : decode nC_TM_handToStation 105 = .ok (.aload_n 1, 1) := by decide +kernel
theorem nD_TM_handToStation_106 : decode nC_TM_handToStation 106 = .ok (.getfield 220, 3) := by decide +kernel
theorem nD_TM_handToStation_109 : decode nC_TM_handToStation 109 = .ok (.bipush 6, 2) := by decide +kernel
theorem nD_TM_handToStation_111 : decode nC_TM_handToStation 111 = .ok (.if_icmp .ne 7, 3) := by decide +kernel
theorem nD_TM_handToStation_114 : decode nC_TM_handToStation 114 = .ok (.iconst 4, 1) := by decide +kernel
theorem nD_TM_handToStation_115 : decode nC_TM_handToStation 115 = .ok (.goto 7, 3) := by decide +kernel
theorem nD_TM_handToStation_118 : decode nC_TM_handToStation 118 = .ok (.aload_n 1, 1) := by decide +kernel
theorem nD_TM_handToStation_119 : decode nC_TM_handToStation 119 = .ok (.getfield 243, 3) := by decide +kernel
theorem nD_TM_handToStation_122 : decode nC_TM_handToStation 122 = .ok (.aaload, 1) := by decide +kernel
theorem nD_TM_handToStation_123 : decode nC_TM_handToStation 123 = .ok (.iload_n 2, 1) := by decide +kernel
theorem nD_TM_handToStation_124 : decode nC_TM_handToStation 124 = .ok (.invokevirtual 246, 3) := by decide +kernel
theorem nD_TM_handToStation_127 : decode nC_TM_handToStation 127 = .ok (.aload_n 0, 1) := by decide +kernel
theorem nD_TM_handToStation_128 : decode nC_TM_handToStation 128 = .ok (.dup, 1) := by decide +kernel
theorem nD_TM_handToStation_129 : decode nC_TM_handToStation 129 = .ok (.getfield 91, 3) := by decide +kernel
theorem nD_TM_handToStation_132 : decode nC_TM_handToStation 132 = .ok (.iconst 1, 1) := by decide +kernel
theorem nD_TM_handToStation_133 : decode nC_TM_handToStation 133 = .ok (.iadd, 1) := by decide +kernel
theorem nD_TM_handToStation_134 : decode nC_TM_handToStation 134 = .ok (.putfield 91, 3) := by decide +kernel
theorem nD_TM_handToStation_137 : decode nC_TM_handToStation 137 = .ok (.iconst 1, 1) := by decide +kernel
theorem nD_TM_handToStation_138 : decode nC_TM_handToStation 138 = .ok (.ireturn, 1) := by decide +kernel
theorem nD_TM_doAtOnce_0 : decode nC_TM_doAtOnce 0 = .ok (.aload_n 1, 1) := by decide +kernel
theorem nD_TM_doAtOnce_1 : decode nC_TM_doAtOnce 1 = .ok (.getfield 220, 3) := by decide +kernel
theorem nD_TM_doAtOnce_4 : decode nC_TM_doAtOnce 4 = .ok (.bipush 11, 2) := by decide +kernel
theorem nD_TM_doAtOnce_6 : decode nC_TM_doAtOnce 6 = .ok (.if_icmp .ne 17, 3) := by decide +kernel
theorem nD_TM_doAtOnce_9 : decode nC_TM_doAtOnce 9 = .ok (.aload_n 0, 1) := by decide +kernel
theorem nD_TM_doAtOnce_10 : decode nC_TM_doAtOnce 10 = .ok (.getfield 34, 3) := by decide +kernel
theorem nD_TM_doAtOnce_13 : decode nC_TM_doAtOnce 13 = .ok (.iconst 4, 1) := by decide +kernel
theorem nD_TM_doAtOnce_14 : decode nC_TM_doAtOnce 14 = .ok (.aaload, 1) := by decide +kernel
theorem nD_TM_doAtOnce_15 : decode nC_TM_doAtOnce 15 = .ok (.invokevirtual 256, 3) := by decide +kernel
theorem nD_TM_doAtOnce_18 : decode nC_TM_doAtOnce 18 = .ok (.ifCond .eq 5, 3) := by decide +kernel
theorem nD_TM_doAtOnce_21 : decode nC_TM_doAtOnce 21 = .ok (.iconst 0, 1) := by decide +kernel
theorem nD_TM_doAtOnce_22 : decode nC_TM_doAtOnce 22 = .ok (.ireturn, 1) := by decide +kernel
theorem nD_TM_doAtOnce_23 : decode nC_TM_doAtOnce 23 = .ok (.aload_n 0, 1) := by decide +kernel
theorem nD_TM_doAtOnce_24 : decode nC_TM_doAtOnce 24 = .ok (.getfield 91, 3) := by decide +kernel
theorem nD_TM_doAtOnce_27 : decode nC_TM_doAtOnce 27 = .ok (.iconst 1, 1) := by decide +kernel
theorem nD_TM_doAtOnce_28 : decode nC_TM_doAtOnce 28 = .ok (.iadd, 1) := by decide +kernel
theorem nD_TM_doAtOnce_29 : decode nC_TM_doAtOnce 29 = .ok (.istore_n 2, 1) := by decide +kernel
theorem nD_TM_doAtOnce_30 : decode nC_TM_doAtOnce 30 = .ok (.aload_n 1, 1) := by decide +kernel
theorem nD_TM_doAtOnce_31 : decode nC_TM_doAtOnce 31 = .ok (.getfield 220, 3) := by decide +kernel
theorem nD_TM_doAtOnce_34 : decode nC_TM_doAtOnce 34 = .ok (.tableswitch 173 7 11 #[34, 58, 74, 100, 137], 34) := by decide +kernel
theorem nD_TM_doAtOnce_68 : decode nC_TM_doAtOnce 68 = .ok (.aload_n 0, 1) := by decide +kernel
theorem nD_TM_doAtOnce_69 : decode nC_TM_doAtOnce 69 = .ok (.getfield 34, 3) := by decide +kernel
theorem nD_TM_doAtOnce_72 : decode nC_TM_doAtOnce 72 = .ok (.aload_n 1, 1) := by decide +kernel
theorem nD_TM_doAtOnce_73 : decode nC_TM_doAtOnce 73 = .ok (.getfield 243, 3) := by decide +kernel
theorem nD_TM_doAtOnce_76 : decode nC_TM_doAtOnce 76 = .ok (.aaload, 1) := by decide +kernel
theorem nD_TM_doAtOnce_77 : decode nC_TM_doAtOnce 77 = .ok (.aload_n 0, 1) := by decide +kernel
theorem nD_TM_doAtOnce_78 : decode nC_TM_doAtOnce 78 = .ok (.getfield 34, 3) := by decide +kernel
theorem nD_TM_doAtOnce_81 : decode nC_TM_doAtOnce 81 = .ok (.aload_n 1, 1) := by decide +kernel
theorem nD_TM_doAtOnce_82 : decode nC_TM_doAtOnce 82 = .ok (.getfield 253, 3) := by decide +kernel
theorem nD_TM_doAtOnce_85 : decode nC_TM_doAtOnce 85 = .ok (.aaload, 1) := by decide +kernel
theorem nD_TM_doAtOnce_86 : decode nC_TM_doAtOnce 86 = .ok (.invokevirtual 249, 3) := by decide +kernel
theorem nD_TM_doAtOnce_89 : decode nC_TM_doAtOnce 89 = .ok (.goto 123, 3) := by decide +kernel
theorem nD_TM_doAtOnce_92 : decode nC_TM_doAtOnce 92 = .ok (.aload_n 0, 1) := by decide +kernel
theorem nD_TM_doAtOnce_93 : decode nC_TM_doAtOnce 93 = .ok (.getfield 46, 3) := by decide +kernel
theorem nD_TM_doAtOnce_96 : decode nC_TM_doAtOnce 96 = .ok (.aload_n 1, 1) := by decide +kernel
theorem nD_TM_doAtOnce_97 : decode nC_TM_doAtOnce 97 = .ok (.getfield 243, 3) := by decide +kernel
theorem nD_TM_doAtOnce_100 : decode nC_TM_doAtOnce 100 = .ok (.aload_n 1, 1) := by decide +kernel
theorem nD_TM_doAtOnce_101 : decode nC_TM_doAtOnce 101 = .ok (.getfield 234, 3) := by decide +kernel
theorem nD_TM_doAtOnce_104 : decode nC_TM_doAtOnce 104 = .ok (.iastore, 1) := by decide +kernel
theorem nD_TM_doAtOnce_105 : decode nC_TM_doAtOnce 105 = .ok (.goto 107, 3) := by decide +kernel
theorem nD_TM_doAtOnce_108 : decode nC_TM_doAtOnce 108 = .ok (.aload_n 0, 1) := by decide +kernel
theorem nD_TM_doAtOnce_109 : decode nC_TM_doAtOnce 109 = .ok (.getfield 46, 3) := by decide +kernel
theorem nD_TM_doAtOnce_112 : decode nC_TM_doAtOnce 112 = .ok (.aload_n 1, 1) := by decide +kernel
theorem nD_TM_doAtOnce_113 : decode nC_TM_doAtOnce 113 = .ok (.getfield 243, 3) := by decide +kernel
theorem nD_TM_doAtOnce_116 : decode nC_TM_doAtOnce 116 = .ok (.aload_n 0, 1) := by decide +kernel
theorem nD_TM_doAtOnce_117 : decode nC_TM_doAtOnce 117 = .ok (.getfield 46, 3) := by decide +kernel
theorem nD_TM_doAtOnce_120 : decode nC_TM_doAtOnce 120 = .ok (.aload_n 1, 1) := by decide +kernel
theorem nD_TM_doAtOnce_121 : decode nC_TM_doAtOnce 121 = .ok (.getfield 253, 3) := by decide +kernel
theorem nD_TM_doAtOnce_124 : decode nC_TM_doAtOnce 124 = .ok (.iaload, 1) := by decide +kernel
theorem nD_TM_doAtOnce_125 : decode nC_TM_doAtOnce 125 = .ok (.aload_n 1, 1) := by decide +kernel
theorem nD_TM_doAtOnce_126 : decode nC_TM_doAtOnce 126 = .ok (.getfield 234, 3) := by decide +kernel
theorem nD_TM_doAtOnce_129 : decode nC_TM_doAtOnce 129 = .ok (.iadd, 1) := by decide +kernel
theorem nD_TM_doAtOnce_130 : decode nC_TM_doAtOnce 130 = .ok (.iastore, 1) := by decide +kernel
theorem nD_TM_doAtOnce_131 : decode nC_TM_doAtOnce 131 = .ok (.goto 81, 3) := by decide +kernel
theorem nD_TM_doAtOnce_134 : decode nC_TM_doAtOnce 134 = .ok (.aload_n 0, 1) := by decide +kernel
theorem nD_TM_doAtOnce_135 : decode nC_TM_doAtOnce 135 = .ok (.getfield 46, 3) := by decide +kernel
theorem nD_TM_doAtOnce_138 : decode nC_TM_doAtOnce 138 = .ok (.aload_n 1, 1) := by decide +kernel
theorem nD_TM_doAtOnce_139 : decode nC_TM_doAtOnce 139 = .ok (.getfield 243, 3) := by decide +kernel
theorem nD_TM_doAtOnce_142 : decode nC_TM_doAtOnce 142 = .ok (.dup2, 1) := by decide +kernel
theorem nD_TM_doAtOnce_143 : decode nC_TM_doAtOnce 143 = .ok (.iaload, 1) := by decide +kernel
theorem nD_TM_doAtOnce_144 : decode nC_TM_doAtOnce 144 = .ok (.iconst 1, 1) := by decide +kernel
theorem nD_TM_doAtOnce_145 : decode nC_TM_doAtOnce 145 = .ok (.isub, 1) := by decide +kernel
theorem nD_TM_doAtOnce_146 : decode nC_TM_doAtOnce 146 = .ok (.iastore, 1) := by decide +kernel
theorem nD_TM_doAtOnce_147 : decode nC_TM_doAtOnce 147 = .ok (.aload_n 0, 1) := by decide +kernel
theorem nD_TM_doAtOnce_148 : decode nC_TM_doAtOnce 148 = .ok (.getfield 46, 3) := by decide +kernel
theorem nD_TM_doAtOnce_151 : decode nC_TM_doAtOnce 151 = .ok (.aload_n 1, 1) := by decide +kernel
theorem nD_TM_doAtOnce_152 : decode nC_TM_doAtOnce 152 = .ok (.getfield 243, 3) := by decide +kernel
theorem nD_TM_doAtOnce_155 : decode nC_TM_doAtOnce 155 = .ok (.iaload, 1) := by decide +kernel
theorem nD_TM_doAtOnce_156 : decode nC_TM_doAtOnce 156 = .ok (.ifCond .eq 10, 3) := by decide +kernel
theorem nD_TM_doAtOnce_159 : decode nC_TM_doAtOnce 159 = .ok (.aload_n 1, 1) := by decide +kernel
theorem nD_TM_doAtOnce_160 : decode nC_TM_doAtOnce 160 = .ok (.getfield 234, 3) := by decide +kernel
theorem nD_TM_doAtOnce_163 : decode nC_TM_doAtOnce 163 = .ok (.goto 4, 3) := by decide +kernel
theorem nD_TM_doAtOnce_166 : decode nC_TM_doAtOnce 166 = .ok (.iload_n 2, 1) := by decide +kernel
theorem nD_TM_doAtOnce_167 : decode nC_TM_doAtOnce 167 = .ok (.istore_n 2, 1) := by decide +kernel
theorem nD_TM_doAtOnce_168 : decode nC_TM_doAtOnce 168 = .ok (.goto 44, 3) := by decide +kernel
theorem nD_TM_doAtOnce_171 : decode nC_TM_doAtOnce 171 = .ok (.aload_n 1, 1) := by decide +kernel
theorem nD_TM_doAtOnce_172 : decode nC_TM_doAtOnce 172 = .ok (.getfield 243, 3) := by decide +kernel
theorem nD_TM_doAtOnce_175 : decode nC_TM_doAtOnce 175 = .ok (.iconst 3, 1) := by decide +kernel
theorem nD_TM_doAtOnce_176 : decode nC_TM_doAtOnce 176 = .ok (.if_icmp .eq 19, 3) := by decide +kernel
theorem nD_TM_doAtOnce_179 : decode nC_TM_doAtOnce 179 = .ok (.aload_n 1, 1) := by decide +kernel
theorem nD_TM_doAtOnce_180 : decode nC_TM_doAtOnce 180 = .ok (.getfield 243, 3) := by decide +kernel
theorem nD_TM_doAtOnce_183 : decode nC_TM_doAtOnce 183 = .ok (.aload_n 0, 1) := by decide +kernel
theorem nD_TM_doAtOnce_184 : decode nC_TM_doAtOnce 184 = .ok (.getfield 34, 3) := by decide +kernel
theorem nD_TM_doAtOnce_187 : decode nC_TM_doAtOnce 187 = .ok (.iconst 4, 1) := by decide +kernel
theorem nD_TM_doAtOnce_188 : decode nC_TM_doAtOnce 188 = .ok (.aaload, 1) := by decide +kernel
theorem nD_TM_doAtOnce_189 : decode nC_TM_doAtOnce 189 = .ok (.getfield 120, 3) := by decide +kernel
theorem nD_TM_doAtOnce_192 : decode nC_TM_doAtOnce 192 = .ok (.if_icmp .ne 10, 3) := by decide +kernel
theorem nD_TM_doAtOnce_195 : decode nC_TM_doAtOnce 195 = .ok (.aload_n 1, 1) := by decide +kernel
theorem nD_TM_doAtOnce_196 : decode nC_TM_doAtOnce 196 = .ok (.getfield 234, 3) := by decide +kernel
theorem nD_TM_doAtOnce_199 : decode nC_TM_doAtOnce 199 = .ok (.goto 4, 3) := by decide +kernel
theorem nD_TM_doAtOnce_202 : decode nC_TM_doAtOnce 202 = .ok (.iload_n 2, 1) := by decide +kernel
theorem nD_TM_doAtOnce_203 : decode nC_TM_doAtOnce 203 = .ok (.istore_n 2, 1) := by decide +kernel
theorem nD_TM_doAtOnce_204 : decode nC_TM_doAtOnce 204 = .ok (.goto 8, 3) := by decide +kernel
theorem nD_TM_doAtOnce_207 : decode nC_TM_doAtOnce 207 = .ok (.aload_n 0, 1) := by decide +kernel
theorem nD_TM_doAtOnce_208 : decode nC_TM_doAtOnce 208 = .ok (.iconst 1, 1) := by decide +kernel
theorem nD_TM_doAtOnce_209 : decode nC_TM_doAtOnce 209 = .ok (.putfield 64, 3) := by decide +kernel
theorem nD_TM_doAtOnce_212 : decode nC_TM_doAtOnce 212 = .ok (.aload_n 0, 1) := by decide +kernel
theorem nD_TM_doAtOnce_213 : decode nC_TM_doAtOnce 213 = .ok (.iload_n 2, 1) := by decide +kernel
theorem nD_TM_doAtOnce_214 : decode nC_TM_doAtOnce 214 = .ok (.putfield 91, 3) := by decide +kernel
theorem nD_TM_doAtOnce_217 : decode nC_TM_doAtOnce 217 = .ok (.iconst 1, 1) := by decide +kernel
theorem nD_TM_doAtOnce_218 : decode nC_TM_doAtOnce 218 = .ok (.ireturn, 1) := by decide +kernel
