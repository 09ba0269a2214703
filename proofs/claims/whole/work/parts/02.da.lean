theorem dX1_init_0 : decode cX1_init 0 = .ok (.aload_n 0, 1) := by decide +kernel
theorem dX1_init_1 : decode cX1_init 1 = .ok (.invokespecial 3, 3) := by decide +kernel
theorem dX1_init_4 : decode cX1_init 4 = .ok (.aload_n 0, 1) := by decide +kernel
theorem dX1_init_5 : decode cX1_init 5 = .ok (.bipush 40, 2) := by decide +kernel
theorem dX1_init_7 : decode cX1_init 7 = .ok (.newarray .int, 2) := by decide +kernel
theorem dX1_init_9 : decode cX1_init 9 = .ok (.putfield 9, 3) := by decide +kernel
theorem dX1_init_12 : decode cX1_init 12 = .ok (.aload_n 0, 1) := by decide +kernel
theorem dX1_init_13 : decode cX1_init 13 = .ok (.bipush 40, 2) := by decide +kernel
theorem dX1_init_15 : decode cX1_init 15 = .ok (.newarray .int, 2) := by decide +kernel
theorem dX1_init_17 : decode cX1_init 17 = .ok (.putfield 15, 3) := by decide +kernel
theorem dX1_init_20 : decode cX1_init 20 = .ok (.aload_n 0, 1) := by decide +kernel
theorem dX1_init_21 : decode cX1_init 21 = .ok (.bipush 40, 2) := by decide +kernel
theorem dX1_init_23 : decode cX1_init 23 = .ok (.newarray .int, 2) := by decide +kernel
theorem dX1_init_25 : decode cX1_init 25 = .ok (.putfield 18, 3) := by decide +kernel
theorem dX1_init_28 : decode cX1_init 28 = .ok (.aload_n 0, 1) := by decide +kernel
theorem dX1_init_29 : decode cX1_init 29 = .ok (.bipush 40, 2) := by decide +kernel
theorem dX1_init_31 : decode cX1_init 31 = .ok (.newarray .boolean, 2) := by decide +kernel
theorem dX1_init_33 : decode cX1_init 33 = .ok (.putfield 21, 3) := by decide +kernel
theorem dX1_init_36 : decode cX1_init 36 = .ok (.return_, 1) := by decide +kernel
theorem dX1_has_0 : decode cX1_has 0 = .ok (.iload_n 1, 1) := by decide +kernel
theorem dX1_has_1 : decode cX1_has 1 = .ok (.aload_n 0, 1) := by decide +kernel
theorem dX1_has_2 : decode cX1_has 2 = .ok (.getfield 25, 3) := by decide +kernel
theorem dX1_has_5 : decode cX1_has 5 = .ok (.invokestatic 29, 3) := by decide +kernel
theorem dX1_has_8 : decode cX1_has 8 = .ok (.ireturn, 1) := by decide +kernel
theorem dX1_isFull_0 : decode cX1_isFull 0 = .ok (.aload_n 0, 1) := by decide +kernel
theorem dX1_isFull_1 : decode cX1_isFull 1 = .ok (.getfield 25, 3) := by decide +kernel
theorem dX1_isFull_4 : decode cX1_isFull 4 = .ok (.bipush 40, 2) := by decide +kernel
theorem dX1_isFull_6 : decode cX1_isFull 6 = .ok (.if_icmp .lt 7, 3) := by decide +kernel
theorem dX1_isFull_9 : decode cX1_isFull 9 = .ok (.iconst 1, 1) := by decide +kernel
theorem dX1_isFull_10 : decode cX1_isFull 10 = .ok (.goto 4, 3) := by decide +kernel
theorem dX1_isFull_13 : decode cX1_isFull 13 = .ok (.iconst 0, 1) := by decide +kernel
theorem dX1_isFull_14 : decode cX1_isFull 14 = .ok (.ireturn, 1) := by decide +kernel
theorem dX1_addGlass_0 : decode cX1_addGlass 0 = .ok (.aload_n 0, 1) := by decide +kernel
theorem dX1_addGlass_1 : decode cX1_addGlass 1 = .ok (.getfield 9, 3) := by decide +kernel
theorem dX1_addGlass_4 : decode cX1_addGlass 4 = .ok (.aload_n 0, 1) := by decide +kernel
theorem dX1_addGlass_5 : decode cX1_addGlass 5 = .ok (.getfield 25, 3) := by decide +kernel
theorem dX1_addGlass_8 : decode cX1_addGlass 8 = .ok (.iload_n 1, 1) := by decide +kernel
theorem dX1_addGlass_9 : decode cX1_addGlass 9 = .ok (.iastore, 1) := by decide +kernel
theorem dX1_addGlass_10 : decode cX1_addGlass 10 = .ok (.aload_n 0, 1) := by decide +kernel
theorem dX1_addGlass_11 : decode cX1_addGlass 11 = .ok (.getfield 15, 3) := by decide +kernel
theorem dX1_addGlass_14 : decode cX1_addGlass 14 = .ok (.aload_n 0, 1) := by decide +kernel
theorem dX1_addGlass_15 : decode cX1_addGlass 15 = .ok (.getfield 25, 3) := by decide +kernel
theorem dX1_addGlass_18 : decode cX1_addGlass 18 = .ok (.iload_n 2, 1) := by decide +kernel
theorem dX1_addGlass_19 : decode cX1_addGlass 19 = .ok (.iastore, 1) := by decide +kernel
theorem dX1_addGlass_20 : decode cX1_addGlass 20 = .ok (.aload_n 0, 1) := by decide +kernel
theorem dX1_addGlass_21 : decode cX1_addGlass 21 = .ok (.getfield 18, 3) := by decide +kernel
theorem dX1_addGlass_24 : decode cX1_addGlass 24 = .ok (.aload_n 0, 1) := by decide +kernel
theorem dX1_addGlass_25 : decode cX1_addGlass 25 = .ok (.getfield 25, 3) := by decide +kernel
theorem dX1_addGlass_28 : decode cX1_addGlass 28 = .ok (.iload_n 3, 1) := by decide +kernel
theorem dX1_addGlass_29 : decode cX1_addGlass 29 = .ok (.iastore, 1) := by decide +kernel
theorem dX1_addGlass_30 : decode cX1_addGlass 30 = .ok (.aload_n 0, 1) := by decide +kernel
theorem dX1_addGlass_31 : decode cX1_addGlass 31 = .ok (.getfield 21, 3) := by decide +kernel
theorem dX1_addGlass_34 : decode cX1_addGlass 34 = .ok (.aload_n 0, 1) := by decide +kernel
theorem dX1_addGlass_35 : decode cX1_addGlass 35 = .ok (.getfield 25, 3) := by decide +kernel
theorem dX1_addGlass_38 : decode cX1_addGlass 38 = .ok (.iconst 1, 1) := by decide +kernel
theorem dX1_addGlass_39 : decode cX1_addGlass 39 = .ok (.bastore, 1) := by decide +kernel
theorem dX1_addGlass_40 : decode cX1_addGlass 40 = .ok (.aload_n 0, 1) := by decide +kernel
theorem dX1_addGlass_41 : decode cX1_addGlass 41 = .ok (.dup, 1) := by decide +kernel
theorem dX1_addGlass_42 : decode cX1_addGlass 42 = .ok (.getfield 25, 3) := by decide +kernel
theorem dX1_addGlass_45 : decode cX1_addGlass 45 = .ok (.iconst 1, 1) := by decide +kernel
theorem dX1_addGlass_46 : decode cX1_addGlass 46 = .ok (.iadd, 1) := by decide +kernel
theorem dX1_addGlass_47 : decode cX1_addGlass 47 = .ok (.putfield 25, 3) := by decide +kernel
theorem dX1_addGlass_50 : decode cX1_addGlass 50 = .ok (.aload_n 0, 1) := by decide +kernel
theorem dX1_addGlass_51 : decode cX1_addGlass 51 = .ok (.getfield 25, 3) := by decide +kernel
theorem dX1_addGlass_54 : decode cX1_addGlass 54 = .ok (.iconst 1, 1) := by decide +kernel
theorem dX1_addGlass_55 : decode cX1_addGlass 55 = .ok (.isub, 1) := by decide +kernel
theorem dX1_addGlass_56 : decode cX1_addGlass 56 = .ok (.ireturn, 1) := by decide +kernel
theorem dX1_runs_0 : decode cX1_runs 0 = .ok (.iload_n 2, 1) := by decide +kernel
theorem dX1_runs_1 : decode cX1_runs 1 = .ok (.aload_n 0, 1) := by decide +kernel
theorem dX1_runs_2 : decode cX1_runs 2 = .ok (.getfield 18, 3) := by decide +kernel
theorem dX1_runs_5 : decode cX1_runs 5 = .ok (.iload_n 1, 1) := by decide +kernel
theorem dX1_runs_6 : decode cX1_runs 6 = .ok (.iaload, 1) := by decide +kernel
theorem dX1_runs_7 : decode cX1_runs 7 = .ok (.if_icmp .ge 7, 3) := by decide +kernel
theorem dX1_runs_10 : decode cX1_runs 10 = .ok (.iconst 1, 1) := by decide +kernel
theorem dX1_runs_11 : decode cX1_runs 11 = .ok (.goto 4, 3) := by decide +kernel
theorem dX1_runs_14 : decode cX1_runs 14 = .ok (.iconst 0, 1) := by decide +kernel
theorem dX1_runs_15 : decode cX1_runs 15 = .ok (.ireturn, 1) := by decide +kernel
theorem dX1_due_0 : decode cX1_due 0 = .ok (.aload_n 0, 1) := by decide +kernel
theorem dX1_due_1 : decode cX1_due 1 = .ok (.getfield 18, 3) := by decide +kernel
theorem dX1_due_4 : decode cX1_due 4 = .ok (.iload_n 1, 1) := by decide +kernel
theorem dX1_due_5 : decode cX1_due 5 = .ok (.iaload, 1) := by decide +kernel
theorem dX1_due_6 : decode cX1_due 6 = .ok (.bipush 100, 2) := by decide +kernel
theorem dX1_due_8 : decode cX1_due 8 = .ok (.iadd, 1) := by decide +kernel
theorem dX1_due_9 : decode cX1_due 9 = .ok (.ireturn, 1) := by decide +kernel
theorem dX1_anyRuns_0 : decode cX1_anyRuns 0 = .ok (.iconst 0, 1) := by decide +kernel
theorem dX1_anyRuns_1 : decode cX1_anyRuns 1 = .ok (.istore 4, 2) := by decide +kernel
theorem dX1_anyRuns_3 : decode cX1_anyRuns 3 = .ok (.iload 4, 2) := by decide +kernel
theorem dX1_anyRuns_5 : decode cX1_anyRuns 5 = .ok (.aload_n 0, 1) := by decide +kernel
theorem dX1_anyRuns_6 : decode cX1_anyRuns 6 = .ok (.getfield 25, 3) := by decide +kernel
theorem dX1_anyRuns_9 : decode cX1_anyRuns 9 = .ok (.if_icmp .ge 43, 3) := by decide +kernel
theorem dX1_anyRuns_12 : decode cX1_anyRuns 12 = .ok (.aload_n 0, 1) := by decide +kernel
theorem dX1_anyRuns_13 : decode cX1_anyRuns 13 = .ok (.getfield 9, 3) := by decide +kernel
theorem dX1_anyRuns_16 : decode cX1_anyRuns 16 = .ok (.iload 4, 2) := by decide +kernel
theorem dX1_anyRuns_18 : decode cX1_anyRuns 18 = .ok (.iaload, 1) := by decide +kernel
theorem dX1_anyRuns_19 : decode cX1_anyRuns 19 = .ok (.iload_n 1, 1) := by decide +kernel
theorem dX1_anyRuns_20 : decode cX1_anyRuns 20 = .ok (.if_icmp .ne 26, 3) := by decide +kernel
theorem dX1_anyRuns_23 : decode cX1_anyRuns 23 = .ok (.aload_n 0, 1) := by decide +kernel
theorem dX1_anyRuns_24 : decode cX1_anyRuns 24 = .ok (.getfield 15, 3) := by decide +kernel
theorem dX1_anyRuns_27 : decode cX1_anyRuns 27 = .ok (.iload 4, 2) := by decide +kernel
theorem dX1_anyRuns_29 : decode cX1_anyRuns 29 = .ok (.iaload, 1) := by decide +kernel
theorem dX1_anyRuns_30 : decode cX1_anyRuns 30 = .ok (.iload_n 2, 1) := by decide +kernel
theorem dX1_anyRuns_31 : decode cX1_anyRuns 31 = .ok (.if_icmp .ne 15, 3) := by decide +kernel
theorem dX1_anyRuns_34 : decode cX1_anyRuns 34 = .ok (.aload_n 0, 1) := by decide +kernel
theorem dX1_anyRuns_35 : decode cX1_anyRuns 35 = .ok (.iload 4, 2) := by decide +kernel
theorem dX1_anyRuns_37 : decode cX1_anyRuns 37 = .ok (.iload_n 3, 1) := by decide +kernel
theorem dX1_anyRuns_38 : decode cX1_anyRuns 38 = .ok (.invokevirtual 33, 3) := by decide +kernel
theorem dX1_anyRuns_41 : decode cX1_anyRuns 41 = .ok (.ifCond .eq 5, 3) := by decide +kernel
theorem dX1_anyRuns_44 : decode cX1_anyRuns 44 = .ok (.iconst 1, 1) := by decide +kernel
theorem dX1_anyRuns_45 : decode cX1_anyRuns 45 = .ok (.ireturn, 1) := by decide +kernel
theorem dX1_anyRuns_46 : decode cX1_anyRuns 46 = .ok (.iinc 4 1, 3) := by decide +kernel
theorem dX1_anyRuns_49 : decode cX1_anyRuns 49 = .ok (.goto (-46), 3) := by decide +kernel
theorem dX1_anyRuns_52 : decode cX1_anyRuns 52 = .ok (.iconst 0, 1) := by decide +kernel
theorem dX1_anyRuns_53 : decode cX1_anyRuns 53 = .ok (.ireturn, 1) := by decide +kernel
theorem dX1_openDuties_0 : decode cX1_openDuties 0 = .ok (.iconst 0, 1) := by decide +kernel
theorem dX1_openDuties_1 : decode cX1_openDuties 1 = .ok (.istore_n 2, 1) := by decide +kernel
theorem dX1_openDuties_2 : decode cX1_openDuties 2 = .ok (.iconst 0, 1) := by decide +kernel
theorem dX1_openDuties_3 : decode cX1_openDuties 3 = .ok (.istore_n 3, 1) := by decide +kernel
theorem dX1_openDuties_4 : decode cX1_openDuties 4 = .ok (.iload_n 3, 1) := by decide +kernel
theorem dX1_openDuties_5 : decode cX1_openDuties 5 = .ok (.aload_n 0, 1) := by decide +kernel
theorem dX1_openDuties_6 : decode cX1_openDuties 6 = .ok (.getfield 25, 3) := by decide +kernel
theorem dX1_openDuties_9 : decode cX1_openDuties 9 = .ok (.if_icmp .ge 31, 3) := by decide +kernel
theorem dX1_openDuties_12 : decode cX1_openDuties 12 = .ok (.aload_n 0, 1) := by decide +kernel
theorem dX1_openDuties_13 : decode cX1_openDuties 13 = .ok (.getfield 9, 3) := by decide +kernel
theorem dX1_openDuties_16 : decode cX1_openDuties 16 = .ok (.iload_n 3, 1) := by decide +kernel
theorem dX1_openDuties_17 : decode cX1_openDuties 17 = .ok (.iaload, 1) := by decide +kernel
theorem dX1_openDuties_18 : decode cX1_openDuties 18 = .ok (.iload_n 1, 1) := by decide +kernel
theorem dX1_openDuties_19 : decode cX1_openDuties 19 = .ok (.if_icmp .ne 15, 3) := by decide +kernel
theorem dX1_openDuties_22 : decode cX1_openDuties 22 = .ok (.aload_n 0, 1) := by decide +kernel
theorem dX1_openDuties_23 : decode cX1_openDuties 23 = .ok (.getfield 21, 3) := by decide +kernel
theorem dX1_openDuties_26 : decode cX1_openDuties 26 = .ok (.iload_n 3, 1) := by decide +kernel
theorem dX1_openDuties_27 : decode cX1_openDuties 27 = .ok (.baload, 1) := by decide +kernel
theorem dX1_openDuties_28 : decode cX1_openDuties 28 = .ok (.ifCond .eq 6, 3) := by decide +kernel
theorem dX1_openDuties_31 : decode cX1_openDuties 31 = .ok (.iinc 2 1, 3) := by decide +kernel
theorem dX1_openDuties_34 : decode cX1_openDuties 34 = .ok (.iinc 3 1, 3) := by decide +kernel
theorem dX1_openDuties_37 : decode cX1_openDuties 37 = .ok (.goto (-33), 3) := by decide +kernel
theorem dX1_openDuties_40 : decode cX1_openDuties 40 = .ok (.iload_n 2, 1) := by decide +kernel
theorem dX1_openDuties_41 : decode cX1_openDuties 41 = .ok (.ireturn, 1) := by decide +kernel
theorem dX1_anyDue_0 : decode cX1_anyDue 0 = .ok (.iconst 0, 1) := by decide +kernel
theorem dX1_anyDue_1 : decode cX1_anyDue 1 = .ok (.istore_n 3, 1) := by decide +kernel
theorem dX1_anyDue_2 : decode cX1_anyDue 2 = .ok (.iload_n 3, 1) := by decide +kernel
theorem dX1_anyDue_3 : decode cX1_anyDue 3 = .ok (.aload_n 0, 1) := by decide +kernel
theorem dX1_anyDue_4 : decode cX1_anyDue 4 = .ok (.getfield 25, 3) := by decide +kernel
theorem dX1_anyDue_7 : decode cX1_anyDue 7 = .ok (.if_icmp .ge 39, 3) := by decide +kernel
theorem dX1_anyDue_10 : decode cX1_anyDue 10 = .ok (.aload_n 0, 1) := by decide +kernel
theorem dX1_anyDue_11 : decode cX1_anyDue 11 = .ok (.getfield 9, 3) := by decide +kernel
theorem dX1_anyDue_14 : decode cX1_anyDue 14 = .ok (.iload_n 3, 1) := by decide +kernel
theorem dX1_anyDue_15 : decode cX1_anyDue 15 = .ok (.iaload, 1) := by decide +kernel
theorem dX1_anyDue_16 : decode cX1_anyDue 16 = .ok (.iload_n 1, 1) := by decide +kernel
theorem dX1_anyDue_17 : decode cX1_anyDue 17 = .ok (.if_icmp .ne 23, 3) := by decide +kernel
theorem dX1_anyDue_20 : decode cX1_anyDue 20 = .ok (.aload_n 0, 1) := by decide +kernel
theorem dX1_anyDue_21 : decode cX1_anyDue 21 = .ok (.getfield 21, 3) := by decide +kernel
theorem dX1_anyDue_24 : decode cX1_anyDue 24 = .ok (.iload_n 3, 1) := by decide +kernel
theorem dX1_anyDue_25 : decode cX1_anyDue 25 = .ok (.baload, 1) := by decide +kernel
theorem dX1_anyDue_26 : decode cX1_anyDue 26 = .ok (.ifCond .eq 14, 3) := by decide +kernel
theorem dX1_anyDue_29 : decode cX1_anyDue 29 = .ok (.iload_n 2, 1) := by decide +kernel
theorem dX1_anyDue_30 : decode cX1_anyDue 30 = .ok (.aload_n 0, 1) := by decide +kernel
theorem dX1_anyDue_31 : decode cX1_anyDue 31 = .ok (.iload_n 3, 1) := by decide +kernel
theorem dX1_anyDue_32 : decode cX1_anyDue 32 = .ok (.invokevirtual 36, 3) := by decide +kernel
theorem dX1_anyDue_35 : decode cX1_anyDue 35 = .ok (.if_icmp .lt 5, 3) := by decide +kernel
theorem dX1_anyDue_38 : decode cX1_anyDue 38 = .ok (.iconst 1, 1) := by decide +kernel
theorem dX1_anyDue_39 : decode cX1_anyDue 39 = .ok (.ireturn, 1) := by decide +kernel
theorem dX1_anyDue_40 : decode cX1_anyDue 40 = .ok (.iinc 3 1, 3) := by decide +kernel
theorem dX1_anyDue_43 : decode cX1_anyDue 43 = .ok (.goto (-41), 3) := by decide +kernel
theorem dX1_anyDue_46 : decode cX1_anyDue 46 = .ok (.iconst 0, 1) := by decide +kernel
theorem dX1_anyDue_47 : decode cX1_anyDue 47 = .ok (.ireturn, 1) := by decide +kernel
theorem dX2_init_0 : decode cX2_init 0 = .ok (.aload_n 0, 1) := by decide +kernel
theorem dX2_init_1 : decode cX2_init 1 = .ok (.invokespecial 3, 3) := by decide +kernel
theorem dX2_init_4 : decode cX2_init 4 = .ok (.aload_n 0, 1) := by decide +kernel
theorem dX2_init_5 : decode cX2_init 5 = .ok (.bipush 6, 2) := by decide +kernel
theorem dX2_init_7 : decode cX2_init 7 = .ok (.newarray .int, 2) := by decide +kernel
theorem dX2_init_9 : decode cX2_init 9 = .ok (.putfield 9, 3) := by decide +kernel
theorem dX2_init_12 : decode cX2_init 12 = .ok (.aload_n 0, 1) := by decide +kernel
theorem dX2_init_13 : decode cX2_init 13 = .ok (.bipush 6, 2) := by decide +kernel
theorem dX2_init_15 : decode cX2_init 15 = .ok (.newarray .int, 2) := by decide +kernel
theorem dX2_init_17 : decode cX2_init 17 = .ok (.putfield 15, 3) := by decide +kernel
theorem dX2_init_20 : decode cX2_init 20 = .ok (.aload_n 0, 1) := by decide +kernel
theorem dX2_init_21 : decode cX2_init 21 = .ok (.bipush 6, 2) := by decide +kernel
theorem dX2_init_23 : decode cX2_init 23 = .ok (.newarray .int, 2) := by decide +kernel
theorem dX2_init_25 : decode cX2_init 25 = .ok (.putfield 18, 3) := by decide +kernel
theorem dX2_init_28 : decode cX2_init 28 = .ok (.aload_n 0, 1) := by decide +kernel
theorem dX2_init_29 : decode cX2_init 29 = .ok (.bipush 6, 2) := by decide +kernel
theorem dX2_init_31 : decode cX2_init 31 = .ok (.newarray .int, 2) := by decide +kernel
theorem dX2_init_33 : decode cX2_init 33 = .ok (.putfield 21, 3) := by decide +kernel
theorem dX2_init_36 : decode cX2_init 36 = .ok (.aload_n 0, 1) := by decide +kernel
theorem dX2_init_37 : decode cX2_init 37 = .ok (.bipush 6, 2) := by decide +kernel
theorem dX2_init_39 : decode cX2_init 39 = .ok (.putfield 24, 3) := by decide +kernel
theorem dX2_init_42 : decode cX2_init 42 = .ok (.return_, 1) := by decide +kernel
theorem dX2_hasTask_0 : decode cX2_hasTask 0 = .ok (.iload_n 1, 1) := by decide +kernel
theorem dX2_hasTask_1 : decode cX2_hasTask 1 = .ok (.aload_n 0, 1) := by decide +kernel
theorem dX2_hasTask_2 : decode cX2_hasTask 2 = .ok (.getfield 28, 3) := by decide +kernel
theorem dX2_hasTask_5 : decode cX2_hasTask 5 = .ok (.invokestatic 31, 3) := by decide +kernel
theorem dX2_hasTask_8 : decode cX2_hasTask 8 = .ok (.ireturn, 1) := by decide +kernel
theorem dX2_arePair_0 : decode cX2_arePair 0 = .ok (.aload_n 0, 1) := by decide +kernel
theorem dX2_arePair_1 : decode cX2_arePair 1 = .ok (.iload_n 1, 1) := by decide +kernel
theorem dX2_arePair_2 : decode cX2_arePair 2 = .ok (.invokevirtual 35, 3) := by decide +kernel
theorem dX2_arePair_5 : decode cX2_arePair 5 = .ok (.ifCond .eq 20, 3) := by decide +kernel
theorem dX2_arePair_8 : decode cX2_arePair 8 = .ok (.aload_n 0, 1) := by decide +kernel
theorem dX2_arePair_9 : decode cX2_arePair 9 = .ok (.iload_n 2, 1) := by decide +kernel
theorem dX2_arePair_10 : decode cX2_arePair 10 = .ok (.invokevirtual 35, 3) := by decide +kernel
theorem dX2_arePair_13 : decode cX2_arePair 13 = .ok (.ifCond .eq 12, 3) := by decide +kernel
theorem dX2_arePair_16 : decode cX2_arePair 16 = .ok (.iload_n 1, 1) := by decide +kernel
theorem dX2_arePair_17 : decode cX2_arePair 17 = .ok (.iload_n 2, 1) := by decide +kernel
theorem dX2_arePair_18 : decode cX2_arePair 18 = .ok (.if_icmp .eq 7, 3) := by decide +kernel
theorem dX2_arePair_21 : decode cX2_arePair 21 = .ok (.iconst 1, 1) := by decide +kernel
theorem dX2_arePair_22 : decode cX2_arePair 22 = .ok (.goto 4, 3) := by decide +kernel
theorem dX2_arePair_25 : decode cX2_arePair 25 = .ok (.iconst 0, 1) := by decide +kernel
theorem dX2_arePair_26 : decode cX2_arePair 26 = .ok (.ireturn, 1) := by decide +kernel
theorem dX2_taskBits_0 : decode cX2_taskBits 0 = .ok (.iconst 1, 1) := by decide +kernel
theorem dX2_taskBits_1 : decode cX2_taskBits 1 = .ok (.aload_n 0, 1) := by decide +kernel
theorem dX2_taskBits_2 : decode cX2_taskBits 2 = .ok (.getfield 28, 3) := by decide +kernel
theorem dX2_taskBits_5 : decode cX2_taskBits 5 = .ok (.ishl, 1) := by decide +kernel
theorem dX2_taskBits_6 : decode cX2_taskBits 6 = .ok (.iconst 1, 1) := by decide +kernel
theorem dX2_taskBits_7 : decode cX2_taskBits 7 = .ok (.isub, 1) := by decide +kernel
theorem dX2_taskBits_8 : decode cX2_taskBits 8 = .ok (.ireturn, 1) := by decide +kernel
theorem dX2_addTask_0 : decode cX2_addTask 0 = .ok (.aload_n 0, 1) := by decide +kernel
theorem dX2_addTask_1 : decode cX2_addTask 1 = .ok (.getfield 28, 3) := by decide +kernel
theorem dX2_addTask_4 : decode cX2_addTask 4 = .ok (.bipush 6, 2) := by decide +kernel
theorem dX2_addTask_6 : decode cX2_addTask 6 = .ok (.if_icmp .lt 6, 3) := by decide +kernel
theorem dX2_addTask_9 : decode cX2_addTask 9 = .ok (.bipush (-3), 2) := by decide +kernel
theorem dX2_addTask_11 : decode cX2_addTask 11 = .ok (.ireturn, 1) := by decide +kernel
theorem dX2_addTask_12 : decode cX2_addTask 12 = .ok (.aload_n 0, 1) := by decide +kernel
theorem dX2_addTask_13 : decode cX2_addTask 13 = .ok (.getfield 9, 3) := by decide +kernel
theorem dX2_addTask_16 : decode cX2_addTask 16 = .ok (.aload_n 0, 1) := by decide +kernel
theorem dX2_addTask_17 : decode cX2_addTask 17 = .ok (.getfield 28, 3) := by decide +kernel
theorem dX2_addTask_20 : decode cX2_addTask 20 = .ok (.iload_n 1, 1) := by decide +kernel
theorem dX2_addTask_21 : decode cX2_addTask 21 = .ok (.iastore, 1) := by decide +kernel
theorem dX2_addTask_22 : decode cX2_addTask 22 = .ok (.aload_n 0, 1) := by decide +kernel
theorem dX2_addTask_23 : decode cX2_addTask 23 = .ok (.getfield 15, 3) := by decide +kernel
theorem dX2_addTask_26 : decode cX2_addTask 26 = .ok (.aload_n 0, 1) := by decide +kernel
theorem dX2_addTask_27 : decode cX2_addTask 27 = .ok (.getfield 28, 3) := by decide +kernel
theorem dX2_addTask_30 : decode cX2_addTask 30 = .ok (.iload_n 2, 1) := by decide +kernel
theorem dX2_addTask_31 : decode cX2_addTask 31 = .ok (.iastore, 1) := by decide +kernel
theorem dX2_addTask_32 : decode cX2_addTask 32 = .ok (.aload_n 0, 1) := by decide +kernel
theorem dX2_addTask_33 : decode cX2_addTask 33 = .ok (.dup, 1) := by decide +kernel
theorem dX2_addTask_34 : decode cX2_addTask 34 = .ok (.getfield 28, 3) := by decide +kernel
theorem dX2_addTask_37 : decode cX2_addTask 37 = .ok (.iconst 1, 1) := by decide +kernel
theorem dX2_addTask_38 : decode cX2_addTask 38 = .ok (.iadd, 1) := by decide +kernel
theorem dX2_addTask_39 : decode cX2_addTask 39 = .ok (.putfield 28, 3) := by decide +kernel
theorem dX2_addTask_42 : decode cX2_addTask 42 = .ok (.aload_n 0, 1) := by decide +kernel
theorem dX2_addTask_43 : decode cX2_addTask 43 = .ok (.getfield 28, 3) := by decide +kernel
theorem dX2_addTask_46 : decode cX2_addTask 46 = .ok (.iconst 1, 1) := by decide +kernel
theorem dX2_addTask_47 : decode cX2_addTask 47 = .ok (.isub, 1) := by decide +kernel
theorem dX2_addTask_48 : decode cX2_addTask 48 = .ok (.ireturn, 1) := by decide +kernel
theorem dX2_tasksWithin_0 : decode cX2_tasksWithin 0 = .ok (.iconst 0, 1) := by decide +kernel
theorem dX2_tasksWithin_1 : decode cX2_tasksWithin 1 = .ok (.istore_n 2, 1) := by decide +kernel
theorem dX2_tasksWithin_2 : decode cX2_tasksWithin 2 = .ok (.iconst 0, 1) := by decide +kernel
theorem dX2_tasksWithin_3 : decode cX2_tasksWithin 3 = .ok (.istore_n 3, 1) := by decide +kernel
theorem dX2_tasksWithin_4 : decode cX2_tasksWithin 4 = .ok (.iload_n 3, 1) := by decide +kernel
theorem dX2_tasksWithin_5 : decode cX2_tasksWithin 5 = .ok (.aload_n 0, 1) := by decide +kernel
theorem dX2_tasksWithin_6 : decode cX2_tasksWithin 6 = .ok (.getfield 28, 3) := by decide +kernel
theorem dX2_tasksWithin_9 : decode cX2_tasksWithin 9 = .ok (.if_icmp .ge 28, 3) := by decide +kernel
theorem dX2_tasksWithin_12 : decode cX2_tasksWithin 12 = .ok (.iload_n 1, 1) := by decide +kernel
theorem dX2_tasksWithin_13 : decode cX2_tasksWithin 13 = .ok (.aload_n 0, 1) := by decide +kernel
theorem dX2_tasksWithin_14 : decode cX2_tasksWithin 14 = .ok (.getfield 9, 3) := by decide +kernel
theorem dX2_tasksWithin_17 : decode cX2_tasksWithin 17 = .ok (.iload_n 3, 1) := by decide +kernel
theorem dX2_tasksWithin_18 : decode cX2_tasksWithin 18 = .ok (.iaload, 1) := by decide +kernel
theorem dX2_tasksWithin_19 : decode cX2_tasksWithin 19 = .ok (.invokestatic 39, 3) := by decide +kernel
theorem dX2_tasksWithin_22 : decode cX2_tasksWithin 22 = .ok (.ifCond .eq 9, 3) := by decide +kernel
theorem dX2_tasksWithin_25 : decode cX2_tasksWithin 25 = .ok (.iload_n 2, 1) := by decide +kernel
theorem dX2_tasksWithin_26 : decode cX2_tasksWithin 26 = .ok (.iconst 1, 1) := by decide +kernel
theorem dX2_tasksWithin_27 : decode cX2_tasksWithin 27 = .ok (.iload_n 3, 1) := by decide +kernel
theorem dX2_tasksWithin_28 : decode cX2_tasksWithin 28 = .ok (.ishl, 1) := by decide +kernel
theorem dX2_tasksWithin_29 : decode cX2_tasksWithin 29 = .ok (.ior, 1) := by decide +kernel
theorem dX2_tasksWithin_30 : decode cX2_tasksWithin 30 = .ok (.istore_n 2, 1) := by decide +kernel
theorem dX2_tasksWithin_31 : decode cX2_tasksWithin 31 = .ok (.iinc 3 1, 3) := by decide +kernel
theorem dX2_tasksWithin_34 : decode cX2_tasksWithin 34 = .ok (.goto (-30), 3) := by decide +kernel
theorem dX2_tasksWithin_37 : decode cX2_tasksWithin 37 = .ok (.iload_n 2, 1) := by decide +kernel
theorem dX2_tasksWithin_38 : decode cX2_tasksWithin 38 = .ok (.ireturn, 1) := by decide +kernel
theorem dX2_allows_0 : decode cX2_allows 0 = .ok (.iload_n 1, 1) := by decide +kernel
theorem dX2_allows_1 : decode cX2_allows 1 = .ok (.invokestatic 42, 3) := by decide +kernel
theorem dX2_allows_4 : decode cX2_allows 4 = .ok (.aload_n 0, 1) := by decide +kernel
theorem dX2_allows_5 : decode cX2_allows 5 = .ok (.getfield 24, 3) := by decide +kernel
theorem dX2_allows_8 : decode cX2_allows 8 = .ok (.if_icmp .le 5, 3) := by decide +kernel
theorem dX2_allows_11 : decode cX2_allows 11 = .ok (.iconst 0, 1) := by decide +kernel
theorem dX2_allows_12 : decode cX2_allows 12 = .ok (.ireturn, 1) := by decide +kernel
theorem dX2_allows_13 : decode cX2_allows 13 = .ok (.iconst 0, 1) := by decide +kernel
theorem dX2_allows_14 : decode cX2_allows 14 = .ok (.istore_n 2, 1) := by decide +kernel
theorem dX2_allows_15 : decode cX2_allows 15 = .ok (.iload_n 2, 1) := by decide +kernel
theorem dX2_allows_16 : decode cX2_allows 16 = .ok (.aload_n 0, 1) := by decide +kernel
theorem dX2_allows_17 : decode cX2_allows 17 = .ok (.getfield 28, 3) := by decide +kernel
theorem dX2_allows_20 : decode cX2_allows 20 = .ok (.if_icmp .ge 43, 3) := by decide +kernel
theorem dX2_allows_23 : decode cX2_allows 23 = .ok (.iload_n 1, 1) := by decide +kernel
theorem dX2_allows_24 : decode cX2_allows 24 = .ok (.iload_n 2, 1) := by decide +kernel
theorem dX2_allows_25 : decode cX2_allows 25 = .ok (.invokestatic 39, 3) := by decide +kernel
theorem dX2_allows_28 : decode cX2_allows 28 = .ok (.ifCond .eq 29, 3) := by decide +kernel
theorem dX2_allows_31 : decode cX2_allows 31 = .ok (.aload_n 0, 1) := by decide +kernel
theorem dX2_allows_32 : decode cX2_allows 32 = .ok (.getfield 18, 3) := by decide +kernel
theorem dX2_allows_35 : decode cX2_allows 35 = .ok (.iload_n 2, 1) := by decide +kernel
theorem dX2_allows_36 : decode cX2_allows 36 = .ok (.iaload, 1) := by decide +kernel
theorem dX2_allows_37 : decode cX2_allows 37 = .ok (.iload_n 1, 1) := by decide +kernel
theorem dX2_allows_38 : decode cX2_allows 38 = .ok (.iand, 1) := by decide +kernel
theorem dX2_allows_39 : decode cX2_allows 39 = .ok (.ifCond .ne 16, 3) := by decide +kernel
theorem dX2_allows_42 : decode cX2_allows 42 = .ok (.aload_n 0, 1) := by decide +kernel
theorem dX2_allows_43 : decode cX2_allows 43 = .ok (.getfield 21, 3) := by decide +kernel
theorem dX2_allows_46 : decode cX2_allows 46 = .ok (.iload_n 2, 1) := by decide +kernel
theorem dX2_allows_47 : decode cX2_allows 47 = .ok (.iaload, 1) := by decide +kernel
theorem dX2_allows_48 : decode cX2_allows 48 = .ok (.iload_n 1, 1) := by decide +kernel
theorem dX2_allows_49 : decode cX2_allows 49 = .ok (.iconst (-1), 1) := by decide +kernel
theorem dX2_allows_50 : decode cX2_allows 50 = .ok (.ixor, 1) := by decide +kernel
theorem dX2_allows_51 : decode cX2_allows 51 = .ok (.iand, 1) := by decide +kernel
theorem dX2_allows_52 : decode cX2_allows 52 = .ok (.ifCond .eq 5, 3) := by decide +kernel
theorem dX2_allows_55 : decode cX2_allows 55 = .ok (.iconst 0, 1) := by decide +kernel
theorem dX2_allows_56 : decode cX2_allows 56 = .ok (.ireturn, 1) := by decide +kernel
theorem dX2_allows_57 : decode cX2_allows 57 = .ok (.iinc 2 1, 3) := by decide +kernel
theorem dX2_allows_60 : decode cX2_allows 60 = .ok (.goto (-45), 3) := by decide +kernel
theorem dX2_allows_63 : decode cX2_allows 63 = .ok (.iconst 1, 1) := by decide +kernel
theorem dX2_allows_64 : decode cX2_allows 64 = .ok (.ireturn, 1) := by decide +kernel
theorem dX3_init_0 : decode cX3_init 0 = .ok (.aload_n 0, 1) := by decide +kernel
theorem dX3_init_1 : decode cX3_init 1 = .ok (.invokespecial 3, 3) := by decide +kernel
theorem dX3_init_4 : decode cX3_init 4 = .ok (.aload_n 0, 1) := by decide +kernel
theorem dX3_init_5 : decode cX3_init 5 = .ok (.sipush 1200, 3) := by decide +kernel
theorem dX3_init_8 : decode cX3_init 8 = .ok (.newarray .int, 2) := by decide +kernel
theorem dX3_init_10 : decode cX3_init 10 = .ok (.putfield 11, 3) := by decide +kernel
theorem dX3_init_13 : decode cX3_init 13 = .ok (.aload_n 0, 1) := by decide +kernel
theorem dX3_init_14 : decode cX3_init 14 = .ok (.sipush 240, 3) := by decide +kernel
theorem dX3_init_17 : decode cX3_init 17 = .ok (.newarray .long, 2) := by decide +kernel
theorem dX3_init_19 : decode cX3_init 19 = .ok (.putfield 15, 3) := by decide +kernel
theorem dX3_init_22 : decode cX3_init 22 = .ok (.return_, 1) := by decide +kernel
theorem dX3_isFull_0 : decode cX3_isFull 0 = .ok (.aload_n 0, 1) := by decide +kernel
theorem dX3_isFull_1 : decode cX3_isFull 1 = .ok (.getfield 19, 3) := by decide +kernel
theorem dX3_isFull_4 : decode cX3_isFull 4 = .ok (.sipush 240, 3) := by decide +kernel
theorem dX3_isFull_7 : decode cX3_isFull 7 = .ok (.if_icmp .lt 7, 3) := by decide +kernel
theorem dX3_isFull_10 : decode cX3_isFull 10 = .ok (.iconst 1, 1) := by decide +kernel
theorem dX3_isFull_11 : decode cX3_isFull 11 = .ok (.goto 4, 3) := by decide +kernel
theorem dX3_isFull_14 : decode cX3_isFull 14 = .ok (.iconst 0, 1) := by decide +kernel
theorem dX3_isFull_15 : decode cX3_isFull 15 = .ok (.ireturn, 1) := by decide +kernel
theorem dX3_hasEntry_0 : decode cX3_hasEntry 0 = .ok (.iload_n 1, 1) := by decide +kernel
theorem dX3_hasEntry_1 : decode cX3_hasEntry 1 = .ok (.aload_n 0, 1) := by decide +kernel
theorem dX3_hasEntry_2 : decode cX3_hasEntry 2 = .ok (.getfield 19, 3) := by decide +kernel
theorem dX3_hasEntry_5 : decode cX3_hasEntry 5 = .ok (.invokestatic 23, 3) := by decide +kernel
theorem dX3_hasEntry_8 : decode cX3_hasEntry 8 = .ok (.ireturn, 1) := by decide +kernel
theorem dX3_hasCell_0 : decode cX3_hasCell 0 = .ok (.aload_n 0, 1) := by decide +kernel
theorem dX3_hasCell_1 : decode cX3_hasCell 1 = .ok (.iload_n 1, 1) := by decide +kernel
theorem dX3_hasCell_2 : decode cX3_hasCell 2 = .ok (.invokevirtual 27, 3) := by decide +kernel
theorem dX3_hasCell_5 : decode cX3_hasCell 5 = .ok (.ifCond .eq 15, 3) := by decide +kernel
theorem dX3_hasCell_8 : decode cX3_hasCell 8 = .ok (.iload_n 2, 1) := by decide +kernel
theorem dX3_hasCell_9 : decode cX3_hasCell 9 = .ok (.iconst 5, 1) := by decide +kernel
theorem dX3_hasCell_10 : decode cX3_hasCell 10 = .ok (.invokestatic 23, 3) := by decide +kernel
theorem dX3_hasCell_13 : decode cX3_hasCell 13 = .ok (.ifCond .eq 7, 3) := by decide +kernel
theorem dX3_hasCell_16 : decode cX3_hasCell 16 = .ok (.iconst 1, 1) := by decide +kernel
theorem dX3_hasCell_17 : decode cX3_hasCell 17 = .ok (.goto 4, 3) := by decide +kernel
theorem dX3_hasCell_20 : decode cX3_hasCell 20 = .ok (.iconst 0, 1) := by decide +kernel
theorem dX3_hasCell_21 : decode cX3_hasCell 21 = .ok (.ireturn, 1) := by decide +kernel
theorem dX3_add_0 : decode cX3_add 0 = .ok (.aload_n 0, 1) := by decide +kernel
theorem dX3_add_1 : decode cX3_add 1 = .ok (.getfield 19, 3) := by decide +kernel
theorem dX3_add_4 : decode cX3_add 4 = .ok (.iconst 5, 1) := by decide +kernel
theorem dX3_add_5 : decode cX3_add 5 = .ok (.imul, 1) := by decide +kernel
theorem dX3_add_6 : decode cX3_add 6 = .ok (.istore 6, 2) := by decide +kernel
theorem dX3_add_8 : decode cX3_add 8 = .ok (.aload_n 0, 1) := by decide +kernel
theorem dX3_add_9 : decode cX3_add 9 = .ok (.getfield 11, 3) := by decide +kernel
theorem dX3_add_12 : decode cX3_add 12 = .ok (.iload 6, 2) := by decide +kernel
theorem dX3_add_14 : decode cX3_add 14 = .ok (.iload_n 1, 1) := by decide +kernel
theorem dX3_add_15 : decode cX3_add 15 = .ok (.iastore, 1) := by decide +kernel
theorem dX3_add_16 : decode cX3_add 16 = .ok (.aload_n 0, 1) := by decide +kernel
theorem dX3_add_17 : decode cX3_add 17 = .ok (.getfield 11, 3) := by decide +kernel
theorem dX3_add_20 : decode cX3_add 20 = .ok (.iload 6, 2) := by decide +kernel
theorem dX3_add_22 : decode cX3_add 22 = .ok (.iconst 1, 1) := by decide +kernel
theorem dX3_add_23 : decode cX3_add 23 = .ok (.iadd, 1) := by decide +kernel
theorem dX3_add_24 : decode cX3_add 24 = .ok (.iload_n 2, 1) := by decide +kernel
theorem dX3_add_25 : decode cX3_add 25 = .ok (.iastore, 1) := by decide +kernel
theorem dX3_add_26 : decode cX3_add 26 = .ok (.aload_n 0, 1) := by decide +kernel
theorem dX3_add_27 : decode cX3_add 27 = .ok (.getfield 11, 3) := by decide +kernel
theorem dX3_add_30 : decode cX3_add 30 = .ok (.iload 6, 2) := by decide +kernel
theorem dX3_add_32 : decode cX3_add 32 = .ok (.iconst 2, 1) := by decide +kernel
theorem dX3_add_33 : decode cX3_add 33 = .ok (.iadd, 1) := by decide +kernel
theorem dX3_add_34 : decode cX3_add 34 = .ok (.iload_n 3, 1) := by decide +kernel
theorem dX3_add_35 : decode cX3_add 35 = .ok (.iastore, 1) := by decide +kernel
theorem dX3_add_36 : decode cX3_add 36 = .ok (.aload_n 0, 1) := by decide +kernel
theorem dX3_add_37 : decode cX3_add 37 = .ok (.getfield 11, 3) := by decide +kernel
theorem dX3_add_40 : decode cX3_add 40 = .ok (.iload 6, 2) := by decide +kernel
theorem dX3_add_42 : decode cX3_add 42 = .ok (.iconst 3, 1) := by decide +kernel
theorem dX3_add_43 : decode cX3_add 43 = .ok (.iadd, 1) := by decide +kernel
theorem dX3_add_44 : decode cX3_add 44 = .ok (.iload 4, 2) := by decide +kernel
theorem dX3_add_46 : decode cX3_add 46 = .ok (.iastore, 1) := by decide +kernel
theorem dX3_add_47 : decode cX3_add 47 = .ok (.aload_n 0, 1) := by decide +kernel
theorem dX3_add_48 : decode cX3_add 48 = .ok (.getfield 11, 3) := by decide +kernel
theorem dX3_add_51 : decode cX3_add 51 = .ok (.iload 6, 2) := by decide +kernel
theorem dX3_add_53 : decode cX3_add 53 = .ok (.iconst 4, 1) := by decide +kernel
theorem dX3_add_54 : decode cX3_add 54 = .ok (.iadd, 1) := by decide +kernel
theorem dX3_add_55 : decode cX3_add 55 = .ok (.iload 5, 2) := by decide +kernel
theorem dX3_add_57 : decode cX3_add 57 = .ok (.iastore, 1) := by decide +kernel
theorem dX3_add_58 : decode cX3_add 58 = .ok (.aload_n 0, 1) := by decide +kernel
theorem dX3_add_59 : decode cX3_add 59 = .ok (.getfield 15, 3) := by decide +kernel
theorem dX3_add_62 : decode cX3_add 62 = .ok (.aload_n 0, 1) := by decide +kernel
theorem dX3_add_63 : decode cX3_add 63 = .ok (.getfield 19, 3) := by decide +kernel
theorem dX3_add_66 : decode cX3_add 66 = .ok (.aload_n 0, 1) := by decide +kernel
theorem dX3_add_67 : decode cX3_add 67 = .ok (.aload_n 0, 1) := by decide +kernel
theorem dX3_add_68 : decode cX3_add 68 = .ok (.getfield 19, 3) := by decide +kernel
theorem dX3_add_71 : decode cX3_add 71 = .ok (.invokevirtual 31, 3) := by decide +kernel
theorem dX3_add_74 : decode cX3_add 74 = .ok (.lastore, 1) := by decide +kernel
theorem dX3_add_75 : decode cX3_add 75 = .ok (.aload_n 0, 1) := by decide +kernel
theorem dX3_add_76 : decode cX3_add 76 = .ok (.dup, 1) := by decide +kernel
theorem dX3_add_77 : decode cX3_add 77 = .ok (.getfield 19, 3) := by decide +kernel
theorem dX3_add_80 : decode cX3_add 80 = .ok (.iconst 1, 1) := by decide +kernel
theorem dX3_add_81 : decode cX3_add 81 = .ok (.iadd, 1) := by decide +kernel
theorem dX3_add_82 : decode cX3_add 82 = .ok (.putfield 19, 3) := by decide +kernel
theorem dX3_add_85 : decode cX3_add 85 = .ok (.return_, 1) := by decide +kernel
theorem dX3_linkDue_0 : decode cX3_linkDue 0 = .ok (.iload_n 1, 1) := by decide +kernel
theorem dX3_linkDue_1 : decode cX3_linkDue 1 = .ok (.iconst 5, 1) := by decide +kernel
theorem dX3_linkDue_2 : decode cX3_linkDue 2 = .ok (.imul, 1) := by decide +kernel
theorem dX3_linkDue_3 : decode cX3_linkDue 3 = .ok (.istore_n 2, 1) := by decide +kernel
theorem dX3_linkDue_4 : decode cX3_linkDue 4 = .ok (.iload_n 1, 1) := by decide +kernel
theorem dX3_linkDue_5 : decode cX3_linkDue 5 = .ok (.ifCond .ne 7, 3) := by decide +kernel
theorem dX3_linkDue_8 : decode cX3_linkDue 8 = .ok (.lconst 1, 1) := by decide +kernel
theorem dX3_linkDue_9 : decode cX3_linkDue 9 = .ok (.goto 11, 3) := by decide +kernel
theorem dX3_linkDue_12 : decode cX3_linkDue 12 = .ok (.aload_n 0, 1) := by decide +kernel
theorem dX3_linkDue_13 : decode cX3_linkDue 13 = .ok (.getfield 15, 3) := by decide +kernel
theorem dX3_linkDue_16 : decode cX3_linkDue 16 = .ok (.iload_n 1, 1) := by decide +kernel
theorem dX3_linkDue_17 : decode cX3_linkDue 17 = .ok (.iconst 1, 1) := by decide +kernel
theorem dX3_linkDue_18 : decode cX3_linkDue 18 = .ok (.isub, 1) := by decide +kernel
theorem dX3_linkDue_19 : decode cX3_linkDue 19 = .ok (.laload, 1) := by decide +kernel
theorem dX3_linkDue_20 : decode cX3_linkDue 20 = .ok (.ldc2_w 35, 3) := by decide +kernel
theorem dX3_linkDue_23 : decode cX3_linkDue 23 = .ok (.lmul, 1) := by decide +kernel
theorem dX3_linkDue_24 : decode cX3_linkDue 24 = .ok (.aload_n 0, 1) := by decide +kernel
theorem dX3_linkDue_25 : decode cX3_linkDue 25 = .ok (.getfield 11, 3) := by decide +kernel
theorem dX3_linkDue_28 : decode cX3_linkDue 28 = .ok (.iload_n 2, 1) := by decide +kernel
theorem dX3_linkDue_29 : decode cX3_linkDue 29 = .ok (.iaload, 1) := by decide +kernel
theorem dX3_linkDue_30 : decode cX3_linkDue 30 = .ok (.i2l, 1) := by decide +kernel
theorem dX3_linkDue_31 : decode cX3_linkDue 31 = .ok (.ladd, 1) := by decide +kernel
theorem dX3_linkDue_32 : decode cX3_linkDue 32 = .ok (.lstore_n 3, 1) := by decide +kernel
theorem dX3_linkDue_33 : decode cX3_linkDue 33 = .ok (.iconst 1, 1) := by decide +kernel
theorem dX3_linkDue_34 : decode cX3_linkDue 34 = .ok (.istore 5, 2) := by decide +kernel
theorem dX3_linkDue_36 : decode cX3_linkDue 36 = .ok (.iload 5, 2) := by decide +kernel
theorem dX3_linkDue_38 : decode cX3_linkDue 38 = .ok (.iconst 3, 1) := by decide +kernel
theorem dX3_linkDue_39 : decode cX3_linkDue 39 = .ok (.if_icmp .gt 33, 3) := by decide +kernel
theorem dX3_linkDue_42 : decode cX3_linkDue 42 = .ok (.lload_n 3, 1) := by decide +kernel
theorem dX3_linkDue_43 : decode cX3_linkDue 43 = .ok (.lload_n 3, 1) := by decide +kernel
theorem dX3_linkDue_44 : decode cX3_linkDue 44 = .ok (.bipush 29, 2) := by decide +kernel
theorem dX3_linkDue_46 : decode cX3_linkDue 46 = .ok (.lushr, 1) := by decide +kernel
theorem dX3_linkDue_47 : decode cX3_linkDue 47 = .ok (.lxor, 1) := by decide +kernel
theorem dX3_linkDue_48 : decode cX3_linkDue 48 = .ok (.lstore_n 3, 1) := by decide +kernel
theorem dX3_linkDue_49 : decode cX3_linkDue 49 = .ok (.lload_n 3, 1) := by decide +kernel
theorem dX3_linkDue_50 : decode cX3_linkDue 50 = .ok (.ldc2_w 37, 3) := by decide +kernel
theorem dX3_linkDue_53 : decode cX3_linkDue 53 = .ok (.lmul, 1) := by decide +kernel
theorem dX3_linkDue_54 : decode cX3_linkDue 54 = .ok (.aload_n 0, 1) := by decide +kernel
theorem dX3_linkDue_55 : decode cX3_linkDue 55 = .ok (.getfield 11, 3) := by decide +kernel
theorem dX3_linkDue_58 : decode cX3_linkDue 58 = .ok (.iload_n 2, 1) := by decide +kernel
theorem dX3_linkDue_59 : decode cX3_linkDue 59 = .ok (.iload 5, 2) := by decide +kernel
theorem dX3_linkDue_61 : decode cX3_linkDue 61 = .ok (.iadd, 1) := by decide +kernel
theorem dX3_linkDue_62 : decode cX3_linkDue 62 = .ok (.iaload, 1) := by decide +kernel
theorem dX3_linkDue_63 : decode cX3_linkDue 63 = .ok (.i2l, 1) := by decide +kernel
theorem dX3_linkDue_64 : decode cX3_linkDue 64 = .ok (.ladd, 1) := by decide +kernel
theorem dX3_linkDue_65 : decode cX3_linkDue 65 = .ok (.lstore_n 3, 1) := by decide +kernel
theorem dX3_linkDue_66 : decode cX3_linkDue 66 = .ok (.iinc 5 1, 3) := by decide +kernel
theorem dX3_linkDue_69 : decode cX3_linkDue 69 = .ok (.goto (-33), 3) := by decide +kernel
theorem dX3_linkDue_72 : decode cX3_linkDue 72 = .ok (.lload_n 3, 1) := by decide +kernel
theorem dX3_linkDue_73 : decode cX3_linkDue 73 = .ok (.lload_n 3, 1) := by decide +kernel
theorem dX3_linkDue_74 : decode cX3_linkDue 74 = .ok (.bipush 32, 2) := by decide +kernel
theorem dX3_linkDue_76 : decode cX3_linkDue 76 = .ok (.lushr, 1) := by decide +kernel
theorem dX3_linkDue_77 : decode cX3_linkDue 77 = .ok (.lxor, 1) := by decide +kernel
theorem dX3_linkDue_78 : decode cX3_linkDue 78 = .ok (.lstore_n 3, 1) := by decide +kernel
theorem dX3_linkDue_79 : decode cX3_linkDue 79 = .ok (.lload_n 3, 1) := by decide +kernel
theorem dX3_linkDue_80 : decode cX3_linkDue 80 = .ok (.ldc2_w 39, 3) := by decide +kernel
theorem dX3_linkDue_83 : decode cX3_linkDue 83 = .ok (.lmul, 1) := by decide +kernel
theorem dX3_linkDue_84 : decode cX3_linkDue 84 = .ok (.aload_n 0, 1) := by decide +kernel
theorem dX3_linkDue_85 : decode cX3_linkDue 85 = .ok (.getfield 11, 3) := by decide +kernel
theorem dX3_linkDue_88 : decode cX3_linkDue 88 = .ok (.iload_n 2, 1) := by decide +kernel
theorem dX3_linkDue_89 : decode cX3_linkDue 89 = .ok (.iconst 4, 1) := by decide +kernel
theorem dX3_linkDue_90 : decode cX3_linkDue 90 = .ok (.iadd, 1) := by decide +kernel
theorem dX3_linkDue_91 : decode cX3_linkDue 91 = .ok (.iaload, 1) := by decide +kernel
theorem dX3_linkDue_92 : decode cX3_linkDue 92 = .ok (.i2l, 1) := by decide +kernel
theorem dX3_linkDue_93 : decode cX3_linkDue 93 = .ok (.ladd, 1) := by decide +kernel
theorem dX3_linkDue_94 : decode cX3_linkDue 94 = .ok (.lstore_n 3, 1) := by decide +kernel
theorem dX3_linkDue_95 : decode cX3_linkDue 95 = .ok (.lload_n 3, 1) := by decide +kernel
theorem dX3_linkDue_96 : decode cX3_linkDue 96 = .ok (.lload_n 3, 1) := by decide +kernel
theorem dX3_linkDue_97 : decode cX3_linkDue 97 = .ok (.bipush 31, 2) := by decide +kernel
theorem dX3_linkDue_99 : decode cX3_linkDue 99 = .ok (.lushr, 1) := by decide +kernel
theorem dX3_linkDue_100 : decode cX3_linkDue 100 = .ok (.lxor, 1) := by decide +kernel
theorem dX3_linkDue_101 : decode cX3_linkDue 101 = .ok (.lreturn, 1) := by decide +kernel
theorem dX3_firstWrong_0 : decode cX3_firstWrong 0 = .ok (.iconst 0, 1) := by decide +kernel
theorem dX3_firstWrong_1 : decode cX3_firstWrong 1 = .ok (.istore_n 1, 1) := by decide +kernel
theorem dX3_firstWrong_2 : decode cX3_firstWrong 2 = .ok (.iload_n 1, 1) := by decide +kernel
theorem dX3_firstWrong_3 : decode cX3_firstWrong 3 = .ok (.aload_n 0, 1) := by decide +kernel
theorem dX3_firstWrong_4 : decode cX3_firstWrong 4 = .ok (.getfield 19, 3) := by decide +kernel
theorem dX3_firstWrong_7 : decode cX3_firstWrong 7 = .ok (.if_icmp .ge 26, 3) := by decide +kernel
theorem dX3_firstWrong_10 : decode cX3_firstWrong 10 = .ok (.aload_n 0, 1) := by decide +kernel
theorem dX3_firstWrong_11 : decode cX3_firstWrong 11 = .ok (.getfield 15, 3) := by decide +kernel
theorem dX3_firstWrong_14 : decode cX3_firstWrong 14 = .ok (.iload_n 1, 1) := by decide +kernel
theorem dX3_firstWrong_15 : decode cX3_firstWrong 15 = .ok (.laload, 1) := by decide +kernel
theorem dX3_firstWrong_16 : decode cX3_firstWrong 16 = .ok (.aload_n 0, 1) := by decide +kernel
theorem dX3_firstWrong_17 : decode cX3_firstWrong 17 = .ok (.iload_n 1, 1) := by decide +kernel
theorem dX3_firstWrong_18 : decode cX3_firstWrong 18 = .ok (.invokevirtual 31, 3) := by decide +kernel
theorem dX3_firstWrong_21 : decode cX3_firstWrong 21 = .ok (.lcmp, 1) := by decide +kernel
theorem dX3_firstWrong_22 : decode cX3_firstWrong 22 = .ok (.ifCond .eq 5, 3) := by decide +kernel
theorem dX3_firstWrong_25 : decode cX3_firstWrong 25 = .ok (.iload_n 1, 1) := by decide +kernel
theorem dX3_firstWrong_26 : decode cX3_firstWrong 26 = .ok (.ireturn, 1) := by decide +kernel
theorem dX3_firstWrong_27 : decode cX3_firstWrong 27 = .ok (.iinc 1 1, 3) := by decide +kernel
theorem dX3_firstWrong_30 : decode cX3_firstWrong 30 = .ok (.goto (-28), 3) := by decide +kernel
theorem dX3_firstWrong_33 : decode cX3_firstWrong 33 = .ok (.iconst (-1), 1) := by decide +kernel
theorem dX3_firstWrong_34 : decode cX3_firstWrong 34 = .ok (.ireturn, 1) := by decide +kernel
theorem dX4_init_0 : decode cX4_init 0 = .ok (.aload_n 0, 1) := by decide +kernel
theorem dX4_init_1 : decode cX4_init 1 = .ok (.invokespecial 3, 3) := by decide +kernel
theorem dX4_init_4 : decode cX4_init 4 = .ok (.aload_n 0, 1) := by decide +kernel
theorem dX4_init_5 : decode cX4_init 5 = .ok (.bipush 24, 2) := by decide +kernel
theorem dX4_init_7 : decode cX4_init 7 = .ok (.newarray .int, 2) := by decide +kernel
theorem dX4_init_9 : decode cX4_init 9 = .ok (.putfield 9, 3) := by decide +kernel
theorem dX4_init_12 : decode cX4_init 12 = .ok (.aload_n 0, 1) := by decide +kernel
theorem dX4_init_13 : decode cX4_init 13 = .ok (.bipush 8, 2) := by decide +kernel
theorem dX4_init_15 : decode cX4_init 15 = .ok (.newarray .int, 2) := by decide +kernel
theorem dX4_init_17 : decode cX4_init 17 = .ok (.putfield 15, 3) := by decide +kernel
theorem dX4_init_20 : decode cX4_init 20 = .ok (.aload_n 0, 1) := by decide +kernel
theorem dX4_init_21 : decode cX4_init 21 = .ok (.bipush 48, 2) := by decide +kernel
theorem dX4_init_23 : decode cX4_init 23 = .ok (.newarray .int, 2) := by decide +kernel
theorem dX4_init_25 : decode cX4_init 25 = .ok (.putfield 18, 3) := by decide +kernel
theorem dX4_init_28 : decode cX4_init 28 = .ok (.aload_n 0, 1) := by decide +kernel
theorem dX4_init_29 : decode cX4_init 29 = .ok (.bipush 12, 2) := by decide +kernel
theorem dX4_init_31 : decode cX4_init 31 = .ok (.newarray .int, 2) := by decide +kernel
theorem dX4_init_33 : decode cX4_init 33 = .ok (.putfield 21, 3) := by decide +kernel
theorem dX4_init_36 : decode cX4_init 36 = .ok (.aload_n 0, 1) := by decide +kernel
theorem dX4_init_37 : decode cX4_init 37 = .ok (.bipush 12, 2) := by decide +kernel
theorem dX4_init_39 : decode cX4_init 39 = .ok (.newarray .int, 2) := by decide +kernel
theorem dX4_init_41 : decode cX4_init 41 = .ok (.putfield 24, 3) := by decide +kernel
theorem dX4_init_44 : decode cX4_init 44 = .ok (.return_, 1) := by decide +kernel
theorem dX4_hasFirm_0 : decode cX4_hasFirm 0 = .ok (.iload_n 1, 1) := by decide +kernel
theorem dX4_hasFirm_1 : decode cX4_hasFirm 1 = .ok (.aload_n 0, 1) := by decide +kernel
theorem dX4_hasFirm_2 : decode cX4_hasFirm 2 = .ok (.getfield 27, 3) := by decide +kernel
theorem dX4_hasFirm_5 : decode cX4_hasFirm 5 = .ok (.invokestatic 31, 3) := by decide +kernel
theorem dX4_hasFirm_8 : decode cX4_hasFirm 8 = .ok (.ireturn, 1) := by decide +kernel
theorem dX4_hasObject_0 : decode cX4_hasObject 0 = .ok (.iload_n 1, 1) := by decide +kernel
theorem dX4_hasObject_1 : decode cX4_hasObject 1 = .ok (.aload_n 0, 1) := by decide +kernel
theorem dX4_hasObject_2 : decode cX4_hasObject 2 = .ok (.getfield 35, 3) := by decide +kernel
theorem dX4_hasObject_5 : decode cX4_hasObject 5 = .ok (.invokestatic 31, 3) := by decide +kernel
theorem dX4_hasObject_8 : decode cX4_hasObject 8 = .ok (.ireturn, 1) := by decide +kernel
theorem dX4_addFirm_0 : decode cX4_addFirm 0 = .ok (.aload_n 0, 1) := by decide +kernel
theorem dX4_addFirm_1 : decode cX4_addFirm 1 = .ok (.getfield 27, 3) := by decide +kernel
theorem dX4_addFirm_4 : decode cX4_addFirm 4 = .ok (.bipush 24, 2) := by decide +kernel
theorem dX4_addFirm_6 : decode cX4_addFirm 6 = .ok (.if_icmp .lt 6, 3) := by decide +kernel
theorem dX4_addFirm_9 : decode cX4_addFirm 9 = .ok (.bipush (-3), 2) := by decide +kernel
theorem dX4_addFirm_11 : decode cX4_addFirm 11 = .ok (.ireturn, 1) := by decide +kernel
theorem dX4_addFirm_12 : decode cX4_addFirm 12 = .ok (.aload_n 0, 1) := by decide +kernel
theorem dX4_addFirm_13 : decode cX4_addFirm 13 = .ok (.getfield 9, 3) := by decide +kernel
theorem dX4_addFirm_16 : decode cX4_addFirm 16 = .ok (.aload_n 0, 1) := by decide +kernel
theorem dX4_addFirm_17 : decode cX4_addFirm 17 = .ok (.getfield 27, 3) := by decide +kernel
theorem dX4_addFirm_20 : decode cX4_addFirm 20 = .ok (.iload_n 1, 1) := by decide +kernel
theorem dX4_addFirm_21 : decode cX4_addFirm 21 = .ok (.iastore, 1) := by decide +kernel
theorem dX4_addFirm_22 : decode cX4_addFirm 22 = .ok (.iload_n 1, 1) := by decide +kernel
theorem dX4_addFirm_23 : decode cX4_addFirm 23 = .ok (.iconst (-1), 1) := by decide +kernel
theorem dX4_addFirm_24 : decode cX4_addFirm 24 = .ok (.if_icmp .eq 18, 3) := by decide +kernel
theorem dX4_addFirm_27 : decode cX4_addFirm 27 = .ok (.aload_n 0, 1) := by decide +kernel
theorem dX4_addFirm_28 : decode cX4_addFirm 28 = .ok (.getfield 15, 3) := by decide +kernel
theorem dX4_addFirm_31 : decode cX4_addFirm 31 = .ok (.iload_n 1, 1) := by decide +kernel
theorem dX4_addFirm_32 : decode cX4_addFirm 32 = .ok (.dup2, 1) := by decide +kernel
theorem dX4_addFirm_33 : decode cX4_addFirm 33 = .ok (.iaload, 1) := by decide +kernel
theorem dX4_addFirm_34 : decode cX4_addFirm 34 = .ok (.iconst 1, 1) := by decide +kernel
theorem dX4_addFirm_35 : decode cX4_addFirm 35 = .ok (.aload_n 0, 1) := by decide +kernel
theorem dX4_addFirm_36 : decode cX4_addFirm 36 = .ok (.getfield 27, 3) := by decide +kernel
theorem dX4_addFirm_39 : decode cX4_addFirm 39 = .ok (.ishl, 1) := by decide +kernel
theorem dX4_addFirm_40 : decode cX4_addFirm 40 = .ok (.ior, 1) := by decide +kernel
theorem dX4_addFirm_41 : decode cX4_addFirm 41 = .ok (.iastore, 1) := by decide +kernel
theorem dX4_addFirm_42 : decode cX4_addFirm 42 = .ok (.aload_n 0, 1) := by decide +kernel
theorem dX4_addFirm_43 : decode cX4_addFirm 43 = .ok (.dup, 1) := by decide +kernel
theorem dX4_addFirm_44 : decode cX4_addFirm 44 = .ok (.getfield 27, 3) := by decide +kernel
theorem dX4_addFirm_47 : decode cX4_addFirm 47 = .ok (.iconst 1, 1) := by decide +kernel
theorem dX4_addFirm_48 : decode cX4_addFirm 48 = .ok (.iadd, 1) := by decide +kernel
theorem dX4_addFirm_49 : decode cX4_addFirm 49 = .ok (.putfield 27, 3) := by decide +kernel
theorem dX4_addFirm_52 : decode cX4_addFirm 52 = .ok (.aload_n 0, 1) := by decide +kernel
theorem dX4_addFirm_53 : decode cX4_addFirm 53 = .ok (.getfield 27, 3) := by decide +kernel
theorem dX4_addFirm_56 : decode cX4_addFirm 56 = .ok (.iconst 1, 1) := by decide +kernel
theorem dX4_addFirm_57 : decode cX4_addFirm 57 = .ok (.isub, 1) := by decide +kernel
theorem dX4_addFirm_58 : decode cX4_addFirm 58 = .ok (.ireturn, 1) := by decide +kernel
theorem dX4_addObject_0 : decode cX4_addObject 0 = .ok (.aload_n 0, 1) := by decide +kernel
theorem dX4_addObject_1 : decode cX4_addObject 1 = .ok (.getfield 35, 3) := by decide +kernel
theorem dX4_addObject_4 : decode cX4_addObject 4 = .ok (.bipush 48, 2) := by decide +kernel
theorem dX4_addObject_6 : decode cX4_addObject 6 = .ok (.if_icmp .lt 6, 3) := by decide +kernel
theorem dX4_addObject_9 : decode cX4_addObject 9 = .ok (.bipush (-3), 2) := by decide +kernel
theorem dX4_addObject_11 : decode cX4_addObject 11 = .ok (.ireturn, 1) := by decide +kernel
theorem dX4_addObject_12 : decode cX4_addObject 12 = .ok (.aload_n 0, 1) := by decide +kernel
theorem dX4_addObject_13 : decode cX4_addObject 13 = .ok (.getfield 18, 3) := by decide +kernel
theorem dX4_addObject_16 : decode cX4_addObject 16 = .ok (.aload_n 0, 1) := by decide +kernel
theorem dX4_addObject_17 : decode cX4_addObject 17 = .ok (.getfield 35, 3) := by decide +kernel
theorem dX4_addObject_20 : decode cX4_addObject 20 = .ok (.iload_n 1, 1) := by decide +kernel
theorem dX4_addObject_21 : decode cX4_addObject 21 = .ok (.iastore, 1) := by decide +kernel
theorem dX4_addObject_22 : decode cX4_addObject 22 = .ok (.aload_n 0, 1) := by decide +kernel
theorem dX4_addObject_23 : decode cX4_addObject 23 = .ok (.dup, 1) := by decide +kernel
theorem dX4_addObject_24 : decode cX4_addObject 24 = .ok (.getfield 35, 3) := by decide +kernel
theorem dX4_addObject_27 : decode cX4_addObject 27 = .ok (.iconst 1, 1) := by decide +kernel
theorem dX4_addObject_28 : decode cX4_addObject 28 = .ok (.iadd, 1) := by decide +kernel
theorem dX4_addObject_29 : decode cX4_addObject 29 = .ok (.putfield 35, 3) := by decide +kernel
theorem dX4_addObject_32 : decode cX4_addObject 32 = .ok (.aload_n 0, 1) := by decide +kernel
theorem dX4_addObject_33 : decode cX4_addObject 33 = .ok (.getfield 35, 3) := by decide +kernel
theorem dX4_addObject_36 : decode cX4_addObject 36 = .ok (.iconst 1, 1) := by decide +kernel
theorem dX4_addObject_37 : decode cX4_addObject 37 = .ok (.isub, 1) := by decide +kernel
theorem dX4_addObject_38 : decode cX4_addObject 38 = .ok (.ireturn, 1) := by decide +kernel
theorem dX4_letRead_0 : decode cX4_letRead 0 = .ok (.aload_n 0, 1) := by decide +kernel
theorem dX4_letRead_1 : decode cX4_letRead 1 = .ok (.getfield 9, 3) := by decide +kernel
theorem dX4_letRead_4 : decode cX4_letRead 4 = .ok (.iload_n 2, 1) := by decide +kernel
theorem dX4_letRead_5 : decode cX4_letRead 5 = .ok (.iaload, 1) := by decide +kernel
theorem dX4_letRead_6 : decode cX4_letRead 6 = .ok (.istore_n 3, 1) := by decide +kernel
theorem dX4_letRead_7 : decode cX4_letRead 7 = .ok (.iload_n 3, 1) := by decide +kernel
theorem dX4_letRead_8 : decode cX4_letRead 8 = .ok (.iconst (-1), 1) := by decide +kernel
theorem dX4_letRead_9 : decode cX4_letRead 9 = .ok (.if_icmp .eq 32, 3) := by decide +kernel
theorem dX4_letRead_12 : decode cX4_letRead 12 = .ok (.aload_n 0, 1) := by decide +kernel
theorem dX4_letRead_13 : decode cX4_letRead 13 = .ok (.getfield 21, 3) := by decide +kernel
theorem dX4_letRead_16 : decode cX4_letRead 16 = .ok (.iload_n 1, 1) := by decide +kernel
theorem dX4_letRead_17 : decode cX4_letRead 17 = .ok (.iaload, 1) := by decide +kernel
theorem dX4_letRead_18 : decode cX4_letRead 18 = .ok (.iload_n 2, 1) := by decide +kernel
theorem dX4_letRead_19 : decode cX4_letRead 19 = .ok (.invokestatic 38, 3) := by decide +kernel
theorem dX4_letRead_22 : decode cX4_letRead 22 = .ok (.ifCond .ne 19, 3) := by decide +kernel
theorem dX4_letRead_25 : decode cX4_letRead 25 = .ok (.aload_n 0, 1) := by decide +kernel
theorem dX4_letRead_26 : decode cX4_letRead 26 = .ok (.getfield 21, 3) := by decide +kernel
theorem dX4_letRead_29 : decode cX4_letRead 29 = .ok (.iload_n 1, 1) := by decide +kernel
theorem dX4_letRead_30 : decode cX4_letRead 30 = .ok (.iaload, 1) := by decide +kernel
theorem dX4_letRead_31 : decode cX4_letRead 31 = .ok (.aload_n 0, 1) := by decide +kernel
theorem dX4_letRead_32 : decode cX4_letRead 32 = .ok (.getfield 15, 3) := by decide +kernel
theorem dX4_letRead_35 : decode cX4_letRead 35 = .ok (.iload_n 3, 1) := by decide +kernel
theorem dX4_letRead_36 : decode cX4_letRead 36 = .ok (.iaload, 1) := by decide +kernel
theorem dX4_letRead_37 : decode cX4_letRead 37 = .ok (.iand, 1) := by decide +kernel
theorem dX4_letRead_38 : decode cX4_letRead 38 = .ok (.ifCond .ne 7, 3) := by decide +kernel
theorem dX4_letRead_41 : decode cX4_letRead 41 = .ok (.iconst 1, 1) := by decide +kernel
theorem dX4_letRead_42 : decode cX4_letRead 42 = .ok (.goto 4, 3) := by decide +kernel
theorem dX4_letRead_45 : decode cX4_letRead 45 = .ok (.iconst 0, 1) := by decide +kernel
theorem dX4_letRead_46 : decode cX4_letRead 46 = .ok (.ireturn, 1) := by decide +kernel
theorem dX4_onReading_0 : decode cX4_onReading 0 = .ok (.aload_n 0, 1) := by decide +kernel
theorem dX4_onReading_1 : decode cX4_onReading 1 = .ok (.iload_n 1, 1) := by decide +kernel
theorem dX4_onReading_2 : decode cX4_onReading 2 = .ok (.iload_n 2, 1) := by decide +kernel
theorem dX4_onReading_3 : decode cX4_onReading 3 = .ok (.invokevirtual 41, 3) := by decide +kernel
theorem dX4_onReading_6 : decode cX4_onReading 6 = .ok (.ifCond .eq 7, 3) := by decide +kernel
theorem dX4_onReading_9 : decode cX4_onReading 9 = .ok (.iconst 0, 1) := by decide +kernel
theorem dX4_onReading_10 : decode cX4_onReading 10 = .ok (.goto 5, 3) := by decide +kernel
theorem dX4_onReading_13 : decode cX4_onReading 13 = .ok (.bipush (-11), 2) := by decide +kernel
theorem dX4_onReading_15 : decode cX4_onReading 15 = .ok (.ireturn, 1) := by decide +kernel
theorem dX4_onWriting_0 : decode cX4_onWriting 0 = .ok (.aload_n 0, 1) := by decide +kernel
theorem dX4_onWriting_1 : decode cX4_onWriting 1 = .ok (.iload_n 1, 1) := by decide +kernel
theorem dX4_onWriting_2 : decode cX4_onWriting 2 = .ok (.iload_n 2, 1) := by decide +kernel
theorem dX4_onWriting_3 : decode cX4_onWriting 3 = .ok (.invokevirtual 41, 3) := by decide +kernel
theorem dX4_onWriting_6 : decode cX4_onWriting 6 = .ok (.ifCond .ne 6, 3) := by decide +kernel
theorem dX4_onWriting_9 : decode cX4_onWriting 9 = .ok (.bipush (-11), 2) := by decide +kernel
theorem dX4_onWriting_11 : decode cX4_onWriting 11 = .ok (.ireturn, 1) := by decide +kernel
theorem dX4_onWriting_12 : decode cX4_onWriting 12 = .ok (.aload_n 0, 1) := by decide +kernel
theorem dX4_onWriting_13 : decode cX4_onWriting 13 = .ok (.getfield 21, 3) := by decide +kernel
theorem dX4_onWriting_16 : decode cX4_onWriting 16 = .ok (.iload_n 1, 1) := by decide +kernel
theorem dX4_onWriting_17 : decode cX4_onWriting 17 = .ok (.iaload, 1) := by decide +kernel
theorem dX4_onWriting_18 : decode cX4_onWriting 18 = .ok (.aload_n 0, 1) := by decide +kernel
theorem dX4_onWriting_19 : decode cX4_onWriting 19 = .ok (.getfield 24, 3) := by decide +kernel
theorem dX4_onWriting_22 : decode cX4_onWriting 22 = .ok (.iload_n 1, 1) := by decide +kernel
theorem dX4_onWriting_23 : decode cX4_onWriting 23 = .ok (.iaload, 1) := by decide +kernel
theorem dX4_onWriting_24 : decode cX4_onWriting 24 = .ok (.ior, 1) := by decide +kernel
theorem dX4_onWriting_25 : decode cX4_onWriting 25 = .ok (.iconst 1, 1) := by decide +kernel
theorem dX4_onWriting_26 : decode cX4_onWriting 26 = .ok (.iload_n 2, 1) := by decide +kernel
theorem dX4_onWriting_27 : decode cX4_onWriting 27 = .ok (.ishl, 1) := by decide +kernel
theorem dX4_onWriting_28 : decode cX4_onWriting 28 = .ok (.iconst (-1), 1) := by decide +kernel
theorem dX4_onWriting_29 : decode cX4_onWriting 29 = .ok (.ixor, 1) := by decide +kernel
theorem dX4_onWriting_30 : decode cX4_onWriting 30 = .ok (.iand, 1) := by decide +kernel
theorem dX4_onWriting_31 : decode cX4_onWriting 31 = .ok (.istore_n 3, 1) := by decide +kernel
theorem dX4_onWriting_32 : decode cX4_onWriting 32 = .ok (.iload_n 3, 1) := by decide +kernel
theorem dX4_onWriting_33 : decode cX4_onWriting 33 = .ok (.ifCond .ne 7, 3) := by decide +kernel
theorem dX4_onWriting_36 : decode cX4_onWriting 36 = .ok (.iconst 0, 1) := by decide +kernel
theorem dX4_onWriting_37 : decode cX4_onWriting 37 = .ok (.goto 5, 3) := by decide +kernel
theorem dX4_onWriting_40 : decode cX4_onWriting 40 = .ok (.bipush (-12), 2) := by decide +kernel
theorem dX4_onWriting_42 : decode cX4_onWriting 42 = .ok (.ireturn, 1) := by decide +kernel
theorem dX4_teachFirm_0 : decode cX4_teachFirm 0 = .ok (.aload_n 0, 1) := by decide +kernel
theorem dX4_teachFirm_1 : decode cX4_teachFirm 1 = .ok (.getfield 9, 3) := by decide +kernel
theorem dX4_teachFirm_4 : decode cX4_teachFirm 4 = .ok (.iload_n 2, 1) := by decide +kernel
theorem dX4_teachFirm_5 : decode cX4_teachFirm 5 = .ok (.iaload, 1) := by decide +kernel
theorem dX4_teachFirm_6 : decode cX4_teachFirm 6 = .ok (.iconst (-1), 1) := by decide +kernel
theorem dX4_teachFirm_7 : decode cX4_teachFirm 7 = .ok (.if_icmp .eq 15, 3) := by decide +kernel
theorem dX4_teachFirm_10 : decode cX4_teachFirm 10 = .ok (.aload_n 0, 1) := by decide +kernel
theorem dX4_teachFirm_11 : decode cX4_teachFirm 11 = .ok (.getfield 21, 3) := by decide +kernel
theorem dX4_teachFirm_14 : decode cX4_teachFirm 14 = .ok (.iload_n 1, 1) := by decide +kernel
theorem dX4_teachFirm_15 : decode cX4_teachFirm 15 = .ok (.dup2, 1) := by decide +kernel
theorem dX4_teachFirm_16 : decode cX4_teachFirm 16 = .ok (.iaload, 1) := by decide +kernel
theorem dX4_teachFirm_17 : decode cX4_teachFirm 17 = .ok (.iconst 1, 1) := by decide +kernel
theorem dX4_teachFirm_18 : decode cX4_teachFirm 18 = .ok (.iload_n 2, 1) := by decide +kernel
theorem dX4_teachFirm_19 : decode cX4_teachFirm 19 = .ok (.ishl, 1) := by decide +kernel
theorem dX4_teachFirm_20 : decode cX4_teachFirm 20 = .ok (.ior, 1) := by decide +kernel
theorem dX4_teachFirm_21 : decode cX4_teachFirm 21 = .ok (.iastore, 1) := by decide +kernel
theorem dX4_teachFirm_22 : decode cX4_teachFirm 22 = .ok (.return_, 1) := by decide +kernel
theorem dX4_showFirm_0 : decode cX4_showFirm 0 = .ok (.aload_n 0, 1) := by decide +kernel
theorem dX4_showFirm_1 : decode cX4_showFirm 1 = .ok (.getfield 24, 3) := by decide +kernel
theorem dX4_showFirm_4 : decode cX4_showFirm 4 = .ok (.iload_n 1, 1) := by decide +kernel
theorem dX4_showFirm_5 : decode cX4_showFirm 5 = .ok (.dup2, 1) := by decide +kernel
theorem dX4_showFirm_6 : decode cX4_showFirm 6 = .ok (.iaload, 1) := by decide +kernel
theorem dX4_showFirm_7 : decode cX4_showFirm 7 = .ok (.iconst 1, 1) := by decide +kernel
theorem dX4_showFirm_8 : decode cX4_showFirm 8 = .ok (.iload_n 2, 1) := by decide +kernel
theorem dX4_showFirm_9 : decode cX4_showFirm 9 = .ok (.ishl, 1) := by decide +kernel
theorem dX4_showFirm_10 : decode cX4_showFirm 10 = .ok (.ior, 1) := by decide +kernel
theorem dX4_showFirm_11 : decode cX4_showFirm 11 = .ok (.iastore, 1) := by decide +kernel
theorem dX4_showFirm_12 : decode cX4_showFirm 12 = .ok (.return_, 1) := by decide +kernel
theorem dJ6_bitCount_0f7a4_0 : decode cJ6_bitCount_0f7a4 0 = .ok (.iload_n 0, 1) := by decide +kernel
theorem dJ6_bitCount_0f7a4_1 : decode cJ6_bitCount_0f7a4 1 = .ok (.iload_n 0, 1) := by decide +kernel
theorem dJ6_bitCount_0f7a4_2 : decode cJ6_bitCount_0f7a4 2 = .ok (.iconst 1, 1) := by decide +kernel
theorem dJ6_bitCount_0f7a4_3 : decode cJ6_bitCount_0f7a4 3 = .ok (.iushr, 1) := by decide +kernel
theorem dJ6_bitCount_0f7a4_4 : decode cJ6_bitCount_0f7a4 4 = .ok (.ldc_w 265, 3) := by decide +kernel
theorem dJ6_bitCount_0f7a4_7 : decode cJ6_bitCount_0f7a4 7 = .ok (.iand, 1) := by decide +kernel
theorem dJ6_bitCount_0f7a4_8 : decode cJ6_bitCount_0f7a4 8 = .ok (.isub, 1) := by decide +kernel
theorem dJ6_bitCount_0f7a4_9 : decode cJ6_bitCount_0f7a4 9 = .ok (.istore_n 0, 1) := by decide +kernel
theorem dJ6_bitCount_0f7a4_10 : decode cJ6_bitCount_0f7a4 10 = .ok (.iload_n 0, 1) := by decide +kernel
theorem dJ6_bitCount_0f7a4_11 : decode cJ6_bitCount_0f7a4 11 = .ok (.ldc_w 266, 3) := by decide +kernel
theorem dJ6_bitCount_0f7a4_14 : decode cJ6_bitCount_0f7a4 14 = .ok (.iand, 1) := by decide +kernel
theorem dJ6_bitCount_0f7a4_15 : decode cJ6_bitCount_0f7a4 15 = .ok (.iload_n 0, 1) := by decide +kernel
theorem dJ6_bitCount_0f7a4_16 : decode cJ6_bitCount_0f7a4 16 = .ok (.iconst 2, 1) := by decide +kernel
theorem dJ6_bitCount_0f7a4_17 : decode cJ6_bitCount_0f7a4 17 = .ok (.iushr, 1) := by decide +kernel
theorem dJ6_bitCount_0f7a4_18 : decode cJ6_bitCount_0f7a4 18 = .ok (.ldc_w 266, 3) := by decide +kernel
theorem dJ6_bitCount_0f7a4_21 : decode cJ6_bitCount_0f7a4 21 = .ok (.iand, 1) := by decide +kernel
theorem dJ6_bitCount_0f7a4_22 : decode cJ6_bitCount_0f7a4 22 = .ok (.iadd, 1) := by decide +kernel
theorem dJ6_bitCount_0f7a4_23 : decode cJ6_bitCount_0f7a4 23 = .ok (.istore_n 0, 1) := by decide +kernel
theorem dJ6_bitCount_0f7a4_24 : decode cJ6_bitCount_0f7a4 24 = .ok (.iload_n 0, 1) := by decide +kernel
theorem dJ6_bitCount_0f7a4_25 : decode cJ6_bitCount_0f7a4 25 = .ok (.iload_n 0, 1) := by decide +kernel
theorem dJ6_bitCount_0f7a4_26 : decode cJ6_bitCount_0f7a4 26 = .ok (.iconst 4, 1) := by decide +kernel
theorem dJ6_bitCount_0f7a4_27 : decode cJ6_bitCount_0f7a4 27 = .ok (.iushr, 1) := by decide +kernel
theorem dJ6_bitCount_0f7a4_28 : decode cJ6_bitCount_0f7a4 28 = .ok (.iadd, 1) := by decide +kernel
theorem dJ6_bitCount_0f7a4_29 : decode cJ6_bitCount_0f7a4 29 = .ok (.ldc_w 267, 3) := by decide +kernel
theorem dJ6_bitCount_0f7a4_32 : decode cJ6_bitCount_0f7a4 32 = .ok (.iand, 1) := by decide +kernel
theorem dJ6_bitCount_0f7a4_33 : decode cJ6_bitCount_0f7a4 33 = .ok (.istore_n 0, 1) := by decide +kernel
theorem dJ6_bitCount_0f7a4_34 : decode cJ6_bitCount_0f7a4 34 = .ok (.iload_n 0, 1) := by decide +kernel
theorem dJ6_bitCount_0f7a4_35 : decode cJ6_bitCount_0f7a4 35 = .ok (.iload_n 0, 1) := by decide +kernel
theorem dJ6_bitCount_0f7a4_36 : decode cJ6_bitCount_0f7a4 36 = .ok (.bipush 8, 2) := by decide +kernel
theorem dJ6_bitCount_0f7a4_38 : decode cJ6_bitCount_0f7a4 38 = .ok (.iushr, 1) := by decide +kernel
theorem dJ6_bitCount_0f7a4_39 : decode cJ6_bitCount_0f7a4 39 = .ok (.iadd, 1) := by decide +kernel
theorem dJ6_bitCount_0f7a4_40 : decode cJ6_bitCount_0f7a4 40 = .ok (.istore_n 0, 1) := by decide +kernel
theorem dJ6_bitCount_0f7a4_41 : decode cJ6_bitCount_0f7a4 41 = .ok (.iload_n 0, 1) := by decide +kernel
theorem dJ6_bitCount_0f7a4_42 : decode cJ6_bitCount_0f7a4 42 = .ok (.iload_n 0, 1) := by decide +kernel
theorem dJ6_bitCount_0f7a4_43 : decode cJ6_bitCount_0f7a4 43 = .ok (.bipush 16, 2) := by decide +kernel
theorem dJ6_bitCount_0f7a4_45 : decode cJ6_bitCount_0f7a4 45 = .ok (.iushr, 1) := by decide +kernel
theorem dJ6_bitCount_0f7a4_46 : decode cJ6_bitCount_0f7a4 46 = .ok (.iadd, 1) := by decide +kernel
theorem dJ6_bitCount_0f7a4_47 : decode cJ6_bitCount_0f7a4 47 = .ok (.istore_n 0, 1) := by decide +kernel
theorem dJ6_bitCount_0f7a4_48 : decode cJ6_bitCount_0f7a4 48 = .ok (.iload_n 0, 1) := by decide +kernel
theorem dJ6_bitCount_0f7a4_49 : decode cJ6_bitCount_0f7a4 49 = .ok (.bipush 63, 2) := by decide +kernel
theorem dJ6_bitCount_0f7a4_51 : decode cJ6_bitCount_0f7a4 51 = .ok (.iand, 1) := by decide +kernel
theorem dJ6_bitCount_0f7a4_52 : decode cJ6_bitCount_0f7a4 52 = .ok (.ireturn, 1) := by decide +kernel
theorem dJ9_max_7cf53_0 : decode cJ9_max_7cf53 0 = .ok (.iload_n 0, 1) := by decide +kernel
theorem dJ9_max_7cf53_1 : decode cJ9_max_7cf53 1 = .ok (.iload_n 1, 1) := by decide +kernel
theorem dJ9_max_7cf53_2 : decode cJ9_max_7cf53 2 = .ok (.if_icmp .lt 7, 3) := by decide +kernel
theorem dJ9_max_7cf53_5 : decode cJ9_max_7cf53 5 = .ok (.iload_n 0, 1) := by decide +kernel
theorem dJ9_max_7cf53_6 : decode cJ9_max_7cf53 6 = .ok (.goto 4, 3) := by decide +kernel
theorem dJ9_max_7cf53_9 : decode cJ9_max_7cf53 9 = .ok (.iload_n 1, 1) := by decide +kernel
theorem dJ9_max_7cf53_10 : decode cJ9_max_7cf53 10 = .ok (.ireturn, 1) := by decide +kernel
theorem dJ9_min_7cf53_0 : decode cJ9_min_7cf53 0 = .ok (.iload_n 0, 1) := by decide +kernel
theorem dJ9_min_7cf53_1 : decode cJ9_min_7cf53 1 = .ok (.iload_n 1, 1) := by decide +kernel
theorem dJ9_min_7cf53_2 : decode cJ9_min_7cf53 2 = .ok (.if_icmp .gt 7, 3) := by decide +kernel
theorem dJ9_min_7cf53_5 : decode cJ9_min_7cf53 5 = .ok (.iload_n 0, 1) := by decide +kernel
theorem dJ9_min_7cf53_6 : decode cJ9_min_7cf53 6 = .ok (.goto 4, 3) := by decide +kernel
theorem dJ9_min_7cf53_9 : decode cJ9_min_7cf53 9 = .ok (.iload_n 1, 1) := by decide +kernel
theorem dJ9_min_7cf53_10 : decode cJ9_min_7cf53 10 = .ok (.ireturn, 1) := by decide +kernel
