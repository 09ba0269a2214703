theorem dX0_init_0 : decode cX0_init 0 = .ok (.aload_n 0, 1) := by decide +kernel
theorem dX0_init_1 : decode cX0_init 1 = .ok (.invokespecial 3, 3) := by decide +kernel
theorem dX0_init_4 : decode cX0_init 4 = .ok (.aload_n 0, 1) := by decide +kernel
theorem dX0_init_5 : decode cX0_init 5 = .ok (.bipush 6, 2) := by decide +kernel
theorem dX0_init_7 : decode cX0_init 7 = .ok (.newarray .int, 2) := by decide +kernel
theorem dX0_init_9 : decode cX0_init 9 = .ok (.dup, 1) := by decide +kernel
theorem dX0_init_10 : decode cX0_init 10 = .ok (.iconst 0, 1) := by decide +kernel
theorem dX0_init_11 : decode cX0_init 11 = .ok (.iconst (-1), 1) := by decide +kernel
theorem dX0_init_12 : decode cX0_init 12 = .ok (.iastore, 1) := by decide +kernel
theorem dX0_init_13 : decode cX0_init 13 = .ok (.dup, 1) := by decide +kernel
theorem dX0_init_14 : decode cX0_init 14 = .ok (.iconst 1, 1) := by decide +kernel
theorem dX0_init_15 : decode cX0_init 15 = .ok (.iconst (-1), 1) := by decide +kernel
theorem dX0_init_16 : decode cX0_init 16 = .ok (.iastore, 1) := by decide +kernel
theorem dX0_init_17 : decode cX0_init 17 = .ok (.dup, 1) := by decide +kernel
theorem dX0_init_18 : decode cX0_init 18 = .ok (.iconst 2, 1) := by decide +kernel
theorem dX0_init_19 : decode cX0_init 19 = .ok (.iconst (-1), 1) := by decide +kernel
theorem dX0_init_20 : decode cX0_init 20 = .ok (.iastore, 1) := by decide +kernel
theorem dX0_init_21 : decode cX0_init 21 = .ok (.dup, 1) := by decide +kernel
theorem dX0_init_22 : decode cX0_init 22 = .ok (.iconst 3, 1) := by decide +kernel
theorem dX0_init_23 : decode cX0_init 23 = .ok (.iconst (-1), 1) := by decide +kernel
theorem dX0_init_24 : decode cX0_init 24 = .ok (.iastore, 1) := by decide +kernel
theorem dX0_init_25 : decode cX0_init 25 = .ok (.dup, 1) := by decide +kernel
theorem dX0_init_26 : decode cX0_init 26 = .ok (.iconst 4, 1) := by decide +kernel
theorem dX0_init_27 : decode cX0_init 27 = .ok (.iconst (-1), 1) := by decide +kernel
theorem dX0_init_28 : decode cX0_init 28 = .ok (.iastore, 1) := by decide +kernel
theorem dX0_init_29 : decode cX0_init 29 = .ok (.dup, 1) := by decide +kernel
theorem dX0_init_30 : decode cX0_init 30 = .ok (.iconst 5, 1) := by decide +kernel
theorem dX0_init_31 : decode cX0_init 31 = .ok (.iconst (-1), 1) := by decide +kernel
theorem dX0_init_32 : decode cX0_init 32 = .ok (.iastore, 1) := by decide +kernel
theorem dX0_init_33 : decode cX0_init 33 = .ok (.putfield 9, 3) := by decide +kernel
theorem dX0_init_36 : decode cX0_init 36 = .ok (.aload_n 0, 1) := by decide +kernel
theorem dX0_init_37 : decode cX0_init 37 = .ok (.aload_n 1, 1) := by decide +kernel
theorem dX0_init_38 : decode cX0_init 38 = .ok (.putfield 15, 3) := by decide +kernel
theorem dX0_init_41 : decode cX0_init 41 = .ok (.return_, 1) := by decide +kernel
theorem dX0_bitsDoneBy_0 : decode cX0_bitsDoneBy 0 = .ok (.iconst 0, 1) := by decide +kernel
theorem dX0_bitsDoneBy_1 : decode cX0_bitsDoneBy 1 = .ok (.istore_n 2, 1) := by decide +kernel
theorem dX0_bitsDoneBy_2 : decode cX0_bitsDoneBy 2 = .ok (.iconst 0, 1) := by decide +kernel
theorem dX0_bitsDoneBy_3 : decode cX0_bitsDoneBy 3 = .ok (.istore_n 3, 1) := by decide +kernel
theorem dX0_bitsDoneBy_4 : decode cX0_bitsDoneBy 4 = .ok (.iload_n 3, 1) := by decide +kernel
theorem dX0_bitsDoneBy_5 : decode cX0_bitsDoneBy 5 = .ok (.aload_n 0, 1) := by decide +kernel
theorem dX0_bitsDoneBy_6 : decode cX0_bitsDoneBy 6 = .ok (.getfield 15, 3) := by decide +kernel
theorem dX0_bitsDoneBy_9 : decode cX0_bitsDoneBy 9 = .ok (.getfield 19, 3) := by decide +kernel
theorem dX0_bitsDoneBy_12 : decode cX0_bitsDoneBy 12 = .ok (.if_icmp .ge 25, 3) := by decide +kernel
theorem dX0_bitsDoneBy_15 : decode cX0_bitsDoneBy 15 = .ok (.aload_n 0, 1) := by decide +kernel
theorem dX0_bitsDoneBy_16 : decode cX0_bitsDoneBy 16 = .ok (.getfield 9, 3) := by decide +kernel
theorem dX0_bitsDoneBy_19 : decode cX0_bitsDoneBy 19 = .ok (.iload_n 3, 1) := by decide +kernel
theorem dX0_bitsDoneBy_20 : decode cX0_bitsDoneBy 20 = .ok (.iaload, 1) := by decide +kernel
theorem dX0_bitsDoneBy_21 : decode cX0_bitsDoneBy 21 = .ok (.iload_n 1, 1) := by decide +kernel
theorem dX0_bitsDoneBy_22 : decode cX0_bitsDoneBy 22 = .ok (.if_icmp .ne 9, 3) := by decide +kernel
theorem dX0_bitsDoneBy_25 : decode cX0_bitsDoneBy 25 = .ok (.iload_n 2, 1) := by decide +kernel
theorem dX0_bitsDoneBy_26 : decode cX0_bitsDoneBy 26 = .ok (.iconst 1, 1) := by decide +kernel
theorem dX0_bitsDoneBy_27 : decode cX0_bitsDoneBy 27 = .ok (.iload_n 3, 1) := by decide +kernel
theorem dX0_bitsDoneBy_28 : decode cX0_bitsDoneBy 28 = .ok (.ishl, 1) := by decide +kernel
theorem dX0_bitsDoneBy_29 : decode cX0_bitsDoneBy 29 = .ok (.ior, 1) := by decide +kernel
theorem dX0_bitsDoneBy_30 : decode cX0_bitsDoneBy 30 = .ok (.istore_n 2, 1) := by decide +kernel
theorem dX0_bitsDoneBy_31 : decode cX0_bitsDoneBy 31 = .ok (.iinc 3 1, 3) := by decide +kernel
theorem dX0_bitsDoneBy_34 : decode cX0_bitsDoneBy 34 = .ok (.goto (-30), 3) := by decide +kernel
theorem dX0_bitsDoneBy_37 : decode cX0_bitsDoneBy 37 = .ok (.iload_n 2, 1) := by decide +kernel
theorem dX0_bitsDoneBy_38 : decode cX0_bitsDoneBy 38 = .ok (.ireturn, 1) := by decide +kernel
theorem dX0_leftBits_0 : decode cX0_leftBits 0 = .ok (.aload_n 0, 1) := by decide +kernel
theorem dX0_leftBits_1 : decode cX0_leftBits 1 = .ok (.iconst (-1), 1) := by decide +kernel
theorem dX0_leftBits_2 : decode cX0_leftBits 2 = .ok (.invokevirtual 25, 3) := by decide +kernel
theorem dX0_leftBits_5 : decode cX0_leftBits 5 = .ok (.ireturn, 1) := by decide +kernel
theorem dX0_verdict_0 : decode cX0_verdict 0 = .ok (.aload_n 0, 1) := by decide +kernel
theorem dX0_verdict_1 : decode cX0_verdict 1 = .ok (.getfield 15, 3) := by decide +kernel
theorem dX0_verdict_4 : decode cX0_verdict 4 = .ok (.invokevirtual 29, 3) := by decide +kernel
theorem dX0_verdict_7 : decode cX0_verdict 7 = .ok (.aload_n 0, 1) := by decide +kernel
theorem dX0_verdict_8 : decode cX0_verdict 8 = .ok (.invokevirtual 33, 3) := by decide +kernel
theorem dX0_verdict_11 : decode cX0_verdict 11 = .ok (.iconst (-1), 1) := by decide +kernel
theorem dX0_verdict_12 : decode cX0_verdict 12 = .ok (.ixor, 1) := by decide +kernel
theorem dX0_verdict_13 : decode cX0_verdict 13 = .ok (.iand, 1) := by decide +kernel
theorem dX0_verdict_14 : decode cX0_verdict 14 = .ok (.istore 4, 2) := by decide +kernel
theorem dX0_verdict_16 : decode cX0_verdict 16 = .ok (.aload_n 0, 1) := by decide +kernel
theorem dX0_verdict_17 : decode cX0_verdict 17 = .ok (.iload_n 2, 1) := by decide +kernel
theorem dX0_verdict_18 : decode cX0_verdict 18 = .ok (.invokevirtual 25, 3) := by decide +kernel
theorem dX0_verdict_21 : decode cX0_verdict 21 = .ok (.istore 5, 2) := by decide +kernel
theorem dX0_verdict_23 : decode cX0_verdict 23 = .ok (.iload 4, 2) := by decide +kernel
theorem dX0_verdict_25 : decode cX0_verdict 25 = .ok (.iload_n 1, 1) := by decide +kernel
theorem dX0_verdict_26 : decode cX0_verdict 26 = .ok (.invokestatic 36, 3) := by decide +kernel
theorem dX0_verdict_29 : decode cX0_verdict 29 = .ok (.ifCond .eq 6, 3) := by decide +kernel
theorem dX0_verdict_32 : decode cX0_verdict 32 = .ok (.bipush (-16), 2) := by decide +kernel
theorem dX0_verdict_34 : decode cX0_verdict 34 = .ok (.ireturn, 1) := by decide +kernel
theorem dX0_verdict_35 : decode cX0_verdict 35 = .ok (.aload_n 0, 1) := by decide +kernel
theorem dX0_verdict_36 : decode cX0_verdict 36 = .ok (.getfield 15, 3) := by decide +kernel
theorem dX0_verdict_39 : decode cX0_verdict 39 = .ok (.getfield 40, 3) := by decide +kernel
theorem dX0_verdict_42 : decode cX0_verdict 42 = .ok (.iload_n 1, 1) := by decide +kernel
theorem dX0_verdict_43 : decode cX0_verdict 43 = .ok (.iaload, 1) := by decide +kernel
theorem dX0_verdict_44 : decode cX0_verdict 44 = .ok (.iload 4, 2) := by decide +kernel
theorem dX0_verdict_46 : decode cX0_verdict 46 = .ok (.iconst (-1), 1) := by decide +kernel
theorem dX0_verdict_47 : decode cX0_verdict 47 = .ok (.ixor, 1) := by decide +kernel
theorem dX0_verdict_48 : decode cX0_verdict 48 = .ok (.iand, 1) := by decide +kernel
theorem dX0_verdict_49 : decode cX0_verdict 49 = .ok (.ifCond .eq 6, 3) := by decide +kernel
theorem dX0_verdict_52 : decode cX0_verdict 52 = .ok (.bipush (-17), 2) := by decide +kernel
theorem dX0_verdict_54 : decode cX0_verdict 54 = .ok (.ireturn, 1) := by decide +kernel
theorem dX0_verdict_55 : decode cX0_verdict 55 = .ok (.aload_n 3, 1) := by decide +kernel
theorem dX0_verdict_56 : decode cX0_verdict 56 = .ok (.iload_n 2, 1) := by decide +kernel
theorem dX0_verdict_57 : decode cX0_verdict 57 = .ok (.iaload, 1) := by decide +kernel
theorem dX0_verdict_58 : decode cX0_verdict 58 = .ok (.aload_n 0, 1) := by decide +kernel
theorem dX0_verdict_59 : decode cX0_verdict 59 = .ok (.getfield 15, 3) := by decide +kernel
theorem dX0_verdict_62 : decode cX0_verdict 62 = .ok (.getfield 43, 3) := by decide +kernel
theorem dX0_verdict_65 : decode cX0_verdict 65 = .ok (.iload_n 1, 1) := by decide +kernel
theorem dX0_verdict_66 : decode cX0_verdict 66 = .ok (.iaload, 1) := by decide +kernel
theorem dX0_verdict_67 : decode cX0_verdict 67 = .ok (.invokestatic 36, 3) := by decide +kernel
theorem dX0_verdict_70 : decode cX0_verdict 70 = .ok (.ifCond .ne 6, 3) := by decide +kernel
theorem dX0_verdict_73 : decode cX0_verdict 73 = .ok (.bipush (-18), 2) := by decide +kernel
theorem dX0_verdict_75 : decode cX0_verdict 75 = .ok (.ireturn, 1) := by decide +kernel
theorem dX0_verdict_76 : decode cX0_verdict 76 = .ok (.aload_n 0, 1) := by decide +kernel
theorem dX0_verdict_77 : decode cX0_verdict 77 = .ok (.getfield 15, 3) := by decide +kernel
theorem dX0_verdict_80 : decode cX0_verdict 80 = .ok (.getfield 46, 3) := by decide +kernel
theorem dX0_verdict_83 : decode cX0_verdict 83 = .ok (.iload_n 1, 1) := by decide +kernel
theorem dX0_verdict_84 : decode cX0_verdict 84 = .ok (.iaload, 1) := by decide +kernel
theorem dX0_verdict_85 : decode cX0_verdict 85 = .ok (.iload 5, 2) := by decide +kernel
theorem dX0_verdict_87 : decode cX0_verdict 87 = .ok (.iand, 1) := by decide +kernel
theorem dX0_verdict_88 : decode cX0_verdict 88 = .ok (.ifCond .eq 6, 3) := by decide +kernel
theorem dX0_verdict_91 : decode cX0_verdict 91 = .ok (.bipush (-19), 2) := by decide +kernel
theorem dX0_verdict_93 : decode cX0_verdict 93 = .ok (.ireturn, 1) := by decide +kernel
theorem dX0_verdict_94 : decode cX0_verdict 94 = .ok (.aload_n 0, 1) := by decide +kernel
theorem dX0_verdict_95 : decode cX0_verdict 95 = .ok (.getfield 15, 3) := by decide +kernel
theorem dX0_verdict_98 : decode cX0_verdict 98 = .ok (.getfield 49, 3) := by decide +kernel
theorem dX0_verdict_101 : decode cX0_verdict 101 = .ok (.iload_n 1, 1) := by decide +kernel
theorem dX0_verdict_102 : decode cX0_verdict 102 = .ok (.iaload, 1) := by decide +kernel
theorem dX0_verdict_103 : decode cX0_verdict 103 = .ok (.iload 4, 2) := by decide +kernel
theorem dX0_verdict_105 : decode cX0_verdict 105 = .ok (.iand, 1) := by decide +kernel
theorem dX0_verdict_106 : decode cX0_verdict 106 = .ok (.iload 5, 2) := by decide +kernel
theorem dX0_verdict_108 : decode cX0_verdict 108 = .ok (.iconst (-1), 1) := by decide +kernel
theorem dX0_verdict_109 : decode cX0_verdict 109 = .ok (.ixor, 1) := by decide +kernel
theorem dX0_verdict_110 : decode cX0_verdict 110 = .ok (.iand, 1) := by decide +kernel
theorem dX0_verdict_111 : decode cX0_verdict 111 = .ok (.ifCond .eq 6, 3) := by decide +kernel
theorem dX0_verdict_114 : decode cX0_verdict 114 = .ok (.bipush (-20), 2) := by decide +kernel
theorem dX0_verdict_116 : decode cX0_verdict 116 = .ok (.ireturn, 1) := by decide +kernel
theorem dX0_verdict_117 : decode cX0_verdict 117 = .ok (.iload 5, 2) := by decide +kernel
theorem dX0_verdict_119 : decode cX0_verdict 119 = .ok (.invokestatic 52, 3) := by decide +kernel
theorem dX0_verdict_122 : decode cX0_verdict 122 = .ok (.aload_n 0, 1) := by decide +kernel
theorem dX0_verdict_123 : decode cX0_verdict 123 = .ok (.getfield 15, 3) := by decide +kernel
theorem dX0_verdict_126 : decode cX0_verdict 126 = .ok (.getfield 57, 3) := by decide +kernel
theorem dX0_verdict_129 : decode cX0_verdict 129 = .ok (.if_icmp .lt 6, 3) := by decide +kernel
theorem dX0_verdict_132 : decode cX0_verdict 132 = .ok (.bipush (-21), 2) := by decide +kernel
theorem dX0_verdict_134 : decode cX0_verdict 134 = .ok (.ireturn, 1) := by decide +kernel
theorem dX0_verdict_135 : decode cX0_verdict 135 = .ok (.aload_n 0, 1) := by decide +kernel
theorem dX0_verdict_136 : decode cX0_verdict 136 = .ok (.iload_n 1, 1) := by decide +kernel
theorem dX0_verdict_137 : decode cX0_verdict 137 = .ok (.iload_n 2, 1) := by decide +kernel
theorem dX0_verdict_138 : decode cX0_verdict 138 = .ok (.aload_n 3, 1) := by decide +kernel
theorem dX0_verdict_139 : decode cX0_verdict 139 = .ok (.invokevirtual 60, 3) := by decide +kernel
theorem dX0_verdict_142 : decode cX0_verdict 142 = .ok (.ifCond .eq 8, 3) := by decide +kernel
theorem dX0_verdict_145 : decode cX0_verdict 145 = .ok (.bipush (-22), 2) := by decide +kernel
theorem dX0_verdict_147 : decode cX0_verdict 147 = .ok (.goto 4, 3) := by decide +kernel
theorem dX0_verdict_150 : decode cX0_verdict 150 = .ok (.iconst 0, 1) := by decide +kernel
theorem dX0_verdict_151 : decode cX0_verdict 151 = .ok (.ireturn, 1) := by decide +kernel
theorem dX0_wouldStick_0 : decode cX0_wouldStick 0 = .ok (.aload_n 0, 1) := by decide +kernel
theorem dX0_wouldStick_1 : decode cX0_wouldStick 1 = .ok (.aload_n 3, 1) := by decide +kernel
theorem dX0_wouldStick_2 : decode cX0_wouldStick 2 = .ok (.invokevirtual 64, 3) := by decide +kernel
theorem dX0_wouldStick_5 : decode cX0_wouldStick 5 = .ok (.ifCond .ne 5, 3) := by decide +kernel
theorem dX0_wouldStick_8 : decode cX0_wouldStick 8 = .ok (.iconst 0, 1) := by decide +kernel
theorem dX0_wouldStick_9 : decode cX0_wouldStick 9 = .ok (.ireturn, 1) := by decide +kernel
theorem dX0_wouldStick_10 : decode cX0_wouldStick 10 = .ok (.aload_n 0, 1) := by decide +kernel
theorem dX0_wouldStick_11 : decode cX0_wouldStick 11 = .ok (.getfield 9, 3) := by decide +kernel
theorem dX0_wouldStick_14 : decode cX0_wouldStick 14 = .ok (.iload_n 1, 1) := by decide +kernel
theorem dX0_wouldStick_15 : decode cX0_wouldStick 15 = .ok (.iload_n 2, 1) := by decide +kernel
theorem dX0_wouldStick_16 : decode cX0_wouldStick 16 = .ok (.iastore, 1) := by decide +kernel
theorem dX0_wouldStick_17 : decode cX0_wouldStick 17 = .ok (.aload_n 0, 1) := by decide +kernel
theorem dX0_wouldStick_18 : decode cX0_wouldStick 18 = .ok (.aload_n 3, 1) := by decide +kernel
theorem dX0_wouldStick_19 : decode cX0_wouldStick 19 = .ok (.invokevirtual 64, 3) := by decide +kernel
theorem dX0_wouldStick_22 : decode cX0_wouldStick 22 = .ok (.ifCond .ne 7, 3) := by decide +kernel
theorem dX0_wouldStick_25 : decode cX0_wouldStick 25 = .ok (.iconst 1, 1) := by decide +kernel
theorem dX0_wouldStick_26 : decode cX0_wouldStick 26 = .ok (.goto 4, 3) := by decide +kernel
theorem dX0_wouldStick_29 : decode cX0_wouldStick 29 = .ok (.iconst 0, 1) := by decide +kernel
theorem dX0_wouldStick_30 : decode cX0_wouldStick 30 = .ok (.istore 4, 2) := by decide +kernel
theorem dX0_wouldStick_32 : decode cX0_wouldStick 32 = .ok (.aload_n 0, 1) := by decide +kernel
theorem dX0_wouldStick_33 : decode cX0_wouldStick 33 = .ok (.getfield 9, 3) := by decide +kernel
theorem dX0_wouldStick_36 : decode cX0_wouldStick 36 = .ok (.iload_n 1, 1) := by decide +kernel
theorem dX0_wouldStick_37 : decode cX0_wouldStick 37 = .ok (.iconst (-1), 1) := by decide +kernel
theorem dX0_wouldStick_38 : decode cX0_wouldStick 38 = .ok (.iastore, 1) := by decide +kernel
theorem dX0_wouldStick_39 : decode cX0_wouldStick 39 = .ok (.iload 4, 2) := by decide +kernel
theorem dX0_wouldStick_41 : decode cX0_wouldStick 41 = .ok (.ireturn, 1) := by decide +kernel
theorem dX0_couldEnd_0 : decode cX0_couldEnd 0 = .ok (.aload_n 0, 1) := by decide +kernel
theorem dX0_couldEnd_1 : decode cX0_couldEnd 1 = .ok (.invokevirtual 33, 3) := by decide +kernel
theorem dX0_couldEnd_4 : decode cX0_couldEnd 4 = .ok (.istore_n 2, 1) := by decide +kernel
theorem dX0_couldEnd_5 : decode cX0_couldEnd 5 = .ok (.lconst 1, 1) := by decide +kernel
theorem dX0_couldEnd_6 : decode cX0_couldEnd 6 = .ok (.lstore_n 3, 1) := by decide +kernel
theorem dX0_couldEnd_7 : decode cX0_couldEnd 7 = .ok (.iconst 0, 1) := by decide +kernel
theorem dX0_couldEnd_8 : decode cX0_couldEnd 8 = .ok (.istore 5, 2) := by decide +kernel
theorem dX0_couldEnd_10 : decode cX0_couldEnd 10 = .ok (.iload 5, 2) := by decide +kernel
theorem dX0_couldEnd_12 : decode cX0_couldEnd 12 = .ok (.bipush 12, 2) := by decide +kernel
theorem dX0_couldEnd_14 : decode cX0_couldEnd 14 = .ok (.if_icmp .ge 38, 3) := by decide +kernel
theorem dX0_couldEnd_17 : decode cX0_couldEnd 17 = .ok (.iload_n 2, 1) := by decide +kernel
theorem dX0_couldEnd_18 : decode cX0_couldEnd 18 = .ok (.aload_n 0, 1) := by decide +kernel
theorem dX0_couldEnd_19 : decode cX0_couldEnd 19 = .ok (.getfield 15, 3) := by decide +kernel
theorem dX0_couldEnd_22 : decode cX0_couldEnd 22 = .ok (.aload_n 1, 1) := by decide +kernel
theorem dX0_couldEnd_23 : decode cX0_couldEnd 23 = .ok (.iload 5, 2) := by decide +kernel
theorem dX0_couldEnd_25 : decode cX0_couldEnd 25 = .ok (.iaload, 1) := by decide +kernel
theorem dX0_couldEnd_26 : decode cX0_couldEnd 26 = .ok (.invokevirtual 68, 3) := by decide +kernel
theorem dX0_couldEnd_29 : decode cX0_couldEnd 29 = .ok (.iand, 1) := by decide +kernel
theorem dX0_couldEnd_30 : decode cX0_couldEnd 30 = .ok (.istore 6, 2) := by decide +kernel
theorem dX0_couldEnd_32 : decode cX0_couldEnd 32 = .ok (.aload_n 0, 1) := by decide +kernel
theorem dX0_couldEnd_33 : decode cX0_couldEnd 33 = .ok (.lload_n 3, 1) := by decide +kernel
theorem dX0_couldEnd_34 : decode cX0_couldEnd 34 = .ok (.iload 6, 2) := by decide +kernel
theorem dX0_couldEnd_36 : decode cX0_couldEnd 36 = .ok (.aload_n 0, 1) := by decide +kernel
theorem dX0_couldEnd_37 : decode cX0_couldEnd 37 = .ok (.iload 5, 2) := by decide +kernel
theorem dX0_couldEnd_39 : decode cX0_couldEnd 39 = .ok (.invokevirtual 25, 3) := by decide +kernel
theorem dX0_couldEnd_42 : decode cX0_couldEnd 42 = .ok (.invokevirtual 71, 3) := by decide +kernel
theorem dX0_couldEnd_45 : decode cX0_couldEnd 45 = .ok (.lstore_n 3, 1) := by decide +kernel
theorem dX0_couldEnd_46 : decode cX0_couldEnd 46 = .ok (.iinc 5 1, 3) := by decide +kernel
theorem dX0_couldEnd_49 : decode cX0_couldEnd 49 = .ok (.goto (-39), 3) := by decide +kernel
theorem dX0_couldEnd_52 : decode cX0_couldEnd 52 = .ok (.lload_n 3, 1) := by decide +kernel
theorem dX0_couldEnd_53 : decode cX0_couldEnd 53 = .ok (.iload_n 2, 1) := by decide +kernel
theorem dX0_couldEnd_54 : decode cX0_couldEnd 54 = .ok (.lushr, 1) := by decide +kernel
theorem dX0_couldEnd_55 : decode cX0_couldEnd 55 = .ok (.lconst 1, 1) := by decide +kernel
theorem dX0_couldEnd_56 : decode cX0_couldEnd 56 = .ok (.land, 1) := by decide +kernel
theorem dX0_couldEnd_57 : decode cX0_couldEnd 57 = .ok (.lconst 0, 1) := by decide +kernel
theorem dX0_couldEnd_58 : decode cX0_couldEnd 58 = .ok (.lcmp, 1) := by decide +kernel
theorem dX0_couldEnd_59 : decode cX0_couldEnd 59 = .ok (.ifCond .eq 7, 3) := by decide +kernel
theorem dX0_couldEnd_62 : decode cX0_couldEnd 62 = .ok (.iconst 1, 1) := by decide +kernel
theorem dX0_couldEnd_63 : decode cX0_couldEnd 63 = .ok (.goto 4, 3) := by decide +kernel
theorem dX0_couldEnd_66 : decode cX0_couldEnd 66 = .ok (.iconst 0, 1) := by decide +kernel
theorem dX0_couldEnd_67 : decode cX0_couldEnd 67 = .ok (.ireturn, 1) := by decide +kernel
theorem dX0_sharedWith_0 : decode cX0_sharedWith 0 = .ok (.lconst 0, 1) := by decide +kernel
theorem dX0_sharedWith_1 : decode cX0_sharedWith 1 = .ok (.lstore 5, 2) := by decide +kernel
theorem dX0_sharedWith_3 : decode cX0_sharedWith 3 = .ok (.iconst 0, 1) := by decide +kernel
theorem dX0_sharedWith_4 : decode cX0_sharedWith 4 = .ok (.istore 7, 2) := by decide +kernel
theorem dX0_sharedWith_6 : decode cX0_sharedWith 6 = .ok (.iload 7, 2) := by decide +kernel
theorem dX0_sharedWith_8 : decode cX0_sharedWith 8 = .ok (.iload_n 3, 1) := by decide +kernel
theorem dX0_sharedWith_9 : decode cX0_sharedWith 9 = .ok (.if_icmp .gt 48, 3) := by decide +kernel
theorem dX0_sharedWith_12 : decode cX0_sharedWith 12 = .ok (.iload 7, 2) := by decide +kernel
theorem dX0_sharedWith_14 : decode cX0_sharedWith 14 = .ok (.iload_n 3, 1) := by decide +kernel
theorem dX0_sharedWith_15 : decode cX0_sharedWith 15 = .ok (.iconst (-1), 1) := by decide +kernel
theorem dX0_sharedWith_16 : decode cX0_sharedWith 16 = .ok (.ixor, 1) := by decide +kernel
theorem dX0_sharedWith_17 : decode cX0_sharedWith 17 = .ok (.iand, 1) := by decide +kernel
theorem dX0_sharedWith_18 : decode cX0_sharedWith 18 = .ok (.ifCond .ne 33, 3) := by decide +kernel
theorem dX0_sharedWith_21 : decode cX0_sharedWith 21 = .ok (.aload_n 0, 1) := by decide +kernel
theorem dX0_sharedWith_22 : decode cX0_sharedWith 22 = .ok (.getfield 15, 3) := by decide +kernel
theorem dX0_sharedWith_25 : decode cX0_sharedWith 25 = .ok (.iload 4, 2) := by decide +kernel
theorem dX0_sharedWith_27 : decode cX0_sharedWith 27 = .ok (.iload 7, 2) := by decide +kernel
theorem dX0_sharedWith_29 : decode cX0_sharedWith 29 = .ok (.ior, 1) := by decide +kernel
theorem dX0_sharedWith_30 : decode cX0_sharedWith 30 = .ok (.invokevirtual 75, 3) := by decide +kernel
theorem dX0_sharedWith_33 : decode cX0_sharedWith 33 = .ok (.ifCond .eq 18, 3) := by decide +kernel
theorem dX0_sharedWith_36 : decode cX0_sharedWith 36 = .ok (.lload 5, 2) := by decide +kernel
theorem dX0_sharedWith_38 : decode cX0_sharedWith 38 = .ok (.lload_n 1, 1) := by decide +kernel
theorem dX0_sharedWith_39 : decode cX0_sharedWith 39 = .ok (.iload 7, 2) := by decide +kernel
theorem dX0_sharedWith_41 : decode cX0_sharedWith 41 = .ok (.invokestatic 79, 3) := by decide +kernel
theorem dX0_sharedWith_44 : decode cX0_sharedWith 44 = .ok (.land, 1) := by decide +kernel
theorem dX0_sharedWith_45 : decode cX0_sharedWith 45 = .ok (.iload 7, 2) := by decide +kernel
theorem dX0_sharedWith_47 : decode cX0_sharedWith 47 = .ok (.lshl, 1) := by decide +kernel
theorem dX0_sharedWith_48 : decode cX0_sharedWith 48 = .ok (.lor, 1) := by decide +kernel
theorem dX0_sharedWith_49 : decode cX0_sharedWith 49 = .ok (.lstore 5, 2) := by decide +kernel
theorem dX0_sharedWith_51 : decode cX0_sharedWith 51 = .ok (.iinc 7 1, 3) := by decide +kernel
theorem dX0_sharedWith_54 : decode cX0_sharedWith 54 = .ok (.goto (-48), 3) := by decide +kernel
theorem dX0_sharedWith_57 : decode cX0_sharedWith 57 = .ok (.lload 5, 2) := by decide +kernel
theorem dX0_sharedWith_59 : decode cX0_sharedWith 59 = .ok (.lreturn, 1) := by decide +kernel
theorem dX0_setsWithoutAnyOf_0 : decode cX0_setsWithoutAnyOf 0 = .ok (.ldc2_w 83, 3) := by decide +kernel
theorem dX0_setsWithoutAnyOf_3 : decode cX0_setsWithoutAnyOf 3 = .ok (.lstore_n 1, 1) := by decide +kernel
theorem dX0_setsWithoutAnyOf_4 : decode cX0_setsWithoutAnyOf 4 = .ok (.iconst 0, 1) := by decide +kernel
theorem dX0_setsWithoutAnyOf_5 : decode cX0_setsWithoutAnyOf 5 = .ok (.istore_n 3, 1) := by decide +kernel
theorem dX0_setsWithoutAnyOf_6 : decode cX0_setsWithoutAnyOf 6 = .ok (.iload_n 3, 1) := by decide +kernel
theorem dX0_setsWithoutAnyOf_7 : decode cX0_setsWithoutAnyOf 7 = .ok (.bipush 6, 2) := by decide +kernel
theorem dX0_setsWithoutAnyOf_9 : decode cX0_setsWithoutAnyOf 9 = .ok (.if_icmp .ge 25, 3) := by decide +kernel
theorem dX0_setsWithoutAnyOf_12 : decode cX0_setsWithoutAnyOf 12 = .ok (.iload_n 0, 1) := by decide +kernel
theorem dX0_setsWithoutAnyOf_13 : decode cX0_setsWithoutAnyOf 13 = .ok (.iload_n 3, 1) := by decide +kernel
theorem dX0_setsWithoutAnyOf_14 : decode cX0_setsWithoutAnyOf 14 = .ok (.invokestatic 36, 3) := by decide +kernel
theorem dX0_setsWithoutAnyOf_17 : decode cX0_setsWithoutAnyOf 17 = .ok (.ifCond .eq 11, 3) := by decide +kernel
theorem dX0_setsWithoutAnyOf_20 : decode cX0_setsWithoutAnyOf 20 = .ok (.lload_n 1, 1) := by decide +kernel
theorem dX0_setsWithoutAnyOf_21 : decode cX0_setsWithoutAnyOf 21 = .ok (.getstatic 85, 3) := by decide +kernel
theorem dX0_setsWithoutAnyOf_24 : decode cX0_setsWithoutAnyOf 24 = .ok (.iload_n 3, 1) := by decide +kernel
theorem dX0_setsWithoutAnyOf_25 : decode cX0_setsWithoutAnyOf 25 = .ok (.laload, 1) := by decide +kernel
theorem dX0_setsWithoutAnyOf_26 : decode cX0_setsWithoutAnyOf 26 = .ok (.land, 1) := by decide +kernel
theorem dX0_setsWithoutAnyOf_27 : decode cX0_setsWithoutAnyOf 27 = .ok (.lstore_n 1, 1) := by decide +kernel
theorem dX0_setsWithoutAnyOf_28 : decode cX0_setsWithoutAnyOf 28 = .ok (.iinc 3 1, 3) := by decide +kernel
theorem dX0_setsWithoutAnyOf_31 : decode cX0_setsWithoutAnyOf 31 = .ok (.goto (-25), 3) := by decide +kernel
theorem dX0_setsWithoutAnyOf_34 : decode cX0_setsWithoutAnyOf 34 = .ok (.lload_n 1, 1) := by decide +kernel
theorem dX0_setsWithoutAnyOf_35 : decode cX0_setsWithoutAnyOf 35 = .ok (.lreturn, 1) := by decide +kernel
theorem dX5_init_0 : decode cX5_init 0 = .ok (.aload_n 0, 1) := by decide +kernel
theorem dX5_init_1 : decode cX5_init 1 = .ok (.invokespecial 1, 3) := by decide +kernel
theorem dX5_init_4 : decode cX5_init 4 = .ok (.aload_n 0, 1) := by decide +kernel
theorem dX5_init_5 : decode cX5_init 5 = .ok (.bipush 12, 2) := by decide +kernel
theorem dX5_init_7 : decode cX5_init 7 = .ok (.newarray .int, 2) := by decide +kernel
theorem dX5_init_9 : decode cX5_init 9 = .ok (.putfield 9, 3) := by decide +kernel
theorem dX5_init_12 : decode cX5_init 12 = .ok (.aload_n 0, 1) := by decide +kernel
theorem dX5_init_13 : decode cX5_init 13 = .ok (.new 13, 3) := by decide +kernel
theorem dX5_init_16 : decode cX5_init 16 = .ok (.dup, 1) := by decide +kernel
theorem dX5_init_17 : decode cX5_init 17 = .ok (.invokespecial 15, 3) := by decide +kernel
theorem dX5_init_20 : decode cX5_init 20 = .ok (.putfield 16, 3) := by decide +kernel
theorem dX5_init_23 : decode cX5_init 23 = .ok (.aload_n 0, 1) := by decide +kernel
theorem dX5_init_24 : decode cX5_init 24 = .ok (.new 20, 3) := by decide +kernel
theorem dX5_init_27 : decode cX5_init 27 = .ok (.dup, 1) := by decide +kernel
theorem dX5_init_28 : decode cX5_init 28 = .ok (.invokespecial 22, 3) := by decide +kernel
theorem dX5_init_31 : decode cX5_init 31 = .ok (.putfield 23, 3) := by decide +kernel
theorem dX5_init_34 : decode cX5_init 34 = .ok (.aload_n 0, 1) := by decide +kernel
theorem dX5_init_35 : decode cX5_init 35 = .ok (.iconst 4, 1) := by decide +kernel
theorem dX5_init_36 : decode cX5_init 36 = .ok (.anewarray 27, 3) := by decide +kernel
theorem dX5_init_39 : decode cX5_init 39 = .ok (.putfield 29, 3) := by decide +kernel
theorem dX5_init_42 : decode cX5_init 42 = .ok (.aload_n 0, 1) := by decide +kernel
theorem dX5_init_43 : decode cX5_init 43 = .ok (.bipush 16, 2) := by decide +kernel
theorem dX5_init_45 : decode cX5_init 45 = .ok (.anewarray 33, 3) := by decide +kernel
theorem dX5_init_48 : decode cX5_init 48 = .ok (.putfield 35, 3) := by decide +kernel
theorem dX5_init_51 : decode cX5_init 51 = .ok (.aload_n 0, 1) := by decide +kernel
theorem dX5_init_52 : decode cX5_init 52 = .ok (.new 39, 3) := by decide +kernel
theorem dX5_init_55 : decode cX5_init 55 = .ok (.dup, 1) := by decide +kernel
theorem dX5_init_56 : decode cX5_init 56 = .ok (.invokespecial 41, 3) := by decide +kernel
theorem dX5_init_59 : decode cX5_init 59 = .ok (.putfield 42, 3) := by decide +kernel
theorem dX5_init_62 : decode cX5_init 62 = .ok (.return_, 1) := by decide +kernel
theorem dX5_tick_0 : decode cX5_tick 0 = .ok (.iload_n 1, 1) := by decide +kernel
theorem dX5_tick_1 : decode cX5_tick 1 = .ok (.iconst 1, 1) := by decide +kernel
theorem dX5_tick_2 : decode cX5_tick 2 = .ok (.if_icmp .lt 10, 3) := by decide +kernel
theorem dX5_tick_5 : decode cX5_tick 5 = .ok (.iload_n 1, 1) := by decide +kernel
theorem dX5_tick_6 : decode cX5_tick 6 = .ok (.sipush 1000, 3) := by decide +kernel
theorem dX5_tick_9 : decode cX5_tick 9 = .ok (.if_icmp .le 6, 3) := by decide +kernel
theorem dX5_tick_12 : decode cX5_tick 12 = .ok (.bipush (-2), 2) := by decide +kernel
theorem dX5_tick_14 : decode cX5_tick 14 = .ok (.ireturn, 1) := by decide +kernel
theorem dX5_tick_15 : decode cX5_tick 15 = .ok (.aload_n 0, 1) := by decide +kernel
theorem dX5_tick_16 : decode cX5_tick 16 = .ok (.getfield 46, 3) := by decide +kernel
theorem dX5_tick_19 : decode cX5_tick 19 = .ok (.iload_n 1, 1) := by decide +kernel
theorem dX5_tick_20 : decode cX5_tick 20 = .ok (.iadd, 1) := by decide +kernel
theorem dX5_tick_21 : decode cX5_tick 21 = .ok (.ldc 50, 2) := by decide +kernel
theorem dX5_tick_23 : decode cX5_tick 23 = .ok (.if_icmp .le 6, 3) := by decide +kernel
theorem dX5_tick_26 : decode cX5_tick 26 = .ok (.bipush (-3), 2) := by decide +kernel
theorem dX5_tick_28 : decode cX5_tick 28 = .ok (.ireturn, 1) := by decide +kernel
theorem dX5_tick_29 : decode cX5_tick 29 = .ok (.aload_n 0, 1) := by decide +kernel
theorem dX5_tick_30 : decode cX5_tick 30 = .ok (.dup, 1) := by decide +kernel
theorem dX5_tick_31 : decode cX5_tick 31 = .ok (.getfield 46, 3) := by decide +kernel
theorem dX5_tick_34 : decode cX5_tick 34 = .ok (.iload_n 1, 1) := by decide +kernel
theorem dX5_tick_35 : decode cX5_tick 35 = .ok (.iadd, 1) := by decide +kernel
theorem dX5_tick_36 : decode cX5_tick 36 = .ok (.putfield 46, 3) := by decide +kernel
theorem dX5_tick_39 : decode cX5_tick 39 = .ok (.aload_n 0, 1) := by decide +kernel
theorem dX5_tick_40 : decode cX5_tick 40 = .ok (.getfield 46, 3) := by decide +kernel
theorem dX5_tick_43 : decode cX5_tick 43 = .ok (.ireturn, 1) := by decide +kernel
theorem dX5_roles_0 : decode cX5_roles 0 = .ok (.iload_n 1, 1) := by decide +kernel
theorem dX5_roles_1 : decode cX5_roles 1 = .ok (.invokestatic 51, 3) := by decide +kernel
theorem dX5_roles_4 : decode cX5_roles 4 = .ok (.ifCond .eq 14, 3) := by decide +kernel
theorem dX5_roles_7 : decode cX5_roles 7 = .ok (.iload_n 2, 1) := by decide +kernel
theorem dX5_roles_8 : decode cX5_roles 8 = .ok (.ifCond .lt 10, 3) := by decide +kernel
theorem dX5_roles_11 : decode cX5_roles 11 = .ok (.iload_n 2, 1) := by decide +kernel
theorem dX5_roles_12 : decode cX5_roles 12 = .ok (.sipush 256, 3) := by decide +kernel
theorem dX5_roles_15 : decode cX5_roles 15 = .ok (.if_icmp .lt 6, 3) := by decide +kernel
theorem dX5_roles_18 : decode cX5_roles 18 = .ok (.bipush (-2), 2) := by decide +kernel
theorem dX5_roles_20 : decode cX5_roles 20 = .ok (.ireturn, 1) := by decide +kernel
theorem dX5_roles_21 : decode cX5_roles 21 = .ok (.aload_n 0, 1) := by decide +kernel
theorem dX5_roles_22 : decode cX5_roles 22 = .ok (.getfield 9, 3) := by decide +kernel
theorem dX5_roles_25 : decode cX5_roles 25 = .ok (.iload_n 1, 1) := by decide +kernel
theorem dX5_roles_26 : decode cX5_roles 26 = .ok (.iaload, 1) := by decide +kernel
theorem dX5_roles_27 : decode cX5_roles 27 = .ok (.istore_n 3, 1) := by decide +kernel
theorem dX5_roles_28 : decode cX5_roles 28 = .ok (.aload_n 0, 1) := by decide +kernel
theorem dX5_roles_29 : decode cX5_roles 29 = .ok (.getfield 9, 3) := by decide +kernel
theorem dX5_roles_32 : decode cX5_roles 32 = .ok (.iload_n 1, 1) := by decide +kernel
theorem dX5_roles_33 : decode cX5_roles 33 = .ok (.iload_n 2, 1) := by decide +kernel
theorem dX5_roles_34 : decode cX5_roles 34 = .ok (.iastore, 1) := by decide +kernel
theorem dX5_roles_35 : decode cX5_roles 35 = .ok (.iload_n 3, 1) := by decide +kernel
theorem dX5_roles_36 : decode cX5_roles 36 = .ok (.ireturn, 1) := by decide +kernel
theorem dX5_firm_0 : decode cX5_firm 0 = .ok (.iload_n 1, 1) := by decide +kernel
theorem dX5_firm_1 : decode cX5_firm 1 = .ok (.iconst (-1), 1) := by decide +kernel
theorem dX5_firm_2 : decode cX5_firm 2 = .ok (.if_icmp .eq 15, 3) := by decide +kernel
theorem dX5_firm_5 : decode cX5_firm 5 = .ok (.iload_n 1, 1) := by decide +kernel
theorem dX5_firm_6 : decode cX5_firm 6 = .ok (.bipush 8, 2) := by decide +kernel
theorem dX5_firm_8 : decode cX5_firm 8 = .ok (.invokestatic 55, 3) := by decide +kernel
theorem dX5_firm_11 : decode cX5_firm 11 = .ok (.ifCond .ne 6, 3) := by decide +kernel
theorem dX5_firm_14 : decode cX5_firm 14 = .ok (.bipush (-2), 2) := by decide +kernel
theorem dX5_firm_16 : decode cX5_firm 16 = .ok (.ireturn, 1) := by decide +kernel
theorem dX5_firm_17 : decode cX5_firm 17 = .ok (.aload_n 0, 1) := by decide +kernel
theorem dX5_firm_18 : decode cX5_firm 18 = .ok (.getfield 16, 3) := by decide +kernel
theorem dX5_firm_21 : decode cX5_firm 21 = .ok (.iload_n 1, 1) := by decide +kernel
theorem dX5_firm_22 : decode cX5_firm 22 = .ok (.invokevirtual 59, 3) := by decide +kernel
theorem dX5_firm_25 : decode cX5_firm 25 = .ok (.ireturn, 1) := by decide +kernel
theorem dX5_object_0 : decode cX5_object 0 = .ok (.aload_n 0, 1) := by decide +kernel
theorem dX5_object_1 : decode cX5_object 1 = .ok (.getfield 16, 3) := by decide +kernel
theorem dX5_object_4 : decode cX5_object 4 = .ok (.iload_n 1, 1) := by decide +kernel
theorem dX5_object_5 : decode cX5_object 5 = .ok (.invokevirtual 63, 3) := by decide +kernel
theorem dX5_object_8 : decode cX5_object 8 = .ok (.ifCond .ne 6, 3) := by decide +kernel
theorem dX5_object_11 : decode cX5_object 11 = .ok (.bipush (-2), 2) := by decide +kernel
theorem dX5_object_13 : decode cX5_object 13 = .ok (.ireturn, 1) := by decide +kernel
theorem dX5_object_14 : decode cX5_object 14 = .ok (.aload_n 0, 1) := by decide +kernel
theorem dX5_object_15 : decode cX5_object 15 = .ok (.getfield 16, 3) := by decide +kernel
theorem dX5_object_18 : decode cX5_object 18 = .ok (.iload_n 1, 1) := by decide +kernel
theorem dX5_object_19 : decode cX5_object 19 = .ok (.invokevirtual 66, 3) := by decide +kernel
theorem dX5_object_22 : decode cX5_object 22 = .ok (.ireturn, 1) := by decide +kernel
theorem dX5_read_0 : decode cX5_read 0 = .ok (.aload_n 0, 1) := by decide +kernel
theorem dX5_read_1 : decode cX5_read 1 = .ok (.iconst 1, 1) := by decide +kernel
theorem dX5_read_2 : decode cX5_read 2 = .ok (.iload_n 1, 1) := by decide +kernel
theorem dX5_read_3 : decode cX5_read 3 = .ok (.iload_n 2, 1) := by decide +kernel
theorem dX5_read_4 : decode cX5_read 4 = .ok (.invokevirtual 69, 3) := by decide +kernel
theorem dX5_read_7 : decode cX5_read 7 = .ok (.ireturn, 1) := by decide +kernel
theorem dX5_write_0 : decode cX5_write 0 = .ok (.aload_n 0, 1) := by decide +kernel
theorem dX5_write_1 : decode cX5_write 1 = .ok (.iconst 2, 1) := by decide +kernel
theorem dX5_write_2 : decode cX5_write 2 = .ok (.iload_n 1, 1) := by decide +kernel
theorem dX5_write_3 : decode cX5_write 3 = .ok (.iload_n 2, 1) := by decide +kernel
theorem dX5_write_4 : decode cX5_write 4 = .ok (.invokevirtual 69, 3) := by decide +kernel
theorem dX5_write_7 : decode cX5_write 7 = .ok (.ireturn, 1) := by decide +kernel
theorem dX5_glass_0 : decode cX5_glass 0 = .ok (.iload_n 1, 1) := by decide +kernel
theorem dX5_glass_1 : decode cX5_glass 1 = .ok (.invokestatic 51, 3) := by decide +kernel
theorem dX5_glass_4 : decode cX5_glass 4 = .ok (.ifCond .eq 25, 3) := by decide +kernel
theorem dX5_glass_7 : decode cX5_glass 7 = .ok (.aload_n 0, 1) := by decide +kernel
theorem dX5_glass_8 : decode cX5_glass 8 = .ok (.getfield 16, 3) := by decide +kernel
theorem dX5_glass_11 : decode cX5_glass 11 = .ok (.iload_n 2, 1) := by decide +kernel
theorem dX5_glass_12 : decode cX5_glass 12 = .ok (.invokevirtual 63, 3) := by decide +kernel
theorem dX5_glass_15 : decode cX5_glass 15 = .ok (.ifCond .eq 14, 3) := by decide +kernel
theorem dX5_glass_18 : decode cX5_glass 18 = .ok (.iload_n 3, 1) := by decide +kernel
theorem dX5_glass_19 : decode cX5_glass 19 = .ok (.iconst 1, 1) := by decide +kernel
theorem dX5_glass_20 : decode cX5_glass 20 = .ok (.if_icmp .lt 9, 3) := by decide +kernel
theorem dX5_glass_23 : decode cX5_glass 23 = .ok (.iload_n 3, 1) := by decide +kernel
theorem dX5_glass_24 : decode cX5_glass 24 = .ok (.bipush 100, 2) := by decide +kernel
theorem dX5_glass_26 : decode cX5_glass 26 = .ok (.if_icmp .le 6, 3) := by decide +kernel
theorem dX5_glass_29 : decode cX5_glass 29 = .ok (.bipush (-2), 2) := by decide +kernel
theorem dX5_glass_31 : decode cX5_glass 31 = .ok (.ireturn, 1) := by decide +kernel
theorem dX5_glass_32 : decode cX5_glass 32 = .ok (.aload_n 0, 1) := by decide +kernel
theorem dX5_glass_33 : decode cX5_glass 33 = .ok (.getfield 16, 3) := by decide +kernel
theorem dX5_glass_36 : decode cX5_glass 36 = .ok (.iload_n 1, 1) := by decide +kernel
theorem dX5_glass_37 : decode cX5_glass 37 = .ok (.iload_n 2, 1) := by decide +kernel
theorem dX5_glass_38 : decode cX5_glass 38 = .ok (.invokevirtual 73, 3) := by decide +kernel
theorem dX5_glass_41 : decode cX5_glass 41 = .ok (.ifCond .eq 6, 3) := by decide +kernel
theorem dX5_glass_44 : decode cX5_glass 44 = .ok (.bipush (-13), 2) := by decide +kernel
theorem dX5_glass_46 : decode cX5_glass 46 = .ok (.ireturn, 1) := by decide +kernel
theorem dX5_glass_47 : decode cX5_glass 47 = .ok (.aload_n 0, 1) := by decide +kernel
theorem dX5_glass_48 : decode cX5_glass 48 = .ok (.getfield 23, 3) := by decide +kernel
theorem dX5_glass_51 : decode cX5_glass 51 = .ok (.iload_n 1, 1) := by decide +kernel
theorem dX5_glass_52 : decode cX5_glass 52 = .ok (.iload_n 2, 1) := by decide +kernel
theorem dX5_glass_53 : decode cX5_glass 53 = .ok (.aload_n 0, 1) := by decide +kernel
theorem dX5_glass_54 : decode cX5_glass 54 = .ok (.getfield 46, 3) := by decide +kernel
theorem dX5_glass_57 : decode cX5_glass 57 = .ok (.invokevirtual 76, 3) := by decide +kernel
theorem dX5_glass_60 : decode cX5_glass 60 = .ok (.ifCond .eq 6, 3) := by decide +kernel
theorem dX5_glass_63 : decode cX5_glass 63 = .ok (.bipush (-14), 2) := by decide +kernel
theorem dX5_glass_65 : decode cX5_glass 65 = .ok (.ireturn, 1) := by decide +kernel
theorem dX5_glass_66 : decode cX5_glass 66 = .ok (.aload_n 0, 1) := by decide +kernel
theorem dX5_glass_67 : decode cX5_glass 67 = .ok (.getfield 23, 3) := by decide +kernel
theorem dX5_glass_70 : decode cX5_glass 70 = .ok (.iload_n 1, 1) := by decide +kernel
theorem dX5_glass_71 : decode cX5_glass 71 = .ok (.invokevirtual 80, 3) := by decide +kernel
theorem dX5_glass_74 : decode cX5_glass 74 = .ok (.iconst 3, 1) := by decide +kernel
theorem dX5_glass_75 : decode cX5_glass 75 = .ok (.if_icmp .ge 18, 3) := by decide +kernel
theorem dX5_glass_78 : decode cX5_glass 78 = .ok (.aload_n 0, 1) := by decide +kernel
theorem dX5_glass_79 : decode cX5_glass 79 = .ok (.getfield 23, 3) := by decide +kernel
theorem dX5_glass_82 : decode cX5_glass 82 = .ok (.iload_n 1, 1) := by decide +kernel
theorem dX5_glass_83 : decode cX5_glass 83 = .ok (.aload_n 0, 1) := by decide +kernel
theorem dX5_glass_84 : decode cX5_glass 84 = .ok (.getfield 46, 3) := by decide +kernel
theorem dX5_glass_87 : decode cX5_glass 87 = .ok (.invokevirtual 83, 3) := by decide +kernel
theorem dX5_glass_90 : decode cX5_glass 90 = .ok (.ifCond .eq 6, 3) := by decide +kernel
theorem dX5_glass_93 : decode cX5_glass 93 = .ok (.bipush (-15), 2) := by decide +kernel
theorem dX5_glass_95 : decode cX5_glass 95 = .ok (.ireturn, 1) := by decide +kernel
theorem dX5_glass_96 : decode cX5_glass 96 = .ok (.aload_n 0, 1) := by decide +kernel
theorem dX5_glass_97 : decode cX5_glass 97 = .ok (.getfield 23, 3) := by decide +kernel
theorem dX5_glass_100 : decode cX5_glass 100 = .ok (.invokevirtual 86, 3) := by decide +kernel
theorem dX5_glass_103 : decode cX5_glass 103 = .ok (.ifCond .ne 13, 3) := by decide +kernel
theorem dX5_glass_106 : decode cX5_glass 106 = .ok (.aload_n 0, 1) := by decide +kernel
theorem dX5_glass_107 : decode cX5_glass 107 = .ok (.getfield 42, 3) := by decide +kernel
theorem dX5_glass_110 : decode cX5_glass 110 = .ok (.invokevirtual 90, 3) := by decide +kernel
theorem dX5_glass_113 : decode cX5_glass 113 = .ok (.ifCond .eq 6, 3) := by decide +kernel
theorem dX5_glass_116 : decode cX5_glass 116 = .ok (.bipush (-3), 2) := by decide +kernel
theorem dX5_glass_118 : decode cX5_glass 118 = .ok (.ireturn, 1) := by decide +kernel
theorem dX5_glass_119 : decode cX5_glass 119 = .ok (.aload_n 0, 1) := by decide +kernel
theorem dX5_glass_120 : decode cX5_glass 120 = .ok (.getfield 23, 3) := by decide +kernel
theorem dX5_glass_123 : decode cX5_glass 123 = .ok (.iload_n 1, 1) := by decide +kernel
theorem dX5_glass_124 : decode cX5_glass 124 = .ok (.iload_n 2, 1) := by decide +kernel
theorem dX5_glass_125 : decode cX5_glass 125 = .ok (.aload_n 0, 1) := by decide +kernel
theorem dX5_glass_126 : decode cX5_glass 126 = .ok (.getfield 46, 3) := by decide +kernel
theorem dX5_glass_129 : decode cX5_glass 129 = .ok (.iload_n 3, 1) := by decide +kernel
theorem dX5_glass_130 : decode cX5_glass 130 = .ok (.iadd, 1) := by decide +kernel
theorem dX5_glass_131 : decode cX5_glass 131 = .ok (.invokevirtual 91, 3) := by decide +kernel
theorem dX5_glass_134 : decode cX5_glass 134 = .ok (.istore 4, 2) := by decide +kernel
theorem dX5_glass_136 : decode cX5_glass 136 = .ok (.aload_n 0, 1) := by decide +kernel
theorem dX5_glass_137 : decode cX5_glass 137 = .ok (.getfield 42, 3) := by decide +kernel
theorem dX5_glass_140 : decode cX5_glass 140 = .ok (.iconst 3, 1) := by decide +kernel
theorem dX5_glass_141 : decode cX5_glass 141 = .ok (.iload_n 1, 1) := by decide +kernel
theorem dX5_glass_142 : decode cX5_glass 142 = .ok (.iload 4, 2) := by decide +kernel
theorem dX5_glass_144 : decode cX5_glass 144 = .ok (.iload_n 2, 1) := by decide +kernel
theorem dX5_glass_145 : decode cX5_glass 145 = .ok (.aload_n 0, 1) := by decide +kernel
theorem dX5_glass_146 : decode cX5_glass 146 = .ok (.getfield 46, 3) := by decide +kernel
theorem dX5_glass_149 : decode cX5_glass 149 = .ok (.invokevirtual 94, 3) := by decide +kernel
theorem dX5_glass_152 : decode cX5_glass 152 = .ok (.iload 4, 2) := by decide +kernel
theorem dX5_glass_154 : decode cX5_glass 154 = .ok (.ireturn, 1) := by decide +kernel
theorem dX5_takeOff_0 : decode cX5_takeOff 0 = .ok (.aload_n 0, 1) := by decide +kernel
theorem dX5_takeOff_1 : decode cX5_takeOff 1 = .ok (.getfield 23, 3) := by decide +kernel
theorem dX5_takeOff_4 : decode cX5_takeOff 4 = .ok (.iload_n 1, 1) := by decide +kernel
theorem dX5_takeOff_5 : decode cX5_takeOff 5 = .ok (.invokevirtual 98, 3) := by decide +kernel
theorem dX5_takeOff_8 : decode cX5_takeOff 8 = .ok (.ifCond .eq 22, 3) := by decide +kernel
theorem dX5_takeOff_11 : decode cX5_takeOff 11 = .ok (.iload_n 2, 1) := by decide +kernel
theorem dX5_takeOff_12 : decode cX5_takeOff 12 = .ok (.invokestatic 51, 3) := by decide +kernel
theorem dX5_takeOff_15 : decode cX5_takeOff 15 = .ok (.ifCond .eq 15, 3) := by decide +kernel
theorem dX5_takeOff_18 : decode cX5_takeOff 18 = .ok (.aload_n 0, 1) := by decide +kernel
theorem dX5_takeOff_19 : decode cX5_takeOff 19 = .ok (.getfield 23, 3) := by decide +kernel
theorem dX5_takeOff_22 : decode cX5_takeOff 22 = .ok (.getfield 101, 3) := by decide +kernel
theorem dX5_takeOff_25 : decode cX5_takeOff 25 = .ok (.iload_n 1, 1) := by decide +kernel
theorem dX5_takeOff_26 : decode cX5_takeOff 26 = .ok (.baload, 1) := by decide +kernel
theorem dX5_takeOff_27 : decode cX5_takeOff 27 = .ok (.ifCond .ne 6, 3) := by decide +kernel
theorem dX5_takeOff_30 : decode cX5_takeOff 30 = .ok (.bipush (-2), 2) := by decide +kernel
theorem dX5_takeOff_32 : decode cX5_takeOff 32 = .ok (.ireturn, 1) := by decide +kernel
theorem dX5_takeOff_33 : decode cX5_takeOff 33 = .ok (.aload_n 0, 1) := by decide +kernel
theorem dX5_takeOff_34 : decode cX5_takeOff 34 = .ok (.getfield 9, 3) := by decide +kernel
theorem dX5_takeOff_37 : decode cX5_takeOff 37 = .ok (.iload_n 2, 1) := by decide +kernel
theorem dX5_takeOff_38 : decode cX5_takeOff 38 = .ok (.iaload, 1) := by decide +kernel
theorem dX5_takeOff_39 : decode cX5_takeOff 39 = .ok (.bipush 7, 2) := by decide +kernel
theorem dX5_takeOff_41 : decode cX5_takeOff 41 = .ok (.invokestatic 105, 3) := by decide +kernel
theorem dX5_takeOff_44 : decode cX5_takeOff 44 = .ok (.ifCond .ne 6, 3) := by decide +kernel
theorem dX5_takeOff_47 : decode cX5_takeOff 47 = .ok (.bipush (-18), 2) := by decide +kernel
theorem dX5_takeOff_49 : decode cX5_takeOff 49 = .ok (.ireturn, 1) := by decide +kernel
theorem dX5_takeOff_50 : decode cX5_takeOff 50 = .ok (.aload_n 0, 1) := by decide +kernel
theorem dX5_takeOff_51 : decode cX5_takeOff 51 = .ok (.getfield 23, 3) := by decide +kernel
theorem dX5_takeOff_54 : decode cX5_takeOff 54 = .ok (.getfield 108, 3) := by decide +kernel
theorem dX5_takeOff_57 : decode cX5_takeOff 57 = .ok (.iload_n 1, 1) := by decide +kernel
theorem dX5_takeOff_58 : decode cX5_takeOff 58 = .ok (.iaload, 1) := by decide +kernel
theorem dX5_takeOff_59 : decode cX5_takeOff 59 = .ok (.iload_n 2, 1) := by decide +kernel
theorem dX5_takeOff_60 : decode cX5_takeOff 60 = .ok (.if_icmp .ne 6, 3) := by decide +kernel
theorem dX5_takeOff_63 : decode cX5_takeOff 63 = .ok (.bipush (-19), 2) := by decide +kernel
theorem dX5_takeOff_65 : decode cX5_takeOff 65 = .ok (.ireturn, 1) := by decide +kernel
theorem dX5_takeOff_66 : decode cX5_takeOff 66 = .ok (.aload_n 0, 1) := by decide +kernel
theorem dX5_takeOff_67 : decode cX5_takeOff 67 = .ok (.getfield 42, 3) := by decide +kernel
theorem dX5_takeOff_70 : decode cX5_takeOff 70 = .ok (.invokevirtual 90, 3) := by decide +kernel
theorem dX5_takeOff_73 : decode cX5_takeOff 73 = .ok (.ifCond .eq 6, 3) := by decide +kernel
theorem dX5_takeOff_76 : decode cX5_takeOff 76 = .ok (.bipush (-3), 2) := by decide +kernel
theorem dX5_takeOff_78 : decode cX5_takeOff 78 = .ok (.ireturn, 1) := by decide +kernel
theorem dX5_takeOff_79 : decode cX5_takeOff 79 = .ok (.aload_n 0, 1) := by decide +kernel
theorem dX5_takeOff_80 : decode cX5_takeOff 80 = .ok (.getfield 23, 3) := by decide +kernel
theorem dX5_takeOff_83 : decode cX5_takeOff 83 = .ok (.getfield 101, 3) := by decide +kernel
theorem dX5_takeOff_86 : decode cX5_takeOff 86 = .ok (.iload_n 1, 1) := by decide +kernel
theorem dX5_takeOff_87 : decode cX5_takeOff 87 = .ok (.iconst 0, 1) := by decide +kernel
theorem dX5_takeOff_88 : decode cX5_takeOff 88 = .ok (.bastore, 1) := by decide +kernel
theorem dX5_takeOff_89 : decode cX5_takeOff 89 = .ok (.aload_n 0, 1) := by decide +kernel
theorem dX5_takeOff_90 : decode cX5_takeOff 90 = .ok (.getfield 42, 3) := by decide +kernel
theorem dX5_takeOff_93 : decode cX5_takeOff 93 = .ok (.iconst 4, 1) := by decide +kernel
theorem dX5_takeOff_94 : decode cX5_takeOff 94 = .ok (.iload_n 2, 1) := by decide +kernel
theorem dX5_takeOff_95 : decode cX5_takeOff 95 = .ok (.iload_n 1, 1) := by decide +kernel
theorem dX5_takeOff_96 : decode cX5_takeOff 96 = .ok (.iconst 0, 1) := by decide +kernel
theorem dX5_takeOff_97 : decode cX5_takeOff 97 = .ok (.aload_n 0, 1) := by decide +kernel
theorem dX5_takeOff_98 : decode cX5_takeOff 98 = .ok (.getfield 46, 3) := by decide +kernel
theorem dX5_takeOff_101 : decode cX5_takeOff 101 = .ok (.invokevirtual 94, 3) := by decide +kernel
theorem dX5_takeOff_104 : decode cX5_takeOff 104 = .ok (.iconst 0, 1) := by decide +kernel
theorem dX5_takeOff_105 : decode cX5_takeOff 105 = .ok (.aload_n 0, 1) := by decide +kernel
theorem dX5_takeOff_106 : decode cX5_takeOff 106 = .ok (.getfield 23, 3) := by decide +kernel
theorem dX5_takeOff_109 : decode cX5_takeOff 109 = .ok (.iload_n 1, 1) := by decide +kernel
theorem dX5_takeOff_110 : decode cX5_takeOff 110 = .ok (.invokevirtual 111, 3) := by decide +kernel
theorem dX5_takeOff_113 : decode cX5_takeOff 113 = .ok (.aload_n 0, 1) := by decide +kernel
theorem dX5_takeOff_114 : decode cX5_takeOff 114 = .ok (.getfield 46, 3) := by decide +kernel
theorem dX5_takeOff_117 : decode cX5_takeOff 117 = .ok (.isub, 1) := by decide +kernel
theorem dX5_takeOff_118 : decode cX5_takeOff 118 = .ok (.invokestatic 114, 3) := by decide +kernel
theorem dX5_takeOff_121 : decode cX5_takeOff 121 = .ok (.ireturn, 1) := by decide +kernel
theorem dX5_kind_0 : decode cX5_kind 0 = .ok (.aload_n 0, 1) := by decide +kernel
theorem dX5_kind_1 : decode cX5_kind 1 = .ok (.getfield 120, 3) := by decide +kernel
theorem dX5_kind_4 : decode cX5_kind 4 = .ok (.iconst 4, 1) := by decide +kernel
theorem dX5_kind_5 : decode cX5_kind 5 = .ok (.if_icmp .lt 6, 3) := by decide +kernel
theorem dX5_kind_8 : decode cX5_kind 8 = .ok (.bipush (-3), 2) := by decide +kernel
theorem dX5_kind_10 : decode cX5_kind 10 = .ok (.ireturn, 1) := by decide +kernel
theorem dX5_kind_11 : decode cX5_kind 11 = .ok (.aload_n 0, 1) := by decide +kernel
theorem dX5_kind_12 : decode cX5_kind 12 = .ok (.getfield 29, 3) := by decide +kernel
theorem dX5_kind_15 : decode cX5_kind 15 = .ok (.aload_n 0, 1) := by decide +kernel
theorem dX5_kind_16 : decode cX5_kind 16 = .ok (.getfield 120, 3) := by decide +kernel
theorem dX5_kind_19 : decode cX5_kind 19 = .ok (.new 27, 3) := by decide +kernel
theorem dX5_kind_22 : decode cX5_kind 22 = .ok (.dup, 1) := by decide +kernel
theorem dX5_kind_23 : decode cX5_kind 23 = .ok (.invokespecial 123, 3) := by decide +kernel
theorem dX5_kind_26 : decode cX5_kind 26 = .ok (.aastore, 1) := by decide +kernel
theorem dX5_kind_27 : decode cX5_kind 27 = .ok (.aload_n 0, 1) := by decide +kernel
theorem dX5_kind_28 : decode cX5_kind 28 = .ok (.dup, 1) := by decide +kernel
theorem dX5_kind_29 : decode cX5_kind 29 = .ok (.getfield 120, 3) := by decide +kernel
theorem dX5_kind_32 : decode cX5_kind 32 = .ok (.iconst 1, 1) := by decide +kernel
theorem dX5_kind_33 : decode cX5_kind 33 = .ok (.iadd, 1) := by decide +kernel
theorem dX5_kind_34 : decode cX5_kind 34 = .ok (.putfield 120, 3) := by decide +kernel
theorem dX5_kind_37 : decode cX5_kind 37 = .ok (.aload_n 0, 1) := by decide +kernel
theorem dX5_kind_38 : decode cX5_kind 38 = .ok (.getfield 120, 3) := by decide +kernel
theorem dX5_kind_41 : decode cX5_kind 41 = .ok (.iconst 1, 1) := by decide +kernel
theorem dX5_kind_42 : decode cX5_kind 42 = .ok (.isub, 1) := by decide +kernel
theorem dX5_kind_43 : decode cX5_kind 43 = .ok (.ireturn, 1) := by decide +kernel
theorem dX5_task_0 : decode cX5_task 0 = .ok (.aload_n 0, 1) := by decide +kernel
theorem dX5_task_1 : decode cX5_task 1 = .ok (.iload_n 1, 1) := by decide +kernel
theorem dX5_task_2 : decode cX5_task 2 = .ok (.invokevirtual 124, 3) := by decide +kernel
theorem dX5_task_5 : decode cX5_task 5 = .ok (.astore 4, 2) := by decide +kernel
theorem dX5_task_7 : decode cX5_task 7 = .ok (.aload 4, 2) := by decide +kernel
theorem dX5_task_9 : decode cX5_task 9 = .ok (.ifnull 24, 3) := by decide +kernel
theorem dX5_task_12 : decode cX5_task 12 = .ok (.iload_n 2, 1) := by decide +kernel
theorem dX5_task_13 : decode cX5_task 13 = .ok (.bipush 8, 2) := by decide +kernel
theorem dX5_task_15 : decode cX5_task 15 = .ok (.invokestatic 55, 3) := by decide +kernel
theorem dX5_task_18 : decode cX5_task 18 = .ok (.ifCond .eq 15, 3) := by decide +kernel
theorem dX5_task_21 : decode cX5_task 21 = .ok (.iload_n 3, 1) := by decide +kernel
theorem dX5_task_22 : decode cX5_task 22 = .ok (.aload 4, 2) := by decide +kernel
theorem dX5_task_24 : decode cX5_task 24 = .ok (.invokevirtual 128, 3) := by decide +kernel
theorem dX5_task_27 : decode cX5_task 27 = .ok (.iconst (-1), 1) := by decide +kernel
theorem dX5_task_28 : decode cX5_task 28 = .ok (.ixor, 1) := by decide +kernel
theorem dX5_task_29 : decode cX5_task 29 = .ok (.iand, 1) := by decide +kernel
theorem dX5_task_30 : decode cX5_task 30 = .ok (.ifCond .eq 6, 3) := by decide +kernel
theorem dX5_task_33 : decode cX5_task 33 = .ok (.bipush (-2), 2) := by decide +kernel
theorem dX5_task_35 : decode cX5_task 35 = .ok (.ireturn, 1) := by decide +kernel
theorem dX5_task_36 : decode cX5_task 36 = .ok (.aload 4, 2) := by decide +kernel
theorem dX5_task_38 : decode cX5_task 38 = .ok (.iload_n 2, 1) := by decide +kernel
theorem dX5_task_39 : decode cX5_task 39 = .ok (.iload_n 3, 1) := by decide +kernel
theorem dX5_task_40 : decode cX5_task 40 = .ok (.invokevirtual 132, 3) := by decide +kernel
theorem dX5_task_43 : decode cX5_task 43 = .ok (.ireturn, 1) := by decide +kernel
theorem dX5_apart_0 : decode cX5_apart 0 = .ok (.aload_n 0, 1) := by decide +kernel
theorem dX5_apart_1 : decode cX5_apart 1 = .ok (.iload_n 1, 1) := by decide +kernel
theorem dX5_apart_2 : decode cX5_apart 2 = .ok (.invokevirtual 124, 3) := by decide +kernel
theorem dX5_apart_5 : decode cX5_apart 5 = .ok (.astore 4, 2) := by decide +kernel
theorem dX5_apart_7 : decode cX5_apart 7 = .ok (.aload 4, 2) := by decide +kernel
theorem dX5_apart_9 : decode cX5_apart 9 = .ok (.ifnull 13, 3) := by decide +kernel
theorem dX5_apart_12 : decode cX5_apart 12 = .ok (.aload 4, 2) := by decide +kernel
theorem dX5_apart_14 : decode cX5_apart 14 = .ok (.iload_n 2, 1) := by decide +kernel
theorem dX5_apart_15 : decode cX5_apart 15 = .ok (.iload_n 3, 1) := by decide +kernel
theorem dX5_apart_16 : decode cX5_apart 16 = .ok (.invokevirtual 135, 3) := by decide +kernel
theorem dX5_apart_19 : decode cX5_apart 19 = .ok (.ifCond .ne 6, 3) := by decide +kernel
theorem dX5_apart_22 : decode cX5_apart 22 = .ok (.bipush (-2), 2) := by decide +kernel
theorem dX5_apart_24 : decode cX5_apart 24 = .ok (.ireturn, 1) := by decide +kernel
theorem dX5_apart_25 : decode cX5_apart 25 = .ok (.aload 4, 2) := by decide +kernel
theorem dX5_apart_27 : decode cX5_apart 27 = .ok (.getfield 138, 3) := by decide +kernel
theorem dX5_apart_30 : decode cX5_apart 30 = .ok (.iload_n 2, 1) := by decide +kernel
theorem dX5_apart_31 : decode cX5_apart 31 = .ok (.iload_n 3, 1) := by decide +kernel
theorem dX5_apart_32 : decode cX5_apart 32 = .ok (.invokestatic 141, 3) := by decide +kernel
theorem dX5_apart_35 : decode cX5_apart 35 = .ok (.ireturn, 1) := by decide +kernel
theorem dX5_bound_0 : decode cX5_bound 0 = .ok (.aload_n 0, 1) := by decide +kernel
theorem dX5_bound_1 : decode cX5_bound 1 = .ok (.iload_n 1, 1) := by decide +kernel
theorem dX5_bound_2 : decode cX5_bound 2 = .ok (.invokevirtual 124, 3) := by decide +kernel
theorem dX5_bound_5 : decode cX5_bound 5 = .ok (.astore 4, 2) := by decide +kernel
theorem dX5_bound_7 : decode cX5_bound 7 = .ok (.aload 4, 2) := by decide +kernel
theorem dX5_bound_9 : decode cX5_bound 9 = .ok (.ifnull 13, 3) := by decide +kernel
theorem dX5_bound_12 : decode cX5_bound 12 = .ok (.aload 4, 2) := by decide +kernel
theorem dX5_bound_14 : decode cX5_bound 14 = .ok (.iload_n 2, 1) := by decide +kernel
theorem dX5_bound_15 : decode cX5_bound 15 = .ok (.iload_n 3, 1) := by decide +kernel
theorem dX5_bound_16 : decode cX5_bound 16 = .ok (.invokevirtual 135, 3) := by decide +kernel
theorem dX5_bound_19 : decode cX5_bound 19 = .ok (.ifCond .ne 6, 3) := by decide +kernel
theorem dX5_bound_22 : decode cX5_bound 22 = .ok (.bipush (-2), 2) := by decide +kernel
theorem dX5_bound_24 : decode cX5_bound 24 = .ok (.ireturn, 1) := by decide +kernel
theorem dX5_bound_25 : decode cX5_bound 25 = .ok (.aload 4, 2) := by decide +kernel
theorem dX5_bound_27 : decode cX5_bound 27 = .ok (.getfield 145, 3) := by decide +kernel
theorem dX5_bound_30 : decode cX5_bound 30 = .ok (.iload_n 2, 1) := by decide +kernel
theorem dX5_bound_31 : decode cX5_bound 31 = .ok (.iload_n 3, 1) := by decide +kernel
theorem dX5_bound_32 : decode cX5_bound 32 = .ok (.invokestatic 141, 3) := by decide +kernel
theorem dX5_bound_35 : decode cX5_bound 35 = .ok (.ireturn, 1) := by decide +kernel
theorem dX5_most_0 : decode cX5_most 0 = .ok (.aload_n 0, 1) := by decide +kernel
theorem dX5_most_1 : decode cX5_most 1 = .ok (.iload_n 1, 1) := by decide +kernel
theorem dX5_most_2 : decode cX5_most 2 = .ok (.invokevirtual 124, 3) := by decide +kernel
theorem dX5_most_5 : decode cX5_most 5 = .ok (.astore_n 3, 1) := by decide +kernel
theorem dX5_most_6 : decode cX5_most 6 = .ok (.aload_n 3, 1) := by decide +kernel
theorem dX5_most_7 : decode cX5_most 7 = .ok (.ifnull 14, 3) := by decide +kernel
theorem dX5_most_10 : decode cX5_most 10 = .ok (.iload_n 2, 1) := by decide +kernel
theorem dX5_most_11 : decode cX5_most 11 = .ok (.iconst 1, 1) := by decide +kernel
theorem dX5_most_12 : decode cX5_most 12 = .ok (.if_icmp .lt 9, 3) := by decide +kernel
theorem dX5_most_15 : decode cX5_most 15 = .ok (.iload_n 2, 1) := by decide +kernel
theorem dX5_most_16 : decode cX5_most 16 = .ok (.bipush 6, 2) := by decide +kernel
theorem dX5_most_18 : decode cX5_most 18 = .ok (.if_icmp .le 6, 3) := by decide +kernel
theorem dX5_most_21 : decode cX5_most 21 = .ok (.bipush (-2), 2) := by decide +kernel
theorem dX5_most_23 : decode cX5_most 23 = .ok (.ireturn, 1) := by decide +kernel
theorem dX5_most_24 : decode cX5_most 24 = .ok (.aload_n 3, 1) := by decide +kernel
theorem dX5_most_25 : decode cX5_most 25 = .ok (.getfield 148, 3) := by decide +kernel
theorem dX5_most_28 : decode cX5_most 28 = .ok (.istore 4, 2) := by decide +kernel
theorem dX5_most_30 : decode cX5_most 30 = .ok (.aload_n 3, 1) := by decide +kernel
theorem dX5_most_31 : decode cX5_most 31 = .ok (.iload_n 2, 1) := by decide +kernel
theorem dX5_most_32 : decode cX5_most 32 = .ok (.putfield 148, 3) := by decide +kernel
theorem dX5_most_35 : decode cX5_most 35 = .ok (.iload 4, 2) := by decide +kernel
theorem dX5_most_37 : decode cX5_most 37 = .ok (.ireturn, 1) := by decide +kernel
theorem dX5_open_0 : decode cX5_open 0 = .ok (.aload_n 0, 1) := by decide +kernel
theorem dX5_open_1 : decode cX5_open 1 = .ok (.iload_n 1, 1) := by decide +kernel
theorem dX5_open_2 : decode cX5_open 2 = .ok (.invokevirtual 151, 3) := by decide +kernel
theorem dX5_open_5 : decode cX5_open 5 = .ok (.astore_n 2, 1) := by decide +kernel
theorem dX5_open_6 : decode cX5_open 6 = .ok (.aload_n 2, 1) := by decide +kernel
theorem dX5_open_7 : decode cX5_open 7 = .ok (.ifnull 10, 3) := by decide +kernel
theorem dX5_open_10 : decode cX5_open 10 = .ok (.aload_n 2, 1) := by decide +kernel
theorem dX5_open_11 : decode cX5_open 11 = .ok (.getfield 154, 3) := by decide +kernel
theorem dX5_open_14 : decode cX5_open 14 = .ok (.ifCond .ne 6, 3) := by decide +kernel
theorem dX5_open_17 : decode cX5_open 17 = .ok (.bipush (-2), 2) := by decide +kernel
theorem dX5_open_19 : decode cX5_open 19 = .ok (.ireturn, 1) := by decide +kernel
theorem dX5_open_20 : decode cX5_open 20 = .ok (.aload_n 0, 1) := by decide +kernel
theorem dX5_open_21 : decode cX5_open 21 = .ok (.getfield 157, 3) := by decide +kernel
theorem dX5_open_24 : decode cX5_open 24 = .ok (.bipush 16, 2) := by decide +kernel
theorem dX5_open_26 : decode cX5_open 26 = .ok (.if_icmp .lt 6, 3) := by decide +kernel
theorem dX5_open_29 : decode cX5_open 29 = .ok (.bipush (-3), 2) := by decide +kernel
theorem dX5_open_31 : decode cX5_open 31 = .ok (.ireturn, 1) := by decide +kernel
theorem dX5_open_32 : decode cX5_open 32 = .ok (.aload_n 2, 1) := by decide +kernel
theorem dX5_open_33 : decode cX5_open 33 = .ok (.iconst 1, 1) := by decide +kernel
theorem dX5_open_34 : decode cX5_open 34 = .ok (.putfield 160, 3) := by decide +kernel
theorem dX5_open_37 : decode cX5_open 37 = .ok (.aload_n 0, 1) := by decide +kernel
theorem dX5_open_38 : decode cX5_open 38 = .ok (.getfield 35, 3) := by decide +kernel
theorem dX5_open_41 : decode cX5_open 41 = .ok (.aload_n 0, 1) := by decide +kernel
theorem dX5_open_42 : decode cX5_open 42 = .ok (.getfield 157, 3) := by decide +kernel
theorem dX5_open_45 : decode cX5_open 45 = .ok (.new 33, 3) := by decide +kernel
theorem dX5_open_48 : decode cX5_open 48 = .ok (.dup, 1) := by decide +kernel
theorem dX5_open_49 : decode cX5_open 49 = .ok (.aload_n 2, 1) := by decide +kernel
theorem dX5_open_50 : decode cX5_open 50 = .ok (.invokespecial 164, 3) := by decide +kernel
theorem dX5_open_53 : decode cX5_open 53 = .ok (.aastore, 1) := by decide +kernel
theorem dX5_open_54 : decode cX5_open 54 = .ok (.aload_n 0, 1) := by decide +kernel
theorem dX5_open_55 : decode cX5_open 55 = .ok (.dup, 1) := by decide +kernel
theorem dX5_open_56 : decode cX5_open 56 = .ok (.getfield 157, 3) := by decide +kernel
theorem dX5_open_59 : decode cX5_open 59 = .ok (.iconst 1, 1) := by decide +kernel
theorem dX5_open_60 : decode cX5_open 60 = .ok (.iadd, 1) := by decide +kernel
theorem dX5_open_61 : decode cX5_open 61 = .ok (.putfield 157, 3) := by decide +kernel
theorem dX5_open_64 : decode cX5_open 64 = .ok (.aload_n 0, 1) := by decide +kernel
theorem dX5_open_65 : decode cX5_open 65 = .ok (.getfield 157, 3) := by decide +kernel
theorem dX5_open_68 : decode cX5_open 68 = .ok (.iconst 1, 1) := by decide +kernel
theorem dX5_open_69 : decode cX5_open 69 = .ok (.isub, 1) := by decide +kernel
theorem dX5_open_70 : decode cX5_open 70 = .ok (.ireturn, 1) := by decide +kernel
theorem dX5_perform_0 : decode cX5_perform 0 = .ok (.aload_n 0, 1) := by decide +kernel
theorem dX5_perform_1 : decode cX5_perform 1 = .ok (.iload_n 2, 1) := by decide +kernel
theorem dX5_perform_2 : decode cX5_perform 2 = .ok (.invokevirtual 167, 3) := by decide +kernel
theorem dX5_perform_5 : decode cX5_perform 5 = .ok (.astore 4, 2) := by decide +kernel
theorem dX5_perform_7 : decode cX5_perform 7 = .ok (.aload 4, 2) := by decide +kernel
theorem dX5_perform_9 : decode cX5_perform 9 = .ok (.ifnull 22, 3) := by decide +kernel
theorem dX5_perform_12 : decode cX5_perform 12 = .ok (.aload 4, 2) := by decide +kernel
theorem dX5_perform_14 : decode cX5_perform 14 = .ok (.getfield 171, 3) := by decide +kernel
theorem dX5_perform_17 : decode cX5_perform 17 = .ok (.iload_n 1, 1) := by decide +kernel
theorem dX5_perform_18 : decode cX5_perform 18 = .ok (.invokevirtual 175, 3) := by decide +kernel
theorem dX5_perform_21 : decode cX5_perform 21 = .ok (.ifCond .eq 10, 3) := by decide +kernel
theorem dX5_perform_24 : decode cX5_perform 24 = .ok (.iload_n 3, 1) := by decide +kernel
theorem dX5_perform_25 : decode cX5_perform 25 = .ok (.invokestatic 51, 3) := by decide +kernel
theorem dX5_perform_28 : decode cX5_perform 28 = .ok (.ifCond .ne 6, 3) := by decide +kernel
theorem dX5_perform_31 : decode cX5_perform 31 = .ok (.bipush (-2), 2) := by decide +kernel
theorem dX5_perform_33 : decode cX5_perform 33 = .ok (.ireturn, 1) := by decide +kernel
theorem dX5_perform_34 : decode cX5_perform 34 = .ok (.aload 4, 2) := by decide +kernel
theorem dX5_perform_36 : decode cX5_perform 36 = .ok (.iload_n 1, 1) := by decide +kernel
theorem dX5_perform_37 : decode cX5_perform 37 = .ok (.iload_n 3, 1) := by decide +kernel
theorem dX5_perform_38 : decode cX5_perform 38 = .ok (.aload_n 0, 1) := by decide +kernel
theorem dX5_perform_39 : decode cX5_perform 39 = .ok (.getfield 9, 3) := by decide +kernel
theorem dX5_perform_42 : decode cX5_perform 42 = .ok (.invokevirtual 178, 3) := by decide +kernel
theorem dX5_perform_45 : decode cX5_perform 45 = .ok (.istore 5, 2) := by decide +kernel
theorem dX5_perform_47 : decode cX5_perform 47 = .ok (.iload 5, 2) := by decide +kernel
theorem dX5_perform_49 : decode cX5_perform 49 = .ok (.ifCond .eq 6, 3) := by decide +kernel
theorem dX5_perform_52 : decode cX5_perform 52 = .ok (.iload 5, 2) := by decide +kernel
theorem dX5_perform_54 : decode cX5_perform 54 = .ok (.ireturn, 1) := by decide +kernel
theorem dX5_perform_55 : decode cX5_perform 55 = .ok (.aload_n 0, 1) := by decide +kernel
theorem dX5_perform_56 : decode cX5_perform 56 = .ok (.getfield 42, 3) := by decide +kernel
theorem dX5_perform_59 : decode cX5_perform 59 = .ok (.invokevirtual 90, 3) := by decide +kernel
theorem dX5_perform_62 : decode cX5_perform 62 = .ok (.ifCond .eq 6, 3) := by decide +kernel
theorem dX5_perform_65 : decode cX5_perform 65 = .ok (.bipush (-3), 2) := by decide +kernel
theorem dX5_perform_67 : decode cX5_perform 67 = .ok (.ireturn, 1) := by decide +kernel
theorem dX5_perform_68 : decode cX5_perform 68 = .ok (.aload 4, 2) := by decide +kernel
theorem dX5_perform_70 : decode cX5_perform 70 = .ok (.getfield 182, 3) := by decide +kernel
theorem dX5_perform_73 : decode cX5_perform 73 = .ok (.iload_n 1, 1) := by decide +kernel
theorem dX5_perform_74 : decode cX5_perform 74 = .ok (.iload_n 3, 1) := by decide +kernel
theorem dX5_perform_75 : decode cX5_perform 75 = .ok (.iastore, 1) := by decide +kernel
theorem dX5_perform_76 : decode cX5_perform 76 = .ok (.aload_n 0, 1) := by decide +kernel
theorem dX5_perform_77 : decode cX5_perform 77 = .ok (.getfield 42, 3) := by decide +kernel
theorem dX5_perform_80 : decode cX5_perform 80 = .ok (.iconst 5, 1) := by decide +kernel
theorem dX5_perform_81 : decode cX5_perform 81 = .ok (.iload_n 3, 1) := by decide +kernel
theorem dX5_perform_82 : decode cX5_perform 82 = .ok (.bipush 8, 2) := by decide +kernel
theorem dX5_perform_84 : decode cX5_perform 84 = .ok (.iload_n 2, 1) := by decide +kernel
theorem dX5_perform_85 : decode cX5_perform 85 = .ok (.imul, 1) := by decide +kernel
theorem dX5_perform_86 : decode cX5_perform 86 = .ok (.iload_n 1, 1) := by decide +kernel
theorem dX5_perform_87 : decode cX5_perform 87 = .ok (.iadd, 1) := by decide +kernel
theorem dX5_perform_88 : decode cX5_perform 88 = .ok (.iconst 0, 1) := by decide +kernel
theorem dX5_perform_89 : decode cX5_perform 89 = .ok (.aload_n 0, 1) := by decide +kernel
theorem dX5_perform_90 : decode cX5_perform 90 = .ok (.getfield 46, 3) := by decide +kernel
theorem dX5_perform_93 : decode cX5_perform 93 = .ok (.invokevirtual 94, 3) := by decide +kernel
theorem dX5_perform_96 : decode cX5_perform 96 = .ok (.aload 4, 2) := by decide +kernel
theorem dX5_perform_98 : decode cX5_perform 98 = .ok (.invokevirtual 185, 3) := by decide +kernel
theorem dX5_perform_101 : decode cX5_perform 101 = .ok (.invokestatic 188, 3) := by decide +kernel
theorem dX5_perform_104 : decode cX5_perform 104 = .ok (.ireturn, 1) := by decide +kernel
theorem dX5_canEnd_0 : decode cX5_canEnd 0 = .ok (.aload_n 0, 1) := by decide +kernel
theorem dX5_canEnd_1 : decode cX5_canEnd 1 = .ok (.iload_n 1, 1) := by decide +kernel
theorem dX5_canEnd_2 : decode cX5_canEnd 2 = .ok (.invokevirtual 167, 3) := by decide +kernel
theorem dX5_canEnd_5 : decode cX5_canEnd 5 = .ok (.astore_n 2, 1) := by decide +kernel
theorem dX5_canEnd_6 : decode cX5_canEnd 6 = .ok (.aload_n 2, 1) := by decide +kernel
theorem dX5_canEnd_7 : decode cX5_canEnd 7 = .ok (.ifnonnull 6, 3) := by decide +kernel
theorem dX5_canEnd_10 : decode cX5_canEnd 10 = .ok (.bipush (-2), 2) := by decide +kernel
theorem dX5_canEnd_12 : decode cX5_canEnd 12 = .ok (.ireturn, 1) := by decide +kernel
theorem dX5_canEnd_13 : decode cX5_canEnd 13 = .ok (.aload_n 2, 1) := by decide +kernel
theorem dX5_canEnd_14 : decode cX5_canEnd 14 = .ok (.aload_n 0, 1) := by decide +kernel
theorem dX5_canEnd_15 : decode cX5_canEnd 15 = .ok (.getfield 9, 3) := by decide +kernel
theorem dX5_canEnd_18 : decode cX5_canEnd 18 = .ok (.invokevirtual 193, 3) := by decide +kernel
theorem dX5_canEnd_21 : decode cX5_canEnd 21 = .ok (.invokestatic 197, 3) := by decide +kernel
theorem dX5_canEnd_24 : decode cX5_canEnd 24 = .ok (.ireturn, 1) := by decide +kernel
theorem dX5_doer_0 : decode cX5_doer 0 = .ok (.aload_n 0, 1) := by decide +kernel
theorem dX5_doer_1 : decode cX5_doer 1 = .ok (.iload_n 2, 1) := by decide +kernel
theorem dX5_doer_2 : decode cX5_doer 2 = .ok (.invokevirtual 167, 3) := by decide +kernel
theorem dX5_doer_5 : decode cX5_doer 5 = .ok (.astore_n 3, 1) := by decide +kernel
theorem dX5_doer_6 : decode cX5_doer 6 = .ok (.aload_n 3, 1) := by decide +kernel
theorem dX5_doer_7 : decode cX5_doer 7 = .ok (.ifnull 14, 3) := by decide +kernel
theorem dX5_doer_10 : decode cX5_doer 10 = .ok (.aload_n 3, 1) := by decide +kernel
theorem dX5_doer_11 : decode cX5_doer 11 = .ok (.getfield 171, 3) := by decide +kernel
theorem dX5_doer_14 : decode cX5_doer 14 = .ok (.iload_n 1, 1) := by decide +kernel
theorem dX5_doer_15 : decode cX5_doer 15 = .ok (.invokevirtual 175, 3) := by decide +kernel
theorem dX5_doer_18 : decode cX5_doer 18 = .ok (.ifCond .ne 6, 3) := by decide +kernel
theorem dX5_doer_21 : decode cX5_doer 21 = .ok (.bipush (-2), 2) := by decide +kernel
theorem dX5_doer_23 : decode cX5_doer 23 = .ok (.ireturn, 1) := by decide +kernel
theorem dX5_doer_24 : decode cX5_doer 24 = .ok (.aload_n 3, 1) := by decide +kernel
theorem dX5_doer_25 : decode cX5_doer 25 = .ok (.getfield 182, 3) := by decide +kernel
theorem dX5_doer_28 : decode cX5_doer 28 = .ok (.iload_n 1, 1) := by decide +kernel
theorem dX5_doer_29 : decode cX5_doer 29 = .ok (.iaload, 1) := by decide +kernel
theorem dX5_doer_30 : decode cX5_doer 30 = .ok (.ireturn, 1) := by decide +kernel
theorem dX5_told_0 : decode cX5_told 0 = .ok (.iload_n 1, 1) := by decide +kernel
theorem dX5_told_1 : decode cX5_told 1 = .ok (.invokestatic 51, 3) := by decide +kernel
theorem dX5_told_4 : decode cX5_told 4 = .ok (.ifCond .ne 6, 3) := by decide +kernel
theorem dX5_told_7 : decode cX5_told 7 = .ok (.bipush (-2), 2) := by decide +kernel
theorem dX5_told_9 : decode cX5_told 9 = .ok (.ireturn, 1) := by decide +kernel
theorem dX5_told_10 : decode cX5_told 10 = .ok (.iload_n 2, 1) := by decide +kernel
theorem dX5_told_11 : decode cX5_told 11 = .ok (.tableswitch 65 0 3 #[29, 36, 46, 56], 29) := by decide +kernel
theorem dX5_told_40 : decode cX5_told 40 = .ok (.aload_n 0, 1) := by decide +kernel
theorem dX5_told_41 : decode cX5_told 41 = .ok (.getfield 9, 3) := by decide +kernel
theorem dX5_told_44 : decode cX5_told 44 = .ok (.iload_n 1, 1) := by decide +kernel
theorem dX5_told_45 : decode cX5_told 45 = .ok (.iaload, 1) := by decide +kernel
theorem dX5_told_46 : decode cX5_told 46 = .ok (.ireturn, 1) := by decide +kernel
theorem dX5_told_47 : decode cX5_told 47 = .ok (.aload_n 0, 1) := by decide +kernel
theorem dX5_told_48 : decode cX5_told 48 = .ok (.getfield 16, 3) := by decide +kernel
theorem dX5_told_51 : decode cX5_told 51 = .ok (.getfield 201, 3) := by decide +kernel
theorem dX5_told_54 : decode cX5_told 54 = .ok (.iload_n 1, 1) := by decide +kernel
theorem dX5_told_55 : decode cX5_told 55 = .ok (.iaload, 1) := by decide +kernel
theorem dX5_told_56 : decode cX5_told 56 = .ok (.ireturn, 1) := by decide +kernel
theorem dX5_told_57 : decode cX5_told 57 = .ok (.aload_n 0, 1) := by decide +kernel
theorem dX5_told_58 : decode cX5_told 58 = .ok (.getfield 16, 3) := by decide +kernel
theorem dX5_told_61 : decode cX5_told 61 = .ok (.getfield 204, 3) := by decide +kernel
theorem dX5_told_64 : decode cX5_told 64 = .ok (.iload_n 1, 1) := by decide +kernel
theorem dX5_told_65 : decode cX5_told 65 = .ok (.iaload, 1) := by decide +kernel
theorem dX5_told_66 : decode cX5_told 66 = .ok (.ireturn, 1) := by decide +kernel
theorem dX5_told_67 : decode cX5_told 67 = .ok (.aload_n 0, 1) := by decide +kernel
theorem dX5_told_68 : decode cX5_told 68 = .ok (.getfield 23, 3) := by decide +kernel
theorem dX5_told_71 : decode cX5_told 71 = .ok (.iload_n 1, 1) := by decide +kernel
theorem dX5_told_72 : decode cX5_told 72 = .ok (.invokevirtual 80, 3) := by decide +kernel
theorem dX5_told_75 : decode cX5_told 75 = .ok (.ireturn, 1) := by decide +kernel
theorem dX5_told_76 : decode cX5_told 76 = .ok (.bipush (-2), 2) := by decide +kernel
theorem dX5_told_78 : decode cX5_told 78 = .ok (.ireturn, 1) := by decide +kernel
theorem dX5_glassTold_0 : decode cX5_glassTold 0 = .ok (.aload_n 0, 1) := by decide +kernel
theorem dX5_glassTold_1 : decode cX5_glassTold 1 = .ok (.getfield 23, 3) := by decide +kernel
theorem dX5_glassTold_4 : decode cX5_glassTold 4 = .ok (.iload_n 1, 1) := by decide +kernel
theorem dX5_glassTold_5 : decode cX5_glassTold 5 = .ok (.invokevirtual 98, 3) := by decide +kernel
theorem dX5_glassTold_8 : decode cX5_glassTold 8 = .ok (.ifCond .ne 6, 3) := by decide +kernel
theorem dX5_glassTold_11 : decode cX5_glassTold 11 = .ok (.bipush (-2), 2) := by decide +kernel
theorem dX5_glassTold_13 : decode cX5_glassTold 13 = .ok (.ireturn, 1) := by decide +kernel
theorem dX5_glassTold_14 : decode cX5_glassTold 14 = .ok (.iload_n 2, 1) := by decide +kernel
theorem dX5_glassTold_15 : decode cX5_glassTold 15 = .ok (.tableswitch 92 0 4 #[33, 43, 53, 63, 79], 33) := by decide +kernel
theorem dX5_glassTold_48 : decode cX5_glassTold 48 = .ok (.aload_n 0, 1) := by decide +kernel
theorem dX5_glassTold_49 : decode cX5_glassTold 49 = .ok (.getfield 23, 3) := by decide +kernel
theorem dX5_glassTold_52 : decode cX5_glassTold 52 = .ok (.getfield 108, 3) := by decide +kernel
theorem dX5_glassTold_55 : decode cX5_glassTold 55 = .ok (.iload_n 1, 1) := by decide +kernel
theorem dX5_glassTold_56 : decode cX5_glassTold 56 = .ok (.iaload, 1) := by decide +kernel
theorem dX5_glassTold_57 : decode cX5_glassTold 57 = .ok (.ireturn, 1) := by decide +kernel
theorem dX5_glassTold_58 : decode cX5_glassTold 58 = .ok (.aload_n 0, 1) := by decide +kernel
theorem dX5_glassTold_59 : decode cX5_glassTold 59 = .ok (.getfield 23, 3) := by decide +kernel
theorem dX5_glassTold_62 : decode cX5_glassTold 62 = .ok (.getfield 207, 3) := by decide +kernel
theorem dX5_glassTold_65 : decode cX5_glassTold 65 = .ok (.iload_n 1, 1) := by decide +kernel
theorem dX5_glassTold_66 : decode cX5_glassTold 66 = .ok (.iaload, 1) := by decide +kernel
theorem dX5_glassTold_67 : decode cX5_glassTold 67 = .ok (.ireturn, 1) := by decide +kernel
theorem dX5_glassTold_68 : decode cX5_glassTold 68 = .ok (.aload_n 0, 1) := by decide +kernel
theorem dX5_glassTold_69 : decode cX5_glassTold 69 = .ok (.getfield 23, 3) := by decide +kernel
theorem dX5_glassTold_72 : decode cX5_glassTold 72 = .ok (.getfield 210, 3) := by decide +kernel
theorem dX5_glassTold_75 : decode cX5_glassTold 75 = .ok (.iload_n 1, 1) := by decide +kernel
theorem dX5_glassTold_76 : decode cX5_glassTold 76 = .ok (.iaload, 1) := by decide +kernel
theorem dX5_glassTold_77 : decode cX5_glassTold 77 = .ok (.ireturn, 1) := by decide +kernel
theorem dX5_glassTold_78 : decode cX5_glassTold 78 = .ok (.aload_n 0, 1) := by decide +kernel
theorem dX5_glassTold_79 : decode cX5_glassTold 79 = .ok (.getfield 23, 3) := by decide +kernel
theorem dX5_glassTold_82 : decode cX5_glassTold 82 = .ok (.iload_n 1, 1) := by decide +kernel
theorem dX5_glassTold_83 : decode cX5_glassTold 83 = .ok (.aload_n 0, 1) := by decide +kernel
theorem dX5_glassTold_84 : decode cX5_glassTold 84 = .ok (.getfield 46, 3) := by decide +kernel
theorem dX5_glassTold_87 : decode cX5_glassTold 87 = .ok (.invokevirtual 213, 3) := by decide +kernel
theorem dX5_glassTold_90 : decode cX5_glassTold 90 = .ok (.invokestatic 197, 3) := by decide +kernel
theorem dX5_glassTold_93 : decode cX5_glassTold 93 = .ok (.ireturn, 1) := by decide +kernel
theorem dX5_glassTold_94 : decode cX5_glassTold 94 = .ok (.aload_n 0, 1) := by decide +kernel
theorem dX5_glassTold_95 : decode cX5_glassTold 95 = .ok (.getfield 23, 3) := by decide +kernel
theorem dX5_glassTold_98 : decode cX5_glassTold 98 = .ok (.getfield 101, 3) := by decide +kernel
theorem dX5_glassTold_101 : decode cX5_glassTold 101 = .ok (.iload_n 1, 1) := by decide +kernel
theorem dX5_glassTold_102 : decode cX5_glassTold 102 = .ok (.baload, 1) := by decide +kernel
theorem dX5_glassTold_103 : decode cX5_glassTold 103 = .ok (.invokestatic 197, 3) := by decide +kernel
theorem dX5_glassTold_106 : decode cX5_glassTold 106 = .ok (.ireturn, 1) := by decide +kernel
theorem dX5_glassTold_107 : decode cX5_glassTold 107 = .ok (.bipush (-2), 2) := by decide +kernel
theorem dX5_glassTold_109 : decode cX5_glassTold 109 = .ok (.ireturn, 1) := by decide +kernel
theorem dX5_entry_0 : decode cX5_entry 0 = .ok (.aload_n 0, 1) := by decide +kernel
theorem dX5_entry_1 : decode cX5_entry 1 = .ok (.getfield 42, 3) := by decide +kernel
theorem dX5_entry_4 : decode cX5_entry 4 = .ok (.iload_n 1, 1) := by decide +kernel
theorem dX5_entry_5 : decode cX5_entry 5 = .ok (.iload_n 2, 1) := by decide +kernel
theorem dX5_entry_6 : decode cX5_entry 6 = .ok (.invokevirtual 216, 3) := by decide +kernel
theorem dX5_entry_9 : decode cX5_entry 9 = .ok (.ifCond .ne 6, 3) := by decide +kernel
theorem dX5_entry_12 : decode cX5_entry 12 = .ok (.bipush (-2), 2) := by decide +kernel
theorem dX5_entry_14 : decode cX5_entry 14 = .ok (.ireturn, 1) := by decide +kernel
theorem dX5_entry_15 : decode cX5_entry 15 = .ok (.aload_n 0, 1) := by decide +kernel
theorem dX5_entry_16 : decode cX5_entry 16 = .ok (.getfield 42, 3) := by decide +kernel
theorem dX5_entry_19 : decode cX5_entry 19 = .ok (.getfield 219, 3) := by decide +kernel
theorem dX5_entry_22 : decode cX5_entry 22 = .ok (.iload_n 1, 1) := by decide +kernel
theorem dX5_entry_23 : decode cX5_entry 23 = .ok (.iconst 5, 1) := by decide +kernel
theorem dX5_entry_24 : decode cX5_entry 24 = .ok (.imul, 1) := by decide +kernel
theorem dX5_entry_25 : decode cX5_entry 25 = .ok (.iload_n 2, 1) := by decide +kernel
theorem dX5_entry_26 : decode cX5_entry 26 = .ok (.iadd, 1) := by decide +kernel
theorem dX5_entry_27 : decode cX5_entry 27 = .ok (.iaload, 1) := by decide +kernel
theorem dX5_entry_28 : decode cX5_entry 28 = .ok (.ireturn, 1) := by decide +kernel
theorem dX5_link_0 : decode cX5_link 0 = .ok (.aload_n 0, 1) := by decide +kernel
theorem dX5_link_1 : decode cX5_link 1 = .ok (.getfield 42, 3) := by decide +kernel
theorem dX5_link_4 : decode cX5_link 4 = .ok (.iload_n 1, 1) := by decide +kernel
theorem dX5_link_5 : decode cX5_link 5 = .ok (.invokevirtual 222, 3) := by decide +kernel
theorem dX5_link_8 : decode cX5_link 8 = .ok (.ifCond .ne 5, 3) := by decide +kernel
theorem dX5_link_11 : decode cX5_link 11 = .ok (.lconst 0, 1) := by decide +kernel
theorem dX5_link_12 : decode cX5_link 12 = .ok (.lreturn, 1) := by decide +kernel
theorem dX5_link_13 : decode cX5_link 13 = .ok (.aload_n 0, 1) := by decide +kernel
theorem dX5_link_14 : decode cX5_link 14 = .ok (.getfield 42, 3) := by decide +kernel
theorem dX5_link_17 : decode cX5_link 17 = .ok (.getfield 225, 3) := by decide +kernel
theorem dX5_link_20 : decode cX5_link 20 = .ok (.iload_n 1, 1) := by decide +kernel
theorem dX5_link_21 : decode cX5_link 21 = .ok (.laload, 1) := by decide +kernel
theorem dX5_link_22 : decode cX5_link 22 = .ok (.lreturn, 1) := by decide +kernel
theorem dX5_alter_0 : decode cX5_alter 0 = .ok (.aload_n 0, 1) := by decide +kernel
theorem dX5_alter_1 : decode cX5_alter 1 = .ok (.getfield 42, 3) := by decide +kernel
theorem dX5_alter_4 : decode cX5_alter 4 = .ok (.iload_n 1, 1) := by decide +kernel
theorem dX5_alter_5 : decode cX5_alter 5 = .ok (.iload_n 2, 1) := by decide +kernel
theorem dX5_alter_6 : decode cX5_alter 6 = .ok (.invokevirtual 216, 3) := by decide +kernel
theorem dX5_alter_9 : decode cX5_alter 9 = .ok (.ifCond .ne 6, 3) := by decide +kernel
theorem dX5_alter_12 : decode cX5_alter 12 = .ok (.bipush (-2), 2) := by decide +kernel
theorem dX5_alter_14 : decode cX5_alter 14 = .ok (.ireturn, 1) := by decide +kernel
theorem dX5_alter_15 : decode cX5_alter 15 = .ok (.aload_n 0, 1) := by decide +kernel
theorem dX5_alter_16 : decode cX5_alter 16 = .ok (.getfield 42, 3) := by decide +kernel
theorem dX5_alter_19 : decode cX5_alter 19 = .ok (.getfield 219, 3) := by decide +kernel
theorem dX5_alter_22 : decode cX5_alter 22 = .ok (.iload_n 1, 1) := by decide +kernel
theorem dX5_alter_23 : decode cX5_alter 23 = .ok (.iconst 5, 1) := by decide +kernel
theorem dX5_alter_24 : decode cX5_alter 24 = .ok (.imul, 1) := by decide +kernel
theorem dX5_alter_25 : decode cX5_alter 25 = .ok (.iload_n 2, 1) := by decide +kernel
theorem dX5_alter_26 : decode cX5_alter 26 = .ok (.iadd, 1) := by decide +kernel
theorem dX5_alter_27 : decode cX5_alter 27 = .ok (.iaload, 1) := by decide +kernel
theorem dX5_alter_28 : decode cX5_alter 28 = .ok (.istore 4, 2) := by decide +kernel
theorem dX5_alter_30 : decode cX5_alter 30 = .ok (.aload_n 0, 1) := by decide +kernel
theorem dX5_alter_31 : decode cX5_alter 31 = .ok (.getfield 42, 3) := by decide +kernel
theorem dX5_alter_34 : decode cX5_alter 34 = .ok (.getfield 219, 3) := by decide +kernel
theorem dX5_alter_37 : decode cX5_alter 37 = .ok (.iload_n 1, 1) := by decide +kernel
theorem dX5_alter_38 : decode cX5_alter 38 = .ok (.iconst 5, 1) := by decide +kernel
theorem dX5_alter_39 : decode cX5_alter 39 = .ok (.imul, 1) := by decide +kernel
theorem dX5_alter_40 : decode cX5_alter 40 = .ok (.iload_n 2, 1) := by decide +kernel
theorem dX5_alter_41 : decode cX5_alter 41 = .ok (.iadd, 1) := by decide +kernel
theorem dX5_alter_42 : decode cX5_alter 42 = .ok (.iload_n 3, 1) := by decide +kernel
theorem dX5_alter_43 : decode cX5_alter 43 = .ok (.iastore, 1) := by decide +kernel
theorem dX5_alter_44 : decode cX5_alter 44 = .ok (.iload 4, 2) := by decide +kernel
theorem dX5_alter_46 : decode cX5_alter 46 = .ok (.ireturn, 1) := by decide +kernel
theorem dX5_check_0 : decode cX5_check 0 = .ok (.aload_n 0, 1) := by decide +kernel
theorem dX5_check_1 : decode cX5_check 1 = .ok (.getfield 42, 3) := by decide +kernel
theorem dX5_check_4 : decode cX5_check 4 = .ok (.invokevirtual 229, 3) := by decide +kernel
theorem dX5_check_7 : decode cX5_check 7 = .ok (.ireturn, 1) := by decide +kernel
theorem dX5_count_0 : decode cX5_count 0 = .ok (.iload_n 1, 1) := by decide +kernel
theorem dX5_count_1 : decode cX5_count 1 = .ok (.tableswitch 90 0 6 #[43, 48, 56, 64, 72, 77, 82], 43) := by decide +kernel
theorem dX5_count_44 : decode cX5_count 44 = .ok (.aload_n 0, 1) := by decide +kernel
theorem dX5_count_45 : decode cX5_count 45 = .ok (.getfield 46, 3) := by decide +kernel
theorem dX5_count_48 : decode cX5_count 48 = .ok (.ireturn, 1) := by decide +kernel
theorem dX5_count_49 : decode cX5_count 49 = .ok (.aload_n 0, 1) := by decide +kernel
theorem dX5_count_50 : decode cX5_count 50 = .ok (.getfield 16, 3) := by decide +kernel
theorem dX5_count_53 : decode cX5_count 53 = .ok (.getfield 232, 3) := by decide +kernel
theorem dX5_count_56 : decode cX5_count 56 = .ok (.ireturn, 1) := by decide +kernel
theorem dX5_count_57 : decode cX5_count 57 = .ok (.aload_n 0, 1) := by decide +kernel
theorem dX5_count_58 : decode cX5_count 58 = .ok (.getfield 16, 3) := by decide +kernel
theorem dX5_count_61 : decode cX5_count 61 = .ok (.getfield 235, 3) := by decide +kernel
theorem dX5_count_64 : decode cX5_count 64 = .ok (.ireturn, 1) := by decide +kernel
theorem dX5_count_65 : decode cX5_count 65 = .ok (.aload_n 0, 1) := by decide +kernel
theorem dX5_count_66 : decode cX5_count 66 = .ok (.getfield 23, 3) := by decide +kernel
theorem dX5_count_69 : decode cX5_count 69 = .ok (.getfield 238, 3) := by decide +kernel
theorem dX5_count_72 : decode cX5_count 72 = .ok (.ireturn, 1) := by decide +kernel
theorem dX5_count_73 : decode cX5_count 73 = .ok (.aload_n 0, 1) := by decide +kernel
theorem dX5_count_74 : decode cX5_count 74 = .ok (.getfield 120, 3) := by decide +kernel
theorem dX5_count_77 : decode cX5_count 77 = .ok (.ireturn, 1) := by decide +kernel
theorem dX5_count_78 : decode cX5_count 78 = .ok (.aload_n 0, 1) := by decide +kernel
theorem dX5_count_79 : decode cX5_count 79 = .ok (.getfield 157, 3) := by decide +kernel
theorem dX5_count_82 : decode cX5_count 82 = .ok (.ireturn, 1) := by decide +kernel
theorem dX5_count_83 : decode cX5_count 83 = .ok (.aload_n 0, 1) := by decide +kernel
theorem dX5_count_84 : decode cX5_count 84 = .ok (.getfield 42, 3) := by decide +kernel
theorem dX5_count_87 : decode cX5_count 87 = .ok (.getfield 241, 3) := by decide +kernel
theorem dX5_count_90 : decode cX5_count 90 = .ok (.ireturn, 1) := by decide +kernel
theorem dX5_count_91 : decode cX5_count 91 = .ok (.bipush (-2), 2) := by decide +kernel
theorem dX5_count_93 : decode cX5_count 93 = .ok (.ireturn, 1) := by decide +kernel
theorem dX5_reach_0 : decode cX5_reach 0 = .ok (.iload_n 2, 1) := by decide +kernel
theorem dX5_reach_1 : decode cX5_reach 1 = .ok (.invokestatic 51, 3) := by decide +kernel
theorem dX5_reach_4 : decode cX5_reach 4 = .ok (.ifCond .eq 14, 3) := by decide +kernel
theorem dX5_reach_7 : decode cX5_reach 7 = .ok (.aload_n 0, 1) := by decide +kernel
theorem dX5_reach_8 : decode cX5_reach 8 = .ok (.getfield 16, 3) := by decide +kernel
theorem dX5_reach_11 : decode cX5_reach 11 = .ok (.iload_n 3, 1) := by decide +kernel
theorem dX5_reach_12 : decode cX5_reach 12 = .ok (.invokevirtual 242, 3) := by decide +kernel
theorem dX5_reach_15 : decode cX5_reach 15 = .ok (.ifCond .ne 6, 3) := by decide +kernel
theorem dX5_reach_18 : decode cX5_reach 18 = .ok (.bipush (-2), 2) := by decide +kernel
theorem dX5_reach_20 : decode cX5_reach 20 = .ok (.ireturn, 1) := by decide +kernel
theorem dX5_reach_21 : decode cX5_reach 21 = .ok (.aload_n 0, 1) := by decide +kernel
theorem dX5_reach_22 : decode cX5_reach 22 = .ok (.getfield 16, 3) := by decide +kernel
theorem dX5_reach_25 : decode cX5_reach 25 = .ok (.getfield 245, 3) := by decide +kernel
theorem dX5_reach_28 : decode cX5_reach 28 = .ok (.iload_n 3, 1) := by decide +kernel
theorem dX5_reach_29 : decode cX5_reach 29 = .ok (.iaload, 1) := by decide +kernel
theorem dX5_reach_30 : decode cX5_reach 30 = .ok (.istore 4, 2) := by decide +kernel
theorem dX5_reach_32 : decode cX5_reach 32 = .ok (.iload_n 1, 1) := by decide +kernel
theorem dX5_reach_33 : decode cX5_reach 33 = .ok (.iconst 2, 1) := by decide +kernel
theorem dX5_reach_34 : decode cX5_reach 34 = .ok (.if_icmp .ne 16, 3) := by decide +kernel
theorem dX5_reach_37 : decode cX5_reach 37 = .ok (.aload_n 0, 1) := by decide +kernel
theorem dX5_reach_38 : decode cX5_reach 38 = .ok (.getfield 16, 3) := by decide +kernel
theorem dX5_reach_41 : decode cX5_reach 41 = .ok (.iload_n 2, 1) := by decide +kernel
theorem dX5_reach_42 : decode cX5_reach 42 = .ok (.iload 4, 2) := by decide +kernel
theorem dX5_reach_44 : decode cX5_reach 44 = .ok (.invokevirtual 248, 3) := by decide +kernel
theorem dX5_reach_47 : decode cX5_reach 47 = .ok (.goto 13, 3) := by decide +kernel
theorem dX5_reach_50 : decode cX5_reach 50 = .ok (.aload_n 0, 1) := by decide +kernel
theorem dX5_reach_51 : decode cX5_reach 51 = .ok (.getfield 16, 3) := by decide +kernel
theorem dX5_reach_54 : decode cX5_reach 54 = .ok (.iload_n 2, 1) := by decide +kernel
theorem dX5_reach_55 : decode cX5_reach 55 = .ok (.iload 4, 2) := by decide +kernel
theorem dX5_reach_57 : decode cX5_reach 57 = .ok (.invokevirtual 251, 3) := by decide +kernel
theorem dX5_reach_60 : decode cX5_reach 60 = .ok (.istore 5, 2) := by decide +kernel
theorem dX5_reach_62 : decode cX5_reach 62 = .ok (.iload 5, 2) := by decide +kernel
theorem dX5_reach_64 : decode cX5_reach 64 = .ok (.ifCond .eq 7, 3) := by decide +kernel
theorem dX5_reach_67 : decode cX5_reach 67 = .ok (.iconst 1, 1) := by decide +kernel
theorem dX5_reach_68 : decode cX5_reach 68 = .ok (.goto 4, 3) := by decide +kernel
theorem dX5_reach_71 : decode cX5_reach 71 = .ok (.iconst 0, 1) := by decide +kernel
theorem dX5_reach_72 : decode cX5_reach 72 = .ok (.istore 6, 2) := by decide +kernel
theorem dX5_reach_74 : decode cX5_reach 74 = .ok (.iload 6, 2) := by decide +kernel
theorem dX5_reach_76 : decode cX5_reach 76 = .ok (.ifCond .eq 23, 3) := by decide +kernel
theorem dX5_reach_79 : decode cX5_reach 79 = .ok (.aload_n 0, 1) := by decide +kernel
theorem dX5_reach_80 : decode cX5_reach 80 = .ok (.getfield 23, 3) := by decide +kernel
theorem dX5_reach_83 : decode cX5_reach 83 = .ok (.iload_n 2, 1) := by decide +kernel
theorem dX5_reach_84 : decode cX5_reach 84 = .ok (.iload 4, 2) := by decide +kernel
theorem dX5_reach_86 : decode cX5_reach 86 = .ok (.aload_n 0, 1) := by decide +kernel
theorem dX5_reach_87 : decode cX5_reach 87 = .ok (.getfield 46, 3) := by decide +kernel
theorem dX5_reach_90 : decode cX5_reach 90 = .ok (.invokevirtual 76, 3) := by decide +kernel
theorem dX5_reach_93 : decode cX5_reach 93 = .ok (.ifCond .ne 6, 3) := by decide +kernel
theorem dX5_reach_96 : decode cX5_reach 96 = .ok (.iload 5, 2) := by decide +kernel
theorem dX5_reach_98 : decode cX5_reach 98 = .ok (.ireturn, 1) := by decide +kernel
theorem dX5_reach_99 : decode cX5_reach 99 = .ok (.aload_n 0, 1) := by decide +kernel
theorem dX5_reach_100 : decode cX5_reach 100 = .ok (.getfield 42, 3) := by decide +kernel
theorem dX5_reach_103 : decode cX5_reach 103 = .ok (.invokevirtual 90, 3) := by decide +kernel
theorem dX5_reach_106 : decode cX5_reach 106 = .ok (.ifCond .eq 6, 3) := by decide +kernel
theorem dX5_reach_109 : decode cX5_reach 109 = .ok (.bipush (-3), 2) := by decide +kernel
theorem dX5_reach_111 : decode cX5_reach 111 = .ok (.ireturn, 1) := by decide +kernel
theorem dX5_reach_112 : decode cX5_reach 112 = .ok (.iload 6, 2) := by decide +kernel
theorem dX5_reach_114 : decode cX5_reach 114 = .ok (.ifCond .eq 16, 3) := by decide +kernel
theorem dX5_reach_117 : decode cX5_reach 117 = .ok (.aload_n 0, 1) := by decide +kernel
theorem dX5_reach_118 : decode cX5_reach 118 = .ok (.getfield 16, 3) := by decide +kernel
theorem dX5_reach_121 : decode cX5_reach 121 = .ok (.iload_n 2, 1) := by decide +kernel
theorem dX5_reach_122 : decode cX5_reach 122 = .ok (.iload 4, 2) := by decide +kernel
theorem dX5_reach_124 : decode cX5_reach 124 = .ok (.invokevirtual 254, 3) := by decide +kernel
theorem dX5_reach_127 : decode cX5_reach 127 = .ok (.goto 13, 3) := by decide +kernel
theorem dX5_reach_130 : decode cX5_reach 130 = .ok (.aload_n 0, 1) := by decide +kernel
theorem dX5_reach_131 : decode cX5_reach 131 = .ok (.getfield 16, 3) := by decide +kernel
theorem dX5_reach_134 : decode cX5_reach 134 = .ok (.iload_n 2, 1) := by decide +kernel
theorem dX5_reach_135 : decode cX5_reach 135 = .ok (.iload 4, 2) := by decide +kernel
theorem dX5_reach_137 : decode cX5_reach 137 = .ok (.invokevirtual 258, 3) := by decide +kernel
theorem dX5_reach_140 : decode cX5_reach 140 = .ok (.aload_n 0, 1) := by decide +kernel
theorem dX5_reach_141 : decode cX5_reach 141 = .ok (.getfield 42, 3) := by decide +kernel
theorem dX5_reach_144 : decode cX5_reach 144 = .ok (.iload_n 1, 1) := by decide +kernel
theorem dX5_reach_145 : decode cX5_reach 145 = .ok (.iload_n 2, 1) := by decide +kernel
theorem dX5_reach_146 : decode cX5_reach 146 = .ok (.iload_n 3, 1) := by decide +kernel
theorem dX5_reach_147 : decode cX5_reach 147 = .ok (.iload 6, 2) := by decide +kernel
theorem dX5_reach_149 : decode cX5_reach 149 = .ok (.invokestatic 197, 3) := by decide +kernel
theorem dX5_reach_152 : decode cX5_reach 152 = .ok (.aload_n 0, 1) := by decide +kernel
theorem dX5_reach_153 : decode cX5_reach 153 = .ok (.getfield 46, 3) := by decide +kernel
theorem dX5_reach_156 : decode cX5_reach 156 = .ok (.invokevirtual 94, 3) := by decide +kernel
theorem dX5_reach_159 : decode cX5_reach 159 = .ok (.iload 6, 2) := by decide +kernel
theorem dX5_reach_161 : decode cX5_reach 161 = .ok (.invokestatic 197, 3) := by decide +kernel
theorem dX5_reach_164 : decode cX5_reach 164 = .ok (.ireturn, 1) := by decide +kernel
theorem dX5_kindAt_0 : decode cX5_kindAt 0 = .ok (.iload_n 1, 1) := by decide +kernel
theorem dX5_kindAt_1 : decode cX5_kindAt 1 = .ok (.aload_n 0, 1) := by decide +kernel
theorem dX5_kindAt_2 : decode cX5_kindAt 2 = .ok (.getfield 120, 3) := by decide +kernel
theorem dX5_kindAt_5 : decode cX5_kindAt 5 = .ok (.invokestatic 55, 3) := by decide +kernel
theorem dX5_kindAt_8 : decode cX5_kindAt 8 = .ok (.ifCond .eq 12, 3) := by decide +kernel
theorem dX5_kindAt_11 : decode cX5_kindAt 11 = .ok (.aload_n 0, 1) := by decide +kernel
theorem dX5_kindAt_12 : decode cX5_kindAt 12 = .ok (.getfield 29, 3) := by decide +kernel
theorem dX5_kindAt_15 : decode cX5_kindAt 15 = .ok (.iload_n 1, 1) := by decide +kernel
theorem dX5_kindAt_16 : decode cX5_kindAt 16 = .ok (.aaload, 1) := by decide +kernel
theorem dX5_kindAt_17 : decode cX5_kindAt 17 = .ok (.goto 4, 3) := by decide +kernel
theorem dX5_kindAt_20 : decode cX5_kindAt 20 = .ok (.aconst_null, 1) := by decide +kernel
theorem dX5_kindAt_21 : decode cX5_kindAt 21 = .ok (.areturn, 1) := by decide +kernel
theorem dX5_alterableKind_0 : decode cX5_alterableKind 0 = .ok (.aload_n 0, 1) := by decide +kernel
theorem dX5_alterableKind_1 : decode cX5_alterableKind 1 = .ok (.iload_n 1, 1) := by decide +kernel
theorem dX5_alterableKind_2 : decode cX5_alterableKind 2 = .ok (.invokevirtual 151, 3) := by decide +kernel
theorem dX5_alterableKind_5 : decode cX5_alterableKind 5 = .ok (.astore_n 2, 1) := by decide +kernel
theorem dX5_alterableKind_6 : decode cX5_alterableKind 6 = .ok (.aload_n 2, 1) := by decide +kernel
theorem dX5_alterableKind_7 : decode cX5_alterableKind 7 = .ok (.ifnull 10, 3) := by decide +kernel
theorem dX5_alterableKind_10 : decode cX5_alterableKind 10 = .ok (.aload_n 2, 1) := by decide +kernel
theorem dX5_alterableKind_11 : decode cX5_alterableKind 11 = .ok (.getfield 160, 3) := by decide +kernel
theorem dX5_alterableKind_14 : decode cX5_alterableKind 14 = .ok (.ifCond .eq 7, 3) := by decide +kernel
theorem dX5_alterableKind_17 : decode cX5_alterableKind 17 = .ok (.aconst_null, 1) := by decide +kernel
theorem dX5_alterableKind_18 : decode cX5_alterableKind 18 = .ok (.goto 4, 3) := by decide +kernel
theorem dX5_alterableKind_21 : decode cX5_alterableKind 21 = .ok (.aload_n 2, 1) := by decide +kernel
theorem dX5_alterableKind_22 : decode cX5_alterableKind 22 = .ok (.areturn, 1) := by decide +kernel
theorem dX5_caseAt_0 : decode cX5_caseAt 0 = .ok (.iload_n 1, 1) := by decide +kernel
theorem dX5_caseAt_1 : decode cX5_caseAt 1 = .ok (.aload_n 0, 1) := by decide +kernel
theorem dX5_caseAt_2 : decode cX5_caseAt 2 = .ok (.getfield 157, 3) := by decide +kernel
theorem dX5_caseAt_5 : decode cX5_caseAt 5 = .ok (.invokestatic 55, 3) := by decide +kernel
theorem dX5_caseAt_8 : decode cX5_caseAt 8 = .ok (.ifCond .eq 12, 3) := by decide +kernel
theorem dX5_caseAt_11 : decode cX5_caseAt 11 = .ok (.aload_n 0, 1) := by decide +kernel
theorem dX5_caseAt_12 : decode cX5_caseAt 12 = .ok (.getfield 35, 3) := by decide +kernel
theorem dX5_caseAt_15 : decode cX5_caseAt 15 = .ok (.iload_n 1, 1) := by decide +kernel
theorem dX5_caseAt_16 : decode cX5_caseAt 16 = .ok (.aaload, 1) := by decide +kernel
theorem dX5_caseAt_17 : decode cX5_caseAt 17 = .ok (.goto 4, 3) := by decide +kernel
theorem dX5_caseAt_20 : decode cX5_caseAt 20 = .ok (.aconst_null, 1) := by decide +kernel
theorem dX5_caseAt_21 : decode cX5_caseAt 21 = .ok (.areturn, 1) := by decide +kernel
theorem dX5_isUser_0 : decode cX5_isUser 0 = .ok (.iload_n 0, 1) := by decide +kernel
theorem dX5_isUser_1 : decode cX5_isUser 1 = .ok (.bipush 12, 2) := by decide +kernel
theorem dX5_isUser_3 : decode cX5_isUser 3 = .ok (.invokestatic 55, 3) := by decide +kernel
theorem dX5_isUser_6 : decode cX5_isUser 6 = .ok (.ireturn, 1) := by decide +kernel
theorem dX5_isBelow_0 : decode cX5_isBelow 0 = .ok (.iload_n 0, 1) := by decide +kernel
theorem dX5_isBelow_1 : decode cX5_isBelow 1 = .ok (.ifCond .lt 12, 3) := by decide +kernel
theorem dX5_isBelow_4 : decode cX5_isBelow 4 = .ok (.iload_n 0, 1) := by decide +kernel
theorem dX5_isBelow_5 : decode cX5_isBelow 5 = .ok (.iload_n 1, 1) := by decide +kernel
theorem dX5_isBelow_6 : decode cX5_isBelow 6 = .ok (.if_icmp .ge 7, 3) := by decide +kernel
theorem dX5_isBelow_9 : decode cX5_isBelow 9 = .ok (.iconst 1, 1) := by decide +kernel
theorem dX5_isBelow_10 : decode cX5_isBelow 10 = .ok (.goto 4, 3) := by decide +kernel
theorem dX5_isBelow_13 : decode cX5_isBelow 13 = .ok (.iconst 0, 1) := by decide +kernel
theorem dX5_isBelow_14 : decode cX5_isBelow 14 = .ok (.ireturn, 1) := by decide +kernel
theorem dX5_hasBit_0 : decode cX5_hasBit 0 = .ok (.iload_n 0, 1) := by decide +kernel
theorem dX5_hasBit_1 : decode cX5_hasBit 1 = .ok (.iload_n 1, 1) := by decide +kernel
theorem dX5_hasBit_2 : decode cX5_hasBit 2 = .ok (.iushr, 1) := by decide +kernel
theorem dX5_hasBit_3 : decode cX5_hasBit 3 = .ok (.iconst 1, 1) := by decide +kernel
theorem dX5_hasBit_4 : decode cX5_hasBit 4 = .ok (.iand, 1) := by decide +kernel
theorem dX5_hasBit_5 : decode cX5_hasBit 5 = .ok (.ifCond .eq 7, 3) := by decide +kernel
theorem dX5_hasBit_8 : decode cX5_hasBit 8 = .ok (.iconst 1, 1) := by decide +kernel
theorem dX5_hasBit_9 : decode cX5_hasBit 9 = .ok (.goto 4, 3) := by decide +kernel
theorem dX5_hasBit_12 : decode cX5_hasBit 12 = .ok (.iconst 0, 1) := by decide +kernel
theorem dX5_hasBit_13 : decode cX5_hasBit 13 = .ok (.ireturn, 1) := by decide +kernel
theorem dX5_asNumber_0 : decode cX5_asNumber 0 = .ok (.iload_n 0, 1) := by decide +kernel
theorem dX5_asNumber_1 : decode cX5_asNumber 1 = .ok (.ifCond .eq 7, 3) := by decide +kernel
theorem dX5_asNumber_4 : decode cX5_asNumber 4 = .ok (.iconst 1, 1) := by decide +kernel
theorem dX5_asNumber_5 : decode cX5_asNumber 5 = .ok (.goto 4, 3) := by decide +kernel
theorem dX5_asNumber_8 : decode cX5_asNumber 8 = .ok (.iconst 0, 1) := by decide +kernel
theorem dX5_asNumber_9 : decode cX5_asNumber 9 = .ok (.ireturn, 1) := by decide +kernel
theorem dX5_joinPair_0 : decode cX5_joinPair 0 = .ok (.aload_n 0, 1) := by decide +kernel
theorem dX5_joinPair_1 : decode cX5_joinPair 1 = .ok (.iload_n 1, 1) := by decide +kernel
theorem dX5_joinPair_2 : decode cX5_joinPair 2 = .ok (.iaload, 1) := by decide +kernel
theorem dX5_joinPair_3 : decode cX5_joinPair 3 = .ok (.iload_n 2, 1) := by decide +kernel
theorem dX5_joinPair_4 : decode cX5_joinPair 4 = .ok (.invokestatic 105, 3) := by decide +kernel
theorem dX5_joinPair_7 : decode cX5_joinPair 7 = .ok (.ifCond .ne 7, 3) := by decide +kernel
theorem dX5_joinPair_10 : decode cX5_joinPair 10 = .ok (.iconst 1, 1) := by decide +kernel
theorem dX5_joinPair_11 : decode cX5_joinPair 11 = .ok (.goto 4, 3) := by decide +kernel
theorem dX5_joinPair_14 : decode cX5_joinPair 14 = .ok (.iconst 0, 1) := by decide +kernel
theorem dX5_joinPair_15 : decode cX5_joinPair 15 = .ok (.istore_n 3, 1) := by decide +kernel
theorem dX5_joinPair_16 : decode cX5_joinPair 16 = .ok (.aload_n 0, 1) := by decide +kernel
theorem dX5_joinPair_17 : decode cX5_joinPair 17 = .ok (.iload_n 1, 1) := by decide +kernel
theorem dX5_joinPair_18 : decode cX5_joinPair 18 = .ok (.dup2, 1) := by decide +kernel
theorem dX5_joinPair_19 : decode cX5_joinPair 19 = .ok (.iaload, 1) := by decide +kernel
theorem dX5_joinPair_20 : decode cX5_joinPair 20 = .ok (.iconst 1, 1) := by decide +kernel
theorem dX5_joinPair_21 : decode cX5_joinPair 21 = .ok (.iload_n 2, 1) := by decide +kernel
theorem dX5_joinPair_22 : decode cX5_joinPair 22 = .ok (.ishl, 1) := by decide +kernel
theorem dX5_joinPair_23 : decode cX5_joinPair 23 = .ok (.ior, 1) := by decide +kernel
theorem dX5_joinPair_24 : decode cX5_joinPair 24 = .ok (.iastore, 1) := by decide +kernel
theorem dX5_joinPair_25 : decode cX5_joinPair 25 = .ok (.aload_n 0, 1) := by decide +kernel
theorem dX5_joinPair_26 : decode cX5_joinPair 26 = .ok (.iload_n 2, 1) := by decide +kernel
theorem dX5_joinPair_27 : decode cX5_joinPair 27 = .ok (.dup2, 1) := by decide +kernel
theorem dX5_joinPair_28 : decode cX5_joinPair 28 = .ok (.iaload, 1) := by decide +kernel
theorem dX5_joinPair_29 : decode cX5_joinPair 29 = .ok (.iconst 1, 1) := by decide +kernel
theorem dX5_joinPair_30 : decode cX5_joinPair 30 = .ok (.iload_n 1, 1) := by decide +kernel
theorem dX5_joinPair_31 : decode cX5_joinPair 31 = .ok (.ishl, 1) := by decide +kernel
theorem dX5_joinPair_32 : decode cX5_joinPair 32 = .ok (.ior, 1) := by decide +kernel
theorem dX5_joinPair_33 : decode cX5_joinPair 33 = .ok (.iastore, 1) := by decide +kernel
theorem dX5_joinPair_34 : decode cX5_joinPair 34 = .ok (.iload_n 3, 1) := by decide +kernel
theorem dX5_joinPair_35 : decode cX5_joinPair 35 = .ok (.invokestatic 197, 3) := by decide +kernel
theorem dX5_joinPair_38 : decode cX5_joinPair 38 = .ok (.ireturn, 1) := by decide +kernel
