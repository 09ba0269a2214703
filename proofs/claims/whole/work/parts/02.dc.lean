theorem dX6_init_0 : decode cX6_init 0 = .ok (.aload_n 0, 1) := by decide +kernel
theorem dX6_init_1 : decode cX6_init 1 = .ok (.invokespecial 1, 3) := by decide +kernel
theorem dX6_init_4 : decode cX6_init 4 = .ok (.aload_n 0, 1) := by decide +kernel
theorem dX6_init_5 : decode cX6_init 5 = .ok (.bipush 12, 2) := by decide +kernel
theorem dX6_init_7 : decode cX6_init 7 = .ok (.newarray .int, 2) := by decide +kernel
theorem dX6_init_9 : decode cX6_init 9 = .ok (.putfield 7, 3) := by decide +kernel
theorem dX6_init_12 : decode cX6_init 12 = .ok (.aload_n 0, 1) := by decide +kernel
theorem dX6_init_13 : decode cX6_init 13 = .ok (.bipush 12, 2) := by decide +kernel
theorem dX6_init_15 : decode cX6_init 15 = .ok (.newarray .int, 2) := by decide +kernel
theorem dX6_init_17 : decode cX6_init 17 = .ok (.putfield 13, 3) := by decide +kernel
theorem dX6_init_20 : decode cX6_init 20 = .ok (.aload_n 0, 1) := by decide +kernel
theorem dX6_init_21 : decode cX6_init 21 = .ok (.bipush 12, 2) := by decide +kernel
theorem dX6_init_23 : decode cX6_init 23 = .ok (.newarray .int, 2) := by decide +kernel
theorem dX6_init_25 : decode cX6_init 25 = .ok (.putfield 16, 3) := by decide +kernel
theorem dX6_init_28 : decode cX6_init 28 = .ok (.aload_n 0, 1) := by decide +kernel
theorem dX6_init_29 : decode cX6_init 29 = .ok (.bipush 24, 2) := by decide +kernel
theorem dX6_init_31 : decode cX6_init 31 = .ok (.newarray .int, 2) := by decide +kernel
theorem dX6_init_33 : decode cX6_init 33 = .ok (.putfield 19, 3) := by decide +kernel
theorem dX6_init_36 : decode cX6_init 36 = .ok (.aload_n 0, 1) := by decide +kernel
theorem dX6_init_37 : decode cX6_init 37 = .ok (.bipush 48, 2) := by decide +kernel
theorem dX6_init_39 : decode cX6_init 39 = .ok (.newarray .int, 2) := by decide +kernel
theorem dX6_init_41 : decode cX6_init 41 = .ok (.putfield 22, 3) := by decide +kernel
theorem dX6_init_44 : decode cX6_init 44 = .ok (.aload_n 0, 1) := by decide +kernel
theorem dX6_init_45 : decode cX6_init 45 = .ok (.bipush 40, 2) := by decide +kernel
theorem dX6_init_47 : decode cX6_init 47 = .ok (.newarray .int, 2) := by decide +kernel
theorem dX6_init_49 : decode cX6_init 49 = .ok (.putfield 25, 3) := by decide +kernel
theorem dX6_init_52 : decode cX6_init 52 = .ok (.aload_n 0, 1) := by decide +kernel
theorem dX6_init_53 : decode cX6_init 53 = .ok (.bipush 40, 2) := by decide +kernel
theorem dX6_init_55 : decode cX6_init 55 = .ok (.newarray .int, 2) := by decide +kernel
theorem dX6_init_57 : decode cX6_init 57 = .ok (.putfield 28, 3) := by decide +kernel
theorem dX6_init_60 : decode cX6_init 60 = .ok (.aload_n 0, 1) := by decide +kernel
theorem dX6_init_61 : decode cX6_init 61 = .ok (.bipush 40, 2) := by decide +kernel
theorem dX6_init_63 : decode cX6_init 63 = .ok (.newarray .int, 2) := by decide +kernel
theorem dX6_init_65 : decode cX6_init 65 = .ok (.putfield 31, 3) := by decide +kernel
theorem dX6_init_68 : decode cX6_init 68 = .ok (.aload_n 0, 1) := by decide +kernel
theorem dX6_init_69 : decode cX6_init 69 = .ok (.bipush 40, 2) := by decide +kernel
theorem dX6_init_71 : decode cX6_init 71 = .ok (.newarray .boolean, 2) := by decide +kernel
theorem dX6_init_73 : decode cX6_init 73 = .ok (.putfield 34, 3) := by decide +kernel
theorem dX6_init_76 : decode cX6_init 76 = .ok (.aload_n 0, 1) := by decide +kernel
theorem dX6_init_77 : decode cX6_init 77 = .ok (.iconst 4, 1) := by decide +kernel
theorem dX6_init_78 : decode cX6_init 78 = .ok (.newarray .int, 2) := by decide +kernel
theorem dX6_init_80 : decode cX6_init 80 = .ok (.putfield 38, 3) := by decide +kernel
theorem dX6_init_83 : decode cX6_init 83 = .ok (.aload_n 0, 1) := by decide +kernel
theorem dX6_init_84 : decode cX6_init 84 = .ok (.bipush 24, 2) := by decide +kernel
theorem dX6_init_86 : decode cX6_init 86 = .ok (.newarray .int, 2) := by decide +kernel
theorem dX6_init_88 : decode cX6_init 88 = .ok (.putfield 41, 3) := by decide +kernel
theorem dX6_init_91 : decode cX6_init 91 = .ok (.aload_n 0, 1) := by decide +kernel
theorem dX6_init_92 : decode cX6_init 92 = .ok (.bipush 24, 2) := by decide +kernel
theorem dX6_init_94 : decode cX6_init 94 = .ok (.newarray .int, 2) := by decide +kernel
theorem dX6_init_96 : decode cX6_init 96 = .ok (.putfield 44, 3) := by decide +kernel
theorem dX6_init_99 : decode cX6_init 99 = .ok (.aload_n 0, 1) := by decide +kernel
theorem dX6_init_100 : decode cX6_init 100 = .ok (.sipush 144, 3) := by decide +kernel
theorem dX6_init_103 : decode cX6_init 103 = .ok (.newarray .boolean, 2) := by decide +kernel
theorem dX6_init_105 : decode cX6_init 105 = .ok (.putfield 47, 3) := by decide +kernel
theorem dX6_init_108 : decode cX6_init 108 = .ok (.aload_n 0, 1) := by decide +kernel
theorem dX6_init_109 : decode cX6_init 109 = .ok (.sipush 144, 3) := by decide +kernel
theorem dX6_init_112 : decode cX6_init 112 = .ok (.newarray .boolean, 2) := by decide +kernel
theorem dX6_init_114 : decode cX6_init 114 = .ok (.putfield 50, 3) := by decide +kernel
theorem dX6_init_117 : decode cX6_init 117 = .ok (.aload_n 0, 1) := by decide +kernel
theorem dX6_init_118 : decode cX6_init 118 = .ok (.iconst 4, 1) := by decide +kernel
theorem dX6_init_119 : decode cX6_init 119 = .ok (.newarray .int, 2) := by decide +kernel
theorem dX6_init_121 : decode cX6_init 121 = .ok (.putfield 53, 3) := by decide +kernel
theorem dX6_init_124 : decode cX6_init 124 = .ok (.aload_n 0, 1) := by decide +kernel
theorem dX6_init_125 : decode cX6_init 125 = .ok (.bipush 16, 2) := by decide +kernel
theorem dX6_init_127 : decode cX6_init 127 = .ok (.newarray .int, 2) := by decide +kernel
theorem dX6_init_129 : decode cX6_init 129 = .ok (.putfield 56, 3) := by decide +kernel
theorem dX6_init_132 : decode cX6_init 132 = .ok (.aload_n 0, 1) := by decide +kernel
theorem dX6_init_133 : decode cX6_init 133 = .ok (.bipush 96, 2) := by decide +kernel
theorem dX6_init_135 : decode cX6_init 135 = .ok (.newarray .int, 2) := by decide +kernel
theorem dX6_init_137 : decode cX6_init 137 = .ok (.putfield 59, 3) := by decide +kernel
theorem dX6_init_140 : decode cX6_init 140 = .ok (.aload_n 0, 1) := by decide +kernel
theorem dX6_init_141 : decode cX6_init 141 = .ok (.sipush 1200, 3) := by decide +kernel
theorem dX6_init_144 : decode cX6_init 144 = .ok (.newarray .int, 2) := by decide +kernel
theorem dX6_init_146 : decode cX6_init 146 = .ok (.putfield 62, 3) := by decide +kernel
theorem dX6_init_149 : decode cX6_init 149 = .ok (.aload_n 0, 1) := by decide +kernel
theorem dX6_init_150 : decode cX6_init 150 = .ok (.sipush 240, 3) := by decide +kernel
theorem dX6_init_153 : decode cX6_init 153 = .ok (.newarray .long, 2) := by decide +kernel
theorem dX6_init_155 : decode cX6_init 155 = .ok (.putfield 65, 3) := by decide +kernel
theorem dX6_init_158 : decode cX6_init 158 = .ok (.aload_n 0, 1) := by decide +kernel
theorem dX6_init_159 : decode cX6_init 159 = .ok (.bipush 6, 2) := by decide +kernel
theorem dX6_init_161 : decode cX6_init 161 = .ok (.newarray .int, 2) := by decide +kernel
theorem dX6_init_163 : decode cX6_init 163 = .ok (.putfield 69, 3) := by decide +kernel
theorem dX6_init_166 : decode cX6_init 166 = .ok (.aload_n 0, 1) := by decide +kernel
theorem dX6_init_167 : decode cX6_init 167 = .ok (.iconst 0, 1) := by decide +kernel
theorem dX6_init_168 : decode cX6_init 168 = .ok (.putfield 72, 3) := by decide +kernel
theorem dX6_init_171 : decode cX6_init 171 = .ok (.return_, 1) := by decide +kernel
theorem dX6_isIn_0 : decode cX6_isIn 0 = .ok (.iload_n 0, 1) := by decide +kernel
theorem dX6_isIn_1 : decode cX6_isIn 1 = .ok (.iload_n 1, 1) := by decide +kernel
theorem dX6_isIn_2 : decode cX6_isIn 2 = .ok (.if_icmp .lt 12, 3) := by decide +kernel
theorem dX6_isIn_5 : decode cX6_isIn 5 = .ok (.iload_n 0, 1) := by decide +kernel
theorem dX6_isIn_6 : decode cX6_isIn 6 = .ok (.iload_n 2, 1) := by decide +kernel
theorem dX6_isIn_7 : decode cX6_isIn 7 = .ok (.if_icmp .gt 7, 3) := by decide +kernel
theorem dX6_isIn_10 : decode cX6_isIn 10 = .ok (.iconst 1, 1) := by decide +kernel
theorem dX6_isIn_11 : decode cX6_isIn 11 = .ok (.goto 4, 3) := by decide +kernel
theorem dX6_isIn_14 : decode cX6_isIn 14 = .ok (.iconst 0, 1) := by decide +kernel
theorem dX6_isIn_15 : decode cX6_isIn 15 = .ok (.ireturn, 1) := by decide +kernel
theorem dX6_isUser_0 : decode cX6_isUser 0 = .ok (.iload_n 0, 1) := by decide +kernel
theorem dX6_isUser_1 : decode cX6_isUser 1 = .ok (.iconst 0, 1) := by decide +kernel
theorem dX6_isUser_2 : decode cX6_isUser 2 = .ok (.bipush 11, 2) := by decide +kernel
theorem dX6_isUser_4 : decode cX6_isUser 4 = .ok (.invokestatic 76, 3) := by decide +kernel
theorem dX6_isUser_7 : decode cX6_isUser 7 = .ok (.ireturn, 1) := by decide +kernel
theorem dX6_tick_0 : decode cX6_tick 0 = .ok (.iload_n 1, 1) := by decide +kernel
theorem dX6_tick_1 : decode cX6_tick 1 = .ok (.iconst 1, 1) := by decide +kernel
theorem dX6_tick_2 : decode cX6_tick 2 = .ok (.sipush 1000, 3) := by decide +kernel
theorem dX6_tick_5 : decode cX6_tick 5 = .ok (.invokestatic 76, 3) := by decide +kernel
theorem dX6_tick_8 : decode cX6_tick 8 = .ok (.ifCond .ne 6, 3) := by decide +kernel
theorem dX6_tick_11 : decode cX6_tick 11 = .ok (.bipush (-2), 2) := by decide +kernel
theorem dX6_tick_13 : decode cX6_tick 13 = .ok (.ireturn, 1) := by decide +kernel
theorem dX6_tick_14 : decode cX6_tick 14 = .ok (.aload_n 0, 1) := by decide +kernel
theorem dX6_tick_15 : decode cX6_tick 15 = .ok (.getfield 72, 3) := by decide +kernel
theorem dX6_tick_18 : decode cX6_tick 18 = .ok (.iload_n 1, 1) := by decide +kernel
theorem dX6_tick_19 : decode cX6_tick 19 = .ok (.iadd, 1) := by decide +kernel
theorem dX6_tick_20 : decode cX6_tick 20 = .ok (.ldc 80, 2) := by decide +kernel
theorem dX6_tick_22 : decode cX6_tick 22 = .ok (.if_icmp .le 6, 3) := by decide +kernel
theorem dX6_tick_25 : decode cX6_tick 25 = .ok (.bipush (-3), 2) := by decide +kernel
theorem dX6_tick_27 : decode cX6_tick 27 = .ok (.ireturn, 1) := by decide +kernel
theorem dX6_tick_28 : decode cX6_tick 28 = .ok (.aload_n 0, 1) := by decide +kernel
theorem dX6_tick_29 : decode cX6_tick 29 = .ok (.dup, 1) := by decide +kernel
theorem dX6_tick_30 : decode cX6_tick 30 = .ok (.getfield 72, 3) := by decide +kernel
theorem dX6_tick_33 : decode cX6_tick 33 = .ok (.iload_n 1, 1) := by decide +kernel
theorem dX6_tick_34 : decode cX6_tick 34 = .ok (.iadd, 1) := by decide +kernel
theorem dX6_tick_35 : decode cX6_tick 35 = .ok (.putfield 72, 3) := by decide +kernel
theorem dX6_tick_38 : decode cX6_tick 38 = .ok (.aload_n 0, 1) := by decide +kernel
theorem dX6_tick_39 : decode cX6_tick 39 = .ok (.getfield 72, 3) := by decide +kernel
theorem dX6_tick_42 : decode cX6_tick 42 = .ok (.ireturn, 1) := by decide +kernel
theorem dX6_roles_0 : decode cX6_roles 0 = .ok (.iload_n 1, 1) := by decide +kernel
theorem dX6_roles_1 : decode cX6_roles 1 = .ok (.invokestatic 81, 3) := by decide +kernel
theorem dX6_roles_4 : decode cX6_roles 4 = .ok (.ifCond .eq 14, 3) := by decide +kernel
theorem dX6_roles_7 : decode cX6_roles 7 = .ok (.iload_n 2, 1) := by decide +kernel
theorem dX6_roles_8 : decode cX6_roles 8 = .ok (.iconst 0, 1) := by decide +kernel
theorem dX6_roles_9 : decode cX6_roles 9 = .ok (.sipush 255, 3) := by decide +kernel
theorem dX6_roles_12 : decode cX6_roles 12 = .ok (.invokestatic 76, 3) := by decide +kernel
theorem dX6_roles_15 : decode cX6_roles 15 = .ok (.ifCond .ne 6, 3) := by decide +kernel
theorem dX6_roles_18 : decode cX6_roles 18 = .ok (.bipush (-2), 2) := by decide +kernel
theorem dX6_roles_20 : decode cX6_roles 20 = .ok (.ireturn, 1) := by decide +kernel
theorem dX6_roles_21 : decode cX6_roles 21 = .ok (.aload_n 0, 1) := by decide +kernel
theorem dX6_roles_22 : decode cX6_roles 22 = .ok (.getfield 7, 3) := by decide +kernel
theorem dX6_roles_25 : decode cX6_roles 25 = .ok (.iload_n 1, 1) := by decide +kernel
theorem dX6_roles_26 : decode cX6_roles 26 = .ok (.iaload, 1) := by decide +kernel
theorem dX6_roles_27 : decode cX6_roles 27 = .ok (.istore_n 3, 1) := by decide +kernel
theorem dX6_roles_28 : decode cX6_roles 28 = .ok (.aload_n 0, 1) := by decide +kernel
theorem dX6_roles_29 : decode cX6_roles 29 = .ok (.getfield 7, 3) := by decide +kernel
theorem dX6_roles_32 : decode cX6_roles 32 = .ok (.iload_n 1, 1) := by decide +kernel
theorem dX6_roles_33 : decode cX6_roles 33 = .ok (.iload_n 2, 1) := by decide +kernel
theorem dX6_roles_34 : decode cX6_roles 34 = .ok (.iastore, 1) := by decide +kernel
theorem dX6_roles_35 : decode cX6_roles 35 = .ok (.iload_n 3, 1) := by decide +kernel
theorem dX6_roles_36 : decode cX6_roles 36 = .ok (.ireturn, 1) := by decide +kernel
theorem dX6_firm_0 : decode cX6_firm 0 = .ok (.iload_n 1, 1) := by decide +kernel
theorem dX6_firm_1 : decode cX6_firm 1 = .ok (.iconst (-1), 1) := by decide +kernel
theorem dX6_firm_2 : decode cX6_firm 2 = .ok (.bipush 7, 2) := by decide +kernel
theorem dX6_firm_4 : decode cX6_firm 4 = .ok (.invokestatic 76, 3) := by decide +kernel
theorem dX6_firm_7 : decode cX6_firm 7 = .ok (.ifCond .ne 6, 3) := by decide +kernel
theorem dX6_firm_10 : decode cX6_firm 10 = .ok (.bipush (-2), 2) := by decide +kernel
theorem dX6_firm_12 : decode cX6_firm 12 = .ok (.ireturn, 1) := by decide +kernel
theorem dX6_firm_13 : decode cX6_firm 13 = .ok (.aload_n 0, 1) := by decide +kernel
theorem dX6_firm_14 : decode cX6_firm 14 = .ok (.getfield 85, 3) := by decide +kernel
theorem dX6_firm_17 : decode cX6_firm 17 = .ok (.bipush 24, 2) := by decide +kernel
theorem dX6_firm_19 : decode cX6_firm 19 = .ok (.if_icmp .ne 6, 3) := by decide +kernel
theorem dX6_firm_22 : decode cX6_firm 22 = .ok (.bipush (-3), 2) := by decide +kernel
theorem dX6_firm_24 : decode cX6_firm 24 = .ok (.ireturn, 1) := by decide +kernel
theorem dX6_firm_25 : decode cX6_firm 25 = .ok (.aload_n 0, 1) := by decide +kernel
theorem dX6_firm_26 : decode cX6_firm 26 = .ok (.getfield 19, 3) := by decide +kernel
theorem dX6_firm_29 : decode cX6_firm 29 = .ok (.aload_n 0, 1) := by decide +kernel
theorem dX6_firm_30 : decode cX6_firm 30 = .ok (.getfield 85, 3) := by decide +kernel
theorem dX6_firm_33 : decode cX6_firm 33 = .ok (.iload_n 1, 1) := by decide +kernel
theorem dX6_firm_34 : decode cX6_firm 34 = .ok (.iastore, 1) := by decide +kernel
theorem dX6_firm_35 : decode cX6_firm 35 = .ok (.aload_n 0, 1) := by decide +kernel
theorem dX6_firm_36 : decode cX6_firm 36 = .ok (.dup, 1) := by decide +kernel
theorem dX6_firm_37 : decode cX6_firm 37 = .ok (.getfield 85, 3) := by decide +kernel
theorem dX6_firm_40 : decode cX6_firm 40 = .ok (.iconst 1, 1) := by decide +kernel
theorem dX6_firm_41 : decode cX6_firm 41 = .ok (.iadd, 1) := by decide +kernel
theorem dX6_firm_42 : decode cX6_firm 42 = .ok (.putfield 85, 3) := by decide +kernel
theorem dX6_firm_45 : decode cX6_firm 45 = .ok (.aload_n 0, 1) := by decide +kernel
theorem dX6_firm_46 : decode cX6_firm 46 = .ok (.getfield 85, 3) := by decide +kernel
theorem dX6_firm_49 : decode cX6_firm 49 = .ok (.iconst 1, 1) := by decide +kernel
theorem dX6_firm_50 : decode cX6_firm 50 = .ok (.isub, 1) := by decide +kernel
theorem dX6_firm_51 : decode cX6_firm 51 = .ok (.ireturn, 1) := by decide +kernel
theorem dX6_object_0 : decode cX6_object 0 = .ok (.iload_n 1, 1) := by decide +kernel
theorem dX6_object_1 : decode cX6_object 1 = .ok (.iconst 0, 1) := by decide +kernel
theorem dX6_object_2 : decode cX6_object 2 = .ok (.aload_n 0, 1) := by decide +kernel
theorem dX6_object_3 : decode cX6_object 3 = .ok (.getfield 85, 3) := by decide +kernel
theorem dX6_object_6 : decode cX6_object 6 = .ok (.iconst 1, 1) := by decide +kernel
theorem dX6_object_7 : decode cX6_object 7 = .ok (.isub, 1) := by decide +kernel
theorem dX6_object_8 : decode cX6_object 8 = .ok (.invokestatic 76, 3) := by decide +kernel
theorem dX6_object_11 : decode cX6_object 11 = .ok (.ifCond .ne 6, 3) := by decide +kernel
theorem dX6_object_14 : decode cX6_object 14 = .ok (.bipush (-2), 2) := by decide +kernel
theorem dX6_object_16 : decode cX6_object 16 = .ok (.ireturn, 1) := by decide +kernel
theorem dX6_object_17 : decode cX6_object 17 = .ok (.aload_n 0, 1) := by decide +kernel
theorem dX6_object_18 : decode cX6_object 18 = .ok (.getfield 88, 3) := by decide +kernel
theorem dX6_object_21 : decode cX6_object 21 = .ok (.bipush 48, 2) := by decide +kernel
theorem dX6_object_23 : decode cX6_object 23 = .ok (.if_icmp .ne 6, 3) := by decide +kernel
theorem dX6_object_26 : decode cX6_object 26 = .ok (.bipush (-3), 2) := by decide +kernel
theorem dX6_object_28 : decode cX6_object 28 = .ok (.ireturn, 1) := by decide +kernel
theorem dX6_object_29 : decode cX6_object 29 = .ok (.aload_n 0, 1) := by decide +kernel
theorem dX6_object_30 : decode cX6_object 30 = .ok (.getfield 22, 3) := by decide +kernel
theorem dX6_object_33 : decode cX6_object 33 = .ok (.aload_n 0, 1) := by decide +kernel
theorem dX6_object_34 : decode cX6_object 34 = .ok (.getfield 88, 3) := by decide +kernel
theorem dX6_object_37 : decode cX6_object 37 = .ok (.iload_n 1, 1) := by decide +kernel
theorem dX6_object_38 : decode cX6_object 38 = .ok (.iastore, 1) := by decide +kernel
theorem dX6_object_39 : decode cX6_object 39 = .ok (.aload_n 0, 1) := by decide +kernel
theorem dX6_object_40 : decode cX6_object 40 = .ok (.dup, 1) := by decide +kernel
theorem dX6_object_41 : decode cX6_object 41 = .ok (.getfield 88, 3) := by decide +kernel
theorem dX6_object_44 : decode cX6_object 44 = .ok (.iconst 1, 1) := by decide +kernel
theorem dX6_object_45 : decode cX6_object 45 = .ok (.iadd, 1) := by decide +kernel
theorem dX6_object_46 : decode cX6_object 46 = .ok (.putfield 88, 3) := by decide +kernel
theorem dX6_object_49 : decode cX6_object 49 = .ok (.aload_n 0, 1) := by decide +kernel
theorem dX6_object_50 : decode cX6_object 50 = .ok (.getfield 88, 3) := by decide +kernel
theorem dX6_object_53 : decode cX6_object 53 = .ok (.iconst 1, 1) := by decide +kernel
theorem dX6_object_54 : decode cX6_object 54 = .ok (.isub, 1) := by decide +kernel
theorem dX6_object_55 : decode cX6_object 55 = .ok (.ireturn, 1) := by decide +kernel
theorem dX6_linkOf_0 : decode cX6_linkOf 0 = .ok (.lload_n 0, 1) := by decide +kernel
theorem dX6_linkOf_1 : decode cX6_linkOf 1 = .ok (.ldc2_w 91, 3) := by decide +kernel
theorem dX6_linkOf_4 : decode cX6_linkOf 4 = .ok (.lmul, 1) := by decide +kernel
theorem dX6_linkOf_5 : decode cX6_linkOf 5 = .ok (.iload_n 2, 1) := by decide +kernel
theorem dX6_linkOf_6 : decode cX6_linkOf 6 = .ok (.i2l, 1) := by decide +kernel
theorem dX6_linkOf_7 : decode cX6_linkOf 7 = .ok (.ladd, 1) := by decide +kernel
theorem dX6_linkOf_8 : decode cX6_linkOf 8 = .ok (.lstore 7, 2) := by decide +kernel
theorem dX6_linkOf_10 : decode cX6_linkOf 10 = .ok (.iconst 0, 1) := by decide +kernel
theorem dX6_linkOf_11 : decode cX6_linkOf 11 = .ok (.istore 9, 2) := by decide +kernel
theorem dX6_linkOf_13 : decode cX6_linkOf 13 = .ok (.iload 9, 2) := by decide +kernel
theorem dX6_linkOf_15 : decode cX6_linkOf 15 = .ok (.iconst 3, 1) := by decide +kernel
theorem dX6_linkOf_16 : decode cX6_linkOf 16 = .ok (.if_icmp .ge 51, 3) := by decide +kernel
theorem dX6_linkOf_19 : decode cX6_linkOf 19 = .ok (.lload 7, 2) := by decide +kernel
theorem dX6_linkOf_21 : decode cX6_linkOf 21 = .ok (.lload 7, 2) := by decide +kernel
theorem dX6_linkOf_23 : decode cX6_linkOf 23 = .ok (.bipush 29, 2) := by decide +kernel
theorem dX6_linkOf_25 : decode cX6_linkOf 25 = .ok (.lushr, 1) := by decide +kernel
theorem dX6_linkOf_26 : decode cX6_linkOf 26 = .ok (.lxor, 1) := by decide +kernel
theorem dX6_linkOf_27 : decode cX6_linkOf 27 = .ok (.lstore 7, 2) := by decide +kernel
theorem dX6_linkOf_29 : decode cX6_linkOf 29 = .ok (.lload 7, 2) := by decide +kernel
theorem dX6_linkOf_31 : decode cX6_linkOf 31 = .ok (.ldc2_w 93, 3) := by decide +kernel
theorem dX6_linkOf_34 : decode cX6_linkOf 34 = .ok (.lmul, 1) := by decide +kernel
theorem dX6_linkOf_35 : decode cX6_linkOf 35 = .ok (.iload 9, 2) := by decide +kernel
theorem dX6_linkOf_37 : decode cX6_linkOf 37 = .ok (.ifCond .ne 7, 3) := by decide +kernel
theorem dX6_linkOf_40 : decode cX6_linkOf 40 = .ok (.iload_n 3, 1) := by decide +kernel
theorem dX6_linkOf_41 : decode cX6_linkOf 41 = .ok (.goto 16, 3) := by decide +kernel
theorem dX6_linkOf_44 : decode cX6_linkOf 44 = .ok (.iload 9, 2) := by decide +kernel
theorem dX6_linkOf_46 : decode cX6_linkOf 46 = .ok (.iconst 1, 1) := by decide +kernel
theorem dX6_linkOf_47 : decode cX6_linkOf 47 = .ok (.if_icmp .ne 8, 3) := by decide +kernel
theorem dX6_linkOf_50 : decode cX6_linkOf 50 = .ok (.iload 4, 2) := by decide +kernel
theorem dX6_linkOf_52 : decode cX6_linkOf 52 = .ok (.goto 5, 3) := by decide +kernel
theorem dX6_linkOf_55 : decode cX6_linkOf 55 = .ok (.iload 5, 2) := by decide +kernel
theorem dX6_linkOf_57 : decode cX6_linkOf 57 = .ok (.i2l, 1) := by decide +kernel
theorem dX6_linkOf_58 : decode cX6_linkOf 58 = .ok (.ladd, 1) := by decide +kernel
theorem dX6_linkOf_59 : decode cX6_linkOf 59 = .ok (.lstore 7, 2) := by decide +kernel
theorem dX6_linkOf_61 : decode cX6_linkOf 61 = .ok (.iinc 9 1, 3) := by decide +kernel
theorem dX6_linkOf_64 : decode cX6_linkOf 64 = .ok (.goto (-51), 3) := by decide +kernel
theorem dX6_linkOf_67 : decode cX6_linkOf 67 = .ok (.lload 7, 2) := by decide +kernel
theorem dX6_linkOf_69 : decode cX6_linkOf 69 = .ok (.lload 7, 2) := by decide +kernel
theorem dX6_linkOf_71 : decode cX6_linkOf 71 = .ok (.bipush 32, 2) := by decide +kernel
theorem dX6_linkOf_73 : decode cX6_linkOf 73 = .ok (.lushr, 1) := by decide +kernel
theorem dX6_linkOf_74 : decode cX6_linkOf 74 = .ok (.lxor, 1) := by decide +kernel
theorem dX6_linkOf_75 : decode cX6_linkOf 75 = .ok (.lstore 7, 2) := by decide +kernel
theorem dX6_linkOf_77 : decode cX6_linkOf 77 = .ok (.lload 7, 2) := by decide +kernel
theorem dX6_linkOf_79 : decode cX6_linkOf 79 = .ok (.ldc2_w 95, 3) := by decide +kernel
theorem dX6_linkOf_82 : decode cX6_linkOf 82 = .ok (.lmul, 1) := by decide +kernel
theorem dX6_linkOf_83 : decode cX6_linkOf 83 = .ok (.iload 6, 2) := by decide +kernel
theorem dX6_linkOf_85 : decode cX6_linkOf 85 = .ok (.i2l, 1) := by decide +kernel
theorem dX6_linkOf_86 : decode cX6_linkOf 86 = .ok (.ladd, 1) := by decide +kernel
theorem dX6_linkOf_87 : decode cX6_linkOf 87 = .ok (.lstore 7, 2) := by decide +kernel
theorem dX6_linkOf_89 : decode cX6_linkOf 89 = .ok (.lload 7, 2) := by decide +kernel
theorem dX6_linkOf_91 : decode cX6_linkOf 91 = .ok (.lload 7, 2) := by decide +kernel
theorem dX6_linkOf_93 : decode cX6_linkOf 93 = .ok (.bipush 31, 2) := by decide +kernel
theorem dX6_linkOf_95 : decode cX6_linkOf 95 = .ok (.lushr, 1) := by decide +kernel
theorem dX6_linkOf_96 : decode cX6_linkOf 96 = .ok (.lxor, 1) := by decide +kernel
theorem dX6_linkOf_97 : decode cX6_linkOf 97 = .ok (.lreturn, 1) := by decide +kernel
theorem dX6_linkAt_0 : decode cX6_linkAt 0 = .ok (.iconst 5, 1) := by decide +kernel
theorem dX6_linkAt_1 : decode cX6_linkAt 1 = .ok (.iload_n 1, 1) := by decide +kernel
theorem dX6_linkAt_2 : decode cX6_linkAt 2 = .ok (.imul, 1) := by decide +kernel
theorem dX6_linkAt_3 : decode cX6_linkAt 3 = .ok (.istore_n 2, 1) := by decide +kernel
theorem dX6_linkAt_4 : decode cX6_linkAt 4 = .ok (.iload_n 1, 1) := by decide +kernel
theorem dX6_linkAt_5 : decode cX6_linkAt 5 = .ok (.ifCond .ne 7, 3) := by decide +kernel
theorem dX6_linkAt_8 : decode cX6_linkAt 8 = .ok (.lconst 1, 1) := by decide +kernel
theorem dX6_linkAt_9 : decode cX6_linkAt 9 = .ok (.goto 11, 3) := by decide +kernel
theorem dX6_linkAt_12 : decode cX6_linkAt 12 = .ok (.aload_n 0, 1) := by decide +kernel
theorem dX6_linkAt_13 : decode cX6_linkAt 13 = .ok (.getfield 65, 3) := by decide +kernel
theorem dX6_linkAt_16 : decode cX6_linkAt 16 = .ok (.iload_n 1, 1) := by decide +kernel
theorem dX6_linkAt_17 : decode cX6_linkAt 17 = .ok (.iconst 1, 1) := by decide +kernel
theorem dX6_linkAt_18 : decode cX6_linkAt 18 = .ok (.isub, 1) := by decide +kernel
theorem dX6_linkAt_19 : decode cX6_linkAt 19 = .ok (.laload, 1) := by decide +kernel
theorem dX6_linkAt_20 : decode cX6_linkAt 20 = .ok (.aload_n 0, 1) := by decide +kernel
theorem dX6_linkAt_21 : decode cX6_linkAt 21 = .ok (.getfield 62, 3) := by decide +kernel
theorem dX6_linkAt_24 : decode cX6_linkAt 24 = .ok (.iload_n 2, 1) := by decide +kernel
theorem dX6_linkAt_25 : decode cX6_linkAt 25 = .ok (.iaload, 1) := by decide +kernel
theorem dX6_linkAt_26 : decode cX6_linkAt 26 = .ok (.aload_n 0, 1) := by decide +kernel
theorem dX6_linkAt_27 : decode cX6_linkAt 27 = .ok (.getfield 62, 3) := by decide +kernel
theorem dX6_linkAt_30 : decode cX6_linkAt 30 = .ok (.iload_n 2, 1) := by decide +kernel
theorem dX6_linkAt_31 : decode cX6_linkAt 31 = .ok (.iconst 1, 1) := by decide +kernel
theorem dX6_linkAt_32 : decode cX6_linkAt 32 = .ok (.iadd, 1) := by decide +kernel
theorem dX6_linkAt_33 : decode cX6_linkAt 33 = .ok (.iaload, 1) := by decide +kernel
theorem dX6_linkAt_34 : decode cX6_linkAt 34 = .ok (.aload_n 0, 1) := by decide +kernel
theorem dX6_linkAt_35 : decode cX6_linkAt 35 = .ok (.getfield 62, 3) := by decide +kernel
theorem dX6_linkAt_38 : decode cX6_linkAt 38 = .ok (.iload_n 2, 1) := by decide +kernel
theorem dX6_linkAt_39 : decode cX6_linkAt 39 = .ok (.iconst 2, 1) := by decide +kernel
theorem dX6_linkAt_40 : decode cX6_linkAt 40 = .ok (.iadd, 1) := by decide +kernel
theorem dX6_linkAt_41 : decode cX6_linkAt 41 = .ok (.iaload, 1) := by decide +kernel
theorem dX6_linkAt_42 : decode cX6_linkAt 42 = .ok (.aload_n 0, 1) := by decide +kernel
theorem dX6_linkAt_43 : decode cX6_linkAt 43 = .ok (.getfield 62, 3) := by decide +kernel
theorem dX6_linkAt_46 : decode cX6_linkAt 46 = .ok (.iload_n 2, 1) := by decide +kernel
theorem dX6_linkAt_47 : decode cX6_linkAt 47 = .ok (.iconst 3, 1) := by decide +kernel
theorem dX6_linkAt_48 : decode cX6_linkAt 48 = .ok (.iadd, 1) := by decide +kernel
theorem dX6_linkAt_49 : decode cX6_linkAt 49 = .ok (.iaload, 1) := by decide +kernel
theorem dX6_linkAt_50 : decode cX6_linkAt 50 = .ok (.aload_n 0, 1) := by decide +kernel
theorem dX6_linkAt_51 : decode cX6_linkAt 51 = .ok (.getfield 62, 3) := by decide +kernel
theorem dX6_linkAt_54 : decode cX6_linkAt 54 = .ok (.iload_n 2, 1) := by decide +kernel
theorem dX6_linkAt_55 : decode cX6_linkAt 55 = .ok (.iconst 4, 1) := by decide +kernel
theorem dX6_linkAt_56 : decode cX6_linkAt 56 = .ok (.iadd, 1) := by decide +kernel
theorem dX6_linkAt_57 : decode cX6_linkAt 57 = .ok (.iaload, 1) := by decide +kernel
theorem dX6_linkAt_58 : decode cX6_linkAt 58 = .ok (.invokestatic 97, 3) := by decide +kernel
theorem dX6_linkAt_61 : decode cX6_linkAt 61 = .ok (.lreturn, 1) := by decide +kernel
theorem dX6_enter_0 : decode cX6_enter 0 = .ok (.iconst 5, 1) := by decide +kernel
theorem dX6_enter_1 : decode cX6_enter 1 = .ok (.aload_n 0, 1) := by decide +kernel
theorem dX6_enter_2 : decode cX6_enter 2 = .ok (.getfield 101, 3) := by decide +kernel
theorem dX6_enter_5 : decode cX6_enter 5 = .ok (.imul, 1) := by decide +kernel
theorem dX6_enter_6 : decode cX6_enter 6 = .ok (.istore 5, 2) := by decide +kernel
theorem dX6_enter_8 : decode cX6_enter 8 = .ok (.aload_n 0, 1) := by decide +kernel
theorem dX6_enter_9 : decode cX6_enter 9 = .ok (.getfield 62, 3) := by decide +kernel
theorem dX6_enter_12 : decode cX6_enter 12 = .ok (.iload 5, 2) := by decide +kernel
theorem dX6_enter_14 : decode cX6_enter 14 = .ok (.iload_n 1, 1) := by decide +kernel
theorem dX6_enter_15 : decode cX6_enter 15 = .ok (.iastore, 1) := by decide +kernel
theorem dX6_enter_16 : decode cX6_enter 16 = .ok (.aload_n 0, 1) := by decide +kernel
theorem dX6_enter_17 : decode cX6_enter 17 = .ok (.getfield 62, 3) := by decide +kernel
theorem dX6_enter_20 : decode cX6_enter 20 = .ok (.iload 5, 2) := by decide +kernel
theorem dX6_enter_22 : decode cX6_enter 22 = .ok (.iconst 1, 1) := by decide +kernel
theorem dX6_enter_23 : decode cX6_enter 23 = .ok (.iadd, 1) := by decide +kernel
theorem dX6_enter_24 : decode cX6_enter 24 = .ok (.iload_n 2, 1) := by decide +kernel
theorem dX6_enter_25 : decode cX6_enter 25 = .ok (.iastore, 1) := by decide +kernel
theorem dX6_enter_26 : decode cX6_enter 26 = .ok (.aload_n 0, 1) := by decide +kernel
theorem dX6_enter_27 : decode cX6_enter 27 = .ok (.getfield 62, 3) := by decide +kernel
theorem dX6_enter_30 : decode cX6_enter 30 = .ok (.iload 5, 2) := by decide +kernel
theorem dX6_enter_32 : decode cX6_enter 32 = .ok (.iconst 2, 1) := by decide +kernel
theorem dX6_enter_33 : decode cX6_enter 33 = .ok (.iadd, 1) := by decide +kernel
theorem dX6_enter_34 : decode cX6_enter 34 = .ok (.iload_n 3, 1) := by decide +kernel
theorem dX6_enter_35 : decode cX6_enter 35 = .ok (.iastore, 1) := by decide +kernel
theorem dX6_enter_36 : decode cX6_enter 36 = .ok (.aload_n 0, 1) := by decide +kernel
theorem dX6_enter_37 : decode cX6_enter 37 = .ok (.getfield 62, 3) := by decide +kernel
theorem dX6_enter_40 : decode cX6_enter 40 = .ok (.iload 5, 2) := by decide +kernel
theorem dX6_enter_42 : decode cX6_enter 42 = .ok (.iconst 3, 1) := by decide +kernel
theorem dX6_enter_43 : decode cX6_enter 43 = .ok (.iadd, 1) := by decide +kernel
theorem dX6_enter_44 : decode cX6_enter 44 = .ok (.iload 4, 2) := by decide +kernel
theorem dX6_enter_46 : decode cX6_enter 46 = .ok (.iastore, 1) := by decide +kernel
theorem dX6_enter_47 : decode cX6_enter 47 = .ok (.aload_n 0, 1) := by decide +kernel
theorem dX6_enter_48 : decode cX6_enter 48 = .ok (.getfield 62, 3) := by decide +kernel
theorem dX6_enter_51 : decode cX6_enter 51 = .ok (.iload 5, 2) := by decide +kernel
theorem dX6_enter_53 : decode cX6_enter 53 = .ok (.iconst 4, 1) := by decide +kernel
theorem dX6_enter_54 : decode cX6_enter 54 = .ok (.iadd, 1) := by decide +kernel
theorem dX6_enter_55 : decode cX6_enter 55 = .ok (.aload_n 0, 1) := by decide +kernel
theorem dX6_enter_56 : decode cX6_enter 56 = .ok (.getfield 72, 3) := by decide +kernel
theorem dX6_enter_59 : decode cX6_enter 59 = .ok (.iastore, 1) := by decide +kernel
theorem dX6_enter_60 : decode cX6_enter 60 = .ok (.aload_n 0, 1) := by decide +kernel
theorem dX6_enter_61 : decode cX6_enter 61 = .ok (.getfield 65, 3) := by decide +kernel
theorem dX6_enter_64 : decode cX6_enter 64 = .ok (.aload_n 0, 1) := by decide +kernel
theorem dX6_enter_65 : decode cX6_enter 65 = .ok (.getfield 101, 3) := by decide +kernel
theorem dX6_enter_68 : decode cX6_enter 68 = .ok (.aload_n 0, 1) := by decide +kernel
theorem dX6_enter_69 : decode cX6_enter 69 = .ok (.aload_n 0, 1) := by decide +kernel
theorem dX6_enter_70 : decode cX6_enter 70 = .ok (.getfield 101, 3) := by decide +kernel
theorem dX6_enter_73 : decode cX6_enter 73 = .ok (.invokevirtual 104, 3) := by decide +kernel
theorem dX6_enter_76 : decode cX6_enter 76 = .ok (.lastore, 1) := by decide +kernel
theorem dX6_enter_77 : decode cX6_enter 77 = .ok (.aload_n 0, 1) := by decide +kernel
theorem dX6_enter_78 : decode cX6_enter 78 = .ok (.dup, 1) := by decide +kernel
theorem dX6_enter_79 : decode cX6_enter 79 = .ok (.getfield 101, 3) := by decide +kernel
theorem dX6_enter_82 : decode cX6_enter 82 = .ok (.iconst 1, 1) := by decide +kernel
theorem dX6_enter_83 : decode cX6_enter 83 = .ok (.iadd, 1) := by decide +kernel
theorem dX6_enter_84 : decode cX6_enter 84 = .ok (.putfield 101, 3) := by decide +kernel
theorem dX6_enter_87 : decode cX6_enter 87 = .ok (.return_, 1) := by decide +kernel
theorem dX6_isOpen_0 : decode cX6_isOpen 0 = .ok (.aload_n 0, 1) := by decide +kernel
theorem dX6_isOpen_1 : decode cX6_isOpen 1 = .ok (.getfield 19, 3) := by decide +kernel
theorem dX6_isOpen_4 : decode cX6_isOpen 4 = .ok (.iload_n 1, 1) := by decide +kernel
theorem dX6_isOpen_5 : decode cX6_isOpen 5 = .ok (.iaload, 1) := by decide +kernel
theorem dX6_isOpen_6 : decode cX6_isOpen 6 = .ok (.ifCond .ge 7, 3) := by decide +kernel
theorem dX6_isOpen_9 : decode cX6_isOpen 9 = .ok (.iconst 1, 1) := by decide +kernel
theorem dX6_isOpen_10 : decode cX6_isOpen 10 = .ok (.goto 4, 3) := by decide +kernel
theorem dX6_isOpen_13 : decode cX6_isOpen 13 = .ok (.iconst 0, 1) := by decide +kernel
theorem dX6_isOpen_14 : decode cX6_isOpen 14 = .ok (.ireturn, 1) := by decide +kernel
theorem dX6_isWalled_0 : decode cX6_isWalled 0 = .ok (.aload_n 0, 1) := by decide +kernel
theorem dX6_isWalled_1 : decode cX6_isWalled 1 = .ok (.iload_n 2, 1) := by decide +kernel
theorem dX6_isWalled_2 : decode cX6_isWalled 2 = .ok (.invokevirtual 108, 3) := by decide +kernel
theorem dX6_isWalled_5 : decode cX6_isWalled 5 = .ok (.ifCond .ne 17, 3) := by decide +kernel
theorem dX6_isWalled_8 : decode cX6_isWalled 8 = .ok (.aload_n 0, 1) := by decide +kernel
theorem dX6_isWalled_9 : decode cX6_isWalled 9 = .ok (.getfield 13, 3) := by decide +kernel
theorem dX6_isWalled_12 : decode cX6_isWalled 12 = .ok (.iload_n 1, 1) := by decide +kernel
theorem dX6_isWalled_13 : decode cX6_isWalled 13 = .ok (.iaload, 1) := by decide +kernel
theorem dX6_isWalled_14 : decode cX6_isWalled 14 = .ok (.iload_n 2, 1) := by decide +kernel
theorem dX6_isWalled_15 : decode cX6_isWalled 15 = .ok (.ishr, 1) := by decide +kernel
theorem dX6_isWalled_16 : decode cX6_isWalled 16 = .ok (.iconst 1, 1) := by decide +kernel
theorem dX6_isWalled_17 : decode cX6_isWalled 17 = .ok (.iand, 1) := by decide +kernel
theorem dX6_isWalled_18 : decode cX6_isWalled 18 = .ok (.iconst 1, 1) := by decide +kernel
theorem dX6_isWalled_19 : decode cX6_isWalled 19 = .ok (.if_icmp .ne 5, 3) := by decide +kernel
theorem dX6_isWalled_22 : decode cX6_isWalled 22 = .ok (.iconst 0, 1) := by decide +kernel
theorem dX6_isWalled_23 : decode cX6_isWalled 23 = .ok (.ireturn, 1) := by decide +kernel
theorem dX6_isWalled_24 : decode cX6_isWalled 24 = .ok (.iconst 0, 1) := by decide +kernel
theorem dX6_isWalled_25 : decode cX6_isWalled 25 = .ok (.istore_n 3, 1) := by decide +kernel
theorem dX6_isWalled_26 : decode cX6_isWalled 26 = .ok (.iload_n 3, 1) := by decide +kernel
theorem dX6_isWalled_27 : decode cX6_isWalled 27 = .ok (.aload_n 0, 1) := by decide +kernel
theorem dX6_isWalled_28 : decode cX6_isWalled 28 = .ok (.getfield 85, 3) := by decide +kernel
theorem dX6_isWalled_31 : decode cX6_isWalled 31 = .ok (.if_icmp .ge 40, 3) := by decide +kernel
theorem dX6_isWalled_34 : decode cX6_isWalled 34 = .ok (.aload_n 0, 1) := by decide +kernel
theorem dX6_isWalled_35 : decode cX6_isWalled 35 = .ok (.getfield 13, 3) := by decide +kernel
theorem dX6_isWalled_38 : decode cX6_isWalled 38 = .ok (.iload_n 1, 1) := by decide +kernel
theorem dX6_isWalled_39 : decode cX6_isWalled 39 = .ok (.iaload, 1) := by decide +kernel
theorem dX6_isWalled_40 : decode cX6_isWalled 40 = .ok (.iload_n 3, 1) := by decide +kernel
theorem dX6_isWalled_41 : decode cX6_isWalled 41 = .ok (.ishr, 1) := by decide +kernel
theorem dX6_isWalled_42 : decode cX6_isWalled 42 = .ok (.iconst 1, 1) := by decide +kernel
theorem dX6_isWalled_43 : decode cX6_isWalled 43 = .ok (.iand, 1) := by decide +kernel
theorem dX6_isWalled_44 : decode cX6_isWalled 44 = .ok (.iconst 1, 1) := by decide +kernel
theorem dX6_isWalled_45 : decode cX6_isWalled 45 = .ok (.if_icmp .ne 20, 3) := by decide +kernel
theorem dX6_isWalled_48 : decode cX6_isWalled 48 = .ok (.aload_n 0, 1) := by decide +kernel
theorem dX6_isWalled_49 : decode cX6_isWalled 49 = .ok (.getfield 19, 3) := by decide +kernel
theorem dX6_isWalled_52 : decode cX6_isWalled 52 = .ok (.iload_n 3, 1) := by decide +kernel
theorem dX6_isWalled_53 : decode cX6_isWalled 53 = .ok (.iaload, 1) := by decide +kernel
theorem dX6_isWalled_54 : decode cX6_isWalled 54 = .ok (.aload_n 0, 1) := by decide +kernel
theorem dX6_isWalled_55 : decode cX6_isWalled 55 = .ok (.getfield 19, 3) := by decide +kernel
theorem dX6_isWalled_58 : decode cX6_isWalled 58 = .ok (.iload_n 2, 1) := by decide +kernel
theorem dX6_isWalled_59 : decode cX6_isWalled 59 = .ok (.iaload, 1) := by decide +kernel
theorem dX6_isWalled_60 : decode cX6_isWalled 60 = .ok (.if_icmp .ne 5, 3) := by decide +kernel
theorem dX6_isWalled_63 : decode cX6_isWalled 63 = .ok (.iconst 1, 1) := by decide +kernel
theorem dX6_isWalled_64 : decode cX6_isWalled 64 = .ok (.ireturn, 1) := by decide +kernel
theorem dX6_isWalled_65 : decode cX6_isWalled 65 = .ok (.iinc 3 1, 3) := by decide +kernel
theorem dX6_isWalled_68 : decode cX6_isWalled 68 = .ok (.goto (-42), 3) := by decide +kernel
theorem dX6_isWalled_71 : decode cX6_isWalled 71 = .ok (.iconst 0, 1) := by decide +kernel
theorem dX6_isWalled_72 : decode cX6_isWalled 72 = .ok (.ireturn, 1) := by decide +kernel
theorem dX6_hasGlass_0 : decode cX6_hasGlass 0 = .ok (.iconst 0, 1) := by decide +kernel
theorem dX6_hasGlass_1 : decode cX6_hasGlass 1 = .ok (.istore_n 3, 1) := by decide +kernel
theorem dX6_hasGlass_2 : decode cX6_hasGlass 2 = .ok (.iload_n 3, 1) := by decide +kernel
theorem dX6_hasGlass_3 : decode cX6_hasGlass 3 = .ok (.aload_n 0, 1) := by decide +kernel
theorem dX6_hasGlass_4 : decode cX6_hasGlass 4 = .ok (.getfield 111, 3) := by decide +kernel
theorem dX6_hasGlass_7 : decode cX6_hasGlass 7 = .ok (.if_icmp .ge 44, 3) := by decide +kernel
theorem dX6_hasGlass_10 : decode cX6_hasGlass 10 = .ok (.aload_n 0, 1) := by decide +kernel
theorem dX6_hasGlass_11 : decode cX6_hasGlass 11 = .ok (.getfield 25, 3) := by decide +kernel
theorem dX6_hasGlass_14 : decode cX6_hasGlass 14 = .ok (.iload_n 3, 1) := by decide +kernel
theorem dX6_hasGlass_15 : decode cX6_hasGlass 15 = .ok (.iaload, 1) := by decide +kernel
theorem dX6_hasGlass_16 : decode cX6_hasGlass 16 = .ok (.iload_n 1, 1) := by decide +kernel
theorem dX6_hasGlass_17 : decode cX6_hasGlass 17 = .ok (.if_icmp .ne 28, 3) := by decide +kernel
theorem dX6_hasGlass_20 : decode cX6_hasGlass 20 = .ok (.aload_n 0, 1) := by decide +kernel
theorem dX6_hasGlass_21 : decode cX6_hasGlass 21 = .ok (.getfield 28, 3) := by decide +kernel
theorem dX6_hasGlass_24 : decode cX6_hasGlass 24 = .ok (.iload_n 3, 1) := by decide +kernel
theorem dX6_hasGlass_25 : decode cX6_hasGlass 25 = .ok (.iaload, 1) := by decide +kernel
theorem dX6_hasGlass_26 : decode cX6_hasGlass 26 = .ok (.iload_n 2, 1) := by decide +kernel
theorem dX6_hasGlass_27 : decode cX6_hasGlass 27 = .ok (.if_icmp .ne 18, 3) := by decide +kernel
theorem dX6_hasGlass_30 : decode cX6_hasGlass 30 = .ok (.aload_n 0, 1) := by decide +kernel
theorem dX6_hasGlass_31 : decode cX6_hasGlass 31 = .ok (.getfield 72, 3) := by decide +kernel
theorem dX6_hasGlass_34 : decode cX6_hasGlass 34 = .ok (.aload_n 0, 1) := by decide +kernel
theorem dX6_hasGlass_35 : decode cX6_hasGlass 35 = .ok (.getfield 31, 3) := by decide +kernel
theorem dX6_hasGlass_38 : decode cX6_hasGlass 38 = .ok (.iload_n 3, 1) := by decide +kernel
theorem dX6_hasGlass_39 : decode cX6_hasGlass 39 = .ok (.iaload, 1) := by decide +kernel
theorem dX6_hasGlass_40 : decode cX6_hasGlass 40 = .ok (.if_icmp .ge 5, 3) := by decide +kernel
theorem dX6_hasGlass_43 : decode cX6_hasGlass 43 = .ok (.iconst 1, 1) := by decide +kernel
theorem dX6_hasGlass_44 : decode cX6_hasGlass 44 = .ok (.ireturn, 1) := by decide +kernel
theorem dX6_hasGlass_45 : decode cX6_hasGlass 45 = .ok (.iinc 3 1, 3) := by decide +kernel
theorem dX6_hasGlass_48 : decode cX6_hasGlass 48 = .ok (.goto (-46), 3) := by decide +kernel
theorem dX6_hasGlass_51 : decode cX6_hasGlass 51 = .ok (.iconst 0, 1) := by decide +kernel
theorem dX6_hasGlass_52 : decode cX6_hasGlass 52 = .ok (.ireturn, 1) := by decide +kernel
theorem dX6_read_0 : decode cX6_read 0 = .ok (.aload_n 0, 1) := by decide +kernel
theorem dX6_read_1 : decode cX6_read 1 = .ok (.iload_n 1, 1) := by decide +kernel
theorem dX6_read_2 : decode cX6_read 2 = .ok (.iload_n 2, 1) := by decide +kernel
theorem dX6_read_3 : decode cX6_read 3 = .ok (.iconst 1, 1) := by decide +kernel
theorem dX6_read_4 : decode cX6_read 4 = .ok (.invokevirtual 114, 3) := by decide +kernel
theorem dX6_read_7 : decode cX6_read 7 = .ok (.ireturn, 1) := by decide +kernel
theorem dX6_write_0 : decode cX6_write 0 = .ok (.aload_n 0, 1) := by decide +kernel
theorem dX6_write_1 : decode cX6_write 1 = .ok (.iload_n 1, 1) := by decide +kernel
theorem dX6_write_2 : decode cX6_write 2 = .ok (.iload_n 2, 1) := by decide +kernel
theorem dX6_write_3 : decode cX6_write 3 = .ok (.iconst 2, 1) := by decide +kernel
theorem dX6_write_4 : decode cX6_write 4 = .ok (.invokevirtual 114, 3) := by decide +kernel
theorem dX6_write_7 : decode cX6_write 7 = .ok (.ireturn, 1) := by decide +kernel
theorem dX6_access_0 : decode cX6_access 0 = .ok (.iload_n 1, 1) := by decide +kernel
theorem dX6_access_1 : decode cX6_access 1 = .ok (.invokestatic 81, 3) := by decide +kernel
theorem dX6_access_4 : decode cX6_access 4 = .ok (.ifCond .eq 17, 3) := by decide +kernel
theorem dX6_access_7 : decode cX6_access 7 = .ok (.iload_n 2, 1) := by decide +kernel
theorem dX6_access_8 : decode cX6_access 8 = .ok (.iconst 0, 1) := by decide +kernel
theorem dX6_access_9 : decode cX6_access 9 = .ok (.aload_n 0, 1) := by decide +kernel
theorem dX6_access_10 : decode cX6_access 10 = .ok (.getfield 88, 3) := by decide +kernel
theorem dX6_access_13 : decode cX6_access 13 = .ok (.iconst 1, 1) := by decide +kernel
theorem dX6_access_14 : decode cX6_access 14 = .ok (.isub, 1) := by decide +kernel
theorem dX6_access_15 : decode cX6_access 15 = .ok (.invokestatic 76, 3) := by decide +kernel
theorem dX6_access_18 : decode cX6_access 18 = .ok (.ifCond .ne 6, 3) := by decide +kernel
theorem dX6_access_21 : decode cX6_access 21 = .ok (.bipush (-2), 2) := by decide +kernel
theorem dX6_access_23 : decode cX6_access 23 = .ok (.ireturn, 1) := by decide +kernel
theorem dX6_access_24 : decode cX6_access 24 = .ok (.aload_n 0, 1) := by decide +kernel
theorem dX6_access_25 : decode cX6_access 25 = .ok (.getfield 22, 3) := by decide +kernel
theorem dX6_access_28 : decode cX6_access 28 = .ok (.iload_n 2, 1) := by decide +kernel
theorem dX6_access_29 : decode cX6_access 29 = .ok (.iaload, 1) := by decide +kernel
theorem dX6_access_30 : decode cX6_access 30 = .ok (.istore 4, 2) := by decide +kernel
theorem dX6_access_32 : decode cX6_access 32 = .ok (.aload_n 0, 1) := by decide +kernel
theorem dX6_access_33 : decode cX6_access 33 = .ok (.iload_n 1, 1) := by decide +kernel
theorem dX6_access_34 : decode cX6_access 34 = .ok (.iload 4, 2) := by decide +kernel
theorem dX6_access_36 : decode cX6_access 36 = .ok (.invokevirtual 118, 3) := by decide +kernel
theorem dX6_access_39 : decode cX6_access 39 = .ok (.ifCond .eq 8, 3) := by decide +kernel
theorem dX6_access_42 : decode cX6_access 42 = .ok (.bipush (-11), 2) := by decide +kernel
theorem dX6_access_44 : decode cX6_access 44 = .ok (.goto 4, 3) := by decide +kernel
theorem dX6_access_47 : decode cX6_access 47 = .ok (.iconst 0, 1) := by decide +kernel
theorem dX6_access_48 : decode cX6_access 48 = .ok (.istore 5, 2) := by decide +kernel
theorem dX6_access_50 : decode cX6_access 50 = .ok (.aload_n 0, 1) := by decide +kernel
theorem dX6_access_51 : decode cX6_access 51 = .ok (.getfield 13, 3) := by decide +kernel
theorem dX6_access_54 : decode cX6_access 54 = .ok (.iload_n 1, 1) := by decide +kernel
theorem dX6_access_55 : decode cX6_access 55 = .ok (.iaload, 1) := by decide +kernel
theorem dX6_access_56 : decode cX6_access 56 = .ok (.aload_n 0, 1) := by decide +kernel
theorem dX6_access_57 : decode cX6_access 57 = .ok (.getfield 16, 3) := by decide +kernel
theorem dX6_access_60 : decode cX6_access 60 = .ok (.iload_n 1, 1) := by decide +kernel
theorem dX6_access_61 : decode cX6_access 61 = .ok (.iaload, 1) := by decide +kernel
theorem dX6_access_62 : decode cX6_access 62 = .ok (.ior, 1) := by decide +kernel
theorem dX6_access_63 : decode cX6_access 63 = .ok (.istore 6, 2) := by decide +kernel
theorem dX6_access_65 : decode cX6_access 65 = .ok (.aload_n 0, 1) := by decide +kernel
theorem dX6_access_66 : decode cX6_access 66 = .ok (.iload 4, 2) := by decide +kernel
theorem dX6_access_68 : decode cX6_access 68 = .ok (.invokevirtual 108, 3) := by decide +kernel
theorem dX6_access_71 : decode cX6_access 71 = .ok (.ifCond .eq 16, 3) := by decide +kernel
theorem dX6_access_74 : decode cX6_access 74 = .ok (.iload 6, 2) := by decide +kernel
theorem dX6_access_76 : decode cX6_access 76 = .ok (.ifCond .eq 7, 3) := by decide +kernel
theorem dX6_access_79 : decode cX6_access 79 = .ok (.iconst 1, 1) := by decide +kernel
theorem dX6_access_80 : decode cX6_access 80 = .ok (.goto 24, 3) := by decide +kernel
theorem dX6_access_83 : decode cX6_access 83 = .ok (.iconst 0, 1) := by decide +kernel
theorem dX6_access_84 : decode cX6_access 84 = .ok (.goto 20, 3) := by decide +kernel
theorem dX6_access_87 : decode cX6_access 87 = .ok (.iload 6, 2) := by decide +kernel
theorem dX6_access_89 : decode cX6_access 89 = .ok (.iconst 1, 1) := by decide +kernel
theorem dX6_access_90 : decode cX6_access 90 = .ok (.iload 4, 2) := by decide +kernel
theorem dX6_access_92 : decode cX6_access 92 = .ok (.ishl, 1) := by decide +kernel
theorem dX6_access_93 : decode cX6_access 93 = .ok (.iconst (-1), 1) := by decide +kernel
theorem dX6_access_94 : decode cX6_access 94 = .ok (.ixor, 1) := by decide +kernel
theorem dX6_access_95 : decode cX6_access 95 = .ok (.iand, 1) := by decide +kernel
theorem dX6_access_96 : decode cX6_access 96 = .ok (.ifCond .eq 7, 3) := by decide +kernel
theorem dX6_access_99 : decode cX6_access 99 = .ok (.iconst 1, 1) := by decide +kernel
theorem dX6_access_100 : decode cX6_access 100 = .ok (.goto 4, 3) := by decide +kernel
theorem dX6_access_103 : decode cX6_access 103 = .ok (.iconst 0, 1) := by decide +kernel
theorem dX6_access_104 : decode cX6_access 104 = .ok (.istore 7, 2) := by decide +kernel
theorem dX6_access_106 : decode cX6_access 106 = .ok (.iload 5, 2) := by decide +kernel
theorem dX6_access_108 : decode cX6_access 108 = .ok (.ifCond .ne 17, 3) := by decide +kernel
theorem dX6_access_111 : decode cX6_access 111 = .ok (.iload_n 3, 1) := by decide +kernel
theorem dX6_access_112 : decode cX6_access 112 = .ok (.iconst 2, 1) := by decide +kernel
theorem dX6_access_113 : decode cX6_access 113 = .ok (.if_icmp .ne 12, 3) := by decide +kernel
theorem dX6_access_116 : decode cX6_access 116 = .ok (.iload 7, 2) := by decide +kernel
theorem dX6_access_118 : decode cX6_access 118 = .ok (.ifCond .eq 7, 3) := by decide +kernel
theorem dX6_access_121 : decode cX6_access 121 = .ok (.bipush (-12), 2) := by decide +kernel
theorem dX6_access_123 : decode cX6_access 123 = .ok (.istore 5, 2) := by decide +kernel
theorem dX6_access_125 : decode cX6_access 125 = .ok (.iload 5, 2) := by decide +kernel
theorem dX6_access_127 : decode cX6_access 127 = .ok (.ifCond .eq 17, 3) := by decide +kernel
theorem dX6_access_130 : decode cX6_access 130 = .ok (.aload_n 0, 1) := by decide +kernel
theorem dX6_access_131 : decode cX6_access 131 = .ok (.iload_n 1, 1) := by decide +kernel
theorem dX6_access_132 : decode cX6_access 132 = .ok (.iload 4, 2) := by decide +kernel
theorem dX6_access_134 : decode cX6_access 134 = .ok (.invokevirtual 122, 3) := by decide +kernel
theorem dX6_access_137 : decode cX6_access 137 = .ok (.ifCond .eq 7, 3) := by decide +kernel
theorem dX6_access_140 : decode cX6_access 140 = .ok (.iconst 1, 1) := by decide +kernel
theorem dX6_access_141 : decode cX6_access 141 = .ok (.goto 4, 3) := by decide +kernel
theorem dX6_access_144 : decode cX6_access 144 = .ok (.iconst 0, 1) := by decide +kernel
theorem dX6_access_145 : decode cX6_access 145 = .ok (.istore 8, 2) := by decide +kernel
theorem dX6_access_147 : decode cX6_access 147 = .ok (.iload 5, 2) := by decide +kernel
theorem dX6_access_149 : decode cX6_access 149 = .ok (.ifCond .eq 11, 3) := by decide +kernel
theorem dX6_access_152 : decode cX6_access 152 = .ok (.iload 8, 2) := by decide +kernel
theorem dX6_access_154 : decode cX6_access 154 = .ok (.ifCond .ne 6, 3) := by decide +kernel
theorem dX6_access_157 : decode cX6_access 157 = .ok (.iload 5, 2) := by decide +kernel
theorem dX6_access_159 : decode cX6_access 159 = .ok (.ireturn, 1) := by decide +kernel
theorem dX6_access_160 : decode cX6_access 160 = .ok (.aload_n 0, 1) := by decide +kernel
theorem dX6_access_161 : decode cX6_access 161 = .ok (.getfield 101, 3) := by decide +kernel
theorem dX6_access_164 : decode cX6_access 164 = .ok (.sipush 240, 3) := by decide +kernel
theorem dX6_access_167 : decode cX6_access 167 = .ok (.if_icmp .ne 6, 3) := by decide +kernel
theorem dX6_access_170 : decode cX6_access 170 = .ok (.bipush (-3), 2) := by decide +kernel
theorem dX6_access_172 : decode cX6_access 172 = .ok (.ireturn, 1) := by decide +kernel
theorem dX6_access_173 : decode cX6_access 173 = .ok (.iload 8, 2) := by decide +kernel
theorem dX6_access_175 : decode cX6_access 175 = .ok (.ifCond .eq 19, 3) := by decide +kernel
theorem dX6_access_178 : decode cX6_access 178 = .ok (.aload_n 0, 1) := by decide +kernel
theorem dX6_access_179 : decode cX6_access 179 = .ok (.getfield 16, 3) := by decide +kernel
theorem dX6_access_182 : decode cX6_access 182 = .ok (.iload_n 1, 1) := by decide +kernel
theorem dX6_access_183 : decode cX6_access 183 = .ok (.dup2, 1) := by decide +kernel
theorem dX6_access_184 : decode cX6_access 184 = .ok (.iaload, 1) := by decide +kernel
theorem dX6_access_185 : decode cX6_access 185 = .ok (.iconst 1, 1) := by decide +kernel
theorem dX6_access_186 : decode cX6_access 186 = .ok (.iload 4, 2) := by decide +kernel
theorem dX6_access_188 : decode cX6_access 188 = .ok (.ishl, 1) := by decide +kernel
theorem dX6_access_189 : decode cX6_access 189 = .ok (.ior, 1) := by decide +kernel
theorem dX6_access_190 : decode cX6_access 190 = .ok (.iastore, 1) := by decide +kernel
theorem dX6_access_191 : decode cX6_access 191 = .ok (.goto 25, 3) := by decide +kernel
theorem dX6_access_194 : decode cX6_access 194 = .ok (.aload_n 0, 1) := by decide +kernel
theorem dX6_access_195 : decode cX6_access 195 = .ok (.iload 4, 2) := by decide +kernel
theorem dX6_access_197 : decode cX6_access 197 = .ok (.invokevirtual 108, 3) := by decide +kernel
theorem dX6_access_200 : decode cX6_access 200 = .ok (.ifCond .ne 16, 3) := by decide +kernel
theorem dX6_access_203 : decode cX6_access 203 = .ok (.aload_n 0, 1) := by decide +kernel
theorem dX6_access_204 : decode cX6_access 204 = .ok (.getfield 13, 3) := by decide +kernel
theorem dX6_access_207 : decode cX6_access 207 = .ok (.iload_n 1, 1) := by decide +kernel
theorem dX6_access_208 : decode cX6_access 208 = .ok (.dup2, 1) := by decide +kernel
theorem dX6_access_209 : decode cX6_access 209 = .ok (.iaload, 1) := by decide +kernel
theorem dX6_access_210 : decode cX6_access 210 = .ok (.iconst 1, 1) := by decide +kernel
theorem dX6_access_211 : decode cX6_access 211 = .ok (.iload 4, 2) := by decide +kernel
theorem dX6_access_213 : decode cX6_access 213 = .ok (.ishl, 1) := by decide +kernel
theorem dX6_access_214 : decode cX6_access 214 = .ok (.ior, 1) := by decide +kernel
theorem dX6_access_215 : decode cX6_access 215 = .ok (.iastore, 1) := by decide +kernel
theorem dX6_access_216 : decode cX6_access 216 = .ok (.aload_n 0, 1) := by decide +kernel
theorem dX6_access_217 : decode cX6_access 217 = .ok (.iload_n 3, 1) := by decide +kernel
theorem dX6_access_218 : decode cX6_access 218 = .ok (.iload_n 1, 1) := by decide +kernel
theorem dX6_access_219 : decode cX6_access 219 = .ok (.iload_n 2, 1) := by decide +kernel
theorem dX6_access_220 : decode cX6_access 220 = .ok (.iload 8, 2) := by decide +kernel
theorem dX6_access_222 : decode cX6_access 222 = .ok (.ifCond .eq 7, 3) := by decide +kernel
theorem dX6_access_225 : decode cX6_access 225 = .ok (.iconst 1, 1) := by decide +kernel
theorem dX6_access_226 : decode cX6_access 226 = .ok (.goto 4, 3) := by decide +kernel
theorem dX6_access_229 : decode cX6_access 229 = .ok (.iconst 0, 1) := by decide +kernel
theorem dX6_access_230 : decode cX6_access 230 = .ok (.invokevirtual 125, 3) := by decide +kernel
theorem dX6_access_233 : decode cX6_access 233 = .ok (.iload 8, 2) := by decide +kernel
theorem dX6_access_235 : decode cX6_access 235 = .ok (.ifCond .eq 7, 3) := by decide +kernel
theorem dX6_access_238 : decode cX6_access 238 = .ok (.iconst 1, 1) := by decide +kernel
theorem dX6_access_239 : decode cX6_access 239 = .ok (.goto 4, 3) := by decide +kernel
theorem dX6_access_242 : decode cX6_access 242 = .ok (.iconst 0, 1) := by decide +kernel
theorem dX6_access_243 : decode cX6_access 243 = .ok (.ireturn, 1) := by decide +kernel
theorem dX6_duties_0 : decode cX6_duties 0 = .ok (.iconst 0, 1) := by decide +kernel
theorem dX6_duties_1 : decode cX6_duties 1 = .ok (.istore_n 2, 1) := by decide +kernel
theorem dX6_duties_2 : decode cX6_duties 2 = .ok (.iconst 0, 1) := by decide +kernel
theorem dX6_duties_3 : decode cX6_duties 3 = .ok (.istore_n 3, 1) := by decide +kernel
theorem dX6_duties_4 : decode cX6_duties 4 = .ok (.iload_n 3, 1) := by decide +kernel
theorem dX6_duties_5 : decode cX6_duties 5 = .ok (.aload_n 0, 1) := by decide +kernel
theorem dX6_duties_6 : decode cX6_duties 6 = .ok (.getfield 111, 3) := by decide +kernel
theorem dX6_duties_9 : decode cX6_duties 9 = .ok (.if_icmp .ge 36, 3) := by decide +kernel
theorem dX6_duties_12 : decode cX6_duties 12 = .ok (.aload_n 0, 1) := by decide +kernel
theorem dX6_duties_13 : decode cX6_duties 13 = .ok (.getfield 25, 3) := by decide +kernel
theorem dX6_duties_16 : decode cX6_duties 16 = .ok (.iload_n 3, 1) := by decide +kernel
theorem dX6_duties_17 : decode cX6_duties 17 = .ok (.iaload, 1) := by decide +kernel
theorem dX6_duties_18 : decode cX6_duties 18 = .ok (.iload_n 1, 1) := by decide +kernel
theorem dX6_duties_19 : decode cX6_duties 19 = .ok (.if_icmp .ne 18, 3) := by decide +kernel
theorem dX6_duties_22 : decode cX6_duties 22 = .ok (.aload_n 0, 1) := by decide +kernel
theorem dX6_duties_23 : decode cX6_duties 23 = .ok (.getfield 34, 3) := by decide +kernel
theorem dX6_duties_26 : decode cX6_duties 26 = .ok (.iload_n 3, 1) := by decide +kernel
theorem dX6_duties_27 : decode cX6_duties 27 = .ok (.baload, 1) := by decide +kernel
theorem dX6_duties_28 : decode cX6_duties 28 = .ok (.ifCond .eq 9, 3) := by decide +kernel
theorem dX6_duties_31 : decode cX6_duties 31 = .ok (.iload_n 2, 1) := by decide +kernel
theorem dX6_duties_32 : decode cX6_duties 32 = .ok (.iconst 1, 1) := by decide +kernel
theorem dX6_duties_33 : decode cX6_duties 33 = .ok (.iadd, 1) := by decide +kernel
theorem dX6_duties_34 : decode cX6_duties 34 = .ok (.goto 4, 3) := by decide +kernel
theorem dX6_duties_37 : decode cX6_duties 37 = .ok (.iload_n 2, 1) := by decide +kernel
theorem dX6_duties_38 : decode cX6_duties 38 = .ok (.istore_n 2, 1) := by decide +kernel
theorem dX6_duties_39 : decode cX6_duties 39 = .ok (.iinc 3 1, 3) := by decide +kernel
theorem dX6_duties_42 : decode cX6_duties 42 = .ok (.goto (-38), 3) := by decide +kernel
theorem dX6_duties_45 : decode cX6_duties 45 = .ok (.iload_n 2, 1) := by decide +kernel
theorem dX6_duties_46 : decode cX6_duties 46 = .ok (.ireturn, 1) := by decide +kernel
theorem dX6_isLate_0 : decode cX6_isLate 0 = .ok (.iconst 0, 1) := by decide +kernel
theorem dX6_isLate_1 : decode cX6_isLate 1 = .ok (.istore_n 2, 1) := by decide +kernel
theorem dX6_isLate_2 : decode cX6_isLate 2 = .ok (.iload_n 2, 1) := by decide +kernel
theorem dX6_isLate_3 : decode cX6_isLate 3 = .ok (.aload_n 0, 1) := by decide +kernel
theorem dX6_isLate_4 : decode cX6_isLate 4 = .ok (.getfield 111, 3) := by decide +kernel
theorem dX6_isLate_7 : decode cX6_isLate 7 = .ok (.if_icmp .ge 46, 3) := by decide +kernel
theorem dX6_isLate_10 : decode cX6_isLate 10 = .ok (.aload_n 0, 1) := by decide +kernel
theorem dX6_isLate_11 : decode cX6_isLate 11 = .ok (.getfield 25, 3) := by decide +kernel
theorem dX6_isLate_14 : decode cX6_isLate 14 = .ok (.iload_n 2, 1) := by decide +kernel
theorem dX6_isLate_15 : decode cX6_isLate 15 = .ok (.iaload, 1) := by decide +kernel
theorem dX6_isLate_16 : decode cX6_isLate 16 = .ok (.iload_n 1, 1) := by decide +kernel
theorem dX6_isLate_17 : decode cX6_isLate 17 = .ok (.if_icmp .ne 30, 3) := by decide +kernel
theorem dX6_isLate_20 : decode cX6_isLate 20 = .ok (.aload_n 0, 1) := by decide +kernel
theorem dX6_isLate_21 : decode cX6_isLate 21 = .ok (.getfield 34, 3) := by decide +kernel
theorem dX6_isLate_24 : decode cX6_isLate 24 = .ok (.iload_n 2, 1) := by decide +kernel
theorem dX6_isLate_25 : decode cX6_isLate 25 = .ok (.baload, 1) := by decide +kernel
theorem dX6_isLate_26 : decode cX6_isLate 26 = .ok (.ifCond .eq 21, 3) := by decide +kernel
theorem dX6_isLate_29 : decode cX6_isLate 29 = .ok (.aload_n 0, 1) := by decide +kernel
theorem dX6_isLate_30 : decode cX6_isLate 30 = .ok (.getfield 72, 3) := by decide +kernel
theorem dX6_isLate_33 : decode cX6_isLate 33 = .ok (.aload_n 0, 1) := by decide +kernel
theorem dX6_isLate_34 : decode cX6_isLate 34 = .ok (.getfield 31, 3) := by decide +kernel
theorem dX6_isLate_37 : decode cX6_isLate 37 = .ok (.iload_n 2, 1) := by decide +kernel
theorem dX6_isLate_38 : decode cX6_isLate 38 = .ok (.iaload, 1) := by decide +kernel
theorem dX6_isLate_39 : decode cX6_isLate 39 = .ok (.bipush 100, 2) := by decide +kernel
theorem dX6_isLate_41 : decode cX6_isLate 41 = .ok (.iadd, 1) := by decide +kernel
theorem dX6_isLate_42 : decode cX6_isLate 42 = .ok (.if_icmp .lt 5, 3) := by decide +kernel
theorem dX6_isLate_45 : decode cX6_isLate 45 = .ok (.iconst 1, 1) := by decide +kernel
theorem dX6_isLate_46 : decode cX6_isLate 46 = .ok (.ireturn, 1) := by decide +kernel
theorem dX6_isLate_47 : decode cX6_isLate 47 = .ok (.iinc 2 1, 3) := by decide +kernel
theorem dX6_isLate_50 : decode cX6_isLate 50 = .ok (.goto (-48), 3) := by decide +kernel
theorem dX6_isLate_53 : decode cX6_isLate 53 = .ok (.iconst 0, 1) := by decide +kernel
theorem dX6_isLate_54 : decode cX6_isLate 54 = .ok (.ireturn, 1) := by decide +kernel
theorem dX6_glass_0 : decode cX6_glass 0 = .ok (.iload_n 1, 1) := by decide +kernel
theorem dX6_glass_1 : decode cX6_glass 1 = .ok (.invokestatic 81, 3) := by decide +kernel
theorem dX6_glass_4 : decode cX6_glass 4 = .ok (.ifCond .eq 27, 3) := by decide +kernel
theorem dX6_glass_7 : decode cX6_glass 7 = .ok (.iload_n 2, 1) := by decide +kernel
theorem dX6_glass_8 : decode cX6_glass 8 = .ok (.iconst 0, 1) := by decide +kernel
theorem dX6_glass_9 : decode cX6_glass 9 = .ok (.aload_n 0, 1) := by decide +kernel
theorem dX6_glass_10 : decode cX6_glass 10 = .ok (.getfield 85, 3) := by decide +kernel
theorem dX6_glass_13 : decode cX6_glass 13 = .ok (.iconst 1, 1) := by decide +kernel
theorem dX6_glass_14 : decode cX6_glass 14 = .ok (.isub, 1) := by decide +kernel
theorem dX6_glass_15 : decode cX6_glass 15 = .ok (.invokestatic 76, 3) := by decide +kernel
theorem dX6_glass_18 : decode cX6_glass 18 = .ok (.ifCond .eq 13, 3) := by decide +kernel
theorem dX6_glass_21 : decode cX6_glass 21 = .ok (.iload_n 3, 1) := by decide +kernel
theorem dX6_glass_22 : decode cX6_glass 22 = .ok (.iconst 1, 1) := by decide +kernel
theorem dX6_glass_23 : decode cX6_glass 23 = .ok (.bipush 100, 2) := by decide +kernel
theorem dX6_glass_25 : decode cX6_glass 25 = .ok (.invokestatic 76, 3) := by decide +kernel
theorem dX6_glass_28 : decode cX6_glass 28 = .ok (.ifCond .ne 6, 3) := by decide +kernel
theorem dX6_glass_31 : decode cX6_glass 31 = .ok (.bipush (-2), 2) := by decide +kernel
theorem dX6_glass_33 : decode cX6_glass 33 = .ok (.ireturn, 1) := by decide +kernel
theorem dX6_glass_34 : decode cX6_glass 34 = .ok (.aload_n 0, 1) := by decide +kernel
theorem dX6_glass_35 : decode cX6_glass 35 = .ok (.iload_n 1, 1) := by decide +kernel
theorem dX6_glass_36 : decode cX6_glass 36 = .ok (.iload_n 2, 1) := by decide +kernel
theorem dX6_glass_37 : decode cX6_glass 37 = .ok (.invokevirtual 118, 3) := by decide +kernel
theorem dX6_glass_40 : decode cX6_glass 40 = .ok (.ifCond .ne 6, 3) := by decide +kernel
theorem dX6_glass_43 : decode cX6_glass 43 = .ok (.bipush (-13), 2) := by decide +kernel
theorem dX6_glass_45 : decode cX6_glass 45 = .ok (.ireturn, 1) := by decide +kernel
theorem dX6_glass_46 : decode cX6_glass 46 = .ok (.aload_n 0, 1) := by decide +kernel
theorem dX6_glass_47 : decode cX6_glass 47 = .ok (.iload_n 1, 1) := by decide +kernel
theorem dX6_glass_48 : decode cX6_glass 48 = .ok (.iload_n 2, 1) := by decide +kernel
theorem dX6_glass_49 : decode cX6_glass 49 = .ok (.invokevirtual 122, 3) := by decide +kernel
theorem dX6_glass_52 : decode cX6_glass 52 = .ok (.ifCond .eq 6, 3) := by decide +kernel
theorem dX6_glass_55 : decode cX6_glass 55 = .ok (.bipush (-14), 2) := by decide +kernel
theorem dX6_glass_57 : decode cX6_glass 57 = .ok (.ireturn, 1) := by decide +kernel
theorem dX6_glass_58 : decode cX6_glass 58 = .ok (.aload_n 0, 1) := by decide +kernel
theorem dX6_glass_59 : decode cX6_glass 59 = .ok (.iload_n 1, 1) := by decide +kernel
theorem dX6_glass_60 : decode cX6_glass 60 = .ok (.invokevirtual 129, 3) := by decide +kernel
theorem dX6_glass_63 : decode cX6_glass 63 = .ok (.iconst 3, 1) := by decide +kernel
theorem dX6_glass_64 : decode cX6_glass 64 = .ok (.if_icmp .ge 11, 3) := by decide +kernel
theorem dX6_glass_67 : decode cX6_glass 67 = .ok (.aload_n 0, 1) := by decide +kernel
theorem dX6_glass_68 : decode cX6_glass 68 = .ok (.iload_n 1, 1) := by decide +kernel
theorem dX6_glass_69 : decode cX6_glass 69 = .ok (.invokevirtual 133, 3) := by decide +kernel
theorem dX6_glass_72 : decode cX6_glass 72 = .ok (.ifCond .eq 6, 3) := by decide +kernel
theorem dX6_glass_75 : decode cX6_glass 75 = .ok (.bipush (-15), 2) := by decide +kernel
theorem dX6_glass_77 : decode cX6_glass 77 = .ok (.ireturn, 1) := by decide +kernel
theorem dX6_glass_78 : decode cX6_glass 78 = .ok (.aload_n 0, 1) := by decide +kernel
theorem dX6_glass_79 : decode cX6_glass 79 = .ok (.getfield 111, 3) := by decide +kernel
theorem dX6_glass_82 : decode cX6_glass 82 = .ok (.bipush 40, 2) := by decide +kernel
theorem dX6_glass_84 : decode cX6_glass 84 = .ok (.if_icmp .eq 13, 3) := by decide +kernel
theorem dX6_glass_87 : decode cX6_glass 87 = .ok (.aload_n 0, 1) := by decide +kernel
theorem dX6_glass_88 : decode cX6_glass 88 = .ok (.getfield 101, 3) := by decide +kernel
theorem dX6_glass_91 : decode cX6_glass 91 = .ok (.sipush 240, 3) := by decide +kernel
theorem dX6_glass_94 : decode cX6_glass 94 = .ok (.if_icmp .ne 6, 3) := by decide +kernel
theorem dX6_glass_97 : decode cX6_glass 97 = .ok (.bipush (-3), 2) := by decide +kernel
theorem dX6_glass_99 : decode cX6_glass 99 = .ok (.ireturn, 1) := by decide +kernel
theorem dX6_glass_100 : decode cX6_glass 100 = .ok (.aload_n 0, 1) := by decide +kernel
theorem dX6_glass_101 : decode cX6_glass 101 = .ok (.getfield 25, 3) := by decide +kernel
theorem dX6_glass_104 : decode cX6_glass 104 = .ok (.aload_n 0, 1) := by decide +kernel
theorem dX6_glass_105 : decode cX6_glass 105 = .ok (.getfield 111, 3) := by decide +kernel
theorem dX6_glass_108 : decode cX6_glass 108 = .ok (.iload_n 1, 1) := by decide +kernel
theorem dX6_glass_109 : decode cX6_glass 109 = .ok (.iastore, 1) := by decide +kernel
theorem dX6_glass_110 : decode cX6_glass 110 = .ok (.aload_n 0, 1) := by decide +kernel
theorem dX6_glass_111 : decode cX6_glass 111 = .ok (.getfield 28, 3) := by decide +kernel
theorem dX6_glass_114 : decode cX6_glass 114 = .ok (.aload_n 0, 1) := by decide +kernel
theorem dX6_glass_115 : decode cX6_glass 115 = .ok (.getfield 111, 3) := by decide +kernel
theorem dX6_glass_118 : decode cX6_glass 118 = .ok (.iload_n 2, 1) := by decide +kernel
theorem dX6_glass_119 : decode cX6_glass 119 = .ok (.iastore, 1) := by decide +kernel
theorem dX6_glass_120 : decode cX6_glass 120 = .ok (.aload_n 0, 1) := by decide +kernel
theorem dX6_glass_121 : decode cX6_glass 121 = .ok (.getfield 31, 3) := by decide +kernel
theorem dX6_glass_124 : decode cX6_glass 124 = .ok (.aload_n 0, 1) := by decide +kernel
theorem dX6_glass_125 : decode cX6_glass 125 = .ok (.getfield 111, 3) := by decide +kernel
theorem dX6_glass_128 : decode cX6_glass 128 = .ok (.aload_n 0, 1) := by decide +kernel
theorem dX6_glass_129 : decode cX6_glass 129 = .ok (.getfield 72, 3) := by decide +kernel
theorem dX6_glass_132 : decode cX6_glass 132 = .ok (.iload_n 3, 1) := by decide +kernel
theorem dX6_glass_133 : decode cX6_glass 133 = .ok (.iadd, 1) := by decide +kernel
theorem dX6_glass_134 : decode cX6_glass 134 = .ok (.iastore, 1) := by decide +kernel
theorem dX6_glass_135 : decode cX6_glass 135 = .ok (.aload_n 0, 1) := by decide +kernel
theorem dX6_glass_136 : decode cX6_glass 136 = .ok (.getfield 34, 3) := by decide +kernel
theorem dX6_glass_139 : decode cX6_glass 139 = .ok (.aload_n 0, 1) := by decide +kernel
theorem dX6_glass_140 : decode cX6_glass 140 = .ok (.getfield 111, 3) := by decide +kernel
theorem dX6_glass_143 : decode cX6_glass 143 = .ok (.iconst 1, 1) := by decide +kernel
theorem dX6_glass_144 : decode cX6_glass 144 = .ok (.bastore, 1) := by decide +kernel
theorem dX6_glass_145 : decode cX6_glass 145 = .ok (.aload_n 0, 1) := by decide +kernel
theorem dX6_glass_146 : decode cX6_glass 146 = .ok (.iconst 3, 1) := by decide +kernel
theorem dX6_glass_147 : decode cX6_glass 147 = .ok (.iload_n 1, 1) := by decide +kernel
theorem dX6_glass_148 : decode cX6_glass 148 = .ok (.aload_n 0, 1) := by decide +kernel
theorem dX6_glass_149 : decode cX6_glass 149 = .ok (.getfield 111, 3) := by decide +kernel
theorem dX6_glass_152 : decode cX6_glass 152 = .ok (.iload_n 2, 1) := by decide +kernel
theorem dX6_glass_153 : decode cX6_glass 153 = .ok (.invokevirtual 125, 3) := by decide +kernel
theorem dX6_glass_156 : decode cX6_glass 156 = .ok (.aload_n 0, 1) := by decide +kernel
theorem dX6_glass_157 : decode cX6_glass 157 = .ok (.dup, 1) := by decide +kernel
theorem dX6_glass_158 : decode cX6_glass 158 = .ok (.getfield 111, 3) := by decide +kernel
theorem dX6_glass_161 : decode cX6_glass 161 = .ok (.iconst 1, 1) := by decide +kernel
theorem dX6_glass_162 : decode cX6_glass 162 = .ok (.iadd, 1) := by decide +kernel
theorem dX6_glass_163 : decode cX6_glass 163 = .ok (.putfield 111, 3) := by decide +kernel
theorem dX6_glass_166 : decode cX6_glass 166 = .ok (.aload_n 0, 1) := by decide +kernel
theorem dX6_glass_167 : decode cX6_glass 167 = .ok (.getfield 111, 3) := by decide +kernel
theorem dX6_glass_170 : decode cX6_glass 170 = .ok (.iconst 1, 1) := by decide +kernel
theorem dX6_glass_171 : decode cX6_glass 171 = .ok (.isub, 1) := by decide +kernel
theorem dX6_glass_172 : decode cX6_glass 172 = .ok (.ireturn, 1) := by decide +kernel
theorem dX6_takeOff_0 : decode cX6_takeOff 0 = .ok (.iload_n 1, 1) := by decide +kernel
theorem dX6_takeOff_1 : decode cX6_takeOff 1 = .ok (.iconst 0, 1) := by decide +kernel
theorem dX6_takeOff_2 : decode cX6_takeOff 2 = .ok (.aload_n 0, 1) := by decide +kernel
theorem dX6_takeOff_3 : decode cX6_takeOff 3 = .ok (.getfield 111, 3) := by decide +kernel
theorem dX6_takeOff_6 : decode cX6_takeOff 6 = .ok (.iconst 1, 1) := by decide +kernel
theorem dX6_takeOff_7 : decode cX6_takeOff 7 = .ok (.isub, 1) := by decide +kernel
theorem dX6_takeOff_8 : decode cX6_takeOff 8 = .ok (.invokestatic 76, 3) := by decide +kernel
theorem dX6_takeOff_11 : decode cX6_takeOff 11 = .ok (.ifCond .eq 19, 3) := by decide +kernel
theorem dX6_takeOff_14 : decode cX6_takeOff 14 = .ok (.iload_n 2, 1) := by decide +kernel
theorem dX6_takeOff_15 : decode cX6_takeOff 15 = .ok (.invokestatic 81, 3) := by decide +kernel
theorem dX6_takeOff_18 : decode cX6_takeOff 18 = .ok (.ifCond .eq 12, 3) := by decide +kernel
theorem dX6_takeOff_21 : decode cX6_takeOff 21 = .ok (.aload_n 0, 1) := by decide +kernel
theorem dX6_takeOff_22 : decode cX6_takeOff 22 = .ok (.getfield 34, 3) := by decide +kernel
theorem dX6_takeOff_25 : decode cX6_takeOff 25 = .ok (.iload_n 1, 1) := by decide +kernel
theorem dX6_takeOff_26 : decode cX6_takeOff 26 = .ok (.baload, 1) := by decide +kernel
theorem dX6_takeOff_27 : decode cX6_takeOff 27 = .ok (.ifCond .ne 6, 3) := by decide +kernel
theorem dX6_takeOff_30 : decode cX6_takeOff 30 = .ok (.bipush (-2), 2) := by decide +kernel
theorem dX6_takeOff_32 : decode cX6_takeOff 32 = .ok (.ireturn, 1) := by decide +kernel
theorem dX6_takeOff_33 : decode cX6_takeOff 33 = .ok (.aload_n 0, 1) := by decide +kernel
theorem dX6_takeOff_34 : decode cX6_takeOff 34 = .ok (.getfield 7, 3) := by decide +kernel
theorem dX6_takeOff_37 : decode cX6_takeOff 37 = .ok (.iload_n 2, 1) := by decide +kernel
theorem dX6_takeOff_38 : decode cX6_takeOff 38 = .ok (.iaload, 1) := by decide +kernel
theorem dX6_takeOff_39 : decode cX6_takeOff 39 = .ok (.bipush 7, 2) := by decide +kernel
theorem dX6_takeOff_41 : decode cX6_takeOff 41 = .ok (.ishr, 1) := by decide +kernel
theorem dX6_takeOff_42 : decode cX6_takeOff 42 = .ok (.iconst 1, 1) := by decide +kernel
theorem dX6_takeOff_43 : decode cX6_takeOff 43 = .ok (.iand, 1) := by decide +kernel
theorem dX6_takeOff_44 : decode cX6_takeOff 44 = .ok (.ifCond .ne 6, 3) := by decide +kernel
theorem dX6_takeOff_47 : decode cX6_takeOff 47 = .ok (.bipush (-18), 2) := by decide +kernel
theorem dX6_takeOff_49 : decode cX6_takeOff 49 = .ok (.ireturn, 1) := by decide +kernel
theorem dX6_takeOff_50 : decode cX6_takeOff 50 = .ok (.aload_n 0, 1) := by decide +kernel
theorem dX6_takeOff_51 : decode cX6_takeOff 51 = .ok (.getfield 25, 3) := by decide +kernel
theorem dX6_takeOff_54 : decode cX6_takeOff 54 = .ok (.iload_n 1, 1) := by decide +kernel
theorem dX6_takeOff_55 : decode cX6_takeOff 55 = .ok (.iaload, 1) := by decide +kernel
theorem dX6_takeOff_56 : decode cX6_takeOff 56 = .ok (.iload_n 2, 1) := by decide +kernel
theorem dX6_takeOff_57 : decode cX6_takeOff 57 = .ok (.if_icmp .ne 6, 3) := by decide +kernel
theorem dX6_takeOff_60 : decode cX6_takeOff 60 = .ok (.bipush (-19), 2) := by decide +kernel
theorem dX6_takeOff_62 : decode cX6_takeOff 62 = .ok (.ireturn, 1) := by decide +kernel
theorem dX6_takeOff_63 : decode cX6_takeOff 63 = .ok (.aload_n 0, 1) := by decide +kernel
theorem dX6_takeOff_64 : decode cX6_takeOff 64 = .ok (.getfield 101, 3) := by decide +kernel
theorem dX6_takeOff_67 : decode cX6_takeOff 67 = .ok (.sipush 240, 3) := by decide +kernel
theorem dX6_takeOff_70 : decode cX6_takeOff 70 = .ok (.if_icmp .ne 6, 3) := by decide +kernel
theorem dX6_takeOff_73 : decode cX6_takeOff 73 = .ok (.bipush (-3), 2) := by decide +kernel
theorem dX6_takeOff_75 : decode cX6_takeOff 75 = .ok (.ireturn, 1) := by decide +kernel
theorem dX6_takeOff_76 : decode cX6_takeOff 76 = .ok (.aload_n 0, 1) := by decide +kernel
theorem dX6_takeOff_77 : decode cX6_takeOff 77 = .ok (.getfield 34, 3) := by decide +kernel
theorem dX6_takeOff_80 : decode cX6_takeOff 80 = .ok (.iload_n 1, 1) := by decide +kernel
theorem dX6_takeOff_81 : decode cX6_takeOff 81 = .ok (.iconst 0, 1) := by decide +kernel
theorem dX6_takeOff_82 : decode cX6_takeOff 82 = .ok (.bastore, 1) := by decide +kernel
theorem dX6_takeOff_83 : decode cX6_takeOff 83 = .ok (.aload_n 0, 1) := by decide +kernel
theorem dX6_takeOff_84 : decode cX6_takeOff 84 = .ok (.iconst 4, 1) := by decide +kernel
theorem dX6_takeOff_85 : decode cX6_takeOff 85 = .ok (.iload_n 2, 1) := by decide +kernel
theorem dX6_takeOff_86 : decode cX6_takeOff 86 = .ok (.iload_n 1, 1) := by decide +kernel
theorem dX6_takeOff_87 : decode cX6_takeOff 87 = .ok (.iconst 0, 1) := by decide +kernel
theorem dX6_takeOff_88 : decode cX6_takeOff 88 = .ok (.invokevirtual 125, 3) := by decide +kernel
theorem dX6_takeOff_91 : decode cX6_takeOff 91 = .ok (.iconst 0, 1) := by decide +kernel
theorem dX6_takeOff_92 : decode cX6_takeOff 92 = .ok (.aload_n 0, 1) := by decide +kernel
theorem dX6_takeOff_93 : decode cX6_takeOff 93 = .ok (.getfield 31, 3) := by decide +kernel
theorem dX6_takeOff_96 : decode cX6_takeOff 96 = .ok (.iload_n 1, 1) := by decide +kernel
theorem dX6_takeOff_97 : decode cX6_takeOff 97 = .ok (.iaload, 1) := by decide +kernel
theorem dX6_takeOff_98 : decode cX6_takeOff 98 = .ok (.bipush 100, 2) := by decide +kernel
theorem dX6_takeOff_100 : decode cX6_takeOff 100 = .ok (.iadd, 1) := by decide +kernel
theorem dX6_takeOff_101 : decode cX6_takeOff 101 = .ok (.aload_n 0, 1) := by decide +kernel
theorem dX6_takeOff_102 : decode cX6_takeOff 102 = .ok (.getfield 72, 3) := by decide +kernel
theorem dX6_takeOff_105 : decode cX6_takeOff 105 = .ok (.isub, 1) := by decide +kernel
theorem dX6_takeOff_106 : decode cX6_takeOff 106 = .ok (.invokestatic 136, 3) := by decide +kernel
theorem dX6_takeOff_109 : decode cX6_takeOff 109 = .ok (.ireturn, 1) := by decide +kernel
theorem dX6_kind_0 : decode cX6_kind 0 = .ok (.aload_n 0, 1) := by decide +kernel
theorem dX6_kind_1 : decode cX6_kind 1 = .ok (.getfield 142, 3) := by decide +kernel
theorem dX6_kind_4 : decode cX6_kind 4 = .ok (.iconst 4, 1) := by decide +kernel
theorem dX6_kind_5 : decode cX6_kind 5 = .ok (.if_icmp .ne 6, 3) := by decide +kernel
theorem dX6_kind_8 : decode cX6_kind 8 = .ok (.bipush (-3), 2) := by decide +kernel
theorem dX6_kind_10 : decode cX6_kind 10 = .ok (.ireturn, 1) := by decide +kernel
theorem dX6_kind_11 : decode cX6_kind 11 = .ok (.aload_n 0, 1) := by decide +kernel
theorem dX6_kind_12 : decode cX6_kind 12 = .ok (.getfield 53, 3) := by decide +kernel
theorem dX6_kind_15 : decode cX6_kind 15 = .ok (.aload_n 0, 1) := by decide +kernel
theorem dX6_kind_16 : decode cX6_kind 16 = .ok (.getfield 142, 3) := by decide +kernel
theorem dX6_kind_19 : decode cX6_kind 19 = .ok (.bipush 6, 2) := by decide +kernel
theorem dX6_kind_21 : decode cX6_kind 21 = .ok (.iastore, 1) := by decide +kernel
theorem dX6_kind_22 : decode cX6_kind 22 = .ok (.aload_n 0, 1) := by decide +kernel
theorem dX6_kind_23 : decode cX6_kind 23 = .ok (.dup, 1) := by decide +kernel
theorem dX6_kind_24 : decode cX6_kind 24 = .ok (.getfield 142, 3) := by decide +kernel
theorem dX6_kind_27 : decode cX6_kind 27 = .ok (.iconst 1, 1) := by decide +kernel
theorem dX6_kind_28 : decode cX6_kind 28 = .ok (.iadd, 1) := by decide +kernel
theorem dX6_kind_29 : decode cX6_kind 29 = .ok (.putfield 142, 3) := by decide +kernel
theorem dX6_kind_32 : decode cX6_kind 32 = .ok (.aload_n 0, 1) := by decide +kernel
theorem dX6_kind_33 : decode cX6_kind 33 = .ok (.getfield 142, 3) := by decide +kernel
theorem dX6_kind_36 : decode cX6_kind 36 = .ok (.iconst 1, 1) := by decide +kernel
theorem dX6_kind_37 : decode cX6_kind 37 = .ok (.isub, 1) := by decide +kernel
theorem dX6_kind_38 : decode cX6_kind 38 = .ok (.ireturn, 1) := by decide +kernel
theorem dX6_isFree_0 : decode cX6_isFree 0 = .ok (.iload_n 1, 1) := by decide +kernel
theorem dX6_isFree_1 : decode cX6_isFree 1 = .ok (.iconst 0, 1) := by decide +kernel
theorem dX6_isFree_2 : decode cX6_isFree 2 = .ok (.aload_n 0, 1) := by decide +kernel
theorem dX6_isFree_3 : decode cX6_isFree 3 = .ok (.getfield 142, 3) := by decide +kernel
theorem dX6_isFree_6 : decode cX6_isFree 6 = .ok (.iconst 1, 1) := by decide +kernel
theorem dX6_isFree_7 : decode cX6_isFree 7 = .ok (.isub, 1) := by decide +kernel
theorem dX6_isFree_8 : decode cX6_isFree 8 = .ok (.invokestatic 76, 3) := by decide +kernel
theorem dX6_isFree_11 : decode cX6_isFree 11 = .ok (.ifCond .ne 5, 3) := by decide +kernel
theorem dX6_isFree_14 : decode cX6_isFree 14 = .ok (.iconst 0, 1) := by decide +kernel
theorem dX6_isFree_15 : decode cX6_isFree 15 = .ok (.ireturn, 1) := by decide +kernel
theorem dX6_isFree_16 : decode cX6_isFree 16 = .ok (.iconst 1, 1) := by decide +kernel
theorem dX6_isFree_17 : decode cX6_isFree 17 = .ok (.istore_n 2, 1) := by decide +kernel
theorem dX6_isFree_18 : decode cX6_isFree 18 = .ok (.iconst 0, 1) := by decide +kernel
theorem dX6_isFree_19 : decode cX6_isFree 19 = .ok (.istore_n 3, 1) := by decide +kernel
theorem dX6_isFree_20 : decode cX6_isFree 20 = .ok (.iload_n 3, 1) := by decide +kernel
theorem dX6_isFree_21 : decode cX6_isFree 21 = .ok (.aload_n 0, 1) := by decide +kernel
theorem dX6_isFree_22 : decode cX6_isFree 22 = .ok (.getfield 145, 3) := by decide +kernel
theorem dX6_isFree_25 : decode cX6_isFree 25 = .ok (.if_icmp .ge 29, 3) := by decide +kernel
theorem dX6_isFree_28 : decode cX6_isFree 28 = .ok (.iload_n 2, 1) := by decide +kernel
theorem dX6_isFree_29 : decode cX6_isFree 29 = .ok (.ifCond .eq 17, 3) := by decide +kernel
theorem dX6_isFree_32 : decode cX6_isFree 32 = .ok (.aload_n 0, 1) := by decide +kernel
theorem dX6_isFree_33 : decode cX6_isFree 33 = .ok (.getfield 56, 3) := by decide +kernel
theorem dX6_isFree_36 : decode cX6_isFree 36 = .ok (.iload_n 3, 1) := by decide +kernel
theorem dX6_isFree_37 : decode cX6_isFree 37 = .ok (.iaload, 1) := by decide +kernel
theorem dX6_isFree_38 : decode cX6_isFree 38 = .ok (.iload_n 1, 1) := by decide +kernel
theorem dX6_isFree_39 : decode cX6_isFree 39 = .ok (.if_icmp .eq 7, 3) := by decide +kernel
theorem dX6_isFree_42 : decode cX6_isFree 42 = .ok (.iconst 1, 1) := by decide +kernel
theorem dX6_isFree_43 : decode cX6_isFree 43 = .ok (.goto 4, 3) := by decide +kernel
theorem dX6_isFree_46 : decode cX6_isFree 46 = .ok (.iconst 0, 1) := by decide +kernel
theorem dX6_isFree_47 : decode cX6_isFree 47 = .ok (.istore_n 2, 1) := by decide +kernel
theorem dX6_isFree_48 : decode cX6_isFree 48 = .ok (.iinc 3 1, 3) := by decide +kernel
theorem dX6_isFree_51 : decode cX6_isFree 51 = .ok (.goto (-31), 3) := by decide +kernel
theorem dX6_isFree_54 : decode cX6_isFree 54 = .ok (.iload_n 2, 1) := by decide +kernel
theorem dX6_isFree_55 : decode cX6_isFree 55 = .ok (.ireturn, 1) := by decide +kernel
theorem dX6_task_0 : decode cX6_task 0 = .ok (.aload_n 0, 1) := by decide +kernel
theorem dX6_task_1 : decode cX6_task 1 = .ok (.iload_n 1, 1) := by decide +kernel
theorem dX6_task_2 : decode cX6_task 2 = .ok (.invokevirtual 148, 3) := by decide +kernel
theorem dX6_task_5 : decode cX6_task 5 = .ok (.ifCond .eq 29, 3) := by decide +kernel
theorem dX6_task_8 : decode cX6_task 8 = .ok (.iload_n 2, 1) := by decide +kernel
theorem dX6_task_9 : decode cX6_task 9 = .ok (.iconst 0, 1) := by decide +kernel
theorem dX6_task_10 : decode cX6_task 10 = .ok (.bipush 7, 2) := by decide +kernel
theorem dX6_task_12 : decode cX6_task 12 = .ok (.invokestatic 76, 3) := by decide +kernel
theorem dX6_task_15 : decode cX6_task 15 = .ok (.ifCond .eq 19, 3) := by decide +kernel
theorem dX6_task_18 : decode cX6_task 18 = .ok (.iload_n 3, 1) := by decide +kernel
theorem dX6_task_19 : decode cX6_task 19 = .ok (.ifCond .lt 15, 3) := by decide +kernel
theorem dX6_task_22 : decode cX6_task 22 = .ok (.iload_n 3, 1) := by decide +kernel
theorem dX6_task_23 : decode cX6_task 23 = .ok (.iconst 1, 1) := by decide +kernel
theorem dX6_task_24 : decode cX6_task 24 = .ok (.aload_n 0, 1) := by decide +kernel
theorem dX6_task_25 : decode cX6_task 25 = .ok (.getfield 38, 3) := by decide +kernel
theorem dX6_task_28 : decode cX6_task 28 = .ok (.iload_n 1, 1) := by decide +kernel
theorem dX6_task_29 : decode cX6_task 29 = .ok (.iaload, 1) := by decide +kernel
theorem dX6_task_30 : decode cX6_task 30 = .ok (.ishl, 1) := by decide +kernel
theorem dX6_task_31 : decode cX6_task 31 = .ok (.if_icmp .lt 6, 3) := by decide +kernel
theorem dX6_task_34 : decode cX6_task 34 = .ok (.bipush (-2), 2) := by decide +kernel
theorem dX6_task_36 : decode cX6_task 36 = .ok (.ireturn, 1) := by decide +kernel
theorem dX6_task_37 : decode cX6_task 37 = .ok (.aload_n 0, 1) := by decide +kernel
theorem dX6_task_38 : decode cX6_task 38 = .ok (.getfield 38, 3) := by decide +kernel
theorem dX6_task_41 : decode cX6_task 41 = .ok (.iload_n 1, 1) := by decide +kernel
theorem dX6_task_42 : decode cX6_task 42 = .ok (.iaload, 1) := by decide +kernel
theorem dX6_task_43 : decode cX6_task 43 = .ok (.bipush 6, 2) := by decide +kernel
theorem dX6_task_45 : decode cX6_task 45 = .ok (.if_icmp .ne 6, 3) := by decide +kernel
theorem dX6_task_48 : decode cX6_task 48 = .ok (.bipush (-3), 2) := by decide +kernel
theorem dX6_task_50 : decode cX6_task 50 = .ok (.ireturn, 1) := by decide +kernel
theorem dX6_task_51 : decode cX6_task 51 = .ok (.aload_n 0, 1) := by decide +kernel
theorem dX6_task_52 : decode cX6_task 52 = .ok (.getfield 38, 3) := by decide +kernel
theorem dX6_task_55 : decode cX6_task 55 = .ok (.iload_n 1, 1) := by decide +kernel
theorem dX6_task_56 : decode cX6_task 56 = .ok (.iaload, 1) := by decide +kernel
theorem dX6_task_57 : decode cX6_task 57 = .ok (.istore 4, 2) := by decide +kernel
theorem dX6_task_59 : decode cX6_task 59 = .ok (.aload_n 0, 1) := by decide +kernel
theorem dX6_task_60 : decode cX6_task 60 = .ok (.getfield 41, 3) := by decide +kernel
theorem dX6_task_63 : decode cX6_task 63 = .ok (.bipush 6, 2) := by decide +kernel
theorem dX6_task_65 : decode cX6_task 65 = .ok (.iload_n 1, 1) := by decide +kernel
theorem dX6_task_66 : decode cX6_task 66 = .ok (.imul, 1) := by decide +kernel
theorem dX6_task_67 : decode cX6_task 67 = .ok (.iload 4, 2) := by decide +kernel
theorem dX6_task_69 : decode cX6_task 69 = .ok (.iadd, 1) := by decide +kernel
theorem dX6_task_70 : decode cX6_task 70 = .ok (.iload_n 2, 1) := by decide +kernel
theorem dX6_task_71 : decode cX6_task 71 = .ok (.iastore, 1) := by decide +kernel
theorem dX6_task_72 : decode cX6_task 72 = .ok (.aload_n 0, 1) := by decide +kernel
theorem dX6_task_73 : decode cX6_task 73 = .ok (.getfield 44, 3) := by decide +kernel
theorem dX6_task_76 : decode cX6_task 76 = .ok (.bipush 6, 2) := by decide +kernel
theorem dX6_task_78 : decode cX6_task 78 = .ok (.iload_n 1, 1) := by decide +kernel
theorem dX6_task_79 : decode cX6_task 79 = .ok (.imul, 1) := by decide +kernel
theorem dX6_task_80 : decode cX6_task 80 = .ok (.iload 4, 2) := by decide +kernel
theorem dX6_task_82 : decode cX6_task 82 = .ok (.iadd, 1) := by decide +kernel
theorem dX6_task_83 : decode cX6_task 83 = .ok (.iload_n 3, 1) := by decide +kernel
theorem dX6_task_84 : decode cX6_task 84 = .ok (.iastore, 1) := by decide +kernel
theorem dX6_task_85 : decode cX6_task 85 = .ok (.aload_n 0, 1) := by decide +kernel
theorem dX6_task_86 : decode cX6_task 86 = .ok (.getfield 38, 3) := by decide +kernel
theorem dX6_task_89 : decode cX6_task 89 = .ok (.iload_n 1, 1) := by decide +kernel
theorem dX6_task_90 : decode cX6_task 90 = .ok (.dup2, 1) := by decide +kernel
theorem dX6_task_91 : decode cX6_task 91 = .ok (.iaload, 1) := by decide +kernel
theorem dX6_task_92 : decode cX6_task 92 = .ok (.iconst 1, 1) := by decide +kernel
theorem dX6_task_93 : decode cX6_task 93 = .ok (.iadd, 1) := by decide +kernel
theorem dX6_task_94 : decode cX6_task 94 = .ok (.iastore, 1) := by decide +kernel
theorem dX6_task_95 : decode cX6_task 95 = .ok (.iload 4, 2) := by decide +kernel
theorem dX6_task_97 : decode cX6_task 97 = .ok (.ireturn, 1) := by decide +kernel
theorem dX6_arePair_0 : decode cX6_arePair 0 = .ok (.aload_n 0, 1) := by decide +kernel
theorem dX6_arePair_1 : decode cX6_arePair 1 = .ok (.iload_n 1, 1) := by decide +kernel
theorem dX6_arePair_2 : decode cX6_arePair 2 = .ok (.invokevirtual 148, 3) := by decide +kernel
theorem dX6_arePair_5 : decode cX6_arePair 5 = .ok (.ifCond .eq 44, 3) := by decide +kernel
theorem dX6_arePair_8 : decode cX6_arePair 8 = .ok (.iload_n 2, 1) := by decide +kernel
theorem dX6_arePair_9 : decode cX6_arePair 9 = .ok (.iload_n 3, 1) := by decide +kernel
theorem dX6_arePair_10 : decode cX6_arePair 10 = .ok (.if_icmp .eq 39, 3) := by decide +kernel
theorem dX6_arePair_13 : decode cX6_arePair 13 = .ok (.iload_n 2, 1) := by decide +kernel
theorem dX6_arePair_14 : decode cX6_arePair 14 = .ok (.iconst 0, 1) := by decide +kernel
theorem dX6_arePair_15 : decode cX6_arePair 15 = .ok (.aload_n 0, 1) := by decide +kernel
theorem dX6_arePair_16 : decode cX6_arePair 16 = .ok (.getfield 38, 3) := by decide +kernel
theorem dX6_arePair_19 : decode cX6_arePair 19 = .ok (.iload_n 1, 1) := by decide +kernel
theorem dX6_arePair_20 : decode cX6_arePair 20 = .ok (.iaload, 1) := by decide +kernel
theorem dX6_arePair_21 : decode cX6_arePair 21 = .ok (.iconst 1, 1) := by decide +kernel
theorem dX6_arePair_22 : decode cX6_arePair 22 = .ok (.isub, 1) := by decide +kernel
theorem dX6_arePair_23 : decode cX6_arePair 23 = .ok (.invokestatic 76, 3) := by decide +kernel
theorem dX6_arePair_26 : decode cX6_arePair 26 = .ok (.ifCond .eq 23, 3) := by decide +kernel
theorem dX6_arePair_29 : decode cX6_arePair 29 = .ok (.iload_n 3, 1) := by decide +kernel
theorem dX6_arePair_30 : decode cX6_arePair 30 = .ok (.iconst 0, 1) := by decide +kernel
theorem dX6_arePair_31 : decode cX6_arePair 31 = .ok (.aload_n 0, 1) := by decide +kernel
theorem dX6_arePair_32 : decode cX6_arePair 32 = .ok (.getfield 38, 3) := by decide +kernel
theorem dX6_arePair_35 : decode cX6_arePair 35 = .ok (.iload_n 1, 1) := by decide +kernel
theorem dX6_arePair_36 : decode cX6_arePair 36 = .ok (.iaload, 1) := by decide +kernel
theorem dX6_arePair_37 : decode cX6_arePair 37 = .ok (.iconst 1, 1) := by decide +kernel
theorem dX6_arePair_38 : decode cX6_arePair 38 = .ok (.isub, 1) := by decide +kernel
theorem dX6_arePair_39 : decode cX6_arePair 39 = .ok (.invokestatic 76, 3) := by decide +kernel
theorem dX6_arePair_42 : decode cX6_arePair 42 = .ok (.ifCond .eq 7, 3) := by decide +kernel
theorem dX6_arePair_45 : decode cX6_arePair 45 = .ok (.iconst 1, 1) := by decide +kernel
theorem dX6_arePair_46 : decode cX6_arePair 46 = .ok (.goto 4, 3) := by decide +kernel
theorem dX6_arePair_49 : decode cX6_arePair 49 = .ok (.iconst 0, 1) := by decide +kernel
theorem dX6_arePair_50 : decode cX6_arePair 50 = .ok (.ireturn, 1) := by decide +kernel
theorem dX6_pair_0 : decode cX6_pair 0 = .ok (.bipush 36, 2) := by decide +kernel
theorem dX6_pair_2 : decode cX6_pair 2 = .ok (.iload_n 0, 1) := by decide +kernel
theorem dX6_pair_3 : decode cX6_pair 3 = .ok (.imul, 1) := by decide +kernel
theorem dX6_pair_4 : decode cX6_pair 4 = .ok (.bipush 6, 2) := by decide +kernel
theorem dX6_pair_6 : decode cX6_pair 6 = .ok (.iload_n 1, 1) := by decide +kernel
theorem dX6_pair_7 : decode cX6_pair 7 = .ok (.iload_n 2, 1) := by decide +kernel
theorem dX6_pair_8 : decode cX6_pair 8 = .ok (.invokestatic 151, 3) := by decide +kernel
theorem dX6_pair_11 : decode cX6_pair 11 = .ok (.imul, 1) := by decide +kernel
theorem dX6_pair_12 : decode cX6_pair 12 = .ok (.iadd, 1) := by decide +kernel
theorem dX6_pair_13 : decode cX6_pair 13 = .ok (.iload_n 1, 1) := by decide +kernel
theorem dX6_pair_14 : decode cX6_pair 14 = .ok (.iload_n 2, 1) := by decide +kernel
theorem dX6_pair_15 : decode cX6_pair 15 = .ok (.invokestatic 136, 3) := by decide +kernel
theorem dX6_pair_18 : decode cX6_pair 18 = .ok (.iadd, 1) := by decide +kernel
theorem dX6_pair_19 : decode cX6_pair 19 = .ok (.ireturn, 1) := by decide +kernel
theorem dX6_apart_0 : decode cX6_apart 0 = .ok (.aload_n 0, 1) := by decide +kernel
theorem dX6_apart_1 : decode cX6_apart 1 = .ok (.iload_n 1, 1) := by decide +kernel
theorem dX6_apart_2 : decode cX6_apart 2 = .ok (.iload_n 2, 1) := by decide +kernel
theorem dX6_apart_3 : decode cX6_apart 3 = .ok (.iload_n 3, 1) := by decide +kernel
theorem dX6_apart_4 : decode cX6_apart 4 = .ok (.invokevirtual 154, 3) := by decide +kernel
theorem dX6_apart_7 : decode cX6_apart 7 = .ok (.ifCond .ne 6, 3) := by decide +kernel
theorem dX6_apart_10 : decode cX6_apart 10 = .ok (.bipush (-2), 2) := by decide +kernel
theorem dX6_apart_12 : decode cX6_apart 12 = .ok (.ireturn, 1) := by decide +kernel
theorem dX6_apart_13 : decode cX6_apart 13 = .ok (.aload_n 0, 1) := by decide +kernel
theorem dX6_apart_14 : decode cX6_apart 14 = .ok (.getfield 47, 3) := by decide +kernel
theorem dX6_apart_17 : decode cX6_apart 17 = .ok (.iload_n 1, 1) := by decide +kernel
theorem dX6_apart_18 : decode cX6_apart 18 = .ok (.iload_n 2, 1) := by decide +kernel
theorem dX6_apart_19 : decode cX6_apart 19 = .ok (.iload_n 3, 1) := by decide +kernel
theorem dX6_apart_20 : decode cX6_apart 20 = .ok (.invokestatic 157, 3) := by decide +kernel
theorem dX6_apart_23 : decode cX6_apart 23 = .ok (.baload, 1) := by decide +kernel
theorem dX6_apart_24 : decode cX6_apart 24 = .ok (.istore 4, 2) := by decide +kernel
theorem dX6_apart_26 : decode cX6_apart 26 = .ok (.aload_n 0, 1) := by decide +kernel
theorem dX6_apart_27 : decode cX6_apart 27 = .ok (.getfield 47, 3) := by decide +kernel
theorem dX6_apart_30 : decode cX6_apart 30 = .ok (.iload_n 1, 1) := by decide +kernel
theorem dX6_apart_31 : decode cX6_apart 31 = .ok (.iload_n 2, 1) := by decide +kernel
theorem dX6_apart_32 : decode cX6_apart 32 = .ok (.iload_n 3, 1) := by decide +kernel
theorem dX6_apart_33 : decode cX6_apart 33 = .ok (.invokestatic 157, 3) := by decide +kernel
theorem dX6_apart_36 : decode cX6_apart 36 = .ok (.iconst 1, 1) := by decide +kernel
theorem dX6_apart_37 : decode cX6_apart 37 = .ok (.bastore, 1) := by decide +kernel
theorem dX6_apart_38 : decode cX6_apart 38 = .ok (.iload 4, 2) := by decide +kernel
theorem dX6_apart_40 : decode cX6_apart 40 = .ok (.ifCond .eq 7, 3) := by decide +kernel
theorem dX6_apart_43 : decode cX6_apart 43 = .ok (.iconst 0, 1) := by decide +kernel
theorem dX6_apart_44 : decode cX6_apart 44 = .ok (.goto 4, 3) := by decide +kernel
theorem dX6_apart_47 : decode cX6_apart 47 = .ok (.iconst 1, 1) := by decide +kernel
theorem dX6_apart_48 : decode cX6_apart 48 = .ok (.ireturn, 1) := by decide +kernel
theorem dX6_bound_0 : decode cX6_bound 0 = .ok (.aload_n 0, 1) := by decide +kernel
theorem dX6_bound_1 : decode cX6_bound 1 = .ok (.iload_n 1, 1) := by decide +kernel
theorem dX6_bound_2 : decode cX6_bound 2 = .ok (.iload_n 2, 1) := by decide +kernel
theorem dX6_bound_3 : decode cX6_bound 3 = .ok (.iload_n 3, 1) := by decide +kernel
theorem dX6_bound_4 : decode cX6_bound 4 = .ok (.invokevirtual 154, 3) := by decide +kernel
theorem dX6_bound_7 : decode cX6_bound 7 = .ok (.ifCond .ne 6, 3) := by decide +kernel
theorem dX6_bound_10 : decode cX6_bound 10 = .ok (.bipush (-2), 2) := by decide +kernel
theorem dX6_bound_12 : decode cX6_bound 12 = .ok (.ireturn, 1) := by decide +kernel
theorem dX6_bound_13 : decode cX6_bound 13 = .ok (.aload_n 0, 1) := by decide +kernel
theorem dX6_bound_14 : decode cX6_bound 14 = .ok (.getfield 50, 3) := by decide +kernel
theorem dX6_bound_17 : decode cX6_bound 17 = .ok (.iload_n 1, 1) := by decide +kernel
theorem dX6_bound_18 : decode cX6_bound 18 = .ok (.iload_n 2, 1) := by decide +kernel
theorem dX6_bound_19 : decode cX6_bound 19 = .ok (.iload_n 3, 1) := by decide +kernel
theorem dX6_bound_20 : decode cX6_bound 20 = .ok (.invokestatic 157, 3) := by decide +kernel
theorem dX6_bound_23 : decode cX6_bound 23 = .ok (.baload, 1) := by decide +kernel
theorem dX6_bound_24 : decode cX6_bound 24 = .ok (.istore 4, 2) := by decide +kernel
theorem dX6_bound_26 : decode cX6_bound 26 = .ok (.aload_n 0, 1) := by decide +kernel
theorem dX6_bound_27 : decode cX6_bound 27 = .ok (.getfield 50, 3) := by decide +kernel
theorem dX6_bound_30 : decode cX6_bound 30 = .ok (.iload_n 1, 1) := by decide +kernel
theorem dX6_bound_31 : decode cX6_bound 31 = .ok (.iload_n 2, 1) := by decide +kernel
theorem dX6_bound_32 : decode cX6_bound 32 = .ok (.iload_n 3, 1) := by decide +kernel
theorem dX6_bound_33 : decode cX6_bound 33 = .ok (.invokestatic 157, 3) := by decide +kernel
theorem dX6_bound_36 : decode cX6_bound 36 = .ok (.iconst 1, 1) := by decide +kernel
theorem dX6_bound_37 : decode cX6_bound 37 = .ok (.bastore, 1) := by decide +kernel
theorem dX6_bound_38 : decode cX6_bound 38 = .ok (.iload 4, 2) := by decide +kernel
theorem dX6_bound_40 : decode cX6_bound 40 = .ok (.ifCond .eq 7, 3) := by decide +kernel
theorem dX6_bound_43 : decode cX6_bound 43 = .ok (.iconst 0, 1) := by decide +kernel
theorem dX6_bound_44 : decode cX6_bound 44 = .ok (.goto 4, 3) := by decide +kernel
theorem dX6_bound_47 : decode cX6_bound 47 = .ok (.iconst 1, 1) := by decide +kernel
theorem dX6_bound_48 : decode cX6_bound 48 = .ok (.ireturn, 1) := by decide +kernel
theorem dX6_most_0 : decode cX6_most 0 = .ok (.aload_n 0, 1) := by decide +kernel
theorem dX6_most_1 : decode cX6_most 1 = .ok (.iload_n 1, 1) := by decide +kernel
theorem dX6_most_2 : decode cX6_most 2 = .ok (.invokevirtual 148, 3) := by decide +kernel
theorem dX6_most_5 : decode cX6_most 5 = .ok (.ifCond .eq 13, 3) := by decide +kernel
theorem dX6_most_8 : decode cX6_most 8 = .ok (.iload_n 2, 1) := by decide +kernel
theorem dX6_most_9 : decode cX6_most 9 = .ok (.iconst 1, 1) := by decide +kernel
theorem dX6_most_10 : decode cX6_most 10 = .ok (.bipush 6, 2) := by decide +kernel
theorem dX6_most_12 : decode cX6_most 12 = .ok (.invokestatic 76, 3) := by decide +kernel
theorem dX6_most_15 : decode cX6_most 15 = .ok (.ifCond .ne 6, 3) := by decide +kernel
theorem dX6_most_18 : decode cX6_most 18 = .ok (.bipush (-2), 2) := by decide +kernel
theorem dX6_most_20 : decode cX6_most 20 = .ok (.ireturn, 1) := by decide +kernel
theorem dX6_most_21 : decode cX6_most 21 = .ok (.aload_n 0, 1) := by decide +kernel
theorem dX6_most_22 : decode cX6_most 22 = .ok (.getfield 53, 3) := by decide +kernel
theorem dX6_most_25 : decode cX6_most 25 = .ok (.iload_n 1, 1) := by decide +kernel
theorem dX6_most_26 : decode cX6_most 26 = .ok (.iaload, 1) := by decide +kernel
theorem dX6_most_27 : decode cX6_most 27 = .ok (.istore_n 3, 1) := by decide +kernel
theorem dX6_most_28 : decode cX6_most 28 = .ok (.aload_n 0, 1) := by decide +kernel
theorem dX6_most_29 : decode cX6_most 29 = .ok (.getfield 53, 3) := by decide +kernel
theorem dX6_most_32 : decode cX6_most 32 = .ok (.iload_n 1, 1) := by decide +kernel
theorem dX6_most_33 : decode cX6_most 33 = .ok (.iload_n 2, 1) := by decide +kernel
theorem dX6_most_34 : decode cX6_most 34 = .ok (.iastore, 1) := by decide +kernel
theorem dX6_most_35 : decode cX6_most 35 = .ok (.iload_n 3, 1) := by decide +kernel
theorem dX6_most_36 : decode cX6_most 36 = .ok (.ireturn, 1) := by decide +kernel
theorem dX6_open_0 : decode cX6_open 0 = .ok (.iload_n 1, 1) := by decide +kernel
theorem dX6_open_1 : decode cX6_open 1 = .ok (.iconst 0, 1) := by decide +kernel
theorem dX6_open_2 : decode cX6_open 2 = .ok (.aload_n 0, 1) := by decide +kernel
theorem dX6_open_3 : decode cX6_open 3 = .ok (.getfield 142, 3) := by decide +kernel
theorem dX6_open_6 : decode cX6_open 6 = .ok (.iconst 1, 1) := by decide +kernel
theorem dX6_open_7 : decode cX6_open 7 = .ok (.isub, 1) := by decide +kernel
theorem dX6_open_8 : decode cX6_open 8 = .ok (.invokestatic 76, 3) := by decide +kernel
theorem dX6_open_11 : decode cX6_open 11 = .ok (.ifCond .eq 12, 3) := by decide +kernel
theorem dX6_open_14 : decode cX6_open 14 = .ok (.aload_n 0, 1) := by decide +kernel
theorem dX6_open_15 : decode cX6_open 15 = .ok (.getfield 38, 3) := by decide +kernel
theorem dX6_open_18 : decode cX6_open 18 = .ok (.iload_n 1, 1) := by decide +kernel
theorem dX6_open_19 : decode cX6_open 19 = .ok (.iaload, 1) := by decide +kernel
theorem dX6_open_20 : decode cX6_open 20 = .ok (.ifCond .ne 6, 3) := by decide +kernel
theorem dX6_open_23 : decode cX6_open 23 = .ok (.bipush (-2), 2) := by decide +kernel
theorem dX6_open_25 : decode cX6_open 25 = .ok (.ireturn, 1) := by decide +kernel
theorem dX6_open_26 : decode cX6_open 26 = .ok (.aload_n 0, 1) := by decide +kernel
theorem dX6_open_27 : decode cX6_open 27 = .ok (.getfield 145, 3) := by decide +kernel
theorem dX6_open_30 : decode cX6_open 30 = .ok (.bipush 16, 2) := by decide +kernel
theorem dX6_open_32 : decode cX6_open 32 = .ok (.if_icmp .ne 6, 3) := by decide +kernel
theorem dX6_open_35 : decode cX6_open 35 = .ok (.bipush (-3), 2) := by decide +kernel
theorem dX6_open_37 : decode cX6_open 37 = .ok (.ireturn, 1) := by decide +kernel
theorem dX6_open_38 : decode cX6_open 38 = .ok (.aload_n 0, 1) := by decide +kernel
theorem dX6_open_39 : decode cX6_open 39 = .ok (.getfield 56, 3) := by decide +kernel
theorem dX6_open_42 : decode cX6_open 42 = .ok (.aload_n 0, 1) := by decide +kernel
theorem dX6_open_43 : decode cX6_open 43 = .ok (.getfield 145, 3) := by decide +kernel
theorem dX6_open_46 : decode cX6_open 46 = .ok (.iload_n 1, 1) := by decide +kernel
theorem dX6_open_47 : decode cX6_open 47 = .ok (.iastore, 1) := by decide +kernel
theorem dX6_open_48 : decode cX6_open 48 = .ok (.iconst 0, 1) := by decide +kernel
theorem dX6_open_49 : decode cX6_open 49 = .ok (.istore_n 2, 1) := by decide +kernel
theorem dX6_open_50 : decode cX6_open 50 = .ok (.iload_n 2, 1) := by decide +kernel
theorem dX6_open_51 : decode cX6_open 51 = .ok (.bipush 6, 2) := by decide +kernel
theorem dX6_open_53 : decode cX6_open 53 = .ok (.if_icmp .ge 24, 3) := by decide +kernel
theorem dX6_open_56 : decode cX6_open 56 = .ok (.aload_n 0, 1) := by decide +kernel
theorem dX6_open_57 : decode cX6_open 57 = .ok (.getfield 59, 3) := by decide +kernel
theorem dX6_open_60 : decode cX6_open 60 = .ok (.bipush 6, 2) := by decide +kernel
theorem dX6_open_62 : decode cX6_open 62 = .ok (.aload_n 0, 1) := by decide +kernel
theorem dX6_open_63 : decode cX6_open 63 = .ok (.getfield 145, 3) := by decide +kernel
theorem dX6_open_66 : decode cX6_open 66 = .ok (.imul, 1) := by decide +kernel
theorem dX6_open_67 : decode cX6_open 67 = .ok (.iload_n 2, 1) := by decide +kernel
theorem dX6_open_68 : decode cX6_open 68 = .ok (.iadd, 1) := by decide +kernel
theorem dX6_open_69 : decode cX6_open 69 = .ok (.iconst (-1), 1) := by decide +kernel
theorem dX6_open_70 : decode cX6_open 70 = .ok (.iastore, 1) := by decide +kernel
theorem dX6_open_71 : decode cX6_open 71 = .ok (.iinc 2 1, 3) := by decide +kernel
theorem dX6_open_74 : decode cX6_open 74 = .ok (.goto (-24), 3) := by decide +kernel
theorem dX6_open_77 : decode cX6_open 77 = .ok (.aload_n 0, 1) := by decide +kernel
theorem dX6_open_78 : decode cX6_open 78 = .ok (.dup, 1) := by decide +kernel
theorem dX6_open_79 : decode cX6_open 79 = .ok (.getfield 145, 3) := by decide +kernel
theorem dX6_open_82 : decode cX6_open 82 = .ok (.iconst 1, 1) := by decide +kernel
theorem dX6_open_83 : decode cX6_open 83 = .ok (.iadd, 1) := by decide +kernel
theorem dX6_open_84 : decode cX6_open 84 = .ok (.putfield 145, 3) := by decide +kernel
theorem dX6_open_87 : decode cX6_open 87 = .ok (.aload_n 0, 1) := by decide +kernel
theorem dX6_open_88 : decode cX6_open 88 = .ok (.getfield 145, 3) := by decide +kernel
theorem dX6_open_91 : decode cX6_open 91 = .ok (.iconst 1, 1) := by decide +kernel
theorem dX6_open_92 : decode cX6_open 92 = .ok (.isub, 1) := by decide +kernel
theorem dX6_open_93 : decode cX6_open 93 = .ok (.ireturn, 1) := by decide +kernel
theorem dX6_isTask_0 : decode cX6_isTask 0 = .ok (.iload_n 2, 1) := by decide +kernel
theorem dX6_isTask_1 : decode cX6_isTask 1 = .ok (.iconst 0, 1) := by decide +kernel
theorem dX6_isTask_2 : decode cX6_isTask 2 = .ok (.aload_n 0, 1) := by decide +kernel
theorem dX6_isTask_3 : decode cX6_isTask 3 = .ok (.getfield 145, 3) := by decide +kernel
theorem dX6_isTask_6 : decode cX6_isTask 6 = .ok (.iconst 1, 1) := by decide +kernel
theorem dX6_isTask_7 : decode cX6_isTask 7 = .ok (.isub, 1) := by decide +kernel
theorem dX6_isTask_8 : decode cX6_isTask 8 = .ok (.invokestatic 76, 3) := by decide +kernel
theorem dX6_isTask_11 : decode cX6_isTask 11 = .ok (.ifCond .eq 28, 3) := by decide +kernel
theorem dX6_isTask_14 : decode cX6_isTask 14 = .ok (.iload_n 1, 1) := by decide +kernel
theorem dX6_isTask_15 : decode cX6_isTask 15 = .ok (.iconst 0, 1) := by decide +kernel
theorem dX6_isTask_16 : decode cX6_isTask 16 = .ok (.aload_n 0, 1) := by decide +kernel
theorem dX6_isTask_17 : decode cX6_isTask 17 = .ok (.getfield 38, 3) := by decide +kernel
theorem dX6_isTask_20 : decode cX6_isTask 20 = .ok (.aload_n 0, 1) := by decide +kernel
theorem dX6_isTask_21 : decode cX6_isTask 21 = .ok (.getfield 56, 3) := by decide +kernel
theorem dX6_isTask_24 : decode cX6_isTask 24 = .ok (.iload_n 2, 1) := by decide +kernel
theorem dX6_isTask_25 : decode cX6_isTask 25 = .ok (.iaload, 1) := by decide +kernel
theorem dX6_isTask_26 : decode cX6_isTask 26 = .ok (.iaload, 1) := by decide +kernel
theorem dX6_isTask_27 : decode cX6_isTask 27 = .ok (.iconst 1, 1) := by decide +kernel
theorem dX6_isTask_28 : decode cX6_isTask 28 = .ok (.isub, 1) := by decide +kernel
theorem dX6_isTask_29 : decode cX6_isTask 29 = .ok (.invokestatic 76, 3) := by decide +kernel
theorem dX6_isTask_32 : decode cX6_isTask 32 = .ok (.ifCond .eq 7, 3) := by decide +kernel
theorem dX6_isTask_35 : decode cX6_isTask 35 = .ok (.iconst 1, 1) := by decide +kernel
theorem dX6_isTask_36 : decode cX6_isTask 36 = .ok (.goto 4, 3) := by decide +kernel
theorem dX6_isTask_39 : decode cX6_isTask 39 = .ok (.iconst 0, 1) := by decide +kernel
theorem dX6_isTask_40 : decode cX6_isTask 40 = .ok (.ireturn, 1) := by decide +kernel
theorem dX6_isFit_0 : decode cX6_isFit 0 = .ok (.iconst 0, 1) := by decide +kernel
theorem dX6_isFit_1 : decode cX6_isFit 1 = .ok (.istore_n 3, 1) := by decide +kernel
theorem dX6_isFit_2 : decode cX6_isFit 2 = .ok (.iload_n 3, 1) := by decide +kernel
theorem dX6_isFit_3 : decode cX6_isFit 3 = .ok (.iload_n 2, 1) := by decide +kernel
theorem dX6_isFit_4 : decode cX6_isFit 4 = .ok (.if_icmp .ge 71, 3) := by decide +kernel
theorem dX6_isFit_7 : decode cX6_isFit 7 = .ok (.aload_n 0, 1) := by decide +kernel
theorem dX6_isFit_8 : decode cX6_isFit 8 = .ok (.getfield 69, 3) := by decide +kernel
theorem dX6_isFit_11 : decode cX6_isFit 11 = .ok (.iload_n 3, 1) := by decide +kernel
theorem dX6_isFit_12 : decode cX6_isFit 12 = .ok (.iaload, 1) := by decide +kernel
theorem dX6_isFit_13 : decode cX6_isFit 13 = .ok (.aload_n 0, 1) := by decide +kernel
theorem dX6_isFit_14 : decode cX6_isFit 14 = .ok (.getfield 69, 3) := by decide +kernel
theorem dX6_isFit_17 : decode cX6_isFit 17 = .ok (.iload_n 2, 1) := by decide +kernel
theorem dX6_isFit_18 : decode cX6_isFit 18 = .ok (.iaload, 1) := by decide +kernel
theorem dX6_isFit_19 : decode cX6_isFit 19 = .ok (.if_icmp .ne 7, 3) := by decide +kernel
theorem dX6_isFit_22 : decode cX6_isFit 22 = .ok (.iconst 1, 1) := by decide +kernel
theorem dX6_isFit_23 : decode cX6_isFit 23 = .ok (.goto 4, 3) := by decide +kernel
theorem dX6_isFit_26 : decode cX6_isFit 26 = .ok (.iconst 0, 1) := by decide +kernel
theorem dX6_isFit_27 : decode cX6_isFit 27 = .ok (.istore 4, 2) := by decide +kernel
theorem dX6_isFit_29 : decode cX6_isFit 29 = .ok (.aload_n 0, 1) := by decide +kernel
theorem dX6_isFit_30 : decode cX6_isFit 30 = .ok (.getfield 47, 3) := by decide +kernel
theorem dX6_isFit_33 : decode cX6_isFit 33 = .ok (.iload_n 1, 1) := by decide +kernel
theorem dX6_isFit_34 : decode cX6_isFit 34 = .ok (.iload_n 3, 1) := by decide +kernel
theorem dX6_isFit_35 : decode cX6_isFit 35 = .ok (.iload_n 2, 1) := by decide +kernel
theorem dX6_isFit_36 : decode cX6_isFit 36 = .ok (.invokestatic 157, 3) := by decide +kernel
theorem dX6_isFit_39 : decode cX6_isFit 39 = .ok (.baload, 1) := by decide +kernel
theorem dX6_isFit_40 : decode cX6_isFit 40 = .ok (.ifCond .eq 8, 3) := by decide +kernel
theorem dX6_isFit_43 : decode cX6_isFit 43 = .ok (.iload 4, 2) := by decide +kernel
theorem dX6_isFit_45 : decode cX6_isFit 45 = .ok (.ifCond .ne 22, 3) := by decide +kernel
theorem dX6_isFit_48 : decode cX6_isFit 48 = .ok (.aload_n 0, 1) := by decide +kernel
theorem dX6_isFit_49 : decode cX6_isFit 49 = .ok (.getfield 50, 3) := by decide +kernel
theorem dX6_isFit_52 : decode cX6_isFit 52 = .ok (.iload_n 1, 1) := by decide +kernel
theorem dX6_isFit_53 : decode cX6_isFit 53 = .ok (.iload_n 3, 1) := by decide +kernel
theorem dX6_isFit_54 : decode cX6_isFit 54 = .ok (.iload_n 2, 1) := by decide +kernel
theorem dX6_isFit_55 : decode cX6_isFit 55 = .ok (.invokestatic 157, 3) := by decide +kernel
theorem dX6_isFit_58 : decode cX6_isFit 58 = .ok (.baload, 1) := by decide +kernel
theorem dX6_isFit_59 : decode cX6_isFit 59 = .ok (.ifCond .eq 10, 3) := by decide +kernel
theorem dX6_isFit_62 : decode cX6_isFit 62 = .ok (.iload 4, 2) := by decide +kernel
theorem dX6_isFit_64 : decode cX6_isFit 64 = .ok (.ifCond .ne 5, 3) := by decide +kernel
theorem dX6_isFit_67 : decode cX6_isFit 67 = .ok (.iconst 0, 1) := by decide +kernel
theorem dX6_isFit_68 : decode cX6_isFit 68 = .ok (.ireturn, 1) := by decide +kernel
theorem dX6_isFit_69 : decode cX6_isFit 69 = .ok (.iinc 3 1, 3) := by decide +kernel
theorem dX6_isFit_72 : decode cX6_isFit 72 = .ok (.goto (-70), 3) := by decide +kernel
theorem dX6_isFit_75 : decode cX6_isFit 75 = .ok (.iconst 0, 1) := by decide +kernel
theorem dX6_isFit_76 : decode cX6_isFit 76 = .ok (.istore_n 3, 1) := by decide +kernel
theorem dX6_isFit_77 : decode cX6_isFit 77 = .ok (.iconst 0, 1) := by decide +kernel
theorem dX6_isFit_78 : decode cX6_isFit 78 = .ok (.istore 4, 2) := by decide +kernel
theorem dX6_isFit_80 : decode cX6_isFit 80 = .ok (.iload 4, 2) := by decide +kernel
theorem dX6_isFit_82 : decode cX6_isFit 82 = .ok (.iload_n 2, 1) := by decide +kernel
theorem dX6_isFit_83 : decode cX6_isFit 83 = .ok (.if_icmp .gt 33, 3) := by decide +kernel
theorem dX6_isFit_86 : decode cX6_isFit 86 = .ok (.aload_n 0, 1) := by decide +kernel
theorem dX6_isFit_87 : decode cX6_isFit 87 = .ok (.getfield 69, 3) := by decide +kernel
theorem dX6_isFit_90 : decode cX6_isFit 90 = .ok (.iload 4, 2) := by decide +kernel
theorem dX6_isFit_92 : decode cX6_isFit 92 = .ok (.iaload, 1) := by decide +kernel
theorem dX6_isFit_93 : decode cX6_isFit 93 = .ok (.aload_n 0, 1) := by decide +kernel
theorem dX6_isFit_94 : decode cX6_isFit 94 = .ok (.getfield 69, 3) := by decide +kernel
theorem dX6_isFit_97 : decode cX6_isFit 97 = .ok (.iload_n 2, 1) := by decide +kernel
theorem dX6_isFit_98 : decode cX6_isFit 98 = .ok (.iaload, 1) := by decide +kernel
theorem dX6_isFit_99 : decode cX6_isFit 99 = .ok (.if_icmp .ne 9, 3) := by decide +kernel
theorem dX6_isFit_102 : decode cX6_isFit 102 = .ok (.iload_n 3, 1) := by decide +kernel
theorem dX6_isFit_103 : decode cX6_isFit 103 = .ok (.iconst 1, 1) := by decide +kernel
theorem dX6_isFit_104 : decode cX6_isFit 104 = .ok (.iadd, 1) := by decide +kernel
theorem dX6_isFit_105 : decode cX6_isFit 105 = .ok (.goto 4, 3) := by decide +kernel
theorem dX6_isFit_108 : decode cX6_isFit 108 = .ok (.iload_n 3, 1) := by decide +kernel
theorem dX6_isFit_109 : decode cX6_isFit 109 = .ok (.istore_n 3, 1) := by decide +kernel
theorem dX6_isFit_110 : decode cX6_isFit 110 = .ok (.iinc 4 1, 3) := by decide +kernel
theorem dX6_isFit_113 : decode cX6_isFit 113 = .ok (.goto (-33), 3) := by decide +kernel
theorem dX6_isFit_116 : decode cX6_isFit 116 = .ok (.iload_n 3, 1) := by decide +kernel
theorem dX6_isFit_117 : decode cX6_isFit 117 = .ok (.aload_n 0, 1) := by decide +kernel
theorem dX6_isFit_118 : decode cX6_isFit 118 = .ok (.getfield 53, 3) := by decide +kernel
theorem dX6_isFit_121 : decode cX6_isFit 121 = .ok (.iload_n 1, 1) := by decide +kernel
theorem dX6_isFit_122 : decode cX6_isFit 122 = .ok (.iaload, 1) := by decide +kernel
theorem dX6_isFit_123 : decode cX6_isFit 123 = .ok (.if_icmp .gt 7, 3) := by decide +kernel
theorem dX6_isFit_126 : decode cX6_isFit 126 = .ok (.iconst 1, 1) := by decide +kernel
theorem dX6_isFit_127 : decode cX6_isFit 127 = .ok (.goto 4, 3) := by decide +kernel
theorem dX6_isFit_130 : decode cX6_isFit 130 = .ok (.iconst 0, 1) := by decide +kernel
theorem dX6_isFit_131 : decode cX6_isFit 131 = .ok (.ireturn, 1) := by decide +kernel
theorem dX6_canBe_0 : decode cX6_canBe 0 = .ok (.aload_n 0, 1) := by decide +kernel
theorem dX6_canBe_1 : decode cX6_canBe 1 = .ok (.getfield 56, 3) := by decide +kernel
theorem dX6_canBe_4 : decode cX6_canBe 4 = .ok (.iload_n 1, 1) := by decide +kernel
theorem dX6_canBe_5 : decode cX6_canBe 5 = .ok (.iaload, 1) := by decide +kernel
theorem dX6_canBe_6 : decode cX6_canBe 6 = .ok (.istore_n 2, 1) := by decide +kernel
theorem dX6_canBe_7 : decode cX6_canBe 7 = .ok (.aload_n 0, 1) := by decide +kernel
theorem dX6_canBe_8 : decode cX6_canBe 8 = .ok (.getfield 38, 3) := by decide +kernel
theorem dX6_canBe_11 : decode cX6_canBe 11 = .ok (.iload_n 2, 1) := by decide +kernel
theorem dX6_canBe_12 : decode cX6_canBe 12 = .ok (.iaload, 1) := by decide +kernel
theorem dX6_canBe_13 : decode cX6_canBe 13 = .ok (.istore_n 3, 1) := by decide +kernel
theorem dX6_canBe_14 : decode cX6_canBe 14 = .ok (.iconst 0, 1) := by decide +kernel
theorem dX6_canBe_15 : decode cX6_canBe 15 = .ok (.istore 4, 2) := by decide +kernel
theorem dX6_canBe_17 : decode cX6_canBe 17 = .ok (.iconst 0, 1) := by decide +kernel
theorem dX6_canBe_18 : decode cX6_canBe 18 = .ok (.istore 5, 2) := by decide +kernel
theorem dX6_canBe_20 : decode cX6_canBe 20 = .ok (.aload_n 0, 1) := by decide +kernel
theorem dX6_canBe_21 : decode cX6_canBe 21 = .ok (.getfield 69, 3) := by decide +kernel
theorem dX6_canBe_24 : decode cX6_canBe 24 = .ok (.iconst 0, 1) := by decide +kernel
theorem dX6_canBe_25 : decode cX6_canBe 25 = .ok (.iconst (-1), 1) := by decide +kernel
theorem dX6_canBe_26 : decode cX6_canBe 26 = .ok (.iastore, 1) := by decide +kernel
theorem dX6_canBe_27 : decode cX6_canBe 27 = .ok (.iload 4, 2) := by decide +kernel
theorem dX6_canBe_29 : decode cX6_canBe 29 = .ok (.ifCond .lt 194, 3) := by decide +kernel
theorem dX6_canBe_32 : decode cX6_canBe 32 = .ok (.iload 4, 2) := by decide +kernel
theorem dX6_canBe_34 : decode cX6_canBe 34 = .ok (.iload_n 3, 1) := by decide +kernel
theorem dX6_canBe_35 : decode cX6_canBe 35 = .ok (.if_icmp .ge 188, 3) := by decide +kernel
theorem dX6_canBe_38 : decode cX6_canBe 38 = .ok (.aload_n 0, 1) := by decide +kernel
theorem dX6_canBe_39 : decode cX6_canBe 39 = .ok (.getfield 59, 3) := by decide +kernel
theorem dX6_canBe_42 : decode cX6_canBe 42 = .ok (.bipush 6, 2) := by decide +kernel
theorem dX6_canBe_44 : decode cX6_canBe 44 = .ok (.iload_n 1, 1) := by decide +kernel
theorem dX6_canBe_45 : decode cX6_canBe 45 = .ok (.imul, 1) := by decide +kernel
theorem dX6_canBe_46 : decode cX6_canBe 46 = .ok (.iload 4, 2) := by decide +kernel
theorem dX6_canBe_48 : decode cX6_canBe 48 = .ok (.iadd, 1) := by decide +kernel
theorem dX6_canBe_49 : decode cX6_canBe 49 = .ok (.iaload, 1) := by decide +kernel
theorem dX6_canBe_50 : decode cX6_canBe 50 = .ok (.istore 6, 2) := by decide +kernel
theorem dX6_canBe_52 : decode cX6_canBe 52 = .ok (.iload 6, 2) := by decide +kernel
theorem dX6_canBe_54 : decode cX6_canBe 54 = .ok (.ifCond .lt 42, 3) := by decide +kernel
theorem dX6_canBe_57 : decode cX6_canBe 57 = .ok (.aload_n 0, 1) := by decide +kernel
theorem dX6_canBe_58 : decode cX6_canBe 58 = .ok (.getfield 69, 3) := by decide +kernel
theorem dX6_canBe_61 : decode cX6_canBe 61 = .ok (.iload 4, 2) := by decide +kernel
theorem dX6_canBe_63 : decode cX6_canBe 63 = .ok (.iaload, 1) := by decide +kernel
theorem dX6_canBe_64 : decode cX6_canBe 64 = .ok (.ifCond .ge 7, 3) := by decide +kernel
theorem dX6_canBe_67 : decode cX6_canBe 67 = .ok (.iconst 1, 1) := by decide +kernel
theorem dX6_canBe_68 : decode cX6_canBe 68 = .ok (.goto 4, 3) := by decide +kernel
theorem dX6_canBe_71 : decode cX6_canBe 71 = .ok (.iconst 0, 1) := by decide +kernel
theorem dX6_canBe_72 : decode cX6_canBe 72 = .ok (.istore 5, 2) := by decide +kernel
theorem dX6_canBe_74 : decode cX6_canBe 74 = .ok (.aload_n 0, 1) := by decide +kernel
theorem dX6_canBe_75 : decode cX6_canBe 75 = .ok (.getfield 69, 3) := by decide +kernel
theorem dX6_canBe_78 : decode cX6_canBe 78 = .ok (.iload 4, 2) := by decide +kernel
theorem dX6_canBe_80 : decode cX6_canBe 80 = .ok (.iload 5, 2) := by decide +kernel
theorem dX6_canBe_82 : decode cX6_canBe 82 = .ok (.ifCond .eq 8, 3) := by decide +kernel
theorem dX6_canBe_85 : decode cX6_canBe 85 = .ok (.iload 6, 2) := by decide +kernel
theorem dX6_canBe_87 : decode cX6_canBe 87 = .ok (.goto 5, 3) := by decide +kernel
theorem dX6_canBe_90 : decode cX6_canBe 90 = .ok (.bipush 12, 2) := by decide +kernel
theorem dX6_canBe_92 : decode cX6_canBe 92 = .ok (.iastore, 1) := by decide +kernel
theorem dX6_canBe_93 : decode cX6_canBe 93 = .ok (.goto 89, 3) := by decide +kernel
theorem dX6_canBe_96 : decode cX6_canBe 96 = .ok (.aload_n 0, 1) := by decide +kernel
theorem dX6_canBe_97 : decode cX6_canBe 97 = .ok (.getfield 69, 3) := by decide +kernel
theorem dX6_canBe_100 : decode cX6_canBe 100 = .ok (.iload 4, 2) := by decide +kernel
theorem dX6_canBe_102 : decode cX6_canBe 102 = .ok (.dup2, 1) := by decide +kernel
theorem dX6_canBe_103 : decode cX6_canBe 103 = .ok (.iaload, 1) := by decide +kernel
theorem dX6_canBe_104 : decode cX6_canBe 104 = .ok (.iconst 1, 1) := by decide +kernel
theorem dX6_canBe_105 : decode cX6_canBe 105 = .ok (.iadd, 1) := by decide +kernel
theorem dX6_canBe_106 : decode cX6_canBe 106 = .ok (.iastore, 1) := by decide +kernel
theorem dX6_canBe_107 : decode cX6_canBe 107 = .ok (.aload_n 0, 1) := by decide +kernel
theorem dX6_canBe_108 : decode cX6_canBe 108 = .ok (.getfield 69, 3) := by decide +kernel
theorem dX6_canBe_111 : decode cX6_canBe 111 = .ok (.iload 4, 2) := by decide +kernel
theorem dX6_canBe_113 : decode cX6_canBe 113 = .ok (.iaload, 1) := by decide +kernel
theorem dX6_canBe_114 : decode cX6_canBe 114 = .ok (.bipush 12, 2) := by decide +kernel
theorem dX6_canBe_116 : decode cX6_canBe 116 = .ok (.if_icmp .ge 47, 3) := by decide +kernel
theorem dX6_canBe_119 : decode cX6_canBe 119 = .ok (.aload_n 0, 1) := by decide +kernel
theorem dX6_canBe_120 : decode cX6_canBe 120 = .ok (.getfield 7, 3) := by decide +kernel
theorem dX6_canBe_123 : decode cX6_canBe 123 = .ok (.aload_n 0, 1) := by decide +kernel
theorem dX6_canBe_124 : decode cX6_canBe 124 = .ok (.getfield 69, 3) := by decide +kernel
theorem dX6_canBe_127 : decode cX6_canBe 127 = .ok (.iload 4, 2) := by decide +kernel
theorem dX6_canBe_129 : decode cX6_canBe 129 = .ok (.iaload, 1) := by decide +kernel
theorem dX6_canBe_130 : decode cX6_canBe 130 = .ok (.iaload, 1) := by decide +kernel
theorem dX6_canBe_131 : decode cX6_canBe 131 = .ok (.aload_n 0, 1) := by decide +kernel
theorem dX6_canBe_132 : decode cX6_canBe 132 = .ok (.getfield 41, 3) := by decide +kernel
theorem dX6_canBe_135 : decode cX6_canBe 135 = .ok (.bipush 6, 2) := by decide +kernel
theorem dX6_canBe_137 : decode cX6_canBe 137 = .ok (.iload_n 2, 1) := by decide +kernel
theorem dX6_canBe_138 : decode cX6_canBe 138 = .ok (.imul, 1) := by decide +kernel
theorem dX6_canBe_139 : decode cX6_canBe 139 = .ok (.iload 4, 2) := by decide +kernel
theorem dX6_canBe_141 : decode cX6_canBe 141 = .ok (.iadd, 1) := by decide +kernel
theorem dX6_canBe_142 : decode cX6_canBe 142 = .ok (.iaload, 1) := by decide +kernel
theorem dX6_canBe_143 : decode cX6_canBe 143 = .ok (.ishr, 1) := by decide +kernel
theorem dX6_canBe_144 : decode cX6_canBe 144 = .ok (.iconst 1, 1) := by decide +kernel
theorem dX6_canBe_145 : decode cX6_canBe 145 = .ok (.iand, 1) := by decide +kernel
theorem dX6_canBe_146 : decode cX6_canBe 146 = .ok (.ifCond .ne 17, 3) := by decide +kernel
theorem dX6_canBe_149 : decode cX6_canBe 149 = .ok (.aload_n 0, 1) := by decide +kernel
theorem dX6_canBe_150 : decode cX6_canBe 150 = .ok (.getfield 69, 3) := by decide +kernel
theorem dX6_canBe_153 : decode cX6_canBe 153 = .ok (.iload 4, 2) := by decide +kernel
theorem dX6_canBe_155 : decode cX6_canBe 155 = .ok (.dup2, 1) := by decide +kernel
theorem dX6_canBe_156 : decode cX6_canBe 156 = .ok (.iaload, 1) := by decide +kernel
theorem dX6_canBe_157 : decode cX6_canBe 157 = .ok (.iconst 1, 1) := by decide +kernel
theorem dX6_canBe_158 : decode cX6_canBe 158 = .ok (.iadd, 1) := by decide +kernel
theorem dX6_canBe_159 : decode cX6_canBe 159 = .ok (.iastore, 1) := by decide +kernel
theorem dX6_canBe_160 : decode cX6_canBe 160 = .ok (.goto (-53), 3) := by decide +kernel
theorem dX6_canBe_163 : decode cX6_canBe 163 = .ok (.aload_n 0, 1) := by decide +kernel
theorem dX6_canBe_164 : decode cX6_canBe 164 = .ok (.getfield 69, 3) := by decide +kernel
theorem dX6_canBe_167 : decode cX6_canBe 167 = .ok (.iload 4, 2) := by decide +kernel
theorem dX6_canBe_169 : decode cX6_canBe 169 = .ok (.iaload, 1) := by decide +kernel
theorem dX6_canBe_170 : decode cX6_canBe 170 = .ok (.bipush 12, 2) := by decide +kernel
theorem dX6_canBe_172 : decode cX6_canBe 172 = .ok (.if_icmp .ge 7, 3) := by decide +kernel
theorem dX6_canBe_175 : decode cX6_canBe 175 = .ok (.iconst 1, 1) := by decide +kernel
theorem dX6_canBe_176 : decode cX6_canBe 176 = .ok (.goto 4, 3) := by decide +kernel
theorem dX6_canBe_179 : decode cX6_canBe 179 = .ok (.iconst 0, 1) := by decide +kernel
theorem dX6_canBe_180 : decode cX6_canBe 180 = .ok (.istore 5, 2) := by decide +kernel
theorem dX6_canBe_182 : decode cX6_canBe 182 = .ok (.iload 5, 2) := by decide +kernel
theorem dX6_canBe_184 : decode cX6_canBe 184 = .ok (.ifCond .ne 9, 3) := by decide +kernel
theorem dX6_canBe_187 : decode cX6_canBe 187 = .ok (.iinc 4 (-1), 3) := by decide +kernel
theorem dX6_canBe_190 : decode cX6_canBe 190 = .ok (.goto 30, 3) := by decide +kernel
theorem dX6_canBe_193 : decode cX6_canBe 193 = .ok (.aload_n 0, 1) := by decide +kernel
theorem dX6_canBe_194 : decode cX6_canBe 194 = .ok (.iload_n 2, 1) := by decide +kernel
theorem dX6_canBe_195 : decode cX6_canBe 195 = .ok (.iload 4, 2) := by decide +kernel
theorem dX6_canBe_197 : decode cX6_canBe 197 = .ok (.invokevirtual 160, 3) := by decide +kernel
theorem dX6_canBe_200 : decode cX6_canBe 200 = .ok (.ifCond .eq 20, 3) := by decide +kernel
theorem dX6_canBe_203 : decode cX6_canBe 203 = .ok (.iinc 4 1, 3) := by decide +kernel
theorem dX6_canBe_206 : decode cX6_canBe 206 = .ok (.iload 4, 2) := by decide +kernel
theorem dX6_canBe_208 : decode cX6_canBe 208 = .ok (.iload_n 3, 1) := by decide +kernel
theorem dX6_canBe_209 : decode cX6_canBe 209 = .ok (.if_icmp .ge 11, 3) := by decide +kernel
theorem dX6_canBe_212 : decode cX6_canBe 212 = .ok (.aload_n 0, 1) := by decide +kernel
theorem dX6_canBe_213 : decode cX6_canBe 213 = .ok (.getfield 69, 3) := by decide +kernel
theorem dX6_canBe_216 : decode cX6_canBe 216 = .ok (.iload 4, 2) := by decide +kernel
theorem dX6_canBe_218 : decode cX6_canBe 218 = .ok (.iconst (-1), 1) := by decide +kernel
theorem dX6_canBe_219 : decode cX6_canBe 219 = .ok (.iastore, 1) := by decide +kernel
theorem dX6_canBe_220 : decode cX6_canBe 220 = .ok (.goto (-193), 3) := by decide +kernel
theorem dX6_canBe_223 : decode cX6_canBe 223 = .ok (.iload 4, 2) := by decide +kernel
theorem dX6_canBe_225 : decode cX6_canBe 225 = .ok (.iload_n 3, 1) := by decide +kernel
theorem dX6_canBe_226 : decode cX6_canBe 226 = .ok (.if_icmp .ne 7, 3) := by decide +kernel
theorem dX6_canBe_229 : decode cX6_canBe 229 = .ok (.iconst 1, 1) := by decide +kernel
theorem dX6_canBe_230 : decode cX6_canBe 230 = .ok (.goto 4, 3) := by decide +kernel
theorem dX6_canBe_233 : decode cX6_canBe 233 = .ok (.iconst 0, 1) := by decide +kernel
theorem dX6_canBe_234 : decode cX6_canBe 234 = .ok (.ireturn, 1) := by decide +kernel
theorem dX6_canEnd_0 : decode cX6_canEnd 0 = .ok (.iload_n 1, 1) := by decide +kernel
theorem dX6_canEnd_1 : decode cX6_canEnd 1 = .ok (.iconst 0, 1) := by decide +kernel
theorem dX6_canEnd_2 : decode cX6_canEnd 2 = .ok (.aload_n 0, 1) := by decide +kernel
theorem dX6_canEnd_3 : decode cX6_canEnd 3 = .ok (.getfield 145, 3) := by decide +kernel
theorem dX6_canEnd_6 : decode cX6_canEnd 6 = .ok (.iconst 1, 1) := by decide +kernel
theorem dX6_canEnd_7 : decode cX6_canEnd 7 = .ok (.isub, 1) := by decide +kernel
theorem dX6_canEnd_8 : decode cX6_canEnd 8 = .ok (.invokestatic 76, 3) := by decide +kernel
theorem dX6_canEnd_11 : decode cX6_canEnd 11 = .ok (.ifCond .eq 19, 3) := by decide +kernel
theorem dX6_canEnd_14 : decode cX6_canEnd 14 = .ok (.aload_n 0, 1) := by decide +kernel
theorem dX6_canEnd_15 : decode cX6_canEnd 15 = .ok (.iload_n 1, 1) := by decide +kernel
theorem dX6_canEnd_16 : decode cX6_canEnd 16 = .ok (.invokevirtual 163, 3) := by decide +kernel
theorem dX6_canEnd_19 : decode cX6_canEnd 19 = .ok (.ifCond .eq 7, 3) := by decide +kernel
theorem dX6_canEnd_22 : decode cX6_canEnd 22 = .ok (.iconst 1, 1) := by decide +kernel
theorem dX6_canEnd_23 : decode cX6_canEnd 23 = .ok (.goto 9, 3) := by decide +kernel
theorem dX6_canEnd_26 : decode cX6_canEnd 26 = .ok (.iconst 0, 1) := by decide +kernel
theorem dX6_canEnd_27 : decode cX6_canEnd 27 = .ok (.goto 5, 3) := by decide +kernel
theorem dX6_canEnd_30 : decode cX6_canEnd 30 = .ok (.bipush (-2), 2) := by decide +kernel
theorem dX6_canEnd_32 : decode cX6_canEnd 32 = .ok (.ireturn, 1) := by decide +kernel
theorem dX6_doer_0 : decode cX6_doer 0 = .ok (.aload_n 0, 1) := by decide +kernel
theorem dX6_doer_1 : decode cX6_doer 1 = .ok (.iload_n 1, 1) := by decide +kernel
theorem dX6_doer_2 : decode cX6_doer 2 = .ok (.iload_n 2, 1) := by decide +kernel
theorem dX6_doer_3 : decode cX6_doer 3 = .ok (.invokevirtual 166, 3) := by decide +kernel
theorem dX6_doer_6 : decode cX6_doer 6 = .ok (.ifCond .eq 17, 3) := by decide +kernel
theorem dX6_doer_9 : decode cX6_doer 9 = .ok (.aload_n 0, 1) := by decide +kernel
theorem dX6_doer_10 : decode cX6_doer 10 = .ok (.getfield 59, 3) := by decide +kernel
theorem dX6_doer_13 : decode cX6_doer 13 = .ok (.bipush 6, 2) := by decide +kernel
theorem dX6_doer_15 : decode cX6_doer 15 = .ok (.iload_n 2, 1) := by decide +kernel
theorem dX6_doer_16 : decode cX6_doer 16 = .ok (.imul, 1) := by decide +kernel
theorem dX6_doer_17 : decode cX6_doer 17 = .ok (.iload_n 1, 1) := by decide +kernel
theorem dX6_doer_18 : decode cX6_doer 18 = .ok (.iadd, 1) := by decide +kernel
theorem dX6_doer_19 : decode cX6_doer 19 = .ok (.iaload, 1) := by decide +kernel
theorem dX6_doer_20 : decode cX6_doer 20 = .ok (.goto 5, 3) := by decide +kernel
theorem dX6_doer_23 : decode cX6_doer 23 = .ok (.bipush (-2), 2) := by decide +kernel
theorem dX6_doer_25 : decode cX6_doer 25 = .ok (.ireturn, 1) := by decide +kernel
theorem dX6_perform_0 : decode cX6_perform 0 = .ok (.aload_n 0, 1) := by decide +kernel
theorem dX6_perform_1 : decode cX6_perform 1 = .ok (.iload_n 1, 1) := by decide +kernel
theorem dX6_perform_2 : decode cX6_perform 2 = .ok (.iload_n 2, 1) := by decide +kernel
theorem dX6_perform_3 : decode cX6_perform 3 = .ok (.invokevirtual 166, 3) := by decide +kernel
theorem dX6_perform_6 : decode cX6_perform 6 = .ok (.ifCond .eq 10, 3) := by decide +kernel
theorem dX6_perform_9 : decode cX6_perform 9 = .ok (.iload_n 3, 1) := by decide +kernel
theorem dX6_perform_10 : decode cX6_perform 10 = .ok (.invokestatic 81, 3) := by decide +kernel
theorem dX6_perform_13 : decode cX6_perform 13 = .ok (.ifCond .ne 6, 3) := by decide +kernel
theorem dX6_perform_16 : decode cX6_perform 16 = .ok (.bipush (-2), 2) := by decide +kernel
theorem dX6_perform_18 : decode cX6_perform 18 = .ok (.ireturn, 1) := by decide +kernel
theorem dX6_perform_19 : decode cX6_perform 19 = .ok (.aload_n 0, 1) := by decide +kernel
theorem dX6_perform_20 : decode cX6_perform 20 = .ok (.getfield 56, 3) := by decide +kernel
theorem dX6_perform_23 : decode cX6_perform 23 = .ok (.iload_n 2, 1) := by decide +kernel
theorem dX6_perform_24 : decode cX6_perform 24 = .ok (.iaload, 1) := by decide +kernel
theorem dX6_perform_25 : decode cX6_perform 25 = .ok (.istore 4, 2) := by decide +kernel
theorem dX6_perform_27 : decode cX6_perform 27 = .ok (.bipush 6, 2) := by decide +kernel
theorem dX6_perform_29 : decode cX6_perform 29 = .ok (.iload_n 2, 1) := by decide +kernel
theorem dX6_perform_30 : decode cX6_perform 30 = .ok (.imul, 1) := by decide +kernel
theorem dX6_perform_31 : decode cX6_perform 31 = .ok (.istore 5, 2) := by decide +kernel
theorem dX6_perform_33 : decode cX6_perform 33 = .ok (.aload_n 0, 1) := by decide +kernel
theorem dX6_perform_34 : decode cX6_perform 34 = .ok (.getfield 38, 3) := by decide +kernel
theorem dX6_perform_37 : decode cX6_perform 37 = .ok (.iload 4, 2) := by decide +kernel
theorem dX6_perform_39 : decode cX6_perform 39 = .ok (.iaload, 1) := by decide +kernel
theorem dX6_perform_40 : decode cX6_perform 40 = .ok (.istore 6, 2) := by decide +kernel
theorem dX6_perform_42 : decode cX6_perform 42 = .ok (.aload_n 0, 1) := by decide +kernel
theorem dX6_perform_43 : decode cX6_perform 43 = .ok (.getfield 59, 3) := by decide +kernel
theorem dX6_perform_46 : decode cX6_perform 46 = .ok (.iload 5, 2) := by decide +kernel
theorem dX6_perform_48 : decode cX6_perform 48 = .ok (.iload_n 1, 1) := by decide +kernel
theorem dX6_perform_49 : decode cX6_perform 49 = .ok (.iadd, 1) := by decide +kernel
theorem dX6_perform_50 : decode cX6_perform 50 = .ok (.iaload, 1) := by decide +kernel
theorem dX6_perform_51 : decode cX6_perform 51 = .ok (.ifCond .lt 6, 3) := by decide +kernel
theorem dX6_perform_54 : decode cX6_perform 54 = .ok (.bipush (-16), 2) := by decide +kernel
theorem dX6_perform_56 : decode cX6_perform 56 = .ok (.ireturn, 1) := by decide +kernel
theorem dX6_perform_57 : decode cX6_perform 57 = .ok (.iconst 0, 1) := by decide +kernel
theorem dX6_perform_58 : decode cX6_perform 58 = .ok (.istore 7, 2) := by decide +kernel
theorem dX6_perform_60 : decode cX6_perform 60 = .ok (.iconst 0, 1) := by decide +kernel
theorem dX6_perform_61 : decode cX6_perform 61 = .ok (.istore 8, 2) := by decide +kernel
theorem dX6_perform_63 : decode cX6_perform 63 = .ok (.iconst 0, 1) := by decide +kernel
theorem dX6_perform_64 : decode cX6_perform 64 = .ok (.istore 9, 2) := by decide +kernel
theorem dX6_perform_66 : decode cX6_perform 66 = .ok (.iconst 0, 1) := by decide +kernel
theorem dX6_perform_67 : decode cX6_perform 67 = .ok (.istore 10, 2) := by decide +kernel
theorem dX6_perform_69 : decode cX6_perform 69 = .ok (.iconst 0, 1) := by decide +kernel
theorem dX6_perform_70 : decode cX6_perform 70 = .ok (.istore 11, 2) := by decide +kernel
theorem dX6_perform_72 : decode cX6_perform 72 = .ok (.iconst 0, 1) := by decide +kernel
theorem dX6_perform_73 : decode cX6_perform 73 = .ok (.istore 12, 2) := by decide +kernel
theorem dX6_perform_75 : decode cX6_perform 75 = .ok (.iload 12, 2) := by decide +kernel
theorem dX6_perform_77 : decode cX6_perform 77 = .ok (.iload 6, 2) := by decide +kernel
theorem dX6_perform_79 : decode cX6_perform 79 = .ok (.if_icmp .ge 177, 3) := by decide +kernel
theorem dX6_perform_82 : decode cX6_perform 82 = .ok (.aload_n 0, 1) := by decide +kernel
theorem dX6_perform_83 : decode cX6_perform 83 = .ok (.getfield 59, 3) := by decide +kernel
theorem dX6_perform_86 : decode cX6_perform 86 = .ok (.iload 5, 2) := by decide +kernel
theorem dX6_perform_88 : decode cX6_perform 88 = .ok (.iload 12, 2) := by decide +kernel
theorem dX6_perform_90 : decode cX6_perform 90 = .ok (.iadd, 1) := by decide +kernel
theorem dX6_perform_91 : decode cX6_perform 91 = .ok (.iaload, 1) := by decide +kernel
theorem dX6_perform_92 : decode cX6_perform 92 = .ok (.istore 13, 2) := by decide +kernel
theorem dX6_perform_94 : decode cX6_perform 94 = .ok (.iload 7, 2) := by decide +kernel
theorem dX6_perform_96 : decode cX6_perform 96 = .ok (.ifCond .ne 29, 3) := by decide +kernel
theorem dX6_perform_99 : decode cX6_perform 99 = .ok (.aload_n 0, 1) := by decide +kernel
theorem dX6_perform_100 : decode cX6_perform 100 = .ok (.getfield 44, 3) := by decide +kernel
theorem dX6_perform_103 : decode cX6_perform 103 = .ok (.bipush 6, 2) := by decide +kernel
theorem dX6_perform_105 : decode cX6_perform 105 = .ok (.iload 4, 2) := by decide +kernel
theorem dX6_perform_107 : decode cX6_perform 107 = .ok (.imul, 1) := by decide +kernel
theorem dX6_perform_108 : decode cX6_perform 108 = .ok (.iload_n 1, 1) := by decide +kernel
theorem dX6_perform_109 : decode cX6_perform 109 = .ok (.iadd, 1) := by decide +kernel
theorem dX6_perform_110 : decode cX6_perform 110 = .ok (.iaload, 1) := by decide +kernel
theorem dX6_perform_111 : decode cX6_perform 111 = .ok (.iload 12, 2) := by decide +kernel
theorem dX6_perform_113 : decode cX6_perform 113 = .ok (.ishr, 1) := by decide +kernel
theorem dX6_perform_114 : decode cX6_perform 114 = .ok (.iconst 1, 1) := by decide +kernel
theorem dX6_perform_115 : decode cX6_perform 115 = .ok (.iand, 1) := by decide +kernel
theorem dX6_perform_116 : decode cX6_perform 116 = .ok (.iconst 1, 1) := by decide +kernel
theorem dX6_perform_117 : decode cX6_perform 117 = .ok (.if_icmp .ne 12, 3) := by decide +kernel
theorem dX6_perform_120 : decode cX6_perform 120 = .ok (.iload 13, 2) := by decide +kernel
theorem dX6_perform_122 : decode cX6_perform 122 = .ok (.ifCond .ge 7, 3) := by decide +kernel
theorem dX6_perform_125 : decode cX6_perform 125 = .ok (.iconst 1, 1) := by decide +kernel
theorem dX6_perform_126 : decode cX6_perform 126 = .ok (.goto 4, 3) := by decide +kernel
theorem dX6_perform_129 : decode cX6_perform 129 = .ok (.iconst 0, 1) := by decide +kernel
theorem dX6_perform_130 : decode cX6_perform 130 = .ok (.istore 7, 2) := by decide +kernel
theorem dX6_perform_132 : decode cX6_perform 132 = .ok (.iload 8, 2) := by decide +kernel
theorem dX6_perform_134 : decode cX6_perform 134 = .ok (.ifCond .ne 31, 3) := by decide +kernel
theorem dX6_perform_137 : decode cX6_perform 137 = .ok (.iload 12, 2) := by decide +kernel
theorem dX6_perform_139 : decode cX6_perform 139 = .ok (.iload_n 1, 1) := by decide +kernel
theorem dX6_perform_140 : decode cX6_perform 140 = .ok (.if_icmp .eq 29, 3) := by decide +kernel
theorem dX6_perform_143 : decode cX6_perform 143 = .ok (.iload 13, 2) := by decide +kernel
theorem dX6_perform_145 : decode cX6_perform 145 = .ok (.iload_n 3, 1) := by decide +kernel
theorem dX6_perform_146 : decode cX6_perform 146 = .ok (.if_icmp .ne 23, 3) := by decide +kernel
theorem dX6_perform_149 : decode cX6_perform 149 = .ok (.aload_n 0, 1) := by decide +kernel
theorem dX6_perform_150 : decode cX6_perform 150 = .ok (.getfield 47, 3) := by decide +kernel
theorem dX6_perform_153 : decode cX6_perform 153 = .ok (.iload 4, 2) := by decide +kernel
theorem dX6_perform_155 : decode cX6_perform 155 = .ok (.iload 12, 2) := by decide +kernel
theorem dX6_perform_157 : decode cX6_perform 157 = .ok (.iload_n 1, 1) := by decide +kernel
theorem dX6_perform_158 : decode cX6_perform 158 = .ok (.invokestatic 157, 3) := by decide +kernel
theorem dX6_perform_161 : decode cX6_perform 161 = .ok (.baload, 1) := by decide +kernel
theorem dX6_perform_162 : decode cX6_perform 162 = .ok (.ifCond .eq 7, 3) := by decide +kernel
theorem dX6_perform_165 : decode cX6_perform 165 = .ok (.iconst 1, 1) := by decide +kernel
theorem dX6_perform_166 : decode cX6_perform 166 = .ok (.goto 4, 3) := by decide +kernel
theorem dX6_perform_169 : decode cX6_perform 169 = .ok (.iconst 0, 1) := by decide +kernel
theorem dX6_perform_170 : decode cX6_perform 170 = .ok (.istore 8, 2) := by decide +kernel
theorem dX6_perform_172 : decode cX6_perform 172 = .ok (.iload 9, 2) := by decide +kernel
theorem dX6_perform_174 : decode cX6_perform 174 = .ok (.ifCond .ne 36, 3) := by decide +kernel
theorem dX6_perform_177 : decode cX6_perform 177 = .ok (.iload 12, 2) := by decide +kernel
theorem dX6_perform_179 : decode cX6_perform 179 = .ok (.iload_n 1, 1) := by decide +kernel
theorem dX6_perform_180 : decode cX6_perform 180 = .ok (.if_icmp .eq 34, 3) := by decide +kernel
theorem dX6_perform_183 : decode cX6_perform 183 = .ok (.iload 13, 2) := by decide +kernel
theorem dX6_perform_185 : decode cX6_perform 185 = .ok (.ifCond .lt 29, 3) := by decide +kernel
theorem dX6_perform_188 : decode cX6_perform 188 = .ok (.iload 13, 2) := by decide +kernel
theorem dX6_perform_190 : decode cX6_perform 190 = .ok (.iload_n 3, 1) := by decide +kernel
theorem dX6_perform_191 : decode cX6_perform 191 = .ok (.if_icmp .eq 23, 3) := by decide +kernel
theorem dX6_perform_194 : decode cX6_perform 194 = .ok (.aload_n 0, 1) := by decide +kernel
theorem dX6_perform_195 : decode cX6_perform 195 = .ok (.getfield 50, 3) := by decide +kernel
theorem dX6_perform_198 : decode cX6_perform 198 = .ok (.iload 4, 2) := by decide +kernel
theorem dX6_perform_200 : decode cX6_perform 200 = .ok (.iload 12, 2) := by decide +kernel
theorem dX6_perform_202 : decode cX6_perform 202 = .ok (.iload_n 1, 1) := by decide +kernel
theorem dX6_perform_203 : decode cX6_perform 203 = .ok (.invokestatic 157, 3) := by decide +kernel
theorem dX6_perform_206 : decode cX6_perform 206 = .ok (.baload, 1) := by decide +kernel
theorem dX6_perform_207 : decode cX6_perform 207 = .ok (.ifCond .eq 7, 3) := by decide +kernel
theorem dX6_perform_210 : decode cX6_perform 210 = .ok (.iconst 1, 1) := by decide +kernel
theorem dX6_perform_211 : decode cX6_perform 211 = .ok (.goto 4, 3) := by decide +kernel
theorem dX6_perform_214 : decode cX6_perform 214 = .ok (.iconst 0, 1) := by decide +kernel
theorem dX6_perform_215 : decode cX6_perform 215 = .ok (.istore 9, 2) := by decide +kernel
theorem dX6_perform_217 : decode cX6_perform 217 = .ok (.iload 13, 2) := by decide +kernel
theorem dX6_perform_219 : decode cX6_perform 219 = .ok (.iload_n 3, 1) := by decide +kernel
theorem dX6_perform_220 : decode cX6_perform 220 = .ok (.if_icmp .ne 10, 3) := by decide +kernel
theorem dX6_perform_223 : decode cX6_perform 223 = .ok (.iload 10, 2) := by decide +kernel
theorem dX6_perform_225 : decode cX6_perform 225 = .ok (.iconst 1, 1) := by decide +kernel
theorem dX6_perform_226 : decode cX6_perform 226 = .ok (.iadd, 1) := by decide +kernel
theorem dX6_perform_227 : decode cX6_perform 227 = .ok (.goto 5, 3) := by decide +kernel
theorem dX6_perform_230 : decode cX6_perform 230 = .ok (.iload 10, 2) := by decide +kernel
theorem dX6_perform_232 : decode cX6_perform 232 = .ok (.istore 10, 2) := by decide +kernel
theorem dX6_perform_234 : decode cX6_perform 234 = .ok (.iload 13, 2) := by decide +kernel
theorem dX6_perform_236 : decode cX6_perform 236 = .ok (.ifCond .ge 10, 3) := by decide +kernel
theorem dX6_perform_239 : decode cX6_perform 239 = .ok (.iload 11, 2) := by decide +kernel
theorem dX6_perform_241 : decode cX6_perform 241 = .ok (.iconst 1, 1) := by decide +kernel
theorem dX6_perform_242 : decode cX6_perform 242 = .ok (.iadd, 1) := by decide +kernel
theorem dX6_perform_243 : decode cX6_perform 243 = .ok (.goto 5, 3) := by decide +kernel
theorem dX6_perform_246 : decode cX6_perform 246 = .ok (.iload 11, 2) := by decide +kernel
theorem dX6_perform_248 : decode cX6_perform 248 = .ok (.istore 11, 2) := by decide +kernel
theorem dX6_perform_250 : decode cX6_perform 250 = .ok (.iinc 12 1, 3) := by decide +kernel
theorem dX6_perform_253 : decode cX6_perform 253 = .ok (.goto (-178), 3) := by decide +kernel
theorem dX6_perform_256 : decode cX6_perform 256 = .ok (.iload 7, 2) := by decide +kernel
theorem dX6_perform_258 : decode cX6_perform 258 = .ok (.ifCond .eq 6, 3) := by decide +kernel
theorem dX6_perform_261 : decode cX6_perform 261 = .ok (.bipush (-17), 2) := by decide +kernel
theorem dX6_perform_263 : decode cX6_perform 263 = .ok (.ireturn, 1) := by decide +kernel
theorem dX6_perform_264 : decode cX6_perform 264 = .ok (.aload_n 0, 1) := by decide +kernel
theorem dX6_perform_265 : decode cX6_perform 265 = .ok (.getfield 7, 3) := by decide +kernel
theorem dX6_perform_268 : decode cX6_perform 268 = .ok (.iload_n 3, 1) := by decide +kernel
theorem dX6_perform_269 : decode cX6_perform 269 = .ok (.iaload, 1) := by decide +kernel
theorem dX6_perform_270 : decode cX6_perform 270 = .ok (.aload_n 0, 1) := by decide +kernel
theorem dX6_perform_271 : decode cX6_perform 271 = .ok (.getfield 41, 3) := by decide +kernel
theorem dX6_perform_274 : decode cX6_perform 274 = .ok (.bipush 6, 2) := by decide +kernel
theorem dX6_perform_276 : decode cX6_perform 276 = .ok (.iload 4, 2) := by decide +kernel
theorem dX6_perform_278 : decode cX6_perform 278 = .ok (.imul, 1) := by decide +kernel
theorem dX6_perform_279 : decode cX6_perform 279 = .ok (.iload_n 1, 1) := by decide +kernel
theorem dX6_perform_280 : decode cX6_perform 280 = .ok (.iadd, 1) := by decide +kernel
theorem dX6_perform_281 : decode cX6_perform 281 = .ok (.iaload, 1) := by decide +kernel
theorem dX6_perform_282 : decode cX6_perform 282 = .ok (.ishr, 1) := by decide +kernel
theorem dX6_perform_283 : decode cX6_perform 283 = .ok (.iconst 1, 1) := by decide +kernel
theorem dX6_perform_284 : decode cX6_perform 284 = .ok (.iand, 1) := by decide +kernel
theorem dX6_perform_285 : decode cX6_perform 285 = .ok (.ifCond .ne 6, 3) := by decide +kernel
theorem dX6_perform_288 : decode cX6_perform 288 = .ok (.bipush (-18), 2) := by decide +kernel
theorem dX6_perform_290 : decode cX6_perform 290 = .ok (.ireturn, 1) := by decide +kernel
theorem dX6_perform_291 : decode cX6_perform 291 = .ok (.iload 8, 2) := by decide +kernel
theorem dX6_perform_293 : decode cX6_perform 293 = .ok (.ifCond .eq 6, 3) := by decide +kernel
theorem dX6_perform_296 : decode cX6_perform 296 = .ok (.bipush (-19), 2) := by decide +kernel
theorem dX6_perform_298 : decode cX6_perform 298 = .ok (.ireturn, 1) := by decide +kernel
theorem dX6_perform_299 : decode cX6_perform 299 = .ok (.iload 9, 2) := by decide +kernel
theorem dX6_perform_301 : decode cX6_perform 301 = .ok (.ifCond .eq 6, 3) := by decide +kernel
theorem dX6_perform_304 : decode cX6_perform 304 = .ok (.bipush (-20), 2) := by decide +kernel
theorem dX6_perform_306 : decode cX6_perform 306 = .ok (.ireturn, 1) := by decide +kernel
theorem dX6_perform_307 : decode cX6_perform 307 = .ok (.iload 10, 2) := by decide +kernel
theorem dX6_perform_309 : decode cX6_perform 309 = .ok (.iconst 1, 1) := by decide +kernel
theorem dX6_perform_310 : decode cX6_perform 310 = .ok (.iadd, 1) := by decide +kernel
theorem dX6_perform_311 : decode cX6_perform 311 = .ok (.aload_n 0, 1) := by decide +kernel
theorem dX6_perform_312 : decode cX6_perform 312 = .ok (.getfield 53, 3) := by decide +kernel
theorem dX6_perform_315 : decode cX6_perform 315 = .ok (.iload 4, 2) := by decide +kernel
theorem dX6_perform_317 : decode cX6_perform 317 = .ok (.iaload, 1) := by decide +kernel
theorem dX6_perform_318 : decode cX6_perform 318 = .ok (.if_icmp .le 6, 3) := by decide +kernel
theorem dX6_perform_321 : decode cX6_perform 321 = .ok (.bipush (-21), 2) := by decide +kernel
theorem dX6_perform_323 : decode cX6_perform 323 = .ok (.ireturn, 1) := by decide +kernel
theorem dX6_perform_324 : decode cX6_perform 324 = .ok (.aload_n 0, 1) := by decide +kernel
theorem dX6_perform_325 : decode cX6_perform 325 = .ok (.iload_n 2, 1) := by decide +kernel
theorem dX6_perform_326 : decode cX6_perform 326 = .ok (.invokevirtual 163, 3) := by decide +kernel
theorem dX6_perform_329 : decode cX6_perform 329 = .ok (.istore 12, 2) := by decide +kernel
theorem dX6_perform_331 : decode cX6_perform 331 = .ok (.aload_n 0, 1) := by decide +kernel
theorem dX6_perform_332 : decode cX6_perform 332 = .ok (.getfield 59, 3) := by decide +kernel
theorem dX6_perform_335 : decode cX6_perform 335 = .ok (.iload 5, 2) := by decide +kernel
theorem dX6_perform_337 : decode cX6_perform 337 = .ok (.iload_n 1, 1) := by decide +kernel
theorem dX6_perform_338 : decode cX6_perform 338 = .ok (.iadd, 1) := by decide +kernel
theorem dX6_perform_339 : decode cX6_perform 339 = .ok (.iload_n 3, 1) := by decide +kernel
theorem dX6_perform_340 : decode cX6_perform 340 = .ok (.iastore, 1) := by decide +kernel
theorem dX6_perform_341 : decode cX6_perform 341 = .ok (.aload_n 0, 1) := by decide +kernel
theorem dX6_perform_342 : decode cX6_perform 342 = .ok (.iload_n 2, 1) := by decide +kernel
theorem dX6_perform_343 : decode cX6_perform 343 = .ok (.invokevirtual 163, 3) := by decide +kernel
theorem dX6_perform_346 : decode cX6_perform 346 = .ok (.istore 13, 2) := by decide +kernel
theorem dX6_perform_348 : decode cX6_perform 348 = .ok (.iload 12, 2) := by decide +kernel
theorem dX6_perform_350 : decode cX6_perform 350 = .ok (.ifCond .eq 8, 3) := by decide +kernel
theorem dX6_perform_353 : decode cX6_perform 353 = .ok (.iload 13, 2) := by decide +kernel
theorem dX6_perform_355 : decode cX6_perform 355 = .ok (.ifCond .eq 13, 3) := by decide +kernel
theorem dX6_perform_358 : decode cX6_perform 358 = .ok (.aload_n 0, 1) := by decide +kernel
theorem dX6_perform_359 : decode cX6_perform 359 = .ok (.getfield 101, 3) := by decide +kernel
theorem dX6_perform_362 : decode cX6_perform 362 = .ok (.sipush 240, 3) := by decide +kernel
theorem dX6_perform_365 : decode cX6_perform 365 = .ok (.if_icmp .ne 31, 3) := by decide +kernel
theorem dX6_perform_368 : decode cX6_perform 368 = .ok (.aload_n 0, 1) := by decide +kernel
theorem dX6_perform_369 : decode cX6_perform 369 = .ok (.getfield 59, 3) := by decide +kernel
theorem dX6_perform_372 : decode cX6_perform 372 = .ok (.iload 5, 2) := by decide +kernel
theorem dX6_perform_374 : decode cX6_perform 374 = .ok (.iload_n 1, 1) := by decide +kernel
theorem dX6_perform_375 : decode cX6_perform 375 = .ok (.iadd, 1) := by decide +kernel
theorem dX6_perform_376 : decode cX6_perform 376 = .ok (.iconst (-1), 1) := by decide +kernel
theorem dX6_perform_377 : decode cX6_perform 377 = .ok (.iastore, 1) := by decide +kernel
theorem dX6_perform_378 : decode cX6_perform 378 = .ok (.iload 12, 2) := by decide +kernel
theorem dX6_perform_380 : decode cX6_perform 380 = .ok (.ifCond .eq 13, 3) := by decide +kernel
theorem dX6_perform_383 : decode cX6_perform 383 = .ok (.iload 13, 2) := by decide +kernel
theorem dX6_perform_385 : decode cX6_perform 385 = .ok (.ifCond .ne 8, 3) := by decide +kernel
theorem dX6_perform_388 : decode cX6_perform 388 = .ok (.bipush (-22), 2) := by decide +kernel
theorem dX6_perform_390 : decode cX6_perform 390 = .ok (.goto 5, 3) := by decide +kernel
theorem dX6_perform_393 : decode cX6_perform 393 = .ok (.bipush (-3), 2) := by decide +kernel
theorem dX6_perform_395 : decode cX6_perform 395 = .ok (.ireturn, 1) := by decide +kernel
theorem dX6_perform_396 : decode cX6_perform 396 = .ok (.aload_n 0, 1) := by decide +kernel
theorem dX6_perform_397 : decode cX6_perform 397 = .ok (.iconst 5, 1) := by decide +kernel
theorem dX6_perform_398 : decode cX6_perform 398 = .ok (.iload_n 3, 1) := by decide +kernel
theorem dX6_perform_399 : decode cX6_perform 399 = .ok (.bipush 8, 2) := by decide +kernel
theorem dX6_perform_401 : decode cX6_perform 401 = .ok (.iload_n 2, 1) := by decide +kernel
theorem dX6_perform_402 : decode cX6_perform 402 = .ok (.imul, 1) := by decide +kernel
theorem dX6_perform_403 : decode cX6_perform 403 = .ok (.iload_n 1, 1) := by decide +kernel
theorem dX6_perform_404 : decode cX6_perform 404 = .ok (.iadd, 1) := by decide +kernel
theorem dX6_perform_405 : decode cX6_perform 405 = .ok (.iconst 0, 1) := by decide +kernel
theorem dX6_perform_406 : decode cX6_perform 406 = .ok (.invokevirtual 125, 3) := by decide +kernel
theorem dX6_perform_409 : decode cX6_perform 409 = .ok (.iload 11, 2) := by decide +kernel
theorem dX6_perform_411 : decode cX6_perform 411 = .ok (.iconst 1, 1) := by decide +kernel
theorem dX6_perform_412 : decode cX6_perform 412 = .ok (.isub, 1) := by decide +kernel
theorem dX6_perform_413 : decode cX6_perform 413 = .ok (.ireturn, 1) := by decide +kernel
theorem dX6_told_0 : decode cX6_told 0 = .ok (.iload_n 1, 1) := by decide +kernel
theorem dX6_told_1 : decode cX6_told 1 = .ok (.invokestatic 81, 3) := by decide +kernel
theorem dX6_told_4 : decode cX6_told 4 = .ok (.ifCond .eq 12, 3) := by decide +kernel
theorem dX6_told_7 : decode cX6_told 7 = .ok (.iload_n 2, 1) := by decide +kernel
theorem dX6_told_8 : decode cX6_told 8 = .ok (.iconst 0, 1) := by decide +kernel
theorem dX6_told_9 : decode cX6_told 9 = .ok (.iconst 3, 1) := by decide +kernel
theorem dX6_told_10 : decode cX6_told 10 = .ok (.invokestatic 76, 3) := by decide +kernel
theorem dX6_told_13 : decode cX6_told 13 = .ok (.ifCond .ne 6, 3) := by decide +kernel
theorem dX6_told_16 : decode cX6_told 16 = .ok (.bipush (-2), 2) := by decide +kernel
theorem dX6_told_18 : decode cX6_told 18 = .ok (.ireturn, 1) := by decide +kernel
theorem dX6_told_19 : decode cX6_told 19 = .ok (.iload_n 2, 1) := by decide +kernel
theorem dX6_told_20 : decode cX6_told 20 = .ok (.ifCond .ne 12, 3) := by decide +kernel
theorem dX6_told_23 : decode cX6_told 23 = .ok (.aload_n 0, 1) := by decide +kernel
theorem dX6_told_24 : decode cX6_told 24 = .ok (.getfield 7, 3) := by decide +kernel
theorem dX6_told_27 : decode cX6_told 27 = .ok (.iload_n 1, 1) := by decide +kernel
theorem dX6_told_28 : decode cX6_told 28 = .ok (.iaload, 1) := by decide +kernel
theorem dX6_told_29 : decode cX6_told 29 = .ok (.goto 36, 3) := by decide +kernel
theorem dX6_told_32 : decode cX6_told 32 = .ok (.iload_n 2, 1) := by decide +kernel
theorem dX6_told_33 : decode cX6_told 33 = .ok (.iconst 1, 1) := by decide +kernel
theorem dX6_told_34 : decode cX6_told 34 = .ok (.if_icmp .ne 12, 3) := by decide +kernel
theorem dX6_told_37 : decode cX6_told 37 = .ok (.aload_n 0, 1) := by decide +kernel
theorem dX6_told_38 : decode cX6_told 38 = .ok (.getfield 13, 3) := by decide +kernel
theorem dX6_told_41 : decode cX6_told 41 = .ok (.iload_n 1, 1) := by decide +kernel
theorem dX6_told_42 : decode cX6_told 42 = .ok (.iaload, 1) := by decide +kernel
theorem dX6_told_43 : decode cX6_told 43 = .ok (.goto 22, 3) := by decide +kernel
theorem dX6_told_46 : decode cX6_told 46 = .ok (.iload_n 2, 1) := by decide +kernel
theorem dX6_told_47 : decode cX6_told 47 = .ok (.iconst 2, 1) := by decide +kernel
theorem dX6_told_48 : decode cX6_told 48 = .ok (.if_icmp .ne 12, 3) := by decide +kernel
theorem dX6_told_51 : decode cX6_told 51 = .ok (.aload_n 0, 1) := by decide +kernel
theorem dX6_told_52 : decode cX6_told 52 = .ok (.getfield 16, 3) := by decide +kernel
theorem dX6_told_55 : decode cX6_told 55 = .ok (.iload_n 1, 1) := by decide +kernel
theorem dX6_told_56 : decode cX6_told 56 = .ok (.iaload, 1) := by decide +kernel
theorem dX6_told_57 : decode cX6_told 57 = .ok (.goto 8, 3) := by decide +kernel
theorem dX6_told_60 : decode cX6_told 60 = .ok (.aload_n 0, 1) := by decide +kernel
theorem dX6_told_61 : decode cX6_told 61 = .ok (.iload_n 1, 1) := by decide +kernel
theorem dX6_told_62 : decode cX6_told 62 = .ok (.invokevirtual 129, 3) := by decide +kernel
theorem dX6_told_65 : decode cX6_told 65 = .ok (.ireturn, 1) := by decide +kernel
theorem dX6_glassTold_0 : decode cX6_glassTold 0 = .ok (.iload_n 1, 1) := by decide +kernel
theorem dX6_glassTold_1 : decode cX6_glassTold 1 = .ok (.iconst 0, 1) := by decide +kernel
theorem dX6_glassTold_2 : decode cX6_glassTold 2 = .ok (.aload_n 0, 1) := by decide +kernel
theorem dX6_glassTold_3 : decode cX6_glassTold 3 = .ok (.getfield 111, 3) := by decide +kernel
theorem dX6_glassTold_6 : decode cX6_glassTold 6 = .ok (.iconst 1, 1) := by decide +kernel
theorem dX6_glassTold_7 : decode cX6_glassTold 7 = .ok (.isub, 1) := by decide +kernel
theorem dX6_glassTold_8 : decode cX6_glassTold 8 = .ok (.invokestatic 76, 3) := by decide +kernel
theorem dX6_glassTold_11 : decode cX6_glassTold 11 = .ok (.ifCond .eq 12, 3) := by decide +kernel
theorem dX6_glassTold_14 : decode cX6_glassTold 14 = .ok (.iload_n 2, 1) := by decide +kernel
theorem dX6_glassTold_15 : decode cX6_glassTold 15 = .ok (.iconst 0, 1) := by decide +kernel
theorem dX6_glassTold_16 : decode cX6_glassTold 16 = .ok (.iconst 4, 1) := by decide +kernel
theorem dX6_glassTold_17 : decode cX6_glassTold 17 = .ok (.invokestatic 76, 3) := by decide +kernel
theorem dX6_glassTold_20 : decode cX6_glassTold 20 = .ok (.ifCond .ne 6, 3) := by decide +kernel
theorem dX6_glassTold_23 : decode cX6_glassTold 23 = .ok (.bipush (-2), 2) := by decide +kernel
theorem dX6_glassTold_25 : decode cX6_glassTold 25 = .ok (.ireturn, 1) := by decide +kernel
theorem dX6_glassTold_26 : decode cX6_glassTold 26 = .ok (.iload_n 2, 1) := by decide +kernel
theorem dX6_glassTold_27 : decode cX6_glassTold 27 = .ok (.tableswitch 69 0 3 #[29, 36, 43, 50], 29) := by decide +kernel
theorem dX6_glassTold_56 : decode cX6_glassTold 56 = .ok (.aload_n 0, 1) := by decide +kernel
theorem dX6_glassTold_57 : decode cX6_glassTold 57 = .ok (.getfield 25, 3) := by decide +kernel
theorem dX6_glassTold_60 : decode cX6_glassTold 60 = .ok (.iload_n 1, 1) := by decide +kernel
theorem dX6_glassTold_61 : decode cX6_glassTold 61 = .ok (.iaload, 1) := by decide +kernel
theorem dX6_glassTold_62 : decode cX6_glassTold 62 = .ok (.ireturn, 1) := by decide +kernel
theorem dX6_glassTold_63 : decode cX6_glassTold 63 = .ok (.aload_n 0, 1) := by decide +kernel
theorem dX6_glassTold_64 : decode cX6_glassTold 64 = .ok (.getfield 28, 3) := by decide +kernel
theorem dX6_glassTold_67 : decode cX6_glassTold 67 = .ok (.iload_n 1, 1) := by decide +kernel
theorem dX6_glassTold_68 : decode cX6_glassTold 68 = .ok (.iaload, 1) := by decide +kernel
theorem dX6_glassTold_69 : decode cX6_glassTold 69 = .ok (.ireturn, 1) := by decide +kernel
theorem dX6_glassTold_70 : decode cX6_glassTold 70 = .ok (.aload_n 0, 1) := by decide +kernel
theorem dX6_glassTold_71 : decode cX6_glassTold 71 = .ok (.getfield 31, 3) := by decide +kernel
theorem dX6_glassTold_74 : decode cX6_glassTold 74 = .ok (.iload_n 1, 1) := by decide +kernel
theorem dX6_glassTold_75 : decode cX6_glassTold 75 = .ok (.iaload, 1) := by decide +kernel
theorem dX6_glassTold_76 : decode cX6_glassTold 76 = .ok (.ireturn, 1) := by decide +kernel
theorem dX6_glassTold_77 : decode cX6_glassTold 77 = .ok (.aload_n 0, 1) := by decide +kernel
theorem dX6_glassTold_78 : decode cX6_glassTold 78 = .ok (.getfield 72, 3) := by decide +kernel
theorem dX6_glassTold_81 : decode cX6_glassTold 81 = .ok (.aload_n 0, 1) := by decide +kernel
theorem dX6_glassTold_82 : decode cX6_glassTold 82 = .ok (.getfield 31, 3) := by decide +kernel
theorem dX6_glassTold_85 : decode cX6_glassTold 85 = .ok (.iload_n 1, 1) := by decide +kernel
theorem dX6_glassTold_86 : decode cX6_glassTold 86 = .ok (.iaload, 1) := by decide +kernel
theorem dX6_glassTold_87 : decode cX6_glassTold 87 = .ok (.if_icmp .ge 7, 3) := by decide +kernel
theorem dX6_glassTold_90 : decode cX6_glassTold 90 = .ok (.iconst 1, 1) := by decide +kernel
theorem dX6_glassTold_91 : decode cX6_glassTold 91 = .ok (.goto 4, 3) := by decide +kernel
theorem dX6_glassTold_94 : decode cX6_glassTold 94 = .ok (.iconst 0, 1) := by decide +kernel
theorem dX6_glassTold_95 : decode cX6_glassTold 95 = .ok (.ireturn, 1) := by decide +kernel
theorem dX6_glassTold_96 : decode cX6_glassTold 96 = .ok (.aload_n 0, 1) := by decide +kernel
theorem dX6_glassTold_97 : decode cX6_glassTold 97 = .ok (.getfield 34, 3) := by decide +kernel
theorem dX6_glassTold_100 : decode cX6_glassTold 100 = .ok (.iload_n 1, 1) := by decide +kernel
theorem dX6_glassTold_101 : decode cX6_glassTold 101 = .ok (.baload, 1) := by decide +kernel
theorem dX6_glassTold_102 : decode cX6_glassTold 102 = .ok (.ifCond .eq 7, 3) := by decide +kernel
theorem dX6_glassTold_105 : decode cX6_glassTold 105 = .ok (.iconst 1, 1) := by decide +kernel
theorem dX6_glassTold_106 : decode cX6_glassTold 106 = .ok (.goto 4, 3) := by decide +kernel
theorem dX6_glassTold_109 : decode cX6_glassTold 109 = .ok (.iconst 0, 1) := by decide +kernel
theorem dX6_glassTold_110 : decode cX6_glassTold 110 = .ok (.ireturn, 1) := by decide +kernel
theorem dX6_entry_0 : decode cX6_entry 0 = .ok (.iload_n 1, 1) := by decide +kernel
theorem dX6_entry_1 : decode cX6_entry 1 = .ok (.iconst 0, 1) := by decide +kernel
theorem dX6_entry_2 : decode cX6_entry 2 = .ok (.aload_n 0, 1) := by decide +kernel
theorem dX6_entry_3 : decode cX6_entry 3 = .ok (.getfield 101, 3) := by decide +kernel
theorem dX6_entry_6 : decode cX6_entry 6 = .ok (.iconst 1, 1) := by decide +kernel
theorem dX6_entry_7 : decode cX6_entry 7 = .ok (.isub, 1) := by decide +kernel
theorem dX6_entry_8 : decode cX6_entry 8 = .ok (.invokestatic 76, 3) := by decide +kernel
theorem dX6_entry_11 : decode cX6_entry 11 = .ok (.ifCond .eq 25, 3) := by decide +kernel
theorem dX6_entry_14 : decode cX6_entry 14 = .ok (.iload_n 2, 1) := by decide +kernel
theorem dX6_entry_15 : decode cX6_entry 15 = .ok (.iconst 0, 1) := by decide +kernel
theorem dX6_entry_16 : decode cX6_entry 16 = .ok (.iconst 4, 1) := by decide +kernel
theorem dX6_entry_17 : decode cX6_entry 17 = .ok (.invokestatic 76, 3) := by decide +kernel
theorem dX6_entry_20 : decode cX6_entry 20 = .ok (.ifCond .eq 16, 3) := by decide +kernel
theorem dX6_entry_23 : decode cX6_entry 23 = .ok (.aload_n 0, 1) := by decide +kernel
theorem dX6_entry_24 : decode cX6_entry 24 = .ok (.getfield 62, 3) := by decide +kernel
theorem dX6_entry_27 : decode cX6_entry 27 = .ok (.iconst 5, 1) := by decide +kernel
theorem dX6_entry_28 : decode cX6_entry 28 = .ok (.iload_n 1, 1) := by decide +kernel
theorem dX6_entry_29 : decode cX6_entry 29 = .ok (.imul, 1) := by decide +kernel
theorem dX6_entry_30 : decode cX6_entry 30 = .ok (.iload_n 2, 1) := by decide +kernel
theorem dX6_entry_31 : decode cX6_entry 31 = .ok (.iadd, 1) := by decide +kernel
theorem dX6_entry_32 : decode cX6_entry 32 = .ok (.iaload, 1) := by decide +kernel
theorem dX6_entry_33 : decode cX6_entry 33 = .ok (.goto 5, 3) := by decide +kernel
theorem dX6_entry_36 : decode cX6_entry 36 = .ok (.bipush (-2), 2) := by decide +kernel
theorem dX6_entry_38 : decode cX6_entry 38 = .ok (.ireturn, 1) := by decide +kernel
theorem dX6_link_0 : decode cX6_link 0 = .ok (.iload_n 1, 1) := by decide +kernel
theorem dX6_link_1 : decode cX6_link 1 = .ok (.iconst 0, 1) := by decide +kernel
theorem dX6_link_2 : decode cX6_link 2 = .ok (.aload_n 0, 1) := by decide +kernel
theorem dX6_link_3 : decode cX6_link 3 = .ok (.getfield 101, 3) := by decide +kernel
theorem dX6_link_6 : decode cX6_link 6 = .ok (.iconst 1, 1) := by decide +kernel
theorem dX6_link_7 : decode cX6_link 7 = .ok (.isub, 1) := by decide +kernel
theorem dX6_link_8 : decode cX6_link 8 = .ok (.invokestatic 76, 3) := by decide +kernel
theorem dX6_link_11 : decode cX6_link 11 = .ok (.ifCond .eq 12, 3) := by decide +kernel
theorem dX6_link_14 : decode cX6_link 14 = .ok (.aload_n 0, 1) := by decide +kernel
theorem dX6_link_15 : decode cX6_link 15 = .ok (.getfield 65, 3) := by decide +kernel
theorem dX6_link_18 : decode cX6_link 18 = .ok (.iload_n 1, 1) := by decide +kernel
theorem dX6_link_19 : decode cX6_link 19 = .ok (.laload, 1) := by decide +kernel
theorem dX6_link_20 : decode cX6_link 20 = .ok (.goto 4, 3) := by decide +kernel
theorem dX6_link_23 : decode cX6_link 23 = .ok (.lconst 0, 1) := by decide +kernel
theorem dX6_link_24 : decode cX6_link 24 = .ok (.lreturn, 1) := by decide +kernel
theorem dX6_alter_0 : decode cX6_alter 0 = .ok (.iload_n 1, 1) := by decide +kernel
theorem dX6_alter_1 : decode cX6_alter 1 = .ok (.iconst 0, 1) := by decide +kernel
theorem dX6_alter_2 : decode cX6_alter 2 = .ok (.aload_n 0, 1) := by decide +kernel
theorem dX6_alter_3 : decode cX6_alter 3 = .ok (.getfield 101, 3) := by decide +kernel
theorem dX6_alter_6 : decode cX6_alter 6 = .ok (.iconst 1, 1) := by decide +kernel
theorem dX6_alter_7 : decode cX6_alter 7 = .ok (.isub, 1) := by decide +kernel
theorem dX6_alter_8 : decode cX6_alter 8 = .ok (.invokestatic 76, 3) := by decide +kernel
theorem dX6_alter_11 : decode cX6_alter 11 = .ok (.ifCond .eq 12, 3) := by decide +kernel
theorem dX6_alter_14 : decode cX6_alter 14 = .ok (.iload_n 2, 1) := by decide +kernel
theorem dX6_alter_15 : decode cX6_alter 15 = .ok (.iconst 0, 1) := by decide +kernel
theorem dX6_alter_16 : decode cX6_alter 16 = .ok (.iconst 4, 1) := by decide +kernel
theorem dX6_alter_17 : decode cX6_alter 17 = .ok (.invokestatic 76, 3) := by decide +kernel
theorem dX6_alter_20 : decode cX6_alter 20 = .ok (.ifCond .ne 6, 3) := by decide +kernel
theorem dX6_alter_23 : decode cX6_alter 23 = .ok (.bipush (-2), 2) := by decide +kernel
theorem dX6_alter_25 : decode cX6_alter 25 = .ok (.ireturn, 1) := by decide +kernel
theorem dX6_alter_26 : decode cX6_alter 26 = .ok (.aload_n 0, 1) := by decide +kernel
theorem dX6_alter_27 : decode cX6_alter 27 = .ok (.getfield 62, 3) := by decide +kernel
theorem dX6_alter_30 : decode cX6_alter 30 = .ok (.iconst 5, 1) := by decide +kernel
theorem dX6_alter_31 : decode cX6_alter 31 = .ok (.iload_n 1, 1) := by decide +kernel
theorem dX6_alter_32 : decode cX6_alter 32 = .ok (.imul, 1) := by decide +kernel
theorem dX6_alter_33 : decode cX6_alter 33 = .ok (.iload_n 2, 1) := by decide +kernel
theorem dX6_alter_34 : decode cX6_alter 34 = .ok (.iadd, 1) := by decide +kernel
theorem dX6_alter_35 : decode cX6_alter 35 = .ok (.iaload, 1) := by decide +kernel
theorem dX6_alter_36 : decode cX6_alter 36 = .ok (.istore 4, 2) := by decide +kernel
theorem dX6_alter_38 : decode cX6_alter 38 = .ok (.aload_n 0, 1) := by decide +kernel
theorem dX6_alter_39 : decode cX6_alter 39 = .ok (.getfield 62, 3) := by decide +kernel
theorem dX6_alter_42 : decode cX6_alter 42 = .ok (.iconst 5, 1) := by decide +kernel
theorem dX6_alter_43 : decode cX6_alter 43 = .ok (.iload_n 1, 1) := by decide +kernel
theorem dX6_alter_44 : decode cX6_alter 44 = .ok (.imul, 1) := by decide +kernel
theorem dX6_alter_45 : decode cX6_alter 45 = .ok (.iload_n 2, 1) := by decide +kernel
theorem dX6_alter_46 : decode cX6_alter 46 = .ok (.iadd, 1) := by decide +kernel
theorem dX6_alter_47 : decode cX6_alter 47 = .ok (.iload_n 3, 1) := by decide +kernel
theorem dX6_alter_48 : decode cX6_alter 48 = .ok (.iastore, 1) := by decide +kernel
theorem dX6_alter_49 : decode cX6_alter 49 = .ok (.iload 4, 2) := by decide +kernel
theorem dX6_alter_51 : decode cX6_alter 51 = .ok (.ireturn, 1) := by decide +kernel
theorem dX6_check_0 : decode cX6_check 0 = .ok (.iconst 0, 1) := by decide +kernel
theorem dX6_check_1 : decode cX6_check 1 = .ok (.istore_n 1, 1) := by decide +kernel
theorem dX6_check_2 : decode cX6_check 2 = .ok (.iload_n 1, 1) := by decide +kernel
theorem dX6_check_3 : decode cX6_check 3 = .ok (.aload_n 0, 1) := by decide +kernel
theorem dX6_check_4 : decode cX6_check 4 = .ok (.getfield 101, 3) := by decide +kernel
theorem dX6_check_7 : decode cX6_check 7 = .ok (.if_icmp .ge 26, 3) := by decide +kernel
theorem dX6_check_10 : decode cX6_check 10 = .ok (.aload_n 0, 1) := by decide +kernel
theorem dX6_check_11 : decode cX6_check 11 = .ok (.iload_n 1, 1) := by decide +kernel
theorem dX6_check_12 : decode cX6_check 12 = .ok (.invokevirtual 104, 3) := by decide +kernel
theorem dX6_check_15 : decode cX6_check 15 = .ok (.aload_n 0, 1) := by decide +kernel
theorem dX6_check_16 : decode cX6_check 16 = .ok (.getfield 65, 3) := by decide +kernel
theorem dX6_check_19 : decode cX6_check 19 = .ok (.iload_n 1, 1) := by decide +kernel
theorem dX6_check_20 : decode cX6_check 20 = .ok (.laload, 1) := by decide +kernel
theorem dX6_check_21 : decode cX6_check 21 = .ok (.lcmp, 1) := by decide +kernel
theorem dX6_check_22 : decode cX6_check 22 = .ok (.ifCond .eq 5, 3) := by decide +kernel
theorem dX6_check_25 : decode cX6_check 25 = .ok (.iload_n 1, 1) := by decide +kernel
theorem dX6_check_26 : decode cX6_check 26 = .ok (.ireturn, 1) := by decide +kernel
theorem dX6_check_27 : decode cX6_check 27 = .ok (.iinc 1 1, 3) := by decide +kernel
theorem dX6_check_30 : decode cX6_check 30 = .ok (.goto (-28), 3) := by decide +kernel
theorem dX6_check_33 : decode cX6_check 33 = .ok (.iconst (-1), 1) := by decide +kernel
theorem dX6_check_34 : decode cX6_check 34 = .ok (.ireturn, 1) := by decide +kernel
theorem dX6_count_0 : decode cX6_count 0 = .ok (.iload_n 1, 1) := by decide +kernel
theorem dX6_count_1 : decode cX6_count 1 = .ok (.tableswitch 78 0 6 #[43, 48, 53, 58, 63, 68, 73], 43) := by decide +kernel
theorem dX6_count_44 : decode cX6_count 44 = .ok (.aload_n 0, 1) := by decide +kernel
theorem dX6_count_45 : decode cX6_count 45 = .ok (.getfield 72, 3) := by decide +kernel
theorem dX6_count_48 : decode cX6_count 48 = .ok (.ireturn, 1) := by decide +kernel
theorem dX6_count_49 : decode cX6_count 49 = .ok (.aload_n 0, 1) := by decide +kernel
theorem dX6_count_50 : decode cX6_count 50 = .ok (.getfield 85, 3) := by decide +kernel
theorem dX6_count_53 : decode cX6_count 53 = .ok (.ireturn, 1) := by decide +kernel
theorem dX6_count_54 : decode cX6_count 54 = .ok (.aload_n 0, 1) := by decide +kernel
theorem dX6_count_55 : decode cX6_count 55 = .ok (.getfield 88, 3) := by decide +kernel
theorem dX6_count_58 : decode cX6_count 58 = .ok (.ireturn, 1) := by decide +kernel
theorem dX6_count_59 : decode cX6_count 59 = .ok (.aload_n 0, 1) := by decide +kernel
theorem dX6_count_60 : decode cX6_count 60 = .ok (.getfield 111, 3) := by decide +kernel
theorem dX6_count_63 : decode cX6_count 63 = .ok (.ireturn, 1) := by decide +kernel
theorem dX6_count_64 : decode cX6_count 64 = .ok (.aload_n 0, 1) := by decide +kernel
theorem dX6_count_65 : decode cX6_count 65 = .ok (.getfield 142, 3) := by decide +kernel
theorem dX6_count_68 : decode cX6_count 68 = .ok (.ireturn, 1) := by decide +kernel
theorem dX6_count_69 : decode cX6_count 69 = .ok (.aload_n 0, 1) := by decide +kernel
theorem dX6_count_70 : decode cX6_count 70 = .ok (.getfield 145, 3) := by decide +kernel
theorem dX6_count_73 : decode cX6_count 73 = .ok (.ireturn, 1) := by decide +kernel
theorem dX6_count_74 : decode cX6_count 74 = .ok (.aload_n 0, 1) := by decide +kernel
theorem dX6_count_75 : decode cX6_count 75 = .ok (.getfield 101, 3) := by decide +kernel
theorem dX6_count_78 : decode cX6_count 78 = .ok (.ireturn, 1) := by decide +kernel
theorem dX6_count_79 : decode cX6_count 79 = .ok (.bipush (-2), 2) := by decide +kernel
theorem dX6_count_81 : decode cX6_count 81 = .ok (.ireturn, 1) := by decide +kernel
