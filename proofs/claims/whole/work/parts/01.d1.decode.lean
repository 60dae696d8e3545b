theorem dX9_bestChange_51 : decode cX9_bestChange 51 = .ok (.istore 9, 2) := by decide +kernel
theorem dX9_bestChange_53 : decode cX9_bestChange 53 = .ok (.iload 9, 2) := by decide +kernel
theorem dX9_bestChange_55 : decode cX9_bestChange 55 = .ok (.iload 8, 2) := by decide +kernel
theorem dX9_bestChange_57 : decode cX9_bestChange 57 = .ok (.if_icmp .ge 76, 3) := by decide +kernel
theorem dX9_bestChange_60 : decode cX9_bestChange 60 = .ok (.iload 9, 2) := by decide +kernel
theorem dX9_bestChange_62 : decode cX9_bestChange 62 = .ok (.iconst 1, 1) := by decide +kernel
theorem dX9_bestChange_63 : decode cX9_bestChange 63 = .ok (.iadd, 1) := by decide +kernel
theorem dX9_bestChange_64 : decode cX9_bestChange 64 = .ok (.istore 10, 2) := by decide +kernel
theorem dX9_bestChange_66 : decode cX9_bestChange 66 = .ok (.iload 10, 2) := by decide +kernel
theorem dX9_bestChange_68 : decode cX9_bestChange 68 = .ok (.iload 8, 2) := by decide +kernel
theorem dX9_bestChange_70 : decode cX9_bestChange 70 = .ok (.if_icmp .ge 57, 3) := by decide +kernel
theorem dX9_bestChange_73 : decode cX9_bestChange 73 = .ok (.aload_n 0, 1) := by decide +kernel
theorem dX9_bestChange_74 : decode cX9_bestChange 74 = .ok (.iload 9, 2) := by decide +kernel
theorem dX9_bestChange_76 : decode cX9_bestChange 76 = .ok (.iload 10, 2) := by decide +kernel
theorem dX9_bestChange_78 : decode cX9_bestChange 78 = .ok (.invokevirtual 142, 3) := by decide +kernel
theorem dX9_bestChange_81 : decode cX9_bestChange 81 = .ok (.aload_n 0, 1) := by decide +kernel
theorem dX9_bestChange_82 : decode cX9_bestChange 82 = .ok (.lload_n 1, 1) := by decide +kernel
theorem dX9_bestChange_83 : decode cX9_bestChange 83 = .ok (.iload 6, 2) := by decide +kernel
theorem dX9_bestChange_85 : decode cX9_bestChange 85 = .ok (.iconst 1, 1) := by decide +kernel
theorem dX9_bestChange_86 : decode cX9_bestChange 86 = .ok (.isub, 1) := by decide +kernel
theorem dX9_bestChange_87 : decode cX9_bestChange 87 = .ok (.invokevirtual 134, 3) := by decide +kernel
theorem dX9_bestChange_90 : decode cX9_bestChange 90 = .ok (.istore 5, 2) := by decide +kernel
theorem dX9_bestChange_92 : decode cX9_bestChange 92 = .ok (.aload_n 0, 1) := by decide +kernel
theorem dX9_bestChange_93 : decode cX9_bestChange 93 = .ok (.iload 9, 2) := by decide +kernel
theorem dX9_bestChange_95 : decode cX9_bestChange 95 = .ok (.iload 10, 2) := by decide +kernel
theorem dX9_bestChange_97 : decode cX9_bestChange 97 = .ok (.invokevirtual 142, 3) := by decide +kernel
theorem dX9_bestChange_100 : decode cX9_bestChange 100 = .ok (.iload 5, 2) := by decide +kernel
theorem dX9_bestChange_102 : decode cX9_bestChange 102 = .ok (.bipush (-4), 2) := by decide +kernel
theorem dX9_bestChange_104 : decode cX9_bestChange 104 = .ok (.if_icmp .eq 17, 3) := by decide +kernel
theorem dX9_bestChange_107 : decode cX9_bestChange 107 = .ok (.iload 5, 2) := by decide +kernel
theorem dX9_bestChange_109 : decode cX9_bestChange 109 = .ok (.istore 6, 2) := by decide +kernel
theorem dX9_bestChange_111 : decode cX9_bestChange 111 = .ok (.bipush 100, 2) := by decide +kernel
theorem dX9_bestChange_113 : decode cX9_bestChange 113 = .ok (.iload 9, 2) := by decide +kernel
theorem dX9_bestChange_115 : decode cX9_bestChange 115 = .ok (.imul, 1) := by decide +kernel
theorem dX9_bestChange_116 : decode cX9_bestChange 116 = .ok (.iload 10, 2) := by decide +kernel
theorem dX9_bestChange_118 : decode cX9_bestChange 118 = .ok (.iadd, 1) := by decide +kernel
theorem dX9_bestChange_119 : decode cX9_bestChange 119 = .ok (.istore 7, 2) := by decide +kernel
theorem dX9_bestChange_121 : decode cX9_bestChange 121 = .ok (.iinc 10 1, 3) := by decide +kernel
theorem dX9_bestChange_124 : decode cX9_bestChange 124 = .ok (.goto (-58), 3) := by decide +kernel
theorem dX9_bestChange_127 : decode cX9_bestChange 127 = .ok (.iinc 9 1, 3) := by decide +kernel
theorem dX9_bestChange_130 : decode cX9_bestChange 130 = .ok (.goto (-77), 3) := by decide +kernel
theorem dX9_bestChange_133 : decode cX9_bestChange 133 = .ok (.iload 4, 2) := by decide +kernel
theorem dX9_bestChange_135 : decode cX9_bestChange 135 = .ok (.ifCond .eq 15, 3) := by decide +kernel
theorem dX9_bestChange_138 : decode cX9_bestChange 138 = .ok (.iload 7, 2) := by decide +kernel
theorem dX9_bestChange_140 : decode cX9_bestChange 140 = .ok (.bipush (-4), 2) := by decide +kernel
theorem dX9_bestChange_142 : decode cX9_bestChange 142 = .ok (.if_icmp .eq 8, 3) := by decide +kernel
theorem dX9_bestChange_145 : decode cX9_bestChange 145 = .ok (.iload 6, 2) := by decide +kernel
theorem dX9_bestChange_147 : decode cX9_bestChange 147 = .ok (.goto 5, 3) := by decide +kernel
theorem dX9_bestChange_150 : decode cX9_bestChange 150 = .ok (.iload 7, 2) := by decide +kernel
theorem dX9_bestChange_152 : decode cX9_bestChange 152 = .ok (.ireturn, 1) := by decide +kernel
theorem dX9_hasCarOf_0 : decode cX9_hasCarOf 0 = .ok (.iconst 0, 1) := by decide +kernel
theorem dX9_hasCarOf_1 : decode cX9_hasCarOf 1 = .ok (.istore_n 2, 1) := by decide +kernel
theorem dX9_hasCarOf_2 : decode cX9_hasCarOf 2 = .ok (.iload_n 2, 1) := by decide +kernel
theorem dX9_hasCarOf_3 : decode cX9_hasCarOf 3 = .ok (.aload_n 0, 1) := by decide +kernel
theorem dX9_hasCarOf_4 : decode cX9_hasCarOf 4 = .ok (.getfield 12, 3) := by decide +kernel
theorem dX9_hasCarOf_7 : decode cX9_hasCarOf 7 = .ok (.invokevirtual 86, 3) := by decide +kernel
theorem dX9_hasCarOf_10 : decode cX9_hasCarOf 10 = .ok (.if_icmp .ge 24, 3) := by decide +kernel
theorem dX9_hasCarOf_13 : decode cX9_hasCarOf 13 = .ok (.aload_n 0, 1) := by decide +kernel
theorem dX9_hasCarOf_14 : decode cX9_hasCarOf 14 = .ok (.getfield 12, 3) := by decide +kernel
theorem dX9_hasCarOf_17 : decode cX9_hasCarOf 17 = .ok (.getfield 103, 3) := by decide +kernel
theorem dX9_hasCarOf_20 : decode cX9_hasCarOf 20 = .ok (.iload_n 2, 1) := by decide +kernel
theorem dX9_hasCarOf_21 : decode cX9_hasCarOf 21 = .ok (.iaload, 1) := by decide +kernel
theorem dX9_hasCarOf_22 : decode cX9_hasCarOf 22 = .ok (.iload_n 1, 1) := by decide +kernel
theorem dX9_hasCarOf_23 : decode cX9_hasCarOf 23 = .ok (.if_icmp .ne 5, 3) := by decide +kernel
theorem dX9_hasCarOf_26 : decode cX9_hasCarOf 26 = .ok (.iconst 1, 1) := by decide +kernel
theorem dX9_hasCarOf_27 : decode cX9_hasCarOf 27 = .ok (.ireturn, 1) := by decide +kernel
theorem dX9_hasCarOf_28 : decode cX9_hasCarOf 28 = .ok (.iinc 2 1, 3) := by decide +kernel
theorem dX9_hasCarOf_31 : decode cX9_hasCarOf 31 = .ok (.goto (-29), 3) := by decide +kernel
theorem dX9_hasCarOf_34 : decode cX9_hasCarOf 34 = .ok (.iconst 0, 1) := by decide +kernel
theorem dX9_hasCarOf_35 : decode cX9_hasCarOf 35 = .ok (.ireturn, 1) := by decide +kernel
theorem dX9_changeDays_0 : decode cX9_changeDays 0 = .ok (.aload_n 0, 1) := by decide +kernel
theorem dX9_changeDays_1 : decode cX9_changeDays 1 = .ok (.getfield 12, 3) := by decide +kernel
theorem dX9_changeDays_4 : decode cX9_changeDays 4 = .ok (.getfield 103, 3) := by decide +kernel
theorem dX9_changeDays_7 : decode cX9_changeDays 7 = .ok (.iload_n 1, 1) := by decide +kernel
theorem dX9_changeDays_8 : decode cX9_changeDays 8 = .ok (.iaload, 1) := by decide +kernel
theorem dX9_changeDays_9 : decode cX9_changeDays 9 = .ok (.istore_n 3, 1) := by decide +kernel
theorem dX9_changeDays_10 : decode cX9_changeDays 10 = .ok (.aload_n 0, 1) := by decide +kernel
theorem dX9_changeDays_11 : decode cX9_changeDays 11 = .ok (.getfield 12, 3) := by decide +kernel
theorem dX9_changeDays_14 : decode cX9_changeDays 14 = .ok (.getfield 103, 3) := by decide +kernel
theorem dX9_changeDays_17 : decode cX9_changeDays 17 = .ok (.iload_n 1, 1) := by decide +kernel
theorem dX9_changeDays_18 : decode cX9_changeDays 18 = .ok (.aload_n 0, 1) := by decide +kernel
theorem dX9_changeDays_19 : decode cX9_changeDays 19 = .ok (.getfield 12, 3) := by decide +kernel
theorem dX9_changeDays_22 : decode cX9_changeDays 22 = .ok (.getfield 103, 3) := by decide +kernel
theorem dX9_changeDays_25 : decode cX9_changeDays 25 = .ok (.iload_n 2, 1) := by decide +kernel
theorem dX9_changeDays_26 : decode cX9_changeDays 26 = .ok (.iaload, 1) := by decide +kernel
theorem dX9_changeDays_27 : decode cX9_changeDays 27 = .ok (.iastore, 1) := by decide +kernel
theorem dX9_changeDays_28 : decode cX9_changeDays 28 = .ok (.aload_n 0, 1) := by decide +kernel
theorem dX9_changeDays_29 : decode cX9_changeDays 29 = .ok (.getfield 12, 3) := by decide +kernel
theorem dX9_changeDays_32 : decode cX9_changeDays 32 = .ok (.getfield 103, 3) := by decide +kernel
theorem dX9_changeDays_35 : decode cX9_changeDays 35 = .ok (.iload_n 2, 1) := by decide +kernel
theorem dX9_changeDays_36 : decode cX9_changeDays 36 = .ok (.iload_n 3, 1) := by decide +kernel
theorem dX9_changeDays_37 : decode cX9_changeDays 37 = .ok (.iastore, 1) := by decide +kernel
theorem dX9_changeDays_38 : decode cX9_changeDays 38 = .ok (.return_, 1) := by decide +kernel
theorem dX10_init_0 : decode cX10_init 0 = .ok (.aload_n 0, 1) := by decide +kernel
theorem dX10_init_1 : decode cX10_init 1 = .ok (.invokespecial 3, 3) := by decide +kernel
theorem dX10_init_4 : decode cX10_init 4 = .ok (.aload_n 0, 1) := by decide +kernel
theorem dX10_init_5 : decode cX10_init 5 = .ok (.bipush 64, 2) := by decide +kernel
theorem dX10_init_7 : decode cX10_init 7 = .ok (.newarray .int, 2) := by decide +kernel
theorem dX10_init_9 : decode cX10_init 9 = .ok (.putfield 11, 3) := by decide +kernel
theorem dX10_init_12 : decode cX10_init 12 = .ok (.aload_n 0, 1) := by decide +kernel
theorem dX10_init_13 : decode cX10_init 13 = .ok (.bipush 64, 2) := by decide +kernel
theorem dX10_init_15 : decode cX10_init 15 = .ok (.newarray .int, 2) := by decide +kernel
theorem dX10_init_17 : decode cX10_init 17 = .ok (.putfield 15, 3) := by decide +kernel
theorem dX10_init_20 : decode cX10_init 20 = .ok (.return_, 1) := by decide +kernel
theorem dX10_begin_0 : decode cX10_begin 0 = .ok (.aload_n 0, 1) := by decide +kernel
theorem dX10_begin_1 : decode cX10_begin 1 = .ok (.iconst 1, 1) := by decide +kernel
theorem dX10_begin_2 : decode cX10_begin 2 = .ok (.aload_n 1, 1) := by decide +kernel
theorem dX10_begin_3 : decode cX10_begin 3 = .ok (.getfield 18, 3) := by decide +kernel
theorem dX10_begin_6 : decode cX10_begin 6 = .ok (.ishl, 1) := by decide +kernel
theorem dX10_begin_7 : decode cX10_begin 7 = .ok (.putfield 24, 3) := by decide +kernel
theorem dX10_begin_10 : decode cX10_begin 10 = .ok (.iconst 0, 1) := by decide +kernel
theorem dX10_begin_11 : decode cX10_begin 11 = .ok (.istore_n 2, 1) := by decide +kernel
theorem dX10_begin_12 : decode cX10_begin 12 = .ok (.iload_n 2, 1) := by decide +kernel
theorem dX10_begin_13 : decode cX10_begin 13 = .ok (.aload_n 0, 1) := by decide +kernel
theorem dX10_begin_14 : decode cX10_begin 14 = .ok (.getfield 24, 3) := by decide +kernel
theorem dX10_begin_17 : decode cX10_begin 17 = .ok (.if_icmp .ge 35, 3) := by decide +kernel
theorem dX10_begin_20 : decode cX10_begin 20 = .ok (.aload_n 0, 1) := by decide +kernel
theorem dX10_begin_21 : decode cX10_begin 21 = .ok (.getfield 11, 3) := by decide +kernel
theorem dX10_begin_24 : decode cX10_begin 24 = .ok (.iload_n 2, 1) := by decide +kernel
theorem dX10_begin_25 : decode cX10_begin 25 = .ok (.aload_n 1, 1) := by decide +kernel
theorem dX10_begin_26 : decode cX10_begin 26 = .ok (.iload_n 2, 1) := by decide +kernel
theorem dX10_begin_27 : decode cX10_begin 27 = .ok (.invokestatic 27, 3) := by decide +kernel
theorem dX10_begin_30 : decode cX10_begin 30 = .ok (.iastore, 1) := by decide +kernel
theorem dX10_begin_31 : decode cX10_begin 31 = .ok (.aload_n 0, 1) := by decide +kernel
theorem dX10_begin_32 : decode cX10_begin 32 = .ok (.getfield 15, 3) := by decide +kernel
theorem dX10_begin_35 : decode cX10_begin 35 = .ok (.iload_n 2, 1) := by decide +kernel
theorem dX10_begin_36 : decode cX10_begin 36 = .ok (.iload_n 2, 1) := by decide +kernel
theorem dX10_begin_37 : decode cX10_begin 37 = .ok (.ifCond .ne 7, 3) := by decide +kernel
theorem dX10_begin_40 : decode cX10_begin 40 = .ok (.iconst 1, 1) := by decide +kernel
theorem dX10_begin_41 : decode cX10_begin 41 = .ok (.goto 4, 3) := by decide +kernel
theorem dX10_begin_44 : decode cX10_begin 44 = .ok (.iconst 0, 1) := by decide +kernel
theorem dX10_begin_45 : decode cX10_begin 45 = .ok (.iastore, 1) := by decide +kernel
theorem dX10_begin_46 : decode cX10_begin 46 = .ok (.iinc 2 1, 3) := by decide +kernel
theorem dX10_begin_49 : decode cX10_begin 49 = .ok (.goto (-37), 3) := by decide +kernel
theorem dX10_begin_52 : decode cX10_begin 52 = .ok (.return_, 1) := by decide +kernel
theorem dX10_weightOf_0 : decode cX10_weightOf 0 = .ok (.iconst 0, 1) := by decide +kernel
theorem dX10_weightOf_1 : decode cX10_weightOf 1 = .ok (.istore_n 2, 1) := by decide +kernel
theorem dX10_weightOf_2 : decode cX10_weightOf 2 = .ok (.iconst 0, 1) := by decide +kernel
theorem dX10_weightOf_3 : decode cX10_weightOf 3 = .ok (.istore_n 3, 1) := by decide +kernel
theorem dX10_weightOf_4 : decode cX10_weightOf 4 = .ok (.iload_n 3, 1) := by decide +kernel
theorem dX10_weightOf_5 : decode cX10_weightOf 5 = .ok (.aload_n 0, 1) := by decide +kernel
theorem dX10_weightOf_6 : decode cX10_weightOf 6 = .ok (.getfield 18, 3) := by decide +kernel
theorem dX10_weightOf_9 : decode cX10_weightOf 9 = .ok (.if_icmp .ge 29, 3) := by decide +kernel
theorem dX10_weightOf_12 : decode cX10_weightOf 12 = .ok (.iload_n 1, 1) := by decide +kernel
theorem dX10_weightOf_13 : decode cX10_weightOf 13 = .ok (.iload_n 3, 1) := by decide +kernel
theorem dX10_weightOf_14 : decode cX10_weightOf 14 = .ok (.ishr, 1) := by decide +kernel
theorem dX10_weightOf_15 : decode cX10_weightOf 15 = .ok (.iconst 1, 1) := by decide +kernel
theorem dX10_weightOf_16 : decode cX10_weightOf 16 = .ok (.iand, 1) := by decide +kernel
theorem dX10_weightOf_17 : decode cX10_weightOf 17 = .ok (.ifCond .eq 15, 3) := by decide +kernel
theorem dX10_weightOf_20 : decode cX10_weightOf 20 = .ok (.iload_n 2, 1) := by decide +kernel
theorem dX10_weightOf_21 : decode cX10_weightOf 21 = .ok (.aload_n 0, 1) := by decide +kernel
theorem dX10_weightOf_22 : decode cX10_weightOf 22 = .ok (.getfield 31, 3) := by decide +kernel
theorem dX10_weightOf_25 : decode cX10_weightOf 25 = .ok (.iload_n 3, 1) := by decide +kernel
theorem dX10_weightOf_26 : decode cX10_weightOf 26 = .ok (.aaload, 1) := by decide +kernel
theorem dX10_weightOf_27 : decode cX10_weightOf 27 = .ok (.invokevirtual 35, 3) := by decide +kernel
theorem dX10_weightOf_30 : decode cX10_weightOf 30 = .ok (.iadd, 1) := by decide +kernel
theorem dX10_weightOf_31 : decode cX10_weightOf 31 = .ok (.istore_n 2, 1) := by decide +kernel
theorem dX10_weightOf_32 : decode cX10_weightOf 32 = .ok (.iinc 3 1, 3) := by decide +kernel
theorem dX10_weightOf_35 : decode cX10_weightOf 35 = .ok (.goto (-31), 3) := by decide +kernel
theorem dX10_weightOf_38 : decode cX10_weightOf 38 = .ok (.iload_n 2, 1) := by decide +kernel
theorem dX10_weightOf_39 : decode cX10_weightOf 39 = .ok (.ireturn, 1) := by decide +kernel
theorem dX10_addCar_0 : decode cX10_addCar 0 = .ok (.aload_n 0, 1) := by decide +kernel
theorem dX10_addCar_1 : decode cX10_addCar 1 = .ok (.getfield 24, 3) := by decide +kernel
theorem dX10_addCar_4 : decode cX10_addCar 4 = .ok (.iconst 1, 1) := by decide +kernel
theorem dX10_addCar_5 : decode cX10_addCar 5 = .ok (.isub, 1) := by decide +kernel
theorem dX10_addCar_6 : decode cX10_addCar 6 = .ok (.istore_n 3, 1) := by decide +kernel
theorem dX10_addCar_7 : decode cX10_addCar 7 = .ok (.iload_n 3, 1) := by decide +kernel
theorem dX10_addCar_8 : decode cX10_addCar 8 = .ok (.ifCond .lt 71, 3) := by decide +kernel
theorem dX10_addCar_11 : decode cX10_addCar 11 = .ok (.iconst 0, 1) := by decide +kernel
theorem dX10_addCar_12 : decode cX10_addCar 12 = .ok (.istore 4, 2) := by decide +kernel
theorem dX10_addCar_14 : decode cX10_addCar 14 = .ok (.iconst 0, 1) := by decide +kernel
theorem dX10_addCar_15 : decode cX10_addCar 15 = .ok (.istore 5, 2) := by decide +kernel
theorem dX10_addCar_17 : decode cX10_addCar 17 = .ok (.iload 5, 2) := by decide +kernel
theorem dX10_addCar_19 : decode cX10_addCar 19 = .ok (.iload_n 3, 1) := by decide +kernel
theorem dX10_addCar_20 : decode cX10_addCar 20 = .ok (.if_icmp .gt 45, 3) := by decide +kernel
theorem dX10_addCar_23 : decode cX10_addCar 23 = .ok (.iload 5, 2) := by decide +kernel
theorem dX10_addCar_25 : decode cX10_addCar 25 = .ok (.iload_n 3, 1) := by decide +kernel
theorem dX10_addCar_26 : decode cX10_addCar 26 = .ok (.iand, 1) := by decide +kernel
theorem dX10_addCar_27 : decode cX10_addCar 27 = .ok (.iload 5, 2) := by decide +kernel
theorem dX10_addCar_29 : decode cX10_addCar 29 = .ok (.if_icmp .ne 30, 3) := by decide +kernel
theorem dX10_addCar_32 : decode cX10_addCar 32 = .ok (.aload_n 0, 1) := by decide +kernel
theorem dX10_addCar_33 : decode cX10_addCar 33 = .ok (.getfield 11, 3) := by decide +kernel
theorem dX10_addCar_36 : decode cX10_addCar 36 = .ok (.iload 5, 2) := by decide +kernel
theorem dX10_addCar_38 : decode cX10_addCar 38 = .ok (.iaload, 1) := by decide +kernel
theorem dX10_addCar_39 : decode cX10_addCar 39 = .ok (.i2l, 1) := by decide +kernel
theorem dX10_addCar_40 : decode cX10_addCar 40 = .ok (.lload_n 1, 1) := by decide +kernel
theorem dX10_addCar_41 : decode cX10_addCar 41 = .ok (.lcmp, 1) := by decide +kernel
theorem dX10_addCar_42 : decode cX10_addCar 42 = .ok (.ifCond .ne 17, 3) := by decide +kernel
theorem dX10_addCar_45 : decode cX10_addCar 45 = .ok (.iload 4, 2) := by decide +kernel
theorem dX10_addCar_47 : decode cX10_addCar 47 = .ok (.aload_n 0, 1) := by decide +kernel
theorem dX10_addCar_48 : decode cX10_addCar 48 = .ok (.getfield 15, 3) := by decide +kernel
theorem dX10_addCar_51 : decode cX10_addCar 51 = .ok (.iload_n 3, 1) := by decide +kernel
theorem dX10_addCar_52 : decode cX10_addCar 52 = .ok (.iload 5, 2) := by decide +kernel
theorem dX10_addCar_54 : decode cX10_addCar 54 = .ok (.ixor, 1) := by decide +kernel
theorem dX10_addCar_55 : decode cX10_addCar 55 = .ok (.iaload, 1) := by decide +kernel
theorem dX10_addCar_56 : decode cX10_addCar 56 = .ok (.iadd, 1) := by decide +kernel
theorem dX10_addCar_57 : decode cX10_addCar 57 = .ok (.istore 4, 2) := by decide +kernel
theorem dX10_addCar_59 : decode cX10_addCar 59 = .ok (.iinc 5 1, 3) := by decide +kernel
theorem dX10_addCar_62 : decode cX10_addCar 62 = .ok (.goto (-45), 3) := by decide +kernel
theorem dX10_addCar_65 : decode cX10_addCar 65 = .ok (.aload_n 0, 1) := by decide +kernel
theorem dX10_addCar_66 : decode cX10_addCar 66 = .ok (.getfield 15, 3) := by decide +kernel
theorem dX10_addCar_69 : decode cX10_addCar 69 = .ok (.iload_n 3, 1) := by decide +kernel
theorem dX10_addCar_70 : decode cX10_addCar 70 = .ok (.iload 4, 2) := by decide +kernel
theorem dX10_addCar_72 : decode cX10_addCar 72 = .ok (.iastore, 1) := by decide +kernel
theorem dX10_addCar_73 : decode cX10_addCar 73 = .ok (.iinc 3 (-1), 3) := by decide +kernel
theorem dX10_addCar_76 : decode cX10_addCar 76 = .ok (.goto (-69), 3) := by decide +kernel
theorem dX10_addCar_79 : decode cX10_addCar 79 = .ok (.return_, 1) := by decide +kernel
theorem dX10_allWays_0 : decode cX10_allWays 0 = .ok (.iconst 0, 1) := by decide +kernel
theorem dX10_allWays_1 : decode cX10_allWays 1 = .ok (.istore_n 1, 1) := by decide +kernel
theorem dX10_allWays_2 : decode cX10_allWays 2 = .ok (.iconst 0, 1) := by decide +kernel
theorem dX10_allWays_3 : decode cX10_allWays 3 = .ok (.istore_n 2, 1) := by decide +kernel
theorem dX10_allWays_4 : decode cX10_allWays 4 = .ok (.iload_n 2, 1) := by decide +kernel
theorem dX10_allWays_5 : decode cX10_allWays 5 = .ok (.aload_n 0, 1) := by decide +kernel
theorem dX10_allWays_6 : decode cX10_allWays 6 = .ok (.getfield 24, 3) := by decide +kernel
theorem dX10_allWays_9 : decode cX10_allWays 9 = .ok (.if_icmp .ge 18, 3) := by decide +kernel
theorem dX10_allWays_12 : decode cX10_allWays 12 = .ok (.iload_n 1, 1) := by decide +kernel
theorem dX10_allWays_13 : decode cX10_allWays 13 = .ok (.aload_n 0, 1) := by decide +kernel
theorem dX10_allWays_14 : decode cX10_allWays 14 = .ok (.getfield 15, 3) := by decide +kernel
theorem dX10_allWays_17 : decode cX10_allWays 17 = .ok (.iload_n 2, 1) := by decide +kernel
theorem dX10_allWays_18 : decode cX10_allWays 18 = .ok (.iaload, 1) := by decide +kernel
theorem dX10_allWays_19 : decode cX10_allWays 19 = .ok (.iadd, 1) := by decide +kernel
theorem dX10_allWays_20 : decode cX10_allWays 20 = .ok (.istore_n 1, 1) := by decide +kernel
theorem dX10_allWays_21 : decode cX10_allWays 21 = .ok (.iinc 2 1, 3) := by decide +kernel
theorem dX10_allWays_24 : decode cX10_allWays 24 = .ok (.goto (-20), 3) := by decide +kernel
theorem dX10_allWays_27 : decode cX10_allWays 27 = .ok (.iload_n 1, 1) := by decide +kernel
theorem dX10_allWays_28 : decode cX10_allWays 28 = .ok (.ireturn, 1) := by decide +kernel
theorem dX10_leastSet_0 : decode cX10_leastSet 0 = .ok (.iconst 0, 1) := by decide +kernel
theorem dX10_leastSet_1 : decode cX10_leastSet 1 = .ok (.istore_n 1, 1) := by decide +kernel
theorem dX10_leastSet_2 : decode cX10_leastSet 2 = .ok (.iload_n 1, 1) := by decide +kernel
theorem dX10_leastSet_3 : decode cX10_leastSet 3 = .ok (.aload_n 0, 1) := by decide +kernel
theorem dX10_leastSet_4 : decode cX10_leastSet 4 = .ok (.getfield 24, 3) := by decide +kernel
theorem dX10_leastSet_7 : decode cX10_leastSet 7 = .ok (.if_icmp .ge 20, 3) := by decide +kernel
theorem dX10_leastSet_10 : decode cX10_leastSet 10 = .ok (.aload_n 0, 1) := by decide +kernel
theorem dX10_leastSet_11 : decode cX10_leastSet 11 = .ok (.getfield 15, 3) := by decide +kernel
theorem dX10_leastSet_14 : decode cX10_leastSet 14 = .ok (.iload_n 1, 1) := by decide +kernel
theorem dX10_leastSet_15 : decode cX10_leastSet 15 = .ok (.iaload, 1) := by decide +kernel
theorem dX10_leastSet_16 : decode cX10_leastSet 16 = .ok (.ifCond .le 5, 3) := by decide +kernel
theorem dX10_leastSet_19 : decode cX10_leastSet 19 = .ok (.iload_n 1, 1) := by decide +kernel
theorem dX10_leastSet_20 : decode cX10_leastSet 20 = .ok (.ireturn, 1) := by decide +kernel
theorem dX10_leastSet_21 : decode cX10_leastSet 21 = .ok (.iinc 1 1, 3) := by decide +kernel
theorem dX10_leastSet_24 : decode cX10_leastSet 24 = .ok (.goto (-22), 3) := by decide +kernel
theorem dX10_leastSet_27 : decode cX10_leastSet 27 = .ok (.bipush (-4), 2) := by decide +kernel
theorem dX10_leastSet_29 : decode cX10_leastSet 29 = .ok (.ireturn, 1) := by decide +kernel
theorem dX11_init_0 : decode cX11_init 0 = .ok (.aload_n 0, 1) := by decide +kernel
theorem dX11_init_1 : decode cX11_init 1 = .ok (.invokespecial 3, 3) := by decide +kernel
theorem dX11_init_4 : decode cX11_init 4 = .ok (.aload_n 0, 1) := by decide +kernel
theorem dX11_init_5 : decode cX11_init 5 = .ok (.new 9, 3) := by decide +kernel
theorem dX11_init_8 : decode cX11_init 8 = .ok (.dup, 1) := by decide +kernel
theorem dX11_init_9 : decode cX11_init 9 = .ok (.invokespecial 11, 3) := by decide +kernel
theorem dX11_init_12 : decode cX11_init 12 = .ok (.putfield 12, 3) := by decide +kernel
theorem dX11_init_15 : decode cX11_init 15 = .ok (.aload_n 0, 1) := by decide +kernel
theorem dX11_init_16 : decode cX11_init 16 = .ok (.new 9, 3) := by decide +kernel
theorem dX11_init_19 : decode cX11_init 19 = .ok (.dup, 1) := by decide +kernel
theorem dX11_init_20 : decode cX11_init 20 = .ok (.invokespecial 11, 3) := by decide +kernel
theorem dX11_init_23 : decode cX11_init 23 = .ok (.putfield 16, 3) := by decide +kernel
theorem dX11_init_26 : decode cX11_init 26 = .ok (.aload_n 0, 1) := by decide +kernel
theorem dX11_init_27 : decode cX11_init 27 = .ok (.new 19, 3) := by decide +kernel
theorem dX11_init_30 : decode cX11_init 30 = .ok (.dup, 1) := by decide +kernel
theorem dX11_init_31 : decode cX11_init 31 = .ok (.invokespecial 21, 3) := by decide +kernel
theorem dX11_init_34 : decode cX11_init 34 = .ok (.putfield 22, 3) := by decide +kernel
theorem dX11_init_37 : decode cX11_init 37 = .ok (.aload_n 0, 1) := by decide +kernel
theorem dX11_init_38 : decode cX11_init 38 = .ok (.new 26, 3) := by decide +kernel
theorem dX11_init_41 : decode cX11_init 41 = .ok (.dup, 1) := by decide +kernel
theorem dX11_init_42 : decode cX11_init 42 = .ok (.invokespecial 28, 3) := by decide +kernel
theorem dX11_init_45 : decode cX11_init 45 = .ok (.putfield 29, 3) := by decide +kernel
theorem dX11_init_48 : decode cX11_init 48 = .ok (.aload_n 0, 1) := by decide +kernel
theorem dX11_init_49 : decode cX11_init 49 = .ok (.new 33, 3) := by decide +kernel
theorem dX11_init_52 : decode cX11_init 52 = .ok (.dup, 1) := by decide +kernel
theorem dX11_init_53 : decode cX11_init 53 = .ok (.invokespecial 35, 3) := by decide +kernel
theorem dX11_init_56 : decode cX11_init 56 = .ok (.putfield 36, 3) := by decide +kernel
theorem dX11_init_59 : decode cX11_init 59 = .ok (.aload_n 0, 1) := by decide +kernel
theorem dX11_init_60 : decode cX11_init 60 = .ok (.new 40, 3) := by decide +kernel
theorem dX11_init_63 : decode cX11_init 63 = .ok (.dup, 1) := by decide +kernel
theorem dX11_init_64 : decode cX11_init 64 = .ok (.invokespecial 42, 3) := by decide +kernel
theorem dX11_init_67 : decode cX11_init 67 = .ok (.putfield 43, 3) := by decide +kernel
theorem dX11_init_70 : decode cX11_init 70 = .ok (.aload_n 0, 1) := by decide +kernel
theorem dX11_init_71 : decode cX11_init 71 = .ok (.new 40, 3) := by decide +kernel
theorem dX11_init_74 : decode cX11_init 74 = .ok (.dup, 1) := by decide +kernel
theorem dX11_init_75 : decode cX11_init 75 = .ok (.invokespecial 42, 3) := by decide +kernel
theorem dX11_init_78 : decode cX11_init 78 = .ok (.putfield 47, 3) := by decide +kernel
theorem dX11_init_81 : decode cX11_init 81 = .ok (.aload_n 0, 1) := by decide +kernel
theorem dX11_init_82 : decode cX11_init 82 = .ok (.new 50, 3) := by decide +kernel
theorem dX11_init_85 : decode cX11_init 85 = .ok (.dup, 1) := by decide +kernel
theorem dX11_init_86 : decode cX11_init 86 = .ok (.invokespecial 52, 3) := by decide +kernel
theorem dX11_init_89 : decode cX11_init 89 = .ok (.putfield 53, 3) := by decide +kernel
theorem dX11_init_92 : decode cX11_init 92 = .ok (.aload_n 0, 1) := by decide +kernel
theorem dX11_init_93 : decode cX11_init 93 = .ok (.iconst 4, 1) := by decide +kernel
theorem dX11_init_94 : decode cX11_init 94 = .ok (.anewarray 57, 3) := by decide +kernel
theorem dX11_init_97 : decode cX11_init 97 = .ok (.putfield 59, 3) := by decide +kernel
theorem dX11_init_100 : decode cX11_init 100 = .ok (.iconst 0, 1) := by decide +kernel
theorem dX11_init_101 : decode cX11_init 101 = .ok (.istore_n 1, 1) := by decide +kernel
theorem dX11_init_102 : decode cX11_init 102 = .ok (.iload_n 1, 1) := by decide +kernel
theorem dX11_init_103 : decode cX11_init 103 = .ok (.iconst 4, 1) := by decide +kernel
theorem dX11_init_104 : decode cX11_init 104 = .ok (.if_icmp .ge 22, 3) := by decide +kernel
theorem dX11_init_107 : decode cX11_init 107 = .ok (.aload_n 0, 1) := by decide +kernel
theorem dX11_init_108 : decode cX11_init 108 = .ok (.getfield 59, 3) := by decide +kernel
theorem dX11_init_111 : decode cX11_init 111 = .ok (.iload_n 1, 1) := by decide +kernel
theorem dX11_init_112 : decode cX11_init 112 = .ok (.new 57, 3) := by decide +kernel
theorem dX11_init_115 : decode cX11_init 115 = .ok (.dup, 1) := by decide +kernel
theorem dX11_init_116 : decode cX11_init 116 = .ok (.invokespecial 63, 3) := by decide +kernel
theorem dX11_init_119 : decode cX11_init 119 = .ok (.aastore, 1) := by decide +kernel
theorem dX11_init_120 : decode cX11_init 120 = .ok (.iinc 1 1, 3) := by decide +kernel
theorem dX11_init_123 : decode cX11_init 123 = .ok (.goto (-21), 3) := by decide +kernel
theorem dX11_init_126 : decode cX11_init 126 = .ok (.return_, 1) := by decide +kernel
theorem dX11_person_0 : decode cX11_person 0 = .ok (.iload_n 1, 1) := by decide +kernel
theorem dX11_person_1 : decode cX11_person 1 = .ok (.iconst 0, 1) := by decide +kernel
theorem dX11_person_2 : decode cX11_person 2 = .ok (.getstatic 64, 3) := by decide +kernel
theorem dX11_person_5 : decode cX11_person 5 = .ok (.arraylength, 1) := by decide +kernel
theorem dX11_person_6 : decode cX11_person 6 = .ok (.iconst 1, 1) := by decide +kernel
theorem dX11_person_7 : decode cX11_person 7 = .ok (.isub, 1) := by decide +kernel
theorem dX11_person_8 : decode cX11_person 8 = .ok (.invokestatic 68, 3) := by decide +kernel
theorem dX11_person_11 : decode cX11_person 11 = .ok (.ifCond .eq 29, 3) := by decide +kernel
theorem dX11_person_14 : decode cX11_person 14 = .ok (.iload_n 2, 1) := by decide +kernel
theorem dX11_person_15 : decode cX11_person 15 = .ok (.iconst 1, 1) := by decide +kernel
theorem dX11_person_16 : decode cX11_person 16 = .ok (.bipush 9, 2) := by decide +kernel
theorem dX11_person_18 : decode cX11_person 18 = .ok (.invokestatic 68, 3) := by decide +kernel
theorem dX11_person_21 : decode cX11_person 21 = .ok (.ifCond .eq 19, 3) := by decide +kernel
theorem dX11_person_24 : decode cX11_person 24 = .ok (.aload_n 0, 1) := by decide +kernel
theorem dX11_person_25 : decode cX11_person 25 = .ok (.iload_n 3, 1) := by decide +kernel
theorem dX11_person_26 : decode cX11_person 26 = .ok (.invokevirtual 72, 3) := by decide +kernel
theorem dX11_person_29 : decode cX11_person 29 = .ok (.ifCond .eq 11, 3) := by decide +kernel
theorem dX11_person_32 : decode cX11_person 32 = .ok (.iload 4, 2) := by decide +kernel
theorem dX11_person_34 : decode cX11_person 34 = .ok (.invokestatic 76, 3) := by decide +kernel
theorem dX11_person_37 : decode cX11_person 37 = .ok (.ifCond .ne 5, 3) := by decide +kernel
theorem dX11_person_40 : decode cX11_person 40 = .ok (.iconst (-1), 1) := by decide +kernel
theorem dX11_person_41 : decode cX11_person 41 = .ok (.ireturn, 1) := by decide +kernel
theorem dX11_person_42 : decode cX11_person 42 = .ok (.aload_n 0, 1) := by decide +kernel
theorem dX11_person_43 : decode cX11_person 43 = .ok (.getfield 12, 3) := by decide +kernel
theorem dX11_person_46 : decode cX11_person 46 = .ok (.getfield 79, 3) := by decide +kernel
theorem dX11_person_49 : decode cX11_person 49 = .ok (.getfield 82, 3) := by decide +kernel
theorem dX11_person_52 : decode cX11_person 52 = .ok (.bipush 6, 2) := by decide +kernel
theorem dX11_person_54 : decode cX11_person 54 = .ok (.if_icmp .lt 6, 3) := by decide +kernel
theorem dX11_person_57 : decode cX11_person 57 = .ok (.bipush (-3), 2) := by decide +kernel
theorem dX11_person_59 : decode cX11_person 59 = .ok (.ireturn, 1) := by decide +kernel
theorem dX11_person_60 : decode cX11_person 60 = .ok (.aload_n 0, 1) := by decide +kernel
theorem dX11_person_61 : decode cX11_person 61 = .ok (.getfield 12, 3) := by decide +kernel
theorem dX11_person_64 : decode cX11_person 64 = .ok (.getfield 79, 3) := by decide +kernel
theorem dX11_person_67 : decode cX11_person 67 = .ok (.getstatic 64, 3) := by decide +kernel
theorem dX11_person_70 : decode cX11_person 70 = .ok (.iload_n 1, 1) := by decide +kernel
theorem dX11_person_71 : decode cX11_person 71 = .ok (.aaload, 1) := by decide +kernel
theorem dX11_person_72 : decode cX11_person 72 = .ok (.iload_n 2, 1) := by decide +kernel
theorem dX11_person_73 : decode cX11_person 73 = .ok (.iload_n 3, 1) := by decide +kernel
theorem dX11_person_74 : decode cX11_person 74 = .ok (.iload 4, 2) := by decide +kernel
theorem dX11_person_76 : decode cX11_person 76 = .ok (.invokevirtual 86, 3) := by decide +kernel
theorem dX11_person_79 : decode cX11_person 79 = .ok (.aload_n 0, 1) := by decide +kernel
theorem dX11_person_80 : decode cX11_person 80 = .ok (.getfield 12, 3) := by decide +kernel
theorem dX11_person_83 : decode cX11_person 83 = .ok (.getfield 90, 3) := by decide +kernel
theorem dX11_person_86 : decode cX11_person 86 = .ok (.invokevirtual 94, 3) := by decide +kernel
theorem dX11_person_89 : decode cX11_person 89 = .ok (.aload_n 0, 1) := by decide +kernel
theorem dX11_person_90 : decode cX11_person 90 = .ok (.getfield 12, 3) := by decide +kernel
theorem dX11_person_93 : decode cX11_person 93 = .ok (.getfield 79, 3) := by decide +kernel
theorem dX11_person_96 : decode cX11_person 96 = .ok (.getfield 82, 3) := by decide +kernel
theorem dX11_person_99 : decode cX11_person 99 = .ok (.iconst 1, 1) := by decide +kernel
theorem dX11_person_100 : decode cX11_person 100 = .ok (.isub, 1) := by decide +kernel
theorem dX11_person_101 : decode cX11_person 101 = .ok (.ireturn, 1) := by decide +kernel
theorem dX11_of_0 : decode cX11_of 0 = .ok (.aload_n 0, 1) := by decide +kernel
theorem dX11_of_1 : decode cX11_of 1 = .ok (.iload_n 1, 1) := by decide +kernel
theorem dX11_of_2 : decode cX11_of 2 = .ok (.invokevirtual 99, 3) := by decide +kernel
theorem dX11_of_5 : decode cX11_of 5 = .ok (.ifCond .ne 5, 3) := by decide +kernel
theorem dX11_of_8 : decode cX11_of 8 = .ok (.iconst (-1), 1) := by decide +kernel
theorem dX11_of_9 : decode cX11_of 9 = .ok (.ireturn, 1) := by decide +kernel
theorem dX11_of_10 : decode cX11_of 10 = .ok (.aload_n 0, 1) := by decide +kernel
theorem dX11_of_11 : decode cX11_of 11 = .ok (.getfield 12, 3) := by decide +kernel
theorem dX11_of_14 : decode cX11_of 14 = .ok (.getfield 79, 3) := by decide +kernel
theorem dX11_of_17 : decode cX11_of 17 = .ok (.getfield 102, 3) := by decide +kernel
theorem dX11_of_20 : decode cX11_of 20 = .ok (.iload_n 1, 1) := by decide +kernel
theorem dX11_of_21 : decode cX11_of 21 = .ok (.aaload, 1) := by decide +kernel
theorem dX11_of_22 : decode cX11_of 22 = .ok (.astore_n 3, 1) := by decide +kernel
theorem dX11_of_23 : decode cX11_of 23 = .ok (.iload_n 2, 1) := by decide +kernel
theorem dX11_of_24 : decode cX11_of 24 = .ok (.tableswitch 93 0 5 #[40, 48, 53, 62, 79, 88], 40) := by decide +kernel
theorem dX11_of_64 : decode cX11_of 64 = .ok (.aload_n 3, 1) := by decide +kernel
theorem dX11_of_65 : decode cX11_of 65 = .ok (.getfield 106, 3) := by decide +kernel
theorem dX11_of_68 : decode cX11_of 68 = .ok (.getfield 112, 3) := by decide +kernel
theorem dX11_of_71 : decode cX11_of 71 = .ok (.ireturn, 1) := by decide +kernel
theorem dX11_of_72 : decode cX11_of 72 = .ok (.aload_n 3, 1) := by decide +kernel
theorem dX11_of_73 : decode cX11_of 73 = .ok (.invokevirtual 117, 3) := by decide +kernel
theorem dX11_of_76 : decode cX11_of 76 = .ok (.ireturn, 1) := by decide +kernel
theorem dX11_of_77 : decode cX11_of 77 = .ok (.aload_n 0, 1) := by decide +kernel
theorem dX11_of_78 : decode cX11_of 78 = .ok (.getfield 12, 3) := by decide +kernel
theorem dX11_of_81 : decode cX11_of 81 = .ok (.aload_n 3, 1) := by decide +kernel
theorem dX11_of_82 : decode cX11_of 82 = .ok (.invokevirtual 121, 3) := by decide +kernel
theorem dX11_of_85 : decode cX11_of 85 = .ok (.ireturn, 1) := by decide +kernel
theorem dX11_of_86 : decode cX11_of 86 = .ok (.aload_n 3, 1) := by decide +kernel
theorem dX11_of_87 : decode cX11_of 87 = .ok (.invokevirtual 125, 3) := by decide +kernel
theorem dX11_of_90 : decode cX11_of 90 = .ok (.ifCond .eq 10, 3) := by decide +kernel
theorem dX11_of_93 : decode cX11_of 93 = .ok (.aload_n 3, 1) := by decide +kernel
theorem dX11_of_94 : decode cX11_of 94 = .ok (.getfield 129, 3) := by decide +kernel
theorem dX11_of_97 : decode cX11_of 97 = .ok (.goto 5, 3) := by decide +kernel
theorem dX11_of_100 : decode cX11_of 100 = .ok (.bipush (-4), 2) := by decide +kernel
theorem dX11_of_102 : decode cX11_of 102 = .ok (.ireturn, 1) := by decide +kernel
theorem dX11_of_103 : decode cX11_of 103 = .ok (.aload_n 0, 1) := by decide +kernel
theorem dX11_of_104 : decode cX11_of 104 = .ok (.getfield 12, 3) := by decide +kernel
theorem dX11_of_107 : decode cX11_of 107 = .ok (.aload_n 3, 1) := by decide +kernel
theorem dX11_of_108 : decode cX11_of 108 = .ok (.invokevirtual 132, 3) := by decide +kernel
theorem dX11_of_111 : decode cX11_of 111 = .ok (.ireturn, 1) := by decide +kernel
theorem dX11_of_112 : decode cX11_of 112 = .ok (.aload_n 3, 1) := by decide +kernel
theorem dX11_of_113 : decode cX11_of 113 = .ok (.getfield 135, 3) := by decide +kernel
theorem dX11_of_116 : decode cX11_of 116 = .ok (.ireturn, 1) := by decide +kernel
theorem dX11_of_117 : decode cX11_of 117 = .ok (.iconst (-1), 1) := by decide +kernel
theorem dX11_of_118 : decode cX11_of 118 = .ok (.ireturn, 1) := by decide +kernel
theorem dX11_car_0 : decode cX11_car 0 = .ok (.aload_n 0, 1) := by decide +kernel
theorem dX11_car_1 : decode cX11_car 1 = .ok (.iload_n 1, 1) := by decide +kernel
theorem dX11_car_2 : decode cX11_car 2 = .ok (.invokevirtual 138, 3) := by decide +kernel
theorem dX11_car_5 : decode cX11_car 5 = .ok (.ifCond .ne 5, 3) := by decide +kernel
theorem dX11_car_8 : decode cX11_car 8 = .ok (.iconst (-1), 1) := by decide +kernel
theorem dX11_car_9 : decode cX11_car 9 = .ok (.ireturn, 1) := by decide +kernel
theorem dX11_car_10 : decode cX11_car 10 = .ok (.aload_n 0, 1) := by decide +kernel
theorem dX11_car_11 : decode cX11_car 11 = .ok (.getfield 12, 3) := by decide +kernel
theorem dX11_car_14 : decode cX11_car 14 = .ok (.getfield 141, 3) := by decide +kernel
theorem dX11_car_17 : decode cX11_car 17 = .ok (.iload_n 1, 1) := by decide +kernel
theorem dX11_car_18 : decode cX11_car 18 = .ok (.aload_n 0, 1) := by decide +kernel
theorem dX11_car_19 : decode cX11_car 19 = .ok (.getfield 12, 3) := by decide +kernel
theorem dX11_car_22 : decode cX11_car 22 = .ok (.getfield 79, 3) := by decide +kernel
theorem dX11_car_25 : decode cX11_car 25 = .ok (.getfield 145, 3) := by decide +kernel
theorem dX11_car_28 : decode cX11_car 28 = .ok (.invokevirtual 148, 3) := by decide +kernel
theorem dX11_car_31 : decode cX11_car 31 = .ok (.istore_n 3, 1) := by decide +kernel
theorem dX11_car_32 : decode cX11_car 32 = .ok (.iload_n 2, 1) := by decide +kernel
theorem dX11_car_33 : decode cX11_car 33 = .ok (.tableswitch 102 0 5 #[39, 52, 54, 66, 78, 90], 39) := by decide +kernel
theorem dX11_car_72 : decode cX11_car 72 = .ok (.aload_n 0, 1) := by decide +kernel
theorem dX11_car_73 : decode cX11_car 73 = .ok (.getfield 12, 3) := by decide +kernel
theorem dX11_car_76 : decode cX11_car 76 = .ok (.getfield 141, 3) := by decide +kernel
theorem dX11_car_79 : decode cX11_car 79 = .ok (.getfield 154, 3) := by decide +kernel
theorem dX11_car_82 : decode cX11_car 82 = .ok (.iload_n 1, 1) := by decide +kernel
theorem dX11_car_83 : decode cX11_car 83 = .ok (.iaload, 1) := by decide +kernel
theorem dX11_car_84 : decode cX11_car 84 = .ok (.ireturn, 1) := by decide +kernel
theorem dX11_car_85 : decode cX11_car 85 = .ok (.iload_n 3, 1) := by decide +kernel
theorem dX11_car_86 : decode cX11_car 86 = .ok (.ireturn, 1) := by decide +kernel
theorem dX11_car_87 : decode cX11_car 87 = .ok (.aload_n 0, 1) := by decide +kernel
theorem dX11_car_88 : decode cX11_car 88 = .ok (.getfield 12, 3) := by decide +kernel
theorem dX11_car_91 : decode cX11_car 91 = .ok (.getfield 141, 3) := by decide +kernel
theorem dX11_car_94 : decode cX11_car 94 = .ok (.iload_n 3, 1) := by decide +kernel
theorem dX11_car_95 : decode cX11_car 95 = .ok (.invokevirtual 158, 3) := by decide +kernel
theorem dX11_car_98 : decode cX11_car 98 = .ok (.ireturn, 1) := by decide +kernel
theorem dX11_car_99 : decode cX11_car 99 = .ok (.aload_n 0, 1) := by decide +kernel
theorem dX11_car_100 : decode cX11_car 100 = .ok (.getfield 12, 3) := by decide +kernel
theorem dX11_car_103 : decode cX11_car 103 = .ok (.getfield 141, 3) := by decide +kernel
theorem dX11_car_106 : decode cX11_car 106 = .ok (.iload_n 3, 1) := by decide +kernel
theorem dX11_car_107 : decode cX11_car 107 = .ok (.invokevirtual 162, 3) := by decide +kernel
theorem dX11_car_110 : decode cX11_car 110 = .ok (.ireturn, 1) := by decide +kernel
theorem dX11_car_111 : decode cX11_car 111 = .ok (.aload_n 0, 1) := by decide +kernel
theorem dX11_car_112 : decode cX11_car 112 = .ok (.getfield 12, 3) := by decide +kernel
theorem dX11_car_115 : decode cX11_car 115 = .ok (.getfield 79, 3) := by decide +kernel
theorem dX11_car_118 : decode cX11_car 118 = .ok (.iload_n 1, 1) := by decide +kernel
theorem dX11_car_119 : decode cX11_car 119 = .ok (.invokevirtual 165, 3) := by decide +kernel
theorem dX11_car_122 : decode cX11_car 122 = .ok (.ireturn, 1) := by decide +kernel
theorem dX11_car_123 : decode cX11_car 123 = .ok (.aload_n 0, 1) := by decide +kernel
theorem dX11_car_124 : decode cX11_car 124 = .ok (.getfield 12, 3) := by decide +kernel
theorem dX11_car_127 : decode cX11_car 127 = .ok (.getfield 79, 3) := by decide +kernel
theorem dX11_car_130 : decode cX11_car 130 = .ok (.iload_n 1, 1) := by decide +kernel
theorem dX11_car_131 : decode cX11_car 131 = .ok (.invokevirtual 168, 3) := by decide +kernel
theorem dX11_car_134 : decode cX11_car 134 = .ok (.ireturn, 1) := by decide +kernel
theorem dX11_car_135 : decode cX11_car 135 = .ok (.iconst (-1), 1) := by decide +kernel
theorem dX11_car_136 : decode cX11_car 136 = .ok (.ireturn, 1) := by decide +kernel
theorem dX11_day_0 : decode cX11_day 0 = .ok (.aload_n 0, 1) := by decide +kernel
theorem dX11_day_1 : decode cX11_day 1 = .ok (.iload_n 1, 1) := by decide +kernel
theorem dX11_day_2 : decode cX11_day 2 = .ok (.invokevirtual 138, 3) := by decide +kernel
theorem dX11_day_5 : decode cX11_day 5 = .ok (.ifCond .eq 10, 3) := by decide +kernel
theorem dX11_day_8 : decode cX11_day 8 = .ok (.iload_n 2, 1) := by decide +kernel
theorem dX11_day_9 : decode cX11_day 9 = .ok (.invokestatic 76, 3) := by decide +kernel
theorem dX11_day_12 : decode cX11_day 12 = .ok (.ifCond .ne 5, 3) := by decide +kernel
theorem dX11_day_15 : decode cX11_day 15 = .ok (.iconst (-1), 1) := by decide +kernel
theorem dX11_day_16 : decode cX11_day 16 = .ok (.ireturn, 1) := by decide +kernel
theorem dX11_day_17 : decode cX11_day 17 = .ok (.aload_n 0, 1) := by decide +kernel
theorem dX11_day_18 : decode cX11_day 18 = .ok (.getfield 12, 3) := by decide +kernel
theorem dX11_day_21 : decode cX11_day 21 = .ok (.getfield 141, 3) := by decide +kernel
theorem dX11_day_24 : decode cX11_day 24 = .ok (.getfield 154, 3) := by decide +kernel
theorem dX11_day_27 : decode cX11_day 27 = .ok (.iload_n 1, 1) := by decide +kernel
theorem dX11_day_28 : decode cX11_day 28 = .ok (.iaload, 1) := by decide +kernel
theorem dX11_day_29 : decode cX11_day 29 = .ok (.istore_n 3, 1) := by decide +kernel
theorem dX11_day_30 : decode cX11_day 30 = .ok (.aload_n 0, 1) := by decide +kernel
theorem dX11_day_31 : decode cX11_day 31 = .ok (.getfield 12, 3) := by decide +kernel
theorem dX11_day_34 : decode cX11_day 34 = .ok (.getfield 141, 3) := by decide +kernel
theorem dX11_day_37 : decode cX11_day 37 = .ok (.getfield 154, 3) := by decide +kernel
theorem dX11_day_40 : decode cX11_day 40 = .ok (.iload_n 1, 1) := by decide +kernel
theorem dX11_day_41 : decode cX11_day 41 = .ok (.iload_n 2, 1) := by decide +kernel
theorem dX11_day_42 : decode cX11_day 42 = .ok (.iastore, 1) := by decide +kernel
theorem dX11_day_43 : decode cX11_day 43 = .ok (.iload_n 3, 1) := by decide +kernel
theorem dX11_day_44 : decode cX11_day 44 = .ok (.ireturn, 1) := by decide +kernel
theorem dX11_rule_0 : decode cX11_rule 0 = .ok (.iload_n 1, 1) := by decide +kernel
theorem dX11_rule_1 : decode cX11_rule 1 = .ok (.ifCond .ne 37, 3) := by decide +kernel
theorem dX11_rule_4 : decode cX11_rule 4 = .ok (.iload_n 2, 1) := by decide +kernel
theorem dX11_rule_5 : decode cX11_rule 5 = .ok (.iconst 1, 1) := by decide +kernel
theorem dX11_rule_6 : decode cX11_rule 6 = .ok (.bipush 60, 2) := by decide +kernel
theorem dX11_rule_8 : decode cX11_rule 8 = .ok (.invokestatic 68, 3) := by decide +kernel
theorem dX11_rule_11 : decode cX11_rule 11 = .ok (.ifCond .eq 27, 3) := by decide +kernel
theorem dX11_rule_14 : decode cX11_rule 14 = .ok (.aload_n 0, 1) := by decide +kernel
theorem dX11_rule_15 : decode cX11_rule 15 = .ok (.getfield 12, 3) := by decide +kernel
theorem dX11_rule_18 : decode cX11_rule 18 = .ok (.getfield 141, 3) := by decide +kernel
theorem dX11_rule_21 : decode cX11_rule 21 = .ok (.getfield 171, 3) := by decide +kernel
theorem dX11_rule_24 : decode cX11_rule 24 = .ok (.istore_n 3, 1) := by decide +kernel
theorem dX11_rule_25 : decode cX11_rule 25 = .ok (.aload_n 0, 1) := by decide +kernel
theorem dX11_rule_26 : decode cX11_rule 26 = .ok (.getfield 12, 3) := by decide +kernel
theorem dX11_rule_29 : decode cX11_rule 29 = .ok (.getfield 141, 3) := by decide +kernel
theorem dX11_rule_32 : decode cX11_rule 32 = .ok (.iload_n 2, 1) := by decide +kernel
theorem dX11_rule_33 : decode cX11_rule 33 = .ok (.putfield 171, 3) := by decide +kernel
theorem dX11_rule_36 : decode cX11_rule 36 = .ok (.iload_n 3, 1) := by decide +kernel
theorem dX11_rule_37 : decode cX11_rule 37 = .ok (.ireturn, 1) := by decide +kernel
theorem dX11_rule_38 : decode cX11_rule 38 = .ok (.iload_n 1, 1) := by decide +kernel
theorem dX11_rule_39 : decode cX11_rule 39 = .ok (.iconst 1, 1) := by decide +kernel
theorem dX11_rule_40 : decode cX11_rule 40 = .ok (.if_icmp .ne 37, 3) := by decide +kernel
theorem dX11_rule_43 : decode cX11_rule 43 = .ok (.iload_n 2, 1) := by decide +kernel
theorem dX11_rule_44 : decode cX11_rule 44 = .ok (.iconst 2, 1) := by decide +kernel
theorem dX11_rule_45 : decode cX11_rule 45 = .ok (.bipush 24, 2) := by decide +kernel
theorem dX11_rule_47 : decode cX11_rule 47 = .ok (.invokestatic 68, 3) := by decide +kernel
theorem dX11_rule_50 : decode cX11_rule 50 = .ok (.ifCond .eq 27, 3) := by decide +kernel
theorem dX11_rule_53 : decode cX11_rule 53 = .ok (.aload_n 0, 1) := by decide +kernel
theorem dX11_rule_54 : decode cX11_rule 54 = .ok (.getfield 12, 3) := by decide +kernel
theorem dX11_rule_57 : decode cX11_rule 57 = .ok (.getfield 141, 3) := by decide +kernel
theorem dX11_rule_60 : decode cX11_rule 60 = .ok (.getfield 174, 3) := by decide +kernel
theorem dX11_rule_63 : decode cX11_rule 63 = .ok (.istore_n 3, 1) := by decide +kernel
theorem dX11_rule_64 : decode cX11_rule 64 = .ok (.aload_n 0, 1) := by decide +kernel
theorem dX11_rule_65 : decode cX11_rule 65 = .ok (.getfield 12, 3) := by decide +kernel
theorem dX11_rule_68 : decode cX11_rule 68 = .ok (.getfield 141, 3) := by decide +kernel
theorem dX11_rule_71 : decode cX11_rule 71 = .ok (.iload_n 2, 1) := by decide +kernel
theorem dX11_rule_72 : decode cX11_rule 72 = .ok (.putfield 174, 3) := by decide +kernel
theorem dX11_rule_75 : decode cX11_rule 75 = .ok (.iload_n 3, 1) := by decide +kernel
theorem dX11_rule_76 : decode cX11_rule 76 = .ok (.ireturn, 1) := by decide +kernel
theorem dX11_rule_77 : decode cX11_rule 77 = .ok (.iconst (-1), 1) := by decide +kernel
theorem dX11_rule_78 : decode cX11_rule 78 = .ok (.ireturn, 1) := by decide +kernel
theorem dX11_type_0 : decode cX11_type 0 = .ok (.iload_n 1, 1) := by decide +kernel
theorem dX11_type_1 : decode cX11_type 1 = .ok (.bipush 32, 2) := by decide +kernel
theorem dX11_type_3 : decode cX11_type 3 = .ok (.bipush 126, 2) := by decide +kernel
theorem dX11_type_5 : decode cX11_type 5 = .ok (.invokestatic 68, 3) := by decide +kernel
theorem dX11_type_8 : decode cX11_type 8 = .ok (.ifCond .ne 5, 3) := by decide +kernel
theorem dX11_type_11 : decode cX11_type 11 = .ok (.iconst (-1), 1) := by decide +kernel
theorem dX11_type_12 : decode cX11_type 12 = .ok (.ireturn, 1) := by decide +kernel
theorem dX11_type_13 : decode cX11_type 13 = .ok (.aload_n 0, 1) := by decide +kernel
theorem dX11_type_14 : decode cX11_type 14 = .ok (.getfield 22, 3) := by decide +kernel
theorem dX11_type_17 : decode cX11_type 17 = .ok (.iload_n 1, 1) := by decide +kernel
theorem dX11_type_18 : decode cX11_type 18 = .ok (.invokevirtual 177, 3) := by decide +kernel
theorem dX11_type_21 : decode cX11_type 21 = .ok (.ifCond .eq 13, 3) := by decide +kernel
theorem dX11_type_24 : decode cX11_type 24 = .ok (.aload_n 0, 1) := by decide +kernel
theorem dX11_type_25 : decode cX11_type 25 = .ok (.getfield 22, 3) := by decide +kernel
theorem dX11_type_28 : decode cX11_type 28 = .ok (.getfield 179, 3) := by decide +kernel
theorem dX11_type_31 : decode cX11_type 31 = .ok (.goto 5, 3) := by decide +kernel
theorem dX11_type_34 : decode cX11_type 34 = .ok (.bipush (-3), 2) := by decide +kernel
theorem dX11_type_36 : decode cX11_type 36 = .ok (.ireturn, 1) := by decide +kernel
theorem dX11_block_0 : decode cX11_block 0 = .ok (.aload_n 0, 1) := by decide +kernel
theorem dX11_block_1 : decode cX11_block 1 = .ok (.getfield 29, 3) := by decide +kernel
theorem dX11_block_4 : decode cX11_block 4 = .ok (.aload_n 0, 1) := by decide +kernel
theorem dX11_block_5 : decode cX11_block 5 = .ok (.getfield 22, 3) := by decide +kernel
theorem dX11_block_8 : decode cX11_block 8 = .ok (.invokevirtual 182, 3) := by decide +kernel
theorem dX11_block_11 : decode cX11_block 11 = .ok (.istore_n 1, 1) := by decide +kernel
theorem dX11_block_12 : decode cX11_block 12 = .ok (.bipush (-20), 2) := by decide +kernel
theorem dX11_block_14 : decode cX11_block 14 = .ok (.aload_n 0, 1) := by decide +kernel
theorem dX11_block_15 : decode cX11_block 15 = .ok (.getfield 22, 3) := by decide +kernel
theorem dX11_block_18 : decode cX11_block 18 = .ok (.getfield 186, 3) := by decide +kernel
theorem dX11_block_21 : decode cX11_block 21 = .ok (.isub, 1) := by decide +kernel
theorem dX11_block_22 : decode cX11_block 22 = .ok (.istore_n 2, 1) := by decide +kernel
theorem dX11_block_23 : decode cX11_block 23 = .ok (.aload_n 0, 1) := by decide +kernel
theorem dX11_block_24 : decode cX11_block 24 = .ok (.getfield 22, 3) := by decide +kernel
theorem dX11_block_27 : decode cX11_block 27 = .ok (.invokevirtual 189, 3) := by decide +kernel
theorem dX11_block_30 : decode cX11_block 30 = .ok (.iload_n 1, 1) := by decide +kernel
theorem dX11_block_31 : decode cX11_block 31 = .ok (.ifCond .ne 5, 3) := by decide +kernel
theorem dX11_block_34 : decode cX11_block 34 = .ok (.iload_n 2, 1) := by decide +kernel
theorem dX11_block_35 : decode cX11_block 35 = .ok (.ireturn, 1) := by decide +kernel
theorem dX11_block_36 : decode cX11_block 36 = .ok (.aload_n 0, 1) := by decide +kernel
theorem dX11_block_37 : decode cX11_block 37 = .ok (.getfield 12, 3) := by decide +kernel
theorem dX11_block_40 : decode cX11_block 40 = .ok (.aload_n 0, 1) := by decide +kernel
theorem dX11_block_41 : decode cX11_block 41 = .ok (.getfield 29, 3) := by decide +kernel
theorem dX11_block_44 : decode cX11_block 44 = .ok (.getfield 190, 3) := by decide +kernel
theorem dX11_block_47 : decode cX11_block 47 = .ok (.aload_n 0, 1) := by decide +kernel
theorem dX11_block_48 : decode cX11_block 48 = .ok (.getfield 29, 3) := by decide +kernel
theorem dX11_block_51 : decode cX11_block 51 = .ok (.getfield 191, 3) := by decide +kernel
theorem dX11_block_54 : decode cX11_block 54 = .ok (.invokevirtual 192, 3) := by decide +kernel
theorem dX11_block_57 : decode cX11_block 57 = .ok (.aload_n 0, 1) := by decide +kernel
theorem dX11_block_58 : decode cX11_block 58 = .ok (.getfield 12, 3) := by decide +kernel
theorem dX11_block_61 : decode cX11_block 61 = .ok (.getfield 79, 3) := by decide +kernel
theorem dX11_block_64 : decode cX11_block 64 = .ok (.getfield 82, 3) := by decide +kernel
theorem dX11_block_67 : decode cX11_block 67 = .ok (.ireturn, 1) := by decide +kernel
theorem dX11_count_0 : decode cX11_count 0 = .ok (.iload_n 1, 1) := by decide +kernel
theorem dX11_count_1 : decode cX11_count 1 = .ok (.tableswitch 150 0 8 #[51, 62, 73, 84, 95, 106, 117, 128, 139], 51) := by decide +kernel
theorem dX11_count_52 : decode cX11_count 52 = .ok (.aload_n 0, 1) := by decide +kernel
theorem dX11_count_53 : decode cX11_count 53 = .ok (.getfield 12, 3) := by decide +kernel
theorem dX11_count_56 : decode cX11_count 56 = .ok (.getfield 79, 3) := by decide +kernel
theorem dX11_count_59 : decode cX11_count 59 = .ok (.getfield 82, 3) := by decide +kernel
theorem dX11_count_62 : decode cX11_count 62 = .ok (.ireturn, 1) := by decide +kernel
theorem dX11_count_63 : decode cX11_count 63 = .ok (.aload_n 0, 1) := by decide +kernel
theorem dX11_count_64 : decode cX11_count 64 = .ok (.getfield 12, 3) := by decide +kernel
theorem dX11_count_67 : decode cX11_count 67 = .ok (.getfield 79, 3) := by decide +kernel
theorem dX11_count_70 : decode cX11_count 70 = .ok (.getfield 145, 3) := by decide +kernel
theorem dX11_count_73 : decode cX11_count 73 = .ok (.ireturn, 1) := by decide +kernel
theorem dX11_count_74 : decode cX11_count 74 = .ok (.aload_n 0, 1) := by decide +kernel
theorem dX11_count_75 : decode cX11_count 75 = .ok (.getfield 12, 3) := by decide +kernel
theorem dX11_count_78 : decode cX11_count 78 = .ok (.getfield 141, 3) := by decide +kernel
theorem dX11_count_81 : decode cX11_count 81 = .ok (.getfield 196, 3) := by decide +kernel
theorem dX11_count_84 : decode cX11_count 84 = .ok (.ireturn, 1) := by decide +kernel
theorem dX11_count_85 : decode cX11_count 85 = .ok (.aload_n 0, 1) := by decide +kernel
theorem dX11_count_86 : decode cX11_count 86 = .ok (.getfield 12, 3) := by decide +kernel
theorem dX11_count_89 : decode cX11_count 89 = .ok (.getfield 141, 3) := by decide +kernel
theorem dX11_count_92 : decode cX11_count 92 = .ok (.getfield 171, 3) := by decide +kernel
theorem dX11_count_95 : decode cX11_count 95 = .ok (.ireturn, 1) := by decide +kernel
theorem dX11_count_96 : decode cX11_count 96 = .ok (.aload_n 0, 1) := by decide +kernel
theorem dX11_count_97 : decode cX11_count 97 = .ok (.getfield 12, 3) := by decide +kernel
theorem dX11_count_100 : decode cX11_count 100 = .ok (.getfield 141, 3) := by decide +kernel
theorem dX11_count_103 : decode cX11_count 103 = .ok (.getfield 174, 3) := by decide +kernel
theorem dX11_count_106 : decode cX11_count 106 = .ok (.ireturn, 1) := by decide +kernel
theorem dX11_count_107 : decode cX11_count 107 = .ok (.aload_n 0, 1) := by decide +kernel
theorem dX11_count_108 : decode cX11_count 108 = .ok (.getfield 12, 3) := by decide +kernel
theorem dX11_count_111 : decode cX11_count 111 = .ok (.getfield 90, 3) := by decide +kernel
theorem dX11_count_114 : decode cX11_count 114 = .ok (.getfield 199, 3) := by decide +kernel
theorem dX11_count_117 : decode cX11_count 117 = .ok (.ireturn, 1) := by decide +kernel
theorem dX11_count_118 : decode cX11_count 118 = .ok (.aload_n 0, 1) := by decide +kernel
theorem dX11_count_119 : decode cX11_count 119 = .ok (.getfield 12, 3) := by decide +kernel
theorem dX11_count_122 : decode cX11_count 122 = .ok (.getfield 79, 3) := by decide +kernel
theorem dX11_count_125 : decode cX11_count 125 = .ok (.invokevirtual 202, 3) := by decide +kernel
theorem dX11_count_128 : decode cX11_count 128 = .ok (.ireturn, 1) := by decide +kernel
theorem dX11_count_129 : decode cX11_count 129 = .ok (.aload_n 0, 1) := by decide +kernel
theorem dX11_count_130 : decode cX11_count 130 = .ok (.getfield 12, 3) := by decide +kernel
theorem dX11_count_133 : decode cX11_count 133 = .ok (.getfield 79, 3) := by decide +kernel
theorem dX11_count_136 : decode cX11_count 136 = .ok (.invokevirtual 205, 3) := by decide +kernel
theorem dX11_count_139 : decode cX11_count 139 = .ok (.ireturn, 1) := by decide +kernel
theorem dX11_count_140 : decode cX11_count 140 = .ok (.aload_n 0, 1) := by decide +kernel
theorem dX11_count_141 : decode cX11_count 141 = .ok (.getfield 12, 3) := by decide +kernel
theorem dX11_count_144 : decode cX11_count 144 = .ok (.getfield 79, 3) := by decide +kernel
theorem dX11_count_147 : decode cX11_count 147 = .ok (.invokevirtual 208, 3) := by decide +kernel
theorem dX11_count_150 : decode cX11_count 150 = .ok (.ireturn, 1) := by decide +kernel
theorem dX11_count_151 : decode cX11_count 151 = .ok (.iconst (-1), 1) := by decide +kernel
theorem dX11_count_152 : decode cX11_count 152 = .ok (.ireturn, 1) := by decide +kernel
theorem dX11_in_0 : decode cX11_in 0 = .ok (.aload_n 0, 1) := by decide +kernel
theorem dX11_in_1 : decode cX11_in 1 = .ok (.iload_n 1, 1) := by decide +kernel
theorem dX11_in_2 : decode cX11_in 2 = .ok (.invokevirtual 99, 3) := by decide +kernel
theorem dX11_in_5 : decode cX11_in 5 = .ok (.ifCond .eq 10, 3) := by decide +kernel
theorem dX11_in_8 : decode cX11_in 8 = .ok (.iload_n 2, 1) := by decide +kernel
theorem dX11_in_9 : decode cX11_in 9 = .ok (.invokestatic 211, 3) := by decide +kernel
theorem dX11_in_12 : decode cX11_in 12 = .ok (.ifCond .ne 5, 3) := by decide +kernel
theorem dX11_in_15 : decode cX11_in 15 = .ok (.iconst (-1), 1) := by decide +kernel
theorem dX11_in_16 : decode cX11_in 16 = .ok (.ireturn, 1) := by decide +kernel
theorem dX11_in_17 : decode cX11_in 17 = .ok (.aload_n 0, 1) := by decide +kernel
theorem dX11_in_18 : decode cX11_in 18 = .ok (.getfield 12, 3) := by decide +kernel
theorem dX11_in_21 : decode cX11_in 21 = .ok (.getfield 79, 3) := by decide +kernel
theorem dX11_in_24 : decode cX11_in 24 = .ok (.getfield 102, 3) := by decide +kernel
theorem dX11_in_27 : decode cX11_in 27 = .ok (.iload_n 1, 1) := by decide +kernel
theorem dX11_in_28 : decode cX11_in 28 = .ok (.aaload, 1) := by decide +kernel
theorem dX11_in_29 : decode cX11_in 29 = .ok (.astore_n 3, 1) := by decide +kernel
theorem dX11_in_30 : decode cX11_in 30 = .ok (.aload_n 3, 1) := by decide +kernel
theorem dX11_in_31 : decode cX11_in 31 = .ok (.invokevirtual 125, 3) := by decide +kernel
theorem dX11_in_34 : decode cX11_in 34 = .ok (.ifCond .eq 6, 3) := by decide +kernel
theorem dX11_in_37 : decode cX11_in 37 = .ok (.bipush (-2), 2) := by decide +kernel
theorem dX11_in_39 : decode cX11_in 39 = .ok (.ireturn, 1) := by decide +kernel
theorem dX11_in_40 : decode cX11_in 40 = .ok (.aload_n 0, 1) := by decide +kernel
theorem dX11_in_41 : decode cX11_in 41 = .ok (.getfield 12, 3) := by decide +kernel
theorem dX11_in_44 : decode cX11_in 44 = .ok (.aload_n 3, 1) := by decide +kernel
theorem dX11_in_45 : decode cX11_in 45 = .ok (.getfield 214, 3) := by decide +kernel
theorem dX11_in_48 : decode cX11_in 48 = .ok (.iload_n 2, 1) := by decide +kernel
theorem dX11_in_49 : decode cX11_in 49 = .ok (.iconst 0, 1) := by decide +kernel
theorem dX11_in_50 : decode cX11_in 50 = .ok (.invokevirtual 217, 3) := by decide +kernel
theorem dX11_in_53 : decode cX11_in 53 = .ok (.istore 4, 2) := by decide +kernel
theorem dX11_in_55 : decode cX11_in 55 = .ok (.aload_n 3, 1) := by decide +kernel
theorem dX11_in_56 : decode cX11_in 56 = .ok (.getfield 106, 3) := by decide +kernel
theorem dX11_in_59 : decode cX11_in 59 = .ok (.getfield 221, 3) := by decide +kernel
theorem dX11_in_62 : decode cX11_in 62 = .ok (.ifCond .ne 36, 3) := by decide +kernel
theorem dX11_in_65 : decode cX11_in 65 = .ok (.aload_n 0, 1) := by decide +kernel
theorem dX11_in_66 : decode cX11_in 66 = .ok (.getfield 12, 3) := by decide +kernel
theorem dX11_in_69 : decode cX11_in 69 = .ok (.getfield 79, 3) := by decide +kernel
theorem dX11_in_72 : decode cX11_in 72 = .ok (.iload 4, 2) := by decide +kernel
theorem dX11_in_74 : decode cX11_in 74 = .ok (.invokevirtual 165, 3) := by decide +kernel
theorem dX11_in_77 : decode cX11_in 77 = .ok (.aload_n 3, 1) := by decide +kernel
theorem dX11_in_78 : decode cX11_in 78 = .ok (.invokevirtual 117, 3) := by decide +kernel
theorem dX11_in_81 : decode cX11_in 81 = .ok (.iadd, 1) := by decide +kernel
theorem dX11_in_82 : decode cX11_in 82 = .ok (.aload_n 0, 1) := by decide +kernel
theorem dX11_in_83 : decode cX11_in 83 = .ok (.getfield 12, 3) := by decide +kernel
theorem dX11_in_86 : decode cX11_in 86 = .ok (.getfield 141, 3) := by decide +kernel
theorem dX11_in_89 : decode cX11_in 89 = .ok (.getfield 171, 3) := by decide +kernel
theorem dX11_in_92 : decode cX11_in 92 = .ok (.if_icmp .le 6, 3) := by decide +kernel
theorem dX11_in_95 : decode cX11_in 95 = .ok (.bipush (-3), 2) := by decide +kernel
theorem dX11_in_97 : decode cX11_in 97 = .ok (.ireturn, 1) := by decide +kernel
theorem dX11_in_98 : decode cX11_in 98 = .ok (.aload_n 0, 1) := by decide +kernel
theorem dX11_in_99 : decode cX11_in 99 = .ok (.getfield 12, 3) := by decide +kernel
theorem dX11_in_102 : decode cX11_in 102 = .ok (.getfield 90, 3) := by decide +kernel
theorem dX11_in_105 : decode cX11_in 105 = .ok (.aload_n 0, 1) := by decide +kernel
theorem dX11_in_106 : decode cX11_in 106 = .ok (.getfield 12, 3) := by decide +kernel
theorem dX11_in_109 : decode cX11_in 109 = .ok (.getfield 79, 3) := by decide +kernel
theorem dX11_in_112 : decode cX11_in 112 = .ok (.invokevirtual 225, 3) := by decide +kernel
theorem dX11_in_115 : decode cX11_in 115 = .ok (.aload_n 3, 1) := by decide +kernel
theorem dX11_in_116 : decode cX11_in 116 = .ok (.iload 4, 2) := by decide +kernel
theorem dX11_in_118 : decode cX11_in 118 = .ok (.putfield 129, 3) := by decide +kernel
theorem dX11_in_121 : decode cX11_in 121 = .ok (.iload 4, 2) := by decide +kernel
theorem dX11_in_123 : decode cX11_in 123 = .ok (.ireturn, 1) := by decide +kernel
theorem dX11_out_0 : decode cX11_out 0 = .ok (.aload_n 0, 1) := by decide +kernel
theorem dX11_out_1 : decode cX11_out 1 = .ok (.iload_n 1, 1) := by decide +kernel
theorem dX11_out_2 : decode cX11_out 2 = .ok (.invokevirtual 99, 3) := by decide +kernel
theorem dX11_out_5 : decode cX11_out 5 = .ok (.ifCond .ne 5, 3) := by decide +kernel
theorem dX11_out_8 : decode cX11_out 8 = .ok (.iconst (-1), 1) := by decide +kernel
theorem dX11_out_9 : decode cX11_out 9 = .ok (.ireturn, 1) := by decide +kernel
theorem dX11_out_10 : decode cX11_out 10 = .ok (.aload_n 0, 1) := by decide +kernel
theorem dX11_out_11 : decode cX11_out 11 = .ok (.getfield 12, 3) := by decide +kernel
theorem dX11_out_14 : decode cX11_out 14 = .ok (.getfield 79, 3) := by decide +kernel
theorem dX11_out_17 : decode cX11_out 17 = .ok (.getfield 102, 3) := by decide +kernel
theorem dX11_out_20 : decode cX11_out 20 = .ok (.iload_n 1, 1) := by decide +kernel
theorem dX11_out_21 : decode cX11_out 21 = .ok (.aaload, 1) := by decide +kernel
theorem dX11_out_22 : decode cX11_out 22 = .ok (.astore_n 2, 1) := by decide +kernel
theorem dX11_out_23 : decode cX11_out 23 = .ok (.aload_n 2, 1) := by decide +kernel
theorem dX11_out_24 : decode cX11_out 24 = .ok (.invokevirtual 125, 3) := by decide +kernel
theorem dX11_out_27 : decode cX11_out 27 = .ok (.ifCond .ne 6, 3) := by decide +kernel
theorem dX11_out_30 : decode cX11_out 30 = .ok (.bipush (-2), 2) := by decide +kernel
theorem dX11_out_32 : decode cX11_out 32 = .ok (.ireturn, 1) := by decide +kernel
theorem dX11_out_33 : decode cX11_out 33 = .ok (.aload_n 0, 1) := by decide +kernel
theorem dX11_out_34 : decode cX11_out 34 = .ok (.getfield 12, 3) := by decide +kernel
theorem dX11_out_37 : decode cX11_out 37 = .ok (.getfield 90, 3) := by decide +kernel
theorem dX11_out_40 : decode cX11_out 40 = .ok (.aload_n 0, 1) := by decide +kernel
theorem dX11_out_41 : decode cX11_out 41 = .ok (.getfield 12, 3) := by decide +kernel
theorem dX11_out_44 : decode cX11_out 44 = .ok (.getfield 79, 3) := by decide +kernel
theorem dX11_out_47 : decode cX11_out 47 = .ok (.invokevirtual 225, 3) := by decide +kernel
theorem dX11_out_50 : decode cX11_out 50 = .ok (.aload_n 2, 1) := by decide +kernel
theorem dX11_out_51 : decode cX11_out 51 = .ok (.aload_n 0, 1) := by decide +kernel
theorem dX11_out_52 : decode cX11_out 52 = .ok (.getfield 12, 3) := by decide +kernel
theorem dX11_out_55 : decode cX11_out 55 = .ok (.getfield 141, 3) := by decide +kernel
theorem dX11_out_58 : decode cX11_out 58 = .ok (.aload_n 0, 1) := by decide +kernel
theorem dX11_out_59 : decode cX11_out 59 = .ok (.getfield 12, 3) := by decide +kernel
theorem dX11_out_62 : decode cX11_out 62 = .ok (.getfield 79, 3) := by decide +kernel
theorem dX11_out_65 : decode cX11_out 65 = .ok (.getfield 145, 3) := by decide +kernel
theorem dX11_out_68 : decode cX11_out 68 = .ok (.invokevirtual 229, 3) := by decide +kernel
theorem dX11_out_71 : decode cX11_out 71 = .ok (.aload_n 2, 1) := by decide +kernel
theorem dX11_out_72 : decode cX11_out 72 = .ok (.getfield 214, 3) := by decide +kernel
theorem dX11_out_75 : decode cX11_out 75 = .ok (.ireturn, 1) := by decide +kernel
theorem dX11_steps_0 : decode cX11_steps 0 = .ok (.iload_n 1, 1) := by decide +kernel
theorem dX11_steps_1 : decode cX11_steps 1 = .ok (.iconst 1, 1) := by decide +kernel
theorem dX11_steps_2 : decode cX11_steps 2 = .ok (.bipush 60, 2) := by decide +kernel
theorem dX11_steps_4 : decode cX11_steps 4 = .ok (.invokestatic 68, 3) := by decide +kernel
theorem dX11_steps_7 : decode cX11_steps 7 = .ok (.ifCond .ne 5, 3) := by decide +kernel
theorem dX11_steps_10 : decode cX11_steps 10 = .ok (.iconst (-1), 1) := by decide +kernel
theorem dX11_steps_11 : decode cX11_steps 11 = .ok (.ireturn, 1) := by decide +kernel
theorem dX11_steps_12 : decode cX11_steps 12 = .ok (.aload_n 0, 1) := by decide +kernel
theorem dX11_steps_13 : decode cX11_steps 13 = .ok (.getfield 12, 3) := by decide +kernel
theorem dX11_steps_16 : decode cX11_steps 16 = .ok (.getfield 79, 3) := by decide +kernel
theorem dX11_steps_19 : decode cX11_steps 19 = .ok (.getfield 145, 3) := by decide +kernel
theorem dX11_steps_22 : decode cX11_steps 22 = .ok (.iload_n 1, 1) := by decide +kernel
theorem dX11_steps_23 : decode cX11_steps 23 = .ok (.iadd, 1) := by decide +kernel
theorem dX11_steps_24 : decode cX11_steps 24 = .ok (.sipush 9999, 3) := by decide +kernel
theorem dX11_steps_27 : decode cX11_steps 27 = .ok (.if_icmp .le 6, 3) := by decide +kernel
theorem dX11_steps_30 : decode cX11_steps 30 = .ok (.bipush (-3), 2) := by decide +kernel
theorem dX11_steps_32 : decode cX11_steps 32 = .ok (.ireturn, 1) := by decide +kernel
theorem dX11_steps_33 : decode cX11_steps 33 = .ok (.iconst 0, 1) := by decide +kernel
theorem dX11_steps_34 : decode cX11_steps 34 = .ok (.istore_n 2, 1) := by decide +kernel
theorem dX11_steps_35 : decode cX11_steps 35 = .ok (.iload_n 2, 1) := by decide +kernel
theorem dX11_steps_36 : decode cX11_steps 36 = .ok (.iload_n 1, 1) := by decide +kernel
theorem dX11_steps_37 : decode cX11_steps 37 = .ok (.if_icmp .ge 16, 3) := by decide +kernel
theorem dX11_steps_40 : decode cX11_steps 40 = .ok (.aload_n 0, 1) := by decide +kernel
theorem dX11_steps_41 : decode cX11_steps 41 = .ok (.getfield 12, 3) := by decide +kernel
theorem dX11_steps_44 : decode cX11_steps 44 = .ok (.invokevirtual 233, 3) := by decide +kernel
theorem dX11_steps_47 : decode cX11_steps 47 = .ok (.iinc 2 1, 3) := by decide +kernel
theorem dX11_steps_50 : decode cX11_steps 50 = .ok (.goto (-15), 3) := by decide +kernel
theorem dX11_steps_53 : decode cX11_steps 53 = .ok (.aload_n 0, 1) := by decide +kernel
theorem dX11_steps_54 : decode cX11_steps 54 = .ok (.getfield 12, 3) := by decide +kernel
theorem dX11_steps_57 : decode cX11_steps 57 = .ok (.getfield 79, 3) := by decide +kernel
theorem dX11_steps_60 : decode cX11_steps 60 = .ok (.invokevirtual 202, 3) := by decide +kernel
theorem dX11_steps_63 : decode cX11_steps 63 = .ok (.ireturn, 1) := by decide +kernel
theorem dX11_drift_0 : decode cX11_drift 0 = .ok (.iload_n 1, 1) := by decide +kernel
theorem dX11_drift_1 : decode cX11_drift 1 = .ok (.iconst 1, 1) := by decide +kernel
theorem dX11_drift_2 : decode cX11_drift 2 = .ok (.bipush 60, 2) := by decide +kernel
theorem dX11_drift_4 : decode cX11_drift 4 = .ok (.invokestatic 68, 3) := by decide +kernel
theorem dX11_drift_7 : decode cX11_drift 7 = .ok (.ifCond .ne 5, 3) := by decide +kernel
theorem dX11_drift_10 : decode cX11_drift 10 = .ok (.iconst (-1), 1) := by decide +kernel
theorem dX11_drift_11 : decode cX11_drift 11 = .ok (.ireturn, 1) := by decide +kernel
theorem dX11_drift_12 : decode cX11_drift 12 = .ok (.aload_n 0, 1) := by decide +kernel
theorem dX11_drift_13 : decode cX11_drift 13 = .ok (.getfield 12, 3) := by decide +kernel
theorem dX11_drift_16 : decode cX11_drift 16 = .ok (.getfield 79, 3) := by decide +kernel
theorem dX11_drift_19 : decode cX11_drift 19 = .ok (.getfield 145, 3) := by decide +kernel
theorem dX11_drift_22 : decode cX11_drift 22 = .ok (.iload_n 1, 1) := by decide +kernel
theorem dX11_drift_23 : decode cX11_drift 23 = .ok (.iadd, 1) := by decide +kernel
theorem dX11_drift_24 : decode cX11_drift 24 = .ok (.sipush 9999, 3) := by decide +kernel
theorem dX11_drift_27 : decode cX11_drift 27 = .ok (.if_icmp .le 6, 3) := by decide +kernel
theorem dX11_drift_30 : decode cX11_drift 30 = .ok (.bipush (-3), 2) := by decide +kernel
theorem dX11_drift_32 : decode cX11_drift 32 = .ok (.ireturn, 1) := by decide +kernel
theorem dX11_drift_33 : decode cX11_drift 33 = .ok (.iconst 0, 1) := by decide +kernel
theorem dX11_drift_34 : decode cX11_drift 34 = .ok (.istore_n 2, 1) := by decide +kernel
theorem dX11_drift_35 : decode cX11_drift 35 = .ok (.iconst 0, 1) := by decide +kernel
theorem dX11_drift_36 : decode cX11_drift 36 = .ok (.istore_n 3, 1) := by decide +kernel
theorem dX11_drift_37 : decode cX11_drift 37 = .ok (.iload_n 3, 1) := by decide +kernel
theorem dX11_drift_38 : decode cX11_drift 38 = .ok (.iload_n 1, 1) := by decide +kernel
theorem dX11_drift_39 : decode cX11_drift 39 = .ok (.if_icmp .ge 22, 3) := by decide +kernel
theorem dX11_drift_42 : decode cX11_drift 42 = .ok (.aload_n 0, 1) := by decide +kernel
theorem dX11_drift_43 : decode cX11_drift 43 = .ok (.getfield 12, 3) := by decide +kernel
theorem dX11_drift_46 : decode cX11_drift 46 = .ok (.invokevirtual 236, 3) := by decide +kernel
theorem dX11_drift_49 : decode cX11_drift 49 = .ok (.ifCond .ne 6, 3) := by decide +kernel
theorem dX11_drift_52 : decode cX11_drift 52 = .ok (.iinc 2 1, 3) := by decide +kernel
theorem dX11_drift_55 : decode cX11_drift 55 = .ok (.iinc 3 1, 3) := by decide +kernel
theorem dX11_drift_58 : decode cX11_drift 58 = .ok (.goto (-21), 3) := by decide +kernel
theorem dX11_drift_61 : decode cX11_drift 61 = .ok (.iload_n 2, 1) := by decide +kernel
theorem dX11_drift_62 : decode cX11_drift 62 = .ok (.ireturn, 1) := by decide +kernel
theorem dX11_undo_0 : decode cX11_undo 0 = .ok (.aload_n 0, 1) := by decide +kernel
theorem dX11_undo_1 : decode cX11_undo 1 = .ok (.getfield 12, 3) := by decide +kernel
theorem dX11_undo_4 : decode cX11_undo 4 = .ok (.getfield 90, 3) := by decide +kernel
theorem dX11_undo_7 : decode cX11_undo 7 = .ok (.getfield 199, 3) := by decide +kernel
theorem dX11_undo_10 : decode cX11_undo 10 = .ok (.ifCond .ne 6, 3) := by decide +kernel
theorem dX11_undo_13 : decode cX11_undo 13 = .ok (.bipush (-4), 2) := by decide +kernel
theorem dX11_undo_15 : decode cX11_undo 15 = .ok (.ireturn, 1) := by decide +kernel
theorem dX11_undo_16 : decode cX11_undo 16 = .ok (.aload_n 0, 1) := by decide +kernel
theorem dX11_undo_17 : decode cX11_undo 17 = .ok (.getfield 12, 3) := by decide +kernel
theorem dX11_undo_20 : decode cX11_undo 20 = .ok (.getfield 90, 3) := by decide +kernel
theorem dX11_undo_23 : decode cX11_undo 23 = .ok (.aload_n 0, 1) := by decide +kernel
theorem dX11_undo_24 : decode cX11_undo 24 = .ok (.getfield 12, 3) := by decide +kernel
theorem dX11_undo_27 : decode cX11_undo 27 = .ok (.getfield 79, 3) := by decide +kernel
theorem dX11_undo_30 : decode cX11_undo 30 = .ok (.invokevirtual 239, 3) := by decide +kernel
theorem dX11_undo_33 : decode cX11_undo 33 = .ok (.aload_n 0, 1) := by decide +kernel
theorem dX11_undo_34 : decode cX11_undo 34 = .ok (.getfield 12, 3) := by decide +kernel
theorem dX11_undo_37 : decode cX11_undo 37 = .ok (.getfield 90, 3) := by decide +kernel
theorem dX11_undo_40 : decode cX11_undo 40 = .ok (.getfield 199, 3) := by decide +kernel
theorem dX11_undo_43 : decode cX11_undo 43 = .ok (.ireturn, 1) := by decide +kernel
theorem dX11_seed_0 : decode cX11_seed 0 = .ok (.iload_n 1, 1) := by decide +kernel
theorem dX11_seed_1 : decode cX11_seed 1 = .ok (.ifCond .ge 5, 3) := by decide +kernel
theorem dX11_seed_4 : decode cX11_seed 4 = .ok (.iconst (-1), 1) := by decide +kernel
theorem dX11_seed_5 : decode cX11_seed 5 = .ok (.ireturn, 1) := by decide +kernel
theorem dX11_seed_6 : decode cX11_seed 6 = .ok (.aload_n 0, 1) := by decide +kernel
theorem dX11_seed_7 : decode cX11_seed 7 = .ok (.getfield 12, 3) := by decide +kernel
theorem dX11_seed_10 : decode cX11_seed 10 = .ok (.getfield 79, 3) := by decide +kernel
theorem dX11_seed_13 : decode cX11_seed 13 = .ok (.getfield 242, 3) := by decide +kernel
theorem dX11_seed_16 : decode cX11_seed 16 = .ok (.istore_n 2, 1) := by decide +kernel
theorem dX11_seed_17 : decode cX11_seed 17 = .ok (.aload_n 0, 1) := by decide +kernel
theorem dX11_seed_18 : decode cX11_seed 18 = .ok (.getfield 12, 3) := by decide +kernel
theorem dX11_seed_21 : decode cX11_seed 21 = .ok (.getfield 79, 3) := by decide +kernel
theorem dX11_seed_24 : decode cX11_seed 24 = .ok (.iload_n 1, 1) := by decide +kernel
theorem dX11_seed_25 : decode cX11_seed 25 = .ok (.putfield 242, 3) := by decide +kernel
theorem dX11_seed_28 : decode cX11_seed 28 = .ok (.iload_n 2, 1) := by decide +kernel
theorem dX11_seed_29 : decode cX11_seed 29 = .ok (.ireturn, 1) := by decide +kernel
theorem dX11_at_0 : decode cX11_at 0 = .ok (.aload_n 0, 1) := by decide +kernel
theorem dX11_at_1 : decode cX11_at 1 = .ok (.iload_n 1, 1) := by decide +kernel
theorem dX11_at_2 : decode cX11_at 2 = .ok (.invokevirtual 72, 3) := by decide +kernel
theorem dX11_at_5 : decode cX11_at 5 = .ok (.ifCond .eq 21, 3) := by decide +kernel
theorem dX11_at_8 : decode cX11_at 8 = .ok (.iload_n 2, 1) := by decide +kernel
theorem dX11_at_9 : decode cX11_at 9 = .ok (.invokestatic 211, 3) := by decide +kernel
theorem dX11_at_12 : decode cX11_at 12 = .ok (.ifCond .eq 14, 3) := by decide +kernel
theorem dX11_at_15 : decode cX11_at 15 = .ok (.iload_n 3, 1) := by decide +kernel
theorem dX11_at_16 : decode cX11_at 16 = .ok (.iconst 0, 1) := by decide +kernel
theorem dX11_at_17 : decode cX11_at 17 = .ok (.sipush 999, 3) := by decide +kernel
theorem dX11_at_20 : decode cX11_at 20 = .ok (.invokestatic 68, 3) := by decide +kernel
theorem dX11_at_23 : decode cX11_at 23 = .ok (.ifCond .ne 5, 3) := by decide +kernel
theorem dX11_at_26 : decode cX11_at 26 = .ok (.iconst (-1), 1) := by decide +kernel
theorem dX11_at_27 : decode cX11_at 27 = .ok (.ireturn, 1) := by decide +kernel
theorem dX11_at_28 : decode cX11_at 28 = .ok (.aload_n 0, 1) := by decide +kernel
theorem dX11_at_29 : decode cX11_at 29 = .ok (.getfield 12, 3) := by decide +kernel
theorem dX11_at_32 : decode cX11_at 32 = .ok (.iload_n 1, 1) := by decide +kernel
theorem dX11_at_33 : decode cX11_at 33 = .ok (.iload_n 2, 1) := by decide +kernel
theorem dX11_at_34 : decode cX11_at 34 = .ok (.iload_n 3, 1) := by decide +kernel
theorem dX11_at_35 : decode cX11_at 35 = .ok (.invokevirtual 217, 3) := by decide +kernel
theorem dX11_at_38 : decode cX11_at 38 = .ok (.ireturn, 1) := by decide +kernel
theorem dX11_place_0 : decode cX11_place 0 = .ok (.aload_n 0, 1) := by decide +kernel
theorem dX11_place_1 : decode cX11_place 1 = .ok (.iload_n 1, 1) := by decide +kernel
theorem dX11_place_2 : decode cX11_place 2 = .ok (.invokevirtual 138, 3) := by decide +kernel
theorem dX11_place_5 : decode cX11_place 5 = .ok (.ifCond .eq 14, 3) := by decide +kernel
theorem dX11_place_8 : decode cX11_place 8 = .ok (.iload_n 2, 1) := by decide +kernel
theorem dX11_place_9 : decode cX11_place 9 = .ok (.iconst 0, 1) := by decide +kernel
theorem dX11_place_10 : decode cX11_place 10 = .ok (.sipush 999, 3) := by decide +kernel
theorem dX11_place_13 : decode cX11_place 13 = .ok (.invokestatic 68, 3) := by decide +kernel
theorem dX11_place_16 : decode cX11_place 16 = .ok (.ifCond .ne 5, 3) := by decide +kernel
theorem dX11_place_19 : decode cX11_place 19 = .ok (.iconst (-1), 1) := by decide +kernel
theorem dX11_place_20 : decode cX11_place 20 = .ok (.ireturn, 1) := by decide +kernel
theorem dX11_place_21 : decode cX11_place 21 = .ok (.aload_n 0, 1) := by decide +kernel
theorem dX11_place_22 : decode cX11_place 22 = .ok (.getfield 12, 3) := by decide +kernel
theorem dX11_place_25 : decode cX11_place 25 = .ok (.getfield 141, 3) := by decide +kernel
theorem dX11_place_28 : decode cX11_place 28 = .ok (.iload_n 1, 1) := by decide +kernel
theorem dX11_place_29 : decode cX11_place 29 = .ok (.aload_n 0, 1) := by decide +kernel
theorem dX11_place_30 : decode cX11_place 30 = .ok (.getfield 12, 3) := by decide +kernel
theorem dX11_place_33 : decode cX11_place 33 = .ok (.getfield 79, 3) := by decide +kernel
theorem dX11_place_36 : decode cX11_place 36 = .ok (.getfield 145, 3) := by decide +kernel
theorem dX11_place_39 : decode cX11_place 39 = .ok (.iload_n 2, 1) := by decide +kernel
theorem dX11_place_40 : decode cX11_place 40 = .ok (.iadd, 1) := by decide +kernel
theorem dX11_place_41 : decode cX11_place 41 = .ok (.invokevirtual 148, 3) := by decide +kernel
theorem dX11_place_44 : decode cX11_place 44 = .ok (.ireturn, 1) := by decide +kernel
theorem dX11_comes_0 : decode cX11_comes 0 = .ok (.iload_n 1, 1) := by decide +kernel
theorem dX11_comes_1 : decode cX11_comes 1 = .ok (.invokestatic 76, 3) := by decide +kernel
theorem dX11_comes_4 : decode cX11_comes 4 = .ok (.ifCond .eq 18, 3) := by decide +kernel
theorem dX11_comes_7 : decode cX11_comes 7 = .ok (.aload_n 0, 1) := by decide +kernel
theorem dX11_comes_8 : decode cX11_comes 8 = .ok (.iload_n 2, 1) := by decide +kernel
theorem dX11_comes_9 : decode cX11_comes 9 = .ok (.invokevirtual 72, 3) := by decide +kernel
theorem dX11_comes_12 : decode cX11_comes 12 = .ok (.ifCond .eq 10, 3) := by decide +kernel
theorem dX11_comes_15 : decode cX11_comes 15 = .ok (.iload_n 3, 1) := by decide +kernel
theorem dX11_comes_16 : decode cX11_comes 16 = .ok (.invokestatic 211, 3) := by decide +kernel
theorem dX11_comes_19 : decode cX11_comes 19 = .ok (.ifCond .ne 5, 3) := by decide +kernel
theorem dX11_comes_22 : decode cX11_comes 22 = .ok (.iconst (-1), 1) := by decide +kernel
theorem dX11_comes_23 : decode cX11_comes 23 = .ok (.ireturn, 1) := by decide +kernel
theorem dX11_comes_24 : decode cX11_comes 24 = .ok (.iconst 0, 1) := by decide +kernel
theorem dX11_comes_25 : decode cX11_comes 25 = .ok (.istore 4, 2) := by decide +kernel
theorem dX11_comes_27 : decode cX11_comes 27 = .ok (.iload 4, 2) := by decide +kernel
theorem dX11_comes_29 : decode cX11_comes 29 = .ok (.bipush 11, 2) := by decide +kernel
theorem dX11_comes_31 : decode cX11_comes 31 = .ok (.if_icmp .gt 38, 3) := by decide +kernel
theorem dX11_comes_34 : decode cX11_comes 34 = .ok (.aload_n 0, 1) := by decide +kernel
theorem dX11_comes_35 : decode cX11_comes 35 = .ok (.getfield 12, 3) := by decide +kernel
theorem dX11_comes_38 : decode cX11_comes 38 = .ok (.getfield 141, 3) := by decide +kernel
theorem dX11_comes_41 : decode cX11_comes 41 = .ok (.getfield 154, 3) := by decide +kernel
theorem dX11_comes_44 : decode cX11_comes 44 = .ok (.aload_n 0, 1) := by decide +kernel
theorem dX11_comes_45 : decode cX11_comes 45 = .ok (.getfield 12, 3) := by decide +kernel
theorem dX11_comes_48 : decode cX11_comes 48 = .ok (.iload_n 2, 1) := by decide +kernel
theorem dX11_comes_49 : decode cX11_comes 49 = .ok (.iload_n 3, 1) := by decide +kernel
theorem dX11_comes_50 : decode cX11_comes 50 = .ok (.iload 4, 2) := by decide +kernel
theorem dX11_comes_52 : decode cX11_comes 52 = .ok (.invokevirtual 217, 3) := by decide +kernel
theorem dX11_comes_55 : decode cX11_comes 55 = .ok (.iaload, 1) := by decide +kernel
theorem dX11_comes_56 : decode cX11_comes 56 = .ok (.iload_n 1, 1) := by decide +kernel
theorem dX11_comes_57 : decode cX11_comes 57 = .ok (.if_icmp .ne 6, 3) := by decide +kernel
theorem dX11_comes_60 : decode cX11_comes 60 = .ok (.iload 4, 2) := by decide +kernel
theorem dX11_comes_62 : decode cX11_comes 62 = .ok (.ireturn, 1) := by decide +kernel
theorem dX11_comes_63 : decode cX11_comes 63 = .ok (.iinc 4 1, 3) := by decide +kernel
theorem dX11_comes_66 : decode cX11_comes 66 = .ok (.goto (-39), 3) := by decide +kernel
theorem dX11_comes_69 : decode cX11_comes 69 = .ok (.bipush (-4), 2) := by decide +kernel
theorem dX11_comes_71 : decode cX11_comes 71 = .ok (.ireturn, 1) := by decide +kernel
theorem dX11_soonest_0 : decode cX11_soonest 0 = .ok (.aload_n 0, 1) := by decide +kernel
theorem dX11_soonest_1 : decode cX11_soonest 1 = .ok (.iload_n 1, 1) := by decide +kernel
theorem dX11_soonest_2 : decode cX11_soonest 2 = .ok (.invokevirtual 99, 3) := by decide +kernel
theorem dX11_soonest_5 : decode cX11_soonest 5 = .ok (.ifCond .eq 28, 3) := by decide +kernel
theorem dX11_soonest_8 : decode cX11_soonest 8 = .ok (.aload_n 0, 1) := by decide +kernel
theorem dX11_soonest_9 : decode cX11_soonest 9 = .ok (.iload_n 2, 1) := by decide +kernel
theorem dX11_soonest_10 : decode cX11_soonest 10 = .ok (.invokevirtual 72, 3) := by decide +kernel
theorem dX11_soonest_13 : decode cX11_soonest 13 = .ok (.ifCond .eq 20, 3) := by decide +kernel
theorem dX11_soonest_16 : decode cX11_soonest 16 = .ok (.iload_n 3, 1) := by decide +kernel
theorem dX11_soonest_17 : decode cX11_soonest 17 = .ok (.invokestatic 76, 3) := by decide +kernel
theorem dX11_soonest_20 : decode cX11_soonest 20 = .ok (.ifCond .eq 13, 3) := by decide +kernel
theorem dX11_soonest_23 : decode cX11_soonest 23 = .ok (.iload 4, 2) := by decide +kernel
theorem dX11_soonest_25 : decode cX11_soonest 25 = .ok (.iconst 0, 1) := by decide +kernel
theorem dX11_soonest_26 : decode cX11_soonest 26 = .ok (.iconst 1, 1) := by decide +kernel
theorem dX11_soonest_27 : decode cX11_soonest 27 = .ok (.invokestatic 68, 3) := by decide +kernel
theorem dX11_soonest_30 : decode cX11_soonest 30 = .ok (.ifCond .ne 5, 3) := by decide +kernel
theorem dX11_soonest_33 : decode cX11_soonest 33 = .ok (.iconst (-1), 1) := by decide +kernel
theorem dX11_soonest_34 : decode cX11_soonest 34 = .ok (.ireturn, 1) := by decide +kernel
theorem dX11_soonest_35 : decode cX11_soonest 35 = .ok (.aload_n 0, 1) := by decide +kernel
theorem dX11_soonest_36 : decode cX11_soonest 36 = .ok (.getfield 43, 3) := by decide +kernel
theorem dX11_soonest_39 : decode cX11_soonest 39 = .ok (.aload_n 0, 1) := by decide +kernel
theorem dX11_soonest_40 : decode cX11_soonest 40 = .ok (.getfield 12, 3) := by decide +kernel
theorem dX11_soonest_43 : decode cX11_soonest 43 = .ok (.aload_n 0, 1) := by decide +kernel
theorem dX11_soonest_44 : decode cX11_soonest 44 = .ok (.getfield 12, 3) := by decide +kernel
theorem dX11_soonest_47 : decode cX11_soonest 47 = .ok (.getfield 79, 3) := by decide +kernel
theorem dX11_soonest_50 : decode cX11_soonest 50 = .ok (.getfield 102, 3) := by decide +kernel
theorem dX11_soonest_53 : decode cX11_soonest 53 = .ok (.iload_n 1, 1) := by decide +kernel
theorem dX11_soonest_54 : decode cX11_soonest 54 = .ok (.aaload, 1) := by decide +kernel
theorem dX11_soonest_55 : decode cX11_soonest 55 = .ok (.invokevirtual 245, 3) := by decide +kernel
theorem dX11_soonest_58 : decode cX11_soonest 58 = .ok (.iload_n 2, 1) := by decide +kernel
theorem dX11_soonest_59 : decode cX11_soonest 59 = .ok (.iload_n 3, 1) := by decide +kernel
theorem dX11_soonest_60 : decode cX11_soonest 60 = .ok (.invokestatic 248, 3) := by decide +kernel
theorem dX11_soonest_63 : decode cX11_soonest 63 = .ok (.lstore 5, 2) := by decide +kernel
theorem dX11_soonest_65 : decode cX11_soonest 65 = .ok (.aload_n 0, 1) := by decide +kernel
theorem dX11_soonest_66 : decode cX11_soonest 66 = .ok (.getfield 43, 3) := by decide +kernel
theorem dX11_soonest_69 : decode cX11_soonest 69 = .ok (.lload 5, 2) := by decide +kernel
theorem dX11_soonest_71 : decode cX11_soonest 71 = .ok (.bipush 60, 2) := by decide +kernel
theorem dX11_soonest_73 : decode cX11_soonest 73 = .ok (.invokevirtual 252, 3) := by decide +kernel
theorem dX11_soonest_76 : decode cX11_soonest 76 = .ok (.istore 7, 2) := by decide +kernel
theorem dX11_soonest_78 : decode cX11_soonest 78 = .ok (.iload 7, 2) := by decide +kernel
theorem dX11_soonest_80 : decode cX11_soonest 80 = .ok (.bipush (-4), 2) := by decide +kernel
theorem dX11_soonest_82 : decode cX11_soonest 82 = .ok (.if_icmp .eq 8, 3) := by decide +kernel
theorem dX11_soonest_85 : decode cX11_soonest 85 = .ok (.iload 4, 2) := by decide +kernel
theorem dX11_soonest_87 : decode cX11_soonest 87 = .ok (.ifCond .ne 6, 3) := by decide +kernel
theorem dX11_soonest_90 : decode cX11_soonest 90 = .ok (.iload 7, 2) := by decide +kernel
theorem dX11_soonest_92 : decode cX11_soonest 92 = .ok (.ireturn, 1) := by decide +kernel
theorem dX11_soonest_93 : decode cX11_soonest 93 = .ok (.aload_n 0, 1) := by decide +kernel
theorem dX11_soonest_94 : decode cX11_soonest 94 = .ok (.getfield 43, 3) := by decide +kernel
theorem dX11_soonest_97 : decode cX11_soonest 97 = .ok (.lload 5, 2) := by decide +kernel
theorem dX11_soonest_99 : decode cX11_soonest 99 = .ok (.iload 7, 2) := by decide +kernel
theorem dX11_soonest_101 : decode cX11_soonest 101 = .ok (.invokevirtual 256, 3) := by decide +kernel
theorem dX11_soonest_104 : decode cX11_soonest 104 = .ok (.ireturn, 1) := by decide +kernel
theorem dX11_never_0 : decode cX11_never 0 = .ok (.aload_n 0, 1) := by decide +kernel
theorem dX11_never_1 : decode cX11_never 1 = .ok (.iload_n 1, 1) := by decide +kernel
theorem dX11_never_2 : decode cX11_never 2 = .ok (.invokevirtual 99, 3) := by decide +kernel
theorem dX11_never_5 : decode cX11_never 5 = .ok (.ifCond .eq 10, 3) := by decide +kernel
theorem dX11_never_8 : decode cX11_never 8 = .ok (.iload_n 2, 1) := by decide +kernel
theorem dX11_never_9 : decode cX11_never 9 = .ok (.invokestatic 76, 3) := by decide +kernel
theorem dX11_never_12 : decode cX11_never 12 = .ok (.ifCond .ne 5, 3) := by decide +kernel
theorem dX11_never_15 : decode cX11_never 15 = .ok (.iconst (-1), 1) := by decide +kernel
theorem dX11_never_16 : decode cX11_never 16 = .ok (.ireturn, 1) := by decide +kernel
theorem dX11_never_17 : decode cX11_never 17 = .ok (.aload_n 0, 1) := by decide +kernel
theorem dX11_never_18 : decode cX11_never 18 = .ok (.getfield 43, 3) := by decide +kernel
theorem dX11_never_21 : decode cX11_never 21 = .ok (.aload_n 0, 1) := by decide +kernel
theorem dX11_never_22 : decode cX11_never 22 = .ok (.getfield 12, 3) := by decide +kernel
theorem dX11_never_25 : decode cX11_never 25 = .ok (.aload_n 0, 1) := by decide +kernel
theorem dX11_never_26 : decode cX11_never 26 = .ok (.getfield 12, 3) := by decide +kernel
theorem dX11_never_29 : decode cX11_never 29 = .ok (.getfield 79, 3) := by decide +kernel
theorem dX11_never_32 : decode cX11_never 32 = .ok (.getfield 102, 3) := by decide +kernel
theorem dX11_never_35 : decode cX11_never 35 = .ok (.iload_n 1, 1) := by decide +kernel
theorem dX11_never_36 : decode cX11_never 36 = .ok (.aaload, 1) := by decide +kernel
theorem dX11_never_37 : decode cX11_never 37 = .ok (.invokevirtual 245, 3) := by decide +kernel
theorem dX11_never_40 : decode cX11_never 40 = .ok (.aload_n 0, 1) := by decide +kernel
theorem dX11_never_41 : decode cX11_never 41 = .ok (.getfield 43, 3) := by decide +kernel
theorem dX11_never_44 : decode cX11_never 44 = .ok (.invokevirtual 259, 3) := by decide +kernel
theorem dX11_never_47 : decode cX11_never 47 = .ok (.lstore_n 3, 1) := by decide +kernel
theorem dX11_never_48 : decode cX11_never 48 = .ok (.iconst 0, 1) := by decide +kernel
theorem dX11_never_49 : decode cX11_never 49 = .ok (.istore 5, 2) := by decide +kernel
theorem dX11_never_51 : decode cX11_never 51 = .ok (.iconst 0, 1) := by decide +kernel
theorem dX11_never_52 : decode cX11_never 52 = .ok (.istore 6, 2) := by decide +kernel
theorem dX11_never_54 : decode cX11_never 54 = .ok (.iload 6, 2) := by decide +kernel
theorem dX11_never_56 : decode cX11_never 56 = .ok (.aload_n 0, 1) := by decide +kernel
theorem dX11_never_57 : decode cX11_never 57 = .ok (.getfield 12, 3) := by decide +kernel
theorem dX11_never_60 : decode cX11_never 60 = .ok (.getfield 141, 3) := by decide +kernel
theorem dX11_never_63 : decode cX11_never 63 = .ok (.getfield 196, 3) := by decide +kernel
theorem dX11_never_66 : decode cX11_never 66 = .ok (.if_icmp .ge 31, 3) := by decide +kernel
theorem dX11_never_69 : decode cX11_never 69 = .ok (.lload_n 3, 1) := by decide +kernel
theorem dX11_never_70 : decode cX11_never 70 = .ok (.iload 6, 2) := by decide +kernel
theorem dX11_never_72 : decode cX11_never 72 = .ok (.iload_n 2, 1) := by decide +kernel
theorem dX11_never_73 : decode cX11_never 73 = .ok (.invokestatic 248, 3) := by decide +kernel
theorem dX11_never_76 : decode cX11_never 76 = .ok (.land, 1) := by decide +kernel
theorem dX11_never_77 : decode cX11_never 77 = .ok (.lconst 0, 1) := by decide +kernel
theorem dX11_never_78 : decode cX11_never 78 = .ok (.lcmp, 1) := by decide +kernel
theorem dX11_never_79 : decode cX11_never 79 = .ok (.ifCond .ne 12, 3) := by decide +kernel
theorem dX11_never_82 : decode cX11_never 82 = .ok (.iload 5, 2) := by decide +kernel
theorem dX11_never_84 : decode cX11_never 84 = .ok (.iconst 1, 1) := by decide +kernel
theorem dX11_never_85 : decode cX11_never 85 = .ok (.iload 6, 2) := by decide +kernel
theorem dX11_never_87 : decode cX11_never 87 = .ok (.ishl, 1) := by decide +kernel
theorem dX11_never_88 : decode cX11_never 88 = .ok (.ior, 1) := by decide +kernel
theorem dX11_never_89 : decode cX11_never 89 = .ok (.istore 5, 2) := by decide +kernel
theorem dX11_never_91 : decode cX11_never 91 = .ok (.iinc 6 1, 3) := by decide +kernel
theorem dX11_never_94 : decode cX11_never 94 = .ok (.goto (-40), 3) := by decide +kernel
theorem dX11_never_97 : decode cX11_never 97 = .ok (.iload 5, 2) := by decide +kernel
theorem dX11_never_99 : decode cX11_never 99 = .ok (.ireturn, 1) := by decide +kernel
theorem dX11_meet_0 : decode cX11_meet 0 = .ok (.aload_n 0, 1) := by decide +kernel
theorem dX11_meet_1 : decode cX11_meet 1 = .ok (.iload_n 1, 1) := by decide +kernel
theorem dX11_meet_2 : decode cX11_meet 2 = .ok (.invokevirtual 99, 3) := by decide +kernel
theorem dX11_meet_5 : decode cX11_meet 5 = .ok (.ifCond .eq 25, 3) := by decide +kernel
theorem dX11_meet_8 : decode cX11_meet 8 = .ok (.aload_n 0, 1) := by decide +kernel
theorem dX11_meet_9 : decode cX11_meet 9 = .ok (.iload_n 2, 1) := by decide +kernel
theorem dX11_meet_10 : decode cX11_meet 10 = .ok (.invokevirtual 99, 3) := by decide +kernel
theorem dX11_meet_13 : decode cX11_meet 13 = .ok (.ifCond .eq 17, 3) := by decide +kernel
theorem dX11_meet_16 : decode cX11_meet 16 = .ok (.iload_n 1, 1) := by decide +kernel
theorem dX11_meet_17 : decode cX11_meet 17 = .ok (.iload_n 2, 1) := by decide +kernel
theorem dX11_meet_18 : decode cX11_meet 18 = .ok (.if_icmp .eq 12, 3) := by decide +kernel
theorem dX11_meet_21 : decode cX11_meet 21 = .ok (.iload_n 3, 1) := by decide +kernel
theorem dX11_meet_22 : decode cX11_meet 22 = .ok (.iconst 0, 1) := by decide +kernel
theorem dX11_meet_23 : decode cX11_meet 23 = .ok (.iconst 2, 1) := by decide +kernel
theorem dX11_meet_24 : decode cX11_meet 24 = .ok (.invokestatic 68, 3) := by decide +kernel
theorem dX11_meet_27 : decode cX11_meet 27 = .ok (.ifCond .ne 5, 3) := by decide +kernel
theorem dX11_meet_30 : decode cX11_meet 30 = .ok (.iconst (-1), 1) := by decide +kernel
theorem dX11_meet_31 : decode cX11_meet 31 = .ok (.ireturn, 1) := by decide +kernel
theorem dX11_meet_32 : decode cX11_meet 32 = .ok (.aload_n 0, 1) := by decide +kernel
theorem dX11_meet_33 : decode cX11_meet 33 = .ok (.getfield 43, 3) := by decide +kernel
theorem dX11_meet_36 : decode cX11_meet 36 = .ok (.aload_n 0, 1) := by decide +kernel
theorem dX11_meet_37 : decode cX11_meet 37 = .ok (.getfield 12, 3) := by decide +kernel
theorem dX11_meet_40 : decode cX11_meet 40 = .ok (.aload_n 0, 1) := by decide +kernel
theorem dX11_meet_41 : decode cX11_meet 41 = .ok (.getfield 12, 3) := by decide +kernel
theorem dX11_meet_44 : decode cX11_meet 44 = .ok (.getfield 79, 3) := by decide +kernel
theorem dX11_meet_47 : decode cX11_meet 47 = .ok (.getfield 102, 3) := by decide +kernel
theorem dX11_meet_50 : decode cX11_meet 50 = .ok (.iload_n 1, 1) := by decide +kernel
theorem dX11_meet_51 : decode cX11_meet 51 = .ok (.aaload, 1) := by decide +kernel
theorem dX11_meet_52 : decode cX11_meet 52 = .ok (.invokevirtual 245, 3) := by decide +kernel
theorem dX11_meet_55 : decode cX11_meet 55 = .ok (.aload_n 0, 1) := by decide +kernel
theorem dX11_meet_56 : decode cX11_meet 56 = .ok (.getfield 47, 3) := by decide +kernel
theorem dX11_meet_59 : decode cX11_meet 59 = .ok (.aload_n 0, 1) := by decide +kernel
theorem dX11_meet_60 : decode cX11_meet 60 = .ok (.getfield 12, 3) := by decide +kernel
theorem dX11_meet_63 : decode cX11_meet 63 = .ok (.aload_n 0, 1) := by decide +kernel
theorem dX11_meet_64 : decode cX11_meet 64 = .ok (.getfield 12, 3) := by decide +kernel
theorem dX11_meet_67 : decode cX11_meet 67 = .ok (.getfield 79, 3) := by decide +kernel
theorem dX11_meet_70 : decode cX11_meet 70 = .ok (.getfield 102, 3) := by decide +kernel
theorem dX11_meet_73 : decode cX11_meet 73 = .ok (.iload_n 2, 1) := by decide +kernel
theorem dX11_meet_74 : decode cX11_meet 74 = .ok (.aaload, 1) := by decide +kernel
theorem dX11_meet_75 : decode cX11_meet 75 = .ok (.invokevirtual 245, 3) := by decide +kernel
theorem dX11_meet_78 : decode cX11_meet 78 = .ok (.iconst 0, 1) := by decide +kernel
theorem dX11_meet_79 : decode cX11_meet 79 = .ok (.istore 4, 2) := by decide +kernel
theorem dX11_meet_81 : decode cX11_meet 81 = .ok (.iload 4, 2) := by decide +kernel
theorem dX11_meet_83 : decode cX11_meet 83 = .ok (.bipush 60, 2) := by decide +kernel
theorem dX11_meet_85 : decode cX11_meet 85 = .ok (.if_icmp .gt 94, 3) := by decide +kernel
theorem dX11_meet_88 : decode cX11_meet 88 = .ok (.aload_n 0, 1) := by decide +kernel
theorem dX11_meet_89 : decode cX11_meet 89 = .ok (.getfield 43, 3) := by decide +kernel
theorem dX11_meet_92 : decode cX11_meet 92 = .ok (.bipush 15, 2) := by decide +kernel
theorem dX11_meet_94 : decode cX11_meet 94 = .ok (.invokevirtual 263, 3) := by decide +kernel
theorem dX11_meet_97 : decode cX11_meet 97 = .ok (.lstore 5, 2) := by decide +kernel
theorem dX11_meet_99 : decode cX11_meet 99 = .ok (.aload_n 0, 1) := by decide +kernel
theorem dX11_meet_100 : decode cX11_meet 100 = .ok (.getfield 47, 3) := by decide +kernel
theorem dX11_meet_103 : decode cX11_meet 103 = .ok (.bipush 15, 2) := by decide +kernel
theorem dX11_meet_105 : decode cX11_meet 105 = .ok (.invokevirtual 263, 3) := by decide +kernel
theorem dX11_meet_108 : decode cX11_meet 108 = .ok (.lstore 7, 2) := by decide +kernel
theorem dX11_meet_110 : decode cX11_meet 110 = .ok (.lload 5, 2) := by decide +kernel
theorem dX11_meet_112 : decode cX11_meet 112 = .ok (.lload 7, 2) := by decide +kernel
theorem dX11_meet_114 : decode cX11_meet 114 = .ok (.land, 1) := by decide +kernel
theorem dX11_meet_115 : decode cX11_meet 115 = .ok (.invokestatic 267, 3) := by decide +kernel
theorem dX11_meet_118 : decode cX11_meet 118 = .ok (.istore 9, 2) := by decide +kernel
theorem dX11_meet_120 : decode cX11_meet 120 = .ok (.iload 9, 2) := by decide +kernel
theorem dX11_meet_122 : decode cX11_meet 122 = .ok (.bipush (-4), 2) := by decide +kernel
theorem dX11_meet_124 : decode cX11_meet 124 = .ok (.if_icmp .eq 31, 3) := by decide +kernel
theorem dX11_meet_127 : decode cX11_meet 127 = .ok (.iload_n 3, 1) := by decide +kernel
theorem dX11_meet_128 : decode cX11_meet 128 = .ok (.ifCond .ne 8, 3) := by decide +kernel
theorem dX11_meet_131 : decode cX11_meet 131 = .ok (.iload 4, 2) := by decide +kernel
theorem dX11_meet_133 : decode cX11_meet 133 = .ok (.goto 21, 3) := by decide +kernel
theorem dX11_meet_136 : decode cX11_meet 136 = .ok (.iload_n 3, 1) := by decide +kernel
theorem dX11_meet_137 : decode cX11_meet 137 = .ok (.iconst 1, 1) := by decide +kernel
theorem dX11_meet_138 : decode cX11_meet 138 = .ok (.if_icmp .ne 11, 3) := by decide +kernel
theorem dX11_meet_141 : decode cX11_meet 141 = .ok (.iload 9, 2) := by decide +kernel
theorem dX11_meet_143 : decode cX11_meet 143 = .ok (.bipush 7, 2) := by decide +kernel
theorem dX11_meet_145 : decode cX11_meet 145 = .ok (.idiv, 1) := by decide +kernel
theorem dX11_meet_146 : decode cX11_meet 146 = .ok (.goto 8, 3) := by decide +kernel
theorem dX11_meet_149 : decode cX11_meet 149 = .ok (.iload 9, 2) := by decide +kernel
theorem dX11_meet_151 : decode cX11_meet 151 = .ok (.bipush 7, 2) := by decide +kernel
theorem dX11_meet_153 : decode cX11_meet 153 = .ok (.irem, 1) := by decide +kernel
theorem dX11_meet_154 : decode cX11_meet 154 = .ok (.ireturn, 1) := by decide +kernel
theorem dX11_meet_155 : decode cX11_meet 155 = .ok (.aload_n 0, 1) := by decide +kernel
theorem dX11_meet_156 : decode cX11_meet 156 = .ok (.getfield 43, 3) := by decide +kernel
theorem dX11_meet_159 : decode cX11_meet 159 = .ok (.lload 5, 2) := by decide +kernel
theorem dX11_meet_161 : decode cX11_meet 161 = .ok (.invokevirtual 271, 3) := by decide +kernel
theorem dX11_meet_164 : decode cX11_meet 164 = .ok (.aload_n 0, 1) := by decide +kernel
theorem dX11_meet_165 : decode cX11_meet 165 = .ok (.getfield 47, 3) := by decide +kernel
theorem dX11_meet_168 : decode cX11_meet 168 = .ok (.lload 7, 2) := by decide +kernel
theorem dX11_meet_170 : decode cX11_meet 170 = .ok (.invokevirtual 271, 3) := by decide +kernel
theorem dX11_meet_173 : decode cX11_meet 173 = .ok (.iinc 4 1, 3) := by decide +kernel
theorem dX11_meet_176 : decode cX11_meet 176 = .ok (.goto (-95), 3) := by decide +kernel
theorem dX11_meet_179 : decode cX11_meet 179 = .ok (.bipush (-4), 2) := by decide +kernel
theorem dX11_meet_181 : decode cX11_meet 181 = .ok (.ireturn, 1) := by decide +kernel
theorem dX11_heaviest_0 : decode cX11_heaviest 0 = .ok (.iload_n 1, 1) := by decide +kernel
theorem dX11_heaviest_1 : decode cX11_heaviest 1 = .ok (.iconst 0, 1) := by decide +kernel
theorem dX11_heaviest_2 : decode cX11_heaviest 2 = .ok (.iconst 1, 1) := by decide +kernel
theorem dX11_heaviest_3 : decode cX11_heaviest 3 = .ok (.invokestatic 68, 3) := by decide +kernel
theorem dX11_heaviest_6 : decode cX11_heaviest 6 = .ok (.ifCond .ne 5, 3) := by decide +kernel
theorem dX11_heaviest_9 : decode cX11_heaviest 9 = .ok (.iconst (-1), 1) := by decide +kernel
theorem dX11_heaviest_10 : decode cX11_heaviest 10 = .ok (.ireturn, 1) := by decide +kernel
theorem dX11_heaviest_11 : decode cX11_heaviest 11 = .ok (.iconst 0, 1) := by decide +kernel
theorem dX11_heaviest_12 : decode cX11_heaviest 12 = .ok (.istore_n 2, 1) := by decide +kernel
theorem dX11_heaviest_13 : decode cX11_heaviest 13 = .ok (.aload_n 0, 1) := by decide +kernel
theorem dX11_heaviest_14 : decode cX11_heaviest 14 = .ok (.getfield 12, 3) := by decide +kernel
theorem dX11_heaviest_17 : decode cX11_heaviest 17 = .ok (.getfield 79, 3) := by decide +kernel
theorem dX11_heaviest_20 : decode cX11_heaviest 20 = .ok (.iconst 0, 1) := by decide +kernel
theorem dX11_heaviest_21 : decode cX11_heaviest 21 = .ok (.invokevirtual 165, 3) := by decide +kernel
theorem dX11_heaviest_24 : decode cX11_heaviest 24 = .ok (.istore_n 3, 1) := by decide +kernel
theorem dX11_heaviest_25 : decode cX11_heaviest 25 = .ok (.iconst 1, 1) := by decide +kernel
theorem dX11_heaviest_26 : decode cX11_heaviest 26 = .ok (.istore 4, 2) := by decide +kernel
theorem dX11_heaviest_28 : decode cX11_heaviest 28 = .ok (.iload 4, 2) := by decide +kernel
theorem dX11_heaviest_30 : decode cX11_heaviest 30 = .ok (.aload_n 0, 1) := by decide +kernel
theorem dX11_heaviest_31 : decode cX11_heaviest 31 = .ok (.getfield 12, 3) := by decide +kernel
theorem dX11_heaviest_34 : decode cX11_heaviest 34 = .ok (.getfield 141, 3) := by decide +kernel
theorem dX11_heaviest_37 : decode cX11_heaviest 37 = .ok (.invokevirtual 275, 3) := by decide +kernel
theorem dX11_heaviest_40 : decode cX11_heaviest 40 = .ok (.if_icmp .ge 35, 3) := by decide +kernel
theorem dX11_heaviest_43 : decode cX11_heaviest 43 = .ok (.aload_n 0, 1) := by decide +kernel
theorem dX11_heaviest_44 : decode cX11_heaviest 44 = .ok (.getfield 12, 3) := by decide +kernel
theorem dX11_heaviest_47 : decode cX11_heaviest 47 = .ok (.getfield 79, 3) := by decide +kernel
theorem dX11_heaviest_50 : decode cX11_heaviest 50 = .ok (.iload 4, 2) := by decide +kernel
theorem dX11_heaviest_52 : decode cX11_heaviest 52 = .ok (.invokevirtual 165, 3) := by decide +kernel
theorem dX11_heaviest_55 : decode cX11_heaviest 55 = .ok (.istore 5, 2) := by decide +kernel
theorem dX11_heaviest_57 : decode cX11_heaviest 57 = .ok (.iload 5, 2) := by decide +kernel
theorem dX11_heaviest_59 : decode cX11_heaviest 59 = .ok (.iload_n 3, 1) := by decide +kernel
theorem dX11_heaviest_60 : decode cX11_heaviest 60 = .ok (.if_icmp .le 9, 3) := by decide +kernel
theorem dX11_heaviest_63 : decode cX11_heaviest 63 = .ok (.iload 4, 2) := by decide +kernel
theorem dX11_heaviest_65 : decode cX11_heaviest 65 = .ok (.istore_n 2, 1) := by decide +kernel
theorem dX11_heaviest_66 : decode cX11_heaviest 66 = .ok (.iload 5, 2) := by decide +kernel
theorem dX11_heaviest_68 : decode cX11_heaviest 68 = .ok (.istore_n 3, 1) := by decide +kernel
theorem dX11_heaviest_69 : decode cX11_heaviest 69 = .ok (.iinc 4 1, 3) := by decide +kernel
theorem dX11_heaviest_72 : decode cX11_heaviest 72 = .ok (.goto (-44), 3) := by decide +kernel
theorem dX11_heaviest_75 : decode cX11_heaviest 75 = .ok (.iload_n 1, 1) := by decide +kernel
theorem dX11_heaviest_76 : decode cX11_heaviest 76 = .ok (.ifCond .ne 7, 3) := by decide +kernel
theorem dX11_heaviest_79 : decode cX11_heaviest 79 = .ok (.iload_n 2, 1) := by decide +kernel
theorem dX11_heaviest_80 : decode cX11_heaviest 80 = .ok (.goto 4, 3) := by decide +kernel
theorem dX11_heaviest_83 : decode cX11_heaviest 83 = .ok (.iload_n 3, 1) := by decide +kernel
theorem dX11_heaviest_84 : decode cX11_heaviest 84 = .ok (.ireturn, 1) := by decide +kernel
theorem dX11_changed_0 : decode cX11_changed 0 = .ok (.aload_n 0, 1) := by decide +kernel
theorem dX11_changed_1 : decode cX11_changed 1 = .ok (.iload_n 1, 1) := by decide +kernel
theorem dX11_changed_2 : decode cX11_changed 2 = .ok (.invokevirtual 99, 3) := by decide +kernel
theorem dX11_changed_5 : decode cX11_changed 5 = .ok (.ifCond .eq 28, 3) := by decide +kernel
theorem dX11_changed_8 : decode cX11_changed 8 = .ok (.aload_n 0, 1) := by decide +kernel
theorem dX11_changed_9 : decode cX11_changed 9 = .ok (.iload_n 2, 1) := by decide +kernel
theorem dX11_changed_10 : decode cX11_changed 10 = .ok (.invokevirtual 72, 3) := by decide +kernel
theorem dX11_changed_13 : decode cX11_changed 13 = .ok (.ifCond .eq 20, 3) := by decide +kernel
theorem dX11_changed_16 : decode cX11_changed 16 = .ok (.iload_n 3, 1) := by decide +kernel
theorem dX11_changed_17 : decode cX11_changed 17 = .ok (.invokestatic 76, 3) := by decide +kernel
theorem dX11_changed_20 : decode cX11_changed 20 = .ok (.ifCond .eq 13, 3) := by decide +kernel
theorem dX11_changed_23 : decode cX11_changed 23 = .ok (.iload 4, 2) := by decide +kernel
theorem dX11_changed_25 : decode cX11_changed 25 = .ok (.iconst 0, 1) := by decide +kernel
theorem dX11_changed_26 : decode cX11_changed 26 = .ok (.iconst 1, 1) := by decide +kernel
theorem dX11_changed_27 : decode cX11_changed 27 = .ok (.invokestatic 68, 3) := by decide +kernel
theorem dX11_changed_30 : decode cX11_changed 30 = .ok (.ifCond .ne 5, 3) := by decide +kernel
theorem dX11_changed_33 : decode cX11_changed 33 = .ok (.iconst (-1), 1) := by decide +kernel
theorem dX11_changed_34 : decode cX11_changed 34 = .ok (.ireturn, 1) := by decide +kernel
theorem dX11_changed_35 : decode cX11_changed 35 = .ok (.aload_n 0, 1) := by decide +kernel
theorem dX11_changed_36 : decode cX11_changed 36 = .ok (.getfield 43, 3) := by decide +kernel
theorem dX11_changed_39 : decode cX11_changed 39 = .ok (.aload_n 0, 1) := by decide +kernel
theorem dX11_changed_40 : decode cX11_changed 40 = .ok (.getfield 12, 3) := by decide +kernel
theorem dX11_changed_43 : decode cX11_changed 43 = .ok (.aload_n 0, 1) := by decide +kernel
theorem dX11_changed_44 : decode cX11_changed 44 = .ok (.getfield 12, 3) := by decide +kernel
theorem dX11_changed_47 : decode cX11_changed 47 = .ok (.getfield 79, 3) := by decide +kernel
theorem dX11_changed_50 : decode cX11_changed 50 = .ok (.getfield 102, 3) := by decide +kernel
theorem dX11_changed_53 : decode cX11_changed 53 = .ok (.iload_n 1, 1) := by decide +kernel
theorem dX11_changed_54 : decode cX11_changed 54 = .ok (.aaload, 1) := by decide +kernel
theorem dX11_changed_55 : decode cX11_changed 55 = .ok (.invokevirtual 245, 3) := by decide +kernel
theorem dX11_changed_58 : decode cX11_changed 58 = .ok (.aload_n 0, 1) := by decide +kernel
theorem dX11_changed_59 : decode cX11_changed 59 = .ok (.getfield 43, 3) := by decide +kernel
theorem dX11_changed_62 : decode cX11_changed 62 = .ok (.iload_n 2, 1) := by decide +kernel
theorem dX11_changed_63 : decode cX11_changed 63 = .ok (.iload_n 3, 1) := by decide +kernel
theorem dX11_changed_64 : decode cX11_changed 64 = .ok (.invokestatic 248, 3) := by decide +kernel
theorem dX11_changed_67 : decode cX11_changed 67 = .ok (.iload_n 3, 1) := by decide +kernel
theorem dX11_changed_68 : decode cX11_changed 68 = .ok (.iload 4, 2) := by decide +kernel
theorem dX11_changed_70 : decode cX11_changed 70 = .ok (.iconst 1, 1) := by decide +kernel
theorem dX11_changed_71 : decode cX11_changed 71 = .ok (.if_icmp .ne 7, 3) := by decide +kernel
theorem dX11_changed_74 : decode cX11_changed 74 = .ok (.iconst 1, 1) := by decide +kernel
theorem dX11_changed_75 : decode cX11_changed 75 = .ok (.goto 4, 3) := by decide +kernel
theorem dX11_changed_78 : decode cX11_changed 78 = .ok (.iconst 0, 1) := by decide +kernel
theorem dX11_changed_79 : decode cX11_changed 79 = .ok (.invokevirtual 278, 3) := by decide +kernel
theorem dX11_changed_82 : decode cX11_changed 82 = .ok (.ireturn, 1) := by decide +kernel
theorem dX11_goes_0 : decode cX11_goes 0 = .ok (.iload_n 1, 1) := by decide +kernel
theorem dX11_goes_1 : decode cX11_goes 1 = .ok (.iconst 0, 1) := by decide +kernel
theorem dX11_goes_2 : decode cX11_goes 2 = .ok (.bipush 30, 2) := by decide +kernel
theorem dX11_goes_4 : decode cX11_goes 4 = .ok (.invokestatic 68, 3) := by decide +kernel
theorem dX11_goes_7 : decode cX11_goes 7 = .ok (.ifCond .eq 13, 3) := by decide +kernel
theorem dX11_goes_10 : decode cX11_goes 10 = .ok (.iload_n 2, 1) := by decide +kernel
theorem dX11_goes_11 : decode cX11_goes 11 = .ok (.iconst 0, 1) := by decide +kernel
theorem dX11_goes_12 : decode cX11_goes 12 = .ok (.bipush 100, 2) := by decide +kernel
theorem dX11_goes_14 : decode cX11_goes 14 = .ok (.invokestatic 68, 3) := by decide +kernel
theorem dX11_goes_17 : decode cX11_goes 17 = .ok (.ifCond .ne 5, 3) := by decide +kernel
theorem dX11_goes_20 : decode cX11_goes 20 = .ok (.iconst (-1), 1) := by decide +kernel
theorem dX11_goes_21 : decode cX11_goes 21 = .ok (.ireturn, 1) := by decide +kernel
theorem dX11_goes_22 : decode cX11_goes 22 = .ok (.ldc_w 282, 3) := by decide +kernel
theorem dX11_goes_25 : decode cX11_goes 25 = .ok (.istore_n 3, 1) := by decide +kernel
theorem dX11_goes_26 : decode cX11_goes 26 = .ok (.iconst 0, 1) := by decide +kernel
theorem dX11_goes_27 : decode cX11_goes 27 = .ok (.istore 4, 2) := by decide +kernel
theorem dX11_goes_29 : decode cX11_goes 29 = .ok (.iload 4, 2) := by decide +kernel
theorem dX11_goes_31 : decode cX11_goes 31 = .ok (.iload_n 1, 1) := by decide +kernel
theorem dX11_goes_32 : decode cX11_goes 32 = .ok (.if_icmp .ge 19, 3) := by decide +kernel
theorem dX11_goes_35 : decode cX11_goes 35 = .ok (.iload_n 3, 1) := by decide +kernel
theorem dX11_goes_36 : decode cX11_goes 36 = .ok (.bipush 100, 2) := by decide +kernel
theorem dX11_goes_38 : decode cX11_goes 38 = .ok (.iload_n 2, 1) := by decide +kernel
theorem dX11_goes_39 : decode cX11_goes 39 = .ok (.isub, 1) := by decide +kernel
theorem dX11_goes_40 : decode cX11_goes 40 = .ok (.imul, 1) := by decide +kernel
theorem dX11_goes_41 : decode cX11_goes 41 = .ok (.bipush 100, 2) := by decide +kernel
theorem dX11_goes_43 : decode cX11_goes 43 = .ok (.idiv, 1) := by decide +kernel
theorem dX11_goes_44 : decode cX11_goes 44 = .ok (.istore_n 3, 1) := by decide +kernel
theorem dX11_goes_45 : decode cX11_goes 45 = .ok (.iinc 4 1, 3) := by decide +kernel
theorem dX11_goes_48 : decode cX11_goes 48 = .ok (.goto (-19), 3) := by decide +kernel
theorem dX11_goes_51 : decode cX11_goes 51 = .ok (.iload_n 3, 1) := by decide +kernel
theorem dX11_goes_52 : decode cX11_goes 52 = .ok (.ireturn, 1) := by decide +kernel
theorem dX11_image_0 : decode cX11_image 0 = .ok (.aload_n 0, 1) := by decide +kernel
theorem dX11_image_1 : decode cX11_image 1 = .ok (.getfield 16, 3) := by decide +kernel
theorem dX11_image_4 : decode cX11_image 4 = .ok (.aload_n 0, 1) := by decide +kernel
theorem dX11_image_5 : decode cX11_image 5 = .ok (.getfield 12, 3) := by decide +kernel
theorem dX11_image_8 : decode cX11_image 8 = .ok (.invokevirtual 283, 3) := by decide +kernel
theorem dX11_image_11 : decode cX11_image 11 = .ok (.aload_n 0, 1) := by decide +kernel
theorem dX11_image_12 : decode cX11_image 12 = .ok (.iconst 1, 1) := by decide +kernel
theorem dX11_image_13 : decode cX11_image 13 = .ok (.putfield 287, 3) := by decide +kernel
theorem dX11_image_16 : decode cX11_image 16 = .ok (.iconst 1, 1) := by decide +kernel
theorem dX11_image_17 : decode cX11_image 17 = .ok (.ireturn, 1) := by decide +kernel
theorem dX11_restore_0 : decode cX11_restore 0 = .ok (.aload_n 0, 1) := by decide +kernel
theorem dX11_restore_1 : decode cX11_restore 1 = .ok (.getfield 287, 3) := by decide +kernel
theorem dX11_restore_4 : decode cX11_restore 4 = .ok (.ifCond .ne 6, 3) := by decide +kernel
theorem dX11_restore_7 : decode cX11_restore 7 = .ok (.bipush (-4), 2) := by decide +kernel
theorem dX11_restore_9 : decode cX11_restore 9 = .ok (.ireturn, 1) := by decide +kernel
theorem dX11_restore_10 : decode cX11_restore 10 = .ok (.aload_n 0, 1) := by decide +kernel
theorem dX11_restore_11 : decode cX11_restore 11 = .ok (.getfield 12, 3) := by decide +kernel
theorem dX11_restore_14 : decode cX11_restore 14 = .ok (.aload_n 0, 1) := by decide +kernel
theorem dX11_restore_15 : decode cX11_restore 15 = .ok (.getfield 16, 3) := by decide +kernel
theorem dX11_restore_18 : decode cX11_restore 18 = .ok (.invokevirtual 283, 3) := by decide +kernel
theorem dX11_restore_21 : decode cX11_restore 21 = .ok (.iconst 1, 1) := by decide +kernel
theorem dX11_restore_22 : decode cX11_restore 22 = .ok (.ireturn, 1) := by decide +kernel
theorem dX11_weighed_0 : decode cX11_weighed 0 = .ok (.iload_n 1, 1) := by decide +kernel
theorem dX11_weighed_1 : decode cX11_weighed 1 = .ok (.invokestatic 290, 3) := by decide +kernel
theorem dX11_weighed_4 : decode cX11_weighed 4 = .ok (.ifCond .eq 30, 3) := by decide +kernel
theorem dX11_weighed_7 : decode cX11_weighed 7 = .ok (.iload_n 2, 1) := by decide +kernel
theorem dX11_weighed_8 : decode cX11_weighed 8 = .ok (.invokestatic 293, 3) := by decide +kernel
theorem dX11_weighed_11 : decode cX11_weighed 11 = .ok (.ifCond .eq 23, 3) := by decide +kernel
theorem dX11_weighed_14 : decode cX11_weighed 14 = .ok (.iload 4, 2) := by decide +kernel
theorem dX11_weighed_16 : decode cX11_weighed 16 = .ok (.iconst 1, 1) := by decide +kernel
theorem dX11_weighed_17 : decode cX11_weighed 17 = .ok (.iconst 4, 1) := by decide +kernel
theorem dX11_weighed_18 : decode cX11_weighed 18 = .ok (.invokestatic 68, 3) := by decide +kernel
theorem dX11_weighed_21 : decode cX11_weighed 21 = .ok (.ifCond .eq 13, 3) := by decide +kernel
theorem dX11_weighed_24 : decode cX11_weighed 24 = .ok (.iload 5, 2) := by decide +kernel
theorem dX11_weighed_26 : decode cX11_weighed 26 = .ok (.iconst 0, 1) := by decide +kernel
theorem dX11_weighed_27 : decode cX11_weighed 27 = .ok (.iconst 1, 1) := by decide +kernel
theorem dX11_weighed_28 : decode cX11_weighed 28 = .ok (.invokestatic 68, 3) := by decide +kernel
theorem dX11_weighed_31 : decode cX11_weighed 31 = .ok (.ifCond .ne 5, 3) := by decide +kernel
theorem dX11_weighed_34 : decode cX11_weighed 34 = .ok (.iconst (-1), 1) := by decide +kernel
theorem dX11_weighed_35 : decode cX11_weighed 35 = .ok (.ireturn, 1) := by decide +kernel
theorem dX11_weighed_36 : decode cX11_weighed 36 = .ok (.aload_n 0, 1) := by decide +kernel
theorem dX11_weighed_37 : decode cX11_weighed 37 = .ok (.getfield 59, 3) := by decide +kernel
theorem dX11_weighed_40 : decode cX11_weighed 40 = .ok (.iload_n 1, 1) := by decide +kernel
theorem dX11_weighed_41 : decode cX11_weighed 41 = .ok (.aaload, 1) := by decide +kernel
theorem dX11_weighed_42 : decode cX11_weighed 42 = .ok (.astore 6, 2) := by decide +kernel
theorem dX11_weighed_44 : decode cX11_weighed 44 = .ok (.aload 6, 2) := by decide +kernel
theorem dX11_weighed_46 : decode cX11_weighed 46 = .ok (.iload_n 2, 1) := by decide +kernel
theorem dX11_weighed_47 : decode cX11_weighed 47 = .ok (.iload_n 3, 1) := by decide +kernel
theorem dX11_weighed_48 : decode cX11_weighed 48 = .ok (.iload 4, 2) := by decide +kernel
theorem dX11_weighed_50 : decode cX11_weighed 50 = .ok (.invokevirtual 296, 3) := by decide +kernel
theorem dX11_weighed_53 : decode cX11_weighed 53 = .ok (.istore 7, 2) := by decide +kernel
theorem dX11_weighed_55 : decode cX11_weighed 55 = .ok (.iload 7, 2) := by decide +kernel
theorem dX11_weighed_57 : decode cX11_weighed 57 = .ok (.ifCond .eq 6, 3) := by decide +kernel
theorem dX11_weighed_60 : decode cX11_weighed 60 = .ok (.iload 7, 2) := by decide +kernel
theorem dX11_weighed_62 : decode cX11_weighed 62 = .ok (.ireturn, 1) := by decide +kernel
theorem dX11_weighed_63 : decode cX11_weighed 63 = .ok (.iload_n 3, 1) := by decide +kernel
theorem dX11_weighed_64 : decode cX11_weighed 64 = .ok (.istore 8, 2) := by decide +kernel
theorem dX11_weighed_66 : decode cX11_weighed 66 = .ok (.iload 8, 2) := by decide +kernel
theorem dX11_weighed_68 : decode cX11_weighed 68 = .ok (.iload_n 3, 1) := by decide +kernel
theorem dX11_weighed_69 : decode cX11_weighed 69 = .ok (.iload 4, 2) := by decide +kernel
theorem dX11_weighed_71 : decode cX11_weighed 71 = .ok (.iadd, 1) := by decide +kernel
theorem dX11_weighed_72 : decode cX11_weighed 72 = .ok (.if_icmp .ge 40, 3) := by decide +kernel
theorem dX11_weighed_75 : decode cX11_weighed 75 = .ok (.aload 6, 2) := by decide +kernel
theorem dX11_weighed_77 : decode cX11_weighed 77 = .ok (.getfield 299, 3) := by decide +kernel
theorem dX11_weighed_80 : decode cX11_weighed 80 = .ok (.iload 8, 2) := by decide +kernel
theorem dX11_weighed_82 : decode cX11_weighed 82 = .ok (.laload, 1) := by decide +kernel
theorem dX11_weighed_83 : decode cX11_weighed 83 = .ok (.lconst 0, 1) := by decide +kernel
theorem dX11_weighed_84 : decode cX11_weighed 84 = .ok (.lcmp, 1) := by decide +kernel
theorem dX11_weighed_85 : decode cX11_weighed 85 = .ok (.ifCond .lt 18, 3) := by decide +kernel
theorem dX11_weighed_88 : decode cX11_weighed 88 = .ok (.aload 6, 2) := by decide +kernel
theorem dX11_weighed_90 : decode cX11_weighed 90 = .ok (.getfield 299, 3) := by decide +kernel
theorem dX11_weighed_93 : decode cX11_weighed 93 = .ok (.iload 8, 2) := by decide +kernel
theorem dX11_weighed_95 : decode cX11_weighed 95 = .ok (.laload, 1) := by decide +kernel
theorem dX11_weighed_96 : decode cX11_weighed 96 = .ok (.ldc2_w 303, 3) := by decide +kernel
theorem dX11_weighed_99 : decode cX11_weighed 99 = .ok (.lcmp, 1) := by decide +kernel
theorem dX11_weighed_100 : decode cX11_weighed 100 = .ok (.ifCond .le 6, 3) := by decide +kernel
theorem dX11_weighed_103 : decode cX11_weighed 103 = .ok (.bipush (-2), 2) := by decide +kernel
theorem dX11_weighed_105 : decode cX11_weighed 105 = .ok (.ireturn, 1) := by decide +kernel
theorem dX11_weighed_106 : decode cX11_weighed 106 = .ok (.iinc 8 1, 3) := by decide +kernel
theorem dX11_weighed_109 : decode cX11_weighed 109 = .ok (.goto (-43), 3) := by decide +kernel
theorem dX11_weighed_112 : decode cX11_weighed 112 = .ok (.aload_n 0, 1) := by decide +kernel
theorem dX11_weighed_113 : decode cX11_weighed 113 = .ok (.getfield 53, 3) := by decide +kernel
theorem dX11_weighed_116 : decode cX11_weighed 116 = .ok (.aload_n 0, 1) := by decide +kernel
theorem dX11_weighed_117 : decode cX11_weighed 117 = .ok (.getfield 12, 3) := by decide +kernel
theorem dX11_weighed_120 : decode cX11_weighed 120 = .ok (.getfield 79, 3) := by decide +kernel
theorem dX11_weighed_123 : decode cX11_weighed 123 = .ok (.invokevirtual 305, 3) := by decide +kernel
theorem dX11_weighed_126 : decode cX11_weighed 126 = .ok (.iload_n 3, 1) := by decide +kernel
theorem dX11_weighed_127 : decode cX11_weighed 127 = .ok (.istore 8, 2) := by decide +kernel
theorem dX11_weighed_129 : decode cX11_weighed 129 = .ok (.iload 8, 2) := by decide +kernel
theorem dX11_weighed_131 : decode cX11_weighed 131 = .ok (.iload_n 3, 1) := by decide +kernel
theorem dX11_weighed_132 : decode cX11_weighed 132 = .ok (.iload 4, 2) := by decide +kernel
theorem dX11_weighed_134 : decode cX11_weighed 134 = .ok (.iadd, 1) := by decide +kernel
theorem dX11_weighed_135 : decode cX11_weighed 135 = .ok (.if_icmp .ge 24, 3) := by decide +kernel
theorem dX11_weighed_138 : decode cX11_weighed 138 = .ok (.aload_n 0, 1) := by decide +kernel
theorem dX11_weighed_139 : decode cX11_weighed 139 = .ok (.getfield 53, 3) := by decide +kernel
theorem dX11_weighed_142 : decode cX11_weighed 142 = .ok (.aload 6, 2) := by decide +kernel
theorem dX11_weighed_144 : decode cX11_weighed 144 = .ok (.getfield 299, 3) := by decide +kernel
theorem dX11_weighed_147 : decode cX11_weighed 147 = .ok (.iload 8, 2) := by decide +kernel
theorem dX11_weighed_149 : decode cX11_weighed 149 = .ok (.laload, 1) := by decide +kernel
theorem dX11_weighed_150 : decode cX11_weighed 150 = .ok (.invokevirtual 307, 3) := by decide +kernel
theorem dX11_weighed_153 : decode cX11_weighed 153 = .ok (.iinc 8 1, 3) := by decide +kernel
theorem dX11_weighed_156 : decode cX11_weighed 156 = .ok (.goto (-27), 3) := by decide +kernel
theorem dX11_weighed_159 : decode cX11_weighed 159 = .ok (.iload 5, 2) := by decide +kernel
theorem dX11_weighed_161 : decode cX11_weighed 161 = .ok (.ifCond .ne 13, 3) := by decide +kernel
theorem dX11_weighed_164 : decode cX11_weighed 164 = .ok (.aload_n 0, 1) := by decide +kernel
theorem dX11_weighed_165 : decode cX11_weighed 165 = .ok (.getfield 53, 3) := by decide +kernel
theorem dX11_weighed_168 : decode cX11_weighed 168 = .ok (.invokevirtual 310, 3) := by decide +kernel
theorem dX11_weighed_171 : decode cX11_weighed 171 = .ok (.goto 10, 3) := by decide +kernel
theorem dX11_weighed_174 : decode cX11_weighed 174 = .ok (.aload_n 0, 1) := by decide +kernel
theorem dX11_weighed_175 : decode cX11_weighed 175 = .ok (.getfield 53, 3) := by decide +kernel
theorem dX11_weighed_178 : decode cX11_weighed 178 = .ok (.invokevirtual 313, 3) := by decide +kernel
theorem dX11_weighed_181 : decode cX11_weighed 181 = .ok (.ireturn, 1) := by decide +kernel
theorem dX11_film_0 : decode cX11_film 0 = .ok (.aload_n 0, 1) := by decide +kernel
theorem dX11_film_1 : decode cX11_film 1 = .ok (.iload_n 1, 1) := by decide +kernel
theorem dX11_film_2 : decode cX11_film 2 = .ok (.invokevirtual 72, 3) := by decide +kernel
theorem dX11_film_5 : decode cX11_film 5 = .ok (.ifCond .eq 36, 3) := by decide +kernel
theorem dX11_film_8 : decode cX11_film 8 = .ok (.iload_n 2, 1) := by decide +kernel
theorem dX11_film_9 : decode cX11_film 9 = .ok (.invokestatic 211, 3) := by decide +kernel
theorem dX11_film_12 : decode cX11_film 12 = .ok (.ifCond .eq 29, 3) := by decide +kernel
theorem dX11_film_15 : decode cX11_film 15 = .ok (.iload_n 3, 1) := by decide +kernel
theorem dX11_film_16 : decode cX11_film 16 = .ok (.iconst 1, 1) := by decide +kernel
theorem dX11_film_17 : decode cX11_film 17 = .ok (.bipush 24, 2) := by decide +kernel
theorem dX11_film_19 : decode cX11_film 19 = .ok (.invokestatic 68, 3) := by decide +kernel
theorem dX11_film_22 : decode cX11_film 22 = .ok (.ifCond .eq 19, 3) := by decide +kernel
theorem dX11_film_25 : decode cX11_film 25 = .ok (.iload 4, 2) := by decide +kernel
theorem dX11_film_27 : decode cX11_film 27 = .ok (.invokestatic 290, 3) := by decide +kernel
theorem dX11_film_30 : decode cX11_film 30 = .ok (.ifCond .eq 11, 3) := by decide +kernel
theorem dX11_film_33 : decode cX11_film 33 = .ok (.iload 5, 2) := by decide +kernel
theorem dX11_film_35 : decode cX11_film 35 = .ok (.invokestatic 293, 3) := by decide +kernel
theorem dX11_film_38 : decode cX11_film 38 = .ok (.ifCond .ne 5, 3) := by decide +kernel
theorem dX11_film_41 : decode cX11_film 41 = .ok (.iconst (-1), 1) := by decide +kernel
theorem dX11_film_42 : decode cX11_film 42 = .ok (.ireturn, 1) := by decide +kernel
theorem dX11_film_43 : decode cX11_film 43 = .ok (.aload_n 0, 1) := by decide +kernel
theorem dX11_film_44 : decode cX11_film 44 = .ok (.getfield 59, 3) := by decide +kernel
theorem dX11_film_47 : decode cX11_film 47 = .ok (.iload 4, 2) := by decide +kernel
theorem dX11_film_49 : decode cX11_film 49 = .ok (.aaload, 1) := by decide +kernel
theorem dX11_film_50 : decode cX11_film 50 = .ok (.astore 7, 2) := by decide +kernel
theorem dX11_film_52 : decode cX11_film 52 = .ok (.aload 7, 2) := by decide +kernel
theorem dX11_film_54 : decode cX11_film 54 = .ok (.iload 5, 2) := by decide +kernel
theorem dX11_film_56 : decode cX11_film 56 = .ok (.iload 6, 2) := by decide +kernel
theorem dX11_film_58 : decode cX11_film 58 = .ok (.iload_n 3, 1) := by decide +kernel
theorem dX11_film_59 : decode cX11_film 59 = .ok (.invokevirtual 296, 3) := by decide +kernel
theorem dX11_film_62 : decode cX11_film 62 = .ok (.istore 8, 2) := by decide +kernel
theorem dX11_film_64 : decode cX11_film 64 = .ok (.iload 8, 2) := by decide +kernel
theorem dX11_film_66 : decode cX11_film 66 = .ok (.ifCond .eq 6, 3) := by decide +kernel
theorem dX11_film_69 : decode cX11_film 69 = .ok (.iload 8, 2) := by decide +kernel
theorem dX11_film_71 : decode cX11_film 71 = .ok (.ireturn, 1) := by decide +kernel
theorem dX11_film_72 : decode cX11_film 72 = .ok (.aload_n 0, 1) := by decide +kernel
theorem dX11_film_73 : decode cX11_film 73 = .ok (.getfield 36, 3) := by decide +kernel
theorem dX11_film_76 : decode cX11_film 76 = .ok (.aload_n 0, 1) := by decide +kernel
theorem dX11_film_77 : decode cX11_film 77 = .ok (.getfield 12, 3) := by decide +kernel
theorem dX11_film_80 : decode cX11_film 80 = .ok (.getfield 79, 3) := by decide +kernel
theorem dX11_film_83 : decode cX11_film 83 = .ok (.invokevirtual 316, 3) := by decide +kernel
theorem dX11_film_86 : decode cX11_film 86 = .ok (.iconst 0, 1) := by decide +kernel
theorem dX11_film_87 : decode cX11_film 87 = .ok (.istore 9, 2) := by decide +kernel
theorem dX11_film_89 : decode cX11_film 89 = .ok (.iload 9, 2) := by decide +kernel
theorem dX11_film_91 : decode cX11_film 91 = .ok (.iload_n 3, 1) := by decide +kernel
theorem dX11_film_92 : decode cX11_film 92 = .ok (.if_icmp .ge 54, 3) := by decide +kernel
theorem dX11_film_95 : decode cX11_film 95 = .ok (.aload_n 0, 1) := by decide +kernel
theorem dX11_film_96 : decode cX11_film 96 = .ok (.getfield 36, 3) := by decide +kernel
theorem dX11_film_99 : decode cX11_film 99 = .ok (.aload_n 0, 1) := by decide +kernel
theorem dX11_film_100 : decode cX11_film 100 = .ok (.getfield 12, 3) := by decide +kernel
theorem dX11_film_103 : decode cX11_film 103 = .ok (.getfield 141, 3) := by decide +kernel
theorem dX11_film_106 : decode cX11_film 106 = .ok (.invokevirtual 318, 3) := by decide +kernel
theorem dX11_film_109 : decode cX11_film 109 = .ok (.aload 7, 2) := by decide +kernel
theorem dX11_film_111 : decode cX11_film 111 = .ok (.iload 6, 2) := by decide +kernel
theorem dX11_film_113 : decode cX11_film 113 = .ok (.iload 9, 2) := by decide +kernel
theorem dX11_film_115 : decode cX11_film 115 = .ok (.iadd, 1) := by decide +kernel
theorem dX11_film_116 : decode cX11_film 116 = .ok (.aload_n 0, 1) := by decide +kernel
theorem dX11_film_117 : decode cX11_film 117 = .ok (.getfield 36, 3) := by decide +kernel
theorem dX11_film_120 : decode cX11_film 120 = .ok (.aload_n 0, 1) := by decide +kernel
theorem dX11_film_121 : decode cX11_film 121 = .ok (.getfield 12, 3) := by decide +kernel
theorem dX11_film_124 : decode cX11_film 124 = .ok (.iload_n 1, 1) := by decide +kernel
theorem dX11_film_125 : decode cX11_film 125 = .ok (.iload_n 2, 1) := by decide +kernel
theorem dX11_film_126 : decode cX11_film 126 = .ok (.iload 9, 2) := by decide +kernel
theorem dX11_film_128 : decode cX11_film 128 = .ok (.iconst 1, 1) := by decide +kernel
theorem dX11_film_129 : decode cX11_film 129 = .ok (.iadd, 1) := by decide +kernel
theorem dX11_film_130 : decode cX11_film 130 = .ok (.invokevirtual 217, 3) := by decide +kernel
theorem dX11_film_133 : decode cX11_film 133 = .ok (.invokevirtual 165, 3) := by decide +kernel
theorem dX11_film_136 : decode cX11_film 136 = .ok (.i2l, 1) := by decide +kernel
theorem dX11_film_137 : decode cX11_film 137 = .ok (.invokevirtual 321, 3) := by decide +kernel
theorem dX11_film_140 : decode cX11_film 140 = .ok (.iinc 9 1, 3) := by decide +kernel
theorem dX11_film_143 : decode cX11_film 143 = .ok (.goto (-54), 3) := by decide +kernel
theorem dX11_film_146 : decode cX11_film 146 = .ok (.iload_n 3, 1) := by decide +kernel
theorem dX11_film_147 : decode cX11_film 147 = .ok (.ireturn, 1) := by decide +kernel
theorem dX11_sheet_0 : decode cX11_sheet 0 = .ok (.iload_n 1, 1) := by decide +kernel
theorem dX11_sheet_1 : decode cX11_sheet 1 = .ok (.invokestatic 290, 3) := by decide +kernel
theorem dX11_sheet_4 : decode cX11_sheet 4 = .ok (.ifCond .eq 16, 3) := by decide +kernel
theorem dX11_sheet_7 : decode cX11_sheet 7 = .ok (.iload_n 2, 1) := by decide +kernel
theorem dX11_sheet_8 : decode cX11_sheet 8 = .ok (.invokestatic 293, 3) := by decide +kernel
theorem dX11_sheet_11 : decode cX11_sheet 11 = .ok (.ifCond .eq 9, 3) := by decide +kernel
theorem dX11_sheet_14 : decode cX11_sheet 14 = .ok (.iload_n 3, 1) := by decide +kernel
theorem dX11_sheet_15 : decode cX11_sheet 15 = .ok (.bipush 24, 2) := by decide +kernel
theorem dX11_sheet_17 : decode cX11_sheet 17 = .ok (.if_icmp .le 5, 3) := by decide +kernel
theorem dX11_sheet_20 : decode cX11_sheet 20 = .ok (.iconst (-1), 1) := by decide +kernel
theorem dX11_sheet_21 : decode cX11_sheet 21 = .ok (.ireturn, 1) := by decide +kernel
theorem dX11_sheet_22 : decode cX11_sheet 22 = .ok (.iload_n 3, 1) := by decide +kernel
theorem dX11_sheet_23 : decode cX11_sheet 23 = .ok (.ifCond .ge 6, 3) := by decide +kernel
theorem dX11_sheet_26 : decode cX11_sheet 26 = .ok (.bipush (-14), 2) := by decide +kernel
theorem dX11_sheet_28 : decode cX11_sheet 28 = .ok (.ireturn, 1) := by decide +kernel
theorem dX11_sheet_29 : decode cX11_sheet 29 = .ok (.aload_n 0, 1) := by decide +kernel
theorem dX11_sheet_30 : decode cX11_sheet 30 = .ok (.getfield 59, 3) := by decide +kernel
theorem dX11_sheet_33 : decode cX11_sheet 33 = .ok (.iload_n 1, 1) := by decide +kernel
theorem dX11_sheet_34 : decode cX11_sheet 34 = .ok (.aaload, 1) := by decide +kernel
theorem dX11_sheet_35 : decode cX11_sheet 35 = .ok (.iload_n 2, 1) := by decide +kernel
theorem dX11_sheet_36 : decode cX11_sheet 36 = .ok (.iload_n 3, 1) := by decide +kernel
theorem dX11_sheet_37 : decode cX11_sheet 37 = .ok (.invokevirtual 325, 3) := by decide +kernel
theorem dX11_sheet_40 : decode cX11_sheet 40 = .ok (.iload_n 3, 1) := by decide +kernel
theorem dX11_sheet_41 : decode cX11_sheet 41 = .ok (.ireturn, 1) := by decide +kernel
theorem dX11_drop_0 : decode cX11_drop 0 = .ok (.iload_n 1, 1) := by decide +kernel
theorem dX11_drop_1 : decode cX11_drop 1 = .ok (.invokestatic 290, 3) := by decide +kernel
theorem dX11_drop_4 : decode cX11_drop 4 = .ok (.ifCond .ne 5, 3) := by decide +kernel
theorem dX11_drop_7 : decode cX11_drop 7 = .ok (.iconst (-1), 1) := by decide +kernel
theorem dX11_drop_8 : decode cX11_drop 8 = .ok (.ireturn, 1) := by decide +kernel
theorem dX11_drop_9 : decode cX11_drop 9 = .ok (.aload_n 0, 1) := by decide +kernel
theorem dX11_drop_10 : decode cX11_drop 10 = .ok (.getfield 59, 3) := by decide +kernel
theorem dX11_drop_13 : decode cX11_drop 13 = .ok (.iload_n 1, 1) := by decide +kernel
theorem dX11_drop_14 : decode cX11_drop 14 = .ok (.aaload, 1) := by decide +kernel
theorem dX11_drop_15 : decode cX11_drop 15 = .ok (.astore_n 2, 1) := by decide +kernel
theorem dX11_drop_16 : decode cX11_drop 16 = .ok (.aload_n 2, 1) := by decide +kernel
theorem dX11_drop_17 : decode cX11_drop 17 = .ok (.invokevirtual 328, 3) := by decide +kernel
theorem dX11_drop_20 : decode cX11_drop 20 = .ok (.ifCond .eq 6, 3) := by decide +kernel
theorem dX11_drop_23 : decode cX11_drop 23 = .ok (.bipush (-11), 2) := by decide +kernel
theorem dX11_drop_25 : decode cX11_drop 25 = .ok (.ireturn, 1) := by decide +kernel
theorem dX11_drop_26 : decode cX11_drop 26 = .ok (.aload_n 2, 1) := by decide +kernel
theorem dX11_drop_27 : decode cX11_drop 27 = .ok (.getfield 331, 3) := by decide +kernel
theorem dX11_drop_30 : decode cX11_drop 30 = .ok (.istore_n 3, 1) := by decide +kernel
theorem dX11_drop_31 : decode cX11_drop 31 = .ok (.aload_n 2, 1) := by decide +kernel
theorem dX11_drop_32 : decode cX11_drop 32 = .ok (.iconst (-1), 1) := by decide +kernel
theorem dX11_drop_33 : decode cX11_drop 33 = .ok (.iconst 0, 1) := by decide +kernel
theorem dX11_drop_34 : decode cX11_drop 34 = .ok (.invokevirtual 325, 3) := by decide +kernel
theorem dX11_drop_37 : decode cX11_drop 37 = .ok (.iload_n 3, 1) := by decide +kernel
theorem dX11_drop_38 : decode cX11_drop 38 = .ok (.ireturn, 1) := by decide +kernel
theorem dX11_item_0 : decode cX11_item 0 = .ok (.iload_n 1, 1) := by decide +kernel
theorem dX11_item_1 : decode cX11_item 1 = .ok (.invokestatic 290, 3) := by decide +kernel
theorem dX11_item_4 : decode cX11_item 4 = .ok (.ifCond .eq 10, 3) := by decide +kernel
theorem dX11_item_7 : decode cX11_item 7 = .ok (.iload_n 2, 1) := by decide +kernel
theorem dX11_item_8 : decode cX11_item 8 = .ok (.invokestatic 293, 3) := by decide +kernel
theorem dX11_item_11 : decode cX11_item 11 = .ok (.ifCond .ne 5, 3) := by decide +kernel
theorem dX11_item_14 : decode cX11_item 14 = .ok (.iconst (-1), 1) := by decide +kernel
theorem dX11_item_15 : decode cX11_item 15 = .ok (.ireturn, 1) := by decide +kernel
theorem dX11_item_16 : decode cX11_item 16 = .ok (.aload_n 0, 1) := by decide +kernel
theorem dX11_item_17 : decode cX11_item 17 = .ok (.getfield 59, 3) := by decide +kernel
theorem dX11_item_20 : decode cX11_item 20 = .ok (.iload_n 1, 1) := by decide +kernel
theorem dX11_item_21 : decode cX11_item 21 = .ok (.aaload, 1) := by decide +kernel
theorem dX11_item_22 : decode cX11_item 22 = .ok (.astore 6, 2) := by decide +kernel
theorem dX11_item_24 : decode cX11_item 24 = .ok (.aload 6, 2) := by decide +kernel
theorem dX11_item_26 : decode cX11_item 26 = .ok (.iload_n 2, 1) := by decide +kernel
theorem dX11_item_27 : decode cX11_item 27 = .ok (.iload_n 3, 1) := by decide +kernel
theorem dX11_item_28 : decode cX11_item 28 = .ok (.iconst 1, 1) := by decide +kernel
theorem dX11_item_29 : decode cX11_item 29 = .ok (.invokevirtual 296, 3) := by decide +kernel
theorem dX11_item_32 : decode cX11_item 32 = .ok (.istore 7, 2) := by decide +kernel
theorem dX11_item_34 : decode cX11_item 34 = .ok (.iload 7, 2) := by decide +kernel
theorem dX11_item_36 : decode cX11_item 36 = .ok (.ifCond .eq 6, 3) := by decide +kernel
theorem dX11_item_39 : decode cX11_item 39 = .ok (.iload 7, 2) := by decide +kernel
theorem dX11_item_41 : decode cX11_item 41 = .ok (.ireturn, 1) := by decide +kernel
theorem dX11_item_42 : decode cX11_item 42 = .ok (.aload 6, 2) := by decide +kernel
theorem dX11_item_44 : decode cX11_item 44 = .ok (.iload_n 3, 1) := by decide +kernel
theorem dX11_item_45 : decode cX11_item 45 = .ok (.lload 4, 2) := by decide +kernel
theorem dX11_item_47 : decode cX11_item 47 = .ok (.invokevirtual 321, 3) := by decide +kernel
theorem dX11_item_50 : decode cX11_item 50 = .ok (.iconst 1, 1) := by decide +kernel
theorem dX11_item_51 : decode cX11_item 51 = .ok (.ireturn, 1) := by decide +kernel
theorem dX11_copy_0 : decode cX11_copy 0 = .ok (.iload_n 1, 1) := by decide +kernel
theorem dX11_copy_1 : decode cX11_copy 1 = .ok (.invokestatic 290, 3) := by decide +kernel
theorem dX11_copy_4 : decode cX11_copy 4 = .ok (.ifCond .eq 10, 3) := by decide +kernel
theorem dX11_copy_7 : decode cX11_copy 7 = .ok (.iload_n 3, 1) := by decide +kernel
theorem dX11_copy_8 : decode cX11_copy 8 = .ok (.invokestatic 290, 3) := by decide +kernel
theorem dX11_copy_11 : decode cX11_copy 11 = .ok (.ifCond .ne 5, 3) := by decide +kernel
theorem dX11_copy_14 : decode cX11_copy 14 = .ok (.iconst (-1), 1) := by decide +kernel
theorem dX11_copy_15 : decode cX11_copy 15 = .ok (.ireturn, 1) := by decide +kernel
theorem dX11_copy_16 : decode cX11_copy 16 = .ok (.aload_n 0, 1) := by decide +kernel
theorem dX11_copy_17 : decode cX11_copy 17 = .ok (.getfield 59, 3) := by decide +kernel
theorem dX11_copy_20 : decode cX11_copy 20 = .ok (.iload_n 1, 1) := by decide +kernel
theorem dX11_copy_21 : decode cX11_copy 21 = .ok (.aaload, 1) := by decide +kernel
theorem dX11_copy_22 : decode cX11_copy 22 = .ok (.astore 6, 2) := by decide +kernel
theorem dX11_copy_24 : decode cX11_copy 24 = .ok (.aload_n 0, 1) := by decide +kernel
theorem dX11_copy_25 : decode cX11_copy 25 = .ok (.getfield 59, 3) := by decide +kernel
theorem dX11_copy_28 : decode cX11_copy 28 = .ok (.iload_n 3, 1) := by decide +kernel
theorem dX11_copy_29 : decode cX11_copy 29 = .ok (.aaload, 1) := by decide +kernel
theorem dX11_copy_30 : decode cX11_copy 30 = .ok (.astore 7, 2) := by decide +kernel
theorem dX11_copy_32 : decode cX11_copy 32 = .ok (.aload 6, 2) := by decide +kernel
theorem dX11_copy_34 : decode cX11_copy 34 = .ok (.invokevirtual 328, 3) := by decide +kernel
theorem dX11_copy_37 : decode cX11_copy 37 = .ok (.ifCond .ne 11, 3) := by decide +kernel
theorem dX11_copy_40 : decode cX11_copy 40 = .ok (.aload 7, 2) := by decide +kernel
theorem dX11_copy_42 : decode cX11_copy 42 = .ok (.invokevirtual 328, 3) := by decide +kernel
theorem dX11_copy_45 : decode cX11_copy 45 = .ok (.ifCond .eq 6, 3) := by decide +kernel
theorem dX11_copy_48 : decode cX11_copy 48 = .ok (.bipush (-11), 2) := by decide +kernel
theorem dX11_copy_50 : decode cX11_copy 50 = .ok (.ireturn, 1) := by decide +kernel
theorem dX11_copy_51 : decode cX11_copy 51 = .ok (.aload 6, 2) := by decide +kernel
theorem dX11_copy_53 : decode cX11_copy 53 = .ok (.getfield 332, 3) := by decide +kernel
theorem dX11_copy_56 : decode cX11_copy 56 = .ok (.aload 7, 2) := by decide +kernel
theorem dX11_copy_58 : decode cX11_copy 58 = .ok (.getfield 332, 3) := by decide +kernel
