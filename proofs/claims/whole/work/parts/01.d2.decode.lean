theorem dX11_copy_61 : decode cX11_copy 61 = .ok (.if_icmp .eq 6, 3) := by decide +kernel
theorem dX11_copy_64 : decode cX11_copy 64 = .ok (.bipush (-12), 2) := by decide +kernel
theorem dX11_copy_66 : decode cX11_copy 66 = .ok (.ireturn, 1) := by decide +kernel
theorem dX11_copy_67 : decode cX11_copy 67 = .ok (.aload 6, 2) := by decide +kernel
theorem dX11_copy_69 : decode cX11_copy 69 = .ok (.iload_n 2, 1) := by decide +kernel
theorem dX11_copy_70 : decode cX11_copy 70 = .ok (.iload 5, 2) := by decide +kernel
theorem dX11_copy_72 : decode cX11_copy 72 = .ok (.invokevirtual 335, 3) := by decide +kernel
theorem dX11_copy_75 : decode cX11_copy 75 = .ok (.ifCond .eq 15, 3) := by decide +kernel
theorem dX11_copy_78 : decode cX11_copy 78 = .ok (.aload 7, 2) := by decide +kernel
theorem dX11_copy_80 : decode cX11_copy 80 = .ok (.iload 4, 2) := by decide +kernel
theorem dX11_copy_82 : decode cX11_copy 82 = .ok (.iload 5, 2) := by decide +kernel
theorem dX11_copy_84 : decode cX11_copy 84 = .ok (.invokevirtual 335, 3) := by decide +kernel
theorem dX11_copy_87 : decode cX11_copy 87 = .ok (.ifCond .ne 6, 3) := by decide +kernel
theorem dX11_copy_90 : decode cX11_copy 90 = .ok (.bipush (-13), 2) := by decide +kernel
theorem dX11_copy_92 : decode cX11_copy 92 = .ok (.ireturn, 1) := by decide +kernel
theorem dX11_copy_93 : decode cX11_copy 93 = .ok (.aload 6, 2) := by decide +kernel
theorem dX11_copy_95 : decode cX11_copy 95 = .ok (.getfield 299, 3) := by decide +kernel
theorem dX11_copy_98 : decode cX11_copy 98 = .ok (.iload_n 2, 1) := by decide +kernel
theorem dX11_copy_99 : decode cX11_copy 99 = .ok (.aload 7, 2) := by decide +kernel
theorem dX11_copy_101 : decode cX11_copy 101 = .ok (.getfield 299, 3) := by decide +kernel
theorem dX11_copy_104 : decode cX11_copy 104 = .ok (.iload 4, 2) := by decide +kernel
theorem dX11_copy_106 : decode cX11_copy 106 = .ok (.iload 5, 2) := by decide +kernel
theorem dX11_copy_108 : decode cX11_copy 108 = .ok (.invokestatic 339, 3) := by decide +kernel
theorem dX11_copy_111 : decode cX11_copy 111 = .ok (.iload 5, 2) := by decide +kernel
theorem dX11_copy_113 : decode cX11_copy 113 = .ok (.ireturn, 1) := by decide +kernel
theorem dX11_within_0 : decode cX11_within 0 = .ok (.iload_n 0, 1) := by decide +kernel
theorem dX11_within_1 : decode cX11_within 1 = .ok (.iload_n 1, 1) := by decide +kernel
theorem dX11_within_2 : decode cX11_within 2 = .ok (.if_icmp .lt 12, 3) := by decide +kernel
theorem dX11_within_5 : decode cX11_within 5 = .ok (.iload_n 0, 1) := by decide +kernel
theorem dX11_within_6 : decode cX11_within 6 = .ok (.iload_n 2, 1) := by decide +kernel
theorem dX11_within_7 : decode cX11_within 7 = .ok (.if_icmp .gt 7, 3) := by decide +kernel
theorem dX11_within_10 : decode cX11_within 10 = .ok (.iconst 1, 1) := by decide +kernel
theorem dX11_within_11 : decode cX11_within 11 = .ok (.goto 4, 3) := by decide +kernel
theorem dX11_within_14 : decode cX11_within 14 = .ok (.iconst 0, 1) := by decide +kernel
theorem dX11_within_15 : decode cX11_within 15 = .ok (.ireturn, 1) := by decide +kernel
theorem dX11_isPerson_0 : decode cX11_isPerson 0 = .ok (.iload_n 1, 1) := by decide +kernel
theorem dX11_isPerson_1 : decode cX11_isPerson 1 = .ok (.iconst 0, 1) := by decide +kernel
theorem dX11_isPerson_2 : decode cX11_isPerson 2 = .ok (.aload_n 0, 1) := by decide +kernel
theorem dX11_isPerson_3 : decode cX11_isPerson 3 = .ok (.getfield 12, 3) := by decide +kernel
theorem dX11_isPerson_6 : decode cX11_isPerson 6 = .ok (.getfield 79, 3) := by decide +kernel
theorem dX11_isPerson_9 : decode cX11_isPerson 9 = .ok (.getfield 82, 3) := by decide +kernel
theorem dX11_isPerson_12 : decode cX11_isPerson 12 = .ok (.iconst 1, 1) := by decide +kernel
theorem dX11_isPerson_13 : decode cX11_isPerson 13 = .ok (.isub, 1) := by decide +kernel
theorem dX11_isPerson_14 : decode cX11_isPerson 14 = .ok (.invokestatic 68, 3) := by decide +kernel
theorem dX11_isPerson_17 : decode cX11_isPerson 17 = .ok (.ireturn, 1) := by decide +kernel
theorem dX11_isFloor_0 : decode cX11_isFloor 0 = .ok (.iload_n 1, 1) := by decide +kernel
theorem dX11_isFloor_1 : decode cX11_isFloor 1 = .ok (.iconst 0, 1) := by decide +kernel
theorem dX11_isFloor_2 : decode cX11_isFloor 2 = .ok (.aload_n 0, 1) := by decide +kernel
theorem dX11_isFloor_3 : decode cX11_isFloor 3 = .ok (.getfield 12, 3) := by decide +kernel
theorem dX11_isFloor_6 : decode cX11_isFloor 6 = .ok (.getfield 141, 3) := by decide +kernel
theorem dX11_isFloor_9 : decode cX11_isFloor 9 = .ok (.getfield 196, 3) := by decide +kernel
theorem dX11_isFloor_12 : decode cX11_isFloor 12 = .ok (.iconst 1, 1) := by decide +kernel
theorem dX11_isFloor_13 : decode cX11_isFloor 13 = .ok (.isub, 1) := by decide +kernel
theorem dX11_isFloor_14 : decode cX11_isFloor 14 = .ok (.invokestatic 68, 3) := by decide +kernel
theorem dX11_isFloor_17 : decode cX11_isFloor 17 = .ok (.ireturn, 1) := by decide +kernel
theorem dX11_isCar_0 : decode cX11_isCar 0 = .ok (.iload_n 1, 1) := by decide +kernel
theorem dX11_isCar_1 : decode cX11_isCar 1 = .ok (.iconst 0, 1) := by decide +kernel
theorem dX11_isCar_2 : decode cX11_isCar 2 = .ok (.aload_n 0, 1) := by decide +kernel
theorem dX11_isCar_3 : decode cX11_isCar 3 = .ok (.getfield 12, 3) := by decide +kernel
theorem dX11_isCar_6 : decode cX11_isCar 6 = .ok (.getfield 141, 3) := by decide +kernel
theorem dX11_isCar_9 : decode cX11_isCar 9 = .ok (.invokevirtual 275, 3) := by decide +kernel
theorem dX11_isCar_12 : decode cX11_isCar 12 = .ok (.iconst 1, 1) := by decide +kernel
theorem dX11_isCar_13 : decode cX11_isCar 13 = .ok (.isub, 1) := by decide +kernel
theorem dX11_isCar_14 : decode cX11_isCar 14 = .ok (.invokestatic 68, 3) := by decide +kernel
theorem dX11_isCar_17 : decode cX11_isCar 17 = .ok (.ireturn, 1) := by decide +kernel
theorem dX11_isSide_0 : decode cX11_isSide 0 = .ok (.iload_n 0, 1) := by decide +kernel
theorem dX11_isSide_1 : decode cX11_isSide 1 = .ok (.iconst 0, 1) := by decide +kernel
theorem dX11_isSide_2 : decode cX11_isSide 2 = .ok (.iconst 1, 1) := by decide +kernel
theorem dX11_isSide_3 : decode cX11_isSide 3 = .ok (.invokestatic 68, 3) := by decide +kernel
theorem dX11_isSide_6 : decode cX11_isSide 6 = .ok (.ireturn, 1) := by decide +kernel
theorem dX11_isDay_0 : decode cX11_isDay 0 = .ok (.iload_n 0, 1) := by decide +kernel
theorem dX11_isDay_1 : decode cX11_isDay 1 = .ok (.iconst 0, 1) := by decide +kernel
theorem dX11_isDay_2 : decode cX11_isDay 2 = .ok (.bipush 6, 2) := by decide +kernel
theorem dX11_isDay_4 : decode cX11_isDay 4 = .ok (.invokestatic 68, 3) := by decide +kernel
theorem dX11_isDay_7 : decode cX11_isDay 7 = .ok (.ireturn, 1) := by decide +kernel
theorem dX11_isSheet_0 : decode cX11_isSheet 0 = .ok (.iload_n 0, 1) := by decide +kernel
theorem dX11_isSheet_1 : decode cX11_isSheet 1 = .ok (.iconst 0, 1) := by decide +kernel
theorem dX11_isSheet_2 : decode cX11_isSheet 2 = .ok (.iconst 3, 1) := by decide +kernel
theorem dX11_isSheet_3 : decode cX11_isSheet 3 = .ok (.invokestatic 68, 3) := by decide +kernel
theorem dX11_isSheet_6 : decode cX11_isSheet 6 = .ok (.ireturn, 1) := by decide +kernel
theorem dX11_isLane_0 : decode cX11_isLane 0 = .ok (.iload_n 0, 1) := by decide +kernel
theorem dX11_isLane_1 : decode cX11_isLane 1 = .ok (.iconst 0, 1) := by decide +kernel
theorem dX11_isLane_2 : decode cX11_isLane 2 = .ok (.iconst 3, 1) := by decide +kernel
theorem dX11_isLane_3 : decode cX11_isLane 3 = .ok (.invokestatic 68, 3) := by decide +kernel
theorem dX11_isLane_6 : decode cX11_isLane 6 = .ok (.ireturn, 1) := by decide +kernel
theorem dX11_leftOver_0 : decode cX11_leftOver 0 = .ok (.iload_n 1, 1) := by decide +kernel
theorem dX11_leftOver_1 : decode cX11_leftOver 1 = .ok (.ifCond .le 11, 3) := by decide +kernel
theorem dX11_leftOver_4 : decode cX11_leftOver 4 = .ok (.iload_n 0, 1) := by decide +kernel
theorem dX11_leftOver_5 : decode cX11_leftOver 5 = .ok (.iload_n 1, 1) := by decide +kernel
theorem dX11_leftOver_6 : decode cX11_leftOver 6 = .ok (.invokestatic 345, 3) := by decide +kernel
theorem dX11_leftOver_9 : decode cX11_leftOver 9 = .ok (.goto 4, 3) := by decide +kernel
theorem dX11_leftOver_12 : decode cX11_leftOver 12 = .ok (.iconst 0, 1) := by decide +kernel
theorem dX11_leftOver_13 : decode cX11_leftOver 13 = .ok (.ireturn, 1) := by decide +kernel
theorem dX12_within_0 : decode cX12_within 0 = .ok (.lload_n 0, 1) := by decide +kernel
theorem dX12_within_1 : decode cX12_within 1 = .ok (.lload_n 2, 1) := by decide +kernel
theorem dX12_within_2 : decode cX12_within 2 = .ok (.lcmp, 1) := by decide +kernel
theorem dX12_within_3 : decode cX12_within 3 = .ok (.ifCond .lt 14, 3) := by decide +kernel
theorem dX12_within_6 : decode cX12_within 6 = .ok (.lload_n 0, 1) := by decide +kernel
theorem dX12_within_7 : decode cX12_within 7 = .ok (.lload 4, 2) := by decide +kernel
theorem dX12_within_9 : decode cX12_within 9 = .ok (.lcmp, 1) := by decide +kernel
theorem dX12_within_10 : decode cX12_within 10 = .ok (.ifCond .gt 7, 3) := by decide +kernel
theorem dX12_within_13 : decode cX12_within 13 = .ok (.iconst 1, 1) := by decide +kernel
theorem dX12_within_14 : decode cX12_within 14 = .ok (.goto 4, 3) := by decide +kernel
theorem dX12_within_17 : decode cX12_within 17 = .ok (.iconst 0, 1) := by decide +kernel
theorem dX12_within_18 : decode cX12_within 18 = .ok (.ireturn, 1) := by decide +kernel
theorem dX12_init_0 : decode cX12_init 0 = .ok (.aload_n 0, 1) := by decide +kernel
theorem dX12_init_1 : decode cX12_init 1 = .ok (.invokespecial 1, 3) := by decide +kernel
theorem dX12_init_4 : decode cX12_init 4 = .ok (.aload_n 0, 1) := by decide +kernel
theorem dX12_init_5 : decode cX12_init 5 = .ok (.bipush 54, 2) := by decide +kernel
theorem dX12_init_7 : decode cX12_init 7 = .ok (.newarray .int, 2) := by decide +kernel
theorem dX12_init_9 : decode cX12_init 9 = .ok (.putfield 7, 3) := by decide +kernel
theorem dX12_init_12 : decode cX12_init 12 = .ok (.aload_n 0, 1) := by decide +kernel
theorem dX12_init_13 : decode cX12_init 13 = .ok (.bipush 60, 2) := by decide +kernel
theorem dX12_init_15 : decode cX12_init 15 = .ok (.newarray .int, 2) := by decide +kernel
theorem dX12_init_17 : decode cX12_init 17 = .ok (.putfield 13, 3) := by decide +kernel
theorem dX12_init_20 : decode cX12_init 20 = .ok (.aload_n 0, 1) := by decide +kernel
theorem dX12_init_21 : decode cX12_init 21 = .ok (.bipush 12, 2) := by decide +kernel
theorem dX12_init_23 : decode cX12_init 23 = .ok (.newarray .int, 2) := by decide +kernel
theorem dX12_init_25 : decode cX12_init 25 = .ok (.putfield 16, 3) := by decide +kernel
theorem dX12_init_28 : decode cX12_init 28 = .ok (.aload_n 0, 1) := by decide +kernel
theorem dX12_init_29 : decode cX12_init 29 = .ok (.bipush 24, 2) := by decide +kernel
theorem dX12_init_31 : decode cX12_init 31 = .ok (.newarray .int, 2) := by decide +kernel
theorem dX12_init_33 : decode cX12_init 33 = .ok (.putfield 19, 3) := by decide +kernel
theorem dX12_init_36 : decode cX12_init 36 = .ok (.aload_n 0, 1) := by decide +kernel
theorem dX12_init_37 : decode cX12_init 37 = .ok (.sipush 432, 3) := by decide +kernel
theorem dX12_init_40 : decode cX12_init 40 = .ok (.newarray .int, 2) := by decide +kernel
theorem dX12_init_42 : decode cX12_init 42 = .ok (.putfield 22, 3) := by decide +kernel
theorem dX12_init_45 : decode cX12_init 45 = .ok (.aload_n 0, 1) := by decide +kernel
theorem dX12_init_46 : decode cX12_init 46 = .ok (.sipush 486, 3) := by decide +kernel
theorem dX12_init_49 : decode cX12_init 49 = .ok (.newarray .int, 2) := by decide +kernel
theorem dX12_init_51 : decode cX12_init 51 = .ok (.putfield 25, 3) := by decide +kernel
theorem dX12_init_54 : decode cX12_init 54 = .ok (.aload_n 0, 1) := by decide +kernel
theorem dX12_init_55 : decode cX12_init 55 = .ok (.iconst 4, 1) := by decide +kernel
theorem dX12_init_56 : decode cX12_init 56 = .ok (.newarray .int, 2) := by decide +kernel
theorem dX12_init_58 : decode cX12_init 58 = .ok (.putfield 28, 3) := by decide +kernel
theorem dX12_init_61 : decode cX12_init 61 = .ok (.aload_n 0, 1) := by decide +kernel
theorem dX12_init_62 : decode cX12_init 62 = .ok (.iconst 4, 1) := by decide +kernel
theorem dX12_init_63 : decode cX12_init 63 = .ok (.newarray .int, 2) := by decide +kernel
theorem dX12_init_65 : decode cX12_init 65 = .ok (.putfield 31, 3) := by decide +kernel
theorem dX12_init_68 : decode cX12_init 68 = .ok (.aload_n 0, 1) := by decide +kernel
theorem dX12_init_69 : decode cX12_init 69 = .ok (.bipush 96, 2) := by decide +kernel
theorem dX12_init_71 : decode cX12_init 71 = .ok (.newarray .long, 2) := by decide +kernel
theorem dX12_init_73 : decode cX12_init 73 = .ok (.putfield 34, 3) := by decide +kernel
theorem dX12_init_76 : decode cX12_init 76 = .ok (.aload_n 0, 1) := by decide +kernel
theorem dX12_init_77 : decode cX12_init 77 = .ok (.bipush 24, 2) := by decide +kernel
theorem dX12_init_79 : decode cX12_init 79 = .ok (.newarray .long, 2) := by decide +kernel
theorem dX12_init_81 : decode cX12_init 81 = .ok (.putfield 38, 3) := by decide +kernel
theorem dX12_init_84 : decode cX12_init 84 = .ok (.aload_n 0, 1) := by decide +kernel
theorem dX12_init_85 : decode cX12_init 85 = .ok (.bipush 54, 2) := by decide +kernel
theorem dX12_init_87 : decode cX12_init 87 = .ok (.newarray .int, 2) := by decide +kernel
theorem dX12_init_89 : decode cX12_init 89 = .ok (.putfield 41, 3) := by decide +kernel
theorem dX12_init_92 : decode cX12_init 92 = .ok (.aload_n 0, 1) := by decide +kernel
theorem dX12_init_93 : decode cX12_init 93 = .ok (.getfield 7, 3) := by decide +kernel
theorem dX12_init_96 : decode cX12_init 96 = .ok (.iconst 2, 1) := by decide +kernel
theorem dX12_init_97 : decode cX12_init 97 = .ok (.iconst 3, 1) := by decide +kernel
theorem dX12_init_98 : decode cX12_init 98 = .ok (.iastore, 1) := by decide +kernel
theorem dX12_init_99 : decode cX12_init 99 = .ok (.aload_n 0, 1) := by decide +kernel
theorem dX12_init_100 : decode cX12_init 100 = .ok (.getfield 7, 3) := by decide +kernel
theorem dX12_init_103 : decode cX12_init 103 = .ok (.iconst 3, 1) := by decide +kernel
theorem dX12_init_104 : decode cX12_init 104 = .ok (.bipush 20, 2) := by decide +kernel
theorem dX12_init_106 : decode cX12_init 106 = .ok (.iastore, 1) := by decide +kernel
theorem dX12_init_107 : decode cX12_init 107 = .ok (.aload_n 0, 1) := by decide +kernel
theorem dX12_init_108 : decode cX12_init 108 = .ok (.getfield 7, 3) := by decide +kernel
theorem dX12_init_111 : decode cX12_init 111 = .ok (.iconst 4, 1) := by decide +kernel
theorem dX12_init_112 : decode cX12_init 112 = .ok (.bipush 12, 2) := by decide +kernel
theorem dX12_init_114 : decode cX12_init 114 = .ok (.iastore, 1) := by decide +kernel
theorem dX12_init_115 : decode cX12_init 115 = .ok (.aload_n 0, 1) := by decide +kernel
theorem dX12_init_116 : decode cX12_init 116 = .ok (.getfield 7, 3) := by decide +kernel
theorem dX12_init_119 : decode cX12_init 119 = .ok (.iconst 5, 1) := by decide +kernel
theorem dX12_init_120 : decode cX12_init 120 = .ok (.iconst 1, 1) := by decide +kernel
theorem dX12_init_121 : decode cX12_init 121 = .ok (.iastore, 1) := by decide +kernel
theorem dX12_init_122 : decode cX12_init 122 = .ok (.iconst 0, 1) := by decide +kernel
theorem dX12_init_123 : decode cX12_init 123 = .ok (.istore_n 1, 1) := by decide +kernel
theorem dX12_init_124 : decode cX12_init 124 = .ok (.iload_n 1, 1) := by decide +kernel
theorem dX12_init_125 : decode cX12_init 125 = .ok (.bipush 12, 2) := by decide +kernel
theorem dX12_init_127 : decode cX12_init 127 = .ok (.if_icmp .ge 22, 3) := by decide +kernel
theorem dX12_init_130 : decode cX12_init 130 = .ok (.aload_n 0, 1) := by decide +kernel
theorem dX12_init_131 : decode cX12_init 131 = .ok (.getfield 7, 3) := by decide +kernel
theorem dX12_init_134 : decode cX12_init 134 = .ok (.bipush 6, 2) := by decide +kernel
theorem dX12_init_136 : decode cX12_init 136 = .ok (.iload_n 1, 1) := by decide +kernel
theorem dX12_init_137 : decode cX12_init 137 = .ok (.iadd, 1) := by decide +kernel
theorem dX12_init_138 : decode cX12_init 138 = .ok (.iload_n 1, 1) := by decide +kernel
theorem dX12_init_139 : decode cX12_init 139 = .ok (.bipush 7, 2) := by decide +kernel
theorem dX12_init_141 : decode cX12_init 141 = .ok (.irem, 1) := by decide +kernel
theorem dX12_init_142 : decode cX12_init 142 = .ok (.iastore, 1) := by decide +kernel
theorem dX12_init_143 : decode cX12_init 143 = .ok (.iinc 1 1, 3) := by decide +kernel
theorem dX12_init_146 : decode cX12_init 146 = .ok (.goto (-22), 3) := by decide +kernel
theorem dX12_init_149 : decode cX12_init 149 = .ok (.iconst 0, 1) := by decide +kernel
theorem dX12_init_150 : decode cX12_init 150 = .ok (.istore_n 1, 1) := by decide +kernel
theorem dX12_init_151 : decode cX12_init 151 = .ok (.iload_n 1, 1) := by decide +kernel
theorem dX12_init_152 : decode cX12_init 152 = .ok (.iconst 4, 1) := by decide +kernel
theorem dX12_init_153 : decode cX12_init 153 = .ok (.if_icmp .ge 16, 3) := by decide +kernel
theorem dX12_init_156 : decode cX12_init 156 = .ok (.aload_n 0, 1) := by decide +kernel
theorem dX12_init_157 : decode cX12_init 157 = .ok (.getfield 28, 3) := by decide +kernel
theorem dX12_init_160 : decode cX12_init 160 = .ok (.iload_n 1, 1) := by decide +kernel
theorem dX12_init_161 : decode cX12_init 161 = .ok (.iconst (-1), 1) := by decide +kernel
theorem dX12_init_162 : decode cX12_init 162 = .ok (.iastore, 1) := by decide +kernel
theorem dX12_init_163 : decode cX12_init 163 = .ok (.iinc 1 1, 3) := by decide +kernel
theorem dX12_init_166 : decode cX12_init 166 = .ok (.goto (-15), 3) := by decide +kernel
theorem dX12_init_169 : decode cX12_init 169 = .ok (.return_, 1) := by decide +kernel
theorem dX12_many_0 : decode cX12_many 0 = .ok (.iconst 2, 1) := by decide +kernel
theorem dX12_many_1 : decode cX12_many 1 = .ok (.aload_n 0, 1) := by decide +kernel
theorem dX12_many_2 : decode cX12_many 2 = .ok (.getfield 7, 3) := by decide +kernel
theorem dX12_many_5 : decode cX12_many 5 = .ok (.iconst 2, 1) := by decide +kernel
theorem dX12_many_6 : decode cX12_many 6 = .ok (.iaload, 1) := by decide +kernel
theorem dX12_many_7 : decode cX12_many 7 = .ok (.imul, 1) := by decide +kernel
theorem dX12_many_8 : decode cX12_many 8 = .ok (.ireturn, 1) := by decide +kernel
theorem dX12_isPerson_0 : decode cX12_isPerson 0 = .ok (.iload_n 1, 1) := by decide +kernel
theorem dX12_isPerson_1 : decode cX12_isPerson 1 = .ok (.i2l, 1) := by decide +kernel
theorem dX12_isPerson_2 : decode cX12_isPerson 2 = .ok (.lconst 0, 1) := by decide +kernel
theorem dX12_isPerson_3 : decode cX12_isPerson 3 = .ok (.aload_n 0, 1) := by decide +kernel
theorem dX12_isPerson_4 : decode cX12_isPerson 4 = .ok (.getfield 7, 3) := by decide +kernel
theorem dX12_isPerson_7 : decode cX12_isPerson 7 = .ok (.iconst 0, 1) := by decide +kernel
theorem dX12_isPerson_8 : decode cX12_isPerson 8 = .ok (.iaload, 1) := by decide +kernel
theorem dX12_isPerson_9 : decode cX12_isPerson 9 = .ok (.iconst 1, 1) := by decide +kernel
theorem dX12_isPerson_10 : decode cX12_isPerson 10 = .ok (.isub, 1) := by decide +kernel
theorem dX12_isPerson_11 : decode cX12_isPerson 11 = .ok (.i2l, 1) := by decide +kernel
theorem dX12_isPerson_12 : decode cX12_isPerson 12 = .ok (.invokestatic 44, 3) := by decide +kernel
theorem dX12_isPerson_15 : decode cX12_isPerson 15 = .ok (.ireturn, 1) := by decide +kernel
theorem dX12_isCar_0 : decode cX12_isCar 0 = .ok (.iload_n 1, 1) := by decide +kernel
theorem dX12_isCar_1 : decode cX12_isCar 1 = .ok (.i2l, 1) := by decide +kernel
theorem dX12_isCar_2 : decode cX12_isCar 2 = .ok (.lconst 0, 1) := by decide +kernel
theorem dX12_isCar_3 : decode cX12_isCar 3 = .ok (.aload_n 0, 1) := by decide +kernel
theorem dX12_isCar_4 : decode cX12_isCar 4 = .ok (.invokevirtual 48, 3) := by decide +kernel
theorem dX12_isCar_7 : decode cX12_isCar 7 = .ok (.iconst 1, 1) := by decide +kernel
theorem dX12_isCar_8 : decode cX12_isCar 8 = .ok (.isub, 1) := by decide +kernel
theorem dX12_isCar_9 : decode cX12_isCar 9 = .ok (.i2l, 1) := by decide +kernel
theorem dX12_isCar_10 : decode cX12_isCar 10 = .ok (.invokestatic 44, 3) := by decide +kernel
theorem dX12_isCar_13 : decode cX12_isCar 13 = .ok (.ireturn, 1) := by decide +kernel
theorem dX12_isFloor_0 : decode cX12_isFloor 0 = .ok (.iload_n 1, 1) := by decide +kernel
theorem dX12_isFloor_1 : decode cX12_isFloor 1 = .ok (.i2l, 1) := by decide +kernel
theorem dX12_isFloor_2 : decode cX12_isFloor 2 = .ok (.lconst 0, 1) := by decide +kernel
theorem dX12_isFloor_3 : decode cX12_isFloor 3 = .ok (.aload_n 0, 1) := by decide +kernel
theorem dX12_isFloor_4 : decode cX12_isFloor 4 = .ok (.getfield 7, 3) := by decide +kernel
theorem dX12_isFloor_7 : decode cX12_isFloor 7 = .ok (.iconst 2, 1) := by decide +kernel
theorem dX12_isFloor_8 : decode cX12_isFloor 8 = .ok (.iaload, 1) := by decide +kernel
theorem dX12_isFloor_9 : decode cX12_isFloor 9 = .ok (.iconst 1, 1) := by decide +kernel
theorem dX12_isFloor_10 : decode cX12_isFloor 10 = .ok (.isub, 1) := by decide +kernel
theorem dX12_isFloor_11 : decode cX12_isFloor 11 = .ok (.i2l, 1) := by decide +kernel
theorem dX12_isFloor_12 : decode cX12_isFloor 12 = .ok (.invokestatic 44, 3) := by decide +kernel
theorem dX12_isFloor_15 : decode cX12_isFloor 15 = .ok (.ireturn, 1) := by decide +kernel
theorem dX12_isDay_0 : decode cX12_isDay 0 = .ok (.iload_n 0, 1) := by decide +kernel
theorem dX12_isDay_1 : decode cX12_isDay 1 = .ok (.i2l, 1) := by decide +kernel
theorem dX12_isDay_2 : decode cX12_isDay 2 = .ok (.lconst 0, 1) := by decide +kernel
theorem dX12_isDay_3 : decode cX12_isDay 3 = .ok (.ldc2_w 52, 3) := by decide +kernel
theorem dX12_isDay_6 : decode cX12_isDay 6 = .ok (.invokestatic 44, 3) := by decide +kernel
theorem dX12_isDay_9 : decode cX12_isDay 9 = .ok (.ireturn, 1) := by decide +kernel
theorem dX12_told_0 : decode cX12_told 0 = .ok (.aload_n 0, 1) := by decide +kernel
theorem dX12_told_1 : decode cX12_told 1 = .ok (.getfield 7, 3) := by decide +kernel
theorem dX12_told_4 : decode cX12_told 4 = .ok (.bipush 18, 2) := by decide +kernel
theorem dX12_told_6 : decode cX12_told 6 = .ok (.bipush 6, 2) := by decide +kernel
theorem dX12_told_8 : decode cX12_told 8 = .ok (.iload_n 1, 1) := by decide +kernel
theorem dX12_told_9 : decode cX12_told 9 = .ok (.imul, 1) := by decide +kernel
theorem dX12_told_10 : decode cX12_told 10 = .ok (.iadd, 1) := by decide +kernel
theorem dX12_told_11 : decode cX12_told 11 = .ok (.iload_n 2, 1) := by decide +kernel
theorem dX12_told_12 : decode cX12_told 12 = .ok (.iadd, 1) := by decide +kernel
theorem dX12_told_13 : decode cX12_told 13 = .ok (.iaload, 1) := by decide +kernel
theorem dX12_told_14 : decode cX12_told 14 = .ok (.ireturn, 1) := by decide +kernel
theorem dX12_weighs_0 : decode cX12_weighs 0 = .ok (.aload_n 0, 1) := by decide +kernel
theorem dX12_weighs_1 : decode cX12_weighs 1 = .ok (.iload_n 1, 1) := by decide +kernel
theorem dX12_weighs_2 : decode cX12_weighs 2 = .ok (.iconst 0, 1) := by decide +kernel
theorem dX12_weighs_3 : decode cX12_weighs 3 = .ok (.invokevirtual 54, 3) := by decide +kernel
theorem dX12_weighs_6 : decode cX12_weighs 6 = .ok (.istore_n 2, 1) := by decide +kernel
theorem dX12_weighs_7 : decode cX12_weighs 7 = .ok (.iload_n 2, 1) := by decide +kernel
theorem dX12_weighs_8 : decode cX12_weighs 8 = .ok (.iconst 2, 1) := by decide +kernel
theorem dX12_weighs_9 : decode cX12_weighs 9 = .ok (.if_icmp .eq 8, 3) := by decide +kernel
theorem dX12_weighs_12 : decode cX12_weighs 12 = .ok (.iload_n 2, 1) := by decide +kernel
theorem dX12_weighs_13 : decode cX12_weighs 13 = .ok (.iconst 3, 1) := by decide +kernel
theorem dX12_weighs_14 : decode cX12_weighs 14 = .ok (.if_icmp .ne 14, 3) := by decide +kernel
theorem dX12_weighs_17 : decode cX12_weighs 17 = .ok (.iconst 2, 1) := by decide +kernel
theorem dX12_weighs_18 : decode cX12_weighs 18 = .ok (.aload_n 0, 1) := by decide +kernel
theorem dX12_weighs_19 : decode cX12_weighs 19 = .ok (.iload_n 1, 1) := by decide +kernel
theorem dX12_weighs_20 : decode cX12_weighs 20 = .ok (.iconst 1, 1) := by decide +kernel
theorem dX12_weighs_21 : decode cX12_weighs 21 = .ok (.invokevirtual 54, 3) := by decide +kernel
theorem dX12_weighs_24 : decode cX12_weighs 24 = .ok (.imul, 1) := by decide +kernel
theorem dX12_weighs_25 : decode cX12_weighs 25 = .ok (.goto 9, 3) := by decide +kernel
theorem dX12_weighs_28 : decode cX12_weighs 28 = .ok (.aload_n 0, 1) := by decide +kernel
theorem dX12_weighs_29 : decode cX12_weighs 29 = .ok (.iload_n 1, 1) := by decide +kernel
theorem dX12_weighs_30 : decode cX12_weighs 30 = .ok (.iconst 1, 1) := by decide +kernel
theorem dX12_weighs_31 : decode cX12_weighs 31 = .ok (.invokevirtual 54, 3) := by decide +kernel
theorem dX12_weighs_34 : decode cX12_weighs 34 = .ok (.ireturn, 1) := by decide +kernel
theorem dX12_placeOf_0 : decode cX12_placeOf 0 = .ok (.iload_n 1, 1) := by decide +kernel
theorem dX12_placeOf_1 : decode cX12_placeOf 1 = .ok (.iload_n 2, 1) := by decide +kernel
theorem dX12_placeOf_2 : decode cX12_placeOf 2 = .ok (.iadd, 1) := by decide +kernel
theorem dX12_placeOf_3 : decode cX12_placeOf 3 = .ok (.aload_n 0, 1) := by decide +kernel
theorem dX12_placeOf_4 : decode cX12_placeOf 4 = .ok (.invokevirtual 48, 3) := by decide +kernel
theorem dX12_placeOf_7 : decode cX12_placeOf 7 = .ok (.irem, 1) := by decide +kernel
theorem dX12_placeOf_8 : decode cX12_placeOf 8 = .ok (.ireturn, 1) := by decide +kernel
theorem dX12_floorOf_0 : decode cX12_floorOf 0 = .ok (.iload_n 1, 1) := by decide +kernel
theorem dX12_floorOf_1 : decode cX12_floorOf 1 = .ok (.aload_n 0, 1) := by decide +kernel
theorem dX12_floorOf_2 : decode cX12_floorOf 2 = .ok (.getfield 7, 3) := by decide +kernel
theorem dX12_floorOf_5 : decode cX12_floorOf 5 = .ok (.iconst 2, 1) := by decide +kernel
theorem dX12_floorOf_6 : decode cX12_floorOf 6 = .ok (.iaload, 1) := by decide +kernel
theorem dX12_floorOf_7 : decode cX12_floorOf 7 = .ok (.if_icmp .ge 7, 3) := by decide +kernel
theorem dX12_floorOf_10 : decode cX12_floorOf 10 = .ok (.iload_n 1, 1) := by decide +kernel
theorem dX12_floorOf_11 : decode cX12_floorOf 11 = .ok (.goto 11, 3) := by decide +kernel
theorem dX12_floorOf_14 : decode cX12_floorOf 14 = .ok (.aload_n 0, 1) := by decide +kernel
theorem dX12_floorOf_15 : decode cX12_floorOf 15 = .ok (.invokevirtual 48, 3) := by decide +kernel
theorem dX12_floorOf_18 : decode cX12_floorOf 18 = .ok (.iconst 1, 1) := by decide +kernel
theorem dX12_floorOf_19 : decode cX12_floorOf 19 = .ok (.isub, 1) := by decide +kernel
theorem dX12_floorOf_20 : decode cX12_floorOf 20 = .ok (.iload_n 1, 1) := by decide +kernel
theorem dX12_floorOf_21 : decode cX12_floorOf 21 = .ok (.isub, 1) := by decide +kernel
theorem dX12_floorOf_22 : decode cX12_floorOf 22 = .ok (.ireturn, 1) := by decide +kernel
theorem dX12_placeAt_0 : decode cX12_placeAt 0 = .ok (.iload_n 2, 1) := by decide +kernel
theorem dX12_placeAt_1 : decode cX12_placeAt 1 = .ok (.ifCond .ne 7, 3) := by decide +kernel
theorem dX12_placeAt_4 : decode cX12_placeAt 4 = .ok (.iload_n 1, 1) := by decide +kernel
theorem dX12_placeAt_5 : decode cX12_placeAt 5 = .ok (.goto 11, 3) := by decide +kernel
theorem dX12_placeAt_8 : decode cX12_placeAt 8 = .ok (.aload_n 0, 1) := by decide +kernel
theorem dX12_placeAt_9 : decode cX12_placeAt 9 = .ok (.invokevirtual 48, 3) := by decide +kernel
theorem dX12_placeAt_12 : decode cX12_placeAt 12 = .ok (.iconst 1, 1) := by decide +kernel
theorem dX12_placeAt_13 : decode cX12_placeAt 13 = .ok (.isub, 1) := by decide +kernel
theorem dX12_placeAt_14 : decode cX12_placeAt 14 = .ok (.iload_n 1, 1) := by decide +kernel
theorem dX12_placeAt_15 : decode cX12_placeAt 15 = .ok (.isub, 1) := by decide +kernel
theorem dX12_placeAt_16 : decode cX12_placeAt 16 = .ok (.ireturn, 1) := by decide +kernel
theorem dX12_carIn_0 : decode cX12_carIn 0 = .ok (.iload_n 1, 1) := by decide +kernel
theorem dX12_carIn_1 : decode cX12_carIn 1 = .ok (.aload_n 0, 1) := by decide +kernel
theorem dX12_carIn_2 : decode cX12_carIn 2 = .ok (.invokevirtual 48, 3) := by decide +kernel
theorem dX12_carIn_5 : decode cX12_carIn 5 = .ok (.iadd, 1) := by decide +kernel
theorem dX12_carIn_6 : decode cX12_carIn 6 = .ok (.iload_n 2, 1) := by decide +kernel
theorem dX12_carIn_7 : decode cX12_carIn 7 = .ok (.aload_n 0, 1) := by decide +kernel
theorem dX12_carIn_8 : decode cX12_carIn 8 = .ok (.invokevirtual 48, 3) := by decide +kernel
theorem dX12_carIn_11 : decode cX12_carIn 11 = .ok (.irem, 1) := by decide +kernel
theorem dX12_carIn_12 : decode cX12_carIn 12 = .ok (.isub, 1) := by decide +kernel
theorem dX12_carIn_13 : decode cX12_carIn 13 = .ok (.aload_n 0, 1) := by decide +kernel
theorem dX12_carIn_14 : decode cX12_carIn 14 = .ok (.invokevirtual 48, 3) := by decide +kernel
theorem dX12_carIn_17 : decode cX12_carIn 17 = .ok (.irem, 1) := by decide +kernel
theorem dX12_carIn_18 : decode cX12_carIn 18 = .ok (.ireturn, 1) := by decide +kernel
theorem dX12_loadOf_0 : decode cX12_loadOf 0 = .ok (.iconst 0, 1) := by decide +kernel
theorem dX12_loadOf_1 : decode cX12_loadOf 1 = .ok (.istore_n 2, 1) := by decide +kernel
theorem dX12_loadOf_2 : decode cX12_loadOf 2 = .ok (.iconst 0, 1) := by decide +kernel
theorem dX12_loadOf_3 : decode cX12_loadOf 3 = .ok (.istore_n 3, 1) := by decide +kernel
theorem dX12_loadOf_4 : decode cX12_loadOf 4 = .ok (.iload_n 3, 1) := by decide +kernel
theorem dX12_loadOf_5 : decode cX12_loadOf 5 = .ok (.aload_n 0, 1) := by decide +kernel
theorem dX12_loadOf_6 : decode cX12_loadOf 6 = .ok (.getfield 7, 3) := by decide +kernel
theorem dX12_loadOf_9 : decode cX12_loadOf 9 = .ok (.iconst 0, 1) := by decide +kernel
theorem dX12_loadOf_10 : decode cX12_loadOf 10 = .ok (.iaload, 1) := by decide +kernel
theorem dX12_loadOf_11 : decode cX12_loadOf 11 = .ok (.if_icmp .ge 31, 3) := by decide +kernel
theorem dX12_loadOf_14 : decode cX12_loadOf 14 = .ok (.iload_n 2, 1) := by decide +kernel
theorem dX12_loadOf_15 : decode cX12_loadOf 15 = .ok (.aload_n 0, 1) := by decide +kernel
theorem dX12_loadOf_16 : decode cX12_loadOf 16 = .ok (.iload_n 3, 1) := by decide +kernel
theorem dX12_loadOf_17 : decode cX12_loadOf 17 = .ok (.iconst 3, 1) := by decide +kernel
theorem dX12_loadOf_18 : decode cX12_loadOf 18 = .ok (.invokevirtual 54, 3) := by decide +kernel
theorem dX12_loadOf_21 : decode cX12_loadOf 21 = .ok (.iload_n 1, 1) := by decide +kernel
theorem dX12_loadOf_22 : decode cX12_loadOf 22 = .ok (.if_icmp .ne 11, 3) := by decide +kernel
theorem dX12_loadOf_25 : decode cX12_loadOf 25 = .ok (.aload_n 0, 1) := by decide +kernel
theorem dX12_loadOf_26 : decode cX12_loadOf 26 = .ok (.iload_n 3, 1) := by decide +kernel
theorem dX12_loadOf_27 : decode cX12_loadOf 27 = .ok (.invokevirtual 58, 3) := by decide +kernel
theorem dX12_loadOf_30 : decode cX12_loadOf 30 = .ok (.goto 4, 3) := by decide +kernel
theorem dX12_loadOf_33 : decode cX12_loadOf 33 = .ok (.iconst 0, 1) := by decide +kernel
theorem dX12_loadOf_34 : decode cX12_loadOf 34 = .ok (.iadd, 1) := by decide +kernel
theorem dX12_loadOf_35 : decode cX12_loadOf 35 = .ok (.istore_n 2, 1) := by decide +kernel
theorem dX12_loadOf_36 : decode cX12_loadOf 36 = .ok (.iinc 3 1, 3) := by decide +kernel
theorem dX12_loadOf_39 : decode cX12_loadOf 39 = .ok (.goto (-35), 3) := by decide +kernel
theorem dX12_loadOf_42 : decode cX12_loadOf 42 = .ok (.iload_n 2, 1) := by decide +kernel
theorem dX12_loadOf_43 : decode cX12_loadOf 43 = .ok (.ireturn, 1) := by decide +kernel
theorem dX12_whoIn_0 : decode cX12_whoIn 0 = .ok (.iconst 0, 1) := by decide +kernel
theorem dX12_whoIn_1 : decode cX12_whoIn 1 = .ok (.istore_n 2, 1) := by decide +kernel
theorem dX12_whoIn_2 : decode cX12_whoIn 2 = .ok (.iconst 0, 1) := by decide +kernel
theorem dX12_whoIn_3 : decode cX12_whoIn 3 = .ok (.istore_n 3, 1) := by decide +kernel
theorem dX12_whoIn_4 : decode cX12_whoIn 4 = .ok (.iload_n 3, 1) := by decide +kernel
theorem dX12_whoIn_5 : decode cX12_whoIn 5 = .ok (.aload_n 0, 1) := by decide +kernel
theorem dX12_whoIn_6 : decode cX12_whoIn 6 = .ok (.getfield 7, 3) := by decide +kernel
theorem dX12_whoIn_9 : decode cX12_whoIn 9 = .ok (.iconst 0, 1) := by decide +kernel
theorem dX12_whoIn_10 : decode cX12_whoIn 10 = .ok (.iaload, 1) := by decide +kernel
theorem dX12_whoIn_11 : decode cX12_whoIn 11 = .ok (.if_icmp .ge 29, 3) := by decide +kernel
theorem dX12_whoIn_14 : decode cX12_whoIn 14 = .ok (.iload_n 2, 1) := by decide +kernel
theorem dX12_whoIn_15 : decode cX12_whoIn 15 = .ok (.aload_n 0, 1) := by decide +kernel
theorem dX12_whoIn_16 : decode cX12_whoIn 16 = .ok (.iload_n 3, 1) := by decide +kernel
theorem dX12_whoIn_17 : decode cX12_whoIn 17 = .ok (.iconst 3, 1) := by decide +kernel
theorem dX12_whoIn_18 : decode cX12_whoIn 18 = .ok (.invokevirtual 54, 3) := by decide +kernel
theorem dX12_whoIn_21 : decode cX12_whoIn 21 = .ok (.iload_n 1, 1) := by decide +kernel
theorem dX12_whoIn_22 : decode cX12_whoIn 22 = .ok (.if_icmp .ne 9, 3) := by decide +kernel
theorem dX12_whoIn_25 : decode cX12_whoIn 25 = .ok (.iconst 1, 1) := by decide +kernel
theorem dX12_whoIn_26 : decode cX12_whoIn 26 = .ok (.iload_n 3, 1) := by decide +kernel
theorem dX12_whoIn_27 : decode cX12_whoIn 27 = .ok (.ishl, 1) := by decide +kernel
theorem dX12_whoIn_28 : decode cX12_whoIn 28 = .ok (.goto 4, 3) := by decide +kernel
theorem dX12_whoIn_31 : decode cX12_whoIn 31 = .ok (.iconst 0, 1) := by decide +kernel
theorem dX12_whoIn_32 : decode cX12_whoIn 32 = .ok (.ior, 1) := by decide +kernel
theorem dX12_whoIn_33 : decode cX12_whoIn 33 = .ok (.istore_n 2, 1) := by decide +kernel
theorem dX12_whoIn_34 : decode cX12_whoIn 34 = .ok (.iinc 3 1, 3) := by decide +kernel
theorem dX12_whoIn_37 : decode cX12_whoIn 37 = .ok (.goto (-33), 3) := by decide +kernel
theorem dX12_whoIn_40 : decode cX12_whoIn 40 = .ok (.iload_n 2, 1) := by decide +kernel
theorem dX12_whoIn_41 : decode cX12_whoIn 41 = .ok (.ireturn, 1) := by decide +kernel
theorem dX12_riders_0 : decode cX12_riders 0 = .ok (.iconst 0, 1) := by decide +kernel
theorem dX12_riders_1 : decode cX12_riders 1 = .ok (.istore_n 1, 1) := by decide +kernel
theorem dX12_riders_2 : decode cX12_riders 2 = .ok (.iconst 0, 1) := by decide +kernel
theorem dX12_riders_3 : decode cX12_riders 3 = .ok (.istore_n 2, 1) := by decide +kernel
theorem dX12_riders_4 : decode cX12_riders 4 = .ok (.iload_n 2, 1) := by decide +kernel
theorem dX12_riders_5 : decode cX12_riders 5 = .ok (.aload_n 0, 1) := by decide +kernel
theorem dX12_riders_6 : decode cX12_riders 6 = .ok (.getfield 7, 3) := by decide +kernel
theorem dX12_riders_9 : decode cX12_riders 9 = .ok (.iconst 0, 1) := by decide +kernel
theorem dX12_riders_10 : decode cX12_riders 10 = .ok (.iaload, 1) := by decide +kernel
theorem dX12_riders_11 : decode cX12_riders 11 = .ok (.if_icmp .ge 28, 3) := by decide +kernel
theorem dX12_riders_14 : decode cX12_riders 14 = .ok (.iload_n 1, 1) := by decide +kernel
theorem dX12_riders_15 : decode cX12_riders 15 = .ok (.aload_n 0, 1) := by decide +kernel
theorem dX12_riders_16 : decode cX12_riders 16 = .ok (.iload_n 2, 1) := by decide +kernel
theorem dX12_riders_17 : decode cX12_riders 17 = .ok (.iconst 3, 1) := by decide +kernel
theorem dX12_riders_18 : decode cX12_riders 18 = .ok (.invokevirtual 54, 3) := by decide +kernel
theorem dX12_riders_21 : decode cX12_riders 21 = .ok (.ifCond .ge 7, 3) := by decide +kernel
theorem dX12_riders_24 : decode cX12_riders 24 = .ok (.iconst 0, 1) := by decide +kernel
theorem dX12_riders_25 : decode cX12_riders 25 = .ok (.goto 6, 3) := by decide +kernel
theorem dX12_riders_28 : decode cX12_riders 28 = .ok (.iconst 1, 1) := by decide +kernel
theorem dX12_riders_29 : decode cX12_riders 29 = .ok (.iload_n 2, 1) := by decide +kernel
theorem dX12_riders_30 : decode cX12_riders 30 = .ok (.ishl, 1) := by decide +kernel
theorem dX12_riders_31 : decode cX12_riders 31 = .ok (.ior, 1) := by decide +kernel
theorem dX12_riders_32 : decode cX12_riders 32 = .ok (.istore_n 1, 1) := by decide +kernel
theorem dX12_riders_33 : decode cX12_riders 33 = .ok (.iinc 2 1, 3) := by decide +kernel
theorem dX12_riders_36 : decode cX12_riders 36 = .ok (.goto (-32), 3) := by decide +kernel
theorem dX12_riders_39 : decode cX12_riders 39 = .ok (.iload_n 1, 1) := by decide +kernel
theorem dX12_riders_40 : decode cX12_riders 40 = .ok (.ireturn, 1) := by decide +kernel
theorem dX12_comesIn_0 : decode cX12_comesIn 0 = .ok (.bipush 18, 2) := by decide +kernel
theorem dX12_comesIn_2 : decode cX12_comesIn 2 = .ok (.bipush 6, 2) := by decide +kernel
theorem dX12_comesIn_4 : decode cX12_comesIn 4 = .ok (.aload_n 0, 1) := by decide +kernel
theorem dX12_comesIn_5 : decode cX12_comesIn 5 = .ok (.getfield 7, 3) := by decide +kernel
theorem dX12_comesIn_8 : decode cX12_comesIn 8 = .ok (.iconst 0, 1) := by decide +kernel
theorem dX12_comesIn_9 : decode cX12_comesIn 9 = .ok (.iaload, 1) := by decide +kernel
theorem dX12_comesIn_10 : decode cX12_comesIn 10 = .ok (.imul, 1) := by decide +kernel
theorem dX12_comesIn_11 : decode cX12_comesIn 11 = .ok (.iadd, 1) := by decide +kernel
theorem dX12_comesIn_12 : decode cX12_comesIn 12 = .ok (.istore 5, 2) := by decide +kernel
theorem dX12_comesIn_14 : decode cX12_comesIn 14 = .ok (.aload_n 0, 1) := by decide +kernel
theorem dX12_comesIn_15 : decode cX12_comesIn 15 = .ok (.getfield 7, 3) := by decide +kernel
theorem dX12_comesIn_18 : decode cX12_comesIn 18 = .ok (.iload 5, 2) := by decide +kernel
theorem dX12_comesIn_20 : decode cX12_comesIn 20 = .ok (.iload_n 1, 1) := by decide +kernel
theorem dX12_comesIn_21 : decode cX12_comesIn 21 = .ok (.iastore, 1) := by decide +kernel
theorem dX12_comesIn_22 : decode cX12_comesIn 22 = .ok (.aload_n 0, 1) := by decide +kernel
theorem dX12_comesIn_23 : decode cX12_comesIn 23 = .ok (.getfield 7, 3) := by decide +kernel
theorem dX12_comesIn_26 : decode cX12_comesIn 26 = .ok (.iload 5, 2) := by decide +kernel
theorem dX12_comesIn_28 : decode cX12_comesIn 28 = .ok (.iconst 1, 1) := by decide +kernel
theorem dX12_comesIn_29 : decode cX12_comesIn 29 = .ok (.iadd, 1) := by decide +kernel
theorem dX12_comesIn_30 : decode cX12_comesIn 30 = .ok (.iload_n 2, 1) := by decide +kernel
theorem dX12_comesIn_31 : decode cX12_comesIn 31 = .ok (.iastore, 1) := by decide +kernel
theorem dX12_comesIn_32 : decode cX12_comesIn 32 = .ok (.aload_n 0, 1) := by decide +kernel
theorem dX12_comesIn_33 : decode cX12_comesIn 33 = .ok (.getfield 7, 3) := by decide +kernel
theorem dX12_comesIn_36 : decode cX12_comesIn 36 = .ok (.iload 5, 2) := by decide +kernel
theorem dX12_comesIn_38 : decode cX12_comesIn 38 = .ok (.iconst 2, 1) := by decide +kernel
theorem dX12_comesIn_39 : decode cX12_comesIn 39 = .ok (.iadd, 1) := by decide +kernel
theorem dX12_comesIn_40 : decode cX12_comesIn 40 = .ok (.iload_n 3, 1) := by decide +kernel
theorem dX12_comesIn_41 : decode cX12_comesIn 41 = .ok (.iastore, 1) := by decide +kernel
theorem dX12_comesIn_42 : decode cX12_comesIn 42 = .ok (.aload_n 0, 1) := by decide +kernel
theorem dX12_comesIn_43 : decode cX12_comesIn 43 = .ok (.getfield 7, 3) := by decide +kernel
theorem dX12_comesIn_46 : decode cX12_comesIn 46 = .ok (.iload 5, 2) := by decide +kernel
theorem dX12_comesIn_48 : decode cX12_comesIn 48 = .ok (.iconst 3, 1) := by decide +kernel
theorem dX12_comesIn_49 : decode cX12_comesIn 49 = .ok (.iadd, 1) := by decide +kernel
theorem dX12_comesIn_50 : decode cX12_comesIn 50 = .ok (.iconst (-1), 1) := by decide +kernel
theorem dX12_comesIn_51 : decode cX12_comesIn 51 = .ok (.iastore, 1) := by decide +kernel
theorem dX12_comesIn_52 : decode cX12_comesIn 52 = .ok (.aload_n 0, 1) := by decide +kernel
theorem dX12_comesIn_53 : decode cX12_comesIn 53 = .ok (.getfield 7, 3) := by decide +kernel
theorem dX12_comesIn_56 : decode cX12_comesIn 56 = .ok (.iload 5, 2) := by decide +kernel
theorem dX12_comesIn_58 : decode cX12_comesIn 58 = .ok (.iconst 4, 1) := by decide +kernel
theorem dX12_comesIn_59 : decode cX12_comesIn 59 = .ok (.iadd, 1) := by decide +kernel
theorem dX12_comesIn_60 : decode cX12_comesIn 60 = .ok (.iload 4, 2) := by decide +kernel
theorem dX12_comesIn_62 : decode cX12_comesIn 62 = .ok (.iastore, 1) := by decide +kernel
theorem dX12_comesIn_63 : decode cX12_comesIn 63 = .ok (.aload_n 0, 1) := by decide +kernel
theorem dX12_comesIn_64 : decode cX12_comesIn 64 = .ok (.getfield 7, 3) := by decide +kernel
theorem dX12_comesIn_67 : decode cX12_comesIn 67 = .ok (.iload 5, 2) := by decide +kernel
theorem dX12_comesIn_69 : decode cX12_comesIn 69 = .ok (.iconst 5, 1) := by decide +kernel
theorem dX12_comesIn_70 : decode cX12_comesIn 70 = .ok (.iadd, 1) := by decide +kernel
theorem dX12_comesIn_71 : decode cX12_comesIn 71 = .ok (.iconst 0, 1) := by decide +kernel
theorem dX12_comesIn_72 : decode cX12_comesIn 72 = .ok (.iastore, 1) := by decide +kernel
theorem dX12_comesIn_73 : decode cX12_comesIn 73 = .ok (.aload_n 0, 1) := by decide +kernel
theorem dX12_comesIn_74 : decode cX12_comesIn 74 = .ok (.getfield 7, 3) := by decide +kernel
theorem dX12_comesIn_77 : decode cX12_comesIn 77 = .ok (.iconst 0, 1) := by decide +kernel
theorem dX12_comesIn_78 : decode cX12_comesIn 78 = .ok (.dup2, 1) := by decide +kernel
theorem dX12_comesIn_79 : decode cX12_comesIn 79 = .ok (.iaload, 1) := by decide +kernel
theorem dX12_comesIn_80 : decode cX12_comesIn 80 = .ok (.iconst 1, 1) := by decide +kernel
theorem dX12_comesIn_81 : decode cX12_comesIn 81 = .ok (.iadd, 1) := by decide +kernel
theorem dX12_comesIn_82 : decode cX12_comesIn 82 = .ok (.iastore, 1) := by decide +kernel
theorem dX12_comesIn_83 : decode cX12_comesIn 83 = .ok (.aload_n 0, 1) := by decide +kernel
theorem dX12_comesIn_84 : decode cX12_comesIn 84 = .ok (.iconst 0, 1) := by decide +kernel
theorem dX12_comesIn_85 : decode cX12_comesIn 85 = .ok (.putfield 62, 3) := by decide +kernel
theorem dX12_comesIn_88 : decode cX12_comesIn 88 = .ok (.return_, 1) := by decide +kernel
theorem dX12_person_0 : decode cX12_person 0 = .ok (.iload_n 1, 1) := by decide +kernel
theorem dX12_person_1 : decode cX12_person 1 = .ok (.i2l, 1) := by decide +kernel
theorem dX12_person_2 : decode cX12_person 2 = .ok (.lconst 0, 1) := by decide +kernel
theorem dX12_person_3 : decode cX12_person 3 = .ok (.ldc2_w 66, 3) := by decide +kernel
theorem dX12_person_6 : decode cX12_person 6 = .ok (.invokestatic 44, 3) := by decide +kernel
theorem dX12_person_9 : decode cX12_person 9 = .ok (.ifCond .eq 31, 3) := by decide +kernel
theorem dX12_person_12 : decode cX12_person 12 = .ok (.iload_n 2, 1) := by decide +kernel
theorem dX12_person_13 : decode cX12_person 13 = .ok (.i2l, 1) := by decide +kernel
theorem dX12_person_14 : decode cX12_person 14 = .ok (.lconst 1, 1) := by decide +kernel
theorem dX12_person_15 : decode cX12_person 15 = .ok (.ldc2_w 68, 3) := by decide +kernel
theorem dX12_person_18 : decode cX12_person 18 = .ok (.invokestatic 44, 3) := by decide +kernel
theorem dX12_person_21 : decode cX12_person 21 = .ok (.ifCond .eq 19, 3) := by decide +kernel
theorem dX12_person_24 : decode cX12_person 24 = .ok (.aload_n 0, 1) := by decide +kernel
theorem dX12_person_25 : decode cX12_person 25 = .ok (.iload_n 3, 1) := by decide +kernel
theorem dX12_person_26 : decode cX12_person 26 = .ok (.invokevirtual 70, 3) := by decide +kernel
theorem dX12_person_29 : decode cX12_person 29 = .ok (.ifCond .eq 11, 3) := by decide +kernel
theorem dX12_person_32 : decode cX12_person 32 = .ok (.iload 4, 2) := by decide +kernel
theorem dX12_person_34 : decode cX12_person 34 = .ok (.invokestatic 74, 3) := by decide +kernel
theorem dX12_person_37 : decode cX12_person 37 = .ok (.ifCond .ne 5, 3) := by decide +kernel
theorem dX12_person_40 : decode cX12_person 40 = .ok (.iconst (-1), 1) := by decide +kernel
theorem dX12_person_41 : decode cX12_person 41 = .ok (.ireturn, 1) := by decide +kernel
theorem dX12_person_42 : decode cX12_person 42 = .ok (.aload_n 0, 1) := by decide +kernel
theorem dX12_person_43 : decode cX12_person 43 = .ok (.getfield 7, 3) := by decide +kernel
theorem dX12_person_46 : decode cX12_person 46 = .ok (.iconst 0, 1) := by decide +kernel
theorem dX12_person_47 : decode cX12_person 47 = .ok (.iaload, 1) := by decide +kernel
theorem dX12_person_48 : decode cX12_person 48 = .ok (.bipush 6, 2) := by decide +kernel
theorem dX12_person_50 : decode cX12_person 50 = .ok (.if_icmp .ne 6, 3) := by decide +kernel
theorem dX12_person_53 : decode cX12_person 53 = .ok (.bipush (-3), 2) := by decide +kernel
theorem dX12_person_55 : decode cX12_person 55 = .ok (.ireturn, 1) := by decide +kernel
theorem dX12_person_56 : decode cX12_person 56 = .ok (.aload_n 0, 1) := by decide +kernel
theorem dX12_person_57 : decode cX12_person 57 = .ok (.iload_n 1, 1) := by decide +kernel
theorem dX12_person_58 : decode cX12_person 58 = .ok (.iload_n 2, 1) := by decide +kernel
theorem dX12_person_59 : decode cX12_person 59 = .ok (.iload_n 3, 1) := by decide +kernel
theorem dX12_person_60 : decode cX12_person 60 = .ok (.iload 4, 2) := by decide +kernel
theorem dX12_person_62 : decode cX12_person 62 = .ok (.invokevirtual 77, 3) := by decide +kernel
theorem dX12_person_65 : decode cX12_person 65 = .ok (.aload_n 0, 1) := by decide +kernel
theorem dX12_person_66 : decode cX12_person 66 = .ok (.getfield 7, 3) := by decide +kernel
theorem dX12_person_69 : decode cX12_person 69 = .ok (.iconst 0, 1) := by decide +kernel
theorem dX12_person_70 : decode cX12_person 70 = .ok (.iaload, 1) := by decide +kernel
theorem dX12_person_71 : decode cX12_person 71 = .ok (.iconst 1, 1) := by decide +kernel
theorem dX12_person_72 : decode cX12_person 72 = .ok (.isub, 1) := by decide +kernel
theorem dX12_person_73 : decode cX12_person 73 = .ok (.ireturn, 1) := by decide +kernel
theorem dX12_of_0 : decode cX12_of 0 = .ok (.aload_n 0, 1) := by decide +kernel
theorem dX12_of_1 : decode cX12_of 1 = .ok (.iload_n 1, 1) := by decide +kernel
theorem dX12_of_2 : decode cX12_of 2 = .ok (.invokevirtual 81, 3) := by decide +kernel
theorem dX12_of_5 : decode cX12_of 5 = .ok (.ifCond .eq 15, 3) := by decide +kernel
theorem dX12_of_8 : decode cX12_of 8 = .ok (.iload_n 2, 1) := by decide +kernel
theorem dX12_of_9 : decode cX12_of 9 = .ok (.i2l, 1) := by decide +kernel
theorem dX12_of_10 : decode cX12_of 10 = .ok (.lconst 0, 1) := by decide +kernel
theorem dX12_of_11 : decode cX12_of 11 = .ok (.ldc2_w 84, 3) := by decide +kernel
theorem dX12_of_14 : decode cX12_of 14 = .ok (.invokestatic 44, 3) := by decide +kernel
theorem dX12_of_17 : decode cX12_of 17 = .ok (.ifCond .ne 5, 3) := by decide +kernel
theorem dX12_of_20 : decode cX12_of 20 = .ok (.iconst (-1), 1) := by decide +kernel
theorem dX12_of_21 : decode cX12_of 21 = .ok (.ireturn, 1) := by decide +kernel
theorem dX12_of_22 : decode cX12_of 22 = .ok (.aload_n 0, 1) := by decide +kernel
theorem dX12_of_23 : decode cX12_of 23 = .ok (.iload_n 1, 1) := by decide +kernel
theorem dX12_of_24 : decode cX12_of 24 = .ok (.iconst 3, 1) := by decide +kernel
theorem dX12_of_25 : decode cX12_of 25 = .ok (.invokevirtual 54, 3) := by decide +kernel
theorem dX12_of_28 : decode cX12_of 28 = .ok (.istore_n 3, 1) := by decide +kernel
theorem dX12_of_29 : decode cX12_of 29 = .ok (.iload_n 2, 1) := by decide +kernel
theorem dX12_of_30 : decode cX12_of 30 = .ok (.tableswitch 99 1 4 #[30, 36, 65, 76], 30) := by decide +kernel
theorem dX12_of_60 : decode cX12_of 60 = .ok (.aload_n 0, 1) := by decide +kernel
theorem dX12_of_61 : decode cX12_of 61 = .ok (.iload_n 1, 1) := by decide +kernel
theorem dX12_of_62 : decode cX12_of 62 = .ok (.invokevirtual 58, 3) := by decide +kernel
theorem dX12_of_65 : decode cX12_of 65 = .ok (.ireturn, 1) := by decide +kernel
theorem dX12_of_66 : decode cX12_of 66 = .ok (.iload_n 3, 1) := by decide +kernel
theorem dX12_of_67 : decode cX12_of 67 = .ok (.ifCond .ge 12, 3) := by decide +kernel
theorem dX12_of_70 : decode cX12_of 70 = .ok (.aload_n 0, 1) := by decide +kernel
theorem dX12_of_71 : decode cX12_of 71 = .ok (.iload_n 1, 1) := by decide +kernel
theorem dX12_of_72 : decode cX12_of 72 = .ok (.iconst 2, 1) := by decide +kernel
theorem dX12_of_73 : decode cX12_of 73 = .ok (.invokevirtual 54, 3) := by decide +kernel
theorem dX12_of_76 : decode cX12_of 76 = .ok (.goto 18, 3) := by decide +kernel
theorem dX12_of_79 : decode cX12_of 79 = .ok (.aload_n 0, 1) := by decide +kernel
theorem dX12_of_80 : decode cX12_of 80 = .ok (.aload_n 0, 1) := by decide +kernel
theorem dX12_of_81 : decode cX12_of 81 = .ok (.iload_n 3, 1) := by decide +kernel
theorem dX12_of_82 : decode cX12_of 82 = .ok (.aload_n 0, 1) := by decide +kernel
theorem dX12_of_83 : decode cX12_of 83 = .ok (.getfield 7, 3) := by decide +kernel
theorem dX12_of_86 : decode cX12_of 86 = .ok (.iconst 1, 1) := by decide +kernel
theorem dX12_of_87 : decode cX12_of 87 = .ok (.iaload, 1) := by decide +kernel
theorem dX12_of_88 : decode cX12_of 88 = .ok (.invokevirtual 86, 3) := by decide +kernel
theorem dX12_of_91 : decode cX12_of 91 = .ok (.invokevirtual 89, 3) := by decide +kernel
theorem dX12_of_94 : decode cX12_of 94 = .ok (.ireturn, 1) := by decide +kernel
theorem dX12_of_95 : decode cX12_of 95 = .ok (.iload_n 3, 1) := by decide +kernel
theorem dX12_of_96 : decode cX12_of 96 = .ok (.ifCond .ge 8, 3) := by decide +kernel
theorem dX12_of_99 : decode cX12_of 99 = .ok (.bipush (-4), 2) := by decide +kernel
theorem dX12_of_101 : decode cX12_of 101 = .ok (.goto 4, 3) := by decide +kernel
theorem dX12_of_104 : decode cX12_of 104 = .ok (.iload_n 3, 1) := by decide +kernel
theorem dX12_of_105 : decode cX12_of 105 = .ok (.ireturn, 1) := by decide +kernel
theorem dX12_of_106 : decode cX12_of 106 = .ok (.iload_n 3, 1) := by decide +kernel
theorem dX12_of_107 : decode cX12_of 107 = .ok (.ifCond .ge 12, 3) := by decide +kernel
theorem dX12_of_110 : decode cX12_of 110 = .ok (.aload_n 0, 1) := by decide +kernel
theorem dX12_of_111 : decode cX12_of 111 = .ok (.iload_n 1, 1) := by decide +kernel
theorem dX12_of_112 : decode cX12_of 112 = .ok (.iconst 4, 1) := by decide +kernel
theorem dX12_of_113 : decode cX12_of 113 = .ok (.invokevirtual 54, 3) := by decide +kernel
theorem dX12_of_116 : decode cX12_of 116 = .ok (.goto 12, 3) := by decide +kernel
theorem dX12_of_119 : decode cX12_of 119 = .ok (.aload_n 0, 1) := by decide +kernel
theorem dX12_of_120 : decode cX12_of 120 = .ok (.getfield 7, 3) := by decide +kernel
theorem dX12_of_123 : decode cX12_of 123 = .ok (.bipush 6, 2) := by decide +kernel
theorem dX12_of_125 : decode cX12_of 125 = .ok (.iload_n 3, 1) := by decide +kernel
theorem dX12_of_126 : decode cX12_of 126 = .ok (.iadd, 1) := by decide +kernel
theorem dX12_of_127 : decode cX12_of 127 = .ok (.iaload, 1) := by decide +kernel
theorem dX12_of_128 : decode cX12_of 128 = .ok (.ireturn, 1) := by decide +kernel
theorem dX12_of_129 : decode cX12_of 129 = .ok (.aload_n 0, 1) := by decide +kernel
theorem dX12_of_130 : decode cX12_of 130 = .ok (.iload_n 1, 1) := by decide +kernel
theorem dX12_of_131 : decode cX12_of 131 = .ok (.iload_n 2, 1) := by decide +kernel
theorem dX12_of_132 : decode cX12_of 132 = .ok (.invokevirtual 54, 3) := by decide +kernel
theorem dX12_of_135 : decode cX12_of 135 = .ok (.ireturn, 1) := by decide +kernel
theorem dX12_car_0 : decode cX12_car 0 = .ok (.aload_n 0, 1) := by decide +kernel
theorem dX12_car_1 : decode cX12_car 1 = .ok (.iload_n 1, 1) := by decide +kernel
theorem dX12_car_2 : decode cX12_car 2 = .ok (.invokevirtual 92, 3) := by decide +kernel
theorem dX12_car_5 : decode cX12_car 5 = .ok (.ifCond .eq 15, 3) := by decide +kernel
theorem dX12_car_8 : decode cX12_car 8 = .ok (.iload_n 2, 1) := by decide +kernel
theorem dX12_car_9 : decode cX12_car 9 = .ok (.i2l, 1) := by decide +kernel
theorem dX12_car_10 : decode cX12_car 10 = .ok (.lconst 0, 1) := by decide +kernel
theorem dX12_car_11 : decode cX12_car 11 = .ok (.ldc2_w 84, 3) := by decide +kernel
theorem dX12_car_14 : decode cX12_car 14 = .ok (.invokestatic 44, 3) := by decide +kernel
theorem dX12_car_17 : decode cX12_car 17 = .ok (.ifCond .ne 5, 3) := by decide +kernel
theorem dX12_car_20 : decode cX12_car 20 = .ok (.iconst (-1), 1) := by decide +kernel
theorem dX12_car_21 : decode cX12_car 21 = .ok (.ireturn, 1) := by decide +kernel
theorem dX12_car_22 : decode cX12_car 22 = .ok (.aload_n 0, 1) := by decide +kernel
theorem dX12_car_23 : decode cX12_car 23 = .ok (.iload_n 1, 1) := by decide +kernel
theorem dX12_car_24 : decode cX12_car 24 = .ok (.aload_n 0, 1) := by decide +kernel
theorem dX12_car_25 : decode cX12_car 25 = .ok (.getfield 7, 3) := by decide +kernel
theorem dX12_car_28 : decode cX12_car 28 = .ok (.iconst 1, 1) := by decide +kernel
theorem dX12_car_29 : decode cX12_car 29 = .ok (.iaload, 1) := by decide +kernel
theorem dX12_car_30 : decode cX12_car 30 = .ok (.invokevirtual 86, 3) := by decide +kernel
theorem dX12_car_33 : decode cX12_car 33 = .ok (.istore_n 3, 1) := by decide +kernel
theorem dX12_car_34 : decode cX12_car 34 = .ok (.iload_n 2, 1) := by decide +kernel
theorem dX12_car_35 : decode cX12_car 35 = .ok (.tableswitch 73 0 4 #[33, 43, 45, 51, 67], 33) := by decide +kernel
theorem dX12_car_68 : decode cX12_car 68 = .ok (.aload_n 0, 1) := by decide +kernel
theorem dX12_car_69 : decode cX12_car 69 = .ok (.getfield 7, 3) := by decide +kernel
theorem dX12_car_72 : decode cX12_car 72 = .ok (.bipush 6, 2) := by decide +kernel
theorem dX12_car_74 : decode cX12_car 74 = .ok (.iload_n 1, 1) := by decide +kernel
theorem dX12_car_75 : decode cX12_car 75 = .ok (.iadd, 1) := by decide +kernel
theorem dX12_car_76 : decode cX12_car 76 = .ok (.iaload, 1) := by decide +kernel
theorem dX12_car_77 : decode cX12_car 77 = .ok (.ireturn, 1) := by decide +kernel
theorem dX12_car_78 : decode cX12_car 78 = .ok (.iload_n 3, 1) := by decide +kernel
theorem dX12_car_79 : decode cX12_car 79 = .ok (.ireturn, 1) := by decide +kernel
theorem dX12_car_80 : decode cX12_car 80 = .ok (.aload_n 0, 1) := by decide +kernel
theorem dX12_car_81 : decode cX12_car 81 = .ok (.iload_n 3, 1) := by decide +kernel
theorem dX12_car_82 : decode cX12_car 82 = .ok (.invokevirtual 89, 3) := by decide +kernel
theorem dX12_car_85 : decode cX12_car 85 = .ok (.ireturn, 1) := by decide +kernel
theorem dX12_car_86 : decode cX12_car 86 = .ok (.iload_n 3, 1) := by decide +kernel
theorem dX12_car_87 : decode cX12_car 87 = .ok (.aload_n 0, 1) := by decide +kernel
theorem dX12_car_88 : decode cX12_car 88 = .ok (.getfield 7, 3) := by decide +kernel
theorem dX12_car_91 : decode cX12_car 91 = .ok (.iconst 2, 1) := by decide +kernel
theorem dX12_car_92 : decode cX12_car 92 = .ok (.iaload, 1) := by decide +kernel
theorem dX12_car_93 : decode cX12_car 93 = .ok (.if_icmp .ge 7, 3) := by decide +kernel
theorem dX12_car_96 : decode cX12_car 96 = .ok (.iconst 0, 1) := by decide +kernel
theorem dX12_car_97 : decode cX12_car 97 = .ok (.goto 4, 3) := by decide +kernel
theorem dX12_car_100 : decode cX12_car 100 = .ok (.iconst 1, 1) := by decide +kernel
theorem dX12_car_101 : decode cX12_car 101 = .ok (.ireturn, 1) := by decide +kernel
theorem dX12_car_102 : decode cX12_car 102 = .ok (.aload_n 0, 1) := by decide +kernel
theorem dX12_car_103 : decode cX12_car 103 = .ok (.iload_n 1, 1) := by decide +kernel
theorem dX12_car_104 : decode cX12_car 104 = .ok (.invokevirtual 95, 3) := by decide +kernel
theorem dX12_car_107 : decode cX12_car 107 = .ok (.ireturn, 1) := by decide +kernel
theorem dX12_car_108 : decode cX12_car 108 = .ok (.aload_n 0, 1) := by decide +kernel
theorem dX12_car_109 : decode cX12_car 109 = .ok (.iload_n 1, 1) := by decide +kernel
theorem dX12_car_110 : decode cX12_car 110 = .ok (.invokevirtual 98, 3) := by decide +kernel
theorem dX12_car_113 : decode cX12_car 113 = .ok (.ireturn, 1) := by decide +kernel
theorem dX12_day_0 : decode cX12_day 0 = .ok (.aload_n 0, 1) := by decide +kernel
theorem dX12_day_1 : decode cX12_day 1 = .ok (.iload_n 1, 1) := by decide +kernel
theorem dX12_day_2 : decode cX12_day 2 = .ok (.invokevirtual 92, 3) := by decide +kernel
theorem dX12_day_5 : decode cX12_day 5 = .ok (.ifCond .eq 10, 3) := by decide +kernel
theorem dX12_day_8 : decode cX12_day 8 = .ok (.iload_n 2, 1) := by decide +kernel
theorem dX12_day_9 : decode cX12_day 9 = .ok (.invokestatic 74, 3) := by decide +kernel
theorem dX12_day_12 : decode cX12_day 12 = .ok (.ifCond .ne 5, 3) := by decide +kernel
theorem dX12_day_15 : decode cX12_day 15 = .ok (.iconst (-1), 1) := by decide +kernel
theorem dX12_day_16 : decode cX12_day 16 = .ok (.ireturn, 1) := by decide +kernel
theorem dX12_day_17 : decode cX12_day 17 = .ok (.aload_n 0, 1) := by decide +kernel
theorem dX12_day_18 : decode cX12_day 18 = .ok (.getfield 7, 3) := by decide +kernel
theorem dX12_day_21 : decode cX12_day 21 = .ok (.bipush 6, 2) := by decide +kernel
theorem dX12_day_23 : decode cX12_day 23 = .ok (.iload_n 1, 1) := by decide +kernel
theorem dX12_day_24 : decode cX12_day 24 = .ok (.iadd, 1) := by decide +kernel
theorem dX12_day_25 : decode cX12_day 25 = .ok (.iaload, 1) := by decide +kernel
theorem dX12_day_26 : decode cX12_day 26 = .ok (.istore_n 3, 1) := by decide +kernel
theorem dX12_day_27 : decode cX12_day 27 = .ok (.aload_n 0, 1) := by decide +kernel
theorem dX12_day_28 : decode cX12_day 28 = .ok (.getfield 7, 3) := by decide +kernel
theorem dX12_day_31 : decode cX12_day 31 = .ok (.bipush 6, 2) := by decide +kernel
theorem dX12_day_33 : decode cX12_day 33 = .ok (.iload_n 1, 1) := by decide +kernel
theorem dX12_day_34 : decode cX12_day 34 = .ok (.iadd, 1) := by decide +kernel
theorem dX12_day_35 : decode cX12_day 35 = .ok (.iload_n 2, 1) := by decide +kernel
theorem dX12_day_36 : decode cX12_day 36 = .ok (.iastore, 1) := by decide +kernel
theorem dX12_day_37 : decode cX12_day 37 = .ok (.iload_n 3, 1) := by decide +kernel
theorem dX12_day_38 : decode cX12_day 38 = .ok (.ireturn, 1) := by decide +kernel
theorem dX12_rule_0 : decode cX12_rule 0 = .ok (.iload_n 1, 1) := by decide +kernel
theorem dX12_rule_1 : decode cX12_rule 1 = .ok (.ifCond .ne 18, 3) := by decide +kernel
theorem dX12_rule_4 : decode cX12_rule 4 = .ok (.iload_n 2, 1) := by decide +kernel
theorem dX12_rule_5 : decode cX12_rule 5 = .ok (.i2l, 1) := by decide +kernel
theorem dX12_rule_6 : decode cX12_rule 6 = .ok (.lconst 1, 1) := by decide +kernel
theorem dX12_rule_7 : decode cX12_rule 7 = .ok (.ldc2_w 101, 3) := by decide +kernel
theorem dX12_rule_10 : decode cX12_rule 10 = .ok (.invokestatic 44, 3) := by decide +kernel
theorem dX12_rule_13 : decode cX12_rule 13 = .ok (.ifCond .ne 27, 3) := by decide +kernel
theorem dX12_rule_16 : decode cX12_rule 16 = .ok (.goto 22, 3) := by decide +kernel
theorem dX12_rule_19 : decode cX12_rule 19 = .ok (.iload_n 1, 1) := by decide +kernel
theorem dX12_rule_20 : decode cX12_rule 20 = .ok (.iconst 1, 1) := by decide +kernel
theorem dX12_rule_21 : decode cX12_rule 21 = .ok (.if_icmp .ne 17, 3) := by decide +kernel
theorem dX12_rule_24 : decode cX12_rule 24 = .ok (.iload_n 2, 1) := by decide +kernel
theorem dX12_rule_25 : decode cX12_rule 25 = .ok (.i2l, 1) := by decide +kernel
theorem dX12_rule_26 : decode cX12_rule 26 = .ok (.ldc2_w 103, 3) := by decide +kernel
theorem dX12_rule_29 : decode cX12_rule 29 = .ok (.ldc2_w 105, 3) := by decide +kernel
theorem dX12_rule_32 : decode cX12_rule 32 = .ok (.invokestatic 44, 3) := by decide +kernel
theorem dX12_rule_35 : decode cX12_rule 35 = .ok (.ifCond .ne 5, 3) := by decide +kernel
theorem dX12_rule_38 : decode cX12_rule 38 = .ok (.iconst (-1), 1) := by decide +kernel
theorem dX12_rule_39 : decode cX12_rule 39 = .ok (.ireturn, 1) := by decide +kernel
theorem dX12_rule_40 : decode cX12_rule 40 = .ok (.aload_n 0, 1) := by decide +kernel
theorem dX12_rule_41 : decode cX12_rule 41 = .ok (.getfield 7, 3) := by decide +kernel
theorem dX12_rule_44 : decode cX12_rule 44 = .ok (.iconst 3, 1) := by decide +kernel
theorem dX12_rule_45 : decode cX12_rule 45 = .ok (.iload_n 1, 1) := by decide +kernel
theorem dX12_rule_46 : decode cX12_rule 46 = .ok (.iadd, 1) := by decide +kernel
theorem dX12_rule_47 : decode cX12_rule 47 = .ok (.iaload, 1) := by decide +kernel
theorem dX12_rule_48 : decode cX12_rule 48 = .ok (.istore_n 3, 1) := by decide +kernel
theorem dX12_rule_49 : decode cX12_rule 49 = .ok (.aload_n 0, 1) := by decide +kernel
theorem dX12_rule_50 : decode cX12_rule 50 = .ok (.getfield 7, 3) := by decide +kernel
theorem dX12_rule_53 : decode cX12_rule 53 = .ok (.iconst 3, 1) := by decide +kernel
theorem dX12_rule_54 : decode cX12_rule 54 = .ok (.iload_n 1, 1) := by decide +kernel
theorem dX12_rule_55 : decode cX12_rule 55 = .ok (.iadd, 1) := by decide +kernel
theorem dX12_rule_56 : decode cX12_rule 56 = .ok (.iload_n 2, 1) := by decide +kernel
theorem dX12_rule_57 : decode cX12_rule 57 = .ok (.iastore, 1) := by decide +kernel
theorem dX12_rule_58 : decode cX12_rule 58 = .ok (.iload_n 3, 1) := by decide +kernel
theorem dX12_rule_59 : decode cX12_rule 59 = .ok (.ireturn, 1) := by decide +kernel
theorem dX12_count_0 : decode cX12_count 0 = .ok (.iconst 0, 1) := by decide +kernel
theorem dX12_count_1 : decode cX12_count 1 = .ok (.istore_n 2, 1) := by decide +kernel
theorem dX12_count_2 : decode cX12_count 2 = .ok (.bipush (-4), 2) := by decide +kernel
theorem dX12_count_4 : decode cX12_count 4 = .ok (.istore_n 3, 1) := by decide +kernel
theorem dX12_count_5 : decode cX12_count 5 = .ok (.iconst 0, 1) := by decide +kernel
theorem dX12_count_6 : decode cX12_count 6 = .ok (.istore 4, 2) := by decide +kernel
theorem dX12_count_8 : decode cX12_count 8 = .ok (.iload 4, 2) := by decide +kernel
theorem dX12_count_10 : decode cX12_count 10 = .ok (.aload_n 0, 1) := by decide +kernel
theorem dX12_count_11 : decode cX12_count 11 = .ok (.getfield 7, 3) := by decide +kernel
theorem dX12_count_14 : decode cX12_count 14 = .ok (.iconst 0, 1) := by decide +kernel
theorem dX12_count_15 : decode cX12_count 15 = .ok (.iaload, 1) := by decide +kernel
theorem dX12_count_16 : decode cX12_count 16 = .ok (.if_icmp .ge 42, 3) := by decide +kernel
theorem dX12_count_19 : decode cX12_count 19 = .ok (.aload_n 0, 1) := by decide +kernel
theorem dX12_count_20 : decode cX12_count 20 = .ok (.iload 4, 2) := by decide +kernel
theorem dX12_count_22 : decode cX12_count 22 = .ok (.iconst 5, 1) := by decide +kernel
theorem dX12_count_23 : decode cX12_count 23 = .ok (.invokevirtual 54, 3) := by decide +kernel
theorem dX12_count_26 : decode cX12_count 26 = .ok (.istore 5, 2) := by decide +kernel
theorem dX12_count_28 : decode cX12_count 28 = .ok (.iload_n 2, 1) := by decide +kernel
theorem dX12_count_29 : decode cX12_count 29 = .ok (.iload 5, 2) := by decide +kernel
theorem dX12_count_31 : decode cX12_count 31 = .ok (.iadd, 1) := by decide +kernel
theorem dX12_count_32 : decode cX12_count 32 = .ok (.istore_n 2, 1) := by decide +kernel
theorem dX12_count_33 : decode cX12_count 33 = .ok (.iload_n 3, 1) := by decide +kernel
theorem dX12_count_34 : decode cX12_count 34 = .ok (.bipush (-4), 2) := by decide +kernel
theorem dX12_count_36 : decode cX12_count 36 = .ok (.if_icmp .eq 9, 3) := by decide +kernel
theorem dX12_count_39 : decode cX12_count 39 = .ok (.iload 5, 2) := by decide +kernel
theorem dX12_count_41 : decode cX12_count 41 = .ok (.iload_n 3, 1) := by decide +kernel
theorem dX12_count_42 : decode cX12_count 42 = .ok (.if_icmp .ge 8, 3) := by decide +kernel
theorem dX12_count_45 : decode cX12_count 45 = .ok (.iload 5, 2) := by decide +kernel
theorem dX12_count_47 : decode cX12_count 47 = .ok (.goto 4, 3) := by decide +kernel
theorem dX12_count_50 : decode cX12_count 50 = .ok (.iload_n 3, 1) := by decide +kernel
theorem dX12_count_51 : decode cX12_count 51 = .ok (.istore_n 3, 1) := by decide +kernel
theorem dX12_count_52 : decode cX12_count 52 = .ok (.iinc 4 1, 3) := by decide +kernel
theorem dX12_count_55 : decode cX12_count 55 = .ok (.goto (-47), 3) := by decide +kernel
theorem dX12_count_58 : decode cX12_count 58 = .ok (.iload_n 1, 1) := by decide +kernel
theorem dX12_count_59 : decode cX12_count 59 = .ok (.tableswitch 70 0 8 #[49, 49, 49, 49, 49, 56, 61, 66, 68], 49) := by decide +kernel
theorem dX12_count_108 : decode cX12_count 108 = .ok (.aload_n 0, 1) := by decide +kernel
theorem dX12_count_109 : decode cX12_count 109 = .ok (.getfield 7, 3) := by decide +kernel
theorem dX12_count_112 : decode cX12_count 112 = .ok (.iload_n 1, 1) := by decide +kernel
theorem dX12_count_113 : decode cX12_count 113 = .ok (.iaload, 1) := by decide +kernel
theorem dX12_count_114 : decode cX12_count 114 = .ok (.ireturn, 1) := by decide +kernel
theorem dX12_count_115 : decode cX12_count 115 = .ok (.aload_n 0, 1) := by decide +kernel
theorem dX12_count_116 : decode cX12_count 116 = .ok (.getfield 62, 3) := by decide +kernel
theorem dX12_count_119 : decode cX12_count 119 = .ok (.ireturn, 1) := by decide +kernel
theorem dX12_count_120 : decode cX12_count 120 = .ok (.aload_n 0, 1) := by decide +kernel
theorem dX12_count_121 : decode cX12_count 121 = .ok (.invokevirtual 107, 3) := by decide +kernel
theorem dX12_count_124 : decode cX12_count 124 = .ok (.ireturn, 1) := by decide +kernel
theorem dX12_count_125 : decode cX12_count 125 = .ok (.iload_n 2, 1) := by decide +kernel
theorem dX12_count_126 : decode cX12_count 126 = .ok (.ireturn, 1) := by decide +kernel
theorem dX12_count_127 : decode cX12_count 127 = .ok (.iload_n 3, 1) := by decide +kernel
theorem dX12_count_128 : decode cX12_count 128 = .ok (.ireturn, 1) := by decide +kernel
theorem dX12_count_129 : decode cX12_count 129 = .ok (.iconst (-1), 1) := by decide +kernel
theorem dX12_count_130 : decode cX12_count 130 = .ok (.ireturn, 1) := by decide +kernel
theorem dX12_type_0 : decode cX12_type 0 = .ok (.iload_n 1, 1) := by decide +kernel
theorem dX12_type_1 : decode cX12_type 1 = .ok (.i2l, 1) := by decide +kernel
theorem dX12_type_2 : decode cX12_type 2 = .ok (.ldc2_w 110, 3) := by decide +kernel
theorem dX12_type_5 : decode cX12_type 5 = .ok (.ldc2_w 112, 3) := by decide +kernel
theorem dX12_type_8 : decode cX12_type 8 = .ok (.invokestatic 44, 3) := by decide +kernel
theorem dX12_type_11 : decode cX12_type 11 = .ok (.ifCond .ne 5, 3) := by decide +kernel
theorem dX12_type_14 : decode cX12_type 14 = .ok (.iconst (-1), 1) := by decide +kernel
theorem dX12_type_15 : decode cX12_type 15 = .ok (.ireturn, 1) := by decide +kernel
theorem dX12_type_16 : decode cX12_type 16 = .ok (.aload_n 0, 1) := by decide +kernel
theorem dX12_type_17 : decode cX12_type 17 = .ok (.getfield 114, 3) := by decide +kernel
theorem dX12_type_20 : decode cX12_type 20 = .ok (.bipush 60, 2) := by decide +kernel
theorem dX12_type_22 : decode cX12_type 22 = .ok (.if_icmp .ne 6, 3) := by decide +kernel
theorem dX12_type_25 : decode cX12_type 25 = .ok (.bipush (-3), 2) := by decide +kernel
theorem dX12_type_27 : decode cX12_type 27 = .ok (.ireturn, 1) := by decide +kernel
theorem dX12_type_28 : decode cX12_type 28 = .ok (.aload_n 0, 1) := by decide +kernel
theorem dX12_type_29 : decode cX12_type 29 = .ok (.getfield 13, 3) := by decide +kernel
theorem dX12_type_32 : decode cX12_type 32 = .ok (.aload_n 0, 1) := by decide +kernel
theorem dX12_type_33 : decode cX12_type 33 = .ok (.getfield 114, 3) := by decide +kernel
theorem dX12_type_36 : decode cX12_type 36 = .ok (.iload_n 1, 1) := by decide +kernel
theorem dX12_type_37 : decode cX12_type 37 = .ok (.iastore, 1) := by decide +kernel
theorem dX12_type_38 : decode cX12_type 38 = .ok (.aload_n 0, 1) := by decide +kernel
theorem dX12_type_39 : decode cX12_type 39 = .ok (.dup, 1) := by decide +kernel
theorem dX12_type_40 : decode cX12_type 40 = .ok (.getfield 114, 3) := by decide +kernel
theorem dX12_type_43 : decode cX12_type 43 = .ok (.iconst 1, 1) := by decide +kernel
theorem dX12_type_44 : decode cX12_type 44 = .ok (.iadd, 1) := by decide +kernel
theorem dX12_type_45 : decode cX12_type 45 = .ok (.putfield 114, 3) := by decide +kernel
theorem dX12_type_48 : decode cX12_type 48 = .ok (.aload_n 0, 1) := by decide +kernel
theorem dX12_type_49 : decode cX12_type 49 = .ok (.getfield 114, 3) := by decide +kernel
theorem dX12_type_52 : decode cX12_type 52 = .ok (.ireturn, 1) := by decide +kernel
theorem dX12_here_0 : decode cX12_here 0 = .ok (.aload_n 0, 1) := by decide +kernel
theorem dX12_here_1 : decode cX12_here 1 = .ok (.getfield 117, 3) := by decide +kernel
theorem dX12_here_4 : decode cX12_here 4 = .ok (.aload_n 0, 1) := by decide +kernel
theorem dX12_here_5 : decode cX12_here 5 = .ok (.getfield 114, 3) := by decide +kernel
theorem dX12_here_8 : decode cX12_here 8 = .ok (.if_icmp .ge 30, 3) := by decide +kernel
theorem dX12_here_11 : decode cX12_here 11 = .ok (.aload_n 0, 1) := by decide +kernel
theorem dX12_here_12 : decode cX12_here 12 = .ok (.getfield 13, 3) := by decide +kernel
theorem dX12_here_15 : decode cX12_here 15 = .ok (.aload_n 0, 1) := by decide +kernel
theorem dX12_here_16 : decode cX12_here 16 = .ok (.getfield 117, 3) := by decide +kernel
theorem dX12_here_19 : decode cX12_here 19 = .ok (.iaload, 1) := by decide +kernel
theorem dX12_here_20 : decode cX12_here 20 = .ok (.bipush 32, 2) := by decide +kernel
theorem dX12_here_22 : decode cX12_here 22 = .ok (.if_icmp .ne 16, 3) := by decide +kernel
theorem dX12_here_25 : decode cX12_here 25 = .ok (.aload_n 0, 1) := by decide +kernel
theorem dX12_here_26 : decode cX12_here 26 = .ok (.dup, 1) := by decide +kernel
theorem dX12_here_27 : decode cX12_here 27 = .ok (.getfield 117, 3) := by decide +kernel
theorem dX12_here_30 : decode cX12_here 30 = .ok (.iconst 1, 1) := by decide +kernel
theorem dX12_here_31 : decode cX12_here 31 = .ok (.iadd, 1) := by decide +kernel
theorem dX12_here_32 : decode cX12_here 32 = .ok (.putfield 117, 3) := by decide +kernel
theorem dX12_here_35 : decode cX12_here 35 = .ok (.goto (-35), 3) := by decide +kernel
theorem dX12_here_38 : decode cX12_here 38 = .ok (.aload_n 0, 1) := by decide +kernel
theorem dX12_here_39 : decode cX12_here 39 = .ok (.getfield 117, 3) := by decide +kernel
theorem dX12_here_42 : decode cX12_here 42 = .ok (.aload_n 0, 1) := by decide +kernel
theorem dX12_here_43 : decode cX12_here 43 = .ok (.getfield 114, 3) := by decide +kernel
theorem dX12_here_46 : decode cX12_here 46 = .ok (.if_icmp .ge 15, 3) := by decide +kernel
theorem dX12_here_49 : decode cX12_here 49 = .ok (.aload_n 0, 1) := by decide +kernel
theorem dX12_here_50 : decode cX12_here 50 = .ok (.getfield 13, 3) := by decide +kernel
theorem dX12_here_53 : decode cX12_here 53 = .ok (.aload_n 0, 1) := by decide +kernel
theorem dX12_here_54 : decode cX12_here 54 = .ok (.getfield 117, 3) := by decide +kernel
theorem dX12_here_57 : decode cX12_here 57 = .ok (.iaload, 1) := by decide +kernel
theorem dX12_here_58 : decode cX12_here 58 = .ok (.goto 4, 3) := by decide +kernel
theorem dX12_here_61 : decode cX12_here 61 = .ok (.iconst 0, 1) := by decide +kernel
theorem dX12_here_62 : decode cX12_here 62 = .ok (.ireturn, 1) := by decide +kernel
theorem dX12_must_0 : decode cX12_must 0 = .ok (.aload_n 0, 1) := by decide +kernel
theorem dX12_must_1 : decode cX12_must 1 = .ok (.aload_n 0, 1) := by decide +kernel
theorem dX12_must_2 : decode cX12_must 2 = .ok (.getfield 120, 3) := by decide +kernel
theorem dX12_must_5 : decode cX12_must 5 = .ok (.ifCond .ne 7, 3) := by decide +kernel
theorem dX12_must_8 : decode cX12_must 8 = .ok (.iload_n 1, 1) := by decide +kernel
theorem dX12_must_9 : decode cX12_must 9 = .ok (.ifCond .ne 7, 3) := by decide +kernel
theorem dX12_must_12 : decode cX12_must 12 = .ok (.iconst 1, 1) := by decide +kernel
theorem dX12_must_13 : decode cX12_must 13 = .ok (.goto 4, 3) := by decide +kernel
theorem dX12_must_16 : decode cX12_must 16 = .ok (.iconst 0, 1) := by decide +kernel
theorem dX12_must_17 : decode cX12_must 17 = .ok (.putfield 120, 3) := by decide +kernel
theorem dX12_must_20 : decode cX12_must 20 = .ok (.return_, 1) := by decide +kernel
theorem dX12_takes_0 : decode cX12_takes 0 = .ok (.aload_n 0, 1) := by decide +kernel
theorem dX12_takes_1 : decode cX12_takes 1 = .ok (.aload_n 0, 1) := by decide +kernel
theorem dX12_takes_2 : decode cX12_takes 2 = .ok (.invokevirtual 124, 3) := by decide +kernel
theorem dX12_takes_5 : decode cX12_takes 5 = .ok (.iload_n 1, 1) := by decide +kernel
theorem dX12_takes_6 : decode cX12_takes 6 = .ok (.if_icmp .ne 7, 3) := by decide +kernel
theorem dX12_takes_9 : decode cX12_takes 9 = .ok (.iconst 1, 1) := by decide +kernel
theorem dX12_takes_10 : decode cX12_takes 10 = .ok (.goto 4, 3) := by decide +kernel
theorem dX12_takes_13 : decode cX12_takes 13 = .ok (.iconst 0, 1) := by decide +kernel
theorem dX12_takes_14 : decode cX12_takes 14 = .ok (.invokevirtual 127, 3) := by decide +kernel
theorem dX12_takes_17 : decode cX12_takes 17 = .ok (.aload_n 0, 1) := by decide +kernel
theorem dX12_takes_18 : decode cX12_takes 18 = .ok (.dup, 1) := by decide +kernel
theorem dX12_takes_19 : decode cX12_takes 19 = .ok (.getfield 117, 3) := by decide +kernel
theorem dX12_takes_22 : decode cX12_takes 22 = .ok (.aload_n 0, 1) := by decide +kernel
theorem dX12_takes_23 : decode cX12_takes 23 = .ok (.getfield 120, 3) := by decide +kernel
theorem dX12_takes_26 : decode cX12_takes 26 = .ok (.ifCond .eq 7, 3) := by decide +kernel
theorem dX12_takes_29 : decode cX12_takes 29 = .ok (.iconst 0, 1) := by decide +kernel
theorem dX12_takes_30 : decode cX12_takes 30 = .ok (.goto 4, 3) := by decide +kernel
theorem dX12_takes_33 : decode cX12_takes 33 = .ok (.iconst 1, 1) := by decide +kernel
theorem dX12_takes_34 : decode cX12_takes 34 = .ok (.iadd, 1) := by decide +kernel
theorem dX12_takes_35 : decode cX12_takes 35 = .ok (.putfield 117, 3) := by decide +kernel
theorem dX12_takes_38 : decode cX12_takes 38 = .ok (.return_, 1) := by decide +kernel
theorem dX12_digit_0 : decode cX12_digit 0 = .ok (.aload_n 0, 1) := by decide +kernel
theorem dX12_digit_1 : decode cX12_digit 1 = .ok (.getfield 120, 3) := by decide +kernel
theorem dX12_digit_4 : decode cX12_digit 4 = .ok (.ifCond .eq 7, 3) := by decide +kernel
theorem dX12_digit_7 : decode cX12_digit 7 = .ok (.iconst (-1), 1) := by decide +kernel
theorem dX12_digit_8 : decode cX12_digit 8 = .ok (.goto 10, 3) := by decide +kernel
theorem dX12_digit_11 : decode cX12_digit 11 = .ok (.aload_n 0, 1) := by decide +kernel
theorem dX12_digit_12 : decode cX12_digit 12 = .ok (.invokevirtual 124, 3) := by decide +kernel
theorem dX12_digit_15 : decode cX12_digit 15 = .ok (.bipush 48, 2) := by decide +kernel
theorem dX12_digit_17 : decode cX12_digit 17 = .ok (.isub, 1) := by decide +kernel
theorem dX12_digit_18 : decode cX12_digit 18 = .ok (.istore_n 3, 1) := by decide +kernel
theorem dX12_digit_19 : decode cX12_digit 19 = .ok (.aload_n 0, 1) := by decide +kernel
theorem dX12_digit_20 : decode cX12_digit 20 = .ok (.iload_n 3, 1) := by decide +kernel
theorem dX12_digit_21 : decode cX12_digit 21 = .ok (.i2l, 1) := by decide +kernel
theorem dX12_digit_22 : decode cX12_digit 22 = .ok (.iload_n 1, 1) := by decide +kernel
theorem dX12_digit_23 : decode cX12_digit 23 = .ok (.i2l, 1) := by decide +kernel
theorem dX12_digit_24 : decode cX12_digit 24 = .ok (.iload_n 2, 1) := by decide +kernel
theorem dX12_digit_25 : decode cX12_digit 25 = .ok (.i2l, 1) := by decide +kernel
theorem dX12_digit_26 : decode cX12_digit 26 = .ok (.invokestatic 44, 3) := by decide +kernel
theorem dX12_digit_29 : decode cX12_digit 29 = .ok (.invokevirtual 127, 3) := by decide +kernel
theorem dX12_digit_32 : decode cX12_digit 32 = .ok (.aload_n 0, 1) := by decide +kernel
theorem dX12_digit_33 : decode cX12_digit 33 = .ok (.dup, 1) := by decide +kernel
theorem dX12_digit_34 : decode cX12_digit 34 = .ok (.getfield 117, 3) := by decide +kernel
theorem dX12_digit_37 : decode cX12_digit 37 = .ok (.aload_n 0, 1) := by decide +kernel
theorem dX12_digit_38 : decode cX12_digit 38 = .ok (.getfield 120, 3) := by decide +kernel
theorem dX12_digit_41 : decode cX12_digit 41 = .ok (.ifCond .eq 7, 3) := by decide +kernel
theorem dX12_digit_44 : decode cX12_digit 44 = .ok (.iconst 0, 1) := by decide +kernel
theorem dX12_digit_45 : decode cX12_digit 45 = .ok (.goto 4, 3) := by decide +kernel
theorem dX12_digit_48 : decode cX12_digit 48 = .ok (.iconst 1, 1) := by decide +kernel
theorem dX12_digit_49 : decode cX12_digit 49 = .ok (.iadd, 1) := by decide +kernel
theorem dX12_digit_50 : decode cX12_digit 50 = .ok (.putfield 117, 3) := by decide +kernel
theorem dX12_digit_53 : decode cX12_digit 53 = .ok (.iload_n 3, 1) := by decide +kernel
theorem dX12_digit_54 : decode cX12_digit 54 = .ok (.ireturn, 1) := by decide +kernel
theorem dX12_readPerson_0 : decode cX12_readPerson 0 = .ok (.aload_n 0, 1) := by decide +kernel
theorem dX12_readPerson_1 : decode cX12_readPerson 1 = .ok (.invokevirtual 124, 3) := by decide +kernel
theorem dX12_readPerson_4 : decode cX12_readPerson 4 = .ok (.istore_n 3, 1) := by decide +kernel
theorem dX12_readPerson_5 : decode cX12_readPerson 5 = .ok (.iload_n 3, 1) := by decide +kernel
theorem dX12_readPerson_6 : decode cX12_readPerson 6 = .ok (.bipush 112, 2) := by decide +kernel
theorem dX12_readPerson_8 : decode cX12_readPerson 8 = .ok (.if_icmp .ne 7, 3) := by decide +kernel
theorem dX12_readPerson_11 : decode cX12_readPerson 11 = .ok (.iconst 0, 1) := by decide +kernel
theorem dX12_readPerson_12 : decode cX12_readPerson 12 = .ok (.goto 44, 3) := by decide +kernel
theorem dX12_readPerson_15 : decode cX12_readPerson 15 = .ok (.iload_n 3, 1) := by decide +kernel
theorem dX12_readPerson_16 : decode cX12_readPerson 16 = .ok (.bipush 115, 2) := by decide +kernel
theorem dX12_readPerson_18 : decode cX12_readPerson 18 = .ok (.if_icmp .ne 7, 3) := by decide +kernel
theorem dX12_readPerson_21 : decode cX12_readPerson 21 = .ok (.iconst 1, 1) := by decide +kernel
theorem dX12_readPerson_22 : decode cX12_readPerson 22 = .ok (.goto 34, 3) := by decide +kernel
theorem dX12_readPerson_25 : decode cX12_readPerson 25 = .ok (.iload_n 3, 1) := by decide +kernel
theorem dX12_readPerson_26 : decode cX12_readPerson 26 = .ok (.bipush 104, 2) := by decide +kernel
theorem dX12_readPerson_28 : decode cX12_readPerson 28 = .ok (.if_icmp .ne 7, 3) := by decide +kernel
theorem dX12_readPerson_31 : decode cX12_readPerson 31 = .ok (.iconst 2, 1) := by decide +kernel
theorem dX12_readPerson_32 : decode cX12_readPerson 32 = .ok (.goto 24, 3) := by decide +kernel
theorem dX12_readPerson_35 : decode cX12_readPerson 35 = .ok (.iload_n 3, 1) := by decide +kernel
theorem dX12_readPerson_36 : decode cX12_readPerson 36 = .ok (.bipush 107, 2) := by decide +kernel
theorem dX12_readPerson_38 : decode cX12_readPerson 38 = .ok (.if_icmp .ne 7, 3) := by decide +kernel
theorem dX12_readPerson_41 : decode cX12_readPerson 41 = .ok (.iconst 3, 1) := by decide +kernel
theorem dX12_readPerson_42 : decode cX12_readPerson 42 = .ok (.goto 14, 3) := by decide +kernel
theorem dX12_readPerson_45 : decode cX12_readPerson 45 = .ok (.iload_n 3, 1) := by decide +kernel
theorem dX12_readPerson_46 : decode cX12_readPerson 46 = .ok (.bipush 97, 2) := by decide +kernel
theorem dX12_readPerson_48 : decode cX12_readPerson 48 = .ok (.if_icmp .ne 7, 3) := by decide +kernel
theorem dX12_readPerson_51 : decode cX12_readPerson 51 = .ok (.iconst 4, 1) := by decide +kernel
theorem dX12_readPerson_52 : decode cX12_readPerson 52 = .ok (.goto 4, 3) := by decide +kernel
theorem dX12_readPerson_55 : decode cX12_readPerson 55 = .ok (.iconst (-1), 1) := by decide +kernel
theorem dX12_readPerson_56 : decode cX12_readPerson 56 = .ok (.istore 4, 2) := by decide +kernel
theorem dX12_readPerson_58 : decode cX12_readPerson 58 = .ok (.aload_n 0, 1) := by decide +kernel
theorem dX12_readPerson_59 : decode cX12_readPerson 59 = .ok (.iload 4, 2) := by decide +kernel
theorem dX12_readPerson_61 : decode cX12_readPerson 61 = .ok (.ifCond .lt 7, 3) := by decide +kernel
theorem dX12_readPerson_64 : decode cX12_readPerson 64 = .ok (.iconst 1, 1) := by decide +kernel
theorem dX12_readPerson_65 : decode cX12_readPerson 65 = .ok (.goto 4, 3) := by decide +kernel
theorem dX12_readPerson_68 : decode cX12_readPerson 68 = .ok (.iconst 0, 1) := by decide +kernel
theorem dX12_readPerson_69 : decode cX12_readPerson 69 = .ok (.invokevirtual 127, 3) := by decide +kernel
theorem dX12_readPerson_72 : decode cX12_readPerson 72 = .ok (.aload_n 0, 1) := by decide +kernel
theorem dX12_readPerson_73 : decode cX12_readPerson 73 = .ok (.dup, 1) := by decide +kernel
theorem dX12_readPerson_74 : decode cX12_readPerson 74 = .ok (.getfield 117, 3) := by decide +kernel
theorem dX12_readPerson_77 : decode cX12_readPerson 77 = .ok (.aload_n 0, 1) := by decide +kernel
theorem dX12_readPerson_78 : decode cX12_readPerson 78 = .ok (.getfield 120, 3) := by decide +kernel
theorem dX12_readPerson_81 : decode cX12_readPerson 81 = .ok (.ifCond .eq 7, 3) := by decide +kernel
theorem dX12_readPerson_84 : decode cX12_readPerson 84 = .ok (.iconst 0, 1) := by decide +kernel
theorem dX12_readPerson_85 : decode cX12_readPerson 85 = .ok (.goto 4, 3) := by decide +kernel
theorem dX12_readPerson_88 : decode cX12_readPerson 88 = .ok (.iconst 1, 1) := by decide +kernel
theorem dX12_readPerson_89 : decode cX12_readPerson 89 = .ok (.iadd, 1) := by decide +kernel
theorem dX12_readPerson_90 : decode cX12_readPerson 90 = .ok (.putfield 117, 3) := by decide +kernel
theorem dX12_readPerson_93 : decode cX12_readPerson 93 = .ok (.aload_n 0, 1) := by decide +kernel
theorem dX12_readPerson_94 : decode cX12_readPerson 94 = .ok (.iconst 1, 1) := by decide +kernel
theorem dX12_readPerson_95 : decode cX12_readPerson 95 = .ok (.bipush 9, 2) := by decide +kernel
theorem dX12_readPerson_97 : decode cX12_readPerson 97 = .ok (.invokevirtual 131, 3) := by decide +kernel
theorem dX12_readPerson_100 : decode cX12_readPerson 100 = .ok (.istore 5, 2) := by decide +kernel
theorem dX12_readPerson_102 : decode cX12_readPerson 102 = .ok (.aload_n 0, 1) := by decide +kernel
theorem dX12_readPerson_103 : decode cX12_readPerson 103 = .ok (.iconst 0, 1) := by decide +kernel
theorem dX12_readPerson_104 : decode cX12_readPerson 104 = .ok (.iload_n 2, 1) := by decide +kernel
theorem dX12_readPerson_105 : decode cX12_readPerson 105 = .ok (.iconst 1, 1) := by decide +kernel
theorem dX12_readPerson_106 : decode cX12_readPerson 106 = .ok (.isub, 1) := by decide +kernel
theorem dX12_readPerson_107 : decode cX12_readPerson 107 = .ok (.invokevirtual 131, 3) := by decide +kernel
theorem dX12_readPerson_110 : decode cX12_readPerson 110 = .ok (.istore 6, 2) := by decide +kernel
theorem dX12_readPerson_112 : decode cX12_readPerson 112 = .ok (.aload_n 0, 1) := by decide +kernel
theorem dX12_readPerson_113 : decode cX12_readPerson 113 = .ok (.iconst 0, 1) := by decide +kernel
theorem dX12_readPerson_114 : decode cX12_readPerson 114 = .ok (.bipush 6, 2) := by decide +kernel
theorem dX12_readPerson_116 : decode cX12_readPerson 116 = .ok (.invokevirtual 131, 3) := by decide +kernel
theorem dX12_readPerson_119 : decode cX12_readPerson 119 = .ok (.istore 7, 2) := by decide +kernel
theorem dX12_readPerson_121 : decode cX12_readPerson 121 = .ok (.aload_n 0, 1) := by decide +kernel
theorem dX12_readPerson_122 : decode cX12_readPerson 122 = .ok (.getfield 120, 3) := by decide +kernel
theorem dX12_readPerson_125 : decode cX12_readPerson 125 = .ok (.ifCond .ne 49, 3) := by decide +kernel
theorem dX12_readPerson_128 : decode cX12_readPerson 128 = .ok (.aload_n 0, 1) := by decide +kernel
theorem dX12_readPerson_129 : decode cX12_readPerson 129 = .ok (.getfield 19, 3) := by decide +kernel
theorem dX12_readPerson_132 : decode cX12_readPerson 132 = .ok (.iconst 4, 1) := by decide +kernel
theorem dX12_readPerson_133 : decode cX12_readPerson 133 = .ok (.iload_n 1, 1) := by decide +kernel
theorem dX12_readPerson_134 : decode cX12_readPerson 134 = .ok (.imul, 1) := by decide +kernel
theorem dX12_readPerson_135 : decode cX12_readPerson 135 = .ok (.iload 4, 2) := by decide +kernel
theorem dX12_readPerson_137 : decode cX12_readPerson 137 = .ok (.iastore, 1) := by decide +kernel
theorem dX12_readPerson_138 : decode cX12_readPerson 138 = .ok (.aload_n 0, 1) := by decide +kernel
theorem dX12_readPerson_139 : decode cX12_readPerson 139 = .ok (.getfield 19, 3) := by decide +kernel
theorem dX12_readPerson_142 : decode cX12_readPerson 142 = .ok (.iconst 4, 1) := by decide +kernel
theorem dX12_readPerson_143 : decode cX12_readPerson 143 = .ok (.iload_n 1, 1) := by decide +kernel
theorem dX12_readPerson_144 : decode cX12_readPerson 144 = .ok (.imul, 1) := by decide +kernel
theorem dX12_readPerson_145 : decode cX12_readPerson 145 = .ok (.iconst 1, 1) := by decide +kernel
theorem dX12_readPerson_146 : decode cX12_readPerson 146 = .ok (.iadd, 1) := by decide +kernel
theorem dX12_readPerson_147 : decode cX12_readPerson 147 = .ok (.iload 5, 2) := by decide +kernel
theorem dX12_readPerson_149 : decode cX12_readPerson 149 = .ok (.iastore, 1) := by decide +kernel
theorem dX12_readPerson_150 : decode cX12_readPerson 150 = .ok (.aload_n 0, 1) := by decide +kernel
theorem dX12_readPerson_151 : decode cX12_readPerson 151 = .ok (.getfield 19, 3) := by decide +kernel
theorem dX12_readPerson_154 : decode cX12_readPerson 154 = .ok (.iconst 4, 1) := by decide +kernel
theorem dX12_readPerson_155 : decode cX12_readPerson 155 = .ok (.iload_n 1, 1) := by decide +kernel
theorem dX12_readPerson_156 : decode cX12_readPerson 156 = .ok (.imul, 1) := by decide +kernel
theorem dX12_readPerson_157 : decode cX12_readPerson 157 = .ok (.iconst 2, 1) := by decide +kernel
theorem dX12_readPerson_158 : decode cX12_readPerson 158 = .ok (.iadd, 1) := by decide +kernel
theorem dX12_readPerson_159 : decode cX12_readPerson 159 = .ok (.iload 6, 2) := by decide +kernel
theorem dX12_readPerson_161 : decode cX12_readPerson 161 = .ok (.iastore, 1) := by decide +kernel
theorem dX12_readPerson_162 : decode cX12_readPerson 162 = .ok (.aload_n 0, 1) := by decide +kernel
theorem dX12_readPerson_163 : decode cX12_readPerson 163 = .ok (.getfield 19, 3) := by decide +kernel
theorem dX12_readPerson_166 : decode cX12_readPerson 166 = .ok (.iconst 4, 1) := by decide +kernel
theorem dX12_readPerson_167 : decode cX12_readPerson 167 = .ok (.iload_n 1, 1) := by decide +kernel
theorem dX12_readPerson_168 : decode cX12_readPerson 168 = .ok (.imul, 1) := by decide +kernel
theorem dX12_readPerson_169 : decode cX12_readPerson 169 = .ok (.iconst 3, 1) := by decide +kernel
theorem dX12_readPerson_170 : decode cX12_readPerson 170 = .ok (.iadd, 1) := by decide +kernel
theorem dX12_readPerson_171 : decode cX12_readPerson 171 = .ok (.iload 7, 2) := by decide +kernel
theorem dX12_readPerson_173 : decode cX12_readPerson 173 = .ok (.iastore, 1) := by decide +kernel
theorem dX12_readPerson_174 : decode cX12_readPerson 174 = .ok (.return_, 1) := by decide +kernel
theorem dX12_block_0 : decode cX12_block 0 = .ok (.aload_n 0, 1) := by decide +kernel
theorem dX12_block_1 : decode cX12_block 1 = .ok (.iconst 0, 1) := by decide +kernel
theorem dX12_block_2 : decode cX12_block 2 = .ok (.putfield 117, 3) := by decide +kernel
theorem dX12_block_5 : decode cX12_block 5 = .ok (.aload_n 0, 1) := by decide +kernel
theorem dX12_block_6 : decode cX12_block 6 = .ok (.iconst 0, 1) := by decide +kernel
theorem dX12_block_7 : decode cX12_block 7 = .ok (.putfield 120, 3) := by decide +kernel
theorem dX12_block_10 : decode cX12_block 10 = .ok (.aload_n 0, 1) := by decide +kernel
theorem dX12_block_11 : decode cX12_block 11 = .ok (.iconst 2, 1) := by decide +kernel
theorem dX12_block_12 : decode cX12_block 12 = .ok (.bipush 6, 2) := by decide +kernel
theorem dX12_block_14 : decode cX12_block 14 = .ok (.invokevirtual 131, 3) := by decide +kernel
theorem dX12_block_17 : decode cX12_block 17 = .ok (.istore_n 1, 1) := by decide +kernel
theorem dX12_block_18 : decode cX12_block 18 = .ok (.aload_n 0, 1) := by decide +kernel
theorem dX12_block_19 : decode cX12_block 19 = .ok (.bipush 59, 2) := by decide +kernel
theorem dX12_block_21 : decode cX12_block 21 = .ok (.invokevirtual 134, 3) := by decide +kernel
theorem dX12_block_24 : decode cX12_block 24 = .ok (.iconst 0, 1) := by decide +kernel
theorem dX12_block_25 : decode cX12_block 25 = .ok (.istore_n 2, 1) := by decide +kernel
theorem dX12_block_26 : decode cX12_block 26 = .ok (.iload_n 2, 1) := by decide +kernel
theorem dX12_block_27 : decode cX12_block 27 = .ok (.iconst 2, 1) := by decide +kernel
theorem dX12_block_28 : decode cX12_block 28 = .ok (.iload_n 1, 1) := by decide +kernel
theorem dX12_block_29 : decode cX12_block 29 = .ok (.imul, 1) := by decide +kernel
theorem dX12_block_30 : decode cX12_block 30 = .ok (.if_icmp .ge 29, 3) := by decide +kernel
theorem dX12_block_33 : decode cX12_block 33 = .ok (.aload_n 0, 1) := by decide +kernel
theorem dX12_block_34 : decode cX12_block 34 = .ok (.getfield 120, 3) := by decide +kernel
theorem dX12_block_37 : decode cX12_block 37 = .ok (.ifCond .ne 22, 3) := by decide +kernel
theorem dX12_block_40 : decode cX12_block 40 = .ok (.aload_n 0, 1) := by decide +kernel
theorem dX12_block_41 : decode cX12_block 41 = .ok (.getfield 16, 3) := by decide +kernel
theorem dX12_block_44 : decode cX12_block 44 = .ok (.iload_n 2, 1) := by decide +kernel
theorem dX12_block_45 : decode cX12_block 45 = .ok (.aload_n 0, 1) := by decide +kernel
theorem dX12_block_46 : decode cX12_block 46 = .ok (.iconst 0, 1) := by decide +kernel
theorem dX12_block_47 : decode cX12_block 47 = .ok (.bipush 6, 2) := by decide +kernel
theorem dX12_block_49 : decode cX12_block 49 = .ok (.invokevirtual 131, 3) := by decide +kernel
theorem dX12_block_52 : decode cX12_block 52 = .ok (.iastore, 1) := by decide +kernel
theorem dX12_block_53 : decode cX12_block 53 = .ok (.iinc 2 1, 3) := by decide +kernel
theorem dX12_block_56 : decode cX12_block 56 = .ok (.goto (-30), 3) := by decide +kernel
theorem dX12_block_59 : decode cX12_block 59 = .ok (.aload_n 0, 1) := by decide +kernel
theorem dX12_block_60 : decode cX12_block 60 = .ok (.bipush 59, 2) := by decide +kernel
theorem dX12_block_62 : decode cX12_block 62 = .ok (.invokevirtual 134, 3) := by decide +kernel
theorem dX12_block_65 : decode cX12_block 65 = .ok (.iconst 0, 1) := by decide +kernel
theorem dX12_block_66 : decode cX12_block 66 = .ok (.istore_n 2, 1) := by decide +kernel
theorem dX12_block_67 : decode cX12_block 67 = .ok (.aload_n 0, 1) := by decide +kernel
theorem dX12_block_68 : decode cX12_block 68 = .ok (.getfield 120, 3) := by decide +kernel
theorem dX12_block_71 : decode cX12_block 71 = .ok (.ifCond .ne 58, 3) := by decide +kernel
theorem dX12_block_74 : decode cX12_block 74 = .ok (.iload_n 2, 1) := by decide +kernel
theorem dX12_block_75 : decode cX12_block 75 = .ok (.ifCond .eq 10, 3) := by decide +kernel
theorem dX12_block_78 : decode cX12_block 78 = .ok (.aload_n 0, 1) := by decide +kernel
theorem dX12_block_79 : decode cX12_block 79 = .ok (.invokevirtual 124, 3) := by decide +kernel
theorem dX12_block_82 : decode cX12_block 82 = .ok (.ifCond .eq 47, 3) := by decide +kernel
theorem dX12_block_85 : decode cX12_block 85 = .ok (.iload_n 2, 1) := by decide +kernel
theorem dX12_block_86 : decode cX12_block 86 = .ok (.ifCond .le 24, 3) := by decide +kernel
theorem dX12_block_89 : decode cX12_block 89 = .ok (.aload_n 0, 1) := by decide +kernel
theorem dX12_block_90 : decode cX12_block 90 = .ok (.iload_n 2, 1) := by decide +kernel
theorem dX12_block_91 : decode cX12_block 91 = .ok (.bipush 6, 2) := by decide +kernel
theorem dX12_block_93 : decode cX12_block 93 = .ok (.if_icmp .ge 7, 3) := by decide +kernel
theorem dX12_block_96 : decode cX12_block 96 = .ok (.iconst 1, 1) := by decide +kernel
theorem dX12_block_97 : decode cX12_block 97 = .ok (.goto 4, 3) := by decide +kernel
theorem dX12_block_100 : decode cX12_block 100 = .ok (.iconst 0, 1) := by decide +kernel
theorem dX12_block_101 : decode cX12_block 101 = .ok (.invokevirtual 127, 3) := by decide +kernel
theorem dX12_block_104 : decode cX12_block 104 = .ok (.aload_n 0, 1) := by decide +kernel
theorem dX12_block_105 : decode cX12_block 105 = .ok (.bipush 44, 2) := by decide +kernel
theorem dX12_block_107 : decode cX12_block 107 = .ok (.invokevirtual 134, 3) := by decide +kernel
theorem dX12_block_110 : decode cX12_block 110 = .ok (.aload_n 0, 1) := by decide +kernel
theorem dX12_block_111 : decode cX12_block 111 = .ok (.getfield 120, 3) := by decide +kernel
theorem dX12_block_114 : decode cX12_block 114 = .ok (.ifCond .ne 9, 3) := by decide +kernel
theorem dX12_block_117 : decode cX12_block 117 = .ok (.aload_n 0, 1) := by decide +kernel
theorem dX12_block_118 : decode cX12_block 118 = .ok (.iload_n 2, 1) := by decide +kernel
theorem dX12_block_119 : decode cX12_block 119 = .ok (.iload_n 1, 1) := by decide +kernel
theorem dX12_block_120 : decode cX12_block 120 = .ok (.invokevirtual 138, 3) := by decide +kernel
theorem dX12_block_123 : decode cX12_block 123 = .ok (.iinc 2 1, 3) := by decide +kernel
theorem dX12_block_126 : decode cX12_block 126 = .ok (.goto (-59), 3) := by decide +kernel
theorem dX12_block_129 : decode cX12_block 129 = .ok (.aload_n 0, 1) := by decide +kernel
theorem dX12_block_130 : decode cX12_block 130 = .ok (.iconst 0, 1) := by decide +kernel
theorem dX12_block_131 : decode cX12_block 131 = .ok (.putfield 114, 3) := by decide +kernel
theorem dX12_block_134 : decode cX12_block 134 = .ok (.aload_n 0, 1) := by decide +kernel
theorem dX12_block_135 : decode cX12_block 135 = .ok (.getfield 120, 3) := by decide +kernel
theorem dX12_block_138 : decode cX12_block 138 = .ok (.ifCond .eq 11, 3) := by decide +kernel
theorem dX12_block_141 : decode cX12_block 141 = .ok (.bipush (-20), 2) := by decide +kernel
theorem dX12_block_143 : decode cX12_block 143 = .ok (.aload_n 0, 1) := by decide +kernel
theorem dX12_block_144 : decode cX12_block 144 = .ok (.getfield 117, 3) := by decide +kernel
theorem dX12_block_147 : decode cX12_block 147 = .ok (.isub, 1) := by decide +kernel
theorem dX12_block_148 : decode cX12_block 148 = .ok (.ireturn, 1) := by decide +kernel
theorem dX12_block_149 : decode cX12_block 149 = .ok (.aload_n 0, 1) := by decide +kernel
theorem dX12_block_150 : decode cX12_block 150 = .ok (.getfield 7, 3) := by decide +kernel
theorem dX12_block_153 : decode cX12_block 153 = .ok (.iconst 2, 1) := by decide +kernel
theorem dX12_block_154 : decode cX12_block 154 = .ok (.iload_n 1, 1) := by decide +kernel
theorem dX12_block_155 : decode cX12_block 155 = .ok (.iastore, 1) := by decide +kernel
theorem dX12_block_156 : decode cX12_block 156 = .ok (.aload_n 0, 1) := by decide +kernel
theorem dX12_block_157 : decode cX12_block 157 = .ok (.getfield 7, 3) := by decide +kernel
theorem dX12_block_160 : decode cX12_block 160 = .ok (.iconst 1, 1) := by decide +kernel
theorem dX12_block_161 : decode cX12_block 161 = .ok (.iconst 0, 1) := by decide +kernel
theorem dX12_block_162 : decode cX12_block 162 = .ok (.iastore, 1) := by decide +kernel
theorem dX12_block_163 : decode cX12_block 163 = .ok (.aload_n 0, 1) := by decide +kernel
theorem dX12_block_164 : decode cX12_block 164 = .ok (.getfield 7, 3) := by decide +kernel
theorem dX12_block_167 : decode cX12_block 167 = .ok (.iconst 0, 1) := by decide +kernel
theorem dX12_block_168 : decode cX12_block 168 = .ok (.iconst 0, 1) := by decide +kernel
theorem dX12_block_169 : decode cX12_block 169 = .ok (.iastore, 1) := by decide +kernel
theorem dX12_block_170 : decode cX12_block 170 = .ok (.iconst 0, 1) := by decide +kernel
theorem dX12_block_171 : decode cX12_block 171 = .ok (.istore_n 3, 1) := by decide +kernel
theorem dX12_block_172 : decode cX12_block 172 = .ok (.iload_n 3, 1) := by decide +kernel
theorem dX12_block_173 : decode cX12_block 173 = .ok (.iconst 2, 1) := by decide +kernel
theorem dX12_block_174 : decode cX12_block 174 = .ok (.iload_n 1, 1) := by decide +kernel
theorem dX12_block_175 : decode cX12_block 175 = .ok (.imul, 1) := by decide +kernel
theorem dX12_block_176 : decode cX12_block 176 = .ok (.if_icmp .ge 24, 3) := by decide +kernel
theorem dX12_block_179 : decode cX12_block 179 = .ok (.aload_n 0, 1) := by decide +kernel
theorem dX12_block_180 : decode cX12_block 180 = .ok (.getfield 7, 3) := by decide +kernel
theorem dX12_block_183 : decode cX12_block 183 = .ok (.bipush 6, 2) := by decide +kernel
theorem dX12_block_185 : decode cX12_block 185 = .ok (.iload_n 3, 1) := by decide +kernel
theorem dX12_block_186 : decode cX12_block 186 = .ok (.iadd, 1) := by decide +kernel
theorem dX12_block_187 : decode cX12_block 187 = .ok (.aload_n 0, 1) := by decide +kernel
theorem dX12_block_188 : decode cX12_block 188 = .ok (.getfield 16, 3) := by decide +kernel
theorem dX12_block_191 : decode cX12_block 191 = .ok (.iload_n 3, 1) := by decide +kernel
theorem dX12_block_192 : decode cX12_block 192 = .ok (.iaload, 1) := by decide +kernel
theorem dX12_block_193 : decode cX12_block 193 = .ok (.iastore, 1) := by decide +kernel
theorem dX12_block_194 : decode cX12_block 194 = .ok (.iinc 3 1, 3) := by decide +kernel
theorem dX12_block_197 : decode cX12_block 197 = .ok (.goto (-25), 3) := by decide +kernel
theorem dX12_block_200 : decode cX12_block 200 = .ok (.iconst 0, 1) := by decide +kernel
theorem dX12_block_201 : decode cX12_block 201 = .ok (.istore_n 3, 1) := by decide +kernel
theorem dX12_block_202 : decode cX12_block 202 = .ok (.iload_n 3, 1) := by decide +kernel
theorem dX12_block_203 : decode cX12_block 203 = .ok (.iload_n 2, 1) := by decide +kernel
theorem dX12_block_204 : decode cX12_block 204 = .ok (.if_icmp .ge 51, 3) := by decide +kernel
theorem dX12_block_207 : decode cX12_block 207 = .ok (.aload_n 0, 1) := by decide +kernel
theorem dX12_block_208 : decode cX12_block 208 = .ok (.aload_n 0, 1) := by decide +kernel
theorem dX12_block_209 : decode cX12_block 209 = .ok (.getfield 19, 3) := by decide +kernel
theorem dX12_block_212 : decode cX12_block 212 = .ok (.iconst 4, 1) := by decide +kernel
theorem dX12_block_213 : decode cX12_block 213 = .ok (.iload_n 3, 1) := by decide +kernel
theorem dX12_block_214 : decode cX12_block 214 = .ok (.imul, 1) := by decide +kernel
theorem dX12_block_215 : decode cX12_block 215 = .ok (.iaload, 1) := by decide +kernel
theorem dX12_block_216 : decode cX12_block 216 = .ok (.aload_n 0, 1) := by decide +kernel
theorem dX12_block_217 : decode cX12_block 217 = .ok (.getfield 19, 3) := by decide +kernel
theorem dX12_block_220 : decode cX12_block 220 = .ok (.iconst 4, 1) := by decide +kernel
theorem dX12_block_221 : decode cX12_block 221 = .ok (.iload_n 3, 1) := by decide +kernel
theorem dX12_block_222 : decode cX12_block 222 = .ok (.imul, 1) := by decide +kernel
theorem dX12_block_223 : decode cX12_block 223 = .ok (.iconst 1, 1) := by decide +kernel
theorem dX12_block_224 : decode cX12_block 224 = .ok (.iadd, 1) := by decide +kernel
theorem dX12_block_225 : decode cX12_block 225 = .ok (.iaload, 1) := by decide +kernel
theorem dX12_block_226 : decode cX12_block 226 = .ok (.aload_n 0, 1) := by decide +kernel
theorem dX12_block_227 : decode cX12_block 227 = .ok (.getfield 19, 3) := by decide +kernel
theorem dX12_block_230 : decode cX12_block 230 = .ok (.iconst 4, 1) := by decide +kernel
theorem dX12_block_231 : decode cX12_block 231 = .ok (.iload_n 3, 1) := by decide +kernel
theorem dX12_block_232 : decode cX12_block 232 = .ok (.imul, 1) := by decide +kernel
theorem dX12_block_233 : decode cX12_block 233 = .ok (.iconst 2, 1) := by decide +kernel
theorem dX12_block_234 : decode cX12_block 234 = .ok (.iadd, 1) := by decide +kernel
theorem dX12_block_235 : decode cX12_block 235 = .ok (.iaload, 1) := by decide +kernel
theorem dX12_block_236 : decode cX12_block 236 = .ok (.aload_n 0, 1) := by decide +kernel
theorem dX12_block_237 : decode cX12_block 237 = .ok (.getfield 19, 3) := by decide +kernel
theorem dX12_block_240 : decode cX12_block 240 = .ok (.iconst 4, 1) := by decide +kernel
theorem dX12_block_241 : decode cX12_block 241 = .ok (.iload_n 3, 1) := by decide +kernel
theorem dX12_block_242 : decode cX12_block 242 = .ok (.imul, 1) := by decide +kernel
theorem dX12_block_243 : decode cX12_block 243 = .ok (.iconst 3, 1) := by decide +kernel
theorem dX12_block_244 : decode cX12_block 244 = .ok (.iadd, 1) := by decide +kernel
theorem dX12_block_245 : decode cX12_block 245 = .ok (.iaload, 1) := by decide +kernel
theorem dX12_block_246 : decode cX12_block 246 = .ok (.invokevirtual 77, 3) := by decide +kernel
theorem dX12_block_249 : decode cX12_block 249 = .ok (.iinc 3 1, 3) := by decide +kernel
theorem dX12_block_252 : decode cX12_block 252 = .ok (.goto (-50), 3) := by decide +kernel
theorem dX12_block_255 : decode cX12_block 255 = .ok (.aload_n 0, 1) := by decide +kernel
theorem dX12_block_256 : decode cX12_block 256 = .ok (.iconst 0, 1) := by decide +kernel
theorem dX12_block_257 : decode cX12_block 257 = .ok (.putfield 62, 3) := by decide +kernel
theorem dX12_block_260 : decode cX12_block 260 = .ok (.iload_n 2, 1) := by decide +kernel
theorem dX12_block_261 : decode cX12_block 261 = .ok (.ireturn, 1) := by decide +kernel
theorem dX12_notes_0 : decode cX12_notes 0 = .ok (.aload_n 0, 1) := by decide +kernel
theorem dX12_notes_1 : decode cX12_notes 1 = .ok (.getfield 62, 3) := by decide +kernel
theorem dX12_notes_4 : decode cX12_notes 4 = .ok (.bipush 8, 2) := by decide +kernel
theorem dX12_notes_6 : decode cX12_notes 6 = .ok (.if_icmp .ne 40, 3) := by decide +kernel
theorem dX12_notes_9 : decode cX12_notes 9 = .ok (.bipush 54, 2) := by decide +kernel
theorem dX12_notes_11 : decode cX12_notes 11 = .ok (.istore_n 1, 1) := by decide +kernel
theorem dX12_notes_12 : decode cX12_notes 12 = .ok (.iload_n 1, 1) := by decide +kernel
theorem dX12_notes_13 : decode cX12_notes 13 = .ok (.sipush 432, 3) := by decide +kernel
theorem dX12_notes_16 : decode cX12_notes 16 = .ok (.if_icmp .ge 24, 3) := by decide +kernel
theorem dX12_notes_19 : decode cX12_notes 19 = .ok (.aload_n 0, 1) := by decide +kernel
theorem dX12_notes_20 : decode cX12_notes 20 = .ok (.getfield 22, 3) := by decide +kernel
theorem dX12_notes_23 : decode cX12_notes 23 = .ok (.iload_n 1, 1) := by decide +kernel
theorem dX12_notes_24 : decode cX12_notes 24 = .ok (.bipush 54, 2) := by decide +kernel
theorem dX12_notes_26 : decode cX12_notes 26 = .ok (.isub, 1) := by decide +kernel
theorem dX12_notes_27 : decode cX12_notes 27 = .ok (.aload_n 0, 1) := by decide +kernel
theorem dX12_notes_28 : decode cX12_notes 28 = .ok (.getfield 22, 3) := by decide +kernel
theorem dX12_notes_31 : decode cX12_notes 31 = .ok (.iload_n 1, 1) := by decide +kernel
theorem dX12_notes_32 : decode cX12_notes 32 = .ok (.iaload, 1) := by decide +kernel
theorem dX12_notes_33 : decode cX12_notes 33 = .ok (.iastore, 1) := by decide +kernel
theorem dX12_notes_34 : decode cX12_notes 34 = .ok (.iinc 1 1, 3) := by decide +kernel
theorem dX12_notes_37 : decode cX12_notes 37 = .ok (.goto (-25), 3) := by decide +kernel
theorem dX12_notes_40 : decode cX12_notes 40 = .ok (.aload_n 0, 1) := by decide +kernel
theorem dX12_notes_41 : decode cX12_notes 41 = .ok (.bipush 7, 2) := by decide +kernel
theorem dX12_notes_43 : decode cX12_notes 43 = .ok (.putfield 62, 3) := by decide +kernel
theorem dX12_notes_46 : decode cX12_notes 46 = .ok (.iconst 0, 1) := by decide +kernel
theorem dX12_notes_47 : decode cX12_notes 47 = .ok (.istore_n 1, 1) := by decide +kernel
theorem dX12_notes_48 : decode cX12_notes 48 = .ok (.iload_n 1, 1) := by decide +kernel
theorem dX12_notes_49 : decode cX12_notes 49 = .ok (.bipush 54, 2) := by decide +kernel
theorem dX12_notes_51 : decode cX12_notes 51 = .ok (.if_icmp .ge 29, 3) := by decide +kernel
theorem dX12_notes_54 : decode cX12_notes 54 = .ok (.aload_n 0, 1) := by decide +kernel
theorem dX12_notes_55 : decode cX12_notes 55 = .ok (.getfield 22, 3) := by decide +kernel
theorem dX12_notes_58 : decode cX12_notes 58 = .ok (.bipush 54, 2) := by decide +kernel
theorem dX12_notes_60 : decode cX12_notes 60 = .ok (.aload_n 0, 1) := by decide +kernel
theorem dX12_notes_61 : decode cX12_notes 61 = .ok (.getfield 62, 3) := by decide +kernel
theorem dX12_notes_64 : decode cX12_notes 64 = .ok (.imul, 1) := by decide +kernel
theorem dX12_notes_65 : decode cX12_notes 65 = .ok (.iload_n 1, 1) := by decide +kernel
theorem dX12_notes_66 : decode cX12_notes 66 = .ok (.iadd, 1) := by decide +kernel
theorem dX12_notes_67 : decode cX12_notes 67 = .ok (.aload_n 0, 1) := by decide +kernel
theorem dX12_notes_68 : decode cX12_notes 68 = .ok (.getfield 7, 3) := by decide +kernel
theorem dX12_notes_71 : decode cX12_notes 71 = .ok (.iload_n 1, 1) := by decide +kernel
theorem dX12_notes_72 : decode cX12_notes 72 = .ok (.iaload, 1) := by decide +kernel
theorem dX12_notes_73 : decode cX12_notes 73 = .ok (.iastore, 1) := by decide +kernel
theorem dX12_notes_74 : decode cX12_notes 74 = .ok (.iinc 1 1, 3) := by decide +kernel
theorem dX12_notes_77 : decode cX12_notes 77 = .ok (.goto (-29), 3) := by decide +kernel
theorem dX12_notes_80 : decode cX12_notes 80 = .ok (.aload_n 0, 1) := by decide +kernel
theorem dX12_notes_81 : decode cX12_notes 81 = .ok (.dup, 1) := by decide +kernel
theorem dX12_notes_82 : decode cX12_notes 82 = .ok (.getfield 62, 3) := by decide +kernel
theorem dX12_notes_85 : decode cX12_notes 85 = .ok (.iconst 1, 1) := by decide +kernel
theorem dX12_notes_86 : decode cX12_notes 86 = .ok (.iadd, 1) := by decide +kernel
theorem dX12_notes_87 : decode cX12_notes 87 = .ok (.putfield 62, 3) := by decide +kernel
theorem dX12_notes_90 : decode cX12_notes 90 = .ok (.return_, 1) := by decide +kernel
theorem dX12_in_0 : decode cX12_in 0 = .ok (.aload_n 0, 1) := by decide +kernel
theorem dX12_in_1 : decode cX12_in 1 = .ok (.iload_n 1, 1) := by decide +kernel
theorem dX12_in_2 : decode cX12_in 2 = .ok (.invokevirtual 81, 3) := by decide +kernel
theorem dX12_in_5 : decode cX12_in 5 = .ok (.ifCond .eq 13, 3) := by decide +kernel
theorem dX12_in_8 : decode cX12_in 8 = .ok (.iload_n 2, 1) := by decide +kernel
theorem dX12_in_9 : decode cX12_in 9 = .ok (.i2l, 1) := by decide +kernel
theorem dX12_in_10 : decode cX12_in 10 = .ok (.lconst 0, 1) := by decide +kernel
theorem dX12_in_11 : decode cX12_in 11 = .ok (.lconst 1, 1) := by decide +kernel
theorem dX12_in_12 : decode cX12_in 12 = .ok (.invokestatic 44, 3) := by decide +kernel
theorem dX12_in_15 : decode cX12_in 15 = .ok (.ifCond .ne 5, 3) := by decide +kernel
theorem dX12_in_18 : decode cX12_in 18 = .ok (.iconst (-1), 1) := by decide +kernel
theorem dX12_in_19 : decode cX12_in 19 = .ok (.ireturn, 1) := by decide +kernel
theorem dX12_in_20 : decode cX12_in 20 = .ok (.aload_n 0, 1) := by decide +kernel
theorem dX12_in_21 : decode cX12_in 21 = .ok (.iload_n 1, 1) := by decide +kernel
theorem dX12_in_22 : decode cX12_in 22 = .ok (.iconst 3, 1) := by decide +kernel
theorem dX12_in_23 : decode cX12_in 23 = .ok (.invokevirtual 54, 3) := by decide +kernel
theorem dX12_in_26 : decode cX12_in 26 = .ok (.ifCond .lt 6, 3) := by decide +kernel
theorem dX12_in_29 : decode cX12_in 29 = .ok (.bipush (-2), 2) := by decide +kernel
theorem dX12_in_31 : decode cX12_in 31 = .ok (.ireturn, 1) := by decide +kernel
theorem dX12_in_32 : decode cX12_in 32 = .ok (.aload_n 0, 1) := by decide +kernel
theorem dX12_in_33 : decode cX12_in 33 = .ok (.aload_n 0, 1) := by decide +kernel
theorem dX12_in_34 : decode cX12_in 34 = .ok (.aload_n 0, 1) := by decide +kernel
theorem dX12_in_35 : decode cX12_in 35 = .ok (.iload_n 1, 1) := by decide +kernel
theorem dX12_in_36 : decode cX12_in 36 = .ok (.iconst 2, 1) := by decide +kernel
theorem dX12_in_37 : decode cX12_in 37 = .ok (.invokevirtual 54, 3) := by decide +kernel
theorem dX12_in_40 : decode cX12_in 40 = .ok (.iload_n 2, 1) := by decide +kernel
theorem dX12_in_41 : decode cX12_in 41 = .ok (.invokevirtual 142, 3) := by decide +kernel
theorem dX12_in_44 : decode cX12_in 44 = .ok (.aload_n 0, 1) := by decide +kernel
theorem dX12_in_45 : decode cX12_in 45 = .ok (.getfield 7, 3) := by decide +kernel
theorem dX12_in_48 : decode cX12_in 48 = .ok (.iconst 1, 1) := by decide +kernel
theorem dX12_in_49 : decode cX12_in 49 = .ok (.iaload, 1) := by decide +kernel
theorem dX12_in_50 : decode cX12_in 50 = .ok (.invokevirtual 145, 3) := by decide +kernel
theorem dX12_in_53 : decode cX12_in 53 = .ok (.istore_n 3, 1) := by decide +kernel
theorem dX12_in_54 : decode cX12_in 54 = .ok (.aload_n 0, 1) := by decide +kernel
theorem dX12_in_55 : decode cX12_in 55 = .ok (.iload_n 1, 1) := by decide +kernel
theorem dX12_in_56 : decode cX12_in 56 = .ok (.iconst 0, 1) := by decide +kernel
theorem dX12_in_57 : decode cX12_in 57 = .ok (.invokevirtual 54, 3) := by decide +kernel
theorem dX12_in_60 : decode cX12_in 60 = .ok (.iconst 3, 1) := by decide +kernel
theorem dX12_in_61 : decode cX12_in 61 = .ok (.if_icmp .eq 26, 3) := by decide +kernel
theorem dX12_in_64 : decode cX12_in 64 = .ok (.aload_n 0, 1) := by decide +kernel
theorem dX12_in_65 : decode cX12_in 65 = .ok (.iload_n 3, 1) := by decide +kernel
theorem dX12_in_66 : decode cX12_in 66 = .ok (.invokevirtual 95, 3) := by decide +kernel
theorem dX12_in_69 : decode cX12_in 69 = .ok (.aload_n 0, 1) := by decide +kernel
theorem dX12_in_70 : decode cX12_in 70 = .ok (.iload_n 1, 1) := by decide +kernel
theorem dX12_in_71 : decode cX12_in 71 = .ok (.invokevirtual 58, 3) := by decide +kernel
theorem dX12_in_74 : decode cX12_in 74 = .ok (.iadd, 1) := by decide +kernel
theorem dX12_in_75 : decode cX12_in 75 = .ok (.aload_n 0, 1) := by decide +kernel
theorem dX12_in_76 : decode cX12_in 76 = .ok (.getfield 7, 3) := by decide +kernel
theorem dX12_in_79 : decode cX12_in 79 = .ok (.iconst 3, 1) := by decide +kernel
theorem dX12_in_80 : decode cX12_in 80 = .ok (.iaload, 1) := by decide +kernel
theorem dX12_in_81 : decode cX12_in 81 = .ok (.if_icmp .le 6, 3) := by decide +kernel
theorem dX12_in_84 : decode cX12_in 84 = .ok (.bipush (-3), 2) := by decide +kernel
theorem dX12_in_86 : decode cX12_in 86 = .ok (.ireturn, 1) := by decide +kernel
theorem dX12_in_87 : decode cX12_in 87 = .ok (.aload_n 0, 1) := by decide +kernel
theorem dX12_in_88 : decode cX12_in 88 = .ok (.invokevirtual 148, 3) := by decide +kernel
theorem dX12_in_91 : decode cX12_in 91 = .ok (.aload_n 0, 1) := by decide +kernel
theorem dX12_in_92 : decode cX12_in 92 = .ok (.getfield 7, 3) := by decide +kernel
theorem dX12_in_95 : decode cX12_in 95 = .ok (.bipush 18, 2) := by decide +kernel
theorem dX12_in_97 : decode cX12_in 97 = .ok (.bipush 6, 2) := by decide +kernel
theorem dX12_in_99 : decode cX12_in 99 = .ok (.iload_n 1, 1) := by decide +kernel
theorem dX12_in_100 : decode cX12_in 100 = .ok (.imul, 1) := by decide +kernel
theorem dX12_in_101 : decode cX12_in 101 = .ok (.iadd, 1) := by decide +kernel
theorem dX12_in_102 : decode cX12_in 102 = .ok (.iconst 3, 1) := by decide +kernel
theorem dX12_in_103 : decode cX12_in 103 = .ok (.iadd, 1) := by decide +kernel
theorem dX12_in_104 : decode cX12_in 104 = .ok (.iload_n 3, 1) := by decide +kernel
theorem dX12_in_105 : decode cX12_in 105 = .ok (.iastore, 1) := by decide +kernel
theorem dX12_in_106 : decode cX12_in 106 = .ok (.iload_n 3, 1) := by decide +kernel
theorem dX12_in_107 : decode cX12_in 107 = .ok (.ireturn, 1) := by decide +kernel
theorem dX12_getsOut_0 : decode cX12_getsOut 0 = .ok (.bipush 18, 2) := by decide +kernel
theorem dX12_getsOut_2 : decode cX12_getsOut 2 = .ok (.bipush 6, 2) := by decide +kernel
theorem dX12_getsOut_4 : decode cX12_getsOut 4 = .ok (.iload_n 1, 1) := by decide +kernel
theorem dX12_getsOut_5 : decode cX12_getsOut 5 = .ok (.imul, 1) := by decide +kernel
theorem dX12_getsOut_6 : decode cX12_getsOut 6 = .ok (.iadd, 1) := by decide +kernel
theorem dX12_getsOut_7 : decode cX12_getsOut 7 = .ok (.istore_n 2, 1) := by decide +kernel
theorem dX12_getsOut_8 : decode cX12_getsOut 8 = .ok (.aload_n 0, 1) := by decide +kernel
theorem dX12_getsOut_9 : decode cX12_getsOut 9 = .ok (.getfield 7, 3) := by decide +kernel
theorem dX12_getsOut_12 : decode cX12_getsOut 12 = .ok (.iload_n 2, 1) := by decide +kernel
theorem dX12_getsOut_13 : decode cX12_getsOut 13 = .ok (.iconst 3, 1) := by decide +kernel
theorem dX12_getsOut_14 : decode cX12_getsOut 14 = .ok (.iadd, 1) := by decide +kernel
theorem dX12_getsOut_15 : decode cX12_getsOut 15 = .ok (.iaload, 1) := by decide +kernel
theorem dX12_getsOut_16 : decode cX12_getsOut 16 = .ok (.istore_n 3, 1) := by decide +kernel
theorem dX12_getsOut_17 : decode cX12_getsOut 17 = .ok (.aload_n 0, 1) := by decide +kernel
theorem dX12_getsOut_18 : decode cX12_getsOut 18 = .ok (.getfield 7, 3) := by decide +kernel
theorem dX12_getsOut_21 : decode cX12_getsOut 21 = .ok (.iload_n 2, 1) := by decide +kernel
theorem dX12_getsOut_22 : decode cX12_getsOut 22 = .ok (.iconst 2, 1) := by decide +kernel
theorem dX12_getsOut_23 : decode cX12_getsOut 23 = .ok (.iadd, 1) := by decide +kernel
theorem dX12_getsOut_24 : decode cX12_getsOut 24 = .ok (.aload_n 0, 1) := by decide +kernel
theorem dX12_getsOut_25 : decode cX12_getsOut 25 = .ok (.aload_n 0, 1) := by decide +kernel
theorem dX12_getsOut_26 : decode cX12_getsOut 26 = .ok (.iload_n 3, 1) := by decide +kernel
theorem dX12_getsOut_27 : decode cX12_getsOut 27 = .ok (.aload_n 0, 1) := by decide +kernel
theorem dX12_getsOut_28 : decode cX12_getsOut 28 = .ok (.getfield 7, 3) := by decide +kernel
theorem dX12_getsOut_31 : decode cX12_getsOut 31 = .ok (.iconst 1, 1) := by decide +kernel
theorem dX12_getsOut_32 : decode cX12_getsOut 32 = .ok (.iaload, 1) := by decide +kernel
theorem dX12_getsOut_33 : decode cX12_getsOut 33 = .ok (.invokevirtual 86, 3) := by decide +kernel
theorem dX12_getsOut_36 : decode cX12_getsOut 36 = .ok (.invokevirtual 89, 3) := by decide +kernel
theorem dX12_getsOut_39 : decode cX12_getsOut 39 = .ok (.iastore, 1) := by decide +kernel
theorem dX12_getsOut_40 : decode cX12_getsOut 40 = .ok (.aload_n 0, 1) := by decide +kernel
theorem dX12_getsOut_41 : decode cX12_getsOut 41 = .ok (.getfield 7, 3) := by decide +kernel
theorem dX12_getsOut_44 : decode cX12_getsOut 44 = .ok (.iload_n 2, 1) := by decide +kernel
theorem dX12_getsOut_45 : decode cX12_getsOut 45 = .ok (.iconst 3, 1) := by decide +kernel
theorem dX12_getsOut_46 : decode cX12_getsOut 46 = .ok (.iadd, 1) := by decide +kernel
theorem dX12_getsOut_47 : decode cX12_getsOut 47 = .ok (.iconst (-1), 1) := by decide +kernel
theorem dX12_getsOut_48 : decode cX12_getsOut 48 = .ok (.iastore, 1) := by decide +kernel
theorem dX12_getsOut_49 : decode cX12_getsOut 49 = .ok (.aload_n 0, 1) := by decide +kernel
theorem dX12_getsOut_50 : decode cX12_getsOut 50 = .ok (.getfield 7, 3) := by decide +kernel
theorem dX12_getsOut_53 : decode cX12_getsOut 53 = .ok (.iload_n 2, 1) := by decide +kernel
theorem dX12_getsOut_54 : decode cX12_getsOut 54 = .ok (.iconst 4, 1) := by decide +kernel
theorem dX12_getsOut_55 : decode cX12_getsOut 55 = .ok (.iadd, 1) := by decide +kernel
theorem dX12_getsOut_56 : decode cX12_getsOut 56 = .ok (.aload_n 0, 1) := by decide +kernel
theorem dX12_getsOut_57 : decode cX12_getsOut 57 = .ok (.getfield 7, 3) := by decide +kernel
theorem dX12_getsOut_60 : decode cX12_getsOut 60 = .ok (.bipush 6, 2) := by decide +kernel
theorem dX12_getsOut_62 : decode cX12_getsOut 62 = .ok (.iload_n 3, 1) := by decide +kernel
theorem dX12_getsOut_63 : decode cX12_getsOut 63 = .ok (.iadd, 1) := by decide +kernel
theorem dX12_getsOut_64 : decode cX12_getsOut 64 = .ok (.iaload, 1) := by decide +kernel
theorem dX12_getsOut_65 : decode cX12_getsOut 65 = .ok (.iastore, 1) := by decide +kernel
theorem dX12_getsOut_66 : decode cX12_getsOut 66 = .ok (.return_, 1) := by decide +kernel
theorem dX12_out_0 : decode cX12_out 0 = .ok (.aload_n 0, 1) := by decide +kernel
theorem dX12_out_1 : decode cX12_out 1 = .ok (.iload_n 1, 1) := by decide +kernel
theorem dX12_out_2 : decode cX12_out 2 = .ok (.invokevirtual 81, 3) := by decide +kernel
theorem dX12_out_5 : decode cX12_out 5 = .ok (.ifCond .ne 5, 3) := by decide +kernel
theorem dX12_out_8 : decode cX12_out 8 = .ok (.iconst (-1), 1) := by decide +kernel
theorem dX12_out_9 : decode cX12_out 9 = .ok (.ireturn, 1) := by decide +kernel
theorem dX12_out_10 : decode cX12_out 10 = .ok (.aload_n 0, 1) := by decide +kernel
theorem dX12_out_11 : decode cX12_out 11 = .ok (.iload_n 1, 1) := by decide +kernel
theorem dX12_out_12 : decode cX12_out 12 = .ok (.iconst 3, 1) := by decide +kernel
theorem dX12_out_13 : decode cX12_out 13 = .ok (.invokevirtual 54, 3) := by decide +kernel
theorem dX12_out_16 : decode cX12_out 16 = .ok (.ifCond .ge 6, 3) := by decide +kernel
theorem dX12_out_19 : decode cX12_out 19 = .ok (.bipush (-2), 2) := by decide +kernel
theorem dX12_out_21 : decode cX12_out 21 = .ok (.ireturn, 1) := by decide +kernel
theorem dX12_out_22 : decode cX12_out 22 = .ok (.aload_n 0, 1) := by decide +kernel
theorem dX12_out_23 : decode cX12_out 23 = .ok (.invokevirtual 148, 3) := by decide +kernel
theorem dX12_out_26 : decode cX12_out 26 = .ok (.aload_n 0, 1) := by decide +kernel
theorem dX12_out_27 : decode cX12_out 27 = .ok (.iload_n 1, 1) := by decide +kernel
theorem dX12_out_28 : decode cX12_out 28 = .ok (.invokevirtual 151, 3) := by decide +kernel
theorem dX12_out_31 : decode cX12_out 31 = .ok (.aload_n 0, 1) := by decide +kernel
theorem dX12_out_32 : decode cX12_out 32 = .ok (.iload_n 1, 1) := by decide +kernel
theorem dX12_out_33 : decode cX12_out 33 = .ok (.iconst 2, 1) := by decide +kernel
theorem dX12_out_34 : decode cX12_out 34 = .ok (.invokevirtual 54, 3) := by decide +kernel
theorem dX12_out_37 : decode cX12_out 37 = .ok (.ireturn, 1) := by decide +kernel
theorem dX12_isTurnedOut_0 : decode cX12_isTurnedOut 0 = .ok (.iload_n 2, 1) := by decide +kernel
theorem dX12_isTurnedOut_1 : decode cX12_isTurnedOut 1 = .ok (.ifCond .ne 13, 3) := by decide +kernel
theorem dX12_isTurnedOut_4 : decode cX12_isTurnedOut 4 = .ok (.iload_n 1, 1) := by decide +kernel
theorem dX12_isTurnedOut_5 : decode cX12_isTurnedOut 5 = .ok (.iconst 1, 1) := by decide +kernel
theorem dX12_isTurnedOut_6 : decode cX12_isTurnedOut 6 = .ok (.if_icmp .eq 23, 3) := by decide +kernel
theorem dX12_isTurnedOut_9 : decode cX12_isTurnedOut 9 = .ok (.iload_n 1, 1) := by decide +kernel
theorem dX12_isTurnedOut_10 : decode cX12_isTurnedOut 10 = .ok (.iconst 4, 1) := by decide +kernel
theorem dX12_isTurnedOut_11 : decode cX12_isTurnedOut 11 = .ok (.if_icmp .eq 18, 3) := by decide +kernel
theorem dX12_isTurnedOut_14 : decode cX12_isTurnedOut 14 = .ok (.iload_n 2, 1) := by decide +kernel
theorem dX12_isTurnedOut_15 : decode cX12_isTurnedOut 15 = .ok (.aload_n 0, 1) := by decide +kernel
theorem dX12_isTurnedOut_16 : decode cX12_isTurnedOut 16 = .ok (.getfield 7, 3) := by decide +kernel
theorem dX12_isTurnedOut_19 : decode cX12_isTurnedOut 19 = .ok (.iconst 2, 1) := by decide +kernel
theorem dX12_isTurnedOut_20 : decode cX12_isTurnedOut 20 = .ok (.iaload, 1) := by decide +kernel
theorem dX12_isTurnedOut_21 : decode cX12_isTurnedOut 21 = .ok (.if_icmp .ne 12, 3) := by decide +kernel
theorem dX12_isTurnedOut_24 : decode cX12_isTurnedOut 24 = .ok (.iload_n 1, 1) := by decide +kernel
theorem dX12_isTurnedOut_25 : decode cX12_isTurnedOut 25 = .ok (.iconst 1, 1) := by decide +kernel
theorem dX12_isTurnedOut_26 : decode cX12_isTurnedOut 26 = .ok (.if_icmp .ne 7, 3) := by decide +kernel
theorem dX12_isTurnedOut_29 : decode cX12_isTurnedOut 29 = .ok (.iconst 1, 1) := by decide +kernel
theorem dX12_isTurnedOut_30 : decode cX12_isTurnedOut 30 = .ok (.goto 4, 3) := by decide +kernel
theorem dX12_isTurnedOut_33 : decode cX12_isTurnedOut 33 = .ok (.iconst 0, 1) := by decide +kernel
theorem dX12_isTurnedOut_34 : decode cX12_isTurnedOut 34 = .ok (.ireturn, 1) := by decide +kernel
theorem dX12_goesOn_0 : decode cX12_goesOn 0 = .ok (.aload_n 0, 1) := by decide +kernel
theorem dX12_goesOn_1 : decode cX12_goesOn 1 = .ok (.getfield 7, 3) := by decide +kernel
theorem dX12_goesOn_4 : decode cX12_goesOn 4 = .ok (.iconst 1, 1) := by decide +kernel
theorem dX12_goesOn_5 : decode cX12_goesOn 5 = .ok (.dup2, 1) := by decide +kernel
theorem dX12_goesOn_6 : decode cX12_goesOn 6 = .ok (.iaload, 1) := by decide +kernel
theorem dX12_goesOn_7 : decode cX12_goesOn 7 = .ok (.iconst 1, 1) := by decide +kernel
theorem dX12_goesOn_8 : decode cX12_goesOn 8 = .ok (.iadd, 1) := by decide +kernel
theorem dX12_goesOn_9 : decode cX12_goesOn 9 = .ok (.iastore, 1) := by decide +kernel
theorem dX12_goesOn_10 : decode cX12_goesOn 10 = .ok (.iconst 0, 1) := by decide +kernel
theorem dX12_goesOn_11 : decode cX12_goesOn 11 = .ok (.istore_n 1, 1) := by decide +kernel
theorem dX12_goesOn_12 : decode cX12_goesOn 12 = .ok (.iload_n 1, 1) := by decide +kernel
theorem dX12_goesOn_13 : decode cX12_goesOn 13 = .ok (.aload_n 0, 1) := by decide +kernel
theorem dX12_goesOn_14 : decode cX12_goesOn 14 = .ok (.getfield 7, 3) := by decide +kernel
theorem dX12_goesOn_17 : decode cX12_goesOn 17 = .ok (.iconst 0, 1) := by decide +kernel
theorem dX12_goesOn_18 : decode cX12_goesOn 18 = .ok (.iaload, 1) := by decide +kernel
theorem dX12_goesOn_19 : decode cX12_goesOn 19 = .ok (.if_icmp .ge 49, 3) := by decide +kernel
theorem dX12_goesOn_22 : decode cX12_goesOn 22 = .ok (.aload_n 0, 1) := by decide +kernel
theorem dX12_goesOn_23 : decode cX12_goesOn 23 = .ok (.iload_n 1, 1) := by decide +kernel
theorem dX12_goesOn_24 : decode cX12_goesOn 24 = .ok (.iconst 3, 1) := by decide +kernel
theorem dX12_goesOn_25 : decode cX12_goesOn 25 = .ok (.invokevirtual 54, 3) := by decide +kernel
theorem dX12_goesOn_28 : decode cX12_goesOn 28 = .ok (.istore_n 2, 1) := by decide +kernel
theorem dX12_goesOn_29 : decode cX12_goesOn 29 = .ok (.iload_n 2, 1) := by decide +kernel
theorem dX12_goesOn_30 : decode cX12_goesOn 30 = .ok (.ifCond .lt 32, 3) := by decide +kernel
theorem dX12_goesOn_33 : decode cX12_goesOn 33 = .ok (.aload_n 0, 1) := by decide +kernel
theorem dX12_goesOn_34 : decode cX12_goesOn 34 = .ok (.aload_n 0, 1) := by decide +kernel
theorem dX12_goesOn_35 : decode cX12_goesOn 35 = .ok (.iload_n 1, 1) := by decide +kernel
theorem dX12_goesOn_36 : decode cX12_goesOn 36 = .ok (.iconst 0, 1) := by decide +kernel
theorem dX12_goesOn_37 : decode cX12_goesOn 37 = .ok (.invokevirtual 54, 3) := by decide +kernel
theorem dX12_goesOn_40 : decode cX12_goesOn 40 = .ok (.aload_n 0, 1) := by decide +kernel
theorem dX12_goesOn_41 : decode cX12_goesOn 41 = .ok (.iload_n 2, 1) := by decide +kernel
theorem dX12_goesOn_42 : decode cX12_goesOn 42 = .ok (.aload_n 0, 1) := by decide +kernel
theorem dX12_goesOn_43 : decode cX12_goesOn 43 = .ok (.getfield 7, 3) := by decide +kernel
theorem dX12_goesOn_46 : decode cX12_goesOn 46 = .ok (.iconst 1, 1) := by decide +kernel
theorem dX12_goesOn_47 : decode cX12_goesOn 47 = .ok (.iaload, 1) := by decide +kernel
theorem dX12_goesOn_48 : decode cX12_goesOn 48 = .ok (.invokevirtual 86, 3) := by decide +kernel
theorem dX12_goesOn_51 : decode cX12_goesOn 51 = .ok (.invokevirtual 154, 3) := by decide +kernel
theorem dX12_goesOn_54 : decode cX12_goesOn 54 = .ok (.ifCond .eq 8, 3) := by decide +kernel
theorem dX12_goesOn_57 : decode cX12_goesOn 57 = .ok (.aload_n 0, 1) := by decide +kernel
theorem dX12_goesOn_58 : decode cX12_goesOn 58 = .ok (.iload_n 1, 1) := by decide +kernel
theorem dX12_goesOn_59 : decode cX12_goesOn 59 = .ok (.invokevirtual 151, 3) := by decide +kernel
theorem dX12_goesOn_62 : decode cX12_goesOn 62 = .ok (.iinc 1 1, 3) := by decide +kernel
theorem dX12_goesOn_65 : decode cX12_goesOn 65 = .ok (.goto (-53), 3) := by decide +kernel
theorem dX12_goesOn_68 : decode cX12_goesOn 68 = .ok (.iconst 0, 1) := by decide +kernel
theorem dX12_goesOn_69 : decode cX12_goesOn 69 = .ok (.istore_n 1, 1) := by decide +kernel
theorem dX12_goesOn_70 : decode cX12_goesOn 70 = .ok (.iload_n 1, 1) := by decide +kernel
theorem dX12_goesOn_71 : decode cX12_goesOn 71 = .ok (.aload_n 0, 1) := by decide +kernel
theorem dX12_goesOn_72 : decode cX12_goesOn 72 = .ok (.getfield 7, 3) := by decide +kernel
theorem dX12_goesOn_75 : decode cX12_goesOn 75 = .ok (.iconst 0, 1) := by decide +kernel
theorem dX12_goesOn_76 : decode cX12_goesOn 76 = .ok (.iaload, 1) := by decide +kernel
theorem dX12_goesOn_77 : decode cX12_goesOn 77 = .ok (.if_icmp .ge 75, 3) := by decide +kernel
theorem dX12_goesOn_80 : decode cX12_goesOn 80 = .ok (.aload_n 0, 1) := by decide +kernel
theorem dX12_goesOn_81 : decode cX12_goesOn 81 = .ok (.getfield 7, 3) := by decide +kernel
theorem dX12_goesOn_84 : decode cX12_goesOn 84 = .ok (.iconst 1, 1) := by decide +kernel
theorem dX12_goesOn_85 : decode cX12_goesOn 85 = .ok (.iaload, 1) := by decide +kernel
theorem dX12_goesOn_86 : decode cX12_goesOn 86 = .ok (.aload_n 0, 1) := by decide +kernel
theorem dX12_goesOn_87 : decode cX12_goesOn 87 = .ok (.getfield 7, 3) := by decide +kernel
theorem dX12_goesOn_90 : decode cX12_goesOn 90 = .ok (.iconst 4, 1) := by decide +kernel
theorem dX12_goesOn_91 : decode cX12_goesOn 91 = .ok (.iaload, 1) := by decide +kernel
theorem dX12_goesOn_92 : decode cX12_goesOn 92 = .ok (.irem, 1) := by decide +kernel
theorem dX12_goesOn_93 : decode cX12_goesOn 93 = .ok (.ifCond .ne 25, 3) := by decide +kernel
theorem dX12_goesOn_96 : decode cX12_goesOn 96 = .ok (.aload_n 0, 1) := by decide +kernel
theorem dX12_goesOn_97 : decode cX12_goesOn 97 = .ok (.iload_n 1, 1) := by decide +kernel
theorem dX12_goesOn_98 : decode cX12_goesOn 98 = .ok (.iconst 3, 1) := by decide +kernel
theorem dX12_goesOn_99 : decode cX12_goesOn 99 = .ok (.invokevirtual 54, 3) := by decide +kernel
theorem dX12_goesOn_102 : decode cX12_goesOn 102 = .ok (.ifCond .ge 16, 3) := by decide +kernel
theorem dX12_goesOn_105 : decode cX12_goesOn 105 = .ok (.aload_n 0, 1) := by decide +kernel
theorem dX12_goesOn_106 : decode cX12_goesOn 106 = .ok (.iload_n 1, 1) := by decide +kernel
theorem dX12_goesOn_107 : decode cX12_goesOn 107 = .ok (.iconst 2, 1) := by decide +kernel
theorem dX12_goesOn_108 : decode cX12_goesOn 108 = .ok (.invokevirtual 54, 3) := by decide +kernel
theorem dX12_goesOn_111 : decode cX12_goesOn 111 = .ok (.ifCond .ne 7, 3) := by decide +kernel
theorem dX12_goesOn_114 : decode cX12_goesOn 114 = .ok (.iconst 1, 1) := by decide +kernel
theorem dX12_goesOn_115 : decode cX12_goesOn 115 = .ok (.goto 4, 3) := by decide +kernel
theorem dX12_goesOn_118 : decode cX12_goesOn 118 = .ok (.iconst 0, 1) := by decide +kernel
theorem dX12_goesOn_119 : decode cX12_goesOn 119 = .ok (.istore_n 2, 1) := by decide +kernel
theorem dX12_goesOn_120 : decode cX12_goesOn 120 = .ok (.aload_n 0, 1) := by decide +kernel
theorem dX12_goesOn_121 : decode cX12_goesOn 121 = .ok (.getfield 7, 3) := by decide +kernel
theorem dX12_goesOn_124 : decode cX12_goesOn 124 = .ok (.bipush 18, 2) := by decide +kernel
theorem dX12_goesOn_126 : decode cX12_goesOn 126 = .ok (.bipush 6, 2) := by decide +kernel
theorem dX12_goesOn_128 : decode cX12_goesOn 128 = .ok (.iload_n 1, 1) := by decide +kernel
theorem dX12_goesOn_129 : decode cX12_goesOn 129 = .ok (.imul, 1) := by decide +kernel
theorem dX12_goesOn_130 : decode cX12_goesOn 130 = .ok (.iadd, 1) := by decide +kernel
theorem dX12_goesOn_131 : decode cX12_goesOn 131 = .ok (.iconst 5, 1) := by decide +kernel
theorem dX12_goesOn_132 : decode cX12_goesOn 132 = .ok (.iadd, 1) := by decide +kernel
theorem dX12_goesOn_133 : decode cX12_goesOn 133 = .ok (.dup2, 1) := by decide +kernel
theorem dX12_goesOn_134 : decode cX12_goesOn 134 = .ok (.iaload, 1) := by decide +kernel
theorem dX12_goesOn_135 : decode cX12_goesOn 135 = .ok (.iload_n 2, 1) := by decide +kernel
theorem dX12_goesOn_136 : decode cX12_goesOn 136 = .ok (.ifCond .eq 7, 3) := by decide +kernel
theorem dX12_goesOn_139 : decode cX12_goesOn 139 = .ok (.iconst 1, 1) := by decide +kernel
theorem dX12_goesOn_140 : decode cX12_goesOn 140 = .ok (.goto 4, 3) := by decide +kernel
theorem dX12_goesOn_143 : decode cX12_goesOn 143 = .ok (.iconst 0, 1) := by decide +kernel
theorem dX12_goesOn_144 : decode cX12_goesOn 144 = .ok (.iadd, 1) := by decide +kernel
theorem dX12_goesOn_145 : decode cX12_goesOn 145 = .ok (.iastore, 1) := by decide +kernel
theorem dX12_goesOn_146 : decode cX12_goesOn 146 = .ok (.iinc 1 1, 3) := by decide +kernel
theorem dX12_goesOn_149 : decode cX12_goesOn 149 = .ok (.goto (-79), 3) := by decide +kernel
theorem dX12_goesOn_152 : decode cX12_goesOn 152 = .ok (.return_, 1) := by decide +kernel
theorem dX12_steps_0 : decode cX12_steps 0 = .ok (.iload_n 1, 1) := by decide +kernel
theorem dX12_steps_1 : decode cX12_steps 1 = .ok (.i2l, 1) := by decide +kernel
theorem dX12_steps_2 : decode cX12_steps 2 = .ok (.lconst 1, 1) := by decide +kernel
theorem dX12_steps_3 : decode cX12_steps 3 = .ok (.ldc2_w 101, 3) := by decide +kernel
theorem dX12_steps_6 : decode cX12_steps 6 = .ok (.invokestatic 44, 3) := by decide +kernel
theorem dX12_steps_9 : decode cX12_steps 9 = .ok (.ifCond .ne 5, 3) := by decide +kernel
theorem dX12_steps_12 : decode cX12_steps 12 = .ok (.iconst (-1), 1) := by decide +kernel
theorem dX12_steps_13 : decode cX12_steps 13 = .ok (.ireturn, 1) := by decide +kernel
theorem dX12_steps_14 : decode cX12_steps 14 = .ok (.aload_n 0, 1) := by decide +kernel
theorem dX12_steps_15 : decode cX12_steps 15 = .ok (.getfield 7, 3) := by decide +kernel
theorem dX12_steps_18 : decode cX12_steps 18 = .ok (.iconst 1, 1) := by decide +kernel
theorem dX12_steps_19 : decode cX12_steps 19 = .ok (.iaload, 1) := by decide +kernel
theorem dX12_steps_20 : decode cX12_steps 20 = .ok (.iload_n 1, 1) := by decide +kernel
theorem dX12_steps_21 : decode cX12_steps 21 = .ok (.iadd, 1) := by decide +kernel
theorem dX12_steps_22 : decode cX12_steps 22 = .ok (.sipush 9999, 3) := by decide +kernel
theorem dX12_steps_25 : decode cX12_steps 25 = .ok (.if_icmp .le 6, 3) := by decide +kernel
theorem dX12_steps_28 : decode cX12_steps 28 = .ok (.bipush (-3), 2) := by decide +kernel
theorem dX12_steps_30 : decode cX12_steps 30 = .ok (.ireturn, 1) := by decide +kernel
theorem dX12_steps_31 : decode cX12_steps 31 = .ok (.iconst 0, 1) := by decide +kernel
theorem dX12_steps_32 : decode cX12_steps 32 = .ok (.istore_n 2, 1) := by decide +kernel
theorem dX12_steps_33 : decode cX12_steps 33 = .ok (.iload_n 2, 1) := by decide +kernel
theorem dX12_steps_34 : decode cX12_steps 34 = .ok (.iload_n 1, 1) := by decide +kernel
theorem dX12_steps_35 : decode cX12_steps 35 = .ok (.if_icmp .ge 17, 3) := by decide +kernel
theorem dX12_steps_38 : decode cX12_steps 38 = .ok (.aload_n 0, 1) := by decide +kernel
theorem dX12_steps_39 : decode cX12_steps 39 = .ok (.invokevirtual 148, 3) := by decide +kernel
theorem dX12_steps_42 : decode cX12_steps 42 = .ok (.aload_n 0, 1) := by decide +kernel
theorem dX12_steps_43 : decode cX12_steps 43 = .ok (.invokevirtual 158, 3) := by decide +kernel
theorem dX12_steps_46 : decode cX12_steps 46 = .ok (.iinc 2 1, 3) := by decide +kernel
theorem dX12_steps_49 : decode cX12_steps 49 = .ok (.goto (-16), 3) := by decide +kernel
theorem dX12_steps_52 : decode cX12_steps 52 = .ok (.aload_n 0, 1) := by decide +kernel
theorem dX12_steps_53 : decode cX12_steps 53 = .ok (.invokevirtual 107, 3) := by decide +kernel
theorem dX12_steps_56 : decode cX12_steps 56 = .ok (.ireturn, 1) := by decide +kernel
theorem dX12_size_0 : decode cX12_size 0 = .ok (.iconst 0, 1) := by decide +kernel
theorem dX12_size_1 : decode cX12_size 1 = .ok (.istore_n 1, 1) := by decide +kernel
theorem dX12_size_2 : decode cX12_size 2 = .ok (.iload_n 0, 1) := by decide +kernel
theorem dX12_size_3 : decode cX12_size 3 = .ok (.istore_n 2, 1) := by decide +kernel
theorem dX12_size_4 : decode cX12_size 4 = .ok (.iload_n 2, 1) := by decide +kernel
theorem dX12_size_5 : decode cX12_size 5 = .ok (.ifCond .eq 15, 3) := by decide +kernel
theorem dX12_size_8 : decode cX12_size 8 = .ok (.iinc 1 1, 3) := by decide +kernel
theorem dX12_size_11 : decode cX12_size 11 = .ok (.iload_n 2, 1) := by decide +kernel
theorem dX12_size_12 : decode cX12_size 12 = .ok (.iload_n 2, 1) := by decide +kernel
theorem dX12_size_13 : decode cX12_size 13 = .ok (.iconst 1, 1) := by decide +kernel
theorem dX12_size_14 : decode cX12_size 14 = .ok (.isub, 1) := by decide +kernel
theorem dX12_size_15 : decode cX12_size 15 = .ok (.iand, 1) := by decide +kernel
theorem dX12_size_16 : decode cX12_size 16 = .ok (.istore_n 2, 1) := by decide +kernel
theorem dX12_size_17 : decode cX12_size 17 = .ok (.goto (-13), 3) := by decide +kernel
theorem dX12_size_20 : decode cX12_size 20 = .ok (.iload_n 1, 1) := by decide +kernel
theorem dX12_size_21 : decode cX12_size 21 = .ok (.ireturn, 1) := by decide +kernel
theorem dX12_drift_0 : decode cX12_drift 0 = .ok (.iload_n 1, 1) := by decide +kernel
theorem dX12_drift_1 : decode cX12_drift 1 = .ok (.i2l, 1) := by decide +kernel
theorem dX12_drift_2 : decode cX12_drift 2 = .ok (.lconst 1, 1) := by decide +kernel
theorem dX12_drift_3 : decode cX12_drift 3 = .ok (.ldc2_w 101, 3) := by decide +kernel
theorem dX12_drift_6 : decode cX12_drift 6 = .ok (.invokestatic 44, 3) := by decide +kernel
theorem dX12_drift_9 : decode cX12_drift 9 = .ok (.ifCond .ne 5, 3) := by decide +kernel
theorem dX12_drift_12 : decode cX12_drift 12 = .ok (.iconst (-1), 1) := by decide +kernel
theorem dX12_drift_13 : decode cX12_drift 13 = .ok (.ireturn, 1) := by decide +kernel
theorem dX12_drift_14 : decode cX12_drift 14 = .ok (.aload_n 0, 1) := by decide +kernel
theorem dX12_drift_15 : decode cX12_drift 15 = .ok (.getfield 7, 3) := by decide +kernel
theorem dX12_drift_18 : decode cX12_drift 18 = .ok (.iconst 1, 1) := by decide +kernel
theorem dX12_drift_19 : decode cX12_drift 19 = .ok (.iaload, 1) := by decide +kernel
theorem dX12_drift_20 : decode cX12_drift 20 = .ok (.iload_n 1, 1) := by decide +kernel
theorem dX12_drift_21 : decode cX12_drift 21 = .ok (.iadd, 1) := by decide +kernel
theorem dX12_drift_22 : decode cX12_drift 22 = .ok (.sipush 9999, 3) := by decide +kernel
theorem dX12_drift_25 : decode cX12_drift 25 = .ok (.if_icmp .le 6, 3) := by decide +kernel
