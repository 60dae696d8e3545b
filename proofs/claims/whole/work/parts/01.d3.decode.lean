theorem dX12_drift_28 : decode cX12_drift 28 = .ok (.bipush (-3), 2) := by decide +kernel
theorem dX12_drift_30 : decode cX12_drift 30 = .ok (.ireturn, 1) := by decide +kernel
theorem dX12_drift_31 : decode cX12_drift 31 = .ok (.iconst 0, 1) := by decide +kernel
theorem dX12_drift_32 : decode cX12_drift 32 = .ok (.istore_n 2, 1) := by decide +kernel
theorem dX12_drift_33 : decode cX12_drift 33 = .ok (.iconst 0, 1) := by decide +kernel
theorem dX12_drift_34 : decode cX12_drift 34 = .ok (.istore_n 3, 1) := by decide +kernel
theorem dX12_drift_35 : decode cX12_drift 35 = .ok (.iload_n 3, 1) := by decide +kernel
theorem dX12_drift_36 : decode cX12_drift 36 = .ok (.iload_n 1, 1) := by decide +kernel
theorem dX12_drift_37 : decode cX12_drift 37 = .ok (.if_icmp .ge 71, 3) := by decide +kernel
theorem dX12_drift_40 : decode cX12_drift 40 = .ok (.aload_n 0, 1) := by decide +kernel
theorem dX12_drift_41 : decode cX12_drift 41 = .ok (.invokevirtual 148, 3) := by decide +kernel
theorem dX12_drift_44 : decode cX12_drift 44 = .ok (.aload_n 0, 1) := by decide +kernel
theorem dX12_drift_45 : decode cX12_drift 45 = .ok (.getfield 7, 3) := by decide +kernel
theorem dX12_drift_48 : decode cX12_drift 48 = .ok (.iconst 5, 1) := by decide +kernel
theorem dX12_drift_49 : decode cX12_drift 49 = .ok (.aload_n 0, 1) := by decide +kernel
theorem dX12_drift_50 : decode cX12_drift 50 = .ok (.getfield 7, 3) := by decide +kernel
theorem dX12_drift_53 : decode cX12_drift 53 = .ok (.iconst 5, 1) := by decide +kernel
theorem dX12_drift_54 : decode cX12_drift 54 = .ok (.iaload, 1) := by decide +kernel
theorem dX12_drift_55 : decode cX12_drift 55 = .ok (.i2l, 1) := by decide +kernel
theorem dX12_drift_56 : decode cX12_drift 56 = .ok (.ldc2_w 161, 3) := by decide +kernel
theorem dX12_drift_59 : decode cX12_drift 59 = .ok (.lmul, 1) := by decide +kernel
theorem dX12_drift_60 : decode cX12_drift 60 = .ok (.ldc2_w 163, 3) := by decide +kernel
theorem dX12_drift_63 : decode cX12_drift 63 = .ok (.ladd, 1) := by decide +kernel
theorem dX12_drift_64 : decode cX12_drift 64 = .ok (.ldc2_w 165, 3) := by decide +kernel
theorem dX12_drift_67 : decode cX12_drift 67 = .ok (.land, 1) := by decide +kernel
theorem dX12_drift_68 : decode cX12_drift 68 = .ok (.l2i, 1) := by decide +kernel
theorem dX12_drift_69 : decode cX12_drift 69 = .ok (.iastore, 1) := by decide +kernel
theorem dX12_drift_70 : decode cX12_drift 70 = .ok (.aload_n 0, 1) := by decide +kernel
theorem dX12_drift_71 : decode cX12_drift 71 = .ok (.getfield 7, 3) := by decide +kernel
theorem dX12_drift_74 : decode cX12_drift 74 = .ok (.iconst 5, 1) := by decide +kernel
theorem dX12_drift_75 : decode cX12_drift 75 = .ok (.iaload, 1) := by decide +kernel
theorem dX12_drift_76 : decode cX12_drift 76 = .ok (.ldc 167, 2) := by decide +kernel
theorem dX12_drift_78 : decode cX12_drift 78 = .ok (.idiv, 1) := by decide +kernel
theorem dX12_drift_79 : decode cX12_drift 79 = .ok (.bipush 12, 2) := by decide +kernel
theorem dX12_drift_81 : decode cX12_drift 81 = .ok (.irem, 1) := by decide +kernel
theorem dX12_drift_82 : decode cX12_drift 82 = .ok (.aload_n 0, 1) := by decide +kernel
theorem dX12_drift_83 : decode cX12_drift 83 = .ok (.invokevirtual 107, 3) := by decide +kernel
theorem dX12_drift_86 : decode cX12_drift 86 = .ok (.invokestatic 168, 3) := by decide +kernel
theorem dX12_drift_89 : decode cX12_drift 89 = .ok (.if_icmp .ge 9, 3) := by decide +kernel
theorem dX12_drift_92 : decode cX12_drift 92 = .ok (.iinc 2 1, 3) := by decide +kernel
theorem dX12_drift_95 : decode cX12_drift 95 = .ok (.goto 7, 3) := by decide +kernel
theorem dX12_drift_98 : decode cX12_drift 98 = .ok (.aload_n 0, 1) := by decide +kernel
theorem dX12_drift_99 : decode cX12_drift 99 = .ok (.invokevirtual 158, 3) := by decide +kernel
theorem dX12_drift_102 : decode cX12_drift 102 = .ok (.iinc 3 1, 3) := by decide +kernel
theorem dX12_drift_105 : decode cX12_drift 105 = .ok (.goto (-70), 3) := by decide +kernel
theorem dX12_drift_108 : decode cX12_drift 108 = .ok (.iload_n 2, 1) := by decide +kernel
theorem dX12_drift_109 : decode cX12_drift 109 = .ok (.ireturn, 1) := by decide +kernel
theorem dX12_undo_0 : decode cX12_undo 0 = .ok (.aload_n 0, 1) := by decide +kernel
theorem dX12_undo_1 : decode cX12_undo 1 = .ok (.getfield 62, 3) := by decide +kernel
theorem dX12_undo_4 : decode cX12_undo 4 = .ok (.ifCond .ne 6, 3) := by decide +kernel
theorem dX12_undo_7 : decode cX12_undo 7 = .ok (.bipush (-4), 2) := by decide +kernel
theorem dX12_undo_9 : decode cX12_undo 9 = .ok (.ireturn, 1) := by decide +kernel
theorem dX12_undo_10 : decode cX12_undo 10 = .ok (.aload_n 0, 1) := by decide +kernel
theorem dX12_undo_11 : decode cX12_undo 11 = .ok (.dup, 1) := by decide +kernel
theorem dX12_undo_12 : decode cX12_undo 12 = .ok (.getfield 62, 3) := by decide +kernel
theorem dX12_undo_15 : decode cX12_undo 15 = .ok (.iconst 1, 1) := by decide +kernel
theorem dX12_undo_16 : decode cX12_undo 16 = .ok (.isub, 1) := by decide +kernel
theorem dX12_undo_17 : decode cX12_undo 17 = .ok (.putfield 62, 3) := by decide +kernel
theorem dX12_undo_20 : decode cX12_undo 20 = .ok (.bipush 54, 2) := by decide +kernel
theorem dX12_undo_22 : decode cX12_undo 22 = .ok (.aload_n 0, 1) := by decide +kernel
theorem dX12_undo_23 : decode cX12_undo 23 = .ok (.getfield 62, 3) := by decide +kernel
theorem dX12_undo_26 : decode cX12_undo 26 = .ok (.imul, 1) := by decide +kernel
theorem dX12_undo_27 : decode cX12_undo 27 = .ok (.istore_n 1, 1) := by decide +kernel
theorem dX12_undo_28 : decode cX12_undo 28 = .ok (.aload_n 0, 1) := by decide +kernel
theorem dX12_undo_29 : decode cX12_undo 29 = .ok (.getfield 7, 3) := by decide +kernel
theorem dX12_undo_32 : decode cX12_undo 32 = .ok (.iconst 1, 1) := by decide +kernel
theorem dX12_undo_33 : decode cX12_undo 33 = .ok (.aload_n 0, 1) := by decide +kernel
theorem dX12_undo_34 : decode cX12_undo 34 = .ok (.getfield 22, 3) := by decide +kernel
theorem dX12_undo_37 : decode cX12_undo 37 = .ok (.iload_n 1, 1) := by decide +kernel
theorem dX12_undo_38 : decode cX12_undo 38 = .ok (.iconst 1, 1) := by decide +kernel
theorem dX12_undo_39 : decode cX12_undo 39 = .ok (.iadd, 1) := by decide +kernel
theorem dX12_undo_40 : decode cX12_undo 40 = .ok (.iaload, 1) := by decide +kernel
theorem dX12_undo_41 : decode cX12_undo 41 = .ok (.iastore, 1) := by decide +kernel
theorem dX12_undo_42 : decode cX12_undo 42 = .ok (.aload_n 0, 1) := by decide +kernel
theorem dX12_undo_43 : decode cX12_undo 43 = .ok (.getfield 7, 3) := by decide +kernel
theorem dX12_undo_46 : decode cX12_undo 46 = .ok (.iconst 5, 1) := by decide +kernel
theorem dX12_undo_47 : decode cX12_undo 47 = .ok (.aload_n 0, 1) := by decide +kernel
theorem dX12_undo_48 : decode cX12_undo 48 = .ok (.getfield 22, 3) := by decide +kernel
theorem dX12_undo_51 : decode cX12_undo 51 = .ok (.iload_n 1, 1) := by decide +kernel
theorem dX12_undo_52 : decode cX12_undo 52 = .ok (.iconst 5, 1) := by decide +kernel
theorem dX12_undo_53 : decode cX12_undo 53 = .ok (.iadd, 1) := by decide +kernel
theorem dX12_undo_54 : decode cX12_undo 54 = .ok (.iaload, 1) := by decide +kernel
theorem dX12_undo_55 : decode cX12_undo 55 = .ok (.iastore, 1) := by decide +kernel
theorem dX12_undo_56 : decode cX12_undo 56 = .ok (.bipush 18, 2) := by decide +kernel
theorem dX12_undo_58 : decode cX12_undo 58 = .ok (.istore_n 2, 1) := by decide +kernel
theorem dX12_undo_59 : decode cX12_undo 59 = .ok (.iload_n 2, 1) := by decide +kernel
theorem dX12_undo_60 : decode cX12_undo 60 = .ok (.bipush 54, 2) := by decide +kernel
theorem dX12_undo_62 : decode cX12_undo 62 = .ok (.if_icmp .ge 23, 3) := by decide +kernel
theorem dX12_undo_65 : decode cX12_undo 65 = .ok (.aload_n 0, 1) := by decide +kernel
theorem dX12_undo_66 : decode cX12_undo 66 = .ok (.getfield 7, 3) := by decide +kernel
theorem dX12_undo_69 : decode cX12_undo 69 = .ok (.iload_n 2, 1) := by decide +kernel
theorem dX12_undo_70 : decode cX12_undo 70 = .ok (.aload_n 0, 1) := by decide +kernel
theorem dX12_undo_71 : decode cX12_undo 71 = .ok (.getfield 22, 3) := by decide +kernel
theorem dX12_undo_74 : decode cX12_undo 74 = .ok (.iload_n 1, 1) := by decide +kernel
theorem dX12_undo_75 : decode cX12_undo 75 = .ok (.iload_n 2, 1) := by decide +kernel
theorem dX12_undo_76 : decode cX12_undo 76 = .ok (.iadd, 1) := by decide +kernel
theorem dX12_undo_77 : decode cX12_undo 77 = .ok (.iaload, 1) := by decide +kernel
theorem dX12_undo_78 : decode cX12_undo 78 = .ok (.iastore, 1) := by decide +kernel
theorem dX12_undo_79 : decode cX12_undo 79 = .ok (.iinc 2 1, 3) := by decide +kernel
theorem dX12_undo_82 : decode cX12_undo 82 = .ok (.goto (-23), 3) := by decide +kernel
theorem dX12_undo_85 : decode cX12_undo 85 = .ok (.aload_n 0, 1) := by decide +kernel
theorem dX12_undo_86 : decode cX12_undo 86 = .ok (.getfield 62, 3) := by decide +kernel
theorem dX12_undo_89 : decode cX12_undo 89 = .ok (.ireturn, 1) := by decide +kernel
theorem dX12_seed_0 : decode cX12_seed 0 = .ok (.iload_n 1, 1) := by decide +kernel
theorem dX12_seed_1 : decode cX12_seed 1 = .ok (.ifCond .ge 5, 3) := by decide +kernel
theorem dX12_seed_4 : decode cX12_seed 4 = .ok (.iconst (-1), 1) := by decide +kernel
theorem dX12_seed_5 : decode cX12_seed 5 = .ok (.ireturn, 1) := by decide +kernel
theorem dX12_seed_6 : decode cX12_seed 6 = .ok (.aload_n 0, 1) := by decide +kernel
theorem dX12_seed_7 : decode cX12_seed 7 = .ok (.getfield 7, 3) := by decide +kernel
theorem dX12_seed_10 : decode cX12_seed 10 = .ok (.iconst 5, 1) := by decide +kernel
theorem dX12_seed_11 : decode cX12_seed 11 = .ok (.iaload, 1) := by decide +kernel
theorem dX12_seed_12 : decode cX12_seed 12 = .ok (.istore_n 2, 1) := by decide +kernel
theorem dX12_seed_13 : decode cX12_seed 13 = .ok (.aload_n 0, 1) := by decide +kernel
theorem dX12_seed_14 : decode cX12_seed 14 = .ok (.getfield 7, 3) := by decide +kernel
theorem dX12_seed_17 : decode cX12_seed 17 = .ok (.iconst 5, 1) := by decide +kernel
theorem dX12_seed_18 : decode cX12_seed 18 = .ok (.iload_n 1, 1) := by decide +kernel
theorem dX12_seed_19 : decode cX12_seed 19 = .ok (.iastore, 1) := by decide +kernel
theorem dX12_seed_20 : decode cX12_seed 20 = .ok (.iload_n 2, 1) := by decide +kernel
theorem dX12_seed_21 : decode cX12_seed 21 = .ok (.ireturn, 1) := by decide +kernel
theorem dX12_at_0 : decode cX12_at 0 = .ok (.aload_n 0, 1) := by decide +kernel
theorem dX12_at_1 : decode cX12_at 1 = .ok (.iload_n 1, 1) := by decide +kernel
theorem dX12_at_2 : decode cX12_at 2 = .ok (.invokevirtual 70, 3) := by decide +kernel
theorem dX12_at_5 : decode cX12_at 5 = .ok (.ifCond .eq 46, 3) := by decide +kernel
theorem dX12_at_8 : decode cX12_at 8 = .ok (.iload_n 2, 1) := by decide +kernel
theorem dX12_at_9 : decode cX12_at 9 = .ok (.i2l, 1) := by decide +kernel
theorem dX12_at_10 : decode cX12_at 10 = .ok (.lconst 0, 1) := by decide +kernel
theorem dX12_at_11 : decode cX12_at 11 = .ok (.lconst 1, 1) := by decide +kernel
theorem dX12_at_12 : decode cX12_at 12 = .ok (.invokestatic 44, 3) := by decide +kernel
theorem dX12_at_15 : decode cX12_at 15 = .ok (.ifCond .eq 36, 3) := by decide +kernel
theorem dX12_at_18 : decode cX12_at 18 = .ok (.iload_n 3, 1) := by decide +kernel
theorem dX12_at_19 : decode cX12_at 19 = .ok (.i2l, 1) := by decide +kernel
theorem dX12_at_20 : decode cX12_at 20 = .ok (.lconst 0, 1) := by decide +kernel
theorem dX12_at_21 : decode cX12_at 21 = .ok (.ldc2_w 171, 3) := by decide +kernel
theorem dX12_at_24 : decode cX12_at 24 = .ok (.invokestatic 44, 3) := by decide +kernel
theorem dX12_at_27 : decode cX12_at 27 = .ok (.ifCond .eq 24, 3) := by decide +kernel
theorem dX12_at_30 : decode cX12_at 30 = .ok (.aload_n 0, 1) := by decide +kernel
theorem dX12_at_31 : decode cX12_at 31 = .ok (.aload_n 0, 1) := by decide +kernel
theorem dX12_at_32 : decode cX12_at 32 = .ok (.iload_n 1, 1) := by decide +kernel
theorem dX12_at_33 : decode cX12_at 33 = .ok (.iload_n 2, 1) := by decide +kernel
theorem dX12_at_34 : decode cX12_at 34 = .ok (.invokevirtual 142, 3) := by decide +kernel
theorem dX12_at_37 : decode cX12_at 37 = .ok (.aload_n 0, 1) := by decide +kernel
theorem dX12_at_38 : decode cX12_at 38 = .ok (.getfield 7, 3) := by decide +kernel
theorem dX12_at_41 : decode cX12_at 41 = .ok (.iconst 1, 1) := by decide +kernel
theorem dX12_at_42 : decode cX12_at 42 = .ok (.iaload, 1) := by decide +kernel
theorem dX12_at_43 : decode cX12_at 43 = .ok (.iload_n 3, 1) := by decide +kernel
theorem dX12_at_44 : decode cX12_at 44 = .ok (.iadd, 1) := by decide +kernel
theorem dX12_at_45 : decode cX12_at 45 = .ok (.invokevirtual 145, 3) := by decide +kernel
theorem dX12_at_48 : decode cX12_at 48 = .ok (.goto 4, 3) := by decide +kernel
theorem dX12_at_51 : decode cX12_at 51 = .ok (.iconst (-1), 1) := by decide +kernel
theorem dX12_at_52 : decode cX12_at 52 = .ok (.ireturn, 1) := by decide +kernel
theorem dX12_place_0 : decode cX12_place 0 = .ok (.aload_n 0, 1) := by decide +kernel
theorem dX12_place_1 : decode cX12_place 1 = .ok (.iload_n 1, 1) := by decide +kernel
theorem dX12_place_2 : decode cX12_place 2 = .ok (.invokevirtual 92, 3) := by decide +kernel
theorem dX12_place_5 : decode cX12_place 5 = .ok (.ifCond .eq 31, 3) := by decide +kernel
theorem dX12_place_8 : decode cX12_place 8 = .ok (.iload_n 2, 1) := by decide +kernel
theorem dX12_place_9 : decode cX12_place 9 = .ok (.i2l, 1) := by decide +kernel
theorem dX12_place_10 : decode cX12_place 10 = .ok (.lconst 0, 1) := by decide +kernel
theorem dX12_place_11 : decode cX12_place 11 = .ok (.ldc2_w 171, 3) := by decide +kernel
theorem dX12_place_14 : decode cX12_place 14 = .ok (.invokestatic 44, 3) := by decide +kernel
theorem dX12_place_17 : decode cX12_place 17 = .ok (.ifCond .eq 19, 3) := by decide +kernel
theorem dX12_place_20 : decode cX12_place 20 = .ok (.aload_n 0, 1) := by decide +kernel
theorem dX12_place_21 : decode cX12_place 21 = .ok (.iload_n 1, 1) := by decide +kernel
theorem dX12_place_22 : decode cX12_place 22 = .ok (.aload_n 0, 1) := by decide +kernel
theorem dX12_place_23 : decode cX12_place 23 = .ok (.getfield 7, 3) := by decide +kernel
theorem dX12_place_26 : decode cX12_place 26 = .ok (.iconst 1, 1) := by decide +kernel
theorem dX12_place_27 : decode cX12_place 27 = .ok (.iaload, 1) := by decide +kernel
theorem dX12_place_28 : decode cX12_place 28 = .ok (.iload_n 2, 1) := by decide +kernel
theorem dX12_place_29 : decode cX12_place 29 = .ok (.iadd, 1) := by decide +kernel
theorem dX12_place_30 : decode cX12_place 30 = .ok (.invokevirtual 86, 3) := by decide +kernel
theorem dX12_place_33 : decode cX12_place 33 = .ok (.goto 4, 3) := by decide +kernel
theorem dX12_place_36 : decode cX12_place 36 = .ok (.iconst (-1), 1) := by decide +kernel
theorem dX12_place_37 : decode cX12_place 37 = .ok (.ireturn, 1) := by decide +kernel
theorem dX12_comes_0 : decode cX12_comes 0 = .ok (.iload_n 1, 1) := by decide +kernel
theorem dX12_comes_1 : decode cX12_comes 1 = .ok (.invokestatic 74, 3) := by decide +kernel
theorem dX12_comes_4 : decode cX12_comes 4 = .ok (.ifCond .eq 21, 3) := by decide +kernel
theorem dX12_comes_7 : decode cX12_comes 7 = .ok (.aload_n 0, 1) := by decide +kernel
theorem dX12_comes_8 : decode cX12_comes 8 = .ok (.iload_n 2, 1) := by decide +kernel
theorem dX12_comes_9 : decode cX12_comes 9 = .ok (.invokevirtual 70, 3) := by decide +kernel
theorem dX12_comes_12 : decode cX12_comes 12 = .ok (.ifCond .eq 13, 3) := by decide +kernel
theorem dX12_comes_15 : decode cX12_comes 15 = .ok (.iload_n 3, 1) := by decide +kernel
theorem dX12_comes_16 : decode cX12_comes 16 = .ok (.i2l, 1) := by decide +kernel
theorem dX12_comes_17 : decode cX12_comes 17 = .ok (.lconst 0, 1) := by decide +kernel
theorem dX12_comes_18 : decode cX12_comes 18 = .ok (.lconst 1, 1) := by decide +kernel
theorem dX12_comes_19 : decode cX12_comes 19 = .ok (.invokestatic 44, 3) := by decide +kernel
theorem dX12_comes_22 : decode cX12_comes 22 = .ok (.ifCond .ne 5, 3) := by decide +kernel
theorem dX12_comes_25 : decode cX12_comes 25 = .ok (.iconst (-1), 1) := by decide +kernel
theorem dX12_comes_26 : decode cX12_comes 26 = .ok (.ireturn, 1) := by decide +kernel
theorem dX12_comes_27 : decode cX12_comes 27 = .ok (.iconst 0, 1) := by decide +kernel
theorem dX12_comes_28 : decode cX12_comes 28 = .ok (.istore 4, 2) := by decide +kernel
theorem dX12_comes_30 : decode cX12_comes 30 = .ok (.iload 4, 2) := by decide +kernel
theorem dX12_comes_32 : decode cX12_comes 32 = .ok (.bipush 12, 2) := by decide +kernel
theorem dX12_comes_34 : decode cX12_comes 34 = .ok (.if_icmp .ge 43, 3) := by decide +kernel
theorem dX12_comes_37 : decode cX12_comes 37 = .ok (.aload_n 0, 1) := by decide +kernel
theorem dX12_comes_38 : decode cX12_comes 38 = .ok (.getfield 7, 3) := by decide +kernel
theorem dX12_comes_41 : decode cX12_comes 41 = .ok (.bipush 6, 2) := by decide +kernel
theorem dX12_comes_43 : decode cX12_comes 43 = .ok (.aload_n 0, 1) := by decide +kernel
theorem dX12_comes_44 : decode cX12_comes 44 = .ok (.aload_n 0, 1) := by decide +kernel
theorem dX12_comes_45 : decode cX12_comes 45 = .ok (.iload_n 2, 1) := by decide +kernel
theorem dX12_comes_46 : decode cX12_comes 46 = .ok (.iload_n 3, 1) := by decide +kernel
theorem dX12_comes_47 : decode cX12_comes 47 = .ok (.invokevirtual 142, 3) := by decide +kernel
theorem dX12_comes_50 : decode cX12_comes 50 = .ok (.aload_n 0, 1) := by decide +kernel
theorem dX12_comes_51 : decode cX12_comes 51 = .ok (.getfield 7, 3) := by decide +kernel
theorem dX12_comes_54 : decode cX12_comes 54 = .ok (.iconst 1, 1) := by decide +kernel
theorem dX12_comes_55 : decode cX12_comes 55 = .ok (.iaload, 1) := by decide +kernel
theorem dX12_comes_56 : decode cX12_comes 56 = .ok (.iload 4, 2) := by decide +kernel
theorem dX12_comes_58 : decode cX12_comes 58 = .ok (.iadd, 1) := by decide +kernel
theorem dX12_comes_59 : decode cX12_comes 59 = .ok (.invokevirtual 145, 3) := by decide +kernel
theorem dX12_comes_62 : decode cX12_comes 62 = .ok (.iadd, 1) := by decide +kernel
theorem dX12_comes_63 : decode cX12_comes 63 = .ok (.iaload, 1) := by decide +kernel
theorem dX12_comes_64 : decode cX12_comes 64 = .ok (.iload_n 1, 1) := by decide +kernel
theorem dX12_comes_65 : decode cX12_comes 65 = .ok (.if_icmp .ne 6, 3) := by decide +kernel
theorem dX12_comes_68 : decode cX12_comes 68 = .ok (.iload 4, 2) := by decide +kernel
theorem dX12_comes_70 : decode cX12_comes 70 = .ok (.ireturn, 1) := by decide +kernel
theorem dX12_comes_71 : decode cX12_comes 71 = .ok (.iinc 4 1, 3) := by decide +kernel
theorem dX12_comes_74 : decode cX12_comes 74 = .ok (.goto (-44), 3) := by decide +kernel
theorem dX12_comes_77 : decode cX12_comes 77 = .ok (.bipush (-4), 2) := by decide +kernel
theorem dX12_comes_79 : decode cX12_comes 79 = .ok (.ireturn, 1) := by decide +kernel
theorem dX12_state_0 : decode cX12_state 0 = .ok (.aload_n 0, 1) := by decide +kernel
theorem dX12_state_1 : decode cX12_state 1 = .ok (.iload_n 1, 1) := by decide +kernel
theorem dX12_state_2 : decode cX12_state 2 = .ok (.iconst 3, 1) := by decide +kernel
theorem dX12_state_3 : decode cX12_state 3 = .ok (.invokevirtual 54, 3) := by decide +kernel
theorem dX12_state_6 : decode cX12_state 6 = .ok (.istore_n 2, 1) := by decide +kernel
theorem dX12_state_7 : decode cX12_state 7 = .ok (.iload_n 2, 1) := by decide +kernel
theorem dX12_state_8 : decode cX12_state 8 = .ok (.ifCond .ge 24, 3) := by decide +kernel
theorem dX12_state_11 : decode cX12_state 11 = .ok (.lconst 1, 1) := by decide +kernel
theorem dX12_state_12 : decode cX12_state 12 = .ok (.bipush 7, 2) := by decide +kernel
theorem dX12_state_14 : decode cX12_state 14 = .ok (.aload_n 0, 1) := by decide +kernel
theorem dX12_state_15 : decode cX12_state 15 = .ok (.iload_n 1, 1) := by decide +kernel
theorem dX12_state_16 : decode cX12_state 16 = .ok (.iconst 2, 1) := by decide +kernel
theorem dX12_state_17 : decode cX12_state 17 = .ok (.invokevirtual 54, 3) := by decide +kernel
theorem dX12_state_20 : decode cX12_state 20 = .ok (.imul, 1) := by decide +kernel
theorem dX12_state_21 : decode cX12_state 21 = .ok (.aload_n 0, 1) := by decide +kernel
theorem dX12_state_22 : decode cX12_state 22 = .ok (.iload_n 1, 1) := by decide +kernel
theorem dX12_state_23 : decode cX12_state 23 = .ok (.iconst 4, 1) := by decide +kernel
theorem dX12_state_24 : decode cX12_state 24 = .ok (.invokevirtual 54, 3) := by decide +kernel
theorem dX12_state_27 : decode cX12_state 27 = .ok (.iadd, 1) := by decide +kernel
theorem dX12_state_28 : decode cX12_state 28 = .ok (.lshl, 1) := by decide +kernel
theorem dX12_state_29 : decode cX12_state 29 = .ok (.goto 9, 3) := by decide +kernel
theorem dX12_state_32 : decode cX12_state 32 = .ok (.lconst 1, 1) := by decide +kernel
theorem dX12_state_33 : decode cX12_state 33 = .ok (.bipush 42, 2) := by decide +kernel
theorem dX12_state_35 : decode cX12_state 35 = .ok (.iload_n 2, 1) := by decide +kernel
theorem dX12_state_36 : decode cX12_state 36 = .ok (.iadd, 1) := by decide +kernel
theorem dX12_state_37 : decode cX12_state 37 = .ok (.lshl, 1) := by decide +kernel
theorem dX12_state_38 : decode cX12_state 38 = .ok (.lreturn, 1) := by decide +kernel
theorem dX12_moves_0 : decode cX12_moves 0 = .ok (.iload_n 3, 1) := by decide +kernel
theorem dX12_moves_1 : decode cX12_moves 1 = .ok (.ifCond .ne 7, 3) := by decide +kernel
theorem dX12_moves_4 : decode cX12_moves 4 = .ok (.lload_n 1, 1) := by decide +kernel
theorem dX12_moves_5 : decode cX12_moves 5 = .ok (.goto 4, 3) := by decide +kernel
theorem dX12_moves_8 : decode cX12_moves 8 = .ok (.lconst 0, 1) := by decide +kernel
theorem dX12_moves_9 : decode cX12_moves 9 = .ok (.lstore 5, 2) := by decide +kernel
theorem dX12_moves_11 : decode cX12_moves 11 = .ok (.iconst 0, 1) := by decide +kernel
theorem dX12_moves_12 : decode cX12_moves 12 = .ok (.istore 7, 2) := by decide +kernel
theorem dX12_moves_14 : decode cX12_moves 14 = .ok (.iload 7, 2) := by decide +kernel
theorem dX12_moves_16 : decode cX12_moves 16 = .ok (.aload_n 0, 1) := by decide +kernel
theorem dX12_moves_17 : decode cX12_moves 17 = .ok (.getfield 7, 3) := by decide +kernel
theorem dX12_moves_20 : decode cX12_moves 20 = .ok (.iconst 2, 1) := by decide +kernel
theorem dX12_moves_21 : decode cX12_moves 21 = .ok (.iaload, 1) := by decide +kernel
theorem dX12_moves_22 : decode cX12_moves 22 = .ok (.if_icmp .ge 76, 3) := by decide +kernel
theorem dX12_moves_25 : decode cX12_moves 25 = .ok (.iload_n 3, 1) := by decide +kernel
theorem dX12_moves_26 : decode cX12_moves 26 = .ok (.iconst 1, 1) := by decide +kernel
theorem dX12_moves_27 : decode cX12_moves 27 = .ok (.if_icmp .eq 8, 3) := by decide +kernel
theorem dX12_moves_30 : decode cX12_moves 30 = .ok (.iload_n 3, 1) := by decide +kernel
theorem dX12_moves_31 : decode cX12_moves 31 = .ok (.iconst 2, 1) := by decide +kernel
theorem dX12_moves_32 : decode cX12_moves 32 = .ok (.if_icmp .ne 66, 3) := by decide +kernel
theorem dX12_moves_35 : decode cX12_moves 35 = .ok (.lload_n 1, 1) := by decide +kernel
theorem dX12_moves_36 : decode cX12_moves 36 = .ok (.bipush 7, 2) := by decide +kernel
theorem dX12_moves_38 : decode cX12_moves 38 = .ok (.iload 7, 2) := by decide +kernel
theorem dX12_moves_40 : decode cX12_moves 40 = .ok (.imul, 1) := by decide +kernel
theorem dX12_moves_41 : decode cX12_moves 41 = .ok (.lshr, 1) := by decide +kernel
theorem dX12_moves_42 : decode cX12_moves 42 = .ok (.ldc2_w 173, 3) := by decide +kernel
theorem dX12_moves_45 : decode cX12_moves 45 = .ok (.land, 1) := by decide +kernel
theorem dX12_moves_46 : decode cX12_moves 46 = .ok (.lconst 0, 1) := by decide +kernel
theorem dX12_moves_47 : decode cX12_moves 47 = .ok (.lcmp, 1) := by decide +kernel
theorem dX12_moves_48 : decode cX12_moves 48 = .ok (.ifCond .eq 7, 3) := by decide +kernel
theorem dX12_moves_51 : decode cX12_moves 51 = .ok (.iconst 1, 1) := by decide +kernel
theorem dX12_moves_52 : decode cX12_moves 52 = .ok (.goto 4, 3) := by decide +kernel
theorem dX12_moves_55 : decode cX12_moves 55 = .ok (.iconst 0, 1) := by decide +kernel
theorem dX12_moves_56 : decode cX12_moves 56 = .ok (.istore 8, 2) := by decide +kernel
theorem dX12_moves_58 : decode cX12_moves 58 = .ok (.lload 5, 2) := by decide +kernel
theorem dX12_moves_60 : decode cX12_moves 60 = .ok (.iload 8, 2) := by decide +kernel
theorem dX12_moves_62 : decode cX12_moves 62 = .ok (.ifCond .eq 26, 3) := by decide +kernel
theorem dX12_moves_65 : decode cX12_moves 65 = .ok (.lconst 1, 1) := by decide +kernel
theorem dX12_moves_66 : decode cX12_moves 66 = .ok (.bipush 42, 2) := by decide +kernel
theorem dX12_moves_68 : decode cX12_moves 68 = .ok (.aload_n 0, 1) := by decide +kernel
theorem dX12_moves_69 : decode cX12_moves 69 = .ok (.aload_n 0, 1) := by decide +kernel
theorem dX12_moves_70 : decode cX12_moves 70 = .ok (.iload 7, 2) := by decide +kernel
theorem dX12_moves_72 : decode cX12_moves 72 = .ok (.iload_n 3, 1) := by decide +kernel
theorem dX12_moves_73 : decode cX12_moves 73 = .ok (.iconst 1, 1) := by decide +kernel
theorem dX12_moves_74 : decode cX12_moves 74 = .ok (.isub, 1) := by decide +kernel
theorem dX12_moves_75 : decode cX12_moves 75 = .ok (.invokevirtual 142, 3) := by decide +kernel
theorem dX12_moves_78 : decode cX12_moves 78 = .ok (.iload 4, 2) := by decide +kernel
theorem dX12_moves_80 : decode cX12_moves 80 = .ok (.invokevirtual 145, 3) := by decide +kernel
theorem dX12_moves_83 : decode cX12_moves 83 = .ok (.iadd, 1) := by decide +kernel
theorem dX12_moves_84 : decode cX12_moves 84 = .ok (.lshl, 1) := by decide +kernel
theorem dX12_moves_85 : decode cX12_moves 85 = .ok (.goto 4, 3) := by decide +kernel
theorem dX12_moves_88 : decode cX12_moves 88 = .ok (.lconst 0, 1) := by decide +kernel
theorem dX12_moves_89 : decode cX12_moves 89 = .ok (.lor, 1) := by decide +kernel
theorem dX12_moves_90 : decode cX12_moves 90 = .ok (.lstore 5, 2) := by decide +kernel
theorem dX12_moves_92 : decode cX12_moves 92 = .ok (.iinc 7 1, 3) := by decide +kernel
theorem dX12_moves_95 : decode cX12_moves 95 = .ok (.goto (-81), 3) := by decide +kernel
theorem dX12_moves_98 : decode cX12_moves 98 = .ok (.iconst 0, 1) := by decide +kernel
theorem dX12_moves_99 : decode cX12_moves 99 = .ok (.istore 7, 2) := by decide +kernel
theorem dX12_moves_101 : decode cX12_moves 101 = .ok (.iload 7, 2) := by decide +kernel
theorem dX12_moves_103 : decode cX12_moves 103 = .ok (.aload_n 0, 1) := by decide +kernel
theorem dX12_moves_104 : decode cX12_moves 104 = .ok (.invokevirtual 48, 3) := by decide +kernel
theorem dX12_moves_107 : decode cX12_moves 107 = .ok (.if_icmp .ge 77, 3) := by decide +kernel
theorem dX12_moves_110 : decode cX12_moves 110 = .ok (.iload_n 3, 1) := by decide +kernel
theorem dX12_moves_111 : decode cX12_moves 111 = .ok (.iconst 3, 1) := by decide +kernel
theorem dX12_moves_112 : decode cX12_moves 112 = .ok (.if_icmp .ne 72, 3) := by decide +kernel
theorem dX12_moves_115 : decode cX12_moves 115 = .ok (.lload_n 1, 1) := by decide +kernel
theorem dX12_moves_116 : decode cX12_moves 116 = .ok (.bipush 42, 2) := by decide +kernel
theorem dX12_moves_118 : decode cX12_moves 118 = .ok (.iload 7, 2) := by decide +kernel
theorem dX12_moves_120 : decode cX12_moves 120 = .ok (.iadd, 1) := by decide +kernel
theorem dX12_moves_121 : decode cX12_moves 121 = .ok (.lshr, 1) := by decide +kernel
theorem dX12_moves_122 : decode cX12_moves 122 = .ok (.lconst 1, 1) := by decide +kernel
theorem dX12_moves_123 : decode cX12_moves 123 = .ok (.land, 1) := by decide +kernel
theorem dX12_moves_124 : decode cX12_moves 124 = .ok (.lconst 1, 1) := by decide +kernel
theorem dX12_moves_125 : decode cX12_moves 125 = .ok (.lcmp, 1) := by decide +kernel
theorem dX12_moves_126 : decode cX12_moves 126 = .ok (.ifCond .ne 7, 3) := by decide +kernel
theorem dX12_moves_129 : decode cX12_moves 129 = .ok (.iconst 1, 1) := by decide +kernel
theorem dX12_moves_130 : decode cX12_moves 130 = .ok (.goto 4, 3) := by decide +kernel
theorem dX12_moves_133 : decode cX12_moves 133 = .ok (.iconst 0, 1) := by decide +kernel
theorem dX12_moves_134 : decode cX12_moves 134 = .ok (.istore 8, 2) := by decide +kernel
theorem dX12_moves_136 : decode cX12_moves 136 = .ok (.lload 5, 2) := by decide +kernel
theorem dX12_moves_138 : decode cX12_moves 138 = .ok (.iload 8, 2) := by decide +kernel
theorem dX12_moves_140 : decode cX12_moves 140 = .ok (.ifCond .eq 34, 3) := by decide +kernel
theorem dX12_moves_143 : decode cX12_moves 143 = .ok (.lconst 1, 1) := by decide +kernel
theorem dX12_moves_144 : decode cX12_moves 144 = .ok (.bipush 7, 2) := by decide +kernel
theorem dX12_moves_146 : decode cX12_moves 146 = .ok (.aload_n 0, 1) := by decide +kernel
theorem dX12_moves_147 : decode cX12_moves 147 = .ok (.aload_n 0, 1) := by decide +kernel
theorem dX12_moves_148 : decode cX12_moves 148 = .ok (.iload 7, 2) := by decide +kernel
theorem dX12_moves_150 : decode cX12_moves 150 = .ok (.iload 4, 2) := by decide +kernel
theorem dX12_moves_152 : decode cX12_moves 152 = .ok (.invokevirtual 86, 3) := by decide +kernel
theorem dX12_moves_155 : decode cX12_moves 155 = .ok (.invokevirtual 89, 3) := by decide +kernel
theorem dX12_moves_158 : decode cX12_moves 158 = .ok (.imul, 1) := by decide +kernel
theorem dX12_moves_159 : decode cX12_moves 159 = .ok (.aload_n 0, 1) := by decide +kernel
theorem dX12_moves_160 : decode cX12_moves 160 = .ok (.getfield 7, 3) := by decide +kernel
theorem dX12_moves_163 : decode cX12_moves 163 = .ok (.bipush 6, 2) := by decide +kernel
theorem dX12_moves_165 : decode cX12_moves 165 = .ok (.iload 7, 2) := by decide +kernel
theorem dX12_moves_167 : decode cX12_moves 167 = .ok (.iadd, 1) := by decide +kernel
theorem dX12_moves_168 : decode cX12_moves 168 = .ok (.iaload, 1) := by decide +kernel
theorem dX12_moves_169 : decode cX12_moves 169 = .ok (.iadd, 1) := by decide +kernel
theorem dX12_moves_170 : decode cX12_moves 170 = .ok (.lshl, 1) := by decide +kernel
theorem dX12_moves_171 : decode cX12_moves 171 = .ok (.goto 4, 3) := by decide +kernel
theorem dX12_moves_174 : decode cX12_moves 174 = .ok (.lconst 0, 1) := by decide +kernel
theorem dX12_moves_175 : decode cX12_moves 175 = .ok (.lor, 1) := by decide +kernel
theorem dX12_moves_176 : decode cX12_moves 176 = .ok (.lstore 5, 2) := by decide +kernel
theorem dX12_moves_178 : decode cX12_moves 178 = .ok (.iinc 7 1, 3) := by decide +kernel
theorem dX12_moves_181 : decode cX12_moves 181 = .ok (.goto (-80), 3) := by decide +kernel
theorem dX12_moves_184 : decode cX12_moves 184 = .ok (.lload 5, 2) := by decide +kernel
theorem dX12_moves_186 : decode cX12_moves 186 = .ok (.lreturn, 1) := by decide +kernel
theorem dX12_allMoves_0 : decode cX12_allMoves 0 = .ok (.lload_n 1, 1) := by decide +kernel
theorem dX12_allMoves_1 : decode cX12_allMoves 1 = .ok (.aload_n 0, 1) := by decide +kernel
theorem dX12_allMoves_2 : decode cX12_allMoves 2 = .ok (.lload_n 1, 1) := by decide +kernel
theorem dX12_allMoves_3 : decode cX12_allMoves 3 = .ok (.iconst 1, 1) := by decide +kernel
theorem dX12_allMoves_4 : decode cX12_allMoves 4 = .ok (.iload_n 3, 1) := by decide +kernel
theorem dX12_allMoves_5 : decode cX12_allMoves 5 = .ok (.invokevirtual 175, 3) := by decide +kernel
theorem dX12_allMoves_8 : decode cX12_allMoves 8 = .ok (.lor, 1) := by decide +kernel
theorem dX12_allMoves_9 : decode cX12_allMoves 9 = .ok (.aload_n 0, 1) := by decide +kernel
theorem dX12_allMoves_10 : decode cX12_allMoves 10 = .ok (.lload_n 1, 1) := by decide +kernel
theorem dX12_allMoves_11 : decode cX12_allMoves 11 = .ok (.iconst 2, 1) := by decide +kernel
theorem dX12_allMoves_12 : decode cX12_allMoves 12 = .ok (.iload_n 3, 1) := by decide +kernel
theorem dX12_allMoves_13 : decode cX12_allMoves 13 = .ok (.invokevirtual 175, 3) := by decide +kernel
theorem dX12_allMoves_16 : decode cX12_allMoves 16 = .ok (.lor, 1) := by decide +kernel
theorem dX12_allMoves_17 : decode cX12_allMoves 17 = .ok (.aload_n 0, 1) := by decide +kernel
theorem dX12_allMoves_18 : decode cX12_allMoves 18 = .ok (.lload_n 1, 1) := by decide +kernel
theorem dX12_allMoves_19 : decode cX12_allMoves 19 = .ok (.iconst 3, 1) := by decide +kernel
theorem dX12_allMoves_20 : decode cX12_allMoves 20 = .ok (.iload_n 3, 1) := by decide +kernel
theorem dX12_allMoves_21 : decode cX12_allMoves 21 = .ok (.invokevirtual 175, 3) := by decide +kernel
theorem dX12_allMoves_24 : decode cX12_allMoves 24 = .ok (.lor, 1) := by decide +kernel
theorem dX12_allMoves_25 : decode cX12_allMoves 25 = .ok (.lreturn, 1) := by decide +kernel
theorem dX12_turned_0 : decode cX12_turned 0 = .ok (.lload_n 1, 1) := by decide +kernel
theorem dX12_turned_1 : decode cX12_turned 1 = .ok (.lstore 5, 2) := by decide +kernel
theorem dX12_turned_3 : decode cX12_turned 3 = .ok (.iconst 0, 1) := by decide +kernel
theorem dX12_turned_4 : decode cX12_turned 4 = .ok (.istore 7, 2) := by decide +kernel
theorem dX12_turned_6 : decode cX12_turned 6 = .ok (.iload 7, 2) := by decide +kernel
theorem dX12_turned_8 : decode cX12_turned 8 = .ok (.aload_n 0, 1) := by decide +kernel
theorem dX12_turned_9 : decode cX12_turned 9 = .ok (.invokevirtual 48, 3) := by decide +kernel
theorem dX12_turned_12 : decode cX12_turned 12 = .ok (.if_icmp .ge 86, 3) := by decide +kernel
theorem dX12_turned_15 : decode cX12_turned 15 = .ok (.aload_n 0, 1) := by decide +kernel
theorem dX12_turned_16 : decode cX12_turned 16 = .ok (.iload 7, 2) := by decide +kernel
theorem dX12_turned_18 : decode cX12_turned 18 = .ok (.iload 4, 2) := by decide +kernel
theorem dX12_turned_20 : decode cX12_turned 20 = .ok (.invokevirtual 86, 3) := by decide +kernel
theorem dX12_turned_23 : decode cX12_turned 23 = .ok (.istore 8, 2) := by decide +kernel
theorem dX12_turned_25 : decode cX12_turned 25 = .ok (.lload_n 1, 1) := by decide +kernel
theorem dX12_turned_26 : decode cX12_turned 26 = .ok (.bipush 42, 2) := by decide +kernel
theorem dX12_turned_28 : decode cX12_turned 28 = .ok (.iload 7, 2) := by decide +kernel
theorem dX12_turned_30 : decode cX12_turned 30 = .ok (.iadd, 1) := by decide +kernel
theorem dX12_turned_31 : decode cX12_turned 31 = .ok (.lshr, 1) := by decide +kernel
theorem dX12_turned_32 : decode cX12_turned 32 = .ok (.lconst 1, 1) := by decide +kernel
theorem dX12_turned_33 : decode cX12_turned 33 = .ok (.land, 1) := by decide +kernel
theorem dX12_turned_34 : decode cX12_turned 34 = .ok (.lconst 1, 1) := by decide +kernel
theorem dX12_turned_35 : decode cX12_turned 35 = .ok (.lcmp, 1) := by decide +kernel
theorem dX12_turned_36 : decode cX12_turned 36 = .ok (.ifCond .ne 56, 3) := by decide +kernel
theorem dX12_turned_39 : decode cX12_turned 39 = .ok (.aload_n 0, 1) := by decide +kernel
theorem dX12_turned_40 : decode cX12_turned 40 = .ok (.iload_n 3, 1) := by decide +kernel
theorem dX12_turned_41 : decode cX12_turned 41 = .ok (.iload 8, 2) := by decide +kernel
theorem dX12_turned_43 : decode cX12_turned 43 = .ok (.invokevirtual 154, 3) := by decide +kernel
theorem dX12_turned_46 : decode cX12_turned 46 = .ok (.ifCond .eq 46, 3) := by decide +kernel
theorem dX12_turned_49 : decode cX12_turned 49 = .ok (.lload 5, 2) := by decide +kernel
theorem dX12_turned_51 : decode cX12_turned 51 = .ok (.lconst 1, 1) := by decide +kernel
theorem dX12_turned_52 : decode cX12_turned 52 = .ok (.bipush 42, 2) := by decide +kernel
theorem dX12_turned_54 : decode cX12_turned 54 = .ok (.iload 7, 2) := by decide +kernel
theorem dX12_turned_56 : decode cX12_turned 56 = .ok (.iadd, 1) := by decide +kernel
theorem dX12_turned_57 : decode cX12_turned 57 = .ok (.lshl, 1) := by decide +kernel
theorem dX12_turned_58 : decode cX12_turned 58 = .ok (.ldc2_w 179, 3) := by decide +kernel
theorem dX12_turned_61 : decode cX12_turned 61 = .ok (.lxor, 1) := by decide +kernel
theorem dX12_turned_62 : decode cX12_turned 62 = .ok (.land, 1) := by decide +kernel
theorem dX12_turned_63 : decode cX12_turned 63 = .ok (.lstore 5, 2) := by decide +kernel
theorem dX12_turned_65 : decode cX12_turned 65 = .ok (.lload 5, 2) := by decide +kernel
theorem dX12_turned_67 : decode cX12_turned 67 = .ok (.lconst 1, 1) := by decide +kernel
theorem dX12_turned_68 : decode cX12_turned 68 = .ok (.bipush 7, 2) := by decide +kernel
theorem dX12_turned_70 : decode cX12_turned 70 = .ok (.aload_n 0, 1) := by decide +kernel
theorem dX12_turned_71 : decode cX12_turned 71 = .ok (.iload 8, 2) := by decide +kernel
theorem dX12_turned_73 : decode cX12_turned 73 = .ok (.invokevirtual 89, 3) := by decide +kernel
theorem dX12_turned_76 : decode cX12_turned 76 = .ok (.imul, 1) := by decide +kernel
theorem dX12_turned_77 : decode cX12_turned 77 = .ok (.aload_n 0, 1) := by decide +kernel
theorem dX12_turned_78 : decode cX12_turned 78 = .ok (.getfield 7, 3) := by decide +kernel
theorem dX12_turned_81 : decode cX12_turned 81 = .ok (.bipush 6, 2) := by decide +kernel
theorem dX12_turned_83 : decode cX12_turned 83 = .ok (.iload 7, 2) := by decide +kernel
theorem dX12_turned_85 : decode cX12_turned 85 = .ok (.iadd, 1) := by decide +kernel
theorem dX12_turned_86 : decode cX12_turned 86 = .ok (.iaload, 1) := by decide +kernel
theorem dX12_turned_87 : decode cX12_turned 87 = .ok (.iadd, 1) := by decide +kernel
theorem dX12_turned_88 : decode cX12_turned 88 = .ok (.lshl, 1) := by decide +kernel
theorem dX12_turned_89 : decode cX12_turned 89 = .ok (.lor, 1) := by decide +kernel
theorem dX12_turned_90 : decode cX12_turned 90 = .ok (.lstore 5, 2) := by decide +kernel
theorem dX12_turned_92 : decode cX12_turned 92 = .ok (.iinc 7 1, 3) := by decide +kernel
theorem dX12_turned_95 : decode cX12_turned 95 = .ok (.goto (-89), 3) := by decide +kernel
theorem dX12_turned_98 : decode cX12_turned 98 = .ok (.lload 5, 2) := by decide +kernel
theorem dX12_turned_100 : decode cX12_turned 100 = .ok (.lreturn, 1) := by decide +kernel
theorem dX12_soonestBy_0 : decode cX12_soonestBy 0 = .ok (.aload_n 0, 1) := by decide +kernel
theorem dX12_soonestBy_1 : decode cX12_soonestBy 1 = .ok (.iload_n 1, 1) := by decide +kernel
theorem dX12_soonestBy_2 : decode cX12_soonestBy 2 = .ok (.invokevirtual 181, 3) := by decide +kernel
theorem dX12_soonestBy_5 : decode cX12_soonestBy 5 = .ok (.lstore 4, 2) := by decide +kernel
theorem dX12_soonestBy_7 : decode cX12_soonestBy 7 = .ok (.iconst 0, 1) := by decide +kernel
theorem dX12_soonestBy_8 : decode cX12_soonestBy 8 = .ok (.istore 6, 2) := by decide +kernel
theorem dX12_soonestBy_10 : decode cX12_soonestBy 10 = .ok (.iload 6, 2) := by decide +kernel
theorem dX12_soonestBy_12 : decode cX12_soonestBy 12 = .ok (.bipush 61, 2) := by decide +kernel
theorem dX12_soonestBy_14 : decode cX12_soonestBy 14 = .ok (.if_icmp .ge 83, 3) := by decide +kernel
theorem dX12_soonestBy_17 : decode cX12_soonestBy 17 = .ok (.aload_n 0, 1) := by decide +kernel
theorem dX12_soonestBy_18 : decode cX12_soonestBy 18 = .ok (.getfield 7, 3) := by decide +kernel
theorem dX12_soonestBy_21 : decode cX12_soonestBy 21 = .ok (.iconst 1, 1) := by decide +kernel
theorem dX12_soonestBy_22 : decode cX12_soonestBy 22 = .ok (.iaload, 1) := by decide +kernel
theorem dX12_soonestBy_23 : decode cX12_soonestBy 23 = .ok (.iload 6, 2) := by decide +kernel
theorem dX12_soonestBy_25 : decode cX12_soonestBy 25 = .ok (.iadd, 1) := by decide +kernel
theorem dX12_soonestBy_26 : decode cX12_soonestBy 26 = .ok (.istore 7, 2) := by decide +kernel
theorem dX12_soonestBy_28 : decode cX12_soonestBy 28 = .ok (.iload 6, 2) := by decide +kernel
theorem dX12_soonestBy_30 : decode cX12_soonestBy 30 = .ok (.ifCond .ne 19, 3) := by decide +kernel
theorem dX12_soonestBy_33 : decode cX12_soonestBy 33 = .ok (.iload_n 3, 1) := by decide +kernel
theorem dX12_soonestBy_34 : decode cX12_soonestBy 34 = .ok (.ifCond .lt 15, 3) := by decide +kernel
theorem dX12_soonestBy_37 : decode cX12_soonestBy 37 = .ok (.aload_n 0, 1) := by decide +kernel
theorem dX12_soonestBy_38 : decode cX12_soonestBy 38 = .ok (.lload 4, 2) := by decide +kernel
theorem dX12_soonestBy_40 : decode cX12_soonestBy 40 = .ok (.iload_n 3, 1) := by decide +kernel
theorem dX12_soonestBy_41 : decode cX12_soonestBy 41 = .ok (.iload 7, 2) := by decide +kernel
theorem dX12_soonestBy_43 : decode cX12_soonestBy 43 = .ok (.invokevirtual 175, 3) := by decide +kernel
theorem dX12_soonestBy_46 : decode cX12_soonestBy 46 = .ok (.goto 11, 3) := by decide +kernel
theorem dX12_soonestBy_49 : decode cX12_soonestBy 49 = .ok (.aload_n 0, 1) := by decide +kernel
theorem dX12_soonestBy_50 : decode cX12_soonestBy 50 = .ok (.lload 4, 2) := by decide +kernel
theorem dX12_soonestBy_52 : decode cX12_soonestBy 52 = .ok (.iload 7, 2) := by decide +kernel
theorem dX12_soonestBy_54 : decode cX12_soonestBy 54 = .ok (.invokevirtual 185, 3) := by decide +kernel
theorem dX12_soonestBy_57 : decode cX12_soonestBy 57 = .ok (.lstore 4, 2) := by decide +kernel
theorem dX12_soonestBy_59 : decode cX12_soonestBy 59 = .ok (.lload 4, 2) := by decide +kernel
theorem dX12_soonestBy_61 : decode cX12_soonestBy 61 = .ok (.iload_n 2, 1) := by decide +kernel
theorem dX12_soonestBy_62 : decode cX12_soonestBy 62 = .ok (.lshr, 1) := by decide +kernel
theorem dX12_soonestBy_63 : decode cX12_soonestBy 63 = .ok (.lconst 1, 1) := by decide +kernel
theorem dX12_soonestBy_64 : decode cX12_soonestBy 64 = .ok (.land, 1) := by decide +kernel
theorem dX12_soonestBy_65 : decode cX12_soonestBy 65 = .ok (.lconst 1, 1) := by decide +kernel
theorem dX12_soonestBy_66 : decode cX12_soonestBy 66 = .ok (.lcmp, 1) := by decide +kernel
theorem dX12_soonestBy_67 : decode cX12_soonestBy 67 = .ok (.ifCond .ne 6, 3) := by decide +kernel
theorem dX12_soonestBy_70 : decode cX12_soonestBy 70 = .ok (.iload 6, 2) := by decide +kernel
theorem dX12_soonestBy_72 : decode cX12_soonestBy 72 = .ok (.ireturn, 1) := by decide +kernel
theorem dX12_soonestBy_73 : decode cX12_soonestBy 73 = .ok (.aload_n 0, 1) := by decide +kernel
theorem dX12_soonestBy_74 : decode cX12_soonestBy 74 = .ok (.lload 4, 2) := by decide +kernel
theorem dX12_soonestBy_76 : decode cX12_soonestBy 76 = .ok (.aload_n 0, 1) := by decide +kernel
theorem dX12_soonestBy_77 : decode cX12_soonestBy 77 = .ok (.iload_n 1, 1) := by decide +kernel
theorem dX12_soonestBy_78 : decode cX12_soonestBy 78 = .ok (.iconst 0, 1) := by decide +kernel
theorem dX12_soonestBy_79 : decode cX12_soonestBy 79 = .ok (.invokevirtual 54, 3) := by decide +kernel
theorem dX12_soonestBy_82 : decode cX12_soonestBy 82 = .ok (.iload 7, 2) := by decide +kernel
theorem dX12_soonestBy_84 : decode cX12_soonestBy 84 = .ok (.iconst 1, 1) := by decide +kernel
theorem dX12_soonestBy_85 : decode cX12_soonestBy 85 = .ok (.iadd, 1) := by decide +kernel
theorem dX12_soonestBy_86 : decode cX12_soonestBy 86 = .ok (.invokevirtual 189, 3) := by decide +kernel
theorem dX12_soonestBy_89 : decode cX12_soonestBy 89 = .ok (.lstore 4, 2) := by decide +kernel
theorem dX12_soonestBy_91 : decode cX12_soonestBy 91 = .ok (.iinc 6 1, 3) := by decide +kernel
theorem dX12_soonestBy_94 : decode cX12_soonestBy 94 = .ok (.goto (-84), 3) := by decide +kernel
theorem dX12_soonestBy_97 : decode cX12_soonestBy 97 = .ok (.bipush (-4), 2) := by decide +kernel
theorem dX12_soonestBy_99 : decode cX12_soonestBy 99 = .ok (.ireturn, 1) := by decide +kernel
theorem dX12_soonest_0 : decode cX12_soonest 0 = .ok (.aload_n 0, 1) := by decide +kernel
theorem dX12_soonest_1 : decode cX12_soonest 1 = .ok (.iload_n 1, 1) := by decide +kernel
theorem dX12_soonest_2 : decode cX12_soonest 2 = .ok (.invokevirtual 81, 3) := by decide +kernel
theorem dX12_soonest_5 : decode cX12_soonest 5 = .ok (.ifCond .eq 29, 3) := by decide +kernel
theorem dX12_soonest_8 : decode cX12_soonest 8 = .ok (.aload_n 0, 1) := by decide +kernel
theorem dX12_soonest_9 : decode cX12_soonest 9 = .ok (.iload_n 2, 1) := by decide +kernel
theorem dX12_soonest_10 : decode cX12_soonest 10 = .ok (.invokevirtual 70, 3) := by decide +kernel
theorem dX12_soonest_13 : decode cX12_soonest 13 = .ok (.ifCond .eq 21, 3) := by decide +kernel
theorem dX12_soonest_16 : decode cX12_soonest 16 = .ok (.iload_n 3, 1) := by decide +kernel
theorem dX12_soonest_17 : decode cX12_soonest 17 = .ok (.invokestatic 74, 3) := by decide +kernel
theorem dX12_soonest_20 : decode cX12_soonest 20 = .ok (.ifCond .eq 14, 3) := by decide +kernel
theorem dX12_soonest_23 : decode cX12_soonest 23 = .ok (.iload 4, 2) := by decide +kernel
theorem dX12_soonest_25 : decode cX12_soonest 25 = .ok (.i2l, 1) := by decide +kernel
theorem dX12_soonest_26 : decode cX12_soonest 26 = .ok (.lconst 0, 1) := by decide +kernel
theorem dX12_soonest_27 : decode cX12_soonest 27 = .ok (.lconst 1, 1) := by decide +kernel
theorem dX12_soonest_28 : decode cX12_soonest 28 = .ok (.invokestatic 44, 3) := by decide +kernel
theorem dX12_soonest_31 : decode cX12_soonest 31 = .ok (.ifCond .ne 5, 3) := by decide +kernel
theorem dX12_soonest_34 : decode cX12_soonest 34 = .ok (.iconst (-1), 1) := by decide +kernel
theorem dX12_soonest_35 : decode cX12_soonest 35 = .ok (.ireturn, 1) := by decide +kernel
theorem dX12_soonest_36 : decode cX12_soonest 36 = .ok (.aload_n 0, 1) := by decide +kernel
theorem dX12_soonest_37 : decode cX12_soonest 37 = .ok (.iload_n 1, 1) := by decide +kernel
theorem dX12_soonest_38 : decode cX12_soonest 38 = .ok (.bipush 7, 2) := by decide +kernel
theorem dX12_soonest_40 : decode cX12_soonest 40 = .ok (.iload_n 2, 1) := by decide +kernel
theorem dX12_soonest_41 : decode cX12_soonest 41 = .ok (.imul, 1) := by decide +kernel
theorem dX12_soonest_42 : decode cX12_soonest 42 = .ok (.iload_n 3, 1) := by decide +kernel
theorem dX12_soonest_43 : decode cX12_soonest 43 = .ok (.iadd, 1) := by decide +kernel
theorem dX12_soonest_44 : decode cX12_soonest 44 = .ok (.iconst (-1), 1) := by decide +kernel
theorem dX12_soonest_45 : decode cX12_soonest 45 = .ok (.invokevirtual 192, 3) := by decide +kernel
theorem dX12_soonest_48 : decode cX12_soonest 48 = .ok (.istore 5, 2) := by decide +kernel
theorem dX12_soonest_50 : decode cX12_soonest 50 = .ok (.iload 4, 2) := by decide +kernel
theorem dX12_soonest_52 : decode cX12_soonest 52 = .ok (.ifCond .eq 10, 3) := by decide +kernel
theorem dX12_soonest_55 : decode cX12_soonest 55 = .ok (.iload 5, 2) := by decide +kernel
theorem dX12_soonest_57 : decode cX12_soonest 57 = .ok (.bipush (-4), 2) := by decide +kernel
theorem dX12_soonest_59 : decode cX12_soonest 59 = .ok (.if_icmp .ne 6, 3) := by decide +kernel
theorem dX12_soonest_62 : decode cX12_soonest 62 = .ok (.iload 5, 2) := by decide +kernel
theorem dX12_soonest_64 : decode cX12_soonest 64 = .ok (.ireturn, 1) := by decide +kernel
theorem dX12_soonest_65 : decode cX12_soonest 65 = .ok (.iconst 0, 1) := by decide +kernel
theorem dX12_soonest_66 : decode cX12_soonest 66 = .ok (.istore 6, 2) := by decide +kernel
theorem dX12_soonest_68 : decode cX12_soonest 68 = .ok (.aload_n 0, 1) := by decide +kernel
theorem dX12_soonest_69 : decode cX12_soonest 69 = .ok (.iload_n 1, 1) := by decide +kernel
theorem dX12_soonest_70 : decode cX12_soonest 70 = .ok (.bipush 7, 2) := by decide +kernel
theorem dX12_soonest_72 : decode cX12_soonest 72 = .ok (.iload_n 2, 1) := by decide +kernel
theorem dX12_soonest_73 : decode cX12_soonest 73 = .ok (.imul, 1) := by decide +kernel
theorem dX12_soonest_74 : decode cX12_soonest 74 = .ok (.iload_n 3, 1) := by decide +kernel
theorem dX12_soonest_75 : decode cX12_soonest 75 = .ok (.iadd, 1) := by decide +kernel
theorem dX12_soonest_76 : decode cX12_soonest 76 = .ok (.iload 6, 2) := by decide +kernel
theorem dX12_soonest_78 : decode cX12_soonest 78 = .ok (.invokevirtual 192, 3) := by decide +kernel
theorem dX12_soonest_81 : decode cX12_soonest 81 = .ok (.iload 5, 2) := by decide +kernel
theorem dX12_soonest_83 : decode cX12_soonest 83 = .ok (.if_icmp .eq 9, 3) := by decide +kernel
theorem dX12_soonest_86 : decode cX12_soonest 86 = .ok (.iinc 6 1, 3) := by decide +kernel
theorem dX12_soonest_89 : decode cX12_soonest 89 = .ok (.goto (-21), 3) := by decide +kernel
theorem dX12_soonest_92 : decode cX12_soonest 92 = .ok (.iload 6, 2) := by decide +kernel
theorem dX12_soonest_94 : decode cX12_soonest 94 = .ok (.ireturn, 1) := by decide +kernel
theorem dX12_never_0 : decode cX12_never 0 = .ok (.aload_n 0, 1) := by decide +kernel
theorem dX12_never_1 : decode cX12_never 1 = .ok (.iload_n 1, 1) := by decide +kernel
theorem dX12_never_2 : decode cX12_never 2 = .ok (.invokevirtual 81, 3) := by decide +kernel
theorem dX12_never_5 : decode cX12_never 5 = .ok (.ifCond .eq 10, 3) := by decide +kernel
theorem dX12_never_8 : decode cX12_never 8 = .ok (.iload_n 2, 1) := by decide +kernel
theorem dX12_never_9 : decode cX12_never 9 = .ok (.invokestatic 74, 3) := by decide +kernel
theorem dX12_never_12 : decode cX12_never 12 = .ok (.ifCond .ne 5, 3) := by decide +kernel
theorem dX12_never_15 : decode cX12_never 15 = .ok (.iconst (-1), 1) := by decide +kernel
theorem dX12_never_16 : decode cX12_never 16 = .ok (.ireturn, 1) := by decide +kernel
theorem dX12_never_17 : decode cX12_never 17 = .ok (.iconst 0, 1) := by decide +kernel
theorem dX12_never_18 : decode cX12_never 18 = .ok (.istore_n 3, 1) := by decide +kernel
theorem dX12_never_19 : decode cX12_never 19 = .ok (.iconst 0, 1) := by decide +kernel
theorem dX12_never_20 : decode cX12_never 20 = .ok (.istore 4, 2) := by decide +kernel
theorem dX12_never_22 : decode cX12_never 22 = .ok (.iload 4, 2) := by decide +kernel
theorem dX12_never_24 : decode cX12_never 24 = .ok (.aload_n 0, 1) := by decide +kernel
theorem dX12_never_25 : decode cX12_never 25 = .ok (.getfield 7, 3) := by decide +kernel
theorem dX12_never_28 : decode cX12_never 28 = .ok (.iconst 2, 1) := by decide +kernel
theorem dX12_never_29 : decode cX12_never 29 = .ok (.iaload, 1) := by decide +kernel
theorem dX12_never_30 : decode cX12_never 30 = .ok (.if_icmp .ge 38, 3) := by decide +kernel
theorem dX12_never_33 : decode cX12_never 33 = .ok (.iload_n 3, 1) := by decide +kernel
theorem dX12_never_34 : decode cX12_never 34 = .ok (.aload_n 0, 1) := by decide +kernel
theorem dX12_never_35 : decode cX12_never 35 = .ok (.iload_n 1, 1) := by decide +kernel
theorem dX12_never_36 : decode cX12_never 36 = .ok (.bipush 7, 2) := by decide +kernel
theorem dX12_never_38 : decode cX12_never 38 = .ok (.iload 4, 2) := by decide +kernel
theorem dX12_never_40 : decode cX12_never 40 = .ok (.imul, 1) := by decide +kernel
theorem dX12_never_41 : decode cX12_never 41 = .ok (.iload_n 2, 1) := by decide +kernel
theorem dX12_never_42 : decode cX12_never 42 = .ok (.iadd, 1) := by decide +kernel
theorem dX12_never_43 : decode cX12_never 43 = .ok (.iconst (-1), 1) := by decide +kernel
theorem dX12_never_44 : decode cX12_never 44 = .ok (.invokevirtual 192, 3) := by decide +kernel
theorem dX12_never_47 : decode cX12_never 47 = .ok (.bipush (-4), 2) := by decide +kernel
theorem dX12_never_49 : decode cX12_never 49 = .ok (.if_icmp .ne 10, 3) := by decide +kernel
theorem dX12_never_52 : decode cX12_never 52 = .ok (.iconst 1, 1) := by decide +kernel
theorem dX12_never_53 : decode cX12_never 53 = .ok (.iload 4, 2) := by decide +kernel
theorem dX12_never_55 : decode cX12_never 55 = .ok (.ishl, 1) := by decide +kernel
theorem dX12_never_56 : decode cX12_never 56 = .ok (.goto 4, 3) := by decide +kernel
theorem dX12_never_59 : decode cX12_never 59 = .ok (.iconst 0, 1) := by decide +kernel
theorem dX12_never_60 : decode cX12_never 60 = .ok (.ior, 1) := by decide +kernel
theorem dX12_never_61 : decode cX12_never 61 = .ok (.istore_n 3, 1) := by decide +kernel
theorem dX12_never_62 : decode cX12_never 62 = .ok (.iinc 4 1, 3) := by decide +kernel
theorem dX12_never_65 : decode cX12_never 65 = .ok (.goto (-43), 3) := by decide +kernel
theorem dX12_never_68 : decode cX12_never 68 = .ok (.iload_n 3, 1) := by decide +kernel
theorem dX12_never_69 : decode cX12_never 69 = .ok (.ireturn, 1) := by decide +kernel
theorem dX12_meet_0 : decode cX12_meet 0 = .ok (.aload_n 0, 1) := by decide +kernel
theorem dX12_meet_1 : decode cX12_meet 1 = .ok (.iload_n 1, 1) := by decide +kernel
theorem dX12_meet_2 : decode cX12_meet 2 = .ok (.invokevirtual 81, 3) := by decide +kernel
theorem dX12_meet_5 : decode cX12_meet 5 = .ok (.ifCond .eq 28, 3) := by decide +kernel
theorem dX12_meet_8 : decode cX12_meet 8 = .ok (.aload_n 0, 1) := by decide +kernel
theorem dX12_meet_9 : decode cX12_meet 9 = .ok (.iload_n 2, 1) := by decide +kernel
theorem dX12_meet_10 : decode cX12_meet 10 = .ok (.invokevirtual 81, 3) := by decide +kernel
theorem dX12_meet_13 : decode cX12_meet 13 = .ok (.ifCond .eq 20, 3) := by decide +kernel
theorem dX12_meet_16 : decode cX12_meet 16 = .ok (.iload_n 1, 1) := by decide +kernel
theorem dX12_meet_17 : decode cX12_meet 17 = .ok (.iload_n 2, 1) := by decide +kernel
theorem dX12_meet_18 : decode cX12_meet 18 = .ok (.if_icmp .eq 15, 3) := by decide +kernel
theorem dX12_meet_21 : decode cX12_meet 21 = .ok (.iload_n 3, 1) := by decide +kernel
theorem dX12_meet_22 : decode cX12_meet 22 = .ok (.i2l, 1) := by decide +kernel
theorem dX12_meet_23 : decode cX12_meet 23 = .ok (.lconst 0, 1) := by decide +kernel
theorem dX12_meet_24 : decode cX12_meet 24 = .ok (.ldc2_w 103, 3) := by decide +kernel
theorem dX12_meet_27 : decode cX12_meet 27 = .ok (.invokestatic 44, 3) := by decide +kernel
theorem dX12_meet_30 : decode cX12_meet 30 = .ok (.ifCond .ne 5, 3) := by decide +kernel
theorem dX12_meet_33 : decode cX12_meet 33 = .ok (.iconst (-1), 1) := by decide +kernel
theorem dX12_meet_34 : decode cX12_meet 34 = .ok (.ireturn, 1) := by decide +kernel
theorem dX12_meet_35 : decode cX12_meet 35 = .ok (.aload_n 0, 1) := by decide +kernel
theorem dX12_meet_36 : decode cX12_meet 36 = .ok (.iload_n 1, 1) := by decide +kernel
theorem dX12_meet_37 : decode cX12_meet 37 = .ok (.invokevirtual 181, 3) := by decide +kernel
theorem dX12_meet_40 : decode cX12_meet 40 = .ok (.lstore 4, 2) := by decide +kernel
theorem dX12_meet_42 : decode cX12_meet 42 = .ok (.aload_n 0, 1) := by decide +kernel
theorem dX12_meet_43 : decode cX12_meet 43 = .ok (.iload_n 2, 1) := by decide +kernel
theorem dX12_meet_44 : decode cX12_meet 44 = .ok (.invokevirtual 181, 3) := by decide +kernel
theorem dX12_meet_47 : decode cX12_meet 47 = .ok (.lstore 6, 2) := by decide +kernel
theorem dX12_meet_49 : decode cX12_meet 49 = .ok (.iconst 0, 1) := by decide +kernel
theorem dX12_meet_50 : decode cX12_meet 50 = .ok (.istore 8, 2) := by decide +kernel
theorem dX12_meet_52 : decode cX12_meet 52 = .ok (.iload 8, 2) := by decide +kernel
theorem dX12_meet_54 : decode cX12_meet 54 = .ok (.bipush 61, 2) := by decide +kernel
theorem dX12_meet_56 : decode cX12_meet 56 = .ok (.if_icmp .ge 143, 3) := by decide +kernel
theorem dX12_meet_59 : decode cX12_meet 59 = .ok (.aload_n 0, 1) := by decide +kernel
theorem dX12_meet_60 : decode cX12_meet 60 = .ok (.getfield 7, 3) := by decide +kernel
theorem dX12_meet_63 : decode cX12_meet 63 = .ok (.iconst 1, 1) := by decide +kernel
theorem dX12_meet_64 : decode cX12_meet 64 = .ok (.iaload, 1) := by decide +kernel
theorem dX12_meet_65 : decode cX12_meet 65 = .ok (.iload 8, 2) := by decide +kernel
theorem dX12_meet_67 : decode cX12_meet 67 = .ok (.iadd, 1) := by decide +kernel
theorem dX12_meet_68 : decode cX12_meet 68 = .ok (.istore 9, 2) := by decide +kernel
theorem dX12_meet_70 : decode cX12_meet 70 = .ok (.aload_n 0, 1) := by decide +kernel
theorem dX12_meet_71 : decode cX12_meet 71 = .ok (.lload 4, 2) := by decide +kernel
theorem dX12_meet_73 : decode cX12_meet 73 = .ok (.iload 9, 2) := by decide +kernel
theorem dX12_meet_75 : decode cX12_meet 75 = .ok (.invokevirtual 185, 3) := by decide +kernel
theorem dX12_meet_78 : decode cX12_meet 78 = .ok (.lstore 4, 2) := by decide +kernel
theorem dX12_meet_80 : decode cX12_meet 80 = .ok (.aload_n 0, 1) := by decide +kernel
theorem dX12_meet_81 : decode cX12_meet 81 = .ok (.lload 6, 2) := by decide +kernel
theorem dX12_meet_83 : decode cX12_meet 83 = .ok (.iload 9, 2) := by decide +kernel
theorem dX12_meet_85 : decode cX12_meet 85 = .ok (.invokevirtual 185, 3) := by decide +kernel
theorem dX12_meet_88 : decode cX12_meet 88 = .ok (.lstore 6, 2) := by decide +kernel
theorem dX12_meet_90 : decode cX12_meet 90 = .ok (.lload 4, 2) := by decide +kernel
theorem dX12_meet_92 : decode cX12_meet 92 = .ok (.lload 6, 2) := by decide +kernel
theorem dX12_meet_94 : decode cX12_meet 94 = .ok (.land, 1) := by decide +kernel
theorem dX12_meet_95 : decode cX12_meet 95 = .ok (.ldc2_w 196, 3) := by decide +kernel
theorem dX12_meet_98 : decode cX12_meet 98 = .ok (.land, 1) := by decide +kernel
theorem dX12_meet_99 : decode cX12_meet 99 = .ok (.lstore 10, 2) := by decide +kernel
theorem dX12_meet_101 : decode cX12_meet 101 = .ok (.iconst 0, 1) := by decide +kernel
theorem dX12_meet_102 : decode cX12_meet 102 = .ok (.istore 12, 2) := by decide +kernel
theorem dX12_meet_104 : decode cX12_meet 104 = .ok (.iload 12, 2) := by decide +kernel
theorem dX12_meet_106 : decode cX12_meet 106 = .ok (.bipush 42, 2) := by decide +kernel
theorem dX12_meet_108 : decode cX12_meet 108 = .ok (.if_icmp .ge 49, 3) := by decide +kernel
theorem dX12_meet_111 : decode cX12_meet 111 = .ok (.lload 10, 2) := by decide +kernel
theorem dX12_meet_113 : decode cX12_meet 113 = .ok (.iload 12, 2) := by decide +kernel
theorem dX12_meet_115 : decode cX12_meet 115 = .ok (.lshr, 1) := by decide +kernel
theorem dX12_meet_116 : decode cX12_meet 116 = .ok (.lconst 1, 1) := by decide +kernel
theorem dX12_meet_117 : decode cX12_meet 117 = .ok (.land, 1) := by decide +kernel
theorem dX12_meet_118 : decode cX12_meet 118 = .ok (.lconst 1, 1) := by decide +kernel
theorem dX12_meet_119 : decode cX12_meet 119 = .ok (.lcmp, 1) := by decide +kernel
theorem dX12_meet_120 : decode cX12_meet 120 = .ok (.ifCond .ne 31, 3) := by decide +kernel
theorem dX12_meet_123 : decode cX12_meet 123 = .ok (.iload_n 3, 1) := by decide +kernel
theorem dX12_meet_124 : decode cX12_meet 124 = .ok (.ifCond .ne 8, 3) := by decide +kernel
theorem dX12_meet_127 : decode cX12_meet 127 = .ok (.iload 8, 2) := by decide +kernel
theorem dX12_meet_129 : decode cX12_meet 129 = .ok (.goto 21, 3) := by decide +kernel
theorem dX12_meet_132 : decode cX12_meet 132 = .ok (.iload_n 3, 1) := by decide +kernel
theorem dX12_meet_133 : decode cX12_meet 133 = .ok (.iconst 1, 1) := by decide +kernel
theorem dX12_meet_134 : decode cX12_meet 134 = .ok (.if_icmp .ne 11, 3) := by decide +kernel
theorem dX12_meet_137 : decode cX12_meet 137 = .ok (.iload 12, 2) := by decide +kernel
theorem dX12_meet_139 : decode cX12_meet 139 = .ok (.bipush 7, 2) := by decide +kernel
theorem dX12_meet_141 : decode cX12_meet 141 = .ok (.idiv, 1) := by decide +kernel
theorem dX12_meet_142 : decode cX12_meet 142 = .ok (.goto 8, 3) := by decide +kernel
theorem dX12_meet_145 : decode cX12_meet 145 = .ok (.iload 12, 2) := by decide +kernel
theorem dX12_meet_147 : decode cX12_meet 147 = .ok (.bipush 7, 2) := by decide +kernel
theorem dX12_meet_149 : decode cX12_meet 149 = .ok (.irem, 1) := by decide +kernel
theorem dX12_meet_150 : decode cX12_meet 150 = .ok (.ireturn, 1) := by decide +kernel
theorem dX12_meet_151 : decode cX12_meet 151 = .ok (.iinc 12 1, 3) := by decide +kernel
theorem dX12_meet_154 : decode cX12_meet 154 = .ok (.goto (-50), 3) := by decide +kernel
theorem dX12_meet_157 : decode cX12_meet 157 = .ok (.aload_n 0, 1) := by decide +kernel
theorem dX12_meet_158 : decode cX12_meet 158 = .ok (.lload 4, 2) := by decide +kernel
theorem dX12_meet_160 : decode cX12_meet 160 = .ok (.aload_n 0, 1) := by decide +kernel
theorem dX12_meet_161 : decode cX12_meet 161 = .ok (.iload_n 1, 1) := by decide +kernel
theorem dX12_meet_162 : decode cX12_meet 162 = .ok (.iconst 0, 1) := by decide +kernel
theorem dX12_meet_163 : decode cX12_meet 163 = .ok (.invokevirtual 54, 3) := by decide +kernel
theorem dX12_meet_166 : decode cX12_meet 166 = .ok (.iload 9, 2) := by decide +kernel
theorem dX12_meet_168 : decode cX12_meet 168 = .ok (.iconst 1, 1) := by decide +kernel
theorem dX12_meet_169 : decode cX12_meet 169 = .ok (.iadd, 1) := by decide +kernel
theorem dX12_meet_170 : decode cX12_meet 170 = .ok (.invokevirtual 189, 3) := by decide +kernel
theorem dX12_meet_173 : decode cX12_meet 173 = .ok (.lstore 4, 2) := by decide +kernel
theorem dX12_meet_175 : decode cX12_meet 175 = .ok (.aload_n 0, 1) := by decide +kernel
theorem dX12_meet_176 : decode cX12_meet 176 = .ok (.lload 6, 2) := by decide +kernel
theorem dX12_meet_178 : decode cX12_meet 178 = .ok (.aload_n 0, 1) := by decide +kernel
theorem dX12_meet_179 : decode cX12_meet 179 = .ok (.iload_n 2, 1) := by decide +kernel
theorem dX12_meet_180 : decode cX12_meet 180 = .ok (.iconst 0, 1) := by decide +kernel
theorem dX12_meet_181 : decode cX12_meet 181 = .ok (.invokevirtual 54, 3) := by decide +kernel
theorem dX12_meet_184 : decode cX12_meet 184 = .ok (.iload 9, 2) := by decide +kernel
theorem dX12_meet_186 : decode cX12_meet 186 = .ok (.iconst 1, 1) := by decide +kernel
theorem dX12_meet_187 : decode cX12_meet 187 = .ok (.iadd, 1) := by decide +kernel
theorem dX12_meet_188 : decode cX12_meet 188 = .ok (.invokevirtual 189, 3) := by decide +kernel
theorem dX12_meet_191 : decode cX12_meet 191 = .ok (.lstore 6, 2) := by decide +kernel
theorem dX12_meet_193 : decode cX12_meet 193 = .ok (.iinc 8 1, 3) := by decide +kernel
theorem dX12_meet_196 : decode cX12_meet 196 = .ok (.goto (-144), 3) := by decide +kernel
theorem dX12_meet_199 : decode cX12_meet 199 = .ok (.bipush (-4), 2) := by decide +kernel
theorem dX12_meet_201 : decode cX12_meet 201 = .ok (.ireturn, 1) := by decide +kernel
theorem dX12_heaviest_0 : decode cX12_heaviest 0 = .ok (.iload_n 1, 1) := by decide +kernel
theorem dX12_heaviest_1 : decode cX12_heaviest 1 = .ok (.i2l, 1) := by decide +kernel
theorem dX12_heaviest_2 : decode cX12_heaviest 2 = .ok (.lconst 0, 1) := by decide +kernel
theorem dX12_heaviest_3 : decode cX12_heaviest 3 = .ok (.lconst 1, 1) := by decide +kernel
theorem dX12_heaviest_4 : decode cX12_heaviest 4 = .ok (.invokestatic 44, 3) := by decide +kernel
theorem dX12_heaviest_7 : decode cX12_heaviest 7 = .ok (.ifCond .ne 5, 3) := by decide +kernel
theorem dX12_heaviest_10 : decode cX12_heaviest 10 = .ok (.iconst (-1), 1) := by decide +kernel
theorem dX12_heaviest_11 : decode cX12_heaviest 11 = .ok (.ireturn, 1) := by decide +kernel
theorem dX12_heaviest_12 : decode cX12_heaviest 12 = .ok (.iconst 0, 1) := by decide +kernel
theorem dX12_heaviest_13 : decode cX12_heaviest 13 = .ok (.istore_n 2, 1) := by decide +kernel
theorem dX12_heaviest_14 : decode cX12_heaviest 14 = .ok (.iconst 1, 1) := by decide +kernel
theorem dX12_heaviest_15 : decode cX12_heaviest 15 = .ok (.istore_n 3, 1) := by decide +kernel
theorem dX12_heaviest_16 : decode cX12_heaviest 16 = .ok (.iload_n 3, 1) := by decide +kernel
theorem dX12_heaviest_17 : decode cX12_heaviest 17 = .ok (.aload_n 0, 1) := by decide +kernel
theorem dX12_heaviest_18 : decode cX12_heaviest 18 = .ok (.invokevirtual 48, 3) := by decide +kernel
theorem dX12_heaviest_21 : decode cX12_heaviest 21 = .ok (.if_icmp .ge 28, 3) := by decide +kernel
theorem dX12_heaviest_24 : decode cX12_heaviest 24 = .ok (.aload_n 0, 1) := by decide +kernel
theorem dX12_heaviest_25 : decode cX12_heaviest 25 = .ok (.iload_n 3, 1) := by decide +kernel
theorem dX12_heaviest_26 : decode cX12_heaviest 26 = .ok (.invokevirtual 95, 3) := by decide +kernel
theorem dX12_heaviest_29 : decode cX12_heaviest 29 = .ok (.aload_n 0, 1) := by decide +kernel
theorem dX12_heaviest_30 : decode cX12_heaviest 30 = .ok (.iload_n 2, 1) := by decide +kernel
theorem dX12_heaviest_31 : decode cX12_heaviest 31 = .ok (.invokevirtual 95, 3) := by decide +kernel
theorem dX12_heaviest_34 : decode cX12_heaviest 34 = .ok (.if_icmp .le 7, 3) := by decide +kernel
theorem dX12_heaviest_37 : decode cX12_heaviest 37 = .ok (.iload_n 3, 1) := by decide +kernel
theorem dX12_heaviest_38 : decode cX12_heaviest 38 = .ok (.goto 4, 3) := by decide +kernel
theorem dX12_heaviest_41 : decode cX12_heaviest 41 = .ok (.iload_n 2, 1) := by decide +kernel
theorem dX12_heaviest_42 : decode cX12_heaviest 42 = .ok (.istore_n 2, 1) := by decide +kernel
theorem dX12_heaviest_43 : decode cX12_heaviest 43 = .ok (.iinc 3 1, 3) := by decide +kernel
theorem dX12_heaviest_46 : decode cX12_heaviest 46 = .ok (.goto (-30), 3) := by decide +kernel
theorem dX12_heaviest_49 : decode cX12_heaviest 49 = .ok (.iload_n 1, 1) := by decide +kernel
theorem dX12_heaviest_50 : decode cX12_heaviest 50 = .ok (.ifCond .ne 7, 3) := by decide +kernel
theorem dX12_heaviest_53 : decode cX12_heaviest 53 = .ok (.iload_n 2, 1) := by decide +kernel
theorem dX12_heaviest_54 : decode cX12_heaviest 54 = .ok (.goto 8, 3) := by decide +kernel
theorem dX12_heaviest_57 : decode cX12_heaviest 57 = .ok (.aload_n 0, 1) := by decide +kernel
theorem dX12_heaviest_58 : decode cX12_heaviest 58 = .ok (.iload_n 2, 1) := by decide +kernel
theorem dX12_heaviest_59 : decode cX12_heaviest 59 = .ok (.invokevirtual 95, 3) := by decide +kernel
theorem dX12_heaviest_62 : decode cX12_heaviest 62 = .ok (.ireturn, 1) := by decide +kernel
theorem dX12_swaps_0 : decode cX12_swaps 0 = .ok (.aload_n 0, 1) := by decide +kernel
theorem dX12_swaps_1 : decode cX12_swaps 1 = .ok (.getfield 7, 3) := by decide +kernel
theorem dX12_swaps_4 : decode cX12_swaps 4 = .ok (.bipush 6, 2) := by decide +kernel
theorem dX12_swaps_6 : decode cX12_swaps 6 = .ok (.iload_n 1, 1) := by decide +kernel
theorem dX12_swaps_7 : decode cX12_swaps 7 = .ok (.iadd, 1) := by decide +kernel
theorem dX12_swaps_8 : decode cX12_swaps 8 = .ok (.iaload, 1) := by decide +kernel
theorem dX12_swaps_9 : decode cX12_swaps 9 = .ok (.istore_n 3, 1) := by decide +kernel
theorem dX12_swaps_10 : decode cX12_swaps 10 = .ok (.aload_n 0, 1) := by decide +kernel
theorem dX12_swaps_11 : decode cX12_swaps 11 = .ok (.getfield 7, 3) := by decide +kernel
theorem dX12_swaps_14 : decode cX12_swaps 14 = .ok (.bipush 6, 2) := by decide +kernel
theorem dX12_swaps_16 : decode cX12_swaps 16 = .ok (.iload_n 1, 1) := by decide +kernel
theorem dX12_swaps_17 : decode cX12_swaps 17 = .ok (.iadd, 1) := by decide +kernel
theorem dX12_swaps_18 : decode cX12_swaps 18 = .ok (.aload_n 0, 1) := by decide +kernel
theorem dX12_swaps_19 : decode cX12_swaps 19 = .ok (.getfield 7, 3) := by decide +kernel
theorem dX12_swaps_22 : decode cX12_swaps 22 = .ok (.bipush 6, 2) := by decide +kernel
theorem dX12_swaps_24 : decode cX12_swaps 24 = .ok (.iload_n 2, 1) := by decide +kernel
theorem dX12_swaps_25 : decode cX12_swaps 25 = .ok (.iadd, 1) := by decide +kernel
theorem dX12_swaps_26 : decode cX12_swaps 26 = .ok (.iaload, 1) := by decide +kernel
theorem dX12_swaps_27 : decode cX12_swaps 27 = .ok (.iastore, 1) := by decide +kernel
theorem dX12_swaps_28 : decode cX12_swaps 28 = .ok (.aload_n 0, 1) := by decide +kernel
theorem dX12_swaps_29 : decode cX12_swaps 29 = .ok (.getfield 7, 3) := by decide +kernel
theorem dX12_swaps_32 : decode cX12_swaps 32 = .ok (.bipush 6, 2) := by decide +kernel
theorem dX12_swaps_34 : decode cX12_swaps 34 = .ok (.iload_n 2, 1) := by decide +kernel
theorem dX12_swaps_35 : decode cX12_swaps 35 = .ok (.iadd, 1) := by decide +kernel
theorem dX12_swaps_36 : decode cX12_swaps 36 = .ok (.iload_n 3, 1) := by decide +kernel
theorem dX12_swaps_37 : decode cX12_swaps 37 = .ok (.iastore, 1) := by decide +kernel
theorem dX12_swaps_38 : decode cX12_swaps 38 = .ok (.return_, 1) := by decide +kernel
theorem dX12_changed_0 : decode cX12_changed 0 = .ok (.aload_n 0, 1) := by decide +kernel
theorem dX12_changed_1 : decode cX12_changed 1 = .ok (.iload_n 1, 1) := by decide +kernel
theorem dX12_changed_2 : decode cX12_changed 2 = .ok (.invokevirtual 81, 3) := by decide +kernel
theorem dX12_changed_5 : decode cX12_changed 5 = .ok (.ifCond .eq 29, 3) := by decide +kernel
theorem dX12_changed_8 : decode cX12_changed 8 = .ok (.aload_n 0, 1) := by decide +kernel
theorem dX12_changed_9 : decode cX12_changed 9 = .ok (.iload_n 2, 1) := by decide +kernel
theorem dX12_changed_10 : decode cX12_changed 10 = .ok (.invokevirtual 70, 3) := by decide +kernel
theorem dX12_changed_13 : decode cX12_changed 13 = .ok (.ifCond .eq 21, 3) := by decide +kernel
theorem dX12_changed_16 : decode cX12_changed 16 = .ok (.iload_n 3, 1) := by decide +kernel
theorem dX12_changed_17 : decode cX12_changed 17 = .ok (.invokestatic 74, 3) := by decide +kernel
theorem dX12_changed_20 : decode cX12_changed 20 = .ok (.ifCond .eq 14, 3) := by decide +kernel
theorem dX12_changed_23 : decode cX12_changed 23 = .ok (.iload 4, 2) := by decide +kernel
theorem dX12_changed_25 : decode cX12_changed 25 = .ok (.i2l, 1) := by decide +kernel
theorem dX12_changed_26 : decode cX12_changed 26 = .ok (.lconst 0, 1) := by decide +kernel
theorem dX12_changed_27 : decode cX12_changed 27 = .ok (.lconst 1, 1) := by decide +kernel
theorem dX12_changed_28 : decode cX12_changed 28 = .ok (.invokestatic 44, 3) := by decide +kernel
theorem dX12_changed_31 : decode cX12_changed 31 = .ok (.ifCond .ne 5, 3) := by decide +kernel
theorem dX12_changed_34 : decode cX12_changed 34 = .ok (.iconst (-1), 1) := by decide +kernel
theorem dX12_changed_35 : decode cX12_changed 35 = .ok (.ireturn, 1) := by decide +kernel
theorem dX12_changed_36 : decode cX12_changed 36 = .ok (.bipush 7, 2) := by decide +kernel
theorem dX12_changed_38 : decode cX12_changed 38 = .ok (.iload_n 2, 1) := by decide +kernel
theorem dX12_changed_39 : decode cX12_changed 39 = .ok (.imul, 1) := by decide +kernel
theorem dX12_changed_40 : decode cX12_changed 40 = .ok (.iload_n 3, 1) := by decide +kernel
theorem dX12_changed_41 : decode cX12_changed 41 = .ok (.iadd, 1) := by decide +kernel
theorem dX12_changed_42 : decode cX12_changed 42 = .ok (.istore 5, 2) := by decide +kernel
theorem dX12_changed_44 : decode cX12_changed 44 = .ok (.aload_n 0, 1) := by decide +kernel
theorem dX12_changed_45 : decode cX12_changed 45 = .ok (.iload_n 1, 1) := by decide +kernel
theorem dX12_changed_46 : decode cX12_changed 46 = .ok (.iload 5, 2) := by decide +kernel
theorem dX12_changed_48 : decode cX12_changed 48 = .ok (.iconst (-1), 1) := by decide +kernel
theorem dX12_changed_49 : decode cX12_changed 49 = .ok (.invokevirtual 192, 3) := by decide +kernel
theorem dX12_changed_52 : decode cX12_changed 52 = .ok (.istore 6, 2) := by decide +kernel
theorem dX12_changed_54 : decode cX12_changed 54 = .ok (.iload 6, 2) := by decide +kernel
theorem dX12_changed_56 : decode cX12_changed 56 = .ok (.bipush (-4), 2) := by decide +kernel
theorem dX12_changed_58 : decode cX12_changed 58 = .ok (.if_icmp .ne 8, 3) := by decide +kernel
theorem dX12_changed_61 : decode cX12_changed 61 = .ok (.bipush 61, 2) := by decide +kernel
theorem dX12_changed_63 : decode cX12_changed 63 = .ok (.goto 5, 3) := by decide +kernel
theorem dX12_changed_66 : decode cX12_changed 66 = .ok (.iload 6, 2) := by decide +kernel
theorem dX12_changed_68 : decode cX12_changed 68 = .ok (.istore 7, 2) := by decide +kernel
theorem dX12_changed_70 : decode cX12_changed 70 = .ok (.bipush (-4), 2) := by decide +kernel
theorem dX12_changed_72 : decode cX12_changed 72 = .ok (.istore 8, 2) := by decide +kernel
theorem dX12_changed_74 : decode cX12_changed 74 = .ok (.iconst 0, 1) := by decide +kernel
theorem dX12_changed_75 : decode cX12_changed 75 = .ok (.istore 9, 2) := by decide +kernel
theorem dX12_changed_77 : decode cX12_changed 77 = .ok (.iload 9, 2) := by decide +kernel
theorem dX12_changed_79 : decode cX12_changed 79 = .ok (.aload_n 0, 1) := by decide +kernel
theorem dX12_changed_80 : decode cX12_changed 80 = .ok (.invokevirtual 48, 3) := by decide +kernel
theorem dX12_changed_83 : decode cX12_changed 83 = .ok (.if_icmp .ge 111, 3) := by decide +kernel
theorem dX12_changed_86 : decode cX12_changed 86 = .ok (.iload 9, 2) := by decide +kernel
theorem dX12_changed_88 : decode cX12_changed 88 = .ok (.iconst 1, 1) := by decide +kernel
theorem dX12_changed_89 : decode cX12_changed 89 = .ok (.iadd, 1) := by decide +kernel
theorem dX12_changed_90 : decode cX12_changed 90 = .ok (.istore 10, 2) := by decide +kernel
theorem dX12_changed_92 : decode cX12_changed 92 = .ok (.iload 10, 2) := by decide +kernel
theorem dX12_changed_94 : decode cX12_changed 94 = .ok (.aload_n 0, 1) := by decide +kernel
theorem dX12_changed_95 : decode cX12_changed 95 = .ok (.invokevirtual 48, 3) := by decide +kernel
theorem dX12_changed_98 : decode cX12_changed 98 = .ok (.if_icmp .ge 90, 3) := by decide +kernel
theorem dX12_changed_101 : decode cX12_changed 101 = .ok (.aload_n 0, 1) := by decide +kernel
theorem dX12_changed_102 : decode cX12_changed 102 = .ok (.iload 9, 2) := by decide +kernel
theorem dX12_changed_104 : decode cX12_changed 104 = .ok (.iload 10, 2) := by decide +kernel
theorem dX12_changed_106 : decode cX12_changed 106 = .ok (.invokevirtual 198, 3) := by decide +kernel
theorem dX12_changed_109 : decode cX12_changed 109 = .ok (.aload_n 0, 1) := by decide +kernel
theorem dX12_changed_110 : decode cX12_changed 110 = .ok (.iload_n 1, 1) := by decide +kernel
theorem dX12_changed_111 : decode cX12_changed 111 = .ok (.iload 5, 2) := by decide +kernel
theorem dX12_changed_113 : decode cX12_changed 113 = .ok (.iconst (-1), 1) := by decide +kernel
theorem dX12_changed_114 : decode cX12_changed 114 = .ok (.invokevirtual 192, 3) := by decide +kernel
theorem dX12_changed_117 : decode cX12_changed 117 = .ok (.istore 11, 2) := by decide +kernel
theorem dX12_changed_119 : decode cX12_changed 119 = .ok (.aload_n 0, 1) := by decide +kernel
theorem dX12_changed_120 : decode cX12_changed 120 = .ok (.iload 9, 2) := by decide +kernel
theorem dX12_changed_122 : decode cX12_changed 122 = .ok (.iload 10, 2) := by decide +kernel
theorem dX12_changed_124 : decode cX12_changed 124 = .ok (.invokevirtual 198, 3) := by decide +kernel
theorem dX12_changed_127 : decode cX12_changed 127 = .ok (.iload 11, 2) := by decide +kernel
theorem dX12_changed_129 : decode cX12_changed 129 = .ok (.bipush (-4), 2) := by decide +kernel
theorem dX12_changed_131 : decode cX12_changed 131 = .ok (.if_icmp .eq 14, 3) := by decide +kernel
theorem dX12_changed_134 : decode cX12_changed 134 = .ok (.iload 11, 2) := by decide +kernel
theorem dX12_changed_136 : decode cX12_changed 136 = .ok (.iload 7, 2) := by decide +kernel
theorem dX12_changed_138 : decode cX12_changed 138 = .ok (.if_icmp .ge 7, 3) := by decide +kernel
theorem dX12_changed_141 : decode cX12_changed 141 = .ok (.iconst 1, 1) := by decide +kernel
theorem dX12_changed_142 : decode cX12_changed 142 = .ok (.goto 4, 3) := by decide +kernel
theorem dX12_changed_145 : decode cX12_changed 145 = .ok (.iconst 0, 1) := by decide +kernel
theorem dX12_changed_146 : decode cX12_changed 146 = .ok (.istore 12, 2) := by decide +kernel
theorem dX12_changed_148 : decode cX12_changed 148 = .ok (.iload 12, 2) := by decide +kernel
theorem dX12_changed_150 : decode cX12_changed 150 = .ok (.ifCond .eq 14, 3) := by decide +kernel
theorem dX12_changed_153 : decode cX12_changed 153 = .ok (.bipush 100, 2) := by decide +kernel
theorem dX12_changed_155 : decode cX12_changed 155 = .ok (.iload 9, 2) := by decide +kernel
theorem dX12_changed_157 : decode cX12_changed 157 = .ok (.imul, 1) := by decide +kernel
theorem dX12_changed_158 : decode cX12_changed 158 = .ok (.iload 10, 2) := by decide +kernel
theorem dX12_changed_160 : decode cX12_changed 160 = .ok (.iadd, 1) := by decide +kernel
theorem dX12_changed_161 : decode cX12_changed 161 = .ok (.goto 5, 3) := by decide +kernel
theorem dX12_changed_164 : decode cX12_changed 164 = .ok (.iload 8, 2) := by decide +kernel
theorem dX12_changed_166 : decode cX12_changed 166 = .ok (.istore 8, 2) := by decide +kernel
theorem dX12_changed_168 : decode cX12_changed 168 = .ok (.iload 12, 2) := by decide +kernel
theorem dX12_changed_170 : decode cX12_changed 170 = .ok (.ifCond .eq 8, 3) := by decide +kernel
theorem dX12_changed_173 : decode cX12_changed 173 = .ok (.iload 11, 2) := by decide +kernel
theorem dX12_changed_175 : decode cX12_changed 175 = .ok (.goto 5, 3) := by decide +kernel
theorem dX12_changed_178 : decode cX12_changed 178 = .ok (.iload 7, 2) := by decide +kernel
theorem dX12_changed_180 : decode cX12_changed 180 = .ok (.istore 7, 2) := by decide +kernel
theorem dX12_changed_182 : decode cX12_changed 182 = .ok (.iinc 10 1, 3) := by decide +kernel
theorem dX12_changed_185 : decode cX12_changed 185 = .ok (.goto (-93), 3) := by decide +kernel
theorem dX12_changed_188 : decode cX12_changed 188 = .ok (.iinc 9 1, 3) := by decide +kernel
theorem dX12_changed_191 : decode cX12_changed 191 = .ok (.goto (-114), 3) := by decide +kernel
theorem dX12_changed_194 : decode cX12_changed 194 = .ok (.iload 4, 2) := by decide +kernel
theorem dX12_changed_196 : decode cX12_changed 196 = .ok (.ifCond .eq 10, 3) := by decide +kernel
theorem dX12_changed_199 : decode cX12_changed 199 = .ok (.iload 8, 2) := by decide +kernel
theorem dX12_changed_201 : decode cX12_changed 201 = .ok (.bipush (-4), 2) := by decide +kernel
theorem dX12_changed_203 : decode cX12_changed 203 = .ok (.if_icmp .ne 8, 3) := by decide +kernel
theorem dX12_changed_206 : decode cX12_changed 206 = .ok (.iload 8, 2) := by decide +kernel
theorem dX12_changed_208 : decode cX12_changed 208 = .ok (.goto 5, 3) := by decide +kernel
theorem dX12_changed_211 : decode cX12_changed 211 = .ok (.iload 7, 2) := by decide +kernel
theorem dX12_changed_213 : decode cX12_changed 213 = .ok (.ireturn, 1) := by decide +kernel
theorem dX12_goes_0 : decode cX12_goes 0 = .ok (.iload_n 1, 1) := by decide +kernel
theorem dX12_goes_1 : decode cX12_goes 1 = .ok (.i2l, 1) := by decide +kernel
theorem dX12_goes_2 : decode cX12_goes 2 = .ok (.lconst 0, 1) := by decide +kernel
theorem dX12_goes_3 : decode cX12_goes 3 = .ok (.ldc2_w 201, 3) := by decide +kernel
theorem dX12_goes_6 : decode cX12_goes 6 = .ok (.invokestatic 44, 3) := by decide +kernel
theorem dX12_goes_9 : decode cX12_goes 9 = .ok (.ifCond .eq 15, 3) := by decide +kernel
theorem dX12_goes_12 : decode cX12_goes 12 = .ok (.iload_n 2, 1) := by decide +kernel
theorem dX12_goes_13 : decode cX12_goes 13 = .ok (.i2l, 1) := by decide +kernel
theorem dX12_goes_14 : decode cX12_goes 14 = .ok (.lconst 0, 1) := by decide +kernel
theorem dX12_goes_15 : decode cX12_goes 15 = .ok (.ldc2_w 203, 3) := by decide +kernel
theorem dX12_goes_18 : decode cX12_goes 18 = .ok (.invokestatic 44, 3) := by decide +kernel
theorem dX12_goes_21 : decode cX12_goes 21 = .ok (.ifCond .ne 5, 3) := by decide +kernel
theorem dX12_goes_24 : decode cX12_goes 24 = .ok (.iconst (-1), 1) := by decide +kernel
theorem dX12_goes_25 : decode cX12_goes 25 = .ok (.ireturn, 1) := by decide +kernel
theorem dX12_goes_26 : decode cX12_goes 26 = .ok (.ldc 205, 2) := by decide +kernel
theorem dX12_goes_28 : decode cX12_goes 28 = .ok (.istore_n 3, 1) := by decide +kernel
theorem dX12_goes_29 : decode cX12_goes 29 = .ok (.iconst 0, 1) := by decide +kernel
theorem dX12_goes_30 : decode cX12_goes 30 = .ok (.istore 4, 2) := by decide +kernel
theorem dX12_goes_32 : decode cX12_goes 32 = .ok (.iload 4, 2) := by decide +kernel
theorem dX12_goes_34 : decode cX12_goes 34 = .ok (.iload_n 1, 1) := by decide +kernel
theorem dX12_goes_35 : decode cX12_goes 35 = .ok (.if_icmp .ge 19, 3) := by decide +kernel
theorem dX12_goes_38 : decode cX12_goes 38 = .ok (.iload_n 3, 1) := by decide +kernel
theorem dX12_goes_39 : decode cX12_goes 39 = .ok (.bipush 100, 2) := by decide +kernel
theorem dX12_goes_41 : decode cX12_goes 41 = .ok (.iload_n 2, 1) := by decide +kernel
theorem dX12_goes_42 : decode cX12_goes 42 = .ok (.isub, 1) := by decide +kernel
theorem dX12_goes_43 : decode cX12_goes 43 = .ok (.imul, 1) := by decide +kernel
theorem dX12_goes_44 : decode cX12_goes 44 = .ok (.bipush 100, 2) := by decide +kernel
theorem dX12_goes_46 : decode cX12_goes 46 = .ok (.idiv, 1) := by decide +kernel
theorem dX12_goes_47 : decode cX12_goes 47 = .ok (.istore_n 3, 1) := by decide +kernel
theorem dX12_goes_48 : decode cX12_goes 48 = .ok (.iinc 4 1, 3) := by decide +kernel
theorem dX12_goes_51 : decode cX12_goes 51 = .ok (.goto (-19), 3) := by decide +kernel
theorem dX12_goes_54 : decode cX12_goes 54 = .ok (.iload_n 3, 1) := by decide +kernel
theorem dX12_goes_55 : decode cX12_goes 55 = .ok (.ireturn, 1) := by decide +kernel
theorem dX12_image_0 : decode cX12_image 0 = .ok (.iconst 0, 1) := by decide +kernel
theorem dX12_image_1 : decode cX12_image 1 = .ok (.istore_n 1, 1) := by decide +kernel
theorem dX12_image_2 : decode cX12_image 2 = .ok (.iload_n 1, 1) := by decide +kernel
theorem dX12_image_3 : decode cX12_image 3 = .ok (.bipush 54, 2) := by decide +kernel
theorem dX12_image_5 : decode cX12_image 5 = .ok (.if_icmp .ge 21, 3) := by decide +kernel
theorem dX12_image_8 : decode cX12_image 8 = .ok (.aload_n 0, 1) := by decide +kernel
theorem dX12_image_9 : decode cX12_image 9 = .ok (.getfield 25, 3) := by decide +kernel
theorem dX12_image_12 : decode cX12_image 12 = .ok (.iload_n 1, 1) := by decide +kernel
theorem dX12_image_13 : decode cX12_image 13 = .ok (.aload_n 0, 1) := by decide +kernel
theorem dX12_image_14 : decode cX12_image 14 = .ok (.getfield 7, 3) := by decide +kernel
theorem dX12_image_17 : decode cX12_image 17 = .ok (.iload_n 1, 1) := by decide +kernel
theorem dX12_image_18 : decode cX12_image 18 = .ok (.iaload, 1) := by decide +kernel
theorem dX12_image_19 : decode cX12_image 19 = .ok (.iastore, 1) := by decide +kernel
theorem dX12_image_20 : decode cX12_image 20 = .ok (.iinc 1 1, 3) := by decide +kernel
theorem dX12_image_23 : decode cX12_image 23 = .ok (.goto (-21), 3) := by decide +kernel
theorem dX12_image_26 : decode cX12_image 26 = .ok (.iconst 0, 1) := by decide +kernel
theorem dX12_image_27 : decode cX12_image 27 = .ok (.istore_n 1, 1) := by decide +kernel
theorem dX12_image_28 : decode cX12_image 28 = .ok (.iload_n 1, 1) := by decide +kernel
theorem dX12_image_29 : decode cX12_image 29 = .ok (.sipush 432, 3) := by decide +kernel
theorem dX12_image_32 : decode cX12_image 32 = .ok (.if_icmp .ge 24, 3) := by decide +kernel
theorem dX12_image_35 : decode cX12_image 35 = .ok (.aload_n 0, 1) := by decide +kernel
theorem dX12_image_36 : decode cX12_image 36 = .ok (.getfield 25, 3) := by decide +kernel
theorem dX12_image_39 : decode cX12_image 39 = .ok (.bipush 54, 2) := by decide +kernel
theorem dX12_image_41 : decode cX12_image 41 = .ok (.iload_n 1, 1) := by decide +kernel
theorem dX12_image_42 : decode cX12_image 42 = .ok (.iadd, 1) := by decide +kernel
theorem dX12_image_43 : decode cX12_image 43 = .ok (.aload_n 0, 1) := by decide +kernel
theorem dX12_image_44 : decode cX12_image 44 = .ok (.getfield 22, 3) := by decide +kernel
theorem dX12_image_47 : decode cX12_image 47 = .ok (.iload_n 1, 1) := by decide +kernel
theorem dX12_image_48 : decode cX12_image 48 = .ok (.iaload, 1) := by decide +kernel
theorem dX12_image_49 : decode cX12_image 49 = .ok (.iastore, 1) := by decide +kernel
theorem dX12_image_50 : decode cX12_image 50 = .ok (.iinc 1 1, 3) := by decide +kernel
theorem dX12_image_53 : decode cX12_image 53 = .ok (.goto (-25), 3) := by decide +kernel
theorem dX12_image_56 : decode cX12_image 56 = .ok (.aload_n 0, 1) := by decide +kernel
theorem dX12_image_57 : decode cX12_image 57 = .ok (.aload_n 0, 1) := by decide +kernel
theorem dX12_image_58 : decode cX12_image 58 = .ok (.getfield 62, 3) := by decide +kernel
theorem dX12_image_61 : decode cX12_image 61 = .ok (.putfield 206, 3) := by decide +kernel
theorem dX12_image_64 : decode cX12_image 64 = .ok (.aload_n 0, 1) := by decide +kernel
theorem dX12_image_65 : decode cX12_image 65 = .ok (.iconst 1, 1) := by decide +kernel
theorem dX12_image_66 : decode cX12_image 66 = .ok (.putfield 209, 3) := by decide +kernel
theorem dX12_image_69 : decode cX12_image 69 = .ok (.iconst 1, 1) := by decide +kernel
theorem dX12_image_70 : decode cX12_image 70 = .ok (.ireturn, 1) := by decide +kernel
theorem dX12_restore_0 : decode cX12_restore 0 = .ok (.aload_n 0, 1) := by decide +kernel
theorem dX12_restore_1 : decode cX12_restore 1 = .ok (.getfield 209, 3) := by decide +kernel
theorem dX12_restore_4 : decode cX12_restore 4 = .ok (.ifCond .ne 6, 3) := by decide +kernel
theorem dX12_restore_7 : decode cX12_restore 7 = .ok (.bipush (-4), 2) := by decide +kernel
theorem dX12_restore_9 : decode cX12_restore 9 = .ok (.ireturn, 1) := by decide +kernel
theorem dX12_restore_10 : decode cX12_restore 10 = .ok (.iconst 0, 1) := by decide +kernel
theorem dX12_restore_11 : decode cX12_restore 11 = .ok (.istore_n 1, 1) := by decide +kernel
theorem dX12_restore_12 : decode cX12_restore 12 = .ok (.iload_n 1, 1) := by decide +kernel
theorem dX12_restore_13 : decode cX12_restore 13 = .ok (.bipush 54, 2) := by decide +kernel
theorem dX12_restore_15 : decode cX12_restore 15 = .ok (.if_icmp .ge 21, 3) := by decide +kernel
theorem dX12_restore_18 : decode cX12_restore 18 = .ok (.aload_n 0, 1) := by decide +kernel
theorem dX12_restore_19 : decode cX12_restore 19 = .ok (.getfield 7, 3) := by decide +kernel
theorem dX12_restore_22 : decode cX12_restore 22 = .ok (.iload_n 1, 1) := by decide +kernel
theorem dX12_restore_23 : decode cX12_restore 23 = .ok (.aload_n 0, 1) := by decide +kernel
theorem dX12_restore_24 : decode cX12_restore 24 = .ok (.getfield 25, 3) := by decide +kernel
theorem dX12_restore_27 : decode cX12_restore 27 = .ok (.iload_n 1, 1) := by decide +kernel
theorem dX12_restore_28 : decode cX12_restore 28 = .ok (.iaload, 1) := by decide +kernel
theorem dX12_restore_29 : decode cX12_restore 29 = .ok (.iastore, 1) := by decide +kernel
theorem dX12_restore_30 : decode cX12_restore 30 = .ok (.iinc 1 1, 3) := by decide +kernel
theorem dX12_restore_33 : decode cX12_restore 33 = .ok (.goto (-21), 3) := by decide +kernel
theorem dX12_restore_36 : decode cX12_restore 36 = .ok (.iconst 0, 1) := by decide +kernel
theorem dX12_restore_37 : decode cX12_restore 37 = .ok (.istore_n 1, 1) := by decide +kernel
theorem dX12_restore_38 : decode cX12_restore 38 = .ok (.iload_n 1, 1) := by decide +kernel
theorem dX12_restore_39 : decode cX12_restore 39 = .ok (.sipush 432, 3) := by decide +kernel
theorem dX12_restore_42 : decode cX12_restore 42 = .ok (.if_icmp .ge 24, 3) := by decide +kernel
theorem dX12_restore_45 : decode cX12_restore 45 = .ok (.aload_n 0, 1) := by decide +kernel
theorem dX12_restore_46 : decode cX12_restore 46 = .ok (.getfield 22, 3) := by decide +kernel
theorem dX12_restore_49 : decode cX12_restore 49 = .ok (.iload_n 1, 1) := by decide +kernel
theorem dX12_restore_50 : decode cX12_restore 50 = .ok (.aload_n 0, 1) := by decide +kernel
theorem dX12_restore_51 : decode cX12_restore 51 = .ok (.getfield 25, 3) := by decide +kernel
theorem dX12_restore_54 : decode cX12_restore 54 = .ok (.bipush 54, 2) := by decide +kernel
theorem dX12_restore_56 : decode cX12_restore 56 = .ok (.iload_n 1, 1) := by decide +kernel
theorem dX12_restore_57 : decode cX12_restore 57 = .ok (.iadd, 1) := by decide +kernel
theorem dX12_restore_58 : decode cX12_restore 58 = .ok (.iaload, 1) := by decide +kernel
theorem dX12_restore_59 : decode cX12_restore 59 = .ok (.iastore, 1) := by decide +kernel
theorem dX12_restore_60 : decode cX12_restore 60 = .ok (.iinc 1 1, 3) := by decide +kernel
theorem dX12_restore_63 : decode cX12_restore 63 = .ok (.goto (-25), 3) := by decide +kernel
theorem dX12_restore_66 : decode cX12_restore 66 = .ok (.aload_n 0, 1) := by decide +kernel
theorem dX12_restore_67 : decode cX12_restore 67 = .ok (.aload_n 0, 1) := by decide +kernel
theorem dX12_restore_68 : decode cX12_restore 68 = .ok (.getfield 206, 3) := by decide +kernel
theorem dX12_restore_71 : decode cX12_restore 71 = .ok (.putfield 62, 3) := by decide +kernel
theorem dX12_restore_74 : decode cX12_restore 74 = .ok (.iconst 1, 1) := by decide +kernel
theorem dX12_restore_75 : decode cX12_restore 75 = .ok (.ireturn, 1) := by decide +kernel
theorem dX12_isSheet_0 : decode cX12_isSheet 0 = .ok (.iload_n 0, 1) := by decide +kernel
theorem dX12_isSheet_1 : decode cX12_isSheet 1 = .ok (.i2l, 1) := by decide +kernel
theorem dX12_isSheet_2 : decode cX12_isSheet 2 = .ok (.lconst 0, 1) := by decide +kernel
theorem dX12_isSheet_3 : decode cX12_isSheet 3 = .ok (.ldc2_w 212, 3) := by decide +kernel
theorem dX12_isSheet_6 : decode cX12_isSheet 6 = .ok (.invokestatic 44, 3) := by decide +kernel
theorem dX12_isSheet_9 : decode cX12_isSheet 9 = .ok (.ireturn, 1) := by decide +kernel
theorem dX12_isLane_0 : decode cX12_isLane 0 = .ok (.iload_n 0, 1) := by decide +kernel
theorem dX12_isLane_1 : decode cX12_isLane 1 = .ok (.i2l, 1) := by decide +kernel
theorem dX12_isLane_2 : decode cX12_isLane 2 = .ok (.lconst 0, 1) := by decide +kernel
theorem dX12_isLane_3 : decode cX12_isLane 3 = .ok (.ldc2_w 212, 3) := by decide +kernel
theorem dX12_isLane_6 : decode cX12_isLane 6 = .ok (.invokestatic 44, 3) := by decide +kernel
theorem dX12_isLane_9 : decode cX12_isLane 9 = .ok (.ireturn, 1) := by decide +kernel
theorem dX12_why_0 : decode cX12_why 0 = .ok (.aload_n 0, 1) := by decide +kernel
theorem dX12_why_1 : decode cX12_why 1 = .ok (.getfield 28, 3) := by decide +kernel
theorem dX12_why_4 : decode cX12_why 4 = .ok (.iload_n 1, 1) := by decide +kernel
theorem dX12_why_5 : decode cX12_why 5 = .ok (.iaload, 1) := by decide +kernel
theorem dX12_why_6 : decode cX12_why 6 = .ok (.ifCond .ge 6, 3) := by decide +kernel
theorem dX12_why_9 : decode cX12_why 9 = .ok (.bipush (-11), 2) := by decide +kernel
theorem dX12_why_11 : decode cX12_why 11 = .ok (.ireturn, 1) := by decide +kernel
theorem dX12_why_12 : decode cX12_why 12 = .ok (.aload_n 0, 1) := by decide +kernel
theorem dX12_why_13 : decode cX12_why 13 = .ok (.getfield 28, 3) := by decide +kernel
theorem dX12_why_16 : decode cX12_why 16 = .ok (.iload_n 1, 1) := by decide +kernel
theorem dX12_why_17 : decode cX12_why 17 = .ok (.iaload, 1) := by decide +kernel
theorem dX12_why_18 : decode cX12_why 18 = .ok (.iload_n 2, 1) := by decide +kernel
theorem dX12_why_19 : decode cX12_why 19 = .ok (.if_icmp .eq 6, 3) := by decide +kernel
theorem dX12_why_22 : decode cX12_why 22 = .ok (.bipush (-12), 2) := by decide +kernel
theorem dX12_why_24 : decode cX12_why 24 = .ok (.ireturn, 1) := by decide +kernel
theorem dX12_why_25 : decode cX12_why 25 = .ok (.iload_n 3, 1) := by decide +kernel
theorem dX12_why_26 : decode cX12_why 26 = .ok (.ifCond .lt 25, 3) := by decide +kernel
theorem dX12_why_29 : decode cX12_why 29 = .ok (.iload 4, 2) := by decide +kernel
theorem dX12_why_31 : decode cX12_why 31 = .ok (.ifCond .lt 20, 3) := by decide +kernel
theorem dX12_why_34 : decode cX12_why 34 = .ok (.iload_n 3, 1) := by decide +kernel
theorem dX12_why_35 : decode cX12_why 35 = .ok (.i2l, 1) := by decide +kernel
theorem dX12_why_36 : decode cX12_why 36 = .ok (.iload 4, 2) := by decide +kernel
theorem dX12_why_38 : decode cX12_why 38 = .ok (.i2l, 1) := by decide +kernel
theorem dX12_why_39 : decode cX12_why 39 = .ok (.ladd, 1) := by decide +kernel
theorem dX12_why_40 : decode cX12_why 40 = .ok (.aload_n 0, 1) := by decide +kernel
theorem dX12_why_41 : decode cX12_why 41 = .ok (.getfield 31, 3) := by decide +kernel
theorem dX12_why_44 : decode cX12_why 44 = .ok (.iload_n 1, 1) := by decide +kernel
theorem dX12_why_45 : decode cX12_why 45 = .ok (.iaload, 1) := by decide +kernel
theorem dX12_why_46 : decode cX12_why 46 = .ok (.i2l, 1) := by decide +kernel
theorem dX12_why_47 : decode cX12_why 47 = .ok (.lcmp, 1) := by decide +kernel
theorem dX12_why_48 : decode cX12_why 48 = .ok (.ifCond .le 8, 3) := by decide +kernel
theorem dX12_why_51 : decode cX12_why 51 = .ok (.bipush (-13), 2) := by decide +kernel
theorem dX12_why_53 : decode cX12_why 53 = .ok (.goto 4, 3) := by decide +kernel
theorem dX12_why_56 : decode cX12_why 56 = .ok (.iconst 0, 1) := by decide +kernel
theorem dX12_why_57 : decode cX12_why 57 = .ok (.ireturn, 1) := by decide +kernel
theorem dX12_weighed_0 : decode cX12_weighed 0 = .ok (.iload_n 1, 1) := by decide +kernel
theorem dX12_weighed_1 : decode cX12_weighed 1 = .ok (.invokestatic 214, 3) := by decide +kernel
theorem dX12_weighed_4 : decode cX12_weighed 4 = .ok (.ifCond .eq 34, 3) := by decide +kernel
theorem dX12_weighed_7 : decode cX12_weighed 7 = .ok (.iload_n 2, 1) := by decide +kernel
theorem dX12_weighed_8 : decode cX12_weighed 8 = .ok (.invokestatic 217, 3) := by decide +kernel
theorem dX12_weighed_11 : decode cX12_weighed 11 = .ok (.ifCond .eq 27, 3) := by decide +kernel
theorem dX12_weighed_14 : decode cX12_weighed 14 = .ok (.iload 4, 2) := by decide +kernel
theorem dX12_weighed_16 : decode cX12_weighed 16 = .ok (.i2l, 1) := by decide +kernel
theorem dX12_weighed_17 : decode cX12_weighed 17 = .ok (.lconst 1, 1) := by decide +kernel
theorem dX12_weighed_18 : decode cX12_weighed 18 = .ok (.ldc2_w 66, 3) := by decide +kernel
theorem dX12_weighed_21 : decode cX12_weighed 21 = .ok (.invokestatic 44, 3) := by decide +kernel
theorem dX12_weighed_24 : decode cX12_weighed 24 = .ok (.ifCond .eq 14, 3) := by decide +kernel
theorem dX12_weighed_27 : decode cX12_weighed 27 = .ok (.iload 5, 2) := by decide +kernel
theorem dX12_weighed_29 : decode cX12_weighed 29 = .ok (.i2l, 1) := by decide +kernel
theorem dX12_weighed_30 : decode cX12_weighed 30 = .ok (.lconst 0, 1) := by decide +kernel
theorem dX12_weighed_31 : decode cX12_weighed 31 = .ok (.lconst 1, 1) := by decide +kernel
theorem dX12_weighed_32 : decode cX12_weighed 32 = .ok (.invokestatic 44, 3) := by decide +kernel
theorem dX12_weighed_35 : decode cX12_weighed 35 = .ok (.ifCond .ne 5, 3) := by decide +kernel
theorem dX12_weighed_38 : decode cX12_weighed 38 = .ok (.iconst (-1), 1) := by decide +kernel
theorem dX12_weighed_39 : decode cX12_weighed 39 = .ok (.ireturn, 1) := by decide +kernel
theorem dX12_weighed_40 : decode cX12_weighed 40 = .ok (.aload_n 0, 1) := by decide +kernel
theorem dX12_weighed_41 : decode cX12_weighed 41 = .ok (.iload_n 1, 1) := by decide +kernel
theorem dX12_weighed_42 : decode cX12_weighed 42 = .ok (.iload_n 2, 1) := by decide +kernel
theorem dX12_weighed_43 : decode cX12_weighed 43 = .ok (.iload_n 3, 1) := by decide +kernel
theorem dX12_weighed_44 : decode cX12_weighed 44 = .ok (.iload 4, 2) := by decide +kernel
theorem dX12_weighed_46 : decode cX12_weighed 46 = .ok (.invokevirtual 220, 3) := by decide +kernel
theorem dX12_weighed_49 : decode cX12_weighed 49 = .ok (.istore 6, 2) := by decide +kernel
theorem dX12_weighed_51 : decode cX12_weighed 51 = .ok (.iload 6, 2) := by decide +kernel
theorem dX12_weighed_53 : decode cX12_weighed 53 = .ok (.ifCond .ge 6, 3) := by decide +kernel
theorem dX12_weighed_56 : decode cX12_weighed 56 = .ok (.iload 6, 2) := by decide +kernel
theorem dX12_weighed_58 : decode cX12_weighed 58 = .ok (.ireturn, 1) := by decide +kernel
theorem dX12_weighed_59 : decode cX12_weighed 59 = .ok (.bipush 24, 2) := by decide +kernel
theorem dX12_weighed_61 : decode cX12_weighed 61 = .ok (.iload_n 1, 1) := by decide +kernel
theorem dX12_weighed_62 : decode cX12_weighed 62 = .ok (.imul, 1) := by decide +kernel
theorem dX12_weighed_63 : decode cX12_weighed 63 = .ok (.iload_n 3, 1) := by decide +kernel
theorem dX12_weighed_64 : decode cX12_weighed 64 = .ok (.iadd, 1) := by decide +kernel
theorem dX12_weighed_65 : decode cX12_weighed 65 = .ok (.istore 7, 2) := by decide +kernel
theorem dX12_weighed_67 : decode cX12_weighed 67 = .ok (.iconst 0, 1) := by decide +kernel
theorem dX12_weighed_68 : decode cX12_weighed 68 = .ok (.istore 8, 2) := by decide +kernel
theorem dX12_weighed_70 : decode cX12_weighed 70 = .ok (.iload 8, 2) := by decide +kernel
theorem dX12_weighed_72 : decode cX12_weighed 72 = .ok (.iload 4, 2) := by decide +kernel
theorem dX12_weighed_74 : decode cX12_weighed 74 = .ok (.if_icmp .ge 32, 3) := by decide +kernel
theorem dX12_weighed_77 : decode cX12_weighed 77 = .ok (.aload_n 0, 1) := by decide +kernel
theorem dX12_weighed_78 : decode cX12_weighed 78 = .ok (.getfield 34, 3) := by decide +kernel
theorem dX12_weighed_81 : decode cX12_weighed 81 = .ok (.iload 7, 2) := by decide +kernel
theorem dX12_weighed_83 : decode cX12_weighed 83 = .ok (.iload 8, 2) := by decide +kernel
theorem dX12_weighed_85 : decode cX12_weighed 85 = .ok (.iadd, 1) := by decide +kernel
theorem dX12_weighed_86 : decode cX12_weighed 86 = .ok (.laload, 1) := by decide +kernel
theorem dX12_weighed_87 : decode cX12_weighed 87 = .ok (.lconst 0, 1) := by decide +kernel
theorem dX12_weighed_88 : decode cX12_weighed 88 = .ok (.ldc2_w 171, 3) := by decide +kernel
theorem dX12_weighed_91 : decode cX12_weighed 91 = .ok (.invokestatic 44, 3) := by decide +kernel
theorem dX12_weighed_94 : decode cX12_weighed 94 = .ok (.ifCond .ne 6, 3) := by decide +kernel
theorem dX12_weighed_97 : decode cX12_weighed 97 = .ok (.bipush (-2), 2) := by decide +kernel
theorem dX12_weighed_99 : decode cX12_weighed 99 = .ok (.ireturn, 1) := by decide +kernel
theorem dX12_weighed_100 : decode cX12_weighed 100 = .ok (.iinc 8 1, 3) := by decide +kernel
theorem dX12_weighed_103 : decode cX12_weighed 103 = .ok (.goto (-33), 3) := by decide +kernel
theorem dX12_weighed_106 : decode cX12_weighed 106 = .ok (.iconst 1, 1) := by decide +kernel
theorem dX12_weighed_107 : decode cX12_weighed 107 = .ok (.istore 8, 2) := by decide +kernel
theorem dX12_weighed_109 : decode cX12_weighed 109 = .ok (.iconst 0, 1) := by decide +kernel
theorem dX12_weighed_110 : decode cX12_weighed 110 = .ok (.istore 9, 2) := by decide +kernel
theorem dX12_weighed_112 : decode cX12_weighed 112 = .ok (.iload 9, 2) := by decide +kernel
theorem dX12_weighed_114 : decode cX12_weighed 114 = .ok (.aload_n 0, 1) := by decide +kernel
theorem dX12_weighed_115 : decode cX12_weighed 115 = .ok (.getfield 7, 3) := by decide +kernel
theorem dX12_weighed_118 : decode cX12_weighed 118 = .ok (.iconst 0, 1) := by decide +kernel
theorem dX12_weighed_119 : decode cX12_weighed 119 = .ok (.iaload, 1) := by decide +kernel
theorem dX12_weighed_120 : decode cX12_weighed 120 = .ok (.if_icmp .ge 18, 3) := by decide +kernel
theorem dX12_weighed_123 : decode cX12_weighed 123 = .ok (.iload 8, 2) := by decide +kernel
theorem dX12_weighed_125 : decode cX12_weighed 125 = .ok (.iload 4, 2) := by decide +kernel
theorem dX12_weighed_127 : decode cX12_weighed 127 = .ok (.iconst 1, 1) := by decide +kernel
theorem dX12_weighed_128 : decode cX12_weighed 128 = .ok (.iadd, 1) := by decide +kernel
theorem dX12_weighed_129 : decode cX12_weighed 129 = .ok (.imul, 1) := by decide +kernel
theorem dX12_weighed_130 : decode cX12_weighed 130 = .ok (.istore 8, 2) := by decide +kernel
theorem dX12_weighed_132 : decode cX12_weighed 132 = .ok (.iinc 9 1, 3) := by decide +kernel
theorem dX12_weighed_135 : decode cX12_weighed 135 = .ok (.goto (-23), 3) := by decide +kernel
theorem dX12_weighed_138 : decode cX12_weighed 138 = .ok (.iconst 0, 1) := by decide +kernel
theorem dX12_weighed_139 : decode cX12_weighed 139 = .ok (.istore 9, 2) := by decide +kernel
theorem dX12_weighed_141 : decode cX12_weighed 141 = .ok (.bipush (-4), 2) := by decide +kernel
theorem dX12_weighed_143 : decode cX12_weighed 143 = .ok (.istore 10, 2) := by decide +kernel
theorem dX12_weighed_145 : decode cX12_weighed 145 = .ok (.iconst 0, 1) := by decide +kernel
theorem dX12_weighed_146 : decode cX12_weighed 146 = .ok (.istore 11, 2) := by decide +kernel
theorem dX12_weighed_148 : decode cX12_weighed 148 = .ok (.iload 11, 2) := by decide +kernel
theorem dX12_weighed_150 : decode cX12_weighed 150 = .ok (.iload 8, 2) := by decide +kernel
theorem dX12_weighed_152 : decode cX12_weighed 152 = .ok (.if_icmp .ge 204, 3) := by decide +kernel
theorem dX12_weighed_155 : decode cX12_weighed 155 = .ok (.iconst 0, 1) := by decide +kernel
theorem dX12_weighed_156 : decode cX12_weighed 156 = .ok (.istore 12, 2) := by decide +kernel
theorem dX12_weighed_158 : decode cX12_weighed 158 = .ok (.lconst 0, 1) := by decide +kernel
theorem dX12_weighed_159 : decode cX12_weighed 159 = .ok (.lstore 13, 2) := by decide +kernel
theorem dX12_weighed_161 : decode cX12_weighed 161 = .ok (.iload 11, 2) := by decide +kernel
theorem dX12_weighed_163 : decode cX12_weighed 163 = .ok (.istore 15, 2) := by decide +kernel
theorem dX12_weighed_165 : decode cX12_weighed 165 = .ok (.iconst 0, 1) := by decide +kernel
theorem dX12_weighed_166 : decode cX12_weighed 166 = .ok (.istore 16, 2) := by decide +kernel
theorem dX12_weighed_168 : decode cX12_weighed 168 = .ok (.iload 16, 2) := by decide +kernel
theorem dX12_weighed_170 : decode cX12_weighed 170 = .ok (.aload_n 0, 1) := by decide +kernel
theorem dX12_weighed_171 : decode cX12_weighed 171 = .ok (.getfield 7, 3) := by decide +kernel
theorem dX12_weighed_174 : decode cX12_weighed 174 = .ok (.iconst 0, 1) := by decide +kernel
theorem dX12_weighed_175 : decode cX12_weighed 175 = .ok (.iaload, 1) := by decide +kernel
theorem dX12_weighed_176 : decode cX12_weighed 176 = .ok (.if_icmp .ge 74, 3) := by decide +kernel
theorem dX12_weighed_179 : decode cX12_weighed 179 = .ok (.iload 15, 2) := by decide +kernel
theorem dX12_weighed_181 : decode cX12_weighed 181 = .ok (.iload 4, 2) := by decide +kernel
theorem dX12_weighed_183 : decode cX12_weighed 183 = .ok (.iconst 1, 1) := by decide +kernel
theorem dX12_weighed_184 : decode cX12_weighed 184 = .ok (.iadd, 1) := by decide +kernel
theorem dX12_weighed_185 : decode cX12_weighed 185 = .ok (.irem, 1) := by decide +kernel
theorem dX12_weighed_186 : decode cX12_weighed 186 = .ok (.istore 17, 2) := by decide +kernel
theorem dX12_weighed_188 : decode cX12_weighed 188 = .ok (.iload 15, 2) := by decide +kernel
theorem dX12_weighed_190 : decode cX12_weighed 190 = .ok (.iload 4, 2) := by decide +kernel
theorem dX12_weighed_192 : decode cX12_weighed 192 = .ok (.iconst 1, 1) := by decide +kernel
theorem dX12_weighed_193 : decode cX12_weighed 193 = .ok (.iadd, 1) := by decide +kernel
theorem dX12_weighed_194 : decode cX12_weighed 194 = .ok (.idiv, 1) := by decide +kernel
theorem dX12_weighed_195 : decode cX12_weighed 195 = .ok (.istore 15, 2) := by decide +kernel
theorem dX12_weighed_197 : decode cX12_weighed 197 = .ok (.iload 12, 2) := by decide +kernel
theorem dX12_weighed_199 : decode cX12_weighed 199 = .ok (.iload 17, 2) := by decide +kernel
theorem dX12_weighed_201 : decode cX12_weighed 201 = .ok (.ifCond .ne 7, 3) := by decide +kernel
theorem dX12_weighed_204 : decode cX12_weighed 204 = .ok (.iconst 0, 1) := by decide +kernel
theorem dX12_weighed_205 : decode cX12_weighed 205 = .ok (.goto 7, 3) := by decide +kernel
theorem dX12_weighed_208 : decode cX12_weighed 208 = .ok (.iconst 1, 1) := by decide +kernel
theorem dX12_weighed_209 : decode cX12_weighed 209 = .ok (.iload 16, 2) := by decide +kernel
theorem dX12_weighed_211 : decode cX12_weighed 211 = .ok (.ishl, 1) := by decide +kernel
theorem dX12_weighed_212 : decode cX12_weighed 212 = .ok (.ior, 1) := by decide +kernel
theorem dX12_weighed_213 : decode cX12_weighed 213 = .ok (.istore 12, 2) := by decide +kernel
theorem dX12_weighed_215 : decode cX12_weighed 215 = .ok (.lload 13, 2) := by decide +kernel
theorem dX12_weighed_217 : decode cX12_weighed 217 = .ok (.iload 17, 2) := by decide +kernel
theorem dX12_weighed_219 : decode cX12_weighed 219 = .ok (.ifCond .ne 7, 3) := by decide +kernel
theorem dX12_weighed_222 : decode cX12_weighed 222 = .ok (.lconst 0, 1) := by decide +kernel
theorem dX12_weighed_223 : decode cX12_weighed 223 = .ok (.goto 18, 3) := by decide +kernel
theorem dX12_weighed_226 : decode cX12_weighed 226 = .ok (.aload_n 0, 1) := by decide +kernel
theorem dX12_weighed_227 : decode cX12_weighed 227 = .ok (.iload 16, 2) := by decide +kernel
theorem dX12_weighed_229 : decode cX12_weighed 229 = .ok (.invokevirtual 58, 3) := by decide +kernel
theorem dX12_weighed_232 : decode cX12_weighed 232 = .ok (.i2l, 1) := by decide +kernel
theorem dX12_weighed_233 : decode cX12_weighed 233 = .ok (.bipush 10, 2) := by decide +kernel
theorem dX12_weighed_235 : decode cX12_weighed 235 = .ok (.iload 17, 2) := by decide +kernel
theorem dX12_weighed_237 : decode cX12_weighed 237 = .ok (.iconst 1, 1) := by decide +kernel
theorem dX12_weighed_238 : decode cX12_weighed 238 = .ok (.isub, 1) := by decide +kernel
theorem dX12_weighed_239 : decode cX12_weighed 239 = .ok (.imul, 1) := by decide +kernel
theorem dX12_weighed_240 : decode cX12_weighed 240 = .ok (.lshl, 1) := by decide +kernel
theorem dX12_weighed_241 : decode cX12_weighed 241 = .ok (.ladd, 1) := by decide +kernel
theorem dX12_weighed_242 : decode cX12_weighed 242 = .ok (.lstore 13, 2) := by decide +kernel
theorem dX12_weighed_244 : decode cX12_weighed 244 = .ok (.iinc 16 1, 3) := by decide +kernel
theorem dX12_weighed_247 : decode cX12_weighed 247 = .ok (.goto (-79), 3) := by decide +kernel
theorem dX12_weighed_250 : decode cX12_weighed 250 = .ok (.iconst 1, 1) := by decide +kernel
theorem dX12_weighed_251 : decode cX12_weighed 251 = .ok (.istore 16, 2) := by decide +kernel
theorem dX12_weighed_253 : decode cX12_weighed 253 = .ok (.iconst 0, 1) := by decide +kernel
theorem dX12_weighed_254 : decode cX12_weighed 254 = .ok (.istore 17, 2) := by decide +kernel
theorem dX12_weighed_256 : decode cX12_weighed 256 = .ok (.iload 17, 2) := by decide +kernel
theorem dX12_weighed_258 : decode cX12_weighed 258 = .ok (.iload 4, 2) := by decide +kernel
theorem dX12_weighed_260 : decode cX12_weighed 260 = .ok (.if_icmp .ge 47, 3) := by decide +kernel
theorem dX12_weighed_263 : decode cX12_weighed 263 = .ok (.iload 16, 2) := by decide +kernel
theorem dX12_weighed_265 : decode cX12_weighed 265 = .ok (.ifCond .eq 33, 3) := by decide +kernel
theorem dX12_weighed_268 : decode cX12_weighed 268 = .ok (.lload 13, 2) := by decide +kernel
theorem dX12_weighed_270 : decode cX12_weighed 270 = .ok (.bipush 10, 2) := by decide +kernel
theorem dX12_weighed_272 : decode cX12_weighed 272 = .ok (.iload 17, 2) := by decide +kernel
theorem dX12_weighed_274 : decode cX12_weighed 274 = .ok (.imul, 1) := by decide +kernel
theorem dX12_weighed_275 : decode cX12_weighed 275 = .ok (.lshr, 1) := by decide +kernel
theorem dX12_weighed_276 : decode cX12_weighed 276 = .ok (.ldc2_w 224, 3) := by decide +kernel
theorem dX12_weighed_279 : decode cX12_weighed 279 = .ok (.land, 1) := by decide +kernel
theorem dX12_weighed_280 : decode cX12_weighed 280 = .ok (.aload_n 0, 1) := by decide +kernel
theorem dX12_weighed_281 : decode cX12_weighed 281 = .ok (.getfield 34, 3) := by decide +kernel
theorem dX12_weighed_284 : decode cX12_weighed 284 = .ok (.iload 7, 2) := by decide +kernel
theorem dX12_weighed_286 : decode cX12_weighed 286 = .ok (.iload 17, 2) := by decide +kernel
theorem dX12_weighed_288 : decode cX12_weighed 288 = .ok (.iadd, 1) := by decide +kernel
theorem dX12_weighed_289 : decode cX12_weighed 289 = .ok (.laload, 1) := by decide +kernel
theorem dX12_weighed_290 : decode cX12_weighed 290 = .ok (.lcmp, 1) := by decide +kernel
theorem dX12_weighed_291 : decode cX12_weighed 291 = .ok (.ifCond .ne 7, 3) := by decide +kernel
theorem dX12_weighed_294 : decode cX12_weighed 294 = .ok (.iconst 1, 1) := by decide +kernel
theorem dX12_weighed_295 : decode cX12_weighed 295 = .ok (.goto 4, 3) := by decide +kernel
theorem dX12_weighed_298 : decode cX12_weighed 298 = .ok (.iconst 0, 1) := by decide +kernel
theorem dX12_weighed_299 : decode cX12_weighed 299 = .ok (.istore 16, 2) := by decide +kernel
theorem dX12_weighed_301 : decode cX12_weighed 301 = .ok (.iinc 17 1, 3) := by decide +kernel
theorem dX12_weighed_304 : decode cX12_weighed 304 = .ok (.goto (-48), 3) := by decide +kernel
theorem dX12_weighed_307 : decode cX12_weighed 307 = .ok (.iload 9, 2) := by decide +kernel
theorem dX12_weighed_309 : decode cX12_weighed 309 = .ok (.iload 16, 2) := by decide +kernel
theorem dX12_weighed_311 : decode cX12_weighed 311 = .ok (.ifCond .eq 7, 3) := by decide +kernel
theorem dX12_weighed_314 : decode cX12_weighed 314 = .ok (.iconst 1, 1) := by decide +kernel
theorem dX12_weighed_315 : decode cX12_weighed 315 = .ok (.goto 4, 3) := by decide +kernel
theorem dX12_weighed_318 : decode cX12_weighed 318 = .ok (.iconst 0, 1) := by decide +kernel
theorem dX12_weighed_319 : decode cX12_weighed 319 = .ok (.iadd, 1) := by decide +kernel
theorem dX12_weighed_320 : decode cX12_weighed 320 = .ok (.istore 9, 2) := by decide +kernel
theorem dX12_weighed_322 : decode cX12_weighed 322 = .ok (.iload 16, 2) := by decide +kernel
theorem dX12_weighed_324 : decode cX12_weighed 324 = .ok (.ifCond .eq 22, 3) := by decide +kernel
theorem dX12_weighed_327 : decode cX12_weighed 327 = .ok (.iload 10, 2) := by decide +kernel
theorem dX12_weighed_329 : decode cX12_weighed 329 = .ok (.bipush (-4), 2) := by decide +kernel
theorem dX12_weighed_331 : decode cX12_weighed 331 = .ok (.if_icmp .eq 10, 3) := by decide +kernel
theorem dX12_weighed_334 : decode cX12_weighed 334 = .ok (.iload 12, 2) := by decide +kernel
theorem dX12_weighed_336 : decode cX12_weighed 336 = .ok (.iload 10, 2) := by decide +kernel
theorem dX12_weighed_338 : decode cX12_weighed 338 = .ok (.if_icmp .ge 8, 3) := by decide +kernel
theorem dX12_weighed_341 : decode cX12_weighed 341 = .ok (.iload 12, 2) := by decide +kernel
theorem dX12_weighed_343 : decode cX12_weighed 343 = .ok (.goto 5, 3) := by decide +kernel
theorem dX12_weighed_346 : decode cX12_weighed 346 = .ok (.iload 10, 2) := by decide +kernel
theorem dX12_weighed_348 : decode cX12_weighed 348 = .ok (.istore 10, 2) := by decide +kernel
theorem dX12_weighed_350 : decode cX12_weighed 350 = .ok (.iinc 11 1, 3) := by decide +kernel
theorem dX12_weighed_353 : decode cX12_weighed 353 = .ok (.goto (-205), 3) := by decide +kernel
theorem dX12_weighed_356 : decode cX12_weighed 356 = .ok (.iload 5, 2) := by decide +kernel
theorem dX12_weighed_358 : decode cX12_weighed 358 = .ok (.ifCond .ne 8, 3) := by decide +kernel
theorem dX12_weighed_361 : decode cX12_weighed 361 = .ok (.iload 9, 2) := by decide +kernel
theorem dX12_weighed_363 : decode cX12_weighed 363 = .ok (.goto 5, 3) := by decide +kernel
theorem dX12_weighed_366 : decode cX12_weighed 366 = .ok (.iload 10, 2) := by decide +kernel
theorem dX12_weighed_368 : decode cX12_weighed 368 = .ok (.ireturn, 1) := by decide +kernel
theorem dX12_film_0 : decode cX12_film 0 = .ok (.aload_n 0, 1) := by decide +kernel
theorem dX12_film_1 : decode cX12_film 1 = .ok (.iload_n 1, 1) := by decide +kernel
theorem dX12_film_2 : decode cX12_film 2 = .ok (.invokevirtual 70, 3) := by decide +kernel
theorem dX12_film_5 : decode cX12_film 5 = .ok (.ifCond .eq 41, 3) := by decide +kernel
theorem dX12_film_8 : decode cX12_film 8 = .ok (.iload_n 2, 1) := by decide +kernel
theorem dX12_film_9 : decode cX12_film 9 = .ok (.i2l, 1) := by decide +kernel
theorem dX12_film_10 : decode cX12_film 10 = .ok (.lconst 0, 1) := by decide +kernel
theorem dX12_film_11 : decode cX12_film 11 = .ok (.lconst 1, 1) := by decide +kernel
theorem dX12_film_12 : decode cX12_film 12 = .ok (.invokestatic 44, 3) := by decide +kernel
theorem dX12_film_15 : decode cX12_film 15 = .ok (.ifCond .eq 31, 3) := by decide +kernel
theorem dX12_film_18 : decode cX12_film 18 = .ok (.iload_n 3, 1) := by decide +kernel
theorem dX12_film_19 : decode cX12_film 19 = .ok (.i2l, 1) := by decide +kernel
theorem dX12_film_20 : decode cX12_film 20 = .ok (.lconst 1, 1) := by decide +kernel
theorem dX12_film_21 : decode cX12_film 21 = .ok (.ldc2_w 105, 3) := by decide +kernel
theorem dX12_film_24 : decode cX12_film 24 = .ok (.invokestatic 44, 3) := by decide +kernel
theorem dX12_film_27 : decode cX12_film 27 = .ok (.ifCond .eq 19, 3) := by decide +kernel
theorem dX12_film_30 : decode cX12_film 30 = .ok (.iload 4, 2) := by decide +kernel
theorem dX12_film_32 : decode cX12_film 32 = .ok (.invokestatic 214, 3) := by decide +kernel
theorem dX12_film_35 : decode cX12_film 35 = .ok (.ifCond .eq 11, 3) := by decide +kernel
theorem dX12_film_38 : decode cX12_film 38 = .ok (.iload 5, 2) := by decide +kernel
theorem dX12_film_40 : decode cX12_film 40 = .ok (.invokestatic 217, 3) := by decide +kernel
theorem dX12_film_43 : decode cX12_film 43 = .ok (.ifCond .ne 5, 3) := by decide +kernel
theorem dX12_film_46 : decode cX12_film 46 = .ok (.iconst (-1), 1) := by decide +kernel
theorem dX12_film_47 : decode cX12_film 47 = .ok (.ireturn, 1) := by decide +kernel
theorem dX12_film_48 : decode cX12_film 48 = .ok (.aload_n 0, 1) := by decide +kernel
theorem dX12_film_49 : decode cX12_film 49 = .ok (.iload 4, 2) := by decide +kernel
theorem dX12_film_51 : decode cX12_film 51 = .ok (.iload 5, 2) := by decide +kernel
theorem dX12_film_53 : decode cX12_film 53 = .ok (.iload 6, 2) := by decide +kernel
theorem dX12_film_55 : decode cX12_film 55 = .ok (.iload_n 3, 1) := by decide +kernel
theorem dX12_film_56 : decode cX12_film 56 = .ok (.invokevirtual 220, 3) := by decide +kernel
theorem dX12_film_59 : decode cX12_film 59 = .ok (.istore 7, 2) := by decide +kernel
theorem dX12_film_61 : decode cX12_film 61 = .ok (.iload 7, 2) := by decide +kernel
theorem dX12_film_63 : decode cX12_film 63 = .ok (.ifCond .ge 6, 3) := by decide +kernel
theorem dX12_film_66 : decode cX12_film 66 = .ok (.iload 7, 2) := by decide +kernel
theorem dX12_film_68 : decode cX12_film 68 = .ok (.ireturn, 1) := by decide +kernel
theorem dX12_film_69 : decode cX12_film 69 = .ok (.iconst 0, 1) := by decide +kernel
theorem dX12_film_70 : decode cX12_film 70 = .ok (.istore 8, 2) := by decide +kernel
theorem dX12_film_72 : decode cX12_film 72 = .ok (.iload 8, 2) := by decide +kernel
theorem dX12_film_74 : decode cX12_film 74 = .ok (.bipush 54, 2) := by decide +kernel
theorem dX12_film_76 : decode cX12_film 76 = .ok (.if_icmp .ge 23, 3) := by decide +kernel
theorem dX12_film_79 : decode cX12_film 79 = .ok (.aload_n 0, 1) := by decide +kernel
theorem dX12_film_80 : decode cX12_film 80 = .ok (.getfield 41, 3) := by decide +kernel
theorem dX12_film_83 : decode cX12_film 83 = .ok (.iload 8, 2) := by decide +kernel
theorem dX12_film_85 : decode cX12_film 85 = .ok (.aload_n 0, 1) := by decide +kernel
theorem dX12_film_86 : decode cX12_film 86 = .ok (.getfield 7, 3) := by decide +kernel
theorem dX12_film_89 : decode cX12_film 89 = .ok (.iload 8, 2) := by decide +kernel
theorem dX12_film_91 : decode cX12_film 91 = .ok (.iaload, 1) := by decide +kernel
theorem dX12_film_92 : decode cX12_film 92 = .ok (.iastore, 1) := by decide +kernel
theorem dX12_film_93 : decode cX12_film 93 = .ok (.iinc 8 1, 3) := by decide +kernel
theorem dX12_film_96 : decode cX12_film 96 = .ok (.goto (-24), 3) := by decide +kernel
theorem dX12_film_99 : decode cX12_film 99 = .ok (.iconst 0, 1) := by decide +kernel
theorem dX12_film_100 : decode cX12_film 100 = .ok (.istore 8, 2) := by decide +kernel
theorem dX12_film_102 : decode cX12_film 102 = .ok (.iload 8, 2) := by decide +kernel
theorem dX12_film_104 : decode cX12_film 104 = .ok (.iload_n 3, 1) := by decide +kernel
theorem dX12_film_105 : decode cX12_film 105 = .ok (.if_icmp .ge 50, 3) := by decide +kernel
theorem dX12_film_108 : decode cX12_film 108 = .ok (.aload_n 0, 1) := by decide +kernel
theorem dX12_film_109 : decode cX12_film 109 = .ok (.invokevirtual 158, 3) := by decide +kernel
theorem dX12_film_112 : decode cX12_film 112 = .ok (.aload_n 0, 1) := by decide +kernel
theorem dX12_film_113 : decode cX12_film 113 = .ok (.getfield 34, 3) := by decide +kernel
theorem dX12_film_116 : decode cX12_film 116 = .ok (.bipush 24, 2) := by decide +kernel
theorem dX12_film_118 : decode cX12_film 118 = .ok (.iload 4, 2) := by decide +kernel
theorem dX12_film_120 : decode cX12_film 120 = .ok (.imul, 1) := by decide +kernel
theorem dX12_film_121 : decode cX12_film 121 = .ok (.iload 6, 2) := by decide +kernel
theorem dX12_film_123 : decode cX12_film 123 = .ok (.iadd, 1) := by decide +kernel
theorem dX12_film_124 : decode cX12_film 124 = .ok (.iload 8, 2) := by decide +kernel
theorem dX12_film_126 : decode cX12_film 126 = .ok (.iadd, 1) := by decide +kernel
theorem dX12_film_127 : decode cX12_film 127 = .ok (.aload_n 0, 1) := by decide +kernel
theorem dX12_film_128 : decode cX12_film 128 = .ok (.aload_n 0, 1) := by decide +kernel
theorem dX12_film_129 : decode cX12_film 129 = .ok (.aload_n 0, 1) := by decide +kernel
theorem dX12_film_130 : decode cX12_film 130 = .ok (.iload_n 1, 1) := by decide +kernel
theorem dX12_film_131 : decode cX12_film 131 = .ok (.iload_n 2, 1) := by decide +kernel
theorem dX12_film_132 : decode cX12_film 132 = .ok (.invokevirtual 142, 3) := by decide +kernel
theorem dX12_film_135 : decode cX12_film 135 = .ok (.aload_n 0, 1) := by decide +kernel
theorem dX12_film_136 : decode cX12_film 136 = .ok (.getfield 7, 3) := by decide +kernel
theorem dX12_film_139 : decode cX12_film 139 = .ok (.iconst 1, 1) := by decide +kernel
theorem dX12_film_140 : decode cX12_film 140 = .ok (.iaload, 1) := by decide +kernel
theorem dX12_film_141 : decode cX12_film 141 = .ok (.invokevirtual 145, 3) := by decide +kernel
theorem dX12_film_144 : decode cX12_film 144 = .ok (.invokevirtual 95, 3) := by decide +kernel
theorem dX12_film_147 : decode cX12_film 147 = .ok (.i2l, 1) := by decide +kernel
theorem dX12_film_148 : decode cX12_film 148 = .ok (.lastore, 1) := by decide +kernel
theorem dX12_film_149 : decode cX12_film 149 = .ok (.iinc 8 1, 3) := by decide +kernel
theorem dX12_film_152 : decode cX12_film 152 = .ok (.goto (-50), 3) := by decide +kernel
theorem dX12_film_155 : decode cX12_film 155 = .ok (.iconst 0, 1) := by decide +kernel
theorem dX12_film_156 : decode cX12_film 156 = .ok (.istore 8, 2) := by decide +kernel
theorem dX12_film_158 : decode cX12_film 158 = .ok (.iload 8, 2) := by decide +kernel
theorem dX12_film_160 : decode cX12_film 160 = .ok (.bipush 54, 2) := by decide +kernel
theorem dX12_film_162 : decode cX12_film 162 = .ok (.if_icmp .ge 23, 3) := by decide +kernel
theorem dX12_film_165 : decode cX12_film 165 = .ok (.aload_n 0, 1) := by decide +kernel
theorem dX12_film_166 : decode cX12_film 166 = .ok (.getfield 7, 3) := by decide +kernel
theorem dX12_film_169 : decode cX12_film 169 = .ok (.iload 8, 2) := by decide +kernel
theorem dX12_film_171 : decode cX12_film 171 = .ok (.aload_n 0, 1) := by decide +kernel
theorem dX12_film_172 : decode cX12_film 172 = .ok (.getfield 41, 3) := by decide +kernel
theorem dX12_film_175 : decode cX12_film 175 = .ok (.iload 8, 2) := by decide +kernel
theorem dX12_film_177 : decode cX12_film 177 = .ok (.iaload, 1) := by decide +kernel
theorem dX12_film_178 : decode cX12_film 178 = .ok (.iastore, 1) := by decide +kernel
theorem dX12_film_179 : decode cX12_film 179 = .ok (.iinc 8 1, 3) := by decide +kernel
theorem dX12_film_182 : decode cX12_film 182 = .ok (.goto (-24), 3) := by decide +kernel
theorem dX12_film_185 : decode cX12_film 185 = .ok (.iload_n 3, 1) := by decide +kernel
theorem dX12_film_186 : decode cX12_film 186 = .ok (.ireturn, 1) := by decide +kernel
theorem dX12_sheet_0 : decode cX12_sheet 0 = .ok (.iload_n 1, 1) := by decide +kernel
theorem dX12_sheet_1 : decode cX12_sheet 1 = .ok (.invokestatic 214, 3) := by decide +kernel
theorem dX12_sheet_4 : decode cX12_sheet 4 = .ok (.ifCond .eq 16, 3) := by decide +kernel
theorem dX12_sheet_7 : decode cX12_sheet 7 = .ok (.iload_n 2, 1) := by decide +kernel
theorem dX12_sheet_8 : decode cX12_sheet 8 = .ok (.invokestatic 217, 3) := by decide +kernel
theorem dX12_sheet_11 : decode cX12_sheet 11 = .ok (.ifCond .eq 9, 3) := by decide +kernel
theorem dX12_sheet_14 : decode cX12_sheet 14 = .ok (.iload_n 3, 1) := by decide +kernel
theorem dX12_sheet_15 : decode cX12_sheet 15 = .ok (.bipush 24, 2) := by decide +kernel
theorem dX12_sheet_17 : decode cX12_sheet 17 = .ok (.if_icmp .le 5, 3) := by decide +kernel
theorem dX12_sheet_20 : decode cX12_sheet 20 = .ok (.iconst (-1), 1) := by decide +kernel
theorem dX12_sheet_21 : decode cX12_sheet 21 = .ok (.ireturn, 1) := by decide +kernel
theorem dX12_sheet_22 : decode cX12_sheet 22 = .ok (.iload_n 3, 1) := by decide +kernel
theorem dX12_sheet_23 : decode cX12_sheet 23 = .ok (.ifCond .ge 6, 3) := by decide +kernel
theorem dX12_sheet_26 : decode cX12_sheet 26 = .ok (.bipush (-14), 2) := by decide +kernel
theorem dX12_sheet_28 : decode cX12_sheet 28 = .ok (.ireturn, 1) := by decide +kernel
theorem dX12_sheet_29 : decode cX12_sheet 29 = .ok (.aload_n 0, 1) := by decide +kernel
theorem dX12_sheet_30 : decode cX12_sheet 30 = .ok (.getfield 28, 3) := by decide +kernel
theorem dX12_sheet_33 : decode cX12_sheet 33 = .ok (.iload_n 1, 1) := by decide +kernel
theorem dX12_sheet_34 : decode cX12_sheet 34 = .ok (.iload_n 2, 1) := by decide +kernel
theorem dX12_sheet_35 : decode cX12_sheet 35 = .ok (.iastore, 1) := by decide +kernel
theorem dX12_sheet_36 : decode cX12_sheet 36 = .ok (.aload_n 0, 1) := by decide +kernel
theorem dX12_sheet_37 : decode cX12_sheet 37 = .ok (.getfield 31, 3) := by decide +kernel
theorem dX12_sheet_40 : decode cX12_sheet 40 = .ok (.iload_n 1, 1) := by decide +kernel
theorem dX12_sheet_41 : decode cX12_sheet 41 = .ok (.iload_n 3, 1) := by decide +kernel
theorem dX12_sheet_42 : decode cX12_sheet 42 = .ok (.iastore, 1) := by decide +kernel
theorem dX12_sheet_43 : decode cX12_sheet 43 = .ok (.iconst 0, 1) := by decide +kernel
theorem dX12_sheet_44 : decode cX12_sheet 44 = .ok (.istore 4, 2) := by decide +kernel
theorem dX12_sheet_46 : decode cX12_sheet 46 = .ok (.iload 4, 2) := by decide +kernel
theorem dX12_sheet_48 : decode cX12_sheet 48 = .ok (.bipush 24, 2) := by decide +kernel
theorem dX12_sheet_50 : decode cX12_sheet 50 = .ok (.if_icmp .ge 22, 3) := by decide +kernel
theorem dX12_sheet_53 : decode cX12_sheet 53 = .ok (.aload_n 0, 1) := by decide +kernel
theorem dX12_sheet_54 : decode cX12_sheet 54 = .ok (.getfield 34, 3) := by decide +kernel
theorem dX12_sheet_57 : decode cX12_sheet 57 = .ok (.bipush 24, 2) := by decide +kernel
theorem dX12_sheet_59 : decode cX12_sheet 59 = .ok (.iload_n 1, 1) := by decide +kernel
theorem dX12_sheet_60 : decode cX12_sheet 60 = .ok (.imul, 1) := by decide +kernel
theorem dX12_sheet_61 : decode cX12_sheet 61 = .ok (.iload 4, 2) := by decide +kernel
theorem dX12_sheet_63 : decode cX12_sheet 63 = .ok (.iadd, 1) := by decide +kernel
theorem dX12_sheet_64 : decode cX12_sheet 64 = .ok (.lconst 0, 1) := by decide +kernel
theorem dX12_sheet_65 : decode cX12_sheet 65 = .ok (.lastore, 1) := by decide +kernel
theorem dX12_sheet_66 : decode cX12_sheet 66 = .ok (.iinc 4 1, 3) := by decide +kernel
theorem dX12_sheet_69 : decode cX12_sheet 69 = .ok (.goto (-23), 3) := by decide +kernel
theorem dX12_sheet_72 : decode cX12_sheet 72 = .ok (.iload_n 3, 1) := by decide +kernel
theorem dX12_sheet_73 : decode cX12_sheet 73 = .ok (.ireturn, 1) := by decide +kernel
theorem dX12_drop_0 : decode cX12_drop 0 = .ok (.iload_n 1, 1) := by decide +kernel
theorem dX12_drop_1 : decode cX12_drop 1 = .ok (.invokestatic 214, 3) := by decide +kernel
theorem dX12_drop_4 : decode cX12_drop 4 = .ok (.ifCond .ne 5, 3) := by decide +kernel
theorem dX12_drop_7 : decode cX12_drop 7 = .ok (.iconst (-1), 1) := by decide +kernel
theorem dX12_drop_8 : decode cX12_drop 8 = .ok (.ireturn, 1) := by decide +kernel
theorem dX12_drop_9 : decode cX12_drop 9 = .ok (.aload_n 0, 1) := by decide +kernel
theorem dX12_drop_10 : decode cX12_drop 10 = .ok (.getfield 28, 3) := by decide +kernel
theorem dX12_drop_13 : decode cX12_drop 13 = .ok (.iload_n 1, 1) := by decide +kernel
theorem dX12_drop_14 : decode cX12_drop 14 = .ok (.iaload, 1) := by decide +kernel
theorem dX12_drop_15 : decode cX12_drop 15 = .ok (.ifCond .ge 6, 3) := by decide +kernel
theorem dX12_drop_18 : decode cX12_drop 18 = .ok (.bipush (-11), 2) := by decide +kernel
theorem dX12_drop_20 : decode cX12_drop 20 = .ok (.ireturn, 1) := by decide +kernel
theorem dX12_drop_21 : decode cX12_drop 21 = .ok (.aload_n 0, 1) := by decide +kernel
theorem dX12_drop_22 : decode cX12_drop 22 = .ok (.getfield 28, 3) := by decide +kernel
theorem dX12_drop_25 : decode cX12_drop 25 = .ok (.iload_n 1, 1) := by decide +kernel
theorem dX12_drop_26 : decode cX12_drop 26 = .ok (.iconst (-1), 1) := by decide +kernel
theorem dX12_drop_27 : decode cX12_drop 27 = .ok (.iastore, 1) := by decide +kernel
theorem dX12_drop_28 : decode cX12_drop 28 = .ok (.aload_n 0, 1) := by decide +kernel
theorem dX12_drop_29 : decode cX12_drop 29 = .ok (.getfield 31, 3) := by decide +kernel
theorem dX12_drop_32 : decode cX12_drop 32 = .ok (.iload_n 1, 1) := by decide +kernel
theorem dX12_drop_33 : decode cX12_drop 33 = .ok (.iaload, 1) := by decide +kernel
theorem dX12_drop_34 : decode cX12_drop 34 = .ok (.ireturn, 1) := by decide +kernel
theorem dX12_item_0 : decode cX12_item 0 = .ok (.iload_n 1, 1) := by decide +kernel
theorem dX12_item_1 : decode cX12_item 1 = .ok (.invokestatic 214, 3) := by decide +kernel
theorem dX12_item_4 : decode cX12_item 4 = .ok (.ifCond .eq 10, 3) := by decide +kernel
theorem dX12_item_7 : decode cX12_item 7 = .ok (.iload_n 2, 1) := by decide +kernel
theorem dX12_item_8 : decode cX12_item 8 = .ok (.invokestatic 217, 3) := by decide +kernel
theorem dX12_item_11 : decode cX12_item 11 = .ok (.ifCond .ne 5, 3) := by decide +kernel
theorem dX12_item_14 : decode cX12_item 14 = .ok (.iconst (-1), 1) := by decide +kernel
theorem dX12_item_15 : decode cX12_item 15 = .ok (.ireturn, 1) := by decide +kernel
theorem dX12_item_16 : decode cX12_item 16 = .ok (.aload_n 0, 1) := by decide +kernel
theorem dX12_item_17 : decode cX12_item 17 = .ok (.iload_n 1, 1) := by decide +kernel
theorem dX12_item_18 : decode cX12_item 18 = .ok (.iload_n 2, 1) := by decide +kernel
theorem dX12_item_19 : decode cX12_item 19 = .ok (.iload_n 3, 1) := by decide +kernel
theorem dX12_item_20 : decode cX12_item 20 = .ok (.iconst 1, 1) := by decide +kernel
theorem dX12_item_21 : decode cX12_item 21 = .ok (.invokevirtual 220, 3) := by decide +kernel
theorem dX12_item_24 : decode cX12_item 24 = .ok (.istore 6, 2) := by decide +kernel
theorem dX12_item_26 : decode cX12_item 26 = .ok (.iload 6, 2) := by decide +kernel
theorem dX12_item_28 : decode cX12_item 28 = .ok (.ifCond .ge 6, 3) := by decide +kernel
theorem dX12_item_31 : decode cX12_item 31 = .ok (.iload 6, 2) := by decide +kernel
theorem dX12_item_33 : decode cX12_item 33 = .ok (.ireturn, 1) := by decide +kernel
theorem dX12_item_34 : decode cX12_item 34 = .ok (.aload_n 0, 1) := by decide +kernel
theorem dX12_item_35 : decode cX12_item 35 = .ok (.getfield 34, 3) := by decide +kernel
theorem dX12_item_38 : decode cX12_item 38 = .ok (.bipush 24, 2) := by decide +kernel
theorem dX12_item_40 : decode cX12_item 40 = .ok (.iload_n 1, 1) := by decide +kernel
theorem dX12_item_41 : decode cX12_item 41 = .ok (.imul, 1) := by decide +kernel
theorem dX12_item_42 : decode cX12_item 42 = .ok (.iload_n 3, 1) := by decide +kernel
theorem dX12_item_43 : decode cX12_item 43 = .ok (.iadd, 1) := by decide +kernel
theorem dX12_item_44 : decode cX12_item 44 = .ok (.iload_n 2, 1) := by decide +kernel
theorem dX12_item_45 : decode cX12_item 45 = .ok (.ifCond .ne 11, 3) := by decide +kernel
theorem dX12_item_48 : decode cX12_item 48 = .ok (.lload 4, 2) := by decide +kernel
theorem dX12_item_50 : decode cX12_item 50 = .ok (.l2i, 1) := by decide +kernel
theorem dX12_item_51 : decode cX12_item 51 = .ok (.i2b, 1) := by decide +kernel
theorem dX12_item_52 : decode cX12_item 52 = .ok (.i2l, 1) := by decide +kernel
theorem dX12_item_53 : decode cX12_item 53 = .ok (.goto 30, 3) := by decide +kernel
theorem dX12_item_56 : decode cX12_item 56 = .ok (.iload_n 2, 1) := by decide +kernel
theorem dX12_item_57 : decode cX12_item 57 = .ok (.iconst 1, 1) := by decide +kernel
theorem dX12_item_58 : decode cX12_item 58 = .ok (.if_icmp .ne 11, 3) := by decide +kernel
theorem dX12_item_61 : decode cX12_item 61 = .ok (.lload 4, 2) := by decide +kernel
theorem dX12_item_63 : decode cX12_item 63 = .ok (.l2i, 1) := by decide +kernel
theorem dX12_item_64 : decode cX12_item 64 = .ok (.i2s, 1) := by decide +kernel
theorem dX12_item_65 : decode cX12_item 65 = .ok (.i2l, 1) := by decide +kernel
theorem dX12_item_66 : decode cX12_item 66 = .ok (.goto 17, 3) := by decide +kernel
theorem dX12_item_69 : decode cX12_item 69 = .ok (.iload_n 2, 1) := by decide +kernel
theorem dX12_item_70 : decode cX12_item 70 = .ok (.iconst 2, 1) := by decide +kernel
theorem dX12_item_71 : decode cX12_item 71 = .ok (.if_icmp .ne 10, 3) := by decide +kernel
theorem dX12_item_74 : decode cX12_item 74 = .ok (.lload 4, 2) := by decide +kernel
theorem dX12_item_76 : decode cX12_item 76 = .ok (.l2i, 1) := by decide +kernel
theorem dX12_item_77 : decode cX12_item 77 = .ok (.i2l, 1) := by decide +kernel
theorem dX12_item_78 : decode cX12_item 78 = .ok (.goto 5, 3) := by decide +kernel
theorem dX12_item_81 : decode cX12_item 81 = .ok (.lload 4, 2) := by decide +kernel
theorem dX12_item_83 : decode cX12_item 83 = .ok (.lastore, 1) := by decide +kernel
theorem dX12_item_84 : decode cX12_item 84 = .ok (.iconst 1, 1) := by decide +kernel
theorem dX12_item_85 : decode cX12_item 85 = .ok (.ireturn, 1) := by decide +kernel
theorem dX12_copy_0 : decode cX12_copy 0 = .ok (.iload_n 1, 1) := by decide +kernel
theorem dX12_copy_1 : decode cX12_copy 1 = .ok (.invokestatic 214, 3) := by decide +kernel
theorem dX12_copy_4 : decode cX12_copy 4 = .ok (.ifCond .eq 10, 3) := by decide +kernel
theorem dX12_copy_7 : decode cX12_copy 7 = .ok (.iload_n 3, 1) := by decide +kernel
theorem dX12_copy_8 : decode cX12_copy 8 = .ok (.invokestatic 214, 3) := by decide +kernel
theorem dX12_copy_11 : decode cX12_copy 11 = .ok (.ifCond .ne 5, 3) := by decide +kernel
theorem dX12_copy_14 : decode cX12_copy 14 = .ok (.iconst (-1), 1) := by decide +kernel
theorem dX12_copy_15 : decode cX12_copy 15 = .ok (.ireturn, 1) := by decide +kernel
theorem dX12_copy_16 : decode cX12_copy 16 = .ok (.aload_n 0, 1) := by decide +kernel
theorem dX12_copy_17 : decode cX12_copy 17 = .ok (.getfield 28, 3) := by decide +kernel
theorem dX12_copy_20 : decode cX12_copy 20 = .ok (.iload_n 1, 1) := by decide +kernel
theorem dX12_copy_21 : decode cX12_copy 21 = .ok (.iaload, 1) := by decide +kernel
theorem dX12_copy_22 : decode cX12_copy 22 = .ok (.ifCond .lt 12, 3) := by decide +kernel
theorem dX12_copy_25 : decode cX12_copy 25 = .ok (.aload_n 0, 1) := by decide +kernel
theorem dX12_copy_26 : decode cX12_copy 26 = .ok (.getfield 28, 3) := by decide +kernel
theorem dX12_copy_29 : decode cX12_copy 29 = .ok (.iload_n 3, 1) := by decide +kernel
theorem dX12_copy_30 : decode cX12_copy 30 = .ok (.iaload, 1) := by decide +kernel
theorem dX12_copy_31 : decode cX12_copy 31 = .ok (.ifCond .ge 6, 3) := by decide +kernel
theorem dX12_copy_34 : decode cX12_copy 34 = .ok (.bipush (-11), 2) := by decide +kernel
theorem dX12_copy_36 : decode cX12_copy 36 = .ok (.ireturn, 1) := by decide +kernel
theorem dX12_copy_37 : decode cX12_copy 37 = .ok (.aload_n 0, 1) := by decide +kernel
theorem dX12_copy_38 : decode cX12_copy 38 = .ok (.iload_n 3, 1) := by decide +kernel
theorem dX12_copy_39 : decode cX12_copy 39 = .ok (.aload_n 0, 1) := by decide +kernel
theorem dX12_copy_40 : decode cX12_copy 40 = .ok (.getfield 28, 3) := by decide +kernel
theorem dX12_copy_43 : decode cX12_copy 43 = .ok (.iload_n 1, 1) := by decide +kernel
theorem dX12_copy_44 : decode cX12_copy 44 = .ok (.iaload, 1) := by decide +kernel
theorem dX12_copy_45 : decode cX12_copy 45 = .ok (.iload 4, 2) := by decide +kernel
theorem dX12_copy_47 : decode cX12_copy 47 = .ok (.iload 5, 2) := by decide +kernel
theorem dX12_copy_49 : decode cX12_copy 49 = .ok (.invokevirtual 220, 3) := by decide +kernel
theorem dX12_copy_52 : decode cX12_copy 52 = .ok (.istore 6, 2) := by decide +kernel
theorem dX12_copy_54 : decode cX12_copy 54 = .ok (.iload 6, 2) := by decide +kernel
theorem dX12_copy_56 : decode cX12_copy 56 = .ok (.ifCond .ne 20, 3) := by decide +kernel
theorem dX12_copy_59 : decode cX12_copy 59 = .ok (.aload_n 0, 1) := by decide +kernel
theorem dX12_copy_60 : decode cX12_copy 60 = .ok (.iload_n 1, 1) := by decide +kernel
theorem dX12_copy_61 : decode cX12_copy 61 = .ok (.aload_n 0, 1) := by decide +kernel
theorem dX12_copy_62 : decode cX12_copy 62 = .ok (.getfield 28, 3) := by decide +kernel
theorem dX12_copy_65 : decode cX12_copy 65 = .ok (.iload_n 1, 1) := by decide +kernel
theorem dX12_copy_66 : decode cX12_copy 66 = .ok (.iaload, 1) := by decide +kernel
theorem dX12_copy_67 : decode cX12_copy 67 = .ok (.iload_n 2, 1) := by decide +kernel
theorem dX12_copy_68 : decode cX12_copy 68 = .ok (.iload 5, 2) := by decide +kernel
theorem dX12_copy_70 : decode cX12_copy 70 = .ok (.invokevirtual 220, 3) := by decide +kernel
theorem dX12_copy_73 : decode cX12_copy 73 = .ok (.goto 5, 3) := by decide +kernel
theorem dX12_copy_76 : decode cX12_copy 76 = .ok (.iload 6, 2) := by decide +kernel
theorem dX12_copy_78 : decode cX12_copy 78 = .ok (.istore 6, 2) := by decide +kernel
theorem dX12_copy_80 : decode cX12_copy 80 = .ok (.iload 6, 2) := by decide +kernel
theorem dX12_copy_82 : decode cX12_copy 82 = .ok (.ifCond .ge 6, 3) := by decide +kernel
theorem dX12_copy_85 : decode cX12_copy 85 = .ok (.iload 6, 2) := by decide +kernel
theorem dX12_copy_87 : decode cX12_copy 87 = .ok (.ireturn, 1) := by decide +kernel
theorem dX12_copy_88 : decode cX12_copy 88 = .ok (.iconst 0, 1) := by decide +kernel
theorem dX12_copy_89 : decode cX12_copy 89 = .ok (.istore 7, 2) := by decide +kernel
theorem dX12_copy_91 : decode cX12_copy 91 = .ok (.iload 7, 2) := by decide +kernel
theorem dX12_copy_93 : decode cX12_copy 93 = .ok (.iload 5, 2) := by decide +kernel
theorem dX12_copy_95 : decode cX12_copy 95 = .ok (.if_icmp .ge 30, 3) := by decide +kernel
theorem dX12_copy_98 : decode cX12_copy 98 = .ok (.aload_n 0, 1) := by decide +kernel
theorem dX12_copy_99 : decode cX12_copy 99 = .ok (.getfield 38, 3) := by decide +kernel
theorem dX12_copy_102 : decode cX12_copy 102 = .ok (.iload 7, 2) := by decide +kernel
theorem dX12_copy_104 : decode cX12_copy 104 = .ok (.aload_n 0, 1) := by decide +kernel
theorem dX12_copy_105 : decode cX12_copy 105 = .ok (.getfield 34, 3) := by decide +kernel
theorem dX12_copy_108 : decode cX12_copy 108 = .ok (.bipush 24, 2) := by decide +kernel
theorem dX12_copy_110 : decode cX12_copy 110 = .ok (.iload_n 1, 1) := by decide +kernel
theorem dX12_copy_111 : decode cX12_copy 111 = .ok (.imul, 1) := by decide +kernel
