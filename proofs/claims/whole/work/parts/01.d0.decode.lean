theorem dX0_init_0 : decode cX0_init 0 = .ok (.aload_n 0, 1) := by decide +kernel
theorem dX0_init_1 : decode cX0_init 1 = .ok (.invokespecial 1, 3) := by decide +kernel
theorem dX0_init_4 : decode cX0_init 4 = .ok (.aload_n 0, 1) := by decide +kernel
theorem dX0_init_5 : decode cX0_init 5 = .ok (.new 7, 3) := by decide +kernel
theorem dX0_init_8 : decode cX0_init 8 = .ok (.dup, 1) := by decide +kernel
theorem dX0_init_9 : decode cX0_init 9 = .ok (.invokespecial 9, 3) := by decide +kernel
theorem dX0_init_12 : decode cX0_init 12 = .ok (.putfield 10, 3) := by decide +kernel
theorem dX0_init_15 : decode cX0_init 15 = .ok (.aload_n 0, 1) := by decide +kernel
theorem dX0_init_16 : decode cX0_init 16 = .ok (.new 16, 3) := by decide +kernel
theorem dX0_init_19 : decode cX0_init 19 = .ok (.dup, 1) := by decide +kernel
theorem dX0_init_20 : decode cX0_init 20 = .ok (.invokespecial 18, 3) := by decide +kernel
theorem dX0_init_23 : decode cX0_init 23 = .ok (.putfield 19, 3) := by decide +kernel
theorem dX0_init_26 : decode cX0_init 26 = .ok (.aload_n 0, 1) := by decide +kernel
theorem dX0_init_27 : decode cX0_init 27 = .ok (.new 23, 3) := by decide +kernel
theorem dX0_init_30 : decode cX0_init 30 = .ok (.dup, 1) := by decide +kernel
theorem dX0_init_31 : decode cX0_init 31 = .ok (.invokespecial 25, 3) := by decide +kernel
theorem dX0_init_34 : decode cX0_init 34 = .ok (.putfield 26, 3) := by decide +kernel
theorem dX0_init_37 : decode cX0_init 37 = .ok (.return_, 1) := by decide +kernel
theorem dX0_take_0 : decode cX0_take 0 = .ok (.aload_n 0, 1) := by decide +kernel
theorem dX0_take_1 : decode cX0_take 1 = .ok (.getfield 10, 3) := by decide +kernel
theorem dX0_take_4 : decode cX0_take 4 = .ok (.aload_n 1, 1) := by decide +kernel
theorem dX0_take_5 : decode cX0_take 5 = .ok (.getfield 10, 3) := by decide +kernel
theorem dX0_take_8 : decode cX0_take 8 = .ok (.invokevirtual 30, 3) := by decide +kernel
theorem dX0_take_11 : decode cX0_take 11 = .ok (.aload_n 0, 1) := by decide +kernel
theorem dX0_take_12 : decode cX0_take 12 = .ok (.getfield 19, 3) := by decide +kernel
theorem dX0_take_15 : decode cX0_take 15 = .ok (.aload_n 1, 1) := by decide +kernel
theorem dX0_take_16 : decode cX0_take 16 = .ok (.getfield 19, 3) := by decide +kernel
theorem dX0_take_19 : decode cX0_take 19 = .ok (.invokevirtual 34, 3) := by decide +kernel
theorem dX0_take_22 : decode cX0_take 22 = .ok (.aload_n 0, 1) := by decide +kernel
theorem dX0_take_23 : decode cX0_take 23 = .ok (.getfield 26, 3) := by decide +kernel
theorem dX0_take_26 : decode cX0_take 26 = .ok (.aload_n 1, 1) := by decide +kernel
theorem dX0_take_27 : decode cX0_take 27 = .ok (.getfield 26, 3) := by decide +kernel
theorem dX0_take_30 : decode cX0_take 30 = .ok (.invokevirtual 37, 3) := by decide +kernel
theorem dX0_take_33 : decode cX0_take 33 = .ok (.return_, 1) := by decide +kernel
theorem dX0_begin_0 : decode cX0_begin 0 = .ok (.aload_n 0, 1) := by decide +kernel
theorem dX0_begin_1 : decode cX0_begin 1 = .ok (.getfield 10, 3) := by decide +kernel
theorem dX0_begin_4 : decode cX0_begin 4 = .ok (.aload_n 1, 1) := by decide +kernel
theorem dX0_begin_5 : decode cX0_begin 5 = .ok (.invokevirtual 40, 3) := by decide +kernel
theorem dX0_begin_8 : decode cX0_begin 8 = .ok (.aload_n 0, 1) := by decide +kernel
theorem dX0_begin_9 : decode cX0_begin 9 = .ok (.getfield 19, 3) := by decide +kernel
theorem dX0_begin_12 : decode cX0_begin 12 = .ok (.aload_n 2, 1) := by decide +kernel
theorem dX0_begin_13 : decode cX0_begin 13 = .ok (.invokevirtual 43, 3) := by decide +kernel
theorem dX0_begin_16 : decode cX0_begin 16 = .ok (.aload_n 0, 1) := by decide +kernel
theorem dX0_begin_17 : decode cX0_begin 17 = .ok (.getfield 19, 3) := by decide +kernel
theorem dX0_begin_20 : decode cX0_begin 20 = .ok (.iconst 0, 1) := by decide +kernel
theorem dX0_begin_21 : decode cX0_begin 21 = .ok (.putfield 46, 3) := by decide +kernel
theorem dX0_begin_24 : decode cX0_begin 24 = .ok (.aload_n 0, 1) := by decide +kernel
theorem dX0_begin_25 : decode cX0_begin 25 = .ok (.getfield 26, 3) := by decide +kernel
theorem dX0_begin_28 : decode cX0_begin 28 = .ok (.invokevirtual 50, 3) := by decide +kernel
theorem dX0_begin_31 : decode cX0_begin 31 = .ok (.return_, 1) := by decide +kernel
theorem dX0_carBy_0 : decode cX0_carBy 0 = .ok (.aload_n 0, 1) := by decide +kernel
theorem dX0_carBy_1 : decode cX0_carBy 1 = .ok (.getfield 10, 3) := by decide +kernel
theorem dX0_carBy_4 : decode cX0_carBy 4 = .ok (.aload_n 0, 1) := by decide +kernel
theorem dX0_carBy_5 : decode cX0_carBy 5 = .ok (.getfield 10, 3) := by decide +kernel
theorem dX0_carBy_8 : decode cX0_carBy 8 = .ok (.iload_n 1, 1) := by decide +kernel
theorem dX0_carBy_9 : decode cX0_carBy 9 = .ok (.iload_n 2, 1) := by decide +kernel
theorem dX0_carBy_10 : decode cX0_carBy 10 = .ok (.invokevirtual 53, 3) := by decide +kernel
theorem dX0_carBy_13 : decode cX0_carBy 13 = .ok (.aload_n 0, 1) := by decide +kernel
theorem dX0_carBy_14 : decode cX0_carBy 14 = .ok (.getfield 19, 3) := by decide +kernel
theorem dX0_carBy_17 : decode cX0_carBy 17 = .ok (.getfield 46, 3) := by decide +kernel
theorem dX0_carBy_20 : decode cX0_carBy 20 = .ok (.iload_n 3, 1) := by decide +kernel
theorem dX0_carBy_21 : decode cX0_carBy 21 = .ok (.iadd, 1) := by decide +kernel
theorem dX0_carBy_22 : decode cX0_carBy 22 = .ok (.invokevirtual 57, 3) := by decide +kernel
theorem dX0_carBy_25 : decode cX0_carBy 25 = .ok (.ireturn, 1) := by decide +kernel
theorem dX0_floorOf_0 : decode cX0_floorOf 0 = .ok (.aload_n 1, 1) := by decide +kernel
theorem dX0_floorOf_1 : decode cX0_floorOf 1 = .ok (.invokevirtual 60, 3) := by decide +kernel
theorem dX0_floorOf_4 : decode cX0_floorOf 4 = .ok (.ifCond .eq 31, 3) := by decide +kernel
theorem dX0_floorOf_7 : decode cX0_floorOf 7 = .ok (.aload_n 0, 1) := by decide +kernel
theorem dX0_floorOf_8 : decode cX0_floorOf 8 = .ok (.getfield 10, 3) := by decide +kernel
theorem dX0_floorOf_11 : decode cX0_floorOf 11 = .ok (.aload_n 0, 1) := by decide +kernel
theorem dX0_floorOf_12 : decode cX0_floorOf 12 = .ok (.getfield 10, 3) := by decide +kernel
theorem dX0_floorOf_15 : decode cX0_floorOf 15 = .ok (.aload_n 1, 1) := by decide +kernel
theorem dX0_floorOf_16 : decode cX0_floorOf 16 = .ok (.getfield 66, 3) := by decide +kernel
theorem dX0_floorOf_19 : decode cX0_floorOf 19 = .ok (.aload_n 0, 1) := by decide +kernel
theorem dX0_floorOf_20 : decode cX0_floorOf 20 = .ok (.getfield 19, 3) := by decide +kernel
theorem dX0_floorOf_23 : decode cX0_floorOf 23 = .ok (.getfield 46, 3) := by decide +kernel
theorem dX0_floorOf_26 : decode cX0_floorOf 26 = .ok (.invokevirtual 69, 3) := by decide +kernel
theorem dX0_floorOf_29 : decode cX0_floorOf 29 = .ok (.invokevirtual 72, 3) := by decide +kernel
theorem dX0_floorOf_32 : decode cX0_floorOf 32 = .ok (.goto 7, 3) := by decide +kernel
theorem dX0_floorOf_35 : decode cX0_floorOf 35 = .ok (.aload_n 1, 1) := by decide +kernel
theorem dX0_floorOf_36 : decode cX0_floorOf 36 = .ok (.getfield 76, 3) := by decide +kernel
theorem dX0_floorOf_39 : decode cX0_floorOf 39 = .ok (.ireturn, 1) := by decide +kernel
theorem dX0_dayOf_0 : decode cX0_dayOf 0 = .ok (.aload_n 1, 1) := by decide +kernel
theorem dX0_dayOf_1 : decode cX0_dayOf 1 = .ok (.invokevirtual 60, 3) := by decide +kernel
theorem dX0_dayOf_4 : decode cX0_dayOf 4 = .ok (.ifCond .eq 18, 3) := by decide +kernel
theorem dX0_dayOf_7 : decode cX0_dayOf 7 = .ok (.aload_n 0, 1) := by decide +kernel
theorem dX0_dayOf_8 : decode cX0_dayOf 8 = .ok (.getfield 10, 3) := by decide +kernel
theorem dX0_dayOf_11 : decode cX0_dayOf 11 = .ok (.getfield 79, 3) := by decide +kernel
theorem dX0_dayOf_14 : decode cX0_dayOf 14 = .ok (.aload_n 1, 1) := by decide +kernel
theorem dX0_dayOf_15 : decode cX0_dayOf 15 = .ok (.getfield 66, 3) := by decide +kernel
theorem dX0_dayOf_18 : decode cX0_dayOf 18 = .ok (.iaload, 1) := by decide +kernel
theorem dX0_dayOf_19 : decode cX0_dayOf 19 = .ok (.goto 7, 3) := by decide +kernel
theorem dX0_dayOf_22 : decode cX0_dayOf 22 = .ok (.aload_n 1, 1) := by decide +kernel
theorem dX0_dayOf_23 : decode cX0_dayOf 23 = .ok (.getfield 83, 3) := by decide +kernel
theorem dX0_dayOf_26 : decode cX0_dayOf 26 = .ok (.ireturn, 1) := by decide +kernel
theorem dX0_step_0 : decode cX0_step 0 = .ok (.aload_n 0, 1) := by decide +kernel
theorem dX0_step_1 : decode cX0_step 1 = .ok (.getfield 26, 3) := by decide +kernel
theorem dX0_step_4 : decode cX0_step 4 = .ok (.aload_n 0, 1) := by decide +kernel
theorem dX0_step_5 : decode cX0_step 5 = .ok (.getfield 19, 3) := by decide +kernel
theorem dX0_step_8 : decode cX0_step 8 = .ok (.invokevirtual 86, 3) := by decide +kernel
theorem dX0_step_11 : decode cX0_step 11 = .ok (.aload_n 0, 1) := by decide +kernel
theorem dX0_step_12 : decode cX0_step 12 = .ok (.getfield 19, 3) := by decide +kernel
theorem dX0_step_15 : decode cX0_step 15 = .ok (.aload_n 0, 1) := by decide +kernel
theorem dX0_step_16 : decode cX0_step 16 = .ok (.getfield 10, 3) := by decide +kernel
theorem dX0_step_19 : decode cX0_step 19 = .ok (.invokevirtual 89, 3) := by decide +kernel
theorem dX0_step_22 : decode cX0_step 22 = .ok (.return_, 1) := by decide +kernel
theorem dX0_stepByDraw_0 : decode cX0_stepByDraw 0 = .ok (.aload_n 0, 1) := by decide +kernel
theorem dX0_stepByDraw_1 : decode cX0_stepByDraw 1 = .ok (.getfield 26, 3) := by decide +kernel
theorem dX0_stepByDraw_4 : decode cX0_stepByDraw 4 = .ok (.aload_n 0, 1) := by decide +kernel
theorem dX0_stepByDraw_5 : decode cX0_stepByDraw 5 = .ok (.getfield 19, 3) := by decide +kernel
theorem dX0_stepByDraw_8 : decode cX0_stepByDraw 8 = .ok (.invokevirtual 86, 3) := by decide +kernel
theorem dX0_stepByDraw_11 : decode cX0_stepByDraw 11 = .ok (.aload_n 0, 1) := by decide +kernel
theorem dX0_stepByDraw_12 : decode cX0_stepByDraw 12 = .ok (.getfield 19, 3) := by decide +kernel
theorem dX0_stepByDraw_15 : decode cX0_stepByDraw 15 = .ok (.aload_n 0, 1) := by decide +kernel
theorem dX0_stepByDraw_16 : decode cX0_stepByDraw 16 = .ok (.getfield 19, 3) := by decide +kernel
theorem dX0_stepByDraw_19 : decode cX0_stepByDraw 19 = .ok (.getfield 92, 3) := by decide +kernel
theorem dX0_stepByDraw_22 : decode cX0_stepByDraw 22 = .ok (.ldc 95, 2) := by decide +kernel
theorem dX0_stepByDraw_24 : decode cX0_stepByDraw 24 = .ok (.imul, 1) := by decide +kernel
theorem dX0_stepByDraw_25 : decode cX0_stepByDraw 25 = .ok (.sipush 12345, 3) := by decide +kernel
theorem dX0_stepByDraw_28 : decode cX0_stepByDraw 28 = .ok (.iadd, 1) := by decide +kernel
theorem dX0_stepByDraw_29 : decode cX0_stepByDraw 29 = .ok (.ldc 96, 2) := by decide +kernel
theorem dX0_stepByDraw_31 : decode cX0_stepByDraw 31 = .ok (.iand, 1) := by decide +kernel
theorem dX0_stepByDraw_32 : decode cX0_stepByDraw 32 = .ok (.putfield 92, 3) := by decide +kernel
theorem dX0_stepByDraw_35 : decode cX0_stepByDraw 35 = .ok (.aload_n 0, 1) := by decide +kernel
theorem dX0_stepByDraw_36 : decode cX0_stepByDraw 36 = .ok (.getfield 19, 3) := by decide +kernel
theorem dX0_stepByDraw_39 : decode cX0_stepByDraw 39 = .ok (.getfield 92, 3) := by decide +kernel
theorem dX0_stepByDraw_42 : decode cX0_stepByDraw 42 = .ok (.ldc 97, 2) := by decide +kernel
theorem dX0_stepByDraw_44 : decode cX0_stepByDraw 44 = .ok (.idiv, 1) := by decide +kernel
theorem dX0_stepByDraw_45 : decode cX0_stepByDraw 45 = .ok (.bipush 12, 2) := by decide +kernel
theorem dX0_stepByDraw_47 : decode cX0_stepByDraw 47 = .ok (.irem, 1) := by decide +kernel
theorem dX0_stepByDraw_48 : decode cX0_stepByDraw 48 = .ok (.aload_n 0, 1) := by decide +kernel
theorem dX0_stepByDraw_49 : decode cX0_stepByDraw 49 = .ok (.getfield 19, 3) := by decide +kernel
theorem dX0_stepByDraw_52 : decode cX0_stepByDraw 52 = .ok (.invokevirtual 98, 3) := by decide +kernel
theorem dX0_stepByDraw_55 : decode cX0_stepByDraw 55 = .ok (.invokestatic 102, 3) := by decide +kernel
theorem dX0_stepByDraw_58 : decode cX0_stepByDraw 58 = .ok (.if_icmp .ge 5, 3) := by decide +kernel
theorem dX0_stepByDraw_61 : decode cX0_stepByDraw 61 = .ok (.iconst 0, 1) := by decide +kernel
theorem dX0_stepByDraw_62 : decode cX0_stepByDraw 62 = .ok (.ireturn, 1) := by decide +kernel
theorem dX0_stepByDraw_63 : decode cX0_stepByDraw 63 = .ok (.aload_n 0, 1) := by decide +kernel
theorem dX0_stepByDraw_64 : decode cX0_stepByDraw 64 = .ok (.getfield 19, 3) := by decide +kernel
theorem dX0_stepByDraw_67 : decode cX0_stepByDraw 67 = .ok (.aload_n 0, 1) := by decide +kernel
theorem dX0_stepByDraw_68 : decode cX0_stepByDraw 68 = .ok (.getfield 10, 3) := by decide +kernel
theorem dX0_stepByDraw_71 : decode cX0_stepByDraw 71 = .ok (.invokevirtual 89, 3) := by decide +kernel
theorem dX0_stepByDraw_74 : decode cX0_stepByDraw 74 = .ok (.iconst 1, 1) := by decide +kernel
theorem dX0_stepByDraw_75 : decode cX0_stepByDraw 75 = .ok (.ireturn, 1) := by decide +kernel
theorem dX1_init_0 : decode cX1_init 0 = .ok (.aload_n 0, 1) := by decide +kernel
theorem dX1_init_1 : decode cX1_init 1 = .ok (.invokespecial 3, 3) := by decide +kernel
theorem dX1_init_4 : decode cX1_init 4 = .ok (.aload_n 0, 1) := by decide +kernel
theorem dX1_init_5 : decode cX1_init 5 = .ok (.iconst 3, 1) := by decide +kernel
theorem dX1_init_6 : decode cX1_init 6 = .ok (.putfield 9, 3) := by decide +kernel
theorem dX1_init_9 : decode cX1_init 9 = .ok (.aload_n 0, 1) := by decide +kernel
theorem dX1_init_10 : decode cX1_init 10 = .ok (.bipush 20, 2) := by decide +kernel
theorem dX1_init_12 : decode cX1_init 12 = .ok (.putfield 15, 3) := by decide +kernel
theorem dX1_init_15 : decode cX1_init 15 = .ok (.aload_n 0, 1) := by decide +kernel
theorem dX1_init_16 : decode cX1_init 16 = .ok (.bipush 12, 2) := by decide +kernel
theorem dX1_init_18 : decode cX1_init 18 = .ok (.putfield 18, 3) := by decide +kernel
theorem dX1_init_21 : decode cX1_init 21 = .ok (.aload_n 0, 1) := by decide +kernel
theorem dX1_init_22 : decode cX1_init 22 = .ok (.bipush 12, 2) := by decide +kernel
theorem dX1_init_24 : decode cX1_init 24 = .ok (.newarray .int, 2) := by decide +kernel
theorem dX1_init_26 : decode cX1_init 26 = .ok (.putfield 21, 3) := by decide +kernel
theorem dX1_init_29 : decode cX1_init 29 = .ok (.iconst 0, 1) := by decide +kernel
theorem dX1_init_30 : decode cX1_init 30 = .ok (.istore_n 1, 1) := by decide +kernel
theorem dX1_init_31 : decode cX1_init 31 = .ok (.iload_n 1, 1) := by decide +kernel
theorem dX1_init_32 : decode cX1_init 32 = .ok (.bipush 12, 2) := by decide +kernel
theorem dX1_init_34 : decode cX1_init 34 = .ok (.if_icmp .ge 19, 3) := by decide +kernel
theorem dX1_init_37 : decode cX1_init 37 = .ok (.aload_n 0, 1) := by decide +kernel
theorem dX1_init_38 : decode cX1_init 38 = .ok (.getfield 21, 3) := by decide +kernel
theorem dX1_init_41 : decode cX1_init 41 = .ok (.iload_n 1, 1) := by decide +kernel
theorem dX1_init_42 : decode cX1_init 42 = .ok (.iload_n 1, 1) := by decide +kernel
theorem dX1_init_43 : decode cX1_init 43 = .ok (.bipush 7, 2) := by decide +kernel
theorem dX1_init_45 : decode cX1_init 45 = .ok (.irem, 1) := by decide +kernel
theorem dX1_init_46 : decode cX1_init 46 = .ok (.iastore, 1) := by decide +kernel
theorem dX1_init_47 : decode cX1_init 47 = .ok (.iinc 1 1, 3) := by decide +kernel
theorem dX1_init_50 : decode cX1_init 50 = .ok (.goto (-19), 3) := by decide +kernel
theorem dX1_init_53 : decode cX1_init 53 = .ok (.return_, 1) := by decide +kernel
theorem dX1_take_0 : decode cX1_take 0 = .ok (.aload_n 0, 1) := by decide +kernel
theorem dX1_take_1 : decode cX1_take 1 = .ok (.aload_n 1, 1) := by decide +kernel
theorem dX1_take_2 : decode cX1_take 2 = .ok (.getfield 15, 3) := by decide +kernel
theorem dX1_take_5 : decode cX1_take 5 = .ok (.putfield 15, 3) := by decide +kernel
theorem dX1_take_8 : decode cX1_take 8 = .ok (.aload_n 0, 1) := by decide +kernel
theorem dX1_take_9 : decode cX1_take 9 = .ok (.aload_n 1, 1) := by decide +kernel
theorem dX1_take_10 : decode cX1_take 10 = .ok (.getfield 18, 3) := by decide +kernel
theorem dX1_take_13 : decode cX1_take 13 = .ok (.putfield 18, 3) := by decide +kernel
theorem dX1_take_16 : decode cX1_take 16 = .ok (.aload_n 0, 1) := by decide +kernel
theorem dX1_take_17 : decode cX1_take 17 = .ok (.aload_n 1, 1) := by decide +kernel
theorem dX1_take_18 : decode cX1_take 18 = .ok (.invokevirtual 25, 3) := by decide +kernel
theorem dX1_take_21 : decode cX1_take 21 = .ok (.return_, 1) := by decide +kernel
theorem dX1_takeBelt_0 : decode cX1_takeBelt 0 = .ok (.aload_n 0, 1) := by decide +kernel
theorem dX1_takeBelt_1 : decode cX1_takeBelt 1 = .ok (.aload_n 1, 1) := by decide +kernel
theorem dX1_takeBelt_2 : decode cX1_takeBelt 2 = .ok (.getfield 9, 3) := by decide +kernel
theorem dX1_takeBelt_5 : decode cX1_takeBelt 5 = .ok (.putfield 9, 3) := by decide +kernel
theorem dX1_takeBelt_8 : decode cX1_takeBelt 8 = .ok (.aload_n 1, 1) := by decide +kernel
theorem dX1_takeBelt_9 : decode cX1_takeBelt 9 = .ok (.getfield 21, 3) := by decide +kernel
theorem dX1_takeBelt_12 : decode cX1_takeBelt 12 = .ok (.iconst 0, 1) := by decide +kernel
theorem dX1_takeBelt_13 : decode cX1_takeBelt 13 = .ok (.aload_n 0, 1) := by decide +kernel
theorem dX1_takeBelt_14 : decode cX1_takeBelt 14 = .ok (.getfield 21, 3) := by decide +kernel
theorem dX1_takeBelt_17 : decode cX1_takeBelt 17 = .ok (.iconst 0, 1) := by decide +kernel
theorem dX1_takeBelt_18 : decode cX1_takeBelt 18 = .ok (.bipush 12, 2) := by decide +kernel
theorem dX1_takeBelt_20 : decode cX1_takeBelt 20 = .ok (.invokestatic 29, 3) := by decide +kernel
theorem dX1_takeBelt_23 : decode cX1_takeBelt 23 = .ok (.return_, 1) := by decide +kernel
theorem dX1_cars_0 : decode cX1_cars 0 = .ok (.iconst 2, 1) := by decide +kernel
theorem dX1_cars_1 : decode cX1_cars 1 = .ok (.aload_n 0, 1) := by decide +kernel
theorem dX1_cars_2 : decode cX1_cars 2 = .ok (.getfield 9, 3) := by decide +kernel
theorem dX1_cars_5 : decode cX1_cars 5 = .ok (.imul, 1) := by decide +kernel
theorem dX1_cars_6 : decode cX1_cars 6 = .ok (.ireturn, 1) := by decide +kernel
theorem dX1_floorAt_0 : decode cX1_floorAt 0 = .ok (.iload_n 1, 1) := by decide +kernel
theorem dX1_floorAt_1 : decode cX1_floorAt 1 = .ok (.aload_n 0, 1) := by decide +kernel
theorem dX1_floorAt_2 : decode cX1_floorAt 2 = .ok (.getfield 9, 3) := by decide +kernel
theorem dX1_floorAt_5 : decode cX1_floorAt 5 = .ok (.if_icmp .ge 7, 3) := by decide +kernel
theorem dX1_floorAt_8 : decode cX1_floorAt 8 = .ok (.iload_n 1, 1) := by decide +kernel
theorem dX1_floorAt_9 : decode cX1_floorAt 9 = .ok (.goto 11, 3) := by decide +kernel
theorem dX1_floorAt_12 : decode cX1_floorAt 12 = .ok (.aload_n 0, 1) := by decide +kernel
theorem dX1_floorAt_13 : decode cX1_floorAt 13 = .ok (.invokevirtual 35, 3) := by decide +kernel
theorem dX1_floorAt_16 : decode cX1_floorAt 16 = .ok (.iconst 1, 1) := by decide +kernel
theorem dX1_floorAt_17 : decode cX1_floorAt 17 = .ok (.isub, 1) := by decide +kernel
theorem dX1_floorAt_18 : decode cX1_floorAt 18 = .ok (.iload_n 1, 1) := by decide +kernel
theorem dX1_floorAt_19 : decode cX1_floorAt 19 = .ok (.isub, 1) := by decide +kernel
theorem dX1_floorAt_20 : decode cX1_floorAt 20 = .ok (.ireturn, 1) := by decide +kernel
theorem dX1_sideAt_0 : decode cX1_sideAt 0 = .ok (.iload_n 1, 1) := by decide +kernel
theorem dX1_sideAt_1 : decode cX1_sideAt 1 = .ok (.aload_n 0, 1) := by decide +kernel
theorem dX1_sideAt_2 : decode cX1_sideAt 2 = .ok (.getfield 9, 3) := by decide +kernel
theorem dX1_sideAt_5 : decode cX1_sideAt 5 = .ok (.if_icmp .ge 7, 3) := by decide +kernel
theorem dX1_sideAt_8 : decode cX1_sideAt 8 = .ok (.iconst 0, 1) := by decide +kernel
theorem dX1_sideAt_9 : decode cX1_sideAt 9 = .ok (.goto 4, 3) := by decide +kernel
theorem dX1_sideAt_12 : decode cX1_sideAt 12 = .ok (.iconst 1, 1) := by decide +kernel
theorem dX1_sideAt_13 : decode cX1_sideAt 13 = .ok (.ireturn, 1) := by decide +kernel
theorem dX1_placeBy_0 : decode cX1_placeBy 0 = .ok (.iload_n 2, 1) := by decide +kernel
theorem dX1_placeBy_1 : decode cX1_placeBy 1 = .ok (.ifCond .ne 7, 3) := by decide +kernel
theorem dX1_placeBy_4 : decode cX1_placeBy 4 = .ok (.iload_n 1, 1) := by decide +kernel
theorem dX1_placeBy_5 : decode cX1_placeBy 5 = .ok (.goto 11, 3) := by decide +kernel
theorem dX1_placeBy_8 : decode cX1_placeBy 8 = .ok (.aload_n 0, 1) := by decide +kernel
theorem dX1_placeBy_9 : decode cX1_placeBy 9 = .ok (.invokevirtual 35, 3) := by decide +kernel
theorem dX1_placeBy_12 : decode cX1_placeBy 12 = .ok (.iconst 1, 1) := by decide +kernel
theorem dX1_placeBy_13 : decode cX1_placeBy 13 = .ok (.isub, 1) := by decide +kernel
theorem dX1_placeBy_14 : decode cX1_placeBy 14 = .ok (.iload_n 1, 1) := by decide +kernel
theorem dX1_placeBy_15 : decode cX1_placeBy 15 = .ok (.isub, 1) := by decide +kernel
theorem dX1_placeBy_16 : decode cX1_placeBy 16 = .ok (.ireturn, 1) := by decide +kernel
theorem dX1_placeOf_0 : decode cX1_placeOf 0 = .ok (.iload_n 1, 1) := by decide +kernel
theorem dX1_placeOf_1 : decode cX1_placeOf 1 = .ok (.iload_n 2, 1) := by decide +kernel
theorem dX1_placeOf_2 : decode cX1_placeOf 2 = .ok (.iadd, 1) := by decide +kernel
theorem dX1_placeOf_3 : decode cX1_placeOf 3 = .ok (.aload_n 0, 1) := by decide +kernel
theorem dX1_placeOf_4 : decode cX1_placeOf 4 = .ok (.invokevirtual 35, 3) := by decide +kernel
theorem dX1_placeOf_7 : decode cX1_placeOf 7 = .ok (.invokestatic 39, 3) := by decide +kernel
theorem dX1_placeOf_10 : decode cX1_placeOf 10 = .ok (.ireturn, 1) := by decide +kernel
theorem dX1_carIn_0 : decode cX1_carIn 0 = .ok (.iload_n 1, 1) := by decide +kernel
theorem dX1_carIn_1 : decode cX1_carIn 1 = .ok (.iload_n 2, 1) := by decide +kernel
theorem dX1_carIn_2 : decode cX1_carIn 2 = .ok (.isub, 1) := by decide +kernel
theorem dX1_carIn_3 : decode cX1_carIn 3 = .ok (.aload_n 0, 1) := by decide +kernel
theorem dX1_carIn_4 : decode cX1_carIn 4 = .ok (.invokevirtual 35, 3) := by decide +kernel
theorem dX1_carIn_7 : decode cX1_carIn 7 = .ok (.invokestatic 39, 3) := by decide +kernel
theorem dX1_carIn_10 : decode cX1_carIn 10 = .ok (.ireturn, 1) := by decide +kernel
theorem dX2_init_0 : decode cX2_init 0 = .ok (.aload_n 0, 1) := by decide +kernel
theorem dX2_init_1 : decode cX2_init 1 = .ok (.invokespecial 3, 3) := by decide +kernel
theorem dX2_init_4 : decode cX2_init 4 = .ok (.aload_n 0, 1) := by decide +kernel
theorem dX2_init_5 : decode cX2_init 5 = .ok (.new 9, 3) := by decide +kernel
theorem dX2_init_8 : decode cX2_init 8 = .ok (.dup, 1) := by decide +kernel
theorem dX2_init_9 : decode cX2_init 9 = .ok (.invokespecial 11, 3) := by decide +kernel
theorem dX2_init_12 : decode cX2_init 12 = .ok (.putfield 12, 3) := by decide +kernel
theorem dX2_init_15 : decode cX2_init 15 = .ok (.aload_n 0, 1) := by decide +kernel
theorem dX2_init_16 : decode cX2_init 16 = .ok (.new 18, 3) := by decide +kernel
theorem dX2_init_19 : decode cX2_init 19 = .ok (.dup, 1) := by decide +kernel
theorem dX2_init_20 : decode cX2_init 20 = .ok (.invokespecial 20, 3) := by decide +kernel
theorem dX2_init_23 : decode cX2_init 23 = .ok (.putfield 21, 3) := by decide +kernel
theorem dX2_init_26 : decode cX2_init 26 = .ok (.return_, 1) := by decide +kernel
theorem dX2_reads_0 : decode cX2_reads 0 = .ok (.aload_n 0, 1) := by decide +kernel
theorem dX2_reads_1 : decode cX2_reads 1 = .ok (.aload_n 1, 1) := by decide +kernel
theorem dX2_reads_2 : decode cX2_reads 2 = .ok (.invokevirtual 25, 3) := by decide +kernel
theorem dX2_reads_5 : decode cX2_reads 5 = .ok (.ifCond .eq 41, 3) := by decide +kernel
theorem dX2_reads_8 : decode cX2_reads 8 = .ok (.aload_n 1, 1) := by decide +kernel
theorem dX2_reads_9 : decode cX2_reads 9 = .ok (.bipush 59, 2) := by decide +kernel
theorem dX2_reads_11 : decode cX2_reads 11 = .ok (.invokevirtual 29, 3) := by decide +kernel
theorem dX2_reads_14 : decode cX2_reads 14 = .ok (.ifCond .eq 32, 3) := by decide +kernel
theorem dX2_reads_17 : decode cX2_reads 17 = .ok (.aload_n 0, 1) := by decide +kernel
theorem dX2_reads_18 : decode cX2_reads 18 = .ok (.aload_n 1, 1) := by decide +kernel
theorem dX2_reads_19 : decode cX2_reads 19 = .ok (.invokevirtual 35, 3) := by decide +kernel
theorem dX2_reads_22 : decode cX2_reads 22 = .ok (.ifCond .eq 24, 3) := by decide +kernel
theorem dX2_reads_25 : decode cX2_reads 25 = .ok (.aload_n 1, 1) := by decide +kernel
theorem dX2_reads_26 : decode cX2_reads 26 = .ok (.bipush 59, 2) := by decide +kernel
theorem dX2_reads_28 : decode cX2_reads 28 = .ok (.invokevirtual 29, 3) := by decide +kernel
theorem dX2_reads_31 : decode cX2_reads 31 = .ok (.ifCond .eq 15, 3) := by decide +kernel
theorem dX2_reads_34 : decode cX2_reads 34 = .ok (.aload_n 0, 1) := by decide +kernel
theorem dX2_reads_35 : decode cX2_reads 35 = .ok (.aload_n 1, 1) := by decide +kernel
theorem dX2_reads_36 : decode cX2_reads 36 = .ok (.invokevirtual 38, 3) := by decide +kernel
theorem dX2_reads_39 : decode cX2_reads 39 = .ok (.ifCond .eq 7, 3) := by decide +kernel
theorem dX2_reads_42 : decode cX2_reads 42 = .ok (.iconst 1, 1) := by decide +kernel
theorem dX2_reads_43 : decode cX2_reads 43 = .ok (.goto 4, 3) := by decide +kernel
theorem dX2_reads_46 : decode cX2_reads 46 = .ok (.iconst 0, 1) := by decide +kernel
theorem dX2_reads_47 : decode cX2_reads 47 = .ok (.ireturn, 1) := by decide +kernel
theorem dX2_readsHigh_0 : decode cX2_readsHigh 0 = .ok (.aload_n 1, 1) := by decide +kernel
theorem dX2_readsHigh_1 : decode cX2_readsHigh 1 = .ok (.iconst 2, 1) := by decide +kernel
theorem dX2_readsHigh_2 : decode cX2_readsHigh 2 = .ok (.bipush 6, 2) := by decide +kernel
theorem dX2_readsHigh_4 : decode cX2_readsHigh 4 = .ok (.invokevirtual 41, 3) := by decide +kernel
theorem dX2_readsHigh_7 : decode cX2_readsHigh 7 = .ok (.istore_n 2, 1) := by decide +kernel
theorem dX2_readsHigh_8 : decode cX2_readsHigh 8 = .ok (.iload_n 2, 1) := by decide +kernel
theorem dX2_readsHigh_9 : decode cX2_readsHigh 9 = .ok (.bipush (-4), 2) := by decide +kernel
theorem dX2_readsHigh_11 : decode cX2_readsHigh 11 = .ok (.if_icmp .ne 5, 3) := by decide +kernel
theorem dX2_readsHigh_14 : decode cX2_readsHigh 14 = .ok (.iconst 0, 1) := by decide +kernel
theorem dX2_readsHigh_15 : decode cX2_readsHigh 15 = .ok (.ireturn, 1) := by decide +kernel
theorem dX2_readsHigh_16 : decode cX2_readsHigh 16 = .ok (.aload_n 0, 1) := by decide +kernel
theorem dX2_readsHigh_17 : decode cX2_readsHigh 17 = .ok (.getfield 12, 3) := by decide +kernel
theorem dX2_readsHigh_20 : decode cX2_readsHigh 20 = .ok (.iload_n 2, 1) := by decide +kernel
theorem dX2_readsHigh_21 : decode cX2_readsHigh 21 = .ok (.putfield 45, 3) := by decide +kernel
theorem dX2_readsHigh_24 : decode cX2_readsHigh 24 = .ok (.iconst 1, 1) := by decide +kernel
theorem dX2_readsHigh_25 : decode cX2_readsHigh 25 = .ok (.ireturn, 1) := by decide +kernel
theorem dX2_readsDays_0 : decode cX2_readsDays 0 = .ok (.iconst 0, 1) := by decide +kernel
theorem dX2_readsDays_1 : decode cX2_readsDays 1 = .ok (.istore_n 2, 1) := by decide +kernel
theorem dX2_readsDays_2 : decode cX2_readsDays 2 = .ok (.iload_n 2, 1) := by decide +kernel
theorem dX2_readsDays_3 : decode cX2_readsDays 3 = .ok (.aload_n 0, 1) := by decide +kernel
theorem dX2_readsDays_4 : decode cX2_readsDays 4 = .ok (.getfield 12, 3) := by decide +kernel
theorem dX2_readsDays_7 : decode cX2_readsDays 7 = .ok (.invokevirtual 49, 3) := by decide +kernel
theorem dX2_readsDays_10 : decode cX2_readsDays 10 = .ok (.if_icmp .ge 35, 3) := by decide +kernel
theorem dX2_readsDays_13 : decode cX2_readsDays 13 = .ok (.aload_n 1, 1) := by decide +kernel
theorem dX2_readsDays_14 : decode cX2_readsDays 14 = .ok (.iconst 0, 1) := by decide +kernel
theorem dX2_readsDays_15 : decode cX2_readsDays 15 = .ok (.bipush 6, 2) := by decide +kernel
theorem dX2_readsDays_17 : decode cX2_readsDays 17 = .ok (.invokevirtual 41, 3) := by decide +kernel
theorem dX2_readsDays_20 : decode cX2_readsDays 20 = .ok (.istore_n 3, 1) := by decide +kernel
theorem dX2_readsDays_21 : decode cX2_readsDays 21 = .ok (.iload_n 3, 1) := by decide +kernel
theorem dX2_readsDays_22 : decode cX2_readsDays 22 = .ok (.bipush (-4), 2) := by decide +kernel
theorem dX2_readsDays_24 : decode cX2_readsDays 24 = .ok (.if_icmp .ne 5, 3) := by decide +kernel
theorem dX2_readsDays_27 : decode cX2_readsDays 27 = .ok (.iconst 0, 1) := by decide +kernel
theorem dX2_readsDays_28 : decode cX2_readsDays 28 = .ok (.ireturn, 1) := by decide +kernel
theorem dX2_readsDays_29 : decode cX2_readsDays 29 = .ok (.aload_n 0, 1) := by decide +kernel
theorem dX2_readsDays_30 : decode cX2_readsDays 30 = .ok (.getfield 12, 3) := by decide +kernel
theorem dX2_readsDays_33 : decode cX2_readsDays 33 = .ok (.getfield 53, 3) := by decide +kernel
theorem dX2_readsDays_36 : decode cX2_readsDays 36 = .ok (.iload_n 2, 1) := by decide +kernel
theorem dX2_readsDays_37 : decode cX2_readsDays 37 = .ok (.iload_n 3, 1) := by decide +kernel
theorem dX2_readsDays_38 : decode cX2_readsDays 38 = .ok (.iastore, 1) := by decide +kernel
theorem dX2_readsDays_39 : decode cX2_readsDays 39 = .ok (.iinc 2 1, 3) := by decide +kernel
theorem dX2_readsDays_42 : decode cX2_readsDays 42 = .ok (.goto (-40), 3) := by decide +kernel
theorem dX2_readsDays_45 : decode cX2_readsDays 45 = .ok (.iconst 1, 1) := by decide +kernel
theorem dX2_readsDays_46 : decode cX2_readsDays 46 = .ok (.ireturn, 1) := by decide +kernel
theorem dX2_readsPeople_0 : decode cX2_readsPeople 0 = .ok (.aload_n 0, 1) := by decide +kernel
theorem dX2_readsPeople_1 : decode cX2_readsPeople 1 = .ok (.getfield 21, 3) := by decide +kernel
theorem dX2_readsPeople_4 : decode cX2_readsPeople 4 = .ok (.iconst 0, 1) := by decide +kernel
theorem dX2_readsPeople_5 : decode cX2_readsPeople 5 = .ok (.putfield 57, 3) := by decide +kernel
theorem dX2_readsPeople_8 : decode cX2_readsPeople 8 = .ok (.iconst 0, 1) := by decide +kernel
theorem dX2_readsPeople_9 : decode cX2_readsPeople 9 = .ok (.istore_n 2, 1) := by decide +kernel
theorem dX2_readsPeople_10 : decode cX2_readsPeople 10 = .ok (.iload_n 2, 1) := by decide +kernel
theorem dX2_readsPeople_11 : decode cX2_readsPeople 11 = .ok (.bipush 6, 2) := by decide +kernel
theorem dX2_readsPeople_13 : decode cX2_readsPeople 13 = .ok (.if_icmp .ge 35, 3) := by decide +kernel
theorem dX2_readsPeople_16 : decode cX2_readsPeople 16 = .ok (.iload_n 2, 1) := by decide +kernel
theorem dX2_readsPeople_17 : decode cX2_readsPeople 17 = .ok (.ifCond .le 15, 3) := by decide +kernel
theorem dX2_readsPeople_20 : decode cX2_readsPeople 20 = .ok (.aload_n 1, 1) := by decide +kernel
theorem dX2_readsPeople_21 : decode cX2_readsPeople 21 = .ok (.bipush 44, 2) := by decide +kernel
theorem dX2_readsPeople_23 : decode cX2_readsPeople 23 = .ok (.invokevirtual 29, 3) := by decide +kernel
theorem dX2_readsPeople_26 : decode cX2_readsPeople 26 = .ok (.ifCond .ne 6, 3) := by decide +kernel
theorem dX2_readsPeople_29 : decode cX2_readsPeople 29 = .ok (.goto 19, 3) := by decide +kernel
theorem dX2_readsPeople_32 : decode cX2_readsPeople 32 = .ok (.aload_n 0, 1) := by decide +kernel
theorem dX2_readsPeople_33 : decode cX2_readsPeople 33 = .ok (.aload_n 1, 1) := by decide +kernel
theorem dX2_readsPeople_34 : decode cX2_readsPeople 34 = .ok (.invokevirtual 60, 3) := by decide +kernel
theorem dX2_readsPeople_37 : decode cX2_readsPeople 37 = .ok (.ifCond .ne 5, 3) := by decide +kernel
theorem dX2_readsPeople_40 : decode cX2_readsPeople 40 = .ok (.iconst 0, 1) := by decide +kernel
theorem dX2_readsPeople_41 : decode cX2_readsPeople 41 = .ok (.ireturn, 1) := by decide +kernel
theorem dX2_readsPeople_42 : decode cX2_readsPeople 42 = .ok (.iinc 2 1, 3) := by decide +kernel
theorem dX2_readsPeople_45 : decode cX2_readsPeople 45 = .ok (.goto (-35), 3) := by decide +kernel
theorem dX2_readsPeople_48 : decode cX2_readsPeople 48 = .ok (.aload_n 1, 1) := by decide +kernel
theorem dX2_readsPeople_49 : decode cX2_readsPeople 49 = .ok (.invokevirtual 63, 3) := by decide +kernel
theorem dX2_readsPeople_52 : decode cX2_readsPeople 52 = .ok (.ireturn, 1) := by decide +kernel
theorem dX2_readsPerson_0 : decode cX2_readsPerson 0 = .ok (.aload_n 1, 1) := by decide +kernel
theorem dX2_readsPerson_1 : decode cX2_readsPerson 1 = .ok (.invokevirtual 67, 3) := by decide +kernel
theorem dX2_readsPerson_4 : decode cX2_readsPerson 4 = .ok (.istore_n 2, 1) := by decide +kernel
theorem dX2_readsPerson_5 : decode cX2_readsPerson 5 = .ok (.iload_n 2, 1) := by decide +kernel
theorem dX2_readsPerson_6 : decode cX2_readsPerson 6 = .ok (.bipush (-4), 2) := by decide +kernel
theorem dX2_readsPerson_8 : decode cX2_readsPerson 8 = .ok (.if_icmp .ne 5, 3) := by decide +kernel
theorem dX2_readsPerson_11 : decode cX2_readsPerson 11 = .ok (.iconst 0, 1) := by decide +kernel
theorem dX2_readsPerson_12 : decode cX2_readsPerson 12 = .ok (.ireturn, 1) := by decide +kernel
theorem dX2_readsPerson_13 : decode cX2_readsPerson 13 = .ok (.aload_n 1, 1) := by decide +kernel
theorem dX2_readsPerson_14 : decode cX2_readsPerson 14 = .ok (.iconst 1, 1) := by decide +kernel
theorem dX2_readsPerson_15 : decode cX2_readsPerson 15 = .ok (.bipush 9, 2) := by decide +kernel
theorem dX2_readsPerson_17 : decode cX2_readsPerson 17 = .ok (.invokevirtual 41, 3) := by decide +kernel
theorem dX2_readsPerson_20 : decode cX2_readsPerson 20 = .ok (.istore_n 3, 1) := by decide +kernel
theorem dX2_readsPerson_21 : decode cX2_readsPerson 21 = .ok (.iload_n 3, 1) := by decide +kernel
theorem dX2_readsPerson_22 : decode cX2_readsPerson 22 = .ok (.bipush (-4), 2) := by decide +kernel
theorem dX2_readsPerson_24 : decode cX2_readsPerson 24 = .ok (.if_icmp .ne 5, 3) := by decide +kernel
theorem dX2_readsPerson_27 : decode cX2_readsPerson 27 = .ok (.iconst 0, 1) := by decide +kernel
theorem dX2_readsPerson_28 : decode cX2_readsPerson 28 = .ok (.ireturn, 1) := by decide +kernel
theorem dX2_readsPerson_29 : decode cX2_readsPerson 29 = .ok (.aload_n 1, 1) := by decide +kernel
theorem dX2_readsPerson_30 : decode cX2_readsPerson 30 = .ok (.iconst 0, 1) := by decide +kernel
theorem dX2_readsPerson_31 : decode cX2_readsPerson 31 = .ok (.aload_n 0, 1) := by decide +kernel
theorem dX2_readsPerson_32 : decode cX2_readsPerson 32 = .ok (.getfield 12, 3) := by decide +kernel
theorem dX2_readsPerson_35 : decode cX2_readsPerson 35 = .ok (.getfield 45, 3) := by decide +kernel
theorem dX2_readsPerson_38 : decode cX2_readsPerson 38 = .ok (.iconst 1, 1) := by decide +kernel
theorem dX2_readsPerson_39 : decode cX2_readsPerson 39 = .ok (.isub, 1) := by decide +kernel
theorem dX2_readsPerson_40 : decode cX2_readsPerson 40 = .ok (.invokevirtual 41, 3) := by decide +kernel
theorem dX2_readsPerson_43 : decode cX2_readsPerson 43 = .ok (.istore 4, 2) := by decide +kernel
theorem dX2_readsPerson_45 : decode cX2_readsPerson 45 = .ok (.iload 4, 2) := by decide +kernel
theorem dX2_readsPerson_47 : decode cX2_readsPerson 47 = .ok (.bipush (-4), 2) := by decide +kernel
theorem dX2_readsPerson_49 : decode cX2_readsPerson 49 = .ok (.if_icmp .ne 5, 3) := by decide +kernel
theorem dX2_readsPerson_52 : decode cX2_readsPerson 52 = .ok (.iconst 0, 1) := by decide +kernel
theorem dX2_readsPerson_53 : decode cX2_readsPerson 53 = .ok (.ireturn, 1) := by decide +kernel
theorem dX2_readsPerson_54 : decode cX2_readsPerson 54 = .ok (.aload_n 1, 1) := by decide +kernel
theorem dX2_readsPerson_55 : decode cX2_readsPerson 55 = .ok (.iconst 0, 1) := by decide +kernel
theorem dX2_readsPerson_56 : decode cX2_readsPerson 56 = .ok (.bipush 6, 2) := by decide +kernel
theorem dX2_readsPerson_58 : decode cX2_readsPerson 58 = .ok (.invokevirtual 41, 3) := by decide +kernel
theorem dX2_readsPerson_61 : decode cX2_readsPerson 61 = .ok (.istore 5, 2) := by decide +kernel
theorem dX2_readsPerson_63 : decode cX2_readsPerson 63 = .ok (.iload 5, 2) := by decide +kernel
theorem dX2_readsPerson_65 : decode cX2_readsPerson 65 = .ok (.bipush (-4), 2) := by decide +kernel
theorem dX2_readsPerson_67 : decode cX2_readsPerson 67 = .ok (.if_icmp .ne 5, 3) := by decide +kernel
theorem dX2_readsPerson_70 : decode cX2_readsPerson 70 = .ok (.iconst 0, 1) := by decide +kernel
theorem dX2_readsPerson_71 : decode cX2_readsPerson 71 = .ok (.ireturn, 1) := by decide +kernel
theorem dX2_readsPerson_72 : decode cX2_readsPerson 72 = .ok (.aload_n 0, 1) := by decide +kernel
theorem dX2_readsPerson_73 : decode cX2_readsPerson 73 = .ok (.getfield 21, 3) := by decide +kernel
theorem dX2_readsPerson_76 : decode cX2_readsPerson 76 = .ok (.getstatic 70, 3) := by decide +kernel
theorem dX2_readsPerson_79 : decode cX2_readsPerson 79 = .ok (.iload_n 2, 1) := by decide +kernel
theorem dX2_readsPerson_80 : decode cX2_readsPerson 80 = .ok (.aaload, 1) := by decide +kernel
theorem dX2_readsPerson_81 : decode cX2_readsPerson 81 = .ok (.iload_n 3, 1) := by decide +kernel
theorem dX2_readsPerson_82 : decode cX2_readsPerson 82 = .ok (.iload 4, 2) := by decide +kernel
theorem dX2_readsPerson_84 : decode cX2_readsPerson 84 = .ok (.iload 5, 2) := by decide +kernel
theorem dX2_readsPerson_86 : decode cX2_readsPerson 86 = .ok (.invokevirtual 74, 3) := by decide +kernel
theorem dX2_readsPerson_89 : decode cX2_readsPerson 89 = .ok (.iconst 1, 1) := by decide +kernel
theorem dX2_readsPerson_90 : decode cX2_readsPerson 90 = .ok (.ireturn, 1) := by decide +kernel
theorem dX3_init_0 : decode cX3_init 0 = .ok (.aload_n 0, 1) := by decide +kernel
theorem dX3_init_1 : decode cX3_init 1 = .ok (.invokespecial 3, 3) := by decide +kernel
theorem dX3_init_4 : decode cX3_init 4 = .ok (.aload_n 0, 1) := by decide +kernel
theorem dX3_init_5 : decode cX3_init 5 = .ok (.bipush 8, 2) := by decide +kernel
theorem dX3_init_7 : decode cX3_init 7 = .ok (.anewarray 9, 3) := by decide +kernel
theorem dX3_init_10 : decode cX3_init 10 = .ok (.putfield 11, 3) := by decide +kernel
theorem dX3_init_13 : decode cX3_init 13 = .ok (.iconst 0, 1) := by decide +kernel
theorem dX3_init_14 : decode cX3_init 14 = .ok (.istore_n 1, 1) := by decide +kernel
theorem dX3_init_15 : decode cX3_init 15 = .ok (.iload_n 1, 1) := by decide +kernel
theorem dX3_init_16 : decode cX3_init 16 = .ok (.bipush 8, 2) := by decide +kernel
theorem dX3_init_18 : decode cX3_init 18 = .ok (.if_icmp .ge 22, 3) := by decide +kernel
theorem dX3_init_21 : decode cX3_init 21 = .ok (.aload_n 0, 1) := by decide +kernel
theorem dX3_init_22 : decode cX3_init 22 = .ok (.getfield 11, 3) := by decide +kernel
theorem dX3_init_25 : decode cX3_init 25 = .ok (.iload_n 1, 1) := by decide +kernel
theorem dX3_init_26 : decode cX3_init 26 = .ok (.new 9, 3) := by decide +kernel
theorem dX3_init_29 : decode cX3_init 29 = .ok (.dup, 1) := by decide +kernel
theorem dX3_init_30 : decode cX3_init 30 = .ok (.invokespecial 17, 3) := by decide +kernel
theorem dX3_init_33 : decode cX3_init 33 = .ok (.aastore, 1) := by decide +kernel
theorem dX3_init_34 : decode cX3_init 34 = .ok (.iinc 1 1, 3) := by decide +kernel
theorem dX3_init_37 : decode cX3_init 37 = .ok (.goto (-22), 3) := by decide +kernel
theorem dX3_init_40 : decode cX3_init 40 = .ok (.return_, 1) := by decide +kernel
theorem dX3_clear_0 : decode cX3_clear 0 = .ok (.aload_n 0, 1) := by decide +kernel
theorem dX3_clear_1 : decode cX3_clear 1 = .ok (.iconst 0, 1) := by decide +kernel
theorem dX3_clear_2 : decode cX3_clear 2 = .ok (.putfield 18, 3) := by decide +kernel
theorem dX3_clear_5 : decode cX3_clear 5 = .ok (.return_, 1) := by decide +kernel
theorem dX3_push_0 : decode cX3_push 0 = .ok (.aload_n 0, 1) := by decide +kernel
theorem dX3_push_1 : decode cX3_push 1 = .ok (.getfield 11, 3) := by decide +kernel
theorem dX3_push_4 : decode cX3_push 4 = .ok (.aload_n 0, 1) := by decide +kernel
theorem dX3_push_5 : decode cX3_push 5 = .ok (.getfield 22, 3) := by decide +kernel
theorem dX3_push_8 : decode cX3_push 8 = .ok (.aaload, 1) := by decide +kernel
theorem dX3_push_9 : decode cX3_push 9 = .ok (.aload_n 1, 1) := by decide +kernel
theorem dX3_push_10 : decode cX3_push 10 = .ok (.invokevirtual 25, 3) := by decide +kernel
theorem dX3_push_13 : decode cX3_push 13 = .ok (.aload_n 0, 1) := by decide +kernel
theorem dX3_push_14 : decode cX3_push 14 = .ok (.aload_n 0, 1) := by decide +kernel
theorem dX3_push_15 : decode cX3_push 15 = .ok (.getfield 22, 3) := by decide +kernel
theorem dX3_push_18 : decode cX3_push 18 = .ok (.iconst 1, 1) := by decide +kernel
theorem dX3_push_19 : decode cX3_push 19 = .ok (.iadd, 1) := by decide +kernel
theorem dX3_push_20 : decode cX3_push 20 = .ok (.bipush 8, 2) := by decide +kernel
theorem dX3_push_22 : decode cX3_push 22 = .ok (.irem, 1) := by decide +kernel
theorem dX3_push_23 : decode cX3_push 23 = .ok (.putfield 22, 3) := by decide +kernel
theorem dX3_push_26 : decode cX3_push 26 = .ok (.aload_n 0, 1) := by decide +kernel
theorem dX3_push_27 : decode cX3_push 27 = .ok (.aload_n 0, 1) := by decide +kernel
theorem dX3_push_28 : decode cX3_push 28 = .ok (.getfield 18, 3) := by decide +kernel
theorem dX3_push_31 : decode cX3_push 31 = .ok (.iconst 1, 1) := by decide +kernel
theorem dX3_push_32 : decode cX3_push 32 = .ok (.iadd, 1) := by decide +kernel
theorem dX3_push_33 : decode cX3_push 33 = .ok (.bipush 8, 2) := by decide +kernel
theorem dX3_push_35 : decode cX3_push 35 = .ok (.invokestatic 29, 3) := by decide +kernel
theorem dX3_push_38 : decode cX3_push 38 = .ok (.putfield 18, 3) := by decide +kernel
theorem dX3_push_41 : decode cX3_push 41 = .ok (.return_, 1) := by decide +kernel
theorem dX3_pop_0 : decode cX3_pop 0 = .ok (.aload_n 0, 1) := by decide +kernel
theorem dX3_pop_1 : decode cX3_pop 1 = .ok (.getfield 18, 3) := by decide +kernel
theorem dX3_pop_4 : decode cX3_pop 4 = .ok (.ifCond .le 42, 3) := by decide +kernel
theorem dX3_pop_7 : decode cX3_pop 7 = .ok (.aload_n 0, 1) := by decide +kernel
theorem dX3_pop_8 : decode cX3_pop 8 = .ok (.aload_n 0, 1) := by decide +kernel
theorem dX3_pop_9 : decode cX3_pop 9 = .ok (.getfield 22, 3) := by decide +kernel
theorem dX3_pop_12 : decode cX3_pop 12 = .ok (.bipush 8, 2) := by decide +kernel
theorem dX3_pop_14 : decode cX3_pop 14 = .ok (.iadd, 1) := by decide +kernel
theorem dX3_pop_15 : decode cX3_pop 15 = .ok (.iconst 1, 1) := by decide +kernel
theorem dX3_pop_16 : decode cX3_pop 16 = .ok (.isub, 1) := by decide +kernel
theorem dX3_pop_17 : decode cX3_pop 17 = .ok (.bipush 8, 2) := by decide +kernel
theorem dX3_pop_19 : decode cX3_pop 19 = .ok (.irem, 1) := by decide +kernel
theorem dX3_pop_20 : decode cX3_pop 20 = .ok (.putfield 22, 3) := by decide +kernel
theorem dX3_pop_23 : decode cX3_pop 23 = .ok (.aload_n 0, 1) := by decide +kernel
theorem dX3_pop_24 : decode cX3_pop 24 = .ok (.dup, 1) := by decide +kernel
theorem dX3_pop_25 : decode cX3_pop 25 = .ok (.getfield 18, 3) := by decide +kernel
theorem dX3_pop_28 : decode cX3_pop 28 = .ok (.iconst 1, 1) := by decide +kernel
theorem dX3_pop_29 : decode cX3_pop 29 = .ok (.isub, 1) := by decide +kernel
theorem dX3_pop_30 : decode cX3_pop 30 = .ok (.putfield 18, 3) := by decide +kernel
theorem dX3_pop_33 : decode cX3_pop 33 = .ok (.aload_n 1, 1) := by decide +kernel
theorem dX3_pop_34 : decode cX3_pop 34 = .ok (.aload_n 0, 1) := by decide +kernel
theorem dX3_pop_35 : decode cX3_pop 35 = .ok (.getfield 11, 3) := by decide +kernel
theorem dX3_pop_38 : decode cX3_pop 38 = .ok (.aload_n 0, 1) := by decide +kernel
theorem dX3_pop_39 : decode cX3_pop 39 = .ok (.getfield 22, 3) := by decide +kernel
theorem dX3_pop_42 : decode cX3_pop 42 = .ok (.aaload, 1) := by decide +kernel
theorem dX3_pop_43 : decode cX3_pop 43 = .ok (.invokevirtual 25, 3) := by decide +kernel
theorem dX3_pop_46 : decode cX3_pop 46 = .ok (.return_, 1) := by decide +kernel
theorem dX3_take_0 : decode cX3_take 0 = .ok (.aload_n 0, 1) := by decide +kernel
theorem dX3_take_1 : decode cX3_take 1 = .ok (.aload_n 1, 1) := by decide +kernel
theorem dX3_take_2 : decode cX3_take 2 = .ok (.getfield 22, 3) := by decide +kernel
theorem dX3_take_5 : decode cX3_take 5 = .ok (.putfield 22, 3) := by decide +kernel
theorem dX3_take_8 : decode cX3_take 8 = .ok (.aload_n 0, 1) := by decide +kernel
theorem dX3_take_9 : decode cX3_take 9 = .ok (.aload_n 1, 1) := by decide +kernel
theorem dX3_take_10 : decode cX3_take 10 = .ok (.getfield 18, 3) := by decide +kernel
theorem dX3_take_13 : decode cX3_take 13 = .ok (.putfield 18, 3) := by decide +kernel
theorem dX3_take_16 : decode cX3_take 16 = .ok (.iconst 0, 1) := by decide +kernel
theorem dX3_take_17 : decode cX3_take 17 = .ok (.istore_n 2, 1) := by decide +kernel
theorem dX3_take_18 : decode cX3_take 18 = .ok (.iload_n 2, 1) := by decide +kernel
theorem dX3_take_19 : decode cX3_take 19 = .ok (.bipush 8, 2) := by decide +kernel
theorem dX3_take_21 : decode cX3_take 21 = .ok (.if_icmp .ge 24, 3) := by decide +kernel
theorem dX3_take_24 : decode cX3_take 24 = .ok (.aload_n 0, 1) := by decide +kernel
theorem dX3_take_25 : decode cX3_take 25 = .ok (.getfield 11, 3) := by decide +kernel
theorem dX3_take_28 : decode cX3_take 28 = .ok (.iload_n 2, 1) := by decide +kernel
theorem dX3_take_29 : decode cX3_take 29 = .ok (.aaload, 1) := by decide +kernel
theorem dX3_take_30 : decode cX3_take 30 = .ok (.aload_n 1, 1) := by decide +kernel
theorem dX3_take_31 : decode cX3_take 31 = .ok (.getfield 11, 3) := by decide +kernel
theorem dX3_take_34 : decode cX3_take 34 = .ok (.iload_n 2, 1) := by decide +kernel
theorem dX3_take_35 : decode cX3_take 35 = .ok (.aaload, 1) := by decide +kernel
theorem dX3_take_36 : decode cX3_take 36 = .ok (.invokevirtual 25, 3) := by decide +kernel
theorem dX3_take_39 : decode cX3_take 39 = .ok (.iinc 2 1, 3) := by decide +kernel
theorem dX3_take_42 : decode cX3_take 42 = .ok (.goto (-24), 3) := by decide +kernel
theorem dX3_take_45 : decode cX3_take 45 = .ok (.return_, 1) := by decide +kernel
theorem dX5_init_0 : decode cX5_init 0 = .ok (.aload_n 0, 1) := by decide +kernel
theorem dX5_init_1 : decode cX5_init 1 = .ok (.invokespecial 3, 3) := by decide +kernel
theorem dX5_init_4 : decode cX5_init 4 = .ok (.aload_n 0, 1) := by decide +kernel
theorem dX5_init_5 : decode cX5_init 5 = .ok (.getstatic 9, 3) := by decide +kernel
theorem dX5_init_8 : decode cX5_init 8 = .ok (.putfield 15, 3) := by decide +kernel
theorem dX5_init_11 : decode cX5_init 11 = .ok (.aload_n 0, 1) := by decide +kernel
theorem dX5_init_12 : decode cX5_init 12 = .ok (.iconst (-1), 1) := by decide +kernel
theorem dX5_init_13 : decode cX5_init 13 = .ok (.putfield 20, 3) := by decide +kernel
theorem dX5_init_16 : decode cX5_init 16 = .ok (.return_, 1) := by decide +kernel
theorem dX5_begin_0 : decode cX5_begin 0 = .ok (.aload_n 0, 1) := by decide +kernel
theorem dX5_begin_1 : decode cX5_begin 1 = .ok (.aload_n 1, 1) := by decide +kernel
theorem dX5_begin_2 : decode cX5_begin 2 = .ok (.putfield 15, 3) := by decide +kernel
theorem dX5_begin_5 : decode cX5_begin 5 = .ok (.aload_n 0, 1) := by decide +kernel
theorem dX5_begin_6 : decode cX5_begin 6 = .ok (.iload_n 2, 1) := by decide +kernel
theorem dX5_begin_7 : decode cX5_begin 7 = .ok (.putfield 24, 3) := by decide +kernel
theorem dX5_begin_10 : decode cX5_begin 10 = .ok (.aload_n 0, 1) := by decide +kernel
theorem dX5_begin_11 : decode cX5_begin 11 = .ok (.iload_n 3, 1) := by decide +kernel
theorem dX5_begin_12 : decode cX5_begin 12 = .ok (.putfield 27, 3) := by decide +kernel
theorem dX5_begin_15 : decode cX5_begin 15 = .ok (.aload_n 0, 1) := by decide +kernel
theorem dX5_begin_16 : decode cX5_begin 16 = .ok (.iload 4, 2) := by decide +kernel
theorem dX5_begin_18 : decode cX5_begin 18 = .ok (.putfield 30, 3) := by decide +kernel
theorem dX5_begin_21 : decode cX5_begin 21 = .ok (.aload_n 0, 1) := by decide +kernel
theorem dX5_begin_22 : decode cX5_begin 22 = .ok (.iconst (-1), 1) := by decide +kernel
theorem dX5_begin_23 : decode cX5_begin 23 = .ok (.putfield 20, 3) := by decide +kernel
theorem dX5_begin_26 : decode cX5_begin 26 = .ok (.aload_n 0, 1) := by decide +kernel
theorem dX5_begin_27 : decode cX5_begin 27 = .ok (.iconst 0, 1) := by decide +kernel
theorem dX5_begin_28 : decode cX5_begin 28 = .ok (.putfield 33, 3) := by decide +kernel
theorem dX5_begin_31 : decode cX5_begin 31 = .ok (.return_, 1) := by decide +kernel
theorem dX5_take_0 : decode cX5_take 0 = .ok (.aload_n 0, 1) := by decide +kernel
theorem dX5_take_1 : decode cX5_take 1 = .ok (.aload_n 1, 1) := by decide +kernel
theorem dX5_take_2 : decode cX5_take 2 = .ok (.getfield 15, 3) := by decide +kernel
theorem dX5_take_5 : decode cX5_take 5 = .ok (.putfield 15, 3) := by decide +kernel
theorem dX5_take_8 : decode cX5_take 8 = .ok (.aload_n 0, 1) := by decide +kernel
theorem dX5_take_9 : decode cX5_take 9 = .ok (.aload_n 1, 1) := by decide +kernel
theorem dX5_take_10 : decode cX5_take 10 = .ok (.getfield 24, 3) := by decide +kernel
theorem dX5_take_13 : decode cX5_take 13 = .ok (.putfield 24, 3) := by decide +kernel
theorem dX5_take_16 : decode cX5_take 16 = .ok (.aload_n 0, 1) := by decide +kernel
theorem dX5_take_17 : decode cX5_take 17 = .ok (.aload_n 1, 1) := by decide +kernel
theorem dX5_take_18 : decode cX5_take 18 = .ok (.getfield 27, 3) := by decide +kernel
theorem dX5_take_21 : decode cX5_take 21 = .ok (.putfield 27, 3) := by decide +kernel
theorem dX5_take_24 : decode cX5_take 24 = .ok (.aload_n 0, 1) := by decide +kernel
theorem dX5_take_25 : decode cX5_take 25 = .ok (.aload_n 1, 1) := by decide +kernel
theorem dX5_take_26 : decode cX5_take 26 = .ok (.getfield 30, 3) := by decide +kernel
theorem dX5_take_29 : decode cX5_take 29 = .ok (.putfield 30, 3) := by decide +kernel
theorem dX5_take_32 : decode cX5_take 32 = .ok (.aload_n 0, 1) := by decide +kernel
theorem dX5_take_33 : decode cX5_take 33 = .ok (.aload_n 1, 1) := by decide +kernel
theorem dX5_take_34 : decode cX5_take 34 = .ok (.getfield 20, 3) := by decide +kernel
theorem dX5_take_37 : decode cX5_take 37 = .ok (.putfield 20, 3) := by decide +kernel
theorem dX5_take_40 : decode cX5_take 40 = .ok (.aload_n 0, 1) := by decide +kernel
theorem dX5_take_41 : decode cX5_take 41 = .ok (.aload_n 1, 1) := by decide +kernel
theorem dX5_take_42 : decode cX5_take 42 = .ok (.getfield 33, 3) := by decide +kernel
theorem dX5_take_45 : decode cX5_take 45 = .ok (.putfield 33, 3) := by decide +kernel
theorem dX5_take_48 : decode cX5_take 48 = .ok (.return_, 1) := by decide +kernel
theorem dX5_weighs_0 : decode cX5_weighs 0 = .ok (.aload_n 0, 1) := by decide +kernel
theorem dX5_weighs_1 : decode cX5_weighs 1 = .ok (.getfield 24, 3) := by decide +kernel
theorem dX5_weighs_4 : decode cX5_weighs 4 = .ok (.aload_n 0, 1) := by decide +kernel
theorem dX5_weighs_5 : decode cX5_weighs 5 = .ok (.getfield 15, 3) := by decide +kernel
theorem dX5_weighs_8 : decode cX5_weighs 8 = .ok (.getfield 36, 3) := by decide +kernel
theorem dX5_weighs_11 : decode cX5_weighs 11 = .ok (.imul, 1) := by decide +kernel
theorem dX5_weighs_12 : decode cX5_weighs 12 = .ok (.ireturn, 1) := by decide +kernel
theorem dX5_rides_0 : decode cX5_rides 0 = .ok (.aload_n 0, 1) := by decide +kernel
theorem dX5_rides_1 : decode cX5_rides 1 = .ok (.getfield 20, 3) := by decide +kernel
theorem dX5_rides_4 : decode cX5_rides 4 = .ok (.iconst (-1), 1) := by decide +kernel
theorem dX5_rides_5 : decode cX5_rides 5 = .ok (.if_icmp .eq 7, 3) := by decide +kernel
theorem dX5_rides_8 : decode cX5_rides 8 = .ok (.iconst 1, 1) := by decide +kernel
theorem dX5_rides_9 : decode cX5_rides 9 = .ok (.goto 4, 3) := by decide +kernel
theorem dX5_rides_12 : decode cX5_rides 12 = .ok (.iconst 0, 1) := by decide +kernel
theorem dX5_rides_13 : decode cX5_rides 13 = .ok (.ireturn, 1) := by decide +kernel
theorem dX5_getOut_0 : decode cX5_getOut 0 = .ok (.aload_n 0, 1) := by decide +kernel
theorem dX5_getOut_1 : decode cX5_getOut 1 = .ok (.aload_n 1, 1) := by decide +kernel
theorem dX5_getOut_2 : decode cX5_getOut 2 = .ok (.aload_n 1, 1) := by decide +kernel
theorem dX5_getOut_3 : decode cX5_getOut 3 = .ok (.aload_n 0, 1) := by decide +kernel
theorem dX5_getOut_4 : decode cX5_getOut 4 = .ok (.getfield 20, 3) := by decide +kernel
theorem dX5_getOut_7 : decode cX5_getOut 7 = .ok (.iload_n 2, 1) := by decide +kernel
theorem dX5_getOut_8 : decode cX5_getOut 8 = .ok (.invokevirtual 39, 3) := by decide +kernel
theorem dX5_getOut_11 : decode cX5_getOut 11 = .ok (.invokevirtual 45, 3) := by decide +kernel
theorem dX5_getOut_14 : decode cX5_getOut 14 = .ok (.putfield 27, 3) := by decide +kernel
theorem dX5_getOut_17 : decode cX5_getOut 17 = .ok (.aload_n 0, 1) := by decide +kernel
theorem dX5_getOut_18 : decode cX5_getOut 18 = .ok (.aload_n 1, 1) := by decide +kernel
theorem dX5_getOut_19 : decode cX5_getOut 19 = .ok (.getfield 49, 3) := by decide +kernel
theorem dX5_getOut_22 : decode cX5_getOut 22 = .ok (.aload_n 0, 1) := by decide +kernel
theorem dX5_getOut_23 : decode cX5_getOut 23 = .ok (.getfield 20, 3) := by decide +kernel
theorem dX5_getOut_26 : decode cX5_getOut 26 = .ok (.iaload, 1) := by decide +kernel
theorem dX5_getOut_27 : decode cX5_getOut 27 = .ok (.putfield 30, 3) := by decide +kernel
theorem dX5_getOut_30 : decode cX5_getOut 30 = .ok (.aload_n 0, 1) := by decide +kernel
theorem dX5_getOut_31 : decode cX5_getOut 31 = .ok (.iconst (-1), 1) := by decide +kernel
theorem dX5_getOut_32 : decode cX5_getOut 32 = .ok (.putfield 20, 3) := by decide +kernel
theorem dX5_getOut_35 : decode cX5_getOut 35 = .ok (.return_, 1) := by decide +kernel
theorem dX6_init_0 : decode cX6_init 0 = .ok (.aload_n 0, 1) := by decide +kernel
theorem dX6_init_1 : decode cX6_init 1 = .ok (.invokespecial 3, 3) := by decide +kernel
theorem dX6_init_4 : decode cX6_init 4 = .ok (.aload_n 0, 1) := by decide +kernel
theorem dX6_init_5 : decode cX6_init 5 = .ok (.bipush 6, 2) := by decide +kernel
theorem dX6_init_7 : decode cX6_init 7 = .ok (.anewarray 9, 3) := by decide +kernel
theorem dX6_init_10 : decode cX6_init 10 = .ok (.putfield 11, 3) := by decide +kernel
theorem dX6_init_13 : decode cX6_init 13 = .ok (.aload_n 0, 1) := by decide +kernel
theorem dX6_init_14 : decode cX6_init 14 = .ok (.iconst 1, 1) := by decide +kernel
theorem dX6_init_15 : decode cX6_init 15 = .ok (.putfield 17, 3) := by decide +kernel
theorem dX6_init_18 : decode cX6_init 18 = .ok (.iconst 0, 1) := by decide +kernel
theorem dX6_init_19 : decode cX6_init 19 = .ok (.istore_n 1, 1) := by decide +kernel
theorem dX6_init_20 : decode cX6_init 20 = .ok (.iload_n 1, 1) := by decide +kernel
theorem dX6_init_21 : decode cX6_init 21 = .ok (.bipush 6, 2) := by decide +kernel
theorem dX6_init_23 : decode cX6_init 23 = .ok (.if_icmp .ge 22, 3) := by decide +kernel
theorem dX6_init_26 : decode cX6_init 26 = .ok (.aload_n 0, 1) := by decide +kernel
theorem dX6_init_27 : decode cX6_init 27 = .ok (.getfield 11, 3) := by decide +kernel
theorem dX6_init_30 : decode cX6_init 30 = .ok (.iload_n 1, 1) := by decide +kernel
theorem dX6_init_31 : decode cX6_init 31 = .ok (.new 9, 3) := by decide +kernel
theorem dX6_init_34 : decode cX6_init 34 = .ok (.dup, 1) := by decide +kernel
theorem dX6_init_35 : decode cX6_init 35 = .ok (.invokespecial 21, 3) := by decide +kernel
theorem dX6_init_38 : decode cX6_init 38 = .ok (.aastore, 1) := by decide +kernel
theorem dX6_init_39 : decode cX6_init 39 = .ok (.iinc 1 1, 3) := by decide +kernel
theorem dX6_init_42 : decode cX6_init 42 = .ok (.goto (-22), 3) := by decide +kernel
theorem dX6_init_45 : decode cX6_init 45 = .ok (.return_, 1) := by decide +kernel
theorem dX6_take_0 : decode cX6_take 0 = .ok (.aload_n 0, 1) := by decide +kernel
theorem dX6_take_1 : decode cX6_take 1 = .ok (.aload_n 1, 1) := by decide +kernel
theorem dX6_take_2 : decode cX6_take 2 = .ok (.invokevirtual 22, 3) := by decide +kernel
theorem dX6_take_5 : decode cX6_take 5 = .ok (.aload_n 0, 1) := by decide +kernel
theorem dX6_take_6 : decode cX6_take 6 = .ok (.aload_n 1, 1) := by decide +kernel
theorem dX6_take_7 : decode cX6_take 7 = .ok (.getfield 26, 3) := by decide +kernel
theorem dX6_take_10 : decode cX6_take 10 = .ok (.putfield 26, 3) := by decide +kernel
theorem dX6_take_13 : decode cX6_take 13 = .ok (.aload_n 0, 1) := by decide +kernel
theorem dX6_take_14 : decode cX6_take 14 = .ok (.aload_n 1, 1) := by decide +kernel
theorem dX6_take_15 : decode cX6_take 15 = .ok (.getfield 17, 3) := by decide +kernel
theorem dX6_take_18 : decode cX6_take 18 = .ok (.putfield 17, 3) := by decide +kernel
theorem dX6_take_21 : decode cX6_take 21 = .ok (.return_, 1) := by decide +kernel
theorem dX6_takePeople_0 : decode cX6_takePeople 0 = .ok (.aload_n 0, 1) := by decide +kernel
theorem dX6_takePeople_1 : decode cX6_takePeople 1 = .ok (.aload_n 1, 1) := by decide +kernel
theorem dX6_takePeople_2 : decode cX6_takePeople 2 = .ok (.getfield 29, 3) := by decide +kernel
theorem dX6_takePeople_5 : decode cX6_takePeople 5 = .ok (.putfield 29, 3) := by decide +kernel
theorem dX6_takePeople_8 : decode cX6_takePeople 8 = .ok (.iconst 0, 1) := by decide +kernel
theorem dX6_takePeople_9 : decode cX6_takePeople 9 = .ok (.istore_n 2, 1) := by decide +kernel
theorem dX6_takePeople_10 : decode cX6_takePeople 10 = .ok (.iload_n 2, 1) := by decide +kernel
theorem dX6_takePeople_11 : decode cX6_takePeople 11 = .ok (.aload_n 0, 1) := by decide +kernel
theorem dX6_takePeople_12 : decode cX6_takePeople 12 = .ok (.getfield 29, 3) := by decide +kernel
theorem dX6_takePeople_15 : decode cX6_takePeople 15 = .ok (.if_icmp .ge 24, 3) := by decide +kernel
theorem dX6_takePeople_18 : decode cX6_takePeople 18 = .ok (.aload_n 0, 1) := by decide +kernel
theorem dX6_takePeople_19 : decode cX6_takePeople 19 = .ok (.getfield 11, 3) := by decide +kernel
theorem dX6_takePeople_22 : decode cX6_takePeople 22 = .ok (.iload_n 2, 1) := by decide +kernel
theorem dX6_takePeople_23 : decode cX6_takePeople 23 = .ok (.aaload, 1) := by decide +kernel
theorem dX6_takePeople_24 : decode cX6_takePeople 24 = .ok (.aload_n 1, 1) := by decide +kernel
theorem dX6_takePeople_25 : decode cX6_takePeople 25 = .ok (.getfield 11, 3) := by decide +kernel
theorem dX6_takePeople_28 : decode cX6_takePeople 28 = .ok (.iload_n 2, 1) := by decide +kernel
theorem dX6_takePeople_29 : decode cX6_takePeople 29 = .ok (.aaload, 1) := by decide +kernel
theorem dX6_takePeople_30 : decode cX6_takePeople 30 = .ok (.invokevirtual 32, 3) := by decide +kernel
theorem dX6_takePeople_33 : decode cX6_takePeople 33 = .ok (.iinc 2 1, 3) := by decide +kernel
theorem dX6_takePeople_36 : decode cX6_takePeople 36 = .ok (.goto (-26), 3) := by decide +kernel
theorem dX6_takePeople_39 : decode cX6_takePeople 39 = .ok (.return_, 1) := by decide +kernel
theorem dX6_add_0 : decode cX6_add 0 = .ok (.aload_n 0, 1) := by decide +kernel
theorem dX6_add_1 : decode cX6_add 1 = .ok (.getfield 29, 3) := by decide +kernel
theorem dX6_add_4 : decode cX6_add 4 = .ok (.bipush 6, 2) := by decide +kernel
theorem dX6_add_6 : decode cX6_add 6 = .ok (.if_icmp .ge 30, 3) := by decide +kernel
theorem dX6_add_9 : decode cX6_add 9 = .ok (.aload_n 0, 1) := by decide +kernel
theorem dX6_add_10 : decode cX6_add 10 = .ok (.getfield 11, 3) := by decide +kernel
theorem dX6_add_13 : decode cX6_add 13 = .ok (.aload_n 0, 1) := by decide +kernel
theorem dX6_add_14 : decode cX6_add 14 = .ok (.getfield 29, 3) := by decide +kernel
theorem dX6_add_17 : decode cX6_add 17 = .ok (.aaload, 1) := by decide +kernel
theorem dX6_add_18 : decode cX6_add 18 = .ok (.aload_n 1, 1) := by decide +kernel
theorem dX6_add_19 : decode cX6_add 19 = .ok (.iload_n 2, 1) := by decide +kernel
theorem dX6_add_20 : decode cX6_add 20 = .ok (.iload_n 3, 1) := by decide +kernel
theorem dX6_add_21 : decode cX6_add 21 = .ok (.iload 4, 2) := by decide +kernel
theorem dX6_add_23 : decode cX6_add 23 = .ok (.invokevirtual 36, 3) := by decide +kernel
theorem dX6_add_26 : decode cX6_add 26 = .ok (.aload_n 0, 1) := by decide +kernel
theorem dX6_add_27 : decode cX6_add 27 = .ok (.dup, 1) := by decide +kernel
theorem dX6_add_28 : decode cX6_add 28 = .ok (.getfield 29, 3) := by decide +kernel
theorem dX6_add_31 : decode cX6_add 31 = .ok (.iconst 1, 1) := by decide +kernel
theorem dX6_add_32 : decode cX6_add 32 = .ok (.iadd, 1) := by decide +kernel
theorem dX6_add_33 : decode cX6_add 33 = .ok (.putfield 29, 3) := by decide +kernel
theorem dX6_add_36 : decode cX6_add 36 = .ok (.return_, 1) := by decide +kernel
theorem dX6_goOn_0 : decode cX6_goOn 0 = .ok (.aload_n 0, 1) := by decide +kernel
theorem dX6_goOn_1 : decode cX6_goOn 1 = .ok (.dup, 1) := by decide +kernel
theorem dX6_goOn_2 : decode cX6_goOn 2 = .ok (.getfield 26, 3) := by decide +kernel
theorem dX6_goOn_5 : decode cX6_goOn 5 = .ok (.iconst 1, 1) := by decide +kernel
theorem dX6_goOn_6 : decode cX6_goOn 6 = .ok (.iadd, 1) := by decide +kernel
theorem dX6_goOn_7 : decode cX6_goOn 7 = .ok (.putfield 26, 3) := by decide +kernel
theorem dX6_goOn_10 : decode cX6_goOn 10 = .ok (.aload_n 0, 1) := by decide +kernel
theorem dX6_goOn_11 : decode cX6_goOn 11 = .ok (.getfield 26, 3) := by decide +kernel
theorem dX6_goOn_14 : decode cX6_goOn 14 = .ok (.aload_n 1, 1) := by decide +kernel
theorem dX6_goOn_15 : decode cX6_goOn 15 = .ok (.getfield 40, 3) := by decide +kernel
theorem dX6_goOn_18 : decode cX6_goOn 18 = .ok (.invokestatic 45, 3) := by decide +kernel
theorem dX6_goOn_21 : decode cX6_goOn 21 = .ok (.ifCond .ne 7, 3) := by decide +kernel
theorem dX6_goOn_24 : decode cX6_goOn 24 = .ok (.iconst 1, 1) := by decide +kernel
theorem dX6_goOn_25 : decode cX6_goOn 25 = .ok (.goto 4, 3) := by decide +kernel
theorem dX6_goOn_28 : decode cX6_goOn 28 = .ok (.iconst 0, 1) := by decide +kernel
theorem dX6_goOn_29 : decode cX6_goOn 29 = .ok (.istore_n 2, 1) := by decide +kernel
theorem dX6_goOn_30 : decode cX6_goOn 30 = .ok (.iconst 0, 1) := by decide +kernel
theorem dX6_goOn_31 : decode cX6_goOn 31 = .ok (.istore_n 3, 1) := by decide +kernel
theorem dX6_goOn_32 : decode cX6_goOn 32 = .ok (.iload_n 3, 1) := by decide +kernel
theorem dX6_goOn_33 : decode cX6_goOn 33 = .ok (.aload_n 0, 1) := by decide +kernel
theorem dX6_goOn_34 : decode cX6_goOn 34 = .ok (.getfield 29, 3) := by decide +kernel
theorem dX6_goOn_37 : decode cX6_goOn 37 = .ok (.if_icmp .ge 68, 3) := by decide +kernel
theorem dX6_goOn_40 : decode cX6_goOn 40 = .ok (.aload_n 0, 1) := by decide +kernel
theorem dX6_goOn_41 : decode cX6_goOn 41 = .ok (.getfield 11, 3) := by decide +kernel
theorem dX6_goOn_44 : decode cX6_goOn 44 = .ok (.iload_n 3, 1) := by decide +kernel
theorem dX6_goOn_45 : decode cX6_goOn 45 = .ok (.aaload, 1) := by decide +kernel
theorem dX6_goOn_46 : decode cX6_goOn 46 = .ok (.astore 4, 2) := by decide +kernel
theorem dX6_goOn_48 : decode cX6_goOn 48 = .ok (.aload_n 0, 1) := by decide +kernel
theorem dX6_goOn_49 : decode cX6_goOn 49 = .ok (.aload 4, 2) := by decide +kernel
theorem dX6_goOn_51 : decode cX6_goOn 51 = .ok (.aload_n 1, 1) := by decide +kernel
theorem dX6_goOn_52 : decode cX6_goOn 52 = .ok (.invokevirtual 49, 3) := by decide +kernel
theorem dX6_goOn_55 : decode cX6_goOn 55 = .ok (.ifCond .eq 13, 3) := by decide +kernel
theorem dX6_goOn_58 : decode cX6_goOn 58 = .ok (.aload 4, 2) := by decide +kernel
theorem dX6_goOn_60 : decode cX6_goOn 60 = .ok (.aload_n 1, 1) := by decide +kernel
theorem dX6_goOn_61 : decode cX6_goOn 61 = .ok (.aload_n 0, 1) := by decide +kernel
theorem dX6_goOn_62 : decode cX6_goOn 62 = .ok (.getfield 26, 3) := by decide +kernel
theorem dX6_goOn_65 : decode cX6_goOn 65 = .ok (.invokevirtual 53, 3) := by decide +kernel
theorem dX6_goOn_68 : decode cX6_goOn 68 = .ok (.iload_n 2, 1) := by decide +kernel
theorem dX6_goOn_69 : decode cX6_goOn 69 = .ok (.ifCond .eq 30, 3) := by decide +kernel
theorem dX6_goOn_72 : decode cX6_goOn 72 = .ok (.aload 4, 2) := by decide +kernel
theorem dX6_goOn_74 : decode cX6_goOn 74 = .ok (.invokevirtual 57, 3) := by decide +kernel
theorem dX6_goOn_77 : decode cX6_goOn 77 = .ok (.ifCond .ne 22, 3) := by decide +kernel
theorem dX6_goOn_80 : decode cX6_goOn 80 = .ok (.aload 4, 2) := by decide +kernel
theorem dX6_goOn_82 : decode cX6_goOn 82 = .ok (.getfield 61, 3) := by decide +kernel
theorem dX6_goOn_85 : decode cX6_goOn 85 = .ok (.ifCond .ne 14, 3) := by decide +kernel
theorem dX6_goOn_88 : decode cX6_goOn 88 = .ok (.aload 4, 2) := by decide +kernel
theorem dX6_goOn_90 : decode cX6_goOn 90 = .ok (.dup, 1) := by decide +kernel
theorem dX6_goOn_91 : decode cX6_goOn 91 = .ok (.getfield 64, 3) := by decide +kernel
theorem dX6_goOn_94 : decode cX6_goOn 94 = .ok (.iconst 1, 1) := by decide +kernel
theorem dX6_goOn_95 : decode cX6_goOn 95 = .ok (.iadd, 1) := by decide +kernel
theorem dX6_goOn_96 : decode cX6_goOn 96 = .ok (.putfield 64, 3) := by decide +kernel
theorem dX6_goOn_99 : decode cX6_goOn 99 = .ok (.iinc 3 1, 3) := by decide +kernel
theorem dX6_goOn_102 : decode cX6_goOn 102 = .ok (.goto (-70), 3) := by decide +kernel
theorem dX6_goOn_105 : decode cX6_goOn 105 = .ok (.return_, 1) := by decide +kernel
theorem dX6_isTurnedOut_0 : decode cX6_isTurnedOut 0 = .ok (.aload_n 1, 1) := by decide +kernel
theorem dX6_isTurnedOut_1 : decode cX6_isTurnedOut 1 = .ok (.invokevirtual 57, 3) := by decide +kernel
theorem dX6_isTurnedOut_4 : decode cX6_isTurnedOut 4 = .ok (.ifCond .ne 5, 3) := by decide +kernel
theorem dX6_isTurnedOut_7 : decode cX6_isTurnedOut 7 = .ok (.iconst 0, 1) := by decide +kernel
theorem dX6_isTurnedOut_8 : decode cX6_isTurnedOut 8 = .ok (.ireturn, 1) := by decide +kernel
theorem dX6_isTurnedOut_9 : decode cX6_isTurnedOut 9 = .ok (.aload_n 2, 1) := by decide +kernel
theorem dX6_isTurnedOut_10 : decode cX6_isTurnedOut 10 = .ok (.aload_n 1, 1) := by decide +kernel
theorem dX6_isTurnedOut_11 : decode cX6_isTurnedOut 11 = .ok (.getfield 67, 3) := by decide +kernel
theorem dX6_isTurnedOut_14 : decode cX6_isTurnedOut 14 = .ok (.aload_n 0, 1) := by decide +kernel
theorem dX6_isTurnedOut_15 : decode cX6_isTurnedOut 15 = .ok (.getfield 26, 3) := by decide +kernel
theorem dX6_isTurnedOut_18 : decode cX6_isTurnedOut 18 = .ok (.invokevirtual 70, 3) := by decide +kernel
theorem dX6_isTurnedOut_21 : decode cX6_isTurnedOut 21 = .ok (.istore_n 3, 1) := by decide +kernel
theorem dX6_isTurnedOut_22 : decode cX6_isTurnedOut 22 = .ok (.iload_n 3, 1) := by decide +kernel
theorem dX6_isTurnedOut_23 : decode cX6_isTurnedOut 23 = .ok (.ifCond .ne 13, 3) := by decide +kernel
theorem dX6_isTurnedOut_26 : decode cX6_isTurnedOut 26 = .ok (.aload_n 1, 1) := by decide +kernel
theorem dX6_isTurnedOut_27 : decode cX6_isTurnedOut 27 = .ok (.getfield 73, 3) := by decide +kernel
theorem dX6_isTurnedOut_30 : decode cX6_isTurnedOut 30 = .ok (.getfield 77, 3) := by decide +kernel
theorem dX6_isTurnedOut_33 : decode cX6_isTurnedOut 33 = .ok (.ifCond .ne 21, 3) := by decide +kernel
theorem dX6_isTurnedOut_36 : decode cX6_isTurnedOut 36 = .ok (.iload_n 3, 1) := by decide +kernel
theorem dX6_isTurnedOut_37 : decode cX6_isTurnedOut 37 = .ok (.aload_n 2, 1) := by decide +kernel
theorem dX6_isTurnedOut_38 : decode cX6_isTurnedOut 38 = .ok (.getfield 83, 3) := by decide +kernel
theorem dX6_isTurnedOut_41 : decode cX6_isTurnedOut 41 = .ok (.if_icmp .ne 17, 3) := by decide +kernel
theorem dX6_isTurnedOut_44 : decode cX6_isTurnedOut 44 = .ok (.aload_n 1, 1) := by decide +kernel
theorem dX6_isTurnedOut_45 : decode cX6_isTurnedOut 45 = .ok (.getfield 73, 3) := by decide +kernel
theorem dX6_isTurnedOut_48 : decode cX6_isTurnedOut 48 = .ok (.getfield 86, 3) := by decide +kernel
theorem dX6_isTurnedOut_51 : decode cX6_isTurnedOut 51 = .ok (.ifCond .eq 7, 3) := by decide +kernel
theorem dX6_isTurnedOut_54 : decode cX6_isTurnedOut 54 = .ok (.iconst 1, 1) := by decide +kernel
theorem dX6_isTurnedOut_55 : decode cX6_isTurnedOut 55 = .ok (.goto 4, 3) := by decide +kernel
theorem dX6_isTurnedOut_58 : decode cX6_isTurnedOut 58 = .ok (.iconst 0, 1) := by decide +kernel
theorem dX6_isTurnedOut_59 : decode cX6_isTurnedOut 59 = .ok (.ireturn, 1) := by decide +kernel
theorem dX6_load_0 : decode cX6_load 0 = .ok (.iconst 0, 1) := by decide +kernel
theorem dX6_load_1 : decode cX6_load 1 = .ok (.istore_n 2, 1) := by decide +kernel
theorem dX6_load_2 : decode cX6_load 2 = .ok (.iconst 0, 1) := by decide +kernel
theorem dX6_load_3 : decode cX6_load 3 = .ok (.istore_n 3, 1) := by decide +kernel
theorem dX6_load_4 : decode cX6_load 4 = .ok (.iload_n 3, 1) := by decide +kernel
theorem dX6_load_5 : decode cX6_load 5 = .ok (.aload_n 0, 1) := by decide +kernel
theorem dX6_load_6 : decode cX6_load 6 = .ok (.getfield 29, 3) := by decide +kernel
theorem dX6_load_9 : decode cX6_load 9 = .ok (.if_icmp .ge 34, 3) := by decide +kernel
theorem dX6_load_12 : decode cX6_load 12 = .ok (.aload_n 0, 1) := by decide +kernel
theorem dX6_load_13 : decode cX6_load 13 = .ok (.getfield 11, 3) := by decide +kernel
theorem dX6_load_16 : decode cX6_load 16 = .ok (.iload_n 3, 1) := by decide +kernel
theorem dX6_load_17 : decode cX6_load 17 = .ok (.aaload, 1) := by decide +kernel
theorem dX6_load_18 : decode cX6_load 18 = .ok (.getfield 67, 3) := by decide +kernel
theorem dX6_load_21 : decode cX6_load 21 = .ok (.iload_n 1, 1) := by decide +kernel
theorem dX6_load_22 : decode cX6_load 22 = .ok (.if_icmp .ne 15, 3) := by decide +kernel
theorem dX6_load_25 : decode cX6_load 25 = .ok (.iload_n 2, 1) := by decide +kernel
theorem dX6_load_26 : decode cX6_load 26 = .ok (.aload_n 0, 1) := by decide +kernel
theorem dX6_load_27 : decode cX6_load 27 = .ok (.getfield 11, 3) := by decide +kernel
theorem dX6_load_30 : decode cX6_load 30 = .ok (.iload_n 3, 1) := by decide +kernel
theorem dX6_load_31 : decode cX6_load 31 = .ok (.aaload, 1) := by decide +kernel
theorem dX6_load_32 : decode cX6_load 32 = .ok (.invokevirtual 89, 3) := by decide +kernel
theorem dX6_load_35 : decode cX6_load 35 = .ok (.iadd, 1) := by decide +kernel
theorem dX6_load_36 : decode cX6_load 36 = .ok (.istore_n 2, 1) := by decide +kernel
theorem dX6_load_37 : decode cX6_load 37 = .ok (.iinc 3 1, 3) := by decide +kernel
theorem dX6_load_40 : decode cX6_load 40 = .ok (.goto (-36), 3) := by decide +kernel
theorem dX6_load_43 : decode cX6_load 43 = .ok (.iload_n 2, 1) := by decide +kernel
theorem dX6_load_44 : decode cX6_load 44 = .ok (.ireturn, 1) := by decide +kernel
theorem dX6_riders_0 : decode cX6_riders 0 = .ok (.iconst 0, 1) := by decide +kernel
theorem dX6_riders_1 : decode cX6_riders 1 = .ok (.istore_n 2, 1) := by decide +kernel
theorem dX6_riders_2 : decode cX6_riders 2 = .ok (.iconst 0, 1) := by decide +kernel
theorem dX6_riders_3 : decode cX6_riders 3 = .ok (.istore_n 3, 1) := by decide +kernel
theorem dX6_riders_4 : decode cX6_riders 4 = .ok (.iload_n 3, 1) := by decide +kernel
theorem dX6_riders_5 : decode cX6_riders 5 = .ok (.aload_n 0, 1) := by decide +kernel
theorem dX6_riders_6 : decode cX6_riders 6 = .ok (.getfield 29, 3) := by decide +kernel
theorem dX6_riders_9 : decode cX6_riders 9 = .ok (.if_icmp .ge 28, 3) := by decide +kernel
theorem dX6_riders_12 : decode cX6_riders 12 = .ok (.aload_n 0, 1) := by decide +kernel
theorem dX6_riders_13 : decode cX6_riders 13 = .ok (.getfield 11, 3) := by decide +kernel
theorem dX6_riders_16 : decode cX6_riders 16 = .ok (.iload_n 3, 1) := by decide +kernel
theorem dX6_riders_17 : decode cX6_riders 17 = .ok (.aaload, 1) := by decide +kernel
theorem dX6_riders_18 : decode cX6_riders 18 = .ok (.getfield 67, 3) := by decide +kernel
theorem dX6_riders_21 : decode cX6_riders 21 = .ok (.iload_n 1, 1) := by decide +kernel
theorem dX6_riders_22 : decode cX6_riders 22 = .ok (.if_icmp .ne 9, 3) := by decide +kernel
theorem dX6_riders_25 : decode cX6_riders 25 = .ok (.iload_n 2, 1) := by decide +kernel
theorem dX6_riders_26 : decode cX6_riders 26 = .ok (.iconst 1, 1) := by decide +kernel
theorem dX6_riders_27 : decode cX6_riders 27 = .ok (.iload_n 3, 1) := by decide +kernel
theorem dX6_riders_28 : decode cX6_riders 28 = .ok (.ishl, 1) := by decide +kernel
theorem dX6_riders_29 : decode cX6_riders 29 = .ok (.ior, 1) := by decide +kernel
theorem dX6_riders_30 : decode cX6_riders 30 = .ok (.istore_n 2, 1) := by decide +kernel
theorem dX6_riders_31 : decode cX6_riders 31 = .ok (.iinc 3 1, 3) := by decide +kernel
theorem dX6_riders_34 : decode cX6_riders 34 = .ok (.goto (-30), 3) := by decide +kernel
theorem dX6_riders_37 : decode cX6_riders 37 = .ok (.iload_n 2, 1) := by decide +kernel
theorem dX6_riders_38 : decode cX6_riders 38 = .ok (.ireturn, 1) := by decide +kernel
theorem dX6_allRiders_0 : decode cX6_allRiders 0 = .ok (.iconst 0, 1) := by decide +kernel
theorem dX6_allRiders_1 : decode cX6_allRiders 1 = .ok (.istore_n 1, 1) := by decide +kernel
theorem dX6_allRiders_2 : decode cX6_allRiders 2 = .ok (.iconst 0, 1) := by decide +kernel
theorem dX6_allRiders_3 : decode cX6_allRiders 3 = .ok (.istore_n 2, 1) := by decide +kernel
theorem dX6_allRiders_4 : decode cX6_allRiders 4 = .ok (.iload_n 2, 1) := by decide +kernel
theorem dX6_allRiders_5 : decode cX6_allRiders 5 = .ok (.aload_n 0, 1) := by decide +kernel
theorem dX6_allRiders_6 : decode cX6_allRiders 6 = .ok (.getfield 29, 3) := by decide +kernel
theorem dX6_allRiders_9 : decode cX6_allRiders 9 = .ok (.if_icmp .ge 27, 3) := by decide +kernel
theorem dX6_allRiders_12 : decode cX6_allRiders 12 = .ok (.aload_n 0, 1) := by decide +kernel
theorem dX6_allRiders_13 : decode cX6_allRiders 13 = .ok (.getfield 11, 3) := by decide +kernel
theorem dX6_allRiders_16 : decode cX6_allRiders 16 = .ok (.iload_n 2, 1) := by decide +kernel
theorem dX6_allRiders_17 : decode cX6_allRiders 17 = .ok (.aaload, 1) := by decide +kernel
theorem dX6_allRiders_18 : decode cX6_allRiders 18 = .ok (.invokevirtual 57, 3) := by decide +kernel
theorem dX6_allRiders_21 : decode cX6_allRiders 21 = .ok (.ifCond .eq 9, 3) := by decide +kernel
theorem dX6_allRiders_24 : decode cX6_allRiders 24 = .ok (.iload_n 1, 1) := by decide +kernel
theorem dX6_allRiders_25 : decode cX6_allRiders 25 = .ok (.iconst 1, 1) := by decide +kernel
theorem dX6_allRiders_26 : decode cX6_allRiders 26 = .ok (.iload_n 2, 1) := by decide +kernel
theorem dX6_allRiders_27 : decode cX6_allRiders 27 = .ok (.ishl, 1) := by decide +kernel
theorem dX6_allRiders_28 : decode cX6_allRiders 28 = .ok (.ior, 1) := by decide +kernel
theorem dX6_allRiders_29 : decode cX6_allRiders 29 = .ok (.istore_n 1, 1) := by decide +kernel
theorem dX6_allRiders_30 : decode cX6_allRiders 30 = .ok (.iinc 2 1, 3) := by decide +kernel
theorem dX6_allRiders_33 : decode cX6_allRiders 33 = .ok (.goto (-29), 3) := by decide +kernel
theorem dX6_allRiders_36 : decode cX6_allRiders 36 = .ok (.iload_n 1, 1) := by decide +kernel
theorem dX6_allRiders_37 : decode cX6_allRiders 37 = .ok (.ireturn, 1) := by decide +kernel
theorem dX6_allLunches_0 : decode cX6_allLunches 0 = .ok (.iconst 0, 1) := by decide +kernel
theorem dX6_allLunches_1 : decode cX6_allLunches 1 = .ok (.istore_n 1, 1) := by decide +kernel
theorem dX6_allLunches_2 : decode cX6_allLunches 2 = .ok (.iconst 0, 1) := by decide +kernel
theorem dX6_allLunches_3 : decode cX6_allLunches 3 = .ok (.istore_n 2, 1) := by decide +kernel
theorem dX6_allLunches_4 : decode cX6_allLunches 4 = .ok (.iload_n 2, 1) := by decide +kernel
theorem dX6_allLunches_5 : decode cX6_allLunches 5 = .ok (.aload_n 0, 1) := by decide +kernel
theorem dX6_allLunches_6 : decode cX6_allLunches 6 = .ok (.getfield 29, 3) := by decide +kernel
theorem dX6_allLunches_9 : decode cX6_allLunches 9 = .ok (.if_icmp .ge 21, 3) := by decide +kernel
theorem dX6_allLunches_12 : decode cX6_allLunches 12 = .ok (.iload_n 1, 1) := by decide +kernel
theorem dX6_allLunches_13 : decode cX6_allLunches 13 = .ok (.aload_n 0, 1) := by decide +kernel
theorem dX6_allLunches_14 : decode cX6_allLunches 14 = .ok (.getfield 11, 3) := by decide +kernel
theorem dX6_allLunches_17 : decode cX6_allLunches 17 = .ok (.iload_n 2, 1) := by decide +kernel
theorem dX6_allLunches_18 : decode cX6_allLunches 18 = .ok (.aaload, 1) := by decide +kernel
theorem dX6_allLunches_19 : decode cX6_allLunches 19 = .ok (.getfield 64, 3) := by decide +kernel
theorem dX6_allLunches_22 : decode cX6_allLunches 22 = .ok (.iadd, 1) := by decide +kernel
theorem dX6_allLunches_23 : decode cX6_allLunches 23 = .ok (.istore_n 1, 1) := by decide +kernel
theorem dX6_allLunches_24 : decode cX6_allLunches 24 = .ok (.iinc 2 1, 3) := by decide +kernel
theorem dX6_allLunches_27 : decode cX6_allLunches 27 = .ok (.goto (-23), 3) := by decide +kernel
theorem dX6_allLunches_30 : decode cX6_allLunches 30 = .ok (.iload_n 1, 1) := by decide +kernel
theorem dX6_allLunches_31 : decode cX6_allLunches 31 = .ok (.ireturn, 1) := by decide +kernel
theorem dX6_fewestLunches_0 : decode cX6_fewestLunches 0 = .ok (.aload_n 0, 1) := by decide +kernel
theorem dX6_fewestLunches_1 : decode cX6_fewestLunches 1 = .ok (.getfield 29, 3) := by decide +kernel
theorem dX6_fewestLunches_4 : decode cX6_fewestLunches 4 = .ok (.ifCond .ne 6, 3) := by decide +kernel
theorem dX6_fewestLunches_7 : decode cX6_fewestLunches 7 = .ok (.bipush (-4), 2) := by decide +kernel
theorem dX6_fewestLunches_9 : decode cX6_fewestLunches 9 = .ok (.ireturn, 1) := by decide +kernel
theorem dX6_fewestLunches_10 : decode cX6_fewestLunches 10 = .ok (.aload_n 0, 1) := by decide +kernel
theorem dX6_fewestLunches_11 : decode cX6_fewestLunches 11 = .ok (.getfield 11, 3) := by decide +kernel
theorem dX6_fewestLunches_14 : decode cX6_fewestLunches 14 = .ok (.iconst 0, 1) := by decide +kernel
theorem dX6_fewestLunches_15 : decode cX6_fewestLunches 15 = .ok (.aaload, 1) := by decide +kernel
theorem dX6_fewestLunches_16 : decode cX6_fewestLunches 16 = .ok (.getfield 64, 3) := by decide +kernel
theorem dX6_fewestLunches_19 : decode cX6_fewestLunches 19 = .ok (.istore_n 1, 1) := by decide +kernel
theorem dX6_fewestLunches_20 : decode cX6_fewestLunches 20 = .ok (.iconst 1, 1) := by decide +kernel
theorem dX6_fewestLunches_21 : decode cX6_fewestLunches 21 = .ok (.istore_n 2, 1) := by decide +kernel
theorem dX6_fewestLunches_22 : decode cX6_fewestLunches 22 = .ok (.iload_n 2, 1) := by decide +kernel
theorem dX6_fewestLunches_23 : decode cX6_fewestLunches 23 = .ok (.aload_n 0, 1) := by decide +kernel
theorem dX6_fewestLunches_24 : decode cX6_fewestLunches 24 = .ok (.getfield 29, 3) := by decide +kernel
theorem dX6_fewestLunches_27 : decode cX6_fewestLunches 27 = .ok (.if_icmp .ge 23, 3) := by decide +kernel
theorem dX6_fewestLunches_30 : decode cX6_fewestLunches 30 = .ok (.iload_n 1, 1) := by decide +kernel
theorem dX6_fewestLunches_31 : decode cX6_fewestLunches 31 = .ok (.aload_n 0, 1) := by decide +kernel
theorem dX6_fewestLunches_32 : decode cX6_fewestLunches 32 = .ok (.getfield 11, 3) := by decide +kernel
theorem dX6_fewestLunches_35 : decode cX6_fewestLunches 35 = .ok (.iload_n 2, 1) := by decide +kernel
theorem dX6_fewestLunches_36 : decode cX6_fewestLunches 36 = .ok (.aaload, 1) := by decide +kernel
theorem dX6_fewestLunches_37 : decode cX6_fewestLunches 37 = .ok (.getfield 64, 3) := by decide +kernel
theorem dX6_fewestLunches_40 : decode cX6_fewestLunches 40 = .ok (.invokestatic 93, 3) := by decide +kernel
theorem dX6_fewestLunches_43 : decode cX6_fewestLunches 43 = .ok (.istore_n 1, 1) := by decide +kernel
theorem dX6_fewestLunches_44 : decode cX6_fewestLunches 44 = .ok (.iinc 2 1, 3) := by decide +kernel
theorem dX6_fewestLunches_47 : decode cX6_fewestLunches 47 = .ok (.goto (-25), 3) := by decide +kernel
theorem dX6_fewestLunches_50 : decode cX6_fewestLunches 50 = .ok (.iload_n 1, 1) := by decide +kernel
theorem dX6_fewestLunches_51 : decode cX6_fewestLunches 51 = .ok (.ireturn, 1) := by decide +kernel
theorem dX7_init_0 : decode cX7_init 0 = .ok (.aload_n 0, 1) := by decide +kernel
theorem dX7_init_1 : decode cX7_init 1 = .ok (.invokespecial 3, 3) := by decide +kernel
theorem dX7_init_4 : decode cX7_init 4 = .ok (.aload_n 0, 1) := by decide +kernel
theorem dX7_init_5 : decode cX7_init 5 = .ok (.bipush 24, 2) := by decide +kernel
theorem dX7_init_7 : decode cX7_init 7 = .ok (.newarray .long, 2) := by decide +kernel
theorem dX7_init_9 : decode cX7_init 9 = .ok (.putfield 9, 3) := by decide +kernel
theorem dX7_init_12 : decode cX7_init 12 = .ok (.aload_n 0, 1) := by decide +kernel
theorem dX7_init_13 : decode cX7_init 13 = .ok (.iconst (-1), 1) := by decide +kernel
theorem dX7_init_14 : decode cX7_init 14 = .ok (.putfield 15, 3) := by decide +kernel
theorem dX7_init_17 : decode cX7_init 17 = .ok (.return_, 1) := by decide +kernel
theorem dX7_begin_0 : decode cX7_begin 0 = .ok (.aload_n 0, 1) := by decide +kernel
theorem dX7_begin_1 : decode cX7_begin 1 = .ok (.iload_n 1, 1) := by decide +kernel
theorem dX7_begin_2 : decode cX7_begin 2 = .ok (.putfield 15, 3) := by decide +kernel
theorem dX7_begin_5 : decode cX7_begin 5 = .ok (.aload_n 0, 1) := by decide +kernel
theorem dX7_begin_6 : decode cX7_begin 6 = .ok (.iload_n 2, 1) := by decide +kernel
theorem dX7_begin_7 : decode cX7_begin 7 = .ok (.putfield 19, 3) := by decide +kernel
theorem dX7_begin_10 : decode cX7_begin 10 = .ok (.iconst 0, 1) := by decide +kernel
theorem dX7_begin_11 : decode cX7_begin 11 = .ok (.istore_n 3, 1) := by decide +kernel
theorem dX7_begin_12 : decode cX7_begin 12 = .ok (.iload_n 3, 1) := by decide +kernel
theorem dX7_begin_13 : decode cX7_begin 13 = .ok (.bipush 24, 2) := by decide +kernel
theorem dX7_begin_15 : decode cX7_begin 15 = .ok (.if_icmp .ge 16, 3) := by decide +kernel
theorem dX7_begin_18 : decode cX7_begin 18 = .ok (.aload_n 0, 1) := by decide +kernel
theorem dX7_begin_19 : decode cX7_begin 19 = .ok (.getfield 9, 3) := by decide +kernel
theorem dX7_begin_22 : decode cX7_begin 22 = .ok (.iload_n 3, 1) := by decide +kernel
theorem dX7_begin_23 : decode cX7_begin 23 = .ok (.lconst 0, 1) := by decide +kernel
theorem dX7_begin_24 : decode cX7_begin 24 = .ok (.lastore, 1) := by decide +kernel
theorem dX7_begin_25 : decode cX7_begin 25 = .ok (.iinc 3 1, 3) := by decide +kernel
theorem dX7_begin_28 : decode cX7_begin 28 = .ok (.goto (-16), 3) := by decide +kernel
theorem dX7_begin_31 : decode cX7_begin 31 = .ok (.return_, 1) := by decide +kernel
theorem dX7_isMissing_0 : decode cX7_isMissing 0 = .ok (.aload_n 0, 1) := by decide +kernel
theorem dX7_isMissing_1 : decode cX7_isMissing 1 = .ok (.getfield 15, 3) := by decide +kernel
theorem dX7_isMissing_4 : decode cX7_isMissing 4 = .ok (.iconst (-1), 1) := by decide +kernel
theorem dX7_isMissing_5 : decode cX7_isMissing 5 = .ok (.if_icmp .ne 7, 3) := by decide +kernel
theorem dX7_isMissing_8 : decode cX7_isMissing 8 = .ok (.iconst 1, 1) := by decide +kernel
theorem dX7_isMissing_9 : decode cX7_isMissing 9 = .ok (.goto 4, 3) := by decide +kernel
theorem dX7_isMissing_12 : decode cX7_isMissing 12 = .ok (.iconst 0, 1) := by decide +kernel
theorem dX7_isMissing_13 : decode cX7_isMissing 13 = .ok (.ireturn, 1) := by decide +kernel
theorem dX7_holds_0 : decode cX7_holds 0 = .ok (.iload_n 1, 1) := by decide +kernel
theorem dX7_holds_1 : decode cX7_holds 1 = .ok (.ifCond .lt 21, 3) := by decide +kernel
theorem dX7_holds_4 : decode cX7_holds 4 = .ok (.iload_n 2, 1) := by decide +kernel
theorem dX7_holds_5 : decode cX7_holds 5 = .ok (.ifCond .lt 17, 3) := by decide +kernel
theorem dX7_holds_8 : decode cX7_holds 8 = .ok (.iload_n 1, 1) := by decide +kernel
theorem dX7_holds_9 : decode cX7_holds 9 = .ok (.aload_n 0, 1) := by decide +kernel
theorem dX7_holds_10 : decode cX7_holds 10 = .ok (.getfield 19, 3) := by decide +kernel
theorem dX7_holds_13 : decode cX7_holds 13 = .ok (.iload_n 2, 1) := by decide +kernel
theorem dX7_holds_14 : decode cX7_holds 14 = .ok (.isub, 1) := by decide +kernel
theorem dX7_holds_15 : decode cX7_holds 15 = .ok (.if_icmp .gt 7, 3) := by decide +kernel
theorem dX7_holds_18 : decode cX7_holds 18 = .ok (.iconst 1, 1) := by decide +kernel
theorem dX7_holds_19 : decode cX7_holds 19 = .ok (.goto 4, 3) := by decide +kernel
theorem dX7_holds_22 : decode cX7_holds 22 = .ok (.iconst 0, 1) := by decide +kernel
theorem dX7_holds_23 : decode cX7_holds 23 = .ok (.ireturn, 1) := by decide +kernel
theorem dX7_refusal_0 : decode cX7_refusal 0 = .ok (.aload_n 0, 1) := by decide +kernel
theorem dX7_refusal_1 : decode cX7_refusal 1 = .ok (.invokevirtual 22, 3) := by decide +kernel
theorem dX7_refusal_4 : decode cX7_refusal 4 = .ok (.ifCond .eq 6, 3) := by decide +kernel
theorem dX7_refusal_7 : decode cX7_refusal 7 = .ok (.bipush (-11), 2) := by decide +kernel
theorem dX7_refusal_9 : decode cX7_refusal 9 = .ok (.ireturn, 1) := by decide +kernel
theorem dX7_refusal_10 : decode cX7_refusal 10 = .ok (.iload_n 1, 1) := by decide +kernel
theorem dX7_refusal_11 : decode cX7_refusal 11 = .ok (.aload_n 0, 1) := by decide +kernel
theorem dX7_refusal_12 : decode cX7_refusal 12 = .ok (.getfield 15, 3) := by decide +kernel
theorem dX7_refusal_15 : decode cX7_refusal 15 = .ok (.if_icmp .eq 6, 3) := by decide +kernel
theorem dX7_refusal_18 : decode cX7_refusal 18 = .ok (.bipush (-12), 2) := by decide +kernel
theorem dX7_refusal_20 : decode cX7_refusal 20 = .ok (.ireturn, 1) := by decide +kernel
theorem dX7_refusal_21 : decode cX7_refusal 21 = .ok (.aload_n 0, 1) := by decide +kernel
theorem dX7_refusal_22 : decode cX7_refusal 22 = .ok (.iload_n 2, 1) := by decide +kernel
theorem dX7_refusal_23 : decode cX7_refusal 23 = .ok (.iload_n 3, 1) := by decide +kernel
theorem dX7_refusal_24 : decode cX7_refusal 24 = .ok (.invokevirtual 26, 3) := by decide +kernel
theorem dX7_refusal_27 : decode cX7_refusal 27 = .ok (.ifCond .eq 7, 3) := by decide +kernel
theorem dX7_refusal_30 : decode cX7_refusal 30 = .ok (.iconst 0, 1) := by decide +kernel
theorem dX7_refusal_31 : decode cX7_refusal 31 = .ok (.goto 5, 3) := by decide +kernel
theorem dX7_refusal_34 : decode cX7_refusal 34 = .ok (.bipush (-13), 2) := by decide +kernel
theorem dX7_refusal_36 : decode cX7_refusal 36 = .ok (.ireturn, 1) := by decide +kernel
theorem dX7_put_0 : decode cX7_put 0 = .ok (.aload_n 0, 1) := by decide +kernel
theorem dX7_put_1 : decode cX7_put 1 = .ok (.getfield 15, 3) := by decide +kernel
theorem dX7_put_4 : decode cX7_put 4 = .ok (.tableswitch 66 0 2 #[28, 41, 54], 28) := by decide +kernel
theorem dX7_put_32 : decode cX7_put 32 = .ok (.aload_n 0, 1) := by decide +kernel
theorem dX7_put_33 : decode cX7_put 33 = .ok (.getfield 9, 3) := by decide +kernel
theorem dX7_put_36 : decode cX7_put 36 = .ok (.iload_n 1, 1) := by decide +kernel
theorem dX7_put_37 : decode cX7_put 37 = .ok (.lload_n 2, 1) := by decide +kernel
theorem dX7_put_38 : decode cX7_put 38 = .ok (.l2i, 1) := by decide +kernel
theorem dX7_put_39 : decode cX7_put 39 = .ok (.i2b, 1) := by decide +kernel
theorem dX7_put_40 : decode cX7_put 40 = .ok (.i2l, 1) := by decide +kernel
theorem dX7_put_41 : decode cX7_put 41 = .ok (.lastore, 1) := by decide +kernel
theorem dX7_put_42 : decode cX7_put 42 = .ok (.goto 35, 3) := by decide +kernel
theorem dX7_put_45 : decode cX7_put 45 = .ok (.aload_n 0, 1) := by decide +kernel
theorem dX7_put_46 : decode cX7_put 46 = .ok (.getfield 9, 3) := by decide +kernel
theorem dX7_put_49 : decode cX7_put 49 = .ok (.iload_n 1, 1) := by decide +kernel
theorem dX7_put_50 : decode cX7_put 50 = .ok (.lload_n 2, 1) := by decide +kernel
theorem dX7_put_51 : decode cX7_put 51 = .ok (.l2i, 1) := by decide +kernel
theorem dX7_put_52 : decode cX7_put 52 = .ok (.i2s, 1) := by decide +kernel
theorem dX7_put_53 : decode cX7_put 53 = .ok (.i2l, 1) := by decide +kernel
theorem dX7_put_54 : decode cX7_put 54 = .ok (.lastore, 1) := by decide +kernel
theorem dX7_put_55 : decode cX7_put 55 = .ok (.goto 22, 3) := by decide +kernel
theorem dX7_put_58 : decode cX7_put 58 = .ok (.aload_n 0, 1) := by decide +kernel
theorem dX7_put_59 : decode cX7_put 59 = .ok (.getfield 9, 3) := by decide +kernel
theorem dX7_put_62 : decode cX7_put 62 = .ok (.iload_n 1, 1) := by decide +kernel
theorem dX7_put_63 : decode cX7_put 63 = .ok (.lload_n 2, 1) := by decide +kernel
theorem dX7_put_64 : decode cX7_put 64 = .ok (.l2i, 1) := by decide +kernel
theorem dX7_put_65 : decode cX7_put 65 = .ok (.i2l, 1) := by decide +kernel
theorem dX7_put_66 : decode cX7_put 66 = .ok (.lastore, 1) := by decide +kernel
theorem dX7_put_67 : decode cX7_put 67 = .ok (.goto 10, 3) := by decide +kernel
theorem dX7_put_70 : decode cX7_put 70 = .ok (.aload_n 0, 1) := by decide +kernel
theorem dX7_put_71 : decode cX7_put 71 = .ok (.getfield 9, 3) := by decide +kernel
theorem dX7_put_74 : decode cX7_put 74 = .ok (.iload_n 1, 1) := by decide +kernel
theorem dX7_put_75 : decode cX7_put 75 = .ok (.lload_n 2, 1) := by decide +kernel
theorem dX7_put_76 : decode cX7_put 76 = .ok (.lastore, 1) := by decide +kernel
theorem dX7_put_77 : decode cX7_put 77 = .ok (.return_, 1) := by decide +kernel
theorem dX8_init_0 : decode cX8_init 0 = .ok (.aload_n 0, 1) := by decide +kernel
theorem dX8_init_1 : decode cX8_init 1 = .ok (.invokespecial 3, 3) := by decide +kernel
theorem dX8_init_4 : decode cX8_init 4 = .ok (.aload_n 0, 1) := by decide +kernel
theorem dX8_init_5 : decode cX8_init 5 = .ok (.bipush 60, 2) := by decide +kernel
theorem dX8_init_7 : decode cX8_init 7 = .ok (.newarray .int, 2) := by decide +kernel
theorem dX8_init_9 : decode cX8_init 9 = .ok (.putfield 9, 3) := by decide +kernel
theorem dX8_init_12 : decode cX8_init 12 = .ok (.return_, 1) := by decide +kernel
theorem dX8_add_0 : decode cX8_add 0 = .ok (.aload_n 0, 1) := by decide +kernel
theorem dX8_add_1 : decode cX8_add 1 = .ok (.getfield 15, 3) := by decide +kernel
theorem dX8_add_4 : decode cX8_add 4 = .ok (.bipush 60, 2) := by decide +kernel
theorem dX8_add_6 : decode cX8_add 6 = .ok (.if_icmp .lt 5, 3) := by decide +kernel
theorem dX8_add_9 : decode cX8_add 9 = .ok (.iconst 0, 1) := by decide +kernel
theorem dX8_add_10 : decode cX8_add 10 = .ok (.ireturn, 1) := by decide +kernel
theorem dX8_add_11 : decode cX8_add 11 = .ok (.aload_n 0, 1) := by decide +kernel
theorem dX8_add_12 : decode cX8_add 12 = .ok (.getfield 9, 3) := by decide +kernel
theorem dX8_add_15 : decode cX8_add 15 = .ok (.aload_n 0, 1) := by decide +kernel
theorem dX8_add_16 : decode cX8_add 16 = .ok (.getfield 15, 3) := by decide +kernel
theorem dX8_add_19 : decode cX8_add 19 = .ok (.iload_n 1, 1) := by decide +kernel
theorem dX8_add_20 : decode cX8_add 20 = .ok (.iastore, 1) := by decide +kernel
theorem dX8_add_21 : decode cX8_add 21 = .ok (.aload_n 0, 1) := by decide +kernel
theorem dX8_add_22 : decode cX8_add 22 = .ok (.dup, 1) := by decide +kernel
theorem dX8_add_23 : decode cX8_add 23 = .ok (.getfield 15, 3) := by decide +kernel
theorem dX8_add_26 : decode cX8_add 26 = .ok (.iconst 1, 1) := by decide +kernel
theorem dX8_add_27 : decode cX8_add 27 = .ok (.iadd, 1) := by decide +kernel
theorem dX8_add_28 : decode cX8_add 28 = .ok (.putfield 15, 3) := by decide +kernel
theorem dX8_add_31 : decode cX8_add 31 = .ok (.iconst 1, 1) := by decide +kernel
theorem dX8_add_32 : decode cX8_add 32 = .ok (.ireturn, 1) := by decide +kernel
theorem dX8_clear_0 : decode cX8_clear 0 = .ok (.aload_n 0, 1) := by decide +kernel
theorem dX8_clear_1 : decode cX8_clear 1 = .ok (.iconst 0, 1) := by decide +kernel
theorem dX8_clear_2 : decode cX8_clear 2 = .ok (.putfield 15, 3) := by decide +kernel
theorem dX8_clear_5 : decode cX8_clear 5 = .ok (.aload_n 0, 1) := by decide +kernel
theorem dX8_clear_6 : decode cX8_clear 6 = .ok (.iconst 0, 1) := by decide +kernel
theorem dX8_clear_7 : decode cX8_clear 7 = .ok (.putfield 19, 3) := by decide +kernel
theorem dX8_clear_10 : decode cX8_clear 10 = .ok (.return_, 1) := by decide +kernel
theorem dX8_ends_0 : decode cX8_ends 0 = .ok (.aload_n 0, 1) := by decide +kernel
theorem dX8_ends_1 : decode cX8_ends 1 = .ok (.getfield 19, 3) := by decide +kernel
theorem dX8_ends_4 : decode cX8_ends 4 = .ok (.aload_n 0, 1) := by decide +kernel
theorem dX8_ends_5 : decode cX8_ends 5 = .ok (.getfield 15, 3) := by decide +kernel
theorem dX8_ends_8 : decode cX8_ends 8 = .ok (.if_icmp .ge 30, 3) := by decide +kernel
theorem dX8_ends_11 : decode cX8_ends 11 = .ok (.aload_n 0, 1) := by decide +kernel
theorem dX8_ends_12 : decode cX8_ends 12 = .ok (.getfield 9, 3) := by decide +kernel
theorem dX8_ends_15 : decode cX8_ends 15 = .ok (.aload_n 0, 1) := by decide +kernel
theorem dX8_ends_16 : decode cX8_ends 16 = .ok (.getfield 19, 3) := by decide +kernel
theorem dX8_ends_19 : decode cX8_ends 19 = .ok (.iaload, 1) := by decide +kernel
theorem dX8_ends_20 : decode cX8_ends 20 = .ok (.bipush 32, 2) := by decide +kernel
theorem dX8_ends_22 : decode cX8_ends 22 = .ok (.if_icmp .ne 16, 3) := by decide +kernel
theorem dX8_ends_25 : decode cX8_ends 25 = .ok (.aload_n 0, 1) := by decide +kernel
theorem dX8_ends_26 : decode cX8_ends 26 = .ok (.dup, 1) := by decide +kernel
theorem dX8_ends_27 : decode cX8_ends 27 = .ok (.getfield 19, 3) := by decide +kernel
theorem dX8_ends_30 : decode cX8_ends 30 = .ok (.iconst 1, 1) := by decide +kernel
theorem dX8_ends_31 : decode cX8_ends 31 = .ok (.iadd, 1) := by decide +kernel
theorem dX8_ends_32 : decode cX8_ends 32 = .ok (.putfield 19, 3) := by decide +kernel
theorem dX8_ends_35 : decode cX8_ends 35 = .ok (.goto (-35), 3) := by decide +kernel
theorem dX8_ends_38 : decode cX8_ends 38 = .ok (.aload_n 0, 1) := by decide +kernel
theorem dX8_ends_39 : decode cX8_ends 39 = .ok (.getfield 19, 3) := by decide +kernel
theorem dX8_ends_42 : decode cX8_ends 42 = .ok (.aload_n 0, 1) := by decide +kernel
theorem dX8_ends_43 : decode cX8_ends 43 = .ok (.getfield 15, 3) := by decide +kernel
theorem dX8_ends_46 : decode cX8_ends 46 = .ok (.if_icmp .lt 7, 3) := by decide +kernel
theorem dX8_ends_49 : decode cX8_ends 49 = .ok (.iconst 1, 1) := by decide +kernel
theorem dX8_ends_50 : decode cX8_ends 50 = .ok (.goto 4, 3) := by decide +kernel
theorem dX8_ends_53 : decode cX8_ends 53 = .ok (.iconst 0, 1) := by decide +kernel
theorem dX8_ends_54 : decode cX8_ends 54 = .ok (.ireturn, 1) := by decide +kernel
theorem dX8_takes_0 : decode cX8_takes 0 = .ok (.aload_n 0, 1) := by decide +kernel
theorem dX8_takes_1 : decode cX8_takes 1 = .ok (.invokevirtual 22, 3) := by decide +kernel
theorem dX8_takes_4 : decode cX8_takes 4 = .ok (.ifCond .ne 16, 3) := by decide +kernel
theorem dX8_takes_7 : decode cX8_takes 7 = .ok (.aload_n 0, 1) := by decide +kernel
theorem dX8_takes_8 : decode cX8_takes 8 = .ok (.getfield 9, 3) := by decide +kernel
theorem dX8_takes_11 : decode cX8_takes 11 = .ok (.aload_n 0, 1) := by decide +kernel
theorem dX8_takes_12 : decode cX8_takes 12 = .ok (.getfield 19, 3) := by decide +kernel
theorem dX8_takes_15 : decode cX8_takes 15 = .ok (.iaload, 1) := by decide +kernel
theorem dX8_takes_16 : decode cX8_takes 16 = .ok (.iload_n 1, 1) := by decide +kernel
theorem dX8_takes_17 : decode cX8_takes 17 = .ok (.if_icmp .eq 5, 3) := by decide +kernel
theorem dX8_takes_20 : decode cX8_takes 20 = .ok (.iconst 0, 1) := by decide +kernel
theorem dX8_takes_21 : decode cX8_takes 21 = .ok (.ireturn, 1) := by decide +kernel
theorem dX8_takes_22 : decode cX8_takes 22 = .ok (.aload_n 0, 1) := by decide +kernel
theorem dX8_takes_23 : decode cX8_takes 23 = .ok (.dup, 1) := by decide +kernel
theorem dX8_takes_24 : decode cX8_takes 24 = .ok (.getfield 19, 3) := by decide +kernel
theorem dX8_takes_27 : decode cX8_takes 27 = .ok (.iconst 1, 1) := by decide +kernel
theorem dX8_takes_28 : decode cX8_takes 28 = .ok (.iadd, 1) := by decide +kernel
theorem dX8_takes_29 : decode cX8_takes 29 = .ok (.putfield 19, 3) := by decide +kernel
theorem dX8_takes_32 : decode cX8_takes 32 = .ok (.iconst 1, 1) := by decide +kernel
theorem dX8_takes_33 : decode cX8_takes 33 = .ok (.ireturn, 1) := by decide +kernel
theorem dX8_takeDigit_0 : decode cX8_takeDigit 0 = .ok (.aload_n 0, 1) := by decide +kernel
theorem dX8_takeDigit_1 : decode cX8_takeDigit 1 = .ok (.invokevirtual 22, 3) := by decide +kernel
theorem dX8_takeDigit_4 : decode cX8_takeDigit 4 = .ok (.ifCond .ne 23, 3) := by decide +kernel
theorem dX8_takeDigit_7 : decode cX8_takeDigit 7 = .ok (.aload_n 0, 1) := by decide +kernel
theorem dX8_takeDigit_8 : decode cX8_takeDigit 8 = .ok (.getfield 9, 3) := by decide +kernel
theorem dX8_takeDigit_11 : decode cX8_takeDigit 11 = .ok (.aload_n 0, 1) := by decide +kernel
theorem dX8_takeDigit_12 : decode cX8_takeDigit 12 = .ok (.getfield 19, 3) := by decide +kernel
theorem dX8_takeDigit_15 : decode cX8_takeDigit 15 = .ok (.iaload, 1) := by decide +kernel
theorem dX8_takeDigit_16 : decode cX8_takeDigit 16 = .ok (.bipush 48, 2) := by decide +kernel
theorem dX8_takeDigit_18 : decode cX8_takeDigit 18 = .ok (.isub, 1) := by decide +kernel
theorem dX8_takeDigit_19 : decode cX8_takeDigit 19 = .ok (.iload_n 1, 1) := by decide +kernel
theorem dX8_takeDigit_20 : decode cX8_takeDigit 20 = .ok (.iload_n 2, 1) := by decide +kernel
theorem dX8_takeDigit_21 : decode cX8_takeDigit 21 = .ok (.invokestatic 26, 3) := by decide +kernel
theorem dX8_takeDigit_24 : decode cX8_takeDigit 24 = .ok (.ifCond .ne 6, 3) := by decide +kernel
theorem dX8_takeDigit_27 : decode cX8_takeDigit 27 = .ok (.bipush (-4), 2) := by decide +kernel
theorem dX8_takeDigit_29 : decode cX8_takeDigit 29 = .ok (.ireturn, 1) := by decide +kernel
theorem dX8_takeDigit_30 : decode cX8_takeDigit 30 = .ok (.aload_n 0, 1) := by decide +kernel
theorem dX8_takeDigit_31 : decode cX8_takeDigit 31 = .ok (.dup, 1) := by decide +kernel
theorem dX8_takeDigit_32 : decode cX8_takeDigit 32 = .ok (.getfield 19, 3) := by decide +kernel
theorem dX8_takeDigit_35 : decode cX8_takeDigit 35 = .ok (.iconst 1, 1) := by decide +kernel
theorem dX8_takeDigit_36 : decode cX8_takeDigit 36 = .ok (.iadd, 1) := by decide +kernel
theorem dX8_takeDigit_37 : decode cX8_takeDigit 37 = .ok (.putfield 19, 3) := by decide +kernel
theorem dX8_takeDigit_40 : decode cX8_takeDigit 40 = .ok (.aload_n 0, 1) := by decide +kernel
theorem dX8_takeDigit_41 : decode cX8_takeDigit 41 = .ok (.getfield 9, 3) := by decide +kernel
theorem dX8_takeDigit_44 : decode cX8_takeDigit 44 = .ok (.aload_n 0, 1) := by decide +kernel
theorem dX8_takeDigit_45 : decode cX8_takeDigit 45 = .ok (.getfield 19, 3) := by decide +kernel
theorem dX8_takeDigit_48 : decode cX8_takeDigit 48 = .ok (.iconst 1, 1) := by decide +kernel
theorem dX8_takeDigit_49 : decode cX8_takeDigit 49 = .ok (.isub, 1) := by decide +kernel
theorem dX8_takeDigit_50 : decode cX8_takeDigit 50 = .ok (.iaload, 1) := by decide +kernel
theorem dX8_takeDigit_51 : decode cX8_takeDigit 51 = .ok (.bipush 48, 2) := by decide +kernel
theorem dX8_takeDigit_53 : decode cX8_takeDigit 53 = .ok (.isub, 1) := by decide +kernel
theorem dX8_takeDigit_54 : decode cX8_takeDigit 54 = .ok (.ireturn, 1) := by decide +kernel
theorem dX8_takeKind_0 : decode cX8_takeKind 0 = .ok (.aload_n 0, 1) := by decide +kernel
theorem dX8_takeKind_1 : decode cX8_takeKind 1 = .ok (.invokevirtual 22, 3) := by decide +kernel
theorem dX8_takeKind_4 : decode cX8_takeKind 4 = .ok (.ifCond .eq 7, 3) := by decide +kernel
theorem dX8_takeKind_7 : decode cX8_takeKind 7 = .ok (.iconst (-1), 1) := by decide +kernel
theorem dX8_takeKind_8 : decode cX8_takeKind 8 = .ok (.goto 18, 3) := by decide +kernel
theorem dX8_takeKind_11 : decode cX8_takeKind 11 = .ok (.ldc 30, 2) := by decide +kernel
theorem dX8_takeKind_13 : decode cX8_takeKind 13 = .ok (.aload_n 0, 1) := by decide +kernel
theorem dX8_takeKind_14 : decode cX8_takeKind 14 = .ok (.getfield 9, 3) := by decide +kernel
theorem dX8_takeKind_17 : decode cX8_takeKind 17 = .ok (.aload_n 0, 1) := by decide +kernel
theorem dX8_takeKind_18 : decode cX8_takeKind 18 = .ok (.getfield 19, 3) := by decide +kernel
theorem dX8_takeKind_21 : decode cX8_takeKind 21 = .ok (.iaload, 1) := by decide +kernel
theorem dX8_takeKind_22 : decode cX8_takeKind 22 = .ok (.i2c, 1) := by decide +kernel
theorem dX8_takeKind_23 : decode cX8_takeKind 23 = .ok (.invokevirtual 32, 3) := by decide +kernel
theorem dX8_takeKind_26 : decode cX8_takeKind 26 = .ok (.istore_n 1, 1) := by decide +kernel
theorem dX8_takeKind_27 : decode cX8_takeKind 27 = .ok (.iload_n 1, 1) := by decide +kernel
theorem dX8_takeKind_28 : decode cX8_takeKind 28 = .ok (.iconst 0, 1) := by decide +kernel
theorem dX8_takeKind_29 : decode cX8_takeKind 29 = .ok (.getstatic 38, 3) := by decide +kernel
theorem dX8_takeKind_32 : decode cX8_takeKind 32 = .ok (.arraylength, 1) := by decide +kernel
theorem dX8_takeKind_33 : decode cX8_takeKind 33 = .ok (.iconst 1, 1) := by decide +kernel
theorem dX8_takeKind_34 : decode cX8_takeKind 34 = .ok (.isub, 1) := by decide +kernel
theorem dX8_takeKind_35 : decode cX8_takeKind 35 = .ok (.invokestatic 26, 3) := by decide +kernel
theorem dX8_takeKind_38 : decode cX8_takeKind 38 = .ok (.ifCond .ne 6, 3) := by decide +kernel
theorem dX8_takeKind_41 : decode cX8_takeKind 41 = .ok (.bipush (-4), 2) := by decide +kernel
theorem dX8_takeKind_43 : decode cX8_takeKind 43 = .ok (.ireturn, 1) := by decide +kernel
theorem dX8_takeKind_44 : decode cX8_takeKind 44 = .ok (.aload_n 0, 1) := by decide +kernel
theorem dX8_takeKind_45 : decode cX8_takeKind 45 = .ok (.dup, 1) := by decide +kernel
theorem dX8_takeKind_46 : decode cX8_takeKind 46 = .ok (.getfield 19, 3) := by decide +kernel
theorem dX8_takeKind_49 : decode cX8_takeKind 49 = .ok (.iconst 1, 1) := by decide +kernel
theorem dX8_takeKind_50 : decode cX8_takeKind 50 = .ok (.iadd, 1) := by decide +kernel
theorem dX8_takeKind_51 : decode cX8_takeKind 51 = .ok (.putfield 19, 3) := by decide +kernel
theorem dX8_takeKind_54 : decode cX8_takeKind 54 = .ok (.iload_n 1, 1) := by decide +kernel
theorem dX8_takeKind_55 : decode cX8_takeKind 55 = .ok (.ireturn, 1) := by decide +kernel
theorem dX9_init_0 : decode cX9_init 0 = .ok (.aload_n 0, 1) := by decide +kernel
theorem dX9_init_1 : decode cX9_init 1 = .ok (.invokespecial 3, 3) := by decide +kernel
theorem dX9_init_4 : decode cX9_init 4 = .ok (.aload_n 0, 1) := by decide +kernel
theorem dX9_init_5 : decode cX9_init 5 = .ok (.new 9, 3) := by decide +kernel
theorem dX9_init_8 : decode cX9_init 8 = .ok (.dup, 1) := by decide +kernel
theorem dX9_init_9 : decode cX9_init 9 = .ok (.invokespecial 11, 3) := by decide +kernel
theorem dX9_init_12 : decode cX9_init 12 = .ok (.putfield 12, 3) := by decide +kernel
theorem dX9_init_15 : decode cX9_init 15 = .ok (.aload_n 0, 1) := by decide +kernel
theorem dX9_init_16 : decode cX9_init 16 = .ok (.getstatic 18, 3) := by decide +kernel
theorem dX9_init_19 : decode cX9_init 19 = .ok (.putfield 24, 3) := by decide +kernel
theorem dX9_init_22 : decode cX9_init 22 = .ok (.return_, 1) := by decide +kernel
theorem dX9_spot_0 : decode cX9_spot 0 = .ok (.lconst 1, 1) := by decide +kernel
theorem dX9_spot_1 : decode cX9_spot 1 = .ok (.iload_n 0, 1) := by decide +kernel
theorem dX9_spot_2 : decode cX9_spot 2 = .ok (.bipush 7, 2) := by decide +kernel
theorem dX9_spot_4 : decode cX9_spot 4 = .ok (.imul, 1) := by decide +kernel
theorem dX9_spot_5 : decode cX9_spot 5 = .ok (.iload_n 1, 1) := by decide +kernel
theorem dX9_spot_6 : decode cX9_spot 6 = .ok (.iadd, 1) := by decide +kernel
theorem dX9_spot_7 : decode cX9_spot 7 = .ok (.lshl, 1) := by decide +kernel
theorem dX9_spot_8 : decode cX9_spot 8 = .ok (.lreturn, 1) := by decide +kernel
theorem dX9_seat_0 : decode cX9_seat 0 = .ok (.lconst 1, 1) := by decide +kernel
theorem dX9_seat_1 : decode cX9_seat 1 = .ok (.bipush 42, 2) := by decide +kernel
theorem dX9_seat_3 : decode cX9_seat 3 = .ok (.iload_n 0, 1) := by decide +kernel
theorem dX9_seat_4 : decode cX9_seat 4 = .ok (.iadd, 1) := by decide +kernel
theorem dX9_seat_5 : decode cX9_seat 5 = .ok (.lshl, 1) := by decide +kernel
theorem dX9_seat_6 : decode cX9_seat 6 = .ok (.lreturn, 1) := by decide +kernel
theorem dX9_leastSpot_0 : decode cX9_leastSpot 0 = .ok (.iconst 0, 1) := by decide +kernel
theorem dX9_leastSpot_1 : decode cX9_leastSpot 1 = .ok (.istore_n 2, 1) := by decide +kernel
theorem dX9_leastSpot_2 : decode cX9_leastSpot 2 = .ok (.iload_n 2, 1) := by decide +kernel
theorem dX9_leastSpot_3 : decode cX9_leastSpot 3 = .ok (.bipush 42, 2) := by decide +kernel
theorem dX9_leastSpot_5 : decode cX9_leastSpot 5 = .ok (.if_icmp .ge 21, 3) := by decide +kernel
theorem dX9_leastSpot_8 : decode cX9_leastSpot 8 = .ok (.lload_n 0, 1) := by decide +kernel
theorem dX9_leastSpot_9 : decode cX9_leastSpot 9 = .ok (.iload_n 2, 1) := by decide +kernel
theorem dX9_leastSpot_10 : decode cX9_leastSpot 10 = .ok (.lshr, 1) := by decide +kernel
theorem dX9_leastSpot_11 : decode cX9_leastSpot 11 = .ok (.lconst 1, 1) := by decide +kernel
theorem dX9_leastSpot_12 : decode cX9_leastSpot 12 = .ok (.land, 1) := by decide +kernel
theorem dX9_leastSpot_13 : decode cX9_leastSpot 13 = .ok (.lconst 0, 1) := by decide +kernel
theorem dX9_leastSpot_14 : decode cX9_leastSpot 14 = .ok (.lcmp, 1) := by decide +kernel
theorem dX9_leastSpot_15 : decode cX9_leastSpot 15 = .ok (.ifCond .eq 5, 3) := by decide +kernel
theorem dX9_leastSpot_18 : decode cX9_leastSpot 18 = .ok (.iload_n 2, 1) := by decide +kernel
theorem dX9_leastSpot_19 : decode cX9_leastSpot 19 = .ok (.ireturn, 1) := by decide +kernel
theorem dX9_leastSpot_20 : decode cX9_leastSpot 20 = .ok (.iinc 2 1, 3) := by decide +kernel
theorem dX9_leastSpot_23 : decode cX9_leastSpot 23 = .ok (.goto (-21), 3) := by decide +kernel
theorem dX9_leastSpot_26 : decode cX9_leastSpot 26 = .ok (.bipush (-4), 2) := by decide +kernel
theorem dX9_leastSpot_28 : decode cX9_leastSpot 28 = .ok (.ireturn, 1) := by decide +kernel
theorem dX9_begin_0 : decode cX9_begin 0 = .ok (.aload_n 0, 1) := by decide +kernel
theorem dX9_begin_1 : decode cX9_begin 1 = .ok (.getfield 12, 3) := by decide +kernel
theorem dX9_begin_4 : decode cX9_begin 4 = .ok (.aload_n 1, 1) := by decide +kernel
theorem dX9_begin_5 : decode cX9_begin 5 = .ok (.getfield 27, 3) := by decide +kernel
theorem dX9_begin_8 : decode cX9_begin 8 = .ok (.invokevirtual 30, 3) := by decide +kernel
theorem dX9_begin_11 : decode cX9_begin 11 = .ok (.aload_n 0, 1) := by decide +kernel
theorem dX9_begin_12 : decode cX9_begin 12 = .ok (.aload_n 2, 1) := by decide +kernel
theorem dX9_begin_13 : decode cX9_begin 13 = .ok (.getfield 34, 3) := by decide +kernel
theorem dX9_begin_16 : decode cX9_begin 16 = .ok (.putfield 24, 3) := by decide +kernel
theorem dX9_begin_19 : decode cX9_begin 19 = .ok (.aload_n 0, 1) := by decide +kernel
theorem dX9_begin_20 : decode cX9_begin 20 = .ok (.aload_n 1, 1) := by decide +kernel
theorem dX9_begin_21 : decode cX9_begin 21 = .ok (.getfield 37, 3) := by decide +kernel
theorem dX9_begin_24 : decode cX9_begin 24 = .ok (.getfield 41, 3) := by decide +kernel
theorem dX9_begin_27 : decode cX9_begin 27 = .ok (.putfield 47, 3) := by decide +kernel
theorem dX9_begin_30 : decode cX9_begin 30 = .ok (.aload_n 0, 1) := by decide +kernel
theorem dX9_begin_31 : decode cX9_begin 31 = .ok (.aload_n 2, 1) := by decide +kernel
theorem dX9_begin_32 : decode cX9_begin 32 = .ok (.invokevirtual 50, 3) := by decide +kernel
theorem dX9_begin_35 : decode cX9_begin 35 = .ok (.ifCond .eq 13, 3) := by decide +kernel
theorem dX9_begin_38 : decode cX9_begin 38 = .ok (.aload_n 2, 1) := by decide +kernel
theorem dX9_begin_39 : decode cX9_begin 39 = .ok (.getfield 54, 3) := by decide +kernel
theorem dX9_begin_42 : decode cX9_begin 42 = .ok (.invokestatic 57, 3) := by decide +kernel
theorem dX9_begin_45 : decode cX9_begin 45 = .ok (.goto 14, 3) := by decide +kernel
theorem dX9_begin_48 : decode cX9_begin 48 = .ok (.aload_n 2, 1) := by decide +kernel
theorem dX9_begin_49 : decode cX9_begin 49 = .ok (.getfield 61, 3) := by decide +kernel
theorem dX9_begin_52 : decode cX9_begin 52 = .ok (.aload_n 2, 1) := by decide +kernel
theorem dX9_begin_53 : decode cX9_begin 53 = .ok (.getfield 64, 3) := by decide +kernel
theorem dX9_begin_56 : decode cX9_begin 56 = .ok (.invokestatic 67, 3) := by decide +kernel
theorem dX9_begin_59 : decode cX9_begin 59 = .ok (.putfield 71, 3) := by decide +kernel
theorem dX9_begin_62 : decode cX9_begin 62 = .ok (.aload_n 0, 1) := by decide +kernel
theorem dX9_begin_63 : decode cX9_begin 63 = .ok (.invokevirtual 75, 3) := by decide +kernel
theorem dX9_begin_66 : decode cX9_begin 66 = .ok (.return_, 1) := by decide +kernel
theorem dX9_rewind_0 : decode cX9_rewind 0 = .ok (.aload_n 0, 1) := by decide +kernel
theorem dX9_rewind_1 : decode cX9_rewind 1 = .ok (.aload_n 0, 1) := by decide +kernel
theorem dX9_rewind_2 : decode cX9_rewind 2 = .ok (.getfield 47, 3) := by decide +kernel
theorem dX9_rewind_5 : decode cX9_rewind 5 = .ok (.putfield 78, 3) := by decide +kernel
theorem dX9_rewind_8 : decode cX9_rewind 8 = .ok (.aload_n 0, 1) := by decide +kernel
theorem dX9_rewind_9 : decode cX9_rewind 9 = .ok (.aload_n 0, 1) := by decide +kernel
theorem dX9_rewind_10 : decode cX9_rewind 10 = .ok (.getfield 71, 3) := by decide +kernel
theorem dX9_rewind_13 : decode cX9_rewind 13 = .ok (.putfield 79, 3) := by decide +kernel
theorem dX9_rewind_16 : decode cX9_rewind 16 = .ok (.return_, 1) := by decide +kernel
theorem dX9_moved_0 : decode cX9_moved 0 = .ok (.iload_n 1, 1) := by decide +kernel
theorem dX9_moved_1 : decode cX9_moved 1 = .ok (.iconst 0, 1) := by decide +kernel
theorem dX9_moved_2 : decode cX9_moved 2 = .ok (.invokestatic 82, 3) := by decide +kernel
theorem dX9_moved_5 : decode cX9_moved 5 = .ok (.ifCond .eq 10, 3) := by decide +kernel
theorem dX9_moved_8 : decode cX9_moved 8 = .ok (.aload_n 0, 1) := by decide +kernel
theorem dX9_moved_9 : decode cX9_moved 9 = .ok (.getfield 79, 3) := by decide +kernel
theorem dX9_moved_12 : decode cX9_moved 12 = .ok (.goto 4, 3) := by decide +kernel
theorem dX9_moved_15 : decode cX9_moved 15 = .ok (.lconst 0, 1) := by decide +kernel
theorem dX9_moved_16 : decode cX9_moved 16 = .ok (.lstore_n 2, 1) := by decide +kernel
theorem dX9_moved_17 : decode cX9_moved 17 = .ok (.iconst 0, 1) := by decide +kernel
theorem dX9_moved_18 : decode cX9_moved 18 = .ok (.istore 4, 2) := by decide +kernel
theorem dX9_moved_20 : decode cX9_moved 20 = .ok (.iload 4, 2) := by decide +kernel
theorem dX9_moved_22 : decode cX9_moved 22 = .ok (.aload_n 0, 1) := by decide +kernel
theorem dX9_moved_23 : decode cX9_moved 23 = .ok (.getfield 12, 3) := by decide +kernel
theorem dX9_moved_26 : decode cX9_moved 26 = .ok (.invokevirtual 86, 3) := by decide +kernel
theorem dX9_moved_29 : decode cX9_moved 29 = .ok (.if_icmp .ge 133, 3) := by decide +kernel
theorem dX9_moved_32 : decode cX9_moved 32 = .ok (.aload_n 0, 1) := by decide +kernel
theorem dX9_moved_33 : decode cX9_moved 33 = .ok (.getfield 12, 3) := by decide +kernel
theorem dX9_moved_36 : decode cX9_moved 36 = .ok (.iload 4, 2) := by decide +kernel
theorem dX9_moved_38 : decode cX9_moved 38 = .ok (.aload_n 0, 1) := by decide +kernel
theorem dX9_moved_39 : decode cX9_moved 39 = .ok (.getfield 78, 3) := by decide +kernel
theorem dX9_moved_42 : decode cX9_moved 42 = .ok (.invokevirtual 90, 3) := by decide +kernel
theorem dX9_moved_45 : decode cX9_moved 45 = .ok (.istore 5, 2) := by decide +kernel
theorem dX9_moved_47 : decode cX9_moved 47 = .ok (.aload_n 0, 1) := by decide +kernel
theorem dX9_moved_48 : decode cX9_moved 48 = .ok (.getfield 12, 3) := by decide +kernel
theorem dX9_moved_51 : decode cX9_moved 51 = .ok (.iload 4, 2) := by decide +kernel
theorem dX9_moved_53 : decode cX9_moved 53 = .ok (.invokevirtual 94, 3) := by decide +kernel
theorem dX9_moved_56 : decode cX9_moved 56 = .ok (.istore 6, 2) := by decide +kernel
theorem dX9_moved_58 : decode cX9_moved 58 = .ok (.aload_n 0, 1) := by decide +kernel
theorem dX9_moved_59 : decode cX9_moved 59 = .ok (.getfield 79, 3) := by decide +kernel
theorem dX9_moved_62 : decode cX9_moved 62 = .ok (.ldc2_w 98, 3) := by decide +kernel
theorem dX9_moved_65 : decode cX9_moved 65 = .ok (.iload 6, 2) := by decide +kernel
theorem dX9_moved_67 : decode cX9_moved 67 = .ok (.bipush 7, 2) := by decide +kernel
theorem dX9_moved_69 : decode cX9_moved 69 = .ok (.imul, 1) := by decide +kernel
theorem dX9_moved_70 : decode cX9_moved 70 = .ok (.lshl, 1) := by decide +kernel
theorem dX9_moved_71 : decode cX9_moved 71 = .ok (.land, 1) := by decide +kernel
theorem dX9_moved_72 : decode cX9_moved 72 = .ok (.lconst 0, 1) := by decide +kernel
theorem dX9_moved_73 : decode cX9_moved 73 = .ok (.lcmp, 1) := by decide +kernel
theorem dX9_moved_74 : decode cX9_moved 74 = .ok (.ifCond .eq 7, 3) := by decide +kernel
theorem dX9_moved_77 : decode cX9_moved 77 = .ok (.iconst 1, 1) := by decide +kernel
theorem dX9_moved_78 : decode cX9_moved 78 = .ok (.goto 4, 3) := by decide +kernel
theorem dX9_moved_81 : decode cX9_moved 81 = .ok (.iconst 0, 1) := by decide +kernel
theorem dX9_moved_82 : decode cX9_moved 82 = .ok (.istore 7, 2) := by decide +kernel
theorem dX9_moved_84 : decode cX9_moved 84 = .ok (.iload 7, 2) := by decide +kernel
theorem dX9_moved_86 : decode cX9_moved 86 = .ok (.ifCond .eq 29, 3) := by decide +kernel
theorem dX9_moved_89 : decode cX9_moved 89 = .ok (.iload_n 1, 1) := by decide +kernel
theorem dX9_moved_90 : decode cX9_moved 90 = .ok (.aload_n 0, 1) := by decide +kernel
theorem dX9_moved_91 : decode cX9_moved 91 = .ok (.getfield 12, 3) := by decide +kernel
theorem dX9_moved_94 : decode cX9_moved 94 = .ok (.iload 4, 2) := by decide +kernel
theorem dX9_moved_96 : decode cX9_moved 96 = .ok (.invokevirtual 100, 3) := by decide +kernel
theorem dX9_moved_99 : decode cX9_moved 99 = .ok (.iconst 1, 1) := by decide +kernel
theorem dX9_moved_100 : decode cX9_moved 100 = .ok (.iadd, 1) := by decide +kernel
theorem dX9_moved_101 : decode cX9_moved 101 = .ok (.invokestatic 82, 3) := by decide +kernel
theorem dX9_moved_104 : decode cX9_moved 104 = .ok (.ifCond .eq 11, 3) := by decide +kernel
theorem dX9_moved_107 : decode cX9_moved 107 = .ok (.lload_n 2, 1) := by decide +kernel
theorem dX9_moved_108 : decode cX9_moved 108 = .ok (.iload 5, 2) := by decide +kernel
theorem dX9_moved_110 : decode cX9_moved 110 = .ok (.invokestatic 57, 3) := by decide +kernel
theorem dX9_moved_113 : decode cX9_moved 113 = .ok (.lor, 1) := by decide +kernel
theorem dX9_moved_114 : decode cX9_moved 114 = .ok (.lstore_n 2, 1) := by decide +kernel
theorem dX9_moved_115 : decode cX9_moved 115 = .ok (.aload_n 0, 1) := by decide +kernel
theorem dX9_moved_116 : decode cX9_moved 116 = .ok (.getfield 79, 3) := by decide +kernel
theorem dX9_moved_119 : decode cX9_moved 119 = .ok (.iload 5, 2) := by decide +kernel
theorem dX9_moved_121 : decode cX9_moved 121 = .ok (.invokestatic 57, 3) := by decide +kernel
theorem dX9_moved_124 : decode cX9_moved 124 = .ok (.land, 1) := by decide +kernel
theorem dX9_moved_125 : decode cX9_moved 125 = .ok (.lconst 0, 1) := by decide +kernel
theorem dX9_moved_126 : decode cX9_moved 126 = .ok (.lcmp, 1) := by decide +kernel
theorem dX9_moved_127 : decode cX9_moved 127 = .ok (.ifCond .eq 29, 3) := by decide +kernel
theorem dX9_moved_130 : decode cX9_moved 130 = .ok (.iload_n 1, 1) := by decide +kernel
theorem dX9_moved_131 : decode cX9_moved 131 = .ok (.iconst 3, 1) := by decide +kernel
theorem dX9_moved_132 : decode cX9_moved 132 = .ok (.invokestatic 82, 3) := by decide +kernel
theorem dX9_moved_135 : decode cX9_moved 135 = .ok (.ifCond .eq 21, 3) := by decide +kernel
theorem dX9_moved_138 : decode cX9_moved 138 = .ok (.lload_n 2, 1) := by decide +kernel
theorem dX9_moved_139 : decode cX9_moved 139 = .ok (.iload 6, 2) := by decide +kernel
theorem dX9_moved_141 : decode cX9_moved 141 = .ok (.aload_n 0, 1) := by decide +kernel
theorem dX9_moved_142 : decode cX9_moved 142 = .ok (.getfield 12, 3) := by decide +kernel
theorem dX9_moved_145 : decode cX9_moved 145 = .ok (.getfield 103, 3) := by decide +kernel
theorem dX9_moved_148 : decode cX9_moved 148 = .ok (.iload 5, 2) := by decide +kernel
theorem dX9_moved_150 : decode cX9_moved 150 = .ok (.iaload, 1) := by decide +kernel
theorem dX9_moved_151 : decode cX9_moved 151 = .ok (.invokestatic 67, 3) := by decide +kernel
theorem dX9_moved_154 : decode cX9_moved 154 = .ok (.lor, 1) := by decide +kernel
theorem dX9_moved_155 : decode cX9_moved 155 = .ok (.lstore_n 2, 1) := by decide +kernel
theorem dX9_moved_156 : decode cX9_moved 156 = .ok (.iinc 4 1, 3) := by decide +kernel
theorem dX9_moved_159 : decode cX9_moved 159 = .ok (.goto (-139), 3) := by decide +kernel
theorem dX9_moved_162 : decode cX9_moved 162 = .ok (.lload_n 2, 1) := by decide +kernel
theorem dX9_moved_163 : decode cX9_moved 163 = .ok (.lreturn, 1) := by decide +kernel
theorem dX9_has_0 : decode cX9_has 0 = .ok (.iload_n 0, 1) := by decide +kernel
theorem dX9_has_1 : decode cX9_has 1 = .ok (.iload_n 1, 1) := by decide +kernel
theorem dX9_has_2 : decode cX9_has 2 = .ok (.ishr, 1) := by decide +kernel
theorem dX9_has_3 : decode cX9_has 3 = .ok (.iconst 1, 1) := by decide +kernel
theorem dX9_has_4 : decode cX9_has 4 = .ok (.iand, 1) := by decide +kernel
theorem dX9_has_5 : decode cX9_has 5 = .ok (.ifCond .eq 7, 3) := by decide +kernel
theorem dX9_has_8 : decode cX9_has 8 = .ok (.iconst 1, 1) := by decide +kernel
theorem dX9_has_9 : decode cX9_has 9 = .ok (.goto 4, 3) := by decide +kernel
theorem dX9_has_12 : decode cX9_has 12 = .ok (.iconst 0, 1) := by decide +kernel
theorem dX9_has_13 : decode cX9_has 13 = .ok (.ireturn, 1) := by decide +kernel
theorem dX9_goOn_0 : decode cX9_goOn 0 = .ok (.aload_n 0, 1) := by decide +kernel
theorem dX9_goOn_1 : decode cX9_goOn 1 = .ok (.lload_n 1, 1) := by decide +kernel
theorem dX9_goOn_2 : decode cX9_goOn 2 = .ok (.putfield 79, 3) := by decide +kernel
theorem dX9_goOn_5 : decode cX9_goOn 5 = .ok (.aload_n 0, 1) := by decide +kernel
theorem dX9_goOn_6 : decode cX9_goOn 6 = .ok (.dup, 1) := by decide +kernel
theorem dX9_goOn_7 : decode cX9_goOn 7 = .ok (.getfield 78, 3) := by decide +kernel
theorem dX9_goOn_10 : decode cX9_goOn 10 = .ok (.iconst 1, 1) := by decide +kernel
theorem dX9_goOn_11 : decode cX9_goOn 11 = .ok (.iadd, 1) := by decide +kernel
theorem dX9_goOn_12 : decode cX9_goOn 12 = .ok (.putfield 78, 3) := by decide +kernel
theorem dX9_goOn_15 : decode cX9_goOn 15 = .ok (.aload_n 0, 1) := by decide +kernel
theorem dX9_goOn_16 : decode cX9_goOn 16 = .ok (.getfield 24, 3) := by decide +kernel
theorem dX9_goOn_19 : decode cX9_goOn 19 = .ok (.getfield 107, 3) := by decide +kernel
theorem dX9_goOn_22 : decode cX9_goOn 22 = .ok (.ifCond .eq 8, 3) := by decide +kernel
theorem dX9_goOn_25 : decode cX9_goOn 25 = .ok (.aload_n 0, 1) := by decide +kernel
theorem dX9_goOn_26 : decode cX9_goOn 26 = .ok (.iconst 0, 1) := by decide +kernel
theorem dX9_goOn_27 : decode cX9_goOn 27 = .ok (.invokevirtual 111, 3) := by decide +kernel
theorem dX9_goOn_30 : decode cX9_goOn 30 = .ok (.aload_n 0, 1) := by decide +kernel
theorem dX9_goOn_31 : decode cX9_goOn 31 = .ok (.getfield 24, 3) := by decide +kernel
theorem dX9_goOn_34 : decode cX9_goOn 34 = .ok (.getfield 115, 3) := by decide +kernel
theorem dX9_goOn_37 : decode cX9_goOn 37 = .ok (.ifCond .eq 14, 3) := by decide +kernel
theorem dX9_goOn_40 : decode cX9_goOn 40 = .ok (.aload_n 0, 1) := by decide +kernel
theorem dX9_goOn_41 : decode cX9_goOn 41 = .ok (.aload_n 0, 1) := by decide +kernel
theorem dX9_goOn_42 : decode cX9_goOn 42 = .ok (.getfield 12, 3) := by decide +kernel
theorem dX9_goOn_45 : decode cX9_goOn 45 = .ok (.getfield 118, 3) := by decide +kernel
theorem dX9_goOn_48 : decode cX9_goOn 48 = .ok (.invokevirtual 111, 3) := by decide +kernel
theorem dX9_goOn_51 : decode cX9_goOn 51 = .ok (.return_, 1) := by decide +kernel
theorem dX9_turnOut_0 : decode cX9_turnOut 0 = .ok (.aload_n 0, 1) := by decide +kernel
theorem dX9_turnOut_1 : decode cX9_turnOut 1 = .ok (.getfield 12, 3) := by decide +kernel
theorem dX9_turnOut_4 : decode cX9_turnOut 4 = .ok (.iload_n 1, 1) := by decide +kernel
theorem dX9_turnOut_5 : decode cX9_turnOut 5 = .ok (.aload_n 0, 1) := by decide +kernel
theorem dX9_turnOut_6 : decode cX9_turnOut 6 = .ok (.getfield 78, 3) := by decide +kernel
theorem dX9_turnOut_9 : decode cX9_turnOut 9 = .ok (.invokevirtual 90, 3) := by decide +kernel
theorem dX9_turnOut_12 : decode cX9_turnOut 12 = .ok (.istore_n 2, 1) := by decide +kernel
theorem dX9_turnOut_13 : decode cX9_turnOut 13 = .ok (.aload_n 0, 1) := by decide +kernel
theorem dX9_turnOut_14 : decode cX9_turnOut 14 = .ok (.getfield 79, 3) := by decide +kernel
theorem dX9_turnOut_17 : decode cX9_turnOut 17 = .ok (.iload_n 2, 1) := by decide +kernel
theorem dX9_turnOut_18 : decode cX9_turnOut 18 = .ok (.invokestatic 57, 3) := by decide +kernel
theorem dX9_turnOut_21 : decode cX9_turnOut 21 = .ok (.land, 1) := by decide +kernel
theorem dX9_turnOut_22 : decode cX9_turnOut 22 = .ok (.lconst 0, 1) := by decide +kernel
theorem dX9_turnOut_23 : decode cX9_turnOut 23 = .ok (.lcmp, 1) := by decide +kernel
theorem dX9_turnOut_24 : decode cX9_turnOut 24 = .ok (.ifCond .eq 49, 3) := by decide +kernel
theorem dX9_turnOut_27 : decode cX9_turnOut 27 = .ok (.aload_n 0, 1) := by decide +kernel
theorem dX9_turnOut_28 : decode cX9_turnOut 28 = .ok (.dup, 1) := by decide +kernel
theorem dX9_turnOut_29 : decode cX9_turnOut 29 = .ok (.getfield 79, 3) := by decide +kernel
theorem dX9_turnOut_32 : decode cX9_turnOut 32 = .ok (.iload_n 2, 1) := by decide +kernel
theorem dX9_turnOut_33 : decode cX9_turnOut 33 = .ok (.invokestatic 57, 3) := by decide +kernel
theorem dX9_turnOut_36 : decode cX9_turnOut 36 = .ok (.ldc2_w 121, 3) := by decide +kernel
theorem dX9_turnOut_39 : decode cX9_turnOut 39 = .ok (.lxor, 1) := by decide +kernel
theorem dX9_turnOut_40 : decode cX9_turnOut 40 = .ok (.land, 1) := by decide +kernel
theorem dX9_turnOut_41 : decode cX9_turnOut 41 = .ok (.putfield 79, 3) := by decide +kernel
theorem dX9_turnOut_44 : decode cX9_turnOut 44 = .ok (.aload_n 0, 1) := by decide +kernel
theorem dX9_turnOut_45 : decode cX9_turnOut 45 = .ok (.dup, 1) := by decide +kernel
theorem dX9_turnOut_46 : decode cX9_turnOut 46 = .ok (.getfield 79, 3) := by decide +kernel
theorem dX9_turnOut_49 : decode cX9_turnOut 49 = .ok (.aload_n 0, 1) := by decide +kernel
theorem dX9_turnOut_50 : decode cX9_turnOut 50 = .ok (.getfield 12, 3) := by decide +kernel
theorem dX9_turnOut_53 : decode cX9_turnOut 53 = .ok (.iload_n 1, 1) := by decide +kernel
theorem dX9_turnOut_54 : decode cX9_turnOut 54 = .ok (.invokevirtual 94, 3) := by decide +kernel
theorem dX9_turnOut_57 : decode cX9_turnOut 57 = .ok (.aload_n 0, 1) := by decide +kernel
theorem dX9_turnOut_58 : decode cX9_turnOut 58 = .ok (.getfield 12, 3) := by decide +kernel
theorem dX9_turnOut_61 : decode cX9_turnOut 61 = .ok (.getfield 103, 3) := by decide +kernel
theorem dX9_turnOut_64 : decode cX9_turnOut 64 = .ok (.iload_n 2, 1) := by decide +kernel
theorem dX9_turnOut_65 : decode cX9_turnOut 65 = .ok (.iaload, 1) := by decide +kernel
theorem dX9_turnOut_66 : decode cX9_turnOut 66 = .ok (.invokestatic 67, 3) := by decide +kernel
theorem dX9_turnOut_69 : decode cX9_turnOut 69 = .ok (.lor, 1) := by decide +kernel
theorem dX9_turnOut_70 : decode cX9_turnOut 70 = .ok (.putfield 79, 3) := by decide +kernel
theorem dX9_turnOut_73 : decode cX9_turnOut 73 = .ok (.return_, 1) := by decide +kernel
theorem dX9_fewestSteps_0 : decode cX9_fewestSteps 0 = .ok (.aload_n 0, 1) := by decide +kernel
theorem dX9_fewestSteps_1 : decode cX9_fewestSteps 1 = .ok (.invokevirtual 75, 3) := by decide +kernel
theorem dX9_fewestSteps_4 : decode cX9_fewestSteps 4 = .ok (.iconst 0, 1) := by decide +kernel
theorem dX9_fewestSteps_5 : decode cX9_fewestSteps 5 = .ok (.istore 4, 2) := by decide +kernel
theorem dX9_fewestSteps_7 : decode cX9_fewestSteps 7 = .ok (.iload 4, 2) := by decide +kernel
theorem dX9_fewestSteps_9 : decode cX9_fewestSteps 9 = .ok (.iload_n 3, 1) := by decide +kernel
theorem dX9_fewestSteps_10 : decode cX9_fewestSteps 10 = .ok (.if_icmp .gt 35, 3) := by decide +kernel
theorem dX9_fewestSteps_13 : decode cX9_fewestSteps 13 = .ok (.aload_n 0, 1) := by decide +kernel
theorem dX9_fewestSteps_14 : decode cX9_fewestSteps 14 = .ok (.bipush 15, 2) := by decide +kernel
theorem dX9_fewestSteps_16 : decode cX9_fewestSteps 16 = .ok (.invokevirtual 123, 3) := by decide +kernel
theorem dX9_fewestSteps_19 : decode cX9_fewestSteps 19 = .ok (.lstore 5, 2) := by decide +kernel
theorem dX9_fewestSteps_21 : decode cX9_fewestSteps 21 = .ok (.lload 5, 2) := by decide +kernel
theorem dX9_fewestSteps_23 : decode cX9_fewestSteps 23 = .ok (.lload_n 1, 1) := by decide +kernel
theorem dX9_fewestSteps_24 : decode cX9_fewestSteps 24 = .ok (.land, 1) := by decide +kernel
theorem dX9_fewestSteps_25 : decode cX9_fewestSteps 25 = .ok (.lconst 0, 1) := by decide +kernel
theorem dX9_fewestSteps_26 : decode cX9_fewestSteps 26 = .ok (.lcmp, 1) := by decide +kernel
theorem dX9_fewestSteps_27 : decode cX9_fewestSteps 27 = .ok (.ifCond .eq 6, 3) := by decide +kernel
theorem dX9_fewestSteps_30 : decode cX9_fewestSteps 30 = .ok (.iload 4, 2) := by decide +kernel
theorem dX9_fewestSteps_32 : decode cX9_fewestSteps 32 = .ok (.ireturn, 1) := by decide +kernel
theorem dX9_fewestSteps_33 : decode cX9_fewestSteps 33 = .ok (.aload_n 0, 1) := by decide +kernel
theorem dX9_fewestSteps_34 : decode cX9_fewestSteps 34 = .ok (.lload 5, 2) := by decide +kernel
theorem dX9_fewestSteps_36 : decode cX9_fewestSteps 36 = .ok (.invokevirtual 126, 3) := by decide +kernel
theorem dX9_fewestSteps_39 : decode cX9_fewestSteps 39 = .ok (.iinc 4 1, 3) := by decide +kernel
theorem dX9_fewestSteps_42 : decode cX9_fewestSteps 42 = .ok (.goto (-35), 3) := by decide +kernel
theorem dX9_fewestSteps_45 : decode cX9_fewestSteps 45 = .ok (.bipush (-4), 2) := by decide +kernel
theorem dX9_fewestSteps_47 : decode cX9_fewestSteps 47 = .ok (.ireturn, 1) := by decide +kernel
theorem dX9_firstMove_0 : decode cX9_firstMove 0 = .ok (.iconst 0, 1) := by decide +kernel
theorem dX9_firstMove_1 : decode cX9_firstMove 1 = .ok (.istore 4, 2) := by decide +kernel
theorem dX9_firstMove_3 : decode cX9_firstMove 3 = .ok (.iload 4, 2) := by decide +kernel
theorem dX9_firstMove_5 : decode cX9_firstMove 5 = .ok (.iconst 4, 1) := by decide +kernel
theorem dX9_firstMove_6 : decode cX9_firstMove 6 = .ok (.if_icmp .ge 25, 3) := by decide +kernel
theorem dX9_firstMove_9 : decode cX9_firstMove 9 = .ok (.aload_n 0, 1) := by decide +kernel
theorem dX9_firstMove_10 : decode cX9_firstMove 10 = .ok (.lload_n 1, 1) := by decide +kernel
theorem dX9_firstMove_11 : decode cX9_firstMove 11 = .ok (.iload_n 3, 1) := by decide +kernel
theorem dX9_firstMove_12 : decode cX9_firstMove 12 = .ok (.iconst 1, 1) := by decide +kernel
theorem dX9_firstMove_13 : decode cX9_firstMove 13 = .ok (.iload 4, 2) := by decide +kernel
theorem dX9_firstMove_15 : decode cX9_firstMove 15 = .ok (.ishl, 1) := by decide +kernel
theorem dX9_firstMove_16 : decode cX9_firstMove 16 = .ok (.invokevirtual 130, 3) := by decide +kernel
theorem dX9_firstMove_19 : decode cX9_firstMove 19 = .ok (.ifCond .eq 6, 3) := by decide +kernel
theorem dX9_firstMove_22 : decode cX9_firstMove 22 = .ok (.iload 4, 2) := by decide +kernel
theorem dX9_firstMove_24 : decode cX9_firstMove 24 = .ok (.ireturn, 1) := by decide +kernel
theorem dX9_firstMove_25 : decode cX9_firstMove 25 = .ok (.iinc 4 1, 3) := by decide +kernel
theorem dX9_firstMove_28 : decode cX9_firstMove 28 = .ok (.goto (-25), 3) := by decide +kernel
theorem dX9_firstMove_31 : decode cX9_firstMove 31 = .ok (.bipush (-4), 2) := by decide +kernel
theorem dX9_firstMove_33 : decode cX9_firstMove 33 = .ok (.ireturn, 1) := by decide +kernel
theorem dX9_reaches_0 : decode cX9_reaches 0 = .ok (.aload_n 0, 1) := by decide +kernel
theorem dX9_reaches_1 : decode cX9_reaches 1 = .ok (.invokevirtual 75, 3) := by decide +kernel
theorem dX9_reaches_4 : decode cX9_reaches 4 = .ok (.aload_n 0, 1) := by decide +kernel
theorem dX9_reaches_5 : decode cX9_reaches 5 = .ok (.iload 4, 2) := by decide +kernel
theorem dX9_reaches_7 : decode cX9_reaches 7 = .ok (.invokevirtual 123, 3) := by decide +kernel
theorem dX9_reaches_10 : decode cX9_reaches 10 = .ok (.lstore 5, 2) := by decide +kernel
theorem dX9_reaches_12 : decode cX9_reaches 12 = .ok (.iconst 0, 1) := by decide +kernel
theorem dX9_reaches_13 : decode cX9_reaches 13 = .ok (.istore 7, 2) := by decide +kernel
theorem dX9_reaches_15 : decode cX9_reaches 15 = .ok (.iload 7, 2) := by decide +kernel
theorem dX9_reaches_17 : decode cX9_reaches 17 = .ok (.iload_n 3, 1) := by decide +kernel
theorem dX9_reaches_18 : decode cX9_reaches 18 = .ok (.if_icmp .ge 23, 3) := by decide +kernel
theorem dX9_reaches_21 : decode cX9_reaches 21 = .ok (.aload_n 0, 1) := by decide +kernel
theorem dX9_reaches_22 : decode cX9_reaches 22 = .ok (.lload 5, 2) := by decide +kernel
theorem dX9_reaches_24 : decode cX9_reaches 24 = .ok (.invokevirtual 126, 3) := by decide +kernel
theorem dX9_reaches_27 : decode cX9_reaches 27 = .ok (.aload_n 0, 1) := by decide +kernel
theorem dX9_reaches_28 : decode cX9_reaches 28 = .ok (.bipush 15, 2) := by decide +kernel
theorem dX9_reaches_30 : decode cX9_reaches 30 = .ok (.invokevirtual 123, 3) := by decide +kernel
theorem dX9_reaches_33 : decode cX9_reaches 33 = .ok (.lstore 5, 2) := by decide +kernel
theorem dX9_reaches_35 : decode cX9_reaches 35 = .ok (.iinc 7 1, 3) := by decide +kernel
theorem dX9_reaches_38 : decode cX9_reaches 38 = .ok (.goto (-23), 3) := by decide +kernel
theorem dX9_reaches_41 : decode cX9_reaches 41 = .ok (.lload 5, 2) := by decide +kernel
theorem dX9_reaches_43 : decode cX9_reaches 43 = .ok (.lload_n 1, 1) := by decide +kernel
theorem dX9_reaches_44 : decode cX9_reaches 44 = .ok (.land, 1) := by decide +kernel
theorem dX9_reaches_45 : decode cX9_reaches 45 = .ok (.lconst 0, 1) := by decide +kernel
theorem dX9_reaches_46 : decode cX9_reaches 46 = .ok (.lcmp, 1) := by decide +kernel
theorem dX9_reaches_47 : decode cX9_reaches 47 = .ok (.ifCond .eq 7, 3) := by decide +kernel
theorem dX9_reaches_50 : decode cX9_reaches 50 = .ok (.iconst 1, 1) := by decide +kernel
theorem dX9_reaches_51 : decode cX9_reaches 51 = .ok (.goto 4, 3) := by decide +kernel
theorem dX9_reaches_54 : decode cX9_reaches 54 = .ok (.iconst 0, 1) := by decide +kernel
theorem dX9_reaches_55 : decode cX9_reaches 55 = .ok (.ireturn, 1) := by decide +kernel
theorem dX9_allReached_0 : decode cX9_allReached 0 = .ok (.iconst 0, 1) := by decide +kernel
theorem dX9_allReached_1 : decode cX9_allReached 1 = .ok (.istore_n 1, 1) := by decide +kernel
theorem dX9_allReached_2 : decode cX9_allReached 2 = .ok (.iload_n 1, 1) := by decide +kernel
theorem dX9_allReached_3 : decode cX9_allReached 3 = .ok (.bipush 60, 2) := by decide +kernel
theorem dX9_allReached_5 : decode cX9_allReached 5 = .ok (.if_icmp .ge 19, 3) := by decide +kernel
theorem dX9_allReached_8 : decode cX9_allReached 8 = .ok (.aload_n 0, 1) := by decide +kernel
theorem dX9_allReached_9 : decode cX9_allReached 9 = .ok (.aload_n 0, 1) := by decide +kernel
theorem dX9_allReached_10 : decode cX9_allReached 10 = .ok (.bipush 15, 2) := by decide +kernel
theorem dX9_allReached_12 : decode cX9_allReached 12 = .ok (.invokevirtual 123, 3) := by decide +kernel
theorem dX9_allReached_15 : decode cX9_allReached 15 = .ok (.invokevirtual 126, 3) := by decide +kernel
theorem dX9_allReached_18 : decode cX9_allReached 18 = .ok (.iinc 1 1, 3) := by decide +kernel
theorem dX9_allReached_21 : decode cX9_allReached 21 = .ok (.goto (-19), 3) := by decide +kernel
theorem dX9_allReached_24 : decode cX9_allReached 24 = .ok (.aload_n 0, 1) := by decide +kernel
theorem dX9_allReached_25 : decode cX9_allReached 25 = .ok (.bipush 15, 2) := by decide +kernel
theorem dX9_allReached_27 : decode cX9_allReached 27 = .ok (.invokevirtual 123, 3) := by decide +kernel
theorem dX9_allReached_30 : decode cX9_allReached 30 = .ok (.lreturn, 1) := by decide +kernel
theorem dX9_bestChange_0 : decode cX9_bestChange 0 = .ok (.aload_n 0, 1) := by decide +kernel
theorem dX9_bestChange_1 : decode cX9_bestChange 1 = .ok (.lload_n 1, 1) := by decide +kernel
theorem dX9_bestChange_2 : decode cX9_bestChange 2 = .ok (.bipush 60, 2) := by decide +kernel
theorem dX9_bestChange_4 : decode cX9_bestChange 4 = .ok (.invokevirtual 134, 3) := by decide +kernel
theorem dX9_bestChange_7 : decode cX9_bestChange 7 = .ok (.istore 5, 2) := by decide +kernel
theorem dX9_bestChange_9 : decode cX9_bestChange 9 = .ok (.iload 5, 2) := by decide +kernel
theorem dX9_bestChange_11 : decode cX9_bestChange 11 = .ok (.bipush (-4), 2) := by decide +kernel
theorem dX9_bestChange_13 : decode cX9_bestChange 13 = .ok (.if_icmp .ne 8, 3) := by decide +kernel
theorem dX9_bestChange_16 : decode cX9_bestChange 16 = .ok (.bipush 61, 2) := by decide +kernel
theorem dX9_bestChange_18 : decode cX9_bestChange 18 = .ok (.goto 5, 3) := by decide +kernel
theorem dX9_bestChange_21 : decode cX9_bestChange 21 = .ok (.iload 5, 2) := by decide +kernel
theorem dX9_bestChange_23 : decode cX9_bestChange 23 = .ok (.istore 6, 2) := by decide +kernel
theorem dX9_bestChange_25 : decode cX9_bestChange 25 = .ok (.bipush (-4), 2) := by decide +kernel
theorem dX9_bestChange_27 : decode cX9_bestChange 27 = .ok (.istore 7, 2) := by decide +kernel
theorem dX9_bestChange_29 : decode cX9_bestChange 29 = .ok (.aload_n 0, 1) := by decide +kernel
theorem dX9_bestChange_30 : decode cX9_bestChange 30 = .ok (.iload_n 3, 1) := by decide +kernel
theorem dX9_bestChange_31 : decode cX9_bestChange 31 = .ok (.invokevirtual 138, 3) := by decide +kernel
theorem dX9_bestChange_34 : decode cX9_bestChange 34 = .ok (.ifCond .eq 13, 3) := by decide +kernel
theorem dX9_bestChange_37 : decode cX9_bestChange 37 = .ok (.aload_n 0, 1) := by decide +kernel
theorem dX9_bestChange_38 : decode cX9_bestChange 38 = .ok (.getfield 12, 3) := by decide +kernel
theorem dX9_bestChange_41 : decode cX9_bestChange 41 = .ok (.invokevirtual 86, 3) := by decide +kernel
theorem dX9_bestChange_44 : decode cX9_bestChange 44 = .ok (.goto 4, 3) := by decide +kernel
theorem dX9_bestChange_47 : decode cX9_bestChange 47 = .ok (.iconst 0, 1) := by decide +kernel
theorem dX9_bestChange_48 : decode cX9_bestChange 48 = .ok (.istore 8, 2) := by decide +kernel
theorem dX9_bestChange_50 : decode cX9_bestChange 50 = .ok (.iconst 0, 1) := by decide +kernel
