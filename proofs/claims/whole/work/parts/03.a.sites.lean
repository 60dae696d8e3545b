theorem sv_0 : Cond.selects "DayBelt" ⟨"DayBelt", "isFloor", "(I)Z"⟩ ⟨"DayBelt", "isFloor", "(I)Z"⟩ ∈ lw_good := gd_of (List.mem_append_left _ (List.mem_of_getElem? (i := 0) rfl)) rfl
theorem sv_1 : Cond.selects "DayBelt" ⟨"DayBelt", "isPerson", "(I)Z"⟩ ⟨"DayBelt", "isPerson", "(I)Z"⟩ ∈ lw_good := gd_of (List.mem_append_left _ (List.mem_of_getElem? (i := 1) rfl)) rfl
theorem sv_2 : Cond.selects "DayBelt" ⟨"DayBelt", "isCar", "(I)Z"⟩ ⟨"DayBelt", "isCar", "(I)Z"⟩ ∈ lw_good := gd_of (List.mem_append_left _ (List.mem_of_getElem? (i := 2) rfl)) rfl
theorem sv_3 : Cond.selects "DayBelt$BlockReader" ⟨"DayBelt$BlockReader", "readsHigh", "(LDayBelt$Tape;)Z"⟩ ⟨"DayBelt$BlockReader", "readsHigh", "(LDayBelt$Tape;)Z"⟩ ∈ lw_good := gd_of (List.mem_append_left _ (List.mem_of_getElem? (i := 3) rfl)) rfl
theorem sv_4 : Cond.selects "DayBelt$BlockReader" ⟨"DayBelt$BlockReader", "readsDays", "(LDayBelt$Tape;)Z"⟩ ⟨"DayBelt$BlockReader", "readsDays", "(LDayBelt$Tape;)Z"⟩ ∈ lw_good := gd_of (List.mem_append_left _ (List.mem_of_getElem? (i := 4) rfl)) rfl
theorem sv_5 : Cond.selects "DayBelt$BlockReader" ⟨"DayBelt$BlockReader", "readsPeople", "(LDayBelt$Tape;)Z"⟩ ⟨"DayBelt$BlockReader", "readsPeople", "(LDayBelt$Tape;)Z"⟩ ∈ lw_good := gd_of (List.mem_append_left _ (List.mem_of_getElem? (i := 5) rfl)) rfl
theorem sv_6 : Cond.selects "DayBelt$BlockReader" ⟨"DayBelt$BlockReader", "readsPerson", "(LDayBelt$Tape;)Z"⟩ ⟨"DayBelt$BlockReader", "readsPerson", "(LDayBelt$Tape;)Z"⟩ ∈ lw_good := gd_of (List.mem_append_left _ (List.mem_of_getElem? (i := 6) rfl)) rfl
theorem sv_7 : Cond.selects "DayBelt$Scene" ⟨"DayBelt$Scene", "isTurnedOut", "(LDayBelt$Person;LDayBelt$Block;)Z"⟩ ⟨"DayBelt$Scene", "isTurnedOut", "(LDayBelt$Person;LDayBelt$Block;)Z"⟩ ∈ lw_good := gd_of (List.mem_append_left _ (List.mem_of_getElem? (i := 7) rfl)) rfl
theorem sv_8 : Cond.selects "DayBelt$Walker" ⟨"DayBelt$Walker", "rewind", "()V"⟩ ⟨"DayBelt$Walker", "rewind", "()V"⟩ ∈ lw_good := gd_of (List.mem_append_left _ (List.mem_of_getElem? (i := 8) rfl)) rfl
theorem sv_9 : Cond.selects "DayBelt$Walker" ⟨"DayBelt$Walker", "turnOut", "(I)V"⟩ ⟨"DayBelt$Walker", "turnOut", "(I)V"⟩ ∈ lw_good := gd_of (List.mem_append_left _ (List.mem_of_getElem? (i := 9) rfl)) rfl
theorem sv_10 : Cond.selects "DayBelt$Walker" ⟨"DayBelt$Walker", "reaches", "(JII)Z"⟩ ⟨"DayBelt$Walker", "reaches", "(JII)Z"⟩ ∈ lw_good := gd_of (List.mem_append_left _ (List.mem_of_getElem? (i := 10) rfl)) rfl
theorem sv_11 : Cond.selects "DayBelt$Walker" ⟨"DayBelt$Walker", "hasCarOf", "(I)Z"⟩ ⟨"DayBelt$Walker", "hasCarOf", "(I)Z"⟩ ∈ lw_good := gd_of (List.mem_append_left _ (List.mem_of_getElem? (i := 11) rfl)) rfl
theorem sv_12 : Cond.selects "DayBelt$Walker" ⟨"DayBelt$Walker", "changeDays", "(II)V"⟩ ⟨"DayBelt$Walker", "changeDays", "(II)V"⟩ ∈ lw_good := gd_of (List.mem_append_left _ (List.mem_of_getElem? (i := 12) rfl)) rfl
theorem sv_13 : Cond.selects "DayBeltModel" ⟨"DayBeltModel", "isFloor", "(I)Z"⟩ ⟨"DayBeltModel", "isFloor", "(I)Z"⟩ ∈ lw_good := gd_of (List.mem_append_left _ (List.mem_of_getElem? (i := 13) rfl)) rfl
theorem sv_14 : Cond.selects "DayBeltModel" ⟨"DayBeltModel", "comesIn", "(IIII)V"⟩ ⟨"DayBeltModel", "comesIn", "(IIII)V"⟩ ∈ lw_good := gd_of (List.mem_append_left _ (List.mem_of_getElem? (i := 14) rfl)) rfl
theorem sv_15 : Cond.selects "DayBeltModel" ⟨"DayBeltModel", "isPerson", "(I)Z"⟩ ⟨"DayBeltModel", "isPerson", "(I)Z"⟩ ∈ lw_good := gd_of (List.mem_append_left _ (List.mem_of_getElem? (i := 15) rfl)) rfl
theorem sv_16 : Cond.selects "DayBeltModel" ⟨"DayBeltModel", "told", "(II)I"⟩ ⟨"DayBeltModel", "told", "(II)I"⟩ ∈ lw_good := gd_of (List.mem_append_left _ (List.mem_of_getElem? (i := 16) rfl)) rfl
theorem sv_17 : Cond.selects "DayBeltModel" ⟨"DayBeltModel", "weighs", "(I)I"⟩ ⟨"DayBeltModel", "weighs", "(I)I"⟩ ∈ lw_good := gd_of (List.mem_append_left _ (List.mem_of_getElem? (i := 17) rfl)) rfl
theorem sv_18 : Cond.selects "DayBeltModel" ⟨"DayBeltModel", "placeOf", "(II)I"⟩ ⟨"DayBeltModel", "placeOf", "(II)I"⟩ ∈ lw_good := gd_of (List.mem_append_left _ (List.mem_of_getElem? (i := 18) rfl)) rfl
theorem sv_19 : Cond.selects "DayBeltModel" ⟨"DayBeltModel", "many", "()I"⟩ ⟨"DayBeltModel", "many", "()I"⟩ ∈ lw_good := gd_of (List.mem_append_left _ (List.mem_of_getElem? (i := 19) rfl)) rfl
theorem sv_20 : Cond.selects "DayBeltModel" ⟨"DayBeltModel", "floorOf", "(I)I"⟩ ⟨"DayBeltModel", "floorOf", "(I)I"⟩ ∈ lw_good := gd_of (List.mem_append_left _ (List.mem_of_getElem? (i := 20) rfl)) rfl
theorem sv_21 : Cond.selects "DayBeltModel" ⟨"DayBeltModel", "isCar", "(I)Z"⟩ ⟨"DayBeltModel", "isCar", "(I)Z"⟩ ∈ lw_good := gd_of (List.mem_append_left _ (List.mem_of_getElem? (i := 21) rfl)) rfl
theorem sv_22 : Cond.selects "DayBeltModel" ⟨"DayBeltModel", "loadOf", "(I)I"⟩ ⟨"DayBeltModel", "loadOf", "(I)I"⟩ ∈ lw_good := gd_of (List.mem_append_left _ (List.mem_of_getElem? (i := 22) rfl)) rfl
theorem sv_23 : Cond.selects "DayBeltModel" ⟨"DayBeltModel", "whoIn", "(I)I"⟩ ⟨"DayBeltModel", "whoIn", "(I)I"⟩ ∈ lw_good := gd_of (List.mem_append_left _ (List.mem_of_getElem? (i := 23) rfl)) rfl
theorem sv_24 : Cond.selects "DayBeltModel" ⟨"DayBeltModel", "riders", "()I"⟩ ⟨"DayBeltModel", "riders", "()I"⟩ ∈ lw_good := gd_of (List.mem_append_left _ (List.mem_of_getElem? (i := 24) rfl)) rfl
theorem sv_25 : Cond.selects "DayBeltModel" ⟨"DayBeltModel", "digit", "(II)I"⟩ ⟨"DayBeltModel", "digit", "(II)I"⟩ ∈ lw_good := gd_of (List.mem_append_left _ (List.mem_of_getElem? (i := 25) rfl)) rfl
theorem sv_26 : Cond.selects "DayBeltModel" ⟨"DayBeltModel", "here", "()I"⟩ ⟨"DayBeltModel", "here", "()I"⟩ ∈ lw_good := gd_of (List.mem_append_left _ (List.mem_of_getElem? (i := 26) rfl)) rfl
theorem sv_27 : Cond.selects "DayBeltModel" ⟨"DayBeltModel", "must", "(Z)V"⟩ ⟨"DayBeltModel", "must", "(Z)V"⟩ ∈ lw_good := gd_of (List.mem_append_left _ (List.mem_of_getElem? (i := 27) rfl)) rfl
theorem sv_28 : Cond.selects "DayBeltModel" ⟨"DayBeltModel", "takes", "(I)V"⟩ ⟨"DayBeltModel", "takes", "(I)V"⟩ ∈ lw_good := gd_of (List.mem_append_left _ (List.mem_of_getElem? (i := 28) rfl)) rfl
theorem sv_29 : Cond.selects "DayBeltModel" ⟨"DayBeltModel", "readPerson", "(II)V"⟩ ⟨"DayBeltModel", "readPerson", "(II)V"⟩ ∈ lw_good := gd_of (List.mem_append_left _ (List.mem_of_getElem? (i := 29) rfl)) rfl
theorem sv_30 : Cond.selects "DayBeltModel" ⟨"DayBeltModel", "placeAt", "(II)I"⟩ ⟨"DayBeltModel", "placeAt", "(II)I"⟩ ∈ lw_good := gd_of (List.mem_append_left _ (List.mem_of_getElem? (i := 30) rfl)) rfl
theorem sv_31 : Cond.selects "DayBeltModel" ⟨"DayBeltModel", "carIn", "(II)I"⟩ ⟨"DayBeltModel", "carIn", "(II)I"⟩ ∈ lw_good := gd_of (List.mem_append_left _ (List.mem_of_getElem? (i := 31) rfl)) rfl
theorem sv_32 : Cond.selects "DayBeltModel" ⟨"DayBeltModel", "notes", "()V"⟩ ⟨"DayBeltModel", "notes", "()V"⟩ ∈ lw_good := gd_of (List.mem_append_left _ (List.mem_of_getElem? (i := 32) rfl)) rfl
theorem sv_33 : Cond.selects "DayBeltModel" ⟨"DayBeltModel", "getsOut", "(I)V"⟩ ⟨"DayBeltModel", "getsOut", "(I)V"⟩ ∈ lw_good := gd_of (List.mem_append_left _ (List.mem_of_getElem? (i := 33) rfl)) rfl
theorem sv_34 : Cond.selects "DayBeltModel" ⟨"DayBeltModel", "goesOn", "()V"⟩ ⟨"DayBeltModel", "goesOn", "()V"⟩ ∈ lw_good := gd_of (List.mem_append_left _ (List.mem_of_getElem? (i := 34) rfl)) rfl
theorem sv_35 : Cond.selects "DayBeltModel" ⟨"DayBeltModel", "isTurnedOut", "(II)Z"⟩ ⟨"DayBeltModel", "isTurnedOut", "(II)Z"⟩ ∈ lw_good := gd_of (List.mem_append_left _ (List.mem_of_getElem? (i := 35) rfl)) rfl
theorem sv_36 : Cond.selects "DayBeltModel" ⟨"DayBeltModel", "soonestBy", "(III)I"⟩ ⟨"DayBeltModel", "soonestBy", "(III)I"⟩ ∈ lw_good := gd_of (List.mem_append_left _ (List.mem_of_getElem? (i := 36) rfl)) rfl
theorem sv_37 : Cond.selects "DayBeltModel" ⟨"DayBeltModel", "state", "(I)J"⟩ ⟨"DayBeltModel", "state", "(I)J"⟩ ∈ lw_good := gd_of (List.mem_append_left _ (List.mem_of_getElem? (i := 37) rfl)) rfl
theorem sv_38 : Cond.selects "DayBeltModel" ⟨"DayBeltModel", "moves", "(JII)J"⟩ ⟨"DayBeltModel", "moves", "(JII)J"⟩ ∈ lw_good := gd_of (List.mem_append_left _ (List.mem_of_getElem? (i := 38) rfl)) rfl
theorem sv_39 : Cond.selects "DayBeltModel" ⟨"DayBeltModel", "allMoves", "(JI)J"⟩ ⟨"DayBeltModel", "allMoves", "(JI)J"⟩ ∈ lw_good := gd_of (List.mem_append_left _ (List.mem_of_getElem? (i := 39) rfl)) rfl
theorem sv_40 : Cond.selects "DayBeltModel" ⟨"DayBeltModel", "turned", "(JII)J"⟩ ⟨"DayBeltModel", "turned", "(JII)J"⟩ ∈ lw_good := gd_of (List.mem_append_left _ (List.mem_of_getElem? (i := 40) rfl)) rfl
theorem sv_41 : Cond.selects "DayBeltModel" ⟨"DayBeltModel", "swaps", "(II)V"⟩ ⟨"DayBeltModel", "swaps", "(II)V"⟩ ∈ lw_good := gd_of (List.mem_append_left _ (List.mem_of_getElem? (i := 41) rfl)) rfl
theorem sv_42 : Cond.selects "DayBeltModel" ⟨"DayBeltModel", "why", "(IIII)I"⟩ ⟨"DayBeltModel", "why", "(IIII)I"⟩ ∈ lw_good := gd_of (List.mem_append_left _ (List.mem_of_getElem? (i := 42) rfl)) rfl
theorem lay_0_0 : u_lay RX0 TX0 0 ∈ lw_good := gw_169
theorem lay_0_1 : u_lay RX0 TX0 1 ∈ lw_good := gw_171
theorem lay_0_2 : u_lay RX0 TX0 2 ∈ lw_good := gw_173
theorem cf_0 : CF 0 RX0 TX0 tyX0 := by
  refine ⟨by decide, rfl, fun w hw => ?_, tyX0_ok, nmX0⟩
  obtain ⟨k, hk, rfl⟩ := List.mem_map.mp hw
  have hk2 : k < 3 := List.mem_range.mp hk
  rcases (show k = 0 ∨ k = 1 ∨ k = 2 by omega) with rfl | rfl | rfl
  · exact lay_0_0
  · exact lay_0_1
  · exact lay_0_2
theorem lay_1_0 : u_lay RX1 TX1 0 ∈ lw_good := gw_59
theorem lay_1_1 : u_lay RX1 TX1 1 ∈ lw_good := gw_61
theorem lay_1_2 : u_lay RX1 TX1 2 ∈ lw_good := gw_63
theorem lay_1_3 : u_lay RX1 TX1 3 ∈ lw_good := gw_65
theorem cf_1 : CF 1 RX1 TX1 tyX1 := by
  refine ⟨by decide, rfl, fun w hw => ?_, tyX1_ok, nmX1⟩
  obtain ⟨k, hk, rfl⟩ := List.mem_map.mp hw
  have hk2 : k < 4 := List.mem_range.mp hk
  rcases (show k = 0 ∨ k = 1 ∨ k = 2 ∨ k = 3 by omega) with rfl | rfl | rfl | rfl
  · exact lay_1_0
  · exact lay_1_1
  · exact lay_1_2
  · exact lay_1_3
theorem lay_2_0 : u_lay RX2 TX2 0 ∈ lw_good := gw_208
theorem lay_2_1 : u_lay RX2 TX2 1 ∈ lw_good := gw_210
theorem cf_2 : CF 2 RX2 TX2 tyX2 := by
  refine ⟨by decide, rfl, fun w hw => ?_, tyX2_ok, nmX2⟩
  obtain ⟨k, hk, rfl⟩ := List.mem_map.mp hw
  have hk2 : k < 2 := List.mem_range.mp hk
  rcases (show k = 0 ∨ k = 1 by omega) with rfl | rfl
  · exact lay_2_0
  · exact lay_2_1
theorem lay_3_0 : u_lay RX3 TX3 0 ∈ lw_good := gw_154
theorem lay_3_1 : u_lay RX3 TX3 1 ∈ lw_good := gw_156
theorem lay_3_2 : u_lay RX3 TX3 2 ∈ lw_good := gw_158
theorem cf_3 : CF 3 RX3 TX3 tyX3 := by
  refine ⟨by decide, rfl, fun w hw => ?_, tyX3_ok, nmX3⟩
  obtain ⟨k, hk, rfl⟩ := List.mem_map.mp hw
  have hk2 : k < 3 := List.mem_range.mp hk
  rcases (show k = 0 ∨ k = 1 ∨ k = 2 by omega) with rfl | rfl | rfl
  · exact lay_3_0
  · exact lay_3_1
  · exact lay_3_2
theorem lay_4_0 : u_lay RX5 TX5 0 ∈ lw_good := gw_105
theorem lay_4_1 : u_lay RX5 TX5 1 ∈ lw_good := gw_107
theorem lay_4_2 : u_lay RX5 TX5 2 ∈ lw_good := gw_109
theorem lay_4_3 : u_lay RX5 TX5 3 ∈ lw_good := gw_111
theorem lay_4_4 : u_lay RX5 TX5 4 ∈ lw_good := gw_113
theorem lay_4_5 : u_lay RX5 TX5 5 ∈ lw_good := gw_115
theorem cf_4 : CF 4 RX5 TX5 tyX5 := by
  refine ⟨by decide, rfl, fun w hw => ?_, tyX5_ok, nmX5⟩
  obtain ⟨k, hk, rfl⟩ := List.mem_map.mp hw
  have hk2 : k < 6 := List.mem_range.mp hk
  rcases (show k = 0 ∨ k = 1 ∨ k = 2 ∨ k = 3 ∨ k = 4 ∨ k = 5 by omega) with rfl | rfl | rfl | rfl | rfl | rfl
  · exact lay_4_0
  · exact lay_4_1
  · exact lay_4_2
  · exact lay_4_3
  · exact lay_4_4
  · exact lay_4_5
theorem lay_5_0 : u_lay RX6 TX6 0 ∈ lw_good := gw_132
theorem lay_5_1 : u_lay RX6 TX6 1 ∈ lw_good := gw_134
theorem lay_5_2 : u_lay RX6 TX6 2 ∈ lw_good := gw_136
theorem lay_5_3 : u_lay RX6 TX6 3 ∈ lw_good := gw_138
theorem cf_5 : CF 5 RX6 TX6 tyX6 := by
  refine ⟨by decide, rfl, fun w hw => ?_, tyX6_ok, nmX6⟩
  obtain ⟨k, hk, rfl⟩ := List.mem_map.mp hw
  have hk2 : k < 4 := List.mem_range.mp hk
  rcases (show k = 0 ∨ k = 1 ∨ k = 2 ∨ k = 3 by omega) with rfl | rfl | rfl | rfl
  · exact lay_5_0
  · exact lay_5_1
  · exact lay_5_2
  · exact lay_5_3
theorem lay_6_0 : u_lay RX7 TX7 0 ∈ lw_good := gw_272
theorem lay_6_1 : u_lay RX7 TX7 1 ∈ lw_good := gw_274
theorem lay_6_2 : u_lay RX7 TX7 2 ∈ lw_good := gw_276
theorem cf_6 : CF 6 RX7 TX7 tyX7 := by
  refine ⟨by decide, rfl, fun w hw => ?_, tyX7_ok, nmX7⟩
  obtain ⟨k, hk, rfl⟩ := List.mem_map.mp hw
  have hk2 : k < 3 := List.mem_range.mp hk
  rcases (show k = 0 ∨ k = 1 ∨ k = 2 by omega) with rfl | rfl | rfl
  · exact lay_6_0
  · exact lay_6_1
  · exact lay_6_2
theorem lay_7_0 : u_lay RX8 TX8 0 ∈ lw_good := gw_187
theorem lay_7_1 : u_lay RX8 TX8 1 ∈ lw_good := gw_189
theorem lay_7_2 : u_lay RX8 TX8 2 ∈ lw_good := gw_191
theorem cf_7 : CF 7 RX8 TX8 tyX8 := by
  refine ⟨by decide, rfl, fun w hw => ?_, tyX8_ok, nmX8⟩
  obtain ⟨k, hk, rfl⟩ := List.mem_map.mp hw
  have hk2 : k < 3 := List.mem_range.mp hk
  rcases (show k = 0 ∨ k = 1 ∨ k = 2 by omega) with rfl | rfl | rfl
  · exact lay_7_0
  · exact lay_7_1
  · exact lay_7_2
theorem lay_8_0 : u_lay RX9 TX9 0 ∈ lw_good := gw_230
theorem lay_8_1 : u_lay RX9 TX9 1 ∈ lw_good := gw_232
theorem lay_8_2 : u_lay RX9 TX9 2 ∈ lw_good := gw_234
theorem lay_8_3 : u_lay RX9 TX9 3 ∈ lw_good := gw_236
theorem lay_8_4 : u_lay RX9 TX9 4 ∈ lw_good := gw_238
theorem lay_8_5 : u_lay RX9 TX9 5 ∈ lw_good := gw_240
theorem cf_8 : CF 8 RX9 TX9 tyX9 := by
  refine ⟨by decide, rfl, fun w hw => ?_, tyX9_ok, nmX9⟩
  obtain ⟨k, hk, rfl⟩ := List.mem_map.mp hw
  have hk2 : k < 6 := List.mem_range.mp hk
  rcases (show k = 0 ∨ k = 1 ∨ k = 2 ∨ k = 3 ∨ k = 4 ∨ k = 5 by omega) with rfl | rfl | rfl | rfl | rfl | rfl
  · exact lay_8_0
  · exact lay_8_1
  · exact lay_8_2
  · exact lay_8_3
  · exact lay_8_4
  · exact lay_8_5
theorem lay_9_0 : u_lay RX10 TX10 0 ∈ lw_good := gw_252
theorem lay_9_1 : u_lay RX10 TX10 1 ∈ lw_good := gw_254
theorem lay_9_2 : u_lay RX10 TX10 2 ∈ lw_good := gw_256
theorem cf_9 : CF 9 RX10 TX10 tyX10 := by
  refine ⟨by decide, rfl, fun w hw => ?_, tyX10_ok, nmX10⟩
  obtain ⟨k, hk, rfl⟩ := List.mem_map.mp hw
  have hk2 : k < 3 := List.mem_range.mp hk
  rcases (show k = 0 ∨ k = 1 ∨ k = 2 by omega) with rfl | rfl | rfl
  · exact lay_9_0
  · exact lay_9_1
  · exact lay_9_2
theorem lay_10_0 : u_lay RX11 TX11 0 ∈ lw_good := gw_290
theorem lay_10_1 : u_lay RX11 TX11 1 ∈ lw_good := gw_292
theorem lay_10_2 : u_lay RX11 TX11 2 ∈ lw_good := gw_294
theorem lay_10_3 : u_lay RX11 TX11 3 ∈ lw_good := gw_296
theorem lay_10_4 : u_lay RX11 TX11 4 ∈ lw_good := gw_298
theorem lay_10_5 : u_lay RX11 TX11 5 ∈ lw_good := gw_300
theorem lay_10_6 : u_lay RX11 TX11 6 ∈ lw_good := gw_302
theorem lay_10_7 : u_lay RX11 TX11 7 ∈ lw_good := gw_304
theorem lay_10_8 : u_lay RX11 TX11 8 ∈ lw_good := gw_306
theorem lay_10_9 : u_lay RX11 TX11 9 ∈ lw_good := gw_308
theorem cf_10 : CF 10 RX11 TX11 tyX11 := by
  refine ⟨by decide, rfl, fun w hw => ?_, tyX11_ok, nmX11⟩
  obtain ⟨k, hk, rfl⟩ := List.mem_map.mp hw
  have hk2 : k < 10 := List.mem_range.mp hk
  rcases (show k = 0 ∨ k = 1 ∨ k = 2 ∨ k = 3 ∨ k = 4 ∨ k = 5 ∨ k = 6 ∨ k = 7 ∨ k = 8 ∨ k = 9 by omega) with rfl | rfl | rfl | rfl | rfl | rfl | rfl | rfl | rfl | rfl
  · exact lay_10_0
  · exact lay_10_1
  · exact lay_10_2
  · exact lay_10_3
  · exact lay_10_4
  · exact lay_10_5
  · exact lay_10_6
  · exact lay_10_7
  · exact lay_10_8
  · exact lay_10_9
theorem lay_11_0 : u_lay RX12 TX12 0 ∈ lw_good := gw_917
theorem lay_11_1 : u_lay RX12 TX12 1 ∈ lw_good := gw_919
theorem lay_11_2 : u_lay RX12 TX12 2 ∈ lw_good := gw_921
theorem lay_11_3 : u_lay RX12 TX12 3 ∈ lw_good := gw_923
theorem lay_11_4 : u_lay RX12 TX12 4 ∈ lw_good := gw_925
theorem lay_11_5 : u_lay RX12 TX12 5 ∈ lw_good := gw_927
theorem lay_11_6 : u_lay RX12 TX12 6 ∈ lw_good := gw_929
theorem lay_11_7 : u_lay RX12 TX12 7 ∈ lw_good := gw_931
theorem lay_11_8 : u_lay RX12 TX12 8 ∈ lw_good := gw_933
theorem lay_11_9 : u_lay RX12 TX12 9 ∈ lw_good := gw_935
theorem lay_11_10 : u_lay RX12 TX12 10 ∈ lw_good := gw_937
theorem lay_11_11 : u_lay RX12 TX12 11 ∈ lw_good := gw_939
theorem lay_11_12 : u_lay RX12 TX12 12 ∈ lw_good := gw_941
theorem lay_11_13 : u_lay RX12 TX12 13 ∈ lw_good := gw_943
theorem lay_11_14 : u_lay RX12 TX12 14 ∈ lw_good := gw_945
theorem lay_11_15 : u_lay RX12 TX12 15 ∈ lw_good := gw_947
theorem lay_11_16 : u_lay RX12 TX12 16 ∈ lw_good := gw_949
theorem cf_11 : CF 11 RX12 TX12 tyX12 := by
  refine ⟨by decide, rfl, fun w hw => ?_, tyX12_ok, nmX12⟩
  obtain ⟨k, hk, rfl⟩ := List.mem_map.mp hw
  have hk2 : k < 17 := List.mem_range.mp hk
  rcases (show k = 0 ∨ k = 1 ∨ k = 2 ∨ k = 3 ∨ k = 4 ∨ k = 5 ∨ k = 6 ∨ k = 7 ∨ k = 8 ∨ k = 9 ∨ k = 10 ∨ k = 11 ∨ k = 12 ∨ k = 13 ∨ k = 14 ∨ k = 15 ∨ k = 16 by omega) with rfl | rfl | rfl | rfl | rfl | rfl | rfl | rfl | rfl | rfl | rfl | rfl | rfl | rfl | rfl | rfl | rfl
  · exact lay_11_0
  · exact lay_11_1
  · exact lay_11_2
  · exact lay_11_3
  · exact lay_11_4
  · exact lay_11_5
  · exact lay_11_6
  · exact lay_11_7
  · exact lay_11_8
  · exact lay_11_9
  · exact lay_11_10
  · exact lay_11_11
  · exact lay_11_12
  · exact lay_11_13
  · exact lay_11_14
  · exact lay_11_15
  · exact lay_11_16
theorem cw_L_9 : CIw RL 9 yX11_init cX11_init 2 0 := ⟨⟨gw_27, gw_1, ⟨by decide, by decide⟩, by decide +kernel, by decide⟩, gw_25, gw_26, rfl⟩
theorem cw_X0_9 : CIw RX0 9 yX1_init cX1_init 2 0 := ⟨⟨gw_41, gw_3, ⟨by decide, by decide⟩, by decide +kernel, by decide⟩, gw_39, gw_40, rfl⟩
theorem cw_X0_18 : CIw RX0 18 yX6_init cX6_init 2 0 := ⟨⟨gw_73, gw_4, ⟨by decide, by decide⟩, by decide +kernel, by decide⟩, gw_71, gw_72, rfl⟩
theorem cw_X0_25 : CIw RX0 25 yX3_init cX3_init 2 0 := ⟨⟨gw_145, gw_8, ⟨by decide, by decide⟩, by decide +kernel, by decide⟩, gw_143, gw_144, rfl⟩
theorem cw_X3_17 : CIw RX3 17 yX6_init cX6_init 2 0 := ⟨⟨gw_73, gw_4, ⟨by decide, by decide⟩, by decide +kernel, by decide⟩, gw_149, gw_72, rfl⟩
theorem cw_X2_11 : CIw RX2 11 yX1_init cX1_init 2 0 := ⟨⟨gw_41, gw_3, ⟨by decide, by decide⟩, by decide +kernel, by decide⟩, gw_201, gw_40, rfl⟩
theorem cw_X2_20 : CIw RX2 20 yX6_init cX6_init 2 0 := ⟨⟨gw_73, gw_4, ⟨by decide, by decide⟩, by decide +kernel, by decide⟩, gw_203, gw_72, rfl⟩
theorem cw_X11_35 : CIw RX11 35 yX6_init cX6_init 2 0 := ⟨⟨gw_73, gw_4, ⟨by decide, by decide⟩, by decide +kernel, by decide⟩, gw_214, gw_72, rfl⟩
theorem cw_X9_11 : CIw RX9 11 yX1_init cX1_init 2 0 := ⟨⟨gw_41, gw_3, ⟨by decide, by decide⟩, by decide +kernel, by decide⟩, gw_222, gw_40, rfl⟩
theorem cw_L_13 : CVw RL 13 yX11_person cX11_person 5 (some .int) 4 := ⟨⟨gw_314, gw_1, ⟨by decide, by decide⟩, by decide +kernel, by decide⟩, gw_311, gw_312, gw_313⟩
theorem cw_X11_68 : CSw RX11 68 yX11_within cX11_within 3 (some .boolean) 3 := ⟨⟨gw_319, gw_1, ⟨by decide, by decide⟩, by decide +kernel, by decide⟩, gw_317, gw_318⟩
theorem cw_X11_72 : CVw RX11 72 yX11_isFloor cX11_isFloor 2 (some .boolean) 1 := ⟨⟨gw_323, gw_1, ⟨by decide, by decide⟩, by decide +kernel, by decide⟩, gw_320, gw_322, sv_0⟩
theorem cw_X11_76 : CSw RX11 76 yX11_isDay cX11_isDay 1 (some .boolean) 1 := ⟨⟨gw_326, gw_1, ⟨by decide, by decide⟩, by decide +kernel, by decide⟩, gw_324, gw_325⟩
theorem cw_X11_86 : CVw RX11 86 yX6_add cX6_add 5 none 4 := ⟨⟨gw_330, gw_4, ⟨by decide, by decide⟩, by decide +kernel, by decide⟩, gw_327, gw_328, gw_329⟩
theorem cw_X6_36 : CVw RX6 36 yX5_begin cX5_begin 5 none 4 := ⟨⟨gw_334, gw_5, ⟨by decide, by decide⟩, by decide +kernel, by decide⟩, gw_331, gw_332, gw_333⟩
theorem cw_X11_94 : CVw RX11 94 yX3_clear cX3_clear 1 none 0 := ⟨⟨gw_338, gw_8, ⟨by decide, by decide⟩, by decide +kernel, by decide⟩, gw_335, gw_336, gw_337⟩
theorem cw_L_18 : CVw RL 18 yX11_of cX11_of 4 (some .int) 2 := ⟨⟨gw_342, gw_1, ⟨by decide, by decide⟩, by decide +kernel, by decide⟩, gw_339, gw_340, gw_341⟩
theorem cw_X11_99 : CVw RX11 99 yX11_isPerson cX11_isPerson 2 (some .boolean) 1 := ⟨⟨gw_346, gw_1, ⟨by decide, by decide⟩, by decide +kernel, by decide⟩, gw_343, gw_345, sv_1⟩
theorem cw_X11_117 : CVw RX11 117 yX5_weighs cX5_weighs 1 (some .int) 0 := ⟨⟨gw_350, gw_5, ⟨by decide, by decide⟩, by decide +kernel, by decide⟩, gw_347, gw_348, gw_349⟩
theorem cw_X11_121 : CVw RX11 121 yX0_floorOf cX0_floorOf 2 (some .int) 1 := ⟨⟨gw_354, gw_2, ⟨by decide, by decide⟩, by decide +kernel, by decide⟩, gw_351, gw_352, gw_353⟩
theorem cw_X0_60 : CVw RX0 60 yX5_rides cX5_rides 1 (some .boolean) 0 := ⟨⟨gw_358, gw_5, ⟨by decide, by decide⟩, by decide +kernel, by decide⟩, gw_355, gw_356, gw_357⟩
theorem cw_X0_69 : CVw RX0 69 yX1_placeOf cX1_placeOf 3 (some .int) 2 := ⟨⟨gw_362, gw_3, ⟨by decide, by decide⟩, by decide +kernel, by decide⟩, gw_359, gw_360, gw_361⟩
theorem cw_X1_35 : CVw RX1 35 yX1_cars cX1_cars 1 (some .int) 0 := ⟨⟨gw_366, gw_3, ⟨by decide, by decide⟩, by decide +kernel, by decide⟩, gw_363, gw_364, gw_365⟩
theorem cw_X11_345 : CSw RX11 345 yJ9_floorMod_7cf53 cJ9_floorMod_7cf53 3 (some .int) 2 := ⟨⟨gw_372, gw_15, ⟨by decide, by decide⟩, by decide +kernel, by decide⟩, gw_370, gw_371⟩
theorem cw_X0_72 : CVw RX0 72 yX1_floorAt cX1_floorAt 2 (some .int) 1 := ⟨⟨gw_376, gw_3, ⟨by decide, by decide⟩, by decide +kernel, by decide⟩, gw_373, gw_374, gw_375⟩
theorem cw_X11_125 : CVw RX11 125 yX5_rides cX5_rides 1 (some .boolean) 0 := ⟨⟨gw_358, gw_5, ⟨by decide, by decide⟩, by decide +kernel, by decide⟩, gw_377, gw_356, gw_357⟩
theorem cw_X11_132 : CVw RX11 132 yX0_dayOf cX0_dayOf 2 (some .int) 1 := ⟨⟨gw_381, gw_2, ⟨by decide, by decide⟩, by decide +kernel, by decide⟩, gw_378, gw_379, gw_380⟩
theorem cw_L_23 : CVw RL 23 yX11_car cX11_car 4 (some .int) 2 := ⟨⟨gw_385, gw_1, ⟨by decide, by decide⟩, by decide +kernel, by decide⟩, gw_382, gw_383, gw_384⟩
theorem cw_X11_138 : CVw RX11 138 yX11_isCar cX11_isCar 2 (some .boolean) 1 := ⟨⟨gw_389, gw_1, ⟨by decide, by decide⟩, by decide +kernel, by decide⟩, gw_386, gw_388, sv_2⟩
theorem cw_X11_275 : CVw RX11 275 yX1_cars cX1_cars 1 (some .int) 0 := ⟨⟨gw_366, gw_3, ⟨by decide, by decide⟩, by decide +kernel, by decide⟩, gw_390, gw_364, gw_365⟩
theorem cw_X11_148 : CVw RX11 148 yX1_placeOf cX1_placeOf 3 (some .int) 2 := ⟨⟨gw_362, gw_3, ⟨by decide, by decide⟩, by decide +kernel, by decide⟩, gw_391, gw_360, gw_361⟩
theorem cw_X11_158 : CVw RX11 158 yX1_floorAt cX1_floorAt 2 (some .int) 1 := ⟨⟨gw_376, gw_3, ⟨by decide, by decide⟩, by decide +kernel, by decide⟩, gw_392, gw_374, gw_375⟩
theorem cw_X11_162 : CVw RX11 162 yX1_sideAt cX1_sideAt 2 (some .int) 1 := ⟨⟨gw_396, gw_3, ⟨by decide, by decide⟩, by decide +kernel, by decide⟩, gw_393, gw_394, gw_395⟩
theorem cw_X11_165 : CVw RX11 165 yX6_load cX6_load 4 (some .int) 1 := ⟨⟨gw_400, gw_4, ⟨by decide, by decide⟩, by decide +kernel, by decide⟩, gw_397, gw_398, gw_399⟩
theorem cw_X6_89 : CVw RX6 89 yX5_weighs cX5_weighs 1 (some .int) 0 := ⟨⟨gw_350, gw_5, ⟨by decide, by decide⟩, by decide +kernel, by decide⟩, gw_401, gw_348, gw_349⟩
theorem cw_X11_168 : CVw RX11 168 yX6_riders cX6_riders 4 (some .int) 1 := ⟨⟨gw_405, gw_4, ⟨by decide, by decide⟩, by decide +kernel, by decide⟩, gw_402, gw_403, gw_404⟩
theorem cw_L_27 : CVw RL 27 yX11_day cX11_day 4 (some .int) 2 := ⟨⟨gw_409, gw_1, ⟨by decide, by decide⟩, by decide +kernel, by decide⟩, gw_406, gw_407, gw_408⟩
theorem cw_L_31 : CVw RL 31 yX11_rule cX11_rule 4 (some .int) 2 := ⟨⟨gw_413, gw_1, ⟨by decide, by decide⟩, by decide +kernel, by decide⟩, gw_410, gw_411, gw_412⟩
theorem cw_L_35 : CVw RL 35 yX11_type cX11_type 2 (some .int) 1 := ⟨⟨gw_417, gw_1, ⟨by decide, by decide⟩, by decide +kernel, by decide⟩, gw_414, gw_415, gw_416⟩
theorem cw_X11_177 : CVw RX11 177 yX8_add cX8_add 2 (some .boolean) 1 := ⟨⟨gw_421, gw_9, ⟨by decide, by decide⟩, by decide +kernel, by decide⟩, gw_418, gw_419, gw_420⟩
theorem cw_L_40 : CVw RL 40 yX11_block cX11_block 3 (some .int) 0 := ⟨⟨gw_425, gw_1, ⟨by decide, by decide⟩, by decide +kernel, by decide⟩, gw_422, gw_423, gw_424⟩
theorem cw_X11_182 : CVw RX11 182 yX2_reads cX2_reads 2 (some .boolean) 1 := ⟨⟨gw_429, gw_10, ⟨by decide, by decide⟩, by decide +kernel, by decide⟩, gw_426, gw_427, gw_428⟩
theorem cw_X2_25 : CVw RX2 25 yX2_readsHigh cX2_readsHigh 3 (some .boolean) 1 := ⟨⟨gw_433, gw_10, ⟨by decide, by decide⟩, by decide +kernel, by decide⟩, gw_430, gw_432, sv_3⟩
theorem cw_X2_41 : CVw RX2 41 yX8_takeDigit cX8_takeDigit 3 (some .int) 2 := ⟨⟨gw_437, gw_9, ⟨by decide, by decide⟩, by decide +kernel, by decide⟩, gw_434, gw_435, gw_436⟩
theorem cw_X8_22 : CVw RX8 22 yX8_ends cX8_ends 1 (some .boolean) 0 := ⟨⟨gw_441, gw_9, ⟨by decide, by decide⟩, by decide +kernel, by decide⟩, gw_438, gw_439, gw_440⟩
theorem cw_X2_29 : CVw RX2 29 yX8_takes cX8_takes 2 (some .boolean) 1 := ⟨⟨gw_446, gw_9, ⟨by decide, by decide⟩, by decide +kernel, by decide⟩, gw_443, gw_444, gw_445⟩
theorem cw_X2_35 : CVw RX2 35 yX2_readsDays cX2_readsDays 4 (some .boolean) 1 := ⟨⟨gw_450, gw_10, ⟨by decide, by decide⟩, by decide +kernel, by decide⟩, gw_447, gw_449, sv_4⟩
theorem cw_X2_49 : CVw RX2 49 yX1_cars cX1_cars 1 (some .int) 0 := ⟨⟨gw_366, gw_3, ⟨by decide, by decide⟩, by decide +kernel, by decide⟩, gw_451, gw_364, gw_365⟩
theorem cw_X2_38 : CVw RX2 38 yX2_readsPeople cX2_readsPeople 3 (some .boolean) 1 := ⟨⟨gw_455, gw_10, ⟨by decide, by decide⟩, by decide +kernel, by decide⟩, gw_452, gw_454, sv_5⟩
theorem cw_X2_60 : CVw RX2 60 yX2_readsPerson cX2_readsPerson 6 (some .boolean) 1 := ⟨⟨gw_459, gw_10, ⟨by decide, by decide⟩, by decide +kernel, by decide⟩, gw_456, gw_458, sv_6⟩
theorem cw_X2_67 : CVw RX2 67 yX8_takeKind cX8_takeKind 2 (some .int) 0 := ⟨⟨gw_463, gw_9, ⟨by decide, by decide⟩, by decide +kernel, by decide⟩, gw_460, gw_461, gw_462⟩
theorem cw_X8_32 : CVw RX8 32 yJ0_indexOf_0f7a4 cJ0_indexOf_0f7a4 2 (some .int) 1 := ⟨⟨gw_468, gw_16, ⟨by decide, by decide⟩, by decide +kernel, by decide⟩, gw_465, gw_466, gw_467⟩
theorem cw_J0_633 : CVw RJ0 633 yJ0_indexOf_7cf53 cJ0_indexOf_7cf53 3 (some .int) 2 := ⟨⟨gw_472, gw_16, ⟨by decide, by decide⟩, by decide +kernel, by decide⟩, gw_469, gw_470, gw_471⟩
theorem cw_J0_492 : CVw RJ0 492 yJ0_isLatin1_aae02 cJ0_isLatin1_aae02 1 (some .boolean) 0 := ⟨⟨gw_476, gw_16, ⟨by decide, by decide⟩, by decide +kernel, by decide⟩, gw_473, gw_474, gw_475⟩
theorem cw_J0_505 : CVw RJ0 505 yJ0_length_8abf5 cJ0_length_8abf5 1 (some .int) 0 := ⟨⟨gw_482, gw_16, ⟨by decide, by decide⟩, by decide +kernel, by decide⟩, gw_479, gw_480, gw_481⟩
theorem cw_J0_335 : CVw RJ0 335 yJ0_coder_7d493 cJ0_coder_7d493 1 (some .byte) 0 := ⟨⟨gw_486, gw_16, ⟨by decide, by decide⟩, by decide +kernel, by decide⟩, gw_483, gw_484, gw_485⟩
theorem cw_J0_637 : CSw RJ0 637 yJ1_indexOf_4cfef cJ1_indexOf_4cfef 4 (some .int) 4 := ⟨⟨gw_489, gw_17, ⟨by decide, by decide⟩, by decide +kernel, by decide⟩, gw_487, gw_488⟩
theorem cw_J1_88 : CSw RJ1 88 yJ1_canEncode_9a6ad cJ1_canEncode_9a6ad 1 (some .boolean) 1 := ⟨⟨gw_492, gw_17, ⟨by decide, by decide⟩, by decide +kernel, by decide⟩, gw_490, gw_491⟩
theorem cw_J1_92 : CSw RJ1 92 yJ9_max_7cf53 cJ9_max_7cf53 2 (some .int) 2 := ⟨⟨gw_495, gw_15, ⟨by decide, by decide⟩, by decide +kernel, by decide⟩, gw_493, gw_494⟩
theorem cw_J1_38 : CSw RJ1 38 yJ9_min_7cf53 cJ9_min_7cf53 2 (some .int) 2 := ⟨⟨gw_498, gw_15, ⟨by decide, by decide⟩, by decide +kernel, by decide⟩, gw_496, gw_497⟩
theorem cw_J1_95 : CSw RJ1 95 yJ1_indexOfChar_4cfef cJ1_indexOfChar_4cfef 6 (some .int) 4 := ⟨⟨gw_501, gw_17, ⟨by decide, by decide⟩, by decide +kernel, by decide⟩, gw_499, gw_500⟩
theorem cw_J0_640 : CSw RJ0 640 yJ2_indexOf_4cfef cJ2_indexOf_4cfef 4 (some .int) 4 := ⟨⟨gw_504, gw_18, ⟨by decide, by decide⟩, by decide +kernel, by decide⟩, gw_502, gw_503⟩
theorem cw_J2_224 : CSw RJ2 224 yJ9_max_7cf53 cJ9_max_7cf53 2 (some .int) 2 := ⟨⟨gw_495, gw_15, ⟨by decide, by decide⟩, by decide +kernel, by decide⟩, gw_505, gw_494⟩
theorem cw_J2_183 : CSw RJ2 183 yJ9_min_7cf53 cJ9_min_7cf53 2 (some .int) 2 := ⟨⟨gw_498, gw_15, ⟨by decide, by decide⟩, by decide +kernel, by decide⟩, gw_506, gw_497⟩
theorem cw_J2_228 : CSw RJ2 228 yJ2_indexOfChar_4cfef cJ2_indexOfChar_4cfef 4 (some .int) 4 := ⟨⟨gw_510, gw_18, ⟨by decide, by decide⟩, by decide +kernel, by decide⟩, gw_508, gw_509⟩
theorem cw_J2_96 : CSw RJ2 96 yJ2_checkBoundsBeginEnd_d044e cJ2_checkBoundsBeginEnd_d044e 3 none 3 := ⟨⟨gw_513, gw_18, ⟨by decide, by decide⟩, by decide +kernel, by decide⟩, gw_511, gw_512⟩
theorem cw_J2_48 : CSw RJ2 48 yJ2_length_9d52b cJ2_length_9d52b 1 (some .int) 1 := ⟨⟨gw_516, gw_18, ⟨by decide, by decide⟩, by decide +kernel, by decide⟩, gw_514, gw_515⟩
theorem cw_J2_241 : CSw RJ2 241 yJ0_checkBoundsBeginEnd_23922 cJ0_checkBoundsBeginEnd_23922 3 none 3 := ⟨⟨gw_519, gw_16, ⟨by decide, by decide⟩, by decide +kernel, by decide⟩, gw_517, gw_518⟩
theorem cw_J0_1062 : CSw RJ0 1062 yJ3_checkFromToIndex_8c36e cJ3_checkFromToIndex_8c36e 4 (some .int) 4 := ⟨⟨gw_524, gw_19, ⟨by decide, by decide⟩, by decide +kernel, by decide⟩, gw_522, gw_523⟩
theorem cw_J2_244 : CSw RJ2 244 yJ2_indexOfCharUnsafe_4cfef cJ2_indexOfCharUnsafe_4cfef 5 (some .int) 4 := ⟨⟨gw_527, gw_18, ⟨by decide, by decide⟩, by decide +kernel, by decide⟩, gw_525, gw_526⟩
theorem cw_J2_71 : CSw RJ2 71 yJ2_getChar_3b067 cJ2_getChar_3b067 2 (some .char) 2 := ⟨⟨gw_530, gw_18, ⟨by decide, by decide⟩, by decide +kernel, by decide⟩, gw_528, gw_529⟩
theorem cw_J2_232 : CSw RJ2 232 yJ2_indexOfSupplementary_4cfef cJ2_indexOfSupplementary_4cfef 7 (some .int) 4 := ⟨⟨gw_539, gw_18, ⟨by decide, by decide⟩, by decide +kernel, by decide⟩, gw_537, gw_538⟩
theorem cw_J2_164 : CSw RJ2 164 yJ11_isValidCodePoint_9a6ad cJ11_isValidCodePoint_9a6ad 2 (some .boolean) 1 := ⟨⟨gw_542, gw_20, ⟨by decide, by decide⟩, by decide +kernel, by decide⟩, gw_540, gw_541⟩
theorem cw_J2_157 : CSw RJ2 157 yJ11_highSurrogate_5068e cJ11_highSurrogate_5068e 1 (some .char) 1 := ⟨⟨gw_545, gw_20, ⟨by decide, by decide⟩, by decide +kernel, by decide⟩, gw_543, gw_544⟩
theorem cw_J2_161 : CSw RJ2 161 yJ11_lowSurrogate_5068e cJ11_lowSurrogate_5068e 1 (some .char) 1 := ⟨⟨gw_549, gw_20, ⟨by decide, by decide⟩, by decide +kernel, by decide⟩, gw_547, gw_548⟩
theorem cw_X2_74 : CVw RX2 74 yX6_add cX6_add 5 none 4 := ⟨⟨gw_330, gw_4, ⟨by decide, by decide⟩, by decide +kernel, by decide⟩, gw_553, gw_328, gw_329⟩
theorem cw_X2_63 : CVw RX2 63 yX8_ends cX8_ends 1 (some .boolean) 0 := ⟨⟨gw_441, gw_9, ⟨by decide, by decide⟩, by decide +kernel, by decide⟩, gw_554, gw_439, gw_440⟩
theorem cw_X11_189 : CVw RX11 189 yX8_clear cX8_clear 1 none 0 := ⟨⟨gw_558, gw_9, ⟨by decide, by decide⟩, by decide +kernel, by decide⟩, gw_555, gw_556, gw_557⟩
theorem cw_X11_192 : CVw RX11 192 yX0_begin cX0_begin 3 none 2 := ⟨⟨gw_562, gw_2, ⟨by decide, by decide⟩, by decide +kernel, by decide⟩, gw_559, gw_560, gw_561⟩
theorem cw_X0_40 : CVw RX0 40 yX1_takeBelt cX1_takeBelt 2 none 1 := ⟨⟨gw_566, gw_3, ⟨by decide, by decide⟩, by decide +kernel, by decide⟩, gw_563, gw_564, gw_565⟩
theorem cw_X0_43 : CVw RX0 43 yX6_takePeople cX6_takePeople 3 none 1 := ⟨⟨gw_573, gw_4, ⟨by decide, by decide⟩, by decide +kernel, by decide⟩, gw_570, gw_571, gw_572⟩
theorem cw_X6_32 : CVw RX6 32 yX5_take cX5_take 2 none 1 := ⟨⟨gw_577, gw_5, ⟨by decide, by decide⟩, by decide +kernel, by decide⟩, gw_574, gw_575, gw_576⟩
theorem cw_X0_50 : CVw RX0 50 yX3_clear cX3_clear 1 none 0 := ⟨⟨gw_338, gw_8, ⟨by decide, by decide⟩, by decide +kernel, by decide⟩, gw_578, gw_336, gw_337⟩
theorem cw_L_45 : CVw RL 45 yX11_count cX11_count 2 (some .int) 1 := ⟨⟨gw_583, gw_1, ⟨by decide, by decide⟩, by decide +kernel, by decide⟩, gw_580, gw_581, gw_582⟩
theorem cw_X11_202 : CVw RX11 202 yX6_allRiders cX6_allRiders 3 (some .int) 0 := ⟨⟨gw_587, gw_4, ⟨by decide, by decide⟩, by decide +kernel, by decide⟩, gw_584, gw_585, gw_586⟩
theorem cw_X6_57 : CVw RX6 57 yX5_rides cX5_rides 1 (some .boolean) 0 := ⟨⟨gw_358, gw_5, ⟨by decide, by decide⟩, by decide +kernel, by decide⟩, gw_588, gw_356, gw_357⟩
theorem cw_X11_205 : CVw RX11 205 yX6_allLunches cX6_allLunches 3 (some .int) 0 := ⟨⟨gw_592, gw_4, ⟨by decide, by decide⟩, by decide +kernel, by decide⟩, gw_589, gw_590, gw_591⟩
theorem cw_X11_208 : CVw RX11 208 yX6_fewestLunches cX6_fewestLunches 3 (some .int) 0 := ⟨⟨gw_596, gw_4, ⟨by decide, by decide⟩, by decide +kernel, by decide⟩, gw_593, gw_594, gw_595⟩
theorem cw_X6_93 : CSw RX6 93 yJ9_min_7cf53 cJ9_min_7cf53 2 (some .int) 2 := ⟨⟨gw_498, gw_15, ⟨by decide, by decide⟩, by decide +kernel, by decide⟩, gw_597, gw_497⟩
theorem cw_L_49 : CVw RL 49 yX11_in cX11_in 5 (some .int) 2 := ⟨⟨gw_601, gw_1, ⟨by decide, by decide⟩, by decide +kernel, by decide⟩, gw_598, gw_599, gw_600⟩
theorem cw_X11_211 : CSw RX11 211 yX11_isSide cX11_isSide 1 (some .boolean) 1 := ⟨⟨gw_604, gw_1, ⟨by decide, by decide⟩, by decide +kernel, by decide⟩, gw_602, gw_603⟩
theorem cw_X11_217 : CVw RX11 217 yX0_carBy cX0_carBy 4 (some .int) 3 := ⟨⟨gw_608, gw_2, ⟨by decide, by decide⟩, by decide +kernel, by decide⟩, gw_605, gw_606, gw_607⟩
theorem cw_X0_53 : CVw RX0 53 yX1_placeBy cX1_placeBy 3 (some .int) 2 := ⟨⟨gw_612, gw_3, ⟨by decide, by decide⟩, by decide +kernel, by decide⟩, gw_609, gw_610, gw_611⟩
theorem cw_X0_57 : CVw RX0 57 yX1_carIn cX1_carIn 3 (some .int) 2 := ⟨⟨gw_616, gw_3, ⟨by decide, by decide⟩, by decide +kernel, by decide⟩, gw_613, gw_614, gw_615⟩
theorem cw_X11_225 : CVw RX11 225 yX3_push cX3_push 2 none 1 := ⟨⟨gw_620, gw_8, ⟨by decide, by decide⟩, by decide +kernel, by decide⟩, gw_617, gw_618, gw_619⟩
theorem cw_X3_25 : CVw RX3 25 yX6_take cX6_take 2 none 1 := ⟨⟨gw_624, gw_4, ⟨by decide, by decide⟩, by decide +kernel, by decide⟩, gw_621, gw_622, gw_623⟩
theorem cw_X6_22 : CVw RX6 22 yX6_takePeople cX6_takePeople 3 none 1 := ⟨⟨gw_573, gw_4, ⟨by decide, by decide⟩, by decide +kernel, by decide⟩, gw_625, gw_571, gw_572⟩
theorem cw_X3_29 : CSw RX3 29 yJ9_min_7cf53 cJ9_min_7cf53 2 (some .int) 2 := ⟨⟨gw_498, gw_15, ⟨by decide, by decide⟩, by decide +kernel, by decide⟩, gw_626, gw_497⟩
theorem cw_L_53 : CVw RL 53 yX11_out cX11_out 3 (some .int) 1 := ⟨⟨gw_630, gw_1, ⟨by decide, by decide⟩, by decide +kernel, by decide⟩, gw_627, gw_628, gw_629⟩
theorem cw_X11_229 : CVw RX11 229 yX5_getOut cX5_getOut 3 none 2 := ⟨⟨gw_634, gw_5, ⟨by decide, by decide⟩, by decide +kernel, by decide⟩, gw_631, gw_632, gw_633⟩
theorem cw_X5_39 : CVw RX5 39 yX1_placeOf cX1_placeOf 3 (some .int) 2 := ⟨⟨gw_362, gw_3, ⟨by decide, by decide⟩, by decide +kernel, by decide⟩, gw_635, gw_360, gw_361⟩
theorem cw_X5_45 : CVw RX5 45 yX1_floorAt cX1_floorAt 2 (some .int) 1 := ⟨⟨gw_376, gw_3, ⟨by decide, by decide⟩, by decide +kernel, by decide⟩, gw_636, gw_374, gw_375⟩
theorem cw_L_57 : CVw RL 57 yX11_steps cX11_steps 3 (some .int) 1 := ⟨⟨gw_640, gw_1, ⟨by decide, by decide⟩, by decide +kernel, by decide⟩, gw_637, gw_638, gw_639⟩
theorem cw_X11_233 : CVw RX11 233 yX0_step cX0_step 1 none 0 := ⟨⟨gw_644, gw_2, ⟨by decide, by decide⟩, by decide +kernel, by decide⟩, gw_641, gw_642, gw_643⟩
theorem cw_X0_86 : CVw RX0 86 yX3_push cX3_push 2 none 1 := ⟨⟨gw_620, gw_8, ⟨by decide, by decide⟩, by decide +kernel, by decide⟩, gw_645, gw_618, gw_619⟩
theorem cw_X0_89 : CVw RX0 89 yX6_goOn cX6_goOn 5 none 1 := ⟨⟨gw_649, gw_4, ⟨by decide, by decide⟩, by decide +kernel, by decide⟩, gw_646, gw_647, gw_648⟩
theorem cw_X6_49 : CVw RX6 49 yX6_isTurnedOut cX6_isTurnedOut 4 (some .boolean) 2 := ⟨⟨gw_654, gw_4, ⟨by decide, by decide⟩, by decide +kernel, by decide⟩, gw_651, gw_653, sv_7⟩
theorem cw_X6_70 : CVw RX6 70 yX1_placeOf cX1_placeOf 3 (some .int) 2 := ⟨⟨gw_362, gw_3, ⟨by decide, by decide⟩, by decide +kernel, by decide⟩, gw_655, gw_360, gw_361⟩
theorem cw_X6_53 : CVw RX6 53 yX5_getOut cX5_getOut 3 none 2 := ⟨⟨gw_634, gw_5, ⟨by decide, by decide⟩, by decide +kernel, by decide⟩, gw_656, gw_632, gw_633⟩
theorem cw_L_61 : CVw RL 61 yX11_drift cX11_drift 4 (some .int) 1 := ⟨⟨gw_660, gw_1, ⟨by decide, by decide⟩, by decide +kernel, by decide⟩, gw_657, gw_658, gw_659⟩
theorem cw_X11_236 : CVw RX11 236 yX0_stepByDraw cX0_stepByDraw 1 (some .boolean) 0 := ⟨⟨gw_664, gw_2, ⟨by decide, by decide⟩, by decide +kernel, by decide⟩, gw_661, gw_662, gw_663⟩
theorem cw_X0_98 : CVw RX0 98 yX6_allRiders cX6_allRiders 3 (some .int) 0 := ⟨⟨gw_587, gw_4, ⟨by decide, by decide⟩, by decide +kernel, by decide⟩, gw_668, gw_585, gw_586⟩
theorem cw_X0_102 : CSw RX0 102 yJ6_bitCount_0f7a4 cJ6_bitCount_0f7a4 1 (some .int) 1 := ⟨⟨gw_671, gw_22, ⟨by decide, by decide⟩, by decide +kernel, by decide⟩, gw_669, gw_670⟩
theorem cw_L_65 : CVw RL 65 yX11_undo cX11_undo 1 (some .int) 0 := ⟨⟨gw_678, gw_1, ⟨by decide, by decide⟩, by decide +kernel, by decide⟩, gw_675, gw_676, gw_677⟩
theorem cw_X11_239 : CVw RX11 239 yX3_pop cX3_pop 2 none 1 := ⟨⟨gw_682, gw_8, ⟨by decide, by decide⟩, by decide +kernel, by decide⟩, gw_679, gw_680, gw_681⟩
theorem cw_L_69 : CVw RL 69 yX11_seed cX11_seed 3 (some .int) 1 := ⟨⟨gw_686, gw_1, ⟨by decide, by decide⟩, by decide +kernel, by decide⟩, gw_683, gw_684, gw_685⟩
theorem cw_L_73 : CVw RL 73 yX11_at cX11_at 4 (some .int) 3 := ⟨⟨gw_690, gw_1, ⟨by decide, by decide⟩, by decide +kernel, by decide⟩, gw_687, gw_688, gw_689⟩
theorem cw_L_78 : CVw RL 78 yX11_place cX11_place 3 (some .int) 2 := ⟨⟨gw_694, gw_1, ⟨by decide, by decide⟩, by decide +kernel, by decide⟩, gw_691, gw_692, gw_693⟩
theorem cw_L_82 : CVw RL 82 yX11_comes cX11_comes 5 (some .int) 3 := ⟨⟨gw_698, gw_1, ⟨by decide, by decide⟩, by decide +kernel, by decide⟩, gw_695, gw_696, gw_697⟩
theorem cw_L_86 : CVw RL 86 yX11_soonest cX11_soonest 8 (some .int) 4 := ⟨⟨gw_702, gw_1, ⟨by decide, by decide⟩, by decide +kernel, by decide⟩, gw_699, gw_700, gw_701⟩
theorem cw_X11_245 : CVw RX11 245 yX9_begin cX9_begin 3 none 2 := ⟨⟨gw_706, gw_11, ⟨by decide, by decide⟩, by decide +kernel, by decide⟩, gw_703, gw_704, gw_705⟩
theorem cw_X9_30 : CVw RX9 30 yX1_take cX1_take 2 none 1 := ⟨⟨gw_710, gw_3, ⟨by decide, by decide⟩, by decide +kernel, by decide⟩, gw_707, gw_708, gw_709⟩
theorem cw_X1_25 : CVw RX1 25 yX1_takeBelt cX1_takeBelt 2 none 1 := ⟨⟨gw_566, gw_3, ⟨by decide, by decide⟩, by decide +kernel, by decide⟩, gw_711, gw_564, gw_565⟩
theorem cw_X9_50 : CVw RX9 50 yX5_rides cX5_rides 1 (some .boolean) 0 := ⟨⟨gw_358, gw_5, ⟨by decide, by decide⟩, by decide +kernel, by decide⟩, gw_712, gw_356, gw_357⟩
theorem cw_X9_57 : CSw RX9 57 yX9_seat cX9_seat 1 (some .long) 1 := ⟨⟨gw_715, gw_11, ⟨by decide, by decide⟩, by decide +kernel, by decide⟩, gw_713, gw_714⟩
theorem cw_X9_67 : CSw RX9 67 yX9_spot cX9_spot 2 (some .long) 2 := ⟨⟨gw_718, gw_11, ⟨by decide, by decide⟩, by decide +kernel, by decide⟩, gw_716, gw_717⟩
theorem cw_X9_75 : CVw RX9 75 yX9_rewind cX9_rewind 1 none 0 := ⟨⟨gw_722, gw_11, ⟨by decide, by decide⟩, by decide +kernel, by decide⟩, gw_719, gw_721, sv_8⟩
theorem cw_X11_248 : CSw RX11 248 yX9_spot cX9_spot 2 (some .long) 2 := ⟨⟨gw_718, gw_11, ⟨by decide, by decide⟩, by decide +kernel, by decide⟩, gw_723, gw_717⟩
theorem cw_X11_252 : CVw RX11 252 yX9_fewestSteps cX9_fewestSteps 7 (some .int) 2 := ⟨⟨gw_727, gw_11, ⟨by decide, by decide⟩, by decide +kernel, by decide⟩, gw_724, gw_725, gw_726⟩
theorem cw_X9_123 : CVw RX9 123 yX9_moved cX9_moved 8 (some .long) 1 := ⟨⟨gw_731, gw_11, ⟨by decide, by decide⟩, by decide +kernel, by decide⟩, gw_728, gw_729, gw_730⟩
theorem cw_X9_82 : CSw RX9 82 yX9_has cX9_has 2 (some .boolean) 2 := ⟨⟨gw_734, gw_11, ⟨by decide, by decide⟩, by decide +kernel, by decide⟩, gw_732, gw_733⟩
theorem cw_X9_86 : CVw RX9 86 yX1_cars cX1_cars 1 (some .int) 0 := ⟨⟨gw_366, gw_3, ⟨by decide, by decide⟩, by decide +kernel, by decide⟩, gw_735, gw_364, gw_365⟩
theorem cw_X9_90 : CVw RX9 90 yX1_carIn cX1_carIn 3 (some .int) 2 := ⟨⟨gw_616, gw_3, ⟨by decide, by decide⟩, by decide +kernel, by decide⟩, gw_736, gw_614, gw_615⟩
theorem cw_X9_94 : CVw RX9 94 yX1_floorAt cX1_floorAt 2 (some .int) 1 := ⟨⟨gw_376, gw_3, ⟨by decide, by decide⟩, by decide +kernel, by decide⟩, gw_737, gw_374, gw_375⟩
theorem cw_X9_100 : CVw RX9 100 yX1_sideAt cX1_sideAt 2 (some .int) 1 := ⟨⟨gw_396, gw_3, ⟨by decide, by decide⟩, by decide +kernel, by decide⟩, gw_739, gw_394, gw_395⟩
theorem cw_X9_126 : CVw RX9 126 yX9_goOn cX9_goOn 3 none 1 := ⟨⟨gw_743, gw_11, ⟨by decide, by decide⟩, by decide +kernel, by decide⟩, gw_740, gw_741, gw_742⟩
theorem cw_X9_111 : CVw RX9 111 yX9_turnOut cX9_turnOut 3 none 1 := ⟨⟨gw_747, gw_11, ⟨by decide, by decide⟩, by decide +kernel, by decide⟩, gw_744, gw_746, sv_9⟩
theorem cw_X11_256 : CVw RX11 256 yX9_firstMove cX9_firstMove 5 (some .int) 2 := ⟨⟨gw_752, gw_11, ⟨by decide, by decide⟩, by decide +kernel, by decide⟩, gw_749, gw_750, gw_751⟩
theorem cw_X9_130 : CVw RX9 130 yX9_reaches cX9_reaches 8 (some .boolean) 3 := ⟨⟨gw_756, gw_11, ⟨by decide, by decide⟩, by decide +kernel, by decide⟩, gw_753, gw_755, sv_10⟩
theorem cw_L_90 : CVw RL 90 yX11_never cX11_never 7 (some .int) 2 := ⟨⟨gw_760, gw_1, ⟨by decide, by decide⟩, by decide +kernel, by decide⟩, gw_757, gw_758, gw_759⟩
theorem cw_X11_259 : CVw RX11 259 yX9_allReached cX9_allReached 2 (some .long) 0 := ⟨⟨gw_764, gw_11, ⟨by decide, by decide⟩, by decide +kernel, by decide⟩, gw_761, gw_762, gw_763⟩
theorem cw_L_94 : CVw RL 94 yX11_meet cX11_meet 10 (some .int) 3 := ⟨⟨gw_768, gw_1, ⟨by decide, by decide⟩, by decide +kernel, by decide⟩, gw_765, gw_766, gw_767⟩
theorem cw_X11_263 : CVw RX11 263 yX9_moved cX9_moved 8 (some .long) 1 := ⟨⟨gw_731, gw_11, ⟨by decide, by decide⟩, by decide +kernel, by decide⟩, gw_769, gw_729, gw_730⟩
theorem cw_X11_267 : CSw RX11 267 yX9_leastSpot cX9_leastSpot 3 (some .int) 1 := ⟨⟨gw_772, gw_11, ⟨by decide, by decide⟩, by decide +kernel, by decide⟩, gw_770, gw_771⟩
theorem cw_X11_271 : CVw RX11 271 yX9_goOn cX9_goOn 3 none 1 := ⟨⟨gw_743, gw_11, ⟨by decide, by decide⟩, by decide +kernel, by decide⟩, gw_773, gw_741, gw_742⟩
theorem cw_L_98 : CVw RL 98 yX11_heaviest cX11_heaviest 6 (some .int) 1 := ⟨⟨gw_777, gw_1, ⟨by decide, by decide⟩, by decide +kernel, by decide⟩, gw_774, gw_775, gw_776⟩
theorem cw_L_102 : CVw RL 102 yX11_changed cX11_changed 5 (some .int) 4 := ⟨⟨gw_781, gw_1, ⟨by decide, by decide⟩, by decide +kernel, by decide⟩, gw_778, gw_779, gw_780⟩
theorem cw_X11_278 : CVw RX11 278 yX9_bestChange cX9_bestChange 11 (some .int) 3 := ⟨⟨gw_785, gw_11, ⟨by decide, by decide⟩, by decide +kernel, by decide⟩, gw_782, gw_783, gw_784⟩
theorem cw_X9_134 : CVw RX9 134 yX9_fewestSteps cX9_fewestSteps 7 (some .int) 2 := ⟨⟨gw_727, gw_11, ⟨by decide, by decide⟩, by decide +kernel, by decide⟩, gw_786, gw_725, gw_726⟩
theorem cw_X9_138 : CVw RX9 138 yX9_hasCarOf cX9_hasCarOf 3 (some .boolean) 1 := ⟨⟨gw_790, gw_11, ⟨by decide, by decide⟩, by decide +kernel, by decide⟩, gw_787, gw_789, sv_11⟩
theorem cw_X9_142 : CVw RX9 142 yX9_changeDays cX9_changeDays 4 none 2 := ⟨⟨gw_794, gw_11, ⟨by decide, by decide⟩, by decide +kernel, by decide⟩, gw_791, gw_793, sv_12⟩
theorem cw_L_106 : CVw RL 106 yX11_goes cX11_goes 5 (some .int) 2 := ⟨⟨gw_798, gw_1, ⟨by decide, by decide⟩, by decide +kernel, by decide⟩, gw_795, gw_796, gw_797⟩
theorem cw_L_110 : CVw RL 110 yX11_image cX11_image 1 (some .int) 0 := ⟨⟨gw_803, gw_1, ⟨by decide, by decide⟩, by decide +kernel, by decide⟩, gw_800, gw_801, gw_802⟩
theorem cw_X11_283 : CVw RX11 283 yX0_take cX0_take 2 none 1 := ⟨⟨gw_807, gw_2, ⟨by decide, by decide⟩, by decide +kernel, by decide⟩, gw_804, gw_805, gw_806⟩
theorem cw_X0_30 : CVw RX0 30 yX1_take cX1_take 2 none 1 := ⟨⟨gw_710, gw_3, ⟨by decide, by decide⟩, by decide +kernel, by decide⟩, gw_808, gw_708, gw_709⟩
theorem cw_X0_34 : CVw RX0 34 yX6_take cX6_take 2 none 1 := ⟨⟨gw_624, gw_4, ⟨by decide, by decide⟩, by decide +kernel, by decide⟩, gw_809, gw_622, gw_623⟩
theorem cw_X0_37 : CVw RX0 37 yX3_take cX3_take 3 none 1 := ⟨⟨gw_813, gw_8, ⟨by decide, by decide⟩, by decide +kernel, by decide⟩, gw_810, gw_811, gw_812⟩
theorem cw_L_114 : CVw RL 114 yX11_restore cX11_restore 1 (some .int) 0 := ⟨⟨gw_817, gw_1, ⟨by decide, by decide⟩, by decide +kernel, by decide⟩, gw_814, gw_815, gw_816⟩
theorem cw_L_118 : CVw RL 118 yX11_weighed cX11_weighed 9 (some .int) 5 := ⟨⟨gw_821, gw_1, ⟨by decide, by decide⟩, by decide +kernel, by decide⟩, gw_818, gw_819, gw_820⟩
theorem cw_X11_290 : CSw RX11 290 yX11_isSheet cX11_isSheet 1 (some .boolean) 1 := ⟨⟨gw_824, gw_1, ⟨by decide, by decide⟩, by decide +kernel, by decide⟩, gw_822, gw_823⟩
theorem cw_X11_293 : CSw RX11 293 yX11_isLane cX11_isLane 1 (some .boolean) 1 := ⟨⟨gw_827, gw_1, ⟨by decide, by decide⟩, by decide +kernel, by decide⟩, gw_825, gw_826⟩
theorem cw_X11_296 : CVw RX11 296 yX7_refusal cX7_refusal 4 (some .int) 3 := ⟨⟨gw_831, gw_13, ⟨by decide, by decide⟩, by decide +kernel, by decide⟩, gw_828, gw_829, gw_830⟩
theorem cw_X7_22 : CVw RX7 22 yX7_isMissing cX7_isMissing 1 (some .boolean) 0 := ⟨⟨gw_835, gw_13, ⟨by decide, by decide⟩, by decide +kernel, by decide⟩, gw_832, gw_833, gw_834⟩
theorem cw_X7_26 : CVw RX7 26 yX7_holds cX7_holds 3 (some .boolean) 2 := ⟨⟨gw_839, gw_13, ⟨by decide, by decide⟩, by decide +kernel, by decide⟩, gw_836, gw_837, gw_838⟩
theorem cw_X11_305 : CVw RX11 305 yX10_begin cX10_begin 3 none 1 := ⟨⟨gw_844, gw_12, ⟨by decide, by decide⟩, by decide +kernel, by decide⟩, gw_841, gw_842, gw_843⟩
theorem cw_X10_27 : CSw RX10 27 yX10_weightOf cX10_weightOf 4 (some .int) 2 := ⟨⟨gw_847, gw_12, ⟨by decide, by decide⟩, by decide +kernel, by decide⟩, gw_845, gw_846⟩
theorem cw_X10_35 : CVw RX10 35 yX5_weighs cX5_weighs 1 (some .int) 0 := ⟨⟨gw_350, gw_5, ⟨by decide, by decide⟩, by decide +kernel, by decide⟩, gw_848, gw_348, gw_349⟩
theorem cw_X11_307 : CVw RX11 307 yX10_addCar cX10_addCar 6 none 1 := ⟨⟨gw_852, gw_12, ⟨by decide, by decide⟩, by decide +kernel, by decide⟩, gw_849, gw_850, gw_851⟩
theorem cw_X11_310 : CVw RX11 310 yX10_allWays cX10_allWays 3 (some .int) 0 := ⟨⟨gw_856, gw_12, ⟨by decide, by decide⟩, by decide +kernel, by decide⟩, gw_853, gw_854, gw_855⟩
theorem cw_X11_313 : CVw RX11 313 yX10_leastSet cX10_leastSet 2 (some .int) 0 := ⟨⟨gw_860, gw_12, ⟨by decide, by decide⟩, by decide +kernel, by decide⟩, gw_857, gw_858, gw_859⟩
theorem cw_L_123 : CVw RL 123 yX11_film cX11_film 10 (some .int) 6 := ⟨⟨gw_864, gw_1, ⟨by decide, by decide⟩, by decide +kernel, by decide⟩, gw_861, gw_862, gw_863⟩
theorem cw_X11_316 : CVw RX11 316 yX6_take cX6_take 2 none 1 := ⟨⟨gw_624, gw_4, ⟨by decide, by decide⟩, by decide +kernel, by decide⟩, gw_865, gw_622, gw_623⟩
theorem cw_X11_318 : CVw RX11 318 yX6_goOn cX6_goOn 5 none 1 := ⟨⟨gw_649, gw_4, ⟨by decide, by decide⟩, by decide +kernel, by decide⟩, gw_866, gw_647, gw_648⟩
theorem cw_X11_321 : CVw RX11 321 yX7_put cX7_put 4 none 2 := ⟨⟨gw_870, gw_13, ⟨by decide, by decide⟩, by decide +kernel, by decide⟩, gw_867, gw_868, gw_869⟩
theorem cw_L_128 : CVw RL 128 yX11_sheet cX11_sheet 4 (some .int) 3 := ⟨⟨gw_874, gw_1, ⟨by decide, by decide⟩, by decide +kernel, by decide⟩, gw_871, gw_872, gw_873⟩
theorem cw_X11_325 : CVw RX11 325 yX7_begin cX7_begin 4 none 2 := ⟨⟨gw_878, gw_13, ⟨by decide, by decide⟩, by decide +kernel, by decide⟩, gw_875, gw_876, gw_877⟩
theorem cw_L_132 : CVw RL 132 yX11_drop cX11_drop 4 (some .int) 1 := ⟨⟨gw_882, gw_1, ⟨by decide, by decide⟩, by decide +kernel, by decide⟩, gw_879, gw_880, gw_881⟩
theorem cw_X11_328 : CVw RX11 328 yX7_isMissing cX7_isMissing 1 (some .boolean) 0 := ⟨⟨gw_835, gw_13, ⟨by decide, by decide⟩, by decide +kernel, by decide⟩, gw_883, gw_833, gw_834⟩
theorem cw_L_138 : CVw RL 138 yX11_item cX11_item 8 (some .int) 4 := ⟨⟨gw_887, gw_1, ⟨by decide, by decide⟩, by decide +kernel, by decide⟩, gw_884, gw_885, gw_886⟩
theorem cw_L_143 : CVw RL 143 yX11_copy cX11_copy 8 (some .int) 5 := ⟨⟨gw_891, gw_1, ⟨by decide, by decide⟩, by decide +kernel, by decide⟩, gw_888, gw_889, gw_890⟩
theorem cw_X11_335 : CVw RX11 335 yX7_holds cX7_holds 3 (some .boolean) 2 := ⟨⟨gw_839, gw_13, ⟨by decide, by decide⟩, by decide +kernel, by decide⟩, gw_892, gw_837, gw_838⟩
theorem cw_L_12 : CIw RL 12 yX12_init cX12_init 2 0 := ⟨⟨gw_898, gw_14, ⟨by decide, by decide⟩, by decide +kernel, by decide⟩, gw_896, gw_897, rfl⟩
theorem cw_L_17 : CVw RL 17 yX12_person cX12_person 5 (some .int) 4 := ⟨⟨gw_955, gw_14, ⟨by decide, by decide⟩, by decide +kernel, by decide⟩, gw_952, gw_953, gw_954⟩
theorem cw_X12_44 : CSw RX12 44 yX12_within cX12_within 6 (some .boolean) 3 := ⟨⟨gw_959, gw_14, ⟨by decide, by decide⟩, by decide +kernel, by decide⟩, gw_957, gw_958⟩
theorem cw_X12_70 : CVw RX12 70 yX12_isFloor cX12_isFloor 2 (some .boolean) 1 := ⟨⟨gw_964, gw_14, ⟨by decide, by decide⟩, by decide +kernel, by decide⟩, gw_961, gw_963, sv_13⟩
theorem cw_X12_74 : CSw RX12 74 yX12_isDay cX12_isDay 1 (some .boolean) 1 := ⟨⟨gw_967, gw_14, ⟨by decide, by decide⟩, by decide +kernel, by decide⟩, gw_965, gw_966⟩
theorem cw_X12_77 : CVw RX12 77 yX12_comesIn cX12_comesIn 6 none 4 := ⟨⟨gw_972, gw_14, ⟨by decide, by decide⟩, by decide +kernel, by decide⟩, gw_969, gw_971, sv_14⟩
theorem cw_L_22 : CVw RL 22 yX12_of cX12_of 4 (some .int) 2 := ⟨⟨gw_976, gw_14, ⟨by decide, by decide⟩, by decide +kernel, by decide⟩, gw_973, gw_974, gw_975⟩
theorem cw_X12_81 : CVw RX12 81 yX12_isPerson cX12_isPerson 2 (some .boolean) 1 := ⟨⟨gw_980, gw_14, ⟨by decide, by decide⟩, by decide +kernel, by decide⟩, gw_977, gw_979, sv_15⟩
theorem cw_X12_54 : CVw RX12 54 yX12_told cX12_told 3 (some .int) 2 := ⟨⟨gw_985, gw_14, ⟨by decide, by decide⟩, by decide +kernel, by decide⟩, gw_982, gw_984, sv_16⟩
theorem cw_X12_58 : CVw RX12 58 yX12_weighs cX12_weighs 3 (some .int) 1 := ⟨⟨gw_989, gw_14, ⟨by decide, by decide⟩, by decide +kernel, by decide⟩, gw_986, gw_988, sv_17⟩
theorem cw_X12_86 : CVw RX12 86 yX12_placeOf cX12_placeOf 3 (some .int) 2 := ⟨⟨gw_993, gw_14, ⟨by decide, by decide⟩, by decide +kernel, by decide⟩, gw_990, gw_992, sv_18⟩
theorem cw_X12_48 : CVw RX12 48 yX12_many cX12_many 1 (some .int) 0 := ⟨⟨gw_997, gw_14, ⟨by decide, by decide⟩, by decide +kernel, by decide⟩, gw_994, gw_996, sv_19⟩
theorem cw_X12_89 : CVw RX12 89 yX12_floorOf cX12_floorOf 2 (some .int) 1 := ⟨⟨gw_1001, gw_14, ⟨by decide, by decide⟩, by decide +kernel, by decide⟩, gw_998, gw_1000, sv_20⟩
theorem cw_L_26 : CVw RL 26 yX12_car cX12_car 4 (some .int) 2 := ⟨⟨gw_1005, gw_14, ⟨by decide, by decide⟩, by decide +kernel, by decide⟩, gw_1002, gw_1003, gw_1004⟩
theorem cw_X12_92 : CVw RX12 92 yX12_isCar cX12_isCar 2 (some .boolean) 1 := ⟨⟨gw_1009, gw_14, ⟨by decide, by decide⟩, by decide +kernel, by decide⟩, gw_1006, gw_1008, sv_21⟩
theorem cw_X12_95 : CVw RX12 95 yX12_loadOf cX12_loadOf 4 (some .int) 1 := ⟨⟨gw_1013, gw_14, ⟨by decide, by decide⟩, by decide +kernel, by decide⟩, gw_1010, gw_1012, sv_22⟩
theorem cw_X12_98 : CVw RX12 98 yX12_whoIn cX12_whoIn 4 (some .int) 1 := ⟨⟨gw_1017, gw_14, ⟨by decide, by decide⟩, by decide +kernel, by decide⟩, gw_1014, gw_1016, sv_23⟩
theorem cw_L_30 : CVw RL 30 yX12_day cX12_day 4 (some .int) 2 := ⟨⟨gw_1021, gw_14, ⟨by decide, by decide⟩, by decide +kernel, by decide⟩, gw_1018, gw_1019, gw_1020⟩
theorem cw_L_34 : CVw RL 34 yX12_rule cX12_rule 4 (some .int) 2 := ⟨⟨gw_1025, gw_14, ⟨by decide, by decide⟩, by decide +kernel, by decide⟩, gw_1022, gw_1023, gw_1024⟩
theorem cw_L_48 : CVw RL 48 yX12_count cX12_count 6 (some .int) 1 := ⟨⟨gw_1032, gw_14, ⟨by decide, by decide⟩, by decide +kernel, by decide⟩, gw_1029, gw_1030, gw_1031⟩
theorem cw_X12_107 : CVw RX12 107 yX12_riders cX12_riders 3 (some .int) 0 := ⟨⟨gw_1036, gw_14, ⟨by decide, by decide⟩, by decide +kernel, by decide⟩, gw_1033, gw_1035, sv_24⟩
theorem cw_L_39 : CVw RL 39 yX12_type cX12_type 2 (some .int) 1 := ⟨⟨gw_1040, gw_14, ⟨by decide, by decide⟩, by decide +kernel, by decide⟩, gw_1037, gw_1038, gw_1039⟩
theorem cw_L_44 : CVw RL 44 yX12_block cX12_block 4 (some .int) 0 := ⟨⟨gw_1046, gw_14, ⟨by decide, by decide⟩, by decide +kernel, by decide⟩, gw_1043, gw_1044, gw_1045⟩
theorem cw_X12_131 : CVw RX12 131 yX12_digit cX12_digit 4 (some .int) 2 := ⟨⟨gw_1050, gw_14, ⟨by decide, by decide⟩, by decide +kernel, by decide⟩, gw_1047, gw_1049, sv_25⟩
theorem cw_X12_124 : CVw RX12 124 yX12_here cX12_here 1 (some .int) 0 := ⟨⟨gw_1054, gw_14, ⟨by decide, by decide⟩, by decide +kernel, by decide⟩, gw_1051, gw_1053, sv_26⟩
theorem cw_X12_127 : CVw RX12 127 yX12_must cX12_must 2 none 1 := ⟨⟨gw_1058, gw_14, ⟨by decide, by decide⟩, by decide +kernel, by decide⟩, gw_1055, gw_1057, sv_27⟩
theorem cw_X12_134 : CVw RX12 134 yX12_takes cX12_takes 2 none 1 := ⟨⟨gw_1062, gw_14, ⟨by decide, by decide⟩, by decide +kernel, by decide⟩, gw_1059, gw_1061, sv_28⟩
theorem cw_X12_138 : CVw RX12 138 yX12_readPerson cX12_readPerson 8 none 2 := ⟨⟨gw_1066, gw_14, ⟨by decide, by decide⟩, by decide +kernel, by decide⟩, gw_1063, gw_1065, sv_29⟩
theorem cw_L_52 : CVw RL 52 yX12_in cX12_in 4 (some .int) 2 := ⟨⟨gw_1070, gw_14, ⟨by decide, by decide⟩, by decide +kernel, by decide⟩, gw_1067, gw_1068, gw_1069⟩
theorem cw_X12_142 : CVw RX12 142 yX12_placeAt cX12_placeAt 3 (some .int) 2 := ⟨⟨gw_1074, gw_14, ⟨by decide, by decide⟩, by decide +kernel, by decide⟩, gw_1071, gw_1073, sv_30⟩
theorem cw_X12_145 : CVw RX12 145 yX12_carIn cX12_carIn 3 (some .int) 2 := ⟨⟨gw_1078, gw_14, ⟨by decide, by decide⟩, by decide +kernel, by decide⟩, gw_1075, gw_1077, sv_31⟩
theorem cw_X12_148 : CVw RX12 148 yX12_notes cX12_notes 2 none 0 := ⟨⟨gw_1082, gw_14, ⟨by decide, by decide⟩, by decide +kernel, by decide⟩, gw_1079, gw_1081, sv_32⟩
theorem cw_L_56 : CVw RL 56 yX12_out cX12_out 2 (some .int) 1 := ⟨⟨gw_1086, gw_14, ⟨by decide, by decide⟩, by decide +kernel, by decide⟩, gw_1083, gw_1084, gw_1085⟩
theorem cw_X12_151 : CVw RX12 151 yX12_getsOut cX12_getsOut 4 none 1 := ⟨⟨gw_1090, gw_14, ⟨by decide, by decide⟩, by decide +kernel, by decide⟩, gw_1087, gw_1089, sv_33⟩
theorem cw_L_60 : CVw RL 60 yX12_steps cX12_steps 3 (some .int) 1 := ⟨⟨gw_1094, gw_14, ⟨by decide, by decide⟩, by decide +kernel, by decide⟩, gw_1091, gw_1092, gw_1093⟩
theorem cw_X12_158 : CVw RX12 158 yX12_goesOn cX12_goesOn 3 none 0 := ⟨⟨gw_1098, gw_14, ⟨by decide, by decide⟩, by decide +kernel, by decide⟩, gw_1095, gw_1097, sv_34⟩
theorem cw_X12_154 : CVw RX12 154 yX12_isTurnedOut cX12_isTurnedOut 3 (some .boolean) 2 := ⟨⟨gw_1102, gw_14, ⟨by decide, by decide⟩, by decide +kernel, by decide⟩, gw_1099, gw_1101, sv_35⟩
theorem cw_L_64 : CVw RL 64 yX12_drift cX12_drift 4 (some .int) 1 := ⟨⟨gw_1106, gw_14, ⟨by decide, by decide⟩, by decide +kernel, by decide⟩, gw_1103, gw_1104, gw_1105⟩
theorem cw_X12_168 : CSw RX12 168 yX12_size cX12_size 3 (some .int) 1 := ⟨⟨gw_1113, gw_14, ⟨by decide, by decide⟩, by decide +kernel, by decide⟩, gw_1111, gw_1112⟩
theorem cw_L_68 : CVw RL 68 yX12_undo cX12_undo 3 (some .int) 0 := ⟨⟨gw_1117, gw_14, ⟨by decide, by decide⟩, by decide +kernel, by decide⟩, gw_1114, gw_1115, gw_1116⟩
theorem cw_L_72 : CVw RL 72 yX12_seed cX12_seed 3 (some .int) 1 := ⟨⟨gw_1121, gw_14, ⟨by decide, by decide⟩, by decide +kernel, by decide⟩, gw_1118, gw_1119, gw_1120⟩
theorem cw_L_77 : CVw RL 77 yX12_at cX12_at 4 (some .int) 3 := ⟨⟨gw_1125, gw_14, ⟨by decide, by decide⟩, by decide +kernel, by decide⟩, gw_1122, gw_1123, gw_1124⟩
theorem cw_L_81 : CVw RL 81 yX12_place cX12_place 3 (some .int) 2 := ⟨⟨gw_1130, gw_14, ⟨by decide, by decide⟩, by decide +kernel, by decide⟩, gw_1127, gw_1128, gw_1129⟩
theorem cw_L_85 : CVw RL 85 yX12_comes cX12_comes 5 (some .int) 3 := ⟨⟨gw_1134, gw_14, ⟨by decide, by decide⟩, by decide +kernel, by decide⟩, gw_1131, gw_1132, gw_1133⟩
theorem cw_L_89 : CVw RL 89 yX12_soonest cX12_soonest 7 (some .int) 4 := ⟨⟨gw_1138, gw_14, ⟨by decide, by decide⟩, by decide +kernel, by decide⟩, gw_1135, gw_1136, gw_1137⟩
theorem cw_X12_192 : CVw RX12 192 yX12_soonestBy cX12_soonestBy 8 (some .int) 3 := ⟨⟨gw_1142, gw_14, ⟨by decide, by decide⟩, by decide +kernel, by decide⟩, gw_1139, gw_1141, sv_36⟩
theorem cw_X12_181 : CVw RX12 181 yX12_state cX12_state 3 (some .long) 1 := ⟨⟨gw_1146, gw_14, ⟨by decide, by decide⟩, by decide +kernel, by decide⟩, gw_1143, gw_1145, sv_37⟩
theorem cw_X12_175 : CVw RX12 175 yX12_moves cX12_moves 9 (some .long) 3 := ⟨⟨gw_1150, gw_14, ⟨by decide, by decide⟩, by decide +kernel, by decide⟩, gw_1147, gw_1149, sv_38⟩
theorem cw_X12_185 : CVw RX12 185 yX12_allMoves cX12_allMoves 4 (some .long) 2 := ⟨⟨gw_1155, gw_14, ⟨by decide, by decide⟩, by decide +kernel, by decide⟩, gw_1152, gw_1154, sv_39⟩
theorem cw_X12_189 : CVw RX12 189 yX12_turned cX12_turned 9 (some .long) 3 := ⟨⟨gw_1159, gw_14, ⟨by decide, by decide⟩, by decide +kernel, by decide⟩, gw_1156, gw_1158, sv_40⟩
theorem cw_L_93 : CVw RL 93 yX12_never cX12_never 5 (some .int) 2 := ⟨⟨gw_1164, gw_14, ⟨by decide, by decide⟩, by decide +kernel, by decide⟩, gw_1161, gw_1162, gw_1163⟩
theorem cw_L_97 : CVw RL 97 yX12_meet cX12_meet 13 (some .int) 3 := ⟨⟨gw_1168, gw_14, ⟨by decide, by decide⟩, by decide +kernel, by decide⟩, gw_1165, gw_1166, gw_1167⟩
theorem cw_L_101 : CVw RL 101 yX12_heaviest cX12_heaviest 4 (some .int) 1 := ⟨⟨gw_1173, gw_14, ⟨by decide, by decide⟩, by decide +kernel, by decide⟩, gw_1170, gw_1171, gw_1172⟩
theorem cw_L_105 : CVw RL 105 yX12_changed cX12_changed 13 (some .int) 4 := ⟨⟨gw_1177, gw_14, ⟨by decide, by decide⟩, by decide +kernel, by decide⟩, gw_1174, gw_1175, gw_1176⟩
theorem cw_X12_198 : CVw RX12 198 yX12_swaps cX12_swaps 4 none 2 := ⟨⟨gw_1181, gw_14, ⟨by decide, by decide⟩, by decide +kernel, by decide⟩, gw_1178, gw_1180, sv_41⟩
theorem cw_L_109 : CVw RL 109 yX12_goes cX12_goes 5 (some .int) 2 := ⟨⟨gw_1185, gw_14, ⟨by decide, by decide⟩, by decide +kernel, by decide⟩, gw_1182, gw_1183, gw_1184⟩
theorem cw_L_113 : CVw RL 113 yX12_image cX12_image 2 (some .int) 0 := ⟨⟨gw_1192, gw_14, ⟨by decide, by decide⟩, by decide +kernel, by decide⟩, gw_1189, gw_1190, gw_1191⟩
theorem cw_L_117 : CVw RL 117 yX12_restore cX12_restore 2 (some .int) 0 := ⟨⟨gw_1196, gw_14, ⟨by decide, by decide⟩, by decide +kernel, by decide⟩, gw_1193, gw_1194, gw_1195⟩
theorem cw_L_122 : CVw RL 122 yX12_weighed cX12_weighed 18 (some .int) 5 := ⟨⟨gw_1200, gw_14, ⟨by decide, by decide⟩, by decide +kernel, by decide⟩, gw_1197, gw_1198, gw_1199⟩
theorem cw_X12_214 : CSw RX12 214 yX12_isSheet cX12_isSheet 1 (some .boolean) 1 := ⟨⟨gw_1203, gw_14, ⟨by decide, by decide⟩, by decide +kernel, by decide⟩, gw_1201, gw_1202⟩
theorem cw_X12_217 : CSw RX12 217 yX12_isLane cX12_isLane 1 (some .boolean) 1 := ⟨⟨gw_1207, gw_14, ⟨by decide, by decide⟩, by decide +kernel, by decide⟩, gw_1205, gw_1206⟩
theorem cw_X12_220 : CVw RX12 220 yX12_why cX12_why 5 (some .int) 4 := ⟨⟨gw_1211, gw_14, ⟨by decide, by decide⟩, by decide +kernel, by decide⟩, gw_1208, gw_1210, sv_42⟩
theorem cw_L_127 : CVw RL 127 yX12_film cX12_film 9 (some .int) 6 := ⟨⟨gw_1216, gw_14, ⟨by decide, by decide⟩, by decide +kernel, by decide⟩, gw_1213, gw_1214, gw_1215⟩
theorem cw_L_131 : CVw RL 131 yX12_sheet cX12_sheet 5 (some .int) 3 := ⟨⟨gw_1220, gw_14, ⟨by decide, by decide⟩, by decide +kernel, by decide⟩, gw_1217, gw_1218, gw_1219⟩
theorem cw_L_135 : CVw RL 135 yX12_drop cX12_drop 2 (some .int) 1 := ⟨⟨gw_1224, gw_14, ⟨by decide, by decide⟩, by decide +kernel, by decide⟩, gw_1221, gw_1222, gw_1223⟩
theorem cw_L_142 : CVw RL 142 yX12_item cX12_item 7 (some .int) 4 := ⟨⟨gw_1228, gw_14, ⟨by decide, by decide⟩, by decide +kernel, by decide⟩, gw_1225, gw_1226, gw_1227⟩
theorem cw_L_146 : CVw RL 146 yX12_copy cX12_copy 8 (some .int) 5 := ⟨⟨gw_1232, gw_14, ⟨by decide, by decide⟩, by decide +kernel, by decide⟩, gw_1229, gw_1230, gw_1231⟩
theorem cw_X11_11 : CINw RX11 11 yX0_init cX0_init 1 0 := ⟨⟨gw_35, gw_2, ⟨by decide, by decide⟩, by decide +kernel, by decide⟩, List.mem_of_getElem? (i := 0) rfl, gw_34, rfl⟩
theorem cw_X6_21 : CINw RX6 21 yX5_init cX5_init 1 0 := ⟨⟨gw_80, gw_5, ⟨by decide, by decide⟩, by decide +kernel, by decide⟩, List.mem_of_getElem? (i := 1) rfl, gw_79, rfl⟩
theorem cw_X11_21 : CINw RX11 21 yX8_init cX8_init 1 0 := ⟨⟨gw_180, gw_9, ⟨by decide, by decide⟩, by decide +kernel, by decide⟩, List.mem_of_getElem? (i := 2) rfl, gw_179, rfl⟩
theorem cw_X11_28 : CINw RX11 28 yX2_init cX2_init 1 0 := ⟨⟨gw_198, gw_10, ⟨by decide, by decide⟩, by decide +kernel, by decide⟩, List.mem_of_getElem? (i := 3) rfl, gw_197, rfl⟩
theorem cw_X11_42 : CINw RX11 42 yX9_init cX9_init 1 0 := ⟨⟨gw_219, gw_11, ⟨by decide, by decide⟩, by decide +kernel, by decide⟩, List.mem_of_getElem? (i := 4) rfl, gw_218, rfl⟩
theorem cw_X11_52 : CINw RX11 52 yX10_init cX10_init 1 0 := ⟨⟨gw_247, gw_12, ⟨by decide, by decide⟩, by decide +kernel, by decide⟩, List.mem_of_getElem? (i := 5) rfl, gw_246, rfl⟩
theorem cw_X11_63 : CINw RX11 63 yX7_init cX7_init 1 0 := ⟨⟨gw_264, gw_13, ⟨by decide, by decide⟩, by decide +kernel, by decide⟩, List.mem_of_getElem? (i := 6) rfl, gw_263, rfl⟩
theorem cw_X1_39 : CSNw RX1 39 yX11_leftOver cX11_leftOver 2 (some .int) 2 := ⟨⟨gw_369, gw_1, ⟨by decide, by decide⟩, by decide +kernel, by decide⟩, List.mem_of_getElem? (i := 7) rfl, gw_368⟩
theorem cw_X8_26 : CSNw RX8 26 yX11_within cX11_within 3 (some .boolean) 3 := ⟨⟨gw_319, gw_1, ⟨by decide, by decide⟩, by decide +kernel, by decide⟩, List.mem_of_getElem? (i := 8) rfl, gw_318⟩
theorem cw_X6_45 : CSNw RX6 45 yX11_leftOver cX11_leftOver 2 (some .int) 2 := ⟨⟨gw_369, gw_1, ⟨by decide, by decide⟩, by decide +kernel, by decide⟩, List.mem_of_getElem? (i := 11) rfl, gw_368⟩
theorem lt_nl {a b c : Nat} (h : c = b) (h2 : a < b) : a < c := by omega
/-- locals at a method's entry -/
def lin : List Value → List (Option Value)
  | [] => []
  | v :: vs => some v :: (if v.category = 2 then none :: lin vs else lin vs)
theorem lget_none : ∀ (k i : Nat), lget (List.replicate k none) i = none
  | 0, i => rfl
  | k + 1, 0 => rfl
  | k + 1, i + 1 => lget_none k i
theorem lget_app : ∀ (l : List (Option Value)) (k i : Nat) (v : Value), lget (l ++ List.replicate k none) i = some v → lget l i = some v
  | [], k, i, v, h => by rw [List.nil_append, lget_none] at h; cases h
  | a :: l, k, 0, v, h => h
  | a :: l, k, i + 1, v, h => lget_app l k i v h
theorem lin_args : ∀ (vs : List Value) (n i : Nat) (v : Value), lget (lin vs) i = some v → (n + i, v) ∈ lv_args n vs
  | [], n, i, v, h => by simp [lin, lget] at h
  | a :: vs, n, 0, v, h => by
    simp [lin, lget] at h
    subst h
    simp [lv_args]
  | a :: vs, n, i + 1, v, h => by
    unfold lin at h
    unfold lv_args
    refine List.mem_cons_of_mem _ ?_
    rcases lv_cat a with hc | hc
    · rw [if_neg (by rw [hc]; decide)] at h
      have := lin_args vs (n + a.category) i v h
      rw [hc] at this ⊢
      rw [show n + (i + 1) = n + 1 + i by omega]
      exact this
    · rw [if_pos hc] at h
      cases i with
      | zero => cases h
      | succ i =>
        have := lin_args vs (n + a.category) i v h
        rw [hc] at this ⊢
        rw [show n + (i + 1 + 1) = n + 2 + i by omega]
        exact this
theorem Ct.of' {g : GT} {y : MethodName} {cc : ByteArray} {maxL : Nat} {ret : Option FieldType} {d mc ms : Nat} {av : List Value} {T : TT} {Mi : MI} {Ml : ML} {post : Option Value → TT → MI → ML → Prop} (hy : plainFor y = true) (hn : (lg_sl av).length ≤ maxL)
    (body : ∀ x : CX, x.1 = g → x.2.2.2.2.1 = rmL d mc ms → Ok x y.cls cc d → Rt x mc ms ret post → x.2.2.2.2.2.2.2.2.2.1.name = y.name → x.2.2.2.2.2.2.2.2.2.2.2.1 = maxL → V x 0 0 T Mi Ml 0 (lin av ++ List.replicate (maxL - (lin av).length) none) []) : Ct g y cc maxL ret d mc ms av T Mi Ml post :=
  Ct.of hy hn (lin av ++ List.replicate (maxL - (lin av).length) none) (fun i v h => by
    have := lin_args av 0 i v (lget_app _ _ _ _ h)
    rw [Nat.zero_add] at this
    exact this) body
