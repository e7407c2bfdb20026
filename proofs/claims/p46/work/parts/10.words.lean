theorem fl_X5_18 : Cond.fieldLink RX5 18 (TX5 0).1 (TX5 0).2.1 (TX5 0).2.2.1 ∈ qW := qW_at 76 (by decide +kernel) rfl
theorem fl_X5_9 : Cond.fieldLink RX5 9 (TX5 1).1 (TX5 1).2.1 (TX5 1).2.2.1 ∈ qW := qW_at 78 (by decide +kernel) rfl
theorem ml_X5_25 : Cond.methodLink RX5 25 yX5_clockChange ∈ qW := qW_at 265 (by decide +kernel) rfl
theorem fl_X5_15 : Cond.fieldLink RX5 15 (TX5 2).1 (TX5 2).2.1 (TX5 2).2.2.1 ∈ qW := qW_at 80 (by decide +kernel) rfl
theorem ml_X5_21 : Cond.methodLink RX5 21 yX5_isSummer ∈ qW := qW_at 261 (by decide +kernel) rfl
theorem ml_X5_3 : Cond.methodLink RX5 3 Lib.objectInit ∈ qW := qW_at 75 (by decide +kernel) rfl
theorem fl_X2_9 : Cond.fieldLink RX2 9 (TX2 2).1 (TX2 2).2.1 (TX2 2).2.2.1 ∈ qW := qW_at 100 (by decide +kernel) rfl
theorem fl_X2_15 : Cond.fieldLink RX2 15 (TX2 0).1 (TX2 0).2.1 (TX2 0).2.2.1 ∈ qW := qW_at 96 (by decide +kernel) rfl
theorem ml_X2_19 : Cond.methodLink RX2 19 yX2_entriesBetween ∈ qW := qW_at 359 (by decide +kernel) rfl
theorem fl_X2_23 : Cond.fieldLink RX2 23 (TX2 1).1 (TX2 1).2.1 (TX2 1).2.2.1 ∈ qW := qW_at 98 (by decide +kernel) rfl
theorem ml_X2_3 : Cond.methodLink RX2 3 Lib.objectInit ∈ qW := qW_at 95 (by decide +kernel) rfl
theorem ml_X1_3 : Cond.methodLink RX1 3 Lib.objectInit ∈ qW := qW_at 1193 (by decide +kernel) rfl
theorem fl_X1_9 : Cond.fieldLink RX1 9 (TX1 5).1 (TX1 5).2.1 (TX1 5).2.2.1 ∈ qW := qW_at 1205 (by decide +kernel) rfl
theorem fl_X1_15 : Cond.fieldLink RX1 15 (TX1 6).1 (TX1 6).2.1 (TX1 6).2.2.1 ∈ qW := qW_at 1208 (by decide +kernel) rfl
theorem fl_X1_18 : Cond.fieldLink RX1 18 (TX1 7).1 (TX1 7).2.1 (TX1 7).2.2.1 ∈ qW := qW_at 1210 (by decide +kernel) rfl
theorem fl_X1_21 : Cond.fieldLink RX1 21 (TX1 8).1 (TX1 8).2.1 (TX1 8).2.2.1 ∈ qW := qW_at 1212 (by decide +kernel) rfl
theorem fl_X1_24 : Cond.fieldLink RX1 24 (TX1 0).1 (TX1 0).2.1 (TX1 0).2.2.1 ∈ qW := qW_at 1194 (by decide +kernel) rfl
theorem fl_X1_27 : Cond.fieldLink RX1 27 (TX1 1).1 (TX1 1).2.1 (TX1 1).2.2.1 ∈ qW := qW_at 1196 (by decide +kernel) rfl
theorem fl_X1_31 : Cond.fieldLink RX1 31 (TX1 2).1 (TX1 2).2.1 (TX1 2).2.2.1 ∈ qW := qW_at 1198 (by decide +kernel) rfl
theorem fl_X1_34 : Cond.fieldLink RX1 34 (TX1 3).1 (TX1 3).2.1 (TX1 3).2.2.1 ∈ qW := qW_at 1201 (by decide +kernel) rfl
theorem fl_X1_37 : Cond.fieldLink RX1 37 (TX1 4).1 (TX1 4).2.1 (TX1 4).2.2.1 ∈ qW := qW_at 1203 (by decide +kernel) rfl
theorem fl_X1_41 : Cond.fieldLink RX1 41 (TX4 0).1 (TX4 0).2.1 (TX4 0).2.2.1 ∈ qW := qW_at 931 (by decide +kernel) rfl
theorem fl_X1_46 : Cond.fieldLink RX1 46 (TX1 9).1 (TX1 9).2.1 (TX1 9).2.2.1 ∈ qW := qW_at 1214 (by decide +kernel) rfl
theorem ml_X1_49 : Cond.methodLink RX1 49 yX1_isNewerThan ∈ qW := qW_at 290 (by decide +kernel) rfl
theorem fl_X3_17 : Cond.fieldLink RX3 17 (TX1 2).1 (TX1 2).2.1 (TX1 2).2.2.1 ∈ qW := qW_at 1199 (by decide +kernel) rfl
theorem fl_X3_21 : Cond.fieldLink RX3 21 (TX1 5).1 (TX1 5).2.1 (TX1 5).2.2.1 ∈ qW := qW_at 1206 (by decide +kernel) rfl
theorem ml_X3_24 : Cond.methodLink RX3 24 yX3_slotOf ∈ qW := qW_at 284 (by decide +kernel) rfl
theorem fl_X3_13 : Cond.fieldLink RX3 13 (TX3 0).1 (TX3 0).2.1 (TX3 0).2.2.1 ∈ qW := qW_at 1007 (by decide +kernel) rfl
theorem ml_X3_28 : Cond.methodLink RX3 28 yX1_isNewerThan ∈ qW := qW_at 643 (by decide +kernel) rfl
theorem ml_X3_32 : Cond.methodLink RX3 32 yX3_keptFor ∈ qW := qW_at 280 (by decide +kernel) rfl
theorem ml_X3_36 : Cond.methodLink RX3 36 yX1_answerBy ∈ qW := qW_at 287 (by decide +kernel) rfl
theorem ml_X3_3 : Cond.methodLink RX3 3 Lib.objectInit ∈ qW := qW_at 1005 (by decide +kernel) rfl
theorem cl_X3_11 : Cond.classLink RX3 11 RX1 ∈ qW := qW_at 1006 (by decide +kernel) rfl
theorem ml_X4_3 : Cond.methodLink RX4 3 Lib.objectInit ∈ qW := qW_at 907 (by decide +kernel) rfl
theorem fl_X4_9 : Cond.fieldLink RX4 9 (TX4 5).1 (TX4 5).2.1 (TX4 5).2.2.1 ∈ qW := qW_at 939 (by decide +kernel) rfl
theorem fl_X4_15 : Cond.fieldLink RX4 15 (TX4 6).1 (TX4 6).2.1 (TX4 6).2.2.1 ∈ qW := qW_at 940 (by decide +kernel) rfl
theorem fl_X4_18 : Cond.fieldLink RX4 18 (TX4 7).1 (TX4 7).2.1 (TX4 7).2.2.1 ∈ qW := qW_at 941 (by decide +kernel) rfl
theorem fl_X4_21 : Cond.fieldLink RX4 21 (TX4 0).1 (TX4 0).2.1 (TX4 0).2.2.1 ∈ qW := qW_at 930 (by decide +kernel) rfl
theorem fl_X4_24 : Cond.fieldLink RX4 24 (TX4 1).1 (TX4 1).2.1 (TX4 1).2.2.1 ∈ qW := qW_at 934 (by decide +kernel) rfl
theorem fl_X4_28 : Cond.fieldLink RX4 28 (TX4 2).1 (TX4 2).2.1 (TX4 2).2.2.1 ∈ qW := qW_at 935 (by decide +kernel) rfl
theorem fl_X4_31 : Cond.fieldLink RX4 31 (TX4 3).1 (TX4 3).2.1 (TX4 3).2.2.1 ∈ qW := qW_at 936 (by decide +kernel) rfl
theorem fl_X4_34 : Cond.fieldLink RX4 34 (TX4 4).1 (TX4 4).2.1 (TX4 4).2.2.1 ∈ qW := qW_at 937 (by decide +kernel) rfl
theorem ml_X4_102 : Cond.methodLink RX4 102 yJ7_fill_53178 ∈ qW := qW_at 911 (by decide +kernel) rfl
theorem ml_X4_37 : Cond.methodLink RX4 37 yX4_rowOf ∈ qW := qW_at 908 (by decide +kernel) rfl
theorem fl_X4_41 : Cond.fieldLink RX4 41 (TX4 12).1 (TX4 12).2.1 (TX4 12).2.2.1 ∈ qW := qW_at 948 (by decide +kernel) rfl
theorem fl_X4_45 : Cond.fieldLink RX4 45 (TX4 13).1 (TX4 13).2.1 (TX4 13).2.2.1 ∈ qW := qW_at 949 (by decide +kernel) rfl
theorem fl_X4_51 : Cond.fieldLink RX4 51 (TX4 8).1 (TX4 8).2.1 (TX4 8).2.2.1 ∈ qW := qW_at 942 (by decide +kernel) rfl
theorem ml_X4_108 : Cond.methodLink RX4 108 yX4_daysOfRule ∈ qW := qW_at 918 (by decide +kernel) rfl
theorem fl_X4_55 : Cond.fieldLink RX4 55 (TX4 9).1 (TX4 9).2.1 (TX4 9).2.2.1 ∈ qW := qW_at 943 (by decide +kernel) rfl
theorem kl_X4_77 : Cond.constantLong RX4 77 (-1) ∈ qW := qW_at 922 (by decide +kernel) rfl
theorem fl_X4_58 : Cond.fieldLink RX4 58 (TX4 10).1 (TX4 10).2.1 (TX4 10).2.2.1 ∈ qW := qW_at 944 (by decide +kernel) rfl
theorem kl_J13_314 : Cond.constantLong RJ13 314 (6148914691236517205) ∈ qW := qW_at 926 (by decide +kernel) rfl
theorem kl_J13_316 : Cond.constantLong RJ13 316 (3689348814741910323) ∈ qW := qW_at 927 (by decide +kernel) rfl
theorem kl_J13_318 : Cond.constantLong RJ13 318 (1085102592571150095) ∈ qW := qW_at 928 (by decide +kernel) rfl
theorem ml_X4_112 : Cond.methodLink RX4 112 yJ13_bitCount_95d88 ∈ qW := qW_at 923 (by decide +kernel) rfl
theorem ml_X4_87 : Cond.methodLinkNest RX4 87 yX6_isDay "MeetingServer" ∈ qN := qN_at 254 (by decide +kernel) rfl
theorem ml_X4_118 : Cond.methodLink RX4 118 yX4_isDate ∈ qW := qW_at 929 (by decide +kernel) rfl
theorem fl_X4_61 : Cond.fieldLink RX4 61 (TX4 11).1 (TX4 11).2.1 (TX4 11).2.2.1 ∈ qW := qW_at 945 (by decide +kernel) rfl
theorem ml_X4_48 : Cond.methodLink RX4 48 yX4_findDates ∈ qW := qW_at 914 (by decide +kernel) rfl
theorem fl_X4_64 : Cond.fieldLink RX4 64 (TX4 14).1 (TX4 14).2.1 (TX4 14).2.2.1 ∈ qW := qW_at 950 (by decide +kernel) rfl
theorem fl_X4_67 : Cond.fieldLink RX4 67 (TX4 15).1 (TX4 15).2.1 (TX4 15).2.2.1 ∈ qW := qW_at 953 (by decide +kernel) rfl
theorem fl_X4_70 : Cond.fieldLink RX4 70 (TX4 16).1 (TX4 16).2.1 (TX4 16).2.2.1 ∈ qW := qW_at 956 (by decide +kernel) rfl
theorem cl_X4_10 : Cond.classLink RX4 10 RX4 ∈ qW := qW_at 1067 (by decide +kernel) rfl
theorem ml_X4_74 : Cond.methodLink RX4 74 yX4_init_ ∈ qW := qW_at 1068 (by decide +kernel) rfl
theorem ml_X4_97 : Cond.methodLink RX4 97 ⟨"[I", "clone", "()Ljava/lang/Object;"⟩ ∈ qW := qW_at 1105 (by decide +kernel) rfl
theorem cl_X4_98 : Cond.classLink RX4 98 "[I" ∈ qW := qW_at 1109 (by decide +kernel) rfl
theorem ml_X4_79 : Cond.methodLink RX4 79 yX4_putMoved ∈ qW := qW_at 1101 (by decide +kernel) rfl
theorem ml_X4_83 : Cond.methodLink RX4 83 yX4_putStand ∈ qW := qW_at 1121 (by decide +kernel) rfl
theorem ml_X4_91 : Cond.methodLink RX4 91 yX5_toCommon ∈ qW := qW_at 257 (by decide +kernel) rfl
theorem ml_X0_3 : Cond.methodLink RX0 3 Lib.objectInit ∈ qW := qW_at 997 (by decide +kernel) rfl
theorem cl_X0_9 : Cond.classLink RX0 9 RX4 ∈ qW := qW_at 998 (by decide +kernel) rfl
theorem fl_X0_11 : Cond.fieldLink RX0 11 (TX0 3).1 (TX0 3).2.1 (TX0 3).2.2.1 ∈ qW := qW_at 1017 (by decide +kernel) rfl
theorem cl_X0_17 : Cond.classLink RX0 17 RX3 ∈ qW := qW_at 1000 (by decide +kernel) rfl
theorem ml_X0_19 : Cond.methodLinkNest RX0 19 yX3_init "MeetingServer" ∈ qN := qN_at 1002 (by decide +kernel) rfl
theorem fl_X0_20 : Cond.fieldLink RX0 20 (TX0 5).1 (TX0 5).2.1 (TX0 5).2.2.1 ∈ qW := qW_at 1020 (by decide +kernel) rfl
theorem fl_X0_24 : Cond.fieldLink RX0 24 (TX0 6).1 (TX0 6).2.1 (TX0 6).2.2.1 ∈ qW := qW_at 1022 (by decide +kernel) rfl
theorem fl_X0_27 : Cond.fieldLink RX0 27 (TX0 0).1 (TX0 0).2.1 (TX0 0).2.2.1 ∈ qW := qW_at 1011 (by decide +kernel) rfl
theorem fl_X0_31 : Cond.fieldLink RX0 31 (TX0 1).1 (TX0 1).2.1 (TX0 1).2.2.1 ∈ qW := qW_at 1013 (by decide +kernel) rfl
theorem fl_X0_34 : Cond.fieldLink RX0 34 (TX0 2).1 (TX0 2).2.1 (TX0 2).2.2.1 ∈ qW := qW_at 1015 (by decide +kernel) rfl
theorem ml_X0_38 : Cond.methodLink RX0 38 yX0_versionOf ∈ qW := qW_at 245 (by decide +kernel) rfl
theorem fl_X0_42 : Cond.fieldLink RX0 42 (TX4 16).1 (TX4 16).2.1 (TX4 16).2.2.1 ∈ qW := qW_at 957 (by decide +kernel) rfl
theorem fl_X0_46 : Cond.fieldLink RX0 46 (TX4 15).1 (TX4 15).2.1 (TX4 15).2.2.1 ∈ qW := qW_at 954 (by decide +kernel) rfl
theorem ml_X0_49 : Cond.methodLinkNest RX0 49 yX6_isIn "MeetingServer" ∈ qN := qN_at 249 (by decide +kernel) rfl
theorem ml_X0_53 : Cond.methodLink RX0 53 yX4_standOf ∈ qW := qW_at 272 (by decide +kernel) rfl
theorem ml_X0_57 : Cond.methodLink RX0 57 yX3_answerFor ∈ qW := qW_at 276 (by decide +kernel) rfl
theorem ml_X0_61 : Cond.methodLink RX0 61 yX0_versionThere ∈ qW := qW_at 588 (by decide +kernel) rfl
theorem fl_X0_64 : Cond.fieldLink RX0 64 (TX4 0).1 (TX4 0).2.1 (TX4 0).2.2.1 ∈ qW := qW_at 932 (by decide +kernel) rfl
theorem fl_X0_67 : Cond.fieldLink RX0 67 (TX4 11).1 (TX4 11).2.1 (TX4 11).2.2.1 ∈ qW := qW_at 946 (by decide +kernel) rfl
theorem ml_X0_71 : Cond.methodLink RX0 71 yX0_answerAsOwn ∈ qW := qW_at 589 (by decide +kernel) rfl
theorem ml_X0_75 : Cond.methodLink RX0 75 yX0_answerAsKnown ∈ qW := qW_at 590 (by decide +kernel) rfl
theorem fl_X0_79 : Cond.fieldLink RX0 79 (TX4 14).1 (TX4 14).2.1 (TX4 14).2.2.1 ∈ qW := qW_at 951 (by decide +kernel) rfl
theorem ml_X6_1 : Cond.methodLink RX6 1 Lib.objectInit ∈ qW := qW_at 60 (by decide +kernel) rfl
theorem cl_X6_9 : Cond.classLink RX6 9 RX5 ∈ qW := qW_at 63 (by decide +kernel) rfl
theorem fl_X6_11 : Cond.fieldLink RX6 11 (TX6 0).1 (TX6 0).2.1 (TX6 0).2.2.1 ∈ qW := qW_at 109 (by decide +kernel) rfl
theorem cl_X6_15 : Cond.classLink RX6 15 RX2 ∈ qW := qW_at 65 (by decide +kernel) rfl
theorem fl_X6_17 : Cond.fieldLink RX6 17 (TX6 1).1 (TX6 1).2.1 (TX6 1).2.2.1 ∈ qW := qW_at 110 (by decide +kernel) rfl
theorem cl_X6_21 : Cond.classLink RX6 21 RX0 ∈ qW := qW_at 67 (by decide +kernel) rfl
theorem fl_X6_23 : Cond.fieldLink RX6 23 (TX6 2).1 (TX6 2).2.1 (TX6 2).2.2.1 ∈ qW := qW_at 111 (by decide +kernel) rfl
theorem cl_X6_27 : Cond.classLink RX6 27 RX1 ∈ qW := qW_at 69 (by decide +kernel) rfl
theorem fl_X6_29 : Cond.fieldLink RX6 29 (TX6 3).1 (TX6 3).2.1 (TX6 3).2.2.1 ∈ qW := qW_at 112 (by decide +kernel) rfl
theorem fl_X6_33 : Cond.fieldLink RX6 33 (TX6 7).1 (TX6 7).2.1 (TX6 7).2.2.1 ∈ qW := qW_at 116 (by decide +kernel) rfl
theorem fl_X6_37 : Cond.fieldLink RX6 37 (TX6 8).1 (TX6 8).2.1 (TX6 8).2.2.1 ∈ qW := qW_at 117 (by decide +kernel) rfl
theorem ml_X6_41 : Cond.methodLinkNest RX6 41 yX5_init "MeetingServer" ∈ qN := qN_at 72 (by decide +kernel) rfl
theorem ml_X6_42 : Cond.methodLinkNest RX6 42 yX2_init "MeetingServer" ∈ qN := qN_at 92 (by decide +kernel) rfl
theorem tk_X6_281_283 : Cond.classLink RX6 281 (qex 1) ∈ qW := qW_at 309 (by decide +kernel) rfl
theorem ti_1 : Cond.initialized (qex 1) ∈ qW := qW_at 35 (by decide +kernel) rfl
set_option maxRecDepth 100000 in
theorem ta_X6_281_283 : ∀ w ∈ vx_at0 RX6 283 (qex 1) qnm, w ∈ qW ∨ w ∈ qN := by
  have h : (vx_at0 RX6 283 (qex 1) qnm).all (fun w => decide (w ∈ lw_tbl) && (goodWord w || qNk w)) = true := by decide +kernel
  intro w hw
  have h1 := List.all_eq_true.mp h w hw
  simp only [Bool.and_eq_true, decide_eq_true_eq, Bool.or_eq_true] at h1
  rcases h1.2 with g | g
  · exact Or.inl (qW_of h1.1 g)
  · exact Or.inr (List.mem_filter.mpr ⟨h1.1, g⟩)
set_option maxRecDepth 100000 in
theorem tg_X6_281_283 : ∀ w ∈ Cond.classLink RX6 281 (qex 1) :: Cond.initialized (qex 1) :: vx_at0 RX6 283 (qex 1) qnm, vx_ot w = true := by decide +kernel
theorem ml_X6_43 : Cond.methodLink RX6 43 yX6_zoneNumbered ∈ qW := qW_at 381 (by decide +kernel) rfl
theorem tk_X6_351_353 : Cond.classLink RX6 351 (qex 2) ∈ qW := qW_at 167 (by decide +kernel) rfl
theorem ti_2 : Cond.initialized (qex 2) ∈ qW := qW_at 36 (by decide +kernel) rfl
set_option maxRecDepth 100000 in
theorem ta_X6_351_353 : ∀ w ∈ vx_at0 RX6 353 (qex 2) qnm, w ∈ qW ∨ w ∈ qN := by
  have h : (vx_at0 RX6 353 (qex 2) qnm).all (fun w => decide (w ∈ lw_tbl) && (goodWord w || qNk w)) = true := by decide +kernel
  intro w hw
  have h1 := List.all_eq_true.mp h w hw
  simp only [Bool.and_eq_true, decide_eq_true_eq, Bool.or_eq_true] at h1
  rcases h1.2 with g | g
  · exact Or.inl (qW_of h1.1 g)
  · exact Or.inr (List.mem_filter.mpr ⟨h1.1, g⟩)
set_option maxRecDepth 100000 in
theorem tg_X6_351_353 : ∀ w ∈ Cond.classLink RX6 351 (qex 2) :: Cond.initialized (qex 2) :: vx_at0 RX6 353 (qex 2) qnm, vx_ot w = true := by decide +kernel
theorem ml_X6_144 : Cond.methodLink RX6 144 yX6_needArgument ∈ qW := qW_at 164 (by decide +kernel) rfl
theorem ml_X6_47 : Cond.methodLink RX6 47 yX6_needRange ∈ qW := qW_at 161 (by decide +kernel) rfl
theorem fl_X6_51 : Cond.fieldLink RX6 51 (TX5 0).1 (TX5 0).2.1 (TX5 0).2.2.1 ∈ qW := qW_at 77 (by decide +kernel) rfl
theorem ml_X6_210 : Cond.methodLink RX6 210 yX6_isDay ∈ qW := qW_at 457 (by decide +kernel) rfl
theorem ml_X6_55 : Cond.methodLink RX6 55 yX6_needDay ∈ qW := qW_at 454 (by decide +kernel) rfl
theorem fl_X6_59 : Cond.fieldLink RX6 59 (TX5 1).1 (TX5 1).2.1 (TX5 1).2.2.1 ∈ qW := qW_at 79 (by decide +kernel) rfl
theorem fl_X6_62 : Cond.fieldLink RX6 62 (TX5 2).1 (TX5 2).2.1 (TX5 2).2.2.1 ∈ qW := qW_at 81 (by decide +kernel) rfl
theorem ml_X6_65 : Cond.methodLink RX6 65 yX5_toCommon ∈ qW := qW_at 396 (by decide +kernel) rfl
theorem ml_X6_69 : Cond.methodLink RX6 69 yX5_toLocal ∈ qW := qW_at 385 (by decide +kernel) rfl
theorem ml_X6_72 : Cond.methodLink RX6 72 yX6_needPerson ∈ qW := qW_at 306 (by decide +kernel) rfl
theorem ml_X6_75 : Cond.methodLink RX6 75 yX6_needTime ∈ qW := qW_at 898 (by decide +kernel) rfl
theorem tk_X6_354_356 : Cond.classLink RX6 354 (qex 3) ∈ qW := qW_at 340 (by decide +kernel) rfl
theorem ti_3 : Cond.initialized (qex 3) ∈ qW := qW_at 37 (by decide +kernel) rfl
set_option maxRecDepth 100000 in
theorem ta_X6_354_356 : ∀ w ∈ vx_at0 RX6 356 (qex 3) qnm, w ∈ qW ∨ w ∈ qN := by
  have h : (vx_at0 RX6 356 (qex 3) qnm).all (fun w => decide (w ∈ lw_tbl) && (goodWord w || qNk w)) = true := by decide +kernel
  intro w hw
  have h1 := List.all_eq_true.mp h w hw
  simp only [Bool.and_eq_true, decide_eq_true_eq, Bool.or_eq_true] at h1
  rcases h1.2 with g | g
  · exact Or.inl (qW_of h1.1 g)
  · exact Or.inr (List.mem_filter.mpr ⟨h1.1, g⟩)
set_option maxRecDepth 100000 in
theorem tg_X6_354_356 : ∀ w ∈ Cond.classLink RX6 354 (qex 3) :: Cond.initialized (qex 3) :: vx_at0 RX6 356 (qex 3) qnm, vx_ot w = true := by decide +kernel
theorem fl_X6_78 : Cond.fieldLink RX6 78 (TX6 4).1 (TX6 4).2.1 (TX6 4).2.2.1 ∈ qW := qW_at 113 (by decide +kernel) rfl
theorem ml_X6_81 : Cond.methodLink RX6 81 yX6_needState ∈ qW := qW_at 337 (by decide +kernel) rfl
theorem cl_X6_85 : Cond.classLink RX6 85 RX4 ∈ qW := qW_at 902 (by decide +kernel) rfl
theorem ml_X6_87 : Cond.methodLink RX6 87 yX4_init ∈ qW := qW_at 904 (by decide +kernel) rfl
theorem ml_X6_90 : Cond.methodLink RX6 90 yX0_init ∈ qW := qW_at 994 (by decide +kernel) rfl
theorem fl_X6_93 : Cond.fieldLink RX6 93 (TX0 0).1 (TX0 0).2.1 (TX0 0).2.2.1 ∈ qW := qW_at 1012 (by decide +kernel) rfl
theorem fl_X6_335 : Cond.fieldLink RX6 335 (TX2 0).1 (TX2 0).2.1 (TX2 0).2.2.1 ∈ qW := qW_at 97 (by decide +kernel) rfl
theorem fl_X6_345 : Cond.fieldLink RX6 345 (TX2 2).1 (TX2 2).2.1 (TX2 2).2.2.1 ∈ qW := qW_at 101 (by decide +kernel) rfl
theorem ml_X6_269 : Cond.methodLink RX6 269 yX0_versionThere ∈ qW := qW_at 241 (by decide +kernel) rfl
theorem ml_X6_360 : Cond.methodLink RX6 360 yX2_forget ∈ qW := qW_at 631 (by decide +kernel) rfl
theorem ml_X6_96 : Cond.methodLink RX6 96 yX6_markEntry ∈ qW := qW_at 627 (by decide +kernel) rfl
theorem ml_X6_100 : Cond.methodLink RX6 100 yX6_meetingNumbered ∈ qW := qW_at 421 (by decide +kernel) rfl
theorem fl_X6_104 : Cond.fieldLink RX6 104 (TX0 2).1 (TX0 2).2.1 (TX0 2).2.2.1 ∈ qW := qW_at 1016 (by decide +kernel) rfl
theorem fl_X6_108 : Cond.fieldLink RX6 108 (TX4 16).1 (TX4 16).2.1 (TX4 16).2.2.1 ∈ qW := qW_at 958 (by decide +kernel) rfl
theorem fl_X6_141 : Cond.fieldLink RX6 141 (TX0 1).1 (TX0 1).2.1 (TX0 1).2.2.1 ∈ qW := qW_at 1014 (by decide +kernel) rfl
theorem fl_X6_275 : Cond.fieldLink RX6 275 (TX4 0).1 (TX4 0).2.1 (TX4 0).2.2.1 ∈ qW := qW_at 933 (by decide +kernel) rfl
theorem ml_X6_112 : Cond.methodLink RX6 112 yX4_withTime ∈ qW := qW_at 1063 (by decide +kernel) rfl
theorem ml_X6_116 : Cond.methodLink RX6 116 yX6_putVersion ∈ qW := qW_at 1071 (by decide +kernel) rfl
theorem ml_X6_120 : Cond.methodLink RX6 120 yX4_withRule ∈ qW := qW_at 1085 (by decide +kernel) rfl
theorem ml_X6_123 : Cond.methodLink RX6 123 yX4_isDate ∈ qW := qW_at 461 (by decide +kernel) rfl
theorem ml_X6_127 : Cond.methodLink RX6 127 yX4_withoutDate ∈ qW := qW_at 1097 (by decide +kernel) rfl
theorem ml_X6_131 : Cond.methodLink RX6 131 yX4_withDate ∈ qW := qW_at 1117 (by decide +kernel) rfl
theorem ml_X6_134 : Cond.methodLink RX6 134 yX6_needDateHour ∈ qW := qW_at 1132 (by decide +kernel) rfl
theorem ml_X6_137 : Cond.methodLink RX6 137 yX4_withMove ∈ qW := qW_at 1135 (by decide +kernel) rfl
theorem fl_X6_147 : Cond.fieldLink RX6 147 (TX4 14).1 (TX4 14).2.1 (TX4 14).2.2.1 ∈ qW := qW_at 952 (by decide +kernel) rfl
theorem fl_X6_150 : Cond.fieldLink RX6 150 (TX4 15).1 (TX4 15).2.1 (TX4 15).2.2.1 ∈ qW := qW_at 955 (by decide +kernel) rfl
theorem ml_X6_153 : Cond.methodLink RX6 153 yX6_isIn ∈ qW := qW_at 234 (by decide +kernel) rfl
theorem ml_X6_157 : Cond.methodLink RX6 157 yX4_withInvited ∈ qW := qW_at 1146 (by decide +kernel) rfl
theorem ml_X6_160 : Cond.methodLink RX6 160 yX4_withLeftOut ∈ qW := qW_at 1150 (by decide +kernel) rfl
theorem ml_X6_163 : Cond.methodLink RX6 163 yX4_withCancel ∈ qW := qW_at 1161 (by decide +kernel) rfl
theorem fl_X6_388 : Cond.fieldLink RX6 388 (TX0 5).1 (TX0 5).2.1 (TX0 5).2.2.1 ∈ qW := qW_at 1021 (by decide +kernel) rfl
theorem ml_X6_391 : Cond.methodLink RX6 391 yX3_keptFor ∈ qW := qW_at 501 (by decide +kernel) rfl
theorem ml_X6_395 : Cond.methodLink RX6 395 yX1_delegateBy ∈ qW := qW_at 502 (by decide +kernel) rfl
theorem ml_X6_398 : Cond.methodLink RX6 398 yX0_askedIf ∈ qW := qW_at 505 (by decide +kernel) rfl
theorem ml_X6_167 : Cond.methodLink RX6 167 yX6_askedOf ∈ qW := qW_at 497 (by decide +kernel) rfl
theorem fl_X6_171 : Cond.fieldLink RX6 171 (TX0 4).1 (TX0 4).2.1 (TX0 4).2.2.1 ∈ qW := qW_at 1019 (by decide +kernel) rfl
theorem kc_J6_265 : Cond.constant RJ6 265 (1431655765) ∈ qW := qW_at 1178 (by decide +kernel) rfl
theorem kc_J6_266 : Cond.constant RJ6 266 (858993459) ∈ qW := qW_at 1179 (by decide +kernel) rfl
theorem kc_J6_267 : Cond.constant RJ6 267 (252645135) ∈ qW := qW_at 1180 (by decide +kernel) rfl
theorem ml_X6_174 : Cond.methodLink RX6 174 yJ6_bitCount_0f7a4 ∈ qW := qW_at 1175 (by decide +kernel) rfl
theorem fl_X6_245 : Cond.fieldLink RX6 245 (TX6 5).1 (TX6 5).2.1 (TX6 5).2.2.1 ∈ qW := qW_at 114 (by decide +kernel) rfl
theorem ml_X6_179 : Cond.methodLink RX6 179 yX6_needRoom ∈ qW := qW_at 1181 (by decide +kernel) rfl
theorem ml_X6_217 : Cond.methodLink RX6 217 yX1_init ∈ qW := qW_at 1190 (by decide +kernel) rfl
theorem ml_X6_230 : Cond.methodLink RX6 230 yX6_putMessage ∈ qW := qW_at 1243 (by decide +kernel) rfl
theorem ml_X6_182 : Cond.methodLink RX6 182 yX6_putRequest ∈ qW := qW_at 1185 (by decide +kernel) rfl
theorem ml_X6_186 : Cond.methodLink RX6 186 yX6_messageNumbered ∈ qW := qW_at 566 (by decide +kernel) rfl
theorem fl_X6_197 : Cond.fieldLink RX6 197 (TX1 1).1 (TX1 1).2.1 (TX1 1).2.2.1 ∈ qW := qW_at 1197 (by decide +kernel) rfl
theorem fl_X6_236 : Cond.fieldLink RX6 236 (TX1 0).1 (TX1 0).2.1 (TX1 0).2.2.1 ∈ qW := qW_at 1195 (by decide +kernel) rfl
theorem fl_X6_233 : Cond.fieldLink RX6 233 (TX1 10).1 (TX1 10).2.1 (TX1 10).2.2.1 ∈ qW := qW_at 1216 (by decide +kernel) rfl
theorem fl_X6_194 : Cond.fieldLink RX6 194 (TX1 11).1 (TX1 11).2.1 (TX1 11).2.2.1 ∈ qW := qW_at 1217 (by decide +kernel) rfl
theorem fl_X6_201 : Cond.fieldLink RX6 201 (TX1 5).1 (TX1 5).2.1 (TX1 5).2.2.1 ∈ qW := qW_at 1207 (by decide +kernel) rfl
theorem ml_X6_306 : Cond.methodLink RX6 306 yX4_standOf ∈ qW := qW_at 536 (by decide +kernel) rfl
theorem fl_X6_381 : Cond.fieldLink RX6 381 (TX1 4).1 (TX1 4).2.1 (TX1 4).2.2.1 ∈ qW := qW_at 1204 (by decide +kernel) rfl
theorem ml_X6_190 : Cond.methodLink RX6 190 yX6_isOpen ∈ qW := qW_at 549 (by decide +kernel) rfl
theorem fl_X6_204 : Cond.fieldLink RX6 204 (TX1 6).1 (TX1 6).2.1 (TX1 6).2.2.1 ∈ qW := qW_at 1209 (by decide +kernel) rfl
theorem ml_X6_207 : Cond.methodLink RX6 207 yX6_openProposals ∈ qW := qW_at 545 (by decide +kernel) rfl
theorem ml_X6_213 : Cond.methodLink RX6 213 yX6_copyThere ∈ qW := qW_at 1254 (by decide +kernel) rfl
theorem fl_X6_220 : Cond.fieldLink RX6 220 (TX1 7).1 (TX1 7).2.1 (TX1 7).2.2.1 ∈ qW := qW_at 1211 (by decide +kernel) rfl
theorem fl_X6_363 : Cond.fieldLink RX6 363 (TX6 6).1 (TX6 6).2.1 (TX6 6).2.2.1 ∈ qW := qW_at 115 (by decide +kernel) rfl
theorem fl_X6_366 : Cond.fieldLink RX6 366 (TX1 9).1 (TX1 9).2.1 (TX1 9).2.2.1 ∈ qW := qW_at 1215 (by decide +kernel) rfl
theorem fl_X6_369 : Cond.fieldLink RX6 369 (TX0 6).1 (TX0 6).2.1 (TX0 6).2.2.1 ∈ qW := qW_at 1023 (by decide +kernel) rfl
theorem ml_X6_373 : Cond.methodLink RX6 373 yX3_keep ∈ qW := qW_at 639 (by decide +kernel) rfl
theorem fl_X6_378 : Cond.fieldLink RX6 378 (TX1 2).1 (TX1 2).2.1 (TX1 2).2.2.1 ∈ qW := qW_at 1200 (by decide +kernel) rfl
theorem ml_X6_223 : Cond.methodLink RX6 223 yX6_putReply ∈ qW := qW_at 1257 (by decide +kernel) rfl
theorem fl_X6_227 : Cond.fieldLink RX6 227 (TX1 8).1 (TX1 8).2.1 (TX1 8).2.2.1 ∈ qW := qW_at 1213 (by decide +kernel) rfl
theorem fl_X6_248 : Cond.fieldLink RX6 248 (TX1 3).1 (TX1 3).2.1 (TX1 3).2.2.1 ∈ qW := qW_at 1202 (by decide +kernel) rfl
theorem ml_X6_272 : Cond.methodLink RX6 272 yX0_versionOf ∈ qW := qW_at 425 (by decide +kernel) rfl
theorem fl_X6_384 : Cond.fieldLink RX6 384 (TX0 3).1 (TX0 3).2.1 (TX0 3).2.2.1 ∈ qW := qW_at 1018 (by decide +kernel) rfl
theorem ml_X6_239 : Cond.methodLink RX6 239 yX6_takeCopy ∈ qW := qW_at 623 (by decide +kernel) rfl
theorem ml_X6_242 : Cond.methodLink RX6 242 yX6_keepReply ∈ qW := qW_at 635 (by decide +kernel) rfl
theorem fl_X6_278 : Cond.fieldLink RX6 278 (TX4 11).1 (TX4 11).2.1 (TX4 11).2.2.1 ∈ qW := qW_at 947 (by decide +kernel) rfl
theorem ml_X6_284 : Cond.methodLink RX6 284 yX6_versionWithDate ∈ qW := qW_at 458 (by decide +kernel) rfl
theorem ml_X6_288 : Cond.methodLink RX6 288 yX4_beginOf ∈ qW := qW_at 250 (by decide +kernel) rfl
theorem ml_X6_291 : Cond.methodLink RX6 291 yX0_answerAsOwn ∈ qW := qW_at 472 (by decide +kernel) rfl
theorem ml_X6_295 : Cond.methodLink RX6 295 yX0_answerAsKnown ∈ qW := qW_at 516 (by decide +kernel) rfl
theorem ml_X6_402 : Cond.methodLink RX6 402 yX1_isNewerThan ∈ qW := qW_at 535 (by decide +kernel) rfl
theorem ml_X6_302 : Cond.methodLink RX6 302 yX6_newestInLog ∈ qW := qW_at 531 (by decide +kernel) rfl
theorem ml_X6_299 : Cond.methodLink RX6 299 yX6_askedByLog ∈ qW := qW_at 527 (by decide +kernel) rfl
theorem ml_X6_309 : Cond.methodLink RX6 309 yX1_answerBy ∈ qW := qW_at 537 (by decide +kernel) rfl
theorem ml_X6_313 : Cond.methodLink RX6 313 yX0_isAgreedWith ∈ qW := qW_at 584 (by decide +kernel) rfl
theorem ml_X6_261 : Cond.methodLink RX6 261 yX6_needPlace ∈ qW := qW_at 407 (by decide +kernel) rfl
theorem fl_X6_405 : Cond.fieldLink RX6 405 (TX4 4).1 (TX4 4).2.1 (TX4 4).2.2.1 ∈ qW := qW_at 938 (by decide +kernel) rfl
theorem ml_X6_407 : Cond.methodLink RX6 407 yX0_rankByDate ∈ qW := qW_at 268 (by decide +kernel) rfl
theorem ml_X6_320 : Cond.methodLink RX6 320 Lib.Math.max.name ∈ qW := qW_at 294 (by decide +kernel) rfl
theorem ml_X6_316 : Cond.methodLink RX6 316 yX6_rankIn ∈ qW := qW_at 483 (by decide +kernel) rfl
theorem ml_X6_325 : Cond.methodLink RX6 325 yX6_needSearch ∈ qW := qW_at 158 (by decide +kernel) rfl
theorem ml_X6_410 : Cond.methodLink RX6 410 yX6_behindBusyIn ∈ qW := qW_at 237 (by decide +kernel) rfl
theorem ml_X6_328 : Cond.methodLink RX6 328 yX6_behindBusy ∈ qW := qW_at 230 (by decide +kernel) rfl
theorem ml_X6_414 : Cond.methodLink RX6 414 yJ7_fill_031fb ∈ qW := qW_at 605 (by decide +kernel) rfl
theorem ml_X6_424 : Cond.methodLink RX6 424 yX6_paintHours ∈ qW := qW_at 612 (by decide +kernel) rfl
theorem ml_X6_420 : Cond.methodLink RX6 420 yX6_paintBusyHoursIn ∈ qW := qW_at 608 (by decide +kernel) rfl
theorem ml_X6_332 : Cond.methodLink RX6 332 yX6_paintBusyHours ∈ qW := qW_at 601 (by decide +kernel) rfl
theorem fl_X6_357 : Cond.fieldLink RX6 357 (TX2 1).1 (TX2 1).2.1 (TX2 1).2.2.1 ∈ qW := qW_at 99 (by decide +kernel) rfl
theorem ml_X6_338 : Cond.methodLink RX6 338 yX6_personAskedFrom ∈ qW := qW_at 333 (by decide +kernel) rfl
theorem ml_X6_342 : Cond.methodLink RX6 342 yX2_entriesAbove ∈ qW := qW_at 355 (by decide +kernel) rfl
theorem ml_X6_348 : Cond.methodLink RX6 348 yX2_entriesBetween ∈ qW := qW_at 410 (by decide +kernel) rfl
