theorem dX5_perform_81 : decode cX5_perform 81 = .ok (.aload_n 0, 1) := by decide +kernel
theorem dX5_perform_82 : decode cX5_perform 82 = .ok (.getfield 22, 3) := by decide +kernel
theorem dX5_perform_85 : decode cX5_perform 85 = .ok (.aload_n 0, 1) := by decide +kernel
theorem dX5_perform_86 : decode cX5_perform 86 = .ok (.getfield 10, 3) := by decide +kernel
theorem dX5_perform_89 : decode cX5_perform 89 = .ok (.invokevirtual 398, 3) := by decide +kernel
theorem dX5_perform_92 : decode cX5_perform 92 = .ok (.new 202, 3) := by decide +kernel
theorem dX5_perform_95 : decode cX5_perform 95 = .ok (.dup, 1) := by decide +kernel
theorem dX5_perform_96 : decode cX5_perform 96 = .ok (.ldc_w 401, 3) := by decide +kernel
theorem dX5_perform_99 : decode cX5_perform 99 = .ok (.invokespecial 206, 3) := by decide +kernel
theorem dX5_perform_102 : decode cX5_perform 102 = .ok (.athrow, 1) := by decide +kernel
theorem dX5_perform_103 : decode cX5_perform 103 = .ok (.iinc 2 1, 3) := by decide +kernel
theorem dX5_perform_106 : decode cX5_perform 106 = .ok (.goto (-47), 3) := by decide +kernel
theorem dX5_perform_109 : decode cX5_perform 109 = .ok (.aload_n 0, 1) := by decide +kernel
theorem dX5_perform_110 : decode cX5_perform 110 = .ok (.getfield 22, 3) := by decide +kernel
theorem dX5_perform_113 : decode cX5_perform 113 = .ok (.invokevirtual 403, 3) := by decide +kernel
theorem dX5_perform_116 : decode cX5_perform 116 = .ok (.aload_n 0, 1) := by decide +kernel
theorem dX5_perform_117 : decode cX5_perform 117 = .ok (.getfield 36, 3) := by decide +kernel
theorem dX5_perform_120 : decode cX5_perform 120 = .ok (.getfield 392, 3) := by decide +kernel
theorem dX5_perform_123 : decode cX5_perform 123 = .ok (.invokevirtual 79, 3) := by decide +kernel
theorem dX5_perform_126 : decode cX5_perform 126 = .ok (.ireturn, 1) := by decide +kernel
theorem dX5_errorPosition_0 : decode cX5_errorPosition 0 = .ok (.aload_n 0, 1) := by decide +kernel
theorem dX5_errorPosition_1 : decode cX5_errorPosition 1 = .ok (.getfield 61, 3) := by decide +kernel
theorem dX5_errorPosition_4 : decode cX5_errorPosition 4 = .ok (.iconst (-1), 1) := by decide +kernel
theorem dX5_errorPosition_5 : decode cX5_errorPosition 5 = .ok (.if_icmp .ne 14, 3) := by decide +kernel
theorem dX5_errorPosition_8 : decode cX5_errorPosition 8 = .ok (.new 171, 3) := by decide +kernel
theorem dX5_errorPosition_11 : decode cX5_errorPosition 11 = .ok (.dup, 1) := by decide +kernel
theorem dX5_errorPosition_12 : decode cX5_errorPosition 12 = .ok (.ldc_w 406, 3) := by decide +kernel
theorem dX5_errorPosition_15 : decode cX5_errorPosition 15 = .ok (.invokespecial 175, 3) := by decide +kernel
theorem dX5_errorPosition_18 : decode cX5_errorPosition 18 = .ok (.athrow, 1) := by decide +kernel
theorem dX5_errorPosition_19 : decode cX5_errorPosition 19 = .ok (.aload_n 0, 1) := by decide +kernel
theorem dX5_errorPosition_20 : decode cX5_errorPosition 20 = .ok (.getfield 61, 3) := by decide +kernel
theorem dX5_errorPosition_23 : decode cX5_errorPosition 23 = .ok (.ireturn, 1) := by decide +kernel
set_option maxRecDepth 20000 in
theorem ggX5_undo_X0_stepBack : GoodIn wsX5_undo wsX0_stepBack := goodIn_r _ [10, 11, 12, 13, 14, 15, 16, 9, 17, 18, 19, 20, 21, 22, 23, 24, 25, 26, 27, 28, 29, 30, 31, 32, 33, 34, 35, 36, 37, 38, 39, 40, 41, 42, 43, 44, 45, 57, 58, 59, 60, 61, 62, 63, 64, 65, 66, 67, 68, 69, 70, 71] (by decide +kernel) (by decide +kernel)
set_option maxRecDepth 20000 in
theorem gX5_undo_X0_stepBack : GoodIn wsX5_undo (wsV RX5 413 RX0 yX0_stepBack wsX0_stepBack) := goodIn_app (goodIn_of _ (by decide +kernel)) ggX5_undo_X0_stepBack
theorem dX5_undo_0 : decode cX5_undo 0 = .ok (.aload_n 0, 1) := by decide +kernel
theorem dX5_undo_1 : decode cX5_undo 1 = .ok (.getfield 22, 3) := by decide +kernel
theorem dX5_undo_4 : decode cX5_undo 4 = .ok (.getfield 408, 3) := by decide +kernel
theorem dX5_undo_7 : decode cX5_undo 7 = .ok (.ifCond .ne 14, 3) := by decide +kernel
theorem dX5_undo_10 : decode cX5_undo 10 = .ok (.new 85, 3) := by decide +kernel
theorem dX5_undo_13 : decode cX5_undo 13 = .ok (.dup, 1) := by decide +kernel
theorem dX5_undo_14 : decode cX5_undo 14 = .ok (.ldc_w 411, 3) := by decide +kernel
theorem dX5_undo_17 : decode cX5_undo 17 = .ok (.invokespecial 89, 3) := by decide +kernel
theorem dX5_undo_20 : decode cX5_undo 20 = .ok (.athrow, 1) := by decide +kernel
theorem dX5_undo_21 : decode cX5_undo 21 = .ok (.aload_n 0, 1) := by decide +kernel
theorem dX5_undo_22 : decode cX5_undo 22 = .ok (.getfield 22, 3) := by decide +kernel
theorem dX5_undo_25 : decode cX5_undo 25 = .ok (.aload_n 0, 1) := by decide +kernel
theorem dX5_undo_26 : decode cX5_undo 26 = .ok (.getfield 10, 3) := by decide +kernel
theorem dX5_undo_29 : decode cX5_undo 29 = .ok (.invokevirtual 413, 3) := by decide +kernel
theorem dX5_undo_32 : decode cX5_undo 32 = .ok (.aload_n 0, 1) := by decide +kernel
theorem dX5_undo_33 : decode cX5_undo 33 = .ok (.getfield 22, 3) := by decide +kernel
theorem dX5_undo_36 : decode cX5_undo 36 = .ok (.getfield 408, 3) := by decide +kernel
theorem dX5_undo_39 : decode cX5_undo 39 = .ok (.ireturn, 1) := by decide +kernel
set_option maxRecDepth 20000 in
theorem ggX5_save_X3_copyFrom : GoodIn wsX5_save wsX3_copyFrom := goodIn_r _ [9, 10, 11, 12, 13, 14, 15, 16, 17, 18, 19, 20, 21, 22, 23, 24, 25, 26, 27, 28, 29, 30, 31, 32, 48, 49, 50, 51, 52, 53, 54, 55, 56, 57, 58, 59] (by decide +kernel) (by decide +kernel)
set_option maxRecDepth 20000 in
theorem gX5_save_X3_copyFrom : GoodIn wsX5_save (wsV RX5 416 RX3 yX3_copyFrom wsX3_copyFrom) := goodIn_app (goodIn_of _ (by decide +kernel)) ggX5_save_X3_copyFrom
set_option maxRecDepth 20000 in
theorem ggX5_save_X4_size : GoodIn wsX5_save wsX4_size := goodIn_r _ [36, 23, 56, 57, 58, 59] (by decide +kernel) (by decide +kernel)
set_option maxRecDepth 20000 in
theorem gX5_save_X4_size : GoodIn wsX5_save (wsV RX5 79 RX4 yX4_size wsX4_size) := goodIn_app (goodIn_of _ (by decide +kernel)) ggX5_save_X4_size
theorem dX5_save_0 : decode cX5_save 0 = .ok (.aload_n 0, 1) := by decide +kernel
theorem dX5_save_1 : decode cX5_save 1 = .ok (.getfield 16, 3) := by decide +kernel
theorem dX5_save_4 : decode cX5_save 4 = .ok (.aload_n 0, 1) := by decide +kernel
theorem dX5_save_5 : decode cX5_save 5 = .ok (.getfield 10, 3) := by decide +kernel
theorem dX5_save_8 : decode cX5_save 8 = .ok (.invokevirtual 416, 3) := by decide +kernel
theorem dX5_save_11 : decode cX5_save 11 = .ok (.aload_n 0, 1) := by decide +kernel
theorem dX5_save_12 : decode cX5_save 12 = .ok (.iconst 1, 1) := by decide +kernel
theorem dX5_save_13 : decode cX5_save 13 = .ok (.putfield 50, 3) := by decide +kernel
theorem dX5_save_16 : decode cX5_save 16 = .ok (.aload_n 0, 1) := by decide +kernel
theorem dX5_save_17 : decode cX5_save 17 = .ok (.getfield 10, 3) := by decide +kernel
theorem dX5_save_20 : decode cX5_save 20 = .ok (.getfield 210, 3) := by decide +kernel
theorem dX5_save_23 : decode cX5_save 23 = .ok (.invokevirtual 79, 3) := by decide +kernel
theorem dX5_save_26 : decode cX5_save 26 = .ok (.ireturn, 1) := by decide +kernel
set_option maxRecDepth 20000 in
theorem ggX5_restore_X3_copyFrom : GoodIn wsX5_restore wsX3_copyFrom := goodIn_r _ [12, 13, 14, 15, 16, 17, 18, 19, 20, 21, 22, 23, 24, 25, 26, 27, 28, 29, 30, 31, 32, 33, 34, 35, 57, 58, 59, 60, 61, 62, 63, 64, 65, 66, 67, 68] (by decide +kernel) (by decide +kernel)
set_option maxRecDepth 20000 in
theorem gX5_restore_X3_copyFrom : GoodIn wsX5_restore (wsV RX5 416 RX3 yX3_copyFrom wsX3_copyFrom) := goodIn_app (goodIn_of _ (by decide +kernel)) ggX5_restore_X3_copyFrom
set_option maxRecDepth 20000 in
theorem ggX5_restore_X0_forget : GoodIn wsX5_restore wsX0_forget := goodIn_r _ [40, 41, 69, 70, 71] (by decide +kernel) (by decide +kernel)
set_option maxRecDepth 20000 in
theorem gX5_restore_X0_forget : GoodIn wsX5_restore (wsV RX5 421 RX0 yX0_forget wsX0_forget) := goodIn_app (goodIn_of _ (by decide +kernel)) ggX5_restore_X0_forget
set_option maxRecDepth 20000 in
theorem ggX5_restore_X4_size : GoodIn wsX5_restore wsX4_size := goodIn_r _ [45, 26, 65, 66, 67, 68] (by decide +kernel) (by decide +kernel)
set_option maxRecDepth 20000 in
theorem gX5_restore_X4_size : GoodIn wsX5_restore (wsV RX5 79 RX4 yX4_size wsX4_size) := goodIn_app (goodIn_of _ (by decide +kernel)) ggX5_restore_X4_size
theorem dX5_restore_0 : decode cX5_restore 0 = .ok (.aload_n 0, 1) := by decide +kernel
theorem dX5_restore_1 : decode cX5_restore 1 = .ok (.getfield 50, 3) := by decide +kernel
theorem dX5_restore_4 : decode cX5_restore 4 = .ok (.ifCond .ne 14, 3) := by decide +kernel
theorem dX5_restore_7 : decode cX5_restore 7 = .ok (.new 85, 3) := by decide +kernel
theorem dX5_restore_10 : decode cX5_restore 10 = .ok (.dup, 1) := by decide +kernel
theorem dX5_restore_11 : decode cX5_restore 11 = .ok (.ldc_w 419, 3) := by decide +kernel
theorem dX5_restore_14 : decode cX5_restore 14 = .ok (.invokespecial 89, 3) := by decide +kernel
theorem dX5_restore_17 : decode cX5_restore 17 = .ok (.athrow, 1) := by decide +kernel
theorem dX5_restore_18 : decode cX5_restore 18 = .ok (.aload_n 0, 1) := by decide +kernel
theorem dX5_restore_19 : decode cX5_restore 19 = .ok (.getfield 10, 3) := by decide +kernel
theorem dX5_restore_22 : decode cX5_restore 22 = .ok (.aload_n 0, 1) := by decide +kernel
theorem dX5_restore_23 : decode cX5_restore 23 = .ok (.getfield 16, 3) := by decide +kernel
theorem dX5_restore_26 : decode cX5_restore 26 = .ok (.invokevirtual 416, 3) := by decide +kernel
theorem dX5_restore_29 : decode cX5_restore 29 = .ok (.aload_n 0, 1) := by decide +kernel
theorem dX5_restore_30 : decode cX5_restore 30 = .ok (.getfield 22, 3) := by decide +kernel
theorem dX5_restore_33 : decode cX5_restore 33 = .ok (.invokevirtual 421, 3) := by decide +kernel
theorem dX5_restore_36 : decode cX5_restore 36 = .ok (.aload_n 0, 1) := by decide +kernel
theorem dX5_restore_37 : decode cX5_restore 37 = .ok (.getfield 10, 3) := by decide +kernel
theorem dX5_restore_40 : decode cX5_restore 40 = .ok (.getfield 210, 3) := by decide +kernel
theorem dX5_restore_43 : decode cX5_restore 43 = .ok (.invokevirtual 79, 3) := by decide +kernel
theorem dX5_restore_46 : decode cX5_restore 46 = .ok (.ireturn, 1) := by decide +kernel
theorem dX5_isWithin_0 : decode cX5_isWithin 0 = .ok (.iload_n 0, 1) := by decide +kernel
theorem dX5_isWithin_1 : decode cX5_isWithin 1 = .ok (.iload_n 1, 1) := by decide +kernel
theorem dX5_isWithin_2 : decode cX5_isWithin 2 = .ok (.if_icmp .lt 12, 3) := by decide +kernel
theorem dX5_isWithin_5 : decode cX5_isWithin 5 = .ok (.iload_n 0, 1) := by decide +kernel
theorem dX5_isWithin_6 : decode cX5_isWithin 6 = .ok (.iload_n 2, 1) := by decide +kernel
theorem dX5_isWithin_7 : decode cX5_isWithin 7 = .ok (.if_icmp .gt 7, 3) := by decide +kernel
theorem dX5_isWithin_10 : decode cX5_isWithin 10 = .ok (.iconst 1, 1) := by decide +kernel
theorem dX5_isWithin_11 : decode cX5_isWithin 11 = .ok (.goto 4, 3) := by decide +kernel
theorem dX5_isWithin_14 : decode cX5_isWithin 14 = .ok (.iconst 0, 1) := by decide +kernel
theorem dX5_isWithin_15 : decode cX5_isWithin 15 = .ok (.ireturn, 1) := by decide +kernel
set_option maxRecDepth 20000 in
theorem ggX5_isDay_X5_isWithin : GoodIn wsX5_isDay wsX5_isWithin := goodIn_r _ [4] (by decide +kernel) (by decide +kernel)
set_option maxRecDepth 20000 in
theorem gX5_isDay_X5_isWithin : GoodIn wsX5_isDay (va_wsS RX5 64 yX5_isWithin wsX5_isWithin) := goodIn_app (goodIn_of _ (by decide +kernel)) ggX5_isDay_X5_isWithin
theorem dX5_isDay_0 : decode cX5_isDay 0 = .ok (.iload_n 0, 1) := by decide +kernel
theorem dX5_isDay_1 : decode cX5_isDay 1 = .ok (.iconst 0, 1) := by decide +kernel
theorem dX5_isDay_2 : decode cX5_isDay 2 = .ok (.bipush 59, 2) := by decide +kernel
theorem dX5_isDay_4 : decode cX5_isDay 4 = .ok (.invokestatic 64, 3) := by decide +kernel
theorem dX5_isDay_7 : decode cX5_isDay 7 = .ok (.ireturn, 1) := by decide +kernel
set_option maxRecDepth 20000 in
theorem ggX5_isMinute_X5_isWithin : GoodIn wsX5_isMinute wsX5_isWithin := goodIn_r _ [4] (by decide +kernel) (by decide +kernel)
set_option maxRecDepth 20000 in
theorem gX5_isMinute_X5_isWithin : GoodIn wsX5_isMinute (va_wsS RX5 64 yX5_isWithin wsX5_isWithin) := goodIn_app (goodIn_of _ (by decide +kernel)) ggX5_isMinute_X5_isWithin
theorem dX5_isMinute_0 : decode cX5_isMinute 0 = .ok (.iload_n 0, 1) := by decide +kernel
theorem dX5_isMinute_1 : decode cX5_isMinute 1 = .ok (.iconst 0, 1) := by decide +kernel
theorem dX5_isMinute_2 : decode cX5_isMinute 2 = .ok (.sipush 959, 3) := by decide +kernel
theorem dX5_isMinute_5 : decode cX5_isMinute 5 = .ok (.invokestatic 64, 3) := by decide +kernel
theorem dX5_isMinute_8 : decode cX5_isMinute 8 = .ok (.ireturn, 1) := by decide +kernel
set_option maxRecDepth 20000 in
theorem ggX5_isRating_X5_isWithin : GoodIn wsX5_isRating wsX5_isWithin := goodIn_r _ [4] (by decide +kernel) (by decide +kernel)
set_option maxRecDepth 20000 in
theorem gX5_isRating_X5_isWithin : GoodIn wsX5_isRating (va_wsS RX5 64 yX5_isWithin wsX5_isWithin) := goodIn_app (goodIn_of _ (by decide +kernel)) ggX5_isRating_X5_isWithin
theorem dX5_isRating_0 : decode cX5_isRating 0 = .ok (.iload_n 0, 1) := by decide +kernel
theorem dX5_isRating_1 : decode cX5_isRating 1 = .ok (.iconst 0, 1) := by decide +kernel
theorem dX5_isRating_2 : decode cX5_isRating 2 = .ok (.iconst 3, 1) := by decide +kernel
theorem dX5_isRating_3 : decode cX5_isRating 3 = .ok (.invokestatic 64, 3) := by decide +kernel
theorem dX5_isRating_6 : decode cX5_isRating 6 = .ok (.ireturn, 1) := by decide +kernel
set_option maxRecDepth 20000 in
theorem ggX5_isGenres_X5_isWithin : GoodIn wsX5_isGenres wsX5_isWithin := goodIn_r _ [4] (by decide +kernel) (by decide +kernel)
set_option maxRecDepth 20000 in
theorem gX5_isGenres_X5_isWithin : GoodIn wsX5_isGenres (va_wsS RX5 64 yX5_isWithin wsX5_isWithin) := goodIn_app (goodIn_of _ (by decide +kernel)) ggX5_isGenres_X5_isWithin
theorem dX5_isGenres_0 : decode cX5_isGenres 0 = .ok (.iload_n 0, 1) := by decide +kernel
theorem dX5_isGenres_1 : decode cX5_isGenres 1 = .ok (.iconst 1, 1) := by decide +kernel
theorem dX5_isGenres_2 : decode cX5_isGenres 2 = .ok (.bipush 63, 2) := by decide +kernel
theorem dX5_isGenres_4 : decode cX5_isGenres 4 = .ok (.invokestatic 64, 3) := by decide +kernel
theorem dX5_isGenres_7 : decode cX5_isGenres 7 = .ok (.ireturn, 1) := by decide +kernel
theorem dX5_refuse_0 : decode cX5_refuse 0 = .ok (.aload_n 0, 1) := by decide +kernel
theorem dX5_refuse_1 : decode cX5_refuse 1 = .ok (.iload_n 1, 1) := by decide +kernel
theorem dX5_refuse_2 : decode cX5_refuse 2 = .ok (.putfield 54, 3) := by decide +kernel
theorem dX5_refuse_5 : decode cX5_refuse 5 = .ok (.aload_n 0, 1) := by decide +kernel
theorem dX5_refuse_6 : decode cX5_refuse 6 = .ok (.iload_n 2, 1) := by decide +kernel
theorem dX5_refuse_7 : decode cX5_refuse 7 = .ok (.putfield 58, 3) := by decide +kernel
theorem dX5_refuse_10 : decode cX5_refuse 10 = .ok (.return_, 1) := by decide +kernel
set_option maxRecDepth 20000 in
theorem ggX5_faultOfPlan_X4_isRow : GoodIn wsX5_faultOfPlan wsX4_isRow := goodIn_r _ [11, 12, 163, 164, 165, 166] (by decide +kernel) (by decide +kernel)
set_option maxRecDepth 20000 in
theorem gX5_faultOfPlan_X4_isRow : GoodIn wsX5_faultOfPlan (wsV RX5 116 RX4 yX4_isRow wsX4_isRow) := goodIn_app (goodIn_of _ (by decide +kernel)) ggX5_faultOfPlan_X4_isRow
set_option maxRecDepth 20000 in
theorem ggX5_faultOfPlan_X5_isDay : GoodIn wsX5_faultOfPlan wsX5_isDay := goodIn_r _ [16, 17, 18, 15, 19] (by decide +kernel) (by decide +kernel)
set_option maxRecDepth 20000 in
theorem gX5_faultOfPlan_X5_isDay : GoodIn wsX5_faultOfPlan (va_wsS RX5 108 yX5_isDay wsX5_isDay) := goodIn_app (goodIn_of _ (by decide +kernel)) ggX5_faultOfPlan_X5_isDay
set_option maxRecDepth 20000 in
theorem ggX5_faultOfPlan_X5_isMinute : GoodIn wsX5_faultOfPlan wsX5_isMinute := goodIn_r _ [22, 17, 18, 15, 19] (by decide +kernel) (by decide +kernel)
set_option maxRecDepth 20000 in
theorem gX5_faultOfPlan_X5_isMinute : GoodIn wsX5_faultOfPlan (va_wsS RX5 215 yX5_isMinute wsX5_isMinute) := goodIn_app (goodIn_of _ (by decide +kernel)) ggX5_faultOfPlan_X5_isMinute
set_option maxRecDepth 20000 in
theorem ggX5_faultOfPlan_X2_takeUp : GoodIn wsX5_faultOfPlan wsX2_takeUp := goodIn_ca (goodIn_r _ [27, 28, 29, 30, 31, 32, 33, 34, 35, 36, 37, 38, 39, 40, 10, 41, 42, 43, 44, 45, 46, 47, 12, 48, 49, 50, 51, 52, 53, 54, 55, 56, 57, 58, 59, 26, 60, 61, 62, 63, 64, 65, 66, 67, 68, 69, 70, 71, 159, 160, 161, 162, 151, 152, 153, 154, 155, 156, 157, 158, 163, 164, 165, 166] (by decide +kernel) (by decide +kernel)) (goodIn_sub (fun _ h => List.mem_cons_of_mem _ (List.mem_append_right _ h)) (by decide +kernel))
set_option maxRecDepth 20000 in
theorem gX5_faultOfPlan_X2_takeUp : GoodIn wsX5_faultOfPlan (wsV RX5 265 RX2 yX2_takeUp wsX2_takeUp) := goodIn_app (goodIn_of _ (by decide +kernel)) ggX5_faultOfPlan_X2_takeUp
set_option maxRecDepth 20000 in
theorem ggX5_faultOfPlan_X3_newMinutes : GoodIn wsX5_faultOfPlan wsX3_newMinutes := goodIn_ca (goodIn_r _ [75, 76, 77, 78, 79, 35, 80, 37, 81, 38, 39, 40, 10, 41, 42, 43, 82, 49, 50, 51, 12, 83, 84, 85, 86, 87, 88, 89, 90, 91, 92, 93, 94, 95, 96, 97, 98, 99, 100, 151, 152, 153, 154, 155, 156, 157, 158, 163, 164, 165, 166] (by decide +kernel) (by decide +kernel)) (goodIn_sub (fun _ h => List.mem_cons_of_mem _ (List.mem_append_right _ h)) (by decide +kernel))
set_option maxRecDepth 20000 in
theorem gX5_faultOfPlan_X3_newMinutes : GoodIn wsX5_faultOfPlan (wsV RX5 269 RX3 yX3_newMinutes wsX3_newMinutes) := goodIn_app (goodIn_of _ (by decide +kernel)) ggX5_faultOfPlan_X3_newMinutes
set_option maxRecDepth 20000 in
theorem ggX5_faultOfPlan_X2_firstBroken : GoodIn wsX5_faultOfPlan wsX2_firstBroken := goodIn_ca (goodIn_r _ [104, 105, 28, 61, 29, 106, 62, 39, 40, 10, 41, 42, 43, 32, 33, 34, 35, 36, 37, 38, 107, 108, 109, 26, 110, 111, 112, 113, 114, 115, 116, 117, 118, 119, 120, 30, 48, 49, 50, 51, 12, 121, 122, 123, 124, 125, 126, 127, 128, 129, 130, 131, 132, 151, 152, 153, 154, 155, 156, 157, 158, 159, 160, 161, 162, 163, 164, 165, 166] (by decide +kernel) (by decide +kernel)) (goodIn_sub (fun _ h => List.mem_cons_of_mem _ (List.mem_append_right _ h)) (by decide +kernel))
set_option maxRecDepth 20000 in
theorem gX5_faultOfPlan_X2_firstBroken : GoodIn wsX5_faultOfPlan (wsV RX5 272 RX2 yX2_firstBroken wsX2_firstBroken) := goodIn_app (goodIn_of _ (by decide +kernel)) ggX5_faultOfPlan_X2_firstBroken
set_option maxRecDepth 20000 in
theorem ggX5_faultOfPlan_X5_refuse : GoodIn wsX5_faultOfPlan wsX5_refuse := goodIn_r _ [136, 137, 138, 140, 141, 142, 143, 144, 145, 146, 147, 148, 149, 150] (by decide +kernel) (by decide +kernel)
set_option maxRecDepth 20000 in
theorem gX5_faultOfPlan_X5_refuse : GoodIn wsX5_faultOfPlan (wsV RX5 424 RX5 yX5_refuse wsX5_refuse) := goodIn_app (goodIn_of _ (by decide +kernel)) ggX5_faultOfPlan_X5_refuse
set_option maxRecDepth 20000 in
theorem ggX5_faultOfPlan_X4_size : GoodIn wsX5_faultOfPlan wsX4_size := goodIn_r _ [51, 12, 163, 164, 165, 166] (by decide +kernel) (by decide +kernel)
set_option maxRecDepth 20000 in
theorem gX5_faultOfPlan_X4_size : GoodIn wsX5_faultOfPlan (wsV RX5 79 RX4 yX4_size wsX4_size) := goodIn_app (goodIn_of _ (by decide +kernel)) ggX5_faultOfPlan_X4_size
theorem dX5_faultOfPlan_0 : decode cX5_faultOfPlan 0 = .ok (.aload_n 0, 1) := by decide +kernel
theorem dX5_faultOfPlan_1 : decode cX5_faultOfPlan 1 = .ok (.getfield 10, 3) := by decide +kernel
theorem dX5_faultOfPlan_4 : decode cX5_faultOfPlan 4 = .ok (.getfield 75, 3) := by decide +kernel
theorem dX5_faultOfPlan_7 : decode cX5_faultOfPlan 7 = .ok (.iload_n 1, 1) := by decide +kernel
theorem dX5_faultOfPlan_8 : decode cX5_faultOfPlan 8 = .ok (.invokevirtual 116, 3) := by decide +kernel
theorem dX5_faultOfPlan_11 : decode cX5_faultOfPlan 11 = .ok (.ifCond .eq 17, 3) := by decide +kernel
theorem dX5_faultOfPlan_14 : decode cX5_faultOfPlan 14 = .ok (.aload_n 0, 1) := by decide +kernel
theorem dX5_faultOfPlan_15 : decode cX5_faultOfPlan 15 = .ok (.getfield 10, 3) := by decide +kernel
theorem dX5_faultOfPlan_18 : decode cX5_faultOfPlan 18 = .ok (.getfield 111, 3) := by decide +kernel
theorem dX5_faultOfPlan_21 : decode cX5_faultOfPlan 21 = .ok (.iload_n 2, 1) := by decide +kernel
theorem dX5_faultOfPlan_22 : decode cX5_faultOfPlan 22 = .ok (.invokevirtual 116, 3) := by decide +kernel
theorem dX5_faultOfPlan_25 : decode cX5_faultOfPlan 25 = .ok (.ifCond .ne 5, 3) := by decide +kernel
theorem dX5_faultOfPlan_28 : decode cX5_faultOfPlan 28 = .ok (.iconst 1, 1) := by decide +kernel
theorem dX5_faultOfPlan_29 : decode cX5_faultOfPlan 29 = .ok (.ireturn, 1) := by decide +kernel
theorem dX5_faultOfPlan_30 : decode cX5_faultOfPlan 30 = .ok (.iload_n 3, 1) := by decide +kernel
theorem dX5_faultOfPlan_31 : decode cX5_faultOfPlan 31 = .ok (.invokestatic 108, 3) := by decide +kernel
theorem dX5_faultOfPlan_34 : decode cX5_faultOfPlan 34 = .ok (.ifCond .eq 11, 3) := by decide +kernel
theorem dX5_faultOfPlan_37 : decode cX5_faultOfPlan 37 = .ok (.iload 4, 2) := by decide +kernel
theorem dX5_faultOfPlan_39 : decode cX5_faultOfPlan 39 = .ok (.invokestatic 215, 3) := by decide +kernel
theorem dX5_faultOfPlan_42 : decode cX5_faultOfPlan 42 = .ok (.ifCond .ne 5, 3) := by decide +kernel
theorem dX5_faultOfPlan_45 : decode cX5_faultOfPlan 45 = .ok (.iconst 2, 1) := by decide +kernel
theorem dX5_faultOfPlan_46 : decode cX5_faultOfPlan 46 = .ok (.ireturn, 1) := by decide +kernel
theorem dX5_faultOfPlan_47 : decode cX5_faultOfPlan 47 = .ok (.aload_n 0, 1) := by decide +kernel
theorem dX5_faultOfPlan_48 : decode cX5_faultOfPlan 48 = .ok (.getfield 29, 3) := by decide +kernel
theorem dX5_faultOfPlan_51 : decode cX5_faultOfPlan 51 = .ok (.aload_n 0, 1) := by decide +kernel
theorem dX5_faultOfPlan_52 : decode cX5_faultOfPlan 52 = .ok (.getfield 10, 3) := by decide +kernel
theorem dX5_faultOfPlan_55 : decode cX5_faultOfPlan 55 = .ok (.iconst (-1), 1) := by decide +kernel
theorem dX5_faultOfPlan_56 : decode cX5_faultOfPlan 56 = .ok (.iload_n 2, 1) := by decide +kernel
theorem dX5_faultOfPlan_57 : decode cX5_faultOfPlan 57 = .ok (.iload_n 3, 1) := by decide +kernel
theorem dX5_faultOfPlan_58 : decode cX5_faultOfPlan 58 = .ok (.invokevirtual 265, 3) := by decide +kernel
theorem dX5_faultOfPlan_61 : decode cX5_faultOfPlan 61 = .ok (.aload_n 0, 1) := by decide +kernel
theorem dX5_faultOfPlan_62 : decode cX5_faultOfPlan 62 = .ok (.getfield 29, 3) := by decide +kernel
theorem dX5_faultOfPlan_65 : decode cX5_faultOfPlan 65 = .ok (.aload_n 0, 1) := by decide +kernel
theorem dX5_faultOfPlan_66 : decode cX5_faultOfPlan 66 = .ok (.getfield 10, 3) := by decide +kernel
theorem dX5_faultOfPlan_69 : decode cX5_faultOfPlan 69 = .ok (.iload_n 1, 1) := by decide +kernel
theorem dX5_faultOfPlan_70 : decode cX5_faultOfPlan 70 = .ok (.iload 4, 2) := by decide +kernel
theorem dX5_faultOfPlan_72 : decode cX5_faultOfPlan 72 = .ok (.iload 4, 2) := by decide +kernel
theorem dX5_faultOfPlan_74 : decode cX5_faultOfPlan 74 = .ok (.aload_n 0, 1) := by decide +kernel
theorem dX5_faultOfPlan_75 : decode cX5_faultOfPlan 75 = .ok (.getfield 10, 3) := by decide +kernel
theorem dX5_faultOfPlan_78 : decode cX5_faultOfPlan 78 = .ok (.iload_n 2, 1) := by decide +kernel
theorem dX5_faultOfPlan_79 : decode cX5_faultOfPlan 79 = .ok (.iload_n 3, 1) := by decide +kernel
theorem dX5_faultOfPlan_80 : decode cX5_faultOfPlan 80 = .ok (.invokevirtual 269, 3) := by decide +kernel
theorem dX5_faultOfPlan_83 : decode cX5_faultOfPlan 83 = .ok (.iadd, 1) := by decide +kernel
theorem dX5_faultOfPlan_84 : decode cX5_faultOfPlan 84 = .ok (.invokevirtual 272, 3) := by decide +kernel
theorem dX5_faultOfPlan_87 : decode cX5_faultOfPlan 87 = .ok (.istore 5, 2) := by decide +kernel
theorem dX5_faultOfPlan_89 : decode cX5_faultOfPlan 89 = .ok (.iload 5, 2) := by decide +kernel
theorem dX5_faultOfPlan_91 : decode cX5_faultOfPlan 91 = .ok (.ifCond .eq 18, 3) := by decide +kernel
theorem dX5_faultOfPlan_94 : decode cX5_faultOfPlan 94 = .ok (.aload_n 0, 1) := by decide +kernel
theorem dX5_faultOfPlan_95 : decode cX5_faultOfPlan 95 = .ok (.iload 5, 2) := by decide +kernel
theorem dX5_faultOfPlan_97 : decode cX5_faultOfPlan 97 = .ok (.aload_n 0, 1) := by decide +kernel
theorem dX5_faultOfPlan_98 : decode cX5_faultOfPlan 98 = .ok (.getfield 29, 3) := by decide +kernel
theorem dX5_faultOfPlan_101 : decode cX5_faultOfPlan 101 = .ok (.getfield 276, 3) := by decide +kernel
theorem dX5_faultOfPlan_104 : decode cX5_faultOfPlan 104 = .ok (.invokevirtual 424, 3) := by decide +kernel
theorem dX5_faultOfPlan_107 : decode cX5_faultOfPlan 107 = .ok (.iconst 4, 1) := by decide +kernel
theorem dX5_faultOfPlan_108 : decode cX5_faultOfPlan 108 = .ok (.ireturn, 1) := by decide +kernel
theorem dX5_faultOfPlan_109 : decode cX5_faultOfPlan 109 = .ok (.aload_n 0, 1) := by decide +kernel
theorem dX5_faultOfPlan_110 : decode cX5_faultOfPlan 110 = .ok (.getfield 10, 3) := by decide +kernel
theorem dX5_faultOfPlan_113 : decode cX5_faultOfPlan 113 = .ok (.getfield 210, 3) := by decide +kernel
theorem dX5_faultOfPlan_116 : decode cX5_faultOfPlan 116 = .ok (.invokevirtual 79, 3) := by decide +kernel
theorem dX5_faultOfPlan_119 : decode cX5_faultOfPlan 119 = .ok (.bipush 30, 2) := by decide +kernel
theorem dX5_faultOfPlan_121 : decode cX5_faultOfPlan 121 = .ok (.if_icmp .lt 13, 3) := by decide +kernel
theorem dX5_faultOfPlan_124 : decode cX5_faultOfPlan 124 = .ok (.aload_n 0, 1) := by decide +kernel
theorem dX5_faultOfPlan_125 : decode cX5_faultOfPlan 125 = .ok (.bipush 10, 2) := by decide +kernel
theorem dX5_faultOfPlan_127 : decode cX5_faultOfPlan 127 = .ok (.bipush 30, 2) := by decide +kernel
theorem dX5_faultOfPlan_129 : decode cX5_faultOfPlan 129 = .ok (.invokevirtual 424, 3) := by decide +kernel
theorem dX5_faultOfPlan_132 : decode cX5_faultOfPlan 132 = .ok (.iconst 4, 1) := by decide +kernel
theorem dX5_faultOfPlan_133 : decode cX5_faultOfPlan 133 = .ok (.ireturn, 1) := by decide +kernel
theorem dX5_faultOfPlan_134 : decode cX5_faultOfPlan 134 = .ok (.iconst 0, 1) := by decide +kernel
theorem dX5_faultOfPlan_135 : decode cX5_faultOfPlan 135 = .ok (.ireturn, 1) := by decide +kernel
set_option maxRecDepth 20000 in
theorem ggX5_isMoveRefused_X4_get : GoodIn wsX5_isMoveRefused wsX4_get := goodIn_ca (goodIn_r _ [10, 11, 12, 124, 125, 126, 127] (by decide +kernel) (by decide +kernel)) (goodIn_sub (fun _ h => List.mem_cons_of_mem _ (List.mem_append_right _ h)) (by decide +kernel))
set_option maxRecDepth 20000 in
theorem gX5_isMoveRefused_X4_get : GoodIn wsX5_isMoveRefused (wsV RX5 126 RX4 yX4_get wsX4_get) := goodIn_app (goodIn_of _ (by decide +kernel)) ggX5_isMoveRefused_X4_get
set_option maxRecDepth 20000 in
theorem ggX5_isMoveRefused_X5_refuse : GoodIn wsX5_isMoveRefused wsX5_refuse := goodIn_r _ [17, 18, 19, 101, 102, 103, 104, 105, 106, 107, 108, 109, 110, 111] (by decide +kernel) (by decide +kernel)
set_option maxRecDepth 20000 in
theorem gX5_isMoveRefused_X5_refuse : GoodIn wsX5_isMoveRefused (wsV RX5 424 RX5 yX5_refuse wsX5_refuse) := goodIn_app (goodIn_of _ (by decide +kernel)) ggX5_isMoveRefused_X5_refuse
set_option maxRecDepth 20000 in
theorem ggX5_isMoveRefused_X2_takeUp : GoodIn wsX5_isMoveRefused wsX2_takeUp := goodIn_ca (goodIn_r _ [24, 25, 26, 27, 28, 29, 30, 31, 32, 33, 34, 35, 7, 8, 9, 10, 11, 12, 36, 37, 38, 39, 40, 41, 42, 43, 44, 45, 46, 47, 48, 49, 50, 51, 52, 23, 53, 54, 55, 56, 57, 58, 59, 60, 61, 62, 63, 64, 120, 121, 122, 123, 112, 113, 114, 115, 116, 117, 118, 119, 124, 125, 126, 127] (by decide +kernel) (by decide +kernel)) (goodIn_sub (fun _ h => List.mem_cons_of_mem _ (List.mem_append_right _ h)) (by decide +kernel))
set_option maxRecDepth 20000 in
theorem gX5_isMoveRefused_X2_takeUp : GoodIn wsX5_isMoveRefused (wsV RX5 265 RX2 yX2_takeUp wsX2_takeUp) := goodIn_app (goodIn_of _ (by decide +kernel)) ggX5_isMoveRefused_X2_takeUp
set_option maxRecDepth 20000 in
theorem ggX5_isMoveRefused_X3_minutesOf : GoodIn wsX5_isMoveRefused wsX3_minutesOf := goodIn_ca (goodIn_r _ [68, 49, 35, 7, 8, 9, 10, 11, 12, 112, 113, 114, 115, 116, 117, 118, 119, 124, 125, 126, 127] (by decide +kernel) (by decide +kernel)) (goodIn_sub (fun _ h => List.mem_cons_of_mem _ (List.mem_append_right _ h)) (by decide +kernel))
set_option maxRecDepth 20000 in
theorem gX5_isMoveRefused_X3_minutesOf : GoodIn wsX5_isMoveRefused (wsV RX5 428 RX3 yX3_minutesOf wsX3_minutesOf) := goodIn_app (goodIn_of _ (by decide +kernel)) ggX5_isMoveRefused_X3_minutesOf
set_option maxRecDepth 20000 in
theorem ggX5_isMoveRefused_X2_firstBroken : GoodIn wsX5_isMoveRefused wsX2_firstBroken := goodIn_ca (goodIn_r _ [72, 73, 25, 54, 26, 74, 55, 7, 8, 9, 10, 11, 12, 29, 30, 31, 32, 33, 34, 35, 75, 76, 77, 23, 78, 79, 80, 81, 82, 83, 84, 85, 86, 87, 88, 27, 41, 42, 43, 44, 40, 89, 90, 91, 92, 93, 94, 95, 96, 97, 98, 99, 100, 112, 113, 114, 115, 116, 117, 118, 119, 120, 121, 122, 123, 124, 125, 126, 127] (by decide +kernel) (by decide +kernel)) (goodIn_sub (fun _ h => List.mem_cons_of_mem _ (List.mem_append_right _ h)) (by decide +kernel))
set_option maxRecDepth 20000 in
theorem gX5_isMoveRefused_X2_firstBroken : GoodIn wsX5_isMoveRefused (wsV RX5 272 RX2 yX2_firstBroken wsX2_firstBroken) := goodIn_app (goodIn_of _ (by decide +kernel)) ggX5_isMoveRefused_X2_firstBroken
theorem dX5_isMoveRefused_0 : decode cX5_isMoveRefused 0 = .ok (.aload_n 0, 1) := by decide +kernel
theorem dX5_isMoveRefused_1 : decode cX5_isMoveRefused 1 = .ok (.getfield 10, 3) := by decide +kernel
theorem dX5_isMoveRefused_4 : decode cX5_isMoveRefused 4 = .ok (.getfield 75, 3) := by decide +kernel
theorem dX5_isMoveRefused_7 : decode cX5_isMoveRefused 7 = .ok (.iload_n 2, 1) := by decide +kernel
theorem dX5_isMoveRefused_8 : decode cX5_isMoveRefused 8 = .ok (.iconst 0, 1) := by decide +kernel
theorem dX5_isMoveRefused_9 : decode cX5_isMoveRefused 9 = .ok (.invokevirtual 126, 3) := by decide +kernel
theorem dX5_isMoveRefused_12 : decode cX5_isMoveRefused 12 = .ok (.istore 4, 2) := by decide +kernel
theorem dX5_isMoveRefused_14 : decode cX5_isMoveRefused 14 = .ok (.iload 4, 2) := by decide +kernel
theorem dX5_isMoveRefused_16 : decode cX5_isMoveRefused 16 = .ok (.aload_n 0, 1) := by decide +kernel
theorem dX5_isMoveRefused_17 : decode cX5_isMoveRefused 17 = .ok (.getfield 10, 3) := by decide +kernel
theorem dX5_isMoveRefused_20 : decode cX5_isMoveRefused 20 = .ok (.getfield 210, 3) := by decide +kernel
theorem dX5_isMoveRefused_23 : decode cX5_isMoveRefused 23 = .ok (.iload_n 1, 1) := by decide +kernel
theorem dX5_isMoveRefused_24 : decode cX5_isMoveRefused 24 = .ok (.iconst 5, 1) := by decide +kernel
theorem dX5_isMoveRefused_25 : decode cX5_isMoveRefused 25 = .ok (.invokevirtual 126, 3) := by decide +kernel
theorem dX5_isMoveRefused_28 : decode cX5_isMoveRefused 28 = .ok (.if_icmp .ge 13, 3) := by decide +kernel
theorem dX5_isMoveRefused_31 : decode cX5_isMoveRefused 31 = .ok (.aload_n 0, 1) := by decide +kernel
theorem dX5_isMoveRefused_32 : decode cX5_isMoveRefused 32 = .ok (.bipush 11, 2) := by decide +kernel
theorem dX5_isMoveRefused_34 : decode cX5_isMoveRefused 34 = .ok (.iload 4, 2) := by decide +kernel
theorem dX5_isMoveRefused_36 : decode cX5_isMoveRefused 36 = .ok (.invokevirtual 424, 3) := by decide +kernel
theorem dX5_isMoveRefused_39 : decode cX5_isMoveRefused 39 = .ok (.iconst 1, 1) := by decide +kernel
theorem dX5_isMoveRefused_40 : decode cX5_isMoveRefused 40 = .ok (.ireturn, 1) := by decide +kernel
theorem dX5_isMoveRefused_41 : decode cX5_isMoveRefused 41 = .ok (.aload_n 0, 1) := by decide +kernel
theorem dX5_isMoveRefused_42 : decode cX5_isMoveRefused 42 = .ok (.getfield 29, 3) := by decide +kernel
theorem dX5_isMoveRefused_45 : decode cX5_isMoveRefused 45 = .ok (.aload_n 0, 1) := by decide +kernel
theorem dX5_isMoveRefused_46 : decode cX5_isMoveRefused 46 = .ok (.getfield 10, 3) := by decide +kernel
theorem dX5_isMoveRefused_49 : decode cX5_isMoveRefused 49 = .ok (.iload_n 1, 1) := by decide +kernel
theorem dX5_isMoveRefused_50 : decode cX5_isMoveRefused 50 = .ok (.aload_n 0, 1) := by decide +kernel
theorem dX5_isMoveRefused_51 : decode cX5_isMoveRefused 51 = .ok (.getfield 10, 3) := by decide +kernel
theorem dX5_isMoveRefused_54 : decode cX5_isMoveRefused 54 = .ok (.getfield 210, 3) := by decide +kernel
theorem dX5_isMoveRefused_57 : decode cX5_isMoveRefused 57 = .ok (.iload_n 1, 1) := by decide +kernel
theorem dX5_isMoveRefused_58 : decode cX5_isMoveRefused 58 = .ok (.iconst 1, 1) := by decide +kernel
theorem dX5_isMoveRefused_59 : decode cX5_isMoveRefused 59 = .ok (.invokevirtual 126, 3) := by decide +kernel
theorem dX5_isMoveRefused_62 : decode cX5_isMoveRefused 62 = .ok (.aload_n 0, 1) := by decide +kernel
theorem dX5_isMoveRefused_63 : decode cX5_isMoveRefused 63 = .ok (.getfield 10, 3) := by decide +kernel
theorem dX5_isMoveRefused_66 : decode cX5_isMoveRefused 66 = .ok (.getfield 210, 3) := by decide +kernel
theorem dX5_isMoveRefused_69 : decode cX5_isMoveRefused 69 = .ok (.iload_n 1, 1) := by decide +kernel
theorem dX5_isMoveRefused_70 : decode cX5_isMoveRefused 70 = .ok (.iconst 2, 1) := by decide +kernel
theorem dX5_isMoveRefused_71 : decode cX5_isMoveRefused 71 = .ok (.invokevirtual 126, 3) := by decide +kernel
theorem dX5_isMoveRefused_74 : decode cX5_isMoveRefused 74 = .ok (.invokevirtual 265, 3) := by decide +kernel
theorem dX5_isMoveRefused_77 : decode cX5_isMoveRefused 77 = .ok (.aload_n 0, 1) := by decide +kernel
theorem dX5_isMoveRefused_78 : decode cX5_isMoveRefused 78 = .ok (.getfield 29, 3) := by decide +kernel
theorem dX5_isMoveRefused_81 : decode cX5_isMoveRefused 81 = .ok (.aload_n 0, 1) := by decide +kernel
theorem dX5_isMoveRefused_82 : decode cX5_isMoveRefused 82 = .ok (.getfield 10, 3) := by decide +kernel
theorem dX5_isMoveRefused_85 : decode cX5_isMoveRefused 85 = .ok (.iload_n 2, 1) := by decide +kernel
theorem dX5_isMoveRefused_86 : decode cX5_isMoveRefused 86 = .ok (.iload_n 3, 1) := by decide +kernel
theorem dX5_isMoveRefused_87 : decode cX5_isMoveRefused 87 = .ok (.iload_n 3, 1) := by decide +kernel
theorem dX5_isMoveRefused_88 : decode cX5_isMoveRefused 88 = .ok (.aload_n 0, 1) := by decide +kernel
theorem dX5_isMoveRefused_89 : decode cX5_isMoveRefused 89 = .ok (.getfield 10, 3) := by decide +kernel
theorem dX5_isMoveRefused_92 : decode cX5_isMoveRefused 92 = .ok (.iload_n 1, 1) := by decide +kernel
theorem dX5_isMoveRefused_93 : decode cX5_isMoveRefused 93 = .ok (.invokevirtual 428, 3) := by decide +kernel
theorem dX5_isMoveRefused_96 : decode cX5_isMoveRefused 96 = .ok (.iadd, 1) := by decide +kernel
theorem dX5_isMoveRefused_97 : decode cX5_isMoveRefused 97 = .ok (.invokevirtual 272, 3) := by decide +kernel
theorem dX5_isMoveRefused_100 : decode cX5_isMoveRefused 100 = .ok (.istore 5, 2) := by decide +kernel
theorem dX5_isMoveRefused_102 : decode cX5_isMoveRefused 102 = .ok (.iload 5, 2) := by decide +kernel
theorem dX5_isMoveRefused_104 : decode cX5_isMoveRefused 104 = .ok (.ifCond .eq 16, 3) := by decide +kernel
theorem dX5_isMoveRefused_107 : decode cX5_isMoveRefused 107 = .ok (.aload_n 0, 1) := by decide +kernel
theorem dX5_isMoveRefused_108 : decode cX5_isMoveRefused 108 = .ok (.iload 5, 2) := by decide +kernel
theorem dX5_isMoveRefused_110 : decode cX5_isMoveRefused 110 = .ok (.aload_n 0, 1) := by decide +kernel
theorem dX5_isMoveRefused_111 : decode cX5_isMoveRefused 111 = .ok (.getfield 29, 3) := by decide +kernel
theorem dX5_isMoveRefused_114 : decode cX5_isMoveRefused 114 = .ok (.getfield 276, 3) := by decide +kernel
theorem dX5_isMoveRefused_117 : decode cX5_isMoveRefused 117 = .ok (.invokevirtual 424, 3) := by decide +kernel
theorem dX5_isMoveRefused_120 : decode cX5_isMoveRefused 120 = .ok (.iload 5, 2) := by decide +kernel
theorem dX5_isMoveRefused_122 : decode cX5_isMoveRefused 122 = .ok (.ifCond .eq 7, 3) := by decide +kernel
theorem dX5_isMoveRefused_125 : decode cX5_isMoveRefused 125 = .ok (.iconst 1, 1) := by decide +kernel
theorem dX5_isMoveRefused_126 : decode cX5_isMoveRefused 126 = .ok (.goto 4, 3) := by decide +kernel
theorem dX5_isMoveRefused_129 : decode cX5_isMoveRefused 129 = .ok (.iconst 0, 1) := by decide +kernel
theorem dX5_isMoveRefused_130 : decode cX5_isMoveRefused 130 = .ok (.ireturn, 1) := by decide +kernel
set_option maxRecDepth 20000 in
theorem ggX5_faultOfSell_X4_isRow : GoodIn wsX5_faultOfSell wsX4_isRow := goodIn_r _ [7, 8, 65, 66, 67, 68] (by decide +kernel) (by decide +kernel)
set_option maxRecDepth 20000 in
theorem gX5_faultOfSell_X4_isRow : GoodIn wsX5_faultOfSell (wsV RX5 116 RX4 yX4_isRow wsX4_isRow) := goodIn_app (goodIn_of _ (by decide +kernel)) ggX5_faultOfSell_X4_isRow
set_option maxRecDepth 20000 in
theorem ggX5_faultOfSell_X5_isWithin : GoodIn wsX5_faultOfSell wsX5_isWithin := goodIn_r _ [12] (by decide +kernel) (by decide +kernel)
set_option maxRecDepth 20000 in
theorem gX5_faultOfSell_X5_isWithin : GoodIn wsX5_faultOfSell (va_wsS RX5 64 yX5_isWithin wsX5_isWithin) := goodIn_app (goodIn_of _ (by decide +kernel)) ggX5_faultOfSell_X5_isWithin
set_option maxRecDepth 20000 in
theorem ggX5_faultOfSell_X3_isOpen : GoodIn wsX5_faultOfSell wsX3_isOpen := goodIn_ca (goodIn_r _ [17, 18, 19, 20, 16, 21, 22, 23, 24, 25, 26, 27, 28, 29, 30, 6, 31, 32, 33, 57, 58, 59, 60, 61, 62, 63, 64, 65, 66, 67, 68] (by decide +kernel) (by decide +kernel)) (goodIn_sub (fun _ h => List.mem_cons_of_mem _ (List.mem_append_right _ h)) (by decide +kernel))
set_option maxRecDepth 20000 in
theorem gX5_faultOfSell_X3_isOpen : GoodIn wsX5_faultOfSell (wsV RX5 220 RX3 yX3_isOpen wsX3_isOpen) := goodIn_app (goodIn_of _ (by decide +kernel)) ggX5_faultOfSell_X3_isOpen
set_option maxRecDepth 20000 in
theorem ggX5_faultOfSell_X3_seatsOf : GoodIn wsX5_faultOfSell wsX3_seatsOf := goodIn_ca (goodIn_r _ [37, 38, 22, 28, 29, 30, 6, 31, 32, 33, 57, 58, 59, 60, 61, 62, 63, 64, 65, 66, 67, 68] (by decide +kernel) (by decide +kernel)) (goodIn_sub (fun _ h => List.mem_cons_of_mem _ (List.mem_append_right _ h)) (by decide +kernel))
set_option maxRecDepth 20000 in
theorem gX5_faultOfSell_X3_seatsOf : GoodIn wsX5_faultOfSell (wsV RX5 431 RX3 yX3_seatsOf wsX3_seatsOf) := goodIn_app (goodIn_of _ (by decide +kernel)) ggX5_faultOfSell_X3_seatsOf
set_option maxRecDepth 20000 in
theorem ggX5_faultOfSell_X4_get : GoodIn wsX5_faultOfSell wsX4_get := goodIn_ca (goodIn_r _ [31, 32, 33, 65, 66, 67, 68] (by decide +kernel) (by decide +kernel)) (goodIn_sub (fun _ h => List.mem_cons_of_mem _ (List.mem_append_right _ h)) (by decide +kernel))
set_option maxRecDepth 20000 in
theorem gX5_faultOfSell_X4_get : GoodIn wsX5_faultOfSell (wsV RX5 126 RX4 yX4_get wsX4_get) := goodIn_app (goodIn_of _ (by decide +kernel)) ggX5_faultOfSell_X4_get
set_option maxRecDepth 20000 in
theorem ggX5_faultOfSell_X5_refuse : GoodIn wsX5_faultOfSell wsX5_refuse := goodIn_r _ [43, 44, 45, 46, 47, 48, 49, 50, 51, 52, 53, 54, 55, 56] (by decide +kernel) (by decide +kernel)
set_option maxRecDepth 20000 in
theorem gX5_faultOfSell_X5_refuse : GoodIn wsX5_faultOfSell (wsV RX5 424 RX5 yX5_refuse wsX5_refuse) := goodIn_app (goodIn_of _ (by decide +kernel)) ggX5_faultOfSell_X5_refuse
theorem dX5_faultOfSell_0 : decode cX5_faultOfSell 0 = .ok (.aload_n 0, 1) := by decide +kernel
theorem dX5_faultOfSell_1 : decode cX5_faultOfSell 1 = .ok (.getfield 10, 3) := by decide +kernel
theorem dX5_faultOfSell_4 : decode cX5_faultOfSell 4 = .ok (.getfield 210, 3) := by decide +kernel
theorem dX5_faultOfSell_7 : decode cX5_faultOfSell 7 = .ok (.iload_n 1, 1) := by decide +kernel
theorem dX5_faultOfSell_8 : decode cX5_faultOfSell 8 = .ok (.invokevirtual 116, 3) := by decide +kernel
theorem dX5_faultOfSell_11 : decode cX5_faultOfSell 11 = .ok (.ifCond .ne 5, 3) := by decide +kernel
theorem dX5_faultOfSell_14 : decode cX5_faultOfSell 14 = .ok (.iconst 1, 1) := by decide +kernel
theorem dX5_faultOfSell_15 : decode cX5_faultOfSell 15 = .ok (.ireturn, 1) := by decide +kernel
theorem dX5_faultOfSell_16 : decode cX5_faultOfSell 16 = .ok (.iload_n 2, 1) := by decide +kernel
theorem dX5_faultOfSell_17 : decode cX5_faultOfSell 17 = .ok (.iconst 1, 1) := by decide +kernel
theorem dX5_faultOfSell_18 : decode cX5_faultOfSell 18 = .ok (.sipush 400, 3) := by decide +kernel
theorem dX5_faultOfSell_21 : decode cX5_faultOfSell 21 = .ok (.invokestatic 64, 3) := by decide +kernel
theorem dX5_faultOfSell_24 : decode cX5_faultOfSell 24 = .ok (.ifCond .ne 5, 3) := by decide +kernel
theorem dX5_faultOfSell_27 : decode cX5_faultOfSell 27 = .ok (.iconst 2, 1) := by decide +kernel
theorem dX5_faultOfSell_28 : decode cX5_faultOfSell 28 = .ok (.ireturn, 1) := by decide +kernel
theorem dX5_faultOfSell_29 : decode cX5_faultOfSell 29 = .ok (.aload_n 0, 1) := by decide +kernel
theorem dX5_faultOfSell_30 : decode cX5_faultOfSell 30 = .ok (.getfield 10, 3) := by decide +kernel
theorem dX5_faultOfSell_33 : decode cX5_faultOfSell 33 = .ok (.iload_n 1, 1) := by decide +kernel
theorem dX5_faultOfSell_34 : decode cX5_faultOfSell 34 = .ok (.invokevirtual 220, 3) := by decide +kernel
theorem dX5_faultOfSell_37 : decode cX5_faultOfSell 37 = .ok (.ifCond .ne 5, 3) := by decide +kernel
theorem dX5_faultOfSell_40 : decode cX5_faultOfSell 40 = .ok (.iconst 3, 1) := by decide +kernel
theorem dX5_faultOfSell_41 : decode cX5_faultOfSell 41 = .ok (.ireturn, 1) := by decide +kernel
theorem dX5_faultOfSell_42 : decode cX5_faultOfSell 42 = .ok (.aload_n 0, 1) := by decide +kernel
theorem dX5_faultOfSell_43 : decode cX5_faultOfSell 43 = .ok (.getfield 10, 3) := by decide +kernel
theorem dX5_faultOfSell_46 : decode cX5_faultOfSell 46 = .ok (.iload_n 1, 1) := by decide +kernel
theorem dX5_faultOfSell_47 : decode cX5_faultOfSell 47 = .ok (.invokevirtual 431, 3) := by decide +kernel
theorem dX5_faultOfSell_50 : decode cX5_faultOfSell 50 = .ok (.aload_n 0, 1) := by decide +kernel
theorem dX5_faultOfSell_51 : decode cX5_faultOfSell 51 = .ok (.getfield 10, 3) := by decide +kernel
theorem dX5_faultOfSell_54 : decode cX5_faultOfSell 54 = .ok (.getfield 210, 3) := by decide +kernel
theorem dX5_faultOfSell_57 : decode cX5_faultOfSell 57 = .ok (.iload_n 1, 1) := by decide +kernel
theorem dX5_faultOfSell_58 : decode cX5_faultOfSell 58 = .ok (.iconst 5, 1) := by decide +kernel
theorem dX5_faultOfSell_59 : decode cX5_faultOfSell 59 = .ok (.invokevirtual 126, 3) := by decide +kernel
theorem dX5_faultOfSell_62 : decode cX5_faultOfSell 62 = .ok (.isub, 1) := by decide +kernel
theorem dX5_faultOfSell_63 : decode cX5_faultOfSell 63 = .ok (.istore_n 3, 1) := by decide +kernel
theorem dX5_faultOfSell_64 : decode cX5_faultOfSell 64 = .ok (.iload_n 3, 1) := by decide +kernel
theorem dX5_faultOfSell_65 : decode cX5_faultOfSell 65 = .ok (.iload_n 2, 1) := by decide +kernel
theorem dX5_faultOfSell_66 : decode cX5_faultOfSell 66 = .ok (.if_icmp .ge 12, 3) := by decide +kernel
theorem dX5_faultOfSell_69 : decode cX5_faultOfSell 69 = .ok (.aload_n 0, 1) := by decide +kernel
theorem dX5_faultOfSell_70 : decode cX5_faultOfSell 70 = .ok (.bipush 12, 2) := by decide +kernel
theorem dX5_faultOfSell_72 : decode cX5_faultOfSell 72 = .ok (.iload_n 3, 1) := by decide +kernel
theorem dX5_faultOfSell_73 : decode cX5_faultOfSell 73 = .ok (.invokevirtual 424, 3) := by decide +kernel
theorem dX5_faultOfSell_76 : decode cX5_faultOfSell 76 = .ok (.iconst 4, 1) := by decide +kernel
theorem dX5_faultOfSell_77 : decode cX5_faultOfSell 77 = .ok (.ireturn, 1) := by decide +kernel
theorem dX5_faultOfSell_78 : decode cX5_faultOfSell 78 = .ok (.iconst 0, 1) := by decide +kernel
theorem dX5_faultOfSell_79 : decode cX5_faultOfSell 79 = .ok (.ireturn, 1) := by decide +kernel
set_option maxRecDepth 20000 in
theorem ggX5_faultOfCancel_X4_isRow : GoodIn wsX5_faultOfCancel wsX4_isRow := goodIn_r _ [7, 8, 49, 50, 51, 52] (by decide +kernel) (by decide +kernel)
set_option maxRecDepth 20000 in
theorem gX5_faultOfCancel_X4_isRow : GoodIn wsX5_faultOfCancel (wsV RX5 116 RX4 yX4_isRow wsX4_isRow) := goodIn_app (goodIn_of _ (by decide +kernel)) ggX5_faultOfCancel_X4_isRow
set_option maxRecDepth 20000 in
theorem ggX5_faultOfCancel_X3_isOpen : GoodIn wsX5_faultOfCancel wsX3_isOpen := goodIn_ca (goodIn_r _ [13, 14, 15, 16, 12, 17, 18, 19, 20, 21, 22, 23, 24, 25, 26, 6, 27, 28, 29, 41, 42, 43, 44, 45, 46, 47, 48, 49, 50, 51, 52] (by decide +kernel) (by decide +kernel)) (goodIn_sub (fun _ h => List.mem_cons_of_mem _ (List.mem_append_right _ h)) (by decide +kernel))
set_option maxRecDepth 20000 in
theorem gX5_faultOfCancel_X3_isOpen : GoodIn wsX5_faultOfCancel (wsV RX5 220 RX3 yX3_isOpen wsX3_isOpen) := goodIn_app (goodIn_of _ (by decide +kernel)) ggX5_faultOfCancel_X3_isOpen
theorem dX5_faultOfCancel_0 : decode cX5_faultOfCancel 0 = .ok (.aload_n 0, 1) := by decide +kernel
theorem dX5_faultOfCancel_1 : decode cX5_faultOfCancel 1 = .ok (.getfield 10, 3) := by decide +kernel
theorem dX5_faultOfCancel_4 : decode cX5_faultOfCancel 4 = .ok (.getfield 210, 3) := by decide +kernel
theorem dX5_faultOfCancel_7 : decode cX5_faultOfCancel 7 = .ok (.iload_n 1, 1) := by decide +kernel
theorem dX5_faultOfCancel_8 : decode cX5_faultOfCancel 8 = .ok (.invokevirtual 116, 3) := by decide +kernel
theorem dX5_faultOfCancel_11 : decode cX5_faultOfCancel 11 = .ok (.ifCond .ne 5, 3) := by decide +kernel
theorem dX5_faultOfCancel_14 : decode cX5_faultOfCancel 14 = .ok (.iconst 1, 1) := by decide +kernel
theorem dX5_faultOfCancel_15 : decode cX5_faultOfCancel 15 = .ok (.ireturn, 1) := by decide +kernel
theorem dX5_faultOfCancel_16 : decode cX5_faultOfCancel 16 = .ok (.aload_n 0, 1) := by decide +kernel
theorem dX5_faultOfCancel_17 : decode cX5_faultOfCancel 17 = .ok (.getfield 10, 3) := by decide +kernel
theorem dX5_faultOfCancel_20 : decode cX5_faultOfCancel 20 = .ok (.iload_n 1, 1) := by decide +kernel
theorem dX5_faultOfCancel_21 : decode cX5_faultOfCancel 21 = .ok (.invokevirtual 220, 3) := by decide +kernel
theorem dX5_faultOfCancel_24 : decode cX5_faultOfCancel 24 = .ok (.ifCond .eq 7, 3) := by decide +kernel
theorem dX5_faultOfCancel_27 : decode cX5_faultOfCancel 27 = .ok (.iconst 0, 1) := by decide +kernel
theorem dX5_faultOfCancel_28 : decode cX5_faultOfCancel 28 = .ok (.goto 4, 3) := by decide +kernel
theorem dX5_faultOfCancel_31 : decode cX5_faultOfCancel 31 = .ok (.iconst 3, 1) := by decide +kernel
theorem dX5_faultOfCancel_32 : decode cX5_faultOfCancel 32 = .ok (.ireturn, 1) := by decide +kernel
set_option maxRecDepth 20000 in
theorem ggX5_faultOfFail_X4_isRow : GoodIn wsX5_faultOfFail wsX4_isRow := goodIn_r _ [8, 9, 39, 40, 41, 42] (by decide +kernel) (by decide +kernel)
set_option maxRecDepth 20000 in
theorem gX5_faultOfFail_X4_isRow : GoodIn wsX5_faultOfFail (wsV RX5 116 RX4 yX4_isRow wsX4_isRow) := goodIn_app (goodIn_of _ (by decide +kernel)) ggX5_faultOfFail_X4_isRow
set_option maxRecDepth 20000 in
theorem ggX5_faultOfFail_X5_isWithin : GoodIn wsX5_faultOfFail wsX5_isWithin := goodIn_r _ [13] (by decide +kernel) (by decide +kernel)
set_option maxRecDepth 20000 in
theorem gX5_faultOfFail_X5_isWithin : GoodIn wsX5_faultOfFail (va_wsS RX5 64 yX5_isWithin wsX5_isWithin) := goodIn_app (goodIn_of _ (by decide +kernel)) ggX5_faultOfFail_X5_isWithin
set_option maxRecDepth 20000 in
theorem ggX5_faultOfFail_X4_get : GoodIn wsX5_faultOfFail wsX4_get := goodIn_ca (goodIn_r _ [17, 18, 19, 39, 40, 41, 42] (by decide +kernel) (by decide +kernel)) (goodIn_sub (fun _ h => List.mem_cons_of_mem _ (List.mem_append_right _ h)) (by decide +kernel))
set_option maxRecDepth 20000 in
theorem gX5_faultOfFail_X4_get : GoodIn wsX5_faultOfFail (wsV RX5 126 RX4 yX4_get wsX4_get) := goodIn_app (goodIn_of _ (by decide +kernel)) ggX5_faultOfFail_X4_get
theorem dX5_faultOfFail_0 : decode cX5_faultOfFail 0 = .ok (.aload_n 0, 1) := by decide +kernel
theorem dX5_faultOfFail_1 : decode cX5_faultOfFail 1 = .ok (.getfield 10, 3) := by decide +kernel
theorem dX5_faultOfFail_4 : decode cX5_faultOfFail 4 = .ok (.getfield 75, 3) := by decide +kernel
theorem dX5_faultOfFail_7 : decode cX5_faultOfFail 7 = .ok (.iload_n 1, 1) := by decide +kernel
theorem dX5_faultOfFail_8 : decode cX5_faultOfFail 8 = .ok (.invokevirtual 116, 3) := by decide +kernel
theorem dX5_faultOfFail_11 : decode cX5_faultOfFail 11 = .ok (.ifCond .ne 5, 3) := by decide +kernel
theorem dX5_faultOfFail_14 : decode cX5_faultOfFail 14 = .ok (.iconst 1, 1) := by decide +kernel
theorem dX5_faultOfFail_15 : decode cX5_faultOfFail 15 = .ok (.ireturn, 1) := by decide +kernel
theorem dX5_faultOfFail_16 : decode cX5_faultOfFail 16 = .ok (.iload_n 2, 1) := by decide +kernel
theorem dX5_faultOfFail_17 : decode cX5_faultOfFail 17 = .ok (.aload_n 0, 1) := by decide +kernel
theorem dX5_faultOfFail_18 : decode cX5_faultOfFail 18 = .ok (.getfield 10, 3) := by decide +kernel
theorem dX5_faultOfFail_21 : decode cX5_faultOfFail 21 = .ok (.getfield 330, 3) := by decide +kernel
theorem dX5_faultOfFail_24 : decode cX5_faultOfFail 24 = .ok (.bipush 59, 2) := by decide +kernel
theorem dX5_faultOfFail_26 : decode cX5_faultOfFail 26 = .ok (.invokestatic 64, 3) := by decide +kernel
theorem dX5_faultOfFail_29 : decode cX5_faultOfFail 29 = .ok (.ifCond .ne 5, 3) := by decide +kernel
theorem dX5_faultOfFail_32 : decode cX5_faultOfFail 32 = .ok (.iconst 2, 1) := by decide +kernel
theorem dX5_faultOfFail_33 : decode cX5_faultOfFail 33 = .ok (.ireturn, 1) := by decide +kernel
theorem dX5_faultOfFail_34 : decode cX5_faultOfFail 34 = .ok (.aload_n 0, 1) := by decide +kernel
theorem dX5_faultOfFail_35 : decode cX5_faultOfFail 35 = .ok (.getfield 10, 3) := by decide +kernel
theorem dX5_faultOfFail_38 : decode cX5_faultOfFail 38 = .ok (.getfield 75, 3) := by decide +kernel
theorem dX5_faultOfFail_41 : decode cX5_faultOfFail 41 = .ok (.iload_n 1, 1) := by decide +kernel
theorem dX5_faultOfFail_42 : decode cX5_faultOfFail 42 = .ok (.iconst 3, 1) := by decide +kernel
theorem dX5_faultOfFail_43 : decode cX5_faultOfFail 43 = .ok (.invokevirtual 126, 3) := by decide +kernel
theorem dX5_faultOfFail_46 : decode cX5_faultOfFail 46 = .ok (.iconst (-1), 1) := by decide +kernel
theorem dX5_faultOfFail_47 : decode cX5_faultOfFail 47 = .ok (.if_icmp .ne 7, 3) := by decide +kernel
theorem dX5_faultOfFail_50 : decode cX5_faultOfFail 50 = .ok (.iconst 0, 1) := by decide +kernel
theorem dX5_faultOfFail_51 : decode cX5_faultOfFail 51 = .ok (.goto 4, 3) := by decide +kernel
theorem dX5_faultOfFail_54 : decode cX5_faultOfFail 54 = .ok (.iconst 3, 1) := by decide +kernel
theorem dX5_faultOfFail_55 : decode cX5_faultOfFail 55 = .ok (.ireturn, 1) := by decide +kernel
set_option maxRecDepth 20000 in
theorem ggX5_faultOfAdvance_X5_isWithin : GoodIn wsX5_faultOfAdvance wsX5_isWithin := goodIn_r _ [6] (by decide +kernel) (by decide +kernel)
set_option maxRecDepth 20000 in
theorem gX5_faultOfAdvance_X5_isWithin : GoodIn wsX5_faultOfAdvance (va_wsS RX5 64 yX5_isWithin wsX5_isWithin) := goodIn_app (goodIn_of _ (by decide +kernel)) ggX5_faultOfAdvance_X5_isWithin
theorem dX5_faultOfAdvance_0 : decode cX5_faultOfAdvance 0 = .ok (.iload_n 1, 1) := by decide +kernel
theorem dX5_faultOfAdvance_1 : decode cX5_faultOfAdvance 1 = .ok (.iconst 1, 1) := by decide +kernel
theorem dX5_faultOfAdvance_2 : decode cX5_faultOfAdvance 2 = .ok (.bipush 30, 2) := by decide +kernel
theorem dX5_faultOfAdvance_4 : decode cX5_faultOfAdvance 4 = .ok (.invokestatic 64, 3) := by decide +kernel
theorem dX5_faultOfAdvance_7 : decode cX5_faultOfAdvance 7 = .ok (.ifCond .eq 21, 3) := by decide +kernel
theorem dX5_faultOfAdvance_10 : decode cX5_faultOfAdvance 10 = .ok (.aload_n 0, 1) := by decide +kernel
theorem dX5_faultOfAdvance_11 : decode cX5_faultOfAdvance 11 = .ok (.getfield 10, 3) := by decide +kernel
theorem dX5_faultOfAdvance_14 : decode cX5_faultOfAdvance 14 = .ok (.getfield 330, 3) := by decide +kernel
theorem dX5_faultOfAdvance_17 : decode cX5_faultOfAdvance 17 = .ok (.iload_n 1, 1) := by decide +kernel
theorem dX5_faultOfAdvance_18 : decode cX5_faultOfAdvance 18 = .ok (.iadd, 1) := by decide +kernel
theorem dX5_faultOfAdvance_19 : decode cX5_faultOfAdvance 19 = .ok (.bipush 59, 2) := by decide +kernel
theorem dX5_faultOfAdvance_21 : decode cX5_faultOfAdvance 21 = .ok (.if_icmp .gt 7, 3) := by decide +kernel
theorem dX5_faultOfAdvance_24 : decode cX5_faultOfAdvance 24 = .ok (.iconst 1, 1) := by decide +kernel
theorem dX5_faultOfAdvance_25 : decode cX5_faultOfAdvance 25 = .ok (.goto 4, 3) := by decide +kernel
theorem dX5_faultOfAdvance_28 : decode cX5_faultOfAdvance 28 = .ok (.iconst 0, 1) := by decide +kernel
theorem dX5_faultOfAdvance_29 : decode cX5_faultOfAdvance 29 = .ok (.istore_n 2, 1) := by decide +kernel
theorem dX5_faultOfAdvance_30 : decode cX5_faultOfAdvance 30 = .ok (.iload_n 2, 1) := by decide +kernel
theorem dX5_faultOfAdvance_31 : decode cX5_faultOfAdvance 31 = .ok (.ifCond .eq 7, 3) := by decide +kernel
theorem dX5_faultOfAdvance_34 : decode cX5_faultOfAdvance 34 = .ok (.iconst 0, 1) := by decide +kernel
theorem dX5_faultOfAdvance_35 : decode cX5_faultOfAdvance 35 = .ok (.goto 4, 3) := by decide +kernel
theorem dX5_faultOfAdvance_38 : decode cX5_faultOfAdvance 38 = .ok (.iconst 2, 1) := by decide +kernel
theorem dX5_faultOfAdvance_39 : decode cX5_faultOfAdvance 39 = .ok (.ireturn, 1) := by decide +kernel
set_option maxRecDepth 20000 in
theorem ggX5_closeHall_X4_put : GoodIn wsX5_closeHall wsX4_put := goodIn_ca (goodIn_r _ [8, 9, 10, 156, 157, 158, 159] (by decide +kernel) (by decide +kernel)) (goodIn_sub (fun _ h => List.mem_cons_of_mem _ (List.mem_append_right _ h)) (by decide +kernel))
set_option maxRecDepth 20000 in
theorem gX5_closeHall_X4_put : GoodIn wsX5_closeHall (wsV RX5 97 RX4 yX4_put wsX4_put) := goodIn_app (goodIn_of _ (by decide +kernel)) ggX5_closeHall_X4_put
set_option maxRecDepth 20000 in
theorem ggX5_closeHall_X5_takeOutShows : GoodIn wsX5_closeHall wsX5_takeOutShows := goodIn_ca (goodIn_r _ [15, 1, 3, 16, 17, 18, 19, 7, 20, 21, 22, 23, 24, 25, 26, 27, 28, 29, 30, 31, 32, 33, 34, 35, 9, 10, 36, 37, 38, 39, 40, 41, 42, 43, 44, 45, 4, 5, 6, 8, 137, 138, 139, 140, 141, 142, 143, 144, 145, 146, 147, 148, 149, 150, 151, 152, 153, 154, 155, 156, 157, 158, 159] (by decide +kernel) (by decide +kernel)) (goodIn_sub (fun _ h => List.mem_cons_of_mem _ (List.mem_append_right _ h)) (by decide +kernel))
set_option maxRecDepth 20000 in
theorem gX5_closeHall_X5_takeOutShows : GoodIn wsX5_closeHall (wsV RX5 434 RX5 yX5_takeOutShows wsX5_takeOutShows) := goodIn_app (goodIn_of _ (by decide +kernel)) ggX5_closeHall_X5_takeOutShows
set_option maxRecDepth 20000 in
theorem ggX5_closeHall_X4_size : GoodIn wsX5_closeHall wsX4_size := goodIn_r _ [31, 21, 156, 157, 158, 159] (by decide +kernel) (by decide +kernel)
set_option maxRecDepth 20000 in
theorem gX5_closeHall_X4_size : GoodIn wsX5_closeHall (wsV RX5 79 RX4 yX4_size wsX4_size) := goodIn_app (goodIn_of _ (by decide +kernel)) ggX5_closeHall_X4_size
set_option maxRecDepth 20000 in
theorem ggX5_closeHall_X5_isPlacedAgain : GoodIn wsX5_closeHall wsX5_isPlacedAgain := goodIn_ca (goodIn_r _ [50, 1, 3, 51, 16, 2, 40, 33, 34, 7, 35, 9, 10, 52, 53, 54, 25, 55, 27, 32, 56, 57, 58, 59, 60, 61, 62, 63, 64, 65, 66, 67, 68, 69, 70, 71, 18, 19, 20, 21, 72, 29, 30, 31, 73, 74, 75, 76, 77, 78, 79, 80, 81, 82, 83, 42, 43, 44, 45, 84, 5, 6, 8, 46, 85, 86, 14, 87, 88, 89, 90, 91, 92, 93, 94, 95, 96, 97, 98, 99, 100, 101, 102, 103, 104, 105, 106, 107, 108, 109, 110, 111, 112, 113, 114, 115, 116, 117, 118, 119, 120, 121, 122, 123, 124, 125, 126, 127, 128, 129, 130, 131, 4, 137, 138, 139, 140, 141, 142, 143, 144, 145, 146, 147, 148, 149, 150, 151, 152, 153, 154, 155, 156, 157, 158, 159, 160, 161, 162, 163] (by decide +kernel) (by decide +kernel)) (goodIn_sub (fun _ h => List.mem_cons_of_mem _ (List.mem_append_right _ h)) (by decide +kernel))
set_option maxRecDepth 20000 in
theorem gX5_closeHall_X5_isPlacedAgain : GoodIn wsX5_closeHall (wsV RX5 437 RX5 yX5_isPlacedAgain wsX5_isPlacedAgain) := goodIn_app (goodIn_of _ (by decide +kernel)) ggX5_closeHall_X5_isPlacedAgain
set_option maxRecDepth 20000 in
theorem ggX5_closeHall_X4_get : GoodIn wsX5_closeHall wsX4_get := goodIn_ca (goodIn_r _ [35, 9, 10, 156, 157, 158, 159] (by decide +kernel) (by decide +kernel)) (goodIn_sub (fun _ h => List.mem_cons_of_mem _ (List.mem_append_right _ h)) (by decide +kernel))
set_option maxRecDepth 20000 in
theorem gX5_closeHall_X4_get : GoodIn wsX5_closeHall (wsV RX5 126 RX4 yX4_get wsX4_get) := goodIn_app (goodIn_of _ (by decide +kernel)) ggX5_closeHall_X4_get
set_option maxRecDepth 20000 in
theorem ggX5_closeHall_X3_dropShow : GoodIn wsX5_closeHall wsX3_dropShow := goodIn_ca (goodIn_r _ [135, 27, 136, 32, 33, 34, 7, 35, 9, 10, 131, 5, 6, 8, 148, 149, 150, 151, 152, 153, 154, 155, 156, 157, 158, 159] (by decide +kernel) (by decide +kernel)) (goodIn_sub (fun _ h => List.mem_cons_of_mem _ (List.mem_append_right _ h)) (by decide +kernel))
set_option maxRecDepth 20000 in
theorem gX5_closeHall_X3_dropShow : GoodIn wsX5_closeHall (wsV RX5 243 RX3 yX3_dropShow wsX3_dropShow) := goodIn_app (goodIn_of _ (by decide +kernel)) ggX5_closeHall_X3_dropShow
theorem dX5_closeHall_0 : decode cX5_closeHall 0 = .ok (.aload_n 0, 1) := by decide +kernel
theorem dX5_closeHall_1 : decode cX5_closeHall 1 = .ok (.getfield 10, 3) := by decide +kernel
theorem dX5_closeHall_4 : decode cX5_closeHall 4 = .ok (.getfield 75, 3) := by decide +kernel
theorem dX5_closeHall_7 : decode cX5_closeHall 7 = .ok (.iload_n 1, 1) := by decide +kernel
theorem dX5_closeHall_8 : decode cX5_closeHall 8 = .ok (.iconst 3, 1) := by decide +kernel
theorem dX5_closeHall_9 : decode cX5_closeHall 9 = .ok (.iload_n 2, 1) := by decide +kernel
theorem dX5_closeHall_10 : decode cX5_closeHall 10 = .ok (.invokevirtual 97, 3) := by decide +kernel
theorem dX5_closeHall_13 : decode cX5_closeHall 13 = .ok (.aload_n 0, 1) := by decide +kernel
theorem dX5_closeHall_14 : decode cX5_closeHall 14 = .ok (.iload_n 1, 1) := by decide +kernel
theorem dX5_closeHall_15 : decode cX5_closeHall 15 = .ok (.iload_n 2, 1) := by decide +kernel
theorem dX5_closeHall_16 : decode cX5_closeHall 16 = .ok (.invokevirtual 434, 3) := by decide +kernel
theorem dX5_closeHall_19 : decode cX5_closeHall 19 = .ok (.iconst 0, 1) := by decide +kernel
theorem dX5_closeHall_20 : decode cX5_closeHall 20 = .ok (.istore_n 3, 1) := by decide +kernel
theorem dX5_closeHall_21 : decode cX5_closeHall 21 = .ok (.iconst 0, 1) := by decide +kernel
theorem dX5_closeHall_22 : decode cX5_closeHall 22 = .ok (.istore 4, 2) := by decide +kernel
theorem dX5_closeHall_24 : decode cX5_closeHall 24 = .ok (.iload 4, 2) := by decide +kernel
theorem dX5_closeHall_26 : decode cX5_closeHall 26 = .ok (.aload_n 0, 1) := by decide +kernel
theorem dX5_closeHall_27 : decode cX5_closeHall 27 = .ok (.getfield 10, 3) := by decide +kernel
theorem dX5_closeHall_30 : decode cX5_closeHall 30 = .ok (.getfield 293, 3) := by decide +kernel
theorem dX5_closeHall_33 : decode cX5_closeHall 33 = .ok (.invokevirtual 79, 3) := by decide +kernel
theorem dX5_closeHall_36 : decode cX5_closeHall 36 = .ok (.if_icmp .ge 43, 3) := by decide +kernel
theorem dX5_closeHall_39 : decode cX5_closeHall 39 = .ok (.aload_n 0, 1) := by decide +kernel
theorem dX5_closeHall_40 : decode cX5_closeHall 40 = .ok (.iload 4, 2) := by decide +kernel
theorem dX5_closeHall_42 : decode cX5_closeHall 42 = .ok (.iload_n 1, 1) := by decide +kernel
theorem dX5_closeHall_43 : decode cX5_closeHall 43 = .ok (.invokevirtual 437, 3) := by decide +kernel
theorem dX5_closeHall_46 : decode cX5_closeHall 46 = .ok (.ifCond .ne 27, 3) := by decide +kernel
theorem dX5_closeHall_49 : decode cX5_closeHall 49 = .ok (.aload_n 0, 1) := by decide +kernel
theorem dX5_closeHall_50 : decode cX5_closeHall 50 = .ok (.getfield 10, 3) := by decide +kernel
theorem dX5_closeHall_53 : decode cX5_closeHall 53 = .ok (.aload_n 0, 1) := by decide +kernel
theorem dX5_closeHall_54 : decode cX5_closeHall 54 = .ok (.getfield 10, 3) := by decide +kernel
theorem dX5_closeHall_57 : decode cX5_closeHall 57 = .ok (.getfield 293, 3) := by decide +kernel
theorem dX5_closeHall_60 : decode cX5_closeHall 60 = .ok (.iload 4, 2) := by decide +kernel
theorem dX5_closeHall_62 : decode cX5_closeHall 62 = .ok (.iconst 0, 1) := by decide +kernel
theorem dX5_closeHall_63 : decode cX5_closeHall 63 = .ok (.invokevirtual 126, 3) := by decide +kernel
theorem dX5_closeHall_66 : decode cX5_closeHall 66 = .ok (.invokevirtual 243, 3) := by decide +kernel
theorem dX5_closeHall_69 : decode cX5_closeHall 69 = .ok (.pop, 1) := by decide +kernel
theorem dX5_closeHall_70 : decode cX5_closeHall 70 = .ok (.iinc 3 1, 3) := by decide +kernel
theorem dX5_closeHall_73 : decode cX5_closeHall 73 = .ok (.iinc 4 1, 3) := by decide +kernel
theorem dX5_closeHall_76 : decode cX5_closeHall 76 = .ok (.goto (-52), 3) := by decide +kernel
theorem dX5_closeHall_79 : decode cX5_closeHall 79 = .ok (.iload_n 3, 1) := by decide +kernel
theorem dX5_closeHall_80 : decode cX5_closeHall 80 = .ok (.ireturn, 1) := by decide +kernel
set_option maxRecDepth 20000 in
theorem ggX5_takeOutShows_X4_clear : GoodIn wsX5_takeOutShows wsX4_clear := goodIn_r _ [8, 9, 59, 60, 61, 62] (by decide +kernel) (by decide +kernel)
set_option maxRecDepth 20000 in
theorem gX5_takeOutShows_X4_clear : GoodIn wsX5_takeOutShows (wsV RX5 440 RX4 yX4_clear wsX4_clear) := goodIn_app (goodIn_of _ (by decide +kernel)) ggX5_takeOutShows_X4_clear
set_option maxRecDepth 20000 in
theorem ggX5_takeOutShows_X3_showAfter : GoodIn wsX5_takeOutShows wsX3_showAfter := goodIn_ca (goodIn_r _ [14, 15, 16, 17, 18, 7, 19, 9, 20, 21, 22, 23, 24, 25, 26, 27, 28, 13, 29, 51, 52, 53, 54, 55, 56, 57, 58, 59, 60, 61, 62] (by decide +kernel) (by decide +kernel)) (goodIn_sub (fun _ h => List.mem_cons_of_mem _ (List.mem_append_right _ h)) (by decide +kernel))
set_option maxRecDepth 20000 in
theorem gX5_takeOutShows_X3_showAfter : GoodIn wsX5_takeOutShows (wsV RX5 302 RX3 yX3_showAfter wsX3_showAfter) := goodIn_app (goodIn_of _ (by decide +kernel)) ggX5_takeOutShows_X3_showAfter
set_option maxRecDepth 20000 in
theorem ggX5_takeOutShows_X4_get : GoodIn wsX5_takeOutShows wsX4_get := goodIn_ca (goodIn_r _ [23, 24, 25, 59, 60, 61, 62] (by decide +kernel) (by decide +kernel)) (goodIn_sub (fun _ h => List.mem_cons_of_mem _ (List.mem_append_right _ h)) (by decide +kernel))
set_option maxRecDepth 20000 in
theorem gX5_takeOutShows_X4_get : GoodIn wsX5_takeOutShows (wsV RX5 126 RX4 yX4_get wsX4_get) := goodIn_app (goodIn_of _ (by decide +kernel)) ggX5_takeOutShows_X4_get
set_option maxRecDepth 20000 in
theorem ggX5_takeOutShows_X4_addRow : GoodIn wsX5_takeOutShows wsX4_addRow := goodIn_ca (goodIn_r _ [34, 9, 35, 24, 25, 59, 60, 61, 62] (by decide +kernel) (by decide +kernel)) (goodIn_sub (fun _ h => List.mem_cons_of_mem _ (List.mem_append_right _ h)) (by decide +kernel))
set_option maxRecDepth 20000 in
theorem gX5_takeOutShows_X4_addRow : GoodIn wsX5_takeOutShows (wsV RX5 94 RX4 yX4_addRow wsX4_addRow) := goodIn_app (goodIn_of _ (by decide +kernel)) ggX5_takeOutShows_X4_addRow
set_option maxRecDepth 20000 in
theorem ggX5_takeOutShows_X4_put : GoodIn wsX5_takeOutShows wsX4_put := goodIn_ca (goodIn_r _ [39, 24, 25, 59, 60, 61, 62] (by decide +kernel) (by decide +kernel)) (goodIn_sub (fun _ h => List.mem_cons_of_mem _ (List.mem_append_right _ h)) (by decide +kernel))
set_option maxRecDepth 20000 in
theorem gX5_takeOutShows_X4_put : GoodIn wsX5_takeOutShows (wsV RX5 97 RX4 yX4_put wsX4_put) := goodIn_app (goodIn_of _ (by decide +kernel)) ggX5_takeOutShows_X4_put
theorem dX5_takeOutShows_0 : decode cX5_takeOutShows 0 = .ok (.aload_n 0, 1) := by decide +kernel
theorem dX5_takeOutShows_1 : decode cX5_takeOutShows 1 = .ok (.getfield 10, 3) := by decide +kernel
theorem dX5_takeOutShows_4 : decode cX5_takeOutShows 4 = .ok (.getfield 293, 3) := by decide +kernel
theorem dX5_takeOutShows_7 : decode cX5_takeOutShows 7 = .ok (.invokevirtual 440, 3) := by decide +kernel
theorem dX5_takeOutShows_10 : decode cX5_takeOutShows 10 = .ok (.iload_n 2, 1) := by decide +kernel
theorem dX5_takeOutShows_11 : decode cX5_takeOutShows 11 = .ok (.istore_n 3, 1) := by decide +kernel
theorem dX5_takeOutShows_12 : decode cX5_takeOutShows 12 = .ok (.iload_n 3, 1) := by decide +kernel
theorem dX5_takeOutShows_13 : decode cX5_takeOutShows 13 = .ok (.bipush 59, 2) := by decide +kernel
theorem dX5_takeOutShows_15 : decode cX5_takeOutShows 15 = .ok (.if_icmp .gt 182, 3) := by decide +kernel
theorem dX5_takeOutShows_18 : decode cX5_takeOutShows 18 = .ok (.aload_n 0, 1) := by decide +kernel
theorem dX5_takeOutShows_19 : decode cX5_takeOutShows 19 = .ok (.getfield 10, 3) := by decide +kernel
theorem dX5_takeOutShows_22 : decode cX5_takeOutShows 22 = .ok (.iload_n 1, 1) := by decide +kernel
theorem dX5_takeOutShows_23 : decode cX5_takeOutShows 23 = .ok (.iload_n 3, 1) := by decide +kernel
theorem dX5_takeOutShows_24 : decode cX5_takeOutShows 24 = .ok (.iconst (-1), 1) := by decide +kernel
theorem dX5_takeOutShows_25 : decode cX5_takeOutShows 25 = .ok (.invokevirtual 302, 3) := by decide +kernel
theorem dX5_takeOutShows_28 : decode cX5_takeOutShows 28 = .ok (.istore 4, 2) := by decide +kernel
theorem dX5_takeOutShows_30 : decode cX5_takeOutShows 30 = .ok (.iconst 0, 1) := by decide +kernel
theorem dX5_takeOutShows_31 : decode cX5_takeOutShows 31 = .ok (.istore 5, 2) := by decide +kernel
theorem dX5_takeOutShows_33 : decode cX5_takeOutShows 33 = .ok (.iload 5, 2) := by decide +kernel
theorem dX5_takeOutShows_35 : decode cX5_takeOutShows 35 = .ok (.bipush 30, 2) := by decide +kernel
theorem dX5_takeOutShows_37 : decode cX5_takeOutShows 37 = .ok (.if_icmp .ge 154, 3) := by decide +kernel
theorem dX5_takeOutShows_40 : decode cX5_takeOutShows 40 = .ok (.iload 4, 2) := by decide +kernel
theorem dX5_takeOutShows_42 : decode cX5_takeOutShows 42 = .ok (.iconst (-1), 1) := by decide +kernel
theorem dX5_takeOutShows_43 : decode cX5_takeOutShows 43 = .ok (.if_icmp .eq 148, 3) := by decide +kernel
theorem dX5_takeOutShows_46 : decode cX5_takeOutShows 46 = .ok (.aload_n 0, 1) := by decide +kernel
theorem dX5_takeOutShows_47 : decode cX5_takeOutShows 47 = .ok (.getfield 10, 3) := by decide +kernel
theorem dX5_takeOutShows_50 : decode cX5_takeOutShows 50 = .ok (.getfield 210, 3) := by decide +kernel
theorem dX5_takeOutShows_53 : decode cX5_takeOutShows 53 = .ok (.iload 4, 2) := by decide +kernel
theorem dX5_takeOutShows_55 : decode cX5_takeOutShows 55 = .ok (.iconst 3, 1) := by decide +kernel
theorem dX5_takeOutShows_56 : decode cX5_takeOutShows 56 = .ok (.invokevirtual 126, 3) := by decide +kernel
theorem dX5_takeOutShows_59 : decode cX5_takeOutShows 59 = .ok (.istore 6, 2) := by decide +kernel
theorem dX5_takeOutShows_61 : decode cX5_takeOutShows 61 = .ok (.aload_n 0, 1) := by decide +kernel
theorem dX5_takeOutShows_62 : decode cX5_takeOutShows 62 = .ok (.getfield 10, 3) := by decide +kernel
theorem dX5_takeOutShows_65 : decode cX5_takeOutShows 65 = .ok (.getfield 293, 3) := by decide +kernel
theorem dX5_takeOutShows_68 : decode cX5_takeOutShows 68 = .ok (.invokevirtual 94, 3) := by decide +kernel
theorem dX5_takeOutShows_71 : decode cX5_takeOutShows 71 = .ok (.istore 7, 2) := by decide +kernel
theorem dX5_takeOutShows_73 : decode cX5_takeOutShows 73 = .ok (.aload_n 0, 1) := by decide +kernel
theorem dX5_takeOutShows_74 : decode cX5_takeOutShows 74 = .ok (.getfield 10, 3) := by decide +kernel
theorem dX5_takeOutShows_77 : decode cX5_takeOutShows 77 = .ok (.getfield 293, 3) := by decide +kernel
theorem dX5_takeOutShows_80 : decode cX5_takeOutShows 80 = .ok (.iload 7, 2) := by decide +kernel
theorem dX5_takeOutShows_82 : decode cX5_takeOutShows 82 = .ok (.iconst 0, 1) := by decide +kernel
theorem dX5_takeOutShows_83 : decode cX5_takeOutShows 83 = .ok (.iload 4, 2) := by decide +kernel
theorem dX5_takeOutShows_85 : decode cX5_takeOutShows 85 = .ok (.invokevirtual 97, 3) := by decide +kernel
theorem dX5_takeOutShows_88 : decode cX5_takeOutShows 88 = .ok (.aload_n 0, 1) := by decide +kernel
theorem dX5_takeOutShows_89 : decode cX5_takeOutShows 89 = .ok (.getfield 10, 3) := by decide +kernel
theorem dX5_takeOutShows_92 : decode cX5_takeOutShows 92 = .ok (.getfield 293, 3) := by decide +kernel
theorem dX5_takeOutShows_95 : decode cX5_takeOutShows 95 = .ok (.iload 7, 2) := by decide +kernel
theorem dX5_takeOutShows_97 : decode cX5_takeOutShows 97 = .ok (.iconst 1, 1) := by decide +kernel
theorem dX5_takeOutShows_98 : decode cX5_takeOutShows 98 = .ok (.iload 6, 2) := by decide +kernel
theorem dX5_takeOutShows_100 : decode cX5_takeOutShows 100 = .ok (.invokevirtual 97, 3) := by decide +kernel
theorem dX5_takeOutShows_103 : decode cX5_takeOutShows 103 = .ok (.aload_n 0, 1) := by decide +kernel
theorem dX5_takeOutShows_104 : decode cX5_takeOutShows 104 = .ok (.getfield 10, 3) := by decide +kernel
theorem dX5_takeOutShows_107 : decode cX5_takeOutShows 107 = .ok (.getfield 293, 3) := by decide +kernel
theorem dX5_takeOutShows_110 : decode cX5_takeOutShows 110 = .ok (.iload 7, 2) := by decide +kernel
theorem dX5_takeOutShows_112 : decode cX5_takeOutShows 112 = .ok (.iconst 2, 1) := by decide +kernel
theorem dX5_takeOutShows_113 : decode cX5_takeOutShows 113 = .ok (.iconst (-1), 1) := by decide +kernel
theorem dX5_takeOutShows_114 : decode cX5_takeOutShows 114 = .ok (.invokevirtual 97, 3) := by decide +kernel
theorem dX5_takeOutShows_117 : decode cX5_takeOutShows 117 = .ok (.aload_n 0, 1) := by decide +kernel
theorem dX5_takeOutShows_118 : decode cX5_takeOutShows 118 = .ok (.getfield 10, 3) := by decide +kernel
theorem dX5_takeOutShows_121 : decode cX5_takeOutShows 121 = .ok (.getfield 293, 3) := by decide +kernel
theorem dX5_takeOutShows_124 : decode cX5_takeOutShows 124 = .ok (.iload 7, 2) := by decide +kernel
theorem dX5_takeOutShows_126 : decode cX5_takeOutShows 126 = .ok (.iconst 3, 1) := by decide +kernel
theorem dX5_takeOutShows_127 : decode cX5_takeOutShows 127 = .ok (.iconst (-1), 1) := by decide +kernel
theorem dX5_takeOutShows_128 : decode cX5_takeOutShows 128 = .ok (.invokevirtual 97, 3) := by decide +kernel
theorem dX5_takeOutShows_131 : decode cX5_takeOutShows 131 = .ok (.aload_n 0, 1) := by decide +kernel
theorem dX5_takeOutShows_132 : decode cX5_takeOutShows 132 = .ok (.getfield 10, 3) := by decide +kernel
theorem dX5_takeOutShows_135 : decode cX5_takeOutShows 135 = .ok (.getfield 293, 3) := by decide +kernel
theorem dX5_takeOutShows_138 : decode cX5_takeOutShows 138 = .ok (.iload 7, 2) := by decide +kernel
theorem dX5_takeOutShows_140 : decode cX5_takeOutShows 140 = .ok (.iconst 4, 1) := by decide +kernel
theorem dX5_takeOutShows_141 : decode cX5_takeOutShows 141 = .ok (.aload_n 0, 1) := by decide +kernel
theorem dX5_takeOutShows_142 : decode cX5_takeOutShows 142 = .ok (.getfield 10, 3) := by decide +kernel
theorem dX5_takeOutShows_145 : decode cX5_takeOutShows 145 = .ok (.getfield 210, 3) := by decide +kernel
theorem dX5_takeOutShows_148 : decode cX5_takeOutShows 148 = .ok (.iload 4, 2) := by decide +kernel
theorem dX5_takeOutShows_150 : decode cX5_takeOutShows 150 = .ok (.iconst 5, 1) := by decide +kernel
theorem dX5_takeOutShows_151 : decode cX5_takeOutShows 151 = .ok (.invokevirtual 126, 3) := by decide +kernel
theorem dX5_takeOutShows_154 : decode cX5_takeOutShows 154 = .ok (.invokevirtual 97, 3) := by decide +kernel
theorem dX5_takeOutShows_157 : decode cX5_takeOutShows 157 = .ok (.aload_n 0, 1) := by decide +kernel
theorem dX5_takeOutShows_158 : decode cX5_takeOutShows 158 = .ok (.getfield 10, 3) := by decide +kernel
theorem dX5_takeOutShows_161 : decode cX5_takeOutShows 161 = .ok (.getfield 210, 3) := by decide +kernel
theorem dX5_takeOutShows_164 : decode cX5_takeOutShows 164 = .ok (.iload 4, 2) := by decide +kernel
theorem dX5_takeOutShows_166 : decode cX5_takeOutShows 166 = .ok (.bipush 8, 2) := by decide +kernel
theorem dX5_takeOutShows_168 : decode cX5_takeOutShows 168 = .ok (.iconst 1, 1) := by decide +kernel
theorem dX5_takeOutShows_169 : decode cX5_takeOutShows 169 = .ok (.invokevirtual 97, 3) := by decide +kernel
theorem dX5_takeOutShows_172 : decode cX5_takeOutShows 172 = .ok (.aload_n 0, 1) := by decide +kernel
theorem dX5_takeOutShows_173 : decode cX5_takeOutShows 173 = .ok (.getfield 10, 3) := by decide +kernel
theorem dX5_takeOutShows_176 : decode cX5_takeOutShows 176 = .ok (.iload_n 1, 1) := by decide +kernel
theorem dX5_takeOutShows_177 : decode cX5_takeOutShows 177 = .ok (.iload_n 3, 1) := by decide +kernel
theorem dX5_takeOutShows_178 : decode cX5_takeOutShows 178 = .ok (.iload 6, 2) := by decide +kernel
theorem dX5_takeOutShows_180 : decode cX5_takeOutShows 180 = .ok (.invokevirtual 302, 3) := by decide +kernel
theorem dX5_takeOutShows_183 : decode cX5_takeOutShows 183 = .ok (.istore 4, 2) := by decide +kernel
theorem dX5_takeOutShows_185 : decode cX5_takeOutShows 185 = .ok (.iinc 5 1, 3) := by decide +kernel
theorem dX5_takeOutShows_188 : decode cX5_takeOutShows 188 = .ok (.goto (-155), 3) := by decide +kernel
theorem dX5_takeOutShows_191 : decode cX5_takeOutShows 191 = .ok (.iinc 3 1, 3) := by decide +kernel
theorem dX5_takeOutShows_194 : decode cX5_takeOutShows 194 = .ok (.goto (-182), 3) := by decide +kernel
theorem dX5_takeOutShows_197 : decode cX5_takeOutShows 197 = .ok (.return_, 1) := by decide +kernel
set_option maxRecDepth 20000 in
theorem ggX5_isPlacedAgain_X4_get : GoodIn wsX5_isPlacedAgain wsX4_get := goodIn_ca (goodIn_r _ [10, 11, 12, 132, 133, 134, 135] (by decide +kernel) (by decide +kernel)) (goodIn_sub (fun _ h => List.mem_cons_of_mem _ (List.mem_append_right _ h)) (by decide +kernel))
set_option maxRecDepth 20000 in
theorem gX5_isPlacedAgain_X4_get : GoodIn wsX5_isPlacedAgain (wsV RX5 126 RX4 yX4_get wsX4_get) := goodIn_app (goodIn_of _ (by decide +kernel)) ggX5_isPlacedAgain_X4_get
set_option maxRecDepth 20000 in
theorem ggX5_isPlacedAgain_X3_minutesOf : GoodIn wsX5_isPlacedAgain wsX3_minutesOf := goodIn_ca (goodIn_r _ [17, 18, 19, 7, 8, 9, 10, 11, 12, 124, 125, 126, 127, 128, 129, 130, 131, 132, 133, 134, 135] (by decide +kernel) (by decide +kernel)) (goodIn_sub (fun _ h => List.mem_cons_of_mem _ (List.mem_append_right _ h)) (by decide +kernel))
set_option maxRecDepth 20000 in
theorem gX5_isPlacedAgain_X3_minutesOf : GoodIn wsX5_isPlacedAgain (wsV RX5 428 RX3 yX3_minutesOf wsX3_minutesOf) := goodIn_app (goodIn_of _ (by decide +kernel)) ggX5_isPlacedAgain_X3_minutesOf
set_option maxRecDepth 20000 in
theorem ggX5_isPlacedAgain_X3_settingOf : GoodIn wsX5_isPlacedAgain wsX3_settingOf := goodIn_ca (goodIn_r _ [23, 24, 19, 7, 8, 9, 10, 11, 12, 124, 125, 126, 127, 128, 129, 130, 131, 132, 133, 134, 135] (by decide +kernel) (by decide +kernel)) (goodIn_sub (fun _ h => List.mem_cons_of_mem _ (List.mem_append_right _ h)) (by decide +kernel))
set_option maxRecDepth 20000 in
theorem gX5_isPlacedAgain_X3_settingOf : GoodIn wsX5_isPlacedAgain (wsV RX5 155 RX3 yX3_settingOf wsX3_settingOf) := goodIn_app (goodIn_of _ (by decide +kernel)) ggX5_isPlacedAgain_X3_settingOf
set_option maxRecDepth 20000 in
theorem ggX5_isPlacedAgain_X2_takeUp : GoodIn wsX5_isPlacedAgain wsX2_takeUp := goodIn_ca (goodIn_r _ [29, 30, 31, 32, 33, 34, 21, 22, 16, 23, 24, 19, 7, 8, 9, 10, 11, 12, 35, 36, 37, 38, 39, 40, 41, 42, 43, 44, 45, 46, 47, 18, 48, 49, 50, 28, 51, 52, 53, 54, 55, 56, 57, 58, 59, 60, 61, 62, 136, 137, 138, 139, 124, 125, 126, 127, 128, 129, 130, 131, 132, 133, 134, 135] (by decide +kernel) (by decide +kernel)) (goodIn_sub (fun _ h => List.mem_cons_of_mem _ (List.mem_append_right _ h)) (by decide +kernel))
set_option maxRecDepth 20000 in
theorem gX5_isPlacedAgain_X2_takeUp : GoodIn wsX5_isPlacedAgain (wsV RX5 265 RX2 yX2_takeUp wsX2_takeUp) := goodIn_app (goodIn_of _ (by decide +kernel)) ggX5_isPlacedAgain_X2_takeUp
set_option maxRecDepth 20000 in
theorem ggX5_isPlacedAgain_X4_size : GoodIn wsX5_isPlacedAgain wsX4_size := goodIn_r _ [43, 39, 132, 133, 134, 135] (by decide +kernel) (by decide +kernel)
set_option maxRecDepth 20000 in
theorem gX5_isPlacedAgain_X4_size : GoodIn wsX5_isPlacedAgain (wsV RX5 79 RX4 yX4_size wsX4_size) := goodIn_app (goodIn_of _ (by decide +kernel)) ggX5_isPlacedAgain_X4_size
set_option maxRecDepth 20000 in
theorem ggX5_isPlacedAgain_X5_isMinute : GoodIn wsX5_isPlacedAgain wsX5_isMinute := goodIn_r _ [67, 68, 69, 66, 70] (by decide +kernel) (by decide +kernel)
set_option maxRecDepth 20000 in
theorem gX5_isPlacedAgain_X5_isMinute : GoodIn wsX5_isPlacedAgain (va_wsS RX5 215 yX5_isMinute wsX5_isMinute) := goodIn_app (goodIn_of _ (by decide +kernel)) ggX5_isPlacedAgain_X5_isMinute
set_option maxRecDepth 20000 in
theorem ggX5_isPlacedAgain_X2_firstBroken : GoodIn wsX5_isPlacedAgain wsX2_firstBroken := goodIn_ca (goodIn_r _ [74, 75, 30, 52, 31, 76, 53, 7, 8, 9, 10, 11, 12, 34, 21, 22, 16, 23, 24, 19, 77, 78, 79, 28, 80, 81, 82, 83, 84, 85, 86, 87, 88, 89, 90, 32, 40, 41, 42, 43, 39, 91, 92, 93, 94, 95, 96, 97, 98, 99, 100, 101, 102, 124, 125, 126, 127, 128, 129, 130, 131, 136, 137, 138, 139, 132, 133, 134, 135] (by decide +kernel) (by decide +kernel)) (goodIn_sub (fun _ h => List.mem_cons_of_mem _ (List.mem_append_right _ h)) (by decide +kernel))
set_option maxRecDepth 20000 in
theorem gX5_isPlacedAgain_X2_firstBroken : GoodIn wsX5_isPlacedAgain (wsV RX5 272 RX2 yX2_firstBroken wsX2_firstBroken) := goodIn_app (goodIn_of _ (by decide +kernel)) ggX5_isPlacedAgain_X2_firstBroken
set_option maxRecDepth 20000 in
theorem ggX5_isPlacedAgain_X5_putBack : GoodIn wsX5_isPlacedAgain wsX5_putBack := goodIn_ca (goodIn_r _ [106, 1, 2, 4, 6, 7, 8, 9, 10, 11, 12, 107, 108, 109, 16, 110, 18, 19, 111, 60, 61, 62, 112, 113, 114, 115, 116, 117, 118, 119, 120, 121, 122, 123, 124, 125, 126, 127, 128, 129, 130, 131, 132, 133, 134, 135] (by decide +kernel) (by decide +kernel)) (goodIn_sub (fun _ h => List.mem_cons_of_mem _ (List.mem_append_right _ h)) (by decide +kernel))
set_option maxRecDepth 20000 in
theorem gX5_isPlacedAgain_X5_putBack : GoodIn wsX5_isPlacedAgain (wsV RX5 443 RX5 yX5_putBack wsX5_putBack) := goodIn_app (goodIn_of _ (by decide +kernel)) ggX5_isPlacedAgain_X5_putBack
theorem dX5_isPlacedAgain_0 : decode cX5_isPlacedAgain 0 = .ok (.aload_n 0, 1) := by decide +kernel
theorem dX5_isPlacedAgain_1 : decode cX5_isPlacedAgain 1 = .ok (.getfield 10, 3) := by decide +kernel
theorem dX5_isPlacedAgain_4 : decode cX5_isPlacedAgain 4 = .ok (.getfield 293, 3) := by decide +kernel
theorem dX5_isPlacedAgain_7 : decode cX5_isPlacedAgain 7 = .ok (.iload_n 1, 1) := by decide +kernel
theorem dX5_isPlacedAgain_8 : decode cX5_isPlacedAgain 8 = .ok (.iconst 0, 1) := by decide +kernel
theorem dX5_isPlacedAgain_9 : decode cX5_isPlacedAgain 9 = .ok (.invokevirtual 126, 3) := by decide +kernel
theorem dX5_isPlacedAgain_12 : decode cX5_isPlacedAgain 12 = .ok (.istore_n 3, 1) := by decide +kernel
theorem dX5_isPlacedAgain_13 : decode cX5_isPlacedAgain 13 = .ok (.aload_n 0, 1) := by decide +kernel
theorem dX5_isPlacedAgain_14 : decode cX5_isPlacedAgain 14 = .ok (.getfield 10, 3) := by decide +kernel
theorem dX5_isPlacedAgain_17 : decode cX5_isPlacedAgain 17 = .ok (.getfield 293, 3) := by decide +kernel
theorem dX5_isPlacedAgain_20 : decode cX5_isPlacedAgain 20 = .ok (.iload_n 1, 1) := by decide +kernel
theorem dX5_isPlacedAgain_21 : decode cX5_isPlacedAgain 21 = .ok (.iconst 1, 1) := by decide +kernel
theorem dX5_isPlacedAgain_22 : decode cX5_isPlacedAgain 22 = .ok (.invokevirtual 126, 3) := by decide +kernel
theorem dX5_isPlacedAgain_25 : decode cX5_isPlacedAgain 25 = .ok (.istore 4, 2) := by decide +kernel
theorem dX5_isPlacedAgain_27 : decode cX5_isPlacedAgain 27 = .ok (.aload_n 0, 1) := by decide +kernel
theorem dX5_isPlacedAgain_28 : decode cX5_isPlacedAgain 28 = .ok (.getfield 10, 3) := by decide +kernel
theorem dX5_isPlacedAgain_31 : decode cX5_isPlacedAgain 31 = .ok (.getfield 293, 3) := by decide +kernel
theorem dX5_isPlacedAgain_34 : decode cX5_isPlacedAgain 34 = .ok (.iload_n 1, 1) := by decide +kernel
theorem dX5_isPlacedAgain_35 : decode cX5_isPlacedAgain 35 = .ok (.iconst 4, 1) := by decide +kernel
theorem dX5_isPlacedAgain_36 : decode cX5_isPlacedAgain 36 = .ok (.invokevirtual 126, 3) := by decide +kernel
theorem dX5_isPlacedAgain_39 : decode cX5_isPlacedAgain 39 = .ok (.istore 5, 2) := by decide +kernel
theorem dX5_isPlacedAgain_41 : decode cX5_isPlacedAgain 41 = .ok (.aload_n 0, 1) := by decide +kernel
theorem dX5_isPlacedAgain_42 : decode cX5_isPlacedAgain 42 = .ok (.getfield 10, 3) := by decide +kernel
theorem dX5_isPlacedAgain_45 : decode cX5_isPlacedAgain 45 = .ok (.iload_n 3, 1) := by decide +kernel
theorem dX5_isPlacedAgain_46 : decode cX5_isPlacedAgain 46 = .ok (.invokevirtual 428, 3) := by decide +kernel
theorem dX5_isPlacedAgain_49 : decode cX5_isPlacedAgain 49 = .ok (.istore 6, 2) := by decide +kernel
theorem dX5_isPlacedAgain_51 : decode cX5_isPlacedAgain 51 = .ok (.aload_n 0, 1) := by decide +kernel
theorem dX5_isPlacedAgain_52 : decode cX5_isPlacedAgain 52 = .ok (.getfield 10, 3) := by decide +kernel
theorem dX5_isPlacedAgain_55 : decode cX5_isPlacedAgain 55 = .ok (.iconst 4, 1) := by decide +kernel
theorem dX5_isPlacedAgain_56 : decode cX5_isPlacedAgain 56 = .ok (.invokevirtual 155, 3) := by decide +kernel
theorem dX5_isPlacedAgain_59 : decode cX5_isPlacedAgain 59 = .ok (.istore 7, 2) := by decide +kernel
theorem dX5_isPlacedAgain_61 : decode cX5_isPlacedAgain 61 = .ok (.aload_n 0, 1) := by decide +kernel
theorem dX5_isPlacedAgain_62 : decode cX5_isPlacedAgain 62 = .ok (.getfield 29, 3) := by decide +kernel
theorem dX5_isPlacedAgain_65 : decode cX5_isPlacedAgain 65 = .ok (.aload_n 0, 1) := by decide +kernel
theorem dX5_isPlacedAgain_66 : decode cX5_isPlacedAgain 66 = .ok (.getfield 10, 3) := by decide +kernel
theorem dX5_isPlacedAgain_69 : decode cX5_isPlacedAgain 69 = .ok (.iload_n 3, 1) := by decide +kernel
theorem dX5_isPlacedAgain_70 : decode cX5_isPlacedAgain 70 = .ok (.aload_n 0, 1) := by decide +kernel
theorem dX5_isPlacedAgain_71 : decode cX5_isPlacedAgain 71 = .ok (.getfield 10, 3) := by decide +kernel
theorem dX5_isPlacedAgain_74 : decode cX5_isPlacedAgain 74 = .ok (.getfield 210, 3) := by decide +kernel
theorem dX5_isPlacedAgain_77 : decode cX5_isPlacedAgain 77 = .ok (.iload_n 3, 1) := by decide +kernel
theorem dX5_isPlacedAgain_78 : decode cX5_isPlacedAgain 78 = .ok (.iconst 1, 1) := by decide +kernel
theorem dX5_isPlacedAgain_79 : decode cX5_isPlacedAgain 79 = .ok (.invokevirtual 126, 3) := by decide +kernel
theorem dX5_isPlacedAgain_82 : decode cX5_isPlacedAgain 82 = .ok (.aload_n 0, 1) := by decide +kernel
theorem dX5_isPlacedAgain_83 : decode cX5_isPlacedAgain 83 = .ok (.getfield 10, 3) := by decide +kernel
theorem dX5_isPlacedAgain_86 : decode cX5_isPlacedAgain 86 = .ok (.getfield 210, 3) := by decide +kernel
theorem dX5_isPlacedAgain_89 : decode cX5_isPlacedAgain 89 = .ok (.iload_n 3, 1) := by decide +kernel
theorem dX5_isPlacedAgain_90 : decode cX5_isPlacedAgain 90 = .ok (.iconst 2, 1) := by decide +kernel
theorem dX5_isPlacedAgain_91 : decode cX5_isPlacedAgain 91 = .ok (.invokevirtual 126, 3) := by decide +kernel
theorem dX5_isPlacedAgain_94 : decode cX5_isPlacedAgain 94 = .ok (.invokevirtual 265, 3) := by decide +kernel
theorem dX5_isPlacedAgain_97 : decode cX5_isPlacedAgain 97 = .ok (.iconst 0, 1) := by decide +kernel
theorem dX5_isPlacedAgain_98 : decode cX5_isPlacedAgain 98 = .ok (.istore 8, 2) := by decide +kernel
theorem dX5_isPlacedAgain_100 : decode cX5_isPlacedAgain 100 = .ok (.iload 8, 2) := by decide +kernel
theorem dX5_isPlacedAgain_102 : decode cX5_isPlacedAgain 102 = .ok (.iconst 2, 1) := by decide +kernel
theorem dX5_isPlacedAgain_103 : decode cX5_isPlacedAgain 103 = .ok (.iload 7, 2) := by decide +kernel
theorem dX5_isPlacedAgain_105 : decode cX5_isPlacedAgain 105 = .ok (.imul, 1) := by decide +kernel
theorem dX5_isPlacedAgain_106 : decode cX5_isPlacedAgain 106 = .ok (.if_icmp .gt 141, 3) := by decide +kernel
theorem dX5_isPlacedAgain_109 : decode cX5_isPlacedAgain 109 = .ok (.iload 8, 2) := by decide +kernel
theorem dX5_isPlacedAgain_111 : decode cX5_isPlacedAgain 111 = .ok (.iconst 1, 1) := by decide +kernel
theorem dX5_isPlacedAgain_112 : decode cX5_isPlacedAgain 112 = .ok (.iadd, 1) := by decide +kernel
theorem dX5_isPlacedAgain_113 : decode cX5_isPlacedAgain 113 = .ok (.iconst 2, 1) := by decide +kernel
theorem dX5_isPlacedAgain_114 : decode cX5_isPlacedAgain 114 = .ok (.idiv, 1) := by decide +kernel
theorem dX5_isPlacedAgain_115 : decode cX5_isPlacedAgain 115 = .ok (.istore 9, 2) := by decide +kernel
theorem dX5_isPlacedAgain_117 : decode cX5_isPlacedAgain 117 = .ok (.iload 8, 2) := by decide +kernel
theorem dX5_isPlacedAgain_119 : decode cX5_isPlacedAgain 119 = .ok (.iconst 2, 1) := by decide +kernel
theorem dX5_isPlacedAgain_120 : decode cX5_isPlacedAgain 120 = .ok (.irem, 1) := by decide +kernel
theorem dX5_isPlacedAgain_121 : decode cX5_isPlacedAgain 121 = .ok (.ifCond .ne 11, 3) := by decide +kernel
theorem dX5_isPlacedAgain_124 : decode cX5_isPlacedAgain 124 = .ok (.iload 4, 2) := by decide +kernel
theorem dX5_isPlacedAgain_126 : decode cX5_isPlacedAgain 126 = .ok (.iload 9, 2) := by decide +kernel
theorem dX5_isPlacedAgain_128 : decode cX5_isPlacedAgain 128 = .ok (.iadd, 1) := by decide +kernel
theorem dX5_isPlacedAgain_129 : decode cX5_isPlacedAgain 129 = .ok (.goto 8, 3) := by decide +kernel
theorem dX5_isPlacedAgain_132 : decode cX5_isPlacedAgain 132 = .ok (.iload 4, 2) := by decide +kernel
theorem dX5_isPlacedAgain_134 : decode cX5_isPlacedAgain 134 = .ok (.iload 9, 2) := by decide +kernel
theorem dX5_isPlacedAgain_136 : decode cX5_isPlacedAgain 136 = .ok (.isub, 1) := by decide +kernel
theorem dX5_isPlacedAgain_137 : decode cX5_isPlacedAgain 137 = .ok (.istore 10, 2) := by decide +kernel
theorem dX5_isPlacedAgain_139 : decode cX5_isPlacedAgain 139 = .ok (.iconst 0, 1) := by decide +kernel
theorem dX5_isPlacedAgain_140 : decode cX5_isPlacedAgain 140 = .ok (.istore 11, 2) := by decide +kernel
theorem dX5_isPlacedAgain_142 : decode cX5_isPlacedAgain 142 = .ok (.iload 11, 2) := by decide +kernel
theorem dX5_isPlacedAgain_144 : decode cX5_isPlacedAgain 144 = .ok (.aload_n 0, 1) := by decide +kernel
theorem dX5_isPlacedAgain_145 : decode cX5_isPlacedAgain 145 = .ok (.getfield 10, 3) := by decide +kernel
theorem dX5_isPlacedAgain_148 : decode cX5_isPlacedAgain 148 = .ok (.getfield 75, 3) := by decide +kernel
theorem dX5_isPlacedAgain_151 : decode cX5_isPlacedAgain 151 = .ok (.invokevirtual 79, 3) := by decide +kernel
theorem dX5_isPlacedAgain_154 : decode cX5_isPlacedAgain 154 = .ok (.if_icmp .ge 87, 3) := by decide +kernel
theorem dX5_isPlacedAgain_157 : decode cX5_isPlacedAgain 157 = .ok (.iload 10, 2) := by decide +kernel
theorem dX5_isPlacedAgain_159 : decode cX5_isPlacedAgain 159 = .ok (.invokestatic 215, 3) := by decide +kernel
theorem dX5_isPlacedAgain_162 : decode cX5_isPlacedAgain 162 = .ok (.ifCond .eq 79, 3) := by decide +kernel
theorem dX5_isPlacedAgain_165 : decode cX5_isPlacedAgain 165 = .ok (.iload 11, 2) := by decide +kernel
theorem dX5_isPlacedAgain_167 : decode cX5_isPlacedAgain 167 = .ok (.iload_n 2, 1) := by decide +kernel
theorem dX5_isPlacedAgain_168 : decode cX5_isPlacedAgain 168 = .ok (.if_icmp .eq 25, 3) := by decide +kernel
theorem dX5_isPlacedAgain_171 : decode cX5_isPlacedAgain 171 = .ok (.aload_n 0, 1) := by decide +kernel
theorem dX5_isPlacedAgain_172 : decode cX5_isPlacedAgain 172 = .ok (.getfield 10, 3) := by decide +kernel
theorem dX5_isPlacedAgain_175 : decode cX5_isPlacedAgain 175 = .ok (.getfield 75, 3) := by decide +kernel
theorem dX5_isPlacedAgain_178 : decode cX5_isPlacedAgain 178 = .ok (.iload 11, 2) := by decide +kernel
theorem dX5_isPlacedAgain_180 : decode cX5_isPlacedAgain 180 = .ok (.iconst 0, 1) := by decide +kernel
theorem dX5_isPlacedAgain_181 : decode cX5_isPlacedAgain 181 = .ok (.invokevirtual 126, 3) := by decide +kernel
theorem dX5_isPlacedAgain_184 : decode cX5_isPlacedAgain 184 = .ok (.iload 5, 2) := by decide +kernel
theorem dX5_isPlacedAgain_186 : decode cX5_isPlacedAgain 186 = .ok (.if_icmp .lt 7, 3) := by decide +kernel
theorem dX5_isPlacedAgain_189 : decode cX5_isPlacedAgain 189 = .ok (.iconst 1, 1) := by decide +kernel
theorem dX5_isPlacedAgain_190 : decode cX5_isPlacedAgain 190 = .ok (.goto 4, 3) := by decide +kernel
theorem dX5_isPlacedAgain_193 : decode cX5_isPlacedAgain 193 = .ok (.iconst 0, 1) := by decide +kernel
theorem dX5_isPlacedAgain_194 : decode cX5_isPlacedAgain 194 = .ok (.istore 12, 2) := by decide +kernel
theorem dX5_isPlacedAgain_196 : decode cX5_isPlacedAgain 196 = .ok (.iload 12, 2) := by decide +kernel
theorem dX5_isPlacedAgain_198 : decode cX5_isPlacedAgain 198 = .ok (.ifCond .eq 37, 3) := by decide +kernel
theorem dX5_isPlacedAgain_201 : decode cX5_isPlacedAgain 201 = .ok (.aload_n 0, 1) := by decide +kernel
theorem dX5_isPlacedAgain_202 : decode cX5_isPlacedAgain 202 = .ok (.getfield 29, 3) := by decide +kernel
theorem dX5_isPlacedAgain_205 : decode cX5_isPlacedAgain 205 = .ok (.aload_n 0, 1) := by decide +kernel
theorem dX5_isPlacedAgain_206 : decode cX5_isPlacedAgain 206 = .ok (.getfield 10, 3) := by decide +kernel
theorem dX5_isPlacedAgain_209 : decode cX5_isPlacedAgain 209 = .ok (.iload 11, 2) := by decide +kernel
theorem dX5_isPlacedAgain_211 : decode cX5_isPlacedAgain 211 = .ok (.iload 10, 2) := by decide +kernel
theorem dX5_isPlacedAgain_213 : decode cX5_isPlacedAgain 213 = .ok (.iload 10, 2) := by decide +kernel
theorem dX5_isPlacedAgain_215 : decode cX5_isPlacedAgain 215 = .ok (.iload 6, 2) := by decide +kernel
theorem dX5_isPlacedAgain_217 : decode cX5_isPlacedAgain 217 = .ok (.iadd, 1) := by decide +kernel
theorem dX5_isPlacedAgain_218 : decode cX5_isPlacedAgain 218 = .ok (.invokevirtual 272, 3) := by decide +kernel
theorem dX5_isPlacedAgain_221 : decode cX5_isPlacedAgain 221 = .ok (.ifCond .ne 14, 3) := by decide +kernel
theorem dX5_isPlacedAgain_224 : decode cX5_isPlacedAgain 224 = .ok (.aload_n 0, 1) := by decide +kernel
theorem dX5_isPlacedAgain_225 : decode cX5_isPlacedAgain 225 = .ok (.iload_n 1, 1) := by decide +kernel
theorem dX5_isPlacedAgain_226 : decode cX5_isPlacedAgain 226 = .ok (.iload 11, 2) := by decide +kernel
theorem dX5_isPlacedAgain_228 : decode cX5_isPlacedAgain 228 = .ok (.iload 10, 2) := by decide +kernel
theorem dX5_isPlacedAgain_230 : decode cX5_isPlacedAgain 230 = .ok (.invokevirtual 443, 3) := by decide +kernel
theorem dX5_isPlacedAgain_233 : decode cX5_isPlacedAgain 233 = .ok (.iconst 1, 1) := by decide +kernel
theorem dX5_isPlacedAgain_234 : decode cX5_isPlacedAgain 234 = .ok (.ireturn, 1) := by decide +kernel
theorem dX5_isPlacedAgain_235 : decode cX5_isPlacedAgain 235 = .ok (.iinc 11 1, 3) := by decide +kernel
theorem dX5_isPlacedAgain_238 : decode cX5_isPlacedAgain 238 = .ok (.goto (-96), 3) := by decide +kernel
theorem dX5_isPlacedAgain_241 : decode cX5_isPlacedAgain 241 = .ok (.iinc 8 1, 3) := by decide +kernel
theorem dX5_isPlacedAgain_244 : decode cX5_isPlacedAgain 244 = .ok (.goto (-144), 3) := by decide +kernel
theorem dX5_isPlacedAgain_247 : decode cX5_isPlacedAgain 247 = .ok (.iconst 0, 1) := by decide +kernel
theorem dX5_isPlacedAgain_248 : decode cX5_isPlacedAgain 248 = .ok (.ireturn, 1) := by decide +kernel
set_option maxRecDepth 20000 in
theorem ggX5_putBack_X4_get : GoodIn wsX5_putBack wsX4_get := goodIn_ca (goodIn_r _ [8, 9, 10, 42, 43, 44, 45] (by decide +kernel) (by decide +kernel)) (goodIn_sub (fun _ h => List.mem_cons_of_mem _ (List.mem_append_right _ h)) (by decide +kernel))
set_option maxRecDepth 20000 in
theorem gX5_putBack_X4_get : GoodIn wsX5_putBack (wsV RX5 126 RX4 yX4_get wsX4_get) := goodIn_app (goodIn_of _ (by decide +kernel)) ggX5_putBack_X4_get
set_option maxRecDepth 20000 in
theorem ggX5_putBack_X3_putShow : GoodIn wsX5_putBack wsX3_putShow := goodIn_ca (goodIn_r _ [15, 16, 17, 5, 6, 7, 8, 9, 10, 18, 19, 20, 21, 34, 35, 36, 37, 38, 39, 40, 41, 42, 43, 44, 45] (by decide +kernel) (by decide +kernel)) (goodIn_sub (fun _ h => List.mem_cons_of_mem _ (List.mem_append_right _ h)) (by decide +kernel))
set_option maxRecDepth 20000 in
theorem gX5_putBack_X3_putShow : GoodIn wsX5_putBack (wsV RX5 230 RX3 yX3_putShow wsX3_putShow) := goodIn_app (goodIn_of _ (by decide +kernel)) ggX5_putBack_X3_putShow
set_option maxRecDepth 20000 in
theorem ggX5_putBack_X4_put : GoodIn wsX5_putBack wsX4_put := goodIn_ca (goodIn_r _ [21, 9, 10, 42, 43, 44, 45] (by decide +kernel) (by decide +kernel)) (goodIn_sub (fun _ h => List.mem_cons_of_mem _ (List.mem_append_right _ h)) (by decide +kernel))
set_option maxRecDepth 20000 in
theorem gX5_putBack_X4_put : GoodIn wsX5_putBack (wsV RX5 97 RX4 yX4_put wsX4_put) := goodIn_app (goodIn_of _ (by decide +kernel)) ggX5_putBack_X4_put
theorem dX5_putBack_0 : decode cX5_putBack 0 = .ok (.aload_n 0, 1) := by decide +kernel
theorem dX5_putBack_1 : decode cX5_putBack 1 = .ok (.getfield 10, 3) := by decide +kernel
theorem dX5_putBack_4 : decode cX5_putBack 4 = .ok (.getfield 293, 3) := by decide +kernel
theorem dX5_putBack_7 : decode cX5_putBack 7 = .ok (.iload_n 1, 1) := by decide +kernel
theorem dX5_putBack_8 : decode cX5_putBack 8 = .ok (.iconst 0, 1) := by decide +kernel
theorem dX5_putBack_9 : decode cX5_putBack 9 = .ok (.invokevirtual 126, 3) := by decide +kernel
theorem dX5_putBack_12 : decode cX5_putBack 12 = .ok (.istore 4, 2) := by decide +kernel
theorem dX5_putBack_14 : decode cX5_putBack 14 = .ok (.aload_n 0, 1) := by decide +kernel
theorem dX5_putBack_15 : decode cX5_putBack 15 = .ok (.getfield 10, 3) := by decide +kernel
theorem dX5_putBack_18 : decode cX5_putBack 18 = .ok (.iload 4, 2) := by decide +kernel
theorem dX5_putBack_20 : decode cX5_putBack 20 = .ok (.iload_n 2, 1) := by decide +kernel
theorem dX5_putBack_21 : decode cX5_putBack 21 = .ok (.iload_n 3, 1) := by decide +kernel
theorem dX5_putBack_22 : decode cX5_putBack 22 = .ok (.invokevirtual 230, 3) := by decide +kernel
theorem dX5_putBack_25 : decode cX5_putBack 25 = .ok (.aload_n 0, 1) := by decide +kernel
theorem dX5_putBack_26 : decode cX5_putBack 26 = .ok (.getfield 10, 3) := by decide +kernel
theorem dX5_putBack_29 : decode cX5_putBack 29 = .ok (.getfield 210, 3) := by decide +kernel
theorem dX5_putBack_32 : decode cX5_putBack 32 = .ok (.iload 4, 2) := by decide +kernel
theorem dX5_putBack_34 : decode cX5_putBack 34 = .ok (.bipush 8, 2) := by decide +kernel
theorem dX5_putBack_36 : decode cX5_putBack 36 = .ok (.iconst 0, 1) := by decide +kernel
theorem dX5_putBack_37 : decode cX5_putBack 37 = .ok (.invokevirtual 97, 3) := by decide +kernel
theorem dX5_putBack_40 : decode cX5_putBack 40 = .ok (.aload_n 0, 1) := by decide +kernel
theorem dX5_putBack_41 : decode cX5_putBack 41 = .ok (.getfield 10, 3) := by decide +kernel
theorem dX5_putBack_44 : decode cX5_putBack 44 = .ok (.getfield 293, 3) := by decide +kernel
theorem dX5_putBack_47 : decode cX5_putBack 47 = .ok (.iload_n 1, 1) := by decide +kernel
theorem dX5_putBack_48 : decode cX5_putBack 48 = .ok (.iconst 2, 1) := by decide +kernel
theorem dX5_putBack_49 : decode cX5_putBack 49 = .ok (.iload_n 2, 1) := by decide +kernel
theorem dX5_putBack_50 : decode cX5_putBack 50 = .ok (.invokevirtual 97, 3) := by decide +kernel
theorem dX5_putBack_53 : decode cX5_putBack 53 = .ok (.aload_n 0, 1) := by decide +kernel
theorem dX5_putBack_54 : decode cX5_putBack 54 = .ok (.getfield 10, 3) := by decide +kernel
theorem dX5_putBack_57 : decode cX5_putBack 57 = .ok (.getfield 293, 3) := by decide +kernel
theorem dX5_putBack_60 : decode cX5_putBack 60 = .ok (.iload_n 1, 1) := by decide +kernel
theorem dX5_putBack_61 : decode cX5_putBack 61 = .ok (.iconst 3, 1) := by decide +kernel
theorem dX5_putBack_62 : decode cX5_putBack 62 = .ok (.iload_n 3, 1) := by decide +kernel
theorem dX5_putBack_63 : decode cX5_putBack 63 = .ok (.invokevirtual 97, 3) := by decide +kernel
theorem dX5_putBack_66 : decode cX5_putBack 66 = .ok (.return_, 1) := by decide +kernel
set_option maxRecDepth 20000 in
theorem ggX5_appendShow_X4_get : GoodIn wsX5_appendShow wsX4_get := goodIn_ca (goodIn_r _ [8, 9, 10, 233, 234, 235, 236] (by decide +kernel) (by decide +kernel)) (goodIn_sub (fun _ h => List.mem_cons_of_mem _ (List.mem_append_right _ h)) (by decide +kernel))
set_option maxRecDepth 20000 in
theorem gX5_appendShow_X4_get : GoodIn wsX5_appendShow (wsV RX5 126 RX4 yX4_get wsX4_get) := goodIn_app (goodIn_of _ (by decide +kernel)) ggX5_appendShow_X4_get
set_option maxRecDepth 20000 in
theorem ggX5_appendShow_J4_append_bf812 : GoodIn wsX5_appendShow wsJ4_append_bf812 := goodIn_r _ [15, 16, 17, 18, 19, 20, 21, 22, 23, 24, 25, 26, 27, 28, 29, 30, 31, 32, 33, 34, 35, 36, 37, 38, 39, 40, 41, 42, 43, 44, 45, 46, 47, 48, 49, 50, 51, 52, 53, 54, 55, 56, 57, 58, 59, 60, 61, 62, 63, 64, 65, 66, 67, 68, 69, 70, 71, 72, 73, 74, 75, 76, 77, 78, 79, 80, 81, 82, 83, 84, 85, 86, 87, 88, 89, 90, 91, 92, 93, 94, 95, 96, 97, 98, 99, 100, 101, 102, 103, 104, 105, 106, 107, 108, 109, 110, 237, 238, 239, 240] (by decide +kernel) (by decide +kernel)
set_option maxRecDepth 20000 in
theorem gX5_appendShow_J4_append_bf812 : GoodIn wsX5_appendShow (wsV RX5 446 RJ4 yJ4_append_bf812 wsJ4_append_bf812) := goodIn_app (goodIn_of _ (by decide +kernel)) ggX5_appendShow_J4_append_bf812
set_option maxRecDepth 20000 in
theorem ggX5_appendShow_J4_append_cf468 : GoodIn wsX5_appendShow wsJ4_append_cf468 := goodIn_r _ [114, 115, 116, 18, 117, 20, 118, 22, 23, 28, 29, 30, 31, 32, 33, 34, 35, 36, 37, 38, 39, 40, 41, 42, 43, 44, 45, 46, 47, 48, 49, 50, 51, 52, 53, 54, 55, 56, 57, 58, 59, 60, 61, 62, 63, 64, 65, 66, 67, 68, 69, 70, 71, 72, 73, 74, 75, 119, 120, 121, 122, 123, 124, 125, 126, 127, 128, 129, 83, 130, 131, 132, 133, 134, 135, 136, 137, 138, 139, 140, 141, 142, 143, 89, 90, 91, 144, 145, 94, 146, 96, 147, 148, 99, 149, 106, 107, 108, 85, 109, 110, 150, 151, 152, 153, 154, 155, 156, 157, 158, 159, 160, 161, 237, 238, 239, 240] (by decide +kernel) (by decide +kernel)
set_option maxRecDepth 20000 in
theorem gX5_appendShow_J4_append_cf468 : GoodIn wsX5_appendShow (wsV RX5 377 RJ4 yJ4_append_cf468 wsJ4_append_cf468) := goodIn_app (goodIn_of _ (by decide +kernel)) ggX5_appendShow_J4_append_cf468
set_option maxRecDepth 20000 in
theorem ggX5_appendShow_J4_append_15ec4 : GoodIn wsX5_appendShow wsJ4_append_15ec4 := goodIn_r _ [165, 166, 167, 18, 168, 20, 169, 22, 170, 171, 172, 173, 174, 23, 28, 29, 30, 31, 32, 33, 34, 35, 36, 37, 38, 39, 40, 41, 42, 43, 44, 45, 46, 47, 48, 49, 50, 51, 52, 53, 54, 55, 56, 57, 58, 59, 60, 61, 62, 63, 64, 65, 66, 67, 68, 69, 70, 71, 72, 73, 74, 75, 175, 176, 83, 177, 85, 86, 87, 88, 89, 90, 91, 92, 93, 94, 95, 96, 97, 98, 99, 100, 106, 107, 108, 109, 110, 178, 179, 180, 181, 182, 183, 184, 185, 186, 187, 188, 189, 190, 191, 192, 193, 194, 195, 196, 197, 198, 199, 123, 124, 125, 126, 127, 128, 129, 130, 131, 132, 133, 134, 135, 136, 121, 137, 138, 139, 140, 141, 142, 143, 144, 145, 146, 147, 148, 149, 200, 201, 202, 203, 204, 205, 237, 238, 239, 240, 241, 242, 243, 244] (by decide +kernel) (by decide +kernel)
set_option maxRecDepth 20000 in
theorem gX5_appendShow_J4_append_15ec4 : GoodIn wsX5_appendShow (wsV RX5 353 RJ4 yJ4_append_15ec4 wsJ4_append_15ec4) := goodIn_app (goodIn_of _ (by decide +kernel)) ggX5_appendShow_J4_append_15ec4
set_option maxRecDepth 20000 in
theorem ggX5_appendShow_X3_seatsOf : GoodIn wsX5_appendShow wsX3_seatsOf := goodIn_ca (goodIn_r _ [210, 211, 212, 213, 5, 6, 7, 8, 9, 10, 225, 226, 227, 228, 229, 230, 231, 232, 233, 234, 235, 236] (by decide +kernel) (by decide +kernel)) (goodIn_sub (fun _ h => List.mem_cons_of_mem _ (List.mem_append_right _ h)) (by decide +kernel))
set_option maxRecDepth 20000 in
theorem gX5_appendShow_X3_seatsOf : GoodIn wsX5_appendShow (wsV RX5 431 RX3 yX3_seatsOf wsX3_seatsOf) := goodIn_app (goodIn_of _ (by decide +kernel)) ggX5_appendShow_X3_seatsOf
