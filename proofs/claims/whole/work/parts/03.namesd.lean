theorem dX5_setLimit_0 : decode cX5_setLimit 0 = .ok (.iload_n 1, 1) := by decide +kernel
theorem dX5_setLimit_1 : decode cX5_setLimit 1 = .ok (.iconst 0, 1) := by decide +kernel
theorem dX5_setLimit_2 : decode cX5_setLimit 2 = .ok (.bipush 15, 2) := by decide +kernel
theorem dX5_setLimit_4 : decode cX5_setLimit 4 = .ok (.invokestatic 64, 3) := by decide +kernel
theorem dX5_setLimit_7 : decode cX5_setLimit 7 = .ok (.ifCond .ne 13, 3) := by decide +kernel
theorem dX5_setLimit_10 : decode cX5_setLimit 10 = .ok (.new 119, 3) := by decide +kernel
theorem dX5_setLimit_13 : decode cX5_setLimit 13 = .ok (.dup, 1) := by decide +kernel
theorem dX5_setLimit_14 : decode cX5_setLimit 14 = .ok (.ldc 149, 2) := by decide +kernel
theorem dX5_setLimit_16 : decode cX5_setLimit 16 = .ok (.invokespecial 123, 3) := by decide +kernel
theorem dX5_setLimit_19 : decode cX5_setLimit 19 = .ok (.athrow, 1) := by decide +kernel
theorem dX5_setLimit_20 : decode cX5_setLimit 20 = .ok (.iload_n 2, 1) := by decide +kernel
theorem dX5_setLimit_21 : decode cX5_setLimit 21 = .ok (.invokestatic 101, 3) := by decide +kernel
theorem dX5_setLimit_24 : decode cX5_setLimit 24 = .ok (.ifCond .ne 13, 3) := by decide +kernel
theorem dX5_setLimit_27 : decode cX5_setLimit 27 = .ok (.new 68, 3) := by decide +kernel
theorem dX5_setLimit_30 : decode cX5_setLimit 30 = .ok (.dup, 1) := by decide +kernel
theorem dX5_setLimit_31 : decode cX5_setLimit 31 = .ok (.ldc 151, 2) := by decide +kernel
theorem dX5_setLimit_33 : decode cX5_setLimit 33 = .ok (.invokespecial 72, 3) := by decide +kernel
theorem dX5_setLimit_36 : decode cX5_setLimit 36 = .ok (.athrow, 1) := by decide +kernel
theorem dX5_setLimit_37 : decode cX5_setLimit 37 = .ok (.aload_n 0, 1) := by decide +kernel
theorem dX5_setLimit_38 : decode cX5_setLimit 38 = .ok (.getfield 22, 3) := by decide +kernel
theorem dX5_setLimit_41 : decode cX5_setLimit 41 = .ok (.aload_n 0, 1) := by decide +kernel
theorem dX5_setLimit_42 : decode cX5_setLimit 42 = .ok (.getfield 10, 3) := by decide +kernel
theorem dX5_setLimit_45 : decode cX5_setLimit 45 = .ok (.invokevirtual 90, 3) := by decide +kernel
theorem dX5_setLimit_48 : decode cX5_setLimit 48 = .ok (.aload_n 0, 1) := by decide +kernel
theorem dX5_setLimit_49 : decode cX5_setLimit 49 = .ok (.getfield 10, 3) := by decide +kernel
theorem dX5_setLimit_52 : decode cX5_setLimit 52 = .ok (.bipush 10, 2) := by decide +kernel
theorem dX5_setLimit_54 : decode cX5_setLimit 54 = .ok (.iload_n 1, 1) := by decide +kernel
theorem dX5_setLimit_55 : decode cX5_setLimit 55 = .ok (.iadd, 1) := by decide +kernel
theorem dX5_setLimit_56 : decode cX5_setLimit 56 = .ok (.iload_n 2, 1) := by decide +kernel
theorem dX5_setLimit_57 : decode cX5_setLimit 57 = .ok (.invokevirtual 146, 3) := by decide +kernel
theorem dX5_setLimit_60 : decode cX5_setLimit 60 = .ok (.ireturn, 1) := by decide +kernel
set_option maxRecDepth 20000 in
theorem ggX5_setting_X5_isWithin : GoodIn wsX5_setting wsX5_isWithin := goodIn_r _ [7] (by decide +kernel) (by decide +kernel)
set_option maxRecDepth 20000 in
theorem gX5_setting_X5_isWithin : GoodIn wsX5_setting (va_wsS RX5 64 yX5_isWithin wsX5_isWithin) := goodIn_app (goodIn_of _ (by decide +kernel)) ggX5_setting_X5_isWithin
set_option maxRecDepth 20000 in
theorem ggX5_setting_X3_settingOf : GoodIn wsX5_setting wsX3_settingOf := goodIn_ca (goodIn_r _ [12, 13, 14, 15, 16, 17, 18, 19, 20, 32, 33, 34, 35, 36, 37, 38, 39, 40, 41, 42, 43] (by decide +kernel) (by decide +kernel)) (goodIn_sub (fun _ h => List.mem_cons_of_mem _ (List.mem_append_right _ h)) (by decide +kernel))
set_option maxRecDepth 20000 in
theorem gX5_setting_X3_settingOf : GoodIn wsX5_setting (wsV RX5 155 RX3 yX3_settingOf wsX3_settingOf) := goodIn_app (goodIn_of _ (by decide +kernel)) ggX5_setting_X3_settingOf
theorem dX5_setting_0 : decode cX5_setting 0 = .ok (.iload_n 1, 1) := by decide +kernel
theorem dX5_setting_1 : decode cX5_setting 1 = .ok (.iconst 0, 1) := by decide +kernel
theorem dX5_setting_2 : decode cX5_setting 2 = .ok (.iconst 5, 1) := by decide +kernel
theorem dX5_setting_3 : decode cX5_setting 3 = .ok (.invokestatic 64, 3) := by decide +kernel
theorem dX5_setting_6 : decode cX5_setting 6 = .ok (.ifCond .ne 24, 3) := by decide +kernel
theorem dX5_setting_9 : decode cX5_setting 9 = .ok (.iload_n 1, 1) := by decide +kernel
theorem dX5_setting_10 : decode cX5_setting 10 = .ok (.bipush 10, 2) := by decide +kernel
theorem dX5_setting_12 : decode cX5_setting 12 = .ok (.bipush 25, 2) := by decide +kernel
theorem dX5_setting_14 : decode cX5_setting 14 = .ok (.invokestatic 64, 3) := by decide +kernel
theorem dX5_setting_17 : decode cX5_setting 17 = .ok (.ifCond .ne 13, 3) := by decide +kernel
theorem dX5_setting_20 : decode cX5_setting 20 = .ok (.new 119, 3) := by decide +kernel
theorem dX5_setting_23 : decode cX5_setting 23 = .ok (.dup, 1) := by decide +kernel
theorem dX5_setting_24 : decode cX5_setting 24 = .ok (.ldc 153, 2) := by decide +kernel
theorem dX5_setting_26 : decode cX5_setting 26 = .ok (.invokespecial 123, 3) := by decide +kernel
theorem dX5_setting_29 : decode cX5_setting 29 = .ok (.athrow, 1) := by decide +kernel
theorem dX5_setting_30 : decode cX5_setting 30 = .ok (.aload_n 0, 1) := by decide +kernel
theorem dX5_setting_31 : decode cX5_setting 31 = .ok (.getfield 10, 3) := by decide +kernel
theorem dX5_setting_34 : decode cX5_setting 34 = .ok (.iload_n 1, 1) := by decide +kernel
theorem dX5_setting_35 : decode cX5_setting 35 = .ok (.invokevirtual 155, 3) := by decide +kernel
theorem dX5_setting_38 : decode cX5_setting 38 = .ok (.ireturn, 1) := by decide +kernel
set_option maxRecDepth 20000 in
theorem ggX5_hall_X4_isRow : GoodIn wsX5_hall wsX4_isRow := goodIn_r _ [11, 12, 87, 88, 89, 90] (by decide +kernel) (by decide +kernel)
set_option maxRecDepth 20000 in
theorem gX5_hall_X4_isRow : GoodIn wsX5_hall (wsV RX5 116 RX4 yX4_isRow wsX4_isRow) := goodIn_app (goodIn_of _ (by decide +kernel)) ggX5_hall_X4_isRow
set_option maxRecDepth 20000 in
theorem ggX5_hall_X5_isWithin : GoodIn wsX5_hall wsX5_isWithin := goodIn_r _ [16] (by decide +kernel) (by decide +kernel)
set_option maxRecDepth 20000 in
theorem gX5_hall_X5_isWithin : GoodIn wsX5_hall (va_wsS RX5 64 yX5_isWithin wsX5_isWithin) := goodIn_app (goodIn_of _ (by decide +kernel)) ggX5_hall_X5_isWithin
set_option maxRecDepth 20000 in
theorem ggX5_hall_X3_total : GoodIn wsX5_hall wsX3_total := goodIn_ca (goodIn_r _ [21, 22, 23, 24, 25, 10, 26, 12, 27, 28, 29, 30, 31, 32, 33, 34, 35, 20, 36, 37, 38, 39, 40, 41, 42, 43, 44, 45, 46, 47, 48, 49, 50, 51, 52, 53, 54, 55, 56, 57, 58, 59, 60, 61, 62, 63, 64, 65, 66, 79, 80, 81, 82, 83, 84, 85, 86, 87, 88, 89, 90] (by decide +kernel) (by decide +kernel)) (goodIn_sub (fun _ h => List.mem_cons_of_mem _ (List.mem_append_right _ h)) (by decide +kernel))
set_option maxRecDepth 20000 in
theorem gX5_hall_X3_total : GoodIn wsX5_hall (wsV RX5 163 RX3 yX3_total wsX3_total) := goodIn_app (goodIn_of _ (by decide +kernel)) ggX5_hall_X3_total
set_option maxRecDepth 20000 in
theorem ggX5_hall_X4_get : GoodIn wsX5_hall wsX4_get := goodIn_ca (goodIn_r _ [30, 31, 32, 87, 88, 89, 90] (by decide +kernel) (by decide +kernel)) (goodIn_sub (fun _ h => List.mem_cons_of_mem _ (List.mem_append_right _ h)) (by decide +kernel))
set_option maxRecDepth 20000 in
theorem gX5_hall_X4_get : GoodIn wsX5_hall (wsV RX5 126 RX4 yX4_get wsX4_get) := goodIn_app (goodIn_of _ (by decide +kernel)) ggX5_hall_X4_get
theorem dX5_hall_0 : decode cX5_hall 0 = .ok (.aload_n 0, 1) := by decide +kernel
theorem dX5_hall_1 : decode cX5_hall 1 = .ok (.getfield 10, 3) := by decide +kernel
theorem dX5_hall_4 : decode cX5_hall 4 = .ok (.getfield 75, 3) := by decide +kernel
theorem dX5_hall_7 : decode cX5_hall 7 = .ok (.iload_n 1, 1) := by decide +kernel
theorem dX5_hall_8 : decode cX5_hall 8 = .ok (.invokevirtual 116, 3) := by decide +kernel
theorem dX5_hall_11 : decode cX5_hall 11 = .ok (.ifCond .ne 13, 3) := by decide +kernel
theorem dX5_hall_14 : decode cX5_hall 14 = .ok (.new 119, 3) := by decide +kernel
theorem dX5_hall_17 : decode cX5_hall 17 = .ok (.dup, 1) := by decide +kernel
theorem dX5_hall_18 : decode cX5_hall 18 = .ok (.ldc 159, 2) := by decide +kernel
theorem dX5_hall_20 : decode cX5_hall 20 = .ok (.invokespecial 123, 3) := by decide +kernel
theorem dX5_hall_23 : decode cX5_hall 23 = .ok (.athrow, 1) := by decide +kernel
theorem dX5_hall_24 : decode cX5_hall 24 = .ok (.iload_n 2, 1) := by decide +kernel
theorem dX5_hall_25 : decode cX5_hall 25 = .ok (.iconst 0, 1) := by decide +kernel
theorem dX5_hall_26 : decode cX5_hall 26 = .ok (.bipush 6, 2) := by decide +kernel
theorem dX5_hall_28 : decode cX5_hall 28 = .ok (.invokestatic 64, 3) := by decide +kernel
theorem dX5_hall_31 : decode cX5_hall 31 = .ok (.ifCond .ne 13, 3) := by decide +kernel
theorem dX5_hall_34 : decode cX5_hall 34 = .ok (.new 68, 3) := by decide +kernel
theorem dX5_hall_37 : decode cX5_hall 37 = .ok (.dup, 1) := by decide +kernel
theorem dX5_hall_38 : decode cX5_hall 38 = .ok (.ldc 161, 2) := by decide +kernel
theorem dX5_hall_40 : decode cX5_hall 40 = .ok (.invokespecial 72, 3) := by decide +kernel
theorem dX5_hall_43 : decode cX5_hall 43 = .ok (.athrow, 1) := by decide +kernel
theorem dX5_hall_44 : decode cX5_hall 44 = .ok (.iload_n 2, 1) := by decide +kernel
theorem dX5_hall_45 : decode cX5_hall 45 = .ok (.tableswitch 60 4 6 #[27, 38, 49], 27) := by decide +kernel
theorem dX5_hall_72 : decode cX5_hall 72 = .ok (.aload_n 0, 1) := by decide +kernel
theorem dX5_hall_73 : decode cX5_hall 73 = .ok (.getfield 10, 3) := by decide +kernel
theorem dX5_hall_76 : decode cX5_hall 76 = .ok (.iconst 0, 1) := by decide +kernel
theorem dX5_hall_77 : decode cX5_hall 77 = .ok (.iconst 0, 1) := by decide +kernel
theorem dX5_hall_78 : decode cX5_hall 78 = .ok (.iload_n 1, 1) := by decide +kernel
theorem dX5_hall_79 : decode cX5_hall 79 = .ok (.invokevirtual 163, 3) := by decide +kernel
theorem dX5_hall_82 : decode cX5_hall 82 = .ok (.ireturn, 1) := by decide +kernel
theorem dX5_hall_83 : decode cX5_hall 83 = .ok (.aload_n 0, 1) := by decide +kernel
theorem dX5_hall_84 : decode cX5_hall 84 = .ok (.getfield 10, 3) := by decide +kernel
theorem dX5_hall_87 : decode cX5_hall 87 = .ok (.iconst 1, 1) := by decide +kernel
theorem dX5_hall_88 : decode cX5_hall 88 = .ok (.iconst 0, 1) := by decide +kernel
theorem dX5_hall_89 : decode cX5_hall 89 = .ok (.iload_n 1, 1) := by decide +kernel
theorem dX5_hall_90 : decode cX5_hall 90 = .ok (.invokevirtual 163, 3) := by decide +kernel
theorem dX5_hall_93 : decode cX5_hall 93 = .ok (.ireturn, 1) := by decide +kernel
theorem dX5_hall_94 : decode cX5_hall 94 = .ok (.aload_n 0, 1) := by decide +kernel
theorem dX5_hall_95 : decode cX5_hall 95 = .ok (.getfield 10, 3) := by decide +kernel
theorem dX5_hall_98 : decode cX5_hall 98 = .ok (.iconst 2, 1) := by decide +kernel
theorem dX5_hall_99 : decode cX5_hall 99 = .ok (.iconst 0, 1) := by decide +kernel
theorem dX5_hall_100 : decode cX5_hall 100 = .ok (.iload_n 1, 1) := by decide +kernel
theorem dX5_hall_101 : decode cX5_hall 101 = .ok (.invokevirtual 163, 3) := by decide +kernel
theorem dX5_hall_104 : decode cX5_hall 104 = .ok (.ireturn, 1) := by decide +kernel
theorem dX5_hall_105 : decode cX5_hall 105 = .ok (.aload_n 0, 1) := by decide +kernel
theorem dX5_hall_106 : decode cX5_hall 106 = .ok (.getfield 10, 3) := by decide +kernel
theorem dX5_hall_109 : decode cX5_hall 109 = .ok (.getfield 75, 3) := by decide +kernel
theorem dX5_hall_112 : decode cX5_hall 112 = .ok (.iload_n 1, 1) := by decide +kernel
theorem dX5_hall_113 : decode cX5_hall 113 = .ok (.iload_n 2, 1) := by decide +kernel
theorem dX5_hall_114 : decode cX5_hall 114 = .ok (.invokevirtual 126, 3) := by decide +kernel
theorem dX5_hall_117 : decode cX5_hall 117 = .ok (.ireturn, 1) := by decide +kernel
set_option maxRecDepth 20000 in
theorem ggX5_film_X4_isRow : GoodIn wsX5_film wsX4_isRow := goodIn_r _ [11, 12, 87, 88, 89, 90] (by decide +kernel) (by decide +kernel)
set_option maxRecDepth 20000 in
theorem gX5_film_X4_isRow : GoodIn wsX5_film (wsV RX5 116 RX4 yX4_isRow wsX4_isRow) := goodIn_app (goodIn_of _ (by decide +kernel)) ggX5_film_X4_isRow
set_option maxRecDepth 20000 in
theorem ggX5_film_X5_isWithin : GoodIn wsX5_film wsX5_isWithin := goodIn_r _ [16] (by decide +kernel) (by decide +kernel)
set_option maxRecDepth 20000 in
theorem gX5_film_X5_isWithin : GoodIn wsX5_film (va_wsS RX5 64 yX5_isWithin wsX5_isWithin) := goodIn_app (goodIn_of _ (by decide +kernel)) ggX5_film_X5_isWithin
set_option maxRecDepth 20000 in
theorem ggX5_film_X3_total : GoodIn wsX5_film wsX3_total := goodIn_ca (goodIn_r _ [21, 22, 23, 24, 25, 10, 26, 12, 27, 28, 29, 30, 31, 32, 33, 34, 35, 20, 36, 37, 38, 39, 40, 41, 42, 43, 44, 45, 46, 47, 48, 49, 50, 51, 52, 53, 54, 55, 56, 57, 58, 59, 60, 61, 62, 63, 64, 65, 66, 79, 80, 81, 82, 83, 84, 85, 86, 87, 88, 89, 90] (by decide +kernel) (by decide +kernel)) (goodIn_sub (fun _ h => List.mem_cons_of_mem _ (List.mem_append_right _ h)) (by decide +kernel))
set_option maxRecDepth 20000 in
theorem gX5_film_X3_total : GoodIn wsX5_film (wsV RX5 163 RX3 yX3_total wsX3_total) := goodIn_app (goodIn_of _ (by decide +kernel)) ggX5_film_X3_total
set_option maxRecDepth 20000 in
theorem ggX5_film_X4_get : GoodIn wsX5_film wsX4_get := goodIn_ca (goodIn_r _ [30, 31, 32, 87, 88, 89, 90] (by decide +kernel) (by decide +kernel)) (goodIn_sub (fun _ h => List.mem_cons_of_mem _ (List.mem_append_right _ h)) (by decide +kernel))
set_option maxRecDepth 20000 in
theorem gX5_film_X4_get : GoodIn wsX5_film (wsV RX5 126 RX4 yX4_get wsX4_get) := goodIn_app (goodIn_of _ (by decide +kernel)) ggX5_film_X4_get
theorem dX5_film_0 : decode cX5_film 0 = .ok (.aload_n 0, 1) := by decide +kernel
theorem dX5_film_1 : decode cX5_film 1 = .ok (.getfield 10, 3) := by decide +kernel
theorem dX5_film_4 : decode cX5_film 4 = .ok (.getfield 111, 3) := by decide +kernel
theorem dX5_film_7 : decode cX5_film 7 = .ok (.iload_n 1, 1) := by decide +kernel
theorem dX5_film_8 : decode cX5_film 8 = .ok (.invokevirtual 116, 3) := by decide +kernel
theorem dX5_film_11 : decode cX5_film 11 = .ok (.ifCond .ne 13, 3) := by decide +kernel
theorem dX5_film_14 : decode cX5_film 14 = .ok (.new 119, 3) := by decide +kernel
theorem dX5_film_17 : decode cX5_film 17 = .ok (.dup, 1) := by decide +kernel
theorem dX5_film_18 : decode cX5_film 18 = .ok (.ldc 121, 2) := by decide +kernel
theorem dX5_film_20 : decode cX5_film 20 = .ok (.invokespecial 123, 3) := by decide +kernel
theorem dX5_film_23 : decode cX5_film 23 = .ok (.athrow, 1) := by decide +kernel
theorem dX5_film_24 : decode cX5_film 24 = .ok (.iload_n 2, 1) := by decide +kernel
theorem dX5_film_25 : decode cX5_film 25 = .ok (.iconst 0, 1) := by decide +kernel
theorem dX5_film_26 : decode cX5_film 26 = .ok (.bipush 11, 2) := by decide +kernel
theorem dX5_film_28 : decode cX5_film 28 = .ok (.invokestatic 64, 3) := by decide +kernel
theorem dX5_film_31 : decode cX5_film 31 = .ok (.ifCond .ne 13, 3) := by decide +kernel
theorem dX5_film_34 : decode cX5_film 34 = .ok (.new 68, 3) := by decide +kernel
theorem dX5_film_37 : decode cX5_film 37 = .ok (.dup, 1) := by decide +kernel
theorem dX5_film_38 : decode cX5_film 38 = .ok (.ldc 167, 2) := by decide +kernel
theorem dX5_film_40 : decode cX5_film 40 = .ok (.invokespecial 72, 3) := by decide +kernel
theorem dX5_film_43 : decode cX5_film 43 = .ok (.athrow, 1) := by decide +kernel
theorem dX5_film_44 : decode cX5_film 44 = .ok (.iload_n 2, 1) := by decide +kernel
theorem dX5_film_45 : decode cX5_film 45 = .ok (.tableswitch 75 5 8 #[31, 42, 53, 64], 31) := by decide +kernel
theorem dX5_film_76 : decode cX5_film 76 = .ok (.aload_n 0, 1) := by decide +kernel
theorem dX5_film_77 : decode cX5_film 77 = .ok (.getfield 10, 3) := by decide +kernel
theorem dX5_film_80 : decode cX5_film 80 = .ok (.iconst 0, 1) := by decide +kernel
theorem dX5_film_81 : decode cX5_film 81 = .ok (.iconst 1, 1) := by decide +kernel
theorem dX5_film_82 : decode cX5_film 82 = .ok (.iload_n 1, 1) := by decide +kernel
theorem dX5_film_83 : decode cX5_film 83 = .ok (.invokevirtual 163, 3) := by decide +kernel
theorem dX5_film_86 : decode cX5_film 86 = .ok (.ireturn, 1) := by decide +kernel
theorem dX5_film_87 : decode cX5_film 87 = .ok (.aload_n 0, 1) := by decide +kernel
theorem dX5_film_88 : decode cX5_film 88 = .ok (.getfield 10, 3) := by decide +kernel
theorem dX5_film_91 : decode cX5_film 91 = .ok (.iconst 2, 1) := by decide +kernel
theorem dX5_film_92 : decode cX5_film 92 = .ok (.iconst 1, 1) := by decide +kernel
theorem dX5_film_93 : decode cX5_film 93 = .ok (.iload_n 1, 1) := by decide +kernel
theorem dX5_film_94 : decode cX5_film 94 = .ok (.invokevirtual 163, 3) := by decide +kernel
theorem dX5_film_97 : decode cX5_film 97 = .ok (.ireturn, 1) := by decide +kernel
theorem dX5_film_98 : decode cX5_film 98 = .ok (.aload_n 0, 1) := by decide +kernel
theorem dX5_film_99 : decode cX5_film 99 = .ok (.getfield 10, 3) := by decide +kernel
theorem dX5_film_102 : decode cX5_film 102 = .ok (.iconst 3, 1) := by decide +kernel
theorem dX5_film_103 : decode cX5_film 103 = .ok (.iconst 1, 1) := by decide +kernel
theorem dX5_film_104 : decode cX5_film 104 = .ok (.iload_n 1, 1) := by decide +kernel
theorem dX5_film_105 : decode cX5_film 105 = .ok (.invokevirtual 163, 3) := by decide +kernel
theorem dX5_film_108 : decode cX5_film 108 = .ok (.ireturn, 1) := by decide +kernel
theorem dX5_film_109 : decode cX5_film 109 = .ok (.aload_n 0, 1) := by decide +kernel
theorem dX5_film_110 : decode cX5_film 110 = .ok (.getfield 10, 3) := by decide +kernel
theorem dX5_film_113 : decode cX5_film 113 = .ok (.iconst 4, 1) := by decide +kernel
theorem dX5_film_114 : decode cX5_film 114 = .ok (.iconst 1, 1) := by decide +kernel
theorem dX5_film_115 : decode cX5_film 115 = .ok (.iload_n 1, 1) := by decide +kernel
theorem dX5_film_116 : decode cX5_film 116 = .ok (.invokevirtual 163, 3) := by decide +kernel
theorem dX5_film_119 : decode cX5_film 119 = .ok (.ireturn, 1) := by decide +kernel
theorem dX5_film_120 : decode cX5_film 120 = .ok (.aload_n 0, 1) := by decide +kernel
theorem dX5_film_121 : decode cX5_film 121 = .ok (.getfield 10, 3) := by decide +kernel
theorem dX5_film_124 : decode cX5_film 124 = .ok (.getfield 111, 3) := by decide +kernel
theorem dX5_film_127 : decode cX5_film 127 = .ok (.iload_n 1, 1) := by decide +kernel
theorem dX5_film_128 : decode cX5_film 128 = .ok (.iload_n 2, 1) := by decide +kernel
theorem dX5_film_129 : decode cX5_film 129 = .ok (.invokevirtual 126, 3) := by decide +kernel
theorem dX5_film_132 : decode cX5_film 132 = .ok (.ireturn, 1) := by decide +kernel
set_option maxRecDepth 20000 in
theorem ggX5_share_X4_isRow : GoodIn wsX5_share wsX4_isRow := goodIn_r _ [13, 14, 58, 59, 60, 61] (by decide +kernel) (by decide +kernel)
set_option maxRecDepth 20000 in
theorem gX5_share_X4_isRow : GoodIn wsX5_share (wsV RX5 116 RX4 yX4_isRow wsX4_isRow) := goodIn_app (goodIn_of _ (by decide +kernel)) ggX5_share_X4_isRow
set_option maxRecDepth 20000 in
theorem ggX5_share_X5_isDay : GoodIn wsX5_share wsX5_isDay := goodIn_r _ [18, 19, 20, 17, 21] (by decide +kernel) (by decide +kernel)
set_option maxRecDepth 20000 in
theorem gX5_share_X5_isDay : GoodIn wsX5_share (va_wsS RX5 108 yX5_isDay wsX5_isDay) := goodIn_app (goodIn_of _ (by decide +kernel)) ggX5_share_X5_isDay
set_option maxRecDepth 20000 in
theorem ggX5_share_X4_get : GoodIn wsX5_share wsX4_get := goodIn_ca (goodIn_r _ [25, 26, 27, 58, 59, 60, 61] (by decide +kernel) (by decide +kernel)) (goodIn_sub (fun _ h => List.mem_cons_of_mem _ (List.mem_append_right _ h)) (by decide +kernel))
set_option maxRecDepth 20000 in
theorem gX5_share_X4_get : GoodIn wsX5_share (wsV RX5 126 RX4 yX4_get wsX4_get) := goodIn_app (goodIn_of _ (by decide +kernel)) ggX5_share_X4_get
set_option maxRecDepth 20000 in
theorem ggX5_share_X3_shareOn : GoodIn wsX5_share wsX3_shareOn := goodIn_ca (goodIn_r _ [32, 33, 34, 35, 36, 37, 38, 23, 24, 12, 25, 26, 27, 50, 51, 52, 53, 54, 55, 56, 57, 58, 59, 60, 61] (by decide +kernel) (by decide +kernel)) (goodIn_sub (fun _ h => List.mem_cons_of_mem _ (List.mem_append_right _ h)) (by decide +kernel))
set_option maxRecDepth 20000 in
theorem gX5_share_X3_shareOn : GoodIn wsX5_share (wsV RX5 176 RX3 yX3_shareOn wsX3_shareOn) := goodIn_app (goodIn_of _ (by decide +kernel)) ggX5_share_X3_shareOn
theorem dX5_share_0 : decode cX5_share 0 = .ok (.aload_n 0, 1) := by decide +kernel
theorem dX5_share_1 : decode cX5_share 1 = .ok (.getfield 10, 3) := by decide +kernel
theorem dX5_share_4 : decode cX5_share 4 = .ok (.getfield 111, 3) := by decide +kernel
theorem dX5_share_7 : decode cX5_share 7 = .ok (.iload_n 1, 1) := by decide +kernel
theorem dX5_share_8 : decode cX5_share 8 = .ok (.invokevirtual 116, 3) := by decide +kernel
theorem dX5_share_11 : decode cX5_share 11 = .ok (.ifCond .ne 13, 3) := by decide +kernel
theorem dX5_share_14 : decode cX5_share 14 = .ok (.new 119, 3) := by decide +kernel
theorem dX5_share_17 : decode cX5_share 17 = .ok (.dup, 1) := by decide +kernel
theorem dX5_share_18 : decode cX5_share 18 = .ok (.ldc 121, 2) := by decide +kernel
theorem dX5_share_20 : decode cX5_share 20 = .ok (.invokespecial 123, 3) := by decide +kernel
theorem dX5_share_23 : decode cX5_share 23 = .ok (.athrow, 1) := by decide +kernel
theorem dX5_share_24 : decode cX5_share 24 = .ok (.iload_n 2, 1) := by decide +kernel
theorem dX5_share_25 : decode cX5_share 25 = .ok (.invokestatic 108, 3) := by decide +kernel
theorem dX5_share_28 : decode cX5_share 28 = .ok (.ifCond .ne 13, 3) := by decide +kernel
theorem dX5_share_31 : decode cX5_share 31 = .ok (.new 68, 3) := by decide +kernel
theorem dX5_share_34 : decode cX5_share 34 = .ok (.dup, 1) := by decide +kernel
theorem dX5_share_35 : decode cX5_share 35 = .ok (.ldc 169, 2) := by decide +kernel
theorem dX5_share_37 : decode cX5_share 37 = .ok (.invokespecial 72, 3) := by decide +kernel
theorem dX5_share_40 : decode cX5_share 40 = .ok (.athrow, 1) := by decide +kernel
theorem dX5_share_41 : decode cX5_share 41 = .ok (.iload_n 2, 1) := by decide +kernel
theorem dX5_share_42 : decode cX5_share 42 = .ok (.aload_n 0, 1) := by decide +kernel
theorem dX5_share_43 : decode cX5_share 43 = .ok (.getfield 10, 3) := by decide +kernel
theorem dX5_share_46 : decode cX5_share 46 = .ok (.getfield 111, 3) := by decide +kernel
theorem dX5_share_49 : decode cX5_share 49 = .ok (.iload_n 1, 1) := by decide +kernel
theorem dX5_share_50 : decode cX5_share 50 = .ok (.iconst 4, 1) := by decide +kernel
theorem dX5_share_51 : decode cX5_share 51 = .ok (.invokevirtual 126, 3) := by decide +kernel
theorem dX5_share_54 : decode cX5_share 54 = .ok (.if_icmp .ge 13, 3) := by decide +kernel
theorem dX5_share_57 : decode cX5_share 57 = .ok (.new 171, 3) := by decide +kernel
theorem dX5_share_60 : decode cX5_share 60 = .ok (.dup, 1) := by decide +kernel
theorem dX5_share_61 : decode cX5_share 61 = .ok (.ldc 173, 2) := by decide +kernel
theorem dX5_share_63 : decode cX5_share 63 = .ok (.invokespecial 175, 3) := by decide +kernel
theorem dX5_share_66 : decode cX5_share 66 = .ok (.athrow, 1) := by decide +kernel
theorem dX5_share_67 : decode cX5_share 67 = .ok (.aload_n 0, 1) := by decide +kernel
theorem dX5_share_68 : decode cX5_share 68 = .ok (.getfield 10, 3) := by decide +kernel
theorem dX5_share_71 : decode cX5_share 71 = .ok (.iload_n 1, 1) := by decide +kernel
theorem dX5_share_72 : decode cX5_share 72 = .ok (.iload_n 2, 1) := by decide +kernel
theorem dX5_share_73 : decode cX5_share 73 = .ok (.invokevirtual 176, 3) := by decide +kernel
theorem dX5_share_76 : decode cX5_share 76 = .ok (.ireturn, 1) := by decide +kernel
set_option maxRecDepth 20000 in
theorem ggX5_trailer_X4_isRow : GoodIn wsX5_trailer wsX4_isRow := goodIn_r _ [11, 12, 42, 43, 44, 45] (by decide +kernel) (by decide +kernel)
set_option maxRecDepth 20000 in
theorem gX5_trailer_X4_isRow : GoodIn wsX5_trailer (wsV RX5 116 RX4 yX4_isRow wsX4_isRow) := goodIn_app (goodIn_of _ (by decide +kernel)) ggX5_trailer_X4_isRow
set_option maxRecDepth 20000 in
theorem ggX5_trailer_X5_isWithin : GoodIn wsX5_trailer wsX5_isWithin := goodIn_r _ [16] (by decide +kernel) (by decide +kernel)
set_option maxRecDepth 20000 in
theorem gX5_trailer_X5_isWithin : GoodIn wsX5_trailer (va_wsS RX5 64 yX5_isWithin wsX5_isWithin) := goodIn_app (goodIn_of _ (by decide +kernel)) ggX5_trailer_X5_isWithin
set_option maxRecDepth 20000 in
theorem ggX5_trailer_X4_get : GoodIn wsX5_trailer wsX4_get := goodIn_ca (goodIn_r _ [20, 21, 22, 42, 43, 44, 45] (by decide +kernel) (by decide +kernel)) (goodIn_sub (fun _ h => List.mem_cons_of_mem _ (List.mem_append_right _ h)) (by decide +kernel))
set_option maxRecDepth 20000 in
theorem gX5_trailer_X4_get : GoodIn wsX5_trailer (wsV RX5 126 RX4 yX4_get wsX4_get) := goodIn_app (goodIn_of _ (by decide +kernel)) ggX5_trailer_X4_get
theorem dX5_trailer_0 : decode cX5_trailer 0 = .ok (.aload_n 0, 1) := by decide +kernel
theorem dX5_trailer_1 : decode cX5_trailer 1 = .ok (.getfield 10, 3) := by decide +kernel
theorem dX5_trailer_4 : decode cX5_trailer 4 = .ok (.getfield 130, 3) := by decide +kernel
theorem dX5_trailer_7 : decode cX5_trailer 7 = .ok (.iload_n 1, 1) := by decide +kernel
theorem dX5_trailer_8 : decode cX5_trailer 8 = .ok (.invokevirtual 116, 3) := by decide +kernel
theorem dX5_trailer_11 : decode cX5_trailer 11 = .ok (.ifCond .ne 13, 3) := by decide +kernel
theorem dX5_trailer_14 : decode cX5_trailer 14 = .ok (.new 119, 3) := by decide +kernel
theorem dX5_trailer_17 : decode cX5_trailer 17 = .ok (.dup, 1) := by decide +kernel
theorem dX5_trailer_18 : decode cX5_trailer 18 = .ok (.ldc 179, 2) := by decide +kernel
theorem dX5_trailer_20 : decode cX5_trailer 20 = .ok (.invokespecial 123, 3) := by decide +kernel
theorem dX5_trailer_23 : decode cX5_trailer 23 = .ok (.athrow, 1) := by decide +kernel
theorem dX5_trailer_24 : decode cX5_trailer 24 = .ok (.iload_n 2, 1) := by decide +kernel
theorem dX5_trailer_25 : decode cX5_trailer 25 = .ok (.iconst 0, 1) := by decide +kernel
theorem dX5_trailer_26 : decode cX5_trailer 26 = .ok (.iconst 3, 1) := by decide +kernel
theorem dX5_trailer_27 : decode cX5_trailer 27 = .ok (.invokestatic 64, 3) := by decide +kernel
theorem dX5_trailer_30 : decode cX5_trailer 30 = .ok (.ifCond .ne 13, 3) := by decide +kernel
theorem dX5_trailer_33 : decode cX5_trailer 33 = .ok (.new 68, 3) := by decide +kernel
theorem dX5_trailer_36 : decode cX5_trailer 36 = .ok (.dup, 1) := by decide +kernel
theorem dX5_trailer_37 : decode cX5_trailer 37 = .ok (.ldc 181, 2) := by decide +kernel
theorem dX5_trailer_39 : decode cX5_trailer 39 = .ok (.invokespecial 72, 3) := by decide +kernel
theorem dX5_trailer_42 : decode cX5_trailer 42 = .ok (.athrow, 1) := by decide +kernel
theorem dX5_trailer_43 : decode cX5_trailer 43 = .ok (.aload_n 0, 1) := by decide +kernel
theorem dX5_trailer_44 : decode cX5_trailer 44 = .ok (.getfield 10, 3) := by decide +kernel
theorem dX5_trailer_47 : decode cX5_trailer 47 = .ok (.getfield 130, 3) := by decide +kernel
theorem dX5_trailer_50 : decode cX5_trailer 50 = .ok (.iload_n 1, 1) := by decide +kernel
theorem dX5_trailer_51 : decode cX5_trailer 51 = .ok (.iload_n 2, 1) := by decide +kernel
theorem dX5_trailer_52 : decode cX5_trailer 52 = .ok (.invokevirtual 126, 3) := by decide +kernel
theorem dX5_trailer_55 : decode cX5_trailer 55 = .ok (.ireturn, 1) := by decide +kernel
set_option maxRecDepth 20000 in
theorem ggX5_fits_X4_isRow : GoodIn wsX5_fits wsX4_isRow := goodIn_r _ [12, 13, 53, 54, 55, 56] (by decide +kernel) (by decide +kernel)
set_option maxRecDepth 20000 in
theorem gX5_fits_X4_isRow : GoodIn wsX5_fits (wsV RX5 116 RX4 yX4_isRow wsX4_isRow) := goodIn_app (goodIn_of _ (by decide +kernel)) ggX5_fits_X4_isRow
set_option maxRecDepth 20000 in
theorem ggX5_fits_X5_isDay : GoodIn wsX5_fits wsX5_isDay := goodIn_r _ [17, 18, 19, 16, 20] (by decide +kernel) (by decide +kernel)
set_option maxRecDepth 20000 in
theorem gX5_fits_X5_isDay : GoodIn wsX5_fits (va_wsS RX5 108 yX5_isDay wsX5_isDay) := goodIn_app (goodIn_of _ (by decide +kernel)) ggX5_fits_X5_isDay
set_option maxRecDepth 20000 in
theorem ggX5_fits_X3_isFitting : GoodIn wsX5_fits wsX3_isFitting := goodIn_ca (goodIn_r _ [25, 26, 27, 28, 29, 30, 11, 31, 32, 33, 45, 46, 47, 48, 49, 50, 51, 52, 53, 54, 55, 56] (by decide +kernel) (by decide +kernel)) (goodIn_sub (fun _ h => List.mem_cons_of_mem _ (List.mem_append_right _ h)) (by decide +kernel))
set_option maxRecDepth 20000 in
theorem gX5_fits_X3_isFitting : GoodIn wsX5_fits (wsV RX5 185 RX3 yX3_isFitting wsX3_isFitting) := goodIn_app (goodIn_of _ (by decide +kernel)) ggX5_fits_X3_isFitting
theorem dX5_fits_0 : decode cX5_fits 0 = .ok (.aload_n 0, 1) := by decide +kernel
theorem dX5_fits_1 : decode cX5_fits 1 = .ok (.getfield 10, 3) := by decide +kernel
theorem dX5_fits_4 : decode cX5_fits 4 = .ok (.getfield 130, 3) := by decide +kernel
theorem dX5_fits_7 : decode cX5_fits 7 = .ok (.iload_n 1, 1) := by decide +kernel
theorem dX5_fits_8 : decode cX5_fits 8 = .ok (.invokevirtual 116, 3) := by decide +kernel
theorem dX5_fits_11 : decode cX5_fits 11 = .ok (.ifCond .eq 17, 3) := by decide +kernel
theorem dX5_fits_14 : decode cX5_fits 14 = .ok (.aload_n 0, 1) := by decide +kernel
theorem dX5_fits_15 : decode cX5_fits 15 = .ok (.getfield 10, 3) := by decide +kernel
theorem dX5_fits_18 : decode cX5_fits 18 = .ok (.getfield 111, 3) := by decide +kernel
theorem dX5_fits_21 : decode cX5_fits 21 = .ok (.iload_n 2, 1) := by decide +kernel
theorem dX5_fits_22 : decode cX5_fits 22 = .ok (.invokevirtual 116, 3) := by decide +kernel
theorem dX5_fits_25 : decode cX5_fits 25 = .ok (.ifCond .ne 13, 3) := by decide +kernel
theorem dX5_fits_28 : decode cX5_fits 28 = .ok (.new 119, 3) := by decide +kernel
theorem dX5_fits_31 : decode cX5_fits 31 = .ok (.dup, 1) := by decide +kernel
theorem dX5_fits_32 : decode cX5_fits 32 = .ok (.ldc 183, 2) := by decide +kernel
theorem dX5_fits_34 : decode cX5_fits 34 = .ok (.invokespecial 123, 3) := by decide +kernel
theorem dX5_fits_37 : decode cX5_fits 37 = .ok (.athrow, 1) := by decide +kernel
theorem dX5_fits_38 : decode cX5_fits 38 = .ok (.iload_n 3, 1) := by decide +kernel
theorem dX5_fits_39 : decode cX5_fits 39 = .ok (.invokestatic 108, 3) := by decide +kernel
theorem dX5_fits_42 : decode cX5_fits 42 = .ok (.ifCond .ne 13, 3) := by decide +kernel
theorem dX5_fits_45 : decode cX5_fits 45 = .ok (.new 68, 3) := by decide +kernel
theorem dX5_fits_48 : decode cX5_fits 48 = .ok (.dup, 1) := by decide +kernel
theorem dX5_fits_49 : decode cX5_fits 49 = .ok (.ldc 169, 2) := by decide +kernel
theorem dX5_fits_51 : decode cX5_fits 51 = .ok (.invokespecial 72, 3) := by decide +kernel
theorem dX5_fits_54 : decode cX5_fits 54 = .ok (.athrow, 1) := by decide +kernel
theorem dX5_fits_55 : decode cX5_fits 55 = .ok (.aload_n 0, 1) := by decide +kernel
theorem dX5_fits_56 : decode cX5_fits 56 = .ok (.getfield 10, 3) := by decide +kernel
theorem dX5_fits_59 : decode cX5_fits 59 = .ok (.iload_n 1, 1) := by decide +kernel
theorem dX5_fits_60 : decode cX5_fits 60 = .ok (.iload_n 2, 1) := by decide +kernel
theorem dX5_fits_61 : decode cX5_fits 61 = .ok (.iload_n 3, 1) := by decide +kernel
theorem dX5_fits_62 : decode cX5_fits 62 = .ok (.invokevirtual 185, 3) := by decide +kernel
theorem dX5_fits_65 : decode cX5_fits 65 = .ok (.ireturn, 1) := by decide +kernel
set_option maxRecDepth 20000 in
theorem ggX5_reel_X4_isRow : GoodIn wsX5_reel wsX4_isRow := goodIn_r _ [11, 12, 76, 77, 78, 79] (by decide +kernel) (by decide +kernel)
set_option maxRecDepth 20000 in
theorem gX5_reel_X4_isRow : GoodIn wsX5_reel (wsV RX5 116 RX4 yX4_isRow wsX4_isRow) := goodIn_app (goodIn_of _ (by decide +kernel)) ggX5_reel_X4_isRow
set_option maxRecDepth 20000 in
theorem ggX5_reel_X5_isDay : GoodIn wsX5_reel wsX5_isDay := goodIn_r _ [16, 17, 18, 15, 19] (by decide +kernel) (by decide +kernel)
set_option maxRecDepth 20000 in
theorem gX5_reel_X5_isDay : GoodIn wsX5_reel (va_wsS RX5 108 yX5_isDay wsX5_isDay) := goodIn_app (goodIn_of _ (by decide +kernel)) ggX5_reel_X5_isDay
set_option maxRecDepth 20000 in
theorem ggX5_reel_X3_bestReel : GoodIn wsX5_reel wsX3_bestReel := goodIn_ca (goodIn_r _ [24, 25, 26, 27, 28, 29, 10, 30, 31, 32, 33, 34, 35, 36, 12, 37, 38, 39, 23, 40, 41, 42, 43, 44, 45, 46, 47, 48, 49, 50, 51, 52, 53, 54, 55, 68, 69, 70, 71, 72, 73, 74, 75, 76, 77, 78, 79] (by decide +kernel) (by decide +kernel)) (goodIn_sub (fun _ h => List.mem_cons_of_mem _ (List.mem_append_right _ h)) (by decide +kernel))
set_option maxRecDepth 20000 in
theorem gX5_reel_X3_bestReel : GoodIn wsX5_reel (wsV RX5 188 RX3 yX3_bestReel wsX3_bestReel) := goodIn_app (goodIn_of _ (by decide +kernel)) ggX5_reel_X3_bestReel
set_option maxRecDepth 20000 in
theorem ggX5_reel_X3_reelMinutes : GoodIn wsX5_reel wsX3_reelMinutes := goodIn_ca (goodIn_r _ [52, 26, 33, 34, 35, 10, 36, 12, 27, 28, 29, 30, 31, 32, 68, 69, 70, 71, 72, 73, 74, 75, 76, 77, 78, 79] (by decide +kernel) (by decide +kernel)) (goodIn_sub (fun _ h => List.mem_cons_of_mem _ (List.mem_append_right _ h)) (by decide +kernel))
set_option maxRecDepth 20000 in
theorem gX5_reel_X3_reelMinutes : GoodIn wsX5_reel (wsV RX5 191 RX3 yX3_reelMinutes wsX3_reelMinutes) := goodIn_app (goodIn_of _ (by decide +kernel)) ggX5_reel_X3_reelMinutes
theorem dX5_reel_0 : decode cX5_reel 0 = .ok (.aload_n 0, 1) := by decide +kernel
theorem dX5_reel_1 : decode cX5_reel 1 = .ok (.getfield 10, 3) := by decide +kernel
theorem dX5_reel_4 : decode cX5_reel 4 = .ok (.getfield 111, 3) := by decide +kernel
theorem dX5_reel_7 : decode cX5_reel 7 = .ok (.iload_n 1, 1) := by decide +kernel
theorem dX5_reel_8 : decode cX5_reel 8 = .ok (.invokevirtual 116, 3) := by decide +kernel
theorem dX5_reel_11 : decode cX5_reel 11 = .ok (.ifCond .ne 13, 3) := by decide +kernel
theorem dX5_reel_14 : decode cX5_reel 14 = .ok (.new 119, 3) := by decide +kernel
theorem dX5_reel_17 : decode cX5_reel 17 = .ok (.dup, 1) := by decide +kernel
theorem dX5_reel_18 : decode cX5_reel 18 = .ok (.ldc 121, 2) := by decide +kernel
theorem dX5_reel_20 : decode cX5_reel 20 = .ok (.invokespecial 123, 3) := by decide +kernel
theorem dX5_reel_23 : decode cX5_reel 23 = .ok (.athrow, 1) := by decide +kernel
theorem dX5_reel_24 : decode cX5_reel 24 = .ok (.iload_n 2, 1) := by decide +kernel
theorem dX5_reel_25 : decode cX5_reel 25 = .ok (.invokestatic 108, 3) := by decide +kernel
theorem dX5_reel_28 : decode cX5_reel 28 = .ok (.ifCond .ne 13, 3) := by decide +kernel
theorem dX5_reel_31 : decode cX5_reel 31 = .ok (.new 68, 3) := by decide +kernel
theorem dX5_reel_34 : decode cX5_reel 34 = .ok (.dup, 1) := by decide +kernel
theorem dX5_reel_35 : decode cX5_reel 35 = .ok (.ldc 169, 2) := by decide +kernel
theorem dX5_reel_37 : decode cX5_reel 37 = .ok (.invokespecial 72, 3) := by decide +kernel
theorem dX5_reel_40 : decode cX5_reel 40 = .ok (.athrow, 1) := by decide +kernel
theorem dX5_reel_41 : decode cX5_reel 41 = .ok (.aload_n 0, 1) := by decide +kernel
theorem dX5_reel_42 : decode cX5_reel 42 = .ok (.getfield 10, 3) := by decide +kernel
theorem dX5_reel_45 : decode cX5_reel 45 = .ok (.iload_n 1, 1) := by decide +kernel
theorem dX5_reel_46 : decode cX5_reel 46 = .ok (.iload_n 2, 1) := by decide +kernel
theorem dX5_reel_47 : decode cX5_reel 47 = .ok (.invokevirtual 188, 3) := by decide +kernel
theorem dX5_reel_50 : decode cX5_reel 50 = .ok (.istore 4, 2) := by decide +kernel
theorem dX5_reel_52 : decode cX5_reel 52 = .ok (.iload_n 3, 1) := by decide +kernel
theorem dX5_reel_53 : decode cX5_reel 53 = .ok (.ifCond .eq 15, 3) := by decide +kernel
theorem dX5_reel_56 : decode cX5_reel 56 = .ok (.aload_n 0, 1) := by decide +kernel
theorem dX5_reel_57 : decode cX5_reel 57 = .ok (.getfield 10, 3) := by decide +kernel
theorem dX5_reel_60 : decode cX5_reel 60 = .ok (.iload 4, 2) := by decide +kernel
theorem dX5_reel_62 : decode cX5_reel 62 = .ok (.invokevirtual 191, 3) := by decide +kernel
theorem dX5_reel_65 : decode cX5_reel 65 = .ok (.goto 5, 3) := by decide +kernel
theorem dX5_reel_68 : decode cX5_reel 68 = .ok (.iload 4, 2) := by decide +kernel
theorem dX5_reel_70 : decode cX5_reel 70 = .ok (.ireturn, 1) := by decide +kernel
set_option maxRecDepth 20000 in
theorem ggX5_plan_X5_faultOfPlan : GoodIn wsX5_plan wsX5_faultOfPlan := goodIn_ca (goodIn_r _ [13, 8, 14, 15, 16, 17, 18, 19, 20, 21, 22, 23, 24, 25, 26, 12, 27, 28, 29, 30, 31, 32, 33, 34, 35, 36, 37, 38, 39, 40, 41, 42, 43, 44, 45, 46, 47, 48, 49, 50, 51, 52, 53, 54, 55, 56, 57, 58, 59, 60, 61, 62, 63, 64, 65, 66, 67, 68, 69, 70, 71, 72, 73, 74, 75, 76, 77, 78, 79, 80, 81, 82, 83, 84, 85, 86, 87, 88, 89, 90, 91, 92, 93, 94, 95, 96, 97, 98, 99, 100, 101, 102, 103, 104, 105, 106, 107, 108, 109, 110, 111, 112, 113, 114, 115, 116, 117, 118, 119, 120, 121, 122, 123, 124, 125, 126, 127, 128, 129, 130, 131, 132, 133, 134, 135, 136, 137, 138, 139, 140, 141, 142, 143, 144, 145, 146, 147, 148, 149, 150, 192, 193, 194, 195, 196, 197, 198, 199, 200, 201, 202, 203, 204, 205, 206, 207, 208, 209, 210, 211, 212, 213, 214, 215, 216, 217, 218] (by decide +kernel) (by decide +kernel)) (goodIn_sub (fun _ h => List.mem_cons_of_mem _ (List.mem_append_right _ h)) (by decide +kernel))
set_option maxRecDepth 20000 in
theorem gX5_plan_X5_faultOfPlan : GoodIn wsX5_plan (wsV RX5 194 RX5 yX5_faultOfPlan wsX5_faultOfPlan) := goodIn_app (goodIn_of _ (by decide +kernel)) ggX5_plan_X5_faultOfPlan
set_option maxRecDepth 20000 in
theorem ggX5_plan_X0_keep : GoodIn wsX5_plan wsX0_keep := goodIn_r _ [155, 156, 157, 158, 154, 159, 160, 161, 162, 163, 164, 46, 165, 127, 87, 92, 67, 166, 48, 167, 168, 169, 170, 171, 22, 172, 24, 54, 173, 174, 142, 175, 176, 177, 178, 179, 180, 181, 182, 183, 184, 185, 219, 220, 221, 203, 204, 205, 206, 207, 208, 209, 210, 215, 216, 217, 218] (by decide +kernel) (by decide +kernel)
set_option maxRecDepth 20000 in
theorem gX5_plan_X0_keep : GoodIn wsX5_plan (wsV RX5 90 RX0 yX0_keep wsX0_keep) := goodIn_app (goodIn_of _ (by decide +kernel)) ggX5_plan_X0_keep
set_option maxRecDepth 20000 in
theorem ggX5_plan_X3_addShow : GoodIn wsX5_plan wsX3_addShow := goodIn_ca (goodIn_r _ [189, 67, 87, 48, 88, 89, 90, 46, 91, 92, 49, 50, 51, 22, 52, 53, 54, 93, 60, 61, 62, 24, 94, 95, 96, 97, 98, 99, 100, 101, 102, 103, 104, 105, 106, 107, 108, 109, 110, 111, 190, 75, 76, 77, 78, 191, 80, 81, 82, 203, 204, 205, 206, 207, 208, 209, 210, 215, 216, 217, 218] (by decide +kernel) (by decide +kernel)) (goodIn_sub (fun _ h => List.mem_cons_of_mem _ (List.mem_append_right _ h)) (by decide +kernel))
set_option maxRecDepth 20000 in
theorem gX5_plan_X3_addShow : GoodIn wsX5_plan (wsV RX5 207 RX3 yX3_addShow wsX3_addShow) := goodIn_app (goodIn_of _ (by decide +kernel)) ggX5_plan_X3_addShow
theorem dX5_plan_0 : decode cX5_plan 0 = .ok (.aload_n 0, 1) := by decide +kernel
theorem dX5_plan_1 : decode cX5_plan 1 = .ok (.iload_n 1, 1) := by decide +kernel
theorem dX5_plan_2 : decode cX5_plan 2 = .ok (.iload_n 2, 1) := by decide +kernel
theorem dX5_plan_3 : decode cX5_plan 3 = .ok (.iload_n 3, 1) := by decide +kernel
theorem dX5_plan_4 : decode cX5_plan 4 = .ok (.iload 4, 2) := by decide +kernel
theorem dX5_plan_6 : decode cX5_plan 6 = .ok (.invokevirtual 194, 3) := by decide +kernel
theorem dX5_plan_9 : decode cX5_plan 9 = .ok (.istore 5, 2) := by decide +kernel
theorem dX5_plan_11 : decode cX5_plan 11 = .ok (.iload 5, 2) := by decide +kernel
theorem dX5_plan_13 : decode cX5_plan 13 = .ok (.iconst 1, 1) := by decide +kernel
theorem dX5_plan_14 : decode cX5_plan 14 = .ok (.if_icmp .ne 13, 3) := by decide +kernel
theorem dX5_plan_17 : decode cX5_plan 17 = .ok (.new 119, 3) := by decide +kernel
theorem dX5_plan_20 : decode cX5_plan 20 = .ok (.dup, 1) := by decide +kernel
theorem dX5_plan_21 : decode cX5_plan 21 = .ok (.ldc 198, 2) := by decide +kernel
theorem dX5_plan_23 : decode cX5_plan 23 = .ok (.invokespecial 123, 3) := by decide +kernel
theorem dX5_plan_26 : decode cX5_plan 26 = .ok (.athrow, 1) := by decide +kernel
theorem dX5_plan_27 : decode cX5_plan 27 = .ok (.iload 5, 2) := by decide +kernel
theorem dX5_plan_29 : decode cX5_plan 29 = .ok (.iconst 2, 1) := by decide +kernel
theorem dX5_plan_30 : decode cX5_plan 30 = .ok (.if_icmp .ne 13, 3) := by decide +kernel
theorem dX5_plan_33 : decode cX5_plan 33 = .ok (.new 68, 3) := by decide +kernel
theorem dX5_plan_36 : decode cX5_plan 36 = .ok (.dup, 1) := by decide +kernel
theorem dX5_plan_37 : decode cX5_plan 37 = .ok (.ldc 200, 2) := by decide +kernel
theorem dX5_plan_39 : decode cX5_plan 39 = .ok (.invokespecial 72, 3) := by decide +kernel
theorem dX5_plan_42 : decode cX5_plan 42 = .ok (.athrow, 1) := by decide +kernel
theorem dX5_plan_43 : decode cX5_plan 43 = .ok (.iload 5, 2) := by decide +kernel
theorem dX5_plan_45 : decode cX5_plan 45 = .ok (.iconst 4, 1) := by decide +kernel
theorem dX5_plan_46 : decode cX5_plan 46 = .ok (.if_icmp .ne 13, 3) := by decide +kernel
theorem dX5_plan_49 : decode cX5_plan 49 = .ok (.new 202, 3) := by decide +kernel
theorem dX5_plan_52 : decode cX5_plan 52 = .ok (.dup, 1) := by decide +kernel
theorem dX5_plan_53 : decode cX5_plan 53 = .ok (.ldc 204, 2) := by decide +kernel
theorem dX5_plan_55 : decode cX5_plan 55 = .ok (.invokespecial 206, 3) := by decide +kernel
theorem dX5_plan_58 : decode cX5_plan 58 = .ok (.athrow, 1) := by decide +kernel
theorem dX5_plan_59 : decode cX5_plan 59 = .ok (.aload_n 0, 1) := by decide +kernel
theorem dX5_plan_60 : decode cX5_plan 60 = .ok (.getfield 22, 3) := by decide +kernel
theorem dX5_plan_63 : decode cX5_plan 63 = .ok (.aload_n 0, 1) := by decide +kernel
theorem dX5_plan_64 : decode cX5_plan 64 = .ok (.getfield 10, 3) := by decide +kernel
theorem dX5_plan_67 : decode cX5_plan 67 = .ok (.invokevirtual 90, 3) := by decide +kernel
theorem dX5_plan_70 : decode cX5_plan 70 = .ok (.aload_n 0, 1) := by decide +kernel
theorem dX5_plan_71 : decode cX5_plan 71 = .ok (.getfield 10, 3) := by decide +kernel
theorem dX5_plan_74 : decode cX5_plan 74 = .ok (.iload_n 1, 1) := by decide +kernel
theorem dX5_plan_75 : decode cX5_plan 75 = .ok (.iload_n 2, 1) := by decide +kernel
theorem dX5_plan_76 : decode cX5_plan 76 = .ok (.iload_n 3, 1) := by decide +kernel
theorem dX5_plan_77 : decode cX5_plan 77 = .ok (.iload 4, 2) := by decide +kernel
theorem dX5_plan_79 : decode cX5_plan 79 = .ok (.invokevirtual 207, 3) := by decide +kernel
theorem dX5_plan_82 : decode cX5_plan 82 = .ok (.ireturn, 1) := by decide +kernel
set_option maxRecDepth 20000 in
theorem ggX5_move_X4_isRow : GoodIn wsX5_move wsX4_isRow := goodIn_r _ [21, 22, 198, 199, 200, 201] (by decide +kernel) (by decide +kernel)
set_option maxRecDepth 20000 in
theorem gX5_move_X4_isRow : GoodIn wsX5_move (wsV RX5 116 RX4 yX4_isRow wsX4_isRow) := goodIn_app (goodIn_of _ (by decide +kernel)) ggX5_move_X4_isRow
set_option maxRecDepth 20000 in
theorem ggX5_move_X5_isMinute : GoodIn wsX5_move wsX5_isMinute := goodIn_r _ [26, 27, 28, 25, 29] (by decide +kernel) (by decide +kernel)
set_option maxRecDepth 20000 in
theorem gX5_move_X5_isMinute : GoodIn wsX5_move (va_wsS RX5 215 yX5_isMinute wsX5_isMinute) := goodIn_app (goodIn_of _ (by decide +kernel)) ggX5_move_X5_isMinute
set_option maxRecDepth 20000 in
theorem ggX5_move_X3_isOpen : GoodIn wsX5_move wsX3_isOpen := goodIn_ca (goodIn_r _ [34, 35, 36, 37, 33, 38, 39, 40, 41, 42, 43, 44, 45, 46, 47, 20, 48, 49, 50, 190, 191, 192, 193, 194, 195, 196, 197, 198, 199, 200, 201] (by decide +kernel) (by decide +kernel)) (goodIn_sub (fun _ h => List.mem_cons_of_mem _ (List.mem_append_right _ h)) (by decide +kernel))
set_option maxRecDepth 20000 in
theorem gX5_move_X3_isOpen : GoodIn wsX5_move (wsV RX5 220 RX3 yX3_isOpen wsX3_isOpen) := goodIn_app (goodIn_of _ (by decide +kernel)) ggX5_move_X3_isOpen
set_option maxRecDepth 20000 in
theorem ggX5_move_X5_isMoveRefused : GoodIn wsX5_move wsX5_isMoveRefused := goodIn_ca (goodIn_r _ [54, 9, 11, 10, 55, 56, 57, 46, 47, 20, 48, 49, 50, 58, 59, 60, 25, 61, 62, 63, 64, 65, 66, 67, 68, 69, 70, 71, 72, 73, 74, 75, 33, 76, 77, 45, 78, 79, 80, 81, 22, 82, 83, 84, 85, 86, 87, 88, 89, 39, 90, 91, 92, 93, 94, 95, 96, 97, 98, 99, 100, 101, 102, 103, 104, 105, 106, 107, 108, 109, 110, 111, 112, 113, 114, 115, 116, 117, 118, 119, 120, 121, 122, 123, 124, 125, 126, 127, 128, 129, 130, 131, 132, 133, 134, 135, 136, 137, 14, 15, 16, 179, 180, 181, 182, 183, 184, 185, 186, 187, 188, 189, 190, 191, 192, 193, 194, 195, 196, 197, 202, 203, 204, 205, 198, 199, 200, 201] (by decide +kernel) (by decide +kernel)) (goodIn_sub (fun _ h => List.mem_cons_of_mem _ (List.mem_append_right _ h)) (by decide +kernel))
set_option maxRecDepth 20000 in
theorem gX5_move_X5_isMoveRefused : GoodIn wsX5_move (wsV RX5 225 RX5 yX5_isMoveRefused wsX5_isMoveRefused) := goodIn_app (goodIn_of _ (by decide +kernel)) ggX5_move_X5_isMoveRefused
set_option maxRecDepth 20000 in
theorem ggX5_move_X0_keep : GoodIn wsX5_move wsX0_keep := goodIn_r _ [142, 143, 144, 145, 141, 146, 147, 148, 149, 150, 151, 33, 152, 124, 153, 154, 39, 155, 77, 40, 156, 157, 158, 159, 20, 160, 22, 50, 161, 162, 15, 163, 164, 165, 166, 167, 168, 169, 170, 171, 172, 173, 206, 207, 208, 190, 191, 192, 193, 194, 195, 196, 197, 198, 199, 200, 201] (by decide +kernel) (by decide +kernel)
set_option maxRecDepth 20000 in
theorem gX5_move_X0_keep : GoodIn wsX5_move (wsV RX5 90 RX0 yX0_keep wsX0_keep) := goodIn_app (goodIn_of _ (by decide +kernel)) ggX5_move_X0_keep
set_option maxRecDepth 20000 in
theorem ggX5_move_X4_get : GoodIn wsX5_move wsX4_get := goodIn_ca (goodIn_r _ [48, 49, 50, 198, 199, 200, 201] (by decide +kernel) (by decide +kernel)) (goodIn_sub (fun _ h => List.mem_cons_of_mem _ (List.mem_append_right _ h)) (by decide +kernel))
set_option maxRecDepth 20000 in
theorem gX5_move_X4_get : GoodIn wsX5_move (wsV RX5 126 RX4 yX4_get wsX4_get) := goodIn_app (goodIn_of _ (by decide +kernel)) ggX5_move_X4_get
set_option maxRecDepth 20000 in
theorem ggX5_move_X3_putShow : GoodIn wsX5_move wsX3_putShow := goodIn_ca (goodIn_r _ [177, 39, 45, 46, 47, 20, 48, 49, 50, 178, 102, 103, 104, 190, 191, 192, 193, 194, 195, 196, 197, 198, 199, 200, 201] (by decide +kernel) (by decide +kernel)) (goodIn_sub (fun _ h => List.mem_cons_of_mem _ (List.mem_append_right _ h)) (by decide +kernel))
set_option maxRecDepth 20000 in
theorem gX5_move_X3_putShow : GoodIn wsX5_move (wsV RX5 230 RX3 yX3_putShow wsX3_putShow) := goodIn_app (goodIn_of _ (by decide +kernel)) ggX5_move_X3_putShow
theorem dX5_move_0 : decode cX5_move 0 = .ok (.aload_n 0, 1) := by decide +kernel
theorem dX5_move_1 : decode cX5_move 1 = .ok (.getfield 10, 3) := by decide +kernel
theorem dX5_move_4 : decode cX5_move 4 = .ok (.getfield 210, 3) := by decide +kernel
theorem dX5_move_7 : decode cX5_move 7 = .ok (.iload_n 1, 1) := by decide +kernel
theorem dX5_move_8 : decode cX5_move 8 = .ok (.invokevirtual 116, 3) := by decide +kernel
theorem dX5_move_11 : decode cX5_move 11 = .ok (.ifCond .eq 17, 3) := by decide +kernel
theorem dX5_move_14 : decode cX5_move 14 = .ok (.aload_n 0, 1) := by decide +kernel
theorem dX5_move_15 : decode cX5_move 15 = .ok (.getfield 10, 3) := by decide +kernel
theorem dX5_move_18 : decode cX5_move 18 = .ok (.getfield 75, 3) := by decide +kernel
theorem dX5_move_21 : decode cX5_move 21 = .ok (.iload_n 2, 1) := by decide +kernel
theorem dX5_move_22 : decode cX5_move 22 = .ok (.invokevirtual 116, 3) := by decide +kernel
theorem dX5_move_25 : decode cX5_move 25 = .ok (.ifCond .ne 13, 3) := by decide +kernel
theorem dX5_move_28 : decode cX5_move 28 = .ok (.new 119, 3) := by decide +kernel
theorem dX5_move_31 : decode cX5_move 31 = .ok (.dup, 1) := by decide +kernel
theorem dX5_move_32 : decode cX5_move 32 = .ok (.ldc 213, 2) := by decide +kernel
theorem dX5_move_34 : decode cX5_move 34 = .ok (.invokespecial 123, 3) := by decide +kernel
theorem dX5_move_37 : decode cX5_move 37 = .ok (.athrow, 1) := by decide +kernel
theorem dX5_move_38 : decode cX5_move 38 = .ok (.iload_n 3, 1) := by decide +kernel
theorem dX5_move_39 : decode cX5_move 39 = .ok (.invokestatic 215, 3) := by decide +kernel
theorem dX5_move_42 : decode cX5_move 42 = .ok (.ifCond .ne 13, 3) := by decide +kernel
theorem dX5_move_45 : decode cX5_move 45 = .ok (.new 68, 3) := by decide +kernel
theorem dX5_move_48 : decode cX5_move 48 = .ok (.dup, 1) := by decide +kernel
theorem dX5_move_49 : decode cX5_move 49 = .ok (.ldc 218, 2) := by decide +kernel
theorem dX5_move_51 : decode cX5_move 51 = .ok (.invokespecial 72, 3) := by decide +kernel
theorem dX5_move_54 : decode cX5_move 54 = .ok (.athrow, 1) := by decide +kernel
theorem dX5_move_55 : decode cX5_move 55 = .ok (.aload_n 0, 1) := by decide +kernel
theorem dX5_move_56 : decode cX5_move 56 = .ok (.getfield 10, 3) := by decide +kernel
theorem dX5_move_59 : decode cX5_move 59 = .ok (.iload_n 1, 1) := by decide +kernel
theorem dX5_move_60 : decode cX5_move 60 = .ok (.invokevirtual 220, 3) := by decide +kernel
theorem dX5_move_63 : decode cX5_move 63 = .ok (.ifCond .ne 13, 3) := by decide +kernel
theorem dX5_move_66 : decode cX5_move 66 = .ok (.new 85, 3) := by decide +kernel
theorem dX5_move_69 : decode cX5_move 69 = .ok (.dup, 1) := by decide +kernel
theorem dX5_move_70 : decode cX5_move 70 = .ok (.ldc 223, 2) := by decide +kernel
theorem dX5_move_72 : decode cX5_move 72 = .ok (.invokespecial 89, 3) := by decide +kernel
theorem dX5_move_75 : decode cX5_move 75 = .ok (.athrow, 1) := by decide +kernel
theorem dX5_move_76 : decode cX5_move 76 = .ok (.aload_n 0, 1) := by decide +kernel
theorem dX5_move_77 : decode cX5_move 77 = .ok (.iload_n 1, 1) := by decide +kernel
theorem dX5_move_78 : decode cX5_move 78 = .ok (.iload_n 2, 1) := by decide +kernel
theorem dX5_move_79 : decode cX5_move 79 = .ok (.iload_n 3, 1) := by decide +kernel
theorem dX5_move_80 : decode cX5_move 80 = .ok (.invokevirtual 225, 3) := by decide +kernel
theorem dX5_move_83 : decode cX5_move 83 = .ok (.ifCond .eq 13, 3) := by decide +kernel
theorem dX5_move_86 : decode cX5_move 86 = .ok (.new 202, 3) := by decide +kernel
theorem dX5_move_89 : decode cX5_move 89 = .ok (.dup, 1) := by decide +kernel
theorem dX5_move_90 : decode cX5_move 90 = .ok (.ldc 228, 2) := by decide +kernel
theorem dX5_move_92 : decode cX5_move 92 = .ok (.invokespecial 206, 3) := by decide +kernel
theorem dX5_move_95 : decode cX5_move 95 = .ok (.athrow, 1) := by decide +kernel
theorem dX5_move_96 : decode cX5_move 96 = .ok (.aload_n 0, 1) := by decide +kernel
theorem dX5_move_97 : decode cX5_move 97 = .ok (.getfield 22, 3) := by decide +kernel
theorem dX5_move_100 : decode cX5_move 100 = .ok (.aload_n 0, 1) := by decide +kernel
theorem dX5_move_101 : decode cX5_move 101 = .ok (.getfield 10, 3) := by decide +kernel
theorem dX5_move_104 : decode cX5_move 104 = .ok (.invokevirtual 90, 3) := by decide +kernel
theorem dX5_move_107 : decode cX5_move 107 = .ok (.aload_n 0, 1) := by decide +kernel
theorem dX5_move_108 : decode cX5_move 108 = .ok (.getfield 10, 3) := by decide +kernel
theorem dX5_move_111 : decode cX5_move 111 = .ok (.getfield 210, 3) := by decide +kernel
theorem dX5_move_114 : decode cX5_move 114 = .ok (.iload_n 1, 1) := by decide +kernel
theorem dX5_move_115 : decode cX5_move 115 = .ok (.iconst 3, 1) := by decide +kernel
theorem dX5_move_116 : decode cX5_move 116 = .ok (.invokevirtual 126, 3) := by decide +kernel
theorem dX5_move_119 : decode cX5_move 119 = .ok (.istore 4, 2) := by decide +kernel
theorem dX5_move_121 : decode cX5_move 121 = .ok (.aload_n 0, 1) := by decide +kernel
theorem dX5_move_122 : decode cX5_move 122 = .ok (.getfield 10, 3) := by decide +kernel
theorem dX5_move_125 : decode cX5_move 125 = .ok (.iload_n 1, 1) := by decide +kernel
theorem dX5_move_126 : decode cX5_move 126 = .ok (.iload_n 2, 1) := by decide +kernel
theorem dX5_move_127 : decode cX5_move 127 = .ok (.iload_n 3, 1) := by decide +kernel
theorem dX5_move_128 : decode cX5_move 128 = .ok (.invokevirtual 230, 3) := by decide +kernel
theorem dX5_move_131 : decode cX5_move 131 = .ok (.iload_n 3, 1) := by decide +kernel
theorem dX5_move_132 : decode cX5_move 132 = .ok (.iload 4, 2) := by decide +kernel
theorem dX5_move_134 : decode cX5_move 134 = .ok (.isub, 1) := by decide +kernel
theorem dX5_move_135 : decode cX5_move 135 = .ok (.invokestatic 233, 3) := by decide +kernel
theorem dX5_move_138 : decode cX5_move 138 = .ok (.ireturn, 1) := by decide +kernel
set_option maxRecDepth 20000 in
theorem ggX5_cancel_X5_faultOfCancel : GoodIn wsX5_cancel wsX5_faultOfCancel := goodIn_ca (goodIn_r _ [11, 6, 12, 13, 14, 15, 16, 17, 18, 19, 20, 21, 22, 23, 24, 25, 26, 27, 28, 29, 30, 31, 32, 33, 34, 35, 36, 37, 38, 39, 87, 88, 89, 90, 91, 92, 93, 94, 95, 96, 97, 98, 99, 100, 101, 102, 103, 104, 105, 106, 107, 108, 109] (by decide +kernel) (by decide +kernel)) (goodIn_sub (fun _ h => List.mem_cons_of_mem _ (List.mem_append_right _ h)) (by decide +kernel))
set_option maxRecDepth 20000 in
theorem gX5_cancel_X5_faultOfCancel : GoodIn wsX5_cancel (wsV RX5 238 RX5 yX5_faultOfCancel wsX5_faultOfCancel) := goodIn_app (goodIn_of _ (by decide +kernel)) ggX5_cancel_X5_faultOfCancel
set_option maxRecDepth 20000 in
theorem ggX5_cancel_X0_keep : GoodIn wsX5_cancel wsX0_keep := goodIn_r _ [44, 45, 46, 47, 43, 48, 49, 50, 51, 52, 53, 22, 54, 55, 56, 57, 28, 58, 59, 29, 60, 61, 62, 63, 16, 64, 18, 39, 65, 66, 67, 68, 69, 70, 71, 72, 73, 74, 75, 76, 77, 78, 110, 111, 112, 98, 99, 100, 101, 102, 103, 104, 105, 106, 107, 108, 109] (by decide +kernel) (by decide +kernel)
set_option maxRecDepth 20000 in
theorem gX5_cancel_X0_keep : GoodIn wsX5_cancel (wsV RX5 90 RX0 yX0_keep wsX0_keep) := goodIn_app (goodIn_of _ (by decide +kernel)) ggX5_cancel_X0_keep
set_option maxRecDepth 20000 in
theorem ggX5_cancel_X3_dropShow : GoodIn wsX5_cancel wsX3_dropShow := goodIn_ca (goodIn_r _ [82, 28, 60, 34, 35, 36, 16, 37, 38, 39, 83, 84, 85, 86, 98, 99, 100, 101, 102, 103, 104, 105, 106, 107, 108, 109] (by decide +kernel) (by decide +kernel)) (goodIn_sub (fun _ h => List.mem_cons_of_mem _ (List.mem_append_right _ h)) (by decide +kernel))
set_option maxRecDepth 20000 in
theorem gX5_cancel_X3_dropShow : GoodIn wsX5_cancel (wsV RX5 243 RX3 yX3_dropShow wsX3_dropShow) := goodIn_app (goodIn_of _ (by decide +kernel)) ggX5_cancel_X3_dropShow
theorem dX5_cancel_0 : decode cX5_cancel 0 = .ok (.aload_n 0, 1) := by decide +kernel
theorem dX5_cancel_1 : decode cX5_cancel 1 = .ok (.iload_n 1, 1) := by decide +kernel
theorem dX5_cancel_2 : decode cX5_cancel 2 = .ok (.invokevirtual 238, 3) := by decide +kernel
theorem dX5_cancel_5 : decode cX5_cancel 5 = .ok (.istore_n 2, 1) := by decide +kernel
theorem dX5_cancel_6 : decode cX5_cancel 6 = .ok (.iload_n 2, 1) := by decide +kernel
theorem dX5_cancel_7 : decode cX5_cancel 7 = .ok (.iconst 1, 1) := by decide +kernel
theorem dX5_cancel_8 : decode cX5_cancel 8 = .ok (.if_icmp .ne 13, 3) := by decide +kernel
theorem dX5_cancel_11 : decode cX5_cancel 11 = .ok (.new 119, 3) := by decide +kernel
theorem dX5_cancel_14 : decode cX5_cancel 14 = .ok (.dup, 1) := by decide +kernel
theorem dX5_cancel_15 : decode cX5_cancel 15 = .ok (.ldc 241, 2) := by decide +kernel
theorem dX5_cancel_17 : decode cX5_cancel 17 = .ok (.invokespecial 123, 3) := by decide +kernel
theorem dX5_cancel_20 : decode cX5_cancel 20 = .ok (.athrow, 1) := by decide +kernel
theorem dX5_cancel_21 : decode cX5_cancel 21 = .ok (.iload_n 2, 1) := by decide +kernel
theorem dX5_cancel_22 : decode cX5_cancel 22 = .ok (.iconst 3, 1) := by decide +kernel
theorem dX5_cancel_23 : decode cX5_cancel 23 = .ok (.if_icmp .ne 13, 3) := by decide +kernel
theorem dX5_cancel_26 : decode cX5_cancel 26 = .ok (.new 85, 3) := by decide +kernel
theorem dX5_cancel_29 : decode cX5_cancel 29 = .ok (.dup, 1) := by decide +kernel
theorem dX5_cancel_30 : decode cX5_cancel 30 = .ok (.ldc 223, 2) := by decide +kernel
theorem dX5_cancel_32 : decode cX5_cancel 32 = .ok (.invokespecial 89, 3) := by decide +kernel
theorem dX5_cancel_35 : decode cX5_cancel 35 = .ok (.athrow, 1) := by decide +kernel
theorem dX5_cancel_36 : decode cX5_cancel 36 = .ok (.aload_n 0, 1) := by decide +kernel
theorem dX5_cancel_37 : decode cX5_cancel 37 = .ok (.getfield 22, 3) := by decide +kernel
theorem dX5_cancel_40 : decode cX5_cancel 40 = .ok (.aload_n 0, 1) := by decide +kernel
theorem dX5_cancel_41 : decode cX5_cancel 41 = .ok (.getfield 10, 3) := by decide +kernel
theorem dX5_cancel_44 : decode cX5_cancel 44 = .ok (.invokevirtual 90, 3) := by decide +kernel
theorem dX5_cancel_47 : decode cX5_cancel 47 = .ok (.aload_n 0, 1) := by decide +kernel
theorem dX5_cancel_48 : decode cX5_cancel 48 = .ok (.getfield 10, 3) := by decide +kernel
theorem dX5_cancel_51 : decode cX5_cancel 51 = .ok (.iload_n 1, 1) := by decide +kernel
theorem dX5_cancel_52 : decode cX5_cancel 52 = .ok (.invokevirtual 243, 3) := by decide +kernel
theorem dX5_cancel_55 : decode cX5_cancel 55 = .ok (.ireturn, 1) := by decide +kernel
set_option maxRecDepth 20000 in
theorem ggX5_sell_X5_faultOfSell : GoodIn wsX5_sell wsX5_faultOfSell := goodIn_ca (goodIn_r _ [15, 10, 16, 17, 18, 19, 20, 21, 22, 23, 24, 14, 25, 26, 27, 28, 29, 30, 31, 32, 33, 34, 35, 36, 37, 38, 39, 40, 41, 42, 43, 44, 45, 46, 47, 48, 49, 50, 51, 52, 53, 54, 55, 56, 57, 58, 105, 106, 107, 108, 109, 110, 111, 112, 113, 114, 115, 116, 117, 118, 119, 120, 121, 122, 123, 124, 125, 126, 127] (by decide +kernel) (by decide +kernel)) (goodIn_sub (fun _ h => List.mem_cons_of_mem _ (List.mem_append_right _ h)) (by decide +kernel))
set_option maxRecDepth 20000 in
theorem gX5_sell_X5_faultOfSell : GoodIn wsX5_sell (wsV RX5 246 RX5 yX5_faultOfSell wsX5_faultOfSell) := goodIn_app (goodIn_of _ (by decide +kernel)) ggX5_sell_X5_faultOfSell
set_option maxRecDepth 20000 in
theorem ggX5_sell_X0_keep : GoodIn wsX5_sell wsX0_keep := goodIn_r _ [63, 64, 65, 66, 62, 67, 68, 69, 70, 71, 72, 29, 73, 51, 74, 75, 35, 76, 77, 36, 78, 79, 80, 81, 20, 82, 22, 46, 83, 84, 85, 86, 87, 88, 89, 90, 91, 92, 93, 94, 95, 96, 128, 129, 130, 116, 117, 118, 119, 120, 121, 122, 123, 124, 125, 126, 127] (by decide +kernel) (by decide +kernel)
set_option maxRecDepth 20000 in
theorem gX5_sell_X0_keep : GoodIn wsX5_sell (wsV RX5 90 RX0 yX0_keep wsX0_keep) := goodIn_app (goodIn_of _ (by decide +kernel)) ggX5_sell_X0_keep
set_option maxRecDepth 20000 in
theorem ggX5_sell_X3_addTickets : GoodIn wsX5_sell wsX3_addTickets := goodIn_ca (goodIn_r _ [100, 35, 41, 42, 43, 20, 44, 45, 46, 101, 102, 103, 104, 116, 117, 118, 119, 120, 121, 122, 123, 124, 125, 126, 127] (by decide +kernel) (by decide +kernel)) (goodIn_sub (fun _ h => List.mem_cons_of_mem _ (List.mem_append_right _ h)) (by decide +kernel))
set_option maxRecDepth 20000 in
theorem gX5_sell_X3_addTickets : GoodIn wsX5_sell (wsV RX5 253 RX3 yX3_addTickets wsX3_addTickets) := goodIn_app (goodIn_of _ (by decide +kernel)) ggX5_sell_X3_addTickets
theorem dX5_sell_0 : decode cX5_sell 0 = .ok (.aload_n 0, 1) := by decide +kernel
theorem dX5_sell_1 : decode cX5_sell 1 = .ok (.iload_n 1, 1) := by decide +kernel
theorem dX5_sell_2 : decode cX5_sell 2 = .ok (.iload_n 2, 1) := by decide +kernel
theorem dX5_sell_3 : decode cX5_sell 3 = .ok (.invokevirtual 246, 3) := by decide +kernel
theorem dX5_sell_6 : decode cX5_sell 6 = .ok (.istore_n 3, 1) := by decide +kernel
theorem dX5_sell_7 : decode cX5_sell 7 = .ok (.iload_n 3, 1) := by decide +kernel
theorem dX5_sell_8 : decode cX5_sell 8 = .ok (.iconst 1, 1) := by decide +kernel
theorem dX5_sell_9 : decode cX5_sell 9 = .ok (.if_icmp .ne 13, 3) := by decide +kernel
theorem dX5_sell_12 : decode cX5_sell 12 = .ok (.new 119, 3) := by decide +kernel
theorem dX5_sell_15 : decode cX5_sell 15 = .ok (.dup, 1) := by decide +kernel
theorem dX5_sell_16 : decode cX5_sell 16 = .ok (.ldc 241, 2) := by decide +kernel
theorem dX5_sell_18 : decode cX5_sell 18 = .ok (.invokespecial 123, 3) := by decide +kernel
theorem dX5_sell_21 : decode cX5_sell 21 = .ok (.athrow, 1) := by decide +kernel
theorem dX5_sell_22 : decode cX5_sell 22 = .ok (.iload_n 3, 1) := by decide +kernel
theorem dX5_sell_23 : decode cX5_sell 23 = .ok (.iconst 2, 1) := by decide +kernel
theorem dX5_sell_24 : decode cX5_sell 24 = .ok (.if_icmp .ne 13, 3) := by decide +kernel
theorem dX5_sell_27 : decode cX5_sell 27 = .ok (.new 68, 3) := by decide +kernel
theorem dX5_sell_30 : decode cX5_sell 30 = .ok (.dup, 1) := by decide +kernel
theorem dX5_sell_31 : decode cX5_sell 31 = .ok (.ldc 249, 2) := by decide +kernel
theorem dX5_sell_33 : decode cX5_sell 33 = .ok (.invokespecial 72, 3) := by decide +kernel
theorem dX5_sell_36 : decode cX5_sell 36 = .ok (.athrow, 1) := by decide +kernel
theorem dX5_sell_37 : decode cX5_sell 37 = .ok (.iload_n 3, 1) := by decide +kernel
theorem dX5_sell_38 : decode cX5_sell 38 = .ok (.iconst 3, 1) := by decide +kernel
theorem dX5_sell_39 : decode cX5_sell 39 = .ok (.if_icmp .ne 13, 3) := by decide +kernel
theorem dX5_sell_42 : decode cX5_sell 42 = .ok (.new 85, 3) := by decide +kernel
theorem dX5_sell_45 : decode cX5_sell 45 = .ok (.dup, 1) := by decide +kernel
theorem dX5_sell_46 : decode cX5_sell 46 = .ok (.ldc 223, 2) := by decide +kernel
theorem dX5_sell_48 : decode cX5_sell 48 = .ok (.invokespecial 89, 3) := by decide +kernel
theorem dX5_sell_51 : decode cX5_sell 51 = .ok (.athrow, 1) := by decide +kernel
theorem dX5_sell_52 : decode cX5_sell 52 = .ok (.iload_n 3, 1) := by decide +kernel
theorem dX5_sell_53 : decode cX5_sell 53 = .ok (.iconst 4, 1) := by decide +kernel
theorem dX5_sell_54 : decode cX5_sell 54 = .ok (.if_icmp .ne 13, 3) := by decide +kernel
theorem dX5_sell_57 : decode cX5_sell 57 = .ok (.new 202, 3) := by decide +kernel
theorem dX5_sell_60 : decode cX5_sell 60 = .ok (.dup, 1) := by decide +kernel
theorem dX5_sell_61 : decode cX5_sell 61 = .ok (.ldc 251, 2) := by decide +kernel
theorem dX5_sell_63 : decode cX5_sell 63 = .ok (.invokespecial 206, 3) := by decide +kernel
theorem dX5_sell_66 : decode cX5_sell 66 = .ok (.athrow, 1) := by decide +kernel
theorem dX5_sell_67 : decode cX5_sell 67 = .ok (.aload_n 0, 1) := by decide +kernel
theorem dX5_sell_68 : decode cX5_sell 68 = .ok (.getfield 22, 3) := by decide +kernel
theorem dX5_sell_71 : decode cX5_sell 71 = .ok (.aload_n 0, 1) := by decide +kernel
theorem dX5_sell_72 : decode cX5_sell 72 = .ok (.getfield 10, 3) := by decide +kernel
theorem dX5_sell_75 : decode cX5_sell 75 = .ok (.invokevirtual 90, 3) := by decide +kernel
theorem dX5_sell_78 : decode cX5_sell 78 = .ok (.aload_n 0, 1) := by decide +kernel
theorem dX5_sell_79 : decode cX5_sell 79 = .ok (.getfield 10, 3) := by decide +kernel
theorem dX5_sell_82 : decode cX5_sell 82 = .ok (.iload_n 1, 1) := by decide +kernel
theorem dX5_sell_83 : decode cX5_sell 83 = .ok (.iload_n 2, 1) := by decide +kernel
theorem dX5_sell_84 : decode cX5_sell 84 = .ok (.invokevirtual 253, 3) := by decide +kernel
theorem dX5_sell_87 : decode cX5_sell 87 = .ok (.ireturn, 1) := by decide +kernel
set_option maxRecDepth 20000 in
theorem ggX5_show_X4_isRow : GoodIn wsX5_show wsX4_isRow := goodIn_r _ [11, 12, 72, 73, 74, 75] (by decide +kernel) (by decide +kernel)
set_option maxRecDepth 20000 in
theorem gX5_show_X4_isRow : GoodIn wsX5_show (wsV RX5 116 RX4 yX4_isRow wsX4_isRow) := goodIn_app (goodIn_of _ (by decide +kernel)) ggX5_show_X4_isRow
set_option maxRecDepth 20000 in
theorem ggX5_show_X5_isWithin : GoodIn wsX5_show wsX5_isWithin := goodIn_r _ [16] (by decide +kernel) (by decide +kernel)
set_option maxRecDepth 20000 in
theorem gX5_show_X5_isWithin : GoodIn wsX5_show (va_wsS RX5 64 yX5_isWithin wsX5_isWithin) := goodIn_app (goodIn_of _ (by decide +kernel)) ggX5_show_X5_isWithin
set_option maxRecDepth 20000 in
theorem ggX5_show_X3_statusOf : GoodIn wsX5_show wsX3_statusOf := goodIn_ca (goodIn_r _ [21, 22, 23, 24, 25, 26, 20, 27, 28, 29, 30, 10, 31, 32, 33, 64, 65, 66, 67, 68, 69, 70, 71, 72, 73, 74, 75] (by decide +kernel) (by decide +kernel)) (goodIn_sub (fun _ h => List.mem_cons_of_mem _ (List.mem_append_right _ h)) (by decide +kernel))
set_option maxRecDepth 20000 in
theorem gX5_show_X3_statusOf : GoodIn wsX5_show (wsV RX5 256 RX3 yX3_statusOf wsX3_statusOf) := goodIn_app (goodIn_of _ (by decide +kernel)) ggX5_show_X3_statusOf
set_option maxRecDepth 20000 in
theorem ggX5_show_X3_receiptsOf : GoodIn wsX5_show wsX3_receiptsOf := goodIn_ca (goodIn_r _ [37, 22, 28, 29, 30, 10, 31, 32, 33, 64, 65, 66, 67, 68, 69, 70, 71, 72, 73, 74, 75] (by decide +kernel) (by decide +kernel)) (goodIn_sub (fun _ h => List.mem_cons_of_mem _ (List.mem_append_right _ h)) (by decide +kernel))
set_option maxRecDepth 20000 in
theorem gX5_show_X3_receiptsOf : GoodIn wsX5_show (wsV RX5 259 RX3 yX3_receiptsOf wsX3_receiptsOf) := goodIn_app (goodIn_of _ (by decide +kernel)) ggX5_show_X3_receiptsOf
set_option maxRecDepth 20000 in
theorem ggX5_show_X3_partOf : GoodIn wsX5_show wsX3_partOf := goodIn_ca (goodIn_r _ [41, 22, 28, 29, 30, 10, 31, 32, 33, 42, 43, 44, 20, 45, 46, 47, 48, 49, 50, 51, 35, 36, 37, 64, 65, 66, 67, 68, 69, 70, 71, 72, 73, 74, 75] (by decide +kernel) (by decide +kernel)) (goodIn_sub (fun _ h => List.mem_cons_of_mem _ (List.mem_append_right _ h)) (by decide +kernel))
set_option maxRecDepth 20000 in
theorem gX5_show_X3_partOf : GoodIn wsX5_show (wsV RX5 262 RX3 yX3_partOf wsX3_partOf) := goodIn_app (goodIn_of _ (by decide +kernel)) ggX5_show_X3_partOf
set_option maxRecDepth 20000 in
theorem ggX5_show_X4_get : GoodIn wsX5_show wsX4_get := goodIn_ca (goodIn_r _ [31, 32, 33, 72, 73, 74, 75] (by decide +kernel) (by decide +kernel)) (goodIn_sub (fun _ h => List.mem_cons_of_mem _ (List.mem_append_right _ h)) (by decide +kernel))
set_option maxRecDepth 20000 in
theorem gX5_show_X4_get : GoodIn wsX5_show (wsV RX5 126 RX4 yX4_get wsX4_get) := goodIn_app (goodIn_of _ (by decide +kernel)) ggX5_show_X4_get
theorem dX5_show_0 : decode cX5_show 0 = .ok (.aload_n 0, 1) := by decide +kernel
theorem dX5_show_1 : decode cX5_show 1 = .ok (.getfield 10, 3) := by decide +kernel
theorem dX5_show_4 : decode cX5_show 4 = .ok (.getfield 210, 3) := by decide +kernel
theorem dX5_show_7 : decode cX5_show 7 = .ok (.iload_n 1, 1) := by decide +kernel
theorem dX5_show_8 : decode cX5_show 8 = .ok (.invokevirtual 116, 3) := by decide +kernel
theorem dX5_show_11 : decode cX5_show 11 = .ok (.ifCond .ne 13, 3) := by decide +kernel
theorem dX5_show_14 : decode cX5_show 14 = .ok (.new 119, 3) := by decide +kernel
theorem dX5_show_17 : decode cX5_show 17 = .ok (.dup, 1) := by decide +kernel
theorem dX5_show_18 : decode cX5_show 18 = .ok (.ldc 241, 2) := by decide +kernel
theorem dX5_show_20 : decode cX5_show 20 = .ok (.invokespecial 123, 3) := by decide +kernel
theorem dX5_show_23 : decode cX5_show 23 = .ok (.athrow, 1) := by decide +kernel
theorem dX5_show_24 : decode cX5_show 24 = .ok (.iload_n 2, 1) := by decide +kernel
theorem dX5_show_25 : decode cX5_show 25 = .ok (.iconst 0, 1) := by decide +kernel
theorem dX5_show_26 : decode cX5_show 26 = .ok (.bipush 11, 2) := by decide +kernel
theorem dX5_show_28 : decode cX5_show 28 = .ok (.invokestatic 64, 3) := by decide +kernel
theorem dX5_show_31 : decode cX5_show 31 = .ok (.ifCond .ne 13, 3) := by decide +kernel
theorem dX5_show_34 : decode cX5_show 34 = .ok (.new 68, 3) := by decide +kernel
theorem dX5_show_37 : decode cX5_show 37 = .ok (.dup, 1) := by decide +kernel
theorem dX5_show_38 : decode cX5_show 38 = .ok (.ldc 167, 2) := by decide +kernel
theorem dX5_show_40 : decode cX5_show 40 = .ok (.invokespecial 72, 3) := by decide +kernel
theorem dX5_show_43 : decode cX5_show 43 = .ok (.athrow, 1) := by decide +kernel
theorem dX5_show_44 : decode cX5_show 44 = .ok (.iload_n 2, 1) := by decide +kernel
theorem dX5_show_45 : decode cX5_show 45 = .ok (.tableswitch 54 8 10 #[27, 36, 45], 27) := by decide +kernel
theorem dX5_show_72 : decode cX5_show 72 = .ok (.aload_n 0, 1) := by decide +kernel
theorem dX5_show_73 : decode cX5_show 73 = .ok (.getfield 10, 3) := by decide +kernel
theorem dX5_show_76 : decode cX5_show 76 = .ok (.iload_n 1, 1) := by decide +kernel
theorem dX5_show_77 : decode cX5_show 77 = .ok (.invokevirtual 256, 3) := by decide +kernel
theorem dX5_show_80 : decode cX5_show 80 = .ok (.ireturn, 1) := by decide +kernel
theorem dX5_show_81 : decode cX5_show 81 = .ok (.aload_n 0, 1) := by decide +kernel
theorem dX5_show_82 : decode cX5_show 82 = .ok (.getfield 10, 3) := by decide +kernel
theorem dX5_show_85 : decode cX5_show 85 = .ok (.iload_n 1, 1) := by decide +kernel
theorem dX5_show_86 : decode cX5_show 86 = .ok (.invokevirtual 259, 3) := by decide +kernel
theorem dX5_show_89 : decode cX5_show 89 = .ok (.ireturn, 1) := by decide +kernel
theorem dX5_show_90 : decode cX5_show 90 = .ok (.aload_n 0, 1) := by decide +kernel
theorem dX5_show_91 : decode cX5_show 91 = .ok (.getfield 10, 3) := by decide +kernel
theorem dX5_show_94 : decode cX5_show 94 = .ok (.iload_n 1, 1) := by decide +kernel
theorem dX5_show_95 : decode cX5_show 95 = .ok (.invokevirtual 262, 3) := by decide +kernel
theorem dX5_show_98 : decode cX5_show 98 = .ok (.ireturn, 1) := by decide +kernel
theorem dX5_show_99 : decode cX5_show 99 = .ok (.aload_n 0, 1) := by decide +kernel
theorem dX5_show_100 : decode cX5_show 100 = .ok (.getfield 10, 3) := by decide +kernel
theorem dX5_show_103 : decode cX5_show 103 = .ok (.getfield 210, 3) := by decide +kernel
theorem dX5_show_106 : decode cX5_show 106 = .ok (.iload_n 1, 1) := by decide +kernel
theorem dX5_show_107 : decode cX5_show 107 = .ok (.iload_n 2, 1) := by decide +kernel
theorem dX5_show_108 : decode cX5_show 108 = .ok (.invokevirtual 126, 3) := by decide +kernel
theorem dX5_show_111 : decode cX5_show 111 = .ok (.ireturn, 1) := by decide +kernel
set_option maxRecDepth 20000 in
theorem ggX5_why_X4_isRow : GoodIn wsX5_why wsX4_isRow := goodIn_r _ [14, 15, 159, 160, 161, 162] (by decide +kernel) (by decide +kernel)
set_option maxRecDepth 20000 in
theorem gX5_why_X4_isRow : GoodIn wsX5_why (wsV RX5 116 RX4 yX4_isRow wsX4_isRow) := goodIn_app (goodIn_of _ (by decide +kernel)) ggX5_why_X4_isRow
set_option maxRecDepth 20000 in
theorem ggX5_why_X5_isDay : GoodIn wsX5_why wsX5_isDay := goodIn_r _ [19, 20, 21, 18, 22] (by decide +kernel) (by decide +kernel)
set_option maxRecDepth 20000 in
theorem gX5_why_X5_isDay : GoodIn wsX5_why (va_wsS RX5 108 yX5_isDay wsX5_isDay) := goodIn_app (goodIn_of _ (by decide +kernel)) ggX5_why_X5_isDay
set_option maxRecDepth 20000 in
theorem ggX5_why_X5_isMinute : GoodIn wsX5_why wsX5_isMinute := goodIn_r _ [25, 20, 21, 18, 22] (by decide +kernel) (by decide +kernel)
set_option maxRecDepth 20000 in
theorem gX5_why_X5_isMinute : GoodIn wsX5_why (va_wsS RX5 215 yX5_isMinute wsX5_isMinute) := goodIn_app (goodIn_of _ (by decide +kernel)) ggX5_why_X5_isMinute
set_option maxRecDepth 20000 in
theorem ggX5_why_X2_takeUp : GoodIn wsX5_why wsX2_takeUp := goodIn_ca (goodIn_r _ [30, 31, 32, 33, 34, 35, 36, 37, 38, 39, 40, 41, 42, 43, 13, 44, 45, 46, 47, 48, 49, 50, 15, 51, 52, 53, 54, 55, 56, 57, 58, 59, 60, 61, 62, 29, 63, 64, 65, 66, 67, 68, 69, 70, 71, 72, 73, 74, 155, 156, 157, 158, 147, 148, 149, 150, 151, 152, 153, 154, 159, 160, 161, 162] (by decide +kernel) (by decide +kernel)) (goodIn_sub (fun _ h => List.mem_cons_of_mem _ (List.mem_append_right _ h)) (by decide +kernel))
set_option maxRecDepth 20000 in
theorem gX5_why_X2_takeUp : GoodIn wsX5_why (wsV RX5 265 RX2 yX2_takeUp wsX2_takeUp) := goodIn_app (goodIn_of _ (by decide +kernel)) ggX5_why_X2_takeUp
set_option maxRecDepth 20000 in
theorem ggX5_why_X3_newMinutes : GoodIn wsX5_why wsX3_newMinutes := goodIn_ca (goodIn_r _ [78, 79, 80, 81, 82, 38, 83, 40, 84, 41, 42, 43, 13, 44, 45, 46, 85, 52, 53, 54, 15, 86, 87, 88, 89, 90, 91, 92, 93, 94, 95, 96, 97, 98, 99, 100, 101, 102, 103, 147, 148, 149, 150, 151, 152, 153, 154, 159, 160, 161, 162] (by decide +kernel) (by decide +kernel)) (goodIn_sub (fun _ h => List.mem_cons_of_mem _ (List.mem_append_right _ h)) (by decide +kernel))
set_option maxRecDepth 20000 in
theorem gX5_why_X3_newMinutes : GoodIn wsX5_why (wsV RX5 269 RX3 yX3_newMinutes wsX3_newMinutes) := goodIn_app (goodIn_of _ (by decide +kernel)) ggX5_why_X3_newMinutes
set_option maxRecDepth 20000 in
theorem ggX5_why_X2_firstBroken : GoodIn wsX5_why wsX2_firstBroken := goodIn_ca (goodIn_r _ [107, 108, 31, 64, 32, 109, 65, 42, 43, 13, 44, 45, 46, 35, 36, 37, 38, 39, 40, 41, 110, 111, 112, 29, 113, 114, 115, 116, 117, 118, 119, 120, 121, 122, 123, 33, 51, 52, 53, 54, 15, 124, 125, 126, 127, 128, 129, 130, 131, 132, 133, 134, 135, 147, 148, 149, 150, 151, 152, 153, 154, 155, 156, 157, 158, 159, 160, 161, 162] (by decide +kernel) (by decide +kernel)) (goodIn_sub (fun _ h => List.mem_cons_of_mem _ (List.mem_append_right _ h)) (by decide +kernel))
set_option maxRecDepth 20000 in
theorem gX5_why_X2_firstBroken : GoodIn wsX5_why (wsV RX5 272 RX2 yX2_firstBroken wsX2_firstBroken) := goodIn_app (goodIn_of _ (by decide +kernel)) ggX5_why_X2_firstBroken
theorem dX5_why_0 : decode cX5_why 0 = .ok (.aload_n 0, 1) := by decide +kernel
theorem dX5_why_1 : decode cX5_why 1 = .ok (.getfield 10, 3) := by decide +kernel
theorem dX5_why_4 : decode cX5_why 4 = .ok (.getfield 75, 3) := by decide +kernel
theorem dX5_why_7 : decode cX5_why 7 = .ok (.iload_n 1, 1) := by decide +kernel
theorem dX5_why_8 : decode cX5_why 8 = .ok (.invokevirtual 116, 3) := by decide +kernel
theorem dX5_why_11 : decode cX5_why 11 = .ok (.ifCond .eq 17, 3) := by decide +kernel
theorem dX5_why_14 : decode cX5_why 14 = .ok (.aload_n 0, 1) := by decide +kernel
theorem dX5_why_15 : decode cX5_why 15 = .ok (.getfield 10, 3) := by decide +kernel
theorem dX5_why_18 : decode cX5_why 18 = .ok (.getfield 111, 3) := by decide +kernel
theorem dX5_why_21 : decode cX5_why 21 = .ok (.iload_n 2, 1) := by decide +kernel
theorem dX5_why_22 : decode cX5_why 22 = .ok (.invokevirtual 116, 3) := by decide +kernel
theorem dX5_why_25 : decode cX5_why 25 = .ok (.ifCond .ne 13, 3) := by decide +kernel
theorem dX5_why_28 : decode cX5_why 28 = .ok (.new 119, 3) := by decide +kernel
theorem dX5_why_31 : decode cX5_why 31 = .ok (.dup, 1) := by decide +kernel
theorem dX5_why_32 : decode cX5_why 32 = .ok (.ldc 198, 2) := by decide +kernel
theorem dX5_why_34 : decode cX5_why 34 = .ok (.invokespecial 123, 3) := by decide +kernel
theorem dX5_why_37 : decode cX5_why 37 = .ok (.athrow, 1) := by decide +kernel
theorem dX5_why_38 : decode cX5_why 38 = .ok (.iload_n 3, 1) := by decide +kernel
theorem dX5_why_39 : decode cX5_why 39 = .ok (.invokestatic 108, 3) := by decide +kernel
theorem dX5_why_42 : decode cX5_why 42 = .ok (.ifCond .eq 11, 3) := by decide +kernel
theorem dX5_why_45 : decode cX5_why 45 = .ok (.iload 4, 2) := by decide +kernel
theorem dX5_why_47 : decode cX5_why 47 = .ok (.invokestatic 215, 3) := by decide +kernel
theorem dX5_why_50 : decode cX5_why 50 = .ok (.ifCond .ne 13, 3) := by decide +kernel
theorem dX5_why_53 : decode cX5_why 53 = .ok (.new 68, 3) := by decide +kernel
theorem dX5_why_56 : decode cX5_why 56 = .ok (.dup, 1) := by decide +kernel
theorem dX5_why_57 : decode cX5_why 57 = .ok (.ldc 200, 2) := by decide +kernel
theorem dX5_why_59 : decode cX5_why 59 = .ok (.invokespecial 72, 3) := by decide +kernel
theorem dX5_why_62 : decode cX5_why 62 = .ok (.athrow, 1) := by decide +kernel
theorem dX5_why_63 : decode cX5_why 63 = .ok (.aload_n 0, 1) := by decide +kernel
theorem dX5_why_64 : decode cX5_why 64 = .ok (.getfield 29, 3) := by decide +kernel
theorem dX5_why_67 : decode cX5_why 67 = .ok (.aload_n 0, 1) := by decide +kernel
theorem dX5_why_68 : decode cX5_why 68 = .ok (.getfield 10, 3) := by decide +kernel
theorem dX5_why_71 : decode cX5_why 71 = .ok (.iconst (-1), 1) := by decide +kernel
theorem dX5_why_72 : decode cX5_why 72 = .ok (.iload_n 2, 1) := by decide +kernel
theorem dX5_why_73 : decode cX5_why 73 = .ok (.iload_n 3, 1) := by decide +kernel
theorem dX5_why_74 : decode cX5_why 74 = .ok (.invokevirtual 265, 3) := by decide +kernel
theorem dX5_why_77 : decode cX5_why 77 = .ok (.aload_n 0, 1) := by decide +kernel
theorem dX5_why_78 : decode cX5_why 78 = .ok (.getfield 29, 3) := by decide +kernel
theorem dX5_why_81 : decode cX5_why 81 = .ok (.aload_n 0, 1) := by decide +kernel
theorem dX5_why_82 : decode cX5_why 82 = .ok (.getfield 10, 3) := by decide +kernel
theorem dX5_why_85 : decode cX5_why 85 = .ok (.iload_n 1, 1) := by decide +kernel
theorem dX5_why_86 : decode cX5_why 86 = .ok (.iload 4, 2) := by decide +kernel
theorem dX5_why_88 : decode cX5_why 88 = .ok (.iload 4, 2) := by decide +kernel
theorem dX5_why_90 : decode cX5_why 90 = .ok (.aload_n 0, 1) := by decide +kernel
theorem dX5_why_91 : decode cX5_why 91 = .ok (.getfield 10, 3) := by decide +kernel
theorem dX5_why_94 : decode cX5_why 94 = .ok (.iload_n 2, 1) := by decide +kernel
theorem dX5_why_95 : decode cX5_why 95 = .ok (.iload_n 3, 1) := by decide +kernel
theorem dX5_why_96 : decode cX5_why 96 = .ok (.invokevirtual 269, 3) := by decide +kernel
theorem dX5_why_99 : decode cX5_why 99 = .ok (.iadd, 1) := by decide +kernel
theorem dX5_why_100 : decode cX5_why 100 = .ok (.invokevirtual 272, 3) := by decide +kernel
theorem dX5_why_103 : decode cX5_why 103 = .ok (.istore 6, 2) := by decide +kernel
theorem dX5_why_105 : decode cX5_why 105 = .ok (.iload 5, 2) := by decide +kernel
theorem dX5_why_107 : decode cX5_why 107 = .ok (.ifCond .eq 13, 3) := by decide +kernel
theorem dX5_why_110 : decode cX5_why 110 = .ok (.aload_n 0, 1) := by decide +kernel
theorem dX5_why_111 : decode cX5_why 111 = .ok (.getfield 29, 3) := by decide +kernel
theorem dX5_why_114 : decode cX5_why 114 = .ok (.getfield 276, 3) := by decide +kernel
theorem dX5_why_117 : decode cX5_why 117 = .ok (.goto 5, 3) := by decide +kernel
theorem dX5_why_120 : decode cX5_why 120 = .ok (.iload 6, 2) := by decide +kernel
theorem dX5_why_122 : decode cX5_why 122 = .ok (.ireturn, 1) := by decide +kernel
set_option maxRecDepth 20000 in
theorem ggX5_firstStart_X4_isRow : GoodIn wsX5_firstStart wsX4_isRow := goodIn_r _ [15, 16, 156, 157, 158, 159] (by decide +kernel) (by decide +kernel)
set_option maxRecDepth 20000 in
theorem gX5_firstStart_X4_isRow : GoodIn wsX5_firstStart (wsV RX5 116 RX4 yX4_isRow wsX4_isRow) := goodIn_app (goodIn_of _ (by decide +kernel)) ggX5_firstStart_X4_isRow
set_option maxRecDepth 20000 in
theorem ggX5_firstStart_X5_isDay : GoodIn wsX5_firstStart wsX5_isDay := goodIn_r _ [20, 21, 22, 19, 23] (by decide +kernel) (by decide +kernel)
set_option maxRecDepth 20000 in
theorem gX5_firstStart_X5_isDay : GoodIn wsX5_firstStart (va_wsS RX5 108 yX5_isDay wsX5_isDay) := goodIn_app (goodIn_of _ (by decide +kernel)) ggX5_firstStart_X5_isDay
set_option maxRecDepth 20000 in
theorem ggX5_firstStart_X5_isMinute : GoodIn wsX5_firstStart wsX5_isMinute := goodIn_r _ [26, 21, 22, 19, 23] (by decide +kernel) (by decide +kernel)
set_option maxRecDepth 20000 in
theorem gX5_firstStart_X5_isMinute : GoodIn wsX5_firstStart (va_wsS RX5 215 yX5_isMinute wsX5_isMinute) := goodIn_app (goodIn_of _ (by decide +kernel)) ggX5_firstStart_X5_isMinute
set_option maxRecDepth 20000 in
theorem ggX5_firstStart_X2_takeUp : GoodIn wsX5_firstStart wsX2_takeUp := goodIn_ca (goodIn_r _ [31, 32, 33, 34, 35, 36, 37, 38, 39, 40, 41, 42, 43, 44, 14, 45, 46, 47, 48, 49, 50, 51, 16, 52, 53, 54, 55, 56, 57, 58, 59, 60, 61, 62, 63, 30, 64, 65, 66, 67, 68, 69, 70, 71, 72, 73, 74, 75, 160, 161, 162, 163, 148, 149, 150, 151, 152, 153, 154, 155, 156, 157, 158, 159] (by decide +kernel) (by decide +kernel)) (goodIn_sub (fun _ h => List.mem_cons_of_mem _ (List.mem_append_right _ h)) (by decide +kernel))
set_option maxRecDepth 20000 in
theorem gX5_firstStart_X2_takeUp : GoodIn wsX5_firstStart (wsV RX5 265 RX2 yX2_takeUp wsX2_takeUp) := goodIn_app (goodIn_of _ (by decide +kernel)) ggX5_firstStart_X2_takeUp
set_option maxRecDepth 20000 in
theorem ggX5_firstStart_X3_newMinutes : GoodIn wsX5_firstStart wsX3_newMinutes := goodIn_ca (goodIn_r _ [79, 80, 81, 82, 83, 39, 84, 41, 85, 42, 43, 44, 14, 45, 46, 47, 86, 53, 54, 55, 16, 87, 88, 89, 90, 91, 92, 93, 94, 95, 96, 97, 98, 99, 100, 101, 102, 103, 104, 148, 149, 150, 151, 152, 153, 154, 155, 156, 157, 158, 159] (by decide +kernel) (by decide +kernel)) (goodIn_sub (fun _ h => List.mem_cons_of_mem _ (List.mem_append_right _ h)) (by decide +kernel))
set_option maxRecDepth 20000 in
theorem gX5_firstStart_X3_newMinutes : GoodIn wsX5_firstStart (wsV RX5 269 RX3 yX3_newMinutes wsX3_newMinutes) := goodIn_app (goodIn_of _ (by decide +kernel)) ggX5_firstStart_X3_newMinutes
set_option maxRecDepth 20000 in
theorem ggX5_firstStart_X2_firstBroken : GoodIn wsX5_firstStart wsX2_firstBroken := goodIn_ca (goodIn_r _ [108, 109, 32, 65, 33, 110, 66, 43, 44, 14, 45, 46, 47, 36, 37, 38, 39, 40, 41, 42, 111, 112, 113, 30, 114, 115, 116, 117, 118, 119, 120, 121, 122, 123, 124, 34, 52, 53, 54, 55, 16, 125, 126, 127, 128, 129, 130, 131, 132, 133, 134, 135, 136, 148, 149, 150, 151, 152, 153, 154, 155, 160, 161, 162, 163, 156, 157, 158, 159] (by decide +kernel) (by decide +kernel)) (goodIn_sub (fun _ h => List.mem_cons_of_mem _ (List.mem_append_right _ h)) (by decide +kernel))
set_option maxRecDepth 20000 in
theorem gX5_firstStart_X2_firstBroken : GoodIn wsX5_firstStart (wsV RX5 272 RX2 yX2_firstBroken wsX2_firstBroken) := goodIn_app (goodIn_of _ (by decide +kernel)) ggX5_firstStart_X2_firstBroken
theorem dX5_firstStart_0 : decode cX5_firstStart 0 = .ok (.aload_n 0, 1) := by decide +kernel
theorem dX5_firstStart_1 : decode cX5_firstStart 1 = .ok (.getfield 10, 3) := by decide +kernel
theorem dX5_firstStart_4 : decode cX5_firstStart 4 = .ok (.getfield 75, 3) := by decide +kernel
theorem dX5_firstStart_7 : decode cX5_firstStart 7 = .ok (.iload_n 1, 1) := by decide +kernel
theorem dX5_firstStart_8 : decode cX5_firstStart 8 = .ok (.invokevirtual 116, 3) := by decide +kernel
theorem dX5_firstStart_11 : decode cX5_firstStart 11 = .ok (.ifCond .eq 17, 3) := by decide +kernel
theorem dX5_firstStart_14 : decode cX5_firstStart 14 = .ok (.aload_n 0, 1) := by decide +kernel
theorem dX5_firstStart_15 : decode cX5_firstStart 15 = .ok (.getfield 10, 3) := by decide +kernel
theorem dX5_firstStart_18 : decode cX5_firstStart 18 = .ok (.getfield 111, 3) := by decide +kernel
theorem dX5_firstStart_21 : decode cX5_firstStart 21 = .ok (.iload_n 2, 1) := by decide +kernel
theorem dX5_firstStart_22 : decode cX5_firstStart 22 = .ok (.invokevirtual 116, 3) := by decide +kernel
theorem dX5_firstStart_25 : decode cX5_firstStart 25 = .ok (.ifCond .ne 13, 3) := by decide +kernel
theorem dX5_firstStart_28 : decode cX5_firstStart 28 = .ok (.new 119, 3) := by decide +kernel
theorem dX5_firstStart_31 : decode cX5_firstStart 31 = .ok (.dup, 1) := by decide +kernel
theorem dX5_firstStart_32 : decode cX5_firstStart 32 = .ok (.ldc 198, 2) := by decide +kernel
theorem dX5_firstStart_34 : decode cX5_firstStart 34 = .ok (.invokespecial 123, 3) := by decide +kernel
theorem dX5_firstStart_37 : decode cX5_firstStart 37 = .ok (.athrow, 1) := by decide +kernel
theorem dX5_firstStart_38 : decode cX5_firstStart 38 = .ok (.iload_n 3, 1) := by decide +kernel
theorem dX5_firstStart_39 : decode cX5_firstStart 39 = .ok (.invokestatic 108, 3) := by decide +kernel
theorem dX5_firstStart_42 : decode cX5_firstStart 42 = .ok (.ifCond .eq 11, 3) := by decide +kernel
theorem dX5_firstStart_45 : decode cX5_firstStart 45 = .ok (.iload 4, 2) := by decide +kernel
theorem dX5_firstStart_47 : decode cX5_firstStart 47 = .ok (.invokestatic 215, 3) := by decide +kernel
theorem dX5_firstStart_50 : decode cX5_firstStart 50 = .ok (.ifCond .ne 13, 3) := by decide +kernel
theorem dX5_firstStart_53 : decode cX5_firstStart 53 = .ok (.new 68, 3) := by decide +kernel
theorem dX5_firstStart_56 : decode cX5_firstStart 56 = .ok (.dup, 1) := by decide +kernel
theorem dX5_firstStart_57 : decode cX5_firstStart 57 = .ok (.ldc 200, 2) := by decide +kernel
theorem dX5_firstStart_59 : decode cX5_firstStart 59 = .ok (.invokespecial 72, 3) := by decide +kernel
theorem dX5_firstStart_62 : decode cX5_firstStart 62 = .ok (.athrow, 1) := by decide +kernel
theorem dX5_firstStart_63 : decode cX5_firstStart 63 = .ok (.aload_n 0, 1) := by decide +kernel
theorem dX5_firstStart_64 : decode cX5_firstStart 64 = .ok (.getfield 29, 3) := by decide +kernel
theorem dX5_firstStart_67 : decode cX5_firstStart 67 = .ok (.aload_n 0, 1) := by decide +kernel
theorem dX5_firstStart_68 : decode cX5_firstStart 68 = .ok (.getfield 10, 3) := by decide +kernel
theorem dX5_firstStart_71 : decode cX5_firstStart 71 = .ok (.iconst (-1), 1) := by decide +kernel
theorem dX5_firstStart_72 : decode cX5_firstStart 72 = .ok (.iload_n 2, 1) := by decide +kernel
theorem dX5_firstStart_73 : decode cX5_firstStart 73 = .ok (.iload_n 3, 1) := by decide +kernel
theorem dX5_firstStart_74 : decode cX5_firstStart 74 = .ok (.invokevirtual 265, 3) := by decide +kernel
theorem dX5_firstStart_77 : decode cX5_firstStart 77 = .ok (.aload_n 0, 1) := by decide +kernel
theorem dX5_firstStart_78 : decode cX5_firstStart 78 = .ok (.getfield 10, 3) := by decide +kernel
theorem dX5_firstStart_81 : decode cX5_firstStart 81 = .ok (.iload_n 2, 1) := by decide +kernel
theorem dX5_firstStart_82 : decode cX5_firstStart 82 = .ok (.iload_n 3, 1) := by decide +kernel
theorem dX5_firstStart_83 : decode cX5_firstStart 83 = .ok (.invokevirtual 269, 3) := by decide +kernel
theorem dX5_firstStart_86 : decode cX5_firstStart 86 = .ok (.istore 5, 2) := by decide +kernel
theorem dX5_firstStart_88 : decode cX5_firstStart 88 = .ok (.iload 4, 2) := by decide +kernel
theorem dX5_firstStart_90 : decode cX5_firstStart 90 = .ok (.istore 6, 2) := by decide +kernel
theorem dX5_firstStart_92 : decode cX5_firstStart 92 = .ok (.iload 6, 2) := by decide +kernel
theorem dX5_firstStart_94 : decode cX5_firstStart 94 = .ok (.sipush 960, 3) := by decide +kernel
theorem dX5_firstStart_97 : decode cX5_firstStart 97 = .ok (.if_icmp .ge 34, 3) := by decide +kernel
theorem dX5_firstStart_100 : decode cX5_firstStart 100 = .ok (.aload_n 0, 1) := by decide +kernel
theorem dX5_firstStart_101 : decode cX5_firstStart 101 = .ok (.getfield 29, 3) := by decide +kernel
theorem dX5_firstStart_104 : decode cX5_firstStart 104 = .ok (.aload_n 0, 1) := by decide +kernel
theorem dX5_firstStart_105 : decode cX5_firstStart 105 = .ok (.getfield 10, 3) := by decide +kernel
theorem dX5_firstStart_108 : decode cX5_firstStart 108 = .ok (.iload_n 1, 1) := by decide +kernel
theorem dX5_firstStart_109 : decode cX5_firstStart 109 = .ok (.iload 6, 2) := by decide +kernel
theorem dX5_firstStart_111 : decode cX5_firstStart 111 = .ok (.iload 6, 2) := by decide +kernel
theorem dX5_firstStart_113 : decode cX5_firstStart 113 = .ok (.iload 5, 2) := by decide +kernel
theorem dX5_firstStart_115 : decode cX5_firstStart 115 = .ok (.iadd, 1) := by decide +kernel
theorem dX5_firstStart_116 : decode cX5_firstStart 116 = .ok (.invokevirtual 272, 3) := by decide +kernel
theorem dX5_firstStart_119 : decode cX5_firstStart 119 = .ok (.ifCond .ne 6, 3) := by decide +kernel
theorem dX5_firstStart_122 : decode cX5_firstStart 122 = .ok (.iload 6, 2) := by decide +kernel
theorem dX5_firstStart_124 : decode cX5_firstStart 124 = .ok (.ireturn, 1) := by decide +kernel
theorem dX5_firstStart_125 : decode cX5_firstStart 125 = .ok (.iinc 6 1, 3) := by decide +kernel
theorem dX5_firstStart_128 : decode cX5_firstStart 128 = .ok (.goto (-36), 3) := by decide +kernel
theorem dX5_firstStart_131 : decode cX5_firstStart 131 = .ok (.new 171, 3) := by decide +kernel
theorem dX5_firstStart_134 : decode cX5_firstStart 134 = .ok (.dup, 1) := by decide +kernel
theorem dX5_firstStart_135 : decode cX5_firstStart 135 = .ok (.ldc_w 279, 3) := by decide +kernel
theorem dX5_firstStart_138 : decode cX5_firstStart 138 = .ok (.invokespecial 175, 3) := by decide +kernel
theorem dX5_firstStart_141 : decode cX5_firstStart 141 = .ok (.athrow, 1) := by decide +kernel
set_option maxRecDepth 20000 in
theorem ggX5_fail_X5_faultOfFail : GoodIn wsX5_fail wsX5_faultOfFail := goodIn_ca (goodIn_r _ [13, 8, 14, 15, 16, 17, 18, 19, 20, 21, 22, 23, 12, 24, 25, 26, 27, 28, 29, 30, 193, 194, 195, 196, 197, 198, 199, 200, 201, 202, 203, 204, 205, 206, 207, 208, 209, 210, 211, 212, 213, 214, 215] (by decide +kernel) (by decide +kernel)) (goodIn_sub (fun _ h => List.mem_cons_of_mem _ (List.mem_append_right _ h)) (by decide +kernel))
set_option maxRecDepth 20000 in
theorem gX5_fail_X5_faultOfFail : GoodIn wsX5_fail (wsV RX5 281 RX5 yX5_faultOfFail wsX5_faultOfFail) := goodIn_app (goodIn_of _ (by decide +kernel)) ggX5_fail_X5_faultOfFail
set_option maxRecDepth 20000 in
theorem ggX5_fail_X0_keep : GoodIn wsX5_fail wsX0_keep := goodIn_r _ [35, 36, 37, 38, 34, 39, 40, 41, 42, 43, 44, 45, 46, 47, 48, 49, 50, 51, 52, 53, 54, 55, 56, 57, 19, 58, 21, 30, 59, 60, 61, 62, 63, 64, 65, 66, 67, 68, 69, 70, 71, 72, 216, 217, 218, 204, 205, 206, 207, 208, 209, 210, 211, 212, 213, 214, 215] (by decide +kernel) (by decide +kernel)
set_option maxRecDepth 20000 in
theorem gX5_fail_X0_keep : GoodIn wsX5_fail (wsV RX5 90 RX0 yX0_keep wsX0_keep) := goodIn_app (goodIn_of _ (by decide +kernel)) ggX5_fail_X0_keep
set_option maxRecDepth 20000 in
theorem ggX5_fail_X5_closeHall : GoodIn wsX5_fail wsX5_closeHall := goodIn_ca (goodIn_r _ [76, 8, 14, 77, 78, 79, 80, 19, 81, 29, 30, 82, 83, 84, 12, 85, 86, 87, 88, 89, 90, 21, 91, 92, 93, 45, 94, 50, 95, 96, 97, 98, 99, 26, 27, 28, 100, 101, 102, 103, 25, 104, 105, 106, 107, 108, 109, 110, 111, 112, 113, 114, 115, 116, 117, 118, 119, 120, 121, 122, 52, 123, 124, 125, 126, 127, 128, 129, 130, 131, 132, 133, 134, 135, 136, 137, 138, 139, 140, 141, 142, 143, 144, 145, 146, 147, 148, 149, 22, 23, 24, 150, 151, 152, 153, 154, 155, 156, 157, 158, 159, 160, 161, 162, 163, 164, 47, 165, 166, 167, 168, 169, 170, 171, 172, 173, 174, 175, 176, 177, 178, 61, 179, 180, 181, 182, 183, 184, 185, 186, 187, 188, 189, 190, 191, 192, 54, 193, 194, 195, 196, 197, 198, 199, 200, 201, 202, 203, 204, 205, 206, 207, 208, 209, 210, 211, 212, 213, 214, 215, 219, 220, 221, 222] (by decide +kernel) (by decide +kernel)) (goodIn_sub (fun _ h => List.mem_cons_of_mem _ (List.mem_append_right _ h)) (by decide +kernel))
set_option maxRecDepth 20000 in
theorem gX5_fail_X5_closeHall : GoodIn wsX5_fail (wsV RX5 288 RX5 yX5_closeHall wsX5_closeHall) := goodIn_app (goodIn_of _ (by decide +kernel)) ggX5_fail_X5_closeHall
theorem dX5_fail_0 : decode cX5_fail 0 = .ok (.aload_n 0, 1) := by decide +kernel
theorem dX5_fail_1 : decode cX5_fail 1 = .ok (.iload_n 1, 1) := by decide +kernel
theorem dX5_fail_2 : decode cX5_fail 2 = .ok (.iload_n 2, 1) := by decide +kernel
theorem dX5_fail_3 : decode cX5_fail 3 = .ok (.invokevirtual 281, 3) := by decide +kernel
theorem dX5_fail_6 : decode cX5_fail 6 = .ok (.istore_n 3, 1) := by decide +kernel
theorem dX5_fail_7 : decode cX5_fail 7 = .ok (.iload_n 3, 1) := by decide +kernel
theorem dX5_fail_8 : decode cX5_fail 8 = .ok (.iconst 1, 1) := by decide +kernel
theorem dX5_fail_9 : decode cX5_fail 9 = .ok (.if_icmp .ne 13, 3) := by decide +kernel
theorem dX5_fail_12 : decode cX5_fail 12 = .ok (.new 119, 3) := by decide +kernel
theorem dX5_fail_15 : decode cX5_fail 15 = .ok (.dup, 1) := by decide +kernel
theorem dX5_fail_16 : decode cX5_fail 16 = .ok (.ldc 159, 2) := by decide +kernel
theorem dX5_fail_18 : decode cX5_fail 18 = .ok (.invokespecial 123, 3) := by decide +kernel
theorem dX5_fail_21 : decode cX5_fail 21 = .ok (.athrow, 1) := by decide +kernel
theorem dX5_fail_22 : decode cX5_fail 22 = .ok (.iload_n 3, 1) := by decide +kernel
theorem dX5_fail_23 : decode cX5_fail 23 = .ok (.iconst 2, 1) := by decide +kernel
theorem dX5_fail_24 : decode cX5_fail 24 = .ok (.if_icmp .ne 14, 3) := by decide +kernel
theorem dX5_fail_27 : decode cX5_fail 27 = .ok (.new 68, 3) := by decide +kernel
theorem dX5_fail_30 : decode cX5_fail 30 = .ok (.dup, 1) := by decide +kernel
theorem dX5_fail_31 : decode cX5_fail 31 = .ok (.ldc_w 284, 3) := by decide +kernel
theorem dX5_fail_34 : decode cX5_fail 34 = .ok (.invokespecial 72, 3) := by decide +kernel
theorem dX5_fail_37 : decode cX5_fail 37 = .ok (.athrow, 1) := by decide +kernel
theorem dX5_fail_38 : decode cX5_fail 38 = .ok (.iload_n 3, 1) := by decide +kernel
theorem dX5_fail_39 : decode cX5_fail 39 = .ok (.iconst 3, 1) := by decide +kernel
theorem dX5_fail_40 : decode cX5_fail 40 = .ok (.if_icmp .ne 14, 3) := by decide +kernel
theorem dX5_fail_43 : decode cX5_fail 43 = .ok (.new 85, 3) := by decide +kernel
theorem dX5_fail_46 : decode cX5_fail 46 = .ok (.dup, 1) := by decide +kernel
theorem dX5_fail_47 : decode cX5_fail 47 = .ok (.ldc_w 286, 3) := by decide +kernel
theorem dX5_fail_50 : decode cX5_fail 50 = .ok (.invokespecial 89, 3) := by decide +kernel
theorem dX5_fail_53 : decode cX5_fail 53 = .ok (.athrow, 1) := by decide +kernel
theorem dX5_fail_54 : decode cX5_fail 54 = .ok (.aload_n 0, 1) := by decide +kernel
theorem dX5_fail_55 : decode cX5_fail 55 = .ok (.getfield 22, 3) := by decide +kernel
theorem dX5_fail_58 : decode cX5_fail 58 = .ok (.aload_n 0, 1) := by decide +kernel
theorem dX5_fail_59 : decode cX5_fail 59 = .ok (.getfield 10, 3) := by decide +kernel
theorem dX5_fail_62 : decode cX5_fail 62 = .ok (.invokevirtual 90, 3) := by decide +kernel
theorem dX5_fail_65 : decode cX5_fail 65 = .ok (.aload_n 0, 1) := by decide +kernel
theorem dX5_fail_66 : decode cX5_fail 66 = .ok (.iload_n 1, 1) := by decide +kernel
theorem dX5_fail_67 : decode cX5_fail 67 = .ok (.iload_n 2, 1) := by decide +kernel
theorem dX5_fail_68 : decode cX5_fail 68 = .ok (.invokevirtual 288, 3) := by decide +kernel
theorem dX5_fail_71 : decode cX5_fail 71 = .ok (.ireturn, 1) := by decide +kernel
set_option maxRecDepth 20000 in
theorem ggX5_reopen_X4_isRow : GoodIn wsX5_reopen wsX4_isRow := goodIn_r _ [12, 13, 85, 86, 87, 88] (by decide +kernel) (by decide +kernel)
set_option maxRecDepth 20000 in
theorem gX5_reopen_X4_isRow : GoodIn wsX5_reopen (wsV RX5 116 RX4 yX4_isRow wsX4_isRow) := goodIn_app (goodIn_of _ (by decide +kernel)) ggX5_reopen_X4_isRow
set_option maxRecDepth 20000 in
theorem ggX5_reopen_X4_get : GoodIn wsX5_reopen wsX4_get := goodIn_ca (goodIn_r _ [17, 18, 19, 85, 86, 87, 88] (by decide +kernel) (by decide +kernel)) (goodIn_sub (fun _ h => List.mem_cons_of_mem _ (List.mem_append_right _ h)) (by decide +kernel))
set_option maxRecDepth 20000 in
theorem gX5_reopen_X4_get : GoodIn wsX5_reopen (wsV RX5 126 RX4 yX4_get wsX4_get) := goodIn_app (goodIn_of _ (by decide +kernel)) ggX5_reopen_X4_get
set_option maxRecDepth 20000 in
theorem ggX5_reopen_X0_keep : GoodIn wsX5_reopen wsX0_keep := goodIn_r _ [24, 25, 26, 27, 23, 28, 29, 30, 31, 32, 33, 34, 35, 36, 37, 38, 39, 40, 41, 42, 43, 44, 45, 46, 11, 47, 13, 19, 48, 49, 50, 51, 52, 53, 54, 55, 56, 57, 58, 59, 60, 61, 89, 90, 91, 77, 78, 79, 80, 81, 82, 83, 84, 85, 86, 87, 88] (by decide +kernel) (by decide +kernel)
set_option maxRecDepth 20000 in
theorem gX5_reopen_X0_keep : GoodIn wsX5_reopen (wsV RX5 90 RX0 yX0_keep wsX0_keep) := goodIn_app (goodIn_of _ (by decide +kernel)) ggX5_reopen_X0_keep
set_option maxRecDepth 20000 in
theorem ggX5_reopen_X4_put : GoodIn wsX5_reopen wsX4_put := goodIn_ca (goodIn_r _ [65, 18, 19, 85, 86, 87, 88] (by decide +kernel) (by decide +kernel)) (goodIn_sub (fun _ h => List.mem_cons_of_mem _ (List.mem_append_right _ h)) (by decide +kernel))
set_option maxRecDepth 20000 in
theorem gX5_reopen_X4_put : GoodIn wsX5_reopen (wsV RX5 97 RX4 yX4_put wsX4_put) := goodIn_app (goodIn_of _ (by decide +kernel)) ggX5_reopen_X4_put
theorem dX5_reopen_0 : decode cX5_reopen 0 = .ok (.aload_n 0, 1) := by decide +kernel
theorem dX5_reopen_1 : decode cX5_reopen 1 = .ok (.getfield 10, 3) := by decide +kernel
theorem dX5_reopen_4 : decode cX5_reopen 4 = .ok (.getfield 75, 3) := by decide +kernel
theorem dX5_reopen_7 : decode cX5_reopen 7 = .ok (.iload_n 1, 1) := by decide +kernel
theorem dX5_reopen_8 : decode cX5_reopen 8 = .ok (.invokevirtual 116, 3) := by decide +kernel
theorem dX5_reopen_11 : decode cX5_reopen 11 = .ok (.ifCond .ne 13, 3) := by decide +kernel
theorem dX5_reopen_14 : decode cX5_reopen 14 = .ok (.new 119, 3) := by decide +kernel
theorem dX5_reopen_17 : decode cX5_reopen 17 = .ok (.dup, 1) := by decide +kernel
theorem dX5_reopen_18 : decode cX5_reopen 18 = .ok (.ldc 159, 2) := by decide +kernel
theorem dX5_reopen_20 : decode cX5_reopen 20 = .ok (.invokespecial 123, 3) := by decide +kernel
theorem dX5_reopen_23 : decode cX5_reopen 23 = .ok (.athrow, 1) := by decide +kernel
theorem dX5_reopen_24 : decode cX5_reopen 24 = .ok (.aload_n 0, 1) := by decide +kernel
theorem dX5_reopen_25 : decode cX5_reopen 25 = .ok (.getfield 10, 3) := by decide +kernel
theorem dX5_reopen_28 : decode cX5_reopen 28 = .ok (.getfield 75, 3) := by decide +kernel
theorem dX5_reopen_31 : decode cX5_reopen 31 = .ok (.iload_n 1, 1) := by decide +kernel
theorem dX5_reopen_32 : decode cX5_reopen 32 = .ok (.iconst 3, 1) := by decide +kernel
theorem dX5_reopen_33 : decode cX5_reopen 33 = .ok (.invokevirtual 126, 3) := by decide +kernel
theorem dX5_reopen_36 : decode cX5_reopen 36 = .ok (.istore_n 2, 1) := by decide +kernel
theorem dX5_reopen_37 : decode cX5_reopen 37 = .ok (.iload_n 2, 1) := by decide +kernel
theorem dX5_reopen_38 : decode cX5_reopen 38 = .ok (.iconst (-1), 1) := by decide +kernel
theorem dX5_reopen_39 : decode cX5_reopen 39 = .ok (.if_icmp .ne 14, 3) := by decide +kernel
theorem dX5_reopen_42 : decode cX5_reopen 42 = .ok (.new 85, 3) := by decide +kernel
theorem dX5_reopen_45 : decode cX5_reopen 45 = .ok (.dup, 1) := by decide +kernel
theorem dX5_reopen_46 : decode cX5_reopen 46 = .ok (.ldc_w 291, 3) := by decide +kernel
theorem dX5_reopen_49 : decode cX5_reopen 49 = .ok (.invokespecial 89, 3) := by decide +kernel
theorem dX5_reopen_52 : decode cX5_reopen 52 = .ok (.athrow, 1) := by decide +kernel
theorem dX5_reopen_53 : decode cX5_reopen 53 = .ok (.aload_n 0, 1) := by decide +kernel
theorem dX5_reopen_54 : decode cX5_reopen 54 = .ok (.getfield 22, 3) := by decide +kernel
theorem dX5_reopen_57 : decode cX5_reopen 57 = .ok (.aload_n 0, 1) := by decide +kernel
theorem dX5_reopen_58 : decode cX5_reopen 58 = .ok (.getfield 10, 3) := by decide +kernel
theorem dX5_reopen_61 : decode cX5_reopen 61 = .ok (.invokevirtual 90, 3) := by decide +kernel
theorem dX5_reopen_64 : decode cX5_reopen 64 = .ok (.aload_n 0, 1) := by decide +kernel
theorem dX5_reopen_65 : decode cX5_reopen 65 = .ok (.getfield 10, 3) := by decide +kernel
theorem dX5_reopen_68 : decode cX5_reopen 68 = .ok (.getfield 75, 3) := by decide +kernel
theorem dX5_reopen_71 : decode cX5_reopen 71 = .ok (.iload_n 1, 1) := by decide +kernel
theorem dX5_reopen_72 : decode cX5_reopen 72 = .ok (.iconst 3, 1) := by decide +kernel
theorem dX5_reopen_73 : decode cX5_reopen 73 = .ok (.iconst (-1), 1) := by decide +kernel
theorem dX5_reopen_74 : decode cX5_reopen 74 = .ok (.invokevirtual 97, 3) := by decide +kernel
theorem dX5_reopen_77 : decode cX5_reopen 77 = .ok (.iload_n 2, 1) := by decide +kernel
theorem dX5_reopen_78 : decode cX5_reopen 78 = .ok (.ireturn, 1) := by decide +kernel
set_option maxRecDepth 20000 in
theorem ggX5_line_X4_isRow : GoodIn wsX5_line wsX4_isRow := goodIn_r _ [11, 12, 42, 43, 44, 45] (by decide +kernel) (by decide +kernel)
set_option maxRecDepth 20000 in
theorem gX5_line_X4_isRow : GoodIn wsX5_line (wsV RX5 116 RX4 yX4_isRow wsX4_isRow) := goodIn_app (goodIn_of _ (by decide +kernel)) ggX5_line_X4_isRow
set_option maxRecDepth 20000 in
theorem ggX5_line_X5_isWithin : GoodIn wsX5_line wsX5_isWithin := goodIn_r _ [16] (by decide +kernel) (by decide +kernel)
set_option maxRecDepth 20000 in
theorem gX5_line_X5_isWithin : GoodIn wsX5_line (va_wsS RX5 64 yX5_isWithin wsX5_isWithin) := goodIn_app (goodIn_of _ (by decide +kernel)) ggX5_line_X5_isWithin
set_option maxRecDepth 20000 in
theorem ggX5_line_X4_get : GoodIn wsX5_line wsX4_get := goodIn_ca (goodIn_r _ [20, 21, 22, 42, 43, 44, 45] (by decide +kernel) (by decide +kernel)) (goodIn_sub (fun _ h => List.mem_cons_of_mem _ (List.mem_append_right _ h)) (by decide +kernel))
set_option maxRecDepth 20000 in
theorem gX5_line_X4_get : GoodIn wsX5_line (wsV RX5 126 RX4 yX4_get wsX4_get) := goodIn_app (goodIn_of _ (by decide +kernel)) ggX5_line_X4_get
theorem dX5_line_0 : decode cX5_line 0 = .ok (.aload_n 0, 1) := by decide +kernel
theorem dX5_line_1 : decode cX5_line 1 = .ok (.getfield 10, 3) := by decide +kernel
theorem dX5_line_4 : decode cX5_line 4 = .ok (.getfield 293, 3) := by decide +kernel
theorem dX5_line_7 : decode cX5_line 7 = .ok (.iload_n 1, 1) := by decide +kernel
theorem dX5_line_8 : decode cX5_line 8 = .ok (.invokevirtual 116, 3) := by decide +kernel
theorem dX5_line_11 : decode cX5_line 11 = .ok (.ifCond .ne 14, 3) := by decide +kernel
theorem dX5_line_14 : decode cX5_line 14 = .ok (.new 171, 3) := by decide +kernel
theorem dX5_line_17 : decode cX5_line 17 = .ok (.dup, 1) := by decide +kernel
theorem dX5_line_18 : decode cX5_line 18 = .ok (.ldc_w 296, 3) := by decide +kernel
theorem dX5_line_21 : decode cX5_line 21 = .ok (.invokespecial 175, 3) := by decide +kernel
theorem dX5_line_24 : decode cX5_line 24 = .ok (.athrow, 1) := by decide +kernel
theorem dX5_line_25 : decode cX5_line 25 = .ok (.iload_n 2, 1) := by decide +kernel
theorem dX5_line_26 : decode cX5_line 26 = .ok (.iconst 0, 1) := by decide +kernel
theorem dX5_line_27 : decode cX5_line 27 = .ok (.iconst 4, 1) := by decide +kernel
theorem dX5_line_28 : decode cX5_line 28 = .ok (.invokestatic 64, 3) := by decide +kernel
theorem dX5_line_31 : decode cX5_line 31 = .ok (.ifCond .ne 14, 3) := by decide +kernel
theorem dX5_line_34 : decode cX5_line 34 = .ok (.new 68, 3) := by decide +kernel
theorem dX5_line_37 : decode cX5_line 37 = .ok (.dup, 1) := by decide +kernel
theorem dX5_line_38 : decode cX5_line 38 = .ok (.ldc_w 298, 3) := by decide +kernel
theorem dX5_line_41 : decode cX5_line 41 = .ok (.invokespecial 72, 3) := by decide +kernel
theorem dX5_line_44 : decode cX5_line 44 = .ok (.athrow, 1) := by decide +kernel
theorem dX5_line_45 : decode cX5_line 45 = .ok (.aload_n 0, 1) := by decide +kernel
theorem dX5_line_46 : decode cX5_line 46 = .ok (.getfield 10, 3) := by decide +kernel
theorem dX5_line_49 : decode cX5_line 49 = .ok (.getfield 293, 3) := by decide +kernel
theorem dX5_line_52 : decode cX5_line 52 = .ok (.iload_n 1, 1) := by decide +kernel
theorem dX5_line_53 : decode cX5_line 53 = .ok (.iload_n 2, 1) := by decide +kernel
theorem dX5_line_54 : decode cX5_line 54 = .ok (.invokevirtual 126, 3) := by decide +kernel
theorem dX5_line_57 : decode cX5_line 57 = .ok (.ireturn, 1) := by decide +kernel
set_option maxRecDepth 20000 in
theorem ggX5_used_X4_isRow : GoodIn wsX5_used wsX4_isRow := goodIn_r _ [12, 13, 89, 90, 91, 92] (by decide +kernel) (by decide +kernel)
set_option maxRecDepth 20000 in
theorem gX5_used_X4_isRow : GoodIn wsX5_used (wsV RX5 116 RX4 yX4_isRow wsX4_isRow) := goodIn_app (goodIn_of _ (by decide +kernel)) ggX5_used_X4_isRow
set_option maxRecDepth 20000 in
theorem ggX5_used_X5_isDay : GoodIn wsX5_used wsX5_isDay := goodIn_r _ [17, 18, 19, 16, 20] (by decide +kernel) (by decide +kernel)
set_option maxRecDepth 20000 in
theorem gX5_used_X5_isDay : GoodIn wsX5_used (va_wsS RX5 108 yX5_isDay wsX5_isDay) := goodIn_app (goodIn_of _ (by decide +kernel)) ggX5_used_X5_isDay
set_option maxRecDepth 20000 in
theorem ggX5_used_X5_isWithin : GoodIn wsX5_used wsX5_isWithin := goodIn_r _ [20] (by decide +kernel) (by decide +kernel)
set_option maxRecDepth 20000 in
theorem gX5_used_X5_isWithin : GoodIn wsX5_used (va_wsS RX5 64 yX5_isWithin wsX5_isWithin) := goodIn_app (goodIn_of _ (by decide +kernel)) ggX5_used_X5_isWithin
set_option maxRecDepth 20000 in
theorem ggX5_used_X3_showAfter : GoodIn wsX5_used wsX3_showAfter := goodIn_ca (goodIn_r _ [25, 26, 27, 28, 29, 11, 30, 13, 31, 32, 33, 34, 35, 36, 37, 38, 39, 24, 40, 81, 82, 83, 84, 85, 86, 87, 88, 89, 90, 91, 92] (by decide +kernel) (by decide +kernel)) (goodIn_sub (fun _ h => List.mem_cons_of_mem _ (List.mem_append_right _ h)) (by decide +kernel))
set_option maxRecDepth 20000 in
theorem gX5_used_X3_showAfter : GoodIn wsX5_used (wsV RX5 302 RX3 yX3_showAfter wsX3_showAfter) := goodIn_app (goodIn_of _ (by decide +kernel)) ggX5_used_X3_showAfter
set_option maxRecDepth 20000 in
theorem ggX5_used_X3_shownMinutes : GoodIn wsX5_used wsX3_shownMinutes := goodIn_ca (goodIn_r _ [44, 26, 27, 28, 29, 11, 30, 13, 37, 38, 39, 24, 40, 31, 32, 33, 34, 35, 36, 45, 46, 47, 48, 81, 82, 83, 84, 85, 86, 87, 88, 89, 90, 91, 92] (by decide +kernel) (by decide +kernel)) (goodIn_sub (fun _ h => List.mem_cons_of_mem _ (List.mem_append_right _ h)) (by decide +kernel))
set_option maxRecDepth 20000 in
theorem gX5_used_X3_shownMinutes : GoodIn wsX5_used (wsV RX5 305 RX3 yX3_shownMinutes wsX3_shownMinutes) := goodIn_app (goodIn_of _ (by decide +kernel)) ggX5_used_X3_shownMinutes
set_option maxRecDepth 20000 in
theorem ggX5_used_X3_cleanedMinutes : GoodIn wsX5_used wsX3_cleanedMinutes := goodIn_ca (goodIn_r _ [52, 26, 53, 54, 55, 56, 27, 28, 29, 11, 30, 13, 37, 38, 39, 24, 40, 31, 32, 33, 34, 35, 36, 57, 58, 59, 60, 61, 81, 82, 83, 84, 85, 86, 87, 88, 89, 90, 91, 92] (by decide +kernel) (by decide +kernel)) (goodIn_sub (fun _ h => List.mem_cons_of_mem _ (List.mem_append_right _ h)) (by decide +kernel))
set_option maxRecDepth 20000 in
theorem gX5_used_X3_cleanedMinutes : GoodIn wsX5_used (wsV RX5 308 RX3 yX3_cleanedMinutes wsX3_cleanedMinutes) := goodIn_app (goodIn_of _ (by decide +kernel)) ggX5_used_X3_cleanedMinutes
set_option maxRecDepth 20000 in
theorem ggX5_used_X4_get : GoodIn wsX5_used wsX4_get := goodIn_ca (goodIn_r _ [34, 35, 36, 89, 90, 91, 92] (by decide +kernel) (by decide +kernel)) (goodIn_sub (fun _ h => List.mem_cons_of_mem _ (List.mem_append_right _ h)) (by decide +kernel))
set_option maxRecDepth 20000 in
theorem gX5_used_X4_get : GoodIn wsX5_used (wsV RX5 126 RX4 yX4_get wsX4_get) := goodIn_app (goodIn_of _ (by decide +kernel)) ggX5_used_X4_get
set_option maxRecDepth 20000 in
theorem ggX5_used_X3_greatestEnd : GoodIn wsX5_used wsX3_greatestEnd := goodIn_ca (goodIn_r _ [66, 26, 67, 68, 55, 69, 27, 28, 29, 11, 30, 13, 37, 38, 39, 24, 40, 31, 32, 33, 34, 35, 36, 81, 82, 83, 84, 85, 86, 87, 88, 89, 90, 91, 92] (by decide +kernel) (by decide +kernel)) (goodIn_sub (fun _ h => List.mem_cons_of_mem _ (List.mem_append_right _ h)) (by decide +kernel))
set_option maxRecDepth 20000 in
theorem gX5_used_X3_greatestEnd : GoodIn wsX5_used (wsV RX5 311 RX3 yX3_greatestEnd wsX3_greatestEnd) := goodIn_app (goodIn_of _ (by decide +kernel)) ggX5_used_X3_greatestEnd
theorem dX5_used_0 : decode cX5_used 0 = .ok (.aload_n 0, 1) := by decide +kernel
theorem dX5_used_1 : decode cX5_used 1 = .ok (.getfield 10, 3) := by decide +kernel
theorem dX5_used_4 : decode cX5_used 4 = .ok (.getfield 75, 3) := by decide +kernel
theorem dX5_used_7 : decode cX5_used 7 = .ok (.iload_n 1, 1) := by decide +kernel
theorem dX5_used_8 : decode cX5_used 8 = .ok (.invokevirtual 116, 3) := by decide +kernel
theorem dX5_used_11 : decode cX5_used 11 = .ok (.ifCond .ne 13, 3) := by decide +kernel
theorem dX5_used_14 : decode cX5_used 14 = .ok (.new 119, 3) := by decide +kernel
theorem dX5_used_17 : decode cX5_used 17 = .ok (.dup, 1) := by decide +kernel
theorem dX5_used_18 : decode cX5_used 18 = .ok (.ldc 159, 2) := by decide +kernel
theorem dX5_used_20 : decode cX5_used 20 = .ok (.invokespecial 123, 3) := by decide +kernel
theorem dX5_used_23 : decode cX5_used 23 = .ok (.athrow, 1) := by decide +kernel
theorem dX5_used_24 : decode cX5_used 24 = .ok (.iload_n 2, 1) := by decide +kernel
theorem dX5_used_25 : decode cX5_used 25 = .ok (.invokestatic 108, 3) := by decide +kernel
theorem dX5_used_28 : decode cX5_used 28 = .ok (.ifCond .eq 12, 3) := by decide +kernel
theorem dX5_used_31 : decode cX5_used 31 = .ok (.iload_n 3, 1) := by decide +kernel
theorem dX5_used_32 : decode cX5_used 32 = .ok (.iconst 0, 1) := by decide +kernel
theorem dX5_used_33 : decode cX5_used 33 = .ok (.iconst 4, 1) := by decide +kernel
theorem dX5_used_34 : decode cX5_used 34 = .ok (.invokestatic 64, 3) := by decide +kernel
theorem dX5_used_37 : decode cX5_used 37 = .ok (.ifCond .ne 14, 3) := by decide +kernel
theorem dX5_used_40 : decode cX5_used 40 = .ok (.new 68, 3) := by decide +kernel
theorem dX5_used_43 : decode cX5_used 43 = .ok (.dup, 1) := by decide +kernel
theorem dX5_used_44 : decode cX5_used 44 = .ok (.ldc_w 300, 3) := by decide +kernel
theorem dX5_used_47 : decode cX5_used 47 = .ok (.invokespecial 72, 3) := by decide +kernel
theorem dX5_used_50 : decode cX5_used 50 = .ok (.athrow, 1) := by decide +kernel
theorem dX5_used_51 : decode cX5_used 51 = .ok (.aload_n 0, 1) := by decide +kernel
theorem dX5_used_52 : decode cX5_used 52 = .ok (.getfield 10, 3) := by decide +kernel
theorem dX5_used_55 : decode cX5_used 55 = .ok (.iload_n 1, 1) := by decide +kernel
theorem dX5_used_56 : decode cX5_used 56 = .ok (.iload_n 2, 1) := by decide +kernel
theorem dX5_used_57 : decode cX5_used 57 = .ok (.iconst (-1), 1) := by decide +kernel
theorem dX5_used_58 : decode cX5_used 58 = .ok (.invokevirtual 302, 3) := by decide +kernel
theorem dX5_used_61 : decode cX5_used 61 = .ok (.istore 4, 2) := by decide +kernel
theorem dX5_used_63 : decode cX5_used 63 = .ok (.iload_n 3, 1) := by decide +kernel
theorem dX5_used_64 : decode cX5_used 64 = .ok (.tableswitch 100 0 3 #[32, 42, 52, 76], 32) := by decide +kernel
theorem dX5_used_96 : decode cX5_used 96 = .ok (.aload_n 0, 1) := by decide +kernel
theorem dX5_used_97 : decode cX5_used 97 = .ok (.getfield 10, 3) := by decide +kernel
theorem dX5_used_100 : decode cX5_used 100 = .ok (.iload_n 1, 1) := by decide +kernel
theorem dX5_used_101 : decode cX5_used 101 = .ok (.iload_n 2, 1) := by decide +kernel
theorem dX5_used_102 : decode cX5_used 102 = .ok (.invokevirtual 305, 3) := by decide +kernel
theorem dX5_used_105 : decode cX5_used 105 = .ok (.ireturn, 1) := by decide +kernel
theorem dX5_used_106 : decode cX5_used 106 = .ok (.aload_n 0, 1) := by decide +kernel
theorem dX5_used_107 : decode cX5_used 107 = .ok (.getfield 10, 3) := by decide +kernel
theorem dX5_used_110 : decode cX5_used 110 = .ok (.iload_n 1, 1) := by decide +kernel
theorem dX5_used_111 : decode cX5_used 111 = .ok (.iload_n 2, 1) := by decide +kernel
theorem dX5_used_112 : decode cX5_used 112 = .ok (.invokevirtual 308, 3) := by decide +kernel
theorem dX5_used_115 : decode cX5_used 115 = .ok (.ireturn, 1) := by decide +kernel
theorem dX5_used_116 : decode cX5_used 116 = .ok (.sipush 960, 3) := by decide +kernel
theorem dX5_used_119 : decode cX5_used 119 = .ok (.aload_n 0, 1) := by decide +kernel
theorem dX5_used_120 : decode cX5_used 120 = .ok (.getfield 10, 3) := by decide +kernel
theorem dX5_used_123 : decode cX5_used 123 = .ok (.iload_n 1, 1) := by decide +kernel
theorem dX5_used_124 : decode cX5_used 124 = .ok (.iload_n 2, 1) := by decide +kernel
theorem dX5_used_125 : decode cX5_used 125 = .ok (.invokevirtual 305, 3) := by decide +kernel
theorem dX5_used_128 : decode cX5_used 128 = .ok (.isub, 1) := by decide +kernel
theorem dX5_used_129 : decode cX5_used 129 = .ok (.aload_n 0, 1) := by decide +kernel
theorem dX5_used_130 : decode cX5_used 130 = .ok (.getfield 10, 3) := by decide +kernel
theorem dX5_used_133 : decode cX5_used 133 = .ok (.iload_n 1, 1) := by decide +kernel
theorem dX5_used_134 : decode cX5_used 134 = .ok (.iload_n 2, 1) := by decide +kernel
theorem dX5_used_135 : decode cX5_used 135 = .ok (.invokevirtual 308, 3) := by decide +kernel
theorem dX5_used_138 : decode cX5_used 138 = .ok (.isub, 1) := by decide +kernel
theorem dX5_used_139 : decode cX5_used 139 = .ok (.ireturn, 1) := by decide +kernel
theorem dX5_used_140 : decode cX5_used 140 = .ok (.iload 4, 2) := by decide +kernel
theorem dX5_used_142 : decode cX5_used 142 = .ok (.iconst (-1), 1) := by decide +kernel
theorem dX5_used_143 : decode cX5_used 143 = .ok (.if_icmp .ne 7, 3) := by decide +kernel
theorem dX5_used_146 : decode cX5_used 146 = .ok (.iconst (-1), 1) := by decide +kernel
theorem dX5_used_147 : decode cX5_used 147 = .ok (.goto 16, 3) := by decide +kernel
theorem dX5_used_150 : decode cX5_used 150 = .ok (.aload_n 0, 1) := by decide +kernel
theorem dX5_used_151 : decode cX5_used 151 = .ok (.getfield 10, 3) := by decide +kernel
theorem dX5_used_154 : decode cX5_used 154 = .ok (.getfield 210, 3) := by decide +kernel
theorem dX5_used_157 : decode cX5_used 157 = .ok (.iload 4, 2) := by decide +kernel
theorem dX5_used_159 : decode cX5_used 159 = .ok (.iconst 3, 1) := by decide +kernel
theorem dX5_used_160 : decode cX5_used 160 = .ok (.invokevirtual 126, 3) := by decide +kernel
theorem dX5_used_163 : decode cX5_used 163 = .ok (.ireturn, 1) := by decide +kernel
theorem dX5_used_164 : decode cX5_used 164 = .ok (.aload_n 0, 1) := by decide +kernel
theorem dX5_used_165 : decode cX5_used 165 = .ok (.getfield 10, 3) := by decide +kernel
theorem dX5_used_168 : decode cX5_used 168 = .ok (.iload_n 1, 1) := by decide +kernel
theorem dX5_used_169 : decode cX5_used 169 = .ok (.iload_n 2, 1) := by decide +kernel
theorem dX5_used_170 : decode cX5_used 170 = .ok (.invokevirtual 311, 3) := by decide +kernel
theorem dX5_used_173 : decode cX5_used 173 = .ok (.ireturn, 1) := by decide +kernel
set_option maxRecDepth 20000 in
theorem ggX5_at_X5_isDay : GoodIn wsX5_at wsX5_isDay := goodIn_r _ [7, 8, 9, 6, 10] (by decide +kernel) (by decide +kernel)
set_option maxRecDepth 20000 in
theorem gX5_at_X5_isDay : GoodIn wsX5_at (va_wsS RX5 108 yX5_isDay wsX5_isDay) := goodIn_app (goodIn_of _ (by decide +kernel)) ggX5_at_X5_isDay
set_option maxRecDepth 20000 in
theorem ggX5_at_X5_isWithin : GoodIn wsX5_at wsX5_isWithin := goodIn_r _ [10] (by decide +kernel) (by decide +kernel)
set_option maxRecDepth 20000 in
theorem gX5_at_X5_isWithin : GoodIn wsX5_at (va_wsS RX5 64 yX5_isWithin wsX5_isWithin) := goodIn_app (goodIn_of _ (by decide +kernel)) ggX5_at_X5_isWithin
set_option maxRecDepth 20000 in
theorem ggX5_at_X3_running : GoodIn wsX5_at wsX3_running := goodIn_ca (goodIn_r _ [15, 16, 17, 18, 19, 20, 21, 22, 23, 24, 25, 14, 26, 27, 28, 29, 30, 31, 32, 33, 34, 35, 36, 37, 38, 39, 40, 41, 42, 43, 44, 45, 46, 47, 48, 49, 50, 51, 52, 53, 54, 55, 56, 57, 58, 59, 60, 61, 62, 63, 64, 65, 66, 90, 91, 92, 93, 94, 95, 96, 97, 98, 99, 100, 101] (by decide +kernel) (by decide +kernel)) (goodIn_sub (fun _ h => List.mem_cons_of_mem _ (List.mem_append_right _ h)) (by decide +kernel))
set_option maxRecDepth 20000 in
theorem gX5_at_X3_running : GoodIn wsX5_at (wsV RX5 314 RX3 yX3_running wsX3_running) := goodIn_app (goodIn_of _ (by decide +kernel)) ggX5_at_X3_running
set_option maxRecDepth 20000 in
theorem ggX5_at_X3_cleanedHalls : GoodIn wsX5_at wsX3_cleanedHalls := goodIn_ca (goodIn_r _ [70, 16, 17, 18, 19, 20, 21, 22, 27, 28, 29, 30, 31, 32, 71, 72, 73, 14, 74, 66, 33, 34, 35, 36, 90, 91, 92, 93, 94, 95, 96, 97, 98, 99, 100, 101] (by decide +kernel) (by decide +kernel)) (goodIn_sub (fun _ h => List.mem_cons_of_mem _ (List.mem_append_right _ h)) (by decide +kernel))
set_option maxRecDepth 20000 in
theorem gX5_at_X3_cleanedHalls : GoodIn wsX5_at (wsV RX5 317 RX3 yX3_cleanedHalls wsX3_cleanedHalls) := goodIn_app (goodIn_of _ (by decide +kernel)) ggX5_at_X3_cleanedHalls
set_option maxRecDepth 20000 in
theorem ggX5_at_X3_firstRunning : GoodIn wsX5_at wsX3_firstRunning := goodIn_ca (goodIn_r _ [78, 16, 17, 18, 19, 20, 21, 22, 23, 24, 25, 14, 26, 27, 28, 29, 30, 31, 32, 33, 34, 35, 36, 90, 91, 92, 93, 94, 95, 96, 97, 98, 99, 100, 101] (by decide +kernel) (by decide +kernel)) (goodIn_sub (fun _ h => List.mem_cons_of_mem _ (List.mem_append_right _ h)) (by decide +kernel))
set_option maxRecDepth 20000 in
theorem gX5_at_X3_firstRunning : GoodIn wsX5_at (wsV RX5 320 RX3 yX3_firstRunning wsX3_firstRunning) := goodIn_app (goodIn_of _ (by decide +kernel)) ggX5_at_X3_firstRunning
theorem dX5_at_0 : decode cX5_at 0 = .ok (.iload_n 1, 1) := by decide +kernel
theorem dX5_at_1 : decode cX5_at 1 = .ok (.invokestatic 108, 3) := by decide +kernel
theorem dX5_at_4 : decode cX5_at 4 = .ok (.ifCond .eq 23, 3) := by decide +kernel
theorem dX5_at_7 : decode cX5_at 7 = .ok (.iload_n 2, 1) := by decide +kernel
theorem dX5_at_8 : decode cX5_at 8 = .ok (.iconst 0, 1) := by decide +kernel
theorem dX5_at_9 : decode cX5_at 9 = .ok (.sipush 1200, 3) := by decide +kernel
theorem dX5_at_12 : decode cX5_at 12 = .ok (.invokestatic 64, 3) := by decide +kernel
theorem dX5_at_15 : decode cX5_at 15 = .ok (.ifCond .eq 12, 3) := by decide +kernel
theorem dX5_at_18 : decode cX5_at 18 = .ok (.iload_n 3, 1) := by decide +kernel
theorem dX5_at_19 : decode cX5_at 19 = .ok (.iconst 0, 1) := by decide +kernel
theorem dX5_at_20 : decode cX5_at 20 = .ok (.iconst 3, 1) := by decide +kernel
theorem dX5_at_21 : decode cX5_at 21 = .ok (.invokestatic 64, 3) := by decide +kernel
theorem dX5_at_24 : decode cX5_at 24 = .ok (.ifCond .ne 13, 3) := by decide +kernel
theorem dX5_at_27 : decode cX5_at 27 = .ok (.new 68, 3) := by decide +kernel
theorem dX5_at_30 : decode cX5_at 30 = .ok (.dup, 1) := by decide +kernel
theorem dX5_at_31 : decode cX5_at 31 = .ok (.ldc 70, 2) := by decide +kernel
theorem dX5_at_33 : decode cX5_at 33 = .ok (.invokespecial 72, 3) := by decide +kernel
theorem dX5_at_36 : decode cX5_at 36 = .ok (.athrow, 1) := by decide +kernel
theorem dX5_at_37 : decode cX5_at 37 = .ok (.iload_n 3, 1) := by decide +kernel
theorem dX5_at_38 : decode cX5_at 38 = .ok (.tableswitch 58 0 2 #[26, 37, 47], 26) := by decide +kernel
theorem dX5_at_64 : decode cX5_at 64 = .ok (.aload_n 0, 1) := by decide +kernel
theorem dX5_at_65 : decode cX5_at 65 = .ok (.getfield 10, 3) := by decide +kernel
theorem dX5_at_68 : decode cX5_at 68 = .ok (.iconst 0, 1) := by decide +kernel
theorem dX5_at_69 : decode cX5_at 69 = .ok (.iload_n 1, 1) := by decide +kernel
theorem dX5_at_70 : decode cX5_at 70 = .ok (.iload_n 2, 1) := by decide +kernel
theorem dX5_at_71 : decode cX5_at 71 = .ok (.invokevirtual 314, 3) := by decide +kernel
theorem dX5_at_74 : decode cX5_at 74 = .ok (.ireturn, 1) := by decide +kernel
theorem dX5_at_75 : decode cX5_at 75 = .ok (.aload_n 0, 1) := by decide +kernel
theorem dX5_at_76 : decode cX5_at 76 = .ok (.getfield 10, 3) := by decide +kernel
theorem dX5_at_79 : decode cX5_at 79 = .ok (.iload_n 1, 1) := by decide +kernel
theorem dX5_at_80 : decode cX5_at 80 = .ok (.iload_n 2, 1) := by decide +kernel
theorem dX5_at_81 : decode cX5_at 81 = .ok (.invokevirtual 317, 3) := by decide +kernel
theorem dX5_at_84 : decode cX5_at 84 = .ok (.ireturn, 1) := by decide +kernel
theorem dX5_at_85 : decode cX5_at 85 = .ok (.aload_n 0, 1) := by decide +kernel
theorem dX5_at_86 : decode cX5_at 86 = .ok (.getfield 10, 3) := by decide +kernel
theorem dX5_at_89 : decode cX5_at 89 = .ok (.iconst 5, 1) := by decide +kernel
theorem dX5_at_90 : decode cX5_at 90 = .ok (.iload_n 1, 1) := by decide +kernel
theorem dX5_at_91 : decode cX5_at 91 = .ok (.iload_n 2, 1) := by decide +kernel
theorem dX5_at_92 : decode cX5_at 92 = .ok (.invokevirtual 314, 3) := by decide +kernel
theorem dX5_at_95 : decode cX5_at 95 = .ok (.ireturn, 1) := by decide +kernel
theorem dX5_at_96 : decode cX5_at 96 = .ok (.aload_n 0, 1) := by decide +kernel
theorem dX5_at_97 : decode cX5_at 97 = .ok (.getfield 10, 3) := by decide +kernel
theorem dX5_at_100 : decode cX5_at 100 = .ok (.iload_n 1, 1) := by decide +kernel
theorem dX5_at_101 : decode cX5_at 101 = .ok (.iload_n 2, 1) := by decide +kernel
theorem dX5_at_102 : decode cX5_at 102 = .ok (.invokevirtual 320, 3) := by decide +kernel
theorem dX5_at_105 : decode cX5_at 105 = .ok (.ireturn, 1) := by decide +kernel
theorem dX5_refusal_0 : decode cX5_refusal 0 = .ok (.aload_n 0, 1) := by decide +kernel
theorem dX5_refusal_1 : decode cX5_refusal 1 = .ok (.getfield 54, 3) := by decide +kernel
theorem dX5_refusal_4 : decode cX5_refusal 4 = .ok (.iconst (-1), 1) := by decide +kernel
theorem dX5_refusal_5 : decode cX5_refusal 5 = .ok (.if_icmp .ne 14, 3) := by decide +kernel
theorem dX5_refusal_8 : decode cX5_refusal 8 = .ok (.new 171, 3) := by decide +kernel
theorem dX5_refusal_11 : decode cX5_refusal 11 = .ok (.dup, 1) := by decide +kernel
theorem dX5_refusal_12 : decode cX5_refusal 12 = .ok (.ldc_w 323, 3) := by decide +kernel
theorem dX5_refusal_15 : decode cX5_refusal 15 = .ok (.invokespecial 175, 3) := by decide +kernel
theorem dX5_refusal_18 : decode cX5_refusal 18 = .ok (.athrow, 1) := by decide +kernel
theorem dX5_refusal_19 : decode cX5_refusal 19 = .ok (.iload_n 1, 1) := by decide +kernel
theorem dX5_refusal_20 : decode cX5_refusal 20 = .ok (.ifCond .eq 10, 3) := by decide +kernel
theorem dX5_refusal_23 : decode cX5_refusal 23 = .ok (.aload_n 0, 1) := by decide +kernel
theorem dX5_refusal_24 : decode cX5_refusal 24 = .ok (.getfield 58, 3) := by decide +kernel
theorem dX5_refusal_27 : decode cX5_refusal 27 = .ok (.goto 7, 3) := by decide +kernel
theorem dX5_refusal_30 : decode cX5_refusal 30 = .ok (.aload_n 0, 1) := by decide +kernel
theorem dX5_refusal_31 : decode cX5_refusal 31 = .ok (.getfield 54, 3) := by decide +kernel
theorem dX5_refusal_34 : decode cX5_refusal 34 = .ok (.ireturn, 1) := by decide +kernel
set_option maxRecDepth 20000 in
theorem ggX5_advance_X5_faultOfAdvance : GoodIn wsX5_advance wsX5_faultOfAdvance := goodIn_r _ [10, 4, 5, 11, 12, 9, 13, 59, 60, 61, 62, 63, 64, 65, 66, 67, 68, 69, 70, 71, 72, 73, 74, 75, 76, 77] (by decide +kernel) (by decide +kernel)
set_option maxRecDepth 20000 in
theorem gX5_advance_X5_faultOfAdvance : GoodIn wsX5_advance (wsV RX5 325 RX5 yX5_faultOfAdvance wsX5_faultOfAdvance) := goodIn_app (goodIn_of _ (by decide +kernel)) ggX5_advance_X5_faultOfAdvance
set_option maxRecDepth 20000 in
theorem ggX5_advance_X0_keep : GoodIn wsX5_advance wsX0_keep := goodIn_r _ [18, 19, 20, 21, 17, 22, 23, 24, 25, 26, 27, 28, 29, 30, 31, 32, 33, 34, 35, 36, 37, 38, 39, 40, 41, 42, 43, 44, 45, 46, 47, 48, 49, 50, 51, 52, 53, 54, 55, 56, 57, 58, 78, 79, 80, 70, 71, 72, 73, 74, 75, 76, 77, 81, 82, 83, 84] (by decide +kernel) (by decide +kernel)
set_option maxRecDepth 20000 in
theorem gX5_advance_X0_keep : GoodIn wsX5_advance (wsV RX5 90 RX0 yX0_keep wsX0_keep) := goodIn_app (goodIn_of _ (by decide +kernel)) ggX5_advance_X0_keep
theorem dX5_advance_0 : decode cX5_advance 0 = .ok (.aload_n 0, 1) := by decide +kernel
theorem dX5_advance_1 : decode cX5_advance 1 = .ok (.iload_n 1, 1) := by decide +kernel
theorem dX5_advance_2 : decode cX5_advance 2 = .ok (.invokevirtual 325, 3) := by decide +kernel
theorem dX5_advance_5 : decode cX5_advance 5 = .ok (.ifCond .eq 14, 3) := by decide +kernel
theorem dX5_advance_8 : decode cX5_advance 8 = .ok (.new 68, 3) := by decide +kernel
theorem dX5_advance_11 : decode cX5_advance 11 = .ok (.dup, 1) := by decide +kernel
theorem dX5_advance_12 : decode cX5_advance 12 = .ok (.ldc_w 328, 3) := by decide +kernel
theorem dX5_advance_15 : decode cX5_advance 15 = .ok (.invokespecial 72, 3) := by decide +kernel
theorem dX5_advance_18 : decode cX5_advance 18 = .ok (.athrow, 1) := by decide +kernel
theorem dX5_advance_19 : decode cX5_advance 19 = .ok (.aload_n 0, 1) := by decide +kernel
theorem dX5_advance_20 : decode cX5_advance 20 = .ok (.getfield 22, 3) := by decide +kernel
theorem dX5_advance_23 : decode cX5_advance 23 = .ok (.aload_n 0, 1) := by decide +kernel
theorem dX5_advance_24 : decode cX5_advance 24 = .ok (.getfield 10, 3) := by decide +kernel
theorem dX5_advance_27 : decode cX5_advance 27 = .ok (.invokevirtual 90, 3) := by decide +kernel
theorem dX5_advance_30 : decode cX5_advance 30 = .ok (.aload_n 0, 1) := by decide +kernel
theorem dX5_advance_31 : decode cX5_advance 31 = .ok (.getfield 10, 3) := by decide +kernel
theorem dX5_advance_34 : decode cX5_advance 34 = .ok (.dup, 1) := by decide +kernel
theorem dX5_advance_35 : decode cX5_advance 35 = .ok (.getfield 330, 3) := by decide +kernel
theorem dX5_advance_38 : decode cX5_advance 38 = .ok (.iload_n 1, 1) := by decide +kernel
theorem dX5_advance_39 : decode cX5_advance 39 = .ok (.iadd, 1) := by decide +kernel
theorem dX5_advance_40 : decode cX5_advance 40 = .ok (.putfield 330, 3) := by decide +kernel
theorem dX5_advance_43 : decode cX5_advance 43 = .ok (.aload_n 0, 1) := by decide +kernel
theorem dX5_advance_44 : decode cX5_advance 44 = .ok (.getfield 10, 3) := by decide +kernel
theorem dX5_advance_47 : decode cX5_advance 47 = .ok (.getfield 330, 3) := by decide +kernel
theorem dX5_advance_50 : decode cX5_advance 50 = .ok (.ireturn, 1) := by decide +kernel
set_option maxRecDepth 20000 in
theorem ggX5_account_X5_isWithin : GoodIn wsX5_account wsX5_isWithin := goodIn_r _ [13] (by decide +kernel) (by decide +kernel)
set_option maxRecDepth 20000 in
theorem gX5_account_X5_isWithin : GoodIn wsX5_account (va_wsS RX5 64 yX5_isWithin wsX5_isWithin) := goodIn_app (goodIn_of _ (by decide +kernel)) ggX5_account_X5_isWithin
set_option maxRecDepth 20000 in
theorem ggX5_account_X4_size : GoodIn wsX5_account wsX4_size := goodIn_r _ [18, 19, 86, 87, 88, 89] (by decide +kernel) (by decide +kernel)
set_option maxRecDepth 20000 in
theorem gX5_account_X4_size : GoodIn wsX5_account (wsV RX5 79 RX4 yX4_size wsX4_size) := goodIn_app (goodIn_of _ (by decide +kernel)) ggX5_account_X4_size
set_option maxRecDepth 20000 in
theorem ggX5_account_X3_total : GoodIn wsX5_account wsX3_total := goodIn_ca (goodIn_r _ [24, 25, 26, 15, 16, 17, 18, 19, 27, 28, 29, 30, 31, 32, 33, 34, 35, 23, 36, 37, 38, 39, 40, 41, 42, 43, 44, 45, 46, 47, 48, 49, 50, 51, 52, 53, 54, 55, 56, 57, 58, 59, 60, 61, 62, 63, 64, 65, 66, 78, 79, 80, 81, 82, 83, 84, 85, 86, 87, 88, 89] (by decide +kernel) (by decide +kernel)) (goodIn_sub (fun _ h => List.mem_cons_of_mem _ (List.mem_append_right _ h)) (by decide +kernel))
set_option maxRecDepth 20000 in
theorem gX5_account_X3_total : GoodIn wsX5_account (wsV RX5 163 RX3 yX3_total wsX3_total) := goodIn_app (goodIn_of _ (by decide +kernel)) ggX5_account_X3_total
theorem dX5_account_0 : decode cX5_account 0 = .ok (.iload_n 1, 1) := by decide +kernel
theorem dX5_account_1 : decode cX5_account 1 = .ok (.iconst 0, 1) := by decide +kernel
theorem dX5_account_2 : decode cX5_account 2 = .ok (.bipush 11, 2) := by decide +kernel
theorem dX5_account_4 : decode cX5_account 4 = .ok (.invokestatic 64, 3) := by decide +kernel
theorem dX5_account_7 : decode cX5_account 7 = .ok (.ifCond .ne 13, 3) := by decide +kernel
theorem dX5_account_10 : decode cX5_account 10 = .ok (.new 68, 3) := by decide +kernel
theorem dX5_account_13 : decode cX5_account 13 = .ok (.dup, 1) := by decide +kernel
theorem dX5_account_14 : decode cX5_account 14 = .ok (.ldc 167, 2) := by decide +kernel
theorem dX5_account_16 : decode cX5_account 16 = .ok (.invokespecial 72, 3) := by decide +kernel
theorem dX5_account_19 : decode cX5_account 19 = .ok (.athrow, 1) := by decide +kernel
theorem dX5_account_20 : decode cX5_account 20 = .ok (.iload_n 1, 1) := by decide +kernel
theorem dX5_account_21 : decode cX5_account 21 = .ok (.tableswitch 199 0 10 #[59, 70, 81, 92, 103, 125, 136, 147, 158, 180, 188], 59) := by decide +kernel
theorem dX5_account_80 : decode cX5_account 80 = .ok (.aload_n 0, 1) := by decide +kernel
theorem dX5_account_81 : decode cX5_account 81 = .ok (.getfield 10, 3) := by decide +kernel
theorem dX5_account_84 : decode cX5_account 84 = .ok (.getfield 75, 3) := by decide +kernel
theorem dX5_account_87 : decode cX5_account 87 = .ok (.invokevirtual 79, 3) := by decide +kernel
theorem dX5_account_90 : decode cX5_account 90 = .ok (.ireturn, 1) := by decide +kernel
theorem dX5_account_91 : decode cX5_account 91 = .ok (.aload_n 0, 1) := by decide +kernel
theorem dX5_account_92 : decode cX5_account 92 = .ok (.getfield 10, 3) := by decide +kernel
theorem dX5_account_95 : decode cX5_account 95 = .ok (.getfield 111, 3) := by decide +kernel
theorem dX5_account_98 : decode cX5_account 98 = .ok (.invokevirtual 79, 3) := by decide +kernel
theorem dX5_account_101 : decode cX5_account 101 = .ok (.ireturn, 1) := by decide +kernel
theorem dX5_account_102 : decode cX5_account 102 = .ok (.aload_n 0, 1) := by decide +kernel
theorem dX5_account_103 : decode cX5_account 103 = .ok (.getfield 10, 3) := by decide +kernel
theorem dX5_account_106 : decode cX5_account 106 = .ok (.getfield 130, 3) := by decide +kernel
theorem dX5_account_109 : decode cX5_account 109 = .ok (.invokevirtual 79, 3) := by decide +kernel
theorem dX5_account_112 : decode cX5_account 112 = .ok (.ireturn, 1) := by decide +kernel
theorem dX5_account_113 : decode cX5_account 113 = .ok (.aload_n 0, 1) := by decide +kernel
theorem dX5_account_114 : decode cX5_account 114 = .ok (.getfield 10, 3) := by decide +kernel
theorem dX5_account_117 : decode cX5_account 117 = .ok (.getfield 210, 3) := by decide +kernel
theorem dX5_account_120 : decode cX5_account 120 = .ok (.invokevirtual 79, 3) := by decide +kernel
theorem dX5_account_123 : decode cX5_account 123 = .ok (.ireturn, 1) := by decide +kernel
theorem dX5_account_124 : decode cX5_account 124 = .ok (.aload_n 0, 1) := by decide +kernel
theorem dX5_account_125 : decode cX5_account 125 = .ok (.getfield 10, 3) := by decide +kernel
theorem dX5_account_128 : decode cX5_account 128 = .ok (.getfield 210, 3) := by decide +kernel
theorem dX5_account_131 : decode cX5_account 131 = .ok (.invokevirtual 79, 3) := by decide +kernel
theorem dX5_account_134 : decode cX5_account 134 = .ok (.aload_n 0, 1) := by decide +kernel
theorem dX5_account_135 : decode cX5_account 135 = .ok (.getfield 10, 3) := by decide +kernel
theorem dX5_account_138 : decode cX5_account 138 = .ok (.iconst 0, 1) := by decide +kernel
theorem dX5_account_139 : decode cX5_account 139 = .ok (.iconst (-1), 1) := by decide +kernel
theorem dX5_account_140 : decode cX5_account 140 = .ok (.iconst 0, 1) := by decide +kernel
theorem dX5_account_141 : decode cX5_account 141 = .ok (.invokevirtual 163, 3) := by decide +kernel
theorem dX5_account_144 : decode cX5_account 144 = .ok (.isub, 1) := by decide +kernel
theorem dX5_account_145 : decode cX5_account 145 = .ok (.ireturn, 1) := by decide +kernel
theorem dX5_account_146 : decode cX5_account 146 = .ok (.aload_n 0, 1) := by decide +kernel
theorem dX5_account_147 : decode cX5_account 147 = .ok (.getfield 10, 3) := by decide +kernel
theorem dX5_account_150 : decode cX5_account 150 = .ok (.iconst 2, 1) := by decide +kernel
theorem dX5_account_151 : decode cX5_account 151 = .ok (.iconst (-1), 1) := by decide +kernel
theorem dX5_account_152 : decode cX5_account 152 = .ok (.iconst 0, 1) := by decide +kernel
theorem dX5_account_153 : decode cX5_account 153 = .ok (.invokevirtual 163, 3) := by decide +kernel
theorem dX5_account_156 : decode cX5_account 156 = .ok (.ireturn, 1) := by decide +kernel
theorem dX5_account_157 : decode cX5_account 157 = .ok (.aload_n 0, 1) := by decide +kernel
theorem dX5_account_158 : decode cX5_account 158 = .ok (.getfield 10, 3) := by decide +kernel
theorem dX5_account_161 : decode cX5_account 161 = .ok (.iconst 3, 1) := by decide +kernel
theorem dX5_account_162 : decode cX5_account 162 = .ok (.iconst (-1), 1) := by decide +kernel
theorem dX5_account_163 : decode cX5_account 163 = .ok (.iconst 0, 1) := by decide +kernel
theorem dX5_account_164 : decode cX5_account 164 = .ok (.invokevirtual 163, 3) := by decide +kernel
theorem dX5_account_167 : decode cX5_account 167 = .ok (.ireturn, 1) := by decide +kernel
theorem dX5_account_168 : decode cX5_account 168 = .ok (.aload_n 0, 1) := by decide +kernel
theorem dX5_account_169 : decode cX5_account 169 = .ok (.getfield 10, 3) := by decide +kernel
theorem dX5_account_172 : decode cX5_account 172 = .ok (.iconst 4, 1) := by decide +kernel
theorem dX5_account_173 : decode cX5_account 173 = .ok (.iconst (-1), 1) := by decide +kernel
theorem dX5_account_174 : decode cX5_account 174 = .ok (.iconst 0, 1) := by decide +kernel
theorem dX5_account_175 : decode cX5_account 175 = .ok (.invokevirtual 163, 3) := by decide +kernel
theorem dX5_account_178 : decode cX5_account 178 = .ok (.ireturn, 1) := by decide +kernel
theorem dX5_account_179 : decode cX5_account 179 = .ok (.aload_n 0, 1) := by decide +kernel
theorem dX5_account_180 : decode cX5_account 180 = .ok (.getfield 10, 3) := by decide +kernel
theorem dX5_account_183 : decode cX5_account 183 = .ok (.iconst 3, 1) := by decide +kernel
theorem dX5_account_184 : decode cX5_account 184 = .ok (.iconst (-1), 1) := by decide +kernel
theorem dX5_account_185 : decode cX5_account 185 = .ok (.iconst 0, 1) := by decide +kernel
theorem dX5_account_186 : decode cX5_account 186 = .ok (.invokevirtual 163, 3) := by decide +kernel
theorem dX5_account_189 : decode cX5_account 189 = .ok (.aload_n 0, 1) := by decide +kernel
theorem dX5_account_190 : decode cX5_account 190 = .ok (.getfield 10, 3) := by decide +kernel
theorem dX5_account_193 : decode cX5_account 193 = .ok (.iconst 4, 1) := by decide +kernel
theorem dX5_account_194 : decode cX5_account 194 = .ok (.iconst (-1), 1) := by decide +kernel
theorem dX5_account_195 : decode cX5_account 195 = .ok (.iconst 0, 1) := by decide +kernel
theorem dX5_account_196 : decode cX5_account 196 = .ok (.invokevirtual 163, 3) := by decide +kernel
theorem dX5_account_199 : decode cX5_account 199 = .ok (.isub, 1) := by decide +kernel
theorem dX5_account_200 : decode cX5_account 200 = .ok (.ireturn, 1) := by decide +kernel
theorem dX5_account_201 : decode cX5_account 201 = .ok (.aload_n 0, 1) := by decide +kernel
theorem dX5_account_202 : decode cX5_account 202 = .ok (.getfield 10, 3) := by decide +kernel
theorem dX5_account_205 : decode cX5_account 205 = .ok (.getfield 333, 3) := by decide +kernel
theorem dX5_account_208 : decode cX5_account 208 = .ok (.ireturn, 1) := by decide +kernel
theorem dX5_account_209 : decode cX5_account 209 = .ok (.aload_n 0, 1) := by decide +kernel
theorem dX5_account_210 : decode cX5_account 210 = .ok (.getfield 10, 3) := by decide +kernel
theorem dX5_account_213 : decode cX5_account 213 = .ok (.iconst 1, 1) := by decide +kernel
theorem dX5_account_214 : decode cX5_account 214 = .ok (.iconst (-1), 1) := by decide +kernel
theorem dX5_account_215 : decode cX5_account 215 = .ok (.iconst 0, 1) := by decide +kernel
theorem dX5_account_216 : decode cX5_account 216 = .ok (.invokevirtual 163, 3) := by decide +kernel
theorem dX5_account_219 : decode cX5_account 219 = .ok (.ireturn, 1) := by decide +kernel
theorem dX5_account_220 : decode cX5_account 220 = .ok (.aload_n 0, 1) := by decide +kernel
theorem dX5_account_221 : decode cX5_account 221 = .ok (.getfield 10, 3) := by decide +kernel
theorem dX5_account_224 : decode cX5_account 224 = .ok (.getfield 330, 3) := by decide +kernel
theorem dX5_account_227 : decode cX5_account 227 = .ok (.ireturn, 1) := by decide +kernel
set_option maxRecDepth 20000 in
theorem ggX5_bestFilm_X4_size : GoodIn wsX5_bestFilm wsX4_size := goodIn_r _ [9, 10, 77, 78, 79, 80] (by decide +kernel) (by decide +kernel)
set_option maxRecDepth 20000 in
theorem gX5_bestFilm_X4_size : GoodIn wsX5_bestFilm (wsV RX5 79 RX4 yX4_size wsX4_size) := goodIn_app (goodIn_of _ (by decide +kernel)) ggX5_bestFilm_X4_size
set_option maxRecDepth 20000 in
theorem ggX5_bestFilm_X3_total : GoodIn wsX5_bestFilm wsX3_total := goodIn_ca (goodIn_r _ [15, 16, 17, 6, 7, 8, 9, 10, 18, 19, 20, 21, 22, 23, 24, 25, 26, 14, 27, 28, 29, 30, 31, 32, 33, 34, 35, 36, 37, 38, 39, 40, 41, 42, 43, 44, 45, 46, 47, 48, 49, 50, 51, 52, 53, 54, 55, 56, 57, 69, 70, 71, 72, 73, 74, 75, 76, 77, 78, 79, 80] (by decide +kernel) (by decide +kernel)) (goodIn_sub (fun _ h => List.mem_cons_of_mem _ (List.mem_append_right _ h)) (by decide +kernel))
set_option maxRecDepth 20000 in
theorem gX5_bestFilm_X3_total : GoodIn wsX5_bestFilm (wsV RX5 163 RX3 yX3_total wsX3_total) := goodIn_app (goodIn_of _ (by decide +kernel)) ggX5_bestFilm_X3_total
theorem dX5_bestFilm_0 : decode cX5_bestFilm 0 = .ok (.aload_n 0, 1) := by decide +kernel
theorem dX5_bestFilm_1 : decode cX5_bestFilm 1 = .ok (.getfield 10, 3) := by decide +kernel
theorem dX5_bestFilm_4 : decode cX5_bestFilm 4 = .ok (.getfield 111, 3) := by decide +kernel
theorem dX5_bestFilm_7 : decode cX5_bestFilm 7 = .ok (.invokevirtual 79, 3) := by decide +kernel
theorem dX5_bestFilm_10 : decode cX5_bestFilm 10 = .ok (.ifCond .ne 14, 3) := by decide +kernel
theorem dX5_bestFilm_13 : decode cX5_bestFilm 13 = .ok (.new 171, 3) := by decide +kernel
theorem dX5_bestFilm_16 : decode cX5_bestFilm 16 = .ok (.dup, 1) := by decide +kernel
theorem dX5_bestFilm_17 : decode cX5_bestFilm 17 = .ok (.ldc_w 336, 3) := by decide +kernel
theorem dX5_bestFilm_20 : decode cX5_bestFilm 20 = .ok (.invokespecial 175, 3) := by decide +kernel
theorem dX5_bestFilm_23 : decode cX5_bestFilm 23 = .ok (.athrow, 1) := by decide +kernel
theorem dX5_bestFilm_24 : decode cX5_bestFilm 24 = .ok (.iconst 0, 1) := by decide +kernel
theorem dX5_bestFilm_25 : decode cX5_bestFilm 25 = .ok (.istore_n 1, 1) := by decide +kernel
theorem dX5_bestFilm_26 : decode cX5_bestFilm 26 = .ok (.aload_n 0, 1) := by decide +kernel
theorem dX5_bestFilm_27 : decode cX5_bestFilm 27 = .ok (.getfield 10, 3) := by decide +kernel
theorem dX5_bestFilm_30 : decode cX5_bestFilm 30 = .ok (.iconst 2, 1) := by decide +kernel
theorem dX5_bestFilm_31 : decode cX5_bestFilm 31 = .ok (.iconst 1, 1) := by decide +kernel
theorem dX5_bestFilm_32 : decode cX5_bestFilm 32 = .ok (.iload_n 1, 1) := by decide +kernel
theorem dX5_bestFilm_33 : decode cX5_bestFilm 33 = .ok (.invokevirtual 163, 3) := by decide +kernel
theorem dX5_bestFilm_36 : decode cX5_bestFilm 36 = .ok (.istore_n 2, 1) := by decide +kernel
theorem dX5_bestFilm_37 : decode cX5_bestFilm 37 = .ok (.iconst 1, 1) := by decide +kernel
theorem dX5_bestFilm_38 : decode cX5_bestFilm 38 = .ok (.istore_n 3, 1) := by decide +kernel
theorem dX5_bestFilm_39 : decode cX5_bestFilm 39 = .ok (.iload_n 3, 1) := by decide +kernel
theorem dX5_bestFilm_40 : decode cX5_bestFilm 40 = .ok (.aload_n 0, 1) := by decide +kernel
theorem dX5_bestFilm_41 : decode cX5_bestFilm 41 = .ok (.getfield 10, 3) := by decide +kernel
theorem dX5_bestFilm_44 : decode cX5_bestFilm 44 = .ok (.getfield 111, 3) := by decide +kernel
theorem dX5_bestFilm_47 : decode cX5_bestFilm 47 = .ok (.invokevirtual 79, 3) := by decide +kernel
theorem dX5_bestFilm_50 : decode cX5_bestFilm 50 = .ok (.if_icmp .ge 32, 3) := by decide +kernel
theorem dX5_bestFilm_53 : decode cX5_bestFilm 53 = .ok (.aload_n 0, 1) := by decide +kernel
theorem dX5_bestFilm_54 : decode cX5_bestFilm 54 = .ok (.getfield 10, 3) := by decide +kernel
theorem dX5_bestFilm_57 : decode cX5_bestFilm 57 = .ok (.iconst 2, 1) := by decide +kernel
theorem dX5_bestFilm_58 : decode cX5_bestFilm 58 = .ok (.iconst 1, 1) := by decide +kernel
theorem dX5_bestFilm_59 : decode cX5_bestFilm 59 = .ok (.iload_n 3, 1) := by decide +kernel
theorem dX5_bestFilm_60 : decode cX5_bestFilm 60 = .ok (.invokevirtual 163, 3) := by decide +kernel
theorem dX5_bestFilm_63 : decode cX5_bestFilm 63 = .ok (.istore 4, 2) := by decide +kernel
theorem dX5_bestFilm_65 : decode cX5_bestFilm 65 = .ok (.iload 4, 2) := by decide +kernel
theorem dX5_bestFilm_67 : decode cX5_bestFilm 67 = .ok (.iload_n 2, 1) := by decide +kernel
theorem dX5_bestFilm_68 : decode cX5_bestFilm 68 = .ok (.if_icmp .le 8, 3) := by decide +kernel
theorem dX5_bestFilm_71 : decode cX5_bestFilm 71 = .ok (.iload_n 3, 1) := by decide +kernel
theorem dX5_bestFilm_72 : decode cX5_bestFilm 72 = .ok (.istore_n 1, 1) := by decide +kernel
theorem dX5_bestFilm_73 : decode cX5_bestFilm 73 = .ok (.iload 4, 2) := by decide +kernel
theorem dX5_bestFilm_75 : decode cX5_bestFilm 75 = .ok (.istore_n 2, 1) := by decide +kernel
theorem dX5_bestFilm_76 : decode cX5_bestFilm 76 = .ok (.iinc 3 1, 3) := by decide +kernel
theorem dX5_bestFilm_79 : decode cX5_bestFilm 79 = .ok (.goto (-40), 3) := by decide +kernel
theorem dX5_bestFilm_82 : decode cX5_bestFilm 82 = .ok (.iload_n 1, 1) := by decide +kernel
theorem dX5_bestFilm_83 : decode cX5_bestFilm 83 = .ok (.ireturn, 1) := by decide +kernel
set_option maxRecDepth 20000 in
theorem ggX5_use_X3_total : GoodIn wsX5_use wsX3_total := goodIn_ca (goodIn_r _ [8, 9, 10, 11, 12, 13, 14, 15, 16, 17, 18, 19, 20, 21, 22, 23, 24, 7, 25, 26, 27, 28, 29, 30, 31, 32, 33, 34, 35, 36, 37, 38, 39, 40, 41, 42, 43, 44, 45, 46, 47, 48, 49, 50, 51, 52, 53, 54, 55, 67, 68, 69, 70, 71, 72, 73, 74, 75, 76, 77, 78] (by decide +kernel) (by decide +kernel)) (goodIn_sub (fun _ h => List.mem_cons_of_mem _ (List.mem_append_right _ h)) (by decide +kernel))
set_option maxRecDepth 20000 in
theorem gX5_use_X3_total : GoodIn wsX5_use (wsV RX5 163 RX3 yX3_total wsX3_total) := goodIn_app (goodIn_of _ (by decide +kernel)) ggX5_use_X3_total
theorem dX5_use_0 : decode cX5_use 0 = .ok (.aload_n 0, 1) := by decide +kernel
theorem dX5_use_1 : decode cX5_use 1 = .ok (.getfield 10, 3) := by decide +kernel
theorem dX5_use_4 : decode cX5_use 4 = .ok (.iconst 5, 1) := by decide +kernel
theorem dX5_use_5 : decode cX5_use 5 = .ok (.iconst (-1), 1) := by decide +kernel
theorem dX5_use_6 : decode cX5_use 6 = .ok (.iconst 0, 1) := by decide +kernel
theorem dX5_use_7 : decode cX5_use 7 = .ok (.invokevirtual 163, 3) := by decide +kernel
theorem dX5_use_10 : decode cX5_use 10 = .ok (.istore_n 1, 1) := by decide +kernel
theorem dX5_use_11 : decode cX5_use 11 = .ok (.iload_n 1, 1) := by decide +kernel
theorem dX5_use_12 : decode cX5_use 12 = .ok (.ifCond .ne 14, 3) := by decide +kernel
theorem dX5_use_15 : decode cX5_use 15 = .ok (.new 338, 3) := by decide +kernel
theorem dX5_use_18 : decode cX5_use 18 = .ok (.dup, 1) := by decide +kernel
theorem dX5_use_19 : decode cX5_use 19 = .ok (.ldc_w 340, 3) := by decide +kernel
theorem dX5_use_22 : decode cX5_use 22 = .ok (.invokespecial 342, 3) := by decide +kernel
theorem dX5_use_25 : decode cX5_use 25 = .ok (.athrow, 1) := by decide +kernel
theorem dX5_use_26 : decode cX5_use 26 = .ok (.aload_n 0, 1) := by decide +kernel
theorem dX5_use_27 : decode cX5_use 27 = .ok (.getfield 10, 3) := by decide +kernel
theorem dX5_use_30 : decode cX5_use 30 = .ok (.iconst 2, 1) := by decide +kernel
theorem dX5_use_31 : decode cX5_use 31 = .ok (.iconst (-1), 1) := by decide +kernel
theorem dX5_use_32 : decode cX5_use 32 = .ok (.iconst 0, 1) := by decide +kernel
theorem dX5_use_33 : decode cX5_use 33 = .ok (.invokevirtual 163, 3) := by decide +kernel
theorem dX5_use_36 : decode cX5_use 36 = .ok (.i2d, 1) := by decide +kernel
theorem dX5_use_37 : decode cX5_use 37 = .ok (.iload_n 1, 1) := by decide +kernel
theorem dX5_use_38 : decode cX5_use 38 = .ok (.i2d, 1) := by decide +kernel
theorem dX5_use_39 : decode cX5_use 39 = .ok (.ddiv, 1) := by decide +kernel
theorem dX5_use_40 : decode cX5_use 40 = .ok (.dreturn, 1) := by decide +kernel
set_option maxRecDepth 20000 in
theorem ggX5_write_X4_isRow : GoodIn wsX5_write wsX4_isRow := goodIn_r _ [13, 14, 308, 309, 310, 311] (by decide +kernel) (by decide +kernel)
set_option maxRecDepth 20000 in
theorem gX5_write_X4_isRow : GoodIn wsX5_write (wsV RX5 116 RX4 yX4_isRow wsX4_isRow) := goodIn_app (goodIn_of _ (by decide +kernel)) ggX5_write_X4_isRow
set_option maxRecDepth 20000 in
theorem ggX5_write_X5_isDay : GoodIn wsX5_write wsX5_isDay := goodIn_r _ [18, 19, 20, 17, 21] (by decide +kernel) (by decide +kernel)
set_option maxRecDepth 20000 in
theorem gX5_write_X5_isDay : GoodIn wsX5_write (va_wsS RX5 108 yX5_isDay wsX5_isDay) := goodIn_app (goodIn_of _ (by decide +kernel)) ggX5_write_X5_isDay
set_option maxRecDepth 20000 in
theorem ggX5_write_J4_setLength_d00df : GoodIn wsX5_write wsJ4_setLength_d00df := goodIn_r _ [26, 27, 28, 29, 30, 31, 32, 33, 34, 35, 36, 37, 38, 39, 40, 41, 42, 43, 44, 45, 46, 47, 48, 49, 50, 51, 52, 53, 54, 55, 56, 57, 58, 59, 60, 61, 62, 63, 64, 65, 66, 67, 68, 69, 70, 71, 72, 73, 74, 75, 76, 77, 78, 79, 80, 81, 82, 83, 84, 85, 86, 87, 88, 89, 90, 91, 92, 93, 94, 95, 96, 97, 98, 25, 99, 100, 101, 102, 103, 104, 105, 106, 312, 313, 314, 315, 316, 317, 318, 319, 320, 321, 322, 323, 324, 325, 326, 327] (by decide +kernel) (by decide +kernel)
set_option maxRecDepth 20000 in
theorem gX5_write_J4_setLength_d00df : GoodIn wsX5_write (wsV RX5 343 RJ4 yJ4_setLength_d00df wsJ4_setLength_d00df) := goodIn_app (goodIn_of _ (by decide +kernel)) ggX5_write_J4_setLength_d00df
set_option maxRecDepth 20000 in
theorem ggX5_write_X3_isClosed : GoodIn wsX5_write wsX3_isClosed := goodIn_ca (goodIn_r _ [111, 112, 113, 114, 115, 12, 116, 117, 118, 300, 301, 302, 303, 304, 305, 306, 307, 308, 309, 310, 311] (by decide +kernel) (by decide +kernel)) (goodIn_sub (fun _ h => List.mem_cons_of_mem _ (List.mem_append_right _ h)) (by decide +kernel))
set_option maxRecDepth 20000 in
theorem gX5_write_X3_isClosed : GoodIn wsX5_write (wsV RX5 347 RX3 yX3_isClosed wsX3_isClosed) := goodIn_app (goodIn_of _ (by decide +kernel)) ggX5_write_X3_isClosed
set_option maxRecDepth 20000 in
theorem ggX5_write_J4_append_15ec4 : GoodIn wsX5_write wsJ4_append_15ec4 := goodIn_r _ [122, 123, 124, 29, 125, 31, 126, 36, 127, 128, 129, 130, 131, 37, 39, 40, 41, 42, 43, 44, 45, 46, 47, 48, 49, 50, 51, 52, 53, 54, 55, 56, 57, 58, 59, 60, 61, 62, 63, 64, 65, 66, 67, 68, 69, 70, 71, 72, 73, 74, 75, 76, 77, 78, 79, 80, 81, 82, 83, 84, 85, 86, 132, 133, 104, 134, 135, 136, 137, 138, 139, 140, 141, 142, 143, 144, 145, 146, 147, 148, 149, 150, 151, 152, 153, 154, 155, 156, 157, 158, 159, 160, 161, 162, 163, 164, 165, 166, 167, 168, 169, 170, 171, 172, 173, 174, 175, 176, 177, 178, 179, 180, 181, 182, 183, 184, 185, 186, 187, 188, 189, 190, 191, 89, 192, 193, 194, 195, 196, 197, 198, 199, 200, 201, 202, 203, 204, 205, 206, 207, 208, 209, 210, 318, 319, 320, 321, 328, 329, 330, 331] (by decide +kernel) (by decide +kernel)
set_option maxRecDepth 20000 in
theorem gX5_write_J4_append_15ec4 : GoodIn wsX5_write (wsV RX5 353 RJ4 yJ4_append_15ec4 wsJ4_append_15ec4) := goodIn_app (goodIn_of _ (by decide +kernel)) ggX5_write_J4_append_15ec4
set_option maxRecDepth 20000 in
theorem ggX5_write_X3_showAfter : GoodIn wsX5_write wsX3_showAfter := goodIn_ca (goodIn_r _ [214, 215, 216, 217, 218, 12, 219, 14, 113, 114, 115, 116, 117, 118, 220, 221, 222, 110, 223, 300, 301, 302, 303, 304, 305, 306, 307, 308, 309, 310, 311] (by decide +kernel) (by decide +kernel)) (goodIn_sub (fun _ h => List.mem_cons_of_mem _ (List.mem_append_right _ h)) (by decide +kernel))
set_option maxRecDepth 20000 in
theorem gX5_write_X3_showAfter : GoodIn wsX5_write (wsV RX5 302 RX3 yX3_showAfter wsX3_showAfter) := goodIn_app (goodIn_of _ (by decide +kernel)) ggX5_write_X3_showAfter
set_option maxRecDepth 20000 in
theorem ggX5_write_X5_appendShow : GoodIn wsX5_write wsX5_appendShow := goodIn_ca (goodIn_r _ [227, 7, 5, 8, 228, 114, 115, 12, 116, 117, 118, 229, 230, 231, 25, 232, 233, 234, 29, 235, 31, 236, 36, 37, 237, 238, 239, 240, 39, 40, 41, 42, 43, 44, 45, 46, 47, 48, 49, 50, 51, 52, 53, 54, 55, 56, 57, 58, 59, 60, 61, 62, 63, 64, 65, 66, 67, 68, 69, 70, 71, 72, 73, 74, 75, 76, 77, 78, 79, 80, 81, 82, 83, 84, 85, 86, 241, 242, 243, 244, 245, 246, 247, 104, 248, 135, 136, 137, 138, 139, 140, 141, 142, 143, 144, 145, 146, 147, 148, 149, 150, 249, 250, 251, 252, 253, 151, 152, 153, 154, 155, 254, 255, 256, 257, 258, 259, 260, 261, 262, 263, 89, 264, 178, 179, 180, 181, 182, 183, 184, 185, 186, 187, 188, 189, 190, 191, 192, 193, 194, 195, 196, 197, 198, 199, 200, 201, 202, 203, 204, 265, 266, 267, 268, 269, 270, 271, 272, 273, 274, 275, 276, 119, 120, 121, 122, 123, 124, 125, 126, 127, 128, 129, 130, 131, 132, 133, 134, 156, 157, 158, 159, 160, 161, 162, 163, 164, 165, 166, 167, 168, 169, 170, 171, 172, 173, 174, 175, 176, 177, 205, 206, 207, 208, 209, 210, 277, 278, 279, 110, 280, 112, 215, 113, 289, 290, 291, 292, 293, 294, 295, 296, 297, 298, 299, 300, 301, 302, 303, 304, 305, 306, 307, 308, 309, 310, 311, 318, 319, 320, 321, 328, 329, 330, 331] (by decide +kernel) (by decide +kernel)) (goodIn_sub (fun _ h => List.mem_cons_of_mem _ (List.mem_append_right _ h)) (by decide +kernel))
set_option maxRecDepth 20000 in
theorem gX5_write_X5_appendShow : GoodIn wsX5_write (wsV RX5 361 RX5 yX5_appendShow wsX5_appendShow) := goodIn_app (goodIn_of _ (by decide +kernel)) ggX5_write_X5_appendShow
set_option maxRecDepth 20000 in
theorem ggX5_write_X4_get : GoodIn wsX5_write wsX4_get := goodIn_ca (goodIn_r _ [116, 117, 118, 308, 309, 310, 311] (by decide +kernel) (by decide +kernel)) (goodIn_sub (fun _ h => List.mem_cons_of_mem _ (List.mem_append_right _ h)) (by decide +kernel))
set_option maxRecDepth 20000 in
theorem gX5_write_X4_get : GoodIn wsX5_write (wsV RX5 126 RX4 yX4_get wsX4_get) := goodIn_app (goodIn_of _ (by decide +kernel)) ggX5_write_X4_get
set_option maxRecDepth 20000 in
theorem ggX5_write_J4_length_8abf5 : GoodIn wsX5_write wsJ4_length_8abf5 := goodIn_r _ [284, 285, 286, 29, 287, 31, 288, 36, 318, 319, 320, 321] (by decide +kernel) (by decide +kernel)
set_option maxRecDepth 20000 in
theorem gX5_write_J4_length_8abf5 : GoodIn wsX5_write (wsV RX5 364 RJ4 yJ4_length_8abf5 wsJ4_length_8abf5) := goodIn_app (goodIn_of _ (by decide +kernel)) ggX5_write_J4_length_8abf5
theorem dX5_write_0 : decode cX5_write 0 = .ok (.aload_n 0, 1) := by decide +kernel
theorem dX5_write_1 : decode cX5_write 1 = .ok (.getfield 10, 3) := by decide +kernel
theorem dX5_write_4 : decode cX5_write 4 = .ok (.getfield 75, 3) := by decide +kernel
theorem dX5_write_7 : decode cX5_write 7 = .ok (.iload_n 1, 1) := by decide +kernel
theorem dX5_write_8 : decode cX5_write 8 = .ok (.invokevirtual 116, 3) := by decide +kernel
theorem dX5_write_11 : decode cX5_write 11 = .ok (.ifCond .ne 13, 3) := by decide +kernel
theorem dX5_write_14 : decode cX5_write 14 = .ok (.new 119, 3) := by decide +kernel
theorem dX5_write_17 : decode cX5_write 17 = .ok (.dup, 1) := by decide +kernel
theorem dX5_write_18 : decode cX5_write 18 = .ok (.ldc 159, 2) := by decide +kernel
theorem dX5_write_20 : decode cX5_write 20 = .ok (.invokespecial 123, 3) := by decide +kernel
theorem dX5_write_23 : decode cX5_write 23 = .ok (.athrow, 1) := by decide +kernel
theorem dX5_write_24 : decode cX5_write 24 = .ok (.iload_n 2, 1) := by decide +kernel
theorem dX5_write_25 : decode cX5_write 25 = .ok (.invokestatic 108, 3) := by decide +kernel
theorem dX5_write_28 : decode cX5_write 28 = .ok (.ifCond .ne 13, 3) := by decide +kernel
theorem dX5_write_31 : decode cX5_write 31 = .ok (.new 68, 3) := by decide +kernel
theorem dX5_write_34 : decode cX5_write 34 = .ok (.dup, 1) := by decide +kernel
theorem dX5_write_35 : decode cX5_write 35 = .ok (.ldc 169, 2) := by decide +kernel
theorem dX5_write_37 : decode cX5_write 37 = .ok (.invokespecial 72, 3) := by decide +kernel
theorem dX5_write_40 : decode cX5_write 40 = .ok (.athrow, 1) := by decide +kernel
theorem dX5_write_41 : decode cX5_write 41 = .ok (.aload_n 0, 1) := by decide +kernel
theorem dX5_write_42 : decode cX5_write 42 = .ok (.getfield 47, 3) := by decide +kernel
theorem dX5_write_45 : decode cX5_write 45 = .ok (.iconst 0, 1) := by decide +kernel
theorem dX5_write_46 : decode cX5_write 46 = .ok (.invokevirtual 343, 3) := by decide +kernel
theorem dX5_write_49 : decode cX5_write 49 = .ok (.aload_n 0, 1) := by decide +kernel
theorem dX5_write_50 : decode cX5_write 50 = .ok (.getfield 10, 3) := by decide +kernel
theorem dX5_write_53 : decode cX5_write 53 = .ok (.iload_n 1, 1) := by decide +kernel
theorem dX5_write_54 : decode cX5_write 54 = .ok (.iload_n 2, 1) := by decide +kernel
theorem dX5_write_55 : decode cX5_write 55 = .ok (.invokevirtual 347, 3) := by decide +kernel
theorem dX5_write_58 : decode cX5_write 58 = .ok (.ifCond .eq 14, 3) := by decide +kernel
theorem dX5_write_61 : decode cX5_write 61 = .ok (.aload_n 0, 1) := by decide +kernel
theorem dX5_write_62 : decode cX5_write 62 = .ok (.getfield 47, 3) := by decide +kernel
theorem dX5_write_65 : decode cX5_write 65 = .ok (.ldc_w 351, 3) := by decide +kernel
theorem dX5_write_68 : decode cX5_write 68 = .ok (.invokevirtual 353, 3) := by decide +kernel
theorem dX5_write_71 : decode cX5_write 71 = .ok (.pop, 1) := by decide +kernel
theorem dX5_write_72 : decode cX5_write 72 = .ok (.aload_n 0, 1) := by decide +kernel
theorem dX5_write_73 : decode cX5_write 73 = .ok (.getfield 10, 3) := by decide +kernel
theorem dX5_write_76 : decode cX5_write 76 = .ok (.iload_n 1, 1) := by decide +kernel
theorem dX5_write_77 : decode cX5_write 77 = .ok (.iload_n 2, 1) := by decide +kernel
theorem dX5_write_78 : decode cX5_write 78 = .ok (.iconst (-1), 1) := by decide +kernel
theorem dX5_write_79 : decode cX5_write 79 = .ok (.invokevirtual 302, 3) := by decide +kernel
theorem dX5_write_82 : decode cX5_write 82 = .ok (.istore_n 3, 1) := by decide +kernel
theorem dX5_write_83 : decode cX5_write 83 = .ok (.iload_n 3, 1) := by decide +kernel
theorem dX5_write_84 : decode cX5_write 84 = .ok (.iconst (-1), 1) := by decide +kernel
theorem dX5_write_85 : decode cX5_write 85 = .ok (.if_icmp .ne 14, 3) := by decide +kernel
theorem dX5_write_88 : decode cX5_write 88 = .ok (.aload_n 0, 1) := by decide +kernel
theorem dX5_write_89 : decode cX5_write 89 = .ok (.getfield 47, 3) := by decide +kernel
theorem dX5_write_92 : decode cX5_write 92 = .ok (.ldc_w 357, 3) := by decide +kernel
theorem dX5_write_95 : decode cX5_write 95 = .ok (.invokevirtual 353, 3) := by decide +kernel
theorem dX5_write_98 : decode cX5_write 98 = .ok (.pop, 1) := by decide +kernel
theorem dX5_write_99 : decode cX5_write 99 = .ok (.iconst 0, 1) := by decide +kernel
theorem dX5_write_100 : decode cX5_write 100 = .ok (.istore 4, 2) := by decide +kernel
theorem dX5_write_102 : decode cX5_write 102 = .ok (.iload 4, 2) := by decide +kernel
theorem dX5_write_104 : decode cX5_write 104 = .ok (.bipush 30, 2) := by decide +kernel
theorem dX5_write_106 : decode cX5_write 106 = .ok (.if_icmp .ge 57, 3) := by decide +kernel
theorem dX5_write_109 : decode cX5_write 109 = .ok (.iload_n 3, 1) := by decide +kernel
theorem dX5_write_110 : decode cX5_write 110 = .ok (.iconst (-1), 1) := by decide +kernel
theorem dX5_write_111 : decode cX5_write 111 = .ok (.if_icmp .eq 52, 3) := by decide +kernel
theorem dX5_write_114 : decode cX5_write 114 = .ok (.iload 4, 2) := by decide +kernel
theorem dX5_write_116 : decode cX5_write 116 = .ok (.ifCond .le 14, 3) := by decide +kernel
theorem dX5_write_119 : decode cX5_write 119 = .ok (.aload_n 0, 1) := by decide +kernel
theorem dX5_write_120 : decode cX5_write 120 = .ok (.getfield 47, 3) := by decide +kernel
theorem dX5_write_123 : decode cX5_write 123 = .ok (.ldc_w 359, 3) := by decide +kernel
theorem dX5_write_126 : decode cX5_write 126 = .ok (.invokevirtual 353, 3) := by decide +kernel
theorem dX5_write_129 : decode cX5_write 129 = .ok (.pop, 1) := by decide +kernel
theorem dX5_write_130 : decode cX5_write 130 = .ok (.aload_n 0, 1) := by decide +kernel
theorem dX5_write_131 : decode cX5_write 131 = .ok (.iload_n 3, 1) := by decide +kernel
theorem dX5_write_132 : decode cX5_write 132 = .ok (.invokevirtual 361, 3) := by decide +kernel
theorem dX5_write_135 : decode cX5_write 135 = .ok (.aload_n 0, 1) := by decide +kernel
theorem dX5_write_136 : decode cX5_write 136 = .ok (.getfield 10, 3) := by decide +kernel
theorem dX5_write_139 : decode cX5_write 139 = .ok (.iload_n 1, 1) := by decide +kernel
theorem dX5_write_140 : decode cX5_write 140 = .ok (.iload_n 2, 1) := by decide +kernel
theorem dX5_write_141 : decode cX5_write 141 = .ok (.aload_n 0, 1) := by decide +kernel
theorem dX5_write_142 : decode cX5_write 142 = .ok (.getfield 10, 3) := by decide +kernel
theorem dX5_write_145 : decode cX5_write 145 = .ok (.getfield 210, 3) := by decide +kernel
theorem dX5_write_148 : decode cX5_write 148 = .ok (.iload_n 3, 1) := by decide +kernel
theorem dX5_write_149 : decode cX5_write 149 = .ok (.iconst 3, 1) := by decide +kernel
theorem dX5_write_150 : decode cX5_write 150 = .ok (.invokevirtual 126, 3) := by decide +kernel
theorem dX5_write_153 : decode cX5_write 153 = .ok (.invokevirtual 302, 3) := by decide +kernel
theorem dX5_write_156 : decode cX5_write 156 = .ok (.istore_n 3, 1) := by decide +kernel
theorem dX5_write_157 : decode cX5_write 157 = .ok (.iinc 4 1, 3) := by decide +kernel
theorem dX5_write_160 : decode cX5_write 160 = .ok (.goto (-58), 3) := by decide +kernel
theorem dX5_write_163 : decode cX5_write 163 = .ok (.aload_n 0, 1) := by decide +kernel
theorem dX5_write_164 : decode cX5_write 164 = .ok (.getfield 47, 3) := by decide +kernel
theorem dX5_write_167 : decode cX5_write 167 = .ok (.invokevirtual 364, 3) := by decide +kernel
theorem dX5_write_170 : decode cX5_write 170 = .ok (.ireturn, 1) := by decide +kernel
set_option maxRecDepth 20000 in
theorem ggX5_written_J4_length_8abf5 : GoodIn wsX5_written wsJ4_length_8abf5 := goodIn_r _ [8, 9, 10, 11, 12, 13, 14, 15, 60, 61, 62, 63] (by decide +kernel) (by decide +kernel)
set_option maxRecDepth 20000 in
theorem gX5_written_J4_length_8abf5 : GoodIn wsX5_written (wsV RX5 364 RJ4 yJ4_length_8abf5 wsJ4_length_8abf5) := goodIn_app (goodIn_of _ (by decide +kernel)) ggX5_written_J4_length_8abf5
set_option maxRecDepth 20000 in
theorem ggX5_written_J4_charAt_5068e : GoodIn wsX5_written wsJ4_charAt_5068e := goodIn_r _ [19, 20, 21, 11, 22, 13, 23, 24, 25, 15, 26, 27, 28, 29, 30, 31, 32, 33, 34, 35, 36, 37, 38, 39, 40, 41, 42, 43, 44, 45, 46, 47, 48, 60, 61, 62, 63] (by decide +kernel) (by decide +kernel)
set_option maxRecDepth 20000 in
theorem gX5_written_J4_charAt_5068e : GoodIn wsX5_written (wsV RX5 369 RJ4 yJ4_charAt_5068e wsJ4_charAt_5068e) := goodIn_app (goodIn_of _ (by decide +kernel)) ggX5_written_J4_charAt_5068e
theorem dX5_written_0 : decode cX5_written 0 = .ok (.iload_n 1, 1) := by decide +kernel
theorem dX5_written_1 : decode cX5_written 1 = .ok (.ifCond .lt 14, 3) := by decide +kernel
theorem dX5_written_4 : decode cX5_written 4 = .ok (.iload_n 1, 1) := by decide +kernel
theorem dX5_written_5 : decode cX5_written 5 = .ok (.aload_n 0, 1) := by decide +kernel
theorem dX5_written_6 : decode cX5_written 6 = .ok (.getfield 47, 3) := by decide +kernel
theorem dX5_written_9 : decode cX5_written 9 = .ok (.invokevirtual 364, 3) := by decide +kernel
theorem dX5_written_12 : decode cX5_written 12 = .ok (.if_icmp .lt 14, 3) := by decide +kernel
theorem dX5_written_15 : decode cX5_written 15 = .ok (.new 119, 3) := by decide +kernel
theorem dX5_written_18 : decode cX5_written 18 = .ok (.dup, 1) := by decide +kernel
theorem dX5_written_19 : decode cX5_written 19 = .ok (.ldc_w 367, 3) := by decide +kernel
theorem dX5_written_22 : decode cX5_written 22 = .ok (.invokespecial 123, 3) := by decide +kernel
theorem dX5_written_25 : decode cX5_written 25 = .ok (.athrow, 1) := by decide +kernel
theorem dX5_written_26 : decode cX5_written 26 = .ok (.aload_n 0, 1) := by decide +kernel
theorem dX5_written_27 : decode cX5_written 27 = .ok (.getfield 47, 3) := by decide +kernel
theorem dX5_written_30 : decode cX5_written 30 = .ok (.iload_n 1, 1) := by decide +kernel
theorem dX5_written_31 : decode cX5_written 31 = .ok (.invokevirtual 369, 3) := by decide +kernel
theorem dX5_written_34 : decode cX5_written 34 = .ok (.ireturn, 1) := by decide +kernel
set_option maxRecDepth 20000 in
theorem ggX5_append_X5_isWithin : GoodIn wsX5_append wsX5_isWithin := goodIn_r _ [9] (by decide +kernel) (by decide +kernel)
set_option maxRecDepth 20000 in
theorem gX5_append_X5_isWithin : GoodIn wsX5_append (va_wsS RX5 64 yX5_isWithin wsX5_isWithin) := goodIn_app (goodIn_of _ (by decide +kernel)) ggX5_append_X5_isWithin
set_option maxRecDepth 20000 in
theorem ggX5_append_J4_length_8abf5 : GoodIn wsX5_append wsJ4_length_8abf5 := goodIn_r _ [14, 15, 16, 17, 18, 19, 20, 21, 146, 147, 148, 149] (by decide +kernel) (by decide +kernel)
set_option maxRecDepth 20000 in
theorem gX5_append_J4_length_8abf5 : GoodIn wsX5_append (wsV RX5 364 RJ4 yJ4_length_8abf5 wsJ4_length_8abf5) := goodIn_app (goodIn_of _ (by decide +kernel)) ggX5_append_J4_length_8abf5
set_option maxRecDepth 20000 in
theorem ggX5_append_J4_append_cf468 : GoodIn wsX5_append wsJ4_append_cf468 := goodIn_r _ [25, 26, 27, 17, 28, 19, 29, 21, 30, 31, 32, 33, 34, 35, 36, 37, 38, 39, 40, 41, 42, 43, 44, 45, 46, 47, 48, 49, 50, 51, 52, 53, 54, 55, 56, 57, 58, 59, 60, 61, 62, 63, 64, 65, 66, 67, 68, 69, 70, 71, 72, 73, 74, 75, 76, 77, 78, 79, 80, 81, 82, 83, 84, 85, 86, 87, 88, 89, 90, 91, 92, 93, 94, 95, 96, 97, 98, 99, 100, 101, 102, 103, 104, 105, 106, 107, 108, 109, 110, 111, 112, 113, 114, 115, 116, 117, 118, 119, 120, 121, 122, 123, 124, 125, 126, 127, 128, 129, 130, 131, 132, 133, 134, 146, 147, 148, 149] (by decide +kernel) (by decide +kernel)
set_option maxRecDepth 20000 in
theorem gX5_append_J4_append_cf468 : GoodIn wsX5_append (wsV RX5 377 RJ4 yJ4_append_cf468 wsJ4_append_cf468) := goodIn_app (goodIn_of _ (by decide +kernel)) ggX5_append_J4_append_cf468
theorem dX5_append_0 : decode cX5_append 0 = .ok (.iload_n 1, 1) := by decide +kernel
theorem dX5_append_1 : decode cX5_append 1 = .ok (.bipush 32, 2) := by decide +kernel
theorem dX5_append_3 : decode cX5_append 3 = .ok (.bipush 126, 2) := by decide +kernel
theorem dX5_append_5 : decode cX5_append 5 = .ok (.invokestatic 64, 3) := by decide +kernel
theorem dX5_append_8 : decode cX5_append 8 = .ok (.ifCond .ne 14, 3) := by decide +kernel
theorem dX5_append_11 : decode cX5_append 11 = .ok (.new 68, 3) := by decide +kernel
theorem dX5_append_14 : decode cX5_append 14 = .ok (.dup, 1) := by decide +kernel
theorem dX5_append_15 : decode cX5_append 15 = .ok (.ldc_w 373, 3) := by decide +kernel
theorem dX5_append_18 : decode cX5_append 18 = .ok (.invokespecial 72, 3) := by decide +kernel
theorem dX5_append_21 : decode cX5_append 21 = .ok (.athrow, 1) := by decide +kernel
theorem dX5_append_22 : decode cX5_append 22 = .ok (.aload_n 0, 1) := by decide +kernel
theorem dX5_append_23 : decode cX5_append 23 = .ok (.getfield 43, 3) := by decide +kernel
theorem dX5_append_26 : decode cX5_append 26 = .ok (.invokevirtual 364, 3) := by decide +kernel
theorem dX5_append_29 : decode cX5_append 29 = .ok (.bipush 60, 2) := by decide +kernel
theorem dX5_append_31 : decode cX5_append 31 = .ok (.if_icmp .lt 14, 3) := by decide +kernel
theorem dX5_append_34 : decode cX5_append 34 = .ok (.new 85, 3) := by decide +kernel
theorem dX5_append_37 : decode cX5_append 37 = .ok (.dup, 1) := by decide +kernel
theorem dX5_append_38 : decode cX5_append 38 = .ok (.ldc_w 375, 3) := by decide +kernel
theorem dX5_append_41 : decode cX5_append 41 = .ok (.invokespecial 89, 3) := by decide +kernel
theorem dX5_append_44 : decode cX5_append 44 = .ok (.athrow, 1) := by decide +kernel
theorem dX5_append_45 : decode cX5_append 45 = .ok (.aload_n 0, 1) := by decide +kernel
theorem dX5_append_46 : decode cX5_append 46 = .ok (.getfield 43, 3) := by decide +kernel
theorem dX5_append_49 : decode cX5_append 49 = .ok (.iload_n 1, 1) := by decide +kernel
theorem dX5_append_50 : decode cX5_append 50 = .ok (.invokevirtual 377, 3) := by decide +kernel
theorem dX5_append_53 : decode cX5_append 53 = .ok (.pop, 1) := by decide +kernel
theorem dX5_append_54 : decode cX5_append 54 = .ok (.aload_n 0, 1) := by decide +kernel
theorem dX5_append_55 : decode cX5_append 55 = .ok (.getfield 43, 3) := by decide +kernel
theorem dX5_append_58 : decode cX5_append 58 = .ok (.invokevirtual 364, 3) := by decide +kernel
theorem dX5_append_61 : decode cX5_append 61 = .ok (.ireturn, 1) := by decide +kernel
set_option maxRecDepth 20000 in
theorem ggX5_perform_X1_isText : GoodIn wsX5_perform wsX1_isText := goodIn_ca (goodIn_r _ [16, 17, 18, 19, 20, 21, 22, 23, 24, 25, 26, 27, 15, 28, 29, 30, 31, 32, 33, 34, 35, 36, 37, 38, 39, 40, 41, 42, 43, 44, 45, 46, 47, 48, 49, 50, 51, 52, 53, 54, 55, 56, 57, 58, 59, 60, 61, 62, 63, 64, 65, 66, 67, 68, 69, 70, 71, 72, 73, 74, 75, 76, 77, 78, 79, 80, 81, 82, 83, 84, 85, 86, 87, 88, 89, 90, 91, 92, 93, 94, 95, 96, 97, 98, 99, 100, 101, 102, 103, 104, 105, 106, 107, 108, 109, 110, 111, 112, 113, 114, 115, 116, 117, 118, 119, 120, 121, 122, 123, 124, 125, 126, 127, 128, 129, 130, 131, 132, 133, 134, 135, 136, 137, 138, 139, 140, 141, 142, 472, 473, 474, 475, 476, 477, 478, 479, 480, 481, 482, 483, 484, 485] (by decide +kernel) (by decide +kernel)) (goodIn_sub (fun _ h => List.mem_cons_of_mem _ (List.mem_append_right _ h)) (by decide +kernel))
set_option maxRecDepth 20000 in
theorem gX5_perform_X1_isText : GoodIn wsX5_perform (wsV RX5 380 RX1 yX1_isText wsX1_isText) := goodIn_app (goodIn_of _ (by decide +kernel)) ggX5_perform_X1_isText
set_option maxRecDepth 20000 in
theorem ggX5_perform_J4_setLength_d00df : GoodIn wsX5_perform wsJ4_setLength_d00df := goodIn_r _ [146, 147, 148, 64, 149, 66, 150, 151, 152, 153, 68, 78, 154, 155, 156, 157, 158, 159, 77, 160, 161, 162, 163, 164, 165, 166, 167, 168, 169, 170, 35, 36, 37, 171, 172, 173, 174, 175, 176, 177, 178, 179, 180, 181, 182, 183, 184, 185, 186, 80, 81, 187, 188, 189, 190, 191, 192, 193, 194, 195, 196, 197, 198, 110, 199, 200, 201, 202, 203, 204, 205, 206, 207, 60, 208, 209, 210, 211, 212, 92, 213, 214, 486, 487, 488, 489, 490, 491, 482, 483, 484, 485, 492, 493, 494, 495, 496, 497] (by decide +kernel) (by decide +kernel)
set_option maxRecDepth 20000 in
theorem gX5_perform_J4_setLength_d00df : GoodIn wsX5_perform (wsV RX5 343 RJ4 yJ4_setLength_d00df wsJ4_setLength_d00df) := goodIn_app (goodIn_of _ (by decide +kernel)) ggX5_perform_J4_setLength_d00df
set_option maxRecDepth 20000 in
theorem ggX5_perform_X0_keepSpare : GoodIn wsX5_perform wsX0_keepSpare := goodIn_r _ [219, 220, 221, 222, 223, 224, 225, 226, 227, 228, 229, 230, 231, 232, 233, 234, 235, 236, 237, 22, 238, 24, 127, 239, 80, 36, 81, 240, 188, 189, 190, 498, 499, 500, 501, 502, 503, 504, 505, 506, 507, 508, 474, 475, 476, 477] (by decide +kernel) (by decide +kernel)
set_option maxRecDepth 20000 in
theorem gX5_perform_X0_keepSpare : GoodIn wsX5_perform (wsV RX5 389 RX0 yX0_keepSpare wsX0_keepSpare) := goodIn_app (goodIn_of _ (by decide +kernel)) ggX5_perform_X0_keepSpare
set_option maxRecDepth 20000 in
theorem ggX5_perform_X4_size : GoodIn wsX5_perform wsX4_size := goodIn_r _ [244, 24, 474, 475, 476, 477] (by decide +kernel) (by decide +kernel)
set_option maxRecDepth 20000 in
theorem gX5_perform_X4_size : GoodIn wsX5_perform (wsV RX5 79 RX4 yX4_size wsX4_size) := goodIn_app (goodIn_of _ (by decide +kernel)) ggX5_perform_X4_size
set_option maxRecDepth 20000 in
theorem ggX5_perform_X5_isCarriedOut : GoodIn wsX5_perform wsX5_isCarriedOut := goodIn_ca (goodIn_r _ [249, 5, 11, 10, 250, 251, 252, 253, 22, 254, 126, 127, 255, 256, 257, 248, 258, 259, 260, 261, 262, 263, 264, 265, 266, 267, 24, 268, 269, 270, 271, 272, 273, 274, 275, 276, 277, 278, 279, 280, 281, 282, 283, 284, 285, 286, 287, 288, 225, 289, 232, 290, 291, 20, 21, 23, 292, 242, 243, 244, 293, 294, 295, 296, 230, 297, 298, 299, 300, 301, 302, 303, 122, 123, 124, 125, 304, 129, 130, 131, 305, 306, 307, 308, 228, 309, 310, 311, 312, 229, 313, 314, 315, 316, 317, 318, 319, 320, 321, 322, 323, 324, 325, 326, 327, 328, 329, 330, 331, 332, 333, 334, 335, 336, 337, 338, 339, 340, 341, 342, 343, 344, 345, 346, 227, 347, 348, 349, 350, 351, 352, 353, 354, 355, 356, 357, 358, 359, 360, 36, 361, 362, 363, 364, 365, 366, 367, 241, 368, 369, 370, 371, 372, 373, 374, 375, 376, 377, 378, 379, 380, 381, 382, 383, 384, 385, 233, 386, 387, 388, 389, 390, 391, 392, 393, 394, 395, 396, 397, 398, 399, 400, 401, 402, 403, 404, 405, 234, 406, 407, 408, 409, 410, 411, 412, 413, 414, 415, 416, 417, 418, 419, 420, 421, 422, 423, 424, 425, 426, 427, 428, 429, 430, 431, 432, 433, 434, 435, 436, 437, 438, 439, 440, 441, 442, 443, 444, 445, 446, 447, 448, 449, 450, 461, 462, 463, 464, 465, 466, 467, 468, 469, 470, 471, 472, 473, 501, 502, 503, 504, 505, 506, 507, 508, 474, 475, 476, 477, 509, 510, 511, 512] (by decide +kernel) (by decide +kernel)) (goodIn_sub (fun _ h => List.mem_cons_of_mem _ (List.mem_append_right _ h)) (by decide +kernel))
set_option maxRecDepth 20000 in
theorem gX5_perform_X5_isCarriedOut : GoodIn wsX5_perform (wsV RX5 395 RX5 yX5_isCarriedOut wsX5_isCarriedOut) := goodIn_app (goodIn_of _ (by decide +kernel)) ggX5_perform_X5_isCarriedOut
set_option maxRecDepth 20000 in
theorem ggX5_perform_X0_bringSpareBack : GoodIn wsX5_perform wsX0_bringSpareBack := goodIn_r _ [454, 220, 221, 222, 223, 224, 225, 226, 227, 228, 229, 230, 231, 232, 233, 234, 235, 236, 237, 22, 238, 24, 127, 239, 80, 36, 81, 240, 188, 189, 190, 498, 499, 500, 501, 502, 503, 504, 505, 506, 507, 508, 474, 475, 476, 477] (by decide +kernel) (by decide +kernel)
set_option maxRecDepth 20000 in
theorem gX5_perform_X0_bringSpareBack : GoodIn wsX5_perform (wsV RX5 398 RX0 yX0_bringSpareBack wsX0_bringSpareBack) := goodIn_app (goodIn_of _ (by decide +kernel)) ggX5_perform_X0_bringSpareBack
set_option maxRecDepth 20000 in
theorem ggX5_perform_X0_countSpare : GoodIn wsX5_perform wsX0_countSpare := goodIn_r _ [458, 220, 221, 459, 460, 80, 36, 81, 498, 499, 500] (by decide +kernel) (by decide +kernel)
set_option maxRecDepth 20000 in
theorem gX5_perform_X0_countSpare : GoodIn wsX5_perform (wsV RX5 403 RX0 yX0_countSpare wsX0_countSpare) := goodIn_app (goodIn_of _ (by decide +kernel)) ggX5_perform_X0_countSpare
theorem dX5_perform_0 : decode cX5_perform 0 = .ok (.aload_n 0, 1) := by decide +kernel
theorem dX5_perform_1 : decode cX5_perform 1 = .ok (.getfield 36, 3) := by decide +kernel
theorem dX5_perform_4 : decode cX5_perform 4 = .ok (.aload_n 0, 1) := by decide +kernel
theorem dX5_perform_5 : decode cX5_perform 5 = .ok (.getfield 43, 3) := by decide +kernel
theorem dX5_perform_8 : decode cX5_perform 8 = .ok (.invokevirtual 380, 3) := by decide +kernel
theorem dX5_perform_11 : decode cX5_perform 11 = .ok (.istore_n 1, 1) := by decide +kernel
theorem dX5_perform_12 : decode cX5_perform 12 = .ok (.aload_n 0, 1) := by decide +kernel
theorem dX5_perform_13 : decode cX5_perform 13 = .ok (.getfield 43, 3) := by decide +kernel
theorem dX5_perform_16 : decode cX5_perform 16 = .ok (.iconst 0, 1) := by decide +kernel
theorem dX5_perform_17 : decode cX5_perform 17 = .ok (.invokevirtual 343, 3) := by decide +kernel
theorem dX5_perform_20 : decode cX5_perform 20 = .ok (.iload_n 1, 1) := by decide +kernel
theorem dX5_perform_21 : decode cX5_perform 21 = .ok (.ifCond .ne 25, 3) := by decide +kernel
theorem dX5_perform_24 : decode cX5_perform 24 = .ok (.aload_n 0, 1) := by decide +kernel
theorem dX5_perform_25 : decode cX5_perform 25 = .ok (.aload_n 0, 1) := by decide +kernel
theorem dX5_perform_26 : decode cX5_perform 26 = .ok (.getfield 36, 3) := by decide +kernel
theorem dX5_perform_29 : decode cX5_perform 29 = .ok (.getfield 384, 3) := by decide +kernel
theorem dX5_perform_32 : decode cX5_perform 32 = .ok (.putfield 61, 3) := by decide +kernel
theorem dX5_perform_35 : decode cX5_perform 35 = .ok (.new 68, 3) := by decide +kernel
theorem dX5_perform_38 : decode cX5_perform 38 = .ok (.dup, 1) := by decide +kernel
theorem dX5_perform_39 : decode cX5_perform 39 = .ok (.ldc_w 387, 3) := by decide +kernel
theorem dX5_perform_42 : decode cX5_perform 42 = .ok (.invokespecial 72, 3) := by decide +kernel
theorem dX5_perform_45 : decode cX5_perform 45 = .ok (.athrow, 1) := by decide +kernel
theorem dX5_perform_46 : decode cX5_perform 46 = .ok (.aload_n 0, 1) := by decide +kernel
theorem dX5_perform_47 : decode cX5_perform 47 = .ok (.getfield 22, 3) := by decide +kernel
theorem dX5_perform_50 : decode cX5_perform 50 = .ok (.aload_n 0, 1) := by decide +kernel
theorem dX5_perform_51 : decode cX5_perform 51 = .ok (.getfield 10, 3) := by decide +kernel
theorem dX5_perform_54 : decode cX5_perform 54 = .ok (.invokevirtual 389, 3) := by decide +kernel
theorem dX5_perform_57 : decode cX5_perform 57 = .ok (.iconst 0, 1) := by decide +kernel
theorem dX5_perform_58 : decode cX5_perform 58 = .ok (.istore_n 2, 1) := by decide +kernel
theorem dX5_perform_59 : decode cX5_perform 59 = .ok (.iload_n 2, 1) := by decide +kernel
theorem dX5_perform_60 : decode cX5_perform 60 = .ok (.aload_n 0, 1) := by decide +kernel
theorem dX5_perform_61 : decode cX5_perform 61 = .ok (.getfield 36, 3) := by decide +kernel
theorem dX5_perform_64 : decode cX5_perform 64 = .ok (.getfield 392, 3) := by decide +kernel
theorem dX5_perform_67 : decode cX5_perform 67 = .ok (.invokevirtual 79, 3) := by decide +kernel
theorem dX5_perform_70 : decode cX5_perform 70 = .ok (.if_icmp .ge 39, 3) := by decide +kernel
theorem dX5_perform_73 : decode cX5_perform 73 = .ok (.aload_n 0, 1) := by decide +kernel
theorem dX5_perform_74 : decode cX5_perform 74 = .ok (.iload_n 2, 1) := by decide +kernel
theorem dX5_perform_75 : decode cX5_perform 75 = .ok (.invokevirtual 395, 3) := by decide +kernel
theorem dX5_perform_78 : decode cX5_perform 78 = .ok (.ifCond .ne 25, 3) := by decide +kernel
theorem dX5_perform_81 : decode cX5_perform 81 = .ok (.aload_n 0, 1) := by decide +kernel
theorem dX5_perform_82 : decode cX5_perform 82 = .ok (.getfield 22, 3) := by decide +kernel
theorem dX5_perform_85 : decode cX5_perform 85 = .ok (.aload_n 0, 1) := by decide +kernel
theorem dX5_perform_86 : decode cX5_perform 86 = .ok (.getfield 10, 3) := by decide +kernel
theorem dX5_perform_89 : decode cX5_perform 89 = .ok (.invokevirtual 398, 3) := by decide +kernel
theorem dX5_perform_92 : decode cX5_perform 92 = .ok (.new 202, 3) := by decide +kernel
theorem dX5_perform_95 : decode cX5_perform 95 = .ok (.dup, 1) := by decide +kernel
theorem dX5_perform_96 : decode cX5_perform 96 = .ok (.ldc_w 401, 3) := by decide +kernel
theorem dX5_perform_99 : decode cX5_perform 99 = .ok (.invokespecial 206, 3) := by decide +kernel
theorem dX5_perform_102 : decode cX5_perform 102 = .ok (.athrow, 1) := by decide +kernel
theorem dX5_perform_103 : decode cX5_perform 103 = .ok (.iinc 2 1, 3) := by decide +kernel
theorem dX5_perform_106 : decode cX5_perform 106 = .ok (.goto (-47), 3) := by decide +kernel
theorem dX5_perform_109 : decode cX5_perform 109 = .ok (.aload_n 0, 1) := by decide +kernel
theorem dX5_perform_110 : decode cX5_perform 110 = .ok (.getfield 22, 3) := by decide +kernel
theorem dX5_perform_113 : decode cX5_perform 113 = .ok (.invokevirtual 403, 3) := by decide +kernel
theorem dX5_perform_116 : decode cX5_perform 116 = .ok (.aload_n 0, 1) := by decide +kernel
theorem dX5_perform_117 : decode cX5_perform 117 = .ok (.getfield 36, 3) := by decide +kernel
theorem dX5_perform_120 : decode cX5_perform 120 = .ok (.getfield 392, 3) := by decide +kernel
theorem dX5_perform_123 : decode cX5_perform 123 = .ok (.invokevirtual 79, 3) := by decide +kernel
theorem dX5_perform_126 : decode cX5_perform 126 = .ok (.ireturn, 1) := by decide +kernel
theorem dX5_errorPosition_0 : decode cX5_errorPosition 0 = .ok (.aload_n 0, 1) := by decide +kernel
theorem dX5_errorPosition_1 : decode cX5_errorPosition 1 = .ok (.getfield 61, 3) := by decide +kernel
theorem dX5_errorPosition_4 : decode cX5_errorPosition 4 = .ok (.iconst (-1), 1) := by decide +kernel
theorem dX5_errorPosition_5 : decode cX5_errorPosition 5 = .ok (.if_icmp .ne 14, 3) := by decide +kernel
theorem dX5_errorPosition_8 : decode cX5_errorPosition 8 = .ok (.new 171, 3) := by decide +kernel
theorem dX5_errorPosition_11 : decode cX5_errorPosition 11 = .ok (.dup, 1) := by decide +kernel
theorem dX5_errorPosition_12 : decode cX5_errorPosition 12 = .ok (.ldc_w 406, 3) := by decide +kernel
theorem dX5_errorPosition_15 : decode cX5_errorPosition 15 = .ok (.invokespecial 175, 3) := by decide +kernel
theorem dX5_errorPosition_18 : decode cX5_errorPosition 18 = .ok (.athrow, 1) := by decide +kernel
theorem dX5_errorPosition_19 : decode cX5_errorPosition 19 = .ok (.aload_n 0, 1) := by decide +kernel
theorem dX5_errorPosition_20 : decode cX5_errorPosition 20 = .ok (.getfield 61, 3) := by decide +kernel
theorem dX5_errorPosition_23 : decode cX5_errorPosition 23 = .ok (.ireturn, 1) := by decide +kernel
set_option maxRecDepth 20000 in
theorem ggX5_undo_X0_stepBack : GoodIn wsX5_undo wsX0_stepBack := goodIn_r _ [10, 11, 12, 13, 14, 15, 16, 9, 17, 18, 19, 20, 21, 22, 23, 24, 25, 26, 27, 28, 29, 30, 31, 32, 33, 34, 35, 36, 37, 38, 39, 40, 41, 42, 43, 44, 45, 57, 58, 59, 60, 61, 62, 63, 64, 65, 66, 67, 68, 69, 70, 71] (by decide +kernel) (by decide +kernel)
set_option maxRecDepth 20000 in
theorem gX5_undo_X0_stepBack : GoodIn wsX5_undo (wsV RX5 413 RX0 yX0_stepBack wsX0_stepBack) := goodIn_app (goodIn_of _ (by decide +kernel)) ggX5_undo_X0_stepBack
theorem dX5_undo_0 : decode cX5_undo 0 = .ok (.aload_n 0, 1) := by decide +kernel
theorem dX5_undo_1 : decode cX5_undo 1 = .ok (.getfield 22, 3) := by decide +kernel
theorem dX5_undo_4 : decode cX5_undo 4 = .ok (.getfield 408, 3) := by decide +kernel
theorem dX5_undo_7 : decode cX5_undo 7 = .ok (.ifCond .ne 14, 3) := by decide +kernel
theorem dX5_undo_10 : decode cX5_undo 10 = .ok (.new 85, 3) := by decide +kernel
theorem dX5_undo_13 : decode cX5_undo 13 = .ok (.dup, 1) := by decide +kernel
theorem dX5_undo_14 : decode cX5_undo 14 = .ok (.ldc_w 411, 3) := by decide +kernel
theorem dX5_undo_17 : decode cX5_undo 17 = .ok (.invokespecial 89, 3) := by decide +kernel
theorem dX5_undo_20 : decode cX5_undo 20 = .ok (.athrow, 1) := by decide +kernel
theorem dX5_undo_21 : decode cX5_undo 21 = .ok (.aload_n 0, 1) := by decide +kernel
theorem dX5_undo_22 : decode cX5_undo 22 = .ok (.getfield 22, 3) := by decide +kernel
theorem dX5_undo_25 : decode cX5_undo 25 = .ok (.aload_n 0, 1) := by decide +kernel
theorem dX5_undo_26 : decode cX5_undo 26 = .ok (.getfield 10, 3) := by decide +kernel
theorem dX5_undo_29 : decode cX5_undo 29 = .ok (.invokevirtual 413, 3) := by decide +kernel
theorem dX5_undo_32 : decode cX5_undo 32 = .ok (.aload_n 0, 1) := by decide +kernel
theorem dX5_undo_33 : decode cX5_undo 33 = .ok (.getfield 22, 3) := by decide +kernel
theorem dX5_undo_36 : decode cX5_undo 36 = .ok (.getfield 408, 3) := by decide +kernel
theorem dX5_undo_39 : decode cX5_undo 39 = .ok (.ireturn, 1) := by decide +kernel
set_option maxRecDepth 20000 in
theorem ggX5_save_X3_copyFrom : GoodIn wsX5_save wsX3_copyFrom := goodIn_r _ [9, 10, 11, 12, 13, 14, 15, 16, 17, 18, 19, 20, 21, 22, 23, 24, 25, 26, 27, 28, 29, 30, 31, 32, 48, 49, 50, 51, 52, 53, 54, 55, 56, 57, 58, 59] (by decide +kernel) (by decide +kernel)
set_option maxRecDepth 20000 in
theorem gX5_save_X3_copyFrom : GoodIn wsX5_save (wsV RX5 416 RX3 yX3_copyFrom wsX3_copyFrom) := goodIn_app (goodIn_of _ (by decide +kernel)) ggX5_save_X3_copyFrom
set_option maxRecDepth 20000 in
theorem ggX5_save_X4_size : GoodIn wsX5_save wsX4_size := goodIn_r _ [36, 23, 56, 57, 58, 59] (by decide +kernel) (by decide +kernel)
set_option maxRecDepth 20000 in
theorem gX5_save_X4_size : GoodIn wsX5_save (wsV RX5 79 RX4 yX4_size wsX4_size) := goodIn_app (goodIn_of _ (by decide +kernel)) ggX5_save_X4_size
theorem dX5_save_0 : decode cX5_save 0 = .ok (.aload_n 0, 1) := by decide +kernel
theorem dX5_save_1 : decode cX5_save 1 = .ok (.getfield 16, 3) := by decide +kernel
theorem dX5_save_4 : decode cX5_save 4 = .ok (.aload_n 0, 1) := by decide +kernel
theorem dX5_save_5 : decode cX5_save 5 = .ok (.getfield 10, 3) := by decide +kernel
theorem dX5_save_8 : decode cX5_save 8 = .ok (.invokevirtual 416, 3) := by decide +kernel
theorem dX5_save_11 : decode cX5_save 11 = .ok (.aload_n 0, 1) := by decide +kernel
theorem dX5_save_12 : decode cX5_save 12 = .ok (.iconst 1, 1) := by decide +kernel
theorem dX5_save_13 : decode cX5_save 13 = .ok (.putfield 50, 3) := by decide +kernel
theorem dX5_save_16 : decode cX5_save 16 = .ok (.aload_n 0, 1) := by decide +kernel
theorem dX5_save_17 : decode cX5_save 17 = .ok (.getfield 10, 3) := by decide +kernel
theorem dX5_save_20 : decode cX5_save 20 = .ok (.getfield 210, 3) := by decide +kernel
theorem dX5_save_23 : decode cX5_save 23 = .ok (.invokevirtual 79, 3) := by decide +kernel
theorem dX5_save_26 : decode cX5_save 26 = .ok (.ireturn, 1) := by decide +kernel
set_option maxRecDepth 20000 in
theorem ggX5_restore_X3_copyFrom : GoodIn wsX5_restore wsX3_copyFrom := goodIn_r _ [12, 13, 14, 15, 16, 17, 18, 19, 20, 21, 22, 23, 24, 25, 26, 27, 28, 29, 30, 31, 32, 33, 34, 35, 57, 58, 59, 60, 61, 62, 63, 64, 65, 66, 67, 68] (by decide +kernel) (by decide +kernel)
set_option maxRecDepth 20000 in
theorem gX5_restore_X3_copyFrom : GoodIn wsX5_restore (wsV RX5 416 RX3 yX3_copyFrom wsX3_copyFrom) := goodIn_app (goodIn_of _ (by decide +kernel)) ggX5_restore_X3_copyFrom
set_option maxRecDepth 20000 in
theorem ggX5_restore_X0_forget : GoodIn wsX5_restore wsX0_forget := goodIn_r _ [40, 41, 69, 70, 71] (by decide +kernel) (by decide +kernel)
set_option maxRecDepth 20000 in
theorem gX5_restore_X0_forget : GoodIn wsX5_restore (wsV RX5 421 RX0 yX0_forget wsX0_forget) := goodIn_app (goodIn_of _ (by decide +kernel)) ggX5_restore_X0_forget
set_option maxRecDepth 20000 in
theorem ggX5_restore_X4_size : GoodIn wsX5_restore wsX4_size := goodIn_r _ [45, 26, 65, 66, 67, 68] (by decide +kernel) (by decide +kernel)
set_option maxRecDepth 20000 in
theorem gX5_restore_X4_size : GoodIn wsX5_restore (wsV RX5 79 RX4 yX4_size wsX4_size) := goodIn_app (goodIn_of _ (by decide +kernel)) ggX5_restore_X4_size
theorem dX5_restore_0 : decode cX5_restore 0 = .ok (.aload_n 0, 1) := by decide +kernel
theorem dX5_restore_1 : decode cX5_restore 1 = .ok (.getfield 50, 3) := by decide +kernel
theorem dX5_restore_4 : decode cX5_restore 4 = .ok (.ifCond .ne 14, 3) := by decide +kernel
theorem dX5_restore_7 : decode cX5_restore 7 = .ok (.new 85, 3) := by decide +kernel
theorem dX5_restore_10 : decode cX5_restore 10 = .ok (.dup, 1) := by decide +kernel
theorem dX5_restore_11 : decode cX5_restore 11 = .ok (.ldc_w 419, 3) := by decide +kernel
theorem dX5_restore_14 : decode cX5_restore 14 = .ok (.invokespecial 89, 3) := by decide +kernel
theorem dX5_restore_17 : decode cX5_restore 17 = .ok (.athrow, 1) := by decide +kernel
theorem dX5_restore_18 : decode cX5_restore 18 = .ok (.aload_n 0, 1) := by decide +kernel
theorem dX5_restore_19 : decode cX5_restore 19 = .ok (.getfield 10, 3) := by decide +kernel
theorem dX5_restore_22 : decode cX5_restore 22 = .ok (.aload_n 0, 1) := by decide +kernel
theorem dX5_restore_23 : decode cX5_restore 23 = .ok (.getfield 16, 3) := by decide +kernel
theorem dX5_restore_26 : decode cX5_restore 26 = .ok (.invokevirtual 416, 3) := by decide +kernel
theorem dX5_restore_29 : decode cX5_restore 29 = .ok (.aload_n 0, 1) := by decide +kernel
theorem dX5_restore_30 : decode cX5_restore 30 = .ok (.getfield 22, 3) := by decide +kernel
theorem dX5_restore_33 : decode cX5_restore 33 = .ok (.invokevirtual 421, 3) := by decide +kernel
theorem dX5_restore_36 : decode cX5_restore 36 = .ok (.aload_n 0, 1) := by decide +kernel
theorem dX5_restore_37 : decode cX5_restore 37 = .ok (.getfield 10, 3) := by decide +kernel
theorem dX5_restore_40 : decode cX5_restore 40 = .ok (.getfield 210, 3) := by decide +kernel
theorem dX5_restore_43 : decode cX5_restore 43 = .ok (.invokevirtual 79, 3) := by decide +kernel
theorem dX5_restore_46 : decode cX5_restore 46 = .ok (.ireturn, 1) := by decide +kernel
theorem dX5_isWithin_0 : decode cX5_isWithin 0 = .ok (.iload_n 0, 1) := by decide +kernel
theorem dX5_isWithin_1 : decode cX5_isWithin 1 = .ok (.iload_n 1, 1) := by decide +kernel
theorem dX5_isWithin_2 : decode cX5_isWithin 2 = .ok (.if_icmp .lt 12, 3) := by decide +kernel
theorem dX5_isWithin_5 : decode cX5_isWithin 5 = .ok (.iload_n 0, 1) := by decide +kernel
theorem dX5_isWithin_6 : decode cX5_isWithin 6 = .ok (.iload_n 2, 1) := by decide +kernel
theorem dX5_isWithin_7 : decode cX5_isWithin 7 = .ok (.if_icmp .gt 7, 3) := by decide +kernel
theorem dX5_isWithin_10 : decode cX5_isWithin 10 = .ok (.iconst 1, 1) := by decide +kernel
theorem dX5_isWithin_11 : decode cX5_isWithin 11 = .ok (.goto 4, 3) := by decide +kernel
theorem dX5_isWithin_14 : decode cX5_isWithin 14 = .ok (.iconst 0, 1) := by decide +kernel
theorem dX5_isWithin_15 : decode cX5_isWithin 15 = .ok (.ireturn, 1) := by decide +kernel
set_option maxRecDepth 20000 in
theorem ggX5_isDay_X5_isWithin : GoodIn wsX5_isDay wsX5_isWithin := goodIn_r _ [4] (by decide +kernel) (by decide +kernel)
set_option maxRecDepth 20000 in
theorem gX5_isDay_X5_isWithin : GoodIn wsX5_isDay (va_wsS RX5 64 yX5_isWithin wsX5_isWithin) := goodIn_app (goodIn_of _ (by decide +kernel)) ggX5_isDay_X5_isWithin
theorem dX5_isDay_0 : decode cX5_isDay 0 = .ok (.iload_n 0, 1) := by decide +kernel
theorem dX5_isDay_1 : decode cX5_isDay 1 = .ok (.iconst 0, 1) := by decide +kernel
theorem dX5_isDay_2 : decode cX5_isDay 2 = .ok (.bipush 59, 2) := by decide +kernel
theorem dX5_isDay_4 : decode cX5_isDay 4 = .ok (.invokestatic 64, 3) := by decide +kernel
theorem dX5_isDay_7 : decode cX5_isDay 7 = .ok (.ireturn, 1) := by decide +kernel
set_option maxRecDepth 20000 in
theorem ggX5_isMinute_X5_isWithin : GoodIn wsX5_isMinute wsX5_isWithin := goodIn_r _ [4] (by decide +kernel) (by decide +kernel)
set_option maxRecDepth 20000 in
theorem gX5_isMinute_X5_isWithin : GoodIn wsX5_isMinute (va_wsS RX5 64 yX5_isWithin wsX5_isWithin) := goodIn_app (goodIn_of _ (by decide +kernel)) ggX5_isMinute_X5_isWithin
theorem dX5_isMinute_0 : decode cX5_isMinute 0 = .ok (.iload_n 0, 1) := by decide +kernel
theorem dX5_isMinute_1 : decode cX5_isMinute 1 = .ok (.iconst 0, 1) := by decide +kernel
theorem dX5_isMinute_2 : decode cX5_isMinute 2 = .ok (.sipush 959, 3) := by decide +kernel
theorem dX5_isMinute_5 : decode cX5_isMinute 5 = .ok (.invokestatic 64, 3) := by decide +kernel
theorem dX5_isMinute_8 : decode cX5_isMinute 8 = .ok (.ireturn, 1) := by decide +kernel
set_option maxRecDepth 20000 in
theorem ggX5_isRating_X5_isWithin : GoodIn wsX5_isRating wsX5_isWithin := goodIn_r _ [4] (by decide +kernel) (by decide +kernel)
set_option maxRecDepth 20000 in
theorem gX5_isRating_X5_isWithin : GoodIn wsX5_isRating (va_wsS RX5 64 yX5_isWithin wsX5_isWithin) := goodIn_app (goodIn_of _ (by decide +kernel)) ggX5_isRating_X5_isWithin
theorem dX5_isRating_0 : decode cX5_isRating 0 = .ok (.iload_n 0, 1) := by decide +kernel
theorem dX5_isRating_1 : decode cX5_isRating 1 = .ok (.iconst 0, 1) := by decide +kernel
theorem dX5_isRating_2 : decode cX5_isRating 2 = .ok (.iconst 3, 1) := by decide +kernel
theorem dX5_isRating_3 : decode cX5_isRating 3 = .ok (.invokestatic 64, 3) := by decide +kernel
theorem dX5_isRating_6 : decode cX5_isRating 6 = .ok (.ireturn, 1) := by decide +kernel
set_option maxRecDepth 20000 in
theorem ggX5_isGenres_X5_isWithin : GoodIn wsX5_isGenres wsX5_isWithin := goodIn_r _ [4] (by decide +kernel) (by decide +kernel)
set_option maxRecDepth 20000 in
theorem gX5_isGenres_X5_isWithin : GoodIn wsX5_isGenres (va_wsS RX5 64 yX5_isWithin wsX5_isWithin) := goodIn_app (goodIn_of _ (by decide +kernel)) ggX5_isGenres_X5_isWithin
theorem dX5_isGenres_0 : decode cX5_isGenres 0 = .ok (.iload_n 0, 1) := by decide +kernel
theorem dX5_isGenres_1 : decode cX5_isGenres 1 = .ok (.iconst 1, 1) := by decide +kernel
theorem dX5_isGenres_2 : decode cX5_isGenres 2 = .ok (.bipush 63, 2) := by decide +kernel
theorem dX5_isGenres_4 : decode cX5_isGenres 4 = .ok (.invokestatic 64, 3) := by decide +kernel
theorem dX5_isGenres_7 : decode cX5_isGenres 7 = .ok (.ireturn, 1) := by decide +kernel
theorem dX5_refuse_0 : decode cX5_refuse 0 = .ok (.aload_n 0, 1) := by decide +kernel
theorem dX5_refuse_1 : decode cX5_refuse 1 = .ok (.iload_n 1, 1) := by decide +kernel
theorem dX5_refuse_2 : decode cX5_refuse 2 = .ok (.putfield 54, 3) := by decide +kernel
theorem dX5_refuse_5 : decode cX5_refuse 5 = .ok (.aload_n 0, 1) := by decide +kernel
theorem dX5_refuse_6 : decode cX5_refuse 6 = .ok (.iload_n 2, 1) := by decide +kernel
theorem dX5_refuse_7 : decode cX5_refuse 7 = .ok (.putfield 58, 3) := by decide +kernel
theorem dX5_refuse_10 : decode cX5_refuse 10 = .ok (.return_, 1) := by decide +kernel
set_option maxRecDepth 20000 in
theorem ggX5_faultOfPlan_X4_isRow : GoodIn wsX5_faultOfPlan wsX4_isRow := goodIn_r _ [11, 12, 163, 164, 165, 166] (by decide +kernel) (by decide +kernel)
set_option maxRecDepth 20000 in
theorem gX5_faultOfPlan_X4_isRow : GoodIn wsX5_faultOfPlan (wsV RX5 116 RX4 yX4_isRow wsX4_isRow) := goodIn_app (goodIn_of _ (by decide +kernel)) ggX5_faultOfPlan_X4_isRow
set_option maxRecDepth 20000 in
theorem ggX5_faultOfPlan_X5_isDay : GoodIn wsX5_faultOfPlan wsX5_isDay := goodIn_r _ [16, 17, 18, 15, 19] (by decide +kernel) (by decide +kernel)
set_option maxRecDepth 20000 in
theorem gX5_faultOfPlan_X5_isDay : GoodIn wsX5_faultOfPlan (va_wsS RX5 108 yX5_isDay wsX5_isDay) := goodIn_app (goodIn_of _ (by decide +kernel)) ggX5_faultOfPlan_X5_isDay
set_option maxRecDepth 20000 in
theorem ggX5_faultOfPlan_X5_isMinute : GoodIn wsX5_faultOfPlan wsX5_isMinute := goodIn_r _ [22, 17, 18, 15, 19] (by decide +kernel) (by decide +kernel)
set_option maxRecDepth 20000 in
theorem gX5_faultOfPlan_X5_isMinute : GoodIn wsX5_faultOfPlan (va_wsS RX5 215 yX5_isMinute wsX5_isMinute) := goodIn_app (goodIn_of _ (by decide +kernel)) ggX5_faultOfPlan_X5_isMinute
set_option maxRecDepth 20000 in
theorem ggX5_faultOfPlan_X2_takeUp : GoodIn wsX5_faultOfPlan wsX2_takeUp := goodIn_ca (goodIn_r _ [27, 28, 29, 30, 31, 32, 33, 34, 35, 36, 37, 38, 39, 40, 10, 41, 42, 43, 44, 45, 46, 47, 12, 48, 49, 50, 51, 52, 53, 54, 55, 56, 57, 58, 59, 26, 60, 61, 62, 63, 64, 65, 66, 67, 68, 69, 70, 71, 159, 160, 161, 162, 151, 152, 153, 154, 155, 156, 157, 158, 163, 164, 165, 166] (by decide +kernel) (by decide +kernel)) (goodIn_sub (fun _ h => List.mem_cons_of_mem _ (List.mem_append_right _ h)) (by decide +kernel))
set_option maxRecDepth 20000 in
theorem gX5_faultOfPlan_X2_takeUp : GoodIn wsX5_faultOfPlan (wsV RX5 265 RX2 yX2_takeUp wsX2_takeUp) := goodIn_app (goodIn_of _ (by decide +kernel)) ggX5_faultOfPlan_X2_takeUp
set_option maxRecDepth 20000 in
theorem ggX5_faultOfPlan_X3_newMinutes : GoodIn wsX5_faultOfPlan wsX3_newMinutes := goodIn_ca (goodIn_r _ [75, 76, 77, 78, 79, 35, 80, 37, 81, 38, 39, 40, 10, 41, 42, 43, 82, 49, 50, 51, 12, 83, 84, 85, 86, 87, 88, 89, 90, 91, 92, 93, 94, 95, 96, 97, 98, 99, 100, 151, 152, 153, 154, 155, 156, 157, 158, 163, 164, 165, 166] (by decide +kernel) (by decide +kernel)) (goodIn_sub (fun _ h => List.mem_cons_of_mem _ (List.mem_append_right _ h)) (by decide +kernel))
set_option maxRecDepth 20000 in
theorem gX5_faultOfPlan_X3_newMinutes : GoodIn wsX5_faultOfPlan (wsV RX5 269 RX3 yX3_newMinutes wsX3_newMinutes) := goodIn_app (goodIn_of _ (by decide +kernel)) ggX5_faultOfPlan_X3_newMinutes
set_option maxRecDepth 20000 in
theorem ggX5_faultOfPlan_X2_firstBroken : GoodIn wsX5_faultOfPlan wsX2_firstBroken := goodIn_ca (goodIn_r _ [104, 105, 28, 61, 29, 106, 62, 39, 40, 10, 41, 42, 43, 32, 33, 34, 35, 36, 37, 38, 107, 108, 109, 26, 110, 111, 112, 113, 114, 115, 116, 117, 118, 119, 120, 30, 48, 49, 50, 51, 12, 121, 122, 123, 124, 125, 126, 127, 128, 129, 130, 131, 132, 151, 152, 153, 154, 155, 156, 157, 158, 159, 160, 161, 162, 163, 164, 165, 166] (by decide +kernel) (by decide +kernel)) (goodIn_sub (fun _ h => List.mem_cons_of_mem _ (List.mem_append_right _ h)) (by decide +kernel))
set_option maxRecDepth 20000 in
theorem gX5_faultOfPlan_X2_firstBroken : GoodIn wsX5_faultOfPlan (wsV RX5 272 RX2 yX2_firstBroken wsX2_firstBroken) := goodIn_app (goodIn_of _ (by decide +kernel)) ggX5_faultOfPlan_X2_firstBroken
set_option maxRecDepth 20000 in
theorem ggX5_faultOfPlan_X5_refuse : GoodIn wsX5_faultOfPlan wsX5_refuse := goodIn_r _ [136, 137, 138, 140, 141, 142, 143, 144, 145, 146, 147, 148, 149, 150] (by decide +kernel) (by decide +kernel)
set_option maxRecDepth 20000 in
theorem gX5_faultOfPlan_X5_refuse : GoodIn wsX5_faultOfPlan (wsV RX5 424 RX5 yX5_refuse wsX5_refuse) := goodIn_app (goodIn_of _ (by decide +kernel)) ggX5_faultOfPlan_X5_refuse
set_option maxRecDepth 20000 in
theorem ggX5_faultOfPlan_X4_size : GoodIn wsX5_faultOfPlan wsX4_size := goodIn_r _ [51, 12, 163, 164, 165, 166] (by decide +kernel) (by decide +kernel)
set_option maxRecDepth 20000 in
theorem gX5_faultOfPlan_X4_size : GoodIn wsX5_faultOfPlan (wsV RX5 79 RX4 yX4_size wsX4_size) := goodIn_app (goodIn_of _ (by decide +kernel)) ggX5_faultOfPlan_X4_size
theorem dX5_faultOfPlan_0 : decode cX5_faultOfPlan 0 = .ok (.aload_n 0, 1) := by decide +kernel
theorem dX5_faultOfPlan_1 : decode cX5_faultOfPlan 1 = .ok (.getfield 10, 3) := by decide +kernel
theorem dX5_faultOfPlan_4 : decode cX5_faultOfPlan 4 = .ok (.getfield 75, 3) := by decide +kernel
theorem dX5_faultOfPlan_7 : decode cX5_faultOfPlan 7 = .ok (.iload_n 1, 1) := by decide +kernel
theorem dX5_faultOfPlan_8 : decode cX5_faultOfPlan 8 = .ok (.invokevirtual 116, 3) := by decide +kernel
theorem dX5_faultOfPlan_11 : decode cX5_faultOfPlan 11 = .ok (.ifCond .eq 17, 3) := by decide +kernel
theorem dX5_faultOfPlan_14 : decode cX5_faultOfPlan 14 = .ok (.aload_n 0, 1) := by decide +kernel
theorem dX5_faultOfPlan_15 : decode cX5_faultOfPlan 15 = .ok (.getfield 10, 3) := by decide +kernel
theorem dX5_faultOfPlan_18 : decode cX5_faultOfPlan 18 = .ok (.getfield 111, 3) := by decide +kernel
theorem dX5_faultOfPlan_21 : decode cX5_faultOfPlan 21 = .ok (.iload_n 2, 1) := by decide +kernel
theorem dX5_faultOfPlan_22 : decode cX5_faultOfPlan 22 = .ok (.invokevirtual 116, 3) := by decide +kernel
theorem dX5_faultOfPlan_25 : decode cX5_faultOfPlan 25 = .ok (.ifCond .ne 5, 3) := by decide +kernel
theorem dX5_faultOfPlan_28 : decode cX5_faultOfPlan 28 = .ok (.iconst 1, 1) := by decide +kernel
theorem dX5_faultOfPlan_29 : decode cX5_faultOfPlan 29 = .ok (.ireturn, 1) := by decide +kernel
theorem dX5_faultOfPlan_30 : decode cX5_faultOfPlan 30 = .ok (.iload_n 3, 1) := by decide +kernel
theorem dX5_faultOfPlan_31 : decode cX5_faultOfPlan 31 = .ok (.invokestatic 108, 3) := by decide +kernel
theorem dX5_faultOfPlan_34 : decode cX5_faultOfPlan 34 = .ok (.ifCond .eq 11, 3) := by decide +kernel
theorem dX5_faultOfPlan_37 : decode cX5_faultOfPlan 37 = .ok (.iload 4, 2) := by decide +kernel
theorem dX5_faultOfPlan_39 : decode cX5_faultOfPlan 39 = .ok (.invokestatic 215, 3) := by decide +kernel
theorem dX5_faultOfPlan_42 : decode cX5_faultOfPlan 42 = .ok (.ifCond .ne 5, 3) := by decide +kernel
theorem dX5_faultOfPlan_45 : decode cX5_faultOfPlan 45 = .ok (.iconst 2, 1) := by decide +kernel
theorem dX5_faultOfPlan_46 : decode cX5_faultOfPlan 46 = .ok (.ireturn, 1) := by decide +kernel
theorem dX5_faultOfPlan_47 : decode cX5_faultOfPlan 47 = .ok (.aload_n 0, 1) := by decide +kernel
theorem dX5_faultOfPlan_48 : decode cX5_faultOfPlan 48 = .ok (.getfield 29, 3) := by decide +kernel
theorem dX5_faultOfPlan_51 : decode cX5_faultOfPlan 51 = .ok (.aload_n 0, 1) := by decide +kernel
theorem dX5_faultOfPlan_52 : decode cX5_faultOfPlan 52 = .ok (.getfield 10, 3) := by decide +kernel
theorem dX5_faultOfPlan_55 : decode cX5_faultOfPlan 55 = .ok (.iconst (-1), 1) := by decide +kernel
theorem dX5_faultOfPlan_56 : decode cX5_faultOfPlan 56 = .ok (.iload_n 2, 1) := by decide +kernel
theorem dX5_faultOfPlan_57 : decode cX5_faultOfPlan 57 = .ok (.iload_n 3, 1) := by decide +kernel
theorem dX5_faultOfPlan_58 : decode cX5_faultOfPlan 58 = .ok (.invokevirtual 265, 3) := by decide +kernel
theorem dX5_faultOfPlan_61 : decode cX5_faultOfPlan 61 = .ok (.aload_n 0, 1) := by decide +kernel
theorem dX5_faultOfPlan_62 : decode cX5_faultOfPlan 62 = .ok (.getfield 29, 3) := by decide +kernel
theorem dX5_faultOfPlan_65 : decode cX5_faultOfPlan 65 = .ok (.aload_n 0, 1) := by decide +kernel
theorem dX5_faultOfPlan_66 : decode cX5_faultOfPlan 66 = .ok (.getfield 10, 3) := by decide +kernel
theorem dX5_faultOfPlan_69 : decode cX5_faultOfPlan 69 = .ok (.iload_n 1, 1) := by decide +kernel
theorem dX5_faultOfPlan_70 : decode cX5_faultOfPlan 70 = .ok (.iload 4, 2) := by decide +kernel
theorem dX5_faultOfPlan_72 : decode cX5_faultOfPlan 72 = .ok (.iload 4, 2) := by decide +kernel
theorem dX5_faultOfPlan_74 : decode cX5_faultOfPlan 74 = .ok (.aload_n 0, 1) := by decide +kernel
theorem dX5_faultOfPlan_75 : decode cX5_faultOfPlan 75 = .ok (.getfield 10, 3) := by decide +kernel
theorem dX5_faultOfPlan_78 : decode cX5_faultOfPlan 78 = .ok (.iload_n 2, 1) := by decide +kernel
theorem dX5_faultOfPlan_79 : decode cX5_faultOfPlan 79 = .ok (.iload_n 3, 1) := by decide +kernel
theorem dX5_faultOfPlan_80 : decode cX5_faultOfPlan 80 = .ok (.invokevirtual 269, 3) := by decide +kernel
theorem dX5_faultOfPlan_83 : decode cX5_faultOfPlan 83 = .ok (.iadd, 1) := by decide +kernel
theorem dX5_faultOfPlan_84 : decode cX5_faultOfPlan 84 = .ok (.invokevirtual 272, 3) := by decide +kernel
theorem dX5_faultOfPlan_87 : decode cX5_faultOfPlan 87 = .ok (.istore 5, 2) := by decide +kernel
theorem dX5_faultOfPlan_89 : decode cX5_faultOfPlan 89 = .ok (.iload 5, 2) := by decide +kernel
theorem dX5_faultOfPlan_91 : decode cX5_faultOfPlan 91 = .ok (.ifCond .eq 18, 3) := by decide +kernel
theorem dX5_faultOfPlan_94 : decode cX5_faultOfPlan 94 = .ok (.aload_n 0, 1) := by decide +kernel
theorem dX5_faultOfPlan_95 : decode cX5_faultOfPlan 95 = .ok (.iload 5, 2) := by decide +kernel
theorem dX5_faultOfPlan_97 : decode cX5_faultOfPlan 97 = .ok (.aload_n 0, 1) := by decide +kernel
theorem dX5_faultOfPlan_98 : decode cX5_faultOfPlan 98 = .ok (.getfield 29, 3) := by decide +kernel
theorem dX5_faultOfPlan_101 : decode cX5_faultOfPlan 101 = .ok (.getfield 276, 3) := by decide +kernel
theorem dX5_faultOfPlan_104 : decode cX5_faultOfPlan 104 = .ok (.invokevirtual 424, 3) := by decide +kernel
theorem dX5_faultOfPlan_107 : decode cX5_faultOfPlan 107 = .ok (.iconst 4, 1) := by decide +kernel
theorem dX5_faultOfPlan_108 : decode cX5_faultOfPlan 108 = .ok (.ireturn, 1) := by decide +kernel
theorem dX5_faultOfPlan_109 : decode cX5_faultOfPlan 109 = .ok (.aload_n 0, 1) := by decide +kernel
theorem dX5_faultOfPlan_110 : decode cX5_faultOfPlan 110 = .ok (.getfield 10, 3) := by decide +kernel
theorem dX5_faultOfPlan_113 : decode cX5_faultOfPlan 113 = .ok (.getfield 210, 3) := by decide +kernel
theorem dX5_faultOfPlan_116 : decode cX5_faultOfPlan 116 = .ok (.invokevirtual 79, 3) := by decide +kernel
theorem dX5_faultOfPlan_119 : decode cX5_faultOfPlan 119 = .ok (.bipush 30, 2) := by decide +kernel
theorem dX5_faultOfPlan_121 : decode cX5_faultOfPlan 121 = .ok (.if_icmp .lt 13, 3) := by decide +kernel
theorem dX5_faultOfPlan_124 : decode cX5_faultOfPlan 124 = .ok (.aload_n 0, 1) := by decide +kernel
theorem dX5_faultOfPlan_125 : decode cX5_faultOfPlan 125 = .ok (.bipush 10, 2) := by decide +kernel
theorem dX5_faultOfPlan_127 : decode cX5_faultOfPlan 127 = .ok (.bipush 30, 2) := by decide +kernel
theorem dX5_faultOfPlan_129 : decode cX5_faultOfPlan 129 = .ok (.invokevirtual 424, 3) := by decide +kernel
theorem dX5_faultOfPlan_132 : decode cX5_faultOfPlan 132 = .ok (.iconst 4, 1) := by decide +kernel
theorem dX5_faultOfPlan_133 : decode cX5_faultOfPlan 133 = .ok (.ireturn, 1) := by decide +kernel
theorem dX5_faultOfPlan_134 : decode cX5_faultOfPlan 134 = .ok (.iconst 0, 1) := by decide +kernel
theorem dX5_faultOfPlan_135 : decode cX5_faultOfPlan 135 = .ok (.ireturn, 1) := by decide +kernel
set_option maxRecDepth 20000 in
theorem ggX5_isMoveRefused_X4_get : GoodIn wsX5_isMoveRefused wsX4_get := goodIn_ca (goodIn_r _ [10, 11, 12, 124, 125, 126, 127] (by decide +kernel) (by decide +kernel)) (goodIn_sub (fun _ h => List.mem_cons_of_mem _ (List.mem_append_right _ h)) (by decide +kernel))
set_option maxRecDepth 20000 in
theorem gX5_isMoveRefused_X4_get : GoodIn wsX5_isMoveRefused (wsV RX5 126 RX4 yX4_get wsX4_get) := goodIn_app (goodIn_of _ (by decide +kernel)) ggX5_isMoveRefused_X4_get
set_option maxRecDepth 20000 in
theorem ggX5_isMoveRefused_X5_refuse : GoodIn wsX5_isMoveRefused wsX5_refuse := goodIn_r _ [17, 18, 19, 101, 102, 103, 104, 105, 106, 107, 108, 109, 110, 111] (by decide +kernel) (by decide +kernel)
set_option maxRecDepth 20000 in
theorem gX5_isMoveRefused_X5_refuse : GoodIn wsX5_isMoveRefused (wsV RX5 424 RX5 yX5_refuse wsX5_refuse) := goodIn_app (goodIn_of _ (by decide +kernel)) ggX5_isMoveRefused_X5_refuse
set_option maxRecDepth 20000 in
theorem ggX5_isMoveRefused_X2_takeUp : GoodIn wsX5_isMoveRefused wsX2_takeUp := goodIn_ca (goodIn_r _ [24, 25, 26, 27, 28, 29, 30, 31, 32, 33, 34, 35, 7, 8, 9, 10, 11, 12, 36, 37, 38, 39, 40, 41, 42, 43, 44, 45, 46, 47, 48, 49, 50, 51, 52, 23, 53, 54, 55, 56, 57, 58, 59, 60, 61, 62, 63, 64, 120, 121, 122, 123, 112, 113, 114, 115, 116, 117, 118, 119, 124, 125, 126, 127] (by decide +kernel) (by decide +kernel)) (goodIn_sub (fun _ h => List.mem_cons_of_mem _ (List.mem_append_right _ h)) (by decide +kernel))
set_option maxRecDepth 20000 in
theorem gX5_isMoveRefused_X2_takeUp : GoodIn wsX5_isMoveRefused (wsV RX5 265 RX2 yX2_takeUp wsX2_takeUp) := goodIn_app (goodIn_of _ (by decide +kernel)) ggX5_isMoveRefused_X2_takeUp
set_option maxRecDepth 20000 in
theorem ggX5_isMoveRefused_X3_minutesOf : GoodIn wsX5_isMoveRefused wsX3_minutesOf := goodIn_ca (goodIn_r _ [68, 49, 35, 7, 8, 9, 10, 11, 12, 112, 113, 114, 115, 116, 117, 118, 119, 124, 125, 126, 127] (by decide +kernel) (by decide +kernel)) (goodIn_sub (fun _ h => List.mem_cons_of_mem _ (List.mem_append_right _ h)) (by decide +kernel))
set_option maxRecDepth 20000 in
theorem gX5_isMoveRefused_X3_minutesOf : GoodIn wsX5_isMoveRefused (wsV RX5 428 RX3 yX3_minutesOf wsX3_minutesOf) := goodIn_app (goodIn_of _ (by decide +kernel)) ggX5_isMoveRefused_X3_minutesOf
set_option maxRecDepth 20000 in
theorem ggX5_isMoveRefused_X2_firstBroken : GoodIn wsX5_isMoveRefused wsX2_firstBroken := goodIn_ca (goodIn_r _ [72, 73, 25, 54, 26, 74, 55, 7, 8, 9, 10, 11, 12, 29, 30, 31, 32, 33, 34, 35, 75, 76, 77, 23, 78, 79, 80, 81, 82, 83, 84, 85, 86, 87, 88, 27, 41, 42, 43, 44, 40, 89, 90, 91, 92, 93, 94, 95, 96, 97, 98, 99, 100, 112, 113, 114, 115, 116, 117, 118, 119, 120, 121, 122, 123, 124, 125, 126, 127] (by decide +kernel) (by decide +kernel)) (goodIn_sub (fun _ h => List.mem_cons_of_mem _ (List.mem_append_right _ h)) (by decide +kernel))
set_option maxRecDepth 20000 in
theorem gX5_isMoveRefused_X2_firstBroken : GoodIn wsX5_isMoveRefused (wsV RX5 272 RX2 yX2_firstBroken wsX2_firstBroken) := goodIn_app (goodIn_of _ (by decide +kernel)) ggX5_isMoveRefused_X2_firstBroken
theorem dX5_isMoveRefused_0 : decode cX5_isMoveRefused 0 = .ok (.aload_n 0, 1) := by decide +kernel
theorem dX5_isMoveRefused_1 : decode cX5_isMoveRefused 1 = .ok (.getfield 10, 3) := by decide +kernel
theorem dX5_isMoveRefused_4 : decode cX5_isMoveRefused 4 = .ok (.getfield 75, 3) := by decide +kernel
theorem dX5_isMoveRefused_7 : decode cX5_isMoveRefused 7 = .ok (.iload_n 2, 1) := by decide +kernel
theorem dX5_isMoveRefused_8 : decode cX5_isMoveRefused 8 = .ok (.iconst 0, 1) := by decide +kernel
theorem dX5_isMoveRefused_9 : decode cX5_isMoveRefused 9 = .ok (.invokevirtual 126, 3) := by decide +kernel
theorem dX5_isMoveRefused_12 : decode cX5_isMoveRefused 12 = .ok (.istore 4, 2) := by decide +kernel
theorem dX5_isMoveRefused_14 : decode cX5_isMoveRefused 14 = .ok (.iload 4, 2) := by decide +kernel
theorem dX5_isMoveRefused_16 : decode cX5_isMoveRefused 16 = .ok (.aload_n 0, 1) := by decide +kernel
theorem dX5_isMoveRefused_17 : decode cX5_isMoveRefused 17 = .ok (.getfield 10, 3) := by decide +kernel
theorem dX5_isMoveRefused_20 : decode cX5_isMoveRefused 20 = .ok (.getfield 210, 3) := by decide +kernel
theorem dX5_isMoveRefused_23 : decode cX5_isMoveRefused 23 = .ok (.iload_n 1, 1) := by decide +kernel
theorem dX5_isMoveRefused_24 : decode cX5_isMoveRefused 24 = .ok (.iconst 5, 1) := by decide +kernel
theorem dX5_isMoveRefused_25 : decode cX5_isMoveRefused 25 = .ok (.invokevirtual 126, 3) := by decide +kernel
theorem dX5_isMoveRefused_28 : decode cX5_isMoveRefused 28 = .ok (.if_icmp .ge 13, 3) := by decide +kernel
theorem dX5_isMoveRefused_31 : decode cX5_isMoveRefused 31 = .ok (.aload_n 0, 1) := by decide +kernel
theorem dX5_isMoveRefused_32 : decode cX5_isMoveRefused 32 = .ok (.bipush 11, 2) := by decide +kernel
theorem dX5_isMoveRefused_34 : decode cX5_isMoveRefused 34 = .ok (.iload 4, 2) := by decide +kernel
theorem dX5_isMoveRefused_36 : decode cX5_isMoveRefused 36 = .ok (.invokevirtual 424, 3) := by decide +kernel
theorem dX5_isMoveRefused_39 : decode cX5_isMoveRefused 39 = .ok (.iconst 1, 1) := by decide +kernel
theorem dX5_isMoveRefused_40 : decode cX5_isMoveRefused 40 = .ok (.ireturn, 1) := by decide +kernel
theorem dX5_isMoveRefused_41 : decode cX5_isMoveRefused 41 = .ok (.aload_n 0, 1) := by decide +kernel
theorem dX5_isMoveRefused_42 : decode cX5_isMoveRefused 42 = .ok (.getfield 29, 3) := by decide +kernel
theorem dX5_isMoveRefused_45 : decode cX5_isMoveRefused 45 = .ok (.aload_n 0, 1) := by decide +kernel
theorem dX5_isMoveRefused_46 : decode cX5_isMoveRefused 46 = .ok (.getfield 10, 3) := by decide +kernel
theorem dX5_isMoveRefused_49 : decode cX5_isMoveRefused 49 = .ok (.iload_n 1, 1) := by decide +kernel
theorem dX5_isMoveRefused_50 : decode cX5_isMoveRefused 50 = .ok (.aload_n 0, 1) := by decide +kernel
theorem dX5_isMoveRefused_51 : decode cX5_isMoveRefused 51 = .ok (.getfield 10, 3) := by decide +kernel
theorem dX5_isMoveRefused_54 : decode cX5_isMoveRefused 54 = .ok (.getfield 210, 3) := by decide +kernel
theorem dX5_isMoveRefused_57 : decode cX5_isMoveRefused 57 = .ok (.iload_n 1, 1) := by decide +kernel
theorem dX5_isMoveRefused_58 : decode cX5_isMoveRefused 58 = .ok (.iconst 1, 1) := by decide +kernel
theorem dX5_isMoveRefused_59 : decode cX5_isMoveRefused 59 = .ok (.invokevirtual 126, 3) := by decide +kernel
theorem dX5_isMoveRefused_62 : decode cX5_isMoveRefused 62 = .ok (.aload_n 0, 1) := by decide +kernel
theorem dX5_isMoveRefused_63 : decode cX5_isMoveRefused 63 = .ok (.getfield 10, 3) := by decide +kernel
theorem dX5_isMoveRefused_66 : decode cX5_isMoveRefused 66 = .ok (.getfield 210, 3) := by decide +kernel
theorem dX5_isMoveRefused_69 : decode cX5_isMoveRefused 69 = .ok (.iload_n 1, 1) := by decide +kernel
theorem dX5_isMoveRefused_70 : decode cX5_isMoveRefused 70 = .ok (.iconst 2, 1) := by decide +kernel
theorem dX5_isMoveRefused_71 : decode cX5_isMoveRefused 71 = .ok (.invokevirtual 126, 3) := by decide +kernel
theorem dX5_isMoveRefused_74 : decode cX5_isMoveRefused 74 = .ok (.invokevirtual 265, 3) := by decide +kernel
theorem dX5_isMoveRefused_77 : decode cX5_isMoveRefused 77 = .ok (.aload_n 0, 1) := by decide +kernel
theorem dX5_isMoveRefused_78 : decode cX5_isMoveRefused 78 = .ok (.getfield 29, 3) := by decide +kernel
theorem dX5_isMoveRefused_81 : decode cX5_isMoveRefused 81 = .ok (.aload_n 0, 1) := by decide +kernel
theorem dX5_isMoveRefused_82 : decode cX5_isMoveRefused 82 = .ok (.getfield 10, 3) := by decide +kernel
theorem dX5_isMoveRefused_85 : decode cX5_isMoveRefused 85 = .ok (.iload_n 2, 1) := by decide +kernel
theorem dX5_isMoveRefused_86 : decode cX5_isMoveRefused 86 = .ok (.iload_n 3, 1) := by decide +kernel
theorem dX5_isMoveRefused_87 : decode cX5_isMoveRefused 87 = .ok (.iload_n 3, 1) := by decide +kernel
theorem dX5_isMoveRefused_88 : decode cX5_isMoveRefused 88 = .ok (.aload_n 0, 1) := by decide +kernel
theorem dX5_isMoveRefused_89 : decode cX5_isMoveRefused 89 = .ok (.getfield 10, 3) := by decide +kernel
theorem dX5_isMoveRefused_92 : decode cX5_isMoveRefused 92 = .ok (.iload_n 1, 1) := by decide +kernel
theorem dX5_isMoveRefused_93 : decode cX5_isMoveRefused 93 = .ok (.invokevirtual 428, 3) := by decide +kernel
theorem dX5_isMoveRefused_96 : decode cX5_isMoveRefused 96 = .ok (.iadd, 1) := by decide +kernel
theorem dX5_isMoveRefused_97 : decode cX5_isMoveRefused 97 = .ok (.invokevirtual 272, 3) := by decide +kernel
theorem dX5_isMoveRefused_100 : decode cX5_isMoveRefused 100 = .ok (.istore 5, 2) := by decide +kernel
theorem dX5_isMoveRefused_102 : decode cX5_isMoveRefused 102 = .ok (.iload 5, 2) := by decide +kernel
theorem dX5_isMoveRefused_104 : decode cX5_isMoveRefused 104 = .ok (.ifCond .eq 16, 3) := by decide +kernel
theorem dX5_isMoveRefused_107 : decode cX5_isMoveRefused 107 = .ok (.aload_n 0, 1) := by decide +kernel
theorem dX5_isMoveRefused_108 : decode cX5_isMoveRefused 108 = .ok (.iload 5, 2) := by decide +kernel
theorem dX5_isMoveRefused_110 : decode cX5_isMoveRefused 110 = .ok (.aload_n 0, 1) := by decide +kernel
theorem dX5_isMoveRefused_111 : decode cX5_isMoveRefused 111 = .ok (.getfield 29, 3) := by decide +kernel
theorem dX5_isMoveRefused_114 : decode cX5_isMoveRefused 114 = .ok (.getfield 276, 3) := by decide +kernel
theorem dX5_isMoveRefused_117 : decode cX5_isMoveRefused 117 = .ok (.invokevirtual 424, 3) := by decide +kernel
theorem dX5_isMoveRefused_120 : decode cX5_isMoveRefused 120 = .ok (.iload 5, 2) := by decide +kernel
theorem dX5_isMoveRefused_122 : decode cX5_isMoveRefused 122 = .ok (.ifCond .eq 7, 3) := by decide +kernel
theorem dX5_isMoveRefused_125 : decode cX5_isMoveRefused 125 = .ok (.iconst 1, 1) := by decide +kernel
theorem dX5_isMoveRefused_126 : decode cX5_isMoveRefused 126 = .ok (.goto 4, 3) := by decide +kernel
theorem dX5_isMoveRefused_129 : decode cX5_isMoveRefused 129 = .ok (.iconst 0, 1) := by decide +kernel
theorem dX5_isMoveRefused_130 : decode cX5_isMoveRefused 130 = .ok (.ireturn, 1) := by decide +kernel
set_option maxRecDepth 20000 in
theorem ggX5_faultOfSell_X4_isRow : GoodIn wsX5_faultOfSell wsX4_isRow := goodIn_r _ [7, 8, 65, 66, 67, 68] (by decide +kernel) (by decide +kernel)
set_option maxRecDepth 20000 in
theorem gX5_faultOfSell_X4_isRow : GoodIn wsX5_faultOfSell (wsV RX5 116 RX4 yX4_isRow wsX4_isRow) := goodIn_app (goodIn_of _ (by decide +kernel)) ggX5_faultOfSell_X4_isRow
set_option maxRecDepth 20000 in
theorem ggX5_faultOfSell_X5_isWithin : GoodIn wsX5_faultOfSell wsX5_isWithin := goodIn_r _ [12] (by decide +kernel) (by decide +kernel)
set_option maxRecDepth 20000 in
theorem gX5_faultOfSell_X5_isWithin : GoodIn wsX5_faultOfSell (va_wsS RX5 64 yX5_isWithin wsX5_isWithin) := goodIn_app (goodIn_of _ (by decide +kernel)) ggX5_faultOfSell_X5_isWithin
set_option maxRecDepth 20000 in
theorem ggX5_faultOfSell_X3_isOpen : GoodIn wsX5_faultOfSell wsX3_isOpen := goodIn_ca (goodIn_r _ [17, 18, 19, 20, 16, 21, 22, 23, 24, 25, 26, 27, 28, 29, 30, 6, 31, 32, 33, 57, 58, 59, 60, 61, 62, 63, 64, 65, 66, 67, 68] (by decide +kernel) (by decide +kernel)) (goodIn_sub (fun _ h => List.mem_cons_of_mem _ (List.mem_append_right _ h)) (by decide +kernel))
set_option maxRecDepth 20000 in
theorem gX5_faultOfSell_X3_isOpen : GoodIn wsX5_faultOfSell (wsV RX5 220 RX3 yX3_isOpen wsX3_isOpen) := goodIn_app (goodIn_of _ (by decide +kernel)) ggX5_faultOfSell_X3_isOpen
set_option maxRecDepth 20000 in
theorem ggX5_faultOfSell_X3_seatsOf : GoodIn wsX5_faultOfSell wsX3_seatsOf := goodIn_ca (goodIn_r _ [37, 38, 22, 28, 29, 30, 6, 31, 32, 33, 57, 58, 59, 60, 61, 62, 63, 64, 65, 66, 67, 68] (by decide +kernel) (by decide +kernel)) (goodIn_sub (fun _ h => List.mem_cons_of_mem _ (List.mem_append_right _ h)) (by decide +kernel))
set_option maxRecDepth 20000 in
theorem gX5_faultOfSell_X3_seatsOf : GoodIn wsX5_faultOfSell (wsV RX5 431 RX3 yX3_seatsOf wsX3_seatsOf) := goodIn_app (goodIn_of _ (by decide +kernel)) ggX5_faultOfSell_X3_seatsOf
set_option maxRecDepth 20000 in
theorem ggX5_faultOfSell_X4_get : GoodIn wsX5_faultOfSell wsX4_get := goodIn_ca (goodIn_r _ [31, 32, 33, 65, 66, 67, 68] (by decide +kernel) (by decide +kernel)) (goodIn_sub (fun _ h => List.mem_cons_of_mem _ (List.mem_append_right _ h)) (by decide +kernel))
set_option maxRecDepth 20000 in
theorem gX5_faultOfSell_X4_get : GoodIn wsX5_faultOfSell (wsV RX5 126 RX4 yX4_get wsX4_get) := goodIn_app (goodIn_of _ (by decide +kernel)) ggX5_faultOfSell_X4_get
set_option maxRecDepth 20000 in
theorem ggX5_faultOfSell_X5_refuse : GoodIn wsX5_faultOfSell wsX5_refuse := goodIn_r _ [43, 44, 45, 46, 47, 48, 49, 50, 51, 52, 53, 54, 55, 56] (by decide +kernel) (by decide +kernel)
set_option maxRecDepth 20000 in
theorem gX5_faultOfSell_X5_refuse : GoodIn wsX5_faultOfSell (wsV RX5 424 RX5 yX5_refuse wsX5_refuse) := goodIn_app (goodIn_of _ (by decide +kernel)) ggX5_faultOfSell_X5_refuse
theorem dX5_faultOfSell_0 : decode cX5_faultOfSell 0 = .ok (.aload_n 0, 1) := by decide +kernel
theorem dX5_faultOfSell_1 : decode cX5_faultOfSell 1 = .ok (.getfield 10, 3) := by decide +kernel
theorem dX5_faultOfSell_4 : decode cX5_faultOfSell 4 = .ok (.getfield 210, 3) := by decide +kernel
theorem dX5_faultOfSell_7 : decode cX5_faultOfSell 7 = .ok (.iload_n 1, 1) := by decide +kernel
theorem dX5_faultOfSell_8 : decode cX5_faultOfSell 8 = .ok (.invokevirtual 116, 3) := by decide +kernel
theorem dX5_faultOfSell_11 : decode cX5_faultOfSell 11 = .ok (.ifCond .ne 5, 3) := by decide +kernel
theorem dX5_faultOfSell_14 : decode cX5_faultOfSell 14 = .ok (.iconst 1, 1) := by decide +kernel
theorem dX5_faultOfSell_15 : decode cX5_faultOfSell 15 = .ok (.ireturn, 1) := by decide +kernel
theorem dX5_faultOfSell_16 : decode cX5_faultOfSell 16 = .ok (.iload_n 2, 1) := by decide +kernel
theorem dX5_faultOfSell_17 : decode cX5_faultOfSell 17 = .ok (.iconst 1, 1) := by decide +kernel
theorem dX5_faultOfSell_18 : decode cX5_faultOfSell 18 = .ok (.sipush 400, 3) := by decide +kernel
theorem dX5_faultOfSell_21 : decode cX5_faultOfSell 21 = .ok (.invokestatic 64, 3) := by decide +kernel
theorem dX5_faultOfSell_24 : decode cX5_faultOfSell 24 = .ok (.ifCond .ne 5, 3) := by decide +kernel
theorem dX5_faultOfSell_27 : decode cX5_faultOfSell 27 = .ok (.iconst 2, 1) := by decide +kernel
theorem dX5_faultOfSell_28 : decode cX5_faultOfSell 28 = .ok (.ireturn, 1) := by decide +kernel
theorem dX5_faultOfSell_29 : decode cX5_faultOfSell 29 = .ok (.aload_n 0, 1) := by decide +kernel
theorem dX5_faultOfSell_30 : decode cX5_faultOfSell 30 = .ok (.getfield 10, 3) := by decide +kernel
theorem dX5_faultOfSell_33 : decode cX5_faultOfSell 33 = .ok (.iload_n 1, 1) := by decide +kernel
theorem dX5_faultOfSell_34 : decode cX5_faultOfSell 34 = .ok (.invokevirtual 220, 3) := by decide +kernel
theorem dX5_faultOfSell_37 : decode cX5_faultOfSell 37 = .ok (.ifCond .ne 5, 3) := by decide +kernel
theorem dX5_faultOfSell_40 : decode cX5_faultOfSell 40 = .ok (.iconst 3, 1) := by decide +kernel
theorem dX5_faultOfSell_41 : decode cX5_faultOfSell 41 = .ok (.ireturn, 1) := by decide +kernel
theorem dX5_faultOfSell_42 : decode cX5_faultOfSell 42 = .ok (.aload_n 0, 1) := by decide +kernel
theorem dX5_faultOfSell_43 : decode cX5_faultOfSell 43 = .ok (.getfield 10, 3) := by decide +kernel
theorem dX5_faultOfSell_46 : decode cX5_faultOfSell 46 = .ok (.iload_n 1, 1) := by decide +kernel
theorem dX5_faultOfSell_47 : decode cX5_faultOfSell 47 = .ok (.invokevirtual 431, 3) := by decide +kernel
theorem dX5_faultOfSell_50 : decode cX5_faultOfSell 50 = .ok (.aload_n 0, 1) := by decide +kernel
theorem dX5_faultOfSell_51 : decode cX5_faultOfSell 51 = .ok (.getfield 10, 3) := by decide +kernel
theorem dX5_faultOfSell_54 : decode cX5_faultOfSell 54 = .ok (.getfield 210, 3) := by decide +kernel
theorem dX5_faultOfSell_57 : decode cX5_faultOfSell 57 = .ok (.iload_n 1, 1) := by decide +kernel
theorem dX5_faultOfSell_58 : decode cX5_faultOfSell 58 = .ok (.iconst 5, 1) := by decide +kernel
theorem dX5_faultOfSell_59 : decode cX5_faultOfSell 59 = .ok (.invokevirtual 126, 3) := by decide +kernel
theorem dX5_faultOfSell_62 : decode cX5_faultOfSell 62 = .ok (.isub, 1) := by decide +kernel
theorem dX5_faultOfSell_63 : decode cX5_faultOfSell 63 = .ok (.istore_n 3, 1) := by decide +kernel
theorem dX5_faultOfSell_64 : decode cX5_faultOfSell 64 = .ok (.iload_n 3, 1) := by decide +kernel
theorem dX5_faultOfSell_65 : decode cX5_faultOfSell 65 = .ok (.iload_n 2, 1) := by decide +kernel
theorem dX5_faultOfSell_66 : decode cX5_faultOfSell 66 = .ok (.if_icmp .ge 12, 3) := by decide +kernel
theorem dX5_faultOfSell_69 : decode cX5_faultOfSell 69 = .ok (.aload_n 0, 1) := by decide +kernel
theorem dX5_faultOfSell_70 : decode cX5_faultOfSell 70 = .ok (.bipush 12, 2) := by decide +kernel
theorem dX5_faultOfSell_72 : decode cX5_faultOfSell 72 = .ok (.iload_n 3, 1) := by decide +kernel
theorem dX5_faultOfSell_73 : decode cX5_faultOfSell 73 = .ok (.invokevirtual 424, 3) := by decide +kernel
theorem dX5_faultOfSell_76 : decode cX5_faultOfSell 76 = .ok (.iconst 4, 1) := by decide +kernel
theorem dX5_faultOfSell_77 : decode cX5_faultOfSell 77 = .ok (.ireturn, 1) := by decide +kernel
theorem dX5_faultOfSell_78 : decode cX5_faultOfSell 78 = .ok (.iconst 0, 1) := by decide +kernel
theorem dX5_faultOfSell_79 : decode cX5_faultOfSell 79 = .ok (.ireturn, 1) := by decide +kernel
set_option maxRecDepth 20000 in
theorem ggX5_faultOfCancel_X4_isRow : GoodIn wsX5_faultOfCancel wsX4_isRow := goodIn_r _ [7, 8, 49, 50, 51, 52] (by decide +kernel) (by decide +kernel)
set_option maxRecDepth 20000 in
theorem gX5_faultOfCancel_X4_isRow : GoodIn wsX5_faultOfCancel (wsV RX5 116 RX4 yX4_isRow wsX4_isRow) := goodIn_app (goodIn_of _ (by decide +kernel)) ggX5_faultOfCancel_X4_isRow
set_option maxRecDepth 20000 in
theorem ggX5_faultOfCancel_X3_isOpen : GoodIn wsX5_faultOfCancel wsX3_isOpen := goodIn_ca (goodIn_r _ [13, 14, 15, 16, 12, 17, 18, 19, 20, 21, 22, 23, 24, 25, 26, 6, 27, 28, 29, 41, 42, 43, 44, 45, 46, 47, 48, 49, 50, 51, 52] (by decide +kernel) (by decide +kernel)) (goodIn_sub (fun _ h => List.mem_cons_of_mem _ (List.mem_append_right _ h)) (by decide +kernel))
set_option maxRecDepth 20000 in
theorem gX5_faultOfCancel_X3_isOpen : GoodIn wsX5_faultOfCancel (wsV RX5 220 RX3 yX3_isOpen wsX3_isOpen) := goodIn_app (goodIn_of _ (by decide +kernel)) ggX5_faultOfCancel_X3_isOpen
theorem dX5_faultOfCancel_0 : decode cX5_faultOfCancel 0 = .ok (.aload_n 0, 1) := by decide +kernel
theorem dX5_faultOfCancel_1 : decode cX5_faultOfCancel 1 = .ok (.getfield 10, 3) := by decide +kernel
theorem dX5_faultOfCancel_4 : decode cX5_faultOfCancel 4 = .ok (.getfield 210, 3) := by decide +kernel
theorem dX5_faultOfCancel_7 : decode cX5_faultOfCancel 7 = .ok (.iload_n 1, 1) := by decide +kernel
theorem dX5_faultOfCancel_8 : decode cX5_faultOfCancel 8 = .ok (.invokevirtual 116, 3) := by decide +kernel
theorem dX5_faultOfCancel_11 : decode cX5_faultOfCancel 11 = .ok (.ifCond .ne 5, 3) := by decide +kernel
theorem dX5_faultOfCancel_14 : decode cX5_faultOfCancel 14 = .ok (.iconst 1, 1) := by decide +kernel
theorem dX5_faultOfCancel_15 : decode cX5_faultOfCancel 15 = .ok (.ireturn, 1) := by decide +kernel
theorem dX5_faultOfCancel_16 : decode cX5_faultOfCancel 16 = .ok (.aload_n 0, 1) := by decide +kernel
theorem dX5_faultOfCancel_17 : decode cX5_faultOfCancel 17 = .ok (.getfield 10, 3) := by decide +kernel
theorem dX5_faultOfCancel_20 : decode cX5_faultOfCancel 20 = .ok (.iload_n 1, 1) := by decide +kernel
theorem dX5_faultOfCancel_21 : decode cX5_faultOfCancel 21 = .ok (.invokevirtual 220, 3) := by decide +kernel
theorem dX5_faultOfCancel_24 : decode cX5_faultOfCancel 24 = .ok (.ifCond .eq 7, 3) := by decide +kernel
theorem dX5_faultOfCancel_27 : decode cX5_faultOfCancel 27 = .ok (.iconst 0, 1) := by decide +kernel
theorem dX5_faultOfCancel_28 : decode cX5_faultOfCancel 28 = .ok (.goto 4, 3) := by decide +kernel
theorem dX5_faultOfCancel_31 : decode cX5_faultOfCancel 31 = .ok (.iconst 3, 1) := by decide +kernel
theorem dX5_faultOfCancel_32 : decode cX5_faultOfCancel 32 = .ok (.ireturn, 1) := by decide +kernel
set_option maxRecDepth 20000 in
theorem ggX5_faultOfFail_X4_isRow : GoodIn wsX5_faultOfFail wsX4_isRow := goodIn_r _ [8, 9, 39, 40, 41, 42] (by decide +kernel) (by decide +kernel)
set_option maxRecDepth 20000 in
theorem gX5_faultOfFail_X4_isRow : GoodIn wsX5_faultOfFail (wsV RX5 116 RX4 yX4_isRow wsX4_isRow) := goodIn_app (goodIn_of _ (by decide +kernel)) ggX5_faultOfFail_X4_isRow
set_option maxRecDepth 20000 in
theorem ggX5_faultOfFail_X5_isWithin : GoodIn wsX5_faultOfFail wsX5_isWithin := goodIn_r _ [13] (by decide +kernel) (by decide +kernel)
set_option maxRecDepth 20000 in
theorem gX5_faultOfFail_X5_isWithin : GoodIn wsX5_faultOfFail (va_wsS RX5 64 yX5_isWithin wsX5_isWithin) := goodIn_app (goodIn_of _ (by decide +kernel)) ggX5_faultOfFail_X5_isWithin
set_option maxRecDepth 20000 in
theorem ggX5_faultOfFail_X4_get : GoodIn wsX5_faultOfFail wsX4_get := goodIn_ca (goodIn_r _ [17, 18, 19, 39, 40, 41, 42] (by decide +kernel) (by decide +kernel)) (goodIn_sub (fun _ h => List.mem_cons_of_mem _ (List.mem_append_right _ h)) (by decide +kernel))
set_option maxRecDepth 20000 in
theorem gX5_faultOfFail_X4_get : GoodIn wsX5_faultOfFail (wsV RX5 126 RX4 yX4_get wsX4_get) := goodIn_app (goodIn_of _ (by decide +kernel)) ggX5_faultOfFail_X4_get
theorem dX5_faultOfFail_0 : decode cX5_faultOfFail 0 = .ok (.aload_n 0, 1) := by decide +kernel
theorem dX5_faultOfFail_1 : decode cX5_faultOfFail 1 = .ok (.getfield 10, 3) := by decide +kernel
theorem dX5_faultOfFail_4 : decode cX5_faultOfFail 4 = .ok (.getfield 75, 3) := by decide +kernel
theorem dX5_faultOfFail_7 : decode cX5_faultOfFail 7 = .ok (.iload_n 1, 1) := by decide +kernel
theorem dX5_faultOfFail_8 : decode cX5_faultOfFail 8 = .ok (.invokevirtual 116, 3) := by decide +kernel
theorem dX5_faultOfFail_11 : decode cX5_faultOfFail 11 = .ok (.ifCond .ne 5, 3) := by decide +kernel
theorem dX5_faultOfFail_14 : decode cX5_faultOfFail 14 = .ok (.iconst 1, 1) := by decide +kernel
theorem dX5_faultOfFail_15 : decode cX5_faultOfFail 15 = .ok (.ireturn, 1) := by decide +kernel
theorem dX5_faultOfFail_16 : decode cX5_faultOfFail 16 = .ok (.iload_n 2, 1) := by decide +kernel
theorem dX5_faultOfFail_17 : decode cX5_faultOfFail 17 = .ok (.aload_n 0, 1) := by decide +kernel
theorem dX5_faultOfFail_18 : decode cX5_faultOfFail 18 = .ok (.getfield 10, 3) := by decide +kernel
theorem dX5_faultOfFail_21 : decode cX5_faultOfFail 21 = .ok (.getfield 330, 3) := by decide +kernel
theorem dX5_faultOfFail_24 : decode cX5_faultOfFail 24 = .ok (.bipush 59, 2) := by decide +kernel
theorem dX5_faultOfFail_26 : decode cX5_faultOfFail 26 = .ok (.invokestatic 64, 3) := by decide +kernel
theorem dX5_faultOfFail_29 : decode cX5_faultOfFail 29 = .ok (.ifCond .ne 5, 3) := by decide +kernel
theorem dX5_faultOfFail_32 : decode cX5_faultOfFail 32 = .ok (.iconst 2, 1) := by decide +kernel
theorem dX5_faultOfFail_33 : decode cX5_faultOfFail 33 = .ok (.ireturn, 1) := by decide +kernel
theorem dX5_faultOfFail_34 : decode cX5_faultOfFail 34 = .ok (.aload_n 0, 1) := by decide +kernel
theorem dX5_faultOfFail_35 : decode cX5_faultOfFail 35 = .ok (.getfield 10, 3) := by decide +kernel
theorem dX5_faultOfFail_38 : decode cX5_faultOfFail 38 = .ok (.getfield 75, 3) := by decide +kernel
theorem dX5_faultOfFail_41 : decode cX5_faultOfFail 41 = .ok (.iload_n 1, 1) := by decide +kernel
theorem dX5_faultOfFail_42 : decode cX5_faultOfFail 42 = .ok (.iconst 3, 1) := by decide +kernel
theorem dX5_faultOfFail_43 : decode cX5_faultOfFail 43 = .ok (.invokevirtual 126, 3) := by decide +kernel
theorem dX5_faultOfFail_46 : decode cX5_faultOfFail 46 = .ok (.iconst (-1), 1) := by decide +kernel
theorem dX5_faultOfFail_47 : decode cX5_faultOfFail 47 = .ok (.if_icmp .ne 7, 3) := by decide +kernel
theorem dX5_faultOfFail_50 : decode cX5_faultOfFail 50 = .ok (.iconst 0, 1) := by decide +kernel
theorem dX5_faultOfFail_51 : decode cX5_faultOfFail 51 = .ok (.goto 4, 3) := by decide +kernel
theorem dX5_faultOfFail_54 : decode cX5_faultOfFail 54 = .ok (.iconst 3, 1) := by decide +kernel
theorem dX5_faultOfFail_55 : decode cX5_faultOfFail 55 = .ok (.ireturn, 1) := by decide +kernel
set_option maxRecDepth 20000 in
theorem ggX5_faultOfAdvance_X5_isWithin : GoodIn wsX5_faultOfAdvance wsX5_isWithin := goodIn_r _ [6] (by decide +kernel) (by decide +kernel)
set_option maxRecDepth 20000 in
theorem gX5_faultOfAdvance_X5_isWithin : GoodIn wsX5_faultOfAdvance (va_wsS RX5 64 yX5_isWithin wsX5_isWithin) := goodIn_app (goodIn_of _ (by decide +kernel)) ggX5_faultOfAdvance_X5_isWithin
theorem dX5_faultOfAdvance_0 : decode cX5_faultOfAdvance 0 = .ok (.iload_n 1, 1) := by decide +kernel
theorem dX5_faultOfAdvance_1 : decode cX5_faultOfAdvance 1 = .ok (.iconst 1, 1) := by decide +kernel
theorem dX5_faultOfAdvance_2 : decode cX5_faultOfAdvance 2 = .ok (.bipush 30, 2) := by decide +kernel
theorem dX5_faultOfAdvance_4 : decode cX5_faultOfAdvance 4 = .ok (.invokestatic 64, 3) := by decide +kernel
theorem dX5_faultOfAdvance_7 : decode cX5_faultOfAdvance 7 = .ok (.ifCond .eq 21, 3) := by decide +kernel
theorem dX5_faultOfAdvance_10 : decode cX5_faultOfAdvance 10 = .ok (.aload_n 0, 1) := by decide +kernel
theorem dX5_faultOfAdvance_11 : decode cX5_faultOfAdvance 11 = .ok (.getfield 10, 3) := by decide +kernel
theorem dX5_faultOfAdvance_14 : decode cX5_faultOfAdvance 14 = .ok (.getfield 330, 3) := by decide +kernel
theorem dX5_faultOfAdvance_17 : decode cX5_faultOfAdvance 17 = .ok (.iload_n 1, 1) := by decide +kernel
theorem dX5_faultOfAdvance_18 : decode cX5_faultOfAdvance 18 = .ok (.iadd, 1) := by decide +kernel
theorem dX5_faultOfAdvance_19 : decode cX5_faultOfAdvance 19 = .ok (.bipush 59, 2) := by decide +kernel
theorem dX5_faultOfAdvance_21 : decode cX5_faultOfAdvance 21 = .ok (.if_icmp .gt 7, 3) := by decide +kernel
theorem dX5_faultOfAdvance_24 : decode cX5_faultOfAdvance 24 = .ok (.iconst 1, 1) := by decide +kernel
theorem dX5_faultOfAdvance_25 : decode cX5_faultOfAdvance 25 = .ok (.goto 4, 3) := by decide +kernel
theorem dX5_faultOfAdvance_28 : decode cX5_faultOfAdvance 28 = .ok (.iconst 0, 1) := by decide +kernel
theorem dX5_faultOfAdvance_29 : decode cX5_faultOfAdvance 29 = .ok (.istore_n 2, 1) := by decide +kernel
theorem dX5_faultOfAdvance_30 : decode cX5_faultOfAdvance 30 = .ok (.iload_n 2, 1) := by decide +kernel
theorem dX5_faultOfAdvance_31 : decode cX5_faultOfAdvance 31 = .ok (.ifCond .eq 7, 3) := by decide +kernel
theorem dX5_faultOfAdvance_34 : decode cX5_faultOfAdvance 34 = .ok (.iconst 0, 1) := by decide +kernel
theorem dX5_faultOfAdvance_35 : decode cX5_faultOfAdvance 35 = .ok (.goto 4, 3) := by decide +kernel
theorem dX5_faultOfAdvance_38 : decode cX5_faultOfAdvance 38 = .ok (.iconst 2, 1) := by decide +kernel
theorem dX5_faultOfAdvance_39 : decode cX5_faultOfAdvance 39 = .ok (.ireturn, 1) := by decide +kernel
set_option maxRecDepth 20000 in
theorem ggX5_closeHall_X4_put : GoodIn wsX5_closeHall wsX4_put := goodIn_ca (goodIn_r _ [8, 9, 10, 156, 157, 158, 159] (by decide +kernel) (by decide +kernel)) (goodIn_sub (fun _ h => List.mem_cons_of_mem _ (List.mem_append_right _ h)) (by decide +kernel))
set_option maxRecDepth 20000 in
theorem gX5_closeHall_X4_put : GoodIn wsX5_closeHall (wsV RX5 97 RX4 yX4_put wsX4_put) := goodIn_app (goodIn_of _ (by decide +kernel)) ggX5_closeHall_X4_put
set_option maxRecDepth 20000 in
theorem ggX5_closeHall_X5_takeOutShows : GoodIn wsX5_closeHall wsX5_takeOutShows := goodIn_ca (goodIn_r _ [15, 1, 3, 16, 17, 18, 19, 7, 20, 21, 22, 23, 24, 25, 26, 27, 28, 29, 30, 31, 32, 33, 34, 35, 9, 10, 36, 37, 38, 39, 40, 41, 42, 43, 44, 45, 4, 5, 6, 8, 137, 138, 139, 140, 141, 142, 143, 144, 145, 146, 147, 148, 149, 150, 151, 152, 153, 154, 155, 156, 157, 158, 159] (by decide +kernel) (by decide +kernel)) (goodIn_sub (fun _ h => List.mem_cons_of_mem _ (List.mem_append_right _ h)) (by decide +kernel))
set_option maxRecDepth 20000 in
theorem gX5_closeHall_X5_takeOutShows : GoodIn wsX5_closeHall (wsV RX5 434 RX5 yX5_takeOutShows wsX5_takeOutShows) := goodIn_app (goodIn_of _ (by decide +kernel)) ggX5_closeHall_X5_takeOutShows
set_option maxRecDepth 20000 in
theorem ggX5_closeHall_X4_size : GoodIn wsX5_closeHall wsX4_size := goodIn_r _ [31, 21, 156, 157, 158, 159] (by decide +kernel) (by decide +kernel)
set_option maxRecDepth 20000 in
theorem gX5_closeHall_X4_size : GoodIn wsX5_closeHall (wsV RX5 79 RX4 yX4_size wsX4_size) := goodIn_app (goodIn_of _ (by decide +kernel)) ggX5_closeHall_X4_size
set_option maxRecDepth 20000 in
theorem ggX5_closeHall_X5_isPlacedAgain : GoodIn wsX5_closeHall wsX5_isPlacedAgain := goodIn_ca (goodIn_r _ [50, 1, 3, 51, 16, 2, 40, 33, 34, 7, 35, 9, 10, 52, 53, 54, 25, 55, 27, 32, 56, 57, 58, 59, 60, 61, 62, 63, 64, 65, 66, 67, 68, 69, 70, 71, 18, 19, 20, 21, 72, 29, 30, 31, 73, 74, 75, 76, 77, 78, 79, 80, 81, 82, 83, 42, 43, 44, 45, 84, 5, 6, 8, 46, 85, 86, 14, 87, 88, 89, 90, 91, 92, 93, 94, 95, 96, 97, 98, 99, 100, 101, 102, 103, 104, 105, 106, 107, 108, 109, 110, 111, 112, 113, 114, 115, 116, 117, 118, 119, 120, 121, 122, 123, 124, 125, 126, 127, 128, 129, 130, 131, 4, 137, 138, 139, 140, 141, 142, 143, 144, 145, 146, 147, 148, 149, 150, 151, 152, 153, 154, 155, 156, 157, 158, 159, 160, 161, 162, 163] (by decide +kernel) (by decide +kernel)) (goodIn_sub (fun _ h => List.mem_cons_of_mem _ (List.mem_append_right _ h)) (by decide +kernel))
set_option maxRecDepth 20000 in
theorem gX5_closeHall_X5_isPlacedAgain : GoodIn wsX5_closeHall (wsV RX5 437 RX5 yX5_isPlacedAgain wsX5_isPlacedAgain) := goodIn_app (goodIn_of _ (by decide +kernel)) ggX5_closeHall_X5_isPlacedAgain
set_option maxRecDepth 20000 in
theorem ggX5_closeHall_X4_get : GoodIn wsX5_closeHall wsX4_get := goodIn_ca (goodIn_r _ [35, 9, 10, 156, 157, 158, 159] (by decide +kernel) (by decide +kernel)) (goodIn_sub (fun _ h => List.mem_cons_of_mem _ (List.mem_append_right _ h)) (by decide +kernel))
set_option maxRecDepth 20000 in
theorem gX5_closeHall_X4_get : GoodIn wsX5_closeHall (wsV RX5 126 RX4 yX4_get wsX4_get) := goodIn_app (goodIn_of _ (by decide +kernel)) ggX5_closeHall_X4_get
set_option maxRecDepth 20000 in
theorem ggX5_closeHall_X3_dropShow : GoodIn wsX5_closeHall wsX3_dropShow := goodIn_ca (goodIn_r _ [135, 27, 136, 32, 33, 34, 7, 35, 9, 10, 131, 5, 6, 8, 148, 149, 150, 151, 152, 153, 154, 155, 156, 157, 158, 159] (by decide +kernel) (by decide +kernel)) (goodIn_sub (fun _ h => List.mem_cons_of_mem _ (List.mem_append_right _ h)) (by decide +kernel))
set_option maxRecDepth 20000 in
theorem gX5_closeHall_X3_dropShow : GoodIn wsX5_closeHall (wsV RX5 243 RX3 yX3_dropShow wsX3_dropShow) := goodIn_app (goodIn_of _ (by decide +kernel)) ggX5_closeHall_X3_dropShow
theorem dX5_closeHall_0 : decode cX5_closeHall 0 = .ok (.aload_n 0, 1) := by decide +kernel
theorem dX5_closeHall_1 : decode cX5_closeHall 1 = .ok (.getfield 10, 3) := by decide +kernel
theorem dX5_closeHall_4 : decode cX5_closeHall 4 = .ok (.getfield 75, 3) := by decide +kernel
theorem dX5_closeHall_7 : decode cX5_closeHall 7 = .ok (.iload_n 1, 1) := by decide +kernel
theorem dX5_closeHall_8 : decode cX5_closeHall 8 = .ok (.iconst 3, 1) := by decide +kernel
theorem dX5_closeHall_9 : decode cX5_closeHall 9 = .ok (.iload_n 2, 1) := by decide +kernel
theorem dX5_closeHall_10 : decode cX5_closeHall 10 = .ok (.invokevirtual 97, 3) := by decide +kernel
theorem dX5_closeHall_13 : decode cX5_closeHall 13 = .ok (.aload_n 0, 1) := by decide +kernel
theorem dX5_closeHall_14 : decode cX5_closeHall 14 = .ok (.iload_n 1, 1) := by decide +kernel
theorem dX5_closeHall_15 : decode cX5_closeHall 15 = .ok (.iload_n 2, 1) := by decide +kernel
theorem dX5_closeHall_16 : decode cX5_closeHall 16 = .ok (.invokevirtual 434, 3) := by decide +kernel
theorem dX5_closeHall_19 : decode cX5_closeHall 19 = .ok (.iconst 0, 1) := by decide +kernel
theorem dX5_closeHall_20 : decode cX5_closeHall 20 = .ok (.istore_n 3, 1) := by decide +kernel
theorem dX5_closeHall_21 : decode cX5_closeHall 21 = .ok (.iconst 0, 1) := by decide +kernel
theorem dX5_closeHall_22 : decode cX5_closeHall 22 = .ok (.istore 4, 2) := by decide +kernel
theorem dX5_closeHall_24 : decode cX5_closeHall 24 = .ok (.iload 4, 2) := by decide +kernel
theorem dX5_closeHall_26 : decode cX5_closeHall 26 = .ok (.aload_n 0, 1) := by decide +kernel
theorem dX5_closeHall_27 : decode cX5_closeHall 27 = .ok (.getfield 10, 3) := by decide +kernel
theorem dX5_closeHall_30 : decode cX5_closeHall 30 = .ok (.getfield 293, 3) := by decide +kernel
theorem dX5_closeHall_33 : decode cX5_closeHall 33 = .ok (.invokevirtual 79, 3) := by decide +kernel
theorem dX5_closeHall_36 : decode cX5_closeHall 36 = .ok (.if_icmp .ge 43, 3) := by decide +kernel
theorem dX5_closeHall_39 : decode cX5_closeHall 39 = .ok (.aload_n 0, 1) := by decide +kernel
theorem dX5_closeHall_40 : decode cX5_closeHall 40 = .ok (.iload 4, 2) := by decide +kernel
theorem dX5_closeHall_42 : decode cX5_closeHall 42 = .ok (.iload_n 1, 1) := by decide +kernel
theorem dX5_closeHall_43 : decode cX5_closeHall 43 = .ok (.invokevirtual 437, 3) := by decide +kernel
theorem dX5_closeHall_46 : decode cX5_closeHall 46 = .ok (.ifCond .ne 27, 3) := by decide +kernel
theorem dX5_closeHall_49 : decode cX5_closeHall 49 = .ok (.aload_n 0, 1) := by decide +kernel
theorem dX5_closeHall_50 : decode cX5_closeHall 50 = .ok (.getfield 10, 3) := by decide +kernel
theorem dX5_closeHall_53 : decode cX5_closeHall 53 = .ok (.aload_n 0, 1) := by decide +kernel
theorem dX5_closeHall_54 : decode cX5_closeHall 54 = .ok (.getfield 10, 3) := by decide +kernel
theorem dX5_closeHall_57 : decode cX5_closeHall 57 = .ok (.getfield 293, 3) := by decide +kernel
theorem dX5_closeHall_60 : decode cX5_closeHall 60 = .ok (.iload 4, 2) := by decide +kernel
theorem dX5_closeHall_62 : decode cX5_closeHall 62 = .ok (.iconst 0, 1) := by decide +kernel
theorem dX5_closeHall_63 : decode cX5_closeHall 63 = .ok (.invokevirtual 126, 3) := by decide +kernel
theorem dX5_closeHall_66 : decode cX5_closeHall 66 = .ok (.invokevirtual 243, 3) := by decide +kernel
theorem dX5_closeHall_69 : decode cX5_closeHall 69 = .ok (.pop, 1) := by decide +kernel
theorem dX5_closeHall_70 : decode cX5_closeHall 70 = .ok (.iinc 3 1, 3) := by decide +kernel
theorem dX5_closeHall_73 : decode cX5_closeHall 73 = .ok (.iinc 4 1, 3) := by decide +kernel
theorem dX5_closeHall_76 : decode cX5_closeHall 76 = .ok (.goto (-52), 3) := by decide +kernel
theorem dX5_closeHall_79 : decode cX5_closeHall 79 = .ok (.iload_n 3, 1) := by decide +kernel
theorem dX5_closeHall_80 : decode cX5_closeHall 80 = .ok (.ireturn, 1) := by decide +kernel
set_option maxRecDepth 20000 in
theorem ggX5_takeOutShows_X4_clear : GoodIn wsX5_takeOutShows wsX4_clear := goodIn_r _ [8, 9, 59, 60, 61, 62] (by decide +kernel) (by decide +kernel)
set_option maxRecDepth 20000 in
theorem gX5_takeOutShows_X4_clear : GoodIn wsX5_takeOutShows (wsV RX5 440 RX4 yX4_clear wsX4_clear) := goodIn_app (goodIn_of _ (by decide +kernel)) ggX5_takeOutShows_X4_clear
set_option maxRecDepth 20000 in
theorem ggX5_takeOutShows_X3_showAfter : GoodIn wsX5_takeOutShows wsX3_showAfter := goodIn_ca (goodIn_r _ [14, 15, 16, 17, 18, 7, 19, 9, 20, 21, 22, 23, 24, 25, 26, 27, 28, 13, 29, 51, 52, 53, 54, 55, 56, 57, 58, 59, 60, 61, 62] (by decide +kernel) (by decide +kernel)) (goodIn_sub (fun _ h => List.mem_cons_of_mem _ (List.mem_append_right _ h)) (by decide +kernel))
set_option maxRecDepth 20000 in
theorem gX5_takeOutShows_X3_showAfter : GoodIn wsX5_takeOutShows (wsV RX5 302 RX3 yX3_showAfter wsX3_showAfter) := goodIn_app (goodIn_of _ (by decide +kernel)) ggX5_takeOutShows_X3_showAfter
set_option maxRecDepth 20000 in
theorem ggX5_takeOutShows_X4_get : GoodIn wsX5_takeOutShows wsX4_get := goodIn_ca (goodIn_r _ [23, 24, 25, 59, 60, 61, 62] (by decide +kernel) (by decide +kernel)) (goodIn_sub (fun _ h => List.mem_cons_of_mem _ (List.mem_append_right _ h)) (by decide +kernel))
set_option maxRecDepth 20000 in
theorem gX5_takeOutShows_X4_get : GoodIn wsX5_takeOutShows (wsV RX5 126 RX4 yX4_get wsX4_get) := goodIn_app (goodIn_of _ (by decide +kernel)) ggX5_takeOutShows_X4_get
set_option maxRecDepth 20000 in
theorem ggX5_takeOutShows_X4_addRow : GoodIn wsX5_takeOutShows wsX4_addRow := goodIn_ca (goodIn_r _ [34, 9, 35, 24, 25, 59, 60, 61, 62] (by decide +kernel) (by decide +kernel)) (goodIn_sub (fun _ h => List.mem_cons_of_mem _ (List.mem_append_right _ h)) (by decide +kernel))
set_option maxRecDepth 20000 in
theorem gX5_takeOutShows_X4_addRow : GoodIn wsX5_takeOutShows (wsV RX5 94 RX4 yX4_addRow wsX4_addRow) := goodIn_app (goodIn_of _ (by decide +kernel)) ggX5_takeOutShows_X4_addRow
set_option maxRecDepth 20000 in
theorem ggX5_takeOutShows_X4_put : GoodIn wsX5_takeOutShows wsX4_put := goodIn_ca (goodIn_r _ [39, 24, 25, 59, 60, 61, 62] (by decide +kernel) (by decide +kernel)) (goodIn_sub (fun _ h => List.mem_cons_of_mem _ (List.mem_append_right _ h)) (by decide +kernel))
set_option maxRecDepth 20000 in
theorem gX5_takeOutShows_X4_put : GoodIn wsX5_takeOutShows (wsV RX5 97 RX4 yX4_put wsX4_put) := goodIn_app (goodIn_of _ (by decide +kernel)) ggX5_takeOutShows_X4_put
theorem dX5_takeOutShows_0 : decode cX5_takeOutShows 0 = .ok (.aload_n 0, 1) := by decide +kernel
theorem dX5_takeOutShows_1 : decode cX5_takeOutShows 1 = .ok (.getfield 10, 3) := by decide +kernel
theorem dX5_takeOutShows_4 : decode cX5_takeOutShows 4 = .ok (.getfield 293, 3) := by decide +kernel
theorem dX5_takeOutShows_7 : decode cX5_takeOutShows 7 = .ok (.invokevirtual 440, 3) := by decide +kernel
theorem dX5_takeOutShows_10 : decode cX5_takeOutShows 10 = .ok (.iload_n 2, 1) := by decide +kernel
theorem dX5_takeOutShows_11 : decode cX5_takeOutShows 11 = .ok (.istore_n 3, 1) := by decide +kernel
theorem dX5_takeOutShows_12 : decode cX5_takeOutShows 12 = .ok (.iload_n 3, 1) := by decide +kernel
theorem dX5_takeOutShows_13 : decode cX5_takeOutShows 13 = .ok (.bipush 59, 2) := by decide +kernel
theorem dX5_takeOutShows_15 : decode cX5_takeOutShows 15 = .ok (.if_icmp .gt 182, 3) := by decide +kernel
theorem dX5_takeOutShows_18 : decode cX5_takeOutShows 18 = .ok (.aload_n 0, 1) := by decide +kernel
theorem dX5_takeOutShows_19 : decode cX5_takeOutShows 19 = .ok (.getfield 10, 3) := by decide +kernel
theorem dX5_takeOutShows_22 : decode cX5_takeOutShows 22 = .ok (.iload_n 1, 1) := by decide +kernel
theorem dX5_takeOutShows_23 : decode cX5_takeOutShows 23 = .ok (.iload_n 3, 1) := by decide +kernel
theorem dX5_takeOutShows_24 : decode cX5_takeOutShows 24 = .ok (.iconst (-1), 1) := by decide +kernel
theorem dX5_takeOutShows_25 : decode cX5_takeOutShows 25 = .ok (.invokevirtual 302, 3) := by decide +kernel
theorem dX5_takeOutShows_28 : decode cX5_takeOutShows 28 = .ok (.istore 4, 2) := by decide +kernel
theorem dX5_takeOutShows_30 : decode cX5_takeOutShows 30 = .ok (.iconst 0, 1) := by decide +kernel
theorem dX5_takeOutShows_31 : decode cX5_takeOutShows 31 = .ok (.istore 5, 2) := by decide +kernel
theorem dX5_takeOutShows_33 : decode cX5_takeOutShows 33 = .ok (.iload 5, 2) := by decide +kernel
theorem dX5_takeOutShows_35 : decode cX5_takeOutShows 35 = .ok (.bipush 30, 2) := by decide +kernel
theorem dX5_takeOutShows_37 : decode cX5_takeOutShows 37 = .ok (.if_icmp .ge 154, 3) := by decide +kernel
theorem dX5_takeOutShows_40 : decode cX5_takeOutShows 40 = .ok (.iload 4, 2) := by decide +kernel
theorem dX5_takeOutShows_42 : decode cX5_takeOutShows 42 = .ok (.iconst (-1), 1) := by decide +kernel
theorem dX5_takeOutShows_43 : decode cX5_takeOutShows 43 = .ok (.if_icmp .eq 148, 3) := by decide +kernel
theorem dX5_takeOutShows_46 : decode cX5_takeOutShows 46 = .ok (.aload_n 0, 1) := by decide +kernel
theorem dX5_takeOutShows_47 : decode cX5_takeOutShows 47 = .ok (.getfield 10, 3) := by decide +kernel
theorem dX5_takeOutShows_50 : decode cX5_takeOutShows 50 = .ok (.getfield 210, 3) := by decide +kernel
theorem dX5_takeOutShows_53 : decode cX5_takeOutShows 53 = .ok (.iload 4, 2) := by decide +kernel
theorem dX5_takeOutShows_55 : decode cX5_takeOutShows 55 = .ok (.iconst 3, 1) := by decide +kernel
theorem dX5_takeOutShows_56 : decode cX5_takeOutShows 56 = .ok (.invokevirtual 126, 3) := by decide +kernel
theorem dX5_takeOutShows_59 : decode cX5_takeOutShows 59 = .ok (.istore 6, 2) := by decide +kernel
theorem dX5_takeOutShows_61 : decode cX5_takeOutShows 61 = .ok (.aload_n 0, 1) := by decide +kernel
theorem dX5_takeOutShows_62 : decode cX5_takeOutShows 62 = .ok (.getfield 10, 3) := by decide +kernel
theorem dX5_takeOutShows_65 : decode cX5_takeOutShows 65 = .ok (.getfield 293, 3) := by decide +kernel
theorem dX5_takeOutShows_68 : decode cX5_takeOutShows 68 = .ok (.invokevirtual 94, 3) := by decide +kernel
theorem dX5_takeOutShows_71 : decode cX5_takeOutShows 71 = .ok (.istore 7, 2) := by decide +kernel
theorem dX5_takeOutShows_73 : decode cX5_takeOutShows 73 = .ok (.aload_n 0, 1) := by decide +kernel
theorem dX5_takeOutShows_74 : decode cX5_takeOutShows 74 = .ok (.getfield 10, 3) := by decide +kernel
theorem dX5_takeOutShows_77 : decode cX5_takeOutShows 77 = .ok (.getfield 293, 3) := by decide +kernel
theorem dX5_takeOutShows_80 : decode cX5_takeOutShows 80 = .ok (.iload 7, 2) := by decide +kernel
theorem dX5_takeOutShows_82 : decode cX5_takeOutShows 82 = .ok (.iconst 0, 1) := by decide +kernel
theorem dX5_takeOutShows_83 : decode cX5_takeOutShows 83 = .ok (.iload 4, 2) := by decide +kernel
theorem dX5_takeOutShows_85 : decode cX5_takeOutShows 85 = .ok (.invokevirtual 97, 3) := by decide +kernel
theorem dX5_takeOutShows_88 : decode cX5_takeOutShows 88 = .ok (.aload_n 0, 1) := by decide +kernel
theorem dX5_takeOutShows_89 : decode cX5_takeOutShows 89 = .ok (.getfield 10, 3) := by decide +kernel
theorem dX5_takeOutShows_92 : decode cX5_takeOutShows 92 = .ok (.getfield 293, 3) := by decide +kernel
theorem dX5_takeOutShows_95 : decode cX5_takeOutShows 95 = .ok (.iload 7, 2) := by decide +kernel
theorem dX5_takeOutShows_97 : decode cX5_takeOutShows 97 = .ok (.iconst 1, 1) := by decide +kernel
theorem dX5_takeOutShows_98 : decode cX5_takeOutShows 98 = .ok (.iload 6, 2) := by decide +kernel
theorem dX5_takeOutShows_100 : decode cX5_takeOutShows 100 = .ok (.invokevirtual 97, 3) := by decide +kernel
theorem dX5_takeOutShows_103 : decode cX5_takeOutShows 103 = .ok (.aload_n 0, 1) := by decide +kernel
theorem dX5_takeOutShows_104 : decode cX5_takeOutShows 104 = .ok (.getfield 10, 3) := by decide +kernel
theorem dX5_takeOutShows_107 : decode cX5_takeOutShows 107 = .ok (.getfield 293, 3) := by decide +kernel
theorem dX5_takeOutShows_110 : decode cX5_takeOutShows 110 = .ok (.iload 7, 2) := by decide +kernel
theorem dX5_takeOutShows_112 : decode cX5_takeOutShows 112 = .ok (.iconst 2, 1) := by decide +kernel
theorem dX5_takeOutShows_113 : decode cX5_takeOutShows 113 = .ok (.iconst (-1), 1) := by decide +kernel
theorem dX5_takeOutShows_114 : decode cX5_takeOutShows 114 = .ok (.invokevirtual 97, 3) := by decide +kernel
theorem dX5_takeOutShows_117 : decode cX5_takeOutShows 117 = .ok (.aload_n 0, 1) := by decide +kernel
theorem dX5_takeOutShows_118 : decode cX5_takeOutShows 118 = .ok (.getfield 10, 3) := by decide +kernel
theorem dX5_takeOutShows_121 : decode cX5_takeOutShows 121 = .ok (.getfield 293, 3) := by decide +kernel
theorem dX5_takeOutShows_124 : decode cX5_takeOutShows 124 = .ok (.iload 7, 2) := by decide +kernel
theorem dX5_takeOutShows_126 : decode cX5_takeOutShows 126 = .ok (.iconst 3, 1) := by decide +kernel
theorem dX5_takeOutShows_127 : decode cX5_takeOutShows 127 = .ok (.iconst (-1), 1) := by decide +kernel
theorem dX5_takeOutShows_128 : decode cX5_takeOutShows 128 = .ok (.invokevirtual 97, 3) := by decide +kernel
theorem dX5_takeOutShows_131 : decode cX5_takeOutShows 131 = .ok (.aload_n 0, 1) := by decide +kernel
theorem dX5_takeOutShows_132 : decode cX5_takeOutShows 132 = .ok (.getfield 10, 3) := by decide +kernel
theorem dX5_takeOutShows_135 : decode cX5_takeOutShows 135 = .ok (.getfield 293, 3) := by decide +kernel
theorem dX5_takeOutShows_138 : decode cX5_takeOutShows 138 = .ok (.iload 7, 2) := by decide +kernel
theorem dX5_takeOutShows_140 : decode cX5_takeOutShows 140 = .ok (.iconst 4, 1) := by decide +kernel
theorem dX5_takeOutShows_141 : decode cX5_takeOutShows 141 = .ok (.aload_n 0, 1) := by decide +kernel
theorem dX5_takeOutShows_142 : decode cX5_takeOutShows 142 = .ok (.getfield 10, 3) := by decide +kernel
theorem dX5_takeOutShows_145 : decode cX5_takeOutShows 145 = .ok (.getfield 210, 3) := by decide +kernel
theorem dX5_takeOutShows_148 : decode cX5_takeOutShows 148 = .ok (.iload 4, 2) := by decide +kernel
theorem dX5_takeOutShows_150 : decode cX5_takeOutShows 150 = .ok (.iconst 5, 1) := by decide +kernel
theorem dX5_takeOutShows_151 : decode cX5_takeOutShows 151 = .ok (.invokevirtual 126, 3) := by decide +kernel
theorem dX5_takeOutShows_154 : decode cX5_takeOutShows 154 = .ok (.invokevirtual 97, 3) := by decide +kernel
theorem dX5_takeOutShows_157 : decode cX5_takeOutShows 157 = .ok (.aload_n 0, 1) := by decide +kernel
theorem dX5_takeOutShows_158 : decode cX5_takeOutShows 158 = .ok (.getfield 10, 3) := by decide +kernel
theorem dX5_takeOutShows_161 : decode cX5_takeOutShows 161 = .ok (.getfield 210, 3) := by decide +kernel
theorem dX5_takeOutShows_164 : decode cX5_takeOutShows 164 = .ok (.iload 4, 2) := by decide +kernel
theorem dX5_takeOutShows_166 : decode cX5_takeOutShows 166 = .ok (.bipush 8, 2) := by decide +kernel
theorem dX5_takeOutShows_168 : decode cX5_takeOutShows 168 = .ok (.iconst 1, 1) := by decide +kernel
theorem dX5_takeOutShows_169 : decode cX5_takeOutShows 169 = .ok (.invokevirtual 97, 3) := by decide +kernel
theorem dX5_takeOutShows_172 : decode cX5_takeOutShows 172 = .ok (.aload_n 0, 1) := by decide +kernel
theorem dX5_takeOutShows_173 : decode cX5_takeOutShows 173 = .ok (.getfield 10, 3) := by decide +kernel
theorem dX5_takeOutShows_176 : decode cX5_takeOutShows 176 = .ok (.iload_n 1, 1) := by decide +kernel
theorem dX5_takeOutShows_177 : decode cX5_takeOutShows 177 = .ok (.iload_n 3, 1) := by decide +kernel
theorem dX5_takeOutShows_178 : decode cX5_takeOutShows 178 = .ok (.iload 6, 2) := by decide +kernel
theorem dX5_takeOutShows_180 : decode cX5_takeOutShows 180 = .ok (.invokevirtual 302, 3) := by decide +kernel
theorem dX5_takeOutShows_183 : decode cX5_takeOutShows 183 = .ok (.istore 4, 2) := by decide +kernel
theorem dX5_takeOutShows_185 : decode cX5_takeOutShows 185 = .ok (.iinc 5 1, 3) := by decide +kernel
theorem dX5_takeOutShows_188 : decode cX5_takeOutShows 188 = .ok (.goto (-155), 3) := by decide +kernel
theorem dX5_takeOutShows_191 : decode cX5_takeOutShows 191 = .ok (.iinc 3 1, 3) := by decide +kernel
theorem dX5_takeOutShows_194 : decode cX5_takeOutShows 194 = .ok (.goto (-182), 3) := by decide +kernel
theorem dX5_takeOutShows_197 : decode cX5_takeOutShows 197 = .ok (.return_, 1) := by decide +kernel
set_option maxRecDepth 20000 in
theorem ggX5_isPlacedAgain_X4_get : GoodIn wsX5_isPlacedAgain wsX4_get := goodIn_ca (goodIn_r _ [10, 11, 12, 132, 133, 134, 135] (by decide +kernel) (by decide +kernel)) (goodIn_sub (fun _ h => List.mem_cons_of_mem _ (List.mem_append_right _ h)) (by decide +kernel))
set_option maxRecDepth 20000 in
theorem gX5_isPlacedAgain_X4_get : GoodIn wsX5_isPlacedAgain (wsV RX5 126 RX4 yX4_get wsX4_get) := goodIn_app (goodIn_of _ (by decide +kernel)) ggX5_isPlacedAgain_X4_get
set_option maxRecDepth 20000 in
theorem ggX5_isPlacedAgain_X3_minutesOf : GoodIn wsX5_isPlacedAgain wsX3_minutesOf := goodIn_ca (goodIn_r _ [17, 18, 19, 7, 8, 9, 10, 11, 12, 124, 125, 126, 127, 128, 129, 130, 131, 132, 133, 134, 135] (by decide +kernel) (by decide +kernel)) (goodIn_sub (fun _ h => List.mem_cons_of_mem _ (List.mem_append_right _ h)) (by decide +kernel))
set_option maxRecDepth 20000 in
theorem gX5_isPlacedAgain_X3_minutesOf : GoodIn wsX5_isPlacedAgain (wsV RX5 428 RX3 yX3_minutesOf wsX3_minutesOf) := goodIn_app (goodIn_of _ (by decide +kernel)) ggX5_isPlacedAgain_X3_minutesOf
set_option maxRecDepth 20000 in
theorem ggX5_isPlacedAgain_X3_settingOf : GoodIn wsX5_isPlacedAgain wsX3_settingOf := goodIn_ca (goodIn_r _ [23, 24, 19, 7, 8, 9, 10, 11, 12, 124, 125, 126, 127, 128, 129, 130, 131, 132, 133, 134, 135] (by decide +kernel) (by decide +kernel)) (goodIn_sub (fun _ h => List.mem_cons_of_mem _ (List.mem_append_right _ h)) (by decide +kernel))
set_option maxRecDepth 20000 in
theorem gX5_isPlacedAgain_X3_settingOf : GoodIn wsX5_isPlacedAgain (wsV RX5 155 RX3 yX3_settingOf wsX3_settingOf) := goodIn_app (goodIn_of _ (by decide +kernel)) ggX5_isPlacedAgain_X3_settingOf
set_option maxRecDepth 20000 in
theorem ggX5_isPlacedAgain_X2_takeUp : GoodIn wsX5_isPlacedAgain wsX2_takeUp := goodIn_ca (goodIn_r _ [29, 30, 31, 32, 33, 34, 21, 22, 16, 23, 24, 19, 7, 8, 9, 10, 11, 12, 35, 36, 37, 38, 39, 40, 41, 42, 43, 44, 45, 46, 47, 18, 48, 49, 50, 28, 51, 52, 53, 54, 55, 56, 57, 58, 59, 60, 61, 62, 136, 137, 138, 139, 124, 125, 126, 127, 128, 129, 130, 131, 132, 133, 134, 135] (by decide +kernel) (by decide +kernel)) (goodIn_sub (fun _ h => List.mem_cons_of_mem _ (List.mem_append_right _ h)) (by decide +kernel))
set_option maxRecDepth 20000 in
theorem gX5_isPlacedAgain_X2_takeUp : GoodIn wsX5_isPlacedAgain (wsV RX5 265 RX2 yX2_takeUp wsX2_takeUp) := goodIn_app (goodIn_of _ (by decide +kernel)) ggX5_isPlacedAgain_X2_takeUp
set_option maxRecDepth 20000 in
theorem ggX5_isPlacedAgain_X4_size : GoodIn wsX5_isPlacedAgain wsX4_size := goodIn_r _ [43, 39, 132, 133, 134, 135] (by decide +kernel) (by decide +kernel)
set_option maxRecDepth 20000 in
theorem gX5_isPlacedAgain_X4_size : GoodIn wsX5_isPlacedAgain (wsV RX5 79 RX4 yX4_size wsX4_size) := goodIn_app (goodIn_of _ (by decide +kernel)) ggX5_isPlacedAgain_X4_size
set_option maxRecDepth 20000 in
theorem ggX5_isPlacedAgain_X5_isMinute : GoodIn wsX5_isPlacedAgain wsX5_isMinute := goodIn_r _ [67, 68, 69, 66, 70] (by decide +kernel) (by decide +kernel)
set_option maxRecDepth 20000 in
theorem gX5_isPlacedAgain_X5_isMinute : GoodIn wsX5_isPlacedAgain (va_wsS RX5 215 yX5_isMinute wsX5_isMinute) := goodIn_app (goodIn_of _ (by decide +kernel)) ggX5_isPlacedAgain_X5_isMinute
set_option maxRecDepth 20000 in
theorem ggX5_isPlacedAgain_X2_firstBroken : GoodIn wsX5_isPlacedAgain wsX2_firstBroken := goodIn_ca (goodIn_r _ [74, 75, 30, 52, 31, 76, 53, 7, 8, 9, 10, 11, 12, 34, 21, 22, 16, 23, 24, 19, 77, 78, 79, 28, 80, 81, 82, 83, 84, 85, 86, 87, 88, 89, 90, 32, 40, 41, 42, 43, 39, 91, 92, 93, 94, 95, 96, 97, 98, 99, 100, 101, 102, 124, 125, 126, 127, 128, 129, 130, 131, 136, 137, 138, 139, 132, 133, 134, 135] (by decide +kernel) (by decide +kernel)) (goodIn_sub (fun _ h => List.mem_cons_of_mem _ (List.mem_append_right _ h)) (by decide +kernel))
set_option maxRecDepth 20000 in
theorem gX5_isPlacedAgain_X2_firstBroken : GoodIn wsX5_isPlacedAgain (wsV RX5 272 RX2 yX2_firstBroken wsX2_firstBroken) := goodIn_app (goodIn_of _ (by decide +kernel)) ggX5_isPlacedAgain_X2_firstBroken
set_option maxRecDepth 20000 in
theorem ggX5_isPlacedAgain_X5_putBack : GoodIn wsX5_isPlacedAgain wsX5_putBack := goodIn_ca (goodIn_r _ [106, 1, 2, 4, 6, 7, 8, 9, 10, 11, 12, 107, 108, 109, 16, 110, 18, 19, 111, 60, 61, 62, 112, 113, 114, 115, 116, 117, 118, 119, 120, 121, 122, 123, 124, 125, 126, 127, 128, 129, 130, 131, 132, 133, 134, 135] (by decide +kernel) (by decide +kernel)) (goodIn_sub (fun _ h => List.mem_cons_of_mem _ (List.mem_append_right _ h)) (by decide +kernel))
set_option maxRecDepth 20000 in
theorem gX5_isPlacedAgain_X5_putBack : GoodIn wsX5_isPlacedAgain (wsV RX5 443 RX5 yX5_putBack wsX5_putBack) := goodIn_app (goodIn_of _ (by decide +kernel)) ggX5_isPlacedAgain_X5_putBack
theorem dX5_isPlacedAgain_0 : decode cX5_isPlacedAgain 0 = .ok (.aload_n 0, 1) := by decide +kernel
theorem dX5_isPlacedAgain_1 : decode cX5_isPlacedAgain 1 = .ok (.getfield 10, 3) := by decide +kernel
theorem dX5_isPlacedAgain_4 : decode cX5_isPlacedAgain 4 = .ok (.getfield 293, 3) := by decide +kernel
theorem dX5_isPlacedAgain_7 : decode cX5_isPlacedAgain 7 = .ok (.iload_n 1, 1) := by decide +kernel
theorem dX5_isPlacedAgain_8 : decode cX5_isPlacedAgain 8 = .ok (.iconst 0, 1) := by decide +kernel
theorem dX5_isPlacedAgain_9 : decode cX5_isPlacedAgain 9 = .ok (.invokevirtual 126, 3) := by decide +kernel
theorem dX5_isPlacedAgain_12 : decode cX5_isPlacedAgain 12 = .ok (.istore_n 3, 1) := by decide +kernel
theorem dX5_isPlacedAgain_13 : decode cX5_isPlacedAgain 13 = .ok (.aload_n 0, 1) := by decide +kernel
theorem dX5_isPlacedAgain_14 : decode cX5_isPlacedAgain 14 = .ok (.getfield 10, 3) := by decide +kernel
theorem dX5_isPlacedAgain_17 : decode cX5_isPlacedAgain 17 = .ok (.getfield 293, 3) := by decide +kernel
theorem dX5_isPlacedAgain_20 : decode cX5_isPlacedAgain 20 = .ok (.iload_n 1, 1) := by decide +kernel
theorem dX5_isPlacedAgain_21 : decode cX5_isPlacedAgain 21 = .ok (.iconst 1, 1) := by decide +kernel
theorem dX5_isPlacedAgain_22 : decode cX5_isPlacedAgain 22 = .ok (.invokevirtual 126, 3) := by decide +kernel
theorem dX5_isPlacedAgain_25 : decode cX5_isPlacedAgain 25 = .ok (.istore 4, 2) := by decide +kernel
theorem dX5_isPlacedAgain_27 : decode cX5_isPlacedAgain 27 = .ok (.aload_n 0, 1) := by decide +kernel
theorem dX5_isPlacedAgain_28 : decode cX5_isPlacedAgain 28 = .ok (.getfield 10, 3) := by decide +kernel
theorem dX5_isPlacedAgain_31 : decode cX5_isPlacedAgain 31 = .ok (.getfield 293, 3) := by decide +kernel
theorem dX5_isPlacedAgain_34 : decode cX5_isPlacedAgain 34 = .ok (.iload_n 1, 1) := by decide +kernel
theorem dX5_isPlacedAgain_35 : decode cX5_isPlacedAgain 35 = .ok (.iconst 4, 1) := by decide +kernel
theorem dX5_isPlacedAgain_36 : decode cX5_isPlacedAgain 36 = .ok (.invokevirtual 126, 3) := by decide +kernel
theorem dX5_isPlacedAgain_39 : decode cX5_isPlacedAgain 39 = .ok (.istore 5, 2) := by decide +kernel
theorem dX5_isPlacedAgain_41 : decode cX5_isPlacedAgain 41 = .ok (.aload_n 0, 1) := by decide +kernel
theorem dX5_isPlacedAgain_42 : decode cX5_isPlacedAgain 42 = .ok (.getfield 10, 3) := by decide +kernel
theorem dX5_isPlacedAgain_45 : decode cX5_isPlacedAgain 45 = .ok (.iload_n 3, 1) := by decide +kernel
theorem dX5_isPlacedAgain_46 : decode cX5_isPlacedAgain 46 = .ok (.invokevirtual 428, 3) := by decide +kernel
theorem dX5_isPlacedAgain_49 : decode cX5_isPlacedAgain 49 = .ok (.istore 6, 2) := by decide +kernel
theorem dX5_isPlacedAgain_51 : decode cX5_isPlacedAgain 51 = .ok (.aload_n 0, 1) := by decide +kernel
theorem dX5_isPlacedAgain_52 : decode cX5_isPlacedAgain 52 = .ok (.getfield 10, 3) := by decide +kernel
theorem dX5_isPlacedAgain_55 : decode cX5_isPlacedAgain 55 = .ok (.iconst 4, 1) := by decide +kernel
theorem dX5_isPlacedAgain_56 : decode cX5_isPlacedAgain 56 = .ok (.invokevirtual 155, 3) := by decide +kernel
theorem dX5_isPlacedAgain_59 : decode cX5_isPlacedAgain 59 = .ok (.istore 7, 2) := by decide +kernel
theorem dX5_isPlacedAgain_61 : decode cX5_isPlacedAgain 61 = .ok (.aload_n 0, 1) := by decide +kernel
theorem dX5_isPlacedAgain_62 : decode cX5_isPlacedAgain 62 = .ok (.getfield 29, 3) := by decide +kernel
theorem dX5_isPlacedAgain_65 : decode cX5_isPlacedAgain 65 = .ok (.aload_n 0, 1) := by decide +kernel
theorem dX5_isPlacedAgain_66 : decode cX5_isPlacedAgain 66 = .ok (.getfield 10, 3) := by decide +kernel
theorem dX5_isPlacedAgain_69 : decode cX5_isPlacedAgain 69 = .ok (.iload_n 3, 1) := by decide +kernel
theorem dX5_isPlacedAgain_70 : decode cX5_isPlacedAgain 70 = .ok (.aload_n 0, 1) := by decide +kernel
theorem dX5_isPlacedAgain_71 : decode cX5_isPlacedAgain 71 = .ok (.getfield 10, 3) := by decide +kernel
theorem dX5_isPlacedAgain_74 : decode cX5_isPlacedAgain 74 = .ok (.getfield 210, 3) := by decide +kernel
theorem dX5_isPlacedAgain_77 : decode cX5_isPlacedAgain 77 = .ok (.iload_n 3, 1) := by decide +kernel
theorem dX5_isPlacedAgain_78 : decode cX5_isPlacedAgain 78 = .ok (.iconst 1, 1) := by decide +kernel
theorem dX5_isPlacedAgain_79 : decode cX5_isPlacedAgain 79 = .ok (.invokevirtual 126, 3) := by decide +kernel
theorem dX5_isPlacedAgain_82 : decode cX5_isPlacedAgain 82 = .ok (.aload_n 0, 1) := by decide +kernel
theorem dX5_isPlacedAgain_83 : decode cX5_isPlacedAgain 83 = .ok (.getfield 10, 3) := by decide +kernel
theorem dX5_isPlacedAgain_86 : decode cX5_isPlacedAgain 86 = .ok (.getfield 210, 3) := by decide +kernel
theorem dX5_isPlacedAgain_89 : decode cX5_isPlacedAgain 89 = .ok (.iload_n 3, 1) := by decide +kernel
theorem dX5_isPlacedAgain_90 : decode cX5_isPlacedAgain 90 = .ok (.iconst 2, 1) := by decide +kernel
theorem dX5_isPlacedAgain_91 : decode cX5_isPlacedAgain 91 = .ok (.invokevirtual 126, 3) := by decide +kernel
theorem dX5_isPlacedAgain_94 : decode cX5_isPlacedAgain 94 = .ok (.invokevirtual 265, 3) := by decide +kernel
theorem dX5_isPlacedAgain_97 : decode cX5_isPlacedAgain 97 = .ok (.iconst 0, 1) := by decide +kernel
theorem dX5_isPlacedAgain_98 : decode cX5_isPlacedAgain 98 = .ok (.istore 8, 2) := by decide +kernel
theorem dX5_isPlacedAgain_100 : decode cX5_isPlacedAgain 100 = .ok (.iload 8, 2) := by decide +kernel
theorem dX5_isPlacedAgain_102 : decode cX5_isPlacedAgain 102 = .ok (.iconst 2, 1) := by decide +kernel
theorem dX5_isPlacedAgain_103 : decode cX5_isPlacedAgain 103 = .ok (.iload 7, 2) := by decide +kernel
theorem dX5_isPlacedAgain_105 : decode cX5_isPlacedAgain 105 = .ok (.imul, 1) := by decide +kernel
theorem dX5_isPlacedAgain_106 : decode cX5_isPlacedAgain 106 = .ok (.if_icmp .gt 141, 3) := by decide +kernel
theorem dX5_isPlacedAgain_109 : decode cX5_isPlacedAgain 109 = .ok (.iload 8, 2) := by decide +kernel
theorem dX5_isPlacedAgain_111 : decode cX5_isPlacedAgain 111 = .ok (.iconst 1, 1) := by decide +kernel
theorem dX5_isPlacedAgain_112 : decode cX5_isPlacedAgain 112 = .ok (.iadd, 1) := by decide +kernel
theorem dX5_isPlacedAgain_113 : decode cX5_isPlacedAgain 113 = .ok (.iconst 2, 1) := by decide +kernel
theorem dX5_isPlacedAgain_114 : decode cX5_isPlacedAgain 114 = .ok (.idiv, 1) := by decide +kernel
theorem dX5_isPlacedAgain_115 : decode cX5_isPlacedAgain 115 = .ok (.istore 9, 2) := by decide +kernel
theorem dX5_isPlacedAgain_117 : decode cX5_isPlacedAgain 117 = .ok (.iload 8, 2) := by decide +kernel
theorem dX5_isPlacedAgain_119 : decode cX5_isPlacedAgain 119 = .ok (.iconst 2, 1) := by decide +kernel
theorem dX5_isPlacedAgain_120 : decode cX5_isPlacedAgain 120 = .ok (.irem, 1) := by decide +kernel
theorem dX5_isPlacedAgain_121 : decode cX5_isPlacedAgain 121 = .ok (.ifCond .ne 11, 3) := by decide +kernel
theorem dX5_isPlacedAgain_124 : decode cX5_isPlacedAgain 124 = .ok (.iload 4, 2) := by decide +kernel
theorem dX5_isPlacedAgain_126 : decode cX5_isPlacedAgain 126 = .ok (.iload 9, 2) := by decide +kernel
theorem dX5_isPlacedAgain_128 : decode cX5_isPlacedAgain 128 = .ok (.iadd, 1) := by decide +kernel
theorem dX5_isPlacedAgain_129 : decode cX5_isPlacedAgain 129 = .ok (.goto 8, 3) := by decide +kernel
theorem dX5_isPlacedAgain_132 : decode cX5_isPlacedAgain 132 = .ok (.iload 4, 2) := by decide +kernel
theorem dX5_isPlacedAgain_134 : decode cX5_isPlacedAgain 134 = .ok (.iload 9, 2) := by decide +kernel
theorem dX5_isPlacedAgain_136 : decode cX5_isPlacedAgain 136 = .ok (.isub, 1) := by decide +kernel
theorem dX5_isPlacedAgain_137 : decode cX5_isPlacedAgain 137 = .ok (.istore 10, 2) := by decide +kernel
theorem dX5_isPlacedAgain_139 : decode cX5_isPlacedAgain 139 = .ok (.iconst 0, 1) := by decide +kernel
theorem dX5_isPlacedAgain_140 : decode cX5_isPlacedAgain 140 = .ok (.istore 11, 2) := by decide +kernel
theorem dX5_isPlacedAgain_142 : decode cX5_isPlacedAgain 142 = .ok (.iload 11, 2) := by decide +kernel
theorem dX5_isPlacedAgain_144 : decode cX5_isPlacedAgain 144 = .ok (.aload_n 0, 1) := by decide +kernel
theorem dX5_isPlacedAgain_145 : decode cX5_isPlacedAgain 145 = .ok (.getfield 10, 3) := by decide +kernel
theorem dX5_isPlacedAgain_148 : decode cX5_isPlacedAgain 148 = .ok (.getfield 75, 3) := by decide +kernel
theorem dX5_isPlacedAgain_151 : decode cX5_isPlacedAgain 151 = .ok (.invokevirtual 79, 3) := by decide +kernel
theorem dX5_isPlacedAgain_154 : decode cX5_isPlacedAgain 154 = .ok (.if_icmp .ge 87, 3) := by decide +kernel
theorem dX5_isPlacedAgain_157 : decode cX5_isPlacedAgain 157 = .ok (.iload 10, 2) := by decide +kernel
theorem dX5_isPlacedAgain_159 : decode cX5_isPlacedAgain 159 = .ok (.invokestatic 215, 3) := by decide +kernel
theorem dX5_isPlacedAgain_162 : decode cX5_isPlacedAgain 162 = .ok (.ifCond .eq 79, 3) := by decide +kernel
theorem dX5_isPlacedAgain_165 : decode cX5_isPlacedAgain 165 = .ok (.iload 11, 2) := by decide +kernel
theorem dX5_isPlacedAgain_167 : decode cX5_isPlacedAgain 167 = .ok (.iload_n 2, 1) := by decide +kernel
theorem dX5_isPlacedAgain_168 : decode cX5_isPlacedAgain 168 = .ok (.if_icmp .eq 25, 3) := by decide +kernel
theorem dX5_isPlacedAgain_171 : decode cX5_isPlacedAgain 171 = .ok (.aload_n 0, 1) := by decide +kernel
theorem dX5_isPlacedAgain_172 : decode cX5_isPlacedAgain 172 = .ok (.getfield 10, 3) := by decide +kernel
theorem dX5_isPlacedAgain_175 : decode cX5_isPlacedAgain 175 = .ok (.getfield 75, 3) := by decide +kernel
theorem dX5_isPlacedAgain_178 : decode cX5_isPlacedAgain 178 = .ok (.iload 11, 2) := by decide +kernel
theorem dX5_isPlacedAgain_180 : decode cX5_isPlacedAgain 180 = .ok (.iconst 0, 1) := by decide +kernel
theorem dX5_isPlacedAgain_181 : decode cX5_isPlacedAgain 181 = .ok (.invokevirtual 126, 3) := by decide +kernel
theorem dX5_isPlacedAgain_184 : decode cX5_isPlacedAgain 184 = .ok (.iload 5, 2) := by decide +kernel
theorem dX5_isPlacedAgain_186 : decode cX5_isPlacedAgain 186 = .ok (.if_icmp .lt 7, 3) := by decide +kernel
theorem dX5_isPlacedAgain_189 : decode cX5_isPlacedAgain 189 = .ok (.iconst 1, 1) := by decide +kernel
theorem dX5_isPlacedAgain_190 : decode cX5_isPlacedAgain 190 = .ok (.goto 4, 3) := by decide +kernel
theorem dX5_isPlacedAgain_193 : decode cX5_isPlacedAgain 193 = .ok (.iconst 0, 1) := by decide +kernel
theorem dX5_isPlacedAgain_194 : decode cX5_isPlacedAgain 194 = .ok (.istore 12, 2) := by decide +kernel
theorem dX5_isPlacedAgain_196 : decode cX5_isPlacedAgain 196 = .ok (.iload 12, 2) := by decide +kernel
theorem dX5_isPlacedAgain_198 : decode cX5_isPlacedAgain 198 = .ok (.ifCond .eq 37, 3) := by decide +kernel
theorem dX5_isPlacedAgain_201 : decode cX5_isPlacedAgain 201 = .ok (.aload_n 0, 1) := by decide +kernel
theorem dX5_isPlacedAgain_202 : decode cX5_isPlacedAgain 202 = .ok (.getfield 29, 3) := by decide +kernel
theorem dX5_isPlacedAgain_205 : decode cX5_isPlacedAgain 205 = .ok (.aload_n 0, 1) := by decide +kernel
theorem dX5_isPlacedAgain_206 : decode cX5_isPlacedAgain 206 = .ok (.getfield 10, 3) := by decide +kernel
theorem dX5_isPlacedAgain_209 : decode cX5_isPlacedAgain 209 = .ok (.iload 11, 2) := by decide +kernel
theorem dX5_isPlacedAgain_211 : decode cX5_isPlacedAgain 211 = .ok (.iload 10, 2) := by decide +kernel
theorem dX5_isPlacedAgain_213 : decode cX5_isPlacedAgain 213 = .ok (.iload 10, 2) := by decide +kernel
theorem dX5_isPlacedAgain_215 : decode cX5_isPlacedAgain 215 = .ok (.iload 6, 2) := by decide +kernel
theorem dX5_isPlacedAgain_217 : decode cX5_isPlacedAgain 217 = .ok (.iadd, 1) := by decide +kernel
theorem dX5_isPlacedAgain_218 : decode cX5_isPlacedAgain 218 = .ok (.invokevirtual 272, 3) := by decide +kernel
theorem dX5_isPlacedAgain_221 : decode cX5_isPlacedAgain 221 = .ok (.ifCond .ne 14, 3) := by decide +kernel
theorem dX5_isPlacedAgain_224 : decode cX5_isPlacedAgain 224 = .ok (.aload_n 0, 1) := by decide +kernel
theorem dX5_isPlacedAgain_225 : decode cX5_isPlacedAgain 225 = .ok (.iload_n 1, 1) := by decide +kernel
theorem dX5_isPlacedAgain_226 : decode cX5_isPlacedAgain 226 = .ok (.iload 11, 2) := by decide +kernel
theorem dX5_isPlacedAgain_228 : decode cX5_isPlacedAgain 228 = .ok (.iload 10, 2) := by decide +kernel
theorem dX5_isPlacedAgain_230 : decode cX5_isPlacedAgain 230 = .ok (.invokevirtual 443, 3) := by decide +kernel
theorem dX5_isPlacedAgain_233 : decode cX5_isPlacedAgain 233 = .ok (.iconst 1, 1) := by decide +kernel
theorem dX5_isPlacedAgain_234 : decode cX5_isPlacedAgain 234 = .ok (.ireturn, 1) := by decide +kernel
theorem dX5_isPlacedAgain_235 : decode cX5_isPlacedAgain 235 = .ok (.iinc 11 1, 3) := by decide +kernel
theorem dX5_isPlacedAgain_238 : decode cX5_isPlacedAgain 238 = .ok (.goto (-96), 3) := by decide +kernel
theorem dX5_isPlacedAgain_241 : decode cX5_isPlacedAgain 241 = .ok (.iinc 8 1, 3) := by decide +kernel
theorem dX5_isPlacedAgain_244 : decode cX5_isPlacedAgain 244 = .ok (.goto (-144), 3) := by decide +kernel
theorem dX5_isPlacedAgain_247 : decode cX5_isPlacedAgain 247 = .ok (.iconst 0, 1) := by decide +kernel
theorem dX5_isPlacedAgain_248 : decode cX5_isPlacedAgain 248 = .ok (.ireturn, 1) := by decide +kernel
set_option maxRecDepth 20000 in
theorem ggX5_putBack_X4_get : GoodIn wsX5_putBack wsX4_get := goodIn_ca (goodIn_r _ [8, 9, 10, 42, 43, 44, 45] (by decide +kernel) (by decide +kernel)) (goodIn_sub (fun _ h => List.mem_cons_of_mem _ (List.mem_append_right _ h)) (by decide +kernel))
set_option maxRecDepth 20000 in
theorem gX5_putBack_X4_get : GoodIn wsX5_putBack (wsV RX5 126 RX4 yX4_get wsX4_get) := goodIn_app (goodIn_of _ (by decide +kernel)) ggX5_putBack_X4_get
set_option maxRecDepth 20000 in
theorem ggX5_putBack_X3_putShow : GoodIn wsX5_putBack wsX3_putShow := goodIn_ca (goodIn_r _ [15, 16, 17, 5, 6, 7, 8, 9, 10, 18, 19, 20, 21, 34, 35, 36, 37, 38, 39, 40, 41, 42, 43, 44, 45] (by decide +kernel) (by decide +kernel)) (goodIn_sub (fun _ h => List.mem_cons_of_mem _ (List.mem_append_right _ h)) (by decide +kernel))
set_option maxRecDepth 20000 in
theorem gX5_putBack_X3_putShow : GoodIn wsX5_putBack (wsV RX5 230 RX3 yX3_putShow wsX3_putShow) := goodIn_app (goodIn_of _ (by decide +kernel)) ggX5_putBack_X3_putShow
set_option maxRecDepth 20000 in
theorem ggX5_putBack_X4_put : GoodIn wsX5_putBack wsX4_put := goodIn_ca (goodIn_r _ [21, 9, 10, 42, 43, 44, 45] (by decide +kernel) (by decide +kernel)) (goodIn_sub (fun _ h => List.mem_cons_of_mem _ (List.mem_append_right _ h)) (by decide +kernel))
set_option maxRecDepth 20000 in
theorem gX5_putBack_X4_put : GoodIn wsX5_putBack (wsV RX5 97 RX4 yX4_put wsX4_put) := goodIn_app (goodIn_of _ (by decide +kernel)) ggX5_putBack_X4_put
theorem dX5_putBack_0 : decode cX5_putBack 0 = .ok (.aload_n 0, 1) := by decide +kernel
theorem dX5_putBack_1 : decode cX5_putBack 1 = .ok (.getfield 10, 3) := by decide +kernel
theorem dX5_putBack_4 : decode cX5_putBack 4 = .ok (.getfield 293, 3) := by decide +kernel
theorem dX5_putBack_7 : decode cX5_putBack 7 = .ok (.iload_n 1, 1) := by decide +kernel
theorem dX5_putBack_8 : decode cX5_putBack 8 = .ok (.iconst 0, 1) := by decide +kernel
theorem dX5_putBack_9 : decode cX5_putBack 9 = .ok (.invokevirtual 126, 3) := by decide +kernel
theorem dX5_putBack_12 : decode cX5_putBack 12 = .ok (.istore 4, 2) := by decide +kernel
theorem dX5_putBack_14 : decode cX5_putBack 14 = .ok (.aload_n 0, 1) := by decide +kernel
theorem dX5_putBack_15 : decode cX5_putBack 15 = .ok (.getfield 10, 3) := by decide +kernel
theorem dX5_putBack_18 : decode cX5_putBack 18 = .ok (.iload 4, 2) := by decide +kernel
theorem dX5_putBack_20 : decode cX5_putBack 20 = .ok (.iload_n 2, 1) := by decide +kernel
theorem dX5_putBack_21 : decode cX5_putBack 21 = .ok (.iload_n 3, 1) := by decide +kernel
theorem dX5_putBack_22 : decode cX5_putBack 22 = .ok (.invokevirtual 230, 3) := by decide +kernel
theorem dX5_putBack_25 : decode cX5_putBack 25 = .ok (.aload_n 0, 1) := by decide +kernel
theorem dX5_putBack_26 : decode cX5_putBack 26 = .ok (.getfield 10, 3) := by decide +kernel
theorem dX5_putBack_29 : decode cX5_putBack 29 = .ok (.getfield 210, 3) := by decide +kernel
theorem dX5_putBack_32 : decode cX5_putBack 32 = .ok (.iload 4, 2) := by decide +kernel
theorem dX5_putBack_34 : decode cX5_putBack 34 = .ok (.bipush 8, 2) := by decide +kernel
theorem dX5_putBack_36 : decode cX5_putBack 36 = .ok (.iconst 0, 1) := by decide +kernel
theorem dX5_putBack_37 : decode cX5_putBack 37 = .ok (.invokevirtual 97, 3) := by decide +kernel
theorem dX5_putBack_40 : decode cX5_putBack 40 = .ok (.aload_n 0, 1) := by decide +kernel
theorem dX5_putBack_41 : decode cX5_putBack 41 = .ok (.getfield 10, 3) := by decide +kernel
theorem dX5_putBack_44 : decode cX5_putBack 44 = .ok (.getfield 293, 3) := by decide +kernel
theorem dX5_putBack_47 : decode cX5_putBack 47 = .ok (.iload_n 1, 1) := by decide +kernel
theorem dX5_putBack_48 : decode cX5_putBack 48 = .ok (.iconst 2, 1) := by decide +kernel
theorem dX5_putBack_49 : decode cX5_putBack 49 = .ok (.iload_n 2, 1) := by decide +kernel
theorem dX5_putBack_50 : decode cX5_putBack 50 = .ok (.invokevirtual 97, 3) := by decide +kernel
theorem dX5_putBack_53 : decode cX5_putBack 53 = .ok (.aload_n 0, 1) := by decide +kernel
theorem dX5_putBack_54 : decode cX5_putBack 54 = .ok (.getfield 10, 3) := by decide +kernel
theorem dX5_putBack_57 : decode cX5_putBack 57 = .ok (.getfield 293, 3) := by decide +kernel
theorem dX5_putBack_60 : decode cX5_putBack 60 = .ok (.iload_n 1, 1) := by decide +kernel
theorem dX5_putBack_61 : decode cX5_putBack 61 = .ok (.iconst 3, 1) := by decide +kernel
theorem dX5_putBack_62 : decode cX5_putBack 62 = .ok (.iload_n 3, 1) := by decide +kernel
theorem dX5_putBack_63 : decode cX5_putBack 63 = .ok (.invokevirtual 97, 3) := by decide +kernel
theorem dX5_putBack_66 : decode cX5_putBack 66 = .ok (.return_, 1) := by decide +kernel
set_option maxRecDepth 20000 in
theorem ggX5_appendShow_X4_get : GoodIn wsX5_appendShow wsX4_get := goodIn_ca (goodIn_r _ [8, 9, 10, 233, 234, 235, 236] (by decide +kernel) (by decide +kernel)) (goodIn_sub (fun _ h => List.mem_cons_of_mem _ (List.mem_append_right _ h)) (by decide +kernel))
set_option maxRecDepth 20000 in
theorem gX5_appendShow_X4_get : GoodIn wsX5_appendShow (wsV RX5 126 RX4 yX4_get wsX4_get) := goodIn_app (goodIn_of _ (by decide +kernel)) ggX5_appendShow_X4_get
set_option maxRecDepth 20000 in
theorem ggX5_appendShow_J4_append_bf812 : GoodIn wsX5_appendShow wsJ4_append_bf812 := goodIn_r _ [15, 16, 17, 18, 19, 20, 21, 22, 23, 24, 25, 26, 27, 28, 29, 30, 31, 32, 33, 34, 35, 36, 37, 38, 39, 40, 41, 42, 43, 44, 45, 46, 47, 48, 49, 50, 51, 52, 53, 54, 55, 56, 57, 58, 59, 60, 61, 62, 63, 64, 65, 66, 67, 68, 69, 70, 71, 72, 73, 74, 75, 76, 77, 78, 79, 80, 81, 82, 83, 84, 85, 86, 87, 88, 89, 90, 91, 92, 93, 94, 95, 96, 97, 98, 99, 100, 101, 102, 103, 104, 105, 106, 107, 108, 109, 110, 237, 238, 239, 240] (by decide +kernel) (by decide +kernel)
set_option maxRecDepth 20000 in
theorem gX5_appendShow_J4_append_bf812 : GoodIn wsX5_appendShow (wsV RX5 446 RJ4 yJ4_append_bf812 wsJ4_append_bf812) := goodIn_app (goodIn_of _ (by decide +kernel)) ggX5_appendShow_J4_append_bf812
set_option maxRecDepth 20000 in
theorem ggX5_appendShow_J4_append_cf468 : GoodIn wsX5_appendShow wsJ4_append_cf468 := goodIn_r _ [114, 115, 116, 18, 117, 20, 118, 22, 23, 28, 29, 30, 31, 32, 33, 34, 35, 36, 37, 38, 39, 40, 41, 42, 43, 44, 45, 46, 47, 48, 49, 50, 51, 52, 53, 54, 55, 56, 57, 58, 59, 60, 61, 62, 63, 64, 65, 66, 67, 68, 69, 70, 71, 72, 73, 74, 75, 119, 120, 121, 122, 123, 124, 125, 126, 127, 128, 129, 83, 130, 131, 132, 133, 134, 135, 136, 137, 138, 139, 140, 141, 142, 143, 89, 90, 91, 144, 145, 94, 146, 96, 147, 148, 99, 149, 106, 107, 108, 85, 109, 110, 150, 151, 152, 153, 154, 155, 156, 157, 158, 159, 160, 161, 237, 238, 239, 240] (by decide +kernel) (by decide +kernel)
set_option maxRecDepth 20000 in
theorem gX5_appendShow_J4_append_cf468 : GoodIn wsX5_appendShow (wsV RX5 377 RJ4 yJ4_append_cf468 wsJ4_append_cf468) := goodIn_app (goodIn_of _ (by decide +kernel)) ggX5_appendShow_J4_append_cf468
set_option maxRecDepth 20000 in
theorem ggX5_appendShow_J4_append_15ec4 : GoodIn wsX5_appendShow wsJ4_append_15ec4 := goodIn_r _ [165, 166, 167, 18, 168, 20, 169, 22, 170, 171, 172, 173, 174, 23, 28, 29, 30, 31, 32, 33, 34, 35, 36, 37, 38, 39, 40, 41, 42, 43, 44, 45, 46, 47, 48, 49, 50, 51, 52, 53, 54, 55, 56, 57, 58, 59, 60, 61, 62, 63, 64, 65, 66, 67, 68, 69, 70, 71, 72, 73, 74, 75, 175, 176, 83, 177, 85, 86, 87, 88, 89, 90, 91, 92, 93, 94, 95, 96, 97, 98, 99, 100, 106, 107, 108, 109, 110, 178, 179, 180, 181, 182, 183, 184, 185, 186, 187, 188, 189, 190, 191, 192, 193, 194, 195, 196, 197, 198, 199, 123, 124, 125, 126, 127, 128, 129, 130, 131, 132, 133, 134, 135, 136, 121, 137, 138, 139, 140, 141, 142, 143, 144, 145, 146, 147, 148, 149, 200, 201, 202, 203, 204, 205, 237, 238, 239, 240, 241, 242, 243, 244] (by decide +kernel) (by decide +kernel)
set_option maxRecDepth 20000 in
theorem gX5_appendShow_J4_append_15ec4 : GoodIn wsX5_appendShow (wsV RX5 353 RJ4 yJ4_append_15ec4 wsJ4_append_15ec4) := goodIn_app (goodIn_of _ (by decide +kernel)) ggX5_appendShow_J4_append_15ec4
set_option maxRecDepth 20000 in
theorem ggX5_appendShow_X3_seatsOf : GoodIn wsX5_appendShow wsX3_seatsOf := goodIn_ca (goodIn_r _ [210, 211, 212, 213, 5, 6, 7, 8, 9, 10, 225, 226, 227, 228, 229, 230, 231, 232, 233, 234, 235, 236] (by decide +kernel) (by decide +kernel)) (goodIn_sub (fun _ h => List.mem_cons_of_mem _ (List.mem_append_right _ h)) (by decide +kernel))
set_option maxRecDepth 20000 in
theorem gX5_appendShow_X3_seatsOf : GoodIn wsX5_appendShow (wsV RX5 431 RX3 yX3_seatsOf wsX3_seatsOf) := goodIn_app (goodIn_of _ (by decide +kernel)) ggX5_appendShow_X3_seatsOf
