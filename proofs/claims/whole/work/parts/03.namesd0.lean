theorem dX5_setLimit_0 : decode cX5_setLimit 0 = .ok (.iload_n 1, 1) := by decide +kernel
theorem dX5_setLimit_1 : decode cX5_setLimit 1 = .ok (.iconst 0, 1) := by decide +kernel
theorem dX5_setLimit_2 : decode cX5_setLimit 2 = .ok (.bipush 15, 2) := by decide +kernel
theorem dX5_setLimit_4 : decode cX5_setLimit 4 = .ok (.invokestatic 64, 3) := by decide +kernel
theorem dX5_setLimit_7 : decode cX5_setLimit 7 = .ok (.ifCond .ne 13, 3) := by decide +kernel
theorem dX5_setLimit_10 : decode cX5_setLimit 10 = .ok (.new 119, 3) := by decide +kernel
theorem dX5_setLimit_13 : decode cX5_setLimit 13 = .ok (.dup, 1) := by decide +kernel
theorem dX5_setLimit_14 : decode cX5_setLimit 14 = .ok (.ldc 149, 2) := by decide +kernel
theorem dX5_setLimit_16 : decode cX5_setLimit 16 = .ok (.invokespecial 123, 3) := by decide +kernel
theorem dX5_setLimit_19 : decode cX5_setLimit 19 = .ok (.athrow, 1) := by decide +kernel
theorem dX5_setLimit_20 : decode cX5_setLimit 20 = .ok (.iload_n 2, 1) := by decide +kernel
theorem dX5_setLimit_21 : decode cX5_setLimit 21 = .ok (.invokestatic 101, 3) := by decide +kernel
theorem dX5_setLimit_24 : decode cX5_setLimit 24 = .ok (.ifCond .ne 13, 3) := by decide +kernel
theorem dX5_setLimit_27 : decode cX5_setLimit 27 = .ok (.new 68, 3) := by decide +kernel
theorem dX5_setLimit_30 : decode cX5_setLimit 30 = .ok (.dup, 1) := by decide +kernel
theorem dX5_setLimit_31 : decode cX5_setLimit 31 = .ok (.ldc 151, 2) := by decide +kernel
theorem dX5_setLimit_33 : decode cX5_setLimit 33 = .ok (.invokespecial 72, 3) := by decide +kernel
theorem dX5_setLimit_36 : decode cX5_setLimit 36 = .ok (.athrow, 1) := by decide +kernel
theorem dX5_setLimit_37 : decode cX5_setLimit 37 = .ok (.aload_n 0, 1) := by decide +kernel
theorem dX5_setLimit_38 : decode cX5_setLimit 38 = .ok (.getfield 22, 3) := by decide +kernel
theorem dX5_setLimit_41 : decode cX5_setLimit 41 = .ok (.aload_n 0, 1) := by decide +kernel
theorem dX5_setLimit_42 : decode cX5_setLimit 42 = .ok (.getfield 10, 3) := by decide +kernel
theorem dX5_setLimit_45 : decode cX5_setLimit 45 = .ok (.invokevirtual 90, 3) := by decide +kernel
theorem dX5_setLimit_48 : decode cX5_setLimit 48 = .ok (.aload_n 0, 1) := by decide +kernel
theorem dX5_setLimit_49 : decode cX5_setLimit 49 = .ok (.getfield 10, 3) := by decide +kernel
theorem dX5_setLimit_52 : decode cX5_setLimit 52 = .ok (.bipush 10, 2) := by decide +kernel
theorem dX5_setLimit_54 : decode cX5_setLimit 54 = .ok (.iload_n 1, 1) := by decide +kernel
theorem dX5_setLimit_55 : decode cX5_setLimit 55 = .ok (.iadd, 1) := by decide +kernel
theorem dX5_setLimit_56 : decode cX5_setLimit 56 = .ok (.iload_n 2, 1) := by decide +kernel
theorem dX5_setLimit_57 : decode cX5_setLimit 57 = .ok (.invokevirtual 146, 3) := by decide +kernel
theorem dX5_setLimit_60 : decode cX5_setLimit 60 = .ok (.ireturn, 1) := by decide +kernel
set_option maxRecDepth 20000 in
theorem ggX5_setting_X5_isWithin : GoodIn wsX5_setting wsX5_isWithin := goodIn_r _ [7] (by decide +kernel) (by decide +kernel)
set_option maxRecDepth 20000 in
theorem gX5_setting_X5_isWithin : GoodIn wsX5_setting (va_wsS RX5 64 yX5_isWithin wsX5_isWithin) := goodIn_app (goodIn_of _ (by decide +kernel)) ggX5_setting_X5_isWithin
set_option maxRecDepth 20000 in
theorem ggX5_setting_X3_settingOf : GoodIn wsX5_setting wsX3_settingOf := goodIn_ca (goodIn_r _ [12, 13, 14, 15, 16, 17, 18, 19, 20, 32, 33, 34, 35, 36, 37, 38, 39, 40, 41, 42, 43] (by decide +kernel) (by decide +kernel)) (goodIn_sub (fun _ h => List.mem_cons_of_mem _ (List.mem_append_right _ h)) (by decide +kernel))
set_option maxRecDepth 20000 in
theorem gX5_setting_X3_settingOf : GoodIn wsX5_setting (wsV RX5 155 RX3 yX3_settingOf wsX3_settingOf) := goodIn_app (goodIn_of _ (by decide +kernel)) ggX5_setting_X3_settingOf
theorem dX5_setting_0 : decode cX5_setting 0 = .ok (.iload_n 1, 1) := by decide +kernel
theorem dX5_setting_1 : decode cX5_setting 1 = .ok (.iconst 0, 1) := by decide +kernel
theorem dX5_setting_2 : decode cX5_setting 2 = .ok (.iconst 5, 1) := by decide +kernel
theorem dX5_setting_3 : decode cX5_setting 3 = .ok (.invokestatic 64, 3) := by decide +kernel
theorem dX5_setting_6 : decode cX5_setting 6 = .ok (.ifCond .ne 24, 3) := by decide +kernel
theorem dX5_setting_9 : decode cX5_setting 9 = .ok (.iload_n 1, 1) := by decide +kernel
theorem dX5_setting_10 : decode cX5_setting 10 = .ok (.bipush 10, 2) := by decide +kernel
theorem dX5_setting_12 : decode cX5_setting 12 = .ok (.bipush 25, 2) := by decide +kernel
theorem dX5_setting_14 : decode cX5_setting 14 = .ok (.invokestatic 64, 3) := by decide +kernel
theorem dX5_setting_17 : decode cX5_setting 17 = .ok (.ifCond .ne 13, 3) := by decide +kernel
theorem dX5_setting_20 : decode cX5_setting 20 = .ok (.new 119, 3) := by decide +kernel
theorem dX5_setting_23 : decode cX5_setting 23 = .ok (.dup, 1) := by decide +kernel
theorem dX5_setting_24 : decode cX5_setting 24 = .ok (.ldc 153, 2) := by decide +kernel
theorem dX5_setting_26 : decode cX5_setting 26 = .ok (.invokespecial 123, 3) := by decide +kernel
theorem dX5_setting_29 : decode cX5_setting 29 = .ok (.athrow, 1) := by decide +kernel
theorem dX5_setting_30 : decode cX5_setting 30 = .ok (.aload_n 0, 1) := by decide +kernel
theorem dX5_setting_31 : decode cX5_setting 31 = .ok (.getfield 10, 3) := by decide +kernel
theorem dX5_setting_34 : decode cX5_setting 34 = .ok (.iload_n 1, 1) := by decide +kernel
theorem dX5_setting_35 : decode cX5_setting 35 = .ok (.invokevirtual 155, 3) := by decide +kernel
theorem dX5_setting_38 : decode cX5_setting 38 = .ok (.ireturn, 1) := by decide +kernel
set_option maxRecDepth 20000 in
theorem ggX5_hall_X4_isRow : GoodIn wsX5_hall wsX4_isRow := goodIn_r _ [11, 12, 87, 88, 89, 90] (by decide +kernel) (by decide +kernel)
set_option maxRecDepth 20000 in
theorem gX5_hall_X4_isRow : GoodIn wsX5_hall (wsV RX5 116 RX4 yX4_isRow wsX4_isRow) := goodIn_app (goodIn_of _ (by decide +kernel)) ggX5_hall_X4_isRow
set_option maxRecDepth 20000 in
theorem ggX5_hall_X5_isWithin : GoodIn wsX5_hall wsX5_isWithin := goodIn_r _ [16] (by decide +kernel) (by decide +kernel)
set_option maxRecDepth 20000 in
theorem gX5_hall_X5_isWithin : GoodIn wsX5_hall (va_wsS RX5 64 yX5_isWithin wsX5_isWithin) := goodIn_app (goodIn_of _ (by decide +kernel)) ggX5_hall_X5_isWithin
set_option maxRecDepth 20000 in
theorem ggX5_hall_X3_total : GoodIn wsX5_hall wsX3_total := goodIn_ca (goodIn_r _ [21, 22, 23, 24, 25, 10, 26, 12, 27, 28, 29, 30, 31, 32, 33, 34, 35, 20, 36, 37, 38, 39, 40, 41, 42, 43, 44, 45, 46, 47, 48, 49, 50, 51, 52, 53, 54, 55, 56, 57, 58, 59, 60, 61, 62, 63, 64, 65, 66, 79, 80, 81, 82, 83, 84, 85, 86, 87, 88, 89, 90] (by decide +kernel) (by decide +kernel)) (goodIn_sub (fun _ h => List.mem_cons_of_mem _ (List.mem_append_right _ h)) (by decide +kernel))
set_option maxRecDepth 20000 in
theorem gX5_hall_X3_total : GoodIn wsX5_hall (wsV RX5 163 RX3 yX3_total wsX3_total) := goodIn_app (goodIn_of _ (by decide +kernel)) ggX5_hall_X3_total
set_option maxRecDepth 20000 in
theorem ggX5_hall_X4_get : GoodIn wsX5_hall wsX4_get := goodIn_ca (goodIn_r _ [30, 31, 32, 87, 88, 89, 90] (by decide +kernel) (by decide +kernel)) (goodIn_sub (fun _ h => List.mem_cons_of_mem _ (List.mem_append_right _ h)) (by decide +kernel))
set_option maxRecDepth 20000 in
theorem gX5_hall_X4_get : GoodIn wsX5_hall (wsV RX5 126 RX4 yX4_get wsX4_get) := goodIn_app (goodIn_of _ (by decide +kernel)) ggX5_hall_X4_get
theorem dX5_hall_0 : decode cX5_hall 0 = .ok (.aload_n 0, 1) := by decide +kernel
theorem dX5_hall_1 : decode cX5_hall 1 = .ok (.getfield 10, 3) := by decide +kernel
theorem dX5_hall_4 : decode cX5_hall 4 = .ok (.getfield 75, 3) := by decide +kernel
theorem dX5_hall_7 : decode cX5_hall 7 = .ok (.iload_n 1, 1) := by decide +kernel
theorem dX5_hall_8 : decode cX5_hall 8 = .ok (.invokevirtual 116, 3) := by decide +kernel
theorem dX5_hall_11 : decode cX5_hall 11 = .ok (.ifCond .ne 13, 3) := by decide +kernel
theorem dX5_hall_14 : decode cX5_hall 14 = .ok (.new 119, 3) := by decide +kernel
theorem dX5_hall_17 : decode cX5_hall 17 = .ok (.dup, 1) := by decide +kernel
theorem dX5_hall_18 : decode cX5_hall 18 = .ok (.ldc 159, 2) := by decide +kernel
theorem dX5_hall_20 : decode cX5_hall 20 = .ok (.invokespecial 123, 3) := by decide +kernel
theorem dX5_hall_23 : decode cX5_hall 23 = .ok (.athrow, 1) := by decide +kernel
theorem dX5_hall_24 : decode cX5_hall 24 = .ok (.iload_n 2, 1) := by decide +kernel
theorem dX5_hall_25 : decode cX5_hall 25 = .ok (.iconst 0, 1) := by decide +kernel
theorem dX5_hall_26 : decode cX5_hall 26 = .ok (.bipush 6, 2) := by decide +kernel
theorem dX5_hall_28 : decode cX5_hall 28 = .ok (.invokestatic 64, 3) := by decide +kernel
theorem dX5_hall_31 : decode cX5_hall 31 = .ok (.ifCond .ne 13, 3) := by decide +kernel
theorem dX5_hall_34 : decode cX5_hall 34 = .ok (.new 68, 3) := by decide +kernel
theorem dX5_hall_37 : decode cX5_hall 37 = .ok (.dup, 1) := by decide +kernel
theorem dX5_hall_38 : decode cX5_hall 38 = .ok (.ldc 161, 2) := by decide +kernel
theorem dX5_hall_40 : decode cX5_hall 40 = .ok (.invokespecial 72, 3) := by decide +kernel
theorem dX5_hall_43 : decode cX5_hall 43 = .ok (.athrow, 1) := by decide +kernel
theorem dX5_hall_44 : decode cX5_hall 44 = .ok (.iload_n 2, 1) := by decide +kernel
theorem dX5_hall_45 : decode cX5_hall 45 = .ok (.tableswitch 60 4 6 #[27, 38, 49], 27) := by decide +kernel
theorem dX5_hall_72 : decode cX5_hall 72 = .ok (.aload_n 0, 1) := by decide +kernel
theorem dX5_hall_73 : decode cX5_hall 73 = .ok (.getfield 10, 3) := by decide +kernel
theorem dX5_hall_76 : decode cX5_hall 76 = .ok (.iconst 0, 1) := by decide +kernel
theorem dX5_hall_77 : decode cX5_hall 77 = .ok (.iconst 0, 1) := by decide +kernel
theorem dX5_hall_78 : decode cX5_hall 78 = .ok (.iload_n 1, 1) := by decide +kernel
theorem dX5_hall_79 : decode cX5_hall 79 = .ok (.invokevirtual 163, 3) := by decide +kernel
theorem dX5_hall_82 : decode cX5_hall 82 = .ok (.ireturn, 1) := by decide +kernel
theorem dX5_hall_83 : decode cX5_hall 83 = .ok (.aload_n 0, 1) := by decide +kernel
theorem dX5_hall_84 : decode cX5_hall 84 = .ok (.getfield 10, 3) := by decide +kernel
theorem dX5_hall_87 : decode cX5_hall 87 = .ok (.iconst 1, 1) := by decide +kernel
theorem dX5_hall_88 : decode cX5_hall 88 = .ok (.iconst 0, 1) := by decide +kernel
theorem dX5_hall_89 : decode cX5_hall 89 = .ok (.iload_n 1, 1) := by decide +kernel
theorem dX5_hall_90 : decode cX5_hall 90 = .ok (.invokevirtual 163, 3) := by decide +kernel
theorem dX5_hall_93 : decode cX5_hall 93 = .ok (.ireturn, 1) := by decide +kernel
theorem dX5_hall_94 : decode cX5_hall 94 = .ok (.aload_n 0, 1) := by decide +kernel
theorem dX5_hall_95 : decode cX5_hall 95 = .ok (.getfield 10, 3) := by decide +kernel
theorem dX5_hall_98 : decode cX5_hall 98 = .ok (.iconst 2, 1) := by decide +kernel
theorem dX5_hall_99 : decode cX5_hall 99 = .ok (.iconst 0, 1) := by decide +kernel
theorem dX5_hall_100 : decode cX5_hall 100 = .ok (.iload_n 1, 1) := by decide +kernel
theorem dX5_hall_101 : decode cX5_hall 101 = .ok (.invokevirtual 163, 3) := by decide +kernel
theorem dX5_hall_104 : decode cX5_hall 104 = .ok (.ireturn, 1) := by decide +kernel
theorem dX5_hall_105 : decode cX5_hall 105 = .ok (.aload_n 0, 1) := by decide +kernel
theorem dX5_hall_106 : decode cX5_hall 106 = .ok (.getfield 10, 3) := by decide +kernel
theorem dX5_hall_109 : decode cX5_hall 109 = .ok (.getfield 75, 3) := by decide +kernel
theorem dX5_hall_112 : decode cX5_hall 112 = .ok (.iload_n 1, 1) := by decide +kernel
theorem dX5_hall_113 : decode cX5_hall 113 = .ok (.iload_n 2, 1) := by decide +kernel
theorem dX5_hall_114 : decode cX5_hall 114 = .ok (.invokevirtual 126, 3) := by decide +kernel
theorem dX5_hall_117 : decode cX5_hall 117 = .ok (.ireturn, 1) := by decide +kernel
set_option maxRecDepth 20000 in
theorem ggX5_film_X4_isRow : GoodIn wsX5_film wsX4_isRow := goodIn_r _ [11, 12, 87, 88, 89, 90] (by decide +kernel) (by decide +kernel)
set_option maxRecDepth 20000 in
theorem gX5_film_X4_isRow : GoodIn wsX5_film (wsV RX5 116 RX4 yX4_isRow wsX4_isRow) := goodIn_app (goodIn_of _ (by decide +kernel)) ggX5_film_X4_isRow
set_option maxRecDepth 20000 in
theorem ggX5_film_X5_isWithin : GoodIn wsX5_film wsX5_isWithin := goodIn_r _ [16] (by decide +kernel) (by decide +kernel)
set_option maxRecDepth 20000 in
theorem gX5_film_X5_isWithin : GoodIn wsX5_film (va_wsS RX5 64 yX5_isWithin wsX5_isWithin) := goodIn_app (goodIn_of _ (by decide +kernel)) ggX5_film_X5_isWithin
set_option maxRecDepth 20000 in
theorem ggX5_film_X3_total : GoodIn wsX5_film wsX3_total := goodIn_ca (goodIn_r _ [21, 22, 23, 24, 25, 10, 26, 12, 27, 28, 29, 30, 31, 32, 33, 34, 35, 20, 36, 37, 38, 39, 40, 41, 42, 43, 44, 45, 46, 47, 48, 49, 50, 51, 52, 53, 54, 55, 56, 57, 58, 59, 60, 61, 62, 63, 64, 65, 66, 79, 80, 81, 82, 83, 84, 85, 86, 87, 88, 89, 90] (by decide +kernel) (by decide +kernel)) (goodIn_sub (fun _ h => List.mem_cons_of_mem _ (List.mem_append_right _ h)) (by decide +kernel))
set_option maxRecDepth 20000 in
theorem gX5_film_X3_total : GoodIn wsX5_film (wsV RX5 163 RX3 yX3_total wsX3_total) := goodIn_app (goodIn_of _ (by decide +kernel)) ggX5_film_X3_total
set_option maxRecDepth 20000 in
theorem ggX5_film_X4_get : GoodIn wsX5_film wsX4_get := goodIn_ca (goodIn_r _ [30, 31, 32, 87, 88, 89, 90] (by decide +kernel) (by decide +kernel)) (goodIn_sub (fun _ h => List.mem_cons_of_mem _ (List.mem_append_right _ h)) (by decide +kernel))
set_option maxRecDepth 20000 in
theorem gX5_film_X4_get : GoodIn wsX5_film (wsV RX5 126 RX4 yX4_get wsX4_get) := goodIn_app (goodIn_of _ (by decide +kernel)) ggX5_film_X4_get
theorem dX5_film_0 : decode cX5_film 0 = .ok (.aload_n 0, 1) := by decide +kernel
theorem dX5_film_1 : decode cX5_film 1 = .ok (.getfield 10, 3) := by decide +kernel
theorem dX5_film_4 : decode cX5_film 4 = .ok (.getfield 111, 3) := by decide +kernel
theorem dX5_film_7 : decode cX5_film 7 = .ok (.iload_n 1, 1) := by decide +kernel
theorem dX5_film_8 : decode cX5_film 8 = .ok (.invokevirtual 116, 3) := by decide +kernel
theorem dX5_film_11 : decode cX5_film 11 = .ok (.ifCond .ne 13, 3) := by decide +kernel
theorem dX5_film_14 : decode cX5_film 14 = .ok (.new 119, 3) := by decide +kernel
theorem dX5_film_17 : decode cX5_film 17 = .ok (.dup, 1) := by decide +kernel
theorem dX5_film_18 : decode cX5_film 18 = .ok (.ldc 121, 2) := by decide +kernel
theorem dX5_film_20 : decode cX5_film 20 = .ok (.invokespecial 123, 3) := by decide +kernel
theorem dX5_film_23 : decode cX5_film 23 = .ok (.athrow, 1) := by decide +kernel
theorem dX5_film_24 : decode cX5_film 24 = .ok (.iload_n 2, 1) := by decide +kernel
theorem dX5_film_25 : decode cX5_film 25 = .ok (.iconst 0, 1) := by decide +kernel
theorem dX5_film_26 : decode cX5_film 26 = .ok (.bipush 11, 2) := by decide +kernel
theorem dX5_film_28 : decode cX5_film 28 = .ok (.invokestatic 64, 3) := by decide +kernel
theorem dX5_film_31 : decode cX5_film 31 = .ok (.ifCond .ne 13, 3) := by decide +kernel
theorem dX5_film_34 : decode cX5_film 34 = .ok (.new 68, 3) := by decide +kernel
theorem dX5_film_37 : decode cX5_film 37 = .ok (.dup, 1) := by decide +kernel
theorem dX5_film_38 : decode cX5_film 38 = .ok (.ldc 167, 2) := by decide +kernel
theorem dX5_film_40 : decode cX5_film 40 = .ok (.invokespecial 72, 3) := by decide +kernel
theorem dX5_film_43 : decode cX5_film 43 = .ok (.athrow, 1) := by decide +kernel
theorem dX5_film_44 : decode cX5_film 44 = .ok (.iload_n 2, 1) := by decide +kernel
theorem dX5_film_45 : decode cX5_film 45 = .ok (.tableswitch 75 5 8 #[31, 42, 53, 64], 31) := by decide +kernel
theorem dX5_film_76 : decode cX5_film 76 = .ok (.aload_n 0, 1) := by decide +kernel
theorem dX5_film_77 : decode cX5_film 77 = .ok (.getfield 10, 3) := by decide +kernel
theorem dX5_film_80 : decode cX5_film 80 = .ok (.iconst 0, 1) := by decide +kernel
theorem dX5_film_81 : decode cX5_film 81 = .ok (.iconst 1, 1) := by decide +kernel
theorem dX5_film_82 : decode cX5_film 82 = .ok (.iload_n 1, 1) := by decide +kernel
theorem dX5_film_83 : decode cX5_film 83 = .ok (.invokevirtual 163, 3) := by decide +kernel
theorem dX5_film_86 : decode cX5_film 86 = .ok (.ireturn, 1) := by decide +kernel
theorem dX5_film_87 : decode cX5_film 87 = .ok (.aload_n 0, 1) := by decide +kernel
theorem dX5_film_88 : decode cX5_film 88 = .ok (.getfield 10, 3) := by decide +kernel
theorem dX5_film_91 : decode cX5_film 91 = .ok (.iconst 2, 1) := by decide +kernel
theorem dX5_film_92 : decode cX5_film 92 = .ok (.iconst 1, 1) := by decide +kernel
theorem dX5_film_93 : decode cX5_film 93 = .ok (.iload_n 1, 1) := by decide +kernel
theorem dX5_film_94 : decode cX5_film 94 = .ok (.invokevirtual 163, 3) := by decide +kernel
theorem dX5_film_97 : decode cX5_film 97 = .ok (.ireturn, 1) := by decide +kernel
theorem dX5_film_98 : decode cX5_film 98 = .ok (.aload_n 0, 1) := by decide +kernel
theorem dX5_film_99 : decode cX5_film 99 = .ok (.getfield 10, 3) := by decide +kernel
theorem dX5_film_102 : decode cX5_film 102 = .ok (.iconst 3, 1) := by decide +kernel
theorem dX5_film_103 : decode cX5_film 103 = .ok (.iconst 1, 1) := by decide +kernel
theorem dX5_film_104 : decode cX5_film 104 = .ok (.iload_n 1, 1) := by decide +kernel
theorem dX5_film_105 : decode cX5_film 105 = .ok (.invokevirtual 163, 3) := by decide +kernel
theorem dX5_film_108 : decode cX5_film 108 = .ok (.ireturn, 1) := by decide +kernel
theorem dX5_film_109 : decode cX5_film 109 = .ok (.aload_n 0, 1) := by decide +kernel
theorem dX5_film_110 : decode cX5_film 110 = .ok (.getfield 10, 3) := by decide +kernel
theorem dX5_film_113 : decode cX5_film 113 = .ok (.iconst 4, 1) := by decide +kernel
theorem dX5_film_114 : decode cX5_film 114 = .ok (.iconst 1, 1) := by decide +kernel
theorem dX5_film_115 : decode cX5_film 115 = .ok (.iload_n 1, 1) := by decide +kernel
theorem dX5_film_116 : decode cX5_film 116 = .ok (.invokevirtual 163, 3) := by decide +kernel
theorem dX5_film_119 : decode cX5_film 119 = .ok (.ireturn, 1) := by decide +kernel
theorem dX5_film_120 : decode cX5_film 120 = .ok (.aload_n 0, 1) := by decide +kernel
theorem dX5_film_121 : decode cX5_film 121 = .ok (.getfield 10, 3) := by decide +kernel
theorem dX5_film_124 : decode cX5_film 124 = .ok (.getfield 111, 3) := by decide +kernel
theorem dX5_film_127 : decode cX5_film 127 = .ok (.iload_n 1, 1) := by decide +kernel
theorem dX5_film_128 : decode cX5_film 128 = .ok (.iload_n 2, 1) := by decide +kernel
theorem dX5_film_129 : decode cX5_film 129 = .ok (.invokevirtual 126, 3) := by decide +kernel
theorem dX5_film_132 : decode cX5_film 132 = .ok (.ireturn, 1) := by decide +kernel
set_option maxRecDepth 20000 in
theorem ggX5_share_X4_isRow : GoodIn wsX5_share wsX4_isRow := goodIn_r _ [13, 14, 58, 59, 60, 61] (by decide +kernel) (by decide +kernel)
set_option maxRecDepth 20000 in
theorem gX5_share_X4_isRow : GoodIn wsX5_share (wsV RX5 116 RX4 yX4_isRow wsX4_isRow) := goodIn_app (goodIn_of _ (by decide +kernel)) ggX5_share_X4_isRow
set_option maxRecDepth 20000 in
theorem ggX5_share_X5_isDay : GoodIn wsX5_share wsX5_isDay := goodIn_r _ [18, 19, 20, 17, 21] (by decide +kernel) (by decide +kernel)
set_option maxRecDepth 20000 in
theorem gX5_share_X5_isDay : GoodIn wsX5_share (va_wsS RX5 108 yX5_isDay wsX5_isDay) := goodIn_app (goodIn_of _ (by decide +kernel)) ggX5_share_X5_isDay
set_option maxRecDepth 20000 in
theorem ggX5_share_X4_get : GoodIn wsX5_share wsX4_get := goodIn_ca (goodIn_r _ [25, 26, 27, 58, 59, 60, 61] (by decide +kernel) (by decide +kernel)) (goodIn_sub (fun _ h => List.mem_cons_of_mem _ (List.mem_append_right _ h)) (by decide +kernel))
set_option maxRecDepth 20000 in
theorem gX5_share_X4_get : GoodIn wsX5_share (wsV RX5 126 RX4 yX4_get wsX4_get) := goodIn_app (goodIn_of _ (by decide +kernel)) ggX5_share_X4_get
set_option maxRecDepth 20000 in
theorem ggX5_share_X3_shareOn : GoodIn wsX5_share wsX3_shareOn := goodIn_ca (goodIn_r _ [32, 33, 34, 35, 36, 37, 38, 23, 24, 12, 25, 26, 27, 50, 51, 52, 53, 54, 55, 56, 57, 58, 59, 60, 61] (by decide +kernel) (by decide +kernel)) (goodIn_sub (fun _ h => List.mem_cons_of_mem _ (List.mem_append_right _ h)) (by decide +kernel))
set_option maxRecDepth 20000 in
theorem gX5_share_X3_shareOn : GoodIn wsX5_share (wsV RX5 176 RX3 yX3_shareOn wsX3_shareOn) := goodIn_app (goodIn_of _ (by decide +kernel)) ggX5_share_X3_shareOn
theorem dX5_share_0 : decode cX5_share 0 = .ok (.aload_n 0, 1) := by decide +kernel
theorem dX5_share_1 : decode cX5_share 1 = .ok (.getfield 10, 3) := by decide +kernel
theorem dX5_share_4 : decode cX5_share 4 = .ok (.getfield 111, 3) := by decide +kernel
theorem dX5_share_7 : decode cX5_share 7 = .ok (.iload_n 1, 1) := by decide +kernel
theorem dX5_share_8 : decode cX5_share 8 = .ok (.invokevirtual 116, 3) := by decide +kernel
theorem dX5_share_11 : decode cX5_share 11 = .ok (.ifCond .ne 13, 3) := by decide +kernel
theorem dX5_share_14 : decode cX5_share 14 = .ok (.new 119, 3) := by decide +kernel
theorem dX5_share_17 : decode cX5_share 17 = .ok (.dup, 1) := by decide +kernel
theorem dX5_share_18 : decode cX5_share 18 = .ok (.ldc 121, 2) := by decide +kernel
theorem dX5_share_20 : decode cX5_share 20 = .ok (.invokespecial 123, 3) := by decide +kernel
theorem dX5_share_23 : decode cX5_share 23 = .ok (.athrow, 1) := by decide +kernel
theorem dX5_share_24 : decode cX5_share 24 = .ok (.iload_n 2, 1) := by decide +kernel
theorem dX5_share_25 : decode cX5_share 25 = .ok (.invokestatic 108, 3) := by decide +kernel
theorem dX5_share_28 : decode cX5_share 28 = .ok (.ifCond .ne 13, 3) := by decide +kernel
theorem dX5_share_31 : decode cX5_share 31 = .ok (.new 68, 3) := by decide +kernel
theorem dX5_share_34 : decode cX5_share 34 = .ok (.dup, 1) := by decide +kernel
theorem dX5_share_35 : decode cX5_share 35 = .ok (.ldc 169, 2) := by decide +kernel
theorem dX5_share_37 : decode cX5_share 37 = .ok (.invokespecial 72, 3) := by decide +kernel
theorem dX5_share_40 : decode cX5_share 40 = .ok (.athrow, 1) := by decide +kernel
theorem dX5_share_41 : decode cX5_share 41 = .ok (.iload_n 2, 1) := by decide +kernel
theorem dX5_share_42 : decode cX5_share 42 = .ok (.aload_n 0, 1) := by decide +kernel
theorem dX5_share_43 : decode cX5_share 43 = .ok (.getfield 10, 3) := by decide +kernel
theorem dX5_share_46 : decode cX5_share 46 = .ok (.getfield 111, 3) := by decide +kernel
theorem dX5_share_49 : decode cX5_share 49 = .ok (.iload_n 1, 1) := by decide +kernel
theorem dX5_share_50 : decode cX5_share 50 = .ok (.iconst 4, 1) := by decide +kernel
theorem dX5_share_51 : decode cX5_share 51 = .ok (.invokevirtual 126, 3) := by decide +kernel
theorem dX5_share_54 : decode cX5_share 54 = .ok (.if_icmp .ge 13, 3) := by decide +kernel
theorem dX5_share_57 : decode cX5_share 57 = .ok (.new 171, 3) := by decide +kernel
theorem dX5_share_60 : decode cX5_share 60 = .ok (.dup, 1) := by decide +kernel
theorem dX5_share_61 : decode cX5_share 61 = .ok (.ldc 173, 2) := by decide +kernel
theorem dX5_share_63 : decode cX5_share 63 = .ok (.invokespecial 175, 3) := by decide +kernel
theorem dX5_share_66 : decode cX5_share 66 = .ok (.athrow, 1) := by decide +kernel
theorem dX5_share_67 : decode cX5_share 67 = .ok (.aload_n 0, 1) := by decide +kernel
theorem dX5_share_68 : decode cX5_share 68 = .ok (.getfield 10, 3) := by decide +kernel
theorem dX5_share_71 : decode cX5_share 71 = .ok (.iload_n 1, 1) := by decide +kernel
theorem dX5_share_72 : decode cX5_share 72 = .ok (.iload_n 2, 1) := by decide +kernel
theorem dX5_share_73 : decode cX5_share 73 = .ok (.invokevirtual 176, 3) := by decide +kernel
theorem dX5_share_76 : decode cX5_share 76 = .ok (.ireturn, 1) := by decide +kernel
set_option maxRecDepth 20000 in
theorem ggX5_trailer_X4_isRow : GoodIn wsX5_trailer wsX4_isRow := goodIn_r _ [11, 12, 42, 43, 44, 45] (by decide +kernel) (by decide +kernel)
set_option maxRecDepth 20000 in
theorem gX5_trailer_X4_isRow : GoodIn wsX5_trailer (wsV RX5 116 RX4 yX4_isRow wsX4_isRow) := goodIn_app (goodIn_of _ (by decide +kernel)) ggX5_trailer_X4_isRow
set_option maxRecDepth 20000 in
theorem ggX5_trailer_X5_isWithin : GoodIn wsX5_trailer wsX5_isWithin := goodIn_r _ [16] (by decide +kernel) (by decide +kernel)
set_option maxRecDepth 20000 in
theorem gX5_trailer_X5_isWithin : GoodIn wsX5_trailer (va_wsS RX5 64 yX5_isWithin wsX5_isWithin) := goodIn_app (goodIn_of _ (by decide +kernel)) ggX5_trailer_X5_isWithin
set_option maxRecDepth 20000 in
theorem ggX5_trailer_X4_get : GoodIn wsX5_trailer wsX4_get := goodIn_ca (goodIn_r _ [20, 21, 22, 42, 43, 44, 45] (by decide +kernel) (by decide +kernel)) (goodIn_sub (fun _ h => List.mem_cons_of_mem _ (List.mem_append_right _ h)) (by decide +kernel))
set_option maxRecDepth 20000 in
theorem gX5_trailer_X4_get : GoodIn wsX5_trailer (wsV RX5 126 RX4 yX4_get wsX4_get) := goodIn_app (goodIn_of _ (by decide +kernel)) ggX5_trailer_X4_get
theorem dX5_trailer_0 : decode cX5_trailer 0 = .ok (.aload_n 0, 1) := by decide +kernel
theorem dX5_trailer_1 : decode cX5_trailer 1 = .ok (.getfield 10, 3) := by decide +kernel
theorem dX5_trailer_4 : decode cX5_trailer 4 = .ok (.getfield 130, 3) := by decide +kernel
theorem dX5_trailer_7 : decode cX5_trailer 7 = .ok (.iload_n 1, 1) := by decide +kernel
theorem dX5_trailer_8 : decode cX5_trailer 8 = .ok (.invokevirtual 116, 3) := by decide +kernel
theorem dX5_trailer_11 : decode cX5_trailer 11 = .ok (.ifCond .ne 13, 3) := by decide +kernel
theorem dX5_trailer_14 : decode cX5_trailer 14 = .ok (.new 119, 3) := by decide +kernel
theorem dX5_trailer_17 : decode cX5_trailer 17 = .ok (.dup, 1) := by decide +kernel
theorem dX5_trailer_18 : decode cX5_trailer 18 = .ok (.ldc 179, 2) := by decide +kernel
theorem dX5_trailer_20 : decode cX5_trailer 20 = .ok (.invokespecial 123, 3) := by decide +kernel
theorem dX5_trailer_23 : decode cX5_trailer 23 = .ok (.athrow, 1) := by decide +kernel
theorem dX5_trailer_24 : decode cX5_trailer 24 = .ok (.iload_n 2, 1) := by decide +kernel
theorem dX5_trailer_25 : decode cX5_trailer 25 = .ok (.iconst 0, 1) := by decide +kernel
theorem dX5_trailer_26 : decode cX5_trailer 26 = .ok (.iconst 3, 1) := by decide +kernel
theorem dX5_trailer_27 : decode cX5_trailer 27 = .ok (.invokestatic 64, 3) := by decide +kernel
theorem dX5_trailer_30 : decode cX5_trailer 30 = .ok (.ifCond .ne 13, 3) := by decide +kernel
theorem dX5_trailer_33 : decode cX5_trailer 33 = .ok (.new 68, 3) := by decide +kernel
theorem dX5_trailer_36 : decode cX5_trailer 36 = .ok (.dup, 1) := by decide +kernel
theorem dX5_trailer_37 : decode cX5_trailer 37 = .ok (.ldc 181, 2) := by decide +kernel
theorem dX5_trailer_39 : decode cX5_trailer 39 = .ok (.invokespecial 72, 3) := by decide +kernel
theorem dX5_trailer_42 : decode cX5_trailer 42 = .ok (.athrow, 1) := by decide +kernel
theorem dX5_trailer_43 : decode cX5_trailer 43 = .ok (.aload_n 0, 1) := by decide +kernel
theorem dX5_trailer_44 : decode cX5_trailer 44 = .ok (.getfield 10, 3) := by decide +kernel
theorem dX5_trailer_47 : decode cX5_trailer 47 = .ok (.getfield 130, 3) := by decide +kernel
theorem dX5_trailer_50 : decode cX5_trailer 50 = .ok (.iload_n 1, 1) := by decide +kernel
theorem dX5_trailer_51 : decode cX5_trailer 51 = .ok (.iload_n 2, 1) := by decide +kernel
theorem dX5_trailer_52 : decode cX5_trailer 52 = .ok (.invokevirtual 126, 3) := by decide +kernel
theorem dX5_trailer_55 : decode cX5_trailer 55 = .ok (.ireturn, 1) := by decide +kernel
set_option maxRecDepth 20000 in
theorem ggX5_fits_X4_isRow : GoodIn wsX5_fits wsX4_isRow := goodIn_r _ [12, 13, 53, 54, 55, 56] (by decide +kernel) (by decide +kernel)
set_option maxRecDepth 20000 in
theorem gX5_fits_X4_isRow : GoodIn wsX5_fits (wsV RX5 116 RX4 yX4_isRow wsX4_isRow) := goodIn_app (goodIn_of _ (by decide +kernel)) ggX5_fits_X4_isRow
set_option maxRecDepth 20000 in
theorem ggX5_fits_X5_isDay : GoodIn wsX5_fits wsX5_isDay := goodIn_r _ [17, 18, 19, 16, 20] (by decide +kernel) (by decide +kernel)
set_option maxRecDepth 20000 in
theorem gX5_fits_X5_isDay : GoodIn wsX5_fits (va_wsS RX5 108 yX5_isDay wsX5_isDay) := goodIn_app (goodIn_of _ (by decide +kernel)) ggX5_fits_X5_isDay
set_option maxRecDepth 20000 in
theorem ggX5_fits_X3_isFitting : GoodIn wsX5_fits wsX3_isFitting := goodIn_ca (goodIn_r _ [25, 26, 27, 28, 29, 30, 11, 31, 32, 33, 45, 46, 47, 48, 49, 50, 51, 52, 53, 54, 55, 56] (by decide +kernel) (by decide +kernel)) (goodIn_sub (fun _ h => List.mem_cons_of_mem _ (List.mem_append_right _ h)) (by decide +kernel))
set_option maxRecDepth 20000 in
theorem gX5_fits_X3_isFitting : GoodIn wsX5_fits (wsV RX5 185 RX3 yX3_isFitting wsX3_isFitting) := goodIn_app (goodIn_of _ (by decide +kernel)) ggX5_fits_X3_isFitting
theorem dX5_fits_0 : decode cX5_fits 0 = .ok (.aload_n 0, 1) := by decide +kernel
theorem dX5_fits_1 : decode cX5_fits 1 = .ok (.getfield 10, 3) := by decide +kernel
theorem dX5_fits_4 : decode cX5_fits 4 = .ok (.getfield 130, 3) := by decide +kernel
theorem dX5_fits_7 : decode cX5_fits 7 = .ok (.iload_n 1, 1) := by decide +kernel
theorem dX5_fits_8 : decode cX5_fits 8 = .ok (.invokevirtual 116, 3) := by decide +kernel
theorem dX5_fits_11 : decode cX5_fits 11 = .ok (.ifCond .eq 17, 3) := by decide +kernel
theorem dX5_fits_14 : decode cX5_fits 14 = .ok (.aload_n 0, 1) := by decide +kernel
theorem dX5_fits_15 : decode cX5_fits 15 = .ok (.getfield 10, 3) := by decide +kernel
theorem dX5_fits_18 : decode cX5_fits 18 = .ok (.getfield 111, 3) := by decide +kernel
theorem dX5_fits_21 : decode cX5_fits 21 = .ok (.iload_n 2, 1) := by decide +kernel
theorem dX5_fits_22 : decode cX5_fits 22 = .ok (.invokevirtual 116, 3) := by decide +kernel
theorem dX5_fits_25 : decode cX5_fits 25 = .ok (.ifCond .ne 13, 3) := by decide +kernel
theorem dX5_fits_28 : decode cX5_fits 28 = .ok (.new 119, 3) := by decide +kernel
theorem dX5_fits_31 : decode cX5_fits 31 = .ok (.dup, 1) := by decide +kernel
theorem dX5_fits_32 : decode cX5_fits 32 = .ok (.ldc 183, 2) := by decide +kernel
theorem dX5_fits_34 : decode cX5_fits 34 = .ok (.invokespecial 123, 3) := by decide +kernel
theorem dX5_fits_37 : decode cX5_fits 37 = .ok (.athrow, 1) := by decide +kernel
theorem dX5_fits_38 : decode cX5_fits 38 = .ok (.iload_n 3, 1) := by decide +kernel
theorem dX5_fits_39 : decode cX5_fits 39 = .ok (.invokestatic 108, 3) := by decide +kernel
theorem dX5_fits_42 : decode cX5_fits 42 = .ok (.ifCond .ne 13, 3) := by decide +kernel
theorem dX5_fits_45 : decode cX5_fits 45 = .ok (.new 68, 3) := by decide +kernel
theorem dX5_fits_48 : decode cX5_fits 48 = .ok (.dup, 1) := by decide +kernel
theorem dX5_fits_49 : decode cX5_fits 49 = .ok (.ldc 169, 2) := by decide +kernel
theorem dX5_fits_51 : decode cX5_fits 51 = .ok (.invokespecial 72, 3) := by decide +kernel
theorem dX5_fits_54 : decode cX5_fits 54 = .ok (.athrow, 1) := by decide +kernel
theorem dX5_fits_55 : decode cX5_fits 55 = .ok (.aload_n 0, 1) := by decide +kernel
theorem dX5_fits_56 : decode cX5_fits 56 = .ok (.getfield 10, 3) := by decide +kernel
theorem dX5_fits_59 : decode cX5_fits 59 = .ok (.iload_n 1, 1) := by decide +kernel
theorem dX5_fits_60 : decode cX5_fits 60 = .ok (.iload_n 2, 1) := by decide +kernel
theorem dX5_fits_61 : decode cX5_fits 61 = .ok (.iload_n 3, 1) := by decide +kernel
theorem dX5_fits_62 : decode cX5_fits 62 = .ok (.invokevirtual 185, 3) := by decide +kernel
theorem dX5_fits_65 : decode cX5_fits 65 = .ok (.ireturn, 1) := by decide +kernel
set_option maxRecDepth 20000 in
theorem ggX5_reel_X4_isRow : GoodIn wsX5_reel wsX4_isRow := goodIn_r _ [11, 12, 76, 77, 78, 79] (by decide +kernel) (by decide +kernel)
set_option maxRecDepth 20000 in
theorem gX5_reel_X4_isRow : GoodIn wsX5_reel (wsV RX5 116 RX4 yX4_isRow wsX4_isRow) := goodIn_app (goodIn_of _ (by decide +kernel)) ggX5_reel_X4_isRow
set_option maxRecDepth 20000 in
theorem ggX5_reel_X5_isDay : GoodIn wsX5_reel wsX5_isDay := goodIn_r _ [16, 17, 18, 15, 19] (by decide +kernel) (by decide +kernel)
set_option maxRecDepth 20000 in
theorem gX5_reel_X5_isDay : GoodIn wsX5_reel (va_wsS RX5 108 yX5_isDay wsX5_isDay) := goodIn_app (goodIn_of _ (by decide +kernel)) ggX5_reel_X5_isDay
set_option maxRecDepth 20000 in
theorem ggX5_reel_X3_bestReel : GoodIn wsX5_reel wsX3_bestReel := goodIn_ca (goodIn_r _ [24, 25, 26, 27, 28, 29, 10, 30, 31, 32, 33, 34, 35, 36, 12, 37, 38, 39, 23, 40, 41, 42, 43, 44, 45, 46, 47, 48, 49, 50, 51, 52, 53, 54, 55, 68, 69, 70, 71, 72, 73, 74, 75, 76, 77, 78, 79] (by decide +kernel) (by decide +kernel)) (goodIn_sub (fun _ h => List.mem_cons_of_mem _ (List.mem_append_right _ h)) (by decide +kernel))
set_option maxRecDepth 20000 in
theorem gX5_reel_X3_bestReel : GoodIn wsX5_reel (wsV RX5 188 RX3 yX3_bestReel wsX3_bestReel) := goodIn_app (goodIn_of _ (by decide +kernel)) ggX5_reel_X3_bestReel
set_option maxRecDepth 20000 in
theorem ggX5_reel_X3_reelMinutes : GoodIn wsX5_reel wsX3_reelMinutes := goodIn_ca (goodIn_r _ [52, 26, 33, 34, 35, 10, 36, 12, 27, 28, 29, 30, 31, 32, 68, 69, 70, 71, 72, 73, 74, 75, 76, 77, 78, 79] (by decide +kernel) (by decide +kernel)) (goodIn_sub (fun _ h => List.mem_cons_of_mem _ (List.mem_append_right _ h)) (by decide +kernel))
set_option maxRecDepth 20000 in
theorem gX5_reel_X3_reelMinutes : GoodIn wsX5_reel (wsV RX5 191 RX3 yX3_reelMinutes wsX3_reelMinutes) := goodIn_app (goodIn_of _ (by decide +kernel)) ggX5_reel_X3_reelMinutes
theorem dX5_reel_0 : decode cX5_reel 0 = .ok (.aload_n 0, 1) := by decide +kernel
theorem dX5_reel_1 : decode cX5_reel 1 = .ok (.getfield 10, 3) := by decide +kernel
theorem dX5_reel_4 : decode cX5_reel 4 = .ok (.getfield 111, 3) := by decide +kernel
theorem dX5_reel_7 : decode cX5_reel 7 = .ok (.iload_n 1, 1) := by decide +kernel
theorem dX5_reel_8 : decode cX5_reel 8 = .ok (.invokevirtual 116, 3) := by decide +kernel
theorem dX5_reel_11 : decode cX5_reel 11 = .ok (.ifCond .ne 13, 3) := by decide +kernel
theorem dX5_reel_14 : decode cX5_reel 14 = .ok (.new 119, 3) := by decide +kernel
theorem dX5_reel_17 : decode cX5_reel 17 = .ok (.dup, 1) := by decide +kernel
theorem dX5_reel_18 : decode cX5_reel 18 = .ok (.ldc 121, 2) := by decide +kernel
theorem dX5_reel_20 : decode cX5_reel 20 = .ok (.invokespecial 123, 3) := by decide +kernel
theorem dX5_reel_23 : decode cX5_reel 23 = .ok (.athrow, 1) := by decide +kernel
theorem dX5_reel_24 : decode cX5_reel 24 = .ok (.iload_n 2, 1) := by decide +kernel
theorem dX5_reel_25 : decode cX5_reel 25 = .ok (.invokestatic 108, 3) := by decide +kernel
theorem dX5_reel_28 : decode cX5_reel 28 = .ok (.ifCond .ne 13, 3) := by decide +kernel
theorem dX5_reel_31 : decode cX5_reel 31 = .ok (.new 68, 3) := by decide +kernel
theorem dX5_reel_34 : decode cX5_reel 34 = .ok (.dup, 1) := by decide +kernel
theorem dX5_reel_35 : decode cX5_reel 35 = .ok (.ldc 169, 2) := by decide +kernel
theorem dX5_reel_37 : decode cX5_reel 37 = .ok (.invokespecial 72, 3) := by decide +kernel
theorem dX5_reel_40 : decode cX5_reel 40 = .ok (.athrow, 1) := by decide +kernel
theorem dX5_reel_41 : decode cX5_reel 41 = .ok (.aload_n 0, 1) := by decide +kernel
theorem dX5_reel_42 : decode cX5_reel 42 = .ok (.getfield 10, 3) := by decide +kernel
theorem dX5_reel_45 : decode cX5_reel 45 = .ok (.iload_n 1, 1) := by decide +kernel
theorem dX5_reel_46 : decode cX5_reel 46 = .ok (.iload_n 2, 1) := by decide +kernel
theorem dX5_reel_47 : decode cX5_reel 47 = .ok (.invokevirtual 188, 3) := by decide +kernel
theorem dX5_reel_50 : decode cX5_reel 50 = .ok (.istore 4, 2) := by decide +kernel
theorem dX5_reel_52 : decode cX5_reel 52 = .ok (.iload_n 3, 1) := by decide +kernel
theorem dX5_reel_53 : decode cX5_reel 53 = .ok (.ifCond .eq 15, 3) := by decide +kernel
theorem dX5_reel_56 : decode cX5_reel 56 = .ok (.aload_n 0, 1) := by decide +kernel
theorem dX5_reel_57 : decode cX5_reel 57 = .ok (.getfield 10, 3) := by decide +kernel
theorem dX5_reel_60 : decode cX5_reel 60 = .ok (.iload 4, 2) := by decide +kernel
theorem dX5_reel_62 : decode cX5_reel 62 = .ok (.invokevirtual 191, 3) := by decide +kernel
theorem dX5_reel_65 : decode cX5_reel 65 = .ok (.goto 5, 3) := by decide +kernel
theorem dX5_reel_68 : decode cX5_reel 68 = .ok (.iload 4, 2) := by decide +kernel
theorem dX5_reel_70 : decode cX5_reel 70 = .ok (.ireturn, 1) := by decide +kernel
set_option maxRecDepth 20000 in
theorem ggX5_plan_X5_faultOfPlan : GoodIn wsX5_plan wsX5_faultOfPlan := goodIn_ca (goodIn_r _ [13, 8, 14, 15, 16, 17, 18, 19, 20, 21, 22, 23, 24, 25, 26, 12, 27, 28, 29, 30, 31, 32, 33, 34, 35, 36, 37, 38, 39, 40, 41, 42, 43, 44, 45, 46, 47, 48, 49, 50, 51, 52, 53, 54, 55, 56, 57, 58, 59, 60, 61, 62, 63, 64, 65, 66, 67, 68, 69, 70, 71, 72, 73, 74, 75, 76, 77, 78, 79, 80, 81, 82, 83, 84, 85, 86, 87, 88, 89, 90, 91, 92, 93, 94, 95, 96, 97, 98, 99, 100, 101, 102, 103, 104, 105, 106, 107, 108, 109, 110, 111, 112, 113, 114, 115, 116, 117, 118, 119, 120, 121, 122, 123, 124, 125, 126, 127, 128, 129, 130, 131, 132, 133, 134, 135, 136, 137, 138, 139, 140, 141, 142, 143, 144, 145, 146, 147, 148, 149, 150, 192, 193, 194, 195, 196, 197, 198, 199, 200, 201, 202, 203, 204, 205, 206, 207, 208, 209, 210, 211, 212, 213, 214, 215, 216, 217, 218] (by decide +kernel) (by decide +kernel)) (goodIn_sub (fun _ h => List.mem_cons_of_mem _ (List.mem_append_right _ h)) (by decide +kernel))
set_option maxRecDepth 20000 in
theorem gX5_plan_X5_faultOfPlan : GoodIn wsX5_plan (wsV RX5 194 RX5 yX5_faultOfPlan wsX5_faultOfPlan) := goodIn_app (goodIn_of _ (by decide +kernel)) ggX5_plan_X5_faultOfPlan
set_option maxRecDepth 20000 in
theorem ggX5_plan_X0_keep : GoodIn wsX5_plan wsX0_keep := goodIn_r _ [155, 156, 157, 158, 154, 159, 160, 161, 162, 163, 164, 46, 165, 127, 87, 92, 67, 166, 48, 167, 168, 169, 170, 171, 22, 172, 24, 54, 173, 174, 142, 175, 176, 177, 178, 179, 180, 181, 182, 183, 184, 185, 219, 220, 221, 203, 204, 205, 206, 207, 208, 209, 210, 215, 216, 217, 218] (by decide +kernel) (by decide +kernel)
set_option maxRecDepth 20000 in
theorem gX5_plan_X0_keep : GoodIn wsX5_plan (wsV RX5 90 RX0 yX0_keep wsX0_keep) := goodIn_app (goodIn_of _ (by decide +kernel)) ggX5_plan_X0_keep
set_option maxRecDepth 20000 in
theorem ggX5_plan_X3_addShow : GoodIn wsX5_plan wsX3_addShow := goodIn_ca (goodIn_r _ [189, 67, 87, 48, 88, 89, 90, 46, 91, 92, 49, 50, 51, 22, 52, 53, 54, 93, 60, 61, 62, 24, 94, 95, 96, 97, 98, 99, 100, 101, 102, 103, 104, 105, 106, 107, 108, 109, 110, 111, 190, 75, 76, 77, 78, 191, 80, 81, 82, 203, 204, 205, 206, 207, 208, 209, 210, 215, 216, 217, 218] (by decide +kernel) (by decide +kernel)) (goodIn_sub (fun _ h => List.mem_cons_of_mem _ (List.mem_append_right _ h)) (by decide +kernel))
set_option maxRecDepth 20000 in
theorem gX5_plan_X3_addShow : GoodIn wsX5_plan (wsV RX5 207 RX3 yX3_addShow wsX3_addShow) := goodIn_app (goodIn_of _ (by decide +kernel)) ggX5_plan_X3_addShow
theorem dX5_plan_0 : decode cX5_plan 0 = .ok (.aload_n 0, 1) := by decide +kernel
theorem dX5_plan_1 : decode cX5_plan 1 = .ok (.iload_n 1, 1) := by decide +kernel
theorem dX5_plan_2 : decode cX5_plan 2 = .ok (.iload_n 2, 1) := by decide +kernel
theorem dX5_plan_3 : decode cX5_plan 3 = .ok (.iload_n 3, 1) := by decide +kernel
theorem dX5_plan_4 : decode cX5_plan 4 = .ok (.iload 4, 2) := by decide +kernel
theorem dX5_plan_6 : decode cX5_plan 6 = .ok (.invokevirtual 194, 3) := by decide +kernel
theorem dX5_plan_9 : decode cX5_plan 9 = .ok (.istore 5, 2) := by decide +kernel
theorem dX5_plan_11 : decode cX5_plan 11 = .ok (.iload 5, 2) := by decide +kernel
theorem dX5_plan_13 : decode cX5_plan 13 = .ok (.iconst 1, 1) := by decide +kernel
theorem dX5_plan_14 : decode cX5_plan 14 = .ok (.if_icmp .ne 13, 3) := by decide +kernel
theorem dX5_plan_17 : decode cX5_plan 17 = .ok (.new 119, 3) := by decide +kernel
theorem dX5_plan_20 : decode cX5_plan 20 = .ok (.dup, 1) := by decide +kernel
theorem dX5_plan_21 : decode cX5_plan 21 = .ok (.ldc 198, 2) := by decide +kernel
theorem dX5_plan_23 : decode cX5_plan 23 = .ok (.invokespecial 123, 3) := by decide +kernel
theorem dX5_plan_26 : decode cX5_plan 26 = .ok (.athrow, 1) := by decide +kernel
theorem dX5_plan_27 : decode cX5_plan 27 = .ok (.iload 5, 2) := by decide +kernel
theorem dX5_plan_29 : decode cX5_plan 29 = .ok (.iconst 2, 1) := by decide +kernel
theorem dX5_plan_30 : decode cX5_plan 30 = .ok (.if_icmp .ne 13, 3) := by decide +kernel
theorem dX5_plan_33 : decode cX5_plan 33 = .ok (.new 68, 3) := by decide +kernel
theorem dX5_plan_36 : decode cX5_plan 36 = .ok (.dup, 1) := by decide +kernel
theorem dX5_plan_37 : decode cX5_plan 37 = .ok (.ldc 200, 2) := by decide +kernel
theorem dX5_plan_39 : decode cX5_plan 39 = .ok (.invokespecial 72, 3) := by decide +kernel
theorem dX5_plan_42 : decode cX5_plan 42 = .ok (.athrow, 1) := by decide +kernel
theorem dX5_plan_43 : decode cX5_plan 43 = .ok (.iload 5, 2) := by decide +kernel
theorem dX5_plan_45 : decode cX5_plan 45 = .ok (.iconst 4, 1) := by decide +kernel
theorem dX5_plan_46 : decode cX5_plan 46 = .ok (.if_icmp .ne 13, 3) := by decide +kernel
theorem dX5_plan_49 : decode cX5_plan 49 = .ok (.new 202, 3) := by decide +kernel
theorem dX5_plan_52 : decode cX5_plan 52 = .ok (.dup, 1) := by decide +kernel
theorem dX5_plan_53 : decode cX5_plan 53 = .ok (.ldc 204, 2) := by decide +kernel
theorem dX5_plan_55 : decode cX5_plan 55 = .ok (.invokespecial 206, 3) := by decide +kernel
theorem dX5_plan_58 : decode cX5_plan 58 = .ok (.athrow, 1) := by decide +kernel
theorem dX5_plan_59 : decode cX5_plan 59 = .ok (.aload_n 0, 1) := by decide +kernel
theorem dX5_plan_60 : decode cX5_plan 60 = .ok (.getfield 22, 3) := by decide +kernel
theorem dX5_plan_63 : decode cX5_plan 63 = .ok (.aload_n 0, 1) := by decide +kernel
theorem dX5_plan_64 : decode cX5_plan 64 = .ok (.getfield 10, 3) := by decide +kernel
theorem dX5_plan_67 : decode cX5_plan 67 = .ok (.invokevirtual 90, 3) := by decide +kernel
theorem dX5_plan_70 : decode cX5_plan 70 = .ok (.aload_n 0, 1) := by decide +kernel
theorem dX5_plan_71 : decode cX5_plan 71 = .ok (.getfield 10, 3) := by decide +kernel
theorem dX5_plan_74 : decode cX5_plan 74 = .ok (.iload_n 1, 1) := by decide +kernel
theorem dX5_plan_75 : decode cX5_plan 75 = .ok (.iload_n 2, 1) := by decide +kernel
theorem dX5_plan_76 : decode cX5_plan 76 = .ok (.iload_n 3, 1) := by decide +kernel
theorem dX5_plan_77 : decode cX5_plan 77 = .ok (.iload 4, 2) := by decide +kernel
theorem dX5_plan_79 : decode cX5_plan 79 = .ok (.invokevirtual 207, 3) := by decide +kernel
theorem dX5_plan_82 : decode cX5_plan 82 = .ok (.ireturn, 1) := by decide +kernel
set_option maxRecDepth 20000 in
theorem ggX5_move_X4_isRow : GoodIn wsX5_move wsX4_isRow := goodIn_r _ [21, 22, 198, 199, 200, 201] (by decide +kernel) (by decide +kernel)
set_option maxRecDepth 20000 in
theorem gX5_move_X4_isRow : GoodIn wsX5_move (wsV RX5 116 RX4 yX4_isRow wsX4_isRow) := goodIn_app (goodIn_of _ (by decide +kernel)) ggX5_move_X4_isRow
set_option maxRecDepth 20000 in
theorem ggX5_move_X5_isMinute : GoodIn wsX5_move wsX5_isMinute := goodIn_r _ [26, 27, 28, 25, 29] (by decide +kernel) (by decide +kernel)
set_option maxRecDepth 20000 in
theorem gX5_move_X5_isMinute : GoodIn wsX5_move (va_wsS RX5 215 yX5_isMinute wsX5_isMinute) := goodIn_app (goodIn_of _ (by decide +kernel)) ggX5_move_X5_isMinute
set_option maxRecDepth 20000 in
theorem ggX5_move_X3_isOpen : GoodIn wsX5_move wsX3_isOpen := goodIn_ca (goodIn_r _ [34, 35, 36, 37, 33, 38, 39, 40, 41, 42, 43, 44, 45, 46, 47, 20, 48, 49, 50, 190, 191, 192, 193, 194, 195, 196, 197, 198, 199, 200, 201] (by decide +kernel) (by decide +kernel)) (goodIn_sub (fun _ h => List.mem_cons_of_mem _ (List.mem_append_right _ h)) (by decide +kernel))
set_option maxRecDepth 20000 in
theorem gX5_move_X3_isOpen : GoodIn wsX5_move (wsV RX5 220 RX3 yX3_isOpen wsX3_isOpen) := goodIn_app (goodIn_of _ (by decide +kernel)) ggX5_move_X3_isOpen
set_option maxRecDepth 20000 in
theorem ggX5_move_X5_isMoveRefused : GoodIn wsX5_move wsX5_isMoveRefused := goodIn_ca (goodIn_r _ [54, 9, 11, 10, 55, 56, 57, 46, 47, 20, 48, 49, 50, 58, 59, 60, 25, 61, 62, 63, 64, 65, 66, 67, 68, 69, 70, 71, 72, 73, 74, 75, 33, 76, 77, 45, 78, 79, 80, 81, 22, 82, 83, 84, 85, 86, 87, 88, 89, 39, 90, 91, 92, 93, 94, 95, 96, 97, 98, 99, 100, 101, 102, 103, 104, 105, 106, 107, 108, 109, 110, 111, 112, 113, 114, 115, 116, 117, 118, 119, 120, 121, 122, 123, 124, 125, 126, 127, 128, 129, 130, 131, 132, 133, 134, 135, 136, 137, 14, 15, 16, 179, 180, 181, 182, 183, 184, 185, 186, 187, 188, 189, 190, 191, 192, 193, 194, 195, 196, 197, 202, 203, 204, 205, 198, 199, 200, 201] (by decide +kernel) (by decide +kernel)) (goodIn_sub (fun _ h => List.mem_cons_of_mem _ (List.mem_append_right _ h)) (by decide +kernel))
set_option maxRecDepth 20000 in
theorem gX5_move_X5_isMoveRefused : GoodIn wsX5_move (wsV RX5 225 RX5 yX5_isMoveRefused wsX5_isMoveRefused) := goodIn_app (goodIn_of _ (by decide +kernel)) ggX5_move_X5_isMoveRefused
set_option maxRecDepth 20000 in
theorem ggX5_move_X0_keep : GoodIn wsX5_move wsX0_keep := goodIn_r _ [142, 143, 144, 145, 141, 146, 147, 148, 149, 150, 151, 33, 152, 124, 153, 154, 39, 155, 77, 40, 156, 157, 158, 159, 20, 160, 22, 50, 161, 162, 15, 163, 164, 165, 166, 167, 168, 169, 170, 171, 172, 173, 206, 207, 208, 190, 191, 192, 193, 194, 195, 196, 197, 198, 199, 200, 201] (by decide +kernel) (by decide +kernel)
set_option maxRecDepth 20000 in
theorem gX5_move_X0_keep : GoodIn wsX5_move (wsV RX5 90 RX0 yX0_keep wsX0_keep) := goodIn_app (goodIn_of _ (by decide +kernel)) ggX5_move_X0_keep
set_option maxRecDepth 20000 in
theorem ggX5_move_X4_get : GoodIn wsX5_move wsX4_get := goodIn_ca (goodIn_r _ [48, 49, 50, 198, 199, 200, 201] (by decide +kernel) (by decide +kernel)) (goodIn_sub (fun _ h => List.mem_cons_of_mem _ (List.mem_append_right _ h)) (by decide +kernel))
set_option maxRecDepth 20000 in
theorem gX5_move_X4_get : GoodIn wsX5_move (wsV RX5 126 RX4 yX4_get wsX4_get) := goodIn_app (goodIn_of _ (by decide +kernel)) ggX5_move_X4_get
set_option maxRecDepth 20000 in
theorem ggX5_move_X3_putShow : GoodIn wsX5_move wsX3_putShow := goodIn_ca (goodIn_r _ [177, 39, 45, 46, 47, 20, 48, 49, 50, 178, 102, 103, 104, 190, 191, 192, 193, 194, 195, 196, 197, 198, 199, 200, 201] (by decide +kernel) (by decide +kernel)) (goodIn_sub (fun _ h => List.mem_cons_of_mem _ (List.mem_append_right _ h)) (by decide +kernel))
set_option maxRecDepth 20000 in
theorem gX5_move_X3_putShow : GoodIn wsX5_move (wsV RX5 230 RX3 yX3_putShow wsX3_putShow) := goodIn_app (goodIn_of _ (by decide +kernel)) ggX5_move_X3_putShow
theorem dX5_move_0 : decode cX5_move 0 = .ok (.aload_n 0, 1) := by decide +kernel
theorem dX5_move_1 : decode cX5_move 1 = .ok (.getfield 10, 3) := by decide +kernel
theorem dX5_move_4 : decode cX5_move 4 = .ok (.getfield 210, 3) := by decide +kernel
theorem dX5_move_7 : decode cX5_move 7 = .ok (.iload_n 1, 1) := by decide +kernel
theorem dX5_move_8 : decode cX5_move 8 = .ok (.invokevirtual 116, 3) := by decide +kernel
theorem dX5_move_11 : decode cX5_move 11 = .ok (.ifCond .eq 17, 3) := by decide +kernel
theorem dX5_move_14 : decode cX5_move 14 = .ok (.aload_n 0, 1) := by decide +kernel
theorem dX5_move_15 : decode cX5_move 15 = .ok (.getfield 10, 3) := by decide +kernel
theorem dX5_move_18 : decode cX5_move 18 = .ok (.getfield 75, 3) := by decide +kernel
theorem dX5_move_21 : decode cX5_move 21 = .ok (.iload_n 2, 1) := by decide +kernel
theorem dX5_move_22 : decode cX5_move 22 = .ok (.invokevirtual 116, 3) := by decide +kernel
theorem dX5_move_25 : decode cX5_move 25 = .ok (.ifCond .ne 13, 3) := by decide +kernel
theorem dX5_move_28 : decode cX5_move 28 = .ok (.new 119, 3) := by decide +kernel
theorem dX5_move_31 : decode cX5_move 31 = .ok (.dup, 1) := by decide +kernel
theorem dX5_move_32 : decode cX5_move 32 = .ok (.ldc 213, 2) := by decide +kernel
theorem dX5_move_34 : decode cX5_move 34 = .ok (.invokespecial 123, 3) := by decide +kernel
theorem dX5_move_37 : decode cX5_move 37 = .ok (.athrow, 1) := by decide +kernel
theorem dX5_move_38 : decode cX5_move 38 = .ok (.iload_n 3, 1) := by decide +kernel
theorem dX5_move_39 : decode cX5_move 39 = .ok (.invokestatic 215, 3) := by decide +kernel
theorem dX5_move_42 : decode cX5_move 42 = .ok (.ifCond .ne 13, 3) := by decide +kernel
theorem dX5_move_45 : decode cX5_move 45 = .ok (.new 68, 3) := by decide +kernel
theorem dX5_move_48 : decode cX5_move 48 = .ok (.dup, 1) := by decide +kernel
theorem dX5_move_49 : decode cX5_move 49 = .ok (.ldc 218, 2) := by decide +kernel
theorem dX5_move_51 : decode cX5_move 51 = .ok (.invokespecial 72, 3) := by decide +kernel
theorem dX5_move_54 : decode cX5_move 54 = .ok (.athrow, 1) := by decide +kernel
theorem dX5_move_55 : decode cX5_move 55 = .ok (.aload_n 0, 1) := by decide +kernel
theorem dX5_move_56 : decode cX5_move 56 = .ok (.getfield 10, 3) := by decide +kernel
theorem dX5_move_59 : decode cX5_move 59 = .ok (.iload_n 1, 1) := by decide +kernel
theorem dX5_move_60 : decode cX5_move 60 = .ok (.invokevirtual 220, 3) := by decide +kernel
theorem dX5_move_63 : decode cX5_move 63 = .ok (.ifCond .ne 13, 3) := by decide +kernel
theorem dX5_move_66 : decode cX5_move 66 = .ok (.new 85, 3) := by decide +kernel
theorem dX5_move_69 : decode cX5_move 69 = .ok (.dup, 1) := by decide +kernel
theorem dX5_move_70 : decode cX5_move 70 = .ok (.ldc 223, 2) := by decide +kernel
theorem dX5_move_72 : decode cX5_move 72 = .ok (.invokespecial 89, 3) := by decide +kernel
theorem dX5_move_75 : decode cX5_move 75 = .ok (.athrow, 1) := by decide +kernel
theorem dX5_move_76 : decode cX5_move 76 = .ok (.aload_n 0, 1) := by decide +kernel
theorem dX5_move_77 : decode cX5_move 77 = .ok (.iload_n 1, 1) := by decide +kernel
theorem dX5_move_78 : decode cX5_move 78 = .ok (.iload_n 2, 1) := by decide +kernel
theorem dX5_move_79 : decode cX5_move 79 = .ok (.iload_n 3, 1) := by decide +kernel
theorem dX5_move_80 : decode cX5_move 80 = .ok (.invokevirtual 225, 3) := by decide +kernel
theorem dX5_move_83 : decode cX5_move 83 = .ok (.ifCond .eq 13, 3) := by decide +kernel
theorem dX5_move_86 : decode cX5_move 86 = .ok (.new 202, 3) := by decide +kernel
theorem dX5_move_89 : decode cX5_move 89 = .ok (.dup, 1) := by decide +kernel
theorem dX5_move_90 : decode cX5_move 90 = .ok (.ldc 228, 2) := by decide +kernel
theorem dX5_move_92 : decode cX5_move 92 = .ok (.invokespecial 206, 3) := by decide +kernel
theorem dX5_move_95 : decode cX5_move 95 = .ok (.athrow, 1) := by decide +kernel
theorem dX5_move_96 : decode cX5_move 96 = .ok (.aload_n 0, 1) := by decide +kernel
theorem dX5_move_97 : decode cX5_move 97 = .ok (.getfield 22, 3) := by decide +kernel
theorem dX5_move_100 : decode cX5_move 100 = .ok (.aload_n 0, 1) := by decide +kernel
theorem dX5_move_101 : decode cX5_move 101 = .ok (.getfield 10, 3) := by decide +kernel
theorem dX5_move_104 : decode cX5_move 104 = .ok (.invokevirtual 90, 3) := by decide +kernel
theorem dX5_move_107 : decode cX5_move 107 = .ok (.aload_n 0, 1) := by decide +kernel
theorem dX5_move_108 : decode cX5_move 108 = .ok (.getfield 10, 3) := by decide +kernel
theorem dX5_move_111 : decode cX5_move 111 = .ok (.getfield 210, 3) := by decide +kernel
theorem dX5_move_114 : decode cX5_move 114 = .ok (.iload_n 1, 1) := by decide +kernel
theorem dX5_move_115 : decode cX5_move 115 = .ok (.iconst 3, 1) := by decide +kernel
theorem dX5_move_116 : decode cX5_move 116 = .ok (.invokevirtual 126, 3) := by decide +kernel
theorem dX5_move_119 : decode cX5_move 119 = .ok (.istore 4, 2) := by decide +kernel
theorem dX5_move_121 : decode cX5_move 121 = .ok (.aload_n 0, 1) := by decide +kernel
theorem dX5_move_122 : decode cX5_move 122 = .ok (.getfield 10, 3) := by decide +kernel
theorem dX5_move_125 : decode cX5_move 125 = .ok (.iload_n 1, 1) := by decide +kernel
theorem dX5_move_126 : decode cX5_move 126 = .ok (.iload_n 2, 1) := by decide +kernel
theorem dX5_move_127 : decode cX5_move 127 = .ok (.iload_n 3, 1) := by decide +kernel
theorem dX5_move_128 : decode cX5_move 128 = .ok (.invokevirtual 230, 3) := by decide +kernel
theorem dX5_move_131 : decode cX5_move 131 = .ok (.iload_n 3, 1) := by decide +kernel
theorem dX5_move_132 : decode cX5_move 132 = .ok (.iload 4, 2) := by decide +kernel
theorem dX5_move_134 : decode cX5_move 134 = .ok (.isub, 1) := by decide +kernel
theorem dX5_move_135 : decode cX5_move 135 = .ok (.invokestatic 233, 3) := by decide +kernel
theorem dX5_move_138 : decode cX5_move 138 = .ok (.ireturn, 1) := by decide +kernel
set_option maxRecDepth 20000 in
theorem ggX5_cancel_X5_faultOfCancel : GoodIn wsX5_cancel wsX5_faultOfCancel := goodIn_ca (goodIn_r _ [11, 6, 12, 13, 14, 15, 16, 17, 18, 19, 20, 21, 22, 23, 24, 25, 26, 27, 28, 29, 30, 31, 32, 33, 34, 35, 36, 37, 38, 39, 87, 88, 89, 90, 91, 92, 93, 94, 95, 96, 97, 98, 99, 100, 101, 102, 103, 104, 105, 106, 107, 108, 109] (by decide +kernel) (by decide +kernel)) (goodIn_sub (fun _ h => List.mem_cons_of_mem _ (List.mem_append_right _ h)) (by decide +kernel))
set_option maxRecDepth 20000 in
theorem gX5_cancel_X5_faultOfCancel : GoodIn wsX5_cancel (wsV RX5 238 RX5 yX5_faultOfCancel wsX5_faultOfCancel) := goodIn_app (goodIn_of _ (by decide +kernel)) ggX5_cancel_X5_faultOfCancel
set_option maxRecDepth 20000 in
theorem ggX5_cancel_X0_keep : GoodIn wsX5_cancel wsX0_keep := goodIn_r _ [44, 45, 46, 47, 43, 48, 49, 50, 51, 52, 53, 22, 54, 55, 56, 57, 28, 58, 59, 29, 60, 61, 62, 63, 16, 64, 18, 39, 65, 66, 67, 68, 69, 70, 71, 72, 73, 74, 75, 76, 77, 78, 110, 111, 112, 98, 99, 100, 101, 102, 103, 104, 105, 106, 107, 108, 109] (by decide +kernel) (by decide +kernel)
set_option maxRecDepth 20000 in
theorem gX5_cancel_X0_keep : GoodIn wsX5_cancel (wsV RX5 90 RX0 yX0_keep wsX0_keep) := goodIn_app (goodIn_of _ (by decide +kernel)) ggX5_cancel_X0_keep
set_option maxRecDepth 20000 in
theorem ggX5_cancel_X3_dropShow : GoodIn wsX5_cancel wsX3_dropShow := goodIn_ca (goodIn_r _ [82, 28, 60, 34, 35, 36, 16, 37, 38, 39, 83, 84, 85, 86, 98, 99, 100, 101, 102, 103, 104, 105, 106, 107, 108, 109] (by decide +kernel) (by decide +kernel)) (goodIn_sub (fun _ h => List.mem_cons_of_mem _ (List.mem_append_right _ h)) (by decide +kernel))
set_option maxRecDepth 20000 in
theorem gX5_cancel_X3_dropShow : GoodIn wsX5_cancel (wsV RX5 243 RX3 yX3_dropShow wsX3_dropShow) := goodIn_app (goodIn_of _ (by decide +kernel)) ggX5_cancel_X3_dropShow
theorem dX5_cancel_0 : decode cX5_cancel 0 = .ok (.aload_n 0, 1) := by decide +kernel
theorem dX5_cancel_1 : decode cX5_cancel 1 = .ok (.iload_n 1, 1) := by decide +kernel
theorem dX5_cancel_2 : decode cX5_cancel 2 = .ok (.invokevirtual 238, 3) := by decide +kernel
theorem dX5_cancel_5 : decode cX5_cancel 5 = .ok (.istore_n 2, 1) := by decide +kernel
theorem dX5_cancel_6 : decode cX5_cancel 6 = .ok (.iload_n 2, 1) := by decide +kernel
theorem dX5_cancel_7 : decode cX5_cancel 7 = .ok (.iconst 1, 1) := by decide +kernel
theorem dX5_cancel_8 : decode cX5_cancel 8 = .ok (.if_icmp .ne 13, 3) := by decide +kernel
theorem dX5_cancel_11 : decode cX5_cancel 11 = .ok (.new 119, 3) := by decide +kernel
theorem dX5_cancel_14 : decode cX5_cancel 14 = .ok (.dup, 1) := by decide +kernel
theorem dX5_cancel_15 : decode cX5_cancel 15 = .ok (.ldc 241, 2) := by decide +kernel
theorem dX5_cancel_17 : decode cX5_cancel 17 = .ok (.invokespecial 123, 3) := by decide +kernel
theorem dX5_cancel_20 : decode cX5_cancel 20 = .ok (.athrow, 1) := by decide +kernel
theorem dX5_cancel_21 : decode cX5_cancel 21 = .ok (.iload_n 2, 1) := by decide +kernel
theorem dX5_cancel_22 : decode cX5_cancel 22 = .ok (.iconst 3, 1) := by decide +kernel
theorem dX5_cancel_23 : decode cX5_cancel 23 = .ok (.if_icmp .ne 13, 3) := by decide +kernel
theorem dX5_cancel_26 : decode cX5_cancel 26 = .ok (.new 85, 3) := by decide +kernel
theorem dX5_cancel_29 : decode cX5_cancel 29 = .ok (.dup, 1) := by decide +kernel
theorem dX5_cancel_30 : decode cX5_cancel 30 = .ok (.ldc 223, 2) := by decide +kernel
theorem dX5_cancel_32 : decode cX5_cancel 32 = .ok (.invokespecial 89, 3) := by decide +kernel
theorem dX5_cancel_35 : decode cX5_cancel 35 = .ok (.athrow, 1) := by decide +kernel
theorem dX5_cancel_36 : decode cX5_cancel 36 = .ok (.aload_n 0, 1) := by decide +kernel
theorem dX5_cancel_37 : decode cX5_cancel 37 = .ok (.getfield 22, 3) := by decide +kernel
theorem dX5_cancel_40 : decode cX5_cancel 40 = .ok (.aload_n 0, 1) := by decide +kernel
theorem dX5_cancel_41 : decode cX5_cancel 41 = .ok (.getfield 10, 3) := by decide +kernel
theorem dX5_cancel_44 : decode cX5_cancel 44 = .ok (.invokevirtual 90, 3) := by decide +kernel
theorem dX5_cancel_47 : decode cX5_cancel 47 = .ok (.aload_n 0, 1) := by decide +kernel
theorem dX5_cancel_48 : decode cX5_cancel 48 = .ok (.getfield 10, 3) := by decide +kernel
theorem dX5_cancel_51 : decode cX5_cancel 51 = .ok (.iload_n 1, 1) := by decide +kernel
theorem dX5_cancel_52 : decode cX5_cancel 52 = .ok (.invokevirtual 243, 3) := by decide +kernel
theorem dX5_cancel_55 : decode cX5_cancel 55 = .ok (.ireturn, 1) := by decide +kernel
set_option maxRecDepth 20000 in
theorem ggX5_sell_X5_faultOfSell : GoodIn wsX5_sell wsX5_faultOfSell := goodIn_ca (goodIn_r _ [15, 10, 16, 17, 18, 19, 20, 21, 22, 23, 24, 14, 25, 26, 27, 28, 29, 30, 31, 32, 33, 34, 35, 36, 37, 38, 39, 40, 41, 42, 43, 44, 45, 46, 47, 48, 49, 50, 51, 52, 53, 54, 55, 56, 57, 58, 105, 106, 107, 108, 109, 110, 111, 112, 113, 114, 115, 116, 117, 118, 119, 120, 121, 122, 123, 124, 125, 126, 127] (by decide +kernel) (by decide +kernel)) (goodIn_sub (fun _ h => List.mem_cons_of_mem _ (List.mem_append_right _ h)) (by decide +kernel))
set_option maxRecDepth 20000 in
theorem gX5_sell_X5_faultOfSell : GoodIn wsX5_sell (wsV RX5 246 RX5 yX5_faultOfSell wsX5_faultOfSell) := goodIn_app (goodIn_of _ (by decide +kernel)) ggX5_sell_X5_faultOfSell
set_option maxRecDepth 20000 in
theorem ggX5_sell_X0_keep : GoodIn wsX5_sell wsX0_keep := goodIn_r _ [63, 64, 65, 66, 62, 67, 68, 69, 70, 71, 72, 29, 73, 51, 74, 75, 35, 76, 77, 36, 78, 79, 80, 81, 20, 82, 22, 46, 83, 84, 85, 86, 87, 88, 89, 90, 91, 92, 93, 94, 95, 96, 128, 129, 130, 116, 117, 118, 119, 120, 121, 122, 123, 124, 125, 126, 127] (by decide +kernel) (by decide +kernel)
set_option maxRecDepth 20000 in
theorem gX5_sell_X0_keep : GoodIn wsX5_sell (wsV RX5 90 RX0 yX0_keep wsX0_keep) := goodIn_app (goodIn_of _ (by decide +kernel)) ggX5_sell_X0_keep
set_option maxRecDepth 20000 in
theorem ggX5_sell_X3_addTickets : GoodIn wsX5_sell wsX3_addTickets := goodIn_ca (goodIn_r _ [100, 35, 41, 42, 43, 20, 44, 45, 46, 101, 102, 103, 104, 116, 117, 118, 119, 120, 121, 122, 123, 124, 125, 126, 127] (by decide +kernel) (by decide +kernel)) (goodIn_sub (fun _ h => List.mem_cons_of_mem _ (List.mem_append_right _ h)) (by decide +kernel))
set_option maxRecDepth 20000 in
theorem gX5_sell_X3_addTickets : GoodIn wsX5_sell (wsV RX5 253 RX3 yX3_addTickets wsX3_addTickets) := goodIn_app (goodIn_of _ (by decide +kernel)) ggX5_sell_X3_addTickets
theorem dX5_sell_0 : decode cX5_sell 0 = .ok (.aload_n 0, 1) := by decide +kernel
theorem dX5_sell_1 : decode cX5_sell 1 = .ok (.iload_n 1, 1) := by decide +kernel
theorem dX5_sell_2 : decode cX5_sell 2 = .ok (.iload_n 2, 1) := by decide +kernel
theorem dX5_sell_3 : decode cX5_sell 3 = .ok (.invokevirtual 246, 3) := by decide +kernel
theorem dX5_sell_6 : decode cX5_sell 6 = .ok (.istore_n 3, 1) := by decide +kernel
theorem dX5_sell_7 : decode cX5_sell 7 = .ok (.iload_n 3, 1) := by decide +kernel
theorem dX5_sell_8 : decode cX5_sell 8 = .ok (.iconst 1, 1) := by decide +kernel
theorem dX5_sell_9 : decode cX5_sell 9 = .ok (.if_icmp .ne 13, 3) := by decide +kernel
theorem dX5_sell_12 : decode cX5_sell 12 = .ok (.new 119, 3) := by decide +kernel
theorem dX5_sell_15 : decode cX5_sell 15 = .ok (.dup, 1) := by decide +kernel
theorem dX5_sell_16 : decode cX5_sell 16 = .ok (.ldc 241, 2) := by decide +kernel
theorem dX5_sell_18 : decode cX5_sell 18 = .ok (.invokespecial 123, 3) := by decide +kernel
theorem dX5_sell_21 : decode cX5_sell 21 = .ok (.athrow, 1) := by decide +kernel
theorem dX5_sell_22 : decode cX5_sell 22 = .ok (.iload_n 3, 1) := by decide +kernel
theorem dX5_sell_23 : decode cX5_sell 23 = .ok (.iconst 2, 1) := by decide +kernel
theorem dX5_sell_24 : decode cX5_sell 24 = .ok (.if_icmp .ne 13, 3) := by decide +kernel
theorem dX5_sell_27 : decode cX5_sell 27 = .ok (.new 68, 3) := by decide +kernel
theorem dX5_sell_30 : decode cX5_sell 30 = .ok (.dup, 1) := by decide +kernel
theorem dX5_sell_31 : decode cX5_sell 31 = .ok (.ldc 249, 2) := by decide +kernel
theorem dX5_sell_33 : decode cX5_sell 33 = .ok (.invokespecial 72, 3) := by decide +kernel
theorem dX5_sell_36 : decode cX5_sell 36 = .ok (.athrow, 1) := by decide +kernel
theorem dX5_sell_37 : decode cX5_sell 37 = .ok (.iload_n 3, 1) := by decide +kernel
theorem dX5_sell_38 : decode cX5_sell 38 = .ok (.iconst 3, 1) := by decide +kernel
theorem dX5_sell_39 : decode cX5_sell 39 = .ok (.if_icmp .ne 13, 3) := by decide +kernel
theorem dX5_sell_42 : decode cX5_sell 42 = .ok (.new 85, 3) := by decide +kernel
theorem dX5_sell_45 : decode cX5_sell 45 = .ok (.dup, 1) := by decide +kernel
theorem dX5_sell_46 : decode cX5_sell 46 = .ok (.ldc 223, 2) := by decide +kernel
theorem dX5_sell_48 : decode cX5_sell 48 = .ok (.invokespecial 89, 3) := by decide +kernel
theorem dX5_sell_51 : decode cX5_sell 51 = .ok (.athrow, 1) := by decide +kernel
theorem dX5_sell_52 : decode cX5_sell 52 = .ok (.iload_n 3, 1) := by decide +kernel
theorem dX5_sell_53 : decode cX5_sell 53 = .ok (.iconst 4, 1) := by decide +kernel
theorem dX5_sell_54 : decode cX5_sell 54 = .ok (.if_icmp .ne 13, 3) := by decide +kernel
theorem dX5_sell_57 : decode cX5_sell 57 = .ok (.new 202, 3) := by decide +kernel
theorem dX5_sell_60 : decode cX5_sell 60 = .ok (.dup, 1) := by decide +kernel
theorem dX5_sell_61 : decode cX5_sell 61 = .ok (.ldc 251, 2) := by decide +kernel
theorem dX5_sell_63 : decode cX5_sell 63 = .ok (.invokespecial 206, 3) := by decide +kernel
theorem dX5_sell_66 : decode cX5_sell 66 = .ok (.athrow, 1) := by decide +kernel
theorem dX5_sell_67 : decode cX5_sell 67 = .ok (.aload_n 0, 1) := by decide +kernel
theorem dX5_sell_68 : decode cX5_sell 68 = .ok (.getfield 22, 3) := by decide +kernel
theorem dX5_sell_71 : decode cX5_sell 71 = .ok (.aload_n 0, 1) := by decide +kernel
theorem dX5_sell_72 : decode cX5_sell 72 = .ok (.getfield 10, 3) := by decide +kernel
theorem dX5_sell_75 : decode cX5_sell 75 = .ok (.invokevirtual 90, 3) := by decide +kernel
theorem dX5_sell_78 : decode cX5_sell 78 = .ok (.aload_n 0, 1) := by decide +kernel
theorem dX5_sell_79 : decode cX5_sell 79 = .ok (.getfield 10, 3) := by decide +kernel
theorem dX5_sell_82 : decode cX5_sell 82 = .ok (.iload_n 1, 1) := by decide +kernel
theorem dX5_sell_83 : decode cX5_sell 83 = .ok (.iload_n 2, 1) := by decide +kernel
theorem dX5_sell_84 : decode cX5_sell 84 = .ok (.invokevirtual 253, 3) := by decide +kernel
theorem dX5_sell_87 : decode cX5_sell 87 = .ok (.ireturn, 1) := by decide +kernel
set_option maxRecDepth 20000 in
theorem ggX5_show_X4_isRow : GoodIn wsX5_show wsX4_isRow := goodIn_r _ [11, 12, 72, 73, 74, 75] (by decide +kernel) (by decide +kernel)
set_option maxRecDepth 20000 in
theorem gX5_show_X4_isRow : GoodIn wsX5_show (wsV RX5 116 RX4 yX4_isRow wsX4_isRow) := goodIn_app (goodIn_of _ (by decide +kernel)) ggX5_show_X4_isRow
set_option maxRecDepth 20000 in
theorem ggX5_show_X5_isWithin : GoodIn wsX5_show wsX5_isWithin := goodIn_r _ [16] (by decide +kernel) (by decide +kernel)
set_option maxRecDepth 20000 in
theorem gX5_show_X5_isWithin : GoodIn wsX5_show (va_wsS RX5 64 yX5_isWithin wsX5_isWithin) := goodIn_app (goodIn_of _ (by decide +kernel)) ggX5_show_X5_isWithin
set_option maxRecDepth 20000 in
theorem ggX5_show_X3_statusOf : GoodIn wsX5_show wsX3_statusOf := goodIn_ca (goodIn_r _ [21, 22, 23, 24, 25, 26, 20, 27, 28, 29, 30, 10, 31, 32, 33, 64, 65, 66, 67, 68, 69, 70, 71, 72, 73, 74, 75] (by decide +kernel) (by decide +kernel)) (goodIn_sub (fun _ h => List.mem_cons_of_mem _ (List.mem_append_right _ h)) (by decide +kernel))
set_option maxRecDepth 20000 in
theorem gX5_show_X3_statusOf : GoodIn wsX5_show (wsV RX5 256 RX3 yX3_statusOf wsX3_statusOf) := goodIn_app (goodIn_of _ (by decide +kernel)) ggX5_show_X3_statusOf
set_option maxRecDepth 20000 in
theorem ggX5_show_X3_receiptsOf : GoodIn wsX5_show wsX3_receiptsOf := goodIn_ca (goodIn_r _ [37, 22, 28, 29, 30, 10, 31, 32, 33, 64, 65, 66, 67, 68, 69, 70, 71, 72, 73, 74, 75] (by decide +kernel) (by decide +kernel)) (goodIn_sub (fun _ h => List.mem_cons_of_mem _ (List.mem_append_right _ h)) (by decide +kernel))
set_option maxRecDepth 20000 in
theorem gX5_show_X3_receiptsOf : GoodIn wsX5_show (wsV RX5 259 RX3 yX3_receiptsOf wsX3_receiptsOf) := goodIn_app (goodIn_of _ (by decide +kernel)) ggX5_show_X3_receiptsOf
set_option maxRecDepth 20000 in
theorem ggX5_show_X3_partOf : GoodIn wsX5_show wsX3_partOf := goodIn_ca (goodIn_r _ [41, 22, 28, 29, 30, 10, 31, 32, 33, 42, 43, 44, 20, 45, 46, 47, 48, 49, 50, 51, 35, 36, 37, 64, 65, 66, 67, 68, 69, 70, 71, 72, 73, 74, 75] (by decide +kernel) (by decide +kernel)) (goodIn_sub (fun _ h => List.mem_cons_of_mem _ (List.mem_append_right _ h)) (by decide +kernel))
set_option maxRecDepth 20000 in
theorem gX5_show_X3_partOf : GoodIn wsX5_show (wsV RX5 262 RX3 yX3_partOf wsX3_partOf) := goodIn_app (goodIn_of _ (by decide +kernel)) ggX5_show_X3_partOf
set_option maxRecDepth 20000 in
theorem ggX5_show_X4_get : GoodIn wsX5_show wsX4_get := goodIn_ca (goodIn_r _ [31, 32, 33, 72, 73, 74, 75] (by decide +kernel) (by decide +kernel)) (goodIn_sub (fun _ h => List.mem_cons_of_mem _ (List.mem_append_right _ h)) (by decide +kernel))
set_option maxRecDepth 20000 in
theorem gX5_show_X4_get : GoodIn wsX5_show (wsV RX5 126 RX4 yX4_get wsX4_get) := goodIn_app (goodIn_of _ (by decide +kernel)) ggX5_show_X4_get
theorem dX5_show_0 : decode cX5_show 0 = .ok (.aload_n 0, 1) := by decide +kernel
theorem dX5_show_1 : decode cX5_show 1 = .ok (.getfield 10, 3) := by decide +kernel
theorem dX5_show_4 : decode cX5_show 4 = .ok (.getfield 210, 3) := by decide +kernel
theorem dX5_show_7 : decode cX5_show 7 = .ok (.iload_n 1, 1) := by decide +kernel
theorem dX5_show_8 : decode cX5_show 8 = .ok (.invokevirtual 116, 3) := by decide +kernel
theorem dX5_show_11 : decode cX5_show 11 = .ok (.ifCond .ne 13, 3) := by decide +kernel
theorem dX5_show_14 : decode cX5_show 14 = .ok (.new 119, 3) := by decide +kernel
theorem dX5_show_17 : decode cX5_show 17 = .ok (.dup, 1) := by decide +kernel
theorem dX5_show_18 : decode cX5_show 18 = .ok (.ldc 241, 2) := by decide +kernel
theorem dX5_show_20 : decode cX5_show 20 = .ok (.invokespecial 123, 3) := by decide +kernel
theorem dX5_show_23 : decode cX5_show 23 = .ok (.athrow, 1) := by decide +kernel
theorem dX5_show_24 : decode cX5_show 24 = .ok (.iload_n 2, 1) := by decide +kernel
theorem dX5_show_25 : decode cX5_show 25 = .ok (.iconst 0, 1) := by decide +kernel
theorem dX5_show_26 : decode cX5_show 26 = .ok (.bipush 11, 2) := by decide +kernel
theorem dX5_show_28 : decode cX5_show 28 = .ok (.invokestatic 64, 3) := by decide +kernel
theorem dX5_show_31 : decode cX5_show 31 = .ok (.ifCond .ne 13, 3) := by decide +kernel
theorem dX5_show_34 : decode cX5_show 34 = .ok (.new 68, 3) := by decide +kernel
theorem dX5_show_37 : decode cX5_show 37 = .ok (.dup, 1) := by decide +kernel
theorem dX5_show_38 : decode cX5_show 38 = .ok (.ldc 167, 2) := by decide +kernel
theorem dX5_show_40 : decode cX5_show 40 = .ok (.invokespecial 72, 3) := by decide +kernel
theorem dX5_show_43 : decode cX5_show 43 = .ok (.athrow, 1) := by decide +kernel
theorem dX5_show_44 : decode cX5_show 44 = .ok (.iload_n 2, 1) := by decide +kernel
theorem dX5_show_45 : decode cX5_show 45 = .ok (.tableswitch 54 8 10 #[27, 36, 45], 27) := by decide +kernel
theorem dX5_show_72 : decode cX5_show 72 = .ok (.aload_n 0, 1) := by decide +kernel
theorem dX5_show_73 : decode cX5_show 73 = .ok (.getfield 10, 3) := by decide +kernel
theorem dX5_show_76 : decode cX5_show 76 = .ok (.iload_n 1, 1) := by decide +kernel
theorem dX5_show_77 : decode cX5_show 77 = .ok (.invokevirtual 256, 3) := by decide +kernel
theorem dX5_show_80 : decode cX5_show 80 = .ok (.ireturn, 1) := by decide +kernel
theorem dX5_show_81 : decode cX5_show 81 = .ok (.aload_n 0, 1) := by decide +kernel
theorem dX5_show_82 : decode cX5_show 82 = .ok (.getfield 10, 3) := by decide +kernel
theorem dX5_show_85 : decode cX5_show 85 = .ok (.iload_n 1, 1) := by decide +kernel
theorem dX5_show_86 : decode cX5_show 86 = .ok (.invokevirtual 259, 3) := by decide +kernel
theorem dX5_show_89 : decode cX5_show 89 = .ok (.ireturn, 1) := by decide +kernel
theorem dX5_show_90 : decode cX5_show 90 = .ok (.aload_n 0, 1) := by decide +kernel
theorem dX5_show_91 : decode cX5_show 91 = .ok (.getfield 10, 3) := by decide +kernel
theorem dX5_show_94 : decode cX5_show 94 = .ok (.iload_n 1, 1) := by decide +kernel
theorem dX5_show_95 : decode cX5_show 95 = .ok (.invokevirtual 262, 3) := by decide +kernel
theorem dX5_show_98 : decode cX5_show 98 = .ok (.ireturn, 1) := by decide +kernel
theorem dX5_show_99 : decode cX5_show 99 = .ok (.aload_n 0, 1) := by decide +kernel
theorem dX5_show_100 : decode cX5_show 100 = .ok (.getfield 10, 3) := by decide +kernel
theorem dX5_show_103 : decode cX5_show 103 = .ok (.getfield 210, 3) := by decide +kernel
theorem dX5_show_106 : decode cX5_show 106 = .ok (.iload_n 1, 1) := by decide +kernel
theorem dX5_show_107 : decode cX5_show 107 = .ok (.iload_n 2, 1) := by decide +kernel
theorem dX5_show_108 : decode cX5_show 108 = .ok (.invokevirtual 126, 3) := by decide +kernel
theorem dX5_show_111 : decode cX5_show 111 = .ok (.ireturn, 1) := by decide +kernel
set_option maxRecDepth 20000 in
theorem ggX5_why_X4_isRow : GoodIn wsX5_why wsX4_isRow := goodIn_r _ [14, 15, 159, 160, 161, 162] (by decide +kernel) (by decide +kernel)
set_option maxRecDepth 20000 in
theorem gX5_why_X4_isRow : GoodIn wsX5_why (wsV RX5 116 RX4 yX4_isRow wsX4_isRow) := goodIn_app (goodIn_of _ (by decide +kernel)) ggX5_why_X4_isRow
set_option maxRecDepth 20000 in
theorem ggX5_why_X5_isDay : GoodIn wsX5_why wsX5_isDay := goodIn_r _ [19, 20, 21, 18, 22] (by decide +kernel) (by decide +kernel)
set_option maxRecDepth 20000 in
theorem gX5_why_X5_isDay : GoodIn wsX5_why (va_wsS RX5 108 yX5_isDay wsX5_isDay) := goodIn_app (goodIn_of _ (by decide +kernel)) ggX5_why_X5_isDay
set_option maxRecDepth 20000 in
theorem ggX5_why_X5_isMinute : GoodIn wsX5_why wsX5_isMinute := goodIn_r _ [25, 20, 21, 18, 22] (by decide +kernel) (by decide +kernel)
set_option maxRecDepth 20000 in
theorem gX5_why_X5_isMinute : GoodIn wsX5_why (va_wsS RX5 215 yX5_isMinute wsX5_isMinute) := goodIn_app (goodIn_of _ (by decide +kernel)) ggX5_why_X5_isMinute
set_option maxRecDepth 20000 in
theorem ggX5_why_X2_takeUp : GoodIn wsX5_why wsX2_takeUp := goodIn_ca (goodIn_r _ [30, 31, 32, 33, 34, 35, 36, 37, 38, 39, 40, 41, 42, 43, 13, 44, 45, 46, 47, 48, 49, 50, 15, 51, 52, 53, 54, 55, 56, 57, 58, 59, 60, 61, 62, 29, 63, 64, 65, 66, 67, 68, 69, 70, 71, 72, 73, 74, 155, 156, 157, 158, 147, 148, 149, 150, 151, 152, 153, 154, 159, 160, 161, 162] (by decide +kernel) (by decide +kernel)) (goodIn_sub (fun _ h => List.mem_cons_of_mem _ (List.mem_append_right _ h)) (by decide +kernel))
set_option maxRecDepth 20000 in
theorem gX5_why_X2_takeUp : GoodIn wsX5_why (wsV RX5 265 RX2 yX2_takeUp wsX2_takeUp) := goodIn_app (goodIn_of _ (by decide +kernel)) ggX5_why_X2_takeUp
set_option maxRecDepth 20000 in
theorem ggX5_why_X3_newMinutes : GoodIn wsX5_why wsX3_newMinutes := goodIn_ca (goodIn_r _ [78, 79, 80, 81, 82, 38, 83, 40, 84, 41, 42, 43, 13, 44, 45, 46, 85, 52, 53, 54, 15, 86, 87, 88, 89, 90, 91, 92, 93, 94, 95, 96, 97, 98, 99, 100, 101, 102, 103, 147, 148, 149, 150, 151, 152, 153, 154, 159, 160, 161, 162] (by decide +kernel) (by decide +kernel)) (goodIn_sub (fun _ h => List.mem_cons_of_mem _ (List.mem_append_right _ h)) (by decide +kernel))
set_option maxRecDepth 20000 in
theorem gX5_why_X3_newMinutes : GoodIn wsX5_why (wsV RX5 269 RX3 yX3_newMinutes wsX3_newMinutes) := goodIn_app (goodIn_of _ (by decide +kernel)) ggX5_why_X3_newMinutes
set_option maxRecDepth 20000 in
theorem ggX5_why_X2_firstBroken : GoodIn wsX5_why wsX2_firstBroken := goodIn_ca (goodIn_r _ [107, 108, 31, 64, 32, 109, 65, 42, 43, 13, 44, 45, 46, 35, 36, 37, 38, 39, 40, 41, 110, 111, 112, 29, 113, 114, 115, 116, 117, 118, 119, 120, 121, 122, 123, 33, 51, 52, 53, 54, 15, 124, 125, 126, 127, 128, 129, 130, 131, 132, 133, 134, 135, 147, 148, 149, 150, 151, 152, 153, 154, 155, 156, 157, 158, 159, 160, 161, 162] (by decide +kernel) (by decide +kernel)) (goodIn_sub (fun _ h => List.mem_cons_of_mem _ (List.mem_append_right _ h)) (by decide +kernel))
set_option maxRecDepth 20000 in
theorem gX5_why_X2_firstBroken : GoodIn wsX5_why (wsV RX5 272 RX2 yX2_firstBroken wsX2_firstBroken) := goodIn_app (goodIn_of _ (by decide +kernel)) ggX5_why_X2_firstBroken
theorem dX5_why_0 : decode cX5_why 0 = .ok (.aload_n 0, 1) := by decide +kernel
theorem dX5_why_1 : decode cX5_why 1 = .ok (.getfield 10, 3) := by decide +kernel
theorem dX5_why_4 : decode cX5_why 4 = .ok (.getfield 75, 3) := by decide +kernel
theorem dX5_why_7 : decode cX5_why 7 = .ok (.iload_n 1, 1) := by decide +kernel
theorem dX5_why_8 : decode cX5_why 8 = .ok (.invokevirtual 116, 3) := by decide +kernel
theorem dX5_why_11 : decode cX5_why 11 = .ok (.ifCond .eq 17, 3) := by decide +kernel
theorem dX5_why_14 : decode cX5_why 14 = .ok (.aload_n 0, 1) := by decide +kernel
theorem dX5_why_15 : decode cX5_why 15 = .ok (.getfield 10, 3) := by decide +kernel
theorem dX5_why_18 : decode cX5_why 18 = .ok (.getfield 111, 3) := by decide +kernel
theorem dX5_why_21 : decode cX5_why 21 = .ok (.iload_n 2, 1) := by decide +kernel
theorem dX5_why_22 : decode cX5_why 22 = .ok (.invokevirtual 116, 3) := by decide +kernel
theorem dX5_why_25 : decode cX5_why 25 = .ok (.ifCond .ne 13, 3) := by decide +kernel
theorem dX5_why_28 : decode cX5_why 28 = .ok (.new 119, 3) := by decide +kernel
theorem dX5_why_31 : decode cX5_why 31 = .ok (.dup, 1) := by decide +kernel
theorem dX5_why_32 : decode cX5_why 32 = .ok (.ldc 198, 2) := by decide +kernel
theorem dX5_why_34 : decode cX5_why 34 = .ok (.invokespecial 123, 3) := by decide +kernel
theorem dX5_why_37 : decode cX5_why 37 = .ok (.athrow, 1) := by decide +kernel
theorem dX5_why_38 : decode cX5_why 38 = .ok (.iload_n 3, 1) := by decide +kernel
theorem dX5_why_39 : decode cX5_why 39 = .ok (.invokestatic 108, 3) := by decide +kernel
theorem dX5_why_42 : decode cX5_why 42 = .ok (.ifCond .eq 11, 3) := by decide +kernel
theorem dX5_why_45 : decode cX5_why 45 = .ok (.iload 4, 2) := by decide +kernel
theorem dX5_why_47 : decode cX5_why 47 = .ok (.invokestatic 215, 3) := by decide +kernel
theorem dX5_why_50 : decode cX5_why 50 = .ok (.ifCond .ne 13, 3) := by decide +kernel
theorem dX5_why_53 : decode cX5_why 53 = .ok (.new 68, 3) := by decide +kernel
theorem dX5_why_56 : decode cX5_why 56 = .ok (.dup, 1) := by decide +kernel
theorem dX5_why_57 : decode cX5_why 57 = .ok (.ldc 200, 2) := by decide +kernel
theorem dX5_why_59 : decode cX5_why 59 = .ok (.invokespecial 72, 3) := by decide +kernel
theorem dX5_why_62 : decode cX5_why 62 = .ok (.athrow, 1) := by decide +kernel
theorem dX5_why_63 : decode cX5_why 63 = .ok (.aload_n 0, 1) := by decide +kernel
theorem dX5_why_64 : decode cX5_why 64 = .ok (.getfield 29, 3) := by decide +kernel
theorem dX5_why_67 : decode cX5_why 67 = .ok (.aload_n 0, 1) := by decide +kernel
theorem dX5_why_68 : decode cX5_why 68 = .ok (.getfield 10, 3) := by decide +kernel
theorem dX5_why_71 : decode cX5_why 71 = .ok (.iconst (-1), 1) := by decide +kernel
theorem dX5_why_72 : decode cX5_why 72 = .ok (.iload_n 2, 1) := by decide +kernel
theorem dX5_why_73 : decode cX5_why 73 = .ok (.iload_n 3, 1) := by decide +kernel
theorem dX5_why_74 : decode cX5_why 74 = .ok (.invokevirtual 265, 3) := by decide +kernel
theorem dX5_why_77 : decode cX5_why 77 = .ok (.aload_n 0, 1) := by decide +kernel
theorem dX5_why_78 : decode cX5_why 78 = .ok (.getfield 29, 3) := by decide +kernel
theorem dX5_why_81 : decode cX5_why 81 = .ok (.aload_n 0, 1) := by decide +kernel
theorem dX5_why_82 : decode cX5_why 82 = .ok (.getfield 10, 3) := by decide +kernel
theorem dX5_why_85 : decode cX5_why 85 = .ok (.iload_n 1, 1) := by decide +kernel
theorem dX5_why_86 : decode cX5_why 86 = .ok (.iload 4, 2) := by decide +kernel
theorem dX5_why_88 : decode cX5_why 88 = .ok (.iload 4, 2) := by decide +kernel
theorem dX5_why_90 : decode cX5_why 90 = .ok (.aload_n 0, 1) := by decide +kernel
theorem dX5_why_91 : decode cX5_why 91 = .ok (.getfield 10, 3) := by decide +kernel
theorem dX5_why_94 : decode cX5_why 94 = .ok (.iload_n 2, 1) := by decide +kernel
theorem dX5_why_95 : decode cX5_why 95 = .ok (.iload_n 3, 1) := by decide +kernel
theorem dX5_why_96 : decode cX5_why 96 = .ok (.invokevirtual 269, 3) := by decide +kernel
theorem dX5_why_99 : decode cX5_why 99 = .ok (.iadd, 1) := by decide +kernel
theorem dX5_why_100 : decode cX5_why 100 = .ok (.invokevirtual 272, 3) := by decide +kernel
theorem dX5_why_103 : decode cX5_why 103 = .ok (.istore 6, 2) := by decide +kernel
theorem dX5_why_105 : decode cX5_why 105 = .ok (.iload 5, 2) := by decide +kernel
theorem dX5_why_107 : decode cX5_why 107 = .ok (.ifCond .eq 13, 3) := by decide +kernel
theorem dX5_why_110 : decode cX5_why 110 = .ok (.aload_n 0, 1) := by decide +kernel
theorem dX5_why_111 : decode cX5_why 111 = .ok (.getfield 29, 3) := by decide +kernel
theorem dX5_why_114 : decode cX5_why 114 = .ok (.getfield 276, 3) := by decide +kernel
theorem dX5_why_117 : decode cX5_why 117 = .ok (.goto 5, 3) := by decide +kernel
theorem dX5_why_120 : decode cX5_why 120 = .ok (.iload 6, 2) := by decide +kernel
theorem dX5_why_122 : decode cX5_why 122 = .ok (.ireturn, 1) := by decide +kernel
set_option maxRecDepth 20000 in
theorem ggX5_firstStart_X4_isRow : GoodIn wsX5_firstStart wsX4_isRow := goodIn_r _ [15, 16, 156, 157, 158, 159] (by decide +kernel) (by decide +kernel)
set_option maxRecDepth 20000 in
theorem gX5_firstStart_X4_isRow : GoodIn wsX5_firstStart (wsV RX5 116 RX4 yX4_isRow wsX4_isRow) := goodIn_app (goodIn_of _ (by decide +kernel)) ggX5_firstStart_X4_isRow
set_option maxRecDepth 20000 in
theorem ggX5_firstStart_X5_isDay : GoodIn wsX5_firstStart wsX5_isDay := goodIn_r _ [20, 21, 22, 19, 23] (by decide +kernel) (by decide +kernel)
set_option maxRecDepth 20000 in
theorem gX5_firstStart_X5_isDay : GoodIn wsX5_firstStart (va_wsS RX5 108 yX5_isDay wsX5_isDay) := goodIn_app (goodIn_of _ (by decide +kernel)) ggX5_firstStart_X5_isDay
set_option maxRecDepth 20000 in
theorem ggX5_firstStart_X5_isMinute : GoodIn wsX5_firstStart wsX5_isMinute := goodIn_r _ [26, 21, 22, 19, 23] (by decide +kernel) (by decide +kernel)
set_option maxRecDepth 20000 in
theorem gX5_firstStart_X5_isMinute : GoodIn wsX5_firstStart (va_wsS RX5 215 yX5_isMinute wsX5_isMinute) := goodIn_app (goodIn_of _ (by decide +kernel)) ggX5_firstStart_X5_isMinute
set_option maxRecDepth 20000 in
theorem ggX5_firstStart_X2_takeUp : GoodIn wsX5_firstStart wsX2_takeUp := goodIn_ca (goodIn_r _ [31, 32, 33, 34, 35, 36, 37, 38, 39, 40, 41, 42, 43, 44, 14, 45, 46, 47, 48, 49, 50, 51, 16, 52, 53, 54, 55, 56, 57, 58, 59, 60, 61, 62, 63, 30, 64, 65, 66, 67, 68, 69, 70, 71, 72, 73, 74, 75, 160, 161, 162, 163, 148, 149, 150, 151, 152, 153, 154, 155, 156, 157, 158, 159] (by decide +kernel) (by decide +kernel)) (goodIn_sub (fun _ h => List.mem_cons_of_mem _ (List.mem_append_right _ h)) (by decide +kernel))
set_option maxRecDepth 20000 in
theorem gX5_firstStart_X2_takeUp : GoodIn wsX5_firstStart (wsV RX5 265 RX2 yX2_takeUp wsX2_takeUp) := goodIn_app (goodIn_of _ (by decide +kernel)) ggX5_firstStart_X2_takeUp
set_option maxRecDepth 20000 in
theorem ggX5_firstStart_X3_newMinutes : GoodIn wsX5_firstStart wsX3_newMinutes := goodIn_ca (goodIn_r _ [79, 80, 81, 82, 83, 39, 84, 41, 85, 42, 43, 44, 14, 45, 46, 47, 86, 53, 54, 55, 16, 87, 88, 89, 90, 91, 92, 93, 94, 95, 96, 97, 98, 99, 100, 101, 102, 103, 104, 148, 149, 150, 151, 152, 153, 154, 155, 156, 157, 158, 159] (by decide +kernel) (by decide +kernel)) (goodIn_sub (fun _ h => List.mem_cons_of_mem _ (List.mem_append_right _ h)) (by decide +kernel))
set_option maxRecDepth 20000 in
theorem gX5_firstStart_X3_newMinutes : GoodIn wsX5_firstStart (wsV RX5 269 RX3 yX3_newMinutes wsX3_newMinutes) := goodIn_app (goodIn_of _ (by decide +kernel)) ggX5_firstStart_X3_newMinutes
set_option maxRecDepth 20000 in
theorem ggX5_firstStart_X2_firstBroken : GoodIn wsX5_firstStart wsX2_firstBroken := goodIn_ca (goodIn_r _ [108, 109, 32, 65, 33, 110, 66, 43, 44, 14, 45, 46, 47, 36, 37, 38, 39, 40, 41, 42, 111, 112, 113, 30, 114, 115, 116, 117, 118, 119, 120, 121, 122, 123, 124, 34, 52, 53, 54, 55, 16, 125, 126, 127, 128, 129, 130, 131, 132, 133, 134, 135, 136, 148, 149, 150, 151, 152, 153, 154, 155, 160, 161, 162, 163, 156, 157, 158, 159] (by decide +kernel) (by decide +kernel)) (goodIn_sub (fun _ h => List.mem_cons_of_mem _ (List.mem_append_right _ h)) (by decide +kernel))
set_option maxRecDepth 20000 in
theorem gX5_firstStart_X2_firstBroken : GoodIn wsX5_firstStart (wsV RX5 272 RX2 yX2_firstBroken wsX2_firstBroken) := goodIn_app (goodIn_of _ (by decide +kernel)) ggX5_firstStart_X2_firstBroken
theorem dX5_firstStart_0 : decode cX5_firstStart 0 = .ok (.aload_n 0, 1) := by decide +kernel
theorem dX5_firstStart_1 : decode cX5_firstStart 1 = .ok (.getfield 10, 3) := by decide +kernel
theorem dX5_firstStart_4 : decode cX5_firstStart 4 = .ok (.getfield 75, 3) := by decide +kernel
theorem dX5_firstStart_7 : decode cX5_firstStart 7 = .ok (.iload_n 1, 1) := by decide +kernel
theorem dX5_firstStart_8 : decode cX5_firstStart 8 = .ok (.invokevirtual 116, 3) := by decide +kernel
theorem dX5_firstStart_11 : decode cX5_firstStart 11 = .ok (.ifCond .eq 17, 3) := by decide +kernel
theorem dX5_firstStart_14 : decode cX5_firstStart 14 = .ok (.aload_n 0, 1) := by decide +kernel
theorem dX5_firstStart_15 : decode cX5_firstStart 15 = .ok (.getfield 10, 3) := by decide +kernel
theorem dX5_firstStart_18 : decode cX5_firstStart 18 = .ok (.getfield 111, 3) := by decide +kernel
theorem dX5_firstStart_21 : decode cX5_firstStart 21 = .ok (.iload_n 2, 1) := by decide +kernel
theorem dX5_firstStart_22 : decode cX5_firstStart 22 = .ok (.invokevirtual 116, 3) := by decide +kernel
theorem dX5_firstStart_25 : decode cX5_firstStart 25 = .ok (.ifCond .ne 13, 3) := by decide +kernel
theorem dX5_firstStart_28 : decode cX5_firstStart 28 = .ok (.new 119, 3) := by decide +kernel
theorem dX5_firstStart_31 : decode cX5_firstStart 31 = .ok (.dup, 1) := by decide +kernel
theorem dX5_firstStart_32 : decode cX5_firstStart 32 = .ok (.ldc 198, 2) := by decide +kernel
theorem dX5_firstStart_34 : decode cX5_firstStart 34 = .ok (.invokespecial 123, 3) := by decide +kernel
theorem dX5_firstStart_37 : decode cX5_firstStart 37 = .ok (.athrow, 1) := by decide +kernel
theorem dX5_firstStart_38 : decode cX5_firstStart 38 = .ok (.iload_n 3, 1) := by decide +kernel
theorem dX5_firstStart_39 : decode cX5_firstStart 39 = .ok (.invokestatic 108, 3) := by decide +kernel
theorem dX5_firstStart_42 : decode cX5_firstStart 42 = .ok (.ifCond .eq 11, 3) := by decide +kernel
theorem dX5_firstStart_45 : decode cX5_firstStart 45 = .ok (.iload 4, 2) := by decide +kernel
theorem dX5_firstStart_47 : decode cX5_firstStart 47 = .ok (.invokestatic 215, 3) := by decide +kernel
theorem dX5_firstStart_50 : decode cX5_firstStart 50 = .ok (.ifCond .ne 13, 3) := by decide +kernel
theorem dX5_firstStart_53 : decode cX5_firstStart 53 = .ok (.new 68, 3) := by decide +kernel
theorem dX5_firstStart_56 : decode cX5_firstStart 56 = .ok (.dup, 1) := by decide +kernel
theorem dX5_firstStart_57 : decode cX5_firstStart 57 = .ok (.ldc 200, 2) := by decide +kernel
theorem dX5_firstStart_59 : decode cX5_firstStart 59 = .ok (.invokespecial 72, 3) := by decide +kernel
theorem dX5_firstStart_62 : decode cX5_firstStart 62 = .ok (.athrow, 1) := by decide +kernel
theorem dX5_firstStart_63 : decode cX5_firstStart 63 = .ok (.aload_n 0, 1) := by decide +kernel
theorem dX5_firstStart_64 : decode cX5_firstStart 64 = .ok (.getfield 29, 3) := by decide +kernel
theorem dX5_firstStart_67 : decode cX5_firstStart 67 = .ok (.aload_n 0, 1) := by decide +kernel
