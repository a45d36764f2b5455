theorem dX5_firstStart_68 : decode cX5_firstStart 68 = .ok (.getfield 10, 3) := by decide +kernel
theorem dX5_firstStart_71 : decode cX5_firstStart 71 = .ok (.iconst (-1), 1) := by decide +kernel
theorem dX5_firstStart_72 : decode cX5_firstStart 72 = .ok (.iload_n 2, 1) := by decide +kernel
theorem dX5_firstStart_73 : decode cX5_firstStart 73 = .ok (.iload_n 3, 1) := by decide +kernel
theorem dX5_firstStart_74 : decode cX5_firstStart 74 = .ok (.invokevirtual 265, 3) := by decide +kernel
theorem dX5_firstStart_77 : decode cX5_firstStart 77 = .ok (.aload_n 0, 1) := by decide +kernel
theorem dX5_firstStart_78 : decode cX5_firstStart 78 = .ok (.getfield 10, 3) := by decide +kernel
theorem dX5_firstStart_81 : decode cX5_firstStart 81 = .ok (.iload_n 2, 1) := by decide +kernel
theorem dX5_firstStart_82 : decode cX5_firstStart 82 = .ok (.iload_n 3, 1) := by decide +kernel
theorem dX5_firstStart_83 : decode cX5_firstStart 83 = .ok (.invokevirtual 269, 3) := by decide +kernel
theorem dX5_firstStart_86 : decode cX5_firstStart 86 = .ok (.istore 5, 2) := by decide +kernel
theorem dX5_firstStart_88 : decode cX5_firstStart 88 = .ok (.iload 4, 2) := by decide +kernel
theorem dX5_firstStart_90 : decode cX5_firstStart 90 = .ok (.istore 6, 2) := by decide +kernel
theorem dX5_firstStart_92 : decode cX5_firstStart 92 = .ok (.iload 6, 2) := by decide +kernel
theorem dX5_firstStart_94 : decode cX5_firstStart 94 = .ok (.sipush 960, 3) := by decide +kernel
theorem dX5_firstStart_97 : decode cX5_firstStart 97 = .ok (.if_icmp .ge 34, 3) := by decide +kernel
theorem dX5_firstStart_100 : decode cX5_firstStart 100 = .ok (.aload_n 0, 1) := by decide +kernel
theorem dX5_firstStart_101 : decode cX5_firstStart 101 = .ok (.getfield 29, 3) := by decide +kernel
theorem dX5_firstStart_104 : decode cX5_firstStart 104 = .ok (.aload_n 0, 1) := by decide +kernel
theorem dX5_firstStart_105 : decode cX5_firstStart 105 = .ok (.getfield 10, 3) := by decide +kernel
theorem dX5_firstStart_108 : decode cX5_firstStart 108 = .ok (.iload_n 1, 1) := by decide +kernel
theorem dX5_firstStart_109 : decode cX5_firstStart 109 = .ok (.iload 6, 2) := by decide +kernel
theorem dX5_firstStart_111 : decode cX5_firstStart 111 = .ok (.iload 6, 2) := by decide +kernel
theorem dX5_firstStart_113 : decode cX5_firstStart 113 = .ok (.iload 5, 2) := by decide +kernel
theorem dX5_firstStart_115 : decode cX5_firstStart 115 = .ok (.iadd, 1) := by decide +kernel
theorem dX5_firstStart_116 : decode cX5_firstStart 116 = .ok (.invokevirtual 272, 3) := by decide +kernel
theorem dX5_firstStart_119 : decode cX5_firstStart 119 = .ok (.ifCond .ne 6, 3) := by decide +kernel
theorem dX5_firstStart_122 : decode cX5_firstStart 122 = .ok (.iload 6, 2) := by decide +kernel
theorem dX5_firstStart_124 : decode cX5_firstStart 124 = .ok (.ireturn, 1) := by decide +kernel
theorem dX5_firstStart_125 : decode cX5_firstStart 125 = .ok (.iinc 6 1, 3) := by decide +kernel
theorem dX5_firstStart_128 : decode cX5_firstStart 128 = .ok (.goto (-36), 3) := by decide +kernel
theorem dX5_firstStart_131 : decode cX5_firstStart 131 = .ok (.new 171, 3) := by decide +kernel
theorem dX5_firstStart_134 : decode cX5_firstStart 134 = .ok (.dup, 1) := by decide +kernel
theorem dX5_firstStart_135 : decode cX5_firstStart 135 = .ok (.ldc_w 279, 3) := by decide +kernel
theorem dX5_firstStart_138 : decode cX5_firstStart 138 = .ok (.invokespecial 175, 3) := by decide +kernel
theorem dX5_firstStart_141 : decode cX5_firstStart 141 = .ok (.athrow, 1) := by decide +kernel
set_option maxRecDepth 20000 in
theorem ggX5_fail_X5_faultOfFail : GoodIn wsX5_fail wsX5_faultOfFail := goodIn_ca (goodIn_r _ [13, 8, 14, 15, 16, 17, 18, 19, 20, 21, 22, 23, 12, 24, 25, 26, 27, 28, 29, 30, 193, 194, 195, 196, 197, 198, 199, 200, 201, 202, 203, 204, 205, 206, 207, 208, 209, 210, 211, 212, 213, 214, 215] (by decide +kernel) (by decide +kernel)) (goodIn_sub (fun _ h => List.mem_cons_of_mem _ (List.mem_append_right _ h)) (by decide +kernel))
set_option maxRecDepth 20000 in
theorem gX5_fail_X5_faultOfFail : GoodIn wsX5_fail (wsV RX5 281 RX5 yX5_faultOfFail wsX5_faultOfFail) := goodIn_app (goodIn_of _ (by decide +kernel)) ggX5_fail_X5_faultOfFail
set_option maxRecDepth 20000 in
theorem ggX5_fail_X0_keep : GoodIn wsX5_fail wsX0_keep := goodIn_r _ [35, 36, 37, 38, 34, 39, 40, 41, 42, 43, 44, 45, 46, 47, 48, 49, 50, 51, 52, 53, 54, 55, 56, 57, 19, 58, 21, 30, 59, 60, 61, 62, 63, 64, 65, 66, 67, 68, 69, 70, 71, 72, 216, 217, 218, 204, 205, 206, 207, 208, 209, 210, 211, 212, 213, 214, 215] (by decide +kernel) (by decide +kernel)
set_option maxRecDepth 20000 in
theorem gX5_fail_X0_keep : GoodIn wsX5_fail (wsV RX5 90 RX0 yX0_keep wsX0_keep) := goodIn_app (goodIn_of _ (by decide +kernel)) ggX5_fail_X0_keep
set_option maxRecDepth 20000 in
theorem ggX5_fail_X5_closeHall : GoodIn wsX5_fail wsX5_closeHall := goodIn_ca (goodIn_r _ [76, 8, 14, 77, 78, 79, 80, 19, 81, 29, 30, 82, 83, 84, 12, 85, 86, 87, 88, 89, 90, 21, 91, 92, 93, 45, 94, 50, 95, 96, 97, 98, 99, 26, 27, 28, 100, 101, 102, 103, 25, 104, 105, 106, 107, 108, 109, 110, 111, 112, 113, 114, 115, 116, 117, 118, 119, 120, 121, 122, 52, 123, 124, 125, 126, 127, 128, 129, 130, 131, 132, 133, 134, 135, 136, 137, 138, 139, 140, 141, 142, 143, 144, 145, 146, 147, 148, 149, 22, 23, 24, 150, 151, 152, 153, 154, 155, 156, 157, 158, 159, 160, 161, 162, 163, 164, 47, 165, 166, 167, 168, 169, 170, 171, 172, 173, 174, 175, 176, 177, 178, 61, 179, 180, 181, 182, 183, 184, 185, 186, 187, 188, 189, 190, 191, 192, 54, 193, 194, 195, 196, 197, 198, 199, 200, 201, 202, 203, 204, 205, 206, 207, 208, 209, 210, 211, 212, 213, 214, 215, 219, 220, 221, 222] (by decide +kernel) (by decide +kernel)) (goodIn_sub (fun _ h => List.mem_cons_of_mem _ (List.mem_append_right _ h)) (by decide +kernel))
set_option maxRecDepth 20000 in
theorem gX5_fail_X5_closeHall : GoodIn wsX5_fail (wsV RX5 288 RX5 yX5_closeHall wsX5_closeHall) := goodIn_app (goodIn_of _ (by decide +kernel)) ggX5_fail_X5_closeHall
theorem dX5_fail_0 : decode cX5_fail 0 = .ok (.aload_n 0, 1) := by decide +kernel
theorem dX5_fail_1 : decode cX5_fail 1 = .ok (.iload_n 1, 1) := by decide +kernel
theorem dX5_fail_2 : decode cX5_fail 2 = .ok (.iload_n 2, 1) := by decide +kernel
theorem dX5_fail_3 : decode cX5_fail 3 = .ok (.invokevirtual 281, 3) := by decide +kernel
theorem dX5_fail_6 : decode cX5_fail 6 = .ok (.istore_n 3, 1) := by decide +kernel
theorem dX5_fail_7 : decode cX5_fail 7 = .ok (.iload_n 3, 1) := by decide +kernel
theorem dX5_fail_8 : decode cX5_fail 8 = .ok (.iconst 1, 1) := by decide +kernel
theorem dX5_fail_9 : decode cX5_fail 9 = .ok (.if_icmp .ne 13, 3) := by decide +kernel
theorem dX5_fail_12 : decode cX5_fail 12 = .ok (.new 119, 3) := by decide +kernel
theorem dX5_fail_15 : decode cX5_fail 15 = .ok (.dup, 1) := by decide +kernel
theorem dX5_fail_16 : decode cX5_fail 16 = .ok (.ldc 159, 2) := by decide +kernel
theorem dX5_fail_18 : decode cX5_fail 18 = .ok (.invokespecial 123, 3) := by decide +kernel
theorem dX5_fail_21 : decode cX5_fail 21 = .ok (.athrow, 1) := by decide +kernel
theorem dX5_fail_22 : decode cX5_fail 22 = .ok (.iload_n 3, 1) := by decide +kernel
theorem dX5_fail_23 : decode cX5_fail 23 = .ok (.iconst 2, 1) := by decide +kernel
theorem dX5_fail_24 : decode cX5_fail 24 = .ok (.if_icmp .ne 14, 3) := by decide +kernel
theorem dX5_fail_27 : decode cX5_fail 27 = .ok (.new 68, 3) := by decide +kernel
theorem dX5_fail_30 : decode cX5_fail 30 = .ok (.dup, 1) := by decide +kernel
theorem dX5_fail_31 : decode cX5_fail 31 = .ok (.ldc_w 284, 3) := by decide +kernel
theorem dX5_fail_34 : decode cX5_fail 34 = .ok (.invokespecial 72, 3) := by decide +kernel
theorem dX5_fail_37 : decode cX5_fail 37 = .ok (.athrow, 1) := by decide +kernel
theorem dX5_fail_38 : decode cX5_fail 38 = .ok (.iload_n 3, 1) := by decide +kernel
theorem dX5_fail_39 : decode cX5_fail 39 = .ok (.iconst 3, 1) := by decide +kernel
theorem dX5_fail_40 : decode cX5_fail 40 = .ok (.if_icmp .ne 14, 3) := by decide +kernel
theorem dX5_fail_43 : decode cX5_fail 43 = .ok (.new 85, 3) := by decide +kernel
theorem dX5_fail_46 : decode cX5_fail 46 = .ok (.dup, 1) := by decide +kernel
theorem dX5_fail_47 : decode cX5_fail 47 = .ok (.ldc_w 286, 3) := by decide +kernel
theorem dX5_fail_50 : decode cX5_fail 50 = .ok (.invokespecial 89, 3) := by decide +kernel
theorem dX5_fail_53 : decode cX5_fail 53 = .ok (.athrow, 1) := by decide +kernel
theorem dX5_fail_54 : decode cX5_fail 54 = .ok (.aload_n 0, 1) := by decide +kernel
theorem dX5_fail_55 : decode cX5_fail 55 = .ok (.getfield 22, 3) := by decide +kernel
theorem dX5_fail_58 : decode cX5_fail 58 = .ok (.aload_n 0, 1) := by decide +kernel
theorem dX5_fail_59 : decode cX5_fail 59 = .ok (.getfield 10, 3) := by decide +kernel
theorem dX5_fail_62 : decode cX5_fail 62 = .ok (.invokevirtual 90, 3) := by decide +kernel
theorem dX5_fail_65 : decode cX5_fail 65 = .ok (.aload_n 0, 1) := by decide +kernel
theorem dX5_fail_66 : decode cX5_fail 66 = .ok (.iload_n 1, 1) := by decide +kernel
theorem dX5_fail_67 : decode cX5_fail 67 = .ok (.iload_n 2, 1) := by decide +kernel
theorem dX5_fail_68 : decode cX5_fail 68 = .ok (.invokevirtual 288, 3) := by decide +kernel
theorem dX5_fail_71 : decode cX5_fail 71 = .ok (.ireturn, 1) := by decide +kernel
set_option maxRecDepth 20000 in
theorem ggX5_reopen_X4_isRow : GoodIn wsX5_reopen wsX4_isRow := goodIn_r _ [12, 13, 85, 86, 87, 88] (by decide +kernel) (by decide +kernel)
set_option maxRecDepth 20000 in
theorem gX5_reopen_X4_isRow : GoodIn wsX5_reopen (wsV RX5 116 RX4 yX4_isRow wsX4_isRow) := goodIn_app (goodIn_of _ (by decide +kernel)) ggX5_reopen_X4_isRow
set_option maxRecDepth 20000 in
theorem ggX5_reopen_X4_get : GoodIn wsX5_reopen wsX4_get := goodIn_ca (goodIn_r _ [17, 18, 19, 85, 86, 87, 88] (by decide +kernel) (by decide +kernel)) (goodIn_sub (fun _ h => List.mem_cons_of_mem _ (List.mem_append_right _ h)) (by decide +kernel))
set_option maxRecDepth 20000 in
theorem gX5_reopen_X4_get : GoodIn wsX5_reopen (wsV RX5 126 RX4 yX4_get wsX4_get) := goodIn_app (goodIn_of _ (by decide +kernel)) ggX5_reopen_X4_get
set_option maxRecDepth 20000 in
theorem ggX5_reopen_X0_keep : GoodIn wsX5_reopen wsX0_keep := goodIn_r _ [24, 25, 26, 27, 23, 28, 29, 30, 31, 32, 33, 34, 35, 36, 37, 38, 39, 40, 41, 42, 43, 44, 45, 46, 11, 47, 13, 19, 48, 49, 50, 51, 52, 53, 54, 55, 56, 57, 58, 59, 60, 61, 89, 90, 91, 77, 78, 79, 80, 81, 82, 83, 84, 85, 86, 87, 88] (by decide +kernel) (by decide +kernel)
set_option maxRecDepth 20000 in
theorem gX5_reopen_X0_keep : GoodIn wsX5_reopen (wsV RX5 90 RX0 yX0_keep wsX0_keep) := goodIn_app (goodIn_of _ (by decide +kernel)) ggX5_reopen_X0_keep
set_option maxRecDepth 20000 in
theorem ggX5_reopen_X4_put : GoodIn wsX5_reopen wsX4_put := goodIn_ca (goodIn_r _ [65, 18, 19, 85, 86, 87, 88] (by decide +kernel) (by decide +kernel)) (goodIn_sub (fun _ h => List.mem_cons_of_mem _ (List.mem_append_right _ h)) (by decide +kernel))
set_option maxRecDepth 20000 in
theorem gX5_reopen_X4_put : GoodIn wsX5_reopen (wsV RX5 97 RX4 yX4_put wsX4_put) := goodIn_app (goodIn_of _ (by decide +kernel)) ggX5_reopen_X4_put
theorem dX5_reopen_0 : decode cX5_reopen 0 = .ok (.aload_n 0, 1) := by decide +kernel
theorem dX5_reopen_1 : decode cX5_reopen 1 = .ok (.getfield 10, 3) := by decide +kernel
theorem dX5_reopen_4 : decode cX5_reopen 4 = .ok (.getfield 75, 3) := by decide +kernel
theorem dX5_reopen_7 : decode cX5_reopen 7 = .ok (.iload_n 1, 1) := by decide +kernel
theorem dX5_reopen_8 : decode cX5_reopen 8 = .ok (.invokevirtual 116, 3) := by decide +kernel
theorem dX5_reopen_11 : decode cX5_reopen 11 = .ok (.ifCond .ne 13, 3) := by decide +kernel
theorem dX5_reopen_14 : decode cX5_reopen 14 = .ok (.new 119, 3) := by decide +kernel
theorem dX5_reopen_17 : decode cX5_reopen 17 = .ok (.dup, 1) := by decide +kernel
theorem dX5_reopen_18 : decode cX5_reopen 18 = .ok (.ldc 159, 2) := by decide +kernel
theorem dX5_reopen_20 : decode cX5_reopen 20 = .ok (.invokespecial 123, 3) := by decide +kernel
theorem dX5_reopen_23 : decode cX5_reopen 23 = .ok (.athrow, 1) := by decide +kernel
theorem dX5_reopen_24 : decode cX5_reopen 24 = .ok (.aload_n 0, 1) := by decide +kernel
theorem dX5_reopen_25 : decode cX5_reopen 25 = .ok (.getfield 10, 3) := by decide +kernel
theorem dX5_reopen_28 : decode cX5_reopen 28 = .ok (.getfield 75, 3) := by decide +kernel
theorem dX5_reopen_31 : decode cX5_reopen 31 = .ok (.iload_n 1, 1) := by decide +kernel
theorem dX5_reopen_32 : decode cX5_reopen 32 = .ok (.iconst 3, 1) := by decide +kernel
theorem dX5_reopen_33 : decode cX5_reopen 33 = .ok (.invokevirtual 126, 3) := by decide +kernel
theorem dX5_reopen_36 : decode cX5_reopen 36 = .ok (.istore_n 2, 1) := by decide +kernel
theorem dX5_reopen_37 : decode cX5_reopen 37 = .ok (.iload_n 2, 1) := by decide +kernel
theorem dX5_reopen_38 : decode cX5_reopen 38 = .ok (.iconst (-1), 1) := by decide +kernel
theorem dX5_reopen_39 : decode cX5_reopen 39 = .ok (.if_icmp .ne 14, 3) := by decide +kernel
theorem dX5_reopen_42 : decode cX5_reopen 42 = .ok (.new 85, 3) := by decide +kernel
theorem dX5_reopen_45 : decode cX5_reopen 45 = .ok (.dup, 1) := by decide +kernel
theorem dX5_reopen_46 : decode cX5_reopen 46 = .ok (.ldc_w 291, 3) := by decide +kernel
theorem dX5_reopen_49 : decode cX5_reopen 49 = .ok (.invokespecial 89, 3) := by decide +kernel
theorem dX5_reopen_52 : decode cX5_reopen 52 = .ok (.athrow, 1) := by decide +kernel
theorem dX5_reopen_53 : decode cX5_reopen 53 = .ok (.aload_n 0, 1) := by decide +kernel
theorem dX5_reopen_54 : decode cX5_reopen 54 = .ok (.getfield 22, 3) := by decide +kernel
theorem dX5_reopen_57 : decode cX5_reopen 57 = .ok (.aload_n 0, 1) := by decide +kernel
theorem dX5_reopen_58 : decode cX5_reopen 58 = .ok (.getfield 10, 3) := by decide +kernel
theorem dX5_reopen_61 : decode cX5_reopen 61 = .ok (.invokevirtual 90, 3) := by decide +kernel
theorem dX5_reopen_64 : decode cX5_reopen 64 = .ok (.aload_n 0, 1) := by decide +kernel
theorem dX5_reopen_65 : decode cX5_reopen 65 = .ok (.getfield 10, 3) := by decide +kernel
theorem dX5_reopen_68 : decode cX5_reopen 68 = .ok (.getfield 75, 3) := by decide +kernel
theorem dX5_reopen_71 : decode cX5_reopen 71 = .ok (.iload_n 1, 1) := by decide +kernel
theorem dX5_reopen_72 : decode cX5_reopen 72 = .ok (.iconst 3, 1) := by decide +kernel
theorem dX5_reopen_73 : decode cX5_reopen 73 = .ok (.iconst (-1), 1) := by decide +kernel
theorem dX5_reopen_74 : decode cX5_reopen 74 = .ok (.invokevirtual 97, 3) := by decide +kernel
theorem dX5_reopen_77 : decode cX5_reopen 77 = .ok (.iload_n 2, 1) := by decide +kernel
theorem dX5_reopen_78 : decode cX5_reopen 78 = .ok (.ireturn, 1) := by decide +kernel
set_option maxRecDepth 20000 in
theorem ggX5_line_X4_isRow : GoodIn wsX5_line wsX4_isRow := goodIn_r _ [11, 12, 42, 43, 44, 45] (by decide +kernel) (by decide +kernel)
set_option maxRecDepth 20000 in
theorem gX5_line_X4_isRow : GoodIn wsX5_line (wsV RX5 116 RX4 yX4_isRow wsX4_isRow) := goodIn_app (goodIn_of _ (by decide +kernel)) ggX5_line_X4_isRow
set_option maxRecDepth 20000 in
theorem ggX5_line_X5_isWithin : GoodIn wsX5_line wsX5_isWithin := goodIn_r _ [16] (by decide +kernel) (by decide +kernel)
set_option maxRecDepth 20000 in
theorem gX5_line_X5_isWithin : GoodIn wsX5_line (va_wsS RX5 64 yX5_isWithin wsX5_isWithin) := goodIn_app (goodIn_of _ (by decide +kernel)) ggX5_line_X5_isWithin
set_option maxRecDepth 20000 in
theorem ggX5_line_X4_get : GoodIn wsX5_line wsX4_get := goodIn_ca (goodIn_r _ [20, 21, 22, 42, 43, 44, 45] (by decide +kernel) (by decide +kernel)) (goodIn_sub (fun _ h => List.mem_cons_of_mem _ (List.mem_append_right _ h)) (by decide +kernel))
set_option maxRecDepth 20000 in
theorem gX5_line_X4_get : GoodIn wsX5_line (wsV RX5 126 RX4 yX4_get wsX4_get) := goodIn_app (goodIn_of _ (by decide +kernel)) ggX5_line_X4_get
theorem dX5_line_0 : decode cX5_line 0 = .ok (.aload_n 0, 1) := by decide +kernel
theorem dX5_line_1 : decode cX5_line 1 = .ok (.getfield 10, 3) := by decide +kernel
theorem dX5_line_4 : decode cX5_line 4 = .ok (.getfield 293, 3) := by decide +kernel
theorem dX5_line_7 : decode cX5_line 7 = .ok (.iload_n 1, 1) := by decide +kernel
theorem dX5_line_8 : decode cX5_line 8 = .ok (.invokevirtual 116, 3) := by decide +kernel
theorem dX5_line_11 : decode cX5_line 11 = .ok (.ifCond .ne 14, 3) := by decide +kernel
theorem dX5_line_14 : decode cX5_line 14 = .ok (.new 171, 3) := by decide +kernel
theorem dX5_line_17 : decode cX5_line 17 = .ok (.dup, 1) := by decide +kernel
theorem dX5_line_18 : decode cX5_line 18 = .ok (.ldc_w 296, 3) := by decide +kernel
theorem dX5_line_21 : decode cX5_line 21 = .ok (.invokespecial 175, 3) := by decide +kernel
theorem dX5_line_24 : decode cX5_line 24 = .ok (.athrow, 1) := by decide +kernel
theorem dX5_line_25 : decode cX5_line 25 = .ok (.iload_n 2, 1) := by decide +kernel
theorem dX5_line_26 : decode cX5_line 26 = .ok (.iconst 0, 1) := by decide +kernel
theorem dX5_line_27 : decode cX5_line 27 = .ok (.iconst 4, 1) := by decide +kernel
theorem dX5_line_28 : decode cX5_line 28 = .ok (.invokestatic 64, 3) := by decide +kernel
theorem dX5_line_31 : decode cX5_line 31 = .ok (.ifCond .ne 14, 3) := by decide +kernel
theorem dX5_line_34 : decode cX5_line 34 = .ok (.new 68, 3) := by decide +kernel
theorem dX5_line_37 : decode cX5_line 37 = .ok (.dup, 1) := by decide +kernel
theorem dX5_line_38 : decode cX5_line 38 = .ok (.ldc_w 298, 3) := by decide +kernel
theorem dX5_line_41 : decode cX5_line 41 = .ok (.invokespecial 72, 3) := by decide +kernel
theorem dX5_line_44 : decode cX5_line 44 = .ok (.athrow, 1) := by decide +kernel
theorem dX5_line_45 : decode cX5_line 45 = .ok (.aload_n 0, 1) := by decide +kernel
theorem dX5_line_46 : decode cX5_line 46 = .ok (.getfield 10, 3) := by decide +kernel
theorem dX5_line_49 : decode cX5_line 49 = .ok (.getfield 293, 3) := by decide +kernel
theorem dX5_line_52 : decode cX5_line 52 = .ok (.iload_n 1, 1) := by decide +kernel
theorem dX5_line_53 : decode cX5_line 53 = .ok (.iload_n 2, 1) := by decide +kernel
theorem dX5_line_54 : decode cX5_line 54 = .ok (.invokevirtual 126, 3) := by decide +kernel
theorem dX5_line_57 : decode cX5_line 57 = .ok (.ireturn, 1) := by decide +kernel
set_option maxRecDepth 20000 in
theorem ggX5_used_X4_isRow : GoodIn wsX5_used wsX4_isRow := goodIn_r _ [12, 13, 89, 90, 91, 92] (by decide +kernel) (by decide +kernel)
set_option maxRecDepth 20000 in
theorem gX5_used_X4_isRow : GoodIn wsX5_used (wsV RX5 116 RX4 yX4_isRow wsX4_isRow) := goodIn_app (goodIn_of _ (by decide +kernel)) ggX5_used_X4_isRow
set_option maxRecDepth 20000 in
theorem ggX5_used_X5_isDay : GoodIn wsX5_used wsX5_isDay := goodIn_r _ [17, 18, 19, 16, 20] (by decide +kernel) (by decide +kernel)
set_option maxRecDepth 20000 in
theorem gX5_used_X5_isDay : GoodIn wsX5_used (va_wsS RX5 108 yX5_isDay wsX5_isDay) := goodIn_app (goodIn_of _ (by decide +kernel)) ggX5_used_X5_isDay
set_option maxRecDepth 20000 in
theorem ggX5_used_X5_isWithin : GoodIn wsX5_used wsX5_isWithin := goodIn_r _ [20] (by decide +kernel) (by decide +kernel)
set_option maxRecDepth 20000 in
theorem gX5_used_X5_isWithin : GoodIn wsX5_used (va_wsS RX5 64 yX5_isWithin wsX5_isWithin) := goodIn_app (goodIn_of _ (by decide +kernel)) ggX5_used_X5_isWithin
set_option maxRecDepth 20000 in
theorem ggX5_used_X3_showAfter : GoodIn wsX5_used wsX3_showAfter := goodIn_ca (goodIn_r _ [25, 26, 27, 28, 29, 11, 30, 13, 31, 32, 33, 34, 35, 36, 37, 38, 39, 24, 40, 81, 82, 83, 84, 85, 86, 87, 88, 89, 90, 91, 92] (by decide +kernel) (by decide +kernel)) (goodIn_sub (fun _ h => List.mem_cons_of_mem _ (List.mem_append_right _ h)) (by decide +kernel))
set_option maxRecDepth 20000 in
theorem gX5_used_X3_showAfter : GoodIn wsX5_used (wsV RX5 302 RX3 yX3_showAfter wsX3_showAfter) := goodIn_app (goodIn_of _ (by decide +kernel)) ggX5_used_X3_showAfter
set_option maxRecDepth 20000 in
theorem ggX5_used_X3_shownMinutes : GoodIn wsX5_used wsX3_shownMinutes := goodIn_ca (goodIn_r _ [44, 26, 27, 28, 29, 11, 30, 13, 37, 38, 39, 24, 40, 31, 32, 33, 34, 35, 36, 45, 46, 47, 48, 81, 82, 83, 84, 85, 86, 87, 88, 89, 90, 91, 92] (by decide +kernel) (by decide +kernel)) (goodIn_sub (fun _ h => List.mem_cons_of_mem _ (List.mem_append_right _ h)) (by decide +kernel))
set_option maxRecDepth 20000 in
theorem gX5_used_X3_shownMinutes : GoodIn wsX5_used (wsV RX5 305 RX3 yX3_shownMinutes wsX3_shownMinutes) := goodIn_app (goodIn_of _ (by decide +kernel)) ggX5_used_X3_shownMinutes
set_option maxRecDepth 20000 in
theorem ggX5_used_X3_cleanedMinutes : GoodIn wsX5_used wsX3_cleanedMinutes := goodIn_ca (goodIn_r _ [52, 26, 53, 54, 55, 56, 27, 28, 29, 11, 30, 13, 37, 38, 39, 24, 40, 31, 32, 33, 34, 35, 36, 57, 58, 59, 60, 61, 81, 82, 83, 84, 85, 86, 87, 88, 89, 90, 91, 92] (by decide +kernel) (by decide +kernel)) (goodIn_sub (fun _ h => List.mem_cons_of_mem _ (List.mem_append_right _ h)) (by decide +kernel))
set_option maxRecDepth 20000 in
theorem gX5_used_X3_cleanedMinutes : GoodIn wsX5_used (wsV RX5 308 RX3 yX3_cleanedMinutes wsX3_cleanedMinutes) := goodIn_app (goodIn_of _ (by decide +kernel)) ggX5_used_X3_cleanedMinutes
set_option maxRecDepth 20000 in
theorem ggX5_used_X4_get : GoodIn wsX5_used wsX4_get := goodIn_ca (goodIn_r _ [34, 35, 36, 89, 90, 91, 92] (by decide +kernel) (by decide +kernel)) (goodIn_sub (fun _ h => List.mem_cons_of_mem _ (List.mem_append_right _ h)) (by decide +kernel))
set_option maxRecDepth 20000 in
theorem gX5_used_X4_get : GoodIn wsX5_used (wsV RX5 126 RX4 yX4_get wsX4_get) := goodIn_app (goodIn_of _ (by decide +kernel)) ggX5_used_X4_get
set_option maxRecDepth 20000 in
theorem ggX5_used_X3_greatestEnd : GoodIn wsX5_used wsX3_greatestEnd := goodIn_ca (goodIn_r _ [66, 26, 67, 68, 55, 69, 27, 28, 29, 11, 30, 13, 37, 38, 39, 24, 40, 31, 32, 33, 34, 35, 36, 81, 82, 83, 84, 85, 86, 87, 88, 89, 90, 91, 92] (by decide +kernel) (by decide +kernel)) (goodIn_sub (fun _ h => List.mem_cons_of_mem _ (List.mem_append_right _ h)) (by decide +kernel))
set_option maxRecDepth 20000 in
theorem gX5_used_X3_greatestEnd : GoodIn wsX5_used (wsV RX5 311 RX3 yX3_greatestEnd wsX3_greatestEnd) := goodIn_app (goodIn_of _ (by decide +kernel)) ggX5_used_X3_greatestEnd
theorem dX5_used_0 : decode cX5_used 0 = .ok (.aload_n 0, 1) := by decide +kernel
theorem dX5_used_1 : decode cX5_used 1 = .ok (.getfield 10, 3) := by decide +kernel
theorem dX5_used_4 : decode cX5_used 4 = .ok (.getfield 75, 3) := by decide +kernel
theorem dX5_used_7 : decode cX5_used 7 = .ok (.iload_n 1, 1) := by decide +kernel
theorem dX5_used_8 : decode cX5_used 8 = .ok (.invokevirtual 116, 3) := by decide +kernel
theorem dX5_used_11 : decode cX5_used 11 = .ok (.ifCond .ne 13, 3) := by decide +kernel
theorem dX5_used_14 : decode cX5_used 14 = .ok (.new 119, 3) := by decide +kernel
theorem dX5_used_17 : decode cX5_used 17 = .ok (.dup, 1) := by decide +kernel
theorem dX5_used_18 : decode cX5_used 18 = .ok (.ldc 159, 2) := by decide +kernel
theorem dX5_used_20 : decode cX5_used 20 = .ok (.invokespecial 123, 3) := by decide +kernel
theorem dX5_used_23 : decode cX5_used 23 = .ok (.athrow, 1) := by decide +kernel
theorem dX5_used_24 : decode cX5_used 24 = .ok (.iload_n 2, 1) := by decide +kernel
theorem dX5_used_25 : decode cX5_used 25 = .ok (.invokestatic 108, 3) := by decide +kernel
theorem dX5_used_28 : decode cX5_used 28 = .ok (.ifCond .eq 12, 3) := by decide +kernel
theorem dX5_used_31 : decode cX5_used 31 = .ok (.iload_n 3, 1) := by decide +kernel
theorem dX5_used_32 : decode cX5_used 32 = .ok (.iconst 0, 1) := by decide +kernel
theorem dX5_used_33 : decode cX5_used 33 = .ok (.iconst 4, 1) := by decide +kernel
theorem dX5_used_34 : decode cX5_used 34 = .ok (.invokestatic 64, 3) := by decide +kernel
theorem dX5_used_37 : decode cX5_used 37 = .ok (.ifCond .ne 14, 3) := by decide +kernel
theorem dX5_used_40 : decode cX5_used 40 = .ok (.new 68, 3) := by decide +kernel
theorem dX5_used_43 : decode cX5_used 43 = .ok (.dup, 1) := by decide +kernel
theorem dX5_used_44 : decode cX5_used 44 = .ok (.ldc_w 300, 3) := by decide +kernel
theorem dX5_used_47 : decode cX5_used 47 = .ok (.invokespecial 72, 3) := by decide +kernel
theorem dX5_used_50 : decode cX5_used 50 = .ok (.athrow, 1) := by decide +kernel
theorem dX5_used_51 : decode cX5_used 51 = .ok (.aload_n 0, 1) := by decide +kernel
theorem dX5_used_52 : decode cX5_used 52 = .ok (.getfield 10, 3) := by decide +kernel
theorem dX5_used_55 : decode cX5_used 55 = .ok (.iload_n 1, 1) := by decide +kernel
theorem dX5_used_56 : decode cX5_used 56 = .ok (.iload_n 2, 1) := by decide +kernel
theorem dX5_used_57 : decode cX5_used 57 = .ok (.iconst (-1), 1) := by decide +kernel
theorem dX5_used_58 : decode cX5_used 58 = .ok (.invokevirtual 302, 3) := by decide +kernel
theorem dX5_used_61 : decode cX5_used 61 = .ok (.istore 4, 2) := by decide +kernel
theorem dX5_used_63 : decode cX5_used 63 = .ok (.iload_n 3, 1) := by decide +kernel
theorem dX5_used_64 : decode cX5_used 64 = .ok (.tableswitch 100 0 3 #[32, 42, 52, 76], 32) := by decide +kernel
theorem dX5_used_96 : decode cX5_used 96 = .ok (.aload_n 0, 1) := by decide +kernel
theorem dX5_used_97 : decode cX5_used 97 = .ok (.getfield 10, 3) := by decide +kernel
theorem dX5_used_100 : decode cX5_used 100 = .ok (.iload_n 1, 1) := by decide +kernel
theorem dX5_used_101 : decode cX5_used 101 = .ok (.iload_n 2, 1) := by decide +kernel
theorem dX5_used_102 : decode cX5_used 102 = .ok (.invokevirtual 305, 3) := by decide +kernel
theorem dX5_used_105 : decode cX5_used 105 = .ok (.ireturn, 1) := by decide +kernel
theorem dX5_used_106 : decode cX5_used 106 = .ok (.aload_n 0, 1) := by decide +kernel
theorem dX5_used_107 : decode cX5_used 107 = .ok (.getfield 10, 3) := by decide +kernel
theorem dX5_used_110 : decode cX5_used 110 = .ok (.iload_n 1, 1) := by decide +kernel
theorem dX5_used_111 : decode cX5_used 111 = .ok (.iload_n 2, 1) := by decide +kernel
theorem dX5_used_112 : decode cX5_used 112 = .ok (.invokevirtual 308, 3) := by decide +kernel
theorem dX5_used_115 : decode cX5_used 115 = .ok (.ireturn, 1) := by decide +kernel
theorem dX5_used_116 : decode cX5_used 116 = .ok (.sipush 960, 3) := by decide +kernel
theorem dX5_used_119 : decode cX5_used 119 = .ok (.aload_n 0, 1) := by decide +kernel
theorem dX5_used_120 : decode cX5_used 120 = .ok (.getfield 10, 3) := by decide +kernel
theorem dX5_used_123 : decode cX5_used 123 = .ok (.iload_n 1, 1) := by decide +kernel
theorem dX5_used_124 : decode cX5_used 124 = .ok (.iload_n 2, 1) := by decide +kernel
theorem dX5_used_125 : decode cX5_used 125 = .ok (.invokevirtual 305, 3) := by decide +kernel
theorem dX5_used_128 : decode cX5_used 128 = .ok (.isub, 1) := by decide +kernel
theorem dX5_used_129 : decode cX5_used 129 = .ok (.aload_n 0, 1) := by decide +kernel
theorem dX5_used_130 : decode cX5_used 130 = .ok (.getfield 10, 3) := by decide +kernel
theorem dX5_used_133 : decode cX5_used 133 = .ok (.iload_n 1, 1) := by decide +kernel
theorem dX5_used_134 : decode cX5_used 134 = .ok (.iload_n 2, 1) := by decide +kernel
theorem dX5_used_135 : decode cX5_used 135 = .ok (.invokevirtual 308, 3) := by decide +kernel
theorem dX5_used_138 : decode cX5_used 138 = .ok (.isub, 1) := by decide +kernel
theorem dX5_used_139 : decode cX5_used 139 = .ok (.ireturn, 1) := by decide +kernel
theorem dX5_used_140 : decode cX5_used 140 = .ok (.iload 4, 2) := by decide +kernel
theorem dX5_used_142 : decode cX5_used 142 = .ok (.iconst (-1), 1) := by decide +kernel
theorem dX5_used_143 : decode cX5_used 143 = .ok (.if_icmp .ne 7, 3) := by decide +kernel
theorem dX5_used_146 : decode cX5_used 146 = .ok (.iconst (-1), 1) := by decide +kernel
theorem dX5_used_147 : decode cX5_used 147 = .ok (.goto 16, 3) := by decide +kernel
theorem dX5_used_150 : decode cX5_used 150 = .ok (.aload_n 0, 1) := by decide +kernel
theorem dX5_used_151 : decode cX5_used 151 = .ok (.getfield 10, 3) := by decide +kernel
theorem dX5_used_154 : decode cX5_used 154 = .ok (.getfield 210, 3) := by decide +kernel
theorem dX5_used_157 : decode cX5_used 157 = .ok (.iload 4, 2) := by decide +kernel
theorem dX5_used_159 : decode cX5_used 159 = .ok (.iconst 3, 1) := by decide +kernel
theorem dX5_used_160 : decode cX5_used 160 = .ok (.invokevirtual 126, 3) := by decide +kernel
theorem dX5_used_163 : decode cX5_used 163 = .ok (.ireturn, 1) := by decide +kernel
theorem dX5_used_164 : decode cX5_used 164 = .ok (.aload_n 0, 1) := by decide +kernel
theorem dX5_used_165 : decode cX5_used 165 = .ok (.getfield 10, 3) := by decide +kernel
theorem dX5_used_168 : decode cX5_used 168 = .ok (.iload_n 1, 1) := by decide +kernel
theorem dX5_used_169 : decode cX5_used 169 = .ok (.iload_n 2, 1) := by decide +kernel
theorem dX5_used_170 : decode cX5_used 170 = .ok (.invokevirtual 311, 3) := by decide +kernel
theorem dX5_used_173 : decode cX5_used 173 = .ok (.ireturn, 1) := by decide +kernel
set_option maxRecDepth 20000 in
theorem ggX5_at_X5_isDay : GoodIn wsX5_at wsX5_isDay := goodIn_r _ [7, 8, 9, 6, 10] (by decide +kernel) (by decide +kernel)
set_option maxRecDepth 20000 in
theorem gX5_at_X5_isDay : GoodIn wsX5_at (va_wsS RX5 108 yX5_isDay wsX5_isDay) := goodIn_app (goodIn_of _ (by decide +kernel)) ggX5_at_X5_isDay
set_option maxRecDepth 20000 in
theorem ggX5_at_X5_isWithin : GoodIn wsX5_at wsX5_isWithin := goodIn_r _ [10] (by decide +kernel) (by decide +kernel)
set_option maxRecDepth 20000 in
theorem gX5_at_X5_isWithin : GoodIn wsX5_at (va_wsS RX5 64 yX5_isWithin wsX5_isWithin) := goodIn_app (goodIn_of _ (by decide +kernel)) ggX5_at_X5_isWithin
set_option maxRecDepth 20000 in
theorem ggX5_at_X3_running : GoodIn wsX5_at wsX3_running := goodIn_ca (goodIn_r _ [15, 16, 17, 18, 19, 20, 21, 22, 23, 24, 25, 14, 26, 27, 28, 29, 30, 31, 32, 33, 34, 35, 36, 37, 38, 39, 40, 41, 42, 43, 44, 45, 46, 47, 48, 49, 50, 51, 52, 53, 54, 55, 56, 57, 58, 59, 60, 61, 62, 63, 64, 65, 66, 90, 91, 92, 93, 94, 95, 96, 97, 98, 99, 100, 101] (by decide +kernel) (by decide +kernel)) (goodIn_sub (fun _ h => List.mem_cons_of_mem _ (List.mem_append_right _ h)) (by decide +kernel))
set_option maxRecDepth 20000 in
theorem gX5_at_X3_running : GoodIn wsX5_at (wsV RX5 314 RX3 yX3_running wsX3_running) := goodIn_app (goodIn_of _ (by decide +kernel)) ggX5_at_X3_running
set_option maxRecDepth 20000 in
theorem ggX5_at_X3_cleanedHalls : GoodIn wsX5_at wsX3_cleanedHalls := goodIn_ca (goodIn_r _ [70, 16, 17, 18, 19, 20, 21, 22, 27, 28, 29, 30, 31, 32, 71, 72, 73, 14, 74, 66, 33, 34, 35, 36, 90, 91, 92, 93, 94, 95, 96, 97, 98, 99, 100, 101] (by decide +kernel) (by decide +kernel)) (goodIn_sub (fun _ h => List.mem_cons_of_mem _ (List.mem_append_right _ h)) (by decide +kernel))
set_option maxRecDepth 20000 in
theorem gX5_at_X3_cleanedHalls : GoodIn wsX5_at (wsV RX5 317 RX3 yX3_cleanedHalls wsX3_cleanedHalls) := goodIn_app (goodIn_of _ (by decide +kernel)) ggX5_at_X3_cleanedHalls
set_option maxRecDepth 20000 in
theorem ggX5_at_X3_firstRunning : GoodIn wsX5_at wsX3_firstRunning := goodIn_ca (goodIn_r _ [78, 16, 17, 18, 19, 20, 21, 22, 23, 24, 25, 14, 26, 27, 28, 29, 30, 31, 32, 33, 34, 35, 36, 90, 91, 92, 93, 94, 95, 96, 97, 98, 99, 100, 101] (by decide +kernel) (by decide +kernel)) (goodIn_sub (fun _ h => List.mem_cons_of_mem _ (List.mem_append_right _ h)) (by decide +kernel))
set_option maxRecDepth 20000 in
theorem gX5_at_X3_firstRunning : GoodIn wsX5_at (wsV RX5 320 RX3 yX3_firstRunning wsX3_firstRunning) := goodIn_app (goodIn_of _ (by decide +kernel)) ggX5_at_X3_firstRunning
theorem dX5_at_0 : decode cX5_at 0 = .ok (.iload_n 1, 1) := by decide +kernel
theorem dX5_at_1 : decode cX5_at 1 = .ok (.invokestatic 108, 3) := by decide +kernel
theorem dX5_at_4 : decode cX5_at 4 = .ok (.ifCond .eq 23, 3) := by decide +kernel
theorem dX5_at_7 : decode cX5_at 7 = .ok (.iload_n 2, 1) := by decide +kernel
theorem dX5_at_8 : decode cX5_at 8 = .ok (.iconst 0, 1) := by decide +kernel
theorem dX5_at_9 : decode cX5_at 9 = .ok (.sipush 1200, 3) := by decide +kernel
theorem dX5_at_12 : decode cX5_at 12 = .ok (.invokestatic 64, 3) := by decide +kernel
theorem dX5_at_15 : decode cX5_at 15 = .ok (.ifCond .eq 12, 3) := by decide +kernel
theorem dX5_at_18 : decode cX5_at 18 = .ok (.iload_n 3, 1) := by decide +kernel
theorem dX5_at_19 : decode cX5_at 19 = .ok (.iconst 0, 1) := by decide +kernel
theorem dX5_at_20 : decode cX5_at 20 = .ok (.iconst 3, 1) := by decide +kernel
theorem dX5_at_21 : decode cX5_at 21 = .ok (.invokestatic 64, 3) := by decide +kernel
theorem dX5_at_24 : decode cX5_at 24 = .ok (.ifCond .ne 13, 3) := by decide +kernel
theorem dX5_at_27 : decode cX5_at 27 = .ok (.new 68, 3) := by decide +kernel
theorem dX5_at_30 : decode cX5_at 30 = .ok (.dup, 1) := by decide +kernel
theorem dX5_at_31 : decode cX5_at 31 = .ok (.ldc 70, 2) := by decide +kernel
theorem dX5_at_33 : decode cX5_at 33 = .ok (.invokespecial 72, 3) := by decide +kernel
theorem dX5_at_36 : decode cX5_at 36 = .ok (.athrow, 1) := by decide +kernel
theorem dX5_at_37 : decode cX5_at 37 = .ok (.iload_n 3, 1) := by decide +kernel
theorem dX5_at_38 : decode cX5_at 38 = .ok (.tableswitch 58 0 2 #[26, 37, 47], 26) := by decide +kernel
theorem dX5_at_64 : decode cX5_at 64 = .ok (.aload_n 0, 1) := by decide +kernel
theorem dX5_at_65 : decode cX5_at 65 = .ok (.getfield 10, 3) := by decide +kernel
theorem dX5_at_68 : decode cX5_at 68 = .ok (.iconst 0, 1) := by decide +kernel
theorem dX5_at_69 : decode cX5_at 69 = .ok (.iload_n 1, 1) := by decide +kernel
theorem dX5_at_70 : decode cX5_at 70 = .ok (.iload_n 2, 1) := by decide +kernel
theorem dX5_at_71 : decode cX5_at 71 = .ok (.invokevirtual 314, 3) := by decide +kernel
theorem dX5_at_74 : decode cX5_at 74 = .ok (.ireturn, 1) := by decide +kernel
theorem dX5_at_75 : decode cX5_at 75 = .ok (.aload_n 0, 1) := by decide +kernel
theorem dX5_at_76 : decode cX5_at 76 = .ok (.getfield 10, 3) := by decide +kernel
theorem dX5_at_79 : decode cX5_at 79 = .ok (.iload_n 1, 1) := by decide +kernel
theorem dX5_at_80 : decode cX5_at 80 = .ok (.iload_n 2, 1) := by decide +kernel
theorem dX5_at_81 : decode cX5_at 81 = .ok (.invokevirtual 317, 3) := by decide +kernel
theorem dX5_at_84 : decode cX5_at 84 = .ok (.ireturn, 1) := by decide +kernel
theorem dX5_at_85 : decode cX5_at 85 = .ok (.aload_n 0, 1) := by decide +kernel
theorem dX5_at_86 : decode cX5_at 86 = .ok (.getfield 10, 3) := by decide +kernel
theorem dX5_at_89 : decode cX5_at 89 = .ok (.iconst 5, 1) := by decide +kernel
theorem dX5_at_90 : decode cX5_at 90 = .ok (.iload_n 1, 1) := by decide +kernel
theorem dX5_at_91 : decode cX5_at 91 = .ok (.iload_n 2, 1) := by decide +kernel
theorem dX5_at_92 : decode cX5_at 92 = .ok (.invokevirtual 314, 3) := by decide +kernel
theorem dX5_at_95 : decode cX5_at 95 = .ok (.ireturn, 1) := by decide +kernel
theorem dX5_at_96 : decode cX5_at 96 = .ok (.aload_n 0, 1) := by decide +kernel
theorem dX5_at_97 : decode cX5_at 97 = .ok (.getfield 10, 3) := by decide +kernel
theorem dX5_at_100 : decode cX5_at 100 = .ok (.iload_n 1, 1) := by decide +kernel
theorem dX5_at_101 : decode cX5_at 101 = .ok (.iload_n 2, 1) := by decide +kernel
theorem dX5_at_102 : decode cX5_at 102 = .ok (.invokevirtual 320, 3) := by decide +kernel
theorem dX5_at_105 : decode cX5_at 105 = .ok (.ireturn, 1) := by decide +kernel
theorem dX5_refusal_0 : decode cX5_refusal 0 = .ok (.aload_n 0, 1) := by decide +kernel
theorem dX5_refusal_1 : decode cX5_refusal 1 = .ok (.getfield 54, 3) := by decide +kernel
theorem dX5_refusal_4 : decode cX5_refusal 4 = .ok (.iconst (-1), 1) := by decide +kernel
theorem dX5_refusal_5 : decode cX5_refusal 5 = .ok (.if_icmp .ne 14, 3) := by decide +kernel
theorem dX5_refusal_8 : decode cX5_refusal 8 = .ok (.new 171, 3) := by decide +kernel
theorem dX5_refusal_11 : decode cX5_refusal 11 = .ok (.dup, 1) := by decide +kernel
theorem dX5_refusal_12 : decode cX5_refusal 12 = .ok (.ldc_w 323, 3) := by decide +kernel
theorem dX5_refusal_15 : decode cX5_refusal 15 = .ok (.invokespecial 175, 3) := by decide +kernel
theorem dX5_refusal_18 : decode cX5_refusal 18 = .ok (.athrow, 1) := by decide +kernel
theorem dX5_refusal_19 : decode cX5_refusal 19 = .ok (.iload_n 1, 1) := by decide +kernel
theorem dX5_refusal_20 : decode cX5_refusal 20 = .ok (.ifCond .eq 10, 3) := by decide +kernel
theorem dX5_refusal_23 : decode cX5_refusal 23 = .ok (.aload_n 0, 1) := by decide +kernel
theorem dX5_refusal_24 : decode cX5_refusal 24 = .ok (.getfield 58, 3) := by decide +kernel
theorem dX5_refusal_27 : decode cX5_refusal 27 = .ok (.goto 7, 3) := by decide +kernel
theorem dX5_refusal_30 : decode cX5_refusal 30 = .ok (.aload_n 0, 1) := by decide +kernel
theorem dX5_refusal_31 : decode cX5_refusal 31 = .ok (.getfield 54, 3) := by decide +kernel
theorem dX5_refusal_34 : decode cX5_refusal 34 = .ok (.ireturn, 1) := by decide +kernel
set_option maxRecDepth 20000 in
theorem ggX5_advance_X5_faultOfAdvance : GoodIn wsX5_advance wsX5_faultOfAdvance := goodIn_r _ [10, 4, 5, 11, 12, 9, 13, 59, 60, 61, 62, 63, 64, 65, 66, 67, 68, 69, 70, 71, 72, 73, 74, 75, 76, 77] (by decide +kernel) (by decide +kernel)
set_option maxRecDepth 20000 in
theorem gX5_advance_X5_faultOfAdvance : GoodIn wsX5_advance (wsV RX5 325 RX5 yX5_faultOfAdvance wsX5_faultOfAdvance) := goodIn_app (goodIn_of _ (by decide +kernel)) ggX5_advance_X5_faultOfAdvance
set_option maxRecDepth 20000 in
theorem ggX5_advance_X0_keep : GoodIn wsX5_advance wsX0_keep := goodIn_r _ [18, 19, 20, 21, 17, 22, 23, 24, 25, 26, 27, 28, 29, 30, 31, 32, 33, 34, 35, 36, 37, 38, 39, 40, 41, 42, 43, 44, 45, 46, 47, 48, 49, 50, 51, 52, 53, 54, 55, 56, 57, 58, 78, 79, 80, 70, 71, 72, 73, 74, 75, 76, 77, 81, 82, 83, 84] (by decide +kernel) (by decide +kernel)
set_option maxRecDepth 20000 in
theorem gX5_advance_X0_keep : GoodIn wsX5_advance (wsV RX5 90 RX0 yX0_keep wsX0_keep) := goodIn_app (goodIn_of _ (by decide +kernel)) ggX5_advance_X0_keep
theorem dX5_advance_0 : decode cX5_advance 0 = .ok (.aload_n 0, 1) := by decide +kernel
theorem dX5_advance_1 : decode cX5_advance 1 = .ok (.iload_n 1, 1) := by decide +kernel
theorem dX5_advance_2 : decode cX5_advance 2 = .ok (.invokevirtual 325, 3) := by decide +kernel
theorem dX5_advance_5 : decode cX5_advance 5 = .ok (.ifCond .eq 14, 3) := by decide +kernel
theorem dX5_advance_8 : decode cX5_advance 8 = .ok (.new 68, 3) := by decide +kernel
theorem dX5_advance_11 : decode cX5_advance 11 = .ok (.dup, 1) := by decide +kernel
theorem dX5_advance_12 : decode cX5_advance 12 = .ok (.ldc_w 328, 3) := by decide +kernel
theorem dX5_advance_15 : decode cX5_advance 15 = .ok (.invokespecial 72, 3) := by decide +kernel
theorem dX5_advance_18 : decode cX5_advance 18 = .ok (.athrow, 1) := by decide +kernel
theorem dX5_advance_19 : decode cX5_advance 19 = .ok (.aload_n 0, 1) := by decide +kernel
theorem dX5_advance_20 : decode cX5_advance 20 = .ok (.getfield 22, 3) := by decide +kernel
theorem dX5_advance_23 : decode cX5_advance 23 = .ok (.aload_n 0, 1) := by decide +kernel
theorem dX5_advance_24 : decode cX5_advance 24 = .ok (.getfield 10, 3) := by decide +kernel
theorem dX5_advance_27 : decode cX5_advance 27 = .ok (.invokevirtual 90, 3) := by decide +kernel
theorem dX5_advance_30 : decode cX5_advance 30 = .ok (.aload_n 0, 1) := by decide +kernel
theorem dX5_advance_31 : decode cX5_advance 31 = .ok (.getfield 10, 3) := by decide +kernel
theorem dX5_advance_34 : decode cX5_advance 34 = .ok (.dup, 1) := by decide +kernel
theorem dX5_advance_35 : decode cX5_advance 35 = .ok (.getfield 330, 3) := by decide +kernel
theorem dX5_advance_38 : decode cX5_advance 38 = .ok (.iload_n 1, 1) := by decide +kernel
theorem dX5_advance_39 : decode cX5_advance 39 = .ok (.iadd, 1) := by decide +kernel
theorem dX5_advance_40 : decode cX5_advance 40 = .ok (.putfield 330, 3) := by decide +kernel
theorem dX5_advance_43 : decode cX5_advance 43 = .ok (.aload_n 0, 1) := by decide +kernel
theorem dX5_advance_44 : decode cX5_advance 44 = .ok (.getfield 10, 3) := by decide +kernel
theorem dX5_advance_47 : decode cX5_advance 47 = .ok (.getfield 330, 3) := by decide +kernel
theorem dX5_advance_50 : decode cX5_advance 50 = .ok (.ireturn, 1) := by decide +kernel
set_option maxRecDepth 20000 in
theorem ggX5_account_X5_isWithin : GoodIn wsX5_account wsX5_isWithin := goodIn_r _ [13] (by decide +kernel) (by decide +kernel)
set_option maxRecDepth 20000 in
theorem gX5_account_X5_isWithin : GoodIn wsX5_account (va_wsS RX5 64 yX5_isWithin wsX5_isWithin) := goodIn_app (goodIn_of _ (by decide +kernel)) ggX5_account_X5_isWithin
set_option maxRecDepth 20000 in
theorem ggX5_account_X4_size : GoodIn wsX5_account wsX4_size := goodIn_r _ [18, 19, 86, 87, 88, 89] (by decide +kernel) (by decide +kernel)
set_option maxRecDepth 20000 in
theorem gX5_account_X4_size : GoodIn wsX5_account (wsV RX5 79 RX4 yX4_size wsX4_size) := goodIn_app (goodIn_of _ (by decide +kernel)) ggX5_account_X4_size
set_option maxRecDepth 20000 in
theorem ggX5_account_X3_total : GoodIn wsX5_account wsX3_total := goodIn_ca (goodIn_r _ [24, 25, 26, 15, 16, 17, 18, 19, 27, 28, 29, 30, 31, 32, 33, 34, 35, 23, 36, 37, 38, 39, 40, 41, 42, 43, 44, 45, 46, 47, 48, 49, 50, 51, 52, 53, 54, 55, 56, 57, 58, 59, 60, 61, 62, 63, 64, 65, 66, 78, 79, 80, 81, 82, 83, 84, 85, 86, 87, 88, 89] (by decide +kernel) (by decide +kernel)) (goodIn_sub (fun _ h => List.mem_cons_of_mem _ (List.mem_append_right _ h)) (by decide +kernel))
set_option maxRecDepth 20000 in
theorem gX5_account_X3_total : GoodIn wsX5_account (wsV RX5 163 RX3 yX3_total wsX3_total) := goodIn_app (goodIn_of _ (by decide +kernel)) ggX5_account_X3_total
theorem dX5_account_0 : decode cX5_account 0 = .ok (.iload_n 1, 1) := by decide +kernel
theorem dX5_account_1 : decode cX5_account 1 = .ok (.iconst 0, 1) := by decide +kernel
theorem dX5_account_2 : decode cX5_account 2 = .ok (.bipush 11, 2) := by decide +kernel
theorem dX5_account_4 : decode cX5_account 4 = .ok (.invokestatic 64, 3) := by decide +kernel
theorem dX5_account_7 : decode cX5_account 7 = .ok (.ifCond .ne 13, 3) := by decide +kernel
theorem dX5_account_10 : decode cX5_account 10 = .ok (.new 68, 3) := by decide +kernel
theorem dX5_account_13 : decode cX5_account 13 = .ok (.dup, 1) := by decide +kernel
theorem dX5_account_14 : decode cX5_account 14 = .ok (.ldc 167, 2) := by decide +kernel
theorem dX5_account_16 : decode cX5_account 16 = .ok (.invokespecial 72, 3) := by decide +kernel
theorem dX5_account_19 : decode cX5_account 19 = .ok (.athrow, 1) := by decide +kernel
theorem dX5_account_20 : decode cX5_account 20 = .ok (.iload_n 1, 1) := by decide +kernel
theorem dX5_account_21 : decode cX5_account 21 = .ok (.tableswitch 199 0 10 #[59, 70, 81, 92, 103, 125, 136, 147, 158, 180, 188], 59) := by decide +kernel
theorem dX5_account_80 : decode cX5_account 80 = .ok (.aload_n 0, 1) := by decide +kernel
theorem dX5_account_81 : decode cX5_account 81 = .ok (.getfield 10, 3) := by decide +kernel
theorem dX5_account_84 : decode cX5_account 84 = .ok (.getfield 75, 3) := by decide +kernel
theorem dX5_account_87 : decode cX5_account 87 = .ok (.invokevirtual 79, 3) := by decide +kernel
theorem dX5_account_90 : decode cX5_account 90 = .ok (.ireturn, 1) := by decide +kernel
theorem dX5_account_91 : decode cX5_account 91 = .ok (.aload_n 0, 1) := by decide +kernel
theorem dX5_account_92 : decode cX5_account 92 = .ok (.getfield 10, 3) := by decide +kernel
theorem dX5_account_95 : decode cX5_account 95 = .ok (.getfield 111, 3) := by decide +kernel
theorem dX5_account_98 : decode cX5_account 98 = .ok (.invokevirtual 79, 3) := by decide +kernel
theorem dX5_account_101 : decode cX5_account 101 = .ok (.ireturn, 1) := by decide +kernel
theorem dX5_account_102 : decode cX5_account 102 = .ok (.aload_n 0, 1) := by decide +kernel
theorem dX5_account_103 : decode cX5_account 103 = .ok (.getfield 10, 3) := by decide +kernel
theorem dX5_account_106 : decode cX5_account 106 = .ok (.getfield 130, 3) := by decide +kernel
theorem dX5_account_109 : decode cX5_account 109 = .ok (.invokevirtual 79, 3) := by decide +kernel
theorem dX5_account_112 : decode cX5_account 112 = .ok (.ireturn, 1) := by decide +kernel
theorem dX5_account_113 : decode cX5_account 113 = .ok (.aload_n 0, 1) := by decide +kernel
theorem dX5_account_114 : decode cX5_account 114 = .ok (.getfield 10, 3) := by decide +kernel
theorem dX5_account_117 : decode cX5_account 117 = .ok (.getfield 210, 3) := by decide +kernel
theorem dX5_account_120 : decode cX5_account 120 = .ok (.invokevirtual 79, 3) := by decide +kernel
theorem dX5_account_123 : decode cX5_account 123 = .ok (.ireturn, 1) := by decide +kernel
theorem dX5_account_124 : decode cX5_account 124 = .ok (.aload_n 0, 1) := by decide +kernel
theorem dX5_account_125 : decode cX5_account 125 = .ok (.getfield 10, 3) := by decide +kernel
theorem dX5_account_128 : decode cX5_account 128 = .ok (.getfield 210, 3) := by decide +kernel
theorem dX5_account_131 : decode cX5_account 131 = .ok (.invokevirtual 79, 3) := by decide +kernel
theorem dX5_account_134 : decode cX5_account 134 = .ok (.aload_n 0, 1) := by decide +kernel
theorem dX5_account_135 : decode cX5_account 135 = .ok (.getfield 10, 3) := by decide +kernel
theorem dX5_account_138 : decode cX5_account 138 = .ok (.iconst 0, 1) := by decide +kernel
theorem dX5_account_139 : decode cX5_account 139 = .ok (.iconst (-1), 1) := by decide +kernel
theorem dX5_account_140 : decode cX5_account 140 = .ok (.iconst 0, 1) := by decide +kernel
theorem dX5_account_141 : decode cX5_account 141 = .ok (.invokevirtual 163, 3) := by decide +kernel
theorem dX5_account_144 : decode cX5_account 144 = .ok (.isub, 1) := by decide +kernel
theorem dX5_account_145 : decode cX5_account 145 = .ok (.ireturn, 1) := by decide +kernel
theorem dX5_account_146 : decode cX5_account 146 = .ok (.aload_n 0, 1) := by decide +kernel
theorem dX5_account_147 : decode cX5_account 147 = .ok (.getfield 10, 3) := by decide +kernel
theorem dX5_account_150 : decode cX5_account 150 = .ok (.iconst 2, 1) := by decide +kernel
theorem dX5_account_151 : decode cX5_account 151 = .ok (.iconst (-1), 1) := by decide +kernel
theorem dX5_account_152 : decode cX5_account 152 = .ok (.iconst 0, 1) := by decide +kernel
theorem dX5_account_153 : decode cX5_account 153 = .ok (.invokevirtual 163, 3) := by decide +kernel
theorem dX5_account_156 : decode cX5_account 156 = .ok (.ireturn, 1) := by decide +kernel
theorem dX5_account_157 : decode cX5_account 157 = .ok (.aload_n 0, 1) := by decide +kernel
theorem dX5_account_158 : decode cX5_account 158 = .ok (.getfield 10, 3) := by decide +kernel
theorem dX5_account_161 : decode cX5_account 161 = .ok (.iconst 3, 1) := by decide +kernel
theorem dX5_account_162 : decode cX5_account 162 = .ok (.iconst (-1), 1) := by decide +kernel
theorem dX5_account_163 : decode cX5_account 163 = .ok (.iconst 0, 1) := by decide +kernel
theorem dX5_account_164 : decode cX5_account 164 = .ok (.invokevirtual 163, 3) := by decide +kernel
theorem dX5_account_167 : decode cX5_account 167 = .ok (.ireturn, 1) := by decide +kernel
theorem dX5_account_168 : decode cX5_account 168 = .ok (.aload_n 0, 1) := by decide +kernel
theorem dX5_account_169 : decode cX5_account 169 = .ok (.getfield 10, 3) := by decide +kernel
theorem dX5_account_172 : decode cX5_account 172 = .ok (.iconst 4, 1) := by decide +kernel
theorem dX5_account_173 : decode cX5_account 173 = .ok (.iconst (-1), 1) := by decide +kernel
theorem dX5_account_174 : decode cX5_account 174 = .ok (.iconst 0, 1) := by decide +kernel
theorem dX5_account_175 : decode cX5_account 175 = .ok (.invokevirtual 163, 3) := by decide +kernel
theorem dX5_account_178 : decode cX5_account 178 = .ok (.ireturn, 1) := by decide +kernel
theorem dX5_account_179 : decode cX5_account 179 = .ok (.aload_n 0, 1) := by decide +kernel
theorem dX5_account_180 : decode cX5_account 180 = .ok (.getfield 10, 3) := by decide +kernel
theorem dX5_account_183 : decode cX5_account 183 = .ok (.iconst 3, 1) := by decide +kernel
theorem dX5_account_184 : decode cX5_account 184 = .ok (.iconst (-1), 1) := by decide +kernel
theorem dX5_account_185 : decode cX5_account 185 = .ok (.iconst 0, 1) := by decide +kernel
theorem dX5_account_186 : decode cX5_account 186 = .ok (.invokevirtual 163, 3) := by decide +kernel
theorem dX5_account_189 : decode cX5_account 189 = .ok (.aload_n 0, 1) := by decide +kernel
theorem dX5_account_190 : decode cX5_account 190 = .ok (.getfield 10, 3) := by decide +kernel
theorem dX5_account_193 : decode cX5_account 193 = .ok (.iconst 4, 1) := by decide +kernel
theorem dX5_account_194 : decode cX5_account 194 = .ok (.iconst (-1), 1) := by decide +kernel
theorem dX5_account_195 : decode cX5_account 195 = .ok (.iconst 0, 1) := by decide +kernel
theorem dX5_account_196 : decode cX5_account 196 = .ok (.invokevirtual 163, 3) := by decide +kernel
theorem dX5_account_199 : decode cX5_account 199 = .ok (.isub, 1) := by decide +kernel
theorem dX5_account_200 : decode cX5_account 200 = .ok (.ireturn, 1) := by decide +kernel
theorem dX5_account_201 : decode cX5_account 201 = .ok (.aload_n 0, 1) := by decide +kernel
theorem dX5_account_202 : decode cX5_account 202 = .ok (.getfield 10, 3) := by decide +kernel
theorem dX5_account_205 : decode cX5_account 205 = .ok (.getfield 333, 3) := by decide +kernel
theorem dX5_account_208 : decode cX5_account 208 = .ok (.ireturn, 1) := by decide +kernel
theorem dX5_account_209 : decode cX5_account 209 = .ok (.aload_n 0, 1) := by decide +kernel
theorem dX5_account_210 : decode cX5_account 210 = .ok (.getfield 10, 3) := by decide +kernel
theorem dX5_account_213 : decode cX5_account 213 = .ok (.iconst 1, 1) := by decide +kernel
theorem dX5_account_214 : decode cX5_account 214 = .ok (.iconst (-1), 1) := by decide +kernel
theorem dX5_account_215 : decode cX5_account 215 = .ok (.iconst 0, 1) := by decide +kernel
theorem dX5_account_216 : decode cX5_account 216 = .ok (.invokevirtual 163, 3) := by decide +kernel
theorem dX5_account_219 : decode cX5_account 219 = .ok (.ireturn, 1) := by decide +kernel
theorem dX5_account_220 : decode cX5_account 220 = .ok (.aload_n 0, 1) := by decide +kernel
theorem dX5_account_221 : decode cX5_account 221 = .ok (.getfield 10, 3) := by decide +kernel
theorem dX5_account_224 : decode cX5_account 224 = .ok (.getfield 330, 3) := by decide +kernel
theorem dX5_account_227 : decode cX5_account 227 = .ok (.ireturn, 1) := by decide +kernel
set_option maxRecDepth 20000 in
theorem ggX5_bestFilm_X4_size : GoodIn wsX5_bestFilm wsX4_size := goodIn_r _ [9, 10, 77, 78, 79, 80] (by decide +kernel) (by decide +kernel)
set_option maxRecDepth 20000 in
theorem gX5_bestFilm_X4_size : GoodIn wsX5_bestFilm (wsV RX5 79 RX4 yX4_size wsX4_size) := goodIn_app (goodIn_of _ (by decide +kernel)) ggX5_bestFilm_X4_size
set_option maxRecDepth 20000 in
theorem ggX5_bestFilm_X3_total : GoodIn wsX5_bestFilm wsX3_total := goodIn_ca (goodIn_r _ [15, 16, 17, 6, 7, 8, 9, 10, 18, 19, 20, 21, 22, 23, 24, 25, 26, 14, 27, 28, 29, 30, 31, 32, 33, 34, 35, 36, 37, 38, 39, 40, 41, 42, 43, 44, 45, 46, 47, 48, 49, 50, 51, 52, 53, 54, 55, 56, 57, 69, 70, 71, 72, 73, 74, 75, 76, 77, 78, 79, 80] (by decide +kernel) (by decide +kernel)) (goodIn_sub (fun _ h => List.mem_cons_of_mem _ (List.mem_append_right _ h)) (by decide +kernel))
set_option maxRecDepth 20000 in
theorem gX5_bestFilm_X3_total : GoodIn wsX5_bestFilm (wsV RX5 163 RX3 yX3_total wsX3_total) := goodIn_app (goodIn_of _ (by decide +kernel)) ggX5_bestFilm_X3_total
theorem dX5_bestFilm_0 : decode cX5_bestFilm 0 = .ok (.aload_n 0, 1) := by decide +kernel
theorem dX5_bestFilm_1 : decode cX5_bestFilm 1 = .ok (.getfield 10, 3) := by decide +kernel
theorem dX5_bestFilm_4 : decode cX5_bestFilm 4 = .ok (.getfield 111, 3) := by decide +kernel
theorem dX5_bestFilm_7 : decode cX5_bestFilm 7 = .ok (.invokevirtual 79, 3) := by decide +kernel
theorem dX5_bestFilm_10 : decode cX5_bestFilm 10 = .ok (.ifCond .ne 14, 3) := by decide +kernel
theorem dX5_bestFilm_13 : decode cX5_bestFilm 13 = .ok (.new 171, 3) := by decide +kernel
theorem dX5_bestFilm_16 : decode cX5_bestFilm 16 = .ok (.dup, 1) := by decide +kernel
theorem dX5_bestFilm_17 : decode cX5_bestFilm 17 = .ok (.ldc_w 336, 3) := by decide +kernel
theorem dX5_bestFilm_20 : decode cX5_bestFilm 20 = .ok (.invokespecial 175, 3) := by decide +kernel
theorem dX5_bestFilm_23 : decode cX5_bestFilm 23 = .ok (.athrow, 1) := by decide +kernel
theorem dX5_bestFilm_24 : decode cX5_bestFilm 24 = .ok (.iconst 0, 1) := by decide +kernel
theorem dX5_bestFilm_25 : decode cX5_bestFilm 25 = .ok (.istore_n 1, 1) := by decide +kernel
theorem dX5_bestFilm_26 : decode cX5_bestFilm 26 = .ok (.aload_n 0, 1) := by decide +kernel
theorem dX5_bestFilm_27 : decode cX5_bestFilm 27 = .ok (.getfield 10, 3) := by decide +kernel
theorem dX5_bestFilm_30 : decode cX5_bestFilm 30 = .ok (.iconst 2, 1) := by decide +kernel
theorem dX5_bestFilm_31 : decode cX5_bestFilm 31 = .ok (.iconst 1, 1) := by decide +kernel
theorem dX5_bestFilm_32 : decode cX5_bestFilm 32 = .ok (.iload_n 1, 1) := by decide +kernel
theorem dX5_bestFilm_33 : decode cX5_bestFilm 33 = .ok (.invokevirtual 163, 3) := by decide +kernel
theorem dX5_bestFilm_36 : decode cX5_bestFilm 36 = .ok (.istore_n 2, 1) := by decide +kernel
theorem dX5_bestFilm_37 : decode cX5_bestFilm 37 = .ok (.iconst 1, 1) := by decide +kernel
theorem dX5_bestFilm_38 : decode cX5_bestFilm 38 = .ok (.istore_n 3, 1) := by decide +kernel
theorem dX5_bestFilm_39 : decode cX5_bestFilm 39 = .ok (.iload_n 3, 1) := by decide +kernel
theorem dX5_bestFilm_40 : decode cX5_bestFilm 40 = .ok (.aload_n 0, 1) := by decide +kernel
theorem dX5_bestFilm_41 : decode cX5_bestFilm 41 = .ok (.getfield 10, 3) := by decide +kernel
theorem dX5_bestFilm_44 : decode cX5_bestFilm 44 = .ok (.getfield 111, 3) := by decide +kernel
theorem dX5_bestFilm_47 : decode cX5_bestFilm 47 = .ok (.invokevirtual 79, 3) := by decide +kernel
theorem dX5_bestFilm_50 : decode cX5_bestFilm 50 = .ok (.if_icmp .ge 32, 3) := by decide +kernel
theorem dX5_bestFilm_53 : decode cX5_bestFilm 53 = .ok (.aload_n 0, 1) := by decide +kernel
theorem dX5_bestFilm_54 : decode cX5_bestFilm 54 = .ok (.getfield 10, 3) := by decide +kernel
theorem dX5_bestFilm_57 : decode cX5_bestFilm 57 = .ok (.iconst 2, 1) := by decide +kernel
theorem dX5_bestFilm_58 : decode cX5_bestFilm 58 = .ok (.iconst 1, 1) := by decide +kernel
theorem dX5_bestFilm_59 : decode cX5_bestFilm 59 = .ok (.iload_n 3, 1) := by decide +kernel
theorem dX5_bestFilm_60 : decode cX5_bestFilm 60 = .ok (.invokevirtual 163, 3) := by decide +kernel
theorem dX5_bestFilm_63 : decode cX5_bestFilm 63 = .ok (.istore 4, 2) := by decide +kernel
theorem dX5_bestFilm_65 : decode cX5_bestFilm 65 = .ok (.iload 4, 2) := by decide +kernel
theorem dX5_bestFilm_67 : decode cX5_bestFilm 67 = .ok (.iload_n 2, 1) := by decide +kernel
theorem dX5_bestFilm_68 : decode cX5_bestFilm 68 = .ok (.if_icmp .le 8, 3) := by decide +kernel
theorem dX5_bestFilm_71 : decode cX5_bestFilm 71 = .ok (.iload_n 3, 1) := by decide +kernel
theorem dX5_bestFilm_72 : decode cX5_bestFilm 72 = .ok (.istore_n 1, 1) := by decide +kernel
theorem dX5_bestFilm_73 : decode cX5_bestFilm 73 = .ok (.iload 4, 2) := by decide +kernel
theorem dX5_bestFilm_75 : decode cX5_bestFilm 75 = .ok (.istore_n 2, 1) := by decide +kernel
theorem dX5_bestFilm_76 : decode cX5_bestFilm 76 = .ok (.iinc 3 1, 3) := by decide +kernel
theorem dX5_bestFilm_79 : decode cX5_bestFilm 79 = .ok (.goto (-40), 3) := by decide +kernel
theorem dX5_bestFilm_82 : decode cX5_bestFilm 82 = .ok (.iload_n 1, 1) := by decide +kernel
theorem dX5_bestFilm_83 : decode cX5_bestFilm 83 = .ok (.ireturn, 1) := by decide +kernel
set_option maxRecDepth 20000 in
theorem ggX5_use_X3_total : GoodIn wsX5_use wsX3_total := goodIn_ca (goodIn_r _ [8, 9, 10, 11, 12, 13, 14, 15, 16, 17, 18, 19, 20, 21, 22, 23, 24, 7, 25, 26, 27, 28, 29, 30, 31, 32, 33, 34, 35, 36, 37, 38, 39, 40, 41, 42, 43, 44, 45, 46, 47, 48, 49, 50, 51, 52, 53, 54, 55, 67, 68, 69, 70, 71, 72, 73, 74, 75, 76, 77, 78] (by decide +kernel) (by decide +kernel)) (goodIn_sub (fun _ h => List.mem_cons_of_mem _ (List.mem_append_right _ h)) (by decide +kernel))
set_option maxRecDepth 20000 in
theorem gX5_use_X3_total : GoodIn wsX5_use (wsV RX5 163 RX3 yX3_total wsX3_total) := goodIn_app (goodIn_of _ (by decide +kernel)) ggX5_use_X3_total
theorem dX5_use_0 : decode cX5_use 0 = .ok (.aload_n 0, 1) := by decide +kernel
theorem dX5_use_1 : decode cX5_use 1 = .ok (.getfield 10, 3) := by decide +kernel
theorem dX5_use_4 : decode cX5_use 4 = .ok (.iconst 5, 1) := by decide +kernel
theorem dX5_use_5 : decode cX5_use 5 = .ok (.iconst (-1), 1) := by decide +kernel
theorem dX5_use_6 : decode cX5_use 6 = .ok (.iconst 0, 1) := by decide +kernel
theorem dX5_use_7 : decode cX5_use 7 = .ok (.invokevirtual 163, 3) := by decide +kernel
theorem dX5_use_10 : decode cX5_use 10 = .ok (.istore_n 1, 1) := by decide +kernel
theorem dX5_use_11 : decode cX5_use 11 = .ok (.iload_n 1, 1) := by decide +kernel
theorem dX5_use_12 : decode cX5_use 12 = .ok (.ifCond .ne 14, 3) := by decide +kernel
theorem dX5_use_15 : decode cX5_use 15 = .ok (.new 338, 3) := by decide +kernel
theorem dX5_use_18 : decode cX5_use 18 = .ok (.dup, 1) := by decide +kernel
theorem dX5_use_19 : decode cX5_use 19 = .ok (.ldc_w 340, 3) := by decide +kernel
theorem dX5_use_22 : decode cX5_use 22 = .ok (.invokespecial 342, 3) := by decide +kernel
theorem dX5_use_25 : decode cX5_use 25 = .ok (.athrow, 1) := by decide +kernel
theorem dX5_use_26 : decode cX5_use 26 = .ok (.aload_n 0, 1) := by decide +kernel
theorem dX5_use_27 : decode cX5_use 27 = .ok (.getfield 10, 3) := by decide +kernel
theorem dX5_use_30 : decode cX5_use 30 = .ok (.iconst 2, 1) := by decide +kernel
theorem dX5_use_31 : decode cX5_use 31 = .ok (.iconst (-1), 1) := by decide +kernel
theorem dX5_use_32 : decode cX5_use 32 = .ok (.iconst 0, 1) := by decide +kernel
theorem dX5_use_33 : decode cX5_use 33 = .ok (.invokevirtual 163, 3) := by decide +kernel
theorem dX5_use_36 : decode cX5_use 36 = .ok (.i2d, 1) := by decide +kernel
theorem dX5_use_37 : decode cX5_use 37 = .ok (.iload_n 1, 1) := by decide +kernel
theorem dX5_use_38 : decode cX5_use 38 = .ok (.i2d, 1) := by decide +kernel
theorem dX5_use_39 : decode cX5_use 39 = .ok (.ddiv, 1) := by decide +kernel
theorem dX5_use_40 : decode cX5_use 40 = .ok (.dreturn, 1) := by decide +kernel
set_option maxRecDepth 20000 in
theorem ggX5_write_X4_isRow : GoodIn wsX5_write wsX4_isRow := goodIn_r _ [13, 14, 308, 309, 310, 311] (by decide +kernel) (by decide +kernel)
set_option maxRecDepth 20000 in
theorem gX5_write_X4_isRow : GoodIn wsX5_write (wsV RX5 116 RX4 yX4_isRow wsX4_isRow) := goodIn_app (goodIn_of _ (by decide +kernel)) ggX5_write_X4_isRow
set_option maxRecDepth 20000 in
theorem ggX5_write_X5_isDay : GoodIn wsX5_write wsX5_isDay := goodIn_r _ [18, 19, 20, 17, 21] (by decide +kernel) (by decide +kernel)
set_option maxRecDepth 20000 in
theorem gX5_write_X5_isDay : GoodIn wsX5_write (va_wsS RX5 108 yX5_isDay wsX5_isDay) := goodIn_app (goodIn_of _ (by decide +kernel)) ggX5_write_X5_isDay
set_option maxRecDepth 20000 in
theorem ggX5_write_J4_setLength_d00df : GoodIn wsX5_write wsJ4_setLength_d00df := goodIn_r _ [26, 27, 28, 29, 30, 31, 32, 33, 34, 35, 36, 37, 38, 39, 40, 41, 42, 43, 44, 45, 46, 47, 48, 49, 50, 51, 52, 53, 54, 55, 56, 57, 58, 59, 60, 61, 62, 63, 64, 65, 66, 67, 68, 69, 70, 71, 72, 73, 74, 75, 76, 77, 78, 79, 80, 81, 82, 83, 84, 85, 86, 87, 88, 89, 90, 91, 92, 93, 94, 95, 96, 97, 98, 25, 99, 100, 101, 102, 103, 104, 105, 106, 312, 313, 314, 315, 316, 317, 318, 319, 320, 321, 322, 323, 324, 325, 326, 327] (by decide +kernel) (by decide +kernel)
set_option maxRecDepth 20000 in
theorem gX5_write_J4_setLength_d00df : GoodIn wsX5_write (wsV RX5 343 RJ4 yJ4_setLength_d00df wsJ4_setLength_d00df) := goodIn_app (goodIn_of _ (by decide +kernel)) ggX5_write_J4_setLength_d00df
set_option maxRecDepth 20000 in
theorem ggX5_write_X3_isClosed : GoodIn wsX5_write wsX3_isClosed := goodIn_ca (goodIn_r _ [111, 112, 113, 114, 115, 12, 116, 117, 118, 300, 301, 302, 303, 304, 305, 306, 307, 308, 309, 310, 311] (by decide +kernel) (by decide +kernel)) (goodIn_sub (fun _ h => List.mem_cons_of_mem _ (List.mem_append_right _ h)) (by decide +kernel))
set_option maxRecDepth 20000 in
theorem gX5_write_X3_isClosed : GoodIn wsX5_write (wsV RX5 347 RX3 yX3_isClosed wsX3_isClosed) := goodIn_app (goodIn_of _ (by decide +kernel)) ggX5_write_X3_isClosed
set_option maxRecDepth 20000 in
theorem ggX5_write_J4_append_15ec4 : GoodIn wsX5_write wsJ4_append_15ec4 := goodIn_r _ [122, 123, 124, 29, 125, 31, 126, 36, 127, 128, 129, 130, 131, 37, 39, 40, 41, 42, 43, 44, 45, 46, 47, 48, 49, 50, 51, 52, 53, 54, 55, 56, 57, 58, 59, 60, 61, 62, 63, 64, 65, 66, 67, 68, 69, 70, 71, 72, 73, 74, 75, 76, 77, 78, 79, 80, 81, 82, 83, 84, 85, 86, 132, 133, 104, 134, 135, 136, 137, 138, 139, 140, 141, 142, 143, 144, 145, 146, 147, 148, 149, 150, 151, 152, 153, 154, 155, 156, 157, 158, 159, 160, 161, 162, 163, 164, 165, 166, 167, 168, 169, 170, 171, 172, 173, 174, 175, 176, 177, 178, 179, 180, 181, 182, 183, 184, 185, 186, 187, 188, 189, 190, 191, 89, 192, 193, 194, 195, 196, 197, 198, 199, 200, 201, 202, 203, 204, 205, 206, 207, 208, 209, 210, 318, 319, 320, 321, 328, 329, 330, 331] (by decide +kernel) (by decide +kernel)
set_option maxRecDepth 20000 in
theorem gX5_write_J4_append_15ec4 : GoodIn wsX5_write (wsV RX5 353 RJ4 yJ4_append_15ec4 wsJ4_append_15ec4) := goodIn_app (goodIn_of _ (by decide +kernel)) ggX5_write_J4_append_15ec4
set_option maxRecDepth 20000 in
theorem ggX5_write_X3_showAfter : GoodIn wsX5_write wsX3_showAfter := goodIn_ca (goodIn_r _ [214, 215, 216, 217, 218, 12, 219, 14, 113, 114, 115, 116, 117, 118, 220, 221, 222, 110, 223, 300, 301, 302, 303, 304, 305, 306, 307, 308, 309, 310, 311] (by decide +kernel) (by decide +kernel)) (goodIn_sub (fun _ h => List.mem_cons_of_mem _ (List.mem_append_right _ h)) (by decide +kernel))
set_option maxRecDepth 20000 in
theorem gX5_write_X3_showAfter : GoodIn wsX5_write (wsV RX5 302 RX3 yX3_showAfter wsX3_showAfter) := goodIn_app (goodIn_of _ (by decide +kernel)) ggX5_write_X3_showAfter
set_option maxRecDepth 20000 in
theorem ggX5_write_X5_appendShow : GoodIn wsX5_write wsX5_appendShow := goodIn_ca (goodIn_r _ [227, 7, 5, 8, 228, 114, 115, 12, 116, 117, 118, 229, 230, 231, 25, 232, 233, 234, 29, 235, 31, 236, 36, 37, 237, 238, 239, 240, 39, 40, 41, 42, 43, 44, 45, 46, 47, 48, 49, 50, 51, 52, 53, 54, 55, 56, 57, 58, 59, 60, 61, 62, 63, 64, 65, 66, 67, 68, 69, 70, 71, 72, 73, 74, 75, 76, 77, 78, 79, 80, 81, 82, 83, 84, 85, 86, 241, 242, 243, 244, 245, 246, 247, 104, 248, 135, 136, 137, 138, 139, 140, 141, 142, 143, 144, 145, 146, 147, 148, 149, 150, 249, 250, 251, 252, 253, 151, 152, 153, 154, 155, 254, 255, 256, 257, 258, 259, 260, 261, 262, 263, 89, 264, 178, 179, 180, 181, 182, 183, 184, 185, 186, 187, 188, 189, 190, 191, 192, 193, 194, 195, 196, 197, 198, 199, 200, 201, 202, 203, 204, 265, 266, 267, 268, 269, 270, 271, 272, 273, 274, 275, 276, 119, 120, 121, 122, 123, 124, 125, 126, 127, 128, 129, 130, 131, 132, 133, 134, 156, 157, 158, 159, 160, 161, 162, 163, 164, 165, 166, 167, 168, 169, 170, 171, 172, 173, 174, 175, 176, 177, 205, 206, 207, 208, 209, 210, 277, 278, 279, 110, 280, 112, 215, 113, 289, 290, 291, 292, 293, 294, 295, 296, 297, 298, 299, 300, 301, 302, 303, 304, 305, 306, 307, 308, 309, 310, 311, 318, 319, 320, 321, 328, 329, 330, 331] (by decide +kernel) (by decide +kernel)) (goodIn_sub (fun _ h => List.mem_cons_of_mem _ (List.mem_append_right _ h)) (by decide +kernel))
set_option maxRecDepth 20000 in
theorem gX5_write_X5_appendShow : GoodIn wsX5_write (wsV RX5 361 RX5 yX5_appendShow wsX5_appendShow) := goodIn_app (goodIn_of _ (by decide +kernel)) ggX5_write_X5_appendShow
set_option maxRecDepth 20000 in
theorem ggX5_write_X4_get : GoodIn wsX5_write wsX4_get := goodIn_ca (goodIn_r _ [116, 117, 118, 308, 309, 310, 311] (by decide +kernel) (by decide +kernel)) (goodIn_sub (fun _ h => List.mem_cons_of_mem _ (List.mem_append_right _ h)) (by decide +kernel))
set_option maxRecDepth 20000 in
theorem gX5_write_X4_get : GoodIn wsX5_write (wsV RX5 126 RX4 yX4_get wsX4_get) := goodIn_app (goodIn_of _ (by decide +kernel)) ggX5_write_X4_get
set_option maxRecDepth 20000 in
theorem ggX5_write_J4_length_8abf5 : GoodIn wsX5_write wsJ4_length_8abf5 := goodIn_r _ [284, 285, 286, 29, 287, 31, 288, 36, 318, 319, 320, 321] (by decide +kernel) (by decide +kernel)
set_option maxRecDepth 20000 in
theorem gX5_write_J4_length_8abf5 : GoodIn wsX5_write (wsV RX5 364 RJ4 yJ4_length_8abf5 wsJ4_length_8abf5) := goodIn_app (goodIn_of _ (by decide +kernel)) ggX5_write_J4_length_8abf5
theorem dX5_write_0 : decode cX5_write 0 = .ok (.aload_n 0, 1) := by decide +kernel
theorem dX5_write_1 : decode cX5_write 1 = .ok (.getfield 10, 3) := by decide +kernel
theorem dX5_write_4 : decode cX5_write 4 = .ok (.getfield 75, 3) := by decide +kernel
theorem dX5_write_7 : decode cX5_write 7 = .ok (.iload_n 1, 1) := by decide +kernel
theorem dX5_write_8 : decode cX5_write 8 = .ok (.invokevirtual 116, 3) := by decide +kernel
theorem dX5_write_11 : decode cX5_write 11 = .ok (.ifCond .ne 13, 3) := by decide +kernel
theorem dX5_write_14 : decode cX5_write 14 = .ok (.new 119, 3) := by decide +kernel
theorem dX5_write_17 : decode cX5_write 17 = .ok (.dup, 1) := by decide +kernel
theorem dX5_write_18 : decode cX5_write 18 = .ok (.ldc 159, 2) := by decide +kernel
theorem dX5_write_20 : decode cX5_write 20 = .ok (.invokespecial 123, 3) := by decide +kernel
theorem dX5_write_23 : decode cX5_write 23 = .ok (.athrow, 1) := by decide +kernel
theorem dX5_write_24 : decode cX5_write 24 = .ok (.iload_n 2, 1) := by decide +kernel
theorem dX5_write_25 : decode cX5_write 25 = .ok (.invokestatic 108, 3) := by decide +kernel
theorem dX5_write_28 : decode cX5_write 28 = .ok (.ifCond .ne 13, 3) := by decide +kernel
theorem dX5_write_31 : decode cX5_write 31 = .ok (.new 68, 3) := by decide +kernel
theorem dX5_write_34 : decode cX5_write 34 = .ok (.dup, 1) := by decide +kernel
theorem dX5_write_35 : decode cX5_write 35 = .ok (.ldc 169, 2) := by decide +kernel
theorem dX5_write_37 : decode cX5_write 37 = .ok (.invokespecial 72, 3) := by decide +kernel
theorem dX5_write_40 : decode cX5_write 40 = .ok (.athrow, 1) := by decide +kernel
theorem dX5_write_41 : decode cX5_write 41 = .ok (.aload_n 0, 1) := by decide +kernel
theorem dX5_write_42 : decode cX5_write 42 = .ok (.getfield 47, 3) := by decide +kernel
theorem dX5_write_45 : decode cX5_write 45 = .ok (.iconst 0, 1) := by decide +kernel
theorem dX5_write_46 : decode cX5_write 46 = .ok (.invokevirtual 343, 3) := by decide +kernel
theorem dX5_write_49 : decode cX5_write 49 = .ok (.aload_n 0, 1) := by decide +kernel
theorem dX5_write_50 : decode cX5_write 50 = .ok (.getfield 10, 3) := by decide +kernel
theorem dX5_write_53 : decode cX5_write 53 = .ok (.iload_n 1, 1) := by decide +kernel
theorem dX5_write_54 : decode cX5_write 54 = .ok (.iload_n 2, 1) := by decide +kernel
theorem dX5_write_55 : decode cX5_write 55 = .ok (.invokevirtual 347, 3) := by decide +kernel
theorem dX5_write_58 : decode cX5_write 58 = .ok (.ifCond .eq 14, 3) := by decide +kernel
theorem dX5_write_61 : decode cX5_write 61 = .ok (.aload_n 0, 1) := by decide +kernel
theorem dX5_write_62 : decode cX5_write 62 = .ok (.getfield 47, 3) := by decide +kernel
theorem dX5_write_65 : decode cX5_write 65 = .ok (.ldc_w 351, 3) := by decide +kernel
theorem dX5_write_68 : decode cX5_write 68 = .ok (.invokevirtual 353, 3) := by decide +kernel
theorem dX5_write_71 : decode cX5_write 71 = .ok (.pop, 1) := by decide +kernel
theorem dX5_write_72 : decode cX5_write 72 = .ok (.aload_n 0, 1) := by decide +kernel
theorem dX5_write_73 : decode cX5_write 73 = .ok (.getfield 10, 3) := by decide +kernel
theorem dX5_write_76 : decode cX5_write 76 = .ok (.iload_n 1, 1) := by decide +kernel
theorem dX5_write_77 : decode cX5_write 77 = .ok (.iload_n 2, 1) := by decide +kernel
theorem dX5_write_78 : decode cX5_write 78 = .ok (.iconst (-1), 1) := by decide +kernel
theorem dX5_write_79 : decode cX5_write 79 = .ok (.invokevirtual 302, 3) := by decide +kernel
theorem dX5_write_82 : decode cX5_write 82 = .ok (.istore_n 3, 1) := by decide +kernel
theorem dX5_write_83 : decode cX5_write 83 = .ok (.iload_n 3, 1) := by decide +kernel
theorem dX5_write_84 : decode cX5_write 84 = .ok (.iconst (-1), 1) := by decide +kernel
theorem dX5_write_85 : decode cX5_write 85 = .ok (.if_icmp .ne 14, 3) := by decide +kernel
theorem dX5_write_88 : decode cX5_write 88 = .ok (.aload_n 0, 1) := by decide +kernel
theorem dX5_write_89 : decode cX5_write 89 = .ok (.getfield 47, 3) := by decide +kernel
theorem dX5_write_92 : decode cX5_write 92 = .ok (.ldc_w 357, 3) := by decide +kernel
theorem dX5_write_95 : decode cX5_write 95 = .ok (.invokevirtual 353, 3) := by decide +kernel
theorem dX5_write_98 : decode cX5_write 98 = .ok (.pop, 1) := by decide +kernel
theorem dX5_write_99 : decode cX5_write 99 = .ok (.iconst 0, 1) := by decide +kernel
theorem dX5_write_100 : decode cX5_write 100 = .ok (.istore 4, 2) := by decide +kernel
theorem dX5_write_102 : decode cX5_write 102 = .ok (.iload 4, 2) := by decide +kernel
theorem dX5_write_104 : decode cX5_write 104 = .ok (.bipush 30, 2) := by decide +kernel
theorem dX5_write_106 : decode cX5_write 106 = .ok (.if_icmp .ge 57, 3) := by decide +kernel
theorem dX5_write_109 : decode cX5_write 109 = .ok (.iload_n 3, 1) := by decide +kernel
theorem dX5_write_110 : decode cX5_write 110 = .ok (.iconst (-1), 1) := by decide +kernel
theorem dX5_write_111 : decode cX5_write 111 = .ok (.if_icmp .eq 52, 3) := by decide +kernel
theorem dX5_write_114 : decode cX5_write 114 = .ok (.iload 4, 2) := by decide +kernel
theorem dX5_write_116 : decode cX5_write 116 = .ok (.ifCond .le 14, 3) := by decide +kernel
theorem dX5_write_119 : decode cX5_write 119 = .ok (.aload_n 0, 1) := by decide +kernel
theorem dX5_write_120 : decode cX5_write 120 = .ok (.getfield 47, 3) := by decide +kernel
theorem dX5_write_123 : decode cX5_write 123 = .ok (.ldc_w 359, 3) := by decide +kernel
theorem dX5_write_126 : decode cX5_write 126 = .ok (.invokevirtual 353, 3) := by decide +kernel
theorem dX5_write_129 : decode cX5_write 129 = .ok (.pop, 1) := by decide +kernel
theorem dX5_write_130 : decode cX5_write 130 = .ok (.aload_n 0, 1) := by decide +kernel
theorem dX5_write_131 : decode cX5_write 131 = .ok (.iload_n 3, 1) := by decide +kernel
theorem dX5_write_132 : decode cX5_write 132 = .ok (.invokevirtual 361, 3) := by decide +kernel
theorem dX5_write_135 : decode cX5_write 135 = .ok (.aload_n 0, 1) := by decide +kernel
theorem dX5_write_136 : decode cX5_write 136 = .ok (.getfield 10, 3) := by decide +kernel
theorem dX5_write_139 : decode cX5_write 139 = .ok (.iload_n 1, 1) := by decide +kernel
theorem dX5_write_140 : decode cX5_write 140 = .ok (.iload_n 2, 1) := by decide +kernel
theorem dX5_write_141 : decode cX5_write 141 = .ok (.aload_n 0, 1) := by decide +kernel
theorem dX5_write_142 : decode cX5_write 142 = .ok (.getfield 10, 3) := by decide +kernel
theorem dX5_write_145 : decode cX5_write 145 = .ok (.getfield 210, 3) := by decide +kernel
theorem dX5_write_148 : decode cX5_write 148 = .ok (.iload_n 3, 1) := by decide +kernel
theorem dX5_write_149 : decode cX5_write 149 = .ok (.iconst 3, 1) := by decide +kernel
theorem dX5_write_150 : decode cX5_write 150 = .ok (.invokevirtual 126, 3) := by decide +kernel
theorem dX5_write_153 : decode cX5_write 153 = .ok (.invokevirtual 302, 3) := by decide +kernel
theorem dX5_write_156 : decode cX5_write 156 = .ok (.istore_n 3, 1) := by decide +kernel
theorem dX5_write_157 : decode cX5_write 157 = .ok (.iinc 4 1, 3) := by decide +kernel
theorem dX5_write_160 : decode cX5_write 160 = .ok (.goto (-58), 3) := by decide +kernel
theorem dX5_write_163 : decode cX5_write 163 = .ok (.aload_n 0, 1) := by decide +kernel
theorem dX5_write_164 : decode cX5_write 164 = .ok (.getfield 47, 3) := by decide +kernel
theorem dX5_write_167 : decode cX5_write 167 = .ok (.invokevirtual 364, 3) := by decide +kernel
theorem dX5_write_170 : decode cX5_write 170 = .ok (.ireturn, 1) := by decide +kernel
set_option maxRecDepth 20000 in
theorem ggX5_written_J4_length_8abf5 : GoodIn wsX5_written wsJ4_length_8abf5 := goodIn_r _ [8, 9, 10, 11, 12, 13, 14, 15, 60, 61, 62, 63] (by decide +kernel) (by decide +kernel)
set_option maxRecDepth 20000 in
theorem gX5_written_J4_length_8abf5 : GoodIn wsX5_written (wsV RX5 364 RJ4 yJ4_length_8abf5 wsJ4_length_8abf5) := goodIn_app (goodIn_of _ (by decide +kernel)) ggX5_written_J4_length_8abf5
set_option maxRecDepth 20000 in
theorem ggX5_written_J4_charAt_5068e : GoodIn wsX5_written wsJ4_charAt_5068e := goodIn_r _ [19, 20, 21, 11, 22, 13, 23, 24, 25, 15, 26, 27, 28, 29, 30, 31, 32, 33, 34, 35, 36, 37, 38, 39, 40, 41, 42, 43, 44, 45, 46, 47, 48, 60, 61, 62, 63] (by decide +kernel) (by decide +kernel)
set_option maxRecDepth 20000 in
theorem gX5_written_J4_charAt_5068e : GoodIn wsX5_written (wsV RX5 369 RJ4 yJ4_charAt_5068e wsJ4_charAt_5068e) := goodIn_app (goodIn_of _ (by decide +kernel)) ggX5_written_J4_charAt_5068e
theorem dX5_written_0 : decode cX5_written 0 = .ok (.iload_n 1, 1) := by decide +kernel
theorem dX5_written_1 : decode cX5_written 1 = .ok (.ifCond .lt 14, 3) := by decide +kernel
theorem dX5_written_4 : decode cX5_written 4 = .ok (.iload_n 1, 1) := by decide +kernel
theorem dX5_written_5 : decode cX5_written 5 = .ok (.aload_n 0, 1) := by decide +kernel
theorem dX5_written_6 : decode cX5_written 6 = .ok (.getfield 47, 3) := by decide +kernel
theorem dX5_written_9 : decode cX5_written 9 = .ok (.invokevirtual 364, 3) := by decide +kernel
theorem dX5_written_12 : decode cX5_written 12 = .ok (.if_icmp .lt 14, 3) := by decide +kernel
theorem dX5_written_15 : decode cX5_written 15 = .ok (.new 119, 3) := by decide +kernel
theorem dX5_written_18 : decode cX5_written 18 = .ok (.dup, 1) := by decide +kernel
theorem dX5_written_19 : decode cX5_written 19 = .ok (.ldc_w 367, 3) := by decide +kernel
theorem dX5_written_22 : decode cX5_written 22 = .ok (.invokespecial 123, 3) := by decide +kernel
theorem dX5_written_25 : decode cX5_written 25 = .ok (.athrow, 1) := by decide +kernel
theorem dX5_written_26 : decode cX5_written 26 = .ok (.aload_n 0, 1) := by decide +kernel
theorem dX5_written_27 : decode cX5_written 27 = .ok (.getfield 47, 3) := by decide +kernel
theorem dX5_written_30 : decode cX5_written 30 = .ok (.iload_n 1, 1) := by decide +kernel
theorem dX5_written_31 : decode cX5_written 31 = .ok (.invokevirtual 369, 3) := by decide +kernel
theorem dX5_written_34 : decode cX5_written 34 = .ok (.ireturn, 1) := by decide +kernel
set_option maxRecDepth 20000 in
theorem ggX5_append_X5_isWithin : GoodIn wsX5_append wsX5_isWithin := goodIn_r _ [9] (by decide +kernel) (by decide +kernel)
set_option maxRecDepth 20000 in
theorem gX5_append_X5_isWithin : GoodIn wsX5_append (va_wsS RX5 64 yX5_isWithin wsX5_isWithin) := goodIn_app (goodIn_of _ (by decide +kernel)) ggX5_append_X5_isWithin
set_option maxRecDepth 20000 in
theorem ggX5_append_J4_length_8abf5 : GoodIn wsX5_append wsJ4_length_8abf5 := goodIn_r _ [14, 15, 16, 17, 18, 19, 20, 21, 146, 147, 148, 149] (by decide +kernel) (by decide +kernel)
set_option maxRecDepth 20000 in
theorem gX5_append_J4_length_8abf5 : GoodIn wsX5_append (wsV RX5 364 RJ4 yJ4_length_8abf5 wsJ4_length_8abf5) := goodIn_app (goodIn_of _ (by decide +kernel)) ggX5_append_J4_length_8abf5
set_option maxRecDepth 20000 in
theorem ggX5_append_J4_append_cf468 : GoodIn wsX5_append wsJ4_append_cf468 := goodIn_r _ [25, 26, 27, 17, 28, 19, 29, 21, 30, 31, 32, 33, 34, 35, 36, 37, 38, 39, 40, 41, 42, 43, 44, 45, 46, 47, 48, 49, 50, 51, 52, 53, 54, 55, 56, 57, 58, 59, 60, 61, 62, 63, 64, 65, 66, 67, 68, 69, 70, 71, 72, 73, 74, 75, 76, 77, 78, 79, 80, 81, 82, 83, 84, 85, 86, 87, 88, 89, 90, 91, 92, 93, 94, 95, 96, 97, 98, 99, 100, 101, 102, 103, 104, 105, 106, 107, 108, 109, 110, 111, 112, 113, 114, 115, 116, 117, 118, 119, 120, 121, 122, 123, 124, 125, 126, 127, 128, 129, 130, 131, 132, 133, 134, 146, 147, 148, 149] (by decide +kernel) (by decide +kernel)
set_option maxRecDepth 20000 in
theorem gX5_append_J4_append_cf468 : GoodIn wsX5_append (wsV RX5 377 RJ4 yJ4_append_cf468 wsJ4_append_cf468) := goodIn_app (goodIn_of _ (by decide +kernel)) ggX5_append_J4_append_cf468
theorem dX5_append_0 : decode cX5_append 0 = .ok (.iload_n 1, 1) := by decide +kernel
theorem dX5_append_1 : decode cX5_append 1 = .ok (.bipush 32, 2) := by decide +kernel
theorem dX5_append_3 : decode cX5_append 3 = .ok (.bipush 126, 2) := by decide +kernel
theorem dX5_append_5 : decode cX5_append 5 = .ok (.invokestatic 64, 3) := by decide +kernel
theorem dX5_append_8 : decode cX5_append 8 = .ok (.ifCond .ne 14, 3) := by decide +kernel
theorem dX5_append_11 : decode cX5_append 11 = .ok (.new 68, 3) := by decide +kernel
theorem dX5_append_14 : decode cX5_append 14 = .ok (.dup, 1) := by decide +kernel
theorem dX5_append_15 : decode cX5_append 15 = .ok (.ldc_w 373, 3) := by decide +kernel
theorem dX5_append_18 : decode cX5_append 18 = .ok (.invokespecial 72, 3) := by decide +kernel
theorem dX5_append_21 : decode cX5_append 21 = .ok (.athrow, 1) := by decide +kernel
theorem dX5_append_22 : decode cX5_append 22 = .ok (.aload_n 0, 1) := by decide +kernel
theorem dX5_append_23 : decode cX5_append 23 = .ok (.getfield 43, 3) := by decide +kernel
theorem dX5_append_26 : decode cX5_append 26 = .ok (.invokevirtual 364, 3) := by decide +kernel
theorem dX5_append_29 : decode cX5_append 29 = .ok (.bipush 60, 2) := by decide +kernel
theorem dX5_append_31 : decode cX5_append 31 = .ok (.if_icmp .lt 14, 3) := by decide +kernel
theorem dX5_append_34 : decode cX5_append 34 = .ok (.new 85, 3) := by decide +kernel
theorem dX5_append_37 : decode cX5_append 37 = .ok (.dup, 1) := by decide +kernel
theorem dX5_append_38 : decode cX5_append 38 = .ok (.ldc_w 375, 3) := by decide +kernel
theorem dX5_append_41 : decode cX5_append 41 = .ok (.invokespecial 89, 3) := by decide +kernel
theorem dX5_append_44 : decode cX5_append 44 = .ok (.athrow, 1) := by decide +kernel
theorem dX5_append_45 : decode cX5_append 45 = .ok (.aload_n 0, 1) := by decide +kernel
theorem dX5_append_46 : decode cX5_append 46 = .ok (.getfield 43, 3) := by decide +kernel
theorem dX5_append_49 : decode cX5_append 49 = .ok (.iload_n 1, 1) := by decide +kernel
theorem dX5_append_50 : decode cX5_append 50 = .ok (.invokevirtual 377, 3) := by decide +kernel
theorem dX5_append_53 : decode cX5_append 53 = .ok (.pop, 1) := by decide +kernel
theorem dX5_append_54 : decode cX5_append 54 = .ok (.aload_n 0, 1) := by decide +kernel
theorem dX5_append_55 : decode cX5_append 55 = .ok (.getfield 43, 3) := by decide +kernel
theorem dX5_append_58 : decode cX5_append 58 = .ok (.invokevirtual 364, 3) := by decide +kernel
theorem dX5_append_61 : decode cX5_append 61 = .ok (.ireturn, 1) := by decide +kernel
set_option maxRecDepth 20000 in
theorem ggX5_perform_X1_isText : GoodIn wsX5_perform wsX1_isText := goodIn_ca (goodIn_r _ [16, 17, 18, 19, 20, 21, 22, 23, 24, 25, 26, 27, 15, 28, 29, 30, 31, 32, 33, 34, 35, 36, 37, 38, 39, 40, 41, 42, 43, 44, 45, 46, 47, 48, 49, 50, 51, 52, 53, 54, 55, 56, 57, 58, 59, 60, 61, 62, 63, 64, 65, 66, 67, 68, 69, 70, 71, 72, 73, 74, 75, 76, 77, 78, 79, 80, 81, 82, 83, 84, 85, 86, 87, 88, 89, 90, 91, 92, 93, 94, 95, 96, 97, 98, 99, 100, 101, 102, 103, 104, 105, 106, 107, 108, 109, 110, 111, 112, 113, 114, 115, 116, 117, 118, 119, 120, 121, 122, 123, 124, 125, 126, 127, 128, 129, 130, 131, 132, 133, 134, 135, 136, 137, 138, 139, 140, 141, 142, 472, 473, 474, 475, 476, 477, 478, 479, 480, 481, 482, 483, 484, 485] (by decide +kernel) (by decide +kernel)) (goodIn_sub (fun _ h => List.mem_cons_of_mem _ (List.mem_append_right _ h)) (by decide +kernel))
set_option maxRecDepth 20000 in
theorem gX5_perform_X1_isText : GoodIn wsX5_perform (wsV RX5 380 RX1 yX1_isText wsX1_isText) := goodIn_app (goodIn_of _ (by decide +kernel)) ggX5_perform_X1_isText
set_option maxRecDepth 20000 in
theorem ggX5_perform_J4_setLength_d00df : GoodIn wsX5_perform wsJ4_setLength_d00df := goodIn_r _ [146, 147, 148, 64, 149, 66, 150, 151, 152, 153, 68, 78, 154, 155, 156, 157, 158, 159, 77, 160, 161, 162, 163, 164, 165, 166, 167, 168, 169, 170, 35, 36, 37, 171, 172, 173, 174, 175, 176, 177, 178, 179, 180, 181, 182, 183, 184, 185, 186, 80, 81, 187, 188, 189, 190, 191, 192, 193, 194, 195, 196, 197, 198, 110, 199, 200, 201, 202, 203, 204, 205, 206, 207, 60, 208, 209, 210, 211, 212, 92, 213, 214, 486, 487, 488, 489, 490, 491, 482, 483, 484, 485, 492, 493, 494, 495, 496, 497] (by decide +kernel) (by decide +kernel)
set_option maxRecDepth 20000 in
theorem gX5_perform_J4_setLength_d00df : GoodIn wsX5_perform (wsV RX5 343 RJ4 yJ4_setLength_d00df wsJ4_setLength_d00df) := goodIn_app (goodIn_of _ (by decide +kernel)) ggX5_perform_J4_setLength_d00df
set_option maxRecDepth 20000 in
theorem ggX5_perform_X0_keepSpare : GoodIn wsX5_perform wsX0_keepSpare := goodIn_r _ [219, 220, 221, 222, 223, 224, 225, 226, 227, 228, 229, 230, 231, 232, 233, 234, 235, 236, 237, 22, 238, 24, 127, 239, 80, 36, 81, 240, 188, 189, 190, 498, 499, 500, 501, 502, 503, 504, 505, 506, 507, 508, 474, 475, 476, 477] (by decide +kernel) (by decide +kernel)
set_option maxRecDepth 20000 in
theorem gX5_perform_X0_keepSpare : GoodIn wsX5_perform (wsV RX5 389 RX0 yX0_keepSpare wsX0_keepSpare) := goodIn_app (goodIn_of _ (by decide +kernel)) ggX5_perform_X0_keepSpare
set_option maxRecDepth 20000 in
theorem ggX5_perform_X4_size : GoodIn wsX5_perform wsX4_size := goodIn_r _ [244, 24, 474, 475, 476, 477] (by decide +kernel) (by decide +kernel)
set_option maxRecDepth 20000 in
theorem gX5_perform_X4_size : GoodIn wsX5_perform (wsV RX5 79 RX4 yX4_size wsX4_size) := goodIn_app (goodIn_of _ (by decide +kernel)) ggX5_perform_X4_size
set_option maxRecDepth 20000 in
theorem ggX5_perform_X5_isCarriedOut : GoodIn wsX5_perform wsX5_isCarriedOut := goodIn_ca (goodIn_r _ [249, 5, 11, 10, 250, 251, 252, 253, 22, 254, 126, 127, 255, 256, 257, 248, 258, 259, 260, 261, 262, 263, 264, 265, 266, 267, 24, 268, 269, 270, 271, 272, 273, 274, 275, 276, 277, 278, 279, 280, 281, 282, 283, 284, 285, 286, 287, 288, 225, 289, 232, 290, 291, 20, 21, 23, 292, 242, 243, 244, 293, 294, 295, 296, 230, 297, 298, 299, 300, 301, 302, 303, 122, 123, 124, 125, 304, 129, 130, 131, 305, 306, 307, 308, 228, 309, 310, 311, 312, 229, 313, 314, 315, 316, 317, 318, 319, 320, 321, 322, 323, 324, 325, 326, 327, 328, 329, 330, 331, 332, 333, 334, 335, 336, 337, 338, 339, 340, 341, 342, 343, 344, 345, 346, 227, 347, 348, 349, 350, 351, 352, 353, 354, 355, 356, 357, 358, 359, 360, 36, 361, 362, 363, 364, 365, 366, 367, 241, 368, 369, 370, 371, 372, 373, 374, 375, 376, 377, 378, 379, 380, 381, 382, 383, 384, 385, 233, 386, 387, 388, 389, 390, 391, 392, 393, 394, 395, 396, 397, 398, 399, 400, 401, 402, 403, 404, 405, 234, 406, 407, 408, 409, 410, 411, 412, 413, 414, 415, 416, 417, 418, 419, 420, 421, 422, 423, 424, 425, 426, 427, 428, 429, 430, 431, 432, 433, 434, 435, 436, 437, 438, 439, 440, 441, 442, 443, 444, 445, 446, 447, 448, 449, 450, 461, 462, 463, 464, 465, 466, 467, 468, 469, 470, 471, 472, 473, 501, 502, 503, 504, 505, 506, 507, 508, 474, 475, 476, 477, 509, 510, 511, 512] (by decide +kernel) (by decide +kernel)) (goodIn_sub (fun _ h => List.mem_cons_of_mem _ (List.mem_append_right _ h)) (by decide +kernel))
set_option maxRecDepth 20000 in
theorem gX5_perform_X5_isCarriedOut : GoodIn wsX5_perform (wsV RX5 395 RX5 yX5_isCarriedOut wsX5_isCarriedOut) := goodIn_app (goodIn_of _ (by decide +kernel)) ggX5_perform_X5_isCarriedOut
set_option maxRecDepth 20000 in
theorem ggX5_perform_X0_bringSpareBack : GoodIn wsX5_perform wsX0_bringSpareBack := goodIn_r _ [454, 220, 221, 222, 223, 224, 225, 226, 227, 228, 229, 230, 231, 232, 233, 234, 235, 236, 237, 22, 238, 24, 127, 239, 80, 36, 81, 240, 188, 189, 190, 498, 499, 500, 501, 502, 503, 504, 505, 506, 507, 508, 474, 475, 476, 477] (by decide +kernel) (by decide +kernel)
set_option maxRecDepth 20000 in
theorem gX5_perform_X0_bringSpareBack : GoodIn wsX5_perform (wsV RX5 398 RX0 yX0_bringSpareBack wsX0_bringSpareBack) := goodIn_app (goodIn_of _ (by decide +kernel)) ggX5_perform_X0_bringSpareBack
set_option maxRecDepth 20000 in
theorem ggX5_perform_X0_countSpare : GoodIn wsX5_perform wsX0_countSpare := goodIn_r _ [458, 220, 221, 459, 460, 80, 36, 81, 498, 499, 500] (by decide +kernel) (by decide +kernel)
set_option maxRecDepth 20000 in
theorem gX5_perform_X0_countSpare : GoodIn wsX5_perform (wsV RX5 403 RX0 yX0_countSpare wsX0_countSpare) := goodIn_app (goodIn_of _ (by decide +kernel)) ggX5_perform_X0_countSpare
theorem dX5_perform_0 : decode cX5_perform 0 = .ok (.aload_n 0, 1) := by decide +kernel
theorem dX5_perform_1 : decode cX5_perform 1 = .ok (.getfield 36, 3) := by decide +kernel
theorem dX5_perform_4 : decode cX5_perform 4 = .ok (.aload_n 0, 1) := by decide +kernel
theorem dX5_perform_5 : decode cX5_perform 5 = .ok (.getfield 43, 3) := by decide +kernel
theorem dX5_perform_8 : decode cX5_perform 8 = .ok (.invokevirtual 380, 3) := by decide +kernel
theorem dX5_perform_11 : decode cX5_perform 11 = .ok (.istore_n 1, 1) := by decide +kernel
theorem dX5_perform_12 : decode cX5_perform 12 = .ok (.aload_n 0, 1) := by decide +kernel
theorem dX5_perform_13 : decode cX5_perform 13 = .ok (.getfield 43, 3) := by decide +kernel
theorem dX5_perform_16 : decode cX5_perform 16 = .ok (.iconst 0, 1) := by decide +kernel
theorem dX5_perform_17 : decode cX5_perform 17 = .ok (.invokevirtual 343, 3) := by decide +kernel
theorem dX5_perform_20 : decode cX5_perform 20 = .ok (.iload_n 1, 1) := by decide +kernel
theorem dX5_perform_21 : decode cX5_perform 21 = .ok (.ifCond .ne 25, 3) := by decide +kernel
theorem dX5_perform_24 : decode cX5_perform 24 = .ok (.aload_n 0, 1) := by decide +kernel
theorem dX5_perform_25 : decode cX5_perform 25 = .ok (.aload_n 0, 1) := by decide +kernel
theorem dX5_perform_26 : decode cX5_perform 26 = .ok (.getfield 36, 3) := by decide +kernel
theorem dX5_perform_29 : decode cX5_perform 29 = .ok (.getfield 384, 3) := by decide +kernel
theorem dX5_perform_32 : decode cX5_perform 32 = .ok (.putfield 61, 3) := by decide +kernel
theorem dX5_perform_35 : decode cX5_perform 35 = .ok (.new 68, 3) := by decide +kernel
theorem dX5_perform_38 : decode cX5_perform 38 = .ok (.dup, 1) := by decide +kernel
theorem dX5_perform_39 : decode cX5_perform 39 = .ok (.ldc_w 387, 3) := by decide +kernel
theorem dX5_perform_42 : decode cX5_perform 42 = .ok (.invokespecial 72, 3) := by decide +kernel
theorem dX5_perform_45 : decode cX5_perform 45 = .ok (.athrow, 1) := by decide +kernel
theorem dX5_perform_46 : decode cX5_perform 46 = .ok (.aload_n 0, 1) := by decide +kernel
theorem dX5_perform_47 : decode cX5_perform 47 = .ok (.getfield 22, 3) := by decide +kernel
theorem dX5_perform_50 : decode cX5_perform 50 = .ok (.aload_n 0, 1) := by decide +kernel
theorem dX5_perform_51 : decode cX5_perform 51 = .ok (.getfield 10, 3) := by decide +kernel
theorem dX5_perform_54 : decode cX5_perform 54 = .ok (.invokevirtual 389, 3) := by decide +kernel
theorem dX5_perform_57 : decode cX5_perform 57 = .ok (.iconst 0, 1) := by decide +kernel
theorem dX5_perform_58 : decode cX5_perform 58 = .ok (.istore_n 2, 1) := by decide +kernel
theorem dX5_perform_59 : decode cX5_perform 59 = .ok (.iload_n 2, 1) := by decide +kernel
theorem dX5_perform_60 : decode cX5_perform 60 = .ok (.aload_n 0, 1) := by decide +kernel
theorem dX5_perform_61 : decode cX5_perform 61 = .ok (.getfield 36, 3) := by decide +kernel
theorem dX5_perform_64 : decode cX5_perform 64 = .ok (.getfield 392, 3) := by decide +kernel
theorem dX5_perform_67 : decode cX5_perform 67 = .ok (.invokevirtual 79, 3) := by decide +kernel
theorem dX5_perform_70 : decode cX5_perform 70 = .ok (.if_icmp .ge 39, 3) := by decide +kernel
theorem dX5_perform_73 : decode cX5_perform 73 = .ok (.aload_n 0, 1) := by decide +kernel
theorem dX5_perform_74 : decode cX5_perform 74 = .ok (.iload_n 2, 1) := by decide +kernel
theorem dX5_perform_75 : decode cX5_perform 75 = .ok (.invokevirtual 395, 3) := by decide +kernel
theorem dX5_perform_78 : decode cX5_perform 78 = .ok (.ifCond .ne 25, 3) := by decide +kernel
