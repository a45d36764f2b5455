theorem dX6_firstStart_0 : decode cX6_firstStart 0 = .ok (.aload_n 0, 1) := by decide +kernel
theorem dX6_firstStart_1 : decode cX6_firstStart 1 = .ok (.iload_n 1, 1) := by decide +kernel
theorem dX6_firstStart_2 : decode cX6_firstStart 2 = .ok (.invokevirtual 104, 3) := by decide +kernel
theorem dX6_firstStart_5 : decode cX6_firstStart 5 = .ok (.ifCond .eq 11, 3) := by decide +kernel
theorem dX6_firstStart_8 : decode cX6_firstStart 8 = .ok (.aload_n 0, 1) := by decide +kernel
theorem dX6_firstStart_9 : decode cX6_firstStart 9 = .ok (.iload_n 2, 1) := by decide +kernel
theorem dX6_firstStart_10 : decode cX6_firstStart 10 = .ok (.invokevirtual 78, 3) := by decide +kernel
theorem dX6_firstStart_13 : decode cX6_firstStart 13 = .ok (.ifCond .ne 9, 3) := by decide +kernel
theorem dX6_firstStart_16 : decode cX6_firstStart 16 = .ok (.aload_n 0, 1) := by decide +kernel
theorem dX6_firstStart_17 : decode cX6_firstStart 17 = .ok (.iconst 1, 1) := by decide +kernel
theorem dX6_firstStart_18 : decode cX6_firstStart 18 = .ok (.invokevirtual 45, 3) := by decide +kernel
theorem dX6_firstStart_21 : decode cX6_firstStart 21 = .ok (.ireturn, 1) := by decide +kernel
theorem dX6_firstStart_22 : decode cX6_firstStart 22 = .ok (.iload_n 3, 1) := by decide +kernel
theorem dX6_firstStart_23 : decode cX6_firstStart 23 = .ok (.iload 4, 2) := by decide +kernel
theorem dX6_firstStart_25 : decode cX6_firstStart 25 = .ok (.invokestatic 192, 3) := by decide +kernel
theorem dX6_firstStart_28 : decode cX6_firstStart 28 = .ok (.ifCond .ne 9, 3) := by decide +kernel
theorem dX6_firstStart_31 : decode cX6_firstStart 31 = .ok (.aload_n 0, 1) := by decide +kernel
theorem dX6_firstStart_32 : decode cX6_firstStart 32 = .ok (.iconst 2, 1) := by decide +kernel
theorem dX6_firstStart_33 : decode cX6_firstStart 33 = .ok (.invokevirtual 45, 3) := by decide +kernel
theorem dX6_firstStart_36 : decode cX6_firstStart 36 = .ok (.ireturn, 1) := by decide +kernel
theorem dX6_firstStart_37 : decode cX6_firstStart 37 = .ok (.aload_n 0, 1) := by decide +kernel
theorem dX6_firstStart_38 : decode cX6_firstStart 38 = .ok (.aload_n 0, 1) := by decide +kernel
theorem dX6_firstStart_39 : decode cX6_firstStart 39 = .ok (.iload_n 2, 1) := by decide +kernel
theorem dX6_firstStart_40 : decode cX6_firstStart 40 = .ok (.iload_n 3, 1) := by decide +kernel
theorem dX6_firstStart_41 : decode cX6_firstStart 41 = .ok (.invokevirtual 130, 3) := by decide +kernel
theorem dX6_firstStart_44 : decode cX6_firstStart 44 = .ok (.invokevirtual 119, 3) := by decide +kernel
theorem dX6_firstStart_47 : decode cX6_firstStart 47 = .ok (.aload_n 0, 1) := by decide +kernel
theorem dX6_firstStart_48 : decode cX6_firstStart 48 = .ok (.iload_n 2, 1) := by decide +kernel
theorem dX6_firstStart_49 : decode cX6_firstStart 49 = .ok (.iconst 0, 1) := by decide +kernel
theorem dX6_firstStart_50 : decode cX6_firstStart 50 = .ok (.invokevirtual 81, 3) := by decide +kernel
theorem dX6_firstStart_53 : decode cX6_firstStart 53 = .ok (.iadd, 1) := by decide +kernel
theorem dX6_firstStart_54 : decode cX6_firstStart 54 = .ok (.istore 5, 2) := by decide +kernel
theorem dX6_firstStart_56 : decode cX6_firstStart 56 = .ok (.iload 4, 2) := by decide +kernel
theorem dX6_firstStart_58 : decode cX6_firstStart 58 = .ok (.istore 6, 2) := by decide +kernel
theorem dX6_firstStart_60 : decode cX6_firstStart 60 = .ok (.iload 6, 2) := by decide +kernel
theorem dX6_firstStart_62 : decode cX6_firstStart 62 = .ok (.sipush 960, 3) := by decide +kernel
theorem dX6_firstStart_65 : decode cX6_firstStart 65 = .ok (.if_icmp .ge 31, 3) := by decide +kernel
theorem dX6_firstStart_68 : decode cX6_firstStart 68 = .ok (.aload_n 0, 1) := by decide +kernel
theorem dX6_firstStart_69 : decode cX6_firstStart 69 = .ok (.iload_n 1, 1) := by decide +kernel
theorem dX6_firstStart_70 : decode cX6_firstStart 70 = .ok (.iload_n 2, 1) := by decide +kernel
theorem dX6_firstStart_71 : decode cX6_firstStart 71 = .ok (.iload_n 3, 1) := by decide +kernel
theorem dX6_firstStart_72 : decode cX6_firstStart 72 = .ok (.iload 6, 2) := by decide +kernel
theorem dX6_firstStart_74 : decode cX6_firstStart 74 = .ok (.iload 5, 2) := by decide +kernel
theorem dX6_firstStart_76 : decode cX6_firstStart 76 = .ok (.iconst (-1), 1) := by decide +kernel
theorem dX6_firstStart_77 : decode cX6_firstStart 77 = .ok (.invokevirtual 188, 3) := by decide +kernel
theorem dX6_firstStart_80 : decode cX6_firstStart 80 = .ok (.ifCond .ne 10, 3) := by decide +kernel
theorem dX6_firstStart_83 : decode cX6_firstStart 83 = .ok (.aload_n 0, 1) := by decide +kernel
theorem dX6_firstStart_84 : decode cX6_firstStart 84 = .ok (.iload 6, 2) := by decide +kernel
theorem dX6_firstStart_86 : decode cX6_firstStart 86 = .ok (.invokevirtual 71, 3) := by decide +kernel
theorem dX6_firstStart_89 : decode cX6_firstStart 89 = .ok (.ireturn, 1) := by decide +kernel
theorem dX6_firstStart_90 : decode cX6_firstStart 90 = .ok (.iinc 6 1, 3) := by decide +kernel
theorem dX6_firstStart_93 : decode cX6_firstStart 93 = .ok (.goto (-33), 3) := by decide +kernel
theorem dX6_firstStart_96 : decode cX6_firstStart 96 = .ok (.aload_n 0, 1) := by decide +kernel
theorem dX6_firstStart_97 : decode cX6_firstStart 97 = .ok (.iconst 3, 1) := by decide +kernel
theorem dX6_firstStart_98 : decode cX6_firstStart 98 = .ok (.invokevirtual 45, 3) := by decide +kernel
theorem dX6_firstStart_101 : decode cX6_firstStart 101 = .ok (.ireturn, 1) := by decide +kernel
set_option maxRecDepth 20000 in
theorem ggX6_findsAt_X6_in : GoodIn wsX6_findsAt wsX6_in := goodIn_r _ [7] (by decide +kernel) (by decide +kernel)
set_option maxRecDepth 20000 in
theorem gX6_findsAt_X6_in : GoodIn wsX6_findsAt (va_wsS RX6 64 yX6_in wsX6_in) := goodIn_app (goodIn_of _ (by decide +kernel)) ggX6_findsAt_X6_in
set_option maxRecDepth 20000 in
theorem ggX6_findsAt_X6_showAt : GoodIn wsX6_findsAt wsX6_showAt := goodIn_ca (goodIn_r _ [11, 1, 83, 84, 85, 86, 87, 88, 89, 90, 91, 92, 93, 94, 95, 96, 97, 98, 99, 100, 101, 102, 103, 104, 105, 106, 107, 108, 109] (by decide +kernel) (by decide +kernel)) (goodIn_sub (fun _ h => List.mem_cons_of_mem _ (List.mem_append_right _ h)) (by decide +kernel))
set_option maxRecDepth 20000 in
theorem gX6_findsAt_X6_showAt : GoodIn wsX6_findsAt (wsV RX6 89 RX6 yX6_showAt wsX6_showAt) := goodIn_app (goodIn_of _ (by decide +kernel)) ggX6_findsAt_X6_showAt
set_option maxRecDepth 20000 in
theorem ggX6_findsAt_X6_hallAt : GoodIn wsX6_findsAt wsX6_hallAt := goodIn_ca (goodIn_r _ [15, 1, 83, 84, 85, 86, 87, 88, 89, 90, 91, 92, 93, 94, 95, 96, 97, 98, 99, 100, 101, 102, 103, 104, 105, 106, 107, 108, 109] (by decide +kernel) (by decide +kernel)) (goodIn_sub (fun _ h => List.mem_cons_of_mem _ (List.mem_append_right _ h)) (by decide +kernel))
set_option maxRecDepth 20000 in
theorem gX6_findsAt_X6_hallAt : GoodIn wsX6_findsAt (wsV RX6 95 RX6 yX6_hallAt wsX6_hallAt) := goodIn_app (goodIn_of _ (by decide +kernel)) ggX6_findsAt_X6_hallAt
set_option maxRecDepth 20000 in
theorem ggX6_findsAt_X6_minutesOf : GoodIn wsX6_findsAt wsX6_minutesOf := goodIn_ca (goodIn_r _ [19, 8, 9, 10, 6, 11, 1, 20, 21, 22, 23, 83, 84, 85, 86, 87, 88, 89, 90, 91, 92, 93, 94, 95, 96, 97, 98, 99, 100, 101, 102, 103, 104, 105, 106, 107, 108, 109] (by decide +kernel) (by decide +kernel)) (goodIn_sub (fun _ h => List.mem_cons_of_mem _ (List.mem_append_right _ h)) (by decide +kernel))
set_option maxRecDepth 20000 in
theorem gX6_findsAt_X6_minutesOf : GoodIn wsX6_findsAt (wsV RX6 92 RX6 yX6_minutesOf wsX6_minutesOf) := goodIn_app (goodIn_of _ (by decide +kernel)) ggX6_findsAt_X6_minutesOf
set_option maxRecDepth 20000 in
theorem ggX6_findsAt_X6_breaks : GoodIn wsX6_findsAt wsX6_breaks := goodIn_ca (goodIn_r _ [27, 28, 29, 30, 31, 32, 33, 1, 34, 35, 36, 6, 37, 38, 39, 40, 41, 42, 12, 13, 14, 15, 20, 21, 22, 23, 43, 44, 45, 46, 47, 48, 49, 50, 51, 52, 53, 54, 8, 9, 10, 11, 55, 56, 57, 58, 16, 17, 18, 19, 59, 60, 61, 62, 63, 64, 65, 66, 67, 68, 69, 70, 4, 5, 7, 71, 72, 73, 74, 75, 76, 77, 78, 79, 80, 81, 82, 83, 84, 85, 86, 87, 88, 89, 90, 91, 92, 93, 94, 95, 96, 97, 98, 99, 100, 101, 102, 103, 104, 105, 106, 107, 108, 109] (by decide +kernel) (by decide +kernel)) (goodIn_sub (fun _ h => List.mem_cons_of_mem _ (List.mem_append_right _ h)) (by decide +kernel))
set_option maxRecDepth 20000 in
theorem gX6_findsAt_X6_breaks : GoodIn wsX6_findsAt (wsV RX6 188 RX6 yX6_breaks wsX6_breaks) := goodIn_app (goodIn_of _ (by decide +kernel)) ggX6_findsAt_X6_breaks
theorem dX6_findsAt_0 : decode cX6_findsAt 0 = .ok (.iconst 0, 1) := by decide +kernel
theorem dX6_findsAt_1 : decode cX6_findsAt 1 = .ok (.istore_n 3, 1) := by decide +kernel
theorem dX6_findsAt_2 : decode cX6_findsAt 2 = .ok (.iload_n 3, 1) := by decide +kernel
theorem dX6_findsAt_3 : decode cX6_findsAt 3 = .ok (.aload_n 0, 1) := by decide +kernel
theorem dX6_findsAt_4 : decode cX6_findsAt 4 = .ok (.getfield 9, 3) := by decide +kernel
theorem dX6_findsAt_7 : decode cX6_findsAt 7 = .ok (.iconst 1, 1) := by decide +kernel
theorem dX6_findsAt_8 : decode cX6_findsAt 8 = .ok (.iaload, 1) := by decide +kernel
theorem dX6_findsAt_9 : decode cX6_findsAt 9 = .ok (.if_icmp .ge 97, 3) := by decide +kernel
theorem dX6_findsAt_12 : decode cX6_findsAt 12 = .ok (.iload_n 2, 1) := by decide +kernel
theorem dX6_findsAt_13 : decode cX6_findsAt 13 = .ok (.iconst 0, 1) := by decide +kernel
theorem dX6_findsAt_14 : decode cX6_findsAt 14 = .ok (.sipush 959, 3) := by decide +kernel
theorem dX6_findsAt_17 : decode cX6_findsAt 17 = .ok (.invokestatic 64, 3) := by decide +kernel
theorem dX6_findsAt_20 : decode cX6_findsAt 20 = .ok (.ifCond .eq 86, 3) := by decide +kernel
theorem dX6_findsAt_23 : decode cX6_findsAt 23 = .ok (.iload_n 3, 1) := by decide +kernel
theorem dX6_findsAt_24 : decode cX6_findsAt 24 = .ok (.aload_n 0, 1) := by decide +kernel
theorem dX6_findsAt_25 : decode cX6_findsAt 25 = .ok (.iload_n 1, 1) := by decide +kernel
theorem dX6_findsAt_26 : decode cX6_findsAt 26 = .ok (.iconst 0, 1) := by decide +kernel
theorem dX6_findsAt_27 : decode cX6_findsAt 27 = .ok (.invokevirtual 89, 3) := by decide +kernel
theorem dX6_findsAt_30 : decode cX6_findsAt 30 = .ok (.if_icmp .eq 23, 3) := by decide +kernel
theorem dX6_findsAt_33 : decode cX6_findsAt 33 = .ok (.aload_n 0, 1) := by decide +kernel
theorem dX6_findsAt_34 : decode cX6_findsAt 34 = .ok (.iload_n 3, 1) := by decide +kernel
theorem dX6_findsAt_35 : decode cX6_findsAt 35 = .ok (.iconst 0, 1) := by decide +kernel
theorem dX6_findsAt_36 : decode cX6_findsAt 36 = .ok (.invokevirtual 95, 3) := by decide +kernel
theorem dX6_findsAt_39 : decode cX6_findsAt 39 = .ok (.aload_n 0, 1) := by decide +kernel
theorem dX6_findsAt_40 : decode cX6_findsAt 40 = .ok (.iload_n 1, 1) := by decide +kernel
theorem dX6_findsAt_41 : decode cX6_findsAt 41 = .ok (.bipush 7, 2) := by decide +kernel
theorem dX6_findsAt_43 : decode cX6_findsAt 43 = .ok (.invokevirtual 89, 3) := by decide +kernel
theorem dX6_findsAt_46 : decode cX6_findsAt 46 = .ok (.if_icmp .lt 7, 3) := by decide +kernel
theorem dX6_findsAt_49 : decode cX6_findsAt 49 = .ok (.iconst 1, 1) := by decide +kernel
theorem dX6_findsAt_50 : decode cX6_findsAt 50 = .ok (.goto 4, 3) := by decide +kernel
theorem dX6_findsAt_53 : decode cX6_findsAt 53 = .ok (.iconst 0, 1) := by decide +kernel
theorem dX6_findsAt_54 : decode cX6_findsAt 54 = .ok (.istore 4, 2) := by decide +kernel
theorem dX6_findsAt_56 : decode cX6_findsAt 56 = .ok (.iload 4, 2) := by decide +kernel
theorem dX6_findsAt_58 : decode cX6_findsAt 58 = .ok (.ifCond .eq 42, 3) := by decide +kernel
theorem dX6_findsAt_61 : decode cX6_findsAt 61 = .ok (.aload_n 0, 1) := by decide +kernel
theorem dX6_findsAt_62 : decode cX6_findsAt 62 = .ok (.iload_n 3, 1) := by decide +kernel
theorem dX6_findsAt_63 : decode cX6_findsAt 63 = .ok (.aload_n 0, 1) := by decide +kernel
theorem dX6_findsAt_64 : decode cX6_findsAt 64 = .ok (.iload_n 1, 1) := by decide +kernel
theorem dX6_findsAt_65 : decode cX6_findsAt 65 = .ok (.iconst 1, 1) := by decide +kernel
theorem dX6_findsAt_66 : decode cX6_findsAt 66 = .ok (.invokevirtual 89, 3) := by decide +kernel
theorem dX6_findsAt_69 : decode cX6_findsAt 69 = .ok (.aload_n 0, 1) := by decide +kernel
theorem dX6_findsAt_70 : decode cX6_findsAt 70 = .ok (.iload_n 1, 1) := by decide +kernel
theorem dX6_findsAt_71 : decode cX6_findsAt 71 = .ok (.iconst 2, 1) := by decide +kernel
theorem dX6_findsAt_72 : decode cX6_findsAt 72 = .ok (.invokevirtual 89, 3) := by decide +kernel
theorem dX6_findsAt_75 : decode cX6_findsAt 75 = .ok (.iload_n 2, 1) := by decide +kernel
theorem dX6_findsAt_76 : decode cX6_findsAt 76 = .ok (.aload_n 0, 1) := by decide +kernel
theorem dX6_findsAt_77 : decode cX6_findsAt 77 = .ok (.iload_n 1, 1) := by decide +kernel
theorem dX6_findsAt_78 : decode cX6_findsAt 78 = .ok (.invokevirtual 92, 3) := by decide +kernel
theorem dX6_findsAt_81 : decode cX6_findsAt 81 = .ok (.iload_n 1, 1) := by decide +kernel
theorem dX6_findsAt_82 : decode cX6_findsAt 82 = .ok (.invokevirtual 188, 3) := by decide +kernel
theorem dX6_findsAt_85 : decode cX6_findsAt 85 = .ok (.ifCond .ne 15, 3) := by decide +kernel
theorem dX6_findsAt_88 : decode cX6_findsAt 88 = .ok (.aload_n 0, 1) := by decide +kernel
theorem dX6_findsAt_89 : decode cX6_findsAt 89 = .ok (.iload_n 3, 1) := by decide +kernel
theorem dX6_findsAt_90 : decode cX6_findsAt 90 = .ok (.putfield 212, 3) := by decide +kernel
theorem dX6_findsAt_93 : decode cX6_findsAt 93 = .ok (.aload_n 0, 1) := by decide +kernel
theorem dX6_findsAt_94 : decode cX6_findsAt 94 = .ok (.iload_n 2, 1) := by decide +kernel
theorem dX6_findsAt_95 : decode cX6_findsAt 95 = .ok (.putfield 215, 3) := by decide +kernel
theorem dX6_findsAt_98 : decode cX6_findsAt 98 = .ok (.iconst 1, 1) := by decide +kernel
theorem dX6_findsAt_99 : decode cX6_findsAt 99 = .ok (.ireturn, 1) := by decide +kernel
theorem dX6_findsAt_100 : decode cX6_findsAt 100 = .ok (.iinc 3 1, 3) := by decide +kernel
theorem dX6_findsAt_103 : decode cX6_findsAt 103 = .ok (.goto (-101), 3) := by decide +kernel
theorem dX6_findsAt_106 : decode cX6_findsAt 106 = .ok (.iconst 0, 1) := by decide +kernel
theorem dX6_findsAt_107 : decode cX6_findsAt 107 = .ok (.ireturn, 1) := by decide +kernel
set_option maxRecDepth 20000 in
theorem ggX6_findsPlace_X6_showAt : GoodIn wsX6_findsPlace wsX6_showAt := goodIn_ca (goodIn_r _ [6, 1, 87, 88, 89, 90, 91, 92, 93, 94, 95, 96, 97, 98, 99, 100, 101, 102, 103, 104, 105, 106, 107, 108, 109, 110, 111, 112, 113] (by decide +kernel) (by decide +kernel)) (goodIn_sub (fun _ h => List.mem_cons_of_mem _ (List.mem_append_right _ h)) (by decide +kernel))
set_option maxRecDepth 20000 in
theorem gX6_findsPlace_X6_showAt : GoodIn wsX6_findsPlace (wsV RX6 89 RX6 yX6_showAt wsX6_showAt) := goodIn_app (goodIn_of _ (by decide +kernel)) ggX6_findsPlace_X6_showAt
set_option maxRecDepth 20000 in
theorem ggX6_findsPlace_X6_findsAt : GoodIn wsX6_findsPlace wsX6_findsAt := goodIn_ca (goodIn_r _ [10, 1, 11, 12, 13, 14, 5, 15, 2, 3, 4, 6, 16, 17, 18, 19, 20, 21, 22, 23, 24, 25, 26, 27, 28, 29, 30, 31, 32, 33, 34, 35, 36, 37, 38, 39, 40, 41, 42, 43, 44, 45, 46, 47, 48, 49, 50, 51, 52, 53, 54, 55, 56, 57, 58, 59, 60, 61, 62, 63, 64, 65, 66, 67, 68, 69, 70, 71, 72, 73, 74, 75, 76, 77, 78, 79, 80, 81, 82, 83, 84, 85, 86, 87, 88, 89, 90, 91, 92, 93, 94, 95, 96, 97, 98, 99, 100, 101, 102, 103, 104, 105, 106, 107, 108, 109, 110, 111, 112, 113] (by decide +kernel) (by decide +kernel)) (goodIn_sub (fun _ h => List.mem_cons_of_mem _ (List.mem_append_right _ h)) (by decide +kernel))
set_option maxRecDepth 20000 in
theorem gX6_findsPlace_X6_findsAt : GoodIn wsX6_findsPlace (wsV RX6 218 RX6 yX6_findsAt wsX6_findsAt) := goodIn_app (goodIn_of _ (by decide +kernel)) ggX6_findsPlace_X6_findsAt
theorem dX6_findsPlace_0 : decode cX6_findsPlace 0 = .ok (.aload_n 0, 1) := by decide +kernel
theorem dX6_findsPlace_1 : decode cX6_findsPlace 1 = .ok (.iload_n 1, 1) := by decide +kernel
theorem dX6_findsPlace_2 : decode cX6_findsPlace 2 = .ok (.iconst 3, 1) := by decide +kernel
theorem dX6_findsPlace_3 : decode cX6_findsPlace 3 = .ok (.invokevirtual 89, 3) := by decide +kernel
theorem dX6_findsPlace_6 : decode cX6_findsPlace 6 = .ok (.istore_n 2, 1) := by decide +kernel
theorem dX6_findsPlace_7 : decode cX6_findsPlace 7 = .ok (.iconst 0, 1) := by decide +kernel
theorem dX6_findsPlace_8 : decode cX6_findsPlace 8 = .ok (.istore_n 3, 1) := by decide +kernel
theorem dX6_findsPlace_9 : decode cX6_findsPlace 9 = .ok (.iconst 0, 1) := by decide +kernel
theorem dX6_findsPlace_10 : decode cX6_findsPlace 10 = .ok (.istore 4, 2) := by decide +kernel
theorem dX6_findsPlace_12 : decode cX6_findsPlace 12 = .ok (.iload 4, 2) := by decide +kernel
theorem dX6_findsPlace_14 : decode cX6_findsPlace 14 = .ok (.aload_n 0, 1) := by decide +kernel
theorem dX6_findsPlace_15 : decode cX6_findsPlace 15 = .ok (.getfield 9, 3) := by decide +kernel
theorem dX6_findsPlace_18 : decode cX6_findsPlace 18 = .ok (.bipush 12, 2) := by decide +kernel
theorem dX6_findsPlace_20 : decode cX6_findsPlace 20 = .ok (.iaload, 1) := by decide +kernel
theorem dX6_findsPlace_21 : decode cX6_findsPlace 21 = .ok (.if_icmp .gt 43, 3) := by decide +kernel
theorem dX6_findsPlace_24 : decode cX6_findsPlace 24 = .ok (.iload_n 3, 1) := by decide +kernel
theorem dX6_findsPlace_25 : decode cX6_findsPlace 25 = .ok (.ifCond .ne 39, 3) := by decide +kernel
theorem dX6_findsPlace_28 : decode cX6_findsPlace 28 = .ok (.aload_n 0, 1) := by decide +kernel
theorem dX6_findsPlace_29 : decode cX6_findsPlace 29 = .ok (.iload_n 1, 1) := by decide +kernel
theorem dX6_findsPlace_30 : decode cX6_findsPlace 30 = .ok (.iload_n 2, 1) := by decide +kernel
theorem dX6_findsPlace_31 : decode cX6_findsPlace 31 = .ok (.iload 4, 2) := by decide +kernel
theorem dX6_findsPlace_33 : decode cX6_findsPlace 33 = .ok (.isub, 1) := by decide +kernel
theorem dX6_findsPlace_34 : decode cX6_findsPlace 34 = .ok (.invokevirtual 218, 3) := by decide +kernel
theorem dX6_findsPlace_37 : decode cX6_findsPlace 37 = .ok (.ifCond .ne 15, 3) := by decide +kernel
theorem dX6_findsPlace_40 : decode cX6_findsPlace 40 = .ok (.aload_n 0, 1) := by decide +kernel
theorem dX6_findsPlace_41 : decode cX6_findsPlace 41 = .ok (.iload_n 1, 1) := by decide +kernel
theorem dX6_findsPlace_42 : decode cX6_findsPlace 42 = .ok (.iload_n 2, 1) := by decide +kernel
theorem dX6_findsPlace_43 : decode cX6_findsPlace 43 = .ok (.iload 4, 2) := by decide +kernel
theorem dX6_findsPlace_45 : decode cX6_findsPlace 45 = .ok (.iadd, 1) := by decide +kernel
theorem dX6_findsPlace_46 : decode cX6_findsPlace 46 = .ok (.invokevirtual 218, 3) := by decide +kernel
theorem dX6_findsPlace_49 : decode cX6_findsPlace 49 = .ok (.ifCond .eq 7, 3) := by decide +kernel
theorem dX6_findsPlace_52 : decode cX6_findsPlace 52 = .ok (.iconst 1, 1) := by decide +kernel
theorem dX6_findsPlace_53 : decode cX6_findsPlace 53 = .ok (.goto 4, 3) := by decide +kernel
theorem dX6_findsPlace_56 : decode cX6_findsPlace 56 = .ok (.iconst 0, 1) := by decide +kernel
theorem dX6_findsPlace_57 : decode cX6_findsPlace 57 = .ok (.istore_n 3, 1) := by decide +kernel
theorem dX6_findsPlace_58 : decode cX6_findsPlace 58 = .ok (.iinc 4 1, 3) := by decide +kernel
theorem dX6_findsPlace_61 : decode cX6_findsPlace 61 = .ok (.goto (-49), 3) := by decide +kernel
theorem dX6_findsPlace_64 : decode cX6_findsPlace 64 = .ok (.iload_n 3, 1) := by decide +kernel
theorem dX6_findsPlace_65 : decode cX6_findsPlace 65 = .ok (.ireturn, 1) := by decide +kernel
set_option maxRecDepth 20000 in
theorem ggX6_nextOut_X6_showAt : GoodIn wsX6_nextOut wsX6_showAt := goodIn_ca (goodIn_r _ [6, 1, 7, 8, 9, 10, 11, 12, 13, 14, 15, 16, 17, 18, 19, 20, 21, 22, 23, 24, 25, 26, 27, 28, 29, 30, 31, 32, 33] (by decide +kernel) (by decide +kernel)) (goodIn_sub (fun _ h => List.mem_cons_of_mem _ (List.mem_append_right _ h)) (by decide +kernel))
set_option maxRecDepth 20000 in
theorem gX6_nextOut_X6_showAt : GoodIn wsX6_nextOut (wsV RX6 89 RX6 yX6_showAt wsX6_showAt) := goodIn_app (goodIn_of _ (by decide +kernel)) ggX6_nextOut_X6_showAt
theorem dX6_nextOut_0 : decode cX6_nextOut 0 = .ok (.iconst (-1), 1) := by decide +kernel
theorem dX6_nextOut_1 : decode cX6_nextOut 1 = .ok (.istore_n 1, 1) := by decide +kernel
theorem dX6_nextOut_2 : decode cX6_nextOut 2 = .ok (.iconst 0, 1) := by decide +kernel
theorem dX6_nextOut_3 : decode cX6_nextOut 3 = .ok (.istore_n 2, 1) := by decide +kernel
theorem dX6_nextOut_4 : decode cX6_nextOut 4 = .ok (.iload_n 2, 1) := by decide +kernel
theorem dX6_nextOut_5 : decode cX6_nextOut 5 = .ok (.aload_n 0, 1) := by decide +kernel
theorem dX6_nextOut_6 : decode cX6_nextOut 6 = .ok (.getfield 9, 3) := by decide +kernel
theorem dX6_nextOut_9 : decode cX6_nextOut 9 = .ok (.iconst 4, 1) := by decide +kernel
theorem dX6_nextOut_10 : decode cX6_nextOut 10 = .ok (.iaload, 1) := by decide +kernel
theorem dX6_nextOut_11 : decode cX6_nextOut 11 = .ok (.if_icmp .ge 98, 3) := by decide +kernel
theorem dX6_nextOut_14 : decode cX6_nextOut 14 = .ok (.aload_n 0, 1) := by decide +kernel
theorem dX6_nextOut_15 : decode cX6_nextOut 15 = .ok (.iload_n 2, 1) := by decide +kernel
theorem dX6_nextOut_16 : decode cX6_nextOut 16 = .ok (.bipush 8, 2) := by decide +kernel
theorem dX6_nextOut_18 : decode cX6_nextOut 18 = .ok (.invokevirtual 89, 3) := by decide +kernel
theorem dX6_nextOut_21 : decode cX6_nextOut 21 = .ok (.iconst 2, 1) := by decide +kernel
theorem dX6_nextOut_22 : decode cX6_nextOut 22 = .ok (.if_icmp .ne 7, 3) := by decide +kernel
theorem dX6_nextOut_25 : decode cX6_nextOut 25 = .ok (.iconst 1, 1) := by decide +kernel
theorem dX6_nextOut_26 : decode cX6_nextOut 26 = .ok (.goto 4, 3) := by decide +kernel
theorem dX6_nextOut_29 : decode cX6_nextOut 29 = .ok (.iconst 0, 1) := by decide +kernel
theorem dX6_nextOut_30 : decode cX6_nextOut 30 = .ok (.istore_n 3, 1) := by decide +kernel
theorem dX6_nextOut_31 : decode cX6_nextOut 31 = .ok (.iload_n 3, 1) := by decide +kernel
theorem dX6_nextOut_32 : decode cX6_nextOut 32 = .ok (.ifCond .eq 57, 3) := by decide +kernel
theorem dX6_nextOut_35 : decode cX6_nextOut 35 = .ok (.iload_n 1, 1) := by decide +kernel
theorem dX6_nextOut_36 : decode cX6_nextOut 36 = .ok (.iconst (-1), 1) := by decide +kernel
theorem dX6_nextOut_37 : decode cX6_nextOut 37 = .ok (.if_icmp .eq 48, 3) := by decide +kernel
theorem dX6_nextOut_40 : decode cX6_nextOut 40 = .ok (.aload_n 0, 1) := by decide +kernel
theorem dX6_nextOut_41 : decode cX6_nextOut 41 = .ok (.iload_n 2, 1) := by decide +kernel
theorem dX6_nextOut_42 : decode cX6_nextOut 42 = .ok (.iconst 2, 1) := by decide +kernel
theorem dX6_nextOut_43 : decode cX6_nextOut 43 = .ok (.invokevirtual 89, 3) := by decide +kernel
theorem dX6_nextOut_46 : decode cX6_nextOut 46 = .ok (.aload_n 0, 1) := by decide +kernel
theorem dX6_nextOut_47 : decode cX6_nextOut 47 = .ok (.iload_n 1, 1) := by decide +kernel
theorem dX6_nextOut_48 : decode cX6_nextOut 48 = .ok (.iconst 2, 1) := by decide +kernel
theorem dX6_nextOut_49 : decode cX6_nextOut 49 = .ok (.invokevirtual 89, 3) := by decide +kernel
theorem dX6_nextOut_52 : decode cX6_nextOut 52 = .ok (.if_icmp .lt 33, 3) := by decide +kernel
theorem dX6_nextOut_55 : decode cX6_nextOut 55 = .ok (.aload_n 0, 1) := by decide +kernel
theorem dX6_nextOut_56 : decode cX6_nextOut 56 = .ok (.iload_n 2, 1) := by decide +kernel
theorem dX6_nextOut_57 : decode cX6_nextOut 57 = .ok (.iconst 2, 1) := by decide +kernel
theorem dX6_nextOut_58 : decode cX6_nextOut 58 = .ok (.invokevirtual 89, 3) := by decide +kernel
theorem dX6_nextOut_61 : decode cX6_nextOut 61 = .ok (.aload_n 0, 1) := by decide +kernel
theorem dX6_nextOut_62 : decode cX6_nextOut 62 = .ok (.iload_n 1, 1) := by decide +kernel
theorem dX6_nextOut_63 : decode cX6_nextOut 63 = .ok (.iconst 2, 1) := by decide +kernel
theorem dX6_nextOut_64 : decode cX6_nextOut 64 = .ok (.invokevirtual 89, 3) := by decide +kernel
theorem dX6_nextOut_67 : decode cX6_nextOut 67 = .ok (.if_icmp .ne 22, 3) := by decide +kernel
theorem dX6_nextOut_70 : decode cX6_nextOut 70 = .ok (.aload_n 0, 1) := by decide +kernel
theorem dX6_nextOut_71 : decode cX6_nextOut 71 = .ok (.iload_n 2, 1) := by decide +kernel
theorem dX6_nextOut_72 : decode cX6_nextOut 72 = .ok (.iconst 3, 1) := by decide +kernel
theorem dX6_nextOut_73 : decode cX6_nextOut 73 = .ok (.invokevirtual 89, 3) := by decide +kernel
theorem dX6_nextOut_76 : decode cX6_nextOut 76 = .ok (.aload_n 0, 1) := by decide +kernel
theorem dX6_nextOut_77 : decode cX6_nextOut 77 = .ok (.iload_n 1, 1) := by decide +kernel
theorem dX6_nextOut_78 : decode cX6_nextOut 78 = .ok (.iconst 3, 1) := by decide +kernel
theorem dX6_nextOut_79 : decode cX6_nextOut 79 = .ok (.invokevirtual 89, 3) := by decide +kernel
theorem dX6_nextOut_82 : decode cX6_nextOut 82 = .ok (.if_icmp .ge 7, 3) := by decide +kernel
theorem dX6_nextOut_85 : decode cX6_nextOut 85 = .ok (.iconst 1, 1) := by decide +kernel
theorem dX6_nextOut_86 : decode cX6_nextOut 86 = .ok (.goto 4, 3) := by decide +kernel
theorem dX6_nextOut_89 : decode cX6_nextOut 89 = .ok (.iconst 0, 1) := by decide +kernel
theorem dX6_nextOut_90 : decode cX6_nextOut 90 = .ok (.istore 4, 2) := by decide +kernel
theorem dX6_nextOut_92 : decode cX6_nextOut 92 = .ok (.iload 4, 2) := by decide +kernel
theorem dX6_nextOut_94 : decode cX6_nextOut 94 = .ok (.ifCond .eq 7, 3) := by decide +kernel
theorem dX6_nextOut_97 : decode cX6_nextOut 97 = .ok (.iload_n 2, 1) := by decide +kernel
theorem dX6_nextOut_98 : decode cX6_nextOut 98 = .ok (.goto 4, 3) := by decide +kernel
theorem dX6_nextOut_101 : decode cX6_nextOut 101 = .ok (.iload_n 1, 1) := by decide +kernel
theorem dX6_nextOut_102 : decode cX6_nextOut 102 = .ok (.istore_n 1, 1) := by decide +kernel
theorem dX6_nextOut_103 : decode cX6_nextOut 103 = .ok (.iinc 2 1, 3) := by decide +kernel
theorem dX6_nextOut_106 : decode cX6_nextOut 106 = .ok (.goto (-102), 3) := by decide +kernel
theorem dX6_nextOut_109 : decode cX6_nextOut 109 = .ok (.iload_n 1, 1) := by decide +kernel
theorem dX6_nextOut_110 : decode cX6_nextOut 110 = .ok (.ireturn, 1) := by decide +kernel
set_option maxRecDepth 20000 in
theorem ggX6_treats_X6_showAt : GoodIn wsX6_treats wsX6_showAt := goodIn_ca (goodIn_r _ [8, 1, 95, 96, 97, 98, 99, 100, 101, 102, 103, 104, 105, 106, 107, 108, 109, 110, 111, 112, 113, 114, 115, 116, 117, 118, 119, 120, 121] (by decide +kernel) (by decide +kernel)) (goodIn_sub (fun _ h => List.mem_cons_of_mem _ (List.mem_append_right _ h)) (by decide +kernel))
set_option maxRecDepth 20000 in
theorem gX6_treats_X6_showAt : GoodIn wsX6_treats (wsV RX6 89 RX6 yX6_showAt wsX6_showAt) := goodIn_app (goodIn_of _ (by decide +kernel)) ggX6_treats_X6_showAt
set_option maxRecDepth 20000 in
theorem ggX6_treats_X6_findsPlace : GoodIn wsX6_treats wsX6_findsPlace := goodIn_ca (goodIn_r _ [12, 1, 4, 5, 6, 7, 8, 13, 14, 15, 16, 2, 3, 17, 18, 19, 20, 21, 22, 23, 24, 25, 26, 27, 28, 29, 30, 31, 32, 33, 34, 35, 36, 37, 38, 39, 40, 41, 42, 43, 44, 45, 46, 47, 48, 49, 50, 51, 52, 53, 54, 55, 56, 57, 58, 59, 60, 61, 62, 63, 64, 65, 66, 67, 68, 69, 70, 71, 72, 73, 74, 75, 76, 77, 78, 79, 80, 81, 82, 83, 84, 85, 86, 87, 88, 89, 90, 95, 96, 97, 98, 99, 100, 101, 102, 103, 104, 105, 106, 107, 108, 109, 110, 111, 112, 113, 114, 115, 116, 117, 118, 119, 120, 121] (by decide +kernel) (by decide +kernel)) (goodIn_sub (fun _ h => List.mem_cons_of_mem _ (List.mem_append_right _ h)) (by decide +kernel))
set_option maxRecDepth 20000 in
theorem gX6_treats_X6_findsPlace : GoodIn wsX6_treats (wsV RX6 221 RX6 yX6_findsPlace wsX6_findsPlace) := goodIn_app (goodIn_of _ (by decide +kernel)) ggX6_treats_X6_findsPlace
set_option maxRecDepth 20000 in
theorem ggX6_treats_X6_cancels : GoodIn wsX6_treats wsX6_cancels := goodIn_ca (goodIn_r _ [94, 1, 4, 5, 6, 7, 8, 95, 96, 97, 98, 99, 100, 101, 102, 103, 104, 105, 106, 107, 108, 109, 110, 111, 112, 113, 114, 115, 116, 117, 118, 119, 120, 121] (by decide +kernel) (by decide +kernel)) (goodIn_sub (fun _ h => List.mem_cons_of_mem _ (List.mem_append_right _ h)) (by decide +kernel))
set_option maxRecDepth 20000 in
theorem gX6_treats_X6_cancels : GoodIn wsX6_treats (wsV RX6 209 RX6 yX6_cancels wsX6_cancels) := goodIn_app (goodIn_of _ (by decide +kernel)) ggX6_treats_X6_cancels
theorem dX6_treats_0 : decode cX6_treats 0 = .ok (.sipush 428, 3) := by decide +kernel
theorem dX6_treats_3 : decode cX6_treats 3 = .ok (.iconst 5, 1) := by decide +kernel
theorem dX6_treats_4 : decode cX6_treats 4 = .ok (.aload_n 0, 1) := by decide +kernel
theorem dX6_treats_5 : decode cX6_treats 5 = .ok (.getfield 9, 3) := by decide +kernel
theorem dX6_treats_8 : decode cX6_treats 8 = .ok (.bipush 6, 2) := by decide +kernel
theorem dX6_treats_10 : decode cX6_treats 10 = .ok (.iaload, 1) := by decide +kernel
theorem dX6_treats_11 : decode cX6_treats 11 = .ok (.imul, 1) := by decide +kernel
theorem dX6_treats_12 : decode cX6_treats 12 = .ok (.iadd, 1) := by decide +kernel
theorem dX6_treats_13 : decode cX6_treats 13 = .ok (.istore_n 2, 1) := by decide +kernel
theorem dX6_treats_14 : decode cX6_treats 14 = .ok (.aload_n 0, 1) := by decide +kernel
theorem dX6_treats_15 : decode cX6_treats 15 = .ok (.getfield 9, 3) := by decide +kernel
theorem dX6_treats_18 : decode cX6_treats 18 = .ok (.bipush 6, 2) := by decide +kernel
theorem dX6_treats_20 : decode cX6_treats 20 = .ok (.dup2, 1) := by decide +kernel
theorem dX6_treats_21 : decode cX6_treats 21 = .ok (.iaload, 1) := by decide +kernel
theorem dX6_treats_22 : decode cX6_treats 22 = .ok (.iconst 1, 1) := by decide +kernel
theorem dX6_treats_23 : decode cX6_treats 23 = .ok (.iadd, 1) := by decide +kernel
theorem dX6_treats_24 : decode cX6_treats 24 = .ok (.iastore, 1) := by decide +kernel
theorem dX6_treats_25 : decode cX6_treats 25 = .ok (.aload_n 0, 1) := by decide +kernel
theorem dX6_treats_26 : decode cX6_treats 26 = .ok (.getfield 9, 3) := by decide +kernel
theorem dX6_treats_29 : decode cX6_treats 29 = .ok (.iload_n 2, 1) := by decide +kernel
theorem dX6_treats_30 : decode cX6_treats 30 = .ok (.iload_n 1, 1) := by decide +kernel
theorem dX6_treats_31 : decode cX6_treats 31 = .ok (.iastore, 1) := by decide +kernel
theorem dX6_treats_32 : decode cX6_treats 32 = .ok (.aload_n 0, 1) := by decide +kernel
theorem dX6_treats_33 : decode cX6_treats 33 = .ok (.getfield 9, 3) := by decide +kernel
theorem dX6_treats_36 : decode cX6_treats 36 = .ok (.iload_n 2, 1) := by decide +kernel
theorem dX6_treats_37 : decode cX6_treats 37 = .ok (.iconst 1, 1) := by decide +kernel
theorem dX6_treats_38 : decode cX6_treats 38 = .ok (.iadd, 1) := by decide +kernel
theorem dX6_treats_39 : decode cX6_treats 39 = .ok (.aload_n 0, 1) := by decide +kernel
theorem dX6_treats_40 : decode cX6_treats 40 = .ok (.iload_n 1, 1) := by decide +kernel
theorem dX6_treats_41 : decode cX6_treats 41 = .ok (.iconst 3, 1) := by decide +kernel
theorem dX6_treats_42 : decode cX6_treats 42 = .ok (.invokevirtual 89, 3) := by decide +kernel
theorem dX6_treats_45 : decode cX6_treats 45 = .ok (.iastore, 1) := by decide +kernel
theorem dX6_treats_46 : decode cX6_treats 46 = .ok (.aload_n 0, 1) := by decide +kernel
theorem dX6_treats_47 : decode cX6_treats 47 = .ok (.getfield 9, 3) := by decide +kernel
theorem dX6_treats_50 : decode cX6_treats 50 = .ok (.iload_n 2, 1) := by decide +kernel
theorem dX6_treats_51 : decode cX6_treats 51 = .ok (.iconst 4, 1) := by decide +kernel
theorem dX6_treats_52 : decode cX6_treats 52 = .ok (.iadd, 1) := by decide +kernel
theorem dX6_treats_53 : decode cX6_treats 53 = .ok (.aload_n 0, 1) := by decide +kernel
theorem dX6_treats_54 : decode cX6_treats 54 = .ok (.iload_n 1, 1) := by decide +kernel
theorem dX6_treats_55 : decode cX6_treats 55 = .ok (.bipush 7, 2) := by decide +kernel
theorem dX6_treats_57 : decode cX6_treats 57 = .ok (.invokevirtual 89, 3) := by decide +kernel
theorem dX6_treats_60 : decode cX6_treats 60 = .ok (.iastore, 1) := by decide +kernel
theorem dX6_treats_61 : decode cX6_treats 61 = .ok (.aload_n 0, 1) := by decide +kernel
theorem dX6_treats_62 : decode cX6_treats 62 = .ok (.iload_n 1, 1) := by decide +kernel
theorem dX6_treats_63 : decode cX6_treats 63 = .ok (.invokevirtual 221, 3) := by decide +kernel
theorem dX6_treats_66 : decode cX6_treats 66 = .ok (.istore_n 3, 1) := by decide +kernel
theorem dX6_treats_67 : decode cX6_treats 67 = .ok (.aload_n 0, 1) := by decide +kernel
theorem dX6_treats_68 : decode cX6_treats 68 = .ok (.getfield 9, 3) := by decide +kernel
theorem dX6_treats_71 : decode cX6_treats 71 = .ok (.iload_n 2, 1) := by decide +kernel
theorem dX6_treats_72 : decode cX6_treats 72 = .ok (.iconst 2, 1) := by decide +kernel
theorem dX6_treats_73 : decode cX6_treats 73 = .ok (.iadd, 1) := by decide +kernel
theorem dX6_treats_74 : decode cX6_treats 74 = .ok (.iload_n 3, 1) := by decide +kernel
theorem dX6_treats_75 : decode cX6_treats 75 = .ok (.ifCond .eq 10, 3) := by decide +kernel
theorem dX6_treats_78 : decode cX6_treats 78 = .ok (.aload_n 0, 1) := by decide +kernel
theorem dX6_treats_79 : decode cX6_treats 79 = .ok (.getfield 212, 3) := by decide +kernel
theorem dX6_treats_82 : decode cX6_treats 82 = .ok (.goto 4, 3) := by decide +kernel
theorem dX6_treats_85 : decode cX6_treats 85 = .ok (.iconst (-1), 1) := by decide +kernel
theorem dX6_treats_86 : decode cX6_treats 86 = .ok (.iastore, 1) := by decide +kernel
theorem dX6_treats_87 : decode cX6_treats 87 = .ok (.aload_n 0, 1) := by decide +kernel
theorem dX6_treats_88 : decode cX6_treats 88 = .ok (.getfield 9, 3) := by decide +kernel
theorem dX6_treats_91 : decode cX6_treats 91 = .ok (.iload_n 2, 1) := by decide +kernel
theorem dX6_treats_92 : decode cX6_treats 92 = .ok (.iconst 3, 1) := by decide +kernel
theorem dX6_treats_93 : decode cX6_treats 93 = .ok (.iadd, 1) := by decide +kernel
theorem dX6_treats_94 : decode cX6_treats 94 = .ok (.iload_n 3, 1) := by decide +kernel
theorem dX6_treats_95 : decode cX6_treats 95 = .ok (.ifCond .eq 10, 3) := by decide +kernel
theorem dX6_treats_98 : decode cX6_treats 98 = .ok (.aload_n 0, 1) := by decide +kernel
theorem dX6_treats_99 : decode cX6_treats 99 = .ok (.getfield 215, 3) := by decide +kernel
theorem dX6_treats_102 : decode cX6_treats 102 = .ok (.goto 4, 3) := by decide +kernel
theorem dX6_treats_105 : decode cX6_treats 105 = .ok (.iconst (-1), 1) := by decide +kernel
theorem dX6_treats_106 : decode cX6_treats 106 = .ok (.iastore, 1) := by decide +kernel
theorem dX6_treats_107 : decode cX6_treats 107 = .ok (.iload_n 3, 1) := by decide +kernel
theorem dX6_treats_108 : decode cX6_treats 108 = .ok (.ifCond .ne 12, 3) := by decide +kernel
theorem dX6_treats_111 : decode cX6_treats 111 = .ok (.aload_n 0, 1) := by decide +kernel
theorem dX6_treats_112 : decode cX6_treats 112 = .ok (.iload_n 1, 1) := by decide +kernel
theorem dX6_treats_113 : decode cX6_treats 113 = .ok (.invokevirtual 209, 3) := by decide +kernel
theorem dX6_treats_116 : decode cX6_treats 116 = .ok (.istore 4, 2) := by decide +kernel
theorem dX6_treats_118 : decode cX6_treats 118 = .ok (.iconst 1, 1) := by decide +kernel
theorem dX6_treats_119 : decode cX6_treats 119 = .ok (.ireturn, 1) := by decide +kernel
theorem dX6_treats_120 : decode cX6_treats 120 = .ok (.aload_n 0, 1) := by decide +kernel
theorem dX6_treats_121 : decode cX6_treats 121 = .ok (.getfield 9, 3) := by decide +kernel
theorem dX6_treats_124 : decode cX6_treats 124 = .ok (.sipush 158, 3) := by decide +kernel
theorem dX6_treats_127 : decode cX6_treats 127 = .ok (.bipush 9, 2) := by decide +kernel
theorem dX6_treats_129 : decode cX6_treats 129 = .ok (.iload_n 1, 1) := by decide +kernel
theorem dX6_treats_130 : decode cX6_treats 130 = .ok (.imul, 1) := by decide +kernel
theorem dX6_treats_131 : decode cX6_treats 131 = .ok (.iadd, 1) := by decide +kernel
theorem dX6_treats_132 : decode cX6_treats 132 = .ok (.iconst 0, 1) := by decide +kernel
theorem dX6_treats_133 : decode cX6_treats 133 = .ok (.iadd, 1) := by decide +kernel
theorem dX6_treats_134 : decode cX6_treats 134 = .ok (.aload_n 0, 1) := by decide +kernel
theorem dX6_treats_135 : decode cX6_treats 135 = .ok (.getfield 212, 3) := by decide +kernel
theorem dX6_treats_138 : decode cX6_treats 138 = .ok (.iastore, 1) := by decide +kernel
theorem dX6_treats_139 : decode cX6_treats 139 = .ok (.aload_n 0, 1) := by decide +kernel
theorem dX6_treats_140 : decode cX6_treats 140 = .ok (.getfield 9, 3) := by decide +kernel
theorem dX6_treats_143 : decode cX6_treats 143 = .ok (.sipush 158, 3) := by decide +kernel
theorem dX6_treats_146 : decode cX6_treats 146 = .ok (.bipush 9, 2) := by decide +kernel
theorem dX6_treats_148 : decode cX6_treats 148 = .ok (.iload_n 1, 1) := by decide +kernel
theorem dX6_treats_149 : decode cX6_treats 149 = .ok (.imul, 1) := by decide +kernel
theorem dX6_treats_150 : decode cX6_treats 150 = .ok (.iadd, 1) := by decide +kernel
theorem dX6_treats_151 : decode cX6_treats 151 = .ok (.iconst 3, 1) := by decide +kernel
theorem dX6_treats_152 : decode cX6_treats 152 = .ok (.iadd, 1) := by decide +kernel
theorem dX6_treats_153 : decode cX6_treats 153 = .ok (.aload_n 0, 1) := by decide +kernel
theorem dX6_treats_154 : decode cX6_treats 154 = .ok (.getfield 215, 3) := by decide +kernel
theorem dX6_treats_157 : decode cX6_treats 157 = .ok (.iastore, 1) := by decide +kernel
theorem dX6_treats_158 : decode cX6_treats 158 = .ok (.aload_n 0, 1) := by decide +kernel
theorem dX6_treats_159 : decode cX6_treats 159 = .ok (.getfield 9, 3) := by decide +kernel
theorem dX6_treats_162 : decode cX6_treats 162 = .ok (.sipush 158, 3) := by decide +kernel
theorem dX6_treats_165 : decode cX6_treats 165 = .ok (.bipush 9, 2) := by decide +kernel
theorem dX6_treats_167 : decode cX6_treats 167 = .ok (.iload_n 1, 1) := by decide +kernel
theorem dX6_treats_168 : decode cX6_treats 168 = .ok (.imul, 1) := by decide +kernel
theorem dX6_treats_169 : decode cX6_treats 169 = .ok (.iadd, 1) := by decide +kernel
theorem dX6_treats_170 : decode cX6_treats 170 = .ok (.bipush 8, 2) := by decide +kernel
theorem dX6_treats_172 : decode cX6_treats 172 = .ok (.iadd, 1) := by decide +kernel
theorem dX6_treats_173 : decode cX6_treats 173 = .ok (.iconst 0, 1) := by decide +kernel
theorem dX6_treats_174 : decode cX6_treats 174 = .ok (.iastore, 1) := by decide +kernel
theorem dX6_treats_175 : decode cX6_treats 175 = .ok (.iconst 0, 1) := by decide +kernel
theorem dX6_treats_176 : decode cX6_treats 176 = .ok (.ireturn, 1) := by decide +kernel
set_option maxRecDepth 20000 in
theorem ggX6_fail_X6_isHall : GoodIn wsX6_fail wsX6_isHall := goodIn_ca (goodIn_r _ [6, 1, 7, 8, 5, 9, 133, 134, 135, 136, 137, 138, 139, 140, 141, 142, 143, 144, 145, 146, 147, 148, 149, 150, 151, 152, 153, 154, 155, 156, 157, 158, 159] (by decide +kernel) (by decide +kernel)) (goodIn_sub (fun _ h => List.mem_cons_of_mem _ (List.mem_append_right _ h)) (by decide +kernel))
set_option maxRecDepth 20000 in
theorem gX6_fail_X6_isHall : GoodIn wsX6_fail (wsV RX6 104 RX6 yX6_isHall wsX6_isHall) := goodIn_app (goodIn_of _ (by decide +kernel)) ggX6_fail_X6_isHall
set_option maxRecDepth 20000 in
theorem ggX6_fail_X6_fails : GoodIn wsX6_fail wsX6_fails := goodIn_r _ [13, 14, 133, 134, 135, 136, 137, 138, 139, 140, 141, 142, 143, 144, 145, 146, 147, 148, 149, 150, 151, 152, 153, 154, 155, 156, 157, 158, 159] (by decide +kernel) (by decide +kernel)
set_option maxRecDepth 20000 in
theorem gX6_fail_X6_fails : GoodIn wsX6_fail (wsV RX6 45 RX6 yX6_fails wsX6_fails) := goodIn_app (goodIn_of _ (by decide +kernel)) ggX6_fail_X6_fails
set_option maxRecDepth 20000 in
theorem ggX6_fail_X6_isDay : GoodIn wsX6_fail wsX6_isDay := goodIn_r _ [17, 7, 8, 5, 9] (by decide +kernel) (by decide +kernel)
set_option maxRecDepth 20000 in
theorem gX6_fail_X6_isDay : GoodIn wsX6_fail (va_wsS RX6 74 yX6_isDay wsX6_isDay) := goodIn_app (goodIn_of _ (by decide +kernel)) ggX6_fail_X6_isDay
set_option maxRecDepth 20000 in
theorem ggX6_fail_X6_hallAt : GoodIn wsX6_fail wsX6_hallAt := goodIn_ca (goodIn_r _ [21, 1, 133, 134, 135, 136, 137, 138, 139, 140, 141, 142, 143, 144, 145, 146, 147, 148, 149, 150, 151, 152, 153, 154, 155, 156, 157, 158, 159] (by decide +kernel) (by decide +kernel)) (goodIn_sub (fun _ h => List.mem_cons_of_mem _ (List.mem_append_right _ h)) (by decide +kernel))
set_option maxRecDepth 20000 in
theorem gX6_fail_X6_hallAt : GoodIn wsX6_fail (wsV RX6 95 RX6 yX6_hallAt wsX6_hallAt) := goodIn_app (goodIn_of _ (by decide +kernel)) ggX6_fail_X6_hallAt
set_option maxRecDepth 20000 in
theorem ggX6_fail_X6_remembers : GoodIn wsX6_fail wsX6_remembers := goodIn_ca (goodIn_r _ [25, 26, 1, 27, 28, 29, 5, 30, 31, 32, 33, 34, 35, 133, 134, 135, 136, 137, 138, 139, 140, 141, 142, 143, 144, 145, 146, 147, 148, 149, 150, 151, 152, 153, 154, 155, 156, 157, 158, 159] (by decide +kernel) (by decide +kernel)) (goodIn_sub (fun _ h => List.mem_cons_of_mem _ (List.mem_append_right _ h)) (by decide +kernel))
set_option maxRecDepth 20000 in
theorem gX6_fail_X6_remembers : GoodIn wsX6_fail (wsV RX6 68 RX6 yX6_remembers wsX6_remembers) := goodIn_app (goodIn_of _ (by decide +kernel)) ggX6_fail_X6_remembers
set_option maxRecDepth 20000 in
theorem ggX6_fail_X6_stands : GoodIn wsX6_fail wsX6_stands := goodIn_ca (goodIn_r _ [39, 40, 41, 42, 5, 43, 1, 133, 134, 135, 136, 137, 138, 139, 140, 141, 142, 143, 144, 145, 146, 147, 148, 149, 150, 151, 152, 153, 154, 155, 156, 157, 158, 159] (by decide +kernel) (by decide +kernel)) (goodIn_sub (fun _ h => List.mem_cons_of_mem _ (List.mem_append_right _ h)) (by decide +kernel))
set_option maxRecDepth 20000 in
theorem gX6_fail_X6_stands : GoodIn wsX6_fail (wsV RX6 107 RX6 yX6_stands wsX6_stands) := goodIn_app (goodIn_of _ (by decide +kernel)) ggX6_fail_X6_stands
set_option maxRecDepth 20000 in
theorem ggX6_fail_X6_showAt : GoodIn wsX6_fail wsX6_showAt := goodIn_ca (goodIn_r _ [43, 1, 133, 134, 135, 136, 137, 138, 139, 140, 141, 142, 143, 144, 145, 146, 147, 148, 149, 150, 151, 152, 153, 154, 155, 156, 157, 158, 159] (by decide +kernel) (by decide +kernel)) (goodIn_sub (fun _ h => List.mem_cons_of_mem _ (List.mem_append_right _ h)) (by decide +kernel))
set_option maxRecDepth 20000 in
theorem gX6_fail_X6_showAt : GoodIn wsX6_fail (wsV RX6 89 RX6 yX6_showAt wsX6_showAt) := goodIn_app (goodIn_of _ (by decide +kernel)) ggX6_fail_X6_showAt
set_option maxRecDepth 20000 in
theorem ggX6_fail_X6_nextOut : GoodIn wsX6_fail wsX6_nextOut := goodIn_ca (goodIn_r _ [47, 1, 40, 41, 42, 5, 43, 133, 134, 135, 136, 137, 138, 139, 140, 141, 142, 143, 144, 145, 146, 147, 148, 149, 150, 151, 152, 153, 154, 155, 156, 157, 158, 159] (by decide +kernel) (by decide +kernel)) (goodIn_sub (fun _ h => List.mem_cons_of_mem _ (List.mem_append_right _ h)) (by decide +kernel))
set_option maxRecDepth 20000 in
theorem gX6_fail_X6_nextOut : GoodIn wsX6_fail (wsV RX6 224 RX6 yX6_nextOut wsX6_nextOut) := goodIn_app (goodIn_of _ (by decide +kernel)) ggX6_fail_X6_nextOut
set_option maxRecDepth 20000 in
theorem ggX6_fail_X6_treats : GoodIn wsX6_fail wsX6_treats := goodIn_ca (goodIn_r _ [51, 1, 52, 53, 40, 41, 42, 5, 43, 54, 55, 56, 57, 58, 59, 60, 61, 7, 8, 9, 18, 19, 20, 21, 62, 63, 64, 65, 66, 67, 68, 69, 70, 71, 72, 73, 74, 75, 76, 77, 78, 79, 80, 81, 82, 83, 84, 85, 86, 87, 88, 89, 90, 91, 92, 93, 94, 95, 96, 36, 37, 38, 39, 97, 98, 99, 100, 101, 102, 103, 104, 105, 106, 107, 108, 109, 110, 111, 112, 113, 114, 115, 116, 117, 118, 119, 120, 121, 122, 123, 124, 125, 126, 127, 128, 133, 134, 135, 136, 137, 138, 139, 140, 141, 142, 143, 144, 145, 146, 147, 148, 149, 150, 151, 152, 153, 154, 155, 156, 157, 158, 159] (by decide +kernel) (by decide +kernel)) (goodIn_sub (fun _ h => List.mem_cons_of_mem _ (List.mem_append_right _ h)) (by decide +kernel))
set_option maxRecDepth 20000 in
theorem gX6_fail_X6_treats : GoodIn wsX6_fail (wsV RX6 227 RX6 yX6_treats wsX6_treats) := goodIn_app (goodIn_of _ (by decide +kernel)) ggX6_fail_X6_treats
set_option maxRecDepth 20000 in
theorem ggX6_fail_X6_done : GoodIn wsX6_fail wsX6_done := goodIn_r _ [132, 14, 133, 134, 135, 136, 137, 138, 139, 140, 141, 142, 143, 144, 145, 146, 147, 148, 149, 150, 151, 152, 153, 154, 155, 156, 157, 158, 159] (by decide +kernel) (by decide +kernel)
set_option maxRecDepth 20000 in
theorem gX6_fail_X6_done : GoodIn wsX6_fail (wsV RX6 71 RX6 yX6_done wsX6_done) := goodIn_app (goodIn_of _ (by decide +kernel)) ggX6_fail_X6_done
theorem dX6_fail_0 : decode cX6_fail 0 = .ok (.aload_n 0, 1) := by decide +kernel
theorem dX6_fail_1 : decode cX6_fail 1 = .ok (.iload_n 1, 1) := by decide +kernel
theorem dX6_fail_2 : decode cX6_fail 2 = .ok (.invokevirtual 104, 3) := by decide +kernel
theorem dX6_fail_5 : decode cX6_fail 5 = .ok (.ifCond .ne 9, 3) := by decide +kernel
theorem dX6_fail_8 : decode cX6_fail 8 = .ok (.aload_n 0, 1) := by decide +kernel
theorem dX6_fail_9 : decode cX6_fail 9 = .ok (.iconst 1, 1) := by decide +kernel
theorem dX6_fail_10 : decode cX6_fail 10 = .ok (.invokevirtual 45, 3) := by decide +kernel
theorem dX6_fail_13 : decode cX6_fail 13 = .ok (.ireturn, 1) := by decide +kernel
theorem dX6_fail_14 : decode cX6_fail 14 = .ok (.iload_n 2, 1) := by decide +kernel
theorem dX6_fail_15 : decode cX6_fail 15 = .ok (.invokestatic 74, 3) := by decide +kernel
theorem dX6_fail_18 : decode cX6_fail 18 = .ok (.ifCond .eq 13, 3) := by decide +kernel
theorem dX6_fail_21 : decode cX6_fail 21 = .ok (.iload_n 2, 1) := by decide +kernel
theorem dX6_fail_22 : decode cX6_fail 22 = .ok (.aload_n 0, 1) := by decide +kernel
theorem dX6_fail_23 : decode cX6_fail 23 = .ok (.getfield 9, 3) := by decide +kernel
theorem dX6_fail_26 : decode cX6_fail 26 = .ok (.iconst 0, 1) := by decide +kernel
theorem dX6_fail_27 : decode cX6_fail 27 = .ok (.iaload, 1) := by decide +kernel
theorem dX6_fail_28 : decode cX6_fail 28 = .ok (.if_icmp .ge 9, 3) := by decide +kernel
theorem dX6_fail_31 : decode cX6_fail 31 = .ok (.aload_n 0, 1) := by decide +kernel
theorem dX6_fail_32 : decode cX6_fail 32 = .ok (.iconst 2, 1) := by decide +kernel
theorem dX6_fail_33 : decode cX6_fail 33 = .ok (.invokevirtual 45, 3) := by decide +kernel
theorem dX6_fail_36 : decode cX6_fail 36 = .ok (.ireturn, 1) := by decide +kernel
theorem dX6_fail_37 : decode cX6_fail 37 = .ok (.aload_n 0, 1) := by decide +kernel
theorem dX6_fail_38 : decode cX6_fail 38 = .ok (.iload_n 1, 1) := by decide +kernel
theorem dX6_fail_39 : decode cX6_fail 39 = .ok (.iconst 3, 1) := by decide +kernel
theorem dX6_fail_40 : decode cX6_fail 40 = .ok (.invokevirtual 95, 3) := by decide +kernel
theorem dX6_fail_43 : decode cX6_fail 43 = .ok (.iconst (-1), 1) := by decide +kernel
theorem dX6_fail_44 : decode cX6_fail 44 = .ok (.if_icmp .eq 9, 3) := by decide +kernel
theorem dX6_fail_47 : decode cX6_fail 47 = .ok (.aload_n 0, 1) := by decide +kernel
theorem dX6_fail_48 : decode cX6_fail 48 = .ok (.iconst 3, 1) := by decide +kernel
theorem dX6_fail_49 : decode cX6_fail 49 = .ok (.invokevirtual 45, 3) := by decide +kernel
theorem dX6_fail_52 : decode cX6_fail 52 = .ok (.ireturn, 1) := by decide +kernel
theorem dX6_fail_53 : decode cX6_fail 53 = .ok (.aload_n 0, 1) := by decide +kernel
theorem dX6_fail_54 : decode cX6_fail 54 = .ok (.invokevirtual 68, 3) := by decide +kernel
theorem dX6_fail_57 : decode cX6_fail 57 = .ok (.aload_n 0, 1) := by decide +kernel
theorem dX6_fail_58 : decode cX6_fail 58 = .ok (.getfield 9, 3) := by decide +kernel
theorem dX6_fail_61 : decode cX6_fail 61 = .ok (.bipush 30, 2) := by decide +kernel
theorem dX6_fail_63 : decode cX6_fail 63 = .ok (.iconst 4, 1) := by decide +kernel
theorem dX6_fail_64 : decode cX6_fail 64 = .ok (.iload_n 1, 1) := by decide +kernel
theorem dX6_fail_65 : decode cX6_fail 65 = .ok (.imul, 1) := by decide +kernel
theorem dX6_fail_66 : decode cX6_fail 66 = .ok (.iadd, 1) := by decide +kernel
theorem dX6_fail_67 : decode cX6_fail 67 = .ok (.iconst 3, 1) := by decide +kernel
theorem dX6_fail_68 : decode cX6_fail 68 = .ok (.iadd, 1) := by decide +kernel
theorem dX6_fail_69 : decode cX6_fail 69 = .ok (.iload_n 2, 1) := by decide +kernel
theorem dX6_fail_70 : decode cX6_fail 70 = .ok (.iastore, 1) := by decide +kernel
theorem dX6_fail_71 : decode cX6_fail 71 = .ok (.aload_n 0, 1) := by decide +kernel
theorem dX6_fail_72 : decode cX6_fail 72 = .ok (.getfield 9, 3) := by decide +kernel
theorem dX6_fail_75 : decode cX6_fail 75 = .ok (.bipush 6, 2) := by decide +kernel
theorem dX6_fail_77 : decode cX6_fail 77 = .ok (.iconst 0, 1) := by decide +kernel
theorem dX6_fail_78 : decode cX6_fail 78 = .ok (.iastore, 1) := by decide +kernel
theorem dX6_fail_79 : decode cX6_fail 79 = .ok (.aload_n 0, 1) := by decide +kernel
theorem dX6_fail_80 : decode cX6_fail 80 = .ok (.getfield 9, 3) := by decide +kernel
theorem dX6_fail_83 : decode cX6_fail 83 = .ok (.bipush 7, 2) := by decide +kernel
theorem dX6_fail_85 : decode cX6_fail 85 = .ok (.iconst 1, 1) := by decide +kernel
theorem dX6_fail_86 : decode cX6_fail 86 = .ok (.iastore, 1) := by decide +kernel
theorem dX6_fail_87 : decode cX6_fail 87 = .ok (.iconst 0, 1) := by decide +kernel
theorem dX6_fail_88 : decode cX6_fail 88 = .ok (.istore_n 3, 1) := by decide +kernel
theorem dX6_fail_89 : decode cX6_fail 89 = .ok (.iload_n 3, 1) := by decide +kernel
theorem dX6_fail_90 : decode cX6_fail 90 = .ok (.aload_n 0, 1) := by decide +kernel
theorem dX6_fail_91 : decode cX6_fail 91 = .ok (.getfield 9, 3) := by decide +kernel
theorem dX6_fail_94 : decode cX6_fail 94 = .ok (.iconst 4, 1) := by decide +kernel
theorem dX6_fail_95 : decode cX6_fail 95 = .ok (.iaload, 1) := by decide +kernel
theorem dX6_fail_96 : decode cX6_fail 96 = .ok (.if_icmp .ge 54, 3) := by decide +kernel
theorem dX6_fail_99 : decode cX6_fail 99 = .ok (.aload_n 0, 1) := by decide +kernel
theorem dX6_fail_100 : decode cX6_fail 100 = .ok (.iload_n 3, 1) := by decide +kernel
theorem dX6_fail_101 : decode cX6_fail 101 = .ok (.invokevirtual 107, 3) := by decide +kernel
theorem dX6_fail_104 : decode cX6_fail 104 = .ok (.ifCond .eq 40, 3) := by decide +kernel
theorem dX6_fail_107 : decode cX6_fail 107 = .ok (.aload_n 0, 1) := by decide +kernel
theorem dX6_fail_108 : decode cX6_fail 108 = .ok (.iload_n 3, 1) := by decide +kernel
theorem dX6_fail_109 : decode cX6_fail 109 = .ok (.iconst 0, 1) := by decide +kernel
theorem dX6_fail_110 : decode cX6_fail 110 = .ok (.invokevirtual 89, 3) := by decide +kernel
theorem dX6_fail_113 : decode cX6_fail 113 = .ok (.iload_n 1, 1) := by decide +kernel
theorem dX6_fail_114 : decode cX6_fail 114 = .ok (.if_icmp .ne 30, 3) := by decide +kernel
theorem dX6_fail_117 : decode cX6_fail 117 = .ok (.aload_n 0, 1) := by decide +kernel
theorem dX6_fail_118 : decode cX6_fail 118 = .ok (.iload_n 3, 1) := by decide +kernel
theorem dX6_fail_119 : decode cX6_fail 119 = .ok (.iconst 2, 1) := by decide +kernel
theorem dX6_fail_120 : decode cX6_fail 120 = .ok (.invokevirtual 89, 3) := by decide +kernel
theorem dX6_fail_123 : decode cX6_fail 123 = .ok (.iload_n 2, 1) := by decide +kernel
theorem dX6_fail_124 : decode cX6_fail 124 = .ok (.if_icmp .lt 20, 3) := by decide +kernel
theorem dX6_fail_127 : decode cX6_fail 127 = .ok (.aload_n 0, 1) := by decide +kernel
theorem dX6_fail_128 : decode cX6_fail 128 = .ok (.getfield 9, 3) := by decide +kernel
theorem dX6_fail_131 : decode cX6_fail 131 = .ok (.sipush 158, 3) := by decide +kernel
theorem dX6_fail_134 : decode cX6_fail 134 = .ok (.bipush 9, 2) := by decide +kernel
theorem dX6_fail_136 : decode cX6_fail 136 = .ok (.iload_n 3, 1) := by decide +kernel
theorem dX6_fail_137 : decode cX6_fail 137 = .ok (.imul, 1) := by decide +kernel
theorem dX6_fail_138 : decode cX6_fail 138 = .ok (.iadd, 1) := by decide +kernel
theorem dX6_fail_139 : decode cX6_fail 139 = .ok (.bipush 8, 2) := by decide +kernel
theorem dX6_fail_141 : decode cX6_fail 141 = .ok (.iadd, 1) := by decide +kernel
theorem dX6_fail_142 : decode cX6_fail 142 = .ok (.iconst 2, 1) := by decide +kernel
theorem dX6_fail_143 : decode cX6_fail 143 = .ok (.iastore, 1) := by decide +kernel
theorem dX6_fail_144 : decode cX6_fail 144 = .ok (.iinc 3 1, 3) := by decide +kernel
theorem dX6_fail_147 : decode cX6_fail 147 = .ok (.goto (-58), 3) := by decide +kernel
theorem dX6_fail_150 : decode cX6_fail 150 = .ok (.iconst 0, 1) := by decide +kernel
theorem dX6_fail_151 : decode cX6_fail 151 = .ok (.istore_n 3, 1) := by decide +kernel
theorem dX6_fail_152 : decode cX6_fail 152 = .ok (.aload_n 0, 1) := by decide +kernel
theorem dX6_fail_153 : decode cX6_fail 153 = .ok (.invokevirtual 224, 3) := by decide +kernel
theorem dX6_fail_156 : decode cX6_fail 156 = .ok (.istore 4, 2) := by decide +kernel
theorem dX6_fail_158 : decode cX6_fail 158 = .ok (.iload 4, 2) := by decide +kernel
theorem dX6_fail_160 : decode cX6_fail 160 = .ok (.iconst (-1), 1) := by decide +kernel
theorem dX6_fail_161 : decode cX6_fail 161 = .ok (.if_icmp .eq 21, 3) := by decide +kernel
theorem dX6_fail_164 : decode cX6_fail 164 = .ok (.iload_n 3, 1) := by decide +kernel
theorem dX6_fail_165 : decode cX6_fail 165 = .ok (.aload_n 0, 1) := by decide +kernel
theorem dX6_fail_166 : decode cX6_fail 166 = .ok (.iload 4, 2) := by decide +kernel
theorem dX6_fail_168 : decode cX6_fail 168 = .ok (.invokevirtual 227, 3) := by decide +kernel
theorem dX6_fail_171 : decode cX6_fail 171 = .ok (.iadd, 1) := by decide +kernel
theorem dX6_fail_172 : decode cX6_fail 172 = .ok (.istore_n 3, 1) := by decide +kernel
theorem dX6_fail_173 : decode cX6_fail 173 = .ok (.aload_n 0, 1) := by decide +kernel
theorem dX6_fail_174 : decode cX6_fail 174 = .ok (.invokevirtual 224, 3) := by decide +kernel
theorem dX6_fail_177 : decode cX6_fail 177 = .ok (.istore 4, 2) := by decide +kernel
theorem dX6_fail_179 : decode cX6_fail 179 = .ok (.goto (-21), 3) := by decide +kernel
theorem dX6_fail_182 : decode cX6_fail 182 = .ok (.aload_n 0, 1) := by decide +kernel
theorem dX6_fail_183 : decode cX6_fail 183 = .ok (.iload_n 3, 1) := by decide +kernel
theorem dX6_fail_184 : decode cX6_fail 184 = .ok (.invokevirtual 71, 3) := by decide +kernel
theorem dX6_fail_187 : decode cX6_fail 187 = .ok (.ireturn, 1) := by decide +kernel
set_option maxRecDepth 20000 in
theorem ggX6_reopen_X6_isHall : GoodIn wsX6_reopen wsX6_isHall := goodIn_ca (goodIn_r _ [6, 1, 7, 8, 5, 9, 37, 38, 39, 40, 41, 42, 43, 44, 45, 46, 47, 48, 49, 50, 51, 52, 53, 54, 55, 56, 57, 58, 59, 60, 61, 62, 63] (by decide +kernel) (by decide +kernel)) (goodIn_sub (fun _ h => List.mem_cons_of_mem _ (List.mem_append_right _ h)) (by decide +kernel))
set_option maxRecDepth 20000 in
theorem gX6_reopen_X6_isHall : GoodIn wsX6_reopen (wsV RX6 104 RX6 yX6_isHall wsX6_isHall) := goodIn_app (goodIn_of _ (by decide +kernel)) ggX6_reopen_X6_isHall
set_option maxRecDepth 20000 in
theorem ggX6_reopen_X6_fails : GoodIn wsX6_reopen wsX6_fails := goodIn_r _ [13, 14, 37, 38, 39, 40, 41, 42, 43, 44, 45, 46, 47, 48, 49, 50, 51, 52, 53, 54, 55, 56, 57, 58, 59, 60, 61, 62, 63] (by decide +kernel) (by decide +kernel)
set_option maxRecDepth 20000 in
theorem gX6_reopen_X6_fails : GoodIn wsX6_reopen (wsV RX6 45 RX6 yX6_fails wsX6_fails) := goodIn_app (goodIn_of _ (by decide +kernel)) ggX6_reopen_X6_fails
set_option maxRecDepth 20000 in
theorem ggX6_reopen_X6_hallAt : GoodIn wsX6_reopen wsX6_hallAt := goodIn_ca (goodIn_r _ [18, 1, 37, 38, 39, 40, 41, 42, 43, 44, 45, 46, 47, 48, 49, 50, 51, 52, 53, 54, 55, 56, 57, 58, 59, 60, 61, 62, 63] (by decide +kernel) (by decide +kernel)) (goodIn_sub (fun _ h => List.mem_cons_of_mem _ (List.mem_append_right _ h)) (by decide +kernel))
set_option maxRecDepth 20000 in
theorem gX6_reopen_X6_hallAt : GoodIn wsX6_reopen (wsV RX6 95 RX6 yX6_hallAt wsX6_hallAt) := goodIn_app (goodIn_of _ (by decide +kernel)) ggX6_reopen_X6_hallAt
set_option maxRecDepth 20000 in
theorem ggX6_reopen_X6_remembers : GoodIn wsX6_reopen wsX6_remembers := goodIn_ca (goodIn_r _ [22, 23, 1, 24, 25, 26, 5, 27, 28, 29, 30, 31, 32, 37, 38, 39, 40, 41, 42, 43, 44, 45, 46, 47, 48, 49, 50, 51, 52, 53, 54, 55, 56, 57, 58, 59, 60, 61, 62, 63] (by decide +kernel) (by decide +kernel)) (goodIn_sub (fun _ h => List.mem_cons_of_mem _ (List.mem_append_right _ h)) (by decide +kernel))
set_option maxRecDepth 20000 in
theorem gX6_reopen_X6_remembers : GoodIn wsX6_reopen (wsV RX6 68 RX6 yX6_remembers wsX6_remembers) := goodIn_app (goodIn_of _ (by decide +kernel)) ggX6_reopen_X6_remembers
set_option maxRecDepth 20000 in
theorem ggX6_reopen_X6_done : GoodIn wsX6_reopen wsX6_done := goodIn_r _ [36, 14, 37, 38, 39, 40, 41, 42, 43, 44, 45, 46, 47, 48, 49, 50, 51, 52, 53, 54, 55, 56, 57, 58, 59, 60, 61, 62, 63] (by decide +kernel) (by decide +kernel)
set_option maxRecDepth 20000 in
theorem gX6_reopen_X6_done : GoodIn wsX6_reopen (wsV RX6 71 RX6 yX6_done wsX6_done) := goodIn_app (goodIn_of _ (by decide +kernel)) ggX6_reopen_X6_done
theorem dX6_reopen_0 : decode cX6_reopen 0 = .ok (.aload_n 0, 1) := by decide +kernel
theorem dX6_reopen_1 : decode cX6_reopen 1 = .ok (.iload_n 1, 1) := by decide +kernel
theorem dX6_reopen_2 : decode cX6_reopen 2 = .ok (.invokevirtual 104, 3) := by decide +kernel
theorem dX6_reopen_5 : decode cX6_reopen 5 = .ok (.ifCond .ne 9, 3) := by decide +kernel
theorem dX6_reopen_8 : decode cX6_reopen 8 = .ok (.aload_n 0, 1) := by decide +kernel
theorem dX6_reopen_9 : decode cX6_reopen 9 = .ok (.iconst 1, 1) := by decide +kernel
theorem dX6_reopen_10 : decode cX6_reopen 10 = .ok (.invokevirtual 45, 3) := by decide +kernel
theorem dX6_reopen_13 : decode cX6_reopen 13 = .ok (.ireturn, 1) := by decide +kernel
theorem dX6_reopen_14 : decode cX6_reopen 14 = .ok (.aload_n 0, 1) := by decide +kernel
theorem dX6_reopen_15 : decode cX6_reopen 15 = .ok (.iload_n 1, 1) := by decide +kernel
theorem dX6_reopen_16 : decode cX6_reopen 16 = .ok (.iconst 3, 1) := by decide +kernel
theorem dX6_reopen_17 : decode cX6_reopen 17 = .ok (.invokevirtual 95, 3) := by decide +kernel
theorem dX6_reopen_20 : decode cX6_reopen 20 = .ok (.iconst (-1), 1) := by decide +kernel
theorem dX6_reopen_21 : decode cX6_reopen 21 = .ok (.if_icmp .ne 9, 3) := by decide +kernel
theorem dX6_reopen_24 : decode cX6_reopen 24 = .ok (.aload_n 0, 1) := by decide +kernel
theorem dX6_reopen_25 : decode cX6_reopen 25 = .ok (.iconst 2, 1) := by decide +kernel
theorem dX6_reopen_26 : decode cX6_reopen 26 = .ok (.invokevirtual 45, 3) := by decide +kernel
theorem dX6_reopen_29 : decode cX6_reopen 29 = .ok (.ireturn, 1) := by decide +kernel
theorem dX6_reopen_30 : decode cX6_reopen 30 = .ok (.aload_n 0, 1) := by decide +kernel
theorem dX6_reopen_31 : decode cX6_reopen 31 = .ok (.invokevirtual 68, 3) := by decide +kernel
theorem dX6_reopen_34 : decode cX6_reopen 34 = .ok (.aload_n 0, 1) := by decide +kernel
theorem dX6_reopen_35 : decode cX6_reopen 35 = .ok (.iload_n 1, 1) := by decide +kernel
theorem dX6_reopen_36 : decode cX6_reopen 36 = .ok (.iconst 3, 1) := by decide +kernel
theorem dX6_reopen_37 : decode cX6_reopen 37 = .ok (.invokevirtual 95, 3) := by decide +kernel
theorem dX6_reopen_40 : decode cX6_reopen 40 = .ok (.istore_n 2, 1) := by decide +kernel
theorem dX6_reopen_41 : decode cX6_reopen 41 = .ok (.aload_n 0, 1) := by decide +kernel
theorem dX6_reopen_42 : decode cX6_reopen 42 = .ok (.getfield 9, 3) := by decide +kernel
theorem dX6_reopen_45 : decode cX6_reopen 45 = .ok (.bipush 30, 2) := by decide +kernel
theorem dX6_reopen_47 : decode cX6_reopen 47 = .ok (.iconst 4, 1) := by decide +kernel
theorem dX6_reopen_48 : decode cX6_reopen 48 = .ok (.iload_n 1, 1) := by decide +kernel
theorem dX6_reopen_49 : decode cX6_reopen 49 = .ok (.imul, 1) := by decide +kernel
theorem dX6_reopen_50 : decode cX6_reopen 50 = .ok (.iadd, 1) := by decide +kernel
theorem dX6_reopen_51 : decode cX6_reopen 51 = .ok (.iconst 3, 1) := by decide +kernel
theorem dX6_reopen_52 : decode cX6_reopen 52 = .ok (.iadd, 1) := by decide +kernel
theorem dX6_reopen_53 : decode cX6_reopen 53 = .ok (.iconst (-1), 1) := by decide +kernel
theorem dX6_reopen_54 : decode cX6_reopen 54 = .ok (.iastore, 1) := by decide +kernel
theorem dX6_reopen_55 : decode cX6_reopen 55 = .ok (.aload_n 0, 1) := by decide +kernel
theorem dX6_reopen_56 : decode cX6_reopen 56 = .ok (.iload_n 2, 1) := by decide +kernel
theorem dX6_reopen_57 : decode cX6_reopen 57 = .ok (.invokevirtual 71, 3) := by decide +kernel
theorem dX6_reopen_60 : decode cX6_reopen 60 = .ok (.ireturn, 1) := by decide +kernel
set_option maxRecDepth 20000 in
theorem ggX6_line_X6_in : GoodIn wsX6_line wsX6_in := goodIn_r _ [5] (by decide +kernel) (by decide +kernel)
set_option maxRecDepth 20000 in
theorem gX6_line_X6_in : GoodIn wsX6_line (va_wsS RX6 64 yX6_in wsX6_in) := goodIn_app (goodIn_of _ (by decide +kernel)) ggX6_line_X6_in
set_option maxRecDepth 20000 in
theorem ggX6_line_X6_fails : GoodIn wsX6_line wsX6_fails := goodIn_r _ [9, 10, 15, 16, 17, 18, 19, 20, 21, 22, 23, 24, 25, 26, 27, 28, 29, 30, 31, 32, 33, 34, 35, 36, 37, 38, 39, 40, 41] (by decide +kernel) (by decide +kernel)
set_option maxRecDepth 20000 in
theorem gX6_line_X6_fails : GoodIn wsX6_line (wsV RX6 45 RX6 yX6_fails wsX6_fails) := goodIn_app (goodIn_of _ (by decide +kernel)) ggX6_line_X6_fails
set_option maxRecDepth 20000 in
theorem ggX6_line_X6_done : GoodIn wsX6_line wsX6_done := goodIn_r _ [14, 10, 15, 16, 17, 18, 19, 20, 21, 22, 23, 24, 25, 26, 27, 28, 29, 30, 31, 32, 33, 34, 35, 36, 37, 38, 39, 40, 41] (by decide +kernel) (by decide +kernel)
set_option maxRecDepth 20000 in
theorem gX6_line_X6_done : GoodIn wsX6_line (wsV RX6 71 RX6 yX6_done wsX6_done) := goodIn_app (goodIn_of _ (by decide +kernel)) ggX6_line_X6_done
theorem dX6_line_0 : decode cX6_line 0 = .ok (.aload_n 0, 1) := by decide +kernel
theorem dX6_line_1 : decode cX6_line 1 = .ok (.getfield 9, 3) := by decide +kernel
theorem dX6_line_4 : decode cX6_line 4 = .ok (.bipush 7, 2) := by decide +kernel
theorem dX6_line_6 : decode cX6_line 6 = .ok (.iaload, 1) := by decide +kernel
theorem dX6_line_7 : decode cX6_line 7 = .ok (.ifCond .eq 20, 3) := by decide +kernel
theorem dX6_line_10 : decode cX6_line 10 = .ok (.iload_n 1, 1) := by decide +kernel
theorem dX6_line_11 : decode cX6_line 11 = .ok (.iconst 0, 1) := by decide +kernel
theorem dX6_line_12 : decode cX6_line 12 = .ok (.aload_n 0, 1) := by decide +kernel
theorem dX6_line_13 : decode cX6_line 13 = .ok (.getfield 9, 3) := by decide +kernel
theorem dX6_line_16 : decode cX6_line 16 = .ok (.bipush 6, 2) := by decide +kernel
theorem dX6_line_18 : decode cX6_line 18 = .ok (.iaload, 1) := by decide +kernel
theorem dX6_line_19 : decode cX6_line 19 = .ok (.iconst 1, 1) := by decide +kernel
theorem dX6_line_20 : decode cX6_line 20 = .ok (.isub, 1) := by decide +kernel
theorem dX6_line_21 : decode cX6_line 21 = .ok (.invokestatic 64, 3) := by decide +kernel
theorem dX6_line_24 : decode cX6_line 24 = .ok (.ifCond .ne 9, 3) := by decide +kernel
theorem dX6_line_27 : decode cX6_line 27 = .ok (.aload_n 0, 1) := by decide +kernel
theorem dX6_line_28 : decode cX6_line 28 = .ok (.iconst 1, 1) := by decide +kernel
theorem dX6_line_29 : decode cX6_line 29 = .ok (.invokevirtual 45, 3) := by decide +kernel
theorem dX6_line_32 : decode cX6_line 32 = .ok (.ireturn, 1) := by decide +kernel
theorem dX6_line_33 : decode cX6_line 33 = .ok (.iload_n 2, 1) := by decide +kernel
theorem dX6_line_34 : decode cX6_line 34 = .ok (.iconst 0, 1) := by decide +kernel
theorem dX6_line_35 : decode cX6_line 35 = .ok (.iconst 4, 1) := by decide +kernel
theorem dX6_line_36 : decode cX6_line 36 = .ok (.invokestatic 64, 3) := by decide +kernel
theorem dX6_line_39 : decode cX6_line 39 = .ok (.ifCond .eq 24, 3) := by decide +kernel
theorem dX6_line_42 : decode cX6_line 42 = .ok (.aload_n 0, 1) := by decide +kernel
theorem dX6_line_43 : decode cX6_line 43 = .ok (.aload_n 0, 1) := by decide +kernel
theorem dX6_line_44 : decode cX6_line 44 = .ok (.getfield 9, 3) := by decide +kernel
theorem dX6_line_47 : decode cX6_line 47 = .ok (.sipush 428, 3) := by decide +kernel
theorem dX6_line_50 : decode cX6_line 50 = .ok (.iconst 5, 1) := by decide +kernel
theorem dX6_line_51 : decode cX6_line 51 = .ok (.iload_n 1, 1) := by decide +kernel
theorem dX6_line_52 : decode cX6_line 52 = .ok (.imul, 1) := by decide +kernel
theorem dX6_line_53 : decode cX6_line 53 = .ok (.iadd, 1) := by decide +kernel
theorem dX6_line_54 : decode cX6_line 54 = .ok (.iload_n 2, 1) := by decide +kernel
theorem dX6_line_55 : decode cX6_line 55 = .ok (.iadd, 1) := by decide +kernel
theorem dX6_line_56 : decode cX6_line 56 = .ok (.iaload, 1) := by decide +kernel
theorem dX6_line_57 : decode cX6_line 57 = .ok (.invokevirtual 71, 3) := by decide +kernel
theorem dX6_line_60 : decode cX6_line 60 = .ok (.goto 8, 3) := by decide +kernel
theorem dX6_line_63 : decode cX6_line 63 = .ok (.aload_n 0, 1) := by decide +kernel
theorem dX6_line_64 : decode cX6_line 64 = .ok (.iconst 2, 1) := by decide +kernel
theorem dX6_line_65 : decode cX6_line 65 = .ok (.invokevirtual 45, 3) := by decide +kernel
theorem dX6_line_68 : decode cX6_line 68 = .ok (.ireturn, 1) := by decide +kernel
theorem dX6_upTo_0 : decode cX6_upTo 0 = .ok (.iload_n 0, 1) := by decide +kernel
theorem dX6_upTo_1 : decode cX6_upTo 1 = .ok (.sipush 960, 3) := by decide +kernel
theorem dX6_upTo_4 : decode cX6_upTo 4 = .ok (.if_icmp .ge 7, 3) := by decide +kernel
theorem dX6_upTo_7 : decode cX6_upTo 7 = .ok (.iload_n 0, 1) := by decide +kernel
theorem dX6_upTo_8 : decode cX6_upTo 8 = .ok (.goto 6, 3) := by decide +kernel
theorem dX6_upTo_11 : decode cX6_upTo 11 = .ok (.sipush 960, 3) := by decide +kernel
theorem dX6_upTo_14 : decode cX6_upTo 14 = .ok (.ireturn, 1) := by decide +kernel
set_option maxRecDepth 20000 in
theorem ggX6_used_X6_isHall : GoodIn wsX6_used wsX6_isHall := goodIn_ca (goodIn_r _ [6, 1, 7, 8, 5, 9, 53, 54, 55, 56, 57, 58, 59, 60, 61, 62, 63, 64, 65, 66, 67, 68, 69, 70, 71, 72, 73, 74, 75, 76, 77, 78, 79] (by decide +kernel) (by decide +kernel)) (goodIn_sub (fun _ h => List.mem_cons_of_mem _ (List.mem_append_right _ h)) (by decide +kernel))
set_option maxRecDepth 20000 in
theorem gX6_used_X6_isHall : GoodIn wsX6_used (wsV RX6 104 RX6 yX6_isHall wsX6_isHall) := goodIn_app (goodIn_of _ (by decide +kernel)) ggX6_used_X6_isHall
set_option maxRecDepth 20000 in
theorem ggX6_used_X6_fails : GoodIn wsX6_used wsX6_fails := goodIn_r _ [13, 14, 53, 54, 55, 56, 57, 58, 59, 60, 61, 62, 63, 64, 65, 66, 67, 68, 69, 70, 71, 72, 73, 74, 75, 76, 77, 78, 79] (by decide +kernel) (by decide +kernel)
set_option maxRecDepth 20000 in
theorem gX6_used_X6_fails : GoodIn wsX6_used (wsV RX6 45 RX6 yX6_fails wsX6_fails) := goodIn_app (goodIn_of _ (by decide +kernel)) ggX6_used_X6_fails
set_option maxRecDepth 20000 in
theorem ggX6_used_X6_isDay : GoodIn wsX6_used wsX6_isDay := goodIn_r _ [17, 7, 8, 5, 9] (by decide +kernel) (by decide +kernel)
set_option maxRecDepth 20000 in
theorem gX6_used_X6_isDay : GoodIn wsX6_used (va_wsS RX6 74 yX6_isDay wsX6_isDay) := goodIn_app (goodIn_of _ (by decide +kernel)) ggX6_used_X6_isDay
set_option maxRecDepth 20000 in
theorem ggX6_used_X6_in : GoodIn wsX6_used wsX6_in := goodIn_r _ [9] (by decide +kernel) (by decide +kernel)
set_option maxRecDepth 20000 in
theorem gX6_used_X6_in : GoodIn wsX6_used (va_wsS RX6 64 yX6_in wsX6_in) := goodIn_app (goodIn_of _ (by decide +kernel)) ggX6_used_X6_in
set_option maxRecDepth 20000 in
theorem ggX6_used_X6_stands : GoodIn wsX6_used wsX6_stands := goodIn_ca (goodIn_r _ [21, 22, 23, 24, 5, 25, 1, 53, 54, 55, 56, 57, 58, 59, 60, 61, 62, 63, 64, 65, 66, 67, 68, 69, 70, 71, 72, 73, 74, 75, 76, 77, 78, 79] (by decide +kernel) (by decide +kernel)) (goodIn_sub (fun _ h => List.mem_cons_of_mem _ (List.mem_append_right _ h)) (by decide +kernel))
set_option maxRecDepth 20000 in
theorem gX6_used_X6_stands : GoodIn wsX6_used (wsV RX6 107 RX6 yX6_stands wsX6_stands) := goodIn_app (goodIn_of _ (by decide +kernel)) ggX6_used_X6_stands
set_option maxRecDepth 20000 in
theorem ggX6_used_X6_showAt : GoodIn wsX6_used wsX6_showAt := goodIn_ca (goodIn_r _ [25, 1, 53, 54, 55, 56, 57, 58, 59, 60, 61, 62, 63, 64, 65, 66, 67, 68, 69, 70, 71, 72, 73, 74, 75, 76, 77, 78, 79] (by decide +kernel) (by decide +kernel)) (goodIn_sub (fun _ h => List.mem_cons_of_mem _ (List.mem_append_right _ h)) (by decide +kernel))
set_option maxRecDepth 20000 in
theorem gX6_used_X6_showAt : GoodIn wsX6_used (wsV RX6 89 RX6 yX6_showAt wsX6_showAt) := goodIn_app (goodIn_of _ (by decide +kernel)) ggX6_used_X6_showAt
set_option maxRecDepth 20000 in
theorem ggX6_used_X6_minutesOf : GoodIn wsX6_used wsX6_minutesOf := goodIn_ca (goodIn_r _ [29, 22, 23, 24, 5, 25, 1, 30, 31, 32, 33, 53, 54, 55, 56, 57, 58, 59, 60, 61, 62, 63, 64, 65, 66, 67, 68, 69, 70, 71, 72, 73, 74, 75, 76, 77, 78, 79] (by decide +kernel) (by decide +kernel)) (goodIn_sub (fun _ h => List.mem_cons_of_mem _ (List.mem_append_right _ h)) (by decide +kernel))
set_option maxRecDepth 20000 in
theorem gX6_used_X6_minutesOf : GoodIn wsX6_used (wsV RX6 92 RX6 yX6_minutesOf wsX6_minutesOf) := goodIn_app (goodIn_of _ (by decide +kernel)) ggX6_used_X6_minutesOf
set_option maxRecDepth 20000 in
theorem ggX6_used_X6_endOf : GoodIn wsX6_used wsX6_endOf := goodIn_ca (goodIn_r _ [37, 22, 23, 24, 5, 25, 1, 26, 27, 28, 29, 30, 31, 32, 33, 53, 54, 55, 56, 57, 58, 59, 60, 61, 62, 63, 64, 65, 66, 67, 68, 69, 70, 71, 72, 73, 74, 75, 76, 77, 78, 79] (by decide +kernel) (by decide +kernel)) (goodIn_sub (fun _ h => List.mem_cons_of_mem _ (List.mem_append_right _ h)) (by decide +kernel))
set_option maxRecDepth 20000 in
theorem gX6_used_X6_endOf : GoodIn wsX6_used (wsV RX6 151 RX6 yX6_endOf wsX6_endOf) := goodIn_app (goodIn_of _ (by decide +kernel)) ggX6_used_X6_endOf
set_option maxRecDepth 20000 in
theorem ggX6_used_X6_cleanOf : GoodIn wsX6_used wsX6_cleanOf := goodIn_ca (goodIn_r _ [41, 22, 23, 24, 5, 25, 1, 42, 43, 44, 45, 53, 54, 55, 56, 57, 58, 59, 60, 61, 62, 63, 64, 65, 66, 67, 68, 69, 70, 71, 72, 73, 74, 75, 76, 77, 78, 79] (by decide +kernel) (by decide +kernel)) (goodIn_sub (fun _ h => List.mem_cons_of_mem _ (List.mem_append_right _ h)) (by decide +kernel))
set_option maxRecDepth 20000 in
theorem gX6_used_X6_cleanOf : GoodIn wsX6_used (wsV RX6 154 RX6 yX6_cleanOf wsX6_cleanOf) := goodIn_app (goodIn_of _ (by decide +kernel)) ggX6_used_X6_cleanOf
set_option maxRecDepth 20000 in
theorem ggX6_used_X6_upTo : GoodIn wsX6_used wsX6_upTo := goodIn_r _ [48] (by decide +kernel) (by decide +kernel)
set_option maxRecDepth 20000 in
theorem gX6_used_X6_upTo : GoodIn wsX6_used (va_wsS RX6 230 yX6_upTo wsX6_upTo) := goodIn_app (goodIn_of _ (by decide +kernel)) ggX6_used_X6_upTo
set_option maxRecDepth 20000 in
theorem ggX6_used_X6_done : GoodIn wsX6_used wsX6_done := goodIn_r _ [52, 14, 53, 54, 55, 56, 57, 58, 59, 60, 61, 62, 63, 64, 65, 66, 67, 68, 69, 70, 71, 72, 73, 74, 75, 76, 77, 78, 79] (by decide +kernel) (by decide +kernel)
set_option maxRecDepth 20000 in
theorem gX6_used_X6_done : GoodIn wsX6_used (wsV RX6 71 RX6 yX6_done wsX6_done) := goodIn_app (goodIn_of _ (by decide +kernel)) ggX6_used_X6_done
theorem dX6_used_0 : decode cX6_used 0 = .ok (.aload_n 0, 1) := by decide +kernel
theorem dX6_used_1 : decode cX6_used 1 = .ok (.iload_n 1, 1) := by decide +kernel
theorem dX6_used_2 : decode cX6_used 2 = .ok (.invokevirtual 104, 3) := by decide +kernel
theorem dX6_used_5 : decode cX6_used 5 = .ok (.ifCond .ne 9, 3) := by decide +kernel
theorem dX6_used_8 : decode cX6_used 8 = .ok (.aload_n 0, 1) := by decide +kernel
theorem dX6_used_9 : decode cX6_used 9 = .ok (.iconst 1, 1) := by decide +kernel
theorem dX6_used_10 : decode cX6_used 10 = .ok (.invokevirtual 45, 3) := by decide +kernel
theorem dX6_used_13 : decode cX6_used 13 = .ok (.ireturn, 1) := by decide +kernel
theorem dX6_used_14 : decode cX6_used 14 = .ok (.iload_n 2, 1) := by decide +kernel
theorem dX6_used_15 : decode cX6_used 15 = .ok (.invokestatic 74, 3) := by decide +kernel
theorem dX6_used_18 : decode cX6_used 18 = .ok (.ifCond .eq 12, 3) := by decide +kernel
theorem dX6_used_21 : decode cX6_used 21 = .ok (.iload_n 3, 1) := by decide +kernel
theorem dX6_used_22 : decode cX6_used 22 = .ok (.iconst 0, 1) := by decide +kernel
theorem dX6_used_23 : decode cX6_used 23 = .ok (.iconst 4, 1) := by decide +kernel
theorem dX6_used_24 : decode cX6_used 24 = .ok (.invokestatic 64, 3) := by decide +kernel
theorem dX6_used_27 : decode cX6_used 27 = .ok (.ifCond .ne 9, 3) := by decide +kernel
theorem dX6_used_30 : decode cX6_used 30 = .ok (.aload_n 0, 1) := by decide +kernel
theorem dX6_used_31 : decode cX6_used 31 = .ok (.iconst 2, 1) := by decide +kernel
theorem dX6_used_32 : decode cX6_used 32 = .ok (.invokevirtual 45, 3) := by decide +kernel
theorem dX6_used_35 : decode cX6_used 35 = .ok (.ireturn, 1) := by decide +kernel
theorem dX6_used_36 : decode cX6_used 36 = .ok (.iconst 0, 1) := by decide +kernel
theorem dX6_used_37 : decode cX6_used 37 = .ok (.istore 4, 2) := by decide +kernel
theorem dX6_used_39 : decode cX6_used 39 = .ok (.iconst 0, 1) := by decide +kernel
theorem dX6_used_40 : decode cX6_used 40 = .ok (.istore 5, 2) := by decide +kernel
theorem dX6_used_42 : decode cX6_used 42 = .ok (.iconst (-1), 1) := by decide +kernel
theorem dX6_used_43 : decode cX6_used 43 = .ok (.istore 6, 2) := by decide +kernel
theorem dX6_used_45 : decode cX6_used 45 = .ok (.iconst (-1), 1) := by decide +kernel
theorem dX6_used_46 : decode cX6_used 46 = .ok (.istore 7, 2) := by decide +kernel
theorem dX6_used_48 : decode cX6_used 48 = .ok (.iconst 0, 1) := by decide +kernel
theorem dX6_used_49 : decode cX6_used 49 = .ok (.istore 8, 2) := by decide +kernel
theorem dX6_used_51 : decode cX6_used 51 = .ok (.iload 8, 2) := by decide +kernel
theorem dX6_used_53 : decode cX6_used 53 = .ok (.aload_n 0, 1) := by decide +kernel
theorem dX6_used_54 : decode cX6_used 54 = .ok (.getfield 9, 3) := by decide +kernel
theorem dX6_used_57 : decode cX6_used 57 = .ok (.iconst 4, 1) := by decide +kernel
theorem dX6_used_58 : decode cX6_used 58 = .ok (.iaload, 1) := by decide +kernel
theorem dX6_used_59 : decode cX6_used 59 = .ok (.if_icmp .ge 138, 3) := by decide +kernel
theorem dX6_used_62 : decode cX6_used 62 = .ok (.aload_n 0, 1) := by decide +kernel
theorem dX6_used_63 : decode cX6_used 63 = .ok (.iload 8, 2) := by decide +kernel
theorem dX6_used_65 : decode cX6_used 65 = .ok (.invokevirtual 107, 3) := by decide +kernel
theorem dX6_used_68 : decode cX6_used 68 = .ok (.ifCond .eq 123, 3) := by decide +kernel
theorem dX6_used_71 : decode cX6_used 71 = .ok (.aload_n 0, 1) := by decide +kernel
theorem dX6_used_72 : decode cX6_used 72 = .ok (.iload 8, 2) := by decide +kernel
theorem dX6_used_74 : decode cX6_used 74 = .ok (.iconst 0, 1) := by decide +kernel
theorem dX6_used_75 : decode cX6_used 75 = .ok (.invokevirtual 89, 3) := by decide +kernel
theorem dX6_used_78 : decode cX6_used 78 = .ok (.iload_n 1, 1) := by decide +kernel
theorem dX6_used_79 : decode cX6_used 79 = .ok (.if_icmp .ne 112, 3) := by decide +kernel
theorem dX6_used_82 : decode cX6_used 82 = .ok (.aload_n 0, 1) := by decide +kernel
theorem dX6_used_83 : decode cX6_used 83 = .ok (.iload 8, 2) := by decide +kernel
theorem dX6_used_85 : decode cX6_used 85 = .ok (.iconst 2, 1) := by decide +kernel
theorem dX6_used_86 : decode cX6_used 86 = .ok (.invokevirtual 89, 3) := by decide +kernel
theorem dX6_used_89 : decode cX6_used 89 = .ok (.iload_n 2, 1) := by decide +kernel
theorem dX6_used_90 : decode cX6_used 90 = .ok (.if_icmp .ne 101, 3) := by decide +kernel
theorem dX6_used_93 : decode cX6_used 93 = .ok (.iload 4, 2) := by decide +kernel
theorem dX6_used_95 : decode cX6_used 95 = .ok (.aload_n 0, 1) := by decide +kernel
theorem dX6_used_96 : decode cX6_used 96 = .ok (.iload 8, 2) := by decide +kernel
theorem dX6_used_98 : decode cX6_used 98 = .ok (.invokevirtual 92, 3) := by decide +kernel
theorem dX6_used_101 : decode cX6_used 101 = .ok (.iadd, 1) := by decide +kernel
theorem dX6_used_102 : decode cX6_used 102 = .ok (.istore 4, 2) := by decide +kernel
theorem dX6_used_104 : decode cX6_used 104 = .ok (.iload 5, 2) := by decide +kernel
theorem dX6_used_106 : decode cX6_used 106 = .ok (.aload_n 0, 1) := by decide +kernel
theorem dX6_used_107 : decode cX6_used 107 = .ok (.iload 8, 2) := by decide +kernel
theorem dX6_used_109 : decode cX6_used 109 = .ok (.invokevirtual 151, 3) := by decide +kernel
theorem dX6_used_112 : decode cX6_used 112 = .ok (.aload_n 0, 1) := by decide +kernel
theorem dX6_used_113 : decode cX6_used 113 = .ok (.iload 8, 2) := by decide +kernel
theorem dX6_used_115 : decode cX6_used 115 = .ok (.invokevirtual 154, 3) := by decide +kernel
theorem dX6_used_118 : decode cX6_used 118 = .ok (.iadd, 1) := by decide +kernel
theorem dX6_used_119 : decode cX6_used 119 = .ok (.invokestatic 230, 3) := by decide +kernel
theorem dX6_used_122 : decode cX6_used 122 = .ok (.aload_n 0, 1) := by decide +kernel
theorem dX6_used_123 : decode cX6_used 123 = .ok (.iload 8, 2) := by decide +kernel
theorem dX6_used_125 : decode cX6_used 125 = .ok (.invokevirtual 151, 3) := by decide +kernel
theorem dX6_used_128 : decode cX6_used 128 = .ok (.invokestatic 230, 3) := by decide +kernel
theorem dX6_used_131 : decode cX6_used 131 = .ok (.isub, 1) := by decide +kernel
theorem dX6_used_132 : decode cX6_used 132 = .ok (.iadd, 1) := by decide +kernel
theorem dX6_used_133 : decode cX6_used 133 = .ok (.istore 5, 2) := by decide +kernel
theorem dX6_used_135 : decode cX6_used 135 = .ok (.iload 6, 2) := by decide +kernel
theorem dX6_used_137 : decode cX6_used 137 = .ok (.iconst (-1), 1) := by decide +kernel
theorem dX6_used_138 : decode cX6_used 138 = .ok (.if_icmp .eq 15, 3) := by decide +kernel
theorem dX6_used_141 : decode cX6_used 141 = .ok (.aload_n 0, 1) := by decide +kernel
theorem dX6_used_142 : decode cX6_used 142 = .ok (.iload 8, 2) := by decide +kernel
theorem dX6_used_144 : decode cX6_used 144 = .ok (.iconst 3, 1) := by decide +kernel
theorem dX6_used_145 : decode cX6_used 145 = .ok (.invokevirtual 89, 3) := by decide +kernel
theorem dX6_used_148 : decode cX6_used 148 = .ok (.iload 6, 2) := by decide +kernel
theorem dX6_used_150 : decode cX6_used 150 = .ok (.if_icmp .ge 13, 3) := by decide +kernel
theorem dX6_used_153 : decode cX6_used 153 = .ok (.aload_n 0, 1) := by decide +kernel
theorem dX6_used_154 : decode cX6_used 154 = .ok (.iload 8, 2) := by decide +kernel
theorem dX6_used_156 : decode cX6_used 156 = .ok (.iconst 3, 1) := by decide +kernel
theorem dX6_used_157 : decode cX6_used 157 = .ok (.invokevirtual 89, 3) := by decide +kernel
theorem dX6_used_160 : decode cX6_used 160 = .ok (.goto 5, 3) := by decide +kernel
theorem dX6_used_163 : decode cX6_used 163 = .ok (.iload 6, 2) := by decide +kernel
theorem dX6_used_165 : decode cX6_used 165 = .ok (.istore 6, 2) := by decide +kernel
theorem dX6_used_167 : decode cX6_used 167 = .ok (.aload_n 0, 1) := by decide +kernel
theorem dX6_used_168 : decode cX6_used 168 = .ok (.iload 8, 2) := by decide +kernel
theorem dX6_used_170 : decode cX6_used 170 = .ok (.invokevirtual 151, 3) := by decide +kernel
theorem dX6_used_173 : decode cX6_used 173 = .ok (.iload 7, 2) := by decide +kernel
theorem dX6_used_175 : decode cX6_used 175 = .ok (.if_icmp .le 12, 3) := by decide +kernel
theorem dX6_used_178 : decode cX6_used 178 = .ok (.aload_n 0, 1) := by decide +kernel
theorem dX6_used_179 : decode cX6_used 179 = .ok (.iload 8, 2) := by decide +kernel
theorem dX6_used_181 : decode cX6_used 181 = .ok (.invokevirtual 151, 3) := by decide +kernel
theorem dX6_used_184 : decode cX6_used 184 = .ok (.goto 5, 3) := by decide +kernel
theorem dX6_used_187 : decode cX6_used 187 = .ok (.iload 7, 2) := by decide +kernel
theorem dX6_used_189 : decode cX6_used 189 = .ok (.istore 7, 2) := by decide +kernel
theorem dX6_used_191 : decode cX6_used 191 = .ok (.iinc 8 1, 3) := by decide +kernel
theorem dX6_used_194 : decode cX6_used 194 = .ok (.goto (-143), 3) := by decide +kernel
theorem dX6_used_197 : decode cX6_used 197 = .ok (.aload_n 0, 1) := by decide +kernel
theorem dX6_used_198 : decode cX6_used 198 = .ok (.iload_n 3, 1) := by decide +kernel
theorem dX6_used_199 : decode cX6_used 199 = .ok (.ifCond .ne 8, 3) := by decide +kernel
theorem dX6_used_202 : decode cX6_used 202 = .ok (.iload 4, 2) := by decide +kernel
theorem dX6_used_204 : decode cX6_used 204 = .ok (.goto 42, 3) := by decide +kernel
theorem dX6_used_207 : decode cX6_used 207 = .ok (.iload_n 3, 1) := by decide +kernel
theorem dX6_used_208 : decode cX6_used 208 = .ok (.iconst 1, 1) := by decide +kernel
theorem dX6_used_209 : decode cX6_used 209 = .ok (.if_icmp .ne 8, 3) := by decide +kernel
theorem dX6_used_212 : decode cX6_used 212 = .ok (.iload 5, 2) := by decide +kernel
theorem dX6_used_214 : decode cX6_used 214 = .ok (.goto 32, 3) := by decide +kernel
theorem dX6_used_217 : decode cX6_used 217 = .ok (.iload_n 3, 1) := by decide +kernel
theorem dX6_used_218 : decode cX6_used 218 = .ok (.iconst 2, 1) := by decide +kernel
theorem dX6_used_219 : decode cX6_used 219 = .ok (.if_icmp .ne 15, 3) := by decide +kernel
theorem dX6_used_222 : decode cX6_used 222 = .ok (.sipush 960, 3) := by decide +kernel
theorem dX6_used_225 : decode cX6_used 225 = .ok (.iload 4, 2) := by decide +kernel
theorem dX6_used_227 : decode cX6_used 227 = .ok (.isub, 1) := by decide +kernel
theorem dX6_used_228 : decode cX6_used 228 = .ok (.iload 5, 2) := by decide +kernel
theorem dX6_used_230 : decode cX6_used 230 = .ok (.isub, 1) := by decide +kernel
theorem dX6_used_231 : decode cX6_used 231 = .ok (.goto 15, 3) := by decide +kernel
theorem dX6_used_234 : decode cX6_used 234 = .ok (.iload_n 3, 1) := by decide +kernel
theorem dX6_used_235 : decode cX6_used 235 = .ok (.iconst 3, 1) := by decide +kernel
theorem dX6_used_236 : decode cX6_used 236 = .ok (.if_icmp .ne 8, 3) := by decide +kernel
theorem dX6_used_239 : decode cX6_used 239 = .ok (.iload 6, 2) := by decide +kernel
theorem dX6_used_241 : decode cX6_used 241 = .ok (.goto 5, 3) := by decide +kernel
theorem dX6_used_244 : decode cX6_used 244 = .ok (.iload 7, 2) := by decide +kernel
theorem dX6_used_246 : decode cX6_used 246 = .ok (.invokevirtual 71, 3) := by decide +kernel
theorem dX6_used_249 : decode cX6_used 249 = .ok (.ireturn, 1) := by decide +kernel
set_option maxRecDepth 20000 in
theorem ggX6_at_X6_isDay : GoodIn wsX6_at wsX6_isDay := goodIn_r _ [5, 6, 7, 4, 8] (by decide +kernel) (by decide +kernel)
set_option maxRecDepth 20000 in
theorem gX6_at_X6_isDay : GoodIn wsX6_at (va_wsS RX6 74 yX6_isDay wsX6_isDay) := goodIn_app (goodIn_of _ (by decide +kernel)) ggX6_at_X6_isDay
set_option maxRecDepth 20000 in
theorem ggX6_at_X6_in : GoodIn wsX6_at wsX6_in := goodIn_r _ [8] (by decide +kernel) (by decide +kernel)
set_option maxRecDepth 20000 in
theorem gX6_at_X6_in : GoodIn wsX6_at (va_wsS RX6 64 yX6_in wsX6_in) := goodIn_app (goodIn_of _ (by decide +kernel)) ggX6_at_X6_in
set_option maxRecDepth 20000 in
theorem ggX6_at_X6_fails : GoodIn wsX6_at wsX6_fails := goodIn_r _ [12, 13, 46, 47, 48, 49, 50, 51, 52, 53, 54, 55, 56, 57, 58, 59, 60, 61, 62, 63, 64, 65, 66, 67, 68, 69, 70, 71, 72] (by decide +kernel) (by decide +kernel)
set_option maxRecDepth 20000 in
theorem gX6_at_X6_fails : GoodIn wsX6_at (wsV RX6 45 RX6 yX6_fails wsX6_fails) := goodIn_app (goodIn_of _ (by decide +kernel)) ggX6_at_X6_fails
set_option maxRecDepth 20000 in
theorem ggX6_at_X6_stands : GoodIn wsX6_at wsX6_stands := goodIn_ca (goodIn_r _ [17, 18, 19, 20, 4, 21, 1, 46, 47, 48, 49, 50, 51, 52, 53, 54, 55, 56, 57, 58, 59, 60, 61, 62, 63, 64, 65, 66, 67, 68, 69, 70, 71, 72] (by decide +kernel) (by decide +kernel)) (goodIn_sub (fun _ h => List.mem_cons_of_mem _ (List.mem_append_right _ h)) (by decide +kernel))
set_option maxRecDepth 20000 in
theorem gX6_at_X6_stands : GoodIn wsX6_at (wsV RX6 107 RX6 yX6_stands wsX6_stands) := goodIn_app (goodIn_of _ (by decide +kernel)) ggX6_at_X6_stands
set_option maxRecDepth 20000 in
theorem ggX6_at_X6_showAt : GoodIn wsX6_at wsX6_showAt := goodIn_ca (goodIn_r _ [21, 1, 46, 47, 48, 49, 50, 51, 52, 53, 54, 55, 56, 57, 58, 59, 60, 61, 62, 63, 64, 65, 66, 67, 68, 69, 70, 71, 72] (by decide +kernel) (by decide +kernel)) (goodIn_sub (fun _ h => List.mem_cons_of_mem _ (List.mem_append_right _ h)) (by decide +kernel))
set_option maxRecDepth 20000 in
theorem gX6_at_X6_showAt : GoodIn wsX6_at (wsV RX6 89 RX6 yX6_showAt wsX6_showAt) := goodIn_app (goodIn_of _ (by decide +kernel)) ggX6_at_X6_showAt
set_option maxRecDepth 20000 in
theorem ggX6_at_X6_endOf : GoodIn wsX6_at wsX6_endOf := goodIn_ca (goodIn_r _ [25, 18, 19, 20, 4, 21, 1, 26, 27, 28, 29, 30, 31, 32, 33, 46, 47, 48, 49, 50, 51, 52, 53, 54, 55, 56, 57, 58, 59, 60, 61, 62, 63, 64, 65, 66, 67, 68, 69, 70, 71, 72] (by decide +kernel) (by decide +kernel)) (goodIn_sub (fun _ h => List.mem_cons_of_mem _ (List.mem_append_right _ h)) (by decide +kernel))
set_option maxRecDepth 20000 in
theorem gX6_at_X6_endOf : GoodIn wsX6_at (wsV RX6 151 RX6 yX6_endOf wsX6_endOf) := goodIn_app (goodIn_of _ (by decide +kernel)) ggX6_at_X6_endOf
set_option maxRecDepth 20000 in
theorem ggX6_at_X6_hallAt : GoodIn wsX6_at wsX6_hallAt := goodIn_ca (goodIn_r _ [37, 1, 46, 47, 48, 49, 50, 51, 52, 53, 54, 55, 56, 57, 58, 59, 60, 61, 62, 63, 64, 65, 66, 67, 68, 69, 70, 71, 72] (by decide +kernel) (by decide +kernel)) (goodIn_sub (fun _ h => List.mem_cons_of_mem _ (List.mem_append_right _ h)) (by decide +kernel))
set_option maxRecDepth 20000 in
theorem gX6_at_X6_hallAt : GoodIn wsX6_at (wsV RX6 95 RX6 yX6_hallAt wsX6_hallAt) := goodIn_app (goodIn_of _ (by decide +kernel)) ggX6_at_X6_hallAt
set_option maxRecDepth 20000 in
theorem ggX6_at_X6_cleanOf : GoodIn wsX6_at wsX6_cleanOf := goodIn_ca (goodIn_r _ [41, 18, 19, 20, 4, 21, 1, 34, 35, 36, 37, 46, 47, 48, 49, 50, 51, 52, 53, 54, 55, 56, 57, 58, 59, 60, 61, 62, 63, 64, 65, 66, 67, 68, 69, 70, 71, 72] (by decide +kernel) (by decide +kernel)) (goodIn_sub (fun _ h => List.mem_cons_of_mem _ (List.mem_append_right _ h)) (by decide +kernel))
set_option maxRecDepth 20000 in
theorem gX6_at_X6_cleanOf : GoodIn wsX6_at (wsV RX6 154 RX6 yX6_cleanOf wsX6_cleanOf) := goodIn_app (goodIn_of _ (by decide +kernel)) ggX6_at_X6_cleanOf
set_option maxRecDepth 20000 in
theorem ggX6_at_X6_done : GoodIn wsX6_at wsX6_done := goodIn_r _ [45, 13, 46, 47, 48, 49, 50, 51, 52, 53, 54, 55, 56, 57, 58, 59, 60, 61, 62, 63, 64, 65, 66, 67, 68, 69, 70, 71, 72] (by decide +kernel) (by decide +kernel)
set_option maxRecDepth 20000 in
theorem gX6_at_X6_done : GoodIn wsX6_at (wsV RX6 71 RX6 yX6_done wsX6_done) := goodIn_app (goodIn_of _ (by decide +kernel)) ggX6_at_X6_done
