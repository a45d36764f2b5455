theorem dX6_addTrailer_0 : decode cX6_addTrailer 0 = .ok (.aload_n 0, 1) := by decide +kernel
theorem dX6_addTrailer_1 : decode cX6_addTrailer 1 = .ok (.iload_n 1, 1) := by decide +kernel
theorem dX6_addTrailer_2 : decode cX6_addTrailer 2 = .ok (.invokevirtual 78, 3) := by decide +kernel
theorem dX6_addTrailer_5 : decode cX6_addTrailer 5 = .ok (.ifCond .ne 9, 3) := by decide +kernel
theorem dX6_addTrailer_8 : decode cX6_addTrailer 8 = .ok (.aload_n 0, 1) := by decide +kernel
theorem dX6_addTrailer_9 : decode cX6_addTrailer 9 = .ok (.iconst 1, 1) := by decide +kernel
theorem dX6_addTrailer_10 : decode cX6_addTrailer 10 = .ok (.invokevirtual 45, 3) := by decide +kernel
theorem dX6_addTrailer_13 : decode cX6_addTrailer 13 = .ok (.ireturn, 1) := by decide +kernel
theorem dX6_addTrailer_14 : decode cX6_addTrailer 14 = .ok (.iload_n 2, 1) := by decide +kernel
theorem dX6_addTrailer_15 : decode cX6_addTrailer 15 = .ok (.iconst 1, 1) := by decide +kernel
theorem dX6_addTrailer_16 : decode cX6_addTrailer 16 = .ok (.bipush 6, 2) := by decide +kernel
theorem dX6_addTrailer_18 : decode cX6_addTrailer 18 = .ok (.invokestatic 64, 3) := by decide +kernel
theorem dX6_addTrailer_21 : decode cX6_addTrailer 21 = .ok (.ifCond .eq 23, 3) := by decide +kernel
theorem dX6_addTrailer_24 : decode cX6_addTrailer 24 = .ok (.iload_n 3, 1) := by decide +kernel
theorem dX6_addTrailer_25 : decode cX6_addTrailer 25 = .ok (.iconst 0, 1) := by decide +kernel
theorem dX6_addTrailer_26 : decode cX6_addTrailer 26 = .ok (.iconst 3, 1) := by decide +kernel
theorem dX6_addTrailer_27 : decode cX6_addTrailer 27 = .ok (.invokestatic 64, 3) := by decide +kernel
theorem dX6_addTrailer_30 : decode cX6_addTrailer 30 = .ok (.ifCond .eq 14, 3) := by decide +kernel
theorem dX6_addTrailer_33 : decode cX6_addTrailer 33 = .ok (.iload 4, 2) := by decide +kernel
theorem dX6_addTrailer_35 : decode cX6_addTrailer 35 = .ok (.iconst 1, 1) := by decide +kernel
theorem dX6_addTrailer_36 : decode cX6_addTrailer 36 = .ok (.bipush 63, 2) := by decide +kernel
theorem dX6_addTrailer_38 : decode cX6_addTrailer 38 = .ok (.invokestatic 64, 3) := by decide +kernel
theorem dX6_addTrailer_41 : decode cX6_addTrailer 41 = .ok (.ifCond .ne 9, 3) := by decide +kernel
theorem dX6_addTrailer_44 : decode cX6_addTrailer 44 = .ok (.aload_n 0, 1) := by decide +kernel
theorem dX6_addTrailer_45 : decode cX6_addTrailer 45 = .ok (.iconst 2, 1) := by decide +kernel
theorem dX6_addTrailer_46 : decode cX6_addTrailer 46 = .ok (.invokevirtual 45, 3) := by decide +kernel
theorem dX6_addTrailer_49 : decode cX6_addTrailer 49 = .ok (.ireturn, 1) := by decide +kernel
theorem dX6_addTrailer_50 : decode cX6_addTrailer 50 = .ok (.aload_n 0, 1) := by decide +kernel
theorem dX6_addTrailer_51 : decode cX6_addTrailer 51 = .ok (.getfield 9, 3) := by decide +kernel
theorem dX6_addTrailer_54 : decode cX6_addTrailer 54 = .ok (.iconst 3, 1) := by decide +kernel
theorem dX6_addTrailer_55 : decode cX6_addTrailer 55 = .ok (.iaload, 1) := by decide +kernel
theorem dX6_addTrailer_56 : decode cX6_addTrailer 56 = .ok (.bipush 10, 2) := by decide +kernel
theorem dX6_addTrailer_58 : decode cX6_addTrailer 58 = .ok (.if_icmp .ne 9, 3) := by decide +kernel
theorem dX6_addTrailer_61 : decode cX6_addTrailer 61 = .ok (.aload_n 0, 1) := by decide +kernel
theorem dX6_addTrailer_62 : decode cX6_addTrailer 62 = .ok (.iconst 3, 1) := by decide +kernel
theorem dX6_addTrailer_63 : decode cX6_addTrailer 63 = .ok (.invokevirtual 45, 3) := by decide +kernel
theorem dX6_addTrailer_66 : decode cX6_addTrailer 66 = .ok (.ireturn, 1) := by decide +kernel
theorem dX6_addTrailer_67 : decode cX6_addTrailer 67 = .ok (.aload_n 0, 1) := by decide +kernel
theorem dX6_addTrailer_68 : decode cX6_addTrailer 68 = .ok (.invokevirtual 68, 3) := by decide +kernel
theorem dX6_addTrailer_71 : decode cX6_addTrailer 71 = .ok (.bipush 118, 2) := by decide +kernel
theorem dX6_addTrailer_73 : decode cX6_addTrailer 73 = .ok (.iconst 4, 1) := by decide +kernel
theorem dX6_addTrailer_74 : decode cX6_addTrailer 74 = .ok (.aload_n 0, 1) := by decide +kernel
theorem dX6_addTrailer_75 : decode cX6_addTrailer 75 = .ok (.getfield 9, 3) := by decide +kernel
theorem dX6_addTrailer_78 : decode cX6_addTrailer 78 = .ok (.iconst 3, 1) := by decide +kernel
theorem dX6_addTrailer_79 : decode cX6_addTrailer 79 = .ok (.iaload, 1) := by decide +kernel
theorem dX6_addTrailer_80 : decode cX6_addTrailer 80 = .ok (.imul, 1) := by decide +kernel
theorem dX6_addTrailer_81 : decode cX6_addTrailer 81 = .ok (.iadd, 1) := by decide +kernel
theorem dX6_addTrailer_82 : decode cX6_addTrailer 82 = .ok (.istore 5, 2) := by decide +kernel
theorem dX6_addTrailer_84 : decode cX6_addTrailer 84 = .ok (.aload_n 0, 1) := by decide +kernel
theorem dX6_addTrailer_85 : decode cX6_addTrailer 85 = .ok (.getfield 9, 3) := by decide +kernel
theorem dX6_addTrailer_88 : decode cX6_addTrailer 88 = .ok (.iload 5, 2) := by decide +kernel
theorem dX6_addTrailer_90 : decode cX6_addTrailer 90 = .ok (.iload_n 1, 1) := by decide +kernel
theorem dX6_addTrailer_91 : decode cX6_addTrailer 91 = .ok (.iastore, 1) := by decide +kernel
theorem dX6_addTrailer_92 : decode cX6_addTrailer 92 = .ok (.aload_n 0, 1) := by decide +kernel
theorem dX6_addTrailer_93 : decode cX6_addTrailer 93 = .ok (.getfield 9, 3) := by decide +kernel
theorem dX6_addTrailer_96 : decode cX6_addTrailer 96 = .ok (.iload 5, 2) := by decide +kernel
theorem dX6_addTrailer_98 : decode cX6_addTrailer 98 = .ok (.iconst 1, 1) := by decide +kernel
theorem dX6_addTrailer_99 : decode cX6_addTrailer 99 = .ok (.iadd, 1) := by decide +kernel
theorem dX6_addTrailer_100 : decode cX6_addTrailer 100 = .ok (.iload_n 2, 1) := by decide +kernel
theorem dX6_addTrailer_101 : decode cX6_addTrailer 101 = .ok (.iastore, 1) := by decide +kernel
theorem dX6_addTrailer_102 : decode cX6_addTrailer 102 = .ok (.aload_n 0, 1) := by decide +kernel
theorem dX6_addTrailer_103 : decode cX6_addTrailer 103 = .ok (.getfield 9, 3) := by decide +kernel
theorem dX6_addTrailer_106 : decode cX6_addTrailer 106 = .ok (.iload 5, 2) := by decide +kernel
theorem dX6_addTrailer_108 : decode cX6_addTrailer 108 = .ok (.iconst 2, 1) := by decide +kernel
theorem dX6_addTrailer_109 : decode cX6_addTrailer 109 = .ok (.iadd, 1) := by decide +kernel
theorem dX6_addTrailer_110 : decode cX6_addTrailer 110 = .ok (.iload_n 3, 1) := by decide +kernel
theorem dX6_addTrailer_111 : decode cX6_addTrailer 111 = .ok (.iastore, 1) := by decide +kernel
theorem dX6_addTrailer_112 : decode cX6_addTrailer 112 = .ok (.aload_n 0, 1) := by decide +kernel
theorem dX6_addTrailer_113 : decode cX6_addTrailer 113 = .ok (.getfield 9, 3) := by decide +kernel
theorem dX6_addTrailer_116 : decode cX6_addTrailer 116 = .ok (.iload 5, 2) := by decide +kernel
theorem dX6_addTrailer_118 : decode cX6_addTrailer 118 = .ok (.iconst 3, 1) := by decide +kernel
theorem dX6_addTrailer_119 : decode cX6_addTrailer 119 = .ok (.iadd, 1) := by decide +kernel
theorem dX6_addTrailer_120 : decode cX6_addTrailer 120 = .ok (.iload 4, 2) := by decide +kernel
theorem dX6_addTrailer_122 : decode cX6_addTrailer 122 = .ok (.iastore, 1) := by decide +kernel
theorem dX6_addTrailer_123 : decode cX6_addTrailer 123 = .ok (.aload_n 0, 1) := by decide +kernel
theorem dX6_addTrailer_124 : decode cX6_addTrailer 124 = .ok (.getfield 9, 3) := by decide +kernel
theorem dX6_addTrailer_127 : decode cX6_addTrailer 127 = .ok (.iconst 3, 1) := by decide +kernel
theorem dX6_addTrailer_128 : decode cX6_addTrailer 128 = .ok (.dup2, 1) := by decide +kernel
theorem dX6_addTrailer_129 : decode cX6_addTrailer 129 = .ok (.iaload, 1) := by decide +kernel
theorem dX6_addTrailer_130 : decode cX6_addTrailer 130 = .ok (.iconst 1, 1) := by decide +kernel
theorem dX6_addTrailer_131 : decode cX6_addTrailer 131 = .ok (.iadd, 1) := by decide +kernel
theorem dX6_addTrailer_132 : decode cX6_addTrailer 132 = .ok (.iastore, 1) := by decide +kernel
theorem dX6_addTrailer_133 : decode cX6_addTrailer 133 = .ok (.aload_n 0, 1) := by decide +kernel
theorem dX6_addTrailer_134 : decode cX6_addTrailer 134 = .ok (.aload_n 0, 1) := by decide +kernel
theorem dX6_addTrailer_135 : decode cX6_addTrailer 135 = .ok (.getfield 9, 3) := by decide +kernel
theorem dX6_addTrailer_138 : decode cX6_addTrailer 138 = .ok (.iconst 3, 1) := by decide +kernel
theorem dX6_addTrailer_139 : decode cX6_addTrailer 139 = .ok (.iaload, 1) := by decide +kernel
theorem dX6_addTrailer_140 : decode cX6_addTrailer 140 = .ok (.iconst 1, 1) := by decide +kernel
theorem dX6_addTrailer_141 : decode cX6_addTrailer 141 = .ok (.isub, 1) := by decide +kernel
theorem dX6_addTrailer_142 : decode cX6_addTrailer 142 = .ok (.invokevirtual 71, 3) := by decide +kernel
theorem dX6_addTrailer_145 : decode cX6_addTrailer 145 = .ok (.ireturn, 1) := by decide +kernel
set_option maxRecDepth 20000 in
theorem ggX6_isValue_X6_in : GoodIn wsX6_isValue wsX6_in := goodIn_r _ [4] (by decide +kernel) (by decide +kernel)
set_option maxRecDepth 20000 in
theorem gX6_isValue_X6_in : GoodIn wsX6_isValue (va_wsS RX6 64 yX6_in wsX6_in) := goodIn_app (goodIn_of _ (by decide +kernel)) ggX6_isValue_X6_in
theorem dX6_isValue_0 : decode cX6_isValue 0 = .ok (.iload_n 0, 1) := by decide +kernel
theorem dX6_isValue_1 : decode cX6_isValue 1 = .ok (.tableswitch 74 0 4 #[35, 43, 50, 58, 66], 35) := by decide +kernel
theorem dX6_isValue_36 : decode cX6_isValue 36 = .ok (.iload_n 1, 1) := by decide +kernel
theorem dX6_isValue_37 : decode cX6_isValue 37 = .ok (.iconst 0, 1) := by decide +kernel
theorem dX6_isValue_38 : decode cX6_isValue 38 = .ok (.bipush 30, 2) := by decide +kernel
theorem dX6_isValue_40 : decode cX6_isValue 40 = .ok (.invokestatic 64, 3) := by decide +kernel
theorem dX6_isValue_43 : decode cX6_isValue 43 = .ok (.ireturn, 1) := by decide +kernel
theorem dX6_isValue_44 : decode cX6_isValue 44 = .ok (.iload_n 1, 1) := by decide +kernel
theorem dX6_isValue_45 : decode cX6_isValue 45 = .ok (.iconst 1, 1) := by decide +kernel
theorem dX6_isValue_46 : decode cX6_isValue 46 = .ok (.iconst 3, 1) := by decide +kernel
theorem dX6_isValue_47 : decode cX6_isValue 47 = .ok (.invokestatic 64, 3) := by decide +kernel
theorem dX6_isValue_50 : decode cX6_isValue 50 = .ok (.ireturn, 1) := by decide +kernel
theorem dX6_isValue_51 : decode cX6_isValue 51 = .ok (.iload_n 1, 1) := by decide +kernel
theorem dX6_isValue_52 : decode cX6_isValue 52 = .ok (.iconst 0, 1) := by decide +kernel
theorem dX6_isValue_53 : decode cX6_isValue 53 = .ok (.bipush 60, 2) := by decide +kernel
theorem dX6_isValue_55 : decode cX6_isValue 55 = .ok (.invokestatic 64, 3) := by decide +kernel
theorem dX6_isValue_58 : decode cX6_isValue 58 = .ok (.ireturn, 1) := by decide +kernel
theorem dX6_isValue_59 : decode cX6_isValue 59 = .ok (.iload_n 1, 1) := by decide +kernel
theorem dX6_isValue_60 : decode cX6_isValue 60 = .ok (.iconst 0, 1) := by decide +kernel
theorem dX6_isValue_61 : decode cX6_isValue 61 = .ok (.bipush 20, 2) := by decide +kernel
theorem dX6_isValue_63 : decode cX6_isValue 63 = .ok (.invokestatic 64, 3) := by decide +kernel
theorem dX6_isValue_66 : decode cX6_isValue 66 = .ok (.ireturn, 1) := by decide +kernel
theorem dX6_isValue_67 : decode cX6_isValue 67 = .ok (.iload_n 1, 1) := by decide +kernel
theorem dX6_isValue_68 : decode cX6_isValue 68 = .ok (.iconst 0, 1) := by decide +kernel
theorem dX6_isValue_69 : decode cX6_isValue 69 = .ok (.bipush 120, 2) := by decide +kernel
theorem dX6_isValue_71 : decode cX6_isValue 71 = .ok (.invokestatic 64, 3) := by decide +kernel
theorem dX6_isValue_74 : decode cX6_isValue 74 = .ok (.ireturn, 1) := by decide +kernel
theorem dX6_isValue_75 : decode cX6_isValue 75 = .ok (.iload_n 1, 1) := by decide +kernel
theorem dX6_isValue_76 : decode cX6_isValue 76 = .ok (.iconst 1, 1) := by decide +kernel
theorem dX6_isValue_77 : decode cX6_isValue 77 = .ok (.bipush 99, 2) := by decide +kernel
theorem dX6_isValue_79 : decode cX6_isValue 79 = .ok (.invokestatic 64, 3) := by decide +kernel
theorem dX6_isValue_82 : decode cX6_isValue 82 = .ok (.ireturn, 1) := by decide +kernel
set_option maxRecDepth 20000 in
theorem ggX6_set_X6_in : GoodIn wsX6_set wsX6_in := goodIn_r _ [5] (by decide +kernel) (by decide +kernel)
set_option maxRecDepth 20000 in
theorem gX6_set_X6_in : GoodIn wsX6_set (va_wsS RX6 64 yX6_in wsX6_in) := goodIn_app (goodIn_of _ (by decide +kernel)) ggX6_set_X6_in
set_option maxRecDepth 20000 in
theorem ggX6_set_X6_fails : GoodIn wsX6_set wsX6_fails := goodIn_r _ [9, 10, 32, 33, 34, 35, 36, 37, 38, 39, 40, 41, 42, 43, 44, 45, 46, 47, 48, 49, 50, 51, 52, 53, 54, 55, 56, 57, 58] (by decide +kernel) (by decide +kernel)
set_option maxRecDepth 20000 in
theorem gX6_set_X6_fails : GoodIn wsX6_set (wsV RX6 45 RX6 yX6_fails wsX6_fails) := goodIn_app (goodIn_of _ (by decide +kernel)) ggX6_set_X6_fails
set_option maxRecDepth 20000 in
theorem ggX6_set_X6_isValue : GoodIn wsX6_set wsX6_isValue := goodIn_r _ [13, 2, 3, 4, 5] (by decide +kernel) (by decide +kernel)
set_option maxRecDepth 20000 in
theorem gX6_set_X6_isValue : GoodIn wsX6_set (va_wsS RX6 85 yX6_isValue wsX6_isValue) := goodIn_app (goodIn_of _ (by decide +kernel)) ggX6_set_X6_isValue
set_option maxRecDepth 20000 in
theorem ggX6_set_X6_remembers : GoodIn wsX6_set wsX6_remembers := goodIn_ca (goodIn_r _ [17, 18, 1, 19, 20, 21, 4, 22, 23, 24, 25, 26, 27, 32, 33, 34, 35, 36, 37, 38, 39, 40, 41, 42, 43, 44, 45, 46, 47, 48, 49, 50, 51, 52, 53, 54, 55, 56, 57, 58] (by decide +kernel) (by decide +kernel)) (goodIn_sub (fun _ h => List.mem_cons_of_mem _ (List.mem_append_right _ h)) (by decide +kernel))
set_option maxRecDepth 20000 in
theorem gX6_set_X6_remembers : GoodIn wsX6_set (wsV RX6 68 RX6 yX6_remembers wsX6_remembers) := goodIn_app (goodIn_of _ (by decide +kernel)) ggX6_set_X6_remembers
set_option maxRecDepth 20000 in
theorem ggX6_set_X6_done : GoodIn wsX6_set wsX6_done := goodIn_r _ [31, 10, 32, 33, 34, 35, 36, 37, 38, 39, 40, 41, 42, 43, 44, 45, 46, 47, 48, 49, 50, 51, 52, 53, 54, 55, 56, 57, 58] (by decide +kernel) (by decide +kernel)
set_option maxRecDepth 20000 in
theorem gX6_set_X6_done : GoodIn wsX6_set (wsV RX6 71 RX6 yX6_done wsX6_done) := goodIn_app (goodIn_of _ (by decide +kernel)) ggX6_set_X6_done
theorem dX6_set_0 : decode cX6_set 0 = .ok (.iload_n 1, 1) := by decide +kernel
theorem dX6_set_1 : decode cX6_set 1 = .ok (.iconst 0, 1) := by decide +kernel
theorem dX6_set_2 : decode cX6_set 2 = .ok (.iconst 5, 1) := by decide +kernel
theorem dX6_set_3 : decode cX6_set 3 = .ok (.invokestatic 64, 3) := by decide +kernel
theorem dX6_set_6 : decode cX6_set 6 = .ok (.ifCond .ne 9, 3) := by decide +kernel
theorem dX6_set_9 : decode cX6_set 9 = .ok (.aload_n 0, 1) := by decide +kernel
theorem dX6_set_10 : decode cX6_set 10 = .ok (.iconst 1, 1) := by decide +kernel
theorem dX6_set_11 : decode cX6_set 11 = .ok (.invokevirtual 45, 3) := by decide +kernel
theorem dX6_set_14 : decode cX6_set 14 = .ok (.ireturn, 1) := by decide +kernel
theorem dX6_set_15 : decode cX6_set 15 = .ok (.iload_n 1, 1) := by decide +kernel
theorem dX6_set_16 : decode cX6_set 16 = .ok (.iload_n 2, 1) := by decide +kernel
theorem dX6_set_17 : decode cX6_set 17 = .ok (.invokestatic 85, 3) := by decide +kernel
theorem dX6_set_20 : decode cX6_set 20 = .ok (.ifCond .ne 9, 3) := by decide +kernel
theorem dX6_set_23 : decode cX6_set 23 = .ok (.aload_n 0, 1) := by decide +kernel
theorem dX6_set_24 : decode cX6_set 24 = .ok (.iconst 2, 1) := by decide +kernel
theorem dX6_set_25 : decode cX6_set 25 = .ok (.invokevirtual 45, 3) := by decide +kernel
theorem dX6_set_28 : decode cX6_set 28 = .ok (.ireturn, 1) := by decide +kernel
theorem dX6_set_29 : decode cX6_set 29 = .ok (.aload_n 0, 1) := by decide +kernel
theorem dX6_set_30 : decode cX6_set 30 = .ok (.invokevirtual 68, 3) := by decide +kernel
theorem dX6_set_33 : decode cX6_set 33 = .ok (.aload_n 0, 1) := by decide +kernel
theorem dX6_set_34 : decode cX6_set 34 = .ok (.getfield 9, 3) := by decide +kernel
theorem dX6_set_37 : decode cX6_set 37 = .ok (.bipush 8, 2) := by decide +kernel
theorem dX6_set_39 : decode cX6_set 39 = .ok (.iload_n 1, 1) := by decide +kernel
theorem dX6_set_40 : decode cX6_set 40 = .ok (.iadd, 1) := by decide +kernel
theorem dX6_set_41 : decode cX6_set 41 = .ok (.iaload, 1) := by decide +kernel
theorem dX6_set_42 : decode cX6_set 42 = .ok (.istore_n 3, 1) := by decide +kernel
theorem dX6_set_43 : decode cX6_set 43 = .ok (.aload_n 0, 1) := by decide +kernel
theorem dX6_set_44 : decode cX6_set 44 = .ok (.getfield 9, 3) := by decide +kernel
theorem dX6_set_47 : decode cX6_set 47 = .ok (.bipush 8, 2) := by decide +kernel
theorem dX6_set_49 : decode cX6_set 49 = .ok (.iload_n 1, 1) := by decide +kernel
theorem dX6_set_50 : decode cX6_set 50 = .ok (.iadd, 1) := by decide +kernel
theorem dX6_set_51 : decode cX6_set 51 = .ok (.iload_n 2, 1) := by decide +kernel
theorem dX6_set_52 : decode cX6_set 52 = .ok (.iastore, 1) := by decide +kernel
theorem dX6_set_53 : decode cX6_set 53 = .ok (.aload_n 0, 1) := by decide +kernel
theorem dX6_set_54 : decode cX6_set 54 = .ok (.iload_n 3, 1) := by decide +kernel
theorem dX6_set_55 : decode cX6_set 55 = .ok (.invokevirtual 71, 3) := by decide +kernel
theorem dX6_set_58 : decode cX6_set 58 = .ok (.ireturn, 1) := by decide +kernel
set_option maxRecDepth 20000 in
theorem ggX6_setLimit_X6_in : GoodIn wsX6_setLimit wsX6_in := goodIn_r _ [5] (by decide +kernel) (by decide +kernel)
set_option maxRecDepth 20000 in
theorem gX6_setLimit_X6_in : GoodIn wsX6_setLimit (va_wsS RX6 64 yX6_in wsX6_in) := goodIn_app (goodIn_of _ (by decide +kernel)) ggX6_setLimit_X6_in
set_option maxRecDepth 20000 in
theorem ggX6_setLimit_X6_fails : GoodIn wsX6_setLimit wsX6_fails := goodIn_r _ [9, 10, 29, 30, 31, 32, 33, 34, 35, 36, 37, 38, 39, 40, 41, 42, 43, 44, 45, 46, 47, 48, 49, 50, 51, 52, 53, 54, 55] (by decide +kernel) (by decide +kernel)
set_option maxRecDepth 20000 in
theorem gX6_setLimit_X6_fails : GoodIn wsX6_setLimit (wsV RX6 45 RX6 yX6_fails wsX6_fails) := goodIn_app (goodIn_of _ (by decide +kernel)) ggX6_setLimit_X6_fails
set_option maxRecDepth 20000 in
theorem ggX6_setLimit_X6_remembers : GoodIn wsX6_setLimit wsX6_remembers := goodIn_ca (goodIn_r _ [14, 15, 1, 16, 17, 18, 4, 19, 20, 21, 22, 23, 24, 29, 30, 31, 32, 33, 34, 35, 36, 37, 38, 39, 40, 41, 42, 43, 44, 45, 46, 47, 48, 49, 50, 51, 52, 53, 54, 55] (by decide +kernel) (by decide +kernel)) (goodIn_sub (fun _ h => List.mem_cons_of_mem _ (List.mem_append_right _ h)) (by decide +kernel))
set_option maxRecDepth 20000 in
theorem gX6_setLimit_X6_remembers : GoodIn wsX6_setLimit (wsV RX6 68 RX6 yX6_remembers wsX6_remembers) := goodIn_app (goodIn_of _ (by decide +kernel)) ggX6_setLimit_X6_remembers
set_option maxRecDepth 20000 in
theorem ggX6_setLimit_X6_done : GoodIn wsX6_setLimit wsX6_done := goodIn_r _ [28, 10, 29, 30, 31, 32, 33, 34, 35, 36, 37, 38, 39, 40, 41, 42, 43, 44, 45, 46, 47, 48, 49, 50, 51, 52, 53, 54, 55] (by decide +kernel) (by decide +kernel)
set_option maxRecDepth 20000 in
theorem gX6_setLimit_X6_done : GoodIn wsX6_setLimit (wsV RX6 71 RX6 yX6_done wsX6_done) := goodIn_app (goodIn_of _ (by decide +kernel)) ggX6_setLimit_X6_done
theorem dX6_setLimit_0 : decode cX6_setLimit 0 = .ok (.iload_n 1, 1) := by decide +kernel
theorem dX6_setLimit_1 : decode cX6_setLimit 1 = .ok (.iconst 0, 1) := by decide +kernel
theorem dX6_setLimit_2 : decode cX6_setLimit 2 = .ok (.bipush 15, 2) := by decide +kernel
theorem dX6_setLimit_4 : decode cX6_setLimit 4 = .ok (.invokestatic 64, 3) := by decide +kernel
theorem dX6_setLimit_7 : decode cX6_setLimit 7 = .ok (.ifCond .ne 9, 3) := by decide +kernel
theorem dX6_setLimit_10 : decode cX6_setLimit 10 = .ok (.aload_n 0, 1) := by decide +kernel
theorem dX6_setLimit_11 : decode cX6_setLimit 11 = .ok (.iconst 1, 1) := by decide +kernel
theorem dX6_setLimit_12 : decode cX6_setLimit 12 = .ok (.invokevirtual 45, 3) := by decide +kernel
theorem dX6_setLimit_15 : decode cX6_setLimit 15 = .ok (.ireturn, 1) := by decide +kernel
theorem dX6_setLimit_16 : decode cX6_setLimit 16 = .ok (.iload_n 2, 1) := by decide +kernel
theorem dX6_setLimit_17 : decode cX6_setLimit 17 = .ok (.iconst 0, 1) := by decide +kernel
theorem dX6_setLimit_18 : decode cX6_setLimit 18 = .ok (.iconst 3, 1) := by decide +kernel
theorem dX6_setLimit_19 : decode cX6_setLimit 19 = .ok (.invokestatic 64, 3) := by decide +kernel
theorem dX6_setLimit_22 : decode cX6_setLimit 22 = .ok (.ifCond .ne 9, 3) := by decide +kernel
theorem dX6_setLimit_25 : decode cX6_setLimit 25 = .ok (.aload_n 0, 1) := by decide +kernel
theorem dX6_setLimit_26 : decode cX6_setLimit 26 = .ok (.iconst 2, 1) := by decide +kernel
theorem dX6_setLimit_27 : decode cX6_setLimit 27 = .ok (.invokevirtual 45, 3) := by decide +kernel
theorem dX6_setLimit_30 : decode cX6_setLimit 30 = .ok (.ireturn, 1) := by decide +kernel
theorem dX6_setLimit_31 : decode cX6_setLimit 31 = .ok (.aload_n 0, 1) := by decide +kernel
theorem dX6_setLimit_32 : decode cX6_setLimit 32 = .ok (.invokevirtual 68, 3) := by decide +kernel
theorem dX6_setLimit_35 : decode cX6_setLimit 35 = .ok (.aload_n 0, 1) := by decide +kernel
theorem dX6_setLimit_36 : decode cX6_setLimit 36 = .ok (.getfield 9, 3) := by decide +kernel
theorem dX6_setLimit_39 : decode cX6_setLimit 39 = .ok (.bipush 14, 2) := by decide +kernel
theorem dX6_setLimit_41 : decode cX6_setLimit 41 = .ok (.iload_n 1, 1) := by decide +kernel
theorem dX6_setLimit_42 : decode cX6_setLimit 42 = .ok (.iadd, 1) := by decide +kernel
theorem dX6_setLimit_43 : decode cX6_setLimit 43 = .ok (.iaload, 1) := by decide +kernel
theorem dX6_setLimit_44 : decode cX6_setLimit 44 = .ok (.istore_n 3, 1) := by decide +kernel
theorem dX6_setLimit_45 : decode cX6_setLimit 45 = .ok (.aload_n 0, 1) := by decide +kernel
theorem dX6_setLimit_46 : decode cX6_setLimit 46 = .ok (.getfield 9, 3) := by decide +kernel
theorem dX6_setLimit_49 : decode cX6_setLimit 49 = .ok (.bipush 14, 2) := by decide +kernel
theorem dX6_setLimit_51 : decode cX6_setLimit 51 = .ok (.iload_n 1, 1) := by decide +kernel
theorem dX6_setLimit_52 : decode cX6_setLimit 52 = .ok (.iadd, 1) := by decide +kernel
theorem dX6_setLimit_53 : decode cX6_setLimit 53 = .ok (.iload_n 2, 1) := by decide +kernel
theorem dX6_setLimit_54 : decode cX6_setLimit 54 = .ok (.iastore, 1) := by decide +kernel
theorem dX6_setLimit_55 : decode cX6_setLimit 55 = .ok (.aload_n 0, 1) := by decide +kernel
theorem dX6_setLimit_56 : decode cX6_setLimit 56 = .ok (.iload_n 3, 1) := by decide +kernel
theorem dX6_setLimit_57 : decode cX6_setLimit 57 = .ok (.invokevirtual 71, 3) := by decide +kernel
theorem dX6_setLimit_60 : decode cX6_setLimit 60 = .ok (.ireturn, 1) := by decide +kernel
set_option maxRecDepth 20000 in
theorem ggX6_setting_X6_in : GoodIn wsX6_setting wsX6_in := goodIn_r _ [5] (by decide +kernel) (by decide +kernel)
set_option maxRecDepth 20000 in
theorem gX6_setting_X6_in : GoodIn wsX6_setting (va_wsS RX6 64 yX6_in wsX6_in) := goodIn_app (goodIn_of _ (by decide +kernel)) ggX6_setting_X6_in
set_option maxRecDepth 20000 in
theorem ggX6_setting_X6_done : GoodIn wsX6_setting wsX6_done := goodIn_r _ [9, 10, 15, 16, 17, 18, 19, 20, 21, 22, 23, 24, 25, 26, 27, 28, 29, 30, 31, 32, 33, 34, 35, 36, 37, 38, 39, 40, 41] (by decide +kernel) (by decide +kernel)
set_option maxRecDepth 20000 in
theorem gX6_setting_X6_done : GoodIn wsX6_setting (wsV RX6 71 RX6 yX6_done wsX6_done) := goodIn_app (goodIn_of _ (by decide +kernel)) ggX6_setting_X6_done
set_option maxRecDepth 20000 in
theorem ggX6_setting_X6_fails : GoodIn wsX6_setting wsX6_fails := goodIn_r _ [14, 10, 15, 16, 17, 18, 19, 20, 21, 22, 23, 24, 25, 26, 27, 28, 29, 30, 31, 32, 33, 34, 35, 36, 37, 38, 39, 40, 41] (by decide +kernel) (by decide +kernel)
set_option maxRecDepth 20000 in
theorem gX6_setting_X6_fails : GoodIn wsX6_setting (wsV RX6 45 RX6 yX6_fails wsX6_fails) := goodIn_app (goodIn_of _ (by decide +kernel)) ggX6_setting_X6_fails
theorem dX6_setting_0 : decode cX6_setting 0 = .ok (.iload_n 1, 1) := by decide +kernel
theorem dX6_setting_1 : decode cX6_setting 1 = .ok (.iconst 0, 1) := by decide +kernel
theorem dX6_setting_2 : decode cX6_setting 2 = .ok (.iconst 5, 1) := by decide +kernel
theorem dX6_setting_3 : decode cX6_setting 3 = .ok (.invokestatic 64, 3) := by decide +kernel
theorem dX6_setting_6 : decode cX6_setting 6 = .ok (.ifCond .eq 19, 3) := by decide +kernel
theorem dX6_setting_9 : decode cX6_setting 9 = .ok (.aload_n 0, 1) := by decide +kernel
theorem dX6_setting_10 : decode cX6_setting 10 = .ok (.aload_n 0, 1) := by decide +kernel
theorem dX6_setting_11 : decode cX6_setting 11 = .ok (.getfield 9, 3) := by decide +kernel
theorem dX6_setting_14 : decode cX6_setting 14 = .ok (.bipush 8, 2) := by decide +kernel
theorem dX6_setting_16 : decode cX6_setting 16 = .ok (.iload_n 1, 1) := by decide +kernel
theorem dX6_setting_17 : decode cX6_setting 17 = .ok (.iadd, 1) := by decide +kernel
theorem dX6_setting_18 : decode cX6_setting 18 = .ok (.iaload, 1) := by decide +kernel
theorem dX6_setting_19 : decode cX6_setting 19 = .ok (.invokevirtual 71, 3) := by decide +kernel
theorem dX6_setting_22 : decode cX6_setting 22 = .ok (.goto 38, 3) := by decide +kernel
theorem dX6_setting_25 : decode cX6_setting 25 = .ok (.iload_n 1, 1) := by decide +kernel
theorem dX6_setting_26 : decode cX6_setting 26 = .ok (.bipush 10, 2) := by decide +kernel
theorem dX6_setting_28 : decode cX6_setting 28 = .ok (.bipush 25, 2) := by decide +kernel
theorem dX6_setting_30 : decode cX6_setting 30 = .ok (.invokestatic 64, 3) := by decide +kernel
theorem dX6_setting_33 : decode cX6_setting 33 = .ok (.ifCond .eq 22, 3) := by decide +kernel
theorem dX6_setting_36 : decode cX6_setting 36 = .ok (.aload_n 0, 1) := by decide +kernel
theorem dX6_setting_37 : decode cX6_setting 37 = .ok (.aload_n 0, 1) := by decide +kernel
theorem dX6_setting_38 : decode cX6_setting 38 = .ok (.getfield 9, 3) := by decide +kernel
theorem dX6_setting_41 : decode cX6_setting 41 = .ok (.bipush 14, 2) := by decide +kernel
theorem dX6_setting_43 : decode cX6_setting 43 = .ok (.iload_n 1, 1) := by decide +kernel
theorem dX6_setting_44 : decode cX6_setting 44 = .ok (.iadd, 1) := by decide +kernel
theorem dX6_setting_45 : decode cX6_setting 45 = .ok (.bipush 10, 2) := by decide +kernel
theorem dX6_setting_47 : decode cX6_setting 47 = .ok (.isub, 1) := by decide +kernel
theorem dX6_setting_48 : decode cX6_setting 48 = .ok (.iaload, 1) := by decide +kernel
theorem dX6_setting_49 : decode cX6_setting 49 = .ok (.invokevirtual 71, 3) := by decide +kernel
theorem dX6_setting_52 : decode cX6_setting 52 = .ok (.goto 8, 3) := by decide +kernel
theorem dX6_setting_55 : decode cX6_setting 55 = .ok (.aload_n 0, 1) := by decide +kernel
theorem dX6_setting_56 : decode cX6_setting 56 = .ok (.iconst 1, 1) := by decide +kernel
theorem dX6_setting_57 : decode cX6_setting 57 = .ok (.invokevirtual 45, 3) := by decide +kernel
theorem dX6_setting_60 : decode cX6_setting 60 = .ok (.ireturn, 1) := by decide +kernel
set_option maxRecDepth 20000 in
theorem ggX6_minutesOf_X6_showAt : GoodIn wsX6_minutesOf wsX6_showAt := goodIn_ca (goodIn_r _ [5, 6, 11, 12, 13, 14, 15, 16, 17, 18, 19, 20, 21, 22, 23, 24, 25, 26, 27, 28, 29, 30, 31, 32, 33, 34, 35, 36, 37] (by decide +kernel) (by decide +kernel)) (goodIn_sub (fun _ h => List.mem_cons_of_mem _ (List.mem_append_right _ h)) (by decide +kernel))
set_option maxRecDepth 20000 in
theorem gX6_minutesOf_X6_showAt : GoodIn wsX6_minutesOf (wsV RX6 89 RX6 yX6_showAt wsX6_showAt) := goodIn_app (goodIn_of _ (by decide +kernel)) ggX6_minutesOf_X6_showAt
set_option maxRecDepth 20000 in
theorem ggX6_minutesOf_X6_filmAt : GoodIn wsX6_minutesOf wsX6_filmAt := goodIn_ca (goodIn_r _ [10, 6, 11, 12, 13, 14, 15, 16, 17, 18, 19, 20, 21, 22, 23, 24, 25, 26, 27, 28, 29, 30, 31, 32, 33, 34, 35, 36, 37] (by decide +kernel) (by decide +kernel)) (goodIn_sub (fun _ h => List.mem_cons_of_mem _ (List.mem_append_right _ h)) (by decide +kernel))
set_option maxRecDepth 20000 in
theorem gX6_minutesOf_X6_filmAt : GoodIn wsX6_minutesOf (wsV RX6 81 RX6 yX6_filmAt wsX6_filmAt) := goodIn_app (goodIn_of _ (by decide +kernel)) ggX6_minutesOf_X6_filmAt
theorem dX6_minutesOf_0 : decode cX6_minutesOf 0 = .ok (.aload_n 0, 1) := by decide +kernel
theorem dX6_minutesOf_1 : decode cX6_minutesOf 1 = .ok (.iload_n 1, 1) := by decide +kernel
theorem dX6_minutesOf_2 : decode cX6_minutesOf 2 = .ok (.iconst 5, 1) := by decide +kernel
theorem dX6_minutesOf_3 : decode cX6_minutesOf 3 = .ok (.invokevirtual 89, 3) := by decide +kernel
theorem dX6_minutesOf_6 : decode cX6_minutesOf 6 = .ok (.aload_n 0, 1) := by decide +kernel
theorem dX6_minutesOf_7 : decode cX6_minutesOf 7 = .ok (.aload_n 0, 1) := by decide +kernel
theorem dX6_minutesOf_8 : decode cX6_minutesOf 8 = .ok (.iload_n 1, 1) := by decide +kernel
theorem dX6_minutesOf_9 : decode cX6_minutesOf 9 = .ok (.iconst 1, 1) := by decide +kernel
theorem dX6_minutesOf_10 : decode cX6_minutesOf 10 = .ok (.invokevirtual 89, 3) := by decide +kernel
theorem dX6_minutesOf_13 : decode cX6_minutesOf 13 = .ok (.iconst 0, 1) := by decide +kernel
theorem dX6_minutesOf_14 : decode cX6_minutesOf 14 = .ok (.invokevirtual 81, 3) := by decide +kernel
theorem dX6_minutesOf_17 : decode cX6_minutesOf 17 = .ok (.iadd, 1) := by decide +kernel
theorem dX6_minutesOf_18 : decode cX6_minutesOf 18 = .ok (.ireturn, 1) := by decide +kernel
set_option maxRecDepth 20000 in
theorem ggX6_endOf_X6_showAt : GoodIn wsX6_endOf wsX6_showAt := goodIn_ca (goodIn_r _ [5, 6, 15, 16, 17, 18, 19, 20, 21, 22, 23, 24, 25, 26, 27, 28, 29, 30, 31, 32, 33, 34, 35, 36, 37, 38, 39, 40, 41] (by decide +kernel) (by decide +kernel)) (goodIn_sub (fun _ h => List.mem_cons_of_mem _ (List.mem_append_right _ h)) (by decide +kernel))
set_option maxRecDepth 20000 in
theorem gX6_endOf_X6_showAt : GoodIn wsX6_endOf (wsV RX6 89 RX6 yX6_showAt wsX6_showAt) := goodIn_app (goodIn_of _ (by decide +kernel)) ggX6_endOf_X6_showAt
set_option maxRecDepth 20000 in
theorem ggX6_endOf_X6_minutesOf : GoodIn wsX6_endOf wsX6_minutesOf := goodIn_ca (goodIn_r _ [10, 1, 2, 3, 4, 5, 6, 11, 12, 13, 14, 15, 16, 17, 18, 19, 20, 21, 22, 23, 24, 25, 26, 27, 28, 29, 30, 31, 32, 33, 34, 35, 36, 37, 38, 39, 40, 41] (by decide +kernel) (by decide +kernel)) (goodIn_sub (fun _ h => List.mem_cons_of_mem _ (List.mem_append_right _ h)) (by decide +kernel))
set_option maxRecDepth 20000 in
theorem gX6_endOf_X6_minutesOf : GoodIn wsX6_endOf (wsV RX6 92 RX6 yX6_minutesOf wsX6_minutesOf) := goodIn_app (goodIn_of _ (by decide +kernel)) ggX6_endOf_X6_minutesOf
theorem dX6_endOf_0 : decode cX6_endOf 0 = .ok (.aload_n 0, 1) := by decide +kernel
theorem dX6_endOf_1 : decode cX6_endOf 1 = .ok (.iload_n 1, 1) := by decide +kernel
theorem dX6_endOf_2 : decode cX6_endOf 2 = .ok (.iconst 3, 1) := by decide +kernel
theorem dX6_endOf_3 : decode cX6_endOf 3 = .ok (.invokevirtual 89, 3) := by decide +kernel
theorem dX6_endOf_6 : decode cX6_endOf 6 = .ok (.aload_n 0, 1) := by decide +kernel
theorem dX6_endOf_7 : decode cX6_endOf 7 = .ok (.iload_n 1, 1) := by decide +kernel
theorem dX6_endOf_8 : decode cX6_endOf 8 = .ok (.invokevirtual 92, 3) := by decide +kernel
theorem dX6_endOf_11 : decode cX6_endOf 11 = .ok (.iadd, 1) := by decide +kernel
theorem dX6_endOf_12 : decode cX6_endOf 12 = .ok (.ireturn, 1) := by decide +kernel
set_option maxRecDepth 20000 in
theorem ggX6_cleanOf_X6_showAt : GoodIn wsX6_cleanOf wsX6_showAt := goodIn_ca (goodIn_r _ [5, 6, 11, 12, 13, 14, 15, 16, 17, 18, 19, 20, 21, 22, 23, 24, 25, 26, 27, 28, 29, 30, 31, 32, 33, 34, 35, 36, 37] (by decide +kernel) (by decide +kernel)) (goodIn_sub (fun _ h => List.mem_cons_of_mem _ (List.mem_append_right _ h)) (by decide +kernel))
set_option maxRecDepth 20000 in
theorem gX6_cleanOf_X6_showAt : GoodIn wsX6_cleanOf (wsV RX6 89 RX6 yX6_showAt wsX6_showAt) := goodIn_app (goodIn_of _ (by decide +kernel)) ggX6_cleanOf_X6_showAt
set_option maxRecDepth 20000 in
theorem ggX6_cleanOf_X6_hallAt : GoodIn wsX6_cleanOf wsX6_hallAt := goodIn_ca (goodIn_r _ [10, 6, 11, 12, 13, 14, 15, 16, 17, 18, 19, 20, 21, 22, 23, 24, 25, 26, 27, 28, 29, 30, 31, 32, 33, 34, 35, 36, 37] (by decide +kernel) (by decide +kernel)) (goodIn_sub (fun _ h => List.mem_cons_of_mem _ (List.mem_append_right _ h)) (by decide +kernel))
set_option maxRecDepth 20000 in
theorem gX6_cleanOf_X6_hallAt : GoodIn wsX6_cleanOf (wsV RX6 95 RX6 yX6_hallAt wsX6_hallAt) := goodIn_app (goodIn_of _ (by decide +kernel)) ggX6_cleanOf_X6_hallAt
theorem dX6_cleanOf_0 : decode cX6_cleanOf 0 = .ok (.aload_n 0, 1) := by decide +kernel
theorem dX6_cleanOf_1 : decode cX6_cleanOf 1 = .ok (.aload_n 0, 1) := by decide +kernel
theorem dX6_cleanOf_2 : decode cX6_cleanOf 2 = .ok (.iload_n 1, 1) := by decide +kernel
theorem dX6_cleanOf_3 : decode cX6_cleanOf 3 = .ok (.iconst 0, 1) := by decide +kernel
theorem dX6_cleanOf_4 : decode cX6_cleanOf 4 = .ok (.invokevirtual 89, 3) := by decide +kernel
theorem dX6_cleanOf_7 : decode cX6_cleanOf 7 = .ok (.iconst 1, 1) := by decide +kernel
theorem dX6_cleanOf_8 : decode cX6_cleanOf 8 = .ok (.invokevirtual 95, 3) := by decide +kernel
theorem dX6_cleanOf_11 : decode cX6_cleanOf 11 = .ok (.ireturn, 1) := by decide +kernel
set_option maxRecDepth 20000 in
theorem ggX6_stands_X6_showAt : GoodIn wsX6_stands wsX6_showAt := goodIn_ca (goodIn_r _ [5, 6, 7, 8, 9, 10, 11, 12, 13, 14, 15, 16, 17, 18, 19, 20, 21, 22, 23, 24, 25, 26, 27, 28, 29, 30, 31, 32, 33] (by decide +kernel) (by decide +kernel)) (goodIn_sub (fun _ h => List.mem_cons_of_mem _ (List.mem_append_right _ h)) (by decide +kernel))
set_option maxRecDepth 20000 in
theorem gX6_stands_X6_showAt : GoodIn wsX6_stands (wsV RX6 89 RX6 yX6_showAt wsX6_showAt) := goodIn_app (goodIn_of _ (by decide +kernel)) ggX6_stands_X6_showAt
theorem dX6_stands_0 : decode cX6_stands 0 = .ok (.aload_n 0, 1) := by decide +kernel
theorem dX6_stands_1 : decode cX6_stands 1 = .ok (.iload_n 1, 1) := by decide +kernel
theorem dX6_stands_2 : decode cX6_stands 2 = .ok (.bipush 8, 2) := by decide +kernel
theorem dX6_stands_4 : decode cX6_stands 4 = .ok (.invokevirtual 89, 3) := by decide +kernel
theorem dX6_stands_7 : decode cX6_stands 7 = .ok (.ifCond .ne 7, 3) := by decide +kernel
theorem dX6_stands_10 : decode cX6_stands 10 = .ok (.iconst 1, 1) := by decide +kernel
theorem dX6_stands_11 : decode cX6_stands 11 = .ok (.goto 4, 3) := by decide +kernel
theorem dX6_stands_14 : decode cX6_stands 14 = .ok (.iconst 0, 1) := by decide +kernel
theorem dX6_stands_15 : decode cX6_stands 15 = .ok (.ireturn, 1) := by decide +kernel
set_option maxRecDepth 20000 in
theorem ggX6_isOver_X6_showAt : GoodIn wsX6_isOver wsX6_showAt := goodIn_ca (goodIn_r _ [6, 1, 7, 8, 9, 10, 11, 12, 13, 14, 15, 16, 17, 18, 19, 20, 21, 22, 23, 24, 25, 26, 27, 28, 29, 30, 31, 32, 33] (by decide +kernel) (by decide +kernel)) (goodIn_sub (fun _ h => List.mem_cons_of_mem _ (List.mem_append_right _ h)) (by decide +kernel))
set_option maxRecDepth 20000 in
theorem gX6_isOver_X6_showAt : GoodIn wsX6_isOver (wsV RX6 89 RX6 yX6_showAt wsX6_showAt) := goodIn_app (goodIn_of _ (by decide +kernel)) ggX6_isOver_X6_showAt
theorem dX6_isOver_0 : decode cX6_isOver 0 = .ok (.aload_n 0, 1) := by decide +kernel
theorem dX6_isOver_1 : decode cX6_isOver 1 = .ok (.iload_n 1, 1) := by decide +kernel
theorem dX6_isOver_2 : decode cX6_isOver 2 = .ok (.iconst 2, 1) := by decide +kernel
theorem dX6_isOver_3 : decode cX6_isOver 3 = .ok (.invokevirtual 89, 3) := by decide +kernel
theorem dX6_isOver_6 : decode cX6_isOver 6 = .ok (.aload_n 0, 1) := by decide +kernel
theorem dX6_isOver_7 : decode cX6_isOver 7 = .ok (.getfield 9, 3) := by decide +kernel
theorem dX6_isOver_10 : decode cX6_isOver 10 = .ok (.iconst 0, 1) := by decide +kernel
theorem dX6_isOver_11 : decode cX6_isOver 11 = .ok (.iaload, 1) := by decide +kernel
theorem dX6_isOver_12 : decode cX6_isOver 12 = .ok (.if_icmp .ge 7, 3) := by decide +kernel
theorem dX6_isOver_15 : decode cX6_isOver 15 = .ok (.iconst 1, 1) := by decide +kernel
theorem dX6_isOver_16 : decode cX6_isOver 16 = .ok (.goto 4, 3) := by decide +kernel
theorem dX6_isOver_19 : decode cX6_isOver 19 = .ok (.iconst 0, 1) := by decide +kernel
theorem dX6_isOver_20 : decode cX6_isOver 20 = .ok (.ireturn, 1) := by decide +kernel
set_option maxRecDepth 20000 in
theorem ggX6_shareOn_X6_filmAt : GoodIn wsX6_shareOn wsX6_filmAt := goodIn_ca (goodIn_r _ [5, 6, 7, 8, 9, 10, 11, 12, 13, 14, 15, 16, 17, 18, 19, 20, 21, 22, 23, 24, 25, 26, 27, 28, 29, 30, 31, 32, 33] (by decide +kernel) (by decide +kernel)) (goodIn_sub (fun _ h => List.mem_cons_of_mem _ (List.mem_append_right _ h)) (by decide +kernel))
set_option maxRecDepth 20000 in
theorem gX6_shareOn_X6_filmAt : GoodIn wsX6_shareOn (wsV RX6 81 RX6 yX6_filmAt wsX6_filmAt) := goodIn_app (goodIn_of _ (by decide +kernel)) ggX6_shareOn_X6_filmAt
theorem dX6_shareOn_0 : decode cX6_shareOn 0 = .ok (.aload_n 0, 1) := by decide +kernel
theorem dX6_shareOn_1 : decode cX6_shareOn 1 = .ok (.iload_n 1, 1) := by decide +kernel
theorem dX6_shareOn_2 : decode cX6_shareOn 2 = .ok (.iconst 5, 1) := by decide +kernel
theorem dX6_shareOn_3 : decode cX6_shareOn 3 = .ok (.invokevirtual 81, 3) := by decide +kernel
theorem dX6_shareOn_6 : decode cX6_shareOn 6 = .ok (.aload_n 0, 1) := by decide +kernel
theorem dX6_shareOn_7 : decode cX6_shareOn 7 = .ok (.iload_n 1, 1) := by decide +kernel
theorem dX6_shareOn_8 : decode cX6_shareOn 8 = .ok (.bipush 6, 2) := by decide +kernel
theorem dX6_shareOn_10 : decode cX6_shareOn 10 = .ok (.invokevirtual 81, 3) := by decide +kernel
theorem dX6_shareOn_13 : decode cX6_shareOn 13 = .ok (.iload_n 2, 1) := by decide +kernel
theorem dX6_shareOn_14 : decode cX6_shareOn 14 = .ok (.aload_n 0, 1) := by decide +kernel
theorem dX6_shareOn_15 : decode cX6_shareOn 15 = .ok (.iload_n 1, 1) := by decide +kernel
theorem dX6_shareOn_16 : decode cX6_shareOn 16 = .ok (.iconst 4, 1) := by decide +kernel
theorem dX6_shareOn_17 : decode cX6_shareOn 17 = .ok (.invokevirtual 81, 3) := by decide +kernel
theorem dX6_shareOn_20 : decode cX6_shareOn 20 = .ok (.isub, 1) := by decide +kernel
theorem dX6_shareOn_21 : decode cX6_shareOn 21 = .ok (.bipush 7, 2) := by decide +kernel
theorem dX6_shareOn_23 : decode cX6_shareOn 23 = .ok (.idiv, 1) := by decide +kernel
theorem dX6_shareOn_24 : decode cX6_shareOn 24 = .ok (.imul, 1) := by decide +kernel
theorem dX6_shareOn_25 : decode cX6_shareOn 25 = .ok (.isub, 1) := by decide +kernel
theorem dX6_shareOn_26 : decode cX6_shareOn 26 = .ok (.istore_n 3, 1) := by decide +kernel
theorem dX6_shareOn_27 : decode cX6_shareOn 27 = .ok (.iload_n 3, 1) := by decide +kernel
theorem dX6_shareOn_28 : decode cX6_shareOn 28 = .ok (.aload_n 0, 1) := by decide +kernel
theorem dX6_shareOn_29 : decode cX6_shareOn 29 = .ok (.iload_n 1, 1) := by decide +kernel
theorem dX6_shareOn_30 : decode cX6_shareOn 30 = .ok (.bipush 7, 2) := by decide +kernel
theorem dX6_shareOn_32 : decode cX6_shareOn 32 = .ok (.invokevirtual 81, 3) := by decide +kernel
theorem dX6_shareOn_35 : decode cX6_shareOn 35 = .ok (.if_icmp .ge 13, 3) := by decide +kernel
theorem dX6_shareOn_38 : decode cX6_shareOn 38 = .ok (.aload_n 0, 1) := by decide +kernel
theorem dX6_shareOn_39 : decode cX6_shareOn 39 = .ok (.iload_n 1, 1) := by decide +kernel
theorem dX6_shareOn_40 : decode cX6_shareOn 40 = .ok (.bipush 7, 2) := by decide +kernel
theorem dX6_shareOn_42 : decode cX6_shareOn 42 = .ok (.invokevirtual 81, 3) := by decide +kernel
theorem dX6_shareOn_45 : decode cX6_shareOn 45 = .ok (.goto 4, 3) := by decide +kernel
theorem dX6_shareOn_48 : decode cX6_shareOn 48 = .ok (.iload_n 3, 1) := by decide +kernel
theorem dX6_shareOn_49 : decode cX6_shareOn 49 = .ok (.ireturn, 1) := by decide +kernel
set_option maxRecDepth 20000 in
theorem ggX6_receiptsOf_X6_showAt : GoodIn wsX6_receiptsOf wsX6_showAt := goodIn_ca (goodIn_r _ [5, 6, 7, 8, 9, 10, 11, 12, 13, 14, 15, 16, 17, 18, 19, 20, 21, 22, 23, 24, 25, 26, 27, 28, 29, 30, 31, 32, 33] (by decide +kernel) (by decide +kernel)) (goodIn_sub (fun _ h => List.mem_cons_of_mem _ (List.mem_append_right _ h)) (by decide +kernel))
set_option maxRecDepth 20000 in
theorem gX6_receiptsOf_X6_showAt : GoodIn wsX6_receiptsOf (wsV RX6 89 RX6 yX6_showAt wsX6_showAt) := goodIn_app (goodIn_of _ (by decide +kernel)) ggX6_receiptsOf_X6_showAt
theorem dX6_receiptsOf_0 : decode cX6_receiptsOf 0 = .ok (.aload_n 0, 1) := by decide +kernel
theorem dX6_receiptsOf_1 : decode cX6_receiptsOf 1 = .ok (.iload_n 1, 1) := by decide +kernel
theorem dX6_receiptsOf_2 : decode cX6_receiptsOf 2 = .ok (.bipush 7, 2) := by decide +kernel
theorem dX6_receiptsOf_4 : decode cX6_receiptsOf 4 = .ok (.invokevirtual 89, 3) := by decide +kernel
theorem dX6_receiptsOf_7 : decode cX6_receiptsOf 7 = .ok (.aload_n 0, 1) := by decide +kernel
theorem dX6_receiptsOf_8 : decode cX6_receiptsOf 8 = .ok (.iload_n 1, 1) := by decide +kernel
theorem dX6_receiptsOf_9 : decode cX6_receiptsOf 9 = .ok (.bipush 6, 2) := by decide +kernel
theorem dX6_receiptsOf_11 : decode cX6_receiptsOf 11 = .ok (.invokevirtual 89, 3) := by decide +kernel
theorem dX6_receiptsOf_14 : decode cX6_receiptsOf 14 = .ok (.imul, 1) := by decide +kernel
theorem dX6_receiptsOf_15 : decode cX6_receiptsOf 15 = .ok (.ireturn, 1) := by decide +kernel
set_option maxRecDepth 20000 in
theorem ggX6_partOf_X6_receiptsOf : GoodIn wsX6_partOf wsX6_receiptsOf := goodIn_ca (goodIn_r _ [5, 6, 7, 8, 4, 9, 10, 19, 20, 21, 22, 23, 24, 25, 26, 27, 28, 29, 30, 31, 32, 33, 34, 35, 36, 37, 38, 39, 40, 41, 42, 43, 44, 45] (by decide +kernel) (by decide +kernel)) (goodIn_sub (fun _ h => List.mem_cons_of_mem _ (List.mem_append_right _ h)) (by decide +kernel))
set_option maxRecDepth 20000 in
theorem gX6_partOf_X6_receiptsOf : GoodIn wsX6_partOf (wsV RX6 98 RX6 yX6_receiptsOf wsX6_receiptsOf) := goodIn_app (goodIn_of _ (by decide +kernel)) ggX6_partOf_X6_receiptsOf
set_option maxRecDepth 20000 in
theorem ggX6_partOf_X6_showAt : GoodIn wsX6_partOf wsX6_showAt := goodIn_ca (goodIn_r _ [9, 10, 19, 20, 21, 22, 23, 24, 25, 26, 27, 28, 29, 30, 31, 32, 33, 34, 35, 36, 37, 38, 39, 40, 41, 42, 43, 44, 45] (by decide +kernel) (by decide +kernel)) (goodIn_sub (fun _ h => List.mem_cons_of_mem _ (List.mem_append_right _ h)) (by decide +kernel))
set_option maxRecDepth 20000 in
theorem gX6_partOf_X6_showAt : GoodIn wsX6_partOf (wsV RX6 89 RX6 yX6_showAt wsX6_showAt) := goodIn_app (goodIn_of _ (by decide +kernel)) ggX6_partOf_X6_showAt
set_option maxRecDepth 20000 in
theorem ggX6_partOf_X6_shareOn : GoodIn wsX6_partOf wsX6_shareOn := goodIn_ca (goodIn_r _ [14, 15, 16, 17, 4, 18, 10, 19, 20, 21, 22, 23, 24, 25, 26, 27, 28, 29, 30, 31, 32, 33, 34, 35, 36, 37, 38, 39, 40, 41, 42, 43, 44, 45] (by decide +kernel) (by decide +kernel)) (goodIn_sub (fun _ h => List.mem_cons_of_mem _ (List.mem_append_right _ h)) (by decide +kernel))
set_option maxRecDepth 20000 in
theorem gX6_partOf_X6_shareOn : GoodIn wsX6_partOf (wsV RX6 101 RX6 yX6_shareOn wsX6_shareOn) := goodIn_app (goodIn_of _ (by decide +kernel)) ggX6_partOf_X6_shareOn
theorem dX6_partOf_0 : decode cX6_partOf 0 = .ok (.aload_n 0, 1) := by decide +kernel
theorem dX6_partOf_1 : decode cX6_partOf 1 = .ok (.iload_n 1, 1) := by decide +kernel
theorem dX6_partOf_2 : decode cX6_partOf 2 = .ok (.invokevirtual 98, 3) := by decide +kernel
theorem dX6_partOf_5 : decode cX6_partOf 5 = .ok (.aload_n 0, 1) := by decide +kernel
theorem dX6_partOf_6 : decode cX6_partOf 6 = .ok (.aload_n 0, 1) := by decide +kernel
theorem dX6_partOf_7 : decode cX6_partOf 7 = .ok (.iload_n 1, 1) := by decide +kernel
theorem dX6_partOf_8 : decode cX6_partOf 8 = .ok (.iconst 1, 1) := by decide +kernel
theorem dX6_partOf_9 : decode cX6_partOf 9 = .ok (.invokevirtual 89, 3) := by decide +kernel
theorem dX6_partOf_12 : decode cX6_partOf 12 = .ok (.aload_n 0, 1) := by decide +kernel
theorem dX6_partOf_13 : decode cX6_partOf 13 = .ok (.iload_n 1, 1) := by decide +kernel
theorem dX6_partOf_14 : decode cX6_partOf 14 = .ok (.iconst 2, 1) := by decide +kernel
theorem dX6_partOf_15 : decode cX6_partOf 15 = .ok (.invokevirtual 89, 3) := by decide +kernel
theorem dX6_partOf_18 : decode cX6_partOf 18 = .ok (.invokevirtual 101, 3) := by decide +kernel
theorem dX6_partOf_21 : decode cX6_partOf 21 = .ok (.imul, 1) := by decide +kernel
theorem dX6_partOf_22 : decode cX6_partOf 22 = .ok (.bipush 100, 2) := by decide +kernel
theorem dX6_partOf_24 : decode cX6_partOf 24 = .ok (.idiv, 1) := by decide +kernel
theorem dX6_partOf_25 : decode cX6_partOf 25 = .ok (.ireturn, 1) := by decide +kernel
set_option maxRecDepth 20000 in
theorem ggX6_hall_X6_isHall : GoodIn wsX6_hall wsX6_isHall := goodIn_ca (goodIn_r _ [6, 1, 7, 8, 5, 9, 39, 40, 41, 42, 43, 44, 45, 46, 47, 48, 49, 50, 51, 52, 53, 54, 55, 56, 57, 58, 59, 60, 61, 62, 63, 64, 65] (by decide +kernel) (by decide +kernel)) (goodIn_sub (fun _ h => List.mem_cons_of_mem _ (List.mem_append_right _ h)) (by decide +kernel))
set_option maxRecDepth 20000 in
theorem gX6_hall_X6_isHall : GoodIn wsX6_hall (wsV RX6 104 RX6 yX6_isHall wsX6_isHall) := goodIn_app (goodIn_of _ (by decide +kernel)) ggX6_hall_X6_isHall
set_option maxRecDepth 20000 in
theorem ggX6_hall_X6_fails : GoodIn wsX6_hall wsX6_fails := goodIn_r _ [13, 14, 39, 40, 41, 42, 43, 44, 45, 46, 47, 48, 49, 50, 51, 52, 53, 54, 55, 56, 57, 58, 59, 60, 61, 62, 63, 64, 65] (by decide +kernel) (by decide +kernel)
set_option maxRecDepth 20000 in
theorem gX6_hall_X6_fails : GoodIn wsX6_hall (wsV RX6 45 RX6 yX6_fails wsX6_fails) := goodIn_app (goodIn_of _ (by decide +kernel)) ggX6_hall_X6_fails
set_option maxRecDepth 20000 in
theorem ggX6_hall_X6_in : GoodIn wsX6_hall wsX6_in := goodIn_r _ [9] (by decide +kernel) (by decide +kernel)
set_option maxRecDepth 20000 in
theorem gX6_hall_X6_in : GoodIn wsX6_hall (va_wsS RX6 64 yX6_in wsX6_in) := goodIn_app (goodIn_of _ (by decide +kernel)) ggX6_hall_X6_in
set_option maxRecDepth 20000 in
theorem ggX6_hall_X6_hallAt : GoodIn wsX6_hall wsX6_hallAt := goodIn_ca (goodIn_r _ [18, 1, 39, 40, 41, 42, 43, 44, 45, 46, 47, 48, 49, 50, 51, 52, 53, 54, 55, 56, 57, 58, 59, 60, 61, 62, 63, 64, 65] (by decide +kernel) (by decide +kernel)) (goodIn_sub (fun _ h => List.mem_cons_of_mem _ (List.mem_append_right _ h)) (by decide +kernel))
set_option maxRecDepth 20000 in
theorem gX6_hall_X6_hallAt : GoodIn wsX6_hall (wsV RX6 95 RX6 yX6_hallAt wsX6_hallAt) := goodIn_app (goodIn_of _ (by decide +kernel)) ggX6_hall_X6_hallAt
set_option maxRecDepth 20000 in
theorem ggX6_hall_X6_done : GoodIn wsX6_hall wsX6_done := goodIn_r _ [22, 14, 39, 40, 41, 42, 43, 44, 45, 46, 47, 48, 49, 50, 51, 52, 53, 54, 55, 56, 57, 58, 59, 60, 61, 62, 63, 64, 65] (by decide +kernel) (by decide +kernel)
set_option maxRecDepth 20000 in
theorem gX6_hall_X6_done : GoodIn wsX6_hall (wsV RX6 71 RX6 yX6_done wsX6_done) := goodIn_app (goodIn_of _ (by decide +kernel)) ggX6_hall_X6_done
set_option maxRecDepth 20000 in
theorem ggX6_hall_X6_stands : GoodIn wsX6_hall wsX6_stands := goodIn_ca (goodIn_r _ [26, 27, 28, 29, 5, 30, 1, 39, 40, 41, 42, 43, 44, 45, 46, 47, 48, 49, 50, 51, 52, 53, 54, 55, 56, 57, 58, 59, 60, 61, 62, 63, 64, 65] (by decide +kernel) (by decide +kernel)) (goodIn_sub (fun _ h => List.mem_cons_of_mem _ (List.mem_append_right _ h)) (by decide +kernel))
set_option maxRecDepth 20000 in
theorem gX6_hall_X6_stands : GoodIn wsX6_hall (wsV RX6 107 RX6 yX6_stands wsX6_stands) := goodIn_app (goodIn_of _ (by decide +kernel)) ggX6_hall_X6_stands
set_option maxRecDepth 20000 in
theorem ggX6_hall_X6_showAt : GoodIn wsX6_hall wsX6_showAt := goodIn_ca (goodIn_r _ [30, 1, 39, 40, 41, 42, 43, 44, 45, 46, 47, 48, 49, 50, 51, 52, 53, 54, 55, 56, 57, 58, 59, 60, 61, 62, 63, 64, 65] (by decide +kernel) (by decide +kernel)) (goodIn_sub (fun _ h => List.mem_cons_of_mem _ (List.mem_append_right _ h)) (by decide +kernel))
set_option maxRecDepth 20000 in
theorem gX6_hall_X6_showAt : GoodIn wsX6_hall (wsV RX6 89 RX6 yX6_showAt wsX6_showAt) := goodIn_app (goodIn_of _ (by decide +kernel)) ggX6_hall_X6_showAt
set_option maxRecDepth 20000 in
theorem ggX6_hall_X6_minutesOf : GoodIn wsX6_hall wsX6_minutesOf := goodIn_ca (goodIn_r _ [34, 27, 28, 29, 5, 30, 1, 35, 36, 37, 38, 39, 40, 41, 42, 43, 44, 45, 46, 47, 48, 49, 50, 51, 52, 53, 54, 55, 56, 57, 58, 59, 60, 61, 62, 63, 64, 65] (by decide +kernel) (by decide +kernel)) (goodIn_sub (fun _ h => List.mem_cons_of_mem _ (List.mem_append_right _ h)) (by decide +kernel))
set_option maxRecDepth 20000 in
theorem gX6_hall_X6_minutesOf : GoodIn wsX6_hall (wsV RX6 92 RX6 yX6_minutesOf wsX6_minutesOf) := goodIn_app (goodIn_of _ (by decide +kernel)) ggX6_hall_X6_minutesOf
theorem dX6_hall_0 : decode cX6_hall 0 = .ok (.aload_n 0, 1) := by decide +kernel
theorem dX6_hall_1 : decode cX6_hall 1 = .ok (.iload_n 1, 1) := by decide +kernel
theorem dX6_hall_2 : decode cX6_hall 2 = .ok (.invokevirtual 104, 3) := by decide +kernel
theorem dX6_hall_5 : decode cX6_hall 5 = .ok (.ifCond .ne 9, 3) := by decide +kernel
theorem dX6_hall_8 : decode cX6_hall 8 = .ok (.aload_n 0, 1) := by decide +kernel
theorem dX6_hall_9 : decode cX6_hall 9 = .ok (.iconst 1, 1) := by decide +kernel
theorem dX6_hall_10 : decode cX6_hall 10 = .ok (.invokevirtual 45, 3) := by decide +kernel
theorem dX6_hall_13 : decode cX6_hall 13 = .ok (.ireturn, 1) := by decide +kernel
theorem dX6_hall_14 : decode cX6_hall 14 = .ok (.iload_n 2, 1) := by decide +kernel
theorem dX6_hall_15 : decode cX6_hall 15 = .ok (.iconst 0, 1) := by decide +kernel
theorem dX6_hall_16 : decode cX6_hall 16 = .ok (.bipush 6, 2) := by decide +kernel
theorem dX6_hall_18 : decode cX6_hall 18 = .ok (.invokestatic 64, 3) := by decide +kernel
theorem dX6_hall_21 : decode cX6_hall 21 = .ok (.ifCond .ne 9, 3) := by decide +kernel
theorem dX6_hall_24 : decode cX6_hall 24 = .ok (.aload_n 0, 1) := by decide +kernel
theorem dX6_hall_25 : decode cX6_hall 25 = .ok (.iconst 2, 1) := by decide +kernel
theorem dX6_hall_26 : decode cX6_hall 26 = .ok (.invokevirtual 45, 3) := by decide +kernel
theorem dX6_hall_29 : decode cX6_hall 29 = .ok (.ireturn, 1) := by decide +kernel
theorem dX6_hall_30 : decode cX6_hall 30 = .ok (.iload_n 2, 1) := by decide +kernel
theorem dX6_hall_31 : decode cX6_hall 31 = .ok (.iconst 4, 1) := by decide +kernel
theorem dX6_hall_32 : decode cX6_hall 32 = .ok (.if_icmp .ge 14, 3) := by decide +kernel
theorem dX6_hall_35 : decode cX6_hall 35 = .ok (.aload_n 0, 1) := by decide +kernel
theorem dX6_hall_36 : decode cX6_hall 36 = .ok (.aload_n 0, 1) := by decide +kernel
theorem dX6_hall_37 : decode cX6_hall 37 = .ok (.iload_n 1, 1) := by decide +kernel
theorem dX6_hall_38 : decode cX6_hall 38 = .ok (.iload_n 2, 1) := by decide +kernel
theorem dX6_hall_39 : decode cX6_hall 39 = .ok (.invokevirtual 95, 3) := by decide +kernel
theorem dX6_hall_42 : decode cX6_hall 42 = .ok (.invokevirtual 71, 3) := by decide +kernel
theorem dX6_hall_45 : decode cX6_hall 45 = .ok (.ireturn, 1) := by decide +kernel
theorem dX6_hall_46 : decode cX6_hall 46 = .ok (.iconst 0, 1) := by decide +kernel
theorem dX6_hall_47 : decode cX6_hall 47 = .ok (.istore_n 3, 1) := by decide +kernel
theorem dX6_hall_48 : decode cX6_hall 48 = .ok (.iconst 0, 1) := by decide +kernel
theorem dX6_hall_49 : decode cX6_hall 49 = .ok (.istore 4, 2) := by decide +kernel
theorem dX6_hall_51 : decode cX6_hall 51 = .ok (.iload 4, 2) := by decide +kernel
theorem dX6_hall_53 : decode cX6_hall 53 = .ok (.aload_n 0, 1) := by decide +kernel
theorem dX6_hall_54 : decode cX6_hall 54 = .ok (.getfield 9, 3) := by decide +kernel
theorem dX6_hall_57 : decode cX6_hall 57 = .ok (.iconst 4, 1) := by decide +kernel
theorem dX6_hall_58 : decode cX6_hall 58 = .ok (.iaload, 1) := by decide +kernel
theorem dX6_hall_59 : decode cX6_hall 59 = .ok (.if_icmp .ge 63, 3) := by decide +kernel
theorem dX6_hall_62 : decode cX6_hall 62 = .ok (.aload_n 0, 1) := by decide +kernel
theorem dX6_hall_63 : decode cX6_hall 63 = .ok (.iload 4, 2) := by decide +kernel
theorem dX6_hall_65 : decode cX6_hall 65 = .ok (.invokevirtual 107, 3) := by decide +kernel
theorem dX6_hall_68 : decode cX6_hall 68 = .ok (.ifCond .eq 48, 3) := by decide +kernel
theorem dX6_hall_71 : decode cX6_hall 71 = .ok (.aload_n 0, 1) := by decide +kernel
theorem dX6_hall_72 : decode cX6_hall 72 = .ok (.iload 4, 2) := by decide +kernel
theorem dX6_hall_74 : decode cX6_hall 74 = .ok (.iconst 0, 1) := by decide +kernel
theorem dX6_hall_75 : decode cX6_hall 75 = .ok (.invokevirtual 89, 3) := by decide +kernel
theorem dX6_hall_78 : decode cX6_hall 78 = .ok (.iload_n 1, 1) := by decide +kernel
theorem dX6_hall_79 : decode cX6_hall 79 = .ok (.if_icmp .ne 37, 3) := by decide +kernel
theorem dX6_hall_82 : decode cX6_hall 82 = .ok (.iload_n 3, 1) := by decide +kernel
theorem dX6_hall_83 : decode cX6_hall 83 = .ok (.iload_n 2, 1) := by decide +kernel
theorem dX6_hall_84 : decode cX6_hall 84 = .ok (.iconst 4, 1) := by decide +kernel
theorem dX6_hall_85 : decode cX6_hall 85 = .ok (.if_icmp .ne 7, 3) := by decide +kernel
theorem dX6_hall_88 : decode cX6_hall 88 = .ok (.iconst 1, 1) := by decide +kernel
theorem dX6_hall_89 : decode cX6_hall 89 = .ok (.goto 25, 3) := by decide +kernel
theorem dX6_hall_92 : decode cX6_hall 92 = .ok (.iload_n 2, 1) := by decide +kernel
theorem dX6_hall_93 : decode cX6_hall 93 = .ok (.iconst 5, 1) := by decide +kernel
theorem dX6_hall_94 : decode cX6_hall 94 = .ok (.if_icmp .ne 12, 3) := by decide +kernel
theorem dX6_hall_97 : decode cX6_hall 97 = .ok (.aload_n 0, 1) := by decide +kernel
theorem dX6_hall_98 : decode cX6_hall 98 = .ok (.iload 4, 2) := by decide +kernel
theorem dX6_hall_100 : decode cX6_hall 100 = .ok (.invokevirtual 92, 3) := by decide +kernel
theorem dX6_hall_103 : decode cX6_hall 103 = .ok (.goto 11, 3) := by decide +kernel
theorem dX6_hall_106 : decode cX6_hall 106 = .ok (.aload_n 0, 1) := by decide +kernel
theorem dX6_hall_107 : decode cX6_hall 107 = .ok (.iload 4, 2) := by decide +kernel
theorem dX6_hall_109 : decode cX6_hall 109 = .ok (.bipush 7, 2) := by decide +kernel
theorem dX6_hall_111 : decode cX6_hall 111 = .ok (.invokevirtual 89, 3) := by decide +kernel
theorem dX6_hall_114 : decode cX6_hall 114 = .ok (.iadd, 1) := by decide +kernel
theorem dX6_hall_115 : decode cX6_hall 115 = .ok (.istore_n 3, 1) := by decide +kernel
theorem dX6_hall_116 : decode cX6_hall 116 = .ok (.iinc 4 1, 3) := by decide +kernel
theorem dX6_hall_119 : decode cX6_hall 119 = .ok (.goto (-68), 3) := by decide +kernel
theorem dX6_hall_122 : decode cX6_hall 122 = .ok (.aload_n 0, 1) := by decide +kernel
theorem dX6_hall_123 : decode cX6_hall 123 = .ok (.iload_n 3, 1) := by decide +kernel
theorem dX6_hall_124 : decode cX6_hall 124 = .ok (.invokevirtual 71, 3) := by decide +kernel
theorem dX6_hall_127 : decode cX6_hall 127 = .ok (.ireturn, 1) := by decide +kernel
set_option maxRecDepth 20000 in
theorem ggX6_film_X6_isFilm : GoodIn wsX6_film wsX6_isFilm := goodIn_ca (goodIn_r _ [6, 1, 7, 8, 5, 9, 43, 44, 45, 46, 47, 48, 49, 50, 51, 52, 53, 54, 55, 56, 57, 58, 59, 60, 61, 62, 63, 64, 65, 66, 67, 68, 69] (by decide +kernel) (by decide +kernel)) (goodIn_sub (fun _ h => List.mem_cons_of_mem _ (List.mem_append_right _ h)) (by decide +kernel))
set_option maxRecDepth 20000 in
theorem gX6_film_X6_isFilm : GoodIn wsX6_film (wsV RX6 78 RX6 yX6_isFilm wsX6_isFilm) := goodIn_app (goodIn_of _ (by decide +kernel)) ggX6_film_X6_isFilm
set_option maxRecDepth 20000 in
theorem ggX6_film_X6_fails : GoodIn wsX6_film wsX6_fails := goodIn_r _ [13, 14, 43, 44, 45, 46, 47, 48, 49, 50, 51, 52, 53, 54, 55, 56, 57, 58, 59, 60, 61, 62, 63, 64, 65, 66, 67, 68, 69] (by decide +kernel) (by decide +kernel)
set_option maxRecDepth 20000 in
theorem gX6_film_X6_fails : GoodIn wsX6_film (wsV RX6 45 RX6 yX6_fails wsX6_fails) := goodIn_app (goodIn_of _ (by decide +kernel)) ggX6_film_X6_fails
set_option maxRecDepth 20000 in
theorem ggX6_film_X6_in : GoodIn wsX6_film wsX6_in := goodIn_r _ [9] (by decide +kernel) (by decide +kernel)
set_option maxRecDepth 20000 in
theorem gX6_film_X6_in : GoodIn wsX6_film (va_wsS RX6 64 yX6_in wsX6_in) := goodIn_app (goodIn_of _ (by decide +kernel)) ggX6_film_X6_in
set_option maxRecDepth 20000 in
theorem ggX6_film_X6_filmAt : GoodIn wsX6_film wsX6_filmAt := goodIn_ca (goodIn_r _ [18, 1, 43, 44, 45, 46, 47, 48, 49, 50, 51, 52, 53, 54, 55, 56, 57, 58, 59, 60, 61, 62, 63, 64, 65, 66, 67, 68, 69] (by decide +kernel) (by decide +kernel)) (goodIn_sub (fun _ h => List.mem_cons_of_mem _ (List.mem_append_right _ h)) (by decide +kernel))
set_option maxRecDepth 20000 in
theorem gX6_film_X6_filmAt : GoodIn wsX6_film (wsV RX6 81 RX6 yX6_filmAt wsX6_filmAt) := goodIn_app (goodIn_of _ (by decide +kernel)) ggX6_film_X6_filmAt
set_option maxRecDepth 20000 in
theorem ggX6_film_X6_done : GoodIn wsX6_film wsX6_done := goodIn_r _ [22, 14, 43, 44, 45, 46, 47, 48, 49, 50, 51, 52, 53, 54, 55, 56, 57, 58, 59, 60, 61, 62, 63, 64, 65, 66, 67, 68, 69] (by decide +kernel) (by decide +kernel)
set_option maxRecDepth 20000 in
theorem gX6_film_X6_done : GoodIn wsX6_film (wsV RX6 71 RX6 yX6_done wsX6_done) := goodIn_app (goodIn_of _ (by decide +kernel)) ggX6_film_X6_done
set_option maxRecDepth 20000 in
theorem ggX6_film_X6_stands : GoodIn wsX6_film wsX6_stands := goodIn_ca (goodIn_r _ [26, 27, 28, 29, 5, 30, 1, 43, 44, 45, 46, 47, 48, 49, 50, 51, 52, 53, 54, 55, 56, 57, 58, 59, 60, 61, 62, 63, 64, 65, 66, 67, 68, 69] (by decide +kernel) (by decide +kernel)) (goodIn_sub (fun _ h => List.mem_cons_of_mem _ (List.mem_append_right _ h)) (by decide +kernel))
set_option maxRecDepth 20000 in
theorem gX6_film_X6_stands : GoodIn wsX6_film (wsV RX6 107 RX6 yX6_stands wsX6_stands) := goodIn_app (goodIn_of _ (by decide +kernel)) ggX6_film_X6_stands
set_option maxRecDepth 20000 in
theorem ggX6_film_X6_showAt : GoodIn wsX6_film wsX6_showAt := goodIn_ca (goodIn_r _ [30, 1, 43, 44, 45, 46, 47, 48, 49, 50, 51, 52, 53, 54, 55, 56, 57, 58, 59, 60, 61, 62, 63, 64, 65, 66, 67, 68, 69] (by decide +kernel) (by decide +kernel)) (goodIn_sub (fun _ h => List.mem_cons_of_mem _ (List.mem_append_right _ h)) (by decide +kernel))
set_option maxRecDepth 20000 in
theorem gX6_film_X6_showAt : GoodIn wsX6_film (wsV RX6 89 RX6 yX6_showAt wsX6_showAt) := goodIn_app (goodIn_of _ (by decide +kernel)) ggX6_film_X6_showAt
set_option maxRecDepth 20000 in
theorem ggX6_film_X6_receiptsOf : GoodIn wsX6_film wsX6_receiptsOf := goodIn_ca (goodIn_r _ [34, 27, 28, 29, 5, 30, 1, 43, 44, 45, 46, 47, 48, 49, 50, 51, 52, 53, 54, 55, 56, 57, 58, 59, 60, 61, 62, 63, 64, 65, 66, 67, 68, 69] (by decide +kernel) (by decide +kernel)) (goodIn_sub (fun _ h => List.mem_cons_of_mem _ (List.mem_append_right _ h)) (by decide +kernel))
set_option maxRecDepth 20000 in
theorem gX6_film_X6_receiptsOf : GoodIn wsX6_film (wsV RX6 98 RX6 yX6_receiptsOf wsX6_receiptsOf) := goodIn_app (goodIn_of _ (by decide +kernel)) ggX6_film_X6_receiptsOf
set_option maxRecDepth 20000 in
theorem ggX6_film_X6_partOf : GoodIn wsX6_film wsX6_partOf := goodIn_ca (goodIn_r _ [38, 31, 32, 33, 5, 34, 27, 28, 29, 30, 1, 39, 40, 41, 42, 15, 16, 17, 18, 43, 44, 45, 46, 47, 48, 49, 50, 51, 52, 53, 54, 55, 56, 57, 58, 59, 60, 61, 62, 63, 64, 65, 66, 67, 68, 69] (by decide +kernel) (by decide +kernel)) (goodIn_sub (fun _ h => List.mem_cons_of_mem _ (List.mem_append_right _ h)) (by decide +kernel))
set_option maxRecDepth 20000 in
theorem gX6_film_X6_partOf : GoodIn wsX6_film (wsV RX6 110 RX6 yX6_partOf wsX6_partOf) := goodIn_app (goodIn_of _ (by decide +kernel)) ggX6_film_X6_partOf
theorem dX6_film_0 : decode cX6_film 0 = .ok (.aload_n 0, 1) := by decide +kernel
theorem dX6_film_1 : decode cX6_film 1 = .ok (.iload_n 1, 1) := by decide +kernel
theorem dX6_film_2 : decode cX6_film 2 = .ok (.invokevirtual 78, 3) := by decide +kernel
theorem dX6_film_5 : decode cX6_film 5 = .ok (.ifCond .ne 9, 3) := by decide +kernel
theorem dX6_film_8 : decode cX6_film 8 = .ok (.aload_n 0, 1) := by decide +kernel
theorem dX6_film_9 : decode cX6_film 9 = .ok (.iconst 1, 1) := by decide +kernel
theorem dX6_film_10 : decode cX6_film 10 = .ok (.invokevirtual 45, 3) := by decide +kernel
theorem dX6_film_13 : decode cX6_film 13 = .ok (.ireturn, 1) := by decide +kernel
theorem dX6_film_14 : decode cX6_film 14 = .ok (.iload_n 2, 1) := by decide +kernel
theorem dX6_film_15 : decode cX6_film 15 = .ok (.iconst 0, 1) := by decide +kernel
theorem dX6_film_16 : decode cX6_film 16 = .ok (.bipush 11, 2) := by decide +kernel
theorem dX6_film_18 : decode cX6_film 18 = .ok (.invokestatic 64, 3) := by decide +kernel
theorem dX6_film_21 : decode cX6_film 21 = .ok (.ifCond .ne 9, 3) := by decide +kernel
theorem dX6_film_24 : decode cX6_film 24 = .ok (.aload_n 0, 1) := by decide +kernel
theorem dX6_film_25 : decode cX6_film 25 = .ok (.iconst 2, 1) := by decide +kernel
theorem dX6_film_26 : decode cX6_film 26 = .ok (.invokevirtual 45, 3) := by decide +kernel
theorem dX6_film_29 : decode cX6_film 29 = .ok (.ireturn, 1) := by decide +kernel
theorem dX6_film_30 : decode cX6_film 30 = .ok (.iload_n 2, 1) := by decide +kernel
theorem dX6_film_31 : decode cX6_film 31 = .ok (.iconst 5, 1) := by decide +kernel
theorem dX6_film_32 : decode cX6_film 32 = .ok (.if_icmp .lt 9, 3) := by decide +kernel
theorem dX6_film_35 : decode cX6_film 35 = .ok (.iload_n 2, 1) := by decide +kernel
theorem dX6_film_36 : decode cX6_film 36 = .ok (.bipush 8, 2) := by decide +kernel
theorem dX6_film_38 : decode cX6_film 38 = .ok (.if_icmp .le 28, 3) := by decide +kernel
theorem dX6_film_41 : decode cX6_film 41 = .ok (.aload_n 0, 1) := by decide +kernel
theorem dX6_film_42 : decode cX6_film 42 = .ok (.aload_n 0, 1) := by decide +kernel
theorem dX6_film_43 : decode cX6_film 43 = .ok (.iload_n 1, 1) := by decide +kernel
theorem dX6_film_44 : decode cX6_film 44 = .ok (.iload_n 2, 1) := by decide +kernel
theorem dX6_film_45 : decode cX6_film 45 = .ok (.iconst 5, 1) := by decide +kernel
theorem dX6_film_46 : decode cX6_film 46 = .ok (.if_icmp .ge 7, 3) := by decide +kernel
theorem dX6_film_49 : decode cX6_film 49 = .ok (.iload_n 2, 1) := by decide +kernel
theorem dX6_film_50 : decode cX6_film 50 = .ok (.goto 9, 3) := by decide +kernel
theorem dX6_film_53 : decode cX6_film 53 = .ok (.iconst 5, 1) := by decide +kernel
theorem dX6_film_54 : decode cX6_film 54 = .ok (.iload_n 2, 1) := by decide +kernel
theorem dX6_film_55 : decode cX6_film 55 = .ok (.iadd, 1) := by decide +kernel
theorem dX6_film_56 : decode cX6_film 56 = .ok (.bipush 9, 2) := by decide +kernel
theorem dX6_film_58 : decode cX6_film 58 = .ok (.isub, 1) := by decide +kernel
theorem dX6_film_59 : decode cX6_film 59 = .ok (.invokevirtual 81, 3) := by decide +kernel
theorem dX6_film_62 : decode cX6_film 62 = .ok (.invokevirtual 71, 3) := by decide +kernel
theorem dX6_film_65 : decode cX6_film 65 = .ok (.ireturn, 1) := by decide +kernel
theorem dX6_film_66 : decode cX6_film 66 = .ok (.iconst 0, 1) := by decide +kernel
theorem dX6_film_67 : decode cX6_film 67 = .ok (.istore_n 3, 1) := by decide +kernel
theorem dX6_film_68 : decode cX6_film 68 = .ok (.iconst 0, 1) := by decide +kernel
theorem dX6_film_69 : decode cX6_film 69 = .ok (.istore 4, 2) := by decide +kernel
theorem dX6_film_71 : decode cX6_film 71 = .ok (.iload 4, 2) := by decide +kernel
theorem dX6_film_73 : decode cX6_film 73 = .ok (.aload_n 0, 1) := by decide +kernel
theorem dX6_film_74 : decode cX6_film 74 = .ok (.getfield 9, 3) := by decide +kernel
theorem dX6_film_77 : decode cX6_film 77 = .ok (.iconst 4, 1) := by decide +kernel
theorem dX6_film_78 : decode cX6_film 78 = .ok (.iaload, 1) := by decide +kernel
theorem dX6_film_79 : decode cX6_film 79 = .ok (.if_icmp .ge 79, 3) := by decide +kernel
theorem dX6_film_82 : decode cX6_film 82 = .ok (.aload_n 0, 1) := by decide +kernel
theorem dX6_film_83 : decode cX6_film 83 = .ok (.iload 4, 2) := by decide +kernel
theorem dX6_film_85 : decode cX6_film 85 = .ok (.invokevirtual 107, 3) := by decide +kernel
theorem dX6_film_88 : decode cX6_film 88 = .ok (.ifCond .eq 64, 3) := by decide +kernel
theorem dX6_film_91 : decode cX6_film 91 = .ok (.aload_n 0, 1) := by decide +kernel
theorem dX6_film_92 : decode cX6_film 92 = .ok (.iload 4, 2) := by decide +kernel
theorem dX6_film_94 : decode cX6_film 94 = .ok (.iconst 1, 1) := by decide +kernel
theorem dX6_film_95 : decode cX6_film 95 = .ok (.invokevirtual 89, 3) := by decide +kernel
theorem dX6_film_98 : decode cX6_film 98 = .ok (.iload_n 1, 1) := by decide +kernel
theorem dX6_film_99 : decode cX6_film 99 = .ok (.if_icmp .ne 53, 3) := by decide +kernel
theorem dX6_film_102 : decode cX6_film 102 = .ok (.iload_n 3, 1) := by decide +kernel
theorem dX6_film_103 : decode cX6_film 103 = .ok (.iload_n 2, 1) := by decide +kernel
theorem dX6_film_104 : decode cX6_film 104 = .ok (.iconst 5, 1) := by decide +kernel
theorem dX6_film_105 : decode cX6_film 105 = .ok (.if_icmp .ne 7, 3) := by decide +kernel
theorem dX6_film_108 : decode cX6_film 108 = .ok (.iconst 1, 1) := by decide +kernel
theorem dX6_film_109 : decode cX6_film 109 = .ok (.goto 41, 3) := by decide +kernel
theorem dX6_film_112 : decode cX6_film 112 = .ok (.iload_n 2, 1) := by decide +kernel
theorem dX6_film_113 : decode cX6_film 113 = .ok (.bipush 6, 2) := by decide +kernel
theorem dX6_film_115 : decode cX6_film 115 = .ok (.if_icmp .ne 14, 3) := by decide +kernel
theorem dX6_film_118 : decode cX6_film 118 = .ok (.aload_n 0, 1) := by decide +kernel
theorem dX6_film_119 : decode cX6_film 119 = .ok (.iload 4, 2) := by decide +kernel
theorem dX6_film_121 : decode cX6_film 121 = .ok (.bipush 7, 2) := by decide +kernel
theorem dX6_film_123 : decode cX6_film 123 = .ok (.invokevirtual 89, 3) := by decide +kernel
theorem dX6_film_126 : decode cX6_film 126 = .ok (.goto 24, 3) := by decide +kernel
theorem dX6_film_129 : decode cX6_film 129 = .ok (.iload_n 2, 1) := by decide +kernel
theorem dX6_film_130 : decode cX6_film 130 = .ok (.bipush 7, 2) := by decide +kernel
theorem dX6_film_132 : decode cX6_film 132 = .ok (.if_icmp .ne 12, 3) := by decide +kernel
theorem dX6_film_135 : decode cX6_film 135 = .ok (.aload_n 0, 1) := by decide +kernel
theorem dX6_film_136 : decode cX6_film 136 = .ok (.iload 4, 2) := by decide +kernel
theorem dX6_film_138 : decode cX6_film 138 = .ok (.invokevirtual 98, 3) := by decide +kernel
theorem dX6_film_141 : decode cX6_film 141 = .ok (.goto 9, 3) := by decide +kernel
theorem dX6_film_144 : decode cX6_film 144 = .ok (.aload_n 0, 1) := by decide +kernel
theorem dX6_film_145 : decode cX6_film 145 = .ok (.iload 4, 2) := by decide +kernel
theorem dX6_film_147 : decode cX6_film 147 = .ok (.invokevirtual 110, 3) := by decide +kernel
theorem dX6_film_150 : decode cX6_film 150 = .ok (.iadd, 1) := by decide +kernel
theorem dX6_film_151 : decode cX6_film 151 = .ok (.istore_n 3, 1) := by decide +kernel
theorem dX6_film_152 : decode cX6_film 152 = .ok (.iinc 4 1, 3) := by decide +kernel
theorem dX6_film_155 : decode cX6_film 155 = .ok (.goto (-84), 3) := by decide +kernel
theorem dX6_film_158 : decode cX6_film 158 = .ok (.aload_n 0, 1) := by decide +kernel
theorem dX6_film_159 : decode cX6_film 159 = .ok (.iload_n 3, 1) := by decide +kernel
theorem dX6_film_160 : decode cX6_film 160 = .ok (.invokevirtual 71, 3) := by decide +kernel
theorem dX6_film_163 : decode cX6_film 163 = .ok (.ireturn, 1) := by decide +kernel
set_option maxRecDepth 20000 in
theorem ggX6_share_X6_isFilm : GoodIn wsX6_share wsX6_isFilm := goodIn_ca (goodIn_r _ [5, 6, 7, 8, 4, 9, 30, 31, 32, 33, 34, 35, 36, 37, 38, 39, 40, 41, 42, 43, 44, 45, 46, 47, 48, 49, 50, 51, 52, 53, 54, 55, 56] (by decide +kernel) (by decide +kernel)) (goodIn_sub (fun _ h => List.mem_cons_of_mem _ (List.mem_append_right _ h)) (by decide +kernel))
set_option maxRecDepth 20000 in
theorem gX6_share_X6_isFilm : GoodIn wsX6_share (wsV RX6 78 RX6 yX6_isFilm wsX6_isFilm) := goodIn_app (goodIn_of _ (by decide +kernel)) ggX6_share_X6_isFilm
set_option maxRecDepth 20000 in
theorem ggX6_share_X6_fails : GoodIn wsX6_share wsX6_fails := goodIn_r _ [13, 14, 30, 31, 32, 33, 34, 35, 36, 37, 38, 39, 40, 41, 42, 43, 44, 45, 46, 47, 48, 49, 50, 51, 52, 53, 54, 55, 56] (by decide +kernel) (by decide +kernel)
set_option maxRecDepth 20000 in
theorem gX6_share_X6_fails : GoodIn wsX6_share (wsV RX6 45 RX6 yX6_fails wsX6_fails) := goodIn_app (goodIn_of _ (by decide +kernel)) ggX6_share_X6_fails
set_option maxRecDepth 20000 in
theorem ggX6_share_X6_isDay : GoodIn wsX6_share wsX6_isDay := goodIn_r _ [17, 7, 8, 4, 9] (by decide +kernel) (by decide +kernel)
set_option maxRecDepth 20000 in
theorem gX6_share_X6_isDay : GoodIn wsX6_share (va_wsS RX6 74 yX6_isDay wsX6_isDay) := goodIn_app (goodIn_of _ (by decide +kernel)) ggX6_share_X6_isDay
set_option maxRecDepth 20000 in
theorem ggX6_share_X6_filmAt : GoodIn wsX6_share wsX6_filmAt := goodIn_ca (goodIn_r _ [21, 6, 30, 31, 32, 33, 34, 35, 36, 37, 38, 39, 40, 41, 42, 43, 44, 45, 46, 47, 48, 49, 50, 51, 52, 53, 54, 55, 56] (by decide +kernel) (by decide +kernel)) (goodIn_sub (fun _ h => List.mem_cons_of_mem _ (List.mem_append_right _ h)) (by decide +kernel))
set_option maxRecDepth 20000 in
theorem gX6_share_X6_filmAt : GoodIn wsX6_share (wsV RX6 81 RX6 yX6_filmAt wsX6_filmAt) := goodIn_app (goodIn_of _ (by decide +kernel)) ggX6_share_X6_filmAt
set_option maxRecDepth 20000 in
theorem ggX6_share_X6_shareOn : GoodIn wsX6_share wsX6_shareOn := goodIn_ca (goodIn_r _ [25, 18, 19, 20, 4, 21, 6, 30, 31, 32, 33, 34, 35, 36, 37, 38, 39, 40, 41, 42, 43, 44, 45, 46, 47, 48, 49, 50, 51, 52, 53, 54, 55, 56] (by decide +kernel) (by decide +kernel)) (goodIn_sub (fun _ h => List.mem_cons_of_mem _ (List.mem_append_right _ h)) (by decide +kernel))
set_option maxRecDepth 20000 in
theorem gX6_share_X6_shareOn : GoodIn wsX6_share (wsV RX6 101 RX6 yX6_shareOn wsX6_shareOn) := goodIn_app (goodIn_of _ (by decide +kernel)) ggX6_share_X6_shareOn
set_option maxRecDepth 20000 in
theorem ggX6_share_X6_done : GoodIn wsX6_share wsX6_done := goodIn_r _ [29, 14, 30, 31, 32, 33, 34, 35, 36, 37, 38, 39, 40, 41, 42, 43, 44, 45, 46, 47, 48, 49, 50, 51, 52, 53, 54, 55, 56] (by decide +kernel) (by decide +kernel)
set_option maxRecDepth 20000 in
theorem gX6_share_X6_done : GoodIn wsX6_share (wsV RX6 71 RX6 yX6_done wsX6_done) := goodIn_app (goodIn_of _ (by decide +kernel)) ggX6_share_X6_done
theorem dX6_share_0 : decode cX6_share 0 = .ok (.aload_n 0, 1) := by decide +kernel
theorem dX6_share_1 : decode cX6_share 1 = .ok (.iload_n 1, 1) := by decide +kernel
theorem dX6_share_2 : decode cX6_share 2 = .ok (.invokevirtual 78, 3) := by decide +kernel
theorem dX6_share_5 : decode cX6_share 5 = .ok (.ifCond .ne 9, 3) := by decide +kernel
theorem dX6_share_8 : decode cX6_share 8 = .ok (.aload_n 0, 1) := by decide +kernel
theorem dX6_share_9 : decode cX6_share 9 = .ok (.iconst 1, 1) := by decide +kernel
theorem dX6_share_10 : decode cX6_share 10 = .ok (.invokevirtual 45, 3) := by decide +kernel
theorem dX6_share_13 : decode cX6_share 13 = .ok (.ireturn, 1) := by decide +kernel
theorem dX6_share_14 : decode cX6_share 14 = .ok (.iload_n 2, 1) := by decide +kernel
theorem dX6_share_15 : decode cX6_share 15 = .ok (.invokestatic 74, 3) := by decide +kernel
theorem dX6_share_18 : decode cX6_share 18 = .ok (.ifCond .ne 9, 3) := by decide +kernel
theorem dX6_share_21 : decode cX6_share 21 = .ok (.aload_n 0, 1) := by decide +kernel
theorem dX6_share_22 : decode cX6_share 22 = .ok (.iconst 2, 1) := by decide +kernel
theorem dX6_share_23 : decode cX6_share 23 = .ok (.invokevirtual 45, 3) := by decide +kernel
theorem dX6_share_26 : decode cX6_share 26 = .ok (.ireturn, 1) := by decide +kernel
theorem dX6_share_27 : decode cX6_share 27 = .ok (.iload_n 2, 1) := by decide +kernel
theorem dX6_share_28 : decode cX6_share 28 = .ok (.aload_n 0, 1) := by decide +kernel
theorem dX6_share_29 : decode cX6_share 29 = .ok (.iload_n 1, 1) := by decide +kernel
theorem dX6_share_30 : decode cX6_share 30 = .ok (.iconst 4, 1) := by decide +kernel
theorem dX6_share_31 : decode cX6_share 31 = .ok (.invokevirtual 81, 3) := by decide +kernel
theorem dX6_share_34 : decode cX6_share 34 = .ok (.if_icmp .ge 11, 3) := by decide +kernel
theorem dX6_share_37 : decode cX6_share 37 = .ok (.aload_n 0, 1) := by decide +kernel
theorem dX6_share_38 : decode cX6_share 38 = .ok (.iconst 3, 1) := by decide +kernel
theorem dX6_share_39 : decode cX6_share 39 = .ok (.invokevirtual 45, 3) := by decide +kernel
theorem dX6_share_42 : decode cX6_share 42 = .ok (.goto 13, 3) := by decide +kernel
theorem dX6_share_45 : decode cX6_share 45 = .ok (.aload_n 0, 1) := by decide +kernel
theorem dX6_share_46 : decode cX6_share 46 = .ok (.aload_n 0, 1) := by decide +kernel
theorem dX6_share_47 : decode cX6_share 47 = .ok (.iload_n 1, 1) := by decide +kernel
theorem dX6_share_48 : decode cX6_share 48 = .ok (.iload_n 2, 1) := by decide +kernel
theorem dX6_share_49 : decode cX6_share 49 = .ok (.invokevirtual 101, 3) := by decide +kernel
theorem dX6_share_52 : decode cX6_share 52 = .ok (.invokevirtual 71, 3) := by decide +kernel
theorem dX6_share_55 : decode cX6_share 55 = .ok (.ireturn, 1) := by decide +kernel
set_option maxRecDepth 20000 in
theorem ggX6_trailer_X6_in : GoodIn wsX6_trailer wsX6_in := goodIn_r _ [5] (by decide +kernel) (by decide +kernel)
set_option maxRecDepth 20000 in
theorem gX6_trailer_X6_in : GoodIn wsX6_trailer (va_wsS RX6 64 yX6_in wsX6_in) := goodIn_app (goodIn_of _ (by decide +kernel)) ggX6_trailer_X6_in
set_option maxRecDepth 20000 in
theorem ggX6_trailer_X6_fails : GoodIn wsX6_trailer wsX6_fails := goodIn_r _ [9, 10, 19, 20, 21, 22, 23, 24, 25, 26, 27, 28, 29, 30, 31, 32, 33, 34, 35, 36, 37, 38, 39, 40, 41, 42, 43, 44, 45] (by decide +kernel) (by decide +kernel)
set_option maxRecDepth 20000 in
theorem gX6_trailer_X6_fails : GoodIn wsX6_trailer (wsV RX6 45 RX6 yX6_fails wsX6_fails) := goodIn_app (goodIn_of _ (by decide +kernel)) ggX6_trailer_X6_fails
set_option maxRecDepth 20000 in
theorem ggX6_trailer_X6_trailerAt : GoodIn wsX6_trailer wsX6_trailerAt := goodIn_ca (goodIn_r _ [14, 1, 19, 20, 21, 22, 23, 24, 25, 26, 27, 28, 29, 30, 31, 32, 33, 34, 35, 36, 37, 38, 39, 40, 41, 42, 43, 44, 45] (by decide +kernel) (by decide +kernel)) (goodIn_sub (fun _ h => List.mem_cons_of_mem _ (List.mem_append_right _ h)) (by decide +kernel))
set_option maxRecDepth 20000 in
theorem gX6_trailer_X6_trailerAt : GoodIn wsX6_trailer (wsV RX6 113 RX6 yX6_trailerAt wsX6_trailerAt) := goodIn_app (goodIn_of _ (by decide +kernel)) ggX6_trailer_X6_trailerAt
set_option maxRecDepth 20000 in
theorem ggX6_trailer_X6_done : GoodIn wsX6_trailer wsX6_done := goodIn_r _ [18, 10, 19, 20, 21, 22, 23, 24, 25, 26, 27, 28, 29, 30, 31, 32, 33, 34, 35, 36, 37, 38, 39, 40, 41, 42, 43, 44, 45] (by decide +kernel) (by decide +kernel)
set_option maxRecDepth 20000 in
theorem gX6_trailer_X6_done : GoodIn wsX6_trailer (wsV RX6 71 RX6 yX6_done wsX6_done) := goodIn_app (goodIn_of _ (by decide +kernel)) ggX6_trailer_X6_done
theorem dX6_trailer_0 : decode cX6_trailer 0 = .ok (.iload_n 1, 1) := by decide +kernel
theorem dX6_trailer_1 : decode cX6_trailer 1 = .ok (.iconst 0, 1) := by decide +kernel
theorem dX6_trailer_2 : decode cX6_trailer 2 = .ok (.aload_n 0, 1) := by decide +kernel
theorem dX6_trailer_3 : decode cX6_trailer 3 = .ok (.getfield 9, 3) := by decide +kernel
theorem dX6_trailer_6 : decode cX6_trailer 6 = .ok (.iconst 3, 1) := by decide +kernel
theorem dX6_trailer_7 : decode cX6_trailer 7 = .ok (.iaload, 1) := by decide +kernel
theorem dX6_trailer_8 : decode cX6_trailer 8 = .ok (.iconst 1, 1) := by decide +kernel
theorem dX6_trailer_9 : decode cX6_trailer 9 = .ok (.isub, 1) := by decide +kernel
theorem dX6_trailer_10 : decode cX6_trailer 10 = .ok (.invokestatic 64, 3) := by decide +kernel
theorem dX6_trailer_13 : decode cX6_trailer 13 = .ok (.ifCond .ne 9, 3) := by decide +kernel
theorem dX6_trailer_16 : decode cX6_trailer 16 = .ok (.aload_n 0, 1) := by decide +kernel
theorem dX6_trailer_17 : decode cX6_trailer 17 = .ok (.iconst 1, 1) := by decide +kernel
theorem dX6_trailer_18 : decode cX6_trailer 18 = .ok (.invokevirtual 45, 3) := by decide +kernel
theorem dX6_trailer_21 : decode cX6_trailer 21 = .ok (.ireturn, 1) := by decide +kernel
theorem dX6_trailer_22 : decode cX6_trailer 22 = .ok (.iload_n 2, 1) := by decide +kernel
theorem dX6_trailer_23 : decode cX6_trailer 23 = .ok (.iconst 0, 1) := by decide +kernel
theorem dX6_trailer_24 : decode cX6_trailer 24 = .ok (.iconst 3, 1) := by decide +kernel
theorem dX6_trailer_25 : decode cX6_trailer 25 = .ok (.invokestatic 64, 3) := by decide +kernel
theorem dX6_trailer_28 : decode cX6_trailer 28 = .ok (.ifCond .eq 16, 3) := by decide +kernel
theorem dX6_trailer_31 : decode cX6_trailer 31 = .ok (.aload_n 0, 1) := by decide +kernel
theorem dX6_trailer_32 : decode cX6_trailer 32 = .ok (.aload_n 0, 1) := by decide +kernel
theorem dX6_trailer_33 : decode cX6_trailer 33 = .ok (.iload_n 1, 1) := by decide +kernel
theorem dX6_trailer_34 : decode cX6_trailer 34 = .ok (.iload_n 2, 1) := by decide +kernel
theorem dX6_trailer_35 : decode cX6_trailer 35 = .ok (.invokevirtual 113, 3) := by decide +kernel
theorem dX6_trailer_38 : decode cX6_trailer 38 = .ok (.invokevirtual 71, 3) := by decide +kernel
theorem dX6_trailer_41 : decode cX6_trailer 41 = .ok (.goto 8, 3) := by decide +kernel
theorem dX6_trailer_44 : decode cX6_trailer 44 = .ok (.aload_n 0, 1) := by decide +kernel
theorem dX6_trailer_45 : decode cX6_trailer 45 = .ok (.iconst 2, 1) := by decide +kernel
theorem dX6_trailer_46 : decode cX6_trailer 46 = .ok (.invokevirtual 45, 3) := by decide +kernel
theorem dX6_trailer_49 : decode cX6_trailer 49 = .ok (.ireturn, 1) := by decide +kernel
set_option maxRecDepth 20000 in
theorem ggX6_doesFit_X6_trailerAt : GoodIn wsX6_doesFit wsX6_trailerAt := goodIn_ca (goodIn_r _ [5, 6, 11, 12, 13, 14, 15, 16, 17, 18, 19, 20, 21, 22, 23, 24, 25, 26, 27, 28, 29, 30, 31, 32, 33, 34, 35, 36, 37] (by decide +kernel) (by decide +kernel)) (goodIn_sub (fun _ h => List.mem_cons_of_mem _ (List.mem_append_right _ h)) (by decide +kernel))
set_option maxRecDepth 20000 in
theorem gX6_doesFit_X6_trailerAt : GoodIn wsX6_doesFit (wsV RX6 113 RX6 yX6_trailerAt wsX6_trailerAt) := goodIn_app (goodIn_of _ (by decide +kernel)) ggX6_doesFit_X6_trailerAt
set_option maxRecDepth 20000 in
theorem ggX6_doesFit_X6_filmAt : GoodIn wsX6_doesFit wsX6_filmAt := goodIn_ca (goodIn_r _ [10, 6, 11, 12, 13, 14, 15, 16, 17, 18, 19, 20, 21, 22, 23, 24, 25, 26, 27, 28, 29, 30, 31, 32, 33, 34, 35, 36, 37] (by decide +kernel) (by decide +kernel)) (goodIn_sub (fun _ h => List.mem_cons_of_mem _ (List.mem_append_right _ h)) (by decide +kernel))
set_option maxRecDepth 20000 in
theorem gX6_doesFit_X6_filmAt : GoodIn wsX6_doesFit (wsV RX6 81 RX6 yX6_filmAt wsX6_filmAt) := goodIn_app (goodIn_of _ (by decide +kernel)) ggX6_doesFit_X6_filmAt
theorem dX6_doesFit_0 : decode cX6_doesFit 0 = .ok (.aload_n 0, 1) := by decide +kernel
theorem dX6_doesFit_1 : decode cX6_doesFit 1 = .ok (.iload_n 1, 1) := by decide +kernel
theorem dX6_doesFit_2 : decode cX6_doesFit 2 = .ok (.iconst 0, 1) := by decide +kernel
theorem dX6_doesFit_3 : decode cX6_doesFit 3 = .ok (.invokevirtual 113, 3) := by decide +kernel
theorem dX6_doesFit_6 : decode cX6_doesFit 6 = .ok (.istore 4, 2) := by decide +kernel
theorem dX6_doesFit_8 : decode cX6_doesFit 8 = .ok (.iload 4, 2) := by decide +kernel
theorem dX6_doesFit_10 : decode cX6_doesFit 10 = .ok (.iload_n 2, 1) := by decide +kernel
theorem dX6_doesFit_11 : decode cX6_doesFit 11 = .ok (.if_icmp .eq 49, 3) := by decide +kernel
theorem dX6_doesFit_14 : decode cX6_doesFit 14 = .ok (.aload_n 0, 1) := by decide +kernel
theorem dX6_doesFit_15 : decode cX6_doesFit 15 = .ok (.iload 4, 2) := by decide +kernel
theorem dX6_doesFit_17 : decode cX6_doesFit 17 = .ok (.iconst 4, 1) := by decide +kernel
theorem dX6_doesFit_18 : decode cX6_doesFit 18 = .ok (.invokevirtual 81, 3) := by decide +kernel
theorem dX6_doesFit_21 : decode cX6_doesFit 21 = .ok (.iload_n 3, 1) := by decide +kernel
theorem dX6_doesFit_22 : decode cX6_doesFit 22 = .ok (.if_icmp .le 38, 3) := by decide +kernel
theorem dX6_doesFit_25 : decode cX6_doesFit 25 = .ok (.aload_n 0, 1) := by decide +kernel
theorem dX6_doesFit_26 : decode cX6_doesFit 26 = .ok (.iload_n 1, 1) := by decide +kernel
theorem dX6_doesFit_27 : decode cX6_doesFit 27 = .ok (.iconst 2, 1) := by decide +kernel
theorem dX6_doesFit_28 : decode cX6_doesFit 28 = .ok (.invokevirtual 113, 3) := by decide +kernel
theorem dX6_doesFit_31 : decode cX6_doesFit 31 = .ok (.aload_n 0, 1) := by decide +kernel
theorem dX6_doesFit_32 : decode cX6_doesFit 32 = .ok (.iload_n 2, 1) := by decide +kernel
theorem dX6_doesFit_33 : decode cX6_doesFit 33 = .ok (.iconst 1, 1) := by decide +kernel
theorem dX6_doesFit_34 : decode cX6_doesFit 34 = .ok (.invokevirtual 81, 3) := by decide +kernel
theorem dX6_doesFit_37 : decode cX6_doesFit 37 = .ok (.if_icmp .gt 23, 3) := by decide +kernel
theorem dX6_doesFit_40 : decode cX6_doesFit 40 = .ok (.aload_n 0, 1) := by decide +kernel
theorem dX6_doesFit_41 : decode cX6_doesFit 41 = .ok (.iload_n 1, 1) := by decide +kernel
theorem dX6_doesFit_42 : decode cX6_doesFit 42 = .ok (.iconst 3, 1) := by decide +kernel
theorem dX6_doesFit_43 : decode cX6_doesFit 43 = .ok (.invokevirtual 113, 3) := by decide +kernel
theorem dX6_doesFit_46 : decode cX6_doesFit 46 = .ok (.aload_n 0, 1) := by decide +kernel
theorem dX6_doesFit_47 : decode cX6_doesFit 47 = .ok (.iload_n 2, 1) := by decide +kernel
theorem dX6_doesFit_48 : decode cX6_doesFit 48 = .ok (.iconst 2, 1) := by decide +kernel
theorem dX6_doesFit_49 : decode cX6_doesFit 49 = .ok (.invokevirtual 81, 3) := by decide +kernel
theorem dX6_doesFit_52 : decode cX6_doesFit 52 = .ok (.iand, 1) := by decide +kernel
theorem dX6_doesFit_53 : decode cX6_doesFit 53 = .ok (.ifCond .eq 7, 3) := by decide +kernel
theorem dX6_doesFit_56 : decode cX6_doesFit 56 = .ok (.iconst 1, 1) := by decide +kernel
theorem dX6_doesFit_57 : decode cX6_doesFit 57 = .ok (.goto 4, 3) := by decide +kernel
theorem dX6_doesFit_60 : decode cX6_doesFit 60 = .ok (.iconst 0, 1) := by decide +kernel
theorem dX6_doesFit_61 : decode cX6_doesFit 61 = .ok (.ireturn, 1) := by decide +kernel
set_option maxRecDepth 20000 in
theorem ggX6_fits_X6_in : GoodIn wsX6_fits wsX6_in := goodIn_r _ [6] (by decide +kernel) (by decide +kernel)
set_option maxRecDepth 20000 in
theorem gX6_fits_X6_in : GoodIn wsX6_fits (va_wsS RX6 64 yX6_in wsX6_in) := goodIn_app (goodIn_of _ (by decide +kernel)) ggX6_fits_X6_in
set_option maxRecDepth 20000 in
theorem ggX6_fits_X6_isFilm : GoodIn wsX6_fits wsX6_isFilm := goodIn_ca (goodIn_r _ [10, 1, 3, 4, 5, 6, 30, 31, 32, 33, 34, 35, 36, 37, 38, 39, 40, 41, 42, 43, 44, 45, 46, 47, 48, 49, 50, 51, 52, 53, 54, 55, 56] (by decide +kernel) (by decide +kernel)) (goodIn_sub (fun _ h => List.mem_cons_of_mem _ (List.mem_append_right _ h)) (by decide +kernel))
set_option maxRecDepth 20000 in
theorem gX6_fits_X6_isFilm : GoodIn wsX6_fits (wsV RX6 78 RX6 yX6_isFilm wsX6_isFilm) := goodIn_app (goodIn_of _ (by decide +kernel)) ggX6_fits_X6_isFilm
set_option maxRecDepth 20000 in
theorem ggX6_fits_X6_fails : GoodIn wsX6_fits wsX6_fails := goodIn_r _ [14, 2, 30, 31, 32, 33, 34, 35, 36, 37, 38, 39, 40, 41, 42, 43, 44, 45, 46, 47, 48, 49, 50, 51, 52, 53, 54, 55, 56] (by decide +kernel) (by decide +kernel)
set_option maxRecDepth 20000 in
theorem gX6_fits_X6_fails : GoodIn wsX6_fits (wsV RX6 45 RX6 yX6_fails wsX6_fails) := goodIn_app (goodIn_of _ (by decide +kernel)) ggX6_fits_X6_fails
set_option maxRecDepth 20000 in
theorem ggX6_fits_X6_isDay : GoodIn wsX6_fits wsX6_isDay := goodIn_r _ [17, 3, 4, 5, 6] (by decide +kernel) (by decide +kernel)
set_option maxRecDepth 20000 in
theorem gX6_fits_X6_isDay : GoodIn wsX6_fits (va_wsS RX6 74 yX6_isDay wsX6_isDay) := goodIn_app (goodIn_of _ (by decide +kernel)) ggX6_fits_X6_isDay
set_option maxRecDepth 20000 in
theorem ggX6_fits_X6_doesFit : GoodIn wsX6_fits wsX6_doesFit := goodIn_ca (goodIn_r _ [21, 22, 23, 24, 5, 25, 1, 26, 27, 28, 29, 30, 31, 32, 33, 34, 35, 36, 37, 38, 39, 40, 41, 42, 43, 44, 45, 46, 47, 48, 49, 50, 51, 52, 53, 54, 55, 56] (by decide +kernel) (by decide +kernel)) (goodIn_sub (fun _ h => List.mem_cons_of_mem _ (List.mem_append_right _ h)) (by decide +kernel))
set_option maxRecDepth 20000 in
theorem gX6_fits_X6_doesFit : GoodIn wsX6_fits (wsV RX6 116 RX6 yX6_doesFit wsX6_doesFit) := goodIn_app (goodIn_of _ (by decide +kernel)) ggX6_fits_X6_doesFit
theorem dX6_fits_0 : decode cX6_fits 0 = .ok (.iload_n 1, 1) := by decide +kernel
theorem dX6_fits_1 : decode cX6_fits 1 = .ok (.iconst 0, 1) := by decide +kernel
theorem dX6_fits_2 : decode cX6_fits 2 = .ok (.aload_n 0, 1) := by decide +kernel
theorem dX6_fits_3 : decode cX6_fits 3 = .ok (.getfield 9, 3) := by decide +kernel
theorem dX6_fits_6 : decode cX6_fits 6 = .ok (.iconst 3, 1) := by decide +kernel
